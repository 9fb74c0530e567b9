theorem dX0_init_0 : decode cX0_init 0 = .ok (.aload_n 0, 1) := by decide +kernel
theorem dX0_init_1 : decode cX0_init 1 = .ok (.invokespecial 1, 3) := by decide +kernel
theorem dX0_init_4 : decode cX0_init 4 = .ok (.aload_n 0, 1) := by decide +kernel
theorem dX0_init_5 : decode cX0_init 5 = .ok (.aload_n 1, 1) := by decide +kernel
theorem dX0_init_6 : decode cX0_init 6 = .ok (.putfield 7, 3) := by decide +kernel
theorem dX0_init_9 : decode cX0_init 9 = .ok (.aload_n 0, 1) := by decide +kernel
theorem dX0_init_10 : decode cX0_init 10 = .ok (.aload_n 2, 1) := by decide +kernel
theorem dX0_init_11 : decode cX0_init 11 = .ok (.putfield 13, 3) := by decide +kernel
theorem dX0_init_14 : decode cX0_init 14 = .ok (.return_, 1) := by decide +kernel
theorem dX0_isPointInPolygons_0 : decode cX0_isPointInPolygons 0 = .ok (.iconst 0, 1) := by decide +kernel
theorem dX0_isPointInPolygons_1 : decode cX0_isPointInPolygons 1 = .ok (.istore_n 3, 1) := by decide +kernel
theorem dX0_isPointInPolygons_2 : decode cX0_isPointInPolygons 2 = .ok (.iconst 0, 1) := by decide +kernel
theorem dX0_isPointInPolygons_3 : decode cX0_isPointInPolygons 3 = .ok (.istore 4, 2) := by decide +kernel
theorem dX0_isPointInPolygons_5 : decode cX0_isPointInPolygons 5 = .ok (.iload 4, 2) := by decide +kernel
theorem dX0_isPointInPolygons_7 : decode cX0_isPointInPolygons 7 = .ok (.aload_n 0, 1) := by decide +kernel
theorem dX0_isPointInPolygons_8 : decode cX0_isPointInPolygons 8 = .ok (.getfield 13, 3) := by decide +kernel
theorem dX0_isPointInPolygons_11 : decode cX0_isPointInPolygons 11 = .ok (.getfield 17, 3) := by decide +kernel
theorem dX0_isPointInPolygons_14 : decode cX0_isPointInPolygons 14 = .ok (.if_icmp .ge 33, 3) := by decide +kernel
theorem dX0_isPointInPolygons_17 : decode cX0_isPointInPolygons 17 = .ok (.aload_n 0, 1) := by decide +kernel
theorem dX0_isPointInPolygons_18 : decode cX0_isPointInPolygons 18 = .ok (.getfield 13, 3) := by decide +kernel
theorem dX0_isPointInPolygons_21 : decode cX0_isPointInPolygons 21 = .ok (.iload 4, 2) := by decide +kernel
theorem dX0_isPointInPolygons_23 : decode cX0_isPointInPolygons 23 = .ok (.iload_n 1, 1) := by decide +kernel
theorem dX0_isPointInPolygons_24 : decode cX0_isPointInPolygons 24 = .ok (.iload_n 2, 1) := by decide +kernel
theorem dX0_isPointInPolygons_25 : decode cX0_isPointInPolygons 25 = .ok (.invokevirtual 23, 3) := by decide +kernel
theorem dX0_isPointInPolygons_28 : decode cX0_isPointInPolygons 28 = .ok (.ifCond .eq 13, 3) := by decide +kernel
theorem dX0_isPointInPolygons_31 : decode cX0_isPointInPolygons 31 = .ok (.iload_n 3, 1) := by decide +kernel
theorem dX0_isPointInPolygons_32 : decode cX0_isPointInPolygons 32 = .ok (.ifCond .ne 7, 3) := by decide +kernel
theorem dX0_isPointInPolygons_35 : decode cX0_isPointInPolygons 35 = .ok (.iconst 1, 1) := by decide +kernel
theorem dX0_isPointInPolygons_36 : decode cX0_isPointInPolygons 36 = .ok (.goto 4, 3) := by decide +kernel
theorem dX0_isPointInPolygons_39 : decode cX0_isPointInPolygons 39 = .ok (.iconst 0, 1) := by decide +kernel
theorem dX0_isPointInPolygons_40 : decode cX0_isPointInPolygons 40 = .ok (.istore_n 3, 1) := by decide +kernel
theorem dX0_isPointInPolygons_41 : decode cX0_isPointInPolygons 41 = .ok (.iinc 4 1, 3) := by decide +kernel
theorem dX0_isPointInPolygons_44 : decode cX0_isPointInPolygons 44 = .ok (.goto (-39), 3) := by decide +kernel
theorem dX0_isPointInPolygons_47 : decode cX0_isPointInPolygons 47 = .ok (.iload_n 3, 1) := by decide +kernel
theorem dX0_isPointInPolygons_48 : decode cX0_isPointInPolygons 48 = .ok (.ireturn, 1) := by decide +kernel
theorem dX0_misfitCount_0 : decode cX0_misfitCount 0 = .ok (.iconst 0, 1) := by decide +kernel
theorem dX0_misfitCount_1 : decode cX0_misfitCount 1 = .ok (.istore_n 1, 1) := by decide +kernel
theorem dX0_misfitCount_2 : decode cX0_misfitCount 2 = .ok (.iconst 0, 1) := by decide +kernel
theorem dX0_misfitCount_3 : decode cX0_misfitCount 3 = .ok (.istore_n 2, 1) := by decide +kernel
theorem dX0_misfitCount_4 : decode cX0_misfitCount 4 = .ok (.iload_n 2, 1) := by decide +kernel
theorem dX0_misfitCount_5 : decode cX0_misfitCount 5 = .ok (.aload_n 0, 1) := by decide +kernel
theorem dX0_misfitCount_6 : decode cX0_misfitCount 6 = .ok (.getfield 7, 3) := by decide +kernel
theorem dX0_misfitCount_9 : decode cX0_misfitCount 9 = .ok (.getfield 27, 3) := by decide +kernel
theorem dX0_misfitCount_12 : decode cX0_misfitCount 12 = .ok (.if_icmp .ge 81, 3) := by decide +kernel
theorem dX0_misfitCount_15 : decode cX0_misfitCount 15 = .ok (.iconst 0, 1) := by decide +kernel
theorem dX0_misfitCount_16 : decode cX0_misfitCount 16 = .ok (.istore_n 3, 1) := by decide +kernel
theorem dX0_misfitCount_17 : decode cX0_misfitCount 17 = .ok (.iload_n 3, 1) := by decide +kernel
theorem dX0_misfitCount_18 : decode cX0_misfitCount 18 = .ok (.aload_n 0, 1) := by decide +kernel
theorem dX0_misfitCount_19 : decode cX0_misfitCount 19 = .ok (.getfield 7, 3) := by decide +kernel
theorem dX0_misfitCount_22 : decode cX0_misfitCount 22 = .ok (.getfield 32, 3) := by decide +kernel
theorem dX0_misfitCount_25 : decode cX0_misfitCount 25 = .ok (.if_icmp .ge 62, 3) := by decide +kernel
theorem dX0_misfitCount_28 : decode cX0_misfitCount 28 = .ok (.aload_n 0, 1) := by decide +kernel
theorem dX0_misfitCount_29 : decode cX0_misfitCount 29 = .ok (.getfield 7, 3) := by decide +kernel
theorem dX0_misfitCount_32 : decode cX0_misfitCount 32 = .ok (.iload_n 3, 1) := by decide +kernel
theorem dX0_misfitCount_33 : decode cX0_misfitCount 33 = .ok (.iload_n 2, 1) := by decide +kernel
theorem dX0_misfitCount_34 : decode cX0_misfitCount 34 = .ok (.invokevirtual 35, 3) := by decide +kernel
theorem dX0_misfitCount_37 : decode cX0_misfitCount 37 = .ok (.aload_n 0, 1) := by decide +kernel
theorem dX0_misfitCount_38 : decode cX0_misfitCount 38 = .ok (.getfield 13, 3) := by decide +kernel
theorem dX0_misfitCount_41 : decode cX0_misfitCount 41 = .ok (.getfield 39, 3) := by decide +kernel
theorem dX0_misfitCount_44 : decode cX0_misfitCount 44 = .ok (.if_icmp .lt 7, 3) := by decide +kernel
theorem dX0_misfitCount_47 : decode cX0_misfitCount 47 = .ok (.iconst 1, 1) := by decide +kernel
theorem dX0_misfitCount_48 : decode cX0_misfitCount 48 = .ok (.goto 4, 3) := by decide +kernel
theorem dX0_misfitCount_51 : decode cX0_misfitCount 51 = .ok (.iconst 0, 1) := by decide +kernel
theorem dX0_misfitCount_52 : decode cX0_misfitCount 52 = .ok (.istore 4, 2) := by decide +kernel
theorem dX0_misfitCount_54 : decode cX0_misfitCount 54 = .ok (.iload_n 1, 1) := by decide +kernel
theorem dX0_misfitCount_55 : decode cX0_misfitCount 55 = .ok (.iload 4, 2) := by decide +kernel
theorem dX0_misfitCount_57 : decode cX0_misfitCount 57 = .ok (.aload_n 0, 1) := by decide +kernel
theorem dX0_misfitCount_58 : decode cX0_misfitCount 58 = .ok (.iconst 2, 1) := by decide +kernel
theorem dX0_misfitCount_59 : decode cX0_misfitCount 59 = .ok (.iload_n 3, 1) := by decide +kernel
theorem dX0_misfitCount_60 : decode cX0_misfitCount 60 = .ok (.imul, 1) := by decide +kernel
theorem dX0_misfitCount_61 : decode cX0_misfitCount 61 = .ok (.iconst 1, 1) := by decide +kernel
theorem dX0_misfitCount_62 : decode cX0_misfitCount 62 = .ok (.iadd, 1) := by decide +kernel
theorem dX0_misfitCount_63 : decode cX0_misfitCount 63 = .ok (.iconst 2, 1) := by decide +kernel
theorem dX0_misfitCount_64 : decode cX0_misfitCount 64 = .ok (.iload_n 2, 1) := by decide +kernel
theorem dX0_misfitCount_65 : decode cX0_misfitCount 65 = .ok (.imul, 1) := by decide +kernel
theorem dX0_misfitCount_66 : decode cX0_misfitCount 66 = .ok (.iconst 1, 1) := by decide +kernel
theorem dX0_misfitCount_67 : decode cX0_misfitCount 67 = .ok (.iadd, 1) := by decide +kernel
theorem dX0_misfitCount_68 : decode cX0_misfitCount 68 = .ok (.invokevirtual 42, 3) := by decide +kernel
theorem dX0_misfitCount_71 : decode cX0_misfitCount 71 = .ok (.if_icmp .eq 7, 3) := by decide +kernel
theorem dX0_misfitCount_74 : decode cX0_misfitCount 74 = .ok (.iconst 1, 1) := by decide +kernel
theorem dX0_misfitCount_75 : decode cX0_misfitCount 75 = .ok (.goto 4, 3) := by decide +kernel
theorem dX0_misfitCount_78 : decode cX0_misfitCount 78 = .ok (.iconst 0, 1) := by decide +kernel
theorem dX0_misfitCount_79 : decode cX0_misfitCount 79 = .ok (.iadd, 1) := by decide +kernel
theorem dX0_misfitCount_80 : decode cX0_misfitCount 80 = .ok (.istore_n 1, 1) := by decide +kernel
theorem dX0_misfitCount_81 : decode cX0_misfitCount 81 = .ok (.iinc 3 1, 3) := by decide +kernel
theorem dX0_misfitCount_84 : decode cX0_misfitCount 84 = .ok (.goto (-67), 3) := by decide +kernel
theorem dX0_misfitCount_87 : decode cX0_misfitCount 87 = .ok (.iinc 2 1, 3) := by decide +kernel
theorem dX0_misfitCount_90 : decode cX0_misfitCount 90 = .ok (.goto (-86), 3) := by decide +kernel
theorem dX0_misfitCount_93 : decode cX0_misfitCount 93 = .ok (.iload_n 1, 1) := by decide +kernel
theorem dX0_misfitCount_94 : decode cX0_misfitCount 94 = .ok (.ireturn, 1) := by decide +kernel
theorem dX0_findFarthest_0 : decode cX0_findFarthest 0 = .ok (.aload_n 0, 1) := by decide +kernel
theorem dX0_findFarthest_1 : decode cX0_findFarthest 1 = .ok (.iconst 0, 1) := by decide +kernel
theorem dX0_findFarthest_2 : decode cX0_findFarthest 2 = .ok (.putfield 46, 3) := by decide +kernel
theorem dX0_findFarthest_5 : decode cX0_findFarthest 5 = .ok (.aload_n 0, 1) := by decide +kernel
theorem dX0_findFarthest_6 : decode cX0_findFarthest 6 = .ok (.iconst 1, 1) := by decide +kernel
theorem dX0_findFarthest_7 : decode cX0_findFarthest 7 = .ok (.putfield 49, 3) := by decide +kernel
theorem dX0_findFarthest_10 : decode cX0_findFarthest 10 = .ok (.aload_n 0, 1) := by decide +kernel
theorem dX0_findFarthest_11 : decode cX0_findFarthest 11 = .ok (.getfield 13, 3) := by decide +kernel
theorem dX0_findFarthest_14 : decode cX0_findFarthest 14 = .ok (.getfield 52, 3) := by decide +kernel
theorem dX0_findFarthest_17 : decode cX0_findFarthest 17 = .ok (.iload_n 1, 1) := by decide +kernel
theorem dX0_findFarthest_18 : decode cX0_findFarthest 18 = .ok (.iaload, 1) := by decide +kernel
theorem dX0_findFarthest_19 : decode cX0_findFarthest 19 = .ok (.istore_n 2, 1) := by decide +kernel
theorem dX0_findFarthest_20 : decode cX0_findFarthest 20 = .ok (.iload_n 2, 1) := by decide +kernel
theorem dX0_findFarthest_21 : decode cX0_findFarthest 21 = .ok (.aload_n 0, 1) := by decide +kernel
theorem dX0_findFarthest_22 : decode cX0_findFarthest 22 = .ok (.getfield 13, 3) := by decide +kernel
theorem dX0_findFarthest_25 : decode cX0_findFarthest 25 = .ok (.getfield 52, 3) := by decide +kernel
theorem dX0_findFarthest_28 : decode cX0_findFarthest 28 = .ok (.iload_n 1, 1) := by decide +kernel
theorem dX0_findFarthest_29 : decode cX0_findFarthest 29 = .ok (.iconst 1, 1) := by decide +kernel
theorem dX0_findFarthest_30 : decode cX0_findFarthest 30 = .ok (.iadd, 1) := by decide +kernel
theorem dX0_findFarthest_31 : decode cX0_findFarthest 31 = .ok (.iaload, 1) := by decide +kernel
theorem dX0_findFarthest_32 : decode cX0_findFarthest 32 = .ok (.if_icmp .ge 42, 3) := by decide +kernel
theorem dX0_findFarthest_35 : decode cX0_findFarthest 35 = .ok (.aload_n 0, 1) := by decide +kernel
theorem dX0_findFarthest_36 : decode cX0_findFarthest 36 = .ok (.getfield 13, 3) := by decide +kernel
theorem dX0_findFarthest_39 : decode cX0_findFarthest 39 = .ok (.getfield 56, 3) := by decide +kernel
theorem dX0_findFarthest_42 : decode cX0_findFarthest 42 = .ok (.iload_n 2, 1) := by decide +kernel
theorem dX0_findFarthest_43 : decode cX0_findFarthest 43 = .ok (.baload, 1) := by decide +kernel
theorem dX0_findFarthest_44 : decode cX0_findFarthest 44 = .ok (.ifCond .ne 24, 3) := by decide +kernel
theorem dX0_findFarthest_47 : decode cX0_findFarthest 47 = .ok (.aload_n 0, 1) := by decide +kernel
theorem dX0_findFarthest_48 : decode cX0_findFarthest 48 = .ok (.iload_n 2, 1) := by decide +kernel
theorem dX0_findFarthest_49 : decode cX0_findFarthest 49 = .ok (.aload_n 0, 1) := by decide +kernel
theorem dX0_findFarthest_50 : decode cX0_findFarthest 50 = .ok (.getfield 13, 3) := by decide +kernel
theorem dX0_findFarthest_53 : decode cX0_findFarthest 53 = .ok (.iload_n 2, 1) := by decide +kernel
theorem dX0_findFarthest_54 : decode cX0_findFarthest 54 = .ok (.invokevirtual 60, 3) := by decide +kernel
theorem dX0_findFarthest_57 : decode cX0_findFarthest 57 = .ok (.aload_n 0, 1) := by decide +kernel
theorem dX0_findFarthest_58 : decode cX0_findFarthest 58 = .ok (.getfield 13, 3) := by decide +kernel
theorem dX0_findFarthest_61 : decode cX0_findFarthest 61 = .ok (.iload_n 2, 1) := by decide +kernel
theorem dX0_findFarthest_62 : decode cX0_findFarthest 62 = .ok (.invokevirtual 64, 3) := by decide +kernel
theorem dX0_findFarthest_65 : decode cX0_findFarthest 65 = .ok (.invokevirtual 67, 3) := by decide +kernel
theorem dX0_findFarthest_68 : decode cX0_findFarthest 68 = .ok (.iinc 2 1, 3) := by decide +kernel
theorem dX0_findFarthest_71 : decode cX0_findFarthest 71 = .ok (.goto (-51), 3) := by decide +kernel
theorem dX0_findFarthest_74 : decode cX0_findFarthest 74 = .ok (.aload_n 0, 1) := by decide +kernel
theorem dX0_findFarthest_75 : decode cX0_findFarthest 75 = .ok (.getfield 46, 3) := by decide +kernel
theorem dX0_findFarthest_78 : decode cX0_findFarthest 78 = .ok (.aload_n 0, 1) := by decide +kernel
theorem dX0_findFarthest_79 : decode cX0_findFarthest 79 = .ok (.getfield 49, 3) := by decide +kernel
theorem dX0_findFarthest_82 : decode cX0_findFarthest 82 = .ok (.invokestatic 71, 3) := by decide +kernel
theorem dX0_findFarthest_85 : decode cX0_findFarthest 85 = .ok (.istore_n 2, 1) := by decide +kernel
theorem dX0_findFarthest_86 : decode cX0_findFarthest 86 = .ok (.iload_n 2, 1) := by decide +kernel
theorem dX0_findFarthest_87 : decode cX0_findFarthest 87 = .ok (.ifCond .le 23, 3) := by decide +kernel
theorem dX0_findFarthest_90 : decode cX0_findFarthest 90 = .ok (.aload_n 0, 1) := by decide +kernel
theorem dX0_findFarthest_91 : decode cX0_findFarthest 91 = .ok (.aload_n 0, 1) := by decide +kernel
theorem dX0_findFarthest_92 : decode cX0_findFarthest 92 = .ok (.getfield 46, 3) := by decide +kernel
theorem dX0_findFarthest_95 : decode cX0_findFarthest 95 = .ok (.iload_n 2, 1) := by decide +kernel
theorem dX0_findFarthest_96 : decode cX0_findFarthest 96 = .ok (.idiv, 1) := by decide +kernel
theorem dX0_findFarthest_97 : decode cX0_findFarthest 97 = .ok (.putfield 46, 3) := by decide +kernel
theorem dX0_findFarthest_100 : decode cX0_findFarthest 100 = .ok (.aload_n 0, 1) := by decide +kernel
theorem dX0_findFarthest_101 : decode cX0_findFarthest 101 = .ok (.aload_n 0, 1) := by decide +kernel
theorem dX0_findFarthest_102 : decode cX0_findFarthest 102 = .ok (.getfield 49, 3) := by decide +kernel
theorem dX0_findFarthest_105 : decode cX0_findFarthest 105 = .ok (.iload_n 2, 1) := by decide +kernel
theorem dX0_findFarthest_106 : decode cX0_findFarthest 106 = .ok (.idiv, 1) := by decide +kernel
theorem dX0_findFarthest_107 : decode cX0_findFarthest 107 = .ok (.putfield 49, 3) := by decide +kernel
theorem dX0_findFarthest_110 : decode cX0_findFarthest 110 = .ok (.return_, 1) := by decide +kernel
theorem dX0_measure_0 : decode cX0_measure 0 = .ok (.aload_n 0, 1) := by decide +kernel
theorem dX0_measure_1 : decode cX0_measure 1 = .ok (.getfield 13, 3) := by decide +kernel
theorem dX0_measure_4 : decode cX0_measure 4 = .ok (.getfield 74, 3) := by decide +kernel
theorem dX0_measure_7 : decode cX0_measure 7 = .ok (.iload_n 3, 1) := by decide +kernel
theorem dX0_measure_8 : decode cX0_measure 8 = .ok (.iaload, 1) := by decide +kernel
theorem dX0_measure_9 : decode cX0_measure 9 = .ok (.aload_n 0, 1) := by decide +kernel
theorem dX0_measure_10 : decode cX0_measure 10 = .ok (.getfield 13, 3) := by decide +kernel
theorem dX0_measure_13 : decode cX0_measure 13 = .ok (.getfield 74, 3) := by decide +kernel
theorem dX0_measure_16 : decode cX0_measure 16 = .ok (.iload_n 2, 1) := by decide +kernel
theorem dX0_measure_17 : decode cX0_measure 17 = .ok (.iaload, 1) := by decide +kernel
theorem dX0_measure_18 : decode cX0_measure 18 = .ok (.isub, 1) := by decide +kernel
theorem dX0_measure_19 : decode cX0_measure 19 = .ok (.istore 4, 2) := by decide +kernel
theorem dX0_measure_21 : decode cX0_measure 21 = .ok (.aload_n 0, 1) := by decide +kernel
theorem dX0_measure_22 : decode cX0_measure 22 = .ok (.getfield 13, 3) := by decide +kernel
theorem dX0_measure_25 : decode cX0_measure 25 = .ok (.getfield 77, 3) := by decide +kernel
theorem dX0_measure_28 : decode cX0_measure 28 = .ok (.iload_n 3, 1) := by decide +kernel
theorem dX0_measure_29 : decode cX0_measure 29 = .ok (.iaload, 1) := by decide +kernel
theorem dX0_measure_30 : decode cX0_measure 30 = .ok (.aload_n 0, 1) := by decide +kernel
theorem dX0_measure_31 : decode cX0_measure 31 = .ok (.getfield 13, 3) := by decide +kernel
theorem dX0_measure_34 : decode cX0_measure 34 = .ok (.getfield 77, 3) := by decide +kernel
theorem dX0_measure_37 : decode cX0_measure 37 = .ok (.iload_n 2, 1) := by decide +kernel
theorem dX0_measure_38 : decode cX0_measure 38 = .ok (.iaload, 1) := by decide +kernel
theorem dX0_measure_39 : decode cX0_measure 39 = .ok (.isub, 1) := by decide +kernel
theorem dX0_measure_40 : decode cX0_measure 40 = .ok (.istore 5, 2) := by decide +kernel
theorem dX0_measure_42 : decode cX0_measure 42 = .ok (.aload_n 0, 1) := by decide +kernel
theorem dX0_measure_43 : decode cX0_measure 43 = .ok (.getfield 13, 3) := by decide +kernel
theorem dX0_measure_46 : decode cX0_measure 46 = .ok (.getfield 74, 3) := by decide +kernel
theorem dX0_measure_49 : decode cX0_measure 49 = .ok (.iload_n 1, 1) := by decide +kernel
theorem dX0_measure_50 : decode cX0_measure 50 = .ok (.iaload, 1) := by decide +kernel
theorem dX0_measure_51 : decode cX0_measure 51 = .ok (.aload_n 0, 1) := by decide +kernel
theorem dX0_measure_52 : decode cX0_measure 52 = .ok (.getfield 13, 3) := by decide +kernel
theorem dX0_measure_55 : decode cX0_measure 55 = .ok (.getfield 74, 3) := by decide +kernel
theorem dX0_measure_58 : decode cX0_measure 58 = .ok (.iload_n 2, 1) := by decide +kernel
theorem dX0_measure_59 : decode cX0_measure 59 = .ok (.iaload, 1) := by decide +kernel
theorem dX0_measure_60 : decode cX0_measure 60 = .ok (.isub, 1) := by decide +kernel
theorem dX0_measure_61 : decode cX0_measure 61 = .ok (.istore 6, 2) := by decide +kernel
theorem dX0_measure_63 : decode cX0_measure 63 = .ok (.aload_n 0, 1) := by decide +kernel
theorem dX0_measure_64 : decode cX0_measure 64 = .ok (.getfield 13, 3) := by decide +kernel
theorem dX0_measure_67 : decode cX0_measure 67 = .ok (.getfield 77, 3) := by decide +kernel
theorem dX0_measure_70 : decode cX0_measure 70 = .ok (.iload_n 1, 1) := by decide +kernel
theorem dX0_measure_71 : decode cX0_measure 71 = .ok (.iaload, 1) := by decide +kernel
theorem dX0_measure_72 : decode cX0_measure 72 = .ok (.aload_n 0, 1) := by decide +kernel
theorem dX0_measure_73 : decode cX0_measure 73 = .ok (.getfield 13, 3) := by decide +kernel
theorem dX0_measure_76 : decode cX0_measure 76 = .ok (.getfield 77, 3) := by decide +kernel
theorem dX0_measure_79 : decode cX0_measure 79 = .ok (.iload_n 2, 1) := by decide +kernel
theorem dX0_measure_80 : decode cX0_measure 80 = .ok (.iaload, 1) := by decide +kernel
theorem dX0_measure_81 : decode cX0_measure 81 = .ok (.isub, 1) := by decide +kernel
theorem dX0_measure_82 : decode cX0_measure 82 = .ok (.istore 7, 2) := by decide +kernel
theorem dX0_measure_84 : decode cX0_measure 84 = .ok (.iload 6, 2) := by decide +kernel
theorem dX0_measure_86 : decode cX0_measure 86 = .ok (.iload 4, 2) := by decide +kernel
theorem dX0_measure_88 : decode cX0_measure 88 = .ok (.imul, 1) := by decide +kernel
theorem dX0_measure_89 : decode cX0_measure 89 = .ok (.iload 7, 2) := by decide +kernel
theorem dX0_measure_91 : decode cX0_measure 91 = .ok (.iload 5, 2) := by decide +kernel
theorem dX0_measure_93 : decode cX0_measure 93 = .ok (.imul, 1) := by decide +kernel
theorem dX0_measure_94 : decode cX0_measure 94 = .ok (.iadd, 1) := by decide +kernel
theorem dX0_measure_95 : decode cX0_measure 95 = .ok (.istore 8, 2) := by decide +kernel
theorem dX0_measure_97 : decode cX0_measure 97 = .ok (.iload 4, 2) := by decide +kernel
theorem dX0_measure_99 : decode cX0_measure 99 = .ok (.iload 4, 2) := by decide +kernel
theorem dX0_measure_101 : decode cX0_measure 101 = .ok (.imul, 1) := by decide +kernel
theorem dX0_measure_102 : decode cX0_measure 102 = .ok (.iload 5, 2) := by decide +kernel
theorem dX0_measure_104 : decode cX0_measure 104 = .ok (.iload 5, 2) := by decide +kernel
theorem dX0_measure_106 : decode cX0_measure 106 = .ok (.imul, 1) := by decide +kernel
theorem dX0_measure_107 : decode cX0_measure 107 = .ok (.iadd, 1) := by decide +kernel
theorem dX0_measure_108 : decode cX0_measure 108 = .ok (.istore 9, 2) := by decide +kernel
theorem dX0_measure_110 : decode cX0_measure 110 = .ok (.iload 8, 2) := by decide +kernel
theorem dX0_measure_112 : decode cX0_measure 112 = .ok (.ifCond .gt 22, 3) := by decide +kernel
theorem dX0_measure_115 : decode cX0_measure 115 = .ok (.aload_n 0, 1) := by decide +kernel
theorem dX0_measure_116 : decode cX0_measure 116 = .ok (.iload 6, 2) := by decide +kernel
theorem dX0_measure_118 : decode cX0_measure 118 = .ok (.iload 6, 2) := by decide +kernel
theorem dX0_measure_120 : decode cX0_measure 120 = .ok (.imul, 1) := by decide +kernel
theorem dX0_measure_121 : decode cX0_measure 121 = .ok (.iload 7, 2) := by decide +kernel
theorem dX0_measure_123 : decode cX0_measure 123 = .ok (.iload 7, 2) := by decide +kernel
theorem dX0_measure_125 : decode cX0_measure 125 = .ok (.imul, 1) := by decide +kernel
theorem dX0_measure_126 : decode cX0_measure 126 = .ok (.iadd, 1) := by decide +kernel
theorem dX0_measure_127 : decode cX0_measure 127 = .ok (.iconst 1, 1) := by decide +kernel
theorem dX0_measure_128 : decode cX0_measure 128 = .ok (.invokevirtual 80, 3) := by decide +kernel
theorem dX0_measure_131 : decode cX0_measure 131 = .ok (.goto 67, 3) := by decide +kernel
theorem dX0_measure_134 : decode cX0_measure 134 = .ok (.iload 8, 2) := by decide +kernel
theorem dX0_measure_136 : decode cX0_measure 136 = .ok (.iload 9, 2) := by decide +kernel
theorem dX0_measure_138 : decode cX0_measure 138 = .ok (.if_icmp .lt 36, 3) := by decide +kernel
theorem dX0_measure_141 : decode cX0_measure 141 = .ok (.iload 6, 2) := by decide +kernel
theorem dX0_measure_143 : decode cX0_measure 143 = .ok (.iload 4, 2) := by decide +kernel
theorem dX0_measure_145 : decode cX0_measure 145 = .ok (.isub, 1) := by decide +kernel
theorem dX0_measure_146 : decode cX0_measure 146 = .ok (.istore 10, 2) := by decide +kernel
theorem dX0_measure_148 : decode cX0_measure 148 = .ok (.iload 7, 2) := by decide +kernel
theorem dX0_measure_150 : decode cX0_measure 150 = .ok (.iload 5, 2) := by decide +kernel
theorem dX0_measure_152 : decode cX0_measure 152 = .ok (.isub, 1) := by decide +kernel
theorem dX0_measure_153 : decode cX0_measure 153 = .ok (.istore 11, 2) := by decide +kernel
theorem dX0_measure_155 : decode cX0_measure 155 = .ok (.aload_n 0, 1) := by decide +kernel
theorem dX0_measure_156 : decode cX0_measure 156 = .ok (.iload 10, 2) := by decide +kernel
theorem dX0_measure_158 : decode cX0_measure 158 = .ok (.iload 10, 2) := by decide +kernel
theorem dX0_measure_160 : decode cX0_measure 160 = .ok (.imul, 1) := by decide +kernel
theorem dX0_measure_161 : decode cX0_measure 161 = .ok (.iload 11, 2) := by decide +kernel
theorem dX0_measure_163 : decode cX0_measure 163 = .ok (.iload 11, 2) := by decide +kernel
theorem dX0_measure_165 : decode cX0_measure 165 = .ok (.imul, 1) := by decide +kernel
theorem dX0_measure_166 : decode cX0_measure 166 = .ok (.iadd, 1) := by decide +kernel
theorem dX0_measure_167 : decode cX0_measure 167 = .ok (.iconst 1, 1) := by decide +kernel
theorem dX0_measure_168 : decode cX0_measure 168 = .ok (.invokevirtual 80, 3) := by decide +kernel
theorem dX0_measure_171 : decode cX0_measure 171 = .ok (.goto 27, 3) := by decide +kernel
theorem dX0_measure_174 : decode cX0_measure 174 = .ok (.iload 6, 2) := by decide +kernel
theorem dX0_measure_176 : decode cX0_measure 176 = .ok (.iload 5, 2) := by decide +kernel
theorem dX0_measure_178 : decode cX0_measure 178 = .ok (.imul, 1) := by decide +kernel
theorem dX0_measure_179 : decode cX0_measure 179 = .ok (.iload 7, 2) := by decide +kernel
theorem dX0_measure_181 : decode cX0_measure 181 = .ok (.iload 4, 2) := by decide +kernel
theorem dX0_measure_183 : decode cX0_measure 183 = .ok (.imul, 1) := by decide +kernel
theorem dX0_measure_184 : decode cX0_measure 184 = .ok (.isub, 1) := by decide +kernel
theorem dX0_measure_185 : decode cX0_measure 185 = .ok (.istore 10, 2) := by decide +kernel
theorem dX0_measure_187 : decode cX0_measure 187 = .ok (.aload_n 0, 1) := by decide +kernel
theorem dX0_measure_188 : decode cX0_measure 188 = .ok (.iload 10, 2) := by decide +kernel
theorem dX0_measure_190 : decode cX0_measure 190 = .ok (.iload 10, 2) := by decide +kernel
theorem dX0_measure_192 : decode cX0_measure 192 = .ok (.imul, 1) := by decide +kernel
theorem dX0_measure_193 : decode cX0_measure 193 = .ok (.iload 9, 2) := by decide +kernel
theorem dX0_measure_195 : decode cX0_measure 195 = .ok (.invokevirtual 80, 3) := by decide +kernel
theorem dX0_measure_198 : decode cX0_measure 198 = .ok (.return_, 1) := by decide +kernel
theorem dX0_keepGreater_0 : decode cX0_keepGreater 0 = .ok (.iload_n 1, 1) := by decide +kernel
theorem dX0_keepGreater_1 : decode cX0_keepGreater 1 = .ok (.aload_n 0, 1) := by decide +kernel
theorem dX0_keepGreater_2 : decode cX0_keepGreater 2 = .ok (.getfield 49, 3) := by decide +kernel
theorem dX0_keepGreater_5 : decode cX0_keepGreater 5 = .ok (.imul, 1) := by decide +kernel
theorem dX0_keepGreater_6 : decode cX0_keepGreater 6 = .ok (.aload_n 0, 1) := by decide +kernel
theorem dX0_keepGreater_7 : decode cX0_keepGreater 7 = .ok (.getfield 46, 3) := by decide +kernel
theorem dX0_keepGreater_10 : decode cX0_keepGreater 10 = .ok (.iload_n 2, 1) := by decide +kernel
theorem dX0_keepGreater_11 : decode cX0_keepGreater 11 = .ok (.imul, 1) := by decide +kernel
theorem dX0_keepGreater_12 : decode cX0_keepGreater 12 = .ok (.if_icmp .le 13, 3) := by decide +kernel
theorem dX0_keepGreater_15 : decode cX0_keepGreater 15 = .ok (.aload_n 0, 1) := by decide +kernel
theorem dX0_keepGreater_16 : decode cX0_keepGreater 16 = .ok (.iload_n 1, 1) := by decide +kernel
theorem dX0_keepGreater_17 : decode cX0_keepGreater 17 = .ok (.putfield 46, 3) := by decide +kernel
theorem dX0_keepGreater_20 : decode cX0_keepGreater 20 = .ok (.aload_n 0, 1) := by decide +kernel
theorem dX0_keepGreater_21 : decode cX0_keepGreater 21 = .ok (.iload_n 2, 1) := by decide +kernel
theorem dX0_keepGreater_22 : decode cX0_keepGreater 22 = .ok (.putfield 49, 3) := by decide +kernel
theorem dX0_keepGreater_25 : decode cX0_keepGreater 25 = .ok (.return_, 1) := by decide +kernel
theorem dX0_commonDivisor_0 : decode cX0_commonDivisor 0 = .ok (.iload_n 0, 1) := by decide +kernel
theorem dX0_commonDivisor_1 : decode cX0_commonDivisor 1 = .ok (.istore_n 2, 1) := by decide +kernel
theorem dX0_commonDivisor_2 : decode cX0_commonDivisor 2 = .ok (.iload_n 1, 1) := by decide +kernel
theorem dX0_commonDivisor_3 : decode cX0_commonDivisor 3 = .ok (.istore_n 3, 1) := by decide +kernel
theorem dX0_commonDivisor_4 : decode cX0_commonDivisor 4 = .ok (.iconst 0, 1) := by decide +kernel
theorem dX0_commonDivisor_5 : decode cX0_commonDivisor 5 = .ok (.istore 4, 2) := by decide +kernel
theorem dX0_commonDivisor_7 : decode cX0_commonDivisor 7 = .ok (.iload 4, 2) := by decide +kernel
theorem dX0_commonDivisor_9 : decode cX0_commonDivisor 9 = .ok (.bipush 64, 2) := by decide +kernel
theorem dX0_commonDivisor_11 : decode cX0_commonDivisor 11 = .ok (.if_icmp .ge 23, 3) := by decide +kernel
theorem dX0_commonDivisor_14 : decode cX0_commonDivisor 14 = .ok (.iload_n 3, 1) := by decide +kernel
theorem dX0_commonDivisor_15 : decode cX0_commonDivisor 15 = .ok (.ifCond .eq 19, 3) := by decide +kernel
theorem dX0_commonDivisor_18 : decode cX0_commonDivisor 18 = .ok (.iload_n 2, 1) := by decide +kernel
theorem dX0_commonDivisor_19 : decode cX0_commonDivisor 19 = .ok (.iload_n 3, 1) := by decide +kernel
theorem dX0_commonDivisor_20 : decode cX0_commonDivisor 20 = .ok (.irem, 1) := by decide +kernel
theorem dX0_commonDivisor_21 : decode cX0_commonDivisor 21 = .ok (.istore 5, 2) := by decide +kernel
theorem dX0_commonDivisor_23 : decode cX0_commonDivisor 23 = .ok (.iload_n 3, 1) := by decide +kernel
theorem dX0_commonDivisor_24 : decode cX0_commonDivisor 24 = .ok (.istore_n 2, 1) := by decide +kernel
theorem dX0_commonDivisor_25 : decode cX0_commonDivisor 25 = .ok (.iload 5, 2) := by decide +kernel
theorem dX0_commonDivisor_27 : decode cX0_commonDivisor 27 = .ok (.istore_n 3, 1) := by decide +kernel
theorem dX0_commonDivisor_28 : decode cX0_commonDivisor 28 = .ok (.iinc 4 1, 3) := by decide +kernel
theorem dX0_commonDivisor_31 : decode cX0_commonDivisor 31 = .ok (.goto (-24), 3) := by decide +kernel
theorem dX0_commonDivisor_34 : decode cX0_commonDivisor 34 = .ok (.iload_n 2, 1) := by decide +kernel
theorem dX0_commonDivisor_35 : decode cX0_commonDivisor 35 = .ok (.ireturn, 1) := by decide +kernel
theorem dX1_init_0 : decode cX1_init 0 = .ok (.aload_n 0, 1) := by decide +kernel
theorem dX1_init_1 : decode cX1_init 1 = .ok (.invokespecial 3, 3) := by decide +kernel
theorem dX1_init_4 : decode cX1_init 4 = .ok (.aload_n 0, 1) := by decide +kernel
theorem dX1_init_5 : decode cX1_init 5 = .ok (.bipush 111, 2) := by decide +kernel
theorem dX1_init_7 : decode cX1_init 7 = .ok (.newarray .int, 2) := by decide +kernel
theorem dX1_init_9 : decode cX1_init 9 = .ok (.putfield 9, 3) := by decide +kernel
theorem dX1_init_12 : decode cX1_init 12 = .ok (.aload_n 0, 1) := by decide +kernel
theorem dX1_init_13 : decode cX1_init 13 = .ok (.bipush 110, 2) := by decide +kernel
theorem dX1_init_15 : decode cX1_init 15 = .ok (.newarray .int, 2) := by decide +kernel
theorem dX1_init_17 : decode cX1_init 17 = .ok (.putfield 15, 3) := by decide +kernel
theorem dX1_init_20 : decode cX1_init 20 = .ok (.aload_n 0, 1) := by decide +kernel
theorem dX1_init_21 : decode cX1_init 21 = .ok (.bipush 110, 2) := by decide +kernel
theorem dX1_init_23 : decode cX1_init 23 = .ok (.newarray .int, 2) := by decide +kernel
theorem dX1_init_25 : decode cX1_init 25 = .ok (.putfield 18, 3) := by decide +kernel
theorem dX1_init_28 : decode cX1_init 28 = .ok (.aload_n 0, 1) := by decide +kernel
theorem dX1_init_29 : decode cX1_init 29 = .ok (.bipush 110, 2) := by decide +kernel
theorem dX1_init_31 : decode cX1_init 31 = .ok (.newarray .int, 2) := by decide +kernel
theorem dX1_init_33 : decode cX1_init 33 = .ok (.putfield 21, 3) := by decide +kernel
theorem dX1_init_36 : decode cX1_init 36 = .ok (.aload_n 0, 1) := by decide +kernel
theorem dX1_init_37 : decode cX1_init 37 = .ok (.bipush 110, 2) := by decide +kernel
theorem dX1_init_39 : decode cX1_init 39 = .ok (.newarray .int, 2) := by decide +kernel
theorem dX1_init_41 : decode cX1_init 41 = .ok (.putfield 24, 3) := by decide +kernel
theorem dX1_init_44 : decode cX1_init 44 = .ok (.aload_n 0, 1) := by decide +kernel
theorem dX1_init_45 : decode cX1_init 45 = .ok (.sipush 442, 3) := by decide +kernel
theorem dX1_init_48 : decode cX1_init 48 = .ok (.newarray .int, 2) := by decide +kernel
theorem dX1_init_50 : decode cX1_init 50 = .ok (.putfield 27, 3) := by decide +kernel
theorem dX1_init_53 : decode cX1_init 53 = .ok (.aload_n 0, 1) := by decide +kernel
theorem dX1_init_54 : decode cX1_init 54 = .ok (.sipush 442, 3) := by decide +kernel
theorem dX1_init_57 : decode cX1_init 57 = .ok (.newarray .int, 2) := by decide +kernel
theorem dX1_init_59 : decode cX1_init 59 = .ok (.putfield 30, 3) := by decide +kernel
theorem dX1_init_62 : decode cX1_init 62 = .ok (.aload_n 0, 1) := by decide +kernel
theorem dX1_init_63 : decode cX1_init 63 = .ok (.sipush 442, 3) := by decide +kernel
theorem dX1_init_66 : decode cX1_init 66 = .ok (.newarray .int, 2) := by decide +kernel
theorem dX1_init_68 : decode cX1_init 68 = .ok (.putfield 33, 3) := by decide +kernel
theorem dX1_init_71 : decode cX1_init 71 = .ok (.aload_n 0, 1) := by decide +kernel
theorem dX1_init_72 : decode cX1_init 72 = .ok (.sipush 442, 3) := by decide +kernel
theorem dX1_init_75 : decode cX1_init 75 = .ok (.newarray .boolean, 2) := by decide +kernel
theorem dX1_init_77 : decode cX1_init 77 = .ok (.putfield 36, 3) := by decide +kernel
theorem dX1_init_80 : decode cX1_init 80 = .ok (.aload_n 0, 1) := by decide +kernel
theorem dX1_init_81 : decode cX1_init 81 = .ok (.sipush 221, 3) := by decide +kernel
theorem dX1_init_84 : decode cX1_init 84 = .ok (.newarray .int, 2) := by decide +kernel
theorem dX1_init_86 : decode cX1_init 86 = .ok (.putfield 40, 3) := by decide +kernel
theorem dX1_init_89 : decode cX1_init 89 = .ok (.return_, 1) := by decide +kernel
theorem dX1_clear_0 : decode cX1_clear 0 = .ok (.aload_n 0, 1) := by decide +kernel
theorem dX1_clear_1 : decode cX1_clear 1 = .ok (.iconst 0, 1) := by decide +kernel
theorem dX1_clear_2 : decode cX1_clear 2 = .ok (.putfield 43, 3) := by decide +kernel
theorem dX1_clear_5 : decode cX1_clear 5 = .ok (.aload_n 0, 1) := by decide +kernel
theorem dX1_clear_6 : decode cX1_clear 6 = .ok (.iconst 0, 1) := by decide +kernel
theorem dX1_clear_7 : decode cX1_clear 7 = .ok (.putfield 47, 3) := by decide +kernel
theorem dX1_clear_10 : decode cX1_clear 10 = .ok (.aload_n 0, 1) := by decide +kernel
theorem dX1_clear_11 : decode cX1_clear 11 = .ok (.iconst 0, 1) := by decide +kernel
theorem dX1_clear_12 : decode cX1_clear 12 = .ok (.putfield 50, 3) := by decide +kernel
theorem dX1_clear_15 : decode cX1_clear 15 = .ok (.aload_n 0, 1) := by decide +kernel
theorem dX1_clear_16 : decode cX1_clear 16 = .ok (.iconst 0, 1) := by decide +kernel
theorem dX1_clear_17 : decode cX1_clear 17 = .ok (.putfield 53, 3) := by decide +kernel
theorem dX1_clear_20 : decode cX1_clear 20 = .ok (.aload_n 0, 1) := by decide +kernel
theorem dX1_clear_21 : decode cX1_clear 21 = .ok (.getfield 40, 3) := by decide +kernel
theorem dX1_clear_24 : decode cX1_clear 24 = .ok (.iconst 0, 1) := by decide +kernel
theorem dX1_clear_25 : decode cX1_clear 25 = .ok (.invokestatic 56, 3) := by decide +kernel
theorem dX1_clear_28 : decode cX1_clear 28 = .ok (.return_, 1) := by decide +kernel
theorem dX1_beginContour_0 : decode cX1_beginContour 0 = .ok (.aload_n 0, 1) := by decide +kernel
theorem dX1_beginContour_1 : decode cX1_beginContour 1 = .ok (.getfield 47, 3) := by decide +kernel
theorem dX1_beginContour_4 : decode cX1_beginContour 4 = .ok (.bipush 110, 2) := by decide +kernel
theorem dX1_beginContour_6 : decode cX1_beginContour 6 = .ok (.if_icmp .lt 5, 3) := by decide +kernel
theorem dX1_beginContour_9 : decode cX1_beginContour 9 = .ok (.iconst 0, 1) := by decide +kernel
theorem dX1_beginContour_10 : decode cX1_beginContour 10 = .ok (.ireturn, 1) := by decide +kernel
theorem dX1_beginContour_11 : decode cX1_beginContour 11 = .ok (.aload_n 0, 1) := by decide +kernel
theorem dX1_beginContour_12 : decode cX1_beginContour 12 = .ok (.getfield 9, 3) := by decide +kernel
theorem dX1_beginContour_15 : decode cX1_beginContour 15 = .ok (.aload_n 0, 1) := by decide +kernel
theorem dX1_beginContour_16 : decode cX1_beginContour 16 = .ok (.getfield 47, 3) := by decide +kernel
theorem dX1_beginContour_19 : decode cX1_beginContour 19 = .ok (.aload_n 0, 1) := by decide +kernel
theorem dX1_beginContour_20 : decode cX1_beginContour 20 = .ok (.getfield 50, 3) := by decide +kernel
theorem dX1_beginContour_23 : decode cX1_beginContour 23 = .ok (.iastore, 1) := by decide +kernel
theorem dX1_beginContour_24 : decode cX1_beginContour 24 = .ok (.aload_n 0, 1) := by decide +kernel
theorem dX1_beginContour_25 : decode cX1_beginContour 25 = .ok (.getfield 9, 3) := by decide +kernel
theorem dX1_beginContour_28 : decode cX1_beginContour 28 = .ok (.aload_n 0, 1) := by decide +kernel
theorem dX1_beginContour_29 : decode cX1_beginContour 29 = .ok (.getfield 47, 3) := by decide +kernel
theorem dX1_beginContour_32 : decode cX1_beginContour 32 = .ok (.iconst 1, 1) := by decide +kernel
theorem dX1_beginContour_33 : decode cX1_beginContour 33 = .ok (.iadd, 1) := by decide +kernel
theorem dX1_beginContour_34 : decode cX1_beginContour 34 = .ok (.aload_n 0, 1) := by decide +kernel
theorem dX1_beginContour_35 : decode cX1_beginContour 35 = .ok (.getfield 50, 3) := by decide +kernel
theorem dX1_beginContour_38 : decode cX1_beginContour 38 = .ok (.iastore, 1) := by decide +kernel
theorem dX1_beginContour_39 : decode cX1_beginContour 39 = .ok (.aload_n 0, 1) := by decide +kernel
theorem dX1_beginContour_40 : decode cX1_beginContour 40 = .ok (.getfield 15, 3) := by decide +kernel
theorem dX1_beginContour_43 : decode cX1_beginContour 43 = .ok (.aload_n 0, 1) := by decide +kernel
theorem dX1_beginContour_44 : decode cX1_beginContour 44 = .ok (.getfield 47, 3) := by decide +kernel
theorem dX1_beginContour_47 : decode cX1_beginContour 47 = .ok (.iconst 0, 1) := by decide +kernel
theorem dX1_beginContour_48 : decode cX1_beginContour 48 = .ok (.iastore, 1) := by decide +kernel
theorem dX1_beginContour_49 : decode cX1_beginContour 49 = .ok (.aload_n 0, 1) := by decide +kernel
theorem dX1_beginContour_50 : decode cX1_beginContour 50 = .ok (.getfield 18, 3) := by decide +kernel
theorem dX1_beginContour_53 : decode cX1_beginContour 53 = .ok (.aload_n 0, 1) := by decide +kernel
theorem dX1_beginContour_54 : decode cX1_beginContour 54 = .ok (.getfield 47, 3) := by decide +kernel
theorem dX1_beginContour_57 : decode cX1_beginContour 57 = .ok (.iconst (-1), 1) := by decide +kernel
theorem dX1_beginContour_58 : decode cX1_beginContour 58 = .ok (.iastore, 1) := by decide +kernel
theorem dX1_beginContour_59 : decode cX1_beginContour 59 = .ok (.aload_n 0, 1) := by decide +kernel
theorem dX1_beginContour_60 : decode cX1_beginContour 60 = .ok (.dup, 1) := by decide +kernel
theorem dX1_beginContour_61 : decode cX1_beginContour 61 = .ok (.getfield 47, 3) := by decide +kernel
theorem dX1_beginContour_64 : decode cX1_beginContour 64 = .ok (.iconst 1, 1) := by decide +kernel
theorem dX1_beginContour_65 : decode cX1_beginContour 65 = .ok (.iadd, 1) := by decide +kernel
theorem dX1_beginContour_66 : decode cX1_beginContour 66 = .ok (.putfield 47, 3) := by decide +kernel
theorem dX1_beginContour_69 : decode cX1_beginContour 69 = .ok (.iconst 1, 1) := by decide +kernel
theorem dX1_beginContour_70 : decode cX1_beginContour 70 = .ok (.ireturn, 1) := by decide +kernel
theorem dX1_addVertex_0 : decode cX1_addVertex 0 = .ok (.aload_n 0, 1) := by decide +kernel
theorem dX1_addVertex_1 : decode cX1_addVertex 1 = .ok (.getfield 47, 3) := by decide +kernel
theorem dX1_addVertex_4 : decode cX1_addVertex 4 = .ok (.ifCond .eq 13, 3) := by decide +kernel
theorem dX1_addVertex_7 : decode cX1_addVertex 7 = .ok (.aload_n 0, 1) := by decide +kernel
theorem dX1_addVertex_8 : decode cX1_addVertex 8 = .ok (.getfield 50, 3) := by decide +kernel
theorem dX1_addVertex_11 : decode cX1_addVertex 11 = .ok (.sipush 442, 3) := by decide +kernel
theorem dX1_addVertex_14 : decode cX1_addVertex 14 = .ok (.if_icmp .lt 4, 3) := by decide +kernel
theorem dX1_addVertex_17 : decode cX1_addVertex 17 = .ok (.return_, 1) := by decide +kernel
theorem dX1_addVertex_18 : decode cX1_addVertex 18 = .ok (.aload_n 0, 1) := by decide +kernel
theorem dX1_addVertex_19 : decode cX1_addVertex 19 = .ok (.getfield 50, 3) := by decide +kernel
theorem dX1_addVertex_22 : decode cX1_addVertex 22 = .ok (.istore_n 3, 1) := by decide +kernel
theorem dX1_addVertex_23 : decode cX1_addVertex 23 = .ok (.aload_n 0, 1) := by decide +kernel
theorem dX1_addVertex_24 : decode cX1_addVertex 24 = .ok (.getfield 30, 3) := by decide +kernel
theorem dX1_addVertex_27 : decode cX1_addVertex 27 = .ok (.iload_n 3, 1) := by decide +kernel
theorem dX1_addVertex_28 : decode cX1_addVertex 28 = .ok (.iload_n 1, 1) := by decide +kernel
theorem dX1_addVertex_29 : decode cX1_addVertex 29 = .ok (.iastore, 1) := by decide +kernel
theorem dX1_addVertex_30 : decode cX1_addVertex 30 = .ok (.aload_n 0, 1) := by decide +kernel
theorem dX1_addVertex_31 : decode cX1_addVertex 31 = .ok (.getfield 33, 3) := by decide +kernel
theorem dX1_addVertex_34 : decode cX1_addVertex 34 = .ok (.iload_n 3, 1) := by decide +kernel
theorem dX1_addVertex_35 : decode cX1_addVertex 35 = .ok (.iload_n 2, 1) := by decide +kernel
theorem dX1_addVertex_36 : decode cX1_addVertex 36 = .ok (.iastore, 1) := by decide +kernel
theorem dX1_addVertex_37 : decode cX1_addVertex 37 = .ok (.aload_n 0, 1) := by decide +kernel
theorem dX1_addVertex_38 : decode cX1_addVertex 38 = .ok (.getfield 27, 3) := by decide +kernel
theorem dX1_addVertex_41 : decode cX1_addVertex 41 = .ok (.iload_n 3, 1) := by decide +kernel
theorem dX1_addVertex_42 : decode cX1_addVertex 42 = .ok (.aload_n 0, 1) := by decide +kernel
theorem dX1_addVertex_43 : decode cX1_addVertex 43 = .ok (.getfield 47, 3) := by decide +kernel
theorem dX1_addVertex_46 : decode cX1_addVertex 46 = .ok (.iconst 1, 1) := by decide +kernel
theorem dX1_addVertex_47 : decode cX1_addVertex 47 = .ok (.isub, 1) := by decide +kernel
theorem dX1_addVertex_48 : decode cX1_addVertex 48 = .ok (.iastore, 1) := by decide +kernel
theorem dX1_addVertex_49 : decode cX1_addVertex 49 = .ok (.aload_n 0, 1) := by decide +kernel
theorem dX1_addVertex_50 : decode cX1_addVertex 50 = .ok (.getfield 36, 3) := by decide +kernel
theorem dX1_addVertex_53 : decode cX1_addVertex 53 = .ok (.iload_n 3, 1) := by decide +kernel
theorem dX1_addVertex_54 : decode cX1_addVertex 54 = .ok (.iconst 0, 1) := by decide +kernel
theorem dX1_addVertex_55 : decode cX1_addVertex 55 = .ok (.bastore, 1) := by decide +kernel
theorem dX1_addVertex_56 : decode cX1_addVertex 56 = .ok (.aload_n 0, 1) := by decide +kernel
theorem dX1_addVertex_57 : decode cX1_addVertex 57 = .ok (.dup, 1) := by decide +kernel
theorem dX1_addVertex_58 : decode cX1_addVertex 58 = .ok (.getfield 50, 3) := by decide +kernel
theorem dX1_addVertex_61 : decode cX1_addVertex 61 = .ok (.iconst 1, 1) := by decide +kernel
theorem dX1_addVertex_62 : decode cX1_addVertex 62 = .ok (.iadd, 1) := by decide +kernel
theorem dX1_addVertex_63 : decode cX1_addVertex 63 = .ok (.putfield 50, 3) := by decide +kernel
theorem dX1_addVertex_66 : decode cX1_addVertex 66 = .ok (.aload_n 0, 1) := by decide +kernel
theorem dX1_addVertex_67 : decode cX1_addVertex 67 = .ok (.getfield 9, 3) := by decide +kernel
theorem dX1_addVertex_70 : decode cX1_addVertex 70 = .ok (.aload_n 0, 1) := by decide +kernel
theorem dX1_addVertex_71 : decode cX1_addVertex 71 = .ok (.getfield 47, 3) := by decide +kernel
theorem dX1_addVertex_74 : decode cX1_addVertex 74 = .ok (.aload_n 0, 1) := by decide +kernel
theorem dX1_addVertex_75 : decode cX1_addVertex 75 = .ok (.getfield 50, 3) := by decide +kernel
theorem dX1_addVertex_78 : decode cX1_addVertex 78 = .ok (.iastore, 1) := by decide +kernel
theorem dX1_addVertex_79 : decode cX1_addVertex 79 = .ok (.aload_n 0, 1) := by decide +kernel
theorem dX1_addVertex_80 : decode cX1_addVertex 80 = .ok (.iload_n 3, 1) := by decide +kernel
theorem dX1_addVertex_81 : decode cX1_addVertex 81 = .ok (.invokevirtual 62, 3) := by decide +kernel
theorem dX1_addVertex_84 : decode cX1_addVertex 84 = .ok (.return_, 1) := by decide +kernel
theorem dX1_turn_0 : decode cX1_turn 0 = .ok (.aload_n 0, 1) := by decide +kernel
theorem dX1_turn_1 : decode cX1_turn 1 = .ok (.getfield 36, 3) := by decide +kernel
theorem dX1_turn_4 : decode cX1_turn 4 = .ok (.iload_n 1, 1) := by decide +kernel
theorem dX1_turn_5 : decode cX1_turn 5 = .ok (.baload, 1) := by decide +kernel
theorem dX1_turn_6 : decode cX1_turn 6 = .ok (.ifCond .eq 7, 3) := by decide +kernel
theorem dX1_turn_9 : decode cX1_turn 9 = .ok (.iconst (-1), 1) := by decide +kernel
theorem dX1_turn_10 : decode cX1_turn 10 = .ok (.goto 4, 3) := by decide +kernel
theorem dX1_turn_13 : decode cX1_turn 13 = .ok (.iconst 1, 1) := by decide +kernel
theorem dX1_turn_14 : decode cX1_turn 14 = .ok (.istore_n 2, 1) := by decide +kernel
theorem dX1_turn_15 : decode cX1_turn 15 = .ok (.aload_n 0, 1) := by decide +kernel
theorem dX1_turn_16 : decode cX1_turn 16 = .ok (.getfield 36, 3) := by decide +kernel
theorem dX1_turn_19 : decode cX1_turn 19 = .ok (.iload_n 1, 1) := by decide +kernel
theorem dX1_turn_20 : decode cX1_turn 20 = .ok (.aload_n 0, 1) := by decide +kernel
theorem dX1_turn_21 : decode cX1_turn 21 = .ok (.getfield 36, 3) := by decide +kernel
theorem dX1_turn_24 : decode cX1_turn 24 = .ok (.iload_n 1, 1) := by decide +kernel
theorem dX1_turn_25 : decode cX1_turn 25 = .ok (.baload, 1) := by decide +kernel
theorem dX1_turn_26 : decode cX1_turn 26 = .ok (.ifCond .ne 7, 3) := by decide +kernel
theorem dX1_turn_29 : decode cX1_turn 29 = .ok (.iconst 1, 1) := by decide +kernel
theorem dX1_turn_30 : decode cX1_turn 30 = .ok (.goto 4, 3) := by decide +kernel
theorem dX1_turn_33 : decode cX1_turn 33 = .ok (.iconst 0, 1) := by decide +kernel
theorem dX1_turn_34 : decode cX1_turn 34 = .ok (.bastore, 1) := by decide +kernel
theorem dX1_turn_35 : decode cX1_turn 35 = .ok (.aload_n 0, 1) := by decide +kernel
theorem dX1_turn_36 : decode cX1_turn 36 = .ok (.dup, 1) := by decide +kernel
theorem dX1_turn_37 : decode cX1_turn 37 = .ok (.getfield 53, 3) := by decide +kernel
theorem dX1_turn_40 : decode cX1_turn 40 = .ok (.iload_n 2, 1) := by decide +kernel
theorem dX1_turn_41 : decode cX1_turn 41 = .ok (.iadd, 1) := by decide +kernel
theorem dX1_turn_42 : decode cX1_turn 42 = .ok (.putfield 53, 3) := by decide +kernel
theorem dX1_turn_45 : decode cX1_turn 45 = .ok (.aload_n 0, 1) := by decide +kernel
theorem dX1_turn_46 : decode cX1_turn 46 = .ok (.getfield 15, 3) := by decide +kernel
theorem dX1_turn_49 : decode cX1_turn 49 = .ok (.aload_n 0, 1) := by decide +kernel
theorem dX1_turn_50 : decode cX1_turn 50 = .ok (.getfield 27, 3) := by decide +kernel
theorem dX1_turn_53 : decode cX1_turn 53 = .ok (.iload_n 1, 1) := by decide +kernel
theorem dX1_turn_54 : decode cX1_turn 54 = .ok (.iaload, 1) := by decide +kernel
theorem dX1_turn_55 : decode cX1_turn 55 = .ok (.dup2, 1) := by decide +kernel
theorem dX1_turn_56 : decode cX1_turn 56 = .ok (.iaload, 1) := by decide +kernel
theorem dX1_turn_57 : decode cX1_turn 57 = .ok (.iload_n 2, 1) := by decide +kernel
theorem dX1_turn_58 : decode cX1_turn 58 = .ok (.iadd, 1) := by decide +kernel
theorem dX1_turn_59 : decode cX1_turn 59 = .ok (.iastore, 1) := by decide +kernel
theorem dX1_turn_60 : decode cX1_turn 60 = .ok (.aload_n 0, 1) := by decide +kernel
theorem dX1_turn_61 : decode cX1_turn 61 = .ok (.getfield 40, 3) := by decide +kernel
theorem dX1_turn_64 : decode cX1_turn 64 = .ok (.aload_n 0, 1) := by decide +kernel
theorem dX1_turn_65 : decode cX1_turn 65 = .ok (.getfield 33, 3) := by decide +kernel
theorem dX1_turn_68 : decode cX1_turn 68 = .ok (.iload_n 1, 1) := by decide +kernel
theorem dX1_turn_69 : decode cX1_turn 69 = .ok (.iaload, 1) := by decide +kernel
theorem dX1_turn_70 : decode cX1_turn 70 = .ok (.bipush 17, 2) := by decide +kernel
theorem dX1_turn_72 : decode cX1_turn 72 = .ok (.imul, 1) := by decide +kernel
theorem dX1_turn_73 : decode cX1_turn 73 = .ok (.aload_n 0, 1) := by decide +kernel
theorem dX1_turn_74 : decode cX1_turn 74 = .ok (.getfield 30, 3) := by decide +kernel
theorem dX1_turn_77 : decode cX1_turn 77 = .ok (.iload_n 1, 1) := by decide +kernel
theorem dX1_turn_78 : decode cX1_turn 78 = .ok (.iaload, 1) := by decide +kernel
theorem dX1_turn_79 : decode cX1_turn 79 = .ok (.iadd, 1) := by decide +kernel
theorem dX1_turn_80 : decode cX1_turn 80 = .ok (.dup2, 1) := by decide +kernel
theorem dX1_turn_81 : decode cX1_turn 81 = .ok (.iaload, 1) := by decide +kernel
theorem dX1_turn_82 : decode cX1_turn 82 = .ok (.iload_n 2, 1) := by decide +kernel
theorem dX1_turn_83 : decode cX1_turn 83 = .ok (.iadd, 1) := by decide +kernel
theorem dX1_turn_84 : decode cX1_turn 84 = .ok (.iastore, 1) := by decide +kernel
theorem dX1_turn_85 : decode cX1_turn 85 = .ok (.return_, 1) := by decide +kernel
theorem dX1_has_0 : decode cX1_has 0 = .ok (.iload_n 1, 1) := by decide +kernel
theorem dX1_has_1 : decode cX1_has 1 = .ok (.iconst 0, 1) := by decide +kernel
theorem dX1_has_2 : decode cX1_has 2 = .ok (.aload_n 0, 1) := by decide +kernel
theorem dX1_has_3 : decode cX1_has 3 = .ok (.getfield 47, 3) := by decide +kernel
theorem dX1_has_6 : decode cX1_has 6 = .ok (.iconst 1, 1) := by decide +kernel
theorem dX1_has_7 : decode cX1_has 7 = .ok (.isub, 1) := by decide +kernel
theorem dX1_has_8 : decode cX1_has 8 = .ok (.invokestatic 66, 3) := by decide +kernel
theorem dX1_has_11 : decode cX1_has 11 = .ok (.ireturn, 1) := by decide +kernel
theorem dX1_faultOf_0 : decode cX1_faultOf 0 = .ok (.aload_n 0, 1) := by decide +kernel
theorem dX1_faultOf_1 : decode cX1_faultOf 1 = .ok (.iload_n 1, 1) := by decide +kernel
theorem dX1_faultOf_2 : decode cX1_faultOf 2 = .ok (.invokevirtual 70, 3) := by decide +kernel
theorem dX1_faultOf_5 : decode cX1_faultOf 5 = .ok (.ifCond .ne 7, 3) := by decide +kernel
theorem dX1_faultOf_8 : decode cX1_faultOf 8 = .ok (.sipush (-1001), 3) := by decide +kernel
theorem dX1_faultOf_11 : decode cX1_faultOf 11 = .ok (.ireturn, 1) := by decide +kernel
theorem dX1_faultOf_12 : decode cX1_faultOf 12 = .ok (.iload_n 2, 1) := by decide +kernel
theorem dX1_faultOf_13 : decode cX1_faultOf 13 = .ok (.iconst 0, 1) := by decide +kernel
theorem dX1_faultOf_14 : decode cX1_faultOf 14 = .ok (.aload_n 0, 1) := by decide +kernel
theorem dX1_faultOf_15 : decode cX1_faultOf 15 = .ok (.iload_n 1, 1) := by decide +kernel
theorem dX1_faultOf_16 : decode cX1_faultOf 16 = .ok (.invokevirtual 74, 3) := by decide +kernel
theorem dX1_faultOf_19 : decode cX1_faultOf 19 = .ok (.iconst 1, 1) := by decide +kernel
theorem dX1_faultOf_20 : decode cX1_faultOf 20 = .ok (.isub, 1) := by decide +kernel
theorem dX1_faultOf_21 : decode cX1_faultOf 21 = .ok (.invokestatic 66, 3) := by decide +kernel
theorem dX1_faultOf_24 : decode cX1_faultOf 24 = .ok (.ifCond .eq 7, 3) := by decide +kernel
theorem dX1_faultOf_27 : decode cX1_faultOf 27 = .ok (.iconst 0, 1) := by decide +kernel
theorem dX1_faultOf_28 : decode cX1_faultOf 28 = .ok (.goto 6, 3) := by decide +kernel
theorem dX1_faultOf_31 : decode cX1_faultOf 31 = .ok (.sipush (-1002), 3) := by decide +kernel
theorem dX1_faultOf_34 : decode cX1_faultOf 34 = .ok (.ireturn, 1) := by decide +kernel
theorem dX1_sizeOf_0 : decode cX1_sizeOf 0 = .ok (.aload_n 0, 1) := by decide +kernel
theorem dX1_sizeOf_1 : decode cX1_sizeOf 1 = .ok (.getfield 9, 3) := by decide +kernel
theorem dX1_sizeOf_4 : decode cX1_sizeOf 4 = .ok (.iload_n 1, 1) := by decide +kernel
theorem dX1_sizeOf_5 : decode cX1_sizeOf 5 = .ok (.iconst 1, 1) := by decide +kernel
theorem dX1_sizeOf_6 : decode cX1_sizeOf 6 = .ok (.iadd, 1) := by decide +kernel
theorem dX1_sizeOf_7 : decode cX1_sizeOf 7 = .ok (.iaload, 1) := by decide +kernel
theorem dX1_sizeOf_8 : decode cX1_sizeOf 8 = .ok (.aload_n 0, 1) := by decide +kernel
theorem dX1_sizeOf_9 : decode cX1_sizeOf 9 = .ok (.getfield 9, 3) := by decide +kernel
theorem dX1_sizeOf_12 : decode cX1_sizeOf 12 = .ok (.iload_n 1, 1) := by decide +kernel
theorem dX1_sizeOf_13 : decode cX1_sizeOf 13 = .ok (.iaload, 1) := by decide +kernel
theorem dX1_sizeOf_14 : decode cX1_sizeOf 14 = .ok (.isub, 1) := by decide +kernel
theorem dX1_sizeOf_15 : decode cX1_sizeOf 15 = .ok (.ireturn, 1) := by decide +kernel
theorem dX1_isHole_0 : decode cX1_isHole 0 = .ok (.aload_n 0, 1) := by decide +kernel
theorem dX1_isHole_1 : decode cX1_isHole 1 = .ok (.getfield 21, 3) := by decide +kernel
theorem dX1_isHole_4 : decode cX1_isHole 4 = .ok (.iload_n 1, 1) := by decide +kernel
theorem dX1_isHole_5 : decode cX1_isHole 5 = .ok (.iaload, 1) := by decide +kernel
theorem dX1_isHole_6 : decode cX1_isHole 6 = .ok (.ifCond .gt 7, 3) := by decide +kernel
theorem dX1_isHole_9 : decode cX1_isHole 9 = .ok (.iconst 1, 1) := by decide +kernel
theorem dX1_isHole_10 : decode cX1_isHole 10 = .ok (.goto 4, 3) := by decide +kernel
theorem dX1_isHole_13 : decode cX1_isHole 13 = .ok (.iconst 0, 1) := by decide +kernel
theorem dX1_isHole_14 : decode cX1_isHole 14 = .ok (.ireturn, 1) := by decide +kernel
theorem dX1_holeCount_0 : decode cX1_holeCount 0 = .ok (.iconst 0, 1) := by decide +kernel
theorem dX1_holeCount_1 : decode cX1_holeCount 1 = .ok (.istore_n 1, 1) := by decide +kernel
theorem dX1_holeCount_2 : decode cX1_holeCount 2 = .ok (.iconst 0, 1) := by decide +kernel
theorem dX1_holeCount_3 : decode cX1_holeCount 3 = .ok (.istore_n 2, 1) := by decide +kernel
theorem dX1_holeCount_4 : decode cX1_holeCount 4 = .ok (.iload_n 2, 1) := by decide +kernel
theorem dX1_holeCount_5 : decode cX1_holeCount 5 = .ok (.aload_n 0, 1) := by decide +kernel
theorem dX1_holeCount_6 : decode cX1_holeCount 6 = .ok (.getfield 47, 3) := by decide +kernel
theorem dX1_holeCount_9 : decode cX1_holeCount 9 = .ok (.if_icmp .ge 25, 3) := by decide +kernel
theorem dX1_holeCount_12 : decode cX1_holeCount 12 = .ok (.iload_n 1, 1) := by decide +kernel
theorem dX1_holeCount_13 : decode cX1_holeCount 13 = .ok (.aload_n 0, 1) := by decide +kernel
theorem dX1_holeCount_14 : decode cX1_holeCount 14 = .ok (.iload_n 2, 1) := by decide +kernel
theorem dX1_holeCount_15 : decode cX1_holeCount 15 = .ok (.invokevirtual 78, 3) := by decide +kernel
theorem dX1_holeCount_18 : decode cX1_holeCount 18 = .ok (.ifCond .eq 7, 3) := by decide +kernel
theorem dX1_holeCount_21 : decode cX1_holeCount 21 = .ok (.iconst 1, 1) := by decide +kernel
theorem dX1_holeCount_22 : decode cX1_holeCount 22 = .ok (.goto 4, 3) := by decide +kernel
theorem dX1_holeCount_25 : decode cX1_holeCount 25 = .ok (.iconst 0, 1) := by decide +kernel
theorem dX1_holeCount_26 : decode cX1_holeCount 26 = .ok (.iadd, 1) := by decide +kernel
theorem dX1_holeCount_27 : decode cX1_holeCount 27 = .ok (.istore_n 1, 1) := by decide +kernel
theorem dX1_holeCount_28 : decode cX1_holeCount 28 = .ok (.iinc 2 1, 3) := by decide +kernel
theorem dX1_holeCount_31 : decode cX1_holeCount 31 = .ok (.goto (-27), 3) := by decide +kernel
theorem dX1_holeCount_34 : decode cX1_holeCount 34 = .ok (.iload_n 1, 1) := by decide +kernel
theorem dX1_holeCount_35 : decode cX1_holeCount 35 = .ok (.ireturn, 1) := by decide +kernel
theorem dX1_childCount_0 : decode cX1_childCount 0 = .ok (.iconst 0, 1) := by decide +kernel
theorem dX1_childCount_1 : decode cX1_childCount 1 = .ok (.istore_n 2, 1) := by decide +kernel
theorem dX1_childCount_2 : decode cX1_childCount 2 = .ok (.iconst 0, 1) := by decide +kernel
theorem dX1_childCount_3 : decode cX1_childCount 3 = .ok (.istore_n 3, 1) := by decide +kernel
theorem dX1_childCount_4 : decode cX1_childCount 4 = .ok (.iload_n 3, 1) := by decide +kernel
theorem dX1_childCount_5 : decode cX1_childCount 5 = .ok (.aload_n 0, 1) := by decide +kernel
theorem dX1_childCount_6 : decode cX1_childCount 6 = .ok (.getfield 47, 3) := by decide +kernel
theorem dX1_childCount_9 : decode cX1_childCount 9 = .ok (.if_icmp .ge 27, 3) := by decide +kernel
theorem dX1_childCount_12 : decode cX1_childCount 12 = .ok (.iload_n 2, 1) := by decide +kernel
theorem dX1_childCount_13 : decode cX1_childCount 13 = .ok (.aload_n 0, 1) := by decide +kernel
theorem dX1_childCount_14 : decode cX1_childCount 14 = .ok (.getfield 18, 3) := by decide +kernel
theorem dX1_childCount_17 : decode cX1_childCount 17 = .ok (.iload_n 3, 1) := by decide +kernel
theorem dX1_childCount_18 : decode cX1_childCount 18 = .ok (.iaload, 1) := by decide +kernel
theorem dX1_childCount_19 : decode cX1_childCount 19 = .ok (.iload_n 1, 1) := by decide +kernel
theorem dX1_childCount_20 : decode cX1_childCount 20 = .ok (.if_icmp .ne 7, 3) := by decide +kernel
theorem dX1_childCount_23 : decode cX1_childCount 23 = .ok (.iconst 1, 1) := by decide +kernel
theorem dX1_childCount_24 : decode cX1_childCount 24 = .ok (.goto 4, 3) := by decide +kernel
theorem dX1_childCount_27 : decode cX1_childCount 27 = .ok (.iconst 0, 1) := by decide +kernel
theorem dX1_childCount_28 : decode cX1_childCount 28 = .ok (.iadd, 1) := by decide +kernel
theorem dX1_childCount_29 : decode cX1_childCount 29 = .ok (.istore_n 2, 1) := by decide +kernel
theorem dX1_childCount_30 : decode cX1_childCount 30 = .ok (.iinc 3 1, 3) := by decide +kernel
theorem dX1_childCount_33 : decode cX1_childCount 33 = .ok (.goto (-29), 3) := by decide +kernel
theorem dX1_childCount_36 : decode cX1_childCount 36 = .ok (.iload_n 2, 1) := by decide +kernel
theorem dX1_childCount_37 : decode cX1_childCount 37 = .ok (.ireturn, 1) := by decide +kernel
theorem dX1_depthOf_0 : decode cX1_depthOf 0 = .ok (.iconst 0, 1) := by decide +kernel
theorem dX1_depthOf_1 : decode cX1_depthOf 1 = .ok (.istore_n 2, 1) := by decide +kernel
theorem dX1_depthOf_2 : decode cX1_depthOf 2 = .ok (.aload_n 0, 1) := by decide +kernel
theorem dX1_depthOf_3 : decode cX1_depthOf 3 = .ok (.getfield 18, 3) := by decide +kernel
theorem dX1_depthOf_6 : decode cX1_depthOf 6 = .ok (.iload_n 1, 1) := by decide +kernel
theorem dX1_depthOf_7 : decode cX1_depthOf 7 = .ok (.iaload, 1) := by decide +kernel
theorem dX1_depthOf_8 : decode cX1_depthOf 8 = .ok (.istore_n 3, 1) := by decide +kernel
theorem dX1_depthOf_9 : decode cX1_depthOf 9 = .ok (.iconst 0, 1) := by decide +kernel
theorem dX1_depthOf_10 : decode cX1_depthOf 10 = .ok (.istore 4, 2) := by decide +kernel
theorem dX1_depthOf_12 : decode cX1_depthOf 12 = .ok (.iload 4, 2) := by decide +kernel
theorem dX1_depthOf_14 : decode cX1_depthOf 14 = .ok (.bipush 110, 2) := by decide +kernel
theorem dX1_depthOf_16 : decode cX1_depthOf 16 = .ok (.if_icmp .ge 27, 3) := by decide +kernel
theorem dX1_depthOf_19 : decode cX1_depthOf 19 = .ok (.aload_n 0, 1) := by decide +kernel
theorem dX1_depthOf_20 : decode cX1_depthOf 20 = .ok (.iload_n 3, 1) := by decide +kernel
theorem dX1_depthOf_21 : decode cX1_depthOf 21 = .ok (.invokevirtual 70, 3) := by decide +kernel
theorem dX1_depthOf_24 : decode cX1_depthOf 24 = .ok (.ifCond .eq 19, 3) := by decide +kernel
theorem dX1_depthOf_27 : decode cX1_depthOf 27 = .ok (.iinc 2 1, 3) := by decide +kernel
theorem dX1_depthOf_30 : decode cX1_depthOf 30 = .ok (.aload_n 0, 1) := by decide +kernel
theorem dX1_depthOf_31 : decode cX1_depthOf 31 = .ok (.getfield 18, 3) := by decide +kernel
theorem dX1_depthOf_34 : decode cX1_depthOf 34 = .ok (.iload_n 3, 1) := by decide +kernel
theorem dX1_depthOf_35 : decode cX1_depthOf 35 = .ok (.iaload, 1) := by decide +kernel
theorem dX1_depthOf_36 : decode cX1_depthOf 36 = .ok (.istore_n 3, 1) := by decide +kernel
theorem dX1_depthOf_37 : decode cX1_depthOf 37 = .ok (.iinc 4 1, 3) := by decide +kernel
theorem dX1_depthOf_40 : decode cX1_depthOf 40 = .ok (.goto (-28), 3) := by decide +kernel
theorem dX1_depthOf_43 : decode cX1_depthOf 43 = .ok (.iload_n 2, 1) := by decide +kernel
theorem dX1_depthOf_44 : decode cX1_depthOf 44 = .ok (.ireturn, 1) := by decide +kernel
theorem dX1_presentBefore_0 : decode cX1_presentBefore 0 = .ok (.aload_n 0, 1) := by decide +kernel
theorem dX1_presentBefore_1 : decode cX1_presentBefore 1 = .ok (.getfield 9, 3) := by decide +kernel
theorem dX1_presentBefore_4 : decode cX1_presentBefore 4 = .ok (.aload_n 0, 1) := by decide +kernel
theorem dX1_presentBefore_5 : decode cX1_presentBefore 5 = .ok (.getfield 27, 3) := by decide +kernel
theorem dX1_presentBefore_8 : decode cX1_presentBefore 8 = .ok (.iload_n 1, 1) := by decide +kernel
theorem dX1_presentBefore_9 : decode cX1_presentBefore 9 = .ok (.iaload, 1) := by decide +kernel
theorem dX1_presentBefore_10 : decode cX1_presentBefore 10 = .ok (.iaload, 1) := by decide +kernel
theorem dX1_presentBefore_11 : decode cX1_presentBefore 11 = .ok (.istore_n 2, 1) := by decide +kernel
theorem dX1_presentBefore_12 : decode cX1_presentBefore 12 = .ok (.aload_n 0, 1) := by decide +kernel
theorem dX1_presentBefore_13 : decode cX1_presentBefore 13 = .ok (.getfield 9, 3) := by decide +kernel
theorem dX1_presentBefore_16 : decode cX1_presentBefore 16 = .ok (.aload_n 0, 1) := by decide +kernel
theorem dX1_presentBefore_17 : decode cX1_presentBefore 17 = .ok (.getfield 27, 3) := by decide +kernel
theorem dX1_presentBefore_20 : decode cX1_presentBefore 20 = .ok (.iload_n 1, 1) := by decide +kernel
theorem dX1_presentBefore_21 : decode cX1_presentBefore 21 = .ok (.iaload, 1) := by decide +kernel
theorem dX1_presentBefore_22 : decode cX1_presentBefore 22 = .ok (.iconst 1, 1) := by decide +kernel
theorem dX1_presentBefore_23 : decode cX1_presentBefore 23 = .ok (.iadd, 1) := by decide +kernel
theorem dX1_presentBefore_24 : decode cX1_presentBefore 24 = .ok (.iaload, 1) := by decide +kernel
theorem dX1_presentBefore_25 : decode cX1_presentBefore 25 = .ok (.istore_n 3, 1) := by decide +kernel
theorem dX1_presentBefore_26 : decode cX1_presentBefore 26 = .ok (.iload_n 1, 1) := by decide +kernel
theorem dX1_presentBefore_27 : decode cX1_presentBefore 27 = .ok (.istore 4, 2) := by decide +kernel
theorem dX1_presentBefore_29 : decode cX1_presentBefore 29 = .ok (.iload_n 2, 1) := by decide +kernel
theorem dX1_presentBefore_30 : decode cX1_presentBefore 30 = .ok (.istore 5, 2) := by decide +kernel
theorem dX1_presentBefore_32 : decode cX1_presentBefore 32 = .ok (.iload 5, 2) := by decide +kernel
theorem dX1_presentBefore_34 : decode cX1_presentBefore 34 = .ok (.iload_n 3, 1) := by decide +kernel
theorem dX1_presentBefore_35 : decode cX1_presentBefore 35 = .ok (.if_icmp .ge 40, 3) := by decide +kernel
theorem dX1_presentBefore_38 : decode cX1_presentBefore 38 = .ok (.iload 4, 2) := by decide +kernel
theorem dX1_presentBefore_40 : decode cX1_presentBefore 40 = .ok (.iload_n 2, 1) := by decide +kernel
theorem dX1_presentBefore_41 : decode cX1_presentBefore 41 = .ok (.if_icmp .le 10, 3) := by decide +kernel
theorem dX1_presentBefore_44 : decode cX1_presentBefore 44 = .ok (.iload 4, 2) := by decide +kernel
theorem dX1_presentBefore_46 : decode cX1_presentBefore 46 = .ok (.iconst 1, 1) := by decide +kernel
theorem dX1_presentBefore_47 : decode cX1_presentBefore 47 = .ok (.isub, 1) := by decide +kernel
theorem dX1_presentBefore_48 : decode cX1_presentBefore 48 = .ok (.goto 6, 3) := by decide +kernel
theorem dX1_presentBefore_51 : decode cX1_presentBefore 51 = .ok (.iload_n 3, 1) := by decide +kernel
theorem dX1_presentBefore_52 : decode cX1_presentBefore 52 = .ok (.iconst 1, 1) := by decide +kernel
theorem dX1_presentBefore_53 : decode cX1_presentBefore 53 = .ok (.isub, 1) := by decide +kernel
theorem dX1_presentBefore_54 : decode cX1_presentBefore 54 = .ok (.istore 4, 2) := by decide +kernel
theorem dX1_presentBefore_56 : decode cX1_presentBefore 56 = .ok (.aload_n 0, 1) := by decide +kernel
theorem dX1_presentBefore_57 : decode cX1_presentBefore 57 = .ok (.getfield 36, 3) := by decide +kernel
theorem dX1_presentBefore_60 : decode cX1_presentBefore 60 = .ok (.iload 4, 2) := by decide +kernel
theorem dX1_presentBefore_62 : decode cX1_presentBefore 62 = .ok (.baload, 1) := by decide +kernel
theorem dX1_presentBefore_63 : decode cX1_presentBefore 63 = .ok (.ifCond .eq 6, 3) := by decide +kernel
theorem dX1_presentBefore_66 : decode cX1_presentBefore 66 = .ok (.iload 4, 2) := by decide +kernel
theorem dX1_presentBefore_68 : decode cX1_presentBefore 68 = .ok (.ireturn, 1) := by decide +kernel
theorem dX1_presentBefore_69 : decode cX1_presentBefore 69 = .ok (.iinc 5 1, 3) := by decide +kernel
theorem dX1_presentBefore_72 : decode cX1_presentBefore 72 = .ok (.goto (-40), 3) := by decide +kernel
theorem dX1_presentBefore_75 : decode cX1_presentBefore 75 = .ok (.iload_n 1, 1) := by decide +kernel
theorem dX1_presentBefore_76 : decode cX1_presentBefore 76 = .ok (.ireturn, 1) := by decide +kernel
theorem dX1_presentAfter_0 : decode cX1_presentAfter 0 = .ok (.iload_n 1, 1) := by decide +kernel
theorem dX1_presentAfter_1 : decode cX1_presentAfter 1 = .ok (.istore_n 2, 1) := by decide +kernel
theorem dX1_presentAfter_2 : decode cX1_presentAfter 2 = .ok (.aload_n 0, 1) := by decide +kernel
theorem dX1_presentAfter_3 : decode cX1_presentAfter 3 = .ok (.getfield 9, 3) := by decide +kernel
theorem dX1_presentAfter_6 : decode cX1_presentAfter 6 = .ok (.aload_n 0, 1) := by decide +kernel
theorem dX1_presentAfter_7 : decode cX1_presentAfter 7 = .ok (.getfield 27, 3) := by decide +kernel
theorem dX1_presentAfter_10 : decode cX1_presentAfter 10 = .ok (.iload_n 1, 1) := by decide +kernel
theorem dX1_presentAfter_11 : decode cX1_presentAfter 11 = .ok (.iaload, 1) := by decide +kernel
theorem dX1_presentAfter_12 : decode cX1_presentAfter 12 = .ok (.iaload, 1) := by decide +kernel
theorem dX1_presentAfter_13 : decode cX1_presentAfter 13 = .ok (.istore_n 3, 1) := by decide +kernel
theorem dX1_presentAfter_14 : decode cX1_presentAfter 14 = .ok (.iload_n 3, 1) := by decide +kernel
theorem dX1_presentAfter_15 : decode cX1_presentAfter 15 = .ok (.aload_n 0, 1) := by decide +kernel
theorem dX1_presentAfter_16 : decode cX1_presentAfter 16 = .ok (.getfield 9, 3) := by decide +kernel
theorem dX1_presentAfter_19 : decode cX1_presentAfter 19 = .ok (.aload_n 0, 1) := by decide +kernel
theorem dX1_presentAfter_20 : decode cX1_presentAfter 20 = .ok (.getfield 27, 3) := by decide +kernel
theorem dX1_presentAfter_23 : decode cX1_presentAfter 23 = .ok (.iload_n 1, 1) := by decide +kernel
theorem dX1_presentAfter_24 : decode cX1_presentAfter 24 = .ok (.iaload, 1) := by decide +kernel
theorem dX1_presentAfter_25 : decode cX1_presentAfter 25 = .ok (.iconst 1, 1) := by decide +kernel
theorem dX1_presentAfter_26 : decode cX1_presentAfter 26 = .ok (.iadd, 1) := by decide +kernel
theorem dX1_presentAfter_27 : decode cX1_presentAfter 27 = .ok (.iaload, 1) := by decide +kernel
theorem dX1_presentAfter_28 : decode cX1_presentAfter 28 = .ok (.if_icmp .ge 26, 3) := by decide +kernel
theorem dX1_presentAfter_31 : decode cX1_presentAfter 31 = .ok (.aload_n 0, 1) := by decide +kernel
theorem dX1_presentAfter_32 : decode cX1_presentAfter 32 = .ok (.iload_n 2, 1) := by decide +kernel
theorem dX1_presentAfter_33 : decode cX1_presentAfter 33 = .ok (.invokevirtual 81, 3) := by decide +kernel
theorem dX1_presentAfter_36 : decode cX1_presentAfter 36 = .ok (.istore_n 2, 1) := by decide +kernel
theorem dX1_presentAfter_37 : decode cX1_presentAfter 37 = .ok (.aload_n 0, 1) := by decide +kernel
theorem dX1_presentAfter_38 : decode cX1_presentAfter 38 = .ok (.getfield 36, 3) := by decide +kernel
theorem dX1_presentAfter_41 : decode cX1_presentAfter 41 = .ok (.iload_n 2, 1) := by decide +kernel
theorem dX1_presentAfter_42 : decode cX1_presentAfter 42 = .ok (.baload, 1) := by decide +kernel
theorem dX1_presentAfter_43 : decode cX1_presentAfter 43 = .ok (.ifCond .eq 5, 3) := by decide +kernel
theorem dX1_presentAfter_46 : decode cX1_presentAfter 46 = .ok (.iload_n 2, 1) := by decide +kernel
theorem dX1_presentAfter_47 : decode cX1_presentAfter 47 = .ok (.ireturn, 1) := by decide +kernel
theorem dX1_presentAfter_48 : decode cX1_presentAfter 48 = .ok (.iinc 3 1, 3) := by decide +kernel
theorem dX1_presentAfter_51 : decode cX1_presentAfter 51 = .ok (.goto (-37), 3) := by decide +kernel
theorem dX1_presentAfter_54 : decode cX1_presentAfter 54 = .ok (.iload_n 1, 1) := by decide +kernel
theorem dX1_presentAfter_55 : decode cX1_presentAfter 55 = .ok (.ireturn, 1) := by decide +kernel
theorem dX1_tracedAfter_0 : decode cX1_tracedAfter 0 = .ok (.iload_n 1, 1) := by decide +kernel
theorem dX1_tracedAfter_1 : decode cX1_tracedAfter 1 = .ok (.iconst 1, 1) := by decide +kernel
theorem dX1_tracedAfter_2 : decode cX1_tracedAfter 2 = .ok (.iadd, 1) := by decide +kernel
theorem dX1_tracedAfter_3 : decode cX1_tracedAfter 3 = .ok (.aload_n 0, 1) := by decide +kernel
theorem dX1_tracedAfter_4 : decode cX1_tracedAfter 4 = .ok (.getfield 9, 3) := by decide +kernel
theorem dX1_tracedAfter_7 : decode cX1_tracedAfter 7 = .ok (.aload_n 0, 1) := by decide +kernel
theorem dX1_tracedAfter_8 : decode cX1_tracedAfter 8 = .ok (.getfield 27, 3) := by decide +kernel
theorem dX1_tracedAfter_11 : decode cX1_tracedAfter 11 = .ok (.iload_n 1, 1) := by decide +kernel
theorem dX1_tracedAfter_12 : decode cX1_tracedAfter 12 = .ok (.iaload, 1) := by decide +kernel
theorem dX1_tracedAfter_13 : decode cX1_tracedAfter 13 = .ok (.iconst 1, 1) := by decide +kernel
theorem dX1_tracedAfter_14 : decode cX1_tracedAfter 14 = .ok (.iadd, 1) := by decide +kernel
theorem dX1_tracedAfter_15 : decode cX1_tracedAfter 15 = .ok (.iaload, 1) := by decide +kernel
theorem dX1_tracedAfter_16 : decode cX1_tracedAfter 16 = .ok (.if_icmp .ge 9, 3) := by decide +kernel
theorem dX1_tracedAfter_19 : decode cX1_tracedAfter 19 = .ok (.iload_n 1, 1) := by decide +kernel
theorem dX1_tracedAfter_20 : decode cX1_tracedAfter 20 = .ok (.iconst 1, 1) := by decide +kernel
theorem dX1_tracedAfter_21 : decode cX1_tracedAfter 21 = .ok (.iadd, 1) := by decide +kernel
theorem dX1_tracedAfter_22 : decode cX1_tracedAfter 22 = .ok (.goto 14, 3) := by decide +kernel
theorem dX1_tracedAfter_25 : decode cX1_tracedAfter 25 = .ok (.aload_n 0, 1) := by decide +kernel
theorem dX1_tracedAfter_26 : decode cX1_tracedAfter 26 = .ok (.getfield 9, 3) := by decide +kernel
theorem dX1_tracedAfter_29 : decode cX1_tracedAfter 29 = .ok (.aload_n 0, 1) := by decide +kernel
theorem dX1_tracedAfter_30 : decode cX1_tracedAfter 30 = .ok (.getfield 27, 3) := by decide +kernel
theorem dX1_tracedAfter_33 : decode cX1_tracedAfter 33 = .ok (.iload_n 1, 1) := by decide +kernel
theorem dX1_tracedAfter_34 : decode cX1_tracedAfter 34 = .ok (.iaload, 1) := by decide +kernel
theorem dX1_tracedAfter_35 : decode cX1_tracedAfter 35 = .ok (.iaload, 1) := by decide +kernel
theorem dX1_tracedAfter_36 : decode cX1_tracedAfter 36 = .ok (.ireturn, 1) := by decide +kernel
theorem dX1_doubledArea_0 : decode cX1_doubledArea 0 = .ok (.iconst 0, 1) := by decide +kernel
theorem dX1_doubledArea_1 : decode cX1_doubledArea 1 = .ok (.istore_n 2, 1) := by decide +kernel
theorem dX1_doubledArea_2 : decode cX1_doubledArea 2 = .ok (.aload_n 0, 1) := by decide +kernel
theorem dX1_doubledArea_3 : decode cX1_doubledArea 3 = .ok (.getfield 9, 3) := by decide +kernel
theorem dX1_doubledArea_6 : decode cX1_doubledArea 6 = .ok (.iload_n 1, 1) := by decide +kernel
theorem dX1_doubledArea_7 : decode cX1_doubledArea 7 = .ok (.iaload, 1) := by decide +kernel
theorem dX1_doubledArea_8 : decode cX1_doubledArea 8 = .ok (.istore_n 3, 1) := by decide +kernel
theorem dX1_doubledArea_9 : decode cX1_doubledArea 9 = .ok (.iload_n 3, 1) := by decide +kernel
theorem dX1_doubledArea_10 : decode cX1_doubledArea 10 = .ok (.aload_n 0, 1) := by decide +kernel
theorem dX1_doubledArea_11 : decode cX1_doubledArea 11 = .ok (.getfield 9, 3) := by decide +kernel
theorem dX1_doubledArea_14 : decode cX1_doubledArea 14 = .ok (.iload_n 1, 1) := by decide +kernel
theorem dX1_doubledArea_15 : decode cX1_doubledArea 15 = .ok (.iconst 1, 1) := by decide +kernel
theorem dX1_doubledArea_16 : decode cX1_doubledArea 16 = .ok (.iadd, 1) := by decide +kernel
theorem dX1_doubledArea_17 : decode cX1_doubledArea 17 = .ok (.iaload, 1) := by decide +kernel
theorem dX1_doubledArea_18 : decode cX1_doubledArea 18 = .ok (.if_icmp .ge 57, 3) := by decide +kernel
theorem dX1_doubledArea_21 : decode cX1_doubledArea 21 = .ok (.aload_n 0, 1) := by decide +kernel
theorem dX1_doubledArea_22 : decode cX1_doubledArea 22 = .ok (.getfield 36, 3) := by decide +kernel
theorem dX1_doubledArea_25 : decode cX1_doubledArea 25 = .ok (.iload_n 3, 1) := by decide +kernel
theorem dX1_doubledArea_26 : decode cX1_doubledArea 26 = .ok (.baload, 1) := by decide +kernel
theorem dX1_doubledArea_27 : decode cX1_doubledArea 27 = .ok (.ifCond .eq 42, 3) := by decide +kernel
theorem dX1_doubledArea_30 : decode cX1_doubledArea 30 = .ok (.aload_n 0, 1) := by decide +kernel
theorem dX1_doubledArea_31 : decode cX1_doubledArea 31 = .ok (.iload_n 3, 1) := by decide +kernel
theorem dX1_doubledArea_32 : decode cX1_doubledArea 32 = .ok (.invokevirtual 84, 3) := by decide +kernel
theorem dX1_doubledArea_35 : decode cX1_doubledArea 35 = .ok (.istore 4, 2) := by decide +kernel
theorem dX1_doubledArea_37 : decode cX1_doubledArea 37 = .ok (.iload_n 2, 1) := by decide +kernel
theorem dX1_doubledArea_38 : decode cX1_doubledArea 38 = .ok (.aload_n 0, 1) := by decide +kernel
theorem dX1_doubledArea_39 : decode cX1_doubledArea 39 = .ok (.getfield 30, 3) := by decide +kernel
theorem dX1_doubledArea_42 : decode cX1_doubledArea 42 = .ok (.iload_n 3, 1) := by decide +kernel
theorem dX1_doubledArea_43 : decode cX1_doubledArea 43 = .ok (.iaload, 1) := by decide +kernel
theorem dX1_doubledArea_44 : decode cX1_doubledArea 44 = .ok (.aload_n 0, 1) := by decide +kernel
theorem dX1_doubledArea_45 : decode cX1_doubledArea 45 = .ok (.getfield 33, 3) := by decide +kernel
theorem dX1_doubledArea_48 : decode cX1_doubledArea 48 = .ok (.iload 4, 2) := by decide +kernel
theorem dX1_doubledArea_50 : decode cX1_doubledArea 50 = .ok (.iaload, 1) := by decide +kernel
theorem dX1_doubledArea_51 : decode cX1_doubledArea 51 = .ok (.imul, 1) := by decide +kernel
theorem dX1_doubledArea_52 : decode cX1_doubledArea 52 = .ok (.aload_n 0, 1) := by decide +kernel
theorem dX1_doubledArea_53 : decode cX1_doubledArea 53 = .ok (.getfield 30, 3) := by decide +kernel
theorem dX1_doubledArea_56 : decode cX1_doubledArea 56 = .ok (.iload 4, 2) := by decide +kernel
theorem dX1_doubledArea_58 : decode cX1_doubledArea 58 = .ok (.iaload, 1) := by decide +kernel
theorem dX1_doubledArea_59 : decode cX1_doubledArea 59 = .ok (.aload_n 0, 1) := by decide +kernel
theorem dX1_doubledArea_60 : decode cX1_doubledArea 60 = .ok (.getfield 33, 3) := by decide +kernel
theorem dX1_doubledArea_63 : decode cX1_doubledArea 63 = .ok (.iload_n 3, 1) := by decide +kernel
theorem dX1_doubledArea_64 : decode cX1_doubledArea 64 = .ok (.iaload, 1) := by decide +kernel
theorem dX1_doubledArea_65 : decode cX1_doubledArea 65 = .ok (.imul, 1) := by decide +kernel
theorem dX1_doubledArea_66 : decode cX1_doubledArea 66 = .ok (.isub, 1) := by decide +kernel
theorem dX1_doubledArea_67 : decode cX1_doubledArea 67 = .ok (.iadd, 1) := by decide +kernel
theorem dX1_doubledArea_68 : decode cX1_doubledArea 68 = .ok (.istore_n 2, 1) := by decide +kernel
theorem dX1_doubledArea_69 : decode cX1_doubledArea 69 = .ok (.iinc 3 1, 3) := by decide +kernel
theorem dX1_doubledArea_72 : decode cX1_doubledArea 72 = .ok (.goto (-63), 3) := by decide +kernel
theorem dX1_doubledArea_75 : decode cX1_doubledArea 75 = .ok (.iload_n 2, 1) := by decide +kernel
theorem dX1_doubledArea_76 : decode cX1_doubledArea 76 = .ok (.ireturn, 1) := by decide +kernel
theorem dX1_atPlaceBySize_0 : decode cX1_atPlaceBySize 0 = .ok (.iconst 0, 1) := by decide +kernel
theorem dX1_atPlaceBySize_1 : decode cX1_atPlaceBySize 1 = .ok (.istore_n 2, 1) := by decide +kernel
theorem dX1_atPlaceBySize_2 : decode cX1_atPlaceBySize 2 = .ok (.iload_n 2, 1) := by decide +kernel
theorem dX1_atPlaceBySize_3 : decode cX1_atPlaceBySize 3 = .ok (.aload_n 0, 1) := by decide +kernel
theorem dX1_atPlaceBySize_4 : decode cX1_atPlaceBySize 4 = .ok (.getfield 47, 3) := by decide +kernel
theorem dX1_atPlaceBySize_7 : decode cX1_atPlaceBySize 7 = .ok (.if_icmp .ge 23, 3) := by decide +kernel
theorem dX1_atPlaceBySize_10 : decode cX1_atPlaceBySize 10 = .ok (.aload_n 0, 1) := by decide +kernel
theorem dX1_atPlaceBySize_11 : decode cX1_atPlaceBySize 11 = .ok (.getfield 24, 3) := by decide +kernel
theorem dX1_atPlaceBySize_14 : decode cX1_atPlaceBySize 14 = .ok (.iload_n 2, 1) := by decide +kernel
theorem dX1_atPlaceBySize_15 : decode cX1_atPlaceBySize 15 = .ok (.aload_n 0, 1) := by decide +kernel
theorem dX1_atPlaceBySize_16 : decode cX1_atPlaceBySize 16 = .ok (.iload_n 2, 1) := by decide +kernel
theorem dX1_atPlaceBySize_17 : decode cX1_atPlaceBySize 17 = .ok (.invokevirtual 87, 3) := by decide +kernel
theorem dX1_atPlaceBySize_20 : decode cX1_atPlaceBySize 20 = .ok (.invokestatic 90, 3) := by decide +kernel
theorem dX1_atPlaceBySize_23 : decode cX1_atPlaceBySize 23 = .ok (.iastore, 1) := by decide +kernel
theorem dX1_atPlaceBySize_24 : decode cX1_atPlaceBySize 24 = .ok (.iinc 2 1, 3) := by decide +kernel
theorem dX1_atPlaceBySize_27 : decode cX1_atPlaceBySize 27 = .ok (.goto (-25), 3) := by decide +kernel
theorem dX1_atPlaceBySize_30 : decode cX1_atPlaceBySize 30 = .ok (.iconst 0, 1) := by decide +kernel
theorem dX1_atPlaceBySize_31 : decode cX1_atPlaceBySize 31 = .ok (.istore_n 2, 1) := by decide +kernel
theorem dX1_atPlaceBySize_32 : decode cX1_atPlaceBySize 32 = .ok (.iload_n 2, 1) := by decide +kernel
theorem dX1_atPlaceBySize_33 : decode cX1_atPlaceBySize 33 = .ok (.aload_n 0, 1) := by decide +kernel
theorem dX1_atPlaceBySize_34 : decode cX1_atPlaceBySize 34 = .ok (.getfield 47, 3) := by decide +kernel
theorem dX1_atPlaceBySize_37 : decode cX1_atPlaceBySize 37 = .ok (.if_icmp .ge 20, 3) := by decide +kernel
theorem dX1_atPlaceBySize_40 : decode cX1_atPlaceBySize 40 = .ok (.aload_n 0, 1) := by decide +kernel
theorem dX1_atPlaceBySize_41 : decode cX1_atPlaceBySize 41 = .ok (.iload_n 2, 1) := by decide +kernel
theorem dX1_atPlaceBySize_42 : decode cX1_atPlaceBySize 42 = .ok (.invokevirtual 95, 3) := by decide +kernel
theorem dX1_atPlaceBySize_45 : decode cX1_atPlaceBySize 45 = .ok (.iload_n 1, 1) := by decide +kernel
theorem dX1_atPlaceBySize_46 : decode cX1_atPlaceBySize 46 = .ok (.if_icmp .ne 5, 3) := by decide +kernel
theorem dX1_atPlaceBySize_49 : decode cX1_atPlaceBySize 49 = .ok (.iload_n 2, 1) := by decide +kernel
theorem dX1_atPlaceBySize_50 : decode cX1_atPlaceBySize 50 = .ok (.ireturn, 1) := by decide +kernel
theorem dX1_atPlaceBySize_51 : decode cX1_atPlaceBySize 51 = .ok (.iinc 2 1, 3) := by decide +kernel
theorem dX1_atPlaceBySize_54 : decode cX1_atPlaceBySize 54 = .ok (.goto (-22), 3) := by decide +kernel
theorem dX1_atPlaceBySize_57 : decode cX1_atPlaceBySize 57 = .ok (.iconst (-1), 1) := by decide +kernel
theorem dX1_atPlaceBySize_58 : decode cX1_atPlaceBySize 58 = .ok (.ireturn, 1) := by decide +kernel
theorem dX1_placeBySize_0 : decode cX1_placeBySize 0 = .ok (.iconst 0, 1) := by decide +kernel
theorem dX1_placeBySize_1 : decode cX1_placeBySize 1 = .ok (.istore_n 2, 1) := by decide +kernel
theorem dX1_placeBySize_2 : decode cX1_placeBySize 2 = .ok (.iconst 0, 1) := by decide +kernel
theorem dX1_placeBySize_3 : decode cX1_placeBySize 3 = .ok (.istore_n 3, 1) := by decide +kernel
theorem dX1_placeBySize_4 : decode cX1_placeBySize 4 = .ok (.iload_n 3, 1) := by decide +kernel
theorem dX1_placeBySize_5 : decode cX1_placeBySize 5 = .ok (.aload_n 0, 1) := by decide +kernel
theorem dX1_placeBySize_6 : decode cX1_placeBySize 6 = .ok (.getfield 47, 3) := by decide +kernel
theorem dX1_placeBySize_9 : decode cX1_placeBySize 9 = .ok (.if_icmp .ge 64, 3) := by decide +kernel
theorem dX1_placeBySize_12 : decode cX1_placeBySize 12 = .ok (.aload_n 0, 1) := by decide +kernel
theorem dX1_placeBySize_13 : decode cX1_placeBySize 13 = .ok (.getfield 24, 3) := by decide +kernel
theorem dX1_placeBySize_16 : decode cX1_placeBySize 16 = .ok (.iload_n 3, 1) := by decide +kernel
theorem dX1_placeBySize_17 : decode cX1_placeBySize 17 = .ok (.iaload, 1) := by decide +kernel
theorem dX1_placeBySize_18 : decode cX1_placeBySize 18 = .ok (.aload_n 0, 1) := by decide +kernel
theorem dX1_placeBySize_19 : decode cX1_placeBySize 19 = .ok (.getfield 24, 3) := by decide +kernel
theorem dX1_placeBySize_22 : decode cX1_placeBySize 22 = .ok (.iload_n 1, 1) := by decide +kernel
theorem dX1_placeBySize_23 : decode cX1_placeBySize 23 = .ok (.iaload, 1) := by decide +kernel
theorem dX1_placeBySize_24 : decode cX1_placeBySize 24 = .ok (.if_icmp .gt 23, 3) := by decide +kernel
theorem dX1_placeBySize_27 : decode cX1_placeBySize 27 = .ok (.aload_n 0, 1) := by decide +kernel
theorem dX1_placeBySize_28 : decode cX1_placeBySize 28 = .ok (.getfield 24, 3) := by decide +kernel
theorem dX1_placeBySize_31 : decode cX1_placeBySize 31 = .ok (.iload_n 3, 1) := by decide +kernel
theorem dX1_placeBySize_32 : decode cX1_placeBySize 32 = .ok (.iaload, 1) := by decide +kernel
theorem dX1_placeBySize_33 : decode cX1_placeBySize 33 = .ok (.aload_n 0, 1) := by decide +kernel
theorem dX1_placeBySize_34 : decode cX1_placeBySize 34 = .ok (.getfield 24, 3) := by decide +kernel
theorem dX1_placeBySize_37 : decode cX1_placeBySize 37 = .ok (.iload_n 1, 1) := by decide +kernel
theorem dX1_placeBySize_38 : decode cX1_placeBySize 38 = .ok (.iaload, 1) := by decide +kernel
theorem dX1_placeBySize_39 : decode cX1_placeBySize 39 = .ok (.if_icmp .ne 12, 3) := by decide +kernel
theorem dX1_placeBySize_42 : decode cX1_placeBySize 42 = .ok (.iload_n 3, 1) := by decide +kernel
theorem dX1_placeBySize_43 : decode cX1_placeBySize 43 = .ok (.iload_n 1, 1) := by decide +kernel
theorem dX1_placeBySize_44 : decode cX1_placeBySize 44 = .ok (.if_icmp .ge 7, 3) := by decide +kernel
theorem dX1_placeBySize_47 : decode cX1_placeBySize 47 = .ok (.iconst 1, 1) := by decide +kernel
theorem dX1_placeBySize_48 : decode cX1_placeBySize 48 = .ok (.goto 4, 3) := by decide +kernel
theorem dX1_placeBySize_51 : decode cX1_placeBySize 51 = .ok (.iconst 0, 1) := by decide +kernel
theorem dX1_placeBySize_52 : decode cX1_placeBySize 52 = .ok (.istore 4, 2) := by decide +kernel
theorem dX1_placeBySize_54 : decode cX1_placeBySize 54 = .ok (.iload_n 2, 1) := by decide +kernel
theorem dX1_placeBySize_55 : decode cX1_placeBySize 55 = .ok (.iload 4, 2) := by decide +kernel
theorem dX1_placeBySize_57 : decode cX1_placeBySize 57 = .ok (.ifCond .eq 7, 3) := by decide +kernel
theorem dX1_placeBySize_60 : decode cX1_placeBySize 60 = .ok (.iconst 1, 1) := by decide +kernel
theorem dX1_placeBySize_61 : decode cX1_placeBySize 61 = .ok (.goto 4, 3) := by decide +kernel
theorem dX1_placeBySize_64 : decode cX1_placeBySize 64 = .ok (.iconst 0, 1) := by decide +kernel
theorem dX1_placeBySize_65 : decode cX1_placeBySize 65 = .ok (.iadd, 1) := by decide +kernel
theorem dX1_placeBySize_66 : decode cX1_placeBySize 66 = .ok (.istore_n 2, 1) := by decide +kernel
theorem dX1_placeBySize_67 : decode cX1_placeBySize 67 = .ok (.iinc 3 1, 3) := by decide +kernel
theorem dX1_placeBySize_70 : decode cX1_placeBySize 70 = .ok (.goto (-66), 3) := by decide +kernel
theorem dX1_placeBySize_73 : decode cX1_placeBySize 73 = .ok (.iload_n 2, 1) := by decide +kernel
theorem dX1_placeBySize_74 : decode cX1_placeBySize 74 = .ok (.ireturn, 1) := by decide +kernel
theorem dX1_wayLength_0 : decode cX1_wayLength 0 = .ok (.aload_n 0, 1) := by decide +kernel
theorem dX1_wayLength_1 : decode cX1_wayLength 1 = .ok (.iload_n 1, 1) := by decide +kernel
theorem dX1_wayLength_2 : decode cX1_wayLength 2 = .ok (.invokevirtual 81, 3) := by decide +kernel
theorem dX1_wayLength_5 : decode cX1_wayLength 5 = .ok (.istore_n 2, 1) := by decide +kernel
theorem dX1_wayLength_6 : decode cX1_wayLength 6 = .ok (.aload_n 0, 1) := by decide +kernel
theorem dX1_wayLength_7 : decode cX1_wayLength 7 = .ok (.getfield 30, 3) := by decide +kernel
theorem dX1_wayLength_10 : decode cX1_wayLength 10 = .ok (.iload_n 2, 1) := by decide +kernel
theorem dX1_wayLength_11 : decode cX1_wayLength 11 = .ok (.iaload, 1) := by decide +kernel
theorem dX1_wayLength_12 : decode cX1_wayLength 12 = .ok (.aload_n 0, 1) := by decide +kernel
theorem dX1_wayLength_13 : decode cX1_wayLength 13 = .ok (.getfield 30, 3) := by decide +kernel
theorem dX1_wayLength_16 : decode cX1_wayLength 16 = .ok (.iload_n 1, 1) := by decide +kernel
theorem dX1_wayLength_17 : decode cX1_wayLength 17 = .ok (.iaload, 1) := by decide +kernel
theorem dX1_wayLength_18 : decode cX1_wayLength 18 = .ok (.isub, 1) := by decide +kernel
theorem dX1_wayLength_19 : decode cX1_wayLength 19 = .ok (.invokestatic 90, 3) := by decide +kernel
theorem dX1_wayLength_22 : decode cX1_wayLength 22 = .ok (.aload_n 0, 1) := by decide +kernel
theorem dX1_wayLength_23 : decode cX1_wayLength 23 = .ok (.getfield 33, 3) := by decide +kernel
theorem dX1_wayLength_26 : decode cX1_wayLength 26 = .ok (.iload_n 2, 1) := by decide +kernel
theorem dX1_wayLength_27 : decode cX1_wayLength 27 = .ok (.iaload, 1) := by decide +kernel
theorem dX1_wayLength_28 : decode cX1_wayLength 28 = .ok (.aload_n 0, 1) := by decide +kernel
theorem dX1_wayLength_29 : decode cX1_wayLength 29 = .ok (.getfield 33, 3) := by decide +kernel
theorem dX1_wayLength_32 : decode cX1_wayLength 32 = .ok (.iload_n 1, 1) := by decide +kernel
theorem dX1_wayLength_33 : decode cX1_wayLength 33 = .ok (.iaload, 1) := by decide +kernel
theorem dX1_wayLength_34 : decode cX1_wayLength 34 = .ok (.isub, 1) := by decide +kernel
theorem dX1_wayLength_35 : decode cX1_wayLength 35 = .ok (.invokestatic 90, 3) := by decide +kernel
theorem dX1_wayLength_38 : decode cX1_wayLength 38 = .ok (.iadd, 1) := by decide +kernel
theorem dX1_wayLength_39 : decode cX1_wayLength 39 = .ok (.ireturn, 1) := by decide +kernel
theorem dX1_arrowCount_0 : decode cX1_arrowCount 0 = .ok (.iconst 0, 1) := by decide +kernel
theorem dX1_arrowCount_1 : decode cX1_arrowCount 1 = .ok (.istore_n 2, 1) := by decide +kernel
theorem dX1_arrowCount_2 : decode cX1_arrowCount 2 = .ok (.aload_n 0, 1) := by decide +kernel
theorem dX1_arrowCount_3 : decode cX1_arrowCount 3 = .ok (.getfield 9, 3) := by decide +kernel
theorem dX1_arrowCount_6 : decode cX1_arrowCount 6 = .ok (.iload_n 1, 1) := by decide +kernel
theorem dX1_arrowCount_7 : decode cX1_arrowCount 7 = .ok (.iaload, 1) := by decide +kernel
theorem dX1_arrowCount_8 : decode cX1_arrowCount 8 = .ok (.istore_n 3, 1) := by decide +kernel
theorem dX1_arrowCount_9 : decode cX1_arrowCount 9 = .ok (.iload_n 3, 1) := by decide +kernel
theorem dX1_arrowCount_10 : decode cX1_arrowCount 10 = .ok (.aload_n 0, 1) := by decide +kernel
theorem dX1_arrowCount_11 : decode cX1_arrowCount 11 = .ok (.getfield 9, 3) := by decide +kernel
theorem dX1_arrowCount_14 : decode cX1_arrowCount 14 = .ok (.iload_n 1, 1) := by decide +kernel
theorem dX1_arrowCount_15 : decode cX1_arrowCount 15 = .ok (.iconst 1, 1) := by decide +kernel
theorem dX1_arrowCount_16 : decode cX1_arrowCount 16 = .ok (.iadd, 1) := by decide +kernel
theorem dX1_arrowCount_17 : decode cX1_arrowCount 17 = .ok (.iaload, 1) := by decide +kernel
theorem dX1_arrowCount_18 : decode cX1_arrowCount 18 = .ok (.if_icmp .ge 17, 3) := by decide +kernel
theorem dX1_arrowCount_21 : decode cX1_arrowCount 21 = .ok (.iload_n 2, 1) := by decide +kernel
theorem dX1_arrowCount_22 : decode cX1_arrowCount 22 = .ok (.aload_n 0, 1) := by decide +kernel
theorem dX1_arrowCount_23 : decode cX1_arrowCount 23 = .ok (.iload_n 3, 1) := by decide +kernel
theorem dX1_arrowCount_24 : decode cX1_arrowCount 24 = .ok (.invokevirtual 98, 3) := by decide +kernel
theorem dX1_arrowCount_27 : decode cX1_arrowCount 27 = .ok (.iadd, 1) := by decide +kernel
theorem dX1_arrowCount_28 : decode cX1_arrowCount 28 = .ok (.istore_n 2, 1) := by decide +kernel
theorem dX1_arrowCount_29 : decode cX1_arrowCount 29 = .ok (.iinc 3 1, 3) := by decide +kernel
theorem dX1_arrowCount_32 : decode cX1_arrowCount 32 = .ok (.goto (-23), 3) := by decide +kernel
theorem dX1_arrowCount_35 : decode cX1_arrowCount 35 = .ok (.iload_n 2, 1) := by decide +kernel
theorem dX1_arrowCount_36 : decode cX1_arrowCount 36 = .ok (.ireturn, 1) := by decide +kernel
theorem dX1_chainPartLength_0 : decode cX1_chainPartLength 0 = .ok (.aload_n 0, 1) := by decide +kernel
theorem dX1_chainPartLength_1 : decode cX1_chainPartLength 1 = .ok (.iload_n 1, 1) := by decide +kernel
theorem dX1_chainPartLength_2 : decode cX1_chainPartLength 2 = .ok (.invokevirtual 98, 3) := by decide +kernel
theorem dX1_chainPartLength_5 : decode cX1_chainPartLength 5 = .ok (.bipush 10, 2) := by decide +kernel
theorem dX1_chainPartLength_7 : decode cX1_chainPartLength 7 = .ok (.if_icmp .ge 7, 3) := by decide +kernel
theorem dX1_chainPartLength_10 : decode cX1_chainPartLength 10 = .ok (.iconst 2, 1) := by decide +kernel
theorem dX1_chainPartLength_11 : decode cX1_chainPartLength 11 = .ok (.goto 4, 3) := by decide +kernel
theorem dX1_chainPartLength_14 : decode cX1_chainPartLength 14 = .ok (.iconst 3, 1) := by decide +kernel
theorem dX1_chainPartLength_15 : decode cX1_chainPartLength 15 = .ok (.ireturn, 1) := by decide +kernel
theorem dX1_chainLength_0 : decode cX1_chainLength 0 = .ok (.iconst 0, 1) := by decide +kernel
theorem dX1_chainLength_1 : decode cX1_chainLength 1 = .ok (.istore_n 2, 1) := by decide +kernel
theorem dX1_chainLength_2 : decode cX1_chainLength 2 = .ok (.aload_n 0, 1) := by decide +kernel
theorem dX1_chainLength_3 : decode cX1_chainLength 3 = .ok (.getfield 9, 3) := by decide +kernel
theorem dX1_chainLength_6 : decode cX1_chainLength 6 = .ok (.iload_n 1, 1) := by decide +kernel
theorem dX1_chainLength_7 : decode cX1_chainLength 7 = .ok (.iaload, 1) := by decide +kernel
theorem dX1_chainLength_8 : decode cX1_chainLength 8 = .ok (.istore_n 3, 1) := by decide +kernel
theorem dX1_chainLength_9 : decode cX1_chainLength 9 = .ok (.iload_n 3, 1) := by decide +kernel
theorem dX1_chainLength_10 : decode cX1_chainLength 10 = .ok (.aload_n 0, 1) := by decide +kernel
theorem dX1_chainLength_11 : decode cX1_chainLength 11 = .ok (.getfield 9, 3) := by decide +kernel
theorem dX1_chainLength_14 : decode cX1_chainLength 14 = .ok (.iload_n 1, 1) := by decide +kernel
theorem dX1_chainLength_15 : decode cX1_chainLength 15 = .ok (.iconst 1, 1) := by decide +kernel
theorem dX1_chainLength_16 : decode cX1_chainLength 16 = .ok (.iadd, 1) := by decide +kernel
theorem dX1_chainLength_17 : decode cX1_chainLength 17 = .ok (.iaload, 1) := by decide +kernel
theorem dX1_chainLength_18 : decode cX1_chainLength 18 = .ok (.if_icmp .ge 17, 3) := by decide +kernel
theorem dX1_chainLength_21 : decode cX1_chainLength 21 = .ok (.iload_n 2, 1) := by decide +kernel
theorem dX1_chainLength_22 : decode cX1_chainLength 22 = .ok (.aload_n 0, 1) := by decide +kernel
theorem dX1_chainLength_23 : decode cX1_chainLength 23 = .ok (.iload_n 3, 1) := by decide +kernel
theorem dX1_chainLength_24 : decode cX1_chainLength 24 = .ok (.invokevirtual 101, 3) := by decide +kernel
theorem dX1_chainLength_27 : decode cX1_chainLength 27 = .ok (.iadd, 1) := by decide +kernel
theorem dX1_chainLength_28 : decode cX1_chainLength 28 = .ok (.istore_n 2, 1) := by decide +kernel
theorem dX1_chainLength_29 : decode cX1_chainLength 29 = .ok (.iinc 3 1, 3) := by decide +kernel
theorem dX1_chainLength_32 : decode cX1_chainLength 32 = .ok (.goto (-23), 3) := by decide +kernel
theorem dX1_chainLength_35 : decode cX1_chainLength 35 = .ok (.iload_n 2, 1) := by decide +kernel
theorem dX1_chainLength_36 : decode cX1_chainLength 36 = .ok (.ireturn, 1) := by decide +kernel
theorem dX1_chainCharacter_0 : decode cX1_chainCharacter 0 = .ok (.iload_n 2, 1) := by decide +kernel
theorem dX1_chainCharacter_1 : decode cX1_chainCharacter 1 = .ok (.istore_n 3, 1) := by decide +kernel
theorem dX1_chainCharacter_2 : decode cX1_chainCharacter 2 = .ok (.aload_n 0, 1) := by decide +kernel
theorem dX1_chainCharacter_3 : decode cX1_chainCharacter 3 = .ok (.getfield 9, 3) := by decide +kernel
theorem dX1_chainCharacter_6 : decode cX1_chainCharacter 6 = .ok (.iload_n 1, 1) := by decide +kernel
theorem dX1_chainCharacter_7 : decode cX1_chainCharacter 7 = .ok (.iaload, 1) := by decide +kernel
theorem dX1_chainCharacter_8 : decode cX1_chainCharacter 8 = .ok (.istore 4, 2) := by decide +kernel
theorem dX1_chainCharacter_10 : decode cX1_chainCharacter 10 = .ok (.iload 4, 2) := by decide +kernel
theorem dX1_chainCharacter_12 : decode cX1_chainCharacter 12 = .ok (.aload_n 0, 1) := by decide +kernel
theorem dX1_chainCharacter_13 : decode cX1_chainCharacter 13 = .ok (.getfield 9, 3) := by decide +kernel
theorem dX1_chainCharacter_16 : decode cX1_chainCharacter 16 = .ok (.iload_n 1, 1) := by decide +kernel
theorem dX1_chainCharacter_17 : decode cX1_chainCharacter 17 = .ok (.iconst 1, 1) := by decide +kernel
theorem dX1_chainCharacter_18 : decode cX1_chainCharacter 18 = .ok (.iadd, 1) := by decide +kernel
theorem dX1_chainCharacter_19 : decode cX1_chainCharacter 19 = .ok (.iaload, 1) := by decide +kernel
theorem dX1_chainCharacter_20 : decode cX1_chainCharacter 20 = .ok (.if_icmp .ge 54, 3) := by decide +kernel
theorem dX1_chainCharacter_23 : decode cX1_chainCharacter 23 = .ok (.aload_n 0, 1) := by decide +kernel
theorem dX1_chainCharacter_24 : decode cX1_chainCharacter 24 = .ok (.iload 4, 2) := by decide +kernel
theorem dX1_chainCharacter_26 : decode cX1_chainCharacter 26 = .ok (.invokevirtual 101, 3) := by decide +kernel
theorem dX1_chainCharacter_29 : decode cX1_chainCharacter 29 = .ok (.istore 5, 2) := by decide +kernel
theorem dX1_chainCharacter_31 : decode cX1_chainCharacter 31 = .ok (.iload_n 3, 1) := by decide +kernel
theorem dX1_chainCharacter_32 : decode cX1_chainCharacter 32 = .ok (.iload 5, 2) := by decide +kernel
theorem dX1_chainCharacter_34 : decode cX1_chainCharacter 34 = .ok (.if_icmp .ge 29, 3) := by decide +kernel
theorem dX1_chainCharacter_37 : decode cX1_chainCharacter 37 = .ok (.iload_n 3, 1) := by decide +kernel
theorem dX1_chainCharacter_38 : decode cX1_chainCharacter 38 = .ok (.ifCond .ne 12, 3) := by decide +kernel
theorem dX1_chainCharacter_41 : decode cX1_chainCharacter 41 = .ok (.aload_n 0, 1) := by decide +kernel
theorem dX1_chainCharacter_42 : decode cX1_chainCharacter 42 = .ok (.iload 4, 2) := by decide +kernel
theorem dX1_chainCharacter_44 : decode cX1_chainCharacter 44 = .ok (.invokevirtual 104, 3) := by decide +kernel
theorem dX1_chainCharacter_47 : decode cX1_chainCharacter 47 = .ok (.goto 15, 3) := by decide +kernel
theorem dX1_chainCharacter_50 : decode cX1_chainCharacter 50 = .ok (.aload_n 0, 1) := by decide +kernel
theorem dX1_chainCharacter_51 : decode cX1_chainCharacter 51 = .ok (.iload 4, 2) := by decide +kernel
theorem dX1_chainCharacter_53 : decode cX1_chainCharacter 53 = .ok (.iload 5, 2) := by decide +kernel
theorem dX1_chainCharacter_55 : decode cX1_chainCharacter 55 = .ok (.iconst 1, 1) := by decide +kernel
theorem dX1_chainCharacter_56 : decode cX1_chainCharacter 56 = .ok (.isub, 1) := by decide +kernel
theorem dX1_chainCharacter_57 : decode cX1_chainCharacter 57 = .ok (.iload_n 3, 1) := by decide +kernel
theorem dX1_chainCharacter_58 : decode cX1_chainCharacter 58 = .ok (.isub, 1) := by decide +kernel
theorem dX1_chainCharacter_59 : decode cX1_chainCharacter 59 = .ok (.invokevirtual 107, 3) := by decide +kernel
theorem dX1_chainCharacter_62 : decode cX1_chainCharacter 62 = .ok (.ireturn, 1) := by decide +kernel
theorem dX1_chainCharacter_63 : decode cX1_chainCharacter 63 = .ok (.iload_n 3, 1) := by decide +kernel
theorem dX1_chainCharacter_64 : decode cX1_chainCharacter 64 = .ok (.iload 5, 2) := by decide +kernel
theorem dX1_chainCharacter_66 : decode cX1_chainCharacter 66 = .ok (.isub, 1) := by decide +kernel
theorem dX1_chainCharacter_67 : decode cX1_chainCharacter 67 = .ok (.istore_n 3, 1) := by decide +kernel
theorem dX1_chainCharacter_68 : decode cX1_chainCharacter 68 = .ok (.iinc 4 1, 3) := by decide +kernel
theorem dX1_chainCharacter_71 : decode cX1_chainCharacter 71 = .ok (.goto (-61), 3) := by decide +kernel
theorem dX1_chainCharacter_74 : decode cX1_chainCharacter 74 = .ok (.iconst (-1), 1) := by decide +kernel
theorem dX1_chainCharacter_75 : decode cX1_chainCharacter 75 = .ok (.ireturn, 1) := by decide +kernel
theorem dX1_directionLetter_0 : decode cX1_directionLetter 0 = .ok (.aload_n 0, 1) := by decide +kernel
theorem dX1_directionLetter_1 : decode cX1_directionLetter 1 = .ok (.iload_n 1, 1) := by decide +kernel
theorem dX1_directionLetter_2 : decode cX1_directionLetter 2 = .ok (.invokevirtual 81, 3) := by decide +kernel
theorem dX1_directionLetter_5 : decode cX1_directionLetter 5 = .ok (.istore_n 2, 1) := by decide +kernel
theorem dX1_directionLetter_6 : decode cX1_directionLetter 6 = .ok (.aload_n 0, 1) := by decide +kernel
theorem dX1_directionLetter_7 : decode cX1_directionLetter 7 = .ok (.getfield 33, 3) := by decide +kernel
theorem dX1_directionLetter_10 : decode cX1_directionLetter 10 = .ok (.iload_n 2, 1) := by decide +kernel
theorem dX1_directionLetter_11 : decode cX1_directionLetter 11 = .ok (.iaload, 1) := by decide +kernel
theorem dX1_directionLetter_12 : decode cX1_directionLetter 12 = .ok (.aload_n 0, 1) := by decide +kernel
theorem dX1_directionLetter_13 : decode cX1_directionLetter 13 = .ok (.getfield 33, 3) := by decide +kernel
theorem dX1_directionLetter_16 : decode cX1_directionLetter 16 = .ok (.iload_n 1, 1) := by decide +kernel
theorem dX1_directionLetter_17 : decode cX1_directionLetter 17 = .ok (.iaload, 1) := by decide +kernel
theorem dX1_directionLetter_18 : decode cX1_directionLetter 18 = .ok (.if_icmp .ne 26, 3) := by decide +kernel
theorem dX1_directionLetter_21 : decode cX1_directionLetter 21 = .ok (.aload_n 0, 1) := by decide +kernel
theorem dX1_directionLetter_22 : decode cX1_directionLetter 22 = .ok (.getfield 30, 3) := by decide +kernel
theorem dX1_directionLetter_25 : decode cX1_directionLetter 25 = .ok (.iload_n 2, 1) := by decide +kernel
theorem dX1_directionLetter_26 : decode cX1_directionLetter 26 = .ok (.iaload, 1) := by decide +kernel
theorem dX1_directionLetter_27 : decode cX1_directionLetter 27 = .ok (.aload_n 0, 1) := by decide +kernel
theorem dX1_directionLetter_28 : decode cX1_directionLetter 28 = .ok (.getfield 30, 3) := by decide +kernel
theorem dX1_directionLetter_31 : decode cX1_directionLetter 31 = .ok (.iload_n 1, 1) := by decide +kernel
theorem dX1_directionLetter_32 : decode cX1_directionLetter 32 = .ok (.iaload, 1) := by decide +kernel
theorem dX1_directionLetter_33 : decode cX1_directionLetter 33 = .ok (.if_icmp .le 8, 3) := by decide +kernel
theorem dX1_directionLetter_36 : decode cX1_directionLetter 36 = .ok (.bipush 82, 2) := by decide +kernel
theorem dX1_directionLetter_38 : decode cX1_directionLetter 38 = .ok (.goto 5, 3) := by decide +kernel
theorem dX1_directionLetter_41 : decode cX1_directionLetter 41 = .ok (.bipush 76, 2) := by decide +kernel
theorem dX1_directionLetter_43 : decode cX1_directionLetter 43 = .ok (.ireturn, 1) := by decide +kernel
theorem dX1_directionLetter_44 : decode cX1_directionLetter 44 = .ok (.aload_n 0, 1) := by decide +kernel
theorem dX1_directionLetter_45 : decode cX1_directionLetter 45 = .ok (.getfield 33, 3) := by decide +kernel
theorem dX1_directionLetter_48 : decode cX1_directionLetter 48 = .ok (.iload_n 2, 1) := by decide +kernel
theorem dX1_directionLetter_49 : decode cX1_directionLetter 49 = .ok (.iaload, 1) := by decide +kernel
theorem dX1_directionLetter_50 : decode cX1_directionLetter 50 = .ok (.aload_n 0, 1) := by decide +kernel
theorem dX1_directionLetter_51 : decode cX1_directionLetter 51 = .ok (.getfield 33, 3) := by decide +kernel
theorem dX1_directionLetter_54 : decode cX1_directionLetter 54 = .ok (.iload_n 1, 1) := by decide +kernel
theorem dX1_directionLetter_55 : decode cX1_directionLetter 55 = .ok (.iaload, 1) := by decide +kernel
theorem dX1_directionLetter_56 : decode cX1_directionLetter 56 = .ok (.if_icmp .le 8, 3) := by decide +kernel
theorem dX1_directionLetter_59 : decode cX1_directionLetter 59 = .ok (.bipush 68, 2) := by decide +kernel
theorem dX1_directionLetter_61 : decode cX1_directionLetter 61 = .ok (.goto 5, 3) := by decide +kernel
theorem dX1_directionLetter_64 : decode cX1_directionLetter 64 = .ok (.bipush 85, 2) := by decide +kernel
theorem dX1_directionLetter_66 : decode cX1_directionLetter 66 = .ok (.ireturn, 1) := by decide +kernel
theorem dX1_wayDigit_0 : decode cX1_wayDigit 0 = .ok (.aload_n 0, 1) := by decide +kernel
theorem dX1_wayDigit_1 : decode cX1_wayDigit 1 = .ok (.iload_n 1, 1) := by decide +kernel
theorem dX1_wayDigit_2 : decode cX1_wayDigit 2 = .ok (.invokevirtual 98, 3) := by decide +kernel
theorem dX1_wayDigit_5 : decode cX1_wayDigit 5 = .ok (.istore_n 3, 1) := by decide +kernel
theorem dX1_wayDigit_6 : decode cX1_wayDigit 6 = .ok (.bipush 48, 2) := by decide +kernel
theorem dX1_wayDigit_8 : decode cX1_wayDigit 8 = .ok (.iload_n 2, 1) := by decide +kernel
theorem dX1_wayDigit_9 : decode cX1_wayDigit 9 = .ok (.ifCond .ne 10, 3) := by decide +kernel
theorem dX1_wayDigit_12 : decode cX1_wayDigit 12 = .ok (.iload_n 3, 1) := by decide +kernel
theorem dX1_wayDigit_13 : decode cX1_wayDigit 13 = .ok (.bipush 10, 2) := by decide +kernel
theorem dX1_wayDigit_15 : decode cX1_wayDigit 15 = .ok (.irem, 1) := by decide +kernel
theorem dX1_wayDigit_16 : decode cX1_wayDigit 16 = .ok (.goto 7, 3) := by decide +kernel
theorem dX1_wayDigit_19 : decode cX1_wayDigit 19 = .ok (.iload_n 3, 1) := by decide +kernel
theorem dX1_wayDigit_20 : decode cX1_wayDigit 20 = .ok (.bipush 10, 2) := by decide +kernel
theorem dX1_wayDigit_22 : decode cX1_wayDigit 22 = .ok (.idiv, 1) := by decide +kernel
theorem dX1_wayDigit_23 : decode cX1_wayDigit 23 = .ok (.iadd, 1) := by decide +kernel
theorem dX1_wayDigit_24 : decode cX1_wayDigit 24 = .ok (.ireturn, 1) := by decide +kernel
theorem dX1_isPointIn_0 : decode cX1_isPointIn 0 = .ok (.iconst 0, 1) := by decide +kernel
theorem dX1_isPointIn_1 : decode cX1_isPointIn 1 = .ok (.istore 4, 2) := by decide +kernel
theorem dX1_isPointIn_3 : decode cX1_isPointIn 3 = .ok (.aload_n 0, 1) := by decide +kernel
theorem dX1_isPointIn_4 : decode cX1_isPointIn 4 = .ok (.getfield 9, 3) := by decide +kernel
theorem dX1_isPointIn_7 : decode cX1_isPointIn 7 = .ok (.iload_n 1, 1) := by decide +kernel
theorem dX1_isPointIn_8 : decode cX1_isPointIn 8 = .ok (.iaload, 1) := by decide +kernel
theorem dX1_isPointIn_9 : decode cX1_isPointIn 9 = .ok (.istore 5, 2) := by decide +kernel
theorem dX1_isPointIn_11 : decode cX1_isPointIn 11 = .ok (.iload 5, 2) := by decide +kernel
theorem dX1_isPointIn_13 : decode cX1_isPointIn 13 = .ok (.aload_n 0, 1) := by decide +kernel
theorem dX1_isPointIn_14 : decode cX1_isPointIn 14 = .ok (.getfield 9, 3) := by decide +kernel
theorem dX1_isPointIn_17 : decode cX1_isPointIn 17 = .ok (.iload_n 1, 1) := by decide +kernel
theorem dX1_isPointIn_18 : decode cX1_isPointIn 18 = .ok (.iconst 1, 1) := by decide +kernel
theorem dX1_isPointIn_19 : decode cX1_isPointIn 19 = .ok (.iadd, 1) := by decide +kernel
theorem dX1_isPointIn_20 : decode cX1_isPointIn 20 = .ok (.iaload, 1) := by decide +kernel
theorem dX1_isPointIn_21 : decode cX1_isPointIn 21 = .ok (.if_icmp .ge 48, 3) := by decide +kernel
theorem dX1_isPointIn_24 : decode cX1_isPointIn 24 = .ok (.aload_n 0, 1) := by decide +kernel
theorem dX1_isPointIn_25 : decode cX1_isPointIn 25 = .ok (.getfield 36, 3) := by decide +kernel
theorem dX1_isPointIn_28 : decode cX1_isPointIn 28 = .ok (.iload 5, 2) := by decide +kernel
theorem dX1_isPointIn_30 : decode cX1_isPointIn 30 = .ok (.baload, 1) := by decide +kernel
theorem dX1_isPointIn_31 : decode cX1_isPointIn 31 = .ok (.ifCond .eq 32, 3) := by decide +kernel
theorem dX1_isPointIn_34 : decode cX1_isPointIn 34 = .ok (.aload_n 0, 1) := by decide +kernel
theorem dX1_isPointIn_35 : decode cX1_isPointIn 35 = .ok (.iload 5, 2) := by decide +kernel
theorem dX1_isPointIn_37 : decode cX1_isPointIn 37 = .ok (.aload_n 0, 1) := by decide +kernel
theorem dX1_isPointIn_38 : decode cX1_isPointIn 38 = .ok (.iload 5, 2) := by decide +kernel
theorem dX1_isPointIn_40 : decode cX1_isPointIn 40 = .ok (.invokevirtual 84, 3) := by decide +kernel
theorem dX1_isPointIn_43 : decode cX1_isPointIn 43 = .ok (.iload_n 2, 1) := by decide +kernel
theorem dX1_isPointIn_44 : decode cX1_isPointIn 44 = .ok (.iload_n 3, 1) := by decide +kernel
theorem dX1_isPointIn_45 : decode cX1_isPointIn 45 = .ok (.invokevirtual 111, 3) := by decide +kernel
theorem dX1_isPointIn_48 : decode cX1_isPointIn 48 = .ok (.ifCond .eq 15, 3) := by decide +kernel
theorem dX1_isPointIn_51 : decode cX1_isPointIn 51 = .ok (.iload 4, 2) := by decide +kernel
theorem dX1_isPointIn_53 : decode cX1_isPointIn 53 = .ok (.ifCond .ne 7, 3) := by decide +kernel
theorem dX1_isPointIn_56 : decode cX1_isPointIn 56 = .ok (.iconst 1, 1) := by decide +kernel
theorem dX1_isPointIn_57 : decode cX1_isPointIn 57 = .ok (.goto 4, 3) := by decide +kernel
theorem dX1_isPointIn_60 : decode cX1_isPointIn 60 = .ok (.iconst 0, 1) := by decide +kernel
theorem dX1_isPointIn_61 : decode cX1_isPointIn 61 = .ok (.istore 4, 2) := by decide +kernel
theorem dX1_isPointIn_63 : decode cX1_isPointIn 63 = .ok (.iinc 5 1, 3) := by decide +kernel
theorem dX1_isPointIn_66 : decode cX1_isPointIn 66 = .ok (.goto (-55), 3) := by decide +kernel
theorem dX1_isPointIn_69 : decode cX1_isPointIn 69 = .ok (.iload 4, 2) := by decide +kernel
theorem dX1_isPointIn_71 : decode cX1_isPointIn 71 = .ok (.ireturn, 1) := by decide +kernel
theorem dX1_isCrossed_0 : decode cX1_isCrossed 0 = .ok (.iconst 2, 1) := by decide +kernel
theorem dX1_isCrossed_1 : decode cX1_isCrossed 1 = .ok (.aload_n 0, 1) := by decide +kernel
theorem dX1_isCrossed_2 : decode cX1_isCrossed 2 = .ok (.getfield 33, 3) := by decide +kernel
theorem dX1_isCrossed_5 : decode cX1_isCrossed 5 = .ok (.iload_n 1, 1) := by decide +kernel
theorem dX1_isCrossed_6 : decode cX1_isCrossed 6 = .ok (.iaload, 1) := by decide +kernel
theorem dX1_isCrossed_7 : decode cX1_isCrossed 7 = .ok (.imul, 1) := by decide +kernel
theorem dX1_isCrossed_8 : decode cX1_isCrossed 8 = .ok (.iload 4, 2) := by decide +kernel
theorem dX1_isCrossed_10 : decode cX1_isCrossed 10 = .ok (.if_icmp .gt 7, 3) := by decide +kernel
theorem dX1_isCrossed_13 : decode cX1_isCrossed 13 = .ok (.iconst 1, 1) := by decide +kernel
theorem dX1_isCrossed_14 : decode cX1_isCrossed 14 = .ok (.goto 4, 3) := by decide +kernel
theorem dX1_isCrossed_17 : decode cX1_isCrossed 17 = .ok (.iconst 0, 1) := by decide +kernel
theorem dX1_isCrossed_18 : decode cX1_isCrossed 18 = .ok (.istore 5, 2) := by decide +kernel
theorem dX1_isCrossed_20 : decode cX1_isCrossed 20 = .ok (.iconst 2, 1) := by decide +kernel
theorem dX1_isCrossed_21 : decode cX1_isCrossed 21 = .ok (.aload_n 0, 1) := by decide +kernel
theorem dX1_isCrossed_22 : decode cX1_isCrossed 22 = .ok (.getfield 33, 3) := by decide +kernel
theorem dX1_isCrossed_25 : decode cX1_isCrossed 25 = .ok (.iload_n 2, 1) := by decide +kernel
theorem dX1_isCrossed_26 : decode cX1_isCrossed 26 = .ok (.iaload, 1) := by decide +kernel
theorem dX1_isCrossed_27 : decode cX1_isCrossed 27 = .ok (.imul, 1) := by decide +kernel
theorem dX1_isCrossed_28 : decode cX1_isCrossed 28 = .ok (.iload 4, 2) := by decide +kernel
theorem dX1_isCrossed_30 : decode cX1_isCrossed 30 = .ok (.if_icmp .gt 7, 3) := by decide +kernel
theorem dX1_isCrossed_33 : decode cX1_isCrossed 33 = .ok (.iconst 1, 1) := by decide +kernel
theorem dX1_isCrossed_34 : decode cX1_isCrossed 34 = .ok (.goto 4, 3) := by decide +kernel
theorem dX1_isCrossed_37 : decode cX1_isCrossed 37 = .ok (.iconst 0, 1) := by decide +kernel
theorem dX1_isCrossed_38 : decode cX1_isCrossed 38 = .ok (.istore 6, 2) := by decide +kernel
theorem dX1_isCrossed_40 : decode cX1_isCrossed 40 = .ok (.iload 5, 2) := by decide +kernel
theorem dX1_isCrossed_42 : decode cX1_isCrossed 42 = .ok (.iload 6, 2) := by decide +kernel
theorem dX1_isCrossed_44 : decode cX1_isCrossed 44 = .ok (.if_icmp .ne 5, 3) := by decide +kernel
theorem dX1_isCrossed_47 : decode cX1_isCrossed 47 = .ok (.iconst 0, 1) := by decide +kernel
theorem dX1_isCrossed_48 : decode cX1_isCrossed 48 = .ok (.ireturn, 1) := by decide +kernel
theorem dX1_isCrossed_49 : decode cX1_isCrossed 49 = .ok (.aload_n 0, 1) := by decide +kernel
theorem dX1_isCrossed_50 : decode cX1_isCrossed 50 = .ok (.getfield 33, 3) := by decide +kernel
theorem dX1_isCrossed_53 : decode cX1_isCrossed 53 = .ok (.iload_n 2, 1) := by decide +kernel
theorem dX1_isCrossed_54 : decode cX1_isCrossed 54 = .ok (.iaload, 1) := by decide +kernel
theorem dX1_isCrossed_55 : decode cX1_isCrossed 55 = .ok (.aload_n 0, 1) := by decide +kernel
theorem dX1_isCrossed_56 : decode cX1_isCrossed 56 = .ok (.getfield 33, 3) := by decide +kernel
theorem dX1_isCrossed_59 : decode cX1_isCrossed 59 = .ok (.iload_n 1, 1) := by decide +kernel
theorem dX1_isCrossed_60 : decode cX1_isCrossed 60 = .ok (.iaload, 1) := by decide +kernel
theorem dX1_isCrossed_61 : decode cX1_isCrossed 61 = .ok (.isub, 1) := by decide +kernel
theorem dX1_isCrossed_62 : decode cX1_isCrossed 62 = .ok (.istore 7, 2) := by decide +kernel
theorem dX1_isCrossed_64 : decode cX1_isCrossed 64 = .ok (.iload 4, 2) := by decide +kernel
theorem dX1_isCrossed_66 : decode cX1_isCrossed 66 = .ok (.iconst 2, 1) := by decide +kernel
theorem dX1_isCrossed_67 : decode cX1_isCrossed 67 = .ok (.aload_n 0, 1) := by decide +kernel
theorem dX1_isCrossed_68 : decode cX1_isCrossed 68 = .ok (.getfield 33, 3) := by decide +kernel
theorem dX1_isCrossed_71 : decode cX1_isCrossed 71 = .ok (.iload_n 1, 1) := by decide +kernel
theorem dX1_isCrossed_72 : decode cX1_isCrossed 72 = .ok (.iaload, 1) := by decide +kernel
theorem dX1_isCrossed_73 : decode cX1_isCrossed 73 = .ok (.imul, 1) := by decide +kernel
theorem dX1_isCrossed_74 : decode cX1_isCrossed 74 = .ok (.isub, 1) := by decide +kernel
theorem dX1_isCrossed_75 : decode cX1_isCrossed 75 = .ok (.aload_n 0, 1) := by decide +kernel
theorem dX1_isCrossed_76 : decode cX1_isCrossed 76 = .ok (.getfield 30, 3) := by decide +kernel
theorem dX1_isCrossed_79 : decode cX1_isCrossed 79 = .ok (.iload_n 2, 1) := by decide +kernel
theorem dX1_isCrossed_80 : decode cX1_isCrossed 80 = .ok (.iaload, 1) := by decide +kernel
theorem dX1_isCrossed_81 : decode cX1_isCrossed 81 = .ok (.aload_n 0, 1) := by decide +kernel
theorem dX1_isCrossed_82 : decode cX1_isCrossed 82 = .ok (.getfield 30, 3) := by decide +kernel
theorem dX1_isCrossed_85 : decode cX1_isCrossed 85 = .ok (.iload_n 1, 1) := by decide +kernel
theorem dX1_isCrossed_86 : decode cX1_isCrossed 86 = .ok (.iaload, 1) := by decide +kernel
theorem dX1_isCrossed_87 : decode cX1_isCrossed 87 = .ok (.isub, 1) := by decide +kernel
theorem dX1_isCrossed_88 : decode cX1_isCrossed 88 = .ok (.imul, 1) := by decide +kernel
theorem dX1_isCrossed_89 : decode cX1_isCrossed 89 = .ok (.istore 8, 2) := by decide +kernel
theorem dX1_isCrossed_91 : decode cX1_isCrossed 91 = .ok (.iload_n 3, 1) := by decide +kernel
theorem dX1_isCrossed_92 : decode cX1_isCrossed 92 = .ok (.iconst 2, 1) := by decide +kernel
theorem dX1_isCrossed_93 : decode cX1_isCrossed 93 = .ok (.aload_n 0, 1) := by decide +kernel
theorem dX1_isCrossed_94 : decode cX1_isCrossed 94 = .ok (.getfield 30, 3) := by decide +kernel
theorem dX1_isCrossed_97 : decode cX1_isCrossed 97 = .ok (.iload_n 1, 1) := by decide +kernel
theorem dX1_isCrossed_98 : decode cX1_isCrossed 98 = .ok (.iaload, 1) := by decide +kernel
theorem dX1_isCrossed_99 : decode cX1_isCrossed 99 = .ok (.imul, 1) := by decide +kernel
theorem dX1_isCrossed_100 : decode cX1_isCrossed 100 = .ok (.isub, 1) := by decide +kernel
theorem dX1_isCrossed_101 : decode cX1_isCrossed 101 = .ok (.iload 7, 2) := by decide +kernel
theorem dX1_isCrossed_103 : decode cX1_isCrossed 103 = .ok (.imul, 1) := by decide +kernel
theorem dX1_isCrossed_104 : decode cX1_isCrossed 104 = .ok (.istore 9, 2) := by decide +kernel
theorem dX1_isCrossed_106 : decode cX1_isCrossed 106 = .ok (.iload 7, 2) := by decide +kernel
theorem dX1_isCrossed_108 : decode cX1_isCrossed 108 = .ok (.ifCond .le 18, 3) := by decide +kernel
theorem dX1_isCrossed_111 : decode cX1_isCrossed 111 = .ok (.iload 8, 2) := by decide +kernel
theorem dX1_isCrossed_113 : decode cX1_isCrossed 113 = .ok (.iload 9, 2) := by decide +kernel
theorem dX1_isCrossed_115 : decode cX1_isCrossed 115 = .ok (.if_icmp .le 7, 3) := by decide +kernel
theorem dX1_isCrossed_118 : decode cX1_isCrossed 118 = .ok (.iconst 1, 1) := by decide +kernel
theorem dX1_isCrossed_119 : decode cX1_isCrossed 119 = .ok (.goto 19, 3) := by decide +kernel
theorem dX1_isCrossed_122 : decode cX1_isCrossed 122 = .ok (.iconst 0, 1) := by decide +kernel
theorem dX1_isCrossed_123 : decode cX1_isCrossed 123 = .ok (.goto 15, 3) := by decide +kernel
theorem dX1_isCrossed_126 : decode cX1_isCrossed 126 = .ok (.iload 8, 2) := by decide +kernel
theorem dX1_isCrossed_128 : decode cX1_isCrossed 128 = .ok (.iload 9, 2) := by decide +kernel
theorem dX1_isCrossed_130 : decode cX1_isCrossed 130 = .ok (.if_icmp .ge 7, 3) := by decide +kernel
theorem dX1_isCrossed_133 : decode cX1_isCrossed 133 = .ok (.iconst 1, 1) := by decide +kernel
theorem dX1_isCrossed_134 : decode cX1_isCrossed 134 = .ok (.goto 4, 3) := by decide +kernel
theorem dX1_isCrossed_137 : decode cX1_isCrossed 137 = .ok (.iconst 0, 1) := by decide +kernel
theorem dX1_isCrossed_138 : decode cX1_isCrossed 138 = .ok (.ireturn, 1) := by decide +kernel
theorem dX2_init_0 : decode cX2_init 0 = .ok (.aload_n 0, 1) := by decide +kernel
theorem dX2_init_1 : decode cX2_init 1 = .ok (.invokespecial 3, 3) := by decide +kernel
theorem dX2_init_4 : decode cX2_init 4 = .ok (.aload_n 0, 1) := by decide +kernel
theorem dX2_init_5 : decode cX2_init 5 = .ok (.sipush 192, 3) := by decide +kernel
theorem dX2_init_8 : decode cX2_init 8 = .ok (.newarray .int, 2) := by decide +kernel
theorem dX2_init_10 : decode cX2_init 10 = .ok (.putfield 9, 3) := by decide +kernel
theorem dX2_init_13 : decode cX2_init 13 = .ok (.aload_n 0, 1) := by decide +kernel
theorem dX2_init_14 : decode cX2_init 14 = .ok (.sipush 192, 3) := by decide +kernel
theorem dX2_init_17 : decode cX2_init 17 = .ok (.newarray .int, 2) := by decide +kernel
theorem dX2_init_19 : decode cX2_init 19 = .ok (.putfield 15, 3) := by decide +kernel
theorem dX2_init_22 : decode cX2_init 22 = .ok (.return_, 1) := by decide +kernel
theorem dX2_start_0 : decode cX2_start 0 = .ok (.aload_n 0, 1) := by decide +kernel
theorem dX2_start_1 : decode cX2_start 1 = .ok (.iload_n 1, 1) := by decide +kernel
theorem dX2_start_2 : decode cX2_start 2 = .ok (.putfield 18, 3) := by decide +kernel
theorem dX2_start_5 : decode cX2_start 5 = .ok (.aload_n 0, 1) := by decide +kernel
theorem dX2_start_6 : decode cX2_start 6 = .ok (.iload_n 2, 1) := by decide +kernel
theorem dX2_start_7 : decode cX2_start 7 = .ok (.putfield 22, 3) := by decide +kernel
theorem dX2_start_10 : decode cX2_start 10 = .ok (.aload_n 0, 1) := by decide +kernel
theorem dX2_start_11 : decode cX2_start 11 = .ok (.getfield 9, 3) := by decide +kernel
theorem dX2_start_14 : decode cX2_start 14 = .ok (.iconst 0, 1) := by decide +kernel
theorem dX2_start_15 : decode cX2_start 15 = .ok (.invokestatic 25, 3) := by decide +kernel
theorem dX2_start_18 : decode cX2_start 18 = .ok (.return_, 1) := by decide +kernel
theorem dX2_has_0 : decode cX2_has 0 = .ok (.iload_n 1, 1) := by decide +kernel
theorem dX2_has_1 : decode cX2_has 1 = .ok (.ifCond .lt 27, 3) := by decide +kernel
theorem dX2_has_4 : decode cX2_has 4 = .ok (.iload_n 1, 1) := by decide +kernel
theorem dX2_has_5 : decode cX2_has 5 = .ok (.aload_n 0, 1) := by decide +kernel
theorem dX2_has_6 : decode cX2_has 6 = .ok (.getfield 18, 3) := by decide +kernel
theorem dX2_has_9 : decode cX2_has 9 = .ok (.if_icmp .ge 19, 3) := by decide +kernel
theorem dX2_has_12 : decode cX2_has 12 = .ok (.iload_n 2, 1) := by decide +kernel
theorem dX2_has_13 : decode cX2_has 13 = .ok (.ifCond .lt 15, 3) := by decide +kernel
theorem dX2_has_16 : decode cX2_has 16 = .ok (.iload_n 2, 1) := by decide +kernel
theorem dX2_has_17 : decode cX2_has 17 = .ok (.aload_n 0, 1) := by decide +kernel
theorem dX2_has_18 : decode cX2_has 18 = .ok (.getfield 22, 3) := by decide +kernel
theorem dX2_has_21 : decode cX2_has 21 = .ok (.if_icmp .ge 7, 3) := by decide +kernel
theorem dX2_has_24 : decode cX2_has 24 = .ok (.iconst 1, 1) := by decide +kernel
theorem dX2_has_25 : decode cX2_has 25 = .ok (.goto 4, 3) := by decide +kernel
theorem dX2_has_28 : decode cX2_has 28 = .ok (.iconst 0, 1) := by decide +kernel
theorem dX2_has_29 : decode cX2_has 29 = .ok (.ireturn, 1) := by decide +kernel
theorem dX2_hasRectangle_0 : decode cX2_hasRectangle 0 = .ok (.aload_n 0, 1) := by decide +kernel
theorem dX2_hasRectangle_1 : decode cX2_hasRectangle 1 = .ok (.iload_n 1, 1) := by decide +kernel
theorem dX2_hasRectangle_2 : decode cX2_hasRectangle 2 = .ok (.iload_n 2, 1) := by decide +kernel
theorem dX2_hasRectangle_3 : decode cX2_hasRectangle 3 = .ok (.invokevirtual 31, 3) := by decide +kernel
theorem dX2_hasRectangle_6 : decode cX2_hasRectangle 6 = .ok (.ifCond .eq 36, 3) := by decide +kernel
theorem dX2_hasRectangle_9 : decode cX2_hasRectangle 9 = .ok (.iload_n 3, 1) := by decide +kernel
theorem dX2_hasRectangle_10 : decode cX2_hasRectangle 10 = .ok (.iconst 1, 1) := by decide +kernel
theorem dX2_hasRectangle_11 : decode cX2_hasRectangle 11 = .ok (.aload_n 0, 1) := by decide +kernel
theorem dX2_hasRectangle_12 : decode cX2_hasRectangle 12 = .ok (.getfield 18, 3) := by decide +kernel
theorem dX2_hasRectangle_15 : decode cX2_hasRectangle 15 = .ok (.iload_n 1, 1) := by decide +kernel
theorem dX2_hasRectangle_16 : decode cX2_hasRectangle 16 = .ok (.isub, 1) := by decide +kernel
theorem dX2_hasRectangle_17 : decode cX2_hasRectangle 17 = .ok (.invokestatic 35, 3) := by decide +kernel
theorem dX2_hasRectangle_20 : decode cX2_hasRectangle 20 = .ok (.ifCond .eq 22, 3) := by decide +kernel
theorem dX2_hasRectangle_23 : decode cX2_hasRectangle 23 = .ok (.iload 4, 2) := by decide +kernel
theorem dX2_hasRectangle_25 : decode cX2_hasRectangle 25 = .ok (.iconst 1, 1) := by decide +kernel
theorem dX2_hasRectangle_26 : decode cX2_hasRectangle 26 = .ok (.aload_n 0, 1) := by decide +kernel
theorem dX2_hasRectangle_27 : decode cX2_hasRectangle 27 = .ok (.getfield 22, 3) := by decide +kernel
theorem dX2_hasRectangle_30 : decode cX2_hasRectangle 30 = .ok (.iload_n 2, 1) := by decide +kernel
theorem dX2_hasRectangle_31 : decode cX2_hasRectangle 31 = .ok (.isub, 1) := by decide +kernel
theorem dX2_hasRectangle_32 : decode cX2_hasRectangle 32 = .ok (.invokestatic 35, 3) := by decide +kernel
theorem dX2_hasRectangle_35 : decode cX2_hasRectangle 35 = .ok (.ifCond .eq 7, 3) := by decide +kernel
theorem dX2_hasRectangle_38 : decode cX2_hasRectangle 38 = .ok (.iconst 1, 1) := by decide +kernel
theorem dX2_hasRectangle_39 : decode cX2_hasRectangle 39 = .ok (.goto 4, 3) := by decide +kernel
theorem dX2_hasRectangle_42 : decode cX2_hasRectangle 42 = .ok (.iconst 0, 1) := by decide +kernel
theorem dX2_hasRectangle_43 : decode cX2_hasRectangle 43 = .ok (.ireturn, 1) := by decide +kernel
theorem dX2_at_0 : decode cX2_at 0 = .ok (.aload_n 0, 1) := by decide +kernel
theorem dX2_at_1 : decode cX2_at 1 = .ok (.iload_n 1, 1) := by decide +kernel
theorem dX2_at_2 : decode cX2_at 2 = .ok (.iload_n 2, 1) := by decide +kernel
theorem dX2_at_3 : decode cX2_at 3 = .ok (.invokevirtual 31, 3) := by decide +kernel
theorem dX2_at_6 : decode cX2_at 6 = .ok (.ifCond .eq 17, 3) := by decide +kernel
theorem dX2_at_9 : decode cX2_at 9 = .ok (.aload_n 0, 1) := by decide +kernel
theorem dX2_at_10 : decode cX2_at 10 = .ok (.getfield 9, 3) := by decide +kernel
theorem dX2_at_13 : decode cX2_at 13 = .ok (.iload_n 2, 1) := by decide +kernel
theorem dX2_at_14 : decode cX2_at 14 = .ok (.bipush 16, 2) := by decide +kernel
theorem dX2_at_16 : decode cX2_at 16 = .ok (.imul, 1) := by decide +kernel
theorem dX2_at_17 : decode cX2_at 17 = .ok (.iload_n 1, 1) := by decide +kernel
theorem dX2_at_18 : decode cX2_at 18 = .ok (.iadd, 1) := by decide +kernel
theorem dX2_at_19 : decode cX2_at 19 = .ok (.iaload, 1) := by decide +kernel
theorem dX2_at_20 : decode cX2_at 20 = .ok (.goto 4, 3) := by decide +kernel
theorem dX2_at_23 : decode cX2_at 23 = .ok (.iconst 0, 1) := by decide +kernel
theorem dX2_at_24 : decode cX2_at 24 = .ok (.ireturn, 1) := by decide +kernel
theorem dX2_put_0 : decode cX2_put 0 = .ok (.aload_n 0, 1) := by decide +kernel
theorem dX2_put_1 : decode cX2_put 1 = .ok (.iload_n 1, 1) := by decide +kernel
theorem dX2_put_2 : decode cX2_put 2 = .ok (.iload_n 2, 1) := by decide +kernel
theorem dX2_put_3 : decode cX2_put 3 = .ok (.invokevirtual 31, 3) := by decide +kernel
theorem dX2_put_6 : decode cX2_put 6 = .ok (.ifCond .eq 13, 3) := by decide +kernel
theorem dX2_put_9 : decode cX2_put 9 = .ok (.aload_n 0, 1) := by decide +kernel
theorem dX2_put_10 : decode cX2_put 10 = .ok (.iload_n 1, 1) := by decide +kernel
theorem dX2_put_11 : decode cX2_put 11 = .ok (.iload_n 2, 1) := by decide +kernel
theorem dX2_put_12 : decode cX2_put 12 = .ok (.invokevirtual 39, 3) := by decide +kernel
theorem dX2_put_15 : decode cX2_put 15 = .ok (.iload_n 3, 1) := by decide +kernel
theorem dX2_put_16 : decode cX2_put 16 = .ok (.if_icmp .ne 5, 3) := by decide +kernel
theorem dX2_put_19 : decode cX2_put 19 = .ok (.iconst 0, 1) := by decide +kernel
theorem dX2_put_20 : decode cX2_put 20 = .ok (.ireturn, 1) := by decide +kernel
theorem dX2_put_21 : decode cX2_put 21 = .ok (.aload_n 0, 1) := by decide +kernel
theorem dX2_put_22 : decode cX2_put 22 = .ok (.getfield 9, 3) := by decide +kernel
theorem dX2_put_25 : decode cX2_put 25 = .ok (.iload_n 2, 1) := by decide +kernel
theorem dX2_put_26 : decode cX2_put 26 = .ok (.bipush 16, 2) := by decide +kernel
theorem dX2_put_28 : decode cX2_put 28 = .ok (.imul, 1) := by decide +kernel
theorem dX2_put_29 : decode cX2_put 29 = .ok (.iload_n 1, 1) := by decide +kernel
theorem dX2_put_30 : decode cX2_put 30 = .ok (.iadd, 1) := by decide +kernel
theorem dX2_put_31 : decode cX2_put 31 = .ok (.iload_n 3, 1) := by decide +kernel
theorem dX2_put_32 : decode cX2_put 32 = .ok (.iastore, 1) := by decide +kernel
theorem dX2_put_33 : decode cX2_put 33 = .ok (.iconst 1, 1) := by decide +kernel
theorem dX2_put_34 : decode cX2_put 34 = .ok (.ireturn, 1) := by decide +kernel
theorem dX2_putRectangle_0 : decode cX2_putRectangle 0 = .ok (.iconst 0, 1) := by decide +kernel
theorem dX2_putRectangle_1 : decode cX2_putRectangle 1 = .ok (.istore 6, 2) := by decide +kernel
theorem dX2_putRectangle_3 : decode cX2_putRectangle 3 = .ok (.iload_n 2, 1) := by decide +kernel
theorem dX2_putRectangle_4 : decode cX2_putRectangle 4 = .ok (.istore 7, 2) := by decide +kernel
theorem dX2_putRectangle_6 : decode cX2_putRectangle 6 = .ok (.iload 7, 2) := by decide +kernel
theorem dX2_putRectangle_8 : decode cX2_putRectangle 8 = .ok (.iload_n 2, 1) := by decide +kernel
theorem dX2_putRectangle_9 : decode cX2_putRectangle 9 = .ok (.iload 4, 2) := by decide +kernel
theorem dX2_putRectangle_11 : decode cX2_putRectangle 11 = .ok (.iadd, 1) := by decide +kernel
theorem dX2_putRectangle_12 : decode cX2_putRectangle 12 = .ok (.if_icmp .ge 41, 3) := by decide +kernel
theorem dX2_putRectangle_15 : decode cX2_putRectangle 15 = .ok (.iload_n 1, 1) := by decide +kernel
theorem dX2_putRectangle_16 : decode cX2_putRectangle 16 = .ok (.istore 8, 2) := by decide +kernel
theorem dX2_putRectangle_18 : decode cX2_putRectangle 18 = .ok (.iload 8, 2) := by decide +kernel
theorem dX2_putRectangle_20 : decode cX2_putRectangle 20 = .ok (.iload_n 1, 1) := by decide +kernel
theorem dX2_putRectangle_21 : decode cX2_putRectangle 21 = .ok (.iload_n 3, 1) := by decide +kernel
theorem dX2_putRectangle_22 : decode cX2_putRectangle 22 = .ok (.iadd, 1) := by decide +kernel
theorem dX2_putRectangle_23 : decode cX2_putRectangle 23 = .ok (.if_icmp .ge 24, 3) := by decide +kernel
theorem dX2_putRectangle_26 : decode cX2_putRectangle 26 = .ok (.iload 6, 2) := by decide +kernel
theorem dX2_putRectangle_28 : decode cX2_putRectangle 28 = .ok (.aload_n 0, 1) := by decide +kernel
theorem dX2_putRectangle_29 : decode cX2_putRectangle 29 = .ok (.iload 8, 2) := by decide +kernel
theorem dX2_putRectangle_31 : decode cX2_putRectangle 31 = .ok (.iload 7, 2) := by decide +kernel
theorem dX2_putRectangle_33 : decode cX2_putRectangle 33 = .ok (.iload 5, 2) := by decide +kernel
theorem dX2_putRectangle_35 : decode cX2_putRectangle 35 = .ok (.invokevirtual 43, 3) := by decide +kernel
theorem dX2_putRectangle_38 : decode cX2_putRectangle 38 = .ok (.iadd, 1) := by decide +kernel
theorem dX2_putRectangle_39 : decode cX2_putRectangle 39 = .ok (.istore 6, 2) := by decide +kernel
theorem dX2_putRectangle_41 : decode cX2_putRectangle 41 = .ok (.iinc 8 1, 3) := by decide +kernel
theorem dX2_putRectangle_44 : decode cX2_putRectangle 44 = .ok (.goto (-26), 3) := by decide +kernel
theorem dX2_putRectangle_47 : decode cX2_putRectangle 47 = .ok (.iinc 7 1, 3) := by decide +kernel
theorem dX2_putRectangle_50 : decode cX2_putRectangle 50 = .ok (.goto (-44), 3) := by decide +kernel
theorem dX2_putRectangle_53 : decode cX2_putRectangle 53 = .ok (.iload 6, 2) := by decide +kernel
theorem dX2_putRectangle_55 : decode cX2_putRectangle 55 = .ok (.ireturn, 1) := by decide +kernel
theorem dX2_spread_0 : decode cX2_spread 0 = .ok (.aload_n 0, 1) := by decide +kernel
theorem dX2_spread_1 : decode cX2_spread 1 = .ok (.iload_n 1, 1) := by decide +kernel
theorem dX2_spread_2 : decode cX2_spread 2 = .ok (.iload_n 2, 1) := by decide +kernel
theorem dX2_spread_3 : decode cX2_spread 3 = .ok (.invokevirtual 39, 3) := by decide +kernel
theorem dX2_spread_6 : decode cX2_spread 6 = .ok (.istore 4, 2) := by decide +kernel
theorem dX2_spread_8 : decode cX2_spread 8 = .ok (.aload_n 0, 1) := by decide +kernel
theorem dX2_spread_9 : decode cX2_spread 9 = .ok (.iconst 0, 1) := by decide +kernel
theorem dX2_spread_10 : decode cX2_spread 10 = .ok (.putfield 47, 3) := by decide +kernel
theorem dX2_spread_13 : decode cX2_spread 13 = .ok (.iload 4, 2) := by decide +kernel
theorem dX2_spread_15 : decode cX2_spread 15 = .ok (.iload_n 3, 1) := by decide +kernel
theorem dX2_spread_16 : decode cX2_spread 16 = .ok (.if_icmp .ne 5, 3) := by decide +kernel
theorem dX2_spread_19 : decode cX2_spread 19 = .ok (.iconst 0, 1) := by decide +kernel
theorem dX2_spread_20 : decode cX2_spread 20 = .ok (.ireturn, 1) := by decide +kernel
theorem dX2_spread_21 : decode cX2_spread 21 = .ok (.aload_n 0, 1) := by decide +kernel
theorem dX2_spread_22 : decode cX2_spread 22 = .ok (.iload_n 1, 1) := by decide +kernel
theorem dX2_spread_23 : decode cX2_spread 23 = .ok (.iload_n 2, 1) := by decide +kernel
theorem dX2_spread_24 : decode cX2_spread 24 = .ok (.iload 4, 2) := by decide +kernel
theorem dX2_spread_26 : decode cX2_spread 26 = .ok (.iload_n 3, 1) := by decide +kernel
theorem dX2_spread_27 : decode cX2_spread 27 = .ok (.invokevirtual 50, 3) := by decide +kernel
theorem dX2_spread_30 : decode cX2_spread 30 = .ok (.iconst 0, 1) := by decide +kernel
theorem dX2_spread_31 : decode cX2_spread 31 = .ok (.istore 5, 2) := by decide +kernel
theorem dX2_spread_33 : decode cX2_spread 33 = .ok (.iload 5, 2) := by decide +kernel
theorem dX2_spread_35 : decode cX2_spread 35 = .ok (.aload_n 0, 1) := by decide +kernel
theorem dX2_spread_36 : decode cX2_spread 36 = .ok (.getfield 47, 3) := by decide +kernel
theorem dX2_spread_39 : decode cX2_spread 39 = .ok (.if_icmp .ge 81, 3) := by decide +kernel
theorem dX2_spread_42 : decode cX2_spread 42 = .ok (.iload 5, 2) := by decide +kernel
theorem dX2_spread_44 : decode cX2_spread 44 = .ok (.sipush 192, 3) := by decide +kernel
theorem dX2_spread_47 : decode cX2_spread 47 = .ok (.if_icmp .ge 73, 3) := by decide +kernel
theorem dX2_spread_50 : decode cX2_spread 50 = .ok (.aload_n 0, 1) := by decide +kernel
theorem dX2_spread_51 : decode cX2_spread 51 = .ok (.getfield 15, 3) := by decide +kernel
theorem dX2_spread_54 : decode cX2_spread 54 = .ok (.iload 5, 2) := by decide +kernel
theorem dX2_spread_56 : decode cX2_spread 56 = .ok (.iaload, 1) := by decide +kernel
theorem dX2_spread_57 : decode cX2_spread 57 = .ok (.bipush 16, 2) := by decide +kernel
theorem dX2_spread_59 : decode cX2_spread 59 = .ok (.irem, 1) := by decide +kernel
theorem dX2_spread_60 : decode cX2_spread 60 = .ok (.istore 6, 2) := by decide +kernel
theorem dX2_spread_62 : decode cX2_spread 62 = .ok (.aload_n 0, 1) := by decide +kernel
theorem dX2_spread_63 : decode cX2_spread 63 = .ok (.getfield 15, 3) := by decide +kernel
theorem dX2_spread_66 : decode cX2_spread 66 = .ok (.iload 5, 2) := by decide +kernel
theorem dX2_spread_68 : decode cX2_spread 68 = .ok (.iaload, 1) := by decide +kernel
theorem dX2_spread_69 : decode cX2_spread 69 = .ok (.bipush 16, 2) := by decide +kernel
theorem dX2_spread_71 : decode cX2_spread 71 = .ok (.idiv, 1) := by decide +kernel
theorem dX2_spread_72 : decode cX2_spread 72 = .ok (.istore 7, 2) := by decide +kernel
theorem dX2_spread_74 : decode cX2_spread 74 = .ok (.iconst 0, 1) := by decide +kernel
theorem dX2_spread_75 : decode cX2_spread 75 = .ok (.istore 8, 2) := by decide +kernel
theorem dX2_spread_77 : decode cX2_spread 77 = .ok (.iload 8, 2) := by decide +kernel
theorem dX2_spread_79 : decode cX2_spread 79 = .ok (.iconst 4, 1) := by decide +kernel
theorem dX2_spread_80 : decode cX2_spread 80 = .ok (.if_icmp .ge 34, 3) := by decide +kernel
theorem dX2_spread_83 : decode cX2_spread 83 = .ok (.aload_n 0, 1) := by decide +kernel
theorem dX2_spread_84 : decode cX2_spread 84 = .ok (.iload 6, 2) := by decide +kernel
theorem dX2_spread_86 : decode cX2_spread 86 = .ok (.getstatic 54, 3) := by decide +kernel
theorem dX2_spread_89 : decode cX2_spread 89 = .ok (.iload 8, 2) := by decide +kernel
theorem dX2_spread_91 : decode cX2_spread 91 = .ok (.iaload, 1) := by decide +kernel
theorem dX2_spread_92 : decode cX2_spread 92 = .ok (.iadd, 1) := by decide +kernel
theorem dX2_spread_93 : decode cX2_spread 93 = .ok (.iload 7, 2) := by decide +kernel
theorem dX2_spread_95 : decode cX2_spread 95 = .ok (.getstatic 57, 3) := by decide +kernel
theorem dX2_spread_98 : decode cX2_spread 98 = .ok (.iload 8, 2) := by decide +kernel
theorem dX2_spread_100 : decode cX2_spread 100 = .ok (.iaload, 1) := by decide +kernel
theorem dX2_spread_101 : decode cX2_spread 101 = .ok (.iadd, 1) := by decide +kernel
theorem dX2_spread_102 : decode cX2_spread 102 = .ok (.iload 4, 2) := by decide +kernel
theorem dX2_spread_104 : decode cX2_spread 104 = .ok (.iload_n 3, 1) := by decide +kernel
theorem dX2_spread_105 : decode cX2_spread 105 = .ok (.invokevirtual 50, 3) := by decide +kernel
theorem dX2_spread_108 : decode cX2_spread 108 = .ok (.iinc 8 1, 3) := by decide +kernel
theorem dX2_spread_111 : decode cX2_spread 111 = .ok (.goto (-34), 3) := by decide +kernel
theorem dX2_spread_114 : decode cX2_spread 114 = .ok (.iinc 5 1, 3) := by decide +kernel
theorem dX2_spread_117 : decode cX2_spread 117 = .ok (.goto (-84), 3) := by decide +kernel
theorem dX2_spread_120 : decode cX2_spread 120 = .ok (.aload_n 0, 1) := by decide +kernel
theorem dX2_spread_121 : decode cX2_spread 121 = .ok (.getfield 47, 3) := by decide +kernel
theorem dX2_spread_124 : decode cX2_spread 124 = .ok (.ireturn, 1) := by decide +kernel
theorem dX2_reach_0 : decode cX2_reach 0 = .ok (.aload_n 0, 1) := by decide +kernel
theorem dX2_reach_1 : decode cX2_reach 1 = .ok (.iload_n 1, 1) := by decide +kernel
theorem dX2_reach_2 : decode cX2_reach 2 = .ok (.iload_n 2, 1) := by decide +kernel
theorem dX2_reach_3 : decode cX2_reach 3 = .ok (.invokevirtual 31, 3) := by decide +kernel
theorem dX2_reach_6 : decode cX2_reach 6 = .ok (.ifCond .eq 57, 3) := by decide +kernel
theorem dX2_reach_9 : decode cX2_reach 9 = .ok (.aload_n 0, 1) := by decide +kernel
theorem dX2_reach_10 : decode cX2_reach 10 = .ok (.iload_n 1, 1) := by decide +kernel
theorem dX2_reach_11 : decode cX2_reach 11 = .ok (.iload_n 2, 1) := by decide +kernel
theorem dX2_reach_12 : decode cX2_reach 12 = .ok (.invokevirtual 39, 3) := by decide +kernel
theorem dX2_reach_15 : decode cX2_reach 15 = .ok (.iload_n 3, 1) := by decide +kernel
theorem dX2_reach_16 : decode cX2_reach 16 = .ok (.if_icmp .ne 47, 3) := by decide +kernel
theorem dX2_reach_19 : decode cX2_reach 19 = .ok (.aload_n 0, 1) := by decide +kernel
theorem dX2_reach_20 : decode cX2_reach 20 = .ok (.getfield 47, 3) := by decide +kernel
theorem dX2_reach_23 : decode cX2_reach 23 = .ok (.sipush 192, 3) := by decide +kernel
theorem dX2_reach_26 : decode cX2_reach 26 = .ok (.if_icmp .ge 37, 3) := by decide +kernel
theorem dX2_reach_29 : decode cX2_reach 29 = .ok (.aload_n 0, 1) := by decide +kernel
theorem dX2_reach_30 : decode cX2_reach 30 = .ok (.iload_n 1, 1) := by decide +kernel
theorem dX2_reach_31 : decode cX2_reach 31 = .ok (.iload_n 2, 1) := by decide +kernel
theorem dX2_reach_32 : decode cX2_reach 32 = .ok (.iload 4, 2) := by decide +kernel
theorem dX2_reach_34 : decode cX2_reach 34 = .ok (.invokevirtual 43, 3) := by decide +kernel
theorem dX2_reach_37 : decode cX2_reach 37 = .ok (.pop, 1) := by decide +kernel
theorem dX2_reach_38 : decode cX2_reach 38 = .ok (.aload_n 0, 1) := by decide +kernel
theorem dX2_reach_39 : decode cX2_reach 39 = .ok (.getfield 15, 3) := by decide +kernel
theorem dX2_reach_42 : decode cX2_reach 42 = .ok (.aload_n 0, 1) := by decide +kernel
theorem dX2_reach_43 : decode cX2_reach 43 = .ok (.getfield 47, 3) := by decide +kernel
theorem dX2_reach_46 : decode cX2_reach 46 = .ok (.iload_n 2, 1) := by decide +kernel
theorem dX2_reach_47 : decode cX2_reach 47 = .ok (.bipush 16, 2) := by decide +kernel
theorem dX2_reach_49 : decode cX2_reach 49 = .ok (.imul, 1) := by decide +kernel
theorem dX2_reach_50 : decode cX2_reach 50 = .ok (.iload_n 1, 1) := by decide +kernel
theorem dX2_reach_51 : decode cX2_reach 51 = .ok (.iadd, 1) := by decide +kernel
theorem dX2_reach_52 : decode cX2_reach 52 = .ok (.iastore, 1) := by decide +kernel
theorem dX2_reach_53 : decode cX2_reach 53 = .ok (.aload_n 0, 1) := by decide +kernel
theorem dX2_reach_54 : decode cX2_reach 54 = .ok (.dup, 1) := by decide +kernel
theorem dX2_reach_55 : decode cX2_reach 55 = .ok (.getfield 47, 3) := by decide +kernel
theorem dX2_reach_58 : decode cX2_reach 58 = .ok (.iconst 1, 1) := by decide +kernel
theorem dX2_reach_59 : decode cX2_reach 59 = .ok (.iadd, 1) := by decide +kernel
theorem dX2_reach_60 : decode cX2_reach 60 = .ok (.putfield 47, 3) := by decide +kernel
theorem dX2_reach_63 : decode cX2_reach 63 = .ok (.return_, 1) := by decide +kernel
theorem dX2_replaceBy_0 : decode cX2_replaceBy 0 = .ok (.iconst 0, 1) := by decide +kernel
theorem dX2_replaceBy_1 : decode cX2_replaceBy 1 = .ok (.istore_n 2, 1) := by decide +kernel
theorem dX2_replaceBy_2 : decode cX2_replaceBy 2 = .ok (.iconst 0, 1) := by decide +kernel
theorem dX2_replaceBy_3 : decode cX2_replaceBy 3 = .ok (.istore_n 3, 1) := by decide +kernel
theorem dX2_replaceBy_4 : decode cX2_replaceBy 4 = .ok (.iload_n 3, 1) := by decide +kernel
theorem dX2_replaceBy_5 : decode cX2_replaceBy 5 = .ok (.aload_n 0, 1) := by decide +kernel
theorem dX2_replaceBy_6 : decode cX2_replaceBy 6 = .ok (.getfield 22, 3) := by decide +kernel
theorem dX2_replaceBy_9 : decode cX2_replaceBy 9 = .ok (.if_icmp .ge 57, 3) := by decide +kernel
theorem dX2_replaceBy_12 : decode cX2_replaceBy 12 = .ok (.iconst 0, 1) := by decide +kernel
theorem dX2_replaceBy_13 : decode cX2_replaceBy 13 = .ok (.istore 4, 2) := by decide +kernel
theorem dX2_replaceBy_15 : decode cX2_replaceBy 15 = .ok (.iload 4, 2) := by decide +kernel
theorem dX2_replaceBy_17 : decode cX2_replaceBy 17 = .ok (.aload_n 0, 1) := by decide +kernel
theorem dX2_replaceBy_18 : decode cX2_replaceBy 18 = .ok (.getfield 18, 3) := by decide +kernel
theorem dX2_replaceBy_21 : decode cX2_replaceBy 21 = .ok (.if_icmp .ge 39, 3) := by decide +kernel
theorem dX2_replaceBy_24 : decode cX2_replaceBy 24 = .ok (.iload_n 3, 1) := by decide +kernel
theorem dX2_replaceBy_25 : decode cX2_replaceBy 25 = .ok (.bipush 16, 2) := by decide +kernel
theorem dX2_replaceBy_27 : decode cX2_replaceBy 27 = .ok (.imul, 1) := by decide +kernel
theorem dX2_replaceBy_28 : decode cX2_replaceBy 28 = .ok (.iload 4, 2) := by decide +kernel
theorem dX2_replaceBy_30 : decode cX2_replaceBy 30 = .ok (.iadd, 1) := by decide +kernel
theorem dX2_replaceBy_31 : decode cX2_replaceBy 31 = .ok (.istore 5, 2) := by decide +kernel
theorem dX2_replaceBy_33 : decode cX2_replaceBy 33 = .ok (.iload 5, 2) := by decide +kernel
theorem dX2_replaceBy_35 : decode cX2_replaceBy 35 = .ok (.aload_n 1, 1) := by decide +kernel
theorem dX2_replaceBy_36 : decode cX2_replaceBy 36 = .ok (.arraylength, 1) := by decide +kernel
theorem dX2_replaceBy_37 : decode cX2_replaceBy 37 = .ok (.if_icmp .ge 17, 3) := by decide +kernel
theorem dX2_replaceBy_40 : decode cX2_replaceBy 40 = .ok (.iload_n 2, 1) := by decide +kernel
theorem dX2_replaceBy_41 : decode cX2_replaceBy 41 = .ok (.aload_n 0, 1) := by decide +kernel
theorem dX2_replaceBy_42 : decode cX2_replaceBy 42 = .ok (.iload 4, 2) := by decide +kernel
theorem dX2_replaceBy_44 : decode cX2_replaceBy 44 = .ok (.iload_n 3, 1) := by decide +kernel
theorem dX2_replaceBy_45 : decode cX2_replaceBy 45 = .ok (.aload_n 1, 1) := by decide +kernel
theorem dX2_replaceBy_46 : decode cX2_replaceBy 46 = .ok (.iload 5, 2) := by decide +kernel
theorem dX2_replaceBy_48 : decode cX2_replaceBy 48 = .ok (.iaload, 1) := by decide +kernel
theorem dX2_replaceBy_49 : decode cX2_replaceBy 49 = .ok (.invokevirtual 43, 3) := by decide +kernel
theorem dX2_replaceBy_52 : decode cX2_replaceBy 52 = .ok (.iadd, 1) := by decide +kernel
theorem dX2_replaceBy_53 : decode cX2_replaceBy 53 = .ok (.istore_n 2, 1) := by decide +kernel
theorem dX2_replaceBy_54 : decode cX2_replaceBy 54 = .ok (.iinc 4 1, 3) := by decide +kernel
theorem dX2_replaceBy_57 : decode cX2_replaceBy 57 = .ok (.goto (-42), 3) := by decide +kernel
theorem dX2_replaceBy_60 : decode cX2_replaceBy 60 = .ok (.iinc 3 1, 3) := by decide +kernel
theorem dX2_replaceBy_63 : decode cX2_replaceBy 63 = .ok (.goto (-59), 3) := by decide +kernel
theorem dX2_replaceBy_66 : decode cX2_replaceBy 66 = .ok (.iload_n 2, 1) := by decide +kernel
theorem dX2_replaceBy_67 : decode cX2_replaceBy 67 = .ok (.ireturn, 1) := by decide +kernel
theorem dX3_init_0 : decode cX3_init 0 = .ok (.aload_n 0, 1) := by decide +kernel
theorem dX3_init_1 : decode cX3_init 1 = .ok (.invokespecial 3, 3) := by decide +kernel
theorem dX3_init_4 : decode cX3_init 4 = .ok (.aload_n 0, 1) := by decide +kernel
theorem dX3_init_5 : decode cX3_init 5 = .ok (.aload_n 1, 1) := by decide +kernel
theorem dX3_init_6 : decode cX3_init 6 = .ok (.putfield 9, 3) := by decide +kernel
theorem dX3_init_9 : decode cX3_init 9 = .ok (.return_, 1) := by decide +kernel
theorem dX3_sideOf_0 : decode cX3_sideOf 0 = .ok (.aload_n 0, 1) := by decide +kernel
theorem dX3_sideOf_1 : decode cX3_sideOf 1 = .ok (.getfield 9, 3) := by decide +kernel
theorem dX3_sideOf_4 : decode cX3_sideOf 4 = .ok (.getfield 15, 3) := by decide +kernel
theorem dX3_sideOf_7 : decode cX3_sideOf 7 = .ok (.iload_n 1, 1) := by decide +kernel
theorem dX3_sideOf_8 : decode cX3_sideOf 8 = .ok (.iaload, 1) := by decide +kernel
theorem dX3_sideOf_9 : decode cX3_sideOf 9 = .ok (.istore 5, 2) := by decide +kernel
theorem dX3_sideOf_11 : decode cX3_sideOf 11 = .ok (.aload_n 0, 1) := by decide +kernel
theorem dX3_sideOf_12 : decode cX3_sideOf 12 = .ok (.getfield 9, 3) := by decide +kernel
theorem dX3_sideOf_15 : decode cX3_sideOf 15 = .ok (.getfield 21, 3) := by decide +kernel
theorem dX3_sideOf_18 : decode cX3_sideOf 18 = .ok (.iload_n 1, 1) := by decide +kernel
theorem dX3_sideOf_19 : decode cX3_sideOf 19 = .ok (.iaload, 1) := by decide +kernel
theorem dX3_sideOf_20 : decode cX3_sideOf 20 = .ok (.istore 6, 2) := by decide +kernel
theorem dX3_sideOf_22 : decode cX3_sideOf 22 = .ok (.aload_n 0, 1) := by decide +kernel
theorem dX3_sideOf_23 : decode cX3_sideOf 23 = .ok (.getfield 9, 3) := by decide +kernel
theorem dX3_sideOf_26 : decode cX3_sideOf 26 = .ok (.getfield 15, 3) := by decide +kernel
theorem dX3_sideOf_29 : decode cX3_sideOf 29 = .ok (.iload_n 2, 1) := by decide +kernel
theorem dX3_sideOf_30 : decode cX3_sideOf 30 = .ok (.iaload, 1) := by decide +kernel
theorem dX3_sideOf_31 : decode cX3_sideOf 31 = .ok (.iload 5, 2) := by decide +kernel
theorem dX3_sideOf_33 : decode cX3_sideOf 33 = .ok (.isub, 1) := by decide +kernel
theorem dX3_sideOf_34 : decode cX3_sideOf 34 = .ok (.iload 4, 2) := by decide +kernel
theorem dX3_sideOf_36 : decode cX3_sideOf 36 = .ok (.iload 6, 2) := by decide +kernel
theorem dX3_sideOf_38 : decode cX3_sideOf 38 = .ok (.isub, 1) := by decide +kernel
theorem dX3_sideOf_39 : decode cX3_sideOf 39 = .ok (.imul, 1) := by decide +kernel
theorem dX3_sideOf_40 : decode cX3_sideOf 40 = .ok (.aload_n 0, 1) := by decide +kernel
theorem dX3_sideOf_41 : decode cX3_sideOf 41 = .ok (.getfield 9, 3) := by decide +kernel
theorem dX3_sideOf_44 : decode cX3_sideOf 44 = .ok (.getfield 21, 3) := by decide +kernel
theorem dX3_sideOf_47 : decode cX3_sideOf 47 = .ok (.iload_n 2, 1) := by decide +kernel
theorem dX3_sideOf_48 : decode cX3_sideOf 48 = .ok (.iaload, 1) := by decide +kernel
theorem dX3_sideOf_49 : decode cX3_sideOf 49 = .ok (.iload 6, 2) := by decide +kernel
theorem dX3_sideOf_51 : decode cX3_sideOf 51 = .ok (.isub, 1) := by decide +kernel
theorem dX3_sideOf_52 : decode cX3_sideOf 52 = .ok (.iload_n 3, 1) := by decide +kernel
theorem dX3_sideOf_53 : decode cX3_sideOf 53 = .ok (.iload 5, 2) := by decide +kernel
theorem dX3_sideOf_55 : decode cX3_sideOf 55 = .ok (.isub, 1) := by decide +kernel
theorem dX3_sideOf_56 : decode cX3_sideOf 56 = .ok (.imul, 1) := by decide +kernel
theorem dX3_sideOf_57 : decode cX3_sideOf 57 = .ok (.isub, 1) := by decide +kernel
theorem dX3_sideOf_58 : decode cX3_sideOf 58 = .ok (.ireturn, 1) := by decide +kernel
theorem dX3_sideOf__0 : decode cX3_sideOf_ 0 = .ok (.aload_n 0, 1) := by decide +kernel
theorem dX3_sideOf__1 : decode cX3_sideOf_ 1 = .ok (.iload_n 1, 1) := by decide +kernel
theorem dX3_sideOf__2 : decode cX3_sideOf_ 2 = .ok (.iload_n 2, 1) := by decide +kernel
theorem dX3_sideOf__3 : decode cX3_sideOf_ 3 = .ok (.aload_n 0, 1) := by decide +kernel
theorem dX3_sideOf__4 : decode cX3_sideOf_ 4 = .ok (.getfield 9, 3) := by decide +kernel
theorem dX3_sideOf__7 : decode cX3_sideOf_ 7 = .ok (.getfield 15, 3) := by decide +kernel
theorem dX3_sideOf__10 : decode cX3_sideOf_ 10 = .ok (.iload_n 3, 1) := by decide +kernel
theorem dX3_sideOf__11 : decode cX3_sideOf_ 11 = .ok (.iaload, 1) := by decide +kernel
theorem dX3_sideOf__12 : decode cX3_sideOf_ 12 = .ok (.aload_n 0, 1) := by decide +kernel
theorem dX3_sideOf__13 : decode cX3_sideOf_ 13 = .ok (.getfield 9, 3) := by decide +kernel
theorem dX3_sideOf__16 : decode cX3_sideOf_ 16 = .ok (.getfield 21, 3) := by decide +kernel
theorem dX3_sideOf__19 : decode cX3_sideOf_ 19 = .ok (.iload_n 3, 1) := by decide +kernel
theorem dX3_sideOf__20 : decode cX3_sideOf_ 20 = .ok (.iaload, 1) := by decide +kernel
theorem dX3_sideOf__21 : decode cX3_sideOf_ 21 = .ok (.invokevirtual 24, 3) := by decide +kernel
theorem dX3_sideOf__24 : decode cX3_sideOf_ 24 = .ok (.ireturn, 1) := by decide +kernel
theorem dX3_triangleSize_0 : decode cX3_triangleSize 0 = .ok (.aload_n 0, 1) := by decide +kernel
theorem dX3_triangleSize_1 : decode cX3_triangleSize 1 = .ok (.iload_n 1, 1) := by decide +kernel
theorem dX3_triangleSize_2 : decode cX3_triangleSize 2 = .ok (.iload_n 2, 1) := by decide +kernel
theorem dX3_triangleSize_3 : decode cX3_triangleSize 3 = .ok (.iload_n 3, 1) := by decide +kernel
theorem dX3_triangleSize_4 : decode cX3_triangleSize 4 = .ok (.invokevirtual 28, 3) := by decide +kernel
theorem dX3_triangleSize_7 : decode cX3_triangleSize 7 = .ok (.invokestatic 31, 3) := by decide +kernel
theorem dX3_triangleSize_10 : decode cX3_triangleSize 10 = .ok (.ireturn, 1) := by decide +kernel
theorem dX3_isSamePlace_0 : decode cX3_isSamePlace 0 = .ok (.aload_n 0, 1) := by decide +kernel
theorem dX3_isSamePlace_1 : decode cX3_isSamePlace 1 = .ok (.iload_n 1, 1) := by decide +kernel
theorem dX3_isSamePlace_2 : decode cX3_isSamePlace 2 = .ok (.aload_n 0, 1) := by decide +kernel
theorem dX3_isSamePlace_3 : decode cX3_isSamePlace 3 = .ok (.getfield 9, 3) := by decide +kernel
theorem dX3_isSamePlace_6 : decode cX3_isSamePlace 6 = .ok (.getfield 15, 3) := by decide +kernel
theorem dX3_isSamePlace_9 : decode cX3_isSamePlace 9 = .ok (.iload_n 2, 1) := by decide +kernel
theorem dX3_isSamePlace_10 : decode cX3_isSamePlace 10 = .ok (.iaload, 1) := by decide +kernel
theorem dX3_isSamePlace_11 : decode cX3_isSamePlace 11 = .ok (.aload_n 0, 1) := by decide +kernel
theorem dX3_isSamePlace_12 : decode cX3_isSamePlace 12 = .ok (.getfield 9, 3) := by decide +kernel
theorem dX3_isSamePlace_15 : decode cX3_isSamePlace 15 = .ok (.getfield 21, 3) := by decide +kernel
theorem dX3_isSamePlace_18 : decode cX3_isSamePlace 18 = .ok (.iload_n 2, 1) := by decide +kernel
theorem dX3_isSamePlace_19 : decode cX3_isSamePlace 19 = .ok (.iaload, 1) := by decide +kernel
theorem dX3_isSamePlace_20 : decode cX3_isSamePlace 20 = .ok (.invokevirtual 37, 3) := by decide +kernel
theorem dX3_isSamePlace_23 : decode cX3_isSamePlace 23 = .ok (.ireturn, 1) := by decide +kernel
theorem dX3_isAt_0 : decode cX3_isAt 0 = .ok (.aload_n 0, 1) := by decide +kernel
theorem dX3_isAt_1 : decode cX3_isAt 1 = .ok (.getfield 9, 3) := by decide +kernel
theorem dX3_isAt_4 : decode cX3_isAt 4 = .ok (.getfield 15, 3) := by decide +kernel
theorem dX3_isAt_7 : decode cX3_isAt 7 = .ok (.iload_n 1, 1) := by decide +kernel
theorem dX3_isAt_8 : decode cX3_isAt 8 = .ok (.iaload, 1) := by decide +kernel
theorem dX3_isAt_9 : decode cX3_isAt 9 = .ok (.iload_n 2, 1) := by decide +kernel
theorem dX3_isAt_10 : decode cX3_isAt 10 = .ok (.if_icmp .ne 20, 3) := by decide +kernel
theorem dX3_isAt_13 : decode cX3_isAt 13 = .ok (.aload_n 0, 1) := by decide +kernel
theorem dX3_isAt_14 : decode cX3_isAt 14 = .ok (.getfield 9, 3) := by decide +kernel
theorem dX3_isAt_17 : decode cX3_isAt 17 = .ok (.getfield 21, 3) := by decide +kernel
theorem dX3_isAt_20 : decode cX3_isAt 20 = .ok (.iload_n 1, 1) := by decide +kernel
theorem dX3_isAt_21 : decode cX3_isAt 21 = .ok (.iaload, 1) := by decide +kernel
theorem dX3_isAt_22 : decode cX3_isAt 22 = .ok (.iload_n 3, 1) := by decide +kernel
theorem dX3_isAt_23 : decode cX3_isAt 23 = .ok (.if_icmp .ne 7, 3) := by decide +kernel
theorem dX3_isAt_26 : decode cX3_isAt 26 = .ok (.iconst 1, 1) := by decide +kernel
theorem dX3_isAt_27 : decode cX3_isAt 27 = .ok (.goto 4, 3) := by decide +kernel
theorem dX3_isAt_30 : decode cX3_isAt 30 = .ok (.iconst 0, 1) := by decide +kernel
theorem dX3_isAt_31 : decode cX3_isAt 31 = .ok (.ireturn, 1) := by decide +kernel
theorem dX3_isFree_0 : decode cX3_isFree 0 = .ok (.aload_n 0, 1) := by decide +kernel
theorem dX3_isFree_1 : decode cX3_isFree 1 = .ok (.getfield 9, 3) := by decide +kernel
theorem dX3_isFree_4 : decode cX3_isFree 4 = .ok (.getfield 15, 3) := by decide +kernel
theorem dX3_isFree_7 : decode cX3_isFree 7 = .ok (.iload_n 2, 1) := by decide +kernel
theorem dX3_isFree_8 : decode cX3_isFree 8 = .ok (.iaload, 1) := by decide +kernel
theorem dX3_isFree_9 : decode cX3_isFree 9 = .ok (.aload_n 0, 1) := by decide +kernel
theorem dX3_isFree_10 : decode cX3_isFree 10 = .ok (.getfield 9, 3) := by decide +kernel
theorem dX3_isFree_13 : decode cX3_isFree 13 = .ok (.getfield 15, 3) := by decide +kernel
theorem dX3_isFree_16 : decode cX3_isFree 16 = .ok (.iload_n 1, 1) := by decide +kernel
theorem dX3_isFree_17 : decode cX3_isFree 17 = .ok (.iaload, 1) := by decide +kernel
theorem dX3_isFree_18 : decode cX3_isFree 18 = .ok (.aload_n 0, 1) := by decide +kernel
theorem dX3_isFree_19 : decode cX3_isFree 19 = .ok (.getfield 9, 3) := by decide +kernel
theorem dX3_isFree_22 : decode cX3_isFree 22 = .ok (.getfield 15, 3) := by decide +kernel
theorem dX3_isFree_25 : decode cX3_isFree 25 = .ok (.iload_n 3, 1) := by decide +kernel
theorem dX3_isFree_26 : decode cX3_isFree 26 = .ok (.iaload, 1) := by decide +kernel
theorem dX3_isFree_27 : decode cX3_isFree 27 = .ok (.invokestatic 41, 3) := by decide +kernel
theorem dX3_isFree_30 : decode cX3_isFree 30 = .ok (.invokestatic 41, 3) := by decide +kernel
theorem dX3_isFree_33 : decode cX3_isFree 33 = .ok (.istore 4, 2) := by decide +kernel
theorem dX3_isFree_35 : decode cX3_isFree 35 = .ok (.aload_n 0, 1) := by decide +kernel
theorem dX3_isFree_36 : decode cX3_isFree 36 = .ok (.getfield 9, 3) := by decide +kernel
theorem dX3_isFree_39 : decode cX3_isFree 39 = .ok (.getfield 15, 3) := by decide +kernel
theorem dX3_isFree_42 : decode cX3_isFree 42 = .ok (.iload_n 2, 1) := by decide +kernel
theorem dX3_isFree_43 : decode cX3_isFree 43 = .ok (.iaload, 1) := by decide +kernel
theorem dX3_isFree_44 : decode cX3_isFree 44 = .ok (.aload_n 0, 1) := by decide +kernel
theorem dX3_isFree_45 : decode cX3_isFree 45 = .ok (.getfield 9, 3) := by decide +kernel
theorem dX3_isFree_48 : decode cX3_isFree 48 = .ok (.getfield 15, 3) := by decide +kernel
theorem dX3_isFree_51 : decode cX3_isFree 51 = .ok (.iload_n 1, 1) := by decide +kernel
theorem dX3_isFree_52 : decode cX3_isFree 52 = .ok (.iaload, 1) := by decide +kernel
theorem dX3_isFree_53 : decode cX3_isFree 53 = .ok (.aload_n 0, 1) := by decide +kernel
theorem dX3_isFree_54 : decode cX3_isFree 54 = .ok (.getfield 9, 3) := by decide +kernel
theorem dX3_isFree_57 : decode cX3_isFree 57 = .ok (.getfield 15, 3) := by decide +kernel
theorem dX3_isFree_60 : decode cX3_isFree 60 = .ok (.iload_n 3, 1) := by decide +kernel
theorem dX3_isFree_61 : decode cX3_isFree 61 = .ok (.iaload, 1) := by decide +kernel
theorem dX3_isFree_62 : decode cX3_isFree 62 = .ok (.invokestatic 45, 3) := by decide +kernel
theorem dX3_isFree_65 : decode cX3_isFree 65 = .ok (.invokestatic 45, 3) := by decide +kernel
theorem dX3_isFree_68 : decode cX3_isFree 68 = .ok (.istore 5, 2) := by decide +kernel
theorem dX3_isFree_70 : decode cX3_isFree 70 = .ok (.aload_n 0, 1) := by decide +kernel
theorem dX3_isFree_71 : decode cX3_isFree 71 = .ok (.getfield 9, 3) := by decide +kernel
theorem dX3_isFree_74 : decode cX3_isFree 74 = .ok (.getfield 21, 3) := by decide +kernel
theorem dX3_isFree_77 : decode cX3_isFree 77 = .ok (.iload_n 2, 1) := by decide +kernel
theorem dX3_isFree_78 : decode cX3_isFree 78 = .ok (.iaload, 1) := by decide +kernel
theorem dX3_isFree_79 : decode cX3_isFree 79 = .ok (.aload_n 0, 1) := by decide +kernel
theorem dX3_isFree_80 : decode cX3_isFree 80 = .ok (.getfield 9, 3) := by decide +kernel
theorem dX3_isFree_83 : decode cX3_isFree 83 = .ok (.getfield 21, 3) := by decide +kernel
theorem dX3_isFree_86 : decode cX3_isFree 86 = .ok (.iload_n 1, 1) := by decide +kernel
theorem dX3_isFree_87 : decode cX3_isFree 87 = .ok (.iaload, 1) := by decide +kernel
theorem dX3_isFree_88 : decode cX3_isFree 88 = .ok (.aload_n 0, 1) := by decide +kernel
theorem dX3_isFree_89 : decode cX3_isFree 89 = .ok (.getfield 9, 3) := by decide +kernel
theorem dX3_isFree_92 : decode cX3_isFree 92 = .ok (.getfield 21, 3) := by decide +kernel
theorem dX3_isFree_95 : decode cX3_isFree 95 = .ok (.iload_n 3, 1) := by decide +kernel
theorem dX3_isFree_96 : decode cX3_isFree 96 = .ok (.iaload, 1) := by decide +kernel
theorem dX3_isFree_97 : decode cX3_isFree 97 = .ok (.invokestatic 41, 3) := by decide +kernel
theorem dX3_isFree_100 : decode cX3_isFree 100 = .ok (.invokestatic 41, 3) := by decide +kernel
theorem dX3_isFree_103 : decode cX3_isFree 103 = .ok (.istore 6, 2) := by decide +kernel
theorem dX3_isFree_105 : decode cX3_isFree 105 = .ok (.aload_n 0, 1) := by decide +kernel
theorem dX3_isFree_106 : decode cX3_isFree 106 = .ok (.getfield 9, 3) := by decide +kernel
theorem dX3_isFree_109 : decode cX3_isFree 109 = .ok (.getfield 21, 3) := by decide +kernel
theorem dX3_isFree_112 : decode cX3_isFree 112 = .ok (.iload_n 2, 1) := by decide +kernel
theorem dX3_isFree_113 : decode cX3_isFree 113 = .ok (.iaload, 1) := by decide +kernel
theorem dX3_isFree_114 : decode cX3_isFree 114 = .ok (.aload_n 0, 1) := by decide +kernel
theorem dX3_isFree_115 : decode cX3_isFree 115 = .ok (.getfield 9, 3) := by decide +kernel
theorem dX3_isFree_118 : decode cX3_isFree 118 = .ok (.getfield 21, 3) := by decide +kernel
theorem dX3_isFree_121 : decode cX3_isFree 121 = .ok (.iload_n 1, 1) := by decide +kernel
theorem dX3_isFree_122 : decode cX3_isFree 122 = .ok (.iaload, 1) := by decide +kernel
theorem dX3_isFree_123 : decode cX3_isFree 123 = .ok (.aload_n 0, 1) := by decide +kernel
theorem dX3_isFree_124 : decode cX3_isFree 124 = .ok (.getfield 9, 3) := by decide +kernel
theorem dX3_isFree_127 : decode cX3_isFree 127 = .ok (.getfield 21, 3) := by decide +kernel
theorem dX3_isFree_130 : decode cX3_isFree 130 = .ok (.iload_n 3, 1) := by decide +kernel
theorem dX3_isFree_131 : decode cX3_isFree 131 = .ok (.iaload, 1) := by decide +kernel
theorem dX3_isFree_132 : decode cX3_isFree 132 = .ok (.invokestatic 45, 3) := by decide +kernel
theorem dX3_isFree_135 : decode cX3_isFree 135 = .ok (.invokestatic 45, 3) := by decide +kernel
theorem dX3_isFree_138 : decode cX3_isFree 138 = .ok (.istore 7, 2) := by decide +kernel
theorem dX3_isFree_140 : decode cX3_isFree 140 = .ok (.iload 6, 2) := by decide +kernel
theorem dX3_isFree_142 : decode cX3_isFree 142 = .ok (.istore 8, 2) := by decide +kernel
theorem dX3_isFree_144 : decode cX3_isFree 144 = .ok (.iload 8, 2) := by decide +kernel
theorem dX3_isFree_146 : decode cX3_isFree 146 = .ok (.iload 7, 2) := by decide +kernel
theorem dX3_isFree_148 : decode cX3_isFree 148 = .ok (.if_icmp .gt 78, 3) := by decide +kernel
theorem dX3_isFree_151 : decode cX3_isFree 151 = .ok (.iload 4, 2) := by decide +kernel
theorem dX3_isFree_153 : decode cX3_isFree 153 = .ok (.istore 9, 2) := by decide +kernel
theorem dX3_isFree_155 : decode cX3_isFree 155 = .ok (.iload 9, 2) := by decide +kernel
theorem dX3_isFree_157 : decode cX3_isFree 157 = .ok (.iload 5, 2) := by decide +kernel
theorem dX3_isFree_159 : decode cX3_isFree 159 = .ok (.if_icmp .gt 61, 3) := by decide +kernel
theorem dX3_isFree_162 : decode cX3_isFree 162 = .ok (.aload_n 0, 1) := by decide +kernel
theorem dX3_isFree_163 : decode cX3_isFree 163 = .ok (.iload_n 2, 1) := by decide +kernel
theorem dX3_isFree_164 : decode cX3_isFree 164 = .ok (.iload 9, 2) := by decide +kernel
theorem dX3_isFree_166 : decode cX3_isFree 166 = .ok (.iload 8, 2) := by decide +kernel
theorem dX3_isFree_168 : decode cX3_isFree 168 = .ok (.invokevirtual 48, 3) := by decide +kernel
theorem dX3_isFree_171 : decode cX3_isFree 171 = .ok (.ifCond .eq 43, 3) := by decide +kernel
theorem dX3_isFree_174 : decode cX3_isFree 174 = .ok (.aload_n 0, 1) := by decide +kernel
theorem dX3_isFree_175 : decode cX3_isFree 175 = .ok (.iload_n 1, 1) := by decide +kernel
theorem dX3_isFree_176 : decode cX3_isFree 176 = .ok (.iload 9, 2) := by decide +kernel
theorem dX3_isFree_178 : decode cX3_isFree 178 = .ok (.iload 8, 2) := by decide +kernel
theorem dX3_isFree_180 : decode cX3_isFree 180 = .ok (.invokevirtual 37, 3) := by decide +kernel
theorem dX3_isFree_183 : decode cX3_isFree 183 = .ok (.ifCond .ne 31, 3) := by decide +kernel
theorem dX3_isFree_186 : decode cX3_isFree 186 = .ok (.aload_n 0, 1) := by decide +kernel
theorem dX3_isFree_187 : decode cX3_isFree 187 = .ok (.iload_n 3, 1) := by decide +kernel
theorem dX3_isFree_188 : decode cX3_isFree 188 = .ok (.iload 9, 2) := by decide +kernel
theorem dX3_isFree_190 : decode cX3_isFree 190 = .ok (.iload 8, 2) := by decide +kernel
theorem dX3_isFree_192 : decode cX3_isFree 192 = .ok (.invokevirtual 37, 3) := by decide +kernel
theorem dX3_isFree_195 : decode cX3_isFree 195 = .ok (.ifCond .ne 19, 3) := by decide +kernel
theorem dX3_isFree_198 : decode cX3_isFree 198 = .ok (.aload_n 0, 1) := by decide +kernel
theorem dX3_isFree_199 : decode cX3_isFree 199 = .ok (.iload_n 1, 1) := by decide +kernel
theorem dX3_isFree_200 : decode cX3_isFree 200 = .ok (.iload_n 2, 1) := by decide +kernel
theorem dX3_isFree_201 : decode cX3_isFree 201 = .ok (.iload_n 3, 1) := by decide +kernel
theorem dX3_isFree_202 : decode cX3_isFree 202 = .ok (.iload 9, 2) := by decide +kernel
theorem dX3_isFree_204 : decode cX3_isFree 204 = .ok (.iload 8, 2) := by decide +kernel
theorem dX3_isFree_206 : decode cX3_isFree 206 = .ok (.invokevirtual 51, 3) := by decide +kernel
theorem dX3_isFree_209 : decode cX3_isFree 209 = .ok (.ifCond .eq 5, 3) := by decide +kernel
theorem dX3_isFree_212 : decode cX3_isFree 212 = .ok (.iconst 0, 1) := by decide +kernel
theorem dX3_isFree_213 : decode cX3_isFree 213 = .ok (.ireturn, 1) := by decide +kernel
theorem dX3_isFree_214 : decode cX3_isFree 214 = .ok (.iinc 9 1, 3) := by decide +kernel
theorem dX3_isFree_217 : decode cX3_isFree 217 = .ok (.goto (-62), 3) := by decide +kernel
theorem dX3_isFree_220 : decode cX3_isFree 220 = .ok (.iinc 8 1, 3) := by decide +kernel
theorem dX3_isFree_223 : decode cX3_isFree 223 = .ok (.goto (-79), 3) := by decide +kernel
theorem dX3_isFree_226 : decode cX3_isFree 226 = .ok (.iconst 1, 1) := by decide +kernel
theorem dX3_isFree_227 : decode cX3_isFree 227 = .ok (.ireturn, 1) := by decide +kernel
theorem dX3_isOtherAt_0 : decode cX3_isOtherAt 0 = .ok (.aload_n 0, 1) := by decide +kernel
theorem dX3_isOtherAt_1 : decode cX3_isOtherAt 1 = .ok (.getfield 9, 3) := by decide +kernel
theorem dX3_isOtherAt_4 : decode cX3_isOtherAt 4 = .ok (.getfield 55, 3) := by decide +kernel
theorem dX3_isOtherAt_7 : decode cX3_isOtherAt 7 = .ok (.iload_n 1, 1) := by decide +kernel
theorem dX3_isOtherAt_8 : decode cX3_isOtherAt 8 = .ok (.baload, 1) := by decide +kernel
theorem dX3_isOtherAt_9 : decode cX3_isOtherAt 9 = .ok (.ifCond .eq 17, 3) := by decide +kernel
theorem dX3_isOtherAt_12 : decode cX3_isOtherAt 12 = .ok (.aload_n 0, 1) := by decide +kernel
theorem dX3_isOtherAt_13 : decode cX3_isOtherAt 13 = .ok (.iload_n 1, 1) := by decide +kernel
theorem dX3_isOtherAt_14 : decode cX3_isOtherAt 14 = .ok (.iload_n 2, 1) := by decide +kernel
theorem dX3_isOtherAt_15 : decode cX3_isOtherAt 15 = .ok (.iload_n 3, 1) := by decide +kernel
theorem dX3_isOtherAt_16 : decode cX3_isOtherAt 16 = .ok (.invokevirtual 37, 3) := by decide +kernel
theorem dX3_isOtherAt_19 : decode cX3_isOtherAt 19 = .ok (.ifCond .eq 7, 3) := by decide +kernel
theorem dX3_isOtherAt_22 : decode cX3_isOtherAt 22 = .ok (.iconst 1, 1) := by decide +kernel
theorem dX3_isOtherAt_23 : decode cX3_isOtherAt 23 = .ok (.goto 4, 3) := by decide +kernel
theorem dX3_isOtherAt_26 : decode cX3_isOtherAt 26 = .ok (.iconst 0, 1) := by decide +kernel
theorem dX3_isOtherAt_27 : decode cX3_isOtherAt 27 = .ok (.istore 4, 2) := by decide +kernel
theorem dX3_isOtherAt_29 : decode cX3_isOtherAt 29 = .ok (.aload_n 0, 1) := by decide +kernel
theorem dX3_isOtherAt_30 : decode cX3_isOtherAt 30 = .ok (.getfield 9, 3) := by decide +kernel
theorem dX3_isOtherAt_33 : decode cX3_isOtherAt 33 = .ok (.getfield 59, 3) := by decide +kernel
theorem dX3_isOtherAt_36 : decode cX3_isOtherAt 36 = .ok (.iload_n 3, 1) := by decide +kernel
theorem dX3_isOtherAt_37 : decode cX3_isOtherAt 37 = .ok (.bipush 17, 2) := by decide +kernel
theorem dX3_isOtherAt_39 : decode cX3_isOtherAt 39 = .ok (.imul, 1) := by decide +kernel
theorem dX3_isOtherAt_40 : decode cX3_isOtherAt 40 = .ok (.iload_n 2, 1) := by decide +kernel
theorem dX3_isOtherAt_41 : decode cX3_isOtherAt 41 = .ok (.iadd, 1) := by decide +kernel
theorem dX3_isOtherAt_42 : decode cX3_isOtherAt 42 = .ok (.iaload, 1) := by decide +kernel
theorem dX3_isOtherAt_43 : decode cX3_isOtherAt 43 = .ok (.iload 4, 2) := by decide +kernel
theorem dX3_isOtherAt_45 : decode cX3_isOtherAt 45 = .ok (.if_icmp .le 7, 3) := by decide +kernel
theorem dX3_isOtherAt_48 : decode cX3_isOtherAt 48 = .ok (.iconst 1, 1) := by decide +kernel
theorem dX3_isOtherAt_49 : decode cX3_isOtherAt 49 = .ok (.goto 4, 3) := by decide +kernel
theorem dX3_isOtherAt_52 : decode cX3_isOtherAt 52 = .ok (.iconst 0, 1) := by decide +kernel
theorem dX3_isOtherAt_53 : decode cX3_isOtherAt 53 = .ok (.ireturn, 1) := by decide +kernel
theorem dX3_isInTriangle_0 : decode cX3_isInTriangle 0 = .ok (.aload_n 0, 1) := by decide +kernel
theorem dX3_isInTriangle_1 : decode cX3_isInTriangle 1 = .ok (.iload_n 1, 1) := by decide +kernel
theorem dX3_isInTriangle_2 : decode cX3_isInTriangle 2 = .ok (.iload_n 2, 1) := by decide +kernel
theorem dX3_isInTriangle_3 : decode cX3_isInTriangle 3 = .ok (.iload 4, 2) := by decide +kernel
theorem dX3_isInTriangle_5 : decode cX3_isInTriangle 5 = .ok (.iload 5, 2) := by decide +kernel
theorem dX3_isInTriangle_7 : decode cX3_isInTriangle 7 = .ok (.invokevirtual 24, 3) := by decide +kernel
theorem dX3_isInTriangle_10 : decode cX3_isInTriangle 10 = .ok (.istore 6, 2) := by decide +kernel
theorem dX3_isInTriangle_12 : decode cX3_isInTriangle 12 = .ok (.aload_n 0, 1) := by decide +kernel
theorem dX3_isInTriangle_13 : decode cX3_isInTriangle 13 = .ok (.iload_n 2, 1) := by decide +kernel
theorem dX3_isInTriangle_14 : decode cX3_isInTriangle 14 = .ok (.iload_n 3, 1) := by decide +kernel
theorem dX3_isInTriangle_15 : decode cX3_isInTriangle 15 = .ok (.iload 4, 2) := by decide +kernel
theorem dX3_isInTriangle_17 : decode cX3_isInTriangle 17 = .ok (.iload 5, 2) := by decide +kernel
theorem dX3_isInTriangle_19 : decode cX3_isInTriangle 19 = .ok (.invokevirtual 24, 3) := by decide +kernel
theorem dX3_isInTriangle_22 : decode cX3_isInTriangle 22 = .ok (.istore 7, 2) := by decide +kernel
theorem dX3_isInTriangle_24 : decode cX3_isInTriangle 24 = .ok (.aload_n 0, 1) := by decide +kernel
theorem dX3_isInTriangle_25 : decode cX3_isInTriangle 25 = .ok (.iload_n 3, 1) := by decide +kernel
theorem dX3_isInTriangle_26 : decode cX3_isInTriangle 26 = .ok (.iload_n 1, 1) := by decide +kernel
theorem dX3_isInTriangle_27 : decode cX3_isInTriangle 27 = .ok (.iload 4, 2) := by decide +kernel
theorem dX3_isInTriangle_29 : decode cX3_isInTriangle 29 = .ok (.iload 5, 2) := by decide +kernel
theorem dX3_isInTriangle_31 : decode cX3_isInTriangle 31 = .ok (.invokevirtual 24, 3) := by decide +kernel
theorem dX3_isInTriangle_34 : decode cX3_isInTriangle 34 = .ok (.istore 8, 2) := by decide +kernel
theorem dX3_isInTriangle_36 : decode cX3_isInTriangle 36 = .ok (.iload 6, 2) := by decide +kernel
theorem dX3_isInTriangle_38 : decode cX3_isInTriangle 38 = .ok (.ifCond .lt 13, 3) := by decide +kernel
theorem dX3_isInTriangle_41 : decode cX3_isInTriangle 41 = .ok (.iload 7, 2) := by decide +kernel
theorem dX3_isInTriangle_43 : decode cX3_isInTriangle 43 = .ok (.ifCond .lt 8, 3) := by decide +kernel
theorem dX3_isInTriangle_46 : decode cX3_isInTriangle 46 = .ok (.iload 8, 2) := by decide +kernel
theorem dX3_isInTriangle_48 : decode cX3_isInTriangle 48 = .ok (.ifCond .ge 7, 3) := by decide +kernel
theorem dX3_isInTriangle_51 : decode cX3_isInTriangle 51 = .ok (.iconst 1, 1) := by decide +kernel
theorem dX3_isInTriangle_52 : decode cX3_isInTriangle 52 = .ok (.goto 4, 3) := by decide +kernel
theorem dX3_isInTriangle_55 : decode cX3_isInTriangle 55 = .ok (.iconst 0, 1) := by decide +kernel
theorem dX3_isInTriangle_56 : decode cX3_isInTriangle 56 = .ok (.istore 9, 2) := by decide +kernel
theorem dX3_isInTriangle_58 : decode cX3_isInTriangle 58 = .ok (.iload 6, 2) := by decide +kernel
theorem dX3_isInTriangle_60 : decode cX3_isInTriangle 60 = .ok (.ifCond .gt 13, 3) := by decide +kernel
theorem dX3_isInTriangle_63 : decode cX3_isInTriangle 63 = .ok (.iload 7, 2) := by decide +kernel
theorem dX3_isInTriangle_65 : decode cX3_isInTriangle 65 = .ok (.ifCond .gt 8, 3) := by decide +kernel
theorem dX3_isInTriangle_68 : decode cX3_isInTriangle 68 = .ok (.iload 8, 2) := by decide +kernel
theorem dX3_isInTriangle_70 : decode cX3_isInTriangle 70 = .ok (.ifCond .le 7, 3) := by decide +kernel
theorem dX3_isInTriangle_73 : decode cX3_isInTriangle 73 = .ok (.iconst 1, 1) := by decide +kernel
theorem dX3_isInTriangle_74 : decode cX3_isInTriangle 74 = .ok (.goto 4, 3) := by decide +kernel
theorem dX3_isInTriangle_77 : decode cX3_isInTriangle 77 = .ok (.iconst 0, 1) := by decide +kernel
theorem dX3_isInTriangle_78 : decode cX3_isInTriangle 78 = .ok (.istore 10, 2) := by decide +kernel
theorem dX3_isInTriangle_80 : decode cX3_isInTriangle 80 = .ok (.iload 9, 2) := by decide +kernel
theorem dX3_isInTriangle_82 : decode cX3_isInTriangle 82 = .ok (.ifCond .eq 8, 3) := by decide +kernel
theorem dX3_isInTriangle_85 : decode cX3_isInTriangle 85 = .ok (.iload 10, 2) := by decide +kernel
theorem dX3_isInTriangle_87 : decode cX3_isInTriangle 87 = .ok (.ifCond .ne 7, 3) := by decide +kernel
theorem dX3_isInTriangle_90 : decode cX3_isInTriangle 90 = .ok (.iconst 1, 1) := by decide +kernel
theorem dX3_isInTriangle_91 : decode cX3_isInTriangle 91 = .ok (.goto 4, 3) := by decide +kernel
theorem dX3_isInTriangle_94 : decode cX3_isInTriangle 94 = .ok (.iconst 0, 1) := by decide +kernel
theorem dX3_isInTriangle_95 : decode cX3_isInTriangle 95 = .ok (.ireturn, 1) := by decide +kernel
theorem dX3_isOnSegment_0 : decode cX3_isOnSegment 0 = .ok (.aload_n 0, 1) := by decide +kernel
theorem dX3_isOnSegment_1 : decode cX3_isOnSegment 1 = .ok (.getfield 9, 3) := by decide +kernel
theorem dX3_isOnSegment_4 : decode cX3_isOnSegment 4 = .ok (.getfield 15, 3) := by decide +kernel
theorem dX3_isOnSegment_7 : decode cX3_isOnSegment 7 = .ok (.iload_n 1, 1) := by decide +kernel
theorem dX3_isOnSegment_8 : decode cX3_isOnSegment 8 = .ok (.iaload, 1) := by decide +kernel
theorem dX3_isOnSegment_9 : decode cX3_isOnSegment 9 = .ok (.istore 4, 2) := by decide +kernel
theorem dX3_isOnSegment_11 : decode cX3_isOnSegment 11 = .ok (.aload_n 0, 1) := by decide +kernel
theorem dX3_isOnSegment_12 : decode cX3_isOnSegment 12 = .ok (.getfield 9, 3) := by decide +kernel
theorem dX3_isOnSegment_15 : decode cX3_isOnSegment 15 = .ok (.getfield 21, 3) := by decide +kernel
theorem dX3_isOnSegment_18 : decode cX3_isOnSegment 18 = .ok (.iload_n 1, 1) := by decide +kernel
theorem dX3_isOnSegment_19 : decode cX3_isOnSegment 19 = .ok (.iaload, 1) := by decide +kernel
theorem dX3_isOnSegment_20 : decode cX3_isOnSegment 20 = .ok (.istore 5, 2) := by decide +kernel
theorem dX3_isOnSegment_22 : decode cX3_isOnSegment 22 = .ok (.aload_n 0, 1) := by decide +kernel
theorem dX3_isOnSegment_23 : decode cX3_isOnSegment 23 = .ok (.iload_n 2, 1) := by decide +kernel
theorem dX3_isOnSegment_24 : decode cX3_isOnSegment 24 = .ok (.iload_n 3, 1) := by decide +kernel
theorem dX3_isOnSegment_25 : decode cX3_isOnSegment 25 = .ok (.iload_n 1, 1) := by decide +kernel
theorem dX3_isOnSegment_26 : decode cX3_isOnSegment 26 = .ok (.invokevirtual 28, 3) := by decide +kernel
theorem dX3_isOnSegment_29 : decode cX3_isOnSegment 29 = .ok (.ifCond .ne 111, 3) := by decide +kernel
theorem dX3_isOnSegment_32 : decode cX3_isOnSegment 32 = .ok (.iload 4, 2) := by decide +kernel
theorem dX3_isOnSegment_34 : decode cX3_isOnSegment 34 = .ok (.aload_n 0, 1) := by decide +kernel
theorem dX3_isOnSegment_35 : decode cX3_isOnSegment 35 = .ok (.getfield 9, 3) := by decide +kernel
theorem dX3_isOnSegment_38 : decode cX3_isOnSegment 38 = .ok (.getfield 15, 3) := by decide +kernel
theorem dX3_isOnSegment_41 : decode cX3_isOnSegment 41 = .ok (.iload_n 2, 1) := by decide +kernel
theorem dX3_isOnSegment_42 : decode cX3_isOnSegment 42 = .ok (.iaload, 1) := by decide +kernel
theorem dX3_isOnSegment_43 : decode cX3_isOnSegment 43 = .ok (.aload_n 0, 1) := by decide +kernel
theorem dX3_isOnSegment_44 : decode cX3_isOnSegment 44 = .ok (.getfield 9, 3) := by decide +kernel
theorem dX3_isOnSegment_47 : decode cX3_isOnSegment 47 = .ok (.getfield 15, 3) := by decide +kernel
theorem dX3_isOnSegment_50 : decode cX3_isOnSegment 50 = .ok (.iload_n 3, 1) := by decide +kernel
theorem dX3_isOnSegment_51 : decode cX3_isOnSegment 51 = .ok (.iaload, 1) := by decide +kernel
theorem dX3_isOnSegment_52 : decode cX3_isOnSegment 52 = .ok (.invokestatic 41, 3) := by decide +kernel
theorem dX3_isOnSegment_55 : decode cX3_isOnSegment 55 = .ok (.if_icmp .lt 85, 3) := by decide +kernel
theorem dX3_isOnSegment_58 : decode cX3_isOnSegment 58 = .ok (.iload 4, 2) := by decide +kernel
theorem dX3_isOnSegment_60 : decode cX3_isOnSegment 60 = .ok (.aload_n 0, 1) := by decide +kernel
theorem dX3_isOnSegment_61 : decode cX3_isOnSegment 61 = .ok (.getfield 9, 3) := by decide +kernel
theorem dX3_isOnSegment_64 : decode cX3_isOnSegment 64 = .ok (.getfield 15, 3) := by decide +kernel
theorem dX3_isOnSegment_67 : decode cX3_isOnSegment 67 = .ok (.iload_n 2, 1) := by decide +kernel
theorem dX3_isOnSegment_68 : decode cX3_isOnSegment 68 = .ok (.iaload, 1) := by decide +kernel
theorem dX3_isOnSegment_69 : decode cX3_isOnSegment 69 = .ok (.aload_n 0, 1) := by decide +kernel
theorem dX3_isOnSegment_70 : decode cX3_isOnSegment 70 = .ok (.getfield 9, 3) := by decide +kernel
theorem dX3_isOnSegment_73 : decode cX3_isOnSegment 73 = .ok (.getfield 15, 3) := by decide +kernel
theorem dX3_isOnSegment_76 : decode cX3_isOnSegment 76 = .ok (.iload_n 3, 1) := by decide +kernel
theorem dX3_isOnSegment_77 : decode cX3_isOnSegment 77 = .ok (.iaload, 1) := by decide +kernel
theorem dX3_isOnSegment_78 : decode cX3_isOnSegment 78 = .ok (.invokestatic 45, 3) := by decide +kernel
theorem dX3_isOnSegment_81 : decode cX3_isOnSegment 81 = .ok (.if_icmp .gt 59, 3) := by decide +kernel
theorem dX3_isOnSegment_84 : decode cX3_isOnSegment 84 = .ok (.iload 5, 2) := by decide +kernel
theorem dX3_isOnSegment_86 : decode cX3_isOnSegment 86 = .ok (.aload_n 0, 1) := by decide +kernel
theorem dX3_isOnSegment_87 : decode cX3_isOnSegment 87 = .ok (.getfield 9, 3) := by decide +kernel
theorem dX3_isOnSegment_90 : decode cX3_isOnSegment 90 = .ok (.getfield 21, 3) := by decide +kernel
theorem dX3_isOnSegment_93 : decode cX3_isOnSegment 93 = .ok (.iload_n 2, 1) := by decide +kernel
theorem dX3_isOnSegment_94 : decode cX3_isOnSegment 94 = .ok (.iaload, 1) := by decide +kernel
theorem dX3_isOnSegment_95 : decode cX3_isOnSegment 95 = .ok (.aload_n 0, 1) := by decide +kernel
theorem dX3_isOnSegment_96 : decode cX3_isOnSegment 96 = .ok (.getfield 9, 3) := by decide +kernel
theorem dX3_isOnSegment_99 : decode cX3_isOnSegment 99 = .ok (.getfield 21, 3) := by decide +kernel
theorem dX3_isOnSegment_102 : decode cX3_isOnSegment 102 = .ok (.iload_n 3, 1) := by decide +kernel
theorem dX3_isOnSegment_103 : decode cX3_isOnSegment 103 = .ok (.iaload, 1) := by decide +kernel
theorem dX3_isOnSegment_104 : decode cX3_isOnSegment 104 = .ok (.invokestatic 41, 3) := by decide +kernel
theorem dX3_isOnSegment_107 : decode cX3_isOnSegment 107 = .ok (.if_icmp .lt 33, 3) := by decide +kernel
theorem dX3_isOnSegment_110 : decode cX3_isOnSegment 110 = .ok (.iload 5, 2) := by decide +kernel
theorem dX3_isOnSegment_112 : decode cX3_isOnSegment 112 = .ok (.aload_n 0, 1) := by decide +kernel
theorem dX3_isOnSegment_113 : decode cX3_isOnSegment 113 = .ok (.getfield 9, 3) := by decide +kernel
theorem dX3_isOnSegment_116 : decode cX3_isOnSegment 116 = .ok (.getfield 21, 3) := by decide +kernel
theorem dX3_isOnSegment_119 : decode cX3_isOnSegment 119 = .ok (.iload_n 2, 1) := by decide +kernel
theorem dX3_isOnSegment_120 : decode cX3_isOnSegment 120 = .ok (.iaload, 1) := by decide +kernel
theorem dX3_isOnSegment_121 : decode cX3_isOnSegment 121 = .ok (.aload_n 0, 1) := by decide +kernel
theorem dX3_isOnSegment_122 : decode cX3_isOnSegment 122 = .ok (.getfield 9, 3) := by decide +kernel
theorem dX3_isOnSegment_125 : decode cX3_isOnSegment 125 = .ok (.getfield 21, 3) := by decide +kernel
theorem dX3_isOnSegment_128 : decode cX3_isOnSegment 128 = .ok (.iload_n 3, 1) := by decide +kernel
theorem dX3_isOnSegment_129 : decode cX3_isOnSegment 129 = .ok (.iaload, 1) := by decide +kernel
theorem dX3_isOnSegment_130 : decode cX3_isOnSegment 130 = .ok (.invokestatic 45, 3) := by decide +kernel
theorem dX3_isOnSegment_133 : decode cX3_isOnSegment 133 = .ok (.if_icmp .gt 7, 3) := by decide +kernel
theorem dX3_isOnSegment_136 : decode cX3_isOnSegment 136 = .ok (.iconst 1, 1) := by decide +kernel
theorem dX3_isOnSegment_137 : decode cX3_isOnSegment 137 = .ok (.goto 4, 3) := by decide +kernel
theorem dX3_isOnSegment_140 : decode cX3_isOnSegment 140 = .ok (.iconst 0, 1) := by decide +kernel
theorem dX3_isOnSegment_141 : decode cX3_isOnSegment 141 = .ok (.ireturn, 1) := by decide +kernel
theorem dX3_meetBesides_0 : decode cX3_meetBesides 0 = .ok (.aload_n 0, 1) := by decide +kernel
theorem dX3_meetBesides_1 : decode cX3_meetBesides 1 = .ok (.iload_n 1, 1) := by decide +kernel
theorem dX3_meetBesides_2 : decode cX3_meetBesides 2 = .ok (.iload_n 2, 1) := by decide +kernel
theorem dX3_meetBesides_3 : decode cX3_meetBesides 3 = .ok (.iload_n 3, 1) := by decide +kernel
theorem dX3_meetBesides_4 : decode cX3_meetBesides 4 = .ok (.invokevirtual 28, 3) := by decide +kernel
theorem dX3_meetBesides_7 : decode cX3_meetBesides 7 = .ok (.istore 6, 2) := by decide +kernel
theorem dX3_meetBesides_9 : decode cX3_meetBesides 9 = .ok (.aload_n 0, 1) := by decide +kernel
theorem dX3_meetBesides_10 : decode cX3_meetBesides 10 = .ok (.iload_n 1, 1) := by decide +kernel
theorem dX3_meetBesides_11 : decode cX3_meetBesides 11 = .ok (.iload_n 2, 1) := by decide +kernel
theorem dX3_meetBesides_12 : decode cX3_meetBesides 12 = .ok (.iload 4, 2) := by decide +kernel
theorem dX3_meetBesides_14 : decode cX3_meetBesides 14 = .ok (.invokevirtual 28, 3) := by decide +kernel
theorem dX3_meetBesides_17 : decode cX3_meetBesides 17 = .ok (.istore 7, 2) := by decide +kernel
theorem dX3_meetBesides_19 : decode cX3_meetBesides 19 = .ok (.aload_n 0, 1) := by decide +kernel
theorem dX3_meetBesides_20 : decode cX3_meetBesides 20 = .ok (.iload_n 3, 1) := by decide +kernel
theorem dX3_meetBesides_21 : decode cX3_meetBesides 21 = .ok (.iload 4, 2) := by decide +kernel
theorem dX3_meetBesides_23 : decode cX3_meetBesides 23 = .ok (.iload_n 1, 1) := by decide +kernel
theorem dX3_meetBesides_24 : decode cX3_meetBesides 24 = .ok (.invokevirtual 28, 3) := by decide +kernel
theorem dX3_meetBesides_27 : decode cX3_meetBesides 27 = .ok (.istore 8, 2) := by decide +kernel
theorem dX3_meetBesides_29 : decode cX3_meetBesides 29 = .ok (.aload_n 0, 1) := by decide +kernel
theorem dX3_meetBesides_30 : decode cX3_meetBesides 30 = .ok (.iload_n 3, 1) := by decide +kernel
theorem dX3_meetBesides_31 : decode cX3_meetBesides 31 = .ok (.iload 4, 2) := by decide +kernel
theorem dX3_meetBesides_33 : decode cX3_meetBesides 33 = .ok (.iload_n 2, 1) := by decide +kernel
theorem dX3_meetBesides_34 : decode cX3_meetBesides 34 = .ok (.invokevirtual 28, 3) := by decide +kernel
theorem dX3_meetBesides_37 : decode cX3_meetBesides 37 = .ok (.istore 9, 2) := by decide +kernel
theorem dX3_meetBesides_39 : decode cX3_meetBesides 39 = .ok (.iload 6, 2) := by decide +kernel
theorem dX3_meetBesides_41 : decode cX3_meetBesides 41 = .ok (.ifCond .ne 30, 3) := by decide +kernel
theorem dX3_meetBesides_44 : decode cX3_meetBesides 44 = .ok (.iload 7, 2) := by decide +kernel
theorem dX3_meetBesides_46 : decode cX3_meetBesides 46 = .ok (.ifCond .ne 25, 3) := by decide +kernel
theorem dX3_meetBesides_49 : decode cX3_meetBesides 49 = .ok (.iload 8, 2) := by decide +kernel
theorem dX3_meetBesides_51 : decode cX3_meetBesides 51 = .ok (.ifCond .ne 20, 3) := by decide +kernel
theorem dX3_meetBesides_54 : decode cX3_meetBesides 54 = .ok (.iload 9, 2) := by decide +kernel
theorem dX3_meetBesides_56 : decode cX3_meetBesides 56 = .ok (.ifCond .ne 15, 3) := by decide +kernel
theorem dX3_meetBesides_59 : decode cX3_meetBesides 59 = .ok (.aload_n 0, 1) := by decide +kernel
theorem dX3_meetBesides_60 : decode cX3_meetBesides 60 = .ok (.iload_n 1, 1) := by decide +kernel
theorem dX3_meetBesides_61 : decode cX3_meetBesides 61 = .ok (.iload_n 2, 1) := by decide +kernel
theorem dX3_meetBesides_62 : decode cX3_meetBesides 62 = .ok (.iload_n 3, 1) := by decide +kernel
theorem dX3_meetBesides_63 : decode cX3_meetBesides 63 = .ok (.iload 4, 2) := by decide +kernel
theorem dX3_meetBesides_65 : decode cX3_meetBesides 65 = .ok (.iload 5, 2) := by decide +kernel
theorem dX3_meetBesides_67 : decode cX3_meetBesides 67 = .ok (.invokevirtual 62, 3) := by decide +kernel
theorem dX3_meetBesides_70 : decode cX3_meetBesides 70 = .ok (.ireturn, 1) := by decide +kernel
theorem dX3_meetBesides_71 : decode cX3_meetBesides 71 = .ok (.iload 6, 2) := by decide +kernel
theorem dX3_meetBesides_73 : decode cX3_meetBesides 73 = .ok (.iload 7, 2) := by decide +kernel
theorem dX3_meetBesides_75 : decode cX3_meetBesides 75 = .ok (.imul, 1) := by decide +kernel
theorem dX3_meetBesides_76 : decode cX3_meetBesides 76 = .ok (.ifCond .gt 11, 3) := by decide +kernel
theorem dX3_meetBesides_79 : decode cX3_meetBesides 79 = .ok (.iload 8, 2) := by decide +kernel
theorem dX3_meetBesides_81 : decode cX3_meetBesides 81 = .ok (.iload 9, 2) := by decide +kernel
theorem dX3_meetBesides_83 : decode cX3_meetBesides 83 = .ok (.imul, 1) := by decide +kernel
theorem dX3_meetBesides_84 : decode cX3_meetBesides 84 = .ok (.ifCond .le 5, 3) := by decide +kernel
theorem dX3_meetBesides_87 : decode cX3_meetBesides 87 = .ok (.iconst 0, 1) := by decide +kernel
theorem dX3_meetBesides_88 : decode cX3_meetBesides 88 = .ok (.ireturn, 1) := by decide +kernel
theorem dX3_meetBesides_89 : decode cX3_meetBesides 89 = .ok (.aload_n 0, 1) := by decide +kernel
theorem dX3_meetBesides_90 : decode cX3_meetBesides 90 = .ok (.iload_n 1, 1) := by decide +kernel
theorem dX3_meetBesides_91 : decode cX3_meetBesides 91 = .ok (.iload_n 2, 1) := by decide +kernel
theorem dX3_meetBesides_92 : decode cX3_meetBesides 92 = .ok (.iload 5, 2) := by decide +kernel
theorem dX3_meetBesides_94 : decode cX3_meetBesides 94 = .ok (.invokevirtual 28, 3) := by decide +kernel
theorem dX3_meetBesides_97 : decode cX3_meetBesides 97 = .ok (.ifCond .ne 19, 3) := by decide +kernel
theorem dX3_meetBesides_100 : decode cX3_meetBesides 100 = .ok (.aload_n 0, 1) := by decide +kernel
theorem dX3_meetBesides_101 : decode cX3_meetBesides 101 = .ok (.iload_n 3, 1) := by decide +kernel
theorem dX3_meetBesides_102 : decode cX3_meetBesides 102 = .ok (.iload 4, 2) := by decide +kernel
theorem dX3_meetBesides_104 : decode cX3_meetBesides 104 = .ok (.iload 5, 2) := by decide +kernel
theorem dX3_meetBesides_106 : decode cX3_meetBesides 106 = .ok (.invokevirtual 28, 3) := by decide +kernel
theorem dX3_meetBesides_109 : decode cX3_meetBesides 109 = .ok (.ifCond .ne 7, 3) := by decide +kernel
theorem dX3_meetBesides_112 : decode cX3_meetBesides 112 = .ok (.iconst 1, 1) := by decide +kernel
theorem dX3_meetBesides_113 : decode cX3_meetBesides 113 = .ok (.goto 4, 3) := by decide +kernel
theorem dX3_meetBesides_116 : decode cX3_meetBesides 116 = .ok (.iconst 0, 1) := by decide +kernel
theorem dX3_meetBesides_117 : decode cX3_meetBesides 117 = .ok (.istore 10, 2) := by decide +kernel
theorem dX3_meetBesides_119 : decode cX3_meetBesides 119 = .ok (.iload 6, 2) := by decide +kernel
theorem dX3_meetBesides_121 : decode cX3_meetBesides 121 = .ok (.ifCond .eq 12, 3) := by decide +kernel
theorem dX3_meetBesides_124 : decode cX3_meetBesides 124 = .ok (.iload 10, 2) := by decide +kernel
theorem dX3_meetBesides_126 : decode cX3_meetBesides 126 = .ok (.ifCond .ne 7, 3) := by decide +kernel
theorem dX3_meetBesides_129 : decode cX3_meetBesides 129 = .ok (.iconst 1, 1) := by decide +kernel
theorem dX3_meetBesides_130 : decode cX3_meetBesides 130 = .ok (.goto 4, 3) := by decide +kernel
theorem dX3_meetBesides_133 : decode cX3_meetBesides 133 = .ok (.iconst 0, 1) := by decide +kernel
theorem dX3_meetBesides_134 : decode cX3_meetBesides 134 = .ok (.ireturn, 1) := by decide +kernel
theorem dX3_meetOnLine_0 : decode cX3_meetOnLine 0 = .ok (.aload_n 0, 1) := by decide +kernel
theorem dX3_meetOnLine_1 : decode cX3_meetOnLine 1 = .ok (.iload_n 1, 1) := by decide +kernel
theorem dX3_meetOnLine_2 : decode cX3_meetOnLine 2 = .ok (.invokevirtual 65, 3) := by decide +kernel
theorem dX3_meetOnLine_5 : decode cX3_meetOnLine 5 = .ok (.aload_n 0, 1) := by decide +kernel
theorem dX3_meetOnLine_6 : decode cX3_meetOnLine 6 = .ok (.iload_n 2, 1) := by decide +kernel
theorem dX3_meetOnLine_7 : decode cX3_meetOnLine 7 = .ok (.invokevirtual 65, 3) := by decide +kernel
theorem dX3_meetOnLine_10 : decode cX3_meetOnLine 10 = .ok (.invokestatic 41, 3) := by decide +kernel
theorem dX3_meetOnLine_13 : decode cX3_meetOnLine 13 = .ok (.aload_n 0, 1) := by decide +kernel
theorem dX3_meetOnLine_14 : decode cX3_meetOnLine 14 = .ok (.iload_n 3, 1) := by decide +kernel
theorem dX3_meetOnLine_15 : decode cX3_meetOnLine 15 = .ok (.invokevirtual 65, 3) := by decide +kernel
theorem dX3_meetOnLine_18 : decode cX3_meetOnLine 18 = .ok (.aload_n 0, 1) := by decide +kernel
theorem dX3_meetOnLine_19 : decode cX3_meetOnLine 19 = .ok (.iload 4, 2) := by decide +kernel
theorem dX3_meetOnLine_21 : decode cX3_meetOnLine 21 = .ok (.invokevirtual 65, 3) := by decide +kernel
theorem dX3_meetOnLine_24 : decode cX3_meetOnLine 24 = .ok (.invokestatic 41, 3) := by decide +kernel
theorem dX3_meetOnLine_27 : decode cX3_meetOnLine 27 = .ok (.invokestatic 45, 3) := by decide +kernel
theorem dX3_meetOnLine_30 : decode cX3_meetOnLine 30 = .ok (.istore 6, 2) := by decide +kernel
theorem dX3_meetOnLine_32 : decode cX3_meetOnLine 32 = .ok (.aload_n 0, 1) := by decide +kernel
theorem dX3_meetOnLine_33 : decode cX3_meetOnLine 33 = .ok (.iload_n 1, 1) := by decide +kernel
theorem dX3_meetOnLine_34 : decode cX3_meetOnLine 34 = .ok (.invokevirtual 65, 3) := by decide +kernel
theorem dX3_meetOnLine_37 : decode cX3_meetOnLine 37 = .ok (.aload_n 0, 1) := by decide +kernel
theorem dX3_meetOnLine_38 : decode cX3_meetOnLine 38 = .ok (.iload_n 2, 1) := by decide +kernel
theorem dX3_meetOnLine_39 : decode cX3_meetOnLine 39 = .ok (.invokevirtual 65, 3) := by decide +kernel
theorem dX3_meetOnLine_42 : decode cX3_meetOnLine 42 = .ok (.invokestatic 45, 3) := by decide +kernel
theorem dX3_meetOnLine_45 : decode cX3_meetOnLine 45 = .ok (.aload_n 0, 1) := by decide +kernel
theorem dX3_meetOnLine_46 : decode cX3_meetOnLine 46 = .ok (.iload_n 3, 1) := by decide +kernel
theorem dX3_meetOnLine_47 : decode cX3_meetOnLine 47 = .ok (.invokevirtual 65, 3) := by decide +kernel
theorem dX3_meetOnLine_50 : decode cX3_meetOnLine 50 = .ok (.aload_n 0, 1) := by decide +kernel
theorem dX3_meetOnLine_51 : decode cX3_meetOnLine 51 = .ok (.iload 4, 2) := by decide +kernel
theorem dX3_meetOnLine_53 : decode cX3_meetOnLine 53 = .ok (.invokevirtual 65, 3) := by decide +kernel
theorem dX3_meetOnLine_56 : decode cX3_meetOnLine 56 = .ok (.invokestatic 45, 3) := by decide +kernel
theorem dX3_meetOnLine_59 : decode cX3_meetOnLine 59 = .ok (.invokestatic 41, 3) := by decide +kernel
theorem dX3_meetOnLine_62 : decode cX3_meetOnLine 62 = .ok (.istore 7, 2) := by decide +kernel
theorem dX3_meetOnLine_64 : decode cX3_meetOnLine 64 = .ok (.iload 6, 2) := by decide +kernel
theorem dX3_meetOnLine_66 : decode cX3_meetOnLine 66 = .ok (.iload 7, 2) := by decide +kernel
theorem dX3_meetOnLine_68 : decode cX3_meetOnLine 68 = .ok (.if_icmp .lt 31, 3) := by decide +kernel
theorem dX3_meetOnLine_71 : decode cX3_meetOnLine 71 = .ok (.iload 6, 2) := by decide +kernel
theorem dX3_meetOnLine_73 : decode cX3_meetOnLine 73 = .ok (.iload 7, 2) := by decide +kernel
theorem dX3_meetOnLine_75 : decode cX3_meetOnLine 75 = .ok (.if_icmp .ne 28, 3) := by decide +kernel
theorem dX3_meetOnLine_78 : decode cX3_meetOnLine 78 = .ok (.iload 6, 2) := by decide +kernel
theorem dX3_meetOnLine_80 : decode cX3_meetOnLine 80 = .ok (.aload_n 0, 1) := by decide +kernel
theorem dX3_meetOnLine_81 : decode cX3_meetOnLine 81 = .ok (.iload_n 3, 1) := by decide +kernel
theorem dX3_meetOnLine_82 : decode cX3_meetOnLine 82 = .ok (.invokevirtual 65, 3) := by decide +kernel
theorem dX3_meetOnLine_85 : decode cX3_meetOnLine 85 = .ok (.if_icmp .eq 18, 3) := by decide +kernel
theorem dX3_meetOnLine_88 : decode cX3_meetOnLine 88 = .ok (.iload 6, 2) := by decide +kernel
theorem dX3_meetOnLine_90 : decode cX3_meetOnLine 90 = .ok (.aload_n 0, 1) := by decide +kernel
theorem dX3_meetOnLine_91 : decode cX3_meetOnLine 91 = .ok (.iload 5, 2) := by decide +kernel
theorem dX3_meetOnLine_93 : decode cX3_meetOnLine 93 = .ok (.invokevirtual 65, 3) := by decide +kernel
theorem dX3_meetOnLine_96 : decode cX3_meetOnLine 96 = .ok (.if_icmp .eq 7, 3) := by decide +kernel
theorem dX3_meetOnLine_99 : decode cX3_meetOnLine 99 = .ok (.iconst 1, 1) := by decide +kernel
theorem dX3_meetOnLine_100 : decode cX3_meetOnLine 100 = .ok (.goto 4, 3) := by decide +kernel
theorem dX3_meetOnLine_103 : decode cX3_meetOnLine 103 = .ok (.iconst 0, 1) := by decide +kernel
theorem dX3_meetOnLine_104 : decode cX3_meetOnLine 104 = .ok (.ireturn, 1) := by decide +kernel
theorem dX3_order_0 : decode cX3_order 0 = .ok (.aload_n 0, 1) := by decide +kernel
theorem dX3_order_1 : decode cX3_order 1 = .ok (.getfield 9, 3) := by decide +kernel
theorem dX3_order_4 : decode cX3_order 4 = .ok (.getfield 21, 3) := by decide +kernel
theorem dX3_order_7 : decode cX3_order 7 = .ok (.iload_n 1, 1) := by decide +kernel
theorem dX3_order_8 : decode cX3_order 8 = .ok (.iaload, 1) := by decide +kernel
theorem dX3_order_9 : decode cX3_order 9 = .ok (.bipush 17, 2) := by decide +kernel
theorem dX3_order_11 : decode cX3_order 11 = .ok (.imul, 1) := by decide +kernel
theorem dX3_order_12 : decode cX3_order 12 = .ok (.aload_n 0, 1) := by decide +kernel
theorem dX3_order_13 : decode cX3_order 13 = .ok (.getfield 9, 3) := by decide +kernel
theorem dX3_order_16 : decode cX3_order 16 = .ok (.getfield 15, 3) := by decide +kernel
theorem dX3_order_19 : decode cX3_order 19 = .ok (.iload_n 1, 1) := by decide +kernel
theorem dX3_order_20 : decode cX3_order 20 = .ok (.iaload, 1) := by decide +kernel
theorem dX3_order_21 : decode cX3_order 21 = .ok (.iadd, 1) := by decide +kernel
theorem dX3_order_22 : decode cX3_order 22 = .ok (.ireturn, 1) := by decide +kernel
theorem dX4_init_0 : decode cX4_init 0 = .ok (.aload_n 0, 1) := by decide +kernel
theorem dX4_init_1 : decode cX4_init 1 = .ok (.invokespecial 3, 3) := by decide +kernel
theorem dX4_init_4 : decode cX4_init 4 = .ok (.aload_n 0, 1) := by decide +kernel
theorem dX4_init_5 : decode cX4_init 5 = .ok (.sipush 192, 3) := by decide +kernel
theorem dX4_init_8 : decode cX4_init 8 = .ok (.newarray .int, 2) := by decide +kernel
theorem dX4_init_10 : decode cX4_init 10 = .ok (.putfield 9, 3) := by decide +kernel
theorem dX4_init_13 : decode cX4_init 13 = .ok (.return_, 1) := by decide +kernel
theorem dX4_faultIn_0 : decode cX4_faultIn 0 = .ok (.aload_n 0, 1) := by decide +kernel
theorem dX4_faultIn_1 : decode cX4_faultIn 1 = .ok (.aload_n 2, 1) := by decide +kernel
theorem dX4_faultIn_2 : decode cX4_faultIn 2 = .ok (.getfield 15, 3) := by decide +kernel
theorem dX4_faultIn_5 : decode cX4_faultIn 5 = .ok (.aload_n 2, 1) := by decide +kernel
theorem dX4_faultIn_6 : decode cX4_faultIn 6 = .ok (.getfield 21, 3) := by decide +kernel
theorem dX4_faultIn_9 : decode cX4_faultIn 9 = .ok (.invokevirtual 24, 3) := by decide +kernel
theorem dX4_faultIn_12 : decode cX4_faultIn 12 = .ok (.iconst 0, 1) := by decide +kernel
theorem dX4_faultIn_13 : decode cX4_faultIn 13 = .ok (.istore_n 3, 1) := by decide +kernel
theorem dX4_faultIn_14 : decode cX4_faultIn 14 = .ok (.iload_n 3, 1) := by decide +kernel
theorem dX4_faultIn_15 : decode cX4_faultIn 15 = .ok (.aload_n 1, 1) := by decide +kernel
theorem dX4_faultIn_16 : decode cX4_faultIn 16 = .ok (.getfield 28, 3) := by decide +kernel
theorem dX4_faultIn_19 : decode cX4_faultIn 19 = .ok (.if_icmp .ge 31, 3) := by decide +kernel
theorem dX4_faultIn_22 : decode cX4_faultIn 22 = .ok (.iload_n 3, 1) := by decide +kernel
theorem dX4_faultIn_23 : decode cX4_faultIn 23 = .ok (.sipush 200, 3) := by decide +kernel
theorem dX4_faultIn_26 : decode cX4_faultIn 26 = .ok (.if_icmp .ge 24, 3) := by decide +kernel
theorem dX4_faultIn_29 : decode cX4_faultIn 29 = .ok (.aload_n 0, 1) := by decide +kernel
theorem dX4_faultIn_30 : decode cX4_faultIn 30 = .ok (.aload_n 1, 1) := by decide +kernel
theorem dX4_faultIn_31 : decode cX4_faultIn 31 = .ok (.getfield 33, 3) := by decide +kernel
theorem dX4_faultIn_34 : decode cX4_faultIn 34 = .ok (.iload_n 3, 1) := by decide +kernel
theorem dX4_faultIn_35 : decode cX4_faultIn 35 = .ok (.caload, 1) := by decide +kernel
theorem dX4_faultIn_36 : decode cX4_faultIn 36 = .ok (.invokevirtual 37, 3) := by decide +kernel
theorem dX4_faultIn_39 : decode cX4_faultIn 39 = .ok (.ifCond .ne 5, 3) := by decide +kernel
theorem dX4_faultIn_42 : decode cX4_faultIn 42 = .ok (.iload_n 3, 1) := by decide +kernel
theorem dX4_faultIn_43 : decode cX4_faultIn 43 = .ok (.ireturn, 1) := by decide +kernel
theorem dX4_faultIn_44 : decode cX4_faultIn 44 = .ok (.iinc 3 1, 3) := by decide +kernel
theorem dX4_faultIn_47 : decode cX4_faultIn 47 = .ok (.goto (-33), 3) := by decide +kernel
theorem dX4_faultIn_50 : decode cX4_faultIn 50 = .ok (.aload_n 0, 1) := by decide +kernel
theorem dX4_faultIn_51 : decode cX4_faultIn 51 = .ok (.getfield 41, 3) := by decide +kernel
theorem dX4_faultIn_54 : decode cX4_faultIn 54 = .ok (.ifCond .le 10, 3) := by decide +kernel
theorem dX4_faultIn_57 : decode cX4_faultIn 57 = .ok (.aload_n 1, 1) := by decide +kernel
theorem dX4_faultIn_58 : decode cX4_faultIn 58 = .ok (.getfield 28, 3) := by decide +kernel
theorem dX4_faultIn_61 : decode cX4_faultIn 61 = .ok (.goto 4, 3) := by decide +kernel
theorem dX4_faultIn_64 : decode cX4_faultIn 64 = .ok (.iconst (-1), 1) := by decide +kernel
theorem dX4_faultIn_65 : decode cX4_faultIn 65 = .ok (.ireturn, 1) := by decide +kernel
theorem dX4_begin_0 : decode cX4_begin 0 = .ok (.aload_n 0, 1) := by decide +kernel
theorem dX4_begin_1 : decode cX4_begin 1 = .ok (.iload_n 1, 1) := by decide +kernel
theorem dX4_begin_2 : decode cX4_begin 2 = .ok (.putfield 44, 3) := by decide +kernel
theorem dX4_begin_5 : decode cX4_begin 5 = .ok (.aload_n 0, 1) := by decide +kernel
theorem dX4_begin_6 : decode cX4_begin 6 = .ok (.iload_n 2, 1) := by decide +kernel
theorem dX4_begin_7 : decode cX4_begin 7 = .ok (.putfield 45, 3) := by decide +kernel
theorem dX4_begin_10 : decode cX4_begin 10 = .ok (.aload_n 0, 1) := by decide +kernel
theorem dX4_begin_11 : decode cX4_begin 11 = .ok (.iconst 0, 1) := by decide +kernel
theorem dX4_begin_12 : decode cX4_begin 12 = .ok (.putfield 46, 3) := by decide +kernel
theorem dX4_begin_15 : decode cX4_begin 15 = .ok (.aload_n 0, 1) := by decide +kernel
theorem dX4_begin_16 : decode cX4_begin 16 = .ok (.iconst 0, 1) := by decide +kernel
theorem dX4_begin_17 : decode cX4_begin 17 = .ok (.putfield 49, 3) := by decide +kernel
theorem dX4_begin_20 : decode cX4_begin 20 = .ok (.aload_n 0, 1) := by decide +kernel
theorem dX4_begin_21 : decode cX4_begin 21 = .ok (.iconst 0, 1) := by decide +kernel
theorem dX4_begin_22 : decode cX4_begin 22 = .ok (.putfield 41, 3) := by decide +kernel
theorem dX4_begin_25 : decode cX4_begin 25 = .ok (.aload_n 0, 1) := by decide +kernel
theorem dX4_begin_26 : decode cX4_begin 26 = .ok (.getfield 9, 3) := by decide +kernel
theorem dX4_begin_29 : decode cX4_begin 29 = .ok (.iconst 0, 1) := by decide +kernel
theorem dX4_begin_30 : decode cX4_begin 30 = .ok (.invokestatic 52, 3) := by decide +kernel
theorem dX4_begin_33 : decode cX4_begin 33 = .ok (.return_, 1) := by decide +kernel
theorem dX4_accepts_0 : decode cX4_accepts 0 = .ok (.iload_n 1, 1) := by decide +kernel
theorem dX4_accepts_1 : decode cX4_accepts 1 = .ok (.bipush 47, 2) := by decide +kernel
theorem dX4_accepts_3 : decode cX4_accepts 3 = .ok (.if_icmp .ne 8, 3) := by decide +kernel
theorem dX4_accepts_6 : decode cX4_accepts 6 = .ok (.aload_n 0, 1) := by decide +kernel
theorem dX4_accepts_7 : decode cX4_accepts 7 = .ok (.invokevirtual 58, 3) := by decide +kernel
theorem dX4_accepts_10 : decode cX4_accepts 10 = .ok (.ireturn, 1) := by decide +kernel
theorem dX4_accepts_11 : decode cX4_accepts 11 = .ok (.iload_n 1, 1) := by decide +kernel
theorem dX4_accepts_12 : decode cX4_accepts 12 = .ok (.bipush 48, 2) := by decide +kernel
theorem dX4_accepts_14 : decode cX4_accepts 14 = .ok (.if_icmp .lt 18, 3) := by decide +kernel
theorem dX4_accepts_17 : decode cX4_accepts 17 = .ok (.iload_n 1, 1) := by decide +kernel
theorem dX4_accepts_18 : decode cX4_accepts 18 = .ok (.bipush 57, 2) := by decide +kernel
theorem dX4_accepts_20 : decode cX4_accepts 20 = .ok (.if_icmp .gt 12, 3) := by decide +kernel
theorem dX4_accepts_23 : decode cX4_accepts 23 = .ok (.aload_n 0, 1) := by decide +kernel
theorem dX4_accepts_24 : decode cX4_accepts 24 = .ok (.iload_n 1, 1) := by decide +kernel
theorem dX4_accepts_25 : decode cX4_accepts 25 = .ok (.bipush 48, 2) := by decide +kernel
theorem dX4_accepts_27 : decode cX4_accepts 27 = .ok (.isub, 1) := by decide +kernel
theorem dX4_accepts_28 : decode cX4_accepts 28 = .ok (.invokevirtual 62, 3) := by decide +kernel
theorem dX4_accepts_31 : decode cX4_accepts 31 = .ok (.ireturn, 1) := by decide +kernel
theorem dX4_accepts_32 : decode cX4_accepts 32 = .ok (.iload_n 1, 1) := by decide +kernel
theorem dX4_accepts_33 : decode cX4_accepts 33 = .ok (.bipush 97, 2) := by decide +kernel
theorem dX4_accepts_35 : decode cX4_accepts 35 = .ok (.if_icmp .lt 24, 3) := by decide +kernel
theorem dX4_accepts_38 : decode cX4_accepts 38 = .ok (.iload_n 1, 1) := by decide +kernel
theorem dX4_accepts_39 : decode cX4_accepts 39 = .ok (.bipush 106, 2) := by decide +kernel
theorem dX4_accepts_41 : decode cX4_accepts 41 = .ok (.if_icmp .gt 18, 3) := by decide +kernel
theorem dX4_accepts_44 : decode cX4_accepts 44 = .ok (.aload_n 0, 1) := by decide +kernel
theorem dX4_accepts_45 : decode cX4_accepts 45 = .ok (.iload_n 1, 1) := by decide +kernel
theorem dX4_accepts_46 : decode cX4_accepts 46 = .ok (.bipush 97, 2) := by decide +kernel
theorem dX4_accepts_48 : decode cX4_accepts 48 = .ok (.isub, 1) := by decide +kernel
theorem dX4_accepts_49 : decode cX4_accepts 49 = .ok (.invokevirtual 66, 3) := by decide +kernel
theorem dX4_accepts_52 : decode cX4_accepts 52 = .ok (.ifCond .eq 7, 3) := by decide +kernel
theorem dX4_accepts_55 : decode cX4_accepts 55 = .ok (.iconst 1, 1) := by decide +kernel
theorem dX4_accepts_56 : decode cX4_accepts 56 = .ok (.goto 4, 3) := by decide +kernel
theorem dX4_accepts_59 : decode cX4_accepts 59 = .ok (.iconst 0, 1) := by decide +kernel
theorem dX4_accepts_60 : decode cX4_accepts 60 = .ok (.ireturn, 1) := by decide +kernel
theorem dX4_acceptsRowEnd_0 : decode cX4_acceptsRowEnd 0 = .ok (.aload_n 0, 1) := by decide +kernel
theorem dX4_acceptsRowEnd_1 : decode cX4_acceptsRowEnd 1 = .ok (.getfield 41, 3) := by decide +kernel
theorem dX4_acceptsRowEnd_4 : decode cX4_acceptsRowEnd 4 = .ok (.ifCond .gt 16, 3) := by decide +kernel
theorem dX4_acceptsRowEnd_7 : decode cX4_acceptsRowEnd 7 = .ok (.aload_n 0, 1) := by decide +kernel
theorem dX4_acceptsRowEnd_8 : decode cX4_acceptsRowEnd 8 = .ok (.getfield 46, 3) := by decide +kernel
theorem dX4_acceptsRowEnd_11 : decode cX4_acceptsRowEnd 11 = .ok (.iconst 1, 1) := by decide +kernel
theorem dX4_acceptsRowEnd_12 : decode cX4_acceptsRowEnd 12 = .ok (.iadd, 1) := by decide +kernel
theorem dX4_acceptsRowEnd_13 : decode cX4_acceptsRowEnd 13 = .ok (.aload_n 0, 1) := by decide +kernel
theorem dX4_acceptsRowEnd_14 : decode cX4_acceptsRowEnd 14 = .ok (.getfield 45, 3) := by decide +kernel
theorem dX4_acceptsRowEnd_17 : decode cX4_acceptsRowEnd 17 = .ok (.if_icmp .lt 5, 3) := by decide +kernel
theorem dX4_acceptsRowEnd_20 : decode cX4_acceptsRowEnd 20 = .ok (.iconst 0, 1) := by decide +kernel
theorem dX4_acceptsRowEnd_21 : decode cX4_acceptsRowEnd 21 = .ok (.ireturn, 1) := by decide +kernel
theorem dX4_acceptsRowEnd_22 : decode cX4_acceptsRowEnd 22 = .ok (.aload_n 0, 1) := by decide +kernel
theorem dX4_acceptsRowEnd_23 : decode cX4_acceptsRowEnd 23 = .ok (.dup, 1) := by decide +kernel
theorem dX4_acceptsRowEnd_24 : decode cX4_acceptsRowEnd 24 = .ok (.getfield 46, 3) := by decide +kernel
theorem dX4_acceptsRowEnd_27 : decode cX4_acceptsRowEnd 27 = .ok (.iconst 1, 1) := by decide +kernel
theorem dX4_acceptsRowEnd_28 : decode cX4_acceptsRowEnd 28 = .ok (.iadd, 1) := by decide +kernel
theorem dX4_acceptsRowEnd_29 : decode cX4_acceptsRowEnd 29 = .ok (.putfield 46, 3) := by decide +kernel
theorem dX4_acceptsRowEnd_32 : decode cX4_acceptsRowEnd 32 = .ok (.aload_n 0, 1) := by decide +kernel
theorem dX4_acceptsRowEnd_33 : decode cX4_acceptsRowEnd 33 = .ok (.iconst 0, 1) := by decide +kernel
theorem dX4_acceptsRowEnd_34 : decode cX4_acceptsRowEnd 34 = .ok (.putfield 49, 3) := by decide +kernel
theorem dX4_acceptsRowEnd_37 : decode cX4_acceptsRowEnd 37 = .ok (.iconst 1, 1) := by decide +kernel
theorem dX4_acceptsRowEnd_38 : decode cX4_acceptsRowEnd 38 = .ok (.ireturn, 1) := by decide +kernel
theorem dX4_acceptsDigit_0 : decode cX4_acceptsDigit 0 = .ok (.bipush 10, 2) := by decide +kernel
theorem dX4_acceptsDigit_2 : decode cX4_acceptsDigit 2 = .ok (.aload_n 0, 1) := by decide +kernel
theorem dX4_acceptsDigit_3 : decode cX4_acceptsDigit 3 = .ok (.getfield 41, 3) := by decide +kernel
theorem dX4_acceptsDigit_6 : decode cX4_acceptsDigit 6 = .ok (.imul, 1) := by decide +kernel
theorem dX4_acceptsDigit_7 : decode cX4_acceptsDigit 7 = .ok (.iload_n 1, 1) := by decide +kernel
theorem dX4_acceptsDigit_8 : decode cX4_acceptsDigit 8 = .ok (.iadd, 1) := by decide +kernel
theorem dX4_acceptsDigit_9 : decode cX4_acceptsDigit 9 = .ok (.istore_n 2, 1) := by decide +kernel
theorem dX4_acceptsDigit_10 : decode cX4_acceptsDigit 10 = .ok (.iload_n 2, 1) := by decide +kernel
theorem dX4_acceptsDigit_11 : decode cX4_acceptsDigit 11 = .ok (.iconst 1, 1) := by decide +kernel
theorem dX4_acceptsDigit_12 : decode cX4_acceptsDigit 12 = .ok (.aload_n 0, 1) := by decide +kernel
theorem dX4_acceptsDigit_13 : decode cX4_acceptsDigit 13 = .ok (.getfield 44, 3) := by decide +kernel
theorem dX4_acceptsDigit_16 : decode cX4_acceptsDigit 16 = .ok (.aload_n 0, 1) := by decide +kernel
theorem dX4_acceptsDigit_17 : decode cX4_acceptsDigit 17 = .ok (.getfield 49, 3) := by decide +kernel
theorem dX4_acceptsDigit_20 : decode cX4_acceptsDigit 20 = .ok (.isub, 1) := by decide +kernel
theorem dX4_acceptsDigit_21 : decode cX4_acceptsDigit 21 = .ok (.invokestatic 69, 3) := by decide +kernel
theorem dX4_acceptsDigit_24 : decode cX4_acceptsDigit 24 = .ok (.ifCond .ne 5, 3) := by decide +kernel
theorem dX4_acceptsDigit_27 : decode cX4_acceptsDigit 27 = .ok (.iconst 0, 1) := by decide +kernel
theorem dX4_acceptsDigit_28 : decode cX4_acceptsDigit 28 = .ok (.ireturn, 1) := by decide +kernel
theorem dX4_acceptsDigit_29 : decode cX4_acceptsDigit 29 = .ok (.aload_n 0, 1) := by decide +kernel
theorem dX4_acceptsDigit_30 : decode cX4_acceptsDigit 30 = .ok (.iload_n 2, 1) := by decide +kernel
theorem dX4_acceptsDigit_31 : decode cX4_acceptsDigit 31 = .ok (.putfield 41, 3) := by decide +kernel
theorem dX4_acceptsDigit_34 : decode cX4_acceptsDigit 34 = .ok (.iconst 1, 1) := by decide +kernel
theorem dX4_acceptsDigit_35 : decode cX4_acceptsDigit 35 = .ok (.ireturn, 1) := by decide +kernel
theorem dX4_acceptsRun_0 : decode cX4_acceptsRun 0 = .ok (.aload_n 0, 1) := by decide +kernel
theorem dX4_acceptsRun_1 : decode cX4_acceptsRun 1 = .ok (.getfield 41, 3) := by decide +kernel
theorem dX4_acceptsRun_4 : decode cX4_acceptsRun 4 = .ok (.iconst 1, 1) := by decide +kernel
theorem dX4_acceptsRun_5 : decode cX4_acceptsRun 5 = .ok (.invokestatic 73, 3) := by decide +kernel
theorem dX4_acceptsRun_8 : decode cX4_acceptsRun 8 = .ok (.istore_n 2, 1) := by decide +kernel
theorem dX4_acceptsRun_9 : decode cX4_acceptsRun 9 = .ok (.iload_n 2, 1) := by decide +kernel
theorem dX4_acceptsRun_10 : decode cX4_acceptsRun 10 = .ok (.aload_n 0, 1) := by decide +kernel
theorem dX4_acceptsRun_11 : decode cX4_acceptsRun 11 = .ok (.getfield 44, 3) := by decide +kernel
theorem dX4_acceptsRun_14 : decode cX4_acceptsRun 14 = .ok (.aload_n 0, 1) := by decide +kernel
theorem dX4_acceptsRun_15 : decode cX4_acceptsRun 15 = .ok (.getfield 49, 3) := by decide +kernel
theorem dX4_acceptsRun_18 : decode cX4_acceptsRun 18 = .ok (.isub, 1) := by decide +kernel
theorem dX4_acceptsRun_19 : decode cX4_acceptsRun 19 = .ok (.if_icmp .le 5, 3) := by decide +kernel
theorem dX4_acceptsRun_22 : decode cX4_acceptsRun 22 = .ok (.iconst 0, 1) := by decide +kernel
theorem dX4_acceptsRun_23 : decode cX4_acceptsRun 23 = .ok (.ireturn, 1) := by decide +kernel
theorem dX4_acceptsRun_24 : decode cX4_acceptsRun 24 = .ok (.aload_n 0, 1) := by decide +kernel
theorem dX4_acceptsRun_25 : decode cX4_acceptsRun 25 = .ok (.getfield 46, 3) := by decide +kernel
theorem dX4_acceptsRun_28 : decode cX4_acceptsRun 28 = .ok (.bipush 16, 2) := by decide +kernel
theorem dX4_acceptsRun_30 : decode cX4_acceptsRun 30 = .ok (.imul, 1) := by decide +kernel
theorem dX4_acceptsRun_31 : decode cX4_acceptsRun 31 = .ok (.aload_n 0, 1) := by decide +kernel
theorem dX4_acceptsRun_32 : decode cX4_acceptsRun 32 = .ok (.getfield 49, 3) := by decide +kernel
theorem dX4_acceptsRun_35 : decode cX4_acceptsRun 35 = .ok (.iadd, 1) := by decide +kernel
theorem dX4_acceptsRun_36 : decode cX4_acceptsRun 36 = .ok (.istore_n 3, 1) := by decide +kernel
theorem dX4_acceptsRun_37 : decode cX4_acceptsRun 37 = .ok (.iload_n 3, 1) := by decide +kernel
theorem dX4_acceptsRun_38 : decode cX4_acceptsRun 38 = .ok (.istore 4, 2) := by decide +kernel
theorem dX4_acceptsRun_40 : decode cX4_acceptsRun 40 = .ok (.iload 4, 2) := by decide +kernel
theorem dX4_acceptsRun_42 : decode cX4_acceptsRun 42 = .ok (.iload_n 3, 1) := by decide +kernel
theorem dX4_acceptsRun_43 : decode cX4_acceptsRun 43 = .ok (.iload_n 2, 1) := by decide +kernel
theorem dX4_acceptsRun_44 : decode cX4_acceptsRun 44 = .ok (.iadd, 1) := by decide +kernel
theorem dX4_acceptsRun_45 : decode cX4_acceptsRun 45 = .ok (.if_icmp .ge 25, 3) := by decide +kernel
theorem dX4_acceptsRun_48 : decode cX4_acceptsRun 48 = .ok (.iload 4, 2) := by decide +kernel
theorem dX4_acceptsRun_50 : decode cX4_acceptsRun 50 = .ok (.sipush 192, 3) := by decide +kernel
theorem dX4_acceptsRun_53 : decode cX4_acceptsRun 53 = .ok (.if_icmp .ge 17, 3) := by decide +kernel
theorem dX4_acceptsRun_56 : decode cX4_acceptsRun 56 = .ok (.aload_n 0, 1) := by decide +kernel
theorem dX4_acceptsRun_57 : decode cX4_acceptsRun 57 = .ok (.getfield 9, 3) := by decide +kernel
theorem dX4_acceptsRun_60 : decode cX4_acceptsRun 60 = .ok (.iload 4, 2) := by decide +kernel
theorem dX4_acceptsRun_62 : decode cX4_acceptsRun 62 = .ok (.iload_n 1, 1) := by decide +kernel
theorem dX4_acceptsRun_63 : decode cX4_acceptsRun 63 = .ok (.iastore, 1) := by decide +kernel
theorem dX4_acceptsRun_64 : decode cX4_acceptsRun 64 = .ok (.iinc 4 1, 3) := by decide +kernel
theorem dX4_acceptsRun_67 : decode cX4_acceptsRun 67 = .ok (.goto (-27), 3) := by decide +kernel
theorem dX4_acceptsRun_70 : decode cX4_acceptsRun 70 = .ok (.aload_n 0, 1) := by decide +kernel
theorem dX4_acceptsRun_71 : decode cX4_acceptsRun 71 = .ok (.dup, 1) := by decide +kernel
theorem dX4_acceptsRun_72 : decode cX4_acceptsRun 72 = .ok (.getfield 49, 3) := by decide +kernel
theorem dX4_acceptsRun_75 : decode cX4_acceptsRun 75 = .ok (.iload_n 2, 1) := by decide +kernel
theorem dX4_acceptsRun_76 : decode cX4_acceptsRun 76 = .ok (.iadd, 1) := by decide +kernel
theorem dX4_acceptsRun_77 : decode cX4_acceptsRun 77 = .ok (.putfield 49, 3) := by decide +kernel
theorem dX4_acceptsRun_80 : decode cX4_acceptsRun 80 = .ok (.aload_n 0, 1) := by decide +kernel
theorem dX4_acceptsRun_81 : decode cX4_acceptsRun 81 = .ok (.iconst 0, 1) := by decide +kernel
theorem dX4_acceptsRun_82 : decode cX4_acceptsRun 82 = .ok (.putfield 41, 3) := by decide +kernel
theorem dX4_acceptsRun_85 : decode cX4_acceptsRun 85 = .ok (.iconst 1, 1) := by decide +kernel
theorem dX4_acceptsRun_86 : decode cX4_acceptsRun 86 = .ok (.ireturn, 1) := by decide +kernel
theorem dX5_init_0 : decode cX5_init 0 = .ok (.aload_n 0, 1) := by decide +kernel
theorem dX5_init_1 : decode cX5_init 1 = .ok (.invokespecial 3, 3) := by decide +kernel
theorem dX5_init_4 : decode cX5_init 4 = .ok (.aload_n 0, 1) := by decide +kernel
theorem dX5_init_5 : decode cX5_init 5 = .ok (.new 9, 3) := by decide +kernel
theorem dX5_init_8 : decode cX5_init 8 = .ok (.dup, 1) := by decide +kernel
theorem dX5_init_9 : decode cX5_init 9 = .ok (.invokespecial 11, 3) := by decide +kernel
theorem dX5_init_12 : decode cX5_init 12 = .ok (.putfield 12, 3) := by decide +kernel
theorem dX5_init_15 : decode cX5_init 15 = .ok (.aload_n 0, 1) := by decide +kernel
theorem dX5_init_16 : decode cX5_init 16 = .ok (.sipush 442, 3) := by decide +kernel
theorem dX5_init_19 : decode cX5_init 19 = .ok (.newarray .int, 2) := by decide +kernel
theorem dX5_init_21 : decode cX5_init 21 = .ok (.putfield 18, 3) := by decide +kernel
theorem dX5_init_24 : decode cX5_init 24 = .ok (.aload_n 0, 1) := by decide +kernel
theorem dX5_init_25 : decode cX5_init 25 = .ok (.aload_n 1, 1) := by decide +kernel
theorem dX5_init_26 : decode cX5_init 26 = .ok (.putfield 22, 3) := by decide +kernel
theorem dX5_init_29 : decode cX5_init 29 = .ok (.aload_n 0, 1) := by decide +kernel
theorem dX5_init_30 : decode cX5_init 30 = .ok (.new 26, 3) := by decide +kernel
theorem dX5_init_33 : decode cX5_init 33 = .ok (.dup, 1) := by decide +kernel
theorem dX5_init_34 : decode cX5_init 34 = .ok (.aload_n 1, 1) := by decide +kernel
theorem dX5_init_35 : decode cX5_init 35 = .ok (.invokespecial 28, 3) := by decide +kernel
theorem dX5_init_38 : decode cX5_init 38 = .ok (.putfield 31, 3) := by decide +kernel
theorem dX5_init_41 : decode cX5_init 41 = .ok (.return_, 1) := by decide +kernel
theorem dX5_triangleSize_0 : decode cX5_triangleSize 0 = .ok (.aload_n 0, 1) := by decide +kernel
theorem dX5_triangleSize_1 : decode cX5_triangleSize 1 = .ok (.getfield 31, 3) := by decide +kernel
theorem dX5_triangleSize_4 : decode cX5_triangleSize 4 = .ok (.aload_n 0, 1) := by decide +kernel
theorem dX5_triangleSize_5 : decode cX5_triangleSize 5 = .ok (.getfield 22, 3) := by decide +kernel
theorem dX5_triangleSize_8 : decode cX5_triangleSize 8 = .ok (.iload_n 1, 1) := by decide +kernel
theorem dX5_triangleSize_9 : decode cX5_triangleSize 9 = .ok (.invokevirtual 35, 3) := by decide +kernel
theorem dX5_triangleSize_12 : decode cX5_triangleSize 12 = .ok (.iload_n 1, 1) := by decide +kernel
theorem dX5_triangleSize_13 : decode cX5_triangleSize 13 = .ok (.aload_n 0, 1) := by decide +kernel
theorem dX5_triangleSize_14 : decode cX5_triangleSize 14 = .ok (.getfield 22, 3) := by decide +kernel
theorem dX5_triangleSize_17 : decode cX5_triangleSize 17 = .ok (.iload_n 1, 1) := by decide +kernel
theorem dX5_triangleSize_18 : decode cX5_triangleSize 18 = .ok (.invokevirtual 41, 3) := by decide +kernel
theorem dX5_triangleSize_21 : decode cX5_triangleSize 21 = .ok (.invokevirtual 44, 3) := by decide +kernel
theorem dX5_triangleSize_24 : decode cX5_triangleSize 24 = .ok (.ireturn, 1) := by decide +kernel
theorem dX5_takeStep_0 : decode cX5_takeStep 0 = .ok (.aload_n 0, 1) := by decide +kernel
theorem dX5_takeStep_1 : decode cX5_takeStep 1 = .ok (.iload_n 1, 1) := by decide +kernel
theorem dX5_takeStep_2 : decode cX5_takeStep 2 = .ok (.invokevirtual 48, 3) := by decide +kernel
theorem dX5_takeStep_5 : decode cX5_takeStep 5 = .ok (.istore_n 2, 1) := by decide +kernel
theorem dX5_takeStep_6 : decode cX5_takeStep 6 = .ok (.aload_n 0, 1) := by decide +kernel
theorem dX5_takeStep_7 : decode cX5_takeStep 7 = .ok (.getfield 22, 3) := by decide +kernel
theorem dX5_takeStep_10 : decode cX5_takeStep 10 = .ok (.iload_n 1, 1) := by decide +kernel
theorem dX5_takeStep_11 : decode cX5_takeStep 11 = .ok (.invokevirtual 50, 3) := by decide +kernel
theorem dX5_takeStep_14 : decode cX5_takeStep 14 = .ok (.aload_n 0, 1) := by decide +kernel
theorem dX5_takeStep_15 : decode cX5_takeStep 15 = .ok (.getfield 12, 3) := by decide +kernel
theorem dX5_takeStep_18 : decode cX5_takeStep 18 = .ok (.iload_n 1, 1) := by decide +kernel
theorem dX5_takeStep_19 : decode cX5_takeStep 19 = .ok (.invokevirtual 54, 3) := by decide +kernel
theorem dX5_takeStep_22 : decode cX5_takeStep 22 = .ok (.iload_n 2, 1) := by decide +kernel
theorem dX5_takeStep_23 : decode cX5_takeStep 23 = .ok (.ireturn, 1) := by decide +kernel
theorem dX5_takeBack_0 : decode cX5_takeBack 0 = .ok (.aload_n 0, 1) := by decide +kernel
theorem dX5_takeBack_1 : decode cX5_takeBack 1 = .ok (.getfield 12, 3) := by decide +kernel
theorem dX5_takeBack_4 : decode cX5_takeBack 4 = .ok (.invokevirtual 57, 3) := by decide +kernel
theorem dX5_takeBack_7 : decode cX5_takeBack 7 = .ok (.istore_n 1, 1) := by decide +kernel
theorem dX5_takeBack_8 : decode cX5_takeBack 8 = .ok (.iload_n 1, 1) := by decide +kernel
theorem dX5_takeBack_9 : decode cX5_takeBack 9 = .ok (.iconst (-1), 1) := by decide +kernel
theorem dX5_takeBack_10 : decode cX5_takeBack 10 = .ok (.if_icmp .ne 5, 3) := by decide +kernel
theorem dX5_takeBack_13 : decode cX5_takeBack 13 = .ok (.iconst 0, 1) := by decide +kernel
theorem dX5_takeBack_14 : decode cX5_takeBack 14 = .ok (.ireturn, 1) := by decide +kernel
theorem dX5_takeBack_15 : decode cX5_takeBack 15 = .ok (.aload_n 0, 1) := by decide +kernel
theorem dX5_takeBack_16 : decode cX5_takeBack 16 = .ok (.getfield 22, 3) := by decide +kernel
theorem dX5_takeBack_19 : decode cX5_takeBack 19 = .ok (.iload_n 1, 1) := by decide +kernel
theorem dX5_takeBack_20 : decode cX5_takeBack 20 = .ok (.invokevirtual 50, 3) := by decide +kernel
theorem dX5_takeBack_23 : decode cX5_takeBack 23 = .ok (.iconst 1, 1) := by decide +kernel
theorem dX5_takeBack_24 : decode cX5_takeBack 24 = .ok (.ireturn, 1) := by decide +kernel
theorem dX5_canChange_0 : decode cX5_canChange 0 = .ok (.aload_n 0, 1) := by decide +kernel
theorem dX5_canChange_1 : decode cX5_canChange 1 = .ok (.getfield 22, 3) := by decide +kernel
theorem dX5_canChange_4 : decode cX5_canChange 4 = .ok (.getfield 61, 3) := by decide +kernel
theorem dX5_canChange_7 : decode cX5_canChange 7 = .ok (.iload_n 1, 1) := by decide +kernel
theorem dX5_canChange_8 : decode cX5_canChange 8 = .ok (.baload, 1) := by decide +kernel
theorem dX5_canChange_9 : decode cX5_canChange 9 = .ok (.ifCond .eq 11, 3) := by decide +kernel
theorem dX5_canChange_12 : decode cX5_canChange 12 = .ok (.aload_n 0, 1) := by decide +kernel
theorem dX5_canChange_13 : decode cX5_canChange 13 = .ok (.iload_n 1, 1) := by decide +kernel
theorem dX5_canChange_14 : decode cX5_canChange 14 = .ok (.invokevirtual 65, 3) := by decide +kernel
theorem dX5_canChange_17 : decode cX5_canChange 17 = .ok (.goto 8, 3) := by decide +kernel
theorem dX5_canChange_20 : decode cX5_canChange 20 = .ok (.aload_n 0, 1) := by decide +kernel
theorem dX5_canChange_21 : decode cX5_canChange 21 = .ok (.iload_n 1, 1) := by decide +kernel
theorem dX5_canChange_22 : decode cX5_canChange 22 = .ok (.invokevirtual 69, 3) := by decide +kernel
theorem dX5_canChange_25 : decode cX5_canChange 25 = .ok (.ireturn, 1) := by decide +kernel
theorem dX5_canBeRemoved_0 : decode cX5_canBeRemoved 0 = .ok (.aload_n 0, 1) := by decide +kernel
theorem dX5_canBeRemoved_1 : decode cX5_canBeRemoved 1 = .ok (.getfield 22, 3) := by decide +kernel
theorem dX5_canBeRemoved_4 : decode cX5_canBeRemoved 4 = .ok (.getfield 72, 3) := by decide +kernel
theorem dX5_canBeRemoved_7 : decode cX5_canBeRemoved 7 = .ok (.aload_n 0, 1) := by decide +kernel
theorem dX5_canBeRemoved_8 : decode cX5_canBeRemoved 8 = .ok (.getfield 22, 3) := by decide +kernel
theorem dX5_canBeRemoved_11 : decode cX5_canBeRemoved 11 = .ok (.getfield 75, 3) := by decide +kernel
theorem dX5_canBeRemoved_14 : decode cX5_canBeRemoved 14 = .ok (.iload_n 1, 1) := by decide +kernel
theorem dX5_canBeRemoved_15 : decode cX5_canBeRemoved 15 = .ok (.iaload, 1) := by decide +kernel
theorem dX5_canBeRemoved_16 : decode cX5_canBeRemoved 16 = .ok (.iaload, 1) := by decide +kernel
theorem dX5_canBeRemoved_17 : decode cX5_canBeRemoved 17 = .ok (.iconst 4, 1) := by decide +kernel
theorem dX5_canBeRemoved_18 : decode cX5_canBeRemoved 18 = .ok (.if_icmp .ge 5, 3) := by decide +kernel
theorem dX5_canBeRemoved_21 : decode cX5_canBeRemoved 21 = .ok (.iconst 0, 1) := by decide +kernel
theorem dX5_canBeRemoved_22 : decode cX5_canBeRemoved 22 = .ok (.ireturn, 1) := by decide +kernel
theorem dX5_canBeRemoved_23 : decode cX5_canBeRemoved 23 = .ok (.aload_n 0, 1) := by decide +kernel
theorem dX5_canBeRemoved_24 : decode cX5_canBeRemoved 24 = .ok (.getfield 22, 3) := by decide +kernel
theorem dX5_canBeRemoved_27 : decode cX5_canBeRemoved 27 = .ok (.iload_n 1, 1) := by decide +kernel
theorem dX5_canBeRemoved_28 : decode cX5_canBeRemoved 28 = .ok (.invokevirtual 35, 3) := by decide +kernel
theorem dX5_canBeRemoved_31 : decode cX5_canBeRemoved 31 = .ok (.istore_n 2, 1) := by decide +kernel
theorem dX5_canBeRemoved_32 : decode cX5_canBeRemoved 32 = .ok (.aload_n 0, 1) := by decide +kernel
theorem dX5_canBeRemoved_33 : decode cX5_canBeRemoved 33 = .ok (.getfield 22, 3) := by decide +kernel
theorem dX5_canBeRemoved_36 : decode cX5_canBeRemoved 36 = .ok (.iload_n 1, 1) := by decide +kernel
theorem dX5_canBeRemoved_37 : decode cX5_canBeRemoved 37 = .ok (.invokevirtual 41, 3) := by decide +kernel
theorem dX5_canBeRemoved_40 : decode cX5_canBeRemoved 40 = .ok (.istore_n 3, 1) := by decide +kernel
theorem dX5_canBeRemoved_41 : decode cX5_canBeRemoved 41 = .ok (.aload_n 0, 1) := by decide +kernel
theorem dX5_canBeRemoved_42 : decode cX5_canBeRemoved 42 = .ok (.getfield 31, 3) := by decide +kernel
theorem dX5_canBeRemoved_45 : decode cX5_canBeRemoved 45 = .ok (.iload_n 2, 1) := by decide +kernel
theorem dX5_canBeRemoved_46 : decode cX5_canBeRemoved 46 = .ok (.iload_n 1, 1) := by decide +kernel
theorem dX5_canBeRemoved_47 : decode cX5_canBeRemoved 47 = .ok (.iload_n 3, 1) := by decide +kernel
theorem dX5_canBeRemoved_48 : decode cX5_canBeRemoved 48 = .ok (.invokevirtual 78, 3) := by decide +kernel
theorem dX5_canBeRemoved_51 : decode cX5_canBeRemoved 51 = .ok (.ifCond .eq 16, 3) := by decide +kernel
theorem dX5_canBeRemoved_54 : decode cX5_canBeRemoved 54 = .ok (.aload_n 0, 1) := by decide +kernel
theorem dX5_canBeRemoved_55 : decode cX5_canBeRemoved 55 = .ok (.iload_n 2, 1) := by decide +kernel
theorem dX5_canBeRemoved_56 : decode cX5_canBeRemoved 56 = .ok (.iload_n 3, 1) := by decide +kernel
theorem dX5_canBeRemoved_57 : decode cX5_canBeRemoved 57 = .ok (.invokevirtual 82, 3) := by decide +kernel
theorem dX5_canBeRemoved_60 : decode cX5_canBeRemoved 60 = .ok (.ifCond .ne 7, 3) := by decide +kernel
theorem dX5_canBeRemoved_63 : decode cX5_canBeRemoved 63 = .ok (.iconst 1, 1) := by decide +kernel
theorem dX5_canBeRemoved_64 : decode cX5_canBeRemoved 64 = .ok (.goto 4, 3) := by decide +kernel
theorem dX5_canBeRemoved_67 : decode cX5_canBeRemoved 67 = .ok (.iconst 0, 1) := by decide +kernel
theorem dX5_canBeRemoved_68 : decode cX5_canBeRemoved 68 = .ok (.ireturn, 1) := by decide +kernel
theorem dX5_hasSideBetween_0 : decode cX5_hasSideBetween 0 = .ok (.iconst 0, 1) := by decide +kernel
theorem dX5_hasSideBetween_1 : decode cX5_hasSideBetween 1 = .ok (.istore_n 3, 1) := by decide +kernel
theorem dX5_hasSideBetween_2 : decode cX5_hasSideBetween 2 = .ok (.iload_n 3, 1) := by decide +kernel
theorem dX5_hasSideBetween_3 : decode cX5_hasSideBetween 3 = .ok (.aload_n 0, 1) := by decide +kernel
theorem dX5_hasSideBetween_4 : decode cX5_hasSideBetween 4 = .ok (.getfield 22, 3) := by decide +kernel
theorem dX5_hasSideBetween_7 : decode cX5_hasSideBetween 7 = .ok (.getfield 86, 3) := by decide +kernel
theorem dX5_hasSideBetween_10 : decode cX5_hasSideBetween 10 = .ok (.if_icmp .ge 93, 3) := by decide +kernel
theorem dX5_hasSideBetween_13 : decode cX5_hasSideBetween 13 = .ok (.aload_n 0, 1) := by decide +kernel
theorem dX5_hasSideBetween_14 : decode cX5_hasSideBetween 14 = .ok (.getfield 22, 3) := by decide +kernel
theorem dX5_hasSideBetween_17 : decode cX5_hasSideBetween 17 = .ok (.getfield 61, 3) := by decide +kernel
theorem dX5_hasSideBetween_20 : decode cX5_hasSideBetween 20 = .ok (.iload_n 3, 1) := by decide +kernel
theorem dX5_hasSideBetween_21 : decode cX5_hasSideBetween 21 = .ok (.baload, 1) := by decide +kernel
theorem dX5_hasSideBetween_22 : decode cX5_hasSideBetween 22 = .ok (.ifCond .eq 75, 3) := by decide +kernel
theorem dX5_hasSideBetween_25 : decode cX5_hasSideBetween 25 = .ok (.aload_n 0, 1) := by decide +kernel
theorem dX5_hasSideBetween_26 : decode cX5_hasSideBetween 26 = .ok (.getfield 31, 3) := by decide +kernel
theorem dX5_hasSideBetween_29 : decode cX5_hasSideBetween 29 = .ok (.iload_n 3, 1) := by decide +kernel
theorem dX5_hasSideBetween_30 : decode cX5_hasSideBetween 30 = .ok (.iload_n 1, 1) := by decide +kernel
theorem dX5_hasSideBetween_31 : decode cX5_hasSideBetween 31 = .ok (.invokevirtual 90, 3) := by decide +kernel
theorem dX5_hasSideBetween_34 : decode cX5_hasSideBetween 34 = .ok (.istore 4, 2) := by decide +kernel
theorem dX5_hasSideBetween_36 : decode cX5_hasSideBetween 36 = .ok (.aload_n 0, 1) := by decide +kernel
theorem dX5_hasSideBetween_37 : decode cX5_hasSideBetween 37 = .ok (.getfield 31, 3) := by decide +kernel
theorem dX5_hasSideBetween_40 : decode cX5_hasSideBetween 40 = .ok (.iload_n 3, 1) := by decide +kernel
theorem dX5_hasSideBetween_41 : decode cX5_hasSideBetween 41 = .ok (.iload_n 2, 1) := by decide +kernel
theorem dX5_hasSideBetween_42 : decode cX5_hasSideBetween 42 = .ok (.invokevirtual 90, 3) := by decide +kernel
theorem dX5_hasSideBetween_45 : decode cX5_hasSideBetween 45 = .ok (.istore 5, 2) := by decide +kernel
theorem dX5_hasSideBetween_47 : decode cX5_hasSideBetween 47 = .ok (.iload 4, 2) := by decide +kernel
theorem dX5_hasSideBetween_49 : decode cX5_hasSideBetween 49 = .ok (.ifCond .eq 22, 3) := by decide +kernel
theorem dX5_hasSideBetween_52 : decode cX5_hasSideBetween 52 = .ok (.aload_n 0, 1) := by decide +kernel
theorem dX5_hasSideBetween_53 : decode cX5_hasSideBetween 53 = .ok (.getfield 31, 3) := by decide +kernel
theorem dX5_hasSideBetween_56 : decode cX5_hasSideBetween 56 = .ok (.aload_n 0, 1) := by decide +kernel
theorem dX5_hasSideBetween_57 : decode cX5_hasSideBetween 57 = .ok (.getfield 22, 3) := by decide +kernel
theorem dX5_hasSideBetween_60 : decode cX5_hasSideBetween 60 = .ok (.iload_n 3, 1) := by decide +kernel
theorem dX5_hasSideBetween_61 : decode cX5_hasSideBetween 61 = .ok (.invokevirtual 41, 3) := by decide +kernel
theorem dX5_hasSideBetween_64 : decode cX5_hasSideBetween 64 = .ok (.iload_n 2, 1) := by decide +kernel
theorem dX5_hasSideBetween_65 : decode cX5_hasSideBetween 65 = .ok (.invokevirtual 90, 3) := by decide +kernel
theorem dX5_hasSideBetween_68 : decode cX5_hasSideBetween 68 = .ok (.ifCond .ne 27, 3) := by decide +kernel
theorem dX5_hasSideBetween_71 : decode cX5_hasSideBetween 71 = .ok (.iload 5, 2) := by decide +kernel
theorem dX5_hasSideBetween_73 : decode cX5_hasSideBetween 73 = .ok (.ifCond .eq 24, 3) := by decide +kernel
theorem dX5_hasSideBetween_76 : decode cX5_hasSideBetween 76 = .ok (.aload_n 0, 1) := by decide +kernel
theorem dX5_hasSideBetween_77 : decode cX5_hasSideBetween 77 = .ok (.getfield 31, 3) := by decide +kernel
theorem dX5_hasSideBetween_80 : decode cX5_hasSideBetween 80 = .ok (.aload_n 0, 1) := by decide +kernel
theorem dX5_hasSideBetween_81 : decode cX5_hasSideBetween 81 = .ok (.getfield 22, 3) := by decide +kernel
theorem dX5_hasSideBetween_84 : decode cX5_hasSideBetween 84 = .ok (.iload_n 3, 1) := by decide +kernel
theorem dX5_hasSideBetween_85 : decode cX5_hasSideBetween 85 = .ok (.invokevirtual 41, 3) := by decide +kernel
theorem dX5_hasSideBetween_88 : decode cX5_hasSideBetween 88 = .ok (.iload_n 1, 1) := by decide +kernel
theorem dX5_hasSideBetween_89 : decode cX5_hasSideBetween 89 = .ok (.invokevirtual 90, 3) := by decide +kernel
theorem dX5_hasSideBetween_92 : decode cX5_hasSideBetween 92 = .ok (.ifCond .eq 5, 3) := by decide +kernel
theorem dX5_hasSideBetween_95 : decode cX5_hasSideBetween 95 = .ok (.iconst 1, 1) := by decide +kernel
theorem dX5_hasSideBetween_96 : decode cX5_hasSideBetween 96 = .ok (.ireturn, 1) := by decide +kernel
theorem dX5_hasSideBetween_97 : decode cX5_hasSideBetween 97 = .ok (.iinc 3 1, 3) := by decide +kernel
theorem dX5_hasSideBetween_100 : decode cX5_hasSideBetween 100 = .ok (.goto (-98), 3) := by decide +kernel
theorem dX5_hasSideBetween_103 : decode cX5_hasSideBetween 103 = .ok (.iconst 0, 1) := by decide +kernel
theorem dX5_hasSideBetween_104 : decode cX5_hasSideBetween 104 = .ok (.ireturn, 1) := by decide +kernel
theorem dX5_canBeInserted_0 : decode cX5_canBeInserted 0 = .ok (.aload_n 0, 1) := by decide +kernel
theorem dX5_canBeInserted_1 : decode cX5_canBeInserted 1 = .ok (.getfield 22, 3) := by decide +kernel
theorem dX5_canBeInserted_4 : decode cX5_canBeInserted 4 = .ok (.iload_n 1, 1) := by decide +kernel
theorem dX5_canBeInserted_5 : decode cX5_canBeInserted 5 = .ok (.invokevirtual 35, 3) := by decide +kernel
theorem dX5_canBeInserted_8 : decode cX5_canBeInserted 8 = .ok (.istore_n 2, 1) := by decide +kernel
theorem dX5_canBeInserted_9 : decode cX5_canBeInserted 9 = .ok (.aload_n 0, 1) := by decide +kernel
theorem dX5_canBeInserted_10 : decode cX5_canBeInserted 10 = .ok (.getfield 22, 3) := by decide +kernel
theorem dX5_canBeInserted_13 : decode cX5_canBeInserted 13 = .ok (.iload_n 1, 1) := by decide +kernel
theorem dX5_canBeInserted_14 : decode cX5_canBeInserted 14 = .ok (.invokevirtual 41, 3) := by decide +kernel
theorem dX5_canBeInserted_17 : decode cX5_canBeInserted 17 = .ok (.istore_n 3, 1) := by decide +kernel
theorem dX5_canBeInserted_18 : decode cX5_canBeInserted 18 = .ok (.aload_n 0, 1) := by decide +kernel
theorem dX5_canBeInserted_19 : decode cX5_canBeInserted 19 = .ok (.getfield 31, 3) := by decide +kernel
theorem dX5_canBeInserted_22 : decode cX5_canBeInserted 22 = .ok (.iload_n 2, 1) := by decide +kernel
theorem dX5_canBeInserted_23 : decode cX5_canBeInserted 23 = .ok (.iload_n 1, 1) := by decide +kernel
theorem dX5_canBeInserted_24 : decode cX5_canBeInserted 24 = .ok (.iload_n 3, 1) := by decide +kernel
theorem dX5_canBeInserted_25 : decode cX5_canBeInserted 25 = .ok (.invokevirtual 44, 3) := by decide +kernel
theorem dX5_canBeInserted_28 : decode cX5_canBeInserted 28 = .ok (.ifCond .ne 18, 3) := by decide +kernel
theorem dX5_canBeInserted_31 : decode cX5_canBeInserted 31 = .ok (.aload_n 0, 1) := by decide +kernel
theorem dX5_canBeInserted_32 : decode cX5_canBeInserted 32 = .ok (.getfield 31, 3) := by decide +kernel
theorem dX5_canBeInserted_35 : decode cX5_canBeInserted 35 = .ok (.iload_n 1, 1) := by decide +kernel
theorem dX5_canBeInserted_36 : decode cX5_canBeInserted 36 = .ok (.iload_n 2, 1) := by decide +kernel
theorem dX5_canBeInserted_37 : decode cX5_canBeInserted 37 = .ok (.iload_n 3, 1) := by decide +kernel
theorem dX5_canBeInserted_38 : decode cX5_canBeInserted 38 = .ok (.invokevirtual 93, 3) := by decide +kernel
theorem dX5_canBeInserted_41 : decode cX5_canBeInserted 41 = .ok (.ifCond .ne 5, 3) := by decide +kernel
theorem dX5_canBeInserted_44 : decode cX5_canBeInserted 44 = .ok (.iconst 0, 1) := by decide +kernel
theorem dX5_canBeInserted_45 : decode cX5_canBeInserted 45 = .ok (.ireturn, 1) := by decide +kernel
theorem dX5_canBeInserted_46 : decode cX5_canBeInserted 46 = .ok (.aload_n 0, 1) := by decide +kernel
theorem dX5_canBeInserted_47 : decode cX5_canBeInserted 47 = .ok (.getfield 31, 3) := by decide +kernel
theorem dX5_canBeInserted_50 : decode cX5_canBeInserted 50 = .ok (.iload_n 2, 1) := by decide +kernel
theorem dX5_canBeInserted_51 : decode cX5_canBeInserted 51 = .ok (.iload_n 1, 1) := by decide +kernel
theorem dX5_canBeInserted_52 : decode cX5_canBeInserted 52 = .ok (.iload_n 3, 1) := by decide +kernel
theorem dX5_canBeInserted_53 : decode cX5_canBeInserted 53 = .ok (.invokevirtual 78, 3) := by decide +kernel
theorem dX5_canBeInserted_56 : decode cX5_canBeInserted 56 = .ok (.ifCond .eq 17, 3) := by decide +kernel
theorem dX5_canBeInserted_59 : decode cX5_canBeInserted 59 = .ok (.aload_n 0, 1) := by decide +kernel
theorem dX5_canBeInserted_60 : decode cX5_canBeInserted 60 = .ok (.iload_n 2, 1) := by decide +kernel
theorem dX5_canBeInserted_61 : decode cX5_canBeInserted 61 = .ok (.iload_n 1, 1) := by decide +kernel
theorem dX5_canBeInserted_62 : decode cX5_canBeInserted 62 = .ok (.iload_n 3, 1) := by decide +kernel
theorem dX5_canBeInserted_63 : decode cX5_canBeInserted 63 = .ok (.invokevirtual 96, 3) := by decide +kernel
theorem dX5_canBeInserted_66 : decode cX5_canBeInserted 66 = .ok (.ifCond .ne 7, 3) := by decide +kernel
theorem dX5_canBeInserted_69 : decode cX5_canBeInserted 69 = .ok (.iconst 1, 1) := by decide +kernel
theorem dX5_canBeInserted_70 : decode cX5_canBeInserted 70 = .ok (.goto 4, 3) := by decide +kernel
theorem dX5_canBeInserted_73 : decode cX5_canBeInserted 73 = .ok (.iconst 0, 1) := by decide +kernel
theorem dX5_canBeInserted_74 : decode cX5_canBeInserted 74 = .ok (.ireturn, 1) := by decide +kernel
theorem dX5_isSideInWay_0 : decode cX5_isSideInWay 0 = .ok (.iconst 0, 1) := by decide +kernel
theorem dX5_isSideInWay_1 : decode cX5_isSideInWay 1 = .ok (.istore 4, 2) := by decide +kernel
theorem dX5_isSideInWay_3 : decode cX5_isSideInWay 3 = .ok (.iload 4, 2) := by decide +kernel
theorem dX5_isSideInWay_5 : decode cX5_isSideInWay 5 = .ok (.aload_n 0, 1) := by decide +kernel
theorem dX5_isSideInWay_6 : decode cX5_isSideInWay 6 = .ok (.getfield 22, 3) := by decide +kernel
theorem dX5_isSideInWay_9 : decode cX5_isSideInWay 9 = .ok (.getfield 86, 3) := by decide +kernel
theorem dX5_isSideInWay_12 : decode cX5_isSideInWay 12 = .ok (.if_icmp .ge 75, 3) := by decide +kernel
theorem dX5_isSideInWay_15 : decode cX5_isSideInWay 15 = .ok (.aload_n 0, 1) := by decide +kernel
theorem dX5_isSideInWay_16 : decode cX5_isSideInWay 16 = .ok (.getfield 22, 3) := by decide +kernel
theorem dX5_isSideInWay_19 : decode cX5_isSideInWay 19 = .ok (.getfield 61, 3) := by decide +kernel
theorem dX5_isSideInWay_22 : decode cX5_isSideInWay 22 = .ok (.iload 4, 2) := by decide +kernel
theorem dX5_isSideInWay_24 : decode cX5_isSideInWay 24 = .ok (.baload, 1) := by decide +kernel
theorem dX5_isSideInWay_25 : decode cX5_isSideInWay 25 = .ok (.ifCond .eq 56, 3) := by decide +kernel
theorem dX5_isSideInWay_28 : decode cX5_isSideInWay 28 = .ok (.iload 4, 2) := by decide +kernel
theorem dX5_isSideInWay_30 : decode cX5_isSideInWay 30 = .ok (.iload_n 1, 1) := by decide +kernel
theorem dX5_isSideInWay_31 : decode cX5_isSideInWay 31 = .ok (.if_icmp .eq 50, 3) := by decide +kernel
theorem dX5_isSideInWay_34 : decode cX5_isSideInWay 34 = .ok (.aload_n 0, 1) := by decide +kernel
theorem dX5_isSideInWay_35 : decode cX5_isSideInWay 35 = .ok (.getfield 22, 3) := by decide +kernel
theorem dX5_isSideInWay_38 : decode cX5_isSideInWay 38 = .ok (.iload 4, 2) := by decide +kernel
theorem dX5_isSideInWay_40 : decode cX5_isSideInWay 40 = .ok (.invokevirtual 41, 3) := by decide +kernel
theorem dX5_isSideInWay_43 : decode cX5_isSideInWay 43 = .ok (.istore 5, 2) := by decide +kernel
theorem dX5_isSideInWay_45 : decode cX5_isSideInWay 45 = .ok (.aload_n 0, 1) := by decide +kernel
theorem dX5_isSideInWay_46 : decode cX5_isSideInWay 46 = .ok (.getfield 31, 3) := by decide +kernel
theorem dX5_isSideInWay_49 : decode cX5_isSideInWay 49 = .ok (.iload 4, 2) := by decide +kernel
theorem dX5_isSideInWay_51 : decode cX5_isSideInWay 51 = .ok (.iload 5, 2) := by decide +kernel
theorem dX5_isSideInWay_53 : decode cX5_isSideInWay 53 = .ok (.iload_n 1, 1) := by decide +kernel
theorem dX5_isSideInWay_54 : decode cX5_isSideInWay 54 = .ok (.iload_n 2, 1) := by decide +kernel
theorem dX5_isSideInWay_55 : decode cX5_isSideInWay 55 = .ok (.iload_n 3, 1) := by decide +kernel
theorem dX5_isSideInWay_56 : decode cX5_isSideInWay 56 = .ok (.invokevirtual 99, 3) := by decide +kernel
theorem dX5_isSideInWay_59 : decode cX5_isSideInWay 59 = .ok (.ifCond .ne 20, 3) := by decide +kernel
theorem dX5_isSideInWay_62 : decode cX5_isSideInWay 62 = .ok (.aload_n 0, 1) := by decide +kernel
theorem dX5_isSideInWay_63 : decode cX5_isSideInWay 63 = .ok (.getfield 31, 3) := by decide +kernel
theorem dX5_isSideInWay_66 : decode cX5_isSideInWay 66 = .ok (.iload 4, 2) := by decide +kernel
theorem dX5_isSideInWay_68 : decode cX5_isSideInWay 68 = .ok (.iload 5, 2) := by decide +kernel
theorem dX5_isSideInWay_70 : decode cX5_isSideInWay 70 = .ok (.iload_n 3, 1) := by decide +kernel
theorem dX5_isSideInWay_71 : decode cX5_isSideInWay 71 = .ok (.iload_n 2, 1) := by decide +kernel
theorem dX5_isSideInWay_72 : decode cX5_isSideInWay 72 = .ok (.iload_n 1, 1) := by decide +kernel
theorem dX5_isSideInWay_73 : decode cX5_isSideInWay 73 = .ok (.invokevirtual 99, 3) := by decide +kernel
theorem dX5_isSideInWay_76 : decode cX5_isSideInWay 76 = .ok (.ifCond .eq 5, 3) := by decide +kernel
theorem dX5_isSideInWay_79 : decode cX5_isSideInWay 79 = .ok (.iconst 1, 1) := by decide +kernel
theorem dX5_isSideInWay_80 : decode cX5_isSideInWay 80 = .ok (.ireturn, 1) := by decide +kernel
theorem dX5_isSideInWay_81 : decode cX5_isSideInWay 81 = .ok (.iinc 4 1, 3) := by decide +kernel
theorem dX5_isSideInWay_84 : decode cX5_isSideInWay 84 = .ok (.goto (-81), 3) := by decide +kernel
theorem dX5_isSideInWay_87 : decode cX5_isSideInWay 87 = .ok (.iconst 0, 1) := by decide +kernel
theorem dX5_isSideInWay_88 : decode cX5_isSideInWay 88 = .ok (.ireturn, 1) := by decide +kernel
theorem dX5_nextVertex_0 : decode cX5_nextVertex 0 = .ok (.iconst (-1), 1) := by decide +kernel
theorem dX5_nextVertex_1 : decode cX5_nextVertex 1 = .ok (.istore_n 1, 1) := by decide +kernel
theorem dX5_nextVertex_2 : decode cX5_nextVertex 2 = .ok (.ldc 105, 2) := by decide +kernel
theorem dX5_nextVertex_4 : decode cX5_nextVertex 4 = .ok (.istore_n 2, 1) := by decide +kernel
theorem dX5_nextVertex_5 : decode cX5_nextVertex 5 = .ok (.iconst 0, 1) := by decide +kernel
theorem dX5_nextVertex_6 : decode cX5_nextVertex 6 = .ok (.istore_n 3, 1) := by decide +kernel
theorem dX5_nextVertex_7 : decode cX5_nextVertex 7 = .ok (.iload_n 3, 1) := by decide +kernel
theorem dX5_nextVertex_8 : decode cX5_nextVertex 8 = .ok (.aload_n 0, 1) := by decide +kernel
theorem dX5_nextVertex_9 : decode cX5_nextVertex 9 = .ok (.getfield 22, 3) := by decide +kernel
theorem dX5_nextVertex_12 : decode cX5_nextVertex 12 = .ok (.getfield 86, 3) := by decide +kernel
theorem dX5_nextVertex_15 : decode cX5_nextVertex 15 = .ok (.if_icmp .ge 47, 3) := by decide +kernel
theorem dX5_nextVertex_18 : decode cX5_nextVertex 18 = .ok (.aload_n 0, 1) := by decide +kernel
theorem dX5_nextVertex_19 : decode cX5_nextVertex 19 = .ok (.getfield 22, 3) := by decide +kernel
theorem dX5_nextVertex_22 : decode cX5_nextVertex 22 = .ok (.getfield 61, 3) := by decide +kernel
theorem dX5_nextVertex_25 : decode cX5_nextVertex 25 = .ok (.iload_n 3, 1) := by decide +kernel
theorem dX5_nextVertex_26 : decode cX5_nextVertex 26 = .ok (.baload, 1) := by decide +kernel
theorem dX5_nextVertex_27 : decode cX5_nextVertex 27 = .ok (.ifCond .eq 29, 3) := by decide +kernel
theorem dX5_nextVertex_30 : decode cX5_nextVertex 30 = .ok (.aload_n 0, 1) := by decide +kernel
theorem dX5_nextVertex_31 : decode cX5_nextVertex 31 = .ok (.iload_n 3, 1) := by decide +kernel
theorem dX5_nextVertex_32 : decode cX5_nextVertex 32 = .ok (.invokevirtual 48, 3) := by decide +kernel
theorem dX5_nextVertex_35 : decode cX5_nextVertex 35 = .ok (.istore 4, 2) := by decide +kernel
theorem dX5_nextVertex_37 : decode cX5_nextVertex 37 = .ok (.iload 4, 2) := by decide +kernel
theorem dX5_nextVertex_39 : decode cX5_nextVertex 39 = .ok (.iload_n 2, 1) := by decide +kernel
theorem dX5_nextVertex_40 : decode cX5_nextVertex 40 = .ok (.if_icmp .ge 16, 3) := by decide +kernel
theorem dX5_nextVertex_43 : decode cX5_nextVertex 43 = .ok (.aload_n 0, 1) := by decide +kernel
theorem dX5_nextVertex_44 : decode cX5_nextVertex 44 = .ok (.iload_n 3, 1) := by decide +kernel
theorem dX5_nextVertex_45 : decode cX5_nextVertex 45 = .ok (.invokevirtual 65, 3) := by decide +kernel
theorem dX5_nextVertex_48 : decode cX5_nextVertex 48 = .ok (.ifCond .eq 8, 3) := by decide +kernel
theorem dX5_nextVertex_51 : decode cX5_nextVertex 51 = .ok (.iload_n 3, 1) := by decide +kernel
theorem dX5_nextVertex_52 : decode cX5_nextVertex 52 = .ok (.istore_n 1, 1) := by decide +kernel
theorem dX5_nextVertex_53 : decode cX5_nextVertex 53 = .ok (.iload 4, 2) := by decide +kernel
theorem dX5_nextVertex_55 : decode cX5_nextVertex 55 = .ok (.istore_n 2, 1) := by decide +kernel
theorem dX5_nextVertex_56 : decode cX5_nextVertex 56 = .ok (.iinc 3 1, 3) := by decide +kernel
theorem dX5_nextVertex_59 : decode cX5_nextVertex 59 = .ok (.goto (-52), 3) := by decide +kernel
theorem dX5_nextVertex_62 : decode cX5_nextVertex 62 = .ok (.iload_n 1, 1) := by decide +kernel
theorem dX5_nextVertex_63 : decode cX5_nextVertex 63 = .ok (.ireturn, 1) := by decide +kernel
theorem dX5_removeWhile_0 : decode cX5_removeWhile 0 = .ok (.iconst 0, 1) := by decide +kernel
theorem dX5_removeWhile_1 : decode cX5_removeWhile 1 = .ok (.istore_n 3, 1) := by decide +kernel
theorem dX5_removeWhile_2 : decode cX5_removeWhile 2 = .ok (.iconst 0, 1) := by decide +kernel
theorem dX5_removeWhile_3 : decode cX5_removeWhile 3 = .ok (.istore 4, 2) := by decide +kernel
theorem dX5_removeWhile_5 : decode cX5_removeWhile 5 = .ok (.iload 4, 2) := by decide +kernel
theorem dX5_removeWhile_7 : decode cX5_removeWhile 7 = .ok (.sipush 442, 3) := by decide +kernel
theorem dX5_removeWhile_10 : decode cX5_removeWhile 10 = .ok (.if_icmp .ge 55, 3) := by decide +kernel
theorem dX5_removeWhile_13 : decode cX5_removeWhile 13 = .ok (.aload_n 0, 1) := by decide +kernel
theorem dX5_removeWhile_14 : decode cX5_removeWhile 14 = .ok (.getfield 22, 3) := by decide +kernel
theorem dX5_removeWhile_17 : decode cX5_removeWhile 17 = .ok (.getfield 106, 3) := by decide +kernel
theorem dX5_removeWhile_20 : decode cX5_removeWhile 20 = .ok (.iload_n 2, 1) := by decide +kernel
theorem dX5_removeWhile_21 : decode cX5_removeWhile 21 = .ok (.if_icmp .le 44, 3) := by decide +kernel
theorem dX5_removeWhile_24 : decode cX5_removeWhile 24 = .ok (.aload_n 0, 1) := by decide +kernel
theorem dX5_removeWhile_25 : decode cX5_removeWhile 25 = .ok (.invokevirtual 109, 3) := by decide +kernel
theorem dX5_removeWhile_28 : decode cX5_removeWhile 28 = .ok (.istore 5, 2) := by decide +kernel
theorem dX5_removeWhile_30 : decode cX5_removeWhile 30 = .ok (.iload 5, 2) := by decide +kernel
theorem dX5_removeWhile_32 : decode cX5_removeWhile 32 = .ok (.iconst (-1), 1) := by decide +kernel
theorem dX5_removeWhile_33 : decode cX5_removeWhile 33 = .ok (.if_icmp .eq 32, 3) := by decide +kernel
theorem dX5_removeWhile_36 : decode cX5_removeWhile 36 = .ok (.aload_n 0, 1) := by decide +kernel
theorem dX5_removeWhile_37 : decode cX5_removeWhile 37 = .ok (.iload 5, 2) := by decide +kernel
theorem dX5_removeWhile_39 : decode cX5_removeWhile 39 = .ok (.invokevirtual 48, 3) := by decide +kernel
theorem dX5_removeWhile_42 : decode cX5_removeWhile 42 = .ok (.iload_n 1, 1) := by decide +kernel
theorem dX5_removeWhile_43 : decode cX5_removeWhile 43 = .ok (.if_icmp .le 6, 3) := by decide +kernel
theorem dX5_removeWhile_46 : decode cX5_removeWhile 46 = .ok (.goto 19, 3) := by decide +kernel
theorem dX5_removeWhile_49 : decode cX5_removeWhile 49 = .ok (.aload_n 0, 1) := by decide +kernel
theorem dX5_removeWhile_50 : decode cX5_removeWhile 50 = .ok (.iload 5, 2) := by decide +kernel
theorem dX5_removeWhile_52 : decode cX5_removeWhile 52 = .ok (.invokevirtual 112, 3) := by decide +kernel
theorem dX5_removeWhile_55 : decode cX5_removeWhile 55 = .ok (.pop, 1) := by decide +kernel
theorem dX5_removeWhile_56 : decode cX5_removeWhile 56 = .ok (.iinc 3 1, 3) := by decide +kernel
theorem dX5_removeWhile_59 : decode cX5_removeWhile 59 = .ok (.iinc 4 1, 3) := by decide +kernel
theorem dX5_removeWhile_62 : decode cX5_removeWhile 62 = .ok (.goto (-57), 3) := by decide +kernel
theorem dX5_removeWhile_65 : decode cX5_removeWhile 65 = .ok (.iload_n 3, 1) := by decide +kernel
theorem dX5_removeWhile_66 : decode cX5_removeWhile 66 = .ok (.ireturn, 1) := by decide +kernel
theorem dX5_leastLimit_0 : decode cX5_leastLimit 0 = .ok (.iconst 0, 1) := by decide +kernel
theorem dX5_leastLimit_1 : decode cX5_leastLimit 1 = .ok (.istore_n 2, 1) := by decide +kernel
theorem dX5_leastLimit_2 : decode cX5_leastLimit 2 = .ok (.iconst 0, 1) := by decide +kernel
theorem dX5_leastLimit_3 : decode cX5_leastLimit 3 = .ok (.istore_n 3, 1) := by decide +kernel
theorem dX5_leastLimit_4 : decode cX5_leastLimit 4 = .ok (.iconst 0, 1) := by decide +kernel
theorem dX5_leastLimit_5 : decode cX5_leastLimit 5 = .ok (.istore 4, 2) := by decide +kernel
theorem dX5_leastLimit_7 : decode cX5_leastLimit 7 = .ok (.iload 4, 2) := by decide +kernel
theorem dX5_leastLimit_9 : decode cX5_leastLimit 9 = .ok (.sipush 442, 3) := by decide +kernel
theorem dX5_leastLimit_12 : decode cX5_leastLimit 12 = .ok (.if_icmp .ge 69, 3) := by decide +kernel
theorem dX5_leastLimit_15 : decode cX5_leastLimit 15 = .ok (.aload_n 0, 1) := by decide +kernel
theorem dX5_leastLimit_16 : decode cX5_leastLimit 16 = .ok (.getfield 22, 3) := by decide +kernel
theorem dX5_leastLimit_19 : decode cX5_leastLimit 19 = .ok (.getfield 106, 3) := by decide +kernel
theorem dX5_leastLimit_22 : decode cX5_leastLimit 22 = .ok (.iload_n 1, 1) := by decide +kernel
theorem dX5_leastLimit_23 : decode cX5_leastLimit 23 = .ok (.if_icmp .le 58, 3) := by decide +kernel
theorem dX5_leastLimit_26 : decode cX5_leastLimit 26 = .ok (.aload_n 0, 1) := by decide +kernel
theorem dX5_leastLimit_27 : decode cX5_leastLimit 27 = .ok (.invokevirtual 109, 3) := by decide +kernel
theorem dX5_leastLimit_30 : decode cX5_leastLimit 30 = .ok (.istore 5, 2) := by decide +kernel
theorem dX5_leastLimit_32 : decode cX5_leastLimit 32 = .ok (.iload 5, 2) := by decide +kernel
theorem dX5_leastLimit_34 : decode cX5_leastLimit 34 = .ok (.iconst (-1), 1) := by decide +kernel
