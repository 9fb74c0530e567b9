theorem dX10_presentAll_36 : decode cX10_presentAll 36 = .ok (.ireturn, 1) := by decide +kernel
theorem dX10_polygonArea_0 : decode cX10_polygonArea 0 = .ok (.iconst 0, 1) := by decide +kernel
theorem dX10_polygonArea_1 : decode cX10_polygonArea 1 = .ok (.istore_n 2, 1) := by decide +kernel
theorem dX10_polygonArea_2 : decode cX10_polygonArea 2 = .ok (.aload_n 0, 1) := by decide +kernel
theorem dX10_polygonArea_3 : decode cX10_polygonArea 3 = .ok (.getfield 24, 3) := by decide +kernel
theorem dX10_polygonArea_6 : decode cX10_polygonArea 6 = .ok (.iload_n 1, 1) := by decide +kernel
theorem dX10_polygonArea_7 : decode cX10_polygonArea 7 = .ok (.iaload, 1) := by decide +kernel
theorem dX10_polygonArea_8 : decode cX10_polygonArea 8 = .ok (.istore_n 3, 1) := by decide +kernel
theorem dX10_polygonArea_9 : decode cX10_polygonArea 9 = .ok (.iload_n 3, 1) := by decide +kernel
theorem dX10_polygonArea_10 : decode cX10_polygonArea 10 = .ok (.aload_n 0, 1) := by decide +kernel
theorem dX10_polygonArea_11 : decode cX10_polygonArea 11 = .ok (.iload_n 1, 1) := by decide +kernel
theorem dX10_polygonArea_12 : decode cX10_polygonArea 12 = .ok (.invokevirtual 141, 3) := by decide +kernel
theorem dX10_polygonArea_15 : decode cX10_polygonArea 15 = .ok (.if_icmp .ge 58, 3) := by decide +kernel
theorem dX10_polygonArea_18 : decode cX10_polygonArea 18 = .ok (.aload_n 0, 1) := by decide +kernel
theorem dX10_polygonArea_19 : decode cX10_polygonArea 19 = .ok (.getfield 45, 3) := by decide +kernel
theorem dX10_polygonArea_22 : decode cX10_polygonArea 22 = .ok (.iload_n 3, 1) := by decide +kernel
theorem dX10_polygonArea_23 : decode cX10_polygonArea 23 = .ok (.baload, 1) := by decide +kernel
theorem dX10_polygonArea_24 : decode cX10_polygonArea 24 = .ok (.ifCond .eq 43, 3) := by decide +kernel
theorem dX10_polygonArea_27 : decode cX10_polygonArea 27 = .ok (.aload_n 0, 1) := by decide +kernel
theorem dX10_polygonArea_28 : decode cX10_polygonArea 28 = .ok (.iload_n 1, 1) := by decide +kernel
theorem dX10_polygonArea_29 : decode cX10_polygonArea 29 = .ok (.iload_n 3, 1) := by decide +kernel
theorem dX10_polygonArea_30 : decode cX10_polygonArea 30 = .ok (.invokevirtual 148, 3) := by decide +kernel
theorem dX10_polygonArea_33 : decode cX10_polygonArea 33 = .ok (.istore 4, 2) := by decide +kernel
theorem dX10_polygonArea_35 : decode cX10_polygonArea 35 = .ok (.iload_n 2, 1) := by decide +kernel
theorem dX10_polygonArea_36 : decode cX10_polygonArea 36 = .ok (.aload_n 0, 1) := by decide +kernel
theorem dX10_polygonArea_37 : decode cX10_polygonArea 37 = .ok (.getfield 39, 3) := by decide +kernel
theorem dX10_polygonArea_40 : decode cX10_polygonArea 40 = .ok (.iload_n 3, 1) := by decide +kernel
theorem dX10_polygonArea_41 : decode cX10_polygonArea 41 = .ok (.iaload, 1) := by decide +kernel
theorem dX10_polygonArea_42 : decode cX10_polygonArea 42 = .ok (.aload_n 0, 1) := by decide +kernel
theorem dX10_polygonArea_43 : decode cX10_polygonArea 43 = .ok (.getfield 42, 3) := by decide +kernel
theorem dX10_polygonArea_46 : decode cX10_polygonArea 46 = .ok (.iload 4, 2) := by decide +kernel
theorem dX10_polygonArea_48 : decode cX10_polygonArea 48 = .ok (.iaload, 1) := by decide +kernel
theorem dX10_polygonArea_49 : decode cX10_polygonArea 49 = .ok (.imul, 1) := by decide +kernel
theorem dX10_polygonArea_50 : decode cX10_polygonArea 50 = .ok (.aload_n 0, 1) := by decide +kernel
theorem dX10_polygonArea_51 : decode cX10_polygonArea 51 = .ok (.getfield 39, 3) := by decide +kernel
theorem dX10_polygonArea_54 : decode cX10_polygonArea 54 = .ok (.iload 4, 2) := by decide +kernel
theorem dX10_polygonArea_56 : decode cX10_polygonArea 56 = .ok (.iaload, 1) := by decide +kernel
theorem dX10_polygonArea_57 : decode cX10_polygonArea 57 = .ok (.aload_n 0, 1) := by decide +kernel
theorem dX10_polygonArea_58 : decode cX10_polygonArea 58 = .ok (.getfield 42, 3) := by decide +kernel
theorem dX10_polygonArea_61 : decode cX10_polygonArea 61 = .ok (.iload_n 3, 1) := by decide +kernel
theorem dX10_polygonArea_62 : decode cX10_polygonArea 62 = .ok (.iaload, 1) := by decide +kernel
theorem dX10_polygonArea_63 : decode cX10_polygonArea 63 = .ok (.imul, 1) := by decide +kernel
theorem dX10_polygonArea_64 : decode cX10_polygonArea 64 = .ok (.isub, 1) := by decide +kernel
theorem dX10_polygonArea_65 : decode cX10_polygonArea 65 = .ok (.iadd, 1) := by decide +kernel
theorem dX10_polygonArea_66 : decode cX10_polygonArea 66 = .ok (.istore_n 2, 1) := by decide +kernel
theorem dX10_polygonArea_67 : decode cX10_polygonArea 67 = .ok (.iinc 3 1, 3) := by decide +kernel
theorem dX10_polygonArea_70 : decode cX10_polygonArea 70 = .ok (.goto (-61), 3) := by decide +kernel
theorem dX10_polygonArea_73 : decode cX10_polygonArea 73 = .ok (.iload_n 2, 1) := by decide +kernel
theorem dX10_polygonArea_74 : decode cX10_polygonArea 74 = .ok (.ireturn, 1) := by decide +kernel
theorem dX10_isCrossed_0 : decode cX10_isCrossed 0 = .ok (.aload_n 0, 1) := by decide +kernel
theorem dX10_isCrossed_1 : decode cX10_isCrossed 1 = .ok (.getfield 42, 3) := by decide +kernel
theorem dX10_isCrossed_4 : decode cX10_isCrossed 4 = .ok (.iload_n 2, 1) := by decide +kernel
theorem dX10_isCrossed_5 : decode cX10_isCrossed 5 = .ok (.iaload, 1) := by decide +kernel
theorem dX10_isCrossed_6 : decode cX10_isCrossed 6 = .ok (.aload_n 0, 1) := by decide +kernel
theorem dX10_isCrossed_7 : decode cX10_isCrossed 7 = .ok (.getfield 42, 3) := by decide +kernel
theorem dX10_isCrossed_10 : decode cX10_isCrossed 10 = .ok (.iload_n 1, 1) := by decide +kernel
theorem dX10_isCrossed_11 : decode cX10_isCrossed 11 = .ok (.iaload, 1) := by decide +kernel
theorem dX10_isCrossed_12 : decode cX10_isCrossed 12 = .ok (.isub, 1) := by decide +kernel
theorem dX10_isCrossed_13 : decode cX10_isCrossed 13 = .ok (.istore 5, 2) := by decide +kernel
theorem dX10_isCrossed_15 : decode cX10_isCrossed 15 = .ok (.iconst 2, 1) := by decide +kernel
theorem dX10_isCrossed_16 : decode cX10_isCrossed 16 = .ok (.aload_n 0, 1) := by decide +kernel
theorem dX10_isCrossed_17 : decode cX10_isCrossed 17 = .ok (.getfield 42, 3) := by decide +kernel
theorem dX10_isCrossed_20 : decode cX10_isCrossed 20 = .ok (.iload_n 1, 1) := by decide +kernel
theorem dX10_isCrossed_21 : decode cX10_isCrossed 21 = .ok (.iaload, 1) := by decide +kernel
theorem dX10_isCrossed_22 : decode cX10_isCrossed 22 = .ok (.imul, 1) := by decide +kernel
theorem dX10_isCrossed_23 : decode cX10_isCrossed 23 = .ok (.iload 4, 2) := by decide +kernel
theorem dX10_isCrossed_25 : decode cX10_isCrossed 25 = .ok (.if_icmp .gt 7, 3) := by decide +kernel
theorem dX10_isCrossed_28 : decode cX10_isCrossed 28 = .ok (.iconst 1, 1) := by decide +kernel
theorem dX10_isCrossed_29 : decode cX10_isCrossed 29 = .ok (.goto 4, 3) := by decide +kernel
theorem dX10_isCrossed_32 : decode cX10_isCrossed 32 = .ok (.iconst 0, 1) := by decide +kernel
theorem dX10_isCrossed_33 : decode cX10_isCrossed 33 = .ok (.iconst 2, 1) := by decide +kernel
theorem dX10_isCrossed_34 : decode cX10_isCrossed 34 = .ok (.aload_n 0, 1) := by decide +kernel
theorem dX10_isCrossed_35 : decode cX10_isCrossed 35 = .ok (.getfield 42, 3) := by decide +kernel
theorem dX10_isCrossed_38 : decode cX10_isCrossed 38 = .ok (.iload_n 2, 1) := by decide +kernel
theorem dX10_isCrossed_39 : decode cX10_isCrossed 39 = .ok (.iaload, 1) := by decide +kernel
theorem dX10_isCrossed_40 : decode cX10_isCrossed 40 = .ok (.imul, 1) := by decide +kernel
theorem dX10_isCrossed_41 : decode cX10_isCrossed 41 = .ok (.iload 4, 2) := by decide +kernel
theorem dX10_isCrossed_43 : decode cX10_isCrossed 43 = .ok (.if_icmp .gt 7, 3) := by decide +kernel
theorem dX10_isCrossed_46 : decode cX10_isCrossed 46 = .ok (.iconst 1, 1) := by decide +kernel
theorem dX10_isCrossed_47 : decode cX10_isCrossed 47 = .ok (.goto 4, 3) := by decide +kernel
theorem dX10_isCrossed_50 : decode cX10_isCrossed 50 = .ok (.iconst 0, 1) := by decide +kernel
theorem dX10_isCrossed_51 : decode cX10_isCrossed 51 = .ok (.if_icmp .eq 7, 3) := by decide +kernel
theorem dX10_isCrossed_54 : decode cX10_isCrossed 54 = .ok (.iconst 1, 1) := by decide +kernel
theorem dX10_isCrossed_55 : decode cX10_isCrossed 55 = .ok (.goto 4, 3) := by decide +kernel
theorem dX10_isCrossed_58 : decode cX10_isCrossed 58 = .ok (.iconst 0, 1) := by decide +kernel
theorem dX10_isCrossed_59 : decode cX10_isCrossed 59 = .ok (.istore 6, 2) := by decide +kernel
theorem dX10_isCrossed_61 : decode cX10_isCrossed 61 = .ok (.iconst 2, 1) := by decide +kernel
theorem dX10_isCrossed_62 : decode cX10_isCrossed 62 = .ok (.aload_n 0, 1) := by decide +kernel
theorem dX10_isCrossed_63 : decode cX10_isCrossed 63 = .ok (.getfield 39, 3) := by decide +kernel
theorem dX10_isCrossed_66 : decode cX10_isCrossed 66 = .ok (.iload_n 1, 1) := by decide +kernel
theorem dX10_isCrossed_67 : decode cX10_isCrossed 67 = .ok (.iaload, 1) := by decide +kernel
theorem dX10_isCrossed_68 : decode cX10_isCrossed 68 = .ok (.imul, 1) := by decide +kernel
theorem dX10_isCrossed_69 : decode cX10_isCrossed 69 = .ok (.iload_n 3, 1) := by decide +kernel
theorem dX10_isCrossed_70 : decode cX10_isCrossed 70 = .ok (.isub, 1) := by decide +kernel
theorem dX10_isCrossed_71 : decode cX10_isCrossed 71 = .ok (.iload 5, 2) := by decide +kernel
theorem dX10_isCrossed_73 : decode cX10_isCrossed 73 = .ok (.imul, 1) := by decide +kernel
theorem dX10_isCrossed_74 : decode cX10_isCrossed 74 = .ok (.iload 4, 2) := by decide +kernel
theorem dX10_isCrossed_76 : decode cX10_isCrossed 76 = .ok (.iconst 2, 1) := by decide +kernel
theorem dX10_isCrossed_77 : decode cX10_isCrossed 77 = .ok (.aload_n 0, 1) := by decide +kernel
theorem dX10_isCrossed_78 : decode cX10_isCrossed 78 = .ok (.getfield 42, 3) := by decide +kernel
theorem dX10_isCrossed_81 : decode cX10_isCrossed 81 = .ok (.iload_n 1, 1) := by decide +kernel
theorem dX10_isCrossed_82 : decode cX10_isCrossed 82 = .ok (.iaload, 1) := by decide +kernel
theorem dX10_isCrossed_83 : decode cX10_isCrossed 83 = .ok (.imul, 1) := by decide +kernel
theorem dX10_isCrossed_84 : decode cX10_isCrossed 84 = .ok (.isub, 1) := by decide +kernel
theorem dX10_isCrossed_85 : decode cX10_isCrossed 85 = .ok (.aload_n 0, 1) := by decide +kernel
theorem dX10_isCrossed_86 : decode cX10_isCrossed 86 = .ok (.getfield 39, 3) := by decide +kernel
theorem dX10_isCrossed_89 : decode cX10_isCrossed 89 = .ok (.iload_n 2, 1) := by decide +kernel
theorem dX10_isCrossed_90 : decode cX10_isCrossed 90 = .ok (.iaload, 1) := by decide +kernel
theorem dX10_isCrossed_91 : decode cX10_isCrossed 91 = .ok (.aload_n 0, 1) := by decide +kernel
theorem dX10_isCrossed_92 : decode cX10_isCrossed 92 = .ok (.getfield 39, 3) := by decide +kernel
theorem dX10_isCrossed_95 : decode cX10_isCrossed 95 = .ok (.iload_n 1, 1) := by decide +kernel
theorem dX10_isCrossed_96 : decode cX10_isCrossed 96 = .ok (.iaload, 1) := by decide +kernel
theorem dX10_isCrossed_97 : decode cX10_isCrossed 97 = .ok (.isub, 1) := by decide +kernel
theorem dX10_isCrossed_98 : decode cX10_isCrossed 98 = .ok (.imul, 1) := by decide +kernel
theorem dX10_isCrossed_99 : decode cX10_isCrossed 99 = .ok (.iadd, 1) := by decide +kernel
theorem dX10_isCrossed_100 : decode cX10_isCrossed 100 = .ok (.istore 7, 2) := by decide +kernel
theorem dX10_isCrossed_102 : decode cX10_isCrossed 102 = .ok (.iload 6, 2) := by decide +kernel
theorem dX10_isCrossed_104 : decode cX10_isCrossed 104 = .ok (.ifCond .eq 25, 3) := by decide +kernel
theorem dX10_isCrossed_107 : decode cX10_isCrossed 107 = .ok (.iload 5, 2) := by decide +kernel
theorem dX10_isCrossed_109 : decode cX10_isCrossed 109 = .ok (.ifCond .le 11, 3) := by decide +kernel
theorem dX10_isCrossed_112 : decode cX10_isCrossed 112 = .ok (.iload 7, 2) := by decide +kernel
theorem dX10_isCrossed_114 : decode cX10_isCrossed 114 = .ok (.ifCond .le 15, 3) := by decide +kernel
theorem dX10_isCrossed_117 : decode cX10_isCrossed 117 = .ok (.goto 8, 3) := by decide +kernel
theorem dX10_isCrossed_120 : decode cX10_isCrossed 120 = .ok (.iload 7, 2) := by decide +kernel
theorem dX10_isCrossed_122 : decode cX10_isCrossed 122 = .ok (.ifCond .ge 7, 3) := by decide +kernel
theorem dX10_isCrossed_125 : decode cX10_isCrossed 125 = .ok (.iconst 1, 1) := by decide +kernel
theorem dX10_isCrossed_126 : decode cX10_isCrossed 126 = .ok (.goto 4, 3) := by decide +kernel
theorem dX10_isCrossed_129 : decode cX10_isCrossed 129 = .ok (.iconst 0, 1) := by decide +kernel
theorem dX10_isCrossed_130 : decode cX10_isCrossed 130 = .ok (.ireturn, 1) := by decide +kernel
theorem dX10_isCoveredBy_0 : decode cX10_isCoveredBy 0 = .ok (.iconst 0, 1) := by decide +kernel
theorem dX10_isCoveredBy_1 : decode cX10_isCoveredBy 1 = .ok (.istore 4, 2) := by decide +kernel
theorem dX10_isCoveredBy_3 : decode cX10_isCoveredBy 3 = .ok (.aload_n 0, 1) := by decide +kernel
theorem dX10_isCoveredBy_4 : decode cX10_isCoveredBy 4 = .ok (.getfield 24, 3) := by decide +kernel
theorem dX10_isCoveredBy_7 : decode cX10_isCoveredBy 7 = .ok (.iload_n 1, 1) := by decide +kernel
theorem dX10_isCoveredBy_8 : decode cX10_isCoveredBy 8 = .ok (.iaload, 1) := by decide +kernel
theorem dX10_isCoveredBy_9 : decode cX10_isCoveredBy 9 = .ok (.istore 5, 2) := by decide +kernel
theorem dX10_isCoveredBy_11 : decode cX10_isCoveredBy 11 = .ok (.iload 5, 2) := by decide +kernel
theorem dX10_isCoveredBy_13 : decode cX10_isCoveredBy 13 = .ok (.aload_n 0, 1) := by decide +kernel
theorem dX10_isCoveredBy_14 : decode cX10_isCoveredBy 14 = .ok (.iload_n 1, 1) := by decide +kernel
theorem dX10_isCoveredBy_15 : decode cX10_isCoveredBy 15 = .ok (.invokevirtual 141, 3) := by decide +kernel
theorem dX10_isCoveredBy_18 : decode cX10_isCoveredBy 18 = .ok (.if_icmp .ge 54, 3) := by decide +kernel
theorem dX10_isCoveredBy_21 : decode cX10_isCoveredBy 21 = .ok (.aload_n 0, 1) := by decide +kernel
theorem dX10_isCoveredBy_22 : decode cX10_isCoveredBy 22 = .ok (.getfield 45, 3) := by decide +kernel
theorem dX10_isCoveredBy_25 : decode cX10_isCoveredBy 25 = .ok (.iload 5, 2) := by decide +kernel
theorem dX10_isCoveredBy_27 : decode cX10_isCoveredBy 27 = .ok (.baload, 1) := by decide +kernel
theorem dX10_isCoveredBy_28 : decode cX10_isCoveredBy 28 = .ok (.ifCond .eq 34, 3) := by decide +kernel
theorem dX10_isCoveredBy_31 : decode cX10_isCoveredBy 31 = .ok (.aload_n 0, 1) := by decide +kernel
theorem dX10_isCoveredBy_32 : decode cX10_isCoveredBy 32 = .ok (.iload 5, 2) := by decide +kernel
theorem dX10_isCoveredBy_34 : decode cX10_isCoveredBy 34 = .ok (.aload_n 0, 1) := by decide +kernel
theorem dX10_isCoveredBy_35 : decode cX10_isCoveredBy 35 = .ok (.iload_n 1, 1) := by decide +kernel
theorem dX10_isCoveredBy_36 : decode cX10_isCoveredBy 36 = .ok (.iload 5, 2) := by decide +kernel
theorem dX10_isCoveredBy_38 : decode cX10_isCoveredBy 38 = .ok (.invokevirtual 148, 3) := by decide +kernel
theorem dX10_isCoveredBy_41 : decode cX10_isCoveredBy 41 = .ok (.iload_n 2, 1) := by decide +kernel
theorem dX10_isCoveredBy_42 : decode cX10_isCoveredBy 42 = .ok (.iload_n 3, 1) := by decide +kernel
theorem dX10_isCoveredBy_43 : decode cX10_isCoveredBy 43 = .ok (.invokevirtual 151, 3) := by decide +kernel
theorem dX10_isCoveredBy_46 : decode cX10_isCoveredBy 46 = .ok (.ifCond .eq 16, 3) := by decide +kernel
theorem dX10_isCoveredBy_49 : decode cX10_isCoveredBy 49 = .ok (.iload 4, 2) := by decide +kernel
theorem dX10_isCoveredBy_51 : decode cX10_isCoveredBy 51 = .ok (.ifCond .ne 7, 3) := by decide +kernel
theorem dX10_isCoveredBy_54 : decode cX10_isCoveredBy 54 = .ok (.iconst 1, 1) := by decide +kernel
theorem dX10_isCoveredBy_55 : decode cX10_isCoveredBy 55 = .ok (.goto 9, 3) := by decide +kernel
theorem dX10_isCoveredBy_58 : decode cX10_isCoveredBy 58 = .ok (.iconst 0, 1) := by decide +kernel
theorem dX10_isCoveredBy_59 : decode cX10_isCoveredBy 59 = .ok (.goto 5, 3) := by decide +kernel
theorem dX10_isCoveredBy_62 : decode cX10_isCoveredBy 62 = .ok (.iload 4, 2) := by decide +kernel
theorem dX10_isCoveredBy_64 : decode cX10_isCoveredBy 64 = .ok (.istore 4, 2) := by decide +kernel
theorem dX10_isCoveredBy_66 : decode cX10_isCoveredBy 66 = .ok (.iinc 5 1, 3) := by decide +kernel
theorem dX10_isCoveredBy_69 : decode cX10_isCoveredBy 69 = .ok (.goto (-58), 3) := by decide +kernel
theorem dX10_isCoveredBy_72 : decode cX10_isCoveredBy 72 = .ok (.iload 4, 2) := by decide +kernel
theorem dX10_isCoveredBy_74 : decode cX10_isCoveredBy 74 = .ok (.ireturn, 1) := by decide +kernel
theorem dX10_isCoveredAt_0 : decode cX10_isCoveredAt 0 = .ok (.iconst 0, 1) := by decide +kernel
theorem dX10_isCoveredAt_1 : decode cX10_isCoveredAt 1 = .ok (.istore_n 3, 1) := by decide +kernel
theorem dX10_isCoveredAt_2 : decode cX10_isCoveredAt 2 = .ok (.iconst 0, 1) := by decide +kernel
theorem dX10_isCoveredAt_3 : decode cX10_isCoveredAt 3 = .ok (.istore 4, 2) := by decide +kernel
theorem dX10_isCoveredAt_5 : decode cX10_isCoveredAt 5 = .ok (.iload 4, 2) := by decide +kernel
theorem dX10_isCoveredAt_7 : decode cX10_isCoveredAt 7 = .ok (.aload_n 0, 1) := by decide +kernel
theorem dX10_isCoveredAt_8 : decode cX10_isCoveredAt 8 = .ok (.getfield 71, 3) := by decide +kernel
theorem dX10_isCoveredAt_11 : decode cX10_isCoveredAt 11 = .ok (.if_icmp .ge 27, 3) := by decide +kernel
theorem dX10_isCoveredAt_14 : decode cX10_isCoveredAt 14 = .ok (.iload_n 3, 1) := by decide +kernel
theorem dX10_isCoveredAt_15 : decode cX10_isCoveredAt 15 = .ok (.aload_n 0, 1) := by decide +kernel
theorem dX10_isCoveredAt_16 : decode cX10_isCoveredAt 16 = .ok (.iload 4, 2) := by decide +kernel
theorem dX10_isCoveredAt_18 : decode cX10_isCoveredAt 18 = .ok (.iload_n 1, 1) := by decide +kernel
theorem dX10_isCoveredAt_19 : decode cX10_isCoveredAt 19 = .ok (.iload_n 2, 1) := by decide +kernel
theorem dX10_isCoveredAt_20 : decode cX10_isCoveredAt 20 = .ok (.invokevirtual 135, 3) := by decide +kernel
theorem dX10_isCoveredAt_23 : decode cX10_isCoveredAt 23 = .ok (.if_icmp .eq 7, 3) := by decide +kernel
theorem dX10_isCoveredAt_26 : decode cX10_isCoveredAt 26 = .ok (.iconst 1, 1) := by decide +kernel
theorem dX10_isCoveredAt_27 : decode cX10_isCoveredAt 27 = .ok (.goto 4, 3) := by decide +kernel
theorem dX10_isCoveredAt_30 : decode cX10_isCoveredAt 30 = .ok (.iconst 0, 1) := by decide +kernel
theorem dX10_isCoveredAt_31 : decode cX10_isCoveredAt 31 = .ok (.istore_n 3, 1) := by decide +kernel
theorem dX10_isCoveredAt_32 : decode cX10_isCoveredAt 32 = .ok (.iinc 4 1, 3) := by decide +kernel
theorem dX10_isCoveredAt_35 : decode cX10_isCoveredAt 35 = .ok (.goto (-30), 3) := by decide +kernel
theorem dX10_isCoveredAt_38 : decode cX10_isCoveredAt 38 = .ok (.iload_n 3, 1) := by decide +kernel
theorem dX10_isCoveredAt_39 : decode cX10_isCoveredAt 39 = .ok (.ireturn, 1) := by decide +kernel
theorem dX10_isSamePlace_0 : decode cX10_isSamePlace 0 = .ok (.aload_n 0, 1) := by decide +kernel
theorem dX10_isSamePlace_1 : decode cX10_isSamePlace 1 = .ok (.getfield 39, 3) := by decide +kernel
theorem dX10_isSamePlace_4 : decode cX10_isSamePlace 4 = .ok (.iload_n 1, 1) := by decide +kernel
theorem dX10_isSamePlace_5 : decode cX10_isSamePlace 5 = .ok (.iaload, 1) := by decide +kernel
theorem dX10_isSamePlace_6 : decode cX10_isSamePlace 6 = .ok (.aload_n 0, 1) := by decide +kernel
theorem dX10_isSamePlace_7 : decode cX10_isSamePlace 7 = .ok (.getfield 39, 3) := by decide +kernel
theorem dX10_isSamePlace_10 : decode cX10_isSamePlace 10 = .ok (.iload_n 2, 1) := by decide +kernel
theorem dX10_isSamePlace_11 : decode cX10_isSamePlace 11 = .ok (.iaload, 1) := by decide +kernel
theorem dX10_isSamePlace_12 : decode cX10_isSamePlace 12 = .ok (.if_icmp .ne 22, 3) := by decide +kernel
theorem dX10_isSamePlace_15 : decode cX10_isSamePlace 15 = .ok (.aload_n 0, 1) := by decide +kernel
theorem dX10_isSamePlace_16 : decode cX10_isSamePlace 16 = .ok (.getfield 42, 3) := by decide +kernel
theorem dX10_isSamePlace_19 : decode cX10_isSamePlace 19 = .ok (.iload_n 1, 1) := by decide +kernel
theorem dX10_isSamePlace_20 : decode cX10_isSamePlace 20 = .ok (.iaload, 1) := by decide +kernel
theorem dX10_isSamePlace_21 : decode cX10_isSamePlace 21 = .ok (.aload_n 0, 1) := by decide +kernel
theorem dX10_isSamePlace_22 : decode cX10_isSamePlace 22 = .ok (.getfield 42, 3) := by decide +kernel
theorem dX10_isSamePlace_25 : decode cX10_isSamePlace 25 = .ok (.iload_n 2, 1) := by decide +kernel
theorem dX10_isSamePlace_26 : decode cX10_isSamePlace 26 = .ok (.iaload, 1) := by decide +kernel
theorem dX10_isSamePlace_27 : decode cX10_isSamePlace 27 = .ok (.if_icmp .ne 7, 3) := by decide +kernel
theorem dX10_isSamePlace_30 : decode cX10_isSamePlace 30 = .ok (.iconst 1, 1) := by decide +kernel
theorem dX10_isSamePlace_31 : decode cX10_isSamePlace 31 = .ok (.goto 4, 3) := by decide +kernel
theorem dX10_isSamePlace_34 : decode cX10_isSamePlace 34 = .ok (.iconst 0, 1) := by decide +kernel
theorem dX10_isSamePlace_35 : decode cX10_isSamePlace 35 = .ok (.ireturn, 1) := by decide +kernel
theorem dX10_turn_0 : decode cX10_turn 0 = .ok (.aload_n 0, 1) := by decide +kernel
theorem dX10_turn_1 : decode cX10_turn 1 = .ok (.getfield 39, 3) := by decide +kernel
theorem dX10_turn_4 : decode cX10_turn 4 = .ok (.iload_n 2, 1) := by decide +kernel
theorem dX10_turn_5 : decode cX10_turn 5 = .ok (.iaload, 1) := by decide +kernel
theorem dX10_turn_6 : decode cX10_turn 6 = .ok (.aload_n 0, 1) := by decide +kernel
theorem dX10_turn_7 : decode cX10_turn 7 = .ok (.getfield 39, 3) := by decide +kernel
theorem dX10_turn_10 : decode cX10_turn 10 = .ok (.iload_n 1, 1) := by decide +kernel
theorem dX10_turn_11 : decode cX10_turn 11 = .ok (.iaload, 1) := by decide +kernel
theorem dX10_turn_12 : decode cX10_turn 12 = .ok (.isub, 1) := by decide +kernel
theorem dX10_turn_13 : decode cX10_turn 13 = .ok (.aload_n 0, 1) := by decide +kernel
theorem dX10_turn_14 : decode cX10_turn 14 = .ok (.getfield 42, 3) := by decide +kernel
theorem dX10_turn_17 : decode cX10_turn 17 = .ok (.iload_n 3, 1) := by decide +kernel
theorem dX10_turn_18 : decode cX10_turn 18 = .ok (.iaload, 1) := by decide +kernel
theorem dX10_turn_19 : decode cX10_turn 19 = .ok (.aload_n 0, 1) := by decide +kernel
theorem dX10_turn_20 : decode cX10_turn 20 = .ok (.getfield 42, 3) := by decide +kernel
theorem dX10_turn_23 : decode cX10_turn 23 = .ok (.iload_n 1, 1) := by decide +kernel
theorem dX10_turn_24 : decode cX10_turn 24 = .ok (.iaload, 1) := by decide +kernel
theorem dX10_turn_25 : decode cX10_turn 25 = .ok (.isub, 1) := by decide +kernel
theorem dX10_turn_26 : decode cX10_turn 26 = .ok (.imul, 1) := by decide +kernel
theorem dX10_turn_27 : decode cX10_turn 27 = .ok (.aload_n 0, 1) := by decide +kernel
theorem dX10_turn_28 : decode cX10_turn 28 = .ok (.getfield 42, 3) := by decide +kernel
theorem dX10_turn_31 : decode cX10_turn 31 = .ok (.iload_n 2, 1) := by decide +kernel
theorem dX10_turn_32 : decode cX10_turn 32 = .ok (.iaload, 1) := by decide +kernel
theorem dX10_turn_33 : decode cX10_turn 33 = .ok (.aload_n 0, 1) := by decide +kernel
theorem dX10_turn_34 : decode cX10_turn 34 = .ok (.getfield 42, 3) := by decide +kernel
theorem dX10_turn_37 : decode cX10_turn 37 = .ok (.iload_n 1, 1) := by decide +kernel
theorem dX10_turn_38 : decode cX10_turn 38 = .ok (.iaload, 1) := by decide +kernel
theorem dX10_turn_39 : decode cX10_turn 39 = .ok (.isub, 1) := by decide +kernel
theorem dX10_turn_40 : decode cX10_turn 40 = .ok (.aload_n 0, 1) := by decide +kernel
theorem dX10_turn_41 : decode cX10_turn 41 = .ok (.getfield 39, 3) := by decide +kernel
theorem dX10_turn_44 : decode cX10_turn 44 = .ok (.iload_n 3, 1) := by decide +kernel
theorem dX10_turn_45 : decode cX10_turn 45 = .ok (.iaload, 1) := by decide +kernel
theorem dX10_turn_46 : decode cX10_turn 46 = .ok (.aload_n 0, 1) := by decide +kernel
theorem dX10_turn_47 : decode cX10_turn 47 = .ok (.getfield 39, 3) := by decide +kernel
theorem dX10_turn_50 : decode cX10_turn 50 = .ok (.iload_n 1, 1) := by decide +kernel
theorem dX10_turn_51 : decode cX10_turn 51 = .ok (.iaload, 1) := by decide +kernel
theorem dX10_turn_52 : decode cX10_turn 52 = .ok (.isub, 1) := by decide +kernel
theorem dX10_turn_53 : decode cX10_turn 53 = .ok (.imul, 1) := by decide +kernel
theorem dX10_turn_54 : decode cX10_turn 54 = .ok (.isub, 1) := by decide +kernel
theorem dX10_turn_55 : decode cX10_turn 55 = .ok (.ireturn, 1) := by decide +kernel
theorem dX10_isBetween_0 : decode cX10_isBetween 0 = .ok (.iload_n 0, 1) := by decide +kernel
theorem dX10_isBetween_1 : decode cX10_isBetween 1 = .ok (.iload_n 1, 1) := by decide +kernel
theorem dX10_isBetween_2 : decode cX10_isBetween 2 = .ok (.if_icmp .ge 12, 3) := by decide +kernel
theorem dX10_isBetween_5 : decode cX10_isBetween 5 = .ok (.iload_n 2, 1) := by decide +kernel
theorem dX10_isBetween_6 : decode cX10_isBetween 6 = .ok (.iload_n 0, 1) := by decide +kernel
theorem dX10_isBetween_7 : decode cX10_isBetween 7 = .ok (.iload_n 1, 1) := by decide +kernel
theorem dX10_isBetween_8 : decode cX10_isBetween 8 = .ok (.invokestatic 67, 3) := by decide +kernel
theorem dX10_isBetween_11 : decode cX10_isBetween 11 = .ok (.goto 9, 3) := by decide +kernel
theorem dX10_isBetween_14 : decode cX10_isBetween 14 = .ok (.iload_n 2, 1) := by decide +kernel
theorem dX10_isBetween_15 : decode cX10_isBetween 15 = .ok (.iload_n 1, 1) := by decide +kernel
theorem dX10_isBetween_16 : decode cX10_isBetween 16 = .ok (.iload_n 0, 1) := by decide +kernel
theorem dX10_isBetween_17 : decode cX10_isBetween 17 = .ok (.invokestatic 67, 3) := by decide +kernel
theorem dX10_isBetween_20 : decode cX10_isBetween 20 = .ok (.ireturn, 1) := by decide +kernel
theorem dX10_isOn_0 : decode cX10_isOn 0 = .ok (.aload_n 0, 1) := by decide +kernel
theorem dX10_isOn_1 : decode cX10_isOn 1 = .ok (.iload_n 1, 1) := by decide +kernel
theorem dX10_isOn_2 : decode cX10_isOn 2 = .ok (.iload_n 2, 1) := by decide +kernel
theorem dX10_isOn_3 : decode cX10_isOn 3 = .ok (.iload_n 3, 1) := by decide +kernel
theorem dX10_isOn_4 : decode cX10_isOn 4 = .ok (.invokevirtual 155, 3) := by decide +kernel
theorem dX10_isOn_7 : decode cX10_isOn 7 = .ok (.ifCond .ne 55, 3) := by decide +kernel
theorem dX10_isOn_10 : decode cX10_isOn 10 = .ok (.aload_n 0, 1) := by decide +kernel
theorem dX10_isOn_11 : decode cX10_isOn 11 = .ok (.getfield 39, 3) := by decide +kernel
theorem dX10_isOn_14 : decode cX10_isOn 14 = .ok (.iload_n 1, 1) := by decide +kernel
theorem dX10_isOn_15 : decode cX10_isOn 15 = .ok (.iaload, 1) := by decide +kernel
theorem dX10_isOn_16 : decode cX10_isOn 16 = .ok (.aload_n 0, 1) := by decide +kernel
theorem dX10_isOn_17 : decode cX10_isOn 17 = .ok (.getfield 39, 3) := by decide +kernel
theorem dX10_isOn_20 : decode cX10_isOn 20 = .ok (.iload_n 2, 1) := by decide +kernel
theorem dX10_isOn_21 : decode cX10_isOn 21 = .ok (.iaload, 1) := by decide +kernel
theorem dX10_isOn_22 : decode cX10_isOn 22 = .ok (.aload_n 0, 1) := by decide +kernel
theorem dX10_isOn_23 : decode cX10_isOn 23 = .ok (.getfield 39, 3) := by decide +kernel
theorem dX10_isOn_26 : decode cX10_isOn 26 = .ok (.iload_n 3, 1) := by decide +kernel
theorem dX10_isOn_27 : decode cX10_isOn 27 = .ok (.iaload, 1) := by decide +kernel
theorem dX10_isOn_28 : decode cX10_isOn 28 = .ok (.invokestatic 158, 3) := by decide +kernel
theorem dX10_isOn_31 : decode cX10_isOn 31 = .ok (.ifCond .eq 31, 3) := by decide +kernel
theorem dX10_isOn_34 : decode cX10_isOn 34 = .ok (.aload_n 0, 1) := by decide +kernel
theorem dX10_isOn_35 : decode cX10_isOn 35 = .ok (.getfield 42, 3) := by decide +kernel
theorem dX10_isOn_38 : decode cX10_isOn 38 = .ok (.iload_n 1, 1) := by decide +kernel
theorem dX10_isOn_39 : decode cX10_isOn 39 = .ok (.iaload, 1) := by decide +kernel
theorem dX10_isOn_40 : decode cX10_isOn 40 = .ok (.aload_n 0, 1) := by decide +kernel
theorem dX10_isOn_41 : decode cX10_isOn 41 = .ok (.getfield 42, 3) := by decide +kernel
theorem dX10_isOn_44 : decode cX10_isOn 44 = .ok (.iload_n 2, 1) := by decide +kernel
theorem dX10_isOn_45 : decode cX10_isOn 45 = .ok (.iaload, 1) := by decide +kernel
theorem dX10_isOn_46 : decode cX10_isOn 46 = .ok (.aload_n 0, 1) := by decide +kernel
theorem dX10_isOn_47 : decode cX10_isOn 47 = .ok (.getfield 42, 3) := by decide +kernel
theorem dX10_isOn_50 : decode cX10_isOn 50 = .ok (.iload_n 3, 1) := by decide +kernel
theorem dX10_isOn_51 : decode cX10_isOn 51 = .ok (.iaload, 1) := by decide +kernel
theorem dX10_isOn_52 : decode cX10_isOn 52 = .ok (.invokestatic 158, 3) := by decide +kernel
theorem dX10_isOn_55 : decode cX10_isOn 55 = .ok (.ifCond .eq 7, 3) := by decide +kernel
theorem dX10_isOn_58 : decode cX10_isOn 58 = .ok (.iconst 1, 1) := by decide +kernel
theorem dX10_isOn_59 : decode cX10_isOn 59 = .ok (.goto 4, 3) := by decide +kernel
theorem dX10_isOn_62 : decode cX10_isOn 62 = .ok (.iconst 0, 1) := by decide +kernel
theorem dX10_isOn_63 : decode cX10_isOn 63 = .ok (.ireturn, 1) := by decide +kernel
theorem dX10_isInTriangle_0 : decode cX10_isInTriangle 0 = .ok (.aload_n 0, 1) := by decide +kernel
theorem dX10_isInTriangle_1 : decode cX10_isInTriangle 1 = .ok (.iload_n 1, 1) := by decide +kernel
theorem dX10_isInTriangle_2 : decode cX10_isInTriangle 2 = .ok (.iload_n 2, 1) := by decide +kernel
theorem dX10_isInTriangle_3 : decode cX10_isInTriangle 3 = .ok (.iload 4, 2) := by decide +kernel
theorem dX10_isInTriangle_5 : decode cX10_isInTriangle 5 = .ok (.invokevirtual 161, 3) := by decide +kernel
theorem dX10_isInTriangle_8 : decode cX10_isInTriangle 8 = .ok (.ifCond .ne 25, 3) := by decide +kernel
theorem dX10_isInTriangle_11 : decode cX10_isInTriangle 11 = .ok (.aload_n 0, 1) := by decide +kernel
theorem dX10_isInTriangle_12 : decode cX10_isInTriangle 12 = .ok (.iload_n 2, 1) := by decide +kernel
theorem dX10_isInTriangle_13 : decode cX10_isInTriangle 13 = .ok (.iload_n 3, 1) := by decide +kernel
theorem dX10_isInTriangle_14 : decode cX10_isInTriangle 14 = .ok (.iload 4, 2) := by decide +kernel
theorem dX10_isInTriangle_16 : decode cX10_isInTriangle 16 = .ok (.invokevirtual 161, 3) := by decide +kernel
theorem dX10_isInTriangle_19 : decode cX10_isInTriangle 19 = .ok (.ifCond .ne 14, 3) := by decide +kernel
theorem dX10_isInTriangle_22 : decode cX10_isInTriangle 22 = .ok (.aload_n 0, 1) := by decide +kernel
theorem dX10_isInTriangle_23 : decode cX10_isInTriangle 23 = .ok (.iload_n 1, 1) := by decide +kernel
theorem dX10_isInTriangle_24 : decode cX10_isInTriangle 24 = .ok (.iload_n 3, 1) := by decide +kernel
theorem dX10_isInTriangle_25 : decode cX10_isInTriangle 25 = .ok (.iload 4, 2) := by decide +kernel
theorem dX10_isInTriangle_27 : decode cX10_isInTriangle 27 = .ok (.invokevirtual 161, 3) := by decide +kernel
theorem dX10_isInTriangle_30 : decode cX10_isInTriangle 30 = .ok (.ifCond .eq 5, 3) := by decide +kernel
theorem dX10_isInTriangle_33 : decode cX10_isInTriangle 33 = .ok (.iconst 1, 1) := by decide +kernel
theorem dX10_isInTriangle_34 : decode cX10_isInTriangle 34 = .ok (.ireturn, 1) := by decide +kernel
theorem dX10_isInTriangle_35 : decode cX10_isInTriangle 35 = .ok (.aload_n 0, 1) := by decide +kernel
theorem dX10_isInTriangle_36 : decode cX10_isInTriangle 36 = .ok (.iload_n 1, 1) := by decide +kernel
theorem dX10_isInTriangle_37 : decode cX10_isInTriangle 37 = .ok (.iload_n 2, 1) := by decide +kernel
theorem dX10_isInTriangle_38 : decode cX10_isInTriangle 38 = .ok (.iload 4, 2) := by decide +kernel
theorem dX10_isInTriangle_40 : decode cX10_isInTriangle 40 = .ok (.invokevirtual 155, 3) := by decide +kernel
theorem dX10_isInTriangle_43 : decode cX10_isInTriangle 43 = .ok (.istore 5, 2) := by decide +kernel
theorem dX10_isInTriangle_45 : decode cX10_isInTriangle 45 = .ok (.aload_n 0, 1) := by decide +kernel
theorem dX10_isInTriangle_46 : decode cX10_isInTriangle 46 = .ok (.iload_n 2, 1) := by decide +kernel
theorem dX10_isInTriangle_47 : decode cX10_isInTriangle 47 = .ok (.iload_n 3, 1) := by decide +kernel
theorem dX10_isInTriangle_48 : decode cX10_isInTriangle 48 = .ok (.iload 4, 2) := by decide +kernel
theorem dX10_isInTriangle_50 : decode cX10_isInTriangle 50 = .ok (.invokevirtual 155, 3) := by decide +kernel
theorem dX10_isInTriangle_53 : decode cX10_isInTriangle 53 = .ok (.istore 6, 2) := by decide +kernel
theorem dX10_isInTriangle_55 : decode cX10_isInTriangle 55 = .ok (.aload_n 0, 1) := by decide +kernel
theorem dX10_isInTriangle_56 : decode cX10_isInTriangle 56 = .ok (.iload_n 3, 1) := by decide +kernel
theorem dX10_isInTriangle_57 : decode cX10_isInTriangle 57 = .ok (.iload_n 1, 1) := by decide +kernel
theorem dX10_isInTriangle_58 : decode cX10_isInTriangle 58 = .ok (.iload 4, 2) := by decide +kernel
theorem dX10_isInTriangle_60 : decode cX10_isInTriangle 60 = .ok (.invokevirtual 155, 3) := by decide +kernel
theorem dX10_isInTriangle_63 : decode cX10_isInTriangle 63 = .ok (.istore 7, 2) := by decide +kernel
theorem dX10_isInTriangle_65 : decode cX10_isInTriangle 65 = .ok (.iload 5, 2) := by decide +kernel
theorem dX10_isInTriangle_67 : decode cX10_isInTriangle 67 = .ok (.ifCond .le 13, 3) := by decide +kernel
theorem dX10_isInTriangle_70 : decode cX10_isInTriangle 70 = .ok (.iload 6, 2) := by decide +kernel
theorem dX10_isInTriangle_72 : decode cX10_isInTriangle 72 = .ok (.ifCond .le 8, 3) := by decide +kernel
theorem dX10_isInTriangle_75 : decode cX10_isInTriangle 75 = .ok (.iload 7, 2) := by decide +kernel
theorem dX10_isInTriangle_77 : decode cX10_isInTriangle 77 = .ok (.ifCond .gt 18, 3) := by decide +kernel
theorem dX10_isInTriangle_80 : decode cX10_isInTriangle 80 = .ok (.iload 5, 2) := by decide +kernel
theorem dX10_isInTriangle_82 : decode cX10_isInTriangle 82 = .ok (.ifCond .ge 17, 3) := by decide +kernel
theorem dX10_isInTriangle_85 : decode cX10_isInTriangle 85 = .ok (.iload 6, 2) := by decide +kernel
theorem dX10_isInTriangle_87 : decode cX10_isInTriangle 87 = .ok (.ifCond .ge 12, 3) := by decide +kernel
theorem dX10_isInTriangle_90 : decode cX10_isInTriangle 90 = .ok (.iload 7, 2) := by decide +kernel
theorem dX10_isInTriangle_92 : decode cX10_isInTriangle 92 = .ok (.ifCond .ge 7, 3) := by decide +kernel
theorem dX10_isInTriangle_95 : decode cX10_isInTriangle 95 = .ok (.iconst 1, 1) := by decide +kernel
theorem dX10_isInTriangle_96 : decode cX10_isInTriangle 96 = .ok (.goto 4, 3) := by decide +kernel
theorem dX10_isInTriangle_99 : decode cX10_isInTriangle 99 = .ok (.iconst 0, 1) := by decide +kernel
theorem dX10_isInTriangle_100 : decode cX10_isInTriangle 100 = .ok (.ireturn, 1) := by decide +kernel
theorem dX10_isFree_0 : decode cX10_isFree 0 = .ok (.iconst 0, 1) := by decide +kernel
theorem dX10_isFree_1 : decode cX10_isFree 1 = .ok (.istore 4, 2) := by decide +kernel
theorem dX10_isFree_3 : decode cX10_isFree 3 = .ok (.iload 4, 2) := by decide +kernel
theorem dX10_isFree_5 : decode cX10_isFree 5 = .ok (.aload_n 0, 1) := by decide +kernel
theorem dX10_isFree_6 : decode cX10_isFree 6 = .ok (.getfield 74, 3) := by decide +kernel
theorem dX10_isFree_9 : decode cX10_isFree 9 = .ok (.if_icmp .ge 71, 3) := by decide +kernel
theorem dX10_isFree_12 : decode cX10_isFree 12 = .ok (.aload_n 0, 1) := by decide +kernel
theorem dX10_isFree_13 : decode cX10_isFree 13 = .ok (.getfield 45, 3) := by decide +kernel
theorem dX10_isFree_16 : decode cX10_isFree 16 = .ok (.iload 4, 2) := by decide +kernel
theorem dX10_isFree_18 : decode cX10_isFree 18 = .ok (.baload, 1) := by decide +kernel
theorem dX10_isFree_19 : decode cX10_isFree 19 = .ok (.ifCond .eq 33, 3) := by decide +kernel
theorem dX10_isFree_22 : decode cX10_isFree 22 = .ok (.iload 4, 2) := by decide +kernel
theorem dX10_isFree_24 : decode cX10_isFree 24 = .ok (.iload_n 2, 1) := by decide +kernel
theorem dX10_isFree_25 : decode cX10_isFree 25 = .ok (.if_icmp .eq 27, 3) := by decide +kernel
theorem dX10_isFree_28 : decode cX10_isFree 28 = .ok (.aload_n 0, 1) := by decide +kernel
theorem dX10_isFree_29 : decode cX10_isFree 29 = .ok (.iload 4, 2) := by decide +kernel
theorem dX10_isFree_31 : decode cX10_isFree 31 = .ok (.iload_n 1, 1) := by decide +kernel
theorem dX10_isFree_32 : decode cX10_isFree 32 = .ok (.invokevirtual 164, 3) := by decide +kernel
theorem dX10_isFree_35 : decode cX10_isFree 35 = .ok (.ifCond .ne 17, 3) := by decide +kernel
theorem dX10_isFree_38 : decode cX10_isFree 38 = .ok (.aload_n 0, 1) := by decide +kernel
theorem dX10_isFree_39 : decode cX10_isFree 39 = .ok (.iload 4, 2) := by decide +kernel
theorem dX10_isFree_41 : decode cX10_isFree 41 = .ok (.iload_n 3, 1) := by decide +kernel
theorem dX10_isFree_42 : decode cX10_isFree 42 = .ok (.invokevirtual 164, 3) := by decide +kernel
theorem dX10_isFree_45 : decode cX10_isFree 45 = .ok (.ifCond .ne 7, 3) := by decide +kernel
theorem dX10_isFree_48 : decode cX10_isFree 48 = .ok (.iconst 1, 1) := by decide +kernel
theorem dX10_isFree_49 : decode cX10_isFree 49 = .ok (.goto 4, 3) := by decide +kernel
theorem dX10_isFree_52 : decode cX10_isFree 52 = .ok (.iconst 0, 1) := by decide +kernel
theorem dX10_isFree_53 : decode cX10_isFree 53 = .ok (.istore 5, 2) := by decide +kernel
theorem dX10_isFree_55 : decode cX10_isFree 55 = .ok (.iload 5, 2) := by decide +kernel
theorem dX10_isFree_57 : decode cX10_isFree 57 = .ok (.ifCond .eq 17, 3) := by decide +kernel
theorem dX10_isFree_60 : decode cX10_isFree 60 = .ok (.aload_n 0, 1) := by decide +kernel
theorem dX10_isFree_61 : decode cX10_isFree 61 = .ok (.iload_n 1, 1) := by decide +kernel
theorem dX10_isFree_62 : decode cX10_isFree 62 = .ok (.iload_n 2, 1) := by decide +kernel
theorem dX10_isFree_63 : decode cX10_isFree 63 = .ok (.iload_n 3, 1) := by decide +kernel
theorem dX10_isFree_64 : decode cX10_isFree 64 = .ok (.iload 4, 2) := by decide +kernel
theorem dX10_isFree_66 : decode cX10_isFree 66 = .ok (.invokevirtual 167, 3) := by decide +kernel
theorem dX10_isFree_69 : decode cX10_isFree 69 = .ok (.ifCond .eq 5, 3) := by decide +kernel
theorem dX10_isFree_72 : decode cX10_isFree 72 = .ok (.iconst 0, 1) := by decide +kernel
theorem dX10_isFree_73 : decode cX10_isFree 73 = .ok (.ireturn, 1) := by decide +kernel
theorem dX10_isFree_74 : decode cX10_isFree 74 = .ok (.iinc 4 1, 3) := by decide +kernel
theorem dX10_isFree_77 : decode cX10_isFree 77 = .ok (.goto (-74), 3) := by decide +kernel
theorem dX10_isFree_80 : decode cX10_isFree 80 = .ok (.iconst 1, 1) := by decide +kernel
theorem dX10_isFree_81 : decode cX10_isFree 81 = .ok (.ireturn, 1) := by decide +kernel
theorem dX10_triangle_0 : decode cX10_triangle 0 = .ok (.aload_n 0, 1) := by decide +kernel
theorem dX10_triangle_1 : decode cX10_triangle 1 = .ok (.aload_n 0, 1) := by decide +kernel
theorem dX10_triangle_2 : decode cX10_triangle 2 = .ok (.iload_n 1, 1) := by decide +kernel
theorem dX10_triangle_3 : decode cX10_triangle 3 = .ok (.iload_n 2, 1) := by decide +kernel
theorem dX10_triangle_4 : decode cX10_triangle 4 = .ok (.invokevirtual 170, 3) := by decide +kernel
theorem dX10_triangle_7 : decode cX10_triangle 7 = .ok (.aload_n 0, 1) := by decide +kernel
theorem dX10_triangle_8 : decode cX10_triangle 8 = .ok (.iload_n 1, 1) := by decide +kernel
theorem dX10_triangle_9 : decode cX10_triangle 9 = .ok (.iload_n 2, 1) := by decide +kernel
theorem dX10_triangle_10 : decode cX10_triangle 10 = .ok (.invokevirtual 148, 3) := by decide +kernel
theorem dX10_triangle_13 : decode cX10_triangle 13 = .ok (.iload_n 2, 1) := by decide +kernel
theorem dX10_triangle_14 : decode cX10_triangle 14 = .ok (.invokevirtual 155, 3) := by decide +kernel
theorem dX10_triangle_17 : decode cX10_triangle 17 = .ok (.invokestatic 138, 3) := by decide +kernel
theorem dX10_triangle_20 : decode cX10_triangle 20 = .ok (.ireturn, 1) := by decide +kernel
theorem dX10_isSideBetween_0 : decode cX10_isSideBetween 0 = .ok (.iconst 0, 1) := by decide +kernel
theorem dX10_isSideBetween_1 : decode cX10_isSideBetween 1 = .ok (.istore_n 3, 1) := by decide +kernel
theorem dX10_isSideBetween_2 : decode cX10_isSideBetween 2 = .ok (.iconst 0, 1) := by decide +kernel
theorem dX10_isSideBetween_3 : decode cX10_isSideBetween 3 = .ok (.istore 4, 2) := by decide +kernel
theorem dX10_isSideBetween_5 : decode cX10_isSideBetween 5 = .ok (.iload 4, 2) := by decide +kernel
theorem dX10_isSideBetween_7 : decode cX10_isSideBetween 7 = .ok (.aload_n 0, 1) := by decide +kernel
theorem dX10_isSideBetween_8 : decode cX10_isSideBetween 8 = .ok (.getfield 71, 3) := by decide +kernel
theorem dX10_isSideBetween_11 : decode cX10_isSideBetween 11 = .ok (.if_icmp .ge 120, 3) := by decide +kernel
theorem dX10_isSideBetween_14 : decode cX10_isSideBetween 14 = .ok (.aload_n 0, 1) := by decide +kernel
theorem dX10_isSideBetween_15 : decode cX10_isSideBetween 15 = .ok (.getfield 24, 3) := by decide +kernel
theorem dX10_isSideBetween_18 : decode cX10_isSideBetween 18 = .ok (.iload 4, 2) := by decide +kernel
theorem dX10_isSideBetween_20 : decode cX10_isSideBetween 20 = .ok (.iaload, 1) := by decide +kernel
theorem dX10_isSideBetween_21 : decode cX10_isSideBetween 21 = .ok (.istore 5, 2) := by decide +kernel
theorem dX10_isSideBetween_23 : decode cX10_isSideBetween 23 = .ok (.iload 5, 2) := by decide +kernel
theorem dX10_isSideBetween_25 : decode cX10_isSideBetween 25 = .ok (.aload_n 0, 1) := by decide +kernel
theorem dX10_isSideBetween_26 : decode cX10_isSideBetween 26 = .ok (.iload 4, 2) := by decide +kernel
theorem dX10_isSideBetween_28 : decode cX10_isSideBetween 28 = .ok (.invokevirtual 141, 3) := by decide +kernel
theorem dX10_isSideBetween_31 : decode cX10_isSideBetween 31 = .ok (.if_icmp .ge 94, 3) := by decide +kernel
theorem dX10_isSideBetween_34 : decode cX10_isSideBetween 34 = .ok (.aload_n 0, 1) := by decide +kernel
theorem dX10_isSideBetween_35 : decode cX10_isSideBetween 35 = .ok (.getfield 45, 3) := by decide +kernel
theorem dX10_isSideBetween_38 : decode cX10_isSideBetween 38 = .ok (.iload 5, 2) := by decide +kernel
theorem dX10_isSideBetween_40 : decode cX10_isSideBetween 40 = .ok (.baload, 1) := by decide +kernel
theorem dX10_isSideBetween_41 : decode cX10_isSideBetween 41 = .ok (.ifCond .eq 14, 3) := by decide +kernel
theorem dX10_isSideBetween_44 : decode cX10_isSideBetween 44 = .ok (.aload_n 0, 1) := by decide +kernel
theorem dX10_isSideBetween_45 : decode cX10_isSideBetween 45 = .ok (.iload 4, 2) := by decide +kernel
theorem dX10_isSideBetween_47 : decode cX10_isSideBetween 47 = .ok (.iload 5, 2) := by decide +kernel
theorem dX10_isSideBetween_49 : decode cX10_isSideBetween 49 = .ok (.invokevirtual 148, 3) := by decide +kernel
theorem dX10_isSideBetween_52 : decode cX10_isSideBetween 52 = .ok (.goto 5, 3) := by decide +kernel
theorem dX10_isSideBetween_55 : decode cX10_isSideBetween 55 = .ok (.iload 5, 2) := by decide +kernel
theorem dX10_isSideBetween_57 : decode cX10_isSideBetween 57 = .ok (.istore 6, 2) := by decide +kernel
theorem dX10_isSideBetween_59 : decode cX10_isSideBetween 59 = .ok (.iload_n 3, 1) := by decide +kernel
theorem dX10_isSideBetween_60 : decode cX10_isSideBetween 60 = .ok (.ifCond .ne 53, 3) := by decide +kernel
theorem dX10_isSideBetween_63 : decode cX10_isSideBetween 63 = .ok (.aload_n 0, 1) := by decide +kernel
theorem dX10_isSideBetween_64 : decode cX10_isSideBetween 64 = .ok (.getfield 45, 3) := by decide +kernel
theorem dX10_isSideBetween_67 : decode cX10_isSideBetween 67 = .ok (.iload 5, 2) := by decide +kernel
theorem dX10_isSideBetween_69 : decode cX10_isSideBetween 69 = .ok (.baload, 1) := by decide +kernel
theorem dX10_isSideBetween_70 : decode cX10_isSideBetween 70 = .ok (.ifCond .eq 47, 3) := by decide +kernel
theorem dX10_isSideBetween_73 : decode cX10_isSideBetween 73 = .ok (.aload_n 0, 1) := by decide +kernel
theorem dX10_isSideBetween_74 : decode cX10_isSideBetween 74 = .ok (.iload 5, 2) := by decide +kernel
theorem dX10_isSideBetween_76 : decode cX10_isSideBetween 76 = .ok (.iload_n 1, 1) := by decide +kernel
theorem dX10_isSideBetween_77 : decode cX10_isSideBetween 77 = .ok (.invokevirtual 164, 3) := by decide +kernel
theorem dX10_isSideBetween_80 : decode cX10_isSideBetween 80 = .ok (.ifCond .eq 13, 3) := by decide +kernel
theorem dX10_isSideBetween_83 : decode cX10_isSideBetween 83 = .ok (.aload_n 0, 1) := by decide +kernel
theorem dX10_isSideBetween_84 : decode cX10_isSideBetween 84 = .ok (.iload 6, 2) := by decide +kernel
theorem dX10_isSideBetween_86 : decode cX10_isSideBetween 86 = .ok (.iload_n 2, 1) := by decide +kernel
theorem dX10_isSideBetween_87 : decode cX10_isSideBetween 87 = .ok (.invokevirtual 164, 3) := by decide +kernel
theorem dX10_isSideBetween_90 : decode cX10_isSideBetween 90 = .ok (.ifCond .ne 23, 3) := by decide +kernel
theorem dX10_isSideBetween_93 : decode cX10_isSideBetween 93 = .ok (.aload_n 0, 1) := by decide +kernel
theorem dX10_isSideBetween_94 : decode cX10_isSideBetween 94 = .ok (.iload 5, 2) := by decide +kernel
theorem dX10_isSideBetween_96 : decode cX10_isSideBetween 96 = .ok (.iload_n 2, 1) := by decide +kernel
theorem dX10_isSideBetween_97 : decode cX10_isSideBetween 97 = .ok (.invokevirtual 164, 3) := by decide +kernel
theorem dX10_isSideBetween_100 : decode cX10_isSideBetween 100 = .ok (.ifCond .eq 17, 3) := by decide +kernel
theorem dX10_isSideBetween_103 : decode cX10_isSideBetween 103 = .ok (.aload_n 0, 1) := by decide +kernel
theorem dX10_isSideBetween_104 : decode cX10_isSideBetween 104 = .ok (.iload 6, 2) := by decide +kernel
theorem dX10_isSideBetween_106 : decode cX10_isSideBetween 106 = .ok (.iload_n 1, 1) := by decide +kernel
theorem dX10_isSideBetween_107 : decode cX10_isSideBetween 107 = .ok (.invokevirtual 164, 3) := by decide +kernel
theorem dX10_isSideBetween_110 : decode cX10_isSideBetween 110 = .ok (.ifCond .eq 7, 3) := by decide +kernel
theorem dX10_isSideBetween_113 : decode cX10_isSideBetween 113 = .ok (.iconst 1, 1) := by decide +kernel
theorem dX10_isSideBetween_114 : decode cX10_isSideBetween 114 = .ok (.goto 4, 3) := by decide +kernel
theorem dX10_isSideBetween_117 : decode cX10_isSideBetween 117 = .ok (.iconst 0, 1) := by decide +kernel
theorem dX10_isSideBetween_118 : decode cX10_isSideBetween 118 = .ok (.istore_n 3, 1) := by decide +kernel
theorem dX10_isSideBetween_119 : decode cX10_isSideBetween 119 = .ok (.iinc 5 1, 3) := by decide +kernel
theorem dX10_isSideBetween_122 : decode cX10_isSideBetween 122 = .ok (.goto (-99), 3) := by decide +kernel
theorem dX10_isSideBetween_125 : decode cX10_isSideBetween 125 = .ok (.iinc 4 1, 3) := by decide +kernel
theorem dX10_isSideBetween_128 : decode cX10_isSideBetween 128 = .ok (.goto (-123), 3) := by decide +kernel
theorem dX10_isSideBetween_131 : decode cX10_isSideBetween 131 = .ok (.iload_n 3, 1) := by decide +kernel
theorem dX10_isSideBetween_132 : decode cX10_isSideBetween 132 = .ok (.ireturn, 1) := by decide +kernel
theorem dX10_canRemove_0 : decode cX10_canRemove 0 = .ok (.aload_n 0, 1) := by decide +kernel
theorem dX10_canRemove_1 : decode cX10_canRemove 1 = .ok (.iload_n 1, 1) := by decide +kernel
theorem dX10_canRemove_2 : decode cX10_canRemove 2 = .ok (.invokevirtual 173, 3) := by decide +kernel
theorem dX10_canRemove_5 : decode cX10_canRemove 5 = .ok (.iconst 4, 1) := by decide +kernel
theorem dX10_canRemove_6 : decode cX10_canRemove 6 = .ok (.if_icmp .ge 5, 3) := by decide +kernel
theorem dX10_canRemove_9 : decode cX10_canRemove 9 = .ok (.iconst 0, 1) := by decide +kernel
theorem dX10_canRemove_10 : decode cX10_canRemove 10 = .ok (.ireturn, 1) := by decide +kernel
theorem dX10_canRemove_11 : decode cX10_canRemove 11 = .ok (.aload_n 0, 1) := by decide +kernel
theorem dX10_canRemove_12 : decode cX10_canRemove 12 = .ok (.iload_n 1, 1) := by decide +kernel
theorem dX10_canRemove_13 : decode cX10_canRemove 13 = .ok (.iload_n 2, 1) := by decide +kernel
theorem dX10_canRemove_14 : decode cX10_canRemove 14 = .ok (.invokevirtual 170, 3) := by decide +kernel
theorem dX10_canRemove_17 : decode cX10_canRemove 17 = .ok (.istore_n 3, 1) := by decide +kernel
theorem dX10_canRemove_18 : decode cX10_canRemove 18 = .ok (.aload_n 0, 1) := by decide +kernel
theorem dX10_canRemove_19 : decode cX10_canRemove 19 = .ok (.iload_n 1, 1) := by decide +kernel
theorem dX10_canRemove_20 : decode cX10_canRemove 20 = .ok (.iload_n 2, 1) := by decide +kernel
theorem dX10_canRemove_21 : decode cX10_canRemove 21 = .ok (.invokevirtual 148, 3) := by decide +kernel
theorem dX10_canRemove_24 : decode cX10_canRemove 24 = .ok (.istore 4, 2) := by decide +kernel
theorem dX10_canRemove_26 : decode cX10_canRemove 26 = .ok (.aload_n 0, 1) := by decide +kernel
theorem dX10_canRemove_27 : decode cX10_canRemove 27 = .ok (.iload_n 3, 1) := by decide +kernel
theorem dX10_canRemove_28 : decode cX10_canRemove 28 = .ok (.iload_n 2, 1) := by decide +kernel
theorem dX10_canRemove_29 : decode cX10_canRemove 29 = .ok (.iload 4, 2) := by decide +kernel
theorem dX10_canRemove_31 : decode cX10_canRemove 31 = .ok (.invokevirtual 176, 3) := by decide +kernel
theorem dX10_canRemove_34 : decode cX10_canRemove 34 = .ok (.ifCond .eq 17, 3) := by decide +kernel
theorem dX10_canRemove_37 : decode cX10_canRemove 37 = .ok (.aload_n 0, 1) := by decide +kernel
theorem dX10_canRemove_38 : decode cX10_canRemove 38 = .ok (.iload_n 3, 1) := by decide +kernel
theorem dX10_canRemove_39 : decode cX10_canRemove 39 = .ok (.iload 4, 2) := by decide +kernel
theorem dX10_canRemove_41 : decode cX10_canRemove 41 = .ok (.invokevirtual 179, 3) := by decide +kernel
theorem dX10_canRemove_44 : decode cX10_canRemove 44 = .ok (.ifCond .ne 7, 3) := by decide +kernel
theorem dX10_canRemove_47 : decode cX10_canRemove 47 = .ok (.iconst 1, 1) := by decide +kernel
theorem dX10_canRemove_48 : decode cX10_canRemove 48 = .ok (.goto 4, 3) := by decide +kernel
theorem dX10_canRemove_51 : decode cX10_canRemove 51 = .ok (.iconst 0, 1) := by decide +kernel
theorem dX10_canRemove_52 : decode cX10_canRemove 52 = .ok (.ireturn, 1) := by decide +kernel
theorem dX10_doMeet_0 : decode cX10_doMeet 0 = .ok (.aload_n 0, 1) := by decide +kernel
theorem dX10_doMeet_1 : decode cX10_doMeet 1 = .ok (.iload_n 1, 1) := by decide +kernel
theorem dX10_doMeet_2 : decode cX10_doMeet 2 = .ok (.iload 5, 2) := by decide +kernel
theorem dX10_doMeet_4 : decode cX10_doMeet 4 = .ok (.iload 6, 2) := by decide +kernel
theorem dX10_doMeet_6 : decode cX10_doMeet 6 = .ok (.invokevirtual 182, 3) := by decide +kernel
theorem dX10_doMeet_9 : decode cX10_doMeet 9 = .ok (.ifCond .eq 14, 3) := by decide +kernel
theorem dX10_doMeet_12 : decode cX10_doMeet 12 = .ok (.aload_n 0, 1) := by decide +kernel
theorem dX10_doMeet_13 : decode cX10_doMeet 13 = .ok (.iload_n 3, 1) := by decide +kernel
theorem dX10_doMeet_14 : decode cX10_doMeet 14 = .ok (.iload 4, 2) := by decide +kernel
theorem dX10_doMeet_16 : decode cX10_doMeet 16 = .ok (.iload_n 1, 1) := by decide +kernel
theorem dX10_doMeet_17 : decode cX10_doMeet 17 = .ok (.invokevirtual 161, 3) := by decide +kernel
theorem dX10_doMeet_20 : decode cX10_doMeet 20 = .ok (.ifCond .ne 72, 3) := by decide +kernel
theorem dX10_doMeet_23 : decode cX10_doMeet 23 = .ok (.aload_n 0, 1) := by decide +kernel
theorem dX10_doMeet_24 : decode cX10_doMeet 24 = .ok (.iload_n 2, 1) := by decide +kernel
theorem dX10_doMeet_25 : decode cX10_doMeet 25 = .ok (.iload 5, 2) := by decide +kernel
theorem dX10_doMeet_27 : decode cX10_doMeet 27 = .ok (.iload 6, 2) := by decide +kernel
theorem dX10_doMeet_29 : decode cX10_doMeet 29 = .ok (.invokevirtual 182, 3) := by decide +kernel
theorem dX10_doMeet_32 : decode cX10_doMeet 32 = .ok (.ifCond .eq 14, 3) := by decide +kernel
theorem dX10_doMeet_35 : decode cX10_doMeet 35 = .ok (.aload_n 0, 1) := by decide +kernel
theorem dX10_doMeet_36 : decode cX10_doMeet 36 = .ok (.iload_n 3, 1) := by decide +kernel
theorem dX10_doMeet_37 : decode cX10_doMeet 37 = .ok (.iload 4, 2) := by decide +kernel
theorem dX10_doMeet_39 : decode cX10_doMeet 39 = .ok (.iload_n 2, 1) := by decide +kernel
theorem dX10_doMeet_40 : decode cX10_doMeet 40 = .ok (.invokevirtual 161, 3) := by decide +kernel
theorem dX10_doMeet_43 : decode cX10_doMeet 43 = .ok (.ifCond .ne 49, 3) := by decide +kernel
theorem dX10_doMeet_46 : decode cX10_doMeet 46 = .ok (.aload_n 0, 1) := by decide +kernel
theorem dX10_doMeet_47 : decode cX10_doMeet 47 = .ok (.iload_n 3, 1) := by decide +kernel
theorem dX10_doMeet_48 : decode cX10_doMeet 48 = .ok (.iload 5, 2) := by decide +kernel
theorem dX10_doMeet_50 : decode cX10_doMeet 50 = .ok (.iload 6, 2) := by decide +kernel
theorem dX10_doMeet_52 : decode cX10_doMeet 52 = .ok (.invokevirtual 182, 3) := by decide +kernel
theorem dX10_doMeet_55 : decode cX10_doMeet 55 = .ok (.ifCond .eq 13, 3) := by decide +kernel
theorem dX10_doMeet_58 : decode cX10_doMeet 58 = .ok (.aload_n 0, 1) := by decide +kernel
theorem dX10_doMeet_59 : decode cX10_doMeet 59 = .ok (.iload_n 1, 1) := by decide +kernel
theorem dX10_doMeet_60 : decode cX10_doMeet 60 = .ok (.iload_n 2, 1) := by decide +kernel
theorem dX10_doMeet_61 : decode cX10_doMeet 61 = .ok (.iload_n 3, 1) := by decide +kernel
theorem dX10_doMeet_62 : decode cX10_doMeet 62 = .ok (.invokevirtual 161, 3) := by decide +kernel
theorem dX10_doMeet_65 : decode cX10_doMeet 65 = .ok (.ifCond .ne 27, 3) := by decide +kernel
theorem dX10_doMeet_68 : decode cX10_doMeet 68 = .ok (.aload_n 0, 1) := by decide +kernel
theorem dX10_doMeet_69 : decode cX10_doMeet 69 = .ok (.iload 4, 2) := by decide +kernel
theorem dX10_doMeet_71 : decode cX10_doMeet 71 = .ok (.iload 5, 2) := by decide +kernel
theorem dX10_doMeet_73 : decode cX10_doMeet 73 = .ok (.iload 6, 2) := by decide +kernel
theorem dX10_doMeet_75 : decode cX10_doMeet 75 = .ok (.invokevirtual 182, 3) := by decide +kernel
theorem dX10_doMeet_78 : decode cX10_doMeet 78 = .ok (.ifCond .eq 18, 3) := by decide +kernel
theorem dX10_doMeet_81 : decode cX10_doMeet 81 = .ok (.aload_n 0, 1) := by decide +kernel
theorem dX10_doMeet_82 : decode cX10_doMeet 82 = .ok (.iload_n 1, 1) := by decide +kernel
theorem dX10_doMeet_83 : decode cX10_doMeet 83 = .ok (.iload_n 2, 1) := by decide +kernel
theorem dX10_doMeet_84 : decode cX10_doMeet 84 = .ok (.iload 4, 2) := by decide +kernel
theorem dX10_doMeet_86 : decode cX10_doMeet 86 = .ok (.invokevirtual 161, 3) := by decide +kernel
theorem dX10_doMeet_89 : decode cX10_doMeet 89 = .ok (.ifCond .eq 7, 3) := by decide +kernel
theorem dX10_doMeet_92 : decode cX10_doMeet 92 = .ok (.iconst 1, 1) := by decide +kernel
theorem dX10_doMeet_93 : decode cX10_doMeet 93 = .ok (.goto 4, 3) := by decide +kernel
theorem dX10_doMeet_96 : decode cX10_doMeet 96 = .ok (.iconst 0, 1) := by decide +kernel
theorem dX10_doMeet_97 : decode cX10_doMeet 97 = .ok (.istore 7, 2) := by decide +kernel
theorem dX10_doMeet_99 : decode cX10_doMeet 99 = .ok (.iload 7, 2) := by decide +kernel
theorem dX10_doMeet_101 : decode cX10_doMeet 101 = .ok (.ifCond .eq 5, 3) := by decide +kernel
theorem dX10_doMeet_104 : decode cX10_doMeet 104 = .ok (.iconst 1, 1) := by decide +kernel
theorem dX10_doMeet_105 : decode cX10_doMeet 105 = .ok (.ireturn, 1) := by decide +kernel
theorem dX10_doMeet_106 : decode cX10_doMeet 106 = .ok (.aload_n 0, 1) := by decide +kernel
theorem dX10_doMeet_107 : decode cX10_doMeet 107 = .ok (.iload_n 3, 1) := by decide +kernel
theorem dX10_doMeet_108 : decode cX10_doMeet 108 = .ok (.iload 4, 2) := by decide +kernel
theorem dX10_doMeet_110 : decode cX10_doMeet 110 = .ok (.iload_n 1, 1) := by decide +kernel
theorem dX10_doMeet_111 : decode cX10_doMeet 111 = .ok (.invokevirtual 155, 3) := by decide +kernel
theorem dX10_doMeet_114 : decode cX10_doMeet 114 = .ok (.istore 8, 2) := by decide +kernel
theorem dX10_doMeet_116 : decode cX10_doMeet 116 = .ok (.aload_n 0, 1) := by decide +kernel
theorem dX10_doMeet_117 : decode cX10_doMeet 117 = .ok (.iload_n 3, 1) := by decide +kernel
theorem dX10_doMeet_118 : decode cX10_doMeet 118 = .ok (.iload 4, 2) := by decide +kernel
theorem dX10_doMeet_120 : decode cX10_doMeet 120 = .ok (.iload_n 2, 1) := by decide +kernel
theorem dX10_doMeet_121 : decode cX10_doMeet 121 = .ok (.invokevirtual 155, 3) := by decide +kernel
theorem dX10_doMeet_124 : decode cX10_doMeet 124 = .ok (.istore 9, 2) := by decide +kernel
theorem dX10_doMeet_126 : decode cX10_doMeet 126 = .ok (.aload_n 0, 1) := by decide +kernel
theorem dX10_doMeet_127 : decode cX10_doMeet 127 = .ok (.iload_n 1, 1) := by decide +kernel
theorem dX10_doMeet_128 : decode cX10_doMeet 128 = .ok (.iload_n 2, 1) := by decide +kernel
theorem dX10_doMeet_129 : decode cX10_doMeet 129 = .ok (.iload_n 3, 1) := by decide +kernel
theorem dX10_doMeet_130 : decode cX10_doMeet 130 = .ok (.invokevirtual 155, 3) := by decide +kernel
theorem dX10_doMeet_133 : decode cX10_doMeet 133 = .ok (.istore 10, 2) := by decide +kernel
theorem dX10_doMeet_135 : decode cX10_doMeet 135 = .ok (.aload_n 0, 1) := by decide +kernel
theorem dX10_doMeet_136 : decode cX10_doMeet 136 = .ok (.iload_n 1, 1) := by decide +kernel
theorem dX10_doMeet_137 : decode cX10_doMeet 137 = .ok (.iload_n 2, 1) := by decide +kernel
theorem dX10_doMeet_138 : decode cX10_doMeet 138 = .ok (.iload 4, 2) := by decide +kernel
theorem dX10_doMeet_140 : decode cX10_doMeet 140 = .ok (.invokevirtual 155, 3) := by decide +kernel
theorem dX10_doMeet_143 : decode cX10_doMeet 143 = .ok (.istore 11, 2) := by decide +kernel
theorem dX10_doMeet_145 : decode cX10_doMeet 145 = .ok (.iload 8, 2) := by decide +kernel
theorem dX10_doMeet_147 : decode cX10_doMeet 147 = .ok (.ifCond .ne 28, 3) := by decide +kernel
theorem dX10_doMeet_150 : decode cX10_doMeet 150 = .ok (.iload 9, 2) := by decide +kernel
theorem dX10_doMeet_152 : decode cX10_doMeet 152 = .ok (.ifCond .ne 23, 3) := by decide +kernel
theorem dX10_doMeet_155 : decode cX10_doMeet 155 = .ok (.iload 10, 2) := by decide +kernel
theorem dX10_doMeet_157 : decode cX10_doMeet 157 = .ok (.ifCond .ne 18, 3) := by decide +kernel
theorem dX10_doMeet_160 : decode cX10_doMeet 160 = .ok (.iload 11, 2) := by decide +kernel
theorem dX10_doMeet_162 : decode cX10_doMeet 162 = .ok (.ifCond .ne 13, 3) := by decide +kernel
theorem dX10_doMeet_165 : decode cX10_doMeet 165 = .ok (.aload_n 0, 1) := by decide +kernel
theorem dX10_doMeet_166 : decode cX10_doMeet 166 = .ok (.iload_n 1, 1) := by decide +kernel
theorem dX10_doMeet_167 : decode cX10_doMeet 167 = .ok (.iload_n 2, 1) := by decide +kernel
theorem dX10_doMeet_168 : decode cX10_doMeet 168 = .ok (.iload_n 3, 1) := by decide +kernel
theorem dX10_doMeet_169 : decode cX10_doMeet 169 = .ok (.iload 4, 2) := by decide +kernel
theorem dX10_doMeet_171 : decode cX10_doMeet 171 = .ok (.invokevirtual 185, 3) := by decide +kernel
theorem dX10_doMeet_174 : decode cX10_doMeet 174 = .ok (.ireturn, 1) := by decide +kernel
theorem dX10_doMeet_175 : decode cX10_doMeet 175 = .ok (.iload 8, 2) := by decide +kernel
theorem dX10_doMeet_177 : decode cX10_doMeet 177 = .ok (.ifCond .le 8, 3) := by decide +kernel
theorem dX10_doMeet_180 : decode cX10_doMeet 180 = .ok (.iload 9, 2) := by decide +kernel
theorem dX10_doMeet_182 : decode cX10_doMeet 182 = .ok (.ifCond .lt 13, 3) := by decide +kernel
theorem dX10_doMeet_185 : decode cX10_doMeet 185 = .ok (.iload 8, 2) := by decide +kernel
theorem dX10_doMeet_187 : decode cX10_doMeet 187 = .ok (.ifCond .ge 32, 3) := by decide +kernel
theorem dX10_doMeet_190 : decode cX10_doMeet 190 = .ok (.iload 9, 2) := by decide +kernel
theorem dX10_doMeet_192 : decode cX10_doMeet 192 = .ok (.ifCond .le 27, 3) := by decide +kernel
theorem dX10_doMeet_195 : decode cX10_doMeet 195 = .ok (.iload 10, 2) := by decide +kernel
theorem dX10_doMeet_197 : decode cX10_doMeet 197 = .ok (.ifCond .le 8, 3) := by decide +kernel
theorem dX10_doMeet_200 : decode cX10_doMeet 200 = .ok (.iload 11, 2) := by decide +kernel
theorem dX10_doMeet_202 : decode cX10_doMeet 202 = .ok (.ifCond .lt 13, 3) := by decide +kernel
theorem dX10_doMeet_205 : decode cX10_doMeet 205 = .ok (.iload 10, 2) := by decide +kernel
theorem dX10_doMeet_207 : decode cX10_doMeet 207 = .ok (.ifCond .ge 12, 3) := by decide +kernel
theorem dX10_doMeet_210 : decode cX10_doMeet 210 = .ok (.iload 11, 2) := by decide +kernel
theorem dX10_doMeet_212 : decode cX10_doMeet 212 = .ok (.ifCond .le 7, 3) := by decide +kernel
theorem dX10_doMeet_215 : decode cX10_doMeet 215 = .ok (.iconst 1, 1) := by decide +kernel
theorem dX10_doMeet_216 : decode cX10_doMeet 216 = .ok (.goto 4, 3) := by decide +kernel
theorem dX10_doMeet_219 : decode cX10_doMeet 219 = .ok (.iconst 0, 1) := by decide +kernel
theorem dX10_doMeet_220 : decode cX10_doMeet 220 = .ok (.ireturn, 1) := by decide +kernel
theorem dX10_isLoose_0 : decode cX10_isLoose 0 = .ok (.aload_n 0, 1) := by decide +kernel
theorem dX10_isLoose_1 : decode cX10_isLoose 1 = .ok (.iload_n 1, 1) := by decide +kernel
theorem dX10_isLoose_2 : decode cX10_isLoose 2 = .ok (.iload_n 2, 1) := by decide +kernel
theorem dX10_isLoose_3 : decode cX10_isLoose 3 = .ok (.invokevirtual 164, 3) := by decide +kernel
theorem dX10_isLoose_6 : decode cX10_isLoose 6 = .ok (.ifCond .ne 16, 3) := by decide +kernel
theorem dX10_isLoose_9 : decode cX10_isLoose 9 = .ok (.aload_n 0, 1) := by decide +kernel
theorem dX10_isLoose_10 : decode cX10_isLoose 10 = .ok (.iload_n 1, 1) := by decide +kernel
theorem dX10_isLoose_11 : decode cX10_isLoose 11 = .ok (.iload_n 3, 1) := by decide +kernel
theorem dX10_isLoose_12 : decode cX10_isLoose 12 = .ok (.invokevirtual 164, 3) := by decide +kernel
theorem dX10_isLoose_15 : decode cX10_isLoose 15 = .ok (.ifCond .ne 7, 3) := by decide +kernel
theorem dX10_isLoose_18 : decode cX10_isLoose 18 = .ok (.iconst 1, 1) := by decide +kernel
theorem dX10_isLoose_19 : decode cX10_isLoose 19 = .ok (.goto 4, 3) := by decide +kernel
theorem dX10_isLoose_22 : decode cX10_isLoose 22 = .ok (.iconst 0, 1) := by decide +kernel
theorem dX10_isLoose_23 : decode cX10_isLoose 23 = .ok (.ireturn, 1) := by decide +kernel
theorem dX10_isLong_0 : decode cX10_isLong 0 = .ok (.aload_n 0, 1) := by decide +kernel
theorem dX10_isLong_1 : decode cX10_isLong 1 = .ok (.getfield 39, 3) := by decide +kernel
theorem dX10_isLong_4 : decode cX10_isLong 4 = .ok (.iload_n 1, 1) := by decide +kernel
theorem dX10_isLong_5 : decode cX10_isLong 5 = .ok (.iaload, 1) := by decide +kernel
theorem dX10_isLong_6 : decode cX10_isLong 6 = .ok (.aload_n 0, 1) := by decide +kernel
theorem dX10_isLong_7 : decode cX10_isLong 7 = .ok (.getfield 39, 3) := by decide +kernel
theorem dX10_isLong_10 : decode cX10_isLong 10 = .ok (.iload_n 2, 1) := by decide +kernel
theorem dX10_isLong_11 : decode cX10_isLong 11 = .ok (.iaload, 1) := by decide +kernel
theorem dX10_isLong_12 : decode cX10_isLong 12 = .ok (.aload_n 0, 1) := by decide +kernel
theorem dX10_isLong_13 : decode cX10_isLong 13 = .ok (.getfield 39, 3) := by decide +kernel
theorem dX10_isLong_16 : decode cX10_isLong 16 = .ok (.iload_n 3, 1) := by decide +kernel
theorem dX10_isLong_17 : decode cX10_isLong 17 = .ok (.iaload, 1) := by decide +kernel
theorem dX10_isLong_18 : decode cX10_isLong 18 = .ok (.aload_n 0, 1) := by decide +kernel
theorem dX10_isLong_19 : decode cX10_isLong 19 = .ok (.getfield 39, 3) := by decide +kernel
theorem dX10_isLong_22 : decode cX10_isLong 22 = .ok (.iload 4, 2) := by decide +kernel
theorem dX10_isLong_24 : decode cX10_isLong 24 = .ok (.iaload, 1) := by decide +kernel
theorem dX10_isLong_25 : decode cX10_isLong 25 = .ok (.invokestatic 188, 3) := by decide +kernel
theorem dX10_isLong_28 : decode cX10_isLong 28 = .ok (.ifCond .gt 34, 3) := by decide +kernel
theorem dX10_isLong_31 : decode cX10_isLong 31 = .ok (.aload_n 0, 1) := by decide +kernel
theorem dX10_isLong_32 : decode cX10_isLong 32 = .ok (.getfield 42, 3) := by decide +kernel
theorem dX10_isLong_35 : decode cX10_isLong 35 = .ok (.iload_n 1, 1) := by decide +kernel
theorem dX10_isLong_36 : decode cX10_isLong 36 = .ok (.iaload, 1) := by decide +kernel
theorem dX10_isLong_37 : decode cX10_isLong 37 = .ok (.aload_n 0, 1) := by decide +kernel
theorem dX10_isLong_38 : decode cX10_isLong 38 = .ok (.getfield 42, 3) := by decide +kernel
theorem dX10_isLong_41 : decode cX10_isLong 41 = .ok (.iload_n 2, 1) := by decide +kernel
theorem dX10_isLong_42 : decode cX10_isLong 42 = .ok (.iaload, 1) := by decide +kernel
theorem dX10_isLong_43 : decode cX10_isLong 43 = .ok (.aload_n 0, 1) := by decide +kernel
theorem dX10_isLong_44 : decode cX10_isLong 44 = .ok (.getfield 42, 3) := by decide +kernel
theorem dX10_isLong_47 : decode cX10_isLong 47 = .ok (.iload_n 3, 1) := by decide +kernel
theorem dX10_isLong_48 : decode cX10_isLong 48 = .ok (.iaload, 1) := by decide +kernel
theorem dX10_isLong_49 : decode cX10_isLong 49 = .ok (.aload_n 0, 1) := by decide +kernel
theorem dX10_isLong_50 : decode cX10_isLong 50 = .ok (.getfield 42, 3) := by decide +kernel
theorem dX10_isLong_53 : decode cX10_isLong 53 = .ok (.iload 4, 2) := by decide +kernel
theorem dX10_isLong_55 : decode cX10_isLong 55 = .ok (.iaload, 1) := by decide +kernel
theorem dX10_isLong_56 : decode cX10_isLong 56 = .ok (.invokestatic 188, 3) := by decide +kernel
theorem dX10_isLong_59 : decode cX10_isLong 59 = .ok (.ifCond .le 7, 3) := by decide +kernel
theorem dX10_isLong_62 : decode cX10_isLong 62 = .ok (.iconst 1, 1) := by decide +kernel
theorem dX10_isLong_63 : decode cX10_isLong 63 = .ok (.goto 4, 3) := by decide +kernel
theorem dX10_isLong_66 : decode cX10_isLong 66 = .ok (.iconst 0, 1) := by decide +kernel
theorem dX10_isLong_67 : decode cX10_isLong 67 = .ok (.ireturn, 1) := by decide +kernel
theorem dX10_common_0 : decode cX10_common 0 = .ok (.iload_n 0, 1) := by decide +kernel
theorem dX10_common_1 : decode cX10_common 1 = .ok (.iload_n 1, 1) := by decide +kernel
theorem dX10_common_2 : decode cX10_common 2 = .ok (.if_icmp .ge 7, 3) := by decide +kernel
theorem dX10_common_5 : decode cX10_common 5 = .ok (.iload_n 0, 1) := by decide +kernel
theorem dX10_common_6 : decode cX10_common 6 = .ok (.goto 4, 3) := by decide +kernel
theorem dX10_common_9 : decode cX10_common 9 = .ok (.iload_n 1, 1) := by decide +kernel
theorem dX10_common_10 : decode cX10_common 10 = .ok (.istore 4, 2) := by decide +kernel
theorem dX10_common_12 : decode cX10_common 12 = .ok (.iload_n 2, 1) := by decide +kernel
theorem dX10_common_13 : decode cX10_common 13 = .ok (.iload_n 3, 1) := by decide +kernel
theorem dX10_common_14 : decode cX10_common 14 = .ok (.if_icmp .ge 7, 3) := by decide +kernel
theorem dX10_common_17 : decode cX10_common 17 = .ok (.iload_n 2, 1) := by decide +kernel
theorem dX10_common_18 : decode cX10_common 18 = .ok (.goto 4, 3) := by decide +kernel
theorem dX10_common_21 : decode cX10_common 21 = .ok (.iload_n 3, 1) := by decide +kernel
theorem dX10_common_22 : decode cX10_common 22 = .ok (.istore 5, 2) := by decide +kernel
theorem dX10_common_24 : decode cX10_common 24 = .ok (.iload_n 0, 1) := by decide +kernel
theorem dX10_common_25 : decode cX10_common 25 = .ok (.iload_n 1, 1) := by decide +kernel
theorem dX10_common_26 : decode cX10_common 26 = .ok (.iadd, 1) := by decide +kernel
theorem dX10_common_27 : decode cX10_common 27 = .ok (.iload 4, 2) := by decide +kernel
theorem dX10_common_29 : decode cX10_common 29 = .ok (.isub, 1) := by decide +kernel
theorem dX10_common_30 : decode cX10_common 30 = .ok (.istore 6, 2) := by decide +kernel
theorem dX10_common_32 : decode cX10_common 32 = .ok (.iload_n 2, 1) := by decide +kernel
theorem dX10_common_33 : decode cX10_common 33 = .ok (.iload_n 3, 1) := by decide +kernel
theorem dX10_common_34 : decode cX10_common 34 = .ok (.iadd, 1) := by decide +kernel
theorem dX10_common_35 : decode cX10_common 35 = .ok (.iload 5, 2) := by decide +kernel
theorem dX10_common_37 : decode cX10_common 37 = .ok (.isub, 1) := by decide +kernel
theorem dX10_common_38 : decode cX10_common 38 = .ok (.istore 7, 2) := by decide +kernel
theorem dX10_common_40 : decode cX10_common 40 = .ok (.iload 6, 2) := by decide +kernel
theorem dX10_common_42 : decode cX10_common 42 = .ok (.iload 7, 2) := by decide +kernel
theorem dX10_common_44 : decode cX10_common 44 = .ok (.if_icmp .ge 8, 3) := by decide +kernel
theorem dX10_common_47 : decode cX10_common 47 = .ok (.iload 6, 2) := by decide +kernel
theorem dX10_common_49 : decode cX10_common 49 = .ok (.goto 5, 3) := by decide +kernel
theorem dX10_common_52 : decode cX10_common 52 = .ok (.iload 7, 2) := by decide +kernel
theorem dX10_common_54 : decode cX10_common 54 = .ok (.iload 4, 2) := by decide +kernel
theorem dX10_common_56 : decode cX10_common 56 = .ok (.iload 5, 2) := by decide +kernel
theorem dX10_common_58 : decode cX10_common 58 = .ok (.if_icmp .le 8, 3) := by decide +kernel
theorem dX10_common_61 : decode cX10_common 61 = .ok (.iload 4, 2) := by decide +kernel
theorem dX10_common_63 : decode cX10_common 63 = .ok (.goto 5, 3) := by decide +kernel
theorem dX10_common_66 : decode cX10_common 66 = .ok (.iload 5, 2) := by decide +kernel
theorem dX10_common_68 : decode cX10_common 68 = .ok (.isub, 1) := by decide +kernel
theorem dX10_common_69 : decode cX10_common 69 = .ok (.ireturn, 1) := by decide +kernel
theorem dX10_isBarred_0 : decode cX10_isBarred 0 = .ok (.iconst 0, 1) := by decide +kernel
theorem dX10_isBarred_1 : decode cX10_isBarred 1 = .ok (.istore 5, 2) := by decide +kernel
theorem dX10_isBarred_3 : decode cX10_isBarred 3 = .ok (.iload 5, 2) := by decide +kernel
theorem dX10_isBarred_5 : decode cX10_isBarred 5 = .ok (.aload_n 0, 1) := by decide +kernel
theorem dX10_isBarred_6 : decode cX10_isBarred 6 = .ok (.getfield 71, 3) := by decide +kernel
theorem dX10_isBarred_9 : decode cX10_isBarred 9 = .ok (.if_icmp .ge 102, 3) := by decide +kernel
theorem dX10_isBarred_12 : decode cX10_isBarred 12 = .ok (.aload_n 0, 1) := by decide +kernel
theorem dX10_isBarred_13 : decode cX10_isBarred 13 = .ok (.getfield 24, 3) := by decide +kernel
theorem dX10_isBarred_16 : decode cX10_isBarred 16 = .ok (.iload 5, 2) := by decide +kernel
theorem dX10_isBarred_18 : decode cX10_isBarred 18 = .ok (.iaload, 1) := by decide +kernel
theorem dX10_isBarred_19 : decode cX10_isBarred 19 = .ok (.istore 6, 2) := by decide +kernel
theorem dX10_isBarred_21 : decode cX10_isBarred 21 = .ok (.iload 6, 2) := by decide +kernel
theorem dX10_isBarred_23 : decode cX10_isBarred 23 = .ok (.aload_n 0, 1) := by decide +kernel
theorem dX10_isBarred_24 : decode cX10_isBarred 24 = .ok (.iload 5, 2) := by decide +kernel
theorem dX10_isBarred_26 : decode cX10_isBarred 26 = .ok (.invokevirtual 141, 3) := by decide +kernel
theorem dX10_isBarred_29 : decode cX10_isBarred 29 = .ok (.if_icmp .ge 76, 3) := by decide +kernel
theorem dX10_isBarred_32 : decode cX10_isBarred 32 = .ok (.aload_n 0, 1) := by decide +kernel
theorem dX10_isBarred_33 : decode cX10_isBarred 33 = .ok (.getfield 45, 3) := by decide +kernel
theorem dX10_isBarred_36 : decode cX10_isBarred 36 = .ok (.iload 6, 2) := by decide +kernel
theorem dX10_isBarred_38 : decode cX10_isBarred 38 = .ok (.baload, 1) := by decide +kernel
theorem dX10_isBarred_39 : decode cX10_isBarred 39 = .ok (.ifCond .eq 60, 3) := by decide +kernel
theorem dX10_isBarred_42 : decode cX10_isBarred 42 = .ok (.iload 5, 2) := by decide +kernel
theorem dX10_isBarred_44 : decode cX10_isBarred 44 = .ok (.iload_n 1, 1) := by decide +kernel
theorem dX10_isBarred_45 : decode cX10_isBarred 45 = .ok (.if_icmp .ne 9, 3) := by decide +kernel
theorem dX10_isBarred_48 : decode cX10_isBarred 48 = .ok (.iload 6, 2) := by decide +kernel
theorem dX10_isBarred_50 : decode cX10_isBarred 50 = .ok (.iload_n 2, 1) := by decide +kernel
theorem dX10_isBarred_51 : decode cX10_isBarred 51 = .ok (.if_icmp .eq 48, 3) := by decide +kernel
theorem dX10_isBarred_54 : decode cX10_isBarred 54 = .ok (.aload_n 0, 1) := by decide +kernel
theorem dX10_isBarred_55 : decode cX10_isBarred 55 = .ok (.iload 5, 2) := by decide +kernel
theorem dX10_isBarred_57 : decode cX10_isBarred 57 = .ok (.iload 6, 2) := by decide +kernel
theorem dX10_isBarred_59 : decode cX10_isBarred 59 = .ok (.invokevirtual 148, 3) := by decide +kernel
theorem dX10_isBarred_62 : decode cX10_isBarred 62 = .ok (.istore 7, 2) := by decide +kernel
theorem dX10_isBarred_64 : decode cX10_isBarred 64 = .ok (.aload_n 0, 1) := by decide +kernel
theorem dX10_isBarred_65 : decode cX10_isBarred 65 = .ok (.iload 6, 2) := by decide +kernel
theorem dX10_isBarred_67 : decode cX10_isBarred 67 = .ok (.iload 7, 2) := by decide +kernel
theorem dX10_isBarred_69 : decode cX10_isBarred 69 = .ok (.iload_n 2, 1) := by decide +kernel
theorem dX10_isBarred_70 : decode cX10_isBarred 70 = .ok (.iload_n 3, 1) := by decide +kernel
theorem dX10_isBarred_71 : decode cX10_isBarred 71 = .ok (.iload_n 2, 1) := by decide +kernel
theorem dX10_isBarred_72 : decode cX10_isBarred 72 = .ok (.iload 4, 2) := by decide +kernel
theorem dX10_isBarred_74 : decode cX10_isBarred 74 = .ok (.invokevirtual 192, 3) := by decide +kernel
theorem dX10_isBarred_77 : decode cX10_isBarred 77 = .ok (.ifCond .ne 20, 3) := by decide +kernel
theorem dX10_isBarred_80 : decode cX10_isBarred 80 = .ok (.aload_n 0, 1) := by decide +kernel
theorem dX10_isBarred_81 : decode cX10_isBarred 81 = .ok (.iload 6, 2) := by decide +kernel
theorem dX10_isBarred_83 : decode cX10_isBarred 83 = .ok (.iload 7, 2) := by decide +kernel
theorem dX10_isBarred_85 : decode cX10_isBarred 85 = .ok (.iload_n 3, 1) := by decide +kernel
theorem dX10_isBarred_86 : decode cX10_isBarred 86 = .ok (.iload 4, 2) := by decide +kernel
theorem dX10_isBarred_88 : decode cX10_isBarred 88 = .ok (.iload_n 2, 1) := by decide +kernel
theorem dX10_isBarred_89 : decode cX10_isBarred 89 = .ok (.iload 4, 2) := by decide +kernel
theorem dX10_isBarred_91 : decode cX10_isBarred 91 = .ok (.invokevirtual 192, 3) := by decide +kernel
theorem dX10_isBarred_94 : decode cX10_isBarred 94 = .ok (.ifCond .eq 5, 3) := by decide +kernel
theorem dX10_isBarred_97 : decode cX10_isBarred 97 = .ok (.iconst 1, 1) := by decide +kernel
theorem dX10_isBarred_98 : decode cX10_isBarred 98 = .ok (.ireturn, 1) := by decide +kernel
theorem dX10_isBarred_99 : decode cX10_isBarred 99 = .ok (.iinc 6 1, 3) := by decide +kernel
theorem dX10_isBarred_102 : decode cX10_isBarred 102 = .ok (.goto (-81), 3) := by decide +kernel
theorem dX10_isBarred_105 : decode cX10_isBarred 105 = .ok (.iinc 5 1, 3) := by decide +kernel
theorem dX10_isBarred_108 : decode cX10_isBarred 108 = .ok (.goto (-105), 3) := by decide +kernel
theorem dX10_isBarred_111 : decode cX10_isBarred 111 = .ok (.iconst 0, 1) := by decide +kernel
theorem dX10_isBarred_112 : decode cX10_isBarred 112 = .ok (.ireturn, 1) := by decide +kernel
theorem dX10_canInsert_0 : decode cX10_canInsert 0 = .ok (.aload_n 0, 1) := by decide +kernel
theorem dX10_canInsert_1 : decode cX10_canInsert 1 = .ok (.iload_n 1, 1) := by decide +kernel
theorem dX10_canInsert_2 : decode cX10_canInsert 2 = .ok (.iload_n 2, 1) := by decide +kernel
theorem dX10_canInsert_3 : decode cX10_canInsert 3 = .ok (.invokevirtual 170, 3) := by decide +kernel
theorem dX10_canInsert_6 : decode cX10_canInsert 6 = .ok (.istore_n 3, 1) := by decide +kernel
theorem dX10_canInsert_7 : decode cX10_canInsert 7 = .ok (.aload_n 0, 1) := by decide +kernel
theorem dX10_canInsert_8 : decode cX10_canInsert 8 = .ok (.iload_n 1, 1) := by decide +kernel
theorem dX10_canInsert_9 : decode cX10_canInsert 9 = .ok (.iload_n 2, 1) := by decide +kernel
theorem dX10_canInsert_10 : decode cX10_canInsert 10 = .ok (.invokevirtual 148, 3) := by decide +kernel
theorem dX10_canInsert_13 : decode cX10_canInsert 13 = .ok (.istore 4, 2) := by decide +kernel
theorem dX10_canInsert_15 : decode cX10_canInsert 15 = .ok (.aload_n 0, 1) := by decide +kernel
theorem dX10_canInsert_16 : decode cX10_canInsert 16 = .ok (.iload_n 3, 1) := by decide +kernel
theorem dX10_canInsert_17 : decode cX10_canInsert 17 = .ok (.iload 4, 2) := by decide +kernel
theorem dX10_canInsert_19 : decode cX10_canInsert 19 = .ok (.iload_n 2, 1) := by decide +kernel
theorem dX10_canInsert_20 : decode cX10_canInsert 20 = .ok (.invokevirtual 155, 3) := by decide +kernel
theorem dX10_canInsert_23 : decode cX10_canInsert 23 = .ok (.ifCond .ne 16, 3) := by decide +kernel
theorem dX10_canInsert_26 : decode cX10_canInsert 26 = .ok (.aload_n 0, 1) := by decide +kernel
theorem dX10_canInsert_27 : decode cX10_canInsert 27 = .ok (.iload_n 3, 1) := by decide +kernel
theorem dX10_canInsert_28 : decode cX10_canInsert 28 = .ok (.iload 4, 2) := by decide +kernel
theorem dX10_canInsert_30 : decode cX10_canInsert 30 = .ok (.iload_n 2, 1) := by decide +kernel
theorem dX10_canInsert_31 : decode cX10_canInsert 31 = .ok (.invokevirtual 161, 3) := by decide +kernel
theorem dX10_canInsert_34 : decode cX10_canInsert 34 = .ok (.ifCond .ne 5, 3) := by decide +kernel
theorem dX10_canInsert_37 : decode cX10_canInsert 37 = .ok (.iconst 0, 1) := by decide +kernel
theorem dX10_canInsert_38 : decode cX10_canInsert 38 = .ok (.ireturn, 1) := by decide +kernel
theorem dX10_canInsert_39 : decode cX10_canInsert 39 = .ok (.aload_n 0, 1) := by decide +kernel
theorem dX10_canInsert_40 : decode cX10_canInsert 40 = .ok (.iload_n 3, 1) := by decide +kernel
theorem dX10_canInsert_41 : decode cX10_canInsert 41 = .ok (.iload_n 2, 1) := by decide +kernel
theorem dX10_canInsert_42 : decode cX10_canInsert 42 = .ok (.iload 4, 2) := by decide +kernel
theorem dX10_canInsert_44 : decode cX10_canInsert 44 = .ok (.invokevirtual 176, 3) := by decide +kernel
theorem dX10_canInsert_47 : decode cX10_canInsert 47 = .ok (.ifCond .eq 19, 3) := by decide +kernel
theorem dX10_canInsert_50 : decode cX10_canInsert 50 = .ok (.aload_n 0, 1) := by decide +kernel
theorem dX10_canInsert_51 : decode cX10_canInsert 51 = .ok (.iload_n 1, 1) := by decide +kernel
theorem dX10_canInsert_52 : decode cX10_canInsert 52 = .ok (.iload_n 3, 1) := by decide +kernel
theorem dX10_canInsert_53 : decode cX10_canInsert 53 = .ok (.iload_n 2, 1) := by decide +kernel
theorem dX10_canInsert_54 : decode cX10_canInsert 54 = .ok (.iload 4, 2) := by decide +kernel
theorem dX10_canInsert_56 : decode cX10_canInsert 56 = .ok (.invokevirtual 196, 3) := by decide +kernel
theorem dX10_canInsert_59 : decode cX10_canInsert 59 = .ok (.ifCond .ne 7, 3) := by decide +kernel
theorem dX10_canInsert_62 : decode cX10_canInsert 62 = .ok (.iconst 1, 1) := by decide +kernel
theorem dX10_canInsert_63 : decode cX10_canInsert 63 = .ok (.goto 4, 3) := by decide +kernel
theorem dX10_canInsert_66 : decode cX10_canInsert 66 = .ok (.iconst 0, 1) := by decide +kernel
theorem dX10_canInsert_67 : decode cX10_canInsert 67 = .ok (.ireturn, 1) := by decide +kernel
theorem dX10_doStep_0 : decode cX10_doStep 0 = .ok (.aload_n 0, 1) := by decide +kernel
theorem dX10_doStep_1 : decode cX10_doStep 1 = .ok (.getfield 77, 3) := by decide +kernel
theorem dX10_doStep_4 : decode cX10_doStep 4 = .ok (.sipush 600, 3) := by decide +kernel
theorem dX10_doStep_7 : decode cX10_doStep 7 = .ok (.if_icmp .ne 43, 3) := by decide +kernel
theorem dX10_doStep_10 : decode cX10_doStep 10 = .ok (.aload_n 0, 1) := by decide +kernel
theorem dX10_doStep_11 : decode cX10_doStep 11 = .ok (.dup, 1) := by decide +kernel
theorem dX10_doStep_12 : decode cX10_doStep 12 = .ok (.getfield 77, 3) := by decide +kernel
theorem dX10_doStep_15 : decode cX10_doStep 15 = .ok (.iconst 1, 1) := by decide +kernel
theorem dX10_doStep_16 : decode cX10_doStep 16 = .ok (.isub, 1) := by decide +kernel
theorem dX10_doStep_17 : decode cX10_doStep 17 = .ok (.putfield 77, 3) := by decide +kernel
theorem dX10_doStep_20 : decode cX10_doStep 20 = .ok (.iconst 0, 1) := by decide +kernel
theorem dX10_doStep_21 : decode cX10_doStep 21 = .ok (.istore_n 2, 1) := by decide +kernel
theorem dX10_doStep_22 : decode cX10_doStep 22 = .ok (.iload_n 2, 1) := by decide +kernel
theorem dX10_doStep_23 : decode cX10_doStep 23 = .ok (.aload_n 0, 1) := by decide +kernel
theorem dX10_doStep_24 : decode cX10_doStep 24 = .ok (.getfield 77, 3) := by decide +kernel
theorem dX10_doStep_27 : decode cX10_doStep 27 = .ok (.if_icmp .ge 23, 3) := by decide +kernel
theorem dX10_doStep_30 : decode cX10_doStep 30 = .ok (.aload_n 0, 1) := by decide +kernel
theorem dX10_doStep_31 : decode cX10_doStep 31 = .ok (.getfield 51, 3) := by decide +kernel
theorem dX10_doStep_34 : decode cX10_doStep 34 = .ok (.iload_n 2, 1) := by decide +kernel
theorem dX10_doStep_35 : decode cX10_doStep 35 = .ok (.aload_n 0, 1) := by decide +kernel
theorem dX10_doStep_36 : decode cX10_doStep 36 = .ok (.getfield 51, 3) := by decide +kernel
theorem dX10_doStep_39 : decode cX10_doStep 39 = .ok (.iload_n 2, 1) := by decide +kernel
theorem dX10_doStep_40 : decode cX10_doStep 40 = .ok (.iconst 1, 1) := by decide +kernel
theorem dX10_doStep_41 : decode cX10_doStep 41 = .ok (.iadd, 1) := by decide +kernel
theorem dX10_doStep_42 : decode cX10_doStep 42 = .ok (.iaload, 1) := by decide +kernel
theorem dX10_doStep_43 : decode cX10_doStep 43 = .ok (.iastore, 1) := by decide +kernel
theorem dX10_doStep_44 : decode cX10_doStep 44 = .ok (.iinc 2 1, 3) := by decide +kernel
theorem dX10_doStep_47 : decode cX10_doStep 47 = .ok (.goto (-25), 3) := by decide +kernel
theorem dX10_doStep_50 : decode cX10_doStep 50 = .ok (.aload_n 0, 1) := by decide +kernel
theorem dX10_doStep_51 : decode cX10_doStep 51 = .ok (.getfield 51, 3) := by decide +kernel
theorem dX10_doStep_54 : decode cX10_doStep 54 = .ok (.aload_n 0, 1) := by decide +kernel
theorem dX10_doStep_55 : decode cX10_doStep 55 = .ok (.getfield 77, 3) := by decide +kernel
theorem dX10_doStep_58 : decode cX10_doStep 58 = .ok (.iload_n 1, 1) := by decide +kernel
theorem dX10_doStep_59 : decode cX10_doStep 59 = .ok (.iastore, 1) := by decide +kernel
theorem dX10_doStep_60 : decode cX10_doStep 60 = .ok (.aload_n 0, 1) := by decide +kernel
theorem dX10_doStep_61 : decode cX10_doStep 61 = .ok (.dup, 1) := by decide +kernel
theorem dX10_doStep_62 : decode cX10_doStep 62 = .ok (.getfield 77, 3) := by decide +kernel
theorem dX10_doStep_65 : decode cX10_doStep 65 = .ok (.iconst 1, 1) := by decide +kernel
theorem dX10_doStep_66 : decode cX10_doStep 66 = .ok (.iadd, 1) := by decide +kernel
theorem dX10_doStep_67 : decode cX10_doStep 67 = .ok (.putfield 77, 3) := by decide +kernel
theorem dX10_doStep_70 : decode cX10_doStep 70 = .ok (.aload_n 0, 1) := by decide +kernel
theorem dX10_doStep_71 : decode cX10_doStep 71 = .ok (.getfield 45, 3) := by decide +kernel
theorem dX10_doStep_74 : decode cX10_doStep 74 = .ok (.iload_n 1, 1) := by decide +kernel
theorem dX10_doStep_75 : decode cX10_doStep 75 = .ok (.aload_n 0, 1) := by decide +kernel
theorem dX10_doStep_76 : decode cX10_doStep 76 = .ok (.getfield 45, 3) := by decide +kernel
theorem dX10_doStep_79 : decode cX10_doStep 79 = .ok (.iload_n 1, 1) := by decide +kernel
theorem dX10_doStep_80 : decode cX10_doStep 80 = .ok (.baload, 1) := by decide +kernel
theorem dX10_doStep_81 : decode cX10_doStep 81 = .ok (.ifCond .ne 7, 3) := by decide +kernel
theorem dX10_doStep_84 : decode cX10_doStep 84 = .ok (.iconst 1, 1) := by decide +kernel
theorem dX10_doStep_85 : decode cX10_doStep 85 = .ok (.goto 4, 3) := by decide +kernel
theorem dX10_doStep_88 : decode cX10_doStep 88 = .ok (.iconst 0, 1) := by decide +kernel
theorem dX10_doStep_89 : decode cX10_doStep 89 = .ok (.bastore, 1) := by decide +kernel
theorem dX10_doStep_90 : decode cX10_doStep 90 = .ok (.return_, 1) := by decide +kernel
theorem dX10_contourAt_0 : decode cX10_contourAt 0 = .ok (.iconst 0, 1) := by decide +kernel
theorem dX10_contourAt_1 : decode cX10_contourAt 1 = .ok (.istore_n 2, 1) := by decide +kernel
theorem dX10_contourAt_2 : decode cX10_contourAt 2 = .ok (.iload_n 1, 1) := by decide +kernel
theorem dX10_contourAt_3 : decode cX10_contourAt 3 = .ok (.aload_n 0, 1) := by decide +kernel
theorem dX10_contourAt_4 : decode cX10_contourAt 4 = .ok (.iload_n 2, 1) := by decide +kernel
theorem dX10_contourAt_5 : decode cX10_contourAt 5 = .ok (.invokevirtual 141, 3) := by decide +kernel
theorem dX10_contourAt_8 : decode cX10_contourAt 8 = .ok (.if_icmp .lt 9, 3) := by decide +kernel
theorem dX10_contourAt_11 : decode cX10_contourAt 11 = .ok (.iinc 2 1, 3) := by decide +kernel
theorem dX10_contourAt_14 : decode cX10_contourAt 14 = .ok (.goto (-12), 3) := by decide +kernel
theorem dX10_contourAt_17 : decode cX10_contourAt 17 = .ok (.iload_n 2, 1) := by decide +kernel
theorem dX10_contourAt_18 : decode cX10_contourAt 18 = .ok (.ireturn, 1) := by decide +kernel
theorem dX10_findNext_0 : decode cX10_findNext 0 = .ok (.iconst (-1), 1) := by decide +kernel
theorem dX10_findNext_1 : decode cX10_findNext 1 = .ok (.istore_n 1, 1) := by decide +kernel
theorem dX10_findNext_2 : decode cX10_findNext 2 = .ok (.iconst 0, 1) := by decide +kernel
theorem dX10_findNext_3 : decode cX10_findNext 3 = .ok (.istore_n 2, 1) := by decide +kernel
theorem dX10_findNext_4 : decode cX10_findNext 4 = .ok (.iconst 0, 1) := by decide +kernel
theorem dX10_findNext_5 : decode cX10_findNext 5 = .ok (.istore_n 3, 1) := by decide +kernel
theorem dX10_findNext_6 : decode cX10_findNext 6 = .ok (.iload_n 3, 1) := by decide +kernel
theorem dX10_findNext_7 : decode cX10_findNext 7 = .ok (.aload_n 0, 1) := by decide +kernel
theorem dX10_findNext_8 : decode cX10_findNext 8 = .ok (.getfield 71, 3) := by decide +kernel
theorem dX10_findNext_11 : decode cX10_findNext 11 = .ok (.if_icmp .ge 112, 3) := by decide +kernel
theorem dX10_findNext_14 : decode cX10_findNext 14 = .ok (.aload_n 0, 1) := by decide +kernel
theorem dX10_findNext_15 : decode cX10_findNext 15 = .ok (.getfield 24, 3) := by decide +kernel
theorem dX10_findNext_18 : decode cX10_findNext 18 = .ok (.iload_n 3, 1) := by decide +kernel
theorem dX10_findNext_19 : decode cX10_findNext 19 = .ok (.iaload, 1) := by decide +kernel
theorem dX10_findNext_20 : decode cX10_findNext 20 = .ok (.istore 4, 2) := by decide +kernel
theorem dX10_findNext_22 : decode cX10_findNext 22 = .ok (.iload 4, 2) := by decide +kernel
theorem dX10_findNext_24 : decode cX10_findNext 24 = .ok (.aload_n 0, 1) := by decide +kernel
theorem dX10_findNext_25 : decode cX10_findNext 25 = .ok (.iload_n 3, 1) := by decide +kernel
theorem dX10_findNext_26 : decode cX10_findNext 26 = .ok (.invokevirtual 141, 3) := by decide +kernel
theorem dX10_findNext_29 : decode cX10_findNext 29 = .ok (.if_icmp .ge 88, 3) := by decide +kernel
theorem dX10_findNext_32 : decode cX10_findNext 32 = .ok (.aload_n 0, 1) := by decide +kernel
theorem dX10_findNext_33 : decode cX10_findNext 33 = .ok (.getfield 45, 3) := by decide +kernel
theorem dX10_findNext_36 : decode cX10_findNext 36 = .ok (.iload 4, 2) := by decide +kernel
theorem dX10_findNext_38 : decode cX10_findNext 38 = .ok (.baload, 1) := by decide +kernel
theorem dX10_findNext_39 : decode cX10_findNext 39 = .ok (.ifCond .eq 13, 3) := by decide +kernel
theorem dX10_findNext_42 : decode cX10_findNext 42 = .ok (.aload_n 0, 1) := by decide +kernel
theorem dX10_findNext_43 : decode cX10_findNext 43 = .ok (.iload_n 3, 1) := by decide +kernel
theorem dX10_findNext_44 : decode cX10_findNext 44 = .ok (.iload 4, 2) := by decide +kernel
theorem dX10_findNext_46 : decode cX10_findNext 46 = .ok (.invokevirtual 199, 3) := by decide +kernel
theorem dX10_findNext_49 : decode cX10_findNext 49 = .ok (.goto 4, 3) := by decide +kernel
theorem dX10_findNext_52 : decode cX10_findNext 52 = .ok (.iconst (-1), 1) := by decide +kernel
theorem dX10_findNext_53 : decode cX10_findNext 53 = .ok (.istore 5, 2) := by decide +kernel
theorem dX10_findNext_55 : decode cX10_findNext 55 = .ok (.iload 5, 2) := by decide +kernel
theorem dX10_findNext_57 : decode cX10_findNext 57 = .ok (.ifCond .lt 27, 3) := by decide +kernel
theorem dX10_findNext_60 : decode cX10_findNext 60 = .ok (.iload_n 1, 1) := by decide +kernel
theorem dX10_findNext_61 : decode cX10_findNext 61 = .ok (.ifCond .lt 9, 3) := by decide +kernel
theorem dX10_findNext_64 : decode cX10_findNext 64 = .ok (.iload 5, 2) := by decide +kernel
theorem dX10_findNext_66 : decode cX10_findNext 66 = .ok (.iload_n 2, 1) := by decide +kernel
theorem dX10_findNext_67 : decode cX10_findNext 67 = .ok (.if_icmp .ge 17, 3) := by decide +kernel
theorem dX10_findNext_70 : decode cX10_findNext 70 = .ok (.aload_n 0, 1) := by decide +kernel
theorem dX10_findNext_71 : decode cX10_findNext 71 = .ok (.iload_n 3, 1) := by decide +kernel
theorem dX10_findNext_72 : decode cX10_findNext 72 = .ok (.iload 4, 2) := by decide +kernel
theorem dX10_findNext_74 : decode cX10_findNext 74 = .ok (.invokevirtual 202, 3) := by decide +kernel
theorem dX10_findNext_77 : decode cX10_findNext 77 = .ok (.ifCond .eq 7, 3) := by decide +kernel
theorem dX10_findNext_80 : decode cX10_findNext 80 = .ok (.iconst 1, 1) := by decide +kernel
theorem dX10_findNext_81 : decode cX10_findNext 81 = .ok (.goto 4, 3) := by decide +kernel
theorem dX10_findNext_84 : decode cX10_findNext 84 = .ok (.iconst 0, 1) := by decide +kernel
theorem dX10_findNext_85 : decode cX10_findNext 85 = .ok (.istore 6, 2) := by decide +kernel
theorem dX10_findNext_87 : decode cX10_findNext 87 = .ok (.iload 6, 2) := by decide +kernel
theorem dX10_findNext_89 : decode cX10_findNext 89 = .ok (.ifCond .eq 8, 3) := by decide +kernel
theorem dX10_findNext_92 : decode cX10_findNext 92 = .ok (.iload 4, 2) := by decide +kernel
theorem dX10_findNext_94 : decode cX10_findNext 94 = .ok (.goto 4, 3) := by decide +kernel
theorem dX10_findNext_97 : decode cX10_findNext 97 = .ok (.iload_n 1, 1) := by decide +kernel
theorem dX10_findNext_98 : decode cX10_findNext 98 = .ok (.istore_n 1, 1) := by decide +kernel
theorem dX10_findNext_99 : decode cX10_findNext 99 = .ok (.iload 6, 2) := by decide +kernel
theorem dX10_findNext_101 : decode cX10_findNext 101 = .ok (.ifCond .eq 8, 3) := by decide +kernel
theorem dX10_findNext_104 : decode cX10_findNext 104 = .ok (.iload 5, 2) := by decide +kernel
theorem dX10_findNext_106 : decode cX10_findNext 106 = .ok (.goto 4, 3) := by decide +kernel
theorem dX10_findNext_109 : decode cX10_findNext 109 = .ok (.iload_n 2, 1) := by decide +kernel
theorem dX10_findNext_110 : decode cX10_findNext 110 = .ok (.istore_n 2, 1) := by decide +kernel
theorem dX10_findNext_111 : decode cX10_findNext 111 = .ok (.iinc 4 1, 3) := by decide +kernel
theorem dX10_findNext_114 : decode cX10_findNext 114 = .ok (.goto (-92), 3) := by decide +kernel
theorem dX10_findNext_117 : decode cX10_findNext 117 = .ok (.iinc 3 1, 3) := by decide +kernel
theorem dX10_findNext_120 : decode cX10_findNext 120 = .ok (.goto (-114), 3) := by decide +kernel
theorem dX10_findNext_123 : decode cX10_findNext 123 = .ok (.iload_n 1, 1) := by decide +kernel
theorem dX10_findNext_124 : decode cX10_findNext 124 = .ok (.ireturn, 1) := by decide +kernel
theorem dX10_noContour_0 : decode cX10_noContour 0 = .ok (.iload_n 1, 1) := by decide +kernel
theorem dX10_noContour_1 : decode cX10_noContour 1 = .ok (.iconst 0, 1) := by decide +kernel
theorem dX10_noContour_2 : decode cX10_noContour 2 = .ok (.aload_n 0, 1) := by decide +kernel
theorem dX10_noContour_3 : decode cX10_noContour 3 = .ok (.getfield 71, 3) := by decide +kernel
theorem dX10_noContour_6 : decode cX10_noContour 6 = .ok (.iconst 1, 1) := by decide +kernel
theorem dX10_noContour_7 : decode cX10_noContour 7 = .ok (.isub, 1) := by decide +kernel
theorem dX10_noContour_8 : decode cX10_noContour 8 = .ok (.invokestatic 67, 3) := by decide +kernel
theorem dX10_noContour_11 : decode cX10_noContour 11 = .ok (.ifCond .ne 7, 3) := by decide +kernel
theorem dX10_noContour_14 : decode cX10_noContour 14 = .ok (.iconst 1, 1) := by decide +kernel
theorem dX10_noContour_15 : decode cX10_noContour 15 = .ok (.goto 4, 3) := by decide +kernel
theorem dX10_noContour_18 : decode cX10_noContour 18 = .ok (.iconst 0, 1) := by decide +kernel
theorem dX10_noContour_19 : decode cX10_noContour 19 = .ok (.ireturn, 1) := by decide +kernel
theorem dX10_noVertex_0 : decode cX10_noVertex 0 = .ok (.iload_n 2, 1) := by decide +kernel
theorem dX10_noVertex_1 : decode cX10_noVertex 1 = .ok (.iconst 0, 1) := by decide +kernel
theorem dX10_noVertex_2 : decode cX10_noVertex 2 = .ok (.aload_n 0, 1) := by decide +kernel
theorem dX10_noVertex_3 : decode cX10_noVertex 3 = .ok (.getfield 27, 3) := by decide +kernel
theorem dX10_noVertex_6 : decode cX10_noVertex 6 = .ok (.iload_n 1, 1) := by decide +kernel
theorem dX10_noVertex_7 : decode cX10_noVertex 7 = .ok (.iaload, 1) := by decide +kernel
theorem dX10_noVertex_8 : decode cX10_noVertex 8 = .ok (.iconst 1, 1) := by decide +kernel
theorem dX10_noVertex_9 : decode cX10_noVertex 9 = .ok (.isub, 1) := by decide +kernel
theorem dX10_noVertex_10 : decode cX10_noVertex 10 = .ok (.invokestatic 67, 3) := by decide +kernel
theorem dX10_noVertex_13 : decode cX10_noVertex 13 = .ok (.ifCond .ne 7, 3) := by decide +kernel
theorem dX10_noVertex_16 : decode cX10_noVertex 16 = .ok (.iconst 1, 1) := by decide +kernel
theorem dX10_noVertex_17 : decode cX10_noVertex 17 = .ok (.goto 4, 3) := by decide +kernel
theorem dX10_noVertex_20 : decode cX10_noVertex 20 = .ok (.iconst 0, 1) := by decide +kernel
theorem dX10_noVertex_21 : decode cX10_noVertex 21 = .ok (.ireturn, 1) := by decide +kernel
theorem dX10_next_0 : decode cX10_next 0 = .ok (.aload_n 0, 1) := by decide +kernel
theorem dX10_next_1 : decode cX10_next 1 = .ok (.invokevirtual 205, 3) := by decide +kernel
theorem dX10_next_4 : decode cX10_next 4 = .ok (.istore_n 1, 1) := by decide +kernel
theorem dX10_next_5 : decode cX10_next 5 = .ok (.iload_n 1, 1) := by decide +kernel
theorem dX10_next_6 : decode cX10_next 6 = .ok (.ifCond .ge 7, 3) := by decide +kernel
theorem dX10_next_9 : decode cX10_next 9 = .ok (.sipush (-1006), 3) := by decide +kernel
theorem dX10_next_12 : decode cX10_next 12 = .ok (.ireturn, 1) := by decide +kernel
theorem dX10_next_13 : decode cX10_next 13 = .ok (.aload_n 0, 1) := by decide +kernel
theorem dX10_next_14 : decode cX10_next 14 = .ok (.iload_n 1, 1) := by decide +kernel
theorem dX10_next_15 : decode cX10_next 15 = .ok (.invokevirtual 208, 3) := by decide +kernel
theorem dX10_next_18 : decode cX10_next 18 = .ok (.istore_n 2, 1) := by decide +kernel
theorem dX10_next_19 : decode cX10_next 19 = .ok (.sipush 1000, 3) := by decide +kernel
theorem dX10_next_22 : decode cX10_next 22 = .ok (.iload_n 2, 1) := by decide +kernel
theorem dX10_next_23 : decode cX10_next 23 = .ok (.imul, 1) := by decide +kernel
theorem dX10_next_24 : decode cX10_next 24 = .ok (.iload_n 1, 1) := by decide +kernel
theorem dX10_next_25 : decode cX10_next 25 = .ok (.iadd, 1) := by decide +kernel
theorem dX10_next_26 : decode cX10_next 26 = .ok (.aload_n 0, 1) := by decide +kernel
theorem dX10_next_27 : decode cX10_next 27 = .ok (.getfield 24, 3) := by decide +kernel
theorem dX10_next_30 : decode cX10_next 30 = .ok (.iload_n 2, 1) := by decide +kernel
theorem dX10_next_31 : decode cX10_next 31 = .ok (.iaload, 1) := by decide +kernel
theorem dX10_next_32 : decode cX10_next 32 = .ok (.isub, 1) := by decide +kernel
theorem dX10_next_33 : decode cX10_next 33 = .ok (.ireturn, 1) := by decide +kernel
theorem dX10_remove_0 : decode cX10_remove 0 = .ok (.aload_n 0, 1) := by decide +kernel
theorem dX10_remove_1 : decode cX10_remove 1 = .ok (.iload_n 1, 1) := by decide +kernel
theorem dX10_remove_2 : decode cX10_remove 2 = .ok (.invokevirtual 211, 3) := by decide +kernel
theorem dX10_remove_5 : decode cX10_remove 5 = .ok (.ifCond .eq 7, 3) := by decide +kernel
theorem dX10_remove_8 : decode cX10_remove 8 = .ok (.sipush (-1001), 3) := by decide +kernel
theorem dX10_remove_11 : decode cX10_remove 11 = .ok (.ireturn, 1) := by decide +kernel
theorem dX10_remove_12 : decode cX10_remove 12 = .ok (.aload_n 0, 1) := by decide +kernel
theorem dX10_remove_13 : decode cX10_remove 13 = .ok (.iload_n 1, 1) := by decide +kernel
theorem dX10_remove_14 : decode cX10_remove 14 = .ok (.iload_n 2, 1) := by decide +kernel
theorem dX10_remove_15 : decode cX10_remove 15 = .ok (.invokevirtual 214, 3) := by decide +kernel
theorem dX10_remove_18 : decode cX10_remove 18 = .ok (.ifCond .eq 7, 3) := by decide +kernel
theorem dX10_remove_21 : decode cX10_remove 21 = .ok (.sipush (-1002), 3) := by decide +kernel
theorem dX10_remove_24 : decode cX10_remove 24 = .ok (.ireturn, 1) := by decide +kernel
theorem dX10_remove_25 : decode cX10_remove 25 = .ok (.aload_n 0, 1) := by decide +kernel
theorem dX10_remove_26 : decode cX10_remove 26 = .ok (.getfield 24, 3) := by decide +kernel
theorem dX10_remove_29 : decode cX10_remove 29 = .ok (.iload_n 1, 1) := by decide +kernel
theorem dX10_remove_30 : decode cX10_remove 30 = .ok (.iaload, 1) := by decide +kernel
theorem dX10_remove_31 : decode cX10_remove 31 = .ok (.iload_n 2, 1) := by decide +kernel
theorem dX10_remove_32 : decode cX10_remove 32 = .ok (.iadd, 1) := by decide +kernel
theorem dX10_remove_33 : decode cX10_remove 33 = .ok (.istore_n 3, 1) := by decide +kernel
theorem dX10_remove_34 : decode cX10_remove 34 = .ok (.aload_n 0, 1) := by decide +kernel
theorem dX10_remove_35 : decode cX10_remove 35 = .ok (.getfield 45, 3) := by decide +kernel
theorem dX10_remove_38 : decode cX10_remove 38 = .ok (.iload_n 3, 1) := by decide +kernel
theorem dX10_remove_39 : decode cX10_remove 39 = .ok (.baload, 1) := by decide +kernel
theorem dX10_remove_40 : decode cX10_remove 40 = .ok (.ifCond .eq 12, 3) := by decide +kernel
theorem dX10_remove_43 : decode cX10_remove 43 = .ok (.aload_n 0, 1) := by decide +kernel
theorem dX10_remove_44 : decode cX10_remove 44 = .ok (.iload_n 1, 1) := by decide +kernel
theorem dX10_remove_45 : decode cX10_remove 45 = .ok (.iload_n 3, 1) := by decide +kernel
theorem dX10_remove_46 : decode cX10_remove 46 = .ok (.invokevirtual 202, 3) := by decide +kernel
theorem dX10_remove_49 : decode cX10_remove 49 = .ok (.ifCond .ne 7, 3) := by decide +kernel
theorem dX10_remove_52 : decode cX10_remove 52 = .ok (.sipush (-1004), 3) := by decide +kernel
theorem dX10_remove_55 : decode cX10_remove 55 = .ok (.ireturn, 1) := by decide +kernel
theorem dX10_remove_56 : decode cX10_remove 56 = .ok (.aload_n 0, 1) := by decide +kernel
theorem dX10_remove_57 : decode cX10_remove 57 = .ok (.iload_n 1, 1) := by decide +kernel
theorem dX10_remove_58 : decode cX10_remove 58 = .ok (.iload_n 3, 1) := by decide +kernel
theorem dX10_remove_59 : decode cX10_remove 59 = .ok (.invokevirtual 199, 3) := by decide +kernel
theorem dX10_remove_62 : decode cX10_remove 62 = .ok (.istore 4, 2) := by decide +kernel
theorem dX10_remove_64 : decode cX10_remove 64 = .ok (.aload_n 0, 1) := by decide +kernel
theorem dX10_remove_65 : decode cX10_remove 65 = .ok (.iload_n 3, 1) := by decide +kernel
theorem dX10_remove_66 : decode cX10_remove 66 = .ok (.invokevirtual 217, 3) := by decide +kernel
theorem dX10_remove_69 : decode cX10_remove 69 = .ok (.iload 4, 2) := by decide +kernel
theorem dX10_remove_71 : decode cX10_remove 71 = .ok (.ireturn, 1) := by decide +kernel
theorem dX10_insert_0 : decode cX10_insert 0 = .ok (.aload_n 0, 1) := by decide +kernel
theorem dX10_insert_1 : decode cX10_insert 1 = .ok (.iload_n 1, 1) := by decide +kernel
theorem dX10_insert_2 : decode cX10_insert 2 = .ok (.invokevirtual 211, 3) := by decide +kernel
theorem dX10_insert_5 : decode cX10_insert 5 = .ok (.ifCond .eq 7, 3) := by decide +kernel
theorem dX10_insert_8 : decode cX10_insert 8 = .ok (.sipush (-1001), 3) := by decide +kernel
theorem dX10_insert_11 : decode cX10_insert 11 = .ok (.ireturn, 1) := by decide +kernel
theorem dX10_insert_12 : decode cX10_insert 12 = .ok (.aload_n 0, 1) := by decide +kernel
theorem dX10_insert_13 : decode cX10_insert 13 = .ok (.iload_n 1, 1) := by decide +kernel
theorem dX10_insert_14 : decode cX10_insert 14 = .ok (.iload_n 2, 1) := by decide +kernel
theorem dX10_insert_15 : decode cX10_insert 15 = .ok (.invokevirtual 214, 3) := by decide +kernel
theorem dX10_insert_18 : decode cX10_insert 18 = .ok (.ifCond .eq 7, 3) := by decide +kernel
theorem dX10_insert_21 : decode cX10_insert 21 = .ok (.sipush (-1002), 3) := by decide +kernel
theorem dX10_insert_24 : decode cX10_insert 24 = .ok (.ireturn, 1) := by decide +kernel
theorem dX10_insert_25 : decode cX10_insert 25 = .ok (.aload_n 0, 1) := by decide +kernel
theorem dX10_insert_26 : decode cX10_insert 26 = .ok (.getfield 24, 3) := by decide +kernel
theorem dX10_insert_29 : decode cX10_insert 29 = .ok (.iload_n 1, 1) := by decide +kernel
theorem dX10_insert_30 : decode cX10_insert 30 = .ok (.iaload, 1) := by decide +kernel
theorem dX10_insert_31 : decode cX10_insert 31 = .ok (.iload_n 2, 1) := by decide +kernel
theorem dX10_insert_32 : decode cX10_insert 32 = .ok (.iadd, 1) := by decide +kernel
theorem dX10_insert_33 : decode cX10_insert 33 = .ok (.istore_n 3, 1) := by decide +kernel
theorem dX10_insert_34 : decode cX10_insert 34 = .ok (.aload_n 0, 1) := by decide +kernel
theorem dX10_insert_35 : decode cX10_insert 35 = .ok (.getfield 45, 3) := by decide +kernel
theorem dX10_insert_38 : decode cX10_insert 38 = .ok (.iload_n 3, 1) := by decide +kernel
theorem dX10_insert_39 : decode cX10_insert 39 = .ok (.baload, 1) := by decide +kernel
theorem dX10_insert_40 : decode cX10_insert 40 = .ok (.ifCond .ne 12, 3) := by decide +kernel
theorem dX10_insert_43 : decode cX10_insert 43 = .ok (.aload_n 0, 1) := by decide +kernel
theorem dX10_insert_44 : decode cX10_insert 44 = .ok (.iload_n 1, 1) := by decide +kernel
theorem dX10_insert_45 : decode cX10_insert 45 = .ok (.iload_n 3, 1) := by decide +kernel
theorem dX10_insert_46 : decode cX10_insert 46 = .ok (.invokevirtual 221, 3) := by decide +kernel
theorem dX10_insert_49 : decode cX10_insert 49 = .ok (.ifCond .ne 7, 3) := by decide +kernel
theorem dX10_insert_52 : decode cX10_insert 52 = .ok (.sipush (-1004), 3) := by decide +kernel
theorem dX10_insert_55 : decode cX10_insert 55 = .ok (.ireturn, 1) := by decide +kernel
theorem dX10_insert_56 : decode cX10_insert 56 = .ok (.aload_n 0, 1) := by decide +kernel
theorem dX10_insert_57 : decode cX10_insert 57 = .ok (.iload_n 1, 1) := by decide +kernel
theorem dX10_insert_58 : decode cX10_insert 58 = .ok (.iload_n 3, 1) := by decide +kernel
theorem dX10_insert_59 : decode cX10_insert 59 = .ok (.invokevirtual 199, 3) := by decide +kernel
theorem dX10_insert_62 : decode cX10_insert 62 = .ok (.istore 4, 2) := by decide +kernel
theorem dX10_insert_64 : decode cX10_insert 64 = .ok (.aload_n 0, 1) := by decide +kernel
theorem dX10_insert_65 : decode cX10_insert 65 = .ok (.iload_n 3, 1) := by decide +kernel
theorem dX10_insert_66 : decode cX10_insert 66 = .ok (.invokevirtual 217, 3) := by decide +kernel
theorem dX10_insert_69 : decode cX10_insert 69 = .ok (.iload 4, 2) := by decide +kernel
theorem dX10_insert_71 : decode cX10_insert 71 = .ok (.ireturn, 1) := by decide +kernel
theorem dX10_simplify_0 : decode cX10_simplify 0 = .ok (.iload_n 1, 1) := by decide +kernel
theorem dX10_simplify_1 : decode cX10_simplify 1 = .ok (.iconst 0, 1) := by decide +kernel
theorem dX10_simplify_2 : decode cX10_simplify 2 = .ok (.sipush 1000, 3) := by decide +kernel
theorem dX10_simplify_5 : decode cX10_simplify 5 = .ok (.invokestatic 67, 3) := by decide +kernel
theorem dX10_simplify_8 : decode cX10_simplify 8 = .ok (.ifCond .ne 7, 3) := by decide +kernel
theorem dX10_simplify_11 : decode cX10_simplify 11 = .ok (.sipush (-1003), 3) := by decide +kernel
theorem dX10_simplify_14 : decode cX10_simplify 14 = .ok (.ireturn, 1) := by decide +kernel
theorem dX10_simplify_15 : decode cX10_simplify 15 = .ok (.iconst 0, 1) := by decide +kernel
theorem dX10_simplify_16 : decode cX10_simplify 16 = .ok (.istore_n 2, 1) := by decide +kernel
theorem dX10_simplify_17 : decode cX10_simplify 17 = .ok (.aload_n 0, 1) := by decide +kernel
theorem dX10_simplify_18 : decode cX10_simplify 18 = .ok (.invokevirtual 205, 3) := by decide +kernel
theorem dX10_simplify_21 : decode cX10_simplify 21 = .ok (.istore_n 3, 1) := by decide +kernel
theorem dX10_simplify_22 : decode cX10_simplify 22 = .ok (.iload_n 3, 1) := by decide +kernel
theorem dX10_simplify_23 : decode cX10_simplify 23 = .ok (.ifCond .lt 33, 3) := by decide +kernel
theorem dX10_simplify_26 : decode cX10_simplify 26 = .ok (.aload_n 0, 1) := by decide +kernel
theorem dX10_simplify_27 : decode cX10_simplify 27 = .ok (.aload_n 0, 1) := by decide +kernel
theorem dX10_simplify_28 : decode cX10_simplify 28 = .ok (.iload_n 3, 1) := by decide +kernel
theorem dX10_simplify_29 : decode cX10_simplify 29 = .ok (.invokevirtual 208, 3) := by decide +kernel
theorem dX10_simplify_32 : decode cX10_simplify 32 = .ok (.iload_n 3, 1) := by decide +kernel
theorem dX10_simplify_33 : decode cX10_simplify 33 = .ok (.invokevirtual 199, 3) := by decide +kernel
theorem dX10_simplify_36 : decode cX10_simplify 36 = .ok (.iload_n 1, 1) := by decide +kernel
theorem dX10_simplify_37 : decode cX10_simplify 37 = .ok (.if_icmp .gt 19, 3) := by decide +kernel
theorem dX10_simplify_40 : decode cX10_simplify 40 = .ok (.aload_n 0, 1) := by decide +kernel
theorem dX10_simplify_41 : decode cX10_simplify 41 = .ok (.iload_n 3, 1) := by decide +kernel
theorem dX10_simplify_42 : decode cX10_simplify 42 = .ok (.invokevirtual 217, 3) := by decide +kernel
theorem dX10_simplify_45 : decode cX10_simplify 45 = .ok (.iinc 2 1, 3) := by decide +kernel
theorem dX10_simplify_48 : decode cX10_simplify 48 = .ok (.aload_n 0, 1) := by decide +kernel
theorem dX10_simplify_49 : decode cX10_simplify 49 = .ok (.invokevirtual 205, 3) := by decide +kernel
theorem dX10_simplify_52 : decode cX10_simplify 52 = .ok (.istore_n 3, 1) := by decide +kernel
theorem dX10_simplify_53 : decode cX10_simplify 53 = .ok (.goto (-31), 3) := by decide +kernel
theorem dX10_simplify_56 : decode cX10_simplify 56 = .ok (.iload_n 2, 1) := by decide +kernel
theorem dX10_simplify_57 : decode cX10_simplify 57 = .ok (.ireturn, 1) := by decide +kernel
theorem dX10_reduce_0 : decode cX10_reduce 0 = .ok (.iload_n 1, 1) := by decide +kernel
theorem dX10_reduce_1 : decode cX10_reduce 1 = .ok (.ifCond .ge 7, 3) := by decide +kernel
theorem dX10_reduce_4 : decode cX10_reduce 4 = .ok (.sipush (-1003), 3) := by decide +kernel
theorem dX10_reduce_7 : decode cX10_reduce 7 = .ok (.ireturn, 1) := by decide +kernel
theorem dX10_reduce_8 : decode cX10_reduce 8 = .ok (.iconst 0, 1) := by decide +kernel
theorem dX10_reduce_9 : decode cX10_reduce 9 = .ok (.istore_n 2, 1) := by decide +kernel
theorem dX10_reduce_10 : decode cX10_reduce 10 = .ok (.aload_n 0, 1) := by decide +kernel
theorem dX10_reduce_11 : decode cX10_reduce 11 = .ok (.invokevirtual 224, 3) := by decide +kernel
theorem dX10_reduce_14 : decode cX10_reduce 14 = .ok (.iload_n 1, 1) := by decide +kernel
theorem dX10_reduce_15 : decode cX10_reduce 15 = .ok (.if_icmp .le 10, 3) := by decide +kernel
theorem dX10_reduce_18 : decode cX10_reduce 18 = .ok (.aload_n 0, 1) := by decide +kernel
theorem dX10_reduce_19 : decode cX10_reduce 19 = .ok (.invokevirtual 205, 3) := by decide +kernel
theorem dX10_reduce_22 : decode cX10_reduce 22 = .ok (.goto 4, 3) := by decide +kernel
theorem dX10_reduce_25 : decode cX10_reduce 25 = .ok (.iconst (-1), 1) := by decide +kernel
theorem dX10_reduce_26 : decode cX10_reduce 26 = .ok (.istore_n 3, 1) := by decide +kernel
theorem dX10_reduce_27 : decode cX10_reduce 27 = .ok (.iload_n 3, 1) := by decide +kernel
theorem dX10_reduce_28 : decode cX10_reduce 28 = .ok (.ifCond .lt 31, 3) := by decide +kernel
theorem dX10_reduce_31 : decode cX10_reduce 31 = .ok (.aload_n 0, 1) := by decide +kernel
theorem dX10_reduce_32 : decode cX10_reduce 32 = .ok (.iload_n 3, 1) := by decide +kernel
theorem dX10_reduce_33 : decode cX10_reduce 33 = .ok (.invokevirtual 217, 3) := by decide +kernel
theorem dX10_reduce_36 : decode cX10_reduce 36 = .ok (.iinc 2 1, 3) := by decide +kernel
theorem dX10_reduce_39 : decode cX10_reduce 39 = .ok (.aload_n 0, 1) := by decide +kernel
theorem dX10_reduce_40 : decode cX10_reduce 40 = .ok (.invokevirtual 224, 3) := by decide +kernel
theorem dX10_reduce_43 : decode cX10_reduce 43 = .ok (.iload_n 1, 1) := by decide +kernel
theorem dX10_reduce_44 : decode cX10_reduce 44 = .ok (.if_icmp .le 10, 3) := by decide +kernel
theorem dX10_reduce_47 : decode cX10_reduce 47 = .ok (.aload_n 0, 1) := by decide +kernel
theorem dX10_reduce_48 : decode cX10_reduce 48 = .ok (.invokevirtual 205, 3) := by decide +kernel
theorem dX10_reduce_51 : decode cX10_reduce 51 = .ok (.goto 4, 3) := by decide +kernel
theorem dX10_reduce_54 : decode cX10_reduce 54 = .ok (.iconst (-1), 1) := by decide +kernel
theorem dX10_reduce_55 : decode cX10_reduce 55 = .ok (.istore_n 3, 1) := by decide +kernel
theorem dX10_reduce_56 : decode cX10_reduce 56 = .ok (.goto (-29), 3) := by decide +kernel
theorem dX10_reduce_59 : decode cX10_reduce 59 = .ok (.iload_n 2, 1) := by decide +kernel
theorem dX10_reduce_60 : decode cX10_reduce 60 = .ok (.ireturn, 1) := by decide +kernel
theorem dX10_limitFor_0 : decode cX10_limitFor 0 = .ok (.iload_n 1, 1) := by decide +kernel
theorem dX10_limitFor_1 : decode cX10_limitFor 1 = .ok (.ifCond .ge 7, 3) := by decide +kernel
theorem dX10_limitFor_4 : decode cX10_limitFor 4 = .ok (.sipush (-1003), 3) := by decide +kernel
theorem dX10_limitFor_7 : decode cX10_limitFor 7 = .ok (.ireturn, 1) := by decide +kernel
theorem dX10_limitFor_8 : decode cX10_limitFor 8 = .ok (.iconst 0, 1) := by decide +kernel
theorem dX10_limitFor_9 : decode cX10_limitFor 9 = .ok (.istore_n 2, 1) := by decide +kernel
theorem dX10_limitFor_10 : decode cX10_limitFor 10 = .ok (.iload_n 2, 1) := by decide +kernel
theorem dX10_limitFor_11 : decode cX10_limitFor 11 = .ok (.aload_n 0, 1) := by decide +kernel
theorem dX10_limitFor_12 : decode cX10_limitFor 12 = .ok (.getfield 74, 3) := by decide +kernel
theorem dX10_limitFor_15 : decode cX10_limitFor 15 = .ok (.if_icmp .ge 21, 3) := by decide +kernel
theorem dX10_limitFor_18 : decode cX10_limitFor 18 = .ok (.aload_n 0, 1) := by decide +kernel
theorem dX10_limitFor_19 : decode cX10_limitFor 19 = .ok (.getfield 54, 3) := by decide +kernel
theorem dX10_limitFor_22 : decode cX10_limitFor 22 = .ok (.iload_n 2, 1) := by decide +kernel
theorem dX10_limitFor_23 : decode cX10_limitFor 23 = .ok (.aload_n 0, 1) := by decide +kernel
theorem dX10_limitFor_24 : decode cX10_limitFor 24 = .ok (.getfield 45, 3) := by decide +kernel
theorem dX10_limitFor_27 : decode cX10_limitFor 27 = .ok (.iload_n 2, 1) := by decide +kernel
theorem dX10_limitFor_28 : decode cX10_limitFor 28 = .ok (.baload, 1) := by decide +kernel
theorem dX10_limitFor_29 : decode cX10_limitFor 29 = .ok (.bastore, 1) := by decide +kernel
theorem dX10_limitFor_30 : decode cX10_limitFor 30 = .ok (.iinc 2 1, 3) := by decide +kernel
theorem dX10_limitFor_33 : decode cX10_limitFor 33 = .ok (.goto (-23), 3) := by decide +kernel
theorem dX10_limitFor_36 : decode cX10_limitFor 36 = .ok (.iconst 0, 1) := by decide +kernel
theorem dX10_limitFor_37 : decode cX10_limitFor 37 = .ok (.istore_n 2, 1) := by decide +kernel
theorem dX10_limitFor_38 : decode cX10_limitFor 38 = .ok (.aload_n 0, 1) := by decide +kernel
theorem dX10_limitFor_39 : decode cX10_limitFor 39 = .ok (.invokevirtual 224, 3) := by decide +kernel
theorem dX10_limitFor_42 : decode cX10_limitFor 42 = .ok (.iload_n 1, 1) := by decide +kernel
theorem dX10_limitFor_43 : decode cX10_limitFor 43 = .ok (.if_icmp .le 10, 3) := by decide +kernel
theorem dX10_limitFor_46 : decode cX10_limitFor 46 = .ok (.aload_n 0, 1) := by decide +kernel
theorem dX10_limitFor_47 : decode cX10_limitFor 47 = .ok (.invokevirtual 205, 3) := by decide +kernel
theorem dX10_limitFor_50 : decode cX10_limitFor 50 = .ok (.goto 4, 3) := by decide +kernel
theorem dX10_limitFor_53 : decode cX10_limitFor 53 = .ok (.iconst (-1), 1) := by decide +kernel
theorem dX10_limitFor_54 : decode cX10_limitFor 54 = .ok (.istore_n 3, 1) := by decide +kernel
theorem dX10_limitFor_55 : decode cX10_limitFor 55 = .ok (.iload_n 3, 1) := by decide +kernel
theorem dX10_limitFor_56 : decode cX10_limitFor 56 = .ok (.ifCond .lt 55, 3) := by decide +kernel
theorem dX10_limitFor_59 : decode cX10_limitFor 59 = .ok (.aload_n 0, 1) := by decide +kernel
theorem dX10_limitFor_60 : decode cX10_limitFor 60 = .ok (.aload_n 0, 1) := by decide +kernel
theorem dX10_limitFor_61 : decode cX10_limitFor 61 = .ok (.iload_n 3, 1) := by decide +kernel
theorem dX10_limitFor_62 : decode cX10_limitFor 62 = .ok (.invokevirtual 208, 3) := by decide +kernel
theorem dX10_limitFor_65 : decode cX10_limitFor 65 = .ok (.iload_n 3, 1) := by decide +kernel
theorem dX10_limitFor_66 : decode cX10_limitFor 66 = .ok (.invokevirtual 199, 3) := by decide +kernel
theorem dX10_limitFor_69 : decode cX10_limitFor 69 = .ok (.istore 4, 2) := by decide +kernel
theorem dX10_limitFor_71 : decode cX10_limitFor 71 = .ok (.iload 4, 2) := by decide +kernel
theorem dX10_limitFor_73 : decode cX10_limitFor 73 = .ok (.iload_n 2, 1) := by decide +kernel
theorem dX10_limitFor_74 : decode cX10_limitFor 74 = .ok (.if_icmp .le 8, 3) := by decide +kernel
theorem dX10_limitFor_77 : decode cX10_limitFor 77 = .ok (.iload 4, 2) := by decide +kernel
theorem dX10_limitFor_79 : decode cX10_limitFor 79 = .ok (.goto 4, 3) := by decide +kernel
theorem dX10_limitFor_82 : decode cX10_limitFor 82 = .ok (.iload_n 2, 1) := by decide +kernel
theorem dX10_limitFor_83 : decode cX10_limitFor 83 = .ok (.istore_n 2, 1) := by decide +kernel
theorem dX10_limitFor_84 : decode cX10_limitFor 84 = .ok (.aload_n 0, 1) := by decide +kernel
theorem dX10_limitFor_85 : decode cX10_limitFor 85 = .ok (.getfield 45, 3) := by decide +kernel
theorem dX10_limitFor_88 : decode cX10_limitFor 88 = .ok (.iload_n 3, 1) := by decide +kernel
theorem dX10_limitFor_89 : decode cX10_limitFor 89 = .ok (.iconst 0, 1) := by decide +kernel
theorem dX10_limitFor_90 : decode cX10_limitFor 90 = .ok (.bastore, 1) := by decide +kernel
theorem dX10_limitFor_91 : decode cX10_limitFor 91 = .ok (.aload_n 0, 1) := by decide +kernel
theorem dX10_limitFor_92 : decode cX10_limitFor 92 = .ok (.invokevirtual 224, 3) := by decide +kernel
theorem dX10_limitFor_95 : decode cX10_limitFor 95 = .ok (.iload_n 1, 1) := by decide +kernel
theorem dX10_limitFor_96 : decode cX10_limitFor 96 = .ok (.if_icmp .le 10, 3) := by decide +kernel
theorem dX10_limitFor_99 : decode cX10_limitFor 99 = .ok (.aload_n 0, 1) := by decide +kernel
theorem dX10_limitFor_100 : decode cX10_limitFor 100 = .ok (.invokevirtual 205, 3) := by decide +kernel
theorem dX10_limitFor_103 : decode cX10_limitFor 103 = .ok (.goto 4, 3) := by decide +kernel
theorem dX10_limitFor_106 : decode cX10_limitFor 106 = .ok (.iconst (-1), 1) := by decide +kernel
theorem dX10_limitFor_107 : decode cX10_limitFor 107 = .ok (.istore_n 3, 1) := by decide +kernel
theorem dX10_limitFor_108 : decode cX10_limitFor 108 = .ok (.goto (-53), 3) := by decide +kernel
theorem dX10_limitFor_111 : decode cX10_limitFor 111 = .ok (.aload_n 0, 1) := by decide +kernel
theorem dX10_limitFor_112 : decode cX10_limitFor 112 = .ok (.invokevirtual 224, 3) := by decide +kernel
theorem dX10_limitFor_115 : decode cX10_limitFor 115 = .ok (.iload_n 1, 1) := by decide +kernel
theorem dX10_limitFor_116 : decode cX10_limitFor 116 = .ok (.if_icmp .gt 7, 3) := by decide +kernel
theorem dX10_limitFor_119 : decode cX10_limitFor 119 = .ok (.iconst 1, 1) := by decide +kernel
theorem dX10_limitFor_120 : decode cX10_limitFor 120 = .ok (.goto 4, 3) := by decide +kernel
theorem dX10_limitFor_123 : decode cX10_limitFor 123 = .ok (.iconst 0, 1) := by decide +kernel
theorem dX10_limitFor_124 : decode cX10_limitFor 124 = .ok (.istore 4, 2) := by decide +kernel
theorem dX10_limitFor_126 : decode cX10_limitFor 126 = .ok (.iconst 0, 1) := by decide +kernel
theorem dX10_limitFor_127 : decode cX10_limitFor 127 = .ok (.istore 5, 2) := by decide +kernel
theorem dX10_limitFor_129 : decode cX10_limitFor 129 = .ok (.iload 5, 2) := by decide +kernel
theorem dX10_limitFor_131 : decode cX10_limitFor 131 = .ok (.aload_n 0, 1) := by decide +kernel
theorem dX10_limitFor_132 : decode cX10_limitFor 132 = .ok (.getfield 74, 3) := by decide +kernel
theorem dX10_limitFor_135 : decode cX10_limitFor 135 = .ok (.if_icmp .ge 23, 3) := by decide +kernel
theorem dX10_limitFor_138 : decode cX10_limitFor 138 = .ok (.aload_n 0, 1) := by decide +kernel
theorem dX10_limitFor_139 : decode cX10_limitFor 139 = .ok (.getfield 45, 3) := by decide +kernel
theorem dX10_limitFor_142 : decode cX10_limitFor 142 = .ok (.iload 5, 2) := by decide +kernel
theorem dX10_limitFor_144 : decode cX10_limitFor 144 = .ok (.aload_n 0, 1) := by decide +kernel
theorem dX10_limitFor_145 : decode cX10_limitFor 145 = .ok (.getfield 54, 3) := by decide +kernel
theorem dX10_limitFor_148 : decode cX10_limitFor 148 = .ok (.iload 5, 2) := by decide +kernel
theorem dX10_limitFor_150 : decode cX10_limitFor 150 = .ok (.baload, 1) := by decide +kernel
theorem dX10_limitFor_151 : decode cX10_limitFor 151 = .ok (.bastore, 1) := by decide +kernel
theorem dX10_limitFor_152 : decode cX10_limitFor 152 = .ok (.iinc 5 1, 3) := by decide +kernel
theorem dX10_limitFor_155 : decode cX10_limitFor 155 = .ok (.goto (-26), 3) := by decide +kernel
theorem dX10_limitFor_158 : decode cX10_limitFor 158 = .ok (.iload 4, 2) := by decide +kernel
theorem dX10_limitFor_160 : decode cX10_limitFor 160 = .ok (.ifCond .eq 7, 3) := by decide +kernel
theorem dX10_limitFor_163 : decode cX10_limitFor 163 = .ok (.iload_n 2, 1) := by decide +kernel
theorem dX10_limitFor_164 : decode cX10_limitFor 164 = .ok (.goto 6, 3) := by decide +kernel
theorem dX10_limitFor_167 : decode cX10_limitFor 167 = .ok (.sipush (-1006), 3) := by decide +kernel
theorem dX10_limitFor_170 : decode cX10_limitFor 170 = .ok (.ireturn, 1) := by decide +kernel
theorem dX10_undo_0 : decode cX10_undo 0 = .ok (.aload_n 0, 1) := by decide +kernel
theorem dX10_undo_1 : decode cX10_undo 1 = .ok (.getfield 77, 3) := by decide +kernel
theorem dX10_undo_4 : decode cX10_undo 4 = .ok (.ifCond .ne 7, 3) := by decide +kernel
theorem dX10_undo_7 : decode cX10_undo 7 = .ok (.sipush (-1006), 3) := by decide +kernel
theorem dX10_undo_10 : decode cX10_undo 10 = .ok (.ireturn, 1) := by decide +kernel
theorem dX10_undo_11 : decode cX10_undo 11 = .ok (.aload_n 0, 1) := by decide +kernel
theorem dX10_undo_12 : decode cX10_undo 12 = .ok (.dup, 1) := by decide +kernel
theorem dX10_undo_13 : decode cX10_undo 13 = .ok (.getfield 77, 3) := by decide +kernel
theorem dX10_undo_16 : decode cX10_undo 16 = .ok (.iconst 1, 1) := by decide +kernel
theorem dX10_undo_17 : decode cX10_undo 17 = .ok (.isub, 1) := by decide +kernel
theorem dX10_undo_18 : decode cX10_undo 18 = .ok (.putfield 77, 3) := by decide +kernel
theorem dX10_undo_21 : decode cX10_undo 21 = .ok (.aload_n 0, 1) := by decide +kernel
theorem dX10_undo_22 : decode cX10_undo 22 = .ok (.getfield 45, 3) := by decide +kernel
theorem dX10_undo_25 : decode cX10_undo 25 = .ok (.aload_n 0, 1) := by decide +kernel
theorem dX10_undo_26 : decode cX10_undo 26 = .ok (.getfield 51, 3) := by decide +kernel
theorem dX10_undo_29 : decode cX10_undo 29 = .ok (.aload_n 0, 1) := by decide +kernel
theorem dX10_undo_30 : decode cX10_undo 30 = .ok (.getfield 77, 3) := by decide +kernel
theorem dX10_undo_33 : decode cX10_undo 33 = .ok (.iaload, 1) := by decide +kernel
theorem dX10_undo_34 : decode cX10_undo 34 = .ok (.aload_n 0, 1) := by decide +kernel
theorem dX10_undo_35 : decode cX10_undo 35 = .ok (.getfield 45, 3) := by decide +kernel
theorem dX10_undo_38 : decode cX10_undo 38 = .ok (.aload_n 0, 1) := by decide +kernel
theorem dX10_undo_39 : decode cX10_undo 39 = .ok (.getfield 51, 3) := by decide +kernel
theorem dX10_undo_42 : decode cX10_undo 42 = .ok (.aload_n 0, 1) := by decide +kernel
theorem dX10_undo_43 : decode cX10_undo 43 = .ok (.getfield 77, 3) := by decide +kernel
theorem dX10_undo_46 : decode cX10_undo 46 = .ok (.iaload, 1) := by decide +kernel
theorem dX10_undo_47 : decode cX10_undo 47 = .ok (.baload, 1) := by decide +kernel
theorem dX10_undo_48 : decode cX10_undo 48 = .ok (.ifCond .ne 7, 3) := by decide +kernel
theorem dX10_undo_51 : decode cX10_undo 51 = .ok (.iconst 1, 1) := by decide +kernel
theorem dX10_undo_52 : decode cX10_undo 52 = .ok (.goto 4, 3) := by decide +kernel
theorem dX10_undo_55 : decode cX10_undo 55 = .ok (.iconst 0, 1) := by decide +kernel
theorem dX10_undo_56 : decode cX10_undo 56 = .ok (.bastore, 1) := by decide +kernel
theorem dX10_undo_57 : decode cX10_undo 57 = .ok (.aload_n 0, 1) := by decide +kernel
theorem dX10_undo_58 : decode cX10_undo 58 = .ok (.getfield 77, 3) := by decide +kernel
theorem dX10_undo_61 : decode cX10_undo 61 = .ok (.ireturn, 1) := by decide +kernel
theorem dX10_refine_0 : decode cX10_refine 0 = .ok (.iconst 0, 1) := by decide +kernel
theorem dX10_refine_1 : decode cX10_refine 1 = .ok (.istore_n 1, 1) := by decide +kernel
theorem dX10_refine_2 : decode cX10_refine 2 = .ok (.iconst 0, 1) := by decide +kernel
theorem dX10_refine_3 : decode cX10_refine 3 = .ok (.istore_n 2, 1) := by decide +kernel
theorem dX10_refine_4 : decode cX10_refine 4 = .ok (.iload_n 2, 1) := by decide +kernel
theorem dX10_refine_5 : decode cX10_refine 5 = .ok (.aload_n 0, 1) := by decide +kernel
theorem dX10_refine_6 : decode cX10_refine 6 = .ok (.getfield 71, 3) := by decide +kernel
theorem dX10_refine_9 : decode cX10_refine 9 = .ok (.if_icmp .ge 57, 3) := by decide +kernel
theorem dX10_refine_12 : decode cX10_refine 12 = .ok (.aload_n 0, 1) := by decide +kernel
theorem dX10_refine_13 : decode cX10_refine 13 = .ok (.getfield 24, 3) := by decide +kernel
theorem dX10_refine_16 : decode cX10_refine 16 = .ok (.iload_n 2, 1) := by decide +kernel
theorem dX10_refine_17 : decode cX10_refine 17 = .ok (.iaload, 1) := by decide +kernel
theorem dX10_refine_18 : decode cX10_refine 18 = .ok (.istore_n 3, 1) := by decide +kernel
theorem dX10_refine_19 : decode cX10_refine 19 = .ok (.iload_n 3, 1) := by decide +kernel
theorem dX10_refine_20 : decode cX10_refine 20 = .ok (.aload_n 0, 1) := by decide +kernel
theorem dX10_refine_21 : decode cX10_refine 21 = .ok (.iload_n 2, 1) := by decide +kernel
theorem dX10_refine_22 : decode cX10_refine 22 = .ok (.invokevirtual 141, 3) := by decide +kernel
theorem dX10_refine_25 : decode cX10_refine 25 = .ok (.if_icmp .ge 35, 3) := by decide +kernel
theorem dX10_refine_28 : decode cX10_refine 28 = .ok (.aload_n 0, 1) := by decide +kernel
theorem dX10_refine_29 : decode cX10_refine 29 = .ok (.getfield 45, 3) := by decide +kernel
theorem dX10_refine_32 : decode cX10_refine 32 = .ok (.iload_n 3, 1) := by decide +kernel
theorem dX10_refine_33 : decode cX10_refine 33 = .ok (.baload, 1) := by decide +kernel
theorem dX10_refine_34 : decode cX10_refine 34 = .ok (.ifCond .ne 20, 3) := by decide +kernel
theorem dX10_refine_37 : decode cX10_refine 37 = .ok (.aload_n 0, 1) := by decide +kernel
theorem dX10_refine_38 : decode cX10_refine 38 = .ok (.iload_n 2, 1) := by decide +kernel
theorem dX10_refine_39 : decode cX10_refine 39 = .ok (.iload_n 3, 1) := by decide +kernel
theorem dX10_refine_40 : decode cX10_refine 40 = .ok (.invokevirtual 221, 3) := by decide +kernel
theorem dX10_refine_43 : decode cX10_refine 43 = .ok (.ifCond .eq 11, 3) := by decide +kernel
theorem dX10_refine_46 : decode cX10_refine 46 = .ok (.aload_n 0, 1) := by decide +kernel
theorem dX10_refine_47 : decode cX10_refine 47 = .ok (.iload_n 3, 1) := by decide +kernel
theorem dX10_refine_48 : decode cX10_refine 48 = .ok (.invokevirtual 217, 3) := by decide +kernel
theorem dX10_refine_51 : decode cX10_refine 51 = .ok (.iinc 1 1, 3) := by decide +kernel
theorem dX10_refine_54 : decode cX10_refine 54 = .ok (.iinc 3 1, 3) := by decide +kernel
theorem dX10_refine_57 : decode cX10_refine 57 = .ok (.goto (-38), 3) := by decide +kernel
theorem dX10_refine_60 : decode cX10_refine 60 = .ok (.iinc 2 1, 3) := by decide +kernel
theorem dX10_refine_63 : decode cX10_refine 63 = .ok (.goto (-59), 3) := by decide +kernel
theorem dX10_refine_66 : decode cX10_refine 66 = .ok (.iload_n 1, 1) := by decide +kernel
theorem dX10_refine_67 : decode cX10_refine 67 = .ok (.ireturn, 1) := by decide +kernel
theorem dX10_outer_0 : decode cX10_outer 0 = .ok (.iconst 0, 1) := by decide +kernel
theorem dX10_outer_1 : decode cX10_outer 1 = .ok (.istore_n 1, 1) := by decide +kernel
theorem dX10_outer_2 : decode cX10_outer 2 = .ok (.iconst 0, 1) := by decide +kernel
theorem dX10_outer_3 : decode cX10_outer 3 = .ok (.istore_n 2, 1) := by decide +kernel
theorem dX10_outer_4 : decode cX10_outer 4 = .ok (.iload_n 2, 1) := by decide +kernel
theorem dX10_outer_5 : decode cX10_outer 5 = .ok (.aload_n 0, 1) := by decide +kernel
theorem dX10_outer_6 : decode cX10_outer 6 = .ok (.getfield 71, 3) := by decide +kernel
theorem dX10_outer_9 : decode cX10_outer 9 = .ok (.if_icmp .ge 26, 3) := by decide +kernel
theorem dX10_outer_12 : decode cX10_outer 12 = .ok (.iload_n 1, 1) := by decide +kernel
theorem dX10_outer_13 : decode cX10_outer 13 = .ok (.aload_n 0, 1) := by decide +kernel
theorem dX10_outer_14 : decode cX10_outer 14 = .ok (.getfield 30, 3) := by decide +kernel
theorem dX10_outer_17 : decode cX10_outer 17 = .ok (.iload_n 2, 1) := by decide +kernel
theorem dX10_outer_18 : decode cX10_outer 18 = .ok (.iaload, 1) := by decide +kernel
theorem dX10_outer_19 : decode cX10_outer 19 = .ok (.ifCond .le 7, 3) := by decide +kernel
theorem dX10_outer_22 : decode cX10_outer 22 = .ok (.iconst 1, 1) := by decide +kernel
theorem dX10_outer_23 : decode cX10_outer 23 = .ok (.goto 4, 3) := by decide +kernel
theorem dX10_outer_26 : decode cX10_outer 26 = .ok (.iconst 0, 1) := by decide +kernel
theorem dX10_outer_27 : decode cX10_outer 27 = .ok (.iadd, 1) := by decide +kernel
theorem dX10_outer_28 : decode cX10_outer 28 = .ok (.istore_n 1, 1) := by decide +kernel
theorem dX10_outer_29 : decode cX10_outer 29 = .ok (.iinc 2 1, 3) := by decide +kernel
theorem dX10_outer_32 : decode cX10_outer 32 = .ok (.goto (-28), 3) := by decide +kernel
theorem dX10_outer_35 : decode cX10_outer 35 = .ok (.iload_n 1, 1) := by decide +kernel
theorem dX10_outer_36 : decode cX10_outer 36 = .ok (.ireturn, 1) := by decide +kernel
theorem dX10_count_0 : decode cX10_count 0 = .ok (.iload_n 1, 1) := by decide +kernel
theorem dX10_count_1 : decode cX10_count 1 = .ok (.tableswitch 110 0 9 #[55, 60, 65, 75, 80, 85, 90, 95, 100, 105], 55) := by decide +kernel
theorem dX10_count_56 : decode cX10_count 56 = .ok (.aload_n 0, 1) := by decide +kernel
theorem dX10_count_57 : decode cX10_count 57 = .ok (.getfield 71, 3) := by decide +kernel
theorem dX10_count_60 : decode cX10_count 60 = .ok (.ireturn, 1) := by decide +kernel
theorem dX10_count_61 : decode cX10_count 61 = .ok (.aload_n 0, 1) := by decide +kernel
theorem dX10_count_62 : decode cX10_count 62 = .ok (.invokevirtual 227, 3) := by decide +kernel
theorem dX10_count_65 : decode cX10_count 65 = .ok (.ireturn, 1) := by decide +kernel
theorem dX10_count_66 : decode cX10_count 66 = .ok (.aload_n 0, 1) := by decide +kernel
theorem dX10_count_67 : decode cX10_count 67 = .ok (.getfield 71, 3) := by decide +kernel
theorem dX10_count_70 : decode cX10_count 70 = .ok (.aload_n 0, 1) := by decide +kernel
theorem dX10_count_71 : decode cX10_count 71 = .ok (.invokevirtual 227, 3) := by decide +kernel
theorem dX10_count_74 : decode cX10_count 74 = .ok (.isub, 1) := by decide +kernel
theorem dX10_count_75 : decode cX10_count 75 = .ok (.ireturn, 1) := by decide +kernel
theorem dX10_count_76 : decode cX10_count 76 = .ok (.aload_n 0, 1) := by decide +kernel
theorem dX10_count_77 : decode cX10_count 77 = .ok (.invokevirtual 224, 3) := by decide +kernel
theorem dX10_count_80 : decode cX10_count 80 = .ok (.ireturn, 1) := by decide +kernel
theorem dX10_count_81 : decode cX10_count 81 = .ok (.aload_n 0, 1) := by decide +kernel
theorem dX10_count_82 : decode cX10_count 82 = .ok (.getfield 74, 3) := by decide +kernel
theorem dX10_count_85 : decode cX10_count 85 = .ok (.ireturn, 1) := by decide +kernel
theorem dX10_count_86 : decode cX10_count 86 = .ok (.aload_n 0, 1) := by decide +kernel
theorem dX10_count_87 : decode cX10_count 87 = .ok (.getfield 77, 3) := by decide +kernel
theorem dX10_count_90 : decode cX10_count 90 = .ok (.ireturn, 1) := by decide +kernel
theorem dX10_count_91 : decode cX10_count 91 = .ok (.aload_n 0, 1) := by decide +kernel
theorem dX10_count_92 : decode cX10_count 92 = .ok (.getfield 60, 3) := by decide +kernel
theorem dX10_count_95 : decode cX10_count 95 = .ok (.ireturn, 1) := by decide +kernel
theorem dX10_count_96 : decode cX10_count 96 = .ok (.aload_n 0, 1) := by decide +kernel
theorem dX10_count_97 : decode cX10_count 97 = .ok (.getfield 64, 3) := by decide +kernel
theorem dX10_count_100 : decode cX10_count 100 = .ok (.ireturn, 1) := by decide +kernel
theorem dX10_count_101 : decode cX10_count 101 = .ok (.aload_n 0, 1) := by decide +kernel
theorem dX10_count_102 : decode cX10_count 102 = .ok (.getfield 80, 3) := by decide +kernel
theorem dX10_count_105 : decode cX10_count 105 = .ok (.ireturn, 1) := by decide +kernel
theorem dX10_count_106 : decode cX10_count 106 = .ok (.aload_n 0, 1) := by decide +kernel
theorem dX10_count_107 : decode cX10_count 107 = .ok (.getfield 101, 3) := by decide +kernel
theorem dX10_count_110 : decode cX10_count 110 = .ok (.ireturn, 1) := by decide +kernel
theorem dX10_count_111 : decode cX10_count 111 = .ok (.sipush (-1003), 3) := by decide +kernel
theorem dX10_count_114 : decode cX10_count 114 = .ok (.ireturn, 1) := by decide +kernel
theorem dX10_depthOf_0 : decode cX10_depthOf 0 = .ok (.iconst 0, 1) := by decide +kernel
theorem dX10_depthOf_1 : decode cX10_depthOf 1 = .ok (.istore_n 2, 1) := by decide +kernel
theorem dX10_depthOf_2 : decode cX10_depthOf 2 = .ok (.aload_n 0, 1) := by decide +kernel
theorem dX10_depthOf_3 : decode cX10_depthOf 3 = .ok (.getfield 36, 3) := by decide +kernel
theorem dX10_depthOf_6 : decode cX10_depthOf 6 = .ok (.iload_n 1, 1) := by decide +kernel
theorem dX10_depthOf_7 : decode cX10_depthOf 7 = .ok (.iaload, 1) := by decide +kernel
theorem dX10_depthOf_8 : decode cX10_depthOf 8 = .ok (.istore_n 3, 1) := by decide +kernel
theorem dX10_depthOf_9 : decode cX10_depthOf 9 = .ok (.iload_n 3, 1) := by decide +kernel
theorem dX10_depthOf_10 : decode cX10_depthOf 10 = .ok (.ifCond .lt 16, 3) := by decide +kernel
theorem dX10_depthOf_13 : decode cX10_depthOf 13 = .ok (.iinc 2 1, 3) := by decide +kernel
theorem dX10_depthOf_16 : decode cX10_depthOf 16 = .ok (.aload_n 0, 1) := by decide +kernel
theorem dX10_depthOf_17 : decode cX10_depthOf 17 = .ok (.getfield 36, 3) := by decide +kernel
theorem dX10_depthOf_20 : decode cX10_depthOf 20 = .ok (.iload_n 3, 1) := by decide +kernel
theorem dX10_depthOf_21 : decode cX10_depthOf 21 = .ok (.iaload, 1) := by decide +kernel
theorem dX10_depthOf_22 : decode cX10_depthOf 22 = .ok (.istore_n 3, 1) := by decide +kernel
theorem dX10_depthOf_23 : decode cX10_depthOf 23 = .ok (.goto (-14), 3) := by decide +kernel
theorem dX10_depthOf_26 : decode cX10_depthOf 26 = .ok (.iload_n 2, 1) := by decide +kernel
theorem dX10_depthOf_27 : decode cX10_depthOf 27 = .ok (.ireturn, 1) := by decide +kernel
theorem dX10_childrenOf_0 : decode cX10_childrenOf 0 = .ok (.iconst 0, 1) := by decide +kernel
theorem dX10_childrenOf_1 : decode cX10_childrenOf 1 = .ok (.istore_n 2, 1) := by decide +kernel
theorem dX10_childrenOf_2 : decode cX10_childrenOf 2 = .ok (.iconst 0, 1) := by decide +kernel
theorem dX10_childrenOf_3 : decode cX10_childrenOf 3 = .ok (.istore_n 3, 1) := by decide +kernel
theorem dX10_childrenOf_4 : decode cX10_childrenOf 4 = .ok (.iload_n 3, 1) := by decide +kernel
theorem dX10_childrenOf_5 : decode cX10_childrenOf 5 = .ok (.aload_n 0, 1) := by decide +kernel
theorem dX10_childrenOf_6 : decode cX10_childrenOf 6 = .ok (.getfield 71, 3) := by decide +kernel
theorem dX10_childrenOf_9 : decode cX10_childrenOf 9 = .ok (.if_icmp .ge 27, 3) := by decide +kernel
theorem dX10_childrenOf_12 : decode cX10_childrenOf 12 = .ok (.iload_n 2, 1) := by decide +kernel
theorem dX10_childrenOf_13 : decode cX10_childrenOf 13 = .ok (.aload_n 0, 1) := by decide +kernel
theorem dX10_childrenOf_14 : decode cX10_childrenOf 14 = .ok (.getfield 36, 3) := by decide +kernel
theorem dX10_childrenOf_17 : decode cX10_childrenOf 17 = .ok (.iload_n 3, 1) := by decide +kernel
theorem dX10_childrenOf_18 : decode cX10_childrenOf 18 = .ok (.iaload, 1) := by decide +kernel
theorem dX10_childrenOf_19 : decode cX10_childrenOf 19 = .ok (.iload_n 1, 1) := by decide +kernel
theorem dX10_childrenOf_20 : decode cX10_childrenOf 20 = .ok (.if_icmp .ne 7, 3) := by decide +kernel
theorem dX10_childrenOf_23 : decode cX10_childrenOf 23 = .ok (.iconst 1, 1) := by decide +kernel
theorem dX10_childrenOf_24 : decode cX10_childrenOf 24 = .ok (.goto 4, 3) := by decide +kernel
theorem dX10_childrenOf_27 : decode cX10_childrenOf 27 = .ok (.iconst 0, 1) := by decide +kernel
theorem dX10_childrenOf_28 : decode cX10_childrenOf 28 = .ok (.iadd, 1) := by decide +kernel
theorem dX10_childrenOf_29 : decode cX10_childrenOf 29 = .ok (.istore_n 2, 1) := by decide +kernel
theorem dX10_childrenOf_30 : decode cX10_childrenOf 30 = .ok (.iinc 3 1, 3) := by decide +kernel
theorem dX10_childrenOf_33 : decode cX10_childrenOf 33 = .ok (.goto (-29), 3) := by decide +kernel
theorem dX10_childrenOf_36 : decode cX10_childrenOf 36 = .ok (.iload_n 2, 1) := by decide +kernel
theorem dX10_childrenOf_37 : decode cX10_childrenOf 37 = .ok (.ireturn, 1) := by decide +kernel
theorem dX10_contour_0 : decode cX10_contour 0 = .ok (.aload_n 0, 1) := by decide +kernel
theorem dX10_contour_1 : decode cX10_contour 1 = .ok (.iload_n 1, 1) := by decide +kernel
theorem dX10_contour_2 : decode cX10_contour 2 = .ok (.invokevirtual 211, 3) := by decide +kernel
theorem dX10_contour_5 : decode cX10_contour 5 = .ok (.ifCond .eq 7, 3) := by decide +kernel
theorem dX10_contour_8 : decode cX10_contour 8 = .ok (.sipush (-1001), 3) := by decide +kernel
theorem dX10_contour_11 : decode cX10_contour 11 = .ok (.ireturn, 1) := by decide +kernel
theorem dX10_contour_12 : decode cX10_contour 12 = .ok (.iload_n 2, 1) := by decide +kernel
theorem dX10_contour_13 : decode cX10_contour 13 = .ok (.tableswitch 118 0 8 #[51, 66, 73, 79, 86, 92, 99, 105, 112], 51) := by decide +kernel
theorem dX10_contour_64 : decode cX10_contour 64 = .ok (.aload_n 0, 1) := by decide +kernel
theorem dX10_contour_65 : decode cX10_contour 65 = .ok (.getfield 30, 3) := by decide +kernel
theorem dX10_contour_68 : decode cX10_contour 68 = .ok (.iload_n 1, 1) := by decide +kernel
theorem dX10_contour_69 : decode cX10_contour 69 = .ok (.iaload, 1) := by decide +kernel
theorem dX10_contour_70 : decode cX10_contour 70 = .ok (.ifCond .le 7, 3) := by decide +kernel
theorem dX10_contour_73 : decode cX10_contour 73 = .ok (.iconst 0, 1) := by decide +kernel
theorem dX10_contour_74 : decode cX10_contour 74 = .ok (.goto 4, 3) := by decide +kernel
theorem dX10_contour_77 : decode cX10_contour 77 = .ok (.iconst 1, 1) := by decide +kernel
theorem dX10_contour_78 : decode cX10_contour 78 = .ok (.ireturn, 1) := by decide +kernel
theorem dX10_contour_79 : decode cX10_contour 79 = .ok (.aload_n 0, 1) := by decide +kernel
theorem dX10_contour_80 : decode cX10_contour 80 = .ok (.getfield 36, 3) := by decide +kernel
theorem dX10_contour_83 : decode cX10_contour 83 = .ok (.iload_n 1, 1) := by decide +kernel
theorem dX10_contour_84 : decode cX10_contour 84 = .ok (.iaload, 1) := by decide +kernel
theorem dX10_contour_85 : decode cX10_contour 85 = .ok (.ireturn, 1) := by decide +kernel
theorem dX10_contour_86 : decode cX10_contour 86 = .ok (.aload_n 0, 1) := by decide +kernel
theorem dX10_contour_87 : decode cX10_contour 87 = .ok (.iload_n 1, 1) := by decide +kernel
theorem dX10_contour_88 : decode cX10_contour 88 = .ok (.invokevirtual 230, 3) := by decide +kernel
theorem dX10_contour_91 : decode cX10_contour 91 = .ok (.ireturn, 1) := by decide +kernel
theorem dX10_contour_92 : decode cX10_contour 92 = .ok (.aload_n 0, 1) := by decide +kernel
theorem dX10_contour_93 : decode cX10_contour 93 = .ok (.getfield 27, 3) := by decide +kernel
theorem dX10_contour_96 : decode cX10_contour 96 = .ok (.iload_n 1, 1) := by decide +kernel
theorem dX10_contour_97 : decode cX10_contour 97 = .ok (.iaload, 1) := by decide +kernel
theorem dX10_contour_98 : decode cX10_contour 98 = .ok (.ireturn, 1) := by decide +kernel
theorem dX10_contour_99 : decode cX10_contour 99 = .ok (.aload_n 0, 1) := by decide +kernel
theorem dX10_contour_100 : decode cX10_contour 100 = .ok (.iload_n 1, 1) := by decide +kernel
theorem dX10_contour_101 : decode cX10_contour 101 = .ok (.invokevirtual 173, 3) := by decide +kernel
theorem dX10_contour_104 : decode cX10_contour 104 = .ok (.ireturn, 1) := by decide +kernel
theorem dX10_contour_105 : decode cX10_contour 105 = .ok (.aload_n 0, 1) := by decide +kernel
theorem dX10_contour_106 : decode cX10_contour 106 = .ok (.getfield 30, 3) := by decide +kernel
theorem dX10_contour_109 : decode cX10_contour 109 = .ok (.iload_n 1, 1) := by decide +kernel
theorem dX10_contour_110 : decode cX10_contour 110 = .ok (.iaload, 1) := by decide +kernel
theorem dX10_contour_111 : decode cX10_contour 111 = .ok (.ireturn, 1) := by decide +kernel
theorem dX10_contour_112 : decode cX10_contour 112 = .ok (.aload_n 0, 1) := by decide +kernel
theorem dX10_contour_113 : decode cX10_contour 113 = .ok (.iload_n 1, 1) := by decide +kernel
theorem dX10_contour_114 : decode cX10_contour 114 = .ok (.invokevirtual 129, 3) := by decide +kernel
theorem dX10_contour_117 : decode cX10_contour 117 = .ok (.ireturn, 1) := by decide +kernel
theorem dX10_contour_118 : decode cX10_contour 118 = .ok (.aload_n 0, 1) := by decide +kernel
theorem dX10_contour_119 : decode cX10_contour 119 = .ok (.getfield 33, 3) := by decide +kernel
theorem dX10_contour_122 : decode cX10_contour 122 = .ok (.iload_n 1, 1) := by decide +kernel
theorem dX10_contour_123 : decode cX10_contour 123 = .ok (.iaload, 1) := by decide +kernel
theorem dX10_contour_124 : decode cX10_contour 124 = .ok (.ireturn, 1) := by decide +kernel
theorem dX10_contour_125 : decode cX10_contour 125 = .ok (.aload_n 0, 1) := by decide +kernel
theorem dX10_contour_126 : decode cX10_contour 126 = .ok (.iload_n 1, 1) := by decide +kernel
theorem dX10_contour_127 : decode cX10_contour 127 = .ok (.invokevirtual 233, 3) := by decide +kernel
theorem dX10_contour_130 : decode cX10_contour 130 = .ok (.ireturn, 1) := by decide +kernel
theorem dX10_contour_131 : decode cX10_contour 131 = .ok (.sipush (-1003), 3) := by decide +kernel
theorem dX10_contour_134 : decode cX10_contour 134 = .ok (.ireturn, 1) := by decide +kernel
theorem dX10_vertex_0 : decode cX10_vertex 0 = .ok (.aload_n 0, 1) := by decide +kernel
theorem dX10_vertex_1 : decode cX10_vertex 1 = .ok (.iload_n 1, 1) := by decide +kernel
theorem dX10_vertex_2 : decode cX10_vertex 2 = .ok (.invokevirtual 211, 3) := by decide +kernel
theorem dX10_vertex_5 : decode cX10_vertex 5 = .ok (.ifCond .eq 7, 3) := by decide +kernel
theorem dX10_vertex_8 : decode cX10_vertex 8 = .ok (.sipush (-1001), 3) := by decide +kernel
theorem dX10_vertex_11 : decode cX10_vertex 11 = .ok (.ireturn, 1) := by decide +kernel
theorem dX10_vertex_12 : decode cX10_vertex 12 = .ok (.aload_n 0, 1) := by decide +kernel
theorem dX10_vertex_13 : decode cX10_vertex 13 = .ok (.iload_n 1, 1) := by decide +kernel
theorem dX10_vertex_14 : decode cX10_vertex 14 = .ok (.iload_n 2, 1) := by decide +kernel
theorem dX10_vertex_15 : decode cX10_vertex 15 = .ok (.invokevirtual 214, 3) := by decide +kernel
theorem dX10_vertex_18 : decode cX10_vertex 18 = .ok (.ifCond .eq 7, 3) := by decide +kernel
theorem dX10_vertex_21 : decode cX10_vertex 21 = .ok (.sipush (-1002), 3) := by decide +kernel
theorem dX10_vertex_24 : decode cX10_vertex 24 = .ok (.ireturn, 1) := by decide +kernel
theorem dX10_vertex_25 : decode cX10_vertex 25 = .ok (.aload_n 0, 1) := by decide +kernel
theorem dX10_vertex_26 : decode cX10_vertex 26 = .ok (.getfield 24, 3) := by decide +kernel
theorem dX10_vertex_29 : decode cX10_vertex 29 = .ok (.iload_n 1, 1) := by decide +kernel
theorem dX10_vertex_30 : decode cX10_vertex 30 = .ok (.iaload, 1) := by decide +kernel
theorem dX10_vertex_31 : decode cX10_vertex 31 = .ok (.iload_n 2, 1) := by decide +kernel
theorem dX10_vertex_32 : decode cX10_vertex 32 = .ok (.iadd, 1) := by decide +kernel
theorem dX10_vertex_33 : decode cX10_vertex 33 = .ok (.istore 4, 2) := by decide +kernel
theorem dX10_vertex_35 : decode cX10_vertex 35 = .ok (.iload_n 3, 1) := by decide +kernel
theorem dX10_vertex_36 : decode cX10_vertex 36 = .ok (.tableswitch 115 0 4 #[36, 44, 52, 68, 76], 36) := by decide +kernel
theorem dX10_vertex_72 : decode cX10_vertex 72 = .ok (.aload_n 0, 1) := by decide +kernel
theorem dX10_vertex_73 : decode cX10_vertex 73 = .ok (.getfield 39, 3) := by decide +kernel
theorem dX10_vertex_76 : decode cX10_vertex 76 = .ok (.iload 4, 2) := by decide +kernel
theorem dX10_vertex_78 : decode cX10_vertex 78 = .ok (.iaload, 1) := by decide +kernel
theorem dX10_vertex_79 : decode cX10_vertex 79 = .ok (.ireturn, 1) := by decide +kernel
theorem dX10_vertex_80 : decode cX10_vertex 80 = .ok (.aload_n 0, 1) := by decide +kernel
theorem dX10_vertex_81 : decode cX10_vertex 81 = .ok (.getfield 42, 3) := by decide +kernel
theorem dX10_vertex_84 : decode cX10_vertex 84 = .ok (.iload 4, 2) := by decide +kernel
theorem dX10_vertex_86 : decode cX10_vertex 86 = .ok (.iaload, 1) := by decide +kernel
theorem dX10_vertex_87 : decode cX10_vertex 87 = .ok (.ireturn, 1) := by decide +kernel
theorem dX10_vertex_88 : decode cX10_vertex 88 = .ok (.aload_n 0, 1) := by decide +kernel
theorem dX10_vertex_89 : decode cX10_vertex 89 = .ok (.getfield 45, 3) := by decide +kernel
theorem dX10_vertex_92 : decode cX10_vertex 92 = .ok (.iload 4, 2) := by decide +kernel
theorem dX10_vertex_94 : decode cX10_vertex 94 = .ok (.baload, 1) := by decide +kernel
theorem dX10_vertex_95 : decode cX10_vertex 95 = .ok (.ifCond .eq 7, 3) := by decide +kernel
theorem dX10_vertex_98 : decode cX10_vertex 98 = .ok (.iconst 1, 1) := by decide +kernel
theorem dX10_vertex_99 : decode cX10_vertex 99 = .ok (.goto 4, 3) := by decide +kernel
theorem dX10_vertex_102 : decode cX10_vertex 102 = .ok (.iconst 0, 1) := by decide +kernel
theorem dX10_vertex_103 : decode cX10_vertex 103 = .ok (.ireturn, 1) := by decide +kernel
theorem dX10_vertex_104 : decode cX10_vertex 104 = .ok (.aload_n 0, 1) := by decide +kernel
theorem dX10_vertex_105 : decode cX10_vertex 105 = .ok (.iload_n 1, 1) := by decide +kernel
theorem dX10_vertex_106 : decode cX10_vertex 106 = .ok (.iload 4, 2) := by decide +kernel
theorem dX10_vertex_108 : decode cX10_vertex 108 = .ok (.invokevirtual 199, 3) := by decide +kernel
theorem dX10_vertex_111 : decode cX10_vertex 111 = .ok (.ireturn, 1) := by decide +kernel
theorem dX10_vertex_112 : decode cX10_vertex 112 = .ok (.aload_n 0, 1) := by decide +kernel
theorem dX10_vertex_113 : decode cX10_vertex 113 = .ok (.getfield 45, 3) := by decide +kernel
theorem dX10_vertex_116 : decode cX10_vertex 116 = .ok (.iload 4, 2) := by decide +kernel
theorem dX10_vertex_118 : decode cX10_vertex 118 = .ok (.baload, 1) := by decide +kernel
theorem dX10_vertex_119 : decode cX10_vertex 119 = .ok (.ifCond .eq 16, 3) := by decide +kernel
theorem dX10_vertex_122 : decode cX10_vertex 122 = .ok (.aload_n 0, 1) := by decide +kernel
theorem dX10_vertex_123 : decode cX10_vertex 123 = .ok (.iload_n 1, 1) := by decide +kernel
theorem dX10_vertex_124 : decode cX10_vertex 124 = .ok (.iload 4, 2) := by decide +kernel
theorem dX10_vertex_126 : decode cX10_vertex 126 = .ok (.invokevirtual 202, 3) := by decide +kernel
theorem dX10_vertex_129 : decode cX10_vertex 129 = .ok (.ifCond .eq 20, 3) := by decide +kernel
theorem dX10_vertex_132 : decode cX10_vertex 132 = .ok (.goto 13, 3) := by decide +kernel
theorem dX10_vertex_135 : decode cX10_vertex 135 = .ok (.aload_n 0, 1) := by decide +kernel
theorem dX10_vertex_136 : decode cX10_vertex 136 = .ok (.iload_n 1, 1) := by decide +kernel
theorem dX10_vertex_137 : decode cX10_vertex 137 = .ok (.iload 4, 2) := by decide +kernel
theorem dX10_vertex_139 : decode cX10_vertex 139 = .ok (.invokevirtual 221, 3) := by decide +kernel
theorem dX10_vertex_142 : decode cX10_vertex 142 = .ok (.ifCond .eq 7, 3) := by decide +kernel
theorem dX10_vertex_145 : decode cX10_vertex 145 = .ok (.iconst 1, 1) := by decide +kernel
theorem dX10_vertex_146 : decode cX10_vertex 146 = .ok (.goto 4, 3) := by decide +kernel
theorem dX10_vertex_149 : decode cX10_vertex 149 = .ok (.iconst 0, 1) := by decide +kernel
theorem dX10_vertex_150 : decode cX10_vertex 150 = .ok (.ireturn, 1) := by decide +kernel
theorem dX10_vertex_151 : decode cX10_vertex 151 = .ok (.sipush (-1003), 3) := by decide +kernel
theorem dX10_vertex_154 : decode cX10_vertex 154 = .ok (.ireturn, 1) := by decide +kernel
theorem dX10_bySize_0 : decode cX10_bySize 0 = .ok (.iload_n 1, 1) := by decide +kernel
theorem dX10_bySize_1 : decode cX10_bySize 1 = .ok (.ifCond .ge 7, 3) := by decide +kernel
theorem dX10_bySize_4 : decode cX10_bySize 4 = .ok (.sipush (-1003), 3) := by decide +kernel
theorem dX10_bySize_7 : decode cX10_bySize 7 = .ok (.ireturn, 1) := by decide +kernel
theorem dX10_bySize_8 : decode cX10_bySize 8 = .ok (.iconst 0, 1) := by decide +kernel
theorem dX10_bySize_9 : decode cX10_bySize 9 = .ok (.istore_n 2, 1) := by decide +kernel
theorem dX10_bySize_10 : decode cX10_bySize 10 = .ok (.iload_n 2, 1) := by decide +kernel
theorem dX10_bySize_11 : decode cX10_bySize 11 = .ok (.aload_n 0, 1) := by decide +kernel
theorem dX10_bySize_12 : decode cX10_bySize 12 = .ok (.getfield 71, 3) := by decide +kernel
theorem dX10_bySize_15 : decode cX10_bySize 15 = .ok (.if_icmp .ge 85, 3) := by decide +kernel
theorem dX10_bySize_18 : decode cX10_bySize 18 = .ok (.iconst 0, 1) := by decide +kernel
theorem dX10_bySize_19 : decode cX10_bySize 19 = .ok (.istore_n 3, 1) := by decide +kernel
theorem dX10_bySize_20 : decode cX10_bySize 20 = .ok (.aload_n 0, 1) := by decide +kernel
theorem dX10_bySize_21 : decode cX10_bySize 21 = .ok (.iload_n 2, 1) := by decide +kernel
theorem dX10_bySize_22 : decode cX10_bySize 22 = .ok (.invokevirtual 129, 3) := by decide +kernel
theorem dX10_bySize_25 : decode cX10_bySize 25 = .ok (.invokestatic 138, 3) := by decide +kernel
theorem dX10_bySize_28 : decode cX10_bySize 28 = .ok (.istore 4, 2) := by decide +kernel
theorem dX10_bySize_30 : decode cX10_bySize 30 = .ok (.iconst 0, 1) := by decide +kernel
theorem dX10_bySize_31 : decode cX10_bySize 31 = .ok (.istore 5, 2) := by decide +kernel
theorem dX10_bySize_33 : decode cX10_bySize 33 = .ok (.iload 5, 2) := by decide +kernel
theorem dX10_bySize_35 : decode cX10_bySize 35 = .ok (.aload_n 0, 1) := by decide +kernel
theorem dX10_bySize_36 : decode cX10_bySize 36 = .ok (.getfield 71, 3) := by decide +kernel
theorem dX10_bySize_39 : decode cX10_bySize 39 = .ok (.if_icmp .ge 48, 3) := by decide +kernel
theorem dX10_bySize_42 : decode cX10_bySize 42 = .ok (.aload_n 0, 1) := by decide +kernel
theorem dX10_bySize_43 : decode cX10_bySize 43 = .ok (.iload 5, 2) := by decide +kernel
theorem dX10_bySize_45 : decode cX10_bySize 45 = .ok (.invokevirtual 129, 3) := by decide +kernel
theorem dX10_bySize_48 : decode cX10_bySize 48 = .ok (.invokestatic 138, 3) := by decide +kernel
theorem dX10_bySize_51 : decode cX10_bySize 51 = .ok (.istore 6, 2) := by decide +kernel
theorem dX10_bySize_53 : decode cX10_bySize 53 = .ok (.iload_n 3, 1) := by decide +kernel
theorem dX10_bySize_54 : decode cX10_bySize 54 = .ok (.iload 6, 2) := by decide +kernel
theorem dX10_bySize_56 : decode cX10_bySize 56 = .ok (.iload 4, 2) := by decide +kernel
theorem dX10_bySize_58 : decode cX10_bySize 58 = .ok (.if_icmp .gt 16, 3) := by decide +kernel
theorem dX10_bySize_61 : decode cX10_bySize 61 = .ok (.iload 6, 2) := by decide +kernel
theorem dX10_bySize_63 : decode cX10_bySize 63 = .ok (.iload 4, 2) := by decide +kernel
theorem dX10_bySize_65 : decode cX10_bySize 65 = .ok (.if_icmp .ne 13, 3) := by decide +kernel
theorem dX10_bySize_68 : decode cX10_bySize 68 = .ok (.iload 5, 2) := by decide +kernel
theorem dX10_bySize_70 : decode cX10_bySize 70 = .ok (.iload_n 2, 1) := by decide +kernel
theorem dX10_bySize_71 : decode cX10_bySize 71 = .ok (.if_icmp .ge 7, 3) := by decide +kernel
theorem dX10_bySize_74 : decode cX10_bySize 74 = .ok (.iconst 1, 1) := by decide +kernel
theorem dX10_bySize_75 : decode cX10_bySize 75 = .ok (.goto 4, 3) := by decide +kernel
theorem dX10_bySize_78 : decode cX10_bySize 78 = .ok (.iconst 0, 1) := by decide +kernel
theorem dX10_bySize_79 : decode cX10_bySize 79 = .ok (.iadd, 1) := by decide +kernel
theorem dX10_bySize_80 : decode cX10_bySize 80 = .ok (.istore_n 3, 1) := by decide +kernel
theorem dX10_bySize_81 : decode cX10_bySize 81 = .ok (.iinc 5 1, 3) := by decide +kernel
theorem dX10_bySize_84 : decode cX10_bySize 84 = .ok (.goto (-51), 3) := by decide +kernel
theorem dX10_bySize_87 : decode cX10_bySize 87 = .ok (.iload_n 3, 1) := by decide +kernel
theorem dX10_bySize_88 : decode cX10_bySize 88 = .ok (.iload_n 1, 1) := by decide +kernel
theorem dX10_bySize_89 : decode cX10_bySize 89 = .ok (.if_icmp .ne 5, 3) := by decide +kernel
theorem dX10_bySize_92 : decode cX10_bySize 92 = .ok (.iload_n 2, 1) := by decide +kernel
theorem dX10_bySize_93 : decode cX10_bySize 93 = .ok (.ireturn, 1) := by decide +kernel
theorem dX10_bySize_94 : decode cX10_bySize 94 = .ok (.iinc 2 1, 3) := by decide +kernel
theorem dX10_bySize_97 : decode cX10_bySize 97 = .ok (.goto (-87), 3) := by decide +kernel
theorem dX10_bySize_100 : decode cX10_bySize 100 = .ok (.sipush (-1006), 3) := by decide +kernel
theorem dX10_bySize_103 : decode cX10_bySize 103 = .ok (.ireturn, 1) := by decide +kernel
theorem dX10_chainCode_0 : decode cX10_chainCode 0 = .ok (.aload_n 0, 1) := by decide +kernel
theorem dX10_chainCode_1 : decode cX10_chainCode 1 = .ok (.iload_n 1, 1) := by decide +kernel
theorem dX10_chainCode_2 : decode cX10_chainCode 2 = .ok (.invokevirtual 211, 3) := by decide +kernel
theorem dX10_chainCode_5 : decode cX10_chainCode 5 = .ok (.ifCond .eq 7, 3) := by decide +kernel
theorem dX10_chainCode_8 : decode cX10_chainCode 8 = .ok (.sipush (-1001), 3) := by decide +kernel
theorem dX10_chainCode_11 : decode cX10_chainCode 11 = .ok (.ireturn, 1) := by decide +kernel
theorem dX10_chainCode_12 : decode cX10_chainCode 12 = .ok (.iload_n 2, 1) := by decide +kernel
theorem dX10_chainCode_13 : decode cX10_chainCode 13 = .ok (.iconst (-1), 1) := by decide +kernel
theorem dX10_chainCode_14 : decode cX10_chainCode 14 = .ok (.if_icmp .ge 7, 3) := by decide +kernel
theorem dX10_chainCode_17 : decode cX10_chainCode 17 = .ok (.sipush (-1003), 3) := by decide +kernel
theorem dX10_chainCode_20 : decode cX10_chainCode 20 = .ok (.ireturn, 1) := by decide +kernel
theorem dX10_chainCode_21 : decode cX10_chainCode 21 = .ok (.iconst 0, 1) := by decide +kernel
theorem dX10_chainCode_22 : decode cX10_chainCode 22 = .ok (.istore_n 3, 1) := by decide +kernel
theorem dX10_chainCode_23 : decode cX10_chainCode 23 = .ok (.aload_n 0, 1) := by decide +kernel
theorem dX10_chainCode_24 : decode cX10_chainCode 24 = .ok (.getfield 24, 3) := by decide +kernel
theorem dX10_chainCode_27 : decode cX10_chainCode 27 = .ok (.iload_n 1, 1) := by decide +kernel
theorem dX10_chainCode_28 : decode cX10_chainCode 28 = .ok (.iaload, 1) := by decide +kernel
theorem dX10_chainCode_29 : decode cX10_chainCode 29 = .ok (.istore 4, 2) := by decide +kernel
theorem dX10_chainCode_31 : decode cX10_chainCode 31 = .ok (.iload 4, 2) := by decide +kernel
theorem dX10_chainCode_33 : decode cX10_chainCode 33 = .ok (.aload_n 0, 1) := by decide +kernel
theorem dX10_chainCode_34 : decode cX10_chainCode 34 = .ok (.iload_n 1, 1) := by decide +kernel
theorem dX10_chainCode_35 : decode cX10_chainCode 35 = .ok (.invokevirtual 141, 3) := by decide +kernel
theorem dX10_chainCode_38 : decode cX10_chainCode 38 = .ok (.if_icmp .ge 147, 3) := by decide +kernel
theorem dX10_chainCode_41 : decode cX10_chainCode 41 = .ok (.aload_n 0, 1) := by decide +kernel
theorem dX10_chainCode_42 : decode cX10_chainCode 42 = .ok (.iload_n 1, 1) := by decide +kernel
theorem dX10_chainCode_43 : decode cX10_chainCode 43 = .ok (.iload 4, 2) := by decide +kernel
theorem dX10_chainCode_45 : decode cX10_chainCode 45 = .ok (.invokevirtual 144, 3) := by decide +kernel
theorem dX10_chainCode_48 : decode cX10_chainCode 48 = .ok (.istore 5, 2) := by decide +kernel
theorem dX10_chainCode_50 : decode cX10_chainCode 50 = .ok (.aload_n 0, 1) := by decide +kernel
theorem dX10_chainCode_51 : decode cX10_chainCode 51 = .ok (.getfield 39, 3) := by decide +kernel
theorem dX10_chainCode_54 : decode cX10_chainCode 54 = .ok (.iload 5, 2) := by decide +kernel
theorem dX10_chainCode_56 : decode cX10_chainCode 56 = .ok (.iaload, 1) := by decide +kernel
theorem dX10_chainCode_57 : decode cX10_chainCode 57 = .ok (.aload_n 0, 1) := by decide +kernel
theorem dX10_chainCode_58 : decode cX10_chainCode 58 = .ok (.getfield 39, 3) := by decide +kernel
theorem dX10_chainCode_61 : decode cX10_chainCode 61 = .ok (.iload 4, 2) := by decide +kernel
theorem dX10_chainCode_63 : decode cX10_chainCode 63 = .ok (.iaload, 1) := by decide +kernel
theorem dX10_chainCode_64 : decode cX10_chainCode 64 = .ok (.isub, 1) := by decide +kernel
theorem dX10_chainCode_65 : decode cX10_chainCode 65 = .ok (.istore 6, 2) := by decide +kernel
theorem dX10_chainCode_67 : decode cX10_chainCode 67 = .ok (.aload_n 0, 1) := by decide +kernel
theorem dX10_chainCode_68 : decode cX10_chainCode 68 = .ok (.getfield 42, 3) := by decide +kernel
theorem dX10_chainCode_71 : decode cX10_chainCode 71 = .ok (.iload 5, 2) := by decide +kernel
theorem dX10_chainCode_73 : decode cX10_chainCode 73 = .ok (.iaload, 1) := by decide +kernel
theorem dX10_chainCode_74 : decode cX10_chainCode 74 = .ok (.aload_n 0, 1) := by decide +kernel
theorem dX10_chainCode_75 : decode cX10_chainCode 75 = .ok (.getfield 42, 3) := by decide +kernel
theorem dX10_chainCode_78 : decode cX10_chainCode 78 = .ok (.iload 4, 2) := by decide +kernel
theorem dX10_chainCode_80 : decode cX10_chainCode 80 = .ok (.iaload, 1) := by decide +kernel
theorem dX10_chainCode_81 : decode cX10_chainCode 81 = .ok (.isub, 1) := by decide +kernel
theorem dX10_chainCode_82 : decode cX10_chainCode 82 = .ok (.istore 7, 2) := by decide +kernel
theorem dX10_chainCode_84 : decode cX10_chainCode 84 = .ok (.iload 6, 2) := by decide +kernel
theorem dX10_chainCode_86 : decode cX10_chainCode 86 = .ok (.invokestatic 138, 3) := by decide +kernel
theorem dX10_chainCode_89 : decode cX10_chainCode 89 = .ok (.iload 7, 2) := by decide +kernel
theorem dX10_chainCode_91 : decode cX10_chainCode 91 = .ok (.invokestatic 138, 3) := by decide +kernel
theorem dX10_chainCode_94 : decode cX10_chainCode 94 = .ok (.iadd, 1) := by decide +kernel
theorem dX10_chainCode_95 : decode cX10_chainCode 95 = .ok (.istore 8, 2) := by decide +kernel
theorem dX10_chainCode_97 : decode cX10_chainCode 97 = .ok (.aload_n 0, 1) := by decide +kernel
theorem dX10_chainCode_98 : decode cX10_chainCode 98 = .ok (.getfield 57, 3) := by decide +kernel
theorem dX10_chainCode_101 : decode cX10_chainCode 101 = .ok (.iload_n 3, 1) := by decide +kernel
theorem dX10_chainCode_102 : decode cX10_chainCode 102 = .ok (.iload 6, 2) := by decide +kernel
theorem dX10_chainCode_104 : decode cX10_chainCode 104 = .ok (.ifCond .le 8, 3) := by decide +kernel
theorem dX10_chainCode_107 : decode cX10_chainCode 107 = .ok (.bipush 82, 2) := by decide +kernel
theorem dX10_chainCode_109 : decode cX10_chainCode 109 = .ok (.goto 25, 3) := by decide +kernel
theorem dX10_chainCode_112 : decode cX10_chainCode 112 = .ok (.iload 6, 2) := by decide +kernel
theorem dX10_chainCode_114 : decode cX10_chainCode 114 = .ok (.ifCond .ge 8, 3) := by decide +kernel
theorem dX10_chainCode_117 : decode cX10_chainCode 117 = .ok (.bipush 76, 2) := by decide +kernel
theorem dX10_chainCode_119 : decode cX10_chainCode 119 = .ok (.goto 15, 3) := by decide +kernel
theorem dX10_chainCode_122 : decode cX10_chainCode 122 = .ok (.iload 7, 2) := by decide +kernel
theorem dX10_chainCode_124 : decode cX10_chainCode 124 = .ok (.ifCond .le 8, 3) := by decide +kernel
theorem dX10_chainCode_127 : decode cX10_chainCode 127 = .ok (.bipush 68, 2) := by decide +kernel
theorem dX10_chainCode_129 : decode cX10_chainCode 129 = .ok (.goto 5, 3) := by decide +kernel
theorem dX10_chainCode_132 : decode cX10_chainCode 132 = .ok (.bipush 85, 2) := by decide +kernel
theorem dX10_chainCode_134 : decode cX10_chainCode 134 = .ok (.iastore, 1) := by decide +kernel
theorem dX10_chainCode_135 : decode cX10_chainCode 135 = .ok (.iinc 3 1, 3) := by decide +kernel
theorem dX10_chainCode_138 : decode cX10_chainCode 138 = .ok (.iload 8, 2) := by decide +kernel
theorem dX10_chainCode_140 : decode cX10_chainCode 140 = .ok (.bipush 9, 2) := by decide +kernel
theorem dX10_chainCode_142 : decode cX10_chainCode 142 = .ok (.if_icmp .le 20, 3) := by decide +kernel
theorem dX10_chainCode_145 : decode cX10_chainCode 145 = .ok (.aload_n 0, 1) := by decide +kernel
theorem dX10_chainCode_146 : decode cX10_chainCode 146 = .ok (.getfield 57, 3) := by decide +kernel
theorem dX10_chainCode_149 : decode cX10_chainCode 149 = .ok (.iload_n 3, 1) := by decide +kernel
theorem dX10_chainCode_150 : decode cX10_chainCode 150 = .ok (.bipush 48, 2) := by decide +kernel
theorem dX10_chainCode_152 : decode cX10_chainCode 152 = .ok (.iload 8, 2) := by decide +kernel
theorem dX10_chainCode_154 : decode cX10_chainCode 154 = .ok (.bipush 10, 2) := by decide +kernel
theorem dX10_chainCode_156 : decode cX10_chainCode 156 = .ok (.idiv, 1) := by decide +kernel
theorem dX10_chainCode_157 : decode cX10_chainCode 157 = .ok (.iadd, 1) := by decide +kernel
theorem dX10_chainCode_158 : decode cX10_chainCode 158 = .ok (.iastore, 1) := by decide +kernel
theorem dX10_chainCode_159 : decode cX10_chainCode 159 = .ok (.iinc 3 1, 3) := by decide +kernel
theorem dX10_chainCode_162 : decode cX10_chainCode 162 = .ok (.aload_n 0, 1) := by decide +kernel
theorem dX10_chainCode_163 : decode cX10_chainCode 163 = .ok (.getfield 57, 3) := by decide +kernel
theorem dX10_chainCode_166 : decode cX10_chainCode 166 = .ok (.iload_n 3, 1) := by decide +kernel
theorem dX10_chainCode_167 : decode cX10_chainCode 167 = .ok (.bipush 48, 2) := by decide +kernel
theorem dX10_chainCode_169 : decode cX10_chainCode 169 = .ok (.iload 8, 2) := by decide +kernel
theorem dX10_chainCode_171 : decode cX10_chainCode 171 = .ok (.bipush 10, 2) := by decide +kernel
theorem dX10_chainCode_173 : decode cX10_chainCode 173 = .ok (.irem, 1) := by decide +kernel
theorem dX10_chainCode_174 : decode cX10_chainCode 174 = .ok (.iadd, 1) := by decide +kernel
theorem dX10_chainCode_175 : decode cX10_chainCode 175 = .ok (.iastore, 1) := by decide +kernel
theorem dX10_chainCode_176 : decode cX10_chainCode 176 = .ok (.iinc 3 1, 3) := by decide +kernel
theorem dX10_chainCode_179 : decode cX10_chainCode 179 = .ok (.iinc 4 1, 3) := by decide +kernel
theorem dX10_chainCode_182 : decode cX10_chainCode 182 = .ok (.goto (-151), 3) := by decide +kernel
theorem dX10_chainCode_185 : decode cX10_chainCode 185 = .ok (.iload_n 2, 1) := by decide +kernel
theorem dX10_chainCode_186 : decode cX10_chainCode 186 = .ok (.ifCond .ge 7, 3) := by decide +kernel
theorem dX10_chainCode_189 : decode cX10_chainCode 189 = .ok (.iload_n 3, 1) := by decide +kernel
theorem dX10_chainCode_190 : decode cX10_chainCode 190 = .ok (.goto 20, 3) := by decide +kernel
theorem dX10_chainCode_193 : decode cX10_chainCode 193 = .ok (.iload_n 2, 1) := by decide +kernel
theorem dX10_chainCode_194 : decode cX10_chainCode 194 = .ok (.iload_n 3, 1) := by decide +kernel
theorem dX10_chainCode_195 : decode cX10_chainCode 195 = .ok (.if_icmp .ge 12, 3) := by decide +kernel
theorem dX10_chainCode_198 : decode cX10_chainCode 198 = .ok (.aload_n 0, 1) := by decide +kernel
theorem dX10_chainCode_199 : decode cX10_chainCode 199 = .ok (.getfield 57, 3) := by decide +kernel
theorem dX10_chainCode_202 : decode cX10_chainCode 202 = .ok (.iload_n 2, 1) := by decide +kernel
theorem dX10_chainCode_203 : decode cX10_chainCode 203 = .ok (.iaload, 1) := by decide +kernel
theorem dX10_chainCode_204 : decode cX10_chainCode 204 = .ok (.goto 6, 3) := by decide +kernel
theorem dX10_chainCode_207 : decode cX10_chainCode 207 = .ok (.sipush (-1006), 3) := by decide +kernel
theorem dX10_chainCode_210 : decode cX10_chainCode 210 = .ok (.ireturn, 1) := by decide +kernel
theorem dX10_isPoint_0 : decode cX10_isPoint 0 = .ok (.iload_n 0, 1) := by decide +kernel
theorem dX10_isPoint_1 : decode cX10_isPoint 1 = .ok (.bipush (-10), 2) := by decide +kernel
theorem dX10_isPoint_3 : decode cX10_isPoint 3 = .ok (.bipush 40, 2) := by decide +kernel
theorem dX10_isPoint_5 : decode cX10_isPoint 5 = .ok (.invokestatic 67, 3) := by decide +kernel
theorem dX10_isPoint_8 : decode cX10_isPoint 8 = .ok (.ifCond .eq 18, 3) := by decide +kernel
theorem dX10_isPoint_11 : decode cX10_isPoint 11 = .ok (.iload_n 1, 1) := by decide +kernel
theorem dX10_isPoint_12 : decode cX10_isPoint 12 = .ok (.bipush (-10), 2) := by decide +kernel
theorem dX10_isPoint_14 : decode cX10_isPoint 14 = .ok (.bipush 40, 2) := by decide +kernel
theorem dX10_isPoint_16 : decode cX10_isPoint 16 = .ok (.invokestatic 67, 3) := by decide +kernel
theorem dX10_isPoint_19 : decode cX10_isPoint 19 = .ok (.ifCond .eq 7, 3) := by decide +kernel
theorem dX10_isPoint_22 : decode cX10_isPoint 22 = .ok (.iconst 1, 1) := by decide +kernel
theorem dX10_isPoint_23 : decode cX10_isPoint 23 = .ok (.goto 4, 3) := by decide +kernel
theorem dX10_isPoint_26 : decode cX10_isPoint 26 = .ok (.iconst 0, 1) := by decide +kernel
theorem dX10_isPoint_27 : decode cX10_isPoint 27 = .ok (.ireturn, 1) := by decide +kernel
theorem dX10_covers_0 : decode cX10_covers 0 = .ok (.aload_n 0, 1) := by decide +kernel
theorem dX10_covers_1 : decode cX10_covers 1 = .ok (.iload_n 1, 1) := by decide +kernel
theorem dX10_covers_2 : decode cX10_covers 2 = .ok (.invokevirtual 211, 3) := by decide +kernel
theorem dX10_covers_5 : decode cX10_covers 5 = .ok (.ifCond .eq 7, 3) := by decide +kernel
theorem dX10_covers_8 : decode cX10_covers 8 = .ok (.sipush (-1001), 3) := by decide +kernel
theorem dX10_covers_11 : decode cX10_covers 11 = .ok (.ireturn, 1) := by decide +kernel
theorem dX10_covers_12 : decode cX10_covers 12 = .ok (.iload_n 2, 1) := by decide +kernel
theorem dX10_covers_13 : decode cX10_covers 13 = .ok (.iload_n 3, 1) := by decide +kernel
theorem dX10_covers_14 : decode cX10_covers 14 = .ok (.invokestatic 236, 3) := by decide +kernel
theorem dX10_covers_17 : decode cX10_covers 17 = .ok (.ifCond .ne 9, 3) := by decide +kernel
theorem dX10_covers_20 : decode cX10_covers 20 = .ok (.sipush (-1003), 3) := by decide +kernel
theorem dX10_covers_23 : decode cX10_covers 23 = .ok (.goto 18, 3) := by decide +kernel
theorem dX10_covers_26 : decode cX10_covers 26 = .ok (.aload_n 0, 1) := by decide +kernel
theorem dX10_covers_27 : decode cX10_covers 27 = .ok (.iload_n 1, 1) := by decide +kernel
theorem dX10_covers_28 : decode cX10_covers 28 = .ok (.iload_n 2, 1) := by decide +kernel
theorem dX10_covers_29 : decode cX10_covers 29 = .ok (.iload_n 3, 1) := by decide +kernel
theorem dX10_covers_30 : decode cX10_covers 30 = .ok (.invokevirtual 135, 3) := by decide +kernel
theorem dX10_covers_33 : decode cX10_covers 33 = .ok (.ifCond .eq 7, 3) := by decide +kernel
theorem dX10_covers_36 : decode cX10_covers 36 = .ok (.iconst 1, 1) := by decide +kernel
theorem dX10_covers_37 : decode cX10_covers 37 = .ok (.goto 4, 3) := by decide +kernel
theorem dX10_covers_40 : decode cX10_covers 40 = .ok (.iconst 0, 1) := by decide +kernel
theorem dX10_covers_41 : decode cX10_covers 41 = .ok (.ireturn, 1) := by decide +kernel
theorem dX10_isCovered_0 : decode cX10_isCovered 0 = .ok (.iload_n 1, 1) := by decide +kernel
theorem dX10_isCovered_1 : decode cX10_isCovered 1 = .ok (.iload_n 2, 1) := by decide +kernel
theorem dX10_isCovered_2 : decode cX10_isCovered 2 = .ok (.invokestatic 236, 3) := by decide +kernel
theorem dX10_isCovered_5 : decode cX10_isCovered 5 = .ok (.ifCond .ne 9, 3) := by decide +kernel
theorem dX10_isCovered_8 : decode cX10_isCovered 8 = .ok (.sipush (-1003), 3) := by decide +kernel
theorem dX10_isCovered_11 : decode cX10_isCovered 11 = .ok (.goto 17, 3) := by decide +kernel
theorem dX10_isCovered_14 : decode cX10_isCovered 14 = .ok (.aload_n 0, 1) := by decide +kernel
theorem dX10_isCovered_15 : decode cX10_isCovered 15 = .ok (.iload_n 1, 1) := by decide +kernel
theorem dX10_isCovered_16 : decode cX10_isCovered 16 = .ok (.iload_n 2, 1) := by decide +kernel
theorem dX10_isCovered_17 : decode cX10_isCovered 17 = .ok (.invokevirtual 239, 3) := by decide +kernel
theorem dX10_isCovered_20 : decode cX10_isCovered 20 = .ok (.ifCond .eq 7, 3) := by decide +kernel
theorem dX10_isCovered_23 : decode cX10_isCovered 23 = .ok (.iconst 1, 1) := by decide +kernel
theorem dX10_isCovered_24 : decode cX10_isCovered 24 = .ok (.goto 4, 3) := by decide +kernel
theorem dX10_isCovered_27 : decode cX10_isCovered 27 = .ok (.iconst 0, 1) := by decide +kernel
theorem dX10_isCovered_28 : decode cX10_isCovered 28 = .ok (.ireturn, 1) := by decide +kernel
theorem dX10_misfit_0 : decode cX10_misfit 0 = .ok (.aload_n 0, 1) := by decide +kernel
theorem dX10_misfit_1 : decode cX10_misfit 1 = .ok (.getfield 80, 3) := by decide +kernel
theorem dX10_misfit_4 : decode cX10_misfit 4 = .ok (.ifCond .ne 7, 3) := by decide +kernel
theorem dX10_misfit_7 : decode cX10_misfit 7 = .ok (.sipush (-1004), 3) := by decide +kernel
theorem dX10_misfit_10 : decode cX10_misfit 10 = .ok (.ireturn, 1) := by decide +kernel
theorem dX10_misfit_11 : decode cX10_misfit 11 = .ok (.iconst 0, 1) := by decide +kernel
theorem dX10_misfit_12 : decode cX10_misfit 12 = .ok (.istore_n 1, 1) := by decide +kernel
theorem dX10_misfit_13 : decode cX10_misfit 13 = .ok (.iconst 0, 1) := by decide +kernel
theorem dX10_misfit_14 : decode cX10_misfit 14 = .ok (.istore_n 2, 1) := by decide +kernel
theorem dX10_misfit_15 : decode cX10_misfit 15 = .ok (.iload_n 2, 1) := by decide +kernel
theorem dX10_misfit_16 : decode cX10_misfit 16 = .ok (.aload_n 0, 1) := by decide +kernel
theorem dX10_misfit_17 : decode cX10_misfit 17 = .ok (.getfield 64, 3) := by decide +kernel
theorem dX10_misfit_20 : decode cX10_misfit 20 = .ok (.if_icmp .ge 56, 3) := by decide +kernel
theorem dX10_misfit_23 : decode cX10_misfit 23 = .ok (.iconst 0, 1) := by decide +kernel
theorem dX10_misfit_24 : decode cX10_misfit 24 = .ok (.istore_n 3, 1) := by decide +kernel
theorem dX10_misfit_25 : decode cX10_misfit 25 = .ok (.iload_n 3, 1) := by decide +kernel
theorem dX10_misfit_26 : decode cX10_misfit 26 = .ok (.aload_n 0, 1) := by decide +kernel
theorem dX10_misfit_27 : decode cX10_misfit 27 = .ok (.getfield 60, 3) := by decide +kernel
theorem dX10_misfit_30 : decode cX10_misfit 30 = .ok (.if_icmp .ge 40, 3) := by decide +kernel
theorem dX10_misfit_33 : decode cX10_misfit 33 = .ok (.iload_n 1, 1) := by decide +kernel
theorem dX10_misfit_34 : decode cX10_misfit 34 = .ok (.aload_n 0, 1) := by decide +kernel
theorem dX10_misfit_35 : decode cX10_misfit 35 = .ok (.iload_n 3, 1) := by decide +kernel
theorem dX10_misfit_36 : decode cX10_misfit 36 = .ok (.iload_n 2, 1) := by decide +kernel
theorem dX10_misfit_37 : decode cX10_misfit 37 = .ok (.invokevirtual 108, 3) := by decide +kernel
theorem dX10_misfit_40 : decode cX10_misfit 40 = .ok (.aload_n 0, 1) := by decide +kernel
theorem dX10_misfit_41 : decode cX10_misfit 41 = .ok (.iconst 2, 1) := by decide +kernel
theorem dX10_misfit_42 : decode cX10_misfit 42 = .ok (.iload_n 3, 1) := by decide +kernel
theorem dX10_misfit_43 : decode cX10_misfit 43 = .ok (.imul, 1) := by decide +kernel
theorem dX10_misfit_44 : decode cX10_misfit 44 = .ok (.iconst 1, 1) := by decide +kernel
theorem dX10_misfit_45 : decode cX10_misfit 45 = .ok (.iadd, 1) := by decide +kernel
theorem dX10_misfit_46 : decode cX10_misfit 46 = .ok (.iconst 2, 1) := by decide +kernel
theorem dX10_misfit_47 : decode cX10_misfit 47 = .ok (.iload_n 2, 1) := by decide +kernel
theorem dX10_misfit_48 : decode cX10_misfit 48 = .ok (.imul, 1) := by decide +kernel
theorem dX10_misfit_49 : decode cX10_misfit 49 = .ok (.iconst 1, 1) := by decide +kernel
theorem dX10_misfit_50 : decode cX10_misfit 50 = .ok (.iadd, 1) := by decide +kernel
theorem dX10_misfit_51 : decode cX10_misfit 51 = .ok (.invokevirtual 239, 3) := by decide +kernel
theorem dX10_misfit_54 : decode cX10_misfit 54 = .ok (.if_icmp .eq 7, 3) := by decide +kernel
theorem dX10_misfit_57 : decode cX10_misfit 57 = .ok (.iconst 1, 1) := by decide +kernel
theorem dX10_misfit_58 : decode cX10_misfit 58 = .ok (.goto 4, 3) := by decide +kernel
theorem dX10_misfit_61 : decode cX10_misfit 61 = .ok (.iconst 0, 1) := by decide +kernel
theorem dX10_misfit_62 : decode cX10_misfit 62 = .ok (.iadd, 1) := by decide +kernel
theorem dX10_misfit_63 : decode cX10_misfit 63 = .ok (.istore_n 1, 1) := by decide +kernel
theorem dX10_misfit_64 : decode cX10_misfit 64 = .ok (.iinc 3 1, 3) := by decide +kernel
theorem dX10_misfit_67 : decode cX10_misfit 67 = .ok (.goto (-42), 3) := by decide +kernel
theorem dX10_misfit_70 : decode cX10_misfit 70 = .ok (.iinc 2 1, 3) := by decide +kernel
theorem dX10_misfit_73 : decode cX10_misfit 73 = .ok (.goto (-58), 3) := by decide +kernel
theorem dX10_misfit_76 : decode cX10_misfit 76 = .ok (.iload_n 1, 1) := by decide +kernel
theorem dX10_misfit_77 : decode cX10_misfit 77 = .ok (.ireturn, 1) := by decide +kernel
theorem dX10_divisor_0 : decode cX10_divisor 0 = .ok (.iload_n 0, 1) := by decide +kernel
theorem dX10_divisor_1 : decode cX10_divisor 1 = .ok (.istore_n 2, 1) := by decide +kernel
theorem dX10_divisor_2 : decode cX10_divisor 2 = .ok (.iload_n 1, 1) := by decide +kernel
theorem dX10_divisor_3 : decode cX10_divisor 3 = .ok (.istore_n 3, 1) := by decide +kernel
theorem dX10_divisor_4 : decode cX10_divisor 4 = .ok (.iload_n 3, 1) := by decide +kernel
theorem dX10_divisor_5 : decode cX10_divisor 5 = .ok (.ifCond .eq 16, 3) := by decide +kernel
theorem dX10_divisor_8 : decode cX10_divisor 8 = .ok (.iload_n 2, 1) := by decide +kernel
theorem dX10_divisor_9 : decode cX10_divisor 9 = .ok (.iload_n 3, 1) := by decide +kernel
theorem dX10_divisor_10 : decode cX10_divisor 10 = .ok (.irem, 1) := by decide +kernel
theorem dX10_divisor_11 : decode cX10_divisor 11 = .ok (.istore 4, 2) := by decide +kernel
theorem dX10_divisor_13 : decode cX10_divisor 13 = .ok (.iload_n 3, 1) := by decide +kernel
theorem dX10_divisor_14 : decode cX10_divisor 14 = .ok (.istore_n 2, 1) := by decide +kernel
theorem dX10_divisor_15 : decode cX10_divisor 15 = .ok (.iload 4, 2) := by decide +kernel
theorem dX10_divisor_17 : decode cX10_divisor 17 = .ok (.istore_n 3, 1) := by decide +kernel
theorem dX10_divisor_18 : decode cX10_divisor 18 = .ok (.goto (-14), 3) := by decide +kernel
theorem dX10_divisor_21 : decode cX10_divisor 21 = .ok (.iload_n 2, 1) := by decide +kernel
theorem dX10_divisor_22 : decode cX10_divisor 22 = .ok (.ireturn, 1) := by decide +kernel
theorem dX10_squared_0 : decode cX10_squared 0 = .ok (.aload_n 0, 1) := by decide +kernel
theorem dX10_squared_1 : decode cX10_squared 1 = .ok (.getfield 39, 3) := by decide +kernel
theorem dX10_squared_4 : decode cX10_squared 4 = .ok (.iload_n 2, 1) := by decide +kernel
theorem dX10_squared_5 : decode cX10_squared 5 = .ok (.iaload, 1) := by decide +kernel
theorem dX10_squared_6 : decode cX10_squared 6 = .ok (.aload_n 0, 1) := by decide +kernel
theorem dX10_squared_7 : decode cX10_squared 7 = .ok (.getfield 39, 3) := by decide +kernel
theorem dX10_squared_10 : decode cX10_squared 10 = .ok (.iload_n 1, 1) := by decide +kernel
theorem dX10_squared_11 : decode cX10_squared 11 = .ok (.iaload, 1) := by decide +kernel
theorem dX10_squared_12 : decode cX10_squared 12 = .ok (.isub, 1) := by decide +kernel
theorem dX10_squared_13 : decode cX10_squared 13 = .ok (.istore_n 3, 1) := by decide +kernel
theorem dX10_squared_14 : decode cX10_squared 14 = .ok (.aload_n 0, 1) := by decide +kernel
theorem dX10_squared_15 : decode cX10_squared 15 = .ok (.getfield 42, 3) := by decide +kernel
theorem dX10_squared_18 : decode cX10_squared 18 = .ok (.iload_n 2, 1) := by decide +kernel
theorem dX10_squared_19 : decode cX10_squared 19 = .ok (.iaload, 1) := by decide +kernel
theorem dX10_squared_20 : decode cX10_squared 20 = .ok (.aload_n 0, 1) := by decide +kernel
theorem dX10_squared_21 : decode cX10_squared 21 = .ok (.getfield 42, 3) := by decide +kernel
theorem dX10_squared_24 : decode cX10_squared 24 = .ok (.iload_n 1, 1) := by decide +kernel
theorem dX10_squared_25 : decode cX10_squared 25 = .ok (.iaload, 1) := by decide +kernel
theorem dX10_squared_26 : decode cX10_squared 26 = .ok (.isub, 1) := by decide +kernel
theorem dX10_squared_27 : decode cX10_squared 27 = .ok (.istore 4, 2) := by decide +kernel
theorem dX10_squared_29 : decode cX10_squared 29 = .ok (.iload_n 3, 1) := by decide +kernel
theorem dX10_squared_30 : decode cX10_squared 30 = .ok (.iload_n 3, 1) := by decide +kernel
theorem dX10_squared_31 : decode cX10_squared 31 = .ok (.imul, 1) := by decide +kernel
theorem dX10_squared_32 : decode cX10_squared 32 = .ok (.iload 4, 2) := by decide +kernel
theorem dX10_squared_34 : decode cX10_squared 34 = .ok (.iload 4, 2) := by decide +kernel
theorem dX10_squared_36 : decode cX10_squared 36 = .ok (.imul, 1) := by decide +kernel
theorem dX10_squared_37 : decode cX10_squared 37 = .ok (.iadd, 1) := by decide +kernel
theorem dX10_squared_38 : decode cX10_squared 38 = .ok (.ireturn, 1) := by decide +kernel
theorem dX10_findFar_0 : decode cX10_findFar 0 = .ok (.aload_n 0, 1) := by decide +kernel
theorem dX10_findFar_1 : decode cX10_findFar 1 = .ok (.getfield 39, 3) := by decide +kernel
theorem dX10_findFar_4 : decode cX10_findFar 4 = .ok (.iload_n 3, 1) := by decide +kernel
theorem dX10_findFar_5 : decode cX10_findFar 5 = .ok (.iaload, 1) := by decide +kernel
theorem dX10_findFar_6 : decode cX10_findFar 6 = .ok (.aload_n 0, 1) := by decide +kernel
theorem dX10_findFar_7 : decode cX10_findFar 7 = .ok (.getfield 39, 3) := by decide +kernel
theorem dX10_findFar_10 : decode cX10_findFar 10 = .ok (.iload_n 1, 1) := by decide +kernel
theorem dX10_findFar_11 : decode cX10_findFar 11 = .ok (.iaload, 1) := by decide +kernel
theorem dX10_findFar_12 : decode cX10_findFar 12 = .ok (.isub, 1) := by decide +kernel
theorem dX10_findFar_13 : decode cX10_findFar 13 = .ok (.aload_n 0, 1) := by decide +kernel
theorem dX10_findFar_14 : decode cX10_findFar 14 = .ok (.getfield 39, 3) := by decide +kernel
theorem dX10_findFar_17 : decode cX10_findFar 17 = .ok (.iload_n 2, 1) := by decide +kernel
theorem dX10_findFar_18 : decode cX10_findFar 18 = .ok (.iaload, 1) := by decide +kernel
theorem dX10_findFar_19 : decode cX10_findFar 19 = .ok (.aload_n 0, 1) := by decide +kernel
theorem dX10_findFar_20 : decode cX10_findFar 20 = .ok (.getfield 39, 3) := by decide +kernel
theorem dX10_findFar_23 : decode cX10_findFar 23 = .ok (.iload_n 1, 1) := by decide +kernel
theorem dX10_findFar_24 : decode cX10_findFar 24 = .ok (.iaload, 1) := by decide +kernel
theorem dX10_findFar_25 : decode cX10_findFar 25 = .ok (.isub, 1) := by decide +kernel
theorem dX10_findFar_26 : decode cX10_findFar 26 = .ok (.imul, 1) := by decide +kernel
theorem dX10_findFar_27 : decode cX10_findFar 27 = .ok (.aload_n 0, 1) := by decide +kernel
theorem dX10_findFar_28 : decode cX10_findFar 28 = .ok (.getfield 42, 3) := by decide +kernel
theorem dX10_findFar_31 : decode cX10_findFar 31 = .ok (.iload_n 3, 1) := by decide +kernel
theorem dX10_findFar_32 : decode cX10_findFar 32 = .ok (.iaload, 1) := by decide +kernel
theorem dX10_findFar_33 : decode cX10_findFar 33 = .ok (.aload_n 0, 1) := by decide +kernel
theorem dX10_findFar_34 : decode cX10_findFar 34 = .ok (.getfield 42, 3) := by decide +kernel
theorem dX10_findFar_37 : decode cX10_findFar 37 = .ok (.iload_n 1, 1) := by decide +kernel
theorem dX10_findFar_38 : decode cX10_findFar 38 = .ok (.iaload, 1) := by decide +kernel
theorem dX10_findFar_39 : decode cX10_findFar 39 = .ok (.isub, 1) := by decide +kernel
theorem dX10_findFar_40 : decode cX10_findFar 40 = .ok (.aload_n 0, 1) := by decide +kernel
theorem dX10_findFar_41 : decode cX10_findFar 41 = .ok (.getfield 42, 3) := by decide +kernel
theorem dX10_findFar_44 : decode cX10_findFar 44 = .ok (.iload_n 2, 1) := by decide +kernel
theorem dX10_findFar_45 : decode cX10_findFar 45 = .ok (.iaload, 1) := by decide +kernel
theorem dX10_findFar_46 : decode cX10_findFar 46 = .ok (.aload_n 0, 1) := by decide +kernel
theorem dX10_findFar_47 : decode cX10_findFar 47 = .ok (.getfield 42, 3) := by decide +kernel
theorem dX10_findFar_50 : decode cX10_findFar 50 = .ok (.iload_n 1, 1) := by decide +kernel
theorem dX10_findFar_51 : decode cX10_findFar 51 = .ok (.iaload, 1) := by decide +kernel
theorem dX10_findFar_52 : decode cX10_findFar 52 = .ok (.isub, 1) := by decide +kernel
theorem dX10_findFar_53 : decode cX10_findFar 53 = .ok (.imul, 1) := by decide +kernel
theorem dX10_findFar_54 : decode cX10_findFar 54 = .ok (.iadd, 1) := by decide +kernel
theorem dX10_findFar_55 : decode cX10_findFar 55 = .ok (.istore 4, 2) := by decide +kernel
theorem dX10_findFar_57 : decode cX10_findFar 57 = .ok (.aload_n 0, 1) := by decide +kernel
theorem dX10_findFar_58 : decode cX10_findFar 58 = .ok (.iload_n 1, 1) := by decide +kernel
theorem dX10_findFar_59 : decode cX10_findFar 59 = .ok (.iload_n 2, 1) := by decide +kernel
theorem dX10_findFar_60 : decode cX10_findFar 60 = .ok (.invokevirtual 242, 3) := by decide +kernel
theorem dX10_findFar_63 : decode cX10_findFar 63 = .ok (.istore 5, 2) := by decide +kernel
theorem dX10_findFar_65 : decode cX10_findFar 65 = .ok (.aload_n 0, 1) := by decide +kernel
theorem dX10_findFar_66 : decode cX10_findFar 66 = .ok (.iconst 1, 1) := by decide +kernel
theorem dX10_findFar_67 : decode cX10_findFar 67 = .ok (.putfield 245, 3) := by decide +kernel
theorem dX10_findFar_70 : decode cX10_findFar 70 = .ok (.iload 4, 2) := by decide +kernel
theorem dX10_findFar_72 : decode cX10_findFar 72 = .ok (.ifCond .gt 16, 3) := by decide +kernel
theorem dX10_findFar_75 : decode cX10_findFar 75 = .ok (.aload_n 0, 1) := by decide +kernel
theorem dX10_findFar_76 : decode cX10_findFar 76 = .ok (.aload_n 0, 1) := by decide +kernel
theorem dX10_findFar_77 : decode cX10_findFar 77 = .ok (.iload_n 1, 1) := by decide +kernel
theorem dX10_findFar_78 : decode cX10_findFar 78 = .ok (.iload_n 3, 1) := by decide +kernel
theorem dX10_findFar_79 : decode cX10_findFar 79 = .ok (.invokevirtual 242, 3) := by decide +kernel
theorem dX10_findFar_82 : decode cX10_findFar 82 = .ok (.putfield 248, 3) := by decide +kernel
theorem dX10_findFar_85 : decode cX10_findFar 85 = .ok (.goto 48, 3) := by decide +kernel
theorem dX10_findFar_88 : decode cX10_findFar 88 = .ok (.iload 4, 2) := by decide +kernel
theorem dX10_findFar_90 : decode cX10_findFar 90 = .ok (.iload 5, 2) := by decide +kernel
theorem dX10_findFar_92 : decode cX10_findFar 92 = .ok (.if_icmp .lt 16, 3) := by decide +kernel
theorem dX10_findFar_95 : decode cX10_findFar 95 = .ok (.aload_n 0, 1) := by decide +kernel
theorem dX10_findFar_96 : decode cX10_findFar 96 = .ok (.aload_n 0, 1) := by decide +kernel
theorem dX10_findFar_97 : decode cX10_findFar 97 = .ok (.iload_n 2, 1) := by decide +kernel
theorem dX10_findFar_98 : decode cX10_findFar 98 = .ok (.iload_n 3, 1) := by decide +kernel
theorem dX10_findFar_99 : decode cX10_findFar 99 = .ok (.invokevirtual 242, 3) := by decide +kernel
theorem dX10_findFar_102 : decode cX10_findFar 102 = .ok (.putfield 248, 3) := by decide +kernel
theorem dX10_findFar_105 : decode cX10_findFar 105 = .ok (.goto 28, 3) := by decide +kernel
theorem dX10_findFar_108 : decode cX10_findFar 108 = .ok (.aload_n 0, 1) := by decide +kernel
theorem dX10_findFar_109 : decode cX10_findFar 109 = .ok (.aload_n 0, 1) := by decide +kernel
theorem dX10_findFar_110 : decode cX10_findFar 110 = .ok (.iload_n 1, 1) := by decide +kernel
theorem dX10_findFar_111 : decode cX10_findFar 111 = .ok (.iload_n 2, 1) := by decide +kernel
theorem dX10_findFar_112 : decode cX10_findFar 112 = .ok (.iload_n 3, 1) := by decide +kernel
theorem dX10_findFar_113 : decode cX10_findFar 113 = .ok (.invokevirtual 155, 3) := by decide +kernel
theorem dX10_findFar_116 : decode cX10_findFar 116 = .ok (.aload_n 0, 1) := by decide +kernel
theorem dX10_findFar_117 : decode cX10_findFar 117 = .ok (.iload_n 1, 1) := by decide +kernel
theorem dX10_findFar_118 : decode cX10_findFar 118 = .ok (.iload_n 2, 1) := by decide +kernel
theorem dX10_findFar_119 : decode cX10_findFar 119 = .ok (.iload_n 3, 1) := by decide +kernel
theorem dX10_findFar_120 : decode cX10_findFar 120 = .ok (.invokevirtual 155, 3) := by decide +kernel
theorem dX10_findFar_123 : decode cX10_findFar 123 = .ok (.imul, 1) := by decide +kernel
theorem dX10_findFar_124 : decode cX10_findFar 124 = .ok (.putfield 248, 3) := by decide +kernel
theorem dX10_findFar_127 : decode cX10_findFar 127 = .ok (.aload_n 0, 1) := by decide +kernel
theorem dX10_findFar_128 : decode cX10_findFar 128 = .ok (.iload 5, 2) := by decide +kernel
theorem dX10_findFar_130 : decode cX10_findFar 130 = .ok (.putfield 245, 3) := by decide +kernel
theorem dX10_findFar_133 : decode cX10_findFar 133 = .ok (.return_, 1) := by decide +kernel
theorem dX10_deviation_0 : decode cX10_deviation 0 = .ok (.aload_n 0, 1) := by decide +kernel
theorem dX10_deviation_1 : decode cX10_deviation 1 = .ok (.iload_n 1, 1) := by decide +kernel
theorem dX10_deviation_2 : decode cX10_deviation 2 = .ok (.invokevirtual 211, 3) := by decide +kernel
theorem dX10_deviation_5 : decode cX10_deviation 5 = .ok (.ifCond .eq 7, 3) := by decide +kernel
theorem dX10_deviation_8 : decode cX10_deviation 8 = .ok (.sipush (-1001), 3) := by decide +kernel
theorem dX10_deviation_11 : decode cX10_deviation 11 = .ok (.ireturn, 1) := by decide +kernel
theorem dX10_deviation_12 : decode cX10_deviation 12 = .ok (.iload_n 2, 1) := by decide +kernel
theorem dX10_deviation_13 : decode cX10_deviation 13 = .ok (.iconst 0, 1) := by decide +kernel
theorem dX10_deviation_14 : decode cX10_deviation 14 = .ok (.iconst 1, 1) := by decide +kernel
theorem dX10_deviation_15 : decode cX10_deviation 15 = .ok (.invokestatic 67, 3) := by decide +kernel
theorem dX10_deviation_18 : decode cX10_deviation 18 = .ok (.ifCond .ne 7, 3) := by decide +kernel
theorem dX10_deviation_21 : decode cX10_deviation 21 = .ok (.sipush (-1003), 3) := by decide +kernel
theorem dX10_deviation_24 : decode cX10_deviation 24 = .ok (.ireturn, 1) := by decide +kernel
theorem dX10_deviation_25 : decode cX10_deviation 25 = .ok (.iconst 0, 1) := by decide +kernel
theorem dX10_deviation_26 : decode cX10_deviation 26 = .ok (.istore_n 3, 1) := by decide +kernel
theorem dX10_deviation_27 : decode cX10_deviation 27 = .ok (.iconst 1, 1) := by decide +kernel
theorem dX10_deviation_28 : decode cX10_deviation 28 = .ok (.istore 4, 2) := by decide +kernel
theorem dX10_deviation_30 : decode cX10_deviation 30 = .ok (.aload_n 0, 1) := by decide +kernel
theorem dX10_deviation_31 : decode cX10_deviation 31 = .ok (.getfield 24, 3) := by decide +kernel
theorem dX10_deviation_34 : decode cX10_deviation 34 = .ok (.iload_n 1, 1) := by decide +kernel
theorem dX10_deviation_35 : decode cX10_deviation 35 = .ok (.iaload, 1) := by decide +kernel
theorem dX10_deviation_36 : decode cX10_deviation 36 = .ok (.istore 5, 2) := by decide +kernel
theorem dX10_deviation_38 : decode cX10_deviation 38 = .ok (.iload 5, 2) := by decide +kernel
theorem dX10_deviation_40 : decode cX10_deviation 40 = .ok (.aload_n 0, 1) := by decide +kernel
theorem dX10_deviation_41 : decode cX10_deviation 41 = .ok (.iload_n 1, 1) := by decide +kernel
theorem dX10_deviation_42 : decode cX10_deviation 42 = .ok (.invokevirtual 141, 3) := by decide +kernel
theorem dX10_deviation_45 : decode cX10_deviation 45 = .ok (.if_icmp .ge 97, 3) := by decide +kernel
theorem dX10_deviation_48 : decode cX10_deviation 48 = .ok (.aload_n 0, 1) := by decide +kernel
theorem dX10_deviation_49 : decode cX10_deviation 49 = .ok (.getfield 45, 3) := by decide +kernel
theorem dX10_deviation_52 : decode cX10_deviation 52 = .ok (.iload 5, 2) := by decide +kernel
theorem dX10_deviation_54 : decode cX10_deviation 54 = .ok (.baload, 1) := by decide +kernel
theorem dX10_deviation_55 : decode cX10_deviation 55 = .ok (.ifCond .ne 81, 3) := by decide +kernel
theorem dX10_deviation_58 : decode cX10_deviation 58 = .ok (.aload_n 0, 1) := by decide +kernel
theorem dX10_deviation_59 : decode cX10_deviation 59 = .ok (.aload_n 0, 1) := by decide +kernel
theorem dX10_deviation_60 : decode cX10_deviation 60 = .ok (.iload_n 1, 1) := by decide +kernel
theorem dX10_deviation_61 : decode cX10_deviation 61 = .ok (.iload 5, 2) := by decide +kernel
theorem dX10_deviation_63 : decode cX10_deviation 63 = .ok (.invokevirtual 170, 3) := by decide +kernel
theorem dX10_deviation_66 : decode cX10_deviation 66 = .ok (.aload_n 0, 1) := by decide +kernel
theorem dX10_deviation_67 : decode cX10_deviation 67 = .ok (.iload_n 1, 1) := by decide +kernel
theorem dX10_deviation_68 : decode cX10_deviation 68 = .ok (.iload 5, 2) := by decide +kernel
theorem dX10_deviation_70 : decode cX10_deviation 70 = .ok (.invokevirtual 148, 3) := by decide +kernel
theorem dX10_deviation_73 : decode cX10_deviation 73 = .ok (.iload 5, 2) := by decide +kernel
theorem dX10_deviation_75 : decode cX10_deviation 75 = .ok (.invokevirtual 251, 3) := by decide +kernel
theorem dX10_deviation_78 : decode cX10_deviation 78 = .ok (.aload_n 0, 1) := by decide +kernel
theorem dX10_deviation_79 : decode cX10_deviation 79 = .ok (.getfield 248, 3) := by decide +kernel
theorem dX10_deviation_82 : decode cX10_deviation 82 = .ok (.i2l, 1) := by decide +kernel
theorem dX10_deviation_83 : decode cX10_deviation 83 = .ok (.iload 4, 2) := by decide +kernel
theorem dX10_deviation_85 : decode cX10_deviation 85 = .ok (.i2l, 1) := by decide +kernel
theorem dX10_deviation_86 : decode cX10_deviation 86 = .ok (.lmul, 1) := by decide +kernel
theorem dX10_deviation_87 : decode cX10_deviation 87 = .ok (.iload_n 3, 1) := by decide +kernel
theorem dX10_deviation_88 : decode cX10_deviation 88 = .ok (.i2l, 1) := by decide +kernel
theorem dX10_deviation_89 : decode cX10_deviation 89 = .ok (.aload_n 0, 1) := by decide +kernel
theorem dX10_deviation_90 : decode cX10_deviation 90 = .ok (.getfield 245, 3) := by decide +kernel
theorem dX10_deviation_93 : decode cX10_deviation 93 = .ok (.i2l, 1) := by decide +kernel
theorem dX10_deviation_94 : decode cX10_deviation 94 = .ok (.lmul, 1) := by decide +kernel
theorem dX10_deviation_95 : decode cX10_deviation 95 = .ok (.lcmp, 1) := by decide +kernel
theorem dX10_deviation_96 : decode cX10_deviation 96 = .ok (.ifCond .le 7, 3) := by decide +kernel
theorem dX10_deviation_99 : decode cX10_deviation 99 = .ok (.iconst 1, 1) := by decide +kernel
theorem dX10_deviation_100 : decode cX10_deviation 100 = .ok (.goto 4, 3) := by decide +kernel
theorem dX10_deviation_103 : decode cX10_deviation 103 = .ok (.iconst 0, 1) := by decide +kernel
theorem dX10_deviation_104 : decode cX10_deviation 104 = .ok (.istore 6, 2) := by decide +kernel
theorem dX10_deviation_106 : decode cX10_deviation 106 = .ok (.iload 6, 2) := by decide +kernel
theorem dX10_deviation_108 : decode cX10_deviation 108 = .ok (.ifCond .eq 10, 3) := by decide +kernel
theorem dX10_deviation_111 : decode cX10_deviation 111 = .ok (.aload_n 0, 1) := by decide +kernel
theorem dX10_deviation_112 : decode cX10_deviation 112 = .ok (.getfield 248, 3) := by decide +kernel
theorem dX10_deviation_115 : decode cX10_deviation 115 = .ok (.goto 4, 3) := by decide +kernel
theorem dX10_deviation_118 : decode cX10_deviation 118 = .ok (.iload_n 3, 1) := by decide +kernel
theorem dX10_deviation_119 : decode cX10_deviation 119 = .ok (.istore_n 3, 1) := by decide +kernel
theorem dX10_deviation_120 : decode cX10_deviation 120 = .ok (.iload 6, 2) := by decide +kernel
theorem dX10_deviation_122 : decode cX10_deviation 122 = .ok (.ifCond .eq 10, 3) := by decide +kernel
theorem dX10_deviation_125 : decode cX10_deviation 125 = .ok (.aload_n 0, 1) := by decide +kernel
theorem dX10_deviation_126 : decode cX10_deviation 126 = .ok (.getfield 245, 3) := by decide +kernel
theorem dX10_deviation_129 : decode cX10_deviation 129 = .ok (.goto 5, 3) := by decide +kernel
theorem dX10_deviation_132 : decode cX10_deviation 132 = .ok (.iload 4, 2) := by decide +kernel
theorem dX10_deviation_134 : decode cX10_deviation 134 = .ok (.istore 4, 2) := by decide +kernel
theorem dX10_deviation_136 : decode cX10_deviation 136 = .ok (.iinc 5 1, 3) := by decide +kernel
theorem dX10_deviation_139 : decode cX10_deviation 139 = .ok (.goto (-101), 3) := by decide +kernel
theorem dX10_deviation_142 : decode cX10_deviation 142 = .ok (.iload_n 3, 1) := by decide +kernel
theorem dX10_deviation_143 : decode cX10_deviation 143 = .ok (.iload 4, 2) := by decide +kernel
theorem dX10_deviation_145 : decode cX10_deviation 145 = .ok (.invokestatic 255, 3) := by decide +kernel
theorem dX10_deviation_148 : decode cX10_deviation 148 = .ok (.istore 5, 2) := by decide +kernel
theorem dX10_deviation_150 : decode cX10_deviation 150 = .ok (.iload_n 2, 1) := by decide +kernel
theorem dX10_deviation_151 : decode cX10_deviation 151 = .ok (.ifCond .ne 7, 3) := by decide +kernel
theorem dX10_deviation_154 : decode cX10_deviation 154 = .ok (.iload_n 3, 1) := by decide +kernel
theorem dX10_deviation_155 : decode cX10_deviation 155 = .ok (.goto 5, 3) := by decide +kernel
theorem dX10_deviation_158 : decode cX10_deviation 158 = .ok (.iload 4, 2) := by decide +kernel
theorem dX10_deviation_160 : decode cX10_deviation 160 = .ok (.iload 5, 2) := by decide +kernel
theorem dX10_deviation_162 : decode cX10_deviation 162 = .ok (.idiv, 1) := by decide +kernel
theorem dX10_deviation_163 : decode cX10_deviation 163 = .ok (.ireturn, 1) := by decide +kernel
theorem dJ9_abs_0f7a4_0 : decode cJ9_abs_0f7a4 0 = .ok (.iload_n 0, 1) := by decide +kernel
theorem dJ9_abs_0f7a4_1 : decode cJ9_abs_0f7a4 1 = .ok (.ifCond .ge 8, 3) := by decide +kernel
theorem dJ9_abs_0f7a4_4 : decode cJ9_abs_0f7a4 4 = .ok (.iload_n 0, 1) := by decide +kernel
theorem dJ9_abs_0f7a4_5 : decode cJ9_abs_0f7a4 5 = .ok (.ineg, 1) := by decide +kernel
theorem dJ9_abs_0f7a4_6 : decode cJ9_abs_0f7a4 6 = .ok (.goto 4, 3) := by decide +kernel
theorem dJ9_abs_0f7a4_9 : decode cJ9_abs_0f7a4 9 = .ok (.iload_n 0, 1) := by decide +kernel
theorem dJ9_abs_0f7a4_10 : decode cJ9_abs_0f7a4 10 = .ok (.ireturn, 1) := by decide +kernel
theorem dJ9_max_7cf53_0 : decode cJ9_max_7cf53 0 = .ok (.iload_n 0, 1) := by decide +kernel
theorem dJ9_max_7cf53_1 : decode cJ9_max_7cf53 1 = .ok (.iload_n 1, 1) := by decide +kernel
theorem dJ9_max_7cf53_2 : decode cJ9_max_7cf53 2 = .ok (.if_icmp .lt 7, 3) := by decide +kernel
theorem dJ9_max_7cf53_5 : decode cJ9_max_7cf53 5 = .ok (.iload_n 0, 1) := by decide +kernel
theorem dJ9_max_7cf53_6 : decode cJ9_max_7cf53 6 = .ok (.goto 4, 3) := by decide +kernel
theorem dJ9_max_7cf53_9 : decode cJ9_max_7cf53 9 = .ok (.iload_n 1, 1) := by decide +kernel
theorem dJ9_max_7cf53_10 : decode cJ9_max_7cf53 10 = .ok (.ireturn, 1) := by decide +kernel
theorem dJ9_min_7cf53_0 : decode cJ9_min_7cf53 0 = .ok (.iload_n 0, 1) := by decide +kernel
theorem dJ9_min_7cf53_1 : decode cJ9_min_7cf53 1 = .ok (.iload_n 1, 1) := by decide +kernel
theorem dJ9_min_7cf53_2 : decode cJ9_min_7cf53 2 = .ok (.if_icmp .gt 7, 3) := by decide +kernel
theorem dJ9_min_7cf53_5 : decode cJ9_min_7cf53 5 = .ok (.iload_n 0, 1) := by decide +kernel
theorem dJ9_min_7cf53_6 : decode cJ9_min_7cf53 6 = .ok (.goto 4, 3) := by decide +kernel
theorem dJ9_min_7cf53_9 : decode cJ9_min_7cf53 9 = .ok (.iload_n 1, 1) := by decide +kernel
theorem dJ9_min_7cf53_10 : decode cJ9_min_7cf53 10 = .ok (.ireturn, 1) := by decide +kernel
theorem dJ7_fill_53178_0 : decode cJ7_fill_53178 0 = .ok (.iconst 0, 1) := by decide +kernel
theorem dJ7_fill_53178_1 : decode cJ7_fill_53178 1 = .ok (.istore_n 2, 1) := by decide +kernel
theorem dJ7_fill_53178_2 : decode cJ7_fill_53178 2 = .ok (.aload_n 0, 1) := by decide +kernel
theorem dJ7_fill_53178_3 : decode cJ7_fill_53178 3 = .ok (.arraylength, 1) := by decide +kernel
theorem dJ7_fill_53178_4 : decode cJ7_fill_53178 4 = .ok (.istore_n 3, 1) := by decide +kernel
theorem dJ7_fill_53178_5 : decode cJ7_fill_53178 5 = .ok (.iload_n 2, 1) := by decide +kernel
theorem dJ7_fill_53178_6 : decode cJ7_fill_53178 6 = .ok (.iload_n 3, 1) := by decide +kernel
theorem dJ7_fill_53178_7 : decode cJ7_fill_53178 7 = .ok (.if_icmp .ge 13, 3) := by decide +kernel
theorem dJ7_fill_53178_10 : decode cJ7_fill_53178 10 = .ok (.aload_n 0, 1) := by decide +kernel
theorem dJ7_fill_53178_11 : decode cJ7_fill_53178 11 = .ok (.iload_n 2, 1) := by decide +kernel
theorem dJ7_fill_53178_12 : decode cJ7_fill_53178 12 = .ok (.iload_n 1, 1) := by decide +kernel
theorem dJ7_fill_53178_13 : decode cJ7_fill_53178 13 = .ok (.iastore, 1) := by decide +kernel
theorem dJ7_fill_53178_14 : decode cJ7_fill_53178 14 = .ok (.iinc 2 1, 3) := by decide +kernel
theorem dJ7_fill_53178_17 : decode cJ7_fill_53178 17 = .ok (.goto (-12), 3) := by decide +kernel
theorem dJ7_fill_53178_20 : decode cJ7_fill_53178 20 = .ok (.return_, 1) := by decide +kernel
