theorem dX9_resultantByY_8 : decode cX9_resultantByY 8 = .ok (.aload_n 2, 1) := by decide +kernel
theorem dX9_resultantByY_9 : decode cX9_resultantByY 9 = .ok (.getfield 149, 3) := by decide +kernel
theorem dX9_resultantByY_12 : decode cX9_resultantByY 12 = .ok (.iconst 1, 1) := by decide +kernel
theorem dX9_resultantByY_13 : decode cX9_resultantByY 13 = .ok (.if_icmp .lt 21, 3) := by decide +kernel
theorem dX9_resultantByY_16 : decode cX9_resultantByY 16 = .ok (.aload_n 1, 1) := by decide +kernel
theorem dX9_resultantByY_17 : decode cX9_resultantByY 17 = .ok (.getfield 135, 3) := by decide +kernel
theorem dX9_resultantByY_20 : decode cX9_resultantByY 20 = .ok (.bipush 6, 2) := by decide +kernel
theorem dX9_resultantByY_22 : decode cX9_resultantByY 22 = .ok (.if_icmp .gt 12, 3) := by decide +kernel
theorem dX9_resultantByY_25 : decode cX9_resultantByY 25 = .ok (.aload_n 2, 1) := by decide +kernel
theorem dX9_resultantByY_26 : decode cX9_resultantByY 26 = .ok (.getfield 135, 3) := by decide +kernel
theorem dX9_resultantByY_29 : decode cX9_resultantByY 29 = .ok (.bipush 6, 2) := by decide +kernel
theorem dX9_resultantByY_31 : decode cX9_resultantByY 31 = .ok (.if_icmp .le 6, 3) := by decide +kernel
theorem dX9_resultantByY_34 : decode cX9_resultantByY 34 = .ok (.bipush (-2), 2) := by decide +kernel
theorem dX9_resultantByY_36 : decode cX9_resultantByY 36 = .ok (.ireturn, 1) := by decide +kernel
theorem dX9_resultantByY_37 : decode cX9_resultantByY 37 = .ok (.aload_n 0, 1) := by decide +kernel
theorem dX9_resultantByY_38 : decode cX9_resultantByY 38 = .ok (.getfield 264, 3) := by decide +kernel
theorem dX9_resultantByY_41 : decode cX9_resultantByY 41 = .ok (.ifnonnull 22, 3) := by decide +kernel
theorem dX9_resultantByY_44 : decode cX9_resultantByY 44 = .ok (.aload_n 0, 1) := by decide +kernel
theorem dX9_resultantByY_45 : decode cX9_resultantByY 45 = .ok (.new 268, 3) := by decide +kernel
theorem dX9_resultantByY_48 : decode cX9_resultantByY 48 = .ok (.dup, 1) := by decide +kernel
theorem dX9_resultantByY_49 : decode cX9_resultantByY 49 = .ok (.aload_n 0, 1) := by decide +kernel
theorem dX9_resultantByY_50 : decode cX9_resultantByY 50 = .ok (.getfield 10, 3) := by decide +kernel
theorem dX9_resultantByY_53 : decode cX9_resultantByY 53 = .ok (.aload_n 0, 1) := by decide +kernel
theorem dX9_resultantByY_54 : decode cX9_resultantByY 54 = .ok (.getfield 38, 3) := by decide +kernel
theorem dX9_resultantByY_57 : decode cX9_resultantByY 57 = .ok (.invokespecial 270, 3) := by decide +kernel
theorem dX9_resultantByY_60 : decode cX9_resultantByY 60 = .ok (.putfield 264, 3) := by decide +kernel
theorem dX9_resultantByY_63 : decode cX9_resultantByY 63 = .ok (.aload_n 0, 1) := by decide +kernel
theorem dX9_resultantByY_64 : decode cX9_resultantByY 64 = .ok (.getfield 264, 3) := by decide +kernel
theorem dX9_resultantByY_67 : decode cX9_resultantByY 67 = .ok (.aload_n 1, 1) := by decide +kernel
theorem dX9_resultantByY_68 : decode cX9_resultantByY 68 = .ok (.aload_n 2, 1) := by decide +kernel
theorem dX9_resultantByY_69 : decode cX9_resultantByY 69 = .ok (.invokevirtual 271, 3) := by decide +kernel
theorem dX9_resultantByY_72 : decode cX9_resultantByY 72 = .ok (.aload_n 0, 1) := by decide +kernel
theorem dX9_resultantByY_73 : decode cX9_resultantByY 73 = .ok (.getfield 264, 3) := by decide +kernel
theorem dX9_resultantByY_76 : decode cX9_resultantByY 76 = .ok (.aload_n 0, 1) := by decide +kernel
theorem dX9_resultantByY_77 : decode cX9_resultantByY 77 = .ok (.getfield 66, 3) := by decide +kernel
theorem dX9_resultantByY_80 : decode cX9_resultantByY 80 = .ok (.invokevirtual 275, 3) := by decide +kernel
theorem dX9_resultantByY_83 : decode cX9_resultantByY 83 = .ok (.aload_n 0, 1) := by decide +kernel
theorem dX9_resultantByY_84 : decode cX9_resultantByY 84 = .ok (.getfield 66, 3) := by decide +kernel
theorem dX9_resultantByY_87 : decode cX9_resultantByY 87 = .ok (.getfield 175, 3) := by decide +kernel
theorem dX9_resultantByY_90 : decode cX9_resultantByY 90 = .ok (.bipush 40, 2) := by decide +kernel
theorem dX9_resultantByY_92 : decode cX9_resultantByY 92 = .ok (.if_icmp .le 6, 3) := by decide +kernel
theorem dX9_resultantByY_95 : decode cX9_resultantByY 95 = .ok (.bipush (-4), 2) := by decide +kernel
theorem dX9_resultantByY_97 : decode cX9_resultantByY 97 = .ok (.ireturn, 1) := by decide +kernel
theorem dX9_resultantByY_98 : decode cX9_resultantByY 98 = .ok (.aload_n 0, 1) := by decide +kernel
theorem dX9_resultantByY_99 : decode cX9_resultantByY 99 = .ok (.getfield 50, 3) := by decide +kernel
theorem dX9_resultantByY_102 : decode cX9_resultantByY 102 = .ok (.aload_n 0, 1) := by decide +kernel
theorem dX9_resultantByY_103 : decode cX9_resultantByY 103 = .ok (.getfield 66, 3) := by decide +kernel
theorem dX9_resultantByY_106 : decode cX9_resultantByY 106 = .ok (.invokevirtual 146, 3) := by decide +kernel
theorem dX9_resultantByY_109 : decode cX9_resultantByY 109 = .ok (.iconst 0, 1) := by decide +kernel
theorem dX9_resultantByY_110 : decode cX9_resultantByY 110 = .ok (.ireturn, 1) := by decide +kernel
theorem dX10_cellOf_0 : decode cX10_cellOf 0 = .ok (.sipush 287, 3) := by decide +kernel
theorem dX10_cellOf_3 : decode cX10_cellOf 3 = .ok (.iload_n 0, 1) := by decide +kernel
theorem dX10_cellOf_4 : decode cX10_cellOf 4 = .ok (.imul, 1) := by decide +kernel
theorem dX10_cellOf_5 : decode cX10_cellOf 5 = .ok (.bipush 7, 2) := by decide +kernel
theorem dX10_cellOf_7 : decode cX10_cellOf 7 = .ok (.iload_n 1, 1) := by decide +kernel
theorem dX10_cellOf_8 : decode cX10_cellOf 8 = .ok (.imul, 1) := by decide +kernel
theorem dX10_cellOf_9 : decode cX10_cellOf 9 = .ok (.iadd, 1) := by decide +kernel
theorem dX10_cellOf_10 : decode cX10_cellOf 10 = .ok (.iload_n 2, 1) := by decide +kernel
theorem dX10_cellOf_11 : decode cX10_cellOf 11 = .ok (.iadd, 1) := by decide +kernel
theorem dX10_cellOf_12 : decode cX10_cellOf 12 = .ok (.ireturn, 1) := by decide +kernel
theorem dX10_degreeX_0 : decode cX10_degreeX 0 = .ok (.bipush 40, 2) := by decide +kernel
theorem dX10_degreeX_2 : decode cX10_degreeX 2 = .ok (.istore_n 2, 1) := by decide +kernel
theorem dX10_degreeX_3 : decode cX10_degreeX 3 = .ok (.iload_n 2, 1) := by decide +kernel
theorem dX10_degreeX_4 : decode cX10_degreeX 4 = .ok (.ifCond .lt 39, 3) := by decide +kernel
theorem dX10_degreeX_7 : decode cX10_degreeX 7 = .ok (.iconst 0, 1) := by decide +kernel
theorem dX10_degreeX_8 : decode cX10_degreeX 8 = .ok (.istore_n 3, 1) := by decide +kernel
theorem dX10_degreeX_9 : decode cX10_degreeX 9 = .ok (.iload_n 3, 1) := by decide +kernel
theorem dX10_degreeX_10 : decode cX10_degreeX 10 = .ok (.bipush 7, 2) := by decide +kernel
theorem dX10_degreeX_12 : decode cX10_degreeX 12 = .ok (.if_icmp .ge 25, 3) := by decide +kernel
theorem dX10_degreeX_15 : decode cX10_degreeX 15 = .ok (.aload_n 0, 1) := by decide +kernel
theorem dX10_degreeX_16 : decode cX10_degreeX 16 = .ok (.getfield 13, 3) := by decide +kernel
theorem dX10_degreeX_19 : decode cX10_degreeX 19 = .ok (.iload_n 1, 1) := by decide +kernel
theorem dX10_degreeX_20 : decode cX10_degreeX 20 = .ok (.iload_n 2, 1) := by decide +kernel
theorem dX10_degreeX_21 : decode cX10_degreeX 21 = .ok (.iload_n 3, 1) := by decide +kernel
theorem dX10_degreeX_22 : decode cX10_degreeX 22 = .ok (.invokestatic 99, 3) := by decide +kernel
theorem dX10_degreeX_25 : decode cX10_degreeX 25 = .ok (.iaload, 1) := by decide +kernel
theorem dX10_degreeX_26 : decode cX10_degreeX 26 = .ok (.ifCond .eq 5, 3) := by decide +kernel
theorem dX10_degreeX_29 : decode cX10_degreeX 29 = .ok (.iload_n 2, 1) := by decide +kernel
theorem dX10_degreeX_30 : decode cX10_degreeX 30 = .ok (.ireturn, 1) := by decide +kernel
theorem dX10_degreeX_31 : decode cX10_degreeX 31 = .ok (.iinc 3 1, 3) := by decide +kernel
theorem dX10_degreeX_34 : decode cX10_degreeX 34 = .ok (.goto (-25), 3) := by decide +kernel
theorem dX10_degreeX_37 : decode cX10_degreeX 37 = .ok (.iinc 2 (-1), 3) := by decide +kernel
theorem dX10_degreeX_40 : decode cX10_degreeX 40 = .ok (.goto (-37), 3) := by decide +kernel
theorem dX10_degreeX_43 : decode cX10_degreeX 43 = .ok (.iconst (-1), 1) := by decide +kernel
theorem dX10_degreeX_44 : decode cX10_degreeX 44 = .ok (.ireturn, 1) := by decide +kernel
theorem dX10_degreeY_0 : decode cX10_degreeY 0 = .ok (.bipush 6, 2) := by decide +kernel
theorem dX10_degreeY_2 : decode cX10_degreeY 2 = .ok (.istore_n 2, 1) := by decide +kernel
theorem dX10_degreeY_3 : decode cX10_degreeY 3 = .ok (.iload_n 2, 1) := by decide +kernel
theorem dX10_degreeY_4 : decode cX10_degreeY 4 = .ok (.ifCond .lt 39, 3) := by decide +kernel
theorem dX10_degreeY_7 : decode cX10_degreeY 7 = .ok (.iconst 0, 1) := by decide +kernel
theorem dX10_degreeY_8 : decode cX10_degreeY 8 = .ok (.istore_n 3, 1) := by decide +kernel
theorem dX10_degreeY_9 : decode cX10_degreeY 9 = .ok (.iload_n 3, 1) := by decide +kernel
theorem dX10_degreeY_10 : decode cX10_degreeY 10 = .ok (.bipush 40, 2) := by decide +kernel
theorem dX10_degreeY_12 : decode cX10_degreeY 12 = .ok (.if_icmp .gt 25, 3) := by decide +kernel
theorem dX10_degreeY_15 : decode cX10_degreeY 15 = .ok (.aload_n 0, 1) := by decide +kernel
theorem dX10_degreeY_16 : decode cX10_degreeY 16 = .ok (.getfield 13, 3) := by decide +kernel
theorem dX10_degreeY_19 : decode cX10_degreeY 19 = .ok (.iload_n 1, 1) := by decide +kernel
theorem dX10_degreeY_20 : decode cX10_degreeY 20 = .ok (.iload_n 3, 1) := by decide +kernel
theorem dX10_degreeY_21 : decode cX10_degreeY 21 = .ok (.iload_n 2, 1) := by decide +kernel
theorem dX10_degreeY_22 : decode cX10_degreeY 22 = .ok (.invokestatic 99, 3) := by decide +kernel
theorem dX10_degreeY_25 : decode cX10_degreeY 25 = .ok (.iaload, 1) := by decide +kernel
theorem dX10_degreeY_26 : decode cX10_degreeY 26 = .ok (.ifCond .eq 5, 3) := by decide +kernel
theorem dX10_degreeY_29 : decode cX10_degreeY 29 = .ok (.iload_n 2, 1) := by decide +kernel
theorem dX10_degreeY_30 : decode cX10_degreeY 30 = .ok (.ireturn, 1) := by decide +kernel
theorem dX10_degreeY_31 : decode cX10_degreeY 31 = .ok (.iinc 3 1, 3) := by decide +kernel
theorem dX10_degreeY_34 : decode cX10_degreeY 34 = .ok (.goto (-25), 3) := by decide +kernel
theorem dX10_degreeY_37 : decode cX10_degreeY 37 = .ok (.iinc 2 (-1), 3) := by decide +kernel
theorem dX10_degreeY_40 : decode cX10_degreeY 40 = .ok (.goto (-37), 3) := by decide +kernel
theorem dX10_degreeY_43 : decode cX10_degreeY 43 = .ok (.iconst (-1), 1) := by decide +kernel
theorem dX10_degreeY_44 : decode cX10_degreeY 44 = .ok (.ireturn, 1) := by decide +kernel
theorem dX10_isPlain_0 : decode cX10_isPlain 0 = .ok (.aload_n 0, 1) := by decide +kernel
theorem dX10_isPlain_1 : decode cX10_isPlain 1 = .ok (.iload_n 1, 1) := by decide +kernel
theorem dX10_isPlain_2 : decode cX10_isPlain 2 = .ok (.invokevirtual 103, 3) := by decide +kernel
theorem dX10_isPlain_5 : decode cX10_isPlain 5 = .ok (.ifCond .gt 7, 3) := by decide +kernel
theorem dX10_isPlain_8 : decode cX10_isPlain 8 = .ok (.iconst 1, 1) := by decide +kernel
theorem dX10_isPlain_9 : decode cX10_isPlain 9 = .ok (.goto 4, 3) := by decide +kernel
theorem dX10_isPlain_12 : decode cX10_isPlain 12 = .ok (.iconst 0, 1) := by decide +kernel
theorem dX10_isPlain_13 : decode cX10_isPlain 13 = .ok (.ireturn, 1) := by decide +kernel
theorem dX10_take0_0 : decode cX10_take0 0 = .ok (.aload_n 0, 1) := by decide +kernel
theorem dX10_take0_1 : decode cX10_take0 1 = .ok (.invokevirtual 107, 3) := by decide +kernel
theorem dX10_take0_4 : decode cX10_take0 4 = .ok (.iconst 0, 1) := by decide +kernel
theorem dX10_take0_5 : decode cX10_take0 5 = .ok (.istore_n 2, 1) := by decide +kernel
theorem dX10_take0_6 : decode cX10_take0 6 = .ok (.iload_n 2, 1) := by decide +kernel
theorem dX10_take0_7 : decode cX10_take0 7 = .ok (.sipush 287, 3) := by decide +kernel
theorem dX10_take0_10 : decode cX10_take0 10 = .ok (.if_icmp .ge 27, 3) := by decide +kernel
theorem dX10_take0_13 : decode cX10_take0 13 = .ok (.aload_n 0, 1) := by decide +kernel
theorem dX10_take0_14 : decode cX10_take0 14 = .ok (.getfield 17, 3) := by decide +kernel
theorem dX10_take0_17 : decode cX10_take0 17 = .ok (.iload_n 2, 1) := by decide +kernel
theorem dX10_take0_18 : decode cX10_take0 18 = .ok (.aload_n 0, 1) := by decide +kernel
theorem dX10_take0_19 : decode cX10_take0 19 = .ok (.getfield 13, 3) := by decide +kernel
theorem dX10_take0_22 : decode cX10_take0 22 = .ok (.sipush 287, 3) := by decide +kernel
theorem dX10_take0_25 : decode cX10_take0 25 = .ok (.iload_n 1, 1) := by decide +kernel
theorem dX10_take0_26 : decode cX10_take0 26 = .ok (.imul, 1) := by decide +kernel
theorem dX10_take0_27 : decode cX10_take0 27 = .ok (.iload_n 2, 1) := by decide +kernel
theorem dX10_take0_28 : decode cX10_take0 28 = .ok (.iadd, 1) := by decide +kernel
theorem dX10_take0_29 : decode cX10_take0 29 = .ok (.iaload, 1) := by decide +kernel
theorem dX10_take0_30 : decode cX10_take0 30 = .ok (.iastore, 1) := by decide +kernel
theorem dX10_take0_31 : decode cX10_take0 31 = .ok (.iinc 2 1, 3) := by decide +kernel
theorem dX10_take0_34 : decode cX10_take0 34 = .ok (.goto (-28), 3) := by decide +kernel
theorem dX10_take0_37 : decode cX10_take0 37 = .ok (.return_, 1) := by decide +kernel
theorem dX10_isNought_0 : decode cX10_isNought 0 = .ok (.aload_n 0, 1) := by decide +kernel
theorem dX10_isNought_1 : decode cX10_isNought 1 = .ok (.iload_n 1, 1) := by decide +kernel
theorem dX10_isNought_2 : decode cX10_isNought 2 = .ok (.invokevirtual 154, 3) := by decide +kernel
theorem dX10_isNought_5 : decode cX10_isNought 5 = .ok (.iconst (-1), 1) := by decide +kernel
theorem dX10_isNought_6 : decode cX10_isNought 6 = .ok (.if_icmp .ne 7, 3) := by decide +kernel
theorem dX10_isNought_9 : decode cX10_isNought 9 = .ok (.iconst 1, 1) := by decide +kernel
theorem dX10_isNought_10 : decode cX10_isNought 10 = .ok (.goto 4, 3) := by decide +kernel
theorem dX10_isNought_13 : decode cX10_isNought 13 = .ok (.iconst 0, 1) := by decide +kernel
theorem dX10_isNought_14 : decode cX10_isNought 14 = .ok (.ireturn, 1) := by decide +kernel
theorem dX10_times_0 : decode cX10_times 0 = .ok (.aload_n 0, 1) := by decide +kernel
theorem dX10_times_1 : decode cX10_times 1 = .ok (.invokevirtual 107, 3) := by decide +kernel
theorem dX10_times_4 : decode cX10_times 4 = .ok (.aload_n 0, 1) := by decide +kernel
theorem dX10_times_5 : decode cX10_times 5 = .ok (.iload_n 1, 1) := by decide +kernel
theorem dX10_times_6 : decode cX10_times 6 = .ok (.invokevirtual 157, 3) := by decide +kernel
theorem dX10_times_9 : decode cX10_times 9 = .ok (.ifCond .ne 96, 3) := by decide +kernel
theorem dX10_times_12 : decode cX10_times 12 = .ok (.aload_n 0, 1) := by decide +kernel
theorem dX10_times_13 : decode cX10_times 13 = .ok (.iload_n 2, 1) := by decide +kernel
theorem dX10_times_14 : decode cX10_times 14 = .ok (.invokevirtual 157, 3) := by decide +kernel
theorem dX10_times_17 : decode cX10_times 17 = .ok (.ifCond .ne 88, 3) := by decide +kernel
theorem dX10_times_20 : decode cX10_times 20 = .ok (.aload_n 0, 1) := by decide +kernel
theorem dX10_times_21 : decode cX10_times 21 = .ok (.iload_n 1, 1) := by decide +kernel
theorem dX10_times_22 : decode cX10_times 22 = .ok (.invokevirtual 154, 3) := by decide +kernel
theorem dX10_times_25 : decode cX10_times 25 = .ok (.aload_n 0, 1) := by decide +kernel
theorem dX10_times_26 : decode cX10_times 26 = .ok (.iload_n 2, 1) := by decide +kernel
theorem dX10_times_27 : decode cX10_times 27 = .ok (.invokevirtual 154, 3) := by decide +kernel
theorem dX10_times_30 : decode cX10_times 30 = .ok (.iadd, 1) := by decide +kernel
theorem dX10_times_31 : decode cX10_times 31 = .ok (.bipush 40, 2) := by decide +kernel
theorem dX10_times_33 : decode cX10_times 33 = .ok (.if_icmp .gt 19, 3) := by decide +kernel
theorem dX10_times_36 : decode cX10_times 36 = .ok (.aload_n 0, 1) := by decide +kernel
theorem dX10_times_37 : decode cX10_times 37 = .ok (.iload_n 1, 1) := by decide +kernel
theorem dX10_times_38 : decode cX10_times 38 = .ok (.invokevirtual 103, 3) := by decide +kernel
theorem dX10_times_41 : decode cX10_times 41 = .ok (.aload_n 0, 1) := by decide +kernel
theorem dX10_times_42 : decode cX10_times 42 = .ok (.iload_n 2, 1) := by decide +kernel
theorem dX10_times_43 : decode cX10_times 43 = .ok (.invokevirtual 103, 3) := by decide +kernel
theorem dX10_times_46 : decode cX10_times 46 = .ok (.iadd, 1) := by decide +kernel
theorem dX10_times_47 : decode cX10_times 47 = .ok (.bipush 6, 2) := by decide +kernel
theorem dX10_times_49 : decode cX10_times 49 = .ok (.if_icmp .le 6, 3) := by decide +kernel
theorem dX10_times_52 : decode cX10_times 52 = .ok (.bipush (-4), 2) := by decide +kernel
theorem dX10_times_54 : decode cX10_times 54 = .ok (.ireturn, 1) := by decide +kernel
theorem dX10_times_55 : decode cX10_times 55 = .ok (.iconst 0, 1) := by decide +kernel
theorem dX10_times_56 : decode cX10_times 56 = .ok (.istore_n 3, 1) := by decide +kernel
theorem dX10_times_57 : decode cX10_times 57 = .ok (.iload_n 3, 1) := by decide +kernel
theorem dX10_times_58 : decode cX10_times 58 = .ok (.bipush 40, 2) := by decide +kernel
theorem dX10_times_60 : decode cX10_times 60 = .ok (.if_icmp .gt 45, 3) := by decide +kernel
theorem dX10_times_63 : decode cX10_times 63 = .ok (.iconst 0, 1) := by decide +kernel
theorem dX10_times_64 : decode cX10_times 64 = .ok (.istore 4, 2) := by decide +kernel
theorem dX10_times_66 : decode cX10_times 66 = .ok (.iload 4, 2) := by decide +kernel
theorem dX10_times_68 : decode cX10_times 68 = .ok (.bipush 7, 2) := by decide +kernel
theorem dX10_times_70 : decode cX10_times 70 = .ok (.if_icmp .ge 29, 3) := by decide +kernel
theorem dX10_times_73 : decode cX10_times 73 = .ok (.aload_n 0, 1) := by decide +kernel
theorem dX10_times_74 : decode cX10_times 74 = .ok (.aload_n 0, 1) := by decide +kernel
theorem dX10_times_75 : decode cX10_times 75 = .ok (.getfield 13, 3) := by decide +kernel
theorem dX10_times_78 : decode cX10_times 78 = .ok (.iload_n 1, 1) := by decide +kernel
theorem dX10_times_79 : decode cX10_times 79 = .ok (.iload_n 3, 1) := by decide +kernel
theorem dX10_times_80 : decode cX10_times 80 = .ok (.iload 4, 2) := by decide +kernel
theorem dX10_times_82 : decode cX10_times 82 = .ok (.invokestatic 99, 3) := by decide +kernel
theorem dX10_times_85 : decode cX10_times 85 = .ok (.iaload, 1) := by decide +kernel
theorem dX10_times_86 : decode cX10_times 86 = .ok (.iload_n 3, 1) := by decide +kernel
theorem dX10_times_87 : decode cX10_times 87 = .ok (.iload 4, 2) := by decide +kernel
theorem dX10_times_89 : decode cX10_times 89 = .ok (.iload_n 2, 1) := by decide +kernel
theorem dX10_times_90 : decode cX10_times 90 = .ok (.invokevirtual 160, 3) := by decide +kernel
theorem dX10_times_93 : decode cX10_times 93 = .ok (.iinc 4 1, 3) := by decide +kernel
theorem dX10_times_96 : decode cX10_times 96 = .ok (.goto (-30), 3) := by decide +kernel
theorem dX10_times_99 : decode cX10_times 99 = .ok (.iinc 3 1, 3) := by decide +kernel
theorem dX10_times_102 : decode cX10_times 102 = .ok (.goto (-45), 3) := by decide +kernel
theorem dX10_times_105 : decode cX10_times 105 = .ok (.aload_n 0, 1) := by decide +kernel
theorem dX10_times_106 : decode cX10_times 106 = .ok (.invokevirtual 114, 3) := by decide +kernel
theorem dX10_times_109 : decode cX10_times 109 = .ok (.ireturn, 1) := by decide +kernel
theorem dX10_addTimes_0 : decode cX10_addTimes 0 = .ok (.iload_n 1, 1) := by decide +kernel
theorem dX10_addTimes_1 : decode cX10_addTimes 1 = .ok (.ifCond .ne 4, 3) := by decide +kernel
theorem dX10_addTimes_4 : decode cX10_addTimes 4 = .ok (.return_, 1) := by decide +kernel
theorem dX10_addTimes_5 : decode cX10_addTimes 5 = .ok (.iconst 0, 1) := by decide +kernel
theorem dX10_addTimes_6 : decode cX10_addTimes 6 = .ok (.istore 5, 2) := by decide +kernel
theorem dX10_addTimes_8 : decode cX10_addTimes 8 = .ok (.iload 5, 2) := by decide +kernel
theorem dX10_addTimes_10 : decode cX10_addTimes 10 = .ok (.bipush 40, 2) := by decide +kernel
theorem dX10_addTimes_12 : decode cX10_addTimes 12 = .ok (.if_icmp .gt 89, 3) := by decide +kernel
theorem dX10_addTimes_15 : decode cX10_addTimes 15 = .ok (.iconst 0, 1) := by decide +kernel
theorem dX10_addTimes_16 : decode cX10_addTimes 16 = .ok (.istore 6, 2) := by decide +kernel
theorem dX10_addTimes_18 : decode cX10_addTimes 18 = .ok (.iload 6, 2) := by decide +kernel
theorem dX10_addTimes_20 : decode cX10_addTimes 20 = .ok (.bipush 7, 2) := by decide +kernel
theorem dX10_addTimes_22 : decode cX10_addTimes 22 = .ok (.if_icmp .ge 73, 3) := by decide +kernel
theorem dX10_addTimes_25 : decode cX10_addTimes 25 = .ok (.aload_n 0, 1) := by decide +kernel
theorem dX10_addTimes_26 : decode cX10_addTimes 26 = .ok (.getfield 13, 3) := by decide +kernel
theorem dX10_addTimes_29 : decode cX10_addTimes 29 = .ok (.iload 4, 2) := by decide +kernel
theorem dX10_addTimes_31 : decode cX10_addTimes 31 = .ok (.iload 5, 2) := by decide +kernel
theorem dX10_addTimes_33 : decode cX10_addTimes 33 = .ok (.iload 6, 2) := by decide +kernel
theorem dX10_addTimes_35 : decode cX10_addTimes 35 = .ok (.invokestatic 99, 3) := by decide +kernel
theorem dX10_addTimes_38 : decode cX10_addTimes 38 = .ok (.iaload, 1) := by decide +kernel
theorem dX10_addTimes_39 : decode cX10_addTimes 39 = .ok (.istore 7, 2) := by decide +kernel
theorem dX10_addTimes_41 : decode cX10_addTimes 41 = .ok (.iload 7, 2) := by decide +kernel
theorem dX10_addTimes_43 : decode cX10_addTimes 43 = .ok (.ifCond .eq 46, 3) := by decide +kernel
theorem dX10_addTimes_46 : decode cX10_addTimes 46 = .ok (.bipush 7, 2) := by decide +kernel
theorem dX10_addTimes_48 : decode cX10_addTimes 48 = .ok (.iload_n 2, 1) := by decide +kernel
theorem dX10_addTimes_49 : decode cX10_addTimes 49 = .ok (.iload 5, 2) := by decide +kernel
theorem dX10_addTimes_51 : decode cX10_addTimes 51 = .ok (.iadd, 1) := by decide +kernel
theorem dX10_addTimes_52 : decode cX10_addTimes 52 = .ok (.imul, 1) := by decide +kernel
theorem dX10_addTimes_53 : decode cX10_addTimes 53 = .ok (.iload_n 3, 1) := by decide +kernel
theorem dX10_addTimes_54 : decode cX10_addTimes 54 = .ok (.iadd, 1) := by decide +kernel
theorem dX10_addTimes_55 : decode cX10_addTimes 55 = .ok (.iload 6, 2) := by decide +kernel
theorem dX10_addTimes_57 : decode cX10_addTimes 57 = .ok (.iadd, 1) := by decide +kernel
theorem dX10_addTimes_58 : decode cX10_addTimes 58 = .ok (.istore 8, 2) := by decide +kernel
theorem dX10_addTimes_60 : decode cX10_addTimes 60 = .ok (.aload_n 0, 1) := by decide +kernel
theorem dX10_addTimes_61 : decode cX10_addTimes 61 = .ok (.getfield 17, 3) := by decide +kernel
theorem dX10_addTimes_64 : decode cX10_addTimes 64 = .ok (.iload 8, 2) := by decide +kernel
theorem dX10_addTimes_66 : decode cX10_addTimes 66 = .ok (.aload_n 0, 1) := by decide +kernel
theorem dX10_addTimes_67 : decode cX10_addTimes 67 = .ok (.getfield 17, 3) := by decide +kernel
theorem dX10_addTimes_70 : decode cX10_addTimes 70 = .ok (.iload 8, 2) := by decide +kernel
theorem dX10_addTimes_72 : decode cX10_addTimes 72 = .ok (.iaload, 1) := by decide +kernel
theorem dX10_addTimes_73 : decode cX10_addTimes 73 = .ok (.i2l, 1) := by decide +kernel
theorem dX10_addTimes_74 : decode cX10_addTimes 74 = .ok (.iload_n 1, 1) := by decide +kernel
theorem dX10_addTimes_75 : decode cX10_addTimes 75 = .ok (.i2l, 1) := by decide +kernel
theorem dX10_addTimes_76 : decode cX10_addTimes 76 = .ok (.iload 7, 2) := by decide +kernel
theorem dX10_addTimes_78 : decode cX10_addTimes 78 = .ok (.i2l, 1) := by decide +kernel
theorem dX10_addTimes_79 : decode cX10_addTimes 79 = .ok (.lmul, 1) := by decide +kernel
theorem dX10_addTimes_80 : decode cX10_addTimes 80 = .ok (.ladd, 1) := by decide +kernel
theorem dX10_addTimes_81 : decode cX10_addTimes 81 = .ok (.aload_n 0, 1) := by decide +kernel
theorem dX10_addTimes_82 : decode cX10_addTimes 82 = .ok (.getfield 78, 3) := by decide +kernel
theorem dX10_addTimes_85 : decode cX10_addTimes 85 = .ok (.i2l, 1) := by decide +kernel
theorem dX10_addTimes_86 : decode cX10_addTimes 86 = .ok (.lrem, 1) := by decide +kernel
theorem dX10_addTimes_87 : decode cX10_addTimes 87 = .ok (.l2i, 1) := by decide +kernel
theorem dX10_addTimes_88 : decode cX10_addTimes 88 = .ok (.iastore, 1) := by decide +kernel
theorem dX10_addTimes_89 : decode cX10_addTimes 89 = .ok (.iinc 6 1, 3) := by decide +kernel
theorem dX10_addTimes_92 : decode cX10_addTimes 92 = .ok (.goto (-74), 3) := by decide +kernel
theorem dX10_addTimes_95 : decode cX10_addTimes 95 = .ok (.iinc 5 1, 3) := by decide +kernel
theorem dX10_addTimes_98 : decode cX10_addTimes 98 = .ok (.goto (-90), 3) := by decide +kernel
theorem dX10_addTimes_101 : decode cX10_addTimes 101 = .ok (.return_, 1) := by decide +kernel
theorem dX10_inPlace_0 : decode cX10_inPlace 0 = .ok (.iload_n 3, 1) := by decide +kernel
theorem dX10_inPlace_1 : decode cX10_inPlace 1 = .ok (.ifCond .eq 11, 3) := by decide +kernel
theorem dX10_inPlace_4 : decode cX10_inPlace 4 = .ok (.aload_n 0, 1) := by decide +kernel
theorem dX10_inPlace_5 : decode cX10_inPlace 5 = .ok (.iload_n 1, 1) := by decide +kernel
theorem dX10_inPlace_6 : decode cX10_inPlace 6 = .ok (.invokevirtual 154, 3) := by decide +kernel
theorem dX10_inPlace_9 : decode cX10_inPlace 9 = .ok (.goto 8, 3) := by decide +kernel
theorem dX10_inPlace_12 : decode cX10_inPlace 12 = .ok (.aload_n 0, 1) := by decide +kernel
theorem dX10_inPlace_13 : decode cX10_inPlace 13 = .ok (.iload_n 1, 1) := by decide +kernel
theorem dX10_inPlace_14 : decode cX10_inPlace 14 = .ok (.invokevirtual 103, 3) := by decide +kernel
theorem dX10_inPlace_17 : decode cX10_inPlace 17 = .ok (.istore 4, 2) := by decide +kernel
theorem dX10_inPlace_19 : decode cX10_inPlace 19 = .ok (.aload_n 0, 1) := by decide +kernel
theorem dX10_inPlace_20 : decode cX10_inPlace 20 = .ok (.invokevirtual 107, 3) := by decide +kernel
theorem dX10_inPlace_23 : decode cX10_inPlace 23 = .ok (.aload_n 0, 1) := by decide +kernel
theorem dX10_inPlace_24 : decode cX10_inPlace 24 = .ok (.iload_n 2, 1) := by decide +kernel
theorem dX10_inPlace_25 : decode cX10_inPlace 25 = .ok (.invokevirtual 157, 3) := by decide +kernel
theorem dX10_inPlace_28 : decode cX10_inPlace 28 = .ok (.istore 5, 2) := by decide +kernel
theorem dX10_inPlace_30 : decode cX10_inPlace 30 = .ok (.iload 4, 2) := by decide +kernel
theorem dX10_inPlace_32 : decode cX10_inPlace 32 = .ok (.istore 6, 2) := by decide +kernel
theorem dX10_inPlace_34 : decode cX10_inPlace 34 = .ok (.iload 6, 2) := by decide +kernel
theorem dX10_inPlace_36 : decode cX10_inPlace 36 = .ok (.ifCond .lt 277, 3) := by decide +kernel
theorem dX10_inPlace_39 : decode cX10_inPlace 39 = .ok (.iconst (-1), 1) := by decide +kernel
theorem dX10_inPlace_40 : decode cX10_inPlace 40 = .ok (.istore 7, 2) := by decide +kernel
theorem dX10_inPlace_42 : decode cX10_inPlace 42 = .ok (.iconst (-1), 1) := by decide +kernel
theorem dX10_inPlace_43 : decode cX10_inPlace 43 = .ok (.istore 8, 2) := by decide +kernel
theorem dX10_inPlace_45 : decode cX10_inPlace 45 = .ok (.iconst 0, 1) := by decide +kernel
theorem dX10_inPlace_46 : decode cX10_inPlace 46 = .ok (.istore 9, 2) := by decide +kernel
theorem dX10_inPlace_48 : decode cX10_inPlace 48 = .ok (.iload 9, 2) := by decide +kernel
theorem dX10_inPlace_50 : decode cX10_inPlace 50 = .ok (.sipush 287, 3) := by decide +kernel
theorem dX10_inPlace_53 : decode cX10_inPlace 53 = .ok (.if_icmp .ge 77, 3) := by decide +kernel
theorem dX10_inPlace_56 : decode cX10_inPlace 56 = .ok (.aload_n 0, 1) := by decide +kernel
theorem dX10_inPlace_57 : decode cX10_inPlace 57 = .ok (.getfield 20, 3) := by decide +kernel
theorem dX10_inPlace_60 : decode cX10_inPlace 60 = .ok (.iload 9, 2) := by decide +kernel
theorem dX10_inPlace_62 : decode cX10_inPlace 62 = .ok (.aload_n 0, 1) := by decide +kernel
theorem dX10_inPlace_63 : decode cX10_inPlace 63 = .ok (.getfield 17, 3) := by decide +kernel
theorem dX10_inPlace_66 : decode cX10_inPlace 66 = .ok (.iload 9, 2) := by decide +kernel
theorem dX10_inPlace_68 : decode cX10_inPlace 68 = .ok (.iaload, 1) := by decide +kernel
theorem dX10_inPlace_69 : decode cX10_inPlace 69 = .ok (.iastore, 1) := by decide +kernel
theorem dX10_inPlace_70 : decode cX10_inPlace 70 = .ok (.aload_n 0, 1) := by decide +kernel
theorem dX10_inPlace_71 : decode cX10_inPlace 71 = .ok (.getfield 17, 3) := by decide +kernel
theorem dX10_inPlace_74 : decode cX10_inPlace 74 = .ok (.iload 9, 2) := by decide +kernel
theorem dX10_inPlace_76 : decode cX10_inPlace 76 = .ok (.iaload, 1) := by decide +kernel
theorem dX10_inPlace_77 : decode cX10_inPlace 77 = .ok (.ifCond .eq 47, 3) := by decide +kernel
theorem dX10_inPlace_80 : decode cX10_inPlace 80 = .ok (.iload 9, 2) := by decide +kernel
theorem dX10_inPlace_82 : decode cX10_inPlace 82 = .ok (.bipush 7, 2) := by decide +kernel
theorem dX10_inPlace_84 : decode cX10_inPlace 84 = .ok (.idiv, 1) := by decide +kernel
theorem dX10_inPlace_85 : decode cX10_inPlace 85 = .ok (.iload 7, 2) := by decide +kernel
theorem dX10_inPlace_87 : decode cX10_inPlace 87 = .ok (.if_icmp .le 11, 3) := by decide +kernel
theorem dX10_inPlace_90 : decode cX10_inPlace 90 = .ok (.iload 9, 2) := by decide +kernel
theorem dX10_inPlace_92 : decode cX10_inPlace 92 = .ok (.bipush 7, 2) := by decide +kernel
theorem dX10_inPlace_94 : decode cX10_inPlace 94 = .ok (.idiv, 1) := by decide +kernel
theorem dX10_inPlace_95 : decode cX10_inPlace 95 = .ok (.goto 5, 3) := by decide +kernel
theorem dX10_inPlace_98 : decode cX10_inPlace 98 = .ok (.iload 7, 2) := by decide +kernel
theorem dX10_inPlace_100 : decode cX10_inPlace 100 = .ok (.istore 7, 2) := by decide +kernel
theorem dX10_inPlace_102 : decode cX10_inPlace 102 = .ok (.iload 9, 2) := by decide +kernel
theorem dX10_inPlace_104 : decode cX10_inPlace 104 = .ok (.bipush 7, 2) := by decide +kernel
theorem dX10_inPlace_106 : decode cX10_inPlace 106 = .ok (.irem, 1) := by decide +kernel
theorem dX10_inPlace_107 : decode cX10_inPlace 107 = .ok (.iload 8, 2) := by decide +kernel
theorem dX10_inPlace_109 : decode cX10_inPlace 109 = .ok (.if_icmp .le 11, 3) := by decide +kernel
theorem dX10_inPlace_112 : decode cX10_inPlace 112 = .ok (.iload 9, 2) := by decide +kernel
theorem dX10_inPlace_114 : decode cX10_inPlace 114 = .ok (.bipush 7, 2) := by decide +kernel
theorem dX10_inPlace_116 : decode cX10_inPlace 116 = .ok (.irem, 1) := by decide +kernel
theorem dX10_inPlace_117 : decode cX10_inPlace 117 = .ok (.goto 5, 3) := by decide +kernel
theorem dX10_inPlace_120 : decode cX10_inPlace 120 = .ok (.iload 8, 2) := by decide +kernel
theorem dX10_inPlace_122 : decode cX10_inPlace 122 = .ok (.istore 8, 2) := by decide +kernel
theorem dX10_inPlace_124 : decode cX10_inPlace 124 = .ok (.iinc 9 1, 3) := by decide +kernel
theorem dX10_inPlace_127 : decode cX10_inPlace 127 = .ok (.goto (-79), 3) := by decide +kernel
theorem dX10_inPlace_130 : decode cX10_inPlace 130 = .ok (.aload_n 0, 1) := by decide +kernel
theorem dX10_inPlace_131 : decode cX10_inPlace 131 = .ok (.invokevirtual 107, 3) := by decide +kernel
theorem dX10_inPlace_134 : decode cX10_inPlace 134 = .ok (.iload 7, 2) := by decide +kernel
theorem dX10_inPlace_136 : decode cX10_inPlace 136 = .ok (.iconst (-1), 1) := by decide +kernel
theorem dX10_inPlace_137 : decode cX10_inPlace 137 = .ok (.if_icmp .eq 76, 3) := by decide +kernel
theorem dX10_inPlace_140 : decode cX10_inPlace 140 = .ok (.iload 5, 2) := by decide +kernel
theorem dX10_inPlace_142 : decode cX10_inPlace 142 = .ok (.ifCond .ne 71, 3) := by decide +kernel
theorem dX10_inPlace_145 : decode cX10_inPlace 145 = .ok (.iload 7, 2) := by decide +kernel
theorem dX10_inPlace_147 : decode cX10_inPlace 147 = .ok (.aload_n 0, 1) := by decide +kernel
theorem dX10_inPlace_148 : decode cX10_inPlace 148 = .ok (.iload_n 2, 1) := by decide +kernel
theorem dX10_inPlace_149 : decode cX10_inPlace 149 = .ok (.invokevirtual 154, 3) := by decide +kernel
theorem dX10_inPlace_152 : decode cX10_inPlace 152 = .ok (.iadd, 1) := by decide +kernel
theorem dX10_inPlace_153 : decode cX10_inPlace 153 = .ok (.bipush 40, 2) := by decide +kernel
theorem dX10_inPlace_155 : decode cX10_inPlace 155 = .ok (.if_icmp .gt 16, 3) := by decide +kernel
theorem dX10_inPlace_158 : decode cX10_inPlace 158 = .ok (.iload 8, 2) := by decide +kernel
theorem dX10_inPlace_160 : decode cX10_inPlace 160 = .ok (.aload_n 0, 1) := by decide +kernel
theorem dX10_inPlace_161 : decode cX10_inPlace 161 = .ok (.iload_n 2, 1) := by decide +kernel
theorem dX10_inPlace_162 : decode cX10_inPlace 162 = .ok (.invokevirtual 103, 3) := by decide +kernel
theorem dX10_inPlace_165 : decode cX10_inPlace 165 = .ok (.iadd, 1) := by decide +kernel
theorem dX10_inPlace_166 : decode cX10_inPlace 166 = .ok (.bipush 6, 2) := by decide +kernel
theorem dX10_inPlace_168 : decode cX10_inPlace 168 = .ok (.if_icmp .le 6, 3) := by decide +kernel
theorem dX10_inPlace_171 : decode cX10_inPlace 171 = .ok (.bipush (-4), 2) := by decide +kernel
theorem dX10_inPlace_173 : decode cX10_inPlace 173 = .ok (.ireturn, 1) := by decide +kernel
theorem dX10_inPlace_174 : decode cX10_inPlace 174 = .ok (.iconst 0, 1) := by decide +kernel
theorem dX10_inPlace_175 : decode cX10_inPlace 175 = .ok (.istore 9, 2) := by decide +kernel
theorem dX10_inPlace_177 : decode cX10_inPlace 177 = .ok (.iload 9, 2) := by decide +kernel
theorem dX10_inPlace_179 : decode cX10_inPlace 179 = .ok (.sipush 287, 3) := by decide +kernel
theorem dX10_inPlace_182 : decode cX10_inPlace 182 = .ok (.if_icmp .ge 31, 3) := by decide +kernel
theorem dX10_inPlace_185 : decode cX10_inPlace 185 = .ok (.aload_n 0, 1) := by decide +kernel
theorem dX10_inPlace_186 : decode cX10_inPlace 186 = .ok (.aload_n 0, 1) := by decide +kernel
theorem dX10_inPlace_187 : decode cX10_inPlace 187 = .ok (.getfield 20, 3) := by decide +kernel
theorem dX10_inPlace_190 : decode cX10_inPlace 190 = .ok (.iload 9, 2) := by decide +kernel
theorem dX10_inPlace_192 : decode cX10_inPlace 192 = .ok (.iaload, 1) := by decide +kernel
theorem dX10_inPlace_193 : decode cX10_inPlace 193 = .ok (.iload 9, 2) := by decide +kernel
theorem dX10_inPlace_195 : decode cX10_inPlace 195 = .ok (.bipush 7, 2) := by decide +kernel
theorem dX10_inPlace_197 : decode cX10_inPlace 197 = .ok (.idiv, 1) := by decide +kernel
theorem dX10_inPlace_198 : decode cX10_inPlace 198 = .ok (.iload 9, 2) := by decide +kernel
theorem dX10_inPlace_200 : decode cX10_inPlace 200 = .ok (.bipush 7, 2) := by decide +kernel
theorem dX10_inPlace_202 : decode cX10_inPlace 202 = .ok (.irem, 1) := by decide +kernel
theorem dX10_inPlace_203 : decode cX10_inPlace 203 = .ok (.iload_n 2, 1) := by decide +kernel
theorem dX10_inPlace_204 : decode cX10_inPlace 204 = .ok (.invokevirtual 160, 3) := by decide +kernel
theorem dX10_inPlace_207 : decode cX10_inPlace 207 = .ok (.iinc 9 1, 3) := by decide +kernel
theorem dX10_inPlace_210 : decode cX10_inPlace 210 = .ok (.goto (-33), 3) := by decide +kernel
theorem dX10_inPlace_213 : decode cX10_inPlace 213 = .ok (.iconst 0, 1) := by decide +kernel
theorem dX10_inPlace_214 : decode cX10_inPlace 214 = .ok (.istore 9, 2) := by decide +kernel
theorem dX10_inPlace_216 : decode cX10_inPlace 216 = .ok (.iload 9, 2) := by decide +kernel
theorem dX10_inPlace_218 : decode cX10_inPlace 218 = .ok (.iload_n 3, 1) := by decide +kernel
theorem dX10_inPlace_219 : decode cX10_inPlace 219 = .ok (.ifCond .eq 8, 3) := by decide +kernel
theorem dX10_inPlace_222 : decode cX10_inPlace 222 = .ok (.bipush 7, 2) := by decide +kernel
theorem dX10_inPlace_224 : decode cX10_inPlace 224 = .ok (.goto 5, 3) := by decide +kernel
theorem dX10_inPlace_227 : decode cX10_inPlace 227 = .ok (.bipush 41, 2) := by decide +kernel
theorem dX10_inPlace_229 : decode cX10_inPlace 229 = .ok (.if_icmp .ge 78, 3) := by decide +kernel
theorem dX10_inPlace_232 : decode cX10_inPlace 232 = .ok (.iload_n 3, 1) := by decide +kernel
theorem dX10_inPlace_233 : decode cX10_inPlace 233 = .ok (.ifCond .eq 8, 3) := by decide +kernel
theorem dX10_inPlace_236 : decode cX10_inPlace 236 = .ok (.iload 9, 2) := by decide +kernel
theorem dX10_inPlace_238 : decode cX10_inPlace 238 = .ok (.goto 8, 3) := by decide +kernel
theorem dX10_inPlace_241 : decode cX10_inPlace 241 = .ok (.bipush 7, 2) := by decide +kernel
theorem dX10_inPlace_243 : decode cX10_inPlace 243 = .ok (.iload 9, 2) := by decide +kernel
theorem dX10_inPlace_245 : decode cX10_inPlace 245 = .ok (.imul, 1) := by decide +kernel
theorem dX10_inPlace_246 : decode cX10_inPlace 246 = .ok (.istore 10, 2) := by decide +kernel
theorem dX10_inPlace_248 : decode cX10_inPlace 248 = .ok (.aload_n 0, 1) := by decide +kernel
theorem dX10_inPlace_249 : decode cX10_inPlace 249 = .ok (.getfield 17, 3) := by decide +kernel
theorem dX10_inPlace_252 : decode cX10_inPlace 252 = .ok (.iload 10, 2) := by decide +kernel
theorem dX10_inPlace_254 : decode cX10_inPlace 254 = .ok (.aload_n 0, 1) := by decide +kernel
theorem dX10_inPlace_255 : decode cX10_inPlace 255 = .ok (.getfield 17, 3) := by decide +kernel
theorem dX10_inPlace_258 : decode cX10_inPlace 258 = .ok (.iload 10, 2) := by decide +kernel
theorem dX10_inPlace_260 : decode cX10_inPlace 260 = .ok (.iaload, 1) := by decide +kernel
theorem dX10_inPlace_261 : decode cX10_inPlace 261 = .ok (.iload_n 3, 1) := by decide +kernel
theorem dX10_inPlace_262 : decode cX10_inPlace 262 = .ok (.ifCond .eq 19, 3) := by decide +kernel
theorem dX10_inPlace_265 : decode cX10_inPlace 265 = .ok (.aload_n 0, 1) := by decide +kernel
theorem dX10_inPlace_266 : decode cX10_inPlace 266 = .ok (.getfield 13, 3) := by decide +kernel
theorem dX10_inPlace_269 : decode cX10_inPlace 269 = .ok (.iload_n 1, 1) := by decide +kernel
theorem dX10_inPlace_270 : decode cX10_inPlace 270 = .ok (.iload 6, 2) := by decide +kernel
theorem dX10_inPlace_272 : decode cX10_inPlace 272 = .ok (.iload 9, 2) := by decide +kernel
theorem dX10_inPlace_274 : decode cX10_inPlace 274 = .ok (.invokestatic 99, 3) := by decide +kernel
theorem dX10_inPlace_277 : decode cX10_inPlace 277 = .ok (.iaload, 1) := by decide +kernel
theorem dX10_inPlace_278 : decode cX10_inPlace 278 = .ok (.goto 16, 3) := by decide +kernel
theorem dX10_inPlace_281 : decode cX10_inPlace 281 = .ok (.aload_n 0, 1) := by decide +kernel
theorem dX10_inPlace_282 : decode cX10_inPlace 282 = .ok (.getfield 13, 3) := by decide +kernel
theorem dX10_inPlace_285 : decode cX10_inPlace 285 = .ok (.iload_n 1, 1) := by decide +kernel
theorem dX10_inPlace_286 : decode cX10_inPlace 286 = .ok (.iload 9, 2) := by decide +kernel
theorem dX10_inPlace_288 : decode cX10_inPlace 288 = .ok (.iload 6, 2) := by decide +kernel
theorem dX10_inPlace_290 : decode cX10_inPlace 290 = .ok (.invokestatic 99, 3) := by decide +kernel
theorem dX10_inPlace_293 : decode cX10_inPlace 293 = .ok (.iaload, 1) := by decide +kernel
theorem dX10_inPlace_294 : decode cX10_inPlace 294 = .ok (.iadd, 1) := by decide +kernel
theorem dX10_inPlace_295 : decode cX10_inPlace 295 = .ok (.aload_n 0, 1) := by decide +kernel
theorem dX10_inPlace_296 : decode cX10_inPlace 296 = .ok (.getfield 78, 3) := by decide +kernel
theorem dX10_inPlace_299 : decode cX10_inPlace 299 = .ok (.irem, 1) := by decide +kernel
theorem dX10_inPlace_300 : decode cX10_inPlace 300 = .ok (.iastore, 1) := by decide +kernel
theorem dX10_inPlace_301 : decode cX10_inPlace 301 = .ok (.iinc 9 1, 3) := by decide +kernel
theorem dX10_inPlace_304 : decode cX10_inPlace 304 = .ok (.goto (-88), 3) := by decide +kernel
theorem dX10_inPlace_307 : decode cX10_inPlace 307 = .ok (.iinc 6 (-1), 3) := by decide +kernel
theorem dX10_inPlace_310 : decode cX10_inPlace 310 = .ok (.goto (-276), 3) := by decide +kernel
theorem dX10_inPlace_313 : decode cX10_inPlace 313 = .ok (.aload_n 0, 1) := by decide +kernel
theorem dX10_inPlace_314 : decode cX10_inPlace 314 = .ok (.invokevirtual 114, 3) := by decide +kernel
theorem dX10_inPlace_317 : decode cX10_inPlace 317 = .ok (.ireturn, 1) := by decide +kernel
theorem dX10_derivative_0 : decode cX10_derivative 0 = .ok (.aload_n 0, 1) := by decide +kernel
theorem dX10_derivative_1 : decode cX10_derivative 1 = .ok (.invokevirtual 107, 3) := by decide +kernel
theorem dX10_derivative_4 : decode cX10_derivative 4 = .ok (.iconst 0, 1) := by decide +kernel
theorem dX10_derivative_5 : decode cX10_derivative 5 = .ok (.istore_n 3, 1) := by decide +kernel
theorem dX10_derivative_6 : decode cX10_derivative 6 = .ok (.iload_n 3, 1) := by decide +kernel
theorem dX10_derivative_7 : decode cX10_derivative 7 = .ok (.bipush 40, 2) := by decide +kernel
theorem dX10_derivative_9 : decode cX10_derivative 9 = .ok (.if_icmp .gt 100, 3) := by decide +kernel
theorem dX10_derivative_12 : decode cX10_derivative 12 = .ok (.iconst 0, 1) := by decide +kernel
theorem dX10_derivative_13 : decode cX10_derivative 13 = .ok (.istore 4, 2) := by decide +kernel
theorem dX10_derivative_15 : decode cX10_derivative 15 = .ok (.iload 4, 2) := by decide +kernel
theorem dX10_derivative_17 : decode cX10_derivative 17 = .ok (.bipush 7, 2) := by decide +kernel
theorem dX10_derivative_19 : decode cX10_derivative 19 = .ok (.if_icmp .ge 84, 3) := by decide +kernel
theorem dX10_derivative_22 : decode cX10_derivative 22 = .ok (.iload_n 2, 1) := by decide +kernel
theorem dX10_derivative_23 : decode cX10_derivative 23 = .ok (.ifCond .eq 7, 3) := by decide +kernel
theorem dX10_derivative_26 : decode cX10_derivative 26 = .ok (.iload_n 3, 1) := by decide +kernel
theorem dX10_derivative_27 : decode cX10_derivative 27 = .ok (.goto 5, 3) := by decide +kernel
theorem dX10_derivative_30 : decode cX10_derivative 30 = .ok (.iload 4, 2) := by decide +kernel
theorem dX10_derivative_32 : decode cX10_derivative 32 = .ok (.istore 5, 2) := by decide +kernel
theorem dX10_derivative_34 : decode cX10_derivative 34 = .ok (.iload 5, 2) := by decide +kernel
theorem dX10_derivative_36 : decode cX10_derivative 36 = .ok (.ifCond .le 61, 3) := by decide +kernel
theorem dX10_derivative_39 : decode cX10_derivative 39 = .ok (.iload_n 2, 1) := by decide +kernel
theorem dX10_derivative_40 : decode cX10_derivative 40 = .ok (.ifCond .eq 15, 3) := by decide +kernel
theorem dX10_derivative_43 : decode cX10_derivative 43 = .ok (.bipush 7, 2) := by decide +kernel
theorem dX10_derivative_45 : decode cX10_derivative 45 = .ok (.iload_n 3, 1) := by decide +kernel
theorem dX10_derivative_46 : decode cX10_derivative 46 = .ok (.iconst 1, 1) := by decide +kernel
theorem dX10_derivative_47 : decode cX10_derivative 47 = .ok (.isub, 1) := by decide +kernel
theorem dX10_derivative_48 : decode cX10_derivative 48 = .ok (.imul, 1) := by decide +kernel
theorem dX10_derivative_49 : decode cX10_derivative 49 = .ok (.iload 4, 2) := by decide +kernel
theorem dX10_derivative_51 : decode cX10_derivative 51 = .ok (.iadd, 1) := by decide +kernel
theorem dX10_derivative_52 : decode cX10_derivative 52 = .ok (.goto 12, 3) := by decide +kernel
theorem dX10_derivative_55 : decode cX10_derivative 55 = .ok (.bipush 7, 2) := by decide +kernel
theorem dX10_derivative_57 : decode cX10_derivative 57 = .ok (.iload_n 3, 1) := by decide +kernel
theorem dX10_derivative_58 : decode cX10_derivative 58 = .ok (.imul, 1) := by decide +kernel
theorem dX10_derivative_59 : decode cX10_derivative 59 = .ok (.iload 4, 2) := by decide +kernel
theorem dX10_derivative_61 : decode cX10_derivative 61 = .ok (.iadd, 1) := by decide +kernel
theorem dX10_derivative_62 : decode cX10_derivative 62 = .ok (.iconst 1, 1) := by decide +kernel
theorem dX10_derivative_63 : decode cX10_derivative 63 = .ok (.isub, 1) := by decide +kernel
theorem dX10_derivative_64 : decode cX10_derivative 64 = .ok (.istore 6, 2) := by decide +kernel
theorem dX10_derivative_66 : decode cX10_derivative 66 = .ok (.aload_n 0, 1) := by decide +kernel
theorem dX10_derivative_67 : decode cX10_derivative 67 = .ok (.getfield 17, 3) := by decide +kernel
theorem dX10_derivative_70 : decode cX10_derivative 70 = .ok (.iload 6, 2) := by decide +kernel
theorem dX10_derivative_72 : decode cX10_derivative 72 = .ok (.iload 5, 2) := by decide +kernel
theorem dX10_derivative_74 : decode cX10_derivative 74 = .ok (.i2l, 1) := by decide +kernel
theorem dX10_derivative_75 : decode cX10_derivative 75 = .ok (.aload_n 0, 1) := by decide +kernel
theorem dX10_derivative_76 : decode cX10_derivative 76 = .ok (.getfield 13, 3) := by decide +kernel
theorem dX10_derivative_79 : decode cX10_derivative 79 = .ok (.iload_n 1, 1) := by decide +kernel
theorem dX10_derivative_80 : decode cX10_derivative 80 = .ok (.iload_n 3, 1) := by decide +kernel
theorem dX10_derivative_81 : decode cX10_derivative 81 = .ok (.iload 4, 2) := by decide +kernel
theorem dX10_derivative_83 : decode cX10_derivative 83 = .ok (.invokestatic 99, 3) := by decide +kernel
theorem dX10_derivative_86 : decode cX10_derivative 86 = .ok (.iaload, 1) := by decide +kernel
theorem dX10_derivative_87 : decode cX10_derivative 87 = .ok (.i2l, 1) := by decide +kernel
theorem dX10_derivative_88 : decode cX10_derivative 88 = .ok (.lmul, 1) := by decide +kernel
theorem dX10_derivative_89 : decode cX10_derivative 89 = .ok (.aload_n 0, 1) := by decide +kernel
theorem dX10_derivative_90 : decode cX10_derivative 90 = .ok (.getfield 78, 3) := by decide +kernel
theorem dX10_derivative_93 : decode cX10_derivative 93 = .ok (.i2l, 1) := by decide +kernel
theorem dX10_derivative_94 : decode cX10_derivative 94 = .ok (.lrem, 1) := by decide +kernel
theorem dX10_derivative_95 : decode cX10_derivative 95 = .ok (.l2i, 1) := by decide +kernel
theorem dX10_derivative_96 : decode cX10_derivative 96 = .ok (.iastore, 1) := by decide +kernel
theorem dX10_derivative_97 : decode cX10_derivative 97 = .ok (.iinc 4 1, 3) := by decide +kernel
theorem dX10_derivative_100 : decode cX10_derivative 100 = .ok (.goto (-85), 3) := by decide +kernel
theorem dX10_derivative_103 : decode cX10_derivative 103 = .ok (.iinc 3 1, 3) := by decide +kernel
theorem dX10_derivative_106 : decode cX10_derivative 106 = .ok (.goto (-100), 3) := by decide +kernel
theorem dX10_derivative_109 : decode cX10_derivative 109 = .ok (.aload_n 0, 1) := by decide +kernel
theorem dX10_derivative_110 : decode cX10_derivative 110 = .ok (.invokevirtual 114, 3) := by decide +kernel
theorem dX10_derivative_113 : decode cX10_derivative 113 = .ok (.ireturn, 1) := by decide +kernel
theorem dX10_toRegister_0 : decode cX10_toRegister 0 = .ok (.iconst 0, 1) := by decide +kernel
theorem dX10_toRegister_1 : decode cX10_toRegister 1 = .ok (.istore_n 3, 1) := by decide +kernel
theorem dX10_toRegister_2 : decode cX10_toRegister 2 = .ok (.iload_n 3, 1) := by decide +kernel
theorem dX10_toRegister_3 : decode cX10_toRegister 3 = .ok (.sipush 200, 3) := by decide +kernel
theorem dX10_toRegister_6 : decode cX10_toRegister 6 = .ok (.if_icmp .ge 42, 3) := by decide +kernel
theorem dX10_toRegister_9 : decode cX10_toRegister 9 = .ok (.aload_n 0, 1) := by decide +kernel
theorem dX10_toRegister_10 : decode cX10_toRegister 10 = .ok (.getfield 23, 3) := by decide +kernel
theorem dX10_toRegister_13 : decode cX10_toRegister 13 = .ok (.sipush 200, 3) := by decide +kernel
theorem dX10_toRegister_16 : decode cX10_toRegister 16 = .ok (.iload_n 2, 1) := by decide +kernel
theorem dX10_toRegister_17 : decode cX10_toRegister 17 = .ok (.imul, 1) := by decide +kernel
theorem dX10_toRegister_18 : decode cX10_toRegister 18 = .ok (.iload_n 3, 1) := by decide +kernel
theorem dX10_toRegister_19 : decode cX10_toRegister 19 = .ok (.iadd, 1) := by decide +kernel
theorem dX10_toRegister_20 : decode cX10_toRegister 20 = .ok (.iload_n 3, 1) := by decide +kernel
theorem dX10_toRegister_21 : decode cX10_toRegister 21 = .ok (.bipush 40, 2) := by decide +kernel
theorem dX10_toRegister_23 : decode cX10_toRegister 23 = .ok (.if_icmp .gt 17, 3) := by decide +kernel
theorem dX10_toRegister_26 : decode cX10_toRegister 26 = .ok (.aload_n 0, 1) := by decide +kernel
theorem dX10_toRegister_27 : decode cX10_toRegister 27 = .ok (.getfield 13, 3) := by decide +kernel
theorem dX10_toRegister_30 : decode cX10_toRegister 30 = .ok (.iload_n 1, 1) := by decide +kernel
theorem dX10_toRegister_31 : decode cX10_toRegister 31 = .ok (.iload_n 3, 1) := by decide +kernel
theorem dX10_toRegister_32 : decode cX10_toRegister 32 = .ok (.iconst 0, 1) := by decide +kernel
theorem dX10_toRegister_33 : decode cX10_toRegister 33 = .ok (.invokestatic 99, 3) := by decide +kernel
theorem dX10_toRegister_36 : decode cX10_toRegister 36 = .ok (.iaload, 1) := by decide +kernel
theorem dX10_toRegister_37 : decode cX10_toRegister 37 = .ok (.goto 4, 3) := by decide +kernel
theorem dX10_toRegister_40 : decode cX10_toRegister 40 = .ok (.iconst 0, 1) := by decide +kernel
theorem dX10_toRegister_41 : decode cX10_toRegister 41 = .ok (.iastore, 1) := by decide +kernel
theorem dX10_toRegister_42 : decode cX10_toRegister 42 = .ok (.iinc 3 1, 3) := by decide +kernel
theorem dX10_toRegister_45 : decode cX10_toRegister 45 = .ok (.goto (-43), 3) := by decide +kernel
theorem dX10_toRegister_48 : decode cX10_toRegister 48 = .ok (.aload_n 0, 1) := by decide +kernel
theorem dX10_toRegister_49 : decode cX10_toRegister 49 = .ok (.iload_n 2, 1) := by decide +kernel
theorem dX10_toRegister_50 : decode cX10_toRegister 50 = .ok (.invokevirtual 164, 3) := by decide +kernel
theorem dX10_toRegister_53 : decode cX10_toRegister 53 = .ok (.return_, 1) := by decide +kernel
theorem dX10_measure_0 : decode cX10_measure 0 = .ok (.sipush 199, 3) := by decide +kernel
theorem dX10_measure_3 : decode cX10_measure 3 = .ok (.istore_n 2, 1) := by decide +kernel
theorem dX10_measure_4 : decode cX10_measure 4 = .ok (.iload_n 2, 1) := by decide +kernel
theorem dX10_measure_5 : decode cX10_measure 5 = .ok (.ifCond .lt 24, 3) := by decide +kernel
theorem dX10_measure_8 : decode cX10_measure 8 = .ok (.aload_n 0, 1) := by decide +kernel
theorem dX10_measure_9 : decode cX10_measure 9 = .ok (.getfield 23, 3) := by decide +kernel
theorem dX10_measure_12 : decode cX10_measure 12 = .ok (.sipush 200, 3) := by decide +kernel
theorem dX10_measure_15 : decode cX10_measure 15 = .ok (.iload_n 1, 1) := by decide +kernel
theorem dX10_measure_16 : decode cX10_measure 16 = .ok (.imul, 1) := by decide +kernel
theorem dX10_measure_17 : decode cX10_measure 17 = .ok (.iload_n 2, 1) := by decide +kernel
theorem dX10_measure_18 : decode cX10_measure 18 = .ok (.iadd, 1) := by decide +kernel
theorem dX10_measure_19 : decode cX10_measure 19 = .ok (.iaload, 1) := by decide +kernel
theorem dX10_measure_20 : decode cX10_measure 20 = .ok (.ifCond .ne 9, 3) := by decide +kernel
theorem dX10_measure_23 : decode cX10_measure 23 = .ok (.iinc 2 (-1), 3) := by decide +kernel
theorem dX10_measure_26 : decode cX10_measure 26 = .ok (.goto (-22), 3) := by decide +kernel
theorem dX10_measure_29 : decode cX10_measure 29 = .ok (.aload_n 0, 1) := by decide +kernel
theorem dX10_measure_30 : decode cX10_measure 30 = .ok (.getfield 26, 3) := by decide +kernel
theorem dX10_measure_33 : decode cX10_measure 33 = .ok (.iload_n 1, 1) := by decide +kernel
theorem dX10_measure_34 : decode cX10_measure 34 = .ok (.iload_n 2, 1) := by decide +kernel
theorem dX10_measure_35 : decode cX10_measure 35 = .ok (.iastore, 1) := by decide +kernel
theorem dX10_measure_36 : decode cX10_measure 36 = .ok (.return_, 1) := by decide +kernel
theorem dX10_copy_0 : decode cX10_copy 0 = .ok (.iconst 0, 1) := by decide +kernel
theorem dX10_copy_1 : decode cX10_copy 1 = .ok (.istore_n 3, 1) := by decide +kernel
theorem dX10_copy_2 : decode cX10_copy 2 = .ok (.iload_n 3, 1) := by decide +kernel
theorem dX10_copy_3 : decode cX10_copy 3 = .ok (.sipush 200, 3) := by decide +kernel
theorem dX10_copy_6 : decode cX10_copy 6 = .ok (.if_icmp .ge 33, 3) := by decide +kernel
theorem dX10_copy_9 : decode cX10_copy 9 = .ok (.aload_n 0, 1) := by decide +kernel
theorem dX10_copy_10 : decode cX10_copy 10 = .ok (.getfield 23, 3) := by decide +kernel
theorem dX10_copy_13 : decode cX10_copy 13 = .ok (.sipush 200, 3) := by decide +kernel
theorem dX10_copy_16 : decode cX10_copy 16 = .ok (.iload_n 2, 1) := by decide +kernel
theorem dX10_copy_17 : decode cX10_copy 17 = .ok (.imul, 1) := by decide +kernel
theorem dX10_copy_18 : decode cX10_copy 18 = .ok (.iload_n 3, 1) := by decide +kernel
theorem dX10_copy_19 : decode cX10_copy 19 = .ok (.iadd, 1) := by decide +kernel
theorem dX10_copy_20 : decode cX10_copy 20 = .ok (.aload_n 0, 1) := by decide +kernel
theorem dX10_copy_21 : decode cX10_copy 21 = .ok (.getfield 23, 3) := by decide +kernel
theorem dX10_copy_24 : decode cX10_copy 24 = .ok (.sipush 200, 3) := by decide +kernel
theorem dX10_copy_27 : decode cX10_copy 27 = .ok (.iload_n 1, 1) := by decide +kernel
theorem dX10_copy_28 : decode cX10_copy 28 = .ok (.imul, 1) := by decide +kernel
theorem dX10_copy_29 : decode cX10_copy 29 = .ok (.iload_n 3, 1) := by decide +kernel
theorem dX10_copy_30 : decode cX10_copy 30 = .ok (.iadd, 1) := by decide +kernel
theorem dX10_copy_31 : decode cX10_copy 31 = .ok (.iaload, 1) := by decide +kernel
theorem dX10_copy_32 : decode cX10_copy 32 = .ok (.iastore, 1) := by decide +kernel
theorem dX10_copy_33 : decode cX10_copy 33 = .ok (.iinc 3 1, 3) := by decide +kernel
theorem dX10_copy_36 : decode cX10_copy 36 = .ok (.goto (-34), 3) := by decide +kernel
theorem dX10_copy_39 : decode cX10_copy 39 = .ok (.aload_n 0, 1) := by decide +kernel
theorem dX10_copy_40 : decode cX10_copy 40 = .ok (.getfield 26, 3) := by decide +kernel
theorem dX10_copy_43 : decode cX10_copy 43 = .ok (.iload_n 2, 1) := by decide +kernel
theorem dX10_copy_44 : decode cX10_copy 44 = .ok (.aload_n 0, 1) := by decide +kernel
theorem dX10_copy_45 : decode cX10_copy 45 = .ok (.getfield 26, 3) := by decide +kernel
theorem dX10_copy_48 : decode cX10_copy 48 = .ok (.iload_n 1, 1) := by decide +kernel
theorem dX10_copy_49 : decode cX10_copy 49 = .ok (.iaload, 1) := by decide +kernel
theorem dX10_copy_50 : decode cX10_copy 50 = .ok (.iastore, 1) := by decide +kernel
theorem dX10_copy_51 : decode cX10_copy 51 = .ok (.return_, 1) := by decide +kernel
theorem dX10_inverse_0 : decode cX10_inverse 0 = .ok (.lconst 1, 1) := by decide +kernel
theorem dX10_inverse_1 : decode cX10_inverse 1 = .ok (.lstore_n 2, 1) := by decide +kernel
theorem dX10_inverse_2 : decode cX10_inverse 2 = .ok (.iload_n 1, 1) := by decide +kernel
theorem dX10_inverse_3 : decode cX10_inverse 3 = .ok (.i2l, 1) := by decide +kernel
theorem dX10_inverse_4 : decode cX10_inverse 4 = .ok (.lstore 4, 2) := by decide +kernel
theorem dX10_inverse_6 : decode cX10_inverse 6 = .ok (.aload_n 0, 1) := by decide +kernel
theorem dX10_inverse_7 : decode cX10_inverse 7 = .ok (.getfield 78, 3) := by decide +kernel
theorem dX10_inverse_10 : decode cX10_inverse 10 = .ok (.iconst 2, 1) := by decide +kernel
theorem dX10_inverse_11 : decode cX10_inverse 11 = .ok (.isub, 1) := by decide +kernel
theorem dX10_inverse_12 : decode cX10_inverse 12 = .ok (.istore 6, 2) := by decide +kernel
theorem dX10_inverse_14 : decode cX10_inverse 14 = .ok (.iload 6, 2) := by decide +kernel
theorem dX10_inverse_16 : decode cX10_inverse 16 = .ok (.ifCond .le 48, 3) := by decide +kernel
theorem dX10_inverse_19 : decode cX10_inverse 19 = .ok (.iload 6, 2) := by decide +kernel
theorem dX10_inverse_21 : decode cX10_inverse 21 = .ok (.iconst 1, 1) := by decide +kernel
theorem dX10_inverse_22 : decode cX10_inverse 22 = .ok (.iand, 1) := by decide +kernel
theorem dX10_inverse_23 : decode cX10_inverse 23 = .ok (.iconst 1, 1) := by decide +kernel
theorem dX10_inverse_24 : decode cX10_inverse 24 = .ok (.if_icmp .ne 16, 3) := by decide +kernel
theorem dX10_inverse_27 : decode cX10_inverse 27 = .ok (.lload_n 2, 1) := by decide +kernel
theorem dX10_inverse_28 : decode cX10_inverse 28 = .ok (.lload 4, 2) := by decide +kernel
theorem dX10_inverse_30 : decode cX10_inverse 30 = .ok (.lmul, 1) := by decide +kernel
theorem dX10_inverse_31 : decode cX10_inverse 31 = .ok (.aload_n 0, 1) := by decide +kernel
theorem dX10_inverse_32 : decode cX10_inverse 32 = .ok (.getfield 78, 3) := by decide +kernel
theorem dX10_inverse_35 : decode cX10_inverse 35 = .ok (.i2l, 1) := by decide +kernel
theorem dX10_inverse_36 : decode cX10_inverse 36 = .ok (.lrem, 1) := by decide +kernel
theorem dX10_inverse_37 : decode cX10_inverse 37 = .ok (.goto 4, 3) := by decide +kernel
theorem dX10_inverse_40 : decode cX10_inverse 40 = .ok (.lload_n 2, 1) := by decide +kernel
theorem dX10_inverse_41 : decode cX10_inverse 41 = .ok (.lstore_n 2, 1) := by decide +kernel
theorem dX10_inverse_42 : decode cX10_inverse 42 = .ok (.lload 4, 2) := by decide +kernel
theorem dX10_inverse_44 : decode cX10_inverse 44 = .ok (.lload 4, 2) := by decide +kernel
theorem dX10_inverse_46 : decode cX10_inverse 46 = .ok (.lmul, 1) := by decide +kernel
theorem dX10_inverse_47 : decode cX10_inverse 47 = .ok (.aload_n 0, 1) := by decide +kernel
theorem dX10_inverse_48 : decode cX10_inverse 48 = .ok (.getfield 78, 3) := by decide +kernel
theorem dX10_inverse_51 : decode cX10_inverse 51 = .ok (.i2l, 1) := by decide +kernel
theorem dX10_inverse_52 : decode cX10_inverse 52 = .ok (.lrem, 1) := by decide +kernel
theorem dX10_inverse_53 : decode cX10_inverse 53 = .ok (.lstore 4, 2) := by decide +kernel
theorem dX10_inverse_55 : decode cX10_inverse 55 = .ok (.iload 6, 2) := by decide +kernel
theorem dX10_inverse_57 : decode cX10_inverse 57 = .ok (.iconst 1, 1) := by decide +kernel
theorem dX10_inverse_58 : decode cX10_inverse 58 = .ok (.ishr, 1) := by decide +kernel
theorem dX10_inverse_59 : decode cX10_inverse 59 = .ok (.istore 6, 2) := by decide +kernel
theorem dX10_inverse_61 : decode cX10_inverse 61 = .ok (.goto (-47), 3) := by decide +kernel
theorem dX10_inverse_64 : decode cX10_inverse 64 = .ok (.aload_n 0, 1) := by decide +kernel
theorem dX10_inverse_65 : decode cX10_inverse 65 = .ok (.getfield 78, 3) := by decide +kernel
theorem dX10_inverse_68 : decode cX10_inverse 68 = .ok (.iconst 2, 1) := by decide +kernel
theorem dX10_inverse_69 : decode cX10_inverse 69 = .ok (.if_icmp .ne 7, 3) := by decide +kernel
theorem dX10_inverse_72 : decode cX10_inverse 72 = .ok (.lconst 1, 1) := by decide +kernel
theorem dX10_inverse_73 : decode cX10_inverse 73 = .ok (.goto 4, 3) := by decide +kernel
theorem dX10_inverse_76 : decode cX10_inverse 76 = .ok (.lload_n 2, 1) := by decide +kernel
theorem dX10_inverse_77 : decode cX10_inverse 77 = .ok (.l2i, 1) := by decide +kernel
theorem dX10_inverse_78 : decode cX10_inverse 78 = .ok (.ireturn, 1) := by decide +kernel
theorem dX10_product_0 : decode cX10_product 0 = .ok (.aload_n 0, 1) := by decide +kernel
theorem dX10_product_1 : decode cX10_product 1 = .ok (.getfield 26, 3) := by decide +kernel
theorem dX10_product_4 : decode cX10_product 4 = .ok (.iload_n 1, 1) := by decide +kernel
theorem dX10_product_5 : decode cX10_product 5 = .ok (.iaload, 1) := by decide +kernel
theorem dX10_product_6 : decode cX10_product 6 = .ok (.ifCond .lt 12, 3) := by decide +kernel
theorem dX10_product_9 : decode cX10_product 9 = .ok (.aload_n 0, 1) := by decide +kernel
theorem dX10_product_10 : decode cX10_product 10 = .ok (.getfield 26, 3) := by decide +kernel
theorem dX10_product_13 : decode cX10_product 13 = .ok (.iload_n 2, 1) := by decide +kernel
theorem dX10_product_14 : decode cX10_product 14 = .ok (.iaload, 1) := by decide +kernel
theorem dX10_product_15 : decode cX10_product 15 = .ok (.ifCond .ge 7, 3) := by decide +kernel
theorem dX10_product_18 : decode cX10_product 18 = .ok (.iconst (-1), 1) := by decide +kernel
theorem dX10_product_19 : decode cX10_product 19 = .ok (.goto 16, 3) := by decide +kernel
theorem dX10_product_22 : decode cX10_product 22 = .ok (.aload_n 0, 1) := by decide +kernel
theorem dX10_product_23 : decode cX10_product 23 = .ok (.getfield 26, 3) := by decide +kernel
theorem dX10_product_26 : decode cX10_product 26 = .ok (.iload_n 1, 1) := by decide +kernel
theorem dX10_product_27 : decode cX10_product 27 = .ok (.iaload, 1) := by decide +kernel
theorem dX10_product_28 : decode cX10_product 28 = .ok (.aload_n 0, 1) := by decide +kernel
theorem dX10_product_29 : decode cX10_product 29 = .ok (.getfield 26, 3) := by decide +kernel
theorem dX10_product_32 : decode cX10_product 32 = .ok (.iload_n 2, 1) := by decide +kernel
theorem dX10_product_33 : decode cX10_product 33 = .ok (.iaload, 1) := by decide +kernel
theorem dX10_product_34 : decode cX10_product 34 = .ok (.iadd, 1) := by decide +kernel
theorem dX10_product_35 : decode cX10_product 35 = .ok (.istore 4, 2) := by decide +kernel
theorem dX10_product_37 : decode cX10_product 37 = .ok (.iconst 0, 1) := by decide +kernel
theorem dX10_product_38 : decode cX10_product 38 = .ok (.istore 5, 2) := by decide +kernel
theorem dX10_product_40 : decode cX10_product 40 = .ok (.iload 5, 2) := by decide +kernel
theorem dX10_product_42 : decode cX10_product 42 = .ok (.sipush 200, 3) := by decide +kernel
theorem dX10_product_45 : decode cX10_product 45 = .ok (.if_icmp .ge 133, 3) := by decide +kernel
theorem dX10_product_48 : decode cX10_product 48 = .ok (.lconst 0, 1) := by decide +kernel
theorem dX10_product_49 : decode cX10_product 49 = .ok (.lstore 6, 2) := by decide +kernel
theorem dX10_product_51 : decode cX10_product 51 = .ok (.iload 5, 2) := by decide +kernel
theorem dX10_product_53 : decode cX10_product 53 = .ok (.aload_n 0, 1) := by decide +kernel
theorem dX10_product_54 : decode cX10_product 54 = .ok (.getfield 26, 3) := by decide +kernel
theorem dX10_product_57 : decode cX10_product 57 = .ok (.iload_n 2, 1) := by decide +kernel
theorem dX10_product_58 : decode cX10_product 58 = .ok (.iaload, 1) := by decide +kernel
theorem dX10_product_59 : decode cX10_product 59 = .ok (.isub, 1) := by decide +kernel
theorem dX10_product_60 : decode cX10_product 60 = .ok (.ifCond .le 15, 3) := by decide +kernel
theorem dX10_product_63 : decode cX10_product 63 = .ok (.iload 5, 2) := by decide +kernel
theorem dX10_product_65 : decode cX10_product 65 = .ok (.aload_n 0, 1) := by decide +kernel
theorem dX10_product_66 : decode cX10_product 66 = .ok (.getfield 26, 3) := by decide +kernel
theorem dX10_product_69 : decode cX10_product 69 = .ok (.iload_n 2, 1) := by decide +kernel
theorem dX10_product_70 : decode cX10_product 70 = .ok (.iaload, 1) := by decide +kernel
theorem dX10_product_71 : decode cX10_product 71 = .ok (.isub, 1) := by decide +kernel
theorem dX10_product_72 : decode cX10_product 72 = .ok (.goto 4, 3) := by decide +kernel
theorem dX10_product_75 : decode cX10_product 75 = .ok (.iconst 0, 1) := by decide +kernel
theorem dX10_product_76 : decode cX10_product 76 = .ok (.istore 8, 2) := by decide +kernel
theorem dX10_product_78 : decode cX10_product 78 = .ok (.iload 8, 2) := by decide +kernel
theorem dX10_product_80 : decode cX10_product 80 = .ok (.istore 9, 2) := by decide +kernel
theorem dX10_product_82 : decode cX10_product 82 = .ok (.iload 9, 2) := by decide +kernel
theorem dX10_product_84 : decode cX10_product 84 = .ok (.aload_n 0, 1) := by decide +kernel
theorem dX10_product_85 : decode cX10_product 85 = .ok (.getfield 26, 3) := by decide +kernel
theorem dX10_product_88 : decode cX10_product 88 = .ok (.iload_n 1, 1) := by decide +kernel
theorem dX10_product_89 : decode cX10_product 89 = .ok (.iaload, 1) := by decide +kernel
theorem dX10_product_90 : decode cX10_product 90 = .ok (.if_icmp .gt 66, 3) := by decide +kernel
theorem dX10_product_93 : decode cX10_product 93 = .ok (.iload 9, 2) := by decide +kernel
theorem dX10_product_95 : decode cX10_product 95 = .ok (.iload 5, 2) := by decide +kernel
theorem dX10_product_97 : decode cX10_product 97 = .ok (.if_icmp .gt 59, 3) := by decide +kernel
theorem dX10_product_100 : decode cX10_product 100 = .ok (.iload 5, 2) := by decide +kernel
theorem dX10_product_102 : decode cX10_product 102 = .ok (.iload 4, 2) := by decide +kernel
theorem dX10_product_104 : decode cX10_product 104 = .ok (.if_icmp .gt 52, 3) := by decide +kernel
theorem dX10_product_107 : decode cX10_product 107 = .ok (.lload 6, 2) := by decide +kernel
theorem dX10_product_109 : decode cX10_product 109 = .ok (.aload_n 0, 1) := by decide +kernel
theorem dX10_product_110 : decode cX10_product 110 = .ok (.getfield 23, 3) := by decide +kernel
theorem dX10_product_113 : decode cX10_product 113 = .ok (.sipush 200, 3) := by decide +kernel
theorem dX10_product_116 : decode cX10_product 116 = .ok (.iload_n 1, 1) := by decide +kernel
theorem dX10_product_117 : decode cX10_product 117 = .ok (.imul, 1) := by decide +kernel
theorem dX10_product_118 : decode cX10_product 118 = .ok (.iload 9, 2) := by decide +kernel
theorem dX10_product_120 : decode cX10_product 120 = .ok (.iadd, 1) := by decide +kernel
theorem dX10_product_121 : decode cX10_product 121 = .ok (.iaload, 1) := by decide +kernel
theorem dX10_product_122 : decode cX10_product 122 = .ok (.i2l, 1) := by decide +kernel
theorem dX10_product_123 : decode cX10_product 123 = .ok (.aload_n 0, 1) := by decide +kernel
theorem dX10_product_124 : decode cX10_product 124 = .ok (.getfield 23, 3) := by decide +kernel
theorem dX10_product_127 : decode cX10_product 127 = .ok (.sipush 200, 3) := by decide +kernel
theorem dX10_product_130 : decode cX10_product 130 = .ok (.iload_n 2, 1) := by decide +kernel
theorem dX10_product_131 : decode cX10_product 131 = .ok (.imul, 1) := by decide +kernel
theorem dX10_product_132 : decode cX10_product 132 = .ok (.iload 5, 2) := by decide +kernel
theorem dX10_product_134 : decode cX10_product 134 = .ok (.iadd, 1) := by decide +kernel
theorem dX10_product_135 : decode cX10_product 135 = .ok (.iload 9, 2) := by decide +kernel
theorem dX10_product_137 : decode cX10_product 137 = .ok (.isub, 1) := by decide +kernel
theorem dX10_product_138 : decode cX10_product 138 = .ok (.iaload, 1) := by decide +kernel
theorem dX10_product_139 : decode cX10_product 139 = .ok (.i2l, 1) := by decide +kernel
theorem dX10_product_140 : decode cX10_product 140 = .ok (.lmul, 1) := by decide +kernel
theorem dX10_product_141 : decode cX10_product 141 = .ok (.ladd, 1) := by decide +kernel
theorem dX10_product_142 : decode cX10_product 142 = .ok (.aload_n 0, 1) := by decide +kernel
theorem dX10_product_143 : decode cX10_product 143 = .ok (.getfield 78, 3) := by decide +kernel
theorem dX10_product_146 : decode cX10_product 146 = .ok (.i2l, 1) := by decide +kernel
theorem dX10_product_147 : decode cX10_product 147 = .ok (.lrem, 1) := by decide +kernel
theorem dX10_product_148 : decode cX10_product 148 = .ok (.lstore 6, 2) := by decide +kernel
theorem dX10_product_150 : decode cX10_product 150 = .ok (.iinc 9 1, 3) := by decide +kernel
theorem dX10_product_153 : decode cX10_product 153 = .ok (.goto (-71), 3) := by decide +kernel
theorem dX10_product_156 : decode cX10_product 156 = .ok (.aload_n 0, 1) := by decide +kernel
theorem dX10_product_157 : decode cX10_product 157 = .ok (.getfield 23, 3) := by decide +kernel
theorem dX10_product_160 : decode cX10_product 160 = .ok (.sipush 200, 3) := by decide +kernel
theorem dX10_product_163 : decode cX10_product 163 = .ok (.iload_n 3, 1) := by decide +kernel
theorem dX10_product_164 : decode cX10_product 164 = .ok (.imul, 1) := by decide +kernel
theorem dX10_product_165 : decode cX10_product 165 = .ok (.iload 5, 2) := by decide +kernel
theorem dX10_product_167 : decode cX10_product 167 = .ok (.iadd, 1) := by decide +kernel
theorem dX10_product_168 : decode cX10_product 168 = .ok (.lload 6, 2) := by decide +kernel
theorem dX10_product_170 : decode cX10_product 170 = .ok (.l2i, 1) := by decide +kernel
theorem dX10_product_171 : decode cX10_product 171 = .ok (.iastore, 1) := by decide +kernel
theorem dX10_product_172 : decode cX10_product 172 = .ok (.iinc 5 1, 3) := by decide +kernel
theorem dX10_product_175 : decode cX10_product 175 = .ok (.goto (-135), 3) := by decide +kernel
theorem dX10_product_178 : decode cX10_product 178 = .ok (.aload_n 0, 1) := by decide +kernel
theorem dX10_product_179 : decode cX10_product 179 = .ok (.iload_n 3, 1) := by decide +kernel
theorem dX10_product_180 : decode cX10_product 180 = .ok (.invokevirtual 164, 3) := by decide +kernel
theorem dX10_product_183 : decode cX10_product 183 = .ok (.return_, 1) := by decide +kernel
theorem dX10_minus_0 : decode cX10_minus 0 = .ok (.iconst 0, 1) := by decide +kernel
theorem dX10_minus_1 : decode cX10_minus 1 = .ok (.istore 4, 2) := by decide +kernel
theorem dX10_minus_3 : decode cX10_minus 3 = .ok (.iload 4, 2) := by decide +kernel
theorem dX10_minus_5 : decode cX10_minus 5 = .ok (.sipush 200, 3) := by decide +kernel
theorem dX10_minus_8 : decode cX10_minus 8 = .ok (.if_icmp .ge 59, 3) := by decide +kernel
theorem dX10_minus_11 : decode cX10_minus 11 = .ok (.aload_n 0, 1) := by decide +kernel
theorem dX10_minus_12 : decode cX10_minus 12 = .ok (.getfield 23, 3) := by decide +kernel
theorem dX10_minus_15 : decode cX10_minus 15 = .ok (.sipush 200, 3) := by decide +kernel
theorem dX10_minus_18 : decode cX10_minus 18 = .ok (.iload_n 3, 1) := by decide +kernel
theorem dX10_minus_19 : decode cX10_minus 19 = .ok (.imul, 1) := by decide +kernel
theorem dX10_minus_20 : decode cX10_minus 20 = .ok (.iload 4, 2) := by decide +kernel
theorem dX10_minus_22 : decode cX10_minus 22 = .ok (.iadd, 1) := by decide +kernel
theorem dX10_minus_23 : decode cX10_minus 23 = .ok (.aload_n 0, 1) := by decide +kernel
theorem dX10_minus_24 : decode cX10_minus 24 = .ok (.getfield 23, 3) := by decide +kernel
theorem dX10_minus_27 : decode cX10_minus 27 = .ok (.sipush 200, 3) := by decide +kernel
theorem dX10_minus_30 : decode cX10_minus 30 = .ok (.iload_n 1, 1) := by decide +kernel
theorem dX10_minus_31 : decode cX10_minus 31 = .ok (.imul, 1) := by decide +kernel
theorem dX10_minus_32 : decode cX10_minus 32 = .ok (.iload 4, 2) := by decide +kernel
theorem dX10_minus_34 : decode cX10_minus 34 = .ok (.iadd, 1) := by decide +kernel
theorem dX10_minus_35 : decode cX10_minus 35 = .ok (.iaload, 1) := by decide +kernel
theorem dX10_minus_36 : decode cX10_minus 36 = .ok (.aload_n 0, 1) := by decide +kernel
theorem dX10_minus_37 : decode cX10_minus 37 = .ok (.getfield 23, 3) := by decide +kernel
theorem dX10_minus_40 : decode cX10_minus 40 = .ok (.sipush 200, 3) := by decide +kernel
theorem dX10_minus_43 : decode cX10_minus 43 = .ok (.iload_n 2, 1) := by decide +kernel
theorem dX10_minus_44 : decode cX10_minus 44 = .ok (.imul, 1) := by decide +kernel
theorem dX10_minus_45 : decode cX10_minus 45 = .ok (.iload 4, 2) := by decide +kernel
theorem dX10_minus_47 : decode cX10_minus 47 = .ok (.iadd, 1) := by decide +kernel
theorem dX10_minus_48 : decode cX10_minus 48 = .ok (.iaload, 1) := by decide +kernel
theorem dX10_minus_49 : decode cX10_minus 49 = .ok (.isub, 1) := by decide +kernel
theorem dX10_minus_50 : decode cX10_minus 50 = .ok (.aload_n 0, 1) := by decide +kernel
theorem dX10_minus_51 : decode cX10_minus 51 = .ok (.getfield 78, 3) := by decide +kernel
theorem dX10_minus_54 : decode cX10_minus 54 = .ok (.iadd, 1) := by decide +kernel
theorem dX10_minus_55 : decode cX10_minus 55 = .ok (.aload_n 0, 1) := by decide +kernel
theorem dX10_minus_56 : decode cX10_minus 56 = .ok (.getfield 78, 3) := by decide +kernel
theorem dX10_minus_59 : decode cX10_minus 59 = .ok (.irem, 1) := by decide +kernel
theorem dX10_minus_60 : decode cX10_minus 60 = .ok (.iastore, 1) := by decide +kernel
theorem dX10_minus_61 : decode cX10_minus 61 = .ok (.iinc 4 1, 3) := by decide +kernel
theorem dX10_minus_64 : decode cX10_minus 64 = .ok (.goto (-61), 3) := by decide +kernel
theorem dX10_minus_67 : decode cX10_minus 67 = .ok (.aload_n 0, 1) := by decide +kernel
theorem dX10_minus_68 : decode cX10_minus 68 = .ok (.iload_n 3, 1) := by decide +kernel
theorem dX10_minus_69 : decode cX10_minus 69 = .ok (.invokevirtual 164, 3) := by decide +kernel
theorem dX10_minus_72 : decode cX10_minus 72 = .ok (.return_, 1) := by decide +kernel
theorem dX10_divide_0 : decode cX10_divide 0 = .ok (.aload_n 0, 1) := by decide +kernel
theorem dX10_divide_1 : decode cX10_divide 1 = .ok (.iload_n 1, 1) := by decide +kernel
theorem dX10_divide_2 : decode cX10_divide 2 = .ok (.iload 4, 2) := by decide +kernel
theorem dX10_divide_4 : decode cX10_divide 4 = .ok (.invokevirtual 167, 3) := by decide +kernel
theorem dX10_divide_7 : decode cX10_divide 7 = .ok (.aload_n 0, 1) := by decide +kernel
theorem dX10_divide_8 : decode cX10_divide 8 = .ok (.iload_n 3, 1) := by decide +kernel
theorem dX10_divide_9 : decode cX10_divide 9 = .ok (.iconst 0, 1) := by decide +kernel
theorem dX10_divide_10 : decode cX10_divide 10 = .ok (.invokevirtual 170, 3) := by decide +kernel
theorem dX10_divide_13 : decode cX10_divide 13 = .ok (.aload_n 0, 1) := by decide +kernel
theorem dX10_divide_14 : decode cX10_divide 14 = .ok (.aload_n 0, 1) := by decide +kernel
theorem dX10_divide_15 : decode cX10_divide 15 = .ok (.getfield 23, 3) := by decide +kernel
theorem dX10_divide_18 : decode cX10_divide 18 = .ok (.sipush 200, 3) := by decide +kernel
theorem dX10_divide_21 : decode cX10_divide 21 = .ok (.iload_n 2, 1) := by decide +kernel
theorem dX10_divide_22 : decode cX10_divide 22 = .ok (.imul, 1) := by decide +kernel
theorem dX10_divide_23 : decode cX10_divide 23 = .ok (.aload_n 0, 1) := by decide +kernel
theorem dX10_divide_24 : decode cX10_divide 24 = .ok (.getfield 26, 3) := by decide +kernel
theorem dX10_divide_27 : decode cX10_divide 27 = .ok (.iload_n 2, 1) := by decide +kernel
theorem dX10_divide_28 : decode cX10_divide 28 = .ok (.iaload, 1) := by decide +kernel
theorem dX10_divide_29 : decode cX10_divide 29 = .ok (.iadd, 1) := by decide +kernel
theorem dX10_divide_30 : decode cX10_divide 30 = .ok (.iaload, 1) := by decide +kernel
theorem dX10_divide_31 : decode cX10_divide 31 = .ok (.invokevirtual 173, 3) := by decide +kernel
theorem dX10_divide_34 : decode cX10_divide 34 = .ok (.istore 5, 2) := by decide +kernel
theorem dX10_divide_36 : decode cX10_divide 36 = .ok (.aload_n 0, 1) := by decide +kernel
theorem dX10_divide_37 : decode cX10_divide 37 = .ok (.getfield 26, 3) := by decide +kernel
theorem dX10_divide_40 : decode cX10_divide 40 = .ok (.iload 4, 2) := by decide +kernel
theorem dX10_divide_42 : decode cX10_divide 42 = .ok (.iaload, 1) := by decide +kernel
theorem dX10_divide_43 : decode cX10_divide 43 = .ok (.aload_n 0, 1) := by decide +kernel
theorem dX10_divide_44 : decode cX10_divide 44 = .ok (.getfield 26, 3) := by decide +kernel
theorem dX10_divide_47 : decode cX10_divide 47 = .ok (.iload_n 2, 1) := by decide +kernel
theorem dX10_divide_48 : decode cX10_divide 48 = .ok (.iaload, 1) := by decide +kernel
theorem dX10_divide_49 : decode cX10_divide 49 = .ok (.isub, 1) := by decide +kernel
theorem dX10_divide_50 : decode cX10_divide 50 = .ok (.istore 6, 2) := by decide +kernel
theorem dX10_divide_52 : decode cX10_divide 52 = .ok (.iload 6, 2) := by decide +kernel
theorem dX10_divide_54 : decode cX10_divide 54 = .ok (.ifCond .lt 146, 3) := by decide +kernel
theorem dX10_divide_57 : decode cX10_divide 57 = .ok (.aload_n 0, 1) := by decide +kernel
theorem dX10_divide_58 : decode cX10_divide 58 = .ok (.getfield 23, 3) := by decide +kernel
theorem dX10_divide_61 : decode cX10_divide 61 = .ok (.sipush 200, 3) := by decide +kernel
theorem dX10_divide_64 : decode cX10_divide 64 = .ok (.iload 4, 2) := by decide +kernel
theorem dX10_divide_66 : decode cX10_divide 66 = .ok (.imul, 1) := by decide +kernel
theorem dX10_divide_67 : decode cX10_divide 67 = .ok (.iload 6, 2) := by decide +kernel
theorem dX10_divide_69 : decode cX10_divide 69 = .ok (.iadd, 1) := by decide +kernel
theorem dX10_divide_70 : decode cX10_divide 70 = .ok (.aload_n 0, 1) := by decide +kernel
theorem dX10_divide_71 : decode cX10_divide 71 = .ok (.getfield 26, 3) := by decide +kernel
theorem dX10_divide_74 : decode cX10_divide 74 = .ok (.iload_n 2, 1) := by decide +kernel
theorem dX10_divide_75 : decode cX10_divide 75 = .ok (.iaload, 1) := by decide +kernel
theorem dX10_divide_76 : decode cX10_divide 76 = .ok (.iadd, 1) := by decide +kernel
theorem dX10_divide_77 : decode cX10_divide 77 = .ok (.iaload, 1) := by decide +kernel
theorem dX10_divide_78 : decode cX10_divide 78 = .ok (.i2l, 1) := by decide +kernel
theorem dX10_divide_79 : decode cX10_divide 79 = .ok (.iload 5, 2) := by decide +kernel
theorem dX10_divide_81 : decode cX10_divide 81 = .ok (.i2l, 1) := by decide +kernel
theorem dX10_divide_82 : decode cX10_divide 82 = .ok (.lmul, 1) := by decide +kernel
theorem dX10_divide_83 : decode cX10_divide 83 = .ok (.aload_n 0, 1) := by decide +kernel
theorem dX10_divide_84 : decode cX10_divide 84 = .ok (.getfield 78, 3) := by decide +kernel
theorem dX10_divide_87 : decode cX10_divide 87 = .ok (.i2l, 1) := by decide +kernel
theorem dX10_divide_88 : decode cX10_divide 88 = .ok (.lrem, 1) := by decide +kernel
theorem dX10_divide_89 : decode cX10_divide 89 = .ok (.lstore 7, 2) := by decide +kernel
theorem dX10_divide_91 : decode cX10_divide 91 = .ok (.aload_n 0, 1) := by decide +kernel
theorem dX10_divide_92 : decode cX10_divide 92 = .ok (.getfield 23, 3) := by decide +kernel
theorem dX10_divide_95 : decode cX10_divide 95 = .ok (.sipush 200, 3) := by decide +kernel
theorem dX10_divide_98 : decode cX10_divide 98 = .ok (.iload_n 3, 1) := by decide +kernel
theorem dX10_divide_99 : decode cX10_divide 99 = .ok (.imul, 1) := by decide +kernel
theorem dX10_divide_100 : decode cX10_divide 100 = .ok (.iload 6, 2) := by decide +kernel
theorem dX10_divide_102 : decode cX10_divide 102 = .ok (.iadd, 1) := by decide +kernel
theorem dX10_divide_103 : decode cX10_divide 103 = .ok (.lload 7, 2) := by decide +kernel
theorem dX10_divide_105 : decode cX10_divide 105 = .ok (.l2i, 1) := by decide +kernel
theorem dX10_divide_106 : decode cX10_divide 106 = .ok (.iastore, 1) := by decide +kernel
theorem dX10_divide_107 : decode cX10_divide 107 = .ok (.iconst 0, 1) := by decide +kernel
theorem dX10_divide_108 : decode cX10_divide 108 = .ok (.istore 9, 2) := by decide +kernel
theorem dX10_divide_110 : decode cX10_divide 110 = .ok (.iload 9, 2) := by decide +kernel
theorem dX10_divide_112 : decode cX10_divide 112 = .ok (.aload_n 0, 1) := by decide +kernel
theorem dX10_divide_113 : decode cX10_divide 113 = .ok (.getfield 26, 3) := by decide +kernel
theorem dX10_divide_116 : decode cX10_divide 116 = .ok (.iload_n 2, 1) := by decide +kernel
theorem dX10_divide_117 : decode cX10_divide 117 = .ok (.iaload, 1) := by decide +kernel
theorem dX10_divide_118 : decode cX10_divide 118 = .ok (.if_icmp .gt 76, 3) := by decide +kernel
theorem dX10_divide_121 : decode cX10_divide 121 = .ok (.lload 7, 2) := by decide +kernel
theorem dX10_divide_123 : decode cX10_divide 123 = .ok (.lconst 0, 1) := by decide +kernel
theorem dX10_divide_124 : decode cX10_divide 124 = .ok (.lcmp, 1) := by decide +kernel
theorem dX10_divide_125 : decode cX10_divide 125 = .ok (.ifCond .eq 69, 3) := by decide +kernel
theorem dX10_divide_128 : decode cX10_divide 128 = .ok (.sipush 200, 3) := by decide +kernel
theorem dX10_divide_131 : decode cX10_divide 131 = .ok (.iload 4, 2) := by decide +kernel
theorem dX10_divide_133 : decode cX10_divide 133 = .ok (.imul, 1) := by decide +kernel
theorem dX10_divide_134 : decode cX10_divide 134 = .ok (.iload 6, 2) := by decide +kernel
theorem dX10_divide_136 : decode cX10_divide 136 = .ok (.iadd, 1) := by decide +kernel
theorem dX10_divide_137 : decode cX10_divide 137 = .ok (.iload 9, 2) := by decide +kernel
theorem dX10_divide_139 : decode cX10_divide 139 = .ok (.iadd, 1) := by decide +kernel
theorem dX10_divide_140 : decode cX10_divide 140 = .ok (.istore 10, 2) := by decide +kernel
theorem dX10_divide_142 : decode cX10_divide 142 = .ok (.aload_n 0, 1) := by decide +kernel
theorem dX10_divide_143 : decode cX10_divide 143 = .ok (.getfield 23, 3) := by decide +kernel
theorem dX10_divide_146 : decode cX10_divide 146 = .ok (.iload 10, 2) := by decide +kernel
theorem dX10_divide_148 : decode cX10_divide 148 = .ok (.aload_n 0, 1) := by decide +kernel
theorem dX10_divide_149 : decode cX10_divide 149 = .ok (.getfield 23, 3) := by decide +kernel
theorem dX10_divide_152 : decode cX10_divide 152 = .ok (.iload 10, 2) := by decide +kernel
theorem dX10_divide_154 : decode cX10_divide 154 = .ok (.iaload, 1) := by decide +kernel
theorem dX10_divide_155 : decode cX10_divide 155 = .ok (.i2l, 1) := by decide +kernel
theorem dX10_divide_156 : decode cX10_divide 156 = .ok (.aload_n 0, 1) := by decide +kernel
theorem dX10_divide_157 : decode cX10_divide 157 = .ok (.getfield 78, 3) := by decide +kernel
theorem dX10_divide_160 : decode cX10_divide 160 = .ok (.i2l, 1) := by decide +kernel
theorem dX10_divide_161 : decode cX10_divide 161 = .ok (.lload 7, 2) := by decide +kernel
theorem dX10_divide_163 : decode cX10_divide 163 = .ok (.lsub, 1) := by decide +kernel
theorem dX10_divide_164 : decode cX10_divide 164 = .ok (.aload_n 0, 1) := by decide +kernel
theorem dX10_divide_165 : decode cX10_divide 165 = .ok (.getfield 23, 3) := by decide +kernel
theorem dX10_divide_168 : decode cX10_divide 168 = .ok (.sipush 200, 3) := by decide +kernel
theorem dX10_divide_171 : decode cX10_divide 171 = .ok (.iload_n 2, 1) := by decide +kernel
theorem dX10_divide_172 : decode cX10_divide 172 = .ok (.imul, 1) := by decide +kernel
theorem dX10_divide_173 : decode cX10_divide 173 = .ok (.iload 9, 2) := by decide +kernel
theorem dX10_divide_175 : decode cX10_divide 175 = .ok (.iadd, 1) := by decide +kernel
theorem dX10_divide_176 : decode cX10_divide 176 = .ok (.iaload, 1) := by decide +kernel
theorem dX10_divide_177 : decode cX10_divide 177 = .ok (.i2l, 1) := by decide +kernel
theorem dX10_divide_178 : decode cX10_divide 178 = .ok (.lmul, 1) := by decide +kernel
theorem dX10_divide_179 : decode cX10_divide 179 = .ok (.ladd, 1) := by decide +kernel
theorem dX10_divide_180 : decode cX10_divide 180 = .ok (.aload_n 0, 1) := by decide +kernel
theorem dX10_divide_181 : decode cX10_divide 181 = .ok (.getfield 78, 3) := by decide +kernel
theorem dX10_divide_184 : decode cX10_divide 184 = .ok (.i2l, 1) := by decide +kernel
theorem dX10_divide_185 : decode cX10_divide 185 = .ok (.lrem, 1) := by decide +kernel
theorem dX10_divide_186 : decode cX10_divide 186 = .ok (.l2i, 1) := by decide +kernel
theorem dX10_divide_187 : decode cX10_divide 187 = .ok (.iastore, 1) := by decide +kernel
theorem dX10_divide_188 : decode cX10_divide 188 = .ok (.iinc 9 1, 3) := by decide +kernel
theorem dX10_divide_191 : decode cX10_divide 191 = .ok (.goto (-81), 3) := by decide +kernel
theorem dX10_divide_194 : decode cX10_divide 194 = .ok (.iinc 6 (-1), 3) := by decide +kernel
theorem dX10_divide_197 : decode cX10_divide 197 = .ok (.goto (-145), 3) := by decide +kernel
theorem dX10_divide_200 : decode cX10_divide 200 = .ok (.aload_n 0, 1) := by decide +kernel
theorem dX10_divide_201 : decode cX10_divide 201 = .ok (.iload_n 3, 1) := by decide +kernel
theorem dX10_divide_202 : decode cX10_divide 202 = .ok (.invokevirtual 164, 3) := by decide +kernel
theorem dX10_divide_205 : decode cX10_divide 205 = .ok (.aload_n 0, 1) := by decide +kernel
theorem dX10_divide_206 : decode cX10_divide 206 = .ok (.iload 4, 2) := by decide +kernel
theorem dX10_divide_208 : decode cX10_divide 208 = .ok (.invokevirtual 164, 3) := by decide +kernel
theorem dX10_divide_211 : decode cX10_divide 211 = .ok (.return_, 1) := by decide +kernel
theorem dX10_monic_0 : decode cX10_monic 0 = .ok (.aload_n 0, 1) := by decide +kernel
theorem dX10_monic_1 : decode cX10_monic 1 = .ok (.getfield 26, 3) := by decide +kernel
theorem dX10_monic_4 : decode cX10_monic 4 = .ok (.iload_n 1, 1) := by decide +kernel
theorem dX10_monic_5 : decode cX10_monic 5 = .ok (.iaload, 1) := by decide +kernel
theorem dX10_monic_6 : decode cX10_monic 6 = .ok (.ifCond .lt 78, 3) := by decide +kernel
theorem dX10_monic_9 : decode cX10_monic 9 = .ok (.aload_n 0, 1) := by decide +kernel
theorem dX10_monic_10 : decode cX10_monic 10 = .ok (.aload_n 0, 1) := by decide +kernel
theorem dX10_monic_11 : decode cX10_monic 11 = .ok (.getfield 23, 3) := by decide +kernel
theorem dX10_monic_14 : decode cX10_monic 14 = .ok (.sipush 200, 3) := by decide +kernel
theorem dX10_monic_17 : decode cX10_monic 17 = .ok (.iload_n 1, 1) := by decide +kernel
theorem dX10_monic_18 : decode cX10_monic 18 = .ok (.imul, 1) := by decide +kernel
theorem dX10_monic_19 : decode cX10_monic 19 = .ok (.aload_n 0, 1) := by decide +kernel
theorem dX10_monic_20 : decode cX10_monic 20 = .ok (.getfield 26, 3) := by decide +kernel
theorem dX10_monic_23 : decode cX10_monic 23 = .ok (.iload_n 1, 1) := by decide +kernel
theorem dX10_monic_24 : decode cX10_monic 24 = .ok (.iaload, 1) := by decide +kernel
theorem dX10_monic_25 : decode cX10_monic 25 = .ok (.iadd, 1) := by decide +kernel
theorem dX10_monic_26 : decode cX10_monic 26 = .ok (.iaload, 1) := by decide +kernel
theorem dX10_monic_27 : decode cX10_monic 27 = .ok (.invokevirtual 173, 3) := by decide +kernel
theorem dX10_monic_30 : decode cX10_monic 30 = .ok (.istore_n 2, 1) := by decide +kernel
theorem dX10_monic_31 : decode cX10_monic 31 = .ok (.iconst 0, 1) := by decide +kernel
theorem dX10_monic_32 : decode cX10_monic 32 = .ok (.istore_n 3, 1) := by decide +kernel
theorem dX10_monic_33 : decode cX10_monic 33 = .ok (.iload_n 3, 1) := by decide +kernel
theorem dX10_monic_34 : decode cX10_monic 34 = .ok (.aload_n 0, 1) := by decide +kernel
theorem dX10_monic_35 : decode cX10_monic 35 = .ok (.getfield 26, 3) := by decide +kernel
theorem dX10_monic_38 : decode cX10_monic 38 = .ok (.iload_n 1, 1) := by decide +kernel
theorem dX10_monic_39 : decode cX10_monic 39 = .ok (.iaload, 1) := by decide +kernel
theorem dX10_monic_40 : decode cX10_monic 40 = .ok (.if_icmp .gt 44, 3) := by decide +kernel
theorem dX10_monic_43 : decode cX10_monic 43 = .ok (.aload_n 0, 1) := by decide +kernel
theorem dX10_monic_44 : decode cX10_monic 44 = .ok (.getfield 23, 3) := by decide +kernel
theorem dX10_monic_47 : decode cX10_monic 47 = .ok (.sipush 200, 3) := by decide +kernel
theorem dX10_monic_50 : decode cX10_monic 50 = .ok (.iload_n 1, 1) := by decide +kernel
theorem dX10_monic_51 : decode cX10_monic 51 = .ok (.imul, 1) := by decide +kernel
theorem dX10_monic_52 : decode cX10_monic 52 = .ok (.iload_n 3, 1) := by decide +kernel
theorem dX10_monic_53 : decode cX10_monic 53 = .ok (.iadd, 1) := by decide +kernel
theorem dX10_monic_54 : decode cX10_monic 54 = .ok (.aload_n 0, 1) := by decide +kernel
theorem dX10_monic_55 : decode cX10_monic 55 = .ok (.getfield 23, 3) := by decide +kernel
theorem dX10_monic_58 : decode cX10_monic 58 = .ok (.sipush 200, 3) := by decide +kernel
theorem dX10_monic_61 : decode cX10_monic 61 = .ok (.iload_n 1, 1) := by decide +kernel
theorem dX10_monic_62 : decode cX10_monic 62 = .ok (.imul, 1) := by decide +kernel
theorem dX10_monic_63 : decode cX10_monic 63 = .ok (.iload_n 3, 1) := by decide +kernel
theorem dX10_monic_64 : decode cX10_monic 64 = .ok (.iadd, 1) := by decide +kernel
theorem dX10_monic_65 : decode cX10_monic 65 = .ok (.iaload, 1) := by decide +kernel
theorem dX10_monic_66 : decode cX10_monic 66 = .ok (.i2l, 1) := by decide +kernel
theorem dX10_monic_67 : decode cX10_monic 67 = .ok (.iload_n 2, 1) := by decide +kernel
theorem dX10_monic_68 : decode cX10_monic 68 = .ok (.i2l, 1) := by decide +kernel
theorem dX10_monic_69 : decode cX10_monic 69 = .ok (.lmul, 1) := by decide +kernel
theorem dX10_monic_70 : decode cX10_monic 70 = .ok (.aload_n 0, 1) := by decide +kernel
theorem dX10_monic_71 : decode cX10_monic 71 = .ok (.getfield 78, 3) := by decide +kernel
theorem dX10_monic_74 : decode cX10_monic 74 = .ok (.i2l, 1) := by decide +kernel
theorem dX10_monic_75 : decode cX10_monic 75 = .ok (.lrem, 1) := by decide +kernel
theorem dX10_monic_76 : decode cX10_monic 76 = .ok (.l2i, 1) := by decide +kernel
theorem dX10_monic_77 : decode cX10_monic 77 = .ok (.iastore, 1) := by decide +kernel
theorem dX10_monic_78 : decode cX10_monic 78 = .ok (.iinc 3 1, 3) := by decide +kernel
theorem dX10_monic_81 : decode cX10_monic 81 = .ok (.goto (-48), 3) := by decide +kernel
theorem dX10_monic_84 : decode cX10_monic 84 = .ok (.return_, 1) := by decide +kernel
theorem dX10_common_0 : decode cX10_common 0 = .ok (.aload_n 0, 1) := by decide +kernel
theorem dX10_common_1 : decode cX10_common 1 = .ok (.iload_n 1, 1) := by decide +kernel
theorem dX10_common_2 : decode cX10_common 2 = .ok (.bipush 30, 2) := by decide +kernel
theorem dX10_common_4 : decode cX10_common 4 = .ok (.invokevirtual 167, 3) := by decide +kernel
theorem dX10_common_7 : decode cX10_common 7 = .ok (.aload_n 0, 1) := by decide +kernel
theorem dX10_common_8 : decode cX10_common 8 = .ok (.iload_n 2, 1) := by decide +kernel
theorem dX10_common_9 : decode cX10_common 9 = .ok (.bipush 31, 2) := by decide +kernel
theorem dX10_common_11 : decode cX10_common 11 = .ok (.invokevirtual 167, 3) := by decide +kernel
theorem dX10_common_14 : decode cX10_common 14 = .ok (.aload_n 0, 1) := by decide +kernel
theorem dX10_common_15 : decode cX10_common 15 = .ok (.getfield 26, 3) := by decide +kernel
theorem dX10_common_18 : decode cX10_common 18 = .ok (.bipush 31, 2) := by decide +kernel
theorem dX10_common_20 : decode cX10_common 20 = .ok (.iaload, 1) := by decide +kernel
theorem dX10_common_21 : decode cX10_common 21 = .ok (.ifCond .lt 34, 3) := by decide +kernel
theorem dX10_common_24 : decode cX10_common 24 = .ok (.aload_n 0, 1) := by decide +kernel
theorem dX10_common_25 : decode cX10_common 25 = .ok (.bipush 30, 2) := by decide +kernel
theorem dX10_common_27 : decode cX10_common 27 = .ok (.bipush 31, 2) := by decide +kernel
theorem dX10_common_29 : decode cX10_common 29 = .ok (.bipush 32, 2) := by decide +kernel
theorem dX10_common_31 : decode cX10_common 31 = .ok (.bipush 33, 2) := by decide +kernel
theorem dX10_common_33 : decode cX10_common 33 = .ok (.invokevirtual 176, 3) := by decide +kernel
theorem dX10_common_36 : decode cX10_common 36 = .ok (.aload_n 0, 1) := by decide +kernel
theorem dX10_common_37 : decode cX10_common 37 = .ok (.bipush 31, 2) := by decide +kernel
theorem dX10_common_39 : decode cX10_common 39 = .ok (.bipush 30, 2) := by decide +kernel
theorem dX10_common_41 : decode cX10_common 41 = .ok (.invokevirtual 167, 3) := by decide +kernel
theorem dX10_common_44 : decode cX10_common 44 = .ok (.aload_n 0, 1) := by decide +kernel
theorem dX10_common_45 : decode cX10_common 45 = .ok (.bipush 33, 2) := by decide +kernel
theorem dX10_common_47 : decode cX10_common 47 = .ok (.bipush 31, 2) := by decide +kernel
theorem dX10_common_49 : decode cX10_common 49 = .ok (.invokevirtual 167, 3) := by decide +kernel
theorem dX10_common_52 : decode cX10_common 52 = .ok (.goto (-38), 3) := by decide +kernel
theorem dX10_common_55 : decode cX10_common 55 = .ok (.aload_n 0, 1) := by decide +kernel
theorem dX10_common_56 : decode cX10_common 56 = .ok (.bipush 30, 2) := by decide +kernel
theorem dX10_common_58 : decode cX10_common 58 = .ok (.iload_n 3, 1) := by decide +kernel
theorem dX10_common_59 : decode cX10_common 59 = .ok (.invokevirtual 167, 3) := by decide +kernel
theorem dX10_common_62 : decode cX10_common 62 = .ok (.aload_n 0, 1) := by decide +kernel
theorem dX10_common_63 : decode cX10_common 63 = .ok (.iload_n 3, 1) := by decide +kernel
theorem dX10_common_64 : decode cX10_common 64 = .ok (.invokevirtual 179, 3) := by decide +kernel
theorem dX10_common_67 : decode cX10_common 67 = .ok (.return_, 1) := by decide +kernel
theorem dX10_plainAct_0 : decode cX10_plainAct 0 = .ok (.iload_n 1, 1) := by decide +kernel
theorem dX10_plainAct_1 : decode cX10_plainAct 1 = .ok (.bipush 8, 2) := by decide +kernel
theorem dX10_plainAct_3 : decode cX10_plainAct 3 = .ok (.if_icmp .eq 9, 3) := by decide +kernel
theorem dX10_plainAct_6 : decode cX10_plainAct 6 = .ok (.iload_n 1, 1) := by decide +kernel
theorem dX10_plainAct_7 : decode cX10_plainAct 7 = .ok (.bipush 9, 2) := by decide +kernel
theorem dX10_plainAct_9 : decode cX10_plainAct 9 = .ok (.if_icmp .ne 39, 3) := by decide +kernel
theorem dX10_plainAct_12 : decode cX10_plainAct 12 = .ok (.aload_n 0, 1) := by decide +kernel
theorem dX10_plainAct_13 : decode cX10_plainAct 13 = .ok (.getfield 26, 3) := by decide +kernel
theorem dX10_plainAct_16 : decode cX10_plainAct 16 = .ok (.iconst 1, 1) := by decide +kernel
theorem dX10_plainAct_17 : decode cX10_plainAct 17 = .ok (.iaload, 1) := by decide +kernel
theorem dX10_plainAct_18 : decode cX10_plainAct 18 = .ok (.ifCond .ge 6, 3) := by decide +kernel
theorem dX10_plainAct_21 : decode cX10_plainAct 21 = .ok (.bipush (-3), 2) := by decide +kernel
theorem dX10_plainAct_23 : decode cX10_plainAct 23 = .ok (.ireturn, 1) := by decide +kernel
theorem dX10_plainAct_24 : decode cX10_plainAct 24 = .ok (.aload_n 0, 1) := by decide +kernel
theorem dX10_plainAct_25 : decode cX10_plainAct 25 = .ok (.iconst 0, 1) := by decide +kernel
theorem dX10_plainAct_26 : decode cX10_plainAct 26 = .ok (.iconst 1, 1) := by decide +kernel
theorem dX10_plainAct_27 : decode cX10_plainAct 27 = .ok (.iconst 2, 1) := by decide +kernel
theorem dX10_plainAct_28 : decode cX10_plainAct 28 = .ok (.iconst 3, 1) := by decide +kernel
theorem dX10_plainAct_29 : decode cX10_plainAct 29 = .ok (.invokevirtual 176, 3) := by decide +kernel
theorem dX10_plainAct_32 : decode cX10_plainAct 32 = .ok (.aload_n 0, 1) := by decide +kernel
theorem dX10_plainAct_33 : decode cX10_plainAct 33 = .ok (.iload_n 1, 1) := by decide +kernel
theorem dX10_plainAct_34 : decode cX10_plainAct 34 = .ok (.bipush 8, 2) := by decide +kernel
theorem dX10_plainAct_36 : decode cX10_plainAct 36 = .ok (.if_icmp .ne 7, 3) := by decide +kernel
theorem dX10_plainAct_39 : decode cX10_plainAct 39 = .ok (.iconst 2, 1) := by decide +kernel
theorem dX10_plainAct_40 : decode cX10_plainAct 40 = .ok (.goto 4, 3) := by decide +kernel
theorem dX10_plainAct_43 : decode cX10_plainAct 43 = .ok (.iconst 3, 1) := by decide +kernel
theorem dX10_plainAct_44 : decode cX10_plainAct 44 = .ok (.invokevirtual 182, 3) := by decide +kernel
theorem dX10_plainAct_47 : decode cX10_plainAct 47 = .ok (.ireturn, 1) := by decide +kernel
theorem dX10_plainAct_48 : decode cX10_plainAct 48 = .ok (.iload_n 1, 1) := by decide +kernel
theorem dX10_plainAct_49 : decode cX10_plainAct 49 = .ok (.bipush 10, 2) := by decide +kernel
theorem dX10_plainAct_51 : decode cX10_plainAct 51 = .ok (.if_icmp .ne 16, 3) := by decide +kernel
theorem dX10_plainAct_54 : decode cX10_plainAct 54 = .ok (.aload_n 0, 1) := by decide +kernel
theorem dX10_plainAct_55 : decode cX10_plainAct 55 = .ok (.iconst 0, 1) := by decide +kernel
theorem dX10_plainAct_56 : decode cX10_plainAct 56 = .ok (.iconst 1, 1) := by decide +kernel
theorem dX10_plainAct_57 : decode cX10_plainAct 57 = .ok (.iconst 2, 1) := by decide +kernel
theorem dX10_plainAct_58 : decode cX10_plainAct 58 = .ok (.invokevirtual 185, 3) := by decide +kernel
theorem dX10_plainAct_61 : decode cX10_plainAct 61 = .ok (.aload_n 0, 1) := by decide +kernel
theorem dX10_plainAct_62 : decode cX10_plainAct 62 = .ok (.iconst 2, 1) := by decide +kernel
theorem dX10_plainAct_63 : decode cX10_plainAct 63 = .ok (.invokevirtual 182, 3) := by decide +kernel
theorem dX10_plainAct_66 : decode cX10_plainAct 66 = .ok (.ireturn, 1) := by decide +kernel
theorem dX10_plainAct_67 : decode cX10_plainAct 67 = .ok (.aload_n 0, 1) := by decide +kernel
theorem dX10_plainAct_68 : decode cX10_plainAct 68 = .ok (.getfield 26, 3) := by decide +kernel
theorem dX10_plainAct_71 : decode cX10_plainAct 71 = .ok (.iconst 1, 1) := by decide +kernel
theorem dX10_plainAct_72 : decode cX10_plainAct 72 = .ok (.iaload, 1) := by decide +kernel
theorem dX10_plainAct_73 : decode cX10_plainAct 73 = .ok (.iconst 1, 1) := by decide +kernel
theorem dX10_plainAct_74 : decode cX10_plainAct 74 = .ok (.if_icmp .ge 6, 3) := by decide +kernel
theorem dX10_plainAct_77 : decode cX10_plainAct 77 = .ok (.bipush (-3), 2) := by decide +kernel
theorem dX10_plainAct_79 : decode cX10_plainAct 79 = .ok (.ireturn, 1) := by decide +kernel
theorem dX10_plainAct_80 : decode cX10_plainAct 80 = .ok (.aload_n 0, 1) := by decide +kernel
theorem dX10_plainAct_81 : decode cX10_plainAct 81 = .ok (.iconst 1, 1) := by decide +kernel
theorem dX10_plainAct_82 : decode cX10_plainAct 82 = .ok (.iconst 4, 1) := by decide +kernel
theorem dX10_plainAct_83 : decode cX10_plainAct 83 = .ok (.invokevirtual 167, 3) := by decide +kernel
theorem dX10_plainAct_86 : decode cX10_plainAct 86 = .ok (.aload_n 0, 1) := by decide +kernel
theorem dX10_plainAct_87 : decode cX10_plainAct 87 = .ok (.iconst 0, 1) := by decide +kernel
theorem dX10_plainAct_88 : decode cX10_plainAct 88 = .ok (.iconst 1, 1) := by decide +kernel
theorem dX10_plainAct_89 : decode cX10_plainAct 89 = .ok (.iconst 2, 1) := by decide +kernel
theorem dX10_plainAct_90 : decode cX10_plainAct 90 = .ok (.iconst 5, 1) := by decide +kernel
theorem dX10_plainAct_91 : decode cX10_plainAct 91 = .ok (.invokevirtual 176, 3) := by decide +kernel
theorem dX10_plainAct_94 : decode cX10_plainAct 94 = .ok (.aload_n 0, 1) := by decide +kernel
theorem dX10_plainAct_95 : decode cX10_plainAct 95 = .ok (.bipush 6, 2) := by decide +kernel
theorem dX10_plainAct_97 : decode cX10_plainAct 97 = .ok (.iconst 0, 1) := by decide +kernel
theorem dX10_plainAct_98 : decode cX10_plainAct 98 = .ok (.invokevirtual 170, 3) := by decide +kernel
theorem dX10_plainAct_101 : decode cX10_plainAct 101 = .ok (.aload_n 0, 1) := by decide +kernel
theorem dX10_plainAct_102 : decode cX10_plainAct 102 = .ok (.bipush 7, 2) := by decide +kernel
theorem dX10_plainAct_104 : decode cX10_plainAct 104 = .ok (.iconst 1, 1) := by decide +kernel
theorem dX10_plainAct_105 : decode cX10_plainAct 105 = .ok (.invokevirtual 170, 3) := by decide +kernel
theorem dX10_plainAct_108 : decode cX10_plainAct 108 = .ok (.aload_n 0, 1) := by decide +kernel
theorem dX10_plainAct_109 : decode cX10_plainAct 109 = .ok (.getfield 26, 3) := by decide +kernel
theorem dX10_plainAct_112 : decode cX10_plainAct 112 = .ok (.iconst 5, 1) := by decide +kernel
theorem dX10_plainAct_113 : decode cX10_plainAct 113 = .ok (.iaload, 1) := by decide +kernel
theorem dX10_plainAct_114 : decode cX10_plainAct 114 = .ok (.ifCond .le 61, 3) := by decide +kernel
theorem dX10_plainAct_117 : decode cX10_plainAct 117 = .ok (.aload_n 0, 1) := by decide +kernel
theorem dX10_plainAct_118 : decode cX10_plainAct 118 = .ok (.iconst 4, 1) := by decide +kernel
theorem dX10_plainAct_119 : decode cX10_plainAct 119 = .ok (.iconst 5, 1) := by decide +kernel
theorem dX10_plainAct_120 : decode cX10_plainAct 120 = .ok (.iconst 2, 1) := by decide +kernel
theorem dX10_plainAct_121 : decode cX10_plainAct 121 = .ok (.iconst 3, 1) := by decide +kernel
theorem dX10_plainAct_122 : decode cX10_plainAct 122 = .ok (.invokevirtual 176, 3) := by decide +kernel
theorem dX10_plainAct_125 : decode cX10_plainAct 125 = .ok (.aload_n 0, 1) := by decide +kernel
theorem dX10_plainAct_126 : decode cX10_plainAct 126 = .ok (.iconst 5, 1) := by decide +kernel
theorem dX10_plainAct_127 : decode cX10_plainAct 127 = .ok (.iconst 4, 1) := by decide +kernel
theorem dX10_plainAct_128 : decode cX10_plainAct 128 = .ok (.invokevirtual 167, 3) := by decide +kernel
theorem dX10_plainAct_131 : decode cX10_plainAct 131 = .ok (.aload_n 0, 1) := by decide +kernel
theorem dX10_plainAct_132 : decode cX10_plainAct 132 = .ok (.iconst 3, 1) := by decide +kernel
theorem dX10_plainAct_133 : decode cX10_plainAct 133 = .ok (.iconst 5, 1) := by decide +kernel
theorem dX10_plainAct_134 : decode cX10_plainAct 134 = .ok (.invokevirtual 167, 3) := by decide +kernel
theorem dX10_plainAct_137 : decode cX10_plainAct 137 = .ok (.aload_n 0, 1) := by decide +kernel
theorem dX10_plainAct_138 : decode cX10_plainAct 138 = .ok (.iconst 2, 1) := by decide +kernel
theorem dX10_plainAct_139 : decode cX10_plainAct 139 = .ok (.bipush 7, 2) := by decide +kernel
theorem dX10_plainAct_141 : decode cX10_plainAct 141 = .ok (.bipush 8, 2) := by decide +kernel
theorem dX10_plainAct_143 : decode cX10_plainAct 143 = .ok (.invokevirtual 189, 3) := by decide +kernel
theorem dX10_plainAct_146 : decode cX10_plainAct 146 = .ok (.aload_n 0, 1) := by decide +kernel
theorem dX10_plainAct_147 : decode cX10_plainAct 147 = .ok (.bipush 6, 2) := by decide +kernel
theorem dX10_plainAct_149 : decode cX10_plainAct 149 = .ok (.bipush 8, 2) := by decide +kernel
theorem dX10_plainAct_151 : decode cX10_plainAct 151 = .ok (.bipush 9, 2) := by decide +kernel
theorem dX10_plainAct_153 : decode cX10_plainAct 153 = .ok (.invokevirtual 192, 3) := by decide +kernel
theorem dX10_plainAct_156 : decode cX10_plainAct 156 = .ok (.aload_n 0, 1) := by decide +kernel
theorem dX10_plainAct_157 : decode cX10_plainAct 157 = .ok (.bipush 7, 2) := by decide +kernel
theorem dX10_plainAct_159 : decode cX10_plainAct 159 = .ok (.bipush 6, 2) := by decide +kernel
theorem dX10_plainAct_161 : decode cX10_plainAct 161 = .ok (.invokevirtual 167, 3) := by decide +kernel
theorem dX10_plainAct_164 : decode cX10_plainAct 164 = .ok (.aload_n 0, 1) := by decide +kernel
theorem dX10_plainAct_165 : decode cX10_plainAct 165 = .ok (.bipush 9, 2) := by decide +kernel
theorem dX10_plainAct_167 : decode cX10_plainAct 167 = .ok (.bipush 7, 2) := by decide +kernel
theorem dX10_plainAct_169 : decode cX10_plainAct 169 = .ok (.invokevirtual 167, 3) := by decide +kernel
theorem dX10_plainAct_172 : decode cX10_plainAct 172 = .ok (.goto (-64), 3) := by decide +kernel
theorem dX10_plainAct_175 : decode cX10_plainAct 175 = .ok (.aload_n 0, 1) := by decide +kernel
theorem dX10_plainAct_176 : decode cX10_plainAct 176 = .ok (.getfield 26, 3) := by decide +kernel
theorem dX10_plainAct_179 : decode cX10_plainAct 179 = .ok (.iconst 5, 1) := by decide +kernel
theorem dX10_plainAct_180 : decode cX10_plainAct 180 = .ok (.iaload, 1) := by decide +kernel
theorem dX10_plainAct_181 : decode cX10_plainAct 181 = .ok (.ifCond .ge 6, 3) := by decide +kernel
theorem dX10_plainAct_184 : decode cX10_plainAct 184 = .ok (.bipush (-3), 2) := by decide +kernel
theorem dX10_plainAct_186 : decode cX10_plainAct 186 = .ok (.ireturn, 1) := by decide +kernel
theorem dX10_plainAct_187 : decode cX10_plainAct 187 = .ok (.aload_n 0, 1) := by decide +kernel
theorem dX10_plainAct_188 : decode cX10_plainAct 188 = .ok (.aload_n 0, 1) := by decide +kernel
theorem dX10_plainAct_189 : decode cX10_plainAct 189 = .ok (.getfield 23, 3) := by decide +kernel
theorem dX10_plainAct_192 : decode cX10_plainAct 192 = .ok (.sipush 1000, 3) := by decide +kernel
theorem dX10_plainAct_195 : decode cX10_plainAct 195 = .ok (.iaload, 1) := by decide +kernel
theorem dX10_plainAct_196 : decode cX10_plainAct 196 = .ok (.invokevirtual 173, 3) := by decide +kernel
theorem dX10_plainAct_199 : decode cX10_plainAct 199 = .ok (.istore_n 2, 1) := by decide +kernel
theorem dX10_plainAct_200 : decode cX10_plainAct 200 = .ok (.aload_n 0, 1) := by decide +kernel
theorem dX10_plainAct_201 : decode cX10_plainAct 201 = .ok (.bipush 8, 2) := by decide +kernel
theorem dX10_plainAct_203 : decode cX10_plainAct 203 = .ok (.iload_n 2, 1) := by decide +kernel
theorem dX10_plainAct_204 : decode cX10_plainAct 204 = .ok (.invokevirtual 170, 3) := by decide +kernel
theorem dX10_plainAct_207 : decode cX10_plainAct 207 = .ok (.aload_n 0, 1) := by decide +kernel
theorem dX10_plainAct_208 : decode cX10_plainAct 208 = .ok (.bipush 7, 2) := by decide +kernel
theorem dX10_plainAct_210 : decode cX10_plainAct 210 = .ok (.bipush 8, 2) := by decide +kernel
theorem dX10_plainAct_212 : decode cX10_plainAct 212 = .ok (.bipush 9, 2) := by decide +kernel
theorem dX10_plainAct_214 : decode cX10_plainAct 214 = .ok (.invokevirtual 189, 3) := by decide +kernel
theorem dX10_plainAct_217 : decode cX10_plainAct 217 = .ok (.aload_n 0, 1) := by decide +kernel
theorem dX10_plainAct_218 : decode cX10_plainAct 218 = .ok (.bipush 9, 2) := by decide +kernel
theorem dX10_plainAct_220 : decode cX10_plainAct 220 = .ok (.iconst 1, 1) := by decide +kernel
theorem dX10_plainAct_221 : decode cX10_plainAct 221 = .ok (.iconst 2, 1) := by decide +kernel
theorem dX10_plainAct_222 : decode cX10_plainAct 222 = .ok (.iconst 3, 1) := by decide +kernel
theorem dX10_plainAct_223 : decode cX10_plainAct 223 = .ok (.invokevirtual 176, 3) := by decide +kernel
theorem dX10_plainAct_226 : decode cX10_plainAct 226 = .ok (.aload_n 0, 1) := by decide +kernel
theorem dX10_plainAct_227 : decode cX10_plainAct 227 = .ok (.iconst 3, 1) := by decide +kernel
theorem dX10_plainAct_228 : decode cX10_plainAct 228 = .ok (.invokevirtual 182, 3) := by decide +kernel
theorem dX10_plainAct_231 : decode cX10_plainAct 231 = .ok (.ireturn, 1) := by decide +kernel
theorem dX10_raise_0 : decode cX10_raise 0 = .ok (.aload_n 0, 1) := by decide +kernel
theorem dX10_raise_1 : decode cX10_raise 1 = .ok (.iload_n 1, 1) := by decide +kernel
theorem dX10_raise_2 : decode cX10_raise 2 = .ok (.iload 4, 2) := by decide +kernel
theorem dX10_raise_4 : decode cX10_raise 4 = .ok (.bipush 34, 2) := by decide +kernel
theorem dX10_raise_6 : decode cX10_raise 6 = .ok (.bipush 35, 2) := by decide +kernel
theorem dX10_raise_8 : decode cX10_raise 8 = .ok (.invokevirtual 176, 3) := by decide +kernel
theorem dX10_raise_11 : decode cX10_raise 11 = .ok (.aload_n 0, 1) := by decide +kernel
theorem dX10_raise_12 : decode cX10_raise 12 = .ok (.bipush 36, 2) := by decide +kernel
theorem dX10_raise_14 : decode cX10_raise 14 = .ok (.iconst 1, 1) := by decide +kernel
theorem dX10_raise_15 : decode cX10_raise 15 = .ok (.invokevirtual 170, 3) := by decide +kernel
theorem dX10_raise_18 : decode cX10_raise 18 = .ok (.lload_n 2, 1) := by decide +kernel
theorem dX10_raise_19 : decode cX10_raise 19 = .ok (.lstore 6, 2) := by decide +kernel
theorem dX10_raise_21 : decode cX10_raise 21 = .ok (.lload 6, 2) := by decide +kernel
theorem dX10_raise_23 : decode cX10_raise 23 = .ok (.lconst 0, 1) := by decide +kernel
theorem dX10_raise_24 : decode cX10_raise 24 = .ok (.lcmp, 1) := by decide +kernel
theorem dX10_raise_25 : decode cX10_raise 25 = .ok (.ifCond .le 65, 3) := by decide +kernel
theorem dX10_raise_28 : decode cX10_raise 28 = .ok (.lload 6, 2) := by decide +kernel
theorem dX10_raise_30 : decode cX10_raise 30 = .ok (.lconst 1, 1) := by decide +kernel
theorem dX10_raise_31 : decode cX10_raise 31 = .ok (.land, 1) := by decide +kernel
theorem dX10_raise_32 : decode cX10_raise 32 = .ok (.lconst 1, 1) := by decide +kernel
theorem dX10_raise_33 : decode cX10_raise 33 = .ok (.lcmp, 1) := by decide +kernel
theorem dX10_raise_34 : decode cX10_raise 34 = .ok (.ifCond .ne 25, 3) := by decide +kernel
theorem dX10_raise_37 : decode cX10_raise 37 = .ok (.aload_n 0, 1) := by decide +kernel
theorem dX10_raise_38 : decode cX10_raise 38 = .ok (.bipush 36, 2) := by decide +kernel
theorem dX10_raise_40 : decode cX10_raise 40 = .ok (.bipush 35, 2) := by decide +kernel
theorem dX10_raise_42 : decode cX10_raise 42 = .ok (.bipush 37, 2) := by decide +kernel
theorem dX10_raise_44 : decode cX10_raise 44 = .ok (.invokevirtual 189, 3) := by decide +kernel
theorem dX10_raise_47 : decode cX10_raise 47 = .ok (.aload_n 0, 1) := by decide +kernel
theorem dX10_raise_48 : decode cX10_raise 48 = .ok (.bipush 37, 2) := by decide +kernel
theorem dX10_raise_50 : decode cX10_raise 50 = .ok (.iload 4, 2) := by decide +kernel
theorem dX10_raise_52 : decode cX10_raise 52 = .ok (.bipush 34, 2) := by decide +kernel
theorem dX10_raise_54 : decode cX10_raise 54 = .ok (.bipush 36, 2) := by decide +kernel
theorem dX10_raise_56 : decode cX10_raise 56 = .ok (.invokevirtual 176, 3) := by decide +kernel
theorem dX10_raise_59 : decode cX10_raise 59 = .ok (.aload_n 0, 1) := by decide +kernel
theorem dX10_raise_60 : decode cX10_raise 60 = .ok (.bipush 35, 2) := by decide +kernel
theorem dX10_raise_62 : decode cX10_raise 62 = .ok (.bipush 35, 2) := by decide +kernel
theorem dX10_raise_64 : decode cX10_raise 64 = .ok (.bipush 37, 2) := by decide +kernel
theorem dX10_raise_66 : decode cX10_raise 66 = .ok (.invokevirtual 189, 3) := by decide +kernel
theorem dX10_raise_69 : decode cX10_raise 69 = .ok (.aload_n 0, 1) := by decide +kernel
theorem dX10_raise_70 : decode cX10_raise 70 = .ok (.bipush 37, 2) := by decide +kernel
theorem dX10_raise_72 : decode cX10_raise 72 = .ok (.iload 4, 2) := by decide +kernel
theorem dX10_raise_74 : decode cX10_raise 74 = .ok (.bipush 34, 2) := by decide +kernel
theorem dX10_raise_76 : decode cX10_raise 76 = .ok (.bipush 35, 2) := by decide +kernel
theorem dX10_raise_78 : decode cX10_raise 78 = .ok (.invokevirtual 176, 3) := by decide +kernel
theorem dX10_raise_81 : decode cX10_raise 81 = .ok (.lload 6, 2) := by decide +kernel
theorem dX10_raise_83 : decode cX10_raise 83 = .ok (.iconst 1, 1) := by decide +kernel
theorem dX10_raise_84 : decode cX10_raise 84 = .ok (.lshr, 1) := by decide +kernel
theorem dX10_raise_85 : decode cX10_raise 85 = .ok (.lstore 6, 2) := by decide +kernel
theorem dX10_raise_87 : decode cX10_raise 87 = .ok (.goto (-66), 3) := by decide +kernel
theorem dX10_raise_90 : decode cX10_raise 90 = .ok (.aload_n 0, 1) := by decide +kernel
theorem dX10_raise_91 : decode cX10_raise 91 = .ok (.bipush 36, 2) := by decide +kernel
theorem dX10_raise_93 : decode cX10_raise 93 = .ok (.iload 4, 2) := by decide +kernel
theorem dX10_raise_95 : decode cX10_raise 95 = .ok (.bipush 34, 2) := by decide +kernel
theorem dX10_raise_97 : decode cX10_raise 97 = .ok (.iload 5, 2) := by decide +kernel
theorem dX10_raise_99 : decode cX10_raise 99 = .ok (.invokevirtual 176, 3) := by decide +kernel
theorem dX10_raise_102 : decode cX10_raise 102 = .ok (.return_, 1) := by decide +kernel
theorem dX10_byX_0 : decode cX10_byX 0 = .ok (.aload_n 0, 1) := by decide +kernel
theorem dX10_byX_1 : decode cX10_byX 1 = .ok (.getfield 26, 3) := by decide +kernel
theorem dX10_byX_4 : decode cX10_byX 4 = .ok (.iconst 0, 1) := by decide +kernel
theorem dX10_byX_5 : decode cX10_byX 5 = .ok (.iaload, 1) := by decide +kernel
theorem dX10_byX_6 : decode cX10_byX 6 = .ok (.ifCond .lt 12, 3) := by decide +kernel
theorem dX10_byX_9 : decode cX10_byX 9 = .ok (.aload_n 0, 1) := by decide +kernel
theorem dX10_byX_10 : decode cX10_byX 10 = .ok (.getfield 26, 3) := by decide +kernel
theorem dX10_byX_13 : decode cX10_byX 13 = .ok (.iconst 1, 1) := by decide +kernel
theorem dX10_byX_14 : decode cX10_byX 14 = .ok (.iaload, 1) := by decide +kernel
theorem dX10_byX_15 : decode cX10_byX 15 = .ok (.ifCond .ge 6, 3) := by decide +kernel
theorem dX10_byX_18 : decode cX10_byX 18 = .ok (.bipush (-3), 2) := by decide +kernel
theorem dX10_byX_20 : decode cX10_byX 20 = .ok (.ireturn, 1) := by decide +kernel
theorem dX10_byX_21 : decode cX10_byX 21 = .ok (.aload_n 0, 1) := by decide +kernel
theorem dX10_byX_22 : decode cX10_byX 22 = .ok (.getfield 26, 3) := by decide +kernel
theorem dX10_byX_25 : decode cX10_byX 25 = .ok (.iconst 0, 1) := by decide +kernel
theorem dX10_byX_26 : decode cX10_byX 26 = .ok (.iaload, 1) := by decide +kernel
theorem dX10_byX_27 : decode cX10_byX 27 = .ok (.istore_n 1, 1) := by decide +kernel
theorem dX10_byX_28 : decode cX10_byX 28 = .ok (.aload_n 0, 1) := by decide +kernel
theorem dX10_byX_29 : decode cX10_byX 29 = .ok (.getfield 26, 3) := by decide +kernel
theorem dX10_byX_32 : decode cX10_byX 32 = .ok (.iconst 1, 1) := by decide +kernel
theorem dX10_byX_33 : decode cX10_byX 33 = .ok (.iaload, 1) := by decide +kernel
theorem dX10_byX_34 : decode cX10_byX 34 = .ok (.istore_n 2, 1) := by decide +kernel
theorem dX10_byX_35 : decode cX10_byX 35 = .ok (.iload_n 1, 1) := by decide +kernel
theorem dX10_byX_36 : decode cX10_byX 36 = .ok (.iload_n 2, 1) := by decide +kernel
theorem dX10_byX_37 : decode cX10_byX 37 = .ok (.iadd, 1) := by decide +kernel
theorem dX10_byX_38 : decode cX10_byX 38 = .ok (.istore_n 3, 1) := by decide +kernel
theorem dX10_byX_39 : decode cX10_byX 39 = .ok (.iconst 0, 1) := by decide +kernel
theorem dX10_byX_40 : decode cX10_byX 40 = .ok (.istore 4, 2) := by decide +kernel
theorem dX10_byX_42 : decode cX10_byX 42 = .ok (.iload 4, 2) := by decide +kernel
theorem dX10_byX_44 : decode cX10_byX 44 = .ok (.iload_n 3, 1) := by decide +kernel
theorem dX10_byX_45 : decode cX10_byX 45 = .ok (.if_icmp .ge 119, 3) := by decide +kernel
theorem dX10_byX_48 : decode cX10_byX 48 = .ok (.iconst 0, 1) := by decide +kernel
theorem dX10_byX_49 : decode cX10_byX 49 = .ok (.istore 5, 2) := by decide +kernel
theorem dX10_byX_51 : decode cX10_byX 51 = .ok (.iload 5, 2) := by decide +kernel
theorem dX10_byX_53 : decode cX10_byX 53 = .ok (.iload_n 3, 1) := by decide +kernel
theorem dX10_byX_54 : decode cX10_byX 54 = .ok (.if_icmp .ge 104, 3) := by decide +kernel
theorem dX10_byX_57 : decode cX10_byX 57 = .ok (.iload 4, 2) := by decide +kernel
theorem dX10_byX_59 : decode cX10_byX 59 = .ok (.iload_n 2, 1) := by decide +kernel
theorem dX10_byX_60 : decode cX10_byX 60 = .ok (.if_icmp .ge 7, 3) := by decide +kernel
theorem dX10_byX_63 : decode cX10_byX 63 = .ok (.iconst 0, 1) := by decide +kernel
theorem dX10_byX_64 : decode cX10_byX 64 = .ok (.goto 4, 3) := by decide +kernel
theorem dX10_byX_67 : decode cX10_byX 67 = .ok (.iconst 1, 1) := by decide +kernel
theorem dX10_byX_68 : decode cX10_byX 68 = .ok (.istore 6, 2) := by decide +kernel
theorem dX10_byX_70 : decode cX10_byX 70 = .ok (.iload 6, 2) := by decide +kernel
theorem dX10_byX_72 : decode cX10_byX 72 = .ok (.ifCond .ne 7, 3) := by decide +kernel
theorem dX10_byX_75 : decode cX10_byX 75 = .ok (.iload_n 1, 1) := by decide +kernel
theorem dX10_byX_76 : decode cX10_byX 76 = .ok (.goto 4, 3) := by decide +kernel
theorem dX10_byX_79 : decode cX10_byX 79 = .ok (.iload_n 2, 1) := by decide +kernel
theorem dX10_byX_80 : decode cX10_byX 80 = .ok (.iload 5, 2) := by decide +kernel
theorem dX10_byX_82 : decode cX10_byX 82 = .ok (.iload 6, 2) := by decide +kernel
theorem dX10_byX_84 : decode cX10_byX 84 = .ok (.ifCond .ne 8, 3) := by decide +kernel
theorem dX10_byX_87 : decode cX10_byX 87 = .ok (.iload 4, 2) := by decide +kernel
theorem dX10_byX_89 : decode cX10_byX 89 = .ok (.goto 7, 3) := by decide +kernel
theorem dX10_byX_92 : decode cX10_byX 92 = .ok (.iload 4, 2) := by decide +kernel
theorem dX10_byX_94 : decode cX10_byX 94 = .ok (.iload_n 2, 1) := by decide +kernel
theorem dX10_byX_95 : decode cX10_byX 95 = .ok (.isub, 1) := by decide +kernel
theorem dX10_byX_96 : decode cX10_byX 96 = .ok (.isub, 1) := by decide +kernel
theorem dX10_byX_97 : decode cX10_byX 97 = .ok (.isub, 1) := by decide +kernel
theorem dX10_byX_98 : decode cX10_byX 98 = .ok (.istore 7, 2) := by decide +kernel
theorem dX10_byX_100 : decode cX10_byX 100 = .ok (.aload_n 0, 1) := by decide +kernel
theorem dX10_byX_101 : decode cX10_byX 101 = .ok (.getfield 29, 3) := by decide +kernel
theorem dX10_byX_104 : decode cX10_byX 104 = .ok (.bipush 80, 2) := by decide +kernel
theorem dX10_byX_106 : decode cX10_byX 106 = .ok (.iload 4, 2) := by decide +kernel
theorem dX10_byX_108 : decode cX10_byX 108 = .ok (.imul, 1) := by decide +kernel
theorem dX10_byX_109 : decode cX10_byX 109 = .ok (.iload 5, 2) := by decide +kernel
theorem dX10_byX_111 : decode cX10_byX 111 = .ok (.iadd, 1) := by decide +kernel
theorem dX10_byX_112 : decode cX10_byX 112 = .ok (.iload 7, 2) := by decide +kernel
theorem dX10_byX_114 : decode cX10_byX 114 = .ok (.ifCond .lt 36, 3) := by decide +kernel
theorem dX10_byX_117 : decode cX10_byX 117 = .ok (.iload 7, 2) := by decide +kernel
theorem dX10_byX_119 : decode cX10_byX 119 = .ok (.iload 6, 2) := by decide +kernel
theorem dX10_byX_121 : decode cX10_byX 121 = .ok (.ifCond .ne 7, 3) := by decide +kernel
theorem dX10_byX_124 : decode cX10_byX 124 = .ok (.iload_n 1, 1) := by decide +kernel
theorem dX10_byX_125 : decode cX10_byX 125 = .ok (.goto 4, 3) := by decide +kernel
theorem dX10_byX_128 : decode cX10_byX 128 = .ok (.iload_n 2, 1) := by decide +kernel
theorem dX10_byX_129 : decode cX10_byX 129 = .ok (.if_icmp .gt 21, 3) := by decide +kernel
theorem dX10_byX_132 : decode cX10_byX 132 = .ok (.aload_n 0, 1) := by decide +kernel
theorem dX10_byX_133 : decode cX10_byX 133 = .ok (.getfield 23, 3) := by decide +kernel
theorem dX10_byX_136 : decode cX10_byX 136 = .ok (.sipush 200, 3) := by decide +kernel
theorem dX10_byX_139 : decode cX10_byX 139 = .ok (.iload 6, 2) := by decide +kernel
theorem dX10_byX_141 : decode cX10_byX 141 = .ok (.imul, 1) := by decide +kernel
theorem dX10_byX_142 : decode cX10_byX 142 = .ok (.iload 7, 2) := by decide +kernel
theorem dX10_byX_144 : decode cX10_byX 144 = .ok (.iadd, 1) := by decide +kernel
theorem dX10_byX_145 : decode cX10_byX 145 = .ok (.iaload, 1) := by decide +kernel
theorem dX10_byX_146 : decode cX10_byX 146 = .ok (.i2l, 1) := by decide +kernel
theorem dX10_byX_147 : decode cX10_byX 147 = .ok (.goto 4, 3) := by decide +kernel
theorem dX10_byX_150 : decode cX10_byX 150 = .ok (.lconst 0, 1) := by decide +kernel
theorem dX10_byX_151 : decode cX10_byX 151 = .ok (.lastore, 1) := by decide +kernel
theorem dX10_byX_152 : decode cX10_byX 152 = .ok (.iinc 5 1, 3) := by decide +kernel
theorem dX10_byX_155 : decode cX10_byX 155 = .ok (.goto (-104), 3) := by decide +kernel
theorem dX10_byX_158 : decode cX10_byX 158 = .ok (.iinc 4 1, 3) := by decide +kernel
theorem dX10_byX_161 : decode cX10_byX 161 = .ok (.goto (-119), 3) := by decide +kernel
theorem dX10_byX_164 : decode cX10_byX 164 = .ok (.lconst 1, 1) := by decide +kernel
theorem dX10_byX_165 : decode cX10_byX 165 = .ok (.lstore 4, 2) := by decide +kernel
theorem dX10_byX_167 : decode cX10_byX 167 = .ok (.iconst 0, 1) := by decide +kernel
theorem dX10_byX_168 : decode cX10_byX 168 = .ok (.istore 6, 2) := by decide +kernel
theorem dX10_byX_170 : decode cX10_byX 170 = .ok (.iload 6, 2) := by decide +kernel
theorem dX10_byX_172 : decode cX10_byX 172 = .ok (.iload_n 3, 1) := by decide +kernel
theorem dX10_byX_173 : decode cX10_byX 173 = .ok (.if_icmp .ge 333, 3) := by decide +kernel
theorem dX10_byX_176 : decode cX10_byX 176 = .ok (.lload 4, 2) := by decide +kernel
theorem dX10_byX_178 : decode cX10_byX 178 = .ok (.lconst 0, 1) := by decide +kernel
theorem dX10_byX_179 : decode cX10_byX 179 = .ok (.lcmp, 1) := by decide +kernel
theorem dX10_byX_180 : decode cX10_byX 180 = .ok (.ifCond .eq 326, 3) := by decide +kernel
theorem dX10_byX_183 : decode cX10_byX 183 = .ok (.iload 6, 2) := by decide +kernel
theorem dX10_byX_185 : decode cX10_byX 185 = .ok (.istore 7, 2) := by decide +kernel
theorem dX10_byX_187 : decode cX10_byX 187 = .ok (.iload 7, 2) := by decide +kernel
theorem dX10_byX_189 : decode cX10_byX 189 = .ok (.iload_n 3, 1) := by decide +kernel
theorem dX10_byX_190 : decode cX10_byX 190 = .ok (.if_icmp .ge 27, 3) := by decide +kernel
theorem dX10_byX_193 : decode cX10_byX 193 = .ok (.aload_n 0, 1) := by decide +kernel
theorem dX10_byX_194 : decode cX10_byX 194 = .ok (.getfield 29, 3) := by decide +kernel
theorem dX10_byX_197 : decode cX10_byX 197 = .ok (.bipush 80, 2) := by decide +kernel
theorem dX10_byX_199 : decode cX10_byX 199 = .ok (.iload 7, 2) := by decide +kernel
theorem dX10_byX_201 : decode cX10_byX 201 = .ok (.imul, 1) := by decide +kernel
theorem dX10_byX_202 : decode cX10_byX 202 = .ok (.iload 6, 2) := by decide +kernel
theorem dX10_byX_204 : decode cX10_byX 204 = .ok (.iadd, 1) := by decide +kernel
theorem dX10_byX_205 : decode cX10_byX 205 = .ok (.laload, 1) := by decide +kernel
theorem dX10_byX_206 : decode cX10_byX 206 = .ok (.lconst 0, 1) := by decide +kernel
