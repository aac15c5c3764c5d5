theorem dX6_clearColumns_27 : decode cX6_clearColumns 27 = .ok (.aload_n 0, 1) := by decide +kernel
theorem dX6_clearColumns_28 : decode cX6_clearColumns 28 = .ok (.getfield 57, 3) := by decide +kernel
theorem dX6_clearColumns_31 : decode cX6_clearColumns 31 = .ok (.imul, 1) := by decide +kernel
theorem dX6_clearColumns_32 : decode cX6_clearColumns 32 = .ok (.iload_n 2, 1) := by decide +kernel
theorem dX6_clearColumns_33 : decode cX6_clearColumns 33 = .ok (.iadd, 1) := by decide +kernel
theorem dX6_clearColumns_34 : decode cX6_clearColumns 34 = .ok (.laload, 1) := by decide +kernel
theorem dX6_clearColumns_35 : decode cX6_clearColumns 35 = .ok (.lconst 0, 1) := by decide +kernel
theorem dX6_clearColumns_36 : decode cX6_clearColumns 36 = .ok (.lcmp, 1) := by decide +kernel
theorem dX6_clearColumns_37 : decode cX6_clearColumns 37 = .ok (.ifCond .ne 9, 3) := by decide +kernel
theorem dX6_clearColumns_40 : decode cX6_clearColumns 40 = .ok (.iinc 3 1, 3) := by decide +kernel
theorem dX6_clearColumns_43 : decode cX6_clearColumns 43 = .ok (.goto (-29), 3) := by decide +kernel
theorem dX6_clearColumns_46 : decode cX6_clearColumns 46 = .ok (.aload_n 0, 1) := by decide +kernel
theorem dX6_clearColumns_47 : decode cX6_clearColumns 47 = .ok (.getfield 15, 3) := by decide +kernel
theorem dX6_clearColumns_50 : decode cX6_clearColumns 50 = .ok (.iload_n 2, 1) := by decide +kernel
theorem dX6_clearColumns_51 : decode cX6_clearColumns 51 = .ok (.iconst (-1), 1) := by decide +kernel
theorem dX6_clearColumns_52 : decode cX6_clearColumns 52 = .ok (.iastore, 1) := by decide +kernel
theorem dX6_clearColumns_53 : decode cX6_clearColumns 53 = .ok (.iload_n 3, 1) := by decide +kernel
theorem dX6_clearColumns_54 : decode cX6_clearColumns 54 = .ok (.aload_n 0, 1) := by decide +kernel
theorem dX6_clearColumns_55 : decode cX6_clearColumns 55 = .ok (.getfield 57, 3) := by decide +kernel
theorem dX6_clearColumns_58 : decode cX6_clearColumns 58 = .ok (.if_icmp .ge 52, 3) := by decide +kernel
theorem dX6_clearColumns_61 : decode cX6_clearColumns 61 = .ok (.aload_n 0, 1) := by decide +kernel
theorem dX6_clearColumns_62 : decode cX6_clearColumns 62 = .ok (.iload_n 3, 1) := by decide +kernel
theorem dX6_clearColumns_63 : decode cX6_clearColumns 63 = .ok (.iload_n 1, 1) := by decide +kernel
theorem dX6_clearColumns_64 : decode cX6_clearColumns 64 = .ok (.iload_n 2, 1) := by decide +kernel
theorem dX6_clearColumns_65 : decode cX6_clearColumns 65 = .ok (.invokevirtual 111, 3) := by decide +kernel
theorem dX6_clearColumns_68 : decode cX6_clearColumns 68 = .ok (.iconst 0, 1) := by decide +kernel
theorem dX6_clearColumns_69 : decode cX6_clearColumns 69 = .ok (.istore 4, 2) := by decide +kernel
theorem dX6_clearColumns_71 : decode cX6_clearColumns 71 = .ok (.iload 4, 2) := by decide +kernel
theorem dX6_clearColumns_73 : decode cX6_clearColumns 73 = .ok (.aload_n 0, 1) := by decide +kernel
theorem dX6_clearColumns_74 : decode cX6_clearColumns 74 = .ok (.getfield 57, 3) := by decide +kernel
theorem dX6_clearColumns_77 : decode cX6_clearColumns 77 = .ok (.if_icmp .ge 23, 3) := by decide +kernel
theorem dX6_clearColumns_80 : decode cX6_clearColumns 80 = .ok (.iload 4, 2) := by decide +kernel
theorem dX6_clearColumns_82 : decode cX6_clearColumns 82 = .ok (.iload_n 1, 1) := by decide +kernel
theorem dX6_clearColumns_83 : decode cX6_clearColumns 83 = .ok (.if_icmp .eq 11, 3) := by decide +kernel
theorem dX6_clearColumns_86 : decode cX6_clearColumns 86 = .ok (.aload_n 0, 1) := by decide +kernel
theorem dX6_clearColumns_87 : decode cX6_clearColumns 87 = .ok (.iload 4, 2) := by decide +kernel
theorem dX6_clearColumns_89 : decode cX6_clearColumns 89 = .ok (.iload_n 1, 1) := by decide +kernel
theorem dX6_clearColumns_90 : decode cX6_clearColumns 90 = .ok (.iload_n 2, 1) := by decide +kernel
theorem dX6_clearColumns_91 : decode cX6_clearColumns 91 = .ok (.invokevirtual 115, 3) := by decide +kernel
theorem dX6_clearColumns_94 : decode cX6_clearColumns 94 = .ok (.iinc 4 1, 3) := by decide +kernel
theorem dX6_clearColumns_97 : decode cX6_clearColumns 97 = .ok (.goto (-26), 3) := by decide +kernel
theorem dX6_clearColumns_100 : decode cX6_clearColumns 100 = .ok (.aload_n 0, 1) := by decide +kernel
theorem dX6_clearColumns_101 : decode cX6_clearColumns 101 = .ok (.getfield 15, 3) := by decide +kernel
theorem dX6_clearColumns_104 : decode cX6_clearColumns 104 = .ok (.iload_n 2, 1) := by decide +kernel
theorem dX6_clearColumns_105 : decode cX6_clearColumns 105 = .ok (.iload_n 1, 1) := by decide +kernel
theorem dX6_clearColumns_106 : decode cX6_clearColumns 106 = .ok (.iastore, 1) := by decide +kernel
theorem dX6_clearColumns_107 : decode cX6_clearColumns 107 = .ok (.iinc 1 1, 3) := by decide +kernel
theorem dX6_clearColumns_110 : decode cX6_clearColumns 110 = .ok (.iinc 2 1, 3) := by decide +kernel
theorem dX6_clearColumns_113 : decode cX6_clearColumns 113 = .ok (.goto (-109), 3) := by decide +kernel
theorem dX6_clearColumns_116 : decode cX6_clearColumns 116 = .ok (.iload_n 1, 1) := by decide +kernel
theorem dX6_clearColumns_117 : decode cX6_clearColumns 117 = .ok (.ireturn, 1) := by decide +kernel
theorem dX6_raiseRow_0 : decode cX6_raiseRow 0 = .ok (.aload_n 0, 1) := by decide +kernel
theorem dX6_raiseRow_1 : decode cX6_raiseRow 1 = .ok (.getfield 34, 3) := by decide +kernel
theorem dX6_raiseRow_4 : decode cX6_raiseRow 4 = .ok (.aload_n 0, 1) := by decide +kernel
theorem dX6_raiseRow_5 : decode cX6_raiseRow 5 = .ok (.getfield 9, 3) := by decide +kernel
theorem dX6_raiseRow_8 : decode cX6_raiseRow 8 = .ok (.iload_n 1, 1) := by decide +kernel
theorem dX6_raiseRow_9 : decode cX6_raiseRow 9 = .ok (.aload_n 0, 1) := by decide +kernel
theorem dX6_raiseRow_10 : decode cX6_raiseRow 10 = .ok (.getfield 57, 3) := by decide +kernel
theorem dX6_raiseRow_13 : decode cX6_raiseRow 13 = .ok (.imul, 1) := by decide +kernel
theorem dX6_raiseRow_14 : decode cX6_raiseRow 14 = .ok (.iload_n 3, 1) := by decide +kernel
theorem dX6_raiseRow_15 : decode cX6_raiseRow 15 = .ok (.iadd, 1) := by decide +kernel
theorem dX6_raiseRow_16 : decode cX6_raiseRow 16 = .ok (.laload, 1) := by decide +kernel
theorem dX6_raiseRow_17 : decode cX6_raiseRow 17 = .ok (.invokevirtual 118, 3) := by decide +kernel
theorem dX6_raiseRow_20 : decode cX6_raiseRow 20 = .ok (.lstore 4, 2) := by decide +kernel
theorem dX6_raiseRow_22 : decode cX6_raiseRow 22 = .ok (.iconst 0, 1) := by decide +kernel
theorem dX6_raiseRow_23 : decode cX6_raiseRow 23 = .ok (.istore 6, 2) := by decide +kernel
theorem dX6_raiseRow_25 : decode cX6_raiseRow 25 = .ok (.iload 6, 2) := by decide +kernel
theorem dX6_raiseRow_27 : decode cX6_raiseRow 27 = .ok (.aload_n 0, 1) := by decide +kernel
theorem dX6_raiseRow_28 : decode cX6_raiseRow 28 = .ok (.getfield 57, 3) := by decide +kernel
theorem dX6_raiseRow_31 : decode cX6_raiseRow 31 = .ok (.if_icmp .ge 81, 3) := by decide +kernel
theorem dX6_raiseRow_34 : decode cX6_raiseRow 34 = .ok (.aload_n 0, 1) := by decide +kernel
theorem dX6_raiseRow_35 : decode cX6_raiseRow 35 = .ok (.getfield 9, 3) := by decide +kernel
theorem dX6_raiseRow_38 : decode cX6_raiseRow 38 = .ok (.iload_n 1, 1) := by decide +kernel
theorem dX6_raiseRow_39 : decode cX6_raiseRow 39 = .ok (.aload_n 0, 1) := by decide +kernel
theorem dX6_raiseRow_40 : decode cX6_raiseRow 40 = .ok (.getfield 57, 3) := by decide +kernel
theorem dX6_raiseRow_43 : decode cX6_raiseRow 43 = .ok (.imul, 1) := by decide +kernel
theorem dX6_raiseRow_44 : decode cX6_raiseRow 44 = .ok (.iload 6, 2) := by decide +kernel
theorem dX6_raiseRow_46 : decode cX6_raiseRow 46 = .ok (.iadd, 1) := by decide +kernel
theorem dX6_raiseRow_47 : decode cX6_raiseRow 47 = .ok (.laload, 1) := by decide +kernel
theorem dX6_raiseRow_48 : decode cX6_raiseRow 48 = .ok (.lload 4, 2) := by decide +kernel
theorem dX6_raiseRow_50 : decode cX6_raiseRow 50 = .ok (.lmul, 1) := by decide +kernel
theorem dX6_raiseRow_51 : decode cX6_raiseRow 51 = .ok (.aload_n 0, 1) := by decide +kernel
theorem dX6_raiseRow_52 : decode cX6_raiseRow 52 = .ok (.getfield 34, 3) := by decide +kernel
theorem dX6_raiseRow_55 : decode cX6_raiseRow 55 = .ok (.getfield 73, 3) := by decide +kernel
theorem dX6_raiseRow_58 : decode cX6_raiseRow 58 = .ok (.i2l, 1) := by decide +kernel
theorem dX6_raiseRow_59 : decode cX6_raiseRow 59 = .ok (.lrem, 1) := by decide +kernel
theorem dX6_raiseRow_60 : decode cX6_raiseRow 60 = .ok (.lstore 7, 2) := by decide +kernel
theorem dX6_raiseRow_62 : decode cX6_raiseRow 62 = .ok (.aload_n 0, 1) := by decide +kernel
theorem dX6_raiseRow_63 : decode cX6_raiseRow 63 = .ok (.getfield 9, 3) := by decide +kernel
theorem dX6_raiseRow_66 : decode cX6_raiseRow 66 = .ok (.iload_n 1, 1) := by decide +kernel
theorem dX6_raiseRow_67 : decode cX6_raiseRow 67 = .ok (.aload_n 0, 1) := by decide +kernel
theorem dX6_raiseRow_68 : decode cX6_raiseRow 68 = .ok (.getfield 57, 3) := by decide +kernel
theorem dX6_raiseRow_71 : decode cX6_raiseRow 71 = .ok (.imul, 1) := by decide +kernel
theorem dX6_raiseRow_72 : decode cX6_raiseRow 72 = .ok (.iload 6, 2) := by decide +kernel
theorem dX6_raiseRow_74 : decode cX6_raiseRow 74 = .ok (.iadd, 1) := by decide +kernel
theorem dX6_raiseRow_75 : decode cX6_raiseRow 75 = .ok (.aload_n 0, 1) := by decide +kernel
theorem dX6_raiseRow_76 : decode cX6_raiseRow 76 = .ok (.getfield 9, 3) := by decide +kernel
theorem dX6_raiseRow_79 : decode cX6_raiseRow 79 = .ok (.iload_n 2, 1) := by decide +kernel
theorem dX6_raiseRow_80 : decode cX6_raiseRow 80 = .ok (.aload_n 0, 1) := by decide +kernel
theorem dX6_raiseRow_81 : decode cX6_raiseRow 81 = .ok (.getfield 57, 3) := by decide +kernel
theorem dX6_raiseRow_84 : decode cX6_raiseRow 84 = .ok (.imul, 1) := by decide +kernel
theorem dX6_raiseRow_85 : decode cX6_raiseRow 85 = .ok (.iload 6, 2) := by decide +kernel
theorem dX6_raiseRow_87 : decode cX6_raiseRow 87 = .ok (.iadd, 1) := by decide +kernel
theorem dX6_raiseRow_88 : decode cX6_raiseRow 88 = .ok (.laload, 1) := by decide +kernel
theorem dX6_raiseRow_89 : decode cX6_raiseRow 89 = .ok (.lastore, 1) := by decide +kernel
theorem dX6_raiseRow_90 : decode cX6_raiseRow 90 = .ok (.aload_n 0, 1) := by decide +kernel
theorem dX6_raiseRow_91 : decode cX6_raiseRow 91 = .ok (.getfield 9, 3) := by decide +kernel
theorem dX6_raiseRow_94 : decode cX6_raiseRow 94 = .ok (.iload_n 2, 1) := by decide +kernel
theorem dX6_raiseRow_95 : decode cX6_raiseRow 95 = .ok (.aload_n 0, 1) := by decide +kernel
theorem dX6_raiseRow_96 : decode cX6_raiseRow 96 = .ok (.getfield 57, 3) := by decide +kernel
theorem dX6_raiseRow_99 : decode cX6_raiseRow 99 = .ok (.imul, 1) := by decide +kernel
theorem dX6_raiseRow_100 : decode cX6_raiseRow 100 = .ok (.iload 6, 2) := by decide +kernel
theorem dX6_raiseRow_102 : decode cX6_raiseRow 102 = .ok (.iadd, 1) := by decide +kernel
theorem dX6_raiseRow_103 : decode cX6_raiseRow 103 = .ok (.lload 7, 2) := by decide +kernel
theorem dX6_raiseRow_105 : decode cX6_raiseRow 105 = .ok (.lastore, 1) := by decide +kernel
theorem dX6_raiseRow_106 : decode cX6_raiseRow 106 = .ok (.iinc 6 1, 3) := by decide +kernel
theorem dX6_raiseRow_109 : decode cX6_raiseRow 109 = .ok (.goto (-84), 3) := by decide +kernel
theorem dX6_raiseRow_112 : decode cX6_raiseRow 112 = .ok (.return_, 1) := by decide +kernel
theorem dX6_clearRow_0 : decode cX6_clearRow 0 = .ok (.aload_n 0, 1) := by decide +kernel
theorem dX6_clearRow_1 : decode cX6_clearRow 1 = .ok (.getfield 9, 3) := by decide +kernel
theorem dX6_clearRow_4 : decode cX6_clearRow 4 = .ok (.iload_n 1, 1) := by decide +kernel
theorem dX6_clearRow_5 : decode cX6_clearRow 5 = .ok (.aload_n 0, 1) := by decide +kernel
theorem dX6_clearRow_6 : decode cX6_clearRow 6 = .ok (.getfield 57, 3) := by decide +kernel
theorem dX6_clearRow_9 : decode cX6_clearRow 9 = .ok (.imul, 1) := by decide +kernel
theorem dX6_clearRow_10 : decode cX6_clearRow 10 = .ok (.iload_n 3, 1) := by decide +kernel
theorem dX6_clearRow_11 : decode cX6_clearRow 11 = .ok (.iadd, 1) := by decide +kernel
theorem dX6_clearRow_12 : decode cX6_clearRow 12 = .ok (.laload, 1) := by decide +kernel
theorem dX6_clearRow_13 : decode cX6_clearRow 13 = .ok (.lstore 4, 2) := by decide +kernel
theorem dX6_clearRow_15 : decode cX6_clearRow 15 = .ok (.lload 4, 2) := by decide +kernel
theorem dX6_clearRow_17 : decode cX6_clearRow 17 = .ok (.lconst 0, 1) := by decide +kernel
theorem dX6_clearRow_18 : decode cX6_clearRow 18 = .ok (.lcmp, 1) := by decide +kernel
theorem dX6_clearRow_19 : decode cX6_clearRow 19 = .ok (.ifCond .ne 4, 3) := by decide +kernel
theorem dX6_clearRow_22 : decode cX6_clearRow 22 = .ok (.return_, 1) := by decide +kernel
theorem dX6_clearRow_23 : decode cX6_clearRow 23 = .ok (.aload_n 0, 1) := by decide +kernel
theorem dX6_clearRow_24 : decode cX6_clearRow 24 = .ok (.getfield 34, 3) := by decide +kernel
theorem dX6_clearRow_27 : decode cX6_clearRow 27 = .ok (.getfield 73, 3) := by decide +kernel
theorem dX6_clearRow_30 : decode cX6_clearRow 30 = .ok (.i2l, 1) := by decide +kernel
theorem dX6_clearRow_31 : decode cX6_clearRow 31 = .ok (.lstore 6, 2) := by decide +kernel
theorem dX6_clearRow_33 : decode cX6_clearRow 33 = .ok (.iload_n 3, 1) := by decide +kernel
theorem dX6_clearRow_34 : decode cX6_clearRow 34 = .ok (.istore 8, 2) := by decide +kernel
theorem dX6_clearRow_36 : decode cX6_clearRow 36 = .ok (.iload 8, 2) := by decide +kernel
theorem dX6_clearRow_38 : decode cX6_clearRow 38 = .ok (.aload_n 0, 1) := by decide +kernel
theorem dX6_clearRow_39 : decode cX6_clearRow 39 = .ok (.getfield 57, 3) := by decide +kernel
theorem dX6_clearRow_42 : decode cX6_clearRow 42 = .ok (.if_icmp .ge 61, 3) := by decide +kernel
theorem dX6_clearRow_45 : decode cX6_clearRow 45 = .ok (.aload_n 0, 1) := by decide +kernel
theorem dX6_clearRow_46 : decode cX6_clearRow 46 = .ok (.getfield 9, 3) := by decide +kernel
theorem dX6_clearRow_49 : decode cX6_clearRow 49 = .ok (.iload_n 1, 1) := by decide +kernel
theorem dX6_clearRow_50 : decode cX6_clearRow 50 = .ok (.aload_n 0, 1) := by decide +kernel
theorem dX6_clearRow_51 : decode cX6_clearRow 51 = .ok (.getfield 57, 3) := by decide +kernel
theorem dX6_clearRow_54 : decode cX6_clearRow 54 = .ok (.imul, 1) := by decide +kernel
theorem dX6_clearRow_55 : decode cX6_clearRow 55 = .ok (.iload 8, 2) := by decide +kernel
theorem dX6_clearRow_57 : decode cX6_clearRow 57 = .ok (.iadd, 1) := by decide +kernel
theorem dX6_clearRow_58 : decode cX6_clearRow 58 = .ok (.aload_n 0, 1) := by decide +kernel
theorem dX6_clearRow_59 : decode cX6_clearRow 59 = .ok (.getfield 9, 3) := by decide +kernel
theorem dX6_clearRow_62 : decode cX6_clearRow 62 = .ok (.iload_n 1, 1) := by decide +kernel
theorem dX6_clearRow_63 : decode cX6_clearRow 63 = .ok (.aload_n 0, 1) := by decide +kernel
theorem dX6_clearRow_64 : decode cX6_clearRow 64 = .ok (.getfield 57, 3) := by decide +kernel
theorem dX6_clearRow_67 : decode cX6_clearRow 67 = .ok (.imul, 1) := by decide +kernel
theorem dX6_clearRow_68 : decode cX6_clearRow 68 = .ok (.iload 8, 2) := by decide +kernel
theorem dX6_clearRow_70 : decode cX6_clearRow 70 = .ok (.iadd, 1) := by decide +kernel
theorem dX6_clearRow_71 : decode cX6_clearRow 71 = .ok (.laload, 1) := by decide +kernel
theorem dX6_clearRow_72 : decode cX6_clearRow 72 = .ok (.lload 6, 2) := by decide +kernel
theorem dX6_clearRow_74 : decode cX6_clearRow 74 = .ok (.lload 4, 2) := by decide +kernel
theorem dX6_clearRow_76 : decode cX6_clearRow 76 = .ok (.lsub, 1) := by decide +kernel
theorem dX6_clearRow_77 : decode cX6_clearRow 77 = .ok (.aload_n 0, 1) := by decide +kernel
theorem dX6_clearRow_78 : decode cX6_clearRow 78 = .ok (.getfield 9, 3) := by decide +kernel
theorem dX6_clearRow_81 : decode cX6_clearRow 81 = .ok (.iload_n 2, 1) := by decide +kernel
theorem dX6_clearRow_82 : decode cX6_clearRow 82 = .ok (.aload_n 0, 1) := by decide +kernel
theorem dX6_clearRow_83 : decode cX6_clearRow 83 = .ok (.getfield 57, 3) := by decide +kernel
theorem dX6_clearRow_86 : decode cX6_clearRow 86 = .ok (.imul, 1) := by decide +kernel
theorem dX6_clearRow_87 : decode cX6_clearRow 87 = .ok (.iload 8, 2) := by decide +kernel
theorem dX6_clearRow_89 : decode cX6_clearRow 89 = .ok (.iadd, 1) := by decide +kernel
theorem dX6_clearRow_90 : decode cX6_clearRow 90 = .ok (.laload, 1) := by decide +kernel
theorem dX6_clearRow_91 : decode cX6_clearRow 91 = .ok (.lmul, 1) := by decide +kernel
theorem dX6_clearRow_92 : decode cX6_clearRow 92 = .ok (.ladd, 1) := by decide +kernel
theorem dX6_clearRow_93 : decode cX6_clearRow 93 = .ok (.lload 6, 2) := by decide +kernel
theorem dX6_clearRow_95 : decode cX6_clearRow 95 = .ok (.lrem, 1) := by decide +kernel
theorem dX6_clearRow_96 : decode cX6_clearRow 96 = .ok (.lastore, 1) := by decide +kernel
theorem dX6_clearRow_97 : decode cX6_clearRow 97 = .ok (.iinc 8 1, 3) := by decide +kernel
theorem dX6_clearRow_100 : decode cX6_clearRow 100 = .ok (.goto (-64), 3) := by decide +kernel
theorem dX6_clearRow_103 : decode cX6_clearRow 103 = .ok (.return_, 1) := by decide +kernel
theorem dX6_readVector_0 : decode cX6_readVector 0 = .ok (.iconst 0, 1) := by decide +kernel
theorem dX6_readVector_1 : decode cX6_readVector 1 = .ok (.istore_n 2, 1) := by decide +kernel
theorem dX6_readVector_2 : decode cX6_readVector 2 = .ok (.iload_n 2, 1) := by decide +kernel
theorem dX6_readVector_3 : decode cX6_readVector 3 = .ok (.aload_n 0, 1) := by decide +kernel
theorem dX6_readVector_4 : decode cX6_readVector 4 = .ok (.getfield 57, 3) := by decide +kernel
theorem dX6_readVector_7 : decode cX6_readVector 7 = .ok (.if_icmp .ge 54, 3) := by decide +kernel
theorem dX6_readVector_10 : decode cX6_readVector 10 = .ok (.aload_n 0, 1) := by decide +kernel
theorem dX6_readVector_11 : decode cX6_readVector 11 = .ok (.getfield 15, 3) := by decide +kernel
theorem dX6_readVector_14 : decode cX6_readVector 14 = .ok (.iload_n 2, 1) := by decide +kernel
theorem dX6_readVector_15 : decode cX6_readVector 15 = .ok (.iaload, 1) := by decide +kernel
theorem dX6_readVector_16 : decode cX6_readVector 16 = .ok (.istore_n 3, 1) := by decide +kernel
theorem dX6_readVector_17 : decode cX6_readVector 17 = .ok (.aload_n 0, 1) := by decide +kernel
theorem dX6_readVector_18 : decode cX6_readVector 18 = .ok (.getfield 28, 3) := by decide +kernel
theorem dX6_readVector_21 : decode cX6_readVector 21 = .ok (.getfield 90, 3) := by decide +kernel
theorem dX6_readVector_24 : decode cX6_readVector 24 = .ok (.iload_n 2, 1) := by decide +kernel
theorem dX6_readVector_25 : decode cX6_readVector 25 = .ok (.iload_n 3, 1) := by decide +kernel
theorem dX6_readVector_26 : decode cX6_readVector 26 = .ok (.ifCond .ge 7, 3) := by decide +kernel
theorem dX6_readVector_29 : decode cX6_readVector 29 = .ok (.lconst 0, 1) := by decide +kernel
theorem dX6_readVector_30 : decode cX6_readVector 30 = .ok (.goto 24, 3) := by decide +kernel
theorem dX6_readVector_33 : decode cX6_readVector 33 = .ok (.aload_n 0, 1) := by decide +kernel
theorem dX6_readVector_34 : decode cX6_readVector 34 = .ok (.getfield 34, 3) := by decide +kernel
theorem dX6_readVector_37 : decode cX6_readVector 37 = .ok (.aload_n 0, 1) := by decide +kernel
theorem dX6_readVector_38 : decode cX6_readVector 38 = .ok (.getfield 9, 3) := by decide +kernel
theorem dX6_readVector_41 : decode cX6_readVector 41 = .ok (.iload_n 3, 1) := by decide +kernel
theorem dX6_readVector_42 : decode cX6_readVector 42 = .ok (.aload_n 0, 1) := by decide +kernel
theorem dX6_readVector_43 : decode cX6_readVector 43 = .ok (.getfield 57, 3) := by decide +kernel
theorem dX6_readVector_46 : decode cX6_readVector 46 = .ok (.imul, 1) := by decide +kernel
theorem dX6_readVector_47 : decode cX6_readVector 47 = .ok (.iload_n 1, 1) := by decide +kernel
theorem dX6_readVector_48 : decode cX6_readVector 48 = .ok (.iadd, 1) := by decide +kernel
theorem dX6_readVector_49 : decode cX6_readVector 49 = .ok (.laload, 1) := by decide +kernel
theorem dX6_readVector_50 : decode cX6_readVector 50 = .ok (.lneg, 1) := by decide +kernel
theorem dX6_readVector_51 : decode cX6_readVector 51 = .ok (.invokevirtual 103, 3) := by decide +kernel
theorem dX6_readVector_54 : decode cX6_readVector 54 = .ok (.lastore, 1) := by decide +kernel
theorem dX6_readVector_55 : decode cX6_readVector 55 = .ok (.iinc 2 1, 3) := by decide +kernel
theorem dX6_readVector_58 : decode cX6_readVector 58 = .ok (.goto (-56), 3) := by decide +kernel
theorem dX6_readVector_61 : decode cX6_readVector 61 = .ok (.aload_n 0, 1) := by decide +kernel
theorem dX6_readVector_62 : decode cX6_readVector 62 = .ok (.getfield 28, 3) := by decide +kernel
theorem dX6_readVector_65 : decode cX6_readVector 65 = .ok (.getfield 90, 3) := by decide +kernel
theorem dX6_readVector_68 : decode cX6_readVector 68 = .ok (.iload_n 1, 1) := by decide +kernel
theorem dX6_readVector_69 : decode cX6_readVector 69 = .ok (.lconst 1, 1) := by decide +kernel
theorem dX6_readVector_70 : decode cX6_readVector 70 = .ok (.lastore, 1) := by decide +kernel
theorem dX6_readVector_71 : decode cX6_readVector 71 = .ok (.aload_n 0, 1) := by decide +kernel
theorem dX6_readVector_72 : decode cX6_readVector 72 = .ok (.getfield 28, 3) := by decide +kernel
theorem dX6_readVector_75 : decode cX6_readVector 75 = .ok (.aload_n 0, 1) := by decide +kernel
theorem dX6_readVector_76 : decode cX6_readVector 76 = .ok (.getfield 57, 3) := by decide +kernel
theorem dX6_readVector_79 : decode cX6_readVector 79 = .ok (.iconst 1, 1) := by decide +kernel
theorem dX6_readVector_80 : decode cX6_readVector 80 = .ok (.isub, 1) := by decide +kernel
theorem dX6_readVector_81 : decode cX6_readVector 81 = .ok (.invokevirtual 121, 3) := by decide +kernel
theorem dX6_readVector_84 : decode cX6_readVector 84 = .ok (.return_, 1) := by decide +kernel
theorem dX6_isOpen_0 : decode cX6_isOpen 0 = .ok (.aload_n 1, 1) := by decide +kernel
theorem dX6_isOpen_1 : decode cX6_isOpen 1 = .ok (.getfield 50, 3) := by decide +kernel
theorem dX6_isOpen_4 : decode cX6_isOpen 4 = .ok (.iconst 2, 1) := by decide +kernel
theorem dX6_isOpen_5 : decode cX6_isOpen 5 = .ok (.if_icmp .ge 5, 3) := by decide +kernel
theorem dX6_isOpen_8 : decode cX6_isOpen 8 = .ok (.iconst 0, 1) := by decide +kernel
theorem dX6_isOpen_9 : decode cX6_isOpen 9 = .ok (.ireturn, 1) := by decide +kernel
theorem dX6_isOpen_10 : decode cX6_isOpen 10 = .ok (.aload_n 0, 1) := by decide +kernel
theorem dX6_isOpen_11 : decode cX6_isOpen 11 = .ok (.getfield 31, 3) := by decide +kernel
theorem dX6_isOpen_14 : decode cX6_isOpen 14 = .ok (.aload_n 0, 1) := by decide +kernel
theorem dX6_isOpen_15 : decode cX6_isOpen 15 = .ok (.getfield 28, 3) := by decide +kernel
theorem dX6_isOpen_18 : decode cX6_isOpen 18 = .ok (.invokevirtual 46, 3) := by decide +kernel
theorem dX6_isOpen_21 : decode cX6_isOpen 21 = .ok (.aload_n 0, 1) := by decide +kernel
theorem dX6_isOpen_22 : decode cX6_isOpen 22 = .ok (.getfield 38, 3) := by decide +kernel
theorem dX6_isOpen_25 : decode cX6_isOpen 25 = .ok (.aload_n 0, 1) := by decide +kernel
theorem dX6_isOpen_26 : decode cX6_isOpen 26 = .ok (.getfield 31, 3) := by decide +kernel
theorem dX6_isOpen_29 : decode cX6_isOpen 29 = .ok (.aload_n 1, 1) := by decide +kernel
theorem dX6_isOpen_30 : decode cX6_isOpen 30 = .ok (.aload_n 0, 1) := by decide +kernel
theorem dX6_isOpen_31 : decode cX6_isOpen 31 = .ok (.getfield 38, 3) := by decide +kernel
theorem dX6_isOpen_34 : decode cX6_isOpen 34 = .ok (.getfield 124, 3) := by decide +kernel
theorem dX6_isOpen_37 : decode cX6_isOpen 37 = .ok (.invokevirtual 127, 3) := by decide +kernel
theorem dX6_isOpen_40 : decode cX6_isOpen 40 = .ok (.aload_n 0, 1) := by decide +kernel
theorem dX6_isOpen_41 : decode cX6_isOpen 41 = .ok (.getfield 31, 3) := by decide +kernel
theorem dX6_isOpen_44 : decode cX6_isOpen 44 = .ok (.getfield 50, 3) := by decide +kernel
theorem dX6_isOpen_47 : decode cX6_isOpen 47 = .ok (.ifCond .le 7, 3) := by decide +kernel
theorem dX6_isOpen_50 : decode cX6_isOpen 50 = .ok (.iconst 1, 1) := by decide +kernel
theorem dX6_isOpen_51 : decode cX6_isOpen 51 = .ok (.goto 4, 3) := by decide +kernel
theorem dX6_isOpen_54 : decode cX6_isOpen 54 = .ok (.iconst 0, 1) := by decide +kernel
theorem dX6_isOpen_55 : decode cX6_isOpen 55 = .ok (.ireturn, 1) := by decide +kernel
theorem dX6_parts_0 : decode cX6_parts 0 = .ok (.aload_n 0, 1) := by decide +kernel
theorem dX6_parts_1 : decode cX6_parts 1 = .ok (.getfield 31, 3) := by decide +kernel
theorem dX6_parts_4 : decode cX6_parts 4 = .ok (.getfield 90, 3) := by decide +kernel
theorem dX6_parts_7 : decode cX6_parts 7 = .ok (.iconst 0, 1) := by decide +kernel
theorem dX6_parts_8 : decode cX6_parts 8 = .ok (.aload_n 0, 1) := by decide +kernel
theorem dX6_parts_9 : decode cX6_parts 9 = .ok (.getfield 31, 3) := by decide +kernel
theorem dX6_parts_12 : decode cX6_parts 12 = .ok (.getfield 90, 3) := by decide +kernel
theorem dX6_parts_15 : decode cX6_parts 15 = .ok (.iconst 0, 1) := by decide +kernel
theorem dX6_parts_16 : decode cX6_parts 16 = .ok (.laload, 1) := by decide +kernel
theorem dX6_parts_17 : decode cX6_parts 17 = .ok (.iload_n 2, 1) := by decide +kernel
theorem dX6_parts_18 : decode cX6_parts 18 = .ok (.i2l, 1) := by decide +kernel
theorem dX6_parts_19 : decode cX6_parts 19 = .ok (.ladd, 1) := by decide +kernel
theorem dX6_parts_20 : decode cX6_parts 20 = .ok (.aload_n 0, 1) := by decide +kernel
theorem dX6_parts_21 : decode cX6_parts 21 = .ok (.getfield 34, 3) := by decide +kernel
theorem dX6_parts_24 : decode cX6_parts 24 = .ok (.getfield 73, 3) := by decide +kernel
theorem dX6_parts_27 : decode cX6_parts 27 = .ok (.i2l, 1) := by decide +kernel
theorem dX6_parts_28 : decode cX6_parts 28 = .ok (.lrem, 1) := by decide +kernel
theorem dX6_parts_29 : decode cX6_parts 29 = .ok (.lastore, 1) := by decide +kernel
theorem dX6_parts_30 : decode cX6_parts 30 = .ok (.aload_n 0, 1) := by decide +kernel
theorem dX6_parts_31 : decode cX6_parts 31 = .ok (.getfield 34, 3) := by decide +kernel
theorem dX6_parts_34 : decode cX6_parts 34 = .ok (.getfield 73, 3) := by decide +kernel
theorem dX6_parts_37 : decode cX6_parts 37 = .ok (.iconst 2, 1) := by decide +kernel
theorem dX6_parts_38 : decode cX6_parts 38 = .ok (.if_icmp .le 75, 3) := by decide +kernel
theorem dX6_parts_41 : decode cX6_parts 41 = .ok (.aload_n 0, 1) := by decide +kernel
theorem dX6_parts_42 : decode cX6_parts 42 = .ok (.getfield 38, 3) := by decide +kernel
theorem dX6_parts_45 : decode cX6_parts 45 = .ok (.aload_n 0, 1) := by decide +kernel
theorem dX6_parts_46 : decode cX6_parts 46 = .ok (.getfield 31, 3) := by decide +kernel
theorem dX6_parts_49 : decode cX6_parts 49 = .ok (.aload_n 0, 1) := by decide +kernel
theorem dX6_parts_50 : decode cX6_parts 50 = .ok (.getfield 34, 3) := by decide +kernel
theorem dX6_parts_53 : decode cX6_parts 53 = .ok (.getfield 73, 3) := by decide +kernel
theorem dX6_parts_56 : decode cX6_parts 56 = .ok (.iconst 1, 1) := by decide +kernel
theorem dX6_parts_57 : decode cX6_parts 57 = .ok (.isub, 1) := by decide +kernel
theorem dX6_parts_58 : decode cX6_parts 58 = .ok (.iconst 2, 1) := by decide +kernel
theorem dX6_parts_59 : decode cX6_parts 59 = .ok (.idiv, 1) := by decide +kernel
theorem dX6_parts_60 : decode cX6_parts 60 = .ok (.i2l, 1) := by decide +kernel
theorem dX6_parts_61 : decode cX6_parts 61 = .ok (.aload_n 1, 1) := by decide +kernel
theorem dX6_parts_62 : decode cX6_parts 62 = .ok (.aload_n 0, 1) := by decide +kernel
theorem dX6_parts_63 : decode cX6_parts 63 = .ok (.getfield 31, 3) := by decide +kernel
theorem dX6_parts_66 : decode cX6_parts 66 = .ok (.invokevirtual 93, 3) := by decide +kernel
theorem dX6_parts_69 : decode cX6_parts 69 = .ok (.aload_n 0, 1) := by decide +kernel
theorem dX6_parts_70 : decode cX6_parts 70 = .ok (.getfield 31, 3) := by decide +kernel
theorem dX6_parts_73 : decode cX6_parts 73 = .ok (.getfield 90, 3) := by decide +kernel
theorem dX6_parts_76 : decode cX6_parts 76 = .ok (.iconst 0, 1) := by decide +kernel
theorem dX6_parts_77 : decode cX6_parts 77 = .ok (.aload_n 0, 1) := by decide +kernel
theorem dX6_parts_78 : decode cX6_parts 78 = .ok (.getfield 34, 3) := by decide +kernel
theorem dX6_parts_81 : decode cX6_parts 81 = .ok (.aload_n 0, 1) := by decide +kernel
theorem dX6_parts_82 : decode cX6_parts 82 = .ok (.getfield 31, 3) := by decide +kernel
theorem dX6_parts_85 : decode cX6_parts 85 = .ok (.iconst 0, 1) := by decide +kernel
theorem dX6_parts_86 : decode cX6_parts 86 = .ok (.invokevirtual 99, 3) := by decide +kernel
theorem dX6_parts_89 : decode cX6_parts 89 = .ok (.lconst 1, 1) := by decide +kernel
theorem dX6_parts_90 : decode cX6_parts 90 = .ok (.lsub, 1) := by decide +kernel
theorem dX6_parts_91 : decode cX6_parts 91 = .ok (.invokevirtual 103, 3) := by decide +kernel
theorem dX6_parts_94 : decode cX6_parts 94 = .ok (.lastore, 1) := by decide +kernel
theorem dX6_parts_95 : decode cX6_parts 95 = .ok (.aload_n 0, 1) := by decide +kernel
theorem dX6_parts_96 : decode cX6_parts 96 = .ok (.getfield 31, 3) := by decide +kernel
theorem dX6_parts_99 : decode cX6_parts 99 = .ok (.iconst 0, 1) := by decide +kernel
theorem dX6_parts_100 : decode cX6_parts 100 = .ok (.aload_n 0, 1) := by decide +kernel
theorem dX6_parts_101 : decode cX6_parts 101 = .ok (.getfield 31, 3) := by decide +kernel
theorem dX6_parts_104 : decode cX6_parts 104 = .ok (.getfield 50, 3) := by decide +kernel
theorem dX6_parts_107 : decode cX6_parts 107 = .ok (.invokestatic 131, 3) := by decide +kernel
theorem dX6_parts_110 : decode cX6_parts 110 = .ok (.invokevirtual 121, 3) := by decide +kernel
theorem dX6_parts_113 : decode cX6_parts 113 = .ok (.aload_n 0, 1) := by decide +kernel
theorem dX6_parts_114 : decode cX6_parts 114 = .ok (.getfield 38, 3) := by decide +kernel
theorem dX6_parts_117 : decode cX6_parts 117 = .ok (.aload_n 0, 1) := by decide +kernel
theorem dX6_parts_118 : decode cX6_parts 118 = .ok (.getfield 31, 3) := by decide +kernel
theorem dX6_parts_121 : decode cX6_parts 121 = .ok (.aload_n 1, 1) := by decide +kernel
theorem dX6_parts_122 : decode cX6_parts 122 = .ok (.aload_n 0, 1) := by decide +kernel
theorem dX6_parts_123 : decode cX6_parts 123 = .ok (.getfield 31, 3) := by decide +kernel
theorem dX6_parts_126 : decode cX6_parts 126 = .ok (.invokevirtual 134, 3) := by decide +kernel
theorem dX6_parts_129 : decode cX6_parts 129 = .ok (.aload_n 0, 1) := by decide +kernel
theorem dX6_parts_130 : decode cX6_parts 130 = .ok (.getfield 31, 3) := by decide +kernel
theorem dX6_parts_133 : decode cX6_parts 133 = .ok (.getfield 50, 3) := by decide +kernel
theorem dX6_parts_136 : decode cX6_parts 136 = .ok (.iconst 1, 1) := by decide +kernel
theorem dX6_parts_137 : decode cX6_parts 137 = .ok (.if_icmp .lt 17, 3) := by decide +kernel
theorem dX6_parts_140 : decode cX6_parts 140 = .ok (.aload_n 0, 1) := by decide +kernel
theorem dX6_parts_141 : decode cX6_parts 141 = .ok (.getfield 31, 3) := by decide +kernel
theorem dX6_parts_144 : decode cX6_parts 144 = .ok (.getfield 50, 3) := by decide +kernel
theorem dX6_parts_147 : decode cX6_parts 147 = .ok (.aload_n 1, 1) := by decide +kernel
theorem dX6_parts_148 : decode cX6_parts 148 = .ok (.getfield 50, 3) := by decide +kernel
theorem dX6_parts_151 : decode cX6_parts 151 = .ok (.if_icmp .lt 5, 3) := by decide +kernel
theorem dX6_parts_154 : decode cX6_parts 154 = .ok (.iconst 0, 1) := by decide +kernel
theorem dX6_parts_155 : decode cX6_parts 155 = .ok (.ireturn, 1) := by decide +kernel
theorem dX6_parts_156 : decode cX6_parts 156 = .ok (.aload_n 0, 1) := by decide +kernel
theorem dX6_parts_157 : decode cX6_parts 157 = .ok (.getfield 38, 3) := by decide +kernel
theorem dX6_parts_160 : decode cX6_parts 160 = .ok (.aload_n 1, 1) := by decide +kernel
theorem dX6_parts_161 : decode cX6_parts 161 = .ok (.aload_n 0, 1) := by decide +kernel
theorem dX6_parts_162 : decode cX6_parts 162 = .ok (.getfield 31, 3) := by decide +kernel
theorem dX6_parts_165 : decode cX6_parts 165 = .ok (.aload_n 3, 1) := by decide +kernel
theorem dX6_parts_166 : decode cX6_parts 166 = .ok (.invokevirtual 127, 3) := by decide +kernel
theorem dX6_parts_169 : decode cX6_parts 169 = .ok (.aload_n 1, 1) := by decide +kernel
theorem dX6_parts_170 : decode cX6_parts 170 = .ok (.aload_n 0, 1) := by decide +kernel
theorem dX6_parts_171 : decode cX6_parts 171 = .ok (.getfield 31, 3) := by decide +kernel
theorem dX6_parts_174 : decode cX6_parts 174 = .ok (.invokevirtual 46, 3) := by decide +kernel
theorem dX6_parts_177 : decode cX6_parts 177 = .ok (.iconst 1, 1) := by decide +kernel
theorem dX6_parts_178 : decode cX6_parts 178 = .ok (.ireturn, 1) := by decide +kernel
theorem dX7_init_0 : decode cX7_init 0 = .ok (.aload_n 0, 1) := by decide +kernel
theorem dX7_init_1 : decode cX7_init 1 = .ok (.invokespecial 3, 3) := by decide +kernel
theorem dX7_init_4 : decode cX7_init 4 = .ok (.aload_n 0, 1) := by decide +kernel
theorem dX7_init_5 : decode cX7_init 5 = .ok (.sipush 144, 3) := by decide +kernel
theorem dX7_init_8 : decode cX7_init 8 = .ok (.anewarray 9, 3) := by decide +kernel
theorem dX7_init_11 : decode cX7_init 11 = .ok (.putfield 11, 3) := by decide +kernel
theorem dX7_init_14 : decode cX7_init 14 = .ok (.aload_n 0, 1) := by decide +kernel
theorem dX7_init_15 : decode cX7_init 15 = .ok (.new 9, 3) := by decide +kernel
theorem dX7_init_18 : decode cX7_init 18 = .ok (.dup, 1) := by decide +kernel
theorem dX7_init_19 : decode cX7_init 19 = .ok (.sipush 160, 3) := by decide +kernel
theorem dX7_init_22 : decode cX7_init 22 = .ok (.invokespecial 17, 3) := by decide +kernel
theorem dX7_init_25 : decode cX7_init 25 = .ok (.putfield 20, 3) := by decide +kernel
theorem dX7_init_28 : decode cX7_init 28 = .ok (.aload_n 0, 1) := by decide +kernel
theorem dX7_init_29 : decode cX7_init 29 = .ok (.new 9, 3) := by decide +kernel
theorem dX7_init_32 : decode cX7_init 32 = .ok (.dup, 1) := by decide +kernel
theorem dX7_init_33 : decode cX7_init 33 = .ok (.sipush 160, 3) := by decide +kernel
theorem dX7_init_36 : decode cX7_init 36 = .ok (.invokespecial 17, 3) := by decide +kernel
theorem dX7_init_39 : decode cX7_init 39 = .ok (.putfield 24, 3) := by decide +kernel
theorem dX7_init_42 : decode cX7_init 42 = .ok (.aload_n 0, 1) := by decide +kernel
theorem dX7_init_43 : decode cX7_init 43 = .ok (.new 9, 3) := by decide +kernel
theorem dX7_init_46 : decode cX7_init 46 = .ok (.dup, 1) := by decide +kernel
theorem dX7_init_47 : decode cX7_init 47 = .ok (.iconst 1, 1) := by decide +kernel
theorem dX7_init_48 : decode cX7_init 48 = .ok (.invokespecial 17, 3) := by decide +kernel
theorem dX7_init_51 : decode cX7_init 51 = .ok (.putfield 27, 3) := by decide +kernel
theorem dX7_init_54 : decode cX7_init 54 = .ok (.aload_n 0, 1) := by decide +kernel
theorem dX7_init_55 : decode cX7_init 55 = .ok (.aload_n 1, 1) := by decide +kernel
theorem dX7_init_56 : decode cX7_init 56 = .ok (.putfield 30, 3) := by decide +kernel
theorem dX7_init_59 : decode cX7_init 59 = .ok (.aload_n 0, 1) := by decide +kernel
theorem dX7_init_60 : decode cX7_init 60 = .ok (.aload_n 2, 1) := by decide +kernel
theorem dX7_init_61 : decode cX7_init 61 = .ok (.putfield 34, 3) := by decide +kernel
theorem dX7_init_64 : decode cX7_init 64 = .ok (.aload_n 0, 1) := by decide +kernel
theorem dX7_init_65 : decode cX7_init 65 = .ok (.getfield 27, 3) := by decide +kernel
theorem dX7_init_68 : decode cX7_init 68 = .ok (.lconst 1, 1) := by decide +kernel
theorem dX7_init_69 : decode cX7_init 69 = .ok (.invokevirtual 38, 3) := by decide +kernel
theorem dX7_init_72 : decode cX7_init 72 = .ok (.return_, 1) := by decide +kernel
theorem dX7_cell_0 : decode cX7_cell 0 = .ok (.aload_n 0, 1) := by decide +kernel
theorem dX7_cell_1 : decode cX7_cell 1 = .ok (.getfield 11, 3) := by decide +kernel
theorem dX7_cell_4 : decode cX7_cell 4 = .ok (.iload_n 1, 1) := by decide +kernel
theorem dX7_cell_5 : decode cX7_cell 5 = .ok (.aload_n 0, 1) := by decide +kernel
theorem dX7_cell_6 : decode cX7_cell 6 = .ok (.getfield 42, 3) := by decide +kernel
theorem dX7_cell_9 : decode cX7_cell 9 = .ok (.imul, 1) := by decide +kernel
theorem dX7_cell_10 : decode cX7_cell 10 = .ok (.iload_n 2, 1) := by decide +kernel
theorem dX7_cell_11 : decode cX7_cell 11 = .ok (.iadd, 1) := by decide +kernel
theorem dX7_cell_12 : decode cX7_cell 12 = .ok (.invokestatic 46, 3) := by decide +kernel
theorem dX7_cell_15 : decode cX7_cell 15 = .ok (.areturn, 1) := by decide +kernel
theorem dX7_fill_0 : decode cX7_fill 0 = .ok (.aload_n 0, 1) := by decide +kernel
theorem dX7_fill_1 : decode cX7_fill 1 = .ok (.aload_n 1, 1) := by decide +kernel
theorem dX7_fill_2 : decode cX7_fill 2 = .ok (.getfield 50, 3) := by decide +kernel
theorem dX7_fill_5 : decode cX7_fill 5 = .ok (.aload_n 2, 1) := by decide +kernel
theorem dX7_fill_6 : decode cX7_fill 6 = .ok (.getfield 50, 3) := by decide +kernel
theorem dX7_fill_9 : decode cX7_fill 9 = .ok (.iadd, 1) := by decide +kernel
theorem dX7_fill_10 : decode cX7_fill 10 = .ok (.putfield 42, 3) := by decide +kernel
theorem dX7_fill_13 : decode cX7_fill 13 = .ok (.iconst 0, 1) := by decide +kernel
theorem dX7_fill_14 : decode cX7_fill 14 = .ok (.istore_n 3, 1) := by decide +kernel
theorem dX7_fill_15 : decode cX7_fill 15 = .ok (.iload_n 3, 1) := by decide +kernel
theorem dX7_fill_16 : decode cX7_fill 16 = .ok (.aload_n 0, 1) := by decide +kernel
theorem dX7_fill_17 : decode cX7_fill 17 = .ok (.getfield 42, 3) := by decide +kernel
theorem dX7_fill_20 : decode cX7_fill 20 = .ok (.if_icmp .ge 127, 3) := by decide +kernel
theorem dX7_fill_23 : decode cX7_fill 23 = .ok (.iload_n 3, 1) := by decide +kernel
theorem dX7_fill_24 : decode cX7_fill 24 = .ok (.aload_n 2, 1) := by decide +kernel
theorem dX7_fill_25 : decode cX7_fill 25 = .ok (.getfield 50, 3) := by decide +kernel
theorem dX7_fill_28 : decode cX7_fill 28 = .ok (.if_icmp .ge 7, 3) := by decide +kernel
theorem dX7_fill_31 : decode cX7_fill 31 = .ok (.iconst 1, 1) := by decide +kernel
theorem dX7_fill_32 : decode cX7_fill 32 = .ok (.goto 4, 3) := by decide +kernel
theorem dX7_fill_35 : decode cX7_fill 35 = .ok (.iconst 0, 1) := by decide +kernel
theorem dX7_fill_36 : decode cX7_fill 36 = .ok (.istore 4, 2) := by decide +kernel
theorem dX7_fill_38 : decode cX7_fill 38 = .ok (.iload 4, 2) := by decide +kernel
theorem dX7_fill_40 : decode cX7_fill 40 = .ok (.ifCond .eq 7, 3) := by decide +kernel
theorem dX7_fill_43 : decode cX7_fill 43 = .ok (.aload_n 1, 1) := by decide +kernel
theorem dX7_fill_44 : decode cX7_fill 44 = .ok (.goto 4, 3) := by decide +kernel
theorem dX7_fill_47 : decode cX7_fill 47 = .ok (.aload_n 2, 1) := by decide +kernel
theorem dX7_fill_48 : decode cX7_fill 48 = .ok (.astore 5, 2) := by decide +kernel
theorem dX7_fill_50 : decode cX7_fill 50 = .ok (.iload 4, 2) := by decide +kernel
theorem dX7_fill_52 : decode cX7_fill 52 = .ok (.ifCond .eq 7, 3) := by decide +kernel
theorem dX7_fill_55 : decode cX7_fill 55 = .ok (.iload_n 3, 1) := by decide +kernel
theorem dX7_fill_56 : decode cX7_fill 56 = .ok (.goto 9, 3) := by decide +kernel
theorem dX7_fill_59 : decode cX7_fill 59 = .ok (.iload_n 3, 1) := by decide +kernel
theorem dX7_fill_60 : decode cX7_fill 60 = .ok (.aload_n 2, 1) := by decide +kernel
theorem dX7_fill_61 : decode cX7_fill 61 = .ok (.getfield 50, 3) := by decide +kernel
theorem dX7_fill_64 : decode cX7_fill 64 = .ok (.isub, 1) := by decide +kernel
theorem dX7_fill_65 : decode cX7_fill 65 = .ok (.istore 6, 2) := by decide +kernel
theorem dX7_fill_67 : decode cX7_fill 67 = .ok (.iconst 0, 1) := by decide +kernel
theorem dX7_fill_68 : decode cX7_fill 68 = .ok (.istore 7, 2) := by decide +kernel
theorem dX7_fill_70 : decode cX7_fill 70 = .ok (.iload 7, 2) := by decide +kernel
theorem dX7_fill_72 : decode cX7_fill 72 = .ok (.aload_n 0, 1) := by decide +kernel
theorem dX7_fill_73 : decode cX7_fill 73 = .ok (.getfield 42, 3) := by decide +kernel
theorem dX7_fill_76 : decode cX7_fill 76 = .ok (.if_icmp .ge 65, 3) := by decide +kernel
theorem dX7_fill_79 : decode cX7_fill 79 = .ok (.aload 5, 2) := by decide +kernel
theorem dX7_fill_81 : decode cX7_fill 81 = .ok (.getfield 50, 3) := by decide +kernel
theorem dX7_fill_84 : decode cX7_fill 84 = .ok (.iload 7, 2) := by decide +kernel
theorem dX7_fill_86 : decode cX7_fill 86 = .ok (.iload 6, 2) := by decide +kernel
theorem dX7_fill_88 : decode cX7_fill 88 = .ok (.isub, 1) := by decide +kernel
theorem dX7_fill_89 : decode cX7_fill 89 = .ok (.isub, 1) := by decide +kernel
theorem dX7_fill_90 : decode cX7_fill 90 = .ok (.istore 8, 2) := by decide +kernel
theorem dX7_fill_92 : decode cX7_fill 92 = .ok (.iload 8, 2) := by decide +kernel
theorem dX7_fill_94 : decode cX7_fill 94 = .ok (.ifCond .lt 13, 3) := by decide +kernel
theorem dX7_fill_97 : decode cX7_fill 97 = .ok (.iload 8, 2) := by decide +kernel
theorem dX7_fill_99 : decode cX7_fill 99 = .ok (.aload 5, 2) := by decide +kernel
theorem dX7_fill_101 : decode cX7_fill 101 = .ok (.getfield 50, 3) := by decide +kernel
theorem dX7_fill_104 : decode cX7_fill 104 = .ok (.if_icmp .le 17, 3) := by decide +kernel
theorem dX7_fill_107 : decode cX7_fill 107 = .ok (.aload_n 0, 1) := by decide +kernel
theorem dX7_fill_108 : decode cX7_fill 108 = .ok (.iload_n 3, 1) := by decide +kernel
theorem dX7_fill_109 : decode cX7_fill 109 = .ok (.iload 7, 2) := by decide +kernel
theorem dX7_fill_111 : decode cX7_fill 111 = .ok (.invokevirtual 55, 3) := by decide +kernel
theorem dX7_fill_114 : decode cX7_fill 114 = .ok (.lconst 0, 1) := by decide +kernel
theorem dX7_fill_115 : decode cX7_fill 115 = .ok (.invokevirtual 38, 3) := by decide +kernel
theorem dX7_fill_118 : decode cX7_fill 118 = .ok (.goto 17, 3) := by decide +kernel
theorem dX7_fill_121 : decode cX7_fill 121 = .ok (.aload 5, 2) := by decide +kernel
theorem dX7_fill_123 : decode cX7_fill 123 = .ok (.iload 8, 2) := by decide +kernel
theorem dX7_fill_125 : decode cX7_fill 125 = .ok (.aload_n 0, 1) := by decide +kernel
theorem dX7_fill_126 : decode cX7_fill 126 = .ok (.iload_n 3, 1) := by decide +kernel
theorem dX7_fill_127 : decode cX7_fill 127 = .ok (.iload 7, 2) := by decide +kernel
theorem dX7_fill_129 : decode cX7_fill 129 = .ok (.invokevirtual 55, 3) := by decide +kernel
theorem dX7_fill_132 : decode cX7_fill 132 = .ok (.invokevirtual 59, 3) := by decide +kernel
theorem dX7_fill_135 : decode cX7_fill 135 = .ok (.iinc 7 1, 3) := by decide +kernel
theorem dX7_fill_138 : decode cX7_fill 138 = .ok (.goto (-68), 3) := by decide +kernel
theorem dX7_fill_141 : decode cX7_fill 141 = .ok (.iinc 3 1, 3) := by decide +kernel
theorem dX7_fill_144 : decode cX7_fill 144 = .ok (.goto (-129), 3) := by decide +kernel
theorem dX7_fill_147 : decode cX7_fill 147 = .ok (.return_, 1) := by decide +kernel
theorem dX7_determinant_0 : decode cX7_determinant 0 = .ok (.aload_n 0, 1) := by decide +kernel
theorem dX7_determinant_1 : decode cX7_determinant 1 = .ok (.getfield 27, 3) := by decide +kernel
theorem dX7_determinant_4 : decode cX7_determinant 4 = .ok (.astore_n 2, 1) := by decide +kernel
theorem dX7_determinant_5 : decode cX7_determinant 5 = .ok (.iconst 1, 1) := by decide +kernel
theorem dX7_determinant_6 : decode cX7_determinant 6 = .ok (.istore_n 3, 1) := by decide +kernel
theorem dX7_determinant_7 : decode cX7_determinant 7 = .ok (.iconst 0, 1) := by decide +kernel
theorem dX7_determinant_8 : decode cX7_determinant 8 = .ok (.istore 4, 2) := by decide +kernel
theorem dX7_determinant_10 : decode cX7_determinant 10 = .ok (.iload 4, 2) := by decide +kernel
theorem dX7_determinant_12 : decode cX7_determinant 12 = .ok (.iconst 1, 1) := by decide +kernel
theorem dX7_determinant_13 : decode cX7_determinant 13 = .ok (.iadd, 1) := by decide +kernel
theorem dX7_determinant_14 : decode cX7_determinant 14 = .ok (.aload_n 0, 1) := by decide +kernel
theorem dX7_determinant_15 : decode cX7_determinant 15 = .ok (.getfield 42, 3) := by decide +kernel
theorem dX7_determinant_18 : decode cX7_determinant 18 = .ok (.if_icmp .ge 62, 3) := by decide +kernel
theorem dX7_determinant_21 : decode cX7_determinant 21 = .ok (.aload_n 0, 1) := by decide +kernel
theorem dX7_determinant_22 : decode cX7_determinant 22 = .ok (.iload 4, 2) := by decide +kernel
theorem dX7_determinant_24 : decode cX7_determinant 24 = .ok (.invokevirtual 63, 3) := by decide +kernel
theorem dX7_determinant_27 : decode cX7_determinant 27 = .ok (.istore 5, 2) := by decide +kernel
theorem dX7_determinant_29 : decode cX7_determinant 29 = .ok (.iload 5, 2) := by decide +kernel
theorem dX7_determinant_31 : decode cX7_determinant 31 = .ok (.ifCond .ge 9, 3) := by decide +kernel
theorem dX7_determinant_34 : decode cX7_determinant 34 = .ok (.aload_n 1, 1) := by decide +kernel
theorem dX7_determinant_35 : decode cX7_determinant 35 = .ok (.lconst 0, 1) := by decide +kernel
theorem dX7_determinant_36 : decode cX7_determinant 36 = .ok (.invokevirtual 38, 3) := by decide +kernel
theorem dX7_determinant_39 : decode cX7_determinant 39 = .ok (.return_, 1) := by decide +kernel
theorem dX7_determinant_40 : decode cX7_determinant 40 = .ok (.iload 5, 2) := by decide +kernel
theorem dX7_determinant_42 : decode cX7_determinant 42 = .ok (.iload 4, 2) := by decide +kernel
theorem dX7_determinant_44 : decode cX7_determinant 44 = .ok (.if_icmp .eq 14, 3) := by decide +kernel
theorem dX7_determinant_47 : decode cX7_determinant 47 = .ok (.aload_n 0, 1) := by decide +kernel
theorem dX7_determinant_48 : decode cX7_determinant 48 = .ok (.iload 5, 2) := by decide +kernel
theorem dX7_determinant_50 : decode cX7_determinant 50 = .ok (.iload 4, 2) := by decide +kernel
theorem dX7_determinant_52 : decode cX7_determinant 52 = .ok (.invokevirtual 67, 3) := by decide +kernel
theorem dX7_determinant_55 : decode cX7_determinant 55 = .ok (.iload_n 3, 1) := by decide +kernel
theorem dX7_determinant_56 : decode cX7_determinant 56 = .ok (.ineg, 1) := by decide +kernel
theorem dX7_determinant_57 : decode cX7_determinant 57 = .ok (.istore_n 3, 1) := by decide +kernel
theorem dX7_determinant_58 : decode cX7_determinant 58 = .ok (.aload_n 0, 1) := by decide +kernel
theorem dX7_determinant_59 : decode cX7_determinant 59 = .ok (.iload 4, 2) := by decide +kernel
theorem dX7_determinant_61 : decode cX7_determinant 61 = .ok (.aload_n 2, 1) := by decide +kernel
theorem dX7_determinant_62 : decode cX7_determinant 62 = .ok (.invokevirtual 71, 3) := by decide +kernel
theorem dX7_determinant_65 : decode cX7_determinant 65 = .ok (.aload_n 0, 1) := by decide +kernel
theorem dX7_determinant_66 : decode cX7_determinant 66 = .ok (.iload 4, 2) := by decide +kernel
theorem dX7_determinant_68 : decode cX7_determinant 68 = .ok (.iload 4, 2) := by decide +kernel
theorem dX7_determinant_70 : decode cX7_determinant 70 = .ok (.invokevirtual 55, 3) := by decide +kernel
theorem dX7_determinant_73 : decode cX7_determinant 73 = .ok (.astore_n 2, 1) := by decide +kernel
theorem dX7_determinant_74 : decode cX7_determinant 74 = .ok (.iinc 4 1, 3) := by decide +kernel
theorem dX7_determinant_77 : decode cX7_determinant 77 = .ok (.goto (-67), 3) := by decide +kernel
theorem dX7_determinant_80 : decode cX7_determinant 80 = .ok (.aload_n 0, 1) := by decide +kernel
theorem dX7_determinant_81 : decode cX7_determinant 81 = .ok (.getfield 34, 3) := by decide +kernel
theorem dX7_determinant_84 : decode cX7_determinant 84 = .ok (.aload_n 0, 1) := by decide +kernel
theorem dX7_determinant_85 : decode cX7_determinant 85 = .ok (.aload_n 0, 1) := by decide +kernel
theorem dX7_determinant_86 : decode cX7_determinant 86 = .ok (.getfield 42, 3) := by decide +kernel
theorem dX7_determinant_89 : decode cX7_determinant 89 = .ok (.iconst 1, 1) := by decide +kernel
theorem dX7_determinant_90 : decode cX7_determinant 90 = .ok (.isub, 1) := by decide +kernel
theorem dX7_determinant_91 : decode cX7_determinant 91 = .ok (.aload_n 0, 1) := by decide +kernel
theorem dX7_determinant_92 : decode cX7_determinant 92 = .ok (.getfield 42, 3) := by decide +kernel
theorem dX7_determinant_95 : decode cX7_determinant 95 = .ok (.iconst 1, 1) := by decide +kernel
theorem dX7_determinant_96 : decode cX7_determinant 96 = .ok (.isub, 1) := by decide +kernel
theorem dX7_determinant_97 : decode cX7_determinant 97 = .ok (.invokevirtual 55, 3) := by decide +kernel
theorem dX7_determinant_100 : decode cX7_determinant 100 = .ok (.iload_n 3, 1) := by decide +kernel
theorem dX7_determinant_101 : decode cX7_determinant 101 = .ok (.i2l, 1) := by decide +kernel
theorem dX7_determinant_102 : decode cX7_determinant 102 = .ok (.aload_n 1, 1) := by decide +kernel
theorem dX7_determinant_103 : decode cX7_determinant 103 = .ok (.invokevirtual 74, 3) := by decide +kernel
theorem dX7_determinant_106 : decode cX7_determinant 106 = .ok (.return_, 1) := by decide +kernel
theorem dX7_pivotRow_0 : decode cX7_pivotRow 0 = .ok (.iload_n 1, 1) := by decide +kernel
theorem dX7_pivotRow_1 : decode cX7_pivotRow 1 = .ok (.istore_n 2, 1) := by decide +kernel
theorem dX7_pivotRow_2 : decode cX7_pivotRow 2 = .ok (.iload_n 2, 1) := by decide +kernel
theorem dX7_pivotRow_3 : decode cX7_pivotRow 3 = .ok (.aload_n 0, 1) := by decide +kernel
theorem dX7_pivotRow_4 : decode cX7_pivotRow 4 = .ok (.getfield 42, 3) := by decide +kernel
theorem dX7_pivotRow_7 : decode cX7_pivotRow 7 = .ok (.if_icmp .ge 23, 3) := by decide +kernel
theorem dX7_pivotRow_10 : decode cX7_pivotRow 10 = .ok (.aload_n 0, 1) := by decide +kernel
theorem dX7_pivotRow_11 : decode cX7_pivotRow 11 = .ok (.iload_n 2, 1) := by decide +kernel
theorem dX7_pivotRow_12 : decode cX7_pivotRow 12 = .ok (.iload_n 1, 1) := by decide +kernel
theorem dX7_pivotRow_13 : decode cX7_pivotRow 13 = .ok (.invokevirtual 55, 3) := by decide +kernel
theorem dX7_pivotRow_16 : decode cX7_pivotRow 16 = .ok (.getfield 80, 3) := by decide +kernel
theorem dX7_pivotRow_19 : decode cX7_pivotRow 19 = .ok (.ifCond .lt 5, 3) := by decide +kernel
theorem dX7_pivotRow_22 : decode cX7_pivotRow 22 = .ok (.iload_n 2, 1) := by decide +kernel
theorem dX7_pivotRow_23 : decode cX7_pivotRow 23 = .ok (.ireturn, 1) := by decide +kernel
theorem dX7_pivotRow_24 : decode cX7_pivotRow 24 = .ok (.iinc 2 1, 3) := by decide +kernel
theorem dX7_pivotRow_27 : decode cX7_pivotRow 27 = .ok (.goto (-25), 3) := by decide +kernel
theorem dX7_pivotRow_30 : decode cX7_pivotRow 30 = .ok (.iconst (-1), 1) := by decide +kernel
theorem dX7_pivotRow_31 : decode cX7_pivotRow 31 = .ok (.ireturn, 1) := by decide +kernel
theorem dX7_swapRows_0 : decode cX7_swapRows 0 = .ok (.iconst 0, 1) := by decide +kernel
theorem dX7_swapRows_1 : decode cX7_swapRows 1 = .ok (.istore_n 3, 1) := by decide +kernel
theorem dX7_swapRows_2 : decode cX7_swapRows 2 = .ok (.iload_n 3, 1) := by decide +kernel
theorem dX7_swapRows_3 : decode cX7_swapRows 3 = .ok (.aload_n 0, 1) := by decide +kernel
theorem dX7_swapRows_4 : decode cX7_swapRows 4 = .ok (.getfield 42, 3) := by decide +kernel
theorem dX7_swapRows_7 : decode cX7_swapRows 7 = .ok (.if_icmp .ge 61, 3) := by decide +kernel
theorem dX7_swapRows_10 : decode cX7_swapRows 10 = .ok (.iload_n 1, 1) := by decide +kernel
theorem dX7_swapRows_11 : decode cX7_swapRows 11 = .ok (.aload_n 0, 1) := by decide +kernel
theorem dX7_swapRows_12 : decode cX7_swapRows 12 = .ok (.getfield 42, 3) := by decide +kernel
theorem dX7_swapRows_15 : decode cX7_swapRows 15 = .ok (.imul, 1) := by decide +kernel
theorem dX7_swapRows_16 : decode cX7_swapRows 16 = .ok (.iload_n 3, 1) := by decide +kernel
theorem dX7_swapRows_17 : decode cX7_swapRows 17 = .ok (.iadd, 1) := by decide +kernel
theorem dX7_swapRows_18 : decode cX7_swapRows 18 = .ok (.istore 4, 2) := by decide +kernel
theorem dX7_swapRows_20 : decode cX7_swapRows 20 = .ok (.iload_n 2, 1) := by decide +kernel
theorem dX7_swapRows_21 : decode cX7_swapRows 21 = .ok (.aload_n 0, 1) := by decide +kernel
theorem dX7_swapRows_22 : decode cX7_swapRows 22 = .ok (.getfield 42, 3) := by decide +kernel
theorem dX7_swapRows_25 : decode cX7_swapRows 25 = .ok (.imul, 1) := by decide +kernel
theorem dX7_swapRows_26 : decode cX7_swapRows 26 = .ok (.iload_n 3, 1) := by decide +kernel
theorem dX7_swapRows_27 : decode cX7_swapRows 27 = .ok (.iadd, 1) := by decide +kernel
theorem dX7_swapRows_28 : decode cX7_swapRows 28 = .ok (.istore 5, 2) := by decide +kernel
theorem dX7_swapRows_30 : decode cX7_swapRows 30 = .ok (.aload_n 0, 1) := by decide +kernel
theorem dX7_swapRows_31 : decode cX7_swapRows 31 = .ok (.getfield 11, 3) := by decide +kernel
theorem dX7_swapRows_34 : decode cX7_swapRows 34 = .ok (.iload 4, 2) := by decide +kernel
theorem dX7_swapRows_36 : decode cX7_swapRows 36 = .ok (.aaload, 1) := by decide +kernel
theorem dX7_swapRows_37 : decode cX7_swapRows 37 = .ok (.astore 6, 2) := by decide +kernel
theorem dX7_swapRows_39 : decode cX7_swapRows 39 = .ok (.aload_n 0, 1) := by decide +kernel
theorem dX7_swapRows_40 : decode cX7_swapRows 40 = .ok (.getfield 11, 3) := by decide +kernel
theorem dX7_swapRows_43 : decode cX7_swapRows 43 = .ok (.iload 4, 2) := by decide +kernel
theorem dX7_swapRows_45 : decode cX7_swapRows 45 = .ok (.aload_n 0, 1) := by decide +kernel
theorem dX7_swapRows_46 : decode cX7_swapRows 46 = .ok (.getfield 11, 3) := by decide +kernel
theorem dX7_swapRows_49 : decode cX7_swapRows 49 = .ok (.iload 5, 2) := by decide +kernel
theorem dX7_swapRows_51 : decode cX7_swapRows 51 = .ok (.aaload, 1) := by decide +kernel
theorem dX7_swapRows_52 : decode cX7_swapRows 52 = .ok (.aastore, 1) := by decide +kernel
theorem dX7_swapRows_53 : decode cX7_swapRows 53 = .ok (.aload_n 0, 1) := by decide +kernel
theorem dX7_swapRows_54 : decode cX7_swapRows 54 = .ok (.getfield 11, 3) := by decide +kernel
theorem dX7_swapRows_57 : decode cX7_swapRows 57 = .ok (.iload 5, 2) := by decide +kernel
theorem dX7_swapRows_59 : decode cX7_swapRows 59 = .ok (.aload 6, 2) := by decide +kernel
theorem dX7_swapRows_61 : decode cX7_swapRows 61 = .ok (.aastore, 1) := by decide +kernel
theorem dX7_swapRows_62 : decode cX7_swapRows 62 = .ok (.iinc 3 1, 3) := by decide +kernel
theorem dX7_swapRows_65 : decode cX7_swapRows 65 = .ok (.goto (-63), 3) := by decide +kernel
theorem dX7_swapRows_68 : decode cX7_swapRows 68 = .ok (.return_, 1) := by decide +kernel
theorem dX7_eliminate_0 : decode cX7_eliminate 0 = .ok (.iload_n 1, 1) := by decide +kernel
theorem dX7_eliminate_1 : decode cX7_eliminate 1 = .ok (.iconst 1, 1) := by decide +kernel
theorem dX7_eliminate_2 : decode cX7_eliminate 2 = .ok (.iadd, 1) := by decide +kernel
theorem dX7_eliminate_3 : decode cX7_eliminate 3 = .ok (.istore_n 3, 1) := by decide +kernel
theorem dX7_eliminate_4 : decode cX7_eliminate 4 = .ok (.iload_n 3, 1) := by decide +kernel
theorem dX7_eliminate_5 : decode cX7_eliminate 5 = .ok (.aload_n 0, 1) := by decide +kernel
theorem dX7_eliminate_6 : decode cX7_eliminate 6 = .ok (.getfield 42, 3) := by decide +kernel
theorem dX7_eliminate_9 : decode cX7_eliminate 9 = .ok (.if_icmp .ge 99, 3) := by decide +kernel
theorem dX7_eliminate_12 : decode cX7_eliminate 12 = .ok (.iload_n 1, 1) := by decide +kernel
theorem dX7_eliminate_13 : decode cX7_eliminate 13 = .ok (.iconst 1, 1) := by decide +kernel
theorem dX7_eliminate_14 : decode cX7_eliminate 14 = .ok (.iadd, 1) := by decide +kernel
theorem dX7_eliminate_15 : decode cX7_eliminate 15 = .ok (.istore 4, 2) := by decide +kernel
theorem dX7_eliminate_17 : decode cX7_eliminate 17 = .ok (.iload 4, 2) := by decide +kernel
theorem dX7_eliminate_19 : decode cX7_eliminate 19 = .ok (.aload_n 0, 1) := by decide +kernel
theorem dX7_eliminate_20 : decode cX7_eliminate 20 = .ok (.getfield 42, 3) := by decide +kernel
theorem dX7_eliminate_23 : decode cX7_eliminate 23 = .ok (.if_icmp .ge 79, 3) := by decide +kernel
theorem dX7_eliminate_26 : decode cX7_eliminate 26 = .ok (.aload_n 0, 1) := by decide +kernel
theorem dX7_eliminate_27 : decode cX7_eliminate 27 = .ok (.iload_n 3, 1) := by decide +kernel
theorem dX7_eliminate_28 : decode cX7_eliminate 28 = .ok (.iload 4, 2) := by decide +kernel
theorem dX7_eliminate_30 : decode cX7_eliminate 30 = .ok (.invokevirtual 55, 3) := by decide +kernel
theorem dX7_eliminate_33 : decode cX7_eliminate 33 = .ok (.astore 5, 2) := by decide +kernel
theorem dX7_eliminate_35 : decode cX7_eliminate 35 = .ok (.aload_n 0, 1) := by decide +kernel
theorem dX7_eliminate_36 : decode cX7_eliminate 36 = .ok (.getfield 34, 3) := by decide +kernel
theorem dX7_eliminate_39 : decode cX7_eliminate 39 = .ok (.aload 5, 2) := by decide +kernel
theorem dX7_eliminate_41 : decode cX7_eliminate 41 = .ok (.aload_n 0, 1) := by decide +kernel
theorem dX7_eliminate_42 : decode cX7_eliminate 42 = .ok (.iload_n 1, 1) := by decide +kernel
theorem dX7_eliminate_43 : decode cX7_eliminate 43 = .ok (.iload_n 1, 1) := by decide +kernel
theorem dX7_eliminate_44 : decode cX7_eliminate 44 = .ok (.invokevirtual 55, 3) := by decide +kernel
theorem dX7_eliminate_47 : decode cX7_eliminate 47 = .ok (.aload_n 0, 1) := by decide +kernel
theorem dX7_eliminate_48 : decode cX7_eliminate 48 = .ok (.getfield 20, 3) := by decide +kernel
theorem dX7_eliminate_51 : decode cX7_eliminate 51 = .ok (.invokevirtual 83, 3) := by decide +kernel
theorem dX7_eliminate_54 : decode cX7_eliminate 54 = .ok (.aload_n 0, 1) := by decide +kernel
theorem dX7_eliminate_55 : decode cX7_eliminate 55 = .ok (.aload_n 0, 1) := by decide +kernel
theorem dX7_eliminate_56 : decode cX7_eliminate 56 = .ok (.iload_n 3, 1) := by decide +kernel
theorem dX7_eliminate_57 : decode cX7_eliminate 57 = .ok (.iload_n 1, 1) := by decide +kernel
theorem dX7_eliminate_58 : decode cX7_eliminate 58 = .ok (.invokevirtual 55, 3) := by decide +kernel
theorem dX7_eliminate_61 : decode cX7_eliminate 61 = .ok (.aload_n 0, 1) := by decide +kernel
theorem dX7_eliminate_62 : decode cX7_eliminate 62 = .ok (.iload_n 1, 1) := by decide +kernel
theorem dX7_eliminate_63 : decode cX7_eliminate 63 = .ok (.iload 4, 2) := by decide +kernel
theorem dX7_eliminate_65 : decode cX7_eliminate 65 = .ok (.invokevirtual 55, 3) := by decide +kernel
theorem dX7_eliminate_68 : decode cX7_eliminate 68 = .ok (.invokevirtual 87, 3) := by decide +kernel
theorem dX7_eliminate_71 : decode cX7_eliminate 71 = .ok (.aload_n 0, 1) := by decide +kernel
theorem dX7_eliminate_72 : decode cX7_eliminate 72 = .ok (.getfield 34, 3) := by decide +kernel
theorem dX7_eliminate_75 : decode cX7_eliminate 75 = .ok (.aload_n 0, 1) := by decide +kernel
theorem dX7_eliminate_76 : decode cX7_eliminate 76 = .ok (.getfield 20, 3) := by decide +kernel
theorem dX7_eliminate_79 : decode cX7_eliminate 79 = .ok (.aload_n 2, 1) := by decide +kernel
theorem dX7_eliminate_80 : decode cX7_eliminate 80 = .ok (.aload_n 0, 1) := by decide +kernel
theorem dX7_eliminate_81 : decode cX7_eliminate 81 = .ok (.getfield 24, 3) := by decide +kernel
theorem dX7_eliminate_84 : decode cX7_eliminate 84 = .ok (.invokevirtual 91, 3) := by decide +kernel
theorem dX7_eliminate_87 : decode cX7_eliminate 87 = .ok (.aload 5, 2) := by decide +kernel
theorem dX7_eliminate_89 : decode cX7_eliminate 89 = .ok (.aload_n 0, 1) := by decide +kernel
theorem dX7_eliminate_90 : decode cX7_eliminate 90 = .ok (.getfield 24, 3) := by decide +kernel
theorem dX7_eliminate_93 : decode cX7_eliminate 93 = .ok (.invokevirtual 94, 3) := by decide +kernel
theorem dX7_eliminate_96 : decode cX7_eliminate 96 = .ok (.iinc 4 1, 3) := by decide +kernel
theorem dX7_eliminate_99 : decode cX7_eliminate 99 = .ok (.goto (-82), 3) := by decide +kernel
theorem dX7_eliminate_102 : decode cX7_eliminate 102 = .ok (.iinc 3 1, 3) := by decide +kernel
theorem dX7_eliminate_105 : decode cX7_eliminate 105 = .ok (.goto (-101), 3) := by decide +kernel
theorem dX7_eliminate_108 : decode cX7_eliminate 108 = .ok (.return_, 1) := by decide +kernel
theorem dX7_pileLess_0 : decode cX7_pileLess 0 = .ok (.aload_n 1, 1) := by decide +kernel
theorem dX7_pileLess_1 : decode cX7_pileLess 1 = .ok (.getfield 80, 3) := by decide +kernel
theorem dX7_pileLess_4 : decode cX7_pileLess 4 = .ok (.ifCond .lt 10, 3) := by decide +kernel
theorem dX7_pileLess_7 : decode cX7_pileLess 7 = .ok (.aload_n 2, 1) := by decide +kernel
theorem dX7_pileLess_8 : decode cX7_pileLess 8 = .ok (.getfield 80, 3) := by decide +kernel
theorem dX7_pileLess_11 : decode cX7_pileLess 11 = .ok (.ifCond .ge 4, 3) := by decide +kernel
theorem dX7_pileLess_14 : decode cX7_pileLess 14 = .ok (.return_, 1) := by decide +kernel
theorem dX7_pileLess_15 : decode cX7_pileLess 15 = .ok (.aload_n 0, 1) := by decide +kernel
theorem dX7_pileLess_16 : decode cX7_pileLess 16 = .ok (.getfield 20, 3) := by decide +kernel
theorem dX7_pileLess_19 : decode cX7_pileLess 19 = .ok (.getfield 80, 3) := by decide +kernel
theorem dX7_pileLess_22 : decode cX7_pileLess 22 = .ok (.iconst 1, 1) := by decide +kernel
theorem dX7_pileLess_23 : decode cX7_pileLess 23 = .ok (.iadd, 1) := by decide +kernel
theorem dX7_pileLess_24 : decode cX7_pileLess 24 = .ok (.istore_n 3, 1) := by decide +kernel
theorem dX7_pileLess_25 : decode cX7_pileLess 25 = .ok (.iload_n 3, 1) := by decide +kernel
theorem dX7_pileLess_26 : decode cX7_pileLess 26 = .ok (.aload_n 1, 1) := by decide +kernel
theorem dX7_pileLess_27 : decode cX7_pileLess 27 = .ok (.getfield 80, 3) := by decide +kernel
theorem dX7_pileLess_30 : decode cX7_pileLess 30 = .ok (.aload_n 2, 1) := by decide +kernel
theorem dX7_pileLess_31 : decode cX7_pileLess 31 = .ok (.getfield 80, 3) := by decide +kernel
theorem dX7_pileLess_34 : decode cX7_pileLess 34 = .ok (.iadd, 1) := by decide +kernel
theorem dX7_pileLess_35 : decode cX7_pileLess 35 = .ok (.if_icmp .gt 19, 3) := by decide +kernel
theorem dX7_pileLess_38 : decode cX7_pileLess 38 = .ok (.aload_n 0, 1) := by decide +kernel
theorem dX7_pileLess_39 : decode cX7_pileLess 39 = .ok (.getfield 20, 3) := by decide +kernel
theorem dX7_pileLess_42 : decode cX7_pileLess 42 = .ok (.getfield 98, 3) := by decide +kernel
theorem dX7_pileLess_45 : decode cX7_pileLess 45 = .ok (.iload_n 3, 1) := by decide +kernel
theorem dX7_pileLess_46 : decode cX7_pileLess 46 = .ok (.lconst 0, 1) := by decide +kernel
theorem dX7_pileLess_47 : decode cX7_pileLess 47 = .ok (.lastore, 1) := by decide +kernel
theorem dX7_pileLess_48 : decode cX7_pileLess 48 = .ok (.iinc 3 1, 3) := by decide +kernel
theorem dX7_pileLess_51 : decode cX7_pileLess 51 = .ok (.goto (-26), 3) := by decide +kernel
theorem dX7_pileLess_54 : decode cX7_pileLess 54 = .ok (.aload_n 0, 1) := by decide +kernel
theorem dX7_pileLess_55 : decode cX7_pileLess 55 = .ok (.getfield 20, 3) := by decide +kernel
theorem dX7_pileLess_58 : decode cX7_pileLess 58 = .ok (.aload_n 0, 1) := by decide +kernel
theorem dX7_pileLess_59 : decode cX7_pileLess 59 = .ok (.getfield 20, 3) := by decide +kernel
theorem dX7_pileLess_62 : decode cX7_pileLess 62 = .ok (.getfield 80, 3) := by decide +kernel
theorem dX7_pileLess_65 : decode cX7_pileLess 65 = .ok (.aload_n 1, 1) := by decide +kernel
theorem dX7_pileLess_66 : decode cX7_pileLess 66 = .ok (.getfield 80, 3) := by decide +kernel
theorem dX7_pileLess_69 : decode cX7_pileLess 69 = .ok (.aload_n 2, 1) := by decide +kernel
theorem dX7_pileLess_70 : decode cX7_pileLess 70 = .ok (.getfield 80, 3) := by decide +kernel
theorem dX7_pileLess_73 : decode cX7_pileLess 73 = .ok (.iadd, 1) := by decide +kernel
theorem dX7_pileLess_74 : decode cX7_pileLess 74 = .ok (.invokestatic 102, 3) := by decide +kernel
theorem dX7_pileLess_77 : decode cX7_pileLess 77 = .ok (.putfield 80, 3) := by decide +kernel
theorem dX7_pileLess_80 : decode cX7_pileLess 80 = .ok (.iconst 0, 1) := by decide +kernel
theorem dX7_pileLess_81 : decode cX7_pileLess 81 = .ok (.istore_n 3, 1) := by decide +kernel
theorem dX7_pileLess_82 : decode cX7_pileLess 82 = .ok (.iload_n 3, 1) := by decide +kernel
theorem dX7_pileLess_83 : decode cX7_pileLess 83 = .ok (.aload_n 1, 1) := by decide +kernel
theorem dX7_pileLess_84 : decode cX7_pileLess 84 = .ok (.getfield 80, 3) := by decide +kernel
theorem dX7_pileLess_87 : decode cX7_pileLess 87 = .ok (.if_icmp .gt 69, 3) := by decide +kernel
theorem dX7_pileLess_90 : decode cX7_pileLess 90 = .ok (.aload_n 0, 1) := by decide +kernel
theorem dX7_pileLess_91 : decode cX7_pileLess 91 = .ok (.getfield 30, 3) := by decide +kernel
theorem dX7_pileLess_94 : decode cX7_pileLess 94 = .ok (.getfield 108, 3) := by decide +kernel
theorem dX7_pileLess_97 : decode cX7_pileLess 97 = .ok (.i2l, 1) := by decide +kernel
theorem dX7_pileLess_98 : decode cX7_pileLess 98 = .ok (.aload_n 1, 1) := by decide +kernel
theorem dX7_pileLess_99 : decode cX7_pileLess 99 = .ok (.getfield 98, 3) := by decide +kernel
theorem dX7_pileLess_102 : decode cX7_pileLess 102 = .ok (.iload_n 3, 1) := by decide +kernel
theorem dX7_pileLess_103 : decode cX7_pileLess 103 = .ok (.laload, 1) := by decide +kernel
theorem dX7_pileLess_104 : decode cX7_pileLess 104 = .ok (.lsub, 1) := by decide +kernel
theorem dX7_pileLess_105 : decode cX7_pileLess 105 = .ok (.lstore 4, 2) := by decide +kernel
theorem dX7_pileLess_107 : decode cX7_pileLess 107 = .ok (.iconst 0, 1) := by decide +kernel
theorem dX7_pileLess_108 : decode cX7_pileLess 108 = .ok (.istore 6, 2) := by decide +kernel
theorem dX7_pileLess_110 : decode cX7_pileLess 110 = .ok (.iload 6, 2) := by decide +kernel
theorem dX7_pileLess_112 : decode cX7_pileLess 112 = .ok (.aload_n 2, 1) := by decide +kernel
theorem dX7_pileLess_113 : decode cX7_pileLess 113 = .ok (.getfield 80, 3) := by decide +kernel
theorem dX7_pileLess_116 : decode cX7_pileLess 116 = .ok (.if_icmp .gt 34, 3) := by decide +kernel
theorem dX7_pileLess_119 : decode cX7_pileLess 119 = .ok (.aload_n 0, 1) := by decide +kernel
theorem dX7_pileLess_120 : decode cX7_pileLess 120 = .ok (.getfield 20, 3) := by decide +kernel
theorem dX7_pileLess_123 : decode cX7_pileLess 123 = .ok (.getfield 98, 3) := by decide +kernel
theorem dX7_pileLess_126 : decode cX7_pileLess 126 = .ok (.iload_n 3, 1) := by decide +kernel
theorem dX7_pileLess_127 : decode cX7_pileLess 127 = .ok (.iload 6, 2) := by decide +kernel
theorem dX7_pileLess_129 : decode cX7_pileLess 129 = .ok (.iadd, 1) := by decide +kernel
theorem dX7_pileLess_130 : decode cX7_pileLess 130 = .ok (.dup2, 1) := by decide +kernel
theorem dX7_pileLess_131 : decode cX7_pileLess 131 = .ok (.laload, 1) := by decide +kernel
theorem dX7_pileLess_132 : decode cX7_pileLess 132 = .ok (.lload 4, 2) := by decide +kernel
theorem dX7_pileLess_134 : decode cX7_pileLess 134 = .ok (.aload_n 2, 1) := by decide +kernel
theorem dX7_pileLess_135 : decode cX7_pileLess 135 = .ok (.getfield 98, 3) := by decide +kernel
theorem dX7_pileLess_138 : decode cX7_pileLess 138 = .ok (.iload 6, 2) := by decide +kernel
theorem dX7_pileLess_140 : decode cX7_pileLess 140 = .ok (.laload, 1) := by decide +kernel
theorem dX7_pileLess_141 : decode cX7_pileLess 141 = .ok (.lmul, 1) := by decide +kernel
theorem dX7_pileLess_142 : decode cX7_pileLess 142 = .ok (.ladd, 1) := by decide +kernel
theorem dX7_pileLess_143 : decode cX7_pileLess 143 = .ok (.lastore, 1) := by decide +kernel
theorem dX7_pileLess_144 : decode cX7_pileLess 144 = .ok (.iinc 6 1, 3) := by decide +kernel
theorem dX7_pileLess_147 : decode cX7_pileLess 147 = .ok (.goto (-37), 3) := by decide +kernel
theorem dX7_pileLess_150 : decode cX7_pileLess 150 = .ok (.iinc 3 1, 3) := by decide +kernel
theorem dX7_pileLess_153 : decode cX7_pileLess 153 = .ok (.goto (-71), 3) := by decide +kernel
theorem dX7_pileLess_156 : decode cX7_pileLess 156 = .ok (.return_, 1) := by decide +kernel
theorem dX8_combine_0 : decode cX8_combine 0 = .ok (.iconst 0, 1) := by decide +kernel
theorem dX8_combine_1 : decode cX8_combine 1 = .ok (.istore 5, 2) := by decide +kernel
theorem dX8_combine_3 : decode cX8_combine 3 = .ok (.iload 5, 2) := by decide +kernel
theorem dX8_combine_5 : decode cX8_combine 5 = .ok (.sipush 287, 3) := by decide +kernel
theorem dX8_combine_8 : decode cX8_combine 8 = .ok (.if_icmp .ge 42, 3) := by decide +kernel
theorem dX8_combine_11 : decode cX8_combine 11 = .ok (.aload 4, 2) := by decide +kernel
theorem dX8_combine_13 : decode cX8_combine 13 = .ok (.getfield 22, 3) := by decide +kernel
theorem dX8_combine_16 : decode cX8_combine 16 = .ok (.iload 5, 2) := by decide +kernel
theorem dX8_combine_18 : decode cX8_combine 18 = .ok (.aload_n 0, 1) := by decide +kernel
theorem dX8_combine_19 : decode cX8_combine 19 = .ok (.getfield 18, 3) := by decide +kernel
theorem dX8_combine_22 : decode cX8_combine 22 = .ok (.aload_n 1, 1) := by decide +kernel
theorem dX8_combine_23 : decode cX8_combine 23 = .ok (.getfield 22, 3) := by decide +kernel
theorem dX8_combine_26 : decode cX8_combine 26 = .ok (.iload 5, 2) := by decide +kernel
theorem dX8_combine_28 : decode cX8_combine 28 = .ok (.laload, 1) := by decide +kernel
theorem dX8_combine_29 : decode cX8_combine 29 = .ok (.iload_n 3, 1) := by decide +kernel
theorem dX8_combine_30 : decode cX8_combine 30 = .ok (.i2l, 1) := by decide +kernel
theorem dX8_combine_31 : decode cX8_combine 31 = .ok (.aload_n 2, 1) := by decide +kernel
theorem dX8_combine_32 : decode cX8_combine 32 = .ok (.getfield 22, 3) := by decide +kernel
theorem dX8_combine_35 : decode cX8_combine 35 = .ok (.iload 5, 2) := by decide +kernel
theorem dX8_combine_37 : decode cX8_combine 37 = .ok (.laload, 1) := by decide +kernel
theorem dX8_combine_38 : decode cX8_combine 38 = .ok (.lmul, 1) := by decide +kernel
theorem dX8_combine_39 : decode cX8_combine 39 = .ok (.ladd, 1) := by decide +kernel
theorem dX8_combine_40 : decode cX8_combine 40 = .ok (.invokevirtual 26, 3) := by decide +kernel
theorem dX8_combine_43 : decode cX8_combine 43 = .ok (.lastore, 1) := by decide +kernel
theorem dX8_combine_44 : decode cX8_combine 44 = .ok (.iinc 5 1, 3) := by decide +kernel
theorem dX8_combine_47 : decode cX8_combine 47 = .ok (.goto (-44), 3) := by decide +kernel
theorem dX8_combine_50 : decode cX8_combine 50 = .ok (.aload 4, 2) := by decide +kernel
theorem dX8_combine_52 : decode cX8_combine 52 = .ok (.invokevirtual 32, 3) := by decide +kernel
theorem dX8_combine_55 : decode cX8_combine 55 = .ok (.return_, 1) := by decide +kernel
theorem dX8_multiply_0 : decode cX8_multiply 0 = .ok (.aload_n 3, 1) := by decide +kernel
theorem dX8_multiply_1 : decode cX8_multiply 1 = .ok (.invokevirtual 35, 3) := by decide +kernel
theorem dX8_multiply_4 : decode cX8_multiply 4 = .ok (.aload_n 1, 1) := by decide +kernel
theorem dX8_multiply_5 : decode cX8_multiply 5 = .ok (.getfield 38, 3) := by decide +kernel
theorem dX8_multiply_8 : decode cX8_multiply 8 = .ok (.ifCond .lt 10, 3) := by decide +kernel
theorem dX8_multiply_11 : decode cX8_multiply 11 = .ok (.aload_n 2, 1) := by decide +kernel
theorem dX8_multiply_12 : decode cX8_multiply 12 = .ok (.getfield 38, 3) := by decide +kernel
theorem dX8_multiply_15 : decode cX8_multiply 15 = .ok (.ifCond .ge 5, 3) := by decide +kernel
theorem dX8_multiply_18 : decode cX8_multiply 18 = .ok (.iconst 1, 1) := by decide +kernel
theorem dX8_multiply_19 : decode cX8_multiply 19 = .ok (.ireturn, 1) := by decide +kernel
theorem dX8_multiply_20 : decode cX8_multiply 20 = .ok (.aload_n 1, 1) := by decide +kernel
theorem dX8_multiply_21 : decode cX8_multiply 21 = .ok (.getfield 38, 3) := by decide +kernel
theorem dX8_multiply_24 : decode cX8_multiply 24 = .ok (.aload_n 2, 1) := by decide +kernel
theorem dX8_multiply_25 : decode cX8_multiply 25 = .ok (.getfield 38, 3) := by decide +kernel
theorem dX8_multiply_28 : decode cX8_multiply 28 = .ok (.iadd, 1) := by decide +kernel
theorem dX8_multiply_29 : decode cX8_multiply 29 = .ok (.bipush 40, 2) := by decide +kernel
theorem dX8_multiply_31 : decode cX8_multiply 31 = .ok (.if_icmp .gt 17, 3) := by decide +kernel
theorem dX8_multiply_34 : decode cX8_multiply 34 = .ok (.aload_n 1, 1) := by decide +kernel
theorem dX8_multiply_35 : decode cX8_multiply 35 = .ok (.getfield 42, 3) := by decide +kernel
theorem dX8_multiply_38 : decode cX8_multiply 38 = .ok (.aload_n 2, 1) := by decide +kernel
theorem dX8_multiply_39 : decode cX8_multiply 39 = .ok (.getfield 42, 3) := by decide +kernel
theorem dX8_multiply_42 : decode cX8_multiply 42 = .ok (.iadd, 1) := by decide +kernel
theorem dX8_multiply_43 : decode cX8_multiply 43 = .ok (.bipush 6, 2) := by decide +kernel
theorem dX8_multiply_45 : decode cX8_multiply 45 = .ok (.if_icmp .le 5, 3) := by decide +kernel
theorem dX8_multiply_48 : decode cX8_multiply 48 = .ok (.iconst 0, 1) := by decide +kernel
theorem dX8_multiply_49 : decode cX8_multiply 49 = .ok (.ireturn, 1) := by decide +kernel
theorem dX8_multiply_50 : decode cX8_multiply 50 = .ok (.iconst 0, 1) := by decide +kernel
theorem dX8_multiply_51 : decode cX8_multiply 51 = .ok (.istore 4, 2) := by decide +kernel
theorem dX8_multiply_53 : decode cX8_multiply 53 = .ok (.iload 4, 2) := by decide +kernel
theorem dX8_multiply_55 : decode cX8_multiply 55 = .ok (.aload_n 1, 1) := by decide +kernel
theorem dX8_multiply_56 : decode cX8_multiply 56 = .ok (.getfield 42, 3) := by decide +kernel
theorem dX8_multiply_59 : decode cX8_multiply 59 = .ok (.if_icmp .gt 53, 3) := by decide +kernel
theorem dX8_multiply_62 : decode cX8_multiply 62 = .ok (.iconst 0, 1) := by decide +kernel
theorem dX8_multiply_63 : decode cX8_multiply 63 = .ok (.istore 5, 2) := by decide +kernel
theorem dX8_multiply_65 : decode cX8_multiply 65 = .ok (.iload 5, 2) := by decide +kernel
theorem dX8_multiply_67 : decode cX8_multiply 67 = .ok (.aload_n 1, 1) := by decide +kernel
theorem dX8_multiply_68 : decode cX8_multiply 68 = .ok (.getfield 38, 3) := by decide +kernel
theorem dX8_multiply_71 : decode cX8_multiply 71 = .ok (.if_icmp .gt 35, 3) := by decide +kernel
theorem dX8_multiply_74 : decode cX8_multiply 74 = .ok (.aload_n 2, 1) := by decide +kernel
theorem dX8_multiply_75 : decode cX8_multiply 75 = .ok (.aload_n 1, 1) := by decide +kernel
theorem dX8_multiply_76 : decode cX8_multiply 76 = .ok (.getfield 22, 3) := by decide +kernel
theorem dX8_multiply_79 : decode cX8_multiply 79 = .ok (.iload 4, 2) := by decide +kernel
theorem dX8_multiply_81 : decode cX8_multiply 81 = .ok (.bipush 41, 2) := by decide +kernel
theorem dX8_multiply_83 : decode cX8_multiply 83 = .ok (.imul, 1) := by decide +kernel
theorem dX8_multiply_84 : decode cX8_multiply 84 = .ok (.iload 5, 2) := by decide +kernel
theorem dX8_multiply_86 : decode cX8_multiply 86 = .ok (.iadd, 1) := by decide +kernel
theorem dX8_multiply_87 : decode cX8_multiply 87 = .ok (.laload, 1) := by decide +kernel
theorem dX8_multiply_88 : decode cX8_multiply 88 = .ok (.iload 4, 2) := by decide +kernel
theorem dX8_multiply_90 : decode cX8_multiply 90 = .ok (.bipush 41, 2) := by decide +kernel
theorem dX8_multiply_92 : decode cX8_multiply 92 = .ok (.imul, 1) := by decide +kernel
theorem dX8_multiply_93 : decode cX8_multiply 93 = .ok (.iload 5, 2) := by decide +kernel
theorem dX8_multiply_95 : decode cX8_multiply 95 = .ok (.iadd, 1) := by decide +kernel
theorem dX8_multiply_96 : decode cX8_multiply 96 = .ok (.aload_n 3, 1) := by decide +kernel
theorem dX8_multiply_97 : decode cX8_multiply 97 = .ok (.invokestatic 45, 3) := by decide +kernel
theorem dX8_multiply_100 : decode cX8_multiply 100 = .ok (.iinc 5 1, 3) := by decide +kernel
theorem dX8_multiply_103 : decode cX8_multiply 103 = .ok (.goto (-38), 3) := by decide +kernel
theorem dX8_multiply_106 : decode cX8_multiply 106 = .ok (.iinc 4 1, 3) := by decide +kernel
theorem dX8_multiply_109 : decode cX8_multiply 109 = .ok (.goto (-56), 3) := by decide +kernel
theorem dX8_multiply_112 : decode cX8_multiply 112 = .ok (.iconst 0, 1) := by decide +kernel
theorem dX8_multiply_113 : decode cX8_multiply 113 = .ok (.istore 4, 2) := by decide +kernel
theorem dX8_multiply_115 : decode cX8_multiply 115 = .ok (.iload 4, 2) := by decide +kernel
theorem dX8_multiply_117 : decode cX8_multiply 117 = .ok (.sipush 287, 3) := by decide +kernel
theorem dX8_multiply_120 : decode cX8_multiply 120 = .ok (.if_icmp .ge 30, 3) := by decide +kernel
theorem dX8_multiply_123 : decode cX8_multiply 123 = .ok (.aload_n 3, 1) := by decide +kernel
theorem dX8_multiply_124 : decode cX8_multiply 124 = .ok (.getfield 22, 3) := by decide +kernel
theorem dX8_multiply_127 : decode cX8_multiply 127 = .ok (.iload 4, 2) := by decide +kernel
theorem dX8_multiply_129 : decode cX8_multiply 129 = .ok (.aload_n 0, 1) := by decide +kernel
theorem dX8_multiply_130 : decode cX8_multiply 130 = .ok (.getfield 18, 3) := by decide +kernel
theorem dX8_multiply_133 : decode cX8_multiply 133 = .ok (.aload_n 3, 1) := by decide +kernel
theorem dX8_multiply_134 : decode cX8_multiply 134 = .ok (.getfield 22, 3) := by decide +kernel
theorem dX8_multiply_137 : decode cX8_multiply 137 = .ok (.iload 4, 2) := by decide +kernel
theorem dX8_multiply_139 : decode cX8_multiply 139 = .ok (.laload, 1) := by decide +kernel
theorem dX8_multiply_140 : decode cX8_multiply 140 = .ok (.invokevirtual 26, 3) := by decide +kernel
theorem dX8_multiply_143 : decode cX8_multiply 143 = .ok (.lastore, 1) := by decide +kernel
theorem dX8_multiply_144 : decode cX8_multiply 144 = .ok (.iinc 4 1, 3) := by decide +kernel
theorem dX8_multiply_147 : decode cX8_multiply 147 = .ok (.goto (-32), 3) := by decide +kernel
theorem dX8_multiply_150 : decode cX8_multiply 150 = .ok (.aload_n 3, 1) := by decide +kernel
theorem dX8_multiply_151 : decode cX8_multiply 151 = .ok (.invokevirtual 32, 3) := by decide +kernel
theorem dX8_multiply_154 : decode cX8_multiply 154 = .ok (.iconst 1, 1) := by decide +kernel
theorem dX8_multiply_155 : decode cX8_multiply 155 = .ok (.ireturn, 1) := by decide +kernel
theorem dX8_addShifted_0 : decode cX8_addShifted 0 = .ok (.lload_n 1, 1) := by decide +kernel
theorem dX8_addShifted_1 : decode cX8_addShifted 1 = .ok (.lconst 0, 1) := by decide +kernel
theorem dX8_addShifted_2 : decode cX8_addShifted 2 = .ok (.lcmp, 1) := by decide +kernel
theorem dX8_addShifted_3 : decode cX8_addShifted 3 = .ok (.ifCond .ne 4, 3) := by decide +kernel
theorem dX8_addShifted_6 : decode cX8_addShifted 6 = .ok (.return_, 1) := by decide +kernel
theorem dX8_addShifted_7 : decode cX8_addShifted 7 = .ok (.iconst 0, 1) := by decide +kernel
theorem dX8_addShifted_8 : decode cX8_addShifted 8 = .ok (.istore 5, 2) := by decide +kernel
theorem dX8_addShifted_10 : decode cX8_addShifted 10 = .ok (.iload 5, 2) := by decide +kernel
theorem dX8_addShifted_12 : decode cX8_addShifted 12 = .ok (.aload_n 0, 1) := by decide +kernel
theorem dX8_addShifted_13 : decode cX8_addShifted 13 = .ok (.getfield 42, 3) := by decide +kernel
theorem dX8_addShifted_16 : decode cX8_addShifted 16 = .ok (.if_icmp .gt 61, 3) := by decide +kernel
theorem dX8_addShifted_19 : decode cX8_addShifted 19 = .ok (.iconst 0, 1) := by decide +kernel
theorem dX8_addShifted_20 : decode cX8_addShifted 20 = .ok (.istore 6, 2) := by decide +kernel
theorem dX8_addShifted_22 : decode cX8_addShifted 22 = .ok (.iload 6, 2) := by decide +kernel
theorem dX8_addShifted_24 : decode cX8_addShifted 24 = .ok (.aload_n 0, 1) := by decide +kernel
theorem dX8_addShifted_25 : decode cX8_addShifted 25 = .ok (.getfield 38, 3) := by decide +kernel
theorem dX8_addShifted_28 : decode cX8_addShifted 28 = .ok (.if_icmp .gt 43, 3) := by decide +kernel
theorem dX8_addShifted_31 : decode cX8_addShifted 31 = .ok (.aload 4, 2) := by decide +kernel
theorem dX8_addShifted_33 : decode cX8_addShifted 33 = .ok (.getfield 22, 3) := by decide +kernel
theorem dX8_addShifted_36 : decode cX8_addShifted 36 = .ok (.iload_n 3, 1) := by decide +kernel
theorem dX8_addShifted_37 : decode cX8_addShifted 37 = .ok (.iload 5, 2) := by decide +kernel
theorem dX8_addShifted_39 : decode cX8_addShifted 39 = .ok (.bipush 41, 2) := by decide +kernel
theorem dX8_addShifted_41 : decode cX8_addShifted 41 = .ok (.imul, 1) := by decide +kernel
theorem dX8_addShifted_42 : decode cX8_addShifted 42 = .ok (.iadd, 1) := by decide +kernel
theorem dX8_addShifted_43 : decode cX8_addShifted 43 = .ok (.iload 6, 2) := by decide +kernel
theorem dX8_addShifted_45 : decode cX8_addShifted 45 = .ok (.iadd, 1) := by decide +kernel
theorem dX8_addShifted_46 : decode cX8_addShifted 46 = .ok (.dup2, 1) := by decide +kernel
theorem dX8_addShifted_47 : decode cX8_addShifted 47 = .ok (.laload, 1) := by decide +kernel
theorem dX8_addShifted_48 : decode cX8_addShifted 48 = .ok (.lload_n 1, 1) := by decide +kernel
theorem dX8_addShifted_49 : decode cX8_addShifted 49 = .ok (.aload_n 0, 1) := by decide +kernel
theorem dX8_addShifted_50 : decode cX8_addShifted 50 = .ok (.getfield 22, 3) := by decide +kernel
theorem dX8_addShifted_53 : decode cX8_addShifted 53 = .ok (.iload 5, 2) := by decide +kernel
theorem dX8_addShifted_55 : decode cX8_addShifted 55 = .ok (.bipush 41, 2) := by decide +kernel
theorem dX8_addShifted_57 : decode cX8_addShifted 57 = .ok (.imul, 1) := by decide +kernel
theorem dX8_addShifted_58 : decode cX8_addShifted 58 = .ok (.iload 6, 2) := by decide +kernel
theorem dX8_addShifted_60 : decode cX8_addShifted 60 = .ok (.iadd, 1) := by decide +kernel
theorem dX8_addShifted_61 : decode cX8_addShifted 61 = .ok (.laload, 1) := by decide +kernel
theorem dX8_addShifted_62 : decode cX8_addShifted 62 = .ok (.lmul, 1) := by decide +kernel
theorem dX8_addShifted_63 : decode cX8_addShifted 63 = .ok (.ladd, 1) := by decide +kernel
theorem dX8_addShifted_64 : decode cX8_addShifted 64 = .ok (.lastore, 1) := by decide +kernel
theorem dX8_addShifted_65 : decode cX8_addShifted 65 = .ok (.iinc 6 1, 3) := by decide +kernel
theorem dX8_addShifted_68 : decode cX8_addShifted 68 = .ok (.goto (-46), 3) := by decide +kernel
theorem dX8_addShifted_71 : decode cX8_addShifted 71 = .ok (.iinc 5 1, 3) := by decide +kernel
theorem dX8_addShifted_74 : decode cX8_addShifted 74 = .ok (.goto (-64), 3) := by decide +kernel
theorem dX8_addShifted_77 : decode cX8_addShifted 77 = .ok (.return_, 1) := by decide +kernel
theorem dX8_substitute_0 : decode cX8_substitute 0 = .ok (.iload_n 3, 1) := by decide +kernel
theorem dX8_substitute_1 : decode cX8_substitute 1 = .ok (.ifCond .eq 10, 3) := by decide +kernel
theorem dX8_substitute_4 : decode cX8_substitute 4 = .ok (.aload_n 1, 1) := by decide +kernel
theorem dX8_substitute_5 : decode cX8_substitute 5 = .ok (.getfield 38, 3) := by decide +kernel
theorem dX8_substitute_8 : decode cX8_substitute 8 = .ok (.goto 7, 3) := by decide +kernel
theorem dX8_substitute_11 : decode cX8_substitute 11 = .ok (.aload_n 1, 1) := by decide +kernel
theorem dX8_substitute_12 : decode cX8_substitute 12 = .ok (.getfield 42, 3) := by decide +kernel
theorem dX8_substitute_15 : decode cX8_substitute 15 = .ok (.istore 5, 2) := by decide +kernel
theorem dX8_substitute_17 : decode cX8_substitute 17 = .ok (.aload 4, 2) := by decide +kernel
theorem dX8_substitute_19 : decode cX8_substitute 19 = .ok (.invokevirtual 35, 3) := by decide +kernel
theorem dX8_substitute_22 : decode cX8_substitute 22 = .ok (.iload 5, 2) := by decide +kernel
theorem dX8_substitute_24 : decode cX8_substitute 24 = .ok (.istore 6, 2) := by decide +kernel
theorem dX8_substitute_26 : decode cX8_substitute 26 = .ok (.iload 6, 2) := by decide +kernel
theorem dX8_substitute_28 : decode cX8_substitute 28 = .ok (.ifCond .lt 44, 3) := by decide +kernel
theorem dX8_substitute_31 : decode cX8_substitute 31 = .ok (.aload_n 0, 1) := by decide +kernel
theorem dX8_substitute_32 : decode cX8_substitute 32 = .ok (.aload 4, 2) := by decide +kernel
theorem dX8_substitute_34 : decode cX8_substitute 34 = .ok (.aload_n 2, 1) := by decide +kernel
theorem dX8_substitute_35 : decode cX8_substitute 35 = .ok (.aload_n 0, 1) := by decide +kernel
theorem dX8_substitute_36 : decode cX8_substitute 36 = .ok (.getfield 12, 3) := by decide +kernel
theorem dX8_substitute_39 : decode cX8_substitute 39 = .ok (.invokevirtual 49, 3) := by decide +kernel
theorem dX8_substitute_42 : decode cX8_substitute 42 = .ok (.ifCond .ne 5, 3) := by decide +kernel
theorem dX8_substitute_45 : decode cX8_substitute 45 = .ok (.iconst 0, 1) := by decide +kernel
theorem dX8_substitute_46 : decode cX8_substitute 46 = .ok (.ireturn, 1) := by decide +kernel
theorem dX8_substitute_47 : decode cX8_substitute 47 = .ok (.aload 4, 2) := by decide +kernel
theorem dX8_substitute_49 : decode cX8_substitute 49 = .ok (.aload_n 0, 1) := by decide +kernel
theorem dX8_substitute_50 : decode cX8_substitute 50 = .ok (.getfield 12, 3) := by decide +kernel
theorem dX8_substitute_53 : decode cX8_substitute 53 = .ok (.invokevirtual 53, 3) := by decide +kernel
theorem dX8_substitute_56 : decode cX8_substitute 56 = .ok (.aload_n 0, 1) := by decide +kernel
theorem dX8_substitute_57 : decode cX8_substitute 57 = .ok (.aload_n 1, 1) := by decide +kernel
theorem dX8_substitute_58 : decode cX8_substitute 58 = .ok (.iload 6, 2) := by decide +kernel
theorem dX8_substitute_60 : decode cX8_substitute 60 = .ok (.iload_n 3, 1) := by decide +kernel
theorem dX8_substitute_61 : decode cX8_substitute 61 = .ok (.aload 4, 2) := by decide +kernel
theorem dX8_substitute_63 : decode cX8_substitute 63 = .ok (.invokevirtual 57, 3) := by decide +kernel
theorem dX8_substitute_66 : decode cX8_substitute 66 = .ok (.iinc 6 (-1), 3) := by decide +kernel
theorem dX8_substitute_69 : decode cX8_substitute 69 = .ok (.goto (-43), 3) := by decide +kernel
theorem dX8_substitute_72 : decode cX8_substitute 72 = .ok (.iconst 1, 1) := by decide +kernel
theorem dX8_substitute_73 : decode cX8_substitute 73 = .ok (.ireturn, 1) := by decide +kernel
theorem dX8_addSlice_0 : decode cX8_addSlice 0 = .ok (.iload_n 3, 1) := by decide +kernel
theorem dX8_addSlice_1 : decode cX8_addSlice 1 = .ok (.ifCond .eq 7, 3) := by decide +kernel
theorem dX8_addSlice_4 : decode cX8_addSlice 4 = .ok (.iload_n 2, 1) := by decide +kernel
theorem dX8_addSlice_5 : decode cX8_addSlice 5 = .ok (.goto 7, 3) := by decide +kernel
theorem dX8_addSlice_8 : decode cX8_addSlice 8 = .ok (.iload_n 2, 1) := by decide +kernel
theorem dX8_addSlice_9 : decode cX8_addSlice 9 = .ok (.bipush 41, 2) := by decide +kernel
theorem dX8_addSlice_11 : decode cX8_addSlice 11 = .ok (.imul, 1) := by decide +kernel
theorem dX8_addSlice_12 : decode cX8_addSlice 12 = .ok (.istore 5, 2) := by decide +kernel
theorem dX8_addSlice_14 : decode cX8_addSlice 14 = .ok (.iload_n 3, 1) := by decide +kernel
theorem dX8_addSlice_15 : decode cX8_addSlice 15 = .ok (.ifCond .eq 8, 3) := by decide +kernel
theorem dX8_addSlice_18 : decode cX8_addSlice 18 = .ok (.bipush 41, 2) := by decide +kernel
theorem dX8_addSlice_20 : decode cX8_addSlice 20 = .ok (.goto 4, 3) := by decide +kernel
theorem dX8_addSlice_23 : decode cX8_addSlice 23 = .ok (.iconst 1, 1) := by decide +kernel
theorem dX8_addSlice_24 : decode cX8_addSlice 24 = .ok (.istore 6, 2) := by decide +kernel
theorem dX8_addSlice_26 : decode cX8_addSlice 26 = .ok (.iload_n 3, 1) := by decide +kernel
theorem dX8_addSlice_27 : decode cX8_addSlice 27 = .ok (.ifCond .eq 8, 3) := by decide +kernel
theorem dX8_addSlice_30 : decode cX8_addSlice 30 = .ok (.bipush 7, 2) := by decide +kernel
theorem dX8_addSlice_32 : decode cX8_addSlice 32 = .ok (.goto 5, 3) := by decide +kernel
theorem dX8_addSlice_35 : decode cX8_addSlice 35 = .ok (.bipush 41, 2) := by decide +kernel
theorem dX8_addSlice_37 : decode cX8_addSlice 37 = .ok (.istore 7, 2) := by decide +kernel
theorem dX8_addSlice_39 : decode cX8_addSlice 39 = .ok (.iconst 0, 1) := by decide +kernel
theorem dX8_addSlice_40 : decode cX8_addSlice 40 = .ok (.istore 8, 2) := by decide +kernel
theorem dX8_addSlice_42 : decode cX8_addSlice 42 = .ok (.iload 8, 2) := by decide +kernel
theorem dX8_addSlice_44 : decode cX8_addSlice 44 = .ok (.iload 7, 2) := by decide +kernel
theorem dX8_addSlice_46 : decode cX8_addSlice 46 = .ok (.if_icmp .ge 52, 3) := by decide +kernel
theorem dX8_addSlice_49 : decode cX8_addSlice 49 = .ok (.aload 4, 2) := by decide +kernel
theorem dX8_addSlice_51 : decode cX8_addSlice 51 = .ok (.getfield 22, 3) := by decide +kernel
theorem dX8_addSlice_54 : decode cX8_addSlice 54 = .ok (.iload 8, 2) := by decide +kernel
theorem dX8_addSlice_56 : decode cX8_addSlice 56 = .ok (.iload 6, 2) := by decide +kernel
theorem dX8_addSlice_58 : decode cX8_addSlice 58 = .ok (.imul, 1) := by decide +kernel
theorem dX8_addSlice_59 : decode cX8_addSlice 59 = .ok (.aload_n 0, 1) := by decide +kernel
theorem dX8_addSlice_60 : decode cX8_addSlice 60 = .ok (.getfield 18, 3) := by decide +kernel
theorem dX8_addSlice_63 : decode cX8_addSlice 63 = .ok (.aload 4, 2) := by decide +kernel
theorem dX8_addSlice_65 : decode cX8_addSlice 65 = .ok (.getfield 22, 3) := by decide +kernel
theorem dX8_addSlice_68 : decode cX8_addSlice 68 = .ok (.iload 8, 2) := by decide +kernel
theorem dX8_addSlice_70 : decode cX8_addSlice 70 = .ok (.iload 6, 2) := by decide +kernel
theorem dX8_addSlice_72 : decode cX8_addSlice 72 = .ok (.imul, 1) := by decide +kernel
theorem dX8_addSlice_73 : decode cX8_addSlice 73 = .ok (.laload, 1) := by decide +kernel
theorem dX8_addSlice_74 : decode cX8_addSlice 74 = .ok (.aload_n 1, 1) := by decide +kernel
theorem dX8_addSlice_75 : decode cX8_addSlice 75 = .ok (.getfield 22, 3) := by decide +kernel
theorem dX8_addSlice_78 : decode cX8_addSlice 78 = .ok (.iload 5, 2) := by decide +kernel
theorem dX8_addSlice_80 : decode cX8_addSlice 80 = .ok (.iload 8, 2) := by decide +kernel
theorem dX8_addSlice_82 : decode cX8_addSlice 82 = .ok (.iload 6, 2) := by decide +kernel
theorem dX8_addSlice_84 : decode cX8_addSlice 84 = .ok (.imul, 1) := by decide +kernel
theorem dX8_addSlice_85 : decode cX8_addSlice 85 = .ok (.iadd, 1) := by decide +kernel
theorem dX8_addSlice_86 : decode cX8_addSlice 86 = .ok (.laload, 1) := by decide +kernel
theorem dX8_addSlice_87 : decode cX8_addSlice 87 = .ok (.ladd, 1) := by decide +kernel
theorem dX8_addSlice_88 : decode cX8_addSlice 88 = .ok (.invokevirtual 26, 3) := by decide +kernel
theorem dX8_addSlice_91 : decode cX8_addSlice 91 = .ok (.lastore, 1) := by decide +kernel
theorem dX8_addSlice_92 : decode cX8_addSlice 92 = .ok (.iinc 8 1, 3) := by decide +kernel
theorem dX8_addSlice_95 : decode cX8_addSlice 95 = .ok (.goto (-53), 3) := by decide +kernel
theorem dX8_addSlice_98 : decode cX8_addSlice 98 = .ok (.aload 4, 2) := by decide +kernel
theorem dX8_addSlice_100 : decode cX8_addSlice 100 = .ok (.invokevirtual 32, 3) := by decide +kernel
theorem dX8_addSlice_103 : decode cX8_addSlice 103 = .ok (.return_, 1) := by decide +kernel
theorem dX8_derive_0 : decode cX8_derive 0 = .ok (.aload_n 3, 1) := by decide +kernel
theorem dX8_derive_1 : decode cX8_derive 1 = .ok (.invokevirtual 35, 3) := by decide +kernel
theorem dX8_derive_4 : decode cX8_derive 4 = .ok (.iload_n 2, 1) := by decide +kernel
theorem dX8_derive_5 : decode cX8_derive 5 = .ok (.ifCond .eq 7, 3) := by decide +kernel
theorem dX8_derive_8 : decode cX8_derive 8 = .ok (.iconst 1, 1) := by decide +kernel
theorem dX8_derive_9 : decode cX8_derive 9 = .ok (.goto 5, 3) := by decide +kernel
theorem dX8_derive_12 : decode cX8_derive 12 = .ok (.bipush 41, 2) := by decide +kernel
theorem dX8_derive_14 : decode cX8_derive 14 = .ok (.istore 4, 2) := by decide +kernel
theorem dX8_derive_16 : decode cX8_derive 16 = .ok (.iload_n 2, 1) := by decide +kernel
theorem dX8_derive_17 : decode cX8_derive 17 = .ok (.ifCond .eq 7, 3) := by decide +kernel
theorem dX8_derive_20 : decode cX8_derive 20 = .ok (.iconst 0, 1) := by decide +kernel
theorem dX8_derive_21 : decode cX8_derive 21 = .ok (.goto 4, 3) := by decide +kernel
theorem dX8_derive_24 : decode cX8_derive 24 = .ok (.iconst 1, 1) := by decide +kernel
theorem dX8_derive_25 : decode cX8_derive 25 = .ok (.istore 5, 2) := by decide +kernel
theorem dX8_derive_27 : decode cX8_derive 27 = .ok (.iload 5, 2) := by decide +kernel
theorem dX8_derive_29 : decode cX8_derive 29 = .ok (.bipush 6, 2) := by decide +kernel
theorem dX8_derive_31 : decode cX8_derive 31 = .ok (.if_icmp .gt 80, 3) := by decide +kernel
theorem dX8_derive_34 : decode cX8_derive 34 = .ok (.iload_n 2, 1) := by decide +kernel
theorem dX8_derive_35 : decode cX8_derive 35 = .ok (.ifCond .eq 7, 3) := by decide +kernel
theorem dX8_derive_38 : decode cX8_derive 38 = .ok (.iconst 1, 1) := by decide +kernel
theorem dX8_derive_39 : decode cX8_derive 39 = .ok (.goto 4, 3) := by decide +kernel
theorem dX8_derive_42 : decode cX8_derive 42 = .ok (.iconst 0, 1) := by decide +kernel
theorem dX8_derive_43 : decode cX8_derive 43 = .ok (.istore 6, 2) := by decide +kernel
theorem dX8_derive_45 : decode cX8_derive 45 = .ok (.iload 6, 2) := by decide +kernel
theorem dX8_derive_47 : decode cX8_derive 47 = .ok (.bipush 40, 2) := by decide +kernel
theorem dX8_derive_49 : decode cX8_derive 49 = .ok (.if_icmp .gt 56, 3) := by decide +kernel
theorem dX8_derive_52 : decode cX8_derive 52 = .ok (.iload 5, 2) := by decide +kernel
theorem dX8_derive_54 : decode cX8_derive 54 = .ok (.bipush 41, 2) := by decide +kernel
theorem dX8_derive_56 : decode cX8_derive 56 = .ok (.imul, 1) := by decide +kernel
theorem dX8_derive_57 : decode cX8_derive 57 = .ok (.iload 6, 2) := by decide +kernel
theorem dX8_derive_59 : decode cX8_derive 59 = .ok (.iadd, 1) := by decide +kernel
theorem dX8_derive_60 : decode cX8_derive 60 = .ok (.istore 7, 2) := by decide +kernel
theorem dX8_derive_62 : decode cX8_derive 62 = .ok (.aload_n 3, 1) := by decide +kernel
theorem dX8_derive_63 : decode cX8_derive 63 = .ok (.getfield 22, 3) := by decide +kernel
theorem dX8_derive_66 : decode cX8_derive 66 = .ok (.iload 7, 2) := by decide +kernel
theorem dX8_derive_68 : decode cX8_derive 68 = .ok (.iload 4, 2) := by decide +kernel
theorem dX8_derive_70 : decode cX8_derive 70 = .ok (.isub, 1) := by decide +kernel
theorem dX8_derive_71 : decode cX8_derive 71 = .ok (.aload_n 0, 1) := by decide +kernel
theorem dX8_derive_72 : decode cX8_derive 72 = .ok (.getfield 18, 3) := by decide +kernel
theorem dX8_derive_75 : decode cX8_derive 75 = .ok (.aload_n 1, 1) := by decide +kernel
theorem dX8_derive_76 : decode cX8_derive 76 = .ok (.getfield 22, 3) := by decide +kernel
theorem dX8_derive_79 : decode cX8_derive 79 = .ok (.iload 7, 2) := by decide +kernel
theorem dX8_derive_81 : decode cX8_derive 81 = .ok (.laload, 1) := by decide +kernel
theorem dX8_derive_82 : decode cX8_derive 82 = .ok (.iload_n 2, 1) := by decide +kernel
theorem dX8_derive_83 : decode cX8_derive 83 = .ok (.ifCond .eq 8, 3) := by decide +kernel
theorem dX8_derive_86 : decode cX8_derive 86 = .ok (.iload 6, 2) := by decide +kernel
theorem dX8_derive_88 : decode cX8_derive 88 = .ok (.goto 5, 3) := by decide +kernel
theorem dX8_derive_91 : decode cX8_derive 91 = .ok (.iload 5, 2) := by decide +kernel
theorem dX8_derive_93 : decode cX8_derive 93 = .ok (.i2l, 1) := by decide +kernel
theorem dX8_derive_94 : decode cX8_derive 94 = .ok (.lmul, 1) := by decide +kernel
theorem dX8_derive_95 : decode cX8_derive 95 = .ok (.invokevirtual 26, 3) := by decide +kernel
theorem dX8_derive_98 : decode cX8_derive 98 = .ok (.lastore, 1) := by decide +kernel
theorem dX8_derive_99 : decode cX8_derive 99 = .ok (.iinc 6 1, 3) := by decide +kernel
theorem dX8_derive_102 : decode cX8_derive 102 = .ok (.goto (-57), 3) := by decide +kernel
theorem dX8_derive_105 : decode cX8_derive 105 = .ok (.iinc 5 1, 3) := by decide +kernel
theorem dX8_derive_108 : decode cX8_derive 108 = .ok (.goto (-81), 3) := by decide +kernel
theorem dX8_derive_111 : decode cX8_derive 111 = .ok (.aload_n 3, 1) := by decide +kernel
theorem dX8_derive_112 : decode cX8_derive 112 = .ok (.invokevirtual 32, 3) := by decide +kernel
theorem dX8_derive_115 : decode cX8_derive 115 = .ok (.return_, 1) := by decide +kernel
theorem dX8_valueAt_0 : decode cX8_valueAt 0 = .ok (.lconst 0, 1) := by decide +kernel
theorem dX8_valueAt_1 : decode cX8_valueAt 1 = .ok (.lstore 6, 2) := by decide +kernel
theorem dX8_valueAt_3 : decode cX8_valueAt 3 = .ok (.aload_n 1, 1) := by decide +kernel
theorem dX8_valueAt_4 : decode cX8_valueAt 4 = .ok (.getfield 42, 3) := by decide +kernel
theorem dX8_valueAt_7 : decode cX8_valueAt 7 = .ok (.istore 8, 2) := by decide +kernel
theorem dX8_valueAt_9 : decode cX8_valueAt 9 = .ok (.iload 8, 2) := by decide +kernel
theorem dX8_valueAt_11 : decode cX8_valueAt 11 = .ok (.ifCond .lt 73, 3) := by decide +kernel
theorem dX8_valueAt_14 : decode cX8_valueAt 14 = .ok (.lconst 0, 1) := by decide +kernel
theorem dX8_valueAt_15 : decode cX8_valueAt 15 = .ok (.lstore 9, 2) := by decide +kernel
theorem dX8_valueAt_17 : decode cX8_valueAt 17 = .ok (.aload_n 1, 1) := by decide +kernel
theorem dX8_valueAt_18 : decode cX8_valueAt 18 = .ok (.getfield 38, 3) := by decide +kernel
theorem dX8_valueAt_21 : decode cX8_valueAt 21 = .ok (.istore 11, 2) := by decide +kernel
theorem dX8_valueAt_23 : decode cX8_valueAt 23 = .ok (.iload 11, 2) := by decide +kernel
theorem dX8_valueAt_25 : decode cX8_valueAt 25 = .ok (.ifCond .lt 36, 3) := by decide +kernel
theorem dX8_valueAt_28 : decode cX8_valueAt 28 = .ok (.aload_n 0, 1) := by decide +kernel
theorem dX8_valueAt_29 : decode cX8_valueAt 29 = .ok (.getfield 18, 3) := by decide +kernel
theorem dX8_valueAt_32 : decode cX8_valueAt 32 = .ok (.lload 9, 2) := by decide +kernel
theorem dX8_valueAt_34 : decode cX8_valueAt 34 = .ok (.lload_n 2, 1) := by decide +kernel
theorem dX8_valueAt_35 : decode cX8_valueAt 35 = .ok (.lmul, 1) := by decide +kernel
theorem dX8_valueAt_36 : decode cX8_valueAt 36 = .ok (.aload_n 1, 1) := by decide +kernel
theorem dX8_valueAt_37 : decode cX8_valueAt 37 = .ok (.getfield 22, 3) := by decide +kernel
theorem dX8_valueAt_40 : decode cX8_valueAt 40 = .ok (.iload 8, 2) := by decide +kernel
theorem dX8_valueAt_42 : decode cX8_valueAt 42 = .ok (.bipush 41, 2) := by decide +kernel
theorem dX8_valueAt_44 : decode cX8_valueAt 44 = .ok (.imul, 1) := by decide +kernel
theorem dX8_valueAt_45 : decode cX8_valueAt 45 = .ok (.iload 11, 2) := by decide +kernel
theorem dX8_valueAt_47 : decode cX8_valueAt 47 = .ok (.iadd, 1) := by decide +kernel
theorem dX8_valueAt_48 : decode cX8_valueAt 48 = .ok (.laload, 1) := by decide +kernel
theorem dX8_valueAt_49 : decode cX8_valueAt 49 = .ok (.ladd, 1) := by decide +kernel
theorem dX8_valueAt_50 : decode cX8_valueAt 50 = .ok (.invokevirtual 26, 3) := by decide +kernel
theorem dX8_valueAt_53 : decode cX8_valueAt 53 = .ok (.lstore 9, 2) := by decide +kernel
theorem dX8_valueAt_55 : decode cX8_valueAt 55 = .ok (.iinc 11 (-1), 3) := by decide +kernel
theorem dX8_valueAt_58 : decode cX8_valueAt 58 = .ok (.goto (-35), 3) := by decide +kernel
theorem dX8_valueAt_61 : decode cX8_valueAt 61 = .ok (.aload_n 0, 1) := by decide +kernel
theorem dX8_valueAt_62 : decode cX8_valueAt 62 = .ok (.getfield 18, 3) := by decide +kernel
theorem dX8_valueAt_65 : decode cX8_valueAt 65 = .ok (.lload 6, 2) := by decide +kernel
theorem dX8_valueAt_67 : decode cX8_valueAt 67 = .ok (.lload 4, 2) := by decide +kernel
theorem dX8_valueAt_69 : decode cX8_valueAt 69 = .ok (.lmul, 1) := by decide +kernel
theorem dX8_valueAt_70 : decode cX8_valueAt 70 = .ok (.lload 9, 2) := by decide +kernel
theorem dX8_valueAt_72 : decode cX8_valueAt 72 = .ok (.ladd, 1) := by decide +kernel
theorem dX8_valueAt_73 : decode cX8_valueAt 73 = .ok (.invokevirtual 26, 3) := by decide +kernel
theorem dX8_valueAt_76 : decode cX8_valueAt 76 = .ok (.lstore 6, 2) := by decide +kernel
theorem dX8_valueAt_78 : decode cX8_valueAt 78 = .ok (.iinc 8 (-1), 3) := by decide +kernel
theorem dX8_valueAt_81 : decode cX8_valueAt 81 = .ok (.goto (-72), 3) := by decide +kernel
theorem dX8_valueAt_84 : decode cX8_valueAt 84 = .ok (.lload 6, 2) := by decide +kernel
theorem dX8_valueAt_86 : decode cX8_valueAt 86 = .ok (.lreturn, 1) := by decide +kernel
theorem dX9_isPower_0 : decode cX9_isPower 0 = .ok (.iload_n 0, 1) := by decide +kernel
theorem dX9_isPower_1 : decode cX9_isPower 1 = .ok (.ifCond .lt 23, 3) := by decide +kernel
theorem dX9_isPower_4 : decode cX9_isPower 4 = .ok (.iload_n 0, 1) := by decide +kernel
theorem dX9_isPower_5 : decode cX9_isPower 5 = .ok (.bipush 40, 2) := by decide +kernel
theorem dX9_isPower_7 : decode cX9_isPower 7 = .ok (.if_icmp .gt 17, 3) := by decide +kernel
theorem dX9_isPower_10 : decode cX9_isPower 10 = .ok (.iload_n 1, 1) := by decide +kernel
theorem dX9_isPower_11 : decode cX9_isPower 11 = .ok (.ifCond .lt 13, 3) := by decide +kernel
theorem dX9_isPower_14 : decode cX9_isPower 14 = .ok (.iload_n 1, 1) := by decide +kernel
theorem dX9_isPower_15 : decode cX9_isPower 15 = .ok (.bipush 6, 2) := by decide +kernel
theorem dX9_isPower_17 : decode cX9_isPower 17 = .ok (.if_icmp .gt 7, 3) := by decide +kernel
theorem dX9_isPower_20 : decode cX9_isPower 20 = .ok (.iconst 1, 1) := by decide +kernel
theorem dX9_isPower_21 : decode cX9_isPower 21 = .ok (.goto 4, 3) := by decide +kernel
theorem dX9_isPower_24 : decode cX9_isPower 24 = .ok (.iconst 0, 1) := by decide +kernel
theorem dX9_isPower_25 : decode cX9_isPower 25 = .ok (.ireturn, 1) := by decide +kernel
theorem dX9_wholeAct_0 : decode cX9_wholeAct 0 = .ok (.iload_n 1, 1) := by decide +kernel
theorem dX9_wholeAct_1 : decode cX9_wholeAct 1 = .ok (.tableswitch 141 0 5 #[39, 55, 71, 85, 111, 126], 39) := by decide +kernel
theorem dX9_wholeAct_40 : decode cX9_wholeAct 40 = .ok (.aload_n 0, 1) := by decide +kernel
theorem dX9_wholeAct_41 : decode cX9_wholeAct 41 = .ok (.getfield 31, 3) := by decide +kernel
theorem dX9_wholeAct_44 : decode cX9_wholeAct 44 = .ok (.aload_n 2, 1) := by decide +kernel
theorem dX9_wholeAct_45 : decode cX9_wholeAct 45 = .ok (.aload_n 3, 1) := by decide +kernel
theorem dX9_wholeAct_46 : decode cX9_wholeAct 46 = .ok (.iconst 1, 1) := by decide +kernel
theorem dX9_wholeAct_47 : decode cX9_wholeAct 47 = .ok (.aload_n 0, 1) := by decide +kernel
theorem dX9_wholeAct_48 : decode cX9_wholeAct 48 = .ok (.getfield 50, 3) := by decide +kernel
theorem dX9_wholeAct_51 : decode cX9_wholeAct 51 = .ok (.invokevirtual 220, 3) := by decide +kernel
theorem dX9_wholeAct_54 : decode cX9_wholeAct 54 = .ok (.iconst 1, 1) := by decide +kernel
theorem dX9_wholeAct_55 : decode cX9_wholeAct 55 = .ok (.ireturn, 1) := by decide +kernel
theorem dX9_wholeAct_56 : decode cX9_wholeAct 56 = .ok (.aload_n 0, 1) := by decide +kernel
theorem dX9_wholeAct_57 : decode cX9_wholeAct 57 = .ok (.getfield 31, 3) := by decide +kernel
theorem dX9_wholeAct_60 : decode cX9_wholeAct 60 = .ok (.aload_n 2, 1) := by decide +kernel
theorem dX9_wholeAct_61 : decode cX9_wholeAct 61 = .ok (.aload_n 3, 1) := by decide +kernel
theorem dX9_wholeAct_62 : decode cX9_wholeAct 62 = .ok (.iconst (-1), 1) := by decide +kernel
theorem dX9_wholeAct_63 : decode cX9_wholeAct 63 = .ok (.aload_n 0, 1) := by decide +kernel
theorem dX9_wholeAct_64 : decode cX9_wholeAct 64 = .ok (.getfield 50, 3) := by decide +kernel
theorem dX9_wholeAct_67 : decode cX9_wholeAct 67 = .ok (.invokevirtual 220, 3) := by decide +kernel
theorem dX9_wholeAct_70 : decode cX9_wholeAct 70 = .ok (.iconst 1, 1) := by decide +kernel
theorem dX9_wholeAct_71 : decode cX9_wholeAct 71 = .ok (.ireturn, 1) := by decide +kernel
theorem dX9_wholeAct_72 : decode cX9_wholeAct 72 = .ok (.aload_n 0, 1) := by decide +kernel
theorem dX9_wholeAct_73 : decode cX9_wholeAct 73 = .ok (.getfield 31, 3) := by decide +kernel
theorem dX9_wholeAct_76 : decode cX9_wholeAct 76 = .ok (.aload_n 2, 1) := by decide +kernel
theorem dX9_wholeAct_77 : decode cX9_wholeAct 77 = .ok (.aload_n 3, 1) := by decide +kernel
theorem dX9_wholeAct_78 : decode cX9_wholeAct 78 = .ok (.aload_n 0, 1) := by decide +kernel
theorem dX9_wholeAct_79 : decode cX9_wholeAct 79 = .ok (.getfield 50, 3) := by decide +kernel
theorem dX9_wholeAct_82 : decode cX9_wholeAct 82 = .ok (.invokevirtual 224, 3) := by decide +kernel
theorem dX9_wholeAct_85 : decode cX9_wholeAct 85 = .ok (.ireturn, 1) := by decide +kernel
theorem dX9_wholeAct_86 : decode cX9_wholeAct 86 = .ok (.aload_n 0, 1) := by decide +kernel
theorem dX9_wholeAct_87 : decode cX9_wholeAct 87 = .ok (.getfield 50, 3) := by decide +kernel
theorem dX9_wholeAct_90 : decode cX9_wholeAct 90 = .ok (.invokevirtual 89, 3) := by decide +kernel
theorem dX9_wholeAct_93 : decode cX9_wholeAct 93 = .ok (.aload_n 0, 1) := by decide +kernel
theorem dX9_wholeAct_94 : decode cX9_wholeAct 94 = .ok (.getfield 31, 3) := by decide +kernel
theorem dX9_wholeAct_97 : decode cX9_wholeAct 97 = .ok (.aload_n 0, 1) := by decide +kernel
theorem dX9_wholeAct_98 : decode cX9_wholeAct 98 = .ok (.getfield 50, 3) := by decide +kernel
theorem dX9_wholeAct_101 : decode cX9_wholeAct 101 = .ok (.aload_n 2, 1) := by decide +kernel
theorem dX9_wholeAct_102 : decode cX9_wholeAct 102 = .ok (.iconst (-1), 1) := by decide +kernel
theorem dX9_wholeAct_103 : decode cX9_wholeAct 103 = .ok (.aload_n 0, 1) := by decide +kernel
theorem dX9_wholeAct_104 : decode cX9_wholeAct 104 = .ok (.getfield 50, 3) := by decide +kernel
theorem dX9_wholeAct_107 : decode cX9_wholeAct 107 = .ok (.invokevirtual 220, 3) := by decide +kernel
theorem dX9_wholeAct_110 : decode cX9_wholeAct 110 = .ok (.iconst 1, 1) := by decide +kernel
theorem dX9_wholeAct_111 : decode cX9_wholeAct 111 = .ok (.ireturn, 1) := by decide +kernel
theorem dX9_wholeAct_112 : decode cX9_wholeAct 112 = .ok (.aload_n 0, 1) := by decide +kernel
theorem dX9_wholeAct_113 : decode cX9_wholeAct 113 = .ok (.getfield 31, 3) := by decide +kernel
theorem dX9_wholeAct_116 : decode cX9_wholeAct 116 = .ok (.aload_n 2, 1) := by decide +kernel
theorem dX9_wholeAct_117 : decode cX9_wholeAct 117 = .ok (.aload_n 3, 1) := by decide +kernel
theorem dX9_wholeAct_118 : decode cX9_wholeAct 118 = .ok (.iconst 1, 1) := by decide +kernel
theorem dX9_wholeAct_119 : decode cX9_wholeAct 119 = .ok (.aload_n 0, 1) := by decide +kernel
theorem dX9_wholeAct_120 : decode cX9_wholeAct 120 = .ok (.getfield 50, 3) := by decide +kernel
theorem dX9_wholeAct_123 : decode cX9_wholeAct 123 = .ok (.invokevirtual 228, 3) := by decide +kernel
theorem dX9_wholeAct_126 : decode cX9_wholeAct 126 = .ok (.ireturn, 1) := by decide +kernel
theorem dX9_wholeAct_127 : decode cX9_wholeAct 127 = .ok (.aload_n 0, 1) := by decide +kernel
theorem dX9_wholeAct_128 : decode cX9_wholeAct 128 = .ok (.getfield 31, 3) := by decide +kernel
theorem dX9_wholeAct_131 : decode cX9_wholeAct 131 = .ok (.aload_n 2, 1) := by decide +kernel
theorem dX9_wholeAct_132 : decode cX9_wholeAct 132 = .ok (.aload_n 3, 1) := by decide +kernel
theorem dX9_wholeAct_133 : decode cX9_wholeAct 133 = .ok (.iconst 0, 1) := by decide +kernel
theorem dX9_wholeAct_134 : decode cX9_wholeAct 134 = .ok (.aload_n 0, 1) := by decide +kernel
theorem dX9_wholeAct_135 : decode cX9_wholeAct 135 = .ok (.getfield 50, 3) := by decide +kernel
theorem dX9_wholeAct_138 : decode cX9_wholeAct 138 = .ok (.invokevirtual 228, 3) := by decide +kernel
theorem dX9_wholeAct_141 : decode cX9_wholeAct 141 = .ok (.ireturn, 1) := by decide +kernel
theorem dX9_wholeAct_142 : decode cX9_wholeAct 142 = .ok (.aload_n 0, 1) := by decide +kernel
theorem dX9_wholeAct_143 : decode cX9_wholeAct 143 = .ok (.getfield 31, 3) := by decide +kernel
theorem dX9_wholeAct_146 : decode cX9_wholeAct 146 = .ok (.aload_n 2, 1) := by decide +kernel
theorem dX9_wholeAct_147 : decode cX9_wholeAct 147 = .ok (.iload_n 1, 1) := by decide +kernel
theorem dX9_wholeAct_148 : decode cX9_wholeAct 148 = .ok (.bipush 6, 2) := by decide +kernel
theorem dX9_wholeAct_150 : decode cX9_wholeAct 150 = .ok (.if_icmp .ne 7, 3) := by decide +kernel
theorem dX9_wholeAct_153 : decode cX9_wholeAct 153 = .ok (.iconst 1, 1) := by decide +kernel
theorem dX9_wholeAct_154 : decode cX9_wholeAct 154 = .ok (.goto 4, 3) := by decide +kernel
theorem dX9_wholeAct_157 : decode cX9_wholeAct 157 = .ok (.iconst 0, 1) := by decide +kernel
theorem dX9_wholeAct_158 : decode cX9_wholeAct 158 = .ok (.aload_n 0, 1) := by decide +kernel
theorem dX9_wholeAct_159 : decode cX9_wholeAct 159 = .ok (.getfield 50, 3) := by decide +kernel
theorem dX9_wholeAct_162 : decode cX9_wholeAct 162 = .ok (.invokevirtual 232, 3) := by decide +kernel
theorem dX9_wholeAct_165 : decode cX9_wholeAct 165 = .ok (.iconst 1, 1) := by decide +kernel
theorem dX9_wholeAct_166 : decode cX9_wholeAct 166 = .ok (.ireturn, 1) := by decide +kernel
theorem dX9_plainAct_0 : decode cX9_plainAct 0 = .ok (.aload_n 2, 1) := by decide +kernel
theorem dX9_plainAct_1 : decode cX9_plainAct 1 = .ok (.invokevirtual 131, 3) := by decide +kernel
theorem dX9_plainAct_4 : decode cX9_plainAct 4 = .ok (.ifCond .eq 10, 3) := by decide +kernel
theorem dX9_plainAct_7 : decode cX9_plainAct 7 = .ok (.aload_n 3, 1) := by decide +kernel
theorem dX9_plainAct_8 : decode cX9_plainAct 8 = .ok (.invokevirtual 131, 3) := by decide +kernel
theorem dX9_plainAct_11 : decode cX9_plainAct 11 = .ok (.ifCond .ne 6, 3) := by decide +kernel
theorem dX9_plainAct_14 : decode cX9_plainAct 14 = .ok (.bipush (-2), 2) := by decide +kernel
theorem dX9_plainAct_16 : decode cX9_plainAct 16 = .ok (.ireturn, 1) := by decide +kernel
theorem dX9_plainAct_17 : decode cX9_plainAct 17 = .ok (.aload_n 2, 1) := by decide +kernel
theorem dX9_plainAct_18 : decode cX9_plainAct 18 = .ok (.aload_n 0, 1) := by decide +kernel
theorem dX9_plainAct_19 : decode cX9_plainAct 19 = .ok (.getfield 59, 3) := by decide +kernel
theorem dX9_plainAct_22 : decode cX9_plainAct 22 = .ok (.invokevirtual 138, 3) := by decide +kernel
theorem dX9_plainAct_25 : decode cX9_plainAct 25 = .ok (.aload_n 3, 1) := by decide +kernel
theorem dX9_plainAct_26 : decode cX9_plainAct 26 = .ok (.aload_n 0, 1) := by decide +kernel
theorem dX9_plainAct_27 : decode cX9_plainAct 27 = .ok (.getfield 63, 3) := by decide +kernel
theorem dX9_plainAct_30 : decode cX9_plainAct 30 = .ok (.invokevirtual 138, 3) := by decide +kernel
theorem dX9_plainAct_33 : decode cX9_plainAct 33 = .ok (.iload_n 1, 1) := by decide +kernel
theorem dX9_plainAct_34 : decode cX9_plainAct 34 = .ok (.bipush 13, 2) := by decide +kernel
theorem dX9_plainAct_36 : decode cX9_plainAct 36 = .ok (.if_icmp .ne 12, 3) := by decide +kernel
theorem dX9_plainAct_39 : decode cX9_plainAct 39 = .ok (.aload_n 0, 1) := by decide +kernel
theorem dX9_plainAct_40 : decode cX9_plainAct 40 = .ok (.invokevirtual 236, 3) := by decide +kernel
theorem dX9_plainAct_43 : decode cX9_plainAct 43 = .ok (.istore 4, 2) := by decide +kernel
theorem dX9_plainAct_45 : decode cX9_plainAct 45 = .ok (.goto 100, 3) := by decide +kernel
theorem dX9_plainAct_48 : decode cX9_plainAct 48 = .ok (.iload_n 1, 1) := by decide +kernel
theorem dX9_plainAct_49 : decode cX9_plainAct 49 = .ok (.bipush 11, 2) := by decide +kernel
theorem dX9_plainAct_51 : decode cX9_plainAct 51 = .ok (.if_icmp .ne 46, 3) := by decide +kernel
theorem dX9_plainAct_54 : decode cX9_plainAct 54 = .ok (.aload_n 0, 1) := by decide +kernel
theorem dX9_plainAct_55 : decode cX9_plainAct 55 = .ok (.getfield 63, 3) := by decide +kernel
theorem dX9_plainAct_58 : decode cX9_plainAct 58 = .ok (.getfield 175, 3) := by decide +kernel
theorem dX9_plainAct_61 : decode cX9_plainAct 61 = .ok (.ifCond .le 29, 3) := by decide +kernel
theorem dX9_plainAct_64 : decode cX9_plainAct 64 = .ok (.aload_n 0, 1) := by decide +kernel
theorem dX9_plainAct_65 : decode cX9_plainAct 65 = .ok (.getfield 38, 3) := by decide +kernel
theorem dX9_plainAct_68 : decode cX9_plainAct 68 = .ok (.aload_n 0, 1) := by decide +kernel
theorem dX9_plainAct_69 : decode cX9_plainAct 69 = .ok (.getfield 59, 3) := by decide +kernel
theorem dX9_plainAct_72 : decode cX9_plainAct 72 = .ok (.aload_n 0, 1) := by decide +kernel
theorem dX9_plainAct_73 : decode cX9_plainAct 73 = .ok (.getfield 63, 3) := by decide +kernel
theorem dX9_plainAct_76 : decode cX9_plainAct 76 = .ok (.aload_n 0, 1) := by decide +kernel
theorem dX9_plainAct_77 : decode cX9_plainAct 77 = .ok (.getfield 66, 3) := by decide +kernel
theorem dX9_plainAct_80 : decode cX9_plainAct 80 = .ok (.invokevirtual 240, 3) := by decide +kernel
theorem dX9_plainAct_83 : decode cX9_plainAct 83 = .ok (.ifCond .eq 7, 3) := by decide +kernel
theorem dX9_plainAct_86 : decode cX9_plainAct 86 = .ok (.iconst 0, 1) := by decide +kernel
theorem dX9_plainAct_87 : decode cX9_plainAct 87 = .ok (.goto 5, 3) := by decide +kernel
theorem dX9_plainAct_90 : decode cX9_plainAct 90 = .ok (.bipush (-3), 2) := by decide +kernel
theorem dX9_plainAct_92 : decode cX9_plainAct 92 = .ok (.istore 4, 2) := by decide +kernel
theorem dX9_plainAct_94 : decode cX9_plainAct 94 = .ok (.goto 51, 3) := by decide +kernel
theorem dX9_plainAct_97 : decode cX9_plainAct 97 = .ok (.iload_n 1, 1) := by decide +kernel
theorem dX9_plainAct_98 : decode cX9_plainAct 98 = .ok (.bipush 10, 2) := by decide +kernel
theorem dX9_plainAct_100 : decode cX9_plainAct 100 = .ok (.if_icmp .ne 28, 3) := by decide +kernel
theorem dX9_plainAct_103 : decode cX9_plainAct 103 = .ok (.aload_n 0, 1) := by decide +kernel
theorem dX9_plainAct_104 : decode cX9_plainAct 104 = .ok (.getfield 38, 3) := by decide +kernel
theorem dX9_plainAct_107 : decode cX9_plainAct 107 = .ok (.aload_n 0, 1) := by decide +kernel
theorem dX9_plainAct_108 : decode cX9_plainAct 108 = .ok (.getfield 59, 3) := by decide +kernel
theorem dX9_plainAct_111 : decode cX9_plainAct 111 = .ok (.aload_n 0, 1) := by decide +kernel
theorem dX9_plainAct_112 : decode cX9_plainAct 112 = .ok (.getfield 63, 3) := by decide +kernel
theorem dX9_plainAct_115 : decode cX9_plainAct 115 = .ok (.aload_n 0, 1) := by decide +kernel
theorem dX9_plainAct_116 : decode cX9_plainAct 116 = .ok (.getfield 66, 3) := by decide +kernel
theorem dX9_plainAct_119 : decode cX9_plainAct 119 = .ok (.invokevirtual 244, 3) := by decide +kernel
theorem dX9_plainAct_122 : decode cX9_plainAct 122 = .ok (.iconst 0, 1) := by decide +kernel
theorem dX9_plainAct_123 : decode cX9_plainAct 123 = .ok (.istore 4, 2) := by decide +kernel
theorem dX9_plainAct_125 : decode cX9_plainAct 125 = .ok (.goto 20, 3) := by decide +kernel
theorem dX9_plainAct_128 : decode cX9_plainAct 128 = .ok (.aload_n 0, 1) := by decide +kernel
theorem dX9_plainAct_129 : decode cX9_plainAct 129 = .ok (.iload_n 1, 1) := by decide +kernel
theorem dX9_plainAct_130 : decode cX9_plainAct 130 = .ok (.bipush 8, 2) := by decide +kernel
theorem dX9_plainAct_132 : decode cX9_plainAct 132 = .ok (.if_icmp .ne 7, 3) := by decide +kernel
theorem dX9_plainAct_135 : decode cX9_plainAct 135 = .ok (.iconst 1, 1) := by decide +kernel
theorem dX9_plainAct_136 : decode cX9_plainAct 136 = .ok (.goto 4, 3) := by decide +kernel
theorem dX9_plainAct_139 : decode cX9_plainAct 139 = .ok (.iconst 0, 1) := by decide +kernel
theorem dX9_plainAct_140 : decode cX9_plainAct 140 = .ok (.invokevirtual 248, 3) := by decide +kernel
theorem dX9_plainAct_143 : decode cX9_plainAct 143 = .ok (.istore 4, 2) := by decide +kernel
theorem dX9_plainAct_145 : decode cX9_plainAct 145 = .ok (.iload 4, 2) := by decide +kernel
theorem dX9_plainAct_147 : decode cX9_plainAct 147 = .ok (.ifCond .ne 14, 3) := by decide +kernel
theorem dX9_plainAct_150 : decode cX9_plainAct 150 = .ok (.aload_n 0, 1) := by decide +kernel
theorem dX9_plainAct_151 : decode cX9_plainAct 151 = .ok (.getfield 50, 3) := by decide +kernel
theorem dX9_plainAct_154 : decode cX9_plainAct 154 = .ok (.aload_n 0, 1) := by decide +kernel
theorem dX9_plainAct_155 : decode cX9_plainAct 155 = .ok (.getfield 66, 3) := by decide +kernel
theorem dX9_plainAct_158 : decode cX9_plainAct 158 = .ok (.invokevirtual 146, 3) := by decide +kernel
theorem dX9_plainAct_161 : decode cX9_plainAct 161 = .ok (.iload 4, 2) := by decide +kernel
theorem dX9_plainAct_163 : decode cX9_plainAct 163 = .ok (.ireturn, 1) := by decide +kernel
theorem dX9_division_0 : decode cX9_division 0 = .ok (.aload_n 0, 1) := by decide +kernel
theorem dX9_division_1 : decode cX9_division 1 = .ok (.getfield 63, 3) := by decide +kernel
theorem dX9_division_4 : decode cX9_division 4 = .ok (.getfield 175, 3) := by decide +kernel
theorem dX9_division_7 : decode cX9_division 7 = .ok (.ifCond .ge 6, 3) := by decide +kernel
theorem dX9_division_10 : decode cX9_division 10 = .ok (.bipush (-3), 2) := by decide +kernel
theorem dX9_division_12 : decode cX9_division 12 = .ok (.ireturn, 1) := by decide +kernel
theorem dX9_division_13 : decode cX9_division 13 = .ok (.aload_n 0, 1) := by decide +kernel
theorem dX9_division_14 : decode cX9_division 14 = .ok (.getfield 38, 3) := by decide +kernel
theorem dX9_division_17 : decode cX9_division 17 = .ok (.aload_n 0, 1) := by decide +kernel
theorem dX9_division_18 : decode cX9_division 18 = .ok (.getfield 59, 3) := by decide +kernel
theorem dX9_division_21 : decode cX9_division 21 = .ok (.aload_n 0, 1) := by decide +kernel
theorem dX9_division_22 : decode cX9_division 22 = .ok (.getfield 63, 3) := by decide +kernel
theorem dX9_division_25 : decode cX9_division 25 = .ok (.aload_n 0, 1) := by decide +kernel
theorem dX9_division_26 : decode cX9_division 26 = .ok (.getfield 66, 3) := by decide +kernel
theorem dX9_division_29 : decode cX9_division 29 = .ok (.invokevirtual 252, 3) := by decide +kernel
theorem dX9_division_32 : decode cX9_division 32 = .ok (.iload_n 1, 1) := by decide +kernel
theorem dX9_division_33 : decode cX9_division 33 = .ok (.ifCond .ne 14, 3) := by decide +kernel
theorem dX9_division_36 : decode cX9_division 36 = .ok (.aload_n 0, 1) := by decide +kernel
theorem dX9_division_37 : decode cX9_division 37 = .ok (.getfield 66, 3) := by decide +kernel
theorem dX9_division_40 : decode cX9_division 40 = .ok (.aload_n 0, 1) := by decide +kernel
theorem dX9_division_41 : decode cX9_division 41 = .ok (.getfield 59, 3) := by decide +kernel
theorem dX9_division_44 : decode cX9_division 44 = .ok (.invokevirtual 255, 3) := by decide +kernel
theorem dX9_division_47 : decode cX9_division 47 = .ok (.iconst 0, 1) := by decide +kernel
theorem dX9_division_48 : decode cX9_division 48 = .ok (.ireturn, 1) := by decide +kernel
theorem dX9_resultantByX_0 : decode cX9_resultantByX 0 = .ok (.aload_n 0, 1) := by decide +kernel
theorem dX9_resultantByX_1 : decode cX9_resultantByX 1 = .ok (.getfield 59, 3) := by decide +kernel
theorem dX9_resultantByX_4 : decode cX9_resultantByX 4 = .ok (.getfield 175, 3) := by decide +kernel
theorem dX9_resultantByX_7 : decode cX9_resultantByX 7 = .ok (.ifCond .lt 13, 3) := by decide +kernel
theorem dX9_resultantByX_10 : decode cX9_resultantByX 10 = .ok (.aload_n 0, 1) := by decide +kernel
theorem dX9_resultantByX_11 : decode cX9_resultantByX 11 = .ok (.getfield 63, 3) := by decide +kernel
theorem dX9_resultantByX_14 : decode cX9_resultantByX 14 = .ok (.getfield 175, 3) := by decide +kernel
theorem dX9_resultantByX_17 : decode cX9_resultantByX 17 = .ok (.ifCond .ge 6, 3) := by decide +kernel
theorem dX9_resultantByX_20 : decode cX9_resultantByX 20 = .ok (.bipush (-3), 2) := by decide +kernel
theorem dX9_resultantByX_22 : decode cX9_resultantByX 22 = .ok (.ireturn, 1) := by decide +kernel
theorem dX9_resultantByX_23 : decode cX9_resultantByX 23 = .ok (.aload_n 0, 1) := by decide +kernel
theorem dX9_resultantByX_24 : decode cX9_resultantByX 24 = .ok (.getfield 66, 3) := by decide +kernel
theorem dX9_resultantByX_27 : decode cX9_resultantByX 27 = .ok (.aload_n 0, 1) := by decide +kernel
theorem dX9_resultantByX_28 : decode cX9_resultantByX 28 = .ok (.getfield 38, 3) := by decide +kernel
theorem dX9_resultantByX_31 : decode cX9_resultantByX 31 = .ok (.aload_n 0, 1) := by decide +kernel
theorem dX9_resultantByX_32 : decode cX9_resultantByX 32 = .ok (.getfield 59, 3) := by decide +kernel
theorem dX9_resultantByX_35 : decode cX9_resultantByX 35 = .ok (.aload_n 0, 1) := by decide +kernel
theorem dX9_resultantByX_36 : decode cX9_resultantByX 36 = .ok (.getfield 63, 3) := by decide +kernel
theorem dX9_resultantByX_39 : decode cX9_resultantByX 39 = .ok (.invokevirtual 257, 3) := by decide +kernel
theorem dX9_resultantByX_42 : decode cX9_resultantByX 42 = .ok (.invokevirtual 261, 3) := by decide +kernel
theorem dX9_resultantByX_45 : decode cX9_resultantByX 45 = .ok (.iconst 0, 1) := by decide +kernel
theorem dX9_resultantByX_46 : decode cX9_resultantByX 46 = .ok (.ireturn, 1) := by decide +kernel
theorem dX9_resultantByY_0 : decode cX9_resultantByY 0 = .ok (.aload_n 1, 1) := by decide +kernel
theorem dX9_resultantByY_1 : decode cX9_resultantByY 1 = .ok (.getfield 149, 3) := by decide +kernel
theorem dX9_resultantByY_4 : decode cX9_resultantByY 4 = .ok (.iconst 1, 1) := by decide +kernel
theorem dX9_resultantByY_5 : decode cX9_resultantByY 5 = .ok (.if_icmp .lt 29, 3) := by decide +kernel
