theorem dX9_root_1 : decode cX9_root 1 = .ok (.getfield 80, 3) := by decide +kernel
theorem dX9_root_4 : decode cX9_root 4 = .ok (.ifnull 18, 3) := by decide +kernel
theorem dX9_root_7 : decode cX9_root 7 = .ok (.iload_n 1, 1) := by decide +kernel
theorem dX9_root_8 : decode cX9_root 8 = .ok (.ifCond .lt 14, 3) := by decide +kernel
theorem dX9_root_11 : decode cX9_root 11 = .ok (.iload_n 1, 1) := by decide +kernel
theorem dX9_root_12 : decode cX9_root 12 = .ok (.aload_n 0, 1) := by decide +kernel
theorem dX9_root_13 : decode cX9_root 13 = .ok (.getfield 80, 3) := by decide +kernel
theorem dX9_root_16 : decode cX9_root 16 = .ok (.getfield 189, 3) := by decide +kernel
theorem dX9_root_19 : decode cX9_root 19 = .ok (.if_icmp .lt 5, 3) := by decide +kernel
theorem dX9_root_22 : decode cX9_root 22 = .ok (.iconst (-1), 1) := by decide +kernel
theorem dX9_root_23 : decode cX9_root 23 = .ok (.ireturn, 1) := by decide +kernel
theorem dX9_root_24 : decode cX9_root 24 = .ok (.aload_n 0, 1) := by decide +kernel
theorem dX9_root_25 : decode cX9_root 25 = .ok (.getfield 80, 3) := by decide +kernel
theorem dX9_root_28 : decode cX9_root 28 = .ok (.getfield 206, 3) := by decide +kernel
theorem dX9_root_31 : decode cX9_root 31 = .ok (.iload_n 1, 1) := by decide +kernel
theorem dX9_root_32 : decode cX9_root 32 = .ok (.laload, 1) := by decide +kernel
theorem dX9_root_33 : decode cX9_root 33 = .ok (.l2i, 1) := by decide +kernel
theorem dX9_root_34 : decode cX9_root 34 = .ok (.ireturn, 1) := by decide +kernel
theorem dX9_same_0 : decode cX9_same 0 = .ok (.aload_n 0, 1) := by decide +kernel
theorem dX9_same_1 : decode cX9_same 1 = .ok (.iload_n 1, 1) := by decide +kernel
theorem dX9_same_2 : decode cX9_same 2 = .ok (.invokevirtual 107, 3) := by decide +kernel
theorem dX9_same_5 : decode cX9_same 5 = .ok (.astore_n 3, 1) := by decide +kernel
theorem dX9_same_6 : decode cX9_same 6 = .ok (.aload_n 0, 1) := by decide +kernel
theorem dX9_same_7 : decode cX9_same 7 = .ok (.iload_n 2, 1) := by decide +kernel
theorem dX9_same_8 : decode cX9_same 8 = .ok (.invokevirtual 107, 3) := by decide +kernel
theorem dX9_same_11 : decode cX9_same 11 = .ok (.astore 4, 2) := by decide +kernel
theorem dX9_same_13 : decode cX9_same 13 = .ok (.aload_n 3, 1) := by decide +kernel
theorem dX9_same_14 : decode cX9_same 14 = .ok (.ifnull 21, 3) := by decide +kernel
theorem dX9_same_17 : decode cX9_same 17 = .ok (.aload 4, 2) := by decide +kernel
theorem dX9_same_19 : decode cX9_same 19 = .ok (.ifnull 16, 3) := by decide +kernel
theorem dX9_same_22 : decode cX9_same 22 = .ok (.aload_n 3, 1) := by decide +kernel
theorem dX9_same_23 : decode cX9_same 23 = .ok (.aload 4, 2) := by decide +kernel
theorem dX9_same_25 : decode cX9_same 25 = .ok (.invokevirtual 156, 3) := by decide +kernel
theorem dX9_same_28 : decode cX9_same 28 = .ok (.ifCond .eq 7, 3) := by decide +kernel
theorem dX9_same_31 : decode cX9_same 31 = .ok (.iconst 1, 1) := by decide +kernel
theorem dX9_same_32 : decode cX9_same 32 = .ok (.goto 4, 3) := by decide +kernel
theorem dX9_same_35 : decode cX9_same 35 = .ok (.iconst 0, 1) := by decide +kernel
theorem dX9_same_36 : decode cX9_same 36 = .ok (.ireturn, 1) := by decide +kernel
theorem dX9_take_0 : decode cX9_take 0 = .ok (.aload_n 0, 1) := by decide +kernel
theorem dX9_take_1 : decode cX9_take 1 = .ok (.iload_n 1, 1) := by decide +kernel
theorem dX9_take_2 : decode cX9_take 2 = .ok (.invokevirtual 167, 3) := by decide +kernel
theorem dX9_take_5 : decode cX9_take 5 = .ok (.astore_n 2, 1) := by decide +kernel
theorem dX9_take_6 : decode cX9_take 6 = .ok (.aload_n 2, 1) := by decide +kernel
theorem dX9_take_7 : decode cX9_take 7 = .ok (.ifnonnull 5, 3) := by decide +kernel
theorem dX9_take_10 : decode cX9_take 10 = .ok (.iconst (-1), 1) := by decide +kernel
theorem dX9_take_11 : decode cX9_take 11 = .ok (.ireturn, 1) := by decide +kernel
theorem dX9_take_12 : decode cX9_take 12 = .ok (.aload_n 0, 1) := by decide +kernel
theorem dX9_take_13 : decode cX9_take 13 = .ok (.getfield 50, 3) := by decide +kernel
theorem dX9_take_16 : decode cX9_take 16 = .ok (.aload_n 2, 1) := by decide +kernel
theorem dX9_take_17 : decode cX9_take 17 = .ok (.invokevirtual 146, 3) := by decide +kernel
theorem dX9_take_20 : decode cX9_take 20 = .ok (.aload_n 0, 1) := by decide +kernel
theorem dX9_take_21 : decode cX9_take 21 = .ok (.aload_n 0, 1) := by decide +kernel
theorem dX9_take_22 : decode cX9_take 22 = .ok (.getfield 50, 3) := by decide +kernel
theorem dX9_take_25 : decode cX9_take 25 = .ok (.invokevirtual 103, 3) := by decide +kernel
theorem dX9_take_28 : decode cX9_take 28 = .ok (.ireturn, 1) := by decide +kernel
theorem dX9_told_0 : decode cX9_told 0 = .ok (.aload_n 0, 1) := by decide +kernel
theorem dX9_told_1 : decode cX9_told 1 = .ok (.getfield 80, 3) := by decide +kernel
theorem dX9_told_4 : decode cX9_told 4 = .ok (.ifnull 13, 3) := by decide +kernel
theorem dX9_told_7 : decode cX9_told 7 = .ok (.aload_n 0, 1) := by decide +kernel
theorem dX9_told_8 : decode cX9_told 8 = .ok (.getfield 80, 3) := by decide +kernel
theorem dX9_told_11 : decode cX9_told 11 = .ok (.getfield 166, 3) := by decide +kernel
theorem dX9_told_14 : decode cX9_told 14 = .ok (.ifCond .ne 5, 3) := by decide +kernel
theorem dX9_told_17 : decode cX9_told 17 = .ok (.iconst (-1), 1) := by decide +kernel
theorem dX9_told_18 : decode cX9_told 18 = .ok (.ireturn, 1) := by decide +kernel
theorem dX9_told_19 : decode cX9_told 19 = .ok (.iload_n 1, 1) := by decide +kernel
theorem dX9_told_20 : decode cX9_told 20 = .ok (.tableswitch 65 0 3 #[32, 41, 49, 57], 32) := by decide +kernel
theorem dX9_told_52 : decode cX9_told 52 = .ok (.aload_n 0, 1) := by decide +kernel
theorem dX9_told_53 : decode cX9_told 53 = .ok (.getfield 80, 3) := by decide +kernel
theorem dX9_told_56 : decode cX9_told 56 = .ok (.getfield 182, 3) := by decide +kernel
theorem dX9_told_59 : decode cX9_told 59 = .ok (.l2i, 1) := by decide +kernel
theorem dX9_told_60 : decode cX9_told 60 = .ok (.ireturn, 1) := by decide +kernel
theorem dX9_told_61 : decode cX9_told 61 = .ok (.aload_n 0, 1) := by decide +kernel
theorem dX9_told_62 : decode cX9_told 62 = .ok (.getfield 80, 3) := by decide +kernel
theorem dX9_told_65 : decode cX9_told 65 = .ok (.getfield 186, 3) := by decide +kernel
theorem dX9_told_68 : decode cX9_told 68 = .ok (.ireturn, 1) := by decide +kernel
theorem dX9_told_69 : decode cX9_told 69 = .ok (.aload_n 0, 1) := by decide +kernel
theorem dX9_told_70 : decode cX9_told 70 = .ok (.getfield 80, 3) := by decide +kernel
theorem dX9_told_73 : decode cX9_told 73 = .ok (.getfield 189, 3) := by decide +kernel
theorem dX9_told_76 : decode cX9_told 76 = .ok (.ireturn, 1) := by decide +kernel
theorem dX9_told_77 : decode cX9_told 77 = .ok (.aload_n 0, 1) := by decide +kernel
theorem dX9_told_78 : decode cX9_told 78 = .ok (.getfield 80, 3) := by decide +kernel
theorem dX9_told_81 : decode cX9_told 81 = .ok (.getfield 192, 3) := by decide +kernel
theorem dX9_told_84 : decode cX9_told 84 = .ok (.ireturn, 1) := by decide +kernel
theorem dX9_told_85 : decode cX9_told 85 = .ok (.iconst (-1), 1) := by decide +kernel
theorem dX9_told_86 : decode cX9_told 86 = .ok (.ireturn, 1) := by decide +kernel
theorem dX9_toldFactor_0 : decode cX9_toldFactor 0 = .ok (.aload_n 0, 1) := by decide +kernel
theorem dX9_toldFactor_1 : decode cX9_toldFactor 1 = .ok (.getfield 80, 3) := by decide +kernel
theorem dX9_toldFactor_4 : decode cX9_toldFactor 4 = .ok (.ifnull 32, 3) := by decide +kernel
theorem dX9_toldFactor_7 : decode cX9_toldFactor 7 = .ok (.iload_n 1, 1) := by decide +kernel
theorem dX9_toldFactor_8 : decode cX9_toldFactor 8 = .ok (.ifCond .lt 28, 3) := by decide +kernel
theorem dX9_toldFactor_11 : decode cX9_toldFactor 11 = .ok (.iload_n 1, 1) := by decide +kernel
theorem dX9_toldFactor_12 : decode cX9_toldFactor 12 = .ok (.aload_n 0, 1) := by decide +kernel
theorem dX9_toldFactor_13 : decode cX9_toldFactor 13 = .ok (.getfield 80, 3) := by decide +kernel
theorem dX9_toldFactor_16 : decode cX9_toldFactor 16 = .ok (.getfield 166, 3) := by decide +kernel
theorem dX9_toldFactor_19 : decode cX9_toldFactor 19 = .ok (.if_icmp .ge 17, 3) := by decide +kernel
theorem dX9_toldFactor_22 : decode cX9_toldFactor 22 = .ok (.aload_n 0, 1) := by decide +kernel
theorem dX9_toldFactor_23 : decode cX9_toldFactor 23 = .ok (.getfield 80, 3) := by decide +kernel
theorem dX9_toldFactor_26 : decode cX9_toldFactor 26 = .ok (.getfield 217, 3) := by decide +kernel
theorem dX9_toldFactor_29 : decode cX9_toldFactor 29 = .ok (.iload_n 1, 1) := by decide +kernel
theorem dX9_toldFactor_30 : decode cX9_toldFactor 30 = .ok (.invokestatic 202, 3) := by decide +kernel
theorem dX9_toldFactor_33 : decode cX9_toldFactor 33 = .ok (.goto 4, 3) := by decide +kernel
theorem dX9_toldFactor_36 : decode cX9_toldFactor 36 = .ok (.aconst_null, 1) := by decide +kernel
theorem dX9_toldFactor_37 : decode cX9_toldFactor 37 = .ok (.areturn, 1) := by decide +kernel
theorem dX9_value_0 : decode cX9_value 0 = .ok (.aload_n 0, 1) := by decide +kernel
theorem dX9_value_1 : decode cX9_value 1 = .ok (.iload_n 1, 1) := by decide +kernel
theorem dX9_value_2 : decode cX9_value 2 = .ok (.invokevirtual 107, 3) := by decide +kernel
theorem dX9_value_5 : decode cX9_value 5 = .ok (.astore 6, 2) := by decide +kernel
theorem dX9_value_7 : decode cX9_value 7 = .ok (.aload 6, 2) := by decide +kernel
theorem dX9_value_9 : decode cX9_value 9 = .ok (.ifnonnull 5, 3) := by decide +kernel
theorem dX9_value_12 : decode cX9_value 12 = .ok (.iconst (-1), 1) := by decide +kernel
theorem dX9_value_13 : decode cX9_value 13 = .ok (.ireturn, 1) := by decide +kernel
theorem dX9_value_14 : decode cX9_value 14 = .ok (.aload_n 0, 1) := by decide +kernel
theorem dX9_value_15 : decode cX9_value 15 = .ok (.getfield 31, 3) := by decide +kernel
theorem dX9_value_18 : decode cX9_value 18 = .ok (.aload 6, 2) := by decide +kernel
theorem dX9_value_20 : decode cX9_value 20 = .ok (.aload_n 0, 1) := by decide +kernel
theorem dX9_value_21 : decode cX9_value 21 = .ok (.getfield 10, 3) := by decide +kernel
theorem dX9_value_24 : decode cX9_value 24 = .ok (.lload_n 2, 1) := by decide +kernel
theorem dX9_value_25 : decode cX9_value 25 = .ok (.invokevirtual 96, 3) := by decide +kernel
theorem dX9_value_28 : decode cX9_value 28 = .ok (.aload_n 0, 1) := by decide +kernel
theorem dX9_value_29 : decode cX9_value 29 = .ok (.getfield 10, 3) := by decide +kernel
theorem dX9_value_32 : decode cX9_value 32 = .ok (.lload 4, 2) := by decide +kernel
theorem dX9_value_34 : decode cX9_value 34 = .ok (.invokevirtual 96, 3) := by decide +kernel
theorem dX9_value_37 : decode cX9_value 37 = .ok (.invokevirtual 152, 3) := by decide +kernel
theorem dX9_value_40 : decode cX9_value 40 = .ok (.l2i, 1) := by decide +kernel
theorem dX9_value_41 : decode cX9_value 41 = .ok (.ireturn, 1) := by decide +kernel
theorem dX9_variable_0 : decode cX9_variable 0 = .ok (.iload_n 1, 1) := by decide +kernel
theorem dX9_variable_1 : decode cX9_variable 1 = .ok (.ifCond .eq 11, 3) := by decide +kernel
theorem dX9_variable_4 : decode cX9_variable 4 = .ok (.iload_n 1, 1) := by decide +kernel
theorem dX9_variable_5 : decode cX9_variable 5 = .ok (.iconst 1, 1) := by decide +kernel
theorem dX9_variable_6 : decode cX9_variable 6 = .ok (.if_icmp .eq 6, 3) := by decide +kernel
theorem dX9_variable_9 : decode cX9_variable 9 = .ok (.bipush (-2), 2) := by decide +kernel
theorem dX9_variable_11 : decode cX9_variable 11 = .ok (.ireturn, 1) := by decide +kernel
theorem dX9_variable_12 : decode cX9_variable 12 = .ok (.aload_n 0, 1) := by decide +kernel
theorem dX9_variable_13 : decode cX9_variable 13 = .ok (.getfield 50, 3) := by decide +kernel
theorem dX9_variable_16 : decode cX9_variable 16 = .ok (.invokevirtual 89, 3) := by decide +kernel
theorem dX9_variable_19 : decode cX9_variable 19 = .ok (.aload_n 0, 1) := by decide +kernel
theorem dX9_variable_20 : decode cX9_variable 20 = .ok (.getfield 50, 3) := by decide +kernel
theorem dX9_variable_23 : decode cX9_variable 23 = .ok (.getfield 92, 3) := by decide +kernel
theorem dX9_variable_26 : decode cX9_variable 26 = .ok (.iload_n 1, 1) := by decide +kernel
theorem dX9_variable_27 : decode cX9_variable 27 = .ok (.ifCond .ne 7, 3) := by decide +kernel
theorem dX9_variable_30 : decode cX9_variable 30 = .ok (.iconst 1, 1) := by decide +kernel
theorem dX9_variable_31 : decode cX9_variable 31 = .ok (.goto 5, 3) := by decide +kernel
theorem dX9_variable_34 : decode cX9_variable 34 = .ok (.bipush 41, 2) := by decide +kernel
theorem dX9_variable_36 : decode cX9_variable 36 = .ok (.lconst 1, 1) := by decide +kernel
theorem dX9_variable_37 : decode cX9_variable 37 = .ok (.lastore, 1) := by decide +kernel
theorem dX9_variable_38 : decode cX9_variable 38 = .ok (.aload_n 0, 1) := by decide +kernel
theorem dX9_variable_39 : decode cX9_variable 39 = .ok (.getfield 50, 3) := by decide +kernel
theorem dX9_variable_42 : decode cX9_variable 42 = .ok (.invokevirtual 100, 3) := by decide +kernel
theorem dX9_variable_45 : decode cX9_variable 45 = .ok (.aload_n 0, 1) := by decide +kernel
theorem dX9_variable_46 : decode cX9_variable 46 = .ok (.aload_n 0, 1) := by decide +kernel
theorem dX9_variable_47 : decode cX9_variable 47 = .ok (.getfield 50, 3) := by decide +kernel
theorem dX9_variable_50 : decode cX9_variable 50 = .ok (.invokevirtual 103, 3) := by decide +kernel
theorem dX9_variable_53 : decode cX9_variable 53 = .ok (.ireturn, 1) := by decide +kernel
