theorem d_Mo_flags_12 : decode b_Mo_flags 12 = .ok (.iconst 0, 1) := by decide +kernel
theorem d_Mo_flags_13 : decode b_Mo_flags 13 = .ok (.putfield 80, 3) := by decide +kernel
theorem d_Mo_flags_16 : decode b_Mo_flags 16 = .ok (.aload_n 0, 1) := by decide +kernel
theorem d_Mo_flags_17 : decode b_Mo_flags 17 = .ok (.iload_n 1, 1) := by decide +kernel
theorem d_Mo_flags_18 : decode b_Mo_flags 18 = .ok (.iconst 4, 1) := by decide +kernel
theorem d_Mo_flags_19 : decode b_Mo_flags 19 = .ok (.iand, 1) := by decide +kernel
theorem d_Mo_flags_20 : decode b_Mo_flags 20 = .ok (.ifCond .eq (7), 3) := by decide +kernel
theorem d_Mo_flags_23 : decode b_Mo_flags 23 = .ok (.iconst 1, 1) := by decide +kernel
theorem d_Mo_flags_24 : decode b_Mo_flags 24 = .ok (.goto (4), 3) := by decide +kernel
theorem d_Mo_flags_27 : decode b_Mo_flags 27 = .ok (.iconst 0, 1) := by decide +kernel
theorem d_Mo_flags_28 : decode b_Mo_flags 28 = .ok (.putfield 84, 3) := by decide +kernel
theorem d_Mo_flags_31 : decode b_Mo_flags 31 = .ok (.aload_n 0, 1) := by decide +kernel
theorem d_Mo_flags_32 : decode b_Mo_flags 32 = .ok (.iload_n 1, 1) := by decide +kernel
theorem d_Mo_flags_33 : decode b_Mo_flags 33 = .ok (.iconst 2, 1) := by decide +kernel
theorem d_Mo_flags_34 : decode b_Mo_flags 34 = .ok (.iand, 1) := by decide +kernel
theorem d_Mo_flags_35 : decode b_Mo_flags 35 = .ok (.ifCond .eq (7), 3) := by decide +kernel
theorem d_Mo_flags_38 : decode b_Mo_flags 38 = .ok (.iconst 1, 1) := by decide +kernel
theorem d_Mo_flags_39 : decode b_Mo_flags 39 = .ok (.goto (4), 3) := by decide +kernel
theorem d_Mo_flags_42 : decode b_Mo_flags 42 = .ok (.iconst 0, 1) := by decide +kernel
theorem d_Mo_flags_43 : decode b_Mo_flags 43 = .ok (.putfield 88, 3) := by decide +kernel
theorem d_Mo_flags_46 : decode b_Mo_flags 46 = .ok (.aload_n 0, 1) := by decide +kernel
theorem d_Mo_flags_47 : decode b_Mo_flags 47 = .ok (.iload_n 1, 1) := by decide +kernel
theorem d_Mo_flags_48 : decode b_Mo_flags 48 = .ok (.iconst 1, 1) := by decide +kernel
theorem d_Mo_flags_49 : decode b_Mo_flags 49 = .ok (.iand, 1) := by decide +kernel
theorem d_Mo_flags_50 : decode b_Mo_flags 50 = .ok (.ifCond .eq (7), 3) := by decide +kernel
theorem d_Mo_flags_53 : decode b_Mo_flags 53 = .ok (.iconst 1, 1) := by decide +kernel
theorem d_Mo_flags_54 : decode b_Mo_flags 54 = .ok (.goto (4), 3) := by decide +kernel
theorem d_Mo_flags_57 : decode b_Mo_flags 57 = .ok (.iconst 0, 1) := by decide +kernel
theorem d_Mo_flags_58 : decode b_Mo_flags 58 = .ok (.putfield 92, 3) := by decide +kernel
theorem d_Mo_flags_61 : decode b_Mo_flags 61 = .ok (.return_, 1) := by decide +kernel
theorem d_Mo_comeBack_0 : decode b_Mo_comeBack 0 = .ok (.aload_n 0, 1) := by decide +kernel
theorem d_Mo_comeBack_1 : decode b_Mo_comeBack 1 = .ok (.iload_n 1, 1) := by decide +kernel
theorem d_Mo_comeBack_2 : decode b_Mo_comeBack 2 = .ok (.bipush (28), 2) := by decide +kernel
theorem d_Mo_comeBack_4 : decode b_Mo_comeBack 4 = .ok (.iadd, 1) := by decide +kernel
theorem d_Mo_comeBack_5 : decode b_Mo_comeBack 5 = .ok (.invokevirtual 77, 3) := by decide +kernel
theorem d_Mo_comeBack_8 : decode b_Mo_comeBack 8 = .ok (.istore_n 2, 1) := by decide +kernel
theorem d_Mo_comeBack_9 : decode b_Mo_comeBack 9 = .ok (.iconst 0, 1) := by decide +kernel
theorem d_Mo_comeBack_10 : decode b_Mo_comeBack 10 = .ok (.istore_n 3, 1) := by decide +kernel
theorem d_Mo_comeBack_11 : decode b_Mo_comeBack 11 = .ok (.iload_n 3, 1) := by decide +kernel
theorem d_Mo_comeBack_12 : decode b_Mo_comeBack 12 = .ok (.iconst 4, 1) := by decide +kernel
theorem d_Mo_comeBack_13 : decode b_Mo_comeBack 13 = .ok (.if_icmp .ge (24), 3) := by decide +kernel
theorem d_Mo_comeBack_16 : decode b_Mo_comeBack 16 = .ok (.aload_n 0, 1) := by decide +kernel
theorem d_Mo_comeBack_17 : decode b_Mo_comeBack 17 = .ok (.getfield 13, 3) := by decide +kernel
theorem d_Mo_comeBack_20 : decode b_Mo_comeBack 20 = .ok (.iload_n 3, 1) := by decide +kernel
theorem d_Mo_comeBack_21 : decode b_Mo_comeBack 21 = .ok (.aload_n 0, 1) := by decide +kernel
theorem d_Mo_comeBack_22 : decode b_Mo_comeBack 22 = .ok (.iload_n 1, 1) := by decide +kernel
theorem d_Mo_comeBack_23 : decode b_Mo_comeBack 23 = .ok (.iconst 4, 1) := by decide +kernel
theorem d_Mo_comeBack_24 : decode b_Mo_comeBack 24 = .ok (.iload_n 3, 1) := by decide +kernel
theorem d_Mo_comeBack_25 : decode b_Mo_comeBack 25 = .ok (.imul, 1) := by decide +kernel
theorem d_Mo_comeBack_26 : decode b_Mo_comeBack 26 = .ok (.iadd, 1) := by decide +kernel
theorem d_Mo_comeBack_27 : decode b_Mo_comeBack 27 = .ok (.invokevirtual 77, 3) := by decide +kernel
theorem d_Mo_comeBack_30 : decode b_Mo_comeBack 30 = .ok (.iastore, 1) := by decide +kernel
theorem d_Mo_comeBack_31 : decode b_Mo_comeBack 31 = .ok (.iinc 3 (1), 3) := by decide +kernel
theorem d_Mo_comeBack_34 : decode b_Mo_comeBack 34 = .ok (.goto (-23), 3) := by decide +kernel
theorem d_Mo_comeBack_37 : decode b_Mo_comeBack 37 = .ok (.aload_n 0, 1) := by decide +kernel
theorem d_Mo_comeBack_38 : decode b_Mo_comeBack 38 = .ok (.getfield 13, 3) := by decide +kernel
theorem d_Mo_comeBack_41 : decode b_Mo_comeBack 41 = .ok (.bipush (12), 2) := by decide +kernel
theorem d_Mo_comeBack_43 : decode b_Mo_comeBack 43 = .ok (.aload_n 0, 1) := by decide +kernel
theorem d_Mo_comeBack_44 : decode b_Mo_comeBack 44 = .ok (.iload_n 1, 1) := by decide +kernel
theorem d_Mo_comeBack_45 : decode b_Mo_comeBack 45 = .ok (.bipush (16), 2) := by decide +kernel
theorem d_Mo_comeBack_47 : decode b_Mo_comeBack 47 = .ok (.iadd, 1) := by decide +kernel
theorem d_Mo_comeBack_48 : decode b_Mo_comeBack 48 = .ok (.invokevirtual 77, 3) := by decide +kernel
theorem d_Mo_comeBack_51 : decode b_Mo_comeBack 51 = .ok (.iastore, 1) := by decide +kernel
theorem d_Mo_comeBack_52 : decode b_Mo_comeBack 52 = .ok (.aload_n 0, 1) := by decide +kernel
theorem d_Mo_comeBack_53 : decode b_Mo_comeBack 53 = .ok (.getfield 13, 3) := by decide +kernel
theorem d_Mo_comeBack_56 : decode b_Mo_comeBack 56 = .ok (.bipush (14), 2) := by decide +kernel
theorem d_Mo_comeBack_58 : decode b_Mo_comeBack 58 = .ok (.aload_n 0, 1) := by decide +kernel
theorem d_Mo_comeBack_59 : decode b_Mo_comeBack 59 = .ok (.iload_n 1, 1) := by decide +kernel
theorem d_Mo_comeBack_60 : decode b_Mo_comeBack 60 = .ok (.bipush (20), 2) := by decide +kernel
theorem d_Mo_comeBack_62 : decode b_Mo_comeBack 62 = .ok (.iadd, 1) := by decide +kernel
theorem d_Mo_comeBack_63 : decode b_Mo_comeBack 63 = .ok (.invokevirtual 77, 3) := by decide +kernel
theorem d_Mo_comeBack_66 : decode b_Mo_comeBack 66 = .ok (.iastore, 1) := by decide +kernel
theorem d_Mo_comeBack_67 : decode b_Mo_comeBack 67 = .ok (.aload_n 0, 1) := by decide +kernel
theorem d_Mo_comeBack_68 : decode b_Mo_comeBack 68 = .ok (.getfield 13, 3) := by decide +kernel
theorem d_Mo_comeBack_71 : decode b_Mo_comeBack 71 = .ok (.bipush (15), 2) := by decide +kernel
theorem d_Mo_comeBack_73 : decode b_Mo_comeBack 73 = .ok (.aload_n 0, 1) := by decide +kernel
theorem d_Mo_comeBack_74 : decode b_Mo_comeBack 74 = .ok (.iload_n 1, 1) := by decide +kernel
theorem d_Mo_comeBack_75 : decode b_Mo_comeBack 75 = .ok (.bipush (24), 2) := by decide +kernel
theorem d_Mo_comeBack_77 : decode b_Mo_comeBack 77 = .ok (.iadd, 1) := by decide +kernel
theorem d_Mo_comeBack_78 : decode b_Mo_comeBack 78 = .ok (.invokevirtual 77, 3) := by decide +kernel
theorem d_Mo_comeBack_81 : decode b_Mo_comeBack 81 = .ok (.bipush (-2), 2) := by decide +kernel
theorem d_Mo_comeBack_83 : decode b_Mo_comeBack 83 = .ok (.iand, 1) := by decide +kernel
theorem d_Mo_comeBack_84 : decode b_Mo_comeBack 84 = .ok (.iastore, 1) := by decide +kernel
theorem d_Mo_comeBack_85 : decode b_Mo_comeBack 85 = .ok (.aload_n 0, 1) := by decide +kernel
theorem d_Mo_comeBack_86 : decode b_Mo_comeBack 86 = .ok (.iload_n 2, 1) := by decide +kernel
theorem d_Mo_comeBack_87 : decode b_Mo_comeBack 87 = .ok (.bipush (28), 2) := by decide +kernel
theorem d_Mo_comeBack_89 : decode b_Mo_comeBack 89 = .ok (.iushr, 1) := by decide +kernel
theorem d_Mo_comeBack_90 : decode b_Mo_comeBack 90 = .ok (.invokevirtual 117, 3) := by decide +kernel
theorem d_Mo_comeBack_93 : decode b_Mo_comeBack 93 = .ok (.aload_n 0, 1) := by decide +kernel
theorem d_Mo_comeBack_94 : decode b_Mo_comeBack 94 = .ok (.iload_n 2, 1) := by decide +kernel
theorem d_Mo_comeBack_95 : decode b_Mo_comeBack 95 = .ok (.bipush (15), 2) := by decide +kernel
theorem d_Mo_comeBack_97 : decode b_Mo_comeBack 97 = .ok (.iand, 1) := by decide +kernel
theorem d_Mo_comeBack_98 : decode b_Mo_comeBack 98 = .ok (.putfield 74, 3) := by decide +kernel
theorem d_Mo_comeBack_101 : decode b_Mo_comeBack 101 = .ok (.aload_n 0, 1) := by decide +kernel
theorem d_Mo_comeBack_102 : decode b_Mo_comeBack 102 = .ok (.getfield 13, 3) := by decide +kernel
theorem d_Mo_comeBack_105 : decode b_Mo_comeBack 105 = .ok (.bipush (13), 2) := by decide +kernel
theorem d_Mo_comeBack_107 : decode b_Mo_comeBack 107 = .ok (.iload_n 1, 1) := by decide +kernel
theorem d_Mo_comeBack_108 : decode b_Mo_comeBack 108 = .ok (.iload_n 2, 1) := by decide +kernel
theorem d_Mo_comeBack_109 : decode b_Mo_comeBack 109 = .ok (.sipush (512), 3) := by decide +kernel
theorem d_Mo_comeBack_112 : decode b_Mo_comeBack 112 = .ok (.iand, 1) := by decide +kernel
theorem d_Mo_comeBack_113 : decode b_Mo_comeBack 113 = .ok (.ifCond .eq (8), 3) := by decide +kernel
theorem d_Mo_comeBack_116 : decode b_Mo_comeBack 116 = .ok (.bipush (36), 2) := by decide +kernel
theorem d_Mo_comeBack_118 : decode b_Mo_comeBack 118 = .ok (.goto (5), 3) := by decide +kernel
theorem d_Mo_comeBack_121 : decode b_Mo_comeBack 121 = .ok (.bipush (32), 2) := by decide +kernel
theorem d_Mo_comeBack_123 : decode b_Mo_comeBack 123 = .ok (.iadd, 1) := by decide +kernel
theorem d_Mo_comeBack_124 : decode b_Mo_comeBack 124 = .ok (.iastore, 1) := by decide +kernel
theorem d_Mo_comeBack_125 : decode b_Mo_comeBack 125 = .ok (.return_, 1) := by decide +kernel
theorem d_Mo_isReturn_0 : decode b_Mo_isReturn 0 = .ok (.aload_n 0, 1) := by decide +kernel
theorem d_Mo_isReturn_1 : decode b_Mo_isReturn 1 = .ok (.getfield 74, 3) := by decide +kernel
theorem d_Mo_isReturn_4 : decode b_Mo_isReturn 4 = .ok (.ifCond .eq (19), 3) := by decide +kernel
theorem d_Mo_isReturn_7 : decode b_Mo_isReturn 7 = .ok (.iload_n 1, 1) := by decide +kernel
theorem d_Mo_isReturn_8 : decode b_Mo_isReturn 8 = .ok (.bipush (-7), 2) := by decide +kernel
theorem d_Mo_isReturn_10 : decode b_Mo_isReturn 10 = .ok (.if_icmp .eq (9), 3) := by decide +kernel
theorem d_Mo_isReturn_13 : decode b_Mo_isReturn 13 = .ok (.iload_n 1, 1) := by decide +kernel
theorem d_Mo_isReturn_14 : decode b_Mo_isReturn 14 = .ok (.bipush (-15), 2) := by decide +kernel
theorem d_Mo_isReturn_16 : decode b_Mo_isReturn 16 = .ok (.if_icmp .ne (7), 3) := by decide +kernel
theorem d_Mo_isReturn_19 : decode b_Mo_isReturn 19 = .ok (.iconst 1, 1) := by decide +kernel
theorem d_Mo_isReturn_20 : decode b_Mo_isReturn 20 = .ok (.goto (4), 3) := by decide +kernel
theorem d_Mo_isReturn_23 : decode b_Mo_isReturn 23 = .ok (.iconst 0, 1) := by decide +kernel
theorem d_Mo_isReturn_24 : decode b_Mo_isReturn 24 = .ok (.ireturn, 1) := by decide +kernel
theorem d_Mo_fault_0 : decode b_Mo_fault 0 = .ok (.aload_n 0, 1) := by decide +kernel
theorem d_Mo_fault_1 : decode b_Mo_fault 1 = .ok (.dup, 1) := by decide +kernel
theorem d_Mo_fault_2 : decode b_Mo_fault 2 = .ok (.getfield 120, 3) := by decide +kernel
theorem d_Mo_fault_5 : decode b_Mo_fault 5 = .ok (.iconst 1, 1) := by decide +kernel
theorem d_Mo_fault_6 : decode b_Mo_fault 6 = .ok (.iadd, 1) := by decide +kernel
theorem d_Mo_fault_7 : decode b_Mo_fault 7 = .ok (.putfield 120, 3) := by decide +kernel
theorem d_Mo_fault_10 : decode b_Mo_fault 10 = .ok (.aload_n 0, 1) := by decide +kernel
theorem d_Mo_fault_11 : decode b_Mo_fault 11 = .ok (.invokevirtual 70, 3) := by decide +kernel
theorem d_Mo_fault_14 : decode b_Mo_fault 14 = .ok (.istore_n 2, 1) := by decide +kernel
theorem d_Mo_fault_15 : decode b_Mo_fault 15 = .ok (.aload_n 0, 1) := by decide +kernel
theorem d_Mo_fault_16 : decode b_Mo_fault 16 = .ok (.getfield 19, 3) := by decide +kernel
theorem d_Mo_fault_19 : decode b_Mo_fault 19 = .ok (.iload_n 1, 1) := by decide +kernel
theorem d_Mo_fault_20 : decode b_Mo_fault 20 = .ok (.baload, 1) := by decide +kernel
theorem d_Mo_fault_21 : decode b_Mo_fault 21 = .ok (.ifCond .eq (27), 3) := by decide +kernel
theorem d_Mo_fault_24 : decode b_Mo_fault 24 = .ok (.aload_n 0, 1) := by decide +kernel
theorem d_Mo_fault_25 : decode b_Mo_fault 25 = .ok (.aload_n 0, 1) := by decide +kernel
theorem d_Mo_fault_26 : decode b_Mo_fault 26 = .ok (.getfield 16, 3) := by decide +kernel
theorem d_Mo_fault_29 : decode b_Mo_fault 29 = .ok (.iload_n 1, 1) := by decide +kernel
theorem d_Mo_fault_30 : decode b_Mo_fault 30 = .ok (.iaload, 1) := by decide +kernel
theorem d_Mo_fault_31 : decode b_Mo_fault 31 = .ok (.invokevirtual 56, 3) := by decide +kernel
theorem d_Mo_fault_34 : decode b_Mo_fault 34 = .ok (.iload_n 2, 1) := by decide +kernel
theorem d_Mo_fault_35 : decode b_Mo_fault 35 = .ok (.if_icmp .ge (13), 3) := by decide +kernel
theorem d_Mo_fault_38 : decode b_Mo_fault 38 = .ok (.aload_n 0, 1) := by decide +kernel
theorem d_Mo_fault_39 : decode b_Mo_fault 39 = .ok (.getfield 23, 3) := by decide +kernel
theorem d_Mo_fault_42 : decode b_Mo_fault 42 = .ok (.iload_n 1, 1) := by decide +kernel
theorem d_Mo_fault_43 : decode b_Mo_fault 43 = .ok (.iconst 1, 1) := by decide +kernel
theorem d_Mo_fault_44 : decode b_Mo_fault 44 = .ok (.bastore, 1) := by decide +kernel
theorem d_Mo_fault_45 : decode b_Mo_fault 45 = .ok (.goto (23), 3) := by decide +kernel
theorem d_Mo_fault_48 : decode b_Mo_fault 48 = .ok (.iload_n 2, 1) := by decide +kernel
theorem d_Mo_fault_49 : decode b_Mo_fault 49 = .ok (.iconst (-1), 1) := by decide +kernel
theorem d_Mo_fault_50 : decode b_Mo_fault 50 = .ok (.if_icmp .le (13), 3) := by decide +kernel
theorem d_Mo_fault_53 : decode b_Mo_fault 53 = .ok (.aload_n 0, 1) := by decide +kernel
theorem d_Mo_fault_54 : decode b_Mo_fault 54 = .ok (.getfield 23, 3) := by decide +kernel
theorem d_Mo_fault_57 : decode b_Mo_fault 57 = .ok (.iconst 3, 1) := by decide +kernel
theorem d_Mo_fault_58 : decode b_Mo_fault 58 = .ok (.iconst 1, 1) := by decide +kernel
theorem d_Mo_fault_59 : decode b_Mo_fault 59 = .ok (.bastore, 1) := by decide +kernel
theorem d_Mo_fault_60 : decode b_Mo_fault 60 = .ok (.goto (8), 3) := by decide +kernel
theorem d_Mo_fault_63 : decode b_Mo_fault 63 = .ok (.aload_n 0, 1) := by decide +kernel
theorem d_Mo_fault_64 : decode b_Mo_fault 64 = .ok (.iconst 1, 1) := by decide +kernel
theorem d_Mo_fault_65 : decode b_Mo_fault 65 = .ok (.putfield 99, 3) := by decide +kernel
theorem d_Mo_fault_68 : decode b_Mo_fault 68 = .ok (.return_, 1) := by decide +kernel
theorem d_Mo_test_0 : decode b_Mo_test 0 = .ok (.aload_n 0, 1) := by decide +kernel
theorem d_Mo_test_1 : decode b_Mo_test 1 = .ok (.iload_n 1, 1) := by decide +kernel
theorem d_Mo_test_2 : decode b_Mo_test 2 = .ok (.ifCond .ge (7), 3) := by decide +kernel
theorem d_Mo_test_5 : decode b_Mo_test 5 = .ok (.iconst 1, 1) := by decide +kernel
theorem d_Mo_test_6 : decode b_Mo_test 6 = .ok (.goto (4), 3) := by decide +kernel
theorem d_Mo_test_9 : decode b_Mo_test 9 = .ok (.iconst 0, 1) := by decide +kernel
theorem d_Mo_test_10 : decode b_Mo_test 10 = .ok (.putfield 80, 3) := by decide +kernel
theorem d_Mo_test_13 : decode b_Mo_test 13 = .ok (.aload_n 0, 1) := by decide +kernel
theorem d_Mo_test_14 : decode b_Mo_test 14 = .ok (.iload_n 1, 1) := by decide +kernel
theorem d_Mo_test_15 : decode b_Mo_test 15 = .ok (.ifCond .ne (7), 3) := by decide +kernel
theorem d_Mo_test_18 : decode b_Mo_test 18 = .ok (.iconst 1, 1) := by decide +kernel
theorem d_Mo_test_19 : decode b_Mo_test 19 = .ok (.goto (4), 3) := by decide +kernel
theorem d_Mo_test_22 : decode b_Mo_test 22 = .ok (.iconst 0, 1) := by decide +kernel
theorem d_Mo_test_23 : decode b_Mo_test 23 = .ok (.putfield 84, 3) := by decide +kernel
theorem d_Mo_test_26 : decode b_Mo_test 26 = .ok (.return_, 1) := by decide +kernel
theorem d_Mo_sum_0 : decode b_Mo_sum 0 = .ok (.iload_n 1, 1) := by decide +kernel
theorem d_Mo_sum_1 : decode b_Mo_sum 1 = .ok (.i2l, 1) := by decide +kernel
theorem d_Mo_sum_2 : decode b_Mo_sum 2 = .ok (.ldc2_w 123, 3) := by decide +kernel
theorem d_Mo_sum_5 : decode b_Mo_sum 5 = .ok (.land, 1) := by decide +kernel
theorem d_Mo_sum_6 : decode b_Mo_sum 6 = .ok (.iload_n 2, 1) := by decide +kernel
theorem d_Mo_sum_7 : decode b_Mo_sum 7 = .ok (.i2l, 1) := by decide +kernel
theorem d_Mo_sum_8 : decode b_Mo_sum 8 = .ok (.ldc2_w 123, 3) := by decide +kernel
theorem d_Mo_sum_11 : decode b_Mo_sum 11 = .ok (.land, 1) := by decide +kernel
theorem d_Mo_sum_12 : decode b_Mo_sum 12 = .ok (.ladd, 1) := by decide +kernel
theorem d_Mo_sum_13 : decode b_Mo_sum 13 = .ok (.iload_n 3, 1) := by decide +kernel
theorem d_Mo_sum_14 : decode b_Mo_sum 14 = .ok (.i2l, 1) := by decide +kernel
theorem d_Mo_sum_15 : decode b_Mo_sum 15 = .ok (.ladd, 1) := by decide +kernel
theorem d_Mo_sum_16 : decode b_Mo_sum 16 = .ok (.lstore 4, 2) := by decide +kernel
theorem d_Mo_sum_18 : decode b_Mo_sum 18 = .ok (.iload_n 1, 1) := by decide +kernel
theorem d_Mo_sum_19 : decode b_Mo_sum 19 = .ok (.i2l, 1) := by decide +kernel
theorem d_Mo_sum_20 : decode b_Mo_sum 20 = .ok (.iload_n 2, 1) := by decide +kernel
theorem d_Mo_sum_21 : decode b_Mo_sum 21 = .ok (.i2l, 1) := by decide +kernel
theorem d_Mo_sum_22 : decode b_Mo_sum 22 = .ok (.ladd, 1) := by decide +kernel
theorem d_Mo_sum_23 : decode b_Mo_sum 23 = .ok (.iload_n 3, 1) := by decide +kernel
theorem d_Mo_sum_24 : decode b_Mo_sum 24 = .ok (.i2l, 1) := by decide +kernel
theorem d_Mo_sum_25 : decode b_Mo_sum 25 = .ok (.ladd, 1) := by decide +kernel
theorem d_Mo_sum_26 : decode b_Mo_sum 26 = .ok (.lstore 6, 2) := by decide +kernel
theorem d_Mo_sum_28 : decode b_Mo_sum 28 = .ok (.lload 4, 2) := by decide +kernel
theorem d_Mo_sum_30 : decode b_Mo_sum 30 = .ok (.l2i, 1) := by decide +kernel
theorem d_Mo_sum_31 : decode b_Mo_sum 31 = .ok (.istore 8, 2) := by decide +kernel
theorem d_Mo_sum_33 : decode b_Mo_sum 33 = .ok (.aload_n 0, 1) := by decide +kernel
theorem d_Mo_sum_34 : decode b_Mo_sum 34 = .ok (.iload 8, 2) := by decide +kernel
theorem d_Mo_sum_36 : decode b_Mo_sum 36 = .ok (.invokevirtual 125, 3) := by decide +kernel
theorem d_Mo_sum_39 : decode b_Mo_sum 39 = .ok (.aload_n 0, 1) := by decide +kernel
theorem d_Mo_sum_40 : decode b_Mo_sum 40 = .ok (.lload 4, 2) := by decide +kernel
theorem d_Mo_sum_42 : decode b_Mo_sum 42 = .ok (.bipush (32), 2) := by decide +kernel
theorem d_Mo_sum_44 : decode b_Mo_sum 44 = .ok (.lshr, 1) := by decide +kernel
theorem d_Mo_sum_45 : decode b_Mo_sum 45 = .ok (.lconst 0, 1) := by decide +kernel
theorem d_Mo_sum_46 : decode b_Mo_sum 46 = .ok (.lcmp, 1) := by decide +kernel
theorem d_Mo_sum_47 : decode b_Mo_sum 47 = .ok (.ifCond .eq (7), 3) := by decide +kernel
theorem d_Mo_sum_50 : decode b_Mo_sum 50 = .ok (.iconst 1, 1) := by decide +kernel
theorem d_Mo_sum_51 : decode b_Mo_sum 51 = .ok (.goto (4), 3) := by decide +kernel
theorem d_Mo_sum_54 : decode b_Mo_sum 54 = .ok (.iconst 0, 1) := by decide +kernel
theorem d_Mo_sum_55 : decode b_Mo_sum 55 = .ok (.putfield 88, 3) := by decide +kernel
theorem d_Mo_sum_58 : decode b_Mo_sum 58 = .ok (.aload_n 0, 1) := by decide +kernel
theorem d_Mo_sum_59 : decode b_Mo_sum 59 = .ok (.lload 6, 2) := by decide +kernel
theorem d_Mo_sum_61 : decode b_Mo_sum 61 = .ok (.iload 8, 2) := by decide +kernel
theorem d_Mo_sum_63 : decode b_Mo_sum 63 = .ok (.i2l, 1) := by decide +kernel
theorem d_Mo_sum_64 : decode b_Mo_sum 64 = .ok (.lcmp, 1) := by decide +kernel
theorem d_Mo_sum_65 : decode b_Mo_sum 65 = .ok (.ifCond .eq (7), 3) := by decide +kernel
theorem d_Mo_sum_68 : decode b_Mo_sum 68 = .ok (.iconst 1, 1) := by decide +kernel
theorem d_Mo_sum_69 : decode b_Mo_sum 69 = .ok (.goto (4), 3) := by decide +kernel
theorem d_Mo_sum_72 : decode b_Mo_sum 72 = .ok (.iconst 0, 1) := by decide +kernel
theorem d_Mo_sum_73 : decode b_Mo_sum 73 = .ok (.putfield 92, 3) := by decide +kernel
theorem d_Mo_sum_76 : decode b_Mo_sum 76 = .ok (.iload 8, 2) := by decide +kernel
theorem d_Mo_sum_78 : decode b_Mo_sum 78 = .ok (.ireturn, 1) := by decide +kernel
theorem d_Mo_shift_0 : decode b_Mo_shift 0 = .ok (.iload_n 1, 1) := by decide +kernel
theorem d_Mo_shift_1 : decode b_Mo_shift 1 = .ok (.bipush (6), 2) := by decide +kernel
theorem d_Mo_shift_3 : decode b_Mo_shift 3 = .ok (.ishr, 1) := by decide +kernel
theorem d_Mo_shift_4 : decode b_Mo_shift 4 = .ok (.bipush (31), 2) := by decide +kernel
theorem d_Mo_shift_6 : decode b_Mo_shift 6 = .ok (.iand, 1) := by decide +kernel
theorem d_Mo_shift_7 : decode b_Mo_shift 7 = .ok (.istore_n 2, 1) := by decide +kernel
theorem d_Mo_shift_8 : decode b_Mo_shift 8 = .ok (.aload_n 0, 1) := by decide +kernel
theorem d_Mo_shift_9 : decode b_Mo_shift 9 = .ok (.getfield 13, 3) := by decide +kernel
theorem d_Mo_shift_12 : decode b_Mo_shift 12 = .ok (.iload_n 1, 1) := by decide +kernel
theorem d_Mo_shift_13 : decode b_Mo_shift 13 = .ok (.iconst 3, 1) := by decide +kernel
theorem d_Mo_shift_14 : decode b_Mo_shift 14 = .ok (.ishr, 1) := by decide +kernel
theorem d_Mo_shift_15 : decode b_Mo_shift 15 = .ok (.bipush (7), 2) := by decide +kernel
theorem d_Mo_shift_17 : decode b_Mo_shift 17 = .ok (.iand, 1) := by decide +kernel
theorem d_Mo_shift_18 : decode b_Mo_shift 18 = .ok (.iaload, 1) := by decide +kernel
theorem d_Mo_shift_19 : decode b_Mo_shift 19 = .ok (.istore_n 3, 1) := by decide +kernel
theorem d_Mo_shift_20 : decode b_Mo_shift 20 = .ok (.iload_n 1, 1) := by decide +kernel
theorem d_Mo_shift_21 : decode b_Mo_shift 21 = .ok (.bipush (11), 2) := by decide +kernel
theorem d_Mo_shift_23 : decode b_Mo_shift 23 = .ok (.ishr, 1) := by decide +kernel
theorem d_Mo_shift_24 : decode b_Mo_shift 24 = .ok (.istore 4, 2) := by decide +kernel
theorem d_Mo_shift_26 : decode b_Mo_shift 26 = .ok (.iload_n 2, 1) := by decide +kernel
theorem d_Mo_shift_27 : decode b_Mo_shift 27 = .ok (.ifCond .le (37), 3) := by decide +kernel
theorem d_Mo_shift_30 : decode b_Mo_shift 30 = .ok (.aload_n 0, 1) := by decide +kernel
theorem d_Mo_shift_31 : decode b_Mo_shift 31 = .ok (.iload 4, 2) := by decide +kernel
theorem d_Mo_shift_33 : decode b_Mo_shift 33 = .ok (.ifCond .ne (12), 3) := by decide +kernel
theorem d_Mo_shift_36 : decode b_Mo_shift 36 = .ok (.iload_n 3, 1) := by decide +kernel
theorem d_Mo_shift_37 : decode b_Mo_shift 37 = .ok (.bipush (32), 2) := by decide +kernel
theorem d_Mo_shift_39 : decode b_Mo_shift 39 = .ok (.iload_n 2, 1) := by decide +kernel
theorem d_Mo_shift_40 : decode b_Mo_shift 40 = .ok (.isub, 1) := by decide +kernel
theorem d_Mo_shift_41 : decode b_Mo_shift 41 = .ok (.iushr, 1) := by decide +kernel
theorem d_Mo_shift_42 : decode b_Mo_shift 42 = .ok (.goto (8), 3) := by decide +kernel
theorem d_Mo_shift_45 : decode b_Mo_shift 45 = .ok (.iload_n 3, 1) := by decide +kernel
theorem d_Mo_shift_46 : decode b_Mo_shift 46 = .ok (.iload_n 2, 1) := by decide +kernel
theorem d_Mo_shift_47 : decode b_Mo_shift 47 = .ok (.iconst 1, 1) := by decide +kernel
theorem d_Mo_shift_48 : decode b_Mo_shift 48 = .ok (.isub, 1) := by decide +kernel
theorem d_Mo_shift_49 : decode b_Mo_shift 49 = .ok (.ishr, 1) := by decide +kernel
theorem d_Mo_shift_50 : decode b_Mo_shift 50 = .ok (.iconst 1, 1) := by decide +kernel
theorem d_Mo_shift_51 : decode b_Mo_shift 51 = .ok (.iand, 1) := by decide +kernel
theorem d_Mo_shift_52 : decode b_Mo_shift 52 = .ok (.iconst 1, 1) := by decide +kernel
theorem d_Mo_shift_53 : decode b_Mo_shift 53 = .ok (.if_icmp .ne (7), 3) := by decide +kernel
theorem d_Mo_shift_56 : decode b_Mo_shift 56 = .ok (.iconst 1, 1) := by decide +kernel
theorem d_Mo_shift_57 : decode b_Mo_shift 57 = .ok (.goto (4), 3) := by decide +kernel
theorem d_Mo_shift_60 : decode b_Mo_shift 60 = .ok (.iconst 0, 1) := by decide +kernel
theorem d_Mo_shift_61 : decode b_Mo_shift 61 = .ok (.putfield 88, 3) := by decide +kernel
theorem d_Mo_shift_64 : decode b_Mo_shift 64 = .ok (.iload_n 2, 1) := by decide +kernel
theorem d_Mo_shift_65 : decode b_Mo_shift 65 = .ok (.ifCond .ne (7), 3) := by decide +kernel
theorem d_Mo_shift_68 : decode b_Mo_shift 68 = .ok (.iload_n 3, 1) := by decide +kernel
theorem d_Mo_shift_69 : decode b_Mo_shift 69 = .ok (.goto (29), 3) := by decide +kernel
theorem d_Mo_shift_72 : decode b_Mo_shift 72 = .ok (.iload 4, 2) := by decide +kernel
theorem d_Mo_shift_74 : decode b_Mo_shift 74 = .ok (.ifCond .ne (9), 3) := by decide +kernel
theorem d_Mo_shift_77 : decode b_Mo_shift 77 = .ok (.iload_n 3, 1) := by decide +kernel
theorem d_Mo_shift_78 : decode b_Mo_shift 78 = .ok (.iload_n 2, 1) := by decide +kernel
theorem d_Mo_shift_79 : decode b_Mo_shift 79 = .ok (.ishl, 1) := by decide +kernel
theorem d_Mo_shift_80 : decode b_Mo_shift 80 = .ok (.goto (18), 3) := by decide +kernel
theorem d_Mo_shift_83 : decode b_Mo_shift 83 = .ok (.iload 4, 2) := by decide +kernel
theorem d_Mo_shift_85 : decode b_Mo_shift 85 = .ok (.iconst 1, 1) := by decide +kernel
theorem d_Mo_shift_86 : decode b_Mo_shift 86 = .ok (.if_icmp .ne (9), 3) := by decide +kernel
theorem d_Mo_shift_89 : decode b_Mo_shift 89 = .ok (.iload_n 3, 1) := by decide +kernel
theorem d_Mo_shift_90 : decode b_Mo_shift 90 = .ok (.iload_n 2, 1) := by decide +kernel
theorem d_Mo_shift_91 : decode b_Mo_shift 91 = .ok (.iushr, 1) := by decide +kernel
theorem d_Mo_shift_92 : decode b_Mo_shift 92 = .ok (.goto (6), 3) := by decide +kernel
theorem d_Mo_shift_95 : decode b_Mo_shift 95 = .ok (.iload_n 3, 1) := by decide +kernel
theorem d_Mo_shift_96 : decode b_Mo_shift 96 = .ok (.iload_n 2, 1) := by decide +kernel
theorem d_Mo_shift_97 : decode b_Mo_shift 97 = .ok (.ishr, 1) := by decide +kernel
theorem d_Mo_shift_98 : decode b_Mo_shift 98 = .ok (.istore 5, 2) := by decide +kernel
theorem d_Mo_shift_100 : decode b_Mo_shift 100 = .ok (.aload_n 0, 1) := by decide +kernel
theorem d_Mo_shift_101 : decode b_Mo_shift 101 = .ok (.iload 5, 2) := by decide +kernel
theorem d_Mo_shift_103 : decode b_Mo_shift 103 = .ok (.invokevirtual 125, 3) := by decide +kernel
theorem d_Mo_shift_106 : decode b_Mo_shift 106 = .ok (.aload_n 0, 1) := by decide +kernel
theorem d_Mo_shift_107 : decode b_Mo_shift 107 = .ok (.getfield 13, 3) := by decide +kernel
theorem d_Mo_shift_110 : decode b_Mo_shift 110 = .ok (.iload_n 1, 1) := by decide +kernel
theorem d_Mo_shift_111 : decode b_Mo_shift 111 = .ok (.bipush (7), 2) := by decide +kernel
theorem d_Mo_shift_113 : decode b_Mo_shift 113 = .ok (.iand, 1) := by decide +kernel
theorem d_Mo_shift_114 : decode b_Mo_shift 114 = .ok (.iload 5, 2) := by decide +kernel
theorem d_Mo_shift_116 : decode b_Mo_shift 116 = .ok (.iastore, 1) := by decide +kernel
theorem d_Mo_shift_117 : decode b_Mo_shift 117 = .ok (.iconst 0, 1) := by decide +kernel
theorem d_Mo_shift_118 : decode b_Mo_shift 118 = .ok (.ireturn, 1) := by decide +kernel
theorem d_Mo_immediate_0 : decode b_Mo_immediate 0 = .ok (.iload_n 1, 1) := by decide +kernel
theorem d_Mo_immediate_1 : decode b_Mo_immediate 1 = .ok (.bipush (8), 2) := by decide +kernel
theorem d_Mo_immediate_3 : decode b_Mo_immediate 3 = .ok (.ishr, 1) := by decide +kernel
theorem d_Mo_immediate_4 : decode b_Mo_immediate 4 = .ok (.bipush (7), 2) := by decide +kernel
theorem d_Mo_immediate_6 : decode b_Mo_immediate 6 = .ok (.iand, 1) := by decide +kernel
theorem d_Mo_immediate_7 : decode b_Mo_immediate 7 = .ok (.istore_n 2, 1) := by decide +kernel
theorem d_Mo_immediate_8 : decode b_Mo_immediate 8 = .ok (.iload_n 1, 1) := by decide +kernel
theorem d_Mo_immediate_9 : decode b_Mo_immediate 9 = .ok (.sipush (255), 3) := by decide +kernel
theorem d_Mo_immediate_12 : decode b_Mo_immediate 12 = .ok (.iand, 1) := by decide +kernel
theorem d_Mo_immediate_13 : decode b_Mo_immediate 13 = .ok (.istore_n 3, 1) := by decide +kernel
theorem d_Mo_immediate_14 : decode b_Mo_immediate 14 = .ok (.iload_n 1, 1) := by decide +kernel
theorem d_Mo_immediate_15 : decode b_Mo_immediate 15 = .ok (.bipush (11), 2) := by decide +kernel
theorem d_Mo_immediate_17 : decode b_Mo_immediate 17 = .ok (.ishr, 1) := by decide +kernel
theorem d_Mo_immediate_18 : decode b_Mo_immediate 18 = .ok (.iconst 3, 1) := by decide +kernel
theorem d_Mo_immediate_19 : decode b_Mo_immediate 19 = .ok (.iand, 1) := by decide +kernel
theorem d_Mo_immediate_20 : decode b_Mo_immediate 20 = .ok (.istore 4, 2) := by decide +kernel
theorem d_Mo_immediate_22 : decode b_Mo_immediate 22 = .ok (.iload 4, 2) := by decide +kernel
theorem d_Mo_immediate_24 : decode b_Mo_immediate 24 = .ok (.ifCond .ne (8), 3) := by decide +kernel
theorem d_Mo_immediate_27 : decode b_Mo_immediate 27 = .ok (.aload_n 0, 1) := by decide +kernel
theorem d_Mo_immediate_28 : decode b_Mo_immediate 28 = .ok (.iload_n 3, 1) := by decide +kernel
theorem d_Mo_immediate_29 : decode b_Mo_immediate 29 = .ok (.invokevirtual 125, 3) := by decide +kernel
theorem d_Mo_immediate_32 : decode b_Mo_immediate 32 = .ok (.iload 4, 2) := by decide +kernel
theorem d_Mo_immediate_34 : decode b_Mo_immediate 34 = .ok (.ifCond .ne (7), 3) := by decide +kernel
theorem d_Mo_immediate_37 : decode b_Mo_immediate 37 = .ok (.iload_n 3, 1) := by decide +kernel
theorem d_Mo_immediate_38 : decode b_Mo_immediate 38 = .ok (.goto (38), 3) := by decide +kernel
theorem d_Mo_immediate_41 : decode b_Mo_immediate 41 = .ok (.iload 4, 2) := by decide +kernel
theorem d_Mo_immediate_43 : decode b_Mo_immediate 43 = .ok (.iconst 2, 1) := by decide +kernel
theorem d_Mo_immediate_44 : decode b_Mo_immediate 44 = .ok (.if_icmp .ne (18), 3) := by decide +kernel
theorem d_Mo_immediate_47 : decode b_Mo_immediate 47 = .ok (.aload_n 0, 1) := by decide +kernel
theorem d_Mo_immediate_48 : decode b_Mo_immediate 48 = .ok (.aload_n 0, 1) := by decide +kernel
theorem d_Mo_immediate_49 : decode b_Mo_immediate 49 = .ok (.getfield 13, 3) := by decide +kernel
theorem d_Mo_immediate_52 : decode b_Mo_immediate 52 = .ok (.iload_n 2, 1) := by decide +kernel
theorem d_Mo_immediate_53 : decode b_Mo_immediate 53 = .ok (.iaload, 1) := by decide +kernel
theorem d_Mo_immediate_54 : decode b_Mo_immediate 54 = .ok (.iload_n 3, 1) := by decide +kernel
theorem d_Mo_immediate_55 : decode b_Mo_immediate 55 = .ok (.iconst 0, 1) := by decide +kernel
theorem d_Mo_immediate_56 : decode b_Mo_immediate 56 = .ok (.invokevirtual 128, 3) := by decide +kernel
theorem d_Mo_immediate_59 : decode b_Mo_immediate 59 = .ok (.goto (17), 3) := by decide +kernel
theorem d_Mo_immediate_62 : decode b_Mo_immediate 62 = .ok (.aload_n 0, 1) := by decide +kernel
theorem d_Mo_immediate_63 : decode b_Mo_immediate 63 = .ok (.aload_n 0, 1) := by decide +kernel
theorem d_Mo_immediate_64 : decode b_Mo_immediate 64 = .ok (.getfield 13, 3) := by decide +kernel
theorem d_Mo_immediate_67 : decode b_Mo_immediate 67 = .ok (.iload_n 2, 1) := by decide +kernel
theorem d_Mo_immediate_68 : decode b_Mo_immediate 68 = .ok (.iaload, 1) := by decide +kernel
theorem d_Mo_immediate_69 : decode b_Mo_immediate 69 = .ok (.iload_n 3, 1) := by decide +kernel
theorem d_Mo_immediate_70 : decode b_Mo_immediate 70 = .ok (.iconst (-1), 1) := by decide +kernel
theorem d_Mo_immediate_71 : decode b_Mo_immediate 71 = .ok (.ixor, 1) := by decide +kernel
theorem d_Mo_immediate_72 : decode b_Mo_immediate 72 = .ok (.iconst 1, 1) := by decide +kernel
theorem d_Mo_immediate_73 : decode b_Mo_immediate 73 = .ok (.invokevirtual 128, 3) := by decide +kernel
theorem d_Mo_immediate_76 : decode b_Mo_immediate 76 = .ok (.istore 5, 2) := by decide +kernel
theorem d_Mo_immediate_78 : decode b_Mo_immediate 78 = .ok (.iload 4, 2) := by decide +kernel
theorem d_Mo_immediate_80 : decode b_Mo_immediate 80 = .ok (.iconst 1, 1) := by decide +kernel
theorem d_Mo_immediate_81 : decode b_Mo_immediate 81 = .ok (.if_icmp .eq (11), 3) := by decide +kernel
theorem d_Mo_immediate_84 : decode b_Mo_immediate 84 = .ok (.aload_n 0, 1) := by decide +kernel
theorem d_Mo_immediate_85 : decode b_Mo_immediate 85 = .ok (.getfield 13, 3) := by decide +kernel
theorem d_Mo_immediate_88 : decode b_Mo_immediate 88 = .ok (.iload_n 2, 1) := by decide +kernel
theorem d_Mo_immediate_89 : decode b_Mo_immediate 89 = .ok (.iload 5, 2) := by decide +kernel
theorem d_Mo_immediate_91 : decode b_Mo_immediate 91 = .ok (.iastore, 1) := by decide +kernel
theorem d_Mo_immediate_92 : decode b_Mo_immediate 92 = .ok (.iconst 0, 1) := by decide +kernel
theorem d_Mo_immediate_93 : decode b_Mo_immediate 93 = .ok (.ireturn, 1) := by decide +kernel
theorem d_Mo_logic_0 : decode b_Mo_logic 0 = .ok (.iload_n 1, 1) := by decide +kernel
theorem d_Mo_logic_1 : decode b_Mo_logic 1 = .ok (.bipush (6), 2) := by decide +kernel
theorem d_Mo_logic_3 : decode b_Mo_logic 3 = .ok (.ishr, 1) := by decide +kernel
theorem d_Mo_logic_4 : decode b_Mo_logic 4 = .ok (.bipush (15), 2) := by decide +kernel
theorem d_Mo_logic_6 : decode b_Mo_logic 6 = .ok (.iand, 1) := by decide +kernel
theorem d_Mo_logic_7 : decode b_Mo_logic 7 = .ok (.istore_n 2, 1) := by decide +kernel
theorem d_Mo_logic_8 : decode b_Mo_logic 8 = .ok (.iload_n 1, 1) := by decide +kernel
theorem d_Mo_logic_9 : decode b_Mo_logic 9 = .ok (.bipush (7), 2) := by decide +kernel
theorem d_Mo_logic_11 : decode b_Mo_logic 11 = .ok (.iand, 1) := by decide +kernel
theorem d_Mo_logic_12 : decode b_Mo_logic 12 = .ok (.istore_n 3, 1) := by decide +kernel
theorem d_Mo_logic_13 : decode b_Mo_logic 13 = .ok (.aload_n 0, 1) := by decide +kernel
theorem d_Mo_logic_14 : decode b_Mo_logic 14 = .ok (.getfield 13, 3) := by decide +kernel
theorem d_Mo_logic_17 : decode b_Mo_logic 17 = .ok (.iload_n 3, 1) := by decide +kernel
theorem d_Mo_logic_18 : decode b_Mo_logic 18 = .ok (.iaload, 1) := by decide +kernel
theorem d_Mo_logic_19 : decode b_Mo_logic 19 = .ok (.istore 4, 2) := by decide +kernel
theorem d_Mo_logic_21 : decode b_Mo_logic 21 = .ok (.aload_n 0, 1) := by decide +kernel
theorem d_Mo_logic_22 : decode b_Mo_logic 22 = .ok (.getfield 13, 3) := by decide +kernel
theorem d_Mo_logic_25 : decode b_Mo_logic 25 = .ok (.iload_n 1, 1) := by decide +kernel
theorem d_Mo_logic_26 : decode b_Mo_logic 26 = .ok (.iconst 3, 1) := by decide +kernel
theorem d_Mo_logic_27 : decode b_Mo_logic 27 = .ok (.ishr, 1) := by decide +kernel
theorem d_Mo_logic_28 : decode b_Mo_logic 28 = .ok (.bipush (7), 2) := by decide +kernel
theorem d_Mo_logic_30 : decode b_Mo_logic 30 = .ok (.iand, 1) := by decide +kernel
theorem d_Mo_logic_31 : decode b_Mo_logic 31 = .ok (.iaload, 1) := by decide +kernel
theorem d_Mo_logic_32 : decode b_Mo_logic 32 = .ok (.istore 5, 2) := by decide +kernel
theorem d_Mo_logic_34 : decode b_Mo_logic 34 = .ok (.aload_n 0, 1) := by decide +kernel
theorem d_Mo_logic_35 : decode b_Mo_logic 35 = .ok (.getfield 88, 3) := by decide +kernel
theorem d_Mo_logic_38 : decode b_Mo_logic 38 = .ok (.ifCond .eq (7), 3) := by decide +kernel
theorem d_Mo_logic_41 : decode b_Mo_logic 41 = .ok (.iconst 1, 1) := by decide +kernel
theorem d_Mo_logic_42 : decode b_Mo_logic 42 = .ok (.goto (4), 3) := by decide +kernel
theorem d_Mo_logic_45 : decode b_Mo_logic 45 = .ok (.iconst 0, 1) := by decide +kernel
theorem d_Mo_logic_46 : decode b_Mo_logic 46 = .ok (.istore 6, 2) := by decide +kernel
theorem d_Mo_logic_48 : decode b_Mo_logic 48 = .ok (.iload_n 2, 1) := by decide +kernel
theorem d_Mo_logic_49 : decode b_Mo_logic 49 = .ok (.iconst 5, 1) := by decide +kernel
theorem d_Mo_logic_50 : decode b_Mo_logic 50 = .ok (.if_icmp .ne (22), 3) := by decide +kernel
theorem d_Mo_logic_53 : decode b_Mo_logic 53 = .ok (.aload_n 0, 1) := by decide +kernel
theorem d_Mo_logic_54 : decode b_Mo_logic 54 = .ok (.getfield 13, 3) := by decide +kernel
theorem d_Mo_logic_57 : decode b_Mo_logic 57 = .ok (.iload_n 3, 1) := by decide +kernel
theorem d_Mo_logic_58 : decode b_Mo_logic 58 = .ok (.aload_n 0, 1) := by decide +kernel
theorem d_Mo_logic_59 : decode b_Mo_logic 59 = .ok (.iload 4, 2) := by decide +kernel
theorem d_Mo_logic_61 : decode b_Mo_logic 61 = .ok (.iload 5, 2) := by decide +kernel
theorem d_Mo_logic_63 : decode b_Mo_logic 63 = .ok (.iload 6, 2) := by decide +kernel
theorem d_Mo_logic_65 : decode b_Mo_logic 65 = .ok (.invokevirtual 128, 3) := by decide +kernel
theorem d_Mo_logic_68 : decode b_Mo_logic 68 = .ok (.iastore, 1) := by decide +kernel
theorem d_Mo_logic_69 : decode b_Mo_logic 69 = .ok (.goto (200), 3) := by decide +kernel
theorem d_Mo_logic_72 : decode b_Mo_logic 72 = .ok (.iload_n 2, 1) := by decide +kernel
theorem d_Mo_logic_73 : decode b_Mo_logic 73 = .ok (.bipush (6), 2) := by decide +kernel
theorem d_Mo_logic_75 : decode b_Mo_logic 75 = .ok (.if_icmp .ne (24), 3) := by decide +kernel
theorem d_Mo_logic_78 : decode b_Mo_logic 78 = .ok (.aload_n 0, 1) := by decide +kernel
theorem d_Mo_logic_79 : decode b_Mo_logic 79 = .ok (.getfield 13, 3) := by decide +kernel
theorem d_Mo_logic_82 : decode b_Mo_logic 82 = .ok (.iload_n 3, 1) := by decide +kernel
theorem d_Mo_logic_83 : decode b_Mo_logic 83 = .ok (.aload_n 0, 1) := by decide +kernel
theorem d_Mo_logic_84 : decode b_Mo_logic 84 = .ok (.iload 4, 2) := by decide +kernel
theorem d_Mo_logic_86 : decode b_Mo_logic 86 = .ok (.iload 5, 2) := by decide +kernel
theorem d_Mo_logic_88 : decode b_Mo_logic 88 = .ok (.iconst (-1), 1) := by decide +kernel
theorem d_Mo_logic_89 : decode b_Mo_logic 89 = .ok (.ixor, 1) := by decide +kernel
theorem d_Mo_logic_90 : decode b_Mo_logic 90 = .ok (.iload 6, 2) := by decide +kernel
theorem d_Mo_logic_92 : decode b_Mo_logic 92 = .ok (.invokevirtual 128, 3) := by decide +kernel
theorem d_Mo_logic_95 : decode b_Mo_logic 95 = .ok (.iastore, 1) := by decide +kernel
theorem d_Mo_logic_96 : decode b_Mo_logic 96 = .ok (.goto (173), 3) := by decide +kernel
theorem d_Mo_logic_99 : decode b_Mo_logic 99 = .ok (.iload_n 2, 1) := by decide +kernel
theorem d_Mo_logic_100 : decode b_Mo_logic 100 = .ok (.bipush (9), 2) := by decide +kernel
theorem d_Mo_logic_102 : decode b_Mo_logic 102 = .ok (.if_icmp .ne (22), 3) := by decide +kernel
theorem d_Mo_logic_105 : decode b_Mo_logic 105 = .ok (.aload_n 0, 1) := by decide +kernel
theorem d_Mo_logic_106 : decode b_Mo_logic 106 = .ok (.getfield 13, 3) := by decide +kernel
theorem d_Mo_logic_109 : decode b_Mo_logic 109 = .ok (.iload_n 3, 1) := by decide +kernel
theorem d_Mo_logic_110 : decode b_Mo_logic 110 = .ok (.aload_n 0, 1) := by decide +kernel
theorem d_Mo_logic_111 : decode b_Mo_logic 111 = .ok (.iconst 0, 1) := by decide +kernel
theorem d_Mo_logic_112 : decode b_Mo_logic 112 = .ok (.iload 5, 2) := by decide +kernel
theorem d_Mo_logic_114 : decode b_Mo_logic 114 = .ok (.iconst (-1), 1) := by decide +kernel
theorem d_Mo_logic_115 : decode b_Mo_logic 115 = .ok (.ixor, 1) := by decide +kernel
theorem d_Mo_logic_116 : decode b_Mo_logic 116 = .ok (.iconst 1, 1) := by decide +kernel
theorem d_Mo_logic_117 : decode b_Mo_logic 117 = .ok (.invokevirtual 128, 3) := by decide +kernel
theorem d_Mo_logic_120 : decode b_Mo_logic 120 = .ok (.iastore, 1) := by decide +kernel
theorem d_Mo_logic_121 : decode b_Mo_logic 121 = .ok (.goto (148), 3) := by decide +kernel
theorem d_Mo_logic_124 : decode b_Mo_logic 124 = .ok (.iload_n 2, 1) := by decide +kernel
theorem d_Mo_logic_125 : decode b_Mo_logic 125 = .ok (.bipush (10), 2) := by decide +kernel
theorem d_Mo_logic_127 : decode b_Mo_logic 127 = .ok (.if_icmp .ne (18), 3) := by decide +kernel
theorem d_Mo_logic_130 : decode b_Mo_logic 130 = .ok (.aload_n 0, 1) := by decide +kernel
theorem d_Mo_logic_131 : decode b_Mo_logic 131 = .ok (.iload 4, 2) := by decide +kernel
theorem d_Mo_logic_133 : decode b_Mo_logic 133 = .ok (.iload 5, 2) := by decide +kernel
theorem d_Mo_logic_135 : decode b_Mo_logic 135 = .ok (.iconst (-1), 1) := by decide +kernel
theorem d_Mo_logic_136 : decode b_Mo_logic 136 = .ok (.ixor, 1) := by decide +kernel
theorem d_Mo_logic_137 : decode b_Mo_logic 137 = .ok (.iconst 1, 1) := by decide +kernel
theorem d_Mo_logic_138 : decode b_Mo_logic 138 = .ok (.invokevirtual 128, 3) := by decide +kernel
theorem d_Mo_logic_141 : decode b_Mo_logic 141 = .ok (.pop, 1) := by decide +kernel
theorem d_Mo_logic_142 : decode b_Mo_logic 142 = .ok (.goto (127), 3) := by decide +kernel
theorem d_Mo_logic_145 : decode b_Mo_logic 145 = .ok (.iload_n 2, 1) := by decide +kernel
theorem d_Mo_logic_146 : decode b_Mo_logic 146 = .ok (.bipush (8), 2) := by decide +kernel
theorem d_Mo_logic_148 : decode b_Mo_logic 148 = .ok (.if_icmp .ne (15), 3) := by decide +kernel
theorem d_Mo_logic_151 : decode b_Mo_logic 151 = .ok (.aload_n 0, 1) := by decide +kernel
theorem d_Mo_logic_152 : decode b_Mo_logic 152 = .ok (.iload 4, 2) := by decide +kernel
theorem d_Mo_logic_154 : decode b_Mo_logic 154 = .ok (.iload 5, 2) := by decide +kernel
theorem d_Mo_logic_156 : decode b_Mo_logic 156 = .ok (.iand, 1) := by decide +kernel
theorem d_Mo_logic_157 : decode b_Mo_logic 157 = .ok (.invokevirtual 125, 3) := by decide +kernel
theorem d_Mo_logic_160 : decode b_Mo_logic 160 = .ok (.goto (109), 3) := by decide +kernel
theorem d_Mo_logic_163 : decode b_Mo_logic 163 = .ok (.iload_n 2, 1) := by decide +kernel
theorem d_Mo_logic_164 : decode b_Mo_logic 164 = .ok (.iconst 2, 1) := by decide +kernel
theorem d_Mo_logic_165 : decode b_Mo_logic 165 = .ok (.if_icmp .lt (9), 3) := by decide +kernel
theorem d_Mo_logic_168 : decode b_Mo_logic 168 = .ok (.iload_n 2, 1) := by decide +kernel
theorem d_Mo_logic_169 : decode b_Mo_logic 169 = .ok (.bipush (11), 2) := by decide +kernel
theorem d_Mo_logic_171 : decode b_Mo_logic 171 = .ok (.if_icmp .le (95), 3) := by decide +kernel
theorem d_Mo_logic_174 : decode b_Mo_logic 174 = .ok (.aload_n 0, 1) := by decide +kernel
theorem d_Mo_logic_175 : decode b_Mo_logic 175 = .ok (.getfield 13, 3) := by decide +kernel
theorem d_Mo_logic_178 : decode b_Mo_logic 178 = .ok (.iload_n 3, 1) := by decide +kernel
theorem d_Mo_logic_179 : decode b_Mo_logic 179 = .ok (.iload_n 2, 1) := by decide +kernel
theorem d_Mo_logic_180 : decode b_Mo_logic 180 = .ok (.ifCond .ne (11), 3) := by decide +kernel
theorem d_Mo_logic_183 : decode b_Mo_logic 183 = .ok (.iload 4, 2) := by decide +kernel
theorem d_Mo_logic_185 : decode b_Mo_logic 185 = .ok (.iload 5, 2) := by decide +kernel
theorem d_Mo_logic_187 : decode b_Mo_logic 187 = .ok (.iand, 1) := by decide +kernel
theorem d_Mo_logic_188 : decode b_Mo_logic 188 = .ok (.goto (64), 3) := by decide +kernel
theorem d_Mo_logic_191 : decode b_Mo_logic 191 = .ok (.iload_n 2, 1) := by decide +kernel
theorem d_Mo_logic_192 : decode b_Mo_logic 192 = .ok (.iconst 1, 1) := by decide +kernel
theorem d_Mo_logic_193 : decode b_Mo_logic 193 = .ok (.if_icmp .ne (11), 3) := by decide +kernel
theorem d_Mo_logic_196 : decode b_Mo_logic 196 = .ok (.iload 4, 2) := by decide +kernel
theorem d_Mo_logic_198 : decode b_Mo_logic 198 = .ok (.iload 5, 2) := by decide +kernel
theorem d_Mo_logic_200 : decode b_Mo_logic 200 = .ok (.ixor, 1) := by decide +kernel
theorem d_Mo_logic_201 : decode b_Mo_logic 201 = .ok (.goto (51), 3) := by decide +kernel
theorem d_Mo_logic_204 : decode b_Mo_logic 204 = .ok (.iload_n 2, 1) := by decide +kernel
theorem d_Mo_logic_205 : decode b_Mo_logic 205 = .ok (.bipush (12), 2) := by decide +kernel
theorem d_Mo_logic_207 : decode b_Mo_logic 207 = .ok (.if_icmp .ne (11), 3) := by decide +kernel
theorem d_Mo_logic_210 : decode b_Mo_logic 210 = .ok (.iload 4, 2) := by decide +kernel
theorem d_Mo_logic_212 : decode b_Mo_logic 212 = .ok (.iload 5, 2) := by decide +kernel
theorem d_Mo_logic_214 : decode b_Mo_logic 214 = .ok (.ior, 1) := by decide +kernel
theorem d_Mo_logic_215 : decode b_Mo_logic 215 = .ok (.goto (37), 3) := by decide +kernel
theorem d_Mo_logic_218 : decode b_Mo_logic 218 = .ok (.iload_n 2, 1) := by decide +kernel
theorem d_Mo_logic_219 : decode b_Mo_logic 219 = .ok (.bipush (13), 2) := by decide +kernel
theorem d_Mo_logic_221 : decode b_Mo_logic 221 = .ok (.if_icmp .ne (11), 3) := by decide +kernel
theorem d_Mo_logic_224 : decode b_Mo_logic 224 = .ok (.iload 4, 2) := by decide +kernel
theorem d_Mo_logic_226 : decode b_Mo_logic 226 = .ok (.iload 5, 2) := by decide +kernel
theorem d_Mo_logic_228 : decode b_Mo_logic 228 = .ok (.imul, 1) := by decide +kernel
theorem d_Mo_logic_229 : decode b_Mo_logic 229 = .ok (.goto (23), 3) := by decide +kernel
theorem d_Mo_logic_232 : decode b_Mo_logic 232 = .ok (.iload_n 2, 1) := by decide +kernel
theorem d_Mo_logic_233 : decode b_Mo_logic 233 = .ok (.bipush (14), 2) := by decide +kernel
theorem d_Mo_logic_235 : decode b_Mo_logic 235 = .ok (.if_icmp .ne (13), 3) := by decide +kernel
theorem d_Mo_logic_238 : decode b_Mo_logic 238 = .ok (.iload 4, 2) := by decide +kernel
theorem d_Mo_logic_240 : decode b_Mo_logic 240 = .ok (.iload 5, 2) := by decide +kernel
theorem d_Mo_logic_242 : decode b_Mo_logic 242 = .ok (.iconst (-1), 1) := by decide +kernel
theorem d_Mo_logic_243 : decode b_Mo_logic 243 = .ok (.ixor, 1) := by decide +kernel
theorem d_Mo_logic_244 : decode b_Mo_logic 244 = .ok (.iand, 1) := by decide +kernel
theorem d_Mo_logic_245 : decode b_Mo_logic 245 = .ok (.goto (7), 3) := by decide +kernel
theorem d_Mo_logic_248 : decode b_Mo_logic 248 = .ok (.iload 5, 2) := by decide +kernel
theorem d_Mo_logic_250 : decode b_Mo_logic 250 = .ok (.iconst (-1), 1) := by decide +kernel
theorem d_Mo_logic_251 : decode b_Mo_logic 251 = .ok (.ixor, 1) := by decide +kernel
theorem d_Mo_logic_252 : decode b_Mo_logic 252 = .ok (.iastore, 1) := by decide +kernel
theorem d_Mo_logic_253 : decode b_Mo_logic 253 = .ok (.aload_n 0, 1) := by decide +kernel
theorem d_Mo_logic_254 : decode b_Mo_logic 254 = .ok (.aload_n 0, 1) := by decide +kernel
theorem d_Mo_logic_255 : decode b_Mo_logic 255 = .ok (.getfield 13, 3) := by decide +kernel
theorem d_Mo_logic_258 : decode b_Mo_logic 258 = .ok (.iload_n 3, 1) := by decide +kernel
theorem d_Mo_logic_259 : decode b_Mo_logic 259 = .ok (.iaload, 1) := by decide +kernel
theorem d_Mo_logic_260 : decode b_Mo_logic 260 = .ok (.invokevirtual 125, 3) := by decide +kernel
theorem d_Mo_logic_263 : decode b_Mo_logic 263 = .ok (.goto (6), 3) := by decide +kernel
theorem d_Mo_logic_266 : decode b_Mo_logic 266 = .ok (.bipush (6), 2) := by decide +kernel
theorem d_Mo_logic_268 : decode b_Mo_logic 268 = .ok (.ireturn, 1) := by decide +kernel
theorem d_Mo_logic_269 : decode b_Mo_logic 269 = .ok (.iconst 0, 1) := by decide +kernel
theorem d_Mo_logic_270 : decode b_Mo_logic 270 = .ok (.ireturn, 1) := by decide +kernel
theorem d_Mo_moveHigh_0 : decode b_Mo_moveHigh 0 = .ok (.iload_n 1, 1) := by decide +kernel
theorem d_Mo_moveHigh_1 : decode b_Mo_moveHigh 1 = .ok (.iconst 4, 1) := by decide +kernel
theorem d_Mo_moveHigh_2 : decode b_Mo_moveHigh 2 = .ok (.ishr, 1) := by decide +kernel
theorem d_Mo_moveHigh_3 : decode b_Mo_moveHigh 3 = .ok (.bipush (8), 2) := by decide +kernel
theorem d_Mo_moveHigh_5 : decode b_Mo_moveHigh 5 = .ok (.iand, 1) := by decide +kernel
theorem d_Mo_moveHigh_6 : decode b_Mo_moveHigh 6 = .ok (.iload_n 1, 1) := by decide +kernel
theorem d_Mo_moveHigh_7 : decode b_Mo_moveHigh 7 = .ok (.bipush (7), 2) := by decide +kernel
theorem d_Mo_moveHigh_9 : decode b_Mo_moveHigh 9 = .ok (.iand, 1) := by decide +kernel
theorem d_Mo_moveHigh_10 : decode b_Mo_moveHigh 10 = .ok (.ior, 1) := by decide +kernel
theorem d_Mo_moveHigh_11 : decode b_Mo_moveHigh 11 = .ok (.istore_n 2, 1) := by decide +kernel
theorem d_Mo_moveHigh_12 : decode b_Mo_moveHigh 12 = .ok (.iload_n 1, 1) := by decide +kernel
theorem d_Mo_moveHigh_13 : decode b_Mo_moveHigh 13 = .ok (.iconst 3, 1) := by decide +kernel
theorem d_Mo_moveHigh_14 : decode b_Mo_moveHigh 14 = .ok (.ishr, 1) := by decide +kernel
theorem d_Mo_moveHigh_15 : decode b_Mo_moveHigh 15 = .ok (.bipush (15), 2) := by decide +kernel
theorem d_Mo_moveHigh_17 : decode b_Mo_moveHigh 17 = .ok (.iand, 1) := by decide +kernel
theorem d_Mo_moveHigh_18 : decode b_Mo_moveHigh 18 = .ok (.istore_n 3, 1) := by decide +kernel
theorem d_Mo_moveHigh_19 : decode b_Mo_moveHigh 19 = .ok (.iload_n 2, 1) := by decide +kernel
theorem d_Mo_moveHigh_20 : decode b_Mo_moveHigh 20 = .ok (.bipush (15), 2) := by decide +kernel
theorem d_Mo_moveHigh_22 : decode b_Mo_moveHigh 22 = .ok (.if_icmp .ne (6), 3) := by decide +kernel
theorem d_Mo_moveHigh_25 : decode b_Mo_moveHigh 25 = .ok (.bipush (6), 2) := by decide +kernel
theorem d_Mo_moveHigh_27 : decode b_Mo_moveHigh 27 = .ok (.ireturn, 1) := by decide +kernel
theorem d_Mo_moveHigh_28 : decode b_Mo_moveHigh 28 = .ok (.aload_n 0, 1) := by decide +kernel
theorem d_Mo_moveHigh_29 : decode b_Mo_moveHigh 29 = .ok (.getfield 13, 3) := by decide +kernel
theorem d_Mo_moveHigh_32 : decode b_Mo_moveHigh 32 = .ok (.iload_n 2, 1) := by decide +kernel
theorem d_Mo_moveHigh_33 : decode b_Mo_moveHigh 33 = .ok (.iload_n 3, 1) := by decide +kernel
theorem d_Mo_moveHigh_34 : decode b_Mo_moveHigh 34 = .ok (.bipush (15), 2) := by decide +kernel
theorem d_Mo_moveHigh_36 : decode b_Mo_moveHigh 36 = .ok (.if_icmp .ne (15), 3) := by decide +kernel
theorem d_Mo_moveHigh_39 : decode b_Mo_moveHigh 39 = .ok (.aload_n 0, 1) := by decide +kernel
theorem d_Mo_moveHigh_40 : decode b_Mo_moveHigh 40 = .ok (.getfield 13, 3) := by decide +kernel
theorem d_Mo_moveHigh_43 : decode b_Mo_moveHigh 43 = .ok (.bipush (15), 2) := by decide +kernel
theorem d_Mo_moveHigh_45 : decode b_Mo_moveHigh 45 = .ok (.iaload, 1) := by decide +kernel
theorem d_Mo_moveHigh_46 : decode b_Mo_moveHigh 46 = .ok (.iconst 4, 1) := by decide +kernel
theorem d_Mo_moveHigh_47 : decode b_Mo_moveHigh 47 = .ok (.iadd, 1) := by decide +kernel
theorem d_Mo_moveHigh_48 : decode b_Mo_moveHigh 48 = .ok (.goto (9), 3) := by decide +kernel
theorem d_Mo_moveHigh_51 : decode b_Mo_moveHigh 51 = .ok (.aload_n 0, 1) := by decide +kernel
theorem d_Mo_moveHigh_52 : decode b_Mo_moveHigh 52 = .ok (.getfield 13, 3) := by decide +kernel
theorem d_Mo_moveHigh_55 : decode b_Mo_moveHigh 55 = .ok (.iload_n 3, 1) := by decide +kernel
theorem d_Mo_moveHigh_56 : decode b_Mo_moveHigh 56 = .ok (.iaload, 1) := by decide +kernel
theorem d_Mo_moveHigh_57 : decode b_Mo_moveHigh 57 = .ok (.iastore, 1) := by decide +kernel
theorem d_Mo_moveHigh_58 : decode b_Mo_moveHigh 58 = .ok (.iconst 0, 1) := by decide +kernel
theorem d_Mo_moveHigh_59 : decode b_Mo_moveHigh 59 = .ok (.ireturn, 1) := by decide +kernel
theorem d_Mo_jump_0 : decode b_Mo_jump 0 = .ok (.aload_n 0, 1) := by decide +kernel
theorem d_Mo_jump_1 : decode b_Mo_jump 1 = .ok (.iload_n 1, 1) := by decide +kernel
theorem d_Mo_jump_2 : decode b_Mo_jump 2 = .ok (.invokevirtual 132, 3) := by decide +kernel
theorem d_Mo_jump_5 : decode b_Mo_jump 5 = .ok (.ifCond .ne (24), 3) := by decide +kernel
theorem d_Mo_jump_8 : decode b_Mo_jump 8 = .ok (.aload_n 0, 1) := by decide +kernel
theorem d_Mo_jump_9 : decode b_Mo_jump 9 = .ok (.getfield 13, 3) := by decide +kernel
theorem d_Mo_jump_12 : decode b_Mo_jump 12 = .ok (.bipush (13), 2) := by decide +kernel
theorem d_Mo_jump_14 : decode b_Mo_jump 14 = .ok (.iload_n 2, 1) := by decide +kernel
theorem d_Mo_jump_15 : decode b_Mo_jump 15 = .ok (.iastore, 1) := by decide +kernel
theorem d_Mo_jump_16 : decode b_Mo_jump 16 = .ok (.aload_n 0, 1) := by decide +kernel
theorem d_Mo_jump_17 : decode b_Mo_jump 17 = .ok (.getfield 13, 3) := by decide +kernel
theorem d_Mo_jump_20 : decode b_Mo_jump 20 = .ok (.bipush (15), 2) := by decide +kernel
theorem d_Mo_jump_22 : decode b_Mo_jump 22 = .ok (.iload_n 1, 1) := by decide +kernel
theorem d_Mo_jump_23 : decode b_Mo_jump 23 = .ok (.bipush (-2), 2) := by decide +kernel
theorem d_Mo_jump_25 : decode b_Mo_jump 25 = .ok (.iand, 1) := by decide +kernel
theorem d_Mo_jump_26 : decode b_Mo_jump 26 = .ok (.iastore, 1) := by decide +kernel
theorem d_Mo_jump_27 : decode b_Mo_jump 27 = .ok (.iconst 0, 1) := by decide +kernel
theorem d_Mo_jump_28 : decode b_Mo_jump 28 = .ok (.ireturn, 1) := by decide +kernel
theorem d_Mo_jump_29 : decode b_Mo_jump 29 = .ok (.aload_n 0, 1) := by decide +kernel
theorem d_Mo_jump_30 : decode b_Mo_jump 30 = .ok (.getfield 26, 3) := by decide +kernel
theorem d_Mo_jump_33 : decode b_Mo_jump 33 = .ok (.aload_n 0, 1) := by decide +kernel
theorem d_Mo_jump_34 : decode b_Mo_jump 34 = .ok (.getfield 74, 3) := by decide +kernel
theorem d_Mo_jump_37 : decode b_Mo_jump 37 = .ok (.iconst 0, 1) := by decide +kernel
theorem d_Mo_jump_38 : decode b_Mo_jump 38 = .ok (.bastore, 1) := by decide +kernel
theorem d_Mo_jump_39 : decode b_Mo_jump 39 = .ok (.aload_n 0, 1) := by decide +kernel
theorem d_Mo_jump_40 : decode b_Mo_jump 40 = .ok (.getfield 74, 3) := by decide +kernel
theorem d_Mo_jump_43 : decode b_Mo_jump 43 = .ok (.iconst 2, 1) := by decide +kernel
theorem d_Mo_jump_44 : decode b_Mo_jump 44 = .ok (.if_icmp .eq (8), 3) := by decide +kernel
theorem d_Mo_jump_47 : decode b_Mo_jump 47 = .ok (.aload_n 0, 1) := by decide +kernel
theorem d_Mo_jump_48 : decode b_Mo_jump 48 = .ok (.iconst 0, 1) := by decide +kernel
theorem d_Mo_jump_49 : decode b_Mo_jump 49 = .ok (.putfield 67, 3) := by decide +kernel
theorem d_Mo_jump_52 : decode b_Mo_jump 52 = .ok (.aload_n 0, 1) := by decide +kernel
theorem d_Mo_jump_53 : decode b_Mo_jump 53 = .ok (.invokevirtual 135, 3) := by decide +kernel
theorem d_Mo_jump_56 : decode b_Mo_jump 56 = .ok (.istore_n 3, 1) := by decide +kernel
theorem d_Mo_jump_57 : decode b_Mo_jump 57 = .ok (.iload_n 3, 1) := by decide +kernel
theorem d_Mo_jump_58 : decode b_Mo_jump 58 = .ok (.ifCond .ne (15), 3) := by decide +kernel
theorem d_Mo_jump_61 : decode b_Mo_jump 61 = .ok (.aload_n 0, 1) := by decide +kernel
theorem d_Mo_jump_62 : decode b_Mo_jump 62 = .ok (.iload_n 2, 1) := by decide +kernel
theorem d_Mo_jump_63 : decode b_Mo_jump 63 = .ok (.iload_n 1, 1) := by decide +kernel
theorem d_Mo_jump_64 : decode b_Mo_jump 64 = .ok (.invokevirtual 138, 3) := by decide +kernel
theorem d_Mo_jump_67 : decode b_Mo_jump 67 = .ok (.ifCond .ne (6), 3) := by decide +kernel
theorem d_Mo_jump_70 : decode b_Mo_jump 70 = .ok (.bipush (6), 2) := by decide +kernel
theorem d_Mo_jump_72 : decode b_Mo_jump 72 = .ok (.ireturn, 1) := by decide +kernel
theorem d_Mo_jump_73 : decode b_Mo_jump 73 = .ok (.aload_n 0, 1) := by decide +kernel
theorem d_Mo_jump_74 : decode b_Mo_jump 74 = .ok (.getfield 13, 3) := by decide +kernel
theorem d_Mo_jump_77 : decode b_Mo_jump 77 = .ok (.bipush (13), 2) := by decide +kernel
theorem d_Mo_jump_79 : decode b_Mo_jump 79 = .ok (.iload_n 2, 1) := by decide +kernel
theorem d_Mo_jump_80 : decode b_Mo_jump 80 = .ok (.iastore, 1) := by decide +kernel
theorem d_Mo_jump_81 : decode b_Mo_jump 81 = .ok (.iload_n 3, 1) := by decide +kernel
theorem d_Mo_jump_82 : decode b_Mo_jump 82 = .ok (.ifCond .le (29), 3) := by decide +kernel
theorem d_Mo_jump_85 : decode b_Mo_jump 85 = .ok (.aload_n 0, 1) := by decide +kernel
theorem d_Mo_jump_86 : decode b_Mo_jump 86 = .ok (.dup, 1) := by decide +kernel
theorem d_Mo_jump_87 : decode b_Mo_jump 87 = .ok (.getfield 141, 3) := by decide +kernel
theorem d_Mo_jump_90 : decode b_Mo_jump 90 = .ok (.iconst 1, 1) := by decide +kernel
theorem d_Mo_jump_91 : decode b_Mo_jump 91 = .ok (.iadd, 1) := by decide +kernel
theorem d_Mo_jump_92 : decode b_Mo_jump 92 = .ok (.putfield 141, 3) := by decide +kernel
theorem d_Mo_jump_95 : decode b_Mo_jump 95 = .ok (.aload_n 0, 1) := by decide +kernel
theorem d_Mo_jump_96 : decode b_Mo_jump 96 = .ok (.getfield 13, 3) := by decide +kernel
theorem d_Mo_jump_99 : decode b_Mo_jump 99 = .ok (.bipush (14), 2) := by decide +kernel
theorem d_Mo_jump_101 : decode b_Mo_jump 101 = .ok (.iload_n 1, 1) := by decide +kernel
theorem d_Mo_jump_102 : decode b_Mo_jump 102 = .ok (.iastore, 1) := by decide +kernel
theorem d_Mo_jump_103 : decode b_Mo_jump 103 = .ok (.aload_n 0, 1) := by decide +kernel
theorem d_Mo_jump_104 : decode b_Mo_jump 104 = .ok (.iload_n 3, 1) := by decide +kernel
theorem d_Mo_jump_105 : decode b_Mo_jump 105 = .ok (.invokevirtual 110, 3) := by decide +kernel
theorem d_Mo_jump_108 : decode b_Mo_jump 108 = .ok (.goto (8), 3) := by decide +kernel
theorem d_Mo_jump_111 : decode b_Mo_jump 111 = .ok (.aload_n 0, 1) := by decide +kernel
theorem d_Mo_jump_112 : decode b_Mo_jump 112 = .ok (.iload_n 2, 1) := by decide +kernel
theorem d_Mo_jump_113 : decode b_Mo_jump 113 = .ok (.invokevirtual 144, 3) := by decide +kernel
theorem d_Mo_jump_116 : decode b_Mo_jump 116 = .ok (.iconst 0, 1) := by decide +kernel
theorem d_Mo_jump_117 : decode b_Mo_jump 117 = .ok (.ireturn, 1) := by decide +kernel
theorem d_Mo_exchange_0 : decode b_Mo_exchange 0 = .ok (.iload_n 1, 1) := by decide +kernel
theorem d_Mo_exchange_1 : decode b_Mo_exchange 1 = .ok (.iconst 3, 1) := by decide +kernel
theorem d_Mo_exchange_2 : decode b_Mo_exchange 2 = .ok (.ishr, 1) := by decide +kernel
theorem d_Mo_exchange_3 : decode b_Mo_exchange 3 = .ok (.bipush (15), 2) := by decide +kernel
theorem d_Mo_exchange_5 : decode b_Mo_exchange 5 = .ok (.iand, 1) := by decide +kernel
theorem d_Mo_exchange_6 : decode b_Mo_exchange 6 = .ok (.istore_n 2, 1) := by decide +kernel
theorem d_Mo_exchange_7 : decode b_Mo_exchange 7 = .ok (.iload_n 2, 1) := by decide +kernel
theorem d_Mo_exchange_8 : decode b_Mo_exchange 8 = .ok (.bipush (15), 2) := by decide +kernel
theorem d_Mo_exchange_10 : decode b_Mo_exchange 10 = .ok (.if_icmp .ne (8), 3) := by decide +kernel
theorem d_Mo_exchange_13 : decode b_Mo_exchange 13 = .ok (.bipush (6), 2) := by decide +kernel
theorem d_Mo_exchange_15 : decode b_Mo_exchange 15 = .ok (.goto (20), 3) := by decide +kernel
theorem d_Mo_exchange_18 : decode b_Mo_exchange 18 = .ok (.aload_n 0, 1) := by decide +kernel
theorem d_Mo_exchange_19 : decode b_Mo_exchange 19 = .ok (.aload_n 0, 1) := by decide +kernel
theorem d_Mo_exchange_20 : decode b_Mo_exchange 20 = .ok (.getfield 13, 3) := by decide +kernel
theorem d_Mo_exchange_23 : decode b_Mo_exchange 23 = .ok (.iload_n 2, 1) := by decide +kernel
theorem d_Mo_exchange_24 : decode b_Mo_exchange 24 = .ok (.iaload, 1) := by decide +kernel
theorem d_Mo_exchange_25 : decode b_Mo_exchange 25 = .ok (.aload_n 0, 1) := by decide +kernel
theorem d_Mo_exchange_26 : decode b_Mo_exchange 26 = .ok (.getfield 13, 3) := by decide +kernel
theorem d_Mo_exchange_29 : decode b_Mo_exchange 29 = .ok (.bipush (13), 2) := by decide +kernel
theorem d_Mo_exchange_31 : decode b_Mo_exchange 31 = .ok (.iaload, 1) := by decide +kernel
theorem d_Mo_exchange_32 : decode b_Mo_exchange 32 = .ok (.invokevirtual 147, 3) := by decide +kernel
theorem d_Mo_exchange_35 : decode b_Mo_exchange 35 = .ok (.ireturn, 1) := by decide +kernel
theorem d_Mo_move_0 : decode b_Mo_move 0 = .ok (.aload_n 0, 1) := by decide +kernel
theorem d_Mo_move_1 : decode b_Mo_move 1 = .ok (.iload_n 2, 1) := by decide +kernel
theorem d_Mo_move_2 : decode b_Mo_move 2 = .ok (.iconst 1, 1) := by decide +kernel
theorem d_Mo_move_3 : decode b_Mo_move 3 = .ok (.iload_n 3, 1) := by decide +kernel
theorem d_Mo_move_4 : decode b_Mo_move 4 = .ok (.ifCond .eq (7), 3) := by decide +kernel
theorem d_Mo_move_7 : decode b_Mo_move 7 = .ok (.iconst 1, 1) := by decide +kernel
theorem d_Mo_move_8 : decode b_Mo_move 8 = .ok (.goto (4), 3) := by decide +kernel
theorem d_Mo_move_11 : decode b_Mo_move 11 = .ok (.iconst 2, 1) := by decide +kernel
theorem d_Mo_move_12 : decode b_Mo_move 12 = .ok (.invokevirtual 151, 3) := by decide +kernel
theorem d_Mo_move_15 : decode b_Mo_move 15 = .ok (.istore 4, 2) := by decide +kernel
theorem d_Mo_move_17 : decode b_Mo_move 17 = .ok (.iload 4, 2) := by decide +kernel
theorem d_Mo_move_19 : decode b_Mo_move 19 = .ok (.ifCond .le (6), 3) := by decide +kernel
theorem d_Mo_move_22 : decode b_Mo_move 22 = .ok (.iload 4, 2) := by decide +kernel
theorem d_Mo_move_24 : decode b_Mo_move 24 = .ok (.ireturn, 1) := by decide +kernel
theorem d_Mo_move_25 : decode b_Mo_move 25 = .ok (.iload_n 3, 1) := by decide +kernel
theorem d_Mo_move_26 : decode b_Mo_move 26 = .ok (.ifCond .eq (17), 3) := by decide +kernel
theorem d_Mo_move_29 : decode b_Mo_move 29 = .ok (.aload_n 0, 1) := by decide +kernel
theorem d_Mo_move_30 : decode b_Mo_move 30 = .ok (.getfield 13, 3) := by decide +kernel
theorem d_Mo_move_33 : decode b_Mo_move 33 = .ok (.iload_n 1, 1) := by decide +kernel
theorem d_Mo_move_34 : decode b_Mo_move 34 = .ok (.aload_n 0, 1) := by decide +kernel
theorem d_Mo_move_35 : decode b_Mo_move 35 = .ok (.iload_n 2, 1) := by decide +kernel
theorem d_Mo_move_36 : decode b_Mo_move 36 = .ok (.invokevirtual 77, 3) := by decide +kernel
theorem d_Mo_move_39 : decode b_Mo_move 39 = .ok (.iastore, 1) := by decide +kernel
theorem d_Mo_move_40 : decode b_Mo_move 40 = .ok (.goto (14), 3) := by decide +kernel
theorem d_Mo_move_43 : decode b_Mo_move 43 = .ok (.aload_n 0, 1) := by decide +kernel
theorem d_Mo_move_44 : decode b_Mo_move 44 = .ok (.iload_n 2, 1) := by decide +kernel
theorem d_Mo_move_45 : decode b_Mo_move 45 = .ok (.aload_n 0, 1) := by decide +kernel
theorem d_Mo_move_46 : decode b_Mo_move 46 = .ok (.getfield 13, 3) := by decide +kernel
theorem d_Mo_move_49 : decode b_Mo_move 49 = .ok (.iload_n 1, 1) := by decide +kernel
theorem d_Mo_move_50 : decode b_Mo_move 50 = .ok (.iaload, 1) := by decide +kernel
theorem d_Mo_move_51 : decode b_Mo_move 51 = .ok (.invokevirtual 102, 3) := by decide +kernel
theorem d_Mo_move_54 : decode b_Mo_move 54 = .ok (.iconst 0, 1) := by decide +kernel
theorem d_Mo_move_55 : decode b_Mo_move 55 = .ok (.ireturn, 1) := by decide +kernel
theorem d_Mo_ones_0 : decode b_Mo_ones 0 = .ok (.iconst 0, 1) := by decide +kernel
theorem d_Mo_ones_1 : decode b_Mo_ones 1 = .ok (.istore_n 1, 1) := by decide +kernel
theorem d_Mo_ones_2 : decode b_Mo_ones 2 = .ok (.iconst 0, 1) := by decide +kernel
theorem d_Mo_ones_3 : decode b_Mo_ones 3 = .ok (.istore_n 2, 1) := by decide +kernel
theorem d_Mo_ones_4 : decode b_Mo_ones 4 = .ok (.iload_n 2, 1) := by decide +kernel
theorem d_Mo_ones_5 : decode b_Mo_ones 5 = .ok (.bipush (9), 2) := by decide +kernel
theorem d_Mo_ones_7 : decode b_Mo_ones 7 = .ok (.if_icmp .ge (17), 3) := by decide +kernel
theorem d_Mo_ones_10 : decode b_Mo_ones 10 = .ok (.iload_n 1, 1) := by decide +kernel
theorem d_Mo_ones_11 : decode b_Mo_ones 11 = .ok (.iload_n 0, 1) := by decide +kernel
theorem d_Mo_ones_12 : decode b_Mo_ones 12 = .ok (.iload_n 2, 1) := by decide +kernel
theorem d_Mo_ones_13 : decode b_Mo_ones 13 = .ok (.ishr, 1) := by decide +kernel
theorem d_Mo_ones_14 : decode b_Mo_ones 14 = .ok (.iconst 1, 1) := by decide +kernel
theorem d_Mo_ones_15 : decode b_Mo_ones 15 = .ok (.iand, 1) := by decide +kernel
theorem d_Mo_ones_16 : decode b_Mo_ones 16 = .ok (.iadd, 1) := by decide +kernel
theorem d_Mo_ones_17 : decode b_Mo_ones 17 = .ok (.istore_n 1, 1) := by decide +kernel
theorem d_Mo_ones_18 : decode b_Mo_ones 18 = .ok (.iinc 2 (1), 3) := by decide +kernel
theorem d_Mo_ones_21 : decode b_Mo_ones 21 = .ok (.goto (-17), 3) := by decide +kernel
theorem d_Mo_ones_24 : decode b_Mo_ones 24 = .ok (.iload_n 1, 1) := by decide +kernel
theorem d_Mo_ones_25 : decode b_Mo_ones 25 = .ok (.ireturn, 1) := by decide +kernel
theorem d_Mo_push_0 : decode b_Mo_push 0 = .ok (.iload_n 1, 1) := by decide +kernel
theorem d_Mo_push_1 : decode b_Mo_push 1 = .ok (.invokestatic 154, 3) := by decide +kernel
theorem d_Mo_push_4 : decode b_Mo_push 4 = .ok (.istore_n 2, 1) := by decide +kernel
theorem d_Mo_push_5 : decode b_Mo_push 5 = .ok (.aload_n 0, 1) := by decide +kernel
theorem d_Mo_push_6 : decode b_Mo_push 6 = .ok (.getfield 13, 3) := by decide +kernel
theorem d_Mo_push_9 : decode b_Mo_push 9 = .ok (.bipush (13), 2) := by decide +kernel
theorem d_Mo_push_11 : decode b_Mo_push 11 = .ok (.iaload, 1) := by decide +kernel
theorem d_Mo_push_12 : decode b_Mo_push 12 = .ok (.iconst 4, 1) := by decide +kernel
theorem d_Mo_push_13 : decode b_Mo_push 13 = .ok (.iload_n 2, 1) := by decide +kernel
theorem d_Mo_push_14 : decode b_Mo_push 14 = .ok (.imul, 1) := by decide +kernel
theorem d_Mo_push_15 : decode b_Mo_push 15 = .ok (.isub, 1) := by decide +kernel
theorem d_Mo_push_16 : decode b_Mo_push 16 = .ok (.istore_n 3, 1) := by decide +kernel
theorem d_Mo_push_17 : decode b_Mo_push 17 = .ok (.iload_n 2, 1) := by decide +kernel
theorem d_Mo_push_18 : decode b_Mo_push 18 = .ok (.ifCond .ne (8), 3) := by decide +kernel
theorem d_Mo_push_21 : decode b_Mo_push 21 = .ok (.bipush (6), 2) := by decide +kernel
theorem d_Mo_push_23 : decode b_Mo_push 23 = .ok (.goto (10), 3) := by decide +kernel
theorem d_Mo_push_26 : decode b_Mo_push 26 = .ok (.aload_n 0, 1) := by decide +kernel
theorem d_Mo_push_27 : decode b_Mo_push 27 = .ok (.iload_n 3, 1) := by decide +kernel
theorem d_Mo_push_28 : decode b_Mo_push 28 = .ok (.iload_n 2, 1) := by decide +kernel
theorem d_Mo_push_29 : decode b_Mo_push 29 = .ok (.iconst 2, 1) := by decide +kernel
theorem d_Mo_push_30 : decode b_Mo_push 30 = .ok (.invokevirtual 151, 3) := by decide +kernel
theorem d_Mo_push_33 : decode b_Mo_push 33 = .ok (.istore 4, 2) := by decide +kernel
theorem d_Mo_push_35 : decode b_Mo_push 35 = .ok (.iload 4, 2) := by decide +kernel
theorem d_Mo_push_37 : decode b_Mo_push 37 = .ok (.ifCond .le (6), 3) := by decide +kernel
theorem d_Mo_push_40 : decode b_Mo_push 40 = .ok (.iload 4, 2) := by decide +kernel
theorem d_Mo_push_42 : decode b_Mo_push 42 = .ok (.ireturn, 1) := by decide +kernel
theorem d_Mo_push_43 : decode b_Mo_push 43 = .ok (.aload_n 0, 1) := by decide +kernel
theorem d_Mo_push_44 : decode b_Mo_push 44 = .ok (.getfield 13, 3) := by decide +kernel
theorem d_Mo_push_47 : decode b_Mo_push 47 = .ok (.bipush (13), 2) := by decide +kernel
theorem d_Mo_push_49 : decode b_Mo_push 49 = .ok (.iload_n 3, 1) := by decide +kernel
theorem d_Mo_push_50 : decode b_Mo_push 50 = .ok (.iastore, 1) := by decide +kernel
theorem d_Mo_push_51 : decode b_Mo_push 51 = .ok (.iconst 0, 1) := by decide +kernel
theorem d_Mo_push_52 : decode b_Mo_push 52 = .ok (.istore 5, 2) := by decide +kernel
theorem d_Mo_push_54 : decode b_Mo_push 54 = .ok (.iload 5, 2) := by decide +kernel
theorem d_Mo_push_56 : decode b_Mo_push 56 = .ok (.bipush (9), 2) := by decide +kernel
theorem d_Mo_push_58 : decode b_Mo_push 58 = .ok (.if_icmp .ge (46), 3) := by decide +kernel
theorem d_Mo_push_61 : decode b_Mo_push 61 = .ok (.iload_n 1, 1) := by decide +kernel
theorem d_Mo_push_62 : decode b_Mo_push 62 = .ok (.iload 5, 2) := by decide +kernel
theorem d_Mo_push_64 : decode b_Mo_push 64 = .ok (.ishr, 1) := by decide +kernel
theorem d_Mo_push_65 : decode b_Mo_push 65 = .ok (.iconst 1, 1) := by decide +kernel
theorem d_Mo_push_66 : decode b_Mo_push 66 = .ok (.iand, 1) := by decide +kernel
theorem d_Mo_push_67 : decode b_Mo_push 67 = .ok (.iconst 1, 1) := by decide +kernel
theorem d_Mo_push_68 : decode b_Mo_push 68 = .ok (.if_icmp .ne (30), 3) := by decide +kernel
theorem d_Mo_push_71 : decode b_Mo_push 71 = .ok (.aload_n 0, 1) := by decide +kernel
theorem d_Mo_push_72 : decode b_Mo_push 72 = .ok (.iload_n 3, 1) := by decide +kernel
theorem d_Mo_push_73 : decode b_Mo_push 73 = .ok (.aload_n 0, 1) := by decide +kernel
theorem d_Mo_push_74 : decode b_Mo_push 74 = .ok (.getfield 13, 3) := by decide +kernel
theorem d_Mo_push_77 : decode b_Mo_push 77 = .ok (.iload 5, 2) := by decide +kernel
theorem d_Mo_push_79 : decode b_Mo_push 79 = .ok (.bipush (8), 2) := by decide +kernel
theorem d_Mo_push_81 : decode b_Mo_push 81 = .ok (.if_icmp .ne (8), 3) := by decide +kernel
theorem d_Mo_push_84 : decode b_Mo_push 84 = .ok (.bipush (14), 2) := by decide +kernel
theorem d_Mo_push_86 : decode b_Mo_push 86 = .ok (.goto (5), 3) := by decide +kernel
theorem d_Mo_push_89 : decode b_Mo_push 89 = .ok (.iload 5, 2) := by decide +kernel
theorem d_Mo_push_91 : decode b_Mo_push 91 = .ok (.iaload, 1) := by decide +kernel
theorem d_Mo_push_92 : decode b_Mo_push 92 = .ok (.invokevirtual 102, 3) := by decide +kernel
theorem d_Mo_push_95 : decode b_Mo_push 95 = .ok (.iinc 3 (4), 3) := by decide +kernel
theorem d_Mo_push_98 : decode b_Mo_push 98 = .ok (.iinc 5 (1), 3) := by decide +kernel
theorem d_Mo_push_101 : decode b_Mo_push 101 = .ok (.goto (-47), 3) := by decide +kernel
theorem d_Mo_push_104 : decode b_Mo_push 104 = .ok (.iconst 0, 1) := by decide +kernel
theorem d_Mo_push_105 : decode b_Mo_push 105 = .ok (.ireturn, 1) := by decide +kernel
theorem d_Mo_pop_0 : decode b_Mo_pop 0 = .ok (.iload_n 1, 1) := by decide +kernel
theorem d_Mo_pop_1 : decode b_Mo_pop 1 = .ok (.invokestatic 154, 3) := by decide +kernel
theorem d_Mo_pop_4 : decode b_Mo_pop 4 = .ok (.istore_n 2, 1) := by decide +kernel
theorem d_Mo_pop_5 : decode b_Mo_pop 5 = .ok (.aload_n 0, 1) := by decide +kernel
theorem d_Mo_pop_6 : decode b_Mo_pop 6 = .ok (.getfield 13, 3) := by decide +kernel
theorem d_Mo_pop_9 : decode b_Mo_pop 9 = .ok (.bipush (13), 2) := by decide +kernel
theorem d_Mo_pop_11 : decode b_Mo_pop 11 = .ok (.iaload, 1) := by decide +kernel
theorem d_Mo_pop_12 : decode b_Mo_pop 12 = .ok (.istore_n 3, 1) := by decide +kernel
theorem d_Mo_pop_13 : decode b_Mo_pop 13 = .ok (.iload_n 2, 1) := by decide +kernel
theorem d_Mo_pop_14 : decode b_Mo_pop 14 = .ok (.ifCond .ne (8), 3) := by decide +kernel
theorem d_Mo_pop_17 : decode b_Mo_pop 17 = .ok (.bipush (6), 2) := by decide +kernel
theorem d_Mo_pop_19 : decode b_Mo_pop 19 = .ok (.goto (10), 3) := by decide +kernel
theorem d_Mo_pop_22 : decode b_Mo_pop 22 = .ok (.aload_n 0, 1) := by decide +kernel
theorem d_Mo_pop_23 : decode b_Mo_pop 23 = .ok (.iload_n 3, 1) := by decide +kernel
theorem d_Mo_pop_24 : decode b_Mo_pop 24 = .ok (.iload_n 2, 1) := by decide +kernel
theorem d_Mo_pop_25 : decode b_Mo_pop 25 = .ok (.iconst 1, 1) := by decide +kernel
theorem d_Mo_pop_26 : decode b_Mo_pop 26 = .ok (.invokevirtual 151, 3) := by decide +kernel
theorem d_Mo_pop_29 : decode b_Mo_pop 29 = .ok (.istore 4, 2) := by decide +kernel
theorem d_Mo_pop_31 : decode b_Mo_pop 31 = .ok (.iload 4, 2) := by decide +kernel
theorem d_Mo_pop_33 : decode b_Mo_pop 33 = .ok (.ifCond .le (6), 3) := by decide +kernel
theorem d_Mo_pop_36 : decode b_Mo_pop 36 = .ok (.iload 4, 2) := by decide +kernel
theorem d_Mo_pop_38 : decode b_Mo_pop 38 = .ok (.ireturn, 1) := by decide +kernel
theorem d_Mo_pop_39 : decode b_Mo_pop 39 = .ok (.iload_n 3, 1) := by decide +kernel
theorem d_Mo_pop_40 : decode b_Mo_pop 40 = .ok (.iconst 4, 1) := by decide +kernel
theorem d_Mo_pop_41 : decode b_Mo_pop 41 = .ok (.iload_n 2, 1) := by decide +kernel
theorem d_Mo_pop_42 : decode b_Mo_pop 42 = .ok (.imul, 1) := by decide +kernel
theorem d_Mo_pop_43 : decode b_Mo_pop 43 = .ok (.iadd, 1) := by decide +kernel
theorem d_Mo_pop_44 : decode b_Mo_pop 44 = .ok (.istore 5, 2) := by decide +kernel
theorem d_Mo_pop_46 : decode b_Mo_pop 46 = .ok (.iload_n 1, 1) := by decide +kernel
theorem d_Mo_pop_47 : decode b_Mo_pop 47 = .ok (.sipush (255), 3) := by decide +kernel
theorem d_Mo_pop_50 : decode b_Mo_pop 50 = .ok (.if_icmp .le (14), 3) := by decide +kernel
theorem d_Mo_pop_53 : decode b_Mo_pop 53 = .ok (.aload_n 0, 1) := by decide +kernel
theorem d_Mo_pop_54 : decode b_Mo_pop 54 = .ok (.iload 5, 2) := by decide +kernel
theorem d_Mo_pop_56 : decode b_Mo_pop 56 = .ok (.iconst 4, 1) := by decide +kernel
theorem d_Mo_pop_57 : decode b_Mo_pop 57 = .ok (.isub, 1) := by decide +kernel
theorem d_Mo_pop_58 : decode b_Mo_pop 58 = .ok (.invokevirtual 77, 3) := by decide +kernel
theorem d_Mo_pop_61 : decode b_Mo_pop 61 = .ok (.goto (4), 3) := by decide +kernel
theorem d_Mo_pop_64 : decode b_Mo_pop 64 = .ok (.iconst 0, 1) := by decide +kernel
theorem d_Mo_pop_65 : decode b_Mo_pop 65 = .ok (.istore 6, 2) := by decide +kernel
theorem d_Mo_pop_67 : decode b_Mo_pop 67 = .ok (.iload_n 1, 1) := by decide +kernel
theorem d_Mo_pop_68 : decode b_Mo_pop 68 = .ok (.sipush (255), 3) := by decide +kernel
theorem d_Mo_pop_71 : decode b_Mo_pop 71 = .ok (.if_icmp .le (16), 3) := by decide +kernel
theorem d_Mo_pop_74 : decode b_Mo_pop 74 = .ok (.aload_n 0, 1) := by decide +kernel
theorem d_Mo_pop_75 : decode b_Mo_pop 75 = .ok (.iload 6, 2) := by decide +kernel
theorem d_Mo_pop_77 : decode b_Mo_pop 77 = .ok (.invokevirtual 132, 3) := by decide +kernel
theorem d_Mo_pop_80 : decode b_Mo_pop 80 = .ok (.ifCond .eq (7), 3) := by decide +kernel
theorem d_Mo_pop_83 : decode b_Mo_pop 83 = .ok (.iconst 1, 1) := by decide +kernel
theorem d_Mo_pop_84 : decode b_Mo_pop 84 = .ok (.goto (4), 3) := by decide +kernel
theorem d_Mo_pop_87 : decode b_Mo_pop 87 = .ok (.iconst 0, 1) := by decide +kernel
theorem d_Mo_pop_88 : decode b_Mo_pop 88 = .ok (.istore 7, 2) := by decide +kernel
theorem d_Mo_pop_90 : decode b_Mo_pop 90 = .ok (.aload_n 0, 1) := by decide +kernel
theorem d_Mo_pop_91 : decode b_Mo_pop 91 = .ok (.getfield 141, 3) := by decide +kernel
theorem d_Mo_pop_94 : decode b_Mo_pop 94 = .ok (.istore 8, 2) := by decide +kernel
theorem d_Mo_pop_96 : decode b_Mo_pop 96 = .ok (.iload 7, 2) := by decide +kernel
theorem d_Mo_pop_98 : decode b_Mo_pop 98 = .ok (.ifCond .eq (21), 3) := by decide +kernel
theorem d_Mo_pop_101 : decode b_Mo_pop 101 = .ok (.aload_n 0, 1) := by decide +kernel
theorem d_Mo_pop_102 : decode b_Mo_pop 102 = .ok (.iload 6, 2) := by decide +kernel
theorem d_Mo_pop_104 : decode b_Mo_pop 104 = .ok (.iload 5, 2) := by decide +kernel
theorem d_Mo_pop_106 : decode b_Mo_pop 106 = .ok (.invokevirtual 147, 3) := by decide +kernel
theorem d_Mo_pop_109 : decode b_Mo_pop 109 = .ok (.istore 4, 2) := by decide +kernel
theorem d_Mo_pop_111 : decode b_Mo_pop 111 = .ok (.iload 4, 2) := by decide +kernel
theorem d_Mo_pop_113 : decode b_Mo_pop 113 = .ok (.ifCond .le (6), 3) := by decide +kernel
theorem d_Mo_pop_116 : decode b_Mo_pop 116 = .ok (.iload 4, 2) := by decide +kernel
theorem d_Mo_pop_118 : decode b_Mo_pop 118 = .ok (.ireturn, 1) := by decide +kernel
theorem d_Mo_pop_119 : decode b_Mo_pop 119 = .ok (.iconst 0, 1) := by decide +kernel
theorem d_Mo_pop_120 : decode b_Mo_pop 120 = .ok (.istore 9, 2) := by decide +kernel
theorem d_Mo_pop_122 : decode b_Mo_pop 122 = .ok (.iload 9, 2) := by decide +kernel
theorem d_Mo_pop_124 : decode b_Mo_pop 124 = .ok (.bipush (8), 2) := by decide +kernel
theorem d_Mo_pop_126 : decode b_Mo_pop 126 = .ok (.if_icmp .ge (54), 3) := by decide +kernel
theorem d_Mo_pop_129 : decode b_Mo_pop 129 = .ok (.iload_n 1, 1) := by decide +kernel
theorem d_Mo_pop_130 : decode b_Mo_pop 130 = .ok (.iload 9, 2) := by decide +kernel
theorem d_Mo_pop_132 : decode b_Mo_pop 132 = .ok (.ishr, 1) := by decide +kernel
theorem d_Mo_pop_133 : decode b_Mo_pop 133 = .ok (.iconst 1, 1) := by decide +kernel
theorem d_Mo_pop_134 : decode b_Mo_pop 134 = .ok (.iand, 1) := by decide +kernel
theorem d_Mo_pop_135 : decode b_Mo_pop 135 = .ok (.iconst 1, 1) := by decide +kernel
theorem d_Mo_pop_136 : decode b_Mo_pop 136 = .ok (.if_icmp .ne (38), 3) := by decide +kernel
theorem d_Mo_pop_139 : decode b_Mo_pop 139 = .ok (.iload 7, 2) := by decide +kernel
theorem d_Mo_pop_141 : decode b_Mo_pop 141 = .ok (.ifCond .eq (18), 3) := by decide +kernel
theorem d_Mo_pop_144 : decode b_Mo_pop 144 = .ok (.iload 9, 2) := by decide +kernel
theorem d_Mo_pop_146 : decode b_Mo_pop 146 = .ok (.iconst 3, 1) := by decide +kernel
theorem d_Mo_pop_147 : decode b_Mo_pop 147 = .ok (.if_icmp .gt (12), 3) := by decide +kernel
theorem d_Mo_pop_150 : decode b_Mo_pop 150 = .ok (.aload_n 0, 1) := by decide +kernel
theorem d_Mo_pop_151 : decode b_Mo_pop 151 = .ok (.getfield 141, 3) := by decide +kernel
theorem d_Mo_pop_154 : decode b_Mo_pop 154 = .ok (.iload 8, 2) := by decide +kernel
theorem d_Mo_pop_156 : decode b_Mo_pop 156 = .ok (.if_icmp .le (15), 3) := by decide +kernel
theorem d_Mo_pop_159 : decode b_Mo_pop 159 = .ok (.aload_n 0, 1) := by decide +kernel
theorem d_Mo_pop_160 : decode b_Mo_pop 160 = .ok (.getfield 13, 3) := by decide +kernel
theorem d_Mo_pop_163 : decode b_Mo_pop 163 = .ok (.iload 9, 2) := by decide +kernel
theorem d_Mo_pop_165 : decode b_Mo_pop 165 = .ok (.aload_n 0, 1) := by decide +kernel
theorem d_Mo_pop_166 : decode b_Mo_pop 166 = .ok (.iload_n 3, 1) := by decide +kernel
theorem d_Mo_pop_167 : decode b_Mo_pop 167 = .ok (.invokevirtual 77, 3) := by decide +kernel
theorem d_Mo_pop_170 : decode b_Mo_pop 170 = .ok (.iastore, 1) := by decide +kernel
theorem d_Mo_pop_171 : decode b_Mo_pop 171 = .ok (.iinc 3 (4), 3) := by decide +kernel
theorem d_Mo_pop_174 : decode b_Mo_pop 174 = .ok (.iinc 9 (1), 3) := by decide +kernel
theorem d_Mo_pop_177 : decode b_Mo_pop 177 = .ok (.goto (-55), 3) := by decide +kernel
theorem d_Mo_pop_180 : decode b_Mo_pop 180 = .ok (.iload 7, 2) := by decide +kernel
theorem d_Mo_pop_182 : decode b_Mo_pop 182 = .ok (.ifCond .eq (5), 3) := by decide +kernel
theorem d_Mo_pop_185 : decode b_Mo_pop 185 = .ok (.iconst 0, 1) := by decide +kernel
theorem d_Mo_pop_186 : decode b_Mo_pop 186 = .ok (.ireturn, 1) := by decide +kernel
theorem d_Mo_pop_187 : decode b_Mo_pop 187 = .ok (.aload_n 0, 1) := by decide +kernel
theorem d_Mo_pop_188 : decode b_Mo_pop 188 = .ok (.getfield 13, 3) := by decide +kernel
theorem d_Mo_pop_191 : decode b_Mo_pop 191 = .ok (.bipush (13), 2) := by decide +kernel
theorem d_Mo_pop_193 : decode b_Mo_pop 193 = .ok (.iload 5, 2) := by decide +kernel
theorem d_Mo_pop_195 : decode b_Mo_pop 195 = .ok (.iastore, 1) := by decide +kernel
theorem d_Mo_pop_196 : decode b_Mo_pop 196 = .ok (.iload_n 1, 1) := by decide +kernel
theorem d_Mo_pop_197 : decode b_Mo_pop 197 = .ok (.sipush (255), 3) := by decide +kernel
theorem d_Mo_pop_200 : decode b_Mo_pop 200 = .ok (.if_icmp .le (15), 3) := by decide +kernel
theorem d_Mo_pop_203 : decode b_Mo_pop 203 = .ok (.aload_n 0, 1) := by decide +kernel
theorem d_Mo_pop_204 : decode b_Mo_pop 204 = .ok (.getfield 13, 3) := by decide +kernel
theorem d_Mo_pop_207 : decode b_Mo_pop 207 = .ok (.bipush (15), 2) := by decide +kernel
theorem d_Mo_pop_209 : decode b_Mo_pop 209 = .ok (.iload 6, 2) := by decide +kernel
theorem d_Mo_pop_211 : decode b_Mo_pop 211 = .ok (.bipush (-2), 2) := by decide +kernel
theorem d_Mo_pop_213 : decode b_Mo_pop 213 = .ok (.iand, 1) := by decide +kernel
theorem d_Mo_pop_214 : decode b_Mo_pop 214 = .ok (.iastore, 1) := by decide +kernel
theorem d_Mo_pop_215 : decode b_Mo_pop 215 = .ok (.iconst 0, 1) := by decide +kernel
theorem d_Mo_pop_216 : decode b_Mo_pop 216 = .ok (.ireturn, 1) := by decide +kernel
theorem d_Mo_holds_0 : decode b_Mo_holds 0 = .ok (.iload_n 1, 1) := by decide +kernel
theorem d_Mo_holds_1 : decode b_Mo_holds 1 = .ok (.iconst 1, 1) := by decide +kernel
theorem d_Mo_holds_2 : decode b_Mo_holds 2 = .ok (.ishr, 1) := by decide +kernel
theorem d_Mo_holds_3 : decode b_Mo_holds 3 = .ok (.tableswitch (204) (0) (5) #[37, 59, 82, 105, 129, 168], 37) := by decide +kernel
theorem d_Mo_holds_40 : decode b_Mo_holds 40 = .ok (.aload_n 0, 1) := by decide +kernel
theorem d_Mo_holds_41 : decode b_Mo_holds 41 = .ok (.getfield 84, 3) := by decide +kernel
theorem d_Mo_holds_44 : decode b_Mo_holds 44 = .ok (.iload_n 1, 1) := by decide +kernel
theorem d_Mo_holds_45 : decode b_Mo_holds 45 = .ok (.ifCond .ne (7), 3) := by decide +kernel
theorem d_Mo_holds_48 : decode b_Mo_holds 48 = .ok (.iconst 1, 1) := by decide +kernel
theorem d_Mo_holds_49 : decode b_Mo_holds 49 = .ok (.goto (4), 3) := by decide +kernel
theorem d_Mo_holds_52 : decode b_Mo_holds 52 = .ok (.iconst 0, 1) := by decide +kernel
theorem d_Mo_holds_53 : decode b_Mo_holds 53 = .ok (.if_icmp .ne (7), 3) := by decide +kernel
theorem d_Mo_holds_56 : decode b_Mo_holds 56 = .ok (.iconst 1, 1) := by decide +kernel
theorem d_Mo_holds_57 : decode b_Mo_holds 57 = .ok (.goto (4), 3) := by decide +kernel
theorem d_Mo_holds_60 : decode b_Mo_holds 60 = .ok (.iconst 0, 1) := by decide +kernel
theorem d_Mo_holds_61 : decode b_Mo_holds 61 = .ok (.ireturn, 1) := by decide +kernel
theorem d_Mo_holds_62 : decode b_Mo_holds 62 = .ok (.aload_n 0, 1) := by decide +kernel
theorem d_Mo_holds_63 : decode b_Mo_holds 63 = .ok (.getfield 88, 3) := by decide +kernel
theorem d_Mo_holds_66 : decode b_Mo_holds 66 = .ok (.iload_n 1, 1) := by decide +kernel
theorem d_Mo_holds_67 : decode b_Mo_holds 67 = .ok (.iconst 2, 1) := by decide +kernel
theorem d_Mo_holds_68 : decode b_Mo_holds 68 = .ok (.if_icmp .ne (7), 3) := by decide +kernel
theorem d_Mo_holds_71 : decode b_Mo_holds 71 = .ok (.iconst 1, 1) := by decide +kernel
theorem d_Mo_holds_72 : decode b_Mo_holds 72 = .ok (.goto (4), 3) := by decide +kernel
