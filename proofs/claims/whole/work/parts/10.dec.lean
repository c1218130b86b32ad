theorem d_In_bitCount_0 : decode b_In_bitCount 0 = .ok (.iload_n 0, 1) := by decide +kernel
theorem d_In_bitCount_1 : decode b_In_bitCount 1 = .ok (.iload_n 0, 1) := by decide +kernel
theorem d_In_bitCount_2 : decode b_In_bitCount 2 = .ok (.iconst 1, 1) := by decide +kernel
theorem d_In_bitCount_3 : decode b_In_bitCount 3 = .ok (.iushr, 1) := by decide +kernel
theorem d_In_bitCount_4 : decode b_In_bitCount 4 = .ok (.ldc_w 265, 3) := by decide +kernel
theorem d_In_bitCount_7 : decode b_In_bitCount 7 = .ok (.iand, 1) := by decide +kernel
theorem d_In_bitCount_8 : decode b_In_bitCount 8 = .ok (.isub, 1) := by decide +kernel
theorem d_In_bitCount_9 : decode b_In_bitCount 9 = .ok (.istore_n 0, 1) := by decide +kernel
theorem d_In_bitCount_10 : decode b_In_bitCount 10 = .ok (.iload_n 0, 1) := by decide +kernel
theorem d_In_bitCount_11 : decode b_In_bitCount 11 = .ok (.ldc_w 266, 3) := by decide +kernel
theorem d_In_bitCount_14 : decode b_In_bitCount 14 = .ok (.iand, 1) := by decide +kernel
theorem d_In_bitCount_15 : decode b_In_bitCount 15 = .ok (.iload_n 0, 1) := by decide +kernel
theorem d_In_bitCount_16 : decode b_In_bitCount 16 = .ok (.iconst 2, 1) := by decide +kernel
theorem d_In_bitCount_17 : decode b_In_bitCount 17 = .ok (.iushr, 1) := by decide +kernel
theorem d_In_bitCount_18 : decode b_In_bitCount 18 = .ok (.ldc_w 266, 3) := by decide +kernel
theorem d_In_bitCount_21 : decode b_In_bitCount 21 = .ok (.iand, 1) := by decide +kernel
theorem d_In_bitCount_22 : decode b_In_bitCount 22 = .ok (.iadd, 1) := by decide +kernel
theorem d_In_bitCount_23 : decode b_In_bitCount 23 = .ok (.istore_n 0, 1) := by decide +kernel
theorem d_In_bitCount_24 : decode b_In_bitCount 24 = .ok (.iload_n 0, 1) := by decide +kernel
theorem d_In_bitCount_25 : decode b_In_bitCount 25 = .ok (.iload_n 0, 1) := by decide +kernel
theorem d_In_bitCount_26 : decode b_In_bitCount 26 = .ok (.iconst 4, 1) := by decide +kernel
theorem d_In_bitCount_27 : decode b_In_bitCount 27 = .ok (.iushr, 1) := by decide +kernel
theorem d_In_bitCount_28 : decode b_In_bitCount 28 = .ok (.iadd, 1) := by decide +kernel
theorem d_In_bitCount_29 : decode b_In_bitCount 29 = .ok (.ldc_w 267, 3) := by decide +kernel
theorem d_In_bitCount_32 : decode b_In_bitCount 32 = .ok (.iand, 1) := by decide +kernel
theorem d_In_bitCount_33 : decode b_In_bitCount 33 = .ok (.istore_n 0, 1) := by decide +kernel
theorem d_In_bitCount_34 : decode b_In_bitCount 34 = .ok (.iload_n 0, 1) := by decide +kernel
theorem d_In_bitCount_35 : decode b_In_bitCount 35 = .ok (.iload_n 0, 1) := by decide +kernel
theorem d_In_bitCount_36 : decode b_In_bitCount 36 = .ok (.bipush (8), 2) := by decide +kernel
theorem d_In_bitCount_38 : decode b_In_bitCount 38 = .ok (.iushr, 1) := by decide +kernel
theorem d_In_bitCount_39 : decode b_In_bitCount 39 = .ok (.iadd, 1) := by decide +kernel
theorem d_In_bitCount_40 : decode b_In_bitCount 40 = .ok (.istore_n 0, 1) := by decide +kernel
theorem d_In_bitCount_41 : decode b_In_bitCount 41 = .ok (.iload_n 0, 1) := by decide +kernel
theorem d_In_bitCount_42 : decode b_In_bitCount 42 = .ok (.iload_n 0, 1) := by decide +kernel
theorem d_In_bitCount_43 : decode b_In_bitCount 43 = .ok (.bipush (16), 2) := by decide +kernel
theorem d_In_bitCount_45 : decode b_In_bitCount 45 = .ok (.iushr, 1) := by decide +kernel
theorem d_In_bitCount_46 : decode b_In_bitCount 46 = .ok (.iadd, 1) := by decide +kernel
theorem d_In_bitCount_47 : decode b_In_bitCount 47 = .ok (.istore_n 0, 1) := by decide +kernel
theorem d_In_bitCount_48 : decode b_In_bitCount 48 = .ok (.iload_n 0, 1) := by decide +kernel
theorem d_In_bitCount_49 : decode b_In_bitCount 49 = .ok (.bipush (63), 2) := by decide +kernel
theorem d_In_bitCount_51 : decode b_In_bitCount 51 = .ok (.iand, 1) := by decide +kernel
theorem d_In_bitCount_52 : decode b_In_bitCount 52 = .ok (.ireturn, 1) := by decide +kernel
theorem d_Me_holdsWord_0 : decode b_Me_holdsWord 0 = .ok (.iload_n 1, 1) := by decide +kernel
theorem d_Me_holdsWord_1 : decode b_Me_holdsWord 1 = .ok (.ifCond .lt (20), 3) := by decide +kernel
theorem d_Me_holdsWord_4 : decode b_Me_holdsWord 4 = .ok (.iload_n 1, 1) := by decide +kernel
theorem d_Me_holdsWord_5 : decode b_Me_holdsWord 5 = .ok (.sipush (1024), 3) := by decide +kernel
theorem d_Me_holdsWord_8 : decode b_Me_holdsWord 8 = .ok (.if_icmp .ge (13), 3) := by decide +kernel
theorem d_Me_holdsWord_11 : decode b_Me_holdsWord 11 = .ok (.iload_n 1, 1) := by decide +kernel
theorem d_Me_holdsWord_12 : decode b_Me_holdsWord 12 = .ok (.iconst 3, 1) := by decide +kernel
theorem d_Me_holdsWord_13 : decode b_Me_holdsWord 13 = .ok (.iand, 1) := by decide +kernel
theorem d_Me_holdsWord_14 : decode b_Me_holdsWord 14 = .ok (.ifCond .ne (7), 3) := by decide +kernel
theorem d_Me_holdsWord_17 : decode b_Me_holdsWord 17 = .ok (.iconst 1, 1) := by decide +kernel
theorem d_Me_holdsWord_18 : decode b_Me_holdsWord 18 = .ok (.goto (4), 3) := by decide +kernel
theorem d_Me_holdsWord_21 : decode b_Me_holdsWord 21 = .ok (.iconst 0, 1) := by decide +kernel
theorem d_Me_holdsWord_22 : decode b_Me_holdsWord 22 = .ok (.ireturn, 1) := by decide +kernel
theorem d_Me_store_0 : decode b_Me_store 0 = .ok (.aload_n 0, 1) := by decide +kernel
theorem d_Me_store_1 : decode b_Me_store 1 = .ok (.getfield 9, 3) := by decide +kernel
theorem d_Me_store_4 : decode b_Me_store 4 = .ok (.iload_n 1, 1) := by decide +kernel
theorem d_Me_store_5 : decode b_Me_store 5 = .ok (.iconst 2, 1) := by decide +kernel
theorem d_Me_store_6 : decode b_Me_store 6 = .ok (.ishr, 1) := by decide +kernel
theorem d_Me_store_7 : decode b_Me_store 7 = .ok (.sipush (255), 3) := by decide +kernel
theorem d_Me_store_10 : decode b_Me_store 10 = .ok (.iand, 1) := by decide +kernel
theorem d_Me_store_11 : decode b_Me_store 11 = .ok (.iload_n 2, 1) := by decide +kernel
theorem d_Me_store_12 : decode b_Me_store 12 = .ok (.iastore, 1) := by decide +kernel
theorem d_Me_store_13 : decode b_Me_store 13 = .ok (.return_, 1) := by decide +kernel
theorem d_N_set_0 : decode b_N_set 0 = .ok (.aload_n 0, 1) := by decide +kernel
theorem d_N_set_1 : decode b_N_set 1 = .ok (.getfield 19, 3) := by decide +kernel
theorem d_N_set_4 : decode b_N_set 4 = .ok (.iload_n 1, 1) := by decide +kernel
theorem d_N_set_5 : decode b_N_set 5 = .ok (.invokevirtual 51, 3) := by decide +kernel
theorem d_N_set_8 : decode b_N_set 8 = .ok (.ifCond .ne (13), 3) := by decide +kernel
theorem d_N_set_11 : decode b_N_set 11 = .ok (.new 55, 3) := by decide +kernel
theorem d_N_set_14 : decode b_N_set 14 = .ok (.dup, 1) := by decide +kernel
theorem d_N_set_15 : decode b_N_set 15 = .ok (.ldc 57, 2) := by decide +kernel
theorem d_N_set_17 : decode b_N_set 17 = .ok (.invokespecial 59, 3) := by decide +kernel
theorem d_N_set_20 : decode b_N_set 20 = .ok (.athrow, 1) := by decide +kernel
theorem d_N_set_21 : decode b_N_set 21 = .ok (.aload_n 0, 1) := by decide +kernel
theorem d_N_set_22 : decode b_N_set 22 = .ok (.getfield 19, 3) := by decide +kernel
theorem d_N_set_25 : decode b_N_set 25 = .ok (.iload_n 1, 1) := by decide +kernel
theorem d_N_set_26 : decode b_N_set 26 = .ok (.iload_n 2, 1) := by decide +kernel
theorem d_N_set_27 : decode b_N_set 27 = .ok (.invokevirtual 62, 3) := by decide +kernel
theorem d_N_set_30 : decode b_N_set 30 = .ok (.return_, 1) := by decide +kernel
theorem d_Me_load_0 : decode b_Me_load 0 = .ok (.aload_n 0, 1) := by decide +kernel
theorem d_Me_load_1 : decode b_Me_load 1 = .ok (.getfield 9, 3) := by decide +kernel
theorem d_Me_load_4 : decode b_Me_load 4 = .ok (.iload_n 1, 1) := by decide +kernel
theorem d_Me_load_5 : decode b_Me_load 5 = .ok (.iconst 2, 1) := by decide +kernel
theorem d_Me_load_6 : decode b_Me_load 6 = .ok (.ishr, 1) := by decide +kernel
theorem d_Me_load_7 : decode b_Me_load 7 = .ok (.sipush (255), 3) := by decide +kernel
theorem d_Me_load_10 : decode b_Me_load 10 = .ok (.iand, 1) := by decide +kernel
theorem d_Me_load_11 : decode b_Me_load 11 = .ok (.iaload, 1) := by decide +kernel
theorem d_Me_load_12 : decode b_Me_load 12 = .ok (.ireturn, 1) := by decide +kernel
theorem d_N_word_0 : decode b_N_word 0 = .ok (.aload_n 0, 1) := by decide +kernel
theorem d_N_word_1 : decode b_N_word 1 = .ok (.getfield 19, 3) := by decide +kernel
theorem d_N_word_4 : decode b_N_word 4 = .ok (.iload_n 1, 1) := by decide +kernel
theorem d_N_word_5 : decode b_N_word 5 = .ok (.invokevirtual 51, 3) := by decide +kernel
theorem d_N_word_8 : decode b_N_word 8 = .ok (.ifCond .ne (13), 3) := by decide +kernel
theorem d_N_word_11 : decode b_N_word 11 = .ok (.new 55, 3) := by decide +kernel
theorem d_N_word_14 : decode b_N_word 14 = .ok (.dup, 1) := by decide +kernel
theorem d_N_word_15 : decode b_N_word 15 = .ok (.ldc 57, 2) := by decide +kernel
theorem d_N_word_17 : decode b_N_word 17 = .ok (.invokespecial 59, 3) := by decide +kernel
theorem d_N_word_20 : decode b_N_word 20 = .ok (.athrow, 1) := by decide +kernel
theorem d_N_word_21 : decode b_N_word 21 = .ok (.aload_n 0, 1) := by decide +kernel
theorem d_N_word_22 : decode b_N_word 22 = .ok (.getfield 19, 3) := by decide +kernel
theorem d_N_word_25 : decode b_N_word 25 = .ok (.iload_n 1, 1) := by decide +kernel
theorem d_N_word_26 : decode b_N_word 26 = .ok (.invokevirtual 66, 3) := by decide +kernel
theorem d_N_word_29 : decode b_N_word 29 = .ok (.ireturn, 1) := by decide +kernel
theorem d_N_even_0 : decode b_N_even 0 = .ok (.iload_n 0, 1) := by decide +kernel
theorem d_N_even_1 : decode b_N_even 1 = .ok (.bipush (-2), 2) := by decide +kernel
theorem d_N_even_3 : decode b_N_even 3 = .ok (.iand, 1) := by decide +kernel
theorem d_N_even_4 : decode b_N_even 4 = .ok (.ireturn, 1) := by decide +kernel
theorem d_Ti_start_0 : decode b_Ti_start 0 = .ok (.aload_n 0, 1) := by decide +kernel
theorem d_Ti_start_1 : decode b_Ti_start 1 = .ok (.iload_n 1, 1) := by decide +kernel
theorem d_Ti_start_2 : decode b_Ti_start 2 = .ok (.putfield 7, 3) := by decide +kernel
theorem d_Ti_start_5 : decode b_Ti_start 5 = .ok (.aload_n 0, 1) := by decide +kernel
theorem d_Ti_start_6 : decode b_Ti_start 6 = .ok (.iload_n 1, 1) := by decide +kernel
theorem d_Ti_start_7 : decode b_Ti_start 7 = .ok (.putfield 13, 3) := by decide +kernel
theorem d_Ti_start_10 : decode b_Ti_start 10 = .ok (.return_, 1) := by decide +kernel
theorem d_N_put_0 : decode b_N_put 0 = .ok (.iload_n 1, 1) := by decide +kernel
theorem d_N_put_1 : decode b_N_put 1 = .ok (.ifCond .lt (9), 3) := by decide +kernel
theorem d_N_put_4 : decode b_N_put 4 = .ok (.iload_n 1, 1) := by decide +kernel
theorem d_N_put_5 : decode b_N_put 5 = .ok (.bipush (20), 2) := by decide +kernel
theorem d_N_put_7 : decode b_N_put 7 = .ok (.if_icmp .le (13), 3) := by decide +kernel
theorem d_N_put_10 : decode b_N_put 10 = .ok (.new 55, 3) := by decide +kernel
theorem d_N_put_13 : decode b_N_put 13 = .ok (.dup, 1) := by decide +kernel
theorem d_N_put_14 : decode b_N_put 14 = .ok (.ldc 70, 2) := by decide +kernel
theorem d_N_put_16 : decode b_N_put 16 = .ok (.invokespecial 59, 3) := by decide +kernel
theorem d_N_put_19 : decode b_N_put 19 = .ok (.athrow, 1) := by decide +kernel
theorem d_N_put_20 : decode b_N_put 20 = .ok (.iload_n 1, 1) := by decide +kernel
theorem d_N_put_21 : decode b_N_put 21 = .ok (.tableswitch (133) (15) (20) #[39, 53, 72, 91, 105, 118], 39) := by decide +kernel
theorem d_N_put_60 : decode b_N_put 60 = .ok (.aload_n 0, 1) := by decide +kernel
theorem d_N_put_61 : decode b_N_put 61 = .ok (.getfield 9, 3) := by decide +kernel
theorem d_N_put_64 : decode b_N_put 64 = .ok (.bipush (15), 2) := by decide +kernel
theorem d_N_put_66 : decode b_N_put 66 = .ok (.iload_n 2, 1) := by decide +kernel
theorem d_N_put_67 : decode b_N_put 67 = .ok (.invokestatic 72, 3) := by decide +kernel
theorem d_N_put_70 : decode b_N_put 70 = .ok (.iastore, 1) := by decide +kernel
theorem d_N_put_71 : decode b_N_put 71 = .ok (.goto (90), 3) := by decide +kernel
theorem d_N_put_74 : decode b_N_put 74 = .ok (.aload_n 0, 1) := by decide +kernel
theorem d_N_put_75 : decode b_N_put 75 = .ok (.getfield 33, 3) := by decide +kernel
theorem d_N_put_78 : decode b_N_put 78 = .ok (.iload_n 2, 1) := by decide +kernel
theorem d_N_put_79 : decode b_N_put 79 = .ok (.ifCond .eq (7), 3) := by decide +kernel
theorem d_N_put_82 : decode b_N_put 82 = .ok (.iconst 1, 1) := by decide +kernel
theorem d_N_put_83 : decode b_N_put 83 = .ok (.goto (4), 3) := by decide +kernel
theorem d_N_put_86 : decode b_N_put 86 = .ok (.iconst 0, 1) := by decide +kernel
theorem d_N_put_87 : decode b_N_put 87 = .ok (.putfield 75, 3) := by decide +kernel
theorem d_N_put_90 : decode b_N_put 90 = .ok (.goto (71), 3) := by decide +kernel
theorem d_N_put_93 : decode b_N_put 93 = .ok (.aload_n 0, 1) := by decide +kernel
theorem d_N_put_94 : decode b_N_put 94 = .ok (.getfield 33, 3) := by decide +kernel
theorem d_N_put_97 : decode b_N_put 97 = .ok (.iload_n 2, 1) := by decide +kernel
theorem d_N_put_98 : decode b_N_put 98 = .ok (.ifCond .eq (7), 3) := by decide +kernel
theorem d_N_put_101 : decode b_N_put 101 = .ok (.iconst 1, 1) := by decide +kernel
theorem d_N_put_102 : decode b_N_put 102 = .ok (.goto (4), 3) := by decide +kernel
theorem d_N_put_105 : decode b_N_put 105 = .ok (.iconst 0, 1) := by decide +kernel
theorem d_N_put_106 : decode b_N_put 106 = .ok (.putfield 79, 3) := by decide +kernel
theorem d_N_put_109 : decode b_N_put 109 = .ok (.goto (52), 3) := by decide +kernel
theorem d_N_put_112 : decode b_N_put 112 = .ok (.aload_n 0, 1) := by decide +kernel
theorem d_N_put_113 : decode b_N_put 113 = .ok (.getfield 33, 3) := by decide +kernel
theorem d_N_put_116 : decode b_N_put 116 = .ok (.iload_n 2, 1) := by decide +kernel
theorem d_N_put_117 : decode b_N_put 117 = .ok (.bipush (7), 2) := by decide +kernel
theorem d_N_put_119 : decode b_N_put 119 = .ok (.iand, 1) := by decide +kernel
theorem d_N_put_120 : decode b_N_put 120 = .ok (.putfield 82, 3) := by decide +kernel
theorem d_N_put_123 : decode b_N_put 123 = .ok (.goto (38), 3) := by decide +kernel
theorem d_N_put_126 : decode b_N_put 126 = .ok (.aload_n 0, 1) := by decide +kernel
theorem d_N_put_127 : decode b_N_put 127 = .ok (.getfield 33, 3) := by decide +kernel
theorem d_N_put_130 : decode b_N_put 130 = .ok (.iload_n 2, 1) := by decide +kernel
theorem d_N_put_131 : decode b_N_put 131 = .ok (.iconst 3, 1) := by decide +kernel
theorem d_N_put_132 : decode b_N_put 132 = .ok (.iand, 1) := by decide +kernel
theorem d_N_put_133 : decode b_N_put 133 = .ok (.putfield 86, 3) := by decide +kernel
theorem d_N_put_136 : decode b_N_put 136 = .ok (.goto (25), 3) := by decide +kernel
theorem d_N_put_139 : decode b_N_put 139 = .ok (.aload_n 0, 1) := by decide +kernel
theorem d_N_put_140 : decode b_N_put 140 = .ok (.getfield 47, 3) := by decide +kernel
theorem d_N_put_143 : decode b_N_put 143 = .ok (.iload_n 2, 1) := by decide +kernel
theorem d_N_put_144 : decode b_N_put 144 = .ok (.sipush (255), 3) := by decide +kernel
theorem d_N_put_147 : decode b_N_put 147 = .ok (.iand, 1) := by decide +kernel
theorem d_N_put_148 : decode b_N_put 148 = .ok (.invokevirtual 89, 3) := by decide +kernel
theorem d_N_put_151 : decode b_N_put 151 = .ok (.goto (10), 3) := by decide +kernel
theorem d_N_put_154 : decode b_N_put 154 = .ok (.aload_n 0, 1) := by decide +kernel
theorem d_N_put_155 : decode b_N_put 155 = .ok (.getfield 9, 3) := by decide +kernel
theorem d_N_put_158 : decode b_N_put 158 = .ok (.iload_n 1, 1) := by decide +kernel
theorem d_N_put_159 : decode b_N_put 159 = .ok (.iload_n 2, 1) := by decide +kernel
theorem d_N_put_160 : decode b_N_put 160 = .ok (.iastore, 1) := by decide +kernel
theorem d_N_put_161 : decode b_N_put 161 = .ok (.return_, 1) := by decide +kernel
theorem d_N_register_0 : decode b_N_register 0 = .ok (.iload_n 1, 1) := by decide +kernel
theorem d_N_register_1 : decode b_N_register 1 = .ok (.ifCond .lt (9), 3) := by decide +kernel
theorem d_N_register_4 : decode b_N_register 4 = .ok (.iload_n 1, 1) := by decide +kernel
theorem d_N_register_5 : decode b_N_register 5 = .ok (.bipush (20), 2) := by decide +kernel
theorem d_N_register_7 : decode b_N_register 7 = .ok (.if_icmp .le (13), 3) := by decide +kernel
theorem d_N_register_10 : decode b_N_register 10 = .ok (.new 55, 3) := by decide +kernel
theorem d_N_register_13 : decode b_N_register 13 = .ok (.dup, 1) := by decide +kernel
theorem d_N_register_14 : decode b_N_register 14 = .ok (.ldc 70, 2) := by decide +kernel
theorem d_N_register_16 : decode b_N_register 16 = .ok (.invokespecial 59, 3) := by decide +kernel
theorem d_N_register_19 : decode b_N_register 19 = .ok (.athrow, 1) := by decide +kernel
theorem d_N_register_20 : decode b_N_register 20 = .ok (.iload_n 1, 1) := by decide +kernel
theorem d_N_register_21 : decode b_N_register 21 = .ok (.tableswitch (91) (16) (20) #[35, 51, 67, 75, 83], 35) := by decide +kernel
theorem d_N_register_56 : decode b_N_register 56 = .ok (.aload_n 0, 1) := by decide +kernel
theorem d_N_register_57 : decode b_N_register 57 = .ok (.getfield 33, 3) := by decide +kernel
theorem d_N_register_60 : decode b_N_register 60 = .ok (.getfield 75, 3) := by decide +kernel
theorem d_N_register_63 : decode b_N_register 63 = .ok (.ifCond .eq (7), 3) := by decide +kernel
theorem d_N_register_66 : decode b_N_register 66 = .ok (.iconst 1, 1) := by decide +kernel
theorem d_N_register_67 : decode b_N_register 67 = .ok (.goto (4), 3) := by decide +kernel
theorem d_N_register_70 : decode b_N_register 70 = .ok (.iconst 0, 1) := by decide +kernel
theorem d_N_register_71 : decode b_N_register 71 = .ok (.ireturn, 1) := by decide +kernel
theorem d_N_register_72 : decode b_N_register 72 = .ok (.aload_n 0, 1) := by decide +kernel
theorem d_N_register_73 : decode b_N_register 73 = .ok (.getfield 33, 3) := by decide +kernel
theorem d_N_register_76 : decode b_N_register 76 = .ok (.getfield 79, 3) := by decide +kernel
theorem d_N_register_79 : decode b_N_register 79 = .ok (.ifCond .eq (7), 3) := by decide +kernel
theorem d_N_register_82 : decode b_N_register 82 = .ok (.iconst 1, 1) := by decide +kernel
theorem d_N_register_83 : decode b_N_register 83 = .ok (.goto (4), 3) := by decide +kernel
theorem d_N_register_86 : decode b_N_register 86 = .ok (.iconst 0, 1) := by decide +kernel
theorem d_N_register_87 : decode b_N_register 87 = .ok (.ireturn, 1) := by decide +kernel
theorem d_N_register_88 : decode b_N_register 88 = .ok (.aload_n 0, 1) := by decide +kernel
theorem d_N_register_89 : decode b_N_register 89 = .ok (.getfield 33, 3) := by decide +kernel
theorem d_N_register_92 : decode b_N_register 92 = .ok (.getfield 82, 3) := by decide +kernel
theorem d_N_register_95 : decode b_N_register 95 = .ok (.ireturn, 1) := by decide +kernel
theorem d_N_register_96 : decode b_N_register 96 = .ok (.aload_n 0, 1) := by decide +kernel
theorem d_N_register_97 : decode b_N_register 97 = .ok (.getfield 33, 3) := by decide +kernel
theorem d_N_register_100 : decode b_N_register 100 = .ok (.getfield 86, 3) := by decide +kernel
theorem d_N_register_103 : decode b_N_register 103 = .ok (.ireturn, 1) := by decide +kernel
theorem d_N_register_104 : decode b_N_register 104 = .ok (.aload_n 0, 1) := by decide +kernel
theorem d_N_register_105 : decode b_N_register 105 = .ok (.getfield 47, 3) := by decide +kernel
theorem d_N_register_108 : decode b_N_register 108 = .ok (.getfield 93, 3) := by decide +kernel
theorem d_N_register_111 : decode b_N_register 111 = .ok (.ireturn, 1) := by decide +kernel
theorem d_N_register_112 : decode b_N_register 112 = .ok (.aload_n 0, 1) := by decide +kernel
theorem d_N_register_113 : decode b_N_register 113 = .ok (.getfield 9, 3) := by decide +kernel
theorem d_N_register_116 : decode b_N_register 116 = .ok (.iload_n 1, 1) := by decide +kernel
theorem d_N_register_117 : decode b_N_register 117 = .ok (.iaload, 1) := by decide +kernel
theorem d_N_register_118 : decode b_N_register 118 = .ok (.ireturn, 1) := by decide +kernel
theorem d_Ex_order_0 : decode b_Ex_order 0 = .ok (.aload_n 0, 1) := by decide +kernel
theorem d_Ex_order_1 : decode b_Ex_order 1 = .ok (.getfield 21, 3) := by decide +kernel
theorem d_Ex_order_4 : decode b_Ex_order 4 = .ok (.iload_n 1, 1) := by decide +kernel
theorem d_Ex_order_5 : decode b_Ex_order 5 = .ok (.iload_n 2, 1) := by decide +kernel
theorem d_Ex_order_6 : decode b_Ex_order 6 = .ok (.iastore, 1) := by decide +kernel
theorem d_Ex_order_7 : decode b_Ex_order 7 = .ok (.aload_n 0, 1) := by decide +kernel
theorem d_Ex_order_8 : decode b_Ex_order 8 = .ok (.getfield 9, 3) := by decide +kernel
theorem d_Ex_order_11 : decode b_Ex_order 11 = .ok (.iload_n 1, 1) := by decide +kernel
theorem d_Ex_order_12 : decode b_Ex_order 12 = .ok (.iload_n 3, 1) := by decide +kernel
theorem d_Ex_order_13 : decode b_Ex_order 13 = .ok (.ifCond .ne (15), 3) := by decide +kernel
theorem d_Ex_order_16 : decode b_Ex_order 16 = .ok (.iload_n 1, 1) := by decide +kernel
theorem d_Ex_order_17 : decode b_Ex_order 17 = .ok (.bipush (7), 2) := by decide +kernel
theorem d_Ex_order_19 : decode b_Ex_order 19 = .ok (.if_icmp .lt (13), 3) := by decide +kernel
theorem d_Ex_order_22 : decode b_Ex_order 22 = .ok (.iload_n 1, 1) := by decide +kernel
theorem d_Ex_order_23 : decode b_Ex_order 23 = .ok (.bipush (9), 2) := by decide +kernel
theorem d_Ex_order_25 : decode b_Ex_order 25 = .ok (.if_icmp .gt (7), 3) := by decide +kernel
theorem d_Ex_order_28 : decode b_Ex_order 28 = .ok (.iconst 1, 1) := by decide +kernel
theorem d_Ex_order_29 : decode b_Ex_order 29 = .ok (.goto (4), 3) := by decide +kernel
theorem d_Ex_order_32 : decode b_Ex_order 32 = .ok (.iconst 0, 1) := by decide +kernel
theorem d_Ex_order_33 : decode b_Ex_order 33 = .ok (.bastore, 1) := by decide +kernel
theorem d_Ex_order_34 : decode b_Ex_order 34 = .ok (.return_, 1) := by decide +kernel
theorem d_N_rank_0 : decode b_N_rank 0 = .ok (.iload_n 1, 1) := by decide +kernel
theorem d_N_rank_1 : decode b_N_rank 1 = .ok (.iconst 4, 1) := by decide +kernel
theorem d_N_rank_2 : decode b_N_rank 2 = .ok (.if_icmp .lt (19), 3) := by decide +kernel
theorem d_N_rank_5 : decode b_N_rank 5 = .ok (.iload_n 1, 1) := by decide +kernel
theorem d_N_rank_6 : decode b_N_rank 6 = .ok (.bipush (15), 2) := by decide +kernel
theorem d_N_rank_8 : decode b_N_rank 8 = .ok (.if_icmp .gt (13), 3) := by decide +kernel
theorem d_N_rank_11 : decode b_N_rank 11 = .ok (.iload_n 2, 1) := by decide +kernel
theorem d_N_rank_12 : decode b_N_rank 12 = .ok (.ifCond .lt (9), 3) := by decide +kernel
theorem d_N_rank_15 : decode b_N_rank 15 = .ok (.iload_n 2, 1) := by decide +kernel
theorem d_N_rank_16 : decode b_N_rank 16 = .ok (.bipush (7), 2) := by decide +kernel
theorem d_N_rank_18 : decode b_N_rank 18 = .ok (.if_icmp .le (13), 3) := by decide +kernel
theorem d_N_rank_21 : decode b_N_rank 21 = .ok (.new 55, 3) := by decide +kernel
theorem d_N_rank_24 : decode b_N_rank 24 = .ok (.dup, 1) := by decide +kernel
theorem d_N_rank_25 : decode b_N_rank 25 = .ok (.ldc 96, 2) := by decide +kernel
theorem d_N_rank_27 : decode b_N_rank 27 = .ok (.invokespecial 59, 3) := by decide +kernel
theorem d_N_rank_30 : decode b_N_rank 30 = .ok (.athrow, 1) := by decide +kernel
theorem d_N_rank_31 : decode b_N_rank 31 = .ok (.aload_n 0, 1) := by decide +kernel
theorem d_N_rank_32 : decode b_N_rank 32 = .ok (.getfield 33, 3) := by decide +kernel
theorem d_N_rank_35 : decode b_N_rank 35 = .ok (.iload_n 1, 1) := by decide +kernel
theorem d_N_rank_36 : decode b_N_rank 36 = .ok (.iload_n 2, 1) := by decide +kernel
theorem d_N_rank_37 : decode b_N_rank 37 = .ok (.iload_n 3, 1) := by decide +kernel
theorem d_N_rank_38 : decode b_N_rank 38 = .ok (.invokevirtual 98, 3) := by decide +kernel
theorem d_N_rank_41 : decode b_N_rank 41 = .ok (.return_, 1) := by decide +kernel
theorem d_N_pend_0 : decode b_N_pend 0 = .ok (.iload_n 1, 1) := by decide +kernel
theorem d_N_pend_1 : decode b_N_pend 1 = .ok (.iconst 2, 1) := by decide +kernel
theorem d_N_pend_2 : decode b_N_pend 2 = .ok (.if_icmp .lt (9), 3) := by decide +kernel
theorem d_N_pend_5 : decode b_N_pend 5 = .ok (.iload_n 1, 1) := by decide +kernel
theorem d_N_pend_6 : decode b_N_pend 6 = .ok (.bipush (15), 2) := by decide +kernel
theorem d_N_pend_8 : decode b_N_pend 8 = .ok (.if_icmp .le (13), 3) := by decide +kernel
theorem d_N_pend_11 : decode b_N_pend 11 = .ok (.new 55, 3) := by decide +kernel
theorem d_N_pend_14 : decode b_N_pend 14 = .ok (.dup, 1) := by decide +kernel
theorem d_N_pend_15 : decode b_N_pend 15 = .ok (.ldc 102, 2) := by decide +kernel
theorem d_N_pend_17 : decode b_N_pend 17 = .ok (.invokespecial 59, 3) := by decide +kernel
theorem d_N_pend_20 : decode b_N_pend 20 = .ok (.athrow, 1) := by decide +kernel
theorem d_N_pend_21 : decode b_N_pend 21 = .ok (.aload_n 0, 1) := by decide +kernel
theorem d_N_pend_22 : decode b_N_pend 22 = .ok (.getfield 33, 3) := by decide +kernel
theorem d_N_pend_25 : decode b_N_pend 25 = .ok (.getfield 104, 3) := by decide +kernel
theorem d_N_pend_28 : decode b_N_pend 28 = .ok (.iload_n 1, 1) := by decide +kernel
theorem d_N_pend_29 : decode b_N_pend 29 = .ok (.iload_n 2, 1) := by decide +kernel
theorem d_N_pend_30 : decode b_N_pend 30 = .ok (.bastore, 1) := by decide +kernel
theorem d_N_pend_31 : decode b_N_pend 31 = .ok (.return_, 1) := by decide +kernel
theorem d_Ar_lay_0 : decode b_Ar_lay 0 = .ok (.aload_n 0, 1) := by decide +kernel
theorem d_Ar_lay_1 : decode b_Ar_lay 1 = .ok (.getfield 9, 3) := by decide +kernel
theorem d_Ar_lay_4 : decode b_Ar_lay 4 = .ok (.iload_n 1, 1) := by decide +kernel
theorem d_Ar_lay_5 : decode b_Ar_lay 5 = .ok (.iload_n 2, 1) := by decide +kernel
theorem d_Ar_lay_6 : decode b_Ar_lay 6 = .ok (.iastore, 1) := by decide +kernel
theorem d_Ar_lay_7 : decode b_Ar_lay 7 = .ok (.aload_n 0, 1) := by decide +kernel
theorem d_Ar_lay_8 : decode b_Ar_lay 8 = .ok (.getfield 15, 3) := by decide +kernel
theorem d_Ar_lay_11 : decode b_Ar_lay 11 = .ok (.iload_n 1, 1) := by decide +kernel
theorem d_Ar_lay_12 : decode b_Ar_lay 12 = .ok (.iload_n 3, 1) := by decide +kernel
theorem d_Ar_lay_13 : decode b_Ar_lay 13 = .ok (.iastore, 1) := by decide +kernel
theorem d_Ar_lay_14 : decode b_Ar_lay 14 = .ok (.aload_n 0, 1) := by decide +kernel
theorem d_Ar_lay_15 : decode b_Ar_lay 15 = .ok (.getfield 18, 3) := by decide +kernel
theorem d_Ar_lay_18 : decode b_Ar_lay 18 = .ok (.iload_n 1, 1) := by decide +kernel
theorem d_Ar_lay_19 : decode b_Ar_lay 19 = .ok (.iload 4, 2) := by decide +kernel
theorem d_Ar_lay_21 : decode b_Ar_lay 21 = .ok (.iastore, 1) := by decide +kernel
theorem d_Ar_lay_22 : decode b_Ar_lay 22 = .ok (.aload_n 0, 1) := by decide +kernel
theorem d_Ar_lay_23 : decode b_Ar_lay 23 = .ok (.getfield 21, 3) := by decide +kernel
theorem d_Ar_lay_26 : decode b_Ar_lay 26 = .ok (.iload_n 1, 1) := by decide +kernel
theorem d_Ar_lay_27 : decode b_Ar_lay 27 = .ok (.iload 5, 2) := by decide +kernel
theorem d_Ar_lay_29 : decode b_Ar_lay 29 = .ok (.bastore, 1) := by decide +kernel
theorem d_Ar_lay_30 : decode b_Ar_lay 30 = .ok (.return_, 1) := by decide +kernel
theorem d_N_area_0 : decode b_N_area 0 = .ok (.iload_n 1, 1) := by decide +kernel
theorem d_N_area_1 : decode b_N_area 1 = .ok (.ifCond .lt (19), 3) := by decide +kernel
theorem d_N_area_4 : decode b_N_area 4 = .ok (.iload_n 1, 1) := by decide +kernel
theorem d_N_area_5 : decode b_N_area 5 = .ok (.iconst 4, 1) := by decide +kernel
theorem d_N_area_6 : decode b_N_area 6 = .ok (.if_icmp .ge (14), 3) := by decide +kernel
theorem d_N_area_9 : decode b_N_area 9 = .ok (.iload 4, 2) := by decide +kernel
theorem d_N_area_11 : decode b_N_area 11 = .ok (.ifCond .lt (9), 3) := by decide +kernel
theorem d_N_area_14 : decode b_N_area 14 = .ok (.iload 4, 2) := by decide +kernel
theorem d_N_area_16 : decode b_N_area 16 = .ok (.iconst 2, 1) := by decide +kernel
theorem d_N_area_17 : decode b_N_area 17 = .ok (.if_icmp .le (13), 3) := by decide +kernel
theorem d_N_area_20 : decode b_N_area 20 = .ok (.new 55, 3) := by decide +kernel
theorem d_N_area_23 : decode b_N_area 23 = .ok (.dup, 1) := by decide +kernel
theorem d_N_area_24 : decode b_N_area 24 = .ok (.ldc 108, 2) := by decide +kernel
theorem d_N_area_26 : decode b_N_area 26 = .ok (.invokespecial 59, 3) := by decide +kernel
theorem d_N_area_29 : decode b_N_area 29 = .ok (.athrow, 1) := by decide +kernel
theorem d_N_area_30 : decode b_N_area 30 = .ok (.iload_n 2, 1) := by decide +kernel
theorem d_N_area_31 : decode b_N_area 31 = .ok (.ifCond .lt (16), 3) := by decide +kernel
theorem d_N_area_34 : decode b_N_area 34 = .ok (.iload_n 3, 1) := by decide +kernel
theorem d_N_area_35 : decode b_N_area 35 = .ok (.ifCond .lt (12), 3) := by decide +kernel
theorem d_N_area_38 : decode b_N_area 38 = .ok (.iload_n 2, 1) := by decide +kernel
theorem d_N_area_39 : decode b_N_area 39 = .ok (.sipush (1024), 3) := by decide +kernel
theorem d_N_area_42 : decode b_N_area 42 = .ok (.iload_n 3, 1) := by decide +kernel
theorem d_N_area_43 : decode b_N_area 43 = .ok (.isub, 1) := by decide +kernel
theorem d_N_area_44 : decode b_N_area 44 = .ok (.if_icmp .le (13), 3) := by decide +kernel
theorem d_N_area_47 : decode b_N_area 47 = .ok (.new 55, 3) := by decide +kernel
theorem d_N_area_50 : decode b_N_area 50 = .ok (.dup, 1) := by decide +kernel
theorem d_N_area_51 : decode b_N_area 51 = .ok (.ldc 110, 2) := by decide +kernel
theorem d_N_area_53 : decode b_N_area 53 = .ok (.invokespecial 59, 3) := by decide +kernel
theorem d_N_area_56 : decode b_N_area 56 = .ok (.athrow, 1) := by decide +kernel
theorem d_N_area_57 : decode b_N_area 57 = .ok (.aload_n 0, 1) := by decide +kernel
theorem d_N_area_58 : decode b_N_area 58 = .ok (.getfield 26, 3) := by decide +kernel
theorem d_N_area_61 : decode b_N_area 61 = .ok (.iload_n 1, 1) := by decide +kernel
theorem d_N_area_62 : decode b_N_area 62 = .ok (.iload_n 2, 1) := by decide +kernel
theorem d_N_area_63 : decode b_N_area 63 = .ok (.iload_n 3, 1) := by decide +kernel
theorem d_N_area_64 : decode b_N_area 64 = .ok (.iload 4, 2) := by decide +kernel
theorem d_N_area_66 : decode b_N_area 66 = .ok (.iload 5, 2) := by decide +kernel
theorem d_N_area_68 : decode b_N_area 68 = .ok (.invokevirtual 112, 3) := by decide +kernel
theorem d_N_area_71 : decode b_N_area 71 = .ok (.return_, 1) := by decide +kernel
theorem d_Ti_fires_0 : decode b_Ti_fires 0 = .ok (.aload_n 0, 1) := by decide +kernel
theorem d_Ti_fires_1 : decode b_Ti_fires 1 = .ok (.getfield 7, 3) := by decide +kernel
theorem d_Ti_fires_4 : decode b_Ti_fires 4 = .ok (.ifCond .ne (5), 3) := by decide +kernel
theorem d_Ti_fires_7 : decode b_Ti_fires 7 = .ok (.iconst 0, 1) := by decide +kernel
theorem d_Ti_fires_8 : decode b_Ti_fires 8 = .ok (.ireturn, 1) := by decide +kernel
theorem d_Ti_fires_9 : decode b_Ti_fires 9 = .ok (.aload_n 0, 1) := by decide +kernel
theorem d_Ti_fires_10 : decode b_Ti_fires 10 = .ok (.dup, 1) := by decide +kernel
theorem d_Ti_fires_11 : decode b_Ti_fires 11 = .ok (.getfield 13, 3) := by decide +kernel
theorem d_Ti_fires_14 : decode b_Ti_fires 14 = .ok (.iconst 1, 1) := by decide +kernel
theorem d_Ti_fires_15 : decode b_Ti_fires 15 = .ok (.isub, 1) := by decide +kernel
theorem d_Ti_fires_16 : decode b_Ti_fires 16 = .ok (.putfield 13, 3) := by decide +kernel
theorem d_Ti_fires_19 : decode b_Ti_fires 19 = .ok (.aload_n 0, 1) := by decide +kernel
theorem d_Ti_fires_20 : decode b_Ti_fires 20 = .ok (.getfield 13, 3) := by decide +kernel
theorem d_Ti_fires_23 : decode b_Ti_fires 23 = .ok (.ifCond .eq (5), 3) := by decide +kernel
theorem d_Ti_fires_26 : decode b_Ti_fires 26 = .ok (.iconst 0, 1) := by decide +kernel
theorem d_Ti_fires_27 : decode b_Ti_fires 27 = .ok (.ireturn, 1) := by decide +kernel
theorem d_Ti_fires_28 : decode b_Ti_fires 28 = .ok (.aload_n 0, 1) := by decide +kernel
theorem d_Ti_fires_29 : decode b_Ti_fires 29 = .ok (.aload_n 0, 1) := by decide +kernel
theorem d_Ti_fires_30 : decode b_Ti_fires 30 = .ok (.getfield 7, 3) := by decide +kernel
theorem d_Ti_fires_33 : decode b_Ti_fires 33 = .ok (.putfield 13, 3) := by decide +kernel
theorem d_Ti_fires_36 : decode b_Ti_fires 36 = .ok (.iconst 1, 1) := by decide +kernel
theorem d_Ti_fires_37 : decode b_Ti_fires 37 = .ok (.ireturn, 1) := by decide +kernel
theorem d_Ex_group_0 : decode b_Ex_group 0 = .ok (.aload_n 0, 1) := by decide +kernel
theorem d_Ex_group_1 : decode b_Ex_group 1 = .ok (.getfield 21, 3) := by decide +kernel
theorem d_Ex_group_4 : decode b_Ex_group 4 = .ok (.iload_n 1, 1) := by decide +kernel
theorem d_Ex_group_5 : decode b_Ex_group 5 = .ok (.iaload, 1) := by decide +kernel
theorem d_Ex_group_6 : decode b_Ex_group 6 = .ok (.ifCond .ge (12), 3) := by decide +kernel
theorem d_Ex_group_9 : decode b_Ex_group 9 = .ok (.aload_n 0, 1) := by decide +kernel
theorem d_Ex_group_10 : decode b_Ex_group 10 = .ok (.getfield 21, 3) := by decide +kernel
theorem d_Ex_group_13 : decode b_Ex_group 13 = .ok (.iload_n 1, 1) := by decide +kernel
theorem d_Ex_group_14 : decode b_Ex_group 14 = .ok (.iaload, 1) := by decide +kernel
theorem d_Ex_group_15 : decode b_Ex_group 15 = .ok (.goto (14), 3) := by decide +kernel
theorem d_Ex_group_18 : decode b_Ex_group 18 = .ok (.aload_n 0, 1) := by decide +kernel
theorem d_Ex_group_19 : decode b_Ex_group 19 = .ok (.getfield 21, 3) := by decide +kernel
theorem d_Ex_group_22 : decode b_Ex_group 22 = .ok (.iload_n 1, 1) := by decide +kernel
theorem d_Ex_group_23 : decode b_Ex_group 23 = .ok (.iaload, 1) := by decide +kernel
theorem d_Ex_group_24 : decode b_Ex_group 24 = .ok (.aload_n 0, 1) := by decide +kernel
theorem d_Ex_group_25 : decode b_Ex_group 25 = .ok (.getfield 25, 3) := by decide +kernel
theorem d_Ex_group_28 : decode b_Ex_group 28 = .ok (.ishr, 1) := by decide +kernel
theorem d_Ex_group_29 : decode b_Ex_group 29 = .ok (.ireturn, 1) := by decide +kernel
theorem d_Ex_level_0 : decode b_Ex_level 0 = .ok (.bipush (8), 2) := by decide +kernel
theorem d_Ex_level_2 : decode b_Ex_level 2 = .ok (.istore_n 1, 1) := by decide +kernel
theorem d_Ex_level_3 : decode b_Ex_level 3 = .ok (.iconst 2, 1) := by decide +kernel
theorem d_Ex_level_4 : decode b_Ex_level 4 = .ok (.istore_n 2, 1) := by decide +kernel
theorem d_Ex_level_5 : decode b_Ex_level 5 = .ok (.iload_n 2, 1) := by decide +kernel
theorem d_Ex_level_6 : decode b_Ex_level 6 = .ok (.bipush (15), 2) := by decide +kernel
theorem d_Ex_level_8 : decode b_Ex_level 8 = .ok (.if_icmp .gt (28), 3) := by decide +kernel
theorem d_Ex_level_11 : decode b_Ex_level 11 = .ok (.aload_n 0, 1) := by decide +kernel
theorem d_Ex_level_12 : decode b_Ex_level 12 = .ok (.getfield 18, 3) := by decide +kernel
theorem d_Ex_level_15 : decode b_Ex_level 15 = .ok (.iload_n 2, 1) := by decide +kernel
theorem d_Ex_level_16 : decode b_Ex_level 16 = .ok (.baload, 1) := by decide +kernel
theorem d_Ex_level_17 : decode b_Ex_level 17 = .ok (.ifCond .eq (13), 3) := by decide +kernel
theorem d_Ex_level_20 : decode b_Ex_level 20 = .ok (.iload_n 1, 1) := by decide +kernel
theorem d_Ex_level_21 : decode b_Ex_level 21 = .ok (.aload_n 0, 1) := by decide +kernel
theorem d_Ex_level_22 : decode b_Ex_level 22 = .ok (.iload_n 2, 1) := by decide +kernel
theorem d_Ex_level_23 : decode b_Ex_level 23 = .ok (.invokevirtual 29, 3) := by decide +kernel
theorem d_Ex_level_26 : decode b_Ex_level 26 = .ok (.invokestatic 33, 3) := by decide +kernel
theorem d_Ex_level_29 : decode b_Ex_level 29 = .ok (.istore_n 1, 1) := by decide +kernel
theorem d_Ex_level_30 : decode b_Ex_level 30 = .ok (.iinc 2 (1), 3) := by decide +kernel
theorem d_Ex_level_33 : decode b_Ex_level 33 = .ok (.goto (-28), 3) := by decide +kernel
theorem d_Ex_level_36 : decode b_Ex_level 36 = .ok (.aload_n 0, 1) := by decide +kernel
theorem d_Ex_level_37 : decode b_Ex_level 37 = .ok (.getfield 39, 3) := by decide +kernel
theorem d_Ex_level_40 : decode b_Ex_level 40 = .ok (.ifCond .eq (17), 3) := by decide +kernel
theorem d_Ex_level_43 : decode b_Ex_level 43 = .ok (.iload_n 1, 1) := by decide +kernel
theorem d_Ex_level_44 : decode b_Ex_level 44 = .ok (.aload_n 0, 1) := by decide +kernel
theorem d_Ex_level_45 : decode b_Ex_level 45 = .ok (.getfield 39, 3) := by decide +kernel
theorem d_Ex_level_48 : decode b_Ex_level 48 = .ok (.aload_n 0, 1) := by decide +kernel
theorem d_Ex_level_49 : decode b_Ex_level 49 = .ok (.getfield 25, 3) := by decide +kernel
theorem d_Ex_level_52 : decode b_Ex_level 52 = .ok (.ishr, 1) := by decide +kernel
theorem d_Ex_level_53 : decode b_Ex_level 53 = .ok (.invokestatic 33, 3) := by decide +kernel
theorem d_Ex_level_56 : decode b_Ex_level 56 = .ok (.istore_n 1, 1) := by decide +kernel
theorem d_Ex_level_57 : decode b_Ex_level 57 = .ok (.aload_n 0, 1) := by decide +kernel
theorem d_Ex_level_58 : decode b_Ex_level 58 = .ok (.getfield 42, 3) := by decide +kernel
theorem d_Ex_level_61 : decode b_Ex_level 61 = .ok (.ifCond .eq (9), 3) := by decide +kernel
theorem d_Ex_level_64 : decode b_Ex_level 64 = .ok (.iload_n 1, 1) := by decide +kernel
theorem d_Ex_level_65 : decode b_Ex_level 65 = .ok (.iconst 0, 1) := by decide +kernel
theorem d_Ex_level_66 : decode b_Ex_level 66 = .ok (.invokestatic 33, 3) := by decide +kernel
theorem d_Ex_level_69 : decode b_Ex_level 69 = .ok (.istore_n 1, 1) := by decide +kernel
theorem d_Ex_level_70 : decode b_Ex_level 70 = .ok (.aload_n 0, 1) := by decide +kernel
theorem d_Ex_level_71 : decode b_Ex_level 71 = .ok (.getfield 46, 3) := by decide +kernel
theorem d_Ex_level_74 : decode b_Ex_level 74 = .ok (.ifCond .eq (11), 3) := by decide +kernel
theorem d_Ex_level_77 : decode b_Ex_level 77 = .ok (.iload_n 1, 1) := by decide +kernel
theorem d_Ex_level_78 : decode b_Ex_level 78 = .ok (.iconst (-1), 1) := by decide +kernel
theorem d_Ex_level_79 : decode b_Ex_level 79 = .ok (.invokestatic 33, 3) := by decide +kernel
theorem d_Ex_level_82 : decode b_Ex_level 82 = .ok (.goto (4), 3) := by decide +kernel
theorem d_Ex_level_85 : decode b_Ex_level 85 = .ok (.iload_n 1, 1) := by decide +kernel
theorem d_Ex_level_86 : decode b_Ex_level 86 = .ok (.ireturn, 1) := by decide +kernel
theorem d_Ex_due_0 : decode b_Ex_due 0 = .ok (.iconst 0, 1) := by decide +kernel
theorem d_Ex_due_1 : decode b_Ex_due 1 = .ok (.istore_n 1, 1) := by decide +kernel
theorem d_Ex_due_2 : decode b_Ex_due 2 = .ok (.iconst 2, 1) := by decide +kernel
theorem d_Ex_due_3 : decode b_Ex_due 3 = .ok (.istore_n 2, 1) := by decide +kernel
theorem d_Ex_due_4 : decode b_Ex_due 4 = .ok (.iload_n 2, 1) := by decide +kernel
theorem d_Ex_due_5 : decode b_Ex_due 5 = .ok (.bipush (15), 2) := by decide +kernel
theorem d_Ex_due_7 : decode b_Ex_due 7 = .ok (.if_icmp .gt (48), 3) := by decide +kernel
theorem d_Ex_due_10 : decode b_Ex_due 10 = .ok (.aload_n 0, 1) := by decide +kernel
theorem d_Ex_due_11 : decode b_Ex_due 11 = .ok (.getfield 15, 3) := by decide +kernel
theorem d_Ex_due_14 : decode b_Ex_due 14 = .ok (.iload_n 2, 1) := by decide +kernel
theorem d_Ex_due_15 : decode b_Ex_due 15 = .ok (.baload, 1) := by decide +kernel
theorem d_Ex_due_16 : decode b_Ex_due 16 = .ok (.ifCond .eq (33), 3) := by decide +kernel
theorem d_Ex_due_19 : decode b_Ex_due 19 = .ok (.aload_n 0, 1) := by decide +kernel
theorem d_Ex_due_20 : decode b_Ex_due 20 = .ok (.getfield 9, 3) := by decide +kernel
theorem d_Ex_due_23 : decode b_Ex_due 23 = .ok (.iload_n 2, 1) := by decide +kernel
theorem d_Ex_due_24 : decode b_Ex_due 24 = .ok (.baload, 1) := by decide +kernel
theorem d_Ex_due_25 : decode b_Ex_due 25 = .ok (.ifCond .eq (24), 3) := by decide +kernel
theorem d_Ex_due_28 : decode b_Ex_due 28 = .ok (.iload_n 1, 1) := by decide +kernel
theorem d_Ex_due_29 : decode b_Ex_due 29 = .ok (.ifCond .eq (18), 3) := by decide +kernel
theorem d_Ex_due_32 : decode b_Ex_due 32 = .ok (.aload_n 0, 1) := by decide +kernel
theorem d_Ex_due_33 : decode b_Ex_due 33 = .ok (.getfield 21, 3) := by decide +kernel
theorem d_Ex_due_36 : decode b_Ex_due 36 = .ok (.iload_n 2, 1) := by decide +kernel
theorem d_Ex_due_37 : decode b_Ex_due 37 = .ok (.iaload, 1) := by decide +kernel
theorem d_Ex_due_38 : decode b_Ex_due 38 = .ok (.aload_n 0, 1) := by decide +kernel
theorem d_Ex_due_39 : decode b_Ex_due 39 = .ok (.getfield 21, 3) := by decide +kernel
theorem d_Ex_due_42 : decode b_Ex_due 42 = .ok (.iload_n 1, 1) := by decide +kernel
theorem d_Ex_due_43 : decode b_Ex_due 43 = .ok (.iaload, 1) := by decide +kernel
theorem d_Ex_due_44 : decode b_Ex_due 44 = .ok (.if_icmp .ge (5), 3) := by decide +kernel
theorem d_Ex_due_47 : decode b_Ex_due 47 = .ok (.iload_n 2, 1) := by decide +kernel
theorem d_Ex_due_48 : decode b_Ex_due 48 = .ok (.istore_n 1, 1) := by decide +kernel
theorem d_Ex_due_49 : decode b_Ex_due 49 = .ok (.iinc 2 (1), 3) := by decide +kernel
theorem d_Ex_due_52 : decode b_Ex_due 52 = .ok (.goto (-48), 3) := by decide +kernel
theorem d_Ex_due_55 : decode b_Ex_due 55 = .ok (.iload_n 1, 1) := by decide +kernel
theorem d_Ex_due_56 : decode b_Ex_due 56 = .ok (.ifCond .eq (19), 3) := by decide +kernel
theorem d_Ex_due_59 : decode b_Ex_due 59 = .ok (.aload_n 0, 1) := by decide +kernel
theorem d_Ex_due_60 : decode b_Ex_due 60 = .ok (.iload_n 1, 1) := by decide +kernel
theorem d_Ex_due_61 : decode b_Ex_due 61 = .ok (.invokevirtual 29, 3) := by decide +kernel
theorem d_Ex_due_64 : decode b_Ex_due 64 = .ok (.aload_n 0, 1) := by decide +kernel
theorem d_Ex_due_65 : decode b_Ex_due 65 = .ok (.invokevirtual 49, 3) := by decide +kernel
theorem d_Ex_due_68 : decode b_Ex_due 68 = .ok (.if_icmp .ge (7), 3) := by decide +kernel
theorem d_Ex_due_71 : decode b_Ex_due 71 = .ok (.iload_n 1, 1) := by decide +kernel
theorem d_Ex_due_72 : decode b_Ex_due 72 = .ok (.goto (4), 3) := by decide +kernel
theorem d_Ex_due_75 : decode b_Ex_due 75 = .ok (.iconst 0, 1) := by decide +kernel
theorem d_Ex_due_76 : decode b_Ex_due 76 = .ok (.ireturn, 1) := by decide +kernel
theorem d_Me_holdsFrame_0 : decode b_Me_holdsFrame 0 = .ok (.iload_n 1, 1) := by decide +kernel
theorem d_Me_holdsFrame_1 : decode b_Me_holdsFrame 1 = .ok (.ifCond .lt (20), 3) := by decide +kernel
theorem d_Me_holdsFrame_4 : decode b_Me_holdsFrame 4 = .ok (.iload_n 1, 1) := by decide +kernel
theorem d_Me_holdsFrame_5 : decode b_Me_holdsFrame 5 = .ok (.sipush (992), 3) := by decide +kernel
theorem d_Me_holdsFrame_8 : decode b_Me_holdsFrame 8 = .ok (.if_icmp .gt (13), 3) := by decide +kernel
theorem d_Me_holdsFrame_11 : decode b_Me_holdsFrame 11 = .ok (.iload_n 1, 1) := by decide +kernel
theorem d_Me_holdsFrame_12 : decode b_Me_holdsFrame 12 = .ok (.iconst 3, 1) := by decide +kernel
theorem d_Me_holdsFrame_13 : decode b_Me_holdsFrame 13 = .ok (.iand, 1) := by decide +kernel
theorem d_Me_holdsFrame_14 : decode b_Me_holdsFrame 14 = .ok (.ifCond .ne (7), 3) := by decide +kernel
theorem d_Me_holdsFrame_17 : decode b_Me_holdsFrame 17 = .ok (.iconst 1, 1) := by decide +kernel
theorem d_Me_holdsFrame_18 : decode b_Me_holdsFrame 18 = .ok (.goto (4), 3) := by decide +kernel
theorem d_Me_holdsFrame_21 : decode b_Me_holdsFrame 21 = .ok (.iconst 0, 1) := by decide +kernel
theorem d_Me_holdsFrame_22 : decode b_Me_holdsFrame 22 = .ok (.ireturn, 1) := by decide +kernel
theorem d_Fl_packed_0 : decode b_Fl_packed 0 = .ok (.aload_n 0, 1) := by decide +kernel
theorem d_Fl_packed_1 : decode b_Fl_packed 1 = .ok (.getfield 7, 3) := by decide +kernel
theorem d_Fl_packed_4 : decode b_Fl_packed 4 = .ok (.ifCond .eq (8), 3) := by decide +kernel
theorem d_Fl_packed_7 : decode b_Fl_packed 7 = .ok (.bipush (8), 2) := by decide +kernel
theorem d_Fl_packed_9 : decode b_Fl_packed 9 = .ok (.goto (4), 3) := by decide +kernel
theorem d_Fl_packed_12 : decode b_Fl_packed 12 = .ok (.iconst 0, 1) := by decide +kernel
theorem d_Fl_packed_13 : decode b_Fl_packed 13 = .ok (.aload_n 0, 1) := by decide +kernel
theorem d_Fl_packed_14 : decode b_Fl_packed 14 = .ok (.getfield 13, 3) := by decide +kernel
theorem d_Fl_packed_17 : decode b_Fl_packed 17 = .ok (.ifCond .eq (7), 3) := by decide +kernel
theorem d_Fl_packed_20 : decode b_Fl_packed 20 = .ok (.iconst 4, 1) := by decide +kernel
theorem d_Fl_packed_21 : decode b_Fl_packed 21 = .ok (.goto (4), 3) := by decide +kernel
theorem d_Fl_packed_24 : decode b_Fl_packed 24 = .ok (.iconst 0, 1) := by decide +kernel
theorem d_Fl_packed_25 : decode b_Fl_packed 25 = .ok (.iadd, 1) := by decide +kernel
theorem d_Fl_packed_26 : decode b_Fl_packed 26 = .ok (.aload_n 0, 1) := by decide +kernel
theorem d_Fl_packed_27 : decode b_Fl_packed 27 = .ok (.getfield 16, 3) := by decide +kernel
theorem d_Fl_packed_30 : decode b_Fl_packed 30 = .ok (.ifCond .eq (7), 3) := by decide +kernel
theorem d_Fl_packed_33 : decode b_Fl_packed 33 = .ok (.iconst 2, 1) := by decide +kernel
theorem d_Fl_packed_34 : decode b_Fl_packed 34 = .ok (.goto (4), 3) := by decide +kernel
theorem d_Fl_packed_37 : decode b_Fl_packed 37 = .ok (.iconst 0, 1) := by decide +kernel
theorem d_Fl_packed_38 : decode b_Fl_packed 38 = .ok (.iadd, 1) := by decide +kernel
theorem d_Fl_packed_39 : decode b_Fl_packed 39 = .ok (.aload_n 0, 1) := by decide +kernel
theorem d_Fl_packed_40 : decode b_Fl_packed 40 = .ok (.getfield 21, 3) := by decide +kernel
theorem d_Fl_packed_43 : decode b_Fl_packed 43 = .ok (.ifCond .eq (7), 3) := by decide +kernel
theorem d_Fl_packed_46 : decode b_Fl_packed 46 = .ok (.iconst 1, 1) := by decide +kernel
theorem d_Fl_packed_47 : decode b_Fl_packed 47 = .ok (.goto (4), 3) := by decide +kernel
theorem d_Fl_packed_50 : decode b_Fl_packed 50 = .ok (.iconst 0, 1) := by decide +kernel
theorem d_Fl_packed_51 : decode b_Fl_packed 51 = .ok (.iadd, 1) := by decide +kernel
theorem d_Fl_packed_52 : decode b_Fl_packed 52 = .ok (.ireturn, 1) := by decide +kernel
theorem d_N_enter_0 : decode b_N_enter 0 = .ok (.aload_n 0, 1) := by decide +kernel
theorem d_N_enter_1 : decode b_N_enter 1 = .ok (.getfield 33, 3) := by decide +kernel
theorem d_N_enter_4 : decode b_N_enter 4 = .ok (.getfield 190, 3) := by decide +kernel
theorem d_N_enter_7 : decode b_N_enter 7 = .ok (.iload_n 1, 1) := by decide +kernel
theorem d_N_enter_8 : decode b_N_enter 8 = .ok (.iconst 1, 1) := by decide +kernel
theorem d_N_enter_9 : decode b_N_enter 9 = .ok (.bastore, 1) := by decide +kernel
theorem d_N_enter_10 : decode b_N_enter 10 = .ok (.aload_n 0, 1) := by decide +kernel
theorem d_N_enter_11 : decode b_N_enter 11 = .ok (.getfield 33, 3) := by decide +kernel
theorem d_N_enter_14 : decode b_N_enter 14 = .ok (.getfield 104, 3) := by decide +kernel
theorem d_N_enter_17 : decode b_N_enter 17 = .ok (.iload_n 1, 1) := by decide +kernel
theorem d_N_enter_18 : decode b_N_enter 18 = .ok (.iconst 0, 1) := by decide +kernel
theorem d_N_enter_19 : decode b_N_enter 19 = .ok (.bastore, 1) := by decide +kernel
theorem d_N_enter_20 : decode b_N_enter 20 = .ok (.aload_n 0, 1) := by decide +kernel
theorem d_N_enter_21 : decode b_N_enter 21 = .ok (.iload_n 1, 1) := by decide +kernel
theorem d_N_enter_22 : decode b_N_enter 22 = .ok (.putfield 128, 3) := by decide +kernel
theorem d_N_enter_25 : decode b_N_enter 25 = .ok (.aload_n 0, 1) := by decide +kernel
theorem d_N_enter_26 : decode b_N_enter 26 = .ok (.getfield 9, 3) := by decide +kernel
theorem d_N_enter_29 : decode b_N_enter 29 = .ok (.bipush (15), 2) := by decide +kernel
theorem d_N_enter_31 : decode b_N_enter 31 = .ok (.aload_n 0, 1) := by decide +kernel
theorem d_N_enter_32 : decode b_N_enter 32 = .ok (.getfield 19, 3) := by decide +kernel
theorem d_N_enter_35 : decode b_N_enter 35 = .ok (.iconst 4, 1) := by decide +kernel
theorem d_N_enter_36 : decode b_N_enter 36 = .ok (.iload_n 1, 1) := by decide +kernel
theorem d_N_enter_37 : decode b_N_enter 37 = .ok (.imul, 1) := by decide +kernel
theorem d_N_enter_38 : decode b_N_enter 38 = .ok (.invokevirtual 66, 3) := by decide +kernel
theorem d_N_enter_41 : decode b_N_enter 41 = .ok (.invokestatic 72, 3) := by decide +kernel
theorem d_N_enter_44 : decode b_N_enter 44 = .ok (.iastore, 1) := by decide +kernel
theorem d_N_enter_45 : decode b_N_enter 45 = .ok (.return_, 1) := by decide +kernel
theorem d_N_take_0 : decode b_N_take 0 = .ok (.aload_n 0, 1) := by decide +kernel
theorem d_N_take_1 : decode b_N_take 1 = .ok (.getfield 9, 3) := by decide +kernel
theorem d_N_take_4 : decode b_N_take 4 = .ok (.bipush (13), 2) := by decide +kernel
theorem d_N_take_6 : decode b_N_take 6 = .ok (.iaload, 1) := by decide +kernel
theorem d_N_take_7 : decode b_N_take 7 = .ok (.bipush (7), 2) := by decide +kernel
theorem d_N_take_9 : decode b_N_take 9 = .ok (.iand, 1) := by decide +kernel
theorem d_N_take_10 : decode b_N_take 10 = .ok (.ifCond .eq (7), 3) := by decide +kernel
theorem d_N_take_13 : decode b_N_take 13 = .ok (.iconst 1, 1) := by decide +kernel
theorem d_N_take_14 : decode b_N_take 14 = .ok (.goto (4), 3) := by decide +kernel
theorem d_N_take_17 : decode b_N_take 17 = .ok (.iconst 0, 1) := by decide +kernel
theorem d_N_take_18 : decode b_N_take 18 = .ok (.istore_n 2, 1) := by decide +kernel
theorem d_N_take_19 : decode b_N_take 19 = .ok (.aload_n 0, 1) := by decide +kernel
theorem d_N_take_20 : decode b_N_take 20 = .ok (.getfield 9, 3) := by decide +kernel
theorem d_N_take_23 : decode b_N_take 23 = .ok (.bipush (13), 2) := by decide +kernel
theorem d_N_take_25 : decode b_N_take 25 = .ok (.iaload, 1) := by decide +kernel
theorem d_N_take_26 : decode b_N_take 26 = .ok (.bipush (32), 2) := by decide +kernel
theorem d_N_take_28 : decode b_N_take 28 = .ok (.isub, 1) := by decide +kernel
theorem d_N_take_29 : decode b_N_take 29 = .ok (.iload_n 2, 1) := by decide +kernel
theorem d_N_take_30 : decode b_N_take 30 = .ok (.ifCond .eq (7), 3) := by decide +kernel
theorem d_N_take_33 : decode b_N_take 33 = .ok (.iconst 4, 1) := by decide +kernel
theorem d_N_take_34 : decode b_N_take 34 = .ok (.goto (4), 3) := by decide +kernel
theorem d_N_take_37 : decode b_N_take 37 = .ok (.iconst 0, 1) := by decide +kernel
theorem d_N_take_38 : decode b_N_take 38 = .ok (.isub, 1) := by decide +kernel
theorem d_N_take_39 : decode b_N_take 39 = .ok (.istore_n 3, 1) := by decide +kernel
theorem d_N_take_40 : decode b_N_take 40 = .ok (.aload_n 0, 1) := by decide +kernel
theorem d_N_take_41 : decode b_N_take 41 = .ok (.getfield 19, 3) := by decide +kernel
theorem d_N_take_44 : decode b_N_take 44 = .ok (.iload_n 3, 1) := by decide +kernel
theorem d_N_take_45 : decode b_N_take 45 = .ok (.invokevirtual 181, 3) := by decide +kernel
theorem d_N_take_48 : decode b_N_take 48 = .ok (.ifCond .ne (9), 3) := by decide +kernel
theorem d_N_take_51 : decode b_N_take 51 = .ok (.aload_n 0, 1) := by decide +kernel
theorem d_N_take_52 : decode b_N_take 52 = .ok (.iconst 2, 1) := by decide +kernel
theorem d_N_take_53 : decode b_N_take 53 = .ok (.putfield 118, 3) := by decide +kernel
theorem d_N_take_56 : decode b_N_take 56 = .ok (.return_, 1) := by decide +kernel
theorem d_N_take_57 : decode b_N_take 57 = .ok (.iconst 0, 1) := by decide +kernel
theorem d_N_take_58 : decode b_N_take 58 = .ok (.istore 4, 2) := by decide +kernel
theorem d_N_take_60 : decode b_N_take 60 = .ok (.iload 4, 2) := by decide +kernel
theorem d_N_take_62 : decode b_N_take 62 = .ok (.getstatic 184, 3) := by decide +kernel
theorem d_N_take_65 : decode b_N_take 65 = .ok (.arraylength, 1) := by decide +kernel
theorem d_N_take_66 : decode b_N_take 66 = .ok (.if_icmp .ge (33), 3) := by decide +kernel
theorem d_N_take_69 : decode b_N_take 69 = .ok (.aload_n 0, 1) := by decide +kernel
theorem d_N_take_70 : decode b_N_take 70 = .ok (.getfield 19, 3) := by decide +kernel
theorem d_N_take_73 : decode b_N_take 73 = .ok (.iload_n 3, 1) := by decide +kernel
theorem d_N_take_74 : decode b_N_take 74 = .ok (.iconst 4, 1) := by decide +kernel
theorem d_N_take_75 : decode b_N_take 75 = .ok (.iload 4, 2) := by decide +kernel
theorem d_N_take_77 : decode b_N_take 77 = .ok (.imul, 1) := by decide +kernel
theorem d_N_take_78 : decode b_N_take 78 = .ok (.iadd, 1) := by decide +kernel
theorem d_N_take_79 : decode b_N_take 79 = .ok (.aload_n 0, 1) := by decide +kernel
theorem d_N_take_80 : decode b_N_take 80 = .ok (.getfield 9, 3) := by decide +kernel
theorem d_N_take_83 : decode b_N_take 83 = .ok (.getstatic 184, 3) := by decide +kernel
theorem d_N_take_86 : decode b_N_take 86 = .ok (.iload 4, 2) := by decide +kernel
theorem d_N_take_88 : decode b_N_take 88 = .ok (.iaload, 1) := by decide +kernel
theorem d_N_take_89 : decode b_N_take 89 = .ok (.iaload, 1) := by decide +kernel
theorem d_N_take_90 : decode b_N_take 90 = .ok (.invokevirtual 62, 3) := by decide +kernel
theorem d_N_take_93 : decode b_N_take 93 = .ok (.iinc 4 (1), 3) := by decide +kernel
theorem d_N_take_96 : decode b_N_take 96 = .ok (.goto (-36), 3) := by decide +kernel
theorem d_N_take_99 : decode b_N_take 99 = .ok (.aload_n 0, 1) := by decide +kernel
theorem d_N_take_100 : decode b_N_take 100 = .ok (.getfield 19, 3) := by decide +kernel
theorem d_N_take_103 : decode b_N_take 103 = .ok (.iload_n 3, 1) := by decide +kernel
theorem d_N_take_104 : decode b_N_take 104 = .ok (.bipush (28), 2) := by decide +kernel
theorem d_N_take_106 : decode b_N_take 106 = .ok (.iadd, 1) := by decide +kernel
theorem d_N_take_107 : decode b_N_take 107 = .ok (.aload_n 0, 1) := by decide +kernel
theorem d_N_take_108 : decode b_N_take 108 = .ok (.getfield 40, 3) := by decide +kernel
theorem d_N_take_111 : decode b_N_take 111 = .ok (.invokevirtual 124, 3) := by decide +kernel
theorem d_N_take_114 : decode b_N_take 114 = .ok (.bipush (28), 2) := by decide +kernel
theorem d_N_take_116 : decode b_N_take 116 = .ok (.ishl, 1) := by decide +kernel
theorem d_N_take_117 : decode b_N_take 117 = .ok (.iload_n 2, 1) := by decide +kernel
theorem d_N_take_118 : decode b_N_take 118 = .ok (.ifCond .eq (9), 3) := by decide +kernel
theorem d_N_take_121 : decode b_N_take 121 = .ok (.sipush (512), 3) := by decide +kernel
theorem d_N_take_124 : decode b_N_take 124 = .ok (.goto (4), 3) := by decide +kernel
theorem d_N_take_127 : decode b_N_take 127 = .ok (.iconst 0, 1) := by decide +kernel
theorem d_N_take_128 : decode b_N_take 128 = .ok (.ior, 1) := by decide +kernel
theorem d_N_take_129 : decode b_N_take 129 = .ok (.aload_n 0, 1) := by decide +kernel
theorem d_N_take_130 : decode b_N_take 130 = .ok (.getfield 128, 3) := by decide +kernel
theorem d_N_take_133 : decode b_N_take 133 = .ok (.ior, 1) := by decide +kernel
theorem d_N_take_134 : decode b_N_take 134 = .ok (.invokevirtual 62, 3) := by decide +kernel
theorem d_N_take_137 : decode b_N_take 137 = .ok (.aload_n 0, 1) := by decide +kernel
theorem d_N_take_138 : decode b_N_take 138 = .ok (.getfield 9, 3) := by decide +kernel
theorem d_N_take_141 : decode b_N_take 141 = .ok (.bipush (13), 2) := by decide +kernel
theorem d_N_take_143 : decode b_N_take 143 = .ok (.iload_n 3, 1) := by decide +kernel
theorem d_N_take_144 : decode b_N_take 144 = .ok (.iastore, 1) := by decide +kernel
theorem d_N_take_145 : decode b_N_take 145 = .ok (.aload_n 0, 1) := by decide +kernel
theorem d_N_take_146 : decode b_N_take 146 = .ok (.getfield 9, 3) := by decide +kernel
theorem d_N_take_149 : decode b_N_take 149 = .ok (.bipush (14), 2) := by decide +kernel
theorem d_N_take_151 : decode b_N_take 151 = .ok (.aload_n 0, 1) := by decide +kernel
theorem d_N_take_152 : decode b_N_take 152 = .ok (.getfield 128, 3) := by decide +kernel
theorem d_N_take_155 : decode b_N_take 155 = .ok (.ifCond .ne (8), 3) := by decide +kernel
theorem d_N_take_158 : decode b_N_take 158 = .ok (.bipush (-7), 2) := by decide +kernel
theorem d_N_take_160 : decode b_N_take 160 = .ok (.goto (5), 3) := by decide +kernel
theorem d_N_take_163 : decode b_N_take 163 = .ok (.bipush (-15), 2) := by decide +kernel
theorem d_N_take_165 : decode b_N_take 165 = .ok (.iastore, 1) := by decide +kernel
theorem d_N_take_166 : decode b_N_take 166 = .ok (.aload_n 0, 1) := by decide +kernel
theorem d_N_take_167 : decode b_N_take 167 = .ok (.dup, 1) := by decide +kernel
theorem d_N_take_168 : decode b_N_take 168 = .ok (.getfield 137, 3) := by decide +kernel
theorem d_N_take_171 : decode b_N_take 171 = .ok (.iconst 1, 1) := by decide +kernel
theorem d_N_take_172 : decode b_N_take 172 = .ok (.iadd, 1) := by decide +kernel
theorem d_N_take_173 : decode b_N_take 173 = .ok (.putfield 137, 3) := by decide +kernel
theorem d_N_take_176 : decode b_N_take 176 = .ok (.aload_n 0, 1) := by decide +kernel
theorem d_N_take_177 : decode b_N_take 177 = .ok (.iload_n 1, 1) := by decide +kernel
theorem d_N_take_178 : decode b_N_take 178 = .ok (.invokevirtual 187, 3) := by decide +kernel
theorem d_N_take_181 : decode b_N_take 181 = .ok (.return_, 1) := by decide +kernel
theorem d_Me_holdsHalf_0 : decode b_Me_holdsHalf 0 = .ok (.iload_n 1, 1) := by decide +kernel
theorem d_Me_holdsHalf_1 : decode b_Me_holdsHalf 1 = .ok (.ifCond .lt (20), 3) := by decide +kernel
theorem d_Me_holdsHalf_4 : decode b_Me_holdsHalf 4 = .ok (.iload_n 1, 1) := by decide +kernel
theorem d_Me_holdsHalf_5 : decode b_Me_holdsHalf 5 = .ok (.sipush (1024), 3) := by decide +kernel
theorem d_Me_holdsHalf_8 : decode b_Me_holdsHalf 8 = .ok (.if_icmp .ge (13), 3) := by decide +kernel
theorem d_Me_holdsHalf_11 : decode b_Me_holdsHalf 11 = .ok (.iload_n 1, 1) := by decide +kernel
theorem d_Me_holdsHalf_12 : decode b_Me_holdsHalf 12 = .ok (.iconst 1, 1) := by decide +kernel
theorem d_Me_holdsHalf_13 : decode b_Me_holdsHalf 13 = .ok (.iand, 1) := by decide +kernel
theorem d_Me_holdsHalf_14 : decode b_Me_holdsHalf 14 = .ok (.ifCond .ne (7), 3) := by decide +kernel
theorem d_Me_holdsHalf_17 : decode b_Me_holdsHalf 17 = .ok (.iconst 1, 1) := by decide +kernel
theorem d_Me_holdsHalf_18 : decode b_Me_holdsHalf 18 = .ok (.goto (4), 3) := by decide +kernel
theorem d_Me_holdsHalf_21 : decode b_Me_holdsHalf 21 = .ok (.iconst 0, 1) := by decide +kernel
theorem d_Me_holdsHalf_22 : decode b_Me_holdsHalf 22 = .ok (.ireturn, 1) := by decide +kernel
theorem d_Ar_bars_0 : decode b_Ar_bars 0 = .ok (.iconst 3, 1) := by decide +kernel
theorem d_Ar_bars_1 : decode b_Ar_bars 1 = .ok (.istore 4, 2) := by decide +kernel
theorem d_Ar_bars_3 : decode b_Ar_bars 3 = .ok (.iload 4, 2) := by decide +kernel
theorem d_Ar_bars_5 : decode b_Ar_bars 5 = .ok (.ifCond .lt (70), 3) := by decide +kernel
theorem d_Ar_bars_8 : decode b_Ar_bars 8 = .ok (.iload_n 1, 1) := by decide +kernel
theorem d_Ar_bars_9 : decode b_Ar_bars 9 = .ok (.aload_n 0, 1) := by decide +kernel
theorem d_Ar_bars_10 : decode b_Ar_bars 10 = .ok (.getfield 9, 3) := by decide +kernel
theorem d_Ar_bars_13 : decode b_Ar_bars 13 = .ok (.iload 4, 2) := by decide +kernel
theorem d_Ar_bars_15 : decode b_Ar_bars 15 = .ok (.iaload, 1) := by decide +kernel
theorem d_Ar_bars_16 : decode b_Ar_bars 16 = .ok (.if_icmp .lt (53), 3) := by decide +kernel
theorem d_Ar_bars_19 : decode b_Ar_bars 19 = .ok (.iload_n 1, 1) := by decide +kernel
theorem d_Ar_bars_20 : decode b_Ar_bars 20 = .ok (.aload_n 0, 1) := by decide +kernel
theorem d_Ar_bars_21 : decode b_Ar_bars 21 = .ok (.getfield 9, 3) := by decide +kernel
theorem d_Ar_bars_24 : decode b_Ar_bars 24 = .ok (.iload 4, 2) := by decide +kernel
theorem d_Ar_bars_26 : decode b_Ar_bars 26 = .ok (.iaload, 1) := by decide +kernel
theorem d_Ar_bars_27 : decode b_Ar_bars 27 = .ok (.aload_n 0, 1) := by decide +kernel
theorem d_Ar_bars_28 : decode b_Ar_bars 28 = .ok (.getfield 15, 3) := by decide +kernel
theorem d_Ar_bars_31 : decode b_Ar_bars 31 = .ok (.iload 4, 2) := by decide +kernel
theorem d_Ar_bars_33 : decode b_Ar_bars 33 = .ok (.iaload, 1) := by decide +kernel
theorem d_Ar_bars_34 : decode b_Ar_bars 34 = .ok (.iadd, 1) := by decide +kernel
theorem d_Ar_bars_35 : decode b_Ar_bars 35 = .ok (.if_icmp .ge (34), 3) := by decide +kernel
theorem d_Ar_bars_38 : decode b_Ar_bars 38 = .ok (.aload_n 0, 1) := by decide +kernel
theorem d_Ar_bars_39 : decode b_Ar_bars 39 = .ok (.getfield 18, 3) := by decide +kernel
theorem d_Ar_bars_42 : decode b_Ar_bars 42 = .ok (.iload 4, 2) := by decide +kernel
theorem d_Ar_bars_44 : decode b_Ar_bars 44 = .ok (.iaload, 1) := by decide +kernel
theorem d_Ar_bars_45 : decode b_Ar_bars 45 = .ok (.iload_n 2, 1) := by decide +kernel
theorem d_Ar_bars_46 : decode b_Ar_bars 46 = .ok (.if_icmp .lt (17), 3) := by decide +kernel
theorem d_Ar_bars_49 : decode b_Ar_bars 49 = .ok (.iload_n 3, 1) := by decide +kernel
theorem d_Ar_bars_50 : decode b_Ar_bars 50 = .ok (.ifCond .eq (17), 3) := by decide +kernel
theorem d_Ar_bars_53 : decode b_Ar_bars 53 = .ok (.aload_n 0, 1) := by decide +kernel
theorem d_Ar_bars_54 : decode b_Ar_bars 54 = .ok (.getfield 21, 3) := by decide +kernel
theorem d_Ar_bars_57 : decode b_Ar_bars 57 = .ok (.iload 4, 2) := by decide +kernel
theorem d_Ar_bars_59 : decode b_Ar_bars 59 = .ok (.baload, 1) := by decide +kernel
theorem d_Ar_bars_60 : decode b_Ar_bars 60 = .ok (.ifCond .eq (7), 3) := by decide +kernel
theorem d_Ar_bars_63 : decode b_Ar_bars 63 = .ok (.iconst 1, 1) := by decide +kernel
theorem d_Ar_bars_64 : decode b_Ar_bars 64 = .ok (.goto (4), 3) := by decide +kernel
theorem d_Ar_bars_67 : decode b_Ar_bars 67 = .ok (.iconst 0, 1) := by decide +kernel
theorem d_Ar_bars_68 : decode b_Ar_bars 68 = .ok (.ireturn, 1) := by decide +kernel
theorem d_Ar_bars_69 : decode b_Ar_bars 69 = .ok (.iinc 4 (-1), 3) := by decide +kernel
theorem d_Ar_bars_72 : decode b_Ar_bars 72 = .ok (.goto (-69), 3) := by decide +kernel
theorem d_Ar_bars_75 : decode b_Ar_bars 75 = .ok (.iconst 0, 1) := by decide +kernel
theorem d_Ar_bars_76 : decode b_Ar_bars 76 = .ok (.ireturn, 1) := by decide +kernel
theorem d_N_fetchFault_0 : decode b_N_fetchFault 0 = .ok (.aload_n 0, 1) := by decide +kernel
theorem d_N_fetchFault_1 : decode b_N_fetchFault 1 = .ok (.getfield 19, 3) := by decide +kernel
theorem d_N_fetchFault_4 : decode b_N_fetchFault 4 = .ok (.aload_n 0, 1) := by decide +kernel
theorem d_N_fetchFault_5 : decode b_N_fetchFault 5 = .ok (.getfield 9, 3) := by decide +kernel
theorem d_N_fetchFault_8 : decode b_N_fetchFault 8 = .ok (.bipush (15), 2) := by decide +kernel
theorem d_N_fetchFault_10 : decode b_N_fetchFault 10 = .ok (.iaload, 1) := by decide +kernel
theorem d_N_fetchFault_11 : decode b_N_fetchFault 11 = .ok (.invokevirtual 211, 3) := by decide +kernel
theorem d_N_fetchFault_14 : decode b_N_fetchFault 14 = .ok (.ifCond .ne (5), 3) := by decide +kernel
theorem d_N_fetchFault_17 : decode b_N_fetchFault 17 = .ok (.iconst 5, 1) := by decide +kernel
theorem d_N_fetchFault_18 : decode b_N_fetchFault 18 = .ok (.ireturn, 1) := by decide +kernel
theorem d_N_fetchFault_19 : decode b_N_fetchFault 19 = .ok (.aload_n 0, 1) := by decide +kernel
theorem d_N_fetchFault_20 : decode b_N_fetchFault 20 = .ok (.getfield 26, 3) := by decide +kernel
theorem d_N_fetchFault_23 : decode b_N_fetchFault 23 = .ok (.aload_n 0, 1) := by decide +kernel
theorem d_N_fetchFault_24 : decode b_N_fetchFault 24 = .ok (.getfield 9, 3) := by decide +kernel
theorem d_N_fetchFault_27 : decode b_N_fetchFault 27 = .ok (.bipush (15), 2) := by decide +kernel
theorem d_N_fetchFault_29 : decode b_N_fetchFault 29 = .ok (.iaload, 1) := by decide +kernel
theorem d_N_fetchFault_30 : decode b_N_fetchFault 30 = .ok (.iconst 1, 1) := by decide +kernel
theorem d_N_fetchFault_31 : decode b_N_fetchFault 31 = .ok (.iconst 1, 1) := by decide +kernel
theorem d_N_fetchFault_32 : decode b_N_fetchFault 32 = .ok (.invokevirtual 214, 3) := by decide +kernel
theorem d_N_fetchFault_35 : decode b_N_fetchFault 35 = .ok (.ifCond .eq (7), 3) := by decide +kernel
theorem d_N_fetchFault_38 : decode b_N_fetchFault 38 = .ok (.iconst 4, 1) := by decide +kernel
theorem d_N_fetchFault_39 : decode b_N_fetchFault 39 = .ok (.goto (4), 3) := by decide +kernel
theorem d_N_fetchFault_42 : decode b_N_fetchFault 42 = .ok (.iconst 0, 1) := by decide +kernel
theorem d_N_fetchFault_43 : decode b_N_fetchFault 43 = .ok (.ireturn, 1) := by decide +kernel
theorem d_Me_half_0 : decode b_Me_half 0 = .ok (.aload_n 0, 1) := by decide +kernel
theorem d_Me_half_1 : decode b_Me_half 1 = .ok (.iload_n 1, 1) := by decide +kernel
theorem d_Me_half_2 : decode b_Me_half 2 = .ok (.invokevirtual 15, 3) := by decide +kernel
theorem d_Me_half_5 : decode b_Me_half 5 = .ok (.bipush (8), 2) := by decide +kernel
theorem d_Me_half_7 : decode b_Me_half 7 = .ok (.iload_n 1, 1) := by decide +kernel
theorem d_Me_half_8 : decode b_Me_half 8 = .ok (.iconst 2, 1) := by decide +kernel
theorem d_Me_half_9 : decode b_Me_half 9 = .ok (.iand, 1) := by decide +kernel
theorem d_Me_half_10 : decode b_Me_half 10 = .ok (.imul, 1) := by decide +kernel
theorem d_Me_half_11 : decode b_Me_half 11 = .ok (.iushr, 1) := by decide +kernel
theorem d_Me_half_12 : decode b_Me_half 12 = .ok (.ldc 19, 2) := by decide +kernel
theorem d_Me_half_14 : decode b_Me_half 14 = .ok (.iand, 1) := by decide +kernel
theorem d_Me_half_15 : decode b_Me_half 15 = .ok (.ireturn, 1) := by decide +kernel
theorem d_N_fetch_0 : decode b_N_fetch 0 = .ok (.aload_n 0, 1) := by decide +kernel
theorem d_N_fetch_1 : decode b_N_fetch 1 = .ok (.getfield 9, 3) := by decide +kernel
theorem d_N_fetch_4 : decode b_N_fetch 4 = .ok (.bipush (15), 2) := by decide +kernel
theorem d_N_fetch_6 : decode b_N_fetch 6 = .ok (.iaload, 1) := by decide +kernel
theorem d_N_fetch_7 : decode b_N_fetch 7 = .ok (.istore_n 1, 1) := by decide +kernel
theorem d_N_fetch_8 : decode b_N_fetch 8 = .ok (.aload_n 0, 1) := by decide +kernel
theorem d_N_fetch_9 : decode b_N_fetch 9 = .ok (.getfield 9, 3) := by decide +kernel
theorem d_N_fetch_12 : decode b_N_fetch 12 = .ok (.bipush (15), 2) := by decide +kernel
theorem d_N_fetch_14 : decode b_N_fetch 14 = .ok (.iload_n 1, 1) := by decide +kernel
theorem d_N_fetch_15 : decode b_N_fetch 15 = .ok (.iconst 2, 1) := by decide +kernel
theorem d_N_fetch_16 : decode b_N_fetch 16 = .ok (.iadd, 1) := by decide +kernel
theorem d_N_fetch_17 : decode b_N_fetch 17 = .ok (.iastore, 1) := by decide +kernel
theorem d_N_fetch_18 : decode b_N_fetch 18 = .ok (.aload_n 0, 1) := by decide +kernel
theorem d_N_fetch_19 : decode b_N_fetch 19 = .ok (.getfield 19, 3) := by decide +kernel
theorem d_N_fetch_22 : decode b_N_fetch 22 = .ok (.iload_n 1, 1) := by decide +kernel
theorem d_N_fetch_23 : decode b_N_fetch 23 = .ok (.invokevirtual 218, 3) := by decide +kernel
theorem d_N_fetch_26 : decode b_N_fetch 26 = .ok (.ireturn, 1) := by decide +kernel
theorem d_Fl_ofResult_0 : decode b_Fl_ofResult 0 = .ok (.aload_n 0, 1) := by decide +kernel
theorem d_Fl_ofResult_1 : decode b_Fl_ofResult 1 = .ok (.iload_n 1, 1) := by decide +kernel
theorem d_Fl_ofResult_2 : decode b_Fl_ofResult 2 = .ok (.ifCond .ge (7), 3) := by decide +kernel
theorem d_Fl_ofResult_5 : decode b_Fl_ofResult 5 = .ok (.iconst 1, 1) := by decide +kernel
theorem d_Fl_ofResult_6 : decode b_Fl_ofResult 6 = .ok (.goto (4), 3) := by decide +kernel
theorem d_Fl_ofResult_9 : decode b_Fl_ofResult 9 = .ok (.iconst 0, 1) := by decide +kernel
theorem d_Fl_ofResult_10 : decode b_Fl_ofResult 10 = .ok (.putfield 7, 3) := by decide +kernel
theorem d_Fl_ofResult_13 : decode b_Fl_ofResult 13 = .ok (.aload_n 0, 1) := by decide +kernel
theorem d_Fl_ofResult_14 : decode b_Fl_ofResult 14 = .ok (.iload_n 1, 1) := by decide +kernel
theorem d_Fl_ofResult_15 : decode b_Fl_ofResult 15 = .ok (.ifCond .ne (7), 3) := by decide +kernel
theorem d_Fl_ofResult_18 : decode b_Fl_ofResult 18 = .ok (.iconst 1, 1) := by decide +kernel
theorem d_Fl_ofResult_19 : decode b_Fl_ofResult 19 = .ok (.goto (4), 3) := by decide +kernel
theorem d_Fl_ofResult_22 : decode b_Fl_ofResult 22 = .ok (.iconst 0, 1) := by decide +kernel
theorem d_Fl_ofResult_23 : decode b_Fl_ofResult 23 = .ok (.putfield 13, 3) := by decide +kernel
theorem d_Fl_ofResult_26 : decode b_Fl_ofResult 26 = .ok (.return_, 1) := by decide +kernel
theorem d_N_shift_0 : decode b_N_shift 0 = .ok (.iload_n 1, 1) := by decide +kernel
theorem d_N_shift_1 : decode b_N_shift 1 = .ok (.bipush (7), 2) := by decide +kernel
theorem d_N_shift_3 : decode b_N_shift 3 = .ok (.iand, 1) := by decide +kernel
theorem d_N_shift_4 : decode b_N_shift 4 = .ok (.istore_n 2, 1) := by decide +kernel
theorem d_N_shift_5 : decode b_N_shift 5 = .ok (.aload_n 0, 1) := by decide +kernel
theorem d_N_shift_6 : decode b_N_shift 6 = .ok (.getfield 9, 3) := by decide +kernel
theorem d_N_shift_9 : decode b_N_shift 9 = .ok (.iload_n 1, 1) := by decide +kernel
theorem d_N_shift_10 : decode b_N_shift 10 = .ok (.iconst 3, 1) := by decide +kernel
theorem d_N_shift_11 : decode b_N_shift 11 = .ok (.ishr, 1) := by decide +kernel
theorem d_N_shift_12 : decode b_N_shift 12 = .ok (.bipush (7), 2) := by decide +kernel
theorem d_N_shift_14 : decode b_N_shift 14 = .ok (.iand, 1) := by decide +kernel
theorem d_N_shift_15 : decode b_N_shift 15 = .ok (.iaload, 1) := by decide +kernel
theorem d_N_shift_16 : decode b_N_shift 16 = .ok (.istore_n 3, 1) := by decide +kernel
theorem d_N_shift_17 : decode b_N_shift 17 = .ok (.iload_n 1, 1) := by decide +kernel
theorem d_N_shift_18 : decode b_N_shift 18 = .ok (.bipush (6), 2) := by decide +kernel
theorem d_N_shift_20 : decode b_N_shift 20 = .ok (.ishr, 1) := by decide +kernel
theorem d_N_shift_21 : decode b_N_shift 21 = .ok (.bipush (31), 2) := by decide +kernel
theorem d_N_shift_23 : decode b_N_shift 23 = .ok (.iand, 1) := by decide +kernel
theorem d_N_shift_24 : decode b_N_shift 24 = .ok (.istore 4, 2) := by decide +kernel
theorem d_N_shift_26 : decode b_N_shift 26 = .ok (.iload_n 1, 1) := by decide +kernel
theorem d_N_shift_27 : decode b_N_shift 27 = .ok (.bipush (11), 2) := by decide +kernel
theorem d_N_shift_29 : decode b_N_shift 29 = .ok (.ishr, 1) := by decide +kernel
theorem d_N_shift_30 : decode b_N_shift 30 = .ok (.istore 5, 2) := by decide +kernel
theorem d_N_shift_32 : decode b_N_shift 32 = .ok (.iload 4, 2) := by decide +kernel
theorem d_N_shift_34 : decode b_N_shift 34 = .ok (.ifCond .eq (39), 3) := by decide +kernel
theorem d_N_shift_37 : decode b_N_shift 37 = .ok (.aload_n 0, 1) := by decide +kernel
theorem d_N_shift_38 : decode b_N_shift 38 = .ok (.getfield 40, 3) := by decide +kernel
theorem d_N_shift_41 : decode b_N_shift 41 = .ok (.iload_n 3, 1) := by decide +kernel
theorem d_N_shift_42 : decode b_N_shift 42 = .ok (.iload 5, 2) := by decide +kernel
theorem d_N_shift_44 : decode b_N_shift 44 = .ok (.ifCond .ne (11), 3) := by decide +kernel
theorem d_N_shift_47 : decode b_N_shift 47 = .ok (.bipush (32), 2) := by decide +kernel
theorem d_N_shift_49 : decode b_N_shift 49 = .ok (.iload 4, 2) := by decide +kernel
theorem d_N_shift_51 : decode b_N_shift 51 = .ok (.isub, 1) := by decide +kernel
theorem d_N_shift_52 : decode b_N_shift 52 = .ok (.goto (7), 3) := by decide +kernel
theorem d_N_shift_55 : decode b_N_shift 55 = .ok (.iload 4, 2) := by decide +kernel
theorem d_N_shift_57 : decode b_N_shift 57 = .ok (.iconst 1, 1) := by decide +kernel
theorem d_N_shift_58 : decode b_N_shift 58 = .ok (.isub, 1) := by decide +kernel
theorem d_N_shift_59 : decode b_N_shift 59 = .ok (.iushr, 1) := by decide +kernel
theorem d_N_shift_60 : decode b_N_shift 60 = .ok (.iconst 1, 1) := by decide +kernel
theorem d_N_shift_61 : decode b_N_shift 61 = .ok (.iand, 1) := by decide +kernel
theorem d_N_shift_62 : decode b_N_shift 62 = .ok (.ifCond .eq (7), 3) := by decide +kernel
theorem d_N_shift_65 : decode b_N_shift 65 = .ok (.iconst 1, 1) := by decide +kernel
theorem d_N_shift_66 : decode b_N_shift 66 = .ok (.goto (4), 3) := by decide +kernel
theorem d_N_shift_69 : decode b_N_shift 69 = .ok (.iconst 0, 1) := by decide +kernel
theorem d_N_shift_70 : decode b_N_shift 70 = .ok (.putfield 252, 3) := by decide +kernel
theorem d_N_shift_73 : decode b_N_shift 73 = .ok (.aload_n 0, 1) := by decide +kernel
theorem d_N_shift_74 : decode b_N_shift 74 = .ok (.getfield 9, 3) := by decide +kernel
theorem d_N_shift_77 : decode b_N_shift 77 = .ok (.iload_n 2, 1) := by decide +kernel
theorem d_N_shift_78 : decode b_N_shift 78 = .ok (.iload 5, 2) := by decide +kernel
theorem d_N_shift_80 : decode b_N_shift 80 = .ok (.ifCond .ne (10), 3) := by decide +kernel
theorem d_N_shift_83 : decode b_N_shift 83 = .ok (.iload_n 3, 1) := by decide +kernel
theorem d_N_shift_84 : decode b_N_shift 84 = .ok (.iload 4, 2) := by decide +kernel
theorem d_N_shift_86 : decode b_N_shift 86 = .ok (.ishl, 1) := by decide +kernel
theorem d_N_shift_87 : decode b_N_shift 87 = .ok (.goto (20), 3) := by decide +kernel
theorem d_N_shift_90 : decode b_N_shift 90 = .ok (.iload 5, 2) := by decide +kernel
theorem d_N_shift_92 : decode b_N_shift 92 = .ok (.iconst 1, 1) := by decide +kernel
theorem d_N_shift_93 : decode b_N_shift 93 = .ok (.if_icmp .ne (10), 3) := by decide +kernel
theorem d_N_shift_96 : decode b_N_shift 96 = .ok (.iload_n 3, 1) := by decide +kernel
theorem d_N_shift_97 : decode b_N_shift 97 = .ok (.iload 4, 2) := by decide +kernel
theorem d_N_shift_99 : decode b_N_shift 99 = .ok (.iushr, 1) := by decide +kernel
theorem d_N_shift_100 : decode b_N_shift 100 = .ok (.goto (7), 3) := by decide +kernel
theorem d_N_shift_103 : decode b_N_shift 103 = .ok (.iload_n 3, 1) := by decide +kernel
theorem d_N_shift_104 : decode b_N_shift 104 = .ok (.iload 4, 2) := by decide +kernel
theorem d_N_shift_106 : decode b_N_shift 106 = .ok (.ishr, 1) := by decide +kernel
theorem d_N_shift_107 : decode b_N_shift 107 = .ok (.iastore, 1) := by decide +kernel
theorem d_N_shift_108 : decode b_N_shift 108 = .ok (.aload_n 0, 1) := by decide +kernel
theorem d_N_shift_109 : decode b_N_shift 109 = .ok (.getfield 40, 3) := by decide +kernel
theorem d_N_shift_112 : decode b_N_shift 112 = .ok (.aload_n 0, 1) := by decide +kernel
theorem d_N_shift_113 : decode b_N_shift 113 = .ok (.getfield 9, 3) := by decide +kernel
theorem d_N_shift_116 : decode b_N_shift 116 = .ok (.iload_n 2, 1) := by decide +kernel
theorem d_N_shift_117 : decode b_N_shift 117 = .ok (.iaload, 1) := by decide +kernel
theorem d_N_shift_118 : decode b_N_shift 118 = .ok (.invokevirtual 255, 3) := by decide +kernel
theorem d_N_shift_121 : decode b_N_shift 121 = .ok (.iconst 0, 1) := by decide +kernel
theorem d_N_shift_122 : decode b_N_shift 122 = .ok (.ireturn, 1) := by decide +kernel
theorem d_Fl_sum_0 : decode b_Fl_sum 0 = .ok (.iload_n 1, 1) := by decide +kernel
theorem d_Fl_sum_1 : decode b_Fl_sum 1 = .ok (.i2l, 1) := by decide +kernel
theorem d_Fl_sum_2 : decode b_Fl_sum 2 = .ok (.iload_n 2, 1) := by decide +kernel
theorem d_Fl_sum_3 : decode b_Fl_sum 3 = .ok (.i2l, 1) := by decide +kernel
theorem d_Fl_sum_4 : decode b_Fl_sum 4 = .ok (.ladd, 1) := by decide +kernel
theorem d_Fl_sum_5 : decode b_Fl_sum 5 = .ok (.iload_n 3, 1) := by decide +kernel
theorem d_Fl_sum_6 : decode b_Fl_sum 6 = .ok (.i2l, 1) := by decide +kernel
theorem d_Fl_sum_7 : decode b_Fl_sum 7 = .ok (.ladd, 1) := by decide +kernel
theorem d_Fl_sum_8 : decode b_Fl_sum 8 = .ok (.lstore 4, 2) := by decide +kernel
theorem d_Fl_sum_10 : decode b_Fl_sum 10 = .ok (.iload_n 1, 1) := by decide +kernel
theorem d_Fl_sum_11 : decode b_Fl_sum 11 = .ok (.i2l, 1) := by decide +kernel
theorem d_Fl_sum_12 : decode b_Fl_sum 12 = .ok (.ldc2_w 19, 3) := by decide +kernel
theorem d_Fl_sum_15 : decode b_Fl_sum 15 = .ok (.land, 1) := by decide +kernel
theorem d_Fl_sum_16 : decode b_Fl_sum 16 = .ok (.iload_n 2, 1) := by decide +kernel
theorem d_Fl_sum_17 : decode b_Fl_sum 17 = .ok (.i2l, 1) := by decide +kernel
theorem d_Fl_sum_18 : decode b_Fl_sum 18 = .ok (.ldc2_w 19, 3) := by decide +kernel
theorem d_Fl_sum_21 : decode b_Fl_sum 21 = .ok (.land, 1) := by decide +kernel
theorem d_Fl_sum_22 : decode b_Fl_sum 22 = .ok (.ladd, 1) := by decide +kernel
theorem d_Fl_sum_23 : decode b_Fl_sum 23 = .ok (.iload_n 3, 1) := by decide +kernel
theorem d_Fl_sum_24 : decode b_Fl_sum 24 = .ok (.i2l, 1) := by decide +kernel
theorem d_Fl_sum_25 : decode b_Fl_sum 25 = .ok (.ladd, 1) := by decide +kernel
theorem d_Fl_sum_26 : decode b_Fl_sum 26 = .ok (.lstore 6, 2) := by decide +kernel
theorem d_Fl_sum_28 : decode b_Fl_sum 28 = .ok (.lload 4, 2) := by decide +kernel
theorem d_Fl_sum_30 : decode b_Fl_sum 30 = .ok (.l2i, 1) := by decide +kernel
theorem d_Fl_sum_31 : decode b_Fl_sum 31 = .ok (.istore 8, 2) := by decide +kernel
theorem d_Fl_sum_33 : decode b_Fl_sum 33 = .ok (.aload_n 0, 1) := by decide +kernel
theorem d_Fl_sum_34 : decode b_Fl_sum 34 = .ok (.lload 6, 2) := by decide +kernel
theorem d_Fl_sum_36 : decode b_Fl_sum 36 = .ok (.bipush (32), 2) := by decide +kernel
theorem d_Fl_sum_38 : decode b_Fl_sum 38 = .ok (.lushr, 1) := by decide +kernel
theorem d_Fl_sum_39 : decode b_Fl_sum 39 = .ok (.lconst 0, 1) := by decide +kernel
theorem d_Fl_sum_40 : decode b_Fl_sum 40 = .ok (.lcmp, 1) := by decide +kernel
theorem d_Fl_sum_41 : decode b_Fl_sum 41 = .ok (.ifCond .eq (7), 3) := by decide +kernel
theorem d_Fl_sum_44 : decode b_Fl_sum 44 = .ok (.iconst 1, 1) := by decide +kernel
theorem d_Fl_sum_45 : decode b_Fl_sum 45 = .ok (.goto (4), 3) := by decide +kernel
theorem d_Fl_sum_48 : decode b_Fl_sum 48 = .ok (.iconst 0, 1) := by decide +kernel
theorem d_Fl_sum_49 : decode b_Fl_sum 49 = .ok (.putfield 16, 3) := by decide +kernel
theorem d_Fl_sum_52 : decode b_Fl_sum 52 = .ok (.aload_n 0, 1) := by decide +kernel
theorem d_Fl_sum_53 : decode b_Fl_sum 53 = .ok (.lload 4, 2) := by decide +kernel
theorem d_Fl_sum_55 : decode b_Fl_sum 55 = .ok (.iload 8, 2) := by decide +kernel
theorem d_Fl_sum_57 : decode b_Fl_sum 57 = .ok (.i2l, 1) := by decide +kernel
theorem d_Fl_sum_58 : decode b_Fl_sum 58 = .ok (.lcmp, 1) := by decide +kernel
theorem d_Fl_sum_59 : decode b_Fl_sum 59 = .ok (.ifCond .eq (7), 3) := by decide +kernel
theorem d_Fl_sum_62 : decode b_Fl_sum 62 = .ok (.iconst 1, 1) := by decide +kernel
theorem d_Fl_sum_63 : decode b_Fl_sum 63 = .ok (.goto (4), 3) := by decide +kernel
theorem d_Fl_sum_66 : decode b_Fl_sum 66 = .ok (.iconst 0, 1) := by decide +kernel
theorem d_Fl_sum_67 : decode b_Fl_sum 67 = .ok (.putfield 21, 3) := by decide +kernel
theorem d_Fl_sum_70 : decode b_Fl_sum 70 = .ok (.aload_n 0, 1) := by decide +kernel
theorem d_Fl_sum_71 : decode b_Fl_sum 71 = .ok (.iload 8, 2) := by decide +kernel
theorem d_Fl_sum_73 : decode b_Fl_sum 73 = .ok (.invokevirtual 24, 3) := by decide +kernel
theorem d_Fl_sum_76 : decode b_Fl_sum 76 = .ok (.iload 8, 2) := by decide +kernel
theorem d_Fl_sum_78 : decode b_Fl_sum 78 = .ok (.ireturn, 1) := by decide +kernel
theorem d_Fl_difference_0 : decode b_Fl_difference 0 = .ok (.aload_n 0, 1) := by decide +kernel
theorem d_Fl_difference_1 : decode b_Fl_difference 1 = .ok (.iload_n 1, 1) := by decide +kernel
theorem d_Fl_difference_2 : decode b_Fl_difference 2 = .ok (.iload_n 2, 1) := by decide +kernel
theorem d_Fl_difference_3 : decode b_Fl_difference 3 = .ok (.iconst (-1), 1) := by decide +kernel
theorem d_Fl_difference_4 : decode b_Fl_difference 4 = .ok (.ixor, 1) := by decide +kernel
theorem d_Fl_difference_5 : decode b_Fl_difference 5 = .ok (.iconst 1, 1) := by decide +kernel
theorem d_Fl_difference_6 : decode b_Fl_difference 6 = .ok (.invokevirtual 28, 3) := by decide +kernel
