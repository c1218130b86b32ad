theorem d_Fl_difference_9 : decode b_Fl_difference 9 = .ok (.ireturn, 1) := by decide +kernel
theorem d_N_addThree_0 : decode b_N_addThree 0 = .ok (.iload_n 1, 1) := by decide +kernel
theorem d_N_addThree_1 : decode b_N_addThree 1 = .ok (.bipush (7), 2) := by decide +kernel
theorem d_N_addThree_3 : decode b_N_addThree 3 = .ok (.iand, 1) := by decide +kernel
theorem d_N_addThree_4 : decode b_N_addThree 4 = .ok (.istore_n 2, 1) := by decide +kernel
theorem d_N_addThree_5 : decode b_N_addThree 5 = .ok (.aload_n 0, 1) := by decide +kernel
theorem d_N_addThree_6 : decode b_N_addThree 6 = .ok (.getfield 9, 3) := by decide +kernel
theorem d_N_addThree_9 : decode b_N_addThree 9 = .ok (.iload_n 1, 1) := by decide +kernel
theorem d_N_addThree_10 : decode b_N_addThree 10 = .ok (.iconst 3, 1) := by decide +kernel
theorem d_N_addThree_11 : decode b_N_addThree 11 = .ok (.ishr, 1) := by decide +kernel
theorem d_N_addThree_12 : decode b_N_addThree 12 = .ok (.bipush (7), 2) := by decide +kernel
theorem d_N_addThree_14 : decode b_N_addThree 14 = .ok (.iand, 1) := by decide +kernel
theorem d_N_addThree_15 : decode b_N_addThree 15 = .ok (.iaload, 1) := by decide +kernel
theorem d_N_addThree_16 : decode b_N_addThree 16 = .ok (.istore_n 3, 1) := by decide +kernel
theorem d_N_addThree_17 : decode b_N_addThree 17 = .ok (.aload_n 0, 1) := by decide +kernel
theorem d_N_addThree_18 : decode b_N_addThree 18 = .ok (.getfield 9, 3) := by decide +kernel
theorem d_N_addThree_21 : decode b_N_addThree 21 = .ok (.iload_n 1, 1) := by decide +kernel
theorem d_N_addThree_22 : decode b_N_addThree 22 = .ok (.bipush (6), 2) := by decide +kernel
theorem d_N_addThree_24 : decode b_N_addThree 24 = .ok (.ishr, 1) := by decide +kernel
theorem d_N_addThree_25 : decode b_N_addThree 25 = .ok (.bipush (7), 2) := by decide +kernel
theorem d_N_addThree_27 : decode b_N_addThree 27 = .ok (.iand, 1) := by decide +kernel
theorem d_N_addThree_28 : decode b_N_addThree 28 = .ok (.iaload, 1) := by decide +kernel
theorem d_N_addThree_29 : decode b_N_addThree 29 = .ok (.istore 4, 2) := by decide +kernel
theorem d_N_addThree_31 : decode b_N_addThree 31 = .ok (.iload_n 1, 1) := by decide +kernel
theorem d_N_addThree_32 : decode b_N_addThree 32 = .ok (.bipush (9), 2) := by decide +kernel
theorem d_N_addThree_34 : decode b_N_addThree 34 = .ok (.ishr, 1) := by decide +kernel
theorem d_N_addThree_35 : decode b_N_addThree 35 = .ok (.iconst 3, 1) := by decide +kernel
theorem d_N_addThree_36 : decode b_N_addThree 36 = .ok (.iand, 1) := by decide +kernel
theorem d_N_addThree_37 : decode b_N_addThree 37 = .ok (.lookupswitch (64) #[(0, 27), (1, 46)], 27) := by decide +kernel
theorem d_N_addThree_64 : decode b_N_addThree 64 = .ok (.aload_n 0, 1) := by decide +kernel
theorem d_N_addThree_65 : decode b_N_addThree 65 = .ok (.getfield 9, 3) := by decide +kernel
theorem d_N_addThree_68 : decode b_N_addThree 68 = .ok (.iload_n 2, 1) := by decide +kernel
theorem d_N_addThree_69 : decode b_N_addThree 69 = .ok (.aload_n 0, 1) := by decide +kernel
theorem d_N_addThree_70 : decode b_N_addThree 70 = .ok (.getfield 40, 3) := by decide +kernel
theorem d_N_addThree_73 : decode b_N_addThree 73 = .ok (.iload_n 3, 1) := by decide +kernel
theorem d_N_addThree_74 : decode b_N_addThree 74 = .ok (.iload 4, 2) := by decide +kernel
theorem d_N_addThree_76 : decode b_N_addThree 76 = .ok (.iconst 0, 1) := by decide +kernel
theorem d_N_addThree_77 : decode b_N_addThree 77 = .ok (.invokevirtual 258, 3) := by decide +kernel
theorem d_N_addThree_80 : decode b_N_addThree 80 = .ok (.iastore, 1) := by decide +kernel
theorem d_N_addThree_81 : decode b_N_addThree 81 = .ok (.iconst 0, 1) := by decide +kernel
theorem d_N_addThree_82 : decode b_N_addThree 82 = .ok (.ireturn, 1) := by decide +kernel
theorem d_N_addThree_83 : decode b_N_addThree 83 = .ok (.aload_n 0, 1) := by decide +kernel
theorem d_N_addThree_84 : decode b_N_addThree 84 = .ok (.getfield 9, 3) := by decide +kernel
theorem d_N_addThree_87 : decode b_N_addThree 87 = .ok (.iload_n 2, 1) := by decide +kernel
theorem d_N_addThree_88 : decode b_N_addThree 88 = .ok (.aload_n 0, 1) := by decide +kernel
theorem d_N_addThree_89 : decode b_N_addThree 89 = .ok (.getfield 40, 3) := by decide +kernel
theorem d_N_addThree_92 : decode b_N_addThree 92 = .ok (.iload_n 3, 1) := by decide +kernel
theorem d_N_addThree_93 : decode b_N_addThree 93 = .ok (.iload 4, 2) := by decide +kernel
theorem d_N_addThree_95 : decode b_N_addThree 95 = .ok (.invokevirtual 261, 3) := by decide +kernel
theorem d_N_addThree_98 : decode b_N_addThree 98 = .ok (.iastore, 1) := by decide +kernel
theorem d_N_addThree_99 : decode b_N_addThree 99 = .ok (.iconst 0, 1) := by decide +kernel
theorem d_N_addThree_100 : decode b_N_addThree 100 = .ok (.ireturn, 1) := by decide +kernel
theorem d_N_addThree_101 : decode b_N_addThree 101 = .ok (.bipush (6), 2) := by decide +kernel
theorem d_N_addThree_103 : decode b_N_addThree 103 = .ok (.ireturn, 1) := by decide +kernel
theorem d_N_withNumber_0 : decode b_N_withNumber 0 = .ok (.iload_n 1, 1) := by decide +kernel
theorem d_N_withNumber_1 : decode b_N_withNumber 1 = .ok (.bipush (8), 2) := by decide +kernel
theorem d_N_withNumber_3 : decode b_N_withNumber 3 = .ok (.ishr, 1) := by decide +kernel
theorem d_N_withNumber_4 : decode b_N_withNumber 4 = .ok (.bipush (7), 2) := by decide +kernel
theorem d_N_withNumber_6 : decode b_N_withNumber 6 = .ok (.iand, 1) := by decide +kernel
theorem d_N_withNumber_7 : decode b_N_withNumber 7 = .ok (.istore_n 2, 1) := by decide +kernel
theorem d_N_withNumber_8 : decode b_N_withNumber 8 = .ok (.iload_n 1, 1) := by decide +kernel
theorem d_N_withNumber_9 : decode b_N_withNumber 9 = .ok (.sipush (255), 3) := by decide +kernel
theorem d_N_withNumber_12 : decode b_N_withNumber 12 = .ok (.iand, 1) := by decide +kernel
theorem d_N_withNumber_13 : decode b_N_withNumber 13 = .ok (.istore_n 3, 1) := by decide +kernel
theorem d_N_withNumber_14 : decode b_N_withNumber 14 = .ok (.iload_n 1, 1) := by decide +kernel
theorem d_N_withNumber_15 : decode b_N_withNumber 15 = .ok (.bipush (11), 2) := by decide +kernel
theorem d_N_withNumber_17 : decode b_N_withNumber 17 = .ok (.ishr, 1) := by decide +kernel
theorem d_N_withNumber_18 : decode b_N_withNumber 18 = .ok (.iconst 3, 1) := by decide +kernel
theorem d_N_withNumber_19 : decode b_N_withNumber 19 = .ok (.iand, 1) := by decide +kernel
theorem d_N_withNumber_20 : decode b_N_withNumber 20 = .ok (.tableswitch (88) (0) (2) #[28, 46, 64], 28) := by decide +kernel
theorem d_N_withNumber_48 : decode b_N_withNumber 48 = .ok (.aload_n 0, 1) := by decide +kernel
theorem d_N_withNumber_49 : decode b_N_withNumber 49 = .ok (.getfield 9, 3) := by decide +kernel
theorem d_N_withNumber_52 : decode b_N_withNumber 52 = .ok (.iload_n 2, 1) := by decide +kernel
theorem d_N_withNumber_53 : decode b_N_withNumber 53 = .ok (.iload_n 3, 1) := by decide +kernel
theorem d_N_withNumber_54 : decode b_N_withNumber 54 = .ok (.iastore, 1) := by decide +kernel
theorem d_N_withNumber_55 : decode b_N_withNumber 55 = .ok (.aload_n 0, 1) := by decide +kernel
theorem d_N_withNumber_56 : decode b_N_withNumber 56 = .ok (.getfield 40, 3) := by decide +kernel
theorem d_N_withNumber_59 : decode b_N_withNumber 59 = .ok (.iload_n 3, 1) := by decide +kernel
theorem d_N_withNumber_60 : decode b_N_withNumber 60 = .ok (.invokevirtual 255, 3) := by decide +kernel
theorem d_N_withNumber_63 : decode b_N_withNumber 63 = .ok (.goto (65), 3) := by decide +kernel
theorem d_N_withNumber_66 : decode b_N_withNumber 66 = .ok (.aload_n 0, 1) := by decide +kernel
theorem d_N_withNumber_67 : decode b_N_withNumber 67 = .ok (.getfield 40, 3) := by decide +kernel
theorem d_N_withNumber_70 : decode b_N_withNumber 70 = .ok (.aload_n 0, 1) := by decide +kernel
theorem d_N_withNumber_71 : decode b_N_withNumber 71 = .ok (.getfield 9, 3) := by decide +kernel
theorem d_N_withNumber_74 : decode b_N_withNumber 74 = .ok (.iload_n 2, 1) := by decide +kernel
theorem d_N_withNumber_75 : decode b_N_withNumber 75 = .ok (.iaload, 1) := by decide +kernel
theorem d_N_withNumber_76 : decode b_N_withNumber 76 = .ok (.iload_n 3, 1) := by decide +kernel
theorem d_N_withNumber_77 : decode b_N_withNumber 77 = .ok (.invokevirtual 261, 3) := by decide +kernel
theorem d_N_withNumber_80 : decode b_N_withNumber 80 = .ok (.pop, 1) := by decide +kernel
theorem d_N_withNumber_81 : decode b_N_withNumber 81 = .ok (.goto (47), 3) := by decide +kernel
theorem d_N_withNumber_84 : decode b_N_withNumber 84 = .ok (.aload_n 0, 1) := by decide +kernel
theorem d_N_withNumber_85 : decode b_N_withNumber 85 = .ok (.getfield 9, 3) := by decide +kernel
theorem d_N_withNumber_88 : decode b_N_withNumber 88 = .ok (.iload_n 2, 1) := by decide +kernel
theorem d_N_withNumber_89 : decode b_N_withNumber 89 = .ok (.aload_n 0, 1) := by decide +kernel
theorem d_N_withNumber_90 : decode b_N_withNumber 90 = .ok (.getfield 40, 3) := by decide +kernel
theorem d_N_withNumber_93 : decode b_N_withNumber 93 = .ok (.aload_n 0, 1) := by decide +kernel
theorem d_N_withNumber_94 : decode b_N_withNumber 94 = .ok (.getfield 9, 3) := by decide +kernel
theorem d_N_withNumber_97 : decode b_N_withNumber 97 = .ok (.iload_n 2, 1) := by decide +kernel
theorem d_N_withNumber_98 : decode b_N_withNumber 98 = .ok (.iaload, 1) := by decide +kernel
theorem d_N_withNumber_99 : decode b_N_withNumber 99 = .ok (.iload_n 3, 1) := by decide +kernel
theorem d_N_withNumber_100 : decode b_N_withNumber 100 = .ok (.iconst 0, 1) := by decide +kernel
theorem d_N_withNumber_101 : decode b_N_withNumber 101 = .ok (.invokevirtual 258, 3) := by decide +kernel
theorem d_N_withNumber_104 : decode b_N_withNumber 104 = .ok (.iastore, 1) := by decide +kernel
theorem d_N_withNumber_105 : decode b_N_withNumber 105 = .ok (.goto (23), 3) := by decide +kernel
theorem d_N_withNumber_108 : decode b_N_withNumber 108 = .ok (.aload_n 0, 1) := by decide +kernel
theorem d_N_withNumber_109 : decode b_N_withNumber 109 = .ok (.getfield 9, 3) := by decide +kernel
theorem d_N_withNumber_112 : decode b_N_withNumber 112 = .ok (.iload_n 2, 1) := by decide +kernel
theorem d_N_withNumber_113 : decode b_N_withNumber 113 = .ok (.aload_n 0, 1) := by decide +kernel
theorem d_N_withNumber_114 : decode b_N_withNumber 114 = .ok (.getfield 40, 3) := by decide +kernel
theorem d_N_withNumber_117 : decode b_N_withNumber 117 = .ok (.aload_n 0, 1) := by decide +kernel
theorem d_N_withNumber_118 : decode b_N_withNumber 118 = .ok (.getfield 9, 3) := by decide +kernel
theorem d_N_withNumber_121 : decode b_N_withNumber 121 = .ok (.iload_n 2, 1) := by decide +kernel
theorem d_N_withNumber_122 : decode b_N_withNumber 122 = .ok (.iaload, 1) := by decide +kernel
theorem d_N_withNumber_123 : decode b_N_withNumber 123 = .ok (.iload_n 3, 1) := by decide +kernel
theorem d_N_withNumber_124 : decode b_N_withNumber 124 = .ok (.invokevirtual 261, 3) := by decide +kernel
theorem d_N_withNumber_127 : decode b_N_withNumber 127 = .ok (.iastore, 1) := by decide +kernel
theorem d_N_withNumber_128 : decode b_N_withNumber 128 = .ok (.iconst 0, 1) := by decide +kernel
theorem d_N_withNumber_129 : decode b_N_withNumber 129 = .ok (.ireturn, 1) := by decide +kernel
theorem d_N_bits_0 : decode b_N_bits 0 = .ok (.aload_n 0, 1) := by decide +kernel
theorem d_N_bits_1 : decode b_N_bits 1 = .ok (.getfield 9, 3) := by decide +kernel
theorem d_N_bits_4 : decode b_N_bits 4 = .ok (.iload_n 1, 1) := by decide +kernel
theorem d_N_bits_5 : decode b_N_bits 5 = .ok (.iload_n 2, 1) := by decide +kernel
theorem d_N_bits_6 : decode b_N_bits 6 = .ok (.iastore, 1) := by decide +kernel
theorem d_N_bits_7 : decode b_N_bits 7 = .ok (.aload_n 0, 1) := by decide +kernel
theorem d_N_bits_8 : decode b_N_bits 8 = .ok (.getfield 40, 3) := by decide +kernel
theorem d_N_bits_11 : decode b_N_bits 11 = .ok (.iload_n 2, 1) := by decide +kernel
theorem d_N_bits_12 : decode b_N_bits 12 = .ok (.invokevirtual 255, 3) := by decide +kernel
theorem d_N_bits_15 : decode b_N_bits 15 = .ok (.iconst 0, 1) := by decide +kernel
theorem d_N_bits_16 : decode b_N_bits 16 = .ok (.ireturn, 1) := by decide +kernel
theorem d_Fl_carry_0 : decode b_Fl_carry 0 = .ok (.aload_n 0, 1) := by decide +kernel
theorem d_Fl_carry_1 : decode b_Fl_carry 1 = .ok (.getfield 16, 3) := by decide +kernel
theorem d_Fl_carry_4 : decode b_Fl_carry 4 = .ok (.ifCond .eq (7), 3) := by decide +kernel
theorem d_Fl_carry_7 : decode b_Fl_carry 7 = .ok (.iconst 1, 1) := by decide +kernel
theorem d_Fl_carry_8 : decode b_Fl_carry 8 = .ok (.goto (4), 3) := by decide +kernel
theorem d_Fl_carry_11 : decode b_Fl_carry 11 = .ok (.iconst 0, 1) := by decide +kernel
theorem d_Fl_carry_12 : decode b_Fl_carry 12 = .ok (.ireturn, 1) := by decide +kernel
theorem d_N_combine_0 : decode b_N_combine 0 = .ok (.iload_n 1, 1) := by decide +kernel
theorem d_N_combine_1 : decode b_N_combine 1 = .ok (.bipush (7), 2) := by decide +kernel
theorem d_N_combine_3 : decode b_N_combine 3 = .ok (.iand, 1) := by decide +kernel
theorem d_N_combine_4 : decode b_N_combine 4 = .ok (.istore_n 2, 1) := by decide +kernel
theorem d_N_combine_5 : decode b_N_combine 5 = .ok (.aload_n 0, 1) := by decide +kernel
theorem d_N_combine_6 : decode b_N_combine 6 = .ok (.getfield 9, 3) := by decide +kernel
theorem d_N_combine_9 : decode b_N_combine 9 = .ok (.iload_n 2, 1) := by decide +kernel
theorem d_N_combine_10 : decode b_N_combine 10 = .ok (.iaload, 1) := by decide +kernel
theorem d_N_combine_11 : decode b_N_combine 11 = .ok (.istore_n 3, 1) := by decide +kernel
theorem d_N_combine_12 : decode b_N_combine 12 = .ok (.aload_n 0, 1) := by decide +kernel
theorem d_N_combine_13 : decode b_N_combine 13 = .ok (.getfield 9, 3) := by decide +kernel
theorem d_N_combine_16 : decode b_N_combine 16 = .ok (.iload_n 1, 1) := by decide +kernel
theorem d_N_combine_17 : decode b_N_combine 17 = .ok (.iconst 3, 1) := by decide +kernel
theorem d_N_combine_18 : decode b_N_combine 18 = .ok (.ishr, 1) := by decide +kernel
theorem d_N_combine_19 : decode b_N_combine 19 = .ok (.bipush (7), 2) := by decide +kernel
theorem d_N_combine_21 : decode b_N_combine 21 = .ok (.iand, 1) := by decide +kernel
theorem d_N_combine_22 : decode b_N_combine 22 = .ok (.iaload, 1) := by decide +kernel
theorem d_N_combine_23 : decode b_N_combine 23 = .ok (.istore 4, 2) := by decide +kernel
theorem d_N_combine_25 : decode b_N_combine 25 = .ok (.iload_n 1, 1) := by decide +kernel
theorem d_N_combine_26 : decode b_N_combine 26 = .ok (.bipush (6), 2) := by decide +kernel
theorem d_N_combine_28 : decode b_N_combine 28 = .ok (.ishr, 1) := by decide +kernel
theorem d_N_combine_29 : decode b_N_combine 29 = .ok (.bipush (15), 2) := by decide +kernel
theorem d_N_combine_31 : decode b_N_combine 31 = .ok (.iand, 1) := by decide +kernel
theorem d_N_combine_32 : decode b_N_combine 32 = .ok (.tableswitch (238) (0) (15) #[80, 90, 238, 238, 238, 100, 125, 238, 152, 165, 183, 238, 196, 206, 216, 228], 80) := by decide +kernel
theorem d_N_combine_112 : decode b_N_combine 112 = .ok (.aload_n 0, 1) := by decide +kernel
theorem d_N_combine_113 : decode b_N_combine 113 = .ok (.iload_n 2, 1) := by decide +kernel
theorem d_N_combine_114 : decode b_N_combine 114 = .ok (.iload_n 3, 1) := by decide +kernel
theorem d_N_combine_115 : decode b_N_combine 115 = .ok (.iload 4, 2) := by decide +kernel
theorem d_N_combine_117 : decode b_N_combine 117 = .ok (.iand, 1) := by decide +kernel
theorem d_N_combine_118 : decode b_N_combine 118 = .ok (.invokevirtual 265, 3) := by decide +kernel
theorem d_N_combine_121 : decode b_N_combine 121 = .ok (.ireturn, 1) := by decide +kernel
theorem d_N_combine_122 : decode b_N_combine 122 = .ok (.aload_n 0, 1) := by decide +kernel
theorem d_N_combine_123 : decode b_N_combine 123 = .ok (.iload_n 2, 1) := by decide +kernel
theorem d_N_combine_124 : decode b_N_combine 124 = .ok (.iload_n 3, 1) := by decide +kernel
theorem d_N_combine_125 : decode b_N_combine 125 = .ok (.iload 4, 2) := by decide +kernel
theorem d_N_combine_127 : decode b_N_combine 127 = .ok (.ixor, 1) := by decide +kernel
theorem d_N_combine_128 : decode b_N_combine 128 = .ok (.invokevirtual 265, 3) := by decide +kernel
theorem d_N_combine_131 : decode b_N_combine 131 = .ok (.ireturn, 1) := by decide +kernel
theorem d_N_combine_132 : decode b_N_combine 132 = .ok (.aload_n 0, 1) := by decide +kernel
theorem d_N_combine_133 : decode b_N_combine 133 = .ok (.getfield 9, 3) := by decide +kernel
theorem d_N_combine_136 : decode b_N_combine 136 = .ok (.iload_n 2, 1) := by decide +kernel
theorem d_N_combine_137 : decode b_N_combine 137 = .ok (.aload_n 0, 1) := by decide +kernel
theorem d_N_combine_138 : decode b_N_combine 138 = .ok (.getfield 40, 3) := by decide +kernel
theorem d_N_combine_141 : decode b_N_combine 141 = .ok (.iload_n 3, 1) := by decide +kernel
theorem d_N_combine_142 : decode b_N_combine 142 = .ok (.iload 4, 2) := by decide +kernel
theorem d_N_combine_144 : decode b_N_combine 144 = .ok (.aload_n 0, 1) := by decide +kernel
theorem d_N_combine_145 : decode b_N_combine 145 = .ok (.getfield 40, 3) := by decide +kernel
theorem d_N_combine_148 : decode b_N_combine 148 = .ok (.invokevirtual 268, 3) := by decide +kernel
theorem d_N_combine_151 : decode b_N_combine 151 = .ok (.invokevirtual 258, 3) := by decide +kernel
theorem d_N_combine_154 : decode b_N_combine 154 = .ok (.iastore, 1) := by decide +kernel
theorem d_N_combine_155 : decode b_N_combine 155 = .ok (.iconst 0, 1) := by decide +kernel
theorem d_N_combine_156 : decode b_N_combine 156 = .ok (.ireturn, 1) := by decide +kernel
theorem d_N_combine_157 : decode b_N_combine 157 = .ok (.aload_n 0, 1) := by decide +kernel
theorem d_N_combine_158 : decode b_N_combine 158 = .ok (.getfield 9, 3) := by decide +kernel
theorem d_N_combine_161 : decode b_N_combine 161 = .ok (.iload_n 2, 1) := by decide +kernel
theorem d_N_combine_162 : decode b_N_combine 162 = .ok (.aload_n 0, 1) := by decide +kernel
theorem d_N_combine_163 : decode b_N_combine 163 = .ok (.getfield 40, 3) := by decide +kernel
theorem d_N_combine_166 : decode b_N_combine 166 = .ok (.iload_n 3, 1) := by decide +kernel
theorem d_N_combine_167 : decode b_N_combine 167 = .ok (.iload 4, 2) := by decide +kernel
theorem d_N_combine_169 : decode b_N_combine 169 = .ok (.iconst (-1), 1) := by decide +kernel
theorem d_N_combine_170 : decode b_N_combine 170 = .ok (.ixor, 1) := by decide +kernel
theorem d_N_combine_171 : decode b_N_combine 171 = .ok (.aload_n 0, 1) := by decide +kernel
theorem d_N_combine_172 : decode b_N_combine 172 = .ok (.getfield 40, 3) := by decide +kernel
theorem d_N_combine_175 : decode b_N_combine 175 = .ok (.invokevirtual 268, 3) := by decide +kernel
theorem d_N_combine_178 : decode b_N_combine 178 = .ok (.invokevirtual 258, 3) := by decide +kernel
theorem d_N_combine_181 : decode b_N_combine 181 = .ok (.iastore, 1) := by decide +kernel
theorem d_N_combine_182 : decode b_N_combine 182 = .ok (.iconst 0, 1) := by decide +kernel
theorem d_N_combine_183 : decode b_N_combine 183 = .ok (.ireturn, 1) := by decide +kernel
theorem d_N_combine_184 : decode b_N_combine 184 = .ok (.aload_n 0, 1) := by decide +kernel
theorem d_N_combine_185 : decode b_N_combine 185 = .ok (.getfield 40, 3) := by decide +kernel
theorem d_N_combine_188 : decode b_N_combine 188 = .ok (.iload_n 3, 1) := by decide +kernel
theorem d_N_combine_189 : decode b_N_combine 189 = .ok (.iload 4, 2) := by decide +kernel
theorem d_N_combine_191 : decode b_N_combine 191 = .ok (.iand, 1) := by decide +kernel
theorem d_N_combine_192 : decode b_N_combine 192 = .ok (.invokevirtual 255, 3) := by decide +kernel
theorem d_N_combine_195 : decode b_N_combine 195 = .ok (.iconst 0, 1) := by decide +kernel
theorem d_N_combine_196 : decode b_N_combine 196 = .ok (.ireturn, 1) := by decide +kernel
theorem d_N_combine_197 : decode b_N_combine 197 = .ok (.aload_n 0, 1) := by decide +kernel
theorem d_N_combine_198 : decode b_N_combine 198 = .ok (.getfield 9, 3) := by decide +kernel
theorem d_N_combine_201 : decode b_N_combine 201 = .ok (.iload_n 2, 1) := by decide +kernel
theorem d_N_combine_202 : decode b_N_combine 202 = .ok (.aload_n 0, 1) := by decide +kernel
theorem d_N_combine_203 : decode b_N_combine 203 = .ok (.getfield 40, 3) := by decide +kernel
theorem d_N_combine_206 : decode b_N_combine 206 = .ok (.iconst 0, 1) := by decide +kernel
theorem d_N_combine_207 : decode b_N_combine 207 = .ok (.iload 4, 2) := by decide +kernel
theorem d_N_combine_209 : decode b_N_combine 209 = .ok (.invokevirtual 261, 3) := by decide +kernel
theorem d_N_combine_212 : decode b_N_combine 212 = .ok (.iastore, 1) := by decide +kernel
theorem d_N_combine_213 : decode b_N_combine 213 = .ok (.iconst 0, 1) := by decide +kernel
theorem d_N_combine_214 : decode b_N_combine 214 = .ok (.ireturn, 1) := by decide +kernel
theorem d_N_combine_215 : decode b_N_combine 215 = .ok (.aload_n 0, 1) := by decide +kernel
theorem d_N_combine_216 : decode b_N_combine 216 = .ok (.getfield 40, 3) := by decide +kernel
theorem d_N_combine_219 : decode b_N_combine 219 = .ok (.iload_n 3, 1) := by decide +kernel
theorem d_N_combine_220 : decode b_N_combine 220 = .ok (.iload 4, 2) := by decide +kernel
theorem d_N_combine_222 : decode b_N_combine 222 = .ok (.invokevirtual 261, 3) := by decide +kernel
theorem d_N_combine_225 : decode b_N_combine 225 = .ok (.pop, 1) := by decide +kernel
theorem d_N_combine_226 : decode b_N_combine 226 = .ok (.iconst 0, 1) := by decide +kernel
theorem d_N_combine_227 : decode b_N_combine 227 = .ok (.ireturn, 1) := by decide +kernel
theorem d_N_combine_228 : decode b_N_combine 228 = .ok (.aload_n 0, 1) := by decide +kernel
theorem d_N_combine_229 : decode b_N_combine 229 = .ok (.iload_n 2, 1) := by decide +kernel
theorem d_N_combine_230 : decode b_N_combine 230 = .ok (.iload_n 3, 1) := by decide +kernel
theorem d_N_combine_231 : decode b_N_combine 231 = .ok (.iload 4, 2) := by decide +kernel
theorem d_N_combine_233 : decode b_N_combine 233 = .ok (.ior, 1) := by decide +kernel
theorem d_N_combine_234 : decode b_N_combine 234 = .ok (.invokevirtual 265, 3) := by decide +kernel
theorem d_N_combine_237 : decode b_N_combine 237 = .ok (.ireturn, 1) := by decide +kernel
theorem d_N_combine_238 : decode b_N_combine 238 = .ok (.aload_n 0, 1) := by decide +kernel
theorem d_N_combine_239 : decode b_N_combine 239 = .ok (.iload_n 2, 1) := by decide +kernel
theorem d_N_combine_240 : decode b_N_combine 240 = .ok (.iload_n 3, 1) := by decide +kernel
theorem d_N_combine_241 : decode b_N_combine 241 = .ok (.iload 4, 2) := by decide +kernel
theorem d_N_combine_243 : decode b_N_combine 243 = .ok (.imul, 1) := by decide +kernel
theorem d_N_combine_244 : decode b_N_combine 244 = .ok (.invokevirtual 265, 3) := by decide +kernel
theorem d_N_combine_247 : decode b_N_combine 247 = .ok (.ireturn, 1) := by decide +kernel
theorem d_N_combine_248 : decode b_N_combine 248 = .ok (.aload_n 0, 1) := by decide +kernel
theorem d_N_combine_249 : decode b_N_combine 249 = .ok (.iload_n 2, 1) := by decide +kernel
theorem d_N_combine_250 : decode b_N_combine 250 = .ok (.iload_n 3, 1) := by decide +kernel
theorem d_N_combine_251 : decode b_N_combine 251 = .ok (.iload 4, 2) := by decide +kernel
theorem d_N_combine_253 : decode b_N_combine 253 = .ok (.iconst (-1), 1) := by decide +kernel
theorem d_N_combine_254 : decode b_N_combine 254 = .ok (.ixor, 1) := by decide +kernel
theorem d_N_combine_255 : decode b_N_combine 255 = .ok (.iand, 1) := by decide +kernel
theorem d_N_combine_256 : decode b_N_combine 256 = .ok (.invokevirtual 265, 3) := by decide +kernel
theorem d_N_combine_259 : decode b_N_combine 259 = .ok (.ireturn, 1) := by decide +kernel
theorem d_N_combine_260 : decode b_N_combine 260 = .ok (.aload_n 0, 1) := by decide +kernel
theorem d_N_combine_261 : decode b_N_combine 261 = .ok (.iload_n 2, 1) := by decide +kernel
theorem d_N_combine_262 : decode b_N_combine 262 = .ok (.iload 4, 2) := by decide +kernel
theorem d_N_combine_264 : decode b_N_combine 264 = .ok (.iconst (-1), 1) := by decide +kernel
theorem d_N_combine_265 : decode b_N_combine 265 = .ok (.ixor, 1) := by decide +kernel
theorem d_N_combine_266 : decode b_N_combine 266 = .ok (.invokevirtual 265, 3) := by decide +kernel
theorem d_N_combine_269 : decode b_N_combine 269 = .ok (.ireturn, 1) := by decide +kernel
theorem d_N_combine_270 : decode b_N_combine 270 = .ok (.bipush (6), 2) := by decide +kernel
theorem d_N_combine_272 : decode b_N_combine 272 = .ok (.ireturn, 1) := by decide +kernel
theorem d_N_copyAny_0 : decode b_N_copyAny 0 = .ok (.iload_n 1, 1) := by decide +kernel
theorem d_N_copyAny_1 : decode b_N_copyAny 1 = .ok (.iconst 4, 1) := by decide +kernel
theorem d_N_copyAny_2 : decode b_N_copyAny 2 = .ok (.ishr, 1) := by decide +kernel
theorem d_N_copyAny_3 : decode b_N_copyAny 3 = .ok (.bipush (8), 2) := by decide +kernel
theorem d_N_copyAny_5 : decode b_N_copyAny 5 = .ok (.iand, 1) := by decide +kernel
theorem d_N_copyAny_6 : decode b_N_copyAny 6 = .ok (.iload_n 1, 1) := by decide +kernel
theorem d_N_copyAny_7 : decode b_N_copyAny 7 = .ok (.bipush (7), 2) := by decide +kernel
theorem d_N_copyAny_9 : decode b_N_copyAny 9 = .ok (.iand, 1) := by decide +kernel
theorem d_N_copyAny_10 : decode b_N_copyAny 10 = .ok (.iadd, 1) := by decide +kernel
theorem d_N_copyAny_11 : decode b_N_copyAny 11 = .ok (.istore_n 2, 1) := by decide +kernel
theorem d_N_copyAny_12 : decode b_N_copyAny 12 = .ok (.iload_n 1, 1) := by decide +kernel
theorem d_N_copyAny_13 : decode b_N_copyAny 13 = .ok (.iconst 3, 1) := by decide +kernel
theorem d_N_copyAny_14 : decode b_N_copyAny 14 = .ok (.ishr, 1) := by decide +kernel
theorem d_N_copyAny_15 : decode b_N_copyAny 15 = .ok (.bipush (15), 2) := by decide +kernel
theorem d_N_copyAny_17 : decode b_N_copyAny 17 = .ok (.iand, 1) := by decide +kernel
theorem d_N_copyAny_18 : decode b_N_copyAny 18 = .ok (.istore_n 3, 1) := by decide +kernel
theorem d_N_copyAny_19 : decode b_N_copyAny 19 = .ok (.iload_n 2, 1) := by decide +kernel
theorem d_N_copyAny_20 : decode b_N_copyAny 20 = .ok (.bipush (15), 2) := by decide +kernel
theorem d_N_copyAny_22 : decode b_N_copyAny 22 = .ok (.if_icmp .ne (6), 3) := by decide +kernel
theorem d_N_copyAny_25 : decode b_N_copyAny 25 = .ok (.bipush (6), 2) := by decide +kernel
theorem d_N_copyAny_27 : decode b_N_copyAny 27 = .ok (.ireturn, 1) := by decide +kernel
theorem d_N_copyAny_28 : decode b_N_copyAny 28 = .ok (.aload_n 0, 1) := by decide +kernel
theorem d_N_copyAny_29 : decode b_N_copyAny 29 = .ok (.getfield 9, 3) := by decide +kernel
theorem d_N_copyAny_32 : decode b_N_copyAny 32 = .ok (.iload_n 2, 1) := by decide +kernel
theorem d_N_copyAny_33 : decode b_N_copyAny 33 = .ok (.iload_n 3, 1) := by decide +kernel
theorem d_N_copyAny_34 : decode b_N_copyAny 34 = .ok (.bipush (15), 2) := by decide +kernel
theorem d_N_copyAny_36 : decode b_N_copyAny 36 = .ok (.if_icmp .ne (15), 3) := by decide +kernel
theorem d_N_copyAny_39 : decode b_N_copyAny 39 = .ok (.aload_n 0, 1) := by decide +kernel
theorem d_N_copyAny_40 : decode b_N_copyAny 40 = .ok (.getfield 9, 3) := by decide +kernel
theorem d_N_copyAny_43 : decode b_N_copyAny 43 = .ok (.bipush (15), 2) := by decide +kernel
theorem d_N_copyAny_45 : decode b_N_copyAny 45 = .ok (.iaload, 1) := by decide +kernel
theorem d_N_copyAny_46 : decode b_N_copyAny 46 = .ok (.iconst 2, 1) := by decide +kernel
theorem d_N_copyAny_47 : decode b_N_copyAny 47 = .ok (.iadd, 1) := by decide +kernel
theorem d_N_copyAny_48 : decode b_N_copyAny 48 = .ok (.goto (9), 3) := by decide +kernel
theorem d_N_copyAny_51 : decode b_N_copyAny 51 = .ok (.aload_n 0, 1) := by decide +kernel
theorem d_N_copyAny_52 : decode b_N_copyAny 52 = .ok (.getfield 9, 3) := by decide +kernel
theorem d_N_copyAny_55 : decode b_N_copyAny 55 = .ok (.iload_n 3, 1) := by decide +kernel
theorem d_N_copyAny_56 : decode b_N_copyAny 56 = .ok (.iaload, 1) := by decide +kernel
theorem d_N_copyAny_57 : decode b_N_copyAny 57 = .ok (.iastore, 1) := by decide +kernel
theorem d_N_copyAny_58 : decode b_N_copyAny 58 = .ok (.iconst 0, 1) := by decide +kernel
theorem d_N_copyAny_59 : decode b_N_copyAny 59 = .ok (.ireturn, 1) := by decide +kernel
theorem d_N_branchTo_0 : decode b_N_branchTo 0 = .ok (.iload_n 1, 1) := by decide +kernel
theorem d_N_branchTo_1 : decode b_N_branchTo 1 = .ok (.iconst 3, 1) := by decide +kernel
theorem d_N_branchTo_2 : decode b_N_branchTo 2 = .ok (.ishr, 1) := by decide +kernel
theorem d_N_branchTo_3 : decode b_N_branchTo 3 = .ok (.bipush (15), 2) := by decide +kernel
theorem d_N_branchTo_5 : decode b_N_branchTo 5 = .ok (.iand, 1) := by decide +kernel
theorem d_N_branchTo_6 : decode b_N_branchTo 6 = .ok (.istore_n 2, 1) := by decide +kernel
theorem d_N_branchTo_7 : decode b_N_branchTo 7 = .ok (.iload_n 1, 1) := by decide +kernel
theorem d_N_branchTo_8 : decode b_N_branchTo 8 = .ok (.sipush (135), 3) := by decide +kernel
theorem d_N_branchTo_11 : decode b_N_branchTo 11 = .ok (.iand, 1) := by decide +kernel
theorem d_N_branchTo_12 : decode b_N_branchTo 12 = .ok (.ifCond .ne (9), 3) := by decide +kernel
theorem d_N_branchTo_15 : decode b_N_branchTo 15 = .ok (.iload_n 2, 1) := by decide +kernel
theorem d_N_branchTo_16 : decode b_N_branchTo 16 = .ok (.bipush (15), 2) := by decide +kernel
theorem d_N_branchTo_18 : decode b_N_branchTo 18 = .ok (.if_icmp .ne (6), 3) := by decide +kernel
theorem d_N_branchTo_21 : decode b_N_branchTo 21 = .ok (.bipush (6), 2) := by decide +kernel
theorem d_N_branchTo_23 : decode b_N_branchTo 23 = .ok (.ireturn, 1) := by decide +kernel
theorem d_N_branchTo_24 : decode b_N_branchTo 24 = .ok (.aload_n 0, 1) := by decide +kernel
theorem d_N_branchTo_25 : decode b_N_branchTo 25 = .ok (.getfield 9, 3) := by decide +kernel
theorem d_N_branchTo_28 : decode b_N_branchTo 28 = .ok (.bipush (15), 2) := by decide +kernel
theorem d_N_branchTo_30 : decode b_N_branchTo 30 = .ok (.aload_n 0, 1) := by decide +kernel
theorem d_N_branchTo_31 : decode b_N_branchTo 31 = .ok (.getfield 9, 3) := by decide +kernel
theorem d_N_branchTo_34 : decode b_N_branchTo 34 = .ok (.iload_n 2, 1) := by decide +kernel
theorem d_N_branchTo_35 : decode b_N_branchTo 35 = .ok (.iaload, 1) := by decide +kernel
theorem d_N_branchTo_36 : decode b_N_branchTo 36 = .ok (.iastore, 1) := by decide +kernel
theorem d_N_branchTo_37 : decode b_N_branchTo 37 = .ok (.iconst 0, 1) := by decide +kernel
theorem d_N_branchTo_38 : decode b_N_branchTo 38 = .ok (.ireturn, 1) := by decide +kernel
theorem d_N_copyOrBranch_0 : decode b_N_copyOrBranch 0 = .ok (.iload_n 1, 1) := by decide +kernel
theorem d_N_copyOrBranch_1 : decode b_N_copyOrBranch 1 = .ok (.bipush (8), 2) := by decide +kernel
theorem d_N_copyOrBranch_3 : decode b_N_copyOrBranch 3 = .ok (.ishr, 1) := by decide +kernel
theorem d_N_copyOrBranch_4 : decode b_N_copyOrBranch 4 = .ok (.lookupswitch (40) #[(70, 28), (71, 34)], 28) := by decide +kernel
theorem d_N_copyOrBranch_32 : decode b_N_copyOrBranch 32 = .ok (.aload_n 0, 1) := by decide +kernel
theorem d_N_copyOrBranch_33 : decode b_N_copyOrBranch 33 = .ok (.iload_n 1, 1) := by decide +kernel
theorem d_N_copyOrBranch_34 : decode b_N_copyOrBranch 34 = .ok (.invokevirtual 271, 3) := by decide +kernel
theorem d_N_copyOrBranch_37 : decode b_N_copyOrBranch 37 = .ok (.ireturn, 1) := by decide +kernel
theorem d_N_copyOrBranch_38 : decode b_N_copyOrBranch 38 = .ok (.aload_n 0, 1) := by decide +kernel
theorem d_N_copyOrBranch_39 : decode b_N_copyOrBranch 39 = .ok (.iload_n 1, 1) := by decide +kernel
theorem d_N_copyOrBranch_40 : decode b_N_copyOrBranch 40 = .ok (.invokevirtual 274, 3) := by decide +kernel
theorem d_N_copyOrBranch_43 : decode b_N_copyOrBranch 43 = .ok (.ireturn, 1) := by decide +kernel
theorem d_N_copyOrBranch_44 : decode b_N_copyOrBranch 44 = .ok (.bipush (6), 2) := by decide +kernel
theorem d_N_copyOrBranch_46 : decode b_N_copyOrBranch 46 = .ok (.ireturn, 1) := by decide +kernel
theorem d_N_faultAlong_0 : decode b_N_faultAlong 0 = .ok (.iconst 0, 1) := by decide +kernel
theorem d_N_faultAlong_1 : decode b_N_faultAlong 1 = .ok (.istore 4, 2) := by decide +kernel
theorem d_N_faultAlong_3 : decode b_N_faultAlong 3 = .ok (.iload 4, 2) := by decide +kernel
theorem d_N_faultAlong_5 : decode b_N_faultAlong 5 = .ok (.iload_n 2, 1) := by decide +kernel
theorem d_N_faultAlong_6 : decode b_N_faultAlong 6 = .ok (.if_icmp .ge (27), 3) := by decide +kernel
theorem d_N_faultAlong_9 : decode b_N_faultAlong 9 = .ok (.aload_n 0, 1) := by decide +kernel
theorem d_N_faultAlong_10 : decode b_N_faultAlong 10 = .ok (.getfield 19, 3) := by decide +kernel
theorem d_N_faultAlong_13 : decode b_N_faultAlong 13 = .ok (.iload_n 1, 1) := by decide +kernel
theorem d_N_faultAlong_14 : decode b_N_faultAlong 14 = .ok (.iconst 4, 1) := by decide +kernel
theorem d_N_faultAlong_15 : decode b_N_faultAlong 15 = .ok (.iload 4, 2) := by decide +kernel
theorem d_N_faultAlong_17 : decode b_N_faultAlong 17 = .ok (.imul, 1) := by decide +kernel
theorem d_N_faultAlong_18 : decode b_N_faultAlong 18 = .ok (.iadd, 1) := by decide +kernel
theorem d_N_faultAlong_19 : decode b_N_faultAlong 19 = .ok (.invokevirtual 51, 3) := by decide +kernel
theorem d_N_faultAlong_22 : decode b_N_faultAlong 22 = .ok (.ifCond .ne (5), 3) := by decide +kernel
theorem d_N_faultAlong_25 : decode b_N_faultAlong 25 = .ok (.iconst 5, 1) := by decide +kernel
theorem d_N_faultAlong_26 : decode b_N_faultAlong 26 = .ok (.ireturn, 1) := by decide +kernel
theorem d_N_faultAlong_27 : decode b_N_faultAlong 27 = .ok (.iinc 4 (1), 3) := by decide +kernel
theorem d_N_faultAlong_30 : decode b_N_faultAlong 30 = .ok (.goto (-27), 3) := by decide +kernel
theorem d_N_faultAlong_33 : decode b_N_faultAlong 33 = .ok (.iconst 0, 1) := by decide +kernel
theorem d_N_faultAlong_34 : decode b_N_faultAlong 34 = .ok (.istore 4, 2) := by decide +kernel
theorem d_N_faultAlong_36 : decode b_N_faultAlong 36 = .ok (.iload 4, 2) := by decide +kernel
theorem d_N_faultAlong_38 : decode b_N_faultAlong 38 = .ok (.iload_n 2, 1) := by decide +kernel
theorem d_N_faultAlong_39 : decode b_N_faultAlong 39 = .ok (.if_icmp .ge (29), 3) := by decide +kernel
theorem d_N_faultAlong_42 : decode b_N_faultAlong 42 = .ok (.aload_n 0, 1) := by decide +kernel
theorem d_N_faultAlong_43 : decode b_N_faultAlong 43 = .ok (.getfield 26, 3) := by decide +kernel
theorem d_N_faultAlong_46 : decode b_N_faultAlong 46 = .ok (.iload_n 1, 1) := by decide +kernel
theorem d_N_faultAlong_47 : decode b_N_faultAlong 47 = .ok (.iconst 4, 1) := by decide +kernel
theorem d_N_faultAlong_48 : decode b_N_faultAlong 48 = .ok (.iload 4, 2) := by decide +kernel
theorem d_N_faultAlong_50 : decode b_N_faultAlong 50 = .ok (.imul, 1) := by decide +kernel
theorem d_N_faultAlong_51 : decode b_N_faultAlong 51 = .ok (.iadd, 1) := by decide +kernel
theorem d_N_faultAlong_52 : decode b_N_faultAlong 52 = .ok (.iload_n 3, 1) := by decide +kernel
theorem d_N_faultAlong_53 : decode b_N_faultAlong 53 = .ok (.iconst 0, 1) := by decide +kernel
theorem d_N_faultAlong_54 : decode b_N_faultAlong 54 = .ok (.invokevirtual 214, 3) := by decide +kernel
theorem d_N_faultAlong_57 : decode b_N_faultAlong 57 = .ok (.ifCond .eq (5), 3) := by decide +kernel
theorem d_N_faultAlong_60 : decode b_N_faultAlong 60 = .ok (.iconst 4, 1) := by decide +kernel
theorem d_N_faultAlong_61 : decode b_N_faultAlong 61 = .ok (.ireturn, 1) := by decide +kernel
theorem d_N_faultAlong_62 : decode b_N_faultAlong 62 = .ok (.iinc 4 (1), 3) := by decide +kernel
theorem d_N_faultAlong_65 : decode b_N_faultAlong 65 = .ok (.goto (-29), 3) := by decide +kernel
theorem d_N_faultAlong_68 : decode b_N_faultAlong 68 = .ok (.iconst 0, 1) := by decide +kernel
theorem d_N_faultAlong_69 : decode b_N_faultAlong 69 = .ok (.ireturn, 1) := by decide +kernel
theorem d_N_move_0 : decode b_N_move 0 = .ok (.iload_n 1, 1) := by decide +kernel
theorem d_N_move_1 : decode b_N_move 1 = .ok (.bipush (11), 2) := by decide +kernel
theorem d_N_move_3 : decode b_N_move 3 = .ok (.ishr, 1) := by decide +kernel
theorem d_N_move_4 : decode b_N_move 4 = .ok (.iconst 1, 1) := by decide +kernel
theorem d_N_move_5 : decode b_N_move 5 = .ok (.iand, 1) := by decide +kernel
theorem d_N_move_6 : decode b_N_move 6 = .ok (.ifCond .eq (7), 3) := by decide +kernel
theorem d_N_move_9 : decode b_N_move 9 = .ok (.iconst 1, 1) := by decide +kernel
theorem d_N_move_10 : decode b_N_move 10 = .ok (.goto (4), 3) := by decide +kernel
theorem d_N_move_13 : decode b_N_move 13 = .ok (.iconst 0, 1) := by decide +kernel
theorem d_N_move_14 : decode b_N_move 14 = .ok (.istore 4, 2) := by decide +kernel
theorem d_N_move_16 : decode b_N_move 16 = .ok (.aload_n 0, 1) := by decide +kernel
theorem d_N_move_17 : decode b_N_move 17 = .ok (.iload_n 3, 1) := by decide +kernel
theorem d_N_move_18 : decode b_N_move 18 = .ok (.iconst 1, 1) := by decide +kernel
theorem d_N_move_19 : decode b_N_move 19 = .ok (.iload 4, 2) := by decide +kernel
theorem d_N_move_21 : decode b_N_move 21 = .ok (.ifCond .eq (7), 3) := by decide +kernel
theorem d_N_move_24 : decode b_N_move 24 = .ok (.iconst 1, 1) := by decide +kernel
theorem d_N_move_25 : decode b_N_move 25 = .ok (.goto (4), 3) := by decide +kernel
theorem d_N_move_28 : decode b_N_move 28 = .ok (.iconst 2, 1) := by decide +kernel
theorem d_N_move_29 : decode b_N_move 29 = .ok (.invokevirtual 277, 3) := by decide +kernel
theorem d_N_move_32 : decode b_N_move 32 = .ok (.istore 5, 2) := by decide +kernel
theorem d_N_move_34 : decode b_N_move 34 = .ok (.iload 5, 2) := by decide +kernel
theorem d_N_move_36 : decode b_N_move 36 = .ok (.ifCond .eq (6), 3) := by decide +kernel
theorem d_N_move_39 : decode b_N_move 39 = .ok (.iload 5, 2) := by decide +kernel
theorem d_N_move_41 : decode b_N_move 41 = .ok (.ireturn, 1) := by decide +kernel
theorem d_N_move_42 : decode b_N_move 42 = .ok (.iload 4, 2) := by decide +kernel
theorem d_N_move_44 : decode b_N_move 44 = .ok (.ifCond .eq (20), 3) := by decide +kernel
theorem d_N_move_47 : decode b_N_move 47 = .ok (.aload_n 0, 1) := by decide +kernel
theorem d_N_move_48 : decode b_N_move 48 = .ok (.getfield 9, 3) := by decide +kernel
theorem d_N_move_51 : decode b_N_move 51 = .ok (.iload_n 2, 1) := by decide +kernel
theorem d_N_move_52 : decode b_N_move 52 = .ok (.aload_n 0, 1) := by decide +kernel
theorem d_N_move_53 : decode b_N_move 53 = .ok (.getfield 19, 3) := by decide +kernel
theorem d_N_move_56 : decode b_N_move 56 = .ok (.iload_n 3, 1) := by decide +kernel
theorem d_N_move_57 : decode b_N_move 57 = .ok (.invokevirtual 66, 3) := by decide +kernel
theorem d_N_move_60 : decode b_N_move 60 = .ok (.iastore, 1) := by decide +kernel
theorem d_N_move_61 : decode b_N_move 61 = .ok (.goto (17), 3) := by decide +kernel
theorem d_N_move_64 : decode b_N_move 64 = .ok (.aload_n 0, 1) := by decide +kernel
theorem d_N_move_65 : decode b_N_move 65 = .ok (.getfield 19, 3) := by decide +kernel
theorem d_N_move_68 : decode b_N_move 68 = .ok (.iload_n 3, 1) := by decide +kernel
theorem d_N_move_69 : decode b_N_move 69 = .ok (.aload_n 0, 1) := by decide +kernel
theorem d_N_move_70 : decode b_N_move 70 = .ok (.getfield 9, 3) := by decide +kernel
theorem d_N_move_73 : decode b_N_move 73 = .ok (.iload_n 2, 1) := by decide +kernel
theorem d_N_move_74 : decode b_N_move 74 = .ok (.iaload, 1) := by decide +kernel
theorem d_N_move_75 : decode b_N_move 75 = .ok (.invokevirtual 62, 3) := by decide +kernel
theorem d_N_move_78 : decode b_N_move 78 = .ok (.iconst 0, 1) := by decide +kernel
theorem d_N_move_79 : decode b_N_move 79 = .ok (.ireturn, 1) := by decide +kernel
theorem d_N_push_0 : decode b_N_push 0 = .ok (.iload_n 1, 1) := by decide +kernel
theorem d_N_push_1 : decode b_N_push 1 = .ok (.invokestatic 289, 3) := by decide +kernel
theorem d_N_push_4 : decode b_N_push 4 = .ok (.istore_n 2, 1) := by decide +kernel
theorem d_N_push_5 : decode b_N_push 5 = .ok (.iload_n 2, 1) := by decide +kernel
theorem d_N_push_6 : decode b_N_push 6 = .ok (.ifCond .ne (6), 3) := by decide +kernel
theorem d_N_push_9 : decode b_N_push 9 = .ok (.bipush (6), 2) := by decide +kernel
theorem d_N_push_11 : decode b_N_push 11 = .ok (.ireturn, 1) := by decide +kernel
theorem d_N_push_12 : decode b_N_push 12 = .ok (.aload_n 0, 1) := by decide +kernel
theorem d_N_push_13 : decode b_N_push 13 = .ok (.getfield 9, 3) := by decide +kernel
theorem d_N_push_16 : decode b_N_push 16 = .ok (.bipush (13), 2) := by decide +kernel
theorem d_N_push_18 : decode b_N_push 18 = .ok (.iaload, 1) := by decide +kernel
theorem d_N_push_19 : decode b_N_push 19 = .ok (.iconst 4, 1) := by decide +kernel
theorem d_N_push_20 : decode b_N_push 20 = .ok (.iload_n 2, 1) := by decide +kernel
theorem d_N_push_21 : decode b_N_push 21 = .ok (.imul, 1) := by decide +kernel
theorem d_N_push_22 : decode b_N_push 22 = .ok (.isub, 1) := by decide +kernel
theorem d_N_push_23 : decode b_N_push 23 = .ok (.istore_n 3, 1) := by decide +kernel
theorem d_N_push_24 : decode b_N_push 24 = .ok (.aload_n 0, 1) := by decide +kernel
theorem d_N_push_25 : decode b_N_push 25 = .ok (.iload_n 3, 1) := by decide +kernel
theorem d_N_push_26 : decode b_N_push 26 = .ok (.iload_n 2, 1) := by decide +kernel
theorem d_N_push_27 : decode b_N_push 27 = .ok (.iconst 2, 1) := by decide +kernel
theorem d_N_push_28 : decode b_N_push 28 = .ok (.invokevirtual 277, 3) := by decide +kernel
theorem d_N_push_31 : decode b_N_push 31 = .ok (.istore 4, 2) := by decide +kernel
theorem d_N_push_33 : decode b_N_push 33 = .ok (.iload 4, 2) := by decide +kernel
theorem d_N_push_35 : decode b_N_push 35 = .ok (.ifCond .eq (6), 3) := by decide +kernel
theorem d_N_push_38 : decode b_N_push 38 = .ok (.iload 4, 2) := by decide +kernel
theorem d_N_push_40 : decode b_N_push 40 = .ok (.ireturn, 1) := by decide +kernel
theorem d_N_push_41 : decode b_N_push 41 = .ok (.iload_n 3, 1) := by decide +kernel
theorem d_N_push_42 : decode b_N_push 42 = .ok (.istore 5, 2) := by decide +kernel
theorem d_N_push_44 : decode b_N_push 44 = .ok (.iconst 0, 1) := by decide +kernel
theorem d_N_push_45 : decode b_N_push 45 = .ok (.istore 6, 2) := by decide +kernel
theorem d_N_push_47 : decode b_N_push 47 = .ok (.iload 6, 2) := by decide +kernel
theorem d_N_push_49 : decode b_N_push 49 = .ok (.bipush (8), 2) := by decide +kernel
theorem d_N_push_51 : decode b_N_push 51 = .ok (.if_icmp .gt (49), 3) := by decide +kernel
theorem d_N_push_54 : decode b_N_push 54 = .ok (.iload_n 1, 1) := by decide +kernel
theorem d_N_push_55 : decode b_N_push 55 = .ok (.iload 6, 2) := by decide +kernel
theorem d_N_push_57 : decode b_N_push 57 = .ok (.ishr, 1) := by decide +kernel
theorem d_N_push_58 : decode b_N_push 58 = .ok (.iconst 1, 1) := by decide +kernel
theorem d_N_push_59 : decode b_N_push 59 = .ok (.iand, 1) := by decide +kernel
theorem d_N_push_60 : decode b_N_push 60 = .ok (.ifCond .eq (34), 3) := by decide +kernel
theorem d_N_push_63 : decode b_N_push 63 = .ok (.aload_n 0, 1) := by decide +kernel
theorem d_N_push_64 : decode b_N_push 64 = .ok (.getfield 19, 3) := by decide +kernel
theorem d_N_push_67 : decode b_N_push 67 = .ok (.iload 5, 2) := by decide +kernel
theorem d_N_push_69 : decode b_N_push 69 = .ok (.aload_n 0, 1) := by decide +kernel
theorem d_N_push_70 : decode b_N_push 70 = .ok (.getfield 9, 3) := by decide +kernel
theorem d_N_push_73 : decode b_N_push 73 = .ok (.iload 6, 2) := by decide +kernel
theorem d_N_push_75 : decode b_N_push 75 = .ok (.bipush (8), 2) := by decide +kernel
theorem d_N_push_77 : decode b_N_push 77 = .ok (.if_icmp .ne (8), 3) := by decide +kernel
theorem d_N_push_80 : decode b_N_push 80 = .ok (.bipush (14), 2) := by decide +kernel
theorem d_N_push_82 : decode b_N_push 82 = .ok (.goto (5), 3) := by decide +kernel
theorem d_N_push_85 : decode b_N_push 85 = .ok (.iload 6, 2) := by decide +kernel
theorem d_N_push_87 : decode b_N_push 87 = .ok (.iaload, 1) := by decide +kernel
theorem d_N_push_88 : decode b_N_push 88 = .ok (.invokevirtual 62, 3) := by decide +kernel
theorem d_N_push_91 : decode b_N_push 91 = .ok (.iinc 5 (4), 3) := by decide +kernel
theorem d_N_push_94 : decode b_N_push 94 = .ok (.iinc 6 (1), 3) := by decide +kernel
theorem d_N_push_97 : decode b_N_push 97 = .ok (.goto (-50), 3) := by decide +kernel
theorem d_N_push_100 : decode b_N_push 100 = .ok (.aload_n 0, 1) := by decide +kernel
theorem d_N_push_101 : decode b_N_push 101 = .ok (.getfield 9, 3) := by decide +kernel
theorem d_N_push_104 : decode b_N_push 104 = .ok (.bipush (13), 2) := by decide +kernel
theorem d_N_push_106 : decode b_N_push 106 = .ok (.iload_n 3, 1) := by decide +kernel
theorem d_N_push_107 : decode b_N_push 107 = .ok (.iastore, 1) := by decide +kernel
theorem d_N_push_108 : decode b_N_push 108 = .ok (.iconst 0, 1) := by decide +kernel
theorem d_N_push_109 : decode b_N_push 109 = .ok (.ireturn, 1) := by decide +kernel
theorem d_N_pop_0 : decode b_N_pop 0 = .ok (.iload_n 1, 1) := by decide +kernel
theorem d_N_pop_1 : decode b_N_pop 1 = .ok (.invokestatic 289, 3) := by decide +kernel
theorem d_N_pop_4 : decode b_N_pop 4 = .ok (.istore_n 2, 1) := by decide +kernel
theorem d_N_pop_5 : decode b_N_pop 5 = .ok (.iload_n 2, 1) := by decide +kernel
theorem d_N_pop_6 : decode b_N_pop 6 = .ok (.ifCond .ne (6), 3) := by decide +kernel
theorem d_N_pop_9 : decode b_N_pop 9 = .ok (.bipush (6), 2) := by decide +kernel
theorem d_N_pop_11 : decode b_N_pop 11 = .ok (.ireturn, 1) := by decide +kernel
theorem d_N_pop_12 : decode b_N_pop 12 = .ok (.aload_n 0, 1) := by decide +kernel
theorem d_N_pop_13 : decode b_N_pop 13 = .ok (.getfield 9, 3) := by decide +kernel
theorem d_N_pop_16 : decode b_N_pop 16 = .ok (.bipush (13), 2) := by decide +kernel
theorem d_N_pop_18 : decode b_N_pop 18 = .ok (.iaload, 1) := by decide +kernel
theorem d_N_pop_19 : decode b_N_pop 19 = .ok (.istore_n 3, 1) := by decide +kernel
theorem d_N_pop_20 : decode b_N_pop 20 = .ok (.aload_n 0, 1) := by decide +kernel
theorem d_N_pop_21 : decode b_N_pop 21 = .ok (.iload_n 3, 1) := by decide +kernel
theorem d_N_pop_22 : decode b_N_pop 22 = .ok (.iload_n 2, 1) := by decide +kernel
theorem d_N_pop_23 : decode b_N_pop 23 = .ok (.iconst 1, 1) := by decide +kernel
theorem d_N_pop_24 : decode b_N_pop 24 = .ok (.invokevirtual 277, 3) := by decide +kernel
theorem d_N_pop_27 : decode b_N_pop 27 = .ok (.istore 4, 2) := by decide +kernel
theorem d_N_pop_29 : decode b_N_pop 29 = .ok (.iload 4, 2) := by decide +kernel
theorem d_N_pop_31 : decode b_N_pop 31 = .ok (.ifCond .eq (6), 3) := by decide +kernel
theorem d_N_pop_34 : decode b_N_pop 34 = .ok (.iload 4, 2) := by decide +kernel
theorem d_N_pop_36 : decode b_N_pop 36 = .ok (.ireturn, 1) := by decide +kernel
theorem d_N_pop_37 : decode b_N_pop 37 = .ok (.iconst 0, 1) := by decide +kernel
theorem d_N_pop_38 : decode b_N_pop 38 = .ok (.istore 5, 2) := by decide +kernel
theorem d_N_pop_40 : decode b_N_pop 40 = .ok (.iload 5, 2) := by decide +kernel
theorem d_N_pop_42 : decode b_N_pop 42 = .ok (.bipush (8), 2) := by decide +kernel
theorem d_N_pop_44 : decode b_N_pop 44 = .ok (.if_icmp .gt (48), 3) := by decide +kernel
theorem d_N_pop_47 : decode b_N_pop 47 = .ok (.iload_n 1, 1) := by decide +kernel
theorem d_N_pop_48 : decode b_N_pop 48 = .ok (.iload 5, 2) := by decide +kernel
theorem d_N_pop_50 : decode b_N_pop 50 = .ok (.ishr, 1) := by decide +kernel
theorem d_N_pop_51 : decode b_N_pop 51 = .ok (.iconst 1, 1) := by decide +kernel
theorem d_N_pop_52 : decode b_N_pop 52 = .ok (.iand, 1) := by decide +kernel
theorem d_N_pop_53 : decode b_N_pop 53 = .ok (.ifCond .eq (33), 3) := by decide +kernel
theorem d_N_pop_56 : decode b_N_pop 56 = .ok (.aload_n 0, 1) := by decide +kernel
theorem d_N_pop_57 : decode b_N_pop 57 = .ok (.getfield 9, 3) := by decide +kernel
theorem d_N_pop_60 : decode b_N_pop 60 = .ok (.iload 5, 2) := by decide +kernel
theorem d_N_pop_62 : decode b_N_pop 62 = .ok (.bipush (8), 2) := by decide +kernel
theorem d_N_pop_64 : decode b_N_pop 64 = .ok (.if_icmp .ne (8), 3) := by decide +kernel
theorem d_N_pop_67 : decode b_N_pop 67 = .ok (.bipush (15), 2) := by decide +kernel
theorem d_N_pop_69 : decode b_N_pop 69 = .ok (.goto (5), 3) := by decide +kernel
theorem d_N_pop_72 : decode b_N_pop 72 = .ok (.iload 5, 2) := by decide +kernel
theorem d_N_pop_74 : decode b_N_pop 74 = .ok (.aload_n 0, 1) := by decide +kernel
theorem d_N_pop_75 : decode b_N_pop 75 = .ok (.getfield 19, 3) := by decide +kernel
theorem d_N_pop_78 : decode b_N_pop 78 = .ok (.iload_n 3, 1) := by decide +kernel
theorem d_N_pop_79 : decode b_N_pop 79 = .ok (.invokevirtual 66, 3) := by decide +kernel
theorem d_N_pop_82 : decode b_N_pop 82 = .ok (.iastore, 1) := by decide +kernel
theorem d_N_pop_83 : decode b_N_pop 83 = .ok (.iinc 3 (4), 3) := by decide +kernel
theorem d_N_pop_86 : decode b_N_pop 86 = .ok (.iinc 5 (1), 3) := by decide +kernel
theorem d_N_pop_89 : decode b_N_pop 89 = .ok (.goto (-49), 3) := by decide +kernel
theorem d_N_pop_92 : decode b_N_pop 92 = .ok (.aload_n 0, 1) := by decide +kernel
theorem d_N_pop_93 : decode b_N_pop 93 = .ok (.getfield 9, 3) := by decide +kernel
theorem d_N_pop_96 : decode b_N_pop 96 = .ok (.bipush (13), 2) := by decide +kernel
theorem d_N_pop_98 : decode b_N_pop 98 = .ok (.iload_n 3, 1) := by decide +kernel
theorem d_N_pop_99 : decode b_N_pop 99 = .ok (.iastore, 1) := by decide +kernel
theorem d_N_pop_100 : decode b_N_pop 100 = .ok (.iconst 0, 1) := by decide +kernel
theorem d_N_pop_101 : decode b_N_pop 101 = .ok (.ireturn, 1) := by decide +kernel
theorem d_N_switchOrNothing_0 : decode b_N_switchOrNothing 0 = .ok (.iload_n 1, 1) := by decide +kernel
theorem d_N_switchOrNothing_1 : decode b_N_switchOrNothing 1 = .ok (.lookupswitch (104) #[(46689, 73), (46690, 53), (46705, 83), (46706, 63), (48896, 51)], 51) := by decide +kernel
theorem d_N_switchOrNothing_52 : decode b_N_switchOrNothing 52 = .ok (.iconst 0, 1) := by decide +kernel
theorem d_N_switchOrNothing_53 : decode b_N_switchOrNothing 53 = .ok (.ireturn, 1) := by decide +kernel
theorem d_N_switchOrNothing_54 : decode b_N_switchOrNothing 54 = .ok (.aload_n 0, 1) := by decide +kernel
theorem d_N_switchOrNothing_55 : decode b_N_switchOrNothing 55 = .ok (.getfield 33, 3) := by decide +kernel
theorem d_N_switchOrNothing_58 : decode b_N_switchOrNothing 58 = .ok (.iconst 0, 1) := by decide +kernel
theorem d_N_switchOrNothing_59 : decode b_N_switchOrNothing 59 = .ok (.putfield 75, 3) := by decide +kernel
theorem d_N_switchOrNothing_62 : decode b_N_switchOrNothing 62 = .ok (.iconst 0, 1) := by decide +kernel
theorem d_N_switchOrNothing_63 : decode b_N_switchOrNothing 63 = .ok (.ireturn, 1) := by decide +kernel
theorem d_N_switchOrNothing_64 : decode b_N_switchOrNothing 64 = .ok (.aload_n 0, 1) := by decide +kernel
theorem d_N_switchOrNothing_65 : decode b_N_switchOrNothing 65 = .ok (.getfield 33, 3) := by decide +kernel
theorem d_N_switchOrNothing_68 : decode b_N_switchOrNothing 68 = .ok (.iconst 1, 1) := by decide +kernel
theorem d_N_switchOrNothing_69 : decode b_N_switchOrNothing 69 = .ok (.putfield 75, 3) := by decide +kernel
theorem d_N_switchOrNothing_72 : decode b_N_switchOrNothing 72 = .ok (.iconst 0, 1) := by decide +kernel
theorem d_N_switchOrNothing_73 : decode b_N_switchOrNothing 73 = .ok (.ireturn, 1) := by decide +kernel
theorem d_N_switchOrNothing_74 : decode b_N_switchOrNothing 74 = .ok (.aload_n 0, 1) := by decide +kernel
theorem d_N_switchOrNothing_75 : decode b_N_switchOrNothing 75 = .ok (.getfield 33, 3) := by decide +kernel
theorem d_N_switchOrNothing_78 : decode b_N_switchOrNothing 78 = .ok (.iconst 0, 1) := by decide +kernel
theorem d_N_switchOrNothing_79 : decode b_N_switchOrNothing 79 = .ok (.putfield 79, 3) := by decide +kernel
theorem d_N_switchOrNothing_82 : decode b_N_switchOrNothing 82 = .ok (.iconst 0, 1) := by decide +kernel
theorem d_N_switchOrNothing_83 : decode b_N_switchOrNothing 83 = .ok (.ireturn, 1) := by decide +kernel
theorem d_N_switchOrNothing_84 : decode b_N_switchOrNothing 84 = .ok (.aload_n 0, 1) := by decide +kernel
theorem d_N_switchOrNothing_85 : decode b_N_switchOrNothing 85 = .ok (.getfield 33, 3) := by decide +kernel
theorem d_N_switchOrNothing_88 : decode b_N_switchOrNothing 88 = .ok (.invokevirtual 131, 3) := by decide +kernel
theorem d_N_switchOrNothing_91 : decode b_N_switchOrNothing 91 = .ok (.iconst (-1), 1) := by decide +kernel
theorem d_N_switchOrNothing_92 : decode b_N_switchOrNothing 92 = .ok (.if_icmp .le (11), 3) := by decide +kernel
theorem d_N_switchOrNothing_95 : decode b_N_switchOrNothing 95 = .ok (.aload_n 0, 1) := by decide +kernel
theorem d_N_switchOrNothing_96 : decode b_N_switchOrNothing 96 = .ok (.getfield 33, 3) := by decide +kernel
theorem d_N_switchOrNothing_99 : decode b_N_switchOrNothing 99 = .ok (.iconst 1, 1) := by decide +kernel
theorem d_N_switchOrNothing_100 : decode b_N_switchOrNothing 100 = .ok (.putfield 79, 3) := by decide +kernel
theorem d_N_switchOrNothing_103 : decode b_N_switchOrNothing 103 = .ok (.iconst 0, 1) := by decide +kernel
theorem d_N_switchOrNothing_104 : decode b_N_switchOrNothing 104 = .ok (.ireturn, 1) := by decide +kernel
theorem d_N_switchOrNothing_105 : decode b_N_switchOrNothing 105 = .ok (.bipush (6), 2) := by decide +kernel
theorem d_N_switchOrNothing_107 : decode b_N_switchOrNothing 107 = .ok (.ireturn, 1) := by decide +kernel
theorem d_N_stackOrSwitch_0 : decode b_N_stackOrSwitch 0 = .ok (.iload_n 1, 1) := by decide +kernel
theorem d_N_stackOrSwitch_1 : decode b_N_stackOrSwitch 1 = .ok (.bipush (8), 2) := by decide +kernel
theorem d_N_stackOrSwitch_3 : decode b_N_stackOrSwitch 3 = .ok (.ishr, 1) := by decide +kernel
theorem d_N_stackOrSwitch_4 : decode b_N_stackOrSwitch 4 = .ok (.bipush (15), 2) := by decide +kernel
theorem d_N_stackOrSwitch_6 : decode b_N_stackOrSwitch 6 = .ok (.iand, 1) := by decide +kernel
theorem d_N_stackOrSwitch_7 : decode b_N_stackOrSwitch 7 = .ok (.tableswitch (122) (0) (13) #[69, 122, 122, 122, 102, 102, 122, 122, 122, 122, 122, 122, 112, 112], 69) := by decide +kernel
theorem d_N_stackOrSwitch_76 : decode b_N_stackOrSwitch 76 = .ok (.iconst 4, 1) := by decide +kernel
theorem d_N_stackOrSwitch_77 : decode b_N_stackOrSwitch 77 = .ok (.iload_n 1, 1) := by decide +kernel
theorem d_N_stackOrSwitch_78 : decode b_N_stackOrSwitch 78 = .ok (.bipush (127), 2) := by decide +kernel
theorem d_N_stackOrSwitch_80 : decode b_N_stackOrSwitch 80 = .ok (.iand, 1) := by decide +kernel
theorem d_N_stackOrSwitch_81 : decode b_N_stackOrSwitch 81 = .ok (.imul, 1) := by decide +kernel
theorem d_N_stackOrSwitch_82 : decode b_N_stackOrSwitch 82 = .ok (.istore_n 2, 1) := by decide +kernel
theorem d_N_stackOrSwitch_83 : decode b_N_stackOrSwitch 83 = .ok (.aload_n 0, 1) := by decide +kernel
theorem d_N_stackOrSwitch_84 : decode b_N_stackOrSwitch 84 = .ok (.getfield 9, 3) := by decide +kernel
theorem d_N_stackOrSwitch_87 : decode b_N_stackOrSwitch 87 = .ok (.bipush (13), 2) := by decide +kernel
theorem d_N_stackOrSwitch_89 : decode b_N_stackOrSwitch 89 = .ok (.dup2, 1) := by decide +kernel
theorem d_N_stackOrSwitch_90 : decode b_N_stackOrSwitch 90 = .ok (.iaload, 1) := by decide +kernel
theorem d_N_stackOrSwitch_91 : decode b_N_stackOrSwitch 91 = .ok (.iload_n 1, 1) := by decide +kernel
theorem d_N_stackOrSwitch_92 : decode b_N_stackOrSwitch 92 = .ok (.sipush (128), 3) := by decide +kernel
theorem d_N_stackOrSwitch_95 : decode b_N_stackOrSwitch 95 = .ok (.iand, 1) := by decide +kernel
theorem d_N_stackOrSwitch_96 : decode b_N_stackOrSwitch 96 = .ok (.ifCond .ne (7), 3) := by decide +kernel
theorem d_N_stackOrSwitch_99 : decode b_N_stackOrSwitch 99 = .ok (.iload_n 2, 1) := by decide +kernel
theorem d_N_stackOrSwitch_100 : decode b_N_stackOrSwitch 100 = .ok (.goto (5), 3) := by decide +kernel
theorem d_N_stackOrSwitch_103 : decode b_N_stackOrSwitch 103 = .ok (.iload_n 2, 1) := by decide +kernel
theorem d_N_stackOrSwitch_104 : decode b_N_stackOrSwitch 104 = .ok (.ineg, 1) := by decide +kernel
theorem d_N_stackOrSwitch_105 : decode b_N_stackOrSwitch 105 = .ok (.iadd, 1) := by decide +kernel
theorem d_N_stackOrSwitch_106 : decode b_N_stackOrSwitch 106 = .ok (.iastore, 1) := by decide +kernel
theorem d_N_stackOrSwitch_107 : decode b_N_stackOrSwitch 107 = .ok (.iconst 0, 1) := by decide +kernel
theorem d_N_stackOrSwitch_108 : decode b_N_stackOrSwitch 108 = .ok (.ireturn, 1) := by decide +kernel
theorem d_N_stackOrSwitch_109 : decode b_N_stackOrSwitch 109 = .ok (.aload_n 0, 1) := by decide +kernel
theorem d_N_stackOrSwitch_110 : decode b_N_stackOrSwitch 110 = .ok (.iload_n 1, 1) := by decide +kernel
theorem d_N_stackOrSwitch_111 : decode b_N_stackOrSwitch 111 = .ok (.sipush (511), 3) := by decide +kernel
theorem d_N_stackOrSwitch_114 : decode b_N_stackOrSwitch 114 = .ok (.iand, 1) := by decide +kernel
theorem d_N_stackOrSwitch_115 : decode b_N_stackOrSwitch 115 = .ok (.invokevirtual 280, 3) := by decide +kernel
theorem d_N_stackOrSwitch_118 : decode b_N_stackOrSwitch 118 = .ok (.ireturn, 1) := by decide +kernel
theorem d_N_stackOrSwitch_119 : decode b_N_stackOrSwitch 119 = .ok (.aload_n 0, 1) := by decide +kernel
theorem d_N_stackOrSwitch_120 : decode b_N_stackOrSwitch 120 = .ok (.iload_n 1, 1) := by decide +kernel
theorem d_N_stackOrSwitch_121 : decode b_N_stackOrSwitch 121 = .ok (.sipush (511), 3) := by decide +kernel
theorem d_N_stackOrSwitch_124 : decode b_N_stackOrSwitch 124 = .ok (.iand, 1) := by decide +kernel
theorem d_N_stackOrSwitch_125 : decode b_N_stackOrSwitch 125 = .ok (.invokevirtual 283, 3) := by decide +kernel
theorem d_N_stackOrSwitch_128 : decode b_N_stackOrSwitch 128 = .ok (.ireturn, 1) := by decide +kernel
theorem d_N_stackOrSwitch_129 : decode b_N_stackOrSwitch 129 = .ok (.aload_n 0, 1) := by decide +kernel
theorem d_N_stackOrSwitch_130 : decode b_N_stackOrSwitch 130 = .ok (.iload_n 1, 1) := by decide +kernel
theorem d_N_stackOrSwitch_131 : decode b_N_stackOrSwitch 131 = .ok (.invokevirtual 286, 3) := by decide +kernel
theorem d_N_stackOrSwitch_134 : decode b_N_stackOrSwitch 134 = .ok (.ireturn, 1) := by decide +kernel
theorem d_N_callOut_0 : decode b_N_callOut 0 = .ok (.aload_n 0, 1) := by decide +kernel
theorem d_N_callOut_1 : decode b_N_callOut 1 = .ok (.getfield 33, 3) := by decide +kernel
theorem d_N_callOut_4 : decode b_N_callOut 4 = .ok (.bipush (7), 2) := by decide +kernel
theorem d_N_callOut_6 : decode b_N_callOut 6 = .ok (.invokevirtual 196, 3) := by decide +kernel
theorem d_N_callOut_9 : decode b_N_callOut 9 = .ok (.aload_n 0, 1) := by decide +kernel
theorem d_N_callOut_10 : decode b_N_callOut 10 = .ok (.getfield 33, 3) := by decide +kernel
theorem d_N_callOut_13 : decode b_N_callOut 13 = .ok (.invokevirtual 131, 3) := by decide +kernel
theorem d_N_callOut_16 : decode b_N_callOut 16 = .ok (.if_icmp .lt (6), 3) := by decide +kernel
theorem d_N_callOut_19 : decode b_N_callOut 19 = .ok (.bipush (6), 2) := by decide +kernel
theorem d_N_callOut_21 : decode b_N_callOut 21 = .ok (.ireturn, 1) := by decide +kernel
theorem d_N_callOut_22 : decode b_N_callOut 22 = .ok (.aload_n 0, 1) := by decide +kernel
theorem d_N_callOut_23 : decode b_N_callOut 23 = .ok (.getfield 33, 3) := by decide +kernel
theorem d_N_callOut_26 : decode b_N_callOut 26 = .ok (.getfield 104, 3) := by decide +kernel
theorem d_N_callOut_29 : decode b_N_callOut 29 = .ok (.bipush (7), 2) := by decide +kernel
theorem d_N_callOut_31 : decode b_N_callOut 31 = .ok (.iconst 1, 1) := by decide +kernel
theorem d_N_callOut_32 : decode b_N_callOut 32 = .ok (.bastore, 1) := by decide +kernel
theorem d_N_callOut_33 : decode b_N_callOut 33 = .ok (.iconst 0, 1) := by decide +kernel
theorem d_N_callOut_34 : decode b_N_callOut 34 = .ok (.ireturn, 1) := by decide +kernel
theorem d_Fl_meet_0 : decode b_Fl_meet 0 = .ok (.iload_n 1, 1) := by decide +kernel
theorem d_Fl_meet_1 : decode b_Fl_meet 1 = .ok (.iconst 1, 1) := by decide +kernel
theorem d_Fl_meet_2 : decode b_Fl_meet 2 = .ok (.iand, 1) := by decide +kernel
theorem d_Fl_meet_3 : decode b_Fl_meet 3 = .ok (.ifCond .eq (7), 3) := by decide +kernel
theorem d_Fl_meet_6 : decode b_Fl_meet 6 = .ok (.iconst 1, 1) := by decide +kernel
theorem d_Fl_meet_7 : decode b_Fl_meet 7 = .ok (.goto (4), 3) := by decide +kernel
theorem d_Fl_meet_10 : decode b_Fl_meet 10 = .ok (.iconst 0, 1) := by decide +kernel
theorem d_Fl_meet_11 : decode b_Fl_meet 11 = .ok (.istore_n 2, 1) := by decide +kernel
theorem d_Fl_meet_12 : decode b_Fl_meet 12 = .ok (.iload_n 1, 1) := by decide +kernel
theorem d_Fl_meet_13 : decode b_Fl_meet 13 = .ok (.iconst 1, 1) := by decide +kernel
theorem d_Fl_meet_14 : decode b_Fl_meet 14 = .ok (.ishr, 1) := by decide +kernel
theorem d_Fl_meet_15 : decode b_Fl_meet 15 = .ok (.tableswitch (148) (0) (5) #[37, 51, 65, 79, 93, 122], 37) := by decide +kernel
theorem d_Fl_meet_52 : decode b_Fl_meet 52 = .ok (.aload_n 0, 1) := by decide +kernel
theorem d_Fl_meet_53 : decode b_Fl_meet 53 = .ok (.getfield 13, 3) := by decide +kernel
theorem d_Fl_meet_56 : decode b_Fl_meet 56 = .ok (.iload_n 2, 1) := by decide +kernel
theorem d_Fl_meet_57 : decode b_Fl_meet 57 = .ok (.if_icmp .eq (7), 3) := by decide +kernel
theorem d_Fl_meet_60 : decode b_Fl_meet 60 = .ok (.iconst 1, 1) := by decide +kernel
theorem d_Fl_meet_61 : decode b_Fl_meet 61 = .ok (.goto (4), 3) := by decide +kernel
theorem d_Fl_meet_64 : decode b_Fl_meet 64 = .ok (.iconst 0, 1) := by decide +kernel
theorem d_Fl_meet_65 : decode b_Fl_meet 65 = .ok (.ireturn, 1) := by decide +kernel
theorem d_Fl_meet_66 : decode b_Fl_meet 66 = .ok (.aload_n 0, 1) := by decide +kernel
theorem d_Fl_meet_67 : decode b_Fl_meet 67 = .ok (.getfield 16, 3) := by decide +kernel
theorem d_Fl_meet_70 : decode b_Fl_meet 70 = .ok (.iload_n 2, 1) := by decide +kernel
theorem d_Fl_meet_71 : decode b_Fl_meet 71 = .ok (.if_icmp .eq (7), 3) := by decide +kernel
theorem d_Fl_meet_74 : decode b_Fl_meet 74 = .ok (.iconst 1, 1) := by decide +kernel
theorem d_Fl_meet_75 : decode b_Fl_meet 75 = .ok (.goto (4), 3) := by decide +kernel
theorem d_Fl_meet_78 : decode b_Fl_meet 78 = .ok (.iconst 0, 1) := by decide +kernel
theorem d_Fl_meet_79 : decode b_Fl_meet 79 = .ok (.ireturn, 1) := by decide +kernel
theorem d_Fl_meet_80 : decode b_Fl_meet 80 = .ok (.aload_n 0, 1) := by decide +kernel
theorem d_Fl_meet_81 : decode b_Fl_meet 81 = .ok (.getfield 7, 3) := by decide +kernel
theorem d_Fl_meet_84 : decode b_Fl_meet 84 = .ok (.iload_n 2, 1) := by decide +kernel
theorem d_Fl_meet_85 : decode b_Fl_meet 85 = .ok (.if_icmp .eq (7), 3) := by decide +kernel
theorem d_Fl_meet_88 : decode b_Fl_meet 88 = .ok (.iconst 1, 1) := by decide +kernel
theorem d_Fl_meet_89 : decode b_Fl_meet 89 = .ok (.goto (4), 3) := by decide +kernel
theorem d_Fl_meet_92 : decode b_Fl_meet 92 = .ok (.iconst 0, 1) := by decide +kernel
theorem d_Fl_meet_93 : decode b_Fl_meet 93 = .ok (.ireturn, 1) := by decide +kernel
theorem d_Fl_meet_94 : decode b_Fl_meet 94 = .ok (.aload_n 0, 1) := by decide +kernel
theorem d_Fl_meet_95 : decode b_Fl_meet 95 = .ok (.getfield 21, 3) := by decide +kernel
theorem d_Fl_meet_98 : decode b_Fl_meet 98 = .ok (.iload_n 2, 1) := by decide +kernel
theorem d_Fl_meet_99 : decode b_Fl_meet 99 = .ok (.if_icmp .eq (7), 3) := by decide +kernel
theorem d_Fl_meet_102 : decode b_Fl_meet 102 = .ok (.iconst 1, 1) := by decide +kernel
theorem d_Fl_meet_103 : decode b_Fl_meet 103 = .ok (.goto (4), 3) := by decide +kernel
theorem d_Fl_meet_106 : decode b_Fl_meet 106 = .ok (.iconst 0, 1) := by decide +kernel
theorem d_Fl_meet_107 : decode b_Fl_meet 107 = .ok (.ireturn, 1) := by decide +kernel
theorem d_Fl_meet_108 : decode b_Fl_meet 108 = .ok (.aload_n 0, 1) := by decide +kernel
theorem d_Fl_meet_109 : decode b_Fl_meet 109 = .ok (.getfield 16, 3) := by decide +kernel
theorem d_Fl_meet_112 : decode b_Fl_meet 112 = .ok (.ifCond .eq (14), 3) := by decide +kernel
theorem d_Fl_meet_115 : decode b_Fl_meet 115 = .ok (.aload_n 0, 1) := by decide +kernel
theorem d_Fl_meet_116 : decode b_Fl_meet 116 = .ok (.getfield 13, 3) := by decide +kernel
theorem d_Fl_meet_119 : decode b_Fl_meet 119 = .ok (.ifCond .ne (7), 3) := by decide +kernel
theorem d_Fl_meet_122 : decode b_Fl_meet 122 = .ok (.iconst 1, 1) := by decide +kernel
theorem d_Fl_meet_123 : decode b_Fl_meet 123 = .ok (.goto (4), 3) := by decide +kernel
theorem d_Fl_meet_126 : decode b_Fl_meet 126 = .ok (.iconst 0, 1) := by decide +kernel
theorem d_Fl_meet_127 : decode b_Fl_meet 127 = .ok (.iload_n 2, 1) := by decide +kernel
theorem d_Fl_meet_128 : decode b_Fl_meet 128 = .ok (.if_icmp .eq (7), 3) := by decide +kernel
theorem d_Fl_meet_131 : decode b_Fl_meet 131 = .ok (.iconst 1, 1) := by decide +kernel
theorem d_Fl_meet_132 : decode b_Fl_meet 132 = .ok (.goto (4), 3) := by decide +kernel
theorem d_Fl_meet_135 : decode b_Fl_meet 135 = .ok (.iconst 0, 1) := by decide +kernel
theorem d_Fl_meet_136 : decode b_Fl_meet 136 = .ok (.ireturn, 1) := by decide +kernel
theorem d_Fl_meet_137 : decode b_Fl_meet 137 = .ok (.aload_n 0, 1) := by decide +kernel
theorem d_Fl_meet_138 : decode b_Fl_meet 138 = .ok (.getfield 7, 3) := by decide +kernel
theorem d_Fl_meet_141 : decode b_Fl_meet 141 = .ok (.aload_n 0, 1) := by decide +kernel
theorem d_Fl_meet_142 : decode b_Fl_meet 142 = .ok (.getfield 21, 3) := by decide +kernel
theorem d_Fl_meet_145 : decode b_Fl_meet 145 = .ok (.if_icmp .ne (7), 3) := by decide +kernel
theorem d_Fl_meet_148 : decode b_Fl_meet 148 = .ok (.iconst 1, 1) := by decide +kernel
theorem d_Fl_meet_149 : decode b_Fl_meet 149 = .ok (.goto (4), 3) := by decide +kernel
theorem d_Fl_meet_152 : decode b_Fl_meet 152 = .ok (.iconst 0, 1) := by decide +kernel
theorem d_Fl_meet_153 : decode b_Fl_meet 153 = .ok (.iload_n 2, 1) := by decide +kernel
theorem d_Fl_meet_154 : decode b_Fl_meet 154 = .ok (.if_icmp .eq (7), 3) := by decide +kernel
theorem d_Fl_meet_157 : decode b_Fl_meet 157 = .ok (.iconst 1, 1) := by decide +kernel
theorem d_Fl_meet_158 : decode b_Fl_meet 158 = .ok (.goto (4), 3) := by decide +kernel
theorem d_Fl_meet_161 : decode b_Fl_meet 161 = .ok (.iconst 0, 1) := by decide +kernel
theorem d_Fl_meet_162 : decode b_Fl_meet 162 = .ok (.ireturn, 1) := by decide +kernel
theorem d_Fl_meet_163 : decode b_Fl_meet 163 = .ok (.aload_n 0, 1) := by decide +kernel
theorem d_Fl_meet_164 : decode b_Fl_meet 164 = .ok (.getfield 13, 3) := by decide +kernel
theorem d_Fl_meet_167 : decode b_Fl_meet 167 = .ok (.ifCond .ne (18), 3) := by decide +kernel
theorem d_Fl_meet_170 : decode b_Fl_meet 170 = .ok (.aload_n 0, 1) := by decide +kernel
theorem d_Fl_meet_171 : decode b_Fl_meet 171 = .ok (.getfield 7, 3) := by decide +kernel
theorem d_Fl_meet_174 : decode b_Fl_meet 174 = .ok (.aload_n 0, 1) := by decide +kernel
theorem d_Fl_meet_175 : decode b_Fl_meet 175 = .ok (.getfield 21, 3) := by decide +kernel
theorem d_Fl_meet_178 : decode b_Fl_meet 178 = .ok (.if_icmp .ne (7), 3) := by decide +kernel
theorem d_Fl_meet_181 : decode b_Fl_meet 181 = .ok (.iconst 1, 1) := by decide +kernel
theorem d_Fl_meet_182 : decode b_Fl_meet 182 = .ok (.goto (4), 3) := by decide +kernel
theorem d_Fl_meet_185 : decode b_Fl_meet 185 = .ok (.iconst 0, 1) := by decide +kernel
theorem d_Fl_meet_186 : decode b_Fl_meet 186 = .ok (.iload_n 2, 1) := by decide +kernel
theorem d_Fl_meet_187 : decode b_Fl_meet 187 = .ok (.if_icmp .eq (7), 3) := by decide +kernel
theorem d_Fl_meet_190 : decode b_Fl_meet 190 = .ok (.iconst 1, 1) := by decide +kernel
theorem d_Fl_meet_191 : decode b_Fl_meet 191 = .ok (.goto (4), 3) := by decide +kernel
theorem d_Fl_meet_194 : decode b_Fl_meet 194 = .ok (.iconst 0, 1) := by decide +kernel
theorem d_Fl_meet_195 : decode b_Fl_meet 195 = .ok (.ireturn, 1) := by decide +kernel
theorem d_N_branchIf_0 : decode b_N_branchIf 0 = .ok (.iload_n 1, 1) := by decide +kernel
theorem d_N_branchIf_1 : decode b_N_branchIf 1 = .ok (.bipush (8), 2) := by decide +kernel
theorem d_N_branchIf_3 : decode b_N_branchIf 3 = .ok (.ishr, 1) := by decide +kernel
theorem d_N_branchIf_4 : decode b_N_branchIf 4 = .ok (.bipush (15), 2) := by decide +kernel
theorem d_N_branchIf_6 : decode b_N_branchIf 6 = .ok (.iand, 1) := by decide +kernel
theorem d_N_branchIf_7 : decode b_N_branchIf 7 = .ok (.istore_n 2, 1) := by decide +kernel
theorem d_N_branchIf_8 : decode b_N_branchIf 8 = .ok (.iload_n 2, 1) := by decide +kernel
theorem d_N_branchIf_9 : decode b_N_branchIf 9 = .ok (.bipush (13), 2) := by decide +kernel
theorem d_N_branchIf_11 : decode b_N_branchIf 11 = .ok (.if_icmp .le (6), 3) := by decide +kernel
theorem d_N_branchIf_14 : decode b_N_branchIf 14 = .ok (.bipush (6), 2) := by decide +kernel
theorem d_N_branchIf_16 : decode b_N_branchIf 16 = .ok (.ireturn, 1) := by decide +kernel
theorem d_N_branchIf_17 : decode b_N_branchIf 17 = .ok (.aload_n 0, 1) := by decide +kernel
theorem d_N_branchIf_18 : decode b_N_branchIf 18 = .ok (.getfield 40, 3) := by decide +kernel
theorem d_N_branchIf_21 : decode b_N_branchIf 21 = .ok (.iload_n 2, 1) := by decide +kernel
theorem d_N_branchIf_22 : decode b_N_branchIf 22 = .ok (.invokevirtual 294, 3) := by decide +kernel
theorem d_N_branchIf_25 : decode b_N_branchIf 25 = .ok (.ifCond .eq (19), 3) := by decide +kernel
theorem d_N_branchIf_28 : decode b_N_branchIf 28 = .ok (.aload_n 0, 1) := by decide +kernel
theorem d_N_branchIf_29 : decode b_N_branchIf 29 = .ok (.getfield 9, 3) := by decide +kernel
theorem d_N_branchIf_32 : decode b_N_branchIf 32 = .ok (.bipush (15), 2) := by decide +kernel
theorem d_N_branchIf_34 : decode b_N_branchIf 34 = .ok (.dup2, 1) := by decide +kernel
theorem d_N_branchIf_35 : decode b_N_branchIf 35 = .ok (.iaload, 1) := by decide +kernel
theorem d_N_branchIf_36 : decode b_N_branchIf 36 = .ok (.iconst 2, 1) := by decide +kernel
theorem d_N_branchIf_37 : decode b_N_branchIf 37 = .ok (.iconst 2, 1) := by decide +kernel
theorem d_N_branchIf_38 : decode b_N_branchIf 38 = .ok (.iload_n 1, 1) := by decide +kernel
theorem d_N_branchIf_39 : decode b_N_branchIf 39 = .ok (.i2b, 1) := by decide +kernel
theorem d_N_branchIf_40 : decode b_N_branchIf 40 = .ok (.imul, 1) := by decide +kernel
theorem d_N_branchIf_41 : decode b_N_branchIf 41 = .ok (.iadd, 1) := by decide +kernel
theorem d_N_branchIf_42 : decode b_N_branchIf 42 = .ok (.iadd, 1) := by decide +kernel
theorem d_N_branchIf_43 : decode b_N_branchIf 43 = .ok (.iastore, 1) := by decide +kernel
theorem d_N_branchIf_44 : decode b_N_branchIf 44 = .ok (.iconst 0, 1) := by decide +kernel
theorem d_N_branchIf_45 : decode b_N_branchIf 45 = .ok (.ireturn, 1) := by decide +kernel
theorem d_N_branch_0 : decode b_N_branch 0 = .ok (.iload_n 1, 1) := by decide +kernel
theorem d_N_branch_1 : decode b_N_branch 1 = .ok (.bipush (11), 2) := by decide +kernel
theorem d_N_branch_3 : decode b_N_branch 3 = .ok (.ishr, 1) := by decide +kernel
theorem d_N_branch_4 : decode b_N_branch 4 = .ok (.iconst 1, 1) := by decide +kernel
theorem d_N_branch_5 : decode b_N_branch 5 = .ok (.iand, 1) := by decide +kernel
theorem d_N_branch_6 : decode b_N_branch 6 = .ok (.ifCond .eq (6), 3) := by decide +kernel
theorem d_N_branch_9 : decode b_N_branch 9 = .ok (.bipush (6), 2) := by decide +kernel
theorem d_N_branch_11 : decode b_N_branch 11 = .ok (.ireturn, 1) := by decide +kernel
theorem d_N_branch_12 : decode b_N_branch 12 = .ok (.aload_n 0, 1) := by decide +kernel
theorem d_N_branch_13 : decode b_N_branch 13 = .ok (.getfield 9, 3) := by decide +kernel
theorem d_N_branch_16 : decode b_N_branch 16 = .ok (.bipush (15), 2) := by decide +kernel
theorem d_N_branch_18 : decode b_N_branch 18 = .ok (.dup2, 1) := by decide +kernel
theorem d_N_branch_19 : decode b_N_branch 19 = .ok (.iaload, 1) := by decide +kernel
theorem d_N_branch_20 : decode b_N_branch 20 = .ok (.iconst 2, 1) := by decide +kernel
theorem d_N_branch_21 : decode b_N_branch 21 = .ok (.iconst 2, 1) := by decide +kernel
theorem d_N_branch_22 : decode b_N_branch 22 = .ok (.iload_n 1, 1) := by decide +kernel
theorem d_N_branch_23 : decode b_N_branch 23 = .ok (.bipush (21), 2) := by decide +kernel
theorem d_N_branch_25 : decode b_N_branch 25 = .ok (.ishl, 1) := by decide +kernel
theorem d_N_branch_26 : decode b_N_branch 26 = .ok (.bipush (21), 2) := by decide +kernel
theorem d_N_branch_28 : decode b_N_branch 28 = .ok (.ishr, 1) := by decide +kernel
theorem d_N_branch_29 : decode b_N_branch 29 = .ok (.imul, 1) := by decide +kernel
theorem d_N_branch_30 : decode b_N_branch 30 = .ok (.iadd, 1) := by decide +kernel
theorem d_N_branch_31 : decode b_N_branch 31 = .ok (.iadd, 1) := by decide +kernel
theorem d_N_branch_32 : decode b_N_branch 32 = .ok (.iastore, 1) := by decide +kernel
theorem d_N_branch_33 : decode b_N_branch 33 = .ok (.iconst 0, 1) := by decide +kernel
theorem d_N_branch_34 : decode b_N_branch 34 = .ok (.ireturn, 1) := by decide +kernel
theorem d_N_execute_0 : decode b_N_execute 0 = .ok (.iload_n 1, 1) := by decide +kernel
theorem d_N_execute_1 : decode b_N_execute 1 = .ok (.bipush (12), 2) := by decide +kernel
theorem d_N_execute_3 : decode b_N_execute 3 = .ok (.ishr, 1) := by decide +kernel
theorem d_N_execute_4 : decode b_N_execute 4 = .ok (.tableswitch (221) (0) (14) #[76, 76, 98, 98, 104, 221, 127, 221, 221, 158, 221, 186, 221, 192, 215], 76) := by decide +kernel
theorem d_N_execute_80 : decode b_N_execute 80 = .ok (.iload_n 1, 1) := by decide +kernel
theorem d_N_execute_81 : decode b_N_execute 81 = .ok (.bipush (11), 2) := by decide +kernel
theorem d_N_execute_83 : decode b_N_execute 83 = .ok (.ishr, 1) := by decide +kernel
theorem d_N_execute_84 : decode b_N_execute 84 = .ok (.iconst 3, 1) := by decide +kernel
theorem d_N_execute_85 : decode b_N_execute 85 = .ok (.if_icmp .ge (11), 3) := by decide +kernel
theorem d_N_execute_88 : decode b_N_execute 88 = .ok (.aload_n 0, 1) := by decide +kernel
theorem d_N_execute_89 : decode b_N_execute 89 = .ok (.iload_n 1, 1) := by decide +kernel
theorem d_N_execute_90 : decode b_N_execute 90 = .ok (.invokevirtual 221, 3) := by decide +kernel
theorem d_N_execute_93 : decode b_N_execute 93 = .ok (.goto (8), 3) := by decide +kernel
theorem d_N_execute_96 : decode b_N_execute 96 = .ok (.aload_n 0, 1) := by decide +kernel
theorem d_N_execute_97 : decode b_N_execute 97 = .ok (.iload_n 1, 1) := by decide +kernel
theorem d_N_execute_98 : decode b_N_execute 98 = .ok (.invokevirtual 224, 3) := by decide +kernel
theorem d_N_execute_101 : decode b_N_execute 101 = .ok (.ireturn, 1) := by decide +kernel
theorem d_N_execute_102 : decode b_N_execute 102 = .ok (.aload_n 0, 1) := by decide +kernel
theorem d_N_execute_103 : decode b_N_execute 103 = .ok (.iload_n 1, 1) := by decide +kernel
theorem d_N_execute_104 : decode b_N_execute 104 = .ok (.invokevirtual 227, 3) := by decide +kernel
theorem d_N_execute_107 : decode b_N_execute 107 = .ok (.ireturn, 1) := by decide +kernel
theorem d_N_execute_108 : decode b_N_execute 108 = .ok (.iload_n 1, 1) := by decide +kernel
theorem d_N_execute_109 : decode b_N_execute 109 = .ok (.bipush (10), 2) := by decide +kernel
theorem d_N_execute_111 : decode b_N_execute 111 = .ok (.ishr, 1) := by decide +kernel
theorem d_N_execute_112 : decode b_N_execute 112 = .ok (.bipush (16), 2) := by decide +kernel
theorem d_N_execute_114 : decode b_N_execute 114 = .ok (.if_icmp .ne (11), 3) := by decide +kernel
theorem d_N_execute_117 : decode b_N_execute 117 = .ok (.aload_n 0, 1) := by decide +kernel
theorem d_N_execute_118 : decode b_N_execute 118 = .ok (.iload_n 1, 1) := by decide +kernel
theorem d_N_execute_119 : decode b_N_execute 119 = .ok (.invokevirtual 230, 3) := by decide +kernel
theorem d_N_execute_122 : decode b_N_execute 122 = .ok (.goto (8), 3) := by decide +kernel
theorem d_N_execute_125 : decode b_N_execute 125 = .ok (.aload_n 0, 1) := by decide +kernel
theorem d_N_execute_126 : decode b_N_execute 126 = .ok (.iload_n 1, 1) := by decide +kernel
theorem d_N_execute_127 : decode b_N_execute 127 = .ok (.invokevirtual 233, 3) := by decide +kernel
theorem d_N_execute_130 : decode b_N_execute 130 = .ok (.ireturn, 1) := by decide +kernel
theorem d_N_execute_131 : decode b_N_execute 131 = .ok (.aload_n 0, 1) := by decide +kernel
theorem d_N_execute_132 : decode b_N_execute 132 = .ok (.iload_n 1, 1) := by decide +kernel
theorem d_N_execute_133 : decode b_N_execute 133 = .ok (.iload_n 1, 1) := by decide +kernel
theorem d_N_execute_134 : decode b_N_execute 134 = .ok (.bipush (7), 2) := by decide +kernel
theorem d_N_execute_136 : decode b_N_execute 136 = .ok (.iand, 1) := by decide +kernel
theorem d_N_execute_137 : decode b_N_execute 137 = .ok (.aload_n 0, 1) := by decide +kernel
theorem d_N_execute_138 : decode b_N_execute 138 = .ok (.getfield 9, 3) := by decide +kernel
theorem d_N_execute_141 : decode b_N_execute 141 = .ok (.iload_n 1, 1) := by decide +kernel
theorem d_N_execute_142 : decode b_N_execute 142 = .ok (.iconst 3, 1) := by decide +kernel
theorem d_N_execute_143 : decode b_N_execute 143 = .ok (.ishr, 1) := by decide +kernel
theorem d_N_execute_144 : decode b_N_execute 144 = .ok (.bipush (7), 2) := by decide +kernel
theorem d_N_execute_146 : decode b_N_execute 146 = .ok (.iand, 1) := by decide +kernel
theorem d_N_execute_147 : decode b_N_execute 147 = .ok (.iaload, 1) := by decide +kernel
theorem d_N_execute_148 : decode b_N_execute 148 = .ok (.iconst 4, 1) := by decide +kernel
theorem d_N_execute_149 : decode b_N_execute 149 = .ok (.iload_n 1, 1) := by decide +kernel
theorem d_N_execute_150 : decode b_N_execute 150 = .ok (.bipush (6), 2) := by decide +kernel
theorem d_N_execute_152 : decode b_N_execute 152 = .ok (.ishr, 1) := by decide +kernel
theorem d_N_execute_153 : decode b_N_execute 153 = .ok (.bipush (31), 2) := by decide +kernel
theorem d_N_execute_155 : decode b_N_execute 155 = .ok (.iand, 1) := by decide +kernel
theorem d_N_execute_156 : decode b_N_execute 156 = .ok (.imul, 1) := by decide +kernel
theorem d_N_execute_157 : decode b_N_execute 157 = .ok (.iadd, 1) := by decide +kernel
theorem d_N_execute_158 : decode b_N_execute 158 = .ok (.invokevirtual 236, 3) := by decide +kernel
theorem d_N_execute_161 : decode b_N_execute 161 = .ok (.ireturn, 1) := by decide +kernel
theorem d_N_execute_162 : decode b_N_execute 162 = .ok (.aload_n 0, 1) := by decide +kernel
theorem d_N_execute_163 : decode b_N_execute 163 = .ok (.iload_n 1, 1) := by decide +kernel
theorem d_N_execute_164 : decode b_N_execute 164 = .ok (.iload_n 1, 1) := by decide +kernel
theorem d_N_execute_165 : decode b_N_execute 165 = .ok (.bipush (8), 2) := by decide +kernel
theorem d_N_execute_167 : decode b_N_execute 167 = .ok (.ishr, 1) := by decide +kernel
theorem d_N_execute_168 : decode b_N_execute 168 = .ok (.bipush (7), 2) := by decide +kernel
theorem d_N_execute_170 : decode b_N_execute 170 = .ok (.iand, 1) := by decide +kernel
theorem d_N_execute_171 : decode b_N_execute 171 = .ok (.aload_n 0, 1) := by decide +kernel
theorem d_N_execute_172 : decode b_N_execute 172 = .ok (.getfield 9, 3) := by decide +kernel
theorem d_N_execute_175 : decode b_N_execute 175 = .ok (.bipush (13), 2) := by decide +kernel
theorem d_N_execute_177 : decode b_N_execute 177 = .ok (.iaload, 1) := by decide +kernel
theorem d_N_execute_178 : decode b_N_execute 178 = .ok (.iconst 4, 1) := by decide +kernel
theorem d_N_execute_179 : decode b_N_execute 179 = .ok (.iload_n 1, 1) := by decide +kernel
theorem d_N_execute_180 : decode b_N_execute 180 = .ok (.sipush (255), 3) := by decide +kernel
theorem d_N_execute_183 : decode b_N_execute 183 = .ok (.iand, 1) := by decide +kernel
theorem d_N_execute_184 : decode b_N_execute 184 = .ok (.imul, 1) := by decide +kernel
theorem d_N_execute_185 : decode b_N_execute 185 = .ok (.iadd, 1) := by decide +kernel
theorem d_N_execute_186 : decode b_N_execute 186 = .ok (.invokevirtual 236, 3) := by decide +kernel
theorem d_N_execute_189 : decode b_N_execute 189 = .ok (.ireturn, 1) := by decide +kernel
theorem d_N_execute_190 : decode b_N_execute 190 = .ok (.aload_n 0, 1) := by decide +kernel
theorem d_N_execute_191 : decode b_N_execute 191 = .ok (.iload_n 1, 1) := by decide +kernel
theorem d_N_execute_192 : decode b_N_execute 192 = .ok (.invokevirtual 240, 3) := by decide +kernel
theorem d_N_execute_195 : decode b_N_execute 195 = .ok (.ireturn, 1) := by decide +kernel
theorem d_N_execute_196 : decode b_N_execute 196 = .ok (.iload_n 1, 1) := by decide +kernel
theorem d_N_execute_197 : decode b_N_execute 197 = .ok (.bipush (8), 2) := by decide +kernel
theorem d_N_execute_199 : decode b_N_execute 199 = .ok (.ishr, 1) := by decide +kernel
theorem d_N_execute_200 : decode b_N_execute 200 = .ok (.sipush (223), 3) := by decide +kernel
theorem d_N_execute_203 : decode b_N_execute 203 = .ok (.if_icmp .ne (10), 3) := by decide +kernel
theorem d_N_execute_206 : decode b_N_execute 206 = .ok (.aload_n 0, 1) := by decide +kernel
theorem d_N_execute_207 : decode b_N_execute 207 = .ok (.invokevirtual 243, 3) := by decide +kernel
theorem d_N_execute_210 : decode b_N_execute 210 = .ok (.goto (8), 3) := by decide +kernel
theorem d_N_execute_213 : decode b_N_execute 213 = .ok (.aload_n 0, 1) := by decide +kernel
theorem d_N_execute_214 : decode b_N_execute 214 = .ok (.iload_n 1, 1) := by decide +kernel
theorem d_N_execute_215 : decode b_N_execute 215 = .ok (.invokevirtual 246, 3) := by decide +kernel
theorem d_N_execute_218 : decode b_N_execute 218 = .ok (.ireturn, 1) := by decide +kernel
theorem d_N_execute_219 : decode b_N_execute 219 = .ok (.aload_n 0, 1) := by decide +kernel
theorem d_N_execute_220 : decode b_N_execute 220 = .ok (.iload_n 1, 1) := by decide +kernel
theorem d_N_execute_221 : decode b_N_execute 221 = .ok (.invokevirtual 249, 3) := by decide +kernel
theorem d_N_execute_224 : decode b_N_execute 224 = .ok (.ireturn, 1) := by decide +kernel
theorem d_N_execute_225 : decode b_N_execute 225 = .ok (.bipush (6), 2) := by decide +kernel
theorem d_N_execute_227 : decode b_N_execute 227 = .ok (.ireturn, 1) := by decide +kernel
theorem d_Ex_leave_0 : decode b_Ex_leave 0 = .ok (.aload_n 0, 1) := by decide +kernel
theorem d_Ex_leave_1 : decode b_Ex_leave 1 = .ok (.getfield 18, 3) := by decide +kernel
theorem d_Ex_leave_4 : decode b_Ex_leave 4 = .ok (.iload_n 1, 1) := by decide +kernel
theorem d_Ex_leave_5 : decode b_Ex_leave 5 = .ok (.iconst 0, 1) := by decide +kernel
theorem d_Ex_leave_6 : decode b_Ex_leave 6 = .ok (.bastore, 1) := by decide +kernel
theorem d_Ex_leave_7 : decode b_Ex_leave 7 = .ok (.iload_n 1, 1) := by decide +kernel
theorem d_Ex_leave_8 : decode b_Ex_leave 8 = .ok (.iconst 2, 1) := by decide +kernel
theorem d_Ex_leave_9 : decode b_Ex_leave 9 = .ok (.if_icmp .eq (8), 3) := by decide +kernel
theorem d_Ex_leave_12 : decode b_Ex_leave 12 = .ok (.aload_n 0, 1) := by decide +kernel
theorem d_Ex_leave_13 : decode b_Ex_leave 13 = .ok (.iconst 0, 1) := by decide +kernel
theorem d_Ex_leave_14 : decode b_Ex_leave 14 = .ok (.putfield 46, 3) := by decide +kernel
