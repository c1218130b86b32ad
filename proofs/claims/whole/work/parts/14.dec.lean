theorem d_Mo_holds_75 : decode b_Mo_holds 75 = .ok (.iconst 0, 1) := by decide +kernel
theorem d_Mo_holds_76 : decode b_Mo_holds 76 = .ok (.if_icmp .ne (7), 3) := by decide +kernel
theorem d_Mo_holds_79 : decode b_Mo_holds 79 = .ok (.iconst 1, 1) := by decide +kernel
theorem d_Mo_holds_80 : decode b_Mo_holds 80 = .ok (.goto (4), 3) := by decide +kernel
theorem d_Mo_holds_83 : decode b_Mo_holds 83 = .ok (.iconst 0, 1) := by decide +kernel
theorem d_Mo_holds_84 : decode b_Mo_holds 84 = .ok (.ireturn, 1) := by decide +kernel
theorem d_Mo_holds_85 : decode b_Mo_holds 85 = .ok (.aload_n 0, 1) := by decide +kernel
theorem d_Mo_holds_86 : decode b_Mo_holds 86 = .ok (.getfield 80, 3) := by decide +kernel
theorem d_Mo_holds_89 : decode b_Mo_holds 89 = .ok (.iload_n 1, 1) := by decide +kernel
theorem d_Mo_holds_90 : decode b_Mo_holds 90 = .ok (.iconst 4, 1) := by decide +kernel
theorem d_Mo_holds_91 : decode b_Mo_holds 91 = .ok (.if_icmp .ne (7), 3) := by decide +kernel
theorem d_Mo_holds_94 : decode b_Mo_holds 94 = .ok (.iconst 1, 1) := by decide +kernel
theorem d_Mo_holds_95 : decode b_Mo_holds 95 = .ok (.goto (4), 3) := by decide +kernel
theorem d_Mo_holds_98 : decode b_Mo_holds 98 = .ok (.iconst 0, 1) := by decide +kernel
theorem d_Mo_holds_99 : decode b_Mo_holds 99 = .ok (.if_icmp .ne (7), 3) := by decide +kernel
theorem d_Mo_holds_102 : decode b_Mo_holds 102 = .ok (.iconst 1, 1) := by decide +kernel
theorem d_Mo_holds_103 : decode b_Mo_holds 103 = .ok (.goto (4), 3) := by decide +kernel
theorem d_Mo_holds_106 : decode b_Mo_holds 106 = .ok (.iconst 0, 1) := by decide +kernel
theorem d_Mo_holds_107 : decode b_Mo_holds 107 = .ok (.ireturn, 1) := by decide +kernel
theorem d_Mo_holds_108 : decode b_Mo_holds 108 = .ok (.aload_n 0, 1) := by decide +kernel
theorem d_Mo_holds_109 : decode b_Mo_holds 109 = .ok (.getfield 92, 3) := by decide +kernel
theorem d_Mo_holds_112 : decode b_Mo_holds 112 = .ok (.iload_n 1, 1) := by decide +kernel
theorem d_Mo_holds_113 : decode b_Mo_holds 113 = .ok (.bipush (6), 2) := by decide +kernel
theorem d_Mo_holds_115 : decode b_Mo_holds 115 = .ok (.if_icmp .ne (7), 3) := by decide +kernel
theorem d_Mo_holds_118 : decode b_Mo_holds 118 = .ok (.iconst 1, 1) := by decide +kernel
theorem d_Mo_holds_119 : decode b_Mo_holds 119 = .ok (.goto (4), 3) := by decide +kernel
theorem d_Mo_holds_122 : decode b_Mo_holds 122 = .ok (.iconst 0, 1) := by decide +kernel
theorem d_Mo_holds_123 : decode b_Mo_holds 123 = .ok (.if_icmp .ne (7), 3) := by decide +kernel
theorem d_Mo_holds_126 : decode b_Mo_holds 126 = .ok (.iconst 1, 1) := by decide +kernel
theorem d_Mo_holds_127 : decode b_Mo_holds 127 = .ok (.goto (4), 3) := by decide +kernel
theorem d_Mo_holds_130 : decode b_Mo_holds 130 = .ok (.iconst 0, 1) := by decide +kernel
theorem d_Mo_holds_131 : decode b_Mo_holds 131 = .ok (.ireturn, 1) := by decide +kernel
theorem d_Mo_holds_132 : decode b_Mo_holds 132 = .ok (.aload_n 0, 1) := by decide +kernel
theorem d_Mo_holds_133 : decode b_Mo_holds 133 = .ok (.getfield 88, 3) := by decide +kernel
theorem d_Mo_holds_136 : decode b_Mo_holds 136 = .ok (.ifCond .eq (14), 3) := by decide +kernel
theorem d_Mo_holds_139 : decode b_Mo_holds 139 = .ok (.aload_n 0, 1) := by decide +kernel
theorem d_Mo_holds_140 : decode b_Mo_holds 140 = .ok (.getfield 84, 3) := by decide +kernel
theorem d_Mo_holds_143 : decode b_Mo_holds 143 = .ok (.ifCond .ne (7), 3) := by decide +kernel
theorem d_Mo_holds_146 : decode b_Mo_holds 146 = .ok (.iconst 1, 1) := by decide +kernel
theorem d_Mo_holds_147 : decode b_Mo_holds 147 = .ok (.goto (4), 3) := by decide +kernel
theorem d_Mo_holds_150 : decode b_Mo_holds 150 = .ok (.iconst 0, 1) := by decide +kernel
theorem d_Mo_holds_151 : decode b_Mo_holds 151 = .ok (.iload_n 1, 1) := by decide +kernel
theorem d_Mo_holds_152 : decode b_Mo_holds 152 = .ok (.bipush (8), 2) := by decide +kernel
theorem d_Mo_holds_154 : decode b_Mo_holds 154 = .ok (.if_icmp .ne (7), 3) := by decide +kernel
theorem d_Mo_holds_157 : decode b_Mo_holds 157 = .ok (.iconst 1, 1) := by decide +kernel
theorem d_Mo_holds_158 : decode b_Mo_holds 158 = .ok (.goto (4), 3) := by decide +kernel
theorem d_Mo_holds_161 : decode b_Mo_holds 161 = .ok (.iconst 0, 1) := by decide +kernel
theorem d_Mo_holds_162 : decode b_Mo_holds 162 = .ok (.if_icmp .ne (7), 3) := by decide +kernel
theorem d_Mo_holds_165 : decode b_Mo_holds 165 = .ok (.iconst 1, 1) := by decide +kernel
theorem d_Mo_holds_166 : decode b_Mo_holds 166 = .ok (.goto (4), 3) := by decide +kernel
theorem d_Mo_holds_169 : decode b_Mo_holds 169 = .ok (.iconst 0, 1) := by decide +kernel
theorem d_Mo_holds_170 : decode b_Mo_holds 170 = .ok (.ireturn, 1) := by decide +kernel
theorem d_Mo_holds_171 : decode b_Mo_holds 171 = .ok (.aload_n 0, 1) := by decide +kernel
theorem d_Mo_holds_172 : decode b_Mo_holds 172 = .ok (.getfield 80, 3) := by decide +kernel
theorem d_Mo_holds_175 : decode b_Mo_holds 175 = .ok (.aload_n 0, 1) := by decide +kernel
theorem d_Mo_holds_176 : decode b_Mo_holds 176 = .ok (.getfield 92, 3) := by decide +kernel
theorem d_Mo_holds_179 : decode b_Mo_holds 179 = .ok (.if_icmp .ne (7), 3) := by decide +kernel
theorem d_Mo_holds_182 : decode b_Mo_holds 182 = .ok (.iconst 1, 1) := by decide +kernel
theorem d_Mo_holds_183 : decode b_Mo_holds 183 = .ok (.goto (4), 3) := by decide +kernel
theorem d_Mo_holds_186 : decode b_Mo_holds 186 = .ok (.iconst 0, 1) := by decide +kernel
theorem d_Mo_holds_187 : decode b_Mo_holds 187 = .ok (.iload_n 1, 1) := by decide +kernel
theorem d_Mo_holds_188 : decode b_Mo_holds 188 = .ok (.bipush (10), 2) := by decide +kernel
theorem d_Mo_holds_190 : decode b_Mo_holds 190 = .ok (.if_icmp .ne (7), 3) := by decide +kernel
theorem d_Mo_holds_193 : decode b_Mo_holds 193 = .ok (.iconst 1, 1) := by decide +kernel
theorem d_Mo_holds_194 : decode b_Mo_holds 194 = .ok (.goto (4), 3) := by decide +kernel
theorem d_Mo_holds_197 : decode b_Mo_holds 197 = .ok (.iconst 0, 1) := by decide +kernel
theorem d_Mo_holds_198 : decode b_Mo_holds 198 = .ok (.if_icmp .ne (7), 3) := by decide +kernel
theorem d_Mo_holds_201 : decode b_Mo_holds 201 = .ok (.iconst 1, 1) := by decide +kernel
theorem d_Mo_holds_202 : decode b_Mo_holds 202 = .ok (.goto (4), 3) := by decide +kernel
theorem d_Mo_holds_205 : decode b_Mo_holds 205 = .ok (.iconst 0, 1) := by decide +kernel
theorem d_Mo_holds_206 : decode b_Mo_holds 206 = .ok (.ireturn, 1) := by decide +kernel
theorem d_Mo_holds_207 : decode b_Mo_holds 207 = .ok (.aload_n 0, 1) := by decide +kernel
theorem d_Mo_holds_208 : decode b_Mo_holds 208 = .ok (.getfield 84, 3) := by decide +kernel
theorem d_Mo_holds_211 : decode b_Mo_holds 211 = .ok (.ifCond .ne (18), 3) := by decide +kernel
theorem d_Mo_holds_214 : decode b_Mo_holds 214 = .ok (.aload_n 0, 1) := by decide +kernel
theorem d_Mo_holds_215 : decode b_Mo_holds 215 = .ok (.getfield 80, 3) := by decide +kernel
theorem d_Mo_holds_218 : decode b_Mo_holds 218 = .ok (.aload_n 0, 1) := by decide +kernel
theorem d_Mo_holds_219 : decode b_Mo_holds 219 = .ok (.getfield 92, 3) := by decide +kernel
theorem d_Mo_holds_222 : decode b_Mo_holds 222 = .ok (.if_icmp .ne (7), 3) := by decide +kernel
theorem d_Mo_holds_225 : decode b_Mo_holds 225 = .ok (.iconst 1, 1) := by decide +kernel
theorem d_Mo_holds_226 : decode b_Mo_holds 226 = .ok (.goto (4), 3) := by decide +kernel
theorem d_Mo_holds_229 : decode b_Mo_holds 229 = .ok (.iconst 0, 1) := by decide +kernel
theorem d_Mo_holds_230 : decode b_Mo_holds 230 = .ok (.iload_n 1, 1) := by decide +kernel
theorem d_Mo_holds_231 : decode b_Mo_holds 231 = .ok (.bipush (12), 2) := by decide +kernel
theorem d_Mo_holds_233 : decode b_Mo_holds 233 = .ok (.if_icmp .ne (7), 3) := by decide +kernel
theorem d_Mo_holds_236 : decode b_Mo_holds 236 = .ok (.iconst 1, 1) := by decide +kernel
theorem d_Mo_holds_237 : decode b_Mo_holds 237 = .ok (.goto (4), 3) := by decide +kernel
theorem d_Mo_holds_240 : decode b_Mo_holds 240 = .ok (.iconst 0, 1) := by decide +kernel
theorem d_Mo_holds_241 : decode b_Mo_holds 241 = .ok (.if_icmp .ne (7), 3) := by decide +kernel
theorem d_Mo_holds_244 : decode b_Mo_holds 244 = .ok (.iconst 1, 1) := by decide +kernel
theorem d_Mo_holds_245 : decode b_Mo_holds 245 = .ok (.goto (4), 3) := by decide +kernel
theorem d_Mo_holds_248 : decode b_Mo_holds 248 = .ok (.iconst 0, 1) := by decide +kernel
theorem d_Mo_holds_249 : decode b_Mo_holds 249 = .ok (.ireturn, 1) := by decide +kernel
theorem d_Mo_conditional_0 : decode b_Mo_conditional 0 = .ok (.iload_n 1, 1) := by decide +kernel
theorem d_Mo_conditional_1 : decode b_Mo_conditional 1 = .ok (.bipush (8), 2) := by decide +kernel
theorem d_Mo_conditional_3 : decode b_Mo_conditional 3 = .ok (.ishr, 1) := by decide +kernel
theorem d_Mo_conditional_4 : decode b_Mo_conditional 4 = .ok (.bipush (15), 2) := by decide +kernel
theorem d_Mo_conditional_6 : decode b_Mo_conditional 6 = .ok (.iand, 1) := by decide +kernel
theorem d_Mo_conditional_7 : decode b_Mo_conditional 7 = .ok (.istore_n 2, 1) := by decide +kernel
theorem d_Mo_conditional_8 : decode b_Mo_conditional 8 = .ok (.iload_n 2, 1) := by decide +kernel
theorem d_Mo_conditional_9 : decode b_Mo_conditional 9 = .ok (.bipush (14), 2) := by decide +kernel
theorem d_Mo_conditional_11 : decode b_Mo_conditional 11 = .ok (.if_icmp .ne (6), 3) := by decide +kernel
theorem d_Mo_conditional_14 : decode b_Mo_conditional 14 = .ok (.bipush (6), 2) := by decide +kernel
theorem d_Mo_conditional_16 : decode b_Mo_conditional 16 = .ok (.ireturn, 1) := by decide +kernel
theorem d_Mo_conditional_17 : decode b_Mo_conditional 17 = .ok (.iload_n 2, 1) := by decide +kernel
theorem d_Mo_conditional_18 : decode b_Mo_conditional 18 = .ok (.bipush (15), 2) := by decide +kernel
theorem d_Mo_conditional_20 : decode b_Mo_conditional 20 = .ok (.if_icmp .ne (45), 3) := by decide +kernel
theorem d_Mo_conditional_23 : decode b_Mo_conditional 23 = .ok (.aload_n 0, 1) := by decide +kernel
theorem d_Mo_conditional_24 : decode b_Mo_conditional 24 = .ok (.aload_n 0, 1) := by decide +kernel
theorem d_Mo_conditional_25 : decode b_Mo_conditional 25 = .ok (.getfield 16, 3) := by decide +kernel
theorem d_Mo_conditional_28 : decode b_Mo_conditional 28 = .ok (.bipush (7), 2) := by decide +kernel
theorem d_Mo_conditional_30 : decode b_Mo_conditional 30 = .ok (.iaload, 1) := by decide +kernel
theorem d_Mo_conditional_31 : decode b_Mo_conditional 31 = .ok (.invokevirtual 56, 3) := by decide +kernel
theorem d_Mo_conditional_34 : decode b_Mo_conditional 34 = .ok (.aload_n 0, 1) := by decide +kernel
theorem d_Mo_conditional_35 : decode b_Mo_conditional 35 = .ok (.invokevirtual 70, 3) := by decide +kernel
theorem d_Mo_conditional_38 : decode b_Mo_conditional 38 = .ok (.if_icmp .lt (6), 3) := by decide +kernel
theorem d_Mo_conditional_41 : decode b_Mo_conditional 41 = .ok (.bipush (6), 2) := by decide +kernel
theorem d_Mo_conditional_43 : decode b_Mo_conditional 43 = .ok (.ireturn, 1) := by decide +kernel
theorem d_Mo_conditional_44 : decode b_Mo_conditional 44 = .ok (.aload_n 0, 1) := by decide +kernel
theorem d_Mo_conditional_45 : decode b_Mo_conditional 45 = .ok (.getfield 23, 3) := by decide +kernel
theorem d_Mo_conditional_48 : decode b_Mo_conditional 48 = .ok (.bipush (7), 2) := by decide +kernel
theorem d_Mo_conditional_50 : decode b_Mo_conditional 50 = .ok (.iconst 1, 1) := by decide +kernel
theorem d_Mo_conditional_51 : decode b_Mo_conditional 51 = .ok (.bastore, 1) := by decide +kernel
theorem d_Mo_conditional_52 : decode b_Mo_conditional 52 = .ok (.aload_n 0, 1) := by decide +kernel
theorem d_Mo_conditional_53 : decode b_Mo_conditional 53 = .ok (.getfield 13, 3) := by decide +kernel
theorem d_Mo_conditional_56 : decode b_Mo_conditional 56 = .ok (.bipush (15), 2) := by decide +kernel
theorem d_Mo_conditional_58 : decode b_Mo_conditional 58 = .ok (.dup2, 1) := by decide +kernel
theorem d_Mo_conditional_59 : decode b_Mo_conditional 59 = .ok (.iaload, 1) := by decide +kernel
theorem d_Mo_conditional_60 : decode b_Mo_conditional 60 = .ok (.iconst 2, 1) := by decide +kernel
theorem d_Mo_conditional_61 : decode b_Mo_conditional 61 = .ok (.iadd, 1) := by decide +kernel
theorem d_Mo_conditional_62 : decode b_Mo_conditional 62 = .ok (.iastore, 1) := by decide +kernel
theorem d_Mo_conditional_63 : decode b_Mo_conditional 63 = .ok (.iconst 0, 1) := by decide +kernel
theorem d_Mo_conditional_64 : decode b_Mo_conditional 64 = .ok (.ireturn, 1) := by decide +kernel
theorem d_Mo_conditional_65 : decode b_Mo_conditional 65 = .ok (.iload_n 1, 1) := by decide +kernel
theorem d_Mo_conditional_66 : decode b_Mo_conditional 66 = .ok (.sipush (255), 3) := by decide +kernel
theorem d_Mo_conditional_69 : decode b_Mo_conditional 69 = .ok (.iand, 1) := by decide +kernel
theorem d_Mo_conditional_70 : decode b_Mo_conditional 70 = .ok (.istore_n 3, 1) := by decide +kernel
theorem d_Mo_conditional_71 : decode b_Mo_conditional 71 = .ok (.iload_n 3, 1) := by decide +kernel
theorem d_Mo_conditional_72 : decode b_Mo_conditional 72 = .ok (.bipush (127), 2) := by decide +kernel
theorem d_Mo_conditional_74 : decode b_Mo_conditional 74 = .ok (.if_icmp .le (11), 3) := by decide +kernel
theorem d_Mo_conditional_77 : decode b_Mo_conditional 77 = .ok (.iload_n 3, 1) := by decide +kernel
theorem d_Mo_conditional_78 : decode b_Mo_conditional 78 = .ok (.sipush (256), 3) := by decide +kernel
theorem d_Mo_conditional_81 : decode b_Mo_conditional 81 = .ok (.isub, 1) := by decide +kernel
theorem d_Mo_conditional_82 : decode b_Mo_conditional 82 = .ok (.goto (4), 3) := by decide +kernel
theorem d_Mo_conditional_85 : decode b_Mo_conditional 85 = .ok (.iload_n 3, 1) := by decide +kernel
theorem d_Mo_conditional_86 : decode b_Mo_conditional 86 = .ok (.istore_n 3, 1) := by decide +kernel
theorem d_Mo_conditional_87 : decode b_Mo_conditional 87 = .ok (.aload_n 0, 1) := by decide +kernel
theorem d_Mo_conditional_88 : decode b_Mo_conditional 88 = .ok (.getfield 13, 3) := by decide +kernel
theorem d_Mo_conditional_91 : decode b_Mo_conditional 91 = .ok (.bipush (15), 2) := by decide +kernel
theorem d_Mo_conditional_93 : decode b_Mo_conditional 93 = .ok (.dup2, 1) := by decide +kernel
theorem d_Mo_conditional_94 : decode b_Mo_conditional 94 = .ok (.iaload, 1) := by decide +kernel
theorem d_Mo_conditional_95 : decode b_Mo_conditional 95 = .ok (.aload_n 0, 1) := by decide +kernel
theorem d_Mo_conditional_96 : decode b_Mo_conditional 96 = .ok (.iload_n 2, 1) := by decide +kernel
theorem d_Mo_conditional_97 : decode b_Mo_conditional 97 = .ok (.invokevirtual 157, 3) := by decide +kernel
theorem d_Mo_conditional_100 : decode b_Mo_conditional 100 = .ok (.ifCond .eq (11), 3) := by decide +kernel
theorem d_Mo_conditional_103 : decode b_Mo_conditional 103 = .ok (.iconst 4, 1) := by decide +kernel
theorem d_Mo_conditional_104 : decode b_Mo_conditional 104 = .ok (.iconst 2, 1) := by decide +kernel
theorem d_Mo_conditional_105 : decode b_Mo_conditional 105 = .ok (.iload_n 3, 1) := by decide +kernel
theorem d_Mo_conditional_106 : decode b_Mo_conditional 106 = .ok (.imul, 1) := by decide +kernel
theorem d_Mo_conditional_107 : decode b_Mo_conditional 107 = .ok (.iadd, 1) := by decide +kernel
theorem d_Mo_conditional_108 : decode b_Mo_conditional 108 = .ok (.goto (4), 3) := by decide +kernel
theorem d_Mo_conditional_111 : decode b_Mo_conditional 111 = .ok (.iconst 2, 1) := by decide +kernel
theorem d_Mo_conditional_112 : decode b_Mo_conditional 112 = .ok (.iadd, 1) := by decide +kernel
theorem d_Mo_conditional_113 : decode b_Mo_conditional 113 = .ok (.iastore, 1) := by decide +kernel
theorem d_Mo_conditional_114 : decode b_Mo_conditional 114 = .ok (.iconst 0, 1) := by decide +kernel
theorem d_Mo_conditional_115 : decode b_Mo_conditional 115 = .ok (.ireturn, 1) := by decide +kernel
theorem d_Mo_special_0 : decode b_Mo_special 0 = .ok (.iload_n 1, 1) := by decide +kernel
theorem d_Mo_special_1 : decode b_Mo_special 1 = .ok (.ldc 160, 2) := by decide +kernel
theorem d_Mo_special_3 : decode b_Mo_special 3 = .ok (.if_icmp .eq (9), 3) := by decide +kernel
theorem d_Mo_special_6 : decode b_Mo_special 6 = .ok (.iload_n 1, 1) := by decide +kernel
theorem d_Mo_special_7 : decode b_Mo_special 7 = .ok (.ldc 161, 2) := by decide +kernel
theorem d_Mo_special_9 : decode b_Mo_special 9 = .ok (.if_icmp .ne (21), 3) := by decide +kernel
theorem d_Mo_special_12 : decode b_Mo_special 12 = .ok (.aload_n 0, 1) := by decide +kernel
theorem d_Mo_special_13 : decode b_Mo_special 13 = .ok (.iload_n 1, 1) := by decide +kernel
theorem d_Mo_special_14 : decode b_Mo_special 14 = .ok (.ldc 161, 2) := by decide +kernel
theorem d_Mo_special_16 : decode b_Mo_special 16 = .ok (.if_icmp .ne (7), 3) := by decide +kernel
theorem d_Mo_special_19 : decode b_Mo_special 19 = .ok (.iconst 1, 1) := by decide +kernel
theorem d_Mo_special_20 : decode b_Mo_special 20 = .ok (.goto (4), 3) := by decide +kernel
theorem d_Mo_special_23 : decode b_Mo_special 23 = .ok (.iconst 0, 1) := by decide +kernel
theorem d_Mo_special_24 : decode b_Mo_special 24 = .ok (.putfield 63, 3) := by decide +kernel
theorem d_Mo_special_27 : decode b_Mo_special 27 = .ok (.goto (125), 3) := by decide +kernel
theorem d_Mo_special_30 : decode b_Mo_special 30 = .ok (.iload_n 1, 1) := by decide +kernel
theorem d_Mo_special_31 : decode b_Mo_special 31 = .ok (.ldc 162, 2) := by decide +kernel
theorem d_Mo_special_33 : decode b_Mo_special 33 = .ok (.if_icmp .ne (11), 3) := by decide +kernel
theorem d_Mo_special_36 : decode b_Mo_special 36 = .ok (.aload_n 0, 1) := by decide +kernel
theorem d_Mo_special_37 : decode b_Mo_special 37 = .ok (.iconst 0, 1) := by decide +kernel
theorem d_Mo_special_38 : decode b_Mo_special 38 = .ok (.putfield 67, 3) := by decide +kernel
theorem d_Mo_special_41 : decode b_Mo_special 41 = .ok (.goto (111), 3) := by decide +kernel
theorem d_Mo_special_44 : decode b_Mo_special 44 = .ok (.iload_n 1, 1) := by decide +kernel
theorem d_Mo_special_45 : decode b_Mo_special 45 = .ok (.ldc 163, 2) := by decide +kernel
theorem d_Mo_special_47 : decode b_Mo_special 47 = .ok (.if_icmp .ne (30), 3) := by decide +kernel
theorem d_Mo_special_50 : decode b_Mo_special 50 = .ok (.aload_n 0, 1) := by decide +kernel
theorem d_Mo_special_51 : decode b_Mo_special 51 = .ok (.aload_n 0, 1) := by decide +kernel
theorem d_Mo_special_52 : decode b_Mo_special 52 = .ok (.getfield 67, 3) := by decide +kernel
theorem d_Mo_special_55 : decode b_Mo_special 55 = .ok (.ifCond .ne (11), 3) := by decide +kernel
theorem d_Mo_special_58 : decode b_Mo_special 58 = .ok (.aload_n 0, 1) := by decide +kernel
theorem d_Mo_special_59 : decode b_Mo_special 59 = .ok (.invokevirtual 70, 3) := by decide +kernel
theorem d_Mo_special_62 : decode b_Mo_special 62 = .ok (.iconst (-1), 1) := by decide +kernel
theorem d_Mo_special_63 : decode b_Mo_special 63 = .ok (.if_icmp .le (7), 3) := by decide +kernel
theorem d_Mo_special_66 : decode b_Mo_special 66 = .ok (.iconst 1, 1) := by decide +kernel
theorem d_Mo_special_67 : decode b_Mo_special 67 = .ok (.goto (4), 3) := by decide +kernel
theorem d_Mo_special_70 : decode b_Mo_special 70 = .ok (.iconst 0, 1) := by decide +kernel
theorem d_Mo_special_71 : decode b_Mo_special 71 = .ok (.putfield 67, 3) := by decide +kernel
theorem d_Mo_special_74 : decode b_Mo_special 74 = .ok (.goto (78), 3) := by decide +kernel
theorem d_Mo_special_77 : decode b_Mo_special 77 = .ok (.iload_n 1, 1) := by decide +kernel
theorem d_Mo_special_78 : decode b_Mo_special 78 = .ok (.bipush (8), 2) := by decide +kernel
theorem d_Mo_special_80 : decode b_Mo_special 80 = .ok (.ishr, 1) := by decide +kernel
theorem d_Mo_special_81 : decode b_Mo_special 81 = .ok (.sipush (176), 3) := by decide +kernel
theorem d_Mo_special_84 : decode b_Mo_special 84 = .ok (.if_icmp .ne (40), 3) := by decide +kernel
theorem d_Mo_special_87 : decode b_Mo_special 87 = .ok (.aload_n 0, 1) := by decide +kernel
theorem d_Mo_special_88 : decode b_Mo_special 88 = .ok (.getfield 13, 3) := by decide +kernel
theorem d_Mo_special_91 : decode b_Mo_special 91 = .ok (.bipush (13), 2) := by decide +kernel
theorem d_Mo_special_93 : decode b_Mo_special 93 = .ok (.dup2, 1) := by decide +kernel
theorem d_Mo_special_94 : decode b_Mo_special 94 = .ok (.iaload, 1) := by decide +kernel
theorem d_Mo_special_95 : decode b_Mo_special 95 = .ok (.iload_n 1, 1) := by decide +kernel
theorem d_Mo_special_96 : decode b_Mo_special 96 = .ok (.sipush (128), 3) := by decide +kernel
theorem d_Mo_special_99 : decode b_Mo_special 99 = .ok (.iand, 1) := by decide +kernel
theorem d_Mo_special_100 : decode b_Mo_special 100 = .ok (.ifCond .ne (12), 3) := by decide +kernel
theorem d_Mo_special_103 : decode b_Mo_special 103 = .ok (.iconst 4, 1) := by decide +kernel
theorem d_Mo_special_104 : decode b_Mo_special 104 = .ok (.iload_n 1, 1) := by decide +kernel
theorem d_Mo_special_105 : decode b_Mo_special 105 = .ok (.bipush (127), 2) := by decide +kernel
theorem d_Mo_special_107 : decode b_Mo_special 107 = .ok (.iand, 1) := by decide +kernel
theorem d_Mo_special_108 : decode b_Mo_special 108 = .ok (.imul, 1) := by decide +kernel
theorem d_Mo_special_109 : decode b_Mo_special 109 = .ok (.goto (10), 3) := by decide +kernel
theorem d_Mo_special_112 : decode b_Mo_special 112 = .ok (.bipush (-4), 2) := by decide +kernel
theorem d_Mo_special_114 : decode b_Mo_special 114 = .ok (.iload_n 1, 1) := by decide +kernel
theorem d_Mo_special_115 : decode b_Mo_special 115 = .ok (.bipush (127), 2) := by decide +kernel
theorem d_Mo_special_117 : decode b_Mo_special 117 = .ok (.iand, 1) := by decide +kernel
theorem d_Mo_special_118 : decode b_Mo_special 118 = .ok (.imul, 1) := by decide +kernel
theorem d_Mo_special_119 : decode b_Mo_special 119 = .ok (.iadd, 1) := by decide +kernel
theorem d_Mo_special_120 : decode b_Mo_special 120 = .ok (.iastore, 1) := by decide +kernel
theorem d_Mo_special_121 : decode b_Mo_special 121 = .ok (.goto (31), 3) := by decide +kernel
theorem d_Mo_special_124 : decode b_Mo_special 124 = .ok (.iload_n 1, 1) := by decide +kernel
theorem d_Mo_special_125 : decode b_Mo_special 125 = .ok (.bipush (9), 2) := by decide +kernel
theorem d_Mo_special_127 : decode b_Mo_special 127 = .ok (.ishr, 1) := by decide +kernel
theorem d_Mo_special_128 : decode b_Mo_special 128 = .ok (.bipush (90), 2) := by decide +kernel
theorem d_Mo_special_130 : decode b_Mo_special 130 = .ok (.if_icmp .ne (13), 3) := by decide +kernel
theorem d_Mo_special_133 : decode b_Mo_special 133 = .ok (.aload_n 0, 1) := by decide +kernel
theorem d_Mo_special_134 : decode b_Mo_special 134 = .ok (.iload_n 1, 1) := by decide +kernel
theorem d_Mo_special_135 : decode b_Mo_special 135 = .ok (.sipush (511), 3) := by decide +kernel
theorem d_Mo_special_138 : decode b_Mo_special 138 = .ok (.iand, 1) := by decide +kernel
theorem d_Mo_special_139 : decode b_Mo_special 139 = .ok (.invokevirtual 164, 3) := by decide +kernel
theorem d_Mo_special_142 : decode b_Mo_special 142 = .ok (.ireturn, 1) := by decide +kernel
theorem d_Mo_special_143 : decode b_Mo_special 143 = .ok (.iload_n 1, 1) := by decide +kernel
theorem d_Mo_special_144 : decode b_Mo_special 144 = .ok (.ldc 167, 2) := by decide +kernel
theorem d_Mo_special_146 : decode b_Mo_special 146 = .ok (.if_icmp .eq (6), 3) := by decide +kernel
theorem d_Mo_special_149 : decode b_Mo_special 149 = .ok (.bipush (6), 2) := by decide +kernel
theorem d_Mo_special_151 : decode b_Mo_special 151 = .ok (.ireturn, 1) := by decide +kernel
theorem d_Mo_special_152 : decode b_Mo_special 152 = .ok (.iconst 0, 1) := by decide +kernel
theorem d_Mo_special_153 : decode b_Mo_special 153 = .ok (.ireturn, 1) := by decide +kernel
theorem d_Mo_plain_0 : decode b_Mo_plain 0 = .ok (.iload_n 1, 1) := by decide +kernel
theorem d_Mo_plain_1 : decode b_Mo_plain 1 = .ok (.bipush (11), 2) := by decide +kernel
theorem d_Mo_plain_3 : decode b_Mo_plain 3 = .ok (.ishr, 1) := by decide +kernel
theorem d_Mo_plain_4 : decode b_Mo_plain 4 = .ok (.istore_n 2, 1) := by decide +kernel
theorem d_Mo_plain_5 : decode b_Mo_plain 5 = .ok (.iload_n 2, 1) := by decide +kernel
theorem d_Mo_plain_6 : decode b_Mo_plain 6 = .ok (.iconst 3, 1) := by decide +kernel
theorem d_Mo_plain_7 : decode b_Mo_plain 7 = .ok (.if_icmp .ge (9), 3) := by decide +kernel
theorem d_Mo_plain_10 : decode b_Mo_plain 10 = .ok (.aload_n 0, 1) := by decide +kernel
theorem d_Mo_plain_11 : decode b_Mo_plain 11 = .ok (.iload_n 1, 1) := by decide +kernel
theorem d_Mo_plain_12 : decode b_Mo_plain 12 = .ok (.invokevirtual 168, 3) := by decide +kernel
theorem d_Mo_plain_15 : decode b_Mo_plain 15 = .ok (.ireturn, 1) := by decide +kernel
theorem d_Mo_plain_16 : decode b_Mo_plain 16 = .ok (.iload_n 1, 1) := by decide +kernel
theorem d_Mo_plain_17 : decode b_Mo_plain 17 = .ok (.bipush (10), 2) := by decide +kernel
theorem d_Mo_plain_19 : decode b_Mo_plain 19 = .ok (.ishr, 1) := by decide +kernel
theorem d_Mo_plain_20 : decode b_Mo_plain 20 = .ok (.bipush (6), 2) := by decide +kernel
theorem d_Mo_plain_22 : decode b_Mo_plain 22 = .ok (.if_icmp .ne (70), 3) := by decide +kernel
theorem d_Mo_plain_25 : decode b_Mo_plain 25 = .ok (.aload_n 0, 1) := by decide +kernel
theorem d_Mo_plain_26 : decode b_Mo_plain 26 = .ok (.getfield 13, 3) := by decide +kernel
theorem d_Mo_plain_29 : decode b_Mo_plain 29 = .ok (.iload_n 1, 1) := by decide +kernel
theorem d_Mo_plain_30 : decode b_Mo_plain 30 = .ok (.iconst 3, 1) := by decide +kernel
theorem d_Mo_plain_31 : decode b_Mo_plain 31 = .ok (.ishr, 1) := by decide +kernel
theorem d_Mo_plain_32 : decode b_Mo_plain 32 = .ok (.bipush (7), 2) := by decide +kernel
theorem d_Mo_plain_34 : decode b_Mo_plain 34 = .ok (.iand, 1) := by decide +kernel
theorem d_Mo_plain_35 : decode b_Mo_plain 35 = .ok (.iaload, 1) := by decide +kernel
theorem d_Mo_plain_36 : decode b_Mo_plain 36 = .ok (.istore_n 3, 1) := by decide +kernel
theorem d_Mo_plain_37 : decode b_Mo_plain 37 = .ok (.aload_n 0, 1) := by decide +kernel
theorem d_Mo_plain_38 : decode b_Mo_plain 38 = .ok (.getfield 13, 3) := by decide +kernel
theorem d_Mo_plain_41 : decode b_Mo_plain 41 = .ok (.iload_n 1, 1) := by decide +kernel
theorem d_Mo_plain_42 : decode b_Mo_plain 42 = .ok (.bipush (6), 2) := by decide +kernel
theorem d_Mo_plain_44 : decode b_Mo_plain 44 = .ok (.ishr, 1) := by decide +kernel
theorem d_Mo_plain_45 : decode b_Mo_plain 45 = .ok (.bipush (7), 2) := by decide +kernel
theorem d_Mo_plain_47 : decode b_Mo_plain 47 = .ok (.iand, 1) := by decide +kernel
theorem d_Mo_plain_48 : decode b_Mo_plain 48 = .ok (.iaload, 1) := by decide +kernel
theorem d_Mo_plain_49 : decode b_Mo_plain 49 = .ok (.istore 4, 2) := by decide +kernel
theorem d_Mo_plain_51 : decode b_Mo_plain 51 = .ok (.aload_n 0, 1) := by decide +kernel
theorem d_Mo_plain_52 : decode b_Mo_plain 52 = .ok (.getfield 13, 3) := by decide +kernel
theorem d_Mo_plain_55 : decode b_Mo_plain 55 = .ok (.iload_n 1, 1) := by decide +kernel
theorem d_Mo_plain_56 : decode b_Mo_plain 56 = .ok (.bipush (7), 2) := by decide +kernel
theorem d_Mo_plain_58 : decode b_Mo_plain 58 = .ok (.iand, 1) := by decide +kernel
theorem d_Mo_plain_59 : decode b_Mo_plain 59 = .ok (.iload_n 1, 1) := by decide +kernel
theorem d_Mo_plain_60 : decode b_Mo_plain 60 = .ok (.bipush (9), 2) := by decide +kernel
theorem d_Mo_plain_62 : decode b_Mo_plain 62 = .ok (.ishr, 1) := by decide +kernel
theorem d_Mo_plain_63 : decode b_Mo_plain 63 = .ok (.iconst 1, 1) := by decide +kernel
theorem d_Mo_plain_64 : decode b_Mo_plain 64 = .ok (.iand, 1) := by decide +kernel
theorem d_Mo_plain_65 : decode b_Mo_plain 65 = .ok (.ifCond .ne (14), 3) := by decide +kernel
theorem d_Mo_plain_68 : decode b_Mo_plain 68 = .ok (.aload_n 0, 1) := by decide +kernel
theorem d_Mo_plain_69 : decode b_Mo_plain 69 = .ok (.iload_n 3, 1) := by decide +kernel
theorem d_Mo_plain_70 : decode b_Mo_plain 70 = .ok (.iload 4, 2) := by decide +kernel
theorem d_Mo_plain_72 : decode b_Mo_plain 72 = .ok (.iconst 0, 1) := by decide +kernel
theorem d_Mo_plain_73 : decode b_Mo_plain 73 = .ok (.invokevirtual 128, 3) := by decide +kernel
theorem d_Mo_plain_76 : decode b_Mo_plain 76 = .ok (.goto (13), 3) := by decide +kernel
theorem d_Mo_plain_79 : decode b_Mo_plain 79 = .ok (.aload_n 0, 1) := by decide +kernel
theorem d_Mo_plain_80 : decode b_Mo_plain 80 = .ok (.iload_n 3, 1) := by decide +kernel
theorem d_Mo_plain_81 : decode b_Mo_plain 81 = .ok (.iload 4, 2) := by decide +kernel
theorem d_Mo_plain_83 : decode b_Mo_plain 83 = .ok (.iconst (-1), 1) := by decide +kernel
theorem d_Mo_plain_84 : decode b_Mo_plain 84 = .ok (.ixor, 1) := by decide +kernel
theorem d_Mo_plain_85 : decode b_Mo_plain 85 = .ok (.iconst 1, 1) := by decide +kernel
theorem d_Mo_plain_86 : decode b_Mo_plain 86 = .ok (.invokevirtual 128, 3) := by decide +kernel
theorem d_Mo_plain_89 : decode b_Mo_plain 89 = .ok (.iastore, 1) := by decide +kernel
theorem d_Mo_plain_90 : decode b_Mo_plain 90 = .ok (.iconst 0, 1) := by decide +kernel
theorem d_Mo_plain_91 : decode b_Mo_plain 91 = .ok (.ireturn, 1) := by decide +kernel
theorem d_Mo_plain_92 : decode b_Mo_plain 92 = .ok (.iload_n 2, 1) := by decide +kernel
theorem d_Mo_plain_93 : decode b_Mo_plain 93 = .ok (.iconst 3, 1) := by decide +kernel
theorem d_Mo_plain_94 : decode b_Mo_plain 94 = .ok (.if_icmp .le (15), 3) := by decide +kernel
theorem d_Mo_plain_97 : decode b_Mo_plain 97 = .ok (.iload_n 2, 1) := by decide +kernel
theorem d_Mo_plain_98 : decode b_Mo_plain 98 = .ok (.bipush (8), 2) := by decide +kernel
theorem d_Mo_plain_100 : decode b_Mo_plain 100 = .ok (.if_icmp .ge (9), 3) := by decide +kernel
theorem d_Mo_plain_103 : decode b_Mo_plain 103 = .ok (.aload_n 0, 1) := by decide +kernel
theorem d_Mo_plain_104 : decode b_Mo_plain 104 = .ok (.iload_n 1, 1) := by decide +kernel
theorem d_Mo_plain_105 : decode b_Mo_plain 105 = .ok (.invokevirtual 171, 3) := by decide +kernel
theorem d_Mo_plain_108 : decode b_Mo_plain 108 = .ok (.ireturn, 1) := by decide +kernel
theorem d_Mo_plain_109 : decode b_Mo_plain 109 = .ok (.iload_n 1, 1) := by decide +kernel
theorem d_Mo_plain_110 : decode b_Mo_plain 110 = .ok (.bipush (10), 2) := by decide +kernel
theorem d_Mo_plain_112 : decode b_Mo_plain 112 = .ok (.ishr, 1) := by decide +kernel
theorem d_Mo_plain_113 : decode b_Mo_plain 113 = .ok (.bipush (16), 2) := by decide +kernel
theorem d_Mo_plain_115 : decode b_Mo_plain 115 = .ok (.if_icmp .ne (9), 3) := by decide +kernel
theorem d_Mo_plain_118 : decode b_Mo_plain 118 = .ok (.aload_n 0, 1) := by decide +kernel
theorem d_Mo_plain_119 : decode b_Mo_plain 119 = .ok (.iload_n 1, 1) := by decide +kernel
theorem d_Mo_plain_120 : decode b_Mo_plain 120 = .ok (.invokevirtual 174, 3) := by decide +kernel
theorem d_Mo_plain_123 : decode b_Mo_plain 123 = .ok (.ireturn, 1) := by decide +kernel
theorem d_Mo_plain_124 : decode b_Mo_plain 124 = .ok (.iload_n 1, 1) := by decide +kernel
theorem d_Mo_plain_125 : decode b_Mo_plain 125 = .ok (.bipush (8), 2) := by decide +kernel
theorem d_Mo_plain_127 : decode b_Mo_plain 127 = .ok (.ishr, 1) := by decide +kernel
theorem d_Mo_plain_128 : decode b_Mo_plain 128 = .ok (.bipush (70), 2) := by decide +kernel
theorem d_Mo_plain_130 : decode b_Mo_plain 130 = .ok (.if_icmp .ne (9), 3) := by decide +kernel
theorem d_Mo_plain_133 : decode b_Mo_plain 133 = .ok (.aload_n 0, 1) := by decide +kernel
theorem d_Mo_plain_134 : decode b_Mo_plain 134 = .ok (.iload_n 1, 1) := by decide +kernel
theorem d_Mo_plain_135 : decode b_Mo_plain 135 = .ok (.invokevirtual 177, 3) := by decide +kernel
theorem d_Mo_plain_138 : decode b_Mo_plain 138 = .ok (.ireturn, 1) := by decide +kernel
theorem d_Mo_plain_139 : decode b_Mo_plain 139 = .ok (.iload_n 2, 1) := by decide +kernel
theorem d_Mo_plain_140 : decode b_Mo_plain 140 = .ok (.bipush (12), 2) := by decide +kernel
theorem d_Mo_plain_142 : decode b_Mo_plain 142 = .ok (.if_icmp .eq (9), 3) := by decide +kernel
theorem d_Mo_plain_145 : decode b_Mo_plain 145 = .ok (.iload_n 2, 1) := by decide +kernel
theorem d_Mo_plain_146 : decode b_Mo_plain 146 = .ok (.bipush (13), 2) := by decide +kernel
theorem d_Mo_plain_148 : decode b_Mo_plain 148 = .ok (.if_icmp .ne (44), 3) := by decide +kernel
theorem d_Mo_plain_151 : decode b_Mo_plain 151 = .ok (.aload_n 0, 1) := by decide +kernel
theorem d_Mo_plain_152 : decode b_Mo_plain 152 = .ok (.iload_n 1, 1) := by decide +kernel
theorem d_Mo_plain_153 : decode b_Mo_plain 153 = .ok (.bipush (7), 2) := by decide +kernel
theorem d_Mo_plain_155 : decode b_Mo_plain 155 = .ok (.iand, 1) := by decide +kernel
theorem d_Mo_plain_156 : decode b_Mo_plain 156 = .ok (.aload_n 0, 1) := by decide +kernel
theorem d_Mo_plain_157 : decode b_Mo_plain 157 = .ok (.getfield 13, 3) := by decide +kernel
theorem d_Mo_plain_160 : decode b_Mo_plain 160 = .ok (.iload_n 1, 1) := by decide +kernel
theorem d_Mo_plain_161 : decode b_Mo_plain 161 = .ok (.iconst 3, 1) := by decide +kernel
theorem d_Mo_plain_162 : decode b_Mo_plain 162 = .ok (.ishr, 1) := by decide +kernel
theorem d_Mo_plain_163 : decode b_Mo_plain 163 = .ok (.bipush (7), 2) := by decide +kernel
theorem d_Mo_plain_165 : decode b_Mo_plain 165 = .ok (.iand, 1) := by decide +kernel
theorem d_Mo_plain_166 : decode b_Mo_plain 166 = .ok (.iaload, 1) := by decide +kernel
theorem d_Mo_plain_167 : decode b_Mo_plain 167 = .ok (.iconst 4, 1) := by decide +kernel
theorem d_Mo_plain_168 : decode b_Mo_plain 168 = .ok (.iload_n 1, 1) := by decide +kernel
theorem d_Mo_plain_169 : decode b_Mo_plain 169 = .ok (.bipush (6), 2) := by decide +kernel
theorem d_Mo_plain_171 : decode b_Mo_plain 171 = .ok (.ishr, 1) := by decide +kernel
theorem d_Mo_plain_172 : decode b_Mo_plain 172 = .ok (.bipush (31), 2) := by decide +kernel
theorem d_Mo_plain_174 : decode b_Mo_plain 174 = .ok (.iand, 1) := by decide +kernel
theorem d_Mo_plain_175 : decode b_Mo_plain 175 = .ok (.imul, 1) := by decide +kernel
theorem d_Mo_plain_176 : decode b_Mo_plain 176 = .ok (.iadd, 1) := by decide +kernel
theorem d_Mo_plain_177 : decode b_Mo_plain 177 = .ok (.iload_n 2, 1) := by decide +kernel
theorem d_Mo_plain_178 : decode b_Mo_plain 178 = .ok (.bipush (13), 2) := by decide +kernel
theorem d_Mo_plain_180 : decode b_Mo_plain 180 = .ok (.if_icmp .ne (7), 3) := by decide +kernel
theorem d_Mo_plain_183 : decode b_Mo_plain 183 = .ok (.iconst 1, 1) := by decide +kernel
theorem d_Mo_plain_184 : decode b_Mo_plain 184 = .ok (.goto (4), 3) := by decide +kernel
theorem d_Mo_plain_187 : decode b_Mo_plain 187 = .ok (.iconst 0, 1) := by decide +kernel
theorem d_Mo_plain_188 : decode b_Mo_plain 188 = .ok (.invokevirtual 180, 3) := by decide +kernel
theorem d_Mo_plain_191 : decode b_Mo_plain 191 = .ok (.ireturn, 1) := by decide +kernel
theorem d_Mo_plain_192 : decode b_Mo_plain 192 = .ok (.iload_n 2, 1) := by decide +kernel
theorem d_Mo_plain_193 : decode b_Mo_plain 193 = .ok (.bipush (18), 2) := by decide +kernel
theorem d_Mo_plain_195 : decode b_Mo_plain 195 = .ok (.if_icmp .eq (9), 3) := by decide +kernel
theorem d_Mo_plain_198 : decode b_Mo_plain 198 = .ok (.iload_n 2, 1) := by decide +kernel
theorem d_Mo_plain_199 : decode b_Mo_plain 199 = .ok (.bipush (19), 2) := by decide +kernel
theorem d_Mo_plain_201 : decode b_Mo_plain 201 = .ok (.if_icmp .ne (41), 3) := by decide +kernel
theorem d_Mo_plain_204 : decode b_Mo_plain 204 = .ok (.aload_n 0, 1) := by decide +kernel
theorem d_Mo_plain_205 : decode b_Mo_plain 205 = .ok (.iload_n 1, 1) := by decide +kernel
theorem d_Mo_plain_206 : decode b_Mo_plain 206 = .ok (.bipush (8), 2) := by decide +kernel
theorem d_Mo_plain_208 : decode b_Mo_plain 208 = .ok (.ishr, 1) := by decide +kernel
theorem d_Mo_plain_209 : decode b_Mo_plain 209 = .ok (.bipush (7), 2) := by decide +kernel
theorem d_Mo_plain_211 : decode b_Mo_plain 211 = .ok (.iand, 1) := by decide +kernel
theorem d_Mo_plain_212 : decode b_Mo_plain 212 = .ok (.aload_n 0, 1) := by decide +kernel
theorem d_Mo_plain_213 : decode b_Mo_plain 213 = .ok (.getfield 13, 3) := by decide +kernel
theorem d_Mo_plain_216 : decode b_Mo_plain 216 = .ok (.bipush (13), 2) := by decide +kernel
theorem d_Mo_plain_218 : decode b_Mo_plain 218 = .ok (.iaload, 1) := by decide +kernel
theorem d_Mo_plain_219 : decode b_Mo_plain 219 = .ok (.iconst 4, 1) := by decide +kernel
theorem d_Mo_plain_220 : decode b_Mo_plain 220 = .ok (.iload_n 1, 1) := by decide +kernel
theorem d_Mo_plain_221 : decode b_Mo_plain 221 = .ok (.sipush (255), 3) := by decide +kernel
theorem d_Mo_plain_224 : decode b_Mo_plain 224 = .ok (.iand, 1) := by decide +kernel
theorem d_Mo_plain_225 : decode b_Mo_plain 225 = .ok (.imul, 1) := by decide +kernel
theorem d_Mo_plain_226 : decode b_Mo_plain 226 = .ok (.iadd, 1) := by decide +kernel
theorem d_Mo_plain_227 : decode b_Mo_plain 227 = .ok (.iload_n 2, 1) := by decide +kernel
theorem d_Mo_plain_228 : decode b_Mo_plain 228 = .ok (.bipush (19), 2) := by decide +kernel
theorem d_Mo_plain_230 : decode b_Mo_plain 230 = .ok (.if_icmp .ne (7), 3) := by decide +kernel
theorem d_Mo_plain_233 : decode b_Mo_plain 233 = .ok (.iconst 1, 1) := by decide +kernel
theorem d_Mo_plain_234 : decode b_Mo_plain 234 = .ok (.goto (4), 3) := by decide +kernel
theorem d_Mo_plain_237 : decode b_Mo_plain 237 = .ok (.iconst 0, 1) := by decide +kernel
theorem d_Mo_plain_238 : decode b_Mo_plain 238 = .ok (.invokevirtual 180, 3) := by decide +kernel
theorem d_Mo_plain_241 : decode b_Mo_plain 241 = .ok (.ireturn, 1) := by decide +kernel
theorem d_Mo_plain_242 : decode b_Mo_plain 242 = .ok (.iload_n 1, 1) := by decide +kernel
theorem d_Mo_plain_243 : decode b_Mo_plain 243 = .ok (.bipush (12), 2) := by decide +kernel
theorem d_Mo_plain_245 : decode b_Mo_plain 245 = .ok (.ishr, 1) := by decide +kernel
theorem d_Mo_plain_246 : decode b_Mo_plain 246 = .ok (.bipush (11), 2) := by decide +kernel
theorem d_Mo_plain_248 : decode b_Mo_plain 248 = .ok (.if_icmp .ne (11), 3) := by decide +kernel
theorem d_Mo_plain_251 : decode b_Mo_plain 251 = .ok (.aload_n 0, 1) := by decide +kernel
theorem d_Mo_plain_252 : decode b_Mo_plain 252 = .ok (.iload_n 1, 1) := by decide +kernel
theorem d_Mo_plain_253 : decode b_Mo_plain 253 = .ok (.invokevirtual 184, 3) := by decide +kernel
theorem d_Mo_plain_256 : decode b_Mo_plain 256 = .ok (.goto (5), 3) := by decide +kernel
theorem d_Mo_plain_259 : decode b_Mo_plain 259 = .ok (.bipush (6), 2) := by decide +kernel
theorem d_Mo_plain_261 : decode b_Mo_plain 261 = .ok (.ireturn, 1) := by decide +kernel
theorem d_Mo_does_0 : decode b_Mo_does 0 = .ok (.iload_n 1, 1) := by decide +kernel
theorem d_Mo_does_1 : decode b_Mo_does 1 = .ok (.ldc 187, 2) := by decide +kernel
theorem d_Mo_does_3 : decode b_Mo_does 3 = .ok (.iand, 1) := by decide +kernel
theorem d_Mo_does_4 : decode b_Mo_does 4 = .ok (.sipush (18176), 3) := by decide +kernel
theorem d_Mo_does_7 : decode b_Mo_does 7 = .ok (.if_icmp .ne (9), 3) := by decide +kernel
theorem d_Mo_does_10 : decode b_Mo_does 10 = .ok (.aload_n 0, 1) := by decide +kernel
theorem d_Mo_does_11 : decode b_Mo_does 11 = .ok (.iload_n 1, 1) := by decide +kernel
theorem d_Mo_does_12 : decode b_Mo_does 12 = .ok (.invokevirtual 188, 3) := by decide +kernel
theorem d_Mo_does_15 : decode b_Mo_does 15 = .ok (.ireturn, 1) := by decide +kernel
theorem d_Mo_does_16 : decode b_Mo_does 16 = .ok (.iload_n 1, 1) := by decide +kernel
theorem d_Mo_does_17 : decode b_Mo_does 17 = .ok (.bipush (9), 2) := by decide +kernel
theorem d_Mo_does_19 : decode b_Mo_does 19 = .ok (.ishr, 1) := by decide +kernel
theorem d_Mo_does_20 : decode b_Mo_does 20 = .ok (.bipush (94), 2) := by decide +kernel
theorem d_Mo_does_22 : decode b_Mo_does 22 = .ok (.if_icmp .ne (38), 3) := by decide +kernel
theorem d_Mo_does_25 : decode b_Mo_does 25 = .ok (.aload_n 0, 1) := by decide +kernel
theorem d_Mo_does_26 : decode b_Mo_does 26 = .ok (.iload_n 1, 1) := by decide +kernel
theorem d_Mo_does_27 : decode b_Mo_does 27 = .ok (.sipush (511), 3) := by decide +kernel
theorem d_Mo_does_30 : decode b_Mo_does 30 = .ok (.iand, 1) := by decide +kernel
theorem d_Mo_does_31 : decode b_Mo_does 31 = .ok (.invokevirtual 191, 3) := by decide +kernel
theorem d_Mo_does_34 : decode b_Mo_does 34 = .ok (.istore_n 2, 1) := by decide +kernel
theorem d_Mo_does_35 : decode b_Mo_does 35 = .ok (.iload_n 2, 1) := by decide +kernel
theorem d_Mo_does_36 : decode b_Mo_does 36 = .ok (.ifCond .ne (22), 3) := by decide +kernel
theorem d_Mo_does_39 : decode b_Mo_does 39 = .ok (.iload_n 1, 1) := by decide +kernel
theorem d_Mo_does_40 : decode b_Mo_does 40 = .ok (.sipush (256), 3) := by decide +kernel
theorem d_Mo_does_43 : decode b_Mo_does 43 = .ok (.iand, 1) := by decide +kernel
theorem d_Mo_does_44 : decode b_Mo_does 44 = .ok (.ifCond .ne (14), 3) := by decide +kernel
theorem d_Mo_does_47 : decode b_Mo_does 47 = .ok (.aload_n 0, 1) := by decide +kernel
theorem d_Mo_does_48 : decode b_Mo_does 48 = .ok (.getfield 13, 3) := by decide +kernel
theorem d_Mo_does_51 : decode b_Mo_does 51 = .ok (.bipush (15), 2) := by decide +kernel
theorem d_Mo_does_53 : decode b_Mo_does 53 = .ok (.dup2, 1) := by decide +kernel
theorem d_Mo_does_54 : decode b_Mo_does 54 = .ok (.iaload, 1) := by decide +kernel
theorem d_Mo_does_55 : decode b_Mo_does 55 = .ok (.iconst 2, 1) := by decide +kernel
theorem d_Mo_does_56 : decode b_Mo_does 56 = .ok (.iadd, 1) := by decide +kernel
theorem d_Mo_does_57 : decode b_Mo_does 57 = .ok (.iastore, 1) := by decide +kernel
theorem d_Mo_does_58 : decode b_Mo_does 58 = .ok (.iload_n 2, 1) := by decide +kernel
theorem d_Mo_does_59 : decode b_Mo_does 59 = .ok (.ireturn, 1) := by decide +kernel
theorem d_Mo_does_60 : decode b_Mo_does 60 = .ok (.iload_n 1, 1) := by decide +kernel
theorem d_Mo_does_61 : decode b_Mo_does 61 = .ok (.bipush (12), 2) := by decide +kernel
theorem d_Mo_does_63 : decode b_Mo_does 63 = .ok (.ishr, 1) := by decide +kernel
theorem d_Mo_does_64 : decode b_Mo_does 64 = .ok (.bipush (13), 2) := by decide +kernel
theorem d_Mo_does_66 : decode b_Mo_does 66 = .ok (.if_icmp .ne (9), 3) := by decide +kernel
theorem d_Mo_does_69 : decode b_Mo_does 69 = .ok (.aload_n 0, 1) := by decide +kernel
theorem d_Mo_does_70 : decode b_Mo_does 70 = .ok (.iload_n 1, 1) := by decide +kernel
theorem d_Mo_does_71 : decode b_Mo_does 71 = .ok (.invokevirtual 194, 3) := by decide +kernel
theorem d_Mo_does_74 : decode b_Mo_does 74 = .ok (.ireturn, 1) := by decide +kernel
theorem d_Mo_does_75 : decode b_Mo_does 75 = .ok (.iload_n 1, 1) := by decide +kernel
theorem d_Mo_does_76 : decode b_Mo_does 76 = .ok (.bipush (11), 2) := by decide +kernel
theorem d_Mo_does_78 : decode b_Mo_does 78 = .ok (.ishr, 1) := by decide +kernel
theorem d_Mo_does_79 : decode b_Mo_does 79 = .ok (.bipush (28), 2) := by decide +kernel
theorem d_Mo_does_81 : decode b_Mo_does 81 = .ok (.if_icmp .ne (41), 3) := by decide +kernel
theorem d_Mo_does_84 : decode b_Mo_does 84 = .ok (.iload_n 1, 1) := by decide +kernel
theorem d_Mo_does_85 : decode b_Mo_does 85 = .ok (.sipush (2047), 3) := by decide +kernel
theorem d_Mo_does_88 : decode b_Mo_does 88 = .ok (.iand, 1) := by decide +kernel
theorem d_Mo_does_89 : decode b_Mo_does 89 = .ok (.istore_n 2, 1) := by decide +kernel
theorem d_Mo_does_90 : decode b_Mo_does 90 = .ok (.aload_n 0, 1) := by decide +kernel
theorem d_Mo_does_91 : decode b_Mo_does 91 = .ok (.getfield 13, 3) := by decide +kernel
theorem d_Mo_does_94 : decode b_Mo_does 94 = .ok (.bipush (15), 2) := by decide +kernel
theorem d_Mo_does_96 : decode b_Mo_does 96 = .ok (.dup2, 1) := by decide +kernel
theorem d_Mo_does_97 : decode b_Mo_does 97 = .ok (.iaload, 1) := by decide +kernel
theorem d_Mo_does_98 : decode b_Mo_does 98 = .ok (.iconst 4, 1) := by decide +kernel
theorem d_Mo_does_99 : decode b_Mo_does 99 = .ok (.iconst 2, 1) := by decide +kernel
theorem d_Mo_does_100 : decode b_Mo_does 100 = .ok (.iload_n 2, 1) := by decide +kernel
theorem d_Mo_does_101 : decode b_Mo_does 101 = .ok (.sipush (1023), 3) := by decide +kernel
theorem d_Mo_does_104 : decode b_Mo_does 104 = .ok (.if_icmp .le (11), 3) := by decide +kernel
theorem d_Mo_does_107 : decode b_Mo_does 107 = .ok (.iload_n 2, 1) := by decide +kernel
theorem d_Mo_does_108 : decode b_Mo_does 108 = .ok (.sipush (2048), 3) := by decide +kernel
theorem d_Mo_does_111 : decode b_Mo_does 111 = .ok (.isub, 1) := by decide +kernel
theorem d_Mo_does_112 : decode b_Mo_does 112 = .ok (.goto (4), 3) := by decide +kernel
theorem d_Mo_does_115 : decode b_Mo_does 115 = .ok (.iload_n 2, 1) := by decide +kernel
theorem d_Mo_does_116 : decode b_Mo_does 116 = .ok (.imul, 1) := by decide +kernel
theorem d_Mo_does_117 : decode b_Mo_does 117 = .ok (.iadd, 1) := by decide +kernel
theorem d_Mo_does_118 : decode b_Mo_does 118 = .ok (.iadd, 1) := by decide +kernel
theorem d_Mo_does_119 : decode b_Mo_does 119 = .ok (.iastore, 1) := by decide +kernel
theorem d_Mo_does_120 : decode b_Mo_does 120 = .ok (.iconst 0, 1) := by decide +kernel
theorem d_Mo_does_121 : decode b_Mo_does 121 = .ok (.ireturn, 1) := by decide +kernel
theorem d_Mo_does_122 : decode b_Mo_does 122 = .ok (.aload_n 0, 1) := by decide +kernel
theorem d_Mo_does_123 : decode b_Mo_does 123 = .ok (.iload_n 1, 1) := by decide +kernel
theorem d_Mo_does_124 : decode b_Mo_does 124 = .ok (.invokevirtual 197, 3) := by decide +kernel
theorem d_Mo_does_127 : decode b_Mo_does 127 = .ok (.istore_n 2, 1) := by decide +kernel
theorem d_Mo_does_128 : decode b_Mo_does 128 = .ok (.iload_n 2, 1) := by decide +kernel
theorem d_Mo_does_129 : decode b_Mo_does 129 = .ok (.ifCond .ne (14), 3) := by decide +kernel
theorem d_Mo_does_132 : decode b_Mo_does 132 = .ok (.aload_n 0, 1) := by decide +kernel
theorem d_Mo_does_133 : decode b_Mo_does 133 = .ok (.getfield 13, 3) := by decide +kernel
theorem d_Mo_does_136 : decode b_Mo_does 136 = .ok (.bipush (15), 2) := by decide +kernel
theorem d_Mo_does_138 : decode b_Mo_does 138 = .ok (.dup2, 1) := by decide +kernel
theorem d_Mo_does_139 : decode b_Mo_does 139 = .ok (.iaload, 1) := by decide +kernel
theorem d_Mo_does_140 : decode b_Mo_does 140 = .ok (.iconst 2, 1) := by decide +kernel
theorem d_Mo_does_141 : decode b_Mo_does 141 = .ok (.iadd, 1) := by decide +kernel
theorem d_Mo_does_142 : decode b_Mo_does 142 = .ok (.iastore, 1) := by decide +kernel
theorem d_Mo_does_143 : decode b_Mo_does 143 = .ok (.iload_n 2, 1) := by decide +kernel
theorem d_Mo_does_144 : decode b_Mo_does 144 = .ok (.ireturn, 1) := by decide +kernel
theorem d_Mo_fetched_0 : decode b_Mo_fetched 0 = .ok (.aload_n 0, 1) := by decide +kernel
theorem d_Mo_fetched_1 : decode b_Mo_fetched 1 = .ok (.getfield 13, 3) := by decide +kernel
theorem d_Mo_fetched_4 : decode b_Mo_fetched 4 = .ok (.bipush (15), 2) := by decide +kernel
theorem d_Mo_fetched_6 : decode b_Mo_fetched 6 = .ok (.iaload, 1) := by decide +kernel
theorem d_Mo_fetched_7 : decode b_Mo_fetched 7 = .ok (.istore_n 1, 1) := by decide +kernel
theorem d_Mo_fetched_8 : decode b_Mo_fetched 8 = .ok (.iload_n 1, 1) := by decide +kernel
theorem d_Mo_fetched_9 : decode b_Mo_fetched 9 = .ok (.ifCond .lt (10), 3) := by decide +kernel
theorem d_Mo_fetched_12 : decode b_Mo_fetched 12 = .ok (.iload_n 1, 1) := by decide +kernel
theorem d_Mo_fetched_13 : decode b_Mo_fetched 13 = .ok (.sipush (1022), 3) := by decide +kernel
theorem d_Mo_fetched_16 : decode b_Mo_fetched 16 = .ok (.if_icmp .le (5), 3) := by decide +kernel
theorem d_Mo_fetched_19 : decode b_Mo_fetched 19 = .ok (.iconst 5, 1) := by decide +kernel
theorem d_Mo_fetched_20 : decode b_Mo_fetched 20 = .ok (.ireturn, 1) := by decide +kernel
theorem d_Mo_fetched_21 : decode b_Mo_fetched 21 = .ok (.aload_n 0, 1) := by decide +kernel
theorem d_Mo_fetched_22 : decode b_Mo_fetched 22 = .ok (.iload_n 1, 1) := by decide +kernel
theorem d_Mo_fetched_23 : decode b_Mo_fetched 23 = .ok (.iconst 3, 1) := by decide +kernel
theorem d_Mo_fetched_24 : decode b_Mo_fetched 24 = .ok (.invokevirtual 49, 3) := by decide +kernel
theorem d_Mo_fetched_27 : decode b_Mo_fetched 27 = .ok (.ifCond .eq (5), 3) := by decide +kernel
theorem d_Mo_fetched_30 : decode b_Mo_fetched 30 = .ok (.iconst 4, 1) := by decide +kernel
theorem d_Mo_fetched_31 : decode b_Mo_fetched 31 = .ok (.ireturn, 1) := by decide +kernel
theorem d_Mo_fetched_32 : decode b_Mo_fetched 32 = .ok (.aload_n 0, 1) := by decide +kernel
theorem d_Mo_fetched_33 : decode b_Mo_fetched 33 = .ok (.aload_n 0, 1) := by decide +kernel
theorem d_Mo_fetched_34 : decode b_Mo_fetched 34 = .ok (.getfield 7, 3) := by decide +kernel
theorem d_Mo_fetched_37 : decode b_Mo_fetched 37 = .ok (.iload_n 1, 1) := by decide +kernel
theorem d_Mo_fetched_38 : decode b_Mo_fetched 38 = .ok (.iaload, 1) := by decide +kernel
theorem d_Mo_fetched_39 : decode b_Mo_fetched 39 = .ok (.aload_n 0, 1) := by decide +kernel
theorem d_Mo_fetched_40 : decode b_Mo_fetched 40 = .ok (.getfield 7, 3) := by decide +kernel
theorem d_Mo_fetched_43 : decode b_Mo_fetched 43 = .ok (.iload_n 1, 1) := by decide +kernel
theorem d_Mo_fetched_44 : decode b_Mo_fetched 44 = .ok (.iconst 1, 1) := by decide +kernel
theorem d_Mo_fetched_45 : decode b_Mo_fetched 45 = .ok (.iadd, 1) := by decide +kernel
theorem d_Mo_fetched_46 : decode b_Mo_fetched 46 = .ok (.iaload, 1) := by decide +kernel
theorem d_Mo_fetched_47 : decode b_Mo_fetched 47 = .ok (.bipush (8), 2) := by decide +kernel
theorem d_Mo_fetched_49 : decode b_Mo_fetched 49 = .ok (.ishl, 1) := by decide +kernel
theorem d_Mo_fetched_50 : decode b_Mo_fetched 50 = .ok (.ior, 1) := by decide +kernel
theorem d_Mo_fetched_51 : decode b_Mo_fetched 51 = .ok (.invokevirtual 200, 3) := by decide +kernel
theorem d_Mo_fetched_54 : decode b_Mo_fetched 54 = .ok (.ireturn, 1) := by decide +kernel
theorem d_Mo_step_0 : decode b_Mo_step 0 = .ok (.aload_n 0, 1) := by decide +kernel
theorem d_Mo_step_1 : decode b_Mo_step 1 = .ok (.getfield 203, 3) := by decide +kernel
theorem d_Mo_step_4 : decode b_Mo_step 4 = .ok (.ifCond .eq (36), 3) := by decide +kernel
theorem d_Mo_step_7 : decode b_Mo_step 7 = .ok (.aload_n 0, 1) := by decide +kernel
theorem d_Mo_step_8 : decode b_Mo_step 8 = .ok (.dup, 1) := by decide +kernel
theorem d_Mo_step_9 : decode b_Mo_step 9 = .ok (.getfield 206, 3) := by decide +kernel
theorem d_Mo_step_12 : decode b_Mo_step 12 = .ok (.iconst 1, 1) := by decide +kernel
theorem d_Mo_step_13 : decode b_Mo_step 13 = .ok (.isub, 1) := by decide +kernel
theorem d_Mo_step_14 : decode b_Mo_step 14 = .ok (.putfield 206, 3) := by decide +kernel
theorem d_Mo_step_17 : decode b_Mo_step 17 = .ok (.aload_n 0, 1) := by decide +kernel
theorem d_Mo_step_18 : decode b_Mo_step 18 = .ok (.getfield 206, 3) := by decide +kernel
theorem d_Mo_step_21 : decode b_Mo_step 21 = .ok (.ifCond .ne (19), 3) := by decide +kernel
theorem d_Mo_step_24 : decode b_Mo_step 24 = .ok (.aload_n 0, 1) := by decide +kernel
theorem d_Mo_step_25 : decode b_Mo_step 25 = .ok (.aload_n 0, 1) := by decide +kernel
theorem d_Mo_step_26 : decode b_Mo_step 26 = .ok (.getfield 203, 3) := by decide +kernel
theorem d_Mo_step_29 : decode b_Mo_step 29 = .ok (.putfield 206, 3) := by decide +kernel
theorem d_Mo_step_32 : decode b_Mo_step 32 = .ok (.aload_n 0, 1) := by decide +kernel
theorem d_Mo_step_33 : decode b_Mo_step 33 = .ok (.getfield 23, 3) := by decide +kernel
theorem d_Mo_step_36 : decode b_Mo_step 36 = .ok (.bipush (9), 2) := by decide +kernel
theorem d_Mo_step_38 : decode b_Mo_step 38 = .ok (.iconst 1, 1) := by decide +kernel
theorem d_Mo_step_39 : decode b_Mo_step 39 = .ok (.bastore, 1) := by decide +kernel
theorem d_Mo_step_40 : decode b_Mo_step 40 = .ok (.aload_n 0, 1) := by decide +kernel
theorem d_Mo_step_41 : decode b_Mo_step 41 = .ok (.invokevirtual 135, 3) := by decide +kernel
theorem d_Mo_step_44 : decode b_Mo_step 44 = .ok (.istore_n 1, 1) := by decide +kernel
theorem d_Mo_step_45 : decode b_Mo_step 45 = .ok (.iload_n 1, 1) := by decide +kernel
theorem d_Mo_step_46 : decode b_Mo_step 46 = .ok (.ifCond .le (9), 3) := by decide +kernel
theorem d_Mo_step_49 : decode b_Mo_step 49 = .ok (.aload_n 0, 1) := by decide +kernel
theorem d_Mo_step_50 : decode b_Mo_step 50 = .ok (.iload_n 1, 1) := by decide +kernel
theorem d_Mo_step_51 : decode b_Mo_step 51 = .ok (.invokevirtual 209, 3) := by decide +kernel
theorem d_Mo_step_54 : decode b_Mo_step 54 = .ok (.return_, 1) := by decide +kernel
theorem d_Mo_step_55 : decode b_Mo_step 55 = .ok (.aload_n 0, 1) := by decide +kernel
theorem d_Mo_step_56 : decode b_Mo_step 56 = .ok (.invokevirtual 212, 3) := by decide +kernel
theorem d_Mo_step_59 : decode b_Mo_step 59 = .ok (.istore_n 2, 1) := by decide +kernel
theorem d_Mo_step_60 : decode b_Mo_step 60 = .ok (.iload_n 2, 1) := by decide +kernel
theorem d_Mo_step_61 : decode b_Mo_step 61 = .ok (.ifCond .le (8), 3) := by decide +kernel
theorem d_Mo_step_64 : decode b_Mo_step 64 = .ok (.aload_n 0, 1) := by decide +kernel
theorem d_Mo_step_65 : decode b_Mo_step 65 = .ok (.iload_n 2, 1) := by decide +kernel
theorem d_Mo_step_66 : decode b_Mo_step 66 = .ok (.invokevirtual 215, 3) := by decide +kernel
theorem d_Mo_step_69 : decode b_Mo_step 69 = .ok (.return_, 1) := by decide +kernel
theorem d_Mo_set_0 : decode b_Mo_set 0 = .ok (.aload_n 0, 1) := by decide +kernel
theorem d_Mo_set_1 : decode b_Mo_set 1 = .ok (.iload_n 1, 1) := by decide +kernel
theorem d_Mo_set_2 : decode b_Mo_set 2 = .ok (.invokestatic 45, 3) := by decide +kernel
theorem d_Mo_set_5 : decode b_Mo_set 5 = .ok (.ifCond .ne (7), 3) := by decide +kernel
theorem d_Mo_set_8 : decode b_Mo_set 8 = .ok (.iconst 1, 1) := by decide +kernel
theorem d_Mo_set_9 : decode b_Mo_set 9 = .ok (.goto (4), 3) := by decide +kernel
theorem d_Mo_set_12 : decode b_Mo_set 12 = .ok (.iconst 0, 1) := by decide +kernel
theorem d_Mo_set_13 : decode b_Mo_set 13 = .ok (.invokevirtual 218, 3) := by decide +kernel
theorem d_Mo_set_16 : decode b_Mo_set 16 = .ok (.ifCond .ne (9), 3) := by decide +kernel
theorem d_Mo_set_19 : decode b_Mo_set 19 = .ok (.aload_n 0, 1) := by decide +kernel
theorem d_Mo_set_20 : decode b_Mo_set 20 = .ok (.iload_n 1, 1) := by decide +kernel
theorem d_Mo_set_21 : decode b_Mo_set 21 = .ok (.iload_n 2, 1) := by decide +kernel
theorem d_Mo_set_22 : decode b_Mo_set 22 = .ok (.invokevirtual 102, 3) := by decide +kernel
theorem d_Mo_set_25 : decode b_Mo_set 25 = .ok (.return_, 1) := by decide +kernel
theorem d_Mo_word_0 : decode b_Mo_word 0 = .ok (.aload_n 0, 1) := by decide +kernel
theorem d_Mo_word_1 : decode b_Mo_word 1 = .ok (.iload_n 1, 1) := by decide +kernel
theorem d_Mo_word_2 : decode b_Mo_word 2 = .ok (.invokestatic 45, 3) := by decide +kernel
theorem d_Mo_word_5 : decode b_Mo_word 5 = .ok (.ifCond .ne (7), 3) := by decide +kernel
theorem d_Mo_word_8 : decode b_Mo_word 8 = .ok (.iconst 1, 1) := by decide +kernel
theorem d_Mo_word_9 : decode b_Mo_word 9 = .ok (.goto (4), 3) := by decide +kernel
theorem d_Mo_word_12 : decode b_Mo_word 12 = .ok (.iconst 0, 1) := by decide +kernel
theorem d_Mo_word_13 : decode b_Mo_word 13 = .ok (.invokevirtual 218, 3) := by decide +kernel
theorem d_Mo_word_16 : decode b_Mo_word 16 = .ok (.ifCond .eq (7), 3) := by decide +kernel
theorem d_Mo_word_19 : decode b_Mo_word 19 = .ok (.iconst 0, 1) := by decide +kernel
theorem d_Mo_word_20 : decode b_Mo_word 20 = .ok (.goto (8), 3) := by decide +kernel
theorem d_Mo_word_23 : decode b_Mo_word 23 = .ok (.aload_n 0, 1) := by decide +kernel
theorem d_Mo_word_24 : decode b_Mo_word 24 = .ok (.iload_n 1, 1) := by decide +kernel
theorem d_Mo_word_25 : decode b_Mo_word 25 = .ok (.invokevirtual 77, 3) := by decide +kernel
theorem d_Mo_word_28 : decode b_Mo_word 28 = .ok (.ireturn, 1) := by decide +kernel
theorem d_Mo_put_0 : decode b_Mo_put 0 = .ok (.aload_n 0, 1) := by decide +kernel
theorem d_Mo_put_1 : decode b_Mo_put 1 = .ok (.iload_n 1, 1) := by decide +kernel
theorem d_Mo_put_2 : decode b_Mo_put 2 = .ok (.ifCond .lt (9), 3) := by decide +kernel
theorem d_Mo_put_5 : decode b_Mo_put 5 = .ok (.iload_n 1, 1) := by decide +kernel
theorem d_Mo_put_6 : decode b_Mo_put 6 = .ok (.bipush (20), 2) := by decide +kernel
theorem d_Mo_put_8 : decode b_Mo_put 8 = .ok (.if_icmp .le (7), 3) := by decide +kernel
theorem d_Mo_put_11 : decode b_Mo_put 11 = .ok (.iconst 1, 1) := by decide +kernel
theorem d_Mo_put_12 : decode b_Mo_put 12 = .ok (.goto (4), 3) := by decide +kernel
theorem d_Mo_put_15 : decode b_Mo_put 15 = .ok (.iconst 0, 1) := by decide +kernel
theorem d_Mo_put_16 : decode b_Mo_put 16 = .ok (.invokevirtual 218, 3) := by decide +kernel
theorem d_Mo_put_19 : decode b_Mo_put 19 = .ok (.ifCond .eq (4), 3) := by decide +kernel
theorem d_Mo_put_22 : decode b_Mo_put 22 = .ok (.return_, 1) := by decide +kernel
theorem d_Mo_put_23 : decode b_Mo_put 23 = .ok (.iload_n 1, 1) := by decide +kernel
theorem d_Mo_put_24 : decode b_Mo_put 24 = .ok (.bipush (16), 2) := by decide +kernel
theorem d_Mo_put_26 : decode b_Mo_put 26 = .ok (.if_icmp .ge (23), 3) := by decide +kernel
theorem d_Mo_put_29 : decode b_Mo_put 29 = .ok (.aload_n 0, 1) := by decide +kernel
theorem d_Mo_put_30 : decode b_Mo_put 30 = .ok (.getfield 13, 3) := by decide +kernel
theorem d_Mo_put_33 : decode b_Mo_put 33 = .ok (.iload_n 1, 1) := by decide +kernel
theorem d_Mo_put_34 : decode b_Mo_put 34 = .ok (.iload_n 1, 1) := by decide +kernel
theorem d_Mo_put_35 : decode b_Mo_put 35 = .ok (.bipush (15), 2) := by decide +kernel
theorem d_Mo_put_37 : decode b_Mo_put 37 = .ok (.if_icmp .ne (10), 3) := by decide +kernel
theorem d_Mo_put_40 : decode b_Mo_put 40 = .ok (.iload_n 2, 1) := by decide +kernel
theorem d_Mo_put_41 : decode b_Mo_put 41 = .ok (.bipush (-2), 2) := by decide +kernel
theorem d_Mo_put_43 : decode b_Mo_put 43 = .ok (.iand, 1) := by decide +kernel
theorem d_Mo_put_44 : decode b_Mo_put 44 = .ok (.goto (4), 3) := by decide +kernel
theorem d_Mo_put_47 : decode b_Mo_put 47 = .ok (.iload_n 2, 1) := by decide +kernel
theorem d_Mo_put_48 : decode b_Mo_put 48 = .ok (.iastore, 1) := by decide +kernel
theorem d_Mo_put_49 : decode b_Mo_put 49 = .ok (.iload_n 1, 1) := by decide +kernel
theorem d_Mo_put_50 : decode b_Mo_put 50 = .ok (.bipush (16), 2) := by decide +kernel
theorem d_Mo_put_52 : decode b_Mo_put 52 = .ok (.if_icmp .ne (16), 3) := by decide +kernel
theorem d_Mo_put_55 : decode b_Mo_put 55 = .ok (.aload_n 0, 1) := by decide +kernel
theorem d_Mo_put_56 : decode b_Mo_put 56 = .ok (.iload_n 2, 1) := by decide +kernel
theorem d_Mo_put_57 : decode b_Mo_put 57 = .ok (.ifCond .eq (7), 3) := by decide +kernel
theorem d_Mo_put_60 : decode b_Mo_put 60 = .ok (.iconst 1, 1) := by decide +kernel
theorem d_Mo_put_61 : decode b_Mo_put 61 = .ok (.goto (4), 3) := by decide +kernel
theorem d_Mo_put_64 : decode b_Mo_put 64 = .ok (.iconst 0, 1) := by decide +kernel
theorem d_Mo_put_65 : decode b_Mo_put 65 = .ok (.putfield 63, 3) := by decide +kernel
theorem d_Mo_put_68 : decode b_Mo_put 68 = .ok (.iload_n 1, 1) := by decide +kernel
theorem d_Mo_put_69 : decode b_Mo_put 69 = .ok (.bipush (17), 2) := by decide +kernel
theorem d_Mo_put_71 : decode b_Mo_put 71 = .ok (.if_icmp .ne (16), 3) := by decide +kernel
theorem d_Mo_put_74 : decode b_Mo_put 74 = .ok (.aload_n 0, 1) := by decide +kernel
theorem d_Mo_put_75 : decode b_Mo_put 75 = .ok (.iload_n 2, 1) := by decide +kernel
theorem d_Mo_put_76 : decode b_Mo_put 76 = .ok (.ifCond .eq (7), 3) := by decide +kernel
theorem d_Mo_put_79 : decode b_Mo_put 79 = .ok (.iconst 1, 1) := by decide +kernel
theorem d_Mo_put_80 : decode b_Mo_put 80 = .ok (.goto (4), 3) := by decide +kernel
theorem d_Mo_put_83 : decode b_Mo_put 83 = .ok (.iconst 0, 1) := by decide +kernel
theorem d_Mo_put_84 : decode b_Mo_put 84 = .ok (.putfield 67, 3) := by decide +kernel
theorem d_Mo_put_87 : decode b_Mo_put 87 = .ok (.iload_n 1, 1) := by decide +kernel
theorem d_Mo_put_88 : decode b_Mo_put 88 = .ok (.bipush (18), 2) := by decide +kernel
theorem d_Mo_put_90 : decode b_Mo_put 90 = .ok (.if_icmp .ne (11), 3) := by decide +kernel
theorem d_Mo_put_93 : decode b_Mo_put 93 = .ok (.aload_n 0, 1) := by decide +kernel
theorem d_Mo_put_94 : decode b_Mo_put 94 = .ok (.iload_n 2, 1) := by decide +kernel
theorem d_Mo_put_95 : decode b_Mo_put 95 = .ok (.bipush (7), 2) := by decide +kernel
theorem d_Mo_put_97 : decode b_Mo_put 97 = .ok (.iand, 1) := by decide +kernel
theorem d_Mo_put_98 : decode b_Mo_put 98 = .ok (.putfield 60, 3) := by decide +kernel
theorem d_Mo_put_101 : decode b_Mo_put 101 = .ok (.iload_n 1, 1) := by decide +kernel
theorem d_Mo_put_102 : decode b_Mo_put 102 = .ok (.bipush (19), 2) := by decide +kernel
theorem d_Mo_put_104 : decode b_Mo_put 104 = .ok (.if_icmp .ne (10), 3) := by decide +kernel
theorem d_Mo_put_107 : decode b_Mo_put 107 = .ok (.aload_n 0, 1) := by decide +kernel
theorem d_Mo_put_108 : decode b_Mo_put 108 = .ok (.iload_n 2, 1) := by decide +kernel
theorem d_Mo_put_109 : decode b_Mo_put 109 = .ok (.iconst 3, 1) := by decide +kernel
theorem d_Mo_put_110 : decode b_Mo_put 110 = .ok (.iand, 1) := by decide +kernel
theorem d_Mo_put_111 : decode b_Mo_put 111 = .ok (.putfield 53, 3) := by decide +kernel
theorem d_Mo_put_114 : decode b_Mo_put 114 = .ok (.iload_n 1, 1) := by decide +kernel
theorem d_Mo_put_115 : decode b_Mo_put 115 = .ok (.bipush (20), 2) := by decide +kernel
theorem d_Mo_put_117 : decode b_Mo_put 117 = .ok (.if_icmp .ne (20), 3) := by decide +kernel
theorem d_Mo_put_120 : decode b_Mo_put 120 = .ok (.aload_n 0, 1) := by decide +kernel
theorem d_Mo_put_121 : decode b_Mo_put 121 = .ok (.iload_n 2, 1) := by decide +kernel
theorem d_Mo_put_122 : decode b_Mo_put 122 = .ok (.sipush (255), 3) := by decide +kernel
theorem d_Mo_put_125 : decode b_Mo_put 125 = .ok (.iand, 1) := by decide +kernel
theorem d_Mo_put_126 : decode b_Mo_put 126 = .ok (.putfield 203, 3) := by decide +kernel
theorem d_Mo_put_129 : decode b_Mo_put 129 = .ok (.aload_n 0, 1) := by decide +kernel
theorem d_Mo_put_130 : decode b_Mo_put 130 = .ok (.aload_n 0, 1) := by decide +kernel
theorem d_Mo_put_131 : decode b_Mo_put 131 = .ok (.getfield 203, 3) := by decide +kernel
theorem d_Mo_put_134 : decode b_Mo_put 134 = .ok (.putfield 206, 3) := by decide +kernel
theorem d_Mo_put_137 : decode b_Mo_put 137 = .ok (.return_, 1) := by decide +kernel
theorem d_Mo_register_0 : decode b_Mo_register 0 = .ok (.aload_n 0, 1) := by decide +kernel
theorem d_Mo_register_1 : decode b_Mo_register 1 = .ok (.iload_n 1, 1) := by decide +kernel
theorem d_Mo_register_2 : decode b_Mo_register 2 = .ok (.ifCond .lt (9), 3) := by decide +kernel
theorem d_Mo_register_5 : decode b_Mo_register 5 = .ok (.iload_n 1, 1) := by decide +kernel
theorem d_Mo_register_6 : decode b_Mo_register 6 = .ok (.bipush (20), 2) := by decide +kernel
theorem d_Mo_register_8 : decode b_Mo_register 8 = .ok (.if_icmp .le (7), 3) := by decide +kernel
theorem d_Mo_register_11 : decode b_Mo_register 11 = .ok (.iconst 1, 1) := by decide +kernel
theorem d_Mo_register_12 : decode b_Mo_register 12 = .ok (.goto (4), 3) := by decide +kernel
theorem d_Mo_register_15 : decode b_Mo_register 15 = .ok (.iconst 0, 1) := by decide +kernel
theorem d_Mo_register_16 : decode b_Mo_register 16 = .ok (.invokevirtual 218, 3) := by decide +kernel
theorem d_Mo_register_19 : decode b_Mo_register 19 = .ok (.ifCond .eq (5), 3) := by decide +kernel
theorem d_Mo_register_22 : decode b_Mo_register 22 = .ok (.iconst 0, 1) := by decide +kernel
theorem d_Mo_register_23 : decode b_Mo_register 23 = .ok (.ireturn, 1) := by decide +kernel
theorem d_Mo_register_24 : decode b_Mo_register 24 = .ok (.iload_n 1, 1) := by decide +kernel
theorem d_Mo_register_25 : decode b_Mo_register 25 = .ok (.bipush (16), 2) := by decide +kernel
theorem d_Mo_register_27 : decode b_Mo_register 27 = .ok (.if_icmp .ge (10), 3) := by decide +kernel
theorem d_Mo_register_30 : decode b_Mo_register 30 = .ok (.aload_n 0, 1) := by decide +kernel
theorem d_Mo_register_31 : decode b_Mo_register 31 = .ok (.getfield 13, 3) := by decide +kernel
theorem d_Mo_register_34 : decode b_Mo_register 34 = .ok (.iload_n 1, 1) := by decide +kernel
theorem d_Mo_register_35 : decode b_Mo_register 35 = .ok (.iaload, 1) := by decide +kernel
theorem d_Mo_register_36 : decode b_Mo_register 36 = .ok (.ireturn, 1) := by decide +kernel
theorem d_Mo_register_37 : decode b_Mo_register 37 = .ok (.iload_n 1, 1) := by decide +kernel
theorem d_Mo_register_38 : decode b_Mo_register 38 = .ok (.bipush (18), 2) := by decide +kernel
theorem d_Mo_register_40 : decode b_Mo_register 40 = .ok (.if_icmp .ge (32), 3) := by decide +kernel
theorem d_Mo_register_43 : decode b_Mo_register 43 = .ok (.iload_n 1, 1) := by decide +kernel
theorem d_Mo_register_44 : decode b_Mo_register 44 = .ok (.bipush (16), 2) := by decide +kernel
theorem d_Mo_register_46 : decode b_Mo_register 46 = .ok (.if_icmp .ne (13), 3) := by decide +kernel
theorem d_Mo_register_49 : decode b_Mo_register 49 = .ok (.aload_n 0, 1) := by decide +kernel
theorem d_Mo_register_50 : decode b_Mo_register 50 = .ok (.getfield 63, 3) := by decide +kernel
theorem d_Mo_register_53 : decode b_Mo_register 53 = .ok (.ifCond .eq (17), 3) := by decide +kernel
theorem d_Mo_register_56 : decode b_Mo_register 56 = .ok (.goto (10), 3) := by decide +kernel
theorem d_Mo_register_59 : decode b_Mo_register 59 = .ok (.aload_n 0, 1) := by decide +kernel
theorem d_Mo_register_60 : decode b_Mo_register 60 = .ok (.getfield 67, 3) := by decide +kernel
theorem d_Mo_register_63 : decode b_Mo_register 63 = .ok (.ifCond .eq (7), 3) := by decide +kernel
theorem d_Mo_register_66 : decode b_Mo_register 66 = .ok (.iconst 1, 1) := by decide +kernel
theorem d_Mo_register_67 : decode b_Mo_register 67 = .ok (.goto (4), 3) := by decide +kernel
theorem d_Mo_register_70 : decode b_Mo_register 70 = .ok (.iconst 0, 1) := by decide +kernel
theorem d_Mo_register_71 : decode b_Mo_register 71 = .ok (.ireturn, 1) := by decide +kernel
theorem d_Mo_register_72 : decode b_Mo_register 72 = .ok (.iload_n 1, 1) := by decide +kernel
theorem d_Mo_register_73 : decode b_Mo_register 73 = .ok (.bipush (18), 2) := by decide +kernel
theorem d_Mo_register_75 : decode b_Mo_register 75 = .ok (.if_icmp .ne (10), 3) := by decide +kernel
theorem d_Mo_register_78 : decode b_Mo_register 78 = .ok (.aload_n 0, 1) := by decide +kernel
theorem d_Mo_register_79 : decode b_Mo_register 79 = .ok (.getfield 60, 3) := by decide +kernel
theorem d_Mo_register_82 : decode b_Mo_register 82 = .ok (.goto (20), 3) := by decide +kernel
theorem d_Mo_register_85 : decode b_Mo_register 85 = .ok (.iload_n 1, 1) := by decide +kernel
theorem d_Mo_register_86 : decode b_Mo_register 86 = .ok (.bipush (19), 2) := by decide +kernel
theorem d_Mo_register_88 : decode b_Mo_register 88 = .ok (.if_icmp .ne (10), 3) := by decide +kernel
theorem d_Mo_register_91 : decode b_Mo_register 91 = .ok (.aload_n 0, 1) := by decide +kernel
theorem d_Mo_register_92 : decode b_Mo_register 92 = .ok (.getfield 53, 3) := by decide +kernel
theorem d_Mo_register_95 : decode b_Mo_register 95 = .ok (.goto (7), 3) := by decide +kernel
theorem d_Mo_register_98 : decode b_Mo_register 98 = .ok (.aload_n 0, 1) := by decide +kernel
theorem d_Mo_register_99 : decode b_Mo_register 99 = .ok (.getfield 203, 3) := by decide +kernel
theorem d_Mo_register_102 : decode b_Mo_register 102 = .ok (.ireturn, 1) := by decide +kernel
theorem d_Mo_rank_0 : decode b_Mo_rank 0 = .ok (.aload_n 0, 1) := by decide +kernel
theorem d_Mo_rank_1 : decode b_Mo_rank 1 = .ok (.iload_n 1, 1) := by decide +kernel
theorem d_Mo_rank_2 : decode b_Mo_rank 2 = .ok (.iconst 4, 1) := by decide +kernel
theorem d_Mo_rank_3 : decode b_Mo_rank 3 = .ok (.if_icmp .lt (19), 3) := by decide +kernel
theorem d_Mo_rank_6 : decode b_Mo_rank 6 = .ok (.iload_n 1, 1) := by decide +kernel
theorem d_Mo_rank_7 : decode b_Mo_rank 7 = .ok (.bipush (15), 2) := by decide +kernel
theorem d_Mo_rank_9 : decode b_Mo_rank 9 = .ok (.if_icmp .gt (13), 3) := by decide +kernel
theorem d_Mo_rank_12 : decode b_Mo_rank 12 = .ok (.iload_n 2, 1) := by decide +kernel
theorem d_Mo_rank_13 : decode b_Mo_rank 13 = .ok (.ifCond .lt (9), 3) := by decide +kernel
theorem d_Mo_rank_16 : decode b_Mo_rank 16 = .ok (.iload_n 2, 1) := by decide +kernel
theorem d_Mo_rank_17 : decode b_Mo_rank 17 = .ok (.bipush (7), 2) := by decide +kernel
theorem d_Mo_rank_19 : decode b_Mo_rank 19 = .ok (.if_icmp .le (7), 3) := by decide +kernel
theorem d_Mo_rank_22 : decode b_Mo_rank 22 = .ok (.iconst 1, 1) := by decide +kernel
theorem d_Mo_rank_23 : decode b_Mo_rank 23 = .ok (.goto (4), 3) := by decide +kernel
theorem d_Mo_rank_26 : decode b_Mo_rank 26 = .ok (.iconst 0, 1) := by decide +kernel
theorem d_Mo_rank_27 : decode b_Mo_rank 27 = .ok (.invokevirtual 218, 3) := by decide +kernel
theorem d_Mo_rank_30 : decode b_Mo_rank 30 = .ok (.ifCond .eq (4), 3) := by decide +kernel
theorem d_Mo_rank_33 : decode b_Mo_rank 33 = .ok (.return_, 1) := by decide +kernel
theorem d_Mo_rank_34 : decode b_Mo_rank 34 = .ok (.aload_n 0, 1) := by decide +kernel
theorem d_Mo_rank_35 : decode b_Mo_rank 35 = .ok (.getfield 16, 3) := by decide +kernel
theorem d_Mo_rank_38 : decode b_Mo_rank 38 = .ok (.iload_n 1, 1) := by decide +kernel
theorem d_Mo_rank_39 : decode b_Mo_rank 39 = .ok (.iload_n 2, 1) := by decide +kernel
theorem d_Mo_rank_40 : decode b_Mo_rank 40 = .ok (.iastore, 1) := by decide +kernel
theorem d_Mo_rank_41 : decode b_Mo_rank 41 = .ok (.aload_n 0, 1) := by decide +kernel
theorem d_Mo_rank_42 : decode b_Mo_rank 42 = .ok (.getfield 19, 3) := by decide +kernel
theorem d_Mo_rank_45 : decode b_Mo_rank 45 = .ok (.iload_n 1, 1) := by decide +kernel
theorem d_Mo_rank_46 : decode b_Mo_rank 46 = .ok (.iload_n 3, 1) := by decide +kernel
theorem d_Mo_rank_47 : decode b_Mo_rank 47 = .ok (.ifCond .ne (15), 3) := by decide +kernel
theorem d_Mo_rank_50 : decode b_Mo_rank 50 = .ok (.iload_n 1, 1) := by decide +kernel
theorem d_Mo_rank_51 : decode b_Mo_rank 51 = .ok (.bipush (7), 2) := by decide +kernel
theorem d_Mo_rank_53 : decode b_Mo_rank 53 = .ok (.if_icmp .lt (13), 3) := by decide +kernel
theorem d_Mo_rank_56 : decode b_Mo_rank 56 = .ok (.iload_n 1, 1) := by decide +kernel
theorem d_Mo_rank_57 : decode b_Mo_rank 57 = .ok (.bipush (9), 2) := by decide +kernel
theorem d_Mo_rank_59 : decode b_Mo_rank 59 = .ok (.if_icmp .gt (7), 3) := by decide +kernel
theorem d_Mo_rank_62 : decode b_Mo_rank 62 = .ok (.iconst 1, 1) := by decide +kernel
theorem d_Mo_rank_63 : decode b_Mo_rank 63 = .ok (.goto (4), 3) := by decide +kernel
theorem d_Mo_rank_66 : decode b_Mo_rank 66 = .ok (.iconst 0, 1) := by decide +kernel
theorem d_Mo_rank_67 : decode b_Mo_rank 67 = .ok (.bastore, 1) := by decide +kernel
theorem d_Mo_rank_68 : decode b_Mo_rank 68 = .ok (.return_, 1) := by decide +kernel
theorem d_Mo_pend_0 : decode b_Mo_pend 0 = .ok (.aload_n 0, 1) := by decide +kernel
theorem d_Mo_pend_1 : decode b_Mo_pend 1 = .ok (.iload_n 1, 1) := by decide +kernel
theorem d_Mo_pend_2 : decode b_Mo_pend 2 = .ok (.iconst 2, 1) := by decide +kernel
theorem d_Mo_pend_3 : decode b_Mo_pend 3 = .ok (.if_icmp .lt (9), 3) := by decide +kernel
theorem d_Mo_pend_6 : decode b_Mo_pend 6 = .ok (.iload_n 1, 1) := by decide +kernel
theorem d_Mo_pend_7 : decode b_Mo_pend 7 = .ok (.bipush (15), 2) := by decide +kernel
theorem d_Mo_pend_9 : decode b_Mo_pend 9 = .ok (.if_icmp .le (7), 3) := by decide +kernel
theorem d_Mo_pend_12 : decode b_Mo_pend 12 = .ok (.iconst 1, 1) := by decide +kernel
theorem d_Mo_pend_13 : decode b_Mo_pend 13 = .ok (.goto (4), 3) := by decide +kernel
theorem d_Mo_pend_16 : decode b_Mo_pend 16 = .ok (.iconst 0, 1) := by decide +kernel
theorem d_Mo_pend_17 : decode b_Mo_pend 17 = .ok (.invokevirtual 218, 3) := by decide +kernel
theorem d_Mo_pend_20 : decode b_Mo_pend 20 = .ok (.ifCond .ne (10), 3) := by decide +kernel
theorem d_Mo_pend_23 : decode b_Mo_pend 23 = .ok (.aload_n 0, 1) := by decide +kernel
theorem d_Mo_pend_24 : decode b_Mo_pend 24 = .ok (.getfield 23, 3) := by decide +kernel
theorem d_Mo_pend_27 : decode b_Mo_pend 27 = .ok (.iload_n 1, 1) := by decide +kernel
theorem d_Mo_pend_28 : decode b_Mo_pend 28 = .ok (.iload_n 2, 1) := by decide +kernel
theorem d_Mo_pend_29 : decode b_Mo_pend 29 = .ok (.bastore, 1) := by decide +kernel
theorem d_Mo_pend_30 : decode b_Mo_pend 30 = .ok (.return_, 1) := by decide +kernel
theorem d_Mo_area_0 : decode b_Mo_area 0 = .ok (.iload_n 1, 1) := by decide +kernel
theorem d_Mo_area_1 : decode b_Mo_area 1 = .ok (.ifCond .lt (47), 3) := by decide +kernel
theorem d_Mo_area_4 : decode b_Mo_area 4 = .ok (.iload_n 1, 1) := by decide +kernel
theorem d_Mo_area_5 : decode b_Mo_area 5 = .ok (.iconst 4, 1) := by decide +kernel
theorem d_Mo_area_6 : decode b_Mo_area 6 = .ok (.if_icmp .ge (42), 3) := by decide +kernel
theorem d_Mo_area_9 : decode b_Mo_area 9 = .ok (.iload 4, 2) := by decide +kernel
theorem d_Mo_area_11 : decode b_Mo_area 11 = .ok (.ifCond .lt (37), 3) := by decide +kernel
theorem d_Mo_area_14 : decode b_Mo_area 14 = .ok (.iload 4, 2) := by decide +kernel
theorem d_Mo_area_16 : decode b_Mo_area 16 = .ok (.iconst 3, 1) := by decide +kernel
theorem d_Mo_area_17 : decode b_Mo_area 17 = .ok (.if_icmp .ge (31), 3) := by decide +kernel
theorem d_Mo_area_20 : decode b_Mo_area 20 = .ok (.iload_n 2, 1) := by decide +kernel
theorem d_Mo_area_21 : decode b_Mo_area 21 = .ok (.ifCond .lt (27), 3) := by decide +kernel
theorem d_Mo_area_24 : decode b_Mo_area 24 = .ok (.iload_n 2, 1) := by decide +kernel
theorem d_Mo_area_25 : decode b_Mo_area 25 = .ok (.sipush (1024), 3) := by decide +kernel
theorem d_Mo_area_28 : decode b_Mo_area 28 = .ok (.if_icmp .gt (20), 3) := by decide +kernel
theorem d_Mo_area_31 : decode b_Mo_area 31 = .ok (.iload_n 3, 1) := by decide +kernel
theorem d_Mo_area_32 : decode b_Mo_area 32 = .ok (.ifCond .lt (16), 3) := by decide +kernel
theorem d_Mo_area_35 : decode b_Mo_area 35 = .ok (.iload_n 3, 1) := by decide +kernel
theorem d_Mo_area_36 : decode b_Mo_area 36 = .ok (.sipush (1024), 3) := by decide +kernel
theorem d_Mo_area_39 : decode b_Mo_area 39 = .ok (.iload_n 2, 1) := by decide +kernel
theorem d_Mo_area_40 : decode b_Mo_area 40 = .ok (.isub, 1) := by decide +kernel
theorem d_Mo_area_41 : decode b_Mo_area 41 = .ok (.if_icmp .gt (7), 3) := by decide +kernel
theorem d_Mo_area_44 : decode b_Mo_area 44 = .ok (.iconst 1, 1) := by decide +kernel
theorem d_Mo_area_45 : decode b_Mo_area 45 = .ok (.goto (4), 3) := by decide +kernel
theorem d_Mo_area_48 : decode b_Mo_area 48 = .ok (.iconst 0, 1) := by decide +kernel
theorem d_Mo_area_49 : decode b_Mo_area 49 = .ok (.istore 6, 2) := by decide +kernel
theorem d_Mo_area_51 : decode b_Mo_area 51 = .ok (.aload_n 0, 1) := by decide +kernel
theorem d_Mo_area_52 : decode b_Mo_area 52 = .ok (.iload 6, 2) := by decide +kernel
theorem d_Mo_area_54 : decode b_Mo_area 54 = .ok (.ifCond .ne (7), 3) := by decide +kernel
theorem d_Mo_area_57 : decode b_Mo_area 57 = .ok (.iconst 1, 1) := by decide +kernel
theorem d_Mo_area_58 : decode b_Mo_area 58 = .ok (.goto (4), 3) := by decide +kernel
theorem d_Mo_area_61 : decode b_Mo_area 61 = .ok (.iconst 0, 1) := by decide +kernel
theorem d_Mo_area_62 : decode b_Mo_area 62 = .ok (.invokevirtual 218, 3) := by decide +kernel
theorem d_Mo_area_65 : decode b_Mo_area 65 = .ok (.ifCond .eq (4), 3) := by decide +kernel
theorem d_Mo_area_68 : decode b_Mo_area 68 = .ok (.return_, 1) := by decide +kernel
theorem d_Mo_area_69 : decode b_Mo_area 69 = .ok (.aload_n 0, 1) := by decide +kernel
theorem d_Mo_area_70 : decode b_Mo_area 70 = .ok (.getfield 29, 3) := by decide +kernel
theorem d_Mo_area_73 : decode b_Mo_area 73 = .ok (.iload_n 1, 1) := by decide +kernel
theorem d_Mo_area_74 : decode b_Mo_area 74 = .ok (.iload_n 2, 1) := by decide +kernel
theorem d_Mo_area_75 : decode b_Mo_area 75 = .ok (.iastore, 1) := by decide +kernel
theorem d_Mo_area_76 : decode b_Mo_area 76 = .ok (.aload_n 0, 1) := by decide +kernel
theorem d_Mo_area_77 : decode b_Mo_area 77 = .ok (.getfield 32, 3) := by decide +kernel
theorem d_Mo_area_80 : decode b_Mo_area 80 = .ok (.iload_n 1, 1) := by decide +kernel
theorem d_Mo_area_81 : decode b_Mo_area 81 = .ok (.iload_n 2, 1) := by decide +kernel
theorem d_Mo_area_82 : decode b_Mo_area 82 = .ok (.iload_n 3, 1) := by decide +kernel
theorem d_Mo_area_83 : decode b_Mo_area 83 = .ok (.iadd, 1) := by decide +kernel
theorem d_Mo_area_84 : decode b_Mo_area 84 = .ok (.iastore, 1) := by decide +kernel
theorem d_Mo_area_85 : decode b_Mo_area 85 = .ok (.aload_n 0, 1) := by decide +kernel
theorem d_Mo_area_86 : decode b_Mo_area 86 = .ok (.getfield 35, 3) := by decide +kernel
theorem d_Mo_area_89 : decode b_Mo_area 89 = .ok (.iload_n 1, 1) := by decide +kernel
theorem d_Mo_area_90 : decode b_Mo_area 90 = .ok (.iload 4, 2) := by decide +kernel
theorem d_Mo_area_92 : decode b_Mo_area 92 = .ok (.iastore, 1) := by decide +kernel
theorem d_Mo_area_93 : decode b_Mo_area 93 = .ok (.aload_n 0, 1) := by decide +kernel
theorem d_Mo_area_94 : decode b_Mo_area 94 = .ok (.getfield 38, 3) := by decide +kernel
theorem d_Mo_area_97 : decode b_Mo_area 97 = .ok (.iload_n 1, 1) := by decide +kernel
theorem d_Mo_area_98 : decode b_Mo_area 98 = .ok (.iload 5, 2) := by decide +kernel
theorem d_Mo_area_100 : decode b_Mo_area 100 = .ok (.bastore, 1) := by decide +kernel
theorem d_Mo_area_101 : decode b_Mo_area 101 = .ok (.return_, 1) := by decide +kernel
theorem d_Mo_run_0 : decode b_Mo_run 0 = .ok (.aload_n 0, 1) := by decide +kernel
theorem d_Mo_run_1 : decode b_Mo_run 1 = .ok (.iload_n 1, 1) := by decide +kernel
theorem d_Mo_run_2 : decode b_Mo_run 2 = .ok (.iconst 1, 1) := by decide +kernel
theorem d_Mo_run_3 : decode b_Mo_run 3 = .ok (.if_icmp .lt (9), 3) := by decide +kernel
theorem d_Mo_run_6 : decode b_Mo_run 6 = .ok (.iload_n 1, 1) := by decide +kernel
theorem d_Mo_run_7 : decode b_Mo_run 7 = .ok (.bipush (25), 2) := by decide +kernel
theorem d_Mo_run_9 : decode b_Mo_run 9 = .ok (.if_icmp .le (7), 3) := by decide +kernel
theorem d_Mo_run_12 : decode b_Mo_run 12 = .ok (.iconst 1, 1) := by decide +kernel
theorem d_Mo_run_13 : decode b_Mo_run 13 = .ok (.goto (4), 3) := by decide +kernel
theorem d_Mo_run_16 : decode b_Mo_run 16 = .ok (.iconst 0, 1) := by decide +kernel
theorem d_Mo_run_17 : decode b_Mo_run 17 = .ok (.invokevirtual 218, 3) := by decide +kernel
theorem d_Mo_run_20 : decode b_Mo_run 20 = .ok (.ifCond .eq (5), 3) := by decide +kernel
theorem d_Mo_run_23 : decode b_Mo_run 23 = .ok (.iconst 0, 1) := by decide +kernel
theorem d_Mo_run_24 : decode b_Mo_run 24 = .ok (.ireturn, 1) := by decide +kernel
theorem d_Mo_run_25 : decode b_Mo_run 25 = .ok (.iconst 0, 1) := by decide +kernel
theorem d_Mo_run_26 : decode b_Mo_run 26 = .ok (.istore_n 2, 1) := by decide +kernel
theorem d_Mo_run_27 : decode b_Mo_run 27 = .ok (.iload_n 2, 1) := by decide +kernel
theorem d_Mo_run_28 : decode b_Mo_run 28 = .ok (.iload_n 1, 1) := by decide +kernel
theorem d_Mo_run_29 : decode b_Mo_run 29 = .ok (.if_icmp .ge (20), 3) := by decide +kernel
theorem d_Mo_run_32 : decode b_Mo_run 32 = .ok (.aload_n 0, 1) := by decide +kernel
theorem d_Mo_run_33 : decode b_Mo_run 33 = .ok (.getfield 99, 3) := by decide +kernel
theorem d_Mo_run_36 : decode b_Mo_run 36 = .ok (.ifCond .ne (13), 3) := by decide +kernel
theorem d_Mo_run_39 : decode b_Mo_run 39 = .ok (.aload_n 0, 1) := by decide +kernel
theorem d_Mo_run_40 : decode b_Mo_run 40 = .ok (.invokevirtual 222, 3) := by decide +kernel
theorem d_Mo_run_43 : decode b_Mo_run 43 = .ok (.iinc 2 (1), 3) := by decide +kernel
theorem d_Mo_run_46 : decode b_Mo_run 46 = .ok (.goto (-19), 3) := by decide +kernel
theorem d_Mo_run_49 : decode b_Mo_run 49 = .ok (.iload_n 2, 1) := by decide +kernel
theorem d_Mo_run_50 : decode b_Mo_run 50 = .ok (.ireturn, 1) := by decide +kernel
theorem d_Mo_state_0 : decode b_Mo_state 0 = .ok (.iload_n 1, 1) := by decide +kernel
theorem d_Mo_state_1 : decode b_Mo_state 1 = .ok (.ifCond .lt (9), 3) := by decide +kernel
theorem d_Mo_state_4 : decode b_Mo_state 4 = .ok (.iload_n 1, 1) := by decide +kernel
theorem d_Mo_state_5 : decode b_Mo_state 5 = .ok (.bipush (9), 2) := by decide +kernel
theorem d_Mo_state_7 : decode b_Mo_state 7 = .ok (.if_icmp .lt (15), 3) := by decide +kernel
theorem d_Mo_state_10 : decode b_Mo_state 10 = .ok (.iload_n 1, 1) := by decide +kernel
theorem d_Mo_state_11 : decode b_Mo_state 11 = .ok (.bipush (18), 2) := by decide +kernel
theorem d_Mo_state_13 : decode b_Mo_state 13 = .ok (.if_icmp .lt (13), 3) := by decide +kernel
theorem d_Mo_state_16 : decode b_Mo_state 16 = .ok (.iload_n 1, 1) := by decide +kernel
theorem d_Mo_state_17 : decode b_Mo_state 17 = .ok (.bipush (32), 2) := by decide +kernel
theorem d_Mo_state_19 : decode b_Mo_state 19 = .ok (.if_icmp .ge (7), 3) := by decide +kernel
theorem d_Mo_state_22 : decode b_Mo_state 22 = .ok (.iconst 1, 1) := by decide +kernel
theorem d_Mo_state_23 : decode b_Mo_state 23 = .ok (.goto (4), 3) := by decide +kernel
theorem d_Mo_state_26 : decode b_Mo_state 26 = .ok (.iconst 0, 1) := by decide +kernel
theorem d_Mo_state_27 : decode b_Mo_state 27 = .ok (.istore_n 2, 1) := by decide +kernel
theorem d_Mo_state_28 : decode b_Mo_state 28 = .ok (.aload_n 0, 1) := by decide +kernel
theorem d_Mo_state_29 : decode b_Mo_state 29 = .ok (.iload_n 2, 1) := by decide +kernel
theorem d_Mo_state_30 : decode b_Mo_state 30 = .ok (.ifCond .ne (7), 3) := by decide +kernel
theorem d_Mo_state_33 : decode b_Mo_state 33 = .ok (.iconst 1, 1) := by decide +kernel
theorem d_Mo_state_34 : decode b_Mo_state 34 = .ok (.goto (4), 3) := by decide +kernel
