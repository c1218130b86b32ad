theorem d_Mo_state_37 : decode b_Mo_state 37 = .ok (.iconst 0, 1) := by decide +kernel
theorem d_Mo_state_38 : decode b_Mo_state 38 = .ok (.invokevirtual 218, 3) := by decide +kernel
theorem d_Mo_state_41 : decode b_Mo_state 41 = .ok (.ifCond .eq (5), 3) := by decide +kernel
theorem d_Mo_state_44 : decode b_Mo_state 44 = .ok (.iconst 0, 1) := by decide +kernel
theorem d_Mo_state_45 : decode b_Mo_state 45 = .ok (.ireturn, 1) := by decide +kernel
theorem d_Mo_state_46 : decode b_Mo_state 46 = .ok (.iload_n 1, 1) := by decide +kernel
theorem d_Mo_state_47 : decode b_Mo_state 47 = .ok (.bipush (17), 2) := by decide +kernel
theorem d_Mo_state_49 : decode b_Mo_state 49 = .ok (.if_icmp .le (53), 3) := by decide +kernel
theorem d_Mo_state_52 : decode b_Mo_state 52 = .ok (.iload_n 1, 1) := by decide +kernel
theorem d_Mo_state_53 : decode b_Mo_state 53 = .ok (.bipush (16), 2) := by decide +kernel
theorem d_Mo_state_55 : decode b_Mo_state 55 = .ok (.isub, 1) := by decide +kernel
theorem d_Mo_state_56 : decode b_Mo_state 56 = .ok (.istore_n 3, 1) := by decide +kernel
theorem d_Mo_state_57 : decode b_Mo_state 57 = .ok (.aload_n 0, 1) := by decide +kernel
theorem d_Mo_state_58 : decode b_Mo_state 58 = .ok (.getfield 23, 3) := by decide +kernel
theorem d_Mo_state_61 : decode b_Mo_state 61 = .ok (.iload_n 3, 1) := by decide +kernel
theorem d_Mo_state_62 : decode b_Mo_state 62 = .ok (.baload, 1) := by decide +kernel
theorem d_Mo_state_63 : decode b_Mo_state 63 = .ok (.ifCond .eq (7), 3) := by decide +kernel
theorem d_Mo_state_66 : decode b_Mo_state 66 = .ok (.iconst 1, 1) := by decide +kernel
theorem d_Mo_state_67 : decode b_Mo_state 67 = .ok (.goto (4), 3) := by decide +kernel
theorem d_Mo_state_70 : decode b_Mo_state 70 = .ok (.iconst 0, 1) := by decide +kernel
theorem d_Mo_state_71 : decode b_Mo_state 71 = .ok (.aload_n 0, 1) := by decide +kernel
theorem d_Mo_state_72 : decode b_Mo_state 72 = .ok (.getfield 26, 3) := by decide +kernel
theorem d_Mo_state_75 : decode b_Mo_state 75 = .ok (.iload_n 3, 1) := by decide +kernel
theorem d_Mo_state_76 : decode b_Mo_state 76 = .ok (.baload, 1) := by decide +kernel
theorem d_Mo_state_77 : decode b_Mo_state 77 = .ok (.ifCond .eq (7), 3) := by decide +kernel
theorem d_Mo_state_80 : decode b_Mo_state 80 = .ok (.iconst 2, 1) := by decide +kernel
theorem d_Mo_state_81 : decode b_Mo_state 81 = .ok (.goto (4), 3) := by decide +kernel
theorem d_Mo_state_84 : decode b_Mo_state 84 = .ok (.iconst 0, 1) := by decide +kernel
theorem d_Mo_state_85 : decode b_Mo_state 85 = .ok (.iadd, 1) := by decide +kernel
theorem d_Mo_state_86 : decode b_Mo_state 86 = .ok (.aload_n 0, 1) := by decide +kernel
theorem d_Mo_state_87 : decode b_Mo_state 87 = .ok (.getfield 19, 3) := by decide +kernel
theorem d_Mo_state_90 : decode b_Mo_state 90 = .ok (.iload_n 3, 1) := by decide +kernel
theorem d_Mo_state_91 : decode b_Mo_state 91 = .ok (.baload, 1) := by decide +kernel
theorem d_Mo_state_92 : decode b_Mo_state 92 = .ok (.ifCond .eq (7), 3) := by decide +kernel
theorem d_Mo_state_95 : decode b_Mo_state 95 = .ok (.iconst 4, 1) := by decide +kernel
theorem d_Mo_state_96 : decode b_Mo_state 96 = .ok (.goto (4), 3) := by decide +kernel
theorem d_Mo_state_99 : decode b_Mo_state 99 = .ok (.iconst 0, 1) := by decide +kernel
theorem d_Mo_state_100 : decode b_Mo_state 100 = .ok (.iadd, 1) := by decide +kernel
theorem d_Mo_state_101 : decode b_Mo_state 101 = .ok (.ireturn, 1) := by decide +kernel
theorem d_Mo_state_102 : decode b_Mo_state 102 = .ok (.iload_n 1, 1) := by decide +kernel
theorem d_Mo_state_103 : decode b_Mo_state 103 = .ok (.ifCond .ne (56), 3) := by decide +kernel
theorem d_Mo_state_106 : decode b_Mo_state 106 = .ok (.aload_n 0, 1) := by decide +kernel
theorem d_Mo_state_107 : decode b_Mo_state 107 = .ok (.getfield 80, 3) := by decide +kernel
theorem d_Mo_state_110 : decode b_Mo_state 110 = .ok (.ifCond .eq (8), 3) := by decide +kernel
theorem d_Mo_state_113 : decode b_Mo_state 113 = .ok (.bipush (8), 2) := by decide +kernel
theorem d_Mo_state_115 : decode b_Mo_state 115 = .ok (.goto (4), 3) := by decide +kernel
theorem d_Mo_state_118 : decode b_Mo_state 118 = .ok (.iconst 0, 1) := by decide +kernel
theorem d_Mo_state_119 : decode b_Mo_state 119 = .ok (.aload_n 0, 1) := by decide +kernel
theorem d_Mo_state_120 : decode b_Mo_state 120 = .ok (.getfield 84, 3) := by decide +kernel
theorem d_Mo_state_123 : decode b_Mo_state 123 = .ok (.ifCond .eq (7), 3) := by decide +kernel
theorem d_Mo_state_126 : decode b_Mo_state 126 = .ok (.iconst 4, 1) := by decide +kernel
theorem d_Mo_state_127 : decode b_Mo_state 127 = .ok (.goto (4), 3) := by decide +kernel
theorem d_Mo_state_130 : decode b_Mo_state 130 = .ok (.iconst 0, 1) := by decide +kernel
theorem d_Mo_state_131 : decode b_Mo_state 131 = .ok (.iadd, 1) := by decide +kernel
theorem d_Mo_state_132 : decode b_Mo_state 132 = .ok (.aload_n 0, 1) := by decide +kernel
theorem d_Mo_state_133 : decode b_Mo_state 133 = .ok (.getfield 88, 3) := by decide +kernel
theorem d_Mo_state_136 : decode b_Mo_state 136 = .ok (.ifCond .eq (7), 3) := by decide +kernel
theorem d_Mo_state_139 : decode b_Mo_state 139 = .ok (.iconst 2, 1) := by decide +kernel
theorem d_Mo_state_140 : decode b_Mo_state 140 = .ok (.goto (4), 3) := by decide +kernel
theorem d_Mo_state_143 : decode b_Mo_state 143 = .ok (.iconst 0, 1) := by decide +kernel
theorem d_Mo_state_144 : decode b_Mo_state 144 = .ok (.iadd, 1) := by decide +kernel
theorem d_Mo_state_145 : decode b_Mo_state 145 = .ok (.aload_n 0, 1) := by decide +kernel
theorem d_Mo_state_146 : decode b_Mo_state 146 = .ok (.getfield 92, 3) := by decide +kernel
theorem d_Mo_state_149 : decode b_Mo_state 149 = .ok (.ifCond .eq (7), 3) := by decide +kernel
theorem d_Mo_state_152 : decode b_Mo_state 152 = .ok (.iconst 1, 1) := by decide +kernel
theorem d_Mo_state_153 : decode b_Mo_state 153 = .ok (.goto (4), 3) := by decide +kernel
theorem d_Mo_state_156 : decode b_Mo_state 156 = .ok (.iconst 0, 1) := by decide +kernel
theorem d_Mo_state_157 : decode b_Mo_state 157 = .ok (.iadd, 1) := by decide +kernel
theorem d_Mo_state_158 : decode b_Mo_state 158 = .ok (.ireturn, 1) := by decide +kernel
theorem d_Mo_state_159 : decode b_Mo_state 159 = .ok (.iload_n 1, 1) := by decide +kernel
theorem d_Mo_state_160 : decode b_Mo_state 160 = .ok (.iconst 1, 1) := by decide +kernel
theorem d_Mo_state_161 : decode b_Mo_state 161 = .ok (.if_icmp .ne (8), 3) := by decide +kernel
theorem d_Mo_state_164 : decode b_Mo_state 164 = .ok (.aload_n 0, 1) := by decide +kernel
theorem d_Mo_state_165 : decode b_Mo_state 165 = .ok (.getfield 74, 3) := by decide +kernel
theorem d_Mo_state_168 : decode b_Mo_state 168 = .ok (.ireturn, 1) := by decide +kernel
theorem d_Mo_state_169 : decode b_Mo_state 169 = .ok (.iload_n 1, 1) := by decide +kernel
theorem d_Mo_state_170 : decode b_Mo_state 170 = .ok (.iconst 2, 1) := by decide +kernel
theorem d_Mo_state_171 : decode b_Mo_state 171 = .ok (.if_icmp .ne (8), 3) := by decide +kernel
theorem d_Mo_state_174 : decode b_Mo_state 174 = .ok (.aload_n 0, 1) := by decide +kernel
theorem d_Mo_state_175 : decode b_Mo_state 175 = .ok (.invokevirtual 70, 3) := by decide +kernel
theorem d_Mo_state_178 : decode b_Mo_state 178 = .ok (.ireturn, 1) := by decide +kernel
theorem d_Mo_state_179 : decode b_Mo_state 179 = .ok (.iload_n 1, 1) := by decide +kernel
theorem d_Mo_state_180 : decode b_Mo_state 180 = .ok (.iconst 3, 1) := by decide +kernel
theorem d_Mo_state_181 : decode b_Mo_state 181 = .ok (.if_icmp .ne (8), 3) := by decide +kernel
theorem d_Mo_state_184 : decode b_Mo_state 184 = .ok (.aload_n 0, 1) := by decide +kernel
theorem d_Mo_state_185 : decode b_Mo_state 185 = .ok (.invokevirtual 135, 3) := by decide +kernel
theorem d_Mo_state_188 : decode b_Mo_state 188 = .ok (.ireturn, 1) := by decide +kernel
theorem d_Mo_state_189 : decode b_Mo_state 189 = .ok (.iload_n 1, 1) := by decide +kernel
theorem d_Mo_state_190 : decode b_Mo_state 190 = .ok (.iconst 4, 1) := by decide +kernel
theorem d_Mo_state_191 : decode b_Mo_state 191 = .ok (.if_icmp .ne (8), 3) := by decide +kernel
theorem d_Mo_state_194 : decode b_Mo_state 194 = .ok (.aload_n 0, 1) := by decide +kernel
theorem d_Mo_state_195 : decode b_Mo_state 195 = .ok (.getfield 114, 3) := by decide +kernel
theorem d_Mo_state_198 : decode b_Mo_state 198 = .ok (.ireturn, 1) := by decide +kernel
theorem d_Mo_state_199 : decode b_Mo_state 199 = .ok (.iload_n 1, 1) := by decide +kernel
theorem d_Mo_state_200 : decode b_Mo_state 200 = .ok (.iconst 5, 1) := by decide +kernel
theorem d_Mo_state_201 : decode b_Mo_state 201 = .ok (.if_icmp .ne (8), 3) := by decide +kernel
theorem d_Mo_state_204 : decode b_Mo_state 204 = .ok (.aload_n 0, 1) := by decide +kernel
theorem d_Mo_state_205 : decode b_Mo_state 205 = .ok (.getfield 141, 3) := by decide +kernel
theorem d_Mo_state_208 : decode b_Mo_state 208 = .ok (.ireturn, 1) := by decide +kernel
theorem d_Mo_state_209 : decode b_Mo_state 209 = .ok (.iload_n 1, 1) := by decide +kernel
theorem d_Mo_state_210 : decode b_Mo_state 210 = .ok (.bipush (6), 2) := by decide +kernel
theorem d_Mo_state_212 : decode b_Mo_state 212 = .ok (.if_icmp .ne (10), 3) := by decide +kernel
theorem d_Mo_state_215 : decode b_Mo_state 215 = .ok (.aload_n 0, 1) := by decide +kernel
theorem d_Mo_state_216 : decode b_Mo_state 216 = .ok (.getfield 99, 3) := by decide +kernel
theorem d_Mo_state_219 : decode b_Mo_state 219 = .ok (.goto (20), 3) := by decide +kernel
theorem d_Mo_state_222 : decode b_Mo_state 222 = .ok (.iload_n 1, 1) := by decide +kernel
theorem d_Mo_state_223 : decode b_Mo_state 223 = .ok (.bipush (7), 2) := by decide +kernel
theorem d_Mo_state_225 : decode b_Mo_state 225 = .ok (.if_icmp .ne (10), 3) := by decide +kernel
theorem d_Mo_state_228 : decode b_Mo_state 228 = .ok (.aload_n 0, 1) := by decide +kernel
theorem d_Mo_state_229 : decode b_Mo_state 229 = .ok (.getfield 120, 3) := by decide +kernel
theorem d_Mo_state_232 : decode b_Mo_state 232 = .ok (.goto (7), 3) := by decide +kernel
theorem d_Mo_state_235 : decode b_Mo_state 235 = .ok (.aload_n 0, 1) := by decide +kernel
theorem d_Mo_state_236 : decode b_Mo_state 236 = .ok (.getfield 206, 3) := by decide +kernel
theorem d_Mo_state_239 : decode b_Mo_state 239 = .ok (.ireturn, 1) := by decide +kernel
