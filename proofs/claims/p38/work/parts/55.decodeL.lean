/-! what the instructions of the law are (printed rows) -/
theorem dL_cell_0 : decode cL_cell 0 = .ok (.iload_n 1, 1) := by decide +kernel
theorem dL_cell_1 : decode cL_cell 1 = .ok (.aload_n 0, 1) := by decide +kernel
theorem dL_cell_2 : decode cL_cell 2 = .ok (.arraylength, 1) := by decide +kernel
theorem dL_cell_3 : decode cL_cell 3 = .ok (.if_icmp .ge 9, 3) := by decide +kernel
theorem dL_cell_6 : decode cL_cell 6 = .ok (.aload_n 0, 1) := by decide +kernel
theorem dL_cell_7 : decode cL_cell 7 = .ok (.iload_n 1, 1) := by decide +kernel
theorem dL_cell_8 : decode cL_cell 8 = .ok (.iaload, 1) := by decide +kernel
theorem dL_cell_9 : decode cL_cell 9 = .ok (.goto 12, 3) := by decide +kernel
theorem dL_cell_12 : decode cL_cell 12 = .ok (.ldc 7, 2) := by decide +kernel
theorem dL_cell_14 : decode cL_cell 14 = .ok (.iload_n 1, 1) := by decide +kernel
theorem dL_cell_15 : decode cL_cell 15 = .ok (.iconst 1, 1) := by decide +kernel
theorem dL_cell_16 : decode cL_cell 16 = .ok (.iadd, 1) := by decide +kernel
theorem dL_cell_17 : decode cL_cell 17 = .ok (.imul, 1) := by decide +kernel
theorem dL_cell_18 : decode cL_cell 18 = .ok (.ldc 8, 2) := by decide +kernel
theorem dL_cell_20 : decode cL_cell 20 = .ok (.iadd, 1) := by decide +kernel
theorem dL_cell_21 : decode cL_cell 21 = .ok (.ireturn, 1) := by decide +kernel
theorem dL_low_0 : decode cL_low 0 = .ok (.iload_n 0, 1) := by decide +kernel
theorem dL_low_1 : decode cL_low 1 = .ok (.ldc 9, 2) := by decide +kernel
theorem dL_low_3 : decode cL_low 3 = .ok (.iand, 1) := by decide +kernel
theorem dL_low_4 : decode cL_low 4 = .ok (.iload_n 1, 1) := by decide +kernel
theorem dL_low_5 : decode cL_low 5 = .ok (.irem, 1) := by decide +kernel
theorem dL_low_6 : decode cL_low 6 = .ok (.ireturn, 1) := by decide +kernel
theorem dL_depth_0 : decode cL_depth 0 = .ok (.iconst 0, 1) := by decide +kernel
theorem dL_depth_1 : decode cL_depth 1 = .ok (.istore_n 2, 1) := by decide +kernel
theorem dL_depth_2 : decode cL_depth 2 = .ok (.iload_n 0, 1) := by decide +kernel
theorem dL_depth_3 : decode cL_depth 3 = .ok (.istore_n 3, 1) := by decide +kernel
theorem dL_depth_4 : decode cL_depth 4 = .ok (.iload_n 3, 1) := by decide +kernel
theorem dL_depth_5 : decode cL_depth 5 = .ok (.ifCond .le 15, 3) := by decide +kernel
theorem dL_depth_8 : decode cL_depth 8 = .ok (.iinc 2 1, 3) := by decide +kernel
theorem dL_depth_11 : decode cL_depth 11 = .ok (.aload_n 1, 1) := by decide +kernel
theorem dL_depth_12 : decode cL_depth 12 = .ok (.iconst 5, 1) := by decide +kernel
theorem dL_depth_13 : decode cL_depth 13 = .ok (.iload_n 3, 1) := by decide +kernel
theorem dL_depth_14 : decode cL_depth 14 = .ok (.imul, 1) := by decide +kernel
theorem dL_depth_15 : decode cL_depth 15 = .ok (.iaload, 1) := by decide +kernel
theorem dL_depth_16 : decode cL_depth 16 = .ok (.istore_n 3, 1) := by decide +kernel
theorem dL_depth_17 : decode cL_depth 17 = .ok (.goto (-13), 3) := by decide +kernel
theorem dL_depth_20 : decode cL_depth 20 = .ok (.iload_n 2, 1) := by decide +kernel
theorem dL_depth_21 : decode cL_depth 21 = .ok (.ireturn, 1) := by decide +kernel
theorem dL_above_0 : decode cL_above 0 = .ok (.iload_n 0, 1) := by decide +kernel
theorem dL_above_1 : decode cL_above 1 = .ok (.istore_n 3, 1) := by decide +kernel
theorem dL_above_2 : decode cL_above 2 = .ok (.iconst 0, 1) := by decide +kernel
theorem dL_above_3 : decode cL_above 3 = .ok (.istore 4, 2) := by decide +kernel
theorem dL_above_5 : decode cL_above 5 = .ok (.iload 4, 2) := by decide +kernel
theorem dL_above_7 : decode cL_above 7 = .ok (.iload_n 1, 1) := by decide +kernel
theorem dL_above_8 : decode cL_above 8 = .ok (.if_icmp .ge 15, 3) := by decide +kernel
theorem dL_above_11 : decode cL_above 11 = .ok (.aload_n 2, 1) := by decide +kernel
theorem dL_above_12 : decode cL_above 12 = .ok (.iconst 5, 1) := by decide +kernel
theorem dL_above_13 : decode cL_above 13 = .ok (.iload_n 3, 1) := by decide +kernel
theorem dL_above_14 : decode cL_above 14 = .ok (.imul, 1) := by decide +kernel
theorem dL_above_15 : decode cL_above 15 = .ok (.iaload, 1) := by decide +kernel
theorem dL_above_16 : decode cL_above 16 = .ok (.istore_n 3, 1) := by decide +kernel
theorem dL_above_17 : decode cL_above 17 = .ok (.iinc 4 1, 3) := by decide +kernel
theorem dL_above_20 : decode cL_above 20 = .ok (.goto (-15), 3) := by decide +kernel
theorem dL_above_23 : decode cL_above 23 = .ok (.iload_n 3, 1) := by decide +kernel
theorem dL_above_24 : decode cL_above 24 = .ok (.ireturn, 1) := by decide +kernel
theorem dL_ask_0 : decode cL_ask 0 = .ok (.iload_n 0, 1) := by decide +kernel
theorem dL_ask_1 : decode cL_ask 1 = .ok (.bipush 6, 2) := by decide +kernel
theorem dL_ask_3 : decode cL_ask 3 = .ok (.idiv, 1) := by decide +kernel
theorem dL_ask_4 : decode cL_ask 4 = .ok (.istore 7, 2) := by decide +kernel
theorem dL_ask_6 : decode cL_ask 6 = .ok (.iconst 0, 1) := by decide +kernel
theorem dL_ask_7 : decode cL_ask 7 = .ok (.istore 8, 2) := by decide +kernel
theorem dL_ask_9 : decode cL_ask 9 = .ok (.iload 7, 2) := by decide +kernel
theorem dL_ask_11 : decode cL_ask 11 = .ok (.iload 8, 2) := by decide +kernel
theorem dL_ask_13 : decode cL_ask 13 = .ok (.aload_n 2, 1) := by decide +kernel
theorem dL_ask_14 : decode cL_ask 14 = .ok (.invokestatic 10, 3) := by decide +kernel
theorem dL_ask_17 : decode cL_ask 17 = .ok (.ifCond .le 26, 3) := by decide +kernel
theorem dL_ask_20 : decode cL_ask 20 = .ok (.aload_n 2, 1) := by decide +kernel
theorem dL_ask_21 : decode cL_ask 21 = .ok (.iconst 5, 1) := by decide +kernel
theorem dL_ask_22 : decode cL_ask 22 = .ok (.iload 7, 2) := by decide +kernel
theorem dL_ask_24 : decode cL_ask 24 = .ok (.iload 8, 2) := by decide +kernel
theorem dL_ask_26 : decode cL_ask 26 = .ok (.aload_n 2, 1) := by decide +kernel
theorem dL_ask_27 : decode cL_ask 27 = .ok (.invokestatic 10, 3) := by decide +kernel
theorem dL_ask_30 : decode cL_ask 30 = .ok (.imul, 1) := by decide +kernel
theorem dL_ask_31 : decode cL_ask 31 = .ok (.iconst 3, 1) := by decide +kernel
theorem dL_ask_32 : decode cL_ask 32 = .ok (.iadd, 1) := by decide +kernel
theorem dL_ask_33 : decode cL_ask 33 = .ok (.iaload, 1) := by decide +kernel
theorem dL_ask_34 : decode cL_ask 34 = .ok (.ifCond .ne 9, 3) := by decide +kernel
theorem dL_ask_37 : decode cL_ask 37 = .ok (.iinc 8 1, 3) := by decide +kernel
theorem dL_ask_40 : decode cL_ask 40 = .ok (.goto (-31), 3) := by decide +kernel
theorem dL_ask_43 : decode cL_ask 43 = .ok (.iload 8, 2) := by decide +kernel
theorem dL_ask_45 : decode cL_ask 45 = .ok (.istore 9, 2) := by decide +kernel
theorem dL_ask_47 : decode cL_ask 47 = .ok (.iload 9, 2) := by decide +kernel
theorem dL_ask_49 : decode cL_ask 49 = .ok (.ifCond .le 77, 3) := by decide +kernel
theorem dL_ask_52 : decode cL_ask 52 = .ok (.iload 7, 2) := by decide +kernel
theorem dL_ask_54 : decode cL_ask 54 = .ok (.iload 9, 2) := by decide +kernel
theorem dL_ask_56 : decode cL_ask 56 = .ok (.aload_n 2, 1) := by decide +kernel
theorem dL_ask_57 : decode cL_ask 57 = .ok (.invokestatic 10, 3) := by decide +kernel
theorem dL_ask_60 : decode cL_ask 60 = .ok (.istore 10, 2) := by decide +kernel
theorem dL_ask_62 : decode cL_ask 62 = .ok (.iload 7, 2) := by decide +kernel
theorem dL_ask_64 : decode cL_ask 64 = .ok (.iload 9, 2) := by decide +kernel
theorem dL_ask_66 : decode cL_ask 66 = .ok (.iconst 1, 1) := by decide +kernel
theorem dL_ask_67 : decode cL_ask 67 = .ok (.isub, 1) := by decide +kernel
theorem dL_ask_68 : decode cL_ask 68 = .ok (.aload_n 2, 1) := by decide +kernel
theorem dL_ask_69 : decode cL_ask 69 = .ok (.invokestatic 10, 3) := by decide +kernel
theorem dL_ask_72 : decode cL_ask 72 = .ok (.istore 11, 2) := by decide +kernel
theorem dL_ask_74 : decode cL_ask 74 = .ok (.aload_n 1, 1) := by decide +kernel
theorem dL_ask_75 : decode cL_ask 75 = .ok (.iconst 2, 1) := by decide +kernel
theorem dL_ask_76 : decode cL_ask 76 = .ok (.dup2, 1) := by decide +kernel
theorem dL_ask_77 : decode cL_ask 77 = .ok (.iaload, 1) := by decide +kernel
theorem dL_ask_78 : decode cL_ask 78 = .ok (.iconst 1, 1) := by decide +kernel
theorem dL_ask_79 : decode cL_ask 79 = .ok (.iadd, 1) := by decide +kernel
theorem dL_ask_80 : decode cL_ask 80 = .ok (.iastore, 1) := by decide +kernel
theorem dL_ask_81 : decode cL_ask 81 = .ok (.aload_n 1, 1) := by decide +kernel
theorem dL_ask_82 : decode cL_ask 82 = .ok (.iconst 4, 1) := by decide +kernel
theorem dL_ask_83 : decode cL_ask 83 = .ok (.dup2, 1) := by decide +kernel
theorem dL_ask_84 : decode cL_ask 84 = .ok (.iaload, 1) := by decide +kernel
theorem dL_ask_85 : decode cL_ask 85 = .ok (.iconst 1, 1) := by decide +kernel
theorem dL_ask_86 : decode cL_ask 86 = .ok (.iadd, 1) := by decide +kernel
theorem dL_ask_87 : decode cL_ask 87 = .ok (.iastore, 1) := by decide +kernel
theorem dL_ask_88 : decode cL_ask 88 = .ok (.aload_n 2, 1) := by decide +kernel
theorem dL_ask_89 : decode cL_ask 89 = .ok (.iconst 5, 1) := by decide +kernel
theorem dL_ask_90 : decode cL_ask 90 = .ok (.iload 10, 2) := by decide +kernel
theorem dL_ask_92 : decode cL_ask 92 = .ok (.imul, 1) := by decide +kernel
theorem dL_ask_93 : decode cL_ask 93 = .ok (.iconst 4, 1) := by decide +kernel
theorem dL_ask_94 : decode cL_ask 94 = .ok (.iadd, 1) := by decide +kernel
theorem dL_ask_95 : decode cL_ask 95 = .ok (.dup2, 1) := by decide +kernel
theorem dL_ask_96 : decode cL_ask 96 = .ok (.iaload, 1) := by decide +kernel
theorem dL_ask_97 : decode cL_ask 97 = .ok (.iconst 1, 1) := by decide +kernel
theorem dL_ask_98 : decode cL_ask 98 = .ok (.iadd, 1) := by decide +kernel
theorem dL_ask_99 : decode cL_ask 99 = .ok (.iastore, 1) := by decide +kernel
theorem dL_ask_100 : decode cL_ask 100 = .ok (.aload_n 2, 1) := by decide +kernel
theorem dL_ask_101 : decode cL_ask 101 = .ok (.iconst 5, 1) := by decide +kernel
theorem dL_ask_102 : decode cL_ask 102 = .ok (.iload 11, 2) := by decide +kernel
theorem dL_ask_104 : decode cL_ask 104 = .ok (.imul, 1) := by decide +kernel
theorem dL_ask_105 : decode cL_ask 105 = .ok (.iconst 3, 1) := by decide +kernel
theorem dL_ask_106 : decode cL_ask 106 = .ok (.iadd, 1) := by decide +kernel
theorem dL_ask_107 : decode cL_ask 107 = .ok (.aload_n 1, 1) := by decide +kernel
theorem dL_ask_108 : decode cL_ask 108 = .ok (.iconst 0, 1) := by decide +kernel
theorem dL_ask_109 : decode cL_ask 109 = .ok (.iaload, 1) := by decide +kernel
theorem dL_ask_110 : decode cL_ask 110 = .ok (.aload_n 2, 1) := by decide +kernel
theorem dL_ask_111 : decode cL_ask 111 = .ok (.iconst 5, 1) := by decide +kernel
theorem dL_ask_112 : decode cL_ask 112 = .ok (.iload 10, 2) := by decide +kernel
theorem dL_ask_114 : decode cL_ask 114 = .ok (.imul, 1) := by decide +kernel
theorem dL_ask_115 : decode cL_ask 115 = .ok (.iconst 1, 1) := by decide +kernel
theorem dL_ask_116 : decode cL_ask 116 = .ok (.iadd, 1) := by decide +kernel
theorem dL_ask_117 : decode cL_ask 117 = .ok (.iaload, 1) := by decide +kernel
theorem dL_ask_118 : decode cL_ask 118 = .ok (.iadd, 1) := by decide +kernel
theorem dL_ask_119 : decode cL_ask 119 = .ok (.iastore, 1) := by decide +kernel
theorem dL_ask_120 : decode cL_ask 120 = .ok (.iinc 9 (-1), 3) := by decide +kernel
theorem dL_ask_123 : decode cL_ask 123 = .ok (.goto (-76), 3) := by decide +kernel
theorem dL_ask_126 : decode cL_ask 126 = .ok (.aload_n 1, 1) := by decide +kernel
theorem dL_ask_127 : decode cL_ask 127 = .ok (.iconst 2, 1) := by decide +kernel
theorem dL_ask_128 : decode cL_ask 128 = .ok (.dup2, 1) := by decide +kernel
theorem dL_ask_129 : decode cL_ask 129 = .ok (.iaload, 1) := by decide +kernel
theorem dL_ask_130 : decode cL_ask 130 = .ok (.iconst 1, 1) := by decide +kernel
theorem dL_ask_131 : decode cL_ask 131 = .ok (.iadd, 1) := by decide +kernel
theorem dL_ask_132 : decode cL_ask 132 = .ok (.iastore, 1) := by decide +kernel
theorem dL_ask_133 : decode cL_ask 133 = .ok (.aload_n 1, 1) := by decide +kernel
theorem dL_ask_134 : decode cL_ask 134 = .ok (.iconst 4, 1) := by decide +kernel
theorem dL_ask_135 : decode cL_ask 135 = .ok (.dup2, 1) := by decide +kernel
theorem dL_ask_136 : decode cL_ask 136 = .ok (.iaload, 1) := by decide +kernel
theorem dL_ask_137 : decode cL_ask 137 = .ok (.iconst 1, 1) := by decide +kernel
theorem dL_ask_138 : decode cL_ask 138 = .ok (.iadd, 1) := by decide +kernel
theorem dL_ask_139 : decode cL_ask 139 = .ok (.iastore, 1) := by decide +kernel
theorem dL_ask_140 : decode cL_ask 140 = .ok (.aload_n 2, 1) := by decide +kernel
theorem dL_ask_141 : decode cL_ask 141 = .ok (.iconst 5, 1) := by decide +kernel
theorem dL_ask_142 : decode cL_ask 142 = .ok (.iload 7, 2) := by decide +kernel
theorem dL_ask_144 : decode cL_ask 144 = .ok (.imul, 1) := by decide +kernel
theorem dL_ask_145 : decode cL_ask 145 = .ok (.iconst 4, 1) := by decide +kernel
theorem dL_ask_146 : decode cL_ask 146 = .ok (.iadd, 1) := by decide +kernel
theorem dL_ask_147 : decode cL_ask 147 = .ok (.dup2, 1) := by decide +kernel
theorem dL_ask_148 : decode cL_ask 148 = .ok (.iaload, 1) := by decide +kernel
theorem dL_ask_149 : decode cL_ask 149 = .ok (.iconst 1, 1) := by decide +kernel
theorem dL_ask_150 : decode cL_ask 150 = .ok (.iadd, 1) := by decide +kernel
theorem dL_ask_151 : decode cL_ask 151 = .ok (.iastore, 1) := by decide +kernel
theorem dL_ask_152 : decode cL_ask 152 = .ok (.aload 5, 2) := by decide +kernel
theorem dL_ask_154 : decode cL_ask 154 = .ok (.iload_n 0, 1) := by decide +kernel
theorem dL_ask_155 : decode cL_ask 155 = .ok (.aload_n 3, 1) := by decide +kernel
theorem dL_ask_156 : decode cL_ask 156 = .ok (.iload_n 0, 1) := by decide +kernel
theorem dL_ask_157 : decode cL_ask 157 = .ok (.iaload, 1) := by decide +kernel
theorem dL_ask_158 : decode cL_ask 158 = .ok (.ifCond .ne 9, 3) := by decide +kernel
theorem dL_ask_161 : decode cL_ask 161 = .ok (.sipush 3000, 3) := by decide +kernel
theorem dL_ask_164 : decode cL_ask 164 = .ok (.goto 6, 3) := by decide +kernel
theorem dL_ask_167 : decode cL_ask 167 = .ok (.aload_n 3, 1) := by decide +kernel
theorem dL_ask_168 : decode cL_ask 168 = .ok (.iload_n 0, 1) := by decide +kernel
theorem dL_ask_169 : decode cL_ask 169 = .ok (.iaload, 1) := by decide +kernel
theorem dL_ask_170 : decode cL_ask 170 = .ok (.iastore, 1) := by decide +kernel
theorem dL_ask_171 : decode cL_ask 171 = .ok (.aload 6, 2) := by decide +kernel
theorem dL_ask_173 : decode cL_ask 173 = .ok (.iload_n 0, 1) := by decide +kernel
theorem dL_ask_174 : decode cL_ask 174 = .ok (.aload_n 1, 1) := by decide +kernel
theorem dL_ask_175 : decode cL_ask 175 = .ok (.iconst 0, 1) := by decide +kernel
theorem dL_ask_176 : decode cL_ask 176 = .ok (.iaload, 1) := by decide +kernel
theorem dL_ask_177 : decode cL_ask 177 = .ok (.aload_n 3, 1) := by decide +kernel
theorem dL_ask_178 : decode cL_ask 178 = .ok (.iload_n 0, 1) := by decide +kernel
theorem dL_ask_179 : decode cL_ask 179 = .ok (.iaload, 1) := by decide +kernel
theorem dL_ask_180 : decode cL_ask 180 = .ok (.ifCond .ne 14, 3) := by decide +kernel
theorem dL_ask_183 : decode cL_ask 183 = .ok (.aload_n 2, 1) := by decide +kernel
theorem dL_ask_184 : decode cL_ask 184 = .ok (.iconst 5, 1) := by decide +kernel
theorem dL_ask_185 : decode cL_ask 185 = .ok (.iload 7, 2) := by decide +kernel
theorem dL_ask_187 : decode cL_ask 187 = .ok (.imul, 1) := by decide +kernel
theorem dL_ask_188 : decode cL_ask 188 = .ok (.iconst 2, 1) := by decide +kernel
theorem dL_ask_189 : decode cL_ask 189 = .ok (.iadd, 1) := by decide +kernel
theorem dL_ask_190 : decode cL_ask 190 = .ok (.iaload, 1) := by decide +kernel
theorem dL_ask_191 : decode cL_ask 191 = .ok (.goto 7, 3) := by decide +kernel
theorem dL_ask_194 : decode cL_ask 194 = .ok (.aload 4, 2) := by decide +kernel
theorem dL_ask_196 : decode cL_ask 196 = .ok (.iload_n 0, 1) := by decide +kernel
theorem dL_ask_197 : decode cL_ask 197 = .ok (.iaload, 1) := by decide +kernel
theorem dL_ask_198 : decode cL_ask 198 = .ok (.iadd, 1) := by decide +kernel
theorem dL_ask_199 : decode cL_ask 199 = .ok (.iastore, 1) := by decide +kernel
theorem dL_ask_200 : decode cL_ask 200 = .ok (.return_, 1) := by decide +kernel
theorem dL_solve_0 : decode cL_solve 0 = .ok (.iload_n 0, 1) := by decide +kernel
theorem dL_solve_1 : decode cL_solve 1 = .ok (.istore 7, 2) := by decide +kernel
theorem dL_solve_3 : decode cL_solve 3 = .ok (.iconst 0, 1) := by decide +kernel
theorem dL_solve_4 : decode cL_solve 4 = .ok (.istore 8, 2) := by decide +kernel
theorem dL_solve_6 : decode cL_solve 6 = .ok (.iload 8, 2) := by decide +kernel
theorem dL_solve_8 : decode cL_solve 8 = .ok (.bipush 7, 2) := by decide +kernel
theorem dL_solve_10 : decode cL_solve 10 = .ok (.if_icmp .ge 86, 3) := by decide +kernel
theorem dL_solve_13 : decode cL_solve 13 = .ok (.aload 5, 2) := by decide +kernel
theorem dL_solve_15 : decode cL_solve 15 = .ok (.iload 7, 2) := by decide +kernel
theorem dL_solve_17 : decode cL_solve 17 = .ok (.iaload, 1) := by decide +kernel
theorem dL_solve_18 : decode cL_solve 18 = .ok (.ifCond .ne 20, 3) := by decide +kernel
theorem dL_solve_21 : decode cL_solve 21 = .ok (.iload 7, 2) := by decide +kernel
theorem dL_solve_23 : decode cL_solve 23 = .ok (.aload_n 1, 1) := by decide +kernel
theorem dL_solve_24 : decode cL_solve 24 = .ok (.aload_n 2, 1) := by decide +kernel
theorem dL_solve_25 : decode cL_solve 25 = .ok (.aload_n 3, 1) := by decide +kernel
theorem dL_solve_26 : decode cL_solve 26 = .ok (.aload 4, 2) := by decide +kernel
theorem dL_solve_28 : decode cL_solve 28 = .ok (.aload 5, 2) := by decide +kernel
theorem dL_solve_30 : decode cL_solve 30 = .ok (.aload 6, 2) := by decide +kernel
theorem dL_solve_32 : decode cL_solve 32 = .ok (.invokestatic 16, 3) := by decide +kernel
theorem dL_solve_35 : decode cL_solve 35 = .ok (.goto 10, 3) := by decide +kernel
theorem dL_solve_38 : decode cL_solve 38 = .ok (.aload_n 1, 1) := by decide +kernel
theorem dL_solve_39 : decode cL_solve 39 = .ok (.iconst 3, 1) := by decide +kernel
theorem dL_solve_40 : decode cL_solve 40 = .ok (.dup2, 1) := by decide +kernel
theorem dL_solve_41 : decode cL_solve 41 = .ok (.iaload, 1) := by decide +kernel
theorem dL_solve_42 : decode cL_solve 42 = .ok (.iconst 1, 1) := by decide +kernel
theorem dL_solve_43 : decode cL_solve 43 = .ok (.iadd, 1) := by decide +kernel
theorem dL_solve_44 : decode cL_solve 44 = .ok (.iastore, 1) := by decide +kernel
theorem dL_solve_45 : decode cL_solve 45 = .ok (.aload 5, 2) := by decide +kernel
theorem dL_solve_47 : decode cL_solve 47 = .ok (.iload 7, 2) := by decide +kernel
theorem dL_solve_49 : decode cL_solve 49 = .ok (.iaload, 1) := by decide +kernel
theorem dL_solve_50 : decode cL_solve 50 = .ok (.sipush 3000, 3) := by decide +kernel
theorem dL_solve_53 : decode cL_solve 53 = .ok (.if_icmp .lt 5, 3) := by decide +kernel
theorem dL_solve_56 : decode cL_solve 56 = .ok (.iconst (-1), 1) := by decide +kernel
theorem dL_solve_57 : decode cL_solve 57 = .ok (.ireturn, 1) := by decide +kernel
theorem dL_solve_58 : decode cL_solve 58 = .ok (.aload 5, 2) := by decide +kernel
theorem dL_solve_60 : decode cL_solve 60 = .ok (.iload 7, 2) := by decide +kernel
theorem dL_solve_62 : decode cL_solve 62 = .ok (.iaload, 1) := by decide +kernel
theorem dL_solve_63 : decode cL_solve 63 = .ok (.sipush 2000, 3) := by decide +kernel
theorem dL_solve_66 : decode cL_solve 66 = .ok (.if_icmp .ge 13, 3) := by decide +kernel
theorem dL_solve_69 : decode cL_solve 69 = .ok (.aload 5, 2) := by decide +kernel
theorem dL_solve_71 : decode cL_solve 71 = .ok (.iload 7, 2) := by decide +kernel
theorem dL_solve_73 : decode cL_solve 73 = .ok (.iaload, 1) := by decide +kernel
theorem dL_solve_74 : decode cL_solve 74 = .ok (.sipush 1000, 3) := by decide +kernel
theorem dL_solve_77 : decode cL_solve 77 = .ok (.isub, 1) := by decide +kernel
theorem dL_solve_78 : decode cL_solve 78 = .ok (.ireturn, 1) := by decide +kernel
theorem dL_solve_79 : decode cL_solve 79 = .ok (.aload 5, 2) := by decide +kernel
theorem dL_solve_81 : decode cL_solve 81 = .ok (.iload 7, 2) := by decide +kernel
theorem dL_solve_83 : decode cL_solve 83 = .ok (.iaload, 1) := by decide +kernel
theorem dL_solve_84 : decode cL_solve 84 = .ok (.sipush 2000, 3) := by decide +kernel
theorem dL_solve_87 : decode cL_solve 87 = .ok (.isub, 1) := by decide +kernel
theorem dL_solve_88 : decode cL_solve 88 = .ok (.istore 7, 2) := by decide +kernel
theorem dL_solve_90 : decode cL_solve 90 = .ok (.iinc 8 1, 3) := by decide +kernel
theorem dL_solve_93 : decode cL_solve 93 = .ok (.goto (-87), 3) := by decide +kernel
theorem dL_solve_96 : decode cL_solve 96 = .ok (.bipush (-2), 2) := by decide +kernel
theorem dL_solve_98 : decode cL_solve 98 = .ok (.ireturn, 1) := by decide +kernel
theorem dL_truth_0 : decode cL_truth 0 = .ok (.iload_n 0, 1) := by decide +kernel
theorem dL_truth_1 : decode cL_truth 1 = .ok (.istore_n 2, 1) := by decide +kernel
theorem dL_truth_2 : decode cL_truth 2 = .ok (.iconst 0, 1) := by decide +kernel
theorem dL_truth_3 : decode cL_truth 3 = .ok (.istore_n 3, 1) := by decide +kernel
theorem dL_truth_4 : decode cL_truth 4 = .ok (.iload_n 3, 1) := by decide +kernel
theorem dL_truth_5 : decode cL_truth 5 = .ok (.bipush 7, 2) := by decide +kernel
theorem dL_truth_7 : decode cL_truth 7 = .ok (.if_icmp .ge 42, 3) := by decide +kernel
theorem dL_truth_10 : decode cL_truth 10 = .ok (.aload_n 1, 1) := by decide +kernel
theorem dL_truth_11 : decode cL_truth 11 = .ok (.iload_n 2, 1) := by decide +kernel
theorem dL_truth_12 : decode cL_truth 12 = .ok (.iaload, 1) := by decide +kernel
theorem dL_truth_13 : decode cL_truth 13 = .ok (.ifCond .ne 5, 3) := by decide +kernel
theorem dL_truth_16 : decode cL_truth 16 = .ok (.iconst (-1), 1) := by decide +kernel
theorem dL_truth_17 : decode cL_truth 17 = .ok (.ireturn, 1) := by decide +kernel
theorem dL_truth_18 : decode cL_truth 18 = .ok (.aload_n 1, 1) := by decide +kernel
theorem dL_truth_19 : decode cL_truth 19 = .ok (.iload_n 2, 1) := by decide +kernel
theorem dL_truth_20 : decode cL_truth 20 = .ok (.iaload, 1) := by decide +kernel
theorem dL_truth_21 : decode cL_truth 21 = .ok (.sipush 2000, 3) := by decide +kernel
theorem dL_truth_24 : decode cL_truth 24 = .ok (.if_icmp .ge 11, 3) := by decide +kernel
theorem dL_truth_27 : decode cL_truth 27 = .ok (.aload_n 1, 1) := by decide +kernel
theorem dL_truth_28 : decode cL_truth 28 = .ok (.iload_n 2, 1) := by decide +kernel
theorem dL_truth_29 : decode cL_truth 29 = .ok (.iaload, 1) := by decide +kernel
theorem dL_truth_30 : decode cL_truth 30 = .ok (.sipush 1000, 3) := by decide +kernel
theorem dL_truth_33 : decode cL_truth 33 = .ok (.isub, 1) := by decide +kernel
theorem dL_truth_34 : decode cL_truth 34 = .ok (.ireturn, 1) := by decide +kernel
theorem dL_truth_35 : decode cL_truth 35 = .ok (.aload_n 1, 1) := by decide +kernel
theorem dL_truth_36 : decode cL_truth 36 = .ok (.iload_n 2, 1) := by decide +kernel
theorem dL_truth_37 : decode cL_truth 37 = .ok (.iaload, 1) := by decide +kernel
theorem dL_truth_38 : decode cL_truth 38 = .ok (.sipush 2000, 3) := by decide +kernel
theorem dL_truth_41 : decode cL_truth 41 = .ok (.isub, 1) := by decide +kernel
theorem dL_truth_42 : decode cL_truth 42 = .ok (.istore_n 2, 1) := by decide +kernel
theorem dL_truth_43 : decode cL_truth 43 = .ok (.iinc 3 1, 3) := by decide +kernel
theorem dL_truth_46 : decode cL_truth 46 = .ok (.goto (-42), 3) := by decide +kernel
theorem dL_truth_49 : decode cL_truth 49 = .ok (.bipush (-2), 2) := by decide +kernel
theorem dL_truth_51 : decode cL_truth 51 = .ok (.ireturn, 1) := by decide +kernel
theorem dL_pass_0 : decode cL_pass 0 = .ok (.iconst 0, 1) := by decide +kernel
theorem dL_pass_1 : decode cL_pass 1 = .ok (.istore 5, 2) := by decide +kernel
theorem dL_pass_3 : decode cL_pass 3 = .ok (.aload_n 1, 1) := by decide +kernel
theorem dL_pass_4 : decode cL_pass 4 = .ok (.iconst 0, 1) := by decide +kernel
theorem dL_pass_5 : decode cL_pass 5 = .ok (.dup2, 1) := by decide +kernel
theorem dL_pass_6 : decode cL_pass 6 = .ok (.iaload, 1) := by decide +kernel
theorem dL_pass_7 : decode cL_pass 7 = .ok (.iload_n 0, 1) := by decide +kernel
theorem dL_pass_8 : decode cL_pass 8 = .ok (.iadd, 1) := by decide +kernel
theorem dL_pass_9 : decode cL_pass 9 = .ok (.iastore, 1) := by decide +kernel
theorem dL_pass_10 : decode cL_pass 10 = .ok (.iconst 1, 1) := by decide +kernel
theorem dL_pass_11 : decode cL_pass 11 = .ok (.istore 6, 2) := by decide +kernel
theorem dL_pass_13 : decode cL_pass 13 = .ok (.iload 6, 2) := by decide +kernel
theorem dL_pass_15 : decode cL_pass 15 = .ok (.bipush 6, 2) := by decide +kernel
theorem dL_pass_17 : decode cL_pass 17 = .ok (.if_icmp .ge 49, 3) := by decide +kernel
theorem dL_pass_20 : decode cL_pass 20 = .ok (.aload_n 2, 1) := by decide +kernel
theorem dL_pass_21 : decode cL_pass 21 = .ok (.iconst 5, 1) := by decide +kernel
theorem dL_pass_22 : decode cL_pass 22 = .ok (.iload 6, 2) := by decide +kernel
theorem dL_pass_24 : decode cL_pass 24 = .ok (.imul, 1) := by decide +kernel
theorem dL_pass_25 : decode cL_pass 25 = .ok (.iconst 3, 1) := by decide +kernel
theorem dL_pass_26 : decode cL_pass 26 = .ok (.iadd, 1) := by decide +kernel
theorem dL_pass_27 : decode cL_pass 27 = .ok (.iaload, 1) := by decide +kernel
theorem dL_pass_28 : decode cL_pass 28 = .ok (.ifCond .eq 32, 3) := by decide +kernel
theorem dL_pass_31 : decode cL_pass 31 = .ok (.aload_n 2, 1) := by decide +kernel
theorem dL_pass_32 : decode cL_pass 32 = .ok (.iconst 5, 1) := by decide +kernel
theorem dL_pass_33 : decode cL_pass 33 = .ok (.iload 6, 2) := by decide +kernel
theorem dL_pass_35 : decode cL_pass 35 = .ok (.imul, 1) := by decide +kernel
theorem dL_pass_36 : decode cL_pass 36 = .ok (.iconst 3, 1) := by decide +kernel
theorem dL_pass_37 : decode cL_pass 37 = .ok (.iadd, 1) := by decide +kernel
theorem dL_pass_38 : decode cL_pass 38 = .ok (.iaload, 1) := by decide +kernel
theorem dL_pass_39 : decode cL_pass 39 = .ok (.aload_n 1, 1) := by decide +kernel
theorem dL_pass_40 : decode cL_pass 40 = .ok (.iconst 0, 1) := by decide +kernel
theorem dL_pass_41 : decode cL_pass 41 = .ok (.iaload, 1) := by decide +kernel
theorem dL_pass_42 : decode cL_pass 42 = .ok (.if_icmp .le 6, 3) := by decide +kernel
theorem dL_pass_45 : decode cL_pass 45 = .ok (.goto 15, 3) := by decide +kernel
theorem dL_pass_48 : decode cL_pass 48 = .ok (.aload_n 2, 1) := by decide +kernel
theorem dL_pass_49 : decode cL_pass 49 = .ok (.iconst 5, 1) := by decide +kernel
theorem dL_pass_50 : decode cL_pass 50 = .ok (.iload 6, 2) := by decide +kernel
theorem dL_pass_52 : decode cL_pass 52 = .ok (.imul, 1) := by decide +kernel
theorem dL_pass_53 : decode cL_pass 53 = .ok (.iconst 3, 1) := by decide +kernel
theorem dL_pass_54 : decode cL_pass 54 = .ok (.iadd, 1) := by decide +kernel
theorem dL_pass_55 : decode cL_pass 55 = .ok (.iconst 0, 1) := by decide +kernel
theorem dL_pass_56 : decode cL_pass 56 = .ok (.iastore, 1) := by decide +kernel
theorem dL_pass_57 : decode cL_pass 57 = .ok (.iinc 5 1, 3) := by decide +kernel
theorem dL_pass_60 : decode cL_pass 60 = .ok (.iinc 6 1, 3) := by decide +kernel
theorem dL_pass_63 : decode cL_pass 63 = .ok (.goto (-50), 3) := by decide +kernel
theorem dL_pass_66 : decode cL_pass 66 = .ok (.iconst 0, 1) := by decide +kernel
theorem dL_pass_67 : decode cL_pass 67 = .ok (.istore 6, 2) := by decide +kernel
theorem dL_pass_69 : decode cL_pass 69 = .ok (.iload 6, 2) := by decide +kernel
theorem dL_pass_71 : decode cL_pass 71 = .ok (.bipush 36, 2) := by decide +kernel
theorem dL_pass_73 : decode cL_pass 73 = .ok (.if_icmp .ge 38, 3) := by decide +kernel
theorem dL_pass_76 : decode cL_pass 76 = .ok (.aload_n 3, 1) := by decide +kernel
theorem dL_pass_77 : decode cL_pass 77 = .ok (.iload 6, 2) := by decide +kernel
theorem dL_pass_79 : decode cL_pass 79 = .ok (.iaload, 1) := by decide +kernel
theorem dL_pass_80 : decode cL_pass 80 = .ok (.ifCond .eq 25, 3) := by decide +kernel
theorem dL_pass_83 : decode cL_pass 83 = .ok (.aload 4, 2) := by decide +kernel
theorem dL_pass_85 : decode cL_pass 85 = .ok (.iload 6, 2) := by decide +kernel
theorem dL_pass_87 : decode cL_pass 87 = .ok (.iaload, 1) := by decide +kernel
theorem dL_pass_88 : decode cL_pass 88 = .ok (.aload_n 1, 1) := by decide +kernel
theorem dL_pass_89 : decode cL_pass 89 = .ok (.iconst 0, 1) := by decide +kernel
theorem dL_pass_90 : decode cL_pass 90 = .ok (.iaload, 1) := by decide +kernel
theorem dL_pass_91 : decode cL_pass 91 = .ok (.if_icmp .le 6, 3) := by decide +kernel
theorem dL_pass_94 : decode cL_pass 94 = .ok (.goto 11, 3) := by decide +kernel
theorem dL_pass_97 : decode cL_pass 97 = .ok (.aload_n 3, 1) := by decide +kernel
theorem dL_pass_98 : decode cL_pass 98 = .ok (.iload 6, 2) := by decide +kernel
theorem dL_pass_100 : decode cL_pass 100 = .ok (.iconst 0, 1) := by decide +kernel
theorem dL_pass_101 : decode cL_pass 101 = .ok (.iastore, 1) := by decide +kernel
theorem dL_pass_102 : decode cL_pass 102 = .ok (.iinc 5 1, 3) := by decide +kernel
theorem dL_pass_105 : decode cL_pass 105 = .ok (.iinc 6 1, 3) := by decide +kernel
theorem dL_pass_108 : decode cL_pass 108 = .ok (.goto (-39), 3) := by decide +kernel
theorem dL_pass_111 : decode cL_pass 111 = .ok (.aload_n 1, 1) := by decide +kernel
theorem dL_pass_112 : decode cL_pass 112 = .ok (.iconst 5, 1) := by decide +kernel
theorem dL_pass_113 : decode cL_pass 113 = .ok (.dup2, 1) := by decide +kernel
theorem dL_pass_114 : decode cL_pass 114 = .ok (.iaload, 1) := by decide +kernel
theorem dL_pass_115 : decode cL_pass 115 = .ok (.iload 5, 2) := by decide +kernel
theorem dL_pass_117 : decode cL_pass 117 = .ok (.iadd, 1) := by decide +kernel
theorem dL_pass_118 : decode cL_pass 118 = .ok (.iastore, 1) := by decide +kernel
theorem dL_pass_119 : decode cL_pass 119 = .ok (.iload 5, 2) := by decide +kernel
theorem dL_pass_121 : decode cL_pass 121 = .ok (.ireturn, 1) := by decide +kernel
theorem dL_copy_0 : decode cL_copy 0 = .ok (.iconst 0, 1) := by decide +kernel
theorem dL_copy_1 : decode cL_copy 1 = .ok (.istore_n 2, 1) := by decide +kernel
theorem dL_copy_2 : decode cL_copy 2 = .ok (.iload_n 2, 1) := by decide +kernel
theorem dL_copy_3 : decode cL_copy 3 = .ok (.aload_n 0, 1) := by decide +kernel
theorem dL_copy_4 : decode cL_copy 4 = .ok (.arraylength, 1) := by decide +kernel
theorem dL_copy_5 : decode cL_copy 5 = .ok (.if_icmp .ge 15, 3) := by decide +kernel
theorem dL_copy_8 : decode cL_copy 8 = .ok (.aload_n 1, 1) := by decide +kernel
theorem dL_copy_9 : decode cL_copy 9 = .ok (.iload_n 2, 1) := by decide +kernel
theorem dL_copy_10 : decode cL_copy 10 = .ok (.aload_n 0, 1) := by decide +kernel
theorem dL_copy_11 : decode cL_copy 11 = .ok (.iload_n 2, 1) := by decide +kernel
theorem dL_copy_12 : decode cL_copy 12 = .ok (.iaload, 1) := by decide +kernel
theorem dL_copy_13 : decode cL_copy 13 = .ok (.iastore, 1) := by decide +kernel
theorem dL_copy_14 : decode cL_copy 14 = .ok (.iinc 2 1, 3) := by decide +kernel
theorem dL_copy_17 : decode cL_copy 17 = .ok (.goto (-15), 3) := by decide +kernel
theorem dL_copy_20 : decode cL_copy 20 = .ok (.return_, 1) := by decide +kernel
theorem dL_would_0 : decode cL_would 0 = .ok (.bipush 6, 2) := by decide +kernel
theorem dL_would_2 : decode cL_would 2 = .ok (.newarray .int, 2) := by decide +kernel
theorem dL_would_4 : decode cL_would 4 = .ok (.astore 9, 2) := by decide +kernel
theorem dL_would_6 : decode cL_would 6 = .ok (.bipush 30, 2) := by decide +kernel
theorem dL_would_8 : decode cL_would 8 = .ok (.newarray .int, 2) := by decide +kernel
theorem dL_would_10 : decode cL_would 10 = .ok (.astore 10, 2) := by decide +kernel
theorem dL_would_12 : decode cL_would 12 = .ok (.bipush 36, 2) := by decide +kernel
theorem dL_would_14 : decode cL_would 14 = .ok (.newarray .int, 2) := by decide +kernel
theorem dL_would_16 : decode cL_would 16 = .ok (.astore 11, 2) := by decide +kernel
theorem dL_would_18 : decode cL_would 18 = .ok (.bipush 36, 2) := by decide +kernel
theorem dL_would_20 : decode cL_would 20 = .ok (.newarray .int, 2) := by decide +kernel
theorem dL_would_22 : decode cL_would 22 = .ok (.astore 12, 2) := by decide +kernel
theorem dL_would_24 : decode cL_would 24 = .ok (.aload_n 3, 1) := by decide +kernel
theorem dL_would_25 : decode cL_would 25 = .ok (.aload 9, 2) := by decide +kernel
theorem dL_would_27 : decode cL_would 27 = .ok (.invokestatic 20, 3) := by decide +kernel
theorem dL_would_30 : decode cL_would 30 = .ok (.aload 4, 2) := by decide +kernel
theorem dL_would_32 : decode cL_would 32 = .ok (.aload 10, 2) := by decide +kernel
theorem dL_would_34 : decode cL_would 34 = .ok (.invokestatic 20, 3) := by decide +kernel
theorem dL_would_37 : decode cL_would 37 = .ok (.aload 7, 2) := by decide +kernel
theorem dL_would_39 : decode cL_would 39 = .ok (.aload 11, 2) := by decide +kernel
theorem dL_would_41 : decode cL_would 41 = .ok (.invokestatic 20, 3) := by decide +kernel
theorem dL_would_44 : decode cL_would 44 = .ok (.aload 8, 2) := by decide +kernel
theorem dL_would_46 : decode cL_would 46 = .ok (.aload 12, 2) := by decide +kernel
theorem dL_would_48 : decode cL_would 48 = .ok (.invokestatic 20, 3) := by decide +kernel
theorem dL_would_51 : decode cL_would 51 = .ok (.iload_n 1, 1) := by decide +kernel
theorem dL_would_52 : decode cL_would 52 = .ok (.aload 9, 2) := by decide +kernel
theorem dL_would_54 : decode cL_would 54 = .ok (.aload 10, 2) := by decide +kernel
theorem dL_would_56 : decode cL_would 56 = .ok (.aload 11, 2) := by decide +kernel
theorem dL_would_58 : decode cL_would 58 = .ok (.aload 12, 2) := by decide +kernel
theorem dL_would_60 : decode cL_would 60 = .ok (.invokestatic 24, 3) := by decide +kernel
theorem dL_would_63 : decode cL_would 63 = .ok (.pop, 1) := by decide +kernel
theorem dL_would_64 : decode cL_would 64 = .ok (.iload_n 0, 1) := by decide +kernel
theorem dL_would_65 : decode cL_would 65 = .ok (.aload 9, 2) := by decide +kernel
theorem dL_would_67 : decode cL_would 67 = .ok (.aload 10, 2) := by decide +kernel
theorem dL_would_69 : decode cL_would 69 = .ok (.aload 5, 2) := by decide +kernel
theorem dL_would_71 : decode cL_would 71 = .ok (.aload 6, 2) := by decide +kernel
theorem dL_would_73 : decode cL_would 73 = .ok (.aload 11, 2) := by decide +kernel
theorem dL_would_75 : decode cL_would 75 = .ok (.aload 12, 2) := by decide +kernel
theorem dL_would_77 : decode cL_would 77 = .ok (.invokestatic 28, 3) := by decide +kernel
theorem dL_would_80 : decode cL_would 80 = .ok (.istore 13, 2) := by decide +kernel
theorem dL_would_82 : decode cL_would 82 = .ok (.iload_n 2, 1) := by decide +kernel
theorem dL_would_83 : decode cL_would 83 = .ok (.ifCond .eq 14, 3) := by decide +kernel
theorem dL_would_86 : decode cL_would 86 = .ok (.aload 9, 2) := by decide +kernel
theorem dL_would_88 : decode cL_would 88 = .ok (.iconst 2, 1) := by decide +kernel
theorem dL_would_89 : decode cL_would 89 = .ok (.iaload, 1) := by decide +kernel
theorem dL_would_90 : decode cL_would 90 = .ok (.aload_n 3, 1) := by decide +kernel
theorem dL_would_91 : decode cL_would 91 = .ok (.iconst 2, 1) := by decide +kernel
theorem dL_would_92 : decode cL_would 92 = .ok (.iaload, 1) := by decide +kernel
theorem dL_would_93 : decode cL_would 93 = .ok (.isub, 1) := by decide +kernel
theorem dL_would_94 : decode cL_would 94 = .ok (.goto 5, 3) := by decide +kernel
theorem dL_would_97 : decode cL_would 97 = .ok (.iload 13, 2) := by decide +kernel
theorem dL_would_99 : decode cL_would 99 = .ok (.ireturn, 1) := by decide +kernel
theorem dL_same_0 : decode cL_same 0 = .ok (.iconst 0, 1) := by decide +kernel
theorem dL_same_1 : decode cL_same 1 = .ok (.istore 8, 2) := by decide +kernel
theorem dL_same_3 : decode cL_same 3 = .ok (.iconst (-1), 1) := by decide +kernel
theorem dL_same_4 : decode cL_same 4 = .ok (.istore 9, 2) := by decide +kernel
theorem dL_same_6 : decode cL_same 6 = .ok (.iconst 0, 1) := by decide +kernel
theorem dL_same_7 : decode cL_same 7 = .ok (.istore 10, 2) := by decide +kernel
theorem dL_same_9 : decode cL_same 9 = .ok (.iload 10, 2) := by decide +kernel
theorem dL_same_11 : decode cL_same 11 = .ok (.bipush 6, 2) := by decide +kernel
theorem dL_same_13 : decode cL_same 13 = .ok (.if_icmp .ge 139, 3) := by decide +kernel
theorem dL_same_16 : decode cL_same 16 = .ok (.aload_n 3, 1) := by decide +kernel
theorem dL_same_17 : decode cL_same 17 = .ok (.iconst 5, 1) := by decide +kernel
theorem dL_same_18 : decode cL_same 18 = .ok (.iload 10, 2) := by decide +kernel
theorem dL_same_20 : decode cL_same 20 = .ok (.imul, 1) := by decide +kernel
theorem dL_same_21 : decode cL_same 21 = .ok (.iconst 3, 1) := by decide +kernel
theorem dL_same_22 : decode cL_same 22 = .ok (.iadd, 1) := by decide +kernel
theorem dL_same_23 : decode cL_same 23 = .ok (.iaload, 1) := by decide +kernel
theorem dL_same_24 : decode cL_same 24 = .ok (.ifCond .ne 7, 3) := by decide +kernel
theorem dL_same_27 : decode cL_same 27 = .ok (.iconst (-1), 1) := by decide +kernel
theorem dL_same_28 : decode cL_same 28 = .ok (.goto 15, 3) := by decide +kernel
theorem dL_same_31 : decode cL_same 31 = .ok (.aload_n 3, 1) := by decide +kernel
theorem dL_same_32 : decode cL_same 32 = .ok (.iconst 5, 1) := by decide +kernel
theorem dL_same_33 : decode cL_same 33 = .ok (.iload 10, 2) := by decide +kernel
theorem dL_same_35 : decode cL_same 35 = .ok (.imul, 1) := by decide +kernel
theorem dL_same_36 : decode cL_same 36 = .ok (.iconst 3, 1) := by decide +kernel
theorem dL_same_37 : decode cL_same 37 = .ok (.iadd, 1) := by decide +kernel
theorem dL_same_38 : decode cL_same 38 = .ok (.iaload, 1) := by decide +kernel
theorem dL_same_39 : decode cL_same 39 = .ok (.aload_n 2, 1) := by decide +kernel
theorem dL_same_40 : decode cL_same 40 = .ok (.iconst 0, 1) := by decide +kernel
theorem dL_same_41 : decode cL_same 41 = .ok (.iaload, 1) := by decide +kernel
theorem dL_same_42 : decode cL_same 42 = .ok (.isub, 1) := by decide +kernel
theorem dL_same_43 : decode cL_same 43 = .ok (.istore 11, 2) := by decide +kernel
theorem dL_same_45 : decode cL_same 45 = .ok (.iload 8, 2) := by decide +kernel
theorem dL_same_47 : decode cL_same 47 = .ok (.iload 11, 2) := by decide +kernel
theorem dL_same_49 : decode cL_same 49 = .ok (.ifCond .le 7, 3) := by decide +kernel
theorem dL_same_52 : decode cL_same 52 = .ok (.iconst 1, 1) := by decide +kernel
theorem dL_same_53 : decode cL_same 53 = .ok (.goto 4, 3) := by decide +kernel
theorem dL_same_56 : decode cL_same 56 = .ok (.iconst 0, 1) := by decide +kernel
theorem dL_same_57 : decode cL_same 57 = .ok (.iadd, 1) := by decide +kernel
theorem dL_same_58 : decode cL_same 58 = .ok (.istore 8, 2) := by decide +kernel
theorem dL_same_60 : decode cL_same 60 = .ok (.iload 11, 2) := by decide +kernel
theorem dL_same_62 : decode cL_same 62 = .ok (.ifCond .le 20, 3) := by decide +kernel
theorem dL_same_65 : decode cL_same 65 = .ok (.iload 9, 2) := by decide +kernel
theorem dL_same_67 : decode cL_same 67 = .ok (.ifCond .lt 10, 3) := by decide +kernel
theorem dL_same_70 : decode cL_same 70 = .ok (.iload 11, 2) := by decide +kernel
theorem dL_same_72 : decode cL_same 72 = .ok (.iload 9, 2) := by decide +kernel
theorem dL_same_74 : decode cL_same 74 = .ok (.if_icmp .ge 8, 3) := by decide +kernel
theorem dL_same_77 : decode cL_same 77 = .ok (.iload 11, 2) := by decide +kernel
theorem dL_same_79 : decode cL_same 79 = .ok (.goto 5, 3) := by decide +kernel
theorem dL_same_82 : decode cL_same 82 = .ok (.iload 9, 2) := by decide +kernel
theorem dL_same_84 : decode cL_same 84 = .ok (.istore 9, 2) := by decide +kernel
theorem dL_same_86 : decode cL_same 86 = .ok (.aload_n 0, 1) := by decide +kernel
theorem dL_same_87 : decode cL_same 87 = .ok (.iload 10, 2) := by decide +kernel
theorem dL_same_89 : decode cL_same 89 = .ok (.invokevirtual 32, 3) := by decide +kernel
theorem dL_same_92 : decode cL_same 92 = .ok (.aload_n 3, 1) := by decide +kernel
theorem dL_same_93 : decode cL_same 93 = .ok (.iconst 5, 1) := by decide +kernel
theorem dL_same_94 : decode cL_same 94 = .ok (.iload 10, 2) := by decide +kernel
theorem dL_same_96 : decode cL_same 96 = .ok (.imul, 1) := by decide +kernel
theorem dL_same_97 : decode cL_same 97 = .ok (.iaload, 1) := by decide +kernel
theorem dL_same_98 : decode cL_same 98 = .ok (.if_icmp .ne 46, 3) := by decide +kernel
theorem dL_same_101 : decode cL_same 101 = .ok (.aload_n 0, 1) := by decide +kernel
theorem dL_same_102 : decode cL_same 102 = .ok (.iload 10, 2) := by decide +kernel
theorem dL_same_104 : decode cL_same 104 = .ok (.invokevirtual 38, 3) := by decide +kernel
theorem dL_same_107 : decode cL_same 107 = .ok (.iload 10, 2) := by decide +kernel
theorem dL_same_109 : decode cL_same 109 = .ok (.aload_n 3, 1) := by decide +kernel
theorem dL_same_110 : decode cL_same 110 = .ok (.invokestatic 41, 3) := by decide +kernel
theorem dL_same_113 : decode cL_same 113 = .ok (.if_icmp .ne 31, 3) := by decide +kernel
theorem dL_same_116 : decode cL_same 116 = .ok (.aload_n 0, 1) := by decide +kernel
theorem dL_same_117 : decode cL_same 117 = .ok (.iload 10, 2) := by decide +kernel
theorem dL_same_119 : decode cL_same 119 = .ok (.invokevirtual 45, 3) := by decide +kernel
theorem dL_same_122 : decode cL_same 122 = .ok (.iload 11, 2) := by decide +kernel
theorem dL_same_124 : decode cL_same 124 = .ok (.if_icmp .ne 20, 3) := by decide +kernel
theorem dL_same_127 : decode cL_same 127 = .ok (.aload_n 0, 1) := by decide +kernel
theorem dL_same_128 : decode cL_same 128 = .ok (.iload 10, 2) := by decide +kernel
theorem dL_same_130 : decode cL_same 130 = .ok (.invokevirtual 48, 3) := by decide +kernel
theorem dL_same_133 : decode cL_same 133 = .ok (.aload_n 3, 1) := by decide +kernel
theorem dL_same_134 : decode cL_same 134 = .ok (.iconst 5, 1) := by decide +kernel
theorem dL_same_135 : decode cL_same 135 = .ok (.iload 10, 2) := by decide +kernel
theorem dL_same_137 : decode cL_same 137 = .ok (.imul, 1) := by decide +kernel
theorem dL_same_138 : decode cL_same 138 = .ok (.iconst 4, 1) := by decide +kernel
theorem dL_same_139 : decode cL_same 139 = .ok (.iadd, 1) := by decide +kernel
theorem dL_same_140 : decode cL_same 140 = .ok (.iaload, 1) := by decide +kernel
theorem dL_same_141 : decode cL_same 141 = .ok (.if_icmp .eq 5, 3) := by decide +kernel
theorem dL_same_144 : decode cL_same 144 = .ok (.iconst 0, 1) := by decide +kernel
theorem dL_same_145 : decode cL_same 145 = .ok (.ireturn, 1) := by decide +kernel
theorem dL_same_146 : decode cL_same 146 = .ok (.iinc 10 1, 3) := by decide +kernel
theorem dL_same_149 : decode cL_same 149 = .ok (.goto (-140), 3) := by decide +kernel
theorem dL_same_152 : decode cL_same 152 = .ok (.iconst 0, 1) := by decide +kernel
theorem dL_same_153 : decode cL_same 153 = .ok (.istore 10, 2) := by decide +kernel
theorem dL_same_155 : decode cL_same 155 = .ok (.iload 10, 2) := by decide +kernel
theorem dL_same_157 : decode cL_same 157 = .ok (.bipush 36, 2) := by decide +kernel
theorem dL_same_159 : decode cL_same 159 = .ok (.if_icmp .ge 217, 3) := by decide +kernel
theorem dL_same_162 : decode cL_same 162 = .ok (.aload 6, 2) := by decide +kernel
theorem dL_same_164 : decode cL_same 164 = .ok (.iload 10, 2) := by decide +kernel
theorem dL_same_166 : decode cL_same 166 = .ok (.iaload, 1) := by decide +kernel
theorem dL_same_167 : decode cL_same 167 = .ok (.ifCond .ne 7, 3) := by decide +kernel
theorem dL_same_170 : decode cL_same 170 = .ok (.iconst (-1), 1) := by decide +kernel
theorem dL_same_171 : decode cL_same 171 = .ok (.goto 12, 3) := by decide +kernel
theorem dL_same_174 : decode cL_same 174 = .ok (.aload 7, 2) := by decide +kernel
theorem dL_same_176 : decode cL_same 176 = .ok (.iload 10, 2) := by decide +kernel
theorem dL_same_178 : decode cL_same 178 = .ok (.iaload, 1) := by decide +kernel
theorem dL_same_179 : decode cL_same 179 = .ok (.aload_n 2, 1) := by decide +kernel
theorem dL_same_180 : decode cL_same 180 = .ok (.iconst 0, 1) := by decide +kernel
theorem dL_same_181 : decode cL_same 181 = .ok (.iaload, 1) := by decide +kernel
theorem dL_same_182 : decode cL_same 182 = .ok (.isub, 1) := by decide +kernel
theorem dL_same_183 : decode cL_same 183 = .ok (.istore 11, 2) := by decide +kernel
theorem dL_same_185 : decode cL_same 185 = .ok (.iload 8, 2) := by decide +kernel
theorem dL_same_187 : decode cL_same 187 = .ok (.iload 11, 2) := by decide +kernel
theorem dL_same_189 : decode cL_same 189 = .ok (.ifCond .le 7, 3) := by decide +kernel
theorem dL_same_192 : decode cL_same 192 = .ok (.iconst 1, 1) := by decide +kernel
theorem dL_same_193 : decode cL_same 193 = .ok (.goto 4, 3) := by decide +kernel
theorem dL_same_196 : decode cL_same 196 = .ok (.iconst 0, 1) := by decide +kernel
theorem dL_same_197 : decode cL_same 197 = .ok (.iadd, 1) := by decide +kernel
theorem dL_same_198 : decode cL_same 198 = .ok (.istore 8, 2) := by decide +kernel
theorem dL_same_200 : decode cL_same 200 = .ok (.iload 11, 2) := by decide +kernel
theorem dL_same_202 : decode cL_same 202 = .ok (.ifCond .le 20, 3) := by decide +kernel
theorem dL_same_205 : decode cL_same 205 = .ok (.iload 9, 2) := by decide +kernel
theorem dL_same_207 : decode cL_same 207 = .ok (.ifCond .lt 10, 3) := by decide +kernel
theorem dL_same_210 : decode cL_same 210 = .ok (.iload 11, 2) := by decide +kernel
theorem dL_same_212 : decode cL_same 212 = .ok (.iload 9, 2) := by decide +kernel
theorem dL_same_214 : decode cL_same 214 = .ok (.if_icmp .ge 8, 3) := by decide +kernel
theorem dL_same_217 : decode cL_same 217 = .ok (.iload 11, 2) := by decide +kernel
theorem dL_same_219 : decode cL_same 219 = .ok (.goto 5, 3) := by decide +kernel
theorem dL_same_222 : decode cL_same 222 = .ok (.iload 9, 2) := by decide +kernel
theorem dL_same_224 : decode cL_same 224 = .ok (.istore 9, 2) := by decide +kernel
theorem dL_same_226 : decode cL_same 226 = .ok (.aload_n 0, 1) := by decide +kernel
theorem dL_same_227 : decode cL_same 227 = .ok (.iload 10, 2) := by decide +kernel
theorem dL_same_229 : decode cL_same 229 = .ok (.invokevirtual 51, 3) := by decide +kernel
theorem dL_same_232 : decode cL_same 232 = .ok (.aload 4, 2) := by decide +kernel
theorem dL_same_234 : decode cL_same 234 = .ok (.iload 10, 2) := by decide +kernel
theorem dL_same_236 : decode cL_same 236 = .ok (.iaload, 1) := by decide +kernel
theorem dL_same_237 : decode cL_same 237 = .ok (.sipush 1000, 3) := by decide +kernel
theorem dL_same_240 : decode cL_same 240 = .ok (.idiv, 1) := by decide +kernel
theorem dL_same_241 : decode cL_same 241 = .ok (.if_icmp .ne 127, 3) := by decide +kernel
theorem dL_same_244 : decode cL_same 244 = .ok (.aload_n 0, 1) := by decide +kernel
theorem dL_same_245 : decode cL_same 245 = .ok (.iload 10, 2) := by decide +kernel
theorem dL_same_247 : decode cL_same 247 = .ok (.invokevirtual 54, 3) := by decide +kernel
theorem dL_same_250 : decode cL_same 250 = .ok (.aload 4, 2) := by decide +kernel
theorem dL_same_252 : decode cL_same 252 = .ok (.iload 10, 2) := by decide +kernel
theorem dL_same_254 : decode cL_same 254 = .ok (.iaload, 1) := by decide +kernel
theorem dL_same_255 : decode cL_same 255 = .ok (.ifCond .ne 7, 3) := by decide +kernel
theorem dL_same_258 : decode cL_same 258 = .ok (.iconst (-1), 1) := by decide +kernel
theorem dL_same_259 : decode cL_same 259 = .ok (.goto 12, 3) := by decide +kernel
theorem dL_same_262 : decode cL_same 262 = .ok (.aload 4, 2) := by decide +kernel
theorem dL_same_264 : decode cL_same 264 = .ok (.iload 10, 2) := by decide +kernel
theorem dL_same_266 : decode cL_same 266 = .ok (.iaload, 1) := by decide +kernel
theorem dL_same_267 : decode cL_same 267 = .ok (.sipush 1000, 3) := by decide +kernel
theorem dL_same_270 : decode cL_same 270 = .ok (.irem, 1) := by decide +kernel
theorem dL_same_271 : decode cL_same 271 = .ok (.if_icmp .ne 97, 3) := by decide +kernel
theorem dL_same_274 : decode cL_same 274 = .ok (.aload_n 0, 1) := by decide +kernel
theorem dL_same_275 : decode cL_same 275 = .ok (.iload 10, 2) := by decide +kernel
theorem dL_same_277 : decode cL_same 277 = .ok (.invokevirtual 57, 3) := by decide +kernel
theorem dL_same_280 : decode cL_same 280 = .ok (.aload 6, 2) := by decide +kernel
theorem dL_same_282 : decode cL_same 282 = .ok (.iload 10, 2) := by decide +kernel
theorem dL_same_284 : decode cL_same 284 = .ok (.iaload, 1) := by decide +kernel
theorem dL_same_285 : decode cL_same 285 = .ok (.sipush 1000, 3) := by decide +kernel
theorem dL_same_288 : decode cL_same 288 = .ok (.idiv, 1) := by decide +kernel
theorem dL_same_289 : decode cL_same 289 = .ok (.if_icmp .ne 79, 3) := by decide +kernel
theorem dL_same_292 : decode cL_same 292 = .ok (.aload_n 0, 1) := by decide +kernel
theorem dL_same_293 : decode cL_same 293 = .ok (.iload 10, 2) := by decide +kernel
theorem dL_same_295 : decode cL_same 295 = .ok (.invokevirtual 60, 3) := by decide +kernel
theorem dL_same_298 : decode cL_same 298 = .ok (.iload 11, 2) := by decide +kernel
theorem dL_same_300 : decode cL_same 300 = .ok (.if_icmp .ne 68, 3) := by decide +kernel
theorem dL_same_303 : decode cL_same 303 = .ok (.aload_n 0, 1) := by decide +kernel
theorem dL_same_304 : decode cL_same 304 = .ok (.iload 10, 2) := by decide +kernel
theorem dL_same_306 : decode cL_same 306 = .ok (.invokevirtual 63, 3) := by decide +kernel
theorem dL_same_309 : decode cL_same 309 = .ok (.iload 10, 2) := by decide +kernel
theorem dL_same_311 : decode cL_same 311 = .ok (.aload 4, 2) := by decide +kernel
theorem dL_same_313 : decode cL_same 313 = .ok (.invokestatic 66, 3) := by decide +kernel
theorem dL_same_316 : decode cL_same 316 = .ok (.if_icmp .ne 52, 3) := by decide +kernel
theorem dL_same_319 : decode cL_same 319 = .ok (.aload_n 0, 1) := by decide +kernel
theorem dL_same_320 : decode cL_same 320 = .ok (.iload 10, 2) := by decide +kernel
theorem dL_same_322 : decode cL_same 322 = .ok (.invokevirtual 69, 3) := by decide +kernel
theorem dL_same_325 : decode cL_same 325 = .ok (.aload 6, 2) := by decide +kernel
theorem dL_same_327 : decode cL_same 327 = .ok (.iload 10, 2) := by decide +kernel
theorem dL_same_329 : decode cL_same 329 = .ok (.iaload, 1) := by decide +kernel
theorem dL_same_330 : decode cL_same 330 = .ok (.ifCond .eq 34, 3) := by decide +kernel
theorem dL_same_333 : decode cL_same 333 = .ok (.aload 6, 2) := by decide +kernel
theorem dL_same_335 : decode cL_same 335 = .ok (.iload 10, 2) := by decide +kernel
theorem dL_same_337 : decode cL_same 337 = .ok (.iaload, 1) := by decide +kernel
theorem dL_same_338 : decode cL_same 338 = .ok (.aload 4, 2) := by decide +kernel
theorem dL_same_340 : decode cL_same 340 = .ok (.iload 10, 2) := by decide +kernel
theorem dL_same_342 : decode cL_same 342 = .ok (.iaload, 1) := by decide +kernel
theorem dL_same_343 : decode cL_same 343 = .ok (.ifCond .ne 9, 3) := by decide +kernel
theorem dL_same_346 : decode cL_same 346 = .ok (.sipush 3000, 3) := by decide +kernel
theorem dL_same_349 : decode cL_same 349 = .ok (.goto 8, 3) := by decide +kernel
theorem dL_same_352 : decode cL_same 352 = .ok (.aload 4, 2) := by decide +kernel
theorem dL_same_354 : decode cL_same 354 = .ok (.iload 10, 2) := by decide +kernel
theorem dL_same_356 : decode cL_same 356 = .ok (.iaload, 1) := by decide +kernel
theorem dL_same_357 : decode cL_same 357 = .ok (.if_icmp .eq 7, 3) := by decide +kernel
theorem dL_same_360 : decode cL_same 360 = .ok (.iconst 1, 1) := by decide +kernel
theorem dL_same_361 : decode cL_same 361 = .ok (.goto 4, 3) := by decide +kernel
theorem dL_same_364 : decode cL_same 364 = .ok (.iconst 0, 1) := by decide +kernel
theorem dL_same_365 : decode cL_same 365 = .ok (.if_icmp .eq 5, 3) := by decide +kernel
theorem dL_same_368 : decode cL_same 368 = .ok (.iconst 0, 1) := by decide +kernel
theorem dL_same_369 : decode cL_same 369 = .ok (.ireturn, 1) := by decide +kernel
theorem dL_same_370 : decode cL_same 370 = .ok (.iinc 10 1, 3) := by decide +kernel
theorem dL_same_373 : decode cL_same 373 = .ok (.goto (-218), 3) := by decide +kernel
theorem dL_same_376 : decode cL_same 376 = .ok (.iconst 0, 1) := by decide +kernel
theorem dL_same_377 : decode cL_same 377 = .ok (.istore 10, 2) := by decide +kernel
theorem dL_same_379 : decode cL_same 379 = .ok (.iload 10, 2) := by decide +kernel
theorem dL_same_381 : decode cL_same 381 = .ok (.iconst 4, 1) := by decide +kernel
theorem dL_same_382 : decode cL_same 382 = .ok (.if_icmp .ge 135, 3) := by decide +kernel
theorem dL_same_385 : decode cL_same 385 = .ok (.iload_n 1, 1) := by decide +kernel
theorem dL_same_386 : decode cL_same 386 = .ok (.iconst 3, 1) := by decide +kernel
theorem dL_same_387 : decode cL_same 387 = .ok (.iload 10, 2) := by decide +kernel
theorem dL_same_389 : decode cL_same 389 = .ok (.imul, 1) := by decide +kernel
theorem dL_same_390 : decode cL_same 390 = .ok (.ishr, 1) := by decide +kernel
theorem dL_same_391 : decode cL_same 391 = .ok (.iload 10, 2) := by decide +kernel
theorem dL_same_393 : decode cL_same 393 = .ok (.iconst 2, 1) := by decide +kernel
theorem dL_same_394 : decode cL_same 394 = .ok (.if_icmp .ge 8, 3) := by decide +kernel
theorem dL_same_397 : decode cL_same 397 = .ok (.bipush 36, 2) := by decide +kernel
theorem dL_same_399 : decode cL_same 399 = .ok (.goto 5, 3) := by decide +kernel
theorem dL_same_402 : decode cL_same 402 = .ok (.bipush 9, 2) := by decide +kernel
theorem dL_same_404 : decode cL_same 404 = .ok (.invokestatic 73, 3) := by decide +kernel
theorem dL_same_407 : decode cL_same 407 = .ok (.istore 11, 2) := by decide +kernel
theorem dL_same_409 : decode cL_same 409 = .ok (.iconst 0, 1) := by decide +kernel
theorem dL_same_410 : decode cL_same 410 = .ok (.istore 12, 2) := by decide +kernel
theorem dL_same_412 : decode cL_same 412 = .ok (.iload 11, 2) := by decide +kernel
theorem dL_same_414 : decode cL_same 414 = .ok (.iload 12, 2) := by decide +kernel
theorem dL_same_416 : decode cL_same 416 = .ok (.iconst 0, 1) := by decide +kernel
theorem dL_same_417 : decode cL_same 417 = .ok (.aload_n 2, 1) := by decide +kernel
theorem dL_same_418 : decode cL_same 418 = .ok (.aload_n 3, 1) := by decide +kernel
theorem dL_same_419 : decode cL_same 419 = .ok (.aload 4, 2) := by decide +kernel
theorem dL_same_421 : decode cL_same 421 = .ok (.aload 5, 2) := by decide +kernel
theorem dL_same_423 : decode cL_same 423 = .ok (.aload 6, 2) := by decide +kernel
theorem dL_same_425 : decode cL_same 425 = .ok (.aload 7, 2) := by decide +kernel
theorem dL_same_427 : decode cL_same 427 = .ok (.invokestatic 77, 3) := by decide +kernel
theorem dL_same_430 : decode cL_same 430 = .ok (.iload 11, 2) := by decide +kernel
theorem dL_same_432 : decode cL_same 432 = .ok (.aload 4, 2) := by decide +kernel
theorem dL_same_434 : decode cL_same 434 = .ok (.invokestatic 66, 3) := by decide +kernel
theorem dL_same_437 : decode cL_same 437 = .ok (.if_icmp .eq 9, 3) := by decide +kernel
theorem dL_same_440 : decode cL_same 440 = .ok (.iinc 12 1, 3) := by decide +kernel
theorem dL_same_443 : decode cL_same 443 = .ok (.goto (-31), 3) := by decide +kernel
theorem dL_same_446 : decode cL_same 446 = .ok (.aload_n 0, 1) := by decide +kernel
theorem dL_same_447 : decode cL_same 447 = .ok (.iload 11, 2) := by decide +kernel
theorem dL_same_449 : decode cL_same 449 = .ok (.invokevirtual 81, 3) := by decide +kernel
theorem dL_same_452 : decode cL_same 452 = .ok (.iload 11, 2) := by decide +kernel
theorem dL_same_454 : decode cL_same 454 = .ok (.iconst 0, 1) := by decide +kernel
theorem dL_same_455 : decode cL_same 455 = .ok (.iconst 0, 1) := by decide +kernel
theorem dL_same_456 : decode cL_same 456 = .ok (.aload_n 2, 1) := by decide +kernel
theorem dL_same_457 : decode cL_same 457 = .ok (.aload_n 3, 1) := by decide +kernel
theorem dL_same_458 : decode cL_same 458 = .ok (.aload 4, 2) := by decide +kernel
theorem dL_same_460 : decode cL_same 460 = .ok (.aload 5, 2) := by decide +kernel
theorem dL_same_462 : decode cL_same 462 = .ok (.aload 6, 2) := by decide +kernel
theorem dL_same_464 : decode cL_same 464 = .ok (.aload 7, 2) := by decide +kernel
theorem dL_same_466 : decode cL_same 466 = .ok (.invokestatic 77, 3) := by decide +kernel
theorem dL_same_469 : decode cL_same 469 = .ok (.if_icmp .ne 40, 3) := by decide +kernel
theorem dL_same_472 : decode cL_same 472 = .ok (.aload_n 0, 1) := by decide +kernel
theorem dL_same_473 : decode cL_same 473 = .ok (.iload 11, 2) := by decide +kernel
theorem dL_same_475 : decode cL_same 475 = .ok (.invokevirtual 84, 3) := by decide +kernel
theorem dL_same_478 : decode cL_same 478 = .ok (.iload 11, 2) := by decide +kernel
theorem dL_same_480 : decode cL_same 480 = .ok (.iconst 0, 1) := by decide +kernel
theorem dL_same_481 : decode cL_same 481 = .ok (.iconst 1, 1) := by decide +kernel
theorem dL_same_482 : decode cL_same 482 = .ok (.aload_n 2, 1) := by decide +kernel
theorem dL_same_483 : decode cL_same 483 = .ok (.aload_n 3, 1) := by decide +kernel
theorem dL_same_484 : decode cL_same 484 = .ok (.aload 4, 2) := by decide +kernel
theorem dL_same_486 : decode cL_same 486 = .ok (.aload 5, 2) := by decide +kernel
theorem dL_same_488 : decode cL_same 488 = .ok (.aload 6, 2) := by decide +kernel
theorem dL_same_490 : decode cL_same 490 = .ok (.aload 7, 2) := by decide +kernel
theorem dL_same_492 : decode cL_same 492 = .ok (.invokestatic 77, 3) := by decide +kernel
theorem dL_same_495 : decode cL_same 495 = .ok (.if_icmp .ne 14, 3) := by decide +kernel
theorem dL_same_498 : decode cL_same 498 = .ok (.aload_n 0, 1) := by decide +kernel
theorem dL_same_499 : decode cL_same 499 = .ok (.iload 11, 2) := by decide +kernel
theorem dL_same_501 : decode cL_same 501 = .ok (.invokevirtual 87, 3) := by decide +kernel
theorem dL_same_504 : decode cL_same 504 = .ok (.iload 12, 2) := by decide +kernel
theorem dL_same_506 : decode cL_same 506 = .ok (.if_icmp .eq 5, 3) := by decide +kernel
theorem dL_same_509 : decode cL_same 509 = .ok (.iconst 0, 1) := by decide +kernel
theorem dL_same_510 : decode cL_same 510 = .ok (.ireturn, 1) := by decide +kernel
theorem dL_same_511 : decode cL_same 511 = .ok (.iinc 10 1, 3) := by decide +kernel
theorem dL_same_514 : decode cL_same 514 = .ok (.goto (-135), 3) := by decide +kernel
theorem dL_same_517 : decode cL_same 517 = .ok (.aload_n 2, 1) := by decide +kernel
theorem dL_same_518 : decode cL_same 518 = .ok (.iconst 1, 1) := by decide +kernel
theorem dL_same_519 : decode cL_same 519 = .ok (.iaload, 1) := by decide +kernel
theorem dL_same_520 : decode cL_same 520 = .ok (.ifCond .ne 7, 3) := by decide +kernel
theorem dL_same_523 : decode cL_same 523 = .ok (.dconst 0, 1) := by decide +kernel
theorem dL_same_524 : decode cL_same 524 = .ok (.goto 12, 3) := by decide +kernel
theorem dL_same_527 : decode cL_same 527 = .ok (.aload_n 2, 1) := by decide +kernel
theorem dL_same_528 : decode cL_same 528 = .ok (.iconst 2, 1) := by decide +kernel
theorem dL_same_529 : decode cL_same 529 = .ok (.iaload, 1) := by decide +kernel
theorem dL_same_530 : decode cL_same 530 = .ok (.i2d, 1) := by decide +kernel
theorem dL_same_531 : decode cL_same 531 = .ok (.aload_n 2, 1) := by decide +kernel
theorem dL_same_532 : decode cL_same 532 = .ok (.iconst 1, 1) := by decide +kernel
theorem dL_same_533 : decode cL_same 533 = .ok (.iaload, 1) := by decide +kernel
theorem dL_same_534 : decode cL_same 534 = .ok (.i2d, 1) := by decide +kernel
theorem dL_same_535 : decode cL_same 535 = .ok (.ddiv, 1) := by decide +kernel
theorem dL_same_536 : decode cL_same 536 = .ok (.dstore 10, 2) := by decide +kernel
theorem dL_same_538 : decode cL_same 538 = .ok (.aload_n 0, 1) := by decide +kernel
theorem dL_same_539 : decode cL_same 539 = .ok (.invokevirtual 90, 3) := by decide +kernel
theorem dL_same_542 : decode cL_same 542 = .ok (.dload 10, 2) := by decide +kernel
theorem dL_same_544 : decode cL_same 544 = .ok (.dcmp .l, 1) := by decide +kernel
theorem dL_same_545 : decode cL_same 545 = .ok (.ifCond .ne 91, 3) := by decide +kernel
theorem dL_same_548 : decode cL_same 548 = .ok (.aload_n 0, 1) := by decide +kernel
theorem dL_same_549 : decode cL_same 549 = .ok (.invokevirtual 94, 3) := by decide +kernel
theorem dL_same_552 : decode cL_same 552 = .ok (.aload_n 2, 1) := by decide +kernel
theorem dL_same_553 : decode cL_same 553 = .ok (.iconst 0, 1) := by decide +kernel
theorem dL_same_554 : decode cL_same 554 = .ok (.iaload, 1) := by decide +kernel
theorem dL_same_555 : decode cL_same 555 = .ok (.if_icmp .ne 81, 3) := by decide +kernel
theorem dL_same_558 : decode cL_same 558 = .ok (.aload_n 0, 1) := by decide +kernel
theorem dL_same_559 : decode cL_same 559 = .ok (.invokevirtual 98, 3) := by decide +kernel
theorem dL_same_562 : decode cL_same 562 = .ok (.aload_n 2, 1) := by decide +kernel
theorem dL_same_563 : decode cL_same 563 = .ok (.iconst 1, 1) := by decide +kernel
theorem dL_same_564 : decode cL_same 564 = .ok (.iaload, 1) := by decide +kernel
theorem dL_same_565 : decode cL_same 565 = .ok (.if_icmp .ne 71, 3) := by decide +kernel
theorem dL_same_568 : decode cL_same 568 = .ok (.aload_n 0, 1) := by decide +kernel
theorem dL_same_569 : decode cL_same 569 = .ok (.invokevirtual 101, 3) := by decide +kernel
theorem dL_same_572 : decode cL_same 572 = .ok (.aload_n 2, 1) := by decide +kernel
theorem dL_same_573 : decode cL_same 573 = .ok (.iconst 2, 1) := by decide +kernel
theorem dL_same_574 : decode cL_same 574 = .ok (.iaload, 1) := by decide +kernel
theorem dL_same_575 : decode cL_same 575 = .ok (.if_icmp .ne 61, 3) := by decide +kernel
theorem dL_same_578 : decode cL_same 578 = .ok (.aload_n 0, 1) := by decide +kernel
theorem dL_same_579 : decode cL_same 579 = .ok (.invokevirtual 104, 3) := by decide +kernel
theorem dL_same_582 : decode cL_same 582 = .ok (.aload_n 2, 1) := by decide +kernel
theorem dL_same_583 : decode cL_same 583 = .ok (.iconst 3, 1) := by decide +kernel
theorem dL_same_584 : decode cL_same 584 = .ok (.iaload, 1) := by decide +kernel
theorem dL_same_585 : decode cL_same 585 = .ok (.if_icmp .ne 51, 3) := by decide +kernel
theorem dL_same_588 : decode cL_same 588 = .ok (.aload_n 0, 1) := by decide +kernel
theorem dL_same_589 : decode cL_same 589 = .ok (.invokevirtual 107, 3) := by decide +kernel
theorem dL_same_592 : decode cL_same 592 = .ok (.iload 8, 2) := by decide +kernel
theorem dL_same_594 : decode cL_same 594 = .ok (.if_icmp .ne 42, 3) := by decide +kernel
theorem dL_same_597 : decode cL_same 597 = .ok (.aload_n 0, 1) := by decide +kernel
theorem dL_same_598 : decode cL_same 598 = .ok (.invokevirtual 110, 3) := by decide +kernel
theorem dL_same_601 : decode cL_same 601 = .ok (.aload_n 2, 1) := by decide +kernel
theorem dL_same_602 : decode cL_same 602 = .ok (.iconst 4, 1) := by decide +kernel
theorem dL_same_603 : decode cL_same 603 = .ok (.iaload, 1) := by decide +kernel
theorem dL_same_604 : decode cL_same 604 = .ok (.aload_n 2, 1) := by decide +kernel
theorem dL_same_605 : decode cL_same 605 = .ok (.iconst 5, 1) := by decide +kernel
theorem dL_same_606 : decode cL_same 606 = .ok (.iaload, 1) := by decide +kernel
theorem dL_same_607 : decode cL_same 607 = .ok (.isub, 1) := by decide +kernel
theorem dL_same_608 : decode cL_same 608 = .ok (.if_icmp .ne 28, 3) := by decide +kernel
theorem dL_same_611 : decode cL_same 611 = .ok (.iload 8, 2) := by decide +kernel
theorem dL_same_613 : decode cL_same 613 = .ok (.aload_n 2, 1) := by decide +kernel
theorem dL_same_614 : decode cL_same 614 = .ok (.iconst 4, 1) := by decide +kernel
theorem dL_same_615 : decode cL_same 615 = .ok (.iaload, 1) := by decide +kernel
theorem dL_same_616 : decode cL_same 616 = .ok (.aload_n 2, 1) := by decide +kernel
theorem dL_same_617 : decode cL_same 617 = .ok (.iconst 5, 1) := by decide +kernel
theorem dL_same_618 : decode cL_same 618 = .ok (.iaload, 1) := by decide +kernel
theorem dL_same_619 : decode cL_same 619 = .ok (.isub, 1) := by decide +kernel
theorem dL_same_620 : decode cL_same 620 = .ok (.if_icmp .ne 16, 3) := by decide +kernel
theorem dL_same_623 : decode cL_same 623 = .ok (.aload_n 0, 1) := by decide +kernel
theorem dL_same_624 : decode cL_same 624 = .ok (.invokevirtual 113, 3) := by decide +kernel
theorem dL_same_627 : decode cL_same 627 = .ok (.iload 9, 2) := by decide +kernel
theorem dL_same_629 : decode cL_same 629 = .ok (.if_icmp .ne 7, 3) := by decide +kernel
theorem dL_same_632 : decode cL_same 632 = .ok (.iconst 1, 1) := by decide +kernel
theorem dL_same_633 : decode cL_same 633 = .ok (.goto 4, 3) := by decide +kernel
theorem dL_same_636 : decode cL_same 636 = .ok (.iconst 0, 1) := by decide +kernel
theorem dL_same_637 : decode cL_same 637 = .ok (.ireturn, 1) := by decide +kernel
theorem dL_refused_0 : decode cL_refused 0 = .ok (.iload_n 1, 1) := by decide +kernel
theorem dL_refused_1 : decode cL_refused 1 = .ok (.ifCond .ne 11, 3) := by decide +kernel
theorem dL_refused_4 : decode cL_refused 4 = .ok (.aload_n 0, 1) := by decide +kernel
theorem dL_refused_5 : decode cL_refused 5 = .ok (.iload_n 2, 1) := by decide +kernel
theorem dL_refused_6 : decode cL_refused 6 = .ok (.invokevirtual 116, 3) := by decide +kernel
theorem dL_refused_9 : decode cL_refused 9 = .ok (.goto 8, 3) := by decide +kernel
theorem dL_refused_12 : decode cL_refused 12 = .ok (.aload_n 0, 1) := by decide +kernel
theorem dL_refused_13 : decode cL_refused 13 = .ok (.iload_n 2, 1) := by decide +kernel
theorem dL_refused_14 : decode cL_refused 14 = .ok (.invokevirtual 119, 3) := by decide +kernel
theorem dL_refused_17 : decode cL_refused 17 = .ok (.ifCond .ge 7, 3) := by decide +kernel
theorem dL_refused_20 : decode cL_refused 20 = .ok (.iconst 1, 1) := by decide +kernel
theorem dL_refused_21 : decode cL_refused 21 = .ok (.goto 4, 3) := by decide +kernel
theorem dL_refused_24 : decode cL_refused 24 = .ok (.iconst 0, 1) := by decide +kernel
theorem dL_refused_25 : decode cL_refused 25 = .ok (.ireturn, 1) := by decide +kernel
theorem dL_refused_26 : decode cL_refused 26 = .ok (.astore_n 3, 1) := by decide +kernel
theorem dL_refused_27 : decode cL_refused 27 = .ok (.iconst 1, 1) := by decide +kernel
theorem dL_refused_28 : decode cL_refused 28 = .ok (.ireturn, 1) := by decide +kernel
theorem dL_law_0 : decode cL_law 0 = .ok (.new 33, 3) := by decide +kernel
theorem dL_law_3 : decode cL_law 3 = .ok (.dup, 1) := by decide +kernel
theorem dL_law_4 : decode cL_law 4 = .ok (.invokespecial 124, 3) := by decide +kernel
theorem dL_law_7 : decode cL_law 7 = .ok (.astore_n 1, 1) := by decide +kernel
theorem dL_law_8 : decode cL_law 8 = .ok (.bipush 6, 2) := by decide +kernel
theorem dL_law_10 : decode cL_law 10 = .ok (.newarray .int, 2) := by decide +kernel
theorem dL_law_12 : decode cL_law 12 = .ok (.astore_n 2, 1) := by decide +kernel
theorem dL_law_13 : decode cL_law 13 = .ok (.bipush 30, 2) := by decide +kernel
theorem dL_law_15 : decode cL_law 15 = .ok (.newarray .int, 2) := by decide +kernel
theorem dL_law_17 : decode cL_law 17 = .ok (.astore_n 3, 1) := by decide +kernel
theorem dL_law_18 : decode cL_law 18 = .ok (.bipush 36, 2) := by decide +kernel
theorem dL_law_20 : decode cL_law 20 = .ok (.newarray .int, 2) := by decide +kernel
theorem dL_law_22 : decode cL_law 22 = .ok (.astore 4, 2) := by decide +kernel
theorem dL_law_24 : decode cL_law 24 = .ok (.bipush 36, 2) := by decide +kernel
theorem dL_law_26 : decode cL_law 26 = .ok (.newarray .int, 2) := by decide +kernel
theorem dL_law_28 : decode cL_law 28 = .ok (.astore 5, 2) := by decide +kernel
theorem dL_law_30 : decode cL_law 30 = .ok (.bipush 36, 2) := by decide +kernel
theorem dL_law_32 : decode cL_law 32 = .ok (.newarray .int, 2) := by decide +kernel
theorem dL_law_34 : decode cL_law 34 = .ok (.astore 6, 2) := by decide +kernel
theorem dL_law_36 : decode cL_law 36 = .ok (.bipush 36, 2) := by decide +kernel
theorem dL_law_38 : decode cL_law 38 = .ok (.newarray .int, 2) := by decide +kernel
theorem dL_law_40 : decode cL_law 40 = .ok (.astore 7, 2) := by decide +kernel
theorem dL_law_42 : decode cL_law 42 = .ok (.iconst 0, 1) := by decide +kernel
theorem dL_law_43 : decode cL_law 43 = .ok (.istore 8, 2) := by decide +kernel
theorem dL_law_45 : decode cL_law 45 = .ok (.iload 8, 2) := by decide +kernel
theorem dL_law_47 : decode cL_law 47 = .ok (.bipush 6, 2) := by decide +kernel
theorem dL_law_49 : decode cL_law 49 = .ok (.if_icmp .ge 49, 3) := by decide +kernel
theorem dL_law_52 : decode cL_law 52 = .ok (.aload_n 3, 1) := by decide +kernel
theorem dL_law_53 : decode cL_law 53 = .ok (.iconst 5, 1) := by decide +kernel
theorem dL_law_54 : decode cL_law 54 = .ok (.iload 8, 2) := by decide +kernel
theorem dL_law_56 : decode cL_law 56 = .ok (.imul, 1) := by decide +kernel
theorem dL_law_57 : decode cL_law 57 = .ok (.iload 8, 2) := by decide +kernel
theorem dL_law_59 : decode cL_law 59 = .ok (.ifCond .ne 7, 3) := by decide +kernel
theorem dL_law_62 : decode cL_law 62 = .ok (.iconst (-1), 1) := by decide +kernel
theorem dL_law_63 : decode cL_law 63 = .ok (.goto 9, 3) := by decide +kernel
theorem dL_law_66 : decode cL_law 66 = .ok (.iload 8, 2) := by decide +kernel
theorem dL_law_68 : decode cL_law 68 = .ok (.iconst 1, 1) := by decide +kernel
theorem dL_law_69 : decode cL_law 69 = .ok (.isub, 1) := by decide +kernel
theorem dL_law_70 : decode cL_law 70 = .ok (.iconst 2, 1) := by decide +kernel
theorem dL_law_71 : decode cL_law 71 = .ok (.idiv, 1) := by decide +kernel
theorem dL_law_72 : decode cL_law 72 = .ok (.iastore, 1) := by decide +kernel
theorem dL_law_73 : decode cL_law 73 = .ok (.aload_n 3, 1) := by decide +kernel
theorem dL_law_74 : decode cL_law 74 = .ok (.iconst 5, 1) := by decide +kernel
theorem dL_law_75 : decode cL_law 75 = .ok (.iload 8, 2) := by decide +kernel
theorem dL_law_77 : decode cL_law 77 = .ok (.imul, 1) := by decide +kernel
theorem dL_law_78 : decode cL_law 78 = .ok (.iconst 1, 1) := by decide +kernel
theorem dL_law_79 : decode cL_law 79 = .ok (.iadd, 1) := by decide +kernel
theorem dL_law_80 : decode cL_law 80 = .ok (.bipush 20, 2) := by decide +kernel
theorem dL_law_82 : decode cL_law 82 = .ok (.iastore, 1) := by decide +kernel
theorem dL_law_83 : decode cL_law 83 = .ok (.aload_n 3, 1) := by decide +kernel
theorem dL_law_84 : decode cL_law 84 = .ok (.iconst 5, 1) := by decide +kernel
theorem dL_law_85 : decode cL_law 85 = .ok (.iload 8, 2) := by decide +kernel
theorem dL_law_87 : decode cL_law 87 = .ok (.imul, 1) := by decide +kernel
theorem dL_law_88 : decode cL_law 88 = .ok (.iconst 2, 1) := by decide +kernel
theorem dL_law_89 : decode cL_law 89 = .ok (.iadd, 1) := by decide +kernel
theorem dL_law_90 : decode cL_law 90 = .ok (.iconst 5, 1) := by decide +kernel
theorem dL_law_91 : decode cL_law 91 = .ok (.iastore, 1) := by decide +kernel
theorem dL_law_92 : decode cL_law 92 = .ok (.iinc 8 1, 3) := by decide +kernel
theorem dL_law_95 : decode cL_law 95 = .ok (.goto (-50), 3) := by decide +kernel
theorem dL_law_98 : decode cL_law 98 = .ok (.iconst 0, 1) := by decide +kernel
theorem dL_law_99 : decode cL_law 99 = .ok (.istore 8, 2) := by decide +kernel
theorem dL_law_101 : decode cL_law 101 = .ok (.iload 8, 2) := by decide +kernel
theorem dL_law_103 : decode cL_law 103 = .ok (.bipush 50, 2) := by decide +kernel
theorem dL_law_105 : decode cL_law 105 = .ok (.if_icmp .ge 639, 3) := by decide +kernel
theorem dL_law_108 : decode cL_law 108 = .ok (.aload_n 0, 1) := by decide +kernel
theorem dL_law_109 : decode cL_law 109 = .ok (.iconst 2, 1) := by decide +kernel
theorem dL_law_110 : decode cL_law 110 = .ok (.iload 8, 2) := by decide +kernel
theorem dL_law_112 : decode cL_law 112 = .ok (.imul, 1) := by decide +kernel
theorem dL_law_113 : decode cL_law 113 = .ok (.invokestatic 125, 3) := by decide +kernel
theorem dL_law_116 : decode cL_law 116 = .ok (.istore 9, 2) := by decide +kernel
theorem dL_law_118 : decode cL_law 118 = .ok (.aload_n 0, 1) := by decide +kernel
theorem dL_law_119 : decode cL_law 119 = .ok (.iconst 2, 1) := by decide +kernel
theorem dL_law_120 : decode cL_law 120 = .ok (.iload 8, 2) := by decide +kernel
theorem dL_law_122 : decode cL_law 122 = .ok (.imul, 1) := by decide +kernel
theorem dL_law_123 : decode cL_law 123 = .ok (.iconst 1, 1) := by decide +kernel
theorem dL_law_124 : decode cL_law 124 = .ok (.iadd, 1) := by decide +kernel
theorem dL_law_125 : decode cL_law 125 = .ok (.invokestatic 125, 3) := by decide +kernel
theorem dL_law_128 : decode cL_law 128 = .ok (.istore 10, 2) := by decide +kernel
theorem dL_law_130 : decode cL_law 130 = .ok (.iload 9, 2) := by decide +kernel
theorem dL_law_132 : decode cL_law 132 = .ok (.bipush 26, 2) := by decide +kernel
theorem dL_law_134 : decode cL_law 134 = .ok (.invokestatic 73, 3) := by decide +kernel
theorem dL_law_137 : decode cL_law 137 = .ok (.istore 11, 2) := by decide +kernel
theorem dL_law_139 : decode cL_law 139 = .ok (.iload 10, 2) := by decide +kernel
theorem dL_law_141 : decode cL_law 141 = .ok (.iload 9, 2) := by decide +kernel
theorem dL_law_143 : decode cL_law 143 = .ok (.iconst 5, 1) := by decide +kernel
theorem dL_law_144 : decode cL_law 144 = .ok (.ishr, 1) := by decide +kernel
theorem dL_law_145 : decode cL_law 145 = .ok (.iconst 2, 1) := by decide +kernel
theorem dL_law_146 : decode cL_law 146 = .ok (.invokestatic 73, 3) := by decide +kernel
theorem dL_law_149 : decode cL_law 149 = .ok (.ifCond .ne 8, 3) := by decide +kernel
theorem dL_law_152 : decode cL_law 152 = .ok (.bipush 36, 2) := by decide +kernel
theorem dL_law_154 : decode cL_law 154 = .ok (.goto 5, 3) := by decide +kernel
theorem dL_law_157 : decode cL_law 157 = .ok (.bipush 9, 2) := by decide +kernel
theorem dL_law_159 : decode cL_law 159 = .ok (.invokestatic 73, 3) := by decide +kernel
theorem dL_law_162 : decode cL_law 162 = .ok (.istore 12, 2) := by decide +kernel
theorem dL_law_164 : decode cL_law 164 = .ok (.iconst 1, 1) := by decide +kernel
theorem dL_law_165 : decode cL_law 165 = .ok (.iload 10, 2) := by decide +kernel
theorem dL_law_167 : decode cL_law 167 = .ok (.iconst 4, 1) := by decide +kernel
theorem dL_law_168 : decode cL_law 168 = .ok (.ishr, 1) := by decide +kernel
theorem dL_law_169 : decode cL_law 169 = .ok (.iload 9, 2) := by decide +kernel
theorem dL_law_171 : decode cL_law 171 = .ok (.bipush 7, 2) := by decide +kernel
theorem dL_law_173 : decode cL_law 173 = .ok (.ishr, 1) := by decide +kernel
theorem dL_law_174 : decode cL_law 174 = .ok (.iconst 2, 1) := by decide +kernel
theorem dL_law_175 : decode cL_law 175 = .ok (.invokestatic 73, 3) := by decide +kernel
theorem dL_law_178 : decode cL_law 178 = .ok (.ifCond .ne 8, 3) := by decide +kernel
theorem dL_law_181 : decode cL_law 181 = .ok (.bipush 99, 2) := by decide +kernel
theorem dL_law_183 : decode cL_law 183 = .ok (.goto 5, 3) := by decide +kernel
theorem dL_law_186 : decode cL_law 186 = .ok (.bipush 9, 2) := by decide +kernel
theorem dL_law_188 : decode cL_law 188 = .ok (.invokestatic 73, 3) := by decide +kernel
theorem dL_law_191 : decode cL_law 191 = .ok (.iadd, 1) := by decide +kernel
theorem dL_law_192 : decode cL_law 192 = .ok (.istore 13, 2) := by decide +kernel
theorem dL_law_194 : decode cL_law 194 = .ok (.iload 11, 2) := by decide +kernel
theorem dL_law_196 : decode cL_law 196 = .ok (.iconst 4, 1) := by decide +kernel
theorem dL_law_197 : decode cL_law 197 = .ok (.if_icmp .ge 64, 3) := by decide +kernel
theorem dL_law_200 : decode cL_law 200 = .ok (.iload 10, 2) := by decide +kernel
theorem dL_law_202 : decode cL_law 202 = .ok (.bipush 9, 2) := by decide +kernel
theorem dL_law_204 : decode cL_law 204 = .ok (.ishr, 1) := by decide +kernel
theorem dL_law_205 : decode cL_law 205 = .ok (.bipush 100, 2) := by decide +kernel
theorem dL_law_207 : decode cL_law 207 = .ok (.invokestatic 73, 3) := by decide +kernel
theorem dL_law_210 : decode cL_law 210 = .ok (.istore 14, 2) := by decide +kernel
theorem dL_law_212 : decode cL_law 212 = .ok (.aload 4, 2) := by decide +kernel
theorem dL_law_214 : decode cL_law 214 = .ok (.iload 12, 2) := by decide +kernel
theorem dL_law_216 : decode cL_law 216 = .ok (.iaload, 1) := by decide +kernel
theorem dL_law_217 : decode cL_law 217 = .ok (.sipush 1000, 3) := by decide +kernel
theorem dL_law_220 : decode cL_law 220 = .ok (.idiv, 1) := by decide +kernel
theorem dL_law_221 : decode cL_law 221 = .ok (.istore 15, 2) := by decide +kernel
theorem dL_law_223 : decode cL_law 223 = .ok (.aload 4, 2) := by decide +kernel
theorem dL_law_225 : decode cL_law 225 = .ok (.iload 12, 2) := by decide +kernel
theorem dL_law_227 : decode cL_law 227 = .ok (.sipush 1000, 3) := by decide +kernel
theorem dL_law_230 : decode cL_law 230 = .ok (.iload 14, 2) := by decide +kernel
theorem dL_law_232 : decode cL_law 232 = .ok (.iadd, 1) := by decide +kernel
theorem dL_law_233 : decode cL_law 233 = .ok (.iastore, 1) := by decide +kernel
theorem dL_law_234 : decode cL_law 234 = .ok (.aload 5, 2) := by decide +kernel
theorem dL_law_236 : decode cL_law 236 = .ok (.iload 12, 2) := by decide +kernel
theorem dL_law_238 : decode cL_law 238 = .ok (.iload 13, 2) := by decide +kernel
theorem dL_law_240 : decode cL_law 240 = .ok (.iastore, 1) := by decide +kernel
theorem dL_law_241 : decode cL_law 241 = .ok (.aload_n 1, 1) := by decide +kernel
theorem dL_law_242 : decode cL_law 242 = .ok (.iload 12, 2) := by decide +kernel
theorem dL_law_244 : decode cL_law 244 = .ok (.iload 14, 2) := by decide +kernel
theorem dL_law_246 : decode cL_law 246 = .ok (.iload 13, 2) := by decide +kernel
theorem dL_law_248 : decode cL_law 248 = .ok (.invokevirtual 129, 3) := by decide +kernel
theorem dL_law_251 : decode cL_law 251 = .ok (.iload 15, 2) := by decide +kernel
theorem dL_law_253 : decode cL_law 253 = .ok (.if_icmp .eq 5, 3) := by decide +kernel
theorem dL_law_256 : decode cL_law 256 = .ok (.iconst 0, 1) := by decide +kernel
theorem dL_law_257 : decode cL_law 257 = .ok (.ireturn, 1) := by decide +kernel
theorem dL_law_258 : decode cL_law 258 = .ok (.goto 457, 3) := by decide +kernel
theorem dL_law_261 : decode cL_law 261 = .ok (.iload 11, 2) := by decide +kernel
theorem dL_law_263 : decode cL_law 263 = .ok (.bipush 8, 2) := by decide +kernel
theorem dL_law_265 : decode cL_law 265 = .ok (.if_icmp .ge 90, 3) := by decide +kernel
theorem dL_law_268 : decode cL_law 268 = .ok (.iload 10, 2) := by decide +kernel
theorem dL_law_270 : decode cL_law 270 = .ok (.bipush 9, 2) := by decide +kernel
theorem dL_law_272 : decode cL_law 272 = .ok (.ishr, 1) := by decide +kernel
theorem dL_law_273 : decode cL_law 273 = .ok (.iload 9, 2) := by decide +kernel
theorem dL_law_275 : decode cL_law 275 = .ok (.iconst 5, 1) := by decide +kernel
theorem dL_law_276 : decode cL_law 276 = .ok (.ishr, 1) := by decide +kernel
theorem dL_law_277 : decode cL_law 277 = .ok (.iconst 2, 1) := by decide +kernel
theorem dL_law_278 : decode cL_law 278 = .ok (.invokestatic 73, 3) := by decide +kernel
theorem dL_law_281 : decode cL_law 281 = .ok (.ifCond .ne 8, 3) := by decide +kernel
theorem dL_law_284 : decode cL_law 284 = .ok (.bipush 36, 2) := by decide +kernel
theorem dL_law_286 : decode cL_law 286 = .ok (.goto 5, 3) := by decide +kernel
theorem dL_law_289 : decode cL_law 289 = .ok (.bipush 9, 2) := by decide +kernel
theorem dL_law_291 : decode cL_law 291 = .ok (.invokestatic 73, 3) := by decide +kernel
theorem dL_law_294 : decode cL_law 294 = .ok (.istore 14, 2) := by decide +kernel
theorem dL_law_296 : decode cL_law 296 = .ok (.iload 14, 2) := by decide +kernel
theorem dL_law_298 : decode cL_law 298 = .ok (.iload 12, 2) := by decide +kernel
theorem dL_law_300 : decode cL_law 300 = .ok (.if_icmp .ne 6, 3) := by decide +kernel
theorem dL_law_303 : decode cL_law 303 = .ok (.goto 435, 3) := by decide +kernel
theorem dL_law_306 : decode cL_law 306 = .ok (.aload 4, 2) := by decide +kernel
theorem dL_law_308 : decode cL_law 308 = .ok (.iload 12, 2) := by decide +kernel
theorem dL_law_310 : decode cL_law 310 = .ok (.iaload, 1) := by decide +kernel
theorem dL_law_311 : decode cL_law 311 = .ok (.sipush 1000, 3) := by decide +kernel
theorem dL_law_314 : decode cL_law 314 = .ok (.idiv, 1) := by decide +kernel
theorem dL_law_315 : decode cL_law 315 = .ok (.istore 15, 2) := by decide +kernel
theorem dL_law_317 : decode cL_law 317 = .ok (.aload 4, 2) := by decide +kernel
theorem dL_law_319 : decode cL_law 319 = .ok (.iload 12, 2) := by decide +kernel
theorem dL_law_321 : decode cL_law 321 = .ok (.sipush 2000, 3) := by decide +kernel
theorem dL_law_324 : decode cL_law 324 = .ok (.iload 14, 2) := by decide +kernel
theorem dL_law_326 : decode cL_law 326 = .ok (.iadd, 1) := by decide +kernel
theorem dL_law_327 : decode cL_law 327 = .ok (.iastore, 1) := by decide +kernel
theorem dL_law_328 : decode cL_law 328 = .ok (.aload 5, 2) := by decide +kernel
theorem dL_law_330 : decode cL_law 330 = .ok (.iload 12, 2) := by decide +kernel
theorem dL_law_332 : decode cL_law 332 = .ok (.iload 13, 2) := by decide +kernel
theorem dL_law_334 : decode cL_law 334 = .ok (.iastore, 1) := by decide +kernel
theorem dL_law_335 : decode cL_law 335 = .ok (.aload_n 1, 1) := by decide +kernel
theorem dL_law_336 : decode cL_law 336 = .ok (.iload 12, 2) := by decide +kernel
theorem dL_law_338 : decode cL_law 338 = .ok (.iload 14, 2) := by decide +kernel
theorem dL_law_340 : decode cL_law 340 = .ok (.iload 13, 2) := by decide +kernel
theorem dL_law_342 : decode cL_law 342 = .ok (.invokevirtual 133, 3) := by decide +kernel
theorem dL_law_345 : decode cL_law 345 = .ok (.iload 15, 2) := by decide +kernel
theorem dL_law_347 : decode cL_law 347 = .ok (.if_icmp .eq 5, 3) := by decide +kernel
theorem dL_law_350 : decode cL_law 350 = .ok (.iconst 0, 1) := by decide +kernel
theorem dL_law_351 : decode cL_law 351 = .ok (.ireturn, 1) := by decide +kernel
theorem dL_law_352 : decode cL_law 352 = .ok (.goto 363, 3) := by decide +kernel
theorem dL_law_355 : decode cL_law 355 = .ok (.iload 11, 2) := by decide +kernel
theorem dL_law_357 : decode cL_law 357 = .ok (.bipush 8, 2) := by decide +kernel
theorem dL_law_359 : decode cL_law 359 = .ok (.if_icmp .ne 56, 3) := by decide +kernel
theorem dL_law_362 : decode cL_law 362 = .ok (.aload 4, 2) := by decide +kernel
theorem dL_law_364 : decode cL_law 364 = .ok (.iload 12, 2) := by decide +kernel
theorem dL_law_366 : decode cL_law 366 = .ok (.iaload, 1) := by decide +kernel
theorem dL_law_367 : decode cL_law 367 = .ok (.ifCond .ne 15, 3) := by decide +kernel
theorem dL_law_370 : decode cL_law 370 = .ok (.aload_n 1, 1) := by decide +kernel
theorem dL_law_371 : decode cL_law 371 = .ok (.iconst 0, 1) := by decide +kernel
theorem dL_law_372 : decode cL_law 372 = .ok (.iload 12, 2) := by decide +kernel
theorem dL_law_374 : decode cL_law 374 = .ok (.invokestatic 136, 3) := by decide +kernel
theorem dL_law_377 : decode cL_law 377 = .ok (.ifCond .ne 361, 3) := by decide +kernel
theorem dL_law_380 : decode cL_law 380 = .ok (.iconst 0, 1) := by decide +kernel
theorem dL_law_381 : decode cL_law 381 = .ok (.ireturn, 1) := by decide +kernel
theorem dL_law_382 : decode cL_law 382 = .ok (.aload 4, 2) := by decide +kernel
theorem dL_law_384 : decode cL_law 384 = .ok (.iload 12, 2) := by decide +kernel
theorem dL_law_386 : decode cL_law 386 = .ok (.iaload, 1) := by decide +kernel
theorem dL_law_387 : decode cL_law 387 = .ok (.sipush 1000, 3) := by decide +kernel
theorem dL_law_390 : decode cL_law 390 = .ok (.idiv, 1) := by decide +kernel
theorem dL_law_391 : decode cL_law 391 = .ok (.istore 14, 2) := by decide +kernel
theorem dL_law_393 : decode cL_law 393 = .ok (.aload 4, 2) := by decide +kernel
theorem dL_law_395 : decode cL_law 395 = .ok (.iload 12, 2) := by decide +kernel
theorem dL_law_397 : decode cL_law 397 = .ok (.iconst 0, 1) := by decide +kernel
theorem dL_law_398 : decode cL_law 398 = .ok (.iastore, 1) := by decide +kernel
theorem dL_law_399 : decode cL_law 399 = .ok (.aload_n 1, 1) := by decide +kernel
theorem dL_law_400 : decode cL_law 400 = .ok (.iload 12, 2) := by decide +kernel
theorem dL_law_402 : decode cL_law 402 = .ok (.invokevirtual 116, 3) := by decide +kernel
theorem dL_law_405 : decode cL_law 405 = .ok (.iload 14, 2) := by decide +kernel
theorem dL_law_407 : decode cL_law 407 = .ok (.if_icmp .eq 5, 3) := by decide +kernel
theorem dL_law_410 : decode cL_law 410 = .ok (.iconst 0, 1) := by decide +kernel
theorem dL_law_411 : decode cL_law 411 = .ok (.ireturn, 1) := by decide +kernel
theorem dL_law_412 : decode cL_law 412 = .ok (.goto 303, 3) := by decide +kernel
theorem dL_law_415 : decode cL_law 415 = .ok (.iload 11, 2) := by decide +kernel
theorem dL_law_417 : decode cL_law 417 = .ok (.bipush 9, 2) := by decide +kernel
theorem dL_law_419 : decode cL_law 419 = .ok (.if_icmp .ne 58, 3) := by decide +kernel
theorem dL_law_422 : decode cL_law 422 = .ok (.iconst 1, 1) := by decide +kernel
theorem dL_law_423 : decode cL_law 423 = .ok (.iload 10, 2) := by decide +kernel
theorem dL_law_425 : decode cL_law 425 = .ok (.iconst 5, 1) := by decide +kernel
theorem dL_law_426 : decode cL_law 426 = .ok (.invokestatic 73, 3) := by decide +kernel
theorem dL_law_429 : decode cL_law 429 = .ok (.iadd, 1) := by decide +kernel
theorem dL_law_430 : decode cL_law 430 = .ok (.istore 14, 2) := by decide +kernel
theorem dL_law_432 : decode cL_law 432 = .ok (.iload 10, 2) := by decide +kernel
theorem dL_law_434 : decode cL_law 434 = .ok (.iconst 3, 1) := by decide +kernel
theorem dL_law_435 : decode cL_law 435 = .ok (.ishr, 1) := by decide +kernel
theorem dL_law_436 : decode cL_law 436 = .ok (.iload 14, 2) := by decide +kernel
theorem dL_law_438 : decode cL_law 438 = .ok (.invokestatic 73, 3) := by decide +kernel
theorem dL_law_441 : decode cL_law 441 = .ok (.istore 15, 2) := by decide +kernel
theorem dL_law_443 : decode cL_law 443 = .ok (.aload_n 3, 1) := by decide +kernel
theorem dL_law_444 : decode cL_law 444 = .ok (.iconst 5, 1) := by decide +kernel
theorem dL_law_445 : decode cL_law 445 = .ok (.iload 14, 2) := by decide +kernel
theorem dL_law_447 : decode cL_law 447 = .ok (.imul, 1) := by decide +kernel
theorem dL_law_448 : decode cL_law 448 = .ok (.iaload, 1) := by decide +kernel
theorem dL_law_449 : decode cL_law 449 = .ok (.istore 16, 2) := by decide +kernel
theorem dL_law_451 : decode cL_law 451 = .ok (.aload_n 3, 1) := by decide +kernel
theorem dL_law_452 : decode cL_law 452 = .ok (.iconst 5, 1) := by decide +kernel
theorem dL_law_453 : decode cL_law 453 = .ok (.iload 14, 2) := by decide +kernel
theorem dL_law_455 : decode cL_law 455 = .ok (.imul, 1) := by decide +kernel
theorem dL_law_456 : decode cL_law 456 = .ok (.iload 15, 2) := by decide +kernel
theorem dL_law_458 : decode cL_law 458 = .ok (.iastore, 1) := by decide +kernel
theorem dL_law_459 : decode cL_law 459 = .ok (.aload_n 1, 1) := by decide +kernel
theorem dL_law_460 : decode cL_law 460 = .ok (.iload 14, 2) := by decide +kernel
theorem dL_law_462 : decode cL_law 462 = .ok (.iload 15, 2) := by decide +kernel
theorem dL_law_464 : decode cL_law 464 = .ok (.invokevirtual 140, 3) := by decide +kernel
theorem dL_law_467 : decode cL_law 467 = .ok (.iload 16, 2) := by decide +kernel
theorem dL_law_469 : decode cL_law 469 = .ok (.if_icmp .eq 5, 3) := by decide +kernel
theorem dL_law_472 : decode cL_law 472 = .ok (.iconst 0, 1) := by decide +kernel
theorem dL_law_473 : decode cL_law 473 = .ok (.ireturn, 1) := by decide +kernel
theorem dL_law_474 : decode cL_law 474 = .ok (.goto 241, 3) := by decide +kernel
theorem dL_law_477 : decode cL_law 477 = .ok (.iload 11, 2) := by decide +kernel
theorem dL_law_479 : decode cL_law 479 = .ok (.bipush 10, 2) := by decide +kernel
theorem dL_law_481 : decode cL_law 481 = .ok (.if_icmp .ne 78, 3) := by decide +kernel
theorem dL_law_484 : decode cL_law 484 = .ok (.iload 10, 2) := by decide +kernel
theorem dL_law_486 : decode cL_law 486 = .ok (.bipush 6, 2) := by decide +kernel
theorem dL_law_488 : decode cL_law 488 = .ok (.invokestatic 73, 3) := by decide +kernel
theorem dL_law_491 : decode cL_law 491 = .ok (.istore 14, 2) := by decide +kernel
theorem dL_law_493 : decode cL_law 493 = .ok (.aload_n 3, 1) := by decide +kernel
theorem dL_law_494 : decode cL_law 494 = .ok (.iconst 5, 1) := by decide +kernel
theorem dL_law_495 : decode cL_law 495 = .ok (.iload 14, 2) := by decide +kernel
theorem dL_law_497 : decode cL_law 497 = .ok (.imul, 1) := by decide +kernel
theorem dL_law_498 : decode cL_law 498 = .ok (.iconst 1, 1) := by decide +kernel
theorem dL_law_499 : decode cL_law 499 = .ok (.iadd, 1) := by decide +kernel
theorem dL_law_500 : decode cL_law 500 = .ok (.iaload, 1) := by decide +kernel
theorem dL_law_501 : decode cL_law 501 = .ok (.istore 15, 2) := by decide +kernel
theorem dL_law_503 : decode cL_law 503 = .ok (.aload_n 3, 1) := by decide +kernel
theorem dL_law_504 : decode cL_law 504 = .ok (.iconst 5, 1) := by decide +kernel
theorem dL_law_505 : decode cL_law 505 = .ok (.iload 14, 2) := by decide +kernel
theorem dL_law_507 : decode cL_law 507 = .ok (.imul, 1) := by decide +kernel
theorem dL_law_508 : decode cL_law 508 = .ok (.iconst 1, 1) := by decide +kernel
theorem dL_law_509 : decode cL_law 509 = .ok (.iadd, 1) := by decide +kernel
theorem dL_law_510 : decode cL_law 510 = .ok (.iload 13, 2) := by decide +kernel
theorem dL_law_512 : decode cL_law 512 = .ok (.iastore, 1) := by decide +kernel
theorem dL_law_513 : decode cL_law 513 = .ok (.aload_n 3, 1) := by decide +kernel
theorem dL_law_514 : decode cL_law 514 = .ok (.iconst 5, 1) := by decide +kernel
theorem dL_law_515 : decode cL_law 515 = .ok (.iload 14, 2) := by decide +kernel
theorem dL_law_517 : decode cL_law 517 = .ok (.imul, 1) := by decide +kernel
theorem dL_law_518 : decode cL_law 518 = .ok (.iconst 2, 1) := by decide +kernel
theorem dL_law_519 : decode cL_law 519 = .ok (.iadd, 1) := by decide +kernel
theorem dL_law_520 : decode cL_law 520 = .ok (.iconst 1, 1) := by decide +kernel
theorem dL_law_521 : decode cL_law 521 = .ok (.iload 10, 2) := by decide +kernel
theorem dL_law_523 : decode cL_law 523 = .ok (.bipush 9, 2) := by decide +kernel
theorem dL_law_525 : decode cL_law 525 = .ok (.ishr, 1) := by decide +kernel
theorem dL_law_526 : decode cL_law 526 = .ok (.bipush 20, 2) := by decide +kernel
theorem dL_law_528 : decode cL_law 528 = .ok (.invokestatic 73, 3) := by decide +kernel
theorem dL_law_531 : decode cL_law 531 = .ok (.iadd, 1) := by decide +kernel
theorem dL_law_532 : decode cL_law 532 = .ok (.iastore, 1) := by decide +kernel
theorem dL_law_533 : decode cL_law 533 = .ok (.aload_n 1, 1) := by decide +kernel
theorem dL_law_534 : decode cL_law 534 = .ok (.iload 14, 2) := by decide +kernel
theorem dL_law_536 : decode cL_law 536 = .ok (.iload 13, 2) := by decide +kernel
theorem dL_law_538 : decode cL_law 538 = .ok (.aload_n 3, 1) := by decide +kernel
theorem dL_law_539 : decode cL_law 539 = .ok (.iconst 5, 1) := by decide +kernel
theorem dL_law_540 : decode cL_law 540 = .ok (.iload 14, 2) := by decide +kernel
theorem dL_law_542 : decode cL_law 542 = .ok (.imul, 1) := by decide +kernel
theorem dL_law_543 : decode cL_law 543 = .ok (.iconst 2, 1) := by decide +kernel
theorem dL_law_544 : decode cL_law 544 = .ok (.iadd, 1) := by decide +kernel
theorem dL_law_545 : decode cL_law 545 = .ok (.iaload, 1) := by decide +kernel
theorem dL_law_546 : decode cL_law 546 = .ok (.invokevirtual 143, 3) := by decide +kernel
theorem dL_law_549 : decode cL_law 549 = .ok (.iload 15, 2) := by decide +kernel
theorem dL_law_551 : decode cL_law 551 = .ok (.if_icmp .eq 5, 3) := by decide +kernel
theorem dL_law_554 : decode cL_law 554 = .ok (.iconst 0, 1) := by decide +kernel
theorem dL_law_555 : decode cL_law 555 = .ok (.ireturn, 1) := by decide +kernel
theorem dL_law_556 : decode cL_law 556 = .ok (.goto 159, 3) := by decide +kernel
theorem dL_law_559 : decode cL_law 559 = .ok (.iload 11, 2) := by decide +kernel
theorem dL_law_561 : decode cL_law 561 = .ok (.bipush 20, 2) := by decide +kernel
theorem dL_law_563 : decode cL_law 563 = .ok (.if_icmp .ge 36, 3) := by decide +kernel
theorem dL_law_566 : decode cL_law 566 = .ok (.aload_n 2, 1) := by decide +kernel
theorem dL_law_567 : decode cL_law 567 = .ok (.iconst 1, 1) := by decide +kernel
theorem dL_law_568 : decode cL_law 568 = .ok (.dup2, 1) := by decide +kernel
theorem dL_law_569 : decode cL_law 569 = .ok (.iaload, 1) := by decide +kernel
theorem dL_law_570 : decode cL_law 570 = .ok (.iconst 1, 1) := by decide +kernel
theorem dL_law_571 : decode cL_law 571 = .ok (.iadd, 1) := by decide +kernel
theorem dL_law_572 : decode cL_law 572 = .ok (.iastore, 1) := by decide +kernel
theorem dL_law_573 : decode cL_law 573 = .ok (.aload_n 1, 1) := by decide +kernel
theorem dL_law_574 : decode cL_law 574 = .ok (.iload 12, 2) := by decide +kernel
theorem dL_law_576 : decode cL_law 576 = .ok (.invokevirtual 146, 3) := by decide +kernel
theorem dL_law_579 : decode cL_law 579 = .ok (.iload 12, 2) := by decide +kernel
theorem dL_law_581 : decode cL_law 581 = .ok (.aload_n 2, 1) := by decide +kernel
theorem dL_law_582 : decode cL_law 582 = .ok (.aload_n 3, 1) := by decide +kernel
theorem dL_law_583 : decode cL_law 583 = .ok (.aload 4, 2) := by decide +kernel
theorem dL_law_585 : decode cL_law 585 = .ok (.aload 5, 2) := by decide +kernel
theorem dL_law_587 : decode cL_law 587 = .ok (.aload 6, 2) := by decide +kernel
theorem dL_law_589 : decode cL_law 589 = .ok (.aload 7, 2) := by decide +kernel
theorem dL_law_591 : decode cL_law 591 = .ok (.invokestatic 28, 3) := by decide +kernel
theorem dL_law_594 : decode cL_law 594 = .ok (.if_icmp .eq 121, 3) := by decide +kernel
theorem dL_law_597 : decode cL_law 597 = .ok (.iconst 0, 1) := by decide +kernel
theorem dL_law_598 : decode cL_law 598 = .ok (.ireturn, 1) := by decide +kernel
theorem dL_law_599 : decode cL_law 599 = .ok (.iload 11, 2) := by decide +kernel
theorem dL_law_601 : decode cL_law 601 = .ok (.bipush 20, 2) := by decide +kernel
theorem dL_law_603 : decode cL_law 603 = .ok (.if_icmp .ne 63, 3) := by decide +kernel
theorem dL_law_606 : decode cL_law 606 = .ok (.aload 6, 2) := by decide +kernel
theorem dL_law_608 : decode cL_law 608 = .ok (.iload 12, 2) := by decide +kernel
theorem dL_law_610 : decode cL_law 610 = .ok (.iaload, 1) := by decide +kernel
theorem dL_law_611 : decode cL_law 611 = .ok (.ifCond .ne 15, 3) := by decide +kernel
theorem dL_law_614 : decode cL_law 614 = .ok (.aload_n 1, 1) := by decide +kernel
theorem dL_law_615 : decode cL_law 615 = .ok (.iconst 1, 1) := by decide +kernel
theorem dL_law_616 : decode cL_law 616 = .ok (.iload 12, 2) := by decide +kernel
theorem dL_law_618 : decode cL_law 618 = .ok (.invokestatic 136, 3) := by decide +kernel
theorem dL_law_621 : decode cL_law 621 = .ok (.ifCond .ne 117, 3) := by decide +kernel
theorem dL_law_624 : decode cL_law 624 = .ok (.iconst 0, 1) := by decide +kernel
theorem dL_law_625 : decode cL_law 625 = .ok (.ireturn, 1) := by decide +kernel
theorem dL_law_626 : decode cL_law 626 = .ok (.aload 6, 2) := by decide +kernel
theorem dL_law_628 : decode cL_law 628 = .ok (.iload 12, 2) := by decide +kernel
theorem dL_law_630 : decode cL_law 630 = .ok (.iaload, 1) := by decide +kernel
theorem dL_law_631 : decode cL_law 631 = .ok (.sipush 1000, 3) := by decide +kernel
theorem dL_law_634 : decode cL_law 634 = .ok (.idiv, 1) := by decide +kernel
theorem dL_law_635 : decode cL_law 635 = .ok (.istore 14, 2) := by decide +kernel
theorem dL_law_637 : decode cL_law 637 = .ok (.aload 6, 2) := by decide +kernel
theorem dL_law_639 : decode cL_law 639 = .ok (.iload 12, 2) := by decide +kernel
theorem dL_law_641 : decode cL_law 641 = .ok (.iconst 0, 1) := by decide +kernel
theorem dL_law_642 : decode cL_law 642 = .ok (.iastore, 1) := by decide +kernel
theorem dL_law_643 : decode cL_law 643 = .ok (.aload_n 2, 1) := by decide +kernel
theorem dL_law_644 : decode cL_law 644 = .ok (.iconst 5, 1) := by decide +kernel
theorem dL_law_645 : decode cL_law 645 = .ok (.dup2, 1) := by decide +kernel
theorem dL_law_646 : decode cL_law 646 = .ok (.iaload, 1) := by decide +kernel
theorem dL_law_647 : decode cL_law 647 = .ok (.iconst 1, 1) := by decide +kernel
theorem dL_law_648 : decode cL_law 648 = .ok (.iadd, 1) := by decide +kernel
theorem dL_law_649 : decode cL_law 649 = .ok (.iastore, 1) := by decide +kernel
theorem dL_law_650 : decode cL_law 650 = .ok (.aload_n 1, 1) := by decide +kernel
theorem dL_law_651 : decode cL_law 651 = .ok (.iload 12, 2) := by decide +kernel
theorem dL_law_653 : decode cL_law 653 = .ok (.invokevirtual 119, 3) := by decide +kernel
theorem dL_law_656 : decode cL_law 656 = .ok (.iload 14, 2) := by decide +kernel
theorem dL_law_658 : decode cL_law 658 = .ok (.if_icmp .eq 5, 3) := by decide +kernel
theorem dL_law_661 : decode cL_law 661 = .ok (.iconst 0, 1) := by decide +kernel
theorem dL_law_662 : decode cL_law 662 = .ok (.ireturn, 1) := by decide +kernel
theorem dL_law_663 : decode cL_law 663 = .ok (.goto 52, 3) := by decide +kernel
theorem dL_law_666 : decode cL_law 666 = .ok (.iconst 1, 1) := by decide +kernel
theorem dL_law_667 : decode cL_law 667 = .ok (.iload 10, 2) := by decide +kernel
theorem dL_law_669 : decode cL_law 669 = .ok (.iload 9, 2) := by decide +kernel
theorem dL_law_671 : decode cL_law 671 = .ok (.iconst 5, 1) := by decide +kernel
theorem dL_law_672 : decode cL_law 672 = .ok (.ishr, 1) := by decide +kernel
theorem dL_law_673 : decode cL_law 673 = .ok (.iconst 4, 1) := by decide +kernel
theorem dL_law_674 : decode cL_law 674 = .ok (.invokestatic 73, 3) := by decide +kernel
theorem dL_law_677 : decode cL_law 677 = .ok (.ifCond .ne 8, 3) := by decide +kernel
theorem dL_law_680 : decode cL_law 680 = .ok (.bipush 60, 2) := by decide +kernel
theorem dL_law_682 : decode cL_law 682 = .ok (.goto 5, 3) := by decide +kernel
theorem dL_law_685 : decode cL_law 685 = .ok (.bipush 6, 2) := by decide +kernel
theorem dL_law_687 : decode cL_law 687 = .ok (.invokestatic 73, 3) := by decide +kernel
theorem dL_law_690 : decode cL_law 690 = .ok (.iadd, 1) := by decide +kernel
theorem dL_law_691 : decode cL_law 691 = .ok (.istore 14, 2) := by decide +kernel
theorem dL_law_693 : decode cL_law 693 = .ok (.aload_n 1, 1) := by decide +kernel
theorem dL_law_694 : decode cL_law 694 = .ok (.iload 14, 2) := by decide +kernel
theorem dL_law_696 : decode cL_law 696 = .ok (.invokevirtual 148, 3) := by decide +kernel
theorem dL_law_699 : decode cL_law 699 = .ok (.iload 14, 2) := by decide +kernel
theorem dL_law_701 : decode cL_law 701 = .ok (.aload_n 2, 1) := by decide +kernel
theorem dL_law_702 : decode cL_law 702 = .ok (.aload_n 3, 1) := by decide +kernel
theorem dL_law_703 : decode cL_law 703 = .ok (.aload 6, 2) := by decide +kernel
theorem dL_law_705 : decode cL_law 705 = .ok (.aload 7, 2) := by decide +kernel
theorem dL_law_707 : decode cL_law 707 = .ok (.invokestatic 24, 3) := by decide +kernel
theorem dL_law_710 : decode cL_law 710 = .ok (.if_icmp .eq 5, 3) := by decide +kernel
theorem dL_law_713 : decode cL_law 713 = .ok (.iconst 0, 1) := by decide +kernel
theorem dL_law_714 : decode cL_law 714 = .ok (.ireturn, 1) := by decide +kernel
theorem dL_law_715 : decode cL_law 715 = .ok (.aload_n 1, 1) := by decide +kernel
theorem dL_law_716 : decode cL_law 716 = .ok (.iload 10, 2) := by decide +kernel
theorem dL_law_718 : decode cL_law 718 = .ok (.iconst 2, 1) := by decide +kernel
theorem dL_law_719 : decode cL_law 719 = .ok (.ishr, 1) := by decide +kernel
theorem dL_law_720 : decode cL_law 720 = .ok (.aload_n 2, 1) := by decide +kernel
theorem dL_law_721 : decode cL_law 721 = .ok (.aload_n 3, 1) := by decide +kernel
theorem dL_law_722 : decode cL_law 722 = .ok (.aload 4, 2) := by decide +kernel
theorem dL_law_724 : decode cL_law 724 = .ok (.aload 5, 2) := by decide +kernel
theorem dL_law_726 : decode cL_law 726 = .ok (.aload 6, 2) := by decide +kernel
theorem dL_law_728 : decode cL_law 728 = .ok (.aload 7, 2) := by decide +kernel
theorem dL_law_730 : decode cL_law 730 = .ok (.invokestatic 150, 3) := by decide +kernel
theorem dL_law_733 : decode cL_law 733 = .ok (.ifCond .ne 5, 3) := by decide +kernel
theorem dL_law_736 : decode cL_law 736 = .ok (.iconst 0, 1) := by decide +kernel
theorem dL_law_737 : decode cL_law 737 = .ok (.ireturn, 1) := by decide +kernel
theorem dL_law_738 : decode cL_law 738 = .ok (.iinc 8 1, 3) := by decide +kernel
theorem dL_law_741 : decode cL_law 741 = .ok (.goto (-640), 3) := by decide +kernel
theorem dL_law_744 : decode cL_law 744 = .ok (.iconst 1, 1) := by decide +kernel
theorem dL_law_745 : decode cL_law 745 = .ok (.ireturn, 1) := by decide +kernel
