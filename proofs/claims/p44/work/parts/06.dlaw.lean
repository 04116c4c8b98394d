theorem dL_cell_0 : decode cL_cell 0 = .ok (.iload_n 1, 1) := by decide +kernel
theorem dL_cell_1 : decode cL_cell 1 = .ok (.aload_n 0, 1) := by decide +kernel
theorem dL_cell_2 : decode cL_cell 2 = .ok (.arraylength, 1) := by decide +kernel
theorem dL_cell_3 : decode cL_cell 3 = .ok (.if_icmp .ge 9, 3) := by decide +kernel
theorem dL_cell_6 : decode cL_cell 6 = .ok (.aload_n 0, 1) := by decide +kernel
theorem dL_cell_7 : decode cL_cell 7 = .ok (.iload_n 1, 1) := by decide +kernel
theorem dL_cell_8 : decode cL_cell 8 = .ok (.iaload, 1) := by decide +kernel
theorem dL_cell_9 : decode cL_cell 9 = .ok (.goto 15, 3) := by decide +kernel
theorem dL_cell_12 : decode cL_cell 12 = .ok (.sipush 7919, 3) := by decide +kernel
theorem dL_cell_15 : decode cL_cell 15 = .ok (.iload_n 1, 1) := by decide +kernel
theorem dL_cell_16 : decode cL_cell 16 = .ok (.iconst 3, 1) := by decide +kernel
theorem dL_cell_17 : decode cL_cell 17 = .ok (.iadd, 1) := by decide +kernel
theorem dL_cell_18 : decode cL_cell 18 = .ok (.imul, 1) := by decide +kernel
theorem dL_cell_19 : decode cL_cell 19 = .ok (.iload_n 1, 1) := by decide +kernel
theorem dL_cell_20 : decode cL_cell 20 = .ok (.bipush 11, 2) := by decide +kernel
theorem dL_cell_22 : decode cL_cell 22 = .ok (.iadd, 1) := by decide +kernel
theorem dL_cell_23 : decode cL_cell 23 = .ok (.imul, 1) := by decide +kernel
theorem dL_cell_24 : decode cL_cell 24 = .ok (.ireturn, 1) := by decide +kernel
theorem dL_low_0 : decode cL_low 0 = .ok (.iload_n 0, 1) := by decide +kernel
theorem dL_low_1 : decode cL_low 1 = .ok (.ldc 7, 2) := by decide +kernel
theorem dL_low_3 : decode cL_low 3 = .ok (.iand, 1) := by decide +kernel
theorem dL_low_4 : decode cL_low 4 = .ok (.iload_n 1, 1) := by decide +kernel
theorem dL_low_5 : decode cL_low 5 = .ok (.irem, 1) := by decide +kernel
theorem dL_low_6 : decode cL_low 6 = .ok (.ireturn, 1) := by decide +kernel
theorem dL_tick_0 : decode cL_tick 0 = .ok (.aload_n 0, 1) := by decide +kernel
theorem dL_tick_1 : decode cL_tick 1 = .ok (.iload_n 1, 1) := by decide +kernel
theorem dL_tick_2 : decode cL_tick 2 = .ok (.invokevirtual 8, 3) := by decide +kernel
theorem dL_tick_5 : decode cL_tick 5 = .ok (.ireturn, 1) := by decide +kernel
theorem dL_tick_6 : decode cL_tick 6 = .ok (.astore_n 2, 1) := by decide +kernel
theorem dL_tick_7 : decode cL_tick 7 = .ok (.iconst (-1), 1) := by decide +kernel
theorem dL_tick_8 : decode cL_tick 8 = .ok (.ireturn, 1) := by decide +kernel
theorem dL_tick_9 : decode cL_tick 9 = .ok (.astore_n 2, 1) := by decide +kernel
theorem dL_tick_10 : decode cL_tick 10 = .ok (.bipush (-2), 2) := by decide +kernel
theorem dL_tick_12 : decode cL_tick 12 = .ok (.ireturn, 1) := by decide +kernel
theorem dL_addState_0 : decode cL_addState 0 = .ok (.aload_n 0, 1) := by decide +kernel
theorem dL_addState_1 : decode cL_addState 1 = .ok (.iload_n 1, 1) := by decide +kernel
theorem dL_addState_2 : decode cL_addState 2 = .ok (.iload_n 2, 1) := by decide +kernel
theorem dL_addState_3 : decode cL_addState 3 = .ok (.iconst 1, 1) := by decide +kernel
theorem dL_addState_4 : decode cL_addState 4 = .ok (.iconst 0, 1) := by decide +kernel
theorem dL_addState_5 : decode cL_addState 5 = .ok (.invokevirtual 18, 3) := by decide +kernel
theorem dL_addState_8 : decode cL_addState 8 = .ok (.ireturn, 1) := by decide +kernel
theorem dL_addState_9 : decode cL_addState 9 = .ok (.astore_n 3, 1) := by decide +kernel
theorem dL_addState_10 : decode cL_addState 10 = .ok (.iconst (-1), 1) := by decide +kernel
theorem dL_addState_11 : decode cL_addState 11 = .ok (.ireturn, 1) := by decide +kernel
theorem dL_addState_12 : decode cL_addState 12 = .ok (.astore_n 3, 1) := by decide +kernel
theorem dL_addState_13 : decode cL_addState 13 = .ok (.bipush (-2), 2) := by decide +kernel
theorem dL_addState_15 : decode cL_addState 15 = .ok (.ireturn, 1) := by decide +kernel
theorem dL_addState_16 : decode cL_addState 16 = .ok (.astore_n 3, 1) := by decide +kernel
theorem dL_addState_17 : decode cL_addState 17 = .ok (.bipush (-3), 2) := by decide +kernel
theorem dL_addState_19 : decode cL_addState 19 = .ok (.ireturn, 1) := by decide +kernel
theorem dL_addTransition_0 : decode cL_addTransition 0 = .ok (.aload_n 0, 1) := by decide +kernel
theorem dL_addTransition_1 : decode cL_addTransition 1 = .ok (.iload_n 1, 1) := by decide +kernel
theorem dL_addTransition_2 : decode cL_addTransition 2 = .ok (.iload_n 2, 1) := by decide +kernel
theorem dL_addTransition_3 : decode cL_addTransition 3 = .ok (.iload_n 3, 1) := by decide +kernel
theorem dL_addTransition_4 : decode cL_addTransition 4 = .ok (.invokevirtual 24, 3) := by decide +kernel
theorem dL_addTransition_7 : decode cL_addTransition 7 = .ok (.ireturn, 1) := by decide +kernel
theorem dL_addTransition_8 : decode cL_addTransition 8 = .ok (.astore 4, 2) := by decide +kernel
theorem dL_addTransition_10 : decode cL_addTransition 10 = .ok (.iconst (-1), 1) := by decide +kernel
theorem dL_addTransition_11 : decode cL_addTransition 11 = .ok (.ireturn, 1) := by decide +kernel
theorem dL_addTransition_12 : decode cL_addTransition 12 = .ok (.astore 4, 2) := by decide +kernel
theorem dL_addTransition_14 : decode cL_addTransition 14 = .ok (.bipush (-2), 2) := by decide +kernel
theorem dL_addTransition_16 : decode cL_addTransition 16 = .ok (.ireturn, 1) := by decide +kernel
theorem dL_addTransition_17 : decode cL_addTransition 17 = .ok (.astore 4, 2) := by decide +kernel
theorem dL_addTransition_19 : decode cL_addTransition 19 = .ok (.bipush (-3), 2) := by decide +kernel
theorem dL_addTransition_21 : decode cL_addTransition 21 = .ok (.ireturn, 1) := by decide +kernel
theorem dL_addChild_0 : decode cL_addChild 0 = .ok (.aload_n 0, 1) := by decide +kernel
theorem dL_addChild_1 : decode cL_addChild 1 = .ok (.iload_n 1, 1) := by decide +kernel
theorem dL_addChild_2 : decode cL_addChild 2 = .ok (.iload_n 2, 1) := by decide +kernel
theorem dL_addChild_3 : decode cL_addChild 3 = .ok (.iload_n 3, 1) := by decide +kernel
theorem dL_addChild_4 : decode cL_addChild 4 = .ok (.invokevirtual 28, 3) := by decide +kernel
theorem dL_addChild_7 : decode cL_addChild 7 = .ok (.ireturn, 1) := by decide +kernel
theorem dL_addChild_8 : decode cL_addChild 8 = .ok (.astore 4, 2) := by decide +kernel
theorem dL_addChild_10 : decode cL_addChild 10 = .ok (.iconst (-1), 1) := by decide +kernel
theorem dL_addChild_11 : decode cL_addChild 11 = .ok (.ireturn, 1) := by decide +kernel
theorem dL_addChild_12 : decode cL_addChild 12 = .ok (.astore 4, 2) := by decide +kernel
theorem dL_addChild_14 : decode cL_addChild 14 = .ok (.bipush (-2), 2) := by decide +kernel
theorem dL_addChild_16 : decode cL_addChild 16 = .ok (.ireturn, 1) := by decide +kernel
theorem dL_addChild_17 : decode cL_addChild 17 = .ok (.astore 4, 2) := by decide +kernel
theorem dL_addChild_19 : decode cL_addChild 19 = .ok (.bipush (-3), 2) := by decide +kernel
theorem dL_addChild_21 : decode cL_addChild 21 = .ok (.ireturn, 1) := by decide +kernel
theorem dL_builds_0 : decode cL_builds 0 = .ok (.aload_n 0, 1) := by decide +kernel
theorem dL_builds_1 : decode cL_builds 1 = .ok (.iconst 0, 1) := by decide +kernel
theorem dL_builds_2 : decode cL_builds 2 = .ok (.invokevirtual 31, 3) := by decide +kernel
theorem dL_builds_5 : decode cL_builds 5 = .ok (.pop, 1) := by decide +kernel
theorem dL_builds_6 : decode cL_builds 6 = .ok (.aload_n 0, 1) := by decide +kernel
theorem dL_builds_7 : decode cL_builds 7 = .ok (.iconst 1, 1) := by decide +kernel
theorem dL_builds_8 : decode cL_builds 8 = .ok (.invokevirtual 31, 3) := by decide +kernel
theorem dL_builds_11 : decode cL_builds 11 = .ok (.pop, 1) := by decide +kernel
theorem dL_builds_12 : decode cL_builds 12 = .ok (.aload_n 0, 1) := by decide +kernel
theorem dL_builds_13 : decode cL_builds 13 = .ok (.iconst 2, 1) := by decide +kernel
theorem dL_builds_14 : decode cL_builds 14 = .ok (.invokevirtual 31, 3) := by decide +kernel
theorem dL_builds_17 : decode cL_builds 17 = .ok (.pop, 1) := by decide +kernel
theorem dL_builds_18 : decode cL_builds 18 = .ok (.iconst 0, 1) := by decide +kernel
theorem dL_builds_19 : decode cL_builds 19 = .ok (.istore_n 3, 1) := by decide +kernel
theorem dL_builds_20 : decode cL_builds 20 = .ok (.iload_n 3, 1) := by decide +kernel
theorem dL_builds_21 : decode cL_builds 21 = .ok (.iconst 4, 1) := by decide +kernel
theorem dL_builds_22 : decode cL_builds 22 = .ok (.if_icmp .ge 114, 3) := by decide +kernel
theorem dL_builds_25 : decode cL_builds 25 = .ok (.aload_n 2, 1) := by decide +kernel
theorem dL_builds_26 : decode cL_builds 26 = .ok (.iload_n 3, 1) := by decide +kernel
theorem dL_builds_27 : decode cL_builds 27 = .ok (.invokestatic 34, 3) := by decide +kernel
theorem dL_builds_30 : decode cL_builds 30 = .ok (.istore 4, 2) := by decide +kernel
theorem dL_builds_32 : decode cL_builds 32 = .ok (.aload_n 1, 1) := by decide +kernel
theorem dL_builds_33 : decode cL_builds 33 = .ok (.iload_n 3, 1) := by decide +kernel
theorem dL_builds_34 : decode cL_builds 34 = .ok (.iconst 1, 1) := by decide +kernel
theorem dL_builds_35 : decode cL_builds 35 = .ok (.iload 4, 2) := by decide +kernel
theorem dL_builds_37 : decode cL_builds 37 = .ok (.iload 4, 2) := by decide +kernel
theorem dL_builds_39 : decode cL_builds 39 = .ok (.bipush 9, 2) := by decide +kernel
theorem dL_builds_41 : decode cL_builds 41 = .ok (.ishr, 1) := by decide +kernel
theorem dL_builds_42 : decode cL_builds 42 = .ok (.iconst 3, 1) := by decide +kernel
theorem dL_builds_43 : decode cL_builds 43 = .ok (.iand, 1) := by decide +kernel
theorem dL_builds_44 : decode cL_builds 44 = .ok (.ifCond .ne 9, 3) := by decide +kernel
theorem dL_builds_47 : decode cL_builds 47 = .ok (.sipush 500, 3) := by decide +kernel
theorem dL_builds_50 : decode cL_builds 50 = .ok (.goto 5, 3) := by decide +kernel
theorem dL_builds_53 : decode cL_builds 53 = .ok (.bipush 60, 2) := by decide +kernel
theorem dL_builds_55 : decode cL_builds 55 = .ok (.invokestatic 40, 3) := by decide +kernel
theorem dL_builds_58 : decode cL_builds 58 = .ok (.iadd, 1) := by decide +kernel
theorem dL_builds_59 : decode cL_builds 59 = .ok (.iastore, 1) := by decide +kernel
theorem dL_builds_60 : decode cL_builds 60 = .ok (.aload_n 0, 1) := by decide +kernel
theorem dL_builds_61 : decode cL_builds 61 = .ok (.aload_n 1, 1) := by decide +kernel
theorem dL_builds_62 : decode cL_builds 62 = .ok (.iload_n 3, 1) := by decide +kernel
theorem dL_builds_63 : decode cL_builds 63 = .ok (.iaload, 1) := by decide +kernel
theorem dL_builds_64 : decode cL_builds 64 = .ok (.invokevirtual 44, 3) := by decide +kernel
theorem dL_builds_67 : decode cL_builds 67 = .ok (.pop, 1) := by decide +kernel
theorem dL_builds_68 : decode cL_builds 68 = .ok (.iload 4, 2) := by decide +kernel
theorem dL_builds_70 : decode cL_builds 70 = .ok (.bipush 11, 2) := by decide +kernel
theorem dL_builds_72 : decode cL_builds 72 = .ok (.ishr, 1) := by decide +kernel
theorem dL_builds_73 : decode cL_builds 73 = .ok (.iconst 4, 1) := by decide +kernel
theorem dL_builds_74 : decode cL_builds 74 = .ok (.invokestatic 40, 3) := by decide +kernel
theorem dL_builds_77 : decode cL_builds 77 = .ok (.istore 5, 2) := by decide +kernel
theorem dL_builds_79 : decode cL_builds 79 = .ok (.iconst 0, 1) := by decide +kernel
theorem dL_builds_80 : decode cL_builds 80 = .ok (.istore 6, 2) := by decide +kernel
theorem dL_builds_82 : decode cL_builds 82 = .ok (.iload 6, 2) := by decide +kernel
theorem dL_builds_84 : decode cL_builds 84 = .ok (.iload 5, 2) := by decide +kernel
theorem dL_builds_86 : decode cL_builds 86 = .ok (.if_icmp .ge 38, 3) := by decide +kernel
theorem dL_builds_89 : decode cL_builds 89 = .ok (.aload_n 0, 1) := by decide +kernel
theorem dL_builds_90 : decode cL_builds 90 = .ok (.iload_n 3, 1) := by decide +kernel
theorem dL_builds_91 : decode cL_builds 91 = .ok (.iload 4, 2) := by decide +kernel
theorem dL_builds_93 : decode cL_builds 93 = .ok (.bipush 13, 2) := by decide +kernel
theorem dL_builds_95 : decode cL_builds 95 = .ok (.iconst 2, 1) := by decide +kernel
theorem dL_builds_96 : decode cL_builds 96 = .ok (.iload 6, 2) := by decide +kernel
theorem dL_builds_98 : decode cL_builds 98 = .ok (.imul, 1) := by decide +kernel
theorem dL_builds_99 : decode cL_builds 99 = .ok (.iadd, 1) := by decide +kernel
theorem dL_builds_100 : decode cL_builds 100 = .ok (.ishr, 1) := by decide +kernel
theorem dL_builds_101 : decode cL_builds 101 = .ok (.aload_n 1, 1) := by decide +kernel
theorem dL_builds_102 : decode cL_builds 102 = .ok (.iload_n 3, 1) := by decide +kernel
theorem dL_builds_103 : decode cL_builds 103 = .ok (.iaload, 1) := by decide +kernel
theorem dL_builds_104 : decode cL_builds 104 = .ok (.invokestatic 40, 3) := by decide +kernel
theorem dL_builds_107 : decode cL_builds 107 = .ok (.bipush 10, 2) := by decide +kernel
theorem dL_builds_109 : decode cL_builds 109 = .ok (.iload_n 3, 1) := by decide +kernel
theorem dL_builds_110 : decode cL_builds 110 = .ok (.imul, 1) := by decide +kernel
theorem dL_builds_111 : decode cL_builds 111 = .ok (.iload 6, 2) := by decide +kernel
theorem dL_builds_113 : decode cL_builds 113 = .ok (.iadd, 1) := by decide +kernel
theorem dL_builds_114 : decode cL_builds 114 = .ok (.invokevirtual 47, 3) := by decide +kernel
theorem dL_builds_117 : decode cL_builds 117 = .ok (.pop, 1) := by decide +kernel
theorem dL_builds_118 : decode cL_builds 118 = .ok (.iinc 6 1, 3) := by decide +kernel
theorem dL_builds_121 : decode cL_builds 121 = .ok (.goto (-39), 3) := by decide +kernel
theorem dL_builds_124 : decode cL_builds 124 = .ok (.aload_n 0, 1) := by decide +kernel
theorem dL_builds_125 : decode cL_builds 125 = .ok (.iload_n 3, 1) := by decide +kernel
theorem dL_builds_126 : decode cL_builds 126 = .ok (.invokevirtual 50, 3) := by decide +kernel
theorem dL_builds_129 : decode cL_builds 129 = .ok (.pop, 1) := by decide +kernel
theorem dL_builds_130 : decode cL_builds 130 = .ok (.iinc 3 1, 3) := by decide +kernel
theorem dL_builds_133 : decode cL_builds 133 = .ok (.goto (-113), 3) := by decide +kernel
theorem dL_builds_136 : decode cL_builds 136 = .ok (.aload_n 2, 1) := by decide +kernel
theorem dL_builds_137 : decode cL_builds 137 = .ok (.iconst 4, 1) := by decide +kernel
theorem dL_builds_138 : decode cL_builds 138 = .ok (.invokestatic 34, 3) := by decide +kernel
theorem dL_builds_141 : decode cL_builds 141 = .ok (.istore_n 3, 1) := by decide +kernel
theorem dL_builds_142 : decode cL_builds 142 = .ok (.aload_n 0, 1) := by decide +kernel
theorem dL_builds_143 : decode cL_builds 143 = .ok (.iconst 0, 1) := by decide +kernel
theorem dL_builds_144 : decode cL_builds 144 = .ok (.invokevirtual 53, 3) := by decide +kernel
theorem dL_builds_147 : decode cL_builds 147 = .ok (.pop, 1) := by decide +kernel
theorem dL_builds_148 : decode cL_builds 148 = .ok (.aload_n 0, 1) := by decide +kernel
theorem dL_builds_149 : decode cL_builds 149 = .ok (.iconst 4, 1) := by decide +kernel
theorem dL_builds_150 : decode cL_builds 150 = .ok (.iconst 0, 1) := by decide +kernel
theorem dL_builds_151 : decode cL_builds 151 = .ok (.iload_n 3, 1) := by decide +kernel
theorem dL_builds_152 : decode cL_builds 152 = .ok (.bipush 60, 2) := by decide +kernel
theorem dL_builds_154 : decode cL_builds 154 = .ok (.invokestatic 40, 3) := by decide +kernel
theorem dL_builds_157 : decode cL_builds 157 = .ok (.bipush 100, 2) := by decide +kernel
theorem dL_builds_159 : decode cL_builds 159 = .ok (.isub, 1) := by decide +kernel
theorem dL_builds_160 : decode cL_builds 160 = .ok (.invokevirtual 28, 3) := by decide +kernel
theorem dL_builds_163 : decode cL_builds 163 = .ok (.pop, 1) := by decide +kernel
theorem dL_builds_164 : decode cL_builds 164 = .ok (.aload_n 0, 1) := by decide +kernel
theorem dL_builds_165 : decode cL_builds 165 = .ok (.iconst 4, 1) := by decide +kernel
theorem dL_builds_166 : decode cL_builds 166 = .ok (.iconst 1, 1) := by decide +kernel
theorem dL_builds_167 : decode cL_builds 167 = .ok (.iload_n 3, 1) := by decide +kernel
theorem dL_builds_168 : decode cL_builds 168 = .ok (.bipush 6, 2) := by decide +kernel
theorem dL_builds_170 : decode cL_builds 170 = .ok (.ishr, 1) := by decide +kernel
theorem dL_builds_171 : decode cL_builds 171 = .ok (.bipush 90, 2) := by decide +kernel
theorem dL_builds_173 : decode cL_builds 173 = .ok (.invokestatic 40, 3) := by decide +kernel
theorem dL_builds_176 : decode cL_builds 176 = .ok (.bipush 40, 2) := by decide +kernel
theorem dL_builds_178 : decode cL_builds 178 = .ok (.isub, 1) := by decide +kernel
theorem dL_builds_179 : decode cL_builds 179 = .ok (.invokevirtual 28, 3) := by decide +kernel
theorem dL_builds_182 : decode cL_builds 182 = .ok (.pop, 1) := by decide +kernel
theorem dL_builds_183 : decode cL_builds 183 = .ok (.aload_n 0, 1) := by decide +kernel
theorem dL_builds_184 : decode cL_builds 184 = .ok (.iconst 0, 1) := by decide +kernel
theorem dL_builds_185 : decode cL_builds 185 = .ok (.invokevirtual 53, 3) := by decide +kernel
theorem dL_builds_188 : decode cL_builds 188 = .ok (.pop, 1) := by decide +kernel
theorem dL_builds_189 : decode cL_builds 189 = .ok (.aload_n 0, 1) := by decide +kernel
theorem dL_builds_190 : decode cL_builds 190 = .ok (.iconst 5, 1) := by decide +kernel
theorem dL_builds_191 : decode cL_builds 191 = .ok (.iconst 4, 1) := by decide +kernel
theorem dL_builds_192 : decode cL_builds 192 = .ok (.bipush (-100), 2) := by decide +kernel
theorem dL_builds_194 : decode cL_builds 194 = .ok (.invokevirtual 28, 3) := by decide +kernel
theorem dL_builds_197 : decode cL_builds 197 = .ok (.pop, 1) := by decide +kernel
theorem dL_builds_198 : decode cL_builds 198 = .ok (.aload_n 0, 1) := by decide +kernel
theorem dL_builds_199 : decode cL_builds 199 = .ok (.iconst 5, 1) := by decide +kernel
theorem dL_builds_200 : decode cL_builds 200 = .ok (.iconst 2, 1) := by decide +kernel
theorem dL_builds_201 : decode cL_builds 201 = .ok (.iload_n 3, 1) := by decide +kernel
theorem dL_builds_202 : decode cL_builds 202 = .ok (.bipush 13, 2) := by decide +kernel
theorem dL_builds_204 : decode cL_builds 204 = .ok (.ishr, 1) := by decide +kernel
theorem dL_builds_205 : decode cL_builds 205 = .ok (.bipush 100, 2) := by decide +kernel
theorem dL_builds_207 : decode cL_builds 207 = .ok (.invokestatic 40, 3) := by decide +kernel
theorem dL_builds_210 : decode cL_builds 210 = .ok (.bipush 50, 2) := by decide +kernel
theorem dL_builds_212 : decode cL_builds 212 = .ok (.isub, 1) := by decide +kernel
theorem dL_builds_213 : decode cL_builds 213 = .ok (.invokevirtual 28, 3) := by decide +kernel
theorem dL_builds_216 : decode cL_builds 216 = .ok (.pop, 1) := by decide +kernel
theorem dL_builds_217 : decode cL_builds 217 = .ok (.aload_n 0, 1) := by decide +kernel
theorem dL_builds_218 : decode cL_builds 218 = .ok (.iconst 5, 1) := by decide +kernel
theorem dL_builds_219 : decode cL_builds 219 = .ok (.iconst 3, 1) := by decide +kernel
theorem dL_builds_220 : decode cL_builds 220 = .ok (.bipush 60, 2) := by decide +kernel
theorem dL_builds_222 : decode cL_builds 222 = .ok (.iload_n 3, 1) := by decide +kernel
theorem dL_builds_223 : decode cL_builds 223 = .ok (.bipush 20, 2) := by decide +kernel
theorem dL_builds_225 : decode cL_builds 225 = .ok (.ishr, 1) := by decide +kernel
theorem dL_builds_226 : decode cL_builds 226 = .ok (.bipush 40, 2) := by decide +kernel
theorem dL_builds_228 : decode cL_builds 228 = .ok (.invokestatic 40, 3) := by decide +kernel
theorem dL_builds_231 : decode cL_builds 231 = .ok (.iadd, 1) := by decide +kernel
theorem dL_builds_232 : decode cL_builds 232 = .ok (.invokevirtual 28, 3) := by decide +kernel
theorem dL_builds_235 : decode cL_builds 235 = .ok (.pop, 1) := by decide +kernel
theorem dL_builds_236 : decode cL_builds 236 = .ok (.iconst 0, 1) := by decide +kernel
theorem dL_builds_237 : decode cL_builds 237 = .ok (.istore 4, 2) := by decide +kernel
theorem dL_builds_239 : decode cL_builds 239 = .ok (.iload 4, 2) := by decide +kernel
theorem dL_builds_241 : decode cL_builds 241 = .ok (.iconst 4, 1) := by decide +kernel
theorem dL_builds_242 : decode cL_builds 242 = .ok (.if_icmp .ge 67, 3) := by decide +kernel
theorem dL_builds_245 : decode cL_builds 245 = .ok (.aload_n 2, 1) := by decide +kernel
theorem dL_builds_246 : decode cL_builds 246 = .ok (.iconst 5, 1) := by decide +kernel
theorem dL_builds_247 : decode cL_builds 247 = .ok (.iload 4, 2) := by decide +kernel
theorem dL_builds_249 : decode cL_builds 249 = .ok (.iadd, 1) := by decide +kernel
theorem dL_builds_250 : decode cL_builds 250 = .ok (.invokestatic 34, 3) := by decide +kernel
theorem dL_builds_253 : decode cL_builds 253 = .ok (.istore 5, 2) := by decide +kernel
theorem dL_builds_255 : decode cL_builds 255 = .ok (.aload_n 0, 1) := by decide +kernel
theorem dL_builds_256 : decode cL_builds 256 = .ok (.iload 5, 2) := by decide +kernel
theorem dL_builds_258 : decode cL_builds 258 = .ok (.bipush 6, 2) := by decide +kernel
theorem dL_builds_260 : decode cL_builds 260 = .ok (.invokestatic 40, 3) := by decide +kernel
theorem dL_builds_263 : decode cL_builds 263 = .ok (.iconst 1, 1) := by decide +kernel
theorem dL_builds_264 : decode cL_builds 264 = .ok (.iload 5, 2) := by decide +kernel
theorem dL_builds_266 : decode cL_builds 266 = .ok (.iconst 3, 1) := by decide +kernel
theorem dL_builds_267 : decode cL_builds 267 = .ok (.ishr, 1) := by decide +kernel
theorem dL_builds_268 : decode cL_builds 268 = .ok (.sipush 400, 3) := by decide +kernel
theorem dL_builds_271 : decode cL_builds 271 = .ok (.invokestatic 40, 3) := by decide +kernel
theorem dL_builds_274 : decode cL_builds 274 = .ok (.iadd, 1) := by decide +kernel
theorem dL_builds_275 : decode cL_builds 275 = .ok (.iload 5, 2) := by decide +kernel
theorem dL_builds_277 : decode cL_builds 277 = .ok (.bipush 12, 2) := by decide +kernel
theorem dL_builds_279 : decode cL_builds 279 = .ok (.ishr, 1) := by decide +kernel
theorem dL_builds_280 : decode cL_builds 280 = .ok (.iconst 3, 1) := by decide +kernel
theorem dL_builds_281 : decode cL_builds 281 = .ok (.iand, 1) := by decide +kernel
theorem dL_builds_282 : decode cL_builds 282 = .ok (.ifCond .le 7, 3) := by decide +kernel
theorem dL_builds_285 : decode cL_builds 285 = .ok (.iconst 1, 1) := by decide +kernel
theorem dL_builds_286 : decode cL_builds 286 = .ok (.goto 4, 3) := by decide +kernel
theorem dL_builds_289 : decode cL_builds 289 = .ok (.iconst 0, 1) := by decide +kernel
theorem dL_builds_290 : decode cL_builds 290 = .ok (.iload 5, 2) := by decide +kernel
theorem dL_builds_292 : decode cL_builds 292 = .ok (.bipush 14, 2) := by decide +kernel
theorem dL_builds_294 : decode cL_builds 294 = .ok (.ishr, 1) := by decide +kernel
theorem dL_builds_295 : decode cL_builds 295 = .ok (.iconst 3, 1) := by decide +kernel
theorem dL_builds_296 : decode cL_builds 296 = .ok (.invokestatic 40, 3) := by decide +kernel
theorem dL_builds_299 : decode cL_builds 299 = .ok (.invokevirtual 18, 3) := by decide +kernel
theorem dL_builds_302 : decode cL_builds 302 = .ok (.pop, 1) := by decide +kernel
theorem dL_builds_303 : decode cL_builds 303 = .ok (.iinc 4 1, 3) := by decide +kernel
theorem dL_builds_306 : decode cL_builds 306 = .ok (.goto (-67), 3) := by decide +kernel
theorem dL_builds_309 : decode cL_builds 309 = .ok (.aload_n 1, 1) := by decide +kernel
theorem dL_builds_310 : decode cL_builds 310 = .ok (.bipush 40, 2) := by decide +kernel
theorem dL_builds_312 : decode cL_builds 312 = .ok (.iconst 3, 1) := by decide +kernel
theorem dL_builds_313 : decode cL_builds 313 = .ok (.iload_n 3, 1) := by decide +kernel
theorem dL_builds_314 : decode cL_builds 314 = .ok (.iconst 3, 1) := by decide +kernel
theorem dL_builds_315 : decode cL_builds 315 = .ok (.ishr, 1) := by decide +kernel
theorem dL_builds_316 : decode cL_builds 316 = .ok (.bipush 7, 2) := by decide +kernel
theorem dL_builds_318 : decode cL_builds 318 = .ok (.invokestatic 40, 3) := by decide +kernel
theorem dL_builds_321 : decode cL_builds 321 = .ok (.iadd, 1) := by decide +kernel
theorem dL_builds_322 : decode cL_builds 322 = .ok (.iastore, 1) := by decide +kernel
theorem dL_builds_323 : decode cL_builds 323 = .ok (.iconst 0, 1) := by decide +kernel
theorem dL_builds_324 : decode cL_builds 324 = .ok (.istore 4, 2) := by decide +kernel
theorem dL_builds_326 : decode cL_builds 326 = .ok (.iload 4, 2) := by decide +kernel
theorem dL_builds_328 : decode cL_builds 328 = .ok (.aload_n 1, 1) := by decide +kernel
theorem dL_builds_329 : decode cL_builds 329 = .ok (.bipush 40, 2) := by decide +kernel
theorem dL_builds_331 : decode cL_builds 331 = .ok (.iaload, 1) := by decide +kernel
theorem dL_builds_332 : decode cL_builds 332 = .ok (.if_icmp .ge 224, 3) := by decide +kernel
theorem dL_builds_335 : decode cL_builds 335 = .ok (.aload_n 2, 1) := by decide +kernel
theorem dL_builds_336 : decode cL_builds 336 = .ok (.bipush 9, 2) := by decide +kernel
theorem dL_builds_338 : decode cL_builds 338 = .ok (.iload 4, 2) := by decide +kernel
theorem dL_builds_340 : decode cL_builds 340 = .ok (.iadd, 1) := by decide +kernel
theorem dL_builds_341 : decode cL_builds 341 = .ok (.invokestatic 34, 3) := by decide +kernel
theorem dL_builds_344 : decode cL_builds 344 = .ok (.istore 5, 2) := by decide +kernel
theorem dL_builds_346 : decode cL_builds 346 = .ok (.iload 5, 2) := by decide +kernel
theorem dL_builds_348 : decode cL_builds 348 = .ok (.bipush 7, 2) := by decide +kernel
theorem dL_builds_350 : decode cL_builds 350 = .ok (.iand, 1) := by decide +kernel
theorem dL_builds_351 : decode cL_builds 351 = .ok (.ifCond .ne 7, 3) := by decide +kernel
theorem dL_builds_354 : decode cL_builds 354 = .ok (.iconst (-1), 1) := by decide +kernel
theorem dL_builds_355 : decode cL_builds 355 = .ok (.goto 9, 3) := by decide +kernel
theorem dL_builds_358 : decode cL_builds 358 = .ok (.iload 5, 2) := by decide +kernel
theorem dL_builds_360 : decode cL_builds 360 = .ok (.iconst 3, 1) := by decide +kernel
theorem dL_builds_361 : decode cL_builds 361 = .ok (.ishr, 1) := by decide +kernel
theorem dL_builds_362 : decode cL_builds 362 = .ok (.iconst 3, 1) := by decide +kernel
theorem dL_builds_363 : decode cL_builds 363 = .ok (.iand, 1) := by decide +kernel
theorem dL_builds_364 : decode cL_builds 364 = .ok (.istore 6, 2) := by decide +kernel
theorem dL_builds_366 : decode cL_builds 366 = .ok (.aload_n 1, 1) := by decide +kernel
theorem dL_builds_367 : decode cL_builds 367 = .ok (.bipush 10, 2) := by decide +kernel
theorem dL_builds_369 : decode cL_builds 369 = .ok (.iload 4, 2) := by decide +kernel
theorem dL_builds_371 : decode cL_builds 371 = .ok (.iadd, 1) := by decide +kernel
theorem dL_builds_372 : decode cL_builds 372 = .ok (.iload 5, 2) := by decide +kernel
theorem dL_builds_374 : decode cL_builds 374 = .ok (.iconst 5, 1) := by decide +kernel
theorem dL_builds_375 : decode cL_builds 375 = .ok (.ishr, 1) := by decide +kernel
theorem dL_builds_376 : decode cL_builds 376 = .ok (.bipush 9, 2) := by decide +kernel
theorem dL_builds_378 : decode cL_builds 378 = .ok (.invokestatic 40, 3) := by decide +kernel
theorem dL_builds_381 : decode cL_builds 381 = .ok (.iastore, 1) := by decide +kernel
theorem dL_builds_382 : decode cL_builds 382 = .ok (.aload_n 0, 1) := by decide +kernel
theorem dL_builds_383 : decode cL_builds 383 = .ok (.iload 6, 2) := by decide +kernel
theorem dL_builds_385 : decode cL_builds 385 = .ok (.iload 5, 2) := by decide +kernel
theorem dL_builds_387 : decode cL_builds 387 = .ok (.bipush 9, 2) := by decide +kernel
theorem dL_builds_389 : decode cL_builds 389 = .ok (.ishr, 1) := by decide +kernel
theorem dL_builds_390 : decode cL_builds 390 = .ok (.iconst 4, 1) := by decide +kernel
theorem dL_builds_391 : decode cL_builds 391 = .ok (.invokestatic 40, 3) := by decide +kernel
theorem dL_builds_394 : decode cL_builds 394 = .ok (.aload_n 1, 1) := by decide +kernel
theorem dL_builds_395 : decode cL_builds 395 = .ok (.bipush 10, 2) := by decide +kernel
theorem dL_builds_397 : decode cL_builds 397 = .ok (.iload 4, 2) := by decide +kernel
theorem dL_builds_399 : decode cL_builds 399 = .ok (.iadd, 1) := by decide +kernel
theorem dL_builds_400 : decode cL_builds 400 = .ok (.iaload, 1) := by decide +kernel
theorem dL_builds_401 : decode cL_builds 401 = .ok (.invokevirtual 24, 3) := by decide +kernel
theorem dL_builds_404 : decode cL_builds 404 = .ok (.pop, 1) := by decide +kernel
theorem dL_builds_405 : decode cL_builds 405 = .ok (.aload_n 0, 1) := by decide +kernel
theorem dL_builds_406 : decode cL_builds 406 = .ok (.iload 4, 2) := by decide +kernel
theorem dL_builds_408 : decode cL_builds 408 = .ok (.iload 6, 2) := by decide +kernel
theorem dL_builds_410 : decode cL_builds 410 = .ok (.ifCond .lt 13, 3) := by decide +kernel
theorem dL_builds_413 : decode cL_builds 413 = .ok (.iload 5, 2) := by decide +kernel
theorem dL_builds_415 : decode cL_builds 415 = .ok (.bipush 11, 2) := by decide +kernel
theorem dL_builds_417 : decode cL_builds 417 = .ok (.ishr, 1) := by decide +kernel
theorem dL_builds_418 : decode cL_builds 418 = .ok (.iconst 1, 1) := by decide +kernel
theorem dL_builds_419 : decode cL_builds 419 = .ok (.iand, 1) := by decide +kernel
theorem dL_builds_420 : decode cL_builds 420 = .ok (.ifCond .ne 7, 3) := by decide +kernel
theorem dL_builds_423 : decode cL_builds 423 = .ok (.iconst (-1), 1) := by decide +kernel
theorem dL_builds_424 : decode cL_builds 424 = .ok (.goto 14, 3) := by decide +kernel
theorem dL_builds_427 : decode cL_builds 427 = .ok (.iload 5, 2) := by decide +kernel
theorem dL_builds_429 : decode cL_builds 429 = .ok (.bipush 12, 2) := by decide +kernel
theorem dL_builds_431 : decode cL_builds 431 = .ok (.ishr, 1) := by decide +kernel
theorem dL_builds_432 : decode cL_builds 432 = .ok (.sipush 250, 3) := by decide +kernel
theorem dL_builds_435 : decode cL_builds 435 = .ok (.invokestatic 40, 3) := by decide +kernel
theorem dL_builds_438 : decode cL_builds 438 = .ok (.iload 5, 2) := by decide +kernel
theorem dL_builds_440 : decode cL_builds 440 = .ok (.bipush 14, 2) := by decide +kernel
theorem dL_builds_442 : decode cL_builds 442 = .ok (.ishr, 1) := by decide +kernel
theorem dL_builds_443 : decode cL_builds 443 = .ok (.bipush 100, 2) := by decide +kernel
theorem dL_builds_445 : decode cL_builds 445 = .ok (.invokestatic 40, 3) := by decide +kernel
theorem dL_builds_448 : decode cL_builds 448 = .ok (.invokevirtual 56, 3) := by decide +kernel
theorem dL_builds_451 : decode cL_builds 451 = .ok (.pop, 1) := by decide +kernel
theorem dL_builds_452 : decode cL_builds 452 = .ok (.aload_n 0, 1) := by decide +kernel
theorem dL_builds_453 : decode cL_builds 453 = .ok (.iload 4, 2) := by decide +kernel
theorem dL_builds_455 : decode cL_builds 455 = .ok (.iload 5, 2) := by decide +kernel
theorem dL_builds_457 : decode cL_builds 457 = .ok (.bipush 17, 2) := by decide +kernel
theorem dL_builds_459 : decode cL_builds 459 = .ok (.ishr, 1) := by decide +kernel
theorem dL_builds_460 : decode cL_builds 460 = .ok (.iconst 5, 1) := by decide +kernel
theorem dL_builds_461 : decode cL_builds 461 = .ok (.invokestatic 40, 3) := by decide +kernel
theorem dL_builds_464 : decode cL_builds 464 = .ok (.iload 5, 2) := by decide +kernel
theorem dL_builds_466 : decode cL_builds 466 = .ok (.bipush 20, 2) := by decide +kernel
theorem dL_builds_468 : decode cL_builds 468 = .ok (.ishr, 1) := by decide +kernel
theorem dL_builds_469 : decode cL_builds 469 = .ok (.iconst 1, 1) := by decide +kernel
theorem dL_builds_470 : decode cL_builds 470 = .ok (.iand, 1) := by decide +kernel
theorem dL_builds_471 : decode cL_builds 471 = .ok (.iconst 1, 1) := by decide +kernel
theorem dL_builds_472 : decode cL_builds 472 = .ok (.if_icmp .ne 7, 3) := by decide +kernel
theorem dL_builds_475 : decode cL_builds 475 = .ok (.iconst 1, 1) := by decide +kernel
theorem dL_builds_476 : decode cL_builds 476 = .ok (.goto 4, 3) := by decide +kernel
theorem dL_builds_479 : decode cL_builds 479 = .ok (.iconst 0, 1) := by decide +kernel
theorem dL_builds_480 : decode cL_builds 480 = .ok (.invokevirtual 59, 3) := by decide +kernel
theorem dL_builds_483 : decode cL_builds 483 = .ok (.pop, 1) := by decide +kernel
theorem dL_builds_484 : decode cL_builds 484 = .ok (.iload 5, 2) := by decide +kernel
theorem dL_builds_486 : decode cL_builds 486 = .ok (.bipush 21, 2) := by decide +kernel
theorem dL_builds_488 : decode cL_builds 488 = .ok (.ishr, 1) := by decide +kernel
theorem dL_builds_489 : decode cL_builds 489 = .ok (.iconst 4, 1) := by decide +kernel
theorem dL_builds_490 : decode cL_builds 490 = .ok (.invokestatic 40, 3) := by decide +kernel
theorem dL_builds_493 : decode cL_builds 493 = .ok (.istore 7, 2) := by decide +kernel
theorem dL_builds_495 : decode cL_builds 495 = .ok (.iload 7, 2) := by decide +kernel
theorem dL_builds_497 : decode cL_builds 497 = .ok (.iconst 3, 1) := by decide +kernel
theorem dL_builds_498 : decode cL_builds 498 = .ok (.if_icmp .ge 52, 3) := by decide +kernel
theorem dL_builds_501 : decode cL_builds 501 = .ok (.aload_n 0, 1) := by decide +kernel
theorem dL_builds_502 : decode cL_builds 502 = .ok (.iload 4, 2) := by decide +kernel
theorem dL_builds_504 : decode cL_builds 504 = .ok (.iload 7, 2) := by decide +kernel
theorem dL_builds_506 : decode cL_builds 506 = .ok (.iload 7, 2) := by decide +kernel
theorem dL_builds_508 : decode cL_builds 508 = .ok (.ifCond .ne 15, 3) := by decide +kernel
theorem dL_builds_511 : decode cL_builds 511 = .ok (.iload 5, 2) := by decide +kernel
theorem dL_builds_513 : decode cL_builds 513 = .ok (.bipush 23, 2) := by decide +kernel
theorem dL_builds_515 : decode cL_builds 515 = .ok (.ishr, 1) := by decide +kernel
theorem dL_builds_516 : decode cL_builds 516 = .ok (.iconst 4, 1) := by decide +kernel
theorem dL_builds_517 : decode cL_builds 517 = .ok (.invokestatic 40, 3) := by decide +kernel
theorem dL_builds_520 : decode cL_builds 520 = .ok (.goto 4, 3) := by decide +kernel
theorem dL_builds_523 : decode cL_builds 523 = .ok (.iconst 2, 1) := by decide +kernel
theorem dL_builds_524 : decode cL_builds 524 = .ok (.iload 7, 2) := by decide +kernel
theorem dL_builds_526 : decode cL_builds 526 = .ok (.ifCond .ne 19, 3) := by decide +kernel
theorem dL_builds_529 : decode cL_builds 529 = .ok (.iload 5, 2) := by decide +kernel
theorem dL_builds_531 : decode cL_builds 531 = .ok (.bipush 24, 2) := by decide +kernel
theorem dL_builds_533 : decode cL_builds 533 = .ok (.ishr, 1) := by decide +kernel
theorem dL_builds_534 : decode cL_builds 534 = .ok (.bipush 41, 2) := by decide +kernel
theorem dL_builds_536 : decode cL_builds 536 = .ok (.invokestatic 40, 3) := by decide +kernel
theorem dL_builds_539 : decode cL_builds 539 = .ok (.bipush 20, 2) := by decide +kernel
theorem dL_builds_541 : decode cL_builds 541 = .ok (.isub, 1) := by decide +kernel
theorem dL_builds_542 : decode cL_builds 542 = .ok (.goto 4, 3) := by decide +kernel
theorem dL_builds_545 : decode cL_builds 545 = .ok (.iconst 1, 1) := by decide +kernel
theorem dL_builds_546 : decode cL_builds 546 = .ok (.invokevirtual 63, 3) := by decide +kernel
theorem dL_builds_549 : decode cL_builds 549 = .ok (.pop, 1) := by decide +kernel
theorem dL_builds_550 : decode cL_builds 550 = .ok (.iinc 4 1, 3) := by decide +kernel
theorem dL_builds_553 : decode cL_builds 553 = .ok (.goto (-227), 3) := by decide +kernel
theorem dL_builds_556 : decode cL_builds 556 = .ok (.return_, 1) := by decide +kernel
theorem dL_poseFits_0 : decode cL_poseFits 0 = .ok (.aload_n 0, 1) := by decide +kernel
theorem dL_poseFits_1 : decode cL_poseFits 1 = .ok (.invokevirtual 67, 3) := by decide +kernel
theorem dL_poseFits_4 : decode cL_poseFits 4 = .ok (.istore_n 2, 1) := by decide +kernel
theorem dL_poseFits_5 : decode cL_poseFits 5 = .ok (.lconst 0, 1) := by decide +kernel
theorem dL_poseFits_6 : decode cL_poseFits 6 = .ok (.lstore_n 3, 1) := by decide +kernel
theorem dL_poseFits_7 : decode cL_poseFits 7 = .ok (.iconst 0, 1) := by decide +kernel
theorem dL_poseFits_8 : decode cL_poseFits 8 = .ok (.istore 5, 2) := by decide +kernel
theorem dL_poseFits_10 : decode cL_poseFits 10 = .ok (.iload 5, 2) := by decide +kernel
theorem dL_poseFits_12 : decode cL_poseFits 12 = .ok (.iload_n 2, 1) := by decide +kernel
theorem dL_poseFits_13 : decode cL_poseFits 13 = .ok (.if_icmp .ge 106, 3) := by decide +kernel
theorem dL_poseFits_16 : decode cL_poseFits 16 = .ok (.aload_n 0, 1) := by decide +kernel
theorem dL_poseFits_17 : decode cL_poseFits 17 = .ok (.iload 5, 2) := by decide +kernel
theorem dL_poseFits_19 : decode cL_poseFits 19 = .ok (.invokevirtual 71, 3) := by decide +kernel
theorem dL_poseFits_22 : decode cL_poseFits 22 = .ok (.istore 6, 2) := by decide +kernel
theorem dL_poseFits_24 : decode cL_poseFits 24 = .ok (.aload_n 0, 1) := by decide +kernel
theorem dL_poseFits_25 : decode cL_poseFits 25 = .ok (.iload 5, 2) := by decide +kernel
theorem dL_poseFits_27 : decode cL_poseFits 27 = .ok (.invokevirtual 74, 3) := by decide +kernel
theorem dL_poseFits_30 : decode cL_poseFits 30 = .ok (.istore 7, 2) := by decide +kernel
theorem dL_poseFits_32 : decode cL_poseFits 32 = .ok (.aload_n 0, 1) := by decide +kernel
theorem dL_poseFits_33 : decode cL_poseFits 33 = .ok (.iload 5, 2) := by decide +kernel
theorem dL_poseFits_35 : decode cL_poseFits 35 = .ok (.invokevirtual 77, 3) := by decide +kernel
theorem dL_poseFits_38 : decode cL_poseFits 38 = .ok (.ifCond .le 17, 3) := by decide +kernel
theorem dL_poseFits_41 : decode cL_poseFits 41 = .ok (.iload 7, 2) := by decide +kernel
theorem dL_poseFits_43 : decode cL_poseFits 43 = .ok (.ifCond .lt 12, 3) := by decide +kernel
theorem dL_poseFits_46 : decode cL_poseFits 46 = .ok (.iload 7, 2) := by decide +kernel
theorem dL_poseFits_48 : decode cL_poseFits 48 = .ok (.aload_n 1, 1) := by decide +kernel
theorem dL_poseFits_49 : decode cL_poseFits 49 = .ok (.iload 6, 2) := by decide +kernel
theorem dL_poseFits_51 : decode cL_poseFits 51 = .ok (.iaload, 1) := by decide +kernel
theorem dL_poseFits_52 : decode cL_poseFits 52 = .ok (.if_icmp .lt 5, 3) := by decide +kernel
theorem dL_poseFits_55 : decode cL_poseFits 55 = .ok (.iconst 0, 1) := by decide +kernel
theorem dL_poseFits_56 : decode cL_poseFits 56 = .ok (.ireturn, 1) := by decide +kernel
theorem dL_poseFits_57 : decode cL_poseFits 57 = .ok (.iload 5, 2) := by decide +kernel
theorem dL_poseFits_59 : decode cL_poseFits 59 = .ok (.ifCond .le 44, 3) := by decide +kernel
theorem dL_poseFits_62 : decode cL_poseFits 62 = .ok (.aload_n 0, 1) := by decide +kernel
theorem dL_poseFits_63 : decode cL_poseFits 63 = .ok (.iload 5, 2) := by decide +kernel
theorem dL_poseFits_65 : decode cL_poseFits 65 = .ok (.iconst 1, 1) := by decide +kernel
theorem dL_poseFits_66 : decode cL_poseFits 66 = .ok (.isub, 1) := by decide +kernel
theorem dL_poseFits_67 : decode cL_poseFits 67 = .ok (.invokevirtual 71, 3) := by decide +kernel
theorem dL_poseFits_70 : decode cL_poseFits 70 = .ok (.iload 6, 2) := by decide +kernel
theorem dL_poseFits_72 : decode cL_poseFits 72 = .ok (.if_icmp .gt 29, 3) := by decide +kernel
theorem dL_poseFits_75 : decode cL_poseFits 75 = .ok (.aload_n 0, 1) := by decide +kernel
theorem dL_poseFits_76 : decode cL_poseFits 76 = .ok (.iload 5, 2) := by decide +kernel
theorem dL_poseFits_78 : decode cL_poseFits 78 = .ok (.iconst 1, 1) := by decide +kernel
theorem dL_poseFits_79 : decode cL_poseFits 79 = .ok (.isub, 1) := by decide +kernel
theorem dL_poseFits_80 : decode cL_poseFits 80 = .ok (.invokevirtual 71, 3) := by decide +kernel
theorem dL_poseFits_83 : decode cL_poseFits 83 = .ok (.iload 6, 2) := by decide +kernel
theorem dL_poseFits_85 : decode cL_poseFits 85 = .ok (.if_icmp .ne 18, 3) := by decide +kernel
theorem dL_poseFits_88 : decode cL_poseFits 88 = .ok (.aload_n 0, 1) := by decide +kernel
theorem dL_poseFits_89 : decode cL_poseFits 89 = .ok (.iload 5, 2) := by decide +kernel
theorem dL_poseFits_91 : decode cL_poseFits 91 = .ok (.iconst 1, 1) := by decide +kernel
theorem dL_poseFits_92 : decode cL_poseFits 92 = .ok (.isub, 1) := by decide +kernel
theorem dL_poseFits_93 : decode cL_poseFits 93 = .ok (.invokevirtual 74, 3) := by decide +kernel
theorem dL_poseFits_96 : decode cL_poseFits 96 = .ok (.iload 7, 2) := by decide +kernel
theorem dL_poseFits_98 : decode cL_poseFits 98 = .ok (.if_icmp .lt 5, 3) := by decide +kernel
theorem dL_poseFits_101 : decode cL_poseFits 101 = .ok (.iconst 0, 1) := by decide +kernel
theorem dL_poseFits_102 : decode cL_poseFits 102 = .ok (.ireturn, 1) := by decide +kernel
theorem dL_poseFits_103 : decode cL_poseFits 103 = .ok (.lload_n 3, 1) := by decide +kernel
theorem dL_poseFits_104 : decode cL_poseFits 104 = .ok (.aload_n 0, 1) := by decide +kernel
theorem dL_poseFits_105 : decode cL_poseFits 105 = .ok (.iload 5, 2) := by decide +kernel
theorem dL_poseFits_107 : decode cL_poseFits 107 = .ok (.invokevirtual 77, 3) := by decide +kernel
theorem dL_poseFits_110 : decode cL_poseFits 110 = .ok (.i2l, 1) := by decide +kernel
theorem dL_poseFits_111 : decode cL_poseFits 111 = .ok (.ladd, 1) := by decide +kernel
theorem dL_poseFits_112 : decode cL_poseFits 112 = .ok (.lstore_n 3, 1) := by decide +kernel
theorem dL_poseFits_113 : decode cL_poseFits 113 = .ok (.iinc 5 1, 3) := by decide +kernel
theorem dL_poseFits_116 : decode cL_poseFits 116 = .ok (.goto (-106), 3) := by decide +kernel
theorem dL_poseFits_119 : decode cL_poseFits 119 = .ok (.aload_n 0, 1) := by decide +kernel
theorem dL_poseFits_120 : decode cL_poseFits 120 = .ok (.invokevirtual 80, 3) := by decide +kernel
theorem dL_poseFits_123 : decode cL_poseFits 123 = .ok (.ifCond .ge 7, 3) := by decide +kernel
theorem dL_poseFits_126 : decode cL_poseFits 126 = .ok (.iconst 1, 1) := by decide +kernel
theorem dL_poseFits_127 : decode cL_poseFits 127 = .ok (.goto 4, 3) := by decide +kernel
theorem dL_poseFits_130 : decode cL_poseFits 130 = .ok (.iconst 0, 1) := by decide +kernel
theorem dL_poseFits_131 : decode cL_poseFits 131 = .ok (.istore 5, 2) := by decide +kernel
theorem dL_poseFits_133 : decode cL_poseFits 133 = .ok (.iload 5, 2) := by decide +kernel
theorem dL_poseFits_135 : decode cL_poseFits 135 = .ok (.ifCond .eq 34, 3) := by decide +kernel
theorem dL_poseFits_138 : decode cL_poseFits 138 = .ok (.aload_n 0, 1) := by decide +kernel
theorem dL_poseFits_139 : decode cL_poseFits 139 = .ok (.invokevirtual 83, 3) := by decide +kernel
theorem dL_poseFits_142 : decode cL_poseFits 142 = .ok (.iconst (-1), 1) := by decide +kernel
theorem dL_poseFits_143 : decode cL_poseFits 143 = .ok (.if_icmp .ne 22, 3) := by decide +kernel
theorem dL_poseFits_146 : decode cL_poseFits 146 = .ok (.aload_n 0, 1) := by decide +kernel
theorem dL_poseFits_147 : decode cL_poseFits 147 = .ok (.invokevirtual 86, 3) := by decide +kernel
theorem dL_poseFits_150 : decode cL_poseFits 150 = .ok (.iconst (-1), 1) := by decide +kernel
theorem dL_poseFits_151 : decode cL_poseFits 151 = .ok (.if_icmp .ne 14, 3) := by decide +kernel
theorem dL_poseFits_154 : decode cL_poseFits 154 = .ok (.aload_n 0, 1) := by decide +kernel
theorem dL_poseFits_155 : decode cL_poseFits 155 = .ok (.invokevirtual 89, 3) := by decide +kernel
theorem dL_poseFits_158 : decode cL_poseFits 158 = .ok (.ifCond .ne 7, 3) := by decide +kernel
theorem dL_poseFits_161 : decode cL_poseFits 161 = .ok (.iconst 1, 1) := by decide +kernel
theorem dL_poseFits_162 : decode cL_poseFits 162 = .ok (.goto 42, 3) := by decide +kernel
theorem dL_poseFits_165 : decode cL_poseFits 165 = .ok (.iconst 0, 1) := by decide +kernel
theorem dL_poseFits_166 : decode cL_poseFits 166 = .ok (.goto 38, 3) := by decide +kernel
theorem dL_poseFits_169 : decode cL_poseFits 169 = .ok (.aload_n 0, 1) := by decide +kernel
theorem dL_poseFits_170 : decode cL_poseFits 170 = .ok (.invokevirtual 86, 3) := by decide +kernel
theorem dL_poseFits_173 : decode cL_poseFits 173 = .ok (.ifCond .lt 30, 3) := by decide +kernel
theorem dL_poseFits_176 : decode cL_poseFits 176 = .ok (.aload_n 0, 1) := by decide +kernel
theorem dL_poseFits_177 : decode cL_poseFits 177 = .ok (.invokevirtual 86, 3) := by decide +kernel
theorem dL_poseFits_180 : decode cL_poseFits 180 = .ok (.aload_n 1, 1) := by decide +kernel
theorem dL_poseFits_181 : decode cL_poseFits 181 = .ok (.bipush 10, 2) := by decide +kernel
theorem dL_poseFits_183 : decode cL_poseFits 183 = .ok (.aload_n 0, 1) := by decide +kernel
theorem dL_poseFits_184 : decode cL_poseFits 184 = .ok (.invokevirtual 80, 3) := by decide +kernel
theorem dL_poseFits_187 : decode cL_poseFits 187 = .ok (.iadd, 1) := by decide +kernel
theorem dL_poseFits_188 : decode cL_poseFits 188 = .ok (.iaload, 1) := by decide +kernel
theorem dL_poseFits_189 : decode cL_poseFits 189 = .ok (.if_icmp .ge 14, 3) := by decide +kernel
theorem dL_poseFits_192 : decode cL_poseFits 192 = .ok (.aload_n 0, 1) := by decide +kernel
theorem dL_poseFits_193 : decode cL_poseFits 193 = .ok (.invokevirtual 83, 3) := by decide +kernel
theorem dL_poseFits_196 : decode cL_poseFits 196 = .ok (.ifCond .lt 7, 3) := by decide +kernel
theorem dL_poseFits_199 : decode cL_poseFits 199 = .ok (.iconst 1, 1) := by decide +kernel
theorem dL_poseFits_200 : decode cL_poseFits 200 = .ok (.goto 4, 3) := by decide +kernel
theorem dL_poseFits_203 : decode cL_poseFits 203 = .ok (.iconst 0, 1) := by decide +kernel
theorem dL_poseFits_204 : decode cL_poseFits 204 = .ok (.istore 6, 2) := by decide +kernel
theorem dL_poseFits_206 : decode cL_poseFits 206 = .ok (.iload 6, 2) := by decide +kernel
theorem dL_poseFits_208 : decode cL_poseFits 208 = .ok (.ifCond .eq 15, 3) := by decide +kernel
theorem dL_poseFits_211 : decode cL_poseFits 211 = .ok (.lload_n 3, 1) := by decide +kernel
theorem dL_poseFits_212 : decode cL_poseFits 212 = .ok (.ldc2_w 93, 3) := by decide +kernel
theorem dL_poseFits_215 : decode cL_poseFits 215 = .ok (.lcmp, 1) := by decide +kernel
theorem dL_poseFits_216 : decode cL_poseFits 216 = .ok (.ifCond .ne 7, 3) := by decide +kernel
theorem dL_poseFits_219 : decode cL_poseFits 219 = .ok (.iconst 1, 1) := by decide +kernel
theorem dL_poseFits_220 : decode cL_poseFits 220 = .ok (.goto 4, 3) := by decide +kernel
theorem dL_poseFits_223 : decode cL_poseFits 223 = .ok (.iconst 0, 1) := by decide +kernel
theorem dL_poseFits_224 : decode cL_poseFits 224 = .ok (.ireturn, 1) := by decide +kernel
theorem dL_lengthsFit_0 : decode cL_lengthsFit 0 = .ok (.iconst 0, 1) := by decide +kernel
theorem dL_lengthsFit_1 : decode cL_lengthsFit 1 = .ok (.istore_n 2, 1) := by decide +kernel
theorem dL_lengthsFit_2 : decode cL_lengthsFit 2 = .ok (.iload_n 2, 1) := by decide +kernel
theorem dL_lengthsFit_3 : decode cL_lengthsFit 3 = .ok (.iconst 4, 1) := by decide +kernel
theorem dL_lengthsFit_4 : decode cL_lengthsFit 4 = .ok (.if_icmp .ge 127, 3) := by decide +kernel
theorem dL_lengthsFit_7 : decode cL_lengthsFit 7 = .ok (.iconst 0, 1) := by decide +kernel
theorem dL_lengthsFit_8 : decode cL_lengthsFit 8 = .ok (.istore_n 3, 1) := by decide +kernel
theorem dL_lengthsFit_9 : decode cL_lengthsFit 9 = .ok (.sipush 1000, 3) := by decide +kernel
theorem dL_lengthsFit_12 : decode cL_lengthsFit 12 = .ok (.istore 4, 2) := by decide +kernel
theorem dL_lengthsFit_14 : decode cL_lengthsFit 14 = .ok (.iconst 0, 1) := by decide +kernel
theorem dL_lengthsFit_15 : decode cL_lengthsFit 15 = .ok (.istore 5, 2) := by decide +kernel
theorem dL_lengthsFit_17 : decode cL_lengthsFit 17 = .ok (.iconst 0, 1) := by decide +kernel
theorem dL_lengthsFit_18 : decode cL_lengthsFit 18 = .ok (.istore 6, 2) := by decide +kernel
theorem dL_lengthsFit_20 : decode cL_lengthsFit 20 = .ok (.iload 6, 2) := by decide +kernel
theorem dL_lengthsFit_22 : decode cL_lengthsFit 22 = .ok (.iconst 4, 1) := by decide +kernel
theorem dL_lengthsFit_23 : decode cL_lengthsFit 23 = .ok (.if_icmp .ge 73, 3) := by decide +kernel
theorem dL_lengthsFit_26 : decode cL_lengthsFit 26 = .ok (.aload_n 0, 1) := by decide +kernel
theorem dL_lengthsFit_27 : decode cL_lengthsFit 27 = .ok (.iload_n 2, 1) := by decide +kernel
theorem dL_lengthsFit_28 : decode cL_lengthsFit 28 = .ok (.iload 6, 2) := by decide +kernel
theorem dL_lengthsFit_30 : decode cL_lengthsFit 30 = .ok (.invokevirtual 95, 3) := by decide +kernel
theorem dL_lengthsFit_33 : decode cL_lengthsFit 33 = .ok (.istore 7, 2) := by decide +kernel
theorem dL_lengthsFit_35 : decode cL_lengthsFit 35 = .ok (.iload_n 3, 1) := by decide +kernel
theorem dL_lengthsFit_36 : decode cL_lengthsFit 36 = .ok (.iload 7, 2) := by decide +kernel
theorem dL_lengthsFit_38 : decode cL_lengthsFit 38 = .ok (.iadd, 1) := by decide +kernel
theorem dL_lengthsFit_39 : decode cL_lengthsFit 39 = .ok (.istore_n 3, 1) := by decide +kernel
theorem dL_lengthsFit_40 : decode cL_lengthsFit 40 = .ok (.iload 7, 2) := by decide +kernel
theorem dL_lengthsFit_42 : decode cL_lengthsFit 42 = .ok (.ifCond .le 19, 3) := by decide +kernel
theorem dL_lengthsFit_45 : decode cL_lengthsFit 45 = .ok (.aload_n 1, 1) := by decide +kernel
theorem dL_lengthsFit_46 : decode cL_lengthsFit 46 = .ok (.iload 6, 2) := by decide +kernel
theorem dL_lengthsFit_48 : decode cL_lengthsFit 48 = .ok (.iaload, 1) := by decide +kernel
theorem dL_lengthsFit_49 : decode cL_lengthsFit 49 = .ok (.iload 4, 2) := by decide +kernel
theorem dL_lengthsFit_51 : decode cL_lengthsFit 51 = .ok (.if_icmp .ge 10, 3) := by decide +kernel
theorem dL_lengthsFit_54 : decode cL_lengthsFit 54 = .ok (.aload_n 1, 1) := by decide +kernel
theorem dL_lengthsFit_55 : decode cL_lengthsFit 55 = .ok (.iload 6, 2) := by decide +kernel
theorem dL_lengthsFit_57 : decode cL_lengthsFit 57 = .ok (.iaload, 1) := by decide +kernel
theorem dL_lengthsFit_58 : decode cL_lengthsFit 58 = .ok (.goto 5, 3) := by decide +kernel
theorem dL_lengthsFit_61 : decode cL_lengthsFit 61 = .ok (.iload 4, 2) := by decide +kernel
theorem dL_lengthsFit_63 : decode cL_lengthsFit 63 = .ok (.istore 4, 2) := by decide +kernel
theorem dL_lengthsFit_65 : decode cL_lengthsFit 65 = .ok (.iload 7, 2) := by decide +kernel
theorem dL_lengthsFit_67 : decode cL_lengthsFit 67 = .ok (.ifCond .le 19, 3) := by decide +kernel
theorem dL_lengthsFit_70 : decode cL_lengthsFit 70 = .ok (.aload_n 1, 1) := by decide +kernel
theorem dL_lengthsFit_71 : decode cL_lengthsFit 71 = .ok (.iload 6, 2) := by decide +kernel
theorem dL_lengthsFit_73 : decode cL_lengthsFit 73 = .ok (.iaload, 1) := by decide +kernel
theorem dL_lengthsFit_74 : decode cL_lengthsFit 74 = .ok (.iload 5, 2) := by decide +kernel
theorem dL_lengthsFit_76 : decode cL_lengthsFit 76 = .ok (.if_icmp .le 10, 3) := by decide +kernel
theorem dL_lengthsFit_79 : decode cL_lengthsFit 79 = .ok (.aload_n 1, 1) := by decide +kernel
theorem dL_lengthsFit_80 : decode cL_lengthsFit 80 = .ok (.iload 6, 2) := by decide +kernel
theorem dL_lengthsFit_82 : decode cL_lengthsFit 82 = .ok (.iaload, 1) := by decide +kernel
theorem dL_lengthsFit_83 : decode cL_lengthsFit 83 = .ok (.goto 5, 3) := by decide +kernel
theorem dL_lengthsFit_86 : decode cL_lengthsFit 86 = .ok (.iload 5, 2) := by decide +kernel
theorem dL_lengthsFit_88 : decode cL_lengthsFit 88 = .ok (.istore 5, 2) := by decide +kernel
theorem dL_lengthsFit_90 : decode cL_lengthsFit 90 = .ok (.iinc 6 1, 3) := by decide +kernel
theorem dL_lengthsFit_93 : decode cL_lengthsFit 93 = .ok (.goto (-73), 3) := by decide +kernel
theorem dL_lengthsFit_96 : decode cL_lengthsFit 96 = .ok (.aload_n 0, 1) := by decide +kernel
theorem dL_lengthsFit_97 : decode cL_lengthsFit 97 = .ok (.iload_n 2, 1) := by decide +kernel
theorem dL_lengthsFit_98 : decode cL_lengthsFit 98 = .ok (.invokevirtual 98, 3) := by decide +kernel
theorem dL_lengthsFit_101 : decode cL_lengthsFit 101 = .ok (.istore 6, 2) := by decide +kernel
theorem dL_lengthsFit_103 : decode cL_lengthsFit 103 = .ok (.iload_n 3, 1) := by decide +kernel
theorem dL_lengthsFit_104 : decode cL_lengthsFit 104 = .ok (.ldc 101, 2) := by decide +kernel
theorem dL_lengthsFit_106 : decode cL_lengthsFit 106 = .ok (.if_icmp .ne 17, 3) := by decide +kernel
theorem dL_lengthsFit_109 : decode cL_lengthsFit 109 = .ok (.iload 6, 2) := by decide +kernel
theorem dL_lengthsFit_111 : decode cL_lengthsFit 111 = .ok (.iload 4, 2) := by decide +kernel
theorem dL_lengthsFit_113 : decode cL_lengthsFit 113 = .ok (.if_icmp .lt 10, 3) := by decide +kernel
theorem dL_lengthsFit_116 : decode cL_lengthsFit 116 = .ok (.iload 6, 2) := by decide +kernel
theorem dL_lengthsFit_118 : decode cL_lengthsFit 118 = .ok (.iload 5, 2) := by decide +kernel
theorem dL_lengthsFit_120 : decode cL_lengthsFit 120 = .ok (.if_icmp .le 5, 3) := by decide +kernel
theorem dL_lengthsFit_123 : decode cL_lengthsFit 123 = .ok (.iconst 0, 1) := by decide +kernel
theorem dL_lengthsFit_124 : decode cL_lengthsFit 124 = .ok (.ireturn, 1) := by decide +kernel
theorem dL_lengthsFit_125 : decode cL_lengthsFit 125 = .ok (.iinc 2 1, 3) := by decide +kernel
theorem dL_lengthsFit_128 : decode cL_lengthsFit 128 = .ok (.goto (-126), 3) := by decide +kernel
theorem dL_lengthsFit_131 : decode cL_lengthsFit 131 = .ok (.iconst 1, 1) := by decide +kernel
theorem dL_lengthsFit_132 : decode cL_lengthsFit 132 = .ok (.ireturn, 1) := by decide +kernel
theorem dL_tale_0 : decode cL_tale 0 = .ok (.aload_n 0, 1) := by decide +kernel
theorem dL_tale_1 : decode cL_tale 1 = .ok (.invokevirtual 102, 3) := by decide +kernel
theorem dL_tale_4 : decode cL_tale 4 = .ok (.i2l, 1) := by decide +kernel
theorem dL_tale_5 : decode cL_tale 5 = .ok (.ldc2_w 105, 3) := by decide +kernel
theorem dL_tale_8 : decode cL_tale 8 = .ok (.lmul, 1) := by decide +kernel
theorem dL_tale_9 : decode cL_tale 9 = .ok (.aload_n 0, 1) := by decide +kernel
theorem dL_tale_10 : decode cL_tale 10 = .ok (.invokevirtual 83, 3) := by decide +kernel
theorem dL_tale_13 : decode cL_tale 13 = .ok (.i2l, 1) := by decide +kernel
theorem dL_tale_14 : decode cL_tale 14 = .ok (.ldc2_w 107, 3) := by decide +kernel
theorem dL_tale_17 : decode cL_tale 17 = .ok (.lmul, 1) := by decide +kernel
theorem dL_tale_18 : decode cL_tale 18 = .ok (.ladd, 1) := by decide +kernel
theorem dL_tale_19 : decode cL_tale 19 = .ok (.aload_n 0, 1) := by decide +kernel
theorem dL_tale_20 : decode cL_tale 20 = .ok (.invokevirtual 80, 3) := by decide +kernel
theorem dL_tale_23 : decode cL_tale 23 = .ok (.i2l, 1) := by decide +kernel
theorem dL_tale_24 : decode cL_tale 24 = .ok (.ldc2_w 109, 3) := by decide +kernel
theorem dL_tale_27 : decode cL_tale 27 = .ok (.lmul, 1) := by decide +kernel
theorem dL_tale_28 : decode cL_tale 28 = .ok (.ladd, 1) := by decide +kernel
theorem dL_tale_29 : decode cL_tale 29 = .ok (.aload_n 0, 1) := by decide +kernel
theorem dL_tale_30 : decode cL_tale 30 = .ok (.invokevirtual 86, 3) := by decide +kernel
theorem dL_tale_33 : decode cL_tale 33 = .ok (.i2l, 1) := by decide +kernel
theorem dL_tale_34 : decode cL_tale 34 = .ok (.ldc2_w 111, 3) := by decide +kernel
theorem dL_tale_37 : decode cL_tale 37 = .ok (.lmul, 1) := by decide +kernel
theorem dL_tale_38 : decode cL_tale 38 = .ok (.ladd, 1) := by decide +kernel
theorem dL_tale_39 : decode cL_tale 39 = .ok (.aload_n 0, 1) := by decide +kernel
theorem dL_tale_40 : decode cL_tale 40 = .ok (.iconst 0, 1) := by decide +kernel
theorem dL_tale_41 : decode cL_tale 41 = .ok (.invokevirtual 113, 3) := by decide +kernel
theorem dL_tale_44 : decode cL_tale 44 = .ok (.ldc2_w 117, 3) := by decide +kernel
theorem dL_tale_47 : decode cL_tale 47 = .ok (.lmul, 1) := by decide +kernel
theorem dL_tale_48 : decode cL_tale 48 = .ok (.ladd, 1) := by decide +kernel
theorem dL_tale_49 : decode cL_tale 49 = .ok (.aload_n 0, 1) := by decide +kernel
theorem dL_tale_50 : decode cL_tale 50 = .ok (.invokevirtual 119, 3) := by decide +kernel
theorem dL_tale_53 : decode cL_tale 53 = .ok (.i2l, 1) := by decide +kernel
theorem dL_tale_54 : decode cL_tale 54 = .ok (.ldc2_w 122, 3) := by decide +kernel
theorem dL_tale_57 : decode cL_tale 57 = .ok (.lmul, 1) := by decide +kernel
theorem dL_tale_58 : decode cL_tale 58 = .ok (.ladd, 1) := by decide +kernel
theorem dL_tale_59 : decode cL_tale 59 = .ok (.aload_n 0, 1) := by decide +kernel
theorem dL_tale_60 : decode cL_tale 60 = .ok (.iconst 5, 1) := by decide +kernel
theorem dL_tale_61 : decode cL_tale 61 = .ok (.invokevirtual 124, 3) := by decide +kernel
theorem dL_tale_64 : decode cL_tale 64 = .ok (.i2l, 1) := by decide +kernel
theorem dL_tale_65 : decode cL_tale 65 = .ok (.ldc2_w 127, 3) := by decide +kernel
theorem dL_tale_68 : decode cL_tale 68 = .ok (.lmul, 1) := by decide +kernel
theorem dL_tale_69 : decode cL_tale 69 = .ok (.ladd, 1) := by decide +kernel
theorem dL_tale_70 : decode cL_tale 70 = .ok (.aload_n 0, 1) := by decide +kernel
theorem dL_tale_71 : decode cL_tale 71 = .ok (.bipush 6, 2) := by decide +kernel
theorem dL_tale_73 : decode cL_tale 73 = .ok (.invokevirtual 124, 3) := by decide +kernel
theorem dL_tale_76 : decode cL_tale 76 = .ok (.i2l, 1) := by decide +kernel
theorem dL_tale_77 : decode cL_tale 77 = .ok (.ldc2_w 129, 3) := by decide +kernel
theorem dL_tale_80 : decode cL_tale 80 = .ok (.lmul, 1) := by decide +kernel
theorem dL_tale_81 : decode cL_tale 81 = .ok (.ladd, 1) := by decide +kernel
theorem dL_tale_82 : decode cL_tale 82 = .ok (.lstore_n 1, 1) := by decide +kernel
theorem dL_tale_83 : decode cL_tale 83 = .ok (.aload_n 0, 1) := by decide +kernel
theorem dL_tale_84 : decode cL_tale 84 = .ok (.invokevirtual 83, 3) := by decide +kernel
theorem dL_tale_87 : decode cL_tale 87 = .ok (.ifCond .lt 17, 3) := by decide +kernel
theorem dL_tale_90 : decode cL_tale 90 = .ok (.lload_n 1, 1) := by decide +kernel
theorem dL_tale_91 : decode cL_tale 91 = .ok (.ldc2_w 131, 3) := by decide +kernel
theorem dL_tale_94 : decode cL_tale 94 = .ok (.lmul, 1) := by decide +kernel
theorem dL_tale_95 : decode cL_tale 95 = .ok (.aload_n 0, 1) := by decide +kernel
theorem dL_tale_96 : decode cL_tale 96 = .ok (.iconst 1, 1) := by decide +kernel
theorem dL_tale_97 : decode cL_tale 97 = .ok (.invokevirtual 113, 3) := by decide +kernel
theorem dL_tale_100 : decode cL_tale 100 = .ok (.ladd, 1) := by decide +kernel
theorem dL_tale_101 : decode cL_tale 101 = .ok (.goto 4, 3) := by decide +kernel
theorem dL_tale_104 : decode cL_tale 104 = .ok (.lload_n 1, 1) := by decide +kernel
theorem dL_tale_105 : decode cL_tale 105 = .ok (.lstore_n 1, 1) := by decide +kernel
theorem dL_tale_106 : decode cL_tale 106 = .ok (.iconst 0, 1) := by decide +kernel
theorem dL_tale_107 : decode cL_tale 107 = .ok (.istore_n 3, 1) := by decide +kernel
theorem dL_tale_108 : decode cL_tale 108 = .ok (.iload_n 3, 1) := by decide +kernel
theorem dL_tale_109 : decode cL_tale 109 = .ok (.iconst 3, 1) := by decide +kernel
theorem dL_tale_110 : decode cL_tale 110 = .ok (.if_icmp .ge 22, 3) := by decide +kernel
theorem dL_tale_113 : decode cL_tale 113 = .ok (.lload_n 1, 1) := by decide +kernel
theorem dL_tale_114 : decode cL_tale 114 = .ok (.ldc2_w 133, 3) := by decide +kernel
theorem dL_tale_117 : decode cL_tale 117 = .ok (.lmul, 1) := by decide +kernel
theorem dL_tale_118 : decode cL_tale 118 = .ok (.aload_n 0, 1) := by decide +kernel
theorem dL_tale_119 : decode cL_tale 119 = .ok (.iload_n 3, 1) := by decide +kernel
theorem dL_tale_120 : decode cL_tale 120 = .ok (.invokevirtual 135, 3) := by decide +kernel
theorem dL_tale_123 : decode cL_tale 123 = .ok (.i2l, 1) := by decide +kernel
theorem dL_tale_124 : decode cL_tale 124 = .ok (.ladd, 1) := by decide +kernel
theorem dL_tale_125 : decode cL_tale 125 = .ok (.lstore_n 1, 1) := by decide +kernel
theorem dL_tale_126 : decode cL_tale 126 = .ok (.iinc 3 1, 3) := by decide +kernel
theorem dL_tale_129 : decode cL_tale 129 = .ok (.goto (-21), 3) := by decide +kernel
theorem dL_tale_132 : decode cL_tale 132 = .ok (.aload_n 0, 1) := by decide +kernel
theorem dL_tale_133 : decode cL_tale 133 = .ok (.invokevirtual 67, 3) := by decide +kernel
theorem dL_tale_136 : decode cL_tale 136 = .ok (.istore_n 3, 1) := by decide +kernel
theorem dL_tale_137 : decode cL_tale 137 = .ok (.iconst 0, 1) := by decide +kernel
theorem dL_tale_138 : decode cL_tale 138 = .ok (.istore 4, 2) := by decide +kernel
theorem dL_tale_140 : decode cL_tale 140 = .ok (.iload 4, 2) := by decide +kernel
theorem dL_tale_142 : decode cL_tale 142 = .ok (.iload_n 3, 1) := by decide +kernel
theorem dL_tale_143 : decode cL_tale 143 = .ok (.if_icmp .ge 47, 3) := by decide +kernel
theorem dL_tale_146 : decode cL_tale 146 = .ok (.lload_n 1, 1) := by decide +kernel
theorem dL_tale_147 : decode cL_tale 147 = .ok (.ldc2_w 138, 3) := by decide +kernel
theorem dL_tale_150 : decode cL_tale 150 = .ok (.lmul, 1) := by decide +kernel
theorem dL_tale_151 : decode cL_tale 151 = .ok (.aload_n 0, 1) := by decide +kernel
theorem dL_tale_152 : decode cL_tale 152 = .ok (.iload 4, 2) := by decide +kernel
theorem dL_tale_154 : decode cL_tale 154 = .ok (.invokevirtual 71, 3) := by decide +kernel
theorem dL_tale_157 : decode cL_tale 157 = .ok (.i2l, 1) := by decide +kernel
theorem dL_tale_158 : decode cL_tale 158 = .ok (.ldc2_w 140, 3) := by decide +kernel
theorem dL_tale_161 : decode cL_tale 161 = .ok (.lmul, 1) := by decide +kernel
theorem dL_tale_162 : decode cL_tale 162 = .ok (.ladd, 1) := by decide +kernel
theorem dL_tale_163 : decode cL_tale 163 = .ok (.aload_n 0, 1) := by decide +kernel
theorem dL_tale_164 : decode cL_tale 164 = .ok (.iload 4, 2) := by decide +kernel
theorem dL_tale_166 : decode cL_tale 166 = .ok (.invokevirtual 74, 3) := by decide +kernel
theorem dL_tale_169 : decode cL_tale 169 = .ok (.i2l, 1) := by decide +kernel
theorem dL_tale_170 : decode cL_tale 170 = .ok (.ldc2_w 142, 3) := by decide +kernel
theorem dL_tale_173 : decode cL_tale 173 = .ok (.lmul, 1) := by decide +kernel
theorem dL_tale_174 : decode cL_tale 174 = .ok (.ladd, 1) := by decide +kernel
theorem dL_tale_175 : decode cL_tale 175 = .ok (.aload_n 0, 1) := by decide +kernel
theorem dL_tale_176 : decode cL_tale 176 = .ok (.iload 4, 2) := by decide +kernel
theorem dL_tale_178 : decode cL_tale 178 = .ok (.invokevirtual 77, 3) := by decide +kernel
theorem dL_tale_181 : decode cL_tale 181 = .ok (.i2l, 1) := by decide +kernel
theorem dL_tale_182 : decode cL_tale 182 = .ok (.ladd, 1) := by decide +kernel
theorem dL_tale_183 : decode cL_tale 183 = .ok (.lstore_n 1, 1) := by decide +kernel
theorem dL_tale_184 : decode cL_tale 184 = .ok (.iinc 4 1, 3) := by decide +kernel
theorem dL_tale_187 : decode cL_tale 187 = .ok (.goto (-47), 3) := by decide +kernel
theorem dL_tale_190 : decode cL_tale 190 = .ok (.aload_n 0, 1) := by decide +kernel
theorem dL_tale_191 : decode cL_tale 191 = .ok (.bipush 6, 2) := by decide +kernel
theorem dL_tale_193 : decode cL_tale 193 = .ok (.invokevirtual 124, 3) := by decide +kernel
theorem dL_tale_196 : decode cL_tale 196 = .ok (.istore 4, 2) := by decide +kernel
theorem dL_tale_198 : decode cL_tale 198 = .ok (.iconst 0, 1) := by decide +kernel
theorem dL_tale_199 : decode cL_tale 199 = .ok (.istore 5, 2) := by decide +kernel
theorem dL_tale_201 : decode cL_tale 201 = .ok (.iload 5, 2) := by decide +kernel
theorem dL_tale_203 : decode cL_tale 203 = .ok (.iload 4, 2) := by decide +kernel
theorem dL_tale_205 : decode cL_tale 205 = .ok (.if_icmp .ge 63, 3) := by decide +kernel
theorem dL_tale_208 : decode cL_tale 208 = .ok (.lload_n 1, 1) := by decide +kernel
theorem dL_tale_209 : decode cL_tale 209 = .ok (.ldc2_w 144, 3) := by decide +kernel
theorem dL_tale_212 : decode cL_tale 212 = .ok (.lmul, 1) := by decide +kernel
theorem dL_tale_213 : decode cL_tale 213 = .ok (.aload_n 0, 1) := by decide +kernel
theorem dL_tale_214 : decode cL_tale 214 = .ok (.iload 5, 2) := by decide +kernel
theorem dL_tale_216 : decode cL_tale 216 = .ok (.iconst 0, 1) := by decide +kernel
theorem dL_tale_217 : decode cL_tale 217 = .ok (.invokevirtual 146, 3) := by decide +kernel
theorem dL_tale_220 : decode cL_tale 220 = .ok (.i2l, 1) := by decide +kernel
theorem dL_tale_221 : decode cL_tale 221 = .ok (.ldc2_w 149, 3) := by decide +kernel
theorem dL_tale_224 : decode cL_tale 224 = .ok (.lmul, 1) := by decide +kernel
theorem dL_tale_225 : decode cL_tale 225 = .ok (.ladd, 1) := by decide +kernel
theorem dL_tale_226 : decode cL_tale 226 = .ok (.aload_n 0, 1) := by decide +kernel
theorem dL_tale_227 : decode cL_tale 227 = .ok (.iload 5, 2) := by decide +kernel
theorem dL_tale_229 : decode cL_tale 229 = .ok (.iconst 1, 1) := by decide +kernel
theorem dL_tale_230 : decode cL_tale 230 = .ok (.invokevirtual 146, 3) := by decide +kernel
theorem dL_tale_233 : decode cL_tale 233 = .ok (.i2l, 1) := by decide +kernel
theorem dL_tale_234 : decode cL_tale 234 = .ok (.ldc2_w 140, 3) := by decide +kernel
theorem dL_tale_237 : decode cL_tale 237 = .ok (.lmul, 1) := by decide +kernel
theorem dL_tale_238 : decode cL_tale 238 = .ok (.ladd, 1) := by decide +kernel
theorem dL_tale_239 : decode cL_tale 239 = .ok (.aload_n 0, 1) := by decide +kernel
theorem dL_tale_240 : decode cL_tale 240 = .ok (.iload 5, 2) := by decide +kernel
theorem dL_tale_242 : decode cL_tale 242 = .ok (.iconst 2, 1) := by decide +kernel
theorem dL_tale_243 : decode cL_tale 243 = .ok (.invokevirtual 146, 3) := by decide +kernel
theorem dL_tale_246 : decode cL_tale 246 = .ok (.i2l, 1) := by decide +kernel
theorem dL_tale_247 : decode cL_tale 247 = .ok (.ldc2_w 142, 3) := by decide +kernel
theorem dL_tale_250 : decode cL_tale 250 = .ok (.lmul, 1) := by decide +kernel
theorem dL_tale_251 : decode cL_tale 251 = .ok (.ladd, 1) := by decide +kernel
theorem dL_tale_252 : decode cL_tale 252 = .ok (.aload_n 0, 1) := by decide +kernel
theorem dL_tale_253 : decode cL_tale 253 = .ok (.iload 5, 2) := by decide +kernel
theorem dL_tale_255 : decode cL_tale 255 = .ok (.iconst 3, 1) := by decide +kernel
theorem dL_tale_256 : decode cL_tale 256 = .ok (.invokevirtual 146, 3) := by decide +kernel
theorem dL_tale_259 : decode cL_tale 259 = .ok (.i2l, 1) := by decide +kernel
theorem dL_tale_260 : decode cL_tale 260 = .ok (.ladd, 1) := by decide +kernel
theorem dL_tale_261 : decode cL_tale 261 = .ok (.lstore_n 1, 1) := by decide +kernel
theorem dL_tale_262 : decode cL_tale 262 = .ok (.iinc 5 1, 3) := by decide +kernel
theorem dL_tale_265 : decode cL_tale 265 = .ok (.goto (-64), 3) := by decide +kernel
theorem dL_tale_268 : decode cL_tale 268 = .ok (.lload_n 1, 1) := by decide +kernel
theorem dL_tale_269 : decode cL_tale 269 = .ok (.lreturn, 1) := by decide +kernel
theorem dL_place_0 : decode cL_place 0 = .ok (.aload_n 0, 1) := by decide +kernel
theorem dL_place_1 : decode cL_place 1 = .ok (.invokevirtual 83, 3) := by decide +kernel
theorem dL_place_4 : decode cL_place 4 = .ok (.ifCond .ge 10, 3) := by decide +kernel
theorem dL_place_7 : decode cL_place 7 = .ok (.aload_n 0, 1) := by decide +kernel
theorem dL_place_8 : decode cL_place 8 = .ok (.invokevirtual 102, 3) := by decide +kernel
theorem dL_place_11 : decode cL_place 11 = .ok (.goto 7, 3) := by decide +kernel
theorem dL_place_14 : decode cL_place 14 = .ok (.aload_n 0, 1) := by decide +kernel
theorem dL_place_15 : decode cL_place 15 = .ok (.invokevirtual 83, 3) := by decide +kernel
theorem dL_place_18 : decode cL_place 18 = .ok (.ireturn, 1) := by decide +kernel
theorem dL_law_0 : decode cL_law 0 = .ok (.new 9, 3) := by decide +kernel
theorem dL_law_3 : decode cL_law 3 = .ok (.dup, 1) := by decide +kernel
theorem dL_law_4 : decode cL_law 4 = .ok (.invokespecial 151, 3) := by decide +kernel
theorem dL_law_7 : decode cL_law 7 = .ok (.astore_n 1, 1) := by decide +kernel
theorem dL_law_8 : decode cL_law 8 = .ok (.bipush 48, 2) := by decide +kernel
theorem dL_law_10 : decode cL_law 10 = .ok (.newarray .int, 2) := by decide +kernel
theorem dL_law_12 : decode cL_law 12 = .ok (.astore_n 2, 1) := by decide +kernel
theorem dL_law_13 : decode cL_law 13 = .ok (.aload_n 1, 1) := by decide +kernel
theorem dL_law_14 : decode cL_law 14 = .ok (.iconst 1, 1) := by decide +kernel
theorem dL_law_15 : decode cL_law 15 = .ok (.invokestatic 152, 3) := by decide +kernel
theorem dL_law_18 : decode cL_law 18 = .ok (.bipush (-2), 2) := by decide +kernel
theorem dL_law_20 : decode cL_law 20 = .ok (.if_icmp .ne 20, 3) := by decide +kernel
theorem dL_law_23 : decode cL_law 23 = .ok (.aload_n 1, 1) := by decide +kernel
theorem dL_law_24 : decode cL_law 24 = .ok (.invokevirtual 67, 3) := by decide +kernel
theorem dL_law_27 : decode cL_law 27 = .ok (.ifCond .ne 13, 3) := by decide +kernel
theorem dL_law_30 : decode cL_law 30 = .ok (.aload_n 1, 1) := by decide +kernel
theorem dL_law_31 : decode cL_law 31 = .ok (.iconst 0, 1) := by decide +kernel
theorem dL_law_32 : decode cL_law 32 = .ok (.iconst 1, 1) := by decide +kernel
theorem dL_law_33 : decode cL_law 33 = .ok (.invokestatic 155, 3) := by decide +kernel
theorem dL_law_36 : decode cL_law 36 = .ok (.iconst (-1), 1) := by decide +kernel
theorem dL_law_37 : decode cL_law 37 = .ok (.if_icmp .eq 5, 3) := by decide +kernel
theorem dL_law_40 : decode cL_law 40 = .ok (.iconst 0, 1) := by decide +kernel
theorem dL_law_41 : decode cL_law 41 = .ok (.ireturn, 1) := by decide +kernel
theorem dL_law_42 : decode cL_law 42 = .ok (.aload_n 1, 1) := by decide +kernel
theorem dL_law_43 : decode cL_law 43 = .ok (.aload_n 2, 1) := by decide +kernel
theorem dL_law_44 : decode cL_law 44 = .ok (.aload_n 0, 1) := by decide +kernel
theorem dL_law_45 : decode cL_law 45 = .ok (.invokestatic 158, 3) := by decide +kernel
theorem dL_law_48 : decode cL_law 48 = .ok (.iconst 1, 1) := by decide +kernel
theorem dL_law_49 : decode cL_law 49 = .ok (.aload_n 0, 1) := by decide +kernel
theorem dL_law_50 : decode cL_law 50 = .ok (.bipush 20, 2) := by decide +kernel
theorem dL_law_52 : decode cL_law 52 = .ok (.invokestatic 34, 3) := by decide +kernel
theorem dL_law_55 : decode cL_law 55 = .ok (.bipush 6, 2) := by decide +kernel
theorem dL_law_57 : decode cL_law 57 = .ok (.invokestatic 40, 3) := by decide +kernel
theorem dL_law_60 : decode cL_law 60 = .ok (.iadd, 1) := by decide +kernel
theorem dL_law_61 : decode cL_law 61 = .ok (.istore_n 3, 1) := by decide +kernel
theorem dL_law_62 : decode cL_law 62 = .ok (.iconst 0, 1) := by decide +kernel
theorem dL_law_63 : decode cL_law 63 = .ok (.istore 4, 2) := by decide +kernel
theorem dL_law_65 : decode cL_law 65 = .ok (.iload 4, 2) := by decide +kernel
theorem dL_law_67 : decode cL_law 67 = .ok (.iload_n 3, 1) := by decide +kernel
theorem dL_law_68 : decode cL_law 68 = .ok (.if_icmp .ge 376, 3) := by decide +kernel
theorem dL_law_71 : decode cL_law 71 = .ok (.aload_n 0, 1) := by decide +kernel
theorem dL_law_72 : decode cL_law 72 = .ok (.bipush 21, 2) := by decide +kernel
theorem dL_law_74 : decode cL_law 74 = .ok (.iload 4, 2) := by decide +kernel
theorem dL_law_76 : decode cL_law 76 = .ok (.iadd, 1) := by decide +kernel
theorem dL_law_77 : decode cL_law 77 = .ok (.invokestatic 34, 3) := by decide +kernel
theorem dL_law_80 : decode cL_law 80 = .ok (.istore 5, 2) := by decide +kernel
theorem dL_law_82 : decode cL_law 82 = .ok (.aload_n 1, 1) := by decide +kernel
theorem dL_law_83 : decode cL_law 83 = .ok (.iconst 0, 1) := by decide +kernel
theorem dL_law_84 : decode cL_law 84 = .ok (.iload 5, 2) := by decide +kernel
theorem dL_law_86 : decode cL_law 86 = .ok (.sipush 201, 3) := by decide +kernel
theorem dL_law_89 : decode cL_law 89 = .ok (.invokestatic 40, 3) := by decide +kernel
theorem dL_law_92 : decode cL_law 92 = .ok (.bipush 100, 2) := by decide +kernel
theorem dL_law_94 : decode cL_law 94 = .ok (.isub, 1) := by decide +kernel
theorem dL_law_95 : decode cL_law 95 = .ok (.invokevirtual 162, 3) := by decide +kernel
theorem dL_law_98 : decode cL_law 98 = .ok (.pop, 1) := by decide +kernel
theorem dL_law_99 : decode cL_law 99 = .ok (.aload_n 1, 1) := by decide +kernel
theorem dL_law_100 : decode cL_law 100 = .ok (.iconst 1, 1) := by decide +kernel
theorem dL_law_101 : decode cL_law 101 = .ok (.iload 5, 2) := by decide +kernel
theorem dL_law_103 : decode cL_law 103 = .ok (.bipush 8, 2) := by decide +kernel
theorem dL_law_105 : decode cL_law 105 = .ok (.ishr, 1) := by decide +kernel
theorem dL_law_106 : decode cL_law 106 = .ok (.iconst 1, 1) := by decide +kernel
theorem dL_law_107 : decode cL_law 107 = .ok (.iand, 1) := by decide +kernel
theorem dL_law_108 : decode cL_law 108 = .ok (.invokevirtual 162, 3) := by decide +kernel
theorem dL_law_111 : decode cL_law 111 = .ok (.pop, 1) := by decide +kernel
theorem dL_law_112 : decode cL_law 112 = .ok (.aload_n 1, 1) := by decide +kernel
theorem dL_law_113 : decode cL_law 113 = .ok (.iconst 2, 1) := by decide +kernel
theorem dL_law_114 : decode cL_law 114 = .ok (.iload 5, 2) := by decide +kernel
theorem dL_law_116 : decode cL_law 116 = .ok (.bipush 9, 2) := by decide +kernel
theorem dL_law_118 : decode cL_law 118 = .ok (.ishr, 1) := by decide +kernel
theorem dL_law_119 : decode cL_law 119 = .ok (.iconst 1, 1) := by decide +kernel
theorem dL_law_120 : decode cL_law 120 = .ok (.iand, 1) := by decide +kernel
theorem dL_law_121 : decode cL_law 121 = .ok (.invokevirtual 162, 3) := by decide +kernel
theorem dL_law_124 : decode cL_law 124 = .ok (.pop, 1) := by decide +kernel
theorem dL_law_125 : decode cL_law 125 = .ok (.aload_n 1, 1) := by decide +kernel
theorem dL_law_126 : decode cL_law 126 = .ok (.aload_n 2, 1) := by decide +kernel
theorem dL_law_127 : decode cL_law 127 = .ok (.invokestatic 165, 3) := by decide +kernel
theorem dL_law_130 : decode cL_law 130 = .ok (.ifCond .eq 11, 3) := by decide +kernel
theorem dL_law_133 : decode cL_law 133 = .ok (.aload_n 1, 1) := by decide +kernel
theorem dL_law_134 : decode cL_law 134 = .ok (.aload_n 2, 1) := by decide +kernel
theorem dL_law_135 : decode cL_law 135 = .ok (.invokestatic 169, 3) := by decide +kernel
theorem dL_law_138 : decode cL_law 138 = .ok (.ifCond .ne 5, 3) := by decide +kernel
theorem dL_law_141 : decode cL_law 141 = .ok (.iconst 0, 1) := by decide +kernel
theorem dL_law_142 : decode cL_law 142 = .ok (.ireturn, 1) := by decide +kernel
theorem dL_law_143 : decode cL_law 143 = .ok (.iconst 1, 1) := by decide +kernel
theorem dL_law_144 : decode cL_law 144 = .ok (.iload 5, 2) := by decide +kernel
theorem dL_law_146 : decode cL_law 146 = .ok (.bipush 10, 2) := by decide +kernel
theorem dL_law_148 : decode cL_law 148 = .ok (.ishr, 1) := by decide +kernel
theorem dL_law_149 : decode cL_law 149 = .ok (.bipush 6, 2) := by decide +kernel
theorem dL_law_151 : decode cL_law 151 = .ok (.invokestatic 40, 3) := by decide +kernel
theorem dL_law_154 : decode cL_law 154 = .ok (.iadd, 1) := by decide +kernel
theorem dL_law_155 : decode cL_law 155 = .ok (.istore 6, 2) := by decide +kernel
theorem dL_law_157 : decode cL_law 157 = .ok (.iconst 1, 1) := by decide +kernel
theorem dL_law_158 : decode cL_law 158 = .ok (.iload 5, 2) := by decide +kernel
theorem dL_law_160 : decode cL_law 160 = .ok (.bipush 14, 2) := by decide +kernel
theorem dL_law_162 : decode cL_law 162 = .ok (.ishr, 1) := by decide +kernel
theorem dL_law_163 : decode cL_law 163 = .ok (.bipush 6, 2) := by decide +kernel
theorem dL_law_165 : decode cL_law 165 = .ok (.invokestatic 40, 3) := by decide +kernel
theorem dL_law_168 : decode cL_law 168 = .ok (.iadd, 1) := by decide +kernel
theorem dL_law_169 : decode cL_law 169 = .ok (.istore 7, 2) := by decide +kernel
theorem dL_law_171 : decode cL_law 171 = .ok (.iload 5, 2) := by decide +kernel
theorem dL_law_173 : decode cL_law 173 = .ok (.bipush 18, 2) := by decide +kernel
theorem dL_law_175 : decode cL_law 175 = .ok (.ishr, 1) := by decide +kernel
theorem dL_law_176 : decode cL_law 176 = .ok (.iconst 4, 1) := by decide +kernel
theorem dL_law_177 : decode cL_law 177 = .ok (.invokestatic 40, 3) := by decide +kernel
theorem dL_law_180 : decode cL_law 180 = .ok (.istore 8, 2) := by decide +kernel
theorem dL_law_182 : decode cL_law 182 = .ok (.aload_n 1, 1) := by decide +kernel
theorem dL_law_183 : decode cL_law 183 = .ok (.invokestatic 172, 3) := by decide +kernel
theorem dL_law_186 : decode cL_law 186 = .ok (.lstore 9, 2) := by decide +kernel
theorem dL_law_188 : decode cL_law 188 = .ok (.aload_n 1, 1) := by decide +kernel
theorem dL_law_189 : decode cL_law 189 = .ok (.iload 6, 2) := by decide +kernel
theorem dL_law_191 : decode cL_law 191 = .ok (.iload 7, 2) := by decide +kernel
theorem dL_law_193 : decode cL_law 193 = .ok (.iadd, 1) := by decide +kernel
theorem dL_law_194 : decode cL_law 194 = .ok (.invokevirtual 176, 3) := by decide +kernel
theorem dL_law_197 : decode cL_law 197 = .ok (.istore 11, 2) := by decide +kernel
theorem dL_law_199 : decode cL_law 199 = .ok (.aload_n 1, 1) := by decide +kernel
theorem dL_law_200 : decode cL_law 200 = .ok (.iload 8, 2) := by decide +kernel
theorem dL_law_202 : decode cL_law 202 = .ok (.invokevirtual 179, 3) := by decide +kernel
theorem dL_law_205 : decode cL_law 205 = .ok (.istore 12, 2) := by decide +kernel
theorem dL_law_207 : decode cL_law 207 = .ok (.aload_n 1, 1) := by decide +kernel
theorem dL_law_208 : decode cL_law 208 = .ok (.invokestatic 172, 3) := by decide +kernel
theorem dL_law_211 : decode cL_law 211 = .ok (.lload 9, 2) := by decide +kernel
theorem dL_law_213 : decode cL_law 213 = .ok (.lcmp, 1) := by decide +kernel
theorem dL_law_214 : decode cL_law 214 = .ok (.ifCond .ne 19, 3) := by decide +kernel
theorem dL_law_217 : decode cL_law 217 = .ok (.aload_n 1, 1) := by decide +kernel
theorem dL_law_218 : decode cL_law 218 = .ok (.iload 4, 2) := by decide +kernel
theorem dL_law_220 : decode cL_law 220 = .ok (.iconst 1, 1) := by decide +kernel
theorem dL_law_221 : decode cL_law 221 = .ok (.iand, 1) := by decide +kernel
theorem dL_law_222 : decode cL_law 222 = .ok (.invokevirtual 182, 3) := by decide +kernel
theorem dL_law_225 : decode cL_law 225 = .ok (.aload_n 1, 1) := by decide +kernel
theorem dL_law_226 : decode cL_law 226 = .ok (.iconst 5, 1) := by decide +kernel
theorem dL_law_227 : decode cL_law 227 = .ok (.invokevirtual 124, 3) := by decide +kernel
theorem dL_law_230 : decode cL_law 230 = .ok (.if_icmp .eq 5, 3) := by decide +kernel
theorem dL_law_233 : decode cL_law 233 = .ok (.iconst 0, 1) := by decide +kernel
theorem dL_law_234 : decode cL_law 234 = .ok (.ireturn, 1) := by decide +kernel
theorem dL_law_235 : decode cL_law 235 = .ok (.aload_n 1, 1) := by decide +kernel
theorem dL_law_236 : decode cL_law 236 = .ok (.iload 6, 2) := by decide +kernel
theorem dL_law_238 : decode cL_law 238 = .ok (.invokestatic 152, 3) := by decide +kernel
theorem dL_law_241 : decode cL_law 241 = .ok (.istore 13, 2) := by decide +kernel
theorem dL_law_243 : decode cL_law 243 = .ok (.aload_n 1, 1) := by decide +kernel
theorem dL_law_244 : decode cL_law 244 = .ok (.iload 7, 2) := by decide +kernel
theorem dL_law_246 : decode cL_law 246 = .ok (.invokestatic 152, 3) := by decide +kernel
theorem dL_law_249 : decode cL_law 249 = .ok (.istore 14, 2) := by decide +kernel
theorem dL_law_251 : decode cL_law 251 = .ok (.aload_n 1, 1) := by decide +kernel
theorem dL_law_252 : decode cL_law 252 = .ok (.invokestatic 172, 3) := by decide +kernel
theorem dL_law_255 : decode cL_law 255 = .ok (.lstore 15, 2) := by decide +kernel
theorem dL_law_257 : decode cL_law 257 = .ok (.aload_n 1, 1) := by decide +kernel
theorem dL_law_258 : decode cL_law 258 = .ok (.invokestatic 185, 3) := by decide +kernel
theorem dL_law_261 : decode cL_law 261 = .ok (.iload 11, 2) := by decide +kernel
theorem dL_law_263 : decode cL_law 263 = .ok (.if_icmp .ne 37, 3) := by decide +kernel
theorem dL_law_266 : decode cL_law 266 = .ok (.aload_n 1, 1) := by decide +kernel
theorem dL_law_267 : decode cL_law 267 = .ok (.aload_n 2, 1) := by decide +kernel
theorem dL_law_268 : decode cL_law 268 = .ok (.invokestatic 169, 3) := by decide +kernel
theorem dL_law_271 : decode cL_law 271 = .ok (.ifCond .eq 29, 3) := by decide +kernel
theorem dL_law_274 : decode cL_law 274 = .ok (.aload_n 1, 1) := by decide +kernel
theorem dL_law_275 : decode cL_law 275 = .ok (.iload 4, 2) := by decide +kernel
theorem dL_law_277 : decode cL_law 277 = .ok (.iconst 1, 1) := by decide +kernel
theorem dL_law_278 : decode cL_law 278 = .ok (.iand, 1) := by decide +kernel
theorem dL_law_279 : decode cL_law 279 = .ok (.invokevirtual 189, 3) := by decide +kernel
theorem dL_law_282 : decode cL_law 282 = .ok (.aload_n 1, 1) := by decide +kernel
theorem dL_law_283 : decode cL_law 283 = .ok (.iconst 5, 1) := by decide +kernel
theorem dL_law_284 : decode cL_law 284 = .ok (.invokevirtual 124, 3) := by decide +kernel
theorem dL_law_287 : decode cL_law 287 = .ok (.if_icmp .ne 13, 3) := by decide +kernel
theorem dL_law_290 : decode cL_law 290 = .ok (.aload_n 1, 1) := by decide +kernel
theorem dL_law_291 : decode cL_law 291 = .ok (.invokestatic 172, 3) := by decide +kernel
theorem dL_law_294 : decode cL_law 294 = .ok (.lload 9, 2) := by decide +kernel
theorem dL_law_296 : decode cL_law 296 = .ok (.lcmp, 1) := by decide +kernel
theorem dL_law_297 : decode cL_law 297 = .ok (.ifCond .eq 5, 3) := by decide +kernel
theorem dL_law_300 : decode cL_law 300 = .ok (.iconst 0, 1) := by decide +kernel
theorem dL_law_301 : decode cL_law 301 = .ok (.ireturn, 1) := by decide +kernel
theorem dL_law_302 : decode cL_law 302 = .ok (.iconst 0, 1) := by decide +kernel
theorem dL_law_303 : decode cL_law 303 = .ok (.istore 17, 2) := by decide +kernel
theorem dL_law_305 : decode cL_law 305 = .ok (.iload 17, 2) := by decide +kernel
theorem dL_law_307 : decode cL_law 307 = .ok (.iload 6, 2) := by decide +kernel
theorem dL_law_309 : decode cL_law 309 = .ok (.iload 7, 2) := by decide +kernel
theorem dL_law_311 : decode cL_law 311 = .ok (.iadd, 1) := by decide +kernel
theorem dL_law_312 : decode cL_law 312 = .ok (.if_icmp .ge 76, 3) := by decide +kernel
theorem dL_law_315 : decode cL_law 315 = .ok (.iload 17, 2) := by decide +kernel
theorem dL_law_317 : decode cL_law 317 = .ok (.bipush 13, 2) := by decide +kernel
theorem dL_law_319 : decode cL_law 319 = .ok (.if_icmp .ge 69, 3) := by decide +kernel
theorem dL_law_322 : decode cL_law 322 = .ok (.aload_n 1, 1) := by decide +kernel
theorem dL_law_323 : decode cL_law 323 = .ok (.invokevirtual 83, 3) := by decide +kernel
theorem dL_law_326 : decode cL_law 326 = .ok (.ifCond .ge 16, 3) := by decide +kernel
theorem dL_law_329 : decode cL_law 329 = .ok (.aload_n 1, 1) := by decide +kernel
theorem dL_law_330 : decode cL_law 330 = .ok (.invokevirtual 102, 3) := by decide +kernel
theorem dL_law_333 : decode cL_law 333 = .ok (.iload 8, 2) := by decide +kernel
theorem dL_law_335 : decode cL_law 335 = .ok (.if_icmp .ne 7, 3) := by decide +kernel
theorem dL_law_338 : decode cL_law 338 = .ok (.iconst 1, 1) := by decide +kernel
theorem dL_law_339 : decode cL_law 339 = .ok (.goto 4, 3) := by decide +kernel
theorem dL_law_342 : decode cL_law 342 = .ok (.iconst 0, 1) := by decide +kernel
theorem dL_law_343 : decode cL_law 343 = .ok (.istore 18, 2) := by decide +kernel
theorem dL_law_345 : decode cL_law 345 = .ok (.iload 18, 2) := by decide +kernel
theorem dL_law_347 : decode cL_law 347 = .ok (.iload 12, 2) := by decide +kernel
theorem dL_law_349 : decode cL_law 349 = .ok (.iload 17, 2) := by decide +kernel
theorem dL_law_351 : decode cL_law 351 = .ok (.if_icmp .ne 7, 3) := by decide +kernel
theorem dL_law_354 : decode cL_law 354 = .ok (.iconst 1, 1) := by decide +kernel
theorem dL_law_355 : decode cL_law 355 = .ok (.goto 4, 3) := by decide +kernel
theorem dL_law_358 : decode cL_law 358 = .ok (.iconst 0, 1) := by decide +kernel
theorem dL_law_359 : decode cL_law 359 = .ok (.if_icmp .eq 17, 3) := by decide +kernel
theorem dL_law_362 : decode cL_law 362 = .ok (.iload 12, 2) := by decide +kernel
theorem dL_law_364 : decode cL_law 364 = .ok (.ifCond .lt 10, 3) := by decide +kernel
theorem dL_law_367 : decode cL_law 367 = .ok (.iload 12, 2) := by decide +kernel
theorem dL_law_369 : decode cL_law 369 = .ok (.iload 17, 2) := by decide +kernel
theorem dL_law_371 : decode cL_law 371 = .ok (.if_icmp .lt 5, 3) := by decide +kernel
theorem dL_law_374 : decode cL_law 374 = .ok (.iconst 0, 1) := by decide +kernel
theorem dL_law_375 : decode cL_law 375 = .ok (.ireturn, 1) := by decide +kernel
theorem dL_law_376 : decode cL_law 376 = .ok (.aload_n 1, 1) := by decide +kernel
theorem dL_law_377 : decode cL_law 377 = .ok (.iconst 1, 1) := by decide +kernel
theorem dL_law_378 : decode cL_law 378 = .ok (.invokestatic 152, 3) := by decide +kernel
theorem dL_law_381 : decode cL_law 381 = .ok (.pop, 1) := by decide +kernel
theorem dL_law_382 : decode cL_law 382 = .ok (.iinc 17 1, 3) := by decide +kernel
theorem dL_law_385 : decode cL_law 385 = .ok (.goto (-80), 3) := by decide +kernel
theorem dL_law_388 : decode cL_law 388 = .ok (.aload_n 1, 1) := by decide +kernel
theorem dL_law_389 : decode cL_law 389 = .ok (.invokestatic 172, 3) := by decide +kernel
theorem dL_law_392 : decode cL_law 392 = .ok (.lload 15, 2) := by decide +kernel
theorem dL_law_394 : decode cL_law 394 = .ok (.lcmp, 1) := by decide +kernel
theorem dL_law_395 : decode cL_law 395 = .ok (.ifCond .eq 5, 3) := by decide +kernel
theorem dL_law_398 : decode cL_law 398 = .ok (.iconst 0, 1) := by decide +kernel
theorem dL_law_399 : decode cL_law 399 = .ok (.ireturn, 1) := by decide +kernel
theorem dL_law_400 : decode cL_law 400 = .ok (.aload_n 1, 1) := by decide +kernel
theorem dL_law_401 : decode cL_law 401 = .ok (.iload 4, 2) := by decide +kernel
theorem dL_law_403 : decode cL_law 403 = .ok (.iconst 1, 1) := by decide +kernel
theorem dL_law_404 : decode cL_law 404 = .ok (.iand, 1) := by decide +kernel
theorem dL_law_405 : decode cL_law 405 = .ok (.invokevirtual 189, 3) := by decide +kernel
theorem dL_law_408 : decode cL_law 408 = .ok (.pop, 1) := by decide +kernel
theorem dL_law_409 : decode cL_law 409 = .ok (.aload_n 1, 1) := by decide +kernel
theorem dL_law_410 : decode cL_law 410 = .ok (.iload 6, 2) := by decide +kernel
theorem dL_law_412 : decode cL_law 412 = .ok (.iload 7, 2) := by decide +kernel
theorem dL_law_414 : decode cL_law 414 = .ok (.iadd, 1) := by decide +kernel
theorem dL_law_415 : decode cL_law 415 = .ok (.invokestatic 152, 3) := by decide +kernel
theorem dL_law_418 : decode cL_law 418 = .ok (.iload 13, 2) := by decide +kernel
theorem dL_law_420 : decode cL_law 420 = .ok (.iload 14, 2) := by decide +kernel
theorem dL_law_422 : decode cL_law 422 = .ok (.iadd, 1) := by decide +kernel
theorem dL_law_423 : decode cL_law 423 = .ok (.if_icmp .ne 13, 3) := by decide +kernel
theorem dL_law_426 : decode cL_law 426 = .ok (.aload_n 1, 1) := by decide +kernel
theorem dL_law_427 : decode cL_law 427 = .ok (.invokestatic 172, 3) := by decide +kernel
theorem dL_law_430 : decode cL_law 430 = .ok (.lload 15, 2) := by decide +kernel
theorem dL_law_432 : decode cL_law 432 = .ok (.lcmp, 1) := by decide +kernel
theorem dL_law_433 : decode cL_law 433 = .ok (.ifCond .eq 5, 3) := by decide +kernel
theorem dL_law_436 : decode cL_law 436 = .ok (.iconst 0, 1) := by decide +kernel
theorem dL_law_437 : decode cL_law 437 = .ok (.ireturn, 1) := by decide +kernel
theorem dL_law_438 : decode cL_law 438 = .ok (.iinc 4 1, 3) := by decide +kernel
theorem dL_law_441 : decode cL_law 441 = .ok (.goto (-376), 3) := by decide +kernel
theorem dL_law_444 : decode cL_law 444 = .ok (.aload_n 1, 1) := by decide +kernel
theorem dL_law_445 : decode cL_law 445 = .ok (.invokestatic 172, 3) := by decide +kernel
theorem dL_law_448 : decode cL_law 448 = .ok (.lstore 4, 2) := by decide +kernel
theorem dL_law_450 : decode cL_law 450 = .ok (.aload_n 1, 1) := by decide +kernel
theorem dL_law_451 : decode cL_law 451 = .ok (.iconst 0, 1) := by decide +kernel
theorem dL_law_452 : decode cL_law 452 = .ok (.invokestatic 152, 3) := by decide +kernel
theorem dL_law_455 : decode cL_law 455 = .ok (.iconst (-1), 1) := by decide +kernel
theorem dL_law_456 : decode cL_law 456 = .ok (.if_icmp .ne 62, 3) := by decide +kernel
theorem dL_law_459 : decode cL_law 459 = .ok (.aload_n 1, 1) := by decide +kernel
theorem dL_law_460 : decode cL_law 460 = .ok (.bipush 101, 2) := by decide +kernel
theorem dL_law_462 : decode cL_law 462 = .ok (.invokestatic 152, 3) := by decide +kernel
theorem dL_law_465 : decode cL_law 465 = .ok (.iconst (-1), 1) := by decide +kernel
theorem dL_law_466 : decode cL_law 466 = .ok (.if_icmp .ne 52, 3) := by decide +kernel
theorem dL_law_469 : decode cL_law 469 = .ok (.aload_n 1, 1) := by decide +kernel
theorem dL_law_470 : decode cL_law 470 = .ok (.bipush 99, 2) := by decide +kernel
theorem dL_law_472 : decode cL_law 472 = .ok (.iconst 1, 1) := by decide +kernel
theorem dL_law_473 : decode cL_law 473 = .ok (.invokestatic 155, 3) := by decide +kernel
theorem dL_law_476 : decode cL_law 476 = .ok (.iconst (-1), 1) := by decide +kernel
theorem dL_law_477 : decode cL_law 477 = .ok (.if_icmp .ne 41, 3) := by decide +kernel
theorem dL_law_480 : decode cL_law 480 = .ok (.aload_n 1, 1) := by decide +kernel
theorem dL_law_481 : decode cL_law 481 = .ok (.iconst 0, 1) := by decide +kernel
theorem dL_law_482 : decode cL_law 482 = .ok (.sipush 401, 3) := by decide +kernel
theorem dL_law_485 : decode cL_law 485 = .ok (.invokestatic 155, 3) := by decide +kernel
theorem dL_law_488 : decode cL_law 488 = .ok (.bipush (-2), 2) := by decide +kernel
theorem dL_law_490 : decode cL_law 490 = .ok (.if_icmp .ne 28, 3) := by decide +kernel
theorem dL_law_493 : decode cL_law 493 = .ok (.aload_n 1, 1) := by decide +kernel
theorem dL_law_494 : decode cL_law 494 = .ok (.bipush (-2), 2) := by decide +kernel
theorem dL_law_496 : decode cL_law 496 = .ok (.iconst 0, 1) := by decide +kernel
theorem dL_law_497 : decode cL_law 497 = .ok (.iconst 1, 1) := by decide +kernel
theorem dL_law_498 : decode cL_law 498 = .ok (.invokestatic 192, 3) := by decide +kernel
theorem dL_law_501 : decode cL_law 501 = .ok (.iconst (-1), 1) := by decide +kernel
theorem dL_law_502 : decode cL_law 502 = .ok (.if_icmp .ne 16, 3) := by decide +kernel
theorem dL_law_505 : decode cL_law 505 = .ok (.aload_n 1, 1) := by decide +kernel
theorem dL_law_506 : decode cL_law 506 = .ok (.iconst 0, 1) := by decide +kernel
theorem dL_law_507 : decode cL_law 507 = .ok (.iconst 0, 1) := by decide +kernel
theorem dL_law_508 : decode cL_law 508 = .ok (.bipush 61, 2) := by decide +kernel
theorem dL_law_510 : decode cL_law 510 = .ok (.invokestatic 192, 3) := by decide +kernel
theorem dL_law_513 : decode cL_law 513 = .ok (.bipush (-2), 2) := by decide +kernel
theorem dL_law_515 : decode cL_law 515 = .ok (.if_icmp .eq 5, 3) := by decide +kernel
theorem dL_law_518 : decode cL_law 518 = .ok (.iconst 0, 1) := by decide +kernel
theorem dL_law_519 : decode cL_law 519 = .ok (.ireturn, 1) := by decide +kernel
theorem dL_law_520 : decode cL_law 520 = .ok (.aload_n 1, 1) := by decide +kernel
theorem dL_law_521 : decode cL_law 521 = .ok (.iconst 0, 1) := by decide +kernel
theorem dL_law_522 : decode cL_law 522 = .ok (.iconst 0, 1) := by decide +kernel
theorem dL_law_523 : decode cL_law 523 = .ok (.iconst 0, 1) := by decide +kernel
theorem dL_law_524 : decode cL_law 524 = .ok (.invokestatic 195, 3) := by decide +kernel
theorem dL_law_527 : decode cL_law 527 = .ok (.bipush (-2), 2) := by decide +kernel
theorem dL_law_529 : decode cL_law 529 = .ok (.if_icmp .ne 50, 3) := by decide +kernel
theorem dL_law_532 : decode cL_law 532 = .ok (.aload_n 1, 1) := by decide +kernel
theorem dL_law_533 : decode cL_law 533 = .ok (.iconst 5, 1) := by decide +kernel
theorem dL_law_534 : decode cL_law 534 = .ok (.iconst 5, 1) := by decide +kernel
theorem dL_law_535 : decode cL_law 535 = .ok (.iconst 0, 1) := by decide +kernel
theorem dL_law_536 : decode cL_law 536 = .ok (.invokestatic 195, 3) := by decide +kernel
theorem dL_law_539 : decode cL_law 539 = .ok (.bipush (-2), 2) := by decide +kernel
theorem dL_law_541 : decode cL_law 541 = .ok (.if_icmp .ne 38, 3) := by decide +kernel
theorem dL_law_544 : decode cL_law 544 = .ok (.aload_n 1, 1) := by decide +kernel
theorem dL_law_545 : decode cL_law 545 = .ok (.iconst 5, 1) := by decide +kernel
theorem dL_law_546 : decode cL_law 546 = .ok (.iconst 0, 1) := by decide +kernel
theorem dL_law_547 : decode cL_law 547 = .ok (.bipush (-100), 2) := by decide +kernel
theorem dL_law_549 : decode cL_law 549 = .ok (.invokestatic 195, 3) := by decide +kernel
theorem dL_law_552 : decode cL_law 552 = .ok (.bipush (-3), 2) := by decide +kernel
theorem dL_law_554 : decode cL_law 554 = .ok (.if_icmp .ne 25, 3) := by decide +kernel
theorem dL_law_557 : decode cL_law 557 = .ok (.aload_n 1, 1) := by decide +kernel
theorem dL_law_558 : decode cL_law 558 = .ok (.bipush 20, 2) := by decide +kernel
theorem dL_law_560 : decode cL_law 560 = .ok (.iconst 0, 1) := by decide +kernel
theorem dL_law_561 : decode cL_law 561 = .ok (.iconst 0, 1) := by decide +kernel
theorem dL_law_562 : decode cL_law 562 = .ok (.invokestatic 195, 3) := by decide +kernel
theorem dL_law_565 : decode cL_law 565 = .ok (.iconst (-1), 1) := by decide +kernel
theorem dL_law_566 : decode cL_law 566 = .ok (.if_icmp .ne 13, 3) := by decide +kernel
theorem dL_law_569 : decode cL_law 569 = .ok (.aload_n 1, 1) := by decide +kernel
theorem dL_law_570 : decode cL_law 570 = .ok (.invokestatic 172, 3) := by decide +kernel
theorem dL_law_573 : decode cL_law 573 = .ok (.lload 4, 2) := by decide +kernel
theorem dL_law_575 : decode cL_law 575 = .ok (.lcmp, 1) := by decide +kernel
theorem dL_law_576 : decode cL_law 576 = .ok (.ifCond .eq 5, 3) := by decide +kernel
theorem dL_law_579 : decode cL_law 579 = .ok (.iconst 0, 1) := by decide +kernel
theorem dL_law_580 : decode cL_law 580 = .ok (.ireturn, 1) := by decide +kernel
theorem dL_law_581 : decode cL_law 581 = .ok (.aload_n 1, 1) := by decide +kernel
theorem dL_law_582 : decode cL_law 582 = .ok (.iconst 5, 1) := by decide +kernel
theorem dL_law_583 : decode cL_law 583 = .ok (.invokevirtual 124, 3) := by decide +kernel
theorem dL_law_586 : decode cL_law 586 = .ok (.istore 6, 2) := by decide +kernel
theorem dL_law_588 : decode cL_law 588 = .ok (.aload_n 1, 1) := by decide +kernel
theorem dL_law_589 : decode cL_law 589 = .ok (.invokevirtual 197, 3) := by decide +kernel
theorem dL_law_592 : decode cL_law 592 = .ok (.iload 6, 2) := by decide +kernel
theorem dL_law_594 : decode cL_law 594 = .ok (.if_icmp .ne 55, 3) := by decide +kernel
theorem dL_law_597 : decode cL_law 597 = .ok (.aload_n 1, 1) := by decide +kernel
theorem dL_law_598 : decode cL_law 598 = .ok (.iconst 5, 1) := by decide +kernel
theorem dL_law_599 : decode cL_law 599 = .ok (.invokevirtual 124, 3) := by decide +kernel
theorem dL_law_602 : decode cL_law 602 = .ok (.ifCond .ne 47, 3) := by decide +kernel
theorem dL_law_605 : decode cL_law 605 = .ok (.aload_n 1, 1) := by decide +kernel
theorem dL_law_606 : decode cL_law 606 = .ok (.invokevirtual 119, 3) := by decide +kernel
theorem dL_law_609 : decode cL_law 609 = .ok (.ifCond .ne 40, 3) := by decide +kernel
theorem dL_law_612 : decode cL_law 612 = .ok (.aload_n 1, 1) := by decide +kernel
theorem dL_law_613 : decode cL_law 613 = .ok (.invokevirtual 102, 3) := by decide +kernel
theorem dL_law_616 : decode cL_law 616 = .ok (.ifCond .ne 33, 3) := by decide +kernel
theorem dL_law_619 : decode cL_law 619 = .ok (.aload_n 1, 1) := by decide +kernel
theorem dL_law_620 : decode cL_law 620 = .ok (.invokevirtual 83, 3) := by decide +kernel
theorem dL_law_623 : decode cL_law 623 = .ok (.iconst (-1), 1) := by decide +kernel
theorem dL_law_624 : decode cL_law 624 = .ok (.if_icmp .ne 25, 3) := by decide +kernel
theorem dL_law_627 : decode cL_law 627 = .ok (.aload_n 1, 1) := by decide +kernel
theorem dL_law_628 : decode cL_law 628 = .ok (.iconst 0, 1) := by decide +kernel
theorem dL_law_629 : decode cL_law 629 = .ok (.invokevirtual 113, 3) := by decide +kernel
theorem dL_law_632 : decode cL_law 632 = .ok (.lconst 0, 1) := by decide +kernel
theorem dL_law_633 : decode cL_law 633 = .ok (.lcmp, 1) := by decide +kernel
theorem dL_law_634 : decode cL_law 634 = .ok (.ifCond .ne 15, 3) := by decide +kernel
theorem dL_law_637 : decode cL_law 637 = .ok (.aload_n 1, 1) := by decide +kernel
theorem dL_law_638 : decode cL_law 638 = .ok (.iconst 0, 1) := by decide +kernel
theorem dL_law_639 : decode cL_law 639 = .ok (.invokevirtual 135, 3) := by decide +kernel
theorem dL_law_642 : decode cL_law 642 = .ok (.ifCond .ne 7, 3) := by decide +kernel
theorem dL_law_645 : decode cL_law 645 = .ok (.iconst 1, 1) := by decide +kernel
theorem dL_law_646 : decode cL_law 646 = .ok (.goto 4, 3) := by decide +kernel
theorem dL_law_649 : decode cL_law 649 = .ok (.iconst 0, 1) := by decide +kernel
theorem dL_law_650 : decode cL_law 650 = .ok (.ireturn, 1) := by decide +kernel
