theorem dX0_init_0 : decode cX0_init 0 = .ok (.aload_n 0, 1) := by decide +kernel
theorem dX0_init_1 : decode cX0_init 1 = .ok (.invokespecial 3, 3) := by decide +kernel
theorem dX0_init_4 : decode cX0_init 4 = .ok (.aload_n 0, 1) := by decide +kernel
theorem dX0_init_5 : decode cX0_init 5 = .ok (.bipush 12, 2) := by decide +kernel
theorem dX0_init_7 : decode cX0_init 7 = .ok (.newarray .int, 2) := by decide +kernel
theorem dX0_init_9 : decode cX0_init 9 = .ok (.putfield 9, 3) := by decide +kernel
theorem dX0_init_12 : decode cX0_init 12 = .ok (.return_, 1) := by decide +kernel
theorem dX0_fill_0 : decode cX0_fill 0 = .ok (.iconst 0, 1) := by decide +kernel
theorem dX0_fill_1 : decode cX0_fill 1 = .ok (.istore 4, 2) := by decide +kernel
theorem dX0_fill_3 : decode cX0_fill 3 = .ok (.iload 4, 2) := by decide +kernel
theorem dX0_fill_5 : decode cX0_fill 5 = .ok (.aload_n 0, 1) := by decide +kernel
theorem dX0_fill_6 : decode cX0_fill 6 = .ok (.getfield 9, 3) := by decide +kernel
theorem dX0_fill_9 : decode cX0_fill 9 = .ok (.arraylength, 1) := by decide +kernel
theorem dX0_fill_10 : decode cX0_fill 10 = .ok (.if_icmp .ge 17, 3) := by decide +kernel
theorem dX0_fill_13 : decode cX0_fill 13 = .ok (.aload_n 0, 1) := by decide +kernel
theorem dX0_fill_14 : decode cX0_fill 14 = .ok (.getfield 9, 3) := by decide +kernel
theorem dX0_fill_17 : decode cX0_fill 17 = .ok (.iload 4, 2) := by decide +kernel
theorem dX0_fill_19 : decode cX0_fill 19 = .ok (.iconst 0, 1) := by decide +kernel
theorem dX0_fill_20 : decode cX0_fill 20 = .ok (.iastore, 1) := by decide +kernel
theorem dX0_fill_21 : decode cX0_fill 21 = .ok (.iinc 4 1, 3) := by decide +kernel
theorem dX0_fill_24 : decode cX0_fill 24 = .ok (.goto (-21), 3) := by decide +kernel
theorem dX0_fill_27 : decode cX0_fill 27 = .ok (.aload_n 0, 1) := by decide +kernel
theorem dX0_fill_28 : decode cX0_fill 28 = .ok (.getfield 9, 3) := by decide +kernel
theorem dX0_fill_31 : decode cX0_fill 31 = .ok (.aload_n 1, 1) := by decide +kernel
theorem dX0_fill_32 : decode cX0_fill 32 = .ok (.iload_n 2, 1) := by decide +kernel
theorem dX0_fill_33 : decode cX0_fill 33 = .ok (.aload_n 3, 1) := by decide +kernel
theorem dX0_fill_34 : decode cX0_fill 34 = .ok (.iconst 1, 1) := by decide +kernel
theorem dX0_fill_35 : decode cX0_fill 35 = .ok (.invokestatic 15, 3) := by decide +kernel
theorem dX0_fill_38 : decode cX0_fill 38 = .ok (.return_, 1) := by decide +kernel
theorem dX0_weightOf_0 : decode cX0_weightOf 0 = .ok (.iload_n 1, 1) := by decide +kernel
theorem dX0_weightOf_1 : decode cX0_weightOf 1 = .ok (.ifCond .lt 21, 3) := by decide +kernel
theorem dX0_weightOf_4 : decode cX0_weightOf 4 = .ok (.iload_n 1, 1) := by decide +kernel
theorem dX0_weightOf_5 : decode cX0_weightOf 5 = .ok (.aload_n 0, 1) := by decide +kernel
theorem dX0_weightOf_6 : decode cX0_weightOf 6 = .ok (.getfield 9, 3) := by decide +kernel
theorem dX0_weightOf_9 : decode cX0_weightOf 9 = .ok (.arraylength, 1) := by decide +kernel
theorem dX0_weightOf_10 : decode cX0_weightOf 10 = .ok (.if_icmp .ge 12, 3) := by decide +kernel
theorem dX0_weightOf_13 : decode cX0_weightOf 13 = .ok (.aload_n 0, 1) := by decide +kernel
theorem dX0_weightOf_14 : decode cX0_weightOf 14 = .ok (.getfield 9, 3) := by decide +kernel
theorem dX0_weightOf_17 : decode cX0_weightOf 17 = .ok (.iload_n 1, 1) := by decide +kernel
theorem dX0_weightOf_18 : decode cX0_weightOf 18 = .ok (.iaload, 1) := by decide +kernel
theorem dX0_weightOf_19 : decode cX0_weightOf 19 = .ok (.goto 4, 3) := by decide +kernel
theorem dX0_weightOf_22 : decode cX0_weightOf 22 = .ok (.iconst 0, 1) := by decide +kernel
theorem dX0_weightOf_23 : decode cX0_weightOf 23 = .ok (.ireturn, 1) := by decide +kernel
theorem dX0_addParts_0 : decode cX0_addParts 0 = .ok (.iload_n 2, 1) := by decide +kernel
theorem dX0_addParts_1 : decode cX0_addParts 1 = .ok (.ifCond .eq 9, 3) := by decide +kernel
theorem dX0_addParts_4 : decode cX0_addParts 4 = .ok (.iload 4, 2) := by decide +kernel
theorem dX0_addParts_6 : decode cX0_addParts 6 = .ok (.iconst 4, 1) := by decide +kernel
theorem dX0_addParts_7 : decode cX0_addParts 7 = .ok (.if_icmp .le 4, 3) := by decide +kernel
theorem dX0_addParts_10 : decode cX0_addParts 10 = .ok (.return_, 1) := by decide +kernel
theorem dX0_addParts_11 : decode cX0_addParts 11 = .ok (.aload_n 1, 1) := by decide +kernel
theorem dX0_addParts_12 : decode cX0_addParts 12 = .ok (.getfield 19, 3) := by decide +kernel
theorem dX0_addParts_15 : decode cX0_addParts 15 = .ok (.ifnull 33, 3) := by decide +kernel
theorem dX0_addParts_18 : decode cX0_addParts 18 = .ok (.aload_n 1, 1) := by decide +kernel
theorem dX0_addParts_19 : decode cX0_addParts 19 = .ok (.getfield 19, 3) := by decide +kernel
theorem dX0_addParts_22 : decode cX0_addParts 22 = .ok (.getfield 25, 3) := by decide +kernel
theorem dX0_addParts_25 : decode cX0_addParts 25 = .ok (.istore 5, 2) := by decide +kernel
theorem dX0_addParts_27 : decode cX0_addParts 27 = .ok (.iload 5, 2) := by decide +kernel
theorem dX0_addParts_29 : decode cX0_addParts 29 = .ok (.ifCond .lt 18, 3) := by decide +kernel
theorem dX0_addParts_32 : decode cX0_addParts 32 = .ok (.iload 5, 2) := by decide +kernel
theorem dX0_addParts_34 : decode cX0_addParts 34 = .ok (.aload_n 0, 1) := by decide +kernel
theorem dX0_addParts_35 : decode cX0_addParts 35 = .ok (.arraylength, 1) := by decide +kernel
theorem dX0_addParts_36 : decode cX0_addParts 36 = .ok (.if_icmp .ge 11, 3) := by decide +kernel
theorem dX0_addParts_39 : decode cX0_addParts 39 = .ok (.aload_n 0, 1) := by decide +kernel
theorem dX0_addParts_40 : decode cX0_addParts 40 = .ok (.iload 5, 2) := by decide +kernel
theorem dX0_addParts_42 : decode cX0_addParts 42 = .ok (.dup2, 1) := by decide +kernel
theorem dX0_addParts_43 : decode cX0_addParts 43 = .ok (.iaload, 1) := by decide +kernel
theorem dX0_addParts_44 : decode cX0_addParts 44 = .ok (.iload_n 2, 1) := by decide +kernel
theorem dX0_addParts_45 : decode cX0_addParts 45 = .ok (.iadd, 1) := by decide +kernel
theorem dX0_addParts_46 : decode cX0_addParts 46 = .ok (.iastore, 1) := by decide +kernel
theorem dX0_addParts_47 : decode cX0_addParts 47 = .ok (.return_, 1) := by decide +kernel
theorem dX0_addParts_48 : decode cX0_addParts 48 = .ok (.aload_n 1, 1) := by decide +kernel
theorem dX0_addParts_49 : decode cX0_addParts 49 = .ok (.getfield 31, 3) := by decide +kernel
theorem dX0_addParts_52 : decode cX0_addParts 52 = .ok (.ifCond .lt 22, 3) := by decide +kernel
theorem dX0_addParts_55 : decode cX0_addParts 55 = .ok (.aload_n 1, 1) := by decide +kernel
theorem dX0_addParts_56 : decode cX0_addParts 56 = .ok (.getfield 31, 3) := by decide +kernel
theorem dX0_addParts_59 : decode cX0_addParts 59 = .ok (.aload_n 3, 1) := by decide +kernel
theorem dX0_addParts_60 : decode cX0_addParts 60 = .ok (.arraylength, 1) := by decide +kernel
theorem dX0_addParts_61 : decode cX0_addParts 61 = .ok (.if_icmp .ge 13, 3) := by decide +kernel
theorem dX0_addParts_64 : decode cX0_addParts 64 = .ok (.aload_n 1, 1) := by decide +kernel
theorem dX0_addParts_65 : decode cX0_addParts 65 = .ok (.getfield 34, 3) := by decide +kernel
theorem dX0_addParts_68 : decode cX0_addParts 68 = .ok (.invokevirtual 38, 3) := by decide +kernel
theorem dX0_addParts_71 : decode cX0_addParts 71 = .ok (.ifCond .eq 4, 3) := by decide +kernel
theorem dX0_addParts_74 : decode cX0_addParts 74 = .ok (.return_, 1) := by decide +kernel
theorem dX0_addParts_75 : decode cX0_addParts 75 = .ok (.aload_n 3, 1) := by decide +kernel
theorem dX0_addParts_76 : decode cX0_addParts 76 = .ok (.aload_n 1, 1) := by decide +kernel
theorem dX0_addParts_77 : decode cX0_addParts 77 = .ok (.getfield 31, 3) := by decide +kernel
theorem dX0_addParts_80 : decode cX0_addParts 80 = .ok (.iaload, 1) := by decide +kernel
theorem dX0_addParts_81 : decode cX0_addParts 81 = .ok (.istore 5, 2) := by decide +kernel
theorem dX0_addParts_83 : decode cX0_addParts 83 = .ok (.iconst 0, 1) := by decide +kernel
theorem dX0_addParts_84 : decode cX0_addParts 84 = .ok (.istore 6, 2) := by decide +kernel
theorem dX0_addParts_86 : decode cX0_addParts 86 = .ok (.iload 6, 2) := by decide +kernel
theorem dX0_addParts_88 : decode cX0_addParts 88 = .ok (.aload_n 1, 1) := by decide +kernel
theorem dX0_addParts_89 : decode cX0_addParts 89 = .ok (.getfield 34, 3) := by decide +kernel
theorem dX0_addParts_92 : decode cX0_addParts 92 = .ok (.invokevirtual 44, 3) := by decide +kernel
theorem dX0_addParts_95 : decode cX0_addParts 95 = .ok (.iconst 1, 1) := by decide +kernel
theorem dX0_addParts_96 : decode cX0_addParts 96 = .ok (.isub, 1) := by decide +kernel
theorem dX0_addParts_97 : decode cX0_addParts 97 = .ok (.if_icmp .ge 20, 3) := by decide +kernel
theorem dX0_addParts_100 : decode cX0_addParts 100 = .ok (.aload_n 1, 1) := by decide +kernel
theorem dX0_addParts_101 : decode cX0_addParts 101 = .ok (.iload 6, 2) := by decide +kernel
theorem dX0_addParts_103 : decode cX0_addParts 103 = .ok (.invokevirtual 48, 3) := by decide +kernel
theorem dX0_addParts_106 : decode cX0_addParts 106 = .ok (.iload 5, 2) := by decide +kernel
theorem dX0_addParts_108 : decode cX0_addParts 108 = .ok (.if_icmp .ge 9, 3) := by decide +kernel
theorem dX0_addParts_111 : decode cX0_addParts 111 = .ok (.iinc 6 1, 3) := by decide +kernel
theorem dX0_addParts_114 : decode cX0_addParts 114 = .ok (.goto (-28), 3) := by decide +kernel
theorem dX0_addParts_117 : decode cX0_addParts 117 = .ok (.iload 6, 2) := by decide +kernel
theorem dX0_addParts_119 : decode cX0_addParts 119 = .ok (.ifCond .le 21, 3) := by decide +kernel
theorem dX0_addParts_122 : decode cX0_addParts 122 = .ok (.aload_n 1, 1) := by decide +kernel
theorem dX0_addParts_123 : decode cX0_addParts 123 = .ok (.iload 6, 2) := by decide +kernel
theorem dX0_addParts_125 : decode cX0_addParts 125 = .ok (.invokevirtual 48, 3) := by decide +kernel
theorem dX0_addParts_128 : decode cX0_addParts 128 = .ok (.iload 5, 2) := by decide +kernel
theorem dX0_addParts_130 : decode cX0_addParts 130 = .ok (.if_icmp .le 10, 3) := by decide +kernel
theorem dX0_addParts_133 : decode cX0_addParts 133 = .ok (.iload 6, 2) := by decide +kernel
theorem dX0_addParts_135 : decode cX0_addParts 135 = .ok (.iconst 1, 1) := by decide +kernel
theorem dX0_addParts_136 : decode cX0_addParts 136 = .ok (.isub, 1) := by decide +kernel
theorem dX0_addParts_137 : decode cX0_addParts 137 = .ok (.goto 5, 3) := by decide +kernel
theorem dX0_addParts_140 : decode cX0_addParts 140 = .ok (.iload 6, 2) := by decide +kernel
theorem dX0_addParts_142 : decode cX0_addParts 142 = .ok (.istore 7, 2) := by decide +kernel
theorem dX0_addParts_144 : decode cX0_addParts 144 = .ok (.aload_n 1, 1) := by decide +kernel
theorem dX0_addParts_145 : decode cX0_addParts 145 = .ok (.iload 6, 2) := by decide +kernel
theorem dX0_addParts_147 : decode cX0_addParts 147 = .ok (.invokevirtual 48, 3) := by decide +kernel
theorem dX0_addParts_150 : decode cX0_addParts 150 = .ok (.aload_n 1, 1) := by decide +kernel
theorem dX0_addParts_151 : decode cX0_addParts 151 = .ok (.iload 7, 2) := by decide +kernel
theorem dX0_addParts_153 : decode cX0_addParts 153 = .ok (.invokevirtual 48, 3) := by decide +kernel
theorem dX0_addParts_156 : decode cX0_addParts 156 = .ok (.isub, 1) := by decide +kernel
theorem dX0_addParts_157 : decode cX0_addParts 157 = .ok (.istore 8, 2) := by decide +kernel
theorem dX0_addParts_159 : decode cX0_addParts 159 = .ok (.iconst 0, 1) := by decide +kernel
theorem dX0_addParts_160 : decode cX0_addParts 160 = .ok (.istore 9, 2) := by decide +kernel
theorem dX0_addParts_162 : decode cX0_addParts 162 = .ok (.iload 8, 2) := by decide +kernel
theorem dX0_addParts_164 : decode cX0_addParts 164 = .ok (.ifCond .le 23, 3) := by decide +kernel
theorem dX0_addParts_167 : decode cX0_addParts 167 = .ok (.iload_n 2, 1) := by decide +kernel
theorem dX0_addParts_168 : decode cX0_addParts 168 = .ok (.i2l, 1) := by decide +kernel
theorem dX0_addParts_169 : decode cX0_addParts 169 = .ok (.iload 5, 2) := by decide +kernel
theorem dX0_addParts_171 : decode cX0_addParts 171 = .ok (.aload_n 1, 1) := by decide +kernel
theorem dX0_addParts_172 : decode cX0_addParts 172 = .ok (.iload 7, 2) := by decide +kernel
theorem dX0_addParts_174 : decode cX0_addParts 174 = .ok (.invokevirtual 48, 3) := by decide +kernel
theorem dX0_addParts_177 : decode cX0_addParts 177 = .ok (.isub, 1) := by decide +kernel
theorem dX0_addParts_178 : decode cX0_addParts 178 = .ok (.i2l, 1) := by decide +kernel
theorem dX0_addParts_179 : decode cX0_addParts 179 = .ok (.lmul, 1) := by decide +kernel
theorem dX0_addParts_180 : decode cX0_addParts 180 = .ok (.iload 8, 2) := by decide +kernel
theorem dX0_addParts_182 : decode cX0_addParts 182 = .ok (.i2l, 1) := by decide +kernel
theorem dX0_addParts_183 : decode cX0_addParts 183 = .ok (.ldiv, 1) := by decide +kernel
theorem dX0_addParts_184 : decode cX0_addParts 184 = .ok (.l2i, 1) := by decide +kernel
theorem dX0_addParts_185 : decode cX0_addParts 185 = .ok (.istore 9, 2) := by decide +kernel
theorem dX0_addParts_187 : decode cX0_addParts 187 = .ok (.aload_n 0, 1) := by decide +kernel
theorem dX0_addParts_188 : decode cX0_addParts 188 = .ok (.aload_n 1, 1) := by decide +kernel
theorem dX0_addParts_189 : decode cX0_addParts 189 = .ok (.getfield 34, 3) := by decide +kernel
theorem dX0_addParts_192 : decode cX0_addParts 192 = .ok (.iload 6, 2) := by decide +kernel
theorem dX0_addParts_194 : decode cX0_addParts 194 = .ok (.invokevirtual 52, 3) := by decide +kernel
theorem dX0_addParts_197 : decode cX0_addParts 197 = .ok (.checkcast 20, 3) := by decide +kernel
theorem dX0_addParts_200 : decode cX0_addParts 200 = .ok (.iload 9, 2) := by decide +kernel
theorem dX0_addParts_202 : decode cX0_addParts 202 = .ok (.aload_n 3, 1) := by decide +kernel
theorem dX0_addParts_203 : decode cX0_addParts 203 = .ok (.iload 4, 2) := by decide +kernel
theorem dX0_addParts_205 : decode cX0_addParts 205 = .ok (.iconst 1, 1) := by decide +kernel
theorem dX0_addParts_206 : decode cX0_addParts 206 = .ok (.iadd, 1) := by decide +kernel
theorem dX0_addParts_207 : decode cX0_addParts 207 = .ok (.invokestatic 15, 3) := by decide +kernel
theorem dX0_addParts_210 : decode cX0_addParts 210 = .ok (.aload_n 0, 1) := by decide +kernel
theorem dX0_addParts_211 : decode cX0_addParts 211 = .ok (.aload_n 1, 1) := by decide +kernel
theorem dX0_addParts_212 : decode cX0_addParts 212 = .ok (.getfield 34, 3) := by decide +kernel
theorem dX0_addParts_215 : decode cX0_addParts 215 = .ok (.iload 7, 2) := by decide +kernel
theorem dX0_addParts_217 : decode cX0_addParts 217 = .ok (.invokevirtual 52, 3) := by decide +kernel
theorem dX0_addParts_220 : decode cX0_addParts 220 = .ok (.checkcast 20, 3) := by decide +kernel
theorem dX0_addParts_223 : decode cX0_addParts 223 = .ok (.iload_n 2, 1) := by decide +kernel
theorem dX0_addParts_224 : decode cX0_addParts 224 = .ok (.iload 9, 2) := by decide +kernel
theorem dX0_addParts_226 : decode cX0_addParts 226 = .ok (.isub, 1) := by decide +kernel
theorem dX0_addParts_227 : decode cX0_addParts 227 = .ok (.aload_n 3, 1) := by decide +kernel
theorem dX0_addParts_228 : decode cX0_addParts 228 = .ok (.iload 4, 2) := by decide +kernel
theorem dX0_addParts_230 : decode cX0_addParts 230 = .ok (.iconst 1, 1) := by decide +kernel
theorem dX0_addParts_231 : decode cX0_addParts 231 = .ok (.iadd, 1) := by decide +kernel
theorem dX0_addParts_232 : decode cX0_addParts 232 = .ok (.invokestatic 15, 3) := by decide +kernel
theorem dX0_addParts_235 : decode cX0_addParts 235 = .ok (.return_, 1) := by decide +kernel
theorem dX1_init_0 : decode cX1_init 0 = .ok (.aload_n 0, 1) := by decide +kernel
theorem dX1_init_1 : decode cX1_init 1 = .ok (.invokespecial 3, 3) := by decide +kernel
theorem dX1_init_4 : decode cX1_init 4 = .ok (.aload_n 0, 1) := by decide +kernel
theorem dX1_init_5 : decode cX1_init 5 = .ok (.iconst 5, 1) := by decide +kernel
theorem dX1_init_6 : decode cX1_init 6 = .ok (.newarray .int, 2) := by decide +kernel
theorem dX1_init_8 : decode cX1_init 8 = .ok (.putfield 9, 3) := by decide +kernel
theorem dX1_init_11 : decode cX1_init 11 = .ok (.aload_n 0, 1) := by decide +kernel
theorem dX1_init_12 : decode cX1_init 12 = .ok (.iconst 5, 1) := by decide +kernel
theorem dX1_init_13 : decode cX1_init 13 = .ok (.newarray .int, 2) := by decide +kernel
theorem dX1_init_15 : decode cX1_init 15 = .ok (.putfield 15, 3) := by decide +kernel
theorem dX1_init_18 : decode cX1_init 18 = .ok (.aload_n 0, 1) := by decide +kernel
theorem dX1_init_19 : decode cX1_init 19 = .ok (.iload_n 1, 1) := by decide +kernel
theorem dX1_init_20 : decode cX1_init 20 = .ok (.putfield 18, 3) := by decide +kernel
theorem dX1_init_23 : decode cX1_init 23 = .ok (.aload_n 0, 1) := by decide +kernel
theorem dX1_init_24 : decode cX1_init 24 = .ok (.iload_n 2, 1) := by decide +kernel
theorem dX1_init_25 : decode cX1_init 25 = .ok (.putfield 22, 3) := by decide +kernel
theorem dX1_init_28 : decode cX1_init 28 = .ok (.return_, 1) := by decide +kernel
theorem dX1_insertEvent_0 : decode cX1_insertEvent 0 = .ok (.aload_n 0, 1) := by decide +kernel
theorem dX1_insertEvent_1 : decode cX1_insertEvent 1 = .ok (.getfield 25, 3) := by decide +kernel
theorem dX1_insertEvent_4 : decode cX1_insertEvent 4 = .ok (.ifCond .lt 11, 3) := by decide +kernel
theorem dX1_insertEvent_7 : decode cX1_insertEvent 7 = .ok (.aload_n 0, 1) := by decide +kernel
theorem dX1_insertEvent_8 : decode cX1_insertEvent 8 = .ok (.getfield 25, 3) := by decide +kernel
theorem dX1_insertEvent_11 : decode cX1_insertEvent 11 = .ok (.iconst 5, 1) := by decide +kernel
theorem dX1_insertEvent_12 : decode cX1_insertEvent 12 = .ok (.if_icmp .lt 4, 3) := by decide +kernel
theorem dX1_insertEvent_15 : decode cX1_insertEvent 15 = .ok (.return_, 1) := by decide +kernel
theorem dX1_insertEvent_16 : decode cX1_insertEvent 16 = .ok (.aload_n 0, 1) := by decide +kernel
theorem dX1_insertEvent_17 : decode cX1_insertEvent 17 = .ok (.getfield 25, 3) := by decide +kernel
theorem dX1_insertEvent_20 : decode cX1_insertEvent 20 = .ok (.istore_n 3, 1) := by decide +kernel
theorem dX1_insertEvent_21 : decode cX1_insertEvent 21 = .ok (.iload_n 3, 1) := by decide +kernel
theorem dX1_insertEvent_22 : decode cX1_insertEvent 22 = .ok (.ifCond .le 49, 3) := by decide +kernel
theorem dX1_insertEvent_25 : decode cX1_insertEvent 25 = .ok (.aload_n 0, 1) := by decide +kernel
theorem dX1_insertEvent_26 : decode cX1_insertEvent 26 = .ok (.getfield 9, 3) := by decide +kernel
theorem dX1_insertEvent_29 : decode cX1_insertEvent 29 = .ok (.iload_n 3, 1) := by decide +kernel
theorem dX1_insertEvent_30 : decode cX1_insertEvent 30 = .ok (.iconst 1, 1) := by decide +kernel
theorem dX1_insertEvent_31 : decode cX1_insertEvent 31 = .ok (.isub, 1) := by decide +kernel
theorem dX1_insertEvent_32 : decode cX1_insertEvent 32 = .ok (.iaload, 1) := by decide +kernel
theorem dX1_insertEvent_33 : decode cX1_insertEvent 33 = .ok (.iload_n 1, 1) := by decide +kernel
theorem dX1_insertEvent_34 : decode cX1_insertEvent 34 = .ok (.if_icmp .le 37, 3) := by decide +kernel
theorem dX1_insertEvent_37 : decode cX1_insertEvent 37 = .ok (.aload_n 0, 1) := by decide +kernel
theorem dX1_insertEvent_38 : decode cX1_insertEvent 38 = .ok (.getfield 9, 3) := by decide +kernel
theorem dX1_insertEvent_41 : decode cX1_insertEvent 41 = .ok (.iload_n 3, 1) := by decide +kernel
theorem dX1_insertEvent_42 : decode cX1_insertEvent 42 = .ok (.aload_n 0, 1) := by decide +kernel
theorem dX1_insertEvent_43 : decode cX1_insertEvent 43 = .ok (.getfield 9, 3) := by decide +kernel
theorem dX1_insertEvent_46 : decode cX1_insertEvent 46 = .ok (.iload_n 3, 1) := by decide +kernel
theorem dX1_insertEvent_47 : decode cX1_insertEvent 47 = .ok (.iconst 1, 1) := by decide +kernel
theorem dX1_insertEvent_48 : decode cX1_insertEvent 48 = .ok (.isub, 1) := by decide +kernel
theorem dX1_insertEvent_49 : decode cX1_insertEvent 49 = .ok (.iaload, 1) := by decide +kernel
theorem dX1_insertEvent_50 : decode cX1_insertEvent 50 = .ok (.iastore, 1) := by decide +kernel
theorem dX1_insertEvent_51 : decode cX1_insertEvent 51 = .ok (.aload_n 0, 1) := by decide +kernel
theorem dX1_insertEvent_52 : decode cX1_insertEvent 52 = .ok (.getfield 15, 3) := by decide +kernel
theorem dX1_insertEvent_55 : decode cX1_insertEvent 55 = .ok (.iload_n 3, 1) := by decide +kernel
theorem dX1_insertEvent_56 : decode cX1_insertEvent 56 = .ok (.aload_n 0, 1) := by decide +kernel
theorem dX1_insertEvent_57 : decode cX1_insertEvent 57 = .ok (.getfield 15, 3) := by decide +kernel
theorem dX1_insertEvent_60 : decode cX1_insertEvent 60 = .ok (.iload_n 3, 1) := by decide +kernel
theorem dX1_insertEvent_61 : decode cX1_insertEvent 61 = .ok (.iconst 1, 1) := by decide +kernel
theorem dX1_insertEvent_62 : decode cX1_insertEvent 62 = .ok (.isub, 1) := by decide +kernel
theorem dX1_insertEvent_63 : decode cX1_insertEvent 63 = .ok (.iaload, 1) := by decide +kernel
theorem dX1_insertEvent_64 : decode cX1_insertEvent 64 = .ok (.iastore, 1) := by decide +kernel
theorem dX1_insertEvent_65 : decode cX1_insertEvent 65 = .ok (.iinc 3 (-1), 3) := by decide +kernel
theorem dX1_insertEvent_68 : decode cX1_insertEvent 68 = .ok (.goto (-47), 3) := by decide +kernel
theorem dX1_insertEvent_71 : decode cX1_insertEvent 71 = .ok (.aload_n 0, 1) := by decide +kernel
theorem dX1_insertEvent_72 : decode cX1_insertEvent 72 = .ok (.getfield 9, 3) := by decide +kernel
theorem dX1_insertEvent_75 : decode cX1_insertEvent 75 = .ok (.iload_n 3, 1) := by decide +kernel
theorem dX1_insertEvent_76 : decode cX1_insertEvent 76 = .ok (.iload_n 1, 1) := by decide +kernel
theorem dX1_insertEvent_77 : decode cX1_insertEvent 77 = .ok (.iastore, 1) := by decide +kernel
theorem dX1_insertEvent_78 : decode cX1_insertEvent 78 = .ok (.aload_n 0, 1) := by decide +kernel
theorem dX1_insertEvent_79 : decode cX1_insertEvent 79 = .ok (.getfield 15, 3) := by decide +kernel
theorem dX1_insertEvent_82 : decode cX1_insertEvent 82 = .ok (.iload_n 3, 1) := by decide +kernel
theorem dX1_insertEvent_83 : decode cX1_insertEvent 83 = .ok (.iload_n 2, 1) := by decide +kernel
theorem dX1_insertEvent_84 : decode cX1_insertEvent 84 = .ok (.iastore, 1) := by decide +kernel
theorem dX1_insertEvent_85 : decode cX1_insertEvent 85 = .ok (.aload_n 0, 1) := by decide +kernel
theorem dX1_insertEvent_86 : decode cX1_insertEvent 86 = .ok (.dup, 1) := by decide +kernel
theorem dX1_insertEvent_87 : decode cX1_insertEvent 87 = .ok (.getfield 25, 3) := by decide +kernel
theorem dX1_insertEvent_90 : decode cX1_insertEvent 90 = .ok (.iconst 1, 1) := by decide +kernel
theorem dX1_insertEvent_91 : decode cX1_insertEvent 91 = .ok (.iadd, 1) := by decide +kernel
theorem dX1_insertEvent_92 : decode cX1_insertEvent 92 = .ok (.putfield 25, 3) := by decide +kernel
theorem dX1_insertEvent_95 : decode cX1_insertEvent 95 = .ok (.return_, 1) := by decide +kernel
theorem dX2_init_0 : decode cX2_init 0 = .ok (.aload_n 0, 1) := by decide +kernel
theorem dX2_init_1 : decode cX2_init 1 = .ok (.invokespecial 3, 3) := by decide +kernel
theorem dX2_init_4 : decode cX2_init 4 = .ok (.aload_n 0, 1) := by decide +kernel
theorem dX2_init_5 : decode cX2_init 5 = .ok (.iconst 4, 1) := by decide +kernel
theorem dX2_init_6 : decode cX2_init 6 = .ok (.bipush 30, 2) := by decide +kernel
theorem dX2_init_8 : decode cX2_init 8 = .ok (.multianewarray 11 2, 4) := by decide +kernel
theorem dX2_init_12 : decode cX2_init 12 = .ok (.putfield 13, 3) := by decide +kernel
theorem dX2_init_15 : decode cX2_init 15 = .ok (.return_, 1) := by decide +kernel
theorem dX2_append_0 : decode cX2_append 0 = .ok (.aload_n 0, 1) := by decide +kernel
theorem dX2_append_1 : decode cX2_append 1 = .ok (.getfield 16, 3) := by decide +kernel
theorem dX2_append_4 : decode cX2_append 4 = .ok (.invokestatic 20, 3) := by decide +kernel
theorem dX2_append_7 : decode cX2_append 7 = .ok (.istore 5, 2) := by decide +kernel
theorem dX2_append_9 : decode cX2_append 9 = .ok (.aload_n 0, 1) := by decide +kernel
theorem dX2_append_10 : decode cX2_append 10 = .ok (.getfield 13, 3) := by decide +kernel
theorem dX2_append_13 : decode cX2_append 13 = .ok (.iconst 0, 1) := by decide +kernel
theorem dX2_append_14 : decode cX2_append 14 = .ok (.aaload, 1) := by decide +kernel
theorem dX2_append_15 : decode cX2_append 15 = .ok (.iload 5, 2) := by decide +kernel
theorem dX2_append_17 : decode cX2_append 17 = .ok (.iload_n 1, 1) := by decide +kernel
theorem dX2_append_18 : decode cX2_append 18 = .ok (.iastore, 1) := by decide +kernel
theorem dX2_append_19 : decode cX2_append 19 = .ok (.aload_n 0, 1) := by decide +kernel
theorem dX2_append_20 : decode cX2_append 20 = .ok (.getfield 13, 3) := by decide +kernel
theorem dX2_append_23 : decode cX2_append 23 = .ok (.iconst 1, 1) := by decide +kernel
theorem dX2_append_24 : decode cX2_append 24 = .ok (.aaload, 1) := by decide +kernel
theorem dX2_append_25 : decode cX2_append 25 = .ok (.iload 5, 2) := by decide +kernel
theorem dX2_append_27 : decode cX2_append 27 = .ok (.iload_n 2, 1) := by decide +kernel
theorem dX2_append_28 : decode cX2_append 28 = .ok (.iastore, 1) := by decide +kernel
theorem dX2_append_29 : decode cX2_append 29 = .ok (.aload_n 0, 1) := by decide +kernel
theorem dX2_append_30 : decode cX2_append 30 = .ok (.getfield 13, 3) := by decide +kernel
theorem dX2_append_33 : decode cX2_append 33 = .ok (.iconst 2, 1) := by decide +kernel
theorem dX2_append_34 : decode cX2_append 34 = .ok (.aaload, 1) := by decide +kernel
theorem dX2_append_35 : decode cX2_append 35 = .ok (.iload 5, 2) := by decide +kernel
theorem dX2_append_37 : decode cX2_append 37 = .ok (.iload_n 3, 1) := by decide +kernel
theorem dX2_append_38 : decode cX2_append 38 = .ok (.iastore, 1) := by decide +kernel
theorem dX2_append_39 : decode cX2_append 39 = .ok (.aload_n 0, 1) := by decide +kernel
theorem dX2_append_40 : decode cX2_append 40 = .ok (.getfield 13, 3) := by decide +kernel
theorem dX2_append_43 : decode cX2_append 43 = .ok (.iconst 3, 1) := by decide +kernel
theorem dX2_append_44 : decode cX2_append 44 = .ok (.aaload, 1) := by decide +kernel
theorem dX2_append_45 : decode cX2_append 45 = .ok (.iload 5, 2) := by decide +kernel
theorem dX2_append_47 : decode cX2_append 47 = .ok (.iload 4, 2) := by decide +kernel
theorem dX2_append_49 : decode cX2_append 49 = .ok (.iastore, 1) := by decide +kernel
theorem dX2_append_50 : decode cX2_append 50 = .ok (.aload_n 0, 1) := by decide +kernel
theorem dX2_append_51 : decode cX2_append 51 = .ok (.dup, 1) := by decide +kernel
theorem dX2_append_52 : decode cX2_append 52 = .ok (.getfield 16, 3) := by decide +kernel
theorem dX2_append_55 : decode cX2_append 55 = .ok (.iconst 1, 1) := by decide +kernel
theorem dX2_append_56 : decode cX2_append 56 = .ok (.iadd, 1) := by decide +kernel
theorem dX2_append_57 : decode cX2_append 57 = .ok (.putfield 16, 3) := by decide +kernel
theorem dX2_append_60 : decode cX2_append 60 = .ok (.return_, 1) := by decide +kernel
theorem dX2_kept_0 : decode cX2_kept 0 = .ok (.aload_n 0, 1) := by decide +kernel
theorem dX2_kept_1 : decode cX2_kept 1 = .ok (.getfield 16, 3) := by decide +kernel
theorem dX2_kept_4 : decode cX2_kept 4 = .ok (.bipush 30, 2) := by decide +kernel
theorem dX2_kept_6 : decode cX2_kept 6 = .ok (.invokestatic 24, 3) := by decide +kernel
theorem dX2_kept_9 : decode cX2_kept 9 = .ok (.ireturn, 1) := by decide +kernel
theorem dX2_propertyOf_0 : decode cX2_propertyOf 0 = .ok (.iload_n 1, 1) := by decide +kernel
theorem dX2_propertyOf_1 : decode cX2_propertyOf 1 = .ok (.ifCond .lt 20, 3) := by decide +kernel
theorem dX2_propertyOf_4 : decode cX2_propertyOf 4 = .ok (.iload_n 1, 1) := by decide +kernel
theorem dX2_propertyOf_5 : decode cX2_propertyOf 5 = .ok (.aload_n 0, 1) := by decide +kernel
theorem dX2_propertyOf_6 : decode cX2_propertyOf 6 = .ok (.invokevirtual 30, 3) := by decide +kernel
theorem dX2_propertyOf_9 : decode cX2_propertyOf 9 = .ok (.if_icmp .ge 12, 3) := by decide +kernel
theorem dX2_propertyOf_12 : decode cX2_propertyOf 12 = .ok (.iload_n 2, 1) := by decide +kernel
theorem dX2_propertyOf_13 : decode cX2_propertyOf 13 = .ok (.ifCond .lt 8, 3) := by decide +kernel
theorem dX2_propertyOf_16 : decode cX2_propertyOf 16 = .ok (.iload_n 2, 1) := by decide +kernel
theorem dX2_propertyOf_17 : decode cX2_propertyOf 17 = .ok (.iconst 4, 1) := by decide +kernel
theorem dX2_propertyOf_18 : decode cX2_propertyOf 18 = .ok (.if_icmp .lt 5, 3) := by decide +kernel
theorem dX2_propertyOf_21 : decode cX2_propertyOf 21 = .ok (.iconst (-1), 1) := by decide +kernel
theorem dX2_propertyOf_22 : decode cX2_propertyOf 22 = .ok (.ireturn, 1) := by decide +kernel
theorem dX2_propertyOf_23 : decode cX2_propertyOf 23 = .ok (.aload_n 0, 1) := by decide +kernel
theorem dX2_propertyOf_24 : decode cX2_propertyOf 24 = .ok (.getfield 13, 3) := by decide +kernel
theorem dX2_propertyOf_27 : decode cX2_propertyOf 27 = .ok (.iload_n 2, 1) := by decide +kernel
theorem dX2_propertyOf_28 : decode cX2_propertyOf 28 = .ok (.aaload, 1) := by decide +kernel
theorem dX2_propertyOf_29 : decode cX2_propertyOf 29 = .ok (.aload_n 0, 1) := by decide +kernel
theorem dX2_propertyOf_30 : decode cX2_propertyOf 30 = .ok (.getfield 16, 3) := by decide +kernel
theorem dX2_propertyOf_33 : decode cX2_propertyOf 33 = .ok (.aload_n 0, 1) := by decide +kernel
theorem dX2_propertyOf_34 : decode cX2_propertyOf 34 = .ok (.invokevirtual 30, 3) := by decide +kernel
theorem dX2_propertyOf_37 : decode cX2_propertyOf 37 = .ok (.isub, 1) := by decide +kernel
theorem dX2_propertyOf_38 : decode cX2_propertyOf 38 = .ok (.iload_n 1, 1) := by decide +kernel
theorem dX2_propertyOf_39 : decode cX2_propertyOf 39 = .ok (.iadd, 1) := by decide +kernel
theorem dX2_propertyOf_40 : decode cX2_propertyOf 40 = .ok (.invokestatic 20, 3) := by decide +kernel
theorem dX2_propertyOf_43 : decode cX2_propertyOf 43 = .ok (.iaload, 1) := by decide +kernel
theorem dX2_propertyOf_44 : decode cX2_propertyOf 44 = .ok (.ireturn, 1) := by decide +kernel
theorem dX2_copyFrom_0 : decode cX2_copyFrom 0 = .ok (.aload_n 0, 1) := by decide +kernel
theorem dX2_copyFrom_1 : decode cX2_copyFrom 1 = .ok (.aload_n 1, 1) := by decide +kernel
theorem dX2_copyFrom_2 : decode cX2_copyFrom 2 = .ok (.getfield 16, 3) := by decide +kernel
theorem dX2_copyFrom_5 : decode cX2_copyFrom 5 = .ok (.putfield 16, 3) := by decide +kernel
theorem dX2_copyFrom_8 : decode cX2_copyFrom 8 = .ok (.iconst 0, 1) := by decide +kernel
theorem dX2_copyFrom_9 : decode cX2_copyFrom 9 = .ok (.istore_n 2, 1) := by decide +kernel
theorem dX2_copyFrom_10 : decode cX2_copyFrom 10 = .ok (.iload_n 2, 1) := by decide +kernel
theorem dX2_copyFrom_11 : decode cX2_copyFrom 11 = .ok (.iconst 4, 1) := by decide +kernel
theorem dX2_copyFrom_12 : decode cX2_copyFrom 12 = .ok (.if_icmp .ge 28, 3) := by decide +kernel
theorem dX2_copyFrom_15 : decode cX2_copyFrom 15 = .ok (.aload_n 1, 1) := by decide +kernel
theorem dX2_copyFrom_16 : decode cX2_copyFrom 16 = .ok (.getfield 13, 3) := by decide +kernel
theorem dX2_copyFrom_19 : decode cX2_copyFrom 19 = .ok (.iload_n 2, 1) := by decide +kernel
theorem dX2_copyFrom_20 : decode cX2_copyFrom 20 = .ok (.aaload, 1) := by decide +kernel
theorem dX2_copyFrom_21 : decode cX2_copyFrom 21 = .ok (.iconst 0, 1) := by decide +kernel
theorem dX2_copyFrom_22 : decode cX2_copyFrom 22 = .ok (.aload_n 0, 1) := by decide +kernel
theorem dX2_copyFrom_23 : decode cX2_copyFrom 23 = .ok (.getfield 13, 3) := by decide +kernel
theorem dX2_copyFrom_26 : decode cX2_copyFrom 26 = .ok (.iload_n 2, 1) := by decide +kernel
theorem dX2_copyFrom_27 : decode cX2_copyFrom 27 = .ok (.aaload, 1) := by decide +kernel
theorem dX2_copyFrom_28 : decode cX2_copyFrom 28 = .ok (.iconst 0, 1) := by decide +kernel
theorem dX2_copyFrom_29 : decode cX2_copyFrom 29 = .ok (.bipush 30, 2) := by decide +kernel
theorem dX2_copyFrom_31 : decode cX2_copyFrom 31 = .ok (.invokestatic 34, 3) := by decide +kernel
theorem dX2_copyFrom_34 : decode cX2_copyFrom 34 = .ok (.iinc 2 1, 3) := by decide +kernel
theorem dX2_copyFrom_37 : decode cX2_copyFrom 37 = .ok (.goto (-27), 3) := by decide +kernel
theorem dX2_copyFrom_40 : decode cX2_copyFrom 40 = .ok (.return_, 1) := by decide +kernel
theorem dX2_placeOf_0 : decode cX2_placeOf 0 = .ok (.iload_n 0, 1) := by decide +kernel
theorem dX2_placeOf_1 : decode cX2_placeOf 1 = .ok (.bipush 30, 2) := by decide +kernel
theorem dX2_placeOf_3 : decode cX2_placeOf 3 = .ok (.invokestatic 40, 3) := by decide +kernel
theorem dX2_placeOf_6 : decode cX2_placeOf 6 = .ok (.ireturn, 1) := by decide +kernel
theorem dX3_init_0 : decode cX3_init 0 = .ok (.aload_n 0, 1) := by decide +kernel
theorem dX3_init_1 : decode cX3_init 1 = .ok (.invokespecial 3, 3) := by decide +kernel
theorem dX3_init_4 : decode cX3_init 4 = .ok (.aload_n 0, 1) := by decide +kernel
theorem dX3_init_5 : decode cX3_init 5 = .ok (.bipush 8, 2) := by decide +kernel
theorem dX3_init_7 : decode cX3_init 7 = .ok (.newarray .int, 2) := by decide +kernel
theorem dX3_init_9 : decode cX3_init 9 = .ok (.putfield 9, 3) := by decide +kernel
theorem dX3_init_12 : decode cX3_init 12 = .ok (.aload_n 0, 1) := by decide +kernel
theorem dX3_init_13 : decode cX3_init 13 = .ok (.new 15, 3) := by decide +kernel
theorem dX3_init_16 : decode cX3_init 16 = .ok (.dup, 1) := by decide +kernel
theorem dX3_init_17 : decode cX3_init 17 = .ok (.invokespecial 17, 3) := by decide +kernel
theorem dX3_init_20 : decode cX3_init 20 = .ok (.putfield 18, 3) := by decide +kernel
theorem dX3_init_23 : decode cX3_init 23 = .ok (.aload_n 0, 1) := by decide +kernel
theorem dX3_init_24 : decode cX3_init 24 = .ok (.new 22, 3) := by decide +kernel
theorem dX3_init_27 : decode cX3_init 27 = .ok (.dup, 1) := by decide +kernel
theorem dX3_init_28 : decode cX3_init 28 = .ok (.invokespecial 24, 3) := by decide +kernel
theorem dX3_init_31 : decode cX3_init 31 = .ok (.putfield 25, 3) := by decide +kernel
theorem dX3_init_34 : decode cX3_init 34 = .ok (.aload_n 0, 1) := by decide +kernel
theorem dX3_init_35 : decode cX3_init 35 = .ok (.new 29, 3) := by decide +kernel
theorem dX3_init_38 : decode cX3_init 38 = .ok (.dup, 1) := by decide +kernel
theorem dX3_init_39 : decode cX3_init 39 = .ok (.invokespecial 31, 3) := by decide +kernel
theorem dX3_init_42 : decode cX3_init 42 = .ok (.putfield 32, 3) := by decide +kernel
theorem dX3_init_45 : decode cX3_init 45 = .ok (.aload_n 0, 1) := by decide +kernel
theorem dX3_init_46 : decode cX3_init 46 = .ok (.new 15, 3) := by decide +kernel
theorem dX3_init_49 : decode cX3_init 49 = .ok (.dup, 1) := by decide +kernel
theorem dX3_init_50 : decode cX3_init 50 = .ok (.invokespecial 17, 3) := by decide +kernel
theorem dX3_init_53 : decode cX3_init 53 = .ok (.putfield 36, 3) := by decide +kernel
theorem dX3_init_56 : decode cX3_init 56 = .ok (.aload_n 0, 1) := by decide +kernel
theorem dX3_init_57 : decode cX3_init 57 = .ok (.aload_n 1, 1) := by decide +kernel
theorem dX3_init_58 : decode cX3_init 58 = .ok (.putfield 39, 3) := by decide +kernel
theorem dX3_init_61 : decode cX3_init 61 = .ok (.aload_n 0, 1) := by decide +kernel
theorem dX3_init_62 : decode cX3_init 62 = .ok (.new 43, 3) := by decide +kernel
theorem dX3_init_65 : decode cX3_init 65 = .ok (.dup, 1) := by decide +kernel
theorem dX3_init_66 : decode cX3_init 66 = .ok (.aload_n 1, 1) := by decide +kernel
theorem dX3_init_67 : decode cX3_init 67 = .ok (.getfield 45, 3) := by decide +kernel
theorem dX3_init_70 : decode cX3_init 70 = .ok (.invokespecial 51, 3) := by decide +kernel
theorem dX3_init_73 : decode cX3_init 73 = .ok (.putfield 54, 3) := by decide +kernel
theorem dX3_init_76 : decode cX3_init 76 = .ok (.aload_n 0, 1) := by decide +kernel
theorem dX3_init_77 : decode cX3_init 77 = .ok (.new 43, 3) := by decide +kernel
theorem dX3_init_80 : decode cX3_init 80 = .ok (.dup, 1) := by decide +kernel
theorem dX3_init_81 : decode cX3_init 81 = .ok (.aload_n 1, 1) := by decide +kernel
theorem dX3_init_82 : decode cX3_init 82 = .ok (.getfield 45, 3) := by decide +kernel
theorem dX3_init_85 : decode cX3_init 85 = .ok (.invokespecial 51, 3) := by decide +kernel
theorem dX3_init_88 : decode cX3_init 88 = .ok (.putfield 58, 3) := by decide +kernel
theorem dX3_init_91 : decode cX3_init 91 = .ok (.return_, 1) := by decide +kernel
theorem dX3_copyFrom_0 : decode cX3_copyFrom 0 = .ok (.aload_n 1, 1) := by decide +kernel
theorem dX3_copyFrom_1 : decode cX3_copyFrom 1 = .ok (.getfield 9, 3) := by decide +kernel
theorem dX3_copyFrom_4 : decode cX3_copyFrom 4 = .ok (.iconst 0, 1) := by decide +kernel
theorem dX3_copyFrom_5 : decode cX3_copyFrom 5 = .ok (.aload_n 0, 1) := by decide +kernel
theorem dX3_copyFrom_6 : decode cX3_copyFrom 6 = .ok (.getfield 9, 3) := by decide +kernel
theorem dX3_copyFrom_9 : decode cX3_copyFrom 9 = .ok (.iconst 0, 1) := by decide +kernel
theorem dX3_copyFrom_10 : decode cX3_copyFrom 10 = .ok (.bipush 8, 2) := by decide +kernel
theorem dX3_copyFrom_12 : decode cX3_copyFrom 12 = .ok (.invokestatic 61, 3) := by decide +kernel
theorem dX3_copyFrom_15 : decode cX3_copyFrom 15 = .ok (.aload_n 0, 1) := by decide +kernel
theorem dX3_copyFrom_16 : decode cX3_copyFrom 16 = .ok (.getfield 54, 3) := by decide +kernel
theorem dX3_copyFrom_19 : decode cX3_copyFrom 19 = .ok (.aload_n 1, 1) := by decide +kernel
theorem dX3_copyFrom_20 : decode cX3_copyFrom 20 = .ok (.getfield 54, 3) := by decide +kernel
theorem dX3_copyFrom_23 : decode cX3_copyFrom 23 = .ok (.invokevirtual 67, 3) := by decide +kernel
theorem dX3_copyFrom_26 : decode cX3_copyFrom 26 = .ok (.aload_n 0, 1) := by decide +kernel
theorem dX3_copyFrom_27 : decode cX3_copyFrom 27 = .ok (.getfield 58, 3) := by decide +kernel
theorem dX3_copyFrom_30 : decode cX3_copyFrom 30 = .ok (.aload_n 1, 1) := by decide +kernel
theorem dX3_copyFrom_31 : decode cX3_copyFrom 31 = .ok (.getfield 58, 3) := by decide +kernel
theorem dX3_copyFrom_34 : decode cX3_copyFrom 34 = .ok (.invokevirtual 67, 3) := by decide +kernel
theorem dX3_copyFrom_37 : decode cX3_copyFrom 37 = .ok (.aload_n 0, 1) := by decide +kernel
theorem dX3_copyFrom_38 : decode cX3_copyFrom 38 = .ok (.aload_n 1, 1) := by decide +kernel
theorem dX3_copyFrom_39 : decode cX3_copyFrom 39 = .ok (.getfield 71, 3) := by decide +kernel
theorem dX3_copyFrom_42 : decode cX3_copyFrom 42 = .ok (.putfield 71, 3) := by decide +kernel
theorem dX3_copyFrom_45 : decode cX3_copyFrom 45 = .ok (.aload_n 0, 1) := by decide +kernel
theorem dX3_copyFrom_46 : decode cX3_copyFrom 46 = .ok (.aload_n 1, 1) := by decide +kernel
theorem dX3_copyFrom_47 : decode cX3_copyFrom 47 = .ok (.getfield 75, 3) := by decide +kernel
theorem dX3_copyFrom_50 : decode cX3_copyFrom 50 = .ok (.putfield 75, 3) := by decide +kernel
theorem dX3_copyFrom_53 : decode cX3_copyFrom 53 = .ok (.aload_n 0, 1) := by decide +kernel
theorem dX3_copyFrom_54 : decode cX3_copyFrom 54 = .ok (.aload_n 1, 1) := by decide +kernel
theorem dX3_copyFrom_55 : decode cX3_copyFrom 55 = .ok (.getfield 79, 3) := by decide +kernel
theorem dX3_copyFrom_58 : decode cX3_copyFrom 58 = .ok (.putfield 79, 3) := by decide +kernel
theorem dX3_copyFrom_61 : decode cX3_copyFrom 61 = .ok (.aload_n 0, 1) := by decide +kernel
theorem dX3_copyFrom_62 : decode cX3_copyFrom 62 = .ok (.getfield 18, 3) := by decide +kernel
theorem dX3_copyFrom_65 : decode cX3_copyFrom 65 = .ok (.aload_n 1, 1) := by decide +kernel
theorem dX3_copyFrom_66 : decode cX3_copyFrom 66 = .ok (.getfield 18, 3) := by decide +kernel
theorem dX3_copyFrom_69 : decode cX3_copyFrom 69 = .ok (.invokevirtual 83, 3) := by decide +kernel
theorem dX3_copyFrom_72 : decode cX3_copyFrom 72 = .ok (.aload_n 0, 1) := by decide +kernel
theorem dX3_copyFrom_73 : decode cX3_copyFrom 73 = .ok (.aload_n 1, 1) := by decide +kernel
theorem dX3_copyFrom_74 : decode cX3_copyFrom 74 = .ok (.getfield 86, 3) := by decide +kernel
theorem dX3_copyFrom_77 : decode cX3_copyFrom 77 = .ok (.putfield 86, 3) := by decide +kernel
theorem dX3_copyFrom_80 : decode cX3_copyFrom 80 = .ok (.aload_n 0, 1) := by decide +kernel
theorem dX3_copyFrom_81 : decode cX3_copyFrom 81 = .ok (.aload_n 1, 1) := by decide +kernel
theorem dX3_copyFrom_82 : decode cX3_copyFrom 82 = .ok (.getfield 89, 3) := by decide +kernel
theorem dX3_copyFrom_85 : decode cX3_copyFrom 85 = .ok (.putfield 89, 3) := by decide +kernel
theorem dX3_copyFrom_88 : decode cX3_copyFrom 88 = .ok (.aload_n 0, 1) := by decide +kernel
theorem dX3_copyFrom_89 : decode cX3_copyFrom 89 = .ok (.getfield 25, 3) := by decide +kernel
theorem dX3_copyFrom_92 : decode cX3_copyFrom 92 = .ok (.aload_n 1, 1) := by decide +kernel
theorem dX3_copyFrom_93 : decode cX3_copyFrom 93 = .ok (.getfield 25, 3) := by decide +kernel
theorem dX3_copyFrom_96 : decode cX3_copyFrom 96 = .ok (.invokevirtual 92, 3) := by decide +kernel
theorem dX3_copyFrom_99 : decode cX3_copyFrom 99 = .ok (.return_, 1) := by decide +kernel
theorem dX3_beginIn_0 : decode cX3_beginIn 0 = .ok (.aload_n 0, 1) := by decide +kernel
theorem dX3_beginIn_1 : decode cX3_beginIn 1 = .ok (.getfield 58, 3) := by decide +kernel
theorem dX3_beginIn_4 : decode cX3_beginIn 4 = .ok (.aload_n 1, 1) := by decide +kernel
theorem dX3_beginIn_5 : decode cX3_beginIn 5 = .ok (.iconst 0, 1) := by decide +kernel
theorem dX3_beginIn_6 : decode cX3_beginIn 6 = .ok (.invokevirtual 95, 3) := by decide +kernel
theorem dX3_beginIn_9 : decode cX3_beginIn 9 = .ok (.aload_n 0, 1) := by decide +kernel
theorem dX3_beginIn_10 : decode cX3_beginIn 10 = .ok (.invokevirtual 99, 3) := by decide +kernel
theorem dX3_beginIn_13 : decode cX3_beginIn 13 = .ok (.return_, 1) := by decide +kernel
theorem dX3_forget_0 : decode cX3_forget 0 = .ok (.iconst 0, 1) := by decide +kernel
theorem dX3_forget_1 : decode cX3_forget 1 = .ok (.istore_n 1, 1) := by decide +kernel
theorem dX3_forget_2 : decode cX3_forget 2 = .ok (.iload_n 1, 1) := by decide +kernel
theorem dX3_forget_3 : decode cX3_forget 3 = .ok (.aload_n 0, 1) := by decide +kernel
theorem dX3_forget_4 : decode cX3_forget 4 = .ok (.getfield 9, 3) := by decide +kernel
theorem dX3_forget_7 : decode cX3_forget 7 = .ok (.arraylength, 1) := by decide +kernel
theorem dX3_forget_8 : decode cX3_forget 8 = .ok (.if_icmp .ge 16, 3) := by decide +kernel
theorem dX3_forget_11 : decode cX3_forget 11 = .ok (.aload_n 0, 1) := by decide +kernel
theorem dX3_forget_12 : decode cX3_forget 12 = .ok (.getfield 9, 3) := by decide +kernel
theorem dX3_forget_15 : decode cX3_forget 15 = .ok (.iload_n 1, 1) := by decide +kernel
theorem dX3_forget_16 : decode cX3_forget 16 = .ok (.iconst 0, 1) := by decide +kernel
theorem dX3_forget_17 : decode cX3_forget 17 = .ok (.iastore, 1) := by decide +kernel
theorem dX3_forget_18 : decode cX3_forget 18 = .ok (.iinc 1 1, 3) := by decide +kernel
theorem dX3_forget_21 : decode cX3_forget 21 = .ok (.goto (-19), 3) := by decide +kernel
theorem dX3_forget_24 : decode cX3_forget 24 = .ok (.aload_n 0, 1) := by decide +kernel
theorem dX3_forget_25 : decode cX3_forget 25 = .ok (.iconst 0, 1) := by decide +kernel
theorem dX3_forget_26 : decode cX3_forget 26 = .ok (.putfield 89, 3) := by decide +kernel
theorem dX3_forget_29 : decode cX3_forget 29 = .ok (.aload_n 0, 1) := by decide +kernel
theorem dX3_forget_30 : decode cX3_forget 30 = .ok (.getfield 25, 3) := by decide +kernel
theorem dX3_forget_33 : decode cX3_forget 33 = .ok (.iconst 0, 1) := by decide +kernel
theorem dX3_forget_34 : decode cX3_forget 34 = .ok (.putfield 102, 3) := by decide +kernel
theorem dX3_forget_37 : decode cX3_forget 37 = .ok (.return_, 1) := by decide +kernel
theorem dX3_valueOf_0 : decode cX3_valueOf 0 = .ok (.iload_n 1, 1) := by decide +kernel
theorem dX3_valueOf_1 : decode cX3_valueOf 1 = .ok (.ifCond .lt 21, 3) := by decide +kernel
theorem dX3_valueOf_4 : decode cX3_valueOf 4 = .ok (.iload_n 1, 1) := by decide +kernel
theorem dX3_valueOf_5 : decode cX3_valueOf 5 = .ok (.aload_n 0, 1) := by decide +kernel
theorem dX3_valueOf_6 : decode cX3_valueOf 6 = .ok (.getfield 9, 3) := by decide +kernel
theorem dX3_valueOf_9 : decode cX3_valueOf 9 = .ok (.arraylength, 1) := by decide +kernel
theorem dX3_valueOf_10 : decode cX3_valueOf 10 = .ok (.if_icmp .ge 12, 3) := by decide +kernel
theorem dX3_valueOf_13 : decode cX3_valueOf 13 = .ok (.aload_n 0, 1) := by decide +kernel
theorem dX3_valueOf_14 : decode cX3_valueOf 14 = .ok (.getfield 9, 3) := by decide +kernel
theorem dX3_valueOf_17 : decode cX3_valueOf 17 = .ok (.iload_n 1, 1) := by decide +kernel
theorem dX3_valueOf_18 : decode cX3_valueOf 18 = .ok (.iaload, 1) := by decide +kernel
theorem dX3_valueOf_19 : decode cX3_valueOf 19 = .ok (.goto 4, 3) := by decide +kernel
theorem dX3_valueOf_22 : decode cX3_valueOf 22 = .ok (.iconst 0, 1) := by decide +kernel
theorem dX3_valueOf_23 : decode cX3_valueOf 23 = .ok (.ireturn, 1) := by decide +kernel
theorem dX3_setValue_0 : decode cX3_setValue 0 = .ok (.iload_n 1, 1) := by decide +kernel
theorem dX3_setValue_1 : decode cX3_setValue 1 = .ok (.ifCond .lt 19, 3) := by decide +kernel
theorem dX3_setValue_4 : decode cX3_setValue 4 = .ok (.iload_n 1, 1) := by decide +kernel
theorem dX3_setValue_5 : decode cX3_setValue 5 = .ok (.aload_n 0, 1) := by decide +kernel
theorem dX3_setValue_6 : decode cX3_setValue 6 = .ok (.getfield 9, 3) := by decide +kernel
theorem dX3_setValue_9 : decode cX3_setValue 9 = .ok (.arraylength, 1) := by decide +kernel
theorem dX3_setValue_10 : decode cX3_setValue 10 = .ok (.if_icmp .ge 10, 3) := by decide +kernel
theorem dX3_setValue_13 : decode cX3_setValue 13 = .ok (.aload_n 0, 1) := by decide +kernel
theorem dX3_setValue_14 : decode cX3_setValue 14 = .ok (.getfield 9, 3) := by decide +kernel
theorem dX3_setValue_17 : decode cX3_setValue 17 = .ok (.iload_n 1, 1) := by decide +kernel
theorem dX3_setValue_18 : decode cX3_setValue 18 = .ok (.iload_n 2, 1) := by decide +kernel
theorem dX3_setValue_19 : decode cX3_setValue 19 = .ok (.iastore, 1) := by decide +kernel
theorem dX3_setValue_20 : decode cX3_setValue 20 = .ok (.return_, 1) := by decide +kernel
theorem dX3_lengthOf_0 : decode cX3_lengthOf 0 = .ok (.aload_n 0, 1) := by decide +kernel
theorem dX3_lengthOf_1 : decode cX3_lengthOf 1 = .ok (.getfield 32, 3) := by decide +kernel
theorem dX3_lengthOf_4 : decode cX3_lengthOf 4 = .ok (.aload_n 1, 1) := by decide +kernel
theorem dX3_lengthOf_5 : decode cX3_lengthOf 5 = .ok (.getfield 105, 3) := by decide +kernel
theorem dX3_lengthOf_8 : decode cX3_lengthOf 8 = .ok (.ldc 111, 2) := by decide +kernel
theorem dX3_lengthOf_10 : decode cX3_lengthOf 10 = .ok (.aload_n 0, 1) := by decide +kernel
theorem dX3_lengthOf_11 : decode cX3_lengthOf 11 = .ok (.getfield 9, 3) := by decide +kernel
theorem dX3_lengthOf_14 : decode cX3_lengthOf 14 = .ok (.invokevirtual 112, 3) := by decide +kernel
theorem dX3_lengthOf_17 : decode cX3_lengthOf 17 = .ok (.lconst 0, 1) := by decide +kernel
theorem dX3_lengthOf_18 : decode cX3_lengthOf 18 = .ok (.lstore_n 2, 1) := by decide +kernel
theorem dX3_lengthOf_19 : decode cX3_lengthOf 19 = .ok (.iconst 0, 1) := by decide +kernel
theorem dX3_lengthOf_20 : decode cX3_lengthOf 20 = .ok (.istore 4, 2) := by decide +kernel
theorem dX3_lengthOf_22 : decode cX3_lengthOf 22 = .ok (.iload 4, 2) := by decide +kernel
theorem dX3_lengthOf_24 : decode cX3_lengthOf 24 = .ok (.aload_n 0, 1) := by decide +kernel
theorem dX3_lengthOf_25 : decode cX3_lengthOf 25 = .ok (.getfield 39, 3) := by decide +kernel
theorem dX3_lengthOf_28 : decode cX3_lengthOf 28 = .ok (.getfield 116, 3) := by decide +kernel
theorem dX3_lengthOf_31 : decode cX3_lengthOf 31 = .ok (.invokevirtual 120, 3) := by decide +kernel
theorem dX3_lengthOf_34 : decode cX3_lengthOf 34 = .ok (.if_icmp .ge 42, 3) := by decide +kernel
theorem dX3_lengthOf_37 : decode cX3_lengthOf 37 = .ok (.lload_n 2, 1) := by decide +kernel
theorem dX3_lengthOf_38 : decode cX3_lengthOf 38 = .ok (.aload_n 0, 1) := by decide +kernel
theorem dX3_lengthOf_39 : decode cX3_lengthOf 39 = .ok (.getfield 32, 3) := by decide +kernel
theorem dX3_lengthOf_42 : decode cX3_lengthOf 42 = .ok (.iload 4, 2) := by decide +kernel
theorem dX3_lengthOf_44 : decode cX3_lengthOf 44 = .ok (.invokevirtual 126, 3) := by decide +kernel
theorem dX3_lengthOf_47 : decode cX3_lengthOf 47 = .ok (.i2l, 1) := by decide +kernel
theorem dX3_lengthOf_48 : decode cX3_lengthOf 48 = .ok (.aload_n 0, 1) := by decide +kernel
theorem dX3_lengthOf_49 : decode cX3_lengthOf 49 = .ok (.getfield 39, 3) := by decide +kernel
theorem dX3_lengthOf_52 : decode cX3_lengthOf 52 = .ok (.getfield 116, 3) := by decide +kernel
theorem dX3_lengthOf_55 : decode cX3_lengthOf 55 = .ok (.iload 4, 2) := by decide +kernel
theorem dX3_lengthOf_57 : decode cX3_lengthOf 57 = .ok (.invokevirtual 130, 3) := by decide +kernel
theorem dX3_lengthOf_60 : decode cX3_lengthOf 60 = .ok (.checkcast 134, 3) := by decide +kernel
theorem dX3_lengthOf_63 : decode cX3_lengthOf 63 = .ok (.getfield 136, 3) := by decide +kernel
theorem dX3_lengthOf_66 : decode cX3_lengthOf 66 = .ok (.i2l, 1) := by decide +kernel
theorem dX3_lengthOf_67 : decode cX3_lengthOf 67 = .ok (.lmul, 1) := by decide +kernel
theorem dX3_lengthOf_68 : decode cX3_lengthOf 68 = .ok (.ladd, 1) := by decide +kernel
theorem dX3_lengthOf_69 : decode cX3_lengthOf 69 = .ok (.lstore_n 2, 1) := by decide +kernel
theorem dX3_lengthOf_70 : decode cX3_lengthOf 70 = .ok (.iinc 4 1, 3) := by decide +kernel
theorem dX3_lengthOf_73 : decode cX3_lengthOf 73 = .ok (.goto (-51), 3) := by decide +kernel
theorem dX3_lengthOf_76 : decode cX3_lengthOf 76 = .ok (.lload_n 2, 1) := by decide +kernel
theorem dX3_lengthOf_77 : decode cX3_lengthOf 77 = .ok (.ldc2_w 139, 3) := by decide +kernel
theorem dX3_lengthOf_80 : decode cX3_lengthOf 80 = .ok (.ldiv, 1) := by decide +kernel
theorem dX3_lengthOf_81 : decode cX3_lengthOf 81 = .ok (.lconst 1, 1) := by decide +kernel
theorem dX3_lengthOf_82 : decode cX3_lengthOf 82 = .ok (.invokestatic 141, 3) := by decide +kernel
theorem dX3_lengthOf_85 : decode cX3_lengthOf 85 = .ok (.l2i, 1) := by decide +kernel
theorem dX3_lengthOf_86 : decode cX3_lengthOf 86 = .ok (.ireturn, 1) := by decide +kernel
theorem dX3_runTick_0 : decode cX3_runTick 0 = .ok (.iconst 0, 1) := by decide +kernel
theorem dX3_runTick_1 : decode cX3_runTick 1 = .ok (.istore_n 1, 1) := by decide +kernel
theorem dX3_runTick_2 : decode cX3_runTick 2 = .ok (.iload_n 1, 1) := by decide +kernel
theorem dX3_runTick_3 : decode cX3_runTick 3 = .ok (.iconst 4, 1) := by decide +kernel
theorem dX3_runTick_4 : decode cX3_runTick 4 = .ok (.if_icmp .ge 26, 3) := by decide +kernel
theorem dX3_runTick_7 : decode cX3_runTick 7 = .ok (.aload_n 0, 1) := by decide +kernel
theorem dX3_runTick_8 : decode cX3_runTick 8 = .ok (.invokevirtual 147, 3) := by decide +kernel
theorem dX3_runTick_11 : decode cX3_runTick 11 = .ok (.astore_n 2, 1) := by decide +kernel
theorem dX3_runTick_12 : decode cX3_runTick 12 = .ok (.aload_n 2, 1) := by decide +kernel
theorem dX3_runTick_13 : decode cX3_runTick 13 = .ok (.ifnonnull 6, 3) := by decide +kernel
theorem dX3_runTick_16 : decode cX3_runTick 16 = .ok (.goto 14, 3) := by decide +kernel
theorem dX3_runTick_19 : decode cX3_runTick 19 = .ok (.aload_n 0, 1) := by decide +kernel
theorem dX3_runTick_20 : decode cX3_runTick 20 = .ok (.aload_n 2, 1) := by decide +kernel
theorem dX3_runTick_21 : decode cX3_runTick 21 = .ok (.invokevirtual 151, 3) := by decide +kernel
theorem dX3_runTick_24 : decode cX3_runTick 24 = .ok (.iinc 1 1, 3) := by decide +kernel
theorem dX3_runTick_27 : decode cX3_runTick 27 = .ok (.goto (-25), 3) := by decide +kernel
theorem dX3_runTick_30 : decode cX3_runTick 30 = .ok (.aload_n 0, 1) := by decide +kernel
theorem dX3_runTick_31 : decode cX3_runTick 31 = .ok (.invokevirtual 155, 3) := by decide +kernel
theorem dX3_runTick_34 : decode cX3_runTick 34 = .ok (.aload_n 0, 1) := by decide +kernel
theorem dX3_runTick_35 : decode cX3_runTick 35 = .ok (.getfield 71, 3) := by decide +kernel
theorem dX3_runTick_38 : decode cX3_runTick 38 = .ok (.ifnull 31, 3) := by decide +kernel
theorem dX3_runTick_41 : decode cX3_runTick 41 = .ok (.aload_n 0, 1) := by decide +kernel
theorem dX3_runTick_42 : decode cX3_runTick 42 = .ok (.dup, 1) := by decide +kernel
theorem dX3_runTick_43 : decode cX3_runTick 43 = .ok (.getfield 75, 3) := by decide +kernel
theorem dX3_runTick_46 : decode cX3_runTick 46 = .ok (.iconst 1, 1) := by decide +kernel
theorem dX3_runTick_47 : decode cX3_runTick 47 = .ok (.iadd, 1) := by decide +kernel
theorem dX3_runTick_48 : decode cX3_runTick 48 = .ok (.putfield 75, 3) := by decide +kernel
theorem dX3_runTick_51 : decode cX3_runTick 51 = .ok (.aload_n 0, 1) := by decide +kernel
theorem dX3_runTick_52 : decode cX3_runTick 52 = .ok (.getfield 75, 3) := by decide +kernel
theorem dX3_runTick_55 : decode cX3_runTick 55 = .ok (.aload_n 0, 1) := by decide +kernel
theorem dX3_runTick_56 : decode cX3_runTick 56 = .ok (.getfield 71, 3) := by decide +kernel
theorem dX3_runTick_59 : decode cX3_runTick 59 = .ok (.getfield 158, 3) := by decide +kernel
theorem dX3_runTick_62 : decode cX3_runTick 62 = .ok (.if_icmp .lt 7, 3) := by decide +kernel
theorem dX3_runTick_65 : decode cX3_runTick 65 = .ok (.aload_n 0, 1) := by decide +kernel
theorem dX3_runTick_66 : decode cX3_runTick 66 = .ok (.invokevirtual 99, 3) := by decide +kernel
theorem dX3_runTick_69 : decode cX3_runTick 69 = .ok (.aload_n 0, 1) := by decide +kernel
theorem dX3_runTick_70 : decode cX3_runTick 70 = .ok (.dup, 1) := by decide +kernel
theorem dX3_runTick_71 : decode cX3_runTick 71 = .ok (.getfield 89, 3) := by decide +kernel
theorem dX3_runTick_74 : decode cX3_runTick 74 = .ok (.iconst 1, 1) := by decide +kernel
theorem dX3_runTick_75 : decode cX3_runTick 75 = .ok (.iadd, 1) := by decide +kernel
theorem dX3_runTick_76 : decode cX3_runTick 76 = .ok (.putfield 89, 3) := by decide +kernel
theorem dX3_runTick_79 : decode cX3_runTick 79 = .ok (.aload_n 0, 1) := by decide +kernel
theorem dX3_runTick_80 : decode cX3_runTick 80 = .ok (.invokevirtual 163, 3) := by decide +kernel
theorem dX3_runTick_83 : decode cX3_runTick 83 = .ok (.return_, 1) := by decide +kernel
theorem dX3_firstPossible_0 : decode cX3_firstPossible 0 = .ok (.aload_n 0, 1) := by decide +kernel
theorem dX3_firstPossible_1 : decode cX3_firstPossible 1 = .ok (.getfield 71, 3) := by decide +kernel
theorem dX3_firstPossible_4 : decode cX3_firstPossible 4 = .ok (.ifnull 29, 3) := by decide +kernel
theorem dX3_firstPossible_7 : decode cX3_firstPossible 7 = .ok (.aload_n 0, 1) := by decide +kernel
theorem dX3_firstPossible_8 : decode cX3_firstPossible 8 = .ok (.getfield 71, 3) := by decide +kernel
theorem dX3_firstPossible_11 : decode cX3_firstPossible 11 = .ok (.getfield 166, 3) := by decide +kernel
theorem dX3_firstPossible_14 : decode cX3_firstPossible 14 = .ok (.iconst 2, 1) := by decide +kernel
theorem dX3_firstPossible_15 : decode cX3_firstPossible 15 = .ok (.if_icmp .eq 14, 3) := by decide +kernel
theorem dX3_firstPossible_18 : decode cX3_firstPossible 18 = .ok (.aload_n 0, 1) := by decide +kernel
theorem dX3_firstPossible_19 : decode cX3_firstPossible 19 = .ok (.getfield 71, 3) := by decide +kernel
theorem dX3_firstPossible_22 : decode cX3_firstPossible 22 = .ok (.getfield 166, 3) := by decide +kernel
theorem dX3_firstPossible_25 : decode cX3_firstPossible 25 = .ok (.iconst 4, 1) := by decide +kernel
theorem dX3_firstPossible_26 : decode cX3_firstPossible 26 = .ok (.if_icmp .ne 7, 3) := by decide +kernel
theorem dX3_firstPossible_29 : decode cX3_firstPossible 29 = .ok (.iconst 1, 1) := by decide +kernel
theorem dX3_firstPossible_30 : decode cX3_firstPossible 30 = .ok (.goto 4, 3) := by decide +kernel
theorem dX3_firstPossible_33 : decode cX3_firstPossible 33 = .ok (.iconst 0, 1) := by decide +kernel
theorem dX3_firstPossible_34 : decode cX3_firstPossible 34 = .ok (.istore_n 1, 1) := by decide +kernel
theorem dX3_firstPossible_35 : decode cX3_firstPossible 35 = .ok (.aload_n 0, 1) := by decide +kernel
theorem dX3_firstPossible_36 : decode cX3_firstPossible 36 = .ok (.iload_n 1, 1) := by decide +kernel
theorem dX3_firstPossible_37 : decode cX3_firstPossible 37 = .ok (.ifCond .eq 7, 3) := by decide +kernel
theorem dX3_firstPossible_40 : decode cX3_firstPossible 40 = .ok (.iconst 2, 1) := by decide +kernel
theorem dX3_firstPossible_41 : decode cX3_firstPossible 41 = .ok (.goto 4, 3) := by decide +kernel
theorem dX3_firstPossible_44 : decode cX3_firstPossible 44 = .ok (.iconst 1, 1) := by decide +kernel
theorem dX3_firstPossible_45 : decode cX3_firstPossible 45 = .ok (.invokevirtual 169, 3) := by decide +kernel
theorem dX3_firstPossible_48 : decode cX3_firstPossible 48 = .ok (.astore_n 2, 1) := by decide +kernel
theorem dX3_firstPossible_49 : decode cX3_firstPossible 49 = .ok (.aload_n 2, 1) := by decide +kernel
theorem dX3_firstPossible_50 : decode cX3_firstPossible 50 = .ok (.ifnonnull 24, 3) := by decide +kernel
theorem dX3_firstPossible_53 : decode cX3_firstPossible 53 = .ok (.aload_n 0, 1) := by decide +kernel
theorem dX3_firstPossible_54 : decode cX3_firstPossible 54 = .ok (.getfield 71, 3) := by decide +kernel
theorem dX3_firstPossible_57 : decode cX3_firstPossible 57 = .ok (.ifnull 17, 3) := by decide +kernel
theorem dX3_firstPossible_60 : decode cX3_firstPossible 60 = .ok (.aload_n 0, 1) := by decide +kernel
theorem dX3_firstPossible_61 : decode cX3_firstPossible 61 = .ok (.iload_n 1, 1) := by decide +kernel
theorem dX3_firstPossible_62 : decode cX3_firstPossible 62 = .ok (.ifCond .eq 7, 3) := by decide +kernel
theorem dX3_firstPossible_65 : decode cX3_firstPossible 65 = .ok (.iconst 1, 1) := by decide +kernel
theorem dX3_firstPossible_66 : decode cX3_firstPossible 66 = .ok (.goto 4, 3) := by decide +kernel
theorem dX3_firstPossible_69 : decode cX3_firstPossible 69 = .ok (.iconst 2, 1) := by decide +kernel
theorem dX3_firstPossible_70 : decode cX3_firstPossible 70 = .ok (.invokevirtual 169, 3) := by decide +kernel
theorem dX3_firstPossible_73 : decode cX3_firstPossible 73 = .ok (.astore_n 2, 1) := by decide +kernel
theorem dX3_firstPossible_74 : decode cX3_firstPossible 74 = .ok (.aload_n 2, 1) := by decide +kernel
theorem dX3_firstPossible_75 : decode cX3_firstPossible 75 = .ok (.areturn, 1) := by decide +kernel
theorem dX3_firstPossibleOf_0 : decode cX3_firstPossibleOf 0 = .ok (.aconst_null, 1) := by decide +kernel
theorem dX3_firstPossibleOf_1 : decode cX3_firstPossibleOf 1 = .ok (.astore_n 2, 1) := by decide +kernel
theorem dX3_firstPossibleOf_2 : decode cX3_firstPossibleOf 2 = .ok (.iconst 0, 1) := by decide +kernel
theorem dX3_firstPossibleOf_3 : decode cX3_firstPossibleOf 3 = .ok (.istore_n 3, 1) := by decide +kernel
theorem dX3_firstPossibleOf_4 : decode cX3_firstPossibleOf 4 = .ok (.iload_n 3, 1) := by decide +kernel
theorem dX3_firstPossibleOf_5 : decode cX3_firstPossibleOf 5 = .ok (.aload_n 0, 1) := by decide +kernel
theorem dX3_firstPossibleOf_6 : decode cX3_firstPossibleOf 6 = .ok (.getfield 39, 3) := by decide +kernel
theorem dX3_firstPossibleOf_9 : decode cX3_firstPossibleOf 9 = .ok (.getfield 173, 3) := by decide +kernel
theorem dX3_firstPossibleOf_12 : decode cX3_firstPossibleOf 12 = .ok (.invokevirtual 120, 3) := by decide +kernel
theorem dX3_firstPossibleOf_15 : decode cX3_firstPossibleOf 15 = .ok (.if_icmp .ge 79, 3) := by decide +kernel
theorem dX3_firstPossibleOf_18 : decode cX3_firstPossibleOf 18 = .ok (.aload_n 0, 1) := by decide +kernel
theorem dX3_firstPossibleOf_19 : decode cX3_firstPossibleOf 19 = .ok (.getfield 39, 3) := by decide +kernel
theorem dX3_firstPossibleOf_22 : decode cX3_firstPossibleOf 22 = .ok (.getfield 173, 3) := by decide +kernel
theorem dX3_firstPossibleOf_25 : decode cX3_firstPossibleOf 25 = .ok (.iload_n 3, 1) := by decide +kernel
theorem dX3_firstPossibleOf_26 : decode cX3_firstPossibleOf 26 = .ok (.invokevirtual 130, 3) := by decide +kernel
theorem dX3_firstPossibleOf_29 : decode cX3_firstPossibleOf 29 = .ok (.checkcast 159, 3) := by decide +kernel
theorem dX3_firstPossibleOf_32 : decode cX3_firstPossibleOf 32 = .ok (.astore 4, 2) := by decide +kernel
theorem dX3_firstPossibleOf_34 : decode cX3_firstPossibleOf 34 = .ok (.aload_n 2, 1) := by decide +kernel
theorem dX3_firstPossibleOf_35 : decode cX3_firstPossibleOf 35 = .ok (.ifnull 18, 3) := by decide +kernel
theorem dX3_firstPossibleOf_38 : decode cX3_firstPossibleOf 38 = .ok (.aload 4, 2) := by decide +kernel
theorem dX3_firstPossibleOf_40 : decode cX3_firstPossibleOf 40 = .ok (.getfield 176, 3) := by decide +kernel
theorem dX3_firstPossibleOf_43 : decode cX3_firstPossibleOf 43 = .ok (.ifnonnull 14, 3) := by decide +kernel
theorem dX3_firstPossibleOf_46 : decode cX3_firstPossibleOf 46 = .ok (.aload_n 2, 1) := by decide +kernel
theorem dX3_firstPossibleOf_47 : decode cX3_firstPossibleOf 47 = .ok (.getfield 176, 3) := by decide +kernel
theorem dX3_firstPossibleOf_50 : decode cX3_firstPossibleOf 50 = .ok (.ifnull 7, 3) := by decide +kernel
theorem dX3_firstPossibleOf_53 : decode cX3_firstPossibleOf 53 = .ok (.iconst 1, 1) := by decide +kernel
theorem dX3_firstPossibleOf_54 : decode cX3_firstPossibleOf 54 = .ok (.goto 4, 3) := by decide +kernel
theorem dX3_firstPossibleOf_57 : decode cX3_firstPossibleOf 57 = .ok (.iconst 0, 1) := by decide +kernel
theorem dX3_firstPossibleOf_58 : decode cX3_firstPossibleOf 58 = .ok (.istore 5, 2) := by decide +kernel
theorem dX3_firstPossibleOf_60 : decode cX3_firstPossibleOf 60 = .ok (.iload 5, 2) := by decide +kernel
theorem dX3_firstPossibleOf_62 : decode cX3_firstPossibleOf 62 = .ok (.ifCond .eq 26, 3) := by decide +kernel
theorem dX3_firstPossibleOf_65 : decode cX3_firstPossibleOf 65 = .ok (.aload_n 0, 1) := by decide +kernel
theorem dX3_firstPossibleOf_66 : decode cX3_firstPossibleOf 66 = .ok (.aload 4, 2) := by decide +kernel
theorem dX3_firstPossibleOf_68 : decode cX3_firstPossibleOf 68 = .ok (.invokevirtual 179, 3) := by decide +kernel
theorem dX3_firstPossibleOf_71 : decode cX3_firstPossibleOf 71 = .ok (.iload_n 1, 1) := by decide +kernel
theorem dX3_firstPossibleOf_72 : decode cX3_firstPossibleOf 72 = .ok (.if_icmp .ne 16, 3) := by decide +kernel
theorem dX3_firstPossibleOf_75 : decode cX3_firstPossibleOf 75 = .ok (.aload_n 0, 1) := by decide +kernel
theorem dX3_firstPossibleOf_76 : decode cX3_firstPossibleOf 76 = .ok (.iload_n 1, 1) := by decide +kernel
theorem dX3_firstPossibleOf_77 : decode cX3_firstPossibleOf 77 = .ok (.aload 4, 2) := by decide +kernel
theorem dX3_firstPossibleOf_79 : decode cX3_firstPossibleOf 79 = .ok (.invokevirtual 183, 3) := by decide +kernel
theorem dX3_firstPossibleOf_82 : decode cX3_firstPossibleOf 82 = .ok (.ifCond .ne 6, 3) := by decide +kernel
theorem dX3_firstPossibleOf_85 : decode cX3_firstPossibleOf 85 = .ok (.aload 4, 2) := by decide +kernel
theorem dX3_firstPossibleOf_87 : decode cX3_firstPossibleOf 87 = .ok (.astore_n 2, 1) := by decide +kernel
theorem dX3_firstPossibleOf_88 : decode cX3_firstPossibleOf 88 = .ok (.iinc 3 1, 3) := by decide +kernel
theorem dX3_firstPossibleOf_91 : decode cX3_firstPossibleOf 91 = .ok (.goto (-87), 3) := by decide +kernel
theorem dX3_firstPossibleOf_94 : decode cX3_firstPossibleOf 94 = .ok (.aload_n 2, 1) := by decide +kernel
theorem dX3_firstPossibleOf_95 : decode cX3_firstPossibleOf 95 = .ok (.areturn, 1) := by decide +kernel
theorem dX3_originOf_0 : decode cX3_originOf 0 = .ok (.aload_n 0, 1) := by decide +kernel
theorem dX3_originOf_1 : decode cX3_originOf 1 = .ok (.getfield 71, 3) := by decide +kernel
theorem dX3_originOf_4 : decode cX3_originOf 4 = .ok (.ifnonnull 30, 3) := by decide +kernel
theorem dX3_originOf_7 : decode cX3_originOf 7 = .ok (.aload_n 1, 1) := by decide +kernel
theorem dX3_originOf_8 : decode cX3_originOf 8 = .ok (.aload_n 0, 1) := by decide +kernel
theorem dX3_originOf_9 : decode cX3_originOf 9 = .ok (.getfield 54, 3) := by decide +kernel
theorem dX3_originOf_12 : decode cX3_originOf 12 = .ok (.getfield 187, 3) := by decide +kernel
theorem dX3_originOf_15 : decode cX3_originOf 15 = .ok (.aload_n 0, 1) := by decide +kernel
theorem dX3_originOf_16 : decode cX3_originOf 16 = .ok (.getfield 54, 3) := by decide +kernel
theorem dX3_originOf_19 : decode cX3_originOf 19 = .ok (.getfield 187, 3) := by decide +kernel
theorem dX3_originOf_22 : decode cX3_originOf 22 = .ok (.invokevirtual 190, 3) := by decide +kernel
theorem dX3_originOf_25 : decode cX3_originOf 25 = .ok (.ifCond .eq 7, 3) := by decide +kernel
theorem dX3_originOf_28 : decode cX3_originOf 28 = .ok (.iconst 1, 1) := by decide +kernel
theorem dX3_originOf_29 : decode cX3_originOf 29 = .ok (.goto 4, 3) := by decide +kernel
theorem dX3_originOf_32 : decode cX3_originOf 32 = .ok (.iconst 0, 1) := by decide +kernel
theorem dX3_originOf_33 : decode cX3_originOf 33 = .ok (.ireturn, 1) := by decide +kernel
theorem dX3_originOf_34 : decode cX3_originOf 34 = .ok (.aload_n 0, 1) := by decide +kernel
theorem dX3_originOf_35 : decode cX3_originOf 35 = .ok (.getfield 86, 3) := by decide +kernel
theorem dX3_originOf_38 : decode cX3_originOf 38 = .ok (.iconst 2, 1) := by decide +kernel
theorem dX3_originOf_39 : decode cX3_originOf 39 = .ok (.if_icmp .ge 11, 3) := by decide +kernel
theorem dX3_originOf_42 : decode cX3_originOf 42 = .ok (.aload_n 1, 1) := by decide +kernel
theorem dX3_originOf_43 : decode cX3_originOf 43 = .ok (.aload_n 0, 1) := by decide +kernel
theorem dX3_originOf_44 : decode cX3_originOf 44 = .ok (.getfield 71, 3) := by decide +kernel
theorem dX3_originOf_47 : decode cX3_originOf 47 = .ok (.if_acmp .ne 5, 3) := by decide +kernel
theorem dX3_originOf_50 : decode cX3_originOf 50 = .ok (.iconst 0, 1) := by decide +kernel
theorem dX3_originOf_51 : decode cX3_originOf 51 = .ok (.ireturn, 1) := by decide +kernel
theorem dX3_originOf_52 : decode cX3_originOf 52 = .ok (.aload_n 0, 1) := by decide +kernel
theorem dX3_originOf_53 : decode cX3_originOf 53 = .ok (.getfield 71, 3) := by decide +kernel
theorem dX3_originOf_56 : decode cX3_originOf 56 = .ok (.getfield 194, 3) := by decide +kernel
theorem dX3_originOf_59 : decode cX3_originOf 59 = .ok (.ifCond .eq 21, 3) := by decide +kernel
theorem dX3_originOf_62 : decode cX3_originOf 62 = .ok (.aload_n 1, 1) := by decide +kernel
theorem dX3_originOf_63 : decode cX3_originOf 63 = .ok (.getfield 197, 3) := by decide +kernel
theorem dX3_originOf_66 : decode cX3_originOf 66 = .ok (.aload_n 0, 1) := by decide +kernel
theorem dX3_originOf_67 : decode cX3_originOf 67 = .ok (.getfield 71, 3) := by decide +kernel
theorem dX3_originOf_70 : decode cX3_originOf 70 = .ok (.getfield 197, 3) := by decide +kernel
theorem dX3_originOf_73 : decode cX3_originOf 73 = .ok (.if_icmp .le 7, 3) := by decide +kernel
theorem dX3_originOf_76 : decode cX3_originOf 76 = .ok (.iconst 1, 1) := by decide +kernel
theorem dX3_originOf_77 : decode cX3_originOf 77 = .ok (.goto 4, 3) := by decide +kernel
theorem dX3_originOf_80 : decode cX3_originOf 80 = .ok (.iconst 0, 1) := by decide +kernel
theorem dX3_originOf_81 : decode cX3_originOf 81 = .ok (.istore_n 2, 1) := by decide +kernel
theorem dX3_originOf_82 : decode cX3_originOf 82 = .ok (.iload_n 2, 1) := by decide +kernel
theorem dX3_originOf_83 : decode cX3_originOf 83 = .ok (.ifCond .ne 28, 3) := by decide +kernel
theorem dX3_originOf_86 : decode cX3_originOf 86 = .ok (.aload_n 1, 1) := by decide +kernel
theorem dX3_originOf_87 : decode cX3_originOf 87 = .ok (.aload_n 0, 1) := by decide +kernel
theorem dX3_originOf_88 : decode cX3_originOf 88 = .ok (.getfield 54, 3) := by decide +kernel
theorem dX3_originOf_91 : decode cX3_originOf 91 = .ok (.getfield 187, 3) := by decide +kernel
theorem dX3_originOf_94 : decode cX3_originOf 94 = .ok (.aload_n 0, 1) := by decide +kernel
theorem dX3_originOf_95 : decode cX3_originOf 95 = .ok (.getfield 58, 3) := by decide +kernel
theorem dX3_originOf_98 : decode cX3_originOf 98 = .ok (.getfield 187, 3) := by decide +kernel
theorem dX3_originOf_101 : decode cX3_originOf 101 = .ok (.invokevirtual 190, 3) := by decide +kernel
theorem dX3_originOf_104 : decode cX3_originOf 104 = .ok (.ifCond .eq 7, 3) := by decide +kernel
theorem dX3_originOf_107 : decode cX3_originOf 107 = .ok (.iconst 1, 1) := by decide +kernel
theorem dX3_originOf_108 : decode cX3_originOf 108 = .ok (.goto 4, 3) := by decide +kernel
theorem dX3_originOf_111 : decode cX3_originOf 111 = .ok (.iconst 0, 1) := by decide +kernel
theorem dX3_originOf_112 : decode cX3_originOf 112 = .ok (.istore_n 3, 1) := by decide +kernel
theorem dX3_originOf_113 : decode cX3_originOf 113 = .ok (.aload_n 1, 1) := by decide +kernel
theorem dX3_originOf_114 : decode cX3_originOf 114 = .ok (.aload_n 0, 1) := by decide +kernel
theorem dX3_originOf_115 : decode cX3_originOf 115 = .ok (.getfield 58, 3) := by decide +kernel
theorem dX3_originOf_118 : decode cX3_originOf 118 = .ok (.getfield 187, 3) := by decide +kernel
theorem dX3_originOf_121 : decode cX3_originOf 121 = .ok (.aload_n 0, 1) := by decide +kernel
theorem dX3_originOf_122 : decode cX3_originOf 122 = .ok (.getfield 58, 3) := by decide +kernel
theorem dX3_originOf_125 : decode cX3_originOf 125 = .ok (.getfield 187, 3) := by decide +kernel
theorem dX3_originOf_128 : decode cX3_originOf 128 = .ok (.invokevirtual 190, 3) := by decide +kernel
theorem dX3_originOf_131 : decode cX3_originOf 131 = .ok (.istore 4, 2) := by decide +kernel
theorem dX3_originOf_133 : decode cX3_originOf 133 = .ok (.aload_n 0, 1) := by decide +kernel
theorem dX3_originOf_134 : decode cX3_originOf 134 = .ok (.getfield 71, 3) := by decide +kernel
theorem dX3_originOf_137 : decode cX3_originOf 137 = .ok (.getfield 166, 3) := by decide +kernel
theorem dX3_originOf_140 : decode cX3_originOf 140 = .ok (.tableswitch 91 1 4 #[32, 42, 53, 72], 32) := by decide +kernel
theorem dX3_originOf_172 : decode cX3_originOf 172 = .ok (.iload_n 3, 1) := by decide +kernel
theorem dX3_originOf_173 : decode cX3_originOf 173 = .ok (.ifCond .eq 7, 3) := by decide +kernel
theorem dX3_originOf_176 : decode cX3_originOf 176 = .ok (.iconst 1, 1) := by decide +kernel
theorem dX3_originOf_177 : decode cX3_originOf 177 = .ok (.goto 4, 3) := by decide +kernel
theorem dX3_originOf_180 : decode cX3_originOf 180 = .ok (.iconst 0, 1) := by decide +kernel
theorem dX3_originOf_181 : decode cX3_originOf 181 = .ok (.ireturn, 1) := by decide +kernel
theorem dX3_originOf_182 : decode cX3_originOf 182 = .ok (.iload 4, 2) := by decide +kernel
theorem dX3_originOf_184 : decode cX3_originOf 184 = .ok (.ifCond .eq 7, 3) := by decide +kernel
theorem dX3_originOf_187 : decode cX3_originOf 187 = .ok (.iconst 2, 1) := by decide +kernel
theorem dX3_originOf_188 : decode cX3_originOf 188 = .ok (.goto 4, 3) := by decide +kernel
theorem dX3_originOf_191 : decode cX3_originOf 191 = .ok (.iconst 0, 1) := by decide +kernel
theorem dX3_originOf_192 : decode cX3_originOf 192 = .ok (.ireturn, 1) := by decide +kernel
theorem dX3_originOf_193 : decode cX3_originOf 193 = .ok (.iload_n 3, 1) := by decide +kernel
theorem dX3_originOf_194 : decode cX3_originOf 194 = .ok (.ifCond .eq 7, 3) := by decide +kernel
theorem dX3_originOf_197 : decode cX3_originOf 197 = .ok (.iconst 1, 1) := by decide +kernel
theorem dX3_originOf_198 : decode cX3_originOf 198 = .ok (.goto 13, 3) := by decide +kernel
theorem dX3_originOf_201 : decode cX3_originOf 201 = .ok (.iload 4, 2) := by decide +kernel
theorem dX3_originOf_203 : decode cX3_originOf 203 = .ok (.ifCond .eq 7, 3) := by decide +kernel
theorem dX3_originOf_206 : decode cX3_originOf 206 = .ok (.iconst 2, 1) := by decide +kernel
theorem dX3_originOf_207 : decode cX3_originOf 207 = .ok (.goto 4, 3) := by decide +kernel
theorem dX3_originOf_210 : decode cX3_originOf 210 = .ok (.iconst 0, 1) := by decide +kernel
theorem dX3_originOf_211 : decode cX3_originOf 211 = .ok (.ireturn, 1) := by decide +kernel
theorem dX3_originOf_212 : decode cX3_originOf 212 = .ok (.iload 4, 2) := by decide +kernel
theorem dX3_originOf_214 : decode cX3_originOf 214 = .ok (.ifCond .eq 7, 3) := by decide +kernel
theorem dX3_originOf_217 : decode cX3_originOf 217 = .ok (.iconst 2, 1) := by decide +kernel
theorem dX3_originOf_218 : decode cX3_originOf 218 = .ok (.goto 12, 3) := by decide +kernel
theorem dX3_originOf_221 : decode cX3_originOf 221 = .ok (.iload_n 3, 1) := by decide +kernel
theorem dX3_originOf_222 : decode cX3_originOf 222 = .ok (.ifCond .eq 7, 3) := by decide +kernel
theorem dX3_originOf_225 : decode cX3_originOf 225 = .ok (.iconst 1, 1) := by decide +kernel
theorem dX3_originOf_226 : decode cX3_originOf 226 = .ok (.goto 4, 3) := by decide +kernel
theorem dX3_originOf_229 : decode cX3_originOf 229 = .ok (.iconst 0, 1) := by decide +kernel
theorem dX3_originOf_230 : decode cX3_originOf 230 = .ok (.ireturn, 1) := by decide +kernel
theorem dX3_originOf_231 : decode cX3_originOf 231 = .ok (.iconst 0, 1) := by decide +kernel
theorem dX3_originOf_232 : decode cX3_originOf 232 = .ok (.ireturn, 1) := by decide +kernel
theorem dX3_obstacleFrom_0 : decode cX3_obstacleFrom 0 = .ok (.iload_n 1, 1) := by decide +kernel
theorem dX3_obstacleFrom_1 : decode cX3_obstacleFrom 1 = .ok (.ifCond .ne 5, 3) := by decide +kernel
theorem dX3_obstacleFrom_4 : decode cX3_obstacleFrom 4 = .ok (.iconst 1, 1) := by decide +kernel
theorem dX3_obstacleFrom_5 : decode cX3_obstacleFrom 5 = .ok (.ireturn, 1) := by decide +kernel
theorem dX3_obstacleFrom_6 : decode cX3_obstacleFrom 6 = .ok (.iload_n 1, 1) := by decide +kernel
theorem dX3_obstacleFrom_7 : decode cX3_obstacleFrom 7 = .ok (.iconst 2, 1) := by decide +kernel
theorem dX3_obstacleFrom_8 : decode cX3_obstacleFrom 8 = .ok (.if_icmp .ne 10, 3) := by decide +kernel
theorem dX3_obstacleFrom_11 : decode cX3_obstacleFrom 11 = .ok (.aload_n 0, 1) := by decide +kernel
theorem dX3_obstacleFrom_12 : decode cX3_obstacleFrom 12 = .ok (.getfield 58, 3) := by decide +kernel
theorem dX3_obstacleFrom_15 : decode cX3_obstacleFrom 15 = .ok (.goto 7, 3) := by decide +kernel
theorem dX3_obstacleFrom_18 : decode cX3_obstacleFrom 18 = .ok (.aload_n 0, 1) := by decide +kernel
theorem dX3_obstacleFrom_19 : decode cX3_obstacleFrom 19 = .ok (.getfield 54, 3) := by decide +kernel
theorem dX3_obstacleFrom_22 : decode cX3_obstacleFrom 22 = .ok (.astore_n 3, 1) := by decide +kernel
theorem dX3_obstacleFrom_23 : decode cX3_obstacleFrom 23 = .ok (.aload_n 2, 1) := by decide +kernel
theorem dX3_obstacleFrom_24 : decode cX3_obstacleFrom 24 = .ok (.getfield 200, 3) := by decide +kernel
theorem dX3_obstacleFrom_27 : decode cX3_obstacleFrom 27 = .ok (.iconst (-1), 1) := by decide +kernel
theorem dX3_obstacleFrom_28 : decode cX3_obstacleFrom 28 = .ok (.if_icmp .eq 22, 3) := by decide +kernel
theorem dX3_obstacleFrom_31 : decode cX3_obstacleFrom 31 = .ok (.aload_n 3, 1) := by decide +kernel
theorem dX3_obstacleFrom_32 : decode cX3_obstacleFrom 32 = .ok (.invokevirtual 203, 3) := by decide +kernel
theorem dX3_obstacleFrom_35 : decode cX3_obstacleFrom 35 = .ok (.aload_n 2, 1) := by decide +kernel
theorem dX3_obstacleFrom_36 : decode cX3_obstacleFrom 36 = .ok (.getfield 200, 3) := by decide +kernel
theorem dX3_obstacleFrom_39 : decode cX3_obstacleFrom 39 = .ok (.i2l, 1) := by decide +kernel
theorem dX3_obstacleFrom_40 : decode cX3_obstacleFrom 40 = .ok (.ldc2_w 207, 3) := by decide +kernel
theorem dX3_obstacleFrom_43 : decode cX3_obstacleFrom 43 = .ok (.lmul, 1) := by decide +kernel
theorem dX3_obstacleFrom_44 : decode cX3_obstacleFrom 44 = .ok (.lcmp, 1) := by decide +kernel
theorem dX3_obstacleFrom_45 : decode cX3_obstacleFrom 45 = .ok (.ifCond .ge 5, 3) := by decide +kernel
theorem dX3_obstacleFrom_48 : decode cX3_obstacleFrom 48 = .ok (.iconst 2, 1) := by decide +kernel
theorem dX3_obstacleFrom_49 : decode cX3_obstacleFrom 49 = .ok (.ireturn, 1) := by decide +kernel
theorem dX3_obstacleFrom_50 : decode cX3_obstacleFrom 50 = .ok (.iconst 0, 1) := by decide +kernel
theorem dX3_obstacleFrom_51 : decode cX3_obstacleFrom 51 = .ok (.istore 4, 2) := by decide +kernel
theorem dX3_obstacleFrom_53 : decode cX3_obstacleFrom 53 = .ok (.iload 4, 2) := by decide +kernel
theorem dX3_obstacleFrom_55 : decode cX3_obstacleFrom 55 = .ok (.aload_n 2, 1) := by decide +kernel
theorem dX3_obstacleFrom_56 : decode cX3_obstacleFrom 56 = .ok (.getfield 209, 3) := by decide +kernel
theorem dX3_obstacleFrom_59 : decode cX3_obstacleFrom 59 = .ok (.if_icmp .ge 40, 3) := by decide +kernel
theorem dX3_obstacleFrom_62 : decode cX3_obstacleFrom 62 = .ok (.iload 4, 2) := by decide +kernel
theorem dX3_obstacleFrom_64 : decode cX3_obstacleFrom 64 = .ok (.iconst 3, 1) := by decide +kernel
theorem dX3_obstacleFrom_65 : decode cX3_obstacleFrom 65 = .ok (.if_icmp .ge 34, 3) := by decide +kernel
theorem dX3_obstacleFrom_68 : decode cX3_obstacleFrom 68 = .ok (.aload_n 2, 1) := by decide +kernel
theorem dX3_obstacleFrom_69 : decode cX3_obstacleFrom 69 = .ok (.iload 4, 2) := by decide +kernel
theorem dX3_obstacleFrom_71 : decode cX3_obstacleFrom 71 = .ok (.aload_n 0, 1) := by decide +kernel
theorem dX3_obstacleFrom_72 : decode cX3_obstacleFrom 72 = .ok (.aload_n 2, 1) := by decide +kernel
theorem dX3_obstacleFrom_73 : decode cX3_obstacleFrom 73 = .ok (.getfield 212, 3) := by decide +kernel
theorem dX3_obstacleFrom_76 : decode cX3_obstacleFrom 76 = .ok (.iload 4, 2) := by decide +kernel
theorem dX3_obstacleFrom_78 : decode cX3_obstacleFrom 78 = .ok (.iaload, 1) := by decide +kernel
theorem dX3_obstacleFrom_79 : decode cX3_obstacleFrom 79 = .ok (.invokevirtual 215, 3) := by decide +kernel
theorem dX3_obstacleFrom_82 : decode cX3_obstacleFrom 82 = .ok (.invokevirtual 218, 3) := by decide +kernel
theorem dX3_obstacleFrom_85 : decode cX3_obstacleFrom 85 = .ok (.ifCond .ne 8, 3) := by decide +kernel
theorem dX3_obstacleFrom_88 : decode cX3_obstacleFrom 88 = .ok (.iconst 3, 1) := by decide +kernel
theorem dX3_obstacleFrom_89 : decode cX3_obstacleFrom 89 = .ok (.iload 4, 2) := by decide +kernel
theorem dX3_obstacleFrom_91 : decode cX3_obstacleFrom 91 = .ok (.iadd, 1) := by decide +kernel
theorem dX3_obstacleFrom_92 : decode cX3_obstacleFrom 92 = .ok (.ireturn, 1) := by decide +kernel
theorem dX3_obstacleFrom_93 : decode cX3_obstacleFrom 93 = .ok (.iinc 4 1, 3) := by decide +kernel
theorem dX3_obstacleFrom_96 : decode cX3_obstacleFrom 96 = .ok (.goto (-43), 3) := by decide +kernel
theorem dX3_obstacleFrom_99 : decode cX3_obstacleFrom 99 = .ok (.iconst 0, 1) := by decide +kernel
theorem dX3_obstacleFrom_100 : decode cX3_obstacleFrom 100 = .ok (.ireturn, 1) := by decide +kernel
theorem dX3_take_0 : decode cX3_take 0 = .ok (.aload_n 0, 1) := by decide +kernel
theorem dX3_take_1 : decode cX3_take 1 = .ok (.aload_n 1, 1) := by decide +kernel
theorem dX3_take_2 : decode cX3_take 2 = .ok (.invokevirtual 179, 3) := by decide +kernel
theorem dX3_take_5 : decode cX3_take 5 = .ok (.iconst 2, 1) := by decide +kernel
theorem dX3_take_6 : decode cX3_take 6 = .ok (.if_icmp .ne 7, 3) := by decide +kernel
theorem dX3_take_9 : decode cX3_take 9 = .ok (.iconst 1, 1) := by decide +kernel
theorem dX3_take_10 : decode cX3_take 10 = .ok (.goto 4, 3) := by decide +kernel
theorem dX3_take_13 : decode cX3_take 13 = .ok (.iconst 0, 1) := by decide +kernel
theorem dX3_take_14 : decode cX3_take 14 = .ok (.istore_n 2, 1) := by decide +kernel
theorem dX3_take_15 : decode cX3_take 15 = .ok (.aload_n 0, 1) := by decide +kernel
theorem dX3_take_16 : decode cX3_take 16 = .ok (.aload_n 1, 1) := by decide +kernel
theorem dX3_take_17 : decode cX3_take 17 = .ok (.invokevirtual 222, 3) := by decide +kernel
theorem dX3_take_20 : decode cX3_take 20 = .ok (.aload_n 0, 1) := by decide +kernel
theorem dX3_take_21 : decode cX3_take 21 = .ok (.getfield 71, 3) := by decide +kernel
theorem dX3_take_24 : decode cX3_take 24 = .ok (.ifnull 48, 3) := by decide +kernel
theorem dX3_take_27 : decode cX3_take 27 = .ok (.aload_n 0, 1) := by decide +kernel
theorem dX3_take_28 : decode cX3_take 28 = .ok (.invokevirtual 225, 3) := by decide +kernel
theorem dX3_take_31 : decode cX3_take 31 = .ok (.aload_n 0, 1) := by decide +kernel
theorem dX3_take_32 : decode cX3_take 32 = .ok (.getfield 18, 3) := by decide +kernel
theorem dX3_take_35 : decode cX3_take 35 = .ok (.aload_n 0, 1) := by decide +kernel
theorem dX3_take_36 : decode cX3_take 36 = .ok (.getfield 36, 3) := by decide +kernel
theorem dX3_take_39 : decode cX3_take 39 = .ok (.invokevirtual 83, 3) := by decide +kernel
theorem dX3_take_42 : decode cX3_take 42 = .ok (.aload_n 0, 1) := by decide +kernel
theorem dX3_take_43 : decode cX3_take 43 = .ok (.iconst 1, 1) := by decide +kernel
theorem dX3_take_44 : decode cX3_take 44 = .ok (.putfield 79, 3) := by decide +kernel
theorem dX3_take_47 : decode cX3_take 47 = .ok (.aload_n 0, 1) := by decide +kernel
theorem dX3_take_48 : decode cX3_take 48 = .ok (.dup, 1) := by decide +kernel
theorem dX3_take_49 : decode cX3_take 49 = .ok (.getfield 86, 3) := by decide +kernel
theorem dX3_take_52 : decode cX3_take 52 = .ok (.iconst 1, 1) := by decide +kernel
theorem dX3_take_53 : decode cX3_take 53 = .ok (.iadd, 1) := by decide +kernel
theorem dX3_take_54 : decode cX3_take 54 = .ok (.putfield 86, 3) := by decide +kernel
theorem dX3_take_57 : decode cX3_take 57 = .ok (.iload_n 2, 1) := by decide +kernel
theorem dX3_take_58 : decode cX3_take 58 = .ok (.ifCond .eq 14, 3) := by decide +kernel
theorem dX3_take_61 : decode cX3_take 61 = .ok (.aload_n 0, 1) := by decide +kernel
theorem dX3_take_62 : decode cX3_take 62 = .ok (.getfield 54, 3) := by decide +kernel
theorem dX3_take_65 : decode cX3_take 65 = .ok (.aload_n 0, 1) := by decide +kernel
theorem dX3_take_66 : decode cX3_take 66 = .ok (.getfield 58, 3) := by decide +kernel
theorem dX3_take_69 : decode cX3_take 69 = .ok (.invokevirtual 67, 3) := by decide +kernel
theorem dX3_take_72 : decode cX3_take 72 = .ok (.aload_n 0, 1) := by decide +kernel
theorem dX3_take_73 : decode cX3_take 73 = .ok (.getfield 58, 3) := by decide +kernel
theorem dX3_take_76 : decode cX3_take 76 = .ok (.aload_n 1, 1) := by decide +kernel
theorem dX3_take_77 : decode cX3_take 77 = .ok (.getfield 228, 3) := by decide +kernel
theorem dX3_take_80 : decode cX3_take 80 = .ok (.aload_n 0, 1) := by decide +kernel
theorem dX3_take_81 : decode cX3_take 81 = .ok (.aload_n 1, 1) := by decide +kernel
theorem dX3_take_82 : decode cX3_take 82 = .ok (.invokevirtual 231, 3) := by decide +kernel
theorem dX3_take_85 : decode cX3_take 85 = .ok (.invokevirtual 95, 3) := by decide +kernel
theorem dX3_take_88 : decode cX3_take 88 = .ok (.aload_n 1, 1) := by decide +kernel
theorem dX3_take_89 : decode cX3_take 89 = .ok (.getfield 158, 3) := by decide +kernel
theorem dX3_take_92 : decode cX3_take 92 = .ok (.ifCond .ne 10, 3) := by decide +kernel
theorem dX3_take_95 : decode cX3_take 95 = .ok (.aload_n 0, 1) := by decide +kernel
theorem dX3_take_96 : decode cX3_take 96 = .ok (.invokevirtual 99, 3) := by decide +kernel
theorem dX3_take_99 : decode cX3_take 99 = .ok (.goto 13, 3) := by decide +kernel
theorem dX3_take_102 : decode cX3_take 102 = .ok (.aload_n 0, 1) := by decide +kernel
theorem dX3_take_103 : decode cX3_take 103 = .ok (.aload_n 1, 1) := by decide +kernel
theorem dX3_take_104 : decode cX3_take 104 = .ok (.putfield 71, 3) := by decide +kernel
theorem dX3_take_107 : decode cX3_take 107 = .ok (.aload_n 0, 1) := by decide +kernel
theorem dX3_take_108 : decode cX3_take 108 = .ok (.iconst 0, 1) := by decide +kernel
theorem dX3_take_109 : decode cX3_take 109 = .ok (.putfield 75, 3) := by decide +kernel
theorem dX3_take_112 : decode cX3_take 112 = .ok (.return_, 1) := by decide +kernel
theorem dX3_clearTriggers_0 : decode cX3_clearTriggers 0 = .ok (.iconst 0, 1) := by decide +kernel
theorem dX3_clearTriggers_1 : decode cX3_clearTriggers 1 = .ok (.istore_n 2, 1) := by decide +kernel
theorem dX3_clearTriggers_2 : decode cX3_clearTriggers 2 = .ok (.iload_n 2, 1) := by decide +kernel
theorem dX3_clearTriggers_3 : decode cX3_clearTriggers 3 = .ok (.aload_n 1, 1) := by decide +kernel
theorem dX3_clearTriggers_4 : decode cX3_clearTriggers 4 = .ok (.getfield 209, 3) := by decide +kernel
theorem dX3_clearTriggers_7 : decode cX3_clearTriggers 7 = .ok (.if_icmp .ge 42, 3) := by decide +kernel
theorem dX3_clearTriggers_10 : decode cX3_clearTriggers 10 = .ok (.iload_n 2, 1) := by decide +kernel
theorem dX3_clearTriggers_11 : decode cX3_clearTriggers 11 = .ok (.iconst 3, 1) := by decide +kernel
theorem dX3_clearTriggers_12 : decode cX3_clearTriggers 12 = .ok (.if_icmp .ge 37, 3) := by decide +kernel
theorem dX3_clearTriggers_15 : decode cX3_clearTriggers 15 = .ok (.aload_n 0, 1) := by decide +kernel
theorem dX3_clearTriggers_16 : decode cX3_clearTriggers 16 = .ok (.getfield 39, 3) := by decide +kernel
theorem dX3_clearTriggers_19 : decode cX3_clearTriggers 19 = .ok (.aload_n 1, 1) := by decide +kernel
theorem dX3_clearTriggers_20 : decode cX3_clearTriggers 20 = .ok (.getfield 212, 3) := by decide +kernel
theorem dX3_clearTriggers_23 : decode cX3_clearTriggers 23 = .ok (.iload_n 2, 1) := by decide +kernel
theorem dX3_clearTriggers_24 : decode cX3_clearTriggers 24 = .ok (.iaload, 1) := by decide +kernel
theorem dX3_clearTriggers_25 : decode cX3_clearTriggers 25 = .ok (.invokevirtual 234, 3) := by decide +kernel
theorem dX3_clearTriggers_28 : decode cX3_clearTriggers 28 = .ok (.iconst 2, 1) := by decide +kernel
theorem dX3_clearTriggers_29 : decode cX3_clearTriggers 29 = .ok (.if_icmp .ne 14, 3) := by decide +kernel
theorem dX3_clearTriggers_32 : decode cX3_clearTriggers 32 = .ok (.aload_n 0, 1) := by decide +kernel
theorem dX3_clearTriggers_33 : decode cX3_clearTriggers 33 = .ok (.aload_n 1, 1) := by decide +kernel
theorem dX3_clearTriggers_34 : decode cX3_clearTriggers 34 = .ok (.getfield 212, 3) := by decide +kernel
theorem dX3_clearTriggers_37 : decode cX3_clearTriggers 37 = .ok (.iload_n 2, 1) := by decide +kernel
theorem dX3_clearTriggers_38 : decode cX3_clearTriggers 38 = .ok (.iaload, 1) := by decide +kernel
theorem dX3_clearTriggers_39 : decode cX3_clearTriggers 39 = .ok (.iconst 0, 1) := by decide +kernel
theorem dX3_clearTriggers_40 : decode cX3_clearTriggers 40 = .ok (.invokevirtual 237, 3) := by decide +kernel
theorem dX3_clearTriggers_43 : decode cX3_clearTriggers 43 = .ok (.iinc 2 1, 3) := by decide +kernel
theorem dX3_clearTriggers_46 : decode cX3_clearTriggers 46 = .ok (.goto (-44), 3) := by decide +kernel
theorem dX3_clearTriggers_49 : decode cX3_clearTriggers 49 = .ok (.return_, 1) := by decide +kernel
theorem dX3_firstPhase_0 : decode cX3_firstPhase 0 = .ok (.aload_n 0, 1) := by decide +kernel
theorem dX3_firstPhase_1 : decode cX3_firstPhase 1 = .ok (.getfield 79, 3) := by decide +kernel
theorem dX3_firstPhase_4 : decode cX3_firstPhase 4 = .ok (.ifCond .ne 20, 3) := by decide +kernel
theorem dX3_firstPhase_7 : decode cX3_firstPhase 7 = .ok (.aload_n 0, 1) := by decide +kernel
theorem dX3_firstPhase_8 : decode cX3_firstPhase 8 = .ok (.getfield 54, 3) := by decide +kernel
theorem dX3_firstPhase_11 : decode cX3_firstPhase 11 = .ok (.getfield 187, 3) := by decide +kernel
theorem dX3_firstPhase_14 : decode cX3_firstPhase 14 = .ok (.aload_n 1, 1) := by decide +kernel
theorem dX3_firstPhase_15 : decode cX3_firstPhase 15 = .ok (.getfield 228, 3) := by decide +kernel
theorem dX3_firstPhase_18 : decode cX3_firstPhase 18 = .ok (.invokevirtual 241, 3) := by decide +kernel
theorem dX3_firstPhase_21 : decode cX3_firstPhase 21 = .ok (.ifCond .ne 12, 3) := by decide +kernel
theorem dX3_firstPhase_24 : decode cX3_firstPhase 24 = .ok (.aload_n 1, 1) := by decide +kernel
theorem dX3_firstPhase_25 : decode cX3_firstPhase 25 = .ok (.getfield 245, 3) := by decide +kernel
theorem dX3_firstPhase_28 : decode cX3_firstPhase 28 = .ok (.sipush 10000, 3) := by decide +kernel
theorem dX3_firstPhase_31 : decode cX3_firstPhase 31 = .ok (.imul, 1) := by decide +kernel
theorem dX3_firstPhase_32 : decode cX3_firstPhase 32 = .ok (.ireturn, 1) := by decide +kernel
theorem dX3_firstPhase_33 : decode cX3_firstPhase 33 = .ok (.aload_n 1, 1) := by decide +kernel
theorem dX3_firstPhase_34 : decode cX3_firstPhase 34 = .ok (.getfield 228, 3) := by decide +kernel
theorem dX3_firstPhase_37 : decode cX3_firstPhase 37 = .ok (.getfield 248, 3) := by decide +kernel
theorem dX3_firstPhase_40 : decode cX3_firstPhase 40 = .ok (.ifCond .eq 18, 3) := by decide +kernel
theorem dX3_firstPhase_43 : decode cX3_firstPhase 43 = .ok (.aload_n 0, 1) := by decide +kernel
theorem dX3_firstPhase_44 : decode cX3_firstPhase 44 = .ok (.getfield 54, 3) := by decide +kernel
theorem dX3_firstPhase_47 : decode cX3_firstPhase 47 = .ok (.getfield 251, 3) := by decide +kernel
theorem dX3_firstPhase_50 : decode cX3_firstPhase 50 = .ok (.ldc 254, 2) := by decide +kernel
theorem dX3_firstPhase_52 : decode cX3_firstPhase 52 = .ok (.invokestatic 255, 3) := by decide +kernel
theorem dX3_firstPhase_55 : decode cX3_firstPhase 55 = .ok (.goto 10, 3) := by decide +kernel
theorem dX3_firstPhase_58 : decode cX3_firstPhase 58 = .ok (.aload_n 0, 1) := by decide +kernel
theorem dX3_firstPhase_59 : decode cX3_firstPhase 59 = .ok (.getfield 54, 3) := by decide +kernel
theorem dX3_firstPhase_62 : decode cX3_firstPhase 62 = .ok (.getfield 251, 3) := by decide +kernel
theorem dX3_firstPhase_65 : decode cX3_firstPhase 65 = .ok (.ireturn, 1) := by decide +kernel
theorem dX3_becomeIdle_0 : decode cX3_becomeIdle 0 = .ok (.aload_n 0, 1) := by decide +kernel
theorem dX3_becomeIdle_1 : decode cX3_becomeIdle 1 = .ok (.getfield 54, 3) := by decide +kernel
theorem dX3_becomeIdle_4 : decode cX3_becomeIdle 4 = .ok (.aload_n 0, 1) := by decide +kernel
theorem dX3_becomeIdle_5 : decode cX3_becomeIdle 5 = .ok (.getfield 58, 3) := by decide +kernel
theorem dX3_becomeIdle_8 : decode cX3_becomeIdle 8 = .ok (.invokevirtual 67, 3) := by decide +kernel
theorem dX3_becomeIdle_11 : decode cX3_becomeIdle 11 = .ok (.aload_n 0, 1) := by decide +kernel
theorem dX3_becomeIdle_12 : decode cX3_becomeIdle 12 = .ok (.aconst_null, 1) := by decide +kernel
theorem dX3_becomeIdle_13 : decode cX3_becomeIdle 13 = .ok (.putfield 71, 3) := by decide +kernel
theorem dX3_becomeIdle_16 : decode cX3_becomeIdle 16 = .ok (.aload_n 0, 1) := by decide +kernel
theorem dX3_becomeIdle_17 : decode cX3_becomeIdle 17 = .ok (.iconst 0, 1) := by decide +kernel
theorem dX3_becomeIdle_18 : decode cX3_becomeIdle 18 = .ok (.putfield 75, 3) := by decide +kernel
theorem dX3_becomeIdle_21 : decode cX3_becomeIdle 21 = .ok (.aload_n 0, 1) := by decide +kernel
theorem dX3_becomeIdle_22 : decode cX3_becomeIdle 22 = .ok (.iconst 0, 1) := by decide +kernel
theorem dX3_becomeIdle_23 : decode cX3_becomeIdle 23 = .ok (.putfield 79, 3) := by decide +kernel
theorem dX3_becomeIdle_26 : decode cX3_becomeIdle 26 = .ok (.aload_n 0, 1) := by decide +kernel
theorem dX3_becomeIdle_27 : decode cX3_becomeIdle 27 = .ok (.iconst 0, 1) := by decide +kernel
theorem dX3_becomeIdle_28 : decode cX3_becomeIdle 28 = .ok (.putfield 86, 3) := by decide +kernel
theorem dX3_becomeIdle_31 : decode cX3_becomeIdle 31 = .ok (.return_, 1) := by decide +kernel
theorem dX3_targetShare_0 : decode cX3_targetShare 0 = .ok (.aload_n 0, 1) := by decide +kernel
theorem dX3_targetShare_1 : decode cX3_targetShare 1 = .ok (.getfield 71, 3) := by decide +kernel
theorem dX3_targetShare_4 : decode cX3_targetShare 4 = .ok (.ifnull 13, 3) := by decide +kernel
theorem dX3_targetShare_7 : decode cX3_targetShare 7 = .ok (.aload_n 0, 1) := by decide +kernel
theorem dX3_targetShare_8 : decode cX3_targetShare 8 = .ok (.getfield 71, 3) := by decide +kernel
theorem dX3_targetShare_11 : decode cX3_targetShare 11 = .ok (.getfield 158, 3) := by decide +kernel
theorem dX3_targetShare_14 : decode cX3_targetShare 14 = .ok (.ifCond .gt 6, 3) := by decide +kernel
theorem dX3_targetShare_17 : decode cX3_targetShare 17 = .ok (.ldc 111, 2) := by decide +kernel
theorem dX3_targetShare_19 : decode cX3_targetShare 19 = .ok (.ireturn, 1) := by decide +kernel
theorem dX3_targetShare_20 : decode cX3_targetShare 20 = .ok (.ldc2_w 139, 3) := by decide +kernel
theorem dX3_targetShare_23 : decode cX3_targetShare 23 = .ok (.aload_n 0, 1) := by decide +kernel
theorem dX3_targetShare_24 : decode cX3_targetShare 24 = .ok (.getfield 75, 3) := by decide +kernel
theorem dX3_targetShare_27 : decode cX3_targetShare 27 = .ok (.i2l, 1) := by decide +kernel
theorem dX3_targetShare_28 : decode cX3_targetShare 28 = .ok (.lmul, 1) := by decide +kernel
theorem dX3_targetShare_29 : decode cX3_targetShare 29 = .ok (.aload_n 0, 1) := by decide +kernel
theorem dX3_targetShare_30 : decode cX3_targetShare 30 = .ok (.getfield 71, 3) := by decide +kernel
theorem dX3_targetShare_33 : decode cX3_targetShare 33 = .ok (.getfield 158, 3) := by decide +kernel
theorem dX3_targetShare_36 : decode cX3_targetShare 36 = .ok (.i2l, 1) := by decide +kernel
theorem dX3_targetShare_37 : decode cX3_targetShare 37 = .ok (.ldiv, 1) := by decide +kernel
theorem dX3_targetShare_38 : decode cX3_targetShare 38 = .ok (.l2i, 1) := by decide +kernel
theorem dX3_targetShare_39 : decode cX3_targetShare 39 = .ok (.ireturn, 1) := by decide +kernel
theorem dX3_advanceTracks_0 : decode cX3_advanceTracks 0 = .ok (.aload_n 0, 1) := by decide +kernel
theorem dX3_advanceTracks_1 : decode cX3_advanceTracks 1 = .ok (.getfield 71, 3) := by decide +kernel
theorem dX3_advanceTracks_4 : decode cX3_advanceTracks 4 = .ok (.ifnonnull 22, 3) := by decide +kernel
theorem dX3_advanceTracks_7 : decode cX3_advanceTracks 7 = .ok (.aload_n 0, 1) := by decide +kernel
theorem dX3_advanceTracks_8 : decode cX3_advanceTracks 8 = .ok (.getfield 54, 3) := by decide +kernel
theorem dX3_advanceTracks_11 : decode cX3_advanceTracks 11 = .ok (.aload_n 0, 1) := by decide +kernel
theorem dX3_advanceTracks_12 : decode cX3_advanceTracks 12 = .ok (.aload_n 0, 1) := by decide +kernel
theorem dX3_advanceTracks_13 : decode cX3_advanceTracks 13 = .ok (.getfield 54, 3) := by decide +kernel
theorem dX3_advanceTracks_16 : decode cX3_advanceTracks 16 = .ok (.getfield 187, 3) := by decide +kernel
theorem dX3_advanceTracks_19 : decode cX3_advanceTracks 19 = .ok (.invokevirtual 259, 3) := by decide +kernel
theorem dX3_advanceTracks_22 : decode cX3_advanceTracks 22 = .ok (.invokevirtual 263, 3) := by decide +kernel
theorem dX3_advanceTracks_25 : decode cX3_advanceTracks 25 = .ok (.return_, 1) := by decide +kernel
theorem dX3_advanceTracks_26 : decode cX3_advanceTracks 26 = .ok (.aload_n 0, 1) := by decide +kernel
theorem dX3_advanceTracks_27 : decode cX3_advanceTracks 27 = .ok (.getfield 79, 3) := by decide +kernel
theorem dX3_advanceTracks_30 : decode cX3_advanceTracks 30 = .ok (.ifCond .ne 45, 3) := by decide +kernel
theorem dX3_advanceTracks_33 : decode cX3_advanceTracks 33 = .ok (.aload_n 0, 1) := by decide +kernel
theorem dX3_advanceTracks_34 : decode cX3_advanceTracks 34 = .ok (.getfield 54, 3) := by decide +kernel
theorem dX3_advanceTracks_37 : decode cX3_advanceTracks 37 = .ok (.getfield 187, 3) := by decide +kernel
theorem dX3_advanceTracks_40 : decode cX3_advanceTracks 40 = .ok (.aload_n 0, 1) := by decide +kernel
theorem dX3_advanceTracks_41 : decode cX3_advanceTracks 41 = .ok (.getfield 58, 3) := by decide +kernel
theorem dX3_advanceTracks_44 : decode cX3_advanceTracks 44 = .ok (.getfield 187, 3) := by decide +kernel
theorem dX3_advanceTracks_47 : decode cX3_advanceTracks 47 = .ok (.invokevirtual 241, 3) := by decide +kernel
theorem dX3_advanceTracks_50 : decode cX3_advanceTracks 50 = .ok (.ifCond .eq 25, 3) := by decide +kernel
theorem dX3_advanceTracks_53 : decode cX3_advanceTracks 53 = .ok (.aload_n 0, 1) := by decide +kernel
theorem dX3_advanceTracks_54 : decode cX3_advanceTracks 54 = .ok (.invokevirtual 267, 3) := by decide +kernel
theorem dX3_advanceTracks_57 : decode cX3_advanceTracks 57 = .ok (.lstore_n 1, 1) := by decide +kernel
theorem dX3_advanceTracks_58 : decode cX3_advanceTracks 58 = .ok (.aload_n 0, 1) := by decide +kernel
theorem dX3_advanceTracks_59 : decode cX3_advanceTracks 59 = .ok (.getfield 54, 3) := by decide +kernel
theorem dX3_advanceTracks_62 : decode cX3_advanceTracks 62 = .ok (.lload_n 1, 1) := by decide +kernel
theorem dX3_advanceTracks_63 : decode cX3_advanceTracks 63 = .ok (.invokevirtual 263, 3) := by decide +kernel
theorem dX3_advanceTracks_66 : decode cX3_advanceTracks 66 = .ok (.aload_n 0, 1) := by decide +kernel
theorem dX3_advanceTracks_67 : decode cX3_advanceTracks 67 = .ok (.getfield 58, 3) := by decide +kernel
theorem dX3_advanceTracks_70 : decode cX3_advanceTracks 70 = .ok (.lload_n 1, 1) := by decide +kernel
theorem dX3_advanceTracks_71 : decode cX3_advanceTracks 71 = .ok (.invokevirtual 263, 3) := by decide +kernel
theorem dX3_advanceTracks_74 : decode cX3_advanceTracks 74 = .ok (.return_, 1) := by decide +kernel
theorem dX3_advanceTracks_75 : decode cX3_advanceTracks 75 = .ok (.aload_n 0, 1) := by decide +kernel
theorem dX3_advanceTracks_76 : decode cX3_advanceTracks 76 = .ok (.getfield 79, 3) := by decide +kernel
theorem dX3_advanceTracks_79 : decode cX3_advanceTracks 79 = .ok (.ifCond .ne 21, 3) := by decide +kernel
theorem dX3_advanceTracks_82 : decode cX3_advanceTracks 82 = .ok (.aload_n 0, 1) := by decide +kernel
theorem dX3_advanceTracks_83 : decode cX3_advanceTracks 83 = .ok (.getfield 54, 3) := by decide +kernel
theorem dX3_advanceTracks_86 : decode cX3_advanceTracks 86 = .ok (.aload_n 0, 1) := by decide +kernel
theorem dX3_advanceTracks_87 : decode cX3_advanceTracks 87 = .ok (.aload_n 0, 1) := by decide +kernel
theorem dX3_advanceTracks_88 : decode cX3_advanceTracks 88 = .ok (.getfield 54, 3) := by decide +kernel
theorem dX3_advanceTracks_91 : decode cX3_advanceTracks 91 = .ok (.getfield 187, 3) := by decide +kernel
theorem dX3_advanceTracks_94 : decode cX3_advanceTracks 94 = .ok (.invokevirtual 259, 3) := by decide +kernel
theorem dX3_advanceTracks_97 : decode cX3_advanceTracks 97 = .ok (.invokevirtual 263, 3) := by decide +kernel
theorem dX3_advanceTracks_100 : decode cX3_advanceTracks 100 = .ok (.aload_n 0, 1) := by decide +kernel
theorem dX3_advanceTracks_101 : decode cX3_advanceTracks 101 = .ok (.getfield 58, 3) := by decide +kernel
theorem dX3_advanceTracks_104 : decode cX3_advanceTracks 104 = .ok (.aload_n 0, 1) := by decide +kernel
theorem dX3_advanceTracks_105 : decode cX3_advanceTracks 105 = .ok (.aload_n 0, 1) := by decide +kernel
theorem dX3_advanceTracks_106 : decode cX3_advanceTracks 106 = .ok (.getfield 58, 3) := by decide +kernel
theorem dX3_advanceTracks_109 : decode cX3_advanceTracks 109 = .ok (.getfield 187, 3) := by decide +kernel
theorem dX3_advanceTracks_112 : decode cX3_advanceTracks 112 = .ok (.invokevirtual 259, 3) := by decide +kernel
theorem dX3_advanceTracks_115 : decode cX3_advanceTracks 115 = .ok (.invokevirtual 263, 3) := by decide +kernel
theorem dX3_advanceTracks_118 : decode cX3_advanceTracks 118 = .ok (.return_, 1) := by decide +kernel
theorem dX3_stepOf_0 : decode cX3_stepOf 0 = .ok (.aload_n 1, 1) := by decide +kernel
theorem dX3_stepOf_1 : decode cX3_stepOf 1 = .ok (.getfield 270, 3) := by decide +kernel
theorem dX3_stepOf_4 : decode cX3_stepOf 4 = .ok (.i2l, 1) := by decide +kernel
theorem dX3_stepOf_5 : decode cX3_stepOf 5 = .ok (.aload_n 0, 1) := by decide +kernel
theorem dX3_stepOf_6 : decode cX3_stepOf 6 = .ok (.aload_n 1, 1) := by decide +kernel
theorem dX3_stepOf_7 : decode cX3_stepOf 7 = .ok (.invokevirtual 273, 3) := by decide +kernel
theorem dX3_stepOf_10 : decode cX3_stepOf 10 = .ok (.i2l, 1) := by decide +kernel
theorem dX3_stepOf_11 : decode cX3_stepOf 11 = .ok (.invokestatic 277, 3) := by decide +kernel
theorem dX3_stepOf_14 : decode cX3_stepOf 14 = .ok (.lreturn, 1) := by decide +kernel
theorem dX3_commonStep_0 : decode cX3_commonStep 0 = .ok (.aload_n 0, 1) := by decide +kernel
theorem dX3_commonStep_1 : decode cX3_commonStep 1 = .ok (.aload_n 0, 1) := by decide +kernel
theorem dX3_commonStep_2 : decode cX3_commonStep 2 = .ok (.getfield 54, 3) := by decide +kernel
theorem dX3_commonStep_5 : decode cX3_commonStep 5 = .ok (.getfield 187, 3) := by decide +kernel
theorem dX3_commonStep_8 : decode cX3_commonStep 8 = .ok (.getfield 270, 3) := by decide +kernel
theorem dX3_commonStep_11 : decode cX3_commonStep 11 = .ok (.aload_n 0, 1) := by decide +kernel
theorem dX3_commonStep_12 : decode cX3_commonStep 12 = .ok (.getfield 58, 3) := by decide +kernel
theorem dX3_commonStep_15 : decode cX3_commonStep 15 = .ok (.getfield 187, 3) := by decide +kernel
theorem dX3_commonStep_18 : decode cX3_commonStep 18 = .ok (.getfield 270, 3) := by decide +kernel
theorem dX3_commonStep_21 : decode cX3_commonStep 21 = .ok (.invokevirtual 280, 3) := by decide +kernel
theorem dX3_commonStep_24 : decode cX3_commonStep 24 = .ok (.lstore_n 1, 1) := by decide +kernel
theorem dX3_commonStep_25 : decode cX3_commonStep 25 = .ok (.aload_n 0, 1) := by decide +kernel
theorem dX3_commonStep_26 : decode cX3_commonStep 26 = .ok (.aload_n 0, 1) := by decide +kernel
theorem dX3_commonStep_27 : decode cX3_commonStep 27 = .ok (.aload_n 0, 1) := by decide +kernel
theorem dX3_commonStep_28 : decode cX3_commonStep 28 = .ok (.getfield 54, 3) := by decide +kernel
theorem dX3_commonStep_31 : decode cX3_commonStep 31 = .ok (.getfield 187, 3) := by decide +kernel
theorem dX3_commonStep_34 : decode cX3_commonStep 34 = .ok (.invokevirtual 273, 3) := by decide +kernel
theorem dX3_commonStep_37 : decode cX3_commonStep 37 = .ok (.aload_n 0, 1) := by decide +kernel
theorem dX3_commonStep_38 : decode cX3_commonStep 38 = .ok (.aload_n 0, 1) := by decide +kernel
theorem dX3_commonStep_39 : decode cX3_commonStep 39 = .ok (.getfield 58, 3) := by decide +kernel
theorem dX3_commonStep_42 : decode cX3_commonStep 42 = .ok (.getfield 187, 3) := by decide +kernel
theorem dX3_commonStep_45 : decode cX3_commonStep 45 = .ok (.invokevirtual 273, 3) := by decide +kernel
theorem dX3_commonStep_48 : decode cX3_commonStep 48 = .ok (.invokevirtual 280, 3) := by decide +kernel
theorem dX3_commonStep_51 : decode cX3_commonStep 51 = .ok (.lstore_n 3, 1) := by decide +kernel
theorem dX3_commonStep_52 : decode cX3_commonStep 52 = .ok (.lload_n 1, 1) := by decide +kernel
theorem dX3_commonStep_53 : decode cX3_commonStep 53 = .ok (.lload_n 3, 1) := by decide +kernel
theorem dX3_commonStep_54 : decode cX3_commonStep 54 = .ok (.invokestatic 277, 3) := by decide +kernel
theorem dX3_commonStep_57 : decode cX3_commonStep 57 = .ok (.lreturn, 1) := by decide +kernel
theorem dX3_mixed_0 : decode cX3_mixed 0 = .ok (.aload_n 0, 1) := by decide +kernel
theorem dX3_mixed_1 : decode cX3_mixed 1 = .ok (.invokevirtual 284, 3) := by decide +kernel
theorem dX3_mixed_4 : decode cX3_mixed 4 = .ok (.i2l, 1) := by decide +kernel
theorem dX3_mixed_5 : decode cX3_mixed 5 = .ok (.lstore_n 3, 1) := by decide +kernel
theorem dX3_mixed_6 : decode cX3_mixed 6 = .ok (.ldc2_w 139, 3) := by decide +kernel
theorem dX3_mixed_9 : decode cX3_mixed 9 = .ok (.lload_n 3, 1) := by decide +kernel
theorem dX3_mixed_10 : decode cX3_mixed 10 = .ok (.lsub, 1) := by decide +kernel
theorem dX3_mixed_11 : decode cX3_mixed 11 = .ok (.iload_n 1, 1) := by decide +kernel
theorem dX3_mixed_12 : decode cX3_mixed 12 = .ok (.i2l, 1) := by decide +kernel
theorem dX3_mixed_13 : decode cX3_mixed 13 = .ok (.lmul, 1) := by decide +kernel
theorem dX3_mixed_14 : decode cX3_mixed 14 = .ok (.lload_n 3, 1) := by decide +kernel
theorem dX3_mixed_15 : decode cX3_mixed 15 = .ok (.iload_n 2, 1) := by decide +kernel
theorem dX3_mixed_16 : decode cX3_mixed 16 = .ok (.i2l, 1) := by decide +kernel
theorem dX3_mixed_17 : decode cX3_mixed 17 = .ok (.lmul, 1) := by decide +kernel
theorem dX3_mixed_18 : decode cX3_mixed 18 = .ok (.ladd, 1) := by decide +kernel
theorem dX3_mixed_19 : decode cX3_mixed 19 = .ok (.ldc2_w 139, 3) := by decide +kernel
theorem dX3_mixed_22 : decode cX3_mixed 22 = .ok (.ldiv, 1) := by decide +kernel
theorem dX3_mixed_23 : decode cX3_mixed 23 = .ok (.lreturn, 1) := by decide +kernel
theorem dX3_stepBy_0 : decode cX3_stepBy 0 = .ok (.lload_n 2, 1) := by decide +kernel
theorem dX3_stepBy_1 : decode cX3_stepBy 1 = .ok (.lconst 0, 1) := by decide +kernel
theorem dX3_stepBy_2 : decode cX3_stepBy 2 = .ok (.lcmp, 1) := by decide +kernel
theorem dX3_stepBy_3 : decode cX3_stepBy 3 = .ok (.ifCond .gt 7, 3) := by decide +kernel
theorem dX3_stepBy_6 : decode cX3_stepBy 6 = .ok (.lconst 0, 1) := by decide +kernel
theorem dX3_stepBy_7 : decode cX3_stepBy 7 = .ok (.goto 14, 3) := by decide +kernel
theorem dX3_stepBy_10 : decode cX3_stepBy 10 = .ok (.ldc2_w 139, 3) := by decide +kernel
theorem dX3_stepBy_13 : decode cX3_stepBy 13 = .ok (.lload_n 0, 1) := by decide +kernel
theorem dX3_stepBy_14 : decode cX3_stepBy 14 = .ok (.lmul, 1) := by decide +kernel
theorem dX3_stepBy_15 : decode cX3_stepBy 15 = .ok (.ldc2_w 287, 3) := by decide +kernel
theorem dX3_stepBy_18 : decode cX3_stepBy 18 = .ok (.lload_n 2, 1) := by decide +kernel
theorem dX3_stepBy_19 : decode cX3_stepBy 19 = .ok (.lmul, 1) := by decide +kernel
theorem dX3_stepBy_20 : decode cX3_stepBy 20 = .ok (.ldiv, 1) := by decide +kernel
theorem dX3_stepBy_21 : decode cX3_stepBy 21 = .ok (.lreturn, 1) := by decide +kernel
theorem dX3_fireEvents_0 : decode cX3_fireEvents 0 = .ok (.aload_n 0, 1) := by decide +kernel
theorem dX3_fireEvents_1 : decode cX3_fireEvents 1 = .ok (.getfield 71, 3) := by decide +kernel
theorem dX3_fireEvents_4 : decode cX3_fireEvents 4 = .ok (.ifnonnull 14, 3) := by decide +kernel
theorem dX3_fireEvents_7 : decode cX3_fireEvents 7 = .ok (.aload_n 0, 1) := by decide +kernel
theorem dX3_fireEvents_8 : decode cX3_fireEvents 8 = .ok (.aload_n 0, 1) := by decide +kernel
theorem dX3_fireEvents_9 : decode cX3_fireEvents 9 = .ok (.getfield 54, 3) := by decide +kernel
theorem dX3_fireEvents_12 : decode cX3_fireEvents 12 = .ok (.ldc 111, 2) := by decide +kernel
theorem dX3_fireEvents_14 : decode cX3_fireEvents 14 = .ok (.invokevirtual 289, 3) := by decide +kernel
theorem dX3_fireEvents_17 : decode cX3_fireEvents 17 = .ok (.return_, 1) := by decide +kernel
theorem dX3_fireEvents_18 : decode cX3_fireEvents 18 = .ok (.aload_n 0, 1) := by decide +kernel
theorem dX3_fireEvents_19 : decode cX3_fireEvents 19 = .ok (.invokevirtual 284, 3) := by decide +kernel
theorem dX3_fireEvents_22 : decode cX3_fireEvents 22 = .ok (.istore_n 1, 1) := by decide +kernel
theorem dX3_fireEvents_23 : decode cX3_fireEvents 23 = .ok (.aload_n 0, 1) := by decide +kernel
theorem dX3_fireEvents_24 : decode cX3_fireEvents 24 = .ok (.getfield 79, 3) := by decide +kernel
theorem dX3_fireEvents_27 : decode cX3_fireEvents 27 = .ok (.ifCond .ne 15, 3) := by decide +kernel
theorem dX3_fireEvents_30 : decode cX3_fireEvents 30 = .ok (.aload_n 0, 1) := by decide +kernel
theorem dX3_fireEvents_31 : decode cX3_fireEvents 31 = .ok (.aload_n 0, 1) := by decide +kernel
theorem dX3_fireEvents_32 : decode cX3_fireEvents 32 = .ok (.getfield 54, 3) := by decide +kernel
theorem dX3_fireEvents_35 : decode cX3_fireEvents 35 = .ok (.ldc 111, 2) := by decide +kernel
theorem dX3_fireEvents_37 : decode cX3_fireEvents 37 = .ok (.iload_n 1, 1) := by decide +kernel
theorem dX3_fireEvents_38 : decode cX3_fireEvents 38 = .ok (.isub, 1) := by decide +kernel
theorem dX3_fireEvents_39 : decode cX3_fireEvents 39 = .ok (.invokevirtual 289, 3) := by decide +kernel
theorem dX3_fireEvents_42 : decode cX3_fireEvents 42 = .ok (.aload_n 0, 1) := by decide +kernel
theorem dX3_fireEvents_43 : decode cX3_fireEvents 43 = .ok (.aload_n 0, 1) := by decide +kernel
theorem dX3_fireEvents_44 : decode cX3_fireEvents 44 = .ok (.getfield 58, 3) := by decide +kernel
theorem dX3_fireEvents_47 : decode cX3_fireEvents 47 = .ok (.iload_n 1, 1) := by decide +kernel
theorem dX3_fireEvents_48 : decode cX3_fireEvents 48 = .ok (.invokevirtual 289, 3) := by decide +kernel
theorem dX3_fireEvents_51 : decode cX3_fireEvents 51 = .ok (.return_, 1) := by decide +kernel
theorem dX3_fireTrack_0 : decode cX3_fireTrack 0 = .ok (.aload_n 0, 1) := by decide +kernel
theorem dX3_fireTrack_1 : decode cX3_fireTrack 1 = .ok (.getfield 32, 3) := by decide +kernel
theorem dX3_fireTrack_4 : decode cX3_fireTrack 4 = .ok (.aload_n 1, 1) := by decide +kernel
theorem dX3_fireTrack_5 : decode cX3_fireTrack 5 = .ok (.getfield 187, 3) := by decide +kernel
theorem dX3_fireTrack_8 : decode cX3_fireTrack 8 = .ok (.getfield 105, 3) := by decide +kernel
theorem dX3_fireTrack_11 : decode cX3_fireTrack 11 = .ok (.iload_n 2, 1) := by decide +kernel
theorem dX3_fireTrack_12 : decode cX3_fireTrack 12 = .ok (.aload_n 0, 1) := by decide +kernel
theorem dX3_fireTrack_13 : decode cX3_fireTrack 13 = .ok (.getfield 9, 3) := by decide +kernel
theorem dX3_fireTrack_16 : decode cX3_fireTrack 16 = .ok (.invokevirtual 112, 3) := by decide +kernel
theorem dX3_fireTrack_19 : decode cX3_fireTrack 19 = .ok (.iconst 0, 1) := by decide +kernel
theorem dX3_fireTrack_20 : decode cX3_fireTrack 20 = .ok (.istore_n 3, 1) := by decide +kernel
theorem dX3_fireTrack_21 : decode cX3_fireTrack 21 = .ok (.iload_n 3, 1) := by decide +kernel
theorem dX3_fireTrack_22 : decode cX3_fireTrack 22 = .ok (.aload_n 0, 1) := by decide +kernel
theorem dX3_fireTrack_23 : decode cX3_fireTrack 23 = .ok (.getfield 39, 3) := by decide +kernel
theorem dX3_fireTrack_26 : decode cX3_fireTrack 26 = .ok (.getfield 116, 3) := by decide +kernel
theorem dX3_fireTrack_29 : decode cX3_fireTrack 29 = .ok (.invokevirtual 120, 3) := by decide +kernel
theorem dX3_fireTrack_32 : decode cX3_fireTrack 32 = .ok (.if_icmp .ge 68, 3) := by decide +kernel
theorem dX3_fireTrack_35 : decode cX3_fireTrack 35 = .ok (.aload_n 0, 1) := by decide +kernel
theorem dX3_fireTrack_36 : decode cX3_fireTrack 36 = .ok (.getfield 32, 3) := by decide +kernel
theorem dX3_fireTrack_39 : decode cX3_fireTrack 39 = .ok (.iload_n 3, 1) := by decide +kernel
theorem dX3_fireTrack_40 : decode cX3_fireTrack 40 = .ok (.invokevirtual 126, 3) := by decide +kernel
theorem dX3_fireTrack_43 : decode cX3_fireTrack 43 = .ok (.i2l, 1) := by decide +kernel
theorem dX3_fireTrack_44 : decode cX3_fireTrack 44 = .ok (.lstore 4, 2) := by decide +kernel
theorem dX3_fireTrack_46 : decode cX3_fireTrack 46 = .ok (.lload 4, 2) := by decide +kernel
theorem dX3_fireTrack_48 : decode cX3_fireTrack 48 = .ok (.lconst 0, 1) := by decide +kernel
theorem dX3_fireTrack_49 : decode cX3_fireTrack 49 = .ok (.lcmp, 1) := by decide +kernel
theorem dX3_fireTrack_50 : decode cX3_fireTrack 50 = .ok (.ifCond .eq 44, 3) := by decide +kernel
theorem dX3_fireTrack_53 : decode cX3_fireTrack 53 = .ok (.lload 4, 2) := by decide +kernel
theorem dX3_fireTrack_55 : decode cX3_fireTrack 55 = .ok (.ldc2_w 287, 3) := by decide +kernel
theorem dX3_fireTrack_58 : decode cX3_fireTrack 58 = .ok (.lmul, 1) := by decide +kernel
theorem dX3_fireTrack_59 : decode cX3_fireTrack 59 = .ok (.aload_n 0, 1) := by decide +kernel
theorem dX3_fireTrack_60 : decode cX3_fireTrack 60 = .ok (.getfield 39, 3) := by decide +kernel
theorem dX3_fireTrack_63 : decode cX3_fireTrack 63 = .ok (.getfield 293, 3) := by decide +kernel
theorem dX3_fireTrack_66 : decode cX3_fireTrack 66 = .ok (.i2l, 1) := by decide +kernel
theorem dX3_fireTrack_67 : decode cX3_fireTrack 67 = .ok (.ldc2_w 139, 3) := by decide +kernel
theorem dX3_fireTrack_70 : decode cX3_fireTrack 70 = .ok (.lmul, 1) := by decide +kernel
theorem dX3_fireTrack_71 : decode cX3_fireTrack 71 = .ok (.lcmp, 1) := by decide +kernel
theorem dX3_fireTrack_72 : decode cX3_fireTrack 72 = .ok (.ifCond .lt 22, 3) := by decide +kernel
theorem dX3_fireTrack_75 : decode cX3_fireTrack 75 = .ok (.aload_n 0, 1) := by decide +kernel
theorem dX3_fireTrack_76 : decode cX3_fireTrack 76 = .ok (.aload_n 1, 1) := by decide +kernel
theorem dX3_fireTrack_77 : decode cX3_fireTrack 77 = .ok (.aload_n 0, 1) := by decide +kernel
theorem dX3_fireTrack_78 : decode cX3_fireTrack 78 = .ok (.getfield 39, 3) := by decide +kernel
theorem dX3_fireTrack_81 : decode cX3_fireTrack 81 = .ok (.getfield 116, 3) := by decide +kernel
theorem dX3_fireTrack_84 : decode cX3_fireTrack 84 = .ok (.iload_n 3, 1) := by decide +kernel
theorem dX3_fireTrack_85 : decode cX3_fireTrack 85 = .ok (.invokevirtual 130, 3) := by decide +kernel
theorem dX3_fireTrack_88 : decode cX3_fireTrack 88 = .ok (.checkcast 134, 3) := by decide +kernel
theorem dX3_fireTrack_91 : decode cX3_fireTrack 91 = .ok (.invokevirtual 296, 3) := by decide +kernel
theorem dX3_fireTrack_94 : decode cX3_fireTrack 94 = .ok (.iinc 3 1, 3) := by decide +kernel
theorem dX3_fireTrack_97 : decode cX3_fireTrack 97 = .ok (.goto (-76), 3) := by decide +kernel
theorem dX3_fireTrack_100 : decode cX3_fireTrack 100 = .ok (.return_, 1) := by decide +kernel
theorem dX3_fireClip_0 : decode cX3_fireClip 0 = .ok (.aload_n 2, 1) := by decide +kernel
theorem dX3_fireClip_1 : decode cX3_fireClip 1 = .ok (.getfield 136, 3) := by decide +kernel
theorem dX3_fireClip_4 : decode cX3_fireClip 4 = .ok (.ifCond .gt 4, 3) := by decide +kernel
theorem dX3_fireClip_7 : decode cX3_fireClip 7 = .ok (.return_, 1) := by decide +kernel
theorem dX3_fireClip_8 : decode cX3_fireClip 8 = .ok (.iconst 0, 1) := by decide +kernel
theorem dX3_fireClip_9 : decode cX3_fireClip 9 = .ok (.istore_n 3, 1) := by decide +kernel
theorem dX3_fireClip_10 : decode cX3_fireClip 10 = .ok (.iload_n 3, 1) := by decide +kernel
theorem dX3_fireClip_11 : decode cX3_fireClip 11 = .ok (.aload_n 2, 1) := by decide +kernel
theorem dX3_fireClip_12 : decode cX3_fireClip 12 = .ok (.getfield 300, 3) := by decide +kernel
theorem dX3_fireClip_15 : decode cX3_fireClip 15 = .ok (.if_icmp .ge 70, 3) := by decide +kernel
theorem dX3_fireClip_18 : decode cX3_fireClip 18 = .ok (.iload_n 3, 1) := by decide +kernel
theorem dX3_fireClip_19 : decode cX3_fireClip 19 = .ok (.iconst 5, 1) := by decide +kernel
theorem dX3_fireClip_20 : decode cX3_fireClip 20 = .ok (.if_icmp .ge 65, 3) := by decide +kernel
theorem dX3_fireClip_23 : decode cX3_fireClip 23 = .ok (.aload_n 2, 1) := by decide +kernel
theorem dX3_fireClip_24 : decode cX3_fireClip 24 = .ok (.getfield 303, 3) := by decide +kernel
theorem dX3_fireClip_27 : decode cX3_fireClip 27 = .ok (.iload_n 3, 1) := by decide +kernel
theorem dX3_fireClip_28 : decode cX3_fireClip 28 = .ok (.iaload, 1) := by decide +kernel
theorem dX3_fireClip_29 : decode cX3_fireClip 29 = .ok (.i2l, 1) := by decide +kernel
theorem dX3_fireClip_30 : decode cX3_fireClip 30 = .ok (.ldc2_w 139, 3) := by decide +kernel
theorem dX3_fireClip_33 : decode cX3_fireClip 33 = .ok (.lmul, 1) := by decide +kernel
theorem dX3_fireClip_34 : decode cX3_fireClip 34 = .ok (.aload_n 2, 1) := by decide +kernel
theorem dX3_fireClip_35 : decode cX3_fireClip 35 = .ok (.getfield 136, 3) := by decide +kernel
theorem dX3_fireClip_38 : decode cX3_fireClip 38 = .ok (.i2l, 1) := by decide +kernel
theorem dX3_fireClip_39 : decode cX3_fireClip 39 = .ok (.ldiv, 1) := by decide +kernel
theorem dX3_fireClip_40 : decode cX3_fireClip 40 = .ok (.lstore 4, 2) := by decide +kernel
theorem dX3_fireClip_42 : decode cX3_fireClip 42 = .ok (.aload_n 1, 1) := by decide +kernel
theorem dX3_fireClip_43 : decode cX3_fireClip 43 = .ok (.lload 4, 2) := by decide +kernel
theorem dX3_fireClip_45 : decode cX3_fireClip 45 = .ok (.invokevirtual 306, 3) := by decide +kernel
theorem dX3_fireClip_48 : decode cX3_fireClip 48 = .ok (.ifCond .eq 31, 3) := by decide +kernel
theorem dX3_fireClip_51 : decode cX3_fireClip 51 = .ok (.aload_n 0, 1) := by decide +kernel
theorem dX3_fireClip_52 : decode cX3_fireClip 52 = .ok (.getfield 25, 3) := by decide +kernel
theorem dX3_fireClip_55 : decode cX3_fireClip 55 = .ok (.aload_n 0, 1) := by decide +kernel
theorem dX3_fireClip_56 : decode cX3_fireClip 56 = .ok (.getfield 89, 3) := by decide +kernel
theorem dX3_fireClip_59 : decode cX3_fireClip 59 = .ok (.aload_n 2, 1) := by decide +kernel
theorem dX3_fireClip_60 : decode cX3_fireClip 60 = .ok (.getfield 310, 3) := by decide +kernel
theorem dX3_fireClip_63 : decode cX3_fireClip 63 = .ok (.iload_n 3, 1) := by decide +kernel
theorem dX3_fireClip_64 : decode cX3_fireClip 64 = .ok (.iaload, 1) := by decide +kernel
theorem dX3_fireClip_65 : decode cX3_fireClip 65 = .ok (.aload_n 2, 1) := by decide +kernel
theorem dX3_fireClip_66 : decode cX3_fireClip 66 = .ok (.getfield 313, 3) := by decide +kernel
theorem dX3_fireClip_69 : decode cX3_fireClip 69 = .ok (.aload_n 1, 1) := by decide +kernel
theorem dX3_fireClip_70 : decode cX3_fireClip 70 = .ok (.getfield 187, 3) := by decide +kernel
theorem dX3_fireClip_73 : decode cX3_fireClip 73 = .ok (.getfield 314, 3) := by decide +kernel
theorem dX3_fireClip_76 : decode cX3_fireClip 76 = .ok (.invokevirtual 315, 3) := by decide +kernel
theorem dX3_fireClip_79 : decode cX3_fireClip 79 = .ok (.iinc 3 1, 3) := by decide +kernel
theorem dX3_fireClip_82 : decode cX3_fireClip 82 = .ok (.goto (-72), 3) := by decide +kernel
theorem dX3_fireClip_85 : decode cX3_fireClip 85 = .ok (.return_, 1) := by decide +kernel
theorem dX3_fillPose_0 : decode cX3_fillPose 0 = .ok (.aload_n 0, 1) := by decide +kernel
theorem dX3_fillPose_1 : decode cX3_fillPose 1 = .ok (.getfield 36, 3) := by decide +kernel
theorem dX3_fillPose_4 : decode cX3_fillPose 4 = .ok (.iconst 0, 1) := by decide +kernel
theorem dX3_fillPose_5 : decode cX3_fillPose 5 = .ok (.putfield 319, 3) := by decide +kernel
theorem dX3_fillPose_8 : decode cX3_fillPose 8 = .ok (.aload_n 0, 1) := by decide +kernel
theorem dX3_fillPose_9 : decode cX3_fillPose 9 = .ok (.getfield 71, 3) := by decide +kernel
theorem dX3_fillPose_12 : decode cX3_fillPose 12 = .ok (.ifnonnull 14, 3) := by decide +kernel
theorem dX3_fillPose_15 : decode cX3_fillPose 15 = .ok (.aload_n 0, 1) := by decide +kernel
theorem dX3_fillPose_16 : decode cX3_fillPose 16 = .ok (.aload_n 0, 1) := by decide +kernel
theorem dX3_fillPose_17 : decode cX3_fillPose 17 = .ok (.getfield 54, 3) := by decide +kernel
theorem dX3_fillPose_20 : decode cX3_fillPose 20 = .ok (.ldc 111, 2) := by decide +kernel
theorem dX3_fillPose_22 : decode cX3_fillPose 22 = .ok (.invokevirtual 321, 3) := by decide +kernel
theorem dX3_fillPose_25 : decode cX3_fillPose 25 = .ok (.return_, 1) := by decide +kernel
theorem dX3_fillPose_26 : decode cX3_fillPose 26 = .ok (.aload_n 0, 1) := by decide +kernel
theorem dX3_fillPose_27 : decode cX3_fillPose 27 = .ok (.invokevirtual 284, 3) := by decide +kernel
theorem dX3_fillPose_30 : decode cX3_fillPose 30 = .ok (.istore_n 1, 1) := by decide +kernel
theorem dX3_fillPose_31 : decode cX3_fillPose 31 = .ok (.aload_n 0, 1) := by decide +kernel
theorem dX3_fillPose_32 : decode cX3_fillPose 32 = .ok (.getfield 79, 3) := by decide +kernel
theorem dX3_fillPose_35 : decode cX3_fillPose 35 = .ok (.ifCond .eq 21, 3) := by decide +kernel
theorem dX3_fillPose_38 : decode cX3_fillPose 38 = .ok (.aload_n 0, 1) := by decide +kernel
theorem dX3_fillPose_39 : decode cX3_fillPose 39 = .ok (.getfield 36, 3) := by decide +kernel
theorem dX3_fillPose_42 : decode cX3_fillPose 42 = .ok (.aload_n 0, 1) := by decide +kernel
theorem dX3_fillPose_43 : decode cX3_fillPose 43 = .ok (.getfield 18, 3) := by decide +kernel
theorem dX3_fillPose_46 : decode cX3_fillPose 46 = .ok (.ldc 111, 2) := by decide +kernel
theorem dX3_fillPose_48 : decode cX3_fillPose 48 = .ok (.iload_n 1, 1) := by decide +kernel
theorem dX3_fillPose_49 : decode cX3_fillPose 49 = .ok (.isub, 1) := by decide +kernel
theorem dX3_fillPose_50 : decode cX3_fillPose 50 = .ok (.invokevirtual 324, 3) := by decide +kernel
theorem dX3_fillPose_53 : decode cX3_fillPose 53 = .ok (.goto 15, 3) := by decide +kernel
theorem dX3_fillPose_56 : decode cX3_fillPose 56 = .ok (.aload_n 0, 1) := by decide +kernel
theorem dX3_fillPose_57 : decode cX3_fillPose 57 = .ok (.aload_n 0, 1) := by decide +kernel
theorem dX3_fillPose_58 : decode cX3_fillPose 58 = .ok (.getfield 54, 3) := by decide +kernel
theorem dX3_fillPose_61 : decode cX3_fillPose 61 = .ok (.ldc 111, 2) := by decide +kernel
theorem dX3_fillPose_63 : decode cX3_fillPose 63 = .ok (.iload_n 1, 1) := by decide +kernel
theorem dX3_fillPose_64 : decode cX3_fillPose 64 = .ok (.isub, 1) := by decide +kernel
theorem dX3_fillPose_65 : decode cX3_fillPose 65 = .ok (.invokevirtual 321, 3) := by decide +kernel
theorem dX3_fillPose_68 : decode cX3_fillPose 68 = .ok (.aload_n 0, 1) := by decide +kernel
theorem dX3_fillPose_69 : decode cX3_fillPose 69 = .ok (.aload_n 0, 1) := by decide +kernel
theorem dX3_fillPose_70 : decode cX3_fillPose 70 = .ok (.getfield 58, 3) := by decide +kernel
theorem dX3_fillPose_73 : decode cX3_fillPose 73 = .ok (.iload_n 1, 1) := by decide +kernel
theorem dX3_fillPose_74 : decode cX3_fillPose 74 = .ok (.invokevirtual 321, 3) := by decide +kernel
theorem dX3_fillPose_77 : decode cX3_fillPose 77 = .ok (.return_, 1) := by decide +kernel
theorem dX3_addTrackPose_0 : decode cX3_addTrackPose 0 = .ok (.aload_n 0, 1) := by decide +kernel
theorem dX3_addTrackPose_1 : decode cX3_addTrackPose 1 = .ok (.getfield 32, 3) := by decide +kernel
theorem dX3_addTrackPose_4 : decode cX3_addTrackPose 4 = .ok (.aload_n 1, 1) := by decide +kernel
theorem dX3_addTrackPose_5 : decode cX3_addTrackPose 5 = .ok (.getfield 187, 3) := by decide +kernel
theorem dX3_addTrackPose_8 : decode cX3_addTrackPose 8 = .ok (.getfield 105, 3) := by decide +kernel
theorem dX3_addTrackPose_11 : decode cX3_addTrackPose 11 = .ok (.iload_n 2, 1) := by decide +kernel
theorem dX3_addTrackPose_12 : decode cX3_addTrackPose 12 = .ok (.aload_n 0, 1) := by decide +kernel
theorem dX3_addTrackPose_13 : decode cX3_addTrackPose 13 = .ok (.getfield 9, 3) := by decide +kernel
theorem dX3_addTrackPose_16 : decode cX3_addTrackPose 16 = .ok (.invokevirtual 112, 3) := by decide +kernel
theorem dX3_addTrackPose_19 : decode cX3_addTrackPose 19 = .ok (.iconst 0, 1) := by decide +kernel
theorem dX3_addTrackPose_20 : decode cX3_addTrackPose 20 = .ok (.istore_n 3, 1) := by decide +kernel
theorem dX3_addTrackPose_21 : decode cX3_addTrackPose 21 = .ok (.iload_n 3, 1) := by decide +kernel
theorem dX3_addTrackPose_22 : decode cX3_addTrackPose 22 = .ok (.aload_n 0, 1) := by decide +kernel
theorem dX3_addTrackPose_23 : decode cX3_addTrackPose 23 = .ok (.getfield 39, 3) := by decide +kernel
theorem dX3_addTrackPose_26 : decode cX3_addTrackPose 26 = .ok (.getfield 116, 3) := by decide +kernel
theorem dX3_addTrackPose_29 : decode cX3_addTrackPose 29 = .ok (.invokevirtual 120, 3) := by decide +kernel
theorem dX3_addTrackPose_32 : decode cX3_addTrackPose 32 = .ok (.if_icmp .ge 70, 3) := by decide +kernel
theorem dX3_addTrackPose_35 : decode cX3_addTrackPose 35 = .ok (.aload_n 0, 1) := by decide +kernel
theorem dX3_addTrackPose_36 : decode cX3_addTrackPose 36 = .ok (.getfield 39, 3) := by decide +kernel
theorem dX3_addTrackPose_39 : decode cX3_addTrackPose 39 = .ok (.getfield 116, 3) := by decide +kernel
theorem dX3_addTrackPose_42 : decode cX3_addTrackPose 42 = .ok (.iload_n 3, 1) := by decide +kernel
theorem dX3_addTrackPose_43 : decode cX3_addTrackPose 43 = .ok (.invokevirtual 130, 3) := by decide +kernel
theorem dX3_addTrackPose_46 : decode cX3_addTrackPose 46 = .ok (.checkcast 134, 3) := by decide +kernel
theorem dX3_addTrackPose_49 : decode cX3_addTrackPose 49 = .ok (.getfield 136, 3) := by decide +kernel
theorem dX3_addTrackPose_52 : decode cX3_addTrackPose 52 = .ok (.istore 4, 2) := by decide +kernel
theorem dX3_addTrackPose_54 : decode cX3_addTrackPose 54 = .ok (.aload_n 1, 1) := by decide +kernel
theorem dX3_addTrackPose_55 : decode cX3_addTrackPose 55 = .ok (.getfield 251, 3) := by decide +kernel
theorem dX3_addTrackPose_58 : decode cX3_addTrackPose 58 = .ok (.i2l, 1) := by decide +kernel
theorem dX3_addTrackPose_59 : decode cX3_addTrackPose 59 = .ok (.iload 4, 2) := by decide +kernel
theorem dX3_addTrackPose_61 : decode cX3_addTrackPose 61 = .ok (.i2l, 1) := by decide +kernel
theorem dX3_addTrackPose_62 : decode cX3_addTrackPose 62 = .ok (.lmul, 1) := by decide +kernel
theorem dX3_addTrackPose_63 : decode cX3_addTrackPose 63 = .ok (.ldc2_w 139, 3) := by decide +kernel
theorem dX3_addTrackPose_66 : decode cX3_addTrackPose 66 = .ok (.ldiv, 1) := by decide +kernel
theorem dX3_addTrackPose_67 : decode cX3_addTrackPose 67 = .ok (.iload 4, 2) := by decide +kernel
theorem dX3_addTrackPose_69 : decode cX3_addTrackPose 69 = .ok (.iconst 1, 1) := by decide +kernel
theorem dX3_addTrackPose_70 : decode cX3_addTrackPose 70 = .ok (.isub, 1) := by decide +kernel
theorem dX3_addTrackPose_71 : decode cX3_addTrackPose 71 = .ok (.i2l, 1) := by decide +kernel
theorem dX3_addTrackPose_72 : decode cX3_addTrackPose 72 = .ok (.invokestatic 328, 3) := by decide +kernel
theorem dX3_addTrackPose_75 : decode cX3_addTrackPose 75 = .ok (.l2i, 1) := by decide +kernel
theorem dX3_addTrackPose_76 : decode cX3_addTrackPose 76 = .ok (.istore 5, 2) := by decide +kernel
theorem dX3_addTrackPose_78 : decode cX3_addTrackPose 78 = .ok (.aload_n 0, 1) := by decide +kernel
theorem dX3_addTrackPose_79 : decode cX3_addTrackPose 79 = .ok (.getfield 36, 3) := by decide +kernel
theorem dX3_addTrackPose_82 : decode cX3_addTrackPose 82 = .ok (.iload_n 3, 1) := by decide +kernel
theorem dX3_addTrackPose_83 : decode cX3_addTrackPose 83 = .ok (.iload 5, 2) := by decide +kernel
theorem dX3_addTrackPose_85 : decode cX3_addTrackPose 85 = .ok (.aload_n 0, 1) := by decide +kernel
theorem dX3_addTrackPose_86 : decode cX3_addTrackPose 86 = .ok (.getfield 32, 3) := by decide +kernel
theorem dX3_addTrackPose_89 : decode cX3_addTrackPose 89 = .ok (.iload_n 3, 1) := by decide +kernel
theorem dX3_addTrackPose_90 : decode cX3_addTrackPose 90 = .ok (.invokevirtual 126, 3) := by decide +kernel
theorem dX3_addTrackPose_93 : decode cX3_addTrackPose 93 = .ok (.invokevirtual 330, 3) := by decide +kernel
theorem dX3_addTrackPose_96 : decode cX3_addTrackPose 96 = .ok (.iinc 3 1, 3) := by decide +kernel
theorem dX3_addTrackPose_99 : decode cX3_addTrackPose 99 = .ok (.goto (-78), 3) := by decide +kernel
theorem dX3_addTrackPose_102 : decode cX3_addTrackPose 102 = .ok (.return_, 1) := by decide +kernel
theorem dX4_init_0 : decode cX4_init 0 = .ok (.aload_n 0, 1) := by decide +kernel
theorem dX4_init_1 : decode cX4_init 1 = .ok (.invokespecial 3, 3) := by decide +kernel
theorem dX4_init_4 : decode cX4_init 4 = .ok (.aload_n 0, 1) := by decide +kernel
theorem dX4_init_5 : decode cX4_init 5 = .ok (.bipush 8, 2) := by decide +kernel
theorem dX4_init_7 : decode cX4_init 7 = .ok (.newarray .int, 2) := by decide +kernel
theorem dX4_init_9 : decode cX4_init 9 = .ok (.putfield 9, 3) := by decide +kernel
theorem dX4_init_12 : decode cX4_init 12 = .ok (.aload_n 0, 1) := by decide +kernel
theorem dX4_init_13 : decode cX4_init 13 = .ok (.new 15, 3) := by decide +kernel
theorem dX4_init_16 : decode cX4_init 16 = .ok (.dup, 1) := by decide +kernel
theorem dX4_init_17 : decode cX4_init 17 = .ok (.invokespecial 17, 3) := by decide +kernel
theorem dX4_init_20 : decode cX4_init 20 = .ok (.putfield 18, 3) := by decide +kernel
theorem dX4_init_23 : decode cX4_init 23 = .ok (.aload_n 0, 1) := by decide +kernel
theorem dX4_init_24 : decode cX4_init 24 = .ok (.new 15, 3) := by decide +kernel
theorem dX4_init_27 : decode cX4_init 27 = .ok (.dup, 1) := by decide +kernel
theorem dX4_init_28 : decode cX4_init 28 = .ok (.invokespecial 17, 3) := by decide +kernel
theorem dX4_init_31 : decode cX4_init 31 = .ok (.putfield 22, 3) := by decide +kernel
theorem dX4_init_34 : decode cX4_init 34 = .ok (.aload_n 0, 1) := by decide +kernel
theorem dX4_init_35 : decode cX4_init 35 = .ok (.new 15, 3) := by decide +kernel
theorem dX4_init_38 : decode cX4_init 38 = .ok (.dup, 1) := by decide +kernel
theorem dX4_init_39 : decode cX4_init 39 = .ok (.invokespecial 17, 3) := by decide +kernel
theorem dX4_init_42 : decode cX4_init 42 = .ok (.putfield 25, 3) := by decide +kernel
theorem dX4_init_45 : decode cX4_init 45 = .ok (.aload_n 0, 1) := by decide +kernel
theorem dX4_init_46 : decode cX4_init 46 = .ok (.new 15, 3) := by decide +kernel
theorem dX4_init_49 : decode cX4_init 49 = .ok (.dup, 1) := by decide +kernel
theorem dX4_init_50 : decode cX4_init 50 = .ok (.invokespecial 17, 3) := by decide +kernel
theorem dX4_init_53 : decode cX4_init 53 = .ok (.putfield 28, 3) := by decide +kernel
theorem dX4_init_56 : decode cX4_init 56 = .ok (.aload_n 0, 1) := by decide +kernel
theorem dX4_init_57 : decode cX4_init 57 = .ok (.iconst 1, 1) := by decide +kernel
theorem dX4_init_58 : decode cX4_init 58 = .ok (.putfield 31, 3) := by decide +kernel
theorem dX4_init_61 : decode cX4_init 61 = .ok (.aload_n 0, 1) := by decide +kernel
theorem dX4_init_62 : decode cX4_init 62 = .ok (.new 35, 3) := by decide +kernel
theorem dX4_init_65 : decode cX4_init 65 = .ok (.dup, 1) := by decide +kernel
theorem dX4_init_66 : decode cX4_init 66 = .ok (.iconst (-1), 1) := by decide +kernel
theorem dX4_init_67 : decode cX4_init 67 = .ok (.new 37, 3) := by decide +kernel
theorem dX4_init_70 : decode cX4_init 70 = .ok (.dup, 1) := by decide +kernel
theorem dX4_init_71 : decode cX4_init 71 = .ok (.new 39, 3) := by decide +kernel
theorem dX4_init_74 : decode cX4_init 74 = .ok (.dup, 1) := by decide +kernel
theorem dX4_init_75 : decode cX4_init 75 = .ok (.iconst (-1), 1) := by decide +kernel
theorem dX4_init_76 : decode cX4_init 76 = .ok (.iconst 1, 1) := by decide +kernel
theorem dX4_init_77 : decode cX4_init 77 = .ok (.invokespecial 41, 3) := by decide +kernel
theorem dX4_init_80 : decode cX4_init 80 = .ok (.iconst (-1), 1) := by decide +kernel
theorem dX4_init_81 : decode cX4_init 81 = .ok (.invokespecial 44, 3) := by decide +kernel
theorem dX4_init_84 : decode cX4_init 84 = .ok (.bipush 100, 2) := by decide +kernel
theorem dX4_init_86 : decode cX4_init 86 = .ok (.iconst 1, 1) := by decide +kernel
theorem dX4_init_87 : decode cX4_init 87 = .ok (.iconst 0, 1) := by decide +kernel
theorem dX4_init_88 : decode cX4_init 88 = .ok (.invokespecial 47, 3) := by decide +kernel
theorem dX4_init_91 : decode cX4_init 91 = .ok (.putfield 50, 3) := by decide +kernel
theorem dX4_init_94 : decode cX4_init 94 = .ok (.return_, 1) := by decide +kernel
theorem dX4_hasParameter_0 : decode cX4_hasParameter 0 = .ok (.iload_n 1, 1) := by decide +kernel
theorem dX4_hasParameter_1 : decode cX4_hasParameter 1 = .ok (.ifCond .lt 24, 3) := by decide +kernel
theorem dX4_hasParameter_4 : decode cX4_hasParameter 4 = .ok (.iload_n 1, 1) := by decide +kernel
theorem dX4_hasParameter_5 : decode cX4_hasParameter 5 = .ok (.aload_n 0, 1) := by decide +kernel
theorem dX4_hasParameter_6 : decode cX4_hasParameter 6 = .ok (.getfield 54, 3) := by decide +kernel
theorem dX4_hasParameter_9 : decode cX4_hasParameter 9 = .ok (.if_icmp .ge 16, 3) := by decide +kernel
theorem dX4_hasParameter_12 : decode cX4_hasParameter 12 = .ok (.iload_n 1, 1) := by decide +kernel
theorem dX4_hasParameter_13 : decode cX4_hasParameter 13 = .ok (.aload_n 0, 1) := by decide +kernel
theorem dX4_hasParameter_14 : decode cX4_hasParameter 14 = .ok (.getfield 9, 3) := by decide +kernel
theorem dX4_hasParameter_17 : decode cX4_hasParameter 17 = .ok (.arraylength, 1) := by decide +kernel
theorem dX4_hasParameter_18 : decode cX4_hasParameter 18 = .ok (.if_icmp .ge 7, 3) := by decide +kernel
theorem dX4_hasParameter_21 : decode cX4_hasParameter 21 = .ok (.iconst 1, 1) := by decide +kernel
theorem dX4_hasParameter_22 : decode cX4_hasParameter 22 = .ok (.goto 4, 3) := by decide +kernel
theorem dX4_hasParameter_25 : decode cX4_hasParameter 25 = .ok (.iconst 0, 1) := by decide +kernel
theorem dX4_hasParameter_26 : decode cX4_hasParameter 26 = .ok (.ireturn, 1) := by decide +kernel
theorem dX4_kindOf_0 : decode cX4_kindOf 0 = .ok (.iload_n 1, 1) := by decide +kernel
theorem dX4_kindOf_1 : decode cX4_kindOf 1 = .ok (.ifCond .lt 29, 3) := by decide +kernel
theorem dX4_kindOf_4 : decode cX4_kindOf 4 = .ok (.iload_n 1, 1) := by decide +kernel
theorem dX4_kindOf_5 : decode cX4_kindOf 5 = .ok (.aload_n 0, 1) := by decide +kernel
theorem dX4_kindOf_6 : decode cX4_kindOf 6 = .ok (.getfield 54, 3) := by decide +kernel
theorem dX4_kindOf_9 : decode cX4_kindOf 9 = .ok (.if_icmp .ge 21, 3) := by decide +kernel
theorem dX4_kindOf_12 : decode cX4_kindOf 12 = .ok (.iload_n 1, 1) := by decide +kernel
theorem dX4_kindOf_13 : decode cX4_kindOf 13 = .ok (.aload_n 0, 1) := by decide +kernel
theorem dX4_kindOf_14 : decode cX4_kindOf 14 = .ok (.getfield 9, 3) := by decide +kernel
theorem dX4_kindOf_17 : decode cX4_kindOf 17 = .ok (.arraylength, 1) := by decide +kernel
theorem dX4_kindOf_18 : decode cX4_kindOf 18 = .ok (.if_icmp .ge 12, 3) := by decide +kernel
theorem dX4_kindOf_21 : decode cX4_kindOf 21 = .ok (.aload_n 0, 1) := by decide +kernel
theorem dX4_kindOf_22 : decode cX4_kindOf 22 = .ok (.getfield 9, 3) := by decide +kernel
theorem dX4_kindOf_25 : decode cX4_kindOf 25 = .ok (.iload_n 1, 1) := by decide +kernel
theorem dX4_kindOf_26 : decode cX4_kindOf 26 = .ok (.iaload, 1) := by decide +kernel
theorem dX4_kindOf_27 : decode cX4_kindOf 27 = .ok (.goto 4, 3) := by decide +kernel
theorem dX4_kindOf_30 : decode cX4_kindOf 30 = .ok (.iconst (-1), 1) := by decide +kernel
theorem dX4_kindOf_31 : decode cX4_kindOf 31 = .ok (.ireturn, 1) := by decide +kernel
theorem dX4_isValue_0 : decode cX4_isValue 0 = .ok (.aload_n 0, 1) := by decide +kernel
theorem dX4_isValue_1 : decode cX4_isValue 1 = .ok (.iload_n 1, 1) := by decide +kernel
theorem dX4_isValue_2 : decode cX4_isValue 2 = .ok (.invokevirtual 57, 3) := by decide +kernel
theorem dX4_isValue_5 : decode cX4_isValue 5 = .ok (.ifCond .ne 21, 3) := by decide +kernel
theorem dX4_isValue_8 : decode cX4_isValue 8 = .ok (.iload_n 2, 1) := by decide +kernel
theorem dX4_isValue_9 : decode cX4_isValue 9 = .ok (.bipush (-100), 2) := by decide +kernel
theorem dX4_isValue_11 : decode cX4_isValue 11 = .ok (.if_icmp .lt 13, 3) := by decide +kernel
theorem dX4_isValue_14 : decode cX4_isValue 14 = .ok (.iload_n 2, 1) := by decide +kernel
theorem dX4_isValue_15 : decode cX4_isValue 15 = .ok (.bipush 100, 2) := by decide +kernel
theorem dX4_isValue_17 : decode cX4_isValue 17 = .ok (.if_icmp .gt 7, 3) := by decide +kernel
theorem dX4_isValue_20 : decode cX4_isValue 20 = .ok (.iconst 1, 1) := by decide +kernel
theorem dX4_isValue_21 : decode cX4_isValue 21 = .ok (.goto 4, 3) := by decide +kernel
theorem dX4_isValue_24 : decode cX4_isValue 24 = .ok (.iconst 0, 1) := by decide +kernel
theorem dX4_isValue_25 : decode cX4_isValue 25 = .ok (.ireturn, 1) := by decide +kernel
theorem dX4_isValue_26 : decode cX4_isValue 26 = .ok (.iload_n 2, 1) := by decide +kernel
theorem dX4_isValue_27 : decode cX4_isValue 27 = .ok (.ifCond .eq 8, 3) := by decide +kernel
theorem dX4_isValue_30 : decode cX4_isValue 30 = .ok (.iload_n 2, 1) := by decide +kernel
theorem dX4_isValue_31 : decode cX4_isValue 31 = .ok (.iconst 1, 1) := by decide +kernel
theorem dX4_isValue_32 : decode cX4_isValue 32 = .ok (.if_icmp .ne 7, 3) := by decide +kernel
theorem dX4_isValue_35 : decode cX4_isValue 35 = .ok (.iconst 1, 1) := by decide +kernel
theorem dX4_isValue_36 : decode cX4_isValue 36 = .ok (.goto 4, 3) := by decide +kernel
theorem dX4_isValue_39 : decode cX4_isValue 39 = .ok (.iconst 0, 1) := by decide +kernel
theorem dX4_isValue_40 : decode cX4_isValue 40 = .ok (.ireturn, 1) := by decide +kernel
theorem dX4_isCondition_0 : decode cX4_isCondition 0 = .ok (.aload_n 0, 1) := by decide +kernel
theorem dX4_isCondition_1 : decode cX4_isCondition 1 = .ok (.iload_n 1, 1) := by decide +kernel
theorem dX4_isCondition_2 : decode cX4_isCondition 2 = .ok (.invokevirtual 57, 3) := by decide +kernel
theorem dX4_isCondition_5 : decode cX4_isCondition 5 = .ok (.lookupswitch 71 #[(0, 27), (1, 51)], 27) := by decide +kernel
theorem dX4_isCondition_32 : decode cX4_isCondition 32 = .ok (.iload_n 2, 1) := by decide +kernel
theorem dX4_isCondition_33 : decode cX4_isCondition 33 = .ok (.ifCond .lt 21, 3) := by decide +kernel
theorem dX4_isCondition_36 : decode cX4_isCondition 36 = .ok (.iload_n 2, 1) := by decide +kernel
theorem dX4_isCondition_37 : decode cX4_isCondition 37 = .ok (.iconst 3, 1) := by decide +kernel
theorem dX4_isCondition_38 : decode cX4_isCondition 38 = .ok (.if_icmp .gt 16, 3) := by decide +kernel
theorem dX4_isCondition_41 : decode cX4_isCondition 41 = .ok (.aload_n 0, 1) := by decide +kernel
theorem dX4_isCondition_42 : decode cX4_isCondition 42 = .ok (.iload_n 1, 1) := by decide +kernel
theorem dX4_isCondition_43 : decode cX4_isCondition 43 = .ok (.iload_n 3, 1) := by decide +kernel
theorem dX4_isCondition_44 : decode cX4_isCondition 44 = .ok (.invokevirtual 61, 3) := by decide +kernel
theorem dX4_isCondition_47 : decode cX4_isCondition 47 = .ok (.ifCond .eq 7, 3) := by decide +kernel
theorem dX4_isCondition_50 : decode cX4_isCondition 50 = .ok (.iconst 1, 1) := by decide +kernel
theorem dX4_isCondition_51 : decode cX4_isCondition 51 = .ok (.goto 4, 3) := by decide +kernel
theorem dX4_isCondition_54 : decode cX4_isCondition 54 = .ok (.iconst 0, 1) := by decide +kernel
theorem dX4_isCondition_55 : decode cX4_isCondition 55 = .ok (.ireturn, 1) := by decide +kernel
theorem dX4_isCondition_56 : decode cX4_isCondition 56 = .ok (.iload_n 2, 1) := by decide +kernel
theorem dX4_isCondition_57 : decode cX4_isCondition 57 = .ok (.iconst 2, 1) := by decide +kernel
theorem dX4_isCondition_58 : decode cX4_isCondition 58 = .ok (.if_icmp .ne 16, 3) := by decide +kernel
theorem dX4_isCondition_61 : decode cX4_isCondition 61 = .ok (.aload_n 0, 1) := by decide +kernel
theorem dX4_isCondition_62 : decode cX4_isCondition 62 = .ok (.iload_n 1, 1) := by decide +kernel
theorem dX4_isCondition_63 : decode cX4_isCondition 63 = .ok (.iload_n 3, 1) := by decide +kernel
theorem dX4_isCondition_64 : decode cX4_isCondition 64 = .ok (.invokevirtual 61, 3) := by decide +kernel
theorem dX4_isCondition_67 : decode cX4_isCondition 67 = .ok (.ifCond .eq 7, 3) := by decide +kernel
theorem dX4_isCondition_70 : decode cX4_isCondition 70 = .ok (.iconst 1, 1) := by decide +kernel
theorem dX4_isCondition_71 : decode cX4_isCondition 71 = .ok (.goto 4, 3) := by decide +kernel
theorem dX4_isCondition_74 : decode cX4_isCondition 74 = .ok (.iconst 0, 1) := by decide +kernel
theorem dX4_isCondition_75 : decode cX4_isCondition 75 = .ok (.ireturn, 1) := by decide +kernel
theorem dX4_isCondition_76 : decode cX4_isCondition 76 = .ok (.iload_n 2, 1) := by decide +kernel
theorem dX4_isCondition_77 : decode cX4_isCondition 77 = .ok (.iconst 2, 1) := by decide +kernel
theorem dX4_isCondition_78 : decode cX4_isCondition 78 = .ok (.if_icmp .ne 12, 3) := by decide +kernel
theorem dX4_isCondition_81 : decode cX4_isCondition 81 = .ok (.iload_n 3, 1) := by decide +kernel
theorem dX4_isCondition_82 : decode cX4_isCondition 82 = .ok (.iconst 1, 1) := by decide +kernel
theorem dX4_isCondition_83 : decode cX4_isCondition 83 = .ok (.if_icmp .ne 7, 3) := by decide +kernel
theorem dX4_isCondition_86 : decode cX4_isCondition 86 = .ok (.iconst 1, 1) := by decide +kernel
theorem dX4_isCondition_87 : decode cX4_isCondition 87 = .ok (.goto 4, 3) := by decide +kernel
theorem dX4_isCondition_90 : decode cX4_isCondition 90 = .ok (.iconst 0, 1) := by decide +kernel
theorem dX4_isCondition_91 : decode cX4_isCondition 91 = .ok (.ireturn, 1) := by decide +kernel
theorem dX4_greatestDepthWith_0 : decode cX4_greatestDepthWith 0 = .ok (.iconst 0, 1) := by decide +kernel
theorem dX4_greatestDepthWith_1 : decode cX4_greatestDepthWith 1 = .ok (.istore_n 3, 1) := by decide +kernel
theorem dX4_greatestDepthWith_2 : decode cX4_greatestDepthWith 2 = .ok (.iconst 0, 1) := by decide +kernel
theorem dX4_greatestDepthWith_3 : decode cX4_greatestDepthWith 3 = .ok (.istore 4, 2) := by decide +kernel
theorem dX4_greatestDepthWith_5 : decode cX4_greatestDepthWith 5 = .ok (.iload 4, 2) := by decide +kernel
theorem dX4_greatestDepthWith_7 : decode cX4_greatestDepthWith 7 = .ok (.aload_n 0, 1) := by decide +kernel
theorem dX4_greatestDepthWith_8 : decode cX4_greatestDepthWith 8 = .ok (.getfield 22, 3) := by decide +kernel
theorem dX4_greatestDepthWith_11 : decode cX4_greatestDepthWith 11 = .ok (.invokevirtual 65, 3) := by decide +kernel
theorem dX4_greatestDepthWith_14 : decode cX4_greatestDepthWith 14 = .ok (.if_icmp .ge 68, 3) := by decide +kernel
theorem dX4_greatestDepthWith_17 : decode cX4_greatestDepthWith 17 = .ok (.aload_n 0, 1) := by decide +kernel
theorem dX4_greatestDepthWith_18 : decode cX4_greatestDepthWith 18 = .ok (.getfield 22, 3) := by decide +kernel
theorem dX4_greatestDepthWith_21 : decode cX4_greatestDepthWith 21 = .ok (.iload 4, 2) := by decide +kernel
theorem dX4_greatestDepthWith_23 : decode cX4_greatestDepthWith 23 = .ok (.invokevirtual 69, 3) := by decide +kernel
theorem dX4_greatestDepthWith_26 : decode cX4_greatestDepthWith 26 = .ok (.checkcast 37, 3) := by decide +kernel
theorem dX4_greatestDepthWith_29 : decode cX4_greatestDepthWith 29 = .ok (.astore 5, 2) := by decide +kernel
theorem dX4_greatestDepthWith_31 : decode cX4_greatestDepthWith 31 = .ok (.aload 5, 2) := by decide +kernel
theorem dX4_greatestDepthWith_33 : decode cX4_greatestDepthWith 33 = .ok (.aload 5, 2) := by decide +kernel
theorem dX4_greatestDepthWith_35 : decode cX4_greatestDepthWith 35 = .ok (.invokevirtual 73, 3) := by decide +kernel
theorem dX4_greatestDepthWith_38 : decode cX4_greatestDepthWith 38 = .ok (.putfield 76, 3) := by decide +kernel
theorem dX4_greatestDepthWith_41 : decode cX4_greatestDepthWith 41 = .ok (.aload 5, 2) := by decide +kernel
theorem dX4_greatestDepthWith_43 : decode cX4_greatestDepthWith 43 = .ok (.aload_n 1, 1) := by decide +kernel
theorem dX4_greatestDepthWith_44 : decode cX4_greatestDepthWith 44 = .ok (.if_acmp .ne 22, 3) := by decide +kernel
theorem dX4_greatestDepthWith_47 : decode cX4_greatestDepthWith 47 = .ok (.aload 5, 2) := by decide +kernel
theorem dX4_greatestDepthWith_49 : decode cX4_greatestDepthWith 49 = .ok (.aload 5, 2) := by decide +kernel
theorem dX4_greatestDepthWith_51 : decode cX4_greatestDepthWith 51 = .ok (.getfield 76, 3) := by decide +kernel
theorem dX4_greatestDepthWith_54 : decode cX4_greatestDepthWith 54 = .ok (.aload_n 2, 1) := by decide +kernel
theorem dX4_greatestDepthWith_55 : decode cX4_greatestDepthWith 55 = .ok (.getfield 76, 3) := by decide +kernel
theorem dX4_greatestDepthWith_58 : decode cX4_greatestDepthWith 58 = .ok (.iconst 1, 1) := by decide +kernel
theorem dX4_greatestDepthWith_59 : decode cX4_greatestDepthWith 59 = .ok (.iadd, 1) := by decide +kernel
theorem dX4_greatestDepthWith_60 : decode cX4_greatestDepthWith 60 = .ok (.invokestatic 79, 3) := by decide +kernel
theorem dX4_greatestDepthWith_63 : decode cX4_greatestDepthWith 63 = .ok (.putfield 76, 3) := by decide +kernel
theorem dX4_greatestDepthWith_66 : decode cX4_greatestDepthWith 66 = .ok (.iload_n 3, 1) := by decide +kernel
theorem dX4_greatestDepthWith_67 : decode cX4_greatestDepthWith 67 = .ok (.aload 5, 2) := by decide +kernel
theorem dX4_greatestDepthWith_69 : decode cX4_greatestDepthWith 69 = .ok (.getfield 76, 3) := by decide +kernel
theorem dX4_greatestDepthWith_72 : decode cX4_greatestDepthWith 72 = .ok (.invokestatic 79, 3) := by decide +kernel
theorem dX4_greatestDepthWith_75 : decode cX4_greatestDepthWith 75 = .ok (.istore_n 3, 1) := by decide +kernel
theorem dX4_greatestDepthWith_76 : decode cX4_greatestDepthWith 76 = .ok (.iinc 4 1, 3) := by decide +kernel
theorem dX4_greatestDepthWith_79 : decode cX4_greatestDepthWith 79 = .ok (.goto (-74), 3) := by decide +kernel
theorem dX4_greatestDepthWith_82 : decode cX4_greatestDepthWith 82 = .ok (.iload_n 3, 1) := by decide +kernel
theorem dX4_greatestDepthWith_83 : decode cX4_greatestDepthWith 83 = .ok (.ireturn, 1) := by decide +kernel
theorem dX5_init_0 : decode cX5_init 0 = .ok (.aload_n 0, 1) := by decide +kernel
theorem dX5_init_1 : decode cX5_init 1 = .ok (.invokespecial 3, 3) := by decide +kernel
theorem dX5_init_4 : decode cX5_init 4 = .ok (.aload_n 0, 1) := by decide +kernel
theorem dX5_init_5 : decode cX5_init 5 = .ok (.new 9, 3) := by decide +kernel
theorem dX5_init_8 : decode cX5_init 8 = .ok (.dup, 1) := by decide +kernel
theorem dX5_init_9 : decode cX5_init 9 = .ok (.invokespecial 11, 3) := by decide +kernel
theorem dX5_init_12 : decode cX5_init 12 = .ok (.putfield 12, 3) := by decide +kernel
theorem dX5_init_15 : decode cX5_init 15 = .ok (.aload_n 0, 1) := by decide +kernel
theorem dX5_init_16 : decode cX5_init 16 = .ok (.iconst 5, 1) := by decide +kernel
theorem dX5_init_17 : decode cX5_init 17 = .ok (.newarray .int, 2) := by decide +kernel
theorem dX5_init_19 : decode cX5_init 19 = .ok (.putfield 18, 3) := by decide +kernel
theorem dX5_init_22 : decode cX5_init 22 = .ok (.aload_n 0, 1) := by decide +kernel
theorem dX5_init_23 : decode cX5_init 23 = .ok (.iconst 1, 1) := by decide +kernel
theorem dX5_init_24 : decode cX5_init 24 = .ok (.putfield 22, 3) := by decide +kernel
theorem dX5_init_27 : decode cX5_init 27 = .ok (.aload_n 0, 1) := by decide +kernel
theorem dX5_init_28 : decode cX5_init 28 = .ok (.aload_n 1, 1) := by decide +kernel
theorem dX5_init_29 : decode cX5_init 29 = .ok (.putfield 26, 3) := by decide +kernel
theorem dX5_init_32 : decode cX5_init 32 = .ok (.aload_n 0, 1) := by decide +kernel
theorem dX5_init_33 : decode cX5_init 33 = .ok (.iload_n 2, 1) := by decide +kernel
theorem dX5_init_34 : decode cX5_init 34 = .ok (.putfield 30, 3) := by decide +kernel
theorem dX5_init_37 : decode cX5_init 37 = .ok (.return_, 1) := by decide +kernel
theorem dX5_isLine_0 : decode cX5_isLine 0 = .ok (.aload_n 0, 1) := by decide +kernel
theorem dX5_isLine_1 : decode cX5_isLine 1 = .ok (.getfield 26, 3) := by decide +kernel
theorem dX5_isLine_4 : decode cX5_isLine 4 = .ok (.ifnonnull 7, 3) := by decide +kernel
theorem dX5_isLine_7 : decode cX5_isLine 7 = .ok (.iconst 1, 1) := by decide +kernel
theorem dX5_isLine_8 : decode cX5_isLine 8 = .ok (.goto 4, 3) := by decide +kernel
theorem dX5_isLine_11 : decode cX5_isLine 11 = .ok (.iconst 0, 1) := by decide +kernel
theorem dX5_isLine_12 : decode cX5_isLine 12 = .ok (.ireturn, 1) := by decide +kernel
theorem dX5_isComplete_0 : decode cX5_isComplete 0 = .ok (.aload_n 0, 1) := by decide +kernel
theorem dX5_isComplete_1 : decode cX5_isComplete 1 = .ok (.getfield 26, 3) := by decide +kernel
theorem dX5_isComplete_4 : decode cX5_isComplete 4 = .ok (.ifnonnull 13, 3) := by decide +kernel
theorem dX5_isComplete_7 : decode cX5_isComplete 7 = .ok (.aload_n 0, 1) := by decide +kernel
theorem dX5_isComplete_8 : decode cX5_isComplete 8 = .ok (.getfield 12, 3) := by decide +kernel
theorem dX5_isComplete_11 : decode cX5_isComplete 11 = .ok (.invokevirtual 33, 3) := by decide +kernel
theorem dX5_isComplete_14 : decode cX5_isComplete 14 = .ok (.ifCond .ne 7, 3) := by decide +kernel
theorem dX5_isComplete_17 : decode cX5_isComplete 17 = .ok (.iconst 1, 1) := by decide +kernel
theorem dX5_isComplete_18 : decode cX5_isComplete 18 = .ok (.goto 4, 3) := by decide +kernel
theorem dX5_isComplete_21 : decode cX5_isComplete 21 = .ok (.iconst 0, 1) := by decide +kernel
theorem dX5_isComplete_22 : decode cX5_isComplete 22 = .ok (.ireturn, 1) := by decide +kernel
theorem dX5_positionOf_0 : decode cX5_positionOf 0 = .ok (.iload_n 1, 1) := by decide +kernel
theorem dX5_positionOf_1 : decode cX5_positionOf 1 = .ok (.ifCond .lt 21, 3) := by decide +kernel
theorem dX5_positionOf_4 : decode cX5_positionOf 4 = .ok (.iload_n 1, 1) := by decide +kernel
theorem dX5_positionOf_5 : decode cX5_positionOf 5 = .ok (.aload_n 0, 1) := by decide +kernel
theorem dX5_positionOf_6 : decode cX5_positionOf 6 = .ok (.getfield 18, 3) := by decide +kernel
theorem dX5_positionOf_9 : decode cX5_positionOf 9 = .ok (.arraylength, 1) := by decide +kernel
theorem dX5_positionOf_10 : decode cX5_positionOf 10 = .ok (.if_icmp .ge 12, 3) := by decide +kernel
theorem dX5_positionOf_13 : decode cX5_positionOf 13 = .ok (.aload_n 0, 1) := by decide +kernel
theorem dX5_positionOf_14 : decode cX5_positionOf 14 = .ok (.getfield 18, 3) := by decide +kernel
theorem dX5_positionOf_17 : decode cX5_positionOf 17 = .ok (.iload_n 1, 1) := by decide +kernel
theorem dX5_positionOf_18 : decode cX5_positionOf 18 = .ok (.iaload, 1) := by decide +kernel
theorem dX5_positionOf_19 : decode cX5_positionOf 19 = .ok (.goto 4, 3) := by decide +kernel
theorem dX5_positionOf_22 : decode cX5_positionOf 22 = .ok (.iconst 0, 1) := by decide +kernel
theorem dX5_positionOf_23 : decode cX5_positionOf 23 = .ok (.ireturn, 1) := by decide +kernel
theorem dX5_hasPosition_0 : decode cX5_hasPosition 0 = .ok (.iconst 0, 1) := by decide +kernel
theorem dX5_hasPosition_1 : decode cX5_hasPosition 1 = .ok (.istore_n 2, 1) := by decide +kernel
theorem dX5_hasPosition_2 : decode cX5_hasPosition 2 = .ok (.iload_n 2, 1) := by decide +kernel
theorem dX5_hasPosition_3 : decode cX5_hasPosition 3 = .ok (.aload_n 0, 1) := by decide +kernel
theorem dX5_hasPosition_4 : decode cX5_hasPosition 4 = .ok (.getfield 12, 3) := by decide +kernel
theorem dX5_hasPosition_7 : decode cX5_hasPosition 7 = .ok (.invokevirtual 37, 3) := by decide +kernel
theorem dX5_hasPosition_10 : decode cX5_hasPosition 10 = .ok (.if_icmp .ge 20, 3) := by decide +kernel
theorem dX5_hasPosition_13 : decode cX5_hasPosition 13 = .ok (.aload_n 0, 1) := by decide +kernel
theorem dX5_hasPosition_14 : decode cX5_hasPosition 14 = .ok (.iload_n 2, 1) := by decide +kernel
theorem dX5_hasPosition_15 : decode cX5_hasPosition 15 = .ok (.invokevirtual 41, 3) := by decide +kernel
theorem dX5_hasPosition_18 : decode cX5_hasPosition 18 = .ok (.iload_n 1, 1) := by decide +kernel
theorem dX5_hasPosition_19 : decode cX5_hasPosition 19 = .ok (.if_icmp .ne 5, 3) := by decide +kernel
theorem dX5_hasPosition_22 : decode cX5_hasPosition 22 = .ok (.iconst 1, 1) := by decide +kernel
theorem dX5_hasPosition_23 : decode cX5_hasPosition 23 = .ok (.ireturn, 1) := by decide +kernel
theorem dX5_hasPosition_24 : decode cX5_hasPosition 24 = .ok (.iinc 2 1, 3) := by decide +kernel
theorem dX5_hasPosition_27 : decode cX5_hasPosition 27 = .ok (.goto (-25), 3) := by decide +kernel
theorem dX5_hasPosition_30 : decode cX5_hasPosition 30 = .ok (.iconst 0, 1) := by decide +kernel
theorem dX5_hasPosition_31 : decode cX5_hasPosition 31 = .ok (.ireturn, 1) := by decide +kernel
theorem dX5_insertChild_0 : decode cX5_insertChild 0 = .ok (.aload_n 0, 1) := by decide +kernel
theorem dX5_insertChild_1 : decode cX5_insertChild 1 = .ok (.getfield 12, 3) := by decide +kernel
theorem dX5_insertChild_4 : decode cX5_insertChild 4 = .ok (.invokevirtual 37, 3) := by decide +kernel
theorem dX5_insertChild_7 : decode cX5_insertChild 7 = .ok (.istore_n 3, 1) := by decide +kernel
theorem dX5_insertChild_8 : decode cX5_insertChild 8 = .ok (.iload_n 3, 1) := by decide +kernel
theorem dX5_insertChild_9 : decode cX5_insertChild 9 = .ok (.iconst 5, 1) := by decide +kernel
theorem dX5_insertChild_10 : decode cX5_insertChild 10 = .ok (.if_icmp .lt 4, 3) := by decide +kernel
theorem dX5_insertChild_13 : decode cX5_insertChild 13 = .ok (.return_, 1) := by decide +kernel
theorem dX5_insertChild_14 : decode cX5_insertChild 14 = .ok (.iload_n 3, 1) := by decide +kernel
theorem dX5_insertChild_15 : decode cX5_insertChild 15 = .ok (.ifCond .le 35, 3) := by decide +kernel
theorem dX5_insertChild_18 : decode cX5_insertChild 18 = .ok (.aload_n 0, 1) := by decide +kernel
theorem dX5_insertChild_19 : decode cX5_insertChild 19 = .ok (.getfield 18, 3) := by decide +kernel
theorem dX5_insertChild_22 : decode cX5_insertChild 22 = .ok (.iload_n 3, 1) := by decide +kernel
theorem dX5_insertChild_23 : decode cX5_insertChild 23 = .ok (.iconst 1, 1) := by decide +kernel
theorem dX5_insertChild_24 : decode cX5_insertChild 24 = .ok (.isub, 1) := by decide +kernel
theorem dX5_insertChild_25 : decode cX5_insertChild 25 = .ok (.iaload, 1) := by decide +kernel
theorem dX5_insertChild_26 : decode cX5_insertChild 26 = .ok (.iload_n 2, 1) := by decide +kernel
theorem dX5_insertChild_27 : decode cX5_insertChild 27 = .ok (.if_icmp .le 23, 3) := by decide +kernel
theorem dX5_insertChild_30 : decode cX5_insertChild 30 = .ok (.aload_n 0, 1) := by decide +kernel
theorem dX5_insertChild_31 : decode cX5_insertChild 31 = .ok (.getfield 18, 3) := by decide +kernel
theorem dX5_insertChild_34 : decode cX5_insertChild 34 = .ok (.iload_n 3, 1) := by decide +kernel
theorem dX5_insertChild_35 : decode cX5_insertChild 35 = .ok (.aload_n 0, 1) := by decide +kernel
theorem dX5_insertChild_36 : decode cX5_insertChild 36 = .ok (.getfield 18, 3) := by decide +kernel
theorem dX5_insertChild_39 : decode cX5_insertChild 39 = .ok (.iload_n 3, 1) := by decide +kernel
theorem dX5_insertChild_40 : decode cX5_insertChild 40 = .ok (.iconst 1, 1) := by decide +kernel
theorem dX5_insertChild_41 : decode cX5_insertChild 41 = .ok (.isub, 1) := by decide +kernel
theorem dX5_insertChild_42 : decode cX5_insertChild 42 = .ok (.iaload, 1) := by decide +kernel
theorem dX5_insertChild_43 : decode cX5_insertChild 43 = .ok (.iastore, 1) := by decide +kernel
theorem dX5_insertChild_44 : decode cX5_insertChild 44 = .ok (.iinc 3 (-1), 3) := by decide +kernel
theorem dX5_insertChild_47 : decode cX5_insertChild 47 = .ok (.goto (-33), 3) := by decide +kernel
theorem dX5_insertChild_50 : decode cX5_insertChild 50 = .ok (.aload_n 0, 1) := by decide +kernel
theorem dX5_insertChild_51 : decode cX5_insertChild 51 = .ok (.getfield 18, 3) := by decide +kernel
theorem dX5_insertChild_54 : decode cX5_insertChild 54 = .ok (.iload_n 3, 1) := by decide +kernel
theorem dX5_insertChild_55 : decode cX5_insertChild 55 = .ok (.iload_n 2, 1) := by decide +kernel
theorem dX5_insertChild_56 : decode cX5_insertChild 56 = .ok (.iastore, 1) := by decide +kernel
theorem dX5_insertChild_57 : decode cX5_insertChild 57 = .ok (.aload_n 0, 1) := by decide +kernel
theorem dX5_insertChild_58 : decode cX5_insertChild 58 = .ok (.getfield 12, 3) := by decide +kernel
theorem dX5_insertChild_61 : decode cX5_insertChild 61 = .ok (.iload_n 3, 1) := by decide +kernel
theorem dX5_insertChild_62 : decode cX5_insertChild 62 = .ok (.aload_n 1, 1) := by decide +kernel
theorem dX5_insertChild_63 : decode cX5_insertChild 63 = .ok (.invokevirtual 45, 3) := by decide +kernel
theorem dX5_insertChild_66 : decode cX5_insertChild 66 = .ok (.return_, 1) := by decide +kernel
theorem dX5_depthByChildren_0 : decode cX5_depthByChildren 0 = .ok (.iconst 0, 1) := by decide +kernel
theorem dX5_depthByChildren_1 : decode cX5_depthByChildren 1 = .ok (.istore_n 1, 1) := by decide +kernel
theorem dX5_depthByChildren_2 : decode cX5_depthByChildren 2 = .ok (.iconst 0, 1) := by decide +kernel
theorem dX5_depthByChildren_3 : decode cX5_depthByChildren 3 = .ok (.istore_n 2, 1) := by decide +kernel
theorem dX5_depthByChildren_4 : decode cX5_depthByChildren 4 = .ok (.iload_n 2, 1) := by decide +kernel
theorem dX5_depthByChildren_5 : decode cX5_depthByChildren 5 = .ok (.aload_n 0, 1) := by decide +kernel
theorem dX5_depthByChildren_6 : decode cX5_depthByChildren 6 = .ok (.getfield 12, 3) := by decide +kernel
theorem dX5_depthByChildren_9 : decode cX5_depthByChildren 9 = .ok (.invokevirtual 37, 3) := by decide +kernel
theorem dX5_depthByChildren_12 : decode cX5_depthByChildren 12 = .ok (.if_icmp .ge 28, 3) := by decide +kernel
theorem dX5_depthByChildren_15 : decode cX5_depthByChildren 15 = .ok (.iload_n 1, 1) := by decide +kernel
theorem dX5_depthByChildren_16 : decode cX5_depthByChildren 16 = .ok (.aload_n 0, 1) := by decide +kernel
theorem dX5_depthByChildren_17 : decode cX5_depthByChildren 17 = .ok (.getfield 12, 3) := by decide +kernel
theorem dX5_depthByChildren_20 : decode cX5_depthByChildren 20 = .ok (.iload_n 2, 1) := by decide +kernel
theorem dX5_depthByChildren_21 : decode cX5_depthByChildren 21 = .ok (.invokevirtual 49, 3) := by decide +kernel
theorem dX5_depthByChildren_24 : decode cX5_depthByChildren 24 = .ok (.checkcast 13, 3) := by decide +kernel
theorem dX5_depthByChildren_27 : decode cX5_depthByChildren 27 = .ok (.getfield 22, 3) := by decide +kernel
theorem dX5_depthByChildren_30 : decode cX5_depthByChildren 30 = .ok (.invokestatic 53, 3) := by decide +kernel
theorem dX5_depthByChildren_33 : decode cX5_depthByChildren 33 = .ok (.istore_n 1, 1) := by decide +kernel
theorem dX5_depthByChildren_34 : decode cX5_depthByChildren 34 = .ok (.iinc 2 1, 3) := by decide +kernel
theorem dX5_depthByChildren_37 : decode cX5_depthByChildren 37 = .ok (.goto (-33), 3) := by decide +kernel
theorem dX5_depthByChildren_40 : decode cX5_depthByChildren 40 = .ok (.iload_n 1, 1) := by decide +kernel
theorem dX5_depthByChildren_41 : decode cX5_depthByChildren 41 = .ok (.iconst 1, 1) := by decide +kernel
theorem dX5_depthByChildren_42 : decode cX5_depthByChildren 42 = .ok (.iadd, 1) := by decide +kernel
theorem dX5_depthByChildren_43 : decode cX5_depthByChildren 43 = .ok (.ireturn, 1) := by decide +kernel
theorem dX6_init_0 : decode cX6_init 0 = .ok (.aload_n 0, 1) := by decide +kernel
theorem dX6_init_1 : decode cX6_init 1 = .ok (.invokespecial 3, 3) := by decide +kernel
theorem dX6_init_4 : decode cX6_init 4 = .ok (.aload_n 0, 1) := by decide +kernel
theorem dX6_init_5 : decode cX6_init 5 = .ok (.bipush 32, 2) := by decide +kernel
theorem dX6_init_7 : decode cX6_init 7 = .ok (.newarray .int, 2) := by decide +kernel
theorem dX6_init_9 : decode cX6_init 9 = .ok (.putfield 9, 3) := by decide +kernel
theorem dX6_init_12 : decode cX6_init 12 = .ok (.aload_n 0, 1) := by decide +kernel
theorem dX6_init_13 : decode cX6_init 13 = .ok (.bipush 32, 2) := by decide +kernel
theorem dX6_init_15 : decode cX6_init 15 = .ok (.newarray .int, 2) := by decide +kernel
theorem dX6_init_17 : decode cX6_init 17 = .ok (.putfield 15, 3) := by decide +kernel
theorem dX6_init_20 : decode cX6_init 20 = .ok (.aload_n 0, 1) := by decide +kernel
theorem dX6_init_21 : decode cX6_init 21 = .ok (.bipush 32, 2) := by decide +kernel
theorem dX6_init_23 : decode cX6_init 23 = .ok (.newarray .int, 2) := by decide +kernel
theorem dX6_init_25 : decode cX6_init 25 = .ok (.putfield 18, 3) := by decide +kernel
theorem dX6_init_28 : decode cX6_init 28 = .ok (.return_, 1) := by decide +kernel
theorem dX6_copyFrom_0 : decode cX6_copyFrom 0 = .ok (.aload_n 0, 1) := by decide +kernel
theorem dX6_copyFrom_1 : decode cX6_copyFrom 1 = .ok (.aload_n 1, 1) := by decide +kernel
theorem dX6_copyFrom_2 : decode cX6_copyFrom 2 = .ok (.getfield 21, 3) := by decide +kernel
theorem dX6_copyFrom_5 : decode cX6_copyFrom 5 = .ok (.putfield 21, 3) := by decide +kernel
theorem dX6_copyFrom_8 : decode cX6_copyFrom 8 = .ok (.aload_n 1, 1) := by decide +kernel
theorem dX6_copyFrom_9 : decode cX6_copyFrom 9 = .ok (.getfield 9, 3) := by decide +kernel
theorem dX6_copyFrom_12 : decode cX6_copyFrom 12 = .ok (.iconst 0, 1) := by decide +kernel
theorem dX6_copyFrom_13 : decode cX6_copyFrom 13 = .ok (.aload_n 0, 1) := by decide +kernel
theorem dX6_copyFrom_14 : decode cX6_copyFrom 14 = .ok (.getfield 9, 3) := by decide +kernel
theorem dX6_copyFrom_17 : decode cX6_copyFrom 17 = .ok (.iconst 0, 1) := by decide +kernel
theorem dX6_copyFrom_18 : decode cX6_copyFrom 18 = .ok (.bipush 32, 2) := by decide +kernel
theorem dX6_copyFrom_20 : decode cX6_copyFrom 20 = .ok (.invokestatic 25, 3) := by decide +kernel
theorem dX6_copyFrom_23 : decode cX6_copyFrom 23 = .ok (.aload_n 1, 1) := by decide +kernel
theorem dX6_copyFrom_24 : decode cX6_copyFrom 24 = .ok (.getfield 15, 3) := by decide +kernel
theorem dX6_copyFrom_27 : decode cX6_copyFrom 27 = .ok (.iconst 0, 1) := by decide +kernel
theorem dX6_copyFrom_28 : decode cX6_copyFrom 28 = .ok (.aload_n 0, 1) := by decide +kernel
theorem dX6_copyFrom_29 : decode cX6_copyFrom 29 = .ok (.getfield 15, 3) := by decide +kernel
theorem dX6_copyFrom_32 : decode cX6_copyFrom 32 = .ok (.iconst 0, 1) := by decide +kernel
theorem dX6_copyFrom_33 : decode cX6_copyFrom 33 = .ok (.bipush 32, 2) := by decide +kernel
theorem dX6_copyFrom_35 : decode cX6_copyFrom 35 = .ok (.invokestatic 25, 3) := by decide +kernel
theorem dX6_copyFrom_38 : decode cX6_copyFrom 38 = .ok (.aload_n 1, 1) := by decide +kernel
theorem dX6_copyFrom_39 : decode cX6_copyFrom 39 = .ok (.getfield 18, 3) := by decide +kernel
theorem dX6_copyFrom_42 : decode cX6_copyFrom 42 = .ok (.iconst 0, 1) := by decide +kernel
theorem dX6_copyFrom_43 : decode cX6_copyFrom 43 = .ok (.aload_n 0, 1) := by decide +kernel
theorem dX6_copyFrom_44 : decode cX6_copyFrom 44 = .ok (.getfield 18, 3) := by decide +kernel
theorem dX6_copyFrom_47 : decode cX6_copyFrom 47 = .ok (.iconst 0, 1) := by decide +kernel
theorem dX6_copyFrom_48 : decode cX6_copyFrom 48 = .ok (.bipush 32, 2) := by decide +kernel
theorem dX6_copyFrom_50 : decode cX6_copyFrom 50 = .ok (.invokestatic 25, 3) := by decide +kernel
theorem dX6_copyFrom_53 : decode cX6_copyFrom 53 = .ok (.return_, 1) := by decide +kernel
theorem dX6_addEntry_0 : decode cX6_addEntry 0 = .ok (.iconst 0, 1) := by decide +kernel
theorem dX6_addEntry_1 : decode cX6_addEntry 1 = .ok (.istore 4, 2) := by decide +kernel
theorem dX6_addEntry_3 : decode cX6_addEntry 3 = .ok (.iload 4, 2) := by decide +kernel
theorem dX6_addEntry_5 : decode cX6_addEntry 5 = .ok (.aload_n 0, 1) := by decide +kernel
theorem dX6_addEntry_6 : decode cX6_addEntry 6 = .ok (.getfield 21, 3) := by decide +kernel
theorem dX6_addEntry_9 : decode cX6_addEntry 9 = .ok (.if_icmp .ge 27, 3) := by decide +kernel
theorem dX6_addEntry_12 : decode cX6_addEntry 12 = .ok (.iload 4, 2) := by decide +kernel
theorem dX6_addEntry_14 : decode cX6_addEntry 14 = .ok (.bipush 32, 2) := by decide +kernel
theorem dX6_addEntry_16 : decode cX6_addEntry 16 = .ok (.if_icmp .ge 20, 3) := by decide +kernel
theorem dX6_addEntry_19 : decode cX6_addEntry 19 = .ok (.aload_n 0, 1) := by decide +kernel
theorem dX6_addEntry_20 : decode cX6_addEntry 20 = .ok (.iload 4, 2) := by decide +kernel
theorem dX6_addEntry_22 : decode cX6_addEntry 22 = .ok (.iload_n 1, 1) := by decide +kernel
theorem dX6_addEntry_23 : decode cX6_addEntry 23 = .ok (.iload_n 2, 1) := by decide +kernel
theorem dX6_addEntry_24 : decode cX6_addEntry 24 = .ok (.invokevirtual 31, 3) := by decide +kernel
theorem dX6_addEntry_27 : decode cX6_addEntry 27 = .ok (.ifCond .eq 9, 3) := by decide +kernel
theorem dX6_addEntry_30 : decode cX6_addEntry 30 = .ok (.iinc 4 1, 3) := by decide +kernel
theorem dX6_addEntry_33 : decode cX6_addEntry 33 = .ok (.goto (-30), 3) := by decide +kernel
theorem dX6_addEntry_36 : decode cX6_addEntry 36 = .ok (.iload_n 3, 1) := by decide +kernel
theorem dX6_addEntry_37 : decode cX6_addEntry 37 = .ok (.ifCond .eq 10, 3) := by decide +kernel
theorem dX6_addEntry_40 : decode cX6_addEntry 40 = .ok (.iload 4, 2) := by decide +kernel
theorem dX6_addEntry_42 : decode cX6_addEntry 42 = .ok (.bipush 32, 2) := by decide +kernel
theorem dX6_addEntry_44 : decode cX6_addEntry 44 = .ok (.if_icmp .lt 4, 3) := by decide +kernel
theorem dX6_addEntry_47 : decode cX6_addEntry 47 = .ok (.return_, 1) := by decide +kernel
theorem dX6_addEntry_48 : decode cX6_addEntry 48 = .ok (.iload 4, 2) := by decide +kernel
theorem dX6_addEntry_50 : decode cX6_addEntry 50 = .ok (.aload_n 0, 1) := by decide +kernel
theorem dX6_addEntry_51 : decode cX6_addEntry 51 = .ok (.getfield 21, 3) := by decide +kernel
theorem dX6_addEntry_54 : decode cX6_addEntry 54 = .ok (.if_icmp .ge 37, 3) := by decide +kernel
theorem dX6_addEntry_57 : decode cX6_addEntry 57 = .ok (.aload_n 0, 1) := by decide +kernel
theorem dX6_addEntry_58 : decode cX6_addEntry 58 = .ok (.getfield 9, 3) := by decide +kernel
theorem dX6_addEntry_61 : decode cX6_addEntry 61 = .ok (.iload 4, 2) := by decide +kernel
theorem dX6_addEntry_63 : decode cX6_addEntry 63 = .ok (.iaload, 1) := by decide +kernel
theorem dX6_addEntry_64 : decode cX6_addEntry 64 = .ok (.iload_n 1, 1) := by decide +kernel
theorem dX6_addEntry_65 : decode cX6_addEntry 65 = .ok (.if_icmp .ne 26, 3) := by decide +kernel
theorem dX6_addEntry_68 : decode cX6_addEntry 68 = .ok (.aload_n 0, 1) := by decide +kernel
theorem dX6_addEntry_69 : decode cX6_addEntry 69 = .ok (.getfield 15, 3) := by decide +kernel
theorem dX6_addEntry_72 : decode cX6_addEntry 72 = .ok (.iload 4, 2) := by decide +kernel
theorem dX6_addEntry_74 : decode cX6_addEntry 74 = .ok (.iaload, 1) := by decide +kernel
theorem dX6_addEntry_75 : decode cX6_addEntry 75 = .ok (.iload_n 2, 1) := by decide +kernel
theorem dX6_addEntry_76 : decode cX6_addEntry 76 = .ok (.if_icmp .ne 15, 3) := by decide +kernel
theorem dX6_addEntry_79 : decode cX6_addEntry 79 = .ok (.aload_n 0, 1) := by decide +kernel
theorem dX6_addEntry_80 : decode cX6_addEntry 80 = .ok (.getfield 18, 3) := by decide +kernel
theorem dX6_addEntry_83 : decode cX6_addEntry 83 = .ok (.iload 4, 2) := by decide +kernel
theorem dX6_addEntry_85 : decode cX6_addEntry 85 = .ok (.dup2, 1) := by decide +kernel
theorem dX6_addEntry_86 : decode cX6_addEntry 86 = .ok (.iaload, 1) := by decide +kernel
theorem dX6_addEntry_87 : decode cX6_addEntry 87 = .ok (.iload_n 3, 1) := by decide +kernel
theorem dX6_addEntry_88 : decode cX6_addEntry 88 = .ok (.iadd, 1) := by decide +kernel
theorem dX6_addEntry_89 : decode cX6_addEntry 89 = .ok (.iastore, 1) := by decide +kernel
theorem dX6_addEntry_90 : decode cX6_addEntry 90 = .ok (.return_, 1) := by decide +kernel
theorem dX6_addEntry_91 : decode cX6_addEntry 91 = .ok (.aload_n 0, 1) := by decide +kernel
theorem dX6_addEntry_92 : decode cX6_addEntry 92 = .ok (.getfield 21, 3) := by decide +kernel
theorem dX6_addEntry_95 : decode cX6_addEntry 95 = .ok (.bipush 32, 2) := by decide +kernel
theorem dX6_addEntry_97 : decode cX6_addEntry 97 = .ok (.if_icmp .lt 4, 3) := by decide +kernel
theorem dX6_addEntry_100 : decode cX6_addEntry 100 = .ok (.return_, 1) := by decide +kernel
theorem dX6_addEntry_101 : decode cX6_addEntry 101 = .ok (.aload_n 0, 1) := by decide +kernel
theorem dX6_addEntry_102 : decode cX6_addEntry 102 = .ok (.getfield 21, 3) := by decide +kernel
theorem dX6_addEntry_105 : decode cX6_addEntry 105 = .ok (.istore 5, 2) := by decide +kernel
theorem dX6_addEntry_107 : decode cX6_addEntry 107 = .ok (.iload 5, 2) := by decide +kernel
theorem dX6_addEntry_109 : decode cX6_addEntry 109 = .ok (.iload 4, 2) := by decide +kernel
theorem dX6_addEntry_111 : decode cX6_addEntry 111 = .ok (.if_icmp .le 57, 3) := by decide +kernel
theorem dX6_addEntry_114 : decode cX6_addEntry 114 = .ok (.aload_n 0, 1) := by decide +kernel
theorem dX6_addEntry_115 : decode cX6_addEntry 115 = .ok (.getfield 9, 3) := by decide +kernel
theorem dX6_addEntry_118 : decode cX6_addEntry 118 = .ok (.iload 5, 2) := by decide +kernel
theorem dX6_addEntry_120 : decode cX6_addEntry 120 = .ok (.aload_n 0, 1) := by decide +kernel
theorem dX6_addEntry_121 : decode cX6_addEntry 121 = .ok (.getfield 9, 3) := by decide +kernel
theorem dX6_addEntry_124 : decode cX6_addEntry 124 = .ok (.iload 5, 2) := by decide +kernel
theorem dX6_addEntry_126 : decode cX6_addEntry 126 = .ok (.iconst 1, 1) := by decide +kernel
theorem dX6_addEntry_127 : decode cX6_addEntry 127 = .ok (.isub, 1) := by decide +kernel
theorem dX6_addEntry_128 : decode cX6_addEntry 128 = .ok (.iaload, 1) := by decide +kernel
theorem dX6_addEntry_129 : decode cX6_addEntry 129 = .ok (.iastore, 1) := by decide +kernel
theorem dX6_addEntry_130 : decode cX6_addEntry 130 = .ok (.aload_n 0, 1) := by decide +kernel
theorem dX6_addEntry_131 : decode cX6_addEntry 131 = .ok (.getfield 15, 3) := by decide +kernel
theorem dX6_addEntry_134 : decode cX6_addEntry 134 = .ok (.iload 5, 2) := by decide +kernel
theorem dX6_addEntry_136 : decode cX6_addEntry 136 = .ok (.aload_n 0, 1) := by decide +kernel
theorem dX6_addEntry_137 : decode cX6_addEntry 137 = .ok (.getfield 15, 3) := by decide +kernel
theorem dX6_addEntry_140 : decode cX6_addEntry 140 = .ok (.iload 5, 2) := by decide +kernel
theorem dX6_addEntry_142 : decode cX6_addEntry 142 = .ok (.iconst 1, 1) := by decide +kernel
theorem dX6_addEntry_143 : decode cX6_addEntry 143 = .ok (.isub, 1) := by decide +kernel
theorem dX6_addEntry_144 : decode cX6_addEntry 144 = .ok (.iaload, 1) := by decide +kernel
theorem dX6_addEntry_145 : decode cX6_addEntry 145 = .ok (.iastore, 1) := by decide +kernel
theorem dX6_addEntry_146 : decode cX6_addEntry 146 = .ok (.aload_n 0, 1) := by decide +kernel
theorem dX6_addEntry_147 : decode cX6_addEntry 147 = .ok (.getfield 18, 3) := by decide +kernel
theorem dX6_addEntry_150 : decode cX6_addEntry 150 = .ok (.iload 5, 2) := by decide +kernel
theorem dX6_addEntry_152 : decode cX6_addEntry 152 = .ok (.aload_n 0, 1) := by decide +kernel
theorem dX6_addEntry_153 : decode cX6_addEntry 153 = .ok (.getfield 18, 3) := by decide +kernel
theorem dX6_addEntry_156 : decode cX6_addEntry 156 = .ok (.iload 5, 2) := by decide +kernel
theorem dX6_addEntry_158 : decode cX6_addEntry 158 = .ok (.iconst 1, 1) := by decide +kernel
theorem dX6_addEntry_159 : decode cX6_addEntry 159 = .ok (.isub, 1) := by decide +kernel
theorem dX6_addEntry_160 : decode cX6_addEntry 160 = .ok (.iaload, 1) := by decide +kernel
theorem dX6_addEntry_161 : decode cX6_addEntry 161 = .ok (.iastore, 1) := by decide +kernel
theorem dX6_addEntry_162 : decode cX6_addEntry 162 = .ok (.iinc 5 (-1), 3) := by decide +kernel
theorem dX6_addEntry_165 : decode cX6_addEntry 165 = .ok (.goto (-58), 3) := by decide +kernel
theorem dX6_addEntry_168 : decode cX6_addEntry 168 = .ok (.aload_n 0, 1) := by decide +kernel
theorem dX6_addEntry_169 : decode cX6_addEntry 169 = .ok (.getfield 9, 3) := by decide +kernel
theorem dX6_addEntry_172 : decode cX6_addEntry 172 = .ok (.iload 4, 2) := by decide +kernel
theorem dX6_addEntry_174 : decode cX6_addEntry 174 = .ok (.iload_n 1, 1) := by decide +kernel
theorem dX6_addEntry_175 : decode cX6_addEntry 175 = .ok (.iastore, 1) := by decide +kernel
theorem dX6_addEntry_176 : decode cX6_addEntry 176 = .ok (.aload_n 0, 1) := by decide +kernel
theorem dX6_addEntry_177 : decode cX6_addEntry 177 = .ok (.getfield 15, 3) := by decide +kernel
theorem dX6_addEntry_180 : decode cX6_addEntry 180 = .ok (.iload 4, 2) := by decide +kernel
theorem dX6_addEntry_182 : decode cX6_addEntry 182 = .ok (.iload_n 2, 1) := by decide +kernel
theorem dX6_addEntry_183 : decode cX6_addEntry 183 = .ok (.iastore, 1) := by decide +kernel
theorem dX6_addEntry_184 : decode cX6_addEntry 184 = .ok (.aload_n 0, 1) := by decide +kernel
theorem dX6_addEntry_185 : decode cX6_addEntry 185 = .ok (.getfield 18, 3) := by decide +kernel
theorem dX6_addEntry_188 : decode cX6_addEntry 188 = .ok (.iload 4, 2) := by decide +kernel
theorem dX6_addEntry_190 : decode cX6_addEntry 190 = .ok (.iload_n 3, 1) := by decide +kernel
theorem dX6_addEntry_191 : decode cX6_addEntry 191 = .ok (.iastore, 1) := by decide +kernel
theorem dX6_addEntry_192 : decode cX6_addEntry 192 = .ok (.aload_n 0, 1) := by decide +kernel
theorem dX6_addEntry_193 : decode cX6_addEntry 193 = .ok (.dup, 1) := by decide +kernel
theorem dX6_addEntry_194 : decode cX6_addEntry 194 = .ok (.getfield 21, 3) := by decide +kernel
theorem dX6_addEntry_197 : decode cX6_addEntry 197 = .ok (.iconst 1, 1) := by decide +kernel
theorem dX6_addEntry_198 : decode cX6_addEntry 198 = .ok (.iadd, 1) := by decide +kernel
theorem dX6_addEntry_199 : decode cX6_addEntry 199 = .ok (.putfield 21, 3) := by decide +kernel
theorem dX6_addEntry_202 : decode cX6_addEntry 202 = .ok (.return_, 1) := by decide +kernel
theorem dX6_isBefore_0 : decode cX6_isBefore 0 = .ok (.iload_n 1, 1) := by decide +kernel
theorem dX6_isBefore_1 : decode cX6_isBefore 1 = .ok (.ifCond .lt 9, 3) := by decide +kernel
theorem dX6_isBefore_4 : decode cX6_isBefore 4 = .ok (.iload_n 1, 1) := by decide +kernel
theorem dX6_isBefore_5 : decode cX6_isBefore 5 = .ok (.bipush 32, 2) := by decide +kernel
theorem dX6_isBefore_7 : decode cX6_isBefore 7 = .ok (.if_icmp .lt 5, 3) := by decide +kernel
theorem dX6_isBefore_10 : decode cX6_isBefore 10 = .ok (.iconst 0, 1) := by decide +kernel
theorem dX6_isBefore_11 : decode cX6_isBefore 11 = .ok (.ireturn, 1) := by decide +kernel
theorem dX6_isBefore_12 : decode cX6_isBefore 12 = .ok (.aload_n 0, 1) := by decide +kernel
theorem dX6_isBefore_13 : decode cX6_isBefore 13 = .ok (.getfield 9, 3) := by decide +kernel
theorem dX6_isBefore_16 : decode cX6_isBefore 16 = .ok (.iload_n 1, 1) := by decide +kernel
theorem dX6_isBefore_17 : decode cX6_isBefore 17 = .ok (.iaload, 1) := by decide +kernel
theorem dX6_isBefore_18 : decode cX6_isBefore 18 = .ok (.iload_n 2, 1) := by decide +kernel
theorem dX6_isBefore_19 : decode cX6_isBefore 19 = .ok (.if_icmp .lt 23, 3) := by decide +kernel
theorem dX6_isBefore_22 : decode cX6_isBefore 22 = .ok (.aload_n 0, 1) := by decide +kernel
theorem dX6_isBefore_23 : decode cX6_isBefore 23 = .ok (.getfield 9, 3) := by decide +kernel
theorem dX6_isBefore_26 : decode cX6_isBefore 26 = .ok (.iload_n 1, 1) := by decide +kernel
theorem dX6_isBefore_27 : decode cX6_isBefore 27 = .ok (.iaload, 1) := by decide +kernel
theorem dX6_isBefore_28 : decode cX6_isBefore 28 = .ok (.iload_n 2, 1) := by decide +kernel
theorem dX6_isBefore_29 : decode cX6_isBefore 29 = .ok (.if_icmp .ne 17, 3) := by decide +kernel
theorem dX6_isBefore_32 : decode cX6_isBefore 32 = .ok (.aload_n 0, 1) := by decide +kernel
theorem dX6_isBefore_33 : decode cX6_isBefore 33 = .ok (.getfield 15, 3) := by decide +kernel
theorem dX6_isBefore_36 : decode cX6_isBefore 36 = .ok (.iload_n 1, 1) := by decide +kernel
theorem dX6_isBefore_37 : decode cX6_isBefore 37 = .ok (.iaload, 1) := by decide +kernel
theorem dX6_isBefore_38 : decode cX6_isBefore 38 = .ok (.iload_n 3, 1) := by decide +kernel
theorem dX6_isBefore_39 : decode cX6_isBefore 39 = .ok (.if_icmp .ge 7, 3) := by decide +kernel
theorem dX6_isBefore_42 : decode cX6_isBefore 42 = .ok (.iconst 1, 1) := by decide +kernel
theorem dX6_isBefore_43 : decode cX6_isBefore 43 = .ok (.goto 4, 3) := by decide +kernel
theorem dX6_isBefore_46 : decode cX6_isBefore 46 = .ok (.iconst 0, 1) := by decide +kernel
theorem dX6_isBefore_47 : decode cX6_isBefore 47 = .ok (.ireturn, 1) := by decide +kernel
theorem dX6_addFrozen_0 : decode cX6_addFrozen 0 = .ok (.iload_n 2, 1) := by decide +kernel
theorem dX6_addFrozen_1 : decode cX6_addFrozen 1 = .ok (.i2l, 1) := by decide +kernel
theorem dX6_addFrozen_2 : decode cX6_addFrozen 2 = .ok (.lstore_n 3, 1) := by decide +kernel
theorem dX6_addFrozen_3 : decode cX6_addFrozen 3 = .ok (.iconst 0, 1) := by decide +kernel
theorem dX6_addFrozen_4 : decode cX6_addFrozen 4 = .ok (.istore 5, 2) := by decide +kernel
theorem dX6_addFrozen_6 : decode cX6_addFrozen 6 = .ok (.iload 5, 2) := by decide +kernel
theorem dX6_addFrozen_8 : decode cX6_addFrozen 8 = .ok (.aload_n 1, 1) := by decide +kernel
theorem dX6_addFrozen_9 : decode cX6_addFrozen 9 = .ok (.getfield 21, 3) := by decide +kernel
theorem dX6_addFrozen_12 : decode cX6_addFrozen 12 = .ok (.if_icmp .ge 34, 3) := by decide +kernel
theorem dX6_addFrozen_15 : decode cX6_addFrozen 15 = .ok (.iload 5, 2) := by decide +kernel
theorem dX6_addFrozen_17 : decode cX6_addFrozen 17 = .ok (.bipush 32, 2) := by decide +kernel
theorem dX6_addFrozen_19 : decode cX6_addFrozen 19 = .ok (.if_icmp .ge 27, 3) := by decide +kernel
theorem dX6_addFrozen_22 : decode cX6_addFrozen 22 = .ok (.lload_n 3, 1) := by decide +kernel
theorem dX6_addFrozen_23 : decode cX6_addFrozen 23 = .ok (.aload_n 1, 1) := by decide +kernel
theorem dX6_addFrozen_24 : decode cX6_addFrozen 24 = .ok (.getfield 18, 3) := by decide +kernel
theorem dX6_addFrozen_27 : decode cX6_addFrozen 27 = .ok (.iload 5, 2) := by decide +kernel
theorem dX6_addFrozen_29 : decode cX6_addFrozen 29 = .ok (.iaload, 1) := by decide +kernel
theorem dX6_addFrozen_30 : decode cX6_addFrozen 30 = .ok (.i2l, 1) := by decide +kernel
theorem dX6_addFrozen_31 : decode cX6_addFrozen 31 = .ok (.iload_n 2, 1) := by decide +kernel
theorem dX6_addFrozen_32 : decode cX6_addFrozen 32 = .ok (.i2l, 1) := by decide +kernel
theorem dX6_addFrozen_33 : decode cX6_addFrozen 33 = .ok (.lmul, 1) := by decide +kernel
theorem dX6_addFrozen_34 : decode cX6_addFrozen 34 = .ok (.ldc2_w 35, 3) := by decide +kernel
theorem dX6_addFrozen_37 : decode cX6_addFrozen 37 = .ok (.ldiv, 1) := by decide +kernel
theorem dX6_addFrozen_38 : decode cX6_addFrozen 38 = .ok (.lsub, 1) := by decide +kernel
theorem dX6_addFrozen_39 : decode cX6_addFrozen 39 = .ok (.lstore_n 3, 1) := by decide +kernel
theorem dX6_addFrozen_40 : decode cX6_addFrozen 40 = .ok (.iinc 5 1, 3) := by decide +kernel
theorem dX6_addFrozen_43 : decode cX6_addFrozen 43 = .ok (.goto (-37), 3) := by decide +kernel
theorem dX6_addFrozen_46 : decode cX6_addFrozen 46 = .ok (.iconst 0, 1) := by decide +kernel
theorem dX6_addFrozen_47 : decode cX6_addFrozen 47 = .ok (.istore 5, 2) := by decide +kernel
theorem dX6_addFrozen_49 : decode cX6_addFrozen 49 = .ok (.iload 5, 2) := by decide +kernel
theorem dX6_addFrozen_51 : decode cX6_addFrozen 51 = .ok (.aload_n 1, 1) := by decide +kernel
theorem dX6_addFrozen_52 : decode cX6_addFrozen 52 = .ok (.getfield 21, 3) := by decide +kernel
theorem dX6_addFrozen_55 : decode cX6_addFrozen 55 = .ok (.if_icmp .ge 65, 3) := by decide +kernel
theorem dX6_addFrozen_58 : decode cX6_addFrozen 58 = .ok (.iload 5, 2) := by decide +kernel
theorem dX6_addFrozen_60 : decode cX6_addFrozen 60 = .ok (.bipush 32, 2) := by decide +kernel
theorem dX6_addFrozen_62 : decode cX6_addFrozen 62 = .ok (.if_icmp .ge 58, 3) := by decide +kernel
theorem dX6_addFrozen_65 : decode cX6_addFrozen 65 = .ok (.aload_n 1, 1) := by decide +kernel
theorem dX6_addFrozen_66 : decode cX6_addFrozen 66 = .ok (.getfield 18, 3) := by decide +kernel
theorem dX6_addFrozen_69 : decode cX6_addFrozen 69 = .ok (.iload 5, 2) := by decide +kernel
theorem dX6_addFrozen_71 : decode cX6_addFrozen 71 = .ok (.iaload, 1) := by decide +kernel
theorem dX6_addFrozen_72 : decode cX6_addFrozen 72 = .ok (.i2l, 1) := by decide +kernel
theorem dX6_addFrozen_73 : decode cX6_addFrozen 73 = .ok (.iload_n 2, 1) := by decide +kernel
theorem dX6_addFrozen_74 : decode cX6_addFrozen 74 = .ok (.i2l, 1) := by decide +kernel
theorem dX6_addFrozen_75 : decode cX6_addFrozen 75 = .ok (.lmul, 1) := by decide +kernel
theorem dX6_addFrozen_76 : decode cX6_addFrozen 76 = .ok (.ldc2_w 35, 3) := by decide +kernel
theorem dX6_addFrozen_79 : decode cX6_addFrozen 79 = .ok (.ldiv, 1) := by decide +kernel
theorem dX6_addFrozen_80 : decode cX6_addFrozen 80 = .ok (.lstore 6, 2) := by decide +kernel
theorem dX6_addFrozen_82 : decode cX6_addFrozen 82 = .ok (.iload 5, 2) := by decide +kernel
theorem dX6_addFrozen_84 : decode cX6_addFrozen 84 = .ok (.ifCond .ne 9, 3) := by decide +kernel
theorem dX6_addFrozen_87 : decode cX6_addFrozen 87 = .ok (.lload 6, 2) := by decide +kernel
theorem dX6_addFrozen_89 : decode cX6_addFrozen 89 = .ok (.lload_n 3, 1) := by decide +kernel
theorem dX6_addFrozen_90 : decode cX6_addFrozen 90 = .ok (.ladd, 1) := by decide +kernel
theorem dX6_addFrozen_91 : decode cX6_addFrozen 91 = .ok (.lstore 6, 2) := by decide +kernel
theorem dX6_addFrozen_93 : decode cX6_addFrozen 93 = .ok (.aload_n 0, 1) := by decide +kernel
theorem dX6_addFrozen_94 : decode cX6_addFrozen 94 = .ok (.aload_n 1, 1) := by decide +kernel
theorem dX6_addFrozen_95 : decode cX6_addFrozen 95 = .ok (.getfield 9, 3) := by decide +kernel
theorem dX6_addFrozen_98 : decode cX6_addFrozen 98 = .ok (.iload 5, 2) := by decide +kernel
theorem dX6_addFrozen_100 : decode cX6_addFrozen 100 = .ok (.iaload, 1) := by decide +kernel
theorem dX6_addFrozen_101 : decode cX6_addFrozen 101 = .ok (.aload_n 1, 1) := by decide +kernel
theorem dX6_addFrozen_102 : decode cX6_addFrozen 102 = .ok (.getfield 15, 3) := by decide +kernel
theorem dX6_addFrozen_105 : decode cX6_addFrozen 105 = .ok (.iload 5, 2) := by decide +kernel
theorem dX6_addFrozen_107 : decode cX6_addFrozen 107 = .ok (.iaload, 1) := by decide +kernel
theorem dX6_addFrozen_108 : decode cX6_addFrozen 108 = .ok (.lload 6, 2) := by decide +kernel
theorem dX6_addFrozen_110 : decode cX6_addFrozen 110 = .ok (.l2i, 1) := by decide +kernel
theorem dX6_addFrozen_111 : decode cX6_addFrozen 111 = .ok (.invokevirtual 37, 3) := by decide +kernel
theorem dX6_addFrozen_114 : decode cX6_addFrozen 114 = .ok (.iinc 5 1, 3) := by decide +kernel
theorem dX6_addFrozen_117 : decode cX6_addFrozen 117 = .ok (.goto (-68), 3) := by decide +kernel
theorem dX6_addFrozen_120 : decode cX6_addFrozen 120 = .ok (.return_, 1) := by decide +kernel
theorem dX7_init_0 : decode cX7_init 0 = .ok (.aload_n 0, 1) := by decide +kernel
theorem dX7_init_1 : decode cX7_init 1 = .ok (.invokespecial 1, 3) := by decide +kernel
theorem dX7_init_4 : decode cX7_init 4 = .ok (.aload_n 0, 1) := by decide +kernel
theorem dX7_init_5 : decode cX7_init 5 = .ok (.iload_n 1, 1) := by decide +kernel
theorem dX7_init_6 : decode cX7_init 6 = .ok (.putfield 7, 3) := by decide +kernel
theorem dX7_init_9 : decode cX7_init 9 = .ok (.aload_n 0, 1) := by decide +kernel
theorem dX7_init_10 : decode cX7_init 10 = .ok (.aload_n 2, 1) := by decide +kernel
theorem dX7_init_11 : decode cX7_init 11 = .ok (.putfield 13, 3) := by decide +kernel
theorem dX7_init_14 : decode cX7_init 14 = .ok (.aload_n 0, 1) := by decide +kernel
theorem dX7_init_15 : decode cX7_init 15 = .ok (.iload_n 3, 1) := by decide +kernel
theorem dX7_init_16 : decode cX7_init 16 = .ok (.putfield 17, 3) := by decide +kernel
theorem dX7_init_19 : decode cX7_init 19 = .ok (.aload_n 0, 1) := by decide +kernel
theorem dX7_init_20 : decode cX7_init 20 = .ok (.iload 4, 2) := by decide +kernel
theorem dX7_init_22 : decode cX7_init 22 = .ok (.putfield 20, 3) := by decide +kernel
theorem dX7_init_25 : decode cX7_init 25 = .ok (.aload_n 0, 1) := by decide +kernel
theorem dX7_init_26 : decode cX7_init 26 = .ok (.iload 5, 2) := by decide +kernel
theorem dX7_init_28 : decode cX7_init 28 = .ok (.putfield 24, 3) := by decide +kernel
theorem dX7_init_31 : decode cX7_init 31 = .ok (.return_, 1) := by decide +kernel
theorem dX7_isSyncedWith_0 : decode cX7_isSyncedWith 0 = .ok (.aload_n 0, 1) := by decide +kernel
theorem dX7_isSyncedWith_1 : decode cX7_isSyncedWith 1 = .ok (.getfield 24, 3) := by decide +kernel
theorem dX7_isSyncedWith_4 : decode cX7_isSyncedWith 4 = .ok (.ifCond .eq 18, 3) := by decide +kernel
theorem dX7_isSyncedWith_7 : decode cX7_isSyncedWith 7 = .ok (.aload_n 0, 1) := by decide +kernel
theorem dX7_isSyncedWith_8 : decode cX7_isSyncedWith 8 = .ok (.getfield 24, 3) := by decide +kernel
theorem dX7_isSyncedWith_11 : decode cX7_isSyncedWith 11 = .ok (.aload_n 1, 1) := by decide +kernel
theorem dX7_isSyncedWith_12 : decode cX7_isSyncedWith 12 = .ok (.getfield 24, 3) := by decide +kernel
theorem dX7_isSyncedWith_15 : decode cX7_isSyncedWith 15 = .ok (.if_icmp .ne 7, 3) := by decide +kernel
theorem dX7_isSyncedWith_18 : decode cX7_isSyncedWith 18 = .ok (.iconst 1, 1) := by decide +kernel
theorem dX7_isSyncedWith_19 : decode cX7_isSyncedWith 19 = .ok (.goto 4, 3) := by decide +kernel
theorem dX7_isSyncedWith_22 : decode cX7_isSyncedWith 22 = .ok (.iconst 0, 1) := by decide +kernel
theorem dX7_isSyncedWith_23 : decode cX7_isSyncedWith 23 = .ok (.ireturn, 1) := by decide +kernel
theorem dX8_init_0 : decode cX8_init 0 = .ok (.aload_n 0, 1) := by decide +kernel
theorem dX8_init_1 : decode cX8_init 1 = .ok (.invokespecial 3, 3) := by decide +kernel
theorem dX8_init_4 : decode cX8_init 4 = .ok (.aload_n 0, 1) := by decide +kernel
theorem dX8_init_5 : decode cX8_init 5 = .ok (.iconst 1, 1) := by decide +kernel
theorem dX8_init_6 : decode cX8_init 6 = .ok (.putfield 9, 3) := by decide +kernel
theorem dX8_init_9 : decode cX8_init 9 = .ok (.aload_n 0, 1) := by decide +kernel
theorem dX8_init_10 : decode cX8_init 10 = .ok (.iconst 1, 1) := by decide +kernel
theorem dX8_init_11 : decode cX8_init 11 = .ok (.putfield 15, 3) := by decide +kernel
theorem dX8_init_14 : decode cX8_init 14 = .ok (.aload_n 0, 1) := by decide +kernel
theorem dX8_init_15 : decode cX8_init 15 = .ok (.aload_n 1, 1) := by decide +kernel
theorem dX8_init_16 : decode cX8_init 16 = .ok (.putfield 18, 3) := by decide +kernel
theorem dX8_init_19 : decode cX8_init 19 = .ok (.return_, 1) := by decide +kernel
theorem dX8_begin_0 : decode cX8_begin 0 = .ok (.aload_n 0, 1) := by decide +kernel
theorem dX8_begin_1 : decode cX8_begin 1 = .ok (.aload_n 1, 1) := by decide +kernel
theorem dX8_begin_2 : decode cX8_begin 2 = .ok (.putfield 18, 3) := by decide +kernel
theorem dX8_begin_5 : decode cX8_begin 5 = .ok (.aload_n 0, 1) := by decide +kernel
theorem dX8_begin_6 : decode cX8_begin 6 = .ok (.lconst 0, 1) := by decide +kernel
theorem dX8_begin_7 : decode cX8_begin 7 = .ok (.putfield 22, 3) := by decide +kernel
theorem dX8_begin_10 : decode cX8_begin 10 = .ok (.aload_n 0, 1) := by decide +kernel
theorem dX8_begin_11 : decode cX8_begin 11 = .ok (.iload_n 2, 1) := by decide +kernel
theorem dX8_begin_12 : decode cX8_begin 12 = .ok (.putfield 26, 3) := by decide +kernel
theorem dX8_begin_15 : decode cX8_begin 15 = .ok (.aload_n 0, 1) := by decide +kernel
theorem dX8_begin_16 : decode cX8_begin 16 = .ok (.iconst 1, 1) := by decide +kernel
theorem dX8_begin_17 : decode cX8_begin 17 = .ok (.putfield 9, 3) := by decide +kernel
theorem dX8_begin_20 : decode cX8_begin 20 = .ok (.aload_n 0, 1) := by decide +kernel
theorem dX8_begin_21 : decode cX8_begin 21 = .ok (.iload_n 2, 1) := by decide +kernel
theorem dX8_begin_22 : decode cX8_begin 22 = .ok (.i2l, 1) := by decide +kernel
theorem dX8_begin_23 : decode cX8_begin 23 = .ok (.putfield 30, 3) := by decide +kernel
theorem dX8_begin_26 : decode cX8_begin 26 = .ok (.aload_n 0, 1) := by decide +kernel
theorem dX8_begin_27 : decode cX8_begin 27 = .ok (.iconst 1, 1) := by decide +kernel
theorem dX8_begin_28 : decode cX8_begin 28 = .ok (.putfield 15, 3) := by decide +kernel
theorem dX8_begin_31 : decode cX8_begin 31 = .ok (.return_, 1) := by decide +kernel
theorem dX8_copyFrom_0 : decode cX8_copyFrom 0 = .ok (.aload_n 0, 1) := by decide +kernel
theorem dX8_copyFrom_1 : decode cX8_copyFrom 1 = .ok (.aload_n 1, 1) := by decide +kernel
theorem dX8_copyFrom_2 : decode cX8_copyFrom 2 = .ok (.getfield 18, 3) := by decide +kernel
theorem dX8_copyFrom_5 : decode cX8_copyFrom 5 = .ok (.putfield 18, 3) := by decide +kernel
theorem dX8_copyFrom_8 : decode cX8_copyFrom 8 = .ok (.aload_n 0, 1) := by decide +kernel
theorem dX8_copyFrom_9 : decode cX8_copyFrom 9 = .ok (.aload_n 1, 1) := by decide +kernel
theorem dX8_copyFrom_10 : decode cX8_copyFrom 10 = .ok (.getfield 22, 3) := by decide +kernel
theorem dX8_copyFrom_13 : decode cX8_copyFrom 13 = .ok (.putfield 22, 3) := by decide +kernel
theorem dX8_copyFrom_16 : decode cX8_copyFrom 16 = .ok (.aload_n 0, 1) := by decide +kernel
theorem dX8_copyFrom_17 : decode cX8_copyFrom 17 = .ok (.aload_n 1, 1) := by decide +kernel
theorem dX8_copyFrom_18 : decode cX8_copyFrom 18 = .ok (.getfield 26, 3) := by decide +kernel
theorem dX8_copyFrom_21 : decode cX8_copyFrom 21 = .ok (.putfield 26, 3) := by decide +kernel
theorem dX8_copyFrom_24 : decode cX8_copyFrom 24 = .ok (.aload_n 0, 1) := by decide +kernel
theorem dX8_copyFrom_25 : decode cX8_copyFrom 25 = .ok (.aload_n 1, 1) := by decide +kernel
theorem dX8_copyFrom_26 : decode cX8_copyFrom 26 = .ok (.getfield 9, 3) := by decide +kernel
theorem dX8_copyFrom_29 : decode cX8_copyFrom 29 = .ok (.putfield 9, 3) := by decide +kernel
theorem dX8_copyFrom_32 : decode cX8_copyFrom 32 = .ok (.aload_n 0, 1) := by decide +kernel
theorem dX8_copyFrom_33 : decode cX8_copyFrom 33 = .ok (.aload_n 1, 1) := by decide +kernel
theorem dX8_copyFrom_34 : decode cX8_copyFrom 34 = .ok (.getfield 30, 3) := by decide +kernel
theorem dX8_copyFrom_37 : decode cX8_copyFrom 37 = .ok (.putfield 30, 3) := by decide +kernel
theorem dX8_copyFrom_40 : decode cX8_copyFrom 40 = .ok (.aload_n 0, 1) := by decide +kernel
theorem dX8_copyFrom_41 : decode cX8_copyFrom 41 = .ok (.aload_n 1, 1) := by decide +kernel
theorem dX8_copyFrom_42 : decode cX8_copyFrom 42 = .ok (.getfield 15, 3) := by decide +kernel
theorem dX8_copyFrom_45 : decode cX8_copyFrom 45 = .ok (.putfield 15, 3) := by decide +kernel
theorem dX8_copyFrom_48 : decode cX8_copyFrom 48 = .ok (.return_, 1) := by decide +kernel
theorem dX8_progressNow_0 : decode cX8_progressNow 0 = .ok (.aload_n 0, 1) := by decide +kernel
theorem dX8_progressNow_1 : decode cX8_progressNow 1 = .ok (.getfield 22, 3) := by decide +kernel
theorem dX8_progressNow_4 : decode cX8_progressNow 4 = .ok (.ldc2_w 33, 3) := by decide +kernel
theorem dX8_progressNow_7 : decode cX8_progressNow 7 = .ok (.lmul, 1) := by decide +kernel
theorem dX8_progressNow_8 : decode cX8_progressNow 8 = .ok (.aload_n 0, 1) := by decide +kernel
theorem dX8_progressNow_9 : decode cX8_progressNow 9 = .ok (.getfield 26, 3) := by decide +kernel
theorem dX8_progressNow_12 : decode cX8_progressNow 12 = .ok (.i2l, 1) := by decide +kernel
theorem dX8_progressNow_13 : decode cX8_progressNow 13 = .ok (.ladd, 1) := by decide +kernel
theorem dX8_progressNow_14 : decode cX8_progressNow 14 = .ok (.lreturn, 1) := by decide +kernel
theorem dX8_advance_0 : decode cX8_advance 0 = .ok (.aload_n 0, 1) := by decide +kernel
theorem dX8_advance_1 : decode cX8_advance 1 = .ok (.aload_n 0, 1) := by decide +kernel
theorem dX8_advance_2 : decode cX8_advance 2 = .ok (.invokevirtual 35, 3) := by decide +kernel
theorem dX8_advance_5 : decode cX8_advance 5 = .ok (.putfield 30, 3) := by decide +kernel
theorem dX8_advance_8 : decode cX8_advance 8 = .ok (.aload_n 0, 1) := by decide +kernel
theorem dX8_advance_9 : decode cX8_advance 9 = .ok (.aload_n 0, 1) := by decide +kernel
theorem dX8_advance_10 : decode cX8_advance 10 = .ok (.getfield 9, 3) := by decide +kernel
theorem dX8_advance_13 : decode cX8_advance 13 = .ok (.putfield 15, 3) := by decide +kernel
theorem dX8_advance_16 : decode cX8_advance 16 = .ok (.aload_n 0, 1) := by decide +kernel
theorem dX8_advance_17 : decode cX8_advance 17 = .ok (.iconst 0, 1) := by decide +kernel
theorem dX8_advance_18 : decode cX8_advance 18 = .ok (.putfield 9, 3) := by decide +kernel
theorem dX8_advance_21 : decode cX8_advance 21 = .ok (.aload_n 0, 1) := by decide +kernel
theorem dX8_advance_22 : decode cX8_advance 22 = .ok (.getfield 30, 3) := by decide +kernel
theorem dX8_advance_25 : decode cX8_advance 25 = .ok (.lload_n 1, 1) := by decide +kernel
theorem dX8_advance_26 : decode cX8_advance 26 = .ok (.ladd, 1) := by decide +kernel
theorem dX8_advance_27 : decode cX8_advance 27 = .ok (.lstore_n 3, 1) := by decide +kernel
theorem dX8_advance_28 : decode cX8_advance 28 = .ok (.aload_n 0, 1) := by decide +kernel
theorem dX8_advance_29 : decode cX8_advance 29 = .ok (.getfield 18, 3) := by decide +kernel
theorem dX8_advance_32 : decode cX8_advance 32 = .ok (.getfield 39, 3) := by decide +kernel
theorem dX8_advance_35 : decode cX8_advance 35 = .ok (.ifCond .eq 25, 3) := by decide +kernel
theorem dX8_advance_38 : decode cX8_advance 38 = .ok (.aload_n 0, 1) := by decide +kernel
theorem dX8_advance_39 : decode cX8_advance 39 = .ok (.lload_n 3, 1) := by decide +kernel
theorem dX8_advance_40 : decode cX8_advance 40 = .ok (.ldc2_w 33, 3) := by decide +kernel
theorem dX8_advance_43 : decode cX8_advance 43 = .ok (.ldiv, 1) := by decide +kernel
theorem dX8_advance_44 : decode cX8_advance 44 = .ok (.putfield 22, 3) := by decide +kernel
theorem dX8_advance_47 : decode cX8_advance 47 = .ok (.aload_n 0, 1) := by decide +kernel
theorem dX8_advance_48 : decode cX8_advance 48 = .ok (.lload_n 3, 1) := by decide +kernel
theorem dX8_advance_49 : decode cX8_advance 49 = .ok (.ldc2_w 33, 3) := by decide +kernel
theorem dX8_advance_52 : decode cX8_advance 52 = .ok (.lrem, 1) := by decide +kernel
theorem dX8_advance_53 : decode cX8_advance 53 = .ok (.l2i, 1) := by decide +kernel
theorem dX8_advance_54 : decode cX8_advance 54 = .ok (.putfield 26, 3) := by decide +kernel
theorem dX8_advance_57 : decode cX8_advance 57 = .ok (.goto 15, 3) := by decide +kernel
theorem dX8_advance_60 : decode cX8_advance 60 = .ok (.aload_n 0, 1) := by decide +kernel
theorem dX8_advance_61 : decode cX8_advance 61 = .ok (.lload_n 3, 1) := by decide +kernel
theorem dX8_advance_62 : decode cX8_advance 62 = .ok (.ldc2_w 33, 3) := by decide +kernel
theorem dX8_advance_65 : decode cX8_advance 65 = .ok (.invokestatic 44, 3) := by decide +kernel
theorem dX8_advance_68 : decode cX8_advance 68 = .ok (.l2i, 1) := by decide +kernel
theorem dX8_advance_69 : decode cX8_advance 69 = .ok (.putfield 26, 3) := by decide +kernel
theorem dX8_advance_72 : decode cX8_advance 72 = .ok (.return_, 1) := by decide +kernel
theorem dX8_hasReached_0 : decode cX8_hasReached 0 = .ok (.aload_n 0, 1) := by decide +kernel
theorem dX8_hasReached_1 : decode cX8_hasReached 1 = .ok (.invokevirtual 35, 3) := by decide +kernel
theorem dX8_hasReached_4 : decode cX8_hasReached 4 = .ok (.lstore_n 3, 1) := by decide +kernel
theorem dX8_hasReached_5 : decode cX8_hasReached 5 = .ok (.lload_n 3, 1) := by decide +kernel
theorem dX8_hasReached_6 : decode cX8_hasReached 6 = .ok (.lload_n 1, 1) := by decide +kernel
theorem dX8_hasReached_7 : decode cX8_hasReached 7 = .ok (.lcmp, 1) := by decide +kernel
theorem dX8_hasReached_8 : decode cX8_hasReached 8 = .ok (.ifCond .ge 5, 3) := by decide +kernel
theorem dX8_hasReached_11 : decode cX8_hasReached 11 = .ok (.iconst 0, 1) := by decide +kernel
theorem dX8_hasReached_12 : decode cX8_hasReached 12 = .ok (.ireturn, 1) := by decide +kernel
theorem dX8_hasReached_13 : decode cX8_hasReached 13 = .ok (.aload_n 0, 1) := by decide +kernel
theorem dX8_hasReached_14 : decode cX8_hasReached 14 = .ok (.getfield 18, 3) := by decide +kernel
theorem dX8_hasReached_17 : decode cX8_hasReached 17 = .ok (.getfield 39, 3) := by decide +kernel
theorem dX8_hasReached_20 : decode cX8_hasReached 20 = .ok (.ifCond .eq 15, 3) := by decide +kernel
theorem dX8_hasReached_23 : decode cX8_hasReached 23 = .ok (.lload_n 3, 1) := by decide +kernel
theorem dX8_hasReached_24 : decode cX8_hasReached 24 = .ok (.lload_n 3, 1) := by decide +kernel
theorem dX8_hasReached_25 : decode cX8_hasReached 25 = .ok (.lload_n 1, 1) := by decide +kernel
theorem dX8_hasReached_26 : decode cX8_hasReached 26 = .ok (.lsub, 1) := by decide +kernel
theorem dX8_hasReached_27 : decode cX8_hasReached 27 = .ok (.ldc2_w 33, 3) := by decide +kernel
theorem dX8_hasReached_30 : decode cX8_hasReached 30 = .ok (.lrem, 1) := by decide +kernel
theorem dX8_hasReached_31 : decode cX8_hasReached 31 = .ok (.lsub, 1) := by decide +kernel
theorem dX8_hasReached_32 : decode cX8_hasReached 32 = .ok (.goto 4, 3) := by decide +kernel
theorem dX8_hasReached_35 : decode cX8_hasReached 35 = .ok (.lload_n 1, 1) := by decide +kernel
theorem dX8_hasReached_36 : decode cX8_hasReached 36 = .ok (.lstore 5, 2) := by decide +kernel
theorem dX8_hasReached_38 : decode cX8_hasReached 38 = .ok (.lload 5, 2) := by decide +kernel
theorem dX8_hasReached_40 : decode cX8_hasReached 40 = .ok (.aload_n 0, 1) := by decide +kernel
theorem dX8_hasReached_41 : decode cX8_hasReached 41 = .ok (.getfield 30, 3) := by decide +kernel
theorem dX8_hasReached_44 : decode cX8_hasReached 44 = .ok (.lcmp, 1) := by decide +kernel
theorem dX8_hasReached_45 : decode cX8_hasReached 45 = .ok (.ifCond .gt 20, 3) := by decide +kernel
theorem dX8_hasReached_48 : decode cX8_hasReached 48 = .ok (.aload_n 0, 1) := by decide +kernel
theorem dX8_hasReached_49 : decode cX8_hasReached 49 = .ok (.getfield 15, 3) := by decide +kernel
theorem dX8_hasReached_52 : decode cX8_hasReached 52 = .ok (.ifCond .eq 17, 3) := by decide +kernel
theorem dX8_hasReached_55 : decode cX8_hasReached 55 = .ok (.lload 5, 2) := by decide +kernel
theorem dX8_hasReached_57 : decode cX8_hasReached 57 = .ok (.aload_n 0, 1) := by decide +kernel
theorem dX8_hasReached_58 : decode cX8_hasReached 58 = .ok (.getfield 30, 3) := by decide +kernel
theorem dX8_hasReached_61 : decode cX8_hasReached 61 = .ok (.lcmp, 1) := by decide +kernel
theorem dX8_hasReached_62 : decode cX8_hasReached 62 = .ok (.ifCond .ne 7, 3) := by decide +kernel
theorem dX8_hasReached_65 : decode cX8_hasReached 65 = .ok (.iconst 1, 1) := by decide +kernel
theorem dX8_hasReached_66 : decode cX8_hasReached 66 = .ok (.goto 4, 3) := by decide +kernel
theorem dX8_hasReached_69 : decode cX8_hasReached 69 = .ok (.iconst 0, 1) := by decide +kernel
theorem dX8_hasReached_70 : decode cX8_hasReached 70 = .ok (.ireturn, 1) := by decide +kernel
theorem dX9_init_0 : decode cX9_init 0 = .ok (.aload_n 0, 1) := by decide +kernel
theorem dX9_init_1 : decode cX9_init 1 = .ok (.invokespecial 3, 3) := by decide +kernel
theorem dX9_init_4 : decode cX9_init 4 = .ok (.aload_n 0, 1) := by decide +kernel
theorem dX9_init_5 : decode cX9_init 5 = .ok (.iconst (-1), 1) := by decide +kernel
theorem dX9_init_6 : decode cX9_init 6 = .ok (.putfield 9, 3) := by decide +kernel
theorem dX9_init_9 : decode cX9_init 9 = .ok (.aload_n 0, 1) := by decide +kernel
theorem dX9_init_10 : decode cX9_init 10 = .ok (.iconst 3, 1) := by decide +kernel
theorem dX9_init_11 : decode cX9_init 11 = .ok (.newarray .int, 2) := by decide +kernel
theorem dX9_init_13 : decode cX9_init 13 = .ok (.putfield 15, 3) := by decide +kernel
theorem dX9_init_16 : decode cX9_init 16 = .ok (.aload_n 0, 1) := by decide +kernel
theorem dX9_init_17 : decode cX9_init 17 = .ok (.iconst 3, 1) := by decide +kernel
theorem dX9_init_18 : decode cX9_init 18 = .ok (.newarray .int, 2) := by decide +kernel
theorem dX9_init_20 : decode cX9_init 20 = .ok (.putfield 19, 3) := by decide +kernel
theorem dX9_init_23 : decode cX9_init 23 = .ok (.aload_n 0, 1) := by decide +kernel
theorem dX9_init_24 : decode cX9_init 24 = .ok (.iconst 3, 1) := by decide +kernel
theorem dX9_init_25 : decode cX9_init 25 = .ok (.newarray .int, 2) := by decide +kernel
theorem dX9_init_27 : decode cX9_init 27 = .ok (.putfield 22, 3) := by decide +kernel
theorem dX9_init_30 : decode cX9_init 30 = .ok (.aload_n 0, 1) := by decide +kernel
theorem dX9_init_31 : decode cX9_init 31 = .ok (.iload_n 1, 1) := by decide +kernel
theorem dX9_init_32 : decode cX9_init 32 = .ok (.putfield 25, 3) := by decide +kernel
theorem dX9_init_35 : decode cX9_init 35 = .ok (.aload_n 0, 1) := by decide +kernel
theorem dX9_init_36 : decode cX9_init 36 = .ok (.aload_n 2, 1) := by decide +kernel
theorem dX9_init_37 : decode cX9_init 37 = .ok (.putfield 28, 3) := by decide +kernel
theorem dX9_init_40 : decode cX9_init 40 = .ok (.return_, 1) := by decide +kernel
theorem dX9_begin_0 : decode cX9_begin 0 = .ok (.aload_n 0, 1) := by decide +kernel
theorem dX9_begin_1 : decode cX9_begin 1 = .ok (.aload_n 1, 1) := by decide +kernel
theorem dX9_begin_2 : decode cX9_begin 2 = .ok (.putfield 32, 3) := by decide +kernel
theorem dX9_begin_5 : decode cX9_begin 5 = .ok (.aload_n 0, 1) := by decide +kernel
theorem dX9_begin_6 : decode cX9_begin 6 = .ok (.aload_n 2, 1) := by decide +kernel
theorem dX9_begin_7 : decode cX9_begin 7 = .ok (.putfield 28, 3) := by decide +kernel
theorem dX9_begin_10 : decode cX9_begin 10 = .ok (.aload_n 0, 1) := by decide +kernel
theorem dX9_begin_11 : decode cX9_begin 11 = .ok (.iload_n 3, 1) := by decide +kernel
theorem dX9_begin_12 : decode cX9_begin 12 = .ok (.putfield 35, 3) := by decide +kernel
theorem dX9_begin_15 : decode cX9_begin 15 = .ok (.aload_n 0, 1) := by decide +kernel
theorem dX9_begin_16 : decode cX9_begin 16 = .ok (.iconst (-1), 1) := by decide +kernel
theorem dX9_begin_17 : decode cX9_begin 17 = .ok (.putfield 9, 3) := by decide +kernel
theorem dX9_begin_20 : decode cX9_begin 20 = .ok (.aload_n 0, 1) := by decide +kernel
theorem dX9_begin_21 : decode cX9_begin 21 = .ok (.iconst 0, 1) := by decide +kernel
theorem dX9_begin_22 : decode cX9_begin 22 = .ok (.putfield 38, 3) := by decide +kernel
theorem dX9_begin_25 : decode cX9_begin 25 = .ok (.aload_n 0, 1) := by decide +kernel
theorem dX9_begin_26 : decode cX9_begin 26 = .ok (.iconst 0, 1) := by decide +kernel
theorem dX9_begin_27 : decode cX9_begin 27 = .ok (.putfield 41, 3) := by decide +kernel
theorem dX9_begin_30 : decode cX9_begin 30 = .ok (.aload_n 0, 1) := by decide +kernel
theorem dX9_begin_31 : decode cX9_begin 31 = .ok (.iconst 0, 1) := by decide +kernel
theorem dX9_begin_32 : decode cX9_begin 32 = .ok (.putfield 44, 3) := by decide +kernel
theorem dX9_begin_35 : decode cX9_begin 35 = .ok (.aload_n 0, 1) := by decide +kernel
theorem dX9_begin_36 : decode cX9_begin 36 = .ok (.iconst 0, 1) := by decide +kernel
theorem dX9_begin_37 : decode cX9_begin 37 = .ok (.putfield 48, 3) := by decide +kernel
theorem dX9_begin_40 : decode cX9_begin 40 = .ok (.return_, 1) := by decide +kernel
theorem dX9_appendCondition_0 : decode cX9_appendCondition 0 = .ok (.aload_n 0, 1) := by decide +kernel
theorem dX9_appendCondition_1 : decode cX9_appendCondition 1 = .ok (.getfield 48, 3) := by decide +kernel
theorem dX9_appendCondition_4 : decode cX9_appendCondition 4 = .ok (.ifCond .lt 51, 3) := by decide +kernel
theorem dX9_appendCondition_7 : decode cX9_appendCondition 7 = .ok (.aload_n 0, 1) := by decide +kernel
theorem dX9_appendCondition_8 : decode cX9_appendCondition 8 = .ok (.getfield 48, 3) := by decide +kernel
theorem dX9_appendCondition_11 : decode cX9_appendCondition 11 = .ok (.iconst 3, 1) := by decide +kernel
theorem dX9_appendCondition_12 : decode cX9_appendCondition 12 = .ok (.if_icmp .ge 43, 3) := by decide +kernel
theorem dX9_appendCondition_15 : decode cX9_appendCondition 15 = .ok (.aload_n 0, 1) := by decide +kernel
theorem dX9_appendCondition_16 : decode cX9_appendCondition 16 = .ok (.getfield 15, 3) := by decide +kernel
theorem dX9_appendCondition_19 : decode cX9_appendCondition 19 = .ok (.aload_n 0, 1) := by decide +kernel
theorem dX9_appendCondition_20 : decode cX9_appendCondition 20 = .ok (.getfield 48, 3) := by decide +kernel
theorem dX9_appendCondition_23 : decode cX9_appendCondition 23 = .ok (.iload_n 1, 1) := by decide +kernel
theorem dX9_appendCondition_24 : decode cX9_appendCondition 24 = .ok (.iastore, 1) := by decide +kernel
theorem dX9_appendCondition_25 : decode cX9_appendCondition 25 = .ok (.aload_n 0, 1) := by decide +kernel
theorem dX9_appendCondition_26 : decode cX9_appendCondition 26 = .ok (.getfield 19, 3) := by decide +kernel
theorem dX9_appendCondition_29 : decode cX9_appendCondition 29 = .ok (.aload_n 0, 1) := by decide +kernel
theorem dX9_appendCondition_30 : decode cX9_appendCondition 30 = .ok (.getfield 48, 3) := by decide +kernel
theorem dX9_appendCondition_33 : decode cX9_appendCondition 33 = .ok (.iload_n 2, 1) := by decide +kernel
theorem dX9_appendCondition_34 : decode cX9_appendCondition 34 = .ok (.iastore, 1) := by decide +kernel
theorem dX9_appendCondition_35 : decode cX9_appendCondition 35 = .ok (.aload_n 0, 1) := by decide +kernel
theorem dX9_appendCondition_36 : decode cX9_appendCondition 36 = .ok (.getfield 22, 3) := by decide +kernel
theorem dX9_appendCondition_39 : decode cX9_appendCondition 39 = .ok (.aload_n 0, 1) := by decide +kernel
theorem dX9_appendCondition_40 : decode cX9_appendCondition 40 = .ok (.getfield 48, 3) := by decide +kernel
theorem dX9_appendCondition_43 : decode cX9_appendCondition 43 = .ok (.iload_n 3, 1) := by decide +kernel
theorem dX9_appendCondition_44 : decode cX9_appendCondition 44 = .ok (.iastore, 1) := by decide +kernel
theorem dX9_appendCondition_45 : decode cX9_appendCondition 45 = .ok (.aload_n 0, 1) := by decide +kernel
theorem dX9_appendCondition_46 : decode cX9_appendCondition 46 = .ok (.dup, 1) := by decide +kernel
theorem dX9_appendCondition_47 : decode cX9_appendCondition 47 = .ok (.getfield 48, 3) := by decide +kernel
theorem dX9_appendCondition_50 : decode cX9_appendCondition 50 = .ok (.iconst 1, 1) := by decide +kernel
theorem dX9_appendCondition_51 : decode cX9_appendCondition 51 = .ok (.iadd, 1) := by decide +kernel
theorem dX9_appendCondition_52 : decode cX9_appendCondition 52 = .ok (.putfield 48, 3) := by decide +kernel
theorem dX9_appendCondition_55 : decode cX9_appendCondition 55 = .ok (.return_, 1) := by decide +kernel
theorem dX9_isListed_0 : decode cX9_isListed 0 = .ok (.aload_n 0, 1) := by decide +kernel
theorem dX9_isListed_1 : decode cX9_isListed 1 = .ok (.getfield 32, 3) := by decide +kernel
theorem dX9_isListed_4 : decode cX9_isListed 4 = .ok (.ifnonnull 19, 3) := by decide +kernel
theorem dX9_isListed_7 : decode cX9_isListed 7 = .ok (.aload_n 0, 1) := by decide +kernel
theorem dX9_isListed_8 : decode cX9_isListed 8 = .ok (.getfield 28, 3) := by decide +kernel
theorem dX9_isListed_11 : decode cX9_isListed 11 = .ok (.aload_n 2, 1) := by decide +kernel
theorem dX9_isListed_12 : decode cX9_isListed 12 = .ok (.if_acmp .eq 7, 3) := by decide +kernel
theorem dX9_isListed_15 : decode cX9_isListed 15 = .ok (.iconst 1, 1) := by decide +kernel
theorem dX9_isListed_16 : decode cX9_isListed 16 = .ok (.goto 20, 3) := by decide +kernel
theorem dX9_isListed_19 : decode cX9_isListed 19 = .ok (.iconst 0, 1) := by decide +kernel
theorem dX9_isListed_20 : decode cX9_isListed 20 = .ok (.goto 16, 3) := by decide +kernel
theorem dX9_isListed_23 : decode cX9_isListed 23 = .ok (.aload_n 0, 1) := by decide +kernel
theorem dX9_isListed_24 : decode cX9_isListed 24 = .ok (.getfield 32, 3) := by decide +kernel
theorem dX9_isListed_27 : decode cX9_isListed 27 = .ok (.aload_n 1, 1) := by decide +kernel
theorem dX9_isListed_28 : decode cX9_isListed 28 = .ok (.if_acmp .ne 7, 3) := by decide +kernel
theorem dX9_isListed_31 : decode cX9_isListed 31 = .ok (.iconst 1, 1) := by decide +kernel
theorem dX9_isListed_32 : decode cX9_isListed 32 = .ok (.goto 4, 3) := by decide +kernel
theorem dX9_isListed_35 : decode cX9_isListed 35 = .ok (.iconst 0, 1) := by decide +kernel
theorem dX9_isListed_36 : decode cX9_isListed 36 = .ok (.ireturn, 1) := by decide +kernel
theorem dX9_holds_0 : decode cX9_holds 0 = .ok (.iload_n 1, 1) := by decide +kernel
theorem dX9_holds_1 : decode cX9_holds 1 = .ok (.ifCond .lt 16, 3) := by decide +kernel
theorem dX9_holds_4 : decode cX9_holds 4 = .ok (.iload_n 1, 1) := by decide +kernel
theorem dX9_holds_5 : decode cX9_holds 5 = .ok (.aload_n 0, 1) := by decide +kernel
theorem dX9_holds_6 : decode cX9_holds 6 = .ok (.getfield 48, 3) := by decide +kernel
theorem dX9_holds_9 : decode cX9_holds 9 = .ok (.if_icmp .ge 8, 3) := by decide +kernel
theorem dX9_holds_12 : decode cX9_holds 12 = .ok (.iload_n 1, 1) := by decide +kernel
theorem dX9_holds_13 : decode cX9_holds 13 = .ok (.iconst 3, 1) := by decide +kernel
theorem dX9_holds_14 : decode cX9_holds 14 = .ok (.if_icmp .lt 5, 3) := by decide +kernel
theorem dX9_holds_17 : decode cX9_holds 17 = .ok (.iconst 0, 1) := by decide +kernel
theorem dX9_holds_18 : decode cX9_holds 18 = .ok (.ireturn, 1) := by decide +kernel
theorem dX9_holds_19 : decode cX9_holds 19 = .ok (.aload_n 0, 1) := by decide +kernel
theorem dX9_holds_20 : decode cX9_holds 20 = .ok (.getfield 22, 3) := by decide +kernel
theorem dX9_holds_23 : decode cX9_holds 23 = .ok (.iload_n 1, 1) := by decide +kernel
theorem dX9_holds_24 : decode cX9_holds 24 = .ok (.iaload, 1) := by decide +kernel
theorem dX9_holds_25 : decode cX9_holds 25 = .ok (.istore_n 3, 1) := by decide +kernel
theorem dX9_holds_26 : decode cX9_holds 26 = .ok (.aload_n 0, 1) := by decide +kernel
theorem dX9_holds_27 : decode cX9_holds 27 = .ok (.getfield 19, 3) := by decide +kernel
theorem dX9_holds_30 : decode cX9_holds 30 = .ok (.iload_n 1, 1) := by decide +kernel
theorem dX9_holds_31 : decode cX9_holds 31 = .ok (.iaload, 1) := by decide +kernel
theorem dX9_holds_32 : decode cX9_holds 32 = .ok (.tableswitch 61 0 2 #[28, 39, 50], 28) := by decide +kernel
theorem dX9_holds_60 : decode cX9_holds 60 = .ok (.iload_n 2, 1) := by decide +kernel
theorem dX9_holds_61 : decode cX9_holds 61 = .ok (.iload_n 3, 1) := by decide +kernel
theorem dX9_holds_62 : decode cX9_holds 62 = .ok (.if_icmp .le 7, 3) := by decide +kernel
theorem dX9_holds_65 : decode cX9_holds 65 = .ok (.iconst 1, 1) := by decide +kernel
theorem dX9_holds_66 : decode cX9_holds 66 = .ok (.goto 4, 3) := by decide +kernel
theorem dX9_holds_69 : decode cX9_holds 69 = .ok (.iconst 0, 1) := by decide +kernel
theorem dX9_holds_70 : decode cX9_holds 70 = .ok (.ireturn, 1) := by decide +kernel
theorem dX9_holds_71 : decode cX9_holds 71 = .ok (.iload_n 2, 1) := by decide +kernel
theorem dX9_holds_72 : decode cX9_holds 72 = .ok (.iload_n 3, 1) := by decide +kernel
theorem dX9_holds_73 : decode cX9_holds 73 = .ok (.if_icmp .ge 7, 3) := by decide +kernel
theorem dX9_holds_76 : decode cX9_holds 76 = .ok (.iconst 1, 1) := by decide +kernel
theorem dX9_holds_77 : decode cX9_holds 77 = .ok (.goto 4, 3) := by decide +kernel
theorem dX9_holds_80 : decode cX9_holds 80 = .ok (.iconst 0, 1) := by decide +kernel
theorem dX9_holds_81 : decode cX9_holds 81 = .ok (.ireturn, 1) := by decide +kernel
theorem dX9_holds_82 : decode cX9_holds 82 = .ok (.iload_n 2, 1) := by decide +kernel
theorem dX9_holds_83 : decode cX9_holds 83 = .ok (.iload_n 3, 1) := by decide +kernel
theorem dX9_holds_84 : decode cX9_holds 84 = .ok (.if_icmp .ne 7, 3) := by decide +kernel
theorem dX9_holds_87 : decode cX9_holds 87 = .ok (.iconst 1, 1) := by decide +kernel
theorem dX9_holds_88 : decode cX9_holds 88 = .ok (.goto 4, 3) := by decide +kernel
theorem dX9_holds_91 : decode cX9_holds 91 = .ok (.iconst 0, 1) := by decide +kernel
theorem dX9_holds_92 : decode cX9_holds 92 = .ok (.ireturn, 1) := by decide +kernel
theorem dX9_holds_93 : decode cX9_holds 93 = .ok (.iload_n 2, 1) := by decide +kernel
theorem dX9_holds_94 : decode cX9_holds 94 = .ok (.iload_n 3, 1) := by decide +kernel
theorem dX9_holds_95 : decode cX9_holds 95 = .ok (.if_icmp .eq 7, 3) := by decide +kernel
theorem dX9_holds_98 : decode cX9_holds 98 = .ok (.iconst 1, 1) := by decide +kernel
theorem dX9_holds_99 : decode cX9_holds 99 = .ok (.goto 4, 3) := by decide +kernel
theorem dX9_holds_102 : decode cX9_holds 102 = .ok (.iconst 0, 1) := by decide +kernel
theorem dX9_holds_103 : decode cX9_holds 103 = .ok (.ireturn, 1) := by decide +kernel
theorem dX10_init_0 : decode cX10_init 0 = .ok (.aload_n 0, 1) := by decide +kernel
theorem dX10_init_1 : decode cX10_init 1 = .ok (.invokespecial 3, 3) := by decide +kernel
theorem dX10_init_4 : decode cX10_init 4 = .ok (.aload_n 0, 1) := by decide +kernel
theorem dX10_init_5 : decode cX10_init 5 = .ok (.sipush 150, 3) := by decide +kernel
theorem dX10_init_8 : decode cX10_init 8 = .ok (.newarray .int, 2) := by decide +kernel
theorem dX10_init_10 : decode cX10_init 10 = .ok (.putfield 9, 3) := by decide +kernel
theorem dX10_init_13 : decode cX10_init 13 = .ok (.aload_n 0, 1) := by decide +kernel
theorem dX10_init_14 : decode cX10_init 14 = .ok (.aload_n 1, 1) := by decide +kernel
theorem dX10_init_15 : decode cX10_init 15 = .ok (.putfield 15, 3) := by decide +kernel
theorem dX10_init_18 : decode cX10_init 18 = .ok (.aload_n 0, 1) := by decide +kernel
theorem dX10_init_19 : decode cX10_init 19 = .ok (.new 19, 3) := by decide +kernel
theorem dX10_init_22 : decode cX10_init 22 = .ok (.dup, 1) := by decide +kernel
theorem dX10_init_23 : decode cX10_init 23 = .ok (.iconst (-1), 1) := by decide +kernel
theorem dX10_init_24 : decode cX10_init 24 = .ok (.aload_n 1, 1) := by decide +kernel
theorem dX10_init_25 : decode cX10_init 25 = .ok (.getfield 21, 3) := by decide +kernel
theorem dX10_init_28 : decode cX10_init 28 = .ok (.invokespecial 27, 3) := by decide +kernel
theorem dX10_init_31 : decode cX10_init 31 = .ok (.putfield 30, 3) := by decide +kernel
theorem dX10_init_34 : decode cX10_init 34 = .ok (.return_, 1) := by decide +kernel
theorem dX11_init_0 : decode cX11_init 0 = .ok (.aload_n 0, 1) := by decide +kernel
theorem dX11_init_1 : decode cX11_init 1 = .ok (.invokespecial 3, 3) := by decide +kernel
theorem dX11_init_4 : decode cX11_init 4 = .ok (.aload_n 0, 1) := by decide +kernel
theorem dX11_init_5 : decode cX11_init 5 = .ok (.new 9, 3) := by decide +kernel
theorem dX11_init_8 : decode cX11_init 8 = .ok (.dup, 1) := by decide +kernel
theorem dX11_init_9 : decode cX11_init 9 = .ok (.invokespecial 11, 3) := by decide +kernel
theorem dX11_init_12 : decode cX11_init 12 = .ok (.putfield 12, 3) := by decide +kernel
theorem dX11_init_15 : decode cX11_init 15 = .ok (.aload_n 0, 1) := by decide +kernel
theorem dX11_init_16 : decode cX11_init 16 = .ok (.new 16, 3) := by decide +kernel
theorem dX11_init_19 : decode cX11_init 19 = .ok (.dup, 1) := by decide +kernel
theorem dX11_init_20 : decode cX11_init 20 = .ok (.aload_n 0, 1) := by decide +kernel
theorem dX11_init_21 : decode cX11_init 21 = .ok (.getfield 12, 3) := by decide +kernel
theorem dX11_init_24 : decode cX11_init 24 = .ok (.invokespecial 18, 3) := by decide +kernel
theorem dX11_init_27 : decode cX11_init 27 = .ok (.putfield 21, 3) := by decide +kernel
theorem dX11_init_30 : decode cX11_init 30 = .ok (.aload_n 0, 1) := by decide +kernel
theorem dX11_init_31 : decode cX11_init 31 = .ok (.new 25, 3) := by decide +kernel
theorem dX11_init_34 : decode cX11_init 34 = .ok (.dup, 1) := by decide +kernel
theorem dX11_init_35 : decode cX11_init 35 = .ok (.aload_n 0, 1) := by decide +kernel
theorem dX11_init_36 : decode cX11_init 36 = .ok (.getfield 12, 3) := by decide +kernel
theorem dX11_init_39 : decode cX11_init 39 = .ok (.invokespecial 27, 3) := by decide +kernel
theorem dX11_init_42 : decode cX11_init 42 = .ok (.putfield 28, 3) := by decide +kernel
theorem dX11_init_45 : decode cX11_init 45 = .ok (.aload_n 0, 1) := by decide +kernel
theorem dX11_init_46 : decode cX11_init 46 = .ok (.new 25, 3) := by decide +kernel
theorem dX11_init_49 : decode cX11_init 49 = .ok (.dup, 1) := by decide +kernel
theorem dX11_init_50 : decode cX11_init 50 = .ok (.aload_n 0, 1) := by decide +kernel
theorem dX11_init_51 : decode cX11_init 51 = .ok (.getfield 12, 3) := by decide +kernel
theorem dX11_init_54 : decode cX11_init 54 = .ok (.invokespecial 27, 3) := by decide +kernel
theorem dX11_init_57 : decode cX11_init 57 = .ok (.putfield 32, 3) := by decide +kernel
theorem dX11_init_60 : decode cX11_init 60 = .ok (.aload_n 0, 1) := by decide +kernel
theorem dX11_init_61 : decode cX11_init 61 = .ok (.iconst 2, 1) := by decide +kernel
theorem dX11_init_62 : decode cX11_init 62 = .ok (.anewarray 25, 3) := by decide +kernel
theorem dX11_init_65 : decode cX11_init 65 = .ok (.putfield 35, 3) := by decide +kernel
theorem dX11_init_68 : decode cX11_init 68 = .ok (.iconst 0, 1) := by decide +kernel
theorem dX11_init_69 : decode cX11_init 69 = .ok (.istore_n 1, 1) := by decide +kernel
theorem dX11_init_70 : decode cX11_init 70 = .ok (.iload_n 1, 1) := by decide +kernel
theorem dX11_init_71 : decode cX11_init 71 = .ok (.aload_n 0, 1) := by decide +kernel
theorem dX11_init_72 : decode cX11_init 72 = .ok (.getfield 35, 3) := by decide +kernel
theorem dX11_init_75 : decode cX11_init 75 = .ok (.arraylength, 1) := by decide +kernel
theorem dX11_init_76 : decode cX11_init 76 = .ok (.if_icmp .ge 26, 3) := by decide +kernel
theorem dX11_init_79 : decode cX11_init 79 = .ok (.aload_n 0, 1) := by decide +kernel
theorem dX11_init_80 : decode cX11_init 80 = .ok (.getfield 35, 3) := by decide +kernel
theorem dX11_init_83 : decode cX11_init 83 = .ok (.iload_n 1, 1) := by decide +kernel
theorem dX11_init_84 : decode cX11_init 84 = .ok (.new 25, 3) := by decide +kernel
theorem dX11_init_87 : decode cX11_init 87 = .ok (.dup, 1) := by decide +kernel
theorem dX11_init_88 : decode cX11_init 88 = .ok (.aload_n 0, 1) := by decide +kernel
theorem dX11_init_89 : decode cX11_init 89 = .ok (.getfield 12, 3) := by decide +kernel
theorem dX11_init_92 : decode cX11_init 92 = .ok (.invokespecial 27, 3) := by decide +kernel
theorem dX11_init_95 : decode cX11_init 95 = .ok (.aastore, 1) := by decide +kernel
theorem dX11_init_96 : decode cX11_init 96 = .ok (.iinc 1 1, 3) := by decide +kernel
theorem dX11_init_99 : decode cX11_init 99 = .ok (.goto (-29), 3) := by decide +kernel
theorem dX11_init_102 : decode cX11_init 102 = .ok (.aload_n 0, 1) := by decide +kernel
theorem dX11_init_103 : decode cX11_init 103 = .ok (.iconst 2, 1) := by decide +kernel
theorem dX11_init_104 : decode cX11_init 104 = .ok (.newarray .boolean, 2) := by decide +kernel
theorem dX11_init_106 : decode cX11_init 106 = .ok (.putfield 39, 3) := by decide +kernel
theorem dX11_init_109 : decode cX11_init 109 = .ok (.aload_n 0, 1) := by decide +kernel
theorem dX11_init_110 : decode cX11_init 110 = .ok (.bipush 10, 2) := by decide +kernel
theorem dX11_init_112 : decode cX11_init 112 = .ok (.newarray .int, 2) := by decide +kernel
theorem dX11_init_114 : decode cX11_init 114 = .ok (.putfield 43, 3) := by decide +kernel
theorem dX11_init_117 : decode cX11_init 117 = .ok (.return_, 1) := by decide +kernel
theorem dX11_addParameter_0 : decode cX11_addParameter 0 = .ok (.iload_n 1, 1) := by decide +kernel
theorem dX11_addParameter_1 : decode cX11_addParameter 1 = .ok (.ifCond .lt 8, 3) := by decide +kernel
theorem dX11_addParameter_4 : decode cX11_addParameter 4 = .ok (.iload_n 1, 1) := by decide +kernel
theorem dX11_addParameter_5 : decode cX11_addParameter 5 = .ok (.iconst 2, 1) := by decide +kernel
theorem dX11_addParameter_6 : decode cX11_addParameter 6 = .ok (.if_icmp .le 13, 3) := by decide +kernel
theorem dX11_addParameter_9 : decode cX11_addParameter 9 = .ok (.new 47, 3) := by decide +kernel
theorem dX11_addParameter_12 : decode cX11_addParameter 12 = .ok (.dup, 1) := by decide +kernel
theorem dX11_addParameter_13 : decode cX11_addParameter 13 = .ok (.ldc 49, 2) := by decide +kernel
theorem dX11_addParameter_15 : decode cX11_addParameter 15 = .ok (.invokespecial 51, 3) := by decide +kernel
theorem dX11_addParameter_18 : decode cX11_addParameter 18 = .ok (.athrow, 1) := by decide +kernel
theorem dX11_addParameter_19 : decode cX11_addParameter 19 = .ok (.aload_n 0, 1) := by decide +kernel
theorem dX11_addParameter_20 : decode cX11_addParameter 20 = .ok (.getfield 12, 3) := by decide +kernel
theorem dX11_addParameter_23 : decode cX11_addParameter 23 = .ok (.getfield 54, 3) := by decide +kernel
theorem dX11_addParameter_26 : decode cX11_addParameter 26 = .ok (.aload_n 0, 1) := by decide +kernel
theorem dX11_addParameter_27 : decode cX11_addParameter 27 = .ok (.getfield 12, 3) := by decide +kernel
theorem dX11_addParameter_30 : decode cX11_addParameter 30 = .ok (.getfield 58, 3) := by decide +kernel
theorem dX11_addParameter_33 : decode cX11_addParameter 33 = .ok (.arraylength, 1) := by decide +kernel
theorem dX11_addParameter_34 : decode cX11_addParameter 34 = .ok (.if_icmp .lt 13, 3) := by decide +kernel
theorem dX11_addParameter_37 : decode cX11_addParameter 37 = .ok (.new 61, 3) := by decide +kernel
theorem dX11_addParameter_40 : decode cX11_addParameter 40 = .ok (.dup, 1) := by decide +kernel
theorem dX11_addParameter_41 : decode cX11_addParameter 41 = .ok (.ldc 63, 2) := by decide +kernel
theorem dX11_addParameter_43 : decode cX11_addParameter 43 = .ok (.invokespecial 65, 3) := by decide +kernel
theorem dX11_addParameter_46 : decode cX11_addParameter 46 = .ok (.athrow, 1) := by decide +kernel
theorem dX11_addParameter_47 : decode cX11_addParameter 47 = .ok (.aload_n 0, 1) := by decide +kernel
theorem dX11_addParameter_48 : decode cX11_addParameter 48 = .ok (.getfield 12, 3) := by decide +kernel
theorem dX11_addParameter_51 : decode cX11_addParameter 51 = .ok (.getfield 58, 3) := by decide +kernel
theorem dX11_addParameter_54 : decode cX11_addParameter 54 = .ok (.aload_n 0, 1) := by decide +kernel
theorem dX11_addParameter_55 : decode cX11_addParameter 55 = .ok (.getfield 12, 3) := by decide +kernel
theorem dX11_addParameter_58 : decode cX11_addParameter 58 = .ok (.getfield 54, 3) := by decide +kernel
theorem dX11_addParameter_61 : decode cX11_addParameter 61 = .ok (.iload_n 1, 1) := by decide +kernel
theorem dX11_addParameter_62 : decode cX11_addParameter 62 = .ok (.iastore, 1) := by decide +kernel
theorem dX11_addParameter_63 : decode cX11_addParameter 63 = .ok (.aload_n 0, 1) := by decide +kernel
theorem dX11_addParameter_64 : decode cX11_addParameter 64 = .ok (.getfield 12, 3) := by decide +kernel
theorem dX11_addParameter_67 : decode cX11_addParameter 67 = .ok (.dup, 1) := by decide +kernel
theorem dX11_addParameter_68 : decode cX11_addParameter 68 = .ok (.getfield 54, 3) := by decide +kernel
theorem dX11_addParameter_71 : decode cX11_addParameter 71 = .ok (.iconst 1, 1) := by decide +kernel
theorem dX11_addParameter_72 : decode cX11_addParameter 72 = .ok (.iadd, 1) := by decide +kernel
theorem dX11_addParameter_73 : decode cX11_addParameter 73 = .ok (.putfield 54, 3) := by decide +kernel
theorem dX11_addParameter_76 : decode cX11_addParameter 76 = .ok (.aload_n 0, 1) := by decide +kernel
theorem dX11_addParameter_77 : decode cX11_addParameter 77 = .ok (.getfield 12, 3) := by decide +kernel
theorem dX11_addParameter_80 : decode cX11_addParameter 80 = .ok (.getfield 54, 3) := by decide +kernel
theorem dX11_addParameter_83 : decode cX11_addParameter 83 = .ok (.iconst 1, 1) := by decide +kernel
theorem dX11_addParameter_84 : decode cX11_addParameter 84 = .ok (.isub, 1) := by decide +kernel
theorem dX11_addParameter_85 : decode cX11_addParameter 85 = .ok (.ireturn, 1) := by decide +kernel
theorem dX11_set_0 : decode cX11_set 0 = .ok (.aload_n 0, 1) := by decide +kernel
theorem dX11_set_1 : decode cX11_set 1 = .ok (.iload_n 1, 1) := by decide +kernel
theorem dX11_set_2 : decode cX11_set 2 = .ok (.invokevirtual 66, 3) := by decide +kernel
theorem dX11_set_5 : decode cX11_set 5 = .ok (.aload_n 0, 1) := by decide +kernel
theorem dX11_set_6 : decode cX11_set 6 = .ok (.getfield 12, 3) := by decide +kernel
theorem dX11_set_9 : decode cX11_set 9 = .ok (.iload_n 1, 1) := by decide +kernel
theorem dX11_set_10 : decode cX11_set 10 = .ok (.iload_n 2, 1) := by decide +kernel
theorem dX11_set_11 : decode cX11_set 11 = .ok (.invokevirtual 70, 3) := by decide +kernel
theorem dX11_set_14 : decode cX11_set 14 = .ok (.ifCond .ne 13, 3) := by decide +kernel
theorem dX11_set_17 : decode cX11_set 17 = .ok (.new 47, 3) := by decide +kernel
theorem dX11_set_20 : decode cX11_set 20 = .ok (.dup, 1) := by decide +kernel
theorem dX11_set_21 : decode cX11_set 21 = .ok (.ldc 74, 2) := by decide +kernel
theorem dX11_set_23 : decode cX11_set 23 = .ok (.invokespecial 51, 3) := by decide +kernel
theorem dX11_set_26 : decode cX11_set 26 = .ok (.athrow, 1) := by decide +kernel
theorem dX11_set_27 : decode cX11_set 27 = .ok (.aload_n 0, 1) := by decide +kernel
theorem dX11_set_28 : decode cX11_set 28 = .ok (.getfield 28, 3) := by decide +kernel
theorem dX11_set_31 : decode cX11_set 31 = .ok (.iload_n 1, 1) := by decide +kernel
theorem dX11_set_32 : decode cX11_set 32 = .ok (.invokevirtual 76, 3) := by decide +kernel
theorem dX11_set_35 : decode cX11_set 35 = .ok (.istore_n 3, 1) := by decide +kernel
theorem dX11_set_36 : decode cX11_set 36 = .ok (.aload_n 0, 1) := by decide +kernel
theorem dX11_set_37 : decode cX11_set 37 = .ok (.getfield 28, 3) := by decide +kernel
theorem dX11_set_40 : decode cX11_set 40 = .ok (.iload_n 1, 1) := by decide +kernel
theorem dX11_set_41 : decode cX11_set 41 = .ok (.iload_n 2, 1) := by decide +kernel
theorem dX11_set_42 : decode cX11_set 42 = .ok (.invokevirtual 80, 3) := by decide +kernel
theorem dX11_set_45 : decode cX11_set 45 = .ok (.iload_n 3, 1) := by decide +kernel
theorem dX11_set_46 : decode cX11_set 46 = .ok (.ireturn, 1) := by decide +kernel
theorem dX11_value_0 : decode cX11_value 0 = .ok (.aload_n 0, 1) := by decide +kernel
theorem dX11_value_1 : decode cX11_value 1 = .ok (.iload_n 1, 1) := by decide +kernel
theorem dX11_value_2 : decode cX11_value 2 = .ok (.invokevirtual 66, 3) := by decide +kernel
theorem dX11_value_5 : decode cX11_value 5 = .ok (.aload_n 0, 1) := by decide +kernel
theorem dX11_value_6 : decode cX11_value 6 = .ok (.getfield 28, 3) := by decide +kernel
theorem dX11_value_9 : decode cX11_value 9 = .ok (.iload_n 1, 1) := by decide +kernel
theorem dX11_value_10 : decode cX11_value 10 = .ok (.invokevirtual 76, 3) := by decide +kernel
theorem dX11_value_13 : decode cX11_value 13 = .ok (.ireturn, 1) := by decide +kernel
theorem dX11_addClip_0 : decode cX11_addClip 0 = .ok (.iload_n 1, 1) := by decide +kernel
theorem dX11_addClip_1 : decode cX11_addClip 1 = .ok (.iconst 1, 1) := by decide +kernel
theorem dX11_addClip_2 : decode cX11_addClip 2 = .ok (.if_icmp .lt 10, 3) := by decide +kernel
theorem dX11_addClip_5 : decode cX11_addClip 5 = .ok (.iload_n 1, 1) := by decide +kernel
theorem dX11_addClip_6 : decode cX11_addClip 6 = .ok (.sipush 500, 3) := by decide +kernel
theorem dX11_addClip_9 : decode cX11_addClip 9 = .ok (.if_icmp .le 13, 3) := by decide +kernel
theorem dX11_addClip_12 : decode cX11_addClip 12 = .ok (.new 47, 3) := by decide +kernel
theorem dX11_addClip_15 : decode cX11_addClip 15 = .ok (.dup, 1) := by decide +kernel
theorem dX11_addClip_16 : decode cX11_addClip 16 = .ok (.ldc 84, 2) := by decide +kernel
theorem dX11_addClip_18 : decode cX11_addClip 18 = .ok (.invokespecial 51, 3) := by decide +kernel
theorem dX11_addClip_21 : decode cX11_addClip 21 = .ok (.athrow, 1) := by decide +kernel
theorem dX11_addClip_22 : decode cX11_addClip 22 = .ok (.aload_n 0, 1) := by decide +kernel
theorem dX11_addClip_23 : decode cX11_addClip 23 = .ok (.getfield 12, 3) := by decide +kernel
theorem dX11_addClip_26 : decode cX11_addClip 26 = .ok (.getfield 86, 3) := by decide +kernel
theorem dX11_addClip_29 : decode cX11_addClip 29 = .ok (.invokevirtual 90, 3) := by decide +kernel
theorem dX11_addClip_32 : decode cX11_addClip 32 = .ok (.bipush 12, 2) := by decide +kernel
theorem dX11_addClip_34 : decode cX11_addClip 34 = .ok (.if_icmp .lt 13, 3) := by decide +kernel
theorem dX11_addClip_37 : decode cX11_addClip 37 = .ok (.new 61, 3) := by decide +kernel
theorem dX11_addClip_40 : decode cX11_addClip 40 = .ok (.dup, 1) := by decide +kernel
theorem dX11_addClip_41 : decode cX11_addClip 41 = .ok (.ldc 96, 2) := by decide +kernel
theorem dX11_addClip_43 : decode cX11_addClip 43 = .ok (.invokespecial 65, 3) := by decide +kernel
theorem dX11_addClip_46 : decode cX11_addClip 46 = .ok (.athrow, 1) := by decide +kernel
theorem dX11_addClip_47 : decode cX11_addClip 47 = .ok (.aload_n 0, 1) := by decide +kernel
theorem dX11_addClip_48 : decode cX11_addClip 48 = .ok (.getfield 12, 3) := by decide +kernel
theorem dX11_addClip_51 : decode cX11_addClip 51 = .ok (.getfield 86, 3) := by decide +kernel
theorem dX11_addClip_54 : decode cX11_addClip 54 = .ok (.new 98, 3) := by decide +kernel
theorem dX11_addClip_57 : decode cX11_addClip 57 = .ok (.dup, 1) := by decide +kernel
theorem dX11_addClip_58 : decode cX11_addClip 58 = .ok (.aload_n 0, 1) := by decide +kernel
theorem dX11_addClip_59 : decode cX11_addClip 59 = .ok (.getfield 12, 3) := by decide +kernel
theorem dX11_addClip_62 : decode cX11_addClip 62 = .ok (.getfield 86, 3) := by decide +kernel
theorem dX11_addClip_65 : decode cX11_addClip 65 = .ok (.invokevirtual 90, 3) := by decide +kernel
theorem dX11_addClip_68 : decode cX11_addClip 68 = .ok (.iload_n 1, 1) := by decide +kernel
theorem dX11_addClip_69 : decode cX11_addClip 69 = .ok (.invokespecial 100, 3) := by decide +kernel
theorem dX11_addClip_72 : decode cX11_addClip 72 = .ok (.invokevirtual 102, 3) := by decide +kernel
theorem dX11_addClip_75 : decode cX11_addClip 75 = .ok (.pop, 1) := by decide +kernel
theorem dX11_addClip_76 : decode cX11_addClip 76 = .ok (.aload_n 0, 1) := by decide +kernel
theorem dX11_addClip_77 : decode cX11_addClip 77 = .ok (.getfield 12, 3) := by decide +kernel
theorem dX11_addClip_80 : decode cX11_addClip 80 = .ok (.getfield 86, 3) := by decide +kernel
theorem dX11_addClip_83 : decode cX11_addClip 83 = .ok (.invokevirtual 90, 3) := by decide +kernel
theorem dX11_addClip_86 : decode cX11_addClip 86 = .ok (.iconst 1, 1) := by decide +kernel
theorem dX11_addClip_87 : decode cX11_addClip 87 = .ok (.isub, 1) := by decide +kernel
theorem dX11_addClip_88 : decode cX11_addClip 88 = .ok (.ireturn, 1) := by decide +kernel
theorem dX11_addEvent_0 : decode cX11_addEvent 0 = .ok (.aload_n 0, 1) := by decide +kernel
theorem dX11_addEvent_1 : decode cX11_addEvent 1 = .ok (.iload_n 1, 1) := by decide +kernel
theorem dX11_addEvent_2 : decode cX11_addEvent 2 = .ok (.invokevirtual 106, 3) := by decide +kernel
theorem dX11_addEvent_5 : decode cX11_addEvent 5 = .ok (.astore 4, 2) := by decide +kernel
theorem dX11_addEvent_7 : decode cX11_addEvent 7 = .ok (.iload_n 2, 1) := by decide +kernel
theorem dX11_addEvent_8 : decode cX11_addEvent 8 = .ok (.ifCond .lt 22, 3) := by decide +kernel
theorem dX11_addEvent_11 : decode cX11_addEvent 11 = .ok (.iload_n 2, 1) := by decide +kernel
theorem dX11_addEvent_12 : decode cX11_addEvent 12 = .ok (.aload 4, 2) := by decide +kernel
theorem dX11_addEvent_14 : decode cX11_addEvent 14 = .ok (.getfield 110, 3) := by decide +kernel
theorem dX11_addEvent_17 : decode cX11_addEvent 17 = .ok (.if_icmp .ge 13, 3) := by decide +kernel
theorem dX11_addEvent_20 : decode cX11_addEvent 20 = .ok (.iload_n 3, 1) := by decide +kernel
theorem dX11_addEvent_21 : decode cX11_addEvent 21 = .ok (.ifCond .lt 9, 3) := by decide +kernel
theorem dX11_addEvent_24 : decode cX11_addEvent 24 = .ok (.iload_n 3, 1) := by decide +kernel
theorem dX11_addEvent_25 : decode cX11_addEvent 25 = .ok (.bipush 99, 2) := by decide +kernel
theorem dX11_addEvent_27 : decode cX11_addEvent 27 = .ok (.if_icmp .le 13, 3) := by decide +kernel
theorem dX11_addEvent_30 : decode cX11_addEvent 30 = .ok (.new 47, 3) := by decide +kernel
theorem dX11_addEvent_33 : decode cX11_addEvent 33 = .ok (.dup, 1) := by decide +kernel
theorem dX11_addEvent_34 : decode cX11_addEvent 34 = .ok (.ldc 113, 2) := by decide +kernel
theorem dX11_addEvent_36 : decode cX11_addEvent 36 = .ok (.invokespecial 51, 3) := by decide +kernel
theorem dX11_addEvent_39 : decode cX11_addEvent 39 = .ok (.athrow, 1) := by decide +kernel
theorem dX11_addEvent_40 : decode cX11_addEvent 40 = .ok (.aload 4, 2) := by decide +kernel
theorem dX11_addEvent_42 : decode cX11_addEvent 42 = .ok (.getfield 115, 3) := by decide +kernel
theorem dX11_addEvent_45 : decode cX11_addEvent 45 = .ok (.iconst 5, 1) := by decide +kernel
theorem dX11_addEvent_46 : decode cX11_addEvent 46 = .ok (.if_icmp .lt 13, 3) := by decide +kernel
theorem dX11_addEvent_49 : decode cX11_addEvent 49 = .ok (.new 61, 3) := by decide +kernel
theorem dX11_addEvent_52 : decode cX11_addEvent 52 = .ok (.dup, 1) := by decide +kernel
theorem dX11_addEvent_53 : decode cX11_addEvent 53 = .ok (.ldc 118, 2) := by decide +kernel
theorem dX11_addEvent_55 : decode cX11_addEvent 55 = .ok (.invokespecial 65, 3) := by decide +kernel
theorem dX11_addEvent_58 : decode cX11_addEvent 58 = .ok (.athrow, 1) := by decide +kernel
theorem dX11_addEvent_59 : decode cX11_addEvent 59 = .ok (.aload 4, 2) := by decide +kernel
theorem dX11_addEvent_61 : decode cX11_addEvent 61 = .ok (.iload_n 2, 1) := by decide +kernel
theorem dX11_addEvent_62 : decode cX11_addEvent 62 = .ok (.iload_n 3, 1) := by decide +kernel
theorem dX11_addEvent_63 : decode cX11_addEvent 63 = .ok (.invokevirtual 120, 3) := by decide +kernel
theorem dX11_addEvent_66 : decode cX11_addEvent 66 = .ok (.aload 4, 2) := by decide +kernel
theorem dX11_addEvent_68 : decode cX11_addEvent 68 = .ok (.getfield 115, 3) := by decide +kernel
theorem dX11_addEvent_71 : decode cX11_addEvent 71 = .ok (.ireturn, 1) := by decide +kernel
theorem dX11_addClipNode_0 : decode cX11_addClipNode 0 = .ok (.aload_n 0, 1) := by decide +kernel
theorem dX11_addClipNode_1 : decode cX11_addClipNode 1 = .ok (.iload_n 1, 1) := by decide +kernel
theorem dX11_addClipNode_2 : decode cX11_addClipNode 2 = .ok (.invokevirtual 106, 3) := by decide +kernel
theorem dX11_addClipNode_5 : decode cX11_addClipNode 5 = .ok (.astore_n 2, 1) := by decide +kernel
theorem dX11_addClipNode_6 : decode cX11_addClipNode 6 = .ok (.aload_n 0, 1) := by decide +kernel
theorem dX11_addClipNode_7 : decode cX11_addClipNode 7 = .ok (.invokevirtual 123, 3) := by decide +kernel
theorem dX11_addClipNode_10 : decode cX11_addClipNode 10 = .ok (.aload_n 0, 1) := by decide +kernel
theorem dX11_addClipNode_11 : decode cX11_addClipNode 11 = .ok (.getfield 12, 3) := by decide +kernel
theorem dX11_addClipNode_14 : decode cX11_addClipNode 14 = .ok (.getfield 126, 3) := by decide +kernel
theorem dX11_addClipNode_17 : decode cX11_addClipNode 17 = .ok (.new 129, 3) := by decide +kernel
theorem dX11_addClipNode_20 : decode cX11_addClipNode 20 = .ok (.dup, 1) := by decide +kernel
theorem dX11_addClipNode_21 : decode cX11_addClipNode 21 = .ok (.aload_n 2, 1) := by decide +kernel
theorem dX11_addClipNode_22 : decode cX11_addClipNode 22 = .ok (.iconst (-1), 1) := by decide +kernel
theorem dX11_addClipNode_23 : decode cX11_addClipNode 23 = .ok (.invokespecial 131, 3) := by decide +kernel
theorem dX11_addClipNode_26 : decode cX11_addClipNode 26 = .ok (.invokevirtual 102, 3) := by decide +kernel
theorem dX11_addClipNode_29 : decode cX11_addClipNode 29 = .ok (.pop, 1) := by decide +kernel
theorem dX11_addClipNode_30 : decode cX11_addClipNode 30 = .ok (.aload_n 0, 1) := by decide +kernel
theorem dX11_addClipNode_31 : decode cX11_addClipNode 31 = .ok (.getfield 12, 3) := by decide +kernel
theorem dX11_addClipNode_34 : decode cX11_addClipNode 34 = .ok (.getfield 126, 3) := by decide +kernel
theorem dX11_addClipNode_37 : decode cX11_addClipNode 37 = .ok (.invokevirtual 90, 3) := by decide +kernel
theorem dX11_addClipNode_40 : decode cX11_addClipNode 40 = .ok (.iconst 1, 1) := by decide +kernel
theorem dX11_addClipNode_41 : decode cX11_addClipNode 41 = .ok (.isub, 1) := by decide +kernel
theorem dX11_addClipNode_42 : decode cX11_addClipNode 42 = .ok (.ireturn, 1) := by decide +kernel
theorem dX11_addLine_0 : decode cX11_addLine 0 = .ok (.aload_n 0, 1) := by decide +kernel
theorem dX11_addLine_1 : decode cX11_addLine 1 = .ok (.iload_n 1, 1) := by decide +kernel
theorem dX11_addLine_2 : decode cX11_addLine 2 = .ok (.invokevirtual 66, 3) := by decide +kernel
theorem dX11_addLine_5 : decode cX11_addLine 5 = .ok (.aload_n 0, 1) := by decide +kernel
theorem dX11_addLine_6 : decode cX11_addLine 6 = .ok (.getfield 12, 3) := by decide +kernel
theorem dX11_addLine_9 : decode cX11_addLine 9 = .ok (.iload_n 1, 1) := by decide +kernel
theorem dX11_addLine_10 : decode cX11_addLine 10 = .ok (.invokevirtual 134, 3) := by decide +kernel
theorem dX11_addLine_13 : decode cX11_addLine 13 = .ok (.ifCond .eq 13, 3) := by decide +kernel
theorem dX11_addLine_16 : decode cX11_addLine 16 = .ok (.new 61, 3) := by decide +kernel
theorem dX11_addLine_19 : decode cX11_addLine 19 = .ok (.dup, 1) := by decide +kernel
theorem dX11_addLine_20 : decode cX11_addLine 20 = .ok (.ldc 137, 2) := by decide +kernel
theorem dX11_addLine_22 : decode cX11_addLine 22 = .ok (.invokespecial 65, 3) := by decide +kernel
theorem dX11_addLine_25 : decode cX11_addLine 25 = .ok (.athrow, 1) := by decide +kernel
theorem dX11_addLine_26 : decode cX11_addLine 26 = .ok (.aload_n 0, 1) := by decide +kernel
theorem dX11_addLine_27 : decode cX11_addLine 27 = .ok (.invokevirtual 123, 3) := by decide +kernel
theorem dX11_addLine_30 : decode cX11_addLine 30 = .ok (.aload_n 0, 1) := by decide +kernel
theorem dX11_addLine_31 : decode cX11_addLine 31 = .ok (.getfield 12, 3) := by decide +kernel
theorem dX11_addLine_34 : decode cX11_addLine 34 = .ok (.getfield 126, 3) := by decide +kernel
theorem dX11_addLine_37 : decode cX11_addLine 37 = .ok (.new 129, 3) := by decide +kernel
theorem dX11_addLine_40 : decode cX11_addLine 40 = .ok (.dup, 1) := by decide +kernel
theorem dX11_addLine_41 : decode cX11_addLine 41 = .ok (.aconst_null, 1) := by decide +kernel
theorem dX11_addLine_42 : decode cX11_addLine 42 = .ok (.iload_n 1, 1) := by decide +kernel
theorem dX11_addLine_43 : decode cX11_addLine 43 = .ok (.invokespecial 131, 3) := by decide +kernel
theorem dX11_addLine_46 : decode cX11_addLine 46 = .ok (.invokevirtual 102, 3) := by decide +kernel
theorem dX11_addLine_49 : decode cX11_addLine 49 = .ok (.pop, 1) := by decide +kernel
theorem dX11_addLine_50 : decode cX11_addLine 50 = .ok (.aload_n 0, 1) := by decide +kernel
theorem dX11_addLine_51 : decode cX11_addLine 51 = .ok (.getfield 12, 3) := by decide +kernel
theorem dX11_addLine_54 : decode cX11_addLine 54 = .ok (.getfield 126, 3) := by decide +kernel
theorem dX11_addLine_57 : decode cX11_addLine 57 = .ok (.invokevirtual 90, 3) := by decide +kernel
theorem dX11_addLine_60 : decode cX11_addLine 60 = .ok (.iconst 1, 1) := by decide +kernel
theorem dX11_addLine_61 : decode cX11_addLine 61 = .ok (.isub, 1) := by decide +kernel
theorem dX11_addLine_62 : decode cX11_addLine 62 = .ok (.ireturn, 1) := by decide +kernel
theorem dX11_addChild_0 : decode cX11_addChild 0 = .ok (.aload_n 0, 1) := by decide +kernel
theorem dX11_addChild_1 : decode cX11_addChild 1 = .ok (.iload_n 1, 1) := by decide +kernel
theorem dX11_addChild_2 : decode cX11_addChild 2 = .ok (.invokevirtual 139, 3) := by decide +kernel
theorem dX11_addChild_5 : decode cX11_addChild 5 = .ok (.astore 4, 2) := by decide +kernel
theorem dX11_addChild_7 : decode cX11_addChild 7 = .ok (.aload_n 0, 1) := by decide +kernel
theorem dX11_addChild_8 : decode cX11_addChild 8 = .ok (.iload_n 2, 1) := by decide +kernel
theorem dX11_addChild_9 : decode cX11_addChild 9 = .ok (.invokevirtual 139, 3) := by decide +kernel
theorem dX11_addChild_12 : decode cX11_addChild 12 = .ok (.astore 5, 2) := by decide +kernel
theorem dX11_addChild_14 : decode cX11_addChild 14 = .ok (.aload 4, 2) := by decide +kernel
theorem dX11_addChild_16 : decode cX11_addChild 16 = .ok (.invokevirtual 143, 3) := by decide +kernel
theorem dX11_addChild_19 : decode cX11_addChild 19 = .ok (.ifCond .eq 20, 3) := by decide +kernel
theorem dX11_addChild_22 : decode cX11_addChild 22 = .ok (.iload_n 2, 1) := by decide +kernel
theorem dX11_addChild_23 : decode cX11_addChild 23 = .ok (.iload_n 1, 1) := by decide +kernel
theorem dX11_addChild_24 : decode cX11_addChild 24 = .ok (.if_icmp .ge 15, 3) := by decide +kernel
theorem dX11_addChild_27 : decode cX11_addChild 27 = .ok (.iload_n 3, 1) := by decide +kernel
theorem dX11_addChild_28 : decode cX11_addChild 28 = .ok (.bipush (-100), 2) := by decide +kernel
theorem dX11_addChild_30 : decode cX11_addChild 30 = .ok (.if_icmp .lt 9, 3) := by decide +kernel
theorem dX11_addChild_33 : decode cX11_addChild 33 = .ok (.iload_n 3, 1) := by decide +kernel
theorem dX11_addChild_34 : decode cX11_addChild 34 = .ok (.bipush 100, 2) := by decide +kernel
theorem dX11_addChild_36 : decode cX11_addChild 36 = .ok (.if_icmp .le 13, 3) := by decide +kernel
theorem dX11_addChild_39 : decode cX11_addChild 39 = .ok (.new 47, 3) := by decide +kernel
theorem dX11_addChild_42 : decode cX11_addChild 42 = .ok (.dup, 1) := by decide +kernel
theorem dX11_addChild_43 : decode cX11_addChild 43 = .ok (.ldc 147, 2) := by decide +kernel
theorem dX11_addChild_45 : decode cX11_addChild 45 = .ok (.invokespecial 51, 3) := by decide +kernel
theorem dX11_addChild_48 : decode cX11_addChild 48 = .ok (.athrow, 1) := by decide +kernel
theorem dX11_addChild_49 : decode cX11_addChild 49 = .ok (.aload 4, 2) := by decide +kernel
theorem dX11_addChild_51 : decode cX11_addChild 51 = .ok (.getfield 149, 3) := by decide +kernel
theorem dX11_addChild_54 : decode cX11_addChild 54 = .ok (.invokevirtual 90, 3) := by decide +kernel
theorem dX11_addChild_57 : decode cX11_addChild 57 = .ok (.iconst 5, 1) := by decide +kernel
theorem dX11_addChild_58 : decode cX11_addChild 58 = .ok (.if_icmp .ge 12, 3) := by decide +kernel
theorem dX11_addChild_61 : decode cX11_addChild 61 = .ok (.aload 4, 2) := by decide +kernel
theorem dX11_addChild_63 : decode cX11_addChild 63 = .ok (.iload_n 3, 1) := by decide +kernel
theorem dX11_addChild_64 : decode cX11_addChild 64 = .ok (.invokevirtual 152, 3) := by decide +kernel
theorem dX11_addChild_67 : decode cX11_addChild 67 = .ok (.ifCond .eq 13, 3) := by decide +kernel
theorem dX11_addChild_70 : decode cX11_addChild 70 = .ok (.new 61, 3) := by decide +kernel
theorem dX11_addChild_73 : decode cX11_addChild 73 = .ok (.dup, 1) := by decide +kernel
theorem dX11_addChild_74 : decode cX11_addChild 74 = .ok (.ldc 156, 2) := by decide +kernel
theorem dX11_addChild_76 : decode cX11_addChild 76 = .ok (.invokespecial 65, 3) := by decide +kernel
theorem dX11_addChild_79 : decode cX11_addChild 79 = .ok (.athrow, 1) := by decide +kernel
theorem dX11_addChild_80 : decode cX11_addChild 80 = .ok (.aload 5, 2) := by decide +kernel
theorem dX11_addChild_82 : decode cX11_addChild 82 = .ok (.invokevirtual 158, 3) := by decide +kernel
theorem dX11_addChild_85 : decode cX11_addChild 85 = .ok (.ifCond .eq 18, 3) := by decide +kernel
theorem dX11_addChild_88 : decode cX11_addChild 88 = .ok (.aload_n 0, 1) := by decide +kernel
theorem dX11_addChild_89 : decode cX11_addChild 89 = .ok (.getfield 12, 3) := by decide +kernel
theorem dX11_addChild_92 : decode cX11_addChild 92 = .ok (.aload 4, 2) := by decide +kernel
theorem dX11_addChild_94 : decode cX11_addChild 94 = .ok (.aload 5, 2) := by decide +kernel
theorem dX11_addChild_96 : decode cX11_addChild 96 = .ok (.invokevirtual 161, 3) := by decide +kernel
theorem dX11_addChild_99 : decode cX11_addChild 99 = .ok (.iconst 4, 1) := by decide +kernel
theorem dX11_addChild_100 : decode cX11_addChild 100 = .ok (.if_icmp .le 13, 3) := by decide +kernel
theorem dX11_addChild_103 : decode cX11_addChild 103 = .ok (.new 61, 3) := by decide +kernel
theorem dX11_addChild_106 : decode cX11_addChild 106 = .ok (.dup, 1) := by decide +kernel
theorem dX11_addChild_107 : decode cX11_addChild 107 = .ok (.ldc 165, 2) := by decide +kernel
theorem dX11_addChild_109 : decode cX11_addChild 109 = .ok (.invokespecial 65, 3) := by decide +kernel
theorem dX11_addChild_112 : decode cX11_addChild 112 = .ok (.athrow, 1) := by decide +kernel
theorem dX11_addChild_113 : decode cX11_addChild 113 = .ok (.aload 4, 2) := by decide +kernel
theorem dX11_addChild_115 : decode cX11_addChild 115 = .ok (.aload 5, 2) := by decide +kernel
theorem dX11_addChild_117 : decode cX11_addChild 117 = .ok (.iload_n 3, 1) := by decide +kernel
theorem dX11_addChild_118 : decode cX11_addChild 118 = .ok (.invokevirtual 167, 3) := by decide +kernel
theorem dX11_addChild_121 : decode cX11_addChild 121 = .ok (.aload 4, 2) := by decide +kernel
theorem dX11_addChild_123 : decode cX11_addChild 123 = .ok (.getfield 149, 3) := by decide +kernel
theorem dX11_addChild_126 : decode cX11_addChild 126 = .ok (.invokevirtual 90, 3) := by decide +kernel
theorem dX11_addChild_129 : decode cX11_addChild 129 = .ok (.ireturn, 1) := by decide +kernel
theorem dX11_addState_0 : decode cX11_addState 0 = .ok (.aload_n 0, 1) := by decide +kernel
theorem dX11_addState_1 : decode cX11_addState 1 = .ok (.iload_n 1, 1) := by decide +kernel
theorem dX11_addState_2 : decode cX11_addState 2 = .ok (.invokevirtual 139, 3) := by decide +kernel
theorem dX11_addState_5 : decode cX11_addState 5 = .ok (.astore 5, 2) := by decide +kernel
theorem dX11_addState_7 : decode cX11_addState 7 = .ok (.iload_n 2, 1) := by decide +kernel
theorem dX11_addState_8 : decode cX11_addState 8 = .ok (.iconst 1, 1) := by decide +kernel
theorem dX11_addState_9 : decode cX11_addState 9 = .ok (.if_icmp .lt 21, 3) := by decide +kernel
theorem dX11_addState_12 : decode cX11_addState 12 = .ok (.iload_n 2, 1) := by decide +kernel
theorem dX11_addState_13 : decode cX11_addState 13 = .ok (.sipush 400, 3) := by decide +kernel
theorem dX11_addState_16 : decode cX11_addState 16 = .ok (.if_icmp .gt 14, 3) := by decide +kernel
theorem dX11_addState_19 : decode cX11_addState 19 = .ok (.iload 4, 2) := by decide +kernel
theorem dX11_addState_21 : decode cX11_addState 21 = .ok (.ifCond .lt 9, 3) := by decide +kernel
theorem dX11_addState_24 : decode cX11_addState 24 = .ok (.iload 4, 2) := by decide +kernel
theorem dX11_addState_26 : decode cX11_addState 26 = .ok (.iconst 3, 1) := by decide +kernel
theorem dX11_addState_27 : decode cX11_addState 27 = .ok (.if_icmp .le 13, 3) := by decide +kernel
theorem dX11_addState_30 : decode cX11_addState 30 = .ok (.new 47, 3) := by decide +kernel
theorem dX11_addState_33 : decode cX11_addState 33 = .ok (.dup, 1) := by decide +kernel
theorem dX11_addState_34 : decode cX11_addState 34 = .ok (.ldc 171, 2) := by decide +kernel
theorem dX11_addState_36 : decode cX11_addState 36 = .ok (.invokespecial 51, 3) := by decide +kernel
theorem dX11_addState_39 : decode cX11_addState 39 = .ok (.athrow, 1) := by decide +kernel
theorem dX11_addState_40 : decode cX11_addState 40 = .ok (.aload 5, 2) := by decide +kernel
theorem dX11_addState_42 : decode cX11_addState 42 = .ok (.invokevirtual 158, 3) := by decide +kernel
theorem dX11_addState_45 : decode cX11_addState 45 = .ok (.ifCond .eq 18, 3) := by decide +kernel
theorem dX11_addState_48 : decode cX11_addState 48 = .ok (.aload_n 0, 1) := by decide +kernel
theorem dX11_addState_49 : decode cX11_addState 49 = .ok (.getfield 12, 3) := by decide +kernel
theorem dX11_addState_52 : decode cX11_addState 52 = .ok (.getfield 173, 3) := by decide +kernel
theorem dX11_addState_55 : decode cX11_addState 55 = .ok (.invokevirtual 90, 3) := by decide +kernel
theorem dX11_addState_58 : decode cX11_addState 58 = .ok (.bipush 10, 2) := by decide +kernel
theorem dX11_addState_60 : decode cX11_addState 60 = .ok (.if_icmp .lt 13, 3) := by decide +kernel
theorem dX11_addState_63 : decode cX11_addState 63 = .ok (.new 61, 3) := by decide +kernel
theorem dX11_addState_66 : decode cX11_addState 66 = .ok (.dup, 1) := by decide +kernel
theorem dX11_addState_67 : decode cX11_addState 67 = .ok (.ldc 176, 2) := by decide +kernel
theorem dX11_addState_69 : decode cX11_addState 69 = .ok (.invokespecial 65, 3) := by decide +kernel
theorem dX11_addState_72 : decode cX11_addState 72 = .ok (.athrow, 1) := by decide +kernel
theorem dX11_addState_73 : decode cX11_addState 73 = .ok (.new 178, 3) := by decide +kernel
theorem dX11_addState_76 : decode cX11_addState 76 = .ok (.dup, 1) := by decide +kernel
theorem dX11_addState_77 : decode cX11_addState 77 = .ok (.aload_n 0, 1) := by decide +kernel
theorem dX11_addState_78 : decode cX11_addState 78 = .ok (.getfield 12, 3) := by decide +kernel
theorem dX11_addState_81 : decode cX11_addState 81 = .ok (.getfield 173, 3) := by decide +kernel
theorem dX11_addState_84 : decode cX11_addState 84 = .ok (.invokevirtual 90, 3) := by decide +kernel
theorem dX11_addState_87 : decode cX11_addState 87 = .ok (.aload 5, 2) := by decide +kernel
theorem dX11_addState_89 : decode cX11_addState 89 = .ok (.iload_n 2, 1) := by decide +kernel
theorem dX11_addState_90 : decode cX11_addState 90 = .ok (.iload_n 3, 1) := by decide +kernel
theorem dX11_addState_91 : decode cX11_addState 91 = .ok (.iload 4, 2) := by decide +kernel
theorem dX11_addState_93 : decode cX11_addState 93 = .ok (.invokespecial 180, 3) := by decide +kernel
theorem dX11_addState_96 : decode cX11_addState 96 = .ok (.astore 6, 2) := by decide +kernel
theorem dX11_addState_98 : decode cX11_addState 98 = .ok (.aload_n 0, 1) := by decide +kernel
theorem dX11_addState_99 : decode cX11_addState 99 = .ok (.getfield 12, 3) := by decide +kernel
theorem dX11_addState_102 : decode cX11_addState 102 = .ok (.getfield 173, 3) := by decide +kernel
theorem dX11_addState_105 : decode cX11_addState 105 = .ok (.aload 6, 2) := by decide +kernel
theorem dX11_addState_107 : decode cX11_addState 107 = .ok (.invokevirtual 102, 3) := by decide +kernel
theorem dX11_addState_110 : decode cX11_addState 110 = .ok (.pop, 1) := by decide +kernel
theorem dX11_addState_111 : decode cX11_addState 111 = .ok (.aload_n 0, 1) := by decide +kernel
theorem dX11_addState_112 : decode cX11_addState 112 = .ok (.getfield 12, 3) := by decide +kernel
theorem dX11_addState_115 : decode cX11_addState 115 = .ok (.getfield 173, 3) := by decide +kernel
theorem dX11_addState_118 : decode cX11_addState 118 = .ok (.invokevirtual 90, 3) := by decide +kernel
theorem dX11_addState_121 : decode cX11_addState 121 = .ok (.iconst 1, 1) := by decide +kernel
theorem dX11_addState_122 : decode cX11_addState 122 = .ok (.if_icmp .ne 12, 3) := by decide +kernel
theorem dX11_addState_125 : decode cX11_addState 125 = .ok (.aload_n 0, 1) := by decide +kernel
theorem dX11_addState_126 : decode cX11_addState 126 = .ok (.getfield 28, 3) := by decide +kernel
theorem dX11_addState_129 : decode cX11_addState 129 = .ok (.aload 6, 2) := by decide +kernel
theorem dX11_addState_131 : decode cX11_addState 131 = .ok (.invokevirtual 183, 3) := by decide +kernel
theorem dX11_addState_134 : decode cX11_addState 134 = .ok (.aload 6, 2) := by decide +kernel
theorem dX11_addState_136 : decode cX11_addState 136 = .ok (.getfield 187, 3) := by decide +kernel
theorem dX11_addState_139 : decode cX11_addState 139 = .ok (.ireturn, 1) := by decide +kernel
theorem dX11_addTransition_0 : decode cX11_addTransition 0 = .ok (.iload_n 1, 1) := by decide +kernel
theorem dX11_addTransition_1 : decode cX11_addTransition 1 = .ok (.iconst (-1), 1) := by decide +kernel
theorem dX11_addTransition_2 : decode cX11_addTransition 2 = .ok (.if_icmp .ne 7, 3) := by decide +kernel
theorem dX11_addTransition_5 : decode cX11_addTransition 5 = .ok (.aconst_null, 1) := by decide +kernel
theorem dX11_addTransition_6 : decode cX11_addTransition 6 = .ok (.goto 8, 3) := by decide +kernel
theorem dX11_addTransition_9 : decode cX11_addTransition 9 = .ok (.aload_n 0, 1) := by decide +kernel
theorem dX11_addTransition_10 : decode cX11_addTransition 10 = .ok (.iload_n 1, 1) := by decide +kernel
theorem dX11_addTransition_11 : decode cX11_addTransition 11 = .ok (.invokevirtual 190, 3) := by decide +kernel
theorem dX11_addTransition_14 : decode cX11_addTransition 14 = .ok (.astore 4, 2) := by decide +kernel
theorem dX11_addTransition_16 : decode cX11_addTransition 16 = .ok (.aload_n 0, 1) := by decide +kernel
theorem dX11_addTransition_17 : decode cX11_addTransition 17 = .ok (.iload_n 2, 1) := by decide +kernel
theorem dX11_addTransition_18 : decode cX11_addTransition 18 = .ok (.invokevirtual 190, 3) := by decide +kernel
theorem dX11_addTransition_21 : decode cX11_addTransition 21 = .ok (.astore 5, 2) := by decide +kernel
theorem dX11_addTransition_23 : decode cX11_addTransition 23 = .ok (.iload_n 3, 1) := by decide +kernel
theorem dX11_addTransition_24 : decode cX11_addTransition 24 = .ok (.ifCond .lt 9, 3) := by decide +kernel
theorem dX11_addTransition_27 : decode cX11_addTransition 27 = .ok (.iload_n 3, 1) := by decide +kernel
theorem dX11_addTransition_28 : decode cX11_addTransition 28 = .ok (.bipush 60, 2) := by decide +kernel
theorem dX11_addTransition_30 : decode cX11_addTransition 30 = .ok (.if_icmp .le 13, 3) := by decide +kernel
theorem dX11_addTransition_33 : decode cX11_addTransition 33 = .ok (.new 47, 3) := by decide +kernel
theorem dX11_addTransition_36 : decode cX11_addTransition 36 = .ok (.dup, 1) := by decide +kernel
theorem dX11_addTransition_37 : decode cX11_addTransition 37 = .ok (.ldc 194, 2) := by decide +kernel
theorem dX11_addTransition_39 : decode cX11_addTransition 39 = .ok (.invokespecial 51, 3) := by decide +kernel
theorem dX11_addTransition_42 : decode cX11_addTransition 42 = .ok (.athrow, 1) := by decide +kernel
theorem dX11_addTransition_43 : decode cX11_addTransition 43 = .ok (.aload_n 0, 1) := by decide +kernel
theorem dX11_addTransition_44 : decode cX11_addTransition 44 = .ok (.getfield 12, 3) := by decide +kernel
theorem dX11_addTransition_47 : decode cX11_addTransition 47 = .ok (.getfield 196, 3) := by decide +kernel
theorem dX11_addTransition_50 : decode cX11_addTransition 50 = .ok (.invokevirtual 90, 3) := by decide +kernel
theorem dX11_addTransition_53 : decode cX11_addTransition 53 = .ok (.bipush 24, 2) := by decide +kernel
theorem dX11_addTransition_55 : decode cX11_addTransition 55 = .ok (.if_icmp .lt 13, 3) := by decide +kernel
theorem dX11_addTransition_58 : decode cX11_addTransition 58 = .ok (.new 61, 3) := by decide +kernel
theorem dX11_addTransition_61 : decode cX11_addTransition 61 = .ok (.dup, 1) := by decide +kernel
theorem dX11_addTransition_62 : decode cX11_addTransition 62 = .ok (.ldc 199, 2) := by decide +kernel
theorem dX11_addTransition_64 : decode cX11_addTransition 64 = .ok (.invokespecial 65, 3) := by decide +kernel
theorem dX11_addTransition_67 : decode cX11_addTransition 67 = .ok (.athrow, 1) := by decide +kernel
theorem dX11_addTransition_68 : decode cX11_addTransition 68 = .ok (.new 201, 3) := by decide +kernel
theorem dX11_addTransition_71 : decode cX11_addTransition 71 = .ok (.dup, 1) := by decide +kernel
theorem dX11_addTransition_72 : decode cX11_addTransition 72 = .ok (.aload_n 0, 1) := by decide +kernel
theorem dX11_addTransition_73 : decode cX11_addTransition 73 = .ok (.getfield 12, 3) := by decide +kernel
theorem dX11_addTransition_76 : decode cX11_addTransition 76 = .ok (.getfield 196, 3) := by decide +kernel
theorem dX11_addTransition_79 : decode cX11_addTransition 79 = .ok (.invokevirtual 90, 3) := by decide +kernel
theorem dX11_addTransition_82 : decode cX11_addTransition 82 = .ok (.aload 5, 2) := by decide +kernel
theorem dX11_addTransition_84 : decode cX11_addTransition 84 = .ok (.invokespecial 203, 3) := by decide +kernel
theorem dX11_addTransition_87 : decode cX11_addTransition 87 = .ok (.astore 6, 2) := by decide +kernel
theorem dX11_addTransition_89 : decode cX11_addTransition 89 = .ok (.aload 6, 2) := by decide +kernel
theorem dX11_addTransition_91 : decode cX11_addTransition 91 = .ok (.aload 4, 2) := by decide +kernel
theorem dX11_addTransition_93 : decode cX11_addTransition 93 = .ok (.aload 5, 2) := by decide +kernel
theorem dX11_addTransition_95 : decode cX11_addTransition 95 = .ok (.iload_n 3, 1) := by decide +kernel
theorem dX11_addTransition_96 : decode cX11_addTransition 96 = .ok (.invokevirtual 206, 3) := by decide +kernel
theorem dX11_addTransition_99 : decode cX11_addTransition 99 = .ok (.aload_n 0, 1) := by decide +kernel
theorem dX11_addTransition_100 : decode cX11_addTransition 100 = .ok (.getfield 12, 3) := by decide +kernel
theorem dX11_addTransition_103 : decode cX11_addTransition 103 = .ok (.getfield 196, 3) := by decide +kernel
theorem dX11_addTransition_106 : decode cX11_addTransition 106 = .ok (.aload 6, 2) := by decide +kernel
theorem dX11_addTransition_108 : decode cX11_addTransition 108 = .ok (.invokevirtual 102, 3) := by decide +kernel
theorem dX11_addTransition_111 : decode cX11_addTransition 111 = .ok (.pop, 1) := by decide +kernel
theorem dX11_addTransition_112 : decode cX11_addTransition 112 = .ok (.aload 6, 2) := by decide +kernel
theorem dX11_addTransition_114 : decode cX11_addTransition 114 = .ok (.getfield 210, 3) := by decide +kernel
theorem dX11_addTransition_117 : decode cX11_addTransition 117 = .ok (.ireturn, 1) := by decide +kernel
theorem dX11_setTiming_0 : decode cX11_setTiming 0 = .ok (.aload_n 0, 1) := by decide +kernel
theorem dX11_setTiming_1 : decode cX11_setTiming 1 = .ok (.iload_n 1, 1) := by decide +kernel
theorem dX11_setTiming_2 : decode cX11_setTiming 2 = .ok (.invokevirtual 211, 3) := by decide +kernel
theorem dX11_setTiming_5 : decode cX11_setTiming 5 = .ok (.astore 4, 2) := by decide +kernel
theorem dX11_setTiming_7 : decode cX11_setTiming 7 = .ok (.iload_n 2, 1) := by decide +kernel
theorem dX11_setTiming_8 : decode cX11_setTiming 8 = .ok (.iconst (-1), 1) := by decide +kernel
theorem dX11_setTiming_9 : decode cX11_setTiming 9 = .ok (.if_icmp .lt 20, 3) := by decide +kernel
theorem dX11_setTiming_12 : decode cX11_setTiming 12 = .ok (.iload_n 2, 1) := by decide +kernel
theorem dX11_setTiming_13 : decode cX11_setTiming 13 = .ok (.sipush 300, 3) := by decide +kernel
theorem dX11_setTiming_16 : decode cX11_setTiming 16 = .ok (.if_icmp .gt 13, 3) := by decide +kernel
theorem dX11_setTiming_19 : decode cX11_setTiming 19 = .ok (.iload_n 3, 1) := by decide +kernel
theorem dX11_setTiming_20 : decode cX11_setTiming 20 = .ok (.ifCond .lt 9, 3) := by decide +kernel
theorem dX11_setTiming_23 : decode cX11_setTiming 23 = .ok (.iload_n 3, 1) := by decide +kernel
theorem dX11_setTiming_24 : decode cX11_setTiming 24 = .ok (.bipush 99, 2) := by decide +kernel
theorem dX11_setTiming_26 : decode cX11_setTiming 26 = .ok (.if_icmp .le 13, 3) := by decide +kernel
theorem dX11_setTiming_29 : decode cX11_setTiming 29 = .ok (.new 47, 3) := by decide +kernel
theorem dX11_setTiming_32 : decode cX11_setTiming 32 = .ok (.dup, 1) := by decide +kernel
theorem dX11_setTiming_33 : decode cX11_setTiming 33 = .ok (.ldc 215, 2) := by decide +kernel
theorem dX11_setTiming_35 : decode cX11_setTiming 35 = .ok (.invokespecial 51, 3) := by decide +kernel
theorem dX11_setTiming_38 : decode cX11_setTiming 38 = .ok (.athrow, 1) := by decide +kernel
theorem dX11_setTiming_39 : decode cX11_setTiming 39 = .ok (.iload_n 2, 1) := by decide +kernel
theorem dX11_setTiming_40 : decode cX11_setTiming 40 = .ok (.iconst (-1), 1) := by decide +kernel
theorem dX11_setTiming_41 : decode cX11_setTiming 41 = .ok (.if_icmp .eq 21, 3) := by decide +kernel
theorem dX11_setTiming_44 : decode cX11_setTiming 44 = .ok (.aload 4, 2) := by decide +kernel
theorem dX11_setTiming_46 : decode cX11_setTiming 46 = .ok (.getfield 217, 3) := by decide +kernel
theorem dX11_setTiming_49 : decode cX11_setTiming 49 = .ok (.ifnonnull 13, 3) := by decide +kernel
theorem dX11_setTiming_52 : decode cX11_setTiming 52 = .ok (.new 61, 3) := by decide +kernel
theorem dX11_setTiming_55 : decode cX11_setTiming 55 = .ok (.dup, 1) := by decide +kernel
theorem dX11_setTiming_56 : decode cX11_setTiming 56 = .ok (.ldc 221, 2) := by decide +kernel
theorem dX11_setTiming_58 : decode cX11_setTiming 58 = .ok (.invokespecial 65, 3) := by decide +kernel
theorem dX11_setTiming_61 : decode cX11_setTiming 61 = .ok (.athrow, 1) := by decide +kernel
theorem dX11_setTiming_62 : decode cX11_setTiming 62 = .ok (.aload 4, 2) := by decide +kernel
theorem dX11_setTiming_64 : decode cX11_setTiming 64 = .ok (.getfield 223, 3) := by decide +kernel
theorem dX11_setTiming_67 : decode cX11_setTiming 67 = .ok (.istore 5, 2) := by decide +kernel
theorem dX11_setTiming_69 : decode cX11_setTiming 69 = .ok (.aload 4, 2) := by decide +kernel
theorem dX11_setTiming_71 : decode cX11_setTiming 71 = .ok (.iload_n 2, 1) := by decide +kernel
theorem dX11_setTiming_72 : decode cX11_setTiming 72 = .ok (.putfield 223, 3) := by decide +kernel
theorem dX11_setTiming_75 : decode cX11_setTiming 75 = .ok (.aload 4, 2) := by decide +kernel
theorem dX11_setTiming_77 : decode cX11_setTiming 77 = .ok (.iload_n 3, 1) := by decide +kernel
theorem dX11_setTiming_78 : decode cX11_setTiming 78 = .ok (.putfield 226, 3) := by decide +kernel
theorem dX11_setTiming_81 : decode cX11_setTiming 81 = .ok (.iload 5, 2) := by decide +kernel
theorem dX11_setTiming_83 : decode cX11_setTiming 83 = .ok (.ireturn, 1) := by decide +kernel
theorem dX11_setInterruption_0 : decode cX11_setInterruption 0 = .ok (.aload_n 0, 1) := by decide +kernel
theorem dX11_setInterruption_1 : decode cX11_setInterruption 1 = .ok (.iload_n 1, 1) := by decide +kernel
theorem dX11_setInterruption_2 : decode cX11_setInterruption 2 = .ok (.invokevirtual 211, 3) := by decide +kernel
theorem dX11_setInterruption_5 : decode cX11_setInterruption 5 = .ok (.astore 4, 2) := by decide +kernel
theorem dX11_setInterruption_7 : decode cX11_setInterruption 7 = .ok (.iload_n 2, 1) := by decide +kernel
theorem dX11_setInterruption_8 : decode cX11_setInterruption 8 = .ok (.ifCond .lt 8, 3) := by decide +kernel
theorem dX11_setInterruption_11 : decode cX11_setInterruption 11 = .ok (.iload_n 2, 1) := by decide +kernel
theorem dX11_setInterruption_12 : decode cX11_setInterruption 12 = .ok (.iconst 4, 1) := by decide +kernel
theorem dX11_setInterruption_13 : decode cX11_setInterruption 13 = .ok (.if_icmp .le 13, 3) := by decide +kernel
theorem dX11_setInterruption_16 : decode cX11_setInterruption 16 = .ok (.new 47, 3) := by decide +kernel
theorem dX11_setInterruption_19 : decode cX11_setInterruption 19 = .ok (.dup, 1) := by decide +kernel
theorem dX11_setInterruption_20 : decode cX11_setInterruption 20 = .ok (.ldc 229, 2) := by decide +kernel
theorem dX11_setInterruption_22 : decode cX11_setInterruption 22 = .ok (.invokespecial 51, 3) := by decide +kernel
theorem dX11_setInterruption_25 : decode cX11_setInterruption 25 = .ok (.athrow, 1) := by decide +kernel
theorem dX11_setInterruption_26 : decode cX11_setInterruption 26 = .ok (.aload 4, 2) := by decide +kernel
theorem dX11_setInterruption_28 : decode cX11_setInterruption 28 = .ok (.getfield 231, 3) := by decide +kernel
theorem dX11_setInterruption_31 : decode cX11_setInterruption 31 = .ok (.istore 5, 2) := by decide +kernel
theorem dX11_setInterruption_33 : decode cX11_setInterruption 33 = .ok (.aload 4, 2) := by decide +kernel
theorem dX11_setInterruption_35 : decode cX11_setInterruption 35 = .ok (.iload_n 2, 1) := by decide +kernel
theorem dX11_setInterruption_36 : decode cX11_setInterruption 36 = .ok (.putfield 231, 3) := by decide +kernel
theorem dX11_setInterruption_39 : decode cX11_setInterruption 39 = .ok (.aload 4, 2) := by decide +kernel
theorem dX11_setInterruption_41 : decode cX11_setInterruption 41 = .ok (.iload_n 3, 1) := by decide +kernel
theorem dX11_setInterruption_42 : decode cX11_setInterruption 42 = .ok (.putfield 234, 3) := by decide +kernel
theorem dX11_setInterruption_45 : decode cX11_setInterruption 45 = .ok (.iload 5, 2) := by decide +kernel
theorem dX11_setInterruption_47 : decode cX11_setInterruption 47 = .ok (.ireturn, 1) := by decide +kernel
theorem dX11_addCondition_0 : decode cX11_addCondition 0 = .ok (.aload_n 0, 1) := by decide +kernel
theorem dX11_addCondition_1 : decode cX11_addCondition 1 = .ok (.iload_n 1, 1) := by decide +kernel
theorem dX11_addCondition_2 : decode cX11_addCondition 2 = .ok (.invokevirtual 211, 3) := by decide +kernel
theorem dX11_addCondition_5 : decode cX11_addCondition 5 = .ok (.astore 5, 2) := by decide +kernel
theorem dX11_addCondition_7 : decode cX11_addCondition 7 = .ok (.aload_n 0, 1) := by decide +kernel
theorem dX11_addCondition_8 : decode cX11_addCondition 8 = .ok (.iload_n 2, 1) := by decide +kernel
theorem dX11_addCondition_9 : decode cX11_addCondition 9 = .ok (.invokevirtual 66, 3) := by decide +kernel
theorem dX11_addCondition_12 : decode cX11_addCondition 12 = .ok (.aload_n 0, 1) := by decide +kernel
theorem dX11_addCondition_13 : decode cX11_addCondition 13 = .ok (.getfield 12, 3) := by decide +kernel
theorem dX11_addCondition_16 : decode cX11_addCondition 16 = .ok (.iload_n 2, 1) := by decide +kernel
theorem dX11_addCondition_17 : decode cX11_addCondition 17 = .ok (.iload_n 3, 1) := by decide +kernel
theorem dX11_addCondition_18 : decode cX11_addCondition 18 = .ok (.iload 4, 2) := by decide +kernel
theorem dX11_addCondition_20 : decode cX11_addCondition 20 = .ok (.invokevirtual 238, 3) := by decide +kernel
theorem dX11_addCondition_23 : decode cX11_addCondition 23 = .ok (.ifCond .ne 13, 3) := by decide +kernel
theorem dX11_addCondition_26 : decode cX11_addCondition 26 = .ok (.new 47, 3) := by decide +kernel
theorem dX11_addCondition_29 : decode cX11_addCondition 29 = .ok (.dup, 1) := by decide +kernel
theorem dX11_addCondition_30 : decode cX11_addCondition 30 = .ok (.ldc 242, 2) := by decide +kernel
theorem dX11_addCondition_32 : decode cX11_addCondition 32 = .ok (.invokespecial 51, 3) := by decide +kernel
theorem dX11_addCondition_35 : decode cX11_addCondition 35 = .ok (.athrow, 1) := by decide +kernel
theorem dX11_addCondition_36 : decode cX11_addCondition 36 = .ok (.aload 5, 2) := by decide +kernel
theorem dX11_addCondition_38 : decode cX11_addCondition 38 = .ok (.getfield 244, 3) := by decide +kernel
theorem dX11_addCondition_41 : decode cX11_addCondition 41 = .ok (.iconst 3, 1) := by decide +kernel
theorem dX11_addCondition_42 : decode cX11_addCondition 42 = .ok (.if_icmp .lt 13, 3) := by decide +kernel
theorem dX11_addCondition_45 : decode cX11_addCondition 45 = .ok (.new 61, 3) := by decide +kernel
theorem dX11_addCondition_48 : decode cX11_addCondition 48 = .ok (.dup, 1) := by decide +kernel
theorem dX11_addCondition_49 : decode cX11_addCondition 49 = .ok (.ldc 247, 2) := by decide +kernel
theorem dX11_addCondition_51 : decode cX11_addCondition 51 = .ok (.invokespecial 65, 3) := by decide +kernel
theorem dX11_addCondition_54 : decode cX11_addCondition 54 = .ok (.athrow, 1) := by decide +kernel
theorem dX11_addCondition_55 : decode cX11_addCondition 55 = .ok (.aload 5, 2) := by decide +kernel
theorem dX11_addCondition_57 : decode cX11_addCondition 57 = .ok (.iload_n 2, 1) := by decide +kernel
theorem dX11_addCondition_58 : decode cX11_addCondition 58 = .ok (.iload_n 3, 1) := by decide +kernel
theorem dX11_addCondition_59 : decode cX11_addCondition 59 = .ok (.iload 4, 2) := by decide +kernel
theorem dX11_addCondition_61 : decode cX11_addCondition 61 = .ok (.invokevirtual 249, 3) := by decide +kernel
theorem dX11_addCondition_64 : decode cX11_addCondition 64 = .ok (.aload 5, 2) := by decide +kernel
theorem dX11_addCondition_66 : decode cX11_addCondition 66 = .ok (.getfield 244, 3) := by decide +kernel
theorem dX11_addCondition_69 : decode cX11_addCondition 69 = .ok (.ireturn, 1) := by decide +kernel
theorem dX11_tick_0 : decode cX11_tick 0 = .ok (.aload_n 0, 1) := by decide +kernel
theorem dX11_tick_1 : decode cX11_tick 1 = .ok (.iload_n 1, 1) := by decide +kernel
theorem dX11_tick_2 : decode cX11_tick 2 = .ok (.invokevirtual 272, 3) := by decide +kernel
theorem dX11_tick_5 : decode cX11_tick 5 = .ok (.aload_n 0, 1) := by decide +kernel
theorem dX11_tick_6 : decode cX11_tick 6 = .ok (.invokevirtual 275, 3) := by decide +kernel
theorem dX11_tick_9 : decode cX11_tick 9 = .ok (.aload_n 0, 1) := by decide +kernel
theorem dX11_tick_10 : decode cX11_tick 10 = .ok (.getfield 28, 3) := by decide +kernel
theorem dX11_tick_13 : decode cX11_tick 13 = .ok (.getfield 278, 3) := by decide +kernel
theorem dX11_tick_16 : decode cX11_tick 16 = .ok (.getfield 282, 3) := by decide +kernel
theorem dX11_tick_19 : decode cX11_tick 19 = .ok (.istore_n 2, 1) := by decide +kernel
theorem dX11_tick_20 : decode cX11_tick 20 = .ok (.iconst 0, 1) := by decide +kernel
theorem dX11_tick_21 : decode cX11_tick 21 = .ok (.istore_n 3, 1) := by decide +kernel
theorem dX11_tick_22 : decode cX11_tick 22 = .ok (.iload_n 3, 1) := by decide +kernel
theorem dX11_tick_23 : decode cX11_tick 23 = .ok (.iload_n 1, 1) := by decide +kernel
theorem dX11_tick_24 : decode cX11_tick 24 = .ok (.if_icmp .ge 16, 3) := by decide +kernel
theorem dX11_tick_27 : decode cX11_tick 27 = .ok (.aload_n 0, 1) := by decide +kernel
theorem dX11_tick_28 : decode cX11_tick 28 = .ok (.getfield 28, 3) := by decide +kernel
theorem dX11_tick_31 : decode cX11_tick 31 = .ok (.invokevirtual 287, 3) := by decide +kernel
theorem dX11_tick_34 : decode cX11_tick 34 = .ok (.iinc 3 1, 3) := by decide +kernel
theorem dX11_tick_37 : decode cX11_tick 37 = .ok (.goto (-15), 3) := by decide +kernel
theorem dX11_tick_40 : decode cX11_tick 40 = .ok (.aload_n 0, 1) := by decide +kernel
theorem dX11_tick_41 : decode cX11_tick 41 = .ok (.getfield 28, 3) := by decide +kernel
theorem dX11_tick_44 : decode cX11_tick 44 = .ok (.getfield 278, 3) := by decide +kernel
theorem dX11_tick_47 : decode cX11_tick 47 = .ok (.getfield 282, 3) := by decide +kernel
theorem dX11_tick_50 : decode cX11_tick 50 = .ok (.iload_n 2, 1) := by decide +kernel
theorem dX11_tick_51 : decode cX11_tick 51 = .ok (.isub, 1) := by decide +kernel
theorem dX11_tick_52 : decode cX11_tick 52 = .ok (.ireturn, 1) := by decide +kernel
theorem dX11_reset_0 : decode cX11_reset 0 = .ok (.aload_n 0, 1) := by decide +kernel
theorem dX11_reset_1 : decode cX11_reset 1 = .ok (.getfield 28, 3) := by decide +kernel
theorem dX11_reset_4 : decode cX11_reset 4 = .ok (.getfield 290, 3) := by decide +kernel
theorem dX11_reset_7 : decode cX11_reset 7 = .ok (.istore_n 1, 1) := by decide +kernel
theorem dX11_reset_8 : decode cX11_reset 8 = .ok (.aload_n 0, 1) := by decide +kernel
theorem dX11_reset_9 : decode cX11_reset 9 = .ok (.getfield 28, 3) := by decide +kernel
theorem dX11_reset_12 : decode cX11_reset 12 = .ok (.invokevirtual 293, 3) := by decide +kernel
theorem dX11_reset_15 : decode cX11_reset 15 = .ok (.aload_n 0, 1) := by decide +kernel
theorem dX11_reset_16 : decode cX11_reset 16 = .ok (.getfield 28, 3) := by decide +kernel
theorem dX11_reset_19 : decode cX11_reset 19 = .ok (.aload_n 0, 1) := by decide +kernel
theorem dX11_reset_20 : decode cX11_reset 20 = .ok (.getfield 12, 3) := by decide +kernel
theorem dX11_reset_23 : decode cX11_reset 23 = .ok (.getfield 173, 3) := by decide +kernel
theorem dX11_reset_26 : decode cX11_reset 26 = .ok (.invokevirtual 296, 3) := by decide +kernel
theorem dX11_reset_29 : decode cX11_reset 29 = .ok (.ifCond .eq 13, 3) := by decide +kernel
theorem dX11_reset_32 : decode cX11_reset 32 = .ok (.aload_n 0, 1) := by decide +kernel
theorem dX11_reset_33 : decode cX11_reset 33 = .ok (.getfield 12, 3) := by decide +kernel
theorem dX11_reset_36 : decode cX11_reset 36 = .ok (.getfield 299, 3) := by decide +kernel
theorem dX11_reset_39 : decode cX11_reset 39 = .ok (.goto 17, 3) := by decide +kernel
theorem dX11_reset_42 : decode cX11_reset 42 = .ok (.aload_n 0, 1) := by decide +kernel
theorem dX11_reset_43 : decode cX11_reset 43 = .ok (.getfield 12, 3) := by decide +kernel
theorem dX11_reset_46 : decode cX11_reset 46 = .ok (.getfield 173, 3) := by decide +kernel
theorem dX11_reset_49 : decode cX11_reset 49 = .ok (.iconst 0, 1) := by decide +kernel
theorem dX11_reset_50 : decode cX11_reset 50 = .ok (.invokevirtual 302, 3) := by decide +kernel
theorem dX11_reset_53 : decode cX11_reset 53 = .ok (.checkcast 178, 3) := by decide +kernel
theorem dX11_reset_56 : decode cX11_reset 56 = .ok (.invokevirtual 183, 3) := by decide +kernel
theorem dX11_reset_59 : decode cX11_reset 59 = .ok (.iload_n 1, 1) := by decide +kernel
theorem dX11_reset_60 : decode cX11_reset 60 = .ok (.ireturn, 1) := by decide +kernel
theorem dX11_state_0 : decode cX11_state 0 = .ok (.aload_n 0, 1) := by decide +kernel
theorem dX11_state_1 : decode cX11_state 1 = .ok (.invokevirtual 275, 3) := by decide +kernel
theorem dX11_state_4 : decode cX11_state 4 = .ok (.aload_n 0, 1) := by decide +kernel
theorem dX11_state_5 : decode cX11_state 5 = .ok (.getfield 28, 3) := by decide +kernel
theorem dX11_state_8 : decode cX11_state 8 = .ok (.getfield 306, 3) := by decide +kernel
theorem dX11_state_11 : decode cX11_state 11 = .ok (.getfield 310, 3) := by decide +kernel
theorem dX11_state_14 : decode cX11_state 14 = .ok (.getfield 187, 3) := by decide +kernel
theorem dX11_state_17 : decode cX11_state 17 = .ok (.ireturn, 1) := by decide +kernel
theorem dX11_target_0 : decode cX11_target 0 = .ok (.aload_n 0, 1) := by decide +kernel
theorem dX11_target_1 : decode cX11_target 1 = .ok (.getfield 28, 3) := by decide +kernel
theorem dX11_target_4 : decode cX11_target 4 = .ok (.getfield 315, 3) := by decide +kernel
theorem dX11_target_7 : decode cX11_target 7 = .ok (.ifnonnull 7, 3) := by decide +kernel
theorem dX11_target_10 : decode cX11_target 10 = .ok (.iconst (-1), 1) := by decide +kernel
theorem dX11_target_11 : decode cX11_target 11 = .ok (.goto 16, 3) := by decide +kernel
theorem dX11_target_14 : decode cX11_target 14 = .ok (.aload_n 0, 1) := by decide +kernel
theorem dX11_target_15 : decode cX11_target 15 = .ok (.getfield 28, 3) := by decide +kernel
theorem dX11_target_18 : decode cX11_target 18 = .ok (.getfield 319, 3) := by decide +kernel
theorem dX11_target_21 : decode cX11_target 21 = .ok (.getfield 310, 3) := by decide +kernel
theorem dX11_target_24 : decode cX11_target 24 = .ok (.getfield 187, 3) := by decide +kernel
theorem dX11_target_27 : decode cX11_target 27 = .ok (.ireturn, 1) := by decide +kernel
theorem dX11_transition_0 : decode cX11_transition 0 = .ok (.aload_n 0, 1) := by decide +kernel
theorem dX11_transition_1 : decode cX11_transition 1 = .ok (.getfield 28, 3) := by decide +kernel
theorem dX11_transition_4 : decode cX11_transition 4 = .ok (.getfield 315, 3) := by decide +kernel
theorem dX11_transition_7 : decode cX11_transition 7 = .ok (.ifnonnull 7, 3) := by decide +kernel
theorem dX11_transition_10 : decode cX11_transition 10 = .ok (.iconst (-1), 1) := by decide +kernel
theorem dX11_transition_11 : decode cX11_transition 11 = .ok (.goto 13, 3) := by decide +kernel
theorem dX11_transition_14 : decode cX11_transition 14 = .ok (.aload_n 0, 1) := by decide +kernel
theorem dX11_transition_15 : decode cX11_transition 15 = .ok (.getfield 28, 3) := by decide +kernel
theorem dX11_transition_18 : decode cX11_transition 18 = .ok (.getfield 315, 3) := by decide +kernel
theorem dX11_transition_21 : decode cX11_transition 21 = .ok (.getfield 210, 3) := by decide +kernel
theorem dX11_transition_24 : decode cX11_transition 24 = .ok (.ireturn, 1) := by decide +kernel
theorem dX11_elapsed_0 : decode cX11_elapsed 0 = .ok (.aload_n 0, 1) := by decide +kernel
theorem dX11_elapsed_1 : decode cX11_elapsed 1 = .ok (.getfield 28, 3) := by decide +kernel
theorem dX11_elapsed_4 : decode cX11_elapsed 4 = .ok (.getfield 315, 3) := by decide +kernel
theorem dX11_elapsed_7 : decode cX11_elapsed 7 = .ok (.ifnonnull 7, 3) := by decide +kernel
theorem dX11_elapsed_10 : decode cX11_elapsed 10 = .ok (.iconst (-1), 1) := by decide +kernel
theorem dX11_elapsed_11 : decode cX11_elapsed 11 = .ok (.goto 10, 3) := by decide +kernel
theorem dX11_elapsed_14 : decode cX11_elapsed 14 = .ok (.aload_n 0, 1) := by decide +kernel
theorem dX11_elapsed_15 : decode cX11_elapsed 15 = .ok (.getfield 28, 3) := by decide +kernel
theorem dX11_elapsed_18 : decode cX11_elapsed 18 = .ok (.getfield 322, 3) := by decide +kernel
theorem dX11_elapsed_21 : decode cX11_elapsed 21 = .ok (.ireturn, 1) := by decide +kernel
theorem dX11_isFrozen_0 : decode cX11_isFrozen 0 = .ok (.aload_n 0, 1) := by decide +kernel
theorem dX11_isFrozen_1 : decode cX11_isFrozen 1 = .ok (.getfield 28, 3) := by decide +kernel
theorem dX11_isFrozen_4 : decode cX11_isFrozen 4 = .ok (.getfield 325, 3) := by decide +kernel
theorem dX11_isFrozen_7 : decode cX11_isFrozen 7 = .ok (.ireturn, 1) := by decide +kernel
theorem dX11_progress_0 : decode cX11_progress 0 = .ok (.aload_n 0, 1) := by decide +kernel
theorem dX11_progress_1 : decode cX11_progress 1 = .ok (.invokevirtual 275, 3) := by decide +kernel
theorem dX11_progress_4 : decode cX11_progress 4 = .ok (.iload_n 1, 1) := by decide +kernel
theorem dX11_progress_5 : decode cX11_progress 5 = .ok (.ifCond .ne 14, 3) := by decide +kernel
theorem dX11_progress_8 : decode cX11_progress 8 = .ok (.aload_n 0, 1) := by decide +kernel
theorem dX11_progress_9 : decode cX11_progress 9 = .ok (.getfield 28, 3) := by decide +kernel
theorem dX11_progress_12 : decode cX11_progress 12 = .ok (.getfield 306, 3) := by decide +kernel
theorem dX11_progress_15 : decode cX11_progress 15 = .ok (.invokevirtual 328, 3) := by decide +kernel
theorem dX11_progress_18 : decode cX11_progress 18 = .ok (.lreturn, 1) := by decide +kernel
theorem dX11_progress_19 : decode cX11_progress 19 = .ok (.aload_n 0, 1) := by decide +kernel
theorem dX11_progress_20 : decode cX11_progress 20 = .ok (.getfield 28, 3) := by decide +kernel
theorem dX11_progress_23 : decode cX11_progress 23 = .ok (.getfield 315, 3) := by decide +kernel
theorem dX11_progress_26 : decode cX11_progress 26 = .ok (.ifnonnull 14, 3) := by decide +kernel
theorem dX11_progress_29 : decode cX11_progress 29 = .ok (.new 61, 3) := by decide +kernel
theorem dX11_progress_32 : decode cX11_progress 32 = .ok (.dup, 1) := by decide +kernel
theorem dX11_progress_33 : decode cX11_progress 33 = .ok (.ldc_w 332, 3) := by decide +kernel
theorem dX11_progress_36 : decode cX11_progress 36 = .ok (.invokespecial 65, 3) := by decide +kernel
theorem dX11_progress_39 : decode cX11_progress 39 = .ok (.athrow, 1) := by decide +kernel
theorem dX11_progress_40 : decode cX11_progress 40 = .ok (.aload_n 0, 1) := by decide +kernel
theorem dX11_progress_41 : decode cX11_progress 41 = .ok (.getfield 28, 3) := by decide +kernel
theorem dX11_progress_44 : decode cX11_progress 44 = .ok (.getfield 319, 3) := by decide +kernel
theorem dX11_progress_47 : decode cX11_progress 47 = .ok (.invokevirtual 328, 3) := by decide +kernel
theorem dX11_progress_50 : decode cX11_progress 50 = .ok (.lreturn, 1) := by decide +kernel
theorem dX11_stateLength_0 : decode cX11_stateLength 0 = .ok (.aload_n 0, 1) := by decide +kernel
theorem dX11_stateLength_1 : decode cX11_stateLength 1 = .ok (.getfield 28, 3) := by decide +kernel
theorem dX11_stateLength_4 : decode cX11_stateLength 4 = .ok (.aload_n 0, 1) := by decide +kernel
theorem dX11_stateLength_5 : decode cX11_stateLength 5 = .ok (.iload_n 1, 1) := by decide +kernel
theorem dX11_stateLength_6 : decode cX11_stateLength 6 = .ok (.invokevirtual 190, 3) := by decide +kernel
theorem dX11_stateLength_9 : decode cX11_stateLength 9 = .ok (.invokevirtual 334, 3) := by decide +kernel
theorem dX11_stateLength_12 : decode cX11_stateLength 12 = .ok (.ireturn, 1) := by decide +kernel
theorem dX11_partWeight_0 : decode cX11_partWeight 0 = .ok (.aload_n 0, 1) := by decide +kernel
theorem dX11_partWeight_1 : decode cX11_partWeight 1 = .ok (.iload_n 1, 1) := by decide +kernel
theorem dX11_partWeight_2 : decode cX11_partWeight 2 = .ok (.invokevirtual 190, 3) := by decide +kernel
theorem dX11_partWeight_5 : decode cX11_partWeight 5 = .ok (.astore_n 3, 1) := by decide +kernel
theorem dX11_partWeight_6 : decode cX11_partWeight 6 = .ok (.aload_n 0, 1) := by decide +kernel
theorem dX11_partWeight_7 : decode cX11_partWeight 7 = .ok (.iload_n 2, 1) := by decide +kernel
theorem dX11_partWeight_8 : decode cX11_partWeight 8 = .ok (.invokevirtual 106, 3) := by decide +kernel
theorem dX11_partWeight_11 : decode cX11_partWeight 11 = .ok (.astore 4, 2) := by decide +kernel
theorem dX11_partWeight_13 : decode cX11_partWeight 13 = .ok (.aload_n 0, 1) := by decide +kernel
theorem dX11_partWeight_14 : decode cX11_partWeight 14 = .ok (.getfield 28, 3) := by decide +kernel
theorem dX11_partWeight_17 : decode cX11_partWeight 17 = .ok (.getfield 338, 3) := by decide +kernel
theorem dX11_partWeight_20 : decode cX11_partWeight 20 = .ok (.aload_n 3, 1) := by decide +kernel
theorem dX11_partWeight_21 : decode cX11_partWeight 21 = .ok (.getfield 342, 3) := by decide +kernel
theorem dX11_partWeight_24 : decode cX11_partWeight 24 = .ok (.ldc_w 346, 3) := by decide +kernel
theorem dX11_partWeight_27 : decode cX11_partWeight 27 = .ok (.aload_n 0, 1) := by decide +kernel
theorem dX11_partWeight_28 : decode cX11_partWeight 28 = .ok (.getfield 28, 3) := by decide +kernel
theorem dX11_partWeight_31 : decode cX11_partWeight 31 = .ok (.getfield 347, 3) := by decide +kernel
theorem dX11_partWeight_34 : decode cX11_partWeight 34 = .ok (.invokevirtual 350, 3) := by decide +kernel
theorem dX11_partWeight_37 : decode cX11_partWeight 37 = .ok (.aload_n 0, 1) := by decide +kernel
theorem dX11_partWeight_38 : decode cX11_partWeight 38 = .ok (.getfield 28, 3) := by decide +kernel
theorem dX11_partWeight_41 : decode cX11_partWeight 41 = .ok (.getfield 338, 3) := by decide +kernel
theorem dX11_partWeight_44 : decode cX11_partWeight 44 = .ok (.aload 4, 2) := by decide +kernel
theorem dX11_partWeight_46 : decode cX11_partWeight 46 = .ok (.getfield 356, 3) := by decide +kernel
theorem dX11_partWeight_49 : decode cX11_partWeight 49 = .ok (.invokevirtual 357, 3) := by decide +kernel
theorem dX11_partWeight_52 : decode cX11_partWeight 52 = .ok (.ireturn, 1) := by decide +kernel
theorem dX11_poseSize_0 : decode cX11_poseSize 0 = .ok (.aload_n 0, 1) := by decide +kernel
theorem dX11_poseSize_1 : decode cX11_poseSize 1 = .ok (.invokevirtual 368, 3) := by decide +kernel
theorem dX11_poseSize_4 : decode cX11_poseSize 4 = .ok (.getfield 372, 3) := by decide +kernel
theorem dX11_poseSize_7 : decode cX11_poseSize 7 = .ok (.ireturn, 1) := by decide +kernel
theorem dX11_poseClip_0 : decode cX11_poseClip 0 = .ok (.aload_n 0, 1) := by decide +kernel
theorem dX11_poseClip_1 : decode cX11_poseClip 1 = .ok (.invokevirtual 368, 3) := by decide +kernel
theorem dX11_poseClip_4 : decode cX11_poseClip 4 = .ok (.astore_n 2, 1) := by decide +kernel
theorem dX11_poseClip_5 : decode cX11_poseClip 5 = .ok (.iload_n 1, 1) := by decide +kernel
theorem dX11_poseClip_6 : decode cX11_poseClip 6 = .ok (.ifCond .lt 20, 3) := by decide +kernel
theorem dX11_poseClip_9 : decode cX11_poseClip 9 = .ok (.iload_n 1, 1) := by decide +kernel
theorem dX11_poseClip_10 : decode cX11_poseClip 10 = .ok (.aload_n 2, 1) := by decide +kernel
theorem dX11_poseClip_11 : decode cX11_poseClip 11 = .ok (.getfield 372, 3) := by decide +kernel
theorem dX11_poseClip_14 : decode cX11_poseClip 14 = .ok (.if_icmp .ge 12, 3) := by decide +kernel
theorem dX11_poseClip_17 : decode cX11_poseClip 17 = .ok (.iload_n 1, 1) := by decide +kernel
theorem dX11_poseClip_18 : decode cX11_poseClip 18 = .ok (.aload_n 2, 1) := by decide +kernel
theorem dX11_poseClip_19 : decode cX11_poseClip 19 = .ok (.getfield 376, 3) := by decide +kernel
theorem dX11_poseClip_22 : decode cX11_poseClip 22 = .ok (.arraylength, 1) := by decide +kernel
theorem dX11_poseClip_23 : decode cX11_poseClip 23 = .ok (.if_icmp .lt 14, 3) := by decide +kernel
theorem dX11_poseClip_26 : decode cX11_poseClip 26 = .ok (.new 378, 3) := by decide +kernel
theorem dX11_poseClip_29 : decode cX11_poseClip 29 = .ok (.dup, 1) := by decide +kernel
theorem dX11_poseClip_30 : decode cX11_poseClip 30 = .ok (.ldc_w 380, 3) := by decide +kernel
theorem dX11_poseClip_33 : decode cX11_poseClip 33 = .ok (.invokespecial 382, 3) := by decide +kernel
theorem dX11_poseClip_36 : decode cX11_poseClip 36 = .ok (.athrow, 1) := by decide +kernel
theorem dX11_poseClip_37 : decode cX11_poseClip 37 = .ok (.aload_n 2, 1) := by decide +kernel
theorem dX11_poseClip_38 : decode cX11_poseClip 38 = .ok (.getfield 376, 3) := by decide +kernel
theorem dX11_poseClip_41 : decode cX11_poseClip 41 = .ok (.iload_n 1, 1) := by decide +kernel
theorem dX11_poseClip_42 : decode cX11_poseClip 42 = .ok (.iaload, 1) := by decide +kernel
theorem dX11_poseClip_43 : decode cX11_poseClip 43 = .ok (.ireturn, 1) := by decide +kernel
theorem dX11_poseTime_0 : decode cX11_poseTime 0 = .ok (.aload_n 0, 1) := by decide +kernel
theorem dX11_poseTime_1 : decode cX11_poseTime 1 = .ok (.invokevirtual 368, 3) := by decide +kernel
theorem dX11_poseTime_4 : decode cX11_poseTime 4 = .ok (.astore_n 2, 1) := by decide +kernel
theorem dX11_poseTime_5 : decode cX11_poseTime 5 = .ok (.iload_n 1, 1) := by decide +kernel
theorem dX11_poseTime_6 : decode cX11_poseTime 6 = .ok (.ifCond .lt 20, 3) := by decide +kernel
theorem dX11_poseTime_9 : decode cX11_poseTime 9 = .ok (.iload_n 1, 1) := by decide +kernel
theorem dX11_poseTime_10 : decode cX11_poseTime 10 = .ok (.aload_n 2, 1) := by decide +kernel
theorem dX11_poseTime_11 : decode cX11_poseTime 11 = .ok (.getfield 372, 3) := by decide +kernel
theorem dX11_poseTime_14 : decode cX11_poseTime 14 = .ok (.if_icmp .ge 12, 3) := by decide +kernel
theorem dX11_poseTime_17 : decode cX11_poseTime 17 = .ok (.iload_n 1, 1) := by decide +kernel
theorem dX11_poseTime_18 : decode cX11_poseTime 18 = .ok (.aload_n 2, 1) := by decide +kernel
theorem dX11_poseTime_19 : decode cX11_poseTime 19 = .ok (.getfield 383, 3) := by decide +kernel
theorem dX11_poseTime_22 : decode cX11_poseTime 22 = .ok (.arraylength, 1) := by decide +kernel
theorem dX11_poseTime_23 : decode cX11_poseTime 23 = .ok (.if_icmp .lt 14, 3) := by decide +kernel
theorem dX11_poseTime_26 : decode cX11_poseTime 26 = .ok (.new 378, 3) := by decide +kernel
theorem dX11_poseTime_29 : decode cX11_poseTime 29 = .ok (.dup, 1) := by decide +kernel
theorem dX11_poseTime_30 : decode cX11_poseTime 30 = .ok (.ldc_w 380, 3) := by decide +kernel
theorem dX11_poseTime_33 : decode cX11_poseTime 33 = .ok (.invokespecial 382, 3) := by decide +kernel
theorem dX11_poseTime_36 : decode cX11_poseTime 36 = .ok (.athrow, 1) := by decide +kernel
theorem dX11_poseTime_37 : decode cX11_poseTime 37 = .ok (.aload_n 2, 1) := by decide +kernel
theorem dX11_poseTime_38 : decode cX11_poseTime 38 = .ok (.getfield 383, 3) := by decide +kernel
theorem dX11_poseTime_41 : decode cX11_poseTime 41 = .ok (.iload_n 1, 1) := by decide +kernel
theorem dX11_poseTime_42 : decode cX11_poseTime 42 = .ok (.iaload, 1) := by decide +kernel
theorem dX11_poseTime_43 : decode cX11_poseTime 43 = .ok (.ireturn, 1) := by decide +kernel
theorem dX11_poseWeight_0 : decode cX11_poseWeight 0 = .ok (.aload_n 0, 1) := by decide +kernel
theorem dX11_poseWeight_1 : decode cX11_poseWeight 1 = .ok (.invokevirtual 368, 3) := by decide +kernel
theorem dX11_poseWeight_4 : decode cX11_poseWeight 4 = .ok (.astore_n 2, 1) := by decide +kernel
theorem dX11_poseWeight_5 : decode cX11_poseWeight 5 = .ok (.iload_n 1, 1) := by decide +kernel
theorem dX11_poseWeight_6 : decode cX11_poseWeight 6 = .ok (.ifCond .lt 20, 3) := by decide +kernel
theorem dX11_poseWeight_9 : decode cX11_poseWeight 9 = .ok (.iload_n 1, 1) := by decide +kernel
theorem dX11_poseWeight_10 : decode cX11_poseWeight 10 = .ok (.aload_n 2, 1) := by decide +kernel
theorem dX11_poseWeight_11 : decode cX11_poseWeight 11 = .ok (.getfield 372, 3) := by decide +kernel
theorem dX11_poseWeight_14 : decode cX11_poseWeight 14 = .ok (.if_icmp .ge 12, 3) := by decide +kernel
theorem dX11_poseWeight_17 : decode cX11_poseWeight 17 = .ok (.iload_n 1, 1) := by decide +kernel
theorem dX11_poseWeight_18 : decode cX11_poseWeight 18 = .ok (.aload_n 2, 1) := by decide +kernel
theorem dX11_poseWeight_19 : decode cX11_poseWeight 19 = .ok (.getfield 386, 3) := by decide +kernel
theorem dX11_poseWeight_22 : decode cX11_poseWeight 22 = .ok (.arraylength, 1) := by decide +kernel
theorem dX11_poseWeight_23 : decode cX11_poseWeight 23 = .ok (.if_icmp .lt 14, 3) := by decide +kernel
theorem dX11_poseWeight_26 : decode cX11_poseWeight 26 = .ok (.new 378, 3) := by decide +kernel
theorem dX11_poseWeight_29 : decode cX11_poseWeight 29 = .ok (.dup, 1) := by decide +kernel
theorem dX11_poseWeight_30 : decode cX11_poseWeight 30 = .ok (.ldc_w 380, 3) := by decide +kernel
theorem dX11_poseWeight_33 : decode cX11_poseWeight 33 = .ok (.invokespecial 382, 3) := by decide +kernel
theorem dX11_poseWeight_36 : decode cX11_poseWeight 36 = .ok (.athrow, 1) := by decide +kernel
theorem dX11_poseWeight_37 : decode cX11_poseWeight 37 = .ok (.aload_n 2, 1) := by decide +kernel
theorem dX11_poseWeight_38 : decode cX11_poseWeight 38 = .ok (.getfield 386, 3) := by decide +kernel
theorem dX11_poseWeight_41 : decode cX11_poseWeight 41 = .ok (.iload_n 1, 1) := by decide +kernel
theorem dX11_poseWeight_42 : decode cX11_poseWeight 42 = .ok (.iaload, 1) := by decide +kernel
theorem dX11_poseWeight_43 : decode cX11_poseWeight 43 = .ok (.ireturn, 1) := by decide +kernel
theorem dX11_fired_0 : decode cX11_fired 0 = .ok (.aload_n 0, 1) := by decide +kernel
theorem dX11_fired_1 : decode cX11_fired 1 = .ok (.getfield 28, 3) := by decide +kernel
theorem dX11_fired_4 : decode cX11_fired 4 = .ok (.getfield 278, 3) := by decide +kernel
theorem dX11_fired_7 : decode cX11_fired 7 = .ok (.getfield 282, 3) := by decide +kernel
theorem dX11_fired_10 : decode cX11_fired 10 = .ok (.ireturn, 1) := by decide +kernel
theorem dX11_event_0 : decode cX11_event 0 = .ok (.iload_n 1, 1) := by decide +kernel
theorem dX11_event_1 : decode cX11_event 1 = .ok (.ifCond .lt 17, 3) := by decide +kernel
theorem dX11_event_4 : decode cX11_event 4 = .ok (.iload_n 1, 1) := by decide +kernel
theorem dX11_event_5 : decode cX11_event 5 = .ok (.aload_n 0, 1) := by decide +kernel
theorem dX11_event_6 : decode cX11_event 6 = .ok (.getfield 28, 3) := by decide +kernel
theorem dX11_event_9 : decode cX11_event 9 = .ok (.getfield 278, 3) := by decide +kernel
theorem dX11_event_12 : decode cX11_event 12 = .ok (.invokevirtual 389, 3) := by decide +kernel
theorem dX11_event_15 : decode cX11_event 15 = .ok (.if_icmp .lt 14, 3) := by decide +kernel
theorem dX11_event_18 : decode cX11_event 18 = .ok (.new 378, 3) := by decide +kernel
theorem dX11_event_21 : decode cX11_event 21 = .ok (.dup, 1) := by decide +kernel
theorem dX11_event_22 : decode cX11_event 22 = .ok (.ldc_w 392, 3) := by decide +kernel
theorem dX11_event_25 : decode cX11_event 25 = .ok (.invokespecial 382, 3) := by decide +kernel
theorem dX11_event_28 : decode cX11_event 28 = .ok (.athrow, 1) := by decide +kernel
theorem dX11_event_29 : decode cX11_event 29 = .ok (.iload_n 2, 1) := by decide +kernel
theorem dX11_event_30 : decode cX11_event 30 = .ok (.ifCond .lt 8, 3) := by decide +kernel
theorem dX11_event_33 : decode cX11_event 33 = .ok (.iload_n 2, 1) := by decide +kernel
theorem dX11_event_34 : decode cX11_event 34 = .ok (.iconst 4, 1) := by decide +kernel
theorem dX11_event_35 : decode cX11_event 35 = .ok (.if_icmp .lt 14, 3) := by decide +kernel
theorem dX11_event_38 : decode cX11_event 38 = .ok (.new 47, 3) := by decide +kernel
theorem dX11_event_41 : decode cX11_event 41 = .ok (.dup, 1) := by decide +kernel
theorem dX11_event_42 : decode cX11_event 42 = .ok (.ldc_w 394, 3) := by decide +kernel
theorem dX11_event_45 : decode cX11_event 45 = .ok (.invokespecial 51, 3) := by decide +kernel
theorem dX11_event_48 : decode cX11_event 48 = .ok (.athrow, 1) := by decide +kernel
theorem dX11_event_49 : decode cX11_event 49 = .ok (.aload_n 0, 1) := by decide +kernel
theorem dX11_event_50 : decode cX11_event 50 = .ok (.getfield 28, 3) := by decide +kernel
theorem dX11_event_53 : decode cX11_event 53 = .ok (.getfield 278, 3) := by decide +kernel
theorem dX11_event_56 : decode cX11_event 56 = .ok (.iload_n 1, 1) := by decide +kernel
theorem dX11_event_57 : decode cX11_event 57 = .ok (.iload_n 2, 1) := by decide +kernel
theorem dX11_event_58 : decode cX11_event 58 = .ok (.invokevirtual 396, 3) := by decide +kernel
theorem dX11_event_61 : decode cX11_event 61 = .ok (.ireturn, 1) := by decide +kernel
theorem dX11_foretell_0 : decode cX11_foretell 0 = .ok (.aload_n 0, 1) := by decide +kernel
theorem dX11_foretell_1 : decode cX11_foretell 1 = .ok (.iload_n 1, 1) := by decide +kernel
theorem dX11_foretell_2 : decode cX11_foretell 2 = .ok (.invokevirtual 272, 3) := by decide +kernel
theorem dX11_foretell_5 : decode cX11_foretell 5 = .ok (.aload_n 0, 1) := by decide +kernel
theorem dX11_foretell_6 : decode cX11_foretell 6 = .ok (.invokevirtual 275, 3) := by decide +kernel
theorem dX11_foretell_9 : decode cX11_foretell 9 = .ok (.aload_n 0, 1) := by decide +kernel
theorem dX11_foretell_10 : decode cX11_foretell 10 = .ok (.getfield 32, 3) := by decide +kernel
theorem dX11_foretell_13 : decode cX11_foretell 13 = .ok (.aload_n 0, 1) := by decide +kernel
theorem dX11_foretell_14 : decode cX11_foretell 14 = .ok (.getfield 28, 3) := by decide +kernel
theorem dX11_foretell_17 : decode cX11_foretell 17 = .ok (.invokevirtual 400, 3) := by decide +kernel
theorem dX11_foretell_20 : decode cX11_foretell 20 = .ok (.iconst 0, 1) := by decide +kernel
theorem dX11_foretell_21 : decode cX11_foretell 21 = .ok (.istore_n 2, 1) := by decide +kernel
theorem dX11_foretell_22 : decode cX11_foretell 22 = .ok (.iload_n 2, 1) := by decide +kernel
theorem dX11_foretell_23 : decode cX11_foretell 23 = .ok (.iload_n 1, 1) := by decide +kernel
theorem dX11_foretell_24 : decode cX11_foretell 24 = .ok (.if_icmp .ge 16, 3) := by decide +kernel
theorem dX11_foretell_27 : decode cX11_foretell 27 = .ok (.aload_n 0, 1) := by decide +kernel
theorem dX11_foretell_28 : decode cX11_foretell 28 = .ok (.getfield 32, 3) := by decide +kernel
theorem dX11_foretell_31 : decode cX11_foretell 31 = .ok (.invokevirtual 287, 3) := by decide +kernel
theorem dX11_foretell_34 : decode cX11_foretell 34 = .ok (.iinc 2 1, 3) := by decide +kernel
theorem dX11_foretell_37 : decode cX11_foretell 37 = .ok (.goto (-15), 3) := by decide +kernel
theorem dX11_foretell_40 : decode cX11_foretell 40 = .ok (.aload_n 0, 1) := by decide +kernel
theorem dX11_foretell_41 : decode cX11_foretell 41 = .ok (.getfield 32, 3) := by decide +kernel
theorem dX11_foretell_44 : decode cX11_foretell 44 = .ok (.getfield 315, 3) := by decide +kernel
theorem dX11_foretell_47 : decode cX11_foretell 47 = .ok (.ifnonnull 19, 3) := by decide +kernel
theorem dX11_foretell_50 : decode cX11_foretell 50 = .ok (.aload_n 0, 1) := by decide +kernel
theorem dX11_foretell_51 : decode cX11_foretell 51 = .ok (.getfield 32, 3) := by decide +kernel
theorem dX11_foretell_54 : decode cX11_foretell 54 = .ok (.getfield 306, 3) := by decide +kernel
theorem dX11_foretell_57 : decode cX11_foretell 57 = .ok (.getfield 310, 3) := by decide +kernel
theorem dX11_foretell_60 : decode cX11_foretell 60 = .ok (.getfield 187, 3) := by decide +kernel
theorem dX11_foretell_63 : decode cX11_foretell 63 = .ok (.goto 16, 3) := by decide +kernel
theorem dX11_foretell_66 : decode cX11_foretell 66 = .ok (.aload_n 0, 1) := by decide +kernel
theorem dX11_foretell_67 : decode cX11_foretell 67 = .ok (.getfield 32, 3) := by decide +kernel
theorem dX11_foretell_70 : decode cX11_foretell 70 = .ok (.getfield 319, 3) := by decide +kernel
theorem dX11_foretell_73 : decode cX11_foretell 73 = .ok (.getfield 310, 3) := by decide +kernel
theorem dX11_foretell_76 : decode cX11_foretell 76 = .ok (.getfield 187, 3) := by decide +kernel
theorem dX11_foretell_79 : decode cX11_foretell 79 = .ok (.ireturn, 1) := by decide +kernel
theorem dX11_ticksTo_0 : decode cX11_ticksTo 0 = .ok (.aload_n 0, 1) := by decide +kernel
theorem dX11_ticksTo_1 : decode cX11_ticksTo 1 = .ok (.iload_n 1, 1) := by decide +kernel
theorem dX11_ticksTo_2 : decode cX11_ticksTo 2 = .ok (.invokevirtual 190, 3) := by decide +kernel
theorem dX11_ticksTo_5 : decode cX11_ticksTo 5 = .ok (.astore_n 2, 1) := by decide +kernel
theorem dX11_ticksTo_6 : decode cX11_ticksTo 6 = .ok (.aload_n 0, 1) := by decide +kernel
theorem dX11_ticksTo_7 : decode cX11_ticksTo 7 = .ok (.getfield 32, 3) := by decide +kernel
theorem dX11_ticksTo_10 : decode cX11_ticksTo 10 = .ok (.aload_n 0, 1) := by decide +kernel
theorem dX11_ticksTo_11 : decode cX11_ticksTo 11 = .ok (.getfield 28, 3) := by decide +kernel
theorem dX11_ticksTo_14 : decode cX11_ticksTo 14 = .ok (.invokevirtual 400, 3) := by decide +kernel
theorem dX11_ticksTo_17 : decode cX11_ticksTo 17 = .ok (.iconst 0, 1) := by decide +kernel
theorem dX11_ticksTo_18 : decode cX11_ticksTo 18 = .ok (.istore_n 3, 1) := by decide +kernel
theorem dX11_ticksTo_19 : decode cX11_ticksTo 19 = .ok (.iload_n 3, 1) := by decide +kernel
theorem dX11_ticksTo_20 : decode cX11_ticksTo 20 = .ok (.bipush 100, 2) := by decide +kernel
theorem dX11_ticksTo_22 : decode cX11_ticksTo 22 = .ok (.if_icmp .gt 42, 3) := by decide +kernel
theorem dX11_ticksTo_25 : decode cX11_ticksTo 25 = .ok (.aload_n 0, 1) := by decide +kernel
theorem dX11_ticksTo_26 : decode cX11_ticksTo 26 = .ok (.getfield 32, 3) := by decide +kernel
theorem dX11_ticksTo_29 : decode cX11_ticksTo 29 = .ok (.getfield 315, 3) := by decide +kernel
theorem dX11_ticksTo_32 : decode cX11_ticksTo 32 = .ok (.ifnonnull 19, 3) := by decide +kernel
theorem dX11_ticksTo_35 : decode cX11_ticksTo 35 = .ok (.aload_n 0, 1) := by decide +kernel
theorem dX11_ticksTo_36 : decode cX11_ticksTo 36 = .ok (.getfield 32, 3) := by decide +kernel
theorem dX11_ticksTo_39 : decode cX11_ticksTo 39 = .ok (.getfield 306, 3) := by decide +kernel
theorem dX11_ticksTo_42 : decode cX11_ticksTo 42 = .ok (.getfield 310, 3) := by decide +kernel
theorem dX11_ticksTo_45 : decode cX11_ticksTo 45 = .ok (.aload_n 2, 1) := by decide +kernel
theorem dX11_ticksTo_46 : decode cX11_ticksTo 46 = .ok (.if_acmp .ne 5, 3) := by decide +kernel
theorem dX11_ticksTo_49 : decode cX11_ticksTo 49 = .ok (.iload_n 3, 1) := by decide +kernel
theorem dX11_ticksTo_50 : decode cX11_ticksTo 50 = .ok (.ireturn, 1) := by decide +kernel
theorem dX11_ticksTo_51 : decode cX11_ticksTo 51 = .ok (.aload_n 0, 1) := by decide +kernel
theorem dX11_ticksTo_52 : decode cX11_ticksTo 52 = .ok (.getfield 32, 3) := by decide +kernel
theorem dX11_ticksTo_55 : decode cX11_ticksTo 55 = .ok (.invokevirtual 287, 3) := by decide +kernel
theorem dX11_ticksTo_58 : decode cX11_ticksTo 58 = .ok (.iinc 3 1, 3) := by decide +kernel
theorem dX11_ticksTo_61 : decode cX11_ticksTo 61 = .ok (.goto (-42), 3) := by decide +kernel
theorem dX11_ticksTo_64 : decode cX11_ticksTo 64 = .ok (.iconst (-1), 1) := by decide +kernel
theorem dX11_ticksTo_65 : decode cX11_ticksTo 65 = .ok (.ireturn, 1) := by decide +kernel
theorem dX11_keep_0 : decode cX11_keep 0 = .ok (.aload_n 0, 1) := by decide +kernel
theorem dX11_keep_1 : decode cX11_keep 1 = .ok (.iload_n 1, 1) := by decide +kernel
theorem dX11_keep_2 : decode cX11_keep 2 = .ok (.invokevirtual 414, 3) := by decide +kernel
theorem dX11_keep_5 : decode cX11_keep 5 = .ok (.aload_n 0, 1) := by decide +kernel
theorem dX11_keep_6 : decode cX11_keep 6 = .ok (.invokevirtual 275, 3) := by decide +kernel
theorem dX11_keep_9 : decode cX11_keep 9 = .ok (.aload_n 0, 1) := by decide +kernel
theorem dX11_keep_10 : decode cX11_keep 10 = .ok (.getfield 35, 3) := by decide +kernel
theorem dX11_keep_13 : decode cX11_keep 13 = .ok (.iload_n 1, 1) := by decide +kernel
theorem dX11_keep_14 : decode cX11_keep 14 = .ok (.aaload, 1) := by decide +kernel
theorem dX11_keep_15 : decode cX11_keep 15 = .ok (.aload_n 0, 1) := by decide +kernel
theorem dX11_keep_16 : decode cX11_keep 16 = .ok (.getfield 28, 3) := by decide +kernel
theorem dX11_keep_19 : decode cX11_keep 19 = .ok (.invokevirtual 400, 3) := by decide +kernel
theorem dX11_keep_22 : decode cX11_keep 22 = .ok (.aload_n 0, 1) := by decide +kernel
theorem dX11_keep_23 : decode cX11_keep 23 = .ok (.getfield 39, 3) := by decide +kernel
theorem dX11_keep_26 : decode cX11_keep 26 = .ok (.iload_n 1, 1) := by decide +kernel
theorem dX11_keep_27 : decode cX11_keep 27 = .ok (.iconst 1, 1) := by decide +kernel
theorem dX11_keep_28 : decode cX11_keep 28 = .ok (.bastore, 1) := by decide +kernel
theorem dX11_keep_29 : decode cX11_keep 29 = .ok (.aload_n 0, 1) := by decide +kernel
theorem dX11_keep_30 : decode cX11_keep 30 = .ok (.getfield 28, 3) := by decide +kernel
theorem dX11_keep_33 : decode cX11_keep 33 = .ok (.getfield 290, 3) := by decide +kernel
theorem dX11_keep_36 : decode cX11_keep 36 = .ok (.ireturn, 1) := by decide +kernel
theorem dX11_restore_0 : decode cX11_restore 0 = .ok (.aload_n 0, 1) := by decide +kernel
theorem dX11_restore_1 : decode cX11_restore 1 = .ok (.iload_n 1, 1) := by decide +kernel
theorem dX11_restore_2 : decode cX11_restore 2 = .ok (.invokevirtual 414, 3) := by decide +kernel
theorem dX11_restore_5 : decode cX11_restore 5 = .ok (.aload_n 0, 1) := by decide +kernel
theorem dX11_restore_6 : decode cX11_restore 6 = .ok (.getfield 39, 3) := by decide +kernel
theorem dX11_restore_9 : decode cX11_restore 9 = .ok (.iload_n 1, 1) := by decide +kernel
theorem dX11_restore_10 : decode cX11_restore 10 = .ok (.baload, 1) := by decide +kernel
theorem dX11_restore_11 : decode cX11_restore 11 = .ok (.ifCond .ne 14, 3) := by decide +kernel
theorem dX11_restore_14 : decode cX11_restore 14 = .ok (.new 61, 3) := by decide +kernel
theorem dX11_restore_17 : decode cX11_restore 17 = .ok (.dup, 1) := by decide +kernel
theorem dX11_restore_18 : decode cX11_restore 18 = .ok (.ldc_w 417, 3) := by decide +kernel
theorem dX11_restore_21 : decode cX11_restore 21 = .ok (.invokespecial 65, 3) := by decide +kernel
theorem dX11_restore_24 : decode cX11_restore 24 = .ok (.athrow, 1) := by decide +kernel
theorem dX11_restore_25 : decode cX11_restore 25 = .ok (.aload_n 0, 1) := by decide +kernel
theorem dX11_restore_26 : decode cX11_restore 26 = .ok (.getfield 28, 3) := by decide +kernel
theorem dX11_restore_29 : decode cX11_restore 29 = .ok (.aload_n 0, 1) := by decide +kernel
theorem dX11_restore_30 : decode cX11_restore 30 = .ok (.getfield 35, 3) := by decide +kernel
theorem dX11_restore_33 : decode cX11_restore 33 = .ok (.iload_n 1, 1) := by decide +kernel
theorem dX11_restore_34 : decode cX11_restore 34 = .ok (.aaload, 1) := by decide +kernel
theorem dX11_restore_35 : decode cX11_restore 35 = .ok (.invokevirtual 400, 3) := by decide +kernel
theorem dX11_restore_38 : decode cX11_restore 38 = .ok (.aload_n 0, 1) := by decide +kernel
theorem dX11_restore_39 : decode cX11_restore 39 = .ok (.getfield 28, 3) := by decide +kernel
theorem dX11_restore_42 : decode cX11_restore 42 = .ok (.getfield 290, 3) := by decide +kernel
theorem dX11_restore_45 : decode cX11_restore 45 = .ok (.ireturn, 1) := by decide +kernel
theorem dX11_count_0 : decode cX11_count 0 = .ok (.iload_n 1, 1) := by decide +kernel
theorem dX11_count_1 : decode cX11_count 1 = .ok (.tableswitch 126 0 7 #[47, 55, 66, 77, 88, 99, 107, 118], 47) := by decide +kernel
theorem dX11_count_48 : decode cX11_count 48 = .ok (.aload_n 0, 1) := by decide +kernel
theorem dX11_count_49 : decode cX11_count 49 = .ok (.getfield 12, 3) := by decide +kernel
theorem dX11_count_52 : decode cX11_count 52 = .ok (.getfield 54, 3) := by decide +kernel
theorem dX11_count_55 : decode cX11_count 55 = .ok (.ireturn, 1) := by decide +kernel
theorem dX11_count_56 : decode cX11_count 56 = .ok (.aload_n 0, 1) := by decide +kernel
theorem dX11_count_57 : decode cX11_count 57 = .ok (.getfield 12, 3) := by decide +kernel
theorem dX11_count_60 : decode cX11_count 60 = .ok (.getfield 86, 3) := by decide +kernel
theorem dX11_count_63 : decode cX11_count 63 = .ok (.invokevirtual 90, 3) := by decide +kernel
theorem dX11_count_66 : decode cX11_count 66 = .ok (.ireturn, 1) := by decide +kernel
theorem dX11_count_67 : decode cX11_count 67 = .ok (.aload_n 0, 1) := by decide +kernel
theorem dX11_count_68 : decode cX11_count 68 = .ok (.getfield 12, 3) := by decide +kernel
theorem dX11_count_71 : decode cX11_count 71 = .ok (.getfield 126, 3) := by decide +kernel
theorem dX11_count_74 : decode cX11_count 74 = .ok (.invokevirtual 90, 3) := by decide +kernel
theorem dX11_count_77 : decode cX11_count 77 = .ok (.ireturn, 1) := by decide +kernel
theorem dX11_count_78 : decode cX11_count 78 = .ok (.aload_n 0, 1) := by decide +kernel
theorem dX11_count_79 : decode cX11_count 79 = .ok (.getfield 12, 3) := by decide +kernel
theorem dX11_count_82 : decode cX11_count 82 = .ok (.getfield 173, 3) := by decide +kernel
theorem dX11_count_85 : decode cX11_count 85 = .ok (.invokevirtual 90, 3) := by decide +kernel
theorem dX11_count_88 : decode cX11_count 88 = .ok (.ireturn, 1) := by decide +kernel
theorem dX11_count_89 : decode cX11_count 89 = .ok (.aload_n 0, 1) := by decide +kernel
theorem dX11_count_90 : decode cX11_count 90 = .ok (.getfield 12, 3) := by decide +kernel
theorem dX11_count_93 : decode cX11_count 93 = .ok (.getfield 196, 3) := by decide +kernel
theorem dX11_count_96 : decode cX11_count 96 = .ok (.invokevirtual 90, 3) := by decide +kernel
theorem dX11_count_99 : decode cX11_count 99 = .ok (.ireturn, 1) := by decide +kernel
theorem dX11_count_100 : decode cX11_count 100 = .ok (.aload_n 0, 1) := by decide +kernel
theorem dX11_count_101 : decode cX11_count 101 = .ok (.getfield 28, 3) := by decide +kernel
theorem dX11_count_104 : decode cX11_count 104 = .ok (.getfield 290, 3) := by decide +kernel
theorem dX11_count_107 : decode cX11_count 107 = .ok (.ireturn, 1) := by decide +kernel
theorem dX11_count_108 : decode cX11_count 108 = .ok (.aload_n 0, 1) := by decide +kernel
theorem dX11_count_109 : decode cX11_count 109 = .ok (.getfield 28, 3) := by decide +kernel
theorem dX11_count_112 : decode cX11_count 112 = .ok (.getfield 278, 3) := by decide +kernel
theorem dX11_count_115 : decode cX11_count 115 = .ok (.invokevirtual 389, 3) := by decide +kernel
theorem dX11_count_118 : decode cX11_count 118 = .ok (.ireturn, 1) := by decide +kernel
theorem dX11_count_119 : decode cX11_count 119 = .ok (.aload_n 0, 1) := by decide +kernel
theorem dX11_count_120 : decode cX11_count 120 = .ok (.getfield 21, 3) := by decide +kernel
theorem dX11_count_123 : decode cX11_count 123 = .ok (.getfield 260, 3) := by decide +kernel
theorem dX11_count_126 : decode cX11_count 126 = .ok (.ireturn, 1) := by decide +kernel
theorem dX11_count_127 : decode cX11_count 127 = .ok (.new 47, 3) := by decide +kernel
theorem dX11_count_130 : decode cX11_count 130 = .ok (.dup, 1) := by decide +kernel
theorem dX11_count_131 : decode cX11_count 131 = .ok (.ldc_w 394, 3) := by decide +kernel
theorem dX11_count_134 : decode cX11_count 134 = .ok (.invokespecial 51, 3) := by decide +kernel
theorem dX11_count_137 : decode cX11_count 137 = .ok (.athrow, 1) := by decide +kernel
theorem dX11_requireParameter_0 : decode cX11_requireParameter 0 = .ok (.aload_n 0, 1) := by decide +kernel
theorem dX11_requireParameter_1 : decode cX11_requireParameter 1 = .ok (.getfield 12, 3) := by decide +kernel
theorem dX11_requireParameter_4 : decode cX11_requireParameter 4 = .ok (.iload_n 1, 1) := by decide +kernel
theorem dX11_requireParameter_5 : decode cX11_requireParameter 5 = .ok (.invokevirtual 419, 3) := by decide +kernel
theorem dX11_requireParameter_8 : decode cX11_requireParameter 8 = .ok (.ifCond .ne 14, 3) := by decide +kernel
theorem dX11_requireParameter_11 : decode cX11_requireParameter 11 = .ok (.new 378, 3) := by decide +kernel
theorem dX11_requireParameter_14 : decode cX11_requireParameter 14 = .ok (.dup, 1) := by decide +kernel
theorem dX11_requireParameter_15 : decode cX11_requireParameter 15 = .ok (.ldc_w 422, 3) := by decide +kernel
theorem dX11_requireParameter_18 : decode cX11_requireParameter 18 = .ok (.invokespecial 382, 3) := by decide +kernel
theorem dX11_requireParameter_21 : decode cX11_requireParameter 21 = .ok (.athrow, 1) := by decide +kernel
theorem dX11_requireParameter_22 : decode cX11_requireParameter 22 = .ok (.return_, 1) := by decide +kernel
theorem dX11_requireRoomForNode_0 : decode cX11_requireRoomForNode 0 = .ok (.aload_n 0, 1) := by decide +kernel
theorem dX11_requireRoomForNode_1 : decode cX11_requireRoomForNode 1 = .ok (.getfield 12, 3) := by decide +kernel
theorem dX11_requireRoomForNode_4 : decode cX11_requireRoomForNode 4 = .ok (.getfield 126, 3) := by decide +kernel
theorem dX11_requireRoomForNode_7 : decode cX11_requireRoomForNode 7 = .ok (.invokevirtual 90, 3) := by decide +kernel
theorem dX11_requireRoomForNode_10 : decode cX11_requireRoomForNode 10 = .ok (.bipush 20, 2) := by decide +kernel
theorem dX11_requireRoomForNode_12 : decode cX11_requireRoomForNode 12 = .ok (.if_icmp .lt 14, 3) := by decide +kernel
theorem dX11_requireRoomForNode_15 : decode cX11_requireRoomForNode 15 = .ok (.new 61, 3) := by decide +kernel
theorem dX11_requireRoomForNode_18 : decode cX11_requireRoomForNode 18 = .ok (.dup, 1) := by decide +kernel
theorem dX11_requireRoomForNode_19 : decode cX11_requireRoomForNode 19 = .ok (.ldc_w 424, 3) := by decide +kernel
theorem dX11_requireRoomForNode_22 : decode cX11_requireRoomForNode 22 = .ok (.invokespecial 65, 3) := by decide +kernel
theorem dX11_requireRoomForNode_25 : decode cX11_requireRoomForNode 25 = .ok (.athrow, 1) := by decide +kernel
theorem dX11_requireRoomForNode_26 : decode cX11_requireRoomForNode 26 = .ok (.return_, 1) := by decide +kernel
theorem dX11_requireStates_0 : decode cX11_requireStates 0 = .ok (.aload_n 0, 1) := by decide +kernel
theorem dX11_requireStates_1 : decode cX11_requireStates 1 = .ok (.getfield 12, 3) := by decide +kernel
theorem dX11_requireStates_4 : decode cX11_requireStates 4 = .ok (.getfield 173, 3) := by decide +kernel
theorem dX11_requireStates_7 : decode cX11_requireStates 7 = .ok (.invokevirtual 296, 3) := by decide +kernel
theorem dX11_requireStates_10 : decode cX11_requireStates 10 = .ok (.ifCond .eq 14, 3) := by decide +kernel
theorem dX11_requireStates_13 : decode cX11_requireStates 13 = .ok (.new 61, 3) := by decide +kernel
theorem dX11_requireStates_16 : decode cX11_requireStates 16 = .ok (.dup, 1) := by decide +kernel
theorem dX11_requireStates_17 : decode cX11_requireStates 17 = .ok (.ldc_w 426, 3) := by decide +kernel
theorem dX11_requireStates_20 : decode cX11_requireStates 20 = .ok (.invokespecial 65, 3) := by decide +kernel
theorem dX11_requireStates_23 : decode cX11_requireStates 23 = .ok (.athrow, 1) := by decide +kernel
theorem dX11_requireStates_24 : decode cX11_requireStates 24 = .ok (.return_, 1) := by decide +kernel
theorem dX11_requireTicks_0 : decode cX11_requireTicks 0 = .ok (.iload_n 1, 1) := by decide +kernel
theorem dX11_requireTicks_1 : decode cX11_requireTicks 1 = .ok (.iconst 1, 1) := by decide +kernel
theorem dX11_requireTicks_2 : decode cX11_requireTicks 2 = .ok (.if_icmp .lt 9, 3) := by decide +kernel
theorem dX11_requireTicks_5 : decode cX11_requireTicks 5 = .ok (.iload_n 1, 1) := by decide +kernel
theorem dX11_requireTicks_6 : decode cX11_requireTicks 6 = .ok (.bipush 100, 2) := by decide +kernel
theorem dX11_requireTicks_8 : decode cX11_requireTicks 8 = .ok (.if_icmp .le 14, 3) := by decide +kernel
theorem dX11_requireTicks_11 : decode cX11_requireTicks 11 = .ok (.new 47, 3) := by decide +kernel
theorem dX11_requireTicks_14 : decode cX11_requireTicks 14 = .ok (.dup, 1) := by decide +kernel
theorem dX11_requireTicks_15 : decode cX11_requireTicks 15 = .ok (.ldc_w 428, 3) := by decide +kernel
theorem dX11_requireTicks_18 : decode cX11_requireTicks 18 = .ok (.invokespecial 51, 3) := by decide +kernel
theorem dX11_requireTicks_21 : decode cX11_requireTicks 21 = .ok (.athrow, 1) := by decide +kernel
theorem dX11_requireTicks_22 : decode cX11_requireTicks 22 = .ok (.return_, 1) := by decide +kernel
theorem dX11_requireSlot_0 : decode cX11_requireSlot 0 = .ok (.iload_n 1, 1) := by decide +kernel
theorem dX11_requireSlot_1 : decode cX11_requireSlot 1 = .ok (.ifCond .lt 8, 3) := by decide +kernel
theorem dX11_requireSlot_4 : decode cX11_requireSlot 4 = .ok (.iload_n 1, 1) := by decide +kernel
theorem dX11_requireSlot_5 : decode cX11_requireSlot 5 = .ok (.iconst 2, 1) := by decide +kernel
theorem dX11_requireSlot_6 : decode cX11_requireSlot 6 = .ok (.if_icmp .lt 14, 3) := by decide +kernel
theorem dX11_requireSlot_9 : decode cX11_requireSlot 9 = .ok (.new 47, 3) := by decide +kernel
theorem dX11_requireSlot_12 : decode cX11_requireSlot 12 = .ok (.dup, 1) := by decide +kernel
theorem dX11_requireSlot_13 : decode cX11_requireSlot 13 = .ok (.ldc_w 430, 3) := by decide +kernel
theorem dX11_requireSlot_16 : decode cX11_requireSlot 16 = .ok (.invokespecial 51, 3) := by decide +kernel
theorem dX11_requireSlot_19 : decode cX11_requireSlot 19 = .ok (.athrow, 1) := by decide +kernel
theorem dX11_requireSlot_20 : decode cX11_requireSlot 20 = .ok (.return_, 1) := by decide +kernel
theorem dX11_clipAt_0 : decode cX11_clipAt 0 = .ok (.iload_n 1, 1) := by decide +kernel
theorem dX11_clipAt_1 : decode cX11_clipAt 1 = .ok (.ifCond .lt 17, 3) := by decide +kernel
theorem dX11_clipAt_4 : decode cX11_clipAt 4 = .ok (.iload_n 1, 1) := by decide +kernel
theorem dX11_clipAt_5 : decode cX11_clipAt 5 = .ok (.aload_n 0, 1) := by decide +kernel
theorem dX11_clipAt_6 : decode cX11_clipAt 6 = .ok (.getfield 12, 3) := by decide +kernel
theorem dX11_clipAt_9 : decode cX11_clipAt 9 = .ok (.getfield 86, 3) := by decide +kernel
theorem dX11_clipAt_12 : decode cX11_clipAt 12 = .ok (.invokevirtual 90, 3) := by decide +kernel
theorem dX11_clipAt_15 : decode cX11_clipAt 15 = .ok (.if_icmp .lt 14, 3) := by decide +kernel
theorem dX11_clipAt_18 : decode cX11_clipAt 18 = .ok (.new 378, 3) := by decide +kernel
theorem dX11_clipAt_21 : decode cX11_clipAt 21 = .ok (.dup, 1) := by decide +kernel
theorem dX11_clipAt_22 : decode cX11_clipAt 22 = .ok (.ldc_w 432, 3) := by decide +kernel
theorem dX11_clipAt_25 : decode cX11_clipAt 25 = .ok (.invokespecial 382, 3) := by decide +kernel
theorem dX11_clipAt_28 : decode cX11_clipAt 28 = .ok (.athrow, 1) := by decide +kernel
theorem dX11_clipAt_29 : decode cX11_clipAt 29 = .ok (.aload_n 0, 1) := by decide +kernel
theorem dX11_clipAt_30 : decode cX11_clipAt 30 = .ok (.getfield 12, 3) := by decide +kernel
theorem dX11_clipAt_33 : decode cX11_clipAt 33 = .ok (.getfield 86, 3) := by decide +kernel
theorem dX11_clipAt_36 : decode cX11_clipAt 36 = .ok (.iload_n 1, 1) := by decide +kernel
theorem dX11_clipAt_37 : decode cX11_clipAt 37 = .ok (.invokevirtual 302, 3) := by decide +kernel
theorem dX11_clipAt_40 : decode cX11_clipAt 40 = .ok (.checkcast 98, 3) := by decide +kernel
theorem dX11_clipAt_43 : decode cX11_clipAt 43 = .ok (.areturn, 1) := by decide +kernel
theorem dX11_nodeAt_0 : decode cX11_nodeAt 0 = .ok (.iload_n 1, 1) := by decide +kernel
theorem dX11_nodeAt_1 : decode cX11_nodeAt 1 = .ok (.ifCond .lt 17, 3) := by decide +kernel
theorem dX11_nodeAt_4 : decode cX11_nodeAt 4 = .ok (.iload_n 1, 1) := by decide +kernel
theorem dX11_nodeAt_5 : decode cX11_nodeAt 5 = .ok (.aload_n 0, 1) := by decide +kernel
theorem dX11_nodeAt_6 : decode cX11_nodeAt 6 = .ok (.getfield 12, 3) := by decide +kernel
theorem dX11_nodeAt_9 : decode cX11_nodeAt 9 = .ok (.getfield 126, 3) := by decide +kernel
theorem dX11_nodeAt_12 : decode cX11_nodeAt 12 = .ok (.invokevirtual 90, 3) := by decide +kernel
theorem dX11_nodeAt_15 : decode cX11_nodeAt 15 = .ok (.if_icmp .lt 14, 3) := by decide +kernel
theorem dX11_nodeAt_18 : decode cX11_nodeAt 18 = .ok (.new 378, 3) := by decide +kernel
theorem dX11_nodeAt_21 : decode cX11_nodeAt 21 = .ok (.dup, 1) := by decide +kernel
theorem dX11_nodeAt_22 : decode cX11_nodeAt 22 = .ok (.ldc_w 434, 3) := by decide +kernel
theorem dX11_nodeAt_25 : decode cX11_nodeAt 25 = .ok (.invokespecial 382, 3) := by decide +kernel
theorem dX11_nodeAt_28 : decode cX11_nodeAt 28 = .ok (.athrow, 1) := by decide +kernel
theorem dX11_nodeAt_29 : decode cX11_nodeAt 29 = .ok (.aload_n 0, 1) := by decide +kernel
theorem dX11_nodeAt_30 : decode cX11_nodeAt 30 = .ok (.getfield 12, 3) := by decide +kernel
theorem dX11_nodeAt_33 : decode cX11_nodeAt 33 = .ok (.getfield 126, 3) := by decide +kernel
theorem dX11_nodeAt_36 : decode cX11_nodeAt 36 = .ok (.iload_n 1, 1) := by decide +kernel
theorem dX11_nodeAt_37 : decode cX11_nodeAt 37 = .ok (.invokevirtual 302, 3) := by decide +kernel
theorem dX11_nodeAt_40 : decode cX11_nodeAt 40 = .ok (.checkcast 129, 3) := by decide +kernel
theorem dX11_nodeAt_43 : decode cX11_nodeAt 43 = .ok (.areturn, 1) := by decide +kernel
theorem dX11_stateAt_0 : decode cX11_stateAt 0 = .ok (.iload_n 1, 1) := by decide +kernel
theorem dX11_stateAt_1 : decode cX11_stateAt 1 = .ok (.ifCond .lt 17, 3) := by decide +kernel
theorem dX11_stateAt_4 : decode cX11_stateAt 4 = .ok (.iload_n 1, 1) := by decide +kernel
theorem dX11_stateAt_5 : decode cX11_stateAt 5 = .ok (.aload_n 0, 1) := by decide +kernel
theorem dX11_stateAt_6 : decode cX11_stateAt 6 = .ok (.getfield 12, 3) := by decide +kernel
theorem dX11_stateAt_9 : decode cX11_stateAt 9 = .ok (.getfield 173, 3) := by decide +kernel
theorem dX11_stateAt_12 : decode cX11_stateAt 12 = .ok (.invokevirtual 90, 3) := by decide +kernel
theorem dX11_stateAt_15 : decode cX11_stateAt 15 = .ok (.if_icmp .lt 14, 3) := by decide +kernel
theorem dX11_stateAt_18 : decode cX11_stateAt 18 = .ok (.new 378, 3) := by decide +kernel
theorem dX11_stateAt_21 : decode cX11_stateAt 21 = .ok (.dup, 1) := by decide +kernel
theorem dX11_stateAt_22 : decode cX11_stateAt 22 = .ok (.ldc_w 436, 3) := by decide +kernel
theorem dX11_stateAt_25 : decode cX11_stateAt 25 = .ok (.invokespecial 382, 3) := by decide +kernel
theorem dX11_stateAt_28 : decode cX11_stateAt 28 = .ok (.athrow, 1) := by decide +kernel
theorem dX11_stateAt_29 : decode cX11_stateAt 29 = .ok (.aload_n 0, 1) := by decide +kernel
theorem dX11_stateAt_30 : decode cX11_stateAt 30 = .ok (.getfield 12, 3) := by decide +kernel
theorem dX11_stateAt_33 : decode cX11_stateAt 33 = .ok (.getfield 173, 3) := by decide +kernel
theorem dX11_stateAt_36 : decode cX11_stateAt 36 = .ok (.iload_n 1, 1) := by decide +kernel
theorem dX11_stateAt_37 : decode cX11_stateAt 37 = .ok (.invokevirtual 302, 3) := by decide +kernel
theorem dX11_stateAt_40 : decode cX11_stateAt 40 = .ok (.checkcast 178, 3) := by decide +kernel
theorem dX11_stateAt_43 : decode cX11_stateAt 43 = .ok (.areturn, 1) := by decide +kernel
theorem dX11_transitionAt_0 : decode cX11_transitionAt 0 = .ok (.iload_n 1, 1) := by decide +kernel
theorem dX11_transitionAt_1 : decode cX11_transitionAt 1 = .ok (.ifCond .lt 17, 3) := by decide +kernel
theorem dX11_transitionAt_4 : decode cX11_transitionAt 4 = .ok (.iload_n 1, 1) := by decide +kernel
theorem dX11_transitionAt_5 : decode cX11_transitionAt 5 = .ok (.aload_n 0, 1) := by decide +kernel
theorem dX11_transitionAt_6 : decode cX11_transitionAt 6 = .ok (.getfield 12, 3) := by decide +kernel
theorem dX11_transitionAt_9 : decode cX11_transitionAt 9 = .ok (.getfield 196, 3) := by decide +kernel
theorem dX11_transitionAt_12 : decode cX11_transitionAt 12 = .ok (.invokevirtual 90, 3) := by decide +kernel
theorem dX11_transitionAt_15 : decode cX11_transitionAt 15 = .ok (.if_icmp .lt 14, 3) := by decide +kernel
theorem dX11_transitionAt_18 : decode cX11_transitionAt 18 = .ok (.new 378, 3) := by decide +kernel
theorem dX11_transitionAt_21 : decode cX11_transitionAt 21 = .ok (.dup, 1) := by decide +kernel
theorem dX11_transitionAt_22 : decode cX11_transitionAt 22 = .ok (.ldc_w 438, 3) := by decide +kernel
theorem dX11_transitionAt_25 : decode cX11_transitionAt 25 = .ok (.invokespecial 382, 3) := by decide +kernel
theorem dX11_transitionAt_28 : decode cX11_transitionAt 28 = .ok (.athrow, 1) := by decide +kernel
theorem dX11_transitionAt_29 : decode cX11_transitionAt 29 = .ok (.aload_n 0, 1) := by decide +kernel
theorem dX11_transitionAt_30 : decode cX11_transitionAt 30 = .ok (.getfield 12, 3) := by decide +kernel
theorem dX11_transitionAt_33 : decode cX11_transitionAt 33 = .ok (.getfield 196, 3) := by decide +kernel
theorem dX11_transitionAt_36 : decode cX11_transitionAt 36 = .ok (.iload_n 1, 1) := by decide +kernel
theorem dX11_transitionAt_37 : decode cX11_transitionAt 37 = .ok (.invokevirtual 302, 3) := by decide +kernel
theorem dX11_transitionAt_40 : decode cX11_transitionAt 40 = .ok (.checkcast 201, 3) := by decide +kernel
theorem dX11_transitionAt_43 : decode cX11_transitionAt 43 = .ok (.areturn, 1) := by decide +kernel
theorem dX11_presentPose_0 : decode cX11_presentPose 0 = .ok (.aload_n 0, 1) := by decide +kernel
theorem dX11_presentPose_1 : decode cX11_presentPose 1 = .ok (.getfield 12, 3) := by decide +kernel
theorem dX11_presentPose_4 : decode cX11_presentPose 4 = .ok (.getfield 173, 3) := by decide +kernel
theorem dX11_presentPose_7 : decode cX11_presentPose 7 = .ok (.invokevirtual 296, 3) := by decide +kernel
theorem dX11_presentPose_10 : decode cX11_presentPose 10 = .ok (.ifCond .eq 17, 3) := by decide +kernel
theorem dX11_presentPose_13 : decode cX11_presentPose 13 = .ok (.aload_n 0, 1) := by decide +kernel
theorem dX11_presentPose_14 : decode cX11_presentPose 14 = .ok (.getfield 28, 3) := by decide +kernel
theorem dX11_presentPose_17 : decode cX11_presentPose 17 = .ok (.getfield 440, 3) := by decide +kernel
theorem dX11_presentPose_20 : decode cX11_presentPose 20 = .ok (.iconst 0, 1) := by decide +kernel
theorem dX11_presentPose_21 : decode cX11_presentPose 21 = .ok (.putfield 372, 3) := by decide +kernel
theorem dX11_presentPose_24 : decode cX11_presentPose 24 = .ok (.goto 10, 3) := by decide +kernel
theorem dX11_presentPose_27 : decode cX11_presentPose 27 = .ok (.aload_n 0, 1) := by decide +kernel
theorem dX11_presentPose_28 : decode cX11_presentPose 28 = .ok (.getfield 28, 3) := by decide +kernel
theorem dX11_presentPose_31 : decode cX11_presentPose 31 = .ok (.invokevirtual 444, 3) := by decide +kernel
theorem dX11_presentPose_34 : decode cX11_presentPose 34 = .ok (.aload_n 0, 1) := by decide +kernel
theorem dX11_presentPose_35 : decode cX11_presentPose 35 = .ok (.getfield 28, 3) := by decide +kernel
theorem dX11_presentPose_38 : decode cX11_presentPose 38 = .ok (.getfield 440, 3) := by decide +kernel
theorem dX11_presentPose_41 : decode cX11_presentPose 41 = .ok (.areturn, 1) := by decide +kernel
