theorem dX12_init_0 : decode cX12_init 0 = .ok (.aload_n 0, 1) := by decide +kernel
theorem dX12_init_1 : decode cX12_init 1 = .ok (.invokespecial 1, 3) := by decide +kernel
theorem dX12_init_4 : decode cX12_init 4 = .ok (.aload_n 0, 1) := by decide +kernel
theorem dX12_init_5 : decode cX12_init 5 = .ok (.sipush 1160, 3) := by decide +kernel
theorem dX12_init_8 : decode cX12_init 8 = .ok (.newarray .int, 2) := by decide +kernel
theorem dX12_init_10 : decode cX12_init 10 = .ok (.putfield 7, 3) := by decide +kernel
theorem dX12_init_13 : decode cX12_init 13 = .ok (.aload_n 0, 1) := by decide +kernel
theorem dX12_init_14 : decode cX12_init 14 = .ok (.iconst 2, 1) := by decide +kernel
theorem dX12_init_15 : decode cX12_init 15 = .ok (.newarray .boolean, 2) := by decide +kernel
theorem dX12_init_17 : decode cX12_init 17 = .ok (.putfield 13, 3) := by decide +kernel
theorem dX12_init_20 : decode cX12_init 20 = .ok (.aload_n 0, 1) := by decide +kernel
theorem dX12_init_21 : decode cX12_init 21 = .ok (.bipush 8, 2) := by decide +kernel
theorem dX12_init_23 : decode cX12_init 23 = .ok (.newarray .int, 2) := by decide +kernel
theorem dX12_init_25 : decode cX12_init 25 = .ok (.putfield 17, 3) := by decide +kernel
theorem dX12_init_28 : decode cX12_init 28 = .ok (.aload_n 0, 1) := by decide +kernel
theorem dX12_init_29 : decode cX12_init 29 = .ok (.bipush 12, 2) := by decide +kernel
theorem dX12_init_31 : decode cX12_init 31 = .ok (.newarray .int, 2) := by decide +kernel
theorem dX12_init_33 : decode cX12_init 33 = .ok (.putfield 20, 3) := by decide +kernel
theorem dX12_init_36 : decode cX12_init 36 = .ok (.aload_n 0, 1) := by decide +kernel
theorem dX12_init_37 : decode cX12_init 37 = .ok (.bipush 12, 2) := by decide +kernel
theorem dX12_init_39 : decode cX12_init 39 = .ok (.newarray .int, 2) := by decide +kernel
theorem dX12_init_41 : decode cX12_init 41 = .ok (.putfield 23, 3) := by decide +kernel
theorem dX12_init_44 : decode cX12_init 44 = .ok (.aload_n 0, 1) := by decide +kernel
theorem dX12_init_45 : decode cX12_init 45 = .ok (.bipush 60, 2) := by decide +kernel
theorem dX12_init_47 : decode cX12_init 47 = .ok (.newarray .int, 2) := by decide +kernel
theorem dX12_init_49 : decode cX12_init 49 = .ok (.putfield 26, 3) := by decide +kernel
theorem dX12_init_52 : decode cX12_init 52 = .ok (.aload_n 0, 1) := by decide +kernel
theorem dX12_init_53 : decode cX12_init 53 = .ok (.bipush 60, 2) := by decide +kernel
theorem dX12_init_55 : decode cX12_init 55 = .ok (.newarray .int, 2) := by decide +kernel
theorem dX12_init_57 : decode cX12_init 57 = .ok (.putfield 29, 3) := by decide +kernel
theorem dX12_init_60 : decode cX12_init 60 = .ok (.aload_n 0, 1) := by decide +kernel
theorem dX12_init_61 : decode cX12_init 61 = .ok (.bipush 20, 2) := by decide +kernel
theorem dX12_init_63 : decode cX12_init 63 = .ok (.newarray .int, 2) := by decide +kernel
theorem dX12_init_65 : decode cX12_init 65 = .ok (.putfield 32, 3) := by decide +kernel
theorem dX12_init_68 : decode cX12_init 68 = .ok (.aload_n 0, 1) := by decide +kernel
theorem dX12_init_69 : decode cX12_init 69 = .ok (.bipush 20, 2) := by decide +kernel
theorem dX12_init_71 : decode cX12_init 71 = .ok (.newarray .int, 2) := by decide +kernel
theorem dX12_init_73 : decode cX12_init 73 = .ok (.putfield 35, 3) := by decide +kernel
theorem dX12_init_76 : decode cX12_init 76 = .ok (.aload_n 0, 1) := by decide +kernel
theorem dX12_init_77 : decode cX12_init 77 = .ok (.bipush 20, 2) := by decide +kernel
theorem dX12_init_79 : decode cX12_init 79 = .ok (.newarray .int, 2) := by decide +kernel
theorem dX12_init_81 : decode cX12_init 81 = .ok (.putfield 38, 3) := by decide +kernel
theorem dX12_init_84 : decode cX12_init 84 = .ok (.aload_n 0, 1) := by decide +kernel
theorem dX12_init_85 : decode cX12_init 85 = .ok (.bipush 100, 2) := by decide +kernel
theorem dX12_init_87 : decode cX12_init 87 = .ok (.newarray .int, 2) := by decide +kernel
theorem dX12_init_89 : decode cX12_init 89 = .ok (.putfield 41, 3) := by decide +kernel
theorem dX12_init_92 : decode cX12_init 92 = .ok (.aload_n 0, 1) := by decide +kernel
theorem dX12_init_93 : decode cX12_init 93 = .ok (.bipush 100, 2) := by decide +kernel
theorem dX12_init_95 : decode cX12_init 95 = .ok (.newarray .int, 2) := by decide +kernel
theorem dX12_init_97 : decode cX12_init 97 = .ok (.putfield 44, 3) := by decide +kernel
theorem dX12_init_100 : decode cX12_init 100 = .ok (.aload_n 0, 1) := by decide +kernel
theorem dX12_init_101 : decode cX12_init 101 = .ok (.bipush 10, 2) := by decide +kernel
theorem dX12_init_103 : decode cX12_init 103 = .ok (.newarray .int, 2) := by decide +kernel
theorem dX12_init_105 : decode cX12_init 105 = .ok (.putfield 47, 3) := by decide +kernel
theorem dX12_init_108 : decode cX12_init 108 = .ok (.aload_n 0, 1) := by decide +kernel
theorem dX12_init_109 : decode cX12_init 109 = .ok (.bipush 10, 2) := by decide +kernel
theorem dX12_init_111 : decode cX12_init 111 = .ok (.newarray .int, 2) := by decide +kernel
theorem dX12_init_113 : decode cX12_init 113 = .ok (.putfield 50, 3) := by decide +kernel
theorem dX12_init_116 : decode cX12_init 116 = .ok (.aload_n 0, 1) := by decide +kernel
theorem dX12_init_117 : decode cX12_init 117 = .ok (.bipush 10, 2) := by decide +kernel
theorem dX12_init_119 : decode cX12_init 119 = .ok (.newarray .boolean, 2) := by decide +kernel
theorem dX12_init_121 : decode cX12_init 121 = .ok (.putfield 53, 3) := by decide +kernel
theorem dX12_init_124 : decode cX12_init 124 = .ok (.aload_n 0, 1) := by decide +kernel
theorem dX12_init_125 : decode cX12_init 125 = .ok (.bipush 10, 2) := by decide +kernel
theorem dX12_init_127 : decode cX12_init 127 = .ok (.newarray .int, 2) := by decide +kernel
theorem dX12_init_129 : decode cX12_init 129 = .ok (.putfield 56, 3) := by decide +kernel
theorem dX12_init_132 : decode cX12_init 132 = .ok (.aload_n 0, 1) := by decide +kernel
theorem dX12_init_133 : decode cX12_init 133 = .ok (.sipush 408, 3) := by decide +kernel
theorem dX12_init_136 : decode cX12_init 136 = .ok (.newarray .int, 2) := by decide +kernel
theorem dX12_init_138 : decode cX12_init 138 = .ok (.putfield 59, 3) := by decide +kernel
theorem dX12_init_141 : decode cX12_init 141 = .ok (.aload_n 0, 1) := by decide +kernel
theorem dX12_init_142 : decode cX12_init 142 = .ok (.iconst 1, 1) := by decide +kernel
theorem dX12_init_143 : decode cX12_init 143 = .ok (.putfield 62, 3) := by decide +kernel
theorem dX12_init_146 : decode cX12_init 146 = .ok (.aload_n 0, 1) := by decide +kernel
theorem dX12_init_147 : decode cX12_init 147 = .ok (.sipush 150, 3) := by decide +kernel
theorem dX12_init_150 : decode cX12_init 150 = .ok (.newarray .int, 2) := by decide +kernel
theorem dX12_init_152 : decode cX12_init 152 = .ok (.putfield 66, 3) := by decide +kernel
theorem dX12_init_155 : decode cX12_init 155 = .ok (.aload_n 0, 1) := by decide +kernel
theorem dX12_init_156 : decode cX12_init 156 = .ok (.bipush 20, 2) := by decide +kernel
theorem dX12_init_158 : decode cX12_init 158 = .ok (.newarray .int, 2) := by decide +kernel
theorem dX12_init_160 : decode cX12_init 160 = .ok (.putfield 69, 3) := by decide +kernel
theorem dX12_init_163 : decode cX12_init 163 = .ok (.aload_n 0, 1) := by decide +kernel
theorem dX12_init_164 : decode cX12_init 164 = .ok (.bipush 12, 2) := by decide +kernel
theorem dX12_init_166 : decode cX12_init 166 = .ok (.newarray .long, 2) := by decide +kernel
theorem dX12_init_168 : decode cX12_init 168 = .ok (.putfield 72, 3) := by decide +kernel
theorem dX12_init_171 : decode cX12_init 171 = .ok (.aload_n 0, 1) := by decide +kernel
theorem dX12_init_172 : decode cX12_init 172 = .ok (.bipush 32, 2) := by decide +kernel
theorem dX12_init_174 : decode cX12_init 174 = .ok (.newarray .int, 2) := by decide +kernel
theorem dX12_init_176 : decode cX12_init 176 = .ok (.putfield 76, 3) := by decide +kernel
theorem dX12_init_179 : decode cX12_init 179 = .ok (.aload_n 0, 1) := by decide +kernel
theorem dX12_init_180 : decode cX12_init 180 = .ok (.bipush 32, 2) := by decide +kernel
theorem dX12_init_182 : decode cX12_init 182 = .ok (.newarray .long, 2) := by decide +kernel
theorem dX12_init_184 : decode cX12_init 184 = .ok (.putfield 79, 3) := by decide +kernel
theorem dX12_init_187 : decode cX12_init 187 = .ok (.aload_n 0, 1) := by decide +kernel
theorem dX12_init_188 : decode cX12_init 188 = .ok (.bipush 72, 2) := by decide +kernel
theorem dX12_init_190 : decode cX12_init 190 = .ok (.newarray .int, 2) := by decide +kernel
theorem dX12_init_192 : decode cX12_init 192 = .ok (.putfield 82, 3) := by decide +kernel
theorem dX12_init_195 : decode cX12_init 195 = .ok (.aload_n 0, 1) := by decide +kernel
theorem dX12_init_196 : decode cX12_init 196 = .ok (.bipush 72, 2) := by decide +kernel
theorem dX12_init_198 : decode cX12_init 198 = .ok (.newarray .int, 2) := by decide +kernel
theorem dX12_init_200 : decode cX12_init 200 = .ok (.putfield 85, 3) := by decide +kernel
theorem dX12_init_203 : decode cX12_init 203 = .ok (.aload_n 0, 1) := by decide +kernel
theorem dX12_init_204 : decode cX12_init 204 = .ok (.bipush 72, 2) := by decide +kernel
theorem dX12_init_206 : decode cX12_init 206 = .ok (.newarray .long, 2) := by decide +kernel
theorem dX12_init_208 : decode cX12_init 208 = .ok (.putfield 88, 3) := by decide +kernel
theorem dX12_init_211 : decode cX12_init 211 = .ok (.aload_n 0, 1) := by decide +kernel
theorem dX12_init_212 : decode cX12_init 212 = .ok (.bipush 10, 2) := by decide +kernel
theorem dX12_init_214 : decode cX12_init 214 = .ok (.newarray .int, 2) := by decide +kernel
theorem dX12_init_216 : decode cX12_init 216 = .ok (.putfield 91, 3) := by decide +kernel
theorem dX12_init_219 : decode cX12_init 219 = .ok (.return_, 1) := by decide +kernel
theorem dX12_thrown_0 : decode cX12_thrown 0 = .ok (.aload_n 0, 1) := by decide +kernel
theorem dX12_thrown_1 : decode cX12_thrown 1 = .ok (.getfield 94, 3) := by decide +kernel
theorem dX12_thrown_4 : decode cX12_thrown 4 = .ok (.ireturn, 1) := by decide +kernel
theorem dX12_in_0 : decode cX12_in 0 = .ok (.lload_n 0, 1) := by decide +kernel
theorem dX12_in_1 : decode cX12_in 1 = .ok (.lload_n 2, 1) := by decide +kernel
theorem dX12_in_2 : decode cX12_in 2 = .ok (.lcmp, 1) := by decide +kernel
theorem dX12_in_3 : decode cX12_in 3 = .ok (.ifCond .lt 14, 3) := by decide +kernel
theorem dX12_in_6 : decode cX12_in 6 = .ok (.lload_n 0, 1) := by decide +kernel
theorem dX12_in_7 : decode cX12_in 7 = .ok (.lload 4, 2) := by decide +kernel
theorem dX12_in_9 : decode cX12_in 9 = .ok (.lcmp, 1) := by decide +kernel
theorem dX12_in_10 : decode cX12_in 10 = .ok (.ifCond .gt 7, 3) := by decide +kernel
theorem dX12_in_13 : decode cX12_in 13 = .ok (.iconst 1, 1) := by decide +kernel
theorem dX12_in_14 : decode cX12_in 14 = .ok (.goto 4, 3) := by decide +kernel
theorem dX12_in_17 : decode cX12_in 17 = .ok (.iconst 0, 1) := by decide +kernel
theorem dX12_in_18 : decode cX12_in 18 = .ok (.ireturn, 1) := by decide +kernel
theorem dX12_fails_0 : decode cX12_fails 0 = .ok (.aload_n 0, 1) := by decide +kernel
theorem dX12_fails_1 : decode cX12_fails 1 = .ok (.iload_n 1, 1) := by decide +kernel
theorem dX12_fails_2 : decode cX12_fails 2 = .ok (.putfield 94, 3) := by decide +kernel
theorem dX12_fails_5 : decode cX12_fails 5 = .ok (.iconst 0, 1) := by decide +kernel
theorem dX12_fails_6 : decode cX12_fails 6 = .ok (.ireturn, 1) := by decide +kernel
theorem dX12_addParameter_0 : decode cX12_addParameter 0 = .ok (.aload_n 0, 1) := by decide +kernel
theorem dX12_addParameter_1 : decode cX12_addParameter 1 = .ok (.iconst 0, 1) := by decide +kernel
theorem dX12_addParameter_2 : decode cX12_addParameter 2 = .ok (.putfield 94, 3) := by decide +kernel
theorem dX12_addParameter_5 : decode cX12_addParameter 5 = .ok (.iload_n 1, 1) := by decide +kernel
theorem dX12_addParameter_6 : decode cX12_addParameter 6 = .ok (.i2l, 1) := by decide +kernel
theorem dX12_addParameter_7 : decode cX12_addParameter 7 = .ok (.lconst 0, 1) := by decide +kernel
theorem dX12_addParameter_8 : decode cX12_addParameter 8 = .ok (.ldc2_w 97, 3) := by decide +kernel
theorem dX12_addParameter_11 : decode cX12_addParameter 11 = .ok (.invokestatic 99, 3) := by decide +kernel
theorem dX12_addParameter_14 : decode cX12_addParameter 14 = .ok (.ifCond .ne 9, 3) := by decide +kernel
theorem dX12_addParameter_17 : decode cX12_addParameter 17 = .ok (.aload_n 0, 1) := by decide +kernel
theorem dX12_addParameter_18 : decode cX12_addParameter 18 = .ok (.iconst 1, 1) := by decide +kernel
theorem dX12_addParameter_19 : decode cX12_addParameter 19 = .ok (.invokevirtual 103, 3) := by decide +kernel
theorem dX12_addParameter_22 : decode cX12_addParameter 22 = .ok (.ireturn, 1) := by decide +kernel
theorem dX12_addParameter_23 : decode cX12_addParameter 23 = .ok (.aload_n 0, 1) := by decide +kernel
theorem dX12_addParameter_24 : decode cX12_addParameter 24 = .ok (.getfield 107, 3) := by decide +kernel
theorem dX12_addParameter_27 : decode cX12_addParameter 27 = .ok (.bipush 8, 2) := by decide +kernel
theorem dX12_addParameter_29 : decode cX12_addParameter 29 = .ok (.if_icmp .ne 9, 3) := by decide +kernel
theorem dX12_addParameter_32 : decode cX12_addParameter 32 = .ok (.aload_n 0, 1) := by decide +kernel
theorem dX12_addParameter_33 : decode cX12_addParameter 33 = .ok (.iconst 2, 1) := by decide +kernel
theorem dX12_addParameter_34 : decode cX12_addParameter 34 = .ok (.invokevirtual 103, 3) := by decide +kernel
theorem dX12_addParameter_37 : decode cX12_addParameter 37 = .ok (.ireturn, 1) := by decide +kernel
theorem dX12_addParameter_38 : decode cX12_addParameter 38 = .ok (.aload_n 0, 1) := by decide +kernel
theorem dX12_addParameter_39 : decode cX12_addParameter 39 = .ok (.getfield 17, 3) := by decide +kernel
theorem dX12_addParameter_42 : decode cX12_addParameter 42 = .ok (.aload_n 0, 1) := by decide +kernel
theorem dX12_addParameter_43 : decode cX12_addParameter 43 = .ok (.getfield 107, 3) := by decide +kernel
theorem dX12_addParameter_46 : decode cX12_addParameter 46 = .ok (.iload_n 1, 1) := by decide +kernel
theorem dX12_addParameter_47 : decode cX12_addParameter 47 = .ok (.iastore, 1) := by decide +kernel
theorem dX12_addParameter_48 : decode cX12_addParameter 48 = .ok (.aload_n 0, 1) := by decide +kernel
theorem dX12_addParameter_49 : decode cX12_addParameter 49 = .ok (.getfield 7, 3) := by decide +kernel
theorem dX12_addParameter_52 : decode cX12_addParameter 52 = .ok (.iconst 0, 1) := by decide +kernel
theorem dX12_addParameter_53 : decode cX12_addParameter 53 = .ok (.aload_n 0, 1) := by decide +kernel
theorem dX12_addParameter_54 : decode cX12_addParameter 54 = .ok (.getfield 107, 3) := by decide +kernel
theorem dX12_addParameter_57 : decode cX12_addParameter 57 = .ok (.iadd, 1) := by decide +kernel
theorem dX12_addParameter_58 : decode cX12_addParameter 58 = .ok (.iconst 0, 1) := by decide +kernel
theorem dX12_addParameter_59 : decode cX12_addParameter 59 = .ok (.iastore, 1) := by decide +kernel
theorem dX12_addParameter_60 : decode cX12_addParameter 60 = .ok (.aload_n 0, 1) := by decide +kernel
theorem dX12_addParameter_61 : decode cX12_addParameter 61 = .ok (.dup, 1) := by decide +kernel
theorem dX12_addParameter_62 : decode cX12_addParameter 62 = .ok (.getfield 107, 3) := by decide +kernel
theorem dX12_addParameter_65 : decode cX12_addParameter 65 = .ok (.iconst 1, 1) := by decide +kernel
theorem dX12_addParameter_66 : decode cX12_addParameter 66 = .ok (.iadd, 1) := by decide +kernel
theorem dX12_addParameter_67 : decode cX12_addParameter 67 = .ok (.putfield 107, 3) := by decide +kernel
theorem dX12_addParameter_70 : decode cX12_addParameter 70 = .ok (.aload_n 0, 1) := by decide +kernel
theorem dX12_addParameter_71 : decode cX12_addParameter 71 = .ok (.getfield 107, 3) := by decide +kernel
theorem dX12_addParameter_74 : decode cX12_addParameter 74 = .ok (.iconst 1, 1) := by decide +kernel
theorem dX12_addParameter_75 : decode cX12_addParameter 75 = .ok (.isub, 1) := by decide +kernel
theorem dX12_addParameter_76 : decode cX12_addParameter 76 = .ok (.ireturn, 1) := by decide +kernel
theorem dX12_isParameter_0 : decode cX12_isParameter 0 = .ok (.iload_n 1, 1) := by decide +kernel
theorem dX12_isParameter_1 : decode cX12_isParameter 1 = .ok (.i2l, 1) := by decide +kernel
theorem dX12_isParameter_2 : decode cX12_isParameter 2 = .ok (.lconst 0, 1) := by decide +kernel
theorem dX12_isParameter_3 : decode cX12_isParameter 3 = .ok (.aload_n 0, 1) := by decide +kernel
theorem dX12_isParameter_4 : decode cX12_isParameter 4 = .ok (.getfield 107, 3) := by decide +kernel
theorem dX12_isParameter_7 : decode cX12_isParameter 7 = .ok (.iconst 1, 1) := by decide +kernel
theorem dX12_isParameter_8 : decode cX12_isParameter 8 = .ok (.isub, 1) := by decide +kernel
theorem dX12_isParameter_9 : decode cX12_isParameter 9 = .ok (.i2l, 1) := by decide +kernel
theorem dX12_isParameter_10 : decode cX12_isParameter 10 = .ok (.invokestatic 99, 3) := by decide +kernel
theorem dX12_isParameter_13 : decode cX12_isParameter 13 = .ok (.ireturn, 1) := by decide +kernel
theorem dX12_set_0 : decode cX12_set 0 = .ok (.aload_n 0, 1) := by decide +kernel
theorem dX12_set_1 : decode cX12_set 1 = .ok (.iconst 0, 1) := by decide +kernel
theorem dX12_set_2 : decode cX12_set 2 = .ok (.putfield 94, 3) := by decide +kernel
theorem dX12_set_5 : decode cX12_set 5 = .ok (.aload_n 0, 1) := by decide +kernel
theorem dX12_set_6 : decode cX12_set 6 = .ok (.iload_n 1, 1) := by decide +kernel
theorem dX12_set_7 : decode cX12_set 7 = .ok (.invokevirtual 110, 3) := by decide +kernel
theorem dX12_set_10 : decode cX12_set 10 = .ok (.ifCond .ne 9, 3) := by decide +kernel
theorem dX12_set_13 : decode cX12_set 13 = .ok (.aload_n 0, 1) := by decide +kernel
theorem dX12_set_14 : decode cX12_set 14 = .ok (.iconst 1, 1) := by decide +kernel
theorem dX12_set_15 : decode cX12_set 15 = .ok (.invokevirtual 103, 3) := by decide +kernel
theorem dX12_set_18 : decode cX12_set 18 = .ok (.ireturn, 1) := by decide +kernel
theorem dX12_set_19 : decode cX12_set 19 = .ok (.aload_n 0, 1) := by decide +kernel
theorem dX12_set_20 : decode cX12_set 20 = .ok (.getfield 17, 3) := by decide +kernel
theorem dX12_set_23 : decode cX12_set 23 = .ok (.iload_n 1, 1) := by decide +kernel
theorem dX12_set_24 : decode cX12_set 24 = .ok (.iaload, 1) := by decide +kernel
theorem dX12_set_25 : decode cX12_set 25 = .ok (.ifCond .ne 17, 3) := by decide +kernel
theorem dX12_set_28 : decode cX12_set 28 = .ok (.iload_n 2, 1) := by decide +kernel
theorem dX12_set_29 : decode cX12_set 29 = .ok (.i2l, 1) := by decide +kernel
theorem dX12_set_30 : decode cX12_set 30 = .ok (.ldc2_w 114, 3) := by decide +kernel
theorem dX12_set_33 : decode cX12_set 33 = .ok (.ldc2_w 116, 3) := by decide +kernel
theorem dX12_set_36 : decode cX12_set 36 = .ok (.invokestatic 99, 3) := by decide +kernel
theorem dX12_set_39 : decode cX12_set 39 = .ok (.goto 10, 3) := by decide +kernel
theorem dX12_set_42 : decode cX12_set 42 = .ok (.iload_n 2, 1) := by decide +kernel
theorem dX12_set_43 : decode cX12_set 43 = .ok (.i2l, 1) := by decide +kernel
theorem dX12_set_44 : decode cX12_set 44 = .ok (.lconst 0, 1) := by decide +kernel
theorem dX12_set_45 : decode cX12_set 45 = .ok (.lconst 1, 1) := by decide +kernel
theorem dX12_set_46 : decode cX12_set 46 = .ok (.invokestatic 99, 3) := by decide +kernel
theorem dX12_set_49 : decode cX12_set 49 = .ok (.istore_n 3, 1) := by decide +kernel
theorem dX12_set_50 : decode cX12_set 50 = .ok (.iload_n 3, 1) := by decide +kernel
theorem dX12_set_51 : decode cX12_set 51 = .ok (.ifCond .ne 9, 3) := by decide +kernel
theorem dX12_set_54 : decode cX12_set 54 = .ok (.aload_n 0, 1) := by decide +kernel
theorem dX12_set_55 : decode cX12_set 55 = .ok (.iconst 2, 1) := by decide +kernel
theorem dX12_set_56 : decode cX12_set 56 = .ok (.invokevirtual 103, 3) := by decide +kernel
theorem dX12_set_59 : decode cX12_set 59 = .ok (.ireturn, 1) := by decide +kernel
theorem dX12_set_60 : decode cX12_set 60 = .ok (.aload_n 0, 1) := by decide +kernel
theorem dX12_set_61 : decode cX12_set 61 = .ok (.getfield 7, 3) := by decide +kernel
theorem dX12_set_64 : decode cX12_set 64 = .ok (.iconst 0, 1) := by decide +kernel
theorem dX12_set_65 : decode cX12_set 65 = .ok (.iload_n 1, 1) := by decide +kernel
theorem dX12_set_66 : decode cX12_set 66 = .ok (.iadd, 1) := by decide +kernel
theorem dX12_set_67 : decode cX12_set 67 = .ok (.iaload, 1) := by decide +kernel
theorem dX12_set_68 : decode cX12_set 68 = .ok (.istore 4, 2) := by decide +kernel
theorem dX12_set_70 : decode cX12_set 70 = .ok (.aload_n 0, 1) := by decide +kernel
theorem dX12_set_71 : decode cX12_set 71 = .ok (.getfield 7, 3) := by decide +kernel
theorem dX12_set_74 : decode cX12_set 74 = .ok (.iconst 0, 1) := by decide +kernel
theorem dX12_set_75 : decode cX12_set 75 = .ok (.iload_n 1, 1) := by decide +kernel
theorem dX12_set_76 : decode cX12_set 76 = .ok (.iadd, 1) := by decide +kernel
theorem dX12_set_77 : decode cX12_set 77 = .ok (.iload_n 2, 1) := by decide +kernel
theorem dX12_set_78 : decode cX12_set 78 = .ok (.iastore, 1) := by decide +kernel
theorem dX12_set_79 : decode cX12_set 79 = .ok (.iload 4, 2) := by decide +kernel
theorem dX12_set_81 : decode cX12_set 81 = .ok (.ireturn, 1) := by decide +kernel
theorem dX12_value_0 : decode cX12_value 0 = .ok (.aload_n 0, 1) := by decide +kernel
theorem dX12_value_1 : decode cX12_value 1 = .ok (.iconst 0, 1) := by decide +kernel
theorem dX12_value_2 : decode cX12_value 2 = .ok (.putfield 94, 3) := by decide +kernel
theorem dX12_value_5 : decode cX12_value 5 = .ok (.aload_n 0, 1) := by decide +kernel
theorem dX12_value_6 : decode cX12_value 6 = .ok (.iload_n 1, 1) := by decide +kernel
theorem dX12_value_7 : decode cX12_value 7 = .ok (.invokevirtual 110, 3) := by decide +kernel
theorem dX12_value_10 : decode cX12_value 10 = .ok (.ifCond .eq 14, 3) := by decide +kernel
theorem dX12_value_13 : decode cX12_value 13 = .ok (.aload_n 0, 1) := by decide +kernel
theorem dX12_value_14 : decode cX12_value 14 = .ok (.getfield 7, 3) := by decide +kernel
theorem dX12_value_17 : decode cX12_value 17 = .ok (.iconst 0, 1) := by decide +kernel
theorem dX12_value_18 : decode cX12_value 18 = .ok (.iload_n 1, 1) := by decide +kernel
theorem dX12_value_19 : decode cX12_value 19 = .ok (.iadd, 1) := by decide +kernel
theorem dX12_value_20 : decode cX12_value 20 = .ok (.iaload, 1) := by decide +kernel
theorem dX12_value_21 : decode cX12_value 21 = .ok (.goto 8, 3) := by decide +kernel
theorem dX12_value_24 : decode cX12_value 24 = .ok (.aload_n 0, 1) := by decide +kernel
theorem dX12_value_25 : decode cX12_value 25 = .ok (.iconst 1, 1) := by decide +kernel
theorem dX12_value_26 : decode cX12_value 26 = .ok (.invokevirtual 103, 3) := by decide +kernel
theorem dX12_value_29 : decode cX12_value 29 = .ok (.ireturn, 1) := by decide +kernel
theorem dX12_addClip_0 : decode cX12_addClip 0 = .ok (.aload_n 0, 1) := by decide +kernel
theorem dX12_addClip_1 : decode cX12_addClip 1 = .ok (.iconst 0, 1) := by decide +kernel
theorem dX12_addClip_2 : decode cX12_addClip 2 = .ok (.putfield 94, 3) := by decide +kernel
theorem dX12_addClip_5 : decode cX12_addClip 5 = .ok (.iload_n 1, 1) := by decide +kernel
theorem dX12_addClip_6 : decode cX12_addClip 6 = .ok (.i2l, 1) := by decide +kernel
theorem dX12_addClip_7 : decode cX12_addClip 7 = .ok (.lconst 1, 1) := by decide +kernel
theorem dX12_addClip_8 : decode cX12_addClip 8 = .ok (.ldc2_w 118, 3) := by decide +kernel
theorem dX12_addClip_11 : decode cX12_addClip 11 = .ok (.invokestatic 99, 3) := by decide +kernel
theorem dX12_addClip_14 : decode cX12_addClip 14 = .ok (.ifCond .ne 9, 3) := by decide +kernel
theorem dX12_addClip_17 : decode cX12_addClip 17 = .ok (.aload_n 0, 1) := by decide +kernel
theorem dX12_addClip_18 : decode cX12_addClip 18 = .ok (.iconst 1, 1) := by decide +kernel
theorem dX12_addClip_19 : decode cX12_addClip 19 = .ok (.invokevirtual 103, 3) := by decide +kernel
theorem dX12_addClip_22 : decode cX12_addClip 22 = .ok (.ireturn, 1) := by decide +kernel
theorem dX12_addClip_23 : decode cX12_addClip 23 = .ok (.aload_n 0, 1) := by decide +kernel
theorem dX12_addClip_24 : decode cX12_addClip 24 = .ok (.getfield 120, 3) := by decide +kernel
theorem dX12_addClip_27 : decode cX12_addClip 27 = .ok (.bipush 12, 2) := by decide +kernel
theorem dX12_addClip_29 : decode cX12_addClip 29 = .ok (.if_icmp .ne 9, 3) := by decide +kernel
theorem dX12_addClip_32 : decode cX12_addClip 32 = .ok (.aload_n 0, 1) := by decide +kernel
theorem dX12_addClip_33 : decode cX12_addClip 33 = .ok (.iconst 2, 1) := by decide +kernel
theorem dX12_addClip_34 : decode cX12_addClip 34 = .ok (.invokevirtual 103, 3) := by decide +kernel
theorem dX12_addClip_37 : decode cX12_addClip 37 = .ok (.ireturn, 1) := by decide +kernel
theorem dX12_addClip_38 : decode cX12_addClip 38 = .ok (.aload_n 0, 1) := by decide +kernel
theorem dX12_addClip_39 : decode cX12_addClip 39 = .ok (.getfield 20, 3) := by decide +kernel
theorem dX12_addClip_42 : decode cX12_addClip 42 = .ok (.aload_n 0, 1) := by decide +kernel
theorem dX12_addClip_43 : decode cX12_addClip 43 = .ok (.getfield 120, 3) := by decide +kernel
theorem dX12_addClip_46 : decode cX12_addClip 46 = .ok (.iload_n 1, 1) := by decide +kernel
theorem dX12_addClip_47 : decode cX12_addClip 47 = .ok (.iastore, 1) := by decide +kernel
theorem dX12_addClip_48 : decode cX12_addClip 48 = .ok (.aload_n 0, 1) := by decide +kernel
theorem dX12_addClip_49 : decode cX12_addClip 49 = .ok (.dup, 1) := by decide +kernel
theorem dX12_addClip_50 : decode cX12_addClip 50 = .ok (.getfield 120, 3) := by decide +kernel
theorem dX12_addClip_53 : decode cX12_addClip 53 = .ok (.iconst 1, 1) := by decide +kernel
theorem dX12_addClip_54 : decode cX12_addClip 54 = .ok (.iadd, 1) := by decide +kernel
theorem dX12_addClip_55 : decode cX12_addClip 55 = .ok (.putfield 120, 3) := by decide +kernel
theorem dX12_addClip_58 : decode cX12_addClip 58 = .ok (.aload_n 0, 1) := by decide +kernel
theorem dX12_addClip_59 : decode cX12_addClip 59 = .ok (.getfield 120, 3) := by decide +kernel
theorem dX12_addClip_62 : decode cX12_addClip 62 = .ok (.iconst 1, 1) := by decide +kernel
theorem dX12_addClip_63 : decode cX12_addClip 63 = .ok (.isub, 1) := by decide +kernel
theorem dX12_addClip_64 : decode cX12_addClip 64 = .ok (.ireturn, 1) := by decide +kernel
theorem dX12_isClip_0 : decode cX12_isClip 0 = .ok (.iload_n 1, 1) := by decide +kernel
theorem dX12_isClip_1 : decode cX12_isClip 1 = .ok (.i2l, 1) := by decide +kernel
theorem dX12_isClip_2 : decode cX12_isClip 2 = .ok (.lconst 0, 1) := by decide +kernel
theorem dX12_isClip_3 : decode cX12_isClip 3 = .ok (.aload_n 0, 1) := by decide +kernel
theorem dX12_isClip_4 : decode cX12_isClip 4 = .ok (.getfield 120, 3) := by decide +kernel
theorem dX12_isClip_7 : decode cX12_isClip 7 = .ok (.iconst 1, 1) := by decide +kernel
theorem dX12_isClip_8 : decode cX12_isClip 8 = .ok (.isub, 1) := by decide +kernel
theorem dX12_isClip_9 : decode cX12_isClip 9 = .ok (.i2l, 1) := by decide +kernel
theorem dX12_isClip_10 : decode cX12_isClip 10 = .ok (.invokestatic 99, 3) := by decide +kernel
theorem dX12_isClip_13 : decode cX12_isClip 13 = .ok (.ireturn, 1) := by decide +kernel
theorem dX12_addEvent_0 : decode cX12_addEvent 0 = .ok (.aload_n 0, 1) := by decide +kernel
theorem dX12_addEvent_1 : decode cX12_addEvent 1 = .ok (.iconst 0, 1) := by decide +kernel
theorem dX12_addEvent_2 : decode cX12_addEvent 2 = .ok (.putfield 94, 3) := by decide +kernel
theorem dX12_addEvent_5 : decode cX12_addEvent 5 = .ok (.aload_n 0, 1) := by decide +kernel
theorem dX12_addEvent_6 : decode cX12_addEvent 6 = .ok (.iload_n 1, 1) := by decide +kernel
theorem dX12_addEvent_7 : decode cX12_addEvent 7 = .ok (.invokevirtual 123, 3) := by decide +kernel
theorem dX12_addEvent_10 : decode cX12_addEvent 10 = .ok (.ifCond .ne 9, 3) := by decide +kernel
theorem dX12_addEvent_13 : decode cX12_addEvent 13 = .ok (.aload_n 0, 1) := by decide +kernel
theorem dX12_addEvent_14 : decode cX12_addEvent 14 = .ok (.iconst 1, 1) := by decide +kernel
theorem dX12_addEvent_15 : decode cX12_addEvent 15 = .ok (.invokevirtual 103, 3) := by decide +kernel
theorem dX12_addEvent_18 : decode cX12_addEvent 18 = .ok (.ireturn, 1) := by decide +kernel
theorem dX12_addEvent_19 : decode cX12_addEvent 19 = .ok (.iload_n 2, 1) := by decide +kernel
theorem dX12_addEvent_20 : decode cX12_addEvent 20 = .ok (.i2l, 1) := by decide +kernel
theorem dX12_addEvent_21 : decode cX12_addEvent 21 = .ok (.lconst 0, 1) := by decide +kernel
theorem dX12_addEvent_22 : decode cX12_addEvent 22 = .ok (.aload_n 0, 1) := by decide +kernel
theorem dX12_addEvent_23 : decode cX12_addEvent 23 = .ok (.getfield 20, 3) := by decide +kernel
theorem dX12_addEvent_26 : decode cX12_addEvent 26 = .ok (.iload_n 1, 1) := by decide +kernel
theorem dX12_addEvent_27 : decode cX12_addEvent 27 = .ok (.iaload, 1) := by decide +kernel
theorem dX12_addEvent_28 : decode cX12_addEvent 28 = .ok (.iconst 1, 1) := by decide +kernel
theorem dX12_addEvent_29 : decode cX12_addEvent 29 = .ok (.isub, 1) := by decide +kernel
theorem dX12_addEvent_30 : decode cX12_addEvent 30 = .ok (.i2l, 1) := by decide +kernel
theorem dX12_addEvent_31 : decode cX12_addEvent 31 = .ok (.invokestatic 99, 3) := by decide +kernel
theorem dX12_addEvent_34 : decode cX12_addEvent 34 = .ok (.ifCond .eq 15, 3) := by decide +kernel
theorem dX12_addEvent_37 : decode cX12_addEvent 37 = .ok (.iload_n 3, 1) := by decide +kernel
theorem dX12_addEvent_38 : decode cX12_addEvent 38 = .ok (.i2l, 1) := by decide +kernel
theorem dX12_addEvent_39 : decode cX12_addEvent 39 = .ok (.lconst 0, 1) := by decide +kernel
theorem dX12_addEvent_40 : decode cX12_addEvent 40 = .ok (.ldc2_w 126, 3) := by decide +kernel
theorem dX12_addEvent_43 : decode cX12_addEvent 43 = .ok (.invokestatic 99, 3) := by decide +kernel
theorem dX12_addEvent_46 : decode cX12_addEvent 46 = .ok (.ifCond .ne 9, 3) := by decide +kernel
theorem dX12_addEvent_49 : decode cX12_addEvent 49 = .ok (.aload_n 0, 1) := by decide +kernel
theorem dX12_addEvent_50 : decode cX12_addEvent 50 = .ok (.iconst 2, 1) := by decide +kernel
theorem dX12_addEvent_51 : decode cX12_addEvent 51 = .ok (.invokevirtual 103, 3) := by decide +kernel
theorem dX12_addEvent_54 : decode cX12_addEvent 54 = .ok (.ireturn, 1) := by decide +kernel
theorem dX12_addEvent_55 : decode cX12_addEvent 55 = .ok (.aload_n 0, 1) := by decide +kernel
theorem dX12_addEvent_56 : decode cX12_addEvent 56 = .ok (.getfield 23, 3) := by decide +kernel
theorem dX12_addEvent_59 : decode cX12_addEvent 59 = .ok (.iload_n 1, 1) := by decide +kernel
theorem dX12_addEvent_60 : decode cX12_addEvent 60 = .ok (.iaload, 1) := by decide +kernel
theorem dX12_addEvent_61 : decode cX12_addEvent 61 = .ok (.iconst 5, 1) := by decide +kernel
theorem dX12_addEvent_62 : decode cX12_addEvent 62 = .ok (.if_icmp .ne 9, 3) := by decide +kernel
theorem dX12_addEvent_65 : decode cX12_addEvent 65 = .ok (.aload_n 0, 1) := by decide +kernel
theorem dX12_addEvent_66 : decode cX12_addEvent 66 = .ok (.iconst 3, 1) := by decide +kernel
theorem dX12_addEvent_67 : decode cX12_addEvent 67 = .ok (.invokevirtual 103, 3) := by decide +kernel
theorem dX12_addEvent_70 : decode cX12_addEvent 70 = .ok (.ireturn, 1) := by decide +kernel
theorem dX12_addEvent_71 : decode cX12_addEvent 71 = .ok (.iconst 5, 1) := by decide +kernel
theorem dX12_addEvent_72 : decode cX12_addEvent 72 = .ok (.iload_n 1, 1) := by decide +kernel
theorem dX12_addEvent_73 : decode cX12_addEvent 73 = .ok (.imul, 1) := by decide +kernel
theorem dX12_addEvent_74 : decode cX12_addEvent 74 = .ok (.aload_n 0, 1) := by decide +kernel
theorem dX12_addEvent_75 : decode cX12_addEvent 75 = .ok (.getfield 23, 3) := by decide +kernel
theorem dX12_addEvent_78 : decode cX12_addEvent 78 = .ok (.iload_n 1, 1) := by decide +kernel
theorem dX12_addEvent_79 : decode cX12_addEvent 79 = .ok (.iaload, 1) := by decide +kernel
theorem dX12_addEvent_80 : decode cX12_addEvent 80 = .ok (.iadd, 1) := by decide +kernel
theorem dX12_addEvent_81 : decode cX12_addEvent 81 = .ok (.istore 4, 2) := by decide +kernel
theorem dX12_addEvent_83 : decode cX12_addEvent 83 = .ok (.iload 4, 2) := by decide +kernel
theorem dX12_addEvent_85 : decode cX12_addEvent 85 = .ok (.iconst 5, 1) := by decide +kernel
theorem dX12_addEvent_86 : decode cX12_addEvent 86 = .ok (.iload_n 1, 1) := by decide +kernel
theorem dX12_addEvent_87 : decode cX12_addEvent 87 = .ok (.imul, 1) := by decide +kernel
theorem dX12_addEvent_88 : decode cX12_addEvent 88 = .ok (.if_icmp .le 54, 3) := by decide +kernel
theorem dX12_addEvent_91 : decode cX12_addEvent 91 = .ok (.aload_n 0, 1) := by decide +kernel
theorem dX12_addEvent_92 : decode cX12_addEvent 92 = .ok (.getfield 26, 3) := by decide +kernel
theorem dX12_addEvent_95 : decode cX12_addEvent 95 = .ok (.iload 4, 2) := by decide +kernel
theorem dX12_addEvent_97 : decode cX12_addEvent 97 = .ok (.iconst 1, 1) := by decide +kernel
theorem dX12_addEvent_98 : decode cX12_addEvent 98 = .ok (.isub, 1) := by decide +kernel
theorem dX12_addEvent_99 : decode cX12_addEvent 99 = .ok (.iaload, 1) := by decide +kernel
theorem dX12_addEvent_100 : decode cX12_addEvent 100 = .ok (.iload_n 2, 1) := by decide +kernel
theorem dX12_addEvent_101 : decode cX12_addEvent 101 = .ok (.if_icmp .le 41, 3) := by decide +kernel
theorem dX12_addEvent_104 : decode cX12_addEvent 104 = .ok (.aload_n 0, 1) := by decide +kernel
theorem dX12_addEvent_105 : decode cX12_addEvent 105 = .ok (.getfield 26, 3) := by decide +kernel
theorem dX12_addEvent_108 : decode cX12_addEvent 108 = .ok (.iload 4, 2) := by decide +kernel
theorem dX12_addEvent_110 : decode cX12_addEvent 110 = .ok (.aload_n 0, 1) := by decide +kernel
theorem dX12_addEvent_111 : decode cX12_addEvent 111 = .ok (.getfield 26, 3) := by decide +kernel
theorem dX12_addEvent_114 : decode cX12_addEvent 114 = .ok (.iload 4, 2) := by decide +kernel
theorem dX12_addEvent_116 : decode cX12_addEvent 116 = .ok (.iconst 1, 1) := by decide +kernel
theorem dX12_addEvent_117 : decode cX12_addEvent 117 = .ok (.isub, 1) := by decide +kernel
theorem dX12_addEvent_118 : decode cX12_addEvent 118 = .ok (.iaload, 1) := by decide +kernel
theorem dX12_addEvent_119 : decode cX12_addEvent 119 = .ok (.iastore, 1) := by decide +kernel
theorem dX12_addEvent_120 : decode cX12_addEvent 120 = .ok (.aload_n 0, 1) := by decide +kernel
theorem dX12_addEvent_121 : decode cX12_addEvent 121 = .ok (.getfield 29, 3) := by decide +kernel
theorem dX12_addEvent_124 : decode cX12_addEvent 124 = .ok (.iload 4, 2) := by decide +kernel
theorem dX12_addEvent_126 : decode cX12_addEvent 126 = .ok (.aload_n 0, 1) := by decide +kernel
theorem dX12_addEvent_127 : decode cX12_addEvent 127 = .ok (.getfield 29, 3) := by decide +kernel
theorem dX12_addEvent_130 : decode cX12_addEvent 130 = .ok (.iload 4, 2) := by decide +kernel
theorem dX12_addEvent_132 : decode cX12_addEvent 132 = .ok (.iconst 1, 1) := by decide +kernel
theorem dX12_addEvent_133 : decode cX12_addEvent 133 = .ok (.isub, 1) := by decide +kernel
theorem dX12_addEvent_134 : decode cX12_addEvent 134 = .ok (.iaload, 1) := by decide +kernel
theorem dX12_addEvent_135 : decode cX12_addEvent 135 = .ok (.iastore, 1) := by decide +kernel
theorem dX12_addEvent_136 : decode cX12_addEvent 136 = .ok (.iinc 4 (-1), 3) := by decide +kernel
theorem dX12_addEvent_139 : decode cX12_addEvent 139 = .ok (.goto (-56), 3) := by decide +kernel
theorem dX12_addEvent_142 : decode cX12_addEvent 142 = .ok (.aload_n 0, 1) := by decide +kernel
theorem dX12_addEvent_143 : decode cX12_addEvent 143 = .ok (.getfield 26, 3) := by decide +kernel
theorem dX12_addEvent_146 : decode cX12_addEvent 146 = .ok (.iload 4, 2) := by decide +kernel
theorem dX12_addEvent_148 : decode cX12_addEvent 148 = .ok (.iload_n 2, 1) := by decide +kernel
theorem dX12_addEvent_149 : decode cX12_addEvent 149 = .ok (.iastore, 1) := by decide +kernel
theorem dX12_addEvent_150 : decode cX12_addEvent 150 = .ok (.aload_n 0, 1) := by decide +kernel
theorem dX12_addEvent_151 : decode cX12_addEvent 151 = .ok (.getfield 29, 3) := by decide +kernel
theorem dX12_addEvent_154 : decode cX12_addEvent 154 = .ok (.iload 4, 2) := by decide +kernel
theorem dX12_addEvent_156 : decode cX12_addEvent 156 = .ok (.iload_n 3, 1) := by decide +kernel
theorem dX12_addEvent_157 : decode cX12_addEvent 157 = .ok (.iastore, 1) := by decide +kernel
theorem dX12_addEvent_158 : decode cX12_addEvent 158 = .ok (.aload_n 0, 1) := by decide +kernel
theorem dX12_addEvent_159 : decode cX12_addEvent 159 = .ok (.getfield 23, 3) := by decide +kernel
theorem dX12_addEvent_162 : decode cX12_addEvent 162 = .ok (.iload_n 1, 1) := by decide +kernel
theorem dX12_addEvent_163 : decode cX12_addEvent 163 = .ok (.dup2, 1) := by decide +kernel
theorem dX12_addEvent_164 : decode cX12_addEvent 164 = .ok (.iaload, 1) := by decide +kernel
theorem dX12_addEvent_165 : decode cX12_addEvent 165 = .ok (.iconst 1, 1) := by decide +kernel
theorem dX12_addEvent_166 : decode cX12_addEvent 166 = .ok (.iadd, 1) := by decide +kernel
theorem dX12_addEvent_167 : decode cX12_addEvent 167 = .ok (.iastore, 1) := by decide +kernel
theorem dX12_addEvent_168 : decode cX12_addEvent 168 = .ok (.aload_n 0, 1) := by decide +kernel
theorem dX12_addEvent_169 : decode cX12_addEvent 169 = .ok (.getfield 23, 3) := by decide +kernel
theorem dX12_addEvent_172 : decode cX12_addEvent 172 = .ok (.iload_n 1, 1) := by decide +kernel
theorem dX12_addEvent_173 : decode cX12_addEvent 173 = .ok (.iaload, 1) := by decide +kernel
theorem dX12_addEvent_174 : decode cX12_addEvent 174 = .ok (.ireturn, 1) := by decide +kernel
theorem dX12_addClipNode_0 : decode cX12_addClipNode 0 = .ok (.aload_n 0, 1) := by decide +kernel
theorem dX12_addClipNode_1 : decode cX12_addClipNode 1 = .ok (.iconst 0, 1) := by decide +kernel
theorem dX12_addClipNode_2 : decode cX12_addClipNode 2 = .ok (.putfield 94, 3) := by decide +kernel
theorem dX12_addClipNode_5 : decode cX12_addClipNode 5 = .ok (.aload_n 0, 1) := by decide +kernel
theorem dX12_addClipNode_6 : decode cX12_addClipNode 6 = .ok (.iload_n 1, 1) := by decide +kernel
theorem dX12_addClipNode_7 : decode cX12_addClipNode 7 = .ok (.invokevirtual 123, 3) := by decide +kernel
theorem dX12_addClipNode_10 : decode cX12_addClipNode 10 = .ok (.ifCond .ne 9, 3) := by decide +kernel
theorem dX12_addClipNode_13 : decode cX12_addClipNode 13 = .ok (.aload_n 0, 1) := by decide +kernel
theorem dX12_addClipNode_14 : decode cX12_addClipNode 14 = .ok (.iconst 1, 1) := by decide +kernel
theorem dX12_addClipNode_15 : decode cX12_addClipNode 15 = .ok (.invokevirtual 103, 3) := by decide +kernel
theorem dX12_addClipNode_18 : decode cX12_addClipNode 18 = .ok (.ireturn, 1) := by decide +kernel
theorem dX12_addClipNode_19 : decode cX12_addClipNode 19 = .ok (.aload_n 0, 1) := by decide +kernel
theorem dX12_addClipNode_20 : decode cX12_addClipNode 20 = .ok (.getfield 128, 3) := by decide +kernel
theorem dX12_addClipNode_23 : decode cX12_addClipNode 23 = .ok (.bipush 20, 2) := by decide +kernel
theorem dX12_addClipNode_25 : decode cX12_addClipNode 25 = .ok (.if_icmp .ne 9, 3) := by decide +kernel
theorem dX12_addClipNode_28 : decode cX12_addClipNode 28 = .ok (.aload_n 0, 1) := by decide +kernel
theorem dX12_addClipNode_29 : decode cX12_addClipNode 29 = .ok (.iconst 2, 1) := by decide +kernel
theorem dX12_addClipNode_30 : decode cX12_addClipNode 30 = .ok (.invokevirtual 103, 3) := by decide +kernel
theorem dX12_addClipNode_33 : decode cX12_addClipNode 33 = .ok (.ireturn, 1) := by decide +kernel
theorem dX12_addClipNode_34 : decode cX12_addClipNode 34 = .ok (.aload_n 0, 1) := by decide +kernel
theorem dX12_addClipNode_35 : decode cX12_addClipNode 35 = .ok (.getfield 32, 3) := by decide +kernel
theorem dX12_addClipNode_38 : decode cX12_addClipNode 38 = .ok (.aload_n 0, 1) := by decide +kernel
theorem dX12_addClipNode_39 : decode cX12_addClipNode 39 = .ok (.getfield 128, 3) := by decide +kernel
theorem dX12_addClipNode_42 : decode cX12_addClipNode 42 = .ok (.iload_n 1, 1) := by decide +kernel
theorem dX12_addClipNode_43 : decode cX12_addClipNode 43 = .ok (.iastore, 1) := by decide +kernel
theorem dX12_addClipNode_44 : decode cX12_addClipNode 44 = .ok (.aload_n 0, 1) := by decide +kernel
theorem dX12_addClipNode_45 : decode cX12_addClipNode 45 = .ok (.dup, 1) := by decide +kernel
theorem dX12_addClipNode_46 : decode cX12_addClipNode 46 = .ok (.getfield 128, 3) := by decide +kernel
theorem dX12_addClipNode_49 : decode cX12_addClipNode 49 = .ok (.iconst 1, 1) := by decide +kernel
theorem dX12_addClipNode_50 : decode cX12_addClipNode 50 = .ok (.iadd, 1) := by decide +kernel
theorem dX12_addClipNode_51 : decode cX12_addClipNode 51 = .ok (.putfield 128, 3) := by decide +kernel
theorem dX12_addClipNode_54 : decode cX12_addClipNode 54 = .ok (.aload_n 0, 1) := by decide +kernel
theorem dX12_addClipNode_55 : decode cX12_addClipNode 55 = .ok (.getfield 128, 3) := by decide +kernel
theorem dX12_addClipNode_58 : decode cX12_addClipNode 58 = .ok (.iconst 1, 1) := by decide +kernel
theorem dX12_addClipNode_59 : decode cX12_addClipNode 59 = .ok (.isub, 1) := by decide +kernel
theorem dX12_addClipNode_60 : decode cX12_addClipNode 60 = .ok (.ireturn, 1) := by decide +kernel
theorem dX12_addLine_0 : decode cX12_addLine 0 = .ok (.aload_n 0, 1) := by decide +kernel
theorem dX12_addLine_1 : decode cX12_addLine 1 = .ok (.iconst 0, 1) := by decide +kernel
theorem dX12_addLine_2 : decode cX12_addLine 2 = .ok (.putfield 94, 3) := by decide +kernel
theorem dX12_addLine_5 : decode cX12_addLine 5 = .ok (.aload_n 0, 1) := by decide +kernel
theorem dX12_addLine_6 : decode cX12_addLine 6 = .ok (.iload_n 1, 1) := by decide +kernel
theorem dX12_addLine_7 : decode cX12_addLine 7 = .ok (.invokevirtual 110, 3) := by decide +kernel
theorem dX12_addLine_10 : decode cX12_addLine 10 = .ok (.ifCond .ne 9, 3) := by decide +kernel
theorem dX12_addLine_13 : decode cX12_addLine 13 = .ok (.aload_n 0, 1) := by decide +kernel
theorem dX12_addLine_14 : decode cX12_addLine 14 = .ok (.iconst 1, 1) := by decide +kernel
theorem dX12_addLine_15 : decode cX12_addLine 15 = .ok (.invokevirtual 103, 3) := by decide +kernel
theorem dX12_addLine_18 : decode cX12_addLine 18 = .ok (.ireturn, 1) := by decide +kernel
theorem dX12_addLine_19 : decode cX12_addLine 19 = .ok (.aload_n 0, 1) := by decide +kernel
theorem dX12_addLine_20 : decode cX12_addLine 20 = .ok (.getfield 17, 3) := by decide +kernel
theorem dX12_addLine_23 : decode cX12_addLine 23 = .ok (.iload_n 1, 1) := by decide +kernel
theorem dX12_addLine_24 : decode cX12_addLine 24 = .ok (.iaload, 1) := by decide +kernel
theorem dX12_addLine_25 : decode cX12_addLine 25 = .ok (.ifCond .ne 12, 3) := by decide +kernel
theorem dX12_addLine_28 : decode cX12_addLine 28 = .ok (.aload_n 0, 1) := by decide +kernel
theorem dX12_addLine_29 : decode cX12_addLine 29 = .ok (.getfield 128, 3) := by decide +kernel
theorem dX12_addLine_32 : decode cX12_addLine 32 = .ok (.bipush 20, 2) := by decide +kernel
theorem dX12_addLine_34 : decode cX12_addLine 34 = .ok (.if_icmp .ne 9, 3) := by decide +kernel
theorem dX12_addLine_37 : decode cX12_addLine 37 = .ok (.aload_n 0, 1) := by decide +kernel
theorem dX12_addLine_38 : decode cX12_addLine 38 = .ok (.iconst 2, 1) := by decide +kernel
theorem dX12_addLine_39 : decode cX12_addLine 39 = .ok (.invokevirtual 103, 3) := by decide +kernel
theorem dX12_addLine_42 : decode cX12_addLine 42 = .ok (.ireturn, 1) := by decide +kernel
theorem dX12_addLine_43 : decode cX12_addLine 43 = .ok (.aload_n 0, 1) := by decide +kernel
theorem dX12_addLine_44 : decode cX12_addLine 44 = .ok (.getfield 32, 3) := by decide +kernel
theorem dX12_addLine_47 : decode cX12_addLine 47 = .ok (.aload_n 0, 1) := by decide +kernel
theorem dX12_addLine_48 : decode cX12_addLine 48 = .ok (.getfield 128, 3) := by decide +kernel
theorem dX12_addLine_51 : decode cX12_addLine 51 = .ok (.iconst (-1), 1) := by decide +kernel
theorem dX12_addLine_52 : decode cX12_addLine 52 = .ok (.iastore, 1) := by decide +kernel
theorem dX12_addLine_53 : decode cX12_addLine 53 = .ok (.aload_n 0, 1) := by decide +kernel
theorem dX12_addLine_54 : decode cX12_addLine 54 = .ok (.getfield 35, 3) := by decide +kernel
theorem dX12_addLine_57 : decode cX12_addLine 57 = .ok (.aload_n 0, 1) := by decide +kernel
theorem dX12_addLine_58 : decode cX12_addLine 58 = .ok (.getfield 128, 3) := by decide +kernel
theorem dX12_addLine_61 : decode cX12_addLine 61 = .ok (.iload_n 1, 1) := by decide +kernel
theorem dX12_addLine_62 : decode cX12_addLine 62 = .ok (.iastore, 1) := by decide +kernel
theorem dX12_addLine_63 : decode cX12_addLine 63 = .ok (.aload_n 0, 1) := by decide +kernel
theorem dX12_addLine_64 : decode cX12_addLine 64 = .ok (.dup, 1) := by decide +kernel
theorem dX12_addLine_65 : decode cX12_addLine 65 = .ok (.getfield 128, 3) := by decide +kernel
theorem dX12_addLine_68 : decode cX12_addLine 68 = .ok (.iconst 1, 1) := by decide +kernel
theorem dX12_addLine_69 : decode cX12_addLine 69 = .ok (.iadd, 1) := by decide +kernel
theorem dX12_addLine_70 : decode cX12_addLine 70 = .ok (.putfield 128, 3) := by decide +kernel
theorem dX12_addLine_73 : decode cX12_addLine 73 = .ok (.aload_n 0, 1) := by decide +kernel
theorem dX12_addLine_74 : decode cX12_addLine 74 = .ok (.getfield 128, 3) := by decide +kernel
theorem dX12_addLine_77 : decode cX12_addLine 77 = .ok (.iconst 1, 1) := by decide +kernel
theorem dX12_addLine_78 : decode cX12_addLine 78 = .ok (.isub, 1) := by decide +kernel
theorem dX12_addLine_79 : decode cX12_addLine 79 = .ok (.ireturn, 1) := by decide +kernel
theorem dX12_isNode_0 : decode cX12_isNode 0 = .ok (.iload_n 1, 1) := by decide +kernel
theorem dX12_isNode_1 : decode cX12_isNode 1 = .ok (.i2l, 1) := by decide +kernel
theorem dX12_isNode_2 : decode cX12_isNode 2 = .ok (.lconst 0, 1) := by decide +kernel
theorem dX12_isNode_3 : decode cX12_isNode 3 = .ok (.aload_n 0, 1) := by decide +kernel
theorem dX12_isNode_4 : decode cX12_isNode 4 = .ok (.getfield 128, 3) := by decide +kernel
theorem dX12_isNode_7 : decode cX12_isNode 7 = .ok (.iconst 1, 1) := by decide +kernel
theorem dX12_isNode_8 : decode cX12_isNode 8 = .ok (.isub, 1) := by decide +kernel
theorem dX12_isNode_9 : decode cX12_isNode 9 = .ok (.i2l, 1) := by decide +kernel
theorem dX12_isNode_10 : decode cX12_isNode 10 = .ok (.invokestatic 99, 3) := by decide +kernel
theorem dX12_isNode_13 : decode cX12_isNode 13 = .ok (.ireturn, 1) := by decide +kernel
theorem dX12_isComplete_0 : decode cX12_isComplete 0 = .ok (.aload_n 0, 1) := by decide +kernel
theorem dX12_isComplete_1 : decode cX12_isComplete 1 = .ok (.getfield 32, 3) := by decide +kernel
theorem dX12_isComplete_4 : decode cX12_isComplete 4 = .ok (.iload_n 1, 1) := by decide +kernel
theorem dX12_isComplete_5 : decode cX12_isComplete 5 = .ok (.iaload, 1) := by decide +kernel
theorem dX12_isComplete_6 : decode cX12_isComplete 6 = .ok (.iconst (-1), 1) := by decide +kernel
theorem dX12_isComplete_7 : decode cX12_isComplete 7 = .ok (.if_icmp .ne 12, 3) := by decide +kernel
theorem dX12_isComplete_10 : decode cX12_isComplete 10 = .ok (.aload_n 0, 1) := by decide +kernel
theorem dX12_isComplete_11 : decode cX12_isComplete 11 = .ok (.getfield 38, 3) := by decide +kernel
theorem dX12_isComplete_14 : decode cX12_isComplete 14 = .ok (.iload_n 1, 1) := by decide +kernel
theorem dX12_isComplete_15 : decode cX12_isComplete 15 = .ok (.iaload, 1) := by decide +kernel
theorem dX12_isComplete_16 : decode cX12_isComplete 16 = .ok (.ifCond .le 7, 3) := by decide +kernel
theorem dX12_isComplete_19 : decode cX12_isComplete 19 = .ok (.iconst 1, 1) := by decide +kernel
theorem dX12_isComplete_20 : decode cX12_isComplete 20 = .ok (.goto 4, 3) := by decide +kernel
theorem dX12_isComplete_23 : decode cX12_isComplete 23 = .ok (.iconst 0, 1) := by decide +kernel
theorem dX12_isComplete_24 : decode cX12_isComplete 24 = .ok (.ireturn, 1) := by decide +kernel
theorem dX12_greatestDepth_0 : decode cX12_greatestDepth 0 = .ok (.iconst 0, 1) := by decide +kernel
theorem dX12_greatestDepth_1 : decode cX12_greatestDepth 1 = .ok (.istore_n 3, 1) := by decide +kernel
theorem dX12_greatestDepth_2 : decode cX12_greatestDepth 2 = .ok (.iconst 0, 1) := by decide +kernel
theorem dX12_greatestDepth_3 : decode cX12_greatestDepth 3 = .ok (.istore 4, 2) := by decide +kernel
theorem dX12_greatestDepth_5 : decode cX12_greatestDepth 5 = .ok (.iload 4, 2) := by decide +kernel
theorem dX12_greatestDepth_7 : decode cX12_greatestDepth 7 = .ok (.aload_n 0, 1) := by decide +kernel
theorem dX12_greatestDepth_8 : decode cX12_greatestDepth 8 = .ok (.getfield 128, 3) := by decide +kernel
theorem dX12_greatestDepth_11 : decode cX12_greatestDepth 11 = .ok (.if_icmp .ge 162, 3) := by decide +kernel
theorem dX12_greatestDepth_14 : decode cX12_greatestDepth 14 = .ok (.aload_n 0, 1) := by decide +kernel
theorem dX12_greatestDepth_15 : decode cX12_greatestDepth 15 = .ok (.getfield 69, 3) := by decide +kernel
theorem dX12_greatestDepth_18 : decode cX12_greatestDepth 18 = .ok (.iload 4, 2) := by decide +kernel
theorem dX12_greatestDepth_20 : decode cX12_greatestDepth 20 = .ok (.iconst 1, 1) := by decide +kernel
theorem dX12_greatestDepth_21 : decode cX12_greatestDepth 21 = .ok (.iastore, 1) := by decide +kernel
theorem dX12_greatestDepth_22 : decode cX12_greatestDepth 22 = .ok (.iconst 0, 1) := by decide +kernel
theorem dX12_greatestDepth_23 : decode cX12_greatestDepth 23 = .ok (.istore 5, 2) := by decide +kernel
theorem dX12_greatestDepth_25 : decode cX12_greatestDepth 25 = .ok (.iload 5, 2) := by decide +kernel
theorem dX12_greatestDepth_27 : decode cX12_greatestDepth 27 = .ok (.aload_n 0, 1) := by decide +kernel
theorem dX12_greatestDepth_28 : decode cX12_greatestDepth 28 = .ok (.getfield 38, 3) := by decide +kernel
theorem dX12_greatestDepth_31 : decode cX12_greatestDepth 31 = .ok (.iload 4, 2) := by decide +kernel
theorem dX12_greatestDepth_33 : decode cX12_greatestDepth 33 = .ok (.iaload, 1) := by decide +kernel
theorem dX12_greatestDepth_34 : decode cX12_greatestDepth 34 = .ok (.if_icmp .ge 61, 3) := by decide +kernel
theorem dX12_greatestDepth_37 : decode cX12_greatestDepth 37 = .ok (.iconst 1, 1) := by decide +kernel
theorem dX12_greatestDepth_38 : decode cX12_greatestDepth 38 = .ok (.aload_n 0, 1) := by decide +kernel
theorem dX12_greatestDepth_39 : decode cX12_greatestDepth 39 = .ok (.getfield 69, 3) := by decide +kernel
theorem dX12_greatestDepth_42 : decode cX12_greatestDepth 42 = .ok (.aload_n 0, 1) := by decide +kernel
theorem dX12_greatestDepth_43 : decode cX12_greatestDepth 43 = .ok (.getfield 41, 3) := by decide +kernel
theorem dX12_greatestDepth_46 : decode cX12_greatestDepth 46 = .ok (.iconst 5, 1) := by decide +kernel
theorem dX12_greatestDepth_47 : decode cX12_greatestDepth 47 = .ok (.iload 4, 2) := by decide +kernel
theorem dX12_greatestDepth_49 : decode cX12_greatestDepth 49 = .ok (.imul, 1) := by decide +kernel
theorem dX12_greatestDepth_50 : decode cX12_greatestDepth 50 = .ok (.iload 5, 2) := by decide +kernel
theorem dX12_greatestDepth_52 : decode cX12_greatestDepth 52 = .ok (.iadd, 1) := by decide +kernel
theorem dX12_greatestDepth_53 : decode cX12_greatestDepth 53 = .ok (.iaload, 1) := by decide +kernel
theorem dX12_greatestDepth_54 : decode cX12_greatestDepth 54 = .ok (.iaload, 1) := by decide +kernel
theorem dX12_greatestDepth_55 : decode cX12_greatestDepth 55 = .ok (.iadd, 1) := by decide +kernel
theorem dX12_greatestDepth_56 : decode cX12_greatestDepth 56 = .ok (.istore 6, 2) := by decide +kernel
theorem dX12_greatestDepth_58 : decode cX12_greatestDepth 58 = .ok (.aload_n 0, 1) := by decide +kernel
theorem dX12_greatestDepth_59 : decode cX12_greatestDepth 59 = .ok (.getfield 69, 3) := by decide +kernel
theorem dX12_greatestDepth_62 : decode cX12_greatestDepth 62 = .ok (.iload 4, 2) := by decide +kernel
theorem dX12_greatestDepth_64 : decode cX12_greatestDepth 64 = .ok (.iload 6, 2) := by decide +kernel
theorem dX12_greatestDepth_66 : decode cX12_greatestDepth 66 = .ok (.aload_n 0, 1) := by decide +kernel
theorem dX12_greatestDepth_67 : decode cX12_greatestDepth 67 = .ok (.getfield 69, 3) := by decide +kernel
theorem dX12_greatestDepth_70 : decode cX12_greatestDepth 70 = .ok (.iload 4, 2) := by decide +kernel
theorem dX12_greatestDepth_72 : decode cX12_greatestDepth 72 = .ok (.iaload, 1) := by decide +kernel
theorem dX12_greatestDepth_73 : decode cX12_greatestDepth 73 = .ok (.if_icmp .le 8, 3) := by decide +kernel
theorem dX12_greatestDepth_76 : decode cX12_greatestDepth 76 = .ok (.iload 6, 2) := by decide +kernel
theorem dX12_greatestDepth_78 : decode cX12_greatestDepth 78 = .ok (.goto 10, 3) := by decide +kernel
theorem dX12_greatestDepth_81 : decode cX12_greatestDepth 81 = .ok (.aload_n 0, 1) := by decide +kernel
theorem dX12_greatestDepth_82 : decode cX12_greatestDepth 82 = .ok (.getfield 69, 3) := by decide +kernel
theorem dX12_greatestDepth_85 : decode cX12_greatestDepth 85 = .ok (.iload 4, 2) := by decide +kernel
theorem dX12_greatestDepth_87 : decode cX12_greatestDepth 87 = .ok (.iaload, 1) := by decide +kernel
theorem dX12_greatestDepth_88 : decode cX12_greatestDepth 88 = .ok (.iastore, 1) := by decide +kernel
theorem dX12_greatestDepth_89 : decode cX12_greatestDepth 89 = .ok (.iinc 5 1, 3) := by decide +kernel
theorem dX12_greatestDepth_92 : decode cX12_greatestDepth 92 = .ok (.goto (-67), 3) := by decide +kernel
theorem dX12_greatestDepth_95 : decode cX12_greatestDepth 95 = .ok (.aload_n 0, 1) := by decide +kernel
theorem dX12_greatestDepth_96 : decode cX12_greatestDepth 96 = .ok (.getfield 69, 3) := by decide +kernel
theorem dX12_greatestDepth_99 : decode cX12_greatestDepth 99 = .ok (.iload 4, 2) := by decide +kernel
theorem dX12_greatestDepth_101 : decode cX12_greatestDepth 101 = .ok (.iload 4, 2) := by decide +kernel
theorem dX12_greatestDepth_103 : decode cX12_greatestDepth 103 = .ok (.iload_n 1, 1) := by decide +kernel
theorem dX12_greatestDepth_104 : decode cX12_greatestDepth 104 = .ok (.if_icmp .ne 32, 3) := by decide +kernel
theorem dX12_greatestDepth_107 : decode cX12_greatestDepth 107 = .ok (.iconst 1, 1) := by decide +kernel
theorem dX12_greatestDepth_108 : decode cX12_greatestDepth 108 = .ok (.aload_n 0, 1) := by decide +kernel
theorem dX12_greatestDepth_109 : decode cX12_greatestDepth 109 = .ok (.getfield 69, 3) := by decide +kernel
theorem dX12_greatestDepth_112 : decode cX12_greatestDepth 112 = .ok (.iload_n 2, 1) := by decide +kernel
theorem dX12_greatestDepth_113 : decode cX12_greatestDepth 113 = .ok (.iaload, 1) := by decide +kernel
theorem dX12_greatestDepth_114 : decode cX12_greatestDepth 114 = .ok (.iadd, 1) := by decide +kernel
theorem dX12_greatestDepth_115 : decode cX12_greatestDepth 115 = .ok (.aload_n 0, 1) := by decide +kernel
theorem dX12_greatestDepth_116 : decode cX12_greatestDepth 116 = .ok (.getfield 69, 3) := by decide +kernel
theorem dX12_greatestDepth_119 : decode cX12_greatestDepth 119 = .ok (.iload 4, 2) := by decide +kernel
theorem dX12_greatestDepth_121 : decode cX12_greatestDepth 121 = .ok (.iaload, 1) := by decide +kernel
theorem dX12_greatestDepth_122 : decode cX12_greatestDepth 122 = .ok (.if_icmp .le 14, 3) := by decide +kernel
theorem dX12_greatestDepth_125 : decode cX12_greatestDepth 125 = .ok (.iconst 1, 1) := by decide +kernel
theorem dX12_greatestDepth_126 : decode cX12_greatestDepth 126 = .ok (.aload_n 0, 1) := by decide +kernel
theorem dX12_greatestDepth_127 : decode cX12_greatestDepth 127 = .ok (.getfield 69, 3) := by decide +kernel
theorem dX12_greatestDepth_130 : decode cX12_greatestDepth 130 = .ok (.iload_n 2, 1) := by decide +kernel
theorem dX12_greatestDepth_131 : decode cX12_greatestDepth 131 = .ok (.iaload, 1) := by decide +kernel
theorem dX12_greatestDepth_132 : decode cX12_greatestDepth 132 = .ok (.iadd, 1) := by decide +kernel
theorem dX12_greatestDepth_133 : decode cX12_greatestDepth 133 = .ok (.goto 10, 3) := by decide +kernel
theorem dX12_greatestDepth_136 : decode cX12_greatestDepth 136 = .ok (.aload_n 0, 1) := by decide +kernel
theorem dX12_greatestDepth_137 : decode cX12_greatestDepth 137 = .ok (.getfield 69, 3) := by decide +kernel
theorem dX12_greatestDepth_140 : decode cX12_greatestDepth 140 = .ok (.iload 4, 2) := by decide +kernel
theorem dX12_greatestDepth_142 : decode cX12_greatestDepth 142 = .ok (.iaload, 1) := by decide +kernel
theorem dX12_greatestDepth_143 : decode cX12_greatestDepth 143 = .ok (.iastore, 1) := by decide +kernel
theorem dX12_greatestDepth_144 : decode cX12_greatestDepth 144 = .ok (.aload_n 0, 1) := by decide +kernel
theorem dX12_greatestDepth_145 : decode cX12_greatestDepth 145 = .ok (.getfield 69, 3) := by decide +kernel
theorem dX12_greatestDepth_148 : decode cX12_greatestDepth 148 = .ok (.iload 4, 2) := by decide +kernel
theorem dX12_greatestDepth_150 : decode cX12_greatestDepth 150 = .ok (.iaload, 1) := by decide +kernel
theorem dX12_greatestDepth_151 : decode cX12_greatestDepth 151 = .ok (.iload_n 3, 1) := by decide +kernel
theorem dX12_greatestDepth_152 : decode cX12_greatestDepth 152 = .ok (.if_icmp .le 13, 3) := by decide +kernel
theorem dX12_greatestDepth_155 : decode cX12_greatestDepth 155 = .ok (.aload_n 0, 1) := by decide +kernel
theorem dX12_greatestDepth_156 : decode cX12_greatestDepth 156 = .ok (.getfield 69, 3) := by decide +kernel
theorem dX12_greatestDepth_159 : decode cX12_greatestDepth 159 = .ok (.iload 4, 2) := by decide +kernel
theorem dX12_greatestDepth_161 : decode cX12_greatestDepth 161 = .ok (.iaload, 1) := by decide +kernel
theorem dX12_greatestDepth_162 : decode cX12_greatestDepth 162 = .ok (.goto 4, 3) := by decide +kernel
theorem dX12_greatestDepth_165 : decode cX12_greatestDepth 165 = .ok (.iload_n 3, 1) := by decide +kernel
theorem dX12_greatestDepth_166 : decode cX12_greatestDepth 166 = .ok (.istore_n 3, 1) := by decide +kernel
theorem dX12_greatestDepth_167 : decode cX12_greatestDepth 167 = .ok (.iinc 4 1, 3) := by decide +kernel
theorem dX12_greatestDepth_170 : decode cX12_greatestDepth 170 = .ok (.goto (-165), 3) := by decide +kernel
theorem dX12_greatestDepth_173 : decode cX12_greatestDepth 173 = .ok (.iload_n 3, 1) := by decide +kernel
theorem dX12_greatestDepth_174 : decode cX12_greatestDepth 174 = .ok (.ireturn, 1) := by decide +kernel
theorem dX12_addChild_0 : decode cX12_addChild 0 = .ok (.aload_n 0, 1) := by decide +kernel
theorem dX12_addChild_1 : decode cX12_addChild 1 = .ok (.iconst 0, 1) := by decide +kernel
theorem dX12_addChild_2 : decode cX12_addChild 2 = .ok (.putfield 94, 3) := by decide +kernel
theorem dX12_addChild_5 : decode cX12_addChild 5 = .ok (.aload_n 0, 1) := by decide +kernel
theorem dX12_addChild_6 : decode cX12_addChild 6 = .ok (.iload_n 1, 1) := by decide +kernel
theorem dX12_addChild_7 : decode cX12_addChild 7 = .ok (.invokevirtual 131, 3) := by decide +kernel
theorem dX12_addChild_10 : decode cX12_addChild 10 = .ok (.ifCond .eq 11, 3) := by decide +kernel
theorem dX12_addChild_13 : decode cX12_addChild 13 = .ok (.aload_n 0, 1) := by decide +kernel
theorem dX12_addChild_14 : decode cX12_addChild 14 = .ok (.iload_n 2, 1) := by decide +kernel
theorem dX12_addChild_15 : decode cX12_addChild 15 = .ok (.invokevirtual 131, 3) := by decide +kernel
theorem dX12_addChild_18 : decode cX12_addChild 18 = .ok (.ifCond .ne 9, 3) := by decide +kernel
theorem dX12_addChild_21 : decode cX12_addChild 21 = .ok (.aload_n 0, 1) := by decide +kernel
theorem dX12_addChild_22 : decode cX12_addChild 22 = .ok (.iconst 1, 1) := by decide +kernel
theorem dX12_addChild_23 : decode cX12_addChild 23 = .ok (.invokevirtual 103, 3) := by decide +kernel
theorem dX12_addChild_26 : decode cX12_addChild 26 = .ok (.ireturn, 1) := by decide +kernel
theorem dX12_addChild_27 : decode cX12_addChild 27 = .ok (.aload_n 0, 1) := by decide +kernel
theorem dX12_addChild_28 : decode cX12_addChild 28 = .ok (.getfield 32, 3) := by decide +kernel
theorem dX12_addChild_31 : decode cX12_addChild 31 = .ok (.iload_n 1, 1) := by decide +kernel
theorem dX12_addChild_32 : decode cX12_addChild 32 = .ok (.iaload, 1) := by decide +kernel
theorem dX12_addChild_33 : decode cX12_addChild 33 = .ok (.iconst (-1), 1) := by decide +kernel
theorem dX12_addChild_34 : decode cX12_addChild 34 = .ok (.if_icmp .ne 22, 3) := by decide +kernel
theorem dX12_addChild_37 : decode cX12_addChild 37 = .ok (.iload_n 2, 1) := by decide +kernel
theorem dX12_addChild_38 : decode cX12_addChild 38 = .ok (.iload_n 1, 1) := by decide +kernel
theorem dX12_addChild_39 : decode cX12_addChild 39 = .ok (.if_icmp .ge 17, 3) := by decide +kernel
theorem dX12_addChild_42 : decode cX12_addChild 42 = .ok (.iload_n 3, 1) := by decide +kernel
theorem dX12_addChild_43 : decode cX12_addChild 43 = .ok (.i2l, 1) := by decide +kernel
theorem dX12_addChild_44 : decode cX12_addChild 44 = .ok (.ldc2_w 114, 3) := by decide +kernel
theorem dX12_addChild_47 : decode cX12_addChild 47 = .ok (.ldc2_w 116, 3) := by decide +kernel
theorem dX12_addChild_50 : decode cX12_addChild 50 = .ok (.invokestatic 99, 3) := by decide +kernel
theorem dX12_addChild_53 : decode cX12_addChild 53 = .ok (.ifCond .ne 9, 3) := by decide +kernel
theorem dX12_addChild_56 : decode cX12_addChild 56 = .ok (.aload_n 0, 1) := by decide +kernel
theorem dX12_addChild_57 : decode cX12_addChild 57 = .ok (.iconst 2, 1) := by decide +kernel
theorem dX12_addChild_58 : decode cX12_addChild 58 = .ok (.invokevirtual 103, 3) := by decide +kernel
theorem dX12_addChild_61 : decode cX12_addChild 61 = .ok (.ireturn, 1) := by decide +kernel
theorem dX12_addChild_62 : decode cX12_addChild 62 = .ok (.aload_n 0, 1) := by decide +kernel
theorem dX12_addChild_63 : decode cX12_addChild 63 = .ok (.getfield 38, 3) := by decide +kernel
theorem dX12_addChild_66 : decode cX12_addChild 66 = .ok (.iload_n 1, 1) := by decide +kernel
theorem dX12_addChild_67 : decode cX12_addChild 67 = .ok (.iaload, 1) := by decide +kernel
theorem dX12_addChild_68 : decode cX12_addChild 68 = .ok (.iconst 5, 1) := by decide +kernel
theorem dX12_addChild_69 : decode cX12_addChild 69 = .ok (.if_icmp .ne 7, 3) := by decide +kernel
theorem dX12_addChild_72 : decode cX12_addChild 72 = .ok (.iconst 1, 1) := by decide +kernel
theorem dX12_addChild_73 : decode cX12_addChild 73 = .ok (.goto 4, 3) := by decide +kernel
theorem dX12_addChild_76 : decode cX12_addChild 76 = .ok (.iconst 0, 1) := by decide +kernel
theorem dX12_addChild_77 : decode cX12_addChild 77 = .ok (.istore 4, 2) := by decide +kernel
theorem dX12_addChild_79 : decode cX12_addChild 79 = .ok (.iconst 0, 1) := by decide +kernel
theorem dX12_addChild_80 : decode cX12_addChild 80 = .ok (.istore 5, 2) := by decide +kernel
theorem dX12_addChild_82 : decode cX12_addChild 82 = .ok (.iload 5, 2) := by decide +kernel
theorem dX12_addChild_84 : decode cX12_addChild 84 = .ok (.aload_n 0, 1) := by decide +kernel
theorem dX12_addChild_85 : decode cX12_addChild 85 = .ok (.getfield 38, 3) := by decide +kernel
theorem dX12_addChild_88 : decode cX12_addChild 88 = .ok (.iload_n 1, 1) := by decide +kernel
theorem dX12_addChild_89 : decode cX12_addChild 89 = .ok (.iaload, 1) := by decide +kernel
theorem dX12_addChild_90 : decode cX12_addChild 90 = .ok (.if_icmp .ge 36, 3) := by decide +kernel
theorem dX12_addChild_93 : decode cX12_addChild 93 = .ok (.iload 4, 2) := by decide +kernel
theorem dX12_addChild_95 : decode cX12_addChild 95 = .ok (.ifCond .ne 18, 3) := by decide +kernel
theorem dX12_addChild_98 : decode cX12_addChild 98 = .ok (.aload_n 0, 1) := by decide +kernel
theorem dX12_addChild_99 : decode cX12_addChild 99 = .ok (.getfield 44, 3) := by decide +kernel
theorem dX12_addChild_102 : decode cX12_addChild 102 = .ok (.iconst 5, 1) := by decide +kernel
theorem dX12_addChild_103 : decode cX12_addChild 103 = .ok (.iload_n 1, 1) := by decide +kernel
theorem dX12_addChild_104 : decode cX12_addChild 104 = .ok (.imul, 1) := by decide +kernel
theorem dX12_addChild_105 : decode cX12_addChild 105 = .ok (.iload 5, 2) := by decide +kernel
theorem dX12_addChild_107 : decode cX12_addChild 107 = .ok (.iadd, 1) := by decide +kernel
theorem dX12_addChild_108 : decode cX12_addChild 108 = .ok (.iaload, 1) := by decide +kernel
theorem dX12_addChild_109 : decode cX12_addChild 109 = .ok (.iload_n 3, 1) := by decide +kernel
theorem dX12_addChild_110 : decode cX12_addChild 110 = .ok (.if_icmp .ne 7, 3) := by decide +kernel
theorem dX12_addChild_113 : decode cX12_addChild 113 = .ok (.iconst 1, 1) := by decide +kernel
theorem dX12_addChild_114 : decode cX12_addChild 114 = .ok (.goto 4, 3) := by decide +kernel
theorem dX12_addChild_117 : decode cX12_addChild 117 = .ok (.iconst 0, 1) := by decide +kernel
theorem dX12_addChild_118 : decode cX12_addChild 118 = .ok (.istore 4, 2) := by decide +kernel
theorem dX12_addChild_120 : decode cX12_addChild 120 = .ok (.iinc 5 1, 3) := by decide +kernel
theorem dX12_addChild_123 : decode cX12_addChild 123 = .ok (.goto (-41), 3) := by decide +kernel
theorem dX12_addChild_126 : decode cX12_addChild 126 = .ok (.iload 4, 2) := by decide +kernel
theorem dX12_addChild_128 : decode cX12_addChild 128 = .ok (.ifCond .ne 21, 3) := by decide +kernel
theorem dX12_addChild_131 : decode cX12_addChild 131 = .ok (.aload_n 0, 1) := by decide +kernel
theorem dX12_addChild_132 : decode cX12_addChild 132 = .ok (.iload_n 2, 1) := by decide +kernel
theorem dX12_addChild_133 : decode cX12_addChild 133 = .ok (.invokevirtual 134, 3) := by decide +kernel
theorem dX12_addChild_136 : decode cX12_addChild 136 = .ok (.ifCond .eq 13, 3) := by decide +kernel
theorem dX12_addChild_139 : decode cX12_addChild 139 = .ok (.aload_n 0, 1) := by decide +kernel
theorem dX12_addChild_140 : decode cX12_addChild 140 = .ok (.iload_n 1, 1) := by decide +kernel
theorem dX12_addChild_141 : decode cX12_addChild 141 = .ok (.iload_n 2, 1) := by decide +kernel
theorem dX12_addChild_142 : decode cX12_addChild 142 = .ok (.invokevirtual 137, 3) := by decide +kernel
theorem dX12_addChild_145 : decode cX12_addChild 145 = .ok (.iconst 4, 1) := by decide +kernel
theorem dX12_addChild_146 : decode cX12_addChild 146 = .ok (.if_icmp .le 9, 3) := by decide +kernel
theorem dX12_addChild_149 : decode cX12_addChild 149 = .ok (.aload_n 0, 1) := by decide +kernel
theorem dX12_addChild_150 : decode cX12_addChild 150 = .ok (.iconst 3, 1) := by decide +kernel
theorem dX12_addChild_151 : decode cX12_addChild 151 = .ok (.invokevirtual 103, 3) := by decide +kernel
theorem dX12_addChild_154 : decode cX12_addChild 154 = .ok (.ireturn, 1) := by decide +kernel
theorem dX12_addChild_155 : decode cX12_addChild 155 = .ok (.aload_n 0, 1) := by decide +kernel
theorem dX12_addChild_156 : decode cX12_addChild 156 = .ok (.getfield 41, 3) := by decide +kernel
theorem dX12_addChild_159 : decode cX12_addChild 159 = .ok (.iconst 5, 1) := by decide +kernel
theorem dX12_addChild_160 : decode cX12_addChild 160 = .ok (.iload_n 1, 1) := by decide +kernel
theorem dX12_addChild_161 : decode cX12_addChild 161 = .ok (.imul, 1) := by decide +kernel
theorem dX12_addChild_162 : decode cX12_addChild 162 = .ok (.aload_n 0, 1) := by decide +kernel
theorem dX12_addChild_163 : decode cX12_addChild 163 = .ok (.getfield 38, 3) := by decide +kernel
theorem dX12_addChild_166 : decode cX12_addChild 166 = .ok (.iload_n 1, 1) := by decide +kernel
theorem dX12_addChild_167 : decode cX12_addChild 167 = .ok (.iaload, 1) := by decide +kernel
theorem dX12_addChild_168 : decode cX12_addChild 168 = .ok (.iadd, 1) := by decide +kernel
theorem dX12_addChild_169 : decode cX12_addChild 169 = .ok (.iload_n 2, 1) := by decide +kernel
theorem dX12_addChild_170 : decode cX12_addChild 170 = .ok (.iastore, 1) := by decide +kernel
theorem dX12_addChild_171 : decode cX12_addChild 171 = .ok (.aload_n 0, 1) := by decide +kernel
theorem dX12_addChild_172 : decode cX12_addChild 172 = .ok (.getfield 44, 3) := by decide +kernel
theorem dX12_addChild_175 : decode cX12_addChild 175 = .ok (.iconst 5, 1) := by decide +kernel
theorem dX12_addChild_176 : decode cX12_addChild 176 = .ok (.iload_n 1, 1) := by decide +kernel
theorem dX12_addChild_177 : decode cX12_addChild 177 = .ok (.imul, 1) := by decide +kernel
theorem dX12_addChild_178 : decode cX12_addChild 178 = .ok (.aload_n 0, 1) := by decide +kernel
theorem dX12_addChild_179 : decode cX12_addChild 179 = .ok (.getfield 38, 3) := by decide +kernel
theorem dX12_addChild_182 : decode cX12_addChild 182 = .ok (.iload_n 1, 1) := by decide +kernel
theorem dX12_addChild_183 : decode cX12_addChild 183 = .ok (.iaload, 1) := by decide +kernel
theorem dX12_addChild_184 : decode cX12_addChild 184 = .ok (.iadd, 1) := by decide +kernel
theorem dX12_addChild_185 : decode cX12_addChild 185 = .ok (.iload_n 3, 1) := by decide +kernel
theorem dX12_addChild_186 : decode cX12_addChild 186 = .ok (.iastore, 1) := by decide +kernel
theorem dX12_addChild_187 : decode cX12_addChild 187 = .ok (.aload_n 0, 1) := by decide +kernel
theorem dX12_addChild_188 : decode cX12_addChild 188 = .ok (.getfield 38, 3) := by decide +kernel
theorem dX12_addChild_191 : decode cX12_addChild 191 = .ok (.iload_n 1, 1) := by decide +kernel
theorem dX12_addChild_192 : decode cX12_addChild 192 = .ok (.dup2, 1) := by decide +kernel
theorem dX12_addChild_193 : decode cX12_addChild 193 = .ok (.iaload, 1) := by decide +kernel
theorem dX12_addChild_194 : decode cX12_addChild 194 = .ok (.iconst 1, 1) := by decide +kernel
theorem dX12_addChild_195 : decode cX12_addChild 195 = .ok (.iadd, 1) := by decide +kernel
theorem dX12_addChild_196 : decode cX12_addChild 196 = .ok (.iastore, 1) := by decide +kernel
theorem dX12_addChild_197 : decode cX12_addChild 197 = .ok (.aload_n 0, 1) := by decide +kernel
theorem dX12_addChild_198 : decode cX12_addChild 198 = .ok (.getfield 38, 3) := by decide +kernel
theorem dX12_addChild_201 : decode cX12_addChild 201 = .ok (.iload_n 1, 1) := by decide +kernel
theorem dX12_addChild_202 : decode cX12_addChild 202 = .ok (.iaload, 1) := by decide +kernel
theorem dX12_addChild_203 : decode cX12_addChild 203 = .ok (.ireturn, 1) := by decide +kernel
theorem dX12_blends_0 : decode cX12_blends 0 = .ok (.iconst 0, 1) := by decide +kernel
theorem dX12_blends_1 : decode cX12_blends 1 = .ok (.istore 4, 2) := by decide +kernel
theorem dX12_blends_3 : decode cX12_blends 3 = .ok (.iload 4, 2) := by decide +kernel
theorem dX12_blends_5 : decode cX12_blends 5 = .ok (.bipush 12, 2) := by decide +kernel
theorem dX12_blends_7 : decode cX12_blends 7 = .ok (.if_icmp .ge 17, 3) := by decide +kernel
theorem dX12_blends_10 : decode cX12_blends 10 = .ok (.aload_n 0, 1) := by decide +kernel
theorem dX12_blends_11 : decode cX12_blends 11 = .ok (.getfield 72, 3) := by decide +kernel
theorem dX12_blends_14 : decode cX12_blends 14 = .ok (.iload 4, 2) := by decide +kernel
theorem dX12_blends_16 : decode cX12_blends 16 = .ok (.lconst 0, 1) := by decide +kernel
theorem dX12_blends_17 : decode cX12_blends 17 = .ok (.lastore, 1) := by decide +kernel
theorem dX12_blends_18 : decode cX12_blends 18 = .ok (.iinc 4 1, 3) := by decide +kernel
theorem dX12_blends_21 : decode cX12_blends 21 = .ok (.goto (-18), 3) := by decide +kernel
theorem dX12_blends_24 : decode cX12_blends 24 = .ok (.iconst 1, 1) := by decide +kernel
theorem dX12_blends_25 : decode cX12_blends 25 = .ok (.istore 4, 2) := by decide +kernel
theorem dX12_blends_27 : decode cX12_blends 27 = .ok (.aload_n 0, 1) := by decide +kernel
theorem dX12_blends_28 : decode cX12_blends 28 = .ok (.getfield 76, 3) := by decide +kernel
theorem dX12_blends_31 : decode cX12_blends 31 = .ok (.iconst 0, 1) := by decide +kernel
theorem dX12_blends_32 : decode cX12_blends 32 = .ok (.iload_n 1, 1) := by decide +kernel
theorem dX12_blends_33 : decode cX12_blends 33 = .ok (.iastore, 1) := by decide +kernel
theorem dX12_blends_34 : decode cX12_blends 34 = .ok (.aload_n 0, 1) := by decide +kernel
theorem dX12_blends_35 : decode cX12_blends 35 = .ok (.getfield 79, 3) := by decide +kernel
theorem dX12_blends_38 : decode cX12_blends 38 = .ok (.iconst 0, 1) := by decide +kernel
theorem dX12_blends_39 : decode cX12_blends 39 = .ok (.lload_n 2, 1) := by decide +kernel
theorem dX12_blends_40 : decode cX12_blends 40 = .ok (.lastore, 1) := by decide +kernel
theorem dX12_blends_41 : decode cX12_blends 41 = .ok (.iload 4, 2) := by decide +kernel
theorem dX12_blends_43 : decode cX12_blends 43 = .ok (.ifCond .le 84, 3) := by decide +kernel
theorem dX12_blends_46 : decode cX12_blends 46 = .ok (.iinc 4 (-1), 3) := by decide +kernel
theorem dX12_blends_49 : decode cX12_blends 49 = .ok (.aload_n 0, 1) := by decide +kernel
theorem dX12_blends_50 : decode cX12_blends 50 = .ok (.getfield 76, 3) := by decide +kernel
theorem dX12_blends_53 : decode cX12_blends 53 = .ok (.iload 4, 2) := by decide +kernel
theorem dX12_blends_55 : decode cX12_blends 55 = .ok (.iaload, 1) := by decide +kernel
theorem dX12_blends_56 : decode cX12_blends 56 = .ok (.istore 5, 2) := by decide +kernel
theorem dX12_blends_58 : decode cX12_blends 58 = .ok (.aload_n 0, 1) := by decide +kernel
theorem dX12_blends_59 : decode cX12_blends 59 = .ok (.getfield 79, 3) := by decide +kernel
theorem dX12_blends_62 : decode cX12_blends 62 = .ok (.iload 4, 2) := by decide +kernel
theorem dX12_blends_64 : decode cX12_blends 64 = .ok (.laload, 1) := by decide +kernel
theorem dX12_blends_65 : decode cX12_blends 65 = .ok (.lstore 6, 2) := by decide +kernel
theorem dX12_blends_67 : decode cX12_blends 67 = .ok (.lload 6, 2) := by decide +kernel
theorem dX12_blends_69 : decode cX12_blends 69 = .ok (.lconst 0, 1) := by decide +kernel
theorem dX12_blends_70 : decode cX12_blends 70 = .ok (.lcmp, 1) := by decide +kernel
theorem dX12_blends_71 : decode cX12_blends 71 = .ok (.ifCond .le 34, 3) := by decide +kernel
theorem dX12_blends_74 : decode cX12_blends 74 = .ok (.aload_n 0, 1) := by decide +kernel
theorem dX12_blends_75 : decode cX12_blends 75 = .ok (.getfield 32, 3) := by decide +kernel
theorem dX12_blends_78 : decode cX12_blends 78 = .ok (.iload 5, 2) := by decide +kernel
theorem dX12_blends_80 : decode cX12_blends 80 = .ok (.iaload, 1) := by decide +kernel
theorem dX12_blends_81 : decode cX12_blends 81 = .ok (.iconst (-1), 1) := by decide +kernel
theorem dX12_blends_82 : decode cX12_blends 82 = .ok (.if_icmp .eq 23, 3) := by decide +kernel
theorem dX12_blends_85 : decode cX12_blends 85 = .ok (.aload_n 0, 1) := by decide +kernel
theorem dX12_blends_86 : decode cX12_blends 86 = .ok (.getfield 72, 3) := by decide +kernel
theorem dX12_blends_89 : decode cX12_blends 89 = .ok (.aload_n 0, 1) := by decide +kernel
theorem dX12_blends_90 : decode cX12_blends 90 = .ok (.getfield 32, 3) := by decide +kernel
theorem dX12_blends_93 : decode cX12_blends 93 = .ok (.iload 5, 2) := by decide +kernel
theorem dX12_blends_95 : decode cX12_blends 95 = .ok (.iaload, 1) := by decide +kernel
theorem dX12_blends_96 : decode cX12_blends 96 = .ok (.dup2, 1) := by decide +kernel
theorem dX12_blends_97 : decode cX12_blends 97 = .ok (.laload, 1) := by decide +kernel
theorem dX12_blends_98 : decode cX12_blends 98 = .ok (.lload 6, 2) := by decide +kernel
theorem dX12_blends_100 : decode cX12_blends 100 = .ok (.ladd, 1) := by decide +kernel
theorem dX12_blends_101 : decode cX12_blends 101 = .ok (.lastore, 1) := by decide +kernel
theorem dX12_blends_102 : decode cX12_blends 102 = .ok (.goto 22, 3) := by decide +kernel
theorem dX12_blends_105 : decode cX12_blends 105 = .ok (.lload 6, 2) := by decide +kernel
theorem dX12_blends_107 : decode cX12_blends 107 = .ok (.lconst 0, 1) := by decide +kernel
theorem dX12_blends_108 : decode cX12_blends 108 = .ok (.lcmp, 1) := by decide +kernel
theorem dX12_blends_109 : decode cX12_blends 109 = .ok (.ifCond .le 15, 3) := by decide +kernel
theorem dX12_blends_112 : decode cX12_blends 112 = .ok (.aload_n 0, 1) := by decide +kernel
theorem dX12_blends_113 : decode cX12_blends 113 = .ok (.iload 5, 2) := by decide +kernel
theorem dX12_blends_115 : decode cX12_blends 115 = .ok (.lload 6, 2) := by decide +kernel
theorem dX12_blends_117 : decode cX12_blends 117 = .ok (.iload 4, 2) := by decide +kernel
theorem dX12_blends_119 : decode cX12_blends 119 = .ok (.invokevirtual 141, 3) := by decide +kernel
theorem dX12_blends_122 : decode cX12_blends 122 = .ok (.istore 4, 2) := by decide +kernel
theorem dX12_blends_124 : decode cX12_blends 124 = .ok (.goto (-83), 3) := by decide +kernel
theorem dX12_blends_127 : decode cX12_blends 127 = .ok (.return_, 1) := by decide +kernel
theorem dX12_opens_0 : decode cX12_opens 0 = .ok (.aload_n 0, 1) := by decide +kernel
theorem dX12_opens_1 : decode cX12_opens 1 = .ok (.getfield 7, 3) := by decide +kernel
theorem dX12_opens_4 : decode cX12_opens 4 = .ok (.iconst 0, 1) := by decide +kernel
theorem dX12_opens_5 : decode cX12_opens 5 = .ok (.aload_n 0, 1) := by decide +kernel
theorem dX12_opens_6 : decode cX12_opens 6 = .ok (.getfield 35, 3) := by decide +kernel
theorem dX12_opens_9 : decode cX12_opens 9 = .ok (.iload_n 1, 1) := by decide +kernel
theorem dX12_opens_10 : decode cX12_opens 10 = .ok (.iaload, 1) := by decide +kernel
theorem dX12_opens_11 : decode cX12_opens 11 = .ok (.iadd, 1) := by decide +kernel
theorem dX12_opens_12 : decode cX12_opens 12 = .ok (.iaload, 1) := by decide +kernel
theorem dX12_opens_13 : decode cX12_opens 13 = .ok (.istore 5, 2) := by decide +kernel
theorem dX12_opens_15 : decode cX12_opens 15 = .ok (.iconst (-1), 1) := by decide +kernel
theorem dX12_opens_16 : decode cX12_opens 16 = .ok (.istore 6, 2) := by decide +kernel
theorem dX12_opens_18 : decode cX12_opens 18 = .ok (.iconst (-1), 1) := by decide +kernel
theorem dX12_opens_19 : decode cX12_opens 19 = .ok (.istore 7, 2) := by decide +kernel
theorem dX12_opens_21 : decode cX12_opens 21 = .ok (.iconst 5, 1) := by decide +kernel
theorem dX12_opens_22 : decode cX12_opens 22 = .ok (.iload_n 1, 1) := by decide +kernel
theorem dX12_opens_23 : decode cX12_opens 23 = .ok (.imul, 1) := by decide +kernel
theorem dX12_opens_24 : decode cX12_opens 24 = .ok (.istore 8, 2) := by decide +kernel
theorem dX12_opens_26 : decode cX12_opens 26 = .ok (.iload 8, 2) := by decide +kernel
theorem dX12_opens_28 : decode cX12_opens 28 = .ok (.iconst 5, 1) := by decide +kernel
theorem dX12_opens_29 : decode cX12_opens 29 = .ok (.iload_n 1, 1) := by decide +kernel
theorem dX12_opens_30 : decode cX12_opens 30 = .ok (.imul, 1) := by decide +kernel
theorem dX12_opens_31 : decode cX12_opens 31 = .ok (.aload_n 0, 1) := by decide +kernel
theorem dX12_opens_32 : decode cX12_opens 32 = .ok (.getfield 38, 3) := by decide +kernel
theorem dX12_opens_35 : decode cX12_opens 35 = .ok (.iload_n 1, 1) := by decide +kernel
theorem dX12_opens_36 : decode cX12_opens 36 = .ok (.iaload, 1) := by decide +kernel
theorem dX12_opens_37 : decode cX12_opens 37 = .ok (.iadd, 1) := by decide +kernel
theorem dX12_opens_38 : decode cX12_opens 38 = .ok (.if_icmp .ge 95, 3) := by decide +kernel
theorem dX12_opens_41 : decode cX12_opens 41 = .ok (.aload_n 0, 1) := by decide +kernel
theorem dX12_opens_42 : decode cX12_opens 42 = .ok (.getfield 44, 3) := by decide +kernel
theorem dX12_opens_45 : decode cX12_opens 45 = .ok (.iload 8, 2) := by decide +kernel
theorem dX12_opens_47 : decode cX12_opens 47 = .ok (.iaload, 1) := by decide +kernel
theorem dX12_opens_48 : decode cX12_opens 48 = .ok (.iload 5, 2) := by decide +kernel
theorem dX12_opens_50 : decode cX12_opens 50 = .ok (.if_icmp .gt 30, 3) := by decide +kernel
theorem dX12_opens_53 : decode cX12_opens 53 = .ok (.iload 6, 2) := by decide +kernel
theorem dX12_opens_55 : decode cX12_opens 55 = .ok (.ifCond .lt 20, 3) := by decide +kernel
theorem dX12_opens_58 : decode cX12_opens 58 = .ok (.aload_n 0, 1) := by decide +kernel
theorem dX12_opens_59 : decode cX12_opens 59 = .ok (.getfield 44, 3) := by decide +kernel
theorem dX12_opens_62 : decode cX12_opens 62 = .ok (.iload 8, 2) := by decide +kernel
theorem dX12_opens_64 : decode cX12_opens 64 = .ok (.iaload, 1) := by decide +kernel
theorem dX12_opens_65 : decode cX12_opens 65 = .ok (.aload_n 0, 1) := by decide +kernel
theorem dX12_opens_66 : decode cX12_opens 66 = .ok (.getfield 44, 3) := by decide +kernel
theorem dX12_opens_69 : decode cX12_opens 69 = .ok (.iload 6, 2) := by decide +kernel
theorem dX12_opens_71 : decode cX12_opens 71 = .ok (.iaload, 1) := by decide +kernel
theorem dX12_opens_72 : decode cX12_opens 72 = .ok (.if_icmp .le 8, 3) := by decide +kernel
theorem dX12_opens_75 : decode cX12_opens 75 = .ok (.iload 8, 2) := by decide +kernel
theorem dX12_opens_77 : decode cX12_opens 77 = .ok (.goto 5, 3) := by decide +kernel
theorem dX12_opens_80 : decode cX12_opens 80 = .ok (.iload 6, 2) := by decide +kernel
theorem dX12_opens_82 : decode cX12_opens 82 = .ok (.istore 6, 2) := by decide +kernel
theorem dX12_opens_84 : decode cX12_opens 84 = .ok (.aload_n 0, 1) := by decide +kernel
theorem dX12_opens_85 : decode cX12_opens 85 = .ok (.getfield 44, 3) := by decide +kernel
theorem dX12_opens_88 : decode cX12_opens 88 = .ok (.iload 8, 2) := by decide +kernel
theorem dX12_opens_90 : decode cX12_opens 90 = .ok (.iaload, 1) := by decide +kernel
theorem dX12_opens_91 : decode cX12_opens 91 = .ok (.iload 5, 2) := by decide +kernel
theorem dX12_opens_93 : decode cX12_opens 93 = .ok (.if_icmp .lt 30, 3) := by decide +kernel
theorem dX12_opens_96 : decode cX12_opens 96 = .ok (.iload 7, 2) := by decide +kernel
theorem dX12_opens_98 : decode cX12_opens 98 = .ok (.ifCond .lt 20, 3) := by decide +kernel
theorem dX12_opens_101 : decode cX12_opens 101 = .ok (.aload_n 0, 1) := by decide +kernel
theorem dX12_opens_102 : decode cX12_opens 102 = .ok (.getfield 44, 3) := by decide +kernel
theorem dX12_opens_105 : decode cX12_opens 105 = .ok (.iload 8, 2) := by decide +kernel
theorem dX12_opens_107 : decode cX12_opens 107 = .ok (.iaload, 1) := by decide +kernel
theorem dX12_opens_108 : decode cX12_opens 108 = .ok (.aload_n 0, 1) := by decide +kernel
theorem dX12_opens_109 : decode cX12_opens 109 = .ok (.getfield 44, 3) := by decide +kernel
theorem dX12_opens_112 : decode cX12_opens 112 = .ok (.iload 7, 2) := by decide +kernel
theorem dX12_opens_114 : decode cX12_opens 114 = .ok (.iaload, 1) := by decide +kernel
theorem dX12_opens_115 : decode cX12_opens 115 = .ok (.if_icmp .ge 8, 3) := by decide +kernel
theorem dX12_opens_118 : decode cX12_opens 118 = .ok (.iload 8, 2) := by decide +kernel
theorem dX12_opens_120 : decode cX12_opens 120 = .ok (.goto 5, 3) := by decide +kernel
theorem dX12_opens_123 : decode cX12_opens 123 = .ok (.iload 7, 2) := by decide +kernel
theorem dX12_opens_125 : decode cX12_opens 125 = .ok (.istore 7, 2) := by decide +kernel
theorem dX12_opens_127 : decode cX12_opens 127 = .ok (.iinc 8 1, 3) := by decide +kernel
theorem dX12_opens_130 : decode cX12_opens 130 = .ok (.goto (-104), 3) := by decide +kernel
theorem dX12_opens_133 : decode cX12_opens 133 = .ok (.iload 6, 2) := by decide +kernel
theorem dX12_opens_135 : decode cX12_opens 135 = .ok (.ifCond .lt 15, 3) := by decide +kernel
theorem dX12_opens_138 : decode cX12_opens 138 = .ok (.iload 7, 2) := by decide +kernel
theorem dX12_opens_140 : decode cX12_opens 140 = .ok (.ifCond .lt 10, 3) := by decide +kernel
theorem dX12_opens_143 : decode cX12_opens 143 = .ok (.iload 6, 2) := by decide +kernel
theorem dX12_opens_145 : decode cX12_opens 145 = .ok (.iload 7, 2) := by decide +kernel
theorem dX12_opens_147 : decode cX12_opens 147 = .ok (.if_icmp .ne 40, 3) := by decide +kernel
theorem dX12_opens_150 : decode cX12_opens 150 = .ok (.aload_n 0, 1) := by decide +kernel
theorem dX12_opens_151 : decode cX12_opens 151 = .ok (.getfield 76, 3) := by decide +kernel
theorem dX12_opens_154 : decode cX12_opens 154 = .ok (.iload 4, 2) := by decide +kernel
theorem dX12_opens_156 : decode cX12_opens 156 = .ok (.aload_n 0, 1) := by decide +kernel
theorem dX12_opens_157 : decode cX12_opens 157 = .ok (.getfield 41, 3) := by decide +kernel
theorem dX12_opens_160 : decode cX12_opens 160 = .ok (.iload 6, 2) := by decide +kernel
theorem dX12_opens_162 : decode cX12_opens 162 = .ok (.ifCond .ge 8, 3) := by decide +kernel
theorem dX12_opens_165 : decode cX12_opens 165 = .ok (.iload 7, 2) := by decide +kernel
theorem dX12_opens_167 : decode cX12_opens 167 = .ok (.goto 5, 3) := by decide +kernel
theorem dX12_opens_170 : decode cX12_opens 170 = .ok (.iload 6, 2) := by decide +kernel
theorem dX12_opens_172 : decode cX12_opens 172 = .ok (.iaload, 1) := by decide +kernel
theorem dX12_opens_173 : decode cX12_opens 173 = .ok (.iastore, 1) := by decide +kernel
theorem dX12_opens_174 : decode cX12_opens 174 = .ok (.aload_n 0, 1) := by decide +kernel
theorem dX12_opens_175 : decode cX12_opens 175 = .ok (.getfield 79, 3) := by decide +kernel
theorem dX12_opens_178 : decode cX12_opens 178 = .ok (.iload 4, 2) := by decide +kernel
theorem dX12_opens_180 : decode cX12_opens 180 = .ok (.lload_n 2, 1) := by decide +kernel
theorem dX12_opens_181 : decode cX12_opens 181 = .ok (.lastore, 1) := by decide +kernel
theorem dX12_opens_182 : decode cX12_opens 182 = .ok (.iload 4, 2) := by decide +kernel
theorem dX12_opens_184 : decode cX12_opens 184 = .ok (.iconst 1, 1) := by decide +kernel
theorem dX12_opens_185 : decode cX12_opens 185 = .ok (.iadd, 1) := by decide +kernel
theorem dX12_opens_186 : decode cX12_opens 186 = .ok (.ireturn, 1) := by decide +kernel
theorem dX12_opens_187 : decode cX12_opens 187 = .ok (.lload_n 2, 1) := by decide +kernel
theorem dX12_opens_188 : decode cX12_opens 188 = .ok (.iload 5, 2) := by decide +kernel
theorem dX12_opens_190 : decode cX12_opens 190 = .ok (.aload_n 0, 1) := by decide +kernel
theorem dX12_opens_191 : decode cX12_opens 191 = .ok (.getfield 44, 3) := by decide +kernel
theorem dX12_opens_194 : decode cX12_opens 194 = .ok (.iload 6, 2) := by decide +kernel
theorem dX12_opens_196 : decode cX12_opens 196 = .ok (.iaload, 1) := by decide +kernel
theorem dX12_opens_197 : decode cX12_opens 197 = .ok (.isub, 1) := by decide +kernel
theorem dX12_opens_198 : decode cX12_opens 198 = .ok (.i2l, 1) := by decide +kernel
theorem dX12_opens_199 : decode cX12_opens 199 = .ok (.lmul, 1) := by decide +kernel
theorem dX12_opens_200 : decode cX12_opens 200 = .ok (.aload_n 0, 1) := by decide +kernel
theorem dX12_opens_201 : decode cX12_opens 201 = .ok (.getfield 44, 3) := by decide +kernel
theorem dX12_opens_204 : decode cX12_opens 204 = .ok (.iload 7, 2) := by decide +kernel
theorem dX12_opens_206 : decode cX12_opens 206 = .ok (.iaload, 1) := by decide +kernel
theorem dX12_opens_207 : decode cX12_opens 207 = .ok (.aload_n 0, 1) := by decide +kernel
theorem dX12_opens_208 : decode cX12_opens 208 = .ok (.getfield 44, 3) := by decide +kernel
theorem dX12_opens_211 : decode cX12_opens 211 = .ok (.iload 6, 2) := by decide +kernel
theorem dX12_opens_213 : decode cX12_opens 213 = .ok (.iaload, 1) := by decide +kernel
theorem dX12_opens_214 : decode cX12_opens 214 = .ok (.isub, 1) := by decide +kernel
theorem dX12_opens_215 : decode cX12_opens 215 = .ok (.i2l, 1) := by decide +kernel
theorem dX12_opens_216 : decode cX12_opens 216 = .ok (.ldiv, 1) := by decide +kernel
theorem dX12_opens_217 : decode cX12_opens 217 = .ok (.lstore 8, 2) := by decide +kernel
theorem dX12_opens_219 : decode cX12_opens 219 = .ok (.aload_n 0, 1) := by decide +kernel
theorem dX12_opens_220 : decode cX12_opens 220 = .ok (.getfield 76, 3) := by decide +kernel
theorem dX12_opens_223 : decode cX12_opens 223 = .ok (.iload 4, 2) := by decide +kernel
theorem dX12_opens_225 : decode cX12_opens 225 = .ok (.aload_n 0, 1) := by decide +kernel
theorem dX12_opens_226 : decode cX12_opens 226 = .ok (.getfield 41, 3) := by decide +kernel
theorem dX12_opens_229 : decode cX12_opens 229 = .ok (.iload 7, 2) := by decide +kernel
theorem dX12_opens_231 : decode cX12_opens 231 = .ok (.iaload, 1) := by decide +kernel
theorem dX12_opens_232 : decode cX12_opens 232 = .ok (.iastore, 1) := by decide +kernel
theorem dX12_opens_233 : decode cX12_opens 233 = .ok (.aload_n 0, 1) := by decide +kernel
theorem dX12_opens_234 : decode cX12_opens 234 = .ok (.getfield 79, 3) := by decide +kernel
theorem dX12_opens_237 : decode cX12_opens 237 = .ok (.iload 4, 2) := by decide +kernel
theorem dX12_opens_239 : decode cX12_opens 239 = .ok (.lload 8, 2) := by decide +kernel
theorem dX12_opens_241 : decode cX12_opens 241 = .ok (.lastore, 1) := by decide +kernel
theorem dX12_opens_242 : decode cX12_opens 242 = .ok (.aload_n 0, 1) := by decide +kernel
theorem dX12_opens_243 : decode cX12_opens 243 = .ok (.getfield 76, 3) := by decide +kernel
theorem dX12_opens_246 : decode cX12_opens 246 = .ok (.iload 4, 2) := by decide +kernel
theorem dX12_opens_248 : decode cX12_opens 248 = .ok (.iconst 1, 1) := by decide +kernel
theorem dX12_opens_249 : decode cX12_opens 249 = .ok (.iadd, 1) := by decide +kernel
theorem dX12_opens_250 : decode cX12_opens 250 = .ok (.aload_n 0, 1) := by decide +kernel
theorem dX12_opens_251 : decode cX12_opens 251 = .ok (.getfield 41, 3) := by decide +kernel
theorem dX12_opens_254 : decode cX12_opens 254 = .ok (.iload 6, 2) := by decide +kernel
theorem dX12_opens_256 : decode cX12_opens 256 = .ok (.iaload, 1) := by decide +kernel
theorem dX12_opens_257 : decode cX12_opens 257 = .ok (.iastore, 1) := by decide +kernel
theorem dX12_opens_258 : decode cX12_opens 258 = .ok (.aload_n 0, 1) := by decide +kernel
theorem dX12_opens_259 : decode cX12_opens 259 = .ok (.getfield 79, 3) := by decide +kernel
theorem dX12_opens_262 : decode cX12_opens 262 = .ok (.iload 4, 2) := by decide +kernel
theorem dX12_opens_264 : decode cX12_opens 264 = .ok (.iconst 1, 1) := by decide +kernel
theorem dX12_opens_265 : decode cX12_opens 265 = .ok (.iadd, 1) := by decide +kernel
theorem dX12_opens_266 : decode cX12_opens 266 = .ok (.lload_n 2, 1) := by decide +kernel
theorem dX12_opens_267 : decode cX12_opens 267 = .ok (.lload 8, 2) := by decide +kernel
theorem dX12_opens_269 : decode cX12_opens 269 = .ok (.lsub, 1) := by decide +kernel
theorem dX12_opens_270 : decode cX12_opens 270 = .ok (.lastore, 1) := by decide +kernel
theorem dX12_opens_271 : decode cX12_opens 271 = .ok (.iload 4, 2) := by decide +kernel
theorem dX12_opens_273 : decode cX12_opens 273 = .ok (.iconst 2, 1) := by decide +kernel
theorem dX12_opens_274 : decode cX12_opens 274 = .ok (.iadd, 1) := by decide +kernel
theorem dX12_opens_275 : decode cX12_opens 275 = .ok (.ireturn, 1) := by decide +kernel
theorem dX12_isState_0 : decode cX12_isState 0 = .ok (.iload_n 1, 1) := by decide +kernel
theorem dX12_isState_1 : decode cX12_isState 1 = .ok (.i2l, 1) := by decide +kernel
theorem dX12_isState_2 : decode cX12_isState 2 = .ok (.lconst 0, 1) := by decide +kernel
theorem dX12_isState_3 : decode cX12_isState 3 = .ok (.aload_n 0, 1) := by decide +kernel
theorem dX12_isState_4 : decode cX12_isState 4 = .ok (.getfield 145, 3) := by decide +kernel
theorem dX12_isState_7 : decode cX12_isState 7 = .ok (.iconst 1, 1) := by decide +kernel
theorem dX12_isState_8 : decode cX12_isState 8 = .ok (.isub, 1) := by decide +kernel
theorem dX12_isState_9 : decode cX12_isState 9 = .ok (.i2l, 1) := by decide +kernel
theorem dX12_isState_10 : decode cX12_isState 10 = .ok (.invokestatic 99, 3) := by decide +kernel
theorem dX12_isState_13 : decode cX12_isState 13 = .ok (.ireturn, 1) := by decide +kernel
theorem dX12_addState_0 : decode cX12_addState 0 = .ok (.aload_n 0, 1) := by decide +kernel
theorem dX12_addState_1 : decode cX12_addState 1 = .ok (.iconst 0, 1) := by decide +kernel
theorem dX12_addState_2 : decode cX12_addState 2 = .ok (.putfield 94, 3) := by decide +kernel
theorem dX12_addState_5 : decode cX12_addState 5 = .ok (.aload_n 0, 1) := by decide +kernel
theorem dX12_addState_6 : decode cX12_addState 6 = .ok (.iload_n 1, 1) := by decide +kernel
theorem dX12_addState_7 : decode cX12_addState 7 = .ok (.invokevirtual 131, 3) := by decide +kernel
theorem dX12_addState_10 : decode cX12_addState 10 = .ok (.ifCond .ne 9, 3) := by decide +kernel
theorem dX12_addState_13 : decode cX12_addState 13 = .ok (.aload_n 0, 1) := by decide +kernel
theorem dX12_addState_14 : decode cX12_addState 14 = .ok (.iconst 1, 1) := by decide +kernel
theorem dX12_addState_15 : decode cX12_addState 15 = .ok (.invokevirtual 103, 3) := by decide +kernel
theorem dX12_addState_18 : decode cX12_addState 18 = .ok (.ireturn, 1) := by decide +kernel
theorem dX12_addState_19 : decode cX12_addState 19 = .ok (.iload_n 2, 1) := by decide +kernel
theorem dX12_addState_20 : decode cX12_addState 20 = .ok (.i2l, 1) := by decide +kernel
theorem dX12_addState_21 : decode cX12_addState 21 = .ok (.lconst 1, 1) := by decide +kernel
theorem dX12_addState_22 : decode cX12_addState 22 = .ok (.ldc2_w 148, 3) := by decide +kernel
theorem dX12_addState_25 : decode cX12_addState 25 = .ok (.invokestatic 99, 3) := by decide +kernel
theorem dX12_addState_28 : decode cX12_addState 28 = .ok (.ifCond .eq 16, 3) := by decide +kernel
theorem dX12_addState_31 : decode cX12_addState 31 = .ok (.iload 4, 2) := by decide +kernel
theorem dX12_addState_33 : decode cX12_addState 33 = .ok (.i2l, 1) := by decide +kernel
theorem dX12_addState_34 : decode cX12_addState 34 = .ok (.lconst 0, 1) := by decide +kernel
theorem dX12_addState_35 : decode cX12_addState 35 = .ok (.ldc2_w 150, 3) := by decide +kernel
theorem dX12_addState_38 : decode cX12_addState 38 = .ok (.invokestatic 99, 3) := by decide +kernel
theorem dX12_addState_41 : decode cX12_addState 41 = .ok (.ifCond .ne 9, 3) := by decide +kernel
theorem dX12_addState_44 : decode cX12_addState 44 = .ok (.aload_n 0, 1) := by decide +kernel
theorem dX12_addState_45 : decode cX12_addState 45 = .ok (.iconst 2, 1) := by decide +kernel
theorem dX12_addState_46 : decode cX12_addState 46 = .ok (.invokevirtual 103, 3) := by decide +kernel
theorem dX12_addState_49 : decode cX12_addState 49 = .ok (.ireturn, 1) := by decide +kernel
theorem dX12_addState_50 : decode cX12_addState 50 = .ok (.aload_n 0, 1) := by decide +kernel
theorem dX12_addState_51 : decode cX12_addState 51 = .ok (.iload_n 1, 1) := by decide +kernel
theorem dX12_addState_52 : decode cX12_addState 52 = .ok (.invokevirtual 134, 3) := by decide +kernel
theorem dX12_addState_55 : decode cX12_addState 55 = .ok (.ifCond .eq 12, 3) := by decide +kernel
theorem dX12_addState_58 : decode cX12_addState 58 = .ok (.aload_n 0, 1) := by decide +kernel
theorem dX12_addState_59 : decode cX12_addState 59 = .ok (.getfield 145, 3) := by decide +kernel
theorem dX12_addState_62 : decode cX12_addState 62 = .ok (.bipush 10, 2) := by decide +kernel
theorem dX12_addState_64 : decode cX12_addState 64 = .ok (.if_icmp .ne 9, 3) := by decide +kernel
theorem dX12_addState_67 : decode cX12_addState 67 = .ok (.aload_n 0, 1) := by decide +kernel
theorem dX12_addState_68 : decode cX12_addState 68 = .ok (.iconst 3, 1) := by decide +kernel
theorem dX12_addState_69 : decode cX12_addState 69 = .ok (.invokevirtual 103, 3) := by decide +kernel
theorem dX12_addState_72 : decode cX12_addState 72 = .ok (.ireturn, 1) := by decide +kernel
theorem dX12_addState_73 : decode cX12_addState 73 = .ok (.aload_n 0, 1) := by decide +kernel
theorem dX12_addState_74 : decode cX12_addState 74 = .ok (.getfield 47, 3) := by decide +kernel
theorem dX12_addState_77 : decode cX12_addState 77 = .ok (.aload_n 0, 1) := by decide +kernel
theorem dX12_addState_78 : decode cX12_addState 78 = .ok (.getfield 145, 3) := by decide +kernel
theorem dX12_addState_81 : decode cX12_addState 81 = .ok (.iload_n 1, 1) := by decide +kernel
theorem dX12_addState_82 : decode cX12_addState 82 = .ok (.iastore, 1) := by decide +kernel
theorem dX12_addState_83 : decode cX12_addState 83 = .ok (.aload_n 0, 1) := by decide +kernel
theorem dX12_addState_84 : decode cX12_addState 84 = .ok (.getfield 50, 3) := by decide +kernel
theorem dX12_addState_87 : decode cX12_addState 87 = .ok (.aload_n 0, 1) := by decide +kernel
theorem dX12_addState_88 : decode cX12_addState 88 = .ok (.getfield 145, 3) := by decide +kernel
theorem dX12_addState_91 : decode cX12_addState 91 = .ok (.iload_n 2, 1) := by decide +kernel
theorem dX12_addState_92 : decode cX12_addState 92 = .ok (.iastore, 1) := by decide +kernel
theorem dX12_addState_93 : decode cX12_addState 93 = .ok (.aload_n 0, 1) := by decide +kernel
theorem dX12_addState_94 : decode cX12_addState 94 = .ok (.getfield 53, 3) := by decide +kernel
theorem dX12_addState_97 : decode cX12_addState 97 = .ok (.aload_n 0, 1) := by decide +kernel
theorem dX12_addState_98 : decode cX12_addState 98 = .ok (.getfield 145, 3) := by decide +kernel
theorem dX12_addState_101 : decode cX12_addState 101 = .ok (.iload_n 3, 1) := by decide +kernel
theorem dX12_addState_102 : decode cX12_addState 102 = .ok (.bastore, 1) := by decide +kernel
theorem dX12_addState_103 : decode cX12_addState 103 = .ok (.aload_n 0, 1) := by decide +kernel
theorem dX12_addState_104 : decode cX12_addState 104 = .ok (.getfield 56, 3) := by decide +kernel
theorem dX12_addState_107 : decode cX12_addState 107 = .ok (.aload_n 0, 1) := by decide +kernel
theorem dX12_addState_108 : decode cX12_addState 108 = .ok (.getfield 145, 3) := by decide +kernel
theorem dX12_addState_111 : decode cX12_addState 111 = .ok (.iload 4, 2) := by decide +kernel
theorem dX12_addState_113 : decode cX12_addState 113 = .ok (.iastore, 1) := by decide +kernel
theorem dX12_addState_114 : decode cX12_addState 114 = .ok (.aload_n 0, 1) := by decide +kernel
theorem dX12_addState_115 : decode cX12_addState 115 = .ok (.dup, 1) := by decide +kernel
theorem dX12_addState_116 : decode cX12_addState 116 = .ok (.getfield 145, 3) := by decide +kernel
theorem dX12_addState_119 : decode cX12_addState 119 = .ok (.iconst 1, 1) := by decide +kernel
theorem dX12_addState_120 : decode cX12_addState 120 = .ok (.iadd, 1) := by decide +kernel
theorem dX12_addState_121 : decode cX12_addState 121 = .ok (.putfield 145, 3) := by decide +kernel
theorem dX12_addState_124 : decode cX12_addState 124 = .ok (.aload_n 0, 1) := by decide +kernel
theorem dX12_addState_125 : decode cX12_addState 125 = .ok (.getfield 145, 3) := by decide +kernel
theorem dX12_addState_128 : decode cX12_addState 128 = .ok (.iconst 1, 1) := by decide +kernel
theorem dX12_addState_129 : decode cX12_addState 129 = .ok (.if_icmp .ne 7, 3) := by decide +kernel
theorem dX12_addState_132 : decode cX12_addState 132 = .ok (.aload_n 0, 1) := by decide +kernel
theorem dX12_addState_133 : decode cX12_addState 133 = .ok (.invokevirtual 152, 3) := by decide +kernel
theorem dX12_addState_136 : decode cX12_addState 136 = .ok (.aload_n 0, 1) := by decide +kernel
theorem dX12_addState_137 : decode cX12_addState 137 = .ok (.getfield 145, 3) := by decide +kernel
theorem dX12_addState_140 : decode cX12_addState 140 = .ok (.iconst 1, 1) := by decide +kernel
theorem dX12_addState_141 : decode cX12_addState 141 = .ok (.isub, 1) := by decide +kernel
theorem dX12_addState_142 : decode cX12_addState 142 = .ok (.ireturn, 1) := by decide +kernel
theorem dX12_begins_0 : decode cX12_begins 0 = .ok (.aload_n 0, 1) := by decide +kernel
theorem dX12_begins_1 : decode cX12_begins 1 = .ok (.getfield 7, 3) := by decide +kernel
theorem dX12_begins_4 : decode cX12_begins 4 = .ok (.bipush 8, 2) := by decide +kernel
theorem dX12_begins_6 : decode cX12_begins 6 = .ok (.iconst 0, 1) := by decide +kernel
theorem dX12_begins_7 : decode cX12_begins 7 = .ok (.iastore, 1) := by decide +kernel
theorem dX12_begins_8 : decode cX12_begins 8 = .ok (.aload_n 0, 1) := by decide +kernel
theorem dX12_begins_9 : decode cX12_begins 9 = .ok (.getfield 7, 3) := by decide +kernel
theorem dX12_begins_12 : decode cX12_begins 12 = .ok (.bipush 11, 2) := by decide +kernel
theorem dX12_begins_14 : decode cX12_begins 14 = .ok (.iconst 0, 1) := by decide +kernel
theorem dX12_begins_15 : decode cX12_begins 15 = .ok (.iastore, 1) := by decide +kernel
theorem dX12_begins_16 : decode cX12_begins 16 = .ok (.aload_n 0, 1) := by decide +kernel
theorem dX12_begins_17 : decode cX12_begins 17 = .ok (.getfield 7, 3) := by decide +kernel
theorem dX12_begins_20 : decode cX12_begins 20 = .ok (.bipush 20, 2) := by decide +kernel
theorem dX12_begins_22 : decode cX12_begins 22 = .ok (.iconst 0, 1) := by decide +kernel
theorem dX12_begins_23 : decode cX12_begins 23 = .ok (.iastore, 1) := by decide +kernel
theorem dX12_begins_24 : decode cX12_begins 24 = .ok (.aload_n 0, 1) := by decide +kernel
theorem dX12_begins_25 : decode cX12_begins 25 = .ok (.getfield 7, 3) := by decide +kernel
theorem dX12_begins_28 : decode cX12_begins 28 = .ok (.bipush 21, 2) := by decide +kernel
theorem dX12_begins_30 : decode cX12_begins 30 = .ok (.iconst 0, 1) := by decide +kernel
theorem dX12_begins_31 : decode cX12_begins 31 = .ok (.iastore, 1) := by decide +kernel
theorem dX12_begins_32 : decode cX12_begins 32 = .ok (.aload_n 0, 1) := by decide +kernel
theorem dX12_begins_33 : decode cX12_begins 33 = .ok (.bipush 12, 2) := by decide +kernel
theorem dX12_begins_35 : decode cX12_begins 35 = .ok (.iconst 0, 1) := by decide +kernel
theorem dX12_begins_36 : decode cX12_begins 36 = .ok (.iconst 0, 1) := by decide +kernel
theorem dX12_begins_37 : decode cX12_begins 37 = .ok (.invokevirtual 155, 3) := by decide +kernel
theorem dX12_begins_40 : decode cX12_begins 40 = .ok (.return_, 1) := by decide +kernel
theorem dX12_track_0 : decode cX12_track 0 = .ok (.aload_n 0, 1) := by decide +kernel
theorem dX12_track_1 : decode cX12_track 1 = .ok (.getfield 7, 3) := by decide +kernel
theorem dX12_track_4 : decode cX12_track 4 = .ok (.iload_n 1, 1) := by decide +kernel
theorem dX12_track_5 : decode cX12_track 5 = .ok (.iconst 0, 1) := by decide +kernel
theorem dX12_track_6 : decode cX12_track 6 = .ok (.iadd, 1) := by decide +kernel
theorem dX12_track_7 : decode cX12_track 7 = .ok (.iload_n 2, 1) := by decide +kernel
theorem dX12_track_8 : decode cX12_track 8 = .ok (.iastore, 1) := by decide +kernel
theorem dX12_track_9 : decode cX12_track 9 = .ok (.aload_n 0, 1) := by decide +kernel
theorem dX12_track_10 : decode cX12_track 10 = .ok (.getfield 7, 3) := by decide +kernel
theorem dX12_track_13 : decode cX12_track 13 = .ok (.iload_n 1, 1) := by decide +kernel
theorem dX12_track_14 : decode cX12_track 14 = .ok (.iconst 1, 1) := by decide +kernel
theorem dX12_track_15 : decode cX12_track 15 = .ok (.iadd, 1) := by decide +kernel
theorem dX12_track_16 : decode cX12_track 16 = .ok (.iconst 0, 1) := by decide +kernel
theorem dX12_track_17 : decode cX12_track 17 = .ok (.iastore, 1) := by decide +kernel
theorem dX12_track_18 : decode cX12_track 18 = .ok (.aload_n 0, 1) := by decide +kernel
theorem dX12_track_19 : decode cX12_track 19 = .ok (.getfield 7, 3) := by decide +kernel
theorem dX12_track_22 : decode cX12_track 22 = .ok (.iload_n 1, 1) := by decide +kernel
theorem dX12_track_23 : decode cX12_track 23 = .ok (.iconst 2, 1) := by decide +kernel
theorem dX12_track_24 : decode cX12_track 24 = .ok (.iadd, 1) := by decide +kernel
theorem dX12_track_25 : decode cX12_track 25 = .ok (.iload_n 3, 1) := by decide +kernel
theorem dX12_track_26 : decode cX12_track 26 = .ok (.iastore, 1) := by decide +kernel
theorem dX12_track_27 : decode cX12_track 27 = .ok (.aload_n 0, 1) := by decide +kernel
theorem dX12_track_28 : decode cX12_track 28 = .ok (.getfield 7, 3) := by decide +kernel
theorem dX12_track_31 : decode cX12_track 31 = .ok (.iload_n 1, 1) := by decide +kernel
theorem dX12_track_32 : decode cX12_track 32 = .ok (.iconst 3, 1) := by decide +kernel
theorem dX12_track_33 : decode cX12_track 33 = .ok (.iadd, 1) := by decide +kernel
theorem dX12_track_34 : decode cX12_track 34 = .ok (.iconst 1, 1) := by decide +kernel
theorem dX12_track_35 : decode cX12_track 35 = .ok (.iastore, 1) := by decide +kernel
theorem dX12_track_36 : decode cX12_track 36 = .ok (.return_, 1) := by decide +kernel
theorem dX12_of_0 : decode cX12_of 0 = .ok (.aload_n 0, 1) := by decide +kernel
theorem dX12_of_1 : decode cX12_of 1 = .ok (.getfield 59, 3) := by decide +kernel
theorem dX12_of_4 : decode cX12_of 4 = .ok (.bipush 17, 2) := by decide +kernel
theorem dX12_of_6 : decode cX12_of 6 = .ok (.iload_n 1, 1) := by decide +kernel
theorem dX12_of_7 : decode cX12_of 7 = .ok (.imul, 1) := by decide +kernel
theorem dX12_of_8 : decode cX12_of 8 = .ok (.iload_n 2, 1) := by decide +kernel
theorem dX12_of_9 : decode cX12_of 9 = .ok (.iadd, 1) := by decide +kernel
theorem dX12_of_10 : decode cX12_of 10 = .ok (.iaload, 1) := by decide +kernel
theorem dX12_of_11 : decode cX12_of 11 = .ok (.ireturn, 1) := by decide +kernel
theorem dX12_newTransition_0 : decode cX12_newTransition 0 = .ok (.bipush 17, 2) := by decide +kernel
theorem dX12_newTransition_2 : decode cX12_newTransition 2 = .ok (.aload_n 0, 1) := by decide +kernel
theorem dX12_newTransition_3 : decode cX12_newTransition 3 = .ok (.getfield 159, 3) := by decide +kernel
theorem dX12_newTransition_6 : decode cX12_newTransition 6 = .ok (.imul, 1) := by decide +kernel
theorem dX12_newTransition_7 : decode cX12_newTransition 7 = .ok (.istore 4, 2) := by decide +kernel
theorem dX12_newTransition_9 : decode cX12_newTransition 9 = .ok (.iconst 0, 1) := by decide +kernel
theorem dX12_newTransition_10 : decode cX12_newTransition 10 = .ok (.istore 5, 2) := by decide +kernel
theorem dX12_newTransition_12 : decode cX12_newTransition 12 = .ok (.iload 5, 2) := by decide +kernel
theorem dX12_newTransition_14 : decode cX12_newTransition 14 = .ok (.bipush 17, 2) := by decide +kernel
theorem dX12_newTransition_16 : decode cX12_newTransition 16 = .ok (.if_icmp .ge 20, 3) := by decide +kernel
theorem dX12_newTransition_19 : decode cX12_newTransition 19 = .ok (.aload_n 0, 1) := by decide +kernel
theorem dX12_newTransition_20 : decode cX12_newTransition 20 = .ok (.getfield 59, 3) := by decide +kernel
theorem dX12_newTransition_23 : decode cX12_newTransition 23 = .ok (.iload 4, 2) := by decide +kernel
theorem dX12_newTransition_25 : decode cX12_newTransition 25 = .ok (.iload 5, 2) := by decide +kernel
theorem dX12_newTransition_27 : decode cX12_newTransition 27 = .ok (.iadd, 1) := by decide +kernel
theorem dX12_newTransition_28 : decode cX12_newTransition 28 = .ok (.iconst 0, 1) := by decide +kernel
theorem dX12_newTransition_29 : decode cX12_newTransition 29 = .ok (.iastore, 1) := by decide +kernel
theorem dX12_newTransition_30 : decode cX12_newTransition 30 = .ok (.iinc 5 1, 3) := by decide +kernel
theorem dX12_newTransition_33 : decode cX12_newTransition 33 = .ok (.goto (-21), 3) := by decide +kernel
theorem dX12_newTransition_36 : decode cX12_newTransition 36 = .ok (.aload_n 0, 1) := by decide +kernel
theorem dX12_newTransition_37 : decode cX12_newTransition 37 = .ok (.getfield 59, 3) := by decide +kernel
theorem dX12_newTransition_40 : decode cX12_newTransition 40 = .ok (.iload 4, 2) := by decide +kernel
theorem dX12_newTransition_42 : decode cX12_newTransition 42 = .ok (.iconst 0, 1) := by decide +kernel
theorem dX12_newTransition_43 : decode cX12_newTransition 43 = .ok (.iadd, 1) := by decide +kernel
theorem dX12_newTransition_44 : decode cX12_newTransition 44 = .ok (.iload_n 1, 1) := by decide +kernel
theorem dX12_newTransition_45 : decode cX12_newTransition 45 = .ok (.iastore, 1) := by decide +kernel
theorem dX12_newTransition_46 : decode cX12_newTransition 46 = .ok (.aload_n 0, 1) := by decide +kernel
theorem dX12_newTransition_47 : decode cX12_newTransition 47 = .ok (.getfield 59, 3) := by decide +kernel
theorem dX12_newTransition_50 : decode cX12_newTransition 50 = .ok (.iload 4, 2) := by decide +kernel
theorem dX12_newTransition_52 : decode cX12_newTransition 52 = .ok (.iconst 1, 1) := by decide +kernel
theorem dX12_newTransition_53 : decode cX12_newTransition 53 = .ok (.iadd, 1) := by decide +kernel
theorem dX12_newTransition_54 : decode cX12_newTransition 54 = .ok (.iload_n 2, 1) := by decide +kernel
theorem dX12_newTransition_55 : decode cX12_newTransition 55 = .ok (.iastore, 1) := by decide +kernel
theorem dX12_newTransition_56 : decode cX12_newTransition 56 = .ok (.aload_n 0, 1) := by decide +kernel
theorem dX12_newTransition_57 : decode cX12_newTransition 57 = .ok (.getfield 59, 3) := by decide +kernel
theorem dX12_newTransition_60 : decode cX12_newTransition 60 = .ok (.iload 4, 2) := by decide +kernel
theorem dX12_newTransition_62 : decode cX12_newTransition 62 = .ok (.iconst 2, 1) := by decide +kernel
theorem dX12_newTransition_63 : decode cX12_newTransition 63 = .ok (.iadd, 1) := by decide +kernel
theorem dX12_newTransition_64 : decode cX12_newTransition 64 = .ok (.iload_n 3, 1) := by decide +kernel
theorem dX12_newTransition_65 : decode cX12_newTransition 65 = .ok (.iastore, 1) := by decide +kernel
theorem dX12_newTransition_66 : decode cX12_newTransition 66 = .ok (.aload_n 0, 1) := by decide +kernel
theorem dX12_newTransition_67 : decode cX12_newTransition 67 = .ok (.getfield 59, 3) := by decide +kernel
theorem dX12_newTransition_70 : decode cX12_newTransition 70 = .ok (.iload 4, 2) := by decide +kernel
theorem dX12_newTransition_72 : decode cX12_newTransition 72 = .ok (.iconst 3, 1) := by decide +kernel
theorem dX12_newTransition_73 : decode cX12_newTransition 73 = .ok (.iadd, 1) := by decide +kernel
theorem dX12_newTransition_74 : decode cX12_newTransition 74 = .ok (.iconst (-1), 1) := by decide +kernel
theorem dX12_newTransition_75 : decode cX12_newTransition 75 = .ok (.iastore, 1) := by decide +kernel
theorem dX12_newTransition_76 : decode cX12_newTransition 76 = .ok (.aload_n 0, 1) := by decide +kernel
theorem dX12_newTransition_77 : decode cX12_newTransition 77 = .ok (.dup, 1) := by decide +kernel
theorem dX12_newTransition_78 : decode cX12_newTransition 78 = .ok (.getfield 159, 3) := by decide +kernel
theorem dX12_newTransition_81 : decode cX12_newTransition 81 = .ok (.iconst 1, 1) := by decide +kernel
theorem dX12_newTransition_82 : decode cX12_newTransition 82 = .ok (.iadd, 1) := by decide +kernel
theorem dX12_newTransition_83 : decode cX12_newTransition 83 = .ok (.putfield 159, 3) := by decide +kernel
theorem dX12_newTransition_86 : decode cX12_newTransition 86 = .ok (.return_, 1) := by decide +kernel
theorem dX12_addTransition_0 : decode cX12_addTransition 0 = .ok (.aload_n 0, 1) := by decide +kernel
theorem dX12_addTransition_1 : decode cX12_addTransition 1 = .ok (.iconst 0, 1) := by decide +kernel
theorem dX12_addTransition_2 : decode cX12_addTransition 2 = .ok (.putfield 94, 3) := by decide +kernel
theorem dX12_addTransition_5 : decode cX12_addTransition 5 = .ok (.iload_n 1, 1) := by decide +kernel
theorem dX12_addTransition_6 : decode cX12_addTransition 6 = .ok (.iconst (-1), 1) := by decide +kernel
theorem dX12_addTransition_7 : decode cX12_addTransition 7 = .ok (.if_icmp .eq 11, 3) := by decide +kernel
theorem dX12_addTransition_10 : decode cX12_addTransition 10 = .ok (.aload_n 0, 1) := by decide +kernel
theorem dX12_addTransition_11 : decode cX12_addTransition 11 = .ok (.iload_n 1, 1) := by decide +kernel
theorem dX12_addTransition_12 : decode cX12_addTransition 12 = .ok (.invokevirtual 162, 3) := by decide +kernel
theorem dX12_addTransition_15 : decode cX12_addTransition 15 = .ok (.ifCond .eq 11, 3) := by decide +kernel
theorem dX12_addTransition_18 : decode cX12_addTransition 18 = .ok (.aload_n 0, 1) := by decide +kernel
theorem dX12_addTransition_19 : decode cX12_addTransition 19 = .ok (.iload_n 2, 1) := by decide +kernel
theorem dX12_addTransition_20 : decode cX12_addTransition 20 = .ok (.invokevirtual 162, 3) := by decide +kernel
theorem dX12_addTransition_23 : decode cX12_addTransition 23 = .ok (.ifCond .ne 9, 3) := by decide +kernel
theorem dX12_addTransition_26 : decode cX12_addTransition 26 = .ok (.aload_n 0, 1) := by decide +kernel
theorem dX12_addTransition_27 : decode cX12_addTransition 27 = .ok (.iconst 1, 1) := by decide +kernel
theorem dX12_addTransition_28 : decode cX12_addTransition 28 = .ok (.invokevirtual 103, 3) := by decide +kernel
theorem dX12_addTransition_31 : decode cX12_addTransition 31 = .ok (.ireturn, 1) := by decide +kernel
theorem dX12_addTransition_32 : decode cX12_addTransition 32 = .ok (.iload_n 3, 1) := by decide +kernel
theorem dX12_addTransition_33 : decode cX12_addTransition 33 = .ok (.i2l, 1) := by decide +kernel
theorem dX12_addTransition_34 : decode cX12_addTransition 34 = .ok (.lconst 0, 1) := by decide +kernel
theorem dX12_addTransition_35 : decode cX12_addTransition 35 = .ok (.ldc2_w 165, 3) := by decide +kernel
theorem dX12_addTransition_38 : decode cX12_addTransition 38 = .ok (.invokestatic 99, 3) := by decide +kernel
theorem dX12_addTransition_41 : decode cX12_addTransition 41 = .ok (.ifCond .ne 9, 3) := by decide +kernel
theorem dX12_addTransition_44 : decode cX12_addTransition 44 = .ok (.aload_n 0, 1) := by decide +kernel
theorem dX12_addTransition_45 : decode cX12_addTransition 45 = .ok (.iconst 2, 1) := by decide +kernel
theorem dX12_addTransition_46 : decode cX12_addTransition 46 = .ok (.invokevirtual 103, 3) := by decide +kernel
theorem dX12_addTransition_49 : decode cX12_addTransition 49 = .ok (.ireturn, 1) := by decide +kernel
theorem dX12_addTransition_50 : decode cX12_addTransition 50 = .ok (.aload_n 0, 1) := by decide +kernel
theorem dX12_addTransition_51 : decode cX12_addTransition 51 = .ok (.getfield 159, 3) := by decide +kernel
theorem dX12_addTransition_54 : decode cX12_addTransition 54 = .ok (.bipush 24, 2) := by decide +kernel
theorem dX12_addTransition_56 : decode cX12_addTransition 56 = .ok (.if_icmp .ne 9, 3) := by decide +kernel
theorem dX12_addTransition_59 : decode cX12_addTransition 59 = .ok (.aload_n 0, 1) := by decide +kernel
theorem dX12_addTransition_60 : decode cX12_addTransition 60 = .ok (.iconst 3, 1) := by decide +kernel
theorem dX12_addTransition_61 : decode cX12_addTransition 61 = .ok (.invokevirtual 103, 3) := by decide +kernel
theorem dX12_addTransition_64 : decode cX12_addTransition 64 = .ok (.ireturn, 1) := by decide +kernel
theorem dX12_addTransition_65 : decode cX12_addTransition 65 = .ok (.aload_n 0, 1) := by decide +kernel
theorem dX12_addTransition_66 : decode cX12_addTransition 66 = .ok (.iload_n 1, 1) := by decide +kernel
theorem dX12_addTransition_67 : decode cX12_addTransition 67 = .ok (.iload_n 2, 1) := by decide +kernel
theorem dX12_addTransition_68 : decode cX12_addTransition 68 = .ok (.iload_n 3, 1) := by decide +kernel
theorem dX12_addTransition_69 : decode cX12_addTransition 69 = .ok (.invokevirtual 167, 3) := by decide +kernel
theorem dX12_addTransition_72 : decode cX12_addTransition 72 = .ok (.aload_n 0, 1) := by decide +kernel
theorem dX12_addTransition_73 : decode cX12_addTransition 73 = .ok (.getfield 159, 3) := by decide +kernel
theorem dX12_addTransition_76 : decode cX12_addTransition 76 = .ok (.iconst 1, 1) := by decide +kernel
theorem dX12_addTransition_77 : decode cX12_addTransition 77 = .ok (.isub, 1) := by decide +kernel
theorem dX12_addTransition_78 : decode cX12_addTransition 78 = .ok (.ireturn, 1) := by decide +kernel
theorem dX12_isTransition_0 : decode cX12_isTransition 0 = .ok (.iload_n 1, 1) := by decide +kernel
theorem dX12_isTransition_1 : decode cX12_isTransition 1 = .ok (.i2l, 1) := by decide +kernel
theorem dX12_isTransition_2 : decode cX12_isTransition 2 = .ok (.lconst 0, 1) := by decide +kernel
theorem dX12_isTransition_3 : decode cX12_isTransition 3 = .ok (.aload_n 0, 1) := by decide +kernel
theorem dX12_isTransition_4 : decode cX12_isTransition 4 = .ok (.getfield 159, 3) := by decide +kernel
theorem dX12_isTransition_7 : decode cX12_isTransition 7 = .ok (.iconst 1, 1) := by decide +kernel
theorem dX12_isTransition_8 : decode cX12_isTransition 8 = .ok (.isub, 1) := by decide +kernel
theorem dX12_isTransition_9 : decode cX12_isTransition 9 = .ok (.i2l, 1) := by decide +kernel
theorem dX12_isTransition_10 : decode cX12_isTransition 10 = .ok (.invokestatic 99, 3) := by decide +kernel
theorem dX12_isTransition_13 : decode cX12_isTransition 13 = .ok (.ireturn, 1) := by decide +kernel
theorem dX12_setTiming_0 : decode cX12_setTiming 0 = .ok (.aload_n 0, 1) := by decide +kernel
theorem dX12_setTiming_1 : decode cX12_setTiming 1 = .ok (.iconst 0, 1) := by decide +kernel
theorem dX12_setTiming_2 : decode cX12_setTiming 2 = .ok (.putfield 94, 3) := by decide +kernel
theorem dX12_setTiming_5 : decode cX12_setTiming 5 = .ok (.aload_n 0, 1) := by decide +kernel
theorem dX12_setTiming_6 : decode cX12_setTiming 6 = .ok (.iload_n 1, 1) := by decide +kernel
theorem dX12_setTiming_7 : decode cX12_setTiming 7 = .ok (.invokevirtual 170, 3) := by decide +kernel
theorem dX12_setTiming_10 : decode cX12_setTiming 10 = .ok (.ifCond .ne 9, 3) := by decide +kernel
theorem dX12_setTiming_13 : decode cX12_setTiming 13 = .ok (.aload_n 0, 1) := by decide +kernel
theorem dX12_setTiming_14 : decode cX12_setTiming 14 = .ok (.iconst 1, 1) := by decide +kernel
theorem dX12_setTiming_15 : decode cX12_setTiming 15 = .ok (.invokevirtual 103, 3) := by decide +kernel
theorem dX12_setTiming_18 : decode cX12_setTiming 18 = .ok (.ireturn, 1) := by decide +kernel
theorem dX12_setTiming_19 : decode cX12_setTiming 19 = .ok (.iload_n 2, 1) := by decide +kernel
theorem dX12_setTiming_20 : decode cX12_setTiming 20 = .ok (.i2l, 1) := by decide +kernel
theorem dX12_setTiming_21 : decode cX12_setTiming 21 = .ok (.ldc2_w 173, 3) := by decide +kernel
theorem dX12_setTiming_24 : decode cX12_setTiming 24 = .ok (.ldc2_w 175, 3) := by decide +kernel
theorem dX12_setTiming_27 : decode cX12_setTiming 27 = .ok (.invokestatic 99, 3) := by decide +kernel
theorem dX12_setTiming_30 : decode cX12_setTiming 30 = .ok (.ifCond .eq 15, 3) := by decide +kernel
theorem dX12_setTiming_33 : decode cX12_setTiming 33 = .ok (.iload_n 3, 1) := by decide +kernel
theorem dX12_setTiming_34 : decode cX12_setTiming 34 = .ok (.i2l, 1) := by decide +kernel
theorem dX12_setTiming_35 : decode cX12_setTiming 35 = .ok (.lconst 0, 1) := by decide +kernel
theorem dX12_setTiming_36 : decode cX12_setTiming 36 = .ok (.ldc2_w 126, 3) := by decide +kernel
theorem dX12_setTiming_39 : decode cX12_setTiming 39 = .ok (.invokestatic 99, 3) := by decide +kernel
theorem dX12_setTiming_42 : decode cX12_setTiming 42 = .ok (.ifCond .ne 9, 3) := by decide +kernel
theorem dX12_setTiming_45 : decode cX12_setTiming 45 = .ok (.aload_n 0, 1) := by decide +kernel
theorem dX12_setTiming_46 : decode cX12_setTiming 46 = .ok (.iconst 2, 1) := by decide +kernel
theorem dX12_setTiming_47 : decode cX12_setTiming 47 = .ok (.invokevirtual 103, 3) := by decide +kernel
theorem dX12_setTiming_50 : decode cX12_setTiming 50 = .ok (.ireturn, 1) := by decide +kernel
theorem dX12_setTiming_51 : decode cX12_setTiming 51 = .ok (.iload_n 2, 1) := by decide +kernel
theorem dX12_setTiming_52 : decode cX12_setTiming 52 = .ok (.iconst (-1), 1) := by decide +kernel
theorem dX12_setTiming_53 : decode cX12_setTiming 53 = .ok (.if_icmp .eq 19, 3) := by decide +kernel
theorem dX12_setTiming_56 : decode cX12_setTiming 56 = .ok (.aload_n 0, 1) := by decide +kernel
theorem dX12_setTiming_57 : decode cX12_setTiming 57 = .ok (.iload_n 1, 1) := by decide +kernel
theorem dX12_setTiming_58 : decode cX12_setTiming 58 = .ok (.iconst 0, 1) := by decide +kernel
theorem dX12_setTiming_59 : decode cX12_setTiming 59 = .ok (.invokevirtual 177, 3) := by decide +kernel
theorem dX12_setTiming_62 : decode cX12_setTiming 62 = .ok (.iconst (-1), 1) := by decide +kernel
theorem dX12_setTiming_63 : decode cX12_setTiming 63 = .ok (.if_icmp .ne 9, 3) := by decide +kernel
theorem dX12_setTiming_66 : decode cX12_setTiming 66 = .ok (.aload_n 0, 1) := by decide +kernel
theorem dX12_setTiming_67 : decode cX12_setTiming 67 = .ok (.iconst 3, 1) := by decide +kernel
theorem dX12_setTiming_68 : decode cX12_setTiming 68 = .ok (.invokevirtual 103, 3) := by decide +kernel
theorem dX12_setTiming_71 : decode cX12_setTiming 71 = .ok (.ireturn, 1) := by decide +kernel
theorem dX12_setTiming_72 : decode cX12_setTiming 72 = .ok (.aload_n 0, 1) := by decide +kernel
theorem dX12_setTiming_73 : decode cX12_setTiming 73 = .ok (.iload_n 1, 1) := by decide +kernel
theorem dX12_setTiming_74 : decode cX12_setTiming 74 = .ok (.iconst 3, 1) := by decide +kernel
theorem dX12_setTiming_75 : decode cX12_setTiming 75 = .ok (.invokevirtual 177, 3) := by decide +kernel
theorem dX12_setTiming_78 : decode cX12_setTiming 78 = .ok (.istore 4, 2) := by decide +kernel
theorem dX12_setTiming_80 : decode cX12_setTiming 80 = .ok (.aload_n 0, 1) := by decide +kernel
theorem dX12_setTiming_81 : decode cX12_setTiming 81 = .ok (.getfield 59, 3) := by decide +kernel
theorem dX12_setTiming_84 : decode cX12_setTiming 84 = .ok (.bipush 17, 2) := by decide +kernel
theorem dX12_setTiming_86 : decode cX12_setTiming 86 = .ok (.iload_n 1, 1) := by decide +kernel
theorem dX12_setTiming_87 : decode cX12_setTiming 87 = .ok (.imul, 1) := by decide +kernel
theorem dX12_setTiming_88 : decode cX12_setTiming 88 = .ok (.iconst 3, 1) := by decide +kernel
theorem dX12_setTiming_89 : decode cX12_setTiming 89 = .ok (.iadd, 1) := by decide +kernel
theorem dX12_setTiming_90 : decode cX12_setTiming 90 = .ok (.iload_n 2, 1) := by decide +kernel
theorem dX12_setTiming_91 : decode cX12_setTiming 91 = .ok (.iastore, 1) := by decide +kernel
theorem dX12_setTiming_92 : decode cX12_setTiming 92 = .ok (.aload_n 0, 1) := by decide +kernel
theorem dX12_setTiming_93 : decode cX12_setTiming 93 = .ok (.getfield 59, 3) := by decide +kernel
theorem dX12_setTiming_96 : decode cX12_setTiming 96 = .ok (.bipush 17, 2) := by decide +kernel
theorem dX12_setTiming_98 : decode cX12_setTiming 98 = .ok (.iload_n 1, 1) := by decide +kernel
theorem dX12_setTiming_99 : decode cX12_setTiming 99 = .ok (.imul, 1) := by decide +kernel
theorem dX12_setTiming_100 : decode cX12_setTiming 100 = .ok (.iconst 4, 1) := by decide +kernel
theorem dX12_setTiming_101 : decode cX12_setTiming 101 = .ok (.iadd, 1) := by decide +kernel
theorem dX12_setTiming_102 : decode cX12_setTiming 102 = .ok (.iload_n 3, 1) := by decide +kernel
theorem dX12_setTiming_103 : decode cX12_setTiming 103 = .ok (.iastore, 1) := by decide +kernel
theorem dX12_setTiming_104 : decode cX12_setTiming 104 = .ok (.iload 4, 2) := by decide +kernel
theorem dX12_setTiming_106 : decode cX12_setTiming 106 = .ok (.ireturn, 1) := by decide +kernel
theorem dX12_setInterruption_0 : decode cX12_setInterruption 0 = .ok (.aload_n 0, 1) := by decide +kernel
theorem dX12_setInterruption_1 : decode cX12_setInterruption 1 = .ok (.iconst 0, 1) := by decide +kernel
theorem dX12_setInterruption_2 : decode cX12_setInterruption 2 = .ok (.putfield 94, 3) := by decide +kernel
theorem dX12_setInterruption_5 : decode cX12_setInterruption 5 = .ok (.aload_n 0, 1) := by decide +kernel
theorem dX12_setInterruption_6 : decode cX12_setInterruption 6 = .ok (.iload_n 1, 1) := by decide +kernel
theorem dX12_setInterruption_7 : decode cX12_setInterruption 7 = .ok (.invokevirtual 170, 3) := by decide +kernel
theorem dX12_setInterruption_10 : decode cX12_setInterruption 10 = .ok (.ifCond .ne 9, 3) := by decide +kernel
theorem dX12_setInterruption_13 : decode cX12_setInterruption 13 = .ok (.aload_n 0, 1) := by decide +kernel
theorem dX12_setInterruption_14 : decode cX12_setInterruption 14 = .ok (.iconst 1, 1) := by decide +kernel
theorem dX12_setInterruption_15 : decode cX12_setInterruption 15 = .ok (.invokevirtual 103, 3) := by decide +kernel
theorem dX12_setInterruption_18 : decode cX12_setInterruption 18 = .ok (.ireturn, 1) := by decide +kernel
theorem dX12_setInterruption_19 : decode cX12_setInterruption 19 = .ok (.iload_n 2, 1) := by decide +kernel
theorem dX12_setInterruption_20 : decode cX12_setInterruption 20 = .ok (.i2l, 1) := by decide +kernel
theorem dX12_setInterruption_21 : decode cX12_setInterruption 21 = .ok (.lconst 0, 1) := by decide +kernel
theorem dX12_setInterruption_22 : decode cX12_setInterruption 22 = .ok (.ldc2_w 180, 3) := by decide +kernel
theorem dX12_setInterruption_25 : decode cX12_setInterruption 25 = .ok (.invokestatic 99, 3) := by decide +kernel
theorem dX12_setInterruption_28 : decode cX12_setInterruption 28 = .ok (.ifCond .ne 9, 3) := by decide +kernel
theorem dX12_setInterruption_31 : decode cX12_setInterruption 31 = .ok (.aload_n 0, 1) := by decide +kernel
theorem dX12_setInterruption_32 : decode cX12_setInterruption 32 = .ok (.iconst 2, 1) := by decide +kernel
theorem dX12_setInterruption_33 : decode cX12_setInterruption 33 = .ok (.invokevirtual 103, 3) := by decide +kernel
theorem dX12_setInterruption_36 : decode cX12_setInterruption 36 = .ok (.ireturn, 1) := by decide +kernel
theorem dX12_setInterruption_37 : decode cX12_setInterruption 37 = .ok (.aload_n 0, 1) := by decide +kernel
theorem dX12_setInterruption_38 : decode cX12_setInterruption 38 = .ok (.iload_n 1, 1) := by decide +kernel
theorem dX12_setInterruption_39 : decode cX12_setInterruption 39 = .ok (.iconst 5, 1) := by decide +kernel
theorem dX12_setInterruption_40 : decode cX12_setInterruption 40 = .ok (.invokevirtual 177, 3) := by decide +kernel
theorem dX12_setInterruption_43 : decode cX12_setInterruption 43 = .ok (.istore 4, 2) := by decide +kernel
theorem dX12_setInterruption_45 : decode cX12_setInterruption 45 = .ok (.aload_n 0, 1) := by decide +kernel
theorem dX12_setInterruption_46 : decode cX12_setInterruption 46 = .ok (.getfield 59, 3) := by decide +kernel
theorem dX12_setInterruption_49 : decode cX12_setInterruption 49 = .ok (.bipush 17, 2) := by decide +kernel
theorem dX12_setInterruption_51 : decode cX12_setInterruption 51 = .ok (.iload_n 1, 1) := by decide +kernel
theorem dX12_setInterruption_52 : decode cX12_setInterruption 52 = .ok (.imul, 1) := by decide +kernel
theorem dX12_setInterruption_53 : decode cX12_setInterruption 53 = .ok (.iconst 5, 1) := by decide +kernel
theorem dX12_setInterruption_54 : decode cX12_setInterruption 54 = .ok (.iadd, 1) := by decide +kernel
theorem dX12_setInterruption_55 : decode cX12_setInterruption 55 = .ok (.iload_n 2, 1) := by decide +kernel
theorem dX12_setInterruption_56 : decode cX12_setInterruption 56 = .ok (.iastore, 1) := by decide +kernel
theorem dX12_setInterruption_57 : decode cX12_setInterruption 57 = .ok (.aload_n 0, 1) := by decide +kernel
theorem dX12_setInterruption_58 : decode cX12_setInterruption 58 = .ok (.getfield 59, 3) := by decide +kernel
theorem dX12_setInterruption_61 : decode cX12_setInterruption 61 = .ok (.bipush 17, 2) := by decide +kernel
theorem dX12_setInterruption_63 : decode cX12_setInterruption 63 = .ok (.iload_n 1, 1) := by decide +kernel
theorem dX12_setInterruption_64 : decode cX12_setInterruption 64 = .ok (.imul, 1) := by decide +kernel
theorem dX12_setInterruption_65 : decode cX12_setInterruption 65 = .ok (.bipush 6, 2) := by decide +kernel
theorem dX12_setInterruption_67 : decode cX12_setInterruption 67 = .ok (.iadd, 1) := by decide +kernel
theorem dX12_setInterruption_68 : decode cX12_setInterruption 68 = .ok (.iload_n 3, 1) := by decide +kernel
theorem dX12_setInterruption_69 : decode cX12_setInterruption 69 = .ok (.ifCond .eq 7, 3) := by decide +kernel
theorem dX12_setInterruption_72 : decode cX12_setInterruption 72 = .ok (.iconst 1, 1) := by decide +kernel
theorem dX12_setInterruption_73 : decode cX12_setInterruption 73 = .ok (.goto 4, 3) := by decide +kernel
theorem dX12_setInterruption_76 : decode cX12_setInterruption 76 = .ok (.iconst 0, 1) := by decide +kernel
theorem dX12_setInterruption_77 : decode cX12_setInterruption 77 = .ok (.iastore, 1) := by decide +kernel
theorem dX12_setInterruption_78 : decode cX12_setInterruption 78 = .ok (.iload 4, 2) := by decide +kernel
theorem dX12_setInterruption_80 : decode cX12_setInterruption 80 = .ok (.ireturn, 1) := by decide +kernel
theorem dX12_condition_0 : decode cX12_condition 0 = .ok (.bipush 17, 2) := by decide +kernel
theorem dX12_condition_2 : decode cX12_condition 2 = .ok (.iload_n 1, 1) := by decide +kernel
theorem dX12_condition_3 : decode cX12_condition 3 = .ok (.imul, 1) := by decide +kernel
theorem dX12_condition_4 : decode cX12_condition 4 = .ok (.bipush 8, 2) := by decide +kernel
theorem dX12_condition_6 : decode cX12_condition 6 = .ok (.iadd, 1) := by decide +kernel
theorem dX12_condition_7 : decode cX12_condition 7 = .ok (.iconst 3, 1) := by decide +kernel
theorem dX12_condition_8 : decode cX12_condition 8 = .ok (.aload_n 0, 1) := by decide +kernel
theorem dX12_condition_9 : decode cX12_condition 9 = .ok (.iload_n 1, 1) := by decide +kernel
theorem dX12_condition_10 : decode cX12_condition 10 = .ok (.bipush 7, 2) := by decide +kernel
theorem dX12_condition_12 : decode cX12_condition 12 = .ok (.invokevirtual 177, 3) := by decide +kernel
theorem dX12_condition_15 : decode cX12_condition 15 = .ok (.imul, 1) := by decide +kernel
theorem dX12_condition_16 : decode cX12_condition 16 = .ok (.iadd, 1) := by decide +kernel
theorem dX12_condition_17 : decode cX12_condition 17 = .ok (.istore 5, 2) := by decide +kernel
theorem dX12_condition_19 : decode cX12_condition 19 = .ok (.aload_n 0, 1) := by decide +kernel
theorem dX12_condition_20 : decode cX12_condition 20 = .ok (.getfield 59, 3) := by decide +kernel
theorem dX12_condition_23 : decode cX12_condition 23 = .ok (.iload 5, 2) := by decide +kernel
theorem dX12_condition_25 : decode cX12_condition 25 = .ok (.iload_n 2, 1) := by decide +kernel
theorem dX12_condition_26 : decode cX12_condition 26 = .ok (.iastore, 1) := by decide +kernel
theorem dX12_condition_27 : decode cX12_condition 27 = .ok (.aload_n 0, 1) := by decide +kernel
theorem dX12_condition_28 : decode cX12_condition 28 = .ok (.getfield 59, 3) := by decide +kernel
theorem dX12_condition_31 : decode cX12_condition 31 = .ok (.iload 5, 2) := by decide +kernel
theorem dX12_condition_33 : decode cX12_condition 33 = .ok (.iconst 1, 1) := by decide +kernel
theorem dX12_condition_34 : decode cX12_condition 34 = .ok (.iadd, 1) := by decide +kernel
theorem dX12_condition_35 : decode cX12_condition 35 = .ok (.iload_n 3, 1) := by decide +kernel
theorem dX12_condition_36 : decode cX12_condition 36 = .ok (.iastore, 1) := by decide +kernel
theorem dX12_condition_37 : decode cX12_condition 37 = .ok (.aload_n 0, 1) := by decide +kernel
theorem dX12_condition_38 : decode cX12_condition 38 = .ok (.getfield 59, 3) := by decide +kernel
theorem dX12_condition_41 : decode cX12_condition 41 = .ok (.iload 5, 2) := by decide +kernel
theorem dX12_condition_43 : decode cX12_condition 43 = .ok (.iconst 2, 1) := by decide +kernel
theorem dX12_condition_44 : decode cX12_condition 44 = .ok (.iadd, 1) := by decide +kernel
theorem dX12_condition_45 : decode cX12_condition 45 = .ok (.iload 4, 2) := by decide +kernel
theorem dX12_condition_47 : decode cX12_condition 47 = .ok (.iastore, 1) := by decide +kernel
theorem dX12_condition_48 : decode cX12_condition 48 = .ok (.aload_n 0, 1) := by decide +kernel
theorem dX12_condition_49 : decode cX12_condition 49 = .ok (.getfield 59, 3) := by decide +kernel
theorem dX12_condition_52 : decode cX12_condition 52 = .ok (.bipush 17, 2) := by decide +kernel
theorem dX12_condition_54 : decode cX12_condition 54 = .ok (.iload_n 1, 1) := by decide +kernel
theorem dX12_condition_55 : decode cX12_condition 55 = .ok (.imul, 1) := by decide +kernel
theorem dX12_condition_56 : decode cX12_condition 56 = .ok (.bipush 7, 2) := by decide +kernel
theorem dX12_condition_58 : decode cX12_condition 58 = .ok (.iadd, 1) := by decide +kernel
theorem dX12_condition_59 : decode cX12_condition 59 = .ok (.dup2, 1) := by decide +kernel
theorem dX12_condition_60 : decode cX12_condition 60 = .ok (.iaload, 1) := by decide +kernel
theorem dX12_condition_61 : decode cX12_condition 61 = .ok (.iconst 1, 1) := by decide +kernel
theorem dX12_condition_62 : decode cX12_condition 62 = .ok (.iadd, 1) := by decide +kernel
theorem dX12_condition_63 : decode cX12_condition 63 = .ok (.iastore, 1) := by decide +kernel
theorem dX12_condition_64 : decode cX12_condition 64 = .ok (.return_, 1) := by decide +kernel
theorem dX12_addCondition_0 : decode cX12_addCondition 0 = .ok (.aload_n 0, 1) := by decide +kernel
theorem dX12_addCondition_1 : decode cX12_addCondition 1 = .ok (.iconst 0, 1) := by decide +kernel
theorem dX12_addCondition_2 : decode cX12_addCondition 2 = .ok (.putfield 94, 3) := by decide +kernel
theorem dX12_addCondition_5 : decode cX12_addCondition 5 = .ok (.aload_n 0, 1) := by decide +kernel
theorem dX12_addCondition_6 : decode cX12_addCondition 6 = .ok (.iload_n 1, 1) := by decide +kernel
theorem dX12_addCondition_7 : decode cX12_addCondition 7 = .ok (.invokevirtual 170, 3) := by decide +kernel
theorem dX12_addCondition_10 : decode cX12_addCondition 10 = .ok (.ifCond .eq 11, 3) := by decide +kernel
theorem dX12_addCondition_13 : decode cX12_addCondition 13 = .ok (.aload_n 0, 1) := by decide +kernel
theorem dX12_addCondition_14 : decode cX12_addCondition 14 = .ok (.iload_n 2, 1) := by decide +kernel
theorem dX12_addCondition_15 : decode cX12_addCondition 15 = .ok (.invokevirtual 110, 3) := by decide +kernel
theorem dX12_addCondition_18 : decode cX12_addCondition 18 = .ok (.ifCond .ne 9, 3) := by decide +kernel
theorem dX12_addCondition_21 : decode cX12_addCondition 21 = .ok (.aload_n 0, 1) := by decide +kernel
theorem dX12_addCondition_22 : decode cX12_addCondition 22 = .ok (.iconst 1, 1) := by decide +kernel
theorem dX12_addCondition_23 : decode cX12_addCondition 23 = .ok (.invokevirtual 103, 3) := by decide +kernel
theorem dX12_addCondition_26 : decode cX12_addCondition 26 = .ok (.ireturn, 1) := by decide +kernel
theorem dX12_addCondition_27 : decode cX12_addCondition 27 = .ok (.aload_n 0, 1) := by decide +kernel
theorem dX12_addCondition_28 : decode cX12_addCondition 28 = .ok (.getfield 17, 3) := by decide +kernel
theorem dX12_addCondition_31 : decode cX12_addCondition 31 = .ok (.iload_n 2, 1) := by decide +kernel
theorem dX12_addCondition_32 : decode cX12_addCondition 32 = .ok (.iaload, 1) := by decide +kernel
theorem dX12_addCondition_33 : decode cX12_addCondition 33 = .ok (.istore 5, 2) := by decide +kernel
theorem dX12_addCondition_35 : decode cX12_addCondition 35 = .ok (.iload 5, 2) := by decide +kernel
theorem dX12_addCondition_37 : decode cX12_addCondition 37 = .ok (.ifCond .ne 38, 3) := by decide +kernel
theorem dX12_addCondition_40 : decode cX12_addCondition 40 = .ok (.iload_n 3, 1) := by decide +kernel
theorem dX12_addCondition_41 : decode cX12_addCondition 41 = .ok (.i2l, 1) := by decide +kernel
theorem dX12_addCondition_42 : decode cX12_addCondition 42 = .ok (.lconst 0, 1) := by decide +kernel
theorem dX12_addCondition_43 : decode cX12_addCondition 43 = .ok (.ldc2_w 150, 3) := by decide +kernel
theorem dX12_addCondition_46 : decode cX12_addCondition 46 = .ok (.invokestatic 99, 3) := by decide +kernel
theorem dX12_addCondition_49 : decode cX12_addCondition 49 = .ok (.ifCond .eq 22, 3) := by decide +kernel
theorem dX12_addCondition_52 : decode cX12_addCondition 52 = .ok (.iload 4, 2) := by decide +kernel
theorem dX12_addCondition_54 : decode cX12_addCondition 54 = .ok (.i2l, 1) := by decide +kernel
theorem dX12_addCondition_55 : decode cX12_addCondition 55 = .ok (.ldc2_w 114, 3) := by decide +kernel
theorem dX12_addCondition_58 : decode cX12_addCondition 58 = .ok (.ldc2_w 116, 3) := by decide +kernel
theorem dX12_addCondition_61 : decode cX12_addCondition 61 = .ok (.invokestatic 99, 3) := by decide +kernel
theorem dX12_addCondition_64 : decode cX12_addCondition 64 = .ok (.ifCond .eq 7, 3) := by decide +kernel
theorem dX12_addCondition_67 : decode cX12_addCondition 67 = .ok (.iconst 1, 1) := by decide +kernel
theorem dX12_addCondition_68 : decode cX12_addCondition 68 = .ok (.goto 38, 3) := by decide +kernel
theorem dX12_addCondition_71 : decode cX12_addCondition 71 = .ok (.iconst 0, 1) := by decide +kernel
theorem dX12_addCondition_72 : decode cX12_addCondition 72 = .ok (.goto 34, 3) := by decide +kernel
theorem dX12_addCondition_75 : decode cX12_addCondition 75 = .ok (.iload_n 3, 1) := by decide +kernel
theorem dX12_addCondition_76 : decode cX12_addCondition 76 = .ok (.iconst 2, 1) := by decide +kernel
theorem dX12_addCondition_77 : decode cX12_addCondition 77 = .ok (.if_icmp .ne 28, 3) := by decide +kernel
theorem dX12_addCondition_80 : decode cX12_addCondition 80 = .ok (.iload 4, 2) := by decide +kernel
theorem dX12_addCondition_82 : decode cX12_addCondition 82 = .ok (.i2l, 1) := by decide +kernel
theorem dX12_addCondition_83 : decode cX12_addCondition 83 = .ok (.iload 5, 2) := by decide +kernel
theorem dX12_addCondition_85 : decode cX12_addCondition 85 = .ok (.iconst 1, 1) := by decide +kernel
theorem dX12_addCondition_86 : decode cX12_addCondition 86 = .ok (.if_icmp .ne 7, 3) := by decide +kernel
theorem dX12_addCondition_89 : decode cX12_addCondition 89 = .ok (.lconst 0, 1) := by decide +kernel
theorem dX12_addCondition_90 : decode cX12_addCondition 90 = .ok (.goto 4, 3) := by decide +kernel
theorem dX12_addCondition_93 : decode cX12_addCondition 93 = .ok (.lconst 1, 1) := by decide +kernel
theorem dX12_addCondition_94 : decode cX12_addCondition 94 = .ok (.lconst 1, 1) := by decide +kernel
theorem dX12_addCondition_95 : decode cX12_addCondition 95 = .ok (.invokestatic 99, 3) := by decide +kernel
theorem dX12_addCondition_98 : decode cX12_addCondition 98 = .ok (.ifCond .eq 7, 3) := by decide +kernel
theorem dX12_addCondition_101 : decode cX12_addCondition 101 = .ok (.iconst 1, 1) := by decide +kernel
theorem dX12_addCondition_102 : decode cX12_addCondition 102 = .ok (.goto 4, 3) := by decide +kernel
theorem dX12_addCondition_105 : decode cX12_addCondition 105 = .ok (.iconst 0, 1) := by decide +kernel
theorem dX12_addCondition_106 : decode cX12_addCondition 106 = .ok (.istore 6, 2) := by decide +kernel
theorem dX12_addCondition_108 : decode cX12_addCondition 108 = .ok (.iload 6, 2) := by decide +kernel
theorem dX12_addCondition_110 : decode cX12_addCondition 110 = .ok (.ifCond .ne 9, 3) := by decide +kernel
theorem dX12_addCondition_113 : decode cX12_addCondition 113 = .ok (.aload_n 0, 1) := by decide +kernel
theorem dX12_addCondition_114 : decode cX12_addCondition 114 = .ok (.iconst 2, 1) := by decide +kernel
theorem dX12_addCondition_115 : decode cX12_addCondition 115 = .ok (.invokevirtual 103, 3) := by decide +kernel
theorem dX12_addCondition_118 : decode cX12_addCondition 118 = .ok (.ireturn, 1) := by decide +kernel
theorem dX12_addCondition_119 : decode cX12_addCondition 119 = .ok (.aload_n 0, 1) := by decide +kernel
theorem dX12_addCondition_120 : decode cX12_addCondition 120 = .ok (.iload_n 1, 1) := by decide +kernel
theorem dX12_addCondition_121 : decode cX12_addCondition 121 = .ok (.bipush 7, 2) := by decide +kernel
theorem dX12_addCondition_123 : decode cX12_addCondition 123 = .ok (.invokevirtual 177, 3) := by decide +kernel
theorem dX12_addCondition_126 : decode cX12_addCondition 126 = .ok (.iconst 3, 1) := by decide +kernel
theorem dX12_addCondition_127 : decode cX12_addCondition 127 = .ok (.if_icmp .ne 9, 3) := by decide +kernel
theorem dX12_addCondition_130 : decode cX12_addCondition 130 = .ok (.aload_n 0, 1) := by decide +kernel
theorem dX12_addCondition_131 : decode cX12_addCondition 131 = .ok (.iconst 3, 1) := by decide +kernel
theorem dX12_addCondition_132 : decode cX12_addCondition 132 = .ok (.invokevirtual 103, 3) := by decide +kernel
theorem dX12_addCondition_135 : decode cX12_addCondition 135 = .ok (.ireturn, 1) := by decide +kernel
theorem dX12_addCondition_136 : decode cX12_addCondition 136 = .ok (.aload_n 0, 1) := by decide +kernel
theorem dX12_addCondition_137 : decode cX12_addCondition 137 = .ok (.iload_n 1, 1) := by decide +kernel
theorem dX12_addCondition_138 : decode cX12_addCondition 138 = .ok (.iload_n 2, 1) := by decide +kernel
theorem dX12_addCondition_139 : decode cX12_addCondition 139 = .ok (.iload_n 3, 1) := by decide +kernel
theorem dX12_addCondition_140 : decode cX12_addCondition 140 = .ok (.iload 4, 2) := by decide +kernel
theorem dX12_addCondition_142 : decode cX12_addCondition 142 = .ok (.invokevirtual 182, 3) := by decide +kernel
theorem dX12_addCondition_145 : decode cX12_addCondition 145 = .ok (.aload_n 0, 1) := by decide +kernel
theorem dX12_addCondition_146 : decode cX12_addCondition 146 = .ok (.iload_n 1, 1) := by decide +kernel
theorem dX12_addCondition_147 : decode cX12_addCondition 147 = .ok (.bipush 7, 2) := by decide +kernel
theorem dX12_addCondition_149 : decode cX12_addCondition 149 = .ok (.invokevirtual 177, 3) := by decide +kernel
theorem dX12_addCondition_152 : decode cX12_addCondition 152 = .ok (.ireturn, 1) := by decide +kernel
theorem dX12_setThreshold_0 : decode cX12_setThreshold 0 = .ok (.aload_n 0, 1) := by decide +kernel
theorem dX12_setThreshold_1 : decode cX12_setThreshold 1 = .ok (.iconst 0, 1) := by decide +kernel
theorem dX12_setThreshold_2 : decode cX12_setThreshold 2 = .ok (.putfield 94, 3) := by decide +kernel
theorem dX12_setThreshold_5 : decode cX12_setThreshold 5 = .ok (.iload_n 1, 1) := by decide +kernel
theorem dX12_setThreshold_6 : decode cX12_setThreshold 6 = .ok (.i2l, 1) := by decide +kernel
theorem dX12_setThreshold_7 : decode cX12_setThreshold 7 = .ok (.lconst 0, 1) := by decide +kernel
theorem dX12_setThreshold_8 : decode cX12_setThreshold 8 = .ok (.ldc2_w 116, 3) := by decide +kernel
theorem dX12_setThreshold_11 : decode cX12_setThreshold 11 = .ok (.invokestatic 99, 3) := by decide +kernel
theorem dX12_setThreshold_14 : decode cX12_setThreshold 14 = .ok (.ifCond .ne 9, 3) := by decide +kernel
theorem dX12_setThreshold_17 : decode cX12_setThreshold 17 = .ok (.aload_n 0, 1) := by decide +kernel
theorem dX12_setThreshold_18 : decode cX12_setThreshold 18 = .ok (.iconst 1, 1) := by decide +kernel
theorem dX12_setThreshold_19 : decode cX12_setThreshold 19 = .ok (.invokevirtual 103, 3) := by decide +kernel
theorem dX12_setThreshold_22 : decode cX12_setThreshold 22 = .ok (.ireturn, 1) := by decide +kernel
theorem dX12_setThreshold_23 : decode cX12_setThreshold 23 = .ok (.aload_n 0, 1) := by decide +kernel
theorem dX12_setThreshold_24 : decode cX12_setThreshold 24 = .ok (.getfield 62, 3) := by decide +kernel
theorem dX12_setThreshold_27 : decode cX12_setThreshold 27 = .ok (.istore_n 2, 1) := by decide +kernel
theorem dX12_setThreshold_28 : decode cX12_setThreshold 28 = .ok (.aload_n 0, 1) := by decide +kernel
theorem dX12_setThreshold_29 : decode cX12_setThreshold 29 = .ok (.iload_n 1, 1) := by decide +kernel
theorem dX12_setThreshold_30 : decode cX12_setThreshold 30 = .ok (.putfield 62, 3) := by decide +kernel
theorem dX12_setThreshold_33 : decode cX12_setThreshold 33 = .ok (.iload_n 2, 1) := by decide +kernel
theorem dX12_setThreshold_34 : decode cX12_setThreshold 34 = .ok (.ireturn, 1) := by decide +kernel
theorem dX12_type_0 : decode cX12_type 0 = .ok (.aload_n 0, 1) := by decide +kernel
theorem dX12_type_1 : decode cX12_type 1 = .ok (.iconst 0, 1) := by decide +kernel
theorem dX12_type_2 : decode cX12_type 2 = .ok (.putfield 94, 3) := by decide +kernel
theorem dX12_type_5 : decode cX12_type 5 = .ok (.iload_n 1, 1) := by decide +kernel
theorem dX12_type_6 : decode cX12_type 6 = .ok (.i2l, 1) := by decide +kernel
theorem dX12_type_7 : decode cX12_type 7 = .ok (.lconst 0, 1) := by decide +kernel
theorem dX12_type_8 : decode cX12_type 8 = .ok (.ldc2_w 186, 3) := by decide +kernel
theorem dX12_type_11 : decode cX12_type 11 = .ok (.invokestatic 99, 3) := by decide +kernel
theorem dX12_type_14 : decode cX12_type 14 = .ok (.ifCond .ne 9, 3) := by decide +kernel
theorem dX12_type_17 : decode cX12_type 17 = .ok (.aload_n 0, 1) := by decide +kernel
theorem dX12_type_18 : decode cX12_type 18 = .ok (.iconst 1, 1) := by decide +kernel
theorem dX12_type_19 : decode cX12_type 19 = .ok (.invokevirtual 103, 3) := by decide +kernel
theorem dX12_type_22 : decode cX12_type 22 = .ok (.ireturn, 1) := by decide +kernel
theorem dX12_type_23 : decode cX12_type 23 = .ok (.aload_n 0, 1) := by decide +kernel
theorem dX12_type_24 : decode cX12_type 24 = .ok (.getfield 188, 3) := by decide +kernel
theorem dX12_type_27 : decode cX12_type 27 = .ok (.sipush 150, 3) := by decide +kernel
theorem dX12_type_30 : decode cX12_type 30 = .ok (.if_icmp .ne 9, 3) := by decide +kernel
theorem dX12_type_33 : decode cX12_type 33 = .ok (.aload_n 0, 1) := by decide +kernel
theorem dX12_type_34 : decode cX12_type 34 = .ok (.iconst 2, 1) := by decide +kernel
theorem dX12_type_35 : decode cX12_type 35 = .ok (.invokevirtual 103, 3) := by decide +kernel
theorem dX12_type_38 : decode cX12_type 38 = .ok (.ireturn, 1) := by decide +kernel
theorem dX12_type_39 : decode cX12_type 39 = .ok (.aload_n 0, 1) := by decide +kernel
theorem dX12_type_40 : decode cX12_type 40 = .ok (.getfield 66, 3) := by decide +kernel
theorem dX12_type_43 : decode cX12_type 43 = .ok (.aload_n 0, 1) := by decide +kernel
theorem dX12_type_44 : decode cX12_type 44 = .ok (.getfield 188, 3) := by decide +kernel
theorem dX12_type_47 : decode cX12_type 47 = .ok (.iload_n 1, 1) := by decide +kernel
theorem dX12_type_48 : decode cX12_type 48 = .ok (.iastore, 1) := by decide +kernel
theorem dX12_type_49 : decode cX12_type 49 = .ok (.aload_n 0, 1) := by decide +kernel
theorem dX12_type_50 : decode cX12_type 50 = .ok (.dup, 1) := by decide +kernel
theorem dX12_type_51 : decode cX12_type 51 = .ok (.getfield 188, 3) := by decide +kernel
theorem dX12_type_54 : decode cX12_type 54 = .ok (.iconst 1, 1) := by decide +kernel
theorem dX12_type_55 : decode cX12_type 55 = .ok (.iadd, 1) := by decide +kernel
theorem dX12_type_56 : decode cX12_type 56 = .ok (.putfield 188, 3) := by decide +kernel
theorem dX12_type_59 : decode cX12_type 59 = .ok (.aload_n 0, 1) := by decide +kernel
theorem dX12_type_60 : decode cX12_type 60 = .ok (.getfield 188, 3) := by decide +kernel
theorem dX12_type_63 : decode cX12_type 63 = .ok (.ireturn, 1) := by decide +kernel
theorem dX12_clearText_0 : decode cX12_clearText 0 = .ok (.aload_n 0, 1) := by decide +kernel
theorem dX12_clearText_1 : decode cX12_clearText 1 = .ok (.iconst 0, 1) := by decide +kernel
theorem dX12_clearText_2 : decode cX12_clearText 2 = .ok (.putfield 94, 3) := by decide +kernel
theorem dX12_clearText_5 : decode cX12_clearText 5 = .ok (.aload_n 0, 1) := by decide +kernel
theorem dX12_clearText_6 : decode cX12_clearText 6 = .ok (.getfield 188, 3) := by decide +kernel
theorem dX12_clearText_9 : decode cX12_clearText 9 = .ok (.istore_n 1, 1) := by decide +kernel
theorem dX12_clearText_10 : decode cX12_clearText 10 = .ok (.aload_n 0, 1) := by decide +kernel
theorem dX12_clearText_11 : decode cX12_clearText 11 = .ok (.iconst 0, 1) := by decide +kernel
theorem dX12_clearText_12 : decode cX12_clearText 12 = .ok (.putfield 188, 3) := by decide +kernel
theorem dX12_clearText_15 : decode cX12_clearText 15 = .ok (.iload_n 1, 1) := by decide +kernel
theorem dX12_clearText_16 : decode cX12_clearText 16 = .ok (.ireturn, 1) := by decide +kernel
theorem dX12_skips_0 : decode cX12_skips 0 = .ok (.aload_n 0, 1) := by decide +kernel
theorem dX12_skips_1 : decode cX12_skips 1 = .ok (.getfield 191, 3) := by decide +kernel
theorem dX12_skips_4 : decode cX12_skips 4 = .ok (.aload_n 0, 1) := by decide +kernel
theorem dX12_skips_5 : decode cX12_skips 5 = .ok (.getfield 188, 3) := by decide +kernel
theorem dX12_skips_8 : decode cX12_skips 8 = .ok (.if_icmp .ge 30, 3) := by decide +kernel
theorem dX12_skips_11 : decode cX12_skips 11 = .ok (.aload_n 0, 1) := by decide +kernel
theorem dX12_skips_12 : decode cX12_skips 12 = .ok (.getfield 66, 3) := by decide +kernel
theorem dX12_skips_15 : decode cX12_skips 15 = .ok (.aload_n 0, 1) := by decide +kernel
theorem dX12_skips_16 : decode cX12_skips 16 = .ok (.getfield 191, 3) := by decide +kernel
theorem dX12_skips_19 : decode cX12_skips 19 = .ok (.iaload, 1) := by decide +kernel
theorem dX12_skips_20 : decode cX12_skips 20 = .ok (.bipush 32, 2) := by decide +kernel
theorem dX12_skips_22 : decode cX12_skips 22 = .ok (.if_icmp .ne 16, 3) := by decide +kernel
theorem dX12_skips_25 : decode cX12_skips 25 = .ok (.aload_n 0, 1) := by decide +kernel
theorem dX12_skips_26 : decode cX12_skips 26 = .ok (.dup, 1) := by decide +kernel
theorem dX12_skips_27 : decode cX12_skips 27 = .ok (.getfield 191, 3) := by decide +kernel
theorem dX12_skips_30 : decode cX12_skips 30 = .ok (.iconst 1, 1) := by decide +kernel
theorem dX12_skips_31 : decode cX12_skips 31 = .ok (.iadd, 1) := by decide +kernel
theorem dX12_skips_32 : decode cX12_skips 32 = .ok (.putfield 191, 3) := by decide +kernel
theorem dX12_skips_35 : decode cX12_skips 35 = .ok (.goto (-35), 3) := by decide +kernel
theorem dX12_skips_38 : decode cX12_skips 38 = .ok (.return_, 1) := by decide +kernel
theorem dX12_here_0 : decode cX12_here 0 = .ok (.aload_n 0, 1) := by decide +kernel
theorem dX12_here_1 : decode cX12_here 1 = .ok (.getfield 191, 3) := by decide +kernel
theorem dX12_here_4 : decode cX12_here 4 = .ok (.aload_n 0, 1) := by decide +kernel
theorem dX12_here_5 : decode cX12_here 5 = .ok (.getfield 188, 3) := by decide +kernel
theorem dX12_here_8 : decode cX12_here 8 = .ok (.if_icmp .ge 20, 3) := by decide +kernel
theorem dX12_here_11 : decode cX12_here 11 = .ok (.aload_n 0, 1) := by decide +kernel
theorem dX12_here_12 : decode cX12_here 12 = .ok (.getfield 66, 3) := by decide +kernel
theorem dX12_here_15 : decode cX12_here 15 = .ok (.aload_n 0, 1) := by decide +kernel
theorem dX12_here_16 : decode cX12_here 16 = .ok (.getfield 191, 3) := by decide +kernel
theorem dX12_here_19 : decode cX12_here 19 = .ok (.iaload, 1) := by decide +kernel
theorem dX12_here_20 : decode cX12_here 20 = .ok (.iload_n 1, 1) := by decide +kernel
theorem dX12_here_21 : decode cX12_here 21 = .ok (.if_icmp .ne 7, 3) := by decide +kernel
theorem dX12_here_24 : decode cX12_here 24 = .ok (.iconst 1, 1) := by decide +kernel
theorem dX12_here_25 : decode cX12_here 25 = .ok (.goto 4, 3) := by decide +kernel
theorem dX12_here_28 : decode cX12_here 28 = .ok (.iconst 0, 1) := by decide +kernel
theorem dX12_here_29 : decode cX12_here 29 = .ok (.ireturn, 1) := by decide +kernel
theorem dX12_reads_0 : decode cX12_reads 0 = .ok (.aload_n 0, 1) := by decide +kernel
theorem dX12_reads_1 : decode cX12_reads 1 = .ok (.invokevirtual 194, 3) := by decide +kernel
theorem dX12_reads_4 : decode cX12_reads 4 = .ok (.aload_n 0, 1) := by decide +kernel
theorem dX12_reads_5 : decode cX12_reads 5 = .ok (.aload_n 0, 1) := by decide +kernel
theorem dX12_reads_6 : decode cX12_reads 6 = .ok (.getfield 197, 3) := by decide +kernel
theorem dX12_reads_9 : decode cX12_reads 9 = .ok (.ifCond .eq 15, 3) := by decide +kernel
theorem dX12_reads_12 : decode cX12_reads 12 = .ok (.aload_n 0, 1) := by decide +kernel
theorem dX12_reads_13 : decode cX12_reads 13 = .ok (.iload_n 1, 1) := by decide +kernel
theorem dX12_reads_14 : decode cX12_reads 14 = .ok (.invokevirtual 201, 3) := by decide +kernel
theorem dX12_reads_17 : decode cX12_reads 17 = .ok (.ifCond .eq 7, 3) := by decide +kernel
theorem dX12_reads_20 : decode cX12_reads 20 = .ok (.iconst 1, 1) := by decide +kernel
theorem dX12_reads_21 : decode cX12_reads 21 = .ok (.goto 4, 3) := by decide +kernel
theorem dX12_reads_24 : decode cX12_reads 24 = .ok (.iconst 0, 1) := by decide +kernel
theorem dX12_reads_25 : decode cX12_reads 25 = .ok (.putfield 197, 3) := by decide +kernel
theorem dX12_reads_28 : decode cX12_reads 28 = .ok (.aload_n 0, 1) := by decide +kernel
theorem dX12_reads_29 : decode cX12_reads 29 = .ok (.dup, 1) := by decide +kernel
theorem dX12_reads_30 : decode cX12_reads 30 = .ok (.getfield 191, 3) := by decide +kernel
theorem dX12_reads_33 : decode cX12_reads 33 = .ok (.aload_n 0, 1) := by decide +kernel
theorem dX12_reads_34 : decode cX12_reads 34 = .ok (.getfield 197, 3) := by decide +kernel
theorem dX12_reads_37 : decode cX12_reads 37 = .ok (.ifCond .eq 7, 3) := by decide +kernel
theorem dX12_reads_40 : decode cX12_reads 40 = .ok (.iconst 1, 1) := by decide +kernel
theorem dX12_reads_41 : decode cX12_reads 41 = .ok (.goto 4, 3) := by decide +kernel
theorem dX12_reads_44 : decode cX12_reads 44 = .ok (.iconst 0, 1) := by decide +kernel
theorem dX12_reads_45 : decode cX12_reads 45 = .ok (.iadd, 1) := by decide +kernel
theorem dX12_reads_46 : decode cX12_reads 46 = .ok (.putfield 191, 3) := by decide +kernel
theorem dX12_reads_49 : decode cX12_reads 49 = .ok (.return_, 1) := by decide +kernel
theorem dX12_readsNumber_0 : decode cX12_readsNumber 0 = .ok (.aload_n 0, 1) := by decide +kernel
theorem dX12_readsNumber_1 : decode cX12_readsNumber 1 = .ok (.invokevirtual 194, 3) := by decide +kernel
theorem dX12_readsNumber_4 : decode cX12_readsNumber 4 = .ok (.aload_n 0, 1) := by decide +kernel
theorem dX12_readsNumber_5 : decode cX12_readsNumber 5 = .ok (.getfield 191, 3) := by decide +kernel
theorem dX12_readsNumber_8 : decode cX12_readsNumber 8 = .ok (.istore_n 2, 1) := by decide +kernel
theorem dX12_readsNumber_9 : decode cX12_readsNumber 9 = .ok (.iconst 0, 1) := by decide +kernel
theorem dX12_readsNumber_10 : decode cX12_readsNumber 10 = .ok (.istore_n 3, 1) := by decide +kernel
theorem dX12_readsNumber_11 : decode cX12_readsNumber 11 = .ok (.iconst 0, 1) := by decide +kernel
theorem dX12_readsNumber_12 : decode cX12_readsNumber 12 = .ok (.istore 4, 2) := by decide +kernel
theorem dX12_readsNumber_14 : decode cX12_readsNumber 14 = .ok (.aload_n 0, 1) := by decide +kernel
theorem dX12_readsNumber_15 : decode cX12_readsNumber 15 = .ok (.getfield 197, 3) := by decide +kernel
theorem dX12_readsNumber_18 : decode cX12_readsNumber 18 = .ok (.ifCond .eq 79, 3) := by decide +kernel
theorem dX12_readsNumber_21 : decode cX12_readsNumber 21 = .ok (.aload_n 0, 1) := by decide +kernel
theorem dX12_readsNumber_22 : decode cX12_readsNumber 22 = .ok (.getfield 191, 3) := by decide +kernel
theorem dX12_readsNumber_25 : decode cX12_readsNumber 25 = .ok (.iload 4, 2) := by decide +kernel
theorem dX12_readsNumber_27 : decode cX12_readsNumber 27 = .ok (.iadd, 1) := by decide +kernel
theorem dX12_readsNumber_28 : decode cX12_readsNumber 28 = .ok (.aload_n 0, 1) := by decide +kernel
theorem dX12_readsNumber_29 : decode cX12_readsNumber 29 = .ok (.getfield 188, 3) := by decide +kernel
theorem dX12_readsNumber_32 : decode cX12_readsNumber 32 = .ok (.if_icmp .ge 65, 3) := by decide +kernel
theorem dX12_readsNumber_35 : decode cX12_readsNumber 35 = .ok (.aload_n 0, 1) := by decide +kernel
theorem dX12_readsNumber_36 : decode cX12_readsNumber 36 = .ok (.getfield 66, 3) := by decide +kernel
theorem dX12_readsNumber_39 : decode cX12_readsNumber 39 = .ok (.aload_n 0, 1) := by decide +kernel
theorem dX12_readsNumber_40 : decode cX12_readsNumber 40 = .ok (.getfield 191, 3) := by decide +kernel
theorem dX12_readsNumber_43 : decode cX12_readsNumber 43 = .ok (.iload 4, 2) := by decide +kernel
theorem dX12_readsNumber_45 : decode cX12_readsNumber 45 = .ok (.iadd, 1) := by decide +kernel
theorem dX12_readsNumber_46 : decode cX12_readsNumber 46 = .ok (.iaload, 1) := by decide +kernel
theorem dX12_readsNumber_47 : decode cX12_readsNumber 47 = .ok (.i2l, 1) := by decide +kernel
theorem dX12_readsNumber_48 : decode cX12_readsNumber 48 = .ok (.ldc2_w 204, 3) := by decide +kernel
theorem dX12_readsNumber_51 : decode cX12_readsNumber 51 = .ok (.ldc2_w 206, 3) := by decide +kernel
theorem dX12_readsNumber_54 : decode cX12_readsNumber 54 = .ok (.invokestatic 99, 3) := by decide +kernel
theorem dX12_readsNumber_57 : decode cX12_readsNumber 57 = .ok (.ifCond .eq 40, 3) := by decide +kernel
theorem dX12_readsNumber_60 : decode cX12_readsNumber 60 = .ok (.iload 4, 2) := by decide +kernel
theorem dX12_readsNumber_62 : decode cX12_readsNumber 62 = .ok (.iconst 4, 1) := by decide +kernel
theorem dX12_readsNumber_63 : decode cX12_readsNumber 63 = .ok (.if_icmp .ge 26, 3) := by decide +kernel
theorem dX12_readsNumber_66 : decode cX12_readsNumber 66 = .ok (.bipush 10, 2) := by decide +kernel
theorem dX12_readsNumber_68 : decode cX12_readsNumber 68 = .ok (.iload_n 3, 1) := by decide +kernel
theorem dX12_readsNumber_69 : decode cX12_readsNumber 69 = .ok (.imul, 1) := by decide +kernel
theorem dX12_readsNumber_70 : decode cX12_readsNumber 70 = .ok (.aload_n 0, 1) := by decide +kernel
theorem dX12_readsNumber_71 : decode cX12_readsNumber 71 = .ok (.getfield 66, 3) := by decide +kernel
theorem dX12_readsNumber_74 : decode cX12_readsNumber 74 = .ok (.aload_n 0, 1) := by decide +kernel
theorem dX12_readsNumber_75 : decode cX12_readsNumber 75 = .ok (.getfield 191, 3) := by decide +kernel
theorem dX12_readsNumber_78 : decode cX12_readsNumber 78 = .ok (.iload 4, 2) := by decide +kernel
theorem dX12_readsNumber_80 : decode cX12_readsNumber 80 = .ok (.iadd, 1) := by decide +kernel
theorem dX12_readsNumber_81 : decode cX12_readsNumber 81 = .ok (.iaload, 1) := by decide +kernel
theorem dX12_readsNumber_82 : decode cX12_readsNumber 82 = .ok (.iadd, 1) := by decide +kernel
theorem dX12_readsNumber_83 : decode cX12_readsNumber 83 = .ok (.bipush 48, 2) := by decide +kernel
theorem dX12_readsNumber_85 : decode cX12_readsNumber 85 = .ok (.isub, 1) := by decide +kernel
theorem dX12_readsNumber_86 : decode cX12_readsNumber 86 = .ok (.goto 4, 3) := by decide +kernel
theorem dX12_readsNumber_89 : decode cX12_readsNumber 89 = .ok (.iload_n 3, 1) := by decide +kernel
theorem dX12_readsNumber_90 : decode cX12_readsNumber 90 = .ok (.istore_n 3, 1) := by decide +kernel
theorem dX12_readsNumber_91 : decode cX12_readsNumber 91 = .ok (.iinc 4 1, 3) := by decide +kernel
theorem dX12_readsNumber_94 : decode cX12_readsNumber 94 = .ok (.goto (-80), 3) := by decide +kernel
theorem dX12_readsNumber_97 : decode cX12_readsNumber 97 = .ok (.aload_n 0, 1) := by decide +kernel
theorem dX12_readsNumber_98 : decode cX12_readsNumber 98 = .ok (.aload_n 0, 1) := by decide +kernel
theorem dX12_readsNumber_99 : decode cX12_readsNumber 99 = .ok (.getfield 197, 3) := by decide +kernel
theorem dX12_readsNumber_102 : decode cX12_readsNumber 102 = .ok (.ifCond .eq 23, 3) := by decide +kernel
theorem dX12_readsNumber_105 : decode cX12_readsNumber 105 = .ok (.iload 4, 2) := by decide +kernel
theorem dX12_readsNumber_107 : decode cX12_readsNumber 107 = .ok (.ifCond .le 18, 3) := by decide +kernel
theorem dX12_readsNumber_110 : decode cX12_readsNumber 110 = .ok (.iload 4, 2) := by decide +kernel
theorem dX12_readsNumber_112 : decode cX12_readsNumber 112 = .ok (.iconst 3, 1) := by decide +kernel
theorem dX12_readsNumber_113 : decode cX12_readsNumber 113 = .ok (.if_icmp .gt 12, 3) := by decide +kernel
theorem dX12_readsNumber_116 : decode cX12_readsNumber 116 = .ok (.iload_n 3, 1) := by decide +kernel
theorem dX12_readsNumber_117 : decode cX12_readsNumber 117 = .ok (.iload_n 1, 1) := by decide +kernel
theorem dX12_readsNumber_118 : decode cX12_readsNumber 118 = .ok (.if_icmp .gt 7, 3) := by decide +kernel
theorem dX12_readsNumber_121 : decode cX12_readsNumber 121 = .ok (.iconst 1, 1) := by decide +kernel
theorem dX12_readsNumber_122 : decode cX12_readsNumber 122 = .ok (.goto 4, 3) := by decide +kernel
theorem dX12_readsNumber_125 : decode cX12_readsNumber 125 = .ok (.iconst 0, 1) := by decide +kernel
theorem dX12_readsNumber_126 : decode cX12_readsNumber 126 = .ok (.putfield 197, 3) := by decide +kernel
theorem dX12_readsNumber_129 : decode cX12_readsNumber 129 = .ok (.aload_n 0, 1) := by decide +kernel
theorem dX12_readsNumber_130 : decode cX12_readsNumber 130 = .ok (.aload_n 0, 1) := by decide +kernel
theorem dX12_readsNumber_131 : decode cX12_readsNumber 131 = .ok (.getfield 197, 3) := by decide +kernel
theorem dX12_readsNumber_134 : decode cX12_readsNumber 134 = .ok (.ifCond .eq 10, 3) := by decide +kernel
theorem dX12_readsNumber_137 : decode cX12_readsNumber 137 = .ok (.iload_n 2, 1) := by decide +kernel
theorem dX12_readsNumber_138 : decode cX12_readsNumber 138 = .ok (.iload 4, 2) := by decide +kernel
theorem dX12_readsNumber_140 : decode cX12_readsNumber 140 = .ok (.iadd, 1) := by decide +kernel
theorem dX12_readsNumber_141 : decode cX12_readsNumber 141 = .ok (.goto 4, 3) := by decide +kernel
theorem dX12_readsNumber_144 : decode cX12_readsNumber 144 = .ok (.iload_n 2, 1) := by decide +kernel
theorem dX12_readsNumber_145 : decode cX12_readsNumber 145 = .ok (.putfield 191, 3) := by decide +kernel
theorem dX12_readsNumber_148 : decode cX12_readsNumber 148 = .ok (.aload_n 0, 1) := by decide +kernel
theorem dX12_readsNumber_149 : decode cX12_readsNumber 149 = .ok (.iload_n 3, 1) := by decide +kernel
theorem dX12_readsNumber_150 : decode cX12_readsNumber 150 = .ok (.putfield 208, 3) := by decide +kernel
theorem dX12_readsNumber_153 : decode cX12_readsNumber 153 = .ok (.return_, 1) := by decide +kernel
theorem dX12_readsState_0 : decode cX12_readsState 0 = .ok (.aload_n 0, 1) := by decide +kernel
theorem dX12_readsState_1 : decode cX12_readsState 1 = .ok (.invokevirtual 194, 3) := by decide +kernel
theorem dX12_readsState_4 : decode cX12_readsState 4 = .ok (.iload_n 1, 1) := by decide +kernel
theorem dX12_readsState_5 : decode cX12_readsState 5 = .ok (.ifCond .eq 16, 3) := by decide +kernel
theorem dX12_readsState_8 : decode cX12_readsState 8 = .ok (.aload_n 0, 1) := by decide +kernel
theorem dX12_readsState_9 : decode cX12_readsState 9 = .ok (.bipush 42, 2) := by decide +kernel
theorem dX12_readsState_11 : decode cX12_readsState 11 = .ok (.invokevirtual 201, 3) := by decide +kernel
theorem dX12_readsState_14 : decode cX12_readsState 14 = .ok (.ifCond .eq 7, 3) := by decide +kernel
theorem dX12_readsState_17 : decode cX12_readsState 17 = .ok (.iconst (-1), 1) := by decide +kernel
theorem dX12_readsState_18 : decode cX12_readsState 18 = .ok (.goto 31, 3) := by decide +kernel
theorem dX12_readsState_21 : decode cX12_readsState 21 = .ok (.aload_n 0, 1) := by decide +kernel
theorem dX12_readsState_22 : decode cX12_readsState 22 = .ok (.getfield 191, 3) := by decide +kernel
theorem dX12_readsState_25 : decode cX12_readsState 25 = .ok (.aload_n 0, 1) := by decide +kernel
theorem dX12_readsState_26 : decode cX12_readsState 26 = .ok (.getfield 188, 3) := by decide +kernel
theorem dX12_readsState_29 : decode cX12_readsState 29 = .ok (.if_icmp .ge 18, 3) := by decide +kernel
theorem dX12_readsState_32 : decode cX12_readsState 32 = .ok (.aload_n 0, 1) := by decide +kernel
theorem dX12_readsState_33 : decode cX12_readsState 33 = .ok (.getfield 66, 3) := by decide +kernel
theorem dX12_readsState_36 : decode cX12_readsState 36 = .ok (.aload_n 0, 1) := by decide +kernel
theorem dX12_readsState_37 : decode cX12_readsState 37 = .ok (.getfield 191, 3) := by decide +kernel
theorem dX12_readsState_40 : decode cX12_readsState 40 = .ok (.iaload, 1) := by decide +kernel
theorem dX12_readsState_41 : decode cX12_readsState 41 = .ok (.bipush 65, 2) := by decide +kernel
theorem dX12_readsState_43 : decode cX12_readsState 43 = .ok (.isub, 1) := by decide +kernel
theorem dX12_readsState_44 : decode cX12_readsState 44 = .ok (.goto 5, 3) := by decide +kernel
theorem dX12_readsState_47 : decode cX12_readsState 47 = .ok (.bipush 99, 2) := by decide +kernel
theorem dX12_readsState_49 : decode cX12_readsState 49 = .ok (.istore_n 2, 1) := by decide +kernel
theorem dX12_readsState_50 : decode cX12_readsState 50 = .ok (.aload_n 0, 1) := by decide +kernel
theorem dX12_readsState_51 : decode cX12_readsState 51 = .ok (.aload_n 0, 1) := by decide +kernel
theorem dX12_readsState_52 : decode cX12_readsState 52 = .ok (.getfield 197, 3) := by decide +kernel
theorem dX12_readsState_55 : decode cX12_readsState 55 = .ok (.ifCond .eq 39, 3) := by decide +kernel
theorem dX12_readsState_58 : decode cX12_readsState 58 = .ok (.aload_n 0, 1) := by decide +kernel
theorem dX12_readsState_59 : decode cX12_readsState 59 = .ok (.getfield 191, 3) := by decide +kernel
theorem dX12_readsState_62 : decode cX12_readsState 62 = .ok (.aload_n 0, 1) := by decide +kernel
theorem dX12_readsState_63 : decode cX12_readsState 63 = .ok (.getfield 188, 3) := by decide +kernel
theorem dX12_readsState_66 : decode cX12_readsState 66 = .ok (.if_icmp .ge 28, 3) := by decide +kernel
theorem dX12_readsState_69 : decode cX12_readsState 69 = .ok (.iload_n 1, 1) := by decide +kernel
theorem dX12_readsState_70 : decode cX12_readsState 70 = .ok (.ifCond .eq 12, 3) := by decide +kernel
theorem dX12_readsState_73 : decode cX12_readsState 73 = .ok (.aload_n 0, 1) := by decide +kernel
theorem dX12_readsState_74 : decode cX12_readsState 74 = .ok (.bipush 42, 2) := by decide +kernel
theorem dX12_readsState_76 : decode cX12_readsState 76 = .ok (.invokevirtual 201, 3) := by decide +kernel
theorem dX12_readsState_79 : decode cX12_readsState 79 = .ok (.ifCond .ne 11, 3) := by decide +kernel
theorem dX12_readsState_82 : decode cX12_readsState 82 = .ok (.aload_n 0, 1) := by decide +kernel
theorem dX12_readsState_83 : decode cX12_readsState 83 = .ok (.iload_n 2, 1) := by decide +kernel
theorem dX12_readsState_84 : decode cX12_readsState 84 = .ok (.invokevirtual 162, 3) := by decide +kernel
theorem dX12_readsState_87 : decode cX12_readsState 87 = .ok (.ifCond .eq 7, 3) := by decide +kernel
theorem dX12_readsState_90 : decode cX12_readsState 90 = .ok (.iconst 1, 1) := by decide +kernel
theorem dX12_readsState_91 : decode cX12_readsState 91 = .ok (.goto 4, 3) := by decide +kernel
theorem dX12_readsState_94 : decode cX12_readsState 94 = .ok (.iconst 0, 1) := by decide +kernel
theorem dX12_readsState_95 : decode cX12_readsState 95 = .ok (.putfield 197, 3) := by decide +kernel
theorem dX12_readsState_98 : decode cX12_readsState 98 = .ok (.aload_n 0, 1) := by decide +kernel
theorem dX12_readsState_99 : decode cX12_readsState 99 = .ok (.dup, 1) := by decide +kernel
theorem dX12_readsState_100 : decode cX12_readsState 100 = .ok (.getfield 191, 3) := by decide +kernel
theorem dX12_readsState_103 : decode cX12_readsState 103 = .ok (.aload_n 0, 1) := by decide +kernel
theorem dX12_readsState_104 : decode cX12_readsState 104 = .ok (.getfield 197, 3) := by decide +kernel
theorem dX12_readsState_107 : decode cX12_readsState 107 = .ok (.ifCond .eq 7, 3) := by decide +kernel
theorem dX12_readsState_110 : decode cX12_readsState 110 = .ok (.iconst 1, 1) := by decide +kernel
theorem dX12_readsState_111 : decode cX12_readsState 111 = .ok (.goto 4, 3) := by decide +kernel
theorem dX12_readsState_114 : decode cX12_readsState 114 = .ok (.iconst 0, 1) := by decide +kernel
theorem dX12_readsState_115 : decode cX12_readsState 115 = .ok (.iadd, 1) := by decide +kernel
theorem dX12_readsState_116 : decode cX12_readsState 116 = .ok (.putfield 191, 3) := by decide +kernel
theorem dX12_readsState_119 : decode cX12_readsState 119 = .ok (.iload_n 2, 1) := by decide +kernel
theorem dX12_readsState_120 : decode cX12_readsState 120 = .ok (.ireturn, 1) := by decide +kernel
theorem dX12_readsTransition_0 : decode cX12_readsTransition 0 = .ok (.aload_n 0, 1) := by decide +kernel
theorem dX12_readsTransition_1 : decode cX12_readsTransition 1 = .ok (.invokevirtual 194, 3) := by decide +kernel
theorem dX12_readsTransition_4 : decode cX12_readsTransition 4 = .ok (.aload_n 0, 1) := by decide +kernel
theorem dX12_readsTransition_5 : decode cX12_readsTransition 5 = .ok (.aload_n 0, 1) := by decide +kernel
theorem dX12_readsTransition_6 : decode cX12_readsTransition 6 = .ok (.getfield 191, 3) := by decide +kernel
theorem dX12_readsTransition_9 : decode cX12_readsTransition 9 = .ok (.aload_n 0, 1) := by decide +kernel
theorem dX12_readsTransition_10 : decode cX12_readsTransition 10 = .ok (.getfield 188, 3) := by decide +kernel
theorem dX12_readsTransition_13 : decode cX12_readsTransition 13 = .ok (.if_icmp .ge 32, 3) := by decide +kernel
theorem dX12_readsTransition_16 : decode cX12_readsTransition 16 = .ok (.aload_n 0, 1) := by decide +kernel
theorem dX12_readsTransition_17 : decode cX12_readsTransition 17 = .ok (.getfield 159, 3) := by decide +kernel
theorem dX12_readsTransition_20 : decode cX12_readsTransition 20 = .ok (.aload_n 0, 1) := by decide +kernel
theorem dX12_readsTransition_21 : decode cX12_readsTransition 21 = .ok (.getfield 211, 3) := by decide +kernel
theorem dX12_readsTransition_24 : decode cX12_readsTransition 24 = .ok (.ifCond .eq 7, 3) := by decide +kernel
theorem dX12_readsTransition_27 : decode cX12_readsTransition 27 = .ok (.iconst 0, 1) := by decide +kernel
theorem dX12_readsTransition_28 : decode cX12_readsTransition 28 = .ok (.goto 7, 3) := by decide +kernel
theorem dX12_readsTransition_31 : decode cX12_readsTransition 31 = .ok (.aload_n 0, 1) := by decide +kernel
theorem dX12_readsTransition_32 : decode cX12_readsTransition 32 = .ok (.getfield 214, 3) := by decide +kernel
theorem dX12_readsTransition_35 : decode cX12_readsTransition 35 = .ok (.iadd, 1) := by decide +kernel
theorem dX12_readsTransition_36 : decode cX12_readsTransition 36 = .ok (.bipush 24, 2) := by decide +kernel
theorem dX12_readsTransition_38 : decode cX12_readsTransition 38 = .ok (.if_icmp .ge 7, 3) := by decide +kernel
theorem dX12_readsTransition_41 : decode cX12_readsTransition 41 = .ok (.iconst 1, 1) := by decide +kernel
theorem dX12_readsTransition_42 : decode cX12_readsTransition 42 = .ok (.goto 4, 3) := by decide +kernel
theorem dX12_readsTransition_45 : decode cX12_readsTransition 45 = .ok (.iconst 0, 1) := by decide +kernel
theorem dX12_readsTransition_46 : decode cX12_readsTransition 46 = .ok (.putfield 197, 3) := by decide +kernel
theorem dX12_readsTransition_49 : decode cX12_readsTransition 49 = .ok (.aload_n 0, 1) := by decide +kernel
theorem dX12_readsTransition_50 : decode cX12_readsTransition 50 = .ok (.iconst 1, 1) := by decide +kernel
theorem dX12_readsTransition_51 : decode cX12_readsTransition 51 = .ok (.invokevirtual 217, 3) := by decide +kernel
theorem dX12_readsTransition_54 : decode cX12_readsTransition 54 = .ok (.istore_n 1, 1) := by decide +kernel
theorem dX12_readsTransition_55 : decode cX12_readsTransition 55 = .ok (.aload_n 0, 1) := by decide +kernel
theorem dX12_readsTransition_56 : decode cX12_readsTransition 56 = .ok (.bipush 62, 2) := by decide +kernel
theorem dX12_readsTransition_58 : decode cX12_readsTransition 58 = .ok (.invokevirtual 221, 3) := by decide +kernel
theorem dX12_readsTransition_61 : decode cX12_readsTransition 61 = .ok (.aload_n 0, 1) := by decide +kernel
theorem dX12_readsTransition_62 : decode cX12_readsTransition 62 = .ok (.iconst 0, 1) := by decide +kernel
theorem dX12_readsTransition_63 : decode cX12_readsTransition 63 = .ok (.invokevirtual 217, 3) := by decide +kernel
theorem dX12_readsTransition_66 : decode cX12_readsTransition 66 = .ok (.istore_n 2, 1) := by decide +kernel
theorem dX12_readsTransition_67 : decode cX12_readsTransition 67 = .ok (.aload_n 0, 1) := by decide +kernel
theorem dX12_readsTransition_68 : decode cX12_readsTransition 68 = .ok (.bipush 47, 2) := by decide +kernel
theorem dX12_readsTransition_70 : decode cX12_readsTransition 70 = .ok (.invokevirtual 221, 3) := by decide +kernel
theorem dX12_readsTransition_73 : decode cX12_readsTransition 73 = .ok (.aload_n 0, 1) := by decide +kernel
theorem dX12_readsTransition_74 : decode cX12_readsTransition 74 = .ok (.bipush 60, 2) := by decide +kernel
theorem dX12_readsTransition_76 : decode cX12_readsTransition 76 = .ok (.invokevirtual 225, 3) := by decide +kernel
theorem dX12_readsTransition_79 : decode cX12_readsTransition 79 = .ok (.aload_n 0, 1) := by decide +kernel
theorem dX12_readsTransition_80 : decode cX12_readsTransition 80 = .ok (.getfield 197, 3) := by decide +kernel
theorem dX12_readsTransition_83 : decode cX12_readsTransition 83 = .ok (.ifCond .eq 20, 3) := by decide +kernel
theorem dX12_readsTransition_86 : decode cX12_readsTransition 86 = .ok (.aload_n 0, 1) := by decide +kernel
theorem dX12_readsTransition_87 : decode cX12_readsTransition 87 = .ok (.getfield 211, 3) := by decide +kernel
theorem dX12_readsTransition_90 : decode cX12_readsTransition 90 = .ok (.ifCond .eq 13, 3) := by decide +kernel
theorem dX12_readsTransition_93 : decode cX12_readsTransition 93 = .ok (.aload_n 0, 1) := by decide +kernel
theorem dX12_readsTransition_94 : decode cX12_readsTransition 94 = .ok (.iload_n 1, 1) := by decide +kernel
theorem dX12_readsTransition_95 : decode cX12_readsTransition 95 = .ok (.iload_n 2, 1) := by decide +kernel
theorem dX12_readsTransition_96 : decode cX12_readsTransition 96 = .ok (.aload_n 0, 1) := by decide +kernel
theorem dX12_readsTransition_97 : decode cX12_readsTransition 97 = .ok (.getfield 208, 3) := by decide +kernel
theorem dX12_readsTransition_100 : decode cX12_readsTransition 100 = .ok (.invokevirtual 167, 3) := by decide +kernel
theorem dX12_readsTransition_103 : decode cX12_readsTransition 103 = .ok (.aload_n 0, 1) := by decide +kernel
theorem dX12_readsTransition_104 : decode cX12_readsTransition 104 = .ok (.iload_n 1, 1) := by decide +kernel
theorem dX12_readsTransition_105 : decode cX12_readsTransition 105 = .ok (.iconst (-1), 1) := by decide +kernel
theorem dX12_readsTransition_106 : decode cX12_readsTransition 106 = .ok (.if_icmp .ne 7, 3) := by decide +kernel
theorem dX12_readsTransition_109 : decode cX12_readsTransition 109 = .ok (.iconst 1, 1) := by decide +kernel
theorem dX12_readsTransition_110 : decode cX12_readsTransition 110 = .ok (.goto 4, 3) := by decide +kernel
theorem dX12_readsTransition_113 : decode cX12_readsTransition 113 = .ok (.iconst 0, 1) := by decide +kernel
theorem dX12_readsTransition_114 : decode cX12_readsTransition 114 = .ok (.putfield 228, 3) := by decide +kernel
theorem dX12_readsTransition_117 : decode cX12_readsTransition 117 = .ok (.aload_n 0, 1) := by decide +kernel
theorem dX12_readsTransition_118 : decode cX12_readsTransition 118 = .ok (.iconst 0, 1) := by decide +kernel
theorem dX12_readsTransition_119 : decode cX12_readsTransition 119 = .ok (.putfield 231, 3) := by decide +kernel
theorem dX12_readsTransition_122 : decode cX12_readsTransition 122 = .ok (.aload_n 0, 1) := by decide +kernel
theorem dX12_readsTransition_123 : decode cX12_readsTransition 123 = .ok (.invokevirtual 194, 3) := by decide +kernel
theorem dX12_readsTransition_126 : decode cX12_readsTransition 126 = .ok (.aload_n 0, 1) := by decide +kernel
theorem dX12_readsTransition_127 : decode cX12_readsTransition 127 = .ok (.getfield 197, 3) := by decide +kernel
theorem dX12_readsTransition_130 : decode cX12_readsTransition 130 = .ok (.ifCond .eq 34, 3) := by decide +kernel
theorem dX12_readsTransition_133 : decode cX12_readsTransition 133 = .ok (.aload_n 0, 1) := by decide +kernel
theorem dX12_readsTransition_134 : decode cX12_readsTransition 134 = .ok (.getfield 191, 3) := by decide +kernel
theorem dX12_readsTransition_137 : decode cX12_readsTransition 137 = .ok (.aload_n 0, 1) := by decide +kernel
theorem dX12_readsTransition_138 : decode cX12_readsTransition 138 = .ok (.getfield 188, 3) := by decide +kernel
theorem dX12_readsTransition_141 : decode cX12_readsTransition 141 = .ok (.if_icmp .ge 23, 3) := by decide +kernel
theorem dX12_readsTransition_144 : decode cX12_readsTransition 144 = .ok (.aload_n 0, 1) := by decide +kernel
theorem dX12_readsTransition_145 : decode cX12_readsTransition 145 = .ok (.bipush 59, 2) := by decide +kernel
theorem dX12_readsTransition_147 : decode cX12_readsTransition 147 = .ok (.invokevirtual 201, 3) := by decide +kernel
theorem dX12_readsTransition_150 : decode cX12_readsTransition 150 = .ok (.ifCond .ne 14, 3) := by decide +kernel
theorem dX12_readsTransition_153 : decode cX12_readsTransition 153 = .ok (.aload_n 0, 1) := by decide +kernel
theorem dX12_readsTransition_154 : decode cX12_readsTransition 154 = .ok (.invokevirtual 234, 3) := by decide +kernel
theorem dX12_readsTransition_157 : decode cX12_readsTransition 157 = .ok (.aload_n 0, 1) := by decide +kernel
theorem dX12_readsTransition_158 : decode cX12_readsTransition 158 = .ok (.invokevirtual 194, 3) := by decide +kernel
theorem dX12_readsTransition_161 : decode cX12_readsTransition 161 = .ok (.goto (-35), 3) := by decide +kernel
theorem dX12_readsTransition_164 : decode cX12_readsTransition 164 = .ok (.return_, 1) := by decide +kernel
theorem dX12_sets_0 : decode cX12_sets 0 = .ok (.aload_n 0, 1) := by decide +kernel
theorem dX12_sets_1 : decode cX12_sets 1 = .ok (.getfield 197, 3) := by decide +kernel
theorem dX12_sets_4 : decode cX12_sets 4 = .ok (.ifCond .eq 27, 3) := by decide +kernel
theorem dX12_sets_7 : decode cX12_sets 7 = .ok (.aload_n 0, 1) := by decide +kernel
theorem dX12_sets_8 : decode cX12_sets 8 = .ok (.getfield 211, 3) := by decide +kernel
theorem dX12_sets_11 : decode cX12_sets 11 = .ok (.ifCond .eq 20, 3) := by decide +kernel
theorem dX12_sets_14 : decode cX12_sets 14 = .ok (.aload_n 0, 1) := by decide +kernel
theorem dX12_sets_15 : decode cX12_sets 15 = .ok (.getfield 59, 3) := by decide +kernel
theorem dX12_sets_18 : decode cX12_sets 18 = .ok (.bipush 17, 2) := by decide +kernel
theorem dX12_sets_20 : decode cX12_sets 20 = .ok (.aload_n 0, 1) := by decide +kernel
theorem dX12_sets_21 : decode cX12_sets 21 = .ok (.getfield 159, 3) := by decide +kernel
theorem dX12_sets_24 : decode cX12_sets 24 = .ok (.iconst 1, 1) := by decide +kernel
theorem dX12_sets_25 : decode cX12_sets 25 = .ok (.isub, 1) := by decide +kernel
theorem dX12_sets_26 : decode cX12_sets 26 = .ok (.imul, 1) := by decide +kernel
theorem dX12_sets_27 : decode cX12_sets 27 = .ok (.iload_n 1, 1) := by decide +kernel
theorem dX12_sets_28 : decode cX12_sets 28 = .ok (.iadd, 1) := by decide +kernel
theorem dX12_sets_29 : decode cX12_sets 29 = .ok (.iload_n 2, 1) := by decide +kernel
theorem dX12_sets_30 : decode cX12_sets 30 = .ok (.iastore, 1) := by decide +kernel
theorem dX12_sets_31 : decode cX12_sets 31 = .ok (.return_, 1) := by decide +kernel
theorem dX12_readsAttribute_0 : decode cX12_readsAttribute 0 = .ok (.aload_n 0, 1) := by decide +kernel
theorem dX12_readsAttribute_1 : decode cX12_readsAttribute 1 = .ok (.bipush 64, 2) := by decide +kernel
theorem dX12_readsAttribute_3 : decode cX12_readsAttribute 3 = .ok (.invokevirtual 201, 3) := by decide +kernel
theorem dX12_readsAttribute_6 : decode cX12_readsAttribute 6 = .ok (.ifCond .eq 7, 3) := by decide +kernel
theorem dX12_readsAttribute_9 : decode cX12_readsAttribute 9 = .ok (.iconst 0, 1) := by decide +kernel
theorem dX12_readsAttribute_10 : decode cX12_readsAttribute 10 = .ok (.goto 56, 3) := by decide +kernel
theorem dX12_readsAttribute_13 : decode cX12_readsAttribute 13 = .ok (.aload_n 0, 1) := by decide +kernel
theorem dX12_readsAttribute_14 : decode cX12_readsAttribute 14 = .ok (.bipush 43, 2) := by decide +kernel
theorem dX12_readsAttribute_16 : decode cX12_readsAttribute 16 = .ok (.invokevirtual 201, 3) := by decide +kernel
theorem dX12_readsAttribute_19 : decode cX12_readsAttribute 19 = .ok (.ifCond .eq 7, 3) := by decide +kernel
theorem dX12_readsAttribute_22 : decode cX12_readsAttribute 22 = .ok (.iconst 1, 1) := by decide +kernel
theorem dX12_readsAttribute_23 : decode cX12_readsAttribute 23 = .ok (.goto 43, 3) := by decide +kernel
theorem dX12_readsAttribute_26 : decode cX12_readsAttribute 26 = .ok (.aload_n 0, 1) := by decide +kernel
theorem dX12_readsAttribute_27 : decode cX12_readsAttribute 27 = .ok (.bipush 33, 2) := by decide +kernel
theorem dX12_readsAttribute_29 : decode cX12_readsAttribute 29 = .ok (.invokevirtual 201, 3) := by decide +kernel
theorem dX12_readsAttribute_32 : decode cX12_readsAttribute 32 = .ok (.ifCond .eq 7, 3) := by decide +kernel
theorem dX12_readsAttribute_35 : decode cX12_readsAttribute 35 = .ok (.iconst 2, 1) := by decide +kernel
theorem dX12_readsAttribute_36 : decode cX12_readsAttribute 36 = .ok (.goto 30, 3) := by decide +kernel
theorem dX12_readsAttribute_39 : decode cX12_readsAttribute 39 = .ok (.aload_n 0, 1) := by decide +kernel
theorem dX12_readsAttribute_40 : decode cX12_readsAttribute 40 = .ok (.bipush 111, 2) := by decide +kernel
theorem dX12_readsAttribute_42 : decode cX12_readsAttribute 42 = .ok (.invokevirtual 201, 3) := by decide +kernel
theorem dX12_readsAttribute_45 : decode cX12_readsAttribute 45 = .ok (.ifCond .eq 7, 3) := by decide +kernel
theorem dX12_readsAttribute_48 : decode cX12_readsAttribute 48 = .ok (.iconst 3, 1) := by decide +kernel
theorem dX12_readsAttribute_49 : decode cX12_readsAttribute 49 = .ok (.goto 17, 3) := by decide +kernel
theorem dX12_readsAttribute_52 : decode cX12_readsAttribute 52 = .ok (.aload_n 0, 1) := by decide +kernel
theorem dX12_readsAttribute_53 : decode cX12_readsAttribute 53 = .ok (.bipush 63, 2) := by decide +kernel
theorem dX12_readsAttribute_55 : decode cX12_readsAttribute 55 = .ok (.invokevirtual 201, 3) := by decide +kernel
theorem dX12_readsAttribute_58 : decode cX12_readsAttribute 58 = .ok (.ifCond .eq 7, 3) := by decide +kernel
theorem dX12_readsAttribute_61 : decode cX12_readsAttribute 61 = .ok (.iconst 4, 1) := by decide +kernel
theorem dX12_readsAttribute_62 : decode cX12_readsAttribute 62 = .ok (.goto 4, 3) := by decide +kernel
theorem dX12_readsAttribute_65 : decode cX12_readsAttribute 65 = .ok (.iconst 5, 1) := by decide +kernel
theorem dX12_readsAttribute_66 : decode cX12_readsAttribute 66 = .ok (.istore_n 1, 1) := by decide +kernel
theorem dX12_readsAttribute_67 : decode cX12_readsAttribute 67 = .ok (.aload_n 0, 1) := by decide +kernel
theorem dX12_readsAttribute_68 : decode cX12_readsAttribute 68 = .ok (.iload_n 1, 1) := by decide +kernel
theorem dX12_readsAttribute_69 : decode cX12_readsAttribute 69 = .ok (.iconst 4, 1) := by decide +kernel
theorem dX12_readsAttribute_70 : decode cX12_readsAttribute 70 = .ok (.if_icmp .ge 22, 3) := by decide +kernel
theorem dX12_readsAttribute_73 : decode cX12_readsAttribute 73 = .ok (.aload_n 0, 1) := by decide +kernel
theorem dX12_readsAttribute_74 : decode cX12_readsAttribute 74 = .ok (.getfield 228, 3) := by decide +kernel
theorem dX12_readsAttribute_77 : decode cX12_readsAttribute 77 = .ok (.iload_n 1, 1) := by decide +kernel
theorem dX12_readsAttribute_78 : decode cX12_readsAttribute 78 = .ok (.ishr, 1) := by decide +kernel
theorem dX12_readsAttribute_79 : decode cX12_readsAttribute 79 = .ok (.iconst 1, 1) := by decide +kernel
theorem dX12_readsAttribute_80 : decode cX12_readsAttribute 80 = .ok (.iand, 1) := by decide +kernel
theorem dX12_readsAttribute_81 : decode cX12_readsAttribute 81 = .ok (.ifCond .ne 7, 3) := by decide +kernel
theorem dX12_readsAttribute_84 : decode cX12_readsAttribute 84 = .ok (.iconst 1, 1) := by decide +kernel
theorem dX12_readsAttribute_85 : decode cX12_readsAttribute 85 = .ok (.goto 25, 3) := by decide +kernel
theorem dX12_readsAttribute_88 : decode cX12_readsAttribute 88 = .ok (.iconst 0, 1) := by decide +kernel
theorem dX12_readsAttribute_89 : decode cX12_readsAttribute 89 = .ok (.goto 21, 3) := by decide +kernel
theorem dX12_readsAttribute_92 : decode cX12_readsAttribute 92 = .ok (.iload_n 1, 1) := by decide +kernel
theorem dX12_readsAttribute_93 : decode cX12_readsAttribute 93 = .ok (.iconst 4, 1) := by decide +kernel
theorem dX12_readsAttribute_94 : decode cX12_readsAttribute 94 = .ok (.if_icmp .ne 15, 3) := by decide +kernel
theorem dX12_readsAttribute_97 : decode cX12_readsAttribute 97 = .ok (.aload_n 0, 1) := by decide +kernel
theorem dX12_readsAttribute_98 : decode cX12_readsAttribute 98 = .ok (.getfield 231, 3) := by decide +kernel
theorem dX12_readsAttribute_101 : decode cX12_readsAttribute 101 = .ok (.iconst 3, 1) := by decide +kernel
theorem dX12_readsAttribute_102 : decode cX12_readsAttribute 102 = .ok (.if_icmp .ge 7, 3) := by decide +kernel
theorem dX12_readsAttribute_105 : decode cX12_readsAttribute 105 = .ok (.iconst 1, 1) := by decide +kernel
theorem dX12_readsAttribute_106 : decode cX12_readsAttribute 106 = .ok (.goto 4, 3) := by decide +kernel
theorem dX12_readsAttribute_109 : decode cX12_readsAttribute 109 = .ok (.iconst 0, 1) := by decide +kernel
theorem dX12_readsAttribute_110 : decode cX12_readsAttribute 110 = .ok (.putfield 197, 3) := by decide +kernel
theorem dX12_readsAttribute_113 : decode cX12_readsAttribute 113 = .ok (.aload_n 0, 1) := by decide +kernel
theorem dX12_readsAttribute_114 : decode cX12_readsAttribute 114 = .ok (.getfield 197, 3) := by decide +kernel
theorem dX12_readsAttribute_117 : decode cX12_readsAttribute 117 = .ok (.ifCond .ne 4, 3) := by decide +kernel
theorem dX12_readsAttribute_120 : decode cX12_readsAttribute 120 = .ok (.return_, 1) := by decide +kernel
theorem dX12_readsAttribute_121 : decode cX12_readsAttribute 121 = .ok (.aload_n 0, 1) := by decide +kernel
theorem dX12_readsAttribute_122 : decode cX12_readsAttribute 122 = .ok (.dup, 1) := by decide +kernel
theorem dX12_readsAttribute_123 : decode cX12_readsAttribute 123 = .ok (.getfield 191, 3) := by decide +kernel
theorem dX12_readsAttribute_126 : decode cX12_readsAttribute 126 = .ok (.iconst 1, 1) := by decide +kernel
theorem dX12_readsAttribute_127 : decode cX12_readsAttribute 127 = .ok (.iadd, 1) := by decide +kernel
theorem dX12_readsAttribute_128 : decode cX12_readsAttribute 128 = .ok (.putfield 191, 3) := by decide +kernel
theorem dX12_readsAttribute_131 : decode cX12_readsAttribute 131 = .ok (.aload_n 0, 1) := by decide +kernel
theorem dX12_readsAttribute_132 : decode cX12_readsAttribute 132 = .ok (.dup, 1) := by decide +kernel
theorem dX12_readsAttribute_133 : decode cX12_readsAttribute 133 = .ok (.getfield 228, 3) := by decide +kernel
theorem dX12_readsAttribute_136 : decode cX12_readsAttribute 136 = .ok (.iload_n 1, 1) := by decide +kernel
theorem dX12_readsAttribute_137 : decode cX12_readsAttribute 137 = .ok (.iconst 4, 1) := by decide +kernel
theorem dX12_readsAttribute_138 : decode cX12_readsAttribute 138 = .ok (.if_icmp .ge 9, 3) := by decide +kernel
theorem dX12_readsAttribute_141 : decode cX12_readsAttribute 141 = .ok (.iconst 1, 1) := by decide +kernel
theorem dX12_readsAttribute_142 : decode cX12_readsAttribute 142 = .ok (.iload_n 1, 1) := by decide +kernel
theorem dX12_readsAttribute_143 : decode cX12_readsAttribute 143 = .ok (.ishl, 1) := by decide +kernel
theorem dX12_readsAttribute_144 : decode cX12_readsAttribute 144 = .ok (.goto 4, 3) := by decide +kernel
theorem dX12_readsAttribute_147 : decode cX12_readsAttribute 147 = .ok (.iconst 0, 1) := by decide +kernel
theorem dX12_readsAttribute_148 : decode cX12_readsAttribute 148 = .ok (.ior, 1) := by decide +kernel
theorem dX12_readsAttribute_149 : decode cX12_readsAttribute 149 = .ok (.putfield 228, 3) := by decide +kernel
theorem dX12_readsAttribute_152 : decode cX12_readsAttribute 152 = .ok (.iload_n 1, 1) := by decide +kernel
theorem dX12_readsAttribute_153 : decode cX12_readsAttribute 153 = .ok (.iconst 4, 1) := by decide +kernel
theorem dX12_readsAttribute_154 : decode cX12_readsAttribute 154 = .ok (.if_icmp .ne 20, 3) := by decide +kernel
theorem dX12_readsAttribute_157 : decode cX12_readsAttribute 157 = .ok (.aload_n 0, 1) := by decide +kernel
theorem dX12_readsAttribute_158 : decode cX12_readsAttribute 158 = .ok (.dup, 1) := by decide +kernel
theorem dX12_readsAttribute_159 : decode cX12_readsAttribute 159 = .ok (.getfield 231, 3) := by decide +kernel
theorem dX12_readsAttribute_162 : decode cX12_readsAttribute 162 = .ok (.iconst 1, 1) := by decide +kernel
theorem dX12_readsAttribute_163 : decode cX12_readsAttribute 163 = .ok (.iadd, 1) := by decide +kernel
theorem dX12_readsAttribute_164 : decode cX12_readsAttribute 164 = .ok (.putfield 231, 3) := by decide +kernel
theorem dX12_readsAttribute_167 : decode cX12_readsAttribute 167 = .ok (.aload_n 0, 1) := by decide +kernel
theorem dX12_readsAttribute_168 : decode cX12_readsAttribute 168 = .ok (.invokevirtual 237, 3) := by decide +kernel
theorem dX12_readsAttribute_171 : decode cX12_readsAttribute 171 = .ok (.goto 69, 3) := by decide +kernel
theorem dX12_readsAttribute_174 : decode cX12_readsAttribute 174 = .ok (.iload_n 1, 1) := by decide +kernel
theorem dX12_readsAttribute_175 : decode cX12_readsAttribute 175 = .ok (.iconst 3, 1) := by decide +kernel
theorem dX12_readsAttribute_176 : decode cX12_readsAttribute 176 = .ok (.if_icmp .ne 13, 3) := by decide +kernel
theorem dX12_readsAttribute_179 : decode cX12_readsAttribute 179 = .ok (.aload_n 0, 1) := by decide +kernel
theorem dX12_readsAttribute_180 : decode cX12_readsAttribute 180 = .ok (.bipush 6, 2) := by decide +kernel
theorem dX12_readsAttribute_182 : decode cX12_readsAttribute 182 = .ok (.iconst 1, 1) := by decide +kernel
theorem dX12_readsAttribute_183 : decode cX12_readsAttribute 183 = .ok (.invokevirtual 240, 3) := by decide +kernel
theorem dX12_readsAttribute_186 : decode cX12_readsAttribute 186 = .ok (.goto 54, 3) := by decide +kernel
theorem dX12_readsAttribute_189 : decode cX12_readsAttribute 189 = .ok (.aload_n 0, 1) := by decide +kernel
theorem dX12_readsAttribute_190 : decode cX12_readsAttribute 190 = .ok (.iload_n 1, 1) := by decide +kernel
theorem dX12_readsAttribute_191 : decode cX12_readsAttribute 191 = .ok (.ifCond .ne 9, 3) := by decide +kernel
theorem dX12_readsAttribute_194 : decode cX12_readsAttribute 194 = .ok (.sipush 300, 3) := by decide +kernel
theorem dX12_readsAttribute_197 : decode cX12_readsAttribute 197 = .ok (.goto 14, 3) := by decide +kernel
theorem dX12_readsAttribute_200 : decode cX12_readsAttribute 200 = .ok (.iload_n 1, 1) := by decide +kernel
theorem dX12_readsAttribute_201 : decode cX12_readsAttribute 201 = .ok (.iconst 1, 1) := by decide +kernel
theorem dX12_readsAttribute_202 : decode cX12_readsAttribute 202 = .ok (.if_icmp .ne 8, 3) := by decide +kernel
theorem dX12_readsAttribute_205 : decode cX12_readsAttribute 205 = .ok (.bipush 99, 2) := by decide +kernel
theorem dX12_readsAttribute_207 : decode cX12_readsAttribute 207 = .ok (.goto 4, 3) := by decide +kernel
theorem dX12_readsAttribute_210 : decode cX12_readsAttribute 210 = .ok (.iconst 4, 1) := by decide +kernel
theorem dX12_readsAttribute_211 : decode cX12_readsAttribute 211 = .ok (.invokevirtual 225, 3) := by decide +kernel
theorem dX12_readsAttribute_214 : decode cX12_readsAttribute 214 = .ok (.aload_n 0, 1) := by decide +kernel
theorem dX12_readsAttribute_215 : decode cX12_readsAttribute 215 = .ok (.iload_n 1, 1) := by decide +kernel
theorem dX12_readsAttribute_216 : decode cX12_readsAttribute 216 = .ok (.ifCond .ne 7, 3) := by decide +kernel
theorem dX12_readsAttribute_219 : decode cX12_readsAttribute 219 = .ok (.iconst 3, 1) := by decide +kernel
theorem dX12_readsAttribute_220 : decode cX12_readsAttribute 220 = .ok (.goto 13, 3) := by decide +kernel
theorem dX12_readsAttribute_223 : decode cX12_readsAttribute 223 = .ok (.iload_n 1, 1) := by decide +kernel
theorem dX12_readsAttribute_224 : decode cX12_readsAttribute 224 = .ok (.iconst 1, 1) := by decide +kernel
theorem dX12_readsAttribute_225 : decode cX12_readsAttribute 225 = .ok (.if_icmp .ne 7, 3) := by decide +kernel
theorem dX12_readsAttribute_228 : decode cX12_readsAttribute 228 = .ok (.iconst 4, 1) := by decide +kernel
theorem dX12_readsAttribute_229 : decode cX12_readsAttribute 229 = .ok (.goto 4, 3) := by decide +kernel
theorem dX12_readsAttribute_232 : decode cX12_readsAttribute 232 = .ok (.iconst 5, 1) := by decide +kernel
theorem dX12_readsAttribute_233 : decode cX12_readsAttribute 233 = .ok (.aload_n 0, 1) := by decide +kernel
theorem dX12_readsAttribute_234 : decode cX12_readsAttribute 234 = .ok (.getfield 208, 3) := by decide +kernel
theorem dX12_readsAttribute_237 : decode cX12_readsAttribute 237 = .ok (.invokevirtual 240, 3) := by decide +kernel
theorem dX12_readsAttribute_240 : decode cX12_readsAttribute 240 = .ok (.return_, 1) := by decide +kernel
theorem dX12_readsCondition_0 : decode cX12_readsCondition 0 = .ok (.aload_n 0, 1) := by decide +kernel
theorem dX12_readsCondition_1 : decode cX12_readsCondition 1 = .ok (.invokevirtual 194, 3) := by decide +kernel
theorem dX12_readsCondition_4 : decode cX12_readsCondition 4 = .ok (.aload_n 0, 1) := by decide +kernel
theorem dX12_readsCondition_5 : decode cX12_readsCondition 5 = .ok (.bipush 126, 2) := by decide +kernel
theorem dX12_readsCondition_7 : decode cX12_readsCondition 7 = .ok (.invokevirtual 201, 3) := by decide +kernel
theorem dX12_readsCondition_10 : decode cX12_readsCondition 10 = .ok (.istore_n 1, 1) := by decide +kernel
theorem dX12_readsCondition_11 : decode cX12_readsCondition 11 = .ok (.aload_n 0, 1) := by decide +kernel
theorem dX12_readsCondition_12 : decode cX12_readsCondition 12 = .ok (.dup, 1) := by decide +kernel
theorem dX12_readsCondition_13 : decode cX12_readsCondition 13 = .ok (.getfield 191, 3) := by decide +kernel
theorem dX12_readsCondition_16 : decode cX12_readsCondition 16 = .ok (.iload_n 1, 1) := by decide +kernel
theorem dX12_readsCondition_17 : decode cX12_readsCondition 17 = .ok (.ifCond .eq 7, 3) := by decide +kernel
theorem dX12_readsCondition_20 : decode cX12_readsCondition 20 = .ok (.iconst 1, 1) := by decide +kernel
theorem dX12_readsCondition_21 : decode cX12_readsCondition 21 = .ok (.goto 4, 3) := by decide +kernel
theorem dX12_readsCondition_24 : decode cX12_readsCondition 24 = .ok (.iconst 0, 1) := by decide +kernel
theorem dX12_readsCondition_25 : decode cX12_readsCondition 25 = .ok (.iadd, 1) := by decide +kernel
theorem dX12_readsCondition_26 : decode cX12_readsCondition 26 = .ok (.putfield 191, 3) := by decide +kernel
theorem dX12_readsCondition_29 : decode cX12_readsCondition 29 = .ok (.aload_n 0, 1) := by decide +kernel
theorem dX12_readsCondition_30 : decode cX12_readsCondition 30 = .ok (.invokevirtual 194, 3) := by decide +kernel
theorem dX12_readsCondition_33 : decode cX12_readsCondition 33 = .ok (.aload_n 0, 1) := by decide +kernel
theorem dX12_readsCondition_34 : decode cX12_readsCondition 34 = .ok (.getfield 191, 3) := by decide +kernel
theorem dX12_readsCondition_37 : decode cX12_readsCondition 37 = .ok (.aload_n 0, 1) := by decide +kernel
theorem dX12_readsCondition_38 : decode cX12_readsCondition 38 = .ok (.getfield 188, 3) := by decide +kernel
theorem dX12_readsCondition_41 : decode cX12_readsCondition 41 = .ok (.if_icmp .ge 18, 3) := by decide +kernel
theorem dX12_readsCondition_44 : decode cX12_readsCondition 44 = .ok (.aload_n 0, 1) := by decide +kernel
theorem dX12_readsCondition_45 : decode cX12_readsCondition 45 = .ok (.getfield 66, 3) := by decide +kernel
theorem dX12_readsCondition_48 : decode cX12_readsCondition 48 = .ok (.aload_n 0, 1) := by decide +kernel
theorem dX12_readsCondition_49 : decode cX12_readsCondition 49 = .ok (.getfield 191, 3) := by decide +kernel
theorem dX12_readsCondition_52 : decode cX12_readsCondition 52 = .ok (.iaload, 1) := by decide +kernel
theorem dX12_readsCondition_53 : decode cX12_readsCondition 53 = .ok (.bipush 97, 2) := by decide +kernel
theorem dX12_readsCondition_55 : decode cX12_readsCondition 55 = .ok (.isub, 1) := by decide +kernel
theorem dX12_readsCondition_56 : decode cX12_readsCondition 56 = .ok (.goto 5, 3) := by decide +kernel
theorem dX12_readsCondition_59 : decode cX12_readsCondition 59 = .ok (.bipush 99, 2) := by decide +kernel
theorem dX12_readsCondition_61 : decode cX12_readsCondition 61 = .ok (.istore_n 2, 1) := by decide +kernel
theorem dX12_readsCondition_62 : decode cX12_readsCondition 62 = .ok (.aload_n 0, 1) := by decide +kernel
theorem dX12_readsCondition_63 : decode cX12_readsCondition 63 = .ok (.aload_n 0, 1) := by decide +kernel
theorem dX12_readsCondition_64 : decode cX12_readsCondition 64 = .ok (.iload_n 2, 1) := by decide +kernel
theorem dX12_readsCondition_65 : decode cX12_readsCondition 65 = .ok (.invokevirtual 110, 3) := by decide +kernel
theorem dX12_readsCondition_68 : decode cX12_readsCondition 68 = .ok (.ifCond .eq 21, 3) := by decide +kernel
theorem dX12_readsCondition_71 : decode cX12_readsCondition 71 = .ok (.iload_n 1, 1) := by decide +kernel
theorem dX12_readsCondition_72 : decode cX12_readsCondition 72 = .ok (.ifCond .eq 13, 3) := by decide +kernel
theorem dX12_readsCondition_75 : decode cX12_readsCondition 75 = .ok (.aload_n 0, 1) := by decide +kernel
theorem dX12_readsCondition_76 : decode cX12_readsCondition 76 = .ok (.getfield 17, 3) := by decide +kernel
theorem dX12_readsCondition_79 : decode cX12_readsCondition 79 = .ok (.iload_n 2, 1) := by decide +kernel
theorem dX12_readsCondition_80 : decode cX12_readsCondition 80 = .ok (.iaload, 1) := by decide +kernel
theorem dX12_readsCondition_81 : decode cX12_readsCondition 81 = .ok (.iconst 1, 1) := by decide +kernel
theorem dX12_readsCondition_82 : decode cX12_readsCondition 82 = .ok (.if_icmp .ne 7, 3) := by decide +kernel
theorem dX12_readsCondition_85 : decode cX12_readsCondition 85 = .ok (.iconst 1, 1) := by decide +kernel
theorem dX12_readsCondition_86 : decode cX12_readsCondition 86 = .ok (.goto 4, 3) := by decide +kernel
theorem dX12_readsCondition_89 : decode cX12_readsCondition 89 = .ok (.iconst 0, 1) := by decide +kernel
theorem dX12_readsCondition_90 : decode cX12_readsCondition 90 = .ok (.putfield 197, 3) := by decide +kernel
theorem dX12_readsCondition_93 : decode cX12_readsCondition 93 = .ok (.aload_n 0, 1) := by decide +kernel
theorem dX12_readsCondition_94 : decode cX12_readsCondition 94 = .ok (.getfield 197, 3) := by decide +kernel
theorem dX12_readsCondition_97 : decode cX12_readsCondition 97 = .ok (.ifCond .ne 4, 3) := by decide +kernel
theorem dX12_readsCondition_100 : decode cX12_readsCondition 100 = .ok (.return_, 1) := by decide +kernel
theorem dX12_readsCondition_101 : decode cX12_readsCondition 101 = .ok (.aload_n 0, 1) := by decide +kernel
theorem dX12_readsCondition_102 : decode cX12_readsCondition 102 = .ok (.dup, 1) := by decide +kernel
theorem dX12_readsCondition_103 : decode cX12_readsCondition 103 = .ok (.getfield 191, 3) := by decide +kernel
theorem dX12_readsCondition_106 : decode cX12_readsCondition 106 = .ok (.iconst 1, 1) := by decide +kernel
theorem dX12_readsCondition_107 : decode cX12_readsCondition 107 = .ok (.iadd, 1) := by decide +kernel
theorem dX12_readsCondition_108 : decode cX12_readsCondition 108 = .ok (.putfield 191, 3) := by decide +kernel
theorem dX12_readsCondition_111 : decode cX12_readsCondition 111 = .ok (.iconst 2, 1) := by decide +kernel
theorem dX12_readsCondition_112 : decode cX12_readsCondition 112 = .ok (.istore_n 3, 1) := by decide +kernel
theorem dX12_readsCondition_113 : decode cX12_readsCondition 113 = .ok (.iload_n 1, 1) := by decide +kernel
theorem dX12_readsCondition_114 : decode cX12_readsCondition 114 = .ok (.ifCond .eq 7, 3) := by decide +kernel
theorem dX12_readsCondition_117 : decode cX12_readsCondition 117 = .ok (.iconst 0, 1) := by decide +kernel
theorem dX12_readsCondition_118 : decode cX12_readsCondition 118 = .ok (.goto 4, 3) := by decide +kernel
theorem dX12_readsCondition_121 : decode cX12_readsCondition 121 = .ok (.iconst 1, 1) := by decide +kernel
theorem dX12_readsCondition_122 : decode cX12_readsCondition 122 = .ok (.istore 4, 2) := by decide +kernel
theorem dX12_readsCondition_124 : decode cX12_readsCondition 124 = .ok (.aload_n 0, 1) := by decide +kernel
theorem dX12_readsCondition_125 : decode cX12_readsCondition 125 = .ok (.getfield 17, 3) := by decide +kernel
theorem dX12_readsCondition_128 : decode cX12_readsCondition 128 = .ok (.iload_n 2, 1) := by decide +kernel
theorem dX12_readsCondition_129 : decode cX12_readsCondition 129 = .ok (.iaload, 1) := by decide +kernel
theorem dX12_readsCondition_130 : decode cX12_readsCondition 130 = .ok (.ifCond .ne 167, 3) := by decide +kernel
theorem dX12_readsCondition_133 : decode cX12_readsCondition 133 = .ok (.aload_n 0, 1) := by decide +kernel
theorem dX12_readsCondition_134 : decode cX12_readsCondition 134 = .ok (.invokevirtual 194, 3) := by decide +kernel
theorem dX12_readsCondition_137 : decode cX12_readsCondition 137 = .ok (.aload_n 0, 1) := by decide +kernel
theorem dX12_readsCondition_138 : decode cX12_readsCondition 138 = .ok (.bipush 62, 2) := by decide +kernel
theorem dX12_readsCondition_140 : decode cX12_readsCondition 140 = .ok (.invokevirtual 201, 3) := by decide +kernel
theorem dX12_readsCondition_143 : decode cX12_readsCondition 143 = .ok (.ifCond .eq 7, 3) := by decide +kernel
theorem dX12_readsCondition_146 : decode cX12_readsCondition 146 = .ok (.iconst 0, 1) := by decide +kernel
theorem dX12_readsCondition_147 : decode cX12_readsCondition 147 = .ok (.goto 43, 3) := by decide +kernel
theorem dX12_readsCondition_150 : decode cX12_readsCondition 150 = .ok (.aload_n 0, 1) := by decide +kernel
theorem dX12_readsCondition_151 : decode cX12_readsCondition 151 = .ok (.bipush 60, 2) := by decide +kernel
theorem dX12_readsCondition_153 : decode cX12_readsCondition 153 = .ok (.invokevirtual 201, 3) := by decide +kernel
theorem dX12_readsCondition_156 : decode cX12_readsCondition 156 = .ok (.ifCond .eq 7, 3) := by decide +kernel
theorem dX12_readsCondition_159 : decode cX12_readsCondition 159 = .ok (.iconst 1, 1) := by decide +kernel
theorem dX12_readsCondition_160 : decode cX12_readsCondition 160 = .ok (.goto 30, 3) := by decide +kernel
theorem dX12_readsCondition_163 : decode cX12_readsCondition 163 = .ok (.aload_n 0, 1) := by decide +kernel
theorem dX12_readsCondition_164 : decode cX12_readsCondition 164 = .ok (.bipush 61, 2) := by decide +kernel
theorem dX12_readsCondition_166 : decode cX12_readsCondition 166 = .ok (.invokevirtual 201, 3) := by decide +kernel
theorem dX12_readsCondition_169 : decode cX12_readsCondition 169 = .ok (.ifCond .eq 7, 3) := by decide +kernel
theorem dX12_readsCondition_172 : decode cX12_readsCondition 172 = .ok (.iconst 2, 1) := by decide +kernel
theorem dX12_readsCondition_173 : decode cX12_readsCondition 173 = .ok (.goto 17, 3) := by decide +kernel
theorem dX12_readsCondition_176 : decode cX12_readsCondition 176 = .ok (.aload_n 0, 1) := by decide +kernel
theorem dX12_readsCondition_177 : decode cX12_readsCondition 177 = .ok (.bipush 35, 2) := by decide +kernel
theorem dX12_readsCondition_179 : decode cX12_readsCondition 179 = .ok (.invokevirtual 201, 3) := by decide +kernel
theorem dX12_readsCondition_182 : decode cX12_readsCondition 182 = .ok (.ifCond .eq 7, 3) := by decide +kernel
theorem dX12_readsCondition_185 : decode cX12_readsCondition 185 = .ok (.iconst 3, 1) := by decide +kernel
theorem dX12_readsCondition_186 : decode cX12_readsCondition 186 = .ok (.goto 4, 3) := by decide +kernel
theorem dX12_readsCondition_189 : decode cX12_readsCondition 189 = .ok (.iconst 4, 1) := by decide +kernel
theorem dX12_readsCondition_190 : decode cX12_readsCondition 190 = .ok (.istore_n 3, 1) := by decide +kernel
theorem dX12_readsCondition_191 : decode cX12_readsCondition 191 = .ok (.aload_n 0, 1) := by decide +kernel
theorem dX12_readsCondition_192 : decode cX12_readsCondition 192 = .ok (.iload_n 3, 1) := by decide +kernel
theorem dX12_readsCondition_193 : decode cX12_readsCondition 193 = .ok (.iconst 4, 1) := by decide +kernel
theorem dX12_readsCondition_194 : decode cX12_readsCondition 194 = .ok (.if_icmp .ge 7, 3) := by decide +kernel
theorem dX12_readsCondition_197 : decode cX12_readsCondition 197 = .ok (.iconst 1, 1) := by decide +kernel
theorem dX12_readsCondition_198 : decode cX12_readsCondition 198 = .ok (.goto 4, 3) := by decide +kernel
theorem dX12_readsCondition_201 : decode cX12_readsCondition 201 = .ok (.iconst 0, 1) := by decide +kernel
theorem dX12_readsCondition_202 : decode cX12_readsCondition 202 = .ok (.putfield 197, 3) := by decide +kernel
theorem dX12_readsCondition_205 : decode cX12_readsCondition 205 = .ok (.aload_n 0, 1) := by decide +kernel
theorem dX12_readsCondition_206 : decode cX12_readsCondition 206 = .ok (.dup, 1) := by decide +kernel
theorem dX12_readsCondition_207 : decode cX12_readsCondition 207 = .ok (.getfield 191, 3) := by decide +kernel
theorem dX12_readsCondition_210 : decode cX12_readsCondition 210 = .ok (.aload_n 0, 1) := by decide +kernel
theorem dX12_readsCondition_211 : decode cX12_readsCondition 211 = .ok (.getfield 197, 3) := by decide +kernel
theorem dX12_readsCondition_214 : decode cX12_readsCondition 214 = .ok (.ifCond .eq 7, 3) := by decide +kernel
theorem dX12_readsCondition_217 : decode cX12_readsCondition 217 = .ok (.iconst 1, 1) := by decide +kernel
theorem dX12_readsCondition_218 : decode cX12_readsCondition 218 = .ok (.goto 4, 3) := by decide +kernel
theorem dX12_readsCondition_221 : decode cX12_readsCondition 221 = .ok (.iconst 0, 1) := by decide +kernel
theorem dX12_readsCondition_222 : decode cX12_readsCondition 222 = .ok (.iadd, 1) := by decide +kernel
theorem dX12_readsCondition_223 : decode cX12_readsCondition 223 = .ok (.putfield 191, 3) := by decide +kernel
theorem dX12_readsCondition_226 : decode cX12_readsCondition 226 = .ok (.aload_n 0, 1) := by decide +kernel
theorem dX12_readsCondition_227 : decode cX12_readsCondition 227 = .ok (.invokevirtual 194, 3) := by decide +kernel
theorem dX12_readsCondition_230 : decode cX12_readsCondition 230 = .ok (.aload_n 0, 1) := by decide +kernel
theorem dX12_readsCondition_231 : decode cX12_readsCondition 231 = .ok (.getfield 197, 3) := by decide +kernel
theorem dX12_readsCondition_234 : decode cX12_readsCondition 234 = .ok (.ifCond .eq 16, 3) := by decide +kernel
theorem dX12_readsCondition_237 : decode cX12_readsCondition 237 = .ok (.aload_n 0, 1) := by decide +kernel
theorem dX12_readsCondition_238 : decode cX12_readsCondition 238 = .ok (.bipush 45, 2) := by decide +kernel
theorem dX12_readsCondition_240 : decode cX12_readsCondition 240 = .ok (.invokevirtual 201, 3) := by decide +kernel
theorem dX12_readsCondition_243 : decode cX12_readsCondition 243 = .ok (.ifCond .eq 7, 3) := by decide +kernel
theorem dX12_readsCondition_246 : decode cX12_readsCondition 246 = .ok (.iconst 1, 1) := by decide +kernel
theorem dX12_readsCondition_247 : decode cX12_readsCondition 247 = .ok (.goto 4, 3) := by decide +kernel
theorem dX12_readsCondition_250 : decode cX12_readsCondition 250 = .ok (.iconst 0, 1) := by decide +kernel
theorem dX12_readsCondition_251 : decode cX12_readsCondition 251 = .ok (.istore 5, 2) := by decide +kernel
theorem dX12_readsCondition_253 : decode cX12_readsCondition 253 = .ok (.aload_n 0, 1) := by decide +kernel
theorem dX12_readsCondition_254 : decode cX12_readsCondition 254 = .ok (.dup, 1) := by decide +kernel
theorem dX12_readsCondition_255 : decode cX12_readsCondition 255 = .ok (.getfield 191, 3) := by decide +kernel
theorem dX12_readsCondition_258 : decode cX12_readsCondition 258 = .ok (.iload 5, 2) := by decide +kernel
theorem dX12_readsCondition_260 : decode cX12_readsCondition 260 = .ok (.ifCond .eq 7, 3) := by decide +kernel
theorem dX12_readsCondition_263 : decode cX12_readsCondition 263 = .ok (.iconst 1, 1) := by decide +kernel
theorem dX12_readsCondition_264 : decode cX12_readsCondition 264 = .ok (.goto 4, 3) := by decide +kernel
theorem dX12_readsCondition_267 : decode cX12_readsCondition 267 = .ok (.iconst 0, 1) := by decide +kernel
theorem dX12_readsCondition_268 : decode cX12_readsCondition 268 = .ok (.iadd, 1) := by decide +kernel
theorem dX12_readsCondition_269 : decode cX12_readsCondition 269 = .ok (.putfield 191, 3) := by decide +kernel
theorem dX12_readsCondition_272 : decode cX12_readsCondition 272 = .ok (.aload_n 0, 1) := by decide +kernel
theorem dX12_readsCondition_273 : decode cX12_readsCondition 273 = .ok (.bipush 100, 2) := by decide +kernel
theorem dX12_readsCondition_275 : decode cX12_readsCondition 275 = .ok (.invokevirtual 225, 3) := by decide +kernel
theorem dX12_readsCondition_278 : decode cX12_readsCondition 278 = .ok (.iload 5, 2) := by decide +kernel
theorem dX12_readsCondition_280 : decode cX12_readsCondition 280 = .ok (.ifCond .eq 11, 3) := by decide +kernel
theorem dX12_readsCondition_283 : decode cX12_readsCondition 283 = .ok (.aload_n 0, 1) := by decide +kernel
theorem dX12_readsCondition_284 : decode cX12_readsCondition 284 = .ok (.getfield 208, 3) := by decide +kernel
theorem dX12_readsCondition_287 : decode cX12_readsCondition 287 = .ok (.ineg, 1) := by decide +kernel
theorem dX12_readsCondition_288 : decode cX12_readsCondition 288 = .ok (.goto 7, 3) := by decide +kernel
theorem dX12_readsCondition_291 : decode cX12_readsCondition 291 = .ok (.aload_n 0, 1) := by decide +kernel
theorem dX12_readsCondition_292 : decode cX12_readsCondition 292 = .ok (.getfield 208, 3) := by decide +kernel
theorem dX12_readsCondition_295 : decode cX12_readsCondition 295 = .ok (.istore 4, 2) := by decide +kernel
theorem dX12_readsCondition_297 : decode cX12_readsCondition 297 = .ok (.aload_n 0, 1) := by decide +kernel
theorem dX12_readsCondition_298 : decode cX12_readsCondition 298 = .ok (.getfield 197, 3) := by decide +kernel
theorem dX12_readsCondition_301 : decode cX12_readsCondition 301 = .ok (.ifCond .eq 24, 3) := by decide +kernel
theorem dX12_readsCondition_304 : decode cX12_readsCondition 304 = .ok (.aload_n 0, 1) := by decide +kernel
theorem dX12_readsCondition_305 : decode cX12_readsCondition 305 = .ok (.getfield 211, 3) := by decide +kernel
theorem dX12_readsCondition_308 : decode cX12_readsCondition 308 = .ok (.ifCond .eq 17, 3) := by decide +kernel
theorem dX12_readsCondition_311 : decode cX12_readsCondition 311 = .ok (.aload_n 0, 1) := by decide +kernel
theorem dX12_readsCondition_312 : decode cX12_readsCondition 312 = .ok (.aload_n 0, 1) := by decide +kernel
theorem dX12_readsCondition_313 : decode cX12_readsCondition 313 = .ok (.getfield 159, 3) := by decide +kernel
theorem dX12_readsCondition_316 : decode cX12_readsCondition 316 = .ok (.iconst 1, 1) := by decide +kernel
theorem dX12_readsCondition_317 : decode cX12_readsCondition 317 = .ok (.isub, 1) := by decide +kernel
theorem dX12_readsCondition_318 : decode cX12_readsCondition 318 = .ok (.iload_n 2, 1) := by decide +kernel
theorem dX12_readsCondition_319 : decode cX12_readsCondition 319 = .ok (.iload_n 3, 1) := by decide +kernel
theorem dX12_readsCondition_320 : decode cX12_readsCondition 320 = .ok (.iload 4, 2) := by decide +kernel
theorem dX12_readsCondition_322 : decode cX12_readsCondition 322 = .ok (.invokevirtual 182, 3) := by decide +kernel
theorem dX12_readsCondition_325 : decode cX12_readsCondition 325 = .ok (.return_, 1) := by decide +kernel
theorem dX12_readsAll_0 : decode cX12_readsAll 0 = .ok (.aload_n 0, 1) := by decide +kernel
theorem dX12_readsAll_1 : decode cX12_readsAll 1 = .ok (.iload_n 1, 1) := by decide +kernel
theorem dX12_readsAll_2 : decode cX12_readsAll 2 = .ok (.putfield 211, 3) := by decide +kernel
theorem dX12_readsAll_5 : decode cX12_readsAll 5 = .ok (.aload_n 0, 1) := by decide +kernel
theorem dX12_readsAll_6 : decode cX12_readsAll 6 = .ok (.iconst 0, 1) := by decide +kernel
theorem dX12_readsAll_7 : decode cX12_readsAll 7 = .ok (.putfield 191, 3) := by decide +kernel
theorem dX12_readsAll_10 : decode cX12_readsAll 10 = .ok (.aload_n 0, 1) := by decide +kernel
theorem dX12_readsAll_11 : decode cX12_readsAll 11 = .ok (.iconst 0, 1) := by decide +kernel
theorem dX12_readsAll_12 : decode cX12_readsAll 12 = .ok (.putfield 214, 3) := by decide +kernel
theorem dX12_readsAll_15 : decode cX12_readsAll 15 = .ok (.aload_n 0, 1) := by decide +kernel
theorem dX12_readsAll_16 : decode cX12_readsAll 16 = .ok (.invokevirtual 244, 3) := by decide +kernel
theorem dX12_readsAll_19 : decode cX12_readsAll 19 = .ok (.aload_n 0, 1) := by decide +kernel
theorem dX12_readsAll_20 : decode cX12_readsAll 20 = .ok (.dup, 1) := by decide +kernel
theorem dX12_readsAll_21 : decode cX12_readsAll 21 = .ok (.getfield 214, 3) := by decide +kernel
theorem dX12_readsAll_24 : decode cX12_readsAll 24 = .ok (.iconst 1, 1) := by decide +kernel
theorem dX12_readsAll_25 : decode cX12_readsAll 25 = .ok (.iadd, 1) := by decide +kernel
theorem dX12_readsAll_26 : decode cX12_readsAll 26 = .ok (.putfield 214, 3) := by decide +kernel
theorem dX12_readsAll_29 : decode cX12_readsAll 29 = .ok (.aload_n 0, 1) := by decide +kernel
theorem dX12_readsAll_30 : decode cX12_readsAll 30 = .ok (.invokevirtual 194, 3) := by decide +kernel
theorem dX12_readsAll_33 : decode cX12_readsAll 33 = .ok (.aload_n 0, 1) := by decide +kernel
theorem dX12_readsAll_34 : decode cX12_readsAll 34 = .ok (.getfield 197, 3) := by decide +kernel
theorem dX12_readsAll_37 : decode cX12_readsAll 37 = .ok (.ifCond .eq 45, 3) := by decide +kernel
theorem dX12_readsAll_40 : decode cX12_readsAll 40 = .ok (.aload_n 0, 1) := by decide +kernel
theorem dX12_readsAll_41 : decode cX12_readsAll 41 = .ok (.getfield 191, 3) := by decide +kernel
theorem dX12_readsAll_44 : decode cX12_readsAll 44 = .ok (.aload_n 0, 1) := by decide +kernel
theorem dX12_readsAll_45 : decode cX12_readsAll 45 = .ok (.getfield 188, 3) := by decide +kernel
theorem dX12_readsAll_48 : decode cX12_readsAll 48 = .ok (.if_icmp .ge 34, 3) := by decide +kernel
theorem dX12_readsAll_51 : decode cX12_readsAll 51 = .ok (.aload_n 0, 1) := by decide +kernel
theorem dX12_readsAll_52 : decode cX12_readsAll 52 = .ok (.dup, 1) := by decide +kernel
theorem dX12_readsAll_53 : decode cX12_readsAll 53 = .ok (.getfield 191, 3) := by decide +kernel
theorem dX12_readsAll_56 : decode cX12_readsAll 56 = .ok (.iconst 1, 1) := by decide +kernel
theorem dX12_readsAll_57 : decode cX12_readsAll 57 = .ok (.iadd, 1) := by decide +kernel
theorem dX12_readsAll_58 : decode cX12_readsAll 58 = .ok (.putfield 191, 3) := by decide +kernel
theorem dX12_readsAll_61 : decode cX12_readsAll 61 = .ok (.aload_n 0, 1) := by decide +kernel
theorem dX12_readsAll_62 : decode cX12_readsAll 62 = .ok (.invokevirtual 244, 3) := by decide +kernel
theorem dX12_readsAll_65 : decode cX12_readsAll 65 = .ok (.aload_n 0, 1) := by decide +kernel
theorem dX12_readsAll_66 : decode cX12_readsAll 66 = .ok (.dup, 1) := by decide +kernel
theorem dX12_readsAll_67 : decode cX12_readsAll 67 = .ok (.getfield 214, 3) := by decide +kernel
theorem dX12_readsAll_70 : decode cX12_readsAll 70 = .ok (.iconst 1, 1) := by decide +kernel
theorem dX12_readsAll_71 : decode cX12_readsAll 71 = .ok (.iadd, 1) := by decide +kernel
theorem dX12_readsAll_72 : decode cX12_readsAll 72 = .ok (.putfield 214, 3) := by decide +kernel
theorem dX12_readsAll_75 : decode cX12_readsAll 75 = .ok (.aload_n 0, 1) := by decide +kernel
theorem dX12_readsAll_76 : decode cX12_readsAll 76 = .ok (.invokevirtual 194, 3) := by decide +kernel
theorem dX12_readsAll_79 : decode cX12_readsAll 79 = .ok (.goto (-46), 3) := by decide +kernel
theorem dX12_readsAll_82 : decode cX12_readsAll 82 = .ok (.aload_n 0, 1) := by decide +kernel
theorem dX12_readsAll_83 : decode cX12_readsAll 83 = .ok (.getfield 197, 3) := by decide +kernel
theorem dX12_readsAll_86 : decode cX12_readsAll 86 = .ok (.ireturn, 1) := by decide +kernel
theorem dX12_fault_0 : decode cX12_fault 0 = .ok (.aload_n 0, 1) := by decide +kernel
theorem dX12_fault_1 : decode cX12_fault 1 = .ok (.iconst 0, 1) := by decide +kernel
theorem dX12_fault_2 : decode cX12_fault 2 = .ok (.putfield 94, 3) := by decide +kernel
theorem dX12_fault_5 : decode cX12_fault 5 = .ok (.aload_n 0, 1) := by decide +kernel
theorem dX12_fault_6 : decode cX12_fault 6 = .ok (.iconst 0, 1) := by decide +kernel
theorem dX12_fault_7 : decode cX12_fault 7 = .ok (.invokevirtual 247, 3) := by decide +kernel
theorem dX12_fault_10 : decode cX12_fault 10 = .ok (.ifCond .eq 7, 3) := by decide +kernel
theorem dX12_fault_13 : decode cX12_fault 13 = .ok (.iconst (-1), 1) := by decide +kernel
theorem dX12_fault_14 : decode cX12_fault 14 = .ok (.goto 7, 3) := by decide +kernel
theorem dX12_fault_17 : decode cX12_fault 17 = .ok (.aload_n 0, 1) := by decide +kernel
theorem dX12_fault_18 : decode cX12_fault 18 = .ok (.getfield 191, 3) := by decide +kernel
theorem dX12_fault_21 : decode cX12_fault 21 = .ok (.ireturn, 1) := by decide +kernel
theorem dX12_load_0 : decode cX12_load 0 = .ok (.aload_n 0, 1) := by decide +kernel
theorem dX12_load_1 : decode cX12_load 1 = .ok (.iconst 0, 1) := by decide +kernel
theorem dX12_load_2 : decode cX12_load 2 = .ok (.putfield 94, 3) := by decide +kernel
theorem dX12_load_5 : decode cX12_load 5 = .ok (.aload_n 0, 1) := by decide +kernel
theorem dX12_load_6 : decode cX12_load 6 = .ok (.iconst 0, 1) := by decide +kernel
theorem dX12_load_7 : decode cX12_load 7 = .ok (.invokevirtual 247, 3) := by decide +kernel
theorem dX12_load_10 : decode cX12_load 10 = .ok (.ifCond .ne 9, 3) := by decide +kernel
theorem dX12_load_13 : decode cX12_load 13 = .ok (.aload_n 0, 1) := by decide +kernel
theorem dX12_load_14 : decode cX12_load 14 = .ok (.iconst 1, 1) := by decide +kernel
theorem dX12_load_15 : decode cX12_load 15 = .ok (.invokevirtual 103, 3) := by decide +kernel
theorem dX12_load_18 : decode cX12_load 18 = .ok (.ireturn, 1) := by decide +kernel
theorem dX12_load_19 : decode cX12_load 19 = .ok (.aload_n 0, 1) := by decide +kernel
theorem dX12_load_20 : decode cX12_load 20 = .ok (.iconst 1, 1) := by decide +kernel
theorem dX12_load_21 : decode cX12_load 21 = .ok (.invokevirtual 247, 3) := by decide +kernel
theorem dX12_load_24 : decode cX12_load 24 = .ok (.pop, 1) := by decide +kernel
theorem dX12_load_25 : decode cX12_load 25 = .ok (.aload_n 0, 1) := by decide +kernel
theorem dX12_load_26 : decode cX12_load 26 = .ok (.iconst 0, 1) := by decide +kernel
theorem dX12_load_27 : decode cX12_load 27 = .ok (.putfield 188, 3) := by decide +kernel
theorem dX12_load_30 : decode cX12_load 30 = .ok (.aload_n 0, 1) := by decide +kernel
theorem dX12_load_31 : decode cX12_load 31 = .ok (.getfield 214, 3) := by decide +kernel
theorem dX12_load_34 : decode cX12_load 34 = .ok (.ireturn, 1) := by decide +kernel
theorem dX12_lengthOf_0 : decode cX12_lengthOf 0 = .ok (.aload_n 0, 1) := by decide +kernel
theorem dX12_lengthOf_1 : decode cX12_lengthOf 1 = .ok (.aload_n 0, 1) := by decide +kernel
theorem dX12_lengthOf_2 : decode cX12_lengthOf 2 = .ok (.getfield 47, 3) := by decide +kernel
theorem dX12_lengthOf_5 : decode cX12_lengthOf 5 = .ok (.iload_n 1, 1) := by decide +kernel
theorem dX12_lengthOf_6 : decode cX12_lengthOf 6 = .ok (.iaload, 1) := by decide +kernel
theorem dX12_lengthOf_7 : decode cX12_lengthOf 7 = .ok (.ldc2_w 251, 3) := by decide +kernel
theorem dX12_lengthOf_10 : decode cX12_lengthOf 10 = .ok (.invokevirtual 253, 3) := by decide +kernel
theorem dX12_lengthOf_13 : decode cX12_lengthOf 13 = .ok (.lconst 0, 1) := by decide +kernel
theorem dX12_lengthOf_14 : decode cX12_lengthOf 14 = .ok (.lstore_n 2, 1) := by decide +kernel
theorem dX12_lengthOf_15 : decode cX12_lengthOf 15 = .ok (.iconst 0, 1) := by decide +kernel
theorem dX12_lengthOf_16 : decode cX12_lengthOf 16 = .ok (.istore 4, 2) := by decide +kernel
theorem dX12_lengthOf_18 : decode cX12_lengthOf 18 = .ok (.iload 4, 2) := by decide +kernel
theorem dX12_lengthOf_20 : decode cX12_lengthOf 20 = .ok (.aload_n 0, 1) := by decide +kernel
theorem dX12_lengthOf_21 : decode cX12_lengthOf 21 = .ok (.getfield 120, 3) := by decide +kernel
theorem dX12_lengthOf_24 : decode cX12_lengthOf 24 = .ok (.if_icmp .ge 28, 3) := by decide +kernel
theorem dX12_lengthOf_27 : decode cX12_lengthOf 27 = .ok (.lload_n 2, 1) := by decide +kernel
theorem dX12_lengthOf_28 : decode cX12_lengthOf 28 = .ok (.aload_n 0, 1) := by decide +kernel
theorem dX12_lengthOf_29 : decode cX12_lengthOf 29 = .ok (.getfield 72, 3) := by decide +kernel
theorem dX12_lengthOf_32 : decode cX12_lengthOf 32 = .ok (.iload 4, 2) := by decide +kernel
theorem dX12_lengthOf_34 : decode cX12_lengthOf 34 = .ok (.laload, 1) := by decide +kernel
theorem dX12_lengthOf_35 : decode cX12_lengthOf 35 = .ok (.aload_n 0, 1) := by decide +kernel
theorem dX12_lengthOf_36 : decode cX12_lengthOf 36 = .ok (.getfield 20, 3) := by decide +kernel
theorem dX12_lengthOf_39 : decode cX12_lengthOf 39 = .ok (.iload 4, 2) := by decide +kernel
theorem dX12_lengthOf_41 : decode cX12_lengthOf 41 = .ok (.iaload, 1) := by decide +kernel
theorem dX12_lengthOf_42 : decode cX12_lengthOf 42 = .ok (.i2l, 1) := by decide +kernel
theorem dX12_lengthOf_43 : decode cX12_lengthOf 43 = .ok (.lmul, 1) := by decide +kernel
theorem dX12_lengthOf_44 : decode cX12_lengthOf 44 = .ok (.ladd, 1) := by decide +kernel
theorem dX12_lengthOf_45 : decode cX12_lengthOf 45 = .ok (.lstore_n 2, 1) := by decide +kernel
theorem dX12_lengthOf_46 : decode cX12_lengthOf 46 = .ok (.iinc 4 1, 3) := by decide +kernel
theorem dX12_lengthOf_49 : decode cX12_lengthOf 49 = .ok (.goto (-31), 3) := by decide +kernel
theorem dX12_lengthOf_52 : decode cX12_lengthOf 52 = .ok (.lload_n 2, 1) := by decide +kernel
theorem dX12_lengthOf_53 : decode cX12_lengthOf 53 = .ok (.ldc2_w 251, 3) := by decide +kernel
theorem dX12_lengthOf_56 : decode cX12_lengthOf 56 = .ok (.ldiv, 1) := by decide +kernel
theorem dX12_lengthOf_57 : decode cX12_lengthOf 57 = .ok (.lconst 1, 1) := by decide +kernel
theorem dX12_lengthOf_58 : decode cX12_lengthOf 58 = .ok (.lcmp, 1) := by decide +kernel
theorem dX12_lengthOf_59 : decode cX12_lengthOf 59 = .ok (.ifCond .ge 7, 3) := by decide +kernel
theorem dX12_lengthOf_62 : decode cX12_lengthOf 62 = .ok (.lconst 1, 1) := by decide +kernel
theorem dX12_lengthOf_63 : decode cX12_lengthOf 63 = .ok (.goto 8, 3) := by decide +kernel
theorem dX12_lengthOf_66 : decode cX12_lengthOf 66 = .ok (.lload_n 2, 1) := by decide +kernel
theorem dX12_lengthOf_67 : decode cX12_lengthOf 67 = .ok (.ldc2_w 251, 3) := by decide +kernel
theorem dX12_lengthOf_70 : decode cX12_lengthOf 70 = .ok (.ldiv, 1) := by decide +kernel
theorem dX12_lengthOf_71 : decode cX12_lengthOf 71 = .ok (.lreturn, 1) := by decide +kernel
theorem dX12_progressOf_0 : decode cX12_progressOf 0 = .ok (.aload_n 0, 1) := by decide +kernel
theorem dX12_progressOf_1 : decode cX12_progressOf 1 = .ok (.getfield 7, 3) := by decide +kernel
theorem dX12_progressOf_4 : decode cX12_progressOf 4 = .ok (.iload_n 1, 1) := by decide +kernel
theorem dX12_progressOf_5 : decode cX12_progressOf 5 = .ok (.iconst 1, 1) := by decide +kernel
theorem dX12_progressOf_6 : decode cX12_progressOf 6 = .ok (.iadd, 1) := by decide +kernel
theorem dX12_progressOf_7 : decode cX12_progressOf 7 = .ok (.iaload, 1) := by decide +kernel
theorem dX12_progressOf_8 : decode cX12_progressOf 8 = .ok (.i2l, 1) := by decide +kernel
theorem dX12_progressOf_9 : decode cX12_progressOf 9 = .ok (.ldc2_w 251, 3) := by decide +kernel
theorem dX12_progressOf_12 : decode cX12_progressOf 12 = .ok (.lmul, 1) := by decide +kernel
theorem dX12_progressOf_13 : decode cX12_progressOf 13 = .ok (.aload_n 0, 1) := by decide +kernel
theorem dX12_progressOf_14 : decode cX12_progressOf 14 = .ok (.getfield 7, 3) := by decide +kernel
theorem dX12_progressOf_17 : decode cX12_progressOf 17 = .ok (.iload_n 1, 1) := by decide +kernel
theorem dX12_progressOf_18 : decode cX12_progressOf 18 = .ok (.iconst 2, 1) := by decide +kernel
theorem dX12_progressOf_19 : decode cX12_progressOf 19 = .ok (.iadd, 1) := by decide +kernel
theorem dX12_progressOf_20 : decode cX12_progressOf 20 = .ok (.iaload, 1) := by decide +kernel
theorem dX12_progressOf_21 : decode cX12_progressOf 21 = .ok (.i2l, 1) := by decide +kernel
theorem dX12_progressOf_22 : decode cX12_progressOf 22 = .ok (.ladd, 1) := by decide +kernel
theorem dX12_progressOf_23 : decode cX12_progressOf 23 = .ok (.lreturn, 1) := by decide +kernel
theorem dX12_advances_0 : decode cX12_advances 0 = .ok (.aload_n 0, 1) := by decide +kernel
theorem dX12_advances_1 : decode cX12_advances 1 = .ok (.getfield 53, 3) := by decide +kernel
theorem dX12_advances_4 : decode cX12_advances 4 = .ok (.aload_n 0, 1) := by decide +kernel
theorem dX12_advances_5 : decode cX12_advances 5 = .ok (.getfield 7, 3) := by decide +kernel
theorem dX12_advances_8 : decode cX12_advances 8 = .ok (.iload_n 1, 1) := by decide +kernel
theorem dX12_advances_9 : decode cX12_advances 9 = .ok (.iconst 0, 1) := by decide +kernel
theorem dX12_advances_10 : decode cX12_advances 10 = .ok (.iadd, 1) := by decide +kernel
theorem dX12_advances_11 : decode cX12_advances 11 = .ok (.iaload, 1) := by decide +kernel
theorem dX12_advances_12 : decode cX12_advances 12 = .ok (.baload, 1) := by decide +kernel
theorem dX12_advances_13 : decode cX12_advances 13 = .ok (.ifCond .eq 45, 3) := by decide +kernel
theorem dX12_advances_16 : decode cX12_advances 16 = .ok (.aload_n 0, 1) := by decide +kernel
theorem dX12_advances_17 : decode cX12_advances 17 = .ok (.iload_n 1, 1) := by decide +kernel
theorem dX12_advances_18 : decode cX12_advances 18 = .ok (.invokevirtual 257, 3) := by decide +kernel
theorem dX12_advances_21 : decode cX12_advances 21 = .ok (.lload_n 2, 1) := by decide +kernel
theorem dX12_advances_22 : decode cX12_advances 22 = .ok (.ladd, 1) := by decide +kernel
theorem dX12_advances_23 : decode cX12_advances 23 = .ok (.lstore 4, 2) := by decide +kernel
theorem dX12_advances_25 : decode cX12_advances 25 = .ok (.aload_n 0, 1) := by decide +kernel
theorem dX12_advances_26 : decode cX12_advances 26 = .ok (.getfield 7, 3) := by decide +kernel
theorem dX12_advances_29 : decode cX12_advances 29 = .ok (.iload_n 1, 1) := by decide +kernel
theorem dX12_advances_30 : decode cX12_advances 30 = .ok (.iconst 1, 1) := by decide +kernel
theorem dX12_advances_31 : decode cX12_advances 31 = .ok (.iadd, 1) := by decide +kernel
theorem dX12_advances_32 : decode cX12_advances 32 = .ok (.lload 4, 2) := by decide +kernel
theorem dX12_advances_34 : decode cX12_advances 34 = .ok (.ldc2_w 251, 3) := by decide +kernel
theorem dX12_advances_37 : decode cX12_advances 37 = .ok (.ldiv, 1) := by decide +kernel
theorem dX12_advances_38 : decode cX12_advances 38 = .ok (.l2i, 1) := by decide +kernel
theorem dX12_advances_39 : decode cX12_advances 39 = .ok (.iastore, 1) := by decide +kernel
theorem dX12_advances_40 : decode cX12_advances 40 = .ok (.aload_n 0, 1) := by decide +kernel
theorem dX12_advances_41 : decode cX12_advances 41 = .ok (.getfield 7, 3) := by decide +kernel
theorem dX12_advances_44 : decode cX12_advances 44 = .ok (.iload_n 1, 1) := by decide +kernel
theorem dX12_advances_45 : decode cX12_advances 45 = .ok (.iconst 2, 1) := by decide +kernel
theorem dX12_advances_46 : decode cX12_advances 46 = .ok (.iadd, 1) := by decide +kernel
theorem dX12_advances_47 : decode cX12_advances 47 = .ok (.lload 4, 2) := by decide +kernel
theorem dX12_advances_49 : decode cX12_advances 49 = .ok (.ldc2_w 251, 3) := by decide +kernel
theorem dX12_advances_52 : decode cX12_advances 52 = .ok (.lrem, 1) := by decide +kernel
theorem dX12_advances_53 : decode cX12_advances 53 = .ok (.l2i, 1) := by decide +kernel
theorem dX12_advances_54 : decode cX12_advances 54 = .ok (.iastore, 1) := by decide +kernel
theorem dX12_advances_55 : decode cX12_advances 55 = .ok (.goto 42, 3) := by decide +kernel
theorem dX12_advances_58 : decode cX12_advances 58 = .ok (.aload_n 0, 1) := by decide +kernel
theorem dX12_advances_59 : decode cX12_advances 59 = .ok (.getfield 7, 3) := by decide +kernel
theorem dX12_advances_62 : decode cX12_advances 62 = .ok (.iload_n 1, 1) := by decide +kernel
theorem dX12_advances_63 : decode cX12_advances 63 = .ok (.iconst 2, 1) := by decide +kernel
theorem dX12_advances_64 : decode cX12_advances 64 = .ok (.iadd, 1) := by decide +kernel
theorem dX12_advances_65 : decode cX12_advances 65 = .ok (.iaload, 1) := by decide +kernel
theorem dX12_advances_66 : decode cX12_advances 66 = .ok (.i2l, 1) := by decide +kernel
theorem dX12_advances_67 : decode cX12_advances 67 = .ok (.lload_n 2, 1) := by decide +kernel
theorem dX12_advances_68 : decode cX12_advances 68 = .ok (.ladd, 1) := by decide +kernel
theorem dX12_advances_69 : decode cX12_advances 69 = .ok (.lstore 4, 2) := by decide +kernel
theorem dX12_advances_71 : decode cX12_advances 71 = .ok (.aload_n 0, 1) := by decide +kernel
theorem dX12_advances_72 : decode cX12_advances 72 = .ok (.getfield 7, 3) := by decide +kernel
theorem dX12_advances_75 : decode cX12_advances 75 = .ok (.iload_n 1, 1) := by decide +kernel
theorem dX12_advances_76 : decode cX12_advances 76 = .ok (.iconst 2, 1) := by decide +kernel
theorem dX12_advances_77 : decode cX12_advances 77 = .ok (.iadd, 1) := by decide +kernel
theorem dX12_advances_78 : decode cX12_advances 78 = .ok (.lload 4, 2) := by decide +kernel
theorem dX12_advances_80 : decode cX12_advances 80 = .ok (.ldc2_w 251, 3) := by decide +kernel
theorem dX12_advances_83 : decode cX12_advances 83 = .ok (.lcmp, 1) := by decide +kernel
theorem dX12_advances_84 : decode cX12_advances 84 = .ok (.ifCond .le 9, 3) := by decide +kernel
theorem dX12_advances_87 : decode cX12_advances 87 = .ok (.ldc_w 261, 3) := by decide +kernel
theorem dX12_advances_90 : decode cX12_advances 90 = .ok (.goto 6, 3) := by decide +kernel
theorem dX12_advances_93 : decode cX12_advances 93 = .ok (.lload 4, 2) := by decide +kernel
theorem dX12_advances_95 : decode cX12_advances 95 = .ok (.l2i, 1) := by decide +kernel
theorem dX12_advances_96 : decode cX12_advances 96 = .ok (.iastore, 1) := by decide +kernel
theorem dX12_advances_97 : decode cX12_advances 97 = .ok (.aload_n 0, 1) := by decide +kernel
theorem dX12_advances_98 : decode cX12_advances 98 = .ok (.getfield 7, 3) := by decide +kernel
theorem dX12_advances_101 : decode cX12_advances 101 = .ok (.iload_n 1, 1) := by decide +kernel
theorem dX12_advances_102 : decode cX12_advances 102 = .ok (.iconst 3, 1) := by decide +kernel
theorem dX12_advances_103 : decode cX12_advances 103 = .ok (.iadd, 1) := by decide +kernel
theorem dX12_advances_104 : decode cX12_advances 104 = .ok (.iconst 0, 1) := by decide +kernel
theorem dX12_advances_105 : decode cX12_advances 105 = .ok (.iastore, 1) := by decide +kernel
theorem dX12_advances_106 : decode cX12_advances 106 = .ok (.return_, 1) := by decide +kernel
theorem dX12_stepOf_0 : decode cX12_stepOf 0 = .ok (.aload_n 0, 1) := by decide +kernel
theorem dX12_stepOf_1 : decode cX12_stepOf 1 = .ok (.getfield 7, 3) := by decide +kernel
theorem dX12_stepOf_4 : decode cX12_stepOf 4 = .ok (.iload_n 1, 1) := by decide +kernel
theorem dX12_stepOf_5 : decode cX12_stepOf 5 = .ok (.iconst 0, 1) := by decide +kernel
theorem dX12_stepOf_6 : decode cX12_stepOf 6 = .ok (.iadd, 1) := by decide +kernel
theorem dX12_stepOf_7 : decode cX12_stepOf 7 = .ok (.iaload, 1) := by decide +kernel
theorem dX12_stepOf_8 : decode cX12_stepOf 8 = .ok (.istore_n 2, 1) := by decide +kernel
theorem dX12_stepOf_9 : decode cX12_stepOf 9 = .ok (.ldc2_w 251, 3) := by decide +kernel
theorem dX12_stepOf_12 : decode cX12_stepOf 12 = .ok (.aload_n 0, 1) := by decide +kernel
theorem dX12_stepOf_13 : decode cX12_stepOf 13 = .ok (.getfield 50, 3) := by decide +kernel
theorem dX12_stepOf_16 : decode cX12_stepOf 16 = .ok (.iload_n 2, 1) := by decide +kernel
theorem dX12_stepOf_17 : decode cX12_stepOf 17 = .ok (.iaload, 1) := by decide +kernel
theorem dX12_stepOf_18 : decode cX12_stepOf 18 = .ok (.i2l, 1) := by decide +kernel
theorem dX12_stepOf_19 : decode cX12_stepOf 19 = .ok (.lmul, 1) := by decide +kernel
theorem dX12_stepOf_20 : decode cX12_stepOf 20 = .ok (.ldc2_w 116, 3) := by decide +kernel
theorem dX12_stepOf_23 : decode cX12_stepOf 23 = .ok (.aload_n 0, 1) := by decide +kernel
theorem dX12_stepOf_24 : decode cX12_stepOf 24 = .ok (.iload_n 2, 1) := by decide +kernel
theorem dX12_stepOf_25 : decode cX12_stepOf 25 = .ok (.invokevirtual 262, 3) := by decide +kernel
theorem dX12_stepOf_28 : decode cX12_stepOf 28 = .ok (.lmul, 1) := by decide +kernel
theorem dX12_stepOf_29 : decode cX12_stepOf 29 = .ok (.ldiv, 1) := by decide +kernel
theorem dX12_stepOf_30 : decode cX12_stepOf 30 = .ok (.lreturn, 1) := by decide +kernel
theorem dX12_shareOfTarget_0 : decode cX12_shareOfTarget 0 = .ok (.ldc2_w 251, 3) := by decide +kernel
theorem dX12_shareOfTarget_3 : decode cX12_shareOfTarget 3 = .ok (.aload_n 0, 1) := by decide +kernel
theorem dX12_shareOfTarget_4 : decode cX12_shareOfTarget 4 = .ok (.getfield 7, 3) := by decide +kernel
theorem dX12_shareOfTarget_7 : decode cX12_shareOfTarget 7 = .ok (.bipush 10, 2) := by decide +kernel
theorem dX12_shareOfTarget_9 : decode cX12_shareOfTarget 9 = .ok (.iaload, 1) := by decide +kernel
theorem dX12_shareOfTarget_10 : decode cX12_shareOfTarget 10 = .ok (.i2l, 1) := by decide +kernel
theorem dX12_shareOfTarget_11 : decode cX12_shareOfTarget 11 = .ok (.lmul, 1) := by decide +kernel
theorem dX12_shareOfTarget_12 : decode cX12_shareOfTarget 12 = .ok (.aload_n 0, 1) := by decide +kernel
theorem dX12_shareOfTarget_13 : decode cX12_shareOfTarget 13 = .ok (.aload_n 0, 1) := by decide +kernel
theorem dX12_shareOfTarget_14 : decode cX12_shareOfTarget 14 = .ok (.getfield 7, 3) := by decide +kernel
theorem dX12_shareOfTarget_17 : decode cX12_shareOfTarget 17 = .ok (.bipush 9, 2) := by decide +kernel
theorem dX12_shareOfTarget_19 : decode cX12_shareOfTarget 19 = .ok (.iaload, 1) := by decide +kernel
theorem dX12_shareOfTarget_20 : decode cX12_shareOfTarget 20 = .ok (.iconst 2, 1) := by decide +kernel
theorem dX12_shareOfTarget_21 : decode cX12_shareOfTarget 21 = .ok (.invokevirtual 177, 3) := by decide +kernel
theorem dX12_shareOfTarget_24 : decode cX12_shareOfTarget 24 = .ok (.i2l, 1) := by decide +kernel
theorem dX12_shareOfTarget_25 : decode cX12_shareOfTarget 25 = .ok (.ldiv, 1) := by decide +kernel
theorem dX12_shareOfTarget_26 : decode cX12_shareOfTarget 26 = .ok (.lreturn, 1) := by decide +kernel
theorem dX12_isSynced_0 : decode cX12_isSynced 0 = .ok (.aload_n 0, 1) := by decide +kernel
theorem dX12_isSynced_1 : decode cX12_isSynced 1 = .ok (.getfield 56, 3) := by decide +kernel
theorem dX12_isSynced_4 : decode cX12_isSynced 4 = .ok (.aload_n 0, 1) := by decide +kernel
theorem dX12_isSynced_5 : decode cX12_isSynced 5 = .ok (.getfield 7, 3) := by decide +kernel
theorem dX12_isSynced_8 : decode cX12_isSynced 8 = .ok (.bipush 12, 2) := by decide +kernel
theorem dX12_isSynced_10 : decode cX12_isSynced 10 = .ok (.iaload, 1) := by decide +kernel
theorem dX12_isSynced_11 : decode cX12_isSynced 11 = .ok (.iaload, 1) := by decide +kernel
theorem dX12_isSynced_12 : decode cX12_isSynced 12 = .ok (.istore_n 1, 1) := by decide +kernel
theorem dX12_isSynced_13 : decode cX12_isSynced 13 = .ok (.aload_n 0, 1) := by decide +kernel
theorem dX12_isSynced_14 : decode cX12_isSynced 14 = .ok (.getfield 7, 3) := by decide +kernel
theorem dX12_isSynced_17 : decode cX12_isSynced 17 = .ok (.bipush 20, 2) := by decide +kernel
theorem dX12_isSynced_19 : decode cX12_isSynced 19 = .ok (.iaload, 1) := by decide +kernel
theorem dX12_isSynced_20 : decode cX12_isSynced 20 = .ok (.ifCond .ne 27, 3) := by decide +kernel
theorem dX12_isSynced_23 : decode cX12_isSynced 23 = .ok (.iload_n 1, 1) := by decide +kernel
theorem dX12_isSynced_24 : decode cX12_isSynced 24 = .ok (.ifCond .eq 23, 3) := by decide +kernel
theorem dX12_isSynced_27 : decode cX12_isSynced 27 = .ok (.iload_n 1, 1) := by decide +kernel
theorem dX12_isSynced_28 : decode cX12_isSynced 28 = .ok (.aload_n 0, 1) := by decide +kernel
theorem dX12_isSynced_29 : decode cX12_isSynced 29 = .ok (.getfield 56, 3) := by decide +kernel
theorem dX12_isSynced_32 : decode cX12_isSynced 32 = .ok (.aload_n 0, 1) := by decide +kernel
theorem dX12_isSynced_33 : decode cX12_isSynced 33 = .ok (.getfield 7, 3) := by decide +kernel
theorem dX12_isSynced_36 : decode cX12_isSynced 36 = .ok (.bipush 16, 2) := by decide +kernel
theorem dX12_isSynced_38 : decode cX12_isSynced 38 = .ok (.iaload, 1) := by decide +kernel
theorem dX12_isSynced_39 : decode cX12_isSynced 39 = .ok (.iaload, 1) := by decide +kernel
theorem dX12_isSynced_40 : decode cX12_isSynced 40 = .ok (.if_icmp .ne 7, 3) := by decide +kernel
theorem dX12_isSynced_43 : decode cX12_isSynced 43 = .ok (.iconst 1, 1) := by decide +kernel
theorem dX12_isSynced_44 : decode cX12_isSynced 44 = .ok (.goto 4, 3) := by decide +kernel
theorem dX12_isSynced_47 : decode cX12_isSynced 47 = .ok (.iconst 0, 1) := by decide +kernel
theorem dX12_isSynced_48 : decode cX12_isSynced 48 = .ok (.ireturn, 1) := by decide +kernel
theorem dX12_addsEntry_0 : decode cX12_addsEntry 0 = .ok (.iconst 0, 1) := by decide +kernel
theorem dX12_addsEntry_1 : decode cX12_addsEntry 1 = .ok (.istore 5, 2) := by decide +kernel
theorem dX12_addsEntry_3 : decode cX12_addsEntry 3 = .ok (.iload 5, 2) := by decide +kernel
theorem dX12_addsEntry_5 : decode cX12_addsEntry 5 = .ok (.aload_n 0, 1) := by decide +kernel
theorem dX12_addsEntry_6 : decode cX12_addsEntry 6 = .ok (.getfield 265, 3) := by decide +kernel
theorem dX12_addsEntry_9 : decode cX12_addsEntry 9 = .ok (.if_icmp .ge 42, 3) := by decide +kernel
theorem dX12_addsEntry_12 : decode cX12_addsEntry 12 = .ok (.aload_n 0, 1) := by decide +kernel
theorem dX12_addsEntry_13 : decode cX12_addsEntry 13 = .ok (.getfield 82, 3) := by decide +kernel
theorem dX12_addsEntry_16 : decode cX12_addsEntry 16 = .ok (.iload 5, 2) := by decide +kernel
theorem dX12_addsEntry_18 : decode cX12_addsEntry 18 = .ok (.iaload, 1) := by decide +kernel
theorem dX12_addsEntry_19 : decode cX12_addsEntry 19 = .ok (.iload_n 1, 1) := by decide +kernel
theorem dX12_addsEntry_20 : decode cX12_addsEntry 20 = .ok (.if_icmp .lt 25, 3) := by decide +kernel
theorem dX12_addsEntry_23 : decode cX12_addsEntry 23 = .ok (.aload_n 0, 1) := by decide +kernel
theorem dX12_addsEntry_24 : decode cX12_addsEntry 24 = .ok (.getfield 82, 3) := by decide +kernel
theorem dX12_addsEntry_27 : decode cX12_addsEntry 27 = .ok (.iload 5, 2) := by decide +kernel
theorem dX12_addsEntry_29 : decode cX12_addsEntry 29 = .ok (.iaload, 1) := by decide +kernel
theorem dX12_addsEntry_30 : decode cX12_addsEntry 30 = .ok (.iload_n 1, 1) := by decide +kernel
theorem dX12_addsEntry_31 : decode cX12_addsEntry 31 = .ok (.if_icmp .ne 20, 3) := by decide +kernel
theorem dX12_addsEntry_34 : decode cX12_addsEntry 34 = .ok (.aload_n 0, 1) := by decide +kernel
theorem dX12_addsEntry_35 : decode cX12_addsEntry 35 = .ok (.getfield 85, 3) := by decide +kernel
theorem dX12_addsEntry_38 : decode cX12_addsEntry 38 = .ok (.iload 5, 2) := by decide +kernel
theorem dX12_addsEntry_40 : decode cX12_addsEntry 40 = .ok (.iaload, 1) := by decide +kernel
theorem dX12_addsEntry_41 : decode cX12_addsEntry 41 = .ok (.iload_n 2, 1) := by decide +kernel
theorem dX12_addsEntry_42 : decode cX12_addsEntry 42 = .ok (.if_icmp .ge 9, 3) := by decide +kernel
theorem dX12_addsEntry_45 : decode cX12_addsEntry 45 = .ok (.iinc 5 1, 3) := by decide +kernel
theorem dX12_addsEntry_48 : decode cX12_addsEntry 48 = .ok (.goto (-45), 3) := by decide +kernel
theorem dX12_addsEntry_51 : decode cX12_addsEntry 51 = .ok (.iload 5, 2) := by decide +kernel
theorem dX12_addsEntry_53 : decode cX12_addsEntry 53 = .ok (.aload_n 0, 1) := by decide +kernel
theorem dX12_addsEntry_54 : decode cX12_addsEntry 54 = .ok (.getfield 265, 3) := by decide +kernel
theorem dX12_addsEntry_57 : decode cX12_addsEntry 57 = .ok (.if_icmp .ge 37, 3) := by decide +kernel
theorem dX12_addsEntry_60 : decode cX12_addsEntry 60 = .ok (.aload_n 0, 1) := by decide +kernel
theorem dX12_addsEntry_61 : decode cX12_addsEntry 61 = .ok (.getfield 82, 3) := by decide +kernel
theorem dX12_addsEntry_64 : decode cX12_addsEntry 64 = .ok (.iload 5, 2) := by decide +kernel
theorem dX12_addsEntry_66 : decode cX12_addsEntry 66 = .ok (.iaload, 1) := by decide +kernel
theorem dX12_addsEntry_67 : decode cX12_addsEntry 67 = .ok (.iload_n 1, 1) := by decide +kernel
theorem dX12_addsEntry_68 : decode cX12_addsEntry 68 = .ok (.if_icmp .ne 26, 3) := by decide +kernel
theorem dX12_addsEntry_71 : decode cX12_addsEntry 71 = .ok (.aload_n 0, 1) := by decide +kernel
theorem dX12_addsEntry_72 : decode cX12_addsEntry 72 = .ok (.getfield 85, 3) := by decide +kernel
theorem dX12_addsEntry_75 : decode cX12_addsEntry 75 = .ok (.iload 5, 2) := by decide +kernel
theorem dX12_addsEntry_77 : decode cX12_addsEntry 77 = .ok (.iaload, 1) := by decide +kernel
theorem dX12_addsEntry_78 : decode cX12_addsEntry 78 = .ok (.iload_n 2, 1) := by decide +kernel
theorem dX12_addsEntry_79 : decode cX12_addsEntry 79 = .ok (.if_icmp .ne 15, 3) := by decide +kernel
theorem dX12_addsEntry_82 : decode cX12_addsEntry 82 = .ok (.aload_n 0, 1) := by decide +kernel
theorem dX12_addsEntry_83 : decode cX12_addsEntry 83 = .ok (.getfield 88, 3) := by decide +kernel
theorem dX12_addsEntry_86 : decode cX12_addsEntry 86 = .ok (.iload 5, 2) := by decide +kernel
theorem dX12_addsEntry_88 : decode cX12_addsEntry 88 = .ok (.dup2, 1) := by decide +kernel
theorem dX12_addsEntry_89 : decode cX12_addsEntry 89 = .ok (.laload, 1) := by decide +kernel
theorem dX12_addsEntry_90 : decode cX12_addsEntry 90 = .ok (.lload_n 3, 1) := by decide +kernel
theorem dX12_addsEntry_91 : decode cX12_addsEntry 91 = .ok (.ladd, 1) := by decide +kernel
theorem dX12_addsEntry_92 : decode cX12_addsEntry 92 = .ok (.lastore, 1) := by decide +kernel
theorem dX12_addsEntry_93 : decode cX12_addsEntry 93 = .ok (.return_, 1) := by decide +kernel
theorem dX12_addsEntry_94 : decode cX12_addsEntry 94 = .ok (.aload_n 0, 1) := by decide +kernel
theorem dX12_addsEntry_95 : decode cX12_addsEntry 95 = .ok (.getfield 265, 3) := by decide +kernel
theorem dX12_addsEntry_98 : decode cX12_addsEntry 98 = .ok (.istore 6, 2) := by decide +kernel
theorem dX12_addsEntry_100 : decode cX12_addsEntry 100 = .ok (.iload 6, 2) := by decide +kernel
theorem dX12_addsEntry_102 : decode cX12_addsEntry 102 = .ok (.iload 5, 2) := by decide +kernel
theorem dX12_addsEntry_104 : decode cX12_addsEntry 104 = .ok (.if_icmp .le 57, 3) := by decide +kernel
theorem dX12_addsEntry_107 : decode cX12_addsEntry 107 = .ok (.aload_n 0, 1) := by decide +kernel
theorem dX12_addsEntry_108 : decode cX12_addsEntry 108 = .ok (.getfield 82, 3) := by decide +kernel
theorem dX12_addsEntry_111 : decode cX12_addsEntry 111 = .ok (.iload 6, 2) := by decide +kernel
theorem dX12_addsEntry_113 : decode cX12_addsEntry 113 = .ok (.aload_n 0, 1) := by decide +kernel
theorem dX12_addsEntry_114 : decode cX12_addsEntry 114 = .ok (.getfield 82, 3) := by decide +kernel
theorem dX12_addsEntry_117 : decode cX12_addsEntry 117 = .ok (.iload 6, 2) := by decide +kernel
theorem dX12_addsEntry_119 : decode cX12_addsEntry 119 = .ok (.iconst 1, 1) := by decide +kernel
theorem dX12_addsEntry_120 : decode cX12_addsEntry 120 = .ok (.isub, 1) := by decide +kernel
theorem dX12_addsEntry_121 : decode cX12_addsEntry 121 = .ok (.iaload, 1) := by decide +kernel
theorem dX12_addsEntry_122 : decode cX12_addsEntry 122 = .ok (.iastore, 1) := by decide +kernel
theorem dX12_addsEntry_123 : decode cX12_addsEntry 123 = .ok (.aload_n 0, 1) := by decide +kernel
theorem dX12_addsEntry_124 : decode cX12_addsEntry 124 = .ok (.getfield 85, 3) := by decide +kernel
theorem dX12_addsEntry_127 : decode cX12_addsEntry 127 = .ok (.iload 6, 2) := by decide +kernel
theorem dX12_addsEntry_129 : decode cX12_addsEntry 129 = .ok (.aload_n 0, 1) := by decide +kernel
theorem dX12_addsEntry_130 : decode cX12_addsEntry 130 = .ok (.getfield 85, 3) := by decide +kernel
theorem dX12_addsEntry_133 : decode cX12_addsEntry 133 = .ok (.iload 6, 2) := by decide +kernel
theorem dX12_addsEntry_135 : decode cX12_addsEntry 135 = .ok (.iconst 1, 1) := by decide +kernel
theorem dX12_addsEntry_136 : decode cX12_addsEntry 136 = .ok (.isub, 1) := by decide +kernel
theorem dX12_addsEntry_137 : decode cX12_addsEntry 137 = .ok (.iaload, 1) := by decide +kernel
theorem dX12_addsEntry_138 : decode cX12_addsEntry 138 = .ok (.iastore, 1) := by decide +kernel
theorem dX12_addsEntry_139 : decode cX12_addsEntry 139 = .ok (.aload_n 0, 1) := by decide +kernel
theorem dX12_addsEntry_140 : decode cX12_addsEntry 140 = .ok (.getfield 88, 3) := by decide +kernel
theorem dX12_addsEntry_143 : decode cX12_addsEntry 143 = .ok (.iload 6, 2) := by decide +kernel
theorem dX12_addsEntry_145 : decode cX12_addsEntry 145 = .ok (.aload_n 0, 1) := by decide +kernel
theorem dX12_addsEntry_146 : decode cX12_addsEntry 146 = .ok (.getfield 88, 3) := by decide +kernel
theorem dX12_addsEntry_149 : decode cX12_addsEntry 149 = .ok (.iload 6, 2) := by decide +kernel
theorem dX12_addsEntry_151 : decode cX12_addsEntry 151 = .ok (.iconst 1, 1) := by decide +kernel
theorem dX12_addsEntry_152 : decode cX12_addsEntry 152 = .ok (.isub, 1) := by decide +kernel
theorem dX12_addsEntry_153 : decode cX12_addsEntry 153 = .ok (.laload, 1) := by decide +kernel
theorem dX12_addsEntry_154 : decode cX12_addsEntry 154 = .ok (.lastore, 1) := by decide +kernel
theorem dX12_addsEntry_155 : decode cX12_addsEntry 155 = .ok (.iinc 6 (-1), 3) := by decide +kernel
theorem dX12_addsEntry_158 : decode cX12_addsEntry 158 = .ok (.goto (-58), 3) := by decide +kernel
theorem dX12_addsEntry_161 : decode cX12_addsEntry 161 = .ok (.aload_n 0, 1) := by decide +kernel
theorem dX12_addsEntry_162 : decode cX12_addsEntry 162 = .ok (.getfield 82, 3) := by decide +kernel
theorem dX12_addsEntry_165 : decode cX12_addsEntry 165 = .ok (.iload 5, 2) := by decide +kernel
theorem dX12_addsEntry_167 : decode cX12_addsEntry 167 = .ok (.iload_n 1, 1) := by decide +kernel
theorem dX12_addsEntry_168 : decode cX12_addsEntry 168 = .ok (.iastore, 1) := by decide +kernel
theorem dX12_addsEntry_169 : decode cX12_addsEntry 169 = .ok (.aload_n 0, 1) := by decide +kernel
theorem dX12_addsEntry_170 : decode cX12_addsEntry 170 = .ok (.getfield 85, 3) := by decide +kernel
theorem dX12_addsEntry_173 : decode cX12_addsEntry 173 = .ok (.iload 5, 2) := by decide +kernel
theorem dX12_addsEntry_175 : decode cX12_addsEntry 175 = .ok (.iload_n 2, 1) := by decide +kernel
theorem dX12_addsEntry_176 : decode cX12_addsEntry 176 = .ok (.iastore, 1) := by decide +kernel
theorem dX12_addsEntry_177 : decode cX12_addsEntry 177 = .ok (.aload_n 0, 1) := by decide +kernel
theorem dX12_addsEntry_178 : decode cX12_addsEntry 178 = .ok (.getfield 88, 3) := by decide +kernel
theorem dX12_addsEntry_181 : decode cX12_addsEntry 181 = .ok (.iload 5, 2) := by decide +kernel
theorem dX12_addsEntry_183 : decode cX12_addsEntry 183 = .ok (.lload_n 3, 1) := by decide +kernel
theorem dX12_addsEntry_184 : decode cX12_addsEntry 184 = .ok (.lastore, 1) := by decide +kernel
theorem dX12_addsEntry_185 : decode cX12_addsEntry 185 = .ok (.aload_n 0, 1) := by decide +kernel
theorem dX12_addsEntry_186 : decode cX12_addsEntry 186 = .ok (.dup, 1) := by decide +kernel
theorem dX12_addsEntry_187 : decode cX12_addsEntry 187 = .ok (.getfield 265, 3) := by decide +kernel
theorem dX12_addsEntry_190 : decode cX12_addsEntry 190 = .ok (.iconst 1, 1) := by decide +kernel
theorem dX12_addsEntry_191 : decode cX12_addsEntry 191 = .ok (.iadd, 1) := by decide +kernel
theorem dX12_addsEntry_192 : decode cX12_addsEntry 192 = .ok (.putfield 265, 3) := by decide +kernel
theorem dX12_addsEntry_195 : decode cX12_addsEntry 195 = .ok (.return_, 1) := by decide +kernel
theorem dX12_addsTrack_0 : decode cX12_addsTrack 0 = .ok (.aload_n 0, 1) := by decide +kernel
theorem dX12_addsTrack_1 : decode cX12_addsTrack 1 = .ok (.aload_n 0, 1) := by decide +kernel
theorem dX12_addsTrack_2 : decode cX12_addsTrack 2 = .ok (.getfield 47, 3) := by decide +kernel
theorem dX12_addsTrack_5 : decode cX12_addsTrack 5 = .ok (.aload_n 0, 1) := by decide +kernel
theorem dX12_addsTrack_6 : decode cX12_addsTrack 6 = .ok (.getfield 7, 3) := by decide +kernel
theorem dX12_addsTrack_9 : decode cX12_addsTrack 9 = .ok (.iload_n 1, 1) := by decide +kernel
theorem dX12_addsTrack_10 : decode cX12_addsTrack 10 = .ok (.iconst 0, 1) := by decide +kernel
theorem dX12_addsTrack_11 : decode cX12_addsTrack 11 = .ok (.iadd, 1) := by decide +kernel
theorem dX12_addsTrack_12 : decode cX12_addsTrack 12 = .ok (.iaload, 1) := by decide +kernel
theorem dX12_addsTrack_13 : decode cX12_addsTrack 13 = .ok (.iaload, 1) := by decide +kernel
theorem dX12_addsTrack_14 : decode cX12_addsTrack 14 = .ok (.lload_n 2, 1) := by decide +kernel
theorem dX12_addsTrack_15 : decode cX12_addsTrack 15 = .ok (.invokevirtual 253, 3) := by decide +kernel
theorem dX12_addsTrack_18 : decode cX12_addsTrack 18 = .ok (.iconst 0, 1) := by decide +kernel
theorem dX12_addsTrack_19 : decode cX12_addsTrack 19 = .ok (.istore 4, 2) := by decide +kernel
theorem dX12_addsTrack_21 : decode cX12_addsTrack 21 = .ok (.iload 4, 2) := by decide +kernel
theorem dX12_addsTrack_23 : decode cX12_addsTrack 23 = .ok (.aload_n 0, 1) := by decide +kernel
theorem dX12_addsTrack_24 : decode cX12_addsTrack 24 = .ok (.getfield 120, 3) := by decide +kernel
theorem dX12_addsTrack_27 : decode cX12_addsTrack 27 = .ok (.if_icmp .ge 89, 3) := by decide +kernel
theorem dX12_addsTrack_30 : decode cX12_addsTrack 30 = .ok (.aload_n 0, 1) := by decide +kernel
theorem dX12_addsTrack_31 : decode cX12_addsTrack 31 = .ok (.getfield 72, 3) := by decide +kernel
theorem dX12_addsTrack_34 : decode cX12_addsTrack 34 = .ok (.iload 4, 2) := by decide +kernel
theorem dX12_addsTrack_36 : decode cX12_addsTrack 36 = .ok (.laload, 1) := by decide +kernel
theorem dX12_addsTrack_37 : decode cX12_addsTrack 37 = .ok (.lconst 0, 1) := by decide +kernel
theorem dX12_addsTrack_38 : decode cX12_addsTrack 38 = .ok (.lcmp, 1) := by decide +kernel
theorem dX12_addsTrack_39 : decode cX12_addsTrack 39 = .ok (.ifCond .le 71, 3) := by decide +kernel
theorem dX12_addsTrack_42 : decode cX12_addsTrack 42 = .ok (.aload_n 0, 1) := by decide +kernel
theorem dX12_addsTrack_43 : decode cX12_addsTrack 43 = .ok (.getfield 7, 3) := by decide +kernel
theorem dX12_addsTrack_46 : decode cX12_addsTrack 46 = .ok (.iload_n 1, 1) := by decide +kernel
theorem dX12_addsTrack_47 : decode cX12_addsTrack 47 = .ok (.iconst 2, 1) := by decide +kernel
theorem dX12_addsTrack_48 : decode cX12_addsTrack 48 = .ok (.iadd, 1) := by decide +kernel
theorem dX12_addsTrack_49 : decode cX12_addsTrack 49 = .ok (.iaload, 1) := by decide +kernel
theorem dX12_addsTrack_50 : decode cX12_addsTrack 50 = .ok (.i2l, 1) := by decide +kernel
theorem dX12_addsTrack_51 : decode cX12_addsTrack 51 = .ok (.aload_n 0, 1) := by decide +kernel
theorem dX12_addsTrack_52 : decode cX12_addsTrack 52 = .ok (.getfield 20, 3) := by decide +kernel
theorem dX12_addsTrack_55 : decode cX12_addsTrack 55 = .ok (.iload 4, 2) := by decide +kernel
theorem dX12_addsTrack_57 : decode cX12_addsTrack 57 = .ok (.iaload, 1) := by decide +kernel
theorem dX12_addsTrack_58 : decode cX12_addsTrack 58 = .ok (.i2l, 1) := by decide +kernel
theorem dX12_addsTrack_59 : decode cX12_addsTrack 59 = .ok (.lmul, 1) := by decide +kernel
theorem dX12_addsTrack_60 : decode cX12_addsTrack 60 = .ok (.ldc2_w 251, 3) := by decide +kernel
theorem dX12_addsTrack_63 : decode cX12_addsTrack 63 = .ok (.ldiv, 1) := by decide +kernel
theorem dX12_addsTrack_64 : decode cX12_addsTrack 64 = .ok (.lstore 5, 2) := by decide +kernel
theorem dX12_addsTrack_66 : decode cX12_addsTrack 66 = .ok (.aload_n 0, 1) := by decide +kernel
theorem dX12_addsTrack_67 : decode cX12_addsTrack 67 = .ok (.iload 4, 2) := by decide +kernel
theorem dX12_addsTrack_69 : decode cX12_addsTrack 69 = .ok (.lload 5, 2) := by decide +kernel
theorem dX12_addsTrack_71 : decode cX12_addsTrack 71 = .ok (.aload_n 0, 1) := by decide +kernel
theorem dX12_addsTrack_72 : decode cX12_addsTrack 72 = .ok (.getfield 20, 3) := by decide +kernel
theorem dX12_addsTrack_75 : decode cX12_addsTrack 75 = .ok (.iload 4, 2) := by decide +kernel
theorem dX12_addsTrack_77 : decode cX12_addsTrack 77 = .ok (.iaload, 1) := by decide +kernel
theorem dX12_addsTrack_78 : decode cX12_addsTrack 78 = .ok (.iconst 1, 1) := by decide +kernel
theorem dX12_addsTrack_79 : decode cX12_addsTrack 79 = .ok (.isub, 1) := by decide +kernel
theorem dX12_addsTrack_80 : decode cX12_addsTrack 80 = .ok (.i2l, 1) := by decide +kernel
theorem dX12_addsTrack_81 : decode cX12_addsTrack 81 = .ok (.lcmp, 1) := by decide +kernel
theorem dX12_addsTrack_82 : decode cX12_addsTrack 82 = .ok (.ifCond .le 15, 3) := by decide +kernel
theorem dX12_addsTrack_85 : decode cX12_addsTrack 85 = .ok (.aload_n 0, 1) := by decide +kernel
theorem dX12_addsTrack_86 : decode cX12_addsTrack 86 = .ok (.getfield 20, 3) := by decide +kernel
theorem dX12_addsTrack_89 : decode cX12_addsTrack 89 = .ok (.iload 4, 2) := by decide +kernel
theorem dX12_addsTrack_91 : decode cX12_addsTrack 91 = .ok (.iaload, 1) := by decide +kernel
theorem dX12_addsTrack_92 : decode cX12_addsTrack 92 = .ok (.iconst 1, 1) := by decide +kernel
theorem dX12_addsTrack_93 : decode cX12_addsTrack 93 = .ok (.isub, 1) := by decide +kernel
theorem dX12_addsTrack_94 : decode cX12_addsTrack 94 = .ok (.goto 6, 3) := by decide +kernel
theorem dX12_addsTrack_97 : decode cX12_addsTrack 97 = .ok (.lload 5, 2) := by decide +kernel
theorem dX12_addsTrack_99 : decode cX12_addsTrack 99 = .ok (.l2i, 1) := by decide +kernel
theorem dX12_addsTrack_100 : decode cX12_addsTrack 100 = .ok (.aload_n 0, 1) := by decide +kernel
theorem dX12_addsTrack_101 : decode cX12_addsTrack 101 = .ok (.getfield 72, 3) := by decide +kernel
theorem dX12_addsTrack_104 : decode cX12_addsTrack 104 = .ok (.iload 4, 2) := by decide +kernel
theorem dX12_addsTrack_106 : decode cX12_addsTrack 106 = .ok (.laload, 1) := by decide +kernel
theorem dX12_addsTrack_107 : decode cX12_addsTrack 107 = .ok (.invokevirtual 268, 3) := by decide +kernel
theorem dX12_addsTrack_110 : decode cX12_addsTrack 110 = .ok (.iinc 4 1, 3) := by decide +kernel
theorem dX12_addsTrack_113 : decode cX12_addsTrack 113 = .ok (.goto (-92), 3) := by decide +kernel
theorem dX12_addsTrack_116 : decode cX12_addsTrack 116 = .ok (.return_, 1) := by decide +kernel
theorem dX12_addsFrozen_0 : decode cX12_addsFrozen 0 = .ok (.lload_n 1, 1) := by decide +kernel
theorem dX12_addsFrozen_1 : decode cX12_addsFrozen 1 = .ok (.lstore_n 3, 1) := by decide +kernel
theorem dX12_addsFrozen_2 : decode cX12_addsFrozen 2 = .ok (.iconst 0, 1) := by decide +kernel
theorem dX12_addsFrozen_3 : decode cX12_addsFrozen 3 = .ok (.istore 5, 2) := by decide +kernel
theorem dX12_addsFrozen_5 : decode cX12_addsFrozen 5 = .ok (.iload 5, 2) := by decide +kernel
theorem dX12_addsFrozen_7 : decode cX12_addsFrozen 7 = .ok (.aload_n 0, 1) := by decide +kernel
theorem dX12_addsFrozen_8 : decode cX12_addsFrozen 8 = .ok (.getfield 7, 3) := by decide +kernel
theorem dX12_addsFrozen_11 : decode cX12_addsFrozen 11 = .ok (.bipush 21, 2) := by decide +kernel
theorem dX12_addsFrozen_13 : decode cX12_addsFrozen 13 = .ok (.iaload, 1) := by decide +kernel
theorem dX12_addsFrozen_14 : decode cX12_addsFrozen 14 = .ok (.if_icmp .ge 33, 3) := by decide +kernel
theorem dX12_addsFrozen_17 : decode cX12_addsFrozen 17 = .ok (.lload_n 3, 1) := by decide +kernel
theorem dX12_addsFrozen_18 : decode cX12_addsFrozen 18 = .ok (.aload_n 0, 1) := by decide +kernel
theorem dX12_addsFrozen_19 : decode cX12_addsFrozen 19 = .ok (.getfield 7, 3) := by decide +kernel
theorem dX12_addsFrozen_22 : decode cX12_addsFrozen 22 = .ok (.bipush 22, 2) := by decide +kernel
theorem dX12_addsFrozen_24 : decode cX12_addsFrozen 24 = .ok (.iconst 3, 1) := by decide +kernel
theorem dX12_addsFrozen_25 : decode cX12_addsFrozen 25 = .ok (.iload 5, 2) := by decide +kernel
theorem dX12_addsFrozen_27 : decode cX12_addsFrozen 27 = .ok (.imul, 1) := by decide +kernel
theorem dX12_addsFrozen_28 : decode cX12_addsFrozen 28 = .ok (.iadd, 1) := by decide +kernel
theorem dX12_addsFrozen_29 : decode cX12_addsFrozen 29 = .ok (.iconst 2, 1) := by decide +kernel
theorem dX12_addsFrozen_30 : decode cX12_addsFrozen 30 = .ok (.iadd, 1) := by decide +kernel
theorem dX12_addsFrozen_31 : decode cX12_addsFrozen 31 = .ok (.iaload, 1) := by decide +kernel
theorem dX12_addsFrozen_32 : decode cX12_addsFrozen 32 = .ok (.i2l, 1) := by decide +kernel
theorem dX12_addsFrozen_33 : decode cX12_addsFrozen 33 = .ok (.lload_n 1, 1) := by decide +kernel
theorem dX12_addsFrozen_34 : decode cX12_addsFrozen 34 = .ok (.lmul, 1) := by decide +kernel
theorem dX12_addsFrozen_35 : decode cX12_addsFrozen 35 = .ok (.ldc2_w 251, 3) := by decide +kernel
theorem dX12_addsFrozen_38 : decode cX12_addsFrozen 38 = .ok (.ldiv, 1) := by decide +kernel
theorem dX12_addsFrozen_39 : decode cX12_addsFrozen 39 = .ok (.lsub, 1) := by decide +kernel
theorem dX12_addsFrozen_40 : decode cX12_addsFrozen 40 = .ok (.lstore_n 3, 1) := by decide +kernel
theorem dX12_addsFrozen_41 : decode cX12_addsFrozen 41 = .ok (.iinc 5 1, 3) := by decide +kernel
theorem dX12_addsFrozen_44 : decode cX12_addsFrozen 44 = .ok (.goto (-39), 3) := by decide +kernel
theorem dX12_addsFrozen_47 : decode cX12_addsFrozen 47 = .ok (.iconst 0, 1) := by decide +kernel
theorem dX12_addsFrozen_48 : decode cX12_addsFrozen 48 = .ok (.istore 5, 2) := by decide +kernel
theorem dX12_addsFrozen_50 : decode cX12_addsFrozen 50 = .ok (.iload 5, 2) := by decide +kernel
theorem dX12_addsFrozen_52 : decode cX12_addsFrozen 52 = .ok (.aload_n 0, 1) := by decide +kernel
theorem dX12_addsFrozen_53 : decode cX12_addsFrozen 53 = .ok (.getfield 7, 3) := by decide +kernel
theorem dX12_addsFrozen_56 : decode cX12_addsFrozen 56 = .ok (.bipush 21, 2) := by decide +kernel
theorem dX12_addsFrozen_58 : decode cX12_addsFrozen 58 = .ok (.iaload, 1) := by decide +kernel
theorem dX12_addsFrozen_59 : decode cX12_addsFrozen 59 = .ok (.if_icmp .ge 82, 3) := by decide +kernel
theorem dX12_addsFrozen_62 : decode cX12_addsFrozen 62 = .ok (.aload_n 0, 1) := by decide +kernel
theorem dX12_addsFrozen_63 : decode cX12_addsFrozen 63 = .ok (.getfield 7, 3) := by decide +kernel
theorem dX12_addsFrozen_66 : decode cX12_addsFrozen 66 = .ok (.bipush 22, 2) := by decide +kernel
theorem dX12_addsFrozen_68 : decode cX12_addsFrozen 68 = .ok (.iconst 3, 1) := by decide +kernel
theorem dX12_addsFrozen_69 : decode cX12_addsFrozen 69 = .ok (.iload 5, 2) := by decide +kernel
theorem dX12_addsFrozen_71 : decode cX12_addsFrozen 71 = .ok (.imul, 1) := by decide +kernel
theorem dX12_addsFrozen_72 : decode cX12_addsFrozen 72 = .ok (.iadd, 1) := by decide +kernel
theorem dX12_addsFrozen_73 : decode cX12_addsFrozen 73 = .ok (.iconst 2, 1) := by decide +kernel
theorem dX12_addsFrozen_74 : decode cX12_addsFrozen 74 = .ok (.iadd, 1) := by decide +kernel
theorem dX12_addsFrozen_75 : decode cX12_addsFrozen 75 = .ok (.iaload, 1) := by decide +kernel
theorem dX12_addsFrozen_76 : decode cX12_addsFrozen 76 = .ok (.i2l, 1) := by decide +kernel
theorem dX12_addsFrozen_77 : decode cX12_addsFrozen 77 = .ok (.lload_n 1, 1) := by decide +kernel
theorem dX12_addsFrozen_78 : decode cX12_addsFrozen 78 = .ok (.lmul, 1) := by decide +kernel
theorem dX12_addsFrozen_79 : decode cX12_addsFrozen 79 = .ok (.ldc2_w 251, 3) := by decide +kernel
theorem dX12_addsFrozen_82 : decode cX12_addsFrozen 82 = .ok (.ldiv, 1) := by decide +kernel
theorem dX12_addsFrozen_83 : decode cX12_addsFrozen 83 = .ok (.iload 5, 2) := by decide +kernel
theorem dX12_addsFrozen_85 : decode cX12_addsFrozen 85 = .ok (.ifCond .ne 7, 3) := by decide +kernel
theorem dX12_addsFrozen_88 : decode cX12_addsFrozen 88 = .ok (.lload_n 3, 1) := by decide +kernel
theorem dX12_addsFrozen_89 : decode cX12_addsFrozen 89 = .ok (.goto 4, 3) := by decide +kernel
theorem dX12_addsFrozen_92 : decode cX12_addsFrozen 92 = .ok (.lconst 0, 1) := by decide +kernel
theorem dX12_addsFrozen_93 : decode cX12_addsFrozen 93 = .ok (.ladd, 1) := by decide +kernel
theorem dX12_addsFrozen_94 : decode cX12_addsFrozen 94 = .ok (.lstore 6, 2) := by decide +kernel
theorem dX12_addsFrozen_96 : decode cX12_addsFrozen 96 = .ok (.lload 6, 2) := by decide +kernel
theorem dX12_addsFrozen_98 : decode cX12_addsFrozen 98 = .ok (.lconst 0, 1) := by decide +kernel
theorem dX12_addsFrozen_99 : decode cX12_addsFrozen 99 = .ok (.lcmp, 1) := by decide +kernel
theorem dX12_addsFrozen_100 : decode cX12_addsFrozen 100 = .ok (.ifCond .le 35, 3) := by decide +kernel
theorem dX12_addsFrozen_103 : decode cX12_addsFrozen 103 = .ok (.aload_n 0, 1) := by decide +kernel
theorem dX12_addsFrozen_104 : decode cX12_addsFrozen 104 = .ok (.aload_n 0, 1) := by decide +kernel
theorem dX12_addsFrozen_105 : decode cX12_addsFrozen 105 = .ok (.getfield 7, 3) := by decide +kernel
theorem dX12_addsFrozen_108 : decode cX12_addsFrozen 108 = .ok (.bipush 22, 2) := by decide +kernel
theorem dX12_addsFrozen_110 : decode cX12_addsFrozen 110 = .ok (.iconst 3, 1) := by decide +kernel
theorem dX12_addsFrozen_111 : decode cX12_addsFrozen 111 = .ok (.iload 5, 2) := by decide +kernel
theorem dX12_addsFrozen_113 : decode cX12_addsFrozen 113 = .ok (.imul, 1) := by decide +kernel
theorem dX12_addsFrozen_114 : decode cX12_addsFrozen 114 = .ok (.iadd, 1) := by decide +kernel
theorem dX12_addsFrozen_115 : decode cX12_addsFrozen 115 = .ok (.iaload, 1) := by decide +kernel
theorem dX12_addsFrozen_116 : decode cX12_addsFrozen 116 = .ok (.aload_n 0, 1) := by decide +kernel
theorem dX12_addsFrozen_117 : decode cX12_addsFrozen 117 = .ok (.getfield 7, 3) := by decide +kernel
theorem dX12_addsFrozen_120 : decode cX12_addsFrozen 120 = .ok (.bipush 22, 2) := by decide +kernel
theorem dX12_addsFrozen_122 : decode cX12_addsFrozen 122 = .ok (.iconst 3, 1) := by decide +kernel
theorem dX12_addsFrozen_123 : decode cX12_addsFrozen 123 = .ok (.iload 5, 2) := by decide +kernel
theorem dX12_addsFrozen_125 : decode cX12_addsFrozen 125 = .ok (.imul, 1) := by decide +kernel
theorem dX12_addsFrozen_126 : decode cX12_addsFrozen 126 = .ok (.iadd, 1) := by decide +kernel
theorem dX12_addsFrozen_127 : decode cX12_addsFrozen 127 = .ok (.iconst 1, 1) := by decide +kernel
theorem dX12_addsFrozen_128 : decode cX12_addsFrozen 128 = .ok (.iadd, 1) := by decide +kernel
theorem dX12_addsFrozen_129 : decode cX12_addsFrozen 129 = .ok (.iaload, 1) := by decide +kernel
theorem dX12_addsFrozen_130 : decode cX12_addsFrozen 130 = .ok (.lload 6, 2) := by decide +kernel
theorem dX12_addsFrozen_132 : decode cX12_addsFrozen 132 = .ok (.invokevirtual 268, 3) := by decide +kernel
theorem dX12_addsFrozen_135 : decode cX12_addsFrozen 135 = .ok (.iinc 5 1, 3) := by decide +kernel
theorem dX12_addsFrozen_138 : decode cX12_addsFrozen 138 = .ok (.goto (-88), 3) := by decide +kernel
theorem dX12_addsFrozen_141 : decode cX12_addsFrozen 141 = .ok (.return_, 1) := by decide +kernel
theorem dX12_poses_0 : decode cX12_poses 0 = .ok (.aload_n 0, 1) := by decide +kernel
theorem dX12_poses_1 : decode cX12_poses 1 = .ok (.iconst 0, 1) := by decide +kernel
theorem dX12_poses_2 : decode cX12_poses 2 = .ok (.putfield 265, 3) := by decide +kernel
theorem dX12_poses_5 : decode cX12_poses 5 = .ok (.aload_n 0, 1) := by decide +kernel
theorem dX12_poses_6 : decode cX12_poses 6 = .ok (.getfield 145, 3) := by decide +kernel
theorem dX12_poses_9 : decode cX12_poses 9 = .ok (.ifCond .ne 4, 3) := by decide +kernel
theorem dX12_poses_12 : decode cX12_poses 12 = .ok (.return_, 1) := by decide +kernel
theorem dX12_poses_13 : decode cX12_poses 13 = .ok (.aload_n 0, 1) := by decide +kernel
theorem dX12_poses_14 : decode cX12_poses 14 = .ok (.getfield 7, 3) := by decide +kernel
theorem dX12_poses_17 : decode cX12_poses 17 = .ok (.bipush 8, 2) := by decide +kernel
theorem dX12_poses_19 : decode cX12_poses 19 = .ok (.iaload, 1) := by decide +kernel
theorem dX12_poses_20 : decode cX12_poses 20 = .ok (.ifCond .ne 13, 3) := by decide +kernel
theorem dX12_poses_23 : decode cX12_poses 23 = .ok (.aload_n 0, 1) := by decide +kernel
theorem dX12_poses_24 : decode cX12_poses 24 = .ok (.bipush 12, 2) := by decide +kernel
theorem dX12_poses_26 : decode cX12_poses 26 = .ok (.ldc2_w 251, 3) := by decide +kernel
theorem dX12_poses_29 : decode cX12_poses 29 = .ok (.invokevirtual 272, 3) := by decide +kernel
theorem dX12_poses_32 : decode cX12_poses 32 = .ok (.return_, 1) := by decide +kernel
theorem dX12_poses_33 : decode cX12_poses 33 = .ok (.aload_n 0, 1) := by decide +kernel
theorem dX12_poses_34 : decode cX12_poses 34 = .ok (.invokevirtual 275, 3) := by decide +kernel
theorem dX12_poses_37 : decode cX12_poses 37 = .ok (.lstore_n 1, 1) := by decide +kernel
theorem dX12_poses_38 : decode cX12_poses 38 = .ok (.aload_n 0, 1) := by decide +kernel
theorem dX12_poses_39 : decode cX12_poses 39 = .ok (.getfield 7, 3) := by decide +kernel
theorem dX12_poses_42 : decode cX12_poses 42 = .ok (.bipush 20, 2) := by decide +kernel
theorem dX12_poses_44 : decode cX12_poses 44 = .ok (.iaload, 1) := by decide +kernel
theorem dX12_poses_45 : decode cX12_poses 45 = .ok (.iconst 1, 1) := by decide +kernel
theorem dX12_poses_46 : decode cX12_poses 46 = .ok (.if_icmp .ne 15, 3) := by decide +kernel
theorem dX12_poses_49 : decode cX12_poses 49 = .ok (.aload_n 0, 1) := by decide +kernel
theorem dX12_poses_50 : decode cX12_poses 50 = .ok (.ldc2_w 251, 3) := by decide +kernel
theorem dX12_poses_53 : decode cX12_poses 53 = .ok (.lload_n 1, 1) := by decide +kernel
theorem dX12_poses_54 : decode cX12_poses 54 = .ok (.lsub, 1) := by decide +kernel
theorem dX12_poses_55 : decode cX12_poses 55 = .ok (.invokevirtual 279, 3) := by decide +kernel
theorem dX12_poses_58 : decode cX12_poses 58 = .ok (.goto 14, 3) := by decide +kernel
theorem dX12_poses_61 : decode cX12_poses 61 = .ok (.aload_n 0, 1) := by decide +kernel
theorem dX12_poses_62 : decode cX12_poses 62 = .ok (.bipush 12, 2) := by decide +kernel
theorem dX12_poses_64 : decode cX12_poses 64 = .ok (.ldc2_w 251, 3) := by decide +kernel
theorem dX12_poses_67 : decode cX12_poses 67 = .ok (.lload_n 1, 1) := by decide +kernel
theorem dX12_poses_68 : decode cX12_poses 68 = .ok (.lsub, 1) := by decide +kernel
theorem dX12_poses_69 : decode cX12_poses 69 = .ok (.invokevirtual 272, 3) := by decide +kernel
theorem dX12_poses_72 : decode cX12_poses 72 = .ok (.aload_n 0, 1) := by decide +kernel
theorem dX12_poses_73 : decode cX12_poses 73 = .ok (.bipush 16, 2) := by decide +kernel
theorem dX12_poses_75 : decode cX12_poses 75 = .ok (.lload_n 1, 1) := by decide +kernel
theorem dX12_poses_76 : decode cX12_poses 76 = .ok (.invokevirtual 272, 3) := by decide +kernel
theorem dX12_poses_79 : decode cX12_poses 79 = .ok (.return_, 1) := by decide +kernel
theorem dX12_poseSize_0 : decode cX12_poseSize 0 = .ok (.aload_n 0, 1) := by decide +kernel
theorem dX12_poseSize_1 : decode cX12_poseSize 1 = .ok (.iconst 0, 1) := by decide +kernel
theorem dX12_poseSize_2 : decode cX12_poseSize 2 = .ok (.putfield 94, 3) := by decide +kernel
theorem dX12_poseSize_5 : decode cX12_poseSize 5 = .ok (.aload_n 0, 1) := by decide +kernel
theorem dX12_poseSize_6 : decode cX12_poseSize 6 = .ok (.invokevirtual 283, 3) := by decide +kernel
theorem dX12_poseSize_9 : decode cX12_poseSize 9 = .ok (.aload_n 0, 1) := by decide +kernel
theorem dX12_poseSize_10 : decode cX12_poseSize 10 = .ok (.getfield 265, 3) := by decide +kernel
theorem dX12_poseSize_13 : decode cX12_poseSize 13 = .ok (.ireturn, 1) := by decide +kernel
theorem dX12_hasEntry_0 : decode cX12_hasEntry 0 = .ok (.aload_n 0, 1) := by decide +kernel
theorem dX12_hasEntry_1 : decode cX12_hasEntry 1 = .ok (.iconst 0, 1) := by decide +kernel
theorem dX12_hasEntry_2 : decode cX12_hasEntry 2 = .ok (.putfield 94, 3) := by decide +kernel
theorem dX12_hasEntry_5 : decode cX12_hasEntry 5 = .ok (.aload_n 0, 1) := by decide +kernel
theorem dX12_hasEntry_6 : decode cX12_hasEntry 6 = .ok (.invokevirtual 283, 3) := by decide +kernel
theorem dX12_hasEntry_9 : decode cX12_hasEntry 9 = .ok (.iload_n 1, 1) := by decide +kernel
theorem dX12_hasEntry_10 : decode cX12_hasEntry 10 = .ok (.i2l, 1) := by decide +kernel
theorem dX12_hasEntry_11 : decode cX12_hasEntry 11 = .ok (.lconst 0, 1) := by decide +kernel
theorem dX12_hasEntry_12 : decode cX12_hasEntry 12 = .ok (.aload_n 0, 1) := by decide +kernel
theorem dX12_hasEntry_13 : decode cX12_hasEntry 13 = .ok (.getfield 265, 3) := by decide +kernel
theorem dX12_hasEntry_16 : decode cX12_hasEntry 16 = .ok (.iconst 1, 1) := by decide +kernel
theorem dX12_hasEntry_17 : decode cX12_hasEntry 17 = .ok (.isub, 1) := by decide +kernel
theorem dX12_hasEntry_18 : decode cX12_hasEntry 18 = .ok (.i2l, 1) := by decide +kernel
theorem dX12_hasEntry_19 : decode cX12_hasEntry 19 = .ok (.invokestatic 99, 3) := by decide +kernel
theorem dX12_hasEntry_22 : decode cX12_hasEntry 22 = .ok (.ireturn, 1) := by decide +kernel
theorem dX12_poseClip_0 : decode cX12_poseClip 0 = .ok (.aload_n 0, 1) := by decide +kernel
theorem dX12_poseClip_1 : decode cX12_poseClip 1 = .ok (.iload_n 1, 1) := by decide +kernel
theorem dX12_poseClip_2 : decode cX12_poseClip 2 = .ok (.invokevirtual 286, 3) := by decide +kernel
theorem dX12_poseClip_5 : decode cX12_poseClip 5 = .ok (.ifCond .eq 12, 3) := by decide +kernel
theorem dX12_poseClip_8 : decode cX12_poseClip 8 = .ok (.aload_n 0, 1) := by decide +kernel
theorem dX12_poseClip_9 : decode cX12_poseClip 9 = .ok (.getfield 82, 3) := by decide +kernel
theorem dX12_poseClip_12 : decode cX12_poseClip 12 = .ok (.iload_n 1, 1) := by decide +kernel
theorem dX12_poseClip_13 : decode cX12_poseClip 13 = .ok (.iaload, 1) := by decide +kernel
theorem dX12_poseClip_14 : decode cX12_poseClip 14 = .ok (.goto 8, 3) := by decide +kernel
theorem dX12_poseClip_17 : decode cX12_poseClip 17 = .ok (.aload_n 0, 1) := by decide +kernel
theorem dX12_poseClip_18 : decode cX12_poseClip 18 = .ok (.iconst 1, 1) := by decide +kernel
theorem dX12_poseClip_19 : decode cX12_poseClip 19 = .ok (.invokevirtual 103, 3) := by decide +kernel
theorem dX12_poseClip_22 : decode cX12_poseClip 22 = .ok (.ireturn, 1) := by decide +kernel
theorem dX12_poseTime_0 : decode cX12_poseTime 0 = .ok (.aload_n 0, 1) := by decide +kernel
theorem dX12_poseTime_1 : decode cX12_poseTime 1 = .ok (.iload_n 1, 1) := by decide +kernel
theorem dX12_poseTime_2 : decode cX12_poseTime 2 = .ok (.invokevirtual 286, 3) := by decide +kernel
theorem dX12_poseTime_5 : decode cX12_poseTime 5 = .ok (.ifCond .eq 12, 3) := by decide +kernel
theorem dX12_poseTime_8 : decode cX12_poseTime 8 = .ok (.aload_n 0, 1) := by decide +kernel
theorem dX12_poseTime_9 : decode cX12_poseTime 9 = .ok (.getfield 85, 3) := by decide +kernel
theorem dX12_poseTime_12 : decode cX12_poseTime 12 = .ok (.iload_n 1, 1) := by decide +kernel
theorem dX12_poseTime_13 : decode cX12_poseTime 13 = .ok (.iaload, 1) := by decide +kernel
theorem dX12_poseTime_14 : decode cX12_poseTime 14 = .ok (.goto 8, 3) := by decide +kernel
theorem dX12_poseTime_17 : decode cX12_poseTime 17 = .ok (.aload_n 0, 1) := by decide +kernel
theorem dX12_poseTime_18 : decode cX12_poseTime 18 = .ok (.iconst 1, 1) := by decide +kernel
theorem dX12_poseTime_19 : decode cX12_poseTime 19 = .ok (.invokevirtual 103, 3) := by decide +kernel
theorem dX12_poseTime_22 : decode cX12_poseTime 22 = .ok (.ireturn, 1) := by decide +kernel
theorem dX12_poseWeight_0 : decode cX12_poseWeight 0 = .ok (.aload_n 0, 1) := by decide +kernel
theorem dX12_poseWeight_1 : decode cX12_poseWeight 1 = .ok (.iload_n 1, 1) := by decide +kernel
theorem dX12_poseWeight_2 : decode cX12_poseWeight 2 = .ok (.invokevirtual 286, 3) := by decide +kernel
theorem dX12_poseWeight_5 : decode cX12_poseWeight 5 = .ok (.ifCond .eq 13, 3) := by decide +kernel
theorem dX12_poseWeight_8 : decode cX12_poseWeight 8 = .ok (.aload_n 0, 1) := by decide +kernel
theorem dX12_poseWeight_9 : decode cX12_poseWeight 9 = .ok (.getfield 88, 3) := by decide +kernel
theorem dX12_poseWeight_12 : decode cX12_poseWeight 12 = .ok (.iload_n 1, 1) := by decide +kernel
theorem dX12_poseWeight_13 : decode cX12_poseWeight 13 = .ok (.laload, 1) := by decide +kernel
theorem dX12_poseWeight_14 : decode cX12_poseWeight 14 = .ok (.l2i, 1) := by decide +kernel
theorem dX12_poseWeight_15 : decode cX12_poseWeight 15 = .ok (.goto 8, 3) := by decide +kernel
theorem dX12_poseWeight_18 : decode cX12_poseWeight 18 = .ok (.aload_n 0, 1) := by decide +kernel
theorem dX12_poseWeight_19 : decode cX12_poseWeight 19 = .ok (.iconst 1, 1) := by decide +kernel
theorem dX12_poseWeight_20 : decode cX12_poseWeight 20 = .ok (.invokevirtual 103, 3) := by decide +kernel
theorem dX12_poseWeight_23 : decode cX12_poseWeight 23 = .ok (.ireturn, 1) := by decide +kernel
theorem dX12_inList_0 : decode cX12_inList 0 = .ok (.aload_n 0, 1) := by decide +kernel
theorem dX12_inList_1 : decode cX12_inList 1 = .ok (.iload_n 1, 1) := by decide +kernel
theorem dX12_inList_2 : decode cX12_inList 2 = .ok (.iconst 0, 1) := by decide +kernel
theorem dX12_inList_3 : decode cX12_inList 3 = .ok (.invokevirtual 177, 3) := by decide +kernel
theorem dX12_inList_6 : decode cX12_inList 6 = .ok (.iconst (-1), 1) := by decide +kernel
theorem dX12_inList_7 : decode cX12_inList 7 = .ok (.if_icmp .eq 13, 3) := by decide +kernel
theorem dX12_inList_10 : decode cX12_inList 10 = .ok (.aload_n 0, 1) := by decide +kernel
theorem dX12_inList_11 : decode cX12_inList 11 = .ok (.iload_n 1, 1) := by decide +kernel
theorem dX12_inList_12 : decode cX12_inList 12 = .ok (.iconst 0, 1) := by decide +kernel
theorem dX12_inList_13 : decode cX12_inList 13 = .ok (.invokevirtual 177, 3) := by decide +kernel
theorem dX12_inList_16 : decode cX12_inList 16 = .ok (.iload_n 2, 1) := by decide +kernel
theorem dX12_inList_17 : decode cX12_inList 17 = .ok (.if_icmp .ne 7, 3) := by decide +kernel
theorem dX12_inList_20 : decode cX12_inList 20 = .ok (.iconst 1, 1) := by decide +kernel
theorem dX12_inList_21 : decode cX12_inList 21 = .ok (.goto 4, 3) := by decide +kernel
theorem dX12_inList_24 : decode cX12_inList 24 = .ok (.iconst 0, 1) := by decide +kernel
theorem dX12_inList_25 : decode cX12_inList 25 = .ok (.ireturn, 1) := by decide +kernel
theorem dX12_isBack_0 : decode cX12_isBack 0 = .ok (.aload_n 0, 1) := by decide +kernel
theorem dX12_isBack_1 : decode cX12_isBack 1 = .ok (.iload_n 1, 1) := by decide +kernel
theorem dX12_isBack_2 : decode cX12_isBack 2 = .ok (.iconst 0, 1) := by decide +kernel
theorem dX12_isBack_3 : decode cX12_isBack 3 = .ok (.invokevirtual 177, 3) := by decide +kernel
theorem dX12_isBack_6 : decode cX12_isBack 6 = .ok (.iconst (-1), 1) := by decide +kernel
theorem dX12_isBack_7 : decode cX12_isBack 7 = .ok (.if_icmp .ne 17, 3) := by decide +kernel
theorem dX12_isBack_10 : decode cX12_isBack 10 = .ok (.aload_n 0, 1) := by decide +kernel
theorem dX12_isBack_11 : decode cX12_isBack 11 = .ok (.iload_n 1, 1) := by decide +kernel
theorem dX12_isBack_12 : decode cX12_isBack 12 = .ok (.iconst 1, 1) := by decide +kernel
theorem dX12_isBack_13 : decode cX12_isBack 13 = .ok (.invokevirtual 177, 3) := by decide +kernel
theorem dX12_isBack_16 : decode cX12_isBack 16 = .ok (.iload_n 2, 1) := by decide +kernel
theorem dX12_isBack_17 : decode cX12_isBack 17 = .ok (.if_icmp .ne 7, 3) := by decide +kernel
theorem dX12_isBack_20 : decode cX12_isBack 20 = .ok (.iconst 1, 1) := by decide +kernel
theorem dX12_isBack_21 : decode cX12_isBack 21 = .ok (.goto 4, 3) := by decide +kernel
theorem dX12_isBack_24 : decode cX12_isBack 24 = .ok (.iconst 0, 1) := by decide +kernel
theorem dX12_isBack_25 : decode cX12_isBack 25 = .ok (.ireturn, 1) := by decide +kernel
theorem dX12_inSource_0 : decode cX12_inSource 0 = .ok (.aload_n 0, 1) := by decide +kernel
theorem dX12_inSource_1 : decode cX12_inSource 1 = .ok (.getfield 7, 3) := by decide +kernel
theorem dX12_inSource_4 : decode cX12_inSource 4 = .ok (.bipush 9, 2) := by decide +kernel
theorem dX12_inSource_6 : decode cX12_inSource 6 = .ok (.iaload, 1) := by decide +kernel
theorem dX12_inSource_7 : decode cX12_inSource 7 = .ok (.istore_n 2, 1) := by decide +kernel
theorem dX12_inSource_8 : decode cX12_inSource 8 = .ok (.aload_n 0, 1) := by decide +kernel
theorem dX12_inSource_9 : decode cX12_inSource 9 = .ok (.iload_n 1, 1) := by decide +kernel
theorem dX12_inSource_10 : decode cX12_inSource 10 = .ok (.aload_n 0, 1) := by decide +kernel
theorem dX12_inSource_11 : decode cX12_inSource 11 = .ok (.getfield 7, 3) := by decide +kernel
theorem dX12_inSource_14 : decode cX12_inSource 14 = .ok (.bipush 12, 2) := by decide +kernel
theorem dX12_inSource_16 : decode cX12_inSource 16 = .ok (.iaload, 1) := by decide +kernel
theorem dX12_inSource_17 : decode cX12_inSource 17 = .ok (.invokevirtual 289, 3) := by decide +kernel
theorem dX12_inSource_20 : decode cX12_inSource 20 = .ok (.ifCond .eq 42, 3) := by decide +kernel
theorem dX12_inSource_23 : decode cX12_inSource 23 = .ok (.iload_n 1, 1) := by decide +kernel
theorem dX12_inSource_24 : decode cX12_inSource 24 = .ok (.iload_n 2, 1) := by decide +kernel
theorem dX12_inSource_25 : decode cX12_inSource 25 = .ok (.if_icmp .eq 37, 3) := by decide +kernel
theorem dX12_inSource_28 : decode cX12_inSource 28 = .ok (.aload_n 0, 1) := by decide +kernel
theorem dX12_inSource_29 : decode cX12_inSource 29 = .ok (.iload_n 1, 1) := by decide +kernel
theorem dX12_inSource_30 : decode cX12_inSource 30 = .ok (.aload_n 0, 1) := by decide +kernel
theorem dX12_inSource_31 : decode cX12_inSource 31 = .ok (.getfield 7, 3) := by decide +kernel
theorem dX12_inSource_34 : decode cX12_inSource 34 = .ok (.bipush 16, 2) := by decide +kernel
theorem dX12_inSource_36 : decode cX12_inSource 36 = .ok (.iaload, 1) := by decide +kernel
theorem dX12_inSource_37 : decode cX12_inSource 37 = .ok (.invokevirtual 293, 3) := by decide +kernel
theorem dX12_inSource_40 : decode cX12_inSource 40 = .ok (.ifCond .ne 22, 3) := by decide +kernel
theorem dX12_inSource_43 : decode cX12_inSource 43 = .ok (.aload_n 0, 1) := by decide +kernel
theorem dX12_inSource_44 : decode cX12_inSource 44 = .ok (.iload_n 2, 1) := by decide +kernel
theorem dX12_inSource_45 : decode cX12_inSource 45 = .ok (.bipush 6, 2) := by decide +kernel
theorem dX12_inSource_47 : decode cX12_inSource 47 = .ok (.invokevirtual 177, 3) := by decide +kernel
theorem dX12_inSource_50 : decode cX12_inSource 50 = .ok (.ifCond .eq 8, 3) := by decide +kernel
theorem dX12_inSource_53 : decode cX12_inSource 53 = .ok (.iload_n 1, 1) := by decide +kernel
theorem dX12_inSource_54 : decode cX12_inSource 54 = .ok (.iload_n 2, 1) := by decide +kernel
theorem dX12_inSource_55 : decode cX12_inSource 55 = .ok (.if_icmp .ge 7, 3) := by decide +kernel
theorem dX12_inSource_58 : decode cX12_inSource 58 = .ok (.iconst 1, 1) := by decide +kernel
theorem dX12_inSource_59 : decode cX12_inSource 59 = .ok (.goto 4, 3) := by decide +kernel
theorem dX12_inSource_62 : decode cX12_inSource 62 = .ok (.iconst 0, 1) := by decide +kernel
theorem dX12_inSource_63 : decode cX12_inSource 63 = .ok (.ireturn, 1) := by decide +kernel
theorem dX12_inTarget_0 : decode cX12_inTarget 0 = .ok (.aload_n 0, 1) := by decide +kernel
theorem dX12_inTarget_1 : decode cX12_inTarget 1 = .ok (.iload_n 1, 1) := by decide +kernel
theorem dX12_inTarget_2 : decode cX12_inTarget 2 = .ok (.aload_n 0, 1) := by decide +kernel
theorem dX12_inTarget_3 : decode cX12_inTarget 3 = .ok (.getfield 7, 3) := by decide +kernel
theorem dX12_inTarget_6 : decode cX12_inTarget 6 = .ok (.bipush 16, 2) := by decide +kernel
theorem dX12_inTarget_8 : decode cX12_inTarget 8 = .ok (.iaload, 1) := by decide +kernel
theorem dX12_inTarget_9 : decode cX12_inTarget 9 = .ok (.invokevirtual 289, 3) := by decide +kernel
theorem dX12_inTarget_12 : decode cX12_inTarget 12 = .ok (.ifCond .eq 33, 3) := by decide +kernel
theorem dX12_inTarget_15 : decode cX12_inTarget 15 = .ok (.iload_n 1, 1) := by decide +kernel
theorem dX12_inTarget_16 : decode cX12_inTarget 16 = .ok (.aload_n 0, 1) := by decide +kernel
theorem dX12_inTarget_17 : decode cX12_inTarget 17 = .ok (.getfield 7, 3) := by decide +kernel
theorem dX12_inTarget_20 : decode cX12_inTarget 20 = .ok (.bipush 9, 2) := by decide +kernel
theorem dX12_inTarget_22 : decode cX12_inTarget 22 = .ok (.iaload, 1) := by decide +kernel
theorem dX12_inTarget_23 : decode cX12_inTarget 23 = .ok (.if_icmp .eq 22, 3) := by decide +kernel
theorem dX12_inTarget_26 : decode cX12_inTarget 26 = .ok (.aload_n 0, 1) := by decide +kernel
theorem dX12_inTarget_27 : decode cX12_inTarget 27 = .ok (.iload_n 1, 1) := by decide +kernel
theorem dX12_inTarget_28 : decode cX12_inTarget 28 = .ok (.aload_n 0, 1) := by decide +kernel
theorem dX12_inTarget_29 : decode cX12_inTarget 29 = .ok (.getfield 7, 3) := by decide +kernel
theorem dX12_inTarget_32 : decode cX12_inTarget 32 = .ok (.bipush 16, 2) := by decide +kernel
theorem dX12_inTarget_34 : decode cX12_inTarget 34 = .ok (.iaload, 1) := by decide +kernel
theorem dX12_inTarget_35 : decode cX12_inTarget 35 = .ok (.invokevirtual 293, 3) := by decide +kernel
theorem dX12_inTarget_38 : decode cX12_inTarget 38 = .ok (.ifCond .ne 7, 3) := by decide +kernel
theorem dX12_inTarget_41 : decode cX12_inTarget 41 = .ok (.iconst 1, 1) := by decide +kernel
theorem dX12_inTarget_42 : decode cX12_inTarget 42 = .ok (.goto 4, 3) := by decide +kernel
theorem dX12_inTarget_45 : decode cX12_inTarget 45 = .ok (.iconst 0, 1) := by decide +kernel
theorem dX12_inTarget_46 : decode cX12_inTarget 46 = .ok (.ireturn, 1) := by decide +kernel
theorem dX12_listOf_0 : decode cX12_listOf 0 = .ok (.aload_n 0, 1) := by decide +kernel
theorem dX12_listOf_1 : decode cX12_listOf 1 = .ok (.getfield 7, 3) := by decide +kernel
theorem dX12_listOf_4 : decode cX12_listOf 4 = .ok (.bipush 8, 2) := by decide +kernel
theorem dX12_listOf_6 : decode cX12_listOf 6 = .ok (.iaload, 1) := by decide +kernel
theorem dX12_listOf_7 : decode cX12_listOf 7 = .ok (.ifCond .ne 39, 3) := by decide +kernel
theorem dX12_listOf_10 : decode cX12_listOf 10 = .ok (.aload_n 0, 1) := by decide +kernel
theorem dX12_listOf_11 : decode cX12_listOf 11 = .ok (.iload_n 1, 1) := by decide +kernel
theorem dX12_listOf_12 : decode cX12_listOf 12 = .ok (.aload_n 0, 1) := by decide +kernel
theorem dX12_listOf_13 : decode cX12_listOf 13 = .ok (.getfield 7, 3) := by decide +kernel
theorem dX12_listOf_16 : decode cX12_listOf 16 = .ok (.bipush 12, 2) := by decide +kernel
theorem dX12_listOf_18 : decode cX12_listOf 18 = .ok (.iaload, 1) := by decide +kernel
theorem dX12_listOf_19 : decode cX12_listOf 19 = .ok (.invokevirtual 289, 3) := by decide +kernel
theorem dX12_listOf_22 : decode cX12_listOf 22 = .ok (.ifCond .eq 22, 3) := by decide +kernel
theorem dX12_listOf_25 : decode cX12_listOf 25 = .ok (.aload_n 0, 1) := by decide +kernel
theorem dX12_listOf_26 : decode cX12_listOf 26 = .ok (.iload_n 1, 1) := by decide +kernel
theorem dX12_listOf_27 : decode cX12_listOf 27 = .ok (.aload_n 0, 1) := by decide +kernel
theorem dX12_listOf_28 : decode cX12_listOf 28 = .ok (.getfield 7, 3) := by decide +kernel
theorem dX12_listOf_31 : decode cX12_listOf 31 = .ok (.bipush 12, 2) := by decide +kernel
theorem dX12_listOf_33 : decode cX12_listOf 33 = .ok (.iaload, 1) := by decide +kernel
theorem dX12_listOf_34 : decode cX12_listOf 34 = .ok (.invokevirtual 293, 3) := by decide +kernel
theorem dX12_listOf_37 : decode cX12_listOf 37 = .ok (.ifCond .ne 7, 3) := by decide +kernel
theorem dX12_listOf_40 : decode cX12_listOf 40 = .ok (.iconst 1, 1) := by decide +kernel
theorem dX12_listOf_41 : decode cX12_listOf 41 = .ok (.goto 4, 3) := by decide +kernel
theorem dX12_listOf_44 : decode cX12_listOf 44 = .ok (.iconst 0, 1) := by decide +kernel
theorem dX12_listOf_45 : decode cX12_listOf 45 = .ok (.ireturn, 1) := by decide +kernel
theorem dX12_listOf_46 : decode cX12_listOf 46 = .ok (.aload_n 0, 1) := by decide +kernel
theorem dX12_listOf_47 : decode cX12_listOf 47 = .ok (.getfield 7, 3) := by decide +kernel
theorem dX12_listOf_50 : decode cX12_listOf 50 = .ok (.bipush 11, 2) := by decide +kernel
theorem dX12_listOf_52 : decode cX12_listOf 52 = .ok (.iaload, 1) := by decide +kernel
theorem dX12_listOf_53 : decode cX12_listOf 53 = .ok (.iconst 2, 1) := by decide +kernel
theorem dX12_listOf_54 : decode cX12_listOf 54 = .ok (.if_icmp .lt 7, 3) := by decide +kernel
theorem dX12_listOf_57 : decode cX12_listOf 57 = .ok (.iconst 0, 1) := by decide +kernel
theorem dX12_listOf_58 : decode cX12_listOf 58 = .ok (.goto 15, 3) := by decide +kernel
theorem dX12_listOf_61 : decode cX12_listOf 61 = .ok (.aload_n 0, 1) := by decide +kernel
theorem dX12_listOf_62 : decode cX12_listOf 62 = .ok (.aload_n 0, 1) := by decide +kernel
theorem dX12_listOf_63 : decode cX12_listOf 63 = .ok (.getfield 7, 3) := by decide +kernel
theorem dX12_listOf_66 : decode cX12_listOf 66 = .ok (.bipush 9, 2) := by decide +kernel
theorem dX12_listOf_68 : decode cX12_listOf 68 = .ok (.iaload, 1) := by decide +kernel
theorem dX12_listOf_69 : decode cX12_listOf 69 = .ok (.iconst 5, 1) := by decide +kernel
theorem dX12_listOf_70 : decode cX12_listOf 70 = .ok (.invokevirtual 177, 3) := by decide +kernel
theorem dX12_listOf_73 : decode cX12_listOf 73 = .ok (.istore_n 2, 1) := by decide +kernel
theorem dX12_listOf_74 : decode cX12_listOf 74 = .ok (.iload_n 2, 1) := by decide +kernel
theorem dX12_listOf_75 : decode cX12_listOf 75 = .ok (.iconst 2, 1) := by decide +kernel
theorem dX12_listOf_76 : decode cX12_listOf 76 = .ok (.if_icmp .eq 19, 3) := by decide +kernel
theorem dX12_listOf_79 : decode cX12_listOf 79 = .ok (.iload_n 2, 1) := by decide +kernel
theorem dX12_listOf_80 : decode cX12_listOf 80 = .ok (.ifCond .le 15, 3) := by decide +kernel
theorem dX12_listOf_83 : decode cX12_listOf 83 = .ok (.aload_n 0, 1) := by decide +kernel
theorem dX12_listOf_84 : decode cX12_listOf 84 = .ok (.iload_n 1, 1) := by decide +kernel
theorem dX12_listOf_85 : decode cX12_listOf 85 = .ok (.invokevirtual 296, 3) := by decide +kernel
theorem dX12_listOf_88 : decode cX12_listOf 88 = .ok (.ifCond .eq 7, 3) := by decide +kernel
theorem dX12_listOf_91 : decode cX12_listOf 91 = .ok (.iconst 1, 1) := by decide +kernel
theorem dX12_listOf_92 : decode cX12_listOf 92 = .ok (.goto 4, 3) := by decide +kernel
theorem dX12_listOf_95 : decode cX12_listOf 95 = .ok (.iconst 0, 1) := by decide +kernel
theorem dX12_listOf_96 : decode cX12_listOf 96 = .ok (.istore_n 3, 1) := by decide +kernel
theorem dX12_listOf_97 : decode cX12_listOf 97 = .ok (.iload_n 2, 1) := by decide +kernel
theorem dX12_listOf_98 : decode cX12_listOf 98 = .ok (.iconst 1, 1) := by decide +kernel
theorem dX12_listOf_99 : decode cX12_listOf 99 = .ok (.if_icmp .le 15, 3) := by decide +kernel
theorem dX12_listOf_102 : decode cX12_listOf 102 = .ok (.aload_n 0, 1) := by decide +kernel
theorem dX12_listOf_103 : decode cX12_listOf 103 = .ok (.iload_n 1, 1) := by decide +kernel
theorem dX12_listOf_104 : decode cX12_listOf 104 = .ok (.invokevirtual 299, 3) := by decide +kernel
theorem dX12_listOf_107 : decode cX12_listOf 107 = .ok (.ifCond .eq 7, 3) := by decide +kernel
theorem dX12_listOf_110 : decode cX12_listOf 110 = .ok (.iconst 1, 1) := by decide +kernel
theorem dX12_listOf_111 : decode cX12_listOf 111 = .ok (.goto 4, 3) := by decide +kernel
theorem dX12_listOf_114 : decode cX12_listOf 114 = .ok (.iconst 0, 1) := by decide +kernel
theorem dX12_listOf_115 : decode cX12_listOf 115 = .ok (.istore 4, 2) := by decide +kernel
theorem dX12_listOf_117 : decode cX12_listOf 117 = .ok (.iload_n 2, 1) := by decide +kernel
theorem dX12_listOf_118 : decode cX12_listOf 118 = .ok (.iconst 4, 1) := by decide +kernel
theorem dX12_listOf_119 : decode cX12_listOf 119 = .ok (.if_icmp .ne 22, 3) := by decide +kernel
theorem dX12_listOf_122 : decode cX12_listOf 122 = .ok (.iload 4, 2) := by decide +kernel
theorem dX12_listOf_124 : decode cX12_listOf 124 = .ok (.ifCond .eq 7, 3) := by decide +kernel
theorem dX12_listOf_127 : decode cX12_listOf 127 = .ok (.iconst 2, 1) := by decide +kernel
theorem dX12_listOf_128 : decode cX12_listOf 128 = .ok (.goto 12, 3) := by decide +kernel
theorem dX12_listOf_131 : decode cX12_listOf 131 = .ok (.iload_n 3, 1) := by decide +kernel
theorem dX12_listOf_132 : decode cX12_listOf 132 = .ok (.ifCond .eq 7, 3) := by decide +kernel
theorem dX12_listOf_135 : decode cX12_listOf 135 = .ok (.iconst 1, 1) := by decide +kernel
theorem dX12_listOf_136 : decode cX12_listOf 136 = .ok (.goto 4, 3) := by decide +kernel
theorem dX12_listOf_139 : decode cX12_listOf 139 = .ok (.iconst 0, 1) := by decide +kernel
theorem dX12_listOf_140 : decode cX12_listOf 140 = .ok (.ireturn, 1) := by decide +kernel
theorem dX12_listOf_141 : decode cX12_listOf 141 = .ok (.iload_n 3, 1) := by decide +kernel
theorem dX12_listOf_142 : decode cX12_listOf 142 = .ok (.ifCond .eq 7, 3) := by decide +kernel
theorem dX12_listOf_145 : decode cX12_listOf 145 = .ok (.iconst 1, 1) := by decide +kernel
theorem dX12_listOf_146 : decode cX12_listOf 146 = .ok (.goto 13, 3) := by decide +kernel
theorem dX12_listOf_149 : decode cX12_listOf 149 = .ok (.iload 4, 2) := by decide +kernel
theorem dX12_listOf_151 : decode cX12_listOf 151 = .ok (.ifCond .eq 7, 3) := by decide +kernel
theorem dX12_listOf_154 : decode cX12_listOf 154 = .ok (.iconst 2, 1) := by decide +kernel
theorem dX12_listOf_155 : decode cX12_listOf 155 = .ok (.goto 4, 3) := by decide +kernel
theorem dX12_listOf_158 : decode cX12_listOf 158 = .ok (.iconst 0, 1) := by decide +kernel
theorem dX12_listOf_159 : decode cX12_listOf 159 = .ok (.ireturn, 1) := by decide +kernel
theorem dX12_holds_0 : decode cX12_holds 0 = .ok (.bipush 17, 2) := by decide +kernel
theorem dX12_holds_2 : decode cX12_holds 2 = .ok (.iload_n 1, 1) := by decide +kernel
theorem dX12_holds_3 : decode cX12_holds 3 = .ok (.imul, 1) := by decide +kernel
theorem dX12_holds_4 : decode cX12_holds 4 = .ok (.bipush 8, 2) := by decide +kernel
theorem dX12_holds_6 : decode cX12_holds 6 = .ok (.iadd, 1) := by decide +kernel
theorem dX12_holds_7 : decode cX12_holds 7 = .ok (.iconst 3, 1) := by decide +kernel
theorem dX12_holds_8 : decode cX12_holds 8 = .ok (.iload_n 2, 1) := by decide +kernel
theorem dX12_holds_9 : decode cX12_holds 9 = .ok (.imul, 1) := by decide +kernel
theorem dX12_holds_10 : decode cX12_holds 10 = .ok (.iadd, 1) := by decide +kernel
theorem dX12_holds_11 : decode cX12_holds 11 = .ok (.istore_n 3, 1) := by decide +kernel
theorem dX12_holds_12 : decode cX12_holds 12 = .ok (.aload_n 0, 1) := by decide +kernel
theorem dX12_holds_13 : decode cX12_holds 13 = .ok (.getfield 7, 3) := by decide +kernel
theorem dX12_holds_16 : decode cX12_holds 16 = .ok (.iconst 0, 1) := by decide +kernel
theorem dX12_holds_17 : decode cX12_holds 17 = .ok (.aload_n 0, 1) := by decide +kernel
theorem dX12_holds_18 : decode cX12_holds 18 = .ok (.getfield 59, 3) := by decide +kernel
theorem dX12_holds_21 : decode cX12_holds 21 = .ok (.iload_n 3, 1) := by decide +kernel
theorem dX12_holds_22 : decode cX12_holds 22 = .ok (.iaload, 1) := by decide +kernel
theorem dX12_holds_23 : decode cX12_holds 23 = .ok (.iadd, 1) := by decide +kernel
theorem dX12_holds_24 : decode cX12_holds 24 = .ok (.iaload, 1) := by decide +kernel
theorem dX12_holds_25 : decode cX12_holds 25 = .ok (.istore 4, 2) := by decide +kernel
theorem dX12_holds_27 : decode cX12_holds 27 = .ok (.aload_n 0, 1) := by decide +kernel
theorem dX12_holds_28 : decode cX12_holds 28 = .ok (.getfield 59, 3) := by decide +kernel
theorem dX12_holds_31 : decode cX12_holds 31 = .ok (.iload_n 3, 1) := by decide +kernel
theorem dX12_holds_32 : decode cX12_holds 32 = .ok (.iconst 2, 1) := by decide +kernel
theorem dX12_holds_33 : decode cX12_holds 33 = .ok (.iadd, 1) := by decide +kernel
theorem dX12_holds_34 : decode cX12_holds 34 = .ok (.iaload, 1) := by decide +kernel
theorem dX12_holds_35 : decode cX12_holds 35 = .ok (.istore 5, 2) := by decide +kernel
theorem dX12_holds_37 : decode cX12_holds 37 = .ok (.aload_n 0, 1) := by decide +kernel
theorem dX12_holds_38 : decode cX12_holds 38 = .ok (.getfield 59, 3) := by decide +kernel
theorem dX12_holds_41 : decode cX12_holds 41 = .ok (.iload_n 3, 1) := by decide +kernel
theorem dX12_holds_42 : decode cX12_holds 42 = .ok (.iconst 1, 1) := by decide +kernel
theorem dX12_holds_43 : decode cX12_holds 43 = .ok (.iadd, 1) := by decide +kernel
theorem dX12_holds_44 : decode cX12_holds 44 = .ok (.iaload, 1) := by decide +kernel
theorem dX12_holds_45 : decode cX12_holds 45 = .ok (.istore 6, 2) := by decide +kernel
theorem dX12_holds_47 : decode cX12_holds 47 = .ok (.iload 6, 2) := by decide +kernel
theorem dX12_holds_49 : decode cX12_holds 49 = .ok (.ifCond .ne 18, 3) := by decide +kernel
theorem dX12_holds_52 : decode cX12_holds 52 = .ok (.iload 4, 2) := by decide +kernel
theorem dX12_holds_54 : decode cX12_holds 54 = .ok (.iload 5, 2) := by decide +kernel
theorem dX12_holds_56 : decode cX12_holds 56 = .ok (.if_icmp .le 7, 3) := by decide +kernel
theorem dX12_holds_59 : decode cX12_holds 59 = .ok (.iconst 1, 1) := by decide +kernel
theorem dX12_holds_60 : decode cX12_holds 60 = .ok (.goto 61, 3) := by decide +kernel
theorem dX12_holds_63 : decode cX12_holds 63 = .ok (.iconst 0, 1) := by decide +kernel
theorem dX12_holds_64 : decode cX12_holds 64 = .ok (.goto 57, 3) := by decide +kernel
theorem dX12_holds_67 : decode cX12_holds 67 = .ok (.iload 6, 2) := by decide +kernel
theorem dX12_holds_69 : decode cX12_holds 69 = .ok (.iconst 1, 1) := by decide +kernel
theorem dX12_holds_70 : decode cX12_holds 70 = .ok (.if_icmp .ne 18, 3) := by decide +kernel
theorem dX12_holds_73 : decode cX12_holds 73 = .ok (.iload 4, 2) := by decide +kernel
theorem dX12_holds_75 : decode cX12_holds 75 = .ok (.iload 5, 2) := by decide +kernel
theorem dX12_holds_77 : decode cX12_holds 77 = .ok (.if_icmp .ge 7, 3) := by decide +kernel
theorem dX12_holds_80 : decode cX12_holds 80 = .ok (.iconst 1, 1) := by decide +kernel
theorem dX12_holds_81 : decode cX12_holds 81 = .ok (.goto 40, 3) := by decide +kernel
theorem dX12_holds_84 : decode cX12_holds 84 = .ok (.iconst 0, 1) := by decide +kernel
theorem dX12_holds_85 : decode cX12_holds 85 = .ok (.goto 36, 3) := by decide +kernel
theorem dX12_holds_88 : decode cX12_holds 88 = .ok (.iload 6, 2) := by decide +kernel
theorem dX12_holds_90 : decode cX12_holds 90 = .ok (.iconst 2, 1) := by decide +kernel
theorem dX12_holds_91 : decode cX12_holds 91 = .ok (.if_icmp .ne 18, 3) := by decide +kernel
theorem dX12_holds_94 : decode cX12_holds 94 = .ok (.iload 4, 2) := by decide +kernel
theorem dX12_holds_96 : decode cX12_holds 96 = .ok (.iload 5, 2) := by decide +kernel
theorem dX12_holds_98 : decode cX12_holds 98 = .ok (.if_icmp .ne 7, 3) := by decide +kernel
theorem dX12_holds_101 : decode cX12_holds 101 = .ok (.iconst 1, 1) := by decide +kernel
theorem dX12_holds_102 : decode cX12_holds 102 = .ok (.goto 19, 3) := by decide +kernel
theorem dX12_holds_105 : decode cX12_holds 105 = .ok (.iconst 0, 1) := by decide +kernel
theorem dX12_holds_106 : decode cX12_holds 106 = .ok (.goto 15, 3) := by decide +kernel
theorem dX12_holds_109 : decode cX12_holds 109 = .ok (.iload 4, 2) := by decide +kernel
theorem dX12_holds_111 : decode cX12_holds 111 = .ok (.iload 5, 2) := by decide +kernel
theorem dX12_holds_113 : decode cX12_holds 113 = .ok (.if_icmp .eq 7, 3) := by decide +kernel
theorem dX12_holds_116 : decode cX12_holds 116 = .ok (.iconst 1, 1) := by decide +kernel
theorem dX12_holds_117 : decode cX12_holds 117 = .ok (.goto 4, 3) := by decide +kernel
theorem dX12_holds_120 : decode cX12_holds 120 = .ok (.iconst 0, 1) := by decide +kernel
theorem dX12_holds_121 : decode cX12_holds 121 = .ok (.ireturn, 1) := by decide +kernel
theorem dX12_against_0 : decode cX12_against 0 = .ok (.iload_n 2, 1) := by decide +kernel
theorem dX12_against_1 : decode cX12_against 1 = .ok (.iconst 2, 1) := by decide +kernel
theorem dX12_against_2 : decode cX12_against 2 = .ok (.if_icmp .ne 8, 3) := by decide +kernel
theorem dX12_against_5 : decode cX12_against 5 = .ok (.bipush 16, 2) := by decide +kernel
theorem dX12_against_7 : decode cX12_against 7 = .ok (.goto 5, 3) := by decide +kernel
theorem dX12_against_10 : decode cX12_against 10 = .ok (.bipush 12, 2) := by decide +kernel
theorem dX12_against_12 : decode cX12_against 12 = .ok (.istore_n 3, 1) := by decide +kernel
theorem dX12_against_13 : decode cX12_against 13 = .ok (.aload_n 0, 1) := by decide +kernel
theorem dX12_against_14 : decode cX12_against 14 = .ok (.iload_n 1, 1) := by decide +kernel
theorem dX12_against_15 : decode cX12_against 15 = .ok (.iconst 3, 1) := by decide +kernel
theorem dX12_against_16 : decode cX12_against 16 = .ok (.invokevirtual 177, 3) := by decide +kernel
theorem dX12_against_19 : decode cX12_against 19 = .ok (.iconst (-1), 1) := by decide +kernel
theorem dX12_against_20 : decode cX12_against 20 = .ok (.if_icmp .eq 25, 3) := by decide +kernel
theorem dX12_against_23 : decode cX12_against 23 = .ok (.aload_n 0, 1) := by decide +kernel
theorem dX12_against_24 : decode cX12_against 24 = .ok (.iload_n 3, 1) := by decide +kernel
theorem dX12_against_25 : decode cX12_against 25 = .ok (.invokevirtual 257, 3) := by decide +kernel
theorem dX12_against_28 : decode cX12_against 28 = .ok (.aload_n 0, 1) := by decide +kernel
theorem dX12_against_29 : decode cX12_against 29 = .ok (.iload_n 1, 1) := by decide +kernel
theorem dX12_against_30 : decode cX12_against 30 = .ok (.iconst 3, 1) := by decide +kernel
theorem dX12_against_31 : decode cX12_against 31 = .ok (.invokevirtual 177, 3) := by decide +kernel
theorem dX12_against_34 : decode cX12_against 34 = .ok (.i2l, 1) := by decide +kernel
theorem dX12_against_35 : decode cX12_against 35 = .ok (.ldc2_w 302, 3) := by decide +kernel
theorem dX12_against_38 : decode cX12_against 38 = .ok (.lmul, 1) := by decide +kernel
theorem dX12_against_39 : decode cX12_against 39 = .ok (.lcmp, 1) := by decide +kernel
theorem dX12_against_40 : decode cX12_against 40 = .ok (.ifCond .ge 5, 3) := by decide +kernel
theorem dX12_against_43 : decode cX12_against 43 = .ok (.iconst 2, 1) := by decide +kernel
theorem dX12_against_44 : decode cX12_against 44 = .ok (.ireturn, 1) := by decide +kernel
theorem dX12_against_45 : decode cX12_against 45 = .ok (.iconst 0, 1) := by decide +kernel
theorem dX12_against_46 : decode cX12_against 46 = .ok (.istore 4, 2) := by decide +kernel
theorem dX12_against_48 : decode cX12_against 48 = .ok (.iload 4, 2) := by decide +kernel
theorem dX12_against_50 : decode cX12_against 50 = .ok (.aload_n 0, 1) := by decide +kernel
theorem dX12_against_51 : decode cX12_against 51 = .ok (.iload_n 1, 1) := by decide +kernel
theorem dX12_against_52 : decode cX12_against 52 = .ok (.bipush 7, 2) := by decide +kernel
theorem dX12_against_54 : decode cX12_against 54 = .ok (.invokevirtual 177, 3) := by decide +kernel
theorem dX12_against_57 : decode cX12_against 57 = .ok (.if_icmp .ge 24, 3) := by decide +kernel
theorem dX12_against_60 : decode cX12_against 60 = .ok (.aload_n 0, 1) := by decide +kernel
theorem dX12_against_61 : decode cX12_against 61 = .ok (.iload_n 1, 1) := by decide +kernel
theorem dX12_against_62 : decode cX12_against 62 = .ok (.iload 4, 2) := by decide +kernel
theorem dX12_against_64 : decode cX12_against 64 = .ok (.invokevirtual 304, 3) := by decide +kernel
theorem dX12_against_67 : decode cX12_against 67 = .ok (.ifCond .ne 8, 3) := by decide +kernel
theorem dX12_against_70 : decode cX12_against 70 = .ok (.iconst 3, 1) := by decide +kernel
theorem dX12_against_71 : decode cX12_against 71 = .ok (.iload 4, 2) := by decide +kernel
theorem dX12_against_73 : decode cX12_against 73 = .ok (.iadd, 1) := by decide +kernel
theorem dX12_against_74 : decode cX12_against 74 = .ok (.ireturn, 1) := by decide +kernel
theorem dX12_against_75 : decode cX12_against 75 = .ok (.iinc 4 1, 3) := by decide +kernel
theorem dX12_against_78 : decode cX12_against 78 = .ok (.goto (-30), 3) := by decide +kernel
theorem dX12_against_81 : decode cX12_against 81 = .ok (.iconst 0, 1) := by decide +kernel
theorem dX12_against_82 : decode cX12_against 82 = .ok (.ireturn, 1) := by decide +kernel
theorem dX12_firstOf_0 : decode cX12_firstOf 0 = .ok (.iconst 0, 1) := by decide +kernel
theorem dX12_firstOf_1 : decode cX12_firstOf 1 = .ok (.istore_n 2, 1) := by decide +kernel
theorem dX12_firstOf_2 : decode cX12_firstOf 2 = .ok (.iload_n 2, 1) := by decide +kernel
theorem dX12_firstOf_3 : decode cX12_firstOf 3 = .ok (.iconst 2, 1) := by decide +kernel
theorem dX12_firstOf_4 : decode cX12_firstOf 4 = .ok (.if_icmp .ge 72, 3) := by decide +kernel
theorem dX12_firstOf_7 : decode cX12_firstOf 7 = .ok (.iconst 0, 1) := by decide +kernel
theorem dX12_firstOf_8 : decode cX12_firstOf 8 = .ok (.istore_n 3, 1) := by decide +kernel
theorem dX12_firstOf_9 : decode cX12_firstOf 9 = .ok (.iload_n 3, 1) := by decide +kernel
theorem dX12_firstOf_10 : decode cX12_firstOf 10 = .ok (.aload_n 0, 1) := by decide +kernel
theorem dX12_firstOf_11 : decode cX12_firstOf 11 = .ok (.getfield 159, 3) := by decide +kernel
theorem dX12_firstOf_14 : decode cX12_firstOf 14 = .ok (.if_icmp .ge 56, 3) := by decide +kernel
theorem dX12_firstOf_17 : decode cX12_firstOf 17 = .ok (.aload_n 0, 1) := by decide +kernel
theorem dX12_firstOf_18 : decode cX12_firstOf 18 = .ok (.iload_n 3, 1) := by decide +kernel
theorem dX12_firstOf_19 : decode cX12_firstOf 19 = .ok (.iconst 0, 1) := by decide +kernel
theorem dX12_firstOf_20 : decode cX12_firstOf 20 = .ok (.invokevirtual 177, 3) := by decide +kernel
theorem dX12_firstOf_23 : decode cX12_firstOf 23 = .ok (.iconst (-1), 1) := by decide +kernel
theorem dX12_firstOf_24 : decode cX12_firstOf 24 = .ok (.if_icmp .ne 7, 3) := by decide +kernel
theorem dX12_firstOf_27 : decode cX12_firstOf 27 = .ok (.iconst 1, 1) := by decide +kernel
theorem dX12_firstOf_28 : decode cX12_firstOf 28 = .ok (.goto 4, 3) := by decide +kernel
theorem dX12_firstOf_31 : decode cX12_firstOf 31 = .ok (.iconst 0, 1) := by decide +kernel
theorem dX12_firstOf_32 : decode cX12_firstOf 32 = .ok (.iload_n 2, 1) := by decide +kernel
theorem dX12_firstOf_33 : decode cX12_firstOf 33 = .ok (.ifCond .ne 7, 3) := by decide +kernel
theorem dX12_firstOf_36 : decode cX12_firstOf 36 = .ok (.iconst 1, 1) := by decide +kernel
theorem dX12_firstOf_37 : decode cX12_firstOf 37 = .ok (.goto 4, 3) := by decide +kernel
theorem dX12_firstOf_40 : decode cX12_firstOf 40 = .ok (.iconst 0, 1) := by decide +kernel
theorem dX12_firstOf_41 : decode cX12_firstOf 41 = .ok (.if_icmp .ne 23, 3) := by decide +kernel
theorem dX12_firstOf_44 : decode cX12_firstOf 44 = .ok (.aload_n 0, 1) := by decide +kernel
theorem dX12_firstOf_45 : decode cX12_firstOf 45 = .ok (.iload_n 3, 1) := by decide +kernel
theorem dX12_firstOf_46 : decode cX12_firstOf 46 = .ok (.invokevirtual 307, 3) := by decide +kernel
theorem dX12_firstOf_49 : decode cX12_firstOf 49 = .ok (.iload_n 1, 1) := by decide +kernel
theorem dX12_firstOf_50 : decode cX12_firstOf 50 = .ok (.if_icmp .ne 14, 3) := by decide +kernel
theorem dX12_firstOf_53 : decode cX12_firstOf 53 = .ok (.aload_n 0, 1) := by decide +kernel
theorem dX12_firstOf_54 : decode cX12_firstOf 54 = .ok (.iload_n 3, 1) := by decide +kernel
theorem dX12_firstOf_55 : decode cX12_firstOf 55 = .ok (.iload_n 1, 1) := by decide +kernel
theorem dX12_firstOf_56 : decode cX12_firstOf 56 = .ok (.invokevirtual 310, 3) := by decide +kernel
theorem dX12_firstOf_59 : decode cX12_firstOf 59 = .ok (.ifCond .ne 5, 3) := by decide +kernel
theorem dX12_firstOf_62 : decode cX12_firstOf 62 = .ok (.iload_n 3, 1) := by decide +kernel
theorem dX12_firstOf_63 : decode cX12_firstOf 63 = .ok (.ireturn, 1) := by decide +kernel
theorem dX12_firstOf_64 : decode cX12_firstOf 64 = .ok (.iinc 3 1, 3) := by decide +kernel
theorem dX12_firstOf_67 : decode cX12_firstOf 67 = .ok (.goto (-58), 3) := by decide +kernel
theorem dX12_firstOf_70 : decode cX12_firstOf 70 = .ok (.iinc 2 1, 3) := by decide +kernel
theorem dX12_firstOf_73 : decode cX12_firstOf 73 = .ok (.goto (-71), 3) := by decide +kernel
theorem dX12_firstOf_76 : decode cX12_firstOf 76 = .ok (.iconst (-1), 1) := by decide +kernel
theorem dX12_firstOf_77 : decode cX12_firstOf 77 = .ok (.ireturn, 1) := by decide +kernel
theorem dX12_blocked_0 : decode cX12_blocked 0 = .ok (.aload_n 0, 1) := by decide +kernel
theorem dX12_blocked_1 : decode cX12_blocked 1 = .ok (.iconst 0, 1) := by decide +kernel
theorem dX12_blocked_2 : decode cX12_blocked 2 = .ok (.putfield 94, 3) := by decide +kernel
theorem dX12_blocked_5 : decode cX12_blocked 5 = .ok (.aload_n 0, 1) := by decide +kernel
theorem dX12_blocked_6 : decode cX12_blocked 6 = .ok (.iload_n 1, 1) := by decide +kernel
theorem dX12_blocked_7 : decode cX12_blocked 7 = .ok (.invokevirtual 170, 3) := by decide +kernel
theorem dX12_blocked_10 : decode cX12_blocked 10 = .ok (.ifCond .ne 9, 3) := by decide +kernel
theorem dX12_blocked_13 : decode cX12_blocked 13 = .ok (.aload_n 0, 1) := by decide +kernel
theorem dX12_blocked_14 : decode cX12_blocked 14 = .ok (.iconst 1, 1) := by decide +kernel
theorem dX12_blocked_15 : decode cX12_blocked 15 = .ok (.invokevirtual 103, 3) := by decide +kernel
theorem dX12_blocked_18 : decode cX12_blocked 18 = .ok (.ireturn, 1) := by decide +kernel
theorem dX12_blocked_19 : decode cX12_blocked 19 = .ok (.aload_n 0, 1) := by decide +kernel
theorem dX12_blocked_20 : decode cX12_blocked 20 = .ok (.getfield 145, 3) := by decide +kernel
theorem dX12_blocked_23 : decode cX12_blocked 23 = .ok (.ifCond .ne 7, 3) := by decide +kernel
theorem dX12_blocked_26 : decode cX12_blocked 26 = .ok (.iconst 0, 1) := by decide +kernel
theorem dX12_blocked_27 : decode cX12_blocked 27 = .ok (.goto 8, 3) := by decide +kernel
theorem dX12_blocked_30 : decode cX12_blocked 30 = .ok (.aload_n 0, 1) := by decide +kernel
theorem dX12_blocked_31 : decode cX12_blocked 31 = .ok (.iload_n 1, 1) := by decide +kernel
theorem dX12_blocked_32 : decode cX12_blocked 32 = .ok (.invokevirtual 307, 3) := by decide +kernel
theorem dX12_blocked_35 : decode cX12_blocked 35 = .ok (.istore_n 2, 1) := by decide +kernel
theorem dX12_blocked_36 : decode cX12_blocked 36 = .ok (.iload_n 2, 1) := by decide +kernel
theorem dX12_blocked_37 : decode cX12_blocked 37 = .ok (.ifCond .ne 7, 3) := by decide +kernel
theorem dX12_blocked_40 : decode cX12_blocked 40 = .ok (.iconst 1, 1) := by decide +kernel
theorem dX12_blocked_41 : decode cX12_blocked 41 = .ok (.goto 9, 3) := by decide +kernel
theorem dX12_blocked_44 : decode cX12_blocked 44 = .ok (.aload_n 0, 1) := by decide +kernel
theorem dX12_blocked_45 : decode cX12_blocked 45 = .ok (.iload_n 1, 1) := by decide +kernel
theorem dX12_blocked_46 : decode cX12_blocked 46 = .ok (.iload_n 2, 1) := by decide +kernel
theorem dX12_blocked_47 : decode cX12_blocked 47 = .ok (.invokevirtual 310, 3) := by decide +kernel
theorem dX12_blocked_50 : decode cX12_blocked 50 = .ok (.ireturn, 1) := by decide +kernel
theorem dX12_takes_0 : decode cX12_takes 0 = .ok (.aload_n 0, 1) := by decide +kernel
theorem dX12_takes_1 : decode cX12_takes 1 = .ok (.getfield 7, 3) := by decide +kernel
theorem dX12_takes_4 : decode cX12_takes 4 = .ok (.bipush 8, 2) := by decide +kernel
theorem dX12_takes_6 : decode cX12_takes 6 = .ok (.iaload, 1) := by decide +kernel
theorem dX12_takes_7 : decode cX12_takes 7 = .ok (.iconst 1, 1) := by decide +kernel
theorem dX12_takes_8 : decode cX12_takes 8 = .ok (.if_icmp .ne 23, 3) := by decide +kernel
theorem dX12_takes_11 : decode cX12_takes 11 = .ok (.aload_n 0, 1) := by decide +kernel
theorem dX12_takes_12 : decode cX12_takes 12 = .ok (.aload_n 0, 1) := by decide +kernel
theorem dX12_takes_13 : decode cX12_takes 13 = .ok (.getfield 7, 3) := by decide +kernel
theorem dX12_takes_16 : decode cX12_takes 16 = .ok (.bipush 9, 2) := by decide +kernel
theorem dX12_takes_18 : decode cX12_takes 18 = .ok (.iaload, 1) := by decide +kernel
theorem dX12_takes_19 : decode cX12_takes 19 = .ok (.iconst 5, 1) := by decide +kernel
theorem dX12_takes_20 : decode cX12_takes 20 = .ok (.invokevirtual 177, 3) := by decide +kernel
theorem dX12_takes_23 : decode cX12_takes 23 = .ok (.iconst 4, 1) := by decide +kernel
theorem dX12_takes_24 : decode cX12_takes 24 = .ok (.if_icmp .ne 7, 3) := by decide +kernel
theorem dX12_takes_27 : decode cX12_takes 27 = .ok (.iconst 1, 1) := by decide +kernel
theorem dX12_takes_28 : decode cX12_takes 28 = .ok (.goto 4, 3) := by decide +kernel
theorem dX12_takes_31 : decode cX12_takes 31 = .ok (.iconst 0, 1) := by decide +kernel
theorem dX12_takes_32 : decode cX12_takes 32 = .ok (.istore_n 1, 1) := by decide +kernel
theorem dX12_takes_33 : decode cX12_takes 33 = .ok (.iload_n 1, 1) := by decide +kernel
theorem dX12_takes_34 : decode cX12_takes 34 = .ok (.ifCond .eq 7, 3) := by decide +kernel
theorem dX12_takes_37 : decode cX12_takes 37 = .ok (.iconst 2, 1) := by decide +kernel
theorem dX12_takes_38 : decode cX12_takes 38 = .ok (.goto 4, 3) := by decide +kernel
theorem dX12_takes_41 : decode cX12_takes 41 = .ok (.iconst 1, 1) := by decide +kernel
theorem dX12_takes_42 : decode cX12_takes 42 = .ok (.istore_n 2, 1) := by decide +kernel
theorem dX12_takes_43 : decode cX12_takes 43 = .ok (.aload_n 0, 1) := by decide +kernel
theorem dX12_takes_44 : decode cX12_takes 44 = .ok (.iload_n 2, 1) := by decide +kernel
theorem dX12_takes_45 : decode cX12_takes 45 = .ok (.invokevirtual 313, 3) := by decide +kernel
theorem dX12_takes_48 : decode cX12_takes 48 = .ok (.istore_n 3, 1) := by decide +kernel
theorem dX12_takes_49 : decode cX12_takes 49 = .ok (.iload_n 3, 1) := by decide +kernel
theorem dX12_takes_50 : decode cX12_takes 50 = .ok (.iconst (-1), 1) := by decide +kernel
theorem dX12_takes_51 : decode cX12_takes 51 = .ok (.if_icmp .ne 13, 3) := by decide +kernel
theorem dX12_takes_54 : decode cX12_takes 54 = .ok (.iconst 3, 1) := by decide +kernel
theorem dX12_takes_55 : decode cX12_takes 55 = .ok (.iload_n 2, 1) := by decide +kernel
theorem dX12_takes_56 : decode cX12_takes 56 = .ok (.isub, 1) := by decide +kernel
theorem dX12_takes_57 : decode cX12_takes 57 = .ok (.istore_n 2, 1) := by decide +kernel
theorem dX12_takes_58 : decode cX12_takes 58 = .ok (.aload_n 0, 1) := by decide +kernel
theorem dX12_takes_59 : decode cX12_takes 59 = .ok (.iload_n 2, 1) := by decide +kernel
theorem dX12_takes_60 : decode cX12_takes 60 = .ok (.invokevirtual 313, 3) := by decide +kernel
theorem dX12_takes_63 : decode cX12_takes 63 = .ok (.istore_n 3, 1) := by decide +kernel
theorem dX12_takes_64 : decode cX12_takes 64 = .ok (.iload_n 3, 1) := by decide +kernel
theorem dX12_takes_65 : decode cX12_takes 65 = .ok (.iconst (-1), 1) := by decide +kernel
theorem dX12_takes_66 : decode cX12_takes 66 = .ok (.if_icmp .ne 5, 3) := by decide +kernel
theorem dX12_takes_69 : decode cX12_takes 69 = .ok (.iconst 0, 1) := by decide +kernel
theorem dX12_takes_70 : decode cX12_takes 70 = .ok (.ireturn, 1) := by decide +kernel
theorem dX12_takes_71 : decode cX12_takes 71 = .ok (.iconst 0, 1) := by decide +kernel
theorem dX12_takes_72 : decode cX12_takes 72 = .ok (.istore 4, 2) := by decide +kernel
theorem dX12_takes_74 : decode cX12_takes 74 = .ok (.iload 4, 2) := by decide +kernel
theorem dX12_takes_76 : decode cX12_takes 76 = .ok (.aload_n 0, 1) := by decide +kernel
theorem dX12_takes_77 : decode cX12_takes 77 = .ok (.iload_n 3, 1) := by decide +kernel
theorem dX12_takes_78 : decode cX12_takes 78 = .ok (.bipush 7, 2) := by decide +kernel
theorem dX12_takes_80 : decode cX12_takes 80 = .ok (.invokevirtual 177, 3) := by decide +kernel
theorem dX12_takes_83 : decode cX12_takes 83 = .ok (.if_icmp .ge 61, 3) := by decide +kernel
theorem dX12_takes_86 : decode cX12_takes 86 = .ok (.aload_n 0, 1) := by decide +kernel
theorem dX12_takes_87 : decode cX12_takes 87 = .ok (.getfield 59, 3) := by decide +kernel
theorem dX12_takes_90 : decode cX12_takes 90 = .ok (.bipush 17, 2) := by decide +kernel
theorem dX12_takes_92 : decode cX12_takes 92 = .ok (.iload_n 3, 1) := by decide +kernel
theorem dX12_takes_93 : decode cX12_takes 93 = .ok (.imul, 1) := by decide +kernel
theorem dX12_takes_94 : decode cX12_takes 94 = .ok (.bipush 8, 2) := by decide +kernel
theorem dX12_takes_96 : decode cX12_takes 96 = .ok (.iadd, 1) := by decide +kernel
theorem dX12_takes_97 : decode cX12_takes 97 = .ok (.iconst 3, 1) := by decide +kernel
theorem dX12_takes_98 : decode cX12_takes 98 = .ok (.iload 4, 2) := by decide +kernel
theorem dX12_takes_100 : decode cX12_takes 100 = .ok (.imul, 1) := by decide +kernel
theorem dX12_takes_101 : decode cX12_takes 101 = .ok (.iadd, 1) := by decide +kernel
theorem dX12_takes_102 : decode cX12_takes 102 = .ok (.iaload, 1) := by decide +kernel
theorem dX12_takes_103 : decode cX12_takes 103 = .ok (.istore 5, 2) := by decide +kernel
theorem dX12_takes_105 : decode cX12_takes 105 = .ok (.aload_n 0, 1) := by decide +kernel
theorem dX12_takes_106 : decode cX12_takes 106 = .ok (.getfield 7, 3) := by decide +kernel
theorem dX12_takes_109 : decode cX12_takes 109 = .ok (.iconst 0, 1) := by decide +kernel
theorem dX12_takes_110 : decode cX12_takes 110 = .ok (.iload 5, 2) := by decide +kernel
theorem dX12_takes_112 : decode cX12_takes 112 = .ok (.iadd, 1) := by decide +kernel
theorem dX12_takes_113 : decode cX12_takes 113 = .ok (.aload_n 0, 1) := by decide +kernel
theorem dX12_takes_114 : decode cX12_takes 114 = .ok (.getfield 17, 3) := by decide +kernel
theorem dX12_takes_117 : decode cX12_takes 117 = .ok (.iload 5, 2) := by decide +kernel
theorem dX12_takes_119 : decode cX12_takes 119 = .ok (.iaload, 1) := by decide +kernel
theorem dX12_takes_120 : decode cX12_takes 120 = .ok (.iconst 2, 1) := by decide +kernel
theorem dX12_takes_121 : decode cX12_takes 121 = .ok (.if_icmp .ne 7, 3) := by decide +kernel
theorem dX12_takes_124 : decode cX12_takes 124 = .ok (.iconst 0, 1) := by decide +kernel
theorem dX12_takes_125 : decode cX12_takes 125 = .ok (.goto 12, 3) := by decide +kernel
theorem dX12_takes_128 : decode cX12_takes 128 = .ok (.aload_n 0, 1) := by decide +kernel
theorem dX12_takes_129 : decode cX12_takes 129 = .ok (.getfield 7, 3) := by decide +kernel
theorem dX12_takes_132 : decode cX12_takes 132 = .ok (.iconst 0, 1) := by decide +kernel
theorem dX12_takes_133 : decode cX12_takes 133 = .ok (.iload 5, 2) := by decide +kernel
theorem dX12_takes_135 : decode cX12_takes 135 = .ok (.iadd, 1) := by decide +kernel
theorem dX12_takes_136 : decode cX12_takes 136 = .ok (.iaload, 1) := by decide +kernel
theorem dX12_takes_137 : decode cX12_takes 137 = .ok (.iastore, 1) := by decide +kernel
theorem dX12_takes_138 : decode cX12_takes 138 = .ok (.iinc 4 1, 3) := by decide +kernel
theorem dX12_takes_141 : decode cX12_takes 141 = .ok (.goto (-67), 3) := by decide +kernel
theorem dX12_takes_144 : decode cX12_takes 144 = .ok (.aload_n 0, 1) := by decide +kernel
theorem dX12_takes_145 : decode cX12_takes 145 = .ok (.getfield 7, 3) := by decide +kernel
theorem dX12_takes_148 : decode cX12_takes 148 = .ok (.bipush 8, 2) := by decide +kernel
theorem dX12_takes_150 : decode cX12_takes 150 = .ok (.iaload, 1) := by decide +kernel
theorem dX12_takes_151 : decode cX12_takes 151 = .ok (.iconst 1, 1) := by decide +kernel
theorem dX12_takes_152 : decode cX12_takes 152 = .ok (.if_icmp .ne 11, 3) := by decide +kernel
theorem dX12_takes_155 : decode cX12_takes 155 = .ok (.aload_n 0, 1) := by decide +kernel
theorem dX12_takes_156 : decode cX12_takes 156 = .ok (.iload_n 2, 1) := by decide +kernel
theorem dX12_takes_157 : decode cX12_takes 157 = .ok (.invokevirtual 316, 3) := by decide +kernel
theorem dX12_takes_160 : decode cX12_takes 160 = .ok (.goto 27, 3) := by decide +kernel
theorem dX12_takes_163 : decode cX12_takes 163 = .ok (.aload_n 0, 1) := by decide +kernel
theorem dX12_takes_164 : decode cX12_takes 164 = .ok (.getfield 7, 3) := by decide +kernel
theorem dX12_takes_167 : decode cX12_takes 167 = .ok (.bipush 11, 2) := by decide +kernel
theorem dX12_takes_169 : decode cX12_takes 169 = .ok (.iconst 0, 1) := by decide +kernel
theorem dX12_takes_170 : decode cX12_takes 170 = .ok (.iastore, 1) := by decide +kernel
theorem dX12_takes_171 : decode cX12_takes 171 = .ok (.aload_n 0, 1) := by decide +kernel
theorem dX12_takes_172 : decode cX12_takes 172 = .ok (.getfield 7, 3) := by decide +kernel
theorem dX12_takes_175 : decode cX12_takes 175 = .ok (.bipush 20, 2) := by decide +kernel
theorem dX12_takes_177 : decode cX12_takes 177 = .ok (.iconst 0, 1) := by decide +kernel
theorem dX12_takes_178 : decode cX12_takes 178 = .ok (.iastore, 1) := by decide +kernel
theorem dX12_takes_179 : decode cX12_takes 179 = .ok (.aload_n 0, 1) := by decide +kernel
theorem dX12_takes_180 : decode cX12_takes 180 = .ok (.getfield 7, 3) := by decide +kernel
theorem dX12_takes_183 : decode cX12_takes 183 = .ok (.bipush 21, 2) := by decide +kernel
theorem dX12_takes_185 : decode cX12_takes 185 = .ok (.iconst 0, 1) := by decide +kernel
theorem dX12_takes_186 : decode cX12_takes 186 = .ok (.iastore, 1) := by decide +kernel
theorem dX12_takes_187 : decode cX12_takes 187 = .ok (.aload_n 0, 1) := by decide +kernel
theorem dX12_takes_188 : decode cX12_takes 188 = .ok (.iload_n 3, 1) := by decide +kernel
theorem dX12_takes_189 : decode cX12_takes 189 = .ok (.invokevirtual 319, 3) := by decide +kernel
theorem dX12_takes_192 : decode cX12_takes 192 = .ok (.iconst 1, 1) := by decide +kernel
theorem dX12_takes_193 : decode cX12_takes 193 = .ok (.ireturn, 1) := by decide +kernel
theorem dX12_copiesTrack_0 : decode cX12_copiesTrack 0 = .ok (.iconst 0, 1) := by decide +kernel
theorem dX12_copiesTrack_1 : decode cX12_copiesTrack 1 = .ok (.istore_n 3, 1) := by decide +kernel
theorem dX12_copiesTrack_2 : decode cX12_copiesTrack 2 = .ok (.iload_n 3, 1) := by decide +kernel
theorem dX12_copiesTrack_3 : decode cX12_copiesTrack 3 = .ok (.iconst 4, 1) := by decide +kernel
theorem dX12_copiesTrack_4 : decode cX12_copiesTrack 4 = .ok (.if_icmp .ge 25, 3) := by decide +kernel
theorem dX12_copiesTrack_7 : decode cX12_copiesTrack 7 = .ok (.aload_n 0, 1) := by decide +kernel
theorem dX12_copiesTrack_8 : decode cX12_copiesTrack 8 = .ok (.getfield 7, 3) := by decide +kernel
theorem dX12_copiesTrack_11 : decode cX12_copiesTrack 11 = .ok (.iload_n 2, 1) := by decide +kernel
theorem dX12_copiesTrack_12 : decode cX12_copiesTrack 12 = .ok (.iload_n 3, 1) := by decide +kernel
theorem dX12_copiesTrack_13 : decode cX12_copiesTrack 13 = .ok (.iadd, 1) := by decide +kernel
theorem dX12_copiesTrack_14 : decode cX12_copiesTrack 14 = .ok (.aload_n 0, 1) := by decide +kernel
theorem dX12_copiesTrack_15 : decode cX12_copiesTrack 15 = .ok (.getfield 7, 3) := by decide +kernel
theorem dX12_copiesTrack_18 : decode cX12_copiesTrack 18 = .ok (.iload_n 1, 1) := by decide +kernel
theorem dX12_copiesTrack_19 : decode cX12_copiesTrack 19 = .ok (.iload_n 3, 1) := by decide +kernel
theorem dX12_copiesTrack_20 : decode cX12_copiesTrack 20 = .ok (.iadd, 1) := by decide +kernel
theorem dX12_copiesTrack_21 : decode cX12_copiesTrack 21 = .ok (.iaload, 1) := by decide +kernel
theorem dX12_copiesTrack_22 : decode cX12_copiesTrack 22 = .ok (.iastore, 1) := by decide +kernel
theorem dX12_copiesTrack_23 : decode cX12_copiesTrack 23 = .ok (.iinc 3 1, 3) := by decide +kernel
theorem dX12_copiesTrack_26 : decode cX12_copiesTrack 26 = .ok (.goto (-24), 3) := by decide +kernel
theorem dX12_copiesTrack_29 : decode cX12_copiesTrack 29 = .ok (.return_, 1) := by decide +kernel
theorem dX12_freezes_0 : decode cX12_freezes 0 = .ok (.aload_n 0, 1) := by decide +kernel
theorem dX12_freezes_1 : decode cX12_freezes 1 = .ok (.invokevirtual 283, 3) := by decide +kernel
theorem dX12_freezes_4 : decode cX12_freezes 4 = .ok (.iconst 0, 1) := by decide +kernel
theorem dX12_freezes_5 : decode cX12_freezes 5 = .ok (.istore_n 2, 1) := by decide +kernel
theorem dX12_freezes_6 : decode cX12_freezes 6 = .ok (.iload_n 2, 1) := by decide +kernel
theorem dX12_freezes_7 : decode cX12_freezes 7 = .ok (.aload_n 0, 1) := by decide +kernel
theorem dX12_freezes_8 : decode cX12_freezes 8 = .ok (.getfield 265, 3) := by decide +kernel
theorem dX12_freezes_11 : decode cX12_freezes 11 = .ok (.if_icmp .ge 65, 3) := by decide +kernel
theorem dX12_freezes_14 : decode cX12_freezes 14 = .ok (.aload_n 0, 1) := by decide +kernel
theorem dX12_freezes_15 : decode cX12_freezes 15 = .ok (.getfield 7, 3) := by decide +kernel
theorem dX12_freezes_18 : decode cX12_freezes 18 = .ok (.bipush 22, 2) := by decide +kernel
theorem dX12_freezes_20 : decode cX12_freezes 20 = .ok (.iconst 3, 1) := by decide +kernel
theorem dX12_freezes_21 : decode cX12_freezes 21 = .ok (.iload_n 2, 1) := by decide +kernel
theorem dX12_freezes_22 : decode cX12_freezes 22 = .ok (.imul, 1) := by decide +kernel
theorem dX12_freezes_23 : decode cX12_freezes 23 = .ok (.iadd, 1) := by decide +kernel
theorem dX12_freezes_24 : decode cX12_freezes 24 = .ok (.aload_n 0, 1) := by decide +kernel
theorem dX12_freezes_25 : decode cX12_freezes 25 = .ok (.getfield 82, 3) := by decide +kernel
theorem dX12_freezes_28 : decode cX12_freezes 28 = .ok (.iload_n 2, 1) := by decide +kernel
theorem dX12_freezes_29 : decode cX12_freezes 29 = .ok (.iaload, 1) := by decide +kernel
theorem dX12_freezes_30 : decode cX12_freezes 30 = .ok (.iastore, 1) := by decide +kernel
theorem dX12_freezes_31 : decode cX12_freezes 31 = .ok (.aload_n 0, 1) := by decide +kernel
theorem dX12_freezes_32 : decode cX12_freezes 32 = .ok (.getfield 7, 3) := by decide +kernel
theorem dX12_freezes_35 : decode cX12_freezes 35 = .ok (.bipush 22, 2) := by decide +kernel
theorem dX12_freezes_37 : decode cX12_freezes 37 = .ok (.iconst 3, 1) := by decide +kernel
theorem dX12_freezes_38 : decode cX12_freezes 38 = .ok (.iload_n 2, 1) := by decide +kernel
theorem dX12_freezes_39 : decode cX12_freezes 39 = .ok (.imul, 1) := by decide +kernel
theorem dX12_freezes_40 : decode cX12_freezes 40 = .ok (.iadd, 1) := by decide +kernel
theorem dX12_freezes_41 : decode cX12_freezes 41 = .ok (.iconst 1, 1) := by decide +kernel
theorem dX12_freezes_42 : decode cX12_freezes 42 = .ok (.iadd, 1) := by decide +kernel
theorem dX12_freezes_43 : decode cX12_freezes 43 = .ok (.aload_n 0, 1) := by decide +kernel
theorem dX12_freezes_44 : decode cX12_freezes 44 = .ok (.getfield 85, 3) := by decide +kernel
theorem dX12_freezes_47 : decode cX12_freezes 47 = .ok (.iload_n 2, 1) := by decide +kernel
theorem dX12_freezes_48 : decode cX12_freezes 48 = .ok (.iaload, 1) := by decide +kernel
theorem dX12_freezes_49 : decode cX12_freezes 49 = .ok (.iastore, 1) := by decide +kernel
theorem dX12_freezes_50 : decode cX12_freezes 50 = .ok (.aload_n 0, 1) := by decide +kernel
theorem dX12_freezes_51 : decode cX12_freezes 51 = .ok (.getfield 7, 3) := by decide +kernel
theorem dX12_freezes_54 : decode cX12_freezes 54 = .ok (.bipush 22, 2) := by decide +kernel
theorem dX12_freezes_56 : decode cX12_freezes 56 = .ok (.iconst 3, 1) := by decide +kernel
theorem dX12_freezes_57 : decode cX12_freezes 57 = .ok (.iload_n 2, 1) := by decide +kernel
theorem dX12_freezes_58 : decode cX12_freezes 58 = .ok (.imul, 1) := by decide +kernel
theorem dX12_freezes_59 : decode cX12_freezes 59 = .ok (.iadd, 1) := by decide +kernel
theorem dX12_freezes_60 : decode cX12_freezes 60 = .ok (.iconst 2, 1) := by decide +kernel
theorem dX12_freezes_61 : decode cX12_freezes 61 = .ok (.iadd, 1) := by decide +kernel
theorem dX12_freezes_62 : decode cX12_freezes 62 = .ok (.aload_n 0, 1) := by decide +kernel
theorem dX12_freezes_63 : decode cX12_freezes 63 = .ok (.getfield 88, 3) := by decide +kernel
theorem dX12_freezes_66 : decode cX12_freezes 66 = .ok (.iload_n 2, 1) := by decide +kernel
theorem dX12_freezes_67 : decode cX12_freezes 67 = .ok (.laload, 1) := by decide +kernel
theorem dX12_freezes_68 : decode cX12_freezes 68 = .ok (.l2i, 1) := by decide +kernel
theorem dX12_freezes_69 : decode cX12_freezes 69 = .ok (.iastore, 1) := by decide +kernel
theorem dX12_freezes_70 : decode cX12_freezes 70 = .ok (.iinc 2 1, 3) := by decide +kernel
theorem dX12_freezes_73 : decode cX12_freezes 73 = .ok (.goto (-67), 3) := by decide +kernel
theorem dX12_freezes_76 : decode cX12_freezes 76 = .ok (.aload_n 0, 1) := by decide +kernel
theorem dX12_freezes_77 : decode cX12_freezes 77 = .ok (.getfield 7, 3) := by decide +kernel
theorem dX12_freezes_80 : decode cX12_freezes 80 = .ok (.bipush 21, 2) := by decide +kernel
theorem dX12_freezes_82 : decode cX12_freezes 82 = .ok (.aload_n 0, 1) := by decide +kernel
theorem dX12_freezes_83 : decode cX12_freezes 83 = .ok (.getfield 265, 3) := by decide +kernel
theorem dX12_freezes_86 : decode cX12_freezes 86 = .ok (.iastore, 1) := by decide +kernel
theorem dX12_freezes_87 : decode cX12_freezes 87 = .ok (.aload_n 0, 1) := by decide +kernel
theorem dX12_freezes_88 : decode cX12_freezes 88 = .ok (.getfield 7, 3) := by decide +kernel
theorem dX12_freezes_91 : decode cX12_freezes 91 = .ok (.bipush 20, 2) := by decide +kernel
theorem dX12_freezes_93 : decode cX12_freezes 93 = .ok (.iconst 1, 1) := by decide +kernel
theorem dX12_freezes_94 : decode cX12_freezes 94 = .ok (.iastore, 1) := by decide +kernel
theorem dX12_freezes_95 : decode cX12_freezes 95 = .ok (.aload_n 0, 1) := by decide +kernel
theorem dX12_freezes_96 : decode cX12_freezes 96 = .ok (.getfield 7, 3) := by decide +kernel
theorem dX12_freezes_99 : decode cX12_freezes 99 = .ok (.bipush 11, 2) := by decide +kernel
theorem dX12_freezes_101 : decode cX12_freezes 101 = .ok (.dup2, 1) := by decide +kernel
theorem dX12_freezes_102 : decode cX12_freezes 102 = .ok (.iaload, 1) := by decide +kernel
theorem dX12_freezes_103 : decode cX12_freezes 103 = .ok (.iconst 1, 1) := by decide +kernel
theorem dX12_freezes_104 : decode cX12_freezes 104 = .ok (.iadd, 1) := by decide +kernel
theorem dX12_freezes_105 : decode cX12_freezes 105 = .ok (.iastore, 1) := by decide +kernel
theorem dX12_freezes_106 : decode cX12_freezes 106 = .ok (.iload_n 1, 1) := by decide +kernel
theorem dX12_freezes_107 : decode cX12_freezes 107 = .ok (.iconst 2, 1) := by decide +kernel
theorem dX12_freezes_108 : decode cX12_freezes 108 = .ok (.if_icmp .ne 11, 3) := by decide +kernel
theorem dX12_freezes_111 : decode cX12_freezes 111 = .ok (.aload_n 0, 1) := by decide +kernel
theorem dX12_freezes_112 : decode cX12_freezes 112 = .ok (.bipush 16, 2) := by decide +kernel
theorem dX12_freezes_114 : decode cX12_freezes 114 = .ok (.bipush 12, 2) := by decide +kernel
theorem dX12_freezes_116 : decode cX12_freezes 116 = .ok (.invokevirtual 322, 3) := by decide +kernel
theorem dX12_freezes_119 : decode cX12_freezes 119 = .ok (.return_, 1) := by decide +kernel
theorem dX12_goesTo_0 : decode cX12_goesTo 0 = .ok (.aload_n 0, 1) := by decide +kernel
theorem dX12_goesTo_1 : decode cX12_goesTo 1 = .ok (.iload_n 1, 1) := by decide +kernel
theorem dX12_goesTo_2 : decode cX12_goesTo 2 = .ok (.iconst 1, 1) := by decide +kernel
theorem dX12_goesTo_3 : decode cX12_goesTo 3 = .ok (.invokevirtual 177, 3) := by decide +kernel
theorem dX12_goesTo_6 : decode cX12_goesTo 6 = .ok (.istore_n 2, 1) := by decide +kernel
theorem dX12_goesTo_7 : decode cX12_goesTo 7 = .ok (.aload_n 0, 1) := by decide +kernel
theorem dX12_goesTo_8 : decode cX12_goesTo 8 = .ok (.bipush 16, 2) := by decide +kernel
theorem dX12_goesTo_10 : decode cX12_goesTo 10 = .ok (.iload_n 2, 1) := by decide +kernel
theorem dX12_goesTo_11 : decode cX12_goesTo 11 = .ok (.aload_n 0, 1) := by decide +kernel
theorem dX12_goesTo_12 : decode cX12_goesTo 12 = .ok (.iload_n 1, 1) := by decide +kernel
theorem dX12_goesTo_13 : decode cX12_goesTo 13 = .ok (.iconst 4, 1) := by decide +kernel
theorem dX12_goesTo_14 : decode cX12_goesTo 14 = .ok (.invokevirtual 177, 3) := by decide +kernel
theorem dX12_goesTo_17 : decode cX12_goesTo 17 = .ok (.sipush 10000, 3) := by decide +kernel
theorem dX12_goesTo_20 : decode cX12_goesTo 20 = .ok (.imul, 1) := by decide +kernel
theorem dX12_goesTo_21 : decode cX12_goesTo 21 = .ok (.invokevirtual 155, 3) := by decide +kernel
theorem dX12_goesTo_24 : decode cX12_goesTo 24 = .ok (.aload_n 0, 1) := by decide +kernel
theorem dX12_goesTo_25 : decode cX12_goesTo 25 = .ok (.invokevirtual 325, 3) := by decide +kernel
theorem dX12_goesTo_28 : decode cX12_goesTo 28 = .ok (.ifCond .eq 41, 3) := by decide +kernel
theorem dX12_goesTo_31 : decode cX12_goesTo 31 = .ok (.aload_n 0, 1) := by decide +kernel
theorem dX12_goesTo_32 : decode cX12_goesTo 32 = .ok (.getfield 7, 3) := by decide +kernel
theorem dX12_goesTo_35 : decode cX12_goesTo 35 = .ok (.bipush 14, 2) := by decide +kernel
theorem dX12_goesTo_37 : decode cX12_goesTo 37 = .ok (.iaload, 1) := by decide +kernel
theorem dX12_goesTo_38 : decode cX12_goesTo 38 = .ok (.istore_n 3, 1) := by decide +kernel
theorem dX12_goesTo_39 : decode cX12_goesTo 39 = .ok (.aload_n 0, 1) := by decide +kernel
theorem dX12_goesTo_40 : decode cX12_goesTo 40 = .ok (.getfield 7, 3) := by decide +kernel
theorem dX12_goesTo_43 : decode cX12_goesTo 43 = .ok (.bipush 18, 2) := by decide +kernel
theorem dX12_goesTo_45 : decode cX12_goesTo 45 = .ok (.iload_n 3, 1) := by decide +kernel
theorem dX12_goesTo_46 : decode cX12_goesTo 46 = .ok (.ldc_w 261, 3) := by decide +kernel
theorem dX12_goesTo_49 : decode cX12_goesTo 49 = .ok (.if_icmp .ne 18, 3) := by decide +kernel
theorem dX12_goesTo_52 : decode cX12_goesTo 52 = .ok (.aload_n 0, 1) := by decide +kernel
theorem dX12_goesTo_53 : decode cX12_goesTo 53 = .ok (.getfield 53, 3) := by decide +kernel
theorem dX12_goesTo_56 : decode cX12_goesTo 56 = .ok (.iload_n 2, 1) := by decide +kernel
theorem dX12_goesTo_57 : decode cX12_goesTo 57 = .ok (.baload, 1) := by decide +kernel
theorem dX12_goesTo_58 : decode cX12_goesTo 58 = .ok (.ifCond .eq 9, 3) := by decide +kernel
theorem dX12_goesTo_61 : decode cX12_goesTo 61 = .ok (.ldc_w 329, 3) := by decide +kernel
theorem dX12_goesTo_64 : decode cX12_goesTo 64 = .ok (.goto 4, 3) := by decide +kernel
theorem dX12_goesTo_67 : decode cX12_goesTo 67 = .ok (.iload_n 3, 1) := by decide +kernel
theorem dX12_goesTo_68 : decode cX12_goesTo 68 = .ok (.iastore, 1) := by decide +kernel
theorem dX12_goesTo_69 : decode cX12_goesTo 69 = .ok (.aload_n 0, 1) := by decide +kernel
theorem dX12_goesTo_70 : decode cX12_goesTo 70 = .ok (.iload_n 1, 1) := by decide +kernel
theorem dX12_goesTo_71 : decode cX12_goesTo 71 = .ok (.iconst 2, 1) := by decide +kernel
theorem dX12_goesTo_72 : decode cX12_goesTo 72 = .ok (.invokevirtual 177, 3) := by decide +kernel
theorem dX12_goesTo_75 : decode cX12_goesTo 75 = .ok (.ifCond .ne 8, 3) := by decide +kernel
theorem dX12_goesTo_78 : decode cX12_goesTo 78 = .ok (.aload_n 0, 1) := by decide +kernel
theorem dX12_goesTo_79 : decode cX12_goesTo 79 = .ok (.invokevirtual 330, 3) := by decide +kernel
theorem dX12_goesTo_82 : decode cX12_goesTo 82 = .ok (.return_, 1) := by decide +kernel
theorem dX12_goesTo_83 : decode cX12_goesTo 83 = .ok (.aload_n 0, 1) := by decide +kernel
theorem dX12_goesTo_84 : decode cX12_goesTo 84 = .ok (.getfield 7, 3) := by decide +kernel
theorem dX12_goesTo_87 : decode cX12_goesTo 87 = .ok (.bipush 8, 2) := by decide +kernel
theorem dX12_goesTo_89 : decode cX12_goesTo 89 = .ok (.iconst 1, 1) := by decide +kernel
theorem dX12_goesTo_90 : decode cX12_goesTo 90 = .ok (.iastore, 1) := by decide +kernel
theorem dX12_goesTo_91 : decode cX12_goesTo 91 = .ok (.aload_n 0, 1) := by decide +kernel
theorem dX12_goesTo_92 : decode cX12_goesTo 92 = .ok (.getfield 7, 3) := by decide +kernel
theorem dX12_goesTo_95 : decode cX12_goesTo 95 = .ok (.bipush 9, 2) := by decide +kernel
theorem dX12_goesTo_97 : decode cX12_goesTo 97 = .ok (.iload_n 1, 1) := by decide +kernel
theorem dX12_goesTo_98 : decode cX12_goesTo 98 = .ok (.iastore, 1) := by decide +kernel
theorem dX12_goesTo_99 : decode cX12_goesTo 99 = .ok (.aload_n 0, 1) := by decide +kernel
theorem dX12_goesTo_100 : decode cX12_goesTo 100 = .ok (.getfield 7, 3) := by decide +kernel
theorem dX12_goesTo_103 : decode cX12_goesTo 103 = .ok (.bipush 10, 2) := by decide +kernel
theorem dX12_goesTo_105 : decode cX12_goesTo 105 = .ok (.iconst 0, 1) := by decide +kernel
theorem dX12_goesTo_106 : decode cX12_goesTo 106 = .ok (.iastore, 1) := by decide +kernel
theorem dX12_goesTo_107 : decode cX12_goesTo 107 = .ok (.return_, 1) := by decide +kernel
theorem dX12_ends_0 : decode cX12_ends 0 = .ok (.aload_n 0, 1) := by decide +kernel
theorem dX12_ends_1 : decode cX12_ends 1 = .ok (.bipush 16, 2) := by decide +kernel
theorem dX12_ends_3 : decode cX12_ends 3 = .ok (.bipush 12, 2) := by decide +kernel
theorem dX12_ends_5 : decode cX12_ends 5 = .ok (.invokevirtual 322, 3) := by decide +kernel
theorem dX12_ends_8 : decode cX12_ends 8 = .ok (.aload_n 0, 1) := by decide +kernel
theorem dX12_ends_9 : decode cX12_ends 9 = .ok (.getfield 7, 3) := by decide +kernel
theorem dX12_ends_12 : decode cX12_ends 12 = .ok (.bipush 8, 2) := by decide +kernel
theorem dX12_ends_14 : decode cX12_ends 14 = .ok (.iconst 0, 1) := by decide +kernel
theorem dX12_ends_15 : decode cX12_ends 15 = .ok (.iastore, 1) := by decide +kernel
theorem dX12_ends_16 : decode cX12_ends 16 = .ok (.aload_n 0, 1) := by decide +kernel
theorem dX12_ends_17 : decode cX12_ends 17 = .ok (.getfield 7, 3) := by decide +kernel
theorem dX12_ends_20 : decode cX12_ends 20 = .ok (.bipush 11, 2) := by decide +kernel
theorem dX12_ends_22 : decode cX12_ends 22 = .ok (.iconst 0, 1) := by decide +kernel
theorem dX12_ends_23 : decode cX12_ends 23 = .ok (.iastore, 1) := by decide +kernel
theorem dX12_ends_24 : decode cX12_ends 24 = .ok (.aload_n 0, 1) := by decide +kernel
theorem dX12_ends_25 : decode cX12_ends 25 = .ok (.getfield 7, 3) := by decide +kernel
theorem dX12_ends_28 : decode cX12_ends 28 = .ok (.bipush 20, 2) := by decide +kernel
theorem dX12_ends_30 : decode cX12_ends 30 = .ok (.iconst 0, 1) := by decide +kernel
theorem dX12_ends_31 : decode cX12_ends 31 = .ok (.iastore, 1) := by decide +kernel
theorem dX12_ends_32 : decode cX12_ends 32 = .ok (.aload_n 0, 1) := by decide +kernel
theorem dX12_ends_33 : decode cX12_ends 33 = .ok (.getfield 7, 3) := by decide +kernel
theorem dX12_ends_36 : decode cX12_ends 36 = .ok (.bipush 21, 2) := by decide +kernel
theorem dX12_ends_38 : decode cX12_ends 38 = .ok (.iconst 0, 1) := by decide +kernel
theorem dX12_ends_39 : decode cX12_ends 39 = .ok (.iastore, 1) := by decide +kernel
theorem dX12_ends_40 : decode cX12_ends 40 = .ok (.return_, 1) := by decide +kernel
theorem dX12_fires_0 : decode cX12_fires 0 = .ok (.aload_n 0, 1) := by decide +kernel
theorem dX12_fires_1 : decode cX12_fires 1 = .ok (.aload_n 0, 1) := by decide +kernel
theorem dX12_fires_2 : decode cX12_fires 2 = .ok (.getfield 47, 3) := by decide +kernel
theorem dX12_fires_5 : decode cX12_fires 5 = .ok (.iload_n 1, 1) := by decide +kernel
theorem dX12_fires_6 : decode cX12_fires 6 = .ok (.iaload, 1) := by decide +kernel
theorem dX12_fires_7 : decode cX12_fires 7 = .ok (.lload 7, 2) := by decide +kernel
theorem dX12_fires_9 : decode cX12_fires 9 = .ok (.invokevirtual 253, 3) := by decide +kernel
theorem dX12_fires_12 : decode cX12_fires 12 = .ok (.iconst 0, 1) := by decide +kernel
theorem dX12_fires_13 : decode cX12_fires 13 = .ok (.istore 10, 2) := by decide +kernel
theorem dX12_fires_15 : decode cX12_fires 15 = .ok (.iload 10, 2) := by decide +kernel
theorem dX12_fires_17 : decode cX12_fires 17 = .ok (.aload_n 0, 1) := by decide +kernel
theorem dX12_fires_18 : decode cX12_fires 18 = .ok (.getfield 120, 3) := by decide +kernel
theorem dX12_fires_21 : decode cX12_fires 21 = .ok (.if_icmp .ge 146, 3) := by decide +kernel
theorem dX12_fires_24 : decode cX12_fires 24 = .ok (.aload_n 0, 1) := by decide +kernel
theorem dX12_fires_25 : decode cX12_fires 25 = .ok (.getfield 72, 3) := by decide +kernel
theorem dX12_fires_28 : decode cX12_fires 28 = .ok (.iload 10, 2) := by decide +kernel
theorem dX12_fires_30 : decode cX12_fires 30 = .ok (.laload, 1) := by decide +kernel
theorem dX12_fires_31 : decode cX12_fires 31 = .ok (.lconst 0, 1) := by decide +kernel
theorem dX12_fires_32 : decode cX12_fires 32 = .ok (.lcmp, 1) := by decide +kernel
theorem dX12_fires_33 : decode cX12_fires 33 = .ok (.ifCond .le 31, 3) := by decide +kernel
theorem dX12_fires_36 : decode cX12_fires 36 = .ok (.aload_n 0, 1) := by decide +kernel
theorem dX12_fires_37 : decode cX12_fires 37 = .ok (.getfield 72, 3) := by decide +kernel
theorem dX12_fires_40 : decode cX12_fires 40 = .ok (.iload 10, 2) := by decide +kernel
theorem dX12_fires_42 : decode cX12_fires 42 = .ok (.laload, 1) := by decide +kernel
theorem dX12_fires_43 : decode cX12_fires 43 = .ok (.ldc2_w 116, 3) := by decide +kernel
theorem dX12_fires_46 : decode cX12_fires 46 = .ok (.lmul, 1) := by decide +kernel
theorem dX12_fires_47 : decode cX12_fires 47 = .ok (.aload_n 0, 1) := by decide +kernel
theorem dX12_fires_48 : decode cX12_fires 48 = .ok (.getfield 62, 3) := by decide +kernel
theorem dX12_fires_51 : decode cX12_fires 51 = .ok (.i2l, 1) := by decide +kernel
theorem dX12_fires_52 : decode cX12_fires 52 = .ok (.ldc2_w 251, 3) := by decide +kernel
theorem dX12_fires_55 : decode cX12_fires 55 = .ok (.lmul, 1) := by decide +kernel
theorem dX12_fires_56 : decode cX12_fires 56 = .ok (.lcmp, 1) := by decide +kernel
theorem dX12_fires_57 : decode cX12_fires 57 = .ok (.ifCond .lt 7, 3) := by decide +kernel
theorem dX12_fires_60 : decode cX12_fires 60 = .ok (.iconst 1, 1) := by decide +kernel
theorem dX12_fires_61 : decode cX12_fires 61 = .ok (.goto 4, 3) := by decide +kernel
theorem dX12_fires_64 : decode cX12_fires 64 = .ok (.iconst 0, 1) := by decide +kernel
theorem dX12_fires_65 : decode cX12_fires 65 = .ok (.istore 11, 2) := by decide +kernel
theorem dX12_fires_67 : decode cX12_fires 67 = .ok (.iconst 0, 1) := by decide +kernel
theorem dX12_fires_68 : decode cX12_fires 68 = .ok (.istore 12, 2) := by decide +kernel
theorem dX12_fires_70 : decode cX12_fires 70 = .ok (.iload 12, 2) := by decide +kernel
theorem dX12_fires_72 : decode cX12_fires 72 = .ok (.aload_n 0, 1) := by decide +kernel
theorem dX12_fires_73 : decode cX12_fires 73 = .ok (.getfield 23, 3) := by decide +kernel
theorem dX12_fires_76 : decode cX12_fires 76 = .ok (.iload 10, 2) := by decide +kernel
theorem dX12_fires_78 : decode cX12_fires 78 = .ok (.iaload, 1) := by decide +kernel
theorem dX12_fires_79 : decode cX12_fires 79 = .ok (.if_icmp .ge 82, 3) := by decide +kernel
theorem dX12_fires_82 : decode cX12_fires 82 = .ok (.iload 11, 2) := by decide +kernel
theorem dX12_fires_84 : decode cX12_fires 84 = .ok (.ifCond .eq 77, 3) := by decide +kernel
theorem dX12_fires_87 : decode cX12_fires 87 = .ok (.aload_n 0, 1) := by decide +kernel
theorem dX12_fires_88 : decode cX12_fires 88 = .ok (.getfield 26, 3) := by decide +kernel
theorem dX12_fires_91 : decode cX12_fires 91 = .ok (.iconst 5, 1) := by decide +kernel
theorem dX12_fires_92 : decode cX12_fires 92 = .ok (.iload 10, 2) := by decide +kernel
theorem dX12_fires_94 : decode cX12_fires 94 = .ok (.imul, 1) := by decide +kernel
theorem dX12_fires_95 : decode cX12_fires 95 = .ok (.iload 12, 2) := by decide +kernel
theorem dX12_fires_97 : decode cX12_fires 97 = .ok (.iadd, 1) := by decide +kernel
theorem dX12_fires_98 : decode cX12_fires 98 = .ok (.iaload, 1) := by decide +kernel
theorem dX12_fires_99 : decode cX12_fires 99 = .ok (.i2l, 1) := by decide +kernel
theorem dX12_fires_100 : decode cX12_fires 100 = .ok (.ldc2_w 251, 3) := by decide +kernel
theorem dX12_fires_103 : decode cX12_fires 103 = .ok (.lmul, 1) := by decide +kernel
theorem dX12_fires_104 : decode cX12_fires 104 = .ok (.aload_n 0, 1) := by decide +kernel
theorem dX12_fires_105 : decode cX12_fires 105 = .ok (.getfield 20, 3) := by decide +kernel
theorem dX12_fires_108 : decode cX12_fires 108 = .ok (.iload 10, 2) := by decide +kernel
theorem dX12_fires_110 : decode cX12_fires 110 = .ok (.iaload, 1) := by decide +kernel
theorem dX12_fires_111 : decode cX12_fires 111 = .ok (.i2l, 1) := by decide +kernel
theorem dX12_fires_112 : decode cX12_fires 112 = .ok (.ldiv, 1) := by decide +kernel
theorem dX12_fires_113 : decode cX12_fires 113 = .ok (.lstore 13, 2) := by decide +kernel
theorem dX12_fires_115 : decode cX12_fires 115 = .ok (.lload 13, 2) := by decide +kernel
theorem dX12_fires_117 : decode cX12_fires 117 = .ok (.lload_n 2, 1) := by decide +kernel
theorem dX12_fires_118 : decode cX12_fires 118 = .ok (.iload 4, 2) := by decide +kernel
theorem dX12_fires_120 : decode cX12_fires 120 = .ok (.lload 5, 2) := by decide +kernel
theorem dX12_fires_122 : decode cX12_fires 122 = .ok (.aload_n 0, 1) := by decide +kernel
theorem dX12_fires_123 : decode cX12_fires 123 = .ok (.getfield 53, 3) := by decide +kernel
theorem dX12_fires_126 : decode cX12_fires 126 = .ok (.iload_n 1, 1) := by decide +kernel
theorem dX12_fires_127 : decode cX12_fires 127 = .ok (.baload, 1) := by decide +kernel
theorem dX12_fires_128 : decode cX12_fires 128 = .ok (.invokestatic 333, 3) := by decide +kernel
theorem dX12_fires_131 : decode cX12_fires 131 = .ok (.ifCond .eq 24, 3) := by decide +kernel
theorem dX12_fires_134 : decode cX12_fires 134 = .ok (.aload_n 0, 1) := by decide +kernel
theorem dX12_fires_135 : decode cX12_fires 135 = .ok (.iload 9, 2) := by decide +kernel
theorem dX12_fires_137 : decode cX12_fires 137 = .ok (.aload_n 0, 1) := by decide +kernel
theorem dX12_fires_138 : decode cX12_fires 138 = .ok (.getfield 29, 3) := by decide +kernel
theorem dX12_fires_141 : decode cX12_fires 141 = .ok (.iconst 5, 1) := by decide +kernel
theorem dX12_fires_142 : decode cX12_fires 142 = .ok (.iload 10, 2) := by decide +kernel
theorem dX12_fires_144 : decode cX12_fires 144 = .ok (.imul, 1) := by decide +kernel
theorem dX12_fires_145 : decode cX12_fires 145 = .ok (.iload 12, 2) := by decide +kernel
theorem dX12_fires_147 : decode cX12_fires 147 = .ok (.iadd, 1) := by decide +kernel
theorem dX12_fires_148 : decode cX12_fires 148 = .ok (.iaload, 1) := by decide +kernel
theorem dX12_fires_149 : decode cX12_fires 149 = .ok (.iload 10, 2) := by decide +kernel
theorem dX12_fires_151 : decode cX12_fires 151 = .ok (.iload_n 1, 1) := by decide +kernel
theorem dX12_fires_152 : decode cX12_fires 152 = .ok (.invokevirtual 337, 3) := by decide +kernel
theorem dX12_fires_155 : decode cX12_fires 155 = .ok (.iinc 12 1, 3) := by decide +kernel
theorem dX12_fires_158 : decode cX12_fires 158 = .ok (.goto (-88), 3) := by decide +kernel
theorem dX12_fires_161 : decode cX12_fires 161 = .ok (.iinc 10 1, 3) := by decide +kernel
theorem dX12_fires_164 : decode cX12_fires 164 = .ok (.goto (-149), 3) := by decide +kernel
theorem dX12_fires_167 : decode cX12_fires 167 = .ok (.return_, 1) := by decide +kernel
theorem dX12_isCrossed_0 : decode cX12_isCrossed 0 = .ok (.iload 4, 2) := by decide +kernel
theorem dX12_isCrossed_2 : decode cX12_isCrossed 2 = .ok (.ifCond .eq 7, 3) := by decide +kernel
theorem dX12_isCrossed_5 : decode cX12_isCrossed 5 = .ok (.lload_n 2, 1) := by decide +kernel
theorem dX12_isCrossed_6 : decode cX12_isCrossed 6 = .ok (.goto 6, 3) := by decide +kernel
theorem dX12_isCrossed_9 : decode cX12_isCrossed 9 = .ok (.lload_n 2, 1) := by decide +kernel
theorem dX12_isCrossed_10 : decode cX12_isCrossed 10 = .ok (.lconst 1, 1) := by decide +kernel
theorem dX12_isCrossed_11 : decode cX12_isCrossed 11 = .ok (.ladd, 1) := by decide +kernel
theorem dX12_isCrossed_12 : decode cX12_isCrossed 12 = .ok (.lstore 8, 2) := by decide +kernel
theorem dX12_isCrossed_14 : decode cX12_isCrossed 14 = .ok (.lconst 0, 1) := by decide +kernel
theorem dX12_isCrossed_15 : decode cX12_isCrossed 15 = .ok (.lstore 10, 2) := by decide +kernel
theorem dX12_isCrossed_17 : decode cX12_isCrossed 17 = .ok (.iload 7, 2) := by decide +kernel
theorem dX12_isCrossed_19 : decode cX12_isCrossed 19 = .ok (.ifCond .eq 26, 3) := by decide +kernel
theorem dX12_isCrossed_22 : decode cX12_isCrossed 22 = .ok (.lload 8, 2) := by decide +kernel
theorem dX12_isCrossed_24 : decode cX12_isCrossed 24 = .ok (.lload_n 0, 1) := by decide +kernel
theorem dX12_isCrossed_25 : decode cX12_isCrossed 25 = .ok (.lcmp, 1) := by decide +kernel
theorem dX12_isCrossed_26 : decode cX12_isCrossed 26 = .ok (.ifCond .le 19, 3) := by decide +kernel
theorem dX12_isCrossed_29 : decode cX12_isCrossed 29 = .ok (.lload 8, 2) := by decide +kernel
theorem dX12_isCrossed_31 : decode cX12_isCrossed 31 = .ok (.lload_n 0, 1) := by decide +kernel
theorem dX12_isCrossed_32 : decode cX12_isCrossed 32 = .ok (.lsub, 1) := by decide +kernel
theorem dX12_isCrossed_33 : decode cX12_isCrossed 33 = .ok (.ldc2_w 251, 3) := by decide +kernel
theorem dX12_isCrossed_36 : decode cX12_isCrossed 36 = .ok (.ladd, 1) := by decide +kernel
theorem dX12_isCrossed_37 : decode cX12_isCrossed 37 = .ok (.lconst 1, 1) := by decide +kernel
theorem dX12_isCrossed_38 : decode cX12_isCrossed 38 = .ok (.lsub, 1) := by decide +kernel
theorem dX12_isCrossed_39 : decode cX12_isCrossed 39 = .ok (.ldc2_w 251, 3) := by decide +kernel
theorem dX12_isCrossed_42 : decode cX12_isCrossed 42 = .ok (.ldiv, 1) := by decide +kernel
theorem dX12_isCrossed_43 : decode cX12_isCrossed 43 = .ok (.lstore 10, 2) := by decide +kernel
theorem dX12_isCrossed_45 : decode cX12_isCrossed 45 = .ok (.lload 10, 2) := by decide +kernel
theorem dX12_isCrossed_47 : decode cX12_isCrossed 47 = .ok (.ldc2_w 251, 3) := by decide +kernel
theorem dX12_isCrossed_50 : decode cX12_isCrossed 50 = .ok (.lmul, 1) := by decide +kernel
theorem dX12_isCrossed_51 : decode cX12_isCrossed 51 = .ok (.lload_n 0, 1) := by decide +kernel
theorem dX12_isCrossed_52 : decode cX12_isCrossed 52 = .ok (.ladd, 1) := by decide +kernel
theorem dX12_isCrossed_53 : decode cX12_isCrossed 53 = .ok (.lstore 12, 2) := by decide +kernel
theorem dX12_isCrossed_55 : decode cX12_isCrossed 55 = .ok (.lload 12, 2) := by decide +kernel
theorem dX12_isCrossed_57 : decode cX12_isCrossed 57 = .ok (.lload 8, 2) := by decide +kernel
theorem dX12_isCrossed_59 : decode cX12_isCrossed 59 = .ok (.lcmp, 1) := by decide +kernel
theorem dX12_isCrossed_60 : decode cX12_isCrossed 60 = .ok (.ifCond .lt 15, 3) := by decide +kernel
theorem dX12_isCrossed_63 : decode cX12_isCrossed 63 = .ok (.lload 12, 2) := by decide +kernel
theorem dX12_isCrossed_65 : decode cX12_isCrossed 65 = .ok (.lload 5, 2) := by decide +kernel
theorem dX12_isCrossed_67 : decode cX12_isCrossed 67 = .ok (.lcmp, 1) := by decide +kernel
theorem dX12_isCrossed_68 : decode cX12_isCrossed 68 = .ok (.ifCond .gt 7, 3) := by decide +kernel
theorem dX12_isCrossed_71 : decode cX12_isCrossed 71 = .ok (.iconst 1, 1) := by decide +kernel
theorem dX12_isCrossed_72 : decode cX12_isCrossed 72 = .ok (.goto 4, 3) := by decide +kernel
theorem dX12_isCrossed_75 : decode cX12_isCrossed 75 = .ok (.iconst 0, 1) := by decide +kernel
theorem dX12_isCrossed_76 : decode cX12_isCrossed 76 = .ok (.ireturn, 1) := by decide +kernel
theorem dX12_notes_0 : decode cX12_notes 0 = .ok (.aload_n 0, 1) := by decide +kernel
theorem dX12_notes_1 : decode cX12_notes 1 = .ok (.getfield 7, 3) := by decide +kernel
theorem dX12_notes_4 : decode cX12_notes 4 = .ok (.sipush 166, 3) := by decide +kernel
theorem dX12_notes_7 : decode cX12_notes 7 = .ok (.iaload, 1) := by decide +kernel
theorem dX12_notes_8 : decode cX12_notes 8 = .ok (.bipush 30, 2) := by decide +kernel
theorem dX12_notes_10 : decode cX12_notes 10 = .ok (.if_icmp .ne 55, 3) := by decide +kernel
theorem dX12_notes_13 : decode cX12_notes 13 = .ok (.iconst 0, 1) := by decide +kernel
theorem dX12_notes_14 : decode cX12_notes 14 = .ok (.istore 5, 2) := by decide +kernel
theorem dX12_notes_16 : decode cX12_notes 16 = .ok (.iload 5, 2) := by decide +kernel
theorem dX12_notes_18 : decode cX12_notes 18 = .ok (.bipush 116, 2) := by decide +kernel
theorem dX12_notes_20 : decode cX12_notes 20 = .ok (.if_icmp .ge 33, 3) := by decide +kernel
theorem dX12_notes_23 : decode cX12_notes 23 = .ok (.aload_n 0, 1) := by decide +kernel
theorem dX12_notes_24 : decode cX12_notes 24 = .ok (.getfield 7, 3) := by decide +kernel
theorem dX12_notes_27 : decode cX12_notes 27 = .ok (.sipush 167, 3) := by decide +kernel
theorem dX12_notes_30 : decode cX12_notes 30 = .ok (.iload 5, 2) := by decide +kernel
theorem dX12_notes_32 : decode cX12_notes 32 = .ok (.iadd, 1) := by decide +kernel
theorem dX12_notes_33 : decode cX12_notes 33 = .ok (.aload_n 0, 1) := by decide +kernel
theorem dX12_notes_34 : decode cX12_notes 34 = .ok (.getfield 7, 3) := by decide +kernel
theorem dX12_notes_37 : decode cX12_notes 37 = .ok (.sipush 167, 3) := by decide +kernel
theorem dX12_notes_40 : decode cX12_notes 40 = .ok (.iload 5, 2) := by decide +kernel
theorem dX12_notes_42 : decode cX12_notes 42 = .ok (.iadd, 1) := by decide +kernel
theorem dX12_notes_43 : decode cX12_notes 43 = .ok (.iconst 4, 1) := by decide +kernel
theorem dX12_notes_44 : decode cX12_notes 44 = .ok (.iadd, 1) := by decide +kernel
theorem dX12_notes_45 : decode cX12_notes 45 = .ok (.iaload, 1) := by decide +kernel
theorem dX12_notes_46 : decode cX12_notes 46 = .ok (.iastore, 1) := by decide +kernel
theorem dX12_notes_47 : decode cX12_notes 47 = .ok (.iinc 5 1, 3) := by decide +kernel
theorem dX12_notes_50 : decode cX12_notes 50 = .ok (.goto (-34), 3) := by decide +kernel
theorem dX12_notes_53 : decode cX12_notes 53 = .ok (.aload_n 0, 1) := by decide +kernel
theorem dX12_notes_54 : decode cX12_notes 54 = .ok (.getfield 7, 3) := by decide +kernel
theorem dX12_notes_57 : decode cX12_notes 57 = .ok (.sipush 166, 3) := by decide +kernel
theorem dX12_notes_60 : decode cX12_notes 60 = .ok (.dup2, 1) := by decide +kernel
theorem dX12_notes_61 : decode cX12_notes 61 = .ok (.iaload, 1) := by decide +kernel
theorem dX12_notes_62 : decode cX12_notes 62 = .ok (.iconst 1, 1) := by decide +kernel
theorem dX12_notes_63 : decode cX12_notes 63 = .ok (.isub, 1) := by decide +kernel
theorem dX12_notes_64 : decode cX12_notes 64 = .ok (.iastore, 1) := by decide +kernel
theorem dX12_notes_65 : decode cX12_notes 65 = .ok (.sipush 167, 3) := by decide +kernel
theorem dX12_notes_68 : decode cX12_notes 68 = .ok (.iconst 4, 1) := by decide +kernel
theorem dX12_notes_69 : decode cX12_notes 69 = .ok (.aload_n 0, 1) := by decide +kernel
theorem dX12_notes_70 : decode cX12_notes 70 = .ok (.getfield 7, 3) := by decide +kernel
theorem dX12_notes_73 : decode cX12_notes 73 = .ok (.sipush 166, 3) := by decide +kernel
theorem dX12_notes_76 : decode cX12_notes 76 = .ok (.iaload, 1) := by decide +kernel
theorem dX12_notes_77 : decode cX12_notes 77 = .ok (.imul, 1) := by decide +kernel
theorem dX12_notes_78 : decode cX12_notes 78 = .ok (.iadd, 1) := by decide +kernel
theorem dX12_notes_79 : decode cX12_notes 79 = .ok (.istore 5, 2) := by decide +kernel
theorem dX12_notes_81 : decode cX12_notes 81 = .ok (.aload_n 0, 1) := by decide +kernel
theorem dX12_notes_82 : decode cX12_notes 82 = .ok (.getfield 7, 3) := by decide +kernel
theorem dX12_notes_85 : decode cX12_notes 85 = .ok (.iload 5, 2) := by decide +kernel
theorem dX12_notes_87 : decode cX12_notes 87 = .ok (.iload_n 1, 1) := by decide +kernel
theorem dX12_notes_88 : decode cX12_notes 88 = .ok (.iastore, 1) := by decide +kernel
theorem dX12_notes_89 : decode cX12_notes 89 = .ok (.aload_n 0, 1) := by decide +kernel
theorem dX12_notes_90 : decode cX12_notes 90 = .ok (.getfield 7, 3) := by decide +kernel
theorem dX12_notes_93 : decode cX12_notes 93 = .ok (.iload 5, 2) := by decide +kernel
theorem dX12_notes_95 : decode cX12_notes 95 = .ok (.iconst 1, 1) := by decide +kernel
theorem dX12_notes_96 : decode cX12_notes 96 = .ok (.iadd, 1) := by decide +kernel
theorem dX12_notes_97 : decode cX12_notes 97 = .ok (.iload_n 2, 1) := by decide +kernel
theorem dX12_notes_98 : decode cX12_notes 98 = .ok (.iastore, 1) := by decide +kernel
theorem dX12_notes_99 : decode cX12_notes 99 = .ok (.aload_n 0, 1) := by decide +kernel
theorem dX12_notes_100 : decode cX12_notes 100 = .ok (.getfield 7, 3) := by decide +kernel
theorem dX12_notes_103 : decode cX12_notes 103 = .ok (.iload 5, 2) := by decide +kernel
theorem dX12_notes_105 : decode cX12_notes 105 = .ok (.iconst 2, 1) := by decide +kernel
theorem dX12_notes_106 : decode cX12_notes 106 = .ok (.iadd, 1) := by decide +kernel
theorem dX12_notes_107 : decode cX12_notes 107 = .ok (.iload_n 3, 1) := by decide +kernel
theorem dX12_notes_108 : decode cX12_notes 108 = .ok (.iastore, 1) := by decide +kernel
theorem dX12_notes_109 : decode cX12_notes 109 = .ok (.aload_n 0, 1) := by decide +kernel
theorem dX12_notes_110 : decode cX12_notes 110 = .ok (.getfield 7, 3) := by decide +kernel
theorem dX12_notes_113 : decode cX12_notes 113 = .ok (.iload 5, 2) := by decide +kernel
theorem dX12_notes_115 : decode cX12_notes 115 = .ok (.iconst 3, 1) := by decide +kernel
theorem dX12_notes_116 : decode cX12_notes 116 = .ok (.iadd, 1) := by decide +kernel
theorem dX12_notes_117 : decode cX12_notes 117 = .ok (.iload 4, 2) := by decide +kernel
theorem dX12_notes_119 : decode cX12_notes 119 = .ok (.iastore, 1) := by decide +kernel
theorem dX12_notes_120 : decode cX12_notes 120 = .ok (.aload_n 0, 1) := by decide +kernel
theorem dX12_notes_121 : decode cX12_notes 121 = .ok (.getfield 7, 3) := by decide +kernel
theorem dX12_notes_124 : decode cX12_notes 124 = .ok (.sipush 166, 3) := by decide +kernel
theorem dX12_notes_127 : decode cX12_notes 127 = .ok (.dup2, 1) := by decide +kernel
theorem dX12_notes_128 : decode cX12_notes 128 = .ok (.iaload, 1) := by decide +kernel
theorem dX12_notes_129 : decode cX12_notes 129 = .ok (.iconst 1, 1) := by decide +kernel
theorem dX12_notes_130 : decode cX12_notes 130 = .ok (.iadd, 1) := by decide +kernel
theorem dX12_notes_131 : decode cX12_notes 131 = .ok (.iastore, 1) := by decide +kernel
theorem dX12_notes_132 : decode cX12_notes 132 = .ok (.aload_n 0, 1) := by decide +kernel
theorem dX12_notes_133 : decode cX12_notes 133 = .ok (.getfield 7, 3) := by decide +kernel
theorem dX12_notes_136 : decode cX12_notes 136 = .ok (.sipush 288, 3) := by decide +kernel
theorem dX12_notes_139 : decode cX12_notes 139 = .ok (.dup2, 1) := by decide +kernel
theorem dX12_notes_140 : decode cX12_notes 140 = .ok (.iaload, 1) := by decide +kernel
theorem dX12_notes_141 : decode cX12_notes 141 = .ok (.iconst 1, 1) := by decide +kernel
theorem dX12_notes_142 : decode cX12_notes 142 = .ok (.iadd, 1) := by decide +kernel
theorem dX12_notes_143 : decode cX12_notes 143 = .ok (.iastore, 1) := by decide +kernel
theorem dX12_notes_144 : decode cX12_notes 144 = .ok (.return_, 1) := by decide +kernel
theorem dX12_ticks_0 : decode cX12_ticks 0 = .ok (.aload_n 0, 1) := by decide +kernel
theorem dX12_ticks_1 : decode cX12_ticks 1 = .ok (.getfield 7, 3) := by decide +kernel
theorem dX12_ticks_4 : decode cX12_ticks 4 = .ok (.sipush 287, 3) := by decide +kernel
theorem dX12_ticks_7 : decode cX12_ticks 7 = .ok (.dup2, 1) := by decide +kernel
theorem dX12_ticks_8 : decode cX12_ticks 8 = .ok (.iaload, 1) := by decide +kernel
theorem dX12_ticks_9 : decode cX12_ticks 9 = .ok (.iconst 1, 1) := by decide +kernel
theorem dX12_ticks_10 : decode cX12_ticks 10 = .ok (.iadd, 1) := by decide +kernel
theorem dX12_ticks_11 : decode cX12_ticks 11 = .ok (.iastore, 1) := by decide +kernel
theorem dX12_ticks_12 : decode cX12_ticks 12 = .ok (.iconst 0, 1) := by decide +kernel
theorem dX12_ticks_13 : decode cX12_ticks 13 = .ok (.istore_n 1, 1) := by decide +kernel
theorem dX12_ticks_14 : decode cX12_ticks 14 = .ok (.iload_n 1, 1) := by decide +kernel
theorem dX12_ticks_15 : decode cX12_ticks 15 = .ok (.iconst 4, 1) := by decide +kernel
theorem dX12_ticks_16 : decode cX12_ticks 16 = .ok (.if_icmp .ge 14, 3) := by decide +kernel
theorem dX12_ticks_19 : decode cX12_ticks 19 = .ok (.aload_n 0, 1) := by decide +kernel
theorem dX12_ticks_20 : decode cX12_ticks 20 = .ok (.invokevirtual 340, 3) := by decide +kernel
theorem dX12_ticks_23 : decode cX12_ticks 23 = .ok (.istore_n 2, 1) := by decide +kernel
theorem dX12_ticks_24 : decode cX12_ticks 24 = .ok (.iinc 1 1, 3) := by decide +kernel
theorem dX12_ticks_27 : decode cX12_ticks 27 = .ok (.goto (-13), 3) := by decide +kernel
theorem dX12_ticks_30 : decode cX12_ticks 30 = .ok (.aload_n 0, 1) := by decide +kernel
theorem dX12_ticks_31 : decode cX12_ticks 31 = .ok (.getfield 7, 3) := by decide +kernel
theorem dX12_ticks_34 : decode cX12_ticks 34 = .ok (.bipush 12, 2) := by decide +kernel
theorem dX12_ticks_36 : decode cX12_ticks 36 = .ok (.iaload, 1) := by decide +kernel
theorem dX12_ticks_37 : decode cX12_ticks 37 = .ok (.istore_n 1, 1) := by decide +kernel
theorem dX12_ticks_38 : decode cX12_ticks 38 = .ok (.aload_n 0, 1) := by decide +kernel
theorem dX12_ticks_39 : decode cX12_ticks 39 = .ok (.getfield 7, 3) := by decide +kernel
theorem dX12_ticks_42 : decode cX12_ticks 42 = .ok (.bipush 16, 2) := by decide +kernel
theorem dX12_ticks_44 : decode cX12_ticks 44 = .ok (.iaload, 1) := by decide +kernel
theorem dX12_ticks_45 : decode cX12_ticks 45 = .ok (.istore_n 2, 1) := by decide +kernel
theorem dX12_ticks_46 : decode cX12_ticks 46 = .ok (.aload_n 0, 1) := by decide +kernel
theorem dX12_ticks_47 : decode cX12_ticks 47 = .ok (.bipush 12, 2) := by decide +kernel
theorem dX12_ticks_49 : decode cX12_ticks 49 = .ok (.invokevirtual 257, 3) := by decide +kernel
theorem dX12_ticks_52 : decode cX12_ticks 52 = .ok (.lstore_n 3, 1) := by decide +kernel
theorem dX12_ticks_53 : decode cX12_ticks 53 = .ok (.aload_n 0, 1) := by decide +kernel
theorem dX12_ticks_54 : decode cX12_ticks 54 = .ok (.bipush 16, 2) := by decide +kernel
theorem dX12_ticks_56 : decode cX12_ticks 56 = .ok (.invokevirtual 257, 3) := by decide +kernel
theorem dX12_ticks_59 : decode cX12_ticks 59 = .ok (.lstore 5, 2) := by decide +kernel
theorem dX12_ticks_61 : decode cX12_ticks 61 = .ok (.aload_n 0, 1) := by decide +kernel
theorem dX12_ticks_62 : decode cX12_ticks 62 = .ok (.getfield 7, 3) := by decide +kernel
theorem dX12_ticks_65 : decode cX12_ticks 65 = .ok (.bipush 15, 2) := by decide +kernel
theorem dX12_ticks_67 : decode cX12_ticks 67 = .ok (.iaload, 1) := by decide +kernel
theorem dX12_ticks_68 : decode cX12_ticks 68 = .ok (.iconst 1, 1) := by decide +kernel
theorem dX12_ticks_69 : decode cX12_ticks 69 = .ok (.if_icmp .ne 7, 3) := by decide +kernel
theorem dX12_ticks_72 : decode cX12_ticks 72 = .ok (.iconst 1, 1) := by decide +kernel
theorem dX12_ticks_73 : decode cX12_ticks 73 = .ok (.goto 4, 3) := by decide +kernel
theorem dX12_ticks_76 : decode cX12_ticks 76 = .ok (.iconst 0, 1) := by decide +kernel
theorem dX12_ticks_77 : decode cX12_ticks 77 = .ok (.istore 7, 2) := by decide +kernel
theorem dX12_ticks_79 : decode cX12_ticks 79 = .ok (.aload_n 0, 1) := by decide +kernel
theorem dX12_ticks_80 : decode cX12_ticks 80 = .ok (.getfield 7, 3) := by decide +kernel
theorem dX12_ticks_83 : decode cX12_ticks 83 = .ok (.bipush 19, 2) := by decide +kernel
theorem dX12_ticks_85 : decode cX12_ticks 85 = .ok (.iaload, 1) := by decide +kernel
theorem dX12_ticks_86 : decode cX12_ticks 86 = .ok (.iconst 1, 1) := by decide +kernel
theorem dX12_ticks_87 : decode cX12_ticks 87 = .ok (.if_icmp .ne 7, 3) := by decide +kernel
theorem dX12_ticks_90 : decode cX12_ticks 90 = .ok (.iconst 1, 1) := by decide +kernel
theorem dX12_ticks_91 : decode cX12_ticks 91 = .ok (.goto 4, 3) := by decide +kernel
theorem dX12_ticks_94 : decode cX12_ticks 94 = .ok (.iconst 0, 1) := by decide +kernel
theorem dX12_ticks_95 : decode cX12_ticks 95 = .ok (.istore 8, 2) := by decide +kernel
theorem dX12_ticks_97 : decode cX12_ticks 97 = .ok (.aload_n 0, 1) := by decide +kernel
theorem dX12_ticks_98 : decode cX12_ticks 98 = .ok (.getfield 7, 3) := by decide +kernel
theorem dX12_ticks_101 : decode cX12_ticks 101 = .ok (.bipush 8, 2) := by decide +kernel
theorem dX12_ticks_103 : decode cX12_ticks 103 = .ok (.iaload, 1) := by decide +kernel
theorem dX12_ticks_104 : decode cX12_ticks 104 = .ok (.ifCond .ne 41, 3) := by decide +kernel
theorem dX12_ticks_107 : decode cX12_ticks 107 = .ok (.aload_n 0, 1) := by decide +kernel
theorem dX12_ticks_108 : decode cX12_ticks 108 = .ok (.bipush 12, 2) := by decide +kernel
theorem dX12_ticks_110 : decode cX12_ticks 110 = .ok (.aload_n 0, 1) := by decide +kernel
theorem dX12_ticks_111 : decode cX12_ticks 111 = .ok (.bipush 12, 2) := by decide +kernel
theorem dX12_ticks_113 : decode cX12_ticks 113 = .ok (.invokevirtual 343, 3) := by decide +kernel
theorem dX12_ticks_116 : decode cX12_ticks 116 = .ok (.invokevirtual 346, 3) := by decide +kernel
theorem dX12_ticks_119 : decode cX12_ticks 119 = .ok (.aload_n 0, 1) := by decide +kernel
theorem dX12_ticks_120 : decode cX12_ticks 120 = .ok (.iload_n 1, 1) := by decide +kernel
theorem dX12_ticks_121 : decode cX12_ticks 121 = .ok (.lload_n 3, 1) := by decide +kernel
theorem dX12_ticks_122 : decode cX12_ticks 122 = .ok (.iload 7, 2) := by decide +kernel
theorem dX12_ticks_124 : decode cX12_ticks 124 = .ok (.aload_n 0, 1) := by decide +kernel
theorem dX12_ticks_125 : decode cX12_ticks 125 = .ok (.bipush 12, 2) := by decide +kernel
theorem dX12_ticks_127 : decode cX12_ticks 127 = .ok (.invokevirtual 257, 3) := by decide +kernel
theorem dX12_ticks_130 : decode cX12_ticks 130 = .ok (.ldc2_w 251, 3) := by decide +kernel
theorem dX12_ticks_133 : decode cX12_ticks 133 = .ok (.aload_n 0, 1) := by decide +kernel
theorem dX12_ticks_134 : decode cX12_ticks 134 = .ok (.getfield 7, 3) := by decide +kernel
theorem dX12_ticks_137 : decode cX12_ticks 137 = .ok (.sipush 287, 3) := by decide +kernel
theorem dX12_ticks_140 : decode cX12_ticks 140 = .ok (.iaload, 1) := by decide +kernel
theorem dX12_ticks_141 : decode cX12_ticks 141 = .ok (.invokevirtual 349, 3) := by decide +kernel
theorem dX12_ticks_144 : decode cX12_ticks 144 = .ok (.return_, 1) := by decide +kernel
theorem dX12_ticks_145 : decode cX12_ticks 145 = .ok (.aload_n 0, 1) := by decide +kernel
theorem dX12_ticks_146 : decode cX12_ticks 146 = .ok (.getfield 7, 3) := by decide +kernel
theorem dX12_ticks_149 : decode cX12_ticks 149 = .ok (.bipush 20, 2) := by decide +kernel
theorem dX12_ticks_151 : decode cX12_ticks 151 = .ok (.iaload, 1) := by decide +kernel
theorem dX12_ticks_152 : decode cX12_ticks 152 = .ok (.ifCond .ne 7, 3) := by decide +kernel
theorem dX12_ticks_155 : decode cX12_ticks 155 = .ok (.iconst 1, 1) := by decide +kernel
theorem dX12_ticks_156 : decode cX12_ticks 156 = .ok (.goto 4, 3) := by decide +kernel
theorem dX12_ticks_159 : decode cX12_ticks 159 = .ok (.iconst 0, 1) := by decide +kernel
theorem dX12_ticks_160 : decode cX12_ticks 160 = .ok (.istore 9, 2) := by decide +kernel
theorem dX12_ticks_162 : decode cX12_ticks 162 = .ok (.aload_n 0, 1) := by decide +kernel
theorem dX12_ticks_163 : decode cX12_ticks 163 = .ok (.invokevirtual 353, 3) := by decide +kernel
theorem dX12_ticks_166 : decode cX12_ticks 166 = .ok (.aload_n 0, 1) := by decide +kernel
theorem dX12_ticks_167 : decode cX12_ticks 167 = .ok (.bipush 12, 2) := by decide +kernel
theorem dX12_ticks_169 : decode cX12_ticks 169 = .ok (.invokevirtual 257, 3) := by decide +kernel
theorem dX12_ticks_172 : decode cX12_ticks 172 = .ok (.lstore 10, 2) := by decide +kernel
theorem dX12_ticks_174 : decode cX12_ticks 174 = .ok (.aload_n 0, 1) := by decide +kernel
theorem dX12_ticks_175 : decode cX12_ticks 175 = .ok (.bipush 16, 2) := by decide +kernel
theorem dX12_ticks_177 : decode cX12_ticks 177 = .ok (.invokevirtual 257, 3) := by decide +kernel
theorem dX12_ticks_180 : decode cX12_ticks 180 = .ok (.lstore 12, 2) := by decide +kernel
theorem dX12_ticks_182 : decode cX12_ticks 182 = .ok (.aload_n 0, 1) := by decide +kernel
theorem dX12_ticks_183 : decode cX12_ticks 183 = .ok (.getfield 7, 3) := by decide +kernel
theorem dX12_ticks_186 : decode cX12_ticks 186 = .ok (.bipush 10, 2) := by decide +kernel
theorem dX12_ticks_188 : decode cX12_ticks 188 = .ok (.dup2, 1) := by decide +kernel
theorem dX12_ticks_189 : decode cX12_ticks 189 = .ok (.iaload, 1) := by decide +kernel
theorem dX12_ticks_190 : decode cX12_ticks 190 = .ok (.iconst 1, 1) := by decide +kernel
theorem dX12_ticks_191 : decode cX12_ticks 191 = .ok (.iadd, 1) := by decide +kernel
theorem dX12_ticks_192 : decode cX12_ticks 192 = .ok (.iastore, 1) := by decide +kernel
theorem dX12_ticks_193 : decode cX12_ticks 193 = .ok (.aload_n 0, 1) := by decide +kernel
theorem dX12_ticks_194 : decode cX12_ticks 194 = .ok (.invokevirtual 275, 3) := by decide +kernel
theorem dX12_ticks_197 : decode cX12_ticks 197 = .ok (.lstore 14, 2) := by decide +kernel
theorem dX12_ticks_199 : decode cX12_ticks 199 = .ok (.aload_n 0, 1) := by decide +kernel
theorem dX12_ticks_200 : decode cX12_ticks 200 = .ok (.getfield 7, 3) := by decide +kernel
theorem dX12_ticks_203 : decode cX12_ticks 203 = .ok (.bipush 10, 2) := by decide +kernel
theorem dX12_ticks_205 : decode cX12_ticks 205 = .ok (.iaload, 1) := by decide +kernel
theorem dX12_ticks_206 : decode cX12_ticks 206 = .ok (.aload_n 0, 1) := by decide +kernel
theorem dX12_ticks_207 : decode cX12_ticks 207 = .ok (.aload_n 0, 1) := by decide +kernel
theorem dX12_ticks_208 : decode cX12_ticks 208 = .ok (.getfield 7, 3) := by decide +kernel
theorem dX12_ticks_211 : decode cX12_ticks 211 = .ok (.bipush 9, 2) := by decide +kernel
theorem dX12_ticks_213 : decode cX12_ticks 213 = .ok (.iaload, 1) := by decide +kernel
theorem dX12_ticks_214 : decode cX12_ticks 214 = .ok (.iconst 2, 1) := by decide +kernel
theorem dX12_ticks_215 : decode cX12_ticks 215 = .ok (.invokevirtual 177, 3) := by decide +kernel
theorem dX12_ticks_218 : decode cX12_ticks 218 = .ok (.if_icmp .ne 7, 3) := by decide +kernel
theorem dX12_ticks_221 : decode cX12_ticks 221 = .ok (.aload_n 0, 1) := by decide +kernel
theorem dX12_ticks_222 : decode cX12_ticks 222 = .ok (.invokevirtual 330, 3) := by decide +kernel
theorem dX12_ticks_225 : decode cX12_ticks 225 = .ok (.iload 9, 2) := by decide +kernel
theorem dX12_ticks_227 : decode cX12_ticks 227 = .ok (.ifCond .eq 27, 3) := by decide +kernel
theorem dX12_ticks_230 : decode cX12_ticks 230 = .ok (.aload_n 0, 1) := by decide +kernel
theorem dX12_ticks_231 : decode cX12_ticks 231 = .ok (.iload_n 1, 1) := by decide +kernel
theorem dX12_ticks_232 : decode cX12_ticks 232 = .ok (.lload_n 3, 1) := by decide +kernel
theorem dX12_ticks_233 : decode cX12_ticks 233 = .ok (.iload 7, 2) := by decide +kernel
theorem dX12_ticks_235 : decode cX12_ticks 235 = .ok (.lload 10, 2) := by decide +kernel
theorem dX12_ticks_237 : decode cX12_ticks 237 = .ok (.ldc2_w 251, 3) := by decide +kernel
theorem dX12_ticks_240 : decode cX12_ticks 240 = .ok (.lload 14, 2) := by decide +kernel
theorem dX12_ticks_242 : decode cX12_ticks 242 = .ok (.lsub, 1) := by decide +kernel
theorem dX12_ticks_243 : decode cX12_ticks 243 = .ok (.aload_n 0, 1) := by decide +kernel
theorem dX12_ticks_244 : decode cX12_ticks 244 = .ok (.getfield 7, 3) := by decide +kernel
theorem dX12_ticks_247 : decode cX12_ticks 247 = .ok (.sipush 287, 3) := by decide +kernel
theorem dX12_ticks_250 : decode cX12_ticks 250 = .ok (.iaload, 1) := by decide +kernel
theorem dX12_ticks_251 : decode cX12_ticks 251 = .ok (.invokevirtual 349, 3) := by decide +kernel
theorem dX12_ticks_254 : decode cX12_ticks 254 = .ok (.aload_n 0, 1) := by decide +kernel
theorem dX12_ticks_255 : decode cX12_ticks 255 = .ok (.iload_n 2, 1) := by decide +kernel
theorem dX12_ticks_256 : decode cX12_ticks 256 = .ok (.lload 5, 2) := by decide +kernel
theorem dX12_ticks_258 : decode cX12_ticks 258 = .ok (.iload 8, 2) := by decide +kernel
theorem dX12_ticks_260 : decode cX12_ticks 260 = .ok (.lload 12, 2) := by decide +kernel
theorem dX12_ticks_262 : decode cX12_ticks 262 = .ok (.lload 14, 2) := by decide +kernel
theorem dX12_ticks_264 : decode cX12_ticks 264 = .ok (.aload_n 0, 1) := by decide +kernel
theorem dX12_ticks_265 : decode cX12_ticks 265 = .ok (.getfield 7, 3) := by decide +kernel
theorem dX12_ticks_268 : decode cX12_ticks 268 = .ok (.sipush 287, 3) := by decide +kernel
theorem dX12_ticks_271 : decode cX12_ticks 271 = .ok (.iaload, 1) := by decide +kernel
theorem dX12_ticks_272 : decode cX12_ticks 272 = .ok (.invokevirtual 349, 3) := by decide +kernel
theorem dX12_ticks_275 : decode cX12_ticks 275 = .ok (.return_, 1) := by decide +kernel
theorem dX12_advancesBoth_0 : decode cX12_advancesBoth 0 = .ok (.aload_n 0, 1) := by decide +kernel
theorem dX12_advancesBoth_1 : decode cX12_advancesBoth 1 = .ok (.invokevirtual 325, 3) := by decide +kernel
theorem dX12_advancesBoth_4 : decode cX12_advancesBoth 4 = .ok (.ifCond .eq 116, 3) := by decide +kernel
theorem dX12_advancesBoth_7 : decode cX12_advancesBoth 7 = .ok (.aload_n 0, 1) := by decide +kernel
theorem dX12_advancesBoth_8 : decode cX12_advancesBoth 8 = .ok (.invokevirtual 275, 3) := by decide +kernel
theorem dX12_advancesBoth_11 : decode cX12_advancesBoth 11 = .ok (.lstore_n 1, 1) := by decide +kernel
theorem dX12_advancesBoth_12 : decode cX12_advancesBoth 12 = .ok (.ldc2_w 251, 3) := by decide +kernel
theorem dX12_advancesBoth_15 : decode cX12_advancesBoth 15 = .ok (.lload_n 1, 1) := by decide +kernel
theorem dX12_advancesBoth_16 : decode cX12_advancesBoth 16 = .ok (.lsub, 1) := by decide +kernel
theorem dX12_advancesBoth_17 : decode cX12_advancesBoth 17 = .ok (.lstore_n 3, 1) := by decide +kernel
theorem dX12_advancesBoth_18 : decode cX12_advancesBoth 18 = .ok (.lload_n 3, 1) := by decide +kernel
theorem dX12_advancesBoth_19 : decode cX12_advancesBoth 19 = .ok (.aload_n 0, 1) := by decide +kernel
theorem dX12_advancesBoth_20 : decode cX12_advancesBoth 20 = .ok (.getfield 50, 3) := by decide +kernel
theorem dX12_advancesBoth_23 : decode cX12_advancesBoth 23 = .ok (.aload_n 0, 1) := by decide +kernel
theorem dX12_advancesBoth_24 : decode cX12_advancesBoth 24 = .ok (.getfield 7, 3) := by decide +kernel
theorem dX12_advancesBoth_27 : decode cX12_advancesBoth 27 = .ok (.bipush 12, 2) := by decide +kernel
theorem dX12_advancesBoth_29 : decode cX12_advancesBoth 29 = .ok (.iaload, 1) := by decide +kernel
theorem dX12_advancesBoth_30 : decode cX12_advancesBoth 30 = .ok (.iaload, 1) := by decide +kernel
theorem dX12_advancesBoth_31 : decode cX12_advancesBoth 31 = .ok (.i2l, 1) := by decide +kernel
theorem dX12_advancesBoth_32 : decode cX12_advancesBoth 32 = .ok (.lmul, 1) := by decide +kernel
theorem dX12_advancesBoth_33 : decode cX12_advancesBoth 33 = .ok (.lload_n 1, 1) := by decide +kernel
theorem dX12_advancesBoth_34 : decode cX12_advancesBoth 34 = .ok (.aload_n 0, 1) := by decide +kernel
theorem dX12_advancesBoth_35 : decode cX12_advancesBoth 35 = .ok (.getfield 50, 3) := by decide +kernel
theorem dX12_advancesBoth_38 : decode cX12_advancesBoth 38 = .ok (.aload_n 0, 1) := by decide +kernel
theorem dX12_advancesBoth_39 : decode cX12_advancesBoth 39 = .ok (.getfield 7, 3) := by decide +kernel
theorem dX12_advancesBoth_42 : decode cX12_advancesBoth 42 = .ok (.bipush 16, 2) := by decide +kernel
theorem dX12_advancesBoth_44 : decode cX12_advancesBoth 44 = .ok (.iaload, 1) := by decide +kernel
theorem dX12_advancesBoth_45 : decode cX12_advancesBoth 45 = .ok (.iaload, 1) := by decide +kernel
theorem dX12_advancesBoth_46 : decode cX12_advancesBoth 46 = .ok (.i2l, 1) := by decide +kernel
theorem dX12_advancesBoth_47 : decode cX12_advancesBoth 47 = .ok (.lmul, 1) := by decide +kernel
theorem dX12_advancesBoth_48 : decode cX12_advancesBoth 48 = .ok (.ladd, 1) := by decide +kernel
theorem dX12_advancesBoth_49 : decode cX12_advancesBoth 49 = .ok (.ldc2_w 251, 3) := by decide +kernel
theorem dX12_advancesBoth_52 : decode cX12_advancesBoth 52 = .ok (.ldiv, 1) := by decide +kernel
theorem dX12_advancesBoth_53 : decode cX12_advancesBoth 53 = .ok (.lstore 5, 2) := by decide +kernel
theorem dX12_advancesBoth_55 : decode cX12_advancesBoth 55 = .ok (.lload_n 3, 1) := by decide +kernel
theorem dX12_advancesBoth_56 : decode cX12_advancesBoth 56 = .ok (.aload_n 0, 1) := by decide +kernel
theorem dX12_advancesBoth_57 : decode cX12_advancesBoth 57 = .ok (.aload_n 0, 1) := by decide +kernel
theorem dX12_advancesBoth_58 : decode cX12_advancesBoth 58 = .ok (.getfield 7, 3) := by decide +kernel
theorem dX12_advancesBoth_61 : decode cX12_advancesBoth 61 = .ok (.bipush 12, 2) := by decide +kernel
theorem dX12_advancesBoth_63 : decode cX12_advancesBoth 63 = .ok (.iaload, 1) := by decide +kernel
theorem dX12_advancesBoth_64 : decode cX12_advancesBoth 64 = .ok (.invokevirtual 262, 3) := by decide +kernel
theorem dX12_advancesBoth_67 : decode cX12_advancesBoth 67 = .ok (.lmul, 1) := by decide +kernel
theorem dX12_advancesBoth_68 : decode cX12_advancesBoth 68 = .ok (.lload_n 1, 1) := by decide +kernel
theorem dX12_advancesBoth_69 : decode cX12_advancesBoth 69 = .ok (.aload_n 0, 1) := by decide +kernel
theorem dX12_advancesBoth_70 : decode cX12_advancesBoth 70 = .ok (.aload_n 0, 1) := by decide +kernel
theorem dX12_advancesBoth_71 : decode cX12_advancesBoth 71 = .ok (.getfield 7, 3) := by decide +kernel
theorem dX12_advancesBoth_74 : decode cX12_advancesBoth 74 = .ok (.bipush 16, 2) := by decide +kernel
theorem dX12_advancesBoth_76 : decode cX12_advancesBoth 76 = .ok (.iaload, 1) := by decide +kernel
theorem dX12_advancesBoth_77 : decode cX12_advancesBoth 77 = .ok (.invokevirtual 262, 3) := by decide +kernel
theorem dX12_advancesBoth_80 : decode cX12_advancesBoth 80 = .ok (.lmul, 1) := by decide +kernel
theorem dX12_advancesBoth_81 : decode cX12_advancesBoth 81 = .ok (.ladd, 1) := by decide +kernel
theorem dX12_advancesBoth_82 : decode cX12_advancesBoth 82 = .ok (.ldc2_w 251, 3) := by decide +kernel
theorem dX12_advancesBoth_85 : decode cX12_advancesBoth 85 = .ok (.ldiv, 1) := by decide +kernel
theorem dX12_advancesBoth_86 : decode cX12_advancesBoth 86 = .ok (.lstore 7, 2) := by decide +kernel
theorem dX12_advancesBoth_88 : decode cX12_advancesBoth 88 = .ok (.ldc2_w 251, 3) := by decide +kernel
theorem dX12_advancesBoth_91 : decode cX12_advancesBoth 91 = .ok (.lload 5, 2) := by decide +kernel
theorem dX12_advancesBoth_93 : decode cX12_advancesBoth 93 = .ok (.lmul, 1) := by decide +kernel
theorem dX12_advancesBoth_94 : decode cX12_advancesBoth 94 = .ok (.ldc2_w 116, 3) := by decide +kernel
theorem dX12_advancesBoth_97 : decode cX12_advancesBoth 97 = .ok (.lload 7, 2) := by decide +kernel
theorem dX12_advancesBoth_99 : decode cX12_advancesBoth 99 = .ok (.lmul, 1) := by decide +kernel
theorem dX12_advancesBoth_100 : decode cX12_advancesBoth 100 = .ok (.ldiv, 1) := by decide +kernel
theorem dX12_advancesBoth_101 : decode cX12_advancesBoth 101 = .ok (.lstore 9, 2) := by decide +kernel
theorem dX12_advancesBoth_103 : decode cX12_advancesBoth 103 = .ok (.aload_n 0, 1) := by decide +kernel
theorem dX12_advancesBoth_104 : decode cX12_advancesBoth 104 = .ok (.bipush 12, 2) := by decide +kernel
theorem dX12_advancesBoth_106 : decode cX12_advancesBoth 106 = .ok (.lload 9, 2) := by decide +kernel
theorem dX12_advancesBoth_108 : decode cX12_advancesBoth 108 = .ok (.invokevirtual 346, 3) := by decide +kernel
theorem dX12_advancesBoth_111 : decode cX12_advancesBoth 111 = .ok (.aload_n 0, 1) := by decide +kernel
theorem dX12_advancesBoth_112 : decode cX12_advancesBoth 112 = .ok (.bipush 16, 2) := by decide +kernel
theorem dX12_advancesBoth_114 : decode cX12_advancesBoth 114 = .ok (.lload 9, 2) := by decide +kernel
theorem dX12_advancesBoth_116 : decode cX12_advancesBoth 116 = .ok (.invokevirtual 346, 3) := by decide +kernel
theorem dX12_advancesBoth_119 : decode cX12_advancesBoth 119 = .ok (.return_, 1) := by decide +kernel
theorem dX12_advancesBoth_120 : decode cX12_advancesBoth 120 = .ok (.aload_n 0, 1) := by decide +kernel
theorem dX12_advancesBoth_121 : decode cX12_advancesBoth 121 = .ok (.getfield 7, 3) := by decide +kernel
theorem dX12_advancesBoth_124 : decode cX12_advancesBoth 124 = .ok (.bipush 20, 2) := by decide +kernel
theorem dX12_advancesBoth_126 : decode cX12_advancesBoth 126 = .ok (.iaload, 1) := by decide +kernel
theorem dX12_advancesBoth_127 : decode cX12_advancesBoth 127 = .ok (.ifCond .ne 15, 3) := by decide +kernel
theorem dX12_advancesBoth_130 : decode cX12_advancesBoth 130 = .ok (.aload_n 0, 1) := by decide +kernel
theorem dX12_advancesBoth_131 : decode cX12_advancesBoth 131 = .ok (.bipush 12, 2) := by decide +kernel
theorem dX12_advancesBoth_133 : decode cX12_advancesBoth 133 = .ok (.aload_n 0, 1) := by decide +kernel
theorem dX12_advancesBoth_134 : decode cX12_advancesBoth 134 = .ok (.bipush 12, 2) := by decide +kernel
theorem dX12_advancesBoth_136 : decode cX12_advancesBoth 136 = .ok (.invokevirtual 343, 3) := by decide +kernel
theorem dX12_advancesBoth_139 : decode cX12_advancesBoth 139 = .ok (.invokevirtual 346, 3) := by decide +kernel
theorem dX12_advancesBoth_142 : decode cX12_advancesBoth 142 = .ok (.aload_n 0, 1) := by decide +kernel
theorem dX12_advancesBoth_143 : decode cX12_advancesBoth 143 = .ok (.bipush 16, 2) := by decide +kernel
theorem dX12_advancesBoth_145 : decode cX12_advancesBoth 145 = .ok (.aload_n 0, 1) := by decide +kernel
theorem dX12_advancesBoth_146 : decode cX12_advancesBoth 146 = .ok (.bipush 16, 2) := by decide +kernel
theorem dX12_advancesBoth_148 : decode cX12_advancesBoth 148 = .ok (.invokevirtual 343, 3) := by decide +kernel
theorem dX12_advancesBoth_151 : decode cX12_advancesBoth 151 = .ok (.invokevirtual 346, 3) := by decide +kernel
theorem dX12_advancesBoth_154 : decode cX12_advancesBoth 154 = .ok (.return_, 1) := by decide +kernel
theorem dX12_tick_0 : decode cX12_tick 0 = .ok (.aload_n 0, 1) := by decide +kernel
theorem dX12_tick_1 : decode cX12_tick 1 = .ok (.iconst 0, 1) := by decide +kernel
theorem dX12_tick_2 : decode cX12_tick 2 = .ok (.putfield 94, 3) := by decide +kernel
theorem dX12_tick_5 : decode cX12_tick 5 = .ok (.iload_n 1, 1) := by decide +kernel
theorem dX12_tick_6 : decode cX12_tick 6 = .ok (.i2l, 1) := by decide +kernel
theorem dX12_tick_7 : decode cX12_tick 7 = .ok (.lconst 1, 1) := by decide +kernel
theorem dX12_tick_8 : decode cX12_tick 8 = .ok (.ldc2_w 116, 3) := by decide +kernel
theorem dX12_tick_11 : decode cX12_tick 11 = .ok (.invokestatic 99, 3) := by decide +kernel
theorem dX12_tick_14 : decode cX12_tick 14 = .ok (.ifCond .ne 9, 3) := by decide +kernel
theorem dX12_tick_17 : decode cX12_tick 17 = .ok (.aload_n 0, 1) := by decide +kernel
theorem dX12_tick_18 : decode cX12_tick 18 = .ok (.iconst 1, 1) := by decide +kernel
theorem dX12_tick_19 : decode cX12_tick 19 = .ok (.invokevirtual 103, 3) := by decide +kernel
theorem dX12_tick_22 : decode cX12_tick 22 = .ok (.ireturn, 1) := by decide +kernel
theorem dX12_tick_23 : decode cX12_tick 23 = .ok (.aload_n 0, 1) := by decide +kernel
theorem dX12_tick_24 : decode cX12_tick 24 = .ok (.getfield 145, 3) := by decide +kernel
theorem dX12_tick_27 : decode cX12_tick 27 = .ok (.ifCond .ne 9, 3) := by decide +kernel
theorem dX12_tick_30 : decode cX12_tick 30 = .ok (.aload_n 0, 1) := by decide +kernel
theorem dX12_tick_31 : decode cX12_tick 31 = .ok (.iconst 2, 1) := by decide +kernel
theorem dX12_tick_32 : decode cX12_tick 32 = .ok (.invokevirtual 103, 3) := by decide +kernel
theorem dX12_tick_35 : decode cX12_tick 35 = .ok (.ireturn, 1) := by decide +kernel
theorem dX12_tick_36 : decode cX12_tick 36 = .ok (.aload_n 0, 1) := by decide +kernel
theorem dX12_tick_37 : decode cX12_tick 37 = .ok (.getfield 7, 3) := by decide +kernel
theorem dX12_tick_40 : decode cX12_tick 40 = .ok (.sipush 288, 3) := by decide +kernel
theorem dX12_tick_43 : decode cX12_tick 43 = .ok (.iaload, 1) := by decide +kernel
theorem dX12_tick_44 : decode cX12_tick 44 = .ok (.istore_n 2, 1) := by decide +kernel
theorem dX12_tick_45 : decode cX12_tick 45 = .ok (.iconst 0, 1) := by decide +kernel
theorem dX12_tick_46 : decode cX12_tick 46 = .ok (.istore_n 3, 1) := by decide +kernel
theorem dX12_tick_47 : decode cX12_tick 47 = .ok (.iload_n 3, 1) := by decide +kernel
theorem dX12_tick_48 : decode cX12_tick 48 = .ok (.iload_n 1, 1) := by decide +kernel
theorem dX12_tick_49 : decode cX12_tick 49 = .ok (.if_icmp .ge 13, 3) := by decide +kernel
theorem dX12_tick_52 : decode cX12_tick 52 = .ok (.aload_n 0, 1) := by decide +kernel
theorem dX12_tick_53 : decode cX12_tick 53 = .ok (.invokevirtual 356, 3) := by decide +kernel
theorem dX12_tick_56 : decode cX12_tick 56 = .ok (.iinc 3 1, 3) := by decide +kernel
theorem dX12_tick_59 : decode cX12_tick 59 = .ok (.goto (-12), 3) := by decide +kernel
theorem dX12_tick_62 : decode cX12_tick 62 = .ok (.aload_n 0, 1) := by decide +kernel
theorem dX12_tick_63 : decode cX12_tick 63 = .ok (.getfield 7, 3) := by decide +kernel
theorem dX12_tick_66 : decode cX12_tick 66 = .ok (.sipush 288, 3) := by decide +kernel
theorem dX12_tick_69 : decode cX12_tick 69 = .ok (.iaload, 1) := by decide +kernel
theorem dX12_tick_70 : decode cX12_tick 70 = .ok (.iload_n 2, 1) := by decide +kernel
theorem dX12_tick_71 : decode cX12_tick 71 = .ok (.isub, 1) := by decide +kernel
theorem dX12_tick_72 : decode cX12_tick 72 = .ok (.ireturn, 1) := by decide +kernel
theorem dX12_reset_0 : decode cX12_reset 0 = .ok (.aload_n 0, 1) := by decide +kernel
theorem dX12_reset_1 : decode cX12_reset 1 = .ok (.iconst 0, 1) := by decide +kernel
theorem dX12_reset_2 : decode cX12_reset 2 = .ok (.putfield 94, 3) := by decide +kernel
theorem dX12_reset_5 : decode cX12_reset 5 = .ok (.aload_n 0, 1) := by decide +kernel
theorem dX12_reset_6 : decode cX12_reset 6 = .ok (.getfield 7, 3) := by decide +kernel
theorem dX12_reset_9 : decode cX12_reset 9 = .ok (.sipush 287, 3) := by decide +kernel
theorem dX12_reset_12 : decode cX12_reset 12 = .ok (.iaload, 1) := by decide +kernel
theorem dX12_reset_13 : decode cX12_reset 13 = .ok (.istore_n 1, 1) := by decide +kernel
theorem dX12_reset_14 : decode cX12_reset 14 = .ok (.iconst 0, 1) := by decide +kernel
theorem dX12_reset_15 : decode cX12_reset 15 = .ok (.istore_n 2, 1) := by decide +kernel
theorem dX12_reset_16 : decode cX12_reset 16 = .ok (.iload_n 2, 1) := by decide +kernel
theorem dX12_reset_17 : decode cX12_reset 17 = .ok (.bipush 8, 2) := by decide +kernel
theorem dX12_reset_19 : decode cX12_reset 19 = .ok (.if_icmp .ge 18, 3) := by decide +kernel
theorem dX12_reset_22 : decode cX12_reset 22 = .ok (.aload_n 0, 1) := by decide +kernel
theorem dX12_reset_23 : decode cX12_reset 23 = .ok (.getfield 7, 3) := by decide +kernel
theorem dX12_reset_26 : decode cX12_reset 26 = .ok (.iconst 0, 1) := by decide +kernel
theorem dX12_reset_27 : decode cX12_reset 27 = .ok (.iload_n 2, 1) := by decide +kernel
theorem dX12_reset_28 : decode cX12_reset 28 = .ok (.iadd, 1) := by decide +kernel
theorem dX12_reset_29 : decode cX12_reset 29 = .ok (.iconst 0, 1) := by decide +kernel
theorem dX12_reset_30 : decode cX12_reset 30 = .ok (.iastore, 1) := by decide +kernel
theorem dX12_reset_31 : decode cX12_reset 31 = .ok (.iinc 2 1, 3) := by decide +kernel
theorem dX12_reset_34 : decode cX12_reset 34 = .ok (.goto (-18), 3) := by decide +kernel
theorem dX12_reset_37 : decode cX12_reset 37 = .ok (.aload_n 0, 1) := by decide +kernel
theorem dX12_reset_38 : decode cX12_reset 38 = .ok (.invokevirtual 152, 3) := by decide +kernel
theorem dX12_reset_41 : decode cX12_reset 41 = .ok (.aload_n 0, 1) := by decide +kernel
theorem dX12_reset_42 : decode cX12_reset 42 = .ok (.getfield 7, 3) := by decide +kernel
theorem dX12_reset_45 : decode cX12_reset 45 = .ok (.sipush 166, 3) := by decide +kernel
theorem dX12_reset_48 : decode cX12_reset 48 = .ok (.iconst 0, 1) := by decide +kernel
theorem dX12_reset_49 : decode cX12_reset 49 = .ok (.iastore, 1) := by decide +kernel
theorem dX12_reset_50 : decode cX12_reset 50 = .ok (.aload_n 0, 1) := by decide +kernel
theorem dX12_reset_51 : decode cX12_reset 51 = .ok (.getfield 7, 3) := by decide +kernel
theorem dX12_reset_54 : decode cX12_reset 54 = .ok (.sipush 287, 3) := by decide +kernel
theorem dX12_reset_57 : decode cX12_reset 57 = .ok (.iconst 0, 1) := by decide +kernel
theorem dX12_reset_58 : decode cX12_reset 58 = .ok (.iastore, 1) := by decide +kernel
theorem dX12_reset_59 : decode cX12_reset 59 = .ok (.aload_n 0, 1) := by decide +kernel
theorem dX12_reset_60 : decode cX12_reset 60 = .ok (.getfield 7, 3) := by decide +kernel
theorem dX12_reset_63 : decode cX12_reset 63 = .ok (.sipush 288, 3) := by decide +kernel
theorem dX12_reset_66 : decode cX12_reset 66 = .ok (.iconst 0, 1) := by decide +kernel
theorem dX12_reset_67 : decode cX12_reset 67 = .ok (.iastore, 1) := by decide +kernel
theorem dX12_reset_68 : decode cX12_reset 68 = .ok (.iload_n 1, 1) := by decide +kernel
theorem dX12_reset_69 : decode cX12_reset 69 = .ok (.ireturn, 1) := by decide +kernel
theorem dX12_state_0 : decode cX12_state 0 = .ok (.aload_n 0, 1) := by decide +kernel
theorem dX12_state_1 : decode cX12_state 1 = .ok (.iconst 0, 1) := by decide +kernel
theorem dX12_state_2 : decode cX12_state 2 = .ok (.putfield 94, 3) := by decide +kernel
theorem dX12_state_5 : decode cX12_state 5 = .ok (.aload_n 0, 1) := by decide +kernel
theorem dX12_state_6 : decode cX12_state 6 = .ok (.getfield 145, 3) := by decide +kernel
theorem dX12_state_9 : decode cX12_state 9 = .ok (.ifCond .ne 11, 3) := by decide +kernel
theorem dX12_state_12 : decode cX12_state 12 = .ok (.aload_n 0, 1) := by decide +kernel
theorem dX12_state_13 : decode cX12_state 13 = .ok (.iconst 1, 1) := by decide +kernel
theorem dX12_state_14 : decode cX12_state 14 = .ok (.invokevirtual 103, 3) := by decide +kernel
theorem dX12_state_17 : decode cX12_state 17 = .ok (.goto 10, 3) := by decide +kernel
theorem dX12_state_20 : decode cX12_state 20 = .ok (.aload_n 0, 1) := by decide +kernel
theorem dX12_state_21 : decode cX12_state 21 = .ok (.getfield 7, 3) := by decide +kernel
theorem dX12_state_24 : decode cX12_state 24 = .ok (.bipush 12, 2) := by decide +kernel
theorem dX12_state_26 : decode cX12_state 26 = .ok (.iaload, 1) := by decide +kernel
theorem dX12_state_27 : decode cX12_state 27 = .ok (.ireturn, 1) := by decide +kernel
theorem dX12_target_0 : decode cX12_target 0 = .ok (.aload_n 0, 1) := by decide +kernel
theorem dX12_target_1 : decode cX12_target 1 = .ok (.iconst 0, 1) := by decide +kernel
theorem dX12_target_2 : decode cX12_target 2 = .ok (.putfield 94, 3) := by decide +kernel
theorem dX12_target_5 : decode cX12_target 5 = .ok (.aload_n 0, 1) := by decide +kernel
theorem dX12_target_6 : decode cX12_target 6 = .ok (.getfield 7, 3) := by decide +kernel
theorem dX12_target_9 : decode cX12_target 9 = .ok (.bipush 8, 2) := by decide +kernel
theorem dX12_target_11 : decode cX12_target 11 = .ok (.iaload, 1) := by decide +kernel
theorem dX12_target_12 : decode cX12_target 12 = .ok (.ifCond .ne 7, 3) := by decide +kernel
theorem dX12_target_15 : decode cX12_target 15 = .ok (.iconst (-1), 1) := by decide +kernel
theorem dX12_target_16 : decode cX12_target 16 = .ok (.goto 10, 3) := by decide +kernel
theorem dX12_target_19 : decode cX12_target 19 = .ok (.aload_n 0, 1) := by decide +kernel
theorem dX12_target_20 : decode cX12_target 20 = .ok (.getfield 7, 3) := by decide +kernel
theorem dX12_target_23 : decode cX12_target 23 = .ok (.bipush 16, 2) := by decide +kernel
theorem dX12_target_25 : decode cX12_target 25 = .ok (.iaload, 1) := by decide +kernel
theorem dX12_target_26 : decode cX12_target 26 = .ok (.ireturn, 1) := by decide +kernel
theorem dX12_transition_0 : decode cX12_transition 0 = .ok (.aload_n 0, 1) := by decide +kernel
theorem dX12_transition_1 : decode cX12_transition 1 = .ok (.iconst 0, 1) := by decide +kernel
theorem dX12_transition_2 : decode cX12_transition 2 = .ok (.putfield 94, 3) := by decide +kernel
theorem dX12_transition_5 : decode cX12_transition 5 = .ok (.aload_n 0, 1) := by decide +kernel
theorem dX12_transition_6 : decode cX12_transition 6 = .ok (.getfield 7, 3) := by decide +kernel
theorem dX12_transition_9 : decode cX12_transition 9 = .ok (.bipush 8, 2) := by decide +kernel
theorem dX12_transition_11 : decode cX12_transition 11 = .ok (.iaload, 1) := by decide +kernel
theorem dX12_transition_12 : decode cX12_transition 12 = .ok (.ifCond .ne 7, 3) := by decide +kernel
theorem dX12_transition_15 : decode cX12_transition 15 = .ok (.iconst (-1), 1) := by decide +kernel
theorem dX12_transition_16 : decode cX12_transition 16 = .ok (.goto 10, 3) := by decide +kernel
theorem dX12_transition_19 : decode cX12_transition 19 = .ok (.aload_n 0, 1) := by decide +kernel
theorem dX12_transition_20 : decode cX12_transition 20 = .ok (.getfield 7, 3) := by decide +kernel
theorem dX12_transition_23 : decode cX12_transition 23 = .ok (.bipush 9, 2) := by decide +kernel
theorem dX12_transition_25 : decode cX12_transition 25 = .ok (.iaload, 1) := by decide +kernel
theorem dX12_transition_26 : decode cX12_transition 26 = .ok (.ireturn, 1) := by decide +kernel
theorem dX12_elapsed_0 : decode cX12_elapsed 0 = .ok (.aload_n 0, 1) := by decide +kernel
theorem dX12_elapsed_1 : decode cX12_elapsed 1 = .ok (.iconst 0, 1) := by decide +kernel
theorem dX12_elapsed_2 : decode cX12_elapsed 2 = .ok (.putfield 94, 3) := by decide +kernel
theorem dX12_elapsed_5 : decode cX12_elapsed 5 = .ok (.aload_n 0, 1) := by decide +kernel
theorem dX12_elapsed_6 : decode cX12_elapsed 6 = .ok (.getfield 7, 3) := by decide +kernel
theorem dX12_elapsed_9 : decode cX12_elapsed 9 = .ok (.bipush 8, 2) := by decide +kernel
theorem dX12_elapsed_11 : decode cX12_elapsed 11 = .ok (.iaload, 1) := by decide +kernel
theorem dX12_elapsed_12 : decode cX12_elapsed 12 = .ok (.ifCond .ne 7, 3) := by decide +kernel
theorem dX12_elapsed_15 : decode cX12_elapsed 15 = .ok (.iconst (-1), 1) := by decide +kernel
theorem dX12_elapsed_16 : decode cX12_elapsed 16 = .ok (.goto 10, 3) := by decide +kernel
theorem dX12_elapsed_19 : decode cX12_elapsed 19 = .ok (.aload_n 0, 1) := by decide +kernel
theorem dX12_elapsed_20 : decode cX12_elapsed 20 = .ok (.getfield 7, 3) := by decide +kernel
theorem dX12_elapsed_23 : decode cX12_elapsed 23 = .ok (.bipush 10, 2) := by decide +kernel
theorem dX12_elapsed_25 : decode cX12_elapsed 25 = .ok (.iaload, 1) := by decide +kernel
theorem dX12_elapsed_26 : decode cX12_elapsed 26 = .ok (.ireturn, 1) := by decide +kernel
theorem dX12_isFrozen_0 : decode cX12_isFrozen 0 = .ok (.aload_n 0, 1) := by decide +kernel
theorem dX12_isFrozen_1 : decode cX12_isFrozen 1 = .ok (.iconst 0, 1) := by decide +kernel
theorem dX12_isFrozen_2 : decode cX12_isFrozen 2 = .ok (.putfield 94, 3) := by decide +kernel
theorem dX12_isFrozen_5 : decode cX12_isFrozen 5 = .ok (.aload_n 0, 1) := by decide +kernel
theorem dX12_isFrozen_6 : decode cX12_isFrozen 6 = .ok (.getfield 7, 3) := by decide +kernel
theorem dX12_isFrozen_9 : decode cX12_isFrozen 9 = .ok (.bipush 8, 2) := by decide +kernel
theorem dX12_isFrozen_11 : decode cX12_isFrozen 11 = .ok (.iaload, 1) := by decide +kernel
theorem dX12_isFrozen_12 : decode cX12_isFrozen 12 = .ok (.iconst 1, 1) := by decide +kernel
theorem dX12_isFrozen_13 : decode cX12_isFrozen 13 = .ok (.if_icmp .ne 18, 3) := by decide +kernel
theorem dX12_isFrozen_16 : decode cX12_isFrozen 16 = .ok (.aload_n 0, 1) := by decide +kernel
theorem dX12_isFrozen_17 : decode cX12_isFrozen 17 = .ok (.getfield 7, 3) := by decide +kernel
theorem dX12_isFrozen_20 : decode cX12_isFrozen 20 = .ok (.bipush 20, 2) := by decide +kernel
theorem dX12_isFrozen_22 : decode cX12_isFrozen 22 = .ok (.iaload, 1) := by decide +kernel
theorem dX12_isFrozen_23 : decode cX12_isFrozen 23 = .ok (.iconst 1, 1) := by decide +kernel
theorem dX12_isFrozen_24 : decode cX12_isFrozen 24 = .ok (.if_icmp .ne 7, 3) := by decide +kernel
theorem dX12_isFrozen_27 : decode cX12_isFrozen 27 = .ok (.iconst 1, 1) := by decide +kernel
theorem dX12_isFrozen_28 : decode cX12_isFrozen 28 = .ok (.goto 4, 3) := by decide +kernel
theorem dX12_isFrozen_31 : decode cX12_isFrozen 31 = .ok (.iconst 0, 1) := by decide +kernel
theorem dX12_isFrozen_32 : decode cX12_isFrozen 32 = .ok (.ireturn, 1) := by decide +kernel
theorem dX12_progress_0 : decode cX12_progress 0 = .ok (.aload_n 0, 1) := by decide +kernel
theorem dX12_progress_1 : decode cX12_progress 1 = .ok (.iconst 0, 1) := by decide +kernel
theorem dX12_progress_2 : decode cX12_progress 2 = .ok (.putfield 94, 3) := by decide +kernel
theorem dX12_progress_5 : decode cX12_progress 5 = .ok (.aload_n 0, 1) := by decide +kernel
theorem dX12_progress_6 : decode cX12_progress 6 = .ok (.getfield 145, 3) := by decide +kernel
theorem dX12_progress_9 : decode cX12_progress 9 = .ok (.ifCond .eq 17, 3) := by decide +kernel
theorem dX12_progress_12 : decode cX12_progress 12 = .ok (.iload_n 1, 1) := by decide +kernel
theorem dX12_progress_13 : decode cX12_progress 13 = .ok (.ifCond .eq 21, 3) := by decide +kernel
theorem dX12_progress_16 : decode cX12_progress 16 = .ok (.aload_n 0, 1) := by decide +kernel
theorem dX12_progress_17 : decode cX12_progress 17 = .ok (.getfield 7, 3) := by decide +kernel
theorem dX12_progress_20 : decode cX12_progress 20 = .ok (.bipush 8, 2) := by decide +kernel
theorem dX12_progress_22 : decode cX12_progress 22 = .ok (.iaload, 1) := by decide +kernel
theorem dX12_progress_23 : decode cX12_progress 23 = .ok (.ifCond .ne 11, 3) := by decide +kernel
theorem dX12_progress_26 : decode cX12_progress 26 = .ok (.aload_n 0, 1) := by decide +kernel
theorem dX12_progress_27 : decode cX12_progress 27 = .ok (.iconst 1, 1) := by decide +kernel
theorem dX12_progress_28 : decode cX12_progress 28 = .ok (.invokevirtual 103, 3) := by decide +kernel
theorem dX12_progress_31 : decode cX12_progress 31 = .ok (.pop, 1) := by decide +kernel
theorem dX12_progress_32 : decode cX12_progress 32 = .ok (.lconst 0, 1) := by decide +kernel
theorem dX12_progress_33 : decode cX12_progress 33 = .ok (.lreturn, 1) := by decide +kernel
theorem dX12_progress_34 : decode cX12_progress 34 = .ok (.aload_n 0, 1) := by decide +kernel
theorem dX12_progress_35 : decode cX12_progress 35 = .ok (.iload_n 1, 1) := by decide +kernel
theorem dX12_progress_36 : decode cX12_progress 36 = .ok (.ifCond .eq 8, 3) := by decide +kernel
theorem dX12_progress_39 : decode cX12_progress 39 = .ok (.bipush 16, 2) := by decide +kernel
theorem dX12_progress_41 : decode cX12_progress 41 = .ok (.goto 5, 3) := by decide +kernel
theorem dX12_progress_44 : decode cX12_progress 44 = .ok (.bipush 12, 2) := by decide +kernel
theorem dX12_progress_46 : decode cX12_progress 46 = .ok (.invokevirtual 257, 3) := by decide +kernel
theorem dX12_progress_49 : decode cX12_progress 49 = .ok (.lreturn, 1) := by decide +kernel
theorem dX12_stateLength_0 : decode cX12_stateLength 0 = .ok (.aload_n 0, 1) := by decide +kernel
theorem dX12_stateLength_1 : decode cX12_stateLength 1 = .ok (.iconst 0, 1) := by decide +kernel
theorem dX12_stateLength_2 : decode cX12_stateLength 2 = .ok (.putfield 94, 3) := by decide +kernel
theorem dX12_stateLength_5 : decode cX12_stateLength 5 = .ok (.aload_n 0, 1) := by decide +kernel
theorem dX12_stateLength_6 : decode cX12_stateLength 6 = .ok (.iload_n 1, 1) := by decide +kernel
theorem dX12_stateLength_7 : decode cX12_stateLength 7 = .ok (.invokevirtual 162, 3) := by decide +kernel
theorem dX12_stateLength_10 : decode cX12_stateLength 10 = .ok (.ifCond .eq 12, 3) := by decide +kernel
theorem dX12_stateLength_13 : decode cX12_stateLength 13 = .ok (.aload_n 0, 1) := by decide +kernel
theorem dX12_stateLength_14 : decode cX12_stateLength 14 = .ok (.iload_n 1, 1) := by decide +kernel
theorem dX12_stateLength_15 : decode cX12_stateLength 15 = .ok (.invokevirtual 262, 3) := by decide +kernel
theorem dX12_stateLength_18 : decode cX12_stateLength 18 = .ok (.l2i, 1) := by decide +kernel
theorem dX12_stateLength_19 : decode cX12_stateLength 19 = .ok (.goto 8, 3) := by decide +kernel
theorem dX12_stateLength_22 : decode cX12_stateLength 22 = .ok (.aload_n 0, 1) := by decide +kernel
theorem dX12_stateLength_23 : decode cX12_stateLength 23 = .ok (.iconst 1, 1) := by decide +kernel
theorem dX12_stateLength_24 : decode cX12_stateLength 24 = .ok (.invokevirtual 103, 3) := by decide +kernel
theorem dX12_stateLength_27 : decode cX12_stateLength 27 = .ok (.ireturn, 1) := by decide +kernel
theorem dX12_partWeight_0 : decode cX12_partWeight 0 = .ok (.aload_n 0, 1) := by decide +kernel
theorem dX12_partWeight_1 : decode cX12_partWeight 1 = .ok (.iconst 0, 1) := by decide +kernel
theorem dX12_partWeight_2 : decode cX12_partWeight 2 = .ok (.putfield 94, 3) := by decide +kernel
theorem dX12_partWeight_5 : decode cX12_partWeight 5 = .ok (.aload_n 0, 1) := by decide +kernel
theorem dX12_partWeight_6 : decode cX12_partWeight 6 = .ok (.iload_n 1, 1) := by decide +kernel
theorem dX12_partWeight_7 : decode cX12_partWeight 7 = .ok (.invokevirtual 162, 3) := by decide +kernel
theorem dX12_partWeight_10 : decode cX12_partWeight 10 = .ok (.ifCond .eq 11, 3) := by decide +kernel
theorem dX12_partWeight_13 : decode cX12_partWeight 13 = .ok (.aload_n 0, 1) := by decide +kernel
theorem dX12_partWeight_14 : decode cX12_partWeight 14 = .ok (.iload_n 2, 1) := by decide +kernel
theorem dX12_partWeight_15 : decode cX12_partWeight 15 = .ok (.invokevirtual 123, 3) := by decide +kernel
theorem dX12_partWeight_18 : decode cX12_partWeight 18 = .ok (.ifCond .ne 9, 3) := by decide +kernel
theorem dX12_partWeight_21 : decode cX12_partWeight 21 = .ok (.aload_n 0, 1) := by decide +kernel
theorem dX12_partWeight_22 : decode cX12_partWeight 22 = .ok (.iconst 1, 1) := by decide +kernel
theorem dX12_partWeight_23 : decode cX12_partWeight 23 = .ok (.invokevirtual 103, 3) := by decide +kernel
theorem dX12_partWeight_26 : decode cX12_partWeight 26 = .ok (.ireturn, 1) := by decide +kernel
theorem dX12_partWeight_27 : decode cX12_partWeight 27 = .ok (.aload_n 0, 1) := by decide +kernel
theorem dX12_partWeight_28 : decode cX12_partWeight 28 = .ok (.aload_n 0, 1) := by decide +kernel
theorem dX12_partWeight_29 : decode cX12_partWeight 29 = .ok (.getfield 47, 3) := by decide +kernel
theorem dX12_partWeight_32 : decode cX12_partWeight 32 = .ok (.iload_n 1, 1) := by decide +kernel
theorem dX12_partWeight_33 : decode cX12_partWeight 33 = .ok (.iaload, 1) := by decide +kernel
theorem dX12_partWeight_34 : decode cX12_partWeight 34 = .ok (.ldc2_w 251, 3) := by decide +kernel
theorem dX12_partWeight_37 : decode cX12_partWeight 37 = .ok (.invokevirtual 253, 3) := by decide +kernel
theorem dX12_partWeight_40 : decode cX12_partWeight 40 = .ok (.aload_n 0, 1) := by decide +kernel
theorem dX12_partWeight_41 : decode cX12_partWeight 41 = .ok (.getfield 72, 3) := by decide +kernel
theorem dX12_partWeight_44 : decode cX12_partWeight 44 = .ok (.iload_n 2, 1) := by decide +kernel
theorem dX12_partWeight_45 : decode cX12_partWeight 45 = .ok (.laload, 1) := by decide +kernel
theorem dX12_partWeight_46 : decode cX12_partWeight 46 = .ok (.l2i, 1) := by decide +kernel
theorem dX12_partWeight_47 : decode cX12_partWeight 47 = .ok (.ireturn, 1) := by decide +kernel
theorem dX12_fired_0 : decode cX12_fired 0 = .ok (.aload_n 0, 1) := by decide +kernel
theorem dX12_fired_1 : decode cX12_fired 1 = .ok (.iconst 0, 1) := by decide +kernel
theorem dX12_fired_2 : decode cX12_fired 2 = .ok (.putfield 94, 3) := by decide +kernel
theorem dX12_fired_5 : decode cX12_fired 5 = .ok (.aload_n 0, 1) := by decide +kernel
theorem dX12_fired_6 : decode cX12_fired 6 = .ok (.getfield 7, 3) := by decide +kernel
theorem dX12_fired_9 : decode cX12_fired 9 = .ok (.sipush 288, 3) := by decide +kernel
theorem dX12_fired_12 : decode cX12_fired 12 = .ok (.iaload, 1) := by decide +kernel
theorem dX12_fired_13 : decode cX12_fired 13 = .ok (.ireturn, 1) := by decide +kernel
theorem dX12_event_0 : decode cX12_event 0 = .ok (.aload_n 0, 1) := by decide +kernel
theorem dX12_event_1 : decode cX12_event 1 = .ok (.iconst 0, 1) := by decide +kernel
theorem dX12_event_2 : decode cX12_event 2 = .ok (.putfield 94, 3) := by decide +kernel
theorem dX12_event_5 : decode cX12_event 5 = .ok (.iload_n 1, 1) := by decide +kernel
theorem dX12_event_6 : decode cX12_event 6 = .ok (.i2l, 1) := by decide +kernel
theorem dX12_event_7 : decode cX12_event 7 = .ok (.lconst 0, 1) := by decide +kernel
theorem dX12_event_8 : decode cX12_event 8 = .ok (.aload_n 0, 1) := by decide +kernel
theorem dX12_event_9 : decode cX12_event 9 = .ok (.getfield 7, 3) := by decide +kernel
theorem dX12_event_12 : decode cX12_event 12 = .ok (.sipush 166, 3) := by decide +kernel
theorem dX12_event_15 : decode cX12_event 15 = .ok (.iaload, 1) := by decide +kernel
theorem dX12_event_16 : decode cX12_event 16 = .ok (.iconst 1, 1) := by decide +kernel
theorem dX12_event_17 : decode cX12_event 17 = .ok (.isub, 1) := by decide +kernel
theorem dX12_event_18 : decode cX12_event 18 = .ok (.i2l, 1) := by decide +kernel
theorem dX12_event_19 : decode cX12_event 19 = .ok (.invokestatic 99, 3) := by decide +kernel
theorem dX12_event_22 : decode cX12_event 22 = .ok (.ifCond .ne 9, 3) := by decide +kernel
theorem dX12_event_25 : decode cX12_event 25 = .ok (.aload_n 0, 1) := by decide +kernel
theorem dX12_event_26 : decode cX12_event 26 = .ok (.iconst 1, 1) := by decide +kernel
theorem dX12_event_27 : decode cX12_event 27 = .ok (.invokevirtual 103, 3) := by decide +kernel
theorem dX12_event_30 : decode cX12_event 30 = .ok (.ireturn, 1) := by decide +kernel
theorem dX12_event_31 : decode cX12_event 31 = .ok (.iload_n 2, 1) := by decide +kernel
theorem dX12_event_32 : decode cX12_event 32 = .ok (.i2l, 1) := by decide +kernel
theorem dX12_event_33 : decode cX12_event 33 = .ok (.lconst 0, 1) := by decide +kernel
theorem dX12_event_34 : decode cX12_event 34 = .ok (.ldc2_w 150, 3) := by decide +kernel
theorem dX12_event_37 : decode cX12_event 37 = .ok (.invokestatic 99, 3) := by decide +kernel
theorem dX12_event_40 : decode cX12_event 40 = .ok (.ifCond .eq 20, 3) := by decide +kernel
theorem dX12_event_43 : decode cX12_event 43 = .ok (.aload_n 0, 1) := by decide +kernel
theorem dX12_event_44 : decode cX12_event 44 = .ok (.getfield 7, 3) := by decide +kernel
theorem dX12_event_47 : decode cX12_event 47 = .ok (.sipush 167, 3) := by decide +kernel
theorem dX12_event_50 : decode cX12_event 50 = .ok (.iconst 4, 1) := by decide +kernel
theorem dX12_event_51 : decode cX12_event 51 = .ok (.iload_n 1, 1) := by decide +kernel
theorem dX12_event_52 : decode cX12_event 52 = .ok (.imul, 1) := by decide +kernel
theorem dX12_event_53 : decode cX12_event 53 = .ok (.iadd, 1) := by decide +kernel
theorem dX12_event_54 : decode cX12_event 54 = .ok (.iload_n 2, 1) := by decide +kernel
theorem dX12_event_55 : decode cX12_event 55 = .ok (.iadd, 1) := by decide +kernel
theorem dX12_event_56 : decode cX12_event 56 = .ok (.iaload, 1) := by decide +kernel
theorem dX12_event_57 : decode cX12_event 57 = .ok (.goto 8, 3) := by decide +kernel
theorem dX12_event_60 : decode cX12_event 60 = .ok (.aload_n 0, 1) := by decide +kernel
theorem dX12_event_61 : decode cX12_event 61 = .ok (.iconst 2, 1) := by decide +kernel
theorem dX12_event_62 : decode cX12_event 62 = .ok (.invokevirtual 103, 3) := by decide +kernel
theorem dX12_event_65 : decode cX12_event 65 = .ok (.ireturn, 1) := by decide +kernel
theorem dX12_copies_0 : decode cX12_copies 0 = .ok (.iconst 0, 1) := by decide +kernel
theorem dX12_copies_1 : decode cX12_copies 1 = .ok (.istore_n 3, 1) := by decide +kernel
theorem dX12_copies_2 : decode cX12_copies 2 = .ok (.iload_n 3, 1) := by decide +kernel
theorem dX12_copies_3 : decode cX12_copies 3 = .ok (.sipush 290, 3) := by decide +kernel
theorem dX12_copies_6 : decode cX12_copies 6 = .ok (.if_icmp .ge 25, 3) := by decide +kernel
theorem dX12_copies_9 : decode cX12_copies 9 = .ok (.aload_n 0, 1) := by decide +kernel
theorem dX12_copies_10 : decode cX12_copies 10 = .ok (.getfield 7, 3) := by decide +kernel
theorem dX12_copies_13 : decode cX12_copies 13 = .ok (.iload_n 2, 1) := by decide +kernel
theorem dX12_copies_14 : decode cX12_copies 14 = .ok (.iload_n 3, 1) := by decide +kernel
theorem dX12_copies_15 : decode cX12_copies 15 = .ok (.iadd, 1) := by decide +kernel
theorem dX12_copies_16 : decode cX12_copies 16 = .ok (.aload_n 0, 1) := by decide +kernel
theorem dX12_copies_17 : decode cX12_copies 17 = .ok (.getfield 7, 3) := by decide +kernel
theorem dX12_copies_20 : decode cX12_copies 20 = .ok (.iload_n 1, 1) := by decide +kernel
theorem dX12_copies_21 : decode cX12_copies 21 = .ok (.iload_n 3, 1) := by decide +kernel
theorem dX12_copies_22 : decode cX12_copies 22 = .ok (.iadd, 1) := by decide +kernel
theorem dX12_copies_23 : decode cX12_copies 23 = .ok (.iaload, 1) := by decide +kernel
theorem dX12_copies_24 : decode cX12_copies 24 = .ok (.iastore, 1) := by decide +kernel
theorem dX12_copies_25 : decode cX12_copies 25 = .ok (.iinc 3 1, 3) := by decide +kernel
theorem dX12_copies_28 : decode cX12_copies 28 = .ok (.goto (-26), 3) := by decide +kernel
theorem dX12_copies_31 : decode cX12_copies 31 = .ok (.return_, 1) := by decide +kernel
theorem dX12_foretell_0 : decode cX12_foretell 0 = .ok (.aload_n 0, 1) := by decide +kernel
theorem dX12_foretell_1 : decode cX12_foretell 1 = .ok (.iconst 0, 1) := by decide +kernel
theorem dX12_foretell_2 : decode cX12_foretell 2 = .ok (.putfield 94, 3) := by decide +kernel
theorem dX12_foretell_5 : decode cX12_foretell 5 = .ok (.iload_n 1, 1) := by decide +kernel
theorem dX12_foretell_6 : decode cX12_foretell 6 = .ok (.i2l, 1) := by decide +kernel
theorem dX12_foretell_7 : decode cX12_foretell 7 = .ok (.lconst 1, 1) := by decide +kernel
theorem dX12_foretell_8 : decode cX12_foretell 8 = .ok (.ldc2_w 116, 3) := by decide +kernel
theorem dX12_foretell_11 : decode cX12_foretell 11 = .ok (.invokestatic 99, 3) := by decide +kernel
theorem dX12_foretell_14 : decode cX12_foretell 14 = .ok (.ifCond .ne 9, 3) := by decide +kernel
theorem dX12_foretell_17 : decode cX12_foretell 17 = .ok (.aload_n 0, 1) := by decide +kernel
theorem dX12_foretell_18 : decode cX12_foretell 18 = .ok (.iconst 1, 1) := by decide +kernel
theorem dX12_foretell_19 : decode cX12_foretell 19 = .ok (.invokevirtual 103, 3) := by decide +kernel
theorem dX12_foretell_22 : decode cX12_foretell 22 = .ok (.ireturn, 1) := by decide +kernel
theorem dX12_foretell_23 : decode cX12_foretell 23 = .ok (.aload_n 0, 1) := by decide +kernel
theorem dX12_foretell_24 : decode cX12_foretell 24 = .ok (.getfield 145, 3) := by decide +kernel
theorem dX12_foretell_27 : decode cX12_foretell 27 = .ok (.ifCond .ne 9, 3) := by decide +kernel
theorem dX12_foretell_30 : decode cX12_foretell 30 = .ok (.aload_n 0, 1) := by decide +kernel
theorem dX12_foretell_31 : decode cX12_foretell 31 = .ok (.iconst 2, 1) := by decide +kernel
theorem dX12_foretell_32 : decode cX12_foretell 32 = .ok (.invokevirtual 103, 3) := by decide +kernel
theorem dX12_foretell_35 : decode cX12_foretell 35 = .ok (.ireturn, 1) := by decide +kernel
theorem dX12_foretell_36 : decode cX12_foretell 36 = .ok (.aload_n 0, 1) := by decide +kernel
theorem dX12_foretell_37 : decode cX12_foretell 37 = .ok (.iconst 0, 1) := by decide +kernel
theorem dX12_foretell_38 : decode cX12_foretell 38 = .ok (.sipush 870, 3) := by decide +kernel
theorem dX12_foretell_41 : decode cX12_foretell 41 = .ok (.invokevirtual 359, 3) := by decide +kernel
theorem dX12_foretell_44 : decode cX12_foretell 44 = .ok (.iconst 0, 1) := by decide +kernel
theorem dX12_foretell_45 : decode cX12_foretell 45 = .ok (.istore_n 2, 1) := by decide +kernel
theorem dX12_foretell_46 : decode cX12_foretell 46 = .ok (.iload_n 2, 1) := by decide +kernel
theorem dX12_foretell_47 : decode cX12_foretell 47 = .ok (.iload_n 1, 1) := by decide +kernel
theorem dX12_foretell_48 : decode cX12_foretell 48 = .ok (.if_icmp .ge 13, 3) := by decide +kernel
theorem dX12_foretell_51 : decode cX12_foretell 51 = .ok (.aload_n 0, 1) := by decide +kernel
theorem dX12_foretell_52 : decode cX12_foretell 52 = .ok (.invokevirtual 356, 3) := by decide +kernel
theorem dX12_foretell_55 : decode cX12_foretell 55 = .ok (.iinc 2 1, 3) := by decide +kernel
theorem dX12_foretell_58 : decode cX12_foretell 58 = .ok (.goto (-12), 3) := by decide +kernel
theorem dX12_foretell_61 : decode cX12_foretell 61 = .ok (.aload_n 0, 1) := by decide +kernel
theorem dX12_foretell_62 : decode cX12_foretell 62 = .ok (.getfield 7, 3) := by decide +kernel
theorem dX12_foretell_65 : decode cX12_foretell 65 = .ok (.bipush 8, 2) := by decide +kernel
theorem dX12_foretell_67 : decode cX12_foretell 67 = .ok (.iaload, 1) := by decide +kernel
theorem dX12_foretell_68 : decode cX12_foretell 68 = .ok (.iconst 1, 1) := by decide +kernel
theorem dX12_foretell_69 : decode cX12_foretell 69 = .ok (.if_icmp .ne 13, 3) := by decide +kernel
theorem dX12_foretell_72 : decode cX12_foretell 72 = .ok (.aload_n 0, 1) := by decide +kernel
theorem dX12_foretell_73 : decode cX12_foretell 73 = .ok (.getfield 7, 3) := by decide +kernel
theorem dX12_foretell_76 : decode cX12_foretell 76 = .ok (.bipush 16, 2) := by decide +kernel
theorem dX12_foretell_78 : decode cX12_foretell 78 = .ok (.iaload, 1) := by decide +kernel
theorem dX12_foretell_79 : decode cX12_foretell 79 = .ok (.goto 10, 3) := by decide +kernel
theorem dX12_foretell_82 : decode cX12_foretell 82 = .ok (.aload_n 0, 1) := by decide +kernel
theorem dX12_foretell_83 : decode cX12_foretell 83 = .ok (.getfield 7, 3) := by decide +kernel
theorem dX12_foretell_86 : decode cX12_foretell 86 = .ok (.bipush 12, 2) := by decide +kernel
theorem dX12_foretell_88 : decode cX12_foretell 88 = .ok (.iaload, 1) := by decide +kernel
theorem dX12_foretell_89 : decode cX12_foretell 89 = .ok (.istore_n 2, 1) := by decide +kernel
theorem dX12_foretell_90 : decode cX12_foretell 90 = .ok (.aload_n 0, 1) := by decide +kernel
theorem dX12_foretell_91 : decode cX12_foretell 91 = .ok (.sipush 870, 3) := by decide +kernel
theorem dX12_foretell_94 : decode cX12_foretell 94 = .ok (.iconst 0, 1) := by decide +kernel
theorem dX12_foretell_95 : decode cX12_foretell 95 = .ok (.invokevirtual 359, 3) := by decide +kernel
theorem dX12_foretell_98 : decode cX12_foretell 98 = .ok (.iload_n 2, 1) := by decide +kernel
theorem dX12_foretell_99 : decode cX12_foretell 99 = .ok (.ireturn, 1) := by decide +kernel
theorem dX12_ticksTo_0 : decode cX12_ticksTo 0 = .ok (.aload_n 0, 1) := by decide +kernel
theorem dX12_ticksTo_1 : decode cX12_ticksTo 1 = .ok (.iconst 0, 1) := by decide +kernel
theorem dX12_ticksTo_2 : decode cX12_ticksTo 2 = .ok (.putfield 94, 3) := by decide +kernel
theorem dX12_ticksTo_5 : decode cX12_ticksTo 5 = .ok (.aload_n 0, 1) := by decide +kernel
theorem dX12_ticksTo_6 : decode cX12_ticksTo 6 = .ok (.iload_n 1, 1) := by decide +kernel
theorem dX12_ticksTo_7 : decode cX12_ticksTo 7 = .ok (.invokevirtual 162, 3) := by decide +kernel
theorem dX12_ticksTo_10 : decode cX12_ticksTo 10 = .ok (.ifCond .ne 9, 3) := by decide +kernel
theorem dX12_ticksTo_13 : decode cX12_ticksTo 13 = .ok (.aload_n 0, 1) := by decide +kernel
theorem dX12_ticksTo_14 : decode cX12_ticksTo 14 = .ok (.iconst 1, 1) := by decide +kernel
theorem dX12_ticksTo_15 : decode cX12_ticksTo 15 = .ok (.invokevirtual 103, 3) := by decide +kernel
theorem dX12_ticksTo_18 : decode cX12_ticksTo 18 = .ok (.ireturn, 1) := by decide +kernel
theorem dX12_ticksTo_19 : decode cX12_ticksTo 19 = .ok (.aload_n 0, 1) := by decide +kernel
theorem dX12_ticksTo_20 : decode cX12_ticksTo 20 = .ok (.iconst 0, 1) := by decide +kernel
theorem dX12_ticksTo_21 : decode cX12_ticksTo 21 = .ok (.sipush 870, 3) := by decide +kernel
theorem dX12_ticksTo_24 : decode cX12_ticksTo 24 = .ok (.invokevirtual 359, 3) := by decide +kernel
theorem dX12_ticksTo_27 : decode cX12_ticksTo 27 = .ok (.iconst 0, 1) := by decide +kernel
theorem dX12_ticksTo_28 : decode cX12_ticksTo 28 = .ok (.istore_n 2, 1) := by decide +kernel
theorem dX12_ticksTo_29 : decode cX12_ticksTo 29 = .ok (.iload_n 2, 1) := by decide +kernel
theorem dX12_ticksTo_30 : decode cX12_ticksTo 30 = .ok (.bipush 100, 2) := by decide +kernel
theorem dX12_ticksTo_32 : decode cX12_ticksTo 32 = .ok (.if_icmp .gt 41, 3) := by decide +kernel
theorem dX12_ticksTo_35 : decode cX12_ticksTo 35 = .ok (.aload_n 0, 1) := by decide +kernel
theorem dX12_ticksTo_36 : decode cX12_ticksTo 36 = .ok (.getfield 7, 3) := by decide +kernel
theorem dX12_ticksTo_39 : decode cX12_ticksTo 39 = .ok (.bipush 8, 2) := by decide +kernel
theorem dX12_ticksTo_41 : decode cX12_ticksTo 41 = .ok (.iaload, 1) := by decide +kernel
theorem dX12_ticksTo_42 : decode cX12_ticksTo 42 = .ok (.iconst 1, 1) := by decide +kernel
theorem dX12_ticksTo_43 : decode cX12_ticksTo 43 = .ok (.if_icmp .eq 14, 3) := by decide +kernel
theorem dX12_ticksTo_46 : decode cX12_ticksTo 46 = .ok (.aload_n 0, 1) := by decide +kernel
theorem dX12_ticksTo_47 : decode cX12_ticksTo 47 = .ok (.getfield 7, 3) := by decide +kernel
theorem dX12_ticksTo_50 : decode cX12_ticksTo 50 = .ok (.bipush 12, 2) := by decide +kernel
theorem dX12_ticksTo_52 : decode cX12_ticksTo 52 = .ok (.iaload, 1) := by decide +kernel
theorem dX12_ticksTo_53 : decode cX12_ticksTo 53 = .ok (.iload_n 1, 1) := by decide +kernel
theorem dX12_ticksTo_54 : decode cX12_ticksTo 54 = .ok (.if_icmp .eq 19, 3) := by decide +kernel
theorem dX12_ticksTo_57 : decode cX12_ticksTo 57 = .ok (.iinc 2 1, 3) := by decide +kernel
theorem dX12_ticksTo_60 : decode cX12_ticksTo 60 = .ok (.iload_n 2, 1) := by decide +kernel
theorem dX12_ticksTo_61 : decode cX12_ticksTo 61 = .ok (.bipush 100, 2) := by decide +kernel
theorem dX12_ticksTo_63 : decode cX12_ticksTo 63 = .ok (.if_icmp .gt (-34), 3) := by decide +kernel
theorem dX12_ticksTo_66 : decode cX12_ticksTo 66 = .ok (.aload_n 0, 1) := by decide +kernel
theorem dX12_ticksTo_67 : decode cX12_ticksTo 67 = .ok (.invokevirtual 356, 3) := by decide +kernel
theorem dX12_ticksTo_70 : decode cX12_ticksTo 70 = .ok (.goto (-41), 3) := by decide +kernel
theorem dX12_ticksTo_73 : decode cX12_ticksTo 73 = .ok (.aload_n 0, 1) := by decide +kernel
theorem dX12_ticksTo_74 : decode cX12_ticksTo 74 = .ok (.sipush 870, 3) := by decide +kernel
theorem dX12_ticksTo_77 : decode cX12_ticksTo 77 = .ok (.iconst 0, 1) := by decide +kernel
theorem dX12_ticksTo_78 : decode cX12_ticksTo 78 = .ok (.invokevirtual 359, 3) := by decide +kernel
theorem dX12_ticksTo_81 : decode cX12_ticksTo 81 = .ok (.iload_n 2, 1) := by decide +kernel
theorem dX12_ticksTo_82 : decode cX12_ticksTo 82 = .ok (.bipush 100, 2) := by decide +kernel
theorem dX12_ticksTo_84 : decode cX12_ticksTo 84 = .ok (.if_icmp .gt 7, 3) := by decide +kernel
theorem dX12_ticksTo_87 : decode cX12_ticksTo 87 = .ok (.iload_n 2, 1) := by decide +kernel
theorem dX12_ticksTo_88 : decode cX12_ticksTo 88 = .ok (.goto 4, 3) := by decide +kernel
theorem dX12_ticksTo_91 : decode cX12_ticksTo 91 = .ok (.iconst (-1), 1) := by decide +kernel
theorem dX12_ticksTo_92 : decode cX12_ticksTo 92 = .ok (.ireturn, 1) := by decide +kernel
theorem dX12_steps_0 : decode cX12_steps 0 = .ok (.aload_n 0, 1) := by decide +kernel
theorem dX12_steps_1 : decode cX12_steps 1 = .ok (.iconst 0, 1) := by decide +kernel
theorem dX12_steps_2 : decode cX12_steps 2 = .ok (.putfield 94, 3) := by decide +kernel
theorem dX12_steps_5 : decode cX12_steps 5 = .ok (.aload_n 0, 1) := by decide +kernel
theorem dX12_steps_6 : decode cX12_steps 6 = .ok (.iload_n 1, 1) := by decide +kernel
theorem dX12_steps_7 : decode cX12_steps 7 = .ok (.invokevirtual 162, 3) := by decide +kernel
theorem dX12_steps_10 : decode cX12_steps 10 = .ok (.ifCond .eq 11, 3) := by decide +kernel
theorem dX12_steps_13 : decode cX12_steps 13 = .ok (.aload_n 0, 1) := by decide +kernel
theorem dX12_steps_14 : decode cX12_steps 14 = .ok (.iload_n 2, 1) := by decide +kernel
theorem dX12_steps_15 : decode cX12_steps 15 = .ok (.invokevirtual 162, 3) := by decide +kernel
theorem dX12_steps_18 : decode cX12_steps 18 = .ok (.ifCond .ne 9, 3) := by decide +kernel
theorem dX12_steps_21 : decode cX12_steps 21 = .ok (.aload_n 0, 1) := by decide +kernel
theorem dX12_steps_22 : decode cX12_steps 22 = .ok (.iconst 1, 1) := by decide +kernel
theorem dX12_steps_23 : decode cX12_steps 23 = .ok (.invokevirtual 103, 3) := by decide +kernel
theorem dX12_steps_26 : decode cX12_steps 26 = .ok (.ireturn, 1) := by decide +kernel
theorem dX12_steps_27 : decode cX12_steps 27 = .ok (.iconst 0, 1) := by decide +kernel
theorem dX12_steps_28 : decode cX12_steps 28 = .ok (.istore_n 3, 1) := by decide +kernel
theorem dX12_steps_29 : decode cX12_steps 29 = .ok (.iload_n 3, 1) := by decide +kernel
theorem dX12_steps_30 : decode cX12_steps 30 = .ok (.aload_n 0, 1) := by decide +kernel
theorem dX12_steps_31 : decode cX12_steps 31 = .ok (.getfield 145, 3) := by decide +kernel
theorem dX12_steps_34 : decode cX12_steps 34 = .ok (.if_icmp .ge 26, 3) := by decide +kernel
theorem dX12_steps_37 : decode cX12_steps 37 = .ok (.aload_n 0, 1) := by decide +kernel
theorem dX12_steps_38 : decode cX12_steps 38 = .ok (.getfield 91, 3) := by decide +kernel
theorem dX12_steps_41 : decode cX12_steps 41 = .ok (.iload_n 3, 1) := by decide +kernel
theorem dX12_steps_42 : decode cX12_steps 42 = .ok (.iload_n 3, 1) := by decide +kernel
theorem dX12_steps_43 : decode cX12_steps 43 = .ok (.iload_n 1, 1) := by decide +kernel
theorem dX12_steps_44 : decode cX12_steps 44 = .ok (.if_icmp .ne 7, 3) := by decide +kernel
theorem dX12_steps_47 : decode cX12_steps 47 = .ok (.iconst 0, 1) := by decide +kernel
theorem dX12_steps_48 : decode cX12_steps 48 = .ok (.goto 5, 3) := by decide +kernel
theorem dX12_steps_51 : decode cX12_steps 51 = .ok (.bipush 100, 2) := by decide +kernel
theorem dX12_steps_53 : decode cX12_steps 53 = .ok (.iastore, 1) := by decide +kernel
theorem dX12_steps_54 : decode cX12_steps 54 = .ok (.iinc 3 1, 3) := by decide +kernel
theorem dX12_steps_57 : decode cX12_steps 57 = .ok (.goto (-28), 3) := by decide +kernel
theorem dX12_steps_60 : decode cX12_steps 60 = .ok (.iconst 0, 1) := by decide +kernel
theorem dX12_steps_61 : decode cX12_steps 61 = .ok (.istore_n 3, 1) := by decide +kernel
theorem dX12_steps_62 : decode cX12_steps 62 = .ok (.iload_n 3, 1) := by decide +kernel
theorem dX12_steps_63 : decode cX12_steps 63 = .ok (.aload_n 0, 1) := by decide +kernel
theorem dX12_steps_64 : decode cX12_steps 64 = .ok (.getfield 145, 3) := by decide +kernel
theorem dX12_steps_67 : decode cX12_steps 67 = .ok (.if_icmp .ge 128, 3) := by decide +kernel
theorem dX12_steps_70 : decode cX12_steps 70 = .ok (.iconst 0, 1) := by decide +kernel
theorem dX12_steps_71 : decode cX12_steps 71 = .ok (.istore 4, 2) := by decide +kernel
theorem dX12_steps_73 : decode cX12_steps 73 = .ok (.iload 4, 2) := by decide +kernel
theorem dX12_steps_75 : decode cX12_steps 75 = .ok (.aload_n 0, 1) := by decide +kernel
theorem dX12_steps_76 : decode cX12_steps 76 = .ok (.getfield 159, 3) := by decide +kernel
theorem dX12_steps_79 : decode cX12_steps 79 = .ok (.if_icmp .ge 110, 3) := by decide +kernel
theorem dX12_steps_82 : decode cX12_steps 82 = .ok (.iconst 0, 1) := by decide +kernel
theorem dX12_steps_83 : decode cX12_steps 83 = .ok (.istore 5, 2) := by decide +kernel
theorem dX12_steps_85 : decode cX12_steps 85 = .ok (.iload 5, 2) := by decide +kernel
theorem dX12_steps_87 : decode cX12_steps 87 = .ok (.aload_n 0, 1) := by decide +kernel
theorem dX12_steps_88 : decode cX12_steps 88 = .ok (.getfield 145, 3) := by decide +kernel
theorem dX12_steps_91 : decode cX12_steps 91 = .ok (.if_icmp .ge 92, 3) := by decide +kernel
theorem dX12_steps_94 : decode cX12_steps 94 = .ok (.aload_n 0, 1) := by decide +kernel
theorem dX12_steps_95 : decode cX12_steps 95 = .ok (.iload 4, 2) := by decide +kernel
theorem dX12_steps_97 : decode cX12_steps 97 = .ok (.iload 5, 2) := by decide +kernel
theorem dX12_steps_99 : decode cX12_steps 99 = .ok (.invokevirtual 289, 3) := by decide +kernel
theorem dX12_steps_102 : decode cX12_steps 102 = .ok (.ifCond .eq 31, 3) := by decide +kernel
theorem dX12_steps_105 : decode cX12_steps 105 = .ok (.aload_n 0, 1) := by decide +kernel
theorem dX12_steps_106 : decode cX12_steps 106 = .ok (.getfield 91, 3) := by decide +kernel
theorem dX12_steps_109 : decode cX12_steps 109 = .ok (.iload 5, 2) := by decide +kernel
theorem dX12_steps_111 : decode cX12_steps 111 = .ok (.iaload, 1) := by decide +kernel
theorem dX12_steps_112 : decode cX12_steps 112 = .ok (.iconst 1, 1) := by decide +kernel
theorem dX12_steps_113 : decode cX12_steps 113 = .ok (.iadd, 1) := by decide +kernel
theorem dX12_steps_114 : decode cX12_steps 114 = .ok (.aload_n 0, 1) := by decide +kernel
theorem dX12_steps_115 : decode cX12_steps 115 = .ok (.getfield 91, 3) := by decide +kernel
theorem dX12_steps_118 : decode cX12_steps 118 = .ok (.aload_n 0, 1) := by decide +kernel
theorem dX12_steps_119 : decode cX12_steps 119 = .ok (.iload 4, 2) := by decide +kernel
theorem dX12_steps_121 : decode cX12_steps 121 = .ok (.iconst 1, 1) := by decide +kernel
theorem dX12_steps_122 : decode cX12_steps 122 = .ok (.invokevirtual 177, 3) := by decide +kernel
theorem dX12_steps_125 : decode cX12_steps 125 = .ok (.iaload, 1) := by decide +kernel
theorem dX12_steps_126 : decode cX12_steps 126 = .ok (.if_icmp .ge 7, 3) := by decide +kernel
theorem dX12_steps_129 : decode cX12_steps 129 = .ok (.iconst 1, 1) := by decide +kernel
theorem dX12_steps_130 : decode cX12_steps 130 = .ok (.goto 4, 3) := by decide +kernel
theorem dX12_steps_133 : decode cX12_steps 133 = .ok (.iconst 0, 1) := by decide +kernel
theorem dX12_steps_134 : decode cX12_steps 134 = .ok (.istore 6, 2) := by decide +kernel
theorem dX12_steps_136 : decode cX12_steps 136 = .ok (.aload_n 0, 1) := by decide +kernel
theorem dX12_steps_137 : decode cX12_steps 137 = .ok (.getfield 91, 3) := by decide +kernel
theorem dX12_steps_140 : decode cX12_steps 140 = .ok (.aload_n 0, 1) := by decide +kernel
theorem dX12_steps_141 : decode cX12_steps 141 = .ok (.iload 4, 2) := by decide +kernel
theorem dX12_steps_143 : decode cX12_steps 143 = .ok (.iconst 1, 1) := by decide +kernel
theorem dX12_steps_144 : decode cX12_steps 144 = .ok (.invokevirtual 177, 3) := by decide +kernel
theorem dX12_steps_147 : decode cX12_steps 147 = .ok (.iload 6, 2) := by decide +kernel
theorem dX12_steps_149 : decode cX12_steps 149 = .ok (.ifCond .eq 15, 3) := by decide +kernel
theorem dX12_steps_152 : decode cX12_steps 152 = .ok (.aload_n 0, 1) := by decide +kernel
theorem dX12_steps_153 : decode cX12_steps 153 = .ok (.getfield 91, 3) := by decide +kernel
theorem dX12_steps_156 : decode cX12_steps 156 = .ok (.iload 5, 2) := by decide +kernel
theorem dX12_steps_158 : decode cX12_steps 158 = .ok (.iaload, 1) := by decide +kernel
theorem dX12_steps_159 : decode cX12_steps 159 = .ok (.iconst 1, 1) := by decide +kernel
theorem dX12_steps_160 : decode cX12_steps 160 = .ok (.iadd, 1) := by decide +kernel
theorem dX12_steps_161 : decode cX12_steps 161 = .ok (.goto 15, 3) := by decide +kernel
theorem dX12_steps_164 : decode cX12_steps 164 = .ok (.aload_n 0, 1) := by decide +kernel
theorem dX12_steps_165 : decode cX12_steps 165 = .ok (.getfield 91, 3) := by decide +kernel
theorem dX12_steps_168 : decode cX12_steps 168 = .ok (.aload_n 0, 1) := by decide +kernel
theorem dX12_steps_169 : decode cX12_steps 169 = .ok (.iload 4, 2) := by decide +kernel
theorem dX12_steps_171 : decode cX12_steps 171 = .ok (.iconst 1, 1) := by decide +kernel
theorem dX12_steps_172 : decode cX12_steps 172 = .ok (.invokevirtual 177, 3) := by decide +kernel
theorem dX12_steps_175 : decode cX12_steps 175 = .ok (.iaload, 1) := by decide +kernel
theorem dX12_steps_176 : decode cX12_steps 176 = .ok (.iastore, 1) := by decide +kernel
theorem dX12_steps_177 : decode cX12_steps 177 = .ok (.iinc 5 1, 3) := by decide +kernel
theorem dX12_steps_180 : decode cX12_steps 180 = .ok (.goto (-95), 3) := by decide +kernel
theorem dX12_steps_183 : decode cX12_steps 183 = .ok (.iinc 4 1, 3) := by decide +kernel
theorem dX12_steps_186 : decode cX12_steps 186 = .ok (.goto (-113), 3) := by decide +kernel
theorem dX12_steps_189 : decode cX12_steps 189 = .ok (.iinc 3 1, 3) := by decide +kernel
theorem dX12_steps_192 : decode cX12_steps 192 = .ok (.goto (-130), 3) := by decide +kernel
theorem dX12_steps_195 : decode cX12_steps 195 = .ok (.aload_n 0, 1) := by decide +kernel
theorem dX12_steps_196 : decode cX12_steps 196 = .ok (.getfield 91, 3) := by decide +kernel
theorem dX12_steps_199 : decode cX12_steps 199 = .ok (.iload_n 2, 1) := by decide +kernel
theorem dX12_steps_200 : decode cX12_steps 200 = .ok (.iaload, 1) := by decide +kernel
theorem dX12_steps_201 : decode cX12_steps 201 = .ok (.bipush 100, 2) := by decide +kernel
theorem dX12_steps_203 : decode cX12_steps 203 = .ok (.if_icmp .ge 12, 3) := by decide +kernel
theorem dX12_steps_206 : decode cX12_steps 206 = .ok (.aload_n 0, 1) := by decide +kernel
theorem dX12_steps_207 : decode cX12_steps 207 = .ok (.getfield 91, 3) := by decide +kernel
theorem dX12_steps_210 : decode cX12_steps 210 = .ok (.iload_n 2, 1) := by decide +kernel
theorem dX12_steps_211 : decode cX12_steps 211 = .ok (.iaload, 1) := by decide +kernel
theorem dX12_steps_212 : decode cX12_steps 212 = .ok (.goto 4, 3) := by decide +kernel
theorem dX12_steps_215 : decode cX12_steps 215 = .ok (.iconst (-1), 1) := by decide +kernel
theorem dX12_steps_216 : decode cX12_steps 216 = .ok (.ireturn, 1) := by decide +kernel
theorem dX12_keep_0 : decode cX12_keep 0 = .ok (.aload_n 0, 1) := by decide +kernel
theorem dX12_keep_1 : decode cX12_keep 1 = .ok (.iconst 0, 1) := by decide +kernel
theorem dX12_keep_2 : decode cX12_keep 2 = .ok (.putfield 94, 3) := by decide +kernel
theorem dX12_keep_5 : decode cX12_keep 5 = .ok (.iload_n 1, 1) := by decide +kernel
theorem dX12_keep_6 : decode cX12_keep 6 = .ok (.i2l, 1) := by decide +kernel
theorem dX12_keep_7 : decode cX12_keep 7 = .ok (.lconst 0, 1) := by decide +kernel
theorem dX12_keep_8 : decode cX12_keep 8 = .ok (.lconst 1, 1) := by decide +kernel
theorem dX12_keep_9 : decode cX12_keep 9 = .ok (.invokestatic 99, 3) := by decide +kernel
theorem dX12_keep_12 : decode cX12_keep 12 = .ok (.ifCond .ne 9, 3) := by decide +kernel
theorem dX12_keep_15 : decode cX12_keep 15 = .ok (.aload_n 0, 1) := by decide +kernel
theorem dX12_keep_16 : decode cX12_keep 16 = .ok (.iconst 1, 1) := by decide +kernel
theorem dX12_keep_17 : decode cX12_keep 17 = .ok (.invokevirtual 103, 3) := by decide +kernel
theorem dX12_keep_20 : decode cX12_keep 20 = .ok (.ireturn, 1) := by decide +kernel
theorem dX12_keep_21 : decode cX12_keep 21 = .ok (.aload_n 0, 1) := by decide +kernel
theorem dX12_keep_22 : decode cX12_keep 22 = .ok (.getfield 145, 3) := by decide +kernel
theorem dX12_keep_25 : decode cX12_keep 25 = .ok (.ifCond .ne 9, 3) := by decide +kernel
theorem dX12_keep_28 : decode cX12_keep 28 = .ok (.aload_n 0, 1) := by decide +kernel
theorem dX12_keep_29 : decode cX12_keep 29 = .ok (.iconst 2, 1) := by decide +kernel
theorem dX12_keep_30 : decode cX12_keep 30 = .ok (.invokevirtual 103, 3) := by decide +kernel
theorem dX12_keep_33 : decode cX12_keep 33 = .ok (.ireturn, 1) := by decide +kernel
theorem dX12_keep_34 : decode cX12_keep 34 = .ok (.aload_n 0, 1) := by decide +kernel
theorem dX12_keep_35 : decode cX12_keep 35 = .ok (.getfield 7, 3) := by decide +kernel
theorem dX12_keep_38 : decode cX12_keep 38 = .ok (.sipush 289, 3) := by decide +kernel
theorem dX12_keep_41 : decode cX12_keep 41 = .ok (.aload_n 0, 1) := by decide +kernel
theorem dX12_keep_42 : decode cX12_keep 42 = .ok (.getfield 107, 3) := by decide +kernel
theorem dX12_keep_45 : decode cX12_keep 45 = .ok (.iastore, 1) := by decide +kernel
theorem dX12_keep_46 : decode cX12_keep 46 = .ok (.aload_n 0, 1) := by decide +kernel
theorem dX12_keep_47 : decode cX12_keep 47 = .ok (.iconst 0, 1) := by decide +kernel
theorem dX12_keep_48 : decode cX12_keep 48 = .ok (.sipush 290, 3) := by decide +kernel
theorem dX12_keep_51 : decode cX12_keep 51 = .ok (.sipush 290, 3) := by decide +kernel
theorem dX12_keep_54 : decode cX12_keep 54 = .ok (.iload_n 1, 1) := by decide +kernel
theorem dX12_keep_55 : decode cX12_keep 55 = .ok (.imul, 1) := by decide +kernel
theorem dX12_keep_56 : decode cX12_keep 56 = .ok (.iadd, 1) := by decide +kernel
theorem dX12_keep_57 : decode cX12_keep 57 = .ok (.invokevirtual 359, 3) := by decide +kernel
theorem dX12_keep_60 : decode cX12_keep 60 = .ok (.aload_n 0, 1) := by decide +kernel
theorem dX12_keep_61 : decode cX12_keep 61 = .ok (.getfield 13, 3) := by decide +kernel
theorem dX12_keep_64 : decode cX12_keep 64 = .ok (.iload_n 1, 1) := by decide +kernel
theorem dX12_keep_65 : decode cX12_keep 65 = .ok (.iconst 1, 1) := by decide +kernel
theorem dX12_keep_66 : decode cX12_keep 66 = .ok (.bastore, 1) := by decide +kernel
theorem dX12_keep_67 : decode cX12_keep 67 = .ok (.aload_n 0, 1) := by decide +kernel
theorem dX12_keep_68 : decode cX12_keep 68 = .ok (.getfield 7, 3) := by decide +kernel
theorem dX12_keep_71 : decode cX12_keep 71 = .ok (.sipush 287, 3) := by decide +kernel
theorem dX12_keep_74 : decode cX12_keep 74 = .ok (.iaload, 1) := by decide +kernel
theorem dX12_keep_75 : decode cX12_keep 75 = .ok (.ireturn, 1) := by decide +kernel
theorem dX12_restore_0 : decode cX12_restore 0 = .ok (.aload_n 0, 1) := by decide +kernel
theorem dX12_restore_1 : decode cX12_restore 1 = .ok (.iconst 0, 1) := by decide +kernel
theorem dX12_restore_2 : decode cX12_restore 2 = .ok (.putfield 94, 3) := by decide +kernel
theorem dX12_restore_5 : decode cX12_restore 5 = .ok (.iload_n 1, 1) := by decide +kernel
theorem dX12_restore_6 : decode cX12_restore 6 = .ok (.i2l, 1) := by decide +kernel
theorem dX12_restore_7 : decode cX12_restore 7 = .ok (.lconst 0, 1) := by decide +kernel
theorem dX12_restore_8 : decode cX12_restore 8 = .ok (.lconst 1, 1) := by decide +kernel
theorem dX12_restore_9 : decode cX12_restore 9 = .ok (.invokestatic 99, 3) := by decide +kernel
theorem dX12_restore_12 : decode cX12_restore 12 = .ok (.ifCond .ne 9, 3) := by decide +kernel
theorem dX12_restore_15 : decode cX12_restore 15 = .ok (.aload_n 0, 1) := by decide +kernel
theorem dX12_restore_16 : decode cX12_restore 16 = .ok (.iconst 1, 1) := by decide +kernel
theorem dX12_restore_17 : decode cX12_restore 17 = .ok (.invokevirtual 103, 3) := by decide +kernel
theorem dX12_restore_20 : decode cX12_restore 20 = .ok (.ireturn, 1) := by decide +kernel
theorem dX12_restore_21 : decode cX12_restore 21 = .ok (.aload_n 0, 1) := by decide +kernel
theorem dX12_restore_22 : decode cX12_restore 22 = .ok (.getfield 13, 3) := by decide +kernel
theorem dX12_restore_25 : decode cX12_restore 25 = .ok (.iload_n 1, 1) := by decide +kernel
theorem dX12_restore_26 : decode cX12_restore 26 = .ok (.baload, 1) := by decide +kernel
theorem dX12_restore_27 : decode cX12_restore 27 = .ok (.ifCond .ne 9, 3) := by decide +kernel
theorem dX12_restore_30 : decode cX12_restore 30 = .ok (.aload_n 0, 1) := by decide +kernel
theorem dX12_restore_31 : decode cX12_restore 31 = .ok (.iconst 2, 1) := by decide +kernel
theorem dX12_restore_32 : decode cX12_restore 32 = .ok (.invokevirtual 103, 3) := by decide +kernel
theorem dX12_restore_35 : decode cX12_restore 35 = .ok (.ireturn, 1) := by decide +kernel
theorem dX12_restore_36 : decode cX12_restore 36 = .ok (.aload_n 0, 1) := by decide +kernel
theorem dX12_restore_37 : decode cX12_restore 37 = .ok (.sipush 290, 3) := by decide +kernel
theorem dX12_restore_40 : decode cX12_restore 40 = .ok (.sipush 290, 3) := by decide +kernel
theorem dX12_restore_43 : decode cX12_restore 43 = .ok (.iload_n 1, 1) := by decide +kernel
theorem dX12_restore_44 : decode cX12_restore 44 = .ok (.imul, 1) := by decide +kernel
theorem dX12_restore_45 : decode cX12_restore 45 = .ok (.iadd, 1) := by decide +kernel
theorem dX12_restore_46 : decode cX12_restore 46 = .ok (.iconst 0, 1) := by decide +kernel
theorem dX12_restore_47 : decode cX12_restore 47 = .ok (.invokevirtual 359, 3) := by decide +kernel
theorem dX12_restore_50 : decode cX12_restore 50 = .ok (.aload_n 0, 1) := by decide +kernel
theorem dX12_restore_51 : decode cX12_restore 51 = .ok (.getfield 7, 3) := by decide +kernel
theorem dX12_restore_54 : decode cX12_restore 54 = .ok (.sipush 289, 3) := by decide +kernel
theorem dX12_restore_57 : decode cX12_restore 57 = .ok (.iaload, 1) := by decide +kernel
theorem dX12_restore_58 : decode cX12_restore 58 = .ok (.istore_n 2, 1) := by decide +kernel
theorem dX12_restore_59 : decode cX12_restore 59 = .ok (.iload_n 2, 1) := by decide +kernel
theorem dX12_restore_60 : decode cX12_restore 60 = .ok (.bipush 8, 2) := by decide +kernel
theorem dX12_restore_62 : decode cX12_restore 62 = .ok (.if_icmp .ge 18, 3) := by decide +kernel
theorem dX12_restore_65 : decode cX12_restore 65 = .ok (.aload_n 0, 1) := by decide +kernel
theorem dX12_restore_66 : decode cX12_restore 66 = .ok (.getfield 7, 3) := by decide +kernel
theorem dX12_restore_69 : decode cX12_restore 69 = .ok (.iconst 0, 1) := by decide +kernel
theorem dX12_restore_70 : decode cX12_restore 70 = .ok (.iload_n 2, 1) := by decide +kernel
theorem dX12_restore_71 : decode cX12_restore 71 = .ok (.iadd, 1) := by decide +kernel
theorem dX12_restore_72 : decode cX12_restore 72 = .ok (.iconst 0, 1) := by decide +kernel
theorem dX12_restore_73 : decode cX12_restore 73 = .ok (.iastore, 1) := by decide +kernel
theorem dX12_restore_74 : decode cX12_restore 74 = .ok (.iinc 2 1, 3) := by decide +kernel
theorem dX12_restore_77 : decode cX12_restore 77 = .ok (.goto (-18), 3) := by decide +kernel
theorem dX12_restore_80 : decode cX12_restore 80 = .ok (.aload_n 0, 1) := by decide +kernel
theorem dX12_restore_81 : decode cX12_restore 81 = .ok (.getfield 7, 3) := by decide +kernel
theorem dX12_restore_84 : decode cX12_restore 84 = .ok (.sipush 287, 3) := by decide +kernel
theorem dX12_restore_87 : decode cX12_restore 87 = .ok (.iaload, 1) := by decide +kernel
theorem dX12_restore_88 : decode cX12_restore 88 = .ok (.ireturn, 1) := by decide +kernel
theorem dX12_count_0 : decode cX12_count 0 = .ok (.aload_n 0, 1) := by decide +kernel
theorem dX12_count_1 : decode cX12_count 1 = .ok (.iconst 0, 1) := by decide +kernel
theorem dX12_count_2 : decode cX12_count 2 = .ok (.putfield 94, 3) := by decide +kernel
theorem dX12_count_5 : decode cX12_count 5 = .ok (.iload_n 1, 1) := by decide +kernel
theorem dX12_count_6 : decode cX12_count 6 = .ok (.tableswitch 94 0 7 #[46, 51, 56, 61, 66, 71, 80, 89], 46) := by decide +kernel
theorem dX12_count_52 : decode cX12_count 52 = .ok (.aload_n 0, 1) := by decide +kernel
theorem dX12_count_53 : decode cX12_count 53 = .ok (.getfield 107, 3) := by decide +kernel
theorem dX12_count_56 : decode cX12_count 56 = .ok (.ireturn, 1) := by decide +kernel
theorem dX12_count_57 : decode cX12_count 57 = .ok (.aload_n 0, 1) := by decide +kernel
theorem dX12_count_58 : decode cX12_count 58 = .ok (.getfield 120, 3) := by decide +kernel
theorem dX12_count_61 : decode cX12_count 61 = .ok (.ireturn, 1) := by decide +kernel
theorem dX12_count_62 : decode cX12_count 62 = .ok (.aload_n 0, 1) := by decide +kernel
theorem dX12_count_63 : decode cX12_count 63 = .ok (.getfield 128, 3) := by decide +kernel
theorem dX12_count_66 : decode cX12_count 66 = .ok (.ireturn, 1) := by decide +kernel
theorem dX12_count_67 : decode cX12_count 67 = .ok (.aload_n 0, 1) := by decide +kernel
theorem dX12_count_68 : decode cX12_count 68 = .ok (.getfield 145, 3) := by decide +kernel
theorem dX12_count_71 : decode cX12_count 71 = .ok (.ireturn, 1) := by decide +kernel
theorem dX12_count_72 : decode cX12_count 72 = .ok (.aload_n 0, 1) := by decide +kernel
theorem dX12_count_73 : decode cX12_count 73 = .ok (.getfield 159, 3) := by decide +kernel
theorem dX12_count_76 : decode cX12_count 76 = .ok (.ireturn, 1) := by decide +kernel
theorem dX12_count_77 : decode cX12_count 77 = .ok (.aload_n 0, 1) := by decide +kernel
theorem dX12_count_78 : decode cX12_count 78 = .ok (.getfield 7, 3) := by decide +kernel
theorem dX12_count_81 : decode cX12_count 81 = .ok (.sipush 287, 3) := by decide +kernel
theorem dX12_count_84 : decode cX12_count 84 = .ok (.iaload, 1) := by decide +kernel
theorem dX12_count_85 : decode cX12_count 85 = .ok (.ireturn, 1) := by decide +kernel
theorem dX12_count_86 : decode cX12_count 86 = .ok (.aload_n 0, 1) := by decide +kernel
theorem dX12_count_87 : decode cX12_count 87 = .ok (.getfield 7, 3) := by decide +kernel
theorem dX12_count_90 : decode cX12_count 90 = .ok (.sipush 166, 3) := by decide +kernel
theorem dX12_count_93 : decode cX12_count 93 = .ok (.iaload, 1) := by decide +kernel
theorem dX12_count_94 : decode cX12_count 94 = .ok (.ireturn, 1) := by decide +kernel
theorem dX12_count_95 : decode cX12_count 95 = .ok (.aload_n 0, 1) := by decide +kernel
theorem dX12_count_96 : decode cX12_count 96 = .ok (.getfield 188, 3) := by decide +kernel
theorem dX12_count_99 : decode cX12_count 99 = .ok (.ireturn, 1) := by decide +kernel
theorem dX12_count_100 : decode cX12_count 100 = .ok (.aload_n 0, 1) := by decide +kernel
theorem dX12_count_101 : decode cX12_count 101 = .ok (.iconst 1, 1) := by decide +kernel
theorem dX12_count_102 : decode cX12_count 102 = .ok (.invokevirtual 103, 3) := by decide +kernel
theorem dX12_count_105 : decode cX12_count 105 = .ok (.ireturn, 1) := by decide +kernel
