theorem dX9_init_0 : decode cX9_init 0 = .ok (.aload_n 0, 1) := by decide +kernel
theorem dX9_init_1 : decode cX9_init 1 = .ok (.invokespecial 1, 3) := by decide +kernel
theorem dX9_init_4 : decode cX9_init 4 = .ok (.aload_n 0, 1) := by decide +kernel
theorem dX9_init_5 : decode cX9_init 5 = .ok (.iconst 4, 1) := by decide +kernel
theorem dX9_init_6 : decode cX9_init 6 = .ok (.newarray .int, 2) := by decide +kernel
theorem dX9_init_8 : decode cX9_init 8 = .ok (.putfield 7, 3) := by decide +kernel
theorem dX9_init_11 : decode cX9_init 11 = .ok (.aload_n 0, 1) := by decide +kernel
theorem dX9_init_12 : decode cX9_init 12 = .ok (.iconst 4, 1) := by decide +kernel
theorem dX9_init_13 : decode cX9_init 13 = .ok (.newarray .int, 2) := by decide +kernel
theorem dX9_init_15 : decode cX9_init 15 = .ok (.putfield 13, 3) := by decide +kernel
theorem dX9_init_18 : decode cX9_init 18 = .ok (.aload_n 0, 1) := by decide +kernel
theorem dX9_init_19 : decode cX9_init 19 = .ok (.iconst 4, 1) := by decide +kernel
theorem dX9_init_20 : decode cX9_init 20 = .ok (.newarray .int, 2) := by decide +kernel
theorem dX9_init_22 : decode cX9_init 22 = .ok (.putfield 16, 3) := by decide +kernel
theorem dX9_init_25 : decode cX9_init 25 = .ok (.aload_n 0, 1) := by decide +kernel
theorem dX9_init_26 : decode cX9_init 26 = .ok (.bipush 7, 2) := by decide +kernel
theorem dX9_init_28 : decode cX9_init 28 = .ok (.newarray .int, 2) := by decide +kernel
theorem dX9_init_30 : decode cX9_init 30 = .ok (.putfield 19, 3) := by decide +kernel
theorem dX9_init_33 : decode cX9_init 33 = .ok (.aload_n 0, 1) := by decide +kernel
theorem dX9_init_34 : decode cX9_init 34 = .ok (.bipush 7, 2) := by decide +kernel
theorem dX9_init_36 : decode cX9_init 36 = .ok (.newarray .int, 2) := by decide +kernel
theorem dX9_init_38 : decode cX9_init 38 = .ok (.putfield 22, 3) := by decide +kernel
theorem dX9_init_41 : decode cX9_init 41 = .ok (.aload_n 0, 1) := by decide +kernel
theorem dX9_init_42 : decode cX9_init 42 = .ok (.bipush 7, 2) := by decide +kernel
theorem dX9_init_44 : decode cX9_init 44 = .ok (.newarray .int, 2) := by decide +kernel
theorem dX9_init_46 : decode cX9_init 46 = .ok (.putfield 25, 3) := by decide +kernel
theorem dX9_init_49 : decode cX9_init 49 = .ok (.aload_n 0, 1) := by decide +kernel
theorem dX9_init_50 : decode cX9_init 50 = .ok (.bipush 7, 2) := by decide +kernel
theorem dX9_init_52 : decode cX9_init 52 = .ok (.newarray .int, 2) := by decide +kernel
theorem dX9_init_54 : decode cX9_init 54 = .ok (.putfield 28, 3) := by decide +kernel
theorem dX9_init_57 : decode cX9_init 57 = .ok (.aload_n 0, 1) := by decide +kernel
theorem dX9_init_58 : decode cX9_init 58 = .ok (.bipush 7, 2) := by decide +kernel
theorem dX9_init_60 : decode cX9_init 60 = .ok (.newarray .int, 2) := by decide +kernel
theorem dX9_init_62 : decode cX9_init 62 = .ok (.putfield 31, 3) := by decide +kernel
theorem dX9_init_65 : decode cX9_init 65 = .ok (.aload_n 0, 1) := by decide +kernel
theorem dX9_init_66 : decode cX9_init 66 = .ok (.bipush 74, 2) := by decide +kernel
theorem dX9_init_68 : decode cX9_init 68 = .ok (.newarray .int, 2) := by decide +kernel
theorem dX9_init_70 : decode cX9_init 70 = .ok (.putfield 34, 3) := by decide +kernel
theorem dX9_init_73 : decode cX9_init 73 = .ok (.aload_n 0, 1) := by decide +kernel
theorem dX9_init_74 : decode cX9_init 74 = .ok (.sipush 240, 3) := by decide +kernel
theorem dX9_init_77 : decode cX9_init 77 = .ok (.newarray .int, 2) := by decide +kernel
theorem dX9_init_79 : decode cX9_init 79 = .ok (.putfield 37, 3) := by decide +kernel
theorem dX9_init_82 : decode cX9_init 82 = .ok (.aload_n 0, 1) := by decide +kernel
theorem dX9_init_83 : decode cX9_init 83 = .ok (.iconst (-1), 1) := by decide +kernel
theorem dX9_init_84 : decode cX9_init 84 = .ok (.putfield 40, 3) := by decide +kernel
theorem dX9_init_87 : decode cX9_init 87 = .ok (.aload_n 0, 1) := by decide +kernel
theorem dX9_init_88 : decode cX9_init 88 = .ok (.iconst 4, 1) := by decide +kernel
theorem dX9_init_89 : decode cX9_init 89 = .ok (.newarray .int, 2) := by decide +kernel
theorem dX9_init_91 : decode cX9_init 91 = .ok (.putfield 44, 3) := by decide +kernel
theorem dX9_init_94 : decode cX9_init 94 = .ok (.aload_n 0, 1) := by decide +kernel
theorem dX9_init_95 : decode cX9_init 95 = .ok (.iconst 4, 1) := by decide +kernel
theorem dX9_init_96 : decode cX9_init 96 = .ok (.newarray .int, 2) := by decide +kernel
theorem dX9_init_98 : decode cX9_init 98 = .ok (.putfield 47, 3) := by decide +kernel
theorem dX9_init_101 : decode cX9_init 101 = .ok (.aload_n 0, 1) := by decide +kernel
theorem dX9_init_102 : decode cX9_init 102 = .ok (.iconst 4, 1) := by decide +kernel
theorem dX9_init_103 : decode cX9_init 103 = .ok (.newarray .int, 2) := by decide +kernel
theorem dX9_init_105 : decode cX9_init 105 = .ok (.putfield 50, 3) := by decide +kernel
theorem dX9_init_108 : decode cX9_init 108 = .ok (.aload_n 0, 1) := by decide +kernel
theorem dX9_init_109 : decode cX9_init 109 = .ok (.bipush 7, 2) := by decide +kernel
theorem dX9_init_111 : decode cX9_init 111 = .ok (.newarray .int, 2) := by decide +kernel
theorem dX9_init_113 : decode cX9_init 113 = .ok (.putfield 53, 3) := by decide +kernel
theorem dX9_init_116 : decode cX9_init 116 = .ok (.aload_n 0, 1) := by decide +kernel
theorem dX9_init_117 : decode cX9_init 117 = .ok (.bipush 7, 2) := by decide +kernel
theorem dX9_init_119 : decode cX9_init 119 = .ok (.newarray .int, 2) := by decide +kernel
theorem dX9_init_121 : decode cX9_init 121 = .ok (.putfield 56, 3) := by decide +kernel
theorem dX9_init_124 : decode cX9_init 124 = .ok (.aload_n 0, 1) := by decide +kernel
theorem dX9_init_125 : decode cX9_init 125 = .ok (.bipush 7, 2) := by decide +kernel
theorem dX9_init_127 : decode cX9_init 127 = .ok (.newarray .int, 2) := by decide +kernel
theorem dX9_init_129 : decode cX9_init 129 = .ok (.putfield 59, 3) := by decide +kernel
theorem dX9_init_132 : decode cX9_init 132 = .ok (.aload_n 0, 1) := by decide +kernel
theorem dX9_init_133 : decode cX9_init 133 = .ok (.bipush 7, 2) := by decide +kernel
theorem dX9_init_135 : decode cX9_init 135 = .ok (.newarray .int, 2) := by decide +kernel
theorem dX9_init_137 : decode cX9_init 137 = .ok (.putfield 62, 3) := by decide +kernel
theorem dX9_init_140 : decode cX9_init 140 = .ok (.aload_n 0, 1) := by decide +kernel
theorem dX9_init_141 : decode cX9_init 141 = .ok (.bipush 7, 2) := by decide +kernel
theorem dX9_init_143 : decode cX9_init 143 = .ok (.newarray .int, 2) := by decide +kernel
theorem dX9_init_145 : decode cX9_init 145 = .ok (.putfield 65, 3) := by decide +kernel
theorem dX9_init_148 : decode cX9_init 148 = .ok (.aload_n 0, 1) := by decide +kernel
theorem dX9_init_149 : decode cX9_init 149 = .ok (.sipush 1184, 3) := by decide +kernel
theorem dX9_init_152 : decode cX9_init 152 = .ok (.newarray .int, 2) := by decide +kernel
theorem dX9_init_154 : decode cX9_init 154 = .ok (.putfield 68, 3) := by decide +kernel
theorem dX9_init_157 : decode cX9_init 157 = .ok (.aload_n 0, 1) := by decide +kernel
theorem dX9_init_158 : decode cX9_init 158 = .ok (.bipush 74, 2) := by decide +kernel
theorem dX9_init_160 : decode cX9_init 160 = .ok (.newarray .int, 2) := by decide +kernel
theorem dX9_init_162 : decode cX9_init 162 = .ok (.putfield 71, 3) := by decide +kernel
theorem dX9_init_165 : decode cX9_init 165 = .ok (.aload_n 0, 1) := by decide +kernel
theorem dX9_init_166 : decode cX9_init 166 = .ok (.bipush 6, 2) := by decide +kernel
theorem dX9_init_168 : decode cX9_init 168 = .ok (.newarray .int, 2) := by decide +kernel
theorem dX9_init_170 : decode cX9_init 170 = .ok (.putfield 74, 3) := by decide +kernel
theorem dX9_init_173 : decode cX9_init 173 = .ok (.aload_n 0, 1) := by decide +kernel
theorem dX9_init_174 : decode cX9_init 174 = .ok (.bipush 6, 2) := by decide +kernel
theorem dX9_init_176 : decode cX9_init 176 = .ok (.newarray .int, 2) := by decide +kernel
theorem dX9_init_178 : decode cX9_init 178 = .ok (.putfield 77, 3) := by decide +kernel
theorem dX9_init_181 : decode cX9_init 181 = .ok (.aload_n 0, 1) := by decide +kernel
theorem dX9_init_182 : decode cX9_init 182 = .ok (.bipush 6, 2) := by decide +kernel
theorem dX9_init_184 : decode cX9_init 184 = .ok (.newarray .int, 2) := by decide +kernel
theorem dX9_init_186 : decode cX9_init 186 = .ok (.putfield 80, 3) := by decide +kernel
theorem dX9_init_189 : decode cX9_init 189 = .ok (.aload_n 0, 1) := by decide +kernel
theorem dX9_init_190 : decode cX9_init 190 = .ok (.bipush 6, 2) := by decide +kernel
theorem dX9_init_192 : decode cX9_init 192 = .ok (.newarray .boolean, 2) := by decide +kernel
theorem dX9_init_194 : decode cX9_init 194 = .ok (.putfield 83, 3) := by decide +kernel
theorem dX9_init_197 : decode cX9_init 197 = .ok (.aload_n 0, 1) := by decide +kernel
theorem dX9_init_198 : decode cX9_init 198 = .ok (.bipush 15, 2) := by decide +kernel
theorem dX9_init_200 : decode cX9_init 200 = .ok (.newarray .int, 2) := by decide +kernel
theorem dX9_init_202 : decode cX9_init 202 = .ok (.putfield 87, 3) := by decide +kernel
theorem dX9_init_205 : decode cX9_init 205 = .ok (.aload_n 0, 1) := by decide +kernel
theorem dX9_init_206 : decode cX9_init 206 = .ok (.bipush 15, 2) := by decide +kernel
theorem dX9_init_208 : decode cX9_init 208 = .ok (.newarray .int, 2) := by decide +kernel
theorem dX9_init_210 : decode cX9_init 210 = .ok (.putfield 90, 3) := by decide +kernel
theorem dX9_init_213 : decode cX9_init 213 = .ok (.aload_n 0, 1) := by decide +kernel
theorem dX9_init_214 : decode cX9_init 214 = .ok (.sipush 150, 3) := by decide +kernel
theorem dX9_init_217 : decode cX9_init 217 = .ok (.newarray .int, 2) := by decide +kernel
theorem dX9_init_219 : decode cX9_init 219 = .ok (.putfield 93, 3) := by decide +kernel
theorem dX9_init_222 : decode cX9_init 222 = .ok (.aload_n 0, 1) := by decide +kernel
theorem dX9_init_223 : decode cX9_init 223 = .ok (.iconst 2, 1) := by decide +kernel
theorem dX9_init_224 : decode cX9_init 224 = .ok (.newarray .boolean, 2) := by decide +kernel
theorem dX9_init_226 : decode cX9_init 226 = .ok (.putfield 96, 3) := by decide +kernel
theorem dX9_init_229 : decode cX9_init 229 = .ok (.aload_n 0, 1) := by decide +kernel
theorem dX9_init_230 : decode cX9_init 230 = .ok (.iconst 0, 1) := by decide +kernel
theorem dX9_init_231 : decode cX9_init 231 = .ok (.putfield 99, 3) := by decide +kernel
theorem dX9_init_234 : decode cX9_init 234 = .ok (.return_, 1) := by decide +kernel
theorem dX9_in_0 : decode cX9_in 0 = .ok (.lload_n 0, 1) := by decide +kernel
theorem dX9_in_1 : decode cX9_in 1 = .ok (.lload_n 2, 1) := by decide +kernel
theorem dX9_in_2 : decode cX9_in 2 = .ok (.lcmp, 1) := by decide +kernel
theorem dX9_in_3 : decode cX9_in 3 = .ok (.ifCond .lt 14, 3) := by decide +kernel
theorem dX9_in_6 : decode cX9_in 6 = .ok (.lload_n 0, 1) := by decide +kernel
theorem dX9_in_7 : decode cX9_in 7 = .ok (.lload 4, 2) := by decide +kernel
theorem dX9_in_9 : decode cX9_in 9 = .ok (.lcmp, 1) := by decide +kernel
theorem dX9_in_10 : decode cX9_in 10 = .ok (.ifCond .gt 7, 3) := by decide +kernel
theorem dX9_in_13 : decode cX9_in 13 = .ok (.iconst 1, 1) := by decide +kernel
theorem dX9_in_14 : decode cX9_in 14 = .ok (.goto 4, 3) := by decide +kernel
theorem dX9_in_17 : decode cX9_in 17 = .ok (.iconst 0, 1) := by decide +kernel
theorem dX9_in_18 : decode cX9_in 18 = .ok (.ireturn, 1) := by decide +kernel
theorem dX9_has_0 : decode cX9_has 0 = .ok (.iload_n 0, 1) := by decide +kernel
theorem dX9_has_1 : decode cX9_has 1 = .ok (.iload_n 1, 1) := by decide +kernel
theorem dX9_has_2 : decode cX9_has 2 = .ok (.ishr, 1) := by decide +kernel
theorem dX9_has_3 : decode cX9_has 3 = .ok (.iconst 1, 1) := by decide +kernel
theorem dX9_has_4 : decode cX9_has 4 = .ok (.iand, 1) := by decide +kernel
theorem dX9_has_5 : decode cX9_has 5 = .ok (.iconst 1, 1) := by decide +kernel
theorem dX9_has_6 : decode cX9_has 6 = .ok (.if_icmp .ne 7, 3) := by decide +kernel
theorem dX9_has_9 : decode cX9_has 9 = .ok (.iconst 1, 1) := by decide +kernel
theorem dX9_has_10 : decode cX9_has 10 = .ok (.goto 4, 3) := by decide +kernel
theorem dX9_has_13 : decode cX9_has 13 = .ok (.iconst 0, 1) := by decide +kernel
theorem dX9_has_14 : decode cX9_has 14 = .ok (.ireturn, 1) := by decide +kernel
theorem dX9_bits_0 : decode cX9_bits 0 = .ok (.iconst 0, 1) := by decide +kernel
theorem dX9_bits_1 : decode cX9_bits 1 = .ok (.istore_n 1, 1) := by decide +kernel
theorem dX9_bits_2 : decode cX9_bits 2 = .ok (.iconst 0, 1) := by decide +kernel
theorem dX9_bits_3 : decode cX9_bits 3 = .ok (.istore_n 2, 1) := by decide +kernel
theorem dX9_bits_4 : decode cX9_bits 4 = .ok (.iload_n 2, 1) := by decide +kernel
theorem dX9_bits_5 : decode cX9_bits 5 = .ok (.bipush 7, 2) := by decide +kernel
theorem dX9_bits_7 : decode cX9_bits 7 = .ok (.if_icmp .ge 17, 3) := by decide +kernel
theorem dX9_bits_10 : decode cX9_bits 10 = .ok (.iload_n 1, 1) := by decide +kernel
theorem dX9_bits_11 : decode cX9_bits 11 = .ok (.iload_n 0, 1) := by decide +kernel
theorem dX9_bits_12 : decode cX9_bits 12 = .ok (.iload_n 2, 1) := by decide +kernel
theorem dX9_bits_13 : decode cX9_bits 13 = .ok (.ishr, 1) := by decide +kernel
theorem dX9_bits_14 : decode cX9_bits 14 = .ok (.iconst 1, 1) := by decide +kernel
theorem dX9_bits_15 : decode cX9_bits 15 = .ok (.iand, 1) := by decide +kernel
theorem dX9_bits_16 : decode cX9_bits 16 = .ok (.iadd, 1) := by decide +kernel
theorem dX9_bits_17 : decode cX9_bits 17 = .ok (.istore_n 1, 1) := by decide +kernel
theorem dX9_bits_18 : decode cX9_bits 18 = .ok (.iinc 2 1, 3) := by decide +kernel
theorem dX9_bits_21 : decode cX9_bits 21 = .ok (.goto (-17), 3) := by decide +kernel
theorem dX9_bits_24 : decode cX9_bits 24 = .ok (.iload_n 1, 1) := by decide +kernel
theorem dX9_bits_25 : decode cX9_bits 25 = .ok (.ireturn, 1) := by decide +kernel
theorem dX9_isCoach_0 : decode cX9_isCoach 0 = .ok (.iload_n 1, 1) := by decide +kernel
theorem dX9_isCoach_1 : decode cX9_isCoach 1 = .ok (.i2l, 1) := by decide +kernel
theorem dX9_isCoach_2 : decode cX9_isCoach 2 = .ok (.lconst 0, 1) := by decide +kernel
theorem dX9_isCoach_3 : decode cX9_isCoach 3 = .ok (.aload_n 0, 1) := by decide +kernel
theorem dX9_isCoach_4 : decode cX9_isCoach 4 = .ok (.getfield 102, 3) := by decide +kernel
theorem dX9_isCoach_7 : decode cX9_isCoach 7 = .ok (.iconst 1, 1) := by decide +kernel
theorem dX9_isCoach_8 : decode cX9_isCoach 8 = .ok (.isub, 1) := by decide +kernel
theorem dX9_isCoach_9 : decode cX9_isCoach 9 = .ok (.i2l, 1) := by decide +kernel
theorem dX9_isCoach_10 : decode cX9_isCoach 10 = .ok (.invokestatic 105, 3) := by decide +kernel
theorem dX9_isCoach_13 : decode cX9_isCoach 13 = .ok (.ireturn, 1) := by decide +kernel
theorem dX9_isPassenger_0 : decode cX9_isPassenger 0 = .ok (.iload_n 1, 1) := by decide +kernel
theorem dX9_isPassenger_1 : decode cX9_isPassenger 1 = .ok (.i2l, 1) := by decide +kernel
theorem dX9_isPassenger_2 : decode cX9_isPassenger 2 = .ok (.lconst 0, 1) := by decide +kernel
theorem dX9_isPassenger_3 : decode cX9_isPassenger 3 = .ok (.aload_n 0, 1) := by decide +kernel
theorem dX9_isPassenger_4 : decode cX9_isPassenger 4 = .ok (.getfield 109, 3) := by decide +kernel
theorem dX9_isPassenger_7 : decode cX9_isPassenger 7 = .ok (.iconst 1, 1) := by decide +kernel
theorem dX9_isPassenger_8 : decode cX9_isPassenger 8 = .ok (.isub, 1) := by decide +kernel
theorem dX9_isPassenger_9 : decode cX9_isPassenger 9 = .ok (.i2l, 1) := by decide +kernel
theorem dX9_isPassenger_10 : decode cX9_isPassenger 10 = .ok (.invokestatic 105, 3) := by decide +kernel
theorem dX9_isPassenger_13 : decode cX9_isPassenger 13 = .ok (.ireturn, 1) := by decide +kernel
theorem dX9_feed_0 : decode cX9_feed 0 = .ok (.iload_n 1, 1) := by decide +kernel
theorem dX9_feed_1 : decode cX9_feed 1 = .ok (.i2l, 1) := by decide +kernel
theorem dX9_feed_2 : decode cX9_feed 2 = .ok (.lconst 0, 1) := by decide +kernel
theorem dX9_feed_3 : decode cX9_feed 3 = .ok (.ldc2_w 112, 3) := by decide +kernel
theorem dX9_feed_6 : decode cX9_feed 6 = .ok (.invokestatic 105, 3) := by decide +kernel
theorem dX9_feed_9 : decode cX9_feed 9 = .ok (.ifCond .ne 6, 3) := by decide +kernel
theorem dX9_feed_12 : decode cX9_feed 12 = .ok (.ldc 114, 2) := by decide +kernel
theorem dX9_feed_14 : decode cX9_feed 14 = .ok (.ireturn, 1) := by decide +kernel
theorem dX9_feed_15 : decode cX9_feed 15 = .ok (.aload_n 0, 1) := by decide +kernel
theorem dX9_feed_16 : decode cX9_feed 16 = .ok (.getfield 115, 3) := by decide +kernel
theorem dX9_feed_19 : decode cX9_feed 19 = .ok (.sipush 240, 3) := by decide +kernel
theorem dX9_feed_22 : decode cX9_feed 22 = .ok (.if_icmp .ne 6, 3) := by decide +kernel
theorem dX9_feed_25 : decode cX9_feed 25 = .ok (.ldc 118, 2) := by decide +kernel
theorem dX9_feed_27 : decode cX9_feed 27 = .ok (.ireturn, 1) := by decide +kernel
theorem dX9_feed_28 : decode cX9_feed 28 = .ok (.aload_n 0, 1) := by decide +kernel
theorem dX9_feed_29 : decode cX9_feed 29 = .ok (.getfield 37, 3) := by decide +kernel
theorem dX9_feed_32 : decode cX9_feed 32 = .ok (.aload_n 0, 1) := by decide +kernel
theorem dX9_feed_33 : decode cX9_feed 33 = .ok (.getfield 115, 3) := by decide +kernel
theorem dX9_feed_36 : decode cX9_feed 36 = .ok (.iload_n 1, 1) := by decide +kernel
theorem dX9_feed_37 : decode cX9_feed 37 = .ok (.iastore, 1) := by decide +kernel
theorem dX9_feed_38 : decode cX9_feed 38 = .ok (.aload_n 0, 1) := by decide +kernel
theorem dX9_feed_39 : decode cX9_feed 39 = .ok (.dup, 1) := by decide +kernel
theorem dX9_feed_40 : decode cX9_feed 40 = .ok (.getfield 115, 3) := by decide +kernel
theorem dX9_feed_43 : decode cX9_feed 43 = .ok (.iconst 1, 1) := by decide +kernel
theorem dX9_feed_44 : decode cX9_feed 44 = .ok (.iadd, 1) := by decide +kernel
theorem dX9_feed_45 : decode cX9_feed 45 = .ok (.putfield 115, 3) := by decide +kernel
theorem dX9_feed_48 : decode cX9_feed 48 = .ok (.aload_n 0, 1) := by decide +kernel
theorem dX9_feed_49 : decode cX9_feed 49 = .ok (.getfield 115, 3) := by decide +kernel
theorem dX9_feed_52 : decode cX9_feed 52 = .ok (.ireturn, 1) := by decide +kernel
theorem dX9_here_0 : decode cX9_here 0 = .ok (.aload_n 0, 1) := by decide +kernel
theorem dX9_here_1 : decode cX9_here 1 = .ok (.getfield 119, 3) := by decide +kernel
theorem dX9_here_4 : decode cX9_here 4 = .ok (.aload_n 0, 1) := by decide +kernel
theorem dX9_here_5 : decode cX9_here 5 = .ok (.getfield 115, 3) := by decide +kernel
theorem dX9_here_8 : decode cX9_here 8 = .ok (.if_icmp .ge 30, 3) := by decide +kernel
theorem dX9_here_11 : decode cX9_here 11 = .ok (.aload_n 0, 1) := by decide +kernel
theorem dX9_here_12 : decode cX9_here 12 = .ok (.getfield 37, 3) := by decide +kernel
theorem dX9_here_15 : decode cX9_here 15 = .ok (.aload_n 0, 1) := by decide +kernel
theorem dX9_here_16 : decode cX9_here 16 = .ok (.getfield 119, 3) := by decide +kernel
theorem dX9_here_19 : decode cX9_here 19 = .ok (.iaload, 1) := by decide +kernel
theorem dX9_here_20 : decode cX9_here 20 = .ok (.bipush 32, 2) := by decide +kernel
theorem dX9_here_22 : decode cX9_here 22 = .ok (.if_icmp .ne 16, 3) := by decide +kernel
theorem dX9_here_25 : decode cX9_here 25 = .ok (.aload_n 0, 1) := by decide +kernel
theorem dX9_here_26 : decode cX9_here 26 = .ok (.dup, 1) := by decide +kernel
theorem dX9_here_27 : decode cX9_here 27 = .ok (.getfield 119, 3) := by decide +kernel
theorem dX9_here_30 : decode cX9_here 30 = .ok (.iconst 1, 1) := by decide +kernel
theorem dX9_here_31 : decode cX9_here 31 = .ok (.iadd, 1) := by decide +kernel
theorem dX9_here_32 : decode cX9_here 32 = .ok (.putfield 119, 3) := by decide +kernel
theorem dX9_here_35 : decode cX9_here 35 = .ok (.goto (-35), 3) := by decide +kernel
theorem dX9_here_38 : decode cX9_here 38 = .ok (.aload_n 0, 1) := by decide +kernel
theorem dX9_here_39 : decode cX9_here 39 = .ok (.getfield 119, 3) := by decide +kernel
theorem dX9_here_42 : decode cX9_here 42 = .ok (.aload_n 0, 1) := by decide +kernel
theorem dX9_here_43 : decode cX9_here 43 = .ok (.getfield 115, 3) := by decide +kernel
theorem dX9_here_46 : decode cX9_here 46 = .ok (.if_icmp .ge 15, 3) := by decide +kernel
theorem dX9_here_49 : decode cX9_here 49 = .ok (.aload_n 0, 1) := by decide +kernel
theorem dX9_here_50 : decode cX9_here 50 = .ok (.getfield 37, 3) := by decide +kernel
theorem dX9_here_53 : decode cX9_here 53 = .ok (.aload_n 0, 1) := by decide +kernel
theorem dX9_here_54 : decode cX9_here 54 = .ok (.getfield 119, 3) := by decide +kernel
theorem dX9_here_57 : decode cX9_here 57 = .ok (.iaload, 1) := by decide +kernel
theorem dX9_here_58 : decode cX9_here 58 = .ok (.goto 4, 3) := by decide +kernel
theorem dX9_here_61 : decode cX9_here 61 = .ok (.iconst (-1), 1) := by decide +kernel
theorem dX9_here_62 : decode cX9_here 62 = .ok (.ireturn, 1) := by decide +kernel
theorem dX9_fails_0 : decode cX9_fails 0 = .ok (.aload_n 0, 1) := by decide +kernel
theorem dX9_fails_1 : decode cX9_fails 1 = .ok (.iload_n 2, 1) := by decide +kernel
theorem dX9_fails_2 : decode cX9_fails 2 = .ok (.putfield 40, 3) := by decide +kernel
theorem dX9_fails_5 : decode cX9_fails 5 = .ok (.iload_n 1, 1) := by decide +kernel
theorem dX9_fails_6 : decode cX9_fails 6 = .ok (.ireturn, 1) := by decide +kernel
theorem dX9_takeNumber_0 : decode cX9_takeNumber 0 = .ok (.aload_n 0, 1) := by decide +kernel
theorem dX9_takeNumber_1 : decode cX9_takeNumber 1 = .ok (.invokevirtual 122, 3) := by decide +kernel
theorem dX9_takeNumber_4 : decode cX9_takeNumber 4 = .ok (.istore_n 3, 1) := by decide +kernel
theorem dX9_takeNumber_5 : decode cX9_takeNumber 5 = .ok (.iload_n 3, 1) := by decide +kernel
theorem dX9_takeNumber_6 : decode cX9_takeNumber 6 = .ok (.i2l, 1) := by decide +kernel
theorem dX9_takeNumber_7 : decode cX9_takeNumber 7 = .ok (.ldc2_w 126, 3) := by decide +kernel
theorem dX9_takeNumber_10 : decode cX9_takeNumber 10 = .ok (.ldc2_w 128, 3) := by decide +kernel
theorem dX9_takeNumber_13 : decode cX9_takeNumber 13 = .ok (.invokestatic 105, 3) := by decide +kernel
theorem dX9_takeNumber_16 : decode cX9_takeNumber 16 = .ok (.ifCond .ne 13, 3) := by decide +kernel
theorem dX9_takeNumber_19 : decode cX9_takeNumber 19 = .ok (.aload_n 0, 1) := by decide +kernel
theorem dX9_takeNumber_20 : decode cX9_takeNumber 20 = .ok (.iconst 1, 1) := by decide +kernel
theorem dX9_takeNumber_21 : decode cX9_takeNumber 21 = .ok (.aload_n 0, 1) := by decide +kernel
theorem dX9_takeNumber_22 : decode cX9_takeNumber 22 = .ok (.getfield 119, 3) := by decide +kernel
theorem dX9_takeNumber_25 : decode cX9_takeNumber 25 = .ok (.invokevirtual 130, 3) := by decide +kernel
theorem dX9_takeNumber_28 : decode cX9_takeNumber 28 = .ok (.ireturn, 1) := by decide +kernel
theorem dX9_takeNumber_29 : decode cX9_takeNumber 29 = .ok (.aload_n 0, 1) := by decide +kernel
theorem dX9_takeNumber_30 : decode cX9_takeNumber 30 = .ok (.aload_n 0, 1) := by decide +kernel
theorem dX9_takeNumber_31 : decode cX9_takeNumber 31 = .ok (.getfield 119, 3) := by decide +kernel
theorem dX9_takeNumber_34 : decode cX9_takeNumber 34 = .ok (.putfield 134, 3) := by decide +kernel
theorem dX9_takeNumber_37 : decode cX9_takeNumber 37 = .ok (.aload_n 0, 1) := by decide +kernel
theorem dX9_takeNumber_38 : decode cX9_takeNumber 38 = .ok (.iconst 0, 1) := by decide +kernel
theorem dX9_takeNumber_39 : decode cX9_takeNumber 39 = .ok (.putfield 137, 3) := by decide +kernel
theorem dX9_takeNumber_42 : decode cX9_takeNumber 42 = .ok (.aload_n 0, 1) := by decide +kernel
theorem dX9_takeNumber_43 : decode cX9_takeNumber 43 = .ok (.getfield 119, 3) := by decide +kernel
theorem dX9_takeNumber_46 : decode cX9_takeNumber 46 = .ok (.aload_n 0, 1) := by decide +kernel
theorem dX9_takeNumber_47 : decode cX9_takeNumber 47 = .ok (.getfield 115, 3) := by decide +kernel
theorem dX9_takeNumber_50 : decode cX9_takeNumber 50 = .ok (.if_icmp .ge 79, 3) := by decide +kernel
theorem dX9_takeNumber_53 : decode cX9_takeNumber 53 = .ok (.aload_n 0, 1) := by decide +kernel
theorem dX9_takeNumber_54 : decode cX9_takeNumber 54 = .ok (.getfield 37, 3) := by decide +kernel
theorem dX9_takeNumber_57 : decode cX9_takeNumber 57 = .ok (.aload_n 0, 1) := by decide +kernel
theorem dX9_takeNumber_58 : decode cX9_takeNumber 58 = .ok (.getfield 119, 3) := by decide +kernel
theorem dX9_takeNumber_61 : decode cX9_takeNumber 61 = .ok (.iaload, 1) := by decide +kernel
theorem dX9_takeNumber_62 : decode cX9_takeNumber 62 = .ok (.i2l, 1) := by decide +kernel
theorem dX9_takeNumber_63 : decode cX9_takeNumber 63 = .ok (.ldc2_w 126, 3) := by decide +kernel
theorem dX9_takeNumber_66 : decode cX9_takeNumber 66 = .ok (.ldc2_w 128, 3) := by decide +kernel
theorem dX9_takeNumber_69 : decode cX9_takeNumber 69 = .ok (.invokestatic 105, 3) := by decide +kernel
theorem dX9_takeNumber_72 : decode cX9_takeNumber 72 = .ok (.ifCond .eq 57, 3) := by decide +kernel
theorem dX9_takeNumber_75 : decode cX9_takeNumber 75 = .ok (.aload_n 0, 1) := by decide +kernel
theorem dX9_takeNumber_76 : decode cX9_takeNumber 76 = .ok (.aload_n 0, 1) := by decide +kernel
theorem dX9_takeNumber_77 : decode cX9_takeNumber 77 = .ok (.getfield 137, 3) := by decide +kernel
theorem dX9_takeNumber_80 : decode cX9_takeNumber 80 = .ok (.sipush 10000, 3) := by decide +kernel
theorem dX9_takeNumber_83 : decode cX9_takeNumber 83 = .ok (.if_icmp .le 10, 3) := by decide +kernel
theorem dX9_takeNumber_86 : decode cX9_takeNumber 86 = .ok (.aload_n 0, 1) := by decide +kernel
theorem dX9_takeNumber_87 : decode cX9_takeNumber 87 = .ok (.getfield 137, 3) := by decide +kernel
theorem dX9_takeNumber_90 : decode cX9_takeNumber 90 = .ok (.goto 23, 3) := by decide +kernel
theorem dX9_takeNumber_93 : decode cX9_takeNumber 93 = .ok (.bipush 10, 2) := by decide +kernel
theorem dX9_takeNumber_95 : decode cX9_takeNumber 95 = .ok (.aload_n 0, 1) := by decide +kernel
theorem dX9_takeNumber_96 : decode cX9_takeNumber 96 = .ok (.getfield 137, 3) := by decide +kernel
theorem dX9_takeNumber_99 : decode cX9_takeNumber 99 = .ok (.imul, 1) := by decide +kernel
theorem dX9_takeNumber_100 : decode cX9_takeNumber 100 = .ok (.aload_n 0, 1) := by decide +kernel
theorem dX9_takeNumber_101 : decode cX9_takeNumber 101 = .ok (.getfield 37, 3) := by decide +kernel
theorem dX9_takeNumber_104 : decode cX9_takeNumber 104 = .ok (.aload_n 0, 1) := by decide +kernel
theorem dX9_takeNumber_105 : decode cX9_takeNumber 105 = .ok (.getfield 119, 3) := by decide +kernel
theorem dX9_takeNumber_108 : decode cX9_takeNumber 108 = .ok (.iaload, 1) := by decide +kernel
theorem dX9_takeNumber_109 : decode cX9_takeNumber 109 = .ok (.iadd, 1) := by decide +kernel
theorem dX9_takeNumber_110 : decode cX9_takeNumber 110 = .ok (.bipush 48, 2) := by decide +kernel
theorem dX9_takeNumber_112 : decode cX9_takeNumber 112 = .ok (.isub, 1) := by decide +kernel
theorem dX9_takeNumber_113 : decode cX9_takeNumber 113 = .ok (.putfield 137, 3) := by decide +kernel
theorem dX9_takeNumber_116 : decode cX9_takeNumber 116 = .ok (.aload_n 0, 1) := by decide +kernel
theorem dX9_takeNumber_117 : decode cX9_takeNumber 117 = .ok (.dup, 1) := by decide +kernel
theorem dX9_takeNumber_118 : decode cX9_takeNumber 118 = .ok (.getfield 119, 3) := by decide +kernel
theorem dX9_takeNumber_121 : decode cX9_takeNumber 121 = .ok (.iconst 1, 1) := by decide +kernel
theorem dX9_takeNumber_122 : decode cX9_takeNumber 122 = .ok (.iadd, 1) := by decide +kernel
theorem dX9_takeNumber_123 : decode cX9_takeNumber 123 = .ok (.putfield 119, 3) := by decide +kernel
theorem dX9_takeNumber_126 : decode cX9_takeNumber 126 = .ok (.goto (-84), 3) := by decide +kernel
theorem dX9_takeNumber_129 : decode cX9_takeNumber 129 = .ok (.aload_n 0, 1) := by decide +kernel
theorem dX9_takeNumber_130 : decode cX9_takeNumber 130 = .ok (.getfield 119, 3) := by decide +kernel
theorem dX9_takeNumber_133 : decode cX9_takeNumber 133 = .ok (.aload_n 0, 1) := by decide +kernel
theorem dX9_takeNumber_134 : decode cX9_takeNumber 134 = .ok (.getfield 134, 3) := by decide +kernel
theorem dX9_takeNumber_137 : decode cX9_takeNumber 137 = .ok (.isub, 1) := by decide +kernel
theorem dX9_takeNumber_138 : decode cX9_takeNumber 138 = .ok (.iconst 3, 1) := by decide +kernel
theorem dX9_takeNumber_139 : decode cX9_takeNumber 139 = .ok (.if_icmp .gt 18, 3) := by decide +kernel
theorem dX9_takeNumber_142 : decode cX9_takeNumber 142 = .ok (.aload_n 0, 1) := by decide +kernel
theorem dX9_takeNumber_143 : decode cX9_takeNumber 143 = .ok (.getfield 137, 3) := by decide +kernel
theorem dX9_takeNumber_146 : decode cX9_takeNumber 146 = .ok (.i2l, 1) := by decide +kernel
theorem dX9_takeNumber_147 : decode cX9_takeNumber 147 = .ok (.iload_n 1, 1) := by decide +kernel
theorem dX9_takeNumber_148 : decode cX9_takeNumber 148 = .ok (.i2l, 1) := by decide +kernel
theorem dX9_takeNumber_149 : decode cX9_takeNumber 149 = .ok (.iload_n 2, 1) := by decide +kernel
theorem dX9_takeNumber_150 : decode cX9_takeNumber 150 = .ok (.i2l, 1) := by decide +kernel
theorem dX9_takeNumber_151 : decode cX9_takeNumber 151 = .ok (.invokestatic 105, 3) := by decide +kernel
theorem dX9_takeNumber_154 : decode cX9_takeNumber 154 = .ok (.ifCond .ne 15, 3) := by decide +kernel
theorem dX9_takeNumber_157 : decode cX9_takeNumber 157 = .ok (.aload_n 0, 1) := by decide +kernel
theorem dX9_takeNumber_158 : decode cX9_takeNumber 158 = .ok (.iconst 2, 1) := by decide +kernel
theorem dX9_takeNumber_159 : decode cX9_takeNumber 159 = .ok (.aload_n 0, 1) := by decide +kernel
theorem dX9_takeNumber_160 : decode cX9_takeNumber 160 = .ok (.getfield 134, 3) := by decide +kernel
theorem dX9_takeNumber_163 : decode cX9_takeNumber 163 = .ok (.invokevirtual 130, 3) := by decide +kernel
theorem dX9_takeNumber_166 : decode cX9_takeNumber 166 = .ok (.goto 4, 3) := by decide +kernel
theorem dX9_takeNumber_169 : decode cX9_takeNumber 169 = .ok (.iconst 0, 1) := by decide +kernel
theorem dX9_takeNumber_170 : decode cX9_takeNumber 170 = .ok (.ireturn, 1) := by decide +kernel
theorem dX9_into_0 : decode cX9_into 0 = .ok (.aload_n 0, 1) := by decide +kernel
theorem dX9_into_1 : decode cX9_into 1 = .ok (.iload_n 3, 1) := by decide +kernel
theorem dX9_into_2 : decode cX9_into 2 = .ok (.iload 4, 2) := by decide +kernel
theorem dX9_into_4 : decode cX9_into 4 = .ok (.invokevirtual 140, 3) := by decide +kernel
theorem dX9_into_7 : decode cX9_into 7 = .ok (.istore 5, 2) := by decide +kernel
theorem dX9_into_9 : decode cX9_into 9 = .ok (.aload_n 1, 1) := by decide +kernel
theorem dX9_into_10 : decode cX9_into 10 = .ok (.iload_n 2, 1) := by decide +kernel
theorem dX9_into_11 : decode cX9_into 11 = .ok (.aload_n 0, 1) := by decide +kernel
theorem dX9_into_12 : decode cX9_into 12 = .ok (.getfield 137, 3) := by decide +kernel
theorem dX9_into_15 : decode cX9_into 15 = .ok (.iastore, 1) := by decide +kernel
theorem dX9_into_16 : decode cX9_into 16 = .ok (.iload 5, 2) := by decide +kernel
theorem dX9_into_18 : decode cX9_into 18 = .ok (.ireturn, 1) := by decide +kernel
theorem dX9_takeLine_0 : decode cX9_takeLine 0 = .ok (.aload_n 0, 1) := by decide +kernel
theorem dX9_takeLine_1 : decode cX9_takeLine 1 = .ok (.iconst 2, 1) := by decide +kernel
theorem dX9_takeLine_2 : decode cX9_takeLine 2 = .ok (.bipush 7, 2) := by decide +kernel
theorem dX9_takeLine_4 : decode cX9_takeLine 4 = .ok (.invokevirtual 140, 3) := by decide +kernel
theorem dX9_takeLine_7 : decode cX9_takeLine 7 = .ok (.istore_n 1, 1) := by decide +kernel
theorem dX9_takeLine_8 : decode cX9_takeLine 8 = .ok (.aload_n 0, 1) := by decide +kernel
theorem dX9_takeLine_9 : decode cX9_takeLine 9 = .ok (.aload_n 0, 1) := by decide +kernel
theorem dX9_takeLine_10 : decode cX9_takeLine 10 = .ok (.getfield 137, 3) := by decide +kernel
theorem dX9_takeLine_13 : decode cX9_takeLine 13 = .ok (.putfield 143, 3) := by decide +kernel
theorem dX9_takeLine_16 : decode cX9_takeLine 16 = .ok (.iload_n 1, 1) := by decide +kernel
theorem dX9_takeLine_17 : decode cX9_takeLine 17 = .ok (.ifCond .le 7, 3) := by decide +kernel
theorem dX9_takeLine_20 : decode cX9_takeLine 20 = .ok (.iload_n 1, 1) := by decide +kernel
theorem dX9_takeLine_21 : decode cX9_takeLine 21 = .ok (.goto 16, 3) := by decide +kernel
theorem dX9_takeLine_24 : decode cX9_takeLine 24 = .ok (.aload_n 0, 1) := by decide +kernel
theorem dX9_takeLine_25 : decode cX9_takeLine 25 = .ok (.iconst 0, 1) := by decide +kernel
theorem dX9_takeLine_26 : decode cX9_takeLine 26 = .ok (.iconst 1, 1) := by decide +kernel
theorem dX9_takeLine_27 : decode cX9_takeLine 27 = .ok (.aload_n 0, 1) := by decide +kernel
theorem dX9_takeLine_28 : decode cX9_takeLine 28 = .ok (.getfield 143, 3) := by decide +kernel
theorem dX9_takeLine_31 : decode cX9_takeLine 31 = .ok (.ishl, 1) := by decide +kernel
theorem dX9_takeLine_32 : decode cX9_takeLine 32 = .ok (.iconst 1, 1) := by decide +kernel
theorem dX9_takeLine_33 : decode cX9_takeLine 33 = .ok (.isub, 1) := by decide +kernel
theorem dX9_takeLine_34 : decode cX9_takeLine 34 = .ok (.invokevirtual 140, 3) := by decide +kernel
theorem dX9_takeLine_37 : decode cX9_takeLine 37 = .ok (.istore_n 1, 1) := by decide +kernel
theorem dX9_takeLine_38 : decode cX9_takeLine 38 = .ok (.aload_n 0, 1) := by decide +kernel
theorem dX9_takeLine_39 : decode cX9_takeLine 39 = .ok (.aload_n 0, 1) := by decide +kernel
theorem dX9_takeLine_40 : decode cX9_takeLine 40 = .ok (.getfield 137, 3) := by decide +kernel
theorem dX9_takeLine_43 : decode cX9_takeLine 43 = .ok (.putfield 146, 3) := by decide +kernel
theorem dX9_takeLine_46 : decode cX9_takeLine 46 = .ok (.iload_n 1, 1) := by decide +kernel
theorem dX9_takeLine_47 : decode cX9_takeLine 47 = .ok (.ireturn, 1) := by decide +kernel
theorem dX9_takeCoach_0 : decode cX9_takeCoach 0 = .ok (.aload_n 0, 1) := by decide +kernel
theorem dX9_takeCoach_1 : decode cX9_takeCoach 1 = .ok (.getfield 149, 3) := by decide +kernel
theorem dX9_takeCoach_4 : decode cX9_takeCoach 4 = .ok (.istore_n 1, 1) := by decide +kernel
theorem dX9_takeCoach_5 : decode cX9_takeCoach 5 = .ok (.aload_n 0, 1) := by decide +kernel
theorem dX9_takeCoach_6 : decode cX9_takeCoach 6 = .ok (.dup, 1) := by decide +kernel
theorem dX9_takeCoach_7 : decode cX9_takeCoach 7 = .ok (.getfield 149, 3) := by decide +kernel
theorem dX9_takeCoach_10 : decode cX9_takeCoach 10 = .ok (.iconst 1, 1) := by decide +kernel
theorem dX9_takeCoach_11 : decode cX9_takeCoach 11 = .ok (.iadd, 1) := by decide +kernel
theorem dX9_takeCoach_12 : decode cX9_takeCoach 12 = .ok (.putfield 149, 3) := by decide +kernel
theorem dX9_takeCoach_15 : decode cX9_takeCoach 15 = .ok (.aload_n 0, 1) := by decide +kernel
theorem dX9_takeCoach_16 : decode cX9_takeCoach 16 = .ok (.aload_n 0, 1) := by decide +kernel
theorem dX9_takeCoach_17 : decode cX9_takeCoach 17 = .ok (.getfield 44, 3) := by decide +kernel
theorem dX9_takeCoach_20 : decode cX9_takeCoach 20 = .ok (.iload_n 1, 1) := by decide +kernel
theorem dX9_takeCoach_21 : decode cX9_takeCoach 21 = .ok (.iconst 0, 1) := by decide +kernel
theorem dX9_takeCoach_22 : decode cX9_takeCoach 22 = .ok (.aload_n 0, 1) := by decide +kernel
theorem dX9_takeCoach_23 : decode cX9_takeCoach 23 = .ok (.getfield 143, 3) := by decide +kernel
theorem dX9_takeCoach_26 : decode cX9_takeCoach 26 = .ok (.iconst 1, 1) := by decide +kernel
theorem dX9_takeCoach_27 : decode cX9_takeCoach 27 = .ok (.isub, 1) := by decide +kernel
theorem dX9_takeCoach_28 : decode cX9_takeCoach 28 = .ok (.invokevirtual 152, 3) := by decide +kernel
theorem dX9_takeCoach_31 : decode cX9_takeCoach 31 = .ok (.istore_n 2, 1) := by decide +kernel
theorem dX9_takeCoach_32 : decode cX9_takeCoach 32 = .ok (.iload_n 2, 1) := by decide +kernel
theorem dX9_takeCoach_33 : decode cX9_takeCoach 33 = .ok (.ifCond .le 7, 3) := by decide +kernel
theorem dX9_takeCoach_36 : decode cX9_takeCoach 36 = .ok (.iload_n 2, 1) := by decide +kernel
theorem dX9_takeCoach_37 : decode cX9_takeCoach 37 = .ok (.goto 14, 3) := by decide +kernel
theorem dX9_takeCoach_40 : decode cX9_takeCoach 40 = .ok (.aload_n 0, 1) := by decide +kernel
theorem dX9_takeCoach_41 : decode cX9_takeCoach 41 = .ok (.aload_n 0, 1) := by decide +kernel
theorem dX9_takeCoach_42 : decode cX9_takeCoach 42 = .ok (.getfield 47, 3) := by decide +kernel
theorem dX9_takeCoach_45 : decode cX9_takeCoach 45 = .ok (.iload_n 1, 1) := by decide +kernel
theorem dX9_takeCoach_46 : decode cX9_takeCoach 46 = .ok (.iconst 0, 1) := by decide +kernel
theorem dX9_takeCoach_47 : decode cX9_takeCoach 47 = .ok (.iconst 1, 1) := by decide +kernel
theorem dX9_takeCoach_48 : decode cX9_takeCoach 48 = .ok (.invokevirtual 152, 3) := by decide +kernel
theorem dX9_takeCoach_51 : decode cX9_takeCoach 51 = .ok (.istore_n 2, 1) := by decide +kernel
theorem dX9_takeCoach_52 : decode cX9_takeCoach 52 = .ok (.iload_n 2, 1) := by decide +kernel
theorem dX9_takeCoach_53 : decode cX9_takeCoach 53 = .ok (.ifCond .le 7, 3) := by decide +kernel
theorem dX9_takeCoach_56 : decode cX9_takeCoach 56 = .ok (.iload_n 2, 1) := by decide +kernel
theorem dX9_takeCoach_57 : decode cX9_takeCoach 57 = .ok (.goto 15, 3) := by decide +kernel
theorem dX9_takeCoach_60 : decode cX9_takeCoach 60 = .ok (.aload_n 0, 1) := by decide +kernel
theorem dX9_takeCoach_61 : decode cX9_takeCoach 61 = .ok (.aload_n 0, 1) := by decide +kernel
theorem dX9_takeCoach_62 : decode cX9_takeCoach 62 = .ok (.getfield 50, 3) := by decide +kernel
theorem dX9_takeCoach_65 : decode cX9_takeCoach 65 = .ok (.iload_n 1, 1) := by decide +kernel
theorem dX9_takeCoach_66 : decode cX9_takeCoach 66 = .ok (.iconst 0, 1) := by decide +kernel
theorem dX9_takeCoach_67 : decode cX9_takeCoach 67 = .ok (.bipush 30, 2) := by decide +kernel
theorem dX9_takeCoach_69 : decode cX9_takeCoach 69 = .ok (.invokevirtual 152, 3) := by decide +kernel
theorem dX9_takeCoach_72 : decode cX9_takeCoach 72 = .ok (.ireturn, 1) := by decide +kernel
theorem dX9_takeBooking_0 : decode cX9_takeBooking 0 = .ok (.aload_n 0, 1) := by decide +kernel
theorem dX9_takeBooking_1 : decode cX9_takeBooking 1 = .ok (.iconst 0, 1) := by decide +kernel
theorem dX9_takeBooking_2 : decode cX9_takeBooking 2 = .ok (.bipush 9, 2) := by decide +kernel
theorem dX9_takeBooking_4 : decode cX9_takeBooking 4 = .ok (.invokevirtual 140, 3) := by decide +kernel
theorem dX9_takeBooking_7 : decode cX9_takeBooking 7 = .ok (.istore_n 2, 1) := by decide +kernel
theorem dX9_takeBooking_8 : decode cX9_takeBooking 8 = .ok (.iload_n 2, 1) := by decide +kernel
theorem dX9_takeBooking_9 : decode cX9_takeBooking 9 = .ok (.ifCond .le 5, 3) := by decide +kernel
theorem dX9_takeBooking_12 : decode cX9_takeBooking 12 = .ok (.iload_n 2, 1) := by decide +kernel
theorem dX9_takeBooking_13 : decode cX9_takeBooking 13 = .ok (.ireturn, 1) := by decide +kernel
theorem dX9_takeBooking_14 : decode cX9_takeBooking 14 = .ok (.aload_n 0, 1) := by decide +kernel
theorem dX9_takeBooking_15 : decode cX9_takeBooking 15 = .ok (.getfield 137, 3) := by decide +kernel
theorem dX9_takeBooking_18 : decode cX9_takeBooking 18 = .ok (.bipush 9, 2) := by decide +kernel
theorem dX9_takeBooking_20 : decode cX9_takeBooking 20 = .ok (.if_icmp .ge 24, 3) := by decide +kernel
theorem dX9_takeBooking_23 : decode cX9_takeBooking 23 = .ok (.aload_n 0, 1) := by decide +kernel
theorem dX9_takeBooking_24 : decode cX9_takeBooking 24 = .ok (.getfield 137, 3) := by decide +kernel
theorem dX9_takeBooking_27 : decode cX9_takeBooking 27 = .ok (.aload_n 0, 1) := by decide +kernel
theorem dX9_takeBooking_28 : decode cX9_takeBooking 28 = .ok (.getfield 149, 3) := by decide +kernel
theorem dX9_takeBooking_31 : decode cX9_takeBooking 31 = .ok (.if_icmp .lt 13, 3) := by decide +kernel
theorem dX9_takeBooking_34 : decode cX9_takeBooking 34 = .ok (.aload_n 0, 1) := by decide +kernel
theorem dX9_takeBooking_35 : decode cX9_takeBooking 35 = .ok (.iconst 2, 1) := by decide +kernel
theorem dX9_takeBooking_36 : decode cX9_takeBooking 36 = .ok (.aload_n 0, 1) := by decide +kernel
theorem dX9_takeBooking_37 : decode cX9_takeBooking 37 = .ok (.getfield 134, 3) := by decide +kernel
theorem dX9_takeBooking_40 : decode cX9_takeBooking 40 = .ok (.invokevirtual 130, 3) := by decide +kernel
theorem dX9_takeBooking_43 : decode cX9_takeBooking 43 = .ok (.ireturn, 1) := by decide +kernel
theorem dX9_takeBooking_44 : decode cX9_takeBooking 44 = .ok (.aload_n 0, 1) := by decide +kernel
theorem dX9_takeBooking_45 : decode cX9_takeBooking 45 = .ok (.getfield 65, 3) := by decide +kernel
theorem dX9_takeBooking_48 : decode cX9_takeBooking 48 = .ok (.iload_n 1, 1) := by decide +kernel
theorem dX9_takeBooking_49 : decode cX9_takeBooking 49 = .ok (.aload_n 0, 1) := by decide +kernel
theorem dX9_takeBooking_50 : decode cX9_takeBooking 50 = .ok (.getfield 137, 3) := by decide +kernel
theorem dX9_takeBooking_53 : decode cX9_takeBooking 53 = .ok (.bipush 9, 2) := by decide +kernel
theorem dX9_takeBooking_55 : decode cX9_takeBooking 55 = .ok (.if_icmp .ne 7, 3) := by decide +kernel
theorem dX9_takeBooking_58 : decode cX9_takeBooking 58 = .ok (.iconst (-1), 1) := by decide +kernel
theorem dX9_takeBooking_59 : decode cX9_takeBooking 59 = .ok (.goto 7, 3) := by decide +kernel
theorem dX9_takeBooking_62 : decode cX9_takeBooking 62 = .ok (.aload_n 0, 1) := by decide +kernel
theorem dX9_takeBooking_63 : decode cX9_takeBooking 63 = .ok (.getfield 137, 3) := by decide +kernel
theorem dX9_takeBooking_66 : decode cX9_takeBooking 66 = .ok (.iastore, 1) := by decide +kernel
theorem dX9_takeBooking_67 : decode cX9_takeBooking 67 = .ok (.iconst 0, 1) := by decide +kernel
theorem dX9_takeBooking_68 : decode cX9_takeBooking 68 = .ok (.ireturn, 1) := by decide +kernel
theorem dX9_takePassenger_0 : decode cX9_takePassenger 0 = .ok (.aload_n 0, 1) := by decide +kernel
theorem dX9_takePassenger_1 : decode cX9_takePassenger 1 = .ok (.getfield 156, 3) := by decide +kernel
theorem dX9_takePassenger_4 : decode cX9_takePassenger 4 = .ok (.istore_n 1, 1) := by decide +kernel
theorem dX9_takePassenger_5 : decode cX9_takePassenger 5 = .ok (.aload_n 0, 1) := by decide +kernel
theorem dX9_takePassenger_6 : decode cX9_takePassenger 6 = .ok (.dup, 1) := by decide +kernel
theorem dX9_takePassenger_7 : decode cX9_takePassenger 7 = .ok (.getfield 156, 3) := by decide +kernel
theorem dX9_takePassenger_10 : decode cX9_takePassenger 10 = .ok (.iconst 1, 1) := by decide +kernel
theorem dX9_takePassenger_11 : decode cX9_takePassenger 11 = .ok (.iadd, 1) := by decide +kernel
theorem dX9_takePassenger_12 : decode cX9_takePassenger 12 = .ok (.putfield 156, 3) := by decide +kernel
theorem dX9_takePassenger_15 : decode cX9_takePassenger 15 = .ok (.aload_n 0, 1) := by decide +kernel
theorem dX9_takePassenger_16 : decode cX9_takePassenger 16 = .ok (.aload_n 0, 1) := by decide +kernel
theorem dX9_takePassenger_17 : decode cX9_takePassenger 17 = .ok (.getfield 53, 3) := by decide +kernel
theorem dX9_takePassenger_20 : decode cX9_takePassenger 20 = .ok (.iload_n 1, 1) := by decide +kernel
theorem dX9_takePassenger_21 : decode cX9_takePassenger 21 = .ok (.iconst 0, 1) := by decide +kernel
theorem dX9_takePassenger_22 : decode cX9_takePassenger 22 = .ok (.iconst 3, 1) := by decide +kernel
theorem dX9_takePassenger_23 : decode cX9_takePassenger 23 = .ok (.invokevirtual 152, 3) := by decide +kernel
theorem dX9_takePassenger_26 : decode cX9_takePassenger 26 = .ok (.istore_n 2, 1) := by decide +kernel
theorem dX9_takePassenger_27 : decode cX9_takePassenger 27 = .ok (.iload_n 2, 1) := by decide +kernel
theorem dX9_takePassenger_28 : decode cX9_takePassenger 28 = .ok (.ifCond .le 7, 3) := by decide +kernel
theorem dX9_takePassenger_31 : decode cX9_takePassenger 31 = .ok (.iload_n 2, 1) := by decide +kernel
theorem dX9_takePassenger_32 : decode cX9_takePassenger 32 = .ok (.goto 19, 3) := by decide +kernel
theorem dX9_takePassenger_35 : decode cX9_takePassenger 35 = .ok (.aload_n 0, 1) := by decide +kernel
theorem dX9_takePassenger_36 : decode cX9_takePassenger 36 = .ok (.aload_n 0, 1) := by decide +kernel
theorem dX9_takePassenger_37 : decode cX9_takePassenger 37 = .ok (.getfield 56, 3) := by decide +kernel
theorem dX9_takePassenger_40 : decode cX9_takePassenger 40 = .ok (.iload_n 1, 1) := by decide +kernel
theorem dX9_takePassenger_41 : decode cX9_takePassenger 41 = .ok (.iconst 0, 1) := by decide +kernel
theorem dX9_takePassenger_42 : decode cX9_takePassenger 42 = .ok (.aload_n 0, 1) := by decide +kernel
theorem dX9_takePassenger_43 : decode cX9_takePassenger 43 = .ok (.getfield 143, 3) := by decide +kernel
theorem dX9_takePassenger_46 : decode cX9_takePassenger 46 = .ok (.iconst 1, 1) := by decide +kernel
theorem dX9_takePassenger_47 : decode cX9_takePassenger 47 = .ok (.isub, 1) := by decide +kernel
theorem dX9_takePassenger_48 : decode cX9_takePassenger 48 = .ok (.invokevirtual 152, 3) := by decide +kernel
theorem dX9_takePassenger_51 : decode cX9_takePassenger 51 = .ok (.istore_n 2, 1) := by decide +kernel
theorem dX9_takePassenger_52 : decode cX9_takePassenger 52 = .ok (.iload_n 2, 1) := by decide +kernel
theorem dX9_takePassenger_53 : decode cX9_takePassenger 53 = .ok (.ifCond .le 7, 3) := by decide +kernel
theorem dX9_takePassenger_56 : decode cX9_takePassenger 56 = .ok (.iload_n 2, 1) := by decide +kernel
theorem dX9_takePassenger_57 : decode cX9_takePassenger 57 = .ok (.goto 15, 3) := by decide +kernel
theorem dX9_takePassenger_60 : decode cX9_takePassenger 60 = .ok (.aload_n 0, 1) := by decide +kernel
theorem dX9_takePassenger_61 : decode cX9_takePassenger 61 = .ok (.aload_n 0, 1) := by decide +kernel
theorem dX9_takePassenger_62 : decode cX9_takePassenger 62 = .ok (.getfield 59, 3) := by decide +kernel
theorem dX9_takePassenger_65 : decode cX9_takePassenger 65 = .ok (.iload_n 1, 1) := by decide +kernel
theorem dX9_takePassenger_66 : decode cX9_takePassenger 66 = .ok (.iconst 0, 1) := by decide +kernel
theorem dX9_takePassenger_67 : decode cX9_takePassenger 67 = .ok (.bipush 30, 2) := by decide +kernel
theorem dX9_takePassenger_69 : decode cX9_takePassenger 69 = .ok (.invokevirtual 152, 3) := by decide +kernel
theorem dX9_takePassenger_72 : decode cX9_takePassenger 72 = .ok (.istore_n 2, 1) := by decide +kernel
theorem dX9_takePassenger_73 : decode cX9_takePassenger 73 = .ok (.iload_n 2, 1) := by decide +kernel
theorem dX9_takePassenger_74 : decode cX9_takePassenger 74 = .ok (.ifCond .le 7, 3) := by decide +kernel
theorem dX9_takePassenger_77 : decode cX9_takePassenger 77 = .ok (.iload_n 2, 1) := by decide +kernel
theorem dX9_takePassenger_78 : decode cX9_takePassenger 78 = .ok (.goto 19, 3) := by decide +kernel
theorem dX9_takePassenger_81 : decode cX9_takePassenger 81 = .ok (.aload_n 0, 1) := by decide +kernel
theorem dX9_takePassenger_82 : decode cX9_takePassenger 82 = .ok (.aload_n 0, 1) := by decide +kernel
theorem dX9_takePassenger_83 : decode cX9_takePassenger 83 = .ok (.getfield 62, 3) := by decide +kernel
theorem dX9_takePassenger_86 : decode cX9_takePassenger 86 = .ok (.iload_n 1, 1) := by decide +kernel
theorem dX9_takePassenger_87 : decode cX9_takePassenger 87 = .ok (.iconst 0, 1) := by decide +kernel
theorem dX9_takePassenger_88 : decode cX9_takePassenger 88 = .ok (.aload_n 0, 1) := by decide +kernel
theorem dX9_takePassenger_89 : decode cX9_takePassenger 89 = .ok (.getfield 143, 3) := by decide +kernel
theorem dX9_takePassenger_92 : decode cX9_takePassenger 92 = .ok (.iconst 1, 1) := by decide +kernel
theorem dX9_takePassenger_93 : decode cX9_takePassenger 93 = .ok (.isub, 1) := by decide +kernel
theorem dX9_takePassenger_94 : decode cX9_takePassenger 94 = .ok (.invokevirtual 152, 3) := by decide +kernel
theorem dX9_takePassenger_97 : decode cX9_takePassenger 97 = .ok (.istore_n 2, 1) := by decide +kernel
theorem dX9_takePassenger_98 : decode cX9_takePassenger 98 = .ok (.iload_n 2, 1) := by decide +kernel
theorem dX9_takePassenger_99 : decode cX9_takePassenger 99 = .ok (.ifCond .le 7, 3) := by decide +kernel
theorem dX9_takePassenger_102 : decode cX9_takePassenger 102 = .ok (.iload_n 2, 1) := by decide +kernel
theorem dX9_takePassenger_103 : decode cX9_takePassenger 103 = .ok (.goto 8, 3) := by decide +kernel
theorem dX9_takePassenger_106 : decode cX9_takePassenger 106 = .ok (.aload_n 0, 1) := by decide +kernel
theorem dX9_takePassenger_107 : decode cX9_takePassenger 107 = .ok (.iload_n 1, 1) := by decide +kernel
theorem dX9_takePassenger_108 : decode cX9_takePassenger 108 = .ok (.invokevirtual 159, 3) := by decide +kernel
theorem dX9_takePassenger_111 : decode cX9_takePassenger 111 = .ok (.ireturn, 1) := by decide +kernel
theorem dX9_takeClause_0 : decode cX9_takeClause 0 = .ok (.aload_n 0, 1) := by decide +kernel
theorem dX9_takeClause_1 : decode cX9_takeClause 1 = .ok (.invokevirtual 122, 3) := by decide +kernel
theorem dX9_takeClause_4 : decode cX9_takeClause 4 = .ok (.istore_n 1, 1) := by decide +kernel
theorem dX9_takeClause_5 : decode cX9_takeClause 5 = .ok (.iload_n 1, 1) := by decide +kernel
theorem dX9_takeClause_6 : decode cX9_takeClause 6 = .ok (.bipush 108, 2) := by decide +kernel
theorem dX9_takeClause_8 : decode cX9_takeClause 8 = .ok (.if_icmp .ne 7, 3) := by decide +kernel
theorem dX9_takeClause_11 : decode cX9_takeClause 11 = .ok (.iconst 0, 1) := by decide +kernel
theorem dX9_takeClause_12 : decode cX9_takeClause 12 = .ok (.goto 24, 3) := by decide +kernel
theorem dX9_takeClause_15 : decode cX9_takeClause 15 = .ok (.iload_n 1, 1) := by decide +kernel
theorem dX9_takeClause_16 : decode cX9_takeClause 16 = .ok (.bipush 99, 2) := by decide +kernel
theorem dX9_takeClause_18 : decode cX9_takeClause 18 = .ok (.if_icmp .ne 7, 3) := by decide +kernel
theorem dX9_takeClause_21 : decode cX9_takeClause 21 = .ok (.iconst 1, 1) := by decide +kernel
theorem dX9_takeClause_22 : decode cX9_takeClause 22 = .ok (.goto 14, 3) := by decide +kernel
theorem dX9_takeClause_25 : decode cX9_takeClause 25 = .ok (.iload_n 1, 1) := by decide +kernel
theorem dX9_takeClause_26 : decode cX9_takeClause 26 = .ok (.bipush 112, 2) := by decide +kernel
theorem dX9_takeClause_28 : decode cX9_takeClause 28 = .ok (.if_icmp .ne 7, 3) := by decide +kernel
theorem dX9_takeClause_31 : decode cX9_takeClause 31 = .ok (.iconst 2, 1) := by decide +kernel
theorem dX9_takeClause_32 : decode cX9_takeClause 32 = .ok (.goto 4, 3) := by decide +kernel
theorem dX9_takeClause_35 : decode cX9_takeClause 35 = .ok (.iconst (-1), 1) := by decide +kernel
theorem dX9_takeClause_36 : decode cX9_takeClause 36 = .ok (.istore_n 2, 1) := by decide +kernel
theorem dX9_takeClause_37 : decode cX9_takeClause 37 = .ok (.iload_n 2, 1) := by decide +kernel
theorem dX9_takeClause_38 : decode cX9_takeClause 38 = .ok (.ifCond .lt 14, 3) := by decide +kernel
theorem dX9_takeClause_41 : decode cX9_takeClause 41 = .ok (.iload_n 2, 1) := by decide +kernel
theorem dX9_takeClause_42 : decode cX9_takeClause 42 = .ok (.ifCond .le 20, 3) := by decide +kernel
theorem dX9_takeClause_45 : decode cX9_takeClause 45 = .ok (.aload_n 0, 1) := by decide +kernel
theorem dX9_takeClause_46 : decode cX9_takeClause 46 = .ok (.getfield 143, 3) := by decide +kernel
theorem dX9_takeClause_49 : decode cX9_takeClause 49 = .ok (.ifCond .ne 13, 3) := by decide +kernel
theorem dX9_takeClause_52 : decode cX9_takeClause 52 = .ok (.aload_n 0, 1) := by decide +kernel
theorem dX9_takeClause_53 : decode cX9_takeClause 53 = .ok (.iconst 1, 1) := by decide +kernel
theorem dX9_takeClause_54 : decode cX9_takeClause 54 = .ok (.aload_n 0, 1) := by decide +kernel
theorem dX9_takeClause_55 : decode cX9_takeClause 55 = .ok (.getfield 119, 3) := by decide +kernel
theorem dX9_takeClause_58 : decode cX9_takeClause 58 = .ok (.invokevirtual 130, 3) := by decide +kernel
theorem dX9_takeClause_61 : decode cX9_takeClause 61 = .ok (.ireturn, 1) := by decide +kernel
theorem dX9_takeClause_62 : decode cX9_takeClause 62 = .ok (.iload_n 2, 1) := by decide +kernel
theorem dX9_takeClause_63 : decode cX9_takeClause 63 = .ok (.ifCond .ne 18, 3) := by decide +kernel
theorem dX9_takeClause_66 : decode cX9_takeClause 66 = .ok (.aload_n 0, 1) := by decide +kernel
theorem dX9_takeClause_67 : decode cX9_takeClause 67 = .ok (.getfield 143, 3) := by decide +kernel
theorem dX9_takeClause_70 : decode cX9_takeClause 70 = .ok (.ifCond .le 7, 3) := by decide +kernel
theorem dX9_takeClause_73 : decode cX9_takeClause 73 = .ok (.iconst 1, 1) := by decide +kernel
theorem dX9_takeClause_74 : decode cX9_takeClause 74 = .ok (.goto 42, 3) := by decide +kernel
theorem dX9_takeClause_77 : decode cX9_takeClause 77 = .ok (.iconst 0, 1) := by decide +kernel
theorem dX9_takeClause_78 : decode cX9_takeClause 78 = .ok (.goto 38, 3) := by decide +kernel
theorem dX9_takeClause_81 : decode cX9_takeClause 81 = .ok (.iload_n 2, 1) := by decide +kernel
theorem dX9_takeClause_82 : decode cX9_takeClause 82 = .ok (.iconst 1, 1) := by decide +kernel
theorem dX9_takeClause_83 : decode cX9_takeClause 83 = .ok (.if_icmp .ne 19, 3) := by decide +kernel
theorem dX9_takeClause_86 : decode cX9_takeClause 86 = .ok (.aload_n 0, 1) := by decide +kernel
theorem dX9_takeClause_87 : decode cX9_takeClause 87 = .ok (.getfield 149, 3) := by decide +kernel
theorem dX9_takeClause_90 : decode cX9_takeClause 90 = .ok (.iconst 4, 1) := by decide +kernel
theorem dX9_takeClause_91 : decode cX9_takeClause 91 = .ok (.if_icmp .ne 7, 3) := by decide +kernel
theorem dX9_takeClause_94 : decode cX9_takeClause 94 = .ok (.iconst 1, 1) := by decide +kernel
theorem dX9_takeClause_95 : decode cX9_takeClause 95 = .ok (.goto 21, 3) := by decide +kernel
theorem dX9_takeClause_98 : decode cX9_takeClause 98 = .ok (.iconst 0, 1) := by decide +kernel
theorem dX9_takeClause_99 : decode cX9_takeClause 99 = .ok (.goto 17, 3) := by decide +kernel
theorem dX9_takeClause_102 : decode cX9_takeClause 102 = .ok (.aload_n 0, 1) := by decide +kernel
theorem dX9_takeClause_103 : decode cX9_takeClause 103 = .ok (.getfield 156, 3) := by decide +kernel
theorem dX9_takeClause_106 : decode cX9_takeClause 106 = .ok (.bipush 7, 2) := by decide +kernel
theorem dX9_takeClause_108 : decode cX9_takeClause 108 = .ok (.if_icmp .ne 7, 3) := by decide +kernel
theorem dX9_takeClause_111 : decode cX9_takeClause 111 = .ok (.iconst 1, 1) := by decide +kernel
theorem dX9_takeClause_112 : decode cX9_takeClause 112 = .ok (.goto 4, 3) := by decide +kernel
theorem dX9_takeClause_115 : decode cX9_takeClause 115 = .ok (.iconst 0, 1) := by decide +kernel
theorem dX9_takeClause_116 : decode cX9_takeClause 116 = .ok (.istore_n 3, 1) := by decide +kernel
theorem dX9_takeClause_117 : decode cX9_takeClause 117 = .ok (.iload_n 3, 1) := by decide +kernel
theorem dX9_takeClause_118 : decode cX9_takeClause 118 = .ok (.ifCond .eq 13, 3) := by decide +kernel
theorem dX9_takeClause_121 : decode cX9_takeClause 121 = .ok (.aload_n 0, 1) := by decide +kernel
theorem dX9_takeClause_122 : decode cX9_takeClause 122 = .ok (.iconst 3, 1) := by decide +kernel
theorem dX9_takeClause_123 : decode cX9_takeClause 123 = .ok (.aload_n 0, 1) := by decide +kernel
theorem dX9_takeClause_124 : decode cX9_takeClause 124 = .ok (.getfield 119, 3) := by decide +kernel
theorem dX9_takeClause_127 : decode cX9_takeClause 127 = .ok (.invokevirtual 130, 3) := by decide +kernel
theorem dX9_takeClause_130 : decode cX9_takeClause 130 = .ok (.ireturn, 1) := by decide +kernel
theorem dX9_takeClause_131 : decode cX9_takeClause 131 = .ok (.aload_n 0, 1) := by decide +kernel
theorem dX9_takeClause_132 : decode cX9_takeClause 132 = .ok (.dup, 1) := by decide +kernel
theorem dX9_takeClause_133 : decode cX9_takeClause 133 = .ok (.getfield 119, 3) := by decide +kernel
theorem dX9_takeClause_136 : decode cX9_takeClause 136 = .ok (.iconst 1, 1) := by decide +kernel
theorem dX9_takeClause_137 : decode cX9_takeClause 137 = .ok (.iadd, 1) := by decide +kernel
theorem dX9_takeClause_138 : decode cX9_takeClause 138 = .ok (.putfield 119, 3) := by decide +kernel
theorem dX9_takeClause_141 : decode cX9_takeClause 141 = .ok (.iload_n 2, 1) := by decide +kernel
theorem dX9_takeClause_142 : decode cX9_takeClause 142 = .ok (.ifCond .ne 10, 3) := by decide +kernel
theorem dX9_takeClause_145 : decode cX9_takeClause 145 = .ok (.aload_n 0, 1) := by decide +kernel
theorem dX9_takeClause_146 : decode cX9_takeClause 146 = .ok (.invokevirtual 163, 3) := by decide +kernel
theorem dX9_takeClause_149 : decode cX9_takeClause 149 = .ok (.goto 19, 3) := by decide +kernel
theorem dX9_takeClause_152 : decode cX9_takeClause 152 = .ok (.iload_n 2, 1) := by decide +kernel
theorem dX9_takeClause_153 : decode cX9_takeClause 153 = .ok (.iconst 1, 1) := by decide +kernel
theorem dX9_takeClause_154 : decode cX9_takeClause 154 = .ok (.if_icmp .ne 10, 3) := by decide +kernel
theorem dX9_takeClause_157 : decode cX9_takeClause 157 = .ok (.aload_n 0, 1) := by decide +kernel
theorem dX9_takeClause_158 : decode cX9_takeClause 158 = .ok (.invokevirtual 166, 3) := by decide +kernel
theorem dX9_takeClause_161 : decode cX9_takeClause 161 = .ok (.goto 7, 3) := by decide +kernel
theorem dX9_takeClause_164 : decode cX9_takeClause 164 = .ok (.aload_n 0, 1) := by decide +kernel
theorem dX9_takeClause_165 : decode cX9_takeClause 165 = .ok (.invokevirtual 169, 3) := by decide +kernel
theorem dX9_takeClause_168 : decode cX9_takeClause 168 = .ok (.istore 4, 2) := by decide +kernel
theorem dX9_takeClause_170 : decode cX9_takeClause 170 = .ok (.iload 4, 2) := by decide +kernel
theorem dX9_takeClause_172 : decode cX9_takeClause 172 = .ok (.ifCond .ne 22, 3) := by decide +kernel
theorem dX9_takeClause_175 : decode cX9_takeClause 175 = .ok (.aload_n 0, 1) := by decide +kernel
theorem dX9_takeClause_176 : decode cX9_takeClause 176 = .ok (.invokevirtual 122, 3) := by decide +kernel
theorem dX9_takeClause_179 : decode cX9_takeClause 179 = .ok (.bipush 59, 2) := by decide +kernel
theorem dX9_takeClause_181 : decode cX9_takeClause 181 = .ok (.if_icmp .eq 13, 3) := by decide +kernel
theorem dX9_takeClause_184 : decode cX9_takeClause 184 = .ok (.aload_n 0, 1) := by decide +kernel
theorem dX9_takeClause_185 : decode cX9_takeClause 185 = .ok (.iconst 1, 1) := by decide +kernel
theorem dX9_takeClause_186 : decode cX9_takeClause 186 = .ok (.aload_n 0, 1) := by decide +kernel
theorem dX9_takeClause_187 : decode cX9_takeClause 187 = .ok (.getfield 119, 3) := by decide +kernel
theorem dX9_takeClause_190 : decode cX9_takeClause 190 = .ok (.invokevirtual 130, 3) := by decide +kernel
theorem dX9_takeClause_193 : decode cX9_takeClause 193 = .ok (.ireturn, 1) := by decide +kernel
theorem dX9_takeClause_194 : decode cX9_takeClause 194 = .ok (.aload_n 0, 1) := by decide +kernel
theorem dX9_takeClause_195 : decode cX9_takeClause 195 = .ok (.dup, 1) := by decide +kernel
theorem dX9_takeClause_196 : decode cX9_takeClause 196 = .ok (.getfield 119, 3) := by decide +kernel
theorem dX9_takeClause_199 : decode cX9_takeClause 199 = .ok (.iconst 1, 1) := by decide +kernel
theorem dX9_takeClause_200 : decode cX9_takeClause 200 = .ok (.iadd, 1) := by decide +kernel
theorem dX9_takeClause_201 : decode cX9_takeClause 201 = .ok (.putfield 119, 3) := by decide +kernel
theorem dX9_takeClause_204 : decode cX9_takeClause 204 = .ok (.iload 4, 2) := by decide +kernel
theorem dX9_takeClause_206 : decode cX9_takeClause 206 = .ok (.ireturn, 1) := by decide +kernel
theorem dX9_copyRow_0 : decode cX9_copyRow 0 = .ok (.iconst 0, 1) := by decide +kernel
theorem dX9_copyRow_1 : decode cX9_copyRow 1 = .ok (.istore_n 3, 1) := by decide +kernel
theorem dX9_copyRow_2 : decode cX9_copyRow 2 = .ok (.iload_n 3, 1) := by decide +kernel
theorem dX9_copyRow_3 : decode cX9_copyRow 3 = .ok (.iload_n 2, 1) := by decide +kernel
theorem dX9_copyRow_4 : decode cX9_copyRow 4 = .ok (.if_icmp .ge 15, 3) := by decide +kernel
theorem dX9_copyRow_7 : decode cX9_copyRow 7 = .ok (.aload_n 1, 1) := by decide +kernel
theorem dX9_copyRow_8 : decode cX9_copyRow 8 = .ok (.iload_n 3, 1) := by decide +kernel
theorem dX9_copyRow_9 : decode cX9_copyRow 9 = .ok (.aload_n 0, 1) := by decide +kernel
theorem dX9_copyRow_10 : decode cX9_copyRow 10 = .ok (.iload_n 3, 1) := by decide +kernel
theorem dX9_copyRow_11 : decode cX9_copyRow 11 = .ok (.iaload, 1) := by decide +kernel
theorem dX9_copyRow_12 : decode cX9_copyRow 12 = .ok (.iastore, 1) := by decide +kernel
theorem dX9_copyRow_13 : decode cX9_copyRow 13 = .ok (.iinc 3 1, 3) := by decide +kernel
theorem dX9_copyRow_16 : decode cX9_copyRow 16 = .ok (.goto (-14), 3) := by decide +kernel
theorem dX9_copyRow_19 : decode cX9_copyRow 19 = .ok (.return_, 1) := by decide +kernel
theorem dX9_beginAll_0 : decode cX9_beginAll 0 = .ok (.iconst 0, 1) := by decide +kernel
theorem dX9_beginAll_1 : decode cX9_beginAll 1 = .ok (.istore_n 1, 1) := by decide +kernel
theorem dX9_beginAll_2 : decode cX9_beginAll 2 = .ok (.iload_n 1, 1) := by decide +kernel
theorem dX9_beginAll_3 : decode cX9_beginAll 3 = .ok (.bipush 74, 2) := by decide +kernel
theorem dX9_beginAll_5 : decode cX9_beginAll 5 = .ok (.if_icmp .ge 16, 3) := by decide +kernel
theorem dX9_beginAll_8 : decode cX9_beginAll 8 = .ok (.aload_n 0, 1) := by decide +kernel
theorem dX9_beginAll_9 : decode cX9_beginAll 9 = .ok (.getfield 34, 3) := by decide +kernel
theorem dX9_beginAll_12 : decode cX9_beginAll 12 = .ok (.iload_n 1, 1) := by decide +kernel
theorem dX9_beginAll_13 : decode cX9_beginAll 13 = .ok (.iconst 0, 1) := by decide +kernel
theorem dX9_beginAll_14 : decode cX9_beginAll 14 = .ok (.iastore, 1) := by decide +kernel
theorem dX9_beginAll_15 : decode cX9_beginAll 15 = .ok (.iinc 1 1, 3) := by decide +kernel
theorem dX9_beginAll_18 : decode cX9_beginAll 18 = .ok (.goto (-16), 3) := by decide +kernel
theorem dX9_beginAll_21 : decode cX9_beginAll 21 = .ok (.iconst 0, 1) := by decide +kernel
theorem dX9_beginAll_22 : decode cX9_beginAll 22 = .ok (.istore_n 1, 1) := by decide +kernel
theorem dX9_beginAll_23 : decode cX9_beginAll 23 = .ok (.iload_n 1, 1) := by decide +kernel
theorem dX9_beginAll_24 : decode cX9_beginAll 24 = .ok (.iconst 4, 1) := by decide +kernel
theorem dX9_beginAll_25 : decode cX9_beginAll 25 = .ok (.if_icmp .ge 19, 3) := by decide +kernel
theorem dX9_beginAll_28 : decode cX9_beginAll 28 = .ok (.aload_n 0, 1) := by decide +kernel
theorem dX9_beginAll_29 : decode cX9_beginAll 29 = .ok (.getfield 34, 3) := by decide +kernel
theorem dX9_beginAll_32 : decode cX9_beginAll 32 = .ok (.bipush 12, 2) := by decide +kernel
theorem dX9_beginAll_34 : decode cX9_beginAll 34 = .ok (.iload_n 1, 1) := by decide +kernel
theorem dX9_beginAll_35 : decode cX9_beginAll 35 = .ok (.iadd, 1) := by decide +kernel
theorem dX9_beginAll_36 : decode cX9_beginAll 36 = .ok (.iconst (-1), 1) := by decide +kernel
theorem dX9_beginAll_37 : decode cX9_beginAll 37 = .ok (.iastore, 1) := by decide +kernel
theorem dX9_beginAll_38 : decode cX9_beginAll 38 = .ok (.iinc 1 1, 3) := by decide +kernel
theorem dX9_beginAll_41 : decode cX9_beginAll 41 = .ok (.goto (-18), 3) := by decide +kernel
theorem dX9_beginAll_44 : decode cX9_beginAll 44 = .ok (.iconst 0, 1) := by decide +kernel
theorem dX9_beginAll_45 : decode cX9_beginAll 45 = .ok (.istore_n 1, 1) := by decide +kernel
theorem dX9_beginAll_46 : decode cX9_beginAll 46 = .ok (.iload_n 1, 1) := by decide +kernel
theorem dX9_beginAll_47 : decode cX9_beginAll 47 = .ok (.bipush 7, 2) := by decide +kernel
theorem dX9_beginAll_49 : decode cX9_beginAll 49 = .ok (.if_icmp .ge 39, 3) := by decide +kernel
theorem dX9_beginAll_52 : decode cX9_beginAll 52 = .ok (.aload_n 0, 1) := by decide +kernel
theorem dX9_beginAll_53 : decode cX9_beginAll 53 = .ok (.getfield 34, 3) := by decide +kernel
theorem dX9_beginAll_56 : decode cX9_beginAll 56 = .ok (.bipush 16, 2) := by decide +kernel
theorem dX9_beginAll_58 : decode cX9_beginAll 58 = .ok (.iload_n 1, 1) := by decide +kernel
theorem dX9_beginAll_59 : decode cX9_beginAll 59 = .ok (.iadd, 1) := by decide +kernel
theorem dX9_beginAll_60 : decode cX9_beginAll 60 = .ok (.iconst (-1), 1) := by decide +kernel
theorem dX9_beginAll_61 : decode cX9_beginAll 61 = .ok (.iastore, 1) := by decide +kernel
theorem dX9_beginAll_62 : decode cX9_beginAll 62 = .ok (.aload_n 0, 1) := by decide +kernel
theorem dX9_beginAll_63 : decode cX9_beginAll 63 = .ok (.getfield 34, 3) := by decide +kernel
theorem dX9_beginAll_66 : decode cX9_beginAll 66 = .ok (.bipush 23, 2) := by decide +kernel
theorem dX9_beginAll_68 : decode cX9_beginAll 68 = .ok (.iload_n 1, 1) := by decide +kernel
theorem dX9_beginAll_69 : decode cX9_beginAll 69 = .ok (.iadd, 1) := by decide +kernel
theorem dX9_beginAll_70 : decode cX9_beginAll 70 = .ok (.iconst (-1), 1) := by decide +kernel
theorem dX9_beginAll_71 : decode cX9_beginAll 71 = .ok (.iastore, 1) := by decide +kernel
theorem dX9_beginAll_72 : decode cX9_beginAll 72 = .ok (.aload_n 0, 1) := by decide +kernel
theorem dX9_beginAll_73 : decode cX9_beginAll 73 = .ok (.getfield 34, 3) := by decide +kernel
theorem dX9_beginAll_76 : decode cX9_beginAll 76 = .ok (.bipush 37, 2) := by decide +kernel
theorem dX9_beginAll_78 : decode cX9_beginAll 78 = .ok (.iload_n 1, 1) := by decide +kernel
theorem dX9_beginAll_79 : decode cX9_beginAll 79 = .ok (.iadd, 1) := by decide +kernel
theorem dX9_beginAll_80 : decode cX9_beginAll 80 = .ok (.iconst (-1), 1) := by decide +kernel
theorem dX9_beginAll_81 : decode cX9_beginAll 81 = .ok (.iastore, 1) := by decide +kernel
theorem dX9_beginAll_82 : decode cX9_beginAll 82 = .ok (.iinc 1 1, 3) := by decide +kernel
theorem dX9_beginAll_85 : decode cX9_beginAll 85 = .ok (.goto (-39), 3) := by decide +kernel
theorem dX9_beginAll_88 : decode cX9_beginAll 88 = .ok (.iconst 0, 1) := by decide +kernel
theorem dX9_beginAll_89 : decode cX9_beginAll 89 = .ok (.istore_n 1, 1) := by decide +kernel
theorem dX9_beginAll_90 : decode cX9_beginAll 90 = .ok (.iload_n 1, 1) := by decide +kernel
theorem dX9_beginAll_91 : decode cX9_beginAll 91 = .ok (.aload_n 0, 1) := by decide +kernel
theorem dX9_beginAll_92 : decode cX9_beginAll 92 = .ok (.getfield 102, 3) := by decide +kernel
theorem dX9_beginAll_95 : decode cX9_beginAll 95 = .ok (.if_icmp .ge 50, 3) := by decide +kernel
theorem dX9_beginAll_98 : decode cX9_beginAll 98 = .ok (.aload_n 0, 1) := by decide +kernel
theorem dX9_beginAll_99 : decode cX9_beginAll 99 = .ok (.getfield 34, 3) := by decide +kernel
theorem dX9_beginAll_102 : decode cX9_beginAll 102 = .ok (.iload_n 1, 1) := by decide +kernel
theorem dX9_beginAll_103 : decode cX9_beginAll 103 = .ok (.aload_n 0, 1) := by decide +kernel
theorem dX9_beginAll_104 : decode cX9_beginAll 104 = .ok (.getfield 7, 3) := by decide +kernel
theorem dX9_beginAll_107 : decode cX9_beginAll 107 = .ok (.iload_n 1, 1) := by decide +kernel
theorem dX9_beginAll_108 : decode cX9_beginAll 108 = .ok (.iaload, 1) := by decide +kernel
theorem dX9_beginAll_109 : decode cX9_beginAll 109 = .ok (.iastore, 1) := by decide +kernel
theorem dX9_beginAll_110 : decode cX9_beginAll 110 = .ok (.aload_n 0, 1) := by decide +kernel
theorem dX9_beginAll_111 : decode cX9_beginAll 111 = .ok (.getfield 34, 3) := by decide +kernel
theorem dX9_beginAll_114 : decode cX9_beginAll 114 = .ok (.iconst 4, 1) := by decide +kernel
theorem dX9_beginAll_115 : decode cX9_beginAll 115 = .ok (.iload_n 1, 1) := by decide +kernel
theorem dX9_beginAll_116 : decode cX9_beginAll 116 = .ok (.iadd, 1) := by decide +kernel
theorem dX9_beginAll_117 : decode cX9_beginAll 117 = .ok (.aload_n 0, 1) := by decide +kernel
theorem dX9_beginAll_118 : decode cX9_beginAll 118 = .ok (.getfield 13, 3) := by decide +kernel
theorem dX9_beginAll_121 : decode cX9_beginAll 121 = .ok (.iload_n 1, 1) := by decide +kernel
theorem dX9_beginAll_122 : decode cX9_beginAll 122 = .ok (.iaload, 1) := by decide +kernel
theorem dX9_beginAll_123 : decode cX9_beginAll 123 = .ok (.iastore, 1) := by decide +kernel
theorem dX9_beginAll_124 : decode cX9_beginAll 124 = .ok (.aload_n 0, 1) := by decide +kernel
theorem dX9_beginAll_125 : decode cX9_beginAll 125 = .ok (.getfield 34, 3) := by decide +kernel
theorem dX9_beginAll_128 : decode cX9_beginAll 128 = .ok (.bipush 8, 2) := by decide +kernel
theorem dX9_beginAll_130 : decode cX9_beginAll 130 = .ok (.iload_n 1, 1) := by decide +kernel
theorem dX9_beginAll_131 : decode cX9_beginAll 131 = .ok (.iadd, 1) := by decide +kernel
theorem dX9_beginAll_132 : decode cX9_beginAll 132 = .ok (.aload_n 0, 1) := by decide +kernel
theorem dX9_beginAll_133 : decode cX9_beginAll 133 = .ok (.getfield 16, 3) := by decide +kernel
theorem dX9_beginAll_136 : decode cX9_beginAll 136 = .ok (.iload_n 1, 1) := by decide +kernel
theorem dX9_beginAll_137 : decode cX9_beginAll 137 = .ok (.iaload, 1) := by decide +kernel
theorem dX9_beginAll_138 : decode cX9_beginAll 138 = .ok (.iastore, 1) := by decide +kernel
theorem dX9_beginAll_139 : decode cX9_beginAll 139 = .ok (.iinc 1 1, 3) := by decide +kernel
theorem dX9_beginAll_142 : decode cX9_beginAll 142 = .ok (.goto (-52), 3) := by decide +kernel
theorem dX9_beginAll_145 : decode cX9_beginAll 145 = .ok (.iconst 0, 1) := by decide +kernel
theorem dX9_beginAll_146 : decode cX9_beginAll 146 = .ok (.istore_n 1, 1) := by decide +kernel
theorem dX9_beginAll_147 : decode cX9_beginAll 147 = .ok (.iload_n 1, 1) := by decide +kernel
theorem dX9_beginAll_148 : decode cX9_beginAll 148 = .ok (.aload_n 0, 1) := by decide +kernel
theorem dX9_beginAll_149 : decode cX9_beginAll 149 = .ok (.getfield 109, 3) := by decide +kernel
theorem dX9_beginAll_152 : decode cX9_beginAll 152 = .ok (.if_icmp .ge 54, 3) := by decide +kernel
theorem dX9_beginAll_155 : decode cX9_beginAll 155 = .ok (.aload_n 0, 1) := by decide +kernel
theorem dX9_beginAll_156 : decode cX9_beginAll 156 = .ok (.getfield 34, 3) := by decide +kernel
theorem dX9_beginAll_159 : decode cX9_beginAll 159 = .ok (.bipush 16, 2) := by decide +kernel
theorem dX9_beginAll_161 : decode cX9_beginAll 161 = .ok (.iload_n 1, 1) := by decide +kernel
theorem dX9_beginAll_162 : decode cX9_beginAll 162 = .ok (.iadd, 1) := by decide +kernel
theorem dX9_beginAll_163 : decode cX9_beginAll 163 = .ok (.aload_n 0, 1) := by decide +kernel
theorem dX9_beginAll_164 : decode cX9_beginAll 164 = .ok (.getfield 22, 3) := by decide +kernel
theorem dX9_beginAll_167 : decode cX9_beginAll 167 = .ok (.iload_n 1, 1) := by decide +kernel
theorem dX9_beginAll_168 : decode cX9_beginAll 168 = .ok (.iaload, 1) := by decide +kernel
theorem dX9_beginAll_169 : decode cX9_beginAll 169 = .ok (.iastore, 1) := by decide +kernel
theorem dX9_beginAll_170 : decode cX9_beginAll 170 = .ok (.aload_n 0, 1) := by decide +kernel
theorem dX9_beginAll_171 : decode cX9_beginAll 171 = .ok (.getfield 34, 3) := by decide +kernel
theorem dX9_beginAll_174 : decode cX9_beginAll 174 = .ok (.bipush 30, 2) := by decide +kernel
theorem dX9_beginAll_176 : decode cX9_beginAll 176 = .ok (.iload_n 1, 1) := by decide +kernel
theorem dX9_beginAll_177 : decode cX9_beginAll 177 = .ok (.iadd, 1) := by decide +kernel
theorem dX9_beginAll_178 : decode cX9_beginAll 178 = .ok (.aload_n 0, 1) := by decide +kernel
theorem dX9_beginAll_179 : decode cX9_beginAll 179 = .ok (.getfield 25, 3) := by decide +kernel
theorem dX9_beginAll_182 : decode cX9_beginAll 182 = .ok (.iload_n 1, 1) := by decide +kernel
theorem dX9_beginAll_183 : decode cX9_beginAll 183 = .ok (.iaload, 1) := by decide +kernel
theorem dX9_beginAll_184 : decode cX9_beginAll 184 = .ok (.iastore, 1) := by decide +kernel
theorem dX9_beginAll_185 : decode cX9_beginAll 185 = .ok (.aload_n 0, 1) := by decide +kernel
theorem dX9_beginAll_186 : decode cX9_beginAll 186 = .ok (.getfield 34, 3) := by decide +kernel
theorem dX9_beginAll_189 : decode cX9_beginAll 189 = .ok (.bipush 37, 2) := by decide +kernel
theorem dX9_beginAll_191 : decode cX9_beginAll 191 = .ok (.iload_n 1, 1) := by decide +kernel
theorem dX9_beginAll_192 : decode cX9_beginAll 192 = .ok (.iadd, 1) := by decide +kernel
theorem dX9_beginAll_193 : decode cX9_beginAll 193 = .ok (.aload_n 0, 1) := by decide +kernel
theorem dX9_beginAll_194 : decode cX9_beginAll 194 = .ok (.getfield 31, 3) := by decide +kernel
theorem dX9_beginAll_197 : decode cX9_beginAll 197 = .ok (.iload_n 1, 1) := by decide +kernel
theorem dX9_beginAll_198 : decode cX9_beginAll 198 = .ok (.iaload, 1) := by decide +kernel
theorem dX9_beginAll_199 : decode cX9_beginAll 199 = .ok (.iastore, 1) := by decide +kernel
theorem dX9_beginAll_200 : decode cX9_beginAll 200 = .ok (.iinc 1 1, 3) := by decide +kernel
theorem dX9_beginAll_203 : decode cX9_beginAll 203 = .ok (.goto (-56), 3) := by decide +kernel
theorem dX9_beginAll_206 : decode cX9_beginAll 206 = .ok (.aload_n 0, 1) := by decide +kernel
theorem dX9_beginAll_207 : decode cX9_beginAll 207 = .ok (.getfield 34, 3) := by decide +kernel
theorem dX9_beginAll_210 : decode cX9_beginAll 210 = .ok (.bipush 51, 2) := by decide +kernel
theorem dX9_beginAll_212 : decode cX9_beginAll 212 = .ok (.aload_n 0, 1) := by decide +kernel
theorem dX9_beginAll_213 : decode cX9_beginAll 213 = .ok (.getfield 172, 3) := by decide +kernel
theorem dX9_beginAll_216 : decode cX9_beginAll 216 = .ok (.iastore, 1) := by decide +kernel
theorem dX9_beginAll_217 : decode cX9_beginAll 217 = .ok (.return_, 1) := by decide +kernel
theorem dX9_takeRead_0 : decode cX9_takeRead 0 = .ok (.aload_n 0, 1) := by decide +kernel
theorem dX9_takeRead_1 : decode cX9_takeRead 1 = .ok (.aload_n 0, 1) := by decide +kernel
theorem dX9_takeRead_2 : decode cX9_takeRead 2 = .ok (.getfield 143, 3) := by decide +kernel
theorem dX9_takeRead_5 : decode cX9_takeRead 5 = .ok (.putfield 99, 3) := by decide +kernel
theorem dX9_takeRead_8 : decode cX9_takeRead 8 = .ok (.aload_n 0, 1) := by decide +kernel
theorem dX9_takeRead_9 : decode cX9_takeRead 9 = .ok (.aload_n 0, 1) := by decide +kernel
theorem dX9_takeRead_10 : decode cX9_takeRead 10 = .ok (.getfield 146, 3) := by decide +kernel
theorem dX9_takeRead_13 : decode cX9_takeRead 13 = .ok (.putfield 172, 3) := by decide +kernel
theorem dX9_takeRead_16 : decode cX9_takeRead 16 = .ok (.aload_n 0, 1) := by decide +kernel
theorem dX9_takeRead_17 : decode cX9_takeRead 17 = .ok (.aload_n 0, 1) := by decide +kernel
theorem dX9_takeRead_18 : decode cX9_takeRead 18 = .ok (.getfield 149, 3) := by decide +kernel
theorem dX9_takeRead_21 : decode cX9_takeRead 21 = .ok (.putfield 102, 3) := by decide +kernel
theorem dX9_takeRead_24 : decode cX9_takeRead 24 = .ok (.aload_n 0, 1) := by decide +kernel
theorem dX9_takeRead_25 : decode cX9_takeRead 25 = .ok (.aload_n 0, 1) := by decide +kernel
theorem dX9_takeRead_26 : decode cX9_takeRead 26 = .ok (.getfield 156, 3) := by decide +kernel
theorem dX9_takeRead_29 : decode cX9_takeRead 29 = .ok (.putfield 109, 3) := by decide +kernel
theorem dX9_takeRead_32 : decode cX9_takeRead 32 = .ok (.aload_n 0, 1) := by decide +kernel
theorem dX9_takeRead_33 : decode cX9_takeRead 33 = .ok (.getfield 44, 3) := by decide +kernel
theorem dX9_takeRead_36 : decode cX9_takeRead 36 = .ok (.aload_n 0, 1) := by decide +kernel
theorem dX9_takeRead_37 : decode cX9_takeRead 37 = .ok (.getfield 7, 3) := by decide +kernel
theorem dX9_takeRead_40 : decode cX9_takeRead 40 = .ok (.aload_n 0, 1) := by decide +kernel
theorem dX9_takeRead_41 : decode cX9_takeRead 41 = .ok (.getfield 102, 3) := by decide +kernel
theorem dX9_takeRead_44 : decode cX9_takeRead 44 = .ok (.invokestatic 175, 3) := by decide +kernel
theorem dX9_takeRead_47 : decode cX9_takeRead 47 = .ok (.aload_n 0, 1) := by decide +kernel
theorem dX9_takeRead_48 : decode cX9_takeRead 48 = .ok (.getfield 47, 3) := by decide +kernel
theorem dX9_takeRead_51 : decode cX9_takeRead 51 = .ok (.aload_n 0, 1) := by decide +kernel
theorem dX9_takeRead_52 : decode cX9_takeRead 52 = .ok (.getfield 13, 3) := by decide +kernel
theorem dX9_takeRead_55 : decode cX9_takeRead 55 = .ok (.aload_n 0, 1) := by decide +kernel
theorem dX9_takeRead_56 : decode cX9_takeRead 56 = .ok (.getfield 102, 3) := by decide +kernel
theorem dX9_takeRead_59 : decode cX9_takeRead 59 = .ok (.invokestatic 175, 3) := by decide +kernel
theorem dX9_takeRead_62 : decode cX9_takeRead 62 = .ok (.aload_n 0, 1) := by decide +kernel
theorem dX9_takeRead_63 : decode cX9_takeRead 63 = .ok (.getfield 50, 3) := by decide +kernel
theorem dX9_takeRead_66 : decode cX9_takeRead 66 = .ok (.aload_n 0, 1) := by decide +kernel
theorem dX9_takeRead_67 : decode cX9_takeRead 67 = .ok (.getfield 16, 3) := by decide +kernel
theorem dX9_takeRead_70 : decode cX9_takeRead 70 = .ok (.aload_n 0, 1) := by decide +kernel
theorem dX9_takeRead_71 : decode cX9_takeRead 71 = .ok (.getfield 102, 3) := by decide +kernel
theorem dX9_takeRead_74 : decode cX9_takeRead 74 = .ok (.invokestatic 175, 3) := by decide +kernel
theorem dX9_takeRead_77 : decode cX9_takeRead 77 = .ok (.aload_n 0, 1) := by decide +kernel
theorem dX9_takeRead_78 : decode cX9_takeRead 78 = .ok (.getfield 53, 3) := by decide +kernel
theorem dX9_takeRead_81 : decode cX9_takeRead 81 = .ok (.aload_n 0, 1) := by decide +kernel
theorem dX9_takeRead_82 : decode cX9_takeRead 82 = .ok (.getfield 19, 3) := by decide +kernel
theorem dX9_takeRead_85 : decode cX9_takeRead 85 = .ok (.aload_n 0, 1) := by decide +kernel
theorem dX9_takeRead_86 : decode cX9_takeRead 86 = .ok (.getfield 109, 3) := by decide +kernel
theorem dX9_takeRead_89 : decode cX9_takeRead 89 = .ok (.invokestatic 175, 3) := by decide +kernel
theorem dX9_takeRead_92 : decode cX9_takeRead 92 = .ok (.aload_n 0, 1) := by decide +kernel
theorem dX9_takeRead_93 : decode cX9_takeRead 93 = .ok (.getfield 56, 3) := by decide +kernel
theorem dX9_takeRead_96 : decode cX9_takeRead 96 = .ok (.aload_n 0, 1) := by decide +kernel
theorem dX9_takeRead_97 : decode cX9_takeRead 97 = .ok (.getfield 22, 3) := by decide +kernel
theorem dX9_takeRead_100 : decode cX9_takeRead 100 = .ok (.aload_n 0, 1) := by decide +kernel
theorem dX9_takeRead_101 : decode cX9_takeRead 101 = .ok (.getfield 109, 3) := by decide +kernel
theorem dX9_takeRead_104 : decode cX9_takeRead 104 = .ok (.invokestatic 175, 3) := by decide +kernel
theorem dX9_takeRead_107 : decode cX9_takeRead 107 = .ok (.aload_n 0, 1) := by decide +kernel
theorem dX9_takeRead_108 : decode cX9_takeRead 108 = .ok (.getfield 59, 3) := by decide +kernel
theorem dX9_takeRead_111 : decode cX9_takeRead 111 = .ok (.aload_n 0, 1) := by decide +kernel
theorem dX9_takeRead_112 : decode cX9_takeRead 112 = .ok (.getfield 25, 3) := by decide +kernel
theorem dX9_takeRead_115 : decode cX9_takeRead 115 = .ok (.aload_n 0, 1) := by decide +kernel
theorem dX9_takeRead_116 : decode cX9_takeRead 116 = .ok (.getfield 109, 3) := by decide +kernel
theorem dX9_takeRead_119 : decode cX9_takeRead 119 = .ok (.invokestatic 175, 3) := by decide +kernel
theorem dX9_takeRead_122 : decode cX9_takeRead 122 = .ok (.aload_n 0, 1) := by decide +kernel
theorem dX9_takeRead_123 : decode cX9_takeRead 123 = .ok (.getfield 62, 3) := by decide +kernel
theorem dX9_takeRead_126 : decode cX9_takeRead 126 = .ok (.aload_n 0, 1) := by decide +kernel
theorem dX9_takeRead_127 : decode cX9_takeRead 127 = .ok (.getfield 28, 3) := by decide +kernel
theorem dX9_takeRead_130 : decode cX9_takeRead 130 = .ok (.aload_n 0, 1) := by decide +kernel
theorem dX9_takeRead_131 : decode cX9_takeRead 131 = .ok (.getfield 109, 3) := by decide +kernel
theorem dX9_takeRead_134 : decode cX9_takeRead 134 = .ok (.invokestatic 175, 3) := by decide +kernel
theorem dX9_takeRead_137 : decode cX9_takeRead 137 = .ok (.aload_n 0, 1) := by decide +kernel
theorem dX9_takeRead_138 : decode cX9_takeRead 138 = .ok (.getfield 65, 3) := by decide +kernel
theorem dX9_takeRead_141 : decode cX9_takeRead 141 = .ok (.aload_n 0, 1) := by decide +kernel
theorem dX9_takeRead_142 : decode cX9_takeRead 142 = .ok (.getfield 31, 3) := by decide +kernel
theorem dX9_takeRead_145 : decode cX9_takeRead 145 = .ok (.aload_n 0, 1) := by decide +kernel
theorem dX9_takeRead_146 : decode cX9_takeRead 146 = .ok (.getfield 109, 3) := by decide +kernel
theorem dX9_takeRead_149 : decode cX9_takeRead 149 = .ok (.invokestatic 175, 3) := by decide +kernel
theorem dX9_takeRead_152 : decode cX9_takeRead 152 = .ok (.aload_n 0, 1) := by decide +kernel
theorem dX9_takeRead_153 : decode cX9_takeRead 153 = .ok (.invokevirtual 179, 3) := by decide +kernel
theorem dX9_takeRead_156 : decode cX9_takeRead 156 = .ok (.return_, 1) := by decide +kernel
theorem dX9_line_0 : decode cX9_line 0 = .ok (.aload_n 0, 1) := by decide +kernel
theorem dX9_line_1 : decode cX9_line 1 = .ok (.iconst (-1), 1) := by decide +kernel
theorem dX9_line_2 : decode cX9_line 2 = .ok (.putfield 40, 3) := by decide +kernel
theorem dX9_line_5 : decode cX9_line 5 = .ok (.aload_n 0, 1) := by decide +kernel
theorem dX9_line_6 : decode cX9_line 6 = .ok (.iconst 0, 1) := by decide +kernel
theorem dX9_line_7 : decode cX9_line 7 = .ok (.putfield 119, 3) := by decide +kernel
theorem dX9_line_10 : decode cX9_line 10 = .ok (.aload_n 0, 1) := by decide +kernel
theorem dX9_line_11 : decode cX9_line 11 = .ok (.iconst 0, 1) := by decide +kernel
theorem dX9_line_12 : decode cX9_line 12 = .ok (.putfield 143, 3) := by decide +kernel
theorem dX9_line_15 : decode cX9_line 15 = .ok (.aload_n 0, 1) := by decide +kernel
theorem dX9_line_16 : decode cX9_line 16 = .ok (.iconst 0, 1) := by decide +kernel
theorem dX9_line_17 : decode cX9_line 17 = .ok (.putfield 146, 3) := by decide +kernel
theorem dX9_line_20 : decode cX9_line 20 = .ok (.aload_n 0, 1) := by decide +kernel
theorem dX9_line_21 : decode cX9_line 21 = .ok (.iconst 0, 1) := by decide +kernel
theorem dX9_line_22 : decode cX9_line 22 = .ok (.putfield 149, 3) := by decide +kernel
theorem dX9_line_25 : decode cX9_line 25 = .ok (.aload_n 0, 1) := by decide +kernel
theorem dX9_line_26 : decode cX9_line 26 = .ok (.iconst 0, 1) := by decide +kernel
theorem dX9_line_27 : decode cX9_line 27 = .ok (.putfield 156, 3) := by decide +kernel
theorem dX9_line_30 : decode cX9_line 30 = .ok (.iconst 0, 1) := by decide +kernel
theorem dX9_line_31 : decode cX9_line 31 = .ok (.istore_n 1, 1) := by decide +kernel
theorem dX9_line_32 : decode cX9_line 32 = .ok (.iload_n 1, 1) := by decide +kernel
theorem dX9_line_33 : decode cX9_line 33 = .ok (.ifCond .ne 18, 3) := by decide +kernel
theorem dX9_line_36 : decode cX9_line 36 = .ok (.aload_n 0, 1) := by decide +kernel
theorem dX9_line_37 : decode cX9_line 37 = .ok (.invokevirtual 122, 3) := by decide +kernel
theorem dX9_line_40 : decode cX9_line 40 = .ok (.ifCond .lt 11, 3) := by decide +kernel
theorem dX9_line_43 : decode cX9_line 43 = .ok (.aload_n 0, 1) := by decide +kernel
theorem dX9_line_44 : decode cX9_line 44 = .ok (.invokevirtual 182, 3) := by decide +kernel
theorem dX9_line_47 : decode cX9_line 47 = .ok (.istore_n 1, 1) := by decide +kernel
theorem dX9_line_48 : decode cX9_line 48 = .ok (.goto (-16), 3) := by decide +kernel
theorem dX9_line_51 : decode cX9_line 51 = .ok (.aload_n 0, 1) := by decide +kernel
theorem dX9_line_52 : decode cX9_line 52 = .ok (.iconst 0, 1) := by decide +kernel
theorem dX9_line_53 : decode cX9_line 53 = .ok (.putfield 115, 3) := by decide +kernel
theorem dX9_line_56 : decode cX9_line 56 = .ok (.iload_n 1, 1) := by decide +kernel
theorem dX9_line_57 : decode cX9_line 57 = .ok (.ifCond .le 8, 3) := by decide +kernel
theorem dX9_line_60 : decode cX9_line 60 = .ok (.bipush (-10), 2) := by decide +kernel
theorem dX9_line_62 : decode cX9_line 62 = .ok (.iload_n 1, 1) := by decide +kernel
theorem dX9_line_63 : decode cX9_line 63 = .ok (.isub, 1) := by decide +kernel
theorem dX9_line_64 : decode cX9_line 64 = .ok (.ireturn, 1) := by decide +kernel
theorem dX9_line_65 : decode cX9_line 65 = .ok (.aload_n 0, 1) := by decide +kernel
theorem dX9_line_66 : decode cX9_line 66 = .ok (.invokevirtual 185, 3) := by decide +kernel
theorem dX9_line_69 : decode cX9_line 69 = .ok (.aload_n 0, 1) := by decide +kernel
theorem dX9_line_70 : decode cX9_line 70 = .ok (.iconst 0, 1) := by decide +kernel
theorem dX9_line_71 : decode cX9_line 71 = .ok (.putfield 188, 3) := by decide +kernel
theorem dX9_line_74 : decode cX9_line 74 = .ok (.aload_n 0, 1) := by decide +kernel
theorem dX9_line_75 : decode cX9_line 75 = .ok (.iconst 0, 1) := by decide +kernel
theorem dX9_line_76 : decode cX9_line 76 = .ok (.putfield 191, 3) := by decide +kernel
theorem dX9_line_79 : decode cX9_line 79 = .ok (.aload_n 0, 1) := by decide +kernel
theorem dX9_line_80 : decode cX9_line 80 = .ok (.iconst 0, 1) := by decide +kernel
theorem dX9_line_81 : decode cX9_line 81 = .ok (.putfield 194, 3) := by decide +kernel
theorem dX9_line_84 : decode cX9_line 84 = .ok (.aload_n 0, 1) := by decide +kernel
theorem dX9_line_85 : decode cX9_line 85 = .ok (.getfield 96, 3) := by decide +kernel
theorem dX9_line_88 : decode cX9_line 88 = .ok (.iconst 0, 1) := by decide +kernel
theorem dX9_line_89 : decode cX9_line 89 = .ok (.iconst 0, 1) := by decide +kernel
theorem dX9_line_90 : decode cX9_line 90 = .ok (.bastore, 1) := by decide +kernel
theorem dX9_line_91 : decode cX9_line 91 = .ok (.aload_n 0, 1) := by decide +kernel
theorem dX9_line_92 : decode cX9_line 92 = .ok (.getfield 96, 3) := by decide +kernel
theorem dX9_line_95 : decode cX9_line 95 = .ok (.iconst 1, 1) := by decide +kernel
theorem dX9_line_96 : decode cX9_line 96 = .ok (.iconst 0, 1) := by decide +kernel
theorem dX9_line_97 : decode cX9_line 97 = .ok (.bastore, 1) := by decide +kernel
theorem dX9_line_98 : decode cX9_line 98 = .ok (.aload_n 0, 1) := by decide +kernel
theorem dX9_line_99 : decode cX9_line 99 = .ok (.getfield 109, 3) := by decide +kernel
theorem dX9_line_102 : decode cX9_line 102 = .ok (.ireturn, 1) := by decide +kernel
theorem dX9_fault_0 : decode cX9_fault 0 = .ok (.aload_n 0, 1) := by decide +kernel
theorem dX9_fault_1 : decode cX9_fault 1 = .ok (.getfield 40, 3) := by decide +kernel
theorem dX9_fault_4 : decode cX9_fault 4 = .ok (.ireturn, 1) := by decide +kernel
theorem dX9_ownedBy_0 : decode cX9_ownedBy 0 = .ok (.iconst 0, 1) := by decide +kernel
theorem dX9_ownedBy_1 : decode cX9_ownedBy 1 = .ok (.istore_n 2, 1) := by decide +kernel
theorem dX9_ownedBy_2 : decode cX9_ownedBy 2 = .ok (.iconst 0, 1) := by decide +kernel
theorem dX9_ownedBy_3 : decode cX9_ownedBy 3 = .ok (.istore_n 3, 1) := by decide +kernel
theorem dX9_ownedBy_4 : decode cX9_ownedBy 4 = .ok (.iload_n 3, 1) := by decide +kernel
theorem dX9_ownedBy_5 : decode cX9_ownedBy 5 = .ok (.aload_n 0, 1) := by decide +kernel
theorem dX9_ownedBy_6 : decode cX9_ownedBy 6 = .ok (.getfield 102, 3) := by decide +kernel
theorem dX9_ownedBy_9 : decode cX9_ownedBy 9 = .ok (.if_icmp .ge 32, 3) := by decide +kernel
theorem dX9_ownedBy_12 : decode cX9_ownedBy 12 = .ok (.iload_n 2, 1) := by decide +kernel
theorem dX9_ownedBy_13 : decode cX9_ownedBy 13 = .ok (.aload_n 0, 1) := by decide +kernel
theorem dX9_ownedBy_14 : decode cX9_ownedBy 14 = .ok (.getfield 34, 3) := by decide +kernel
theorem dX9_ownedBy_17 : decode cX9_ownedBy 17 = .ok (.bipush 12, 2) := by decide +kernel
theorem dX9_ownedBy_19 : decode cX9_ownedBy 19 = .ok (.iload_n 3, 1) := by decide +kernel
theorem dX9_ownedBy_20 : decode cX9_ownedBy 20 = .ok (.iadd, 1) := by decide +kernel
theorem dX9_ownedBy_21 : decode cX9_ownedBy 21 = .ok (.iaload, 1) := by decide +kernel
theorem dX9_ownedBy_22 : decode cX9_ownedBy 22 = .ok (.iload_n 1, 1) := by decide +kernel
theorem dX9_ownedBy_23 : decode cX9_ownedBy 23 = .ok (.if_icmp .ne 9, 3) := by decide +kernel
theorem dX9_ownedBy_26 : decode cX9_ownedBy 26 = .ok (.iconst 1, 1) := by decide +kernel
theorem dX9_ownedBy_27 : decode cX9_ownedBy 27 = .ok (.iload_n 3, 1) := by decide +kernel
theorem dX9_ownedBy_28 : decode cX9_ownedBy 28 = .ok (.ishl, 1) := by decide +kernel
theorem dX9_ownedBy_29 : decode cX9_ownedBy 29 = .ok (.goto 4, 3) := by decide +kernel
theorem dX9_ownedBy_32 : decode cX9_ownedBy 32 = .ok (.iconst 0, 1) := by decide +kernel
theorem dX9_ownedBy_33 : decode cX9_ownedBy 33 = .ok (.ior, 1) := by decide +kernel
theorem dX9_ownedBy_34 : decode cX9_ownedBy 34 = .ok (.istore_n 2, 1) := by decide +kernel
theorem dX9_ownedBy_35 : decode cX9_ownedBy 35 = .ok (.iinc 3 1, 3) := by decide +kernel
theorem dX9_ownedBy_38 : decode cX9_ownedBy 38 = .ok (.goto (-34), 3) := by decide +kernel
theorem dX9_ownedBy_41 : decode cX9_ownedBy 41 = .ok (.iload_n 2, 1) := by decide +kernel
theorem dX9_ownedBy_42 : decode cX9_ownedBy 42 = .ok (.ireturn, 1) := by decide +kernel
theorem dX9_lagBy_0 : decode cX9_lagBy 0 = .ok (.iload_n 0, 1) := by decide +kernel
theorem dX9_lagBy_1 : decode cX9_lagBy 1 = .ok (.tableswitch 50 1 3 #[27, 40, 46], 27) := by decide +kernel
theorem dX9_lagBy_28 : decode cX9_lagBy 28 = .ok (.iload_n 3, 1) := by decide +kernel
theorem dX9_lagBy_29 : decode cX9_lagBy 29 = .ok (.ifCond .eq 7, 3) := by decide +kernel
theorem dX9_lagBy_32 : decode cX9_lagBy 32 = .ok (.iload_n 1, 1) := by decide +kernel
theorem dX9_lagBy_33 : decode cX9_lagBy 33 = .ok (.goto 7, 3) := by decide +kernel
theorem dX9_lagBy_36 : decode cX9_lagBy 36 = .ok (.iload_n 1, 1) := by decide +kernel
theorem dX9_lagBy_37 : decode cX9_lagBy 37 = .ok (.bipush 9, 2) := by decide +kernel
theorem dX9_lagBy_39 : decode cX9_lagBy 39 = .ok (.iadd, 1) := by decide +kernel
theorem dX9_lagBy_40 : decode cX9_lagBy 40 = .ok (.ireturn, 1) := by decide +kernel
theorem dX9_lagBy_41 : decode cX9_lagBy 41 = .ok (.iload_n 1, 1) := by decide +kernel
theorem dX9_lagBy_42 : decode cX9_lagBy 42 = .ok (.iload_n 2, 1) := by decide +kernel
theorem dX9_lagBy_43 : decode cX9_lagBy 43 = .ok (.iconst 3, 1) := by decide +kernel
theorem dX9_lagBy_44 : decode cX9_lagBy 44 = .ok (.irem, 1) := by decide +kernel
theorem dX9_lagBy_45 : decode cX9_lagBy 45 = .ok (.iadd, 1) := by decide +kernel
theorem dX9_lagBy_46 : decode cX9_lagBy 46 = .ok (.ireturn, 1) := by decide +kernel
theorem dX9_lagBy_47 : decode cX9_lagBy 47 = .ok (.iload_n 1, 1) := by decide +kernel
theorem dX9_lagBy_48 : decode cX9_lagBy 48 = .ok (.iconst 2, 1) := by decide +kernel
theorem dX9_lagBy_49 : decode cX9_lagBy 49 = .ok (.idiv, 1) := by decide +kernel
theorem dX9_lagBy_50 : decode cX9_lagBy 50 = .ok (.ireturn, 1) := by decide +kernel
theorem dX9_lagBy_51 : decode cX9_lagBy 51 = .ok (.iload_n 1, 1) := by decide +kernel
theorem dX9_lagBy_52 : decode cX9_lagBy 52 = .ok (.ireturn, 1) := by decide +kernel
theorem dX9_lagOf_0 : decode cX9_lagOf 0 = .ok (.aload_n 0, 1) := by decide +kernel
theorem dX9_lagOf_1 : decode cX9_lagOf 1 = .ok (.getfield 34, 3) := by decide +kernel
theorem dX9_lagOf_4 : decode cX9_lagOf 4 = .ok (.bipush 16, 2) := by decide +kernel
theorem dX9_lagOf_6 : decode cX9_lagOf 6 = .ok (.iload_n 1, 1) := by decide +kernel
theorem dX9_lagOf_7 : decode cX9_lagOf 7 = .ok (.iadd, 1) := by decide +kernel
theorem dX9_lagOf_8 : decode cX9_lagOf 8 = .ok (.iaload, 1) := by decide +kernel
theorem dX9_lagOf_9 : decode cX9_lagOf 9 = .ok (.iconst (-1), 1) := by decide +kernel
theorem dX9_lagOf_10 : decode cX9_lagOf 10 = .ok (.if_icmp .ne 5, 3) := by decide +kernel
theorem dX9_lagOf_13 : decode cX9_lagOf 13 = .ok (.iconst (-1), 1) := by decide +kernel
theorem dX9_lagOf_14 : decode cX9_lagOf 14 = .ok (.ireturn, 1) := by decide +kernel
theorem dX9_lagOf_15 : decode cX9_lagOf 15 = .ok (.aload_n 0, 1) := by decide +kernel
theorem dX9_lagOf_16 : decode cX9_lagOf 16 = .ok (.getfield 19, 3) := by decide +kernel
theorem dX9_lagOf_19 : decode cX9_lagOf 19 = .ok (.iload_n 1, 1) := by decide +kernel
theorem dX9_lagOf_20 : decode cX9_lagOf 20 = .ok (.iaload, 1) := by decide +kernel
theorem dX9_lagOf_21 : decode cX9_lagOf 21 = .ok (.aload_n 0, 1) := by decide +kernel
theorem dX9_lagOf_22 : decode cX9_lagOf 22 = .ok (.getfield 34, 3) := by decide +kernel
theorem dX9_lagOf_25 : decode cX9_lagOf 25 = .ok (.bipush 30, 2) := by decide +kernel
theorem dX9_lagOf_27 : decode cX9_lagOf 27 = .ok (.iload_n 1, 1) := by decide +kernel
theorem dX9_lagOf_28 : decode cX9_lagOf 28 = .ok (.iadd, 1) := by decide +kernel
theorem dX9_lagOf_29 : decode cX9_lagOf 29 = .ok (.iaload, 1) := by decide +kernel
theorem dX9_lagOf_30 : decode cX9_lagOf 30 = .ok (.aload_n 0, 1) := by decide +kernel
theorem dX9_lagOf_31 : decode cX9_lagOf 31 = .ok (.getfield 34, 3) := by decide +kernel
theorem dX9_lagOf_34 : decode cX9_lagOf 34 = .ok (.bipush 52, 2) := by decide +kernel
theorem dX9_lagOf_36 : decode cX9_lagOf 36 = .ok (.iaload, 1) := by decide +kernel
theorem dX9_lagOf_37 : decode cX9_lagOf 37 = .ok (.aload_n 0, 1) := by decide +kernel
theorem dX9_lagOf_38 : decode cX9_lagOf 38 = .ok (.iload_n 1, 1) := by decide +kernel
theorem dX9_lagOf_39 : decode cX9_lagOf 39 = .ok (.invokevirtual 197, 3) := by decide +kernel
theorem dX9_lagOf_42 : decode cX9_lagOf 42 = .ok (.ifCond .eq 7, 3) := by decide +kernel
theorem dX9_lagOf_45 : decode cX9_lagOf 45 = .ok (.iconst 1, 1) := by decide +kernel
theorem dX9_lagOf_46 : decode cX9_lagOf 46 = .ok (.goto 4, 3) := by decide +kernel
theorem dX9_lagOf_49 : decode cX9_lagOf 49 = .ok (.iconst 0, 1) := by decide +kernel
theorem dX9_lagOf_50 : decode cX9_lagOf 50 = .ok (.invokestatic 200, 3) := by decide +kernel
theorem dX9_lagOf_53 : decode cX9_lagOf 53 = .ok (.istore_n 2, 1) := by decide +kernel
theorem dX9_lagOf_54 : decode cX9_lagOf 54 = .ok (.iload_n 2, 1) := by decide +kernel
theorem dX9_lagOf_55 : decode cX9_lagOf 55 = .ok (.aload_n 0, 1) := by decide +kernel
theorem dX9_lagOf_56 : decode cX9_lagOf 56 = .ok (.getfield 34, 3) := by decide +kernel
theorem dX9_lagOf_59 : decode cX9_lagOf 59 = .ok (.bipush 51, 2) := by decide +kernel
theorem dX9_lagOf_61 : decode cX9_lagOf 61 = .ok (.iaload, 1) := by decide +kernel
theorem dX9_lagOf_62 : decode cX9_lagOf 62 = .ok (.aload_n 0, 1) := by decide +kernel
theorem dX9_lagOf_63 : decode cX9_lagOf 63 = .ok (.getfield 34, 3) := by decide +kernel
theorem dX9_lagOf_66 : decode cX9_lagOf 66 = .ok (.bipush 16, 2) := by decide +kernel
theorem dX9_lagOf_68 : decode cX9_lagOf 68 = .ok (.iload_n 1, 1) := by decide +kernel
theorem dX9_lagOf_69 : decode cX9_lagOf 69 = .ok (.iadd, 1) := by decide +kernel
theorem dX9_lagOf_70 : decode cX9_lagOf 70 = .ok (.iaload, 1) := by decide +kernel
theorem dX9_lagOf_71 : decode cX9_lagOf 71 = .ok (.invokestatic 204, 3) := by decide +kernel
theorem dX9_lagOf_74 : decode cX9_lagOf 74 = .ok (.ifCond .eq 7, 3) := by decide +kernel
theorem dX9_lagOf_77 : decode cX9_lagOf 77 = .ok (.iconst 5, 1) := by decide +kernel
theorem dX9_lagOf_78 : decode cX9_lagOf 78 = .ok (.goto 4, 3) := by decide +kernel
theorem dX9_lagOf_81 : decode cX9_lagOf 81 = .ok (.iconst 0, 1) := by decide +kernel
theorem dX9_lagOf_82 : decode cX9_lagOf 82 = .ok (.isub, 1) := by decide +kernel
theorem dX9_lagOf_83 : decode cX9_lagOf 83 = .ok (.istore_n 2, 1) := by decide +kernel
theorem dX9_lagOf_84 : decode cX9_lagOf 84 = .ok (.iload_n 2, 1) := by decide +kernel
theorem dX9_lagOf_85 : decode cX9_lagOf 85 = .ok (.ifCond .le 7, 3) := by decide +kernel
theorem dX9_lagOf_88 : decode cX9_lagOf 88 = .ok (.iload_n 2, 1) := by decide +kernel
theorem dX9_lagOf_89 : decode cX9_lagOf 89 = .ok (.goto 4, 3) := by decide +kernel
theorem dX9_lagOf_92 : decode cX9_lagOf 92 = .ok (.iconst 0, 1) := by decide +kernel
theorem dX9_lagOf_93 : decode cX9_lagOf 93 = .ok (.ireturn, 1) := by decide +kernel
theorem dX9_waitsFor_0 : decode cX9_waitsFor 0 = .ok (.aload_n 0, 1) := by decide +kernel
theorem dX9_waitsFor_1 : decode cX9_waitsFor 1 = .ok (.getfield 34, 3) := by decide +kernel
theorem dX9_waitsFor_4 : decode cX9_waitsFor 4 = .ok (.bipush 37, 2) := by decide +kernel
theorem dX9_waitsFor_6 : decode cX9_waitsFor 6 = .ok (.iload_n 1, 1) := by decide +kernel
theorem dX9_waitsFor_7 : decode cX9_waitsFor 7 = .ok (.iadd, 1) := by decide +kernel
theorem dX9_waitsFor_8 : decode cX9_waitsFor 8 = .ok (.iaload, 1) := by decide +kernel
theorem dX9_waitsFor_9 : decode cX9_waitsFor 9 = .ok (.iload_n 2, 1) := by decide +kernel
theorem dX9_waitsFor_10 : decode cX9_waitsFor 10 = .ok (.if_icmp .ne 25, 3) := by decide +kernel
theorem dX9_waitsFor_13 : decode cX9_waitsFor 13 = .ok (.aload_n 0, 1) := by decide +kernel
theorem dX9_waitsFor_14 : decode cX9_waitsFor 14 = .ok (.getfield 34, 3) := by decide +kernel
theorem dX9_waitsFor_17 : decode cX9_waitsFor 17 = .ok (.bipush 16, 2) := by decide +kernel
theorem dX9_waitsFor_19 : decode cX9_waitsFor 19 = .ok (.iload_n 1, 1) := by decide +kernel
theorem dX9_waitsFor_20 : decode cX9_waitsFor 20 = .ok (.iadd, 1) := by decide +kernel
theorem dX9_waitsFor_21 : decode cX9_waitsFor 21 = .ok (.iaload, 1) := by decide +kernel
theorem dX9_waitsFor_22 : decode cX9_waitsFor 22 = .ok (.aload_n 0, 1) := by decide +kernel
theorem dX9_waitsFor_23 : decode cX9_waitsFor 23 = .ok (.getfield 34, 3) := by decide +kernel
theorem dX9_waitsFor_26 : decode cX9_waitsFor 26 = .ok (.iload_n 2, 1) := by decide +kernel
theorem dX9_waitsFor_27 : decode cX9_waitsFor 27 = .ok (.iaload, 1) := by decide +kernel
theorem dX9_waitsFor_28 : decode cX9_waitsFor 28 = .ok (.if_icmp .ne 7, 3) := by decide +kernel
theorem dX9_waitsFor_31 : decode cX9_waitsFor 31 = .ok (.iconst 1, 1) := by decide +kernel
theorem dX9_waitsFor_32 : decode cX9_waitsFor 32 = .ok (.goto 4, 3) := by decide +kernel
theorem dX9_waitsFor_35 : decode cX9_waitsFor 35 = .ok (.iconst 0, 1) := by decide +kernel
theorem dX9_waitsFor_36 : decode cX9_waitsFor 36 = .ok (.ireturn, 1) := by decide +kernel
theorem dX9_leftBy_0 : decode cX9_leftBy 0 = .ok (.iconst 0, 1) := by decide +kernel
theorem dX9_leftBy_1 : decode cX9_leftBy 1 = .ok (.istore_n 2, 1) := by decide +kernel
theorem dX9_leftBy_2 : decode cX9_leftBy 2 = .ok (.iconst 0, 1) := by decide +kernel
theorem dX9_leftBy_3 : decode cX9_leftBy 3 = .ok (.istore_n 3, 1) := by decide +kernel
theorem dX9_leftBy_4 : decode cX9_leftBy 4 = .ok (.iload_n 3, 1) := by decide +kernel
theorem dX9_leftBy_5 : decode cX9_leftBy 5 = .ok (.aload_n 0, 1) := by decide +kernel
theorem dX9_leftBy_6 : decode cX9_leftBy 6 = .ok (.getfield 109, 3) := by decide +kernel
theorem dX9_leftBy_9 : decode cX9_leftBy 9 = .ok (.if_icmp .ge 45, 3) := by decide +kernel
theorem dX9_leftBy_12 : decode cX9_leftBy 12 = .ok (.iload_n 2, 1) := by decide +kernel
theorem dX9_leftBy_13 : decode cX9_leftBy 13 = .ok (.aload_n 0, 1) := by decide +kernel
theorem dX9_leftBy_14 : decode cX9_leftBy 14 = .ok (.iload_n 3, 1) := by decide +kernel
theorem dX9_leftBy_15 : decode cX9_leftBy 15 = .ok (.iload_n 1, 1) := by decide +kernel
theorem dX9_leftBy_16 : decode cX9_leftBy 16 = .ok (.invokevirtual 208, 3) := by decide +kernel
theorem dX9_leftBy_19 : decode cX9_leftBy 19 = .ok (.ifCond .eq 26, 3) := by decide +kernel
theorem dX9_leftBy_22 : decode cX9_leftBy 22 = .ok (.aload_n 0, 1) := by decide +kernel
theorem dX9_leftBy_23 : decode cX9_leftBy 23 = .ok (.iload_n 3, 1) := by decide +kernel
theorem dX9_leftBy_24 : decode cX9_leftBy 24 = .ok (.invokevirtual 211, 3) := by decide +kernel
theorem dX9_leftBy_27 : decode cX9_leftBy 27 = .ok (.aload_n 0, 1) := by decide +kernel
theorem dX9_leftBy_28 : decode cX9_leftBy 28 = .ok (.getfield 34, 3) := by decide +kernel
theorem dX9_leftBy_31 : decode cX9_leftBy 31 = .ok (.bipush 8, 2) := by decide +kernel
theorem dX9_leftBy_33 : decode cX9_leftBy 33 = .ok (.iload_n 1, 1) := by decide +kernel
theorem dX9_leftBy_34 : decode cX9_leftBy 34 = .ok (.iadd, 1) := by decide +kernel
theorem dX9_leftBy_35 : decode cX9_leftBy 35 = .ok (.iaload, 1) := by decide +kernel
theorem dX9_leftBy_36 : decode cX9_leftBy 36 = .ok (.if_icmp .le 9, 3) := by decide +kernel
theorem dX9_leftBy_39 : decode cX9_leftBy 39 = .ok (.iconst 1, 1) := by decide +kernel
theorem dX9_leftBy_40 : decode cX9_leftBy 40 = .ok (.iload_n 3, 1) := by decide +kernel
theorem dX9_leftBy_41 : decode cX9_leftBy 41 = .ok (.ishl, 1) := by decide +kernel
theorem dX9_leftBy_42 : decode cX9_leftBy 42 = .ok (.goto 4, 3) := by decide +kernel
theorem dX9_leftBy_45 : decode cX9_leftBy 45 = .ok (.iconst 0, 1) := by decide +kernel
theorem dX9_leftBy_46 : decode cX9_leftBy 46 = .ok (.ior, 1) := by decide +kernel
theorem dX9_leftBy_47 : decode cX9_leftBy 47 = .ok (.istore_n 2, 1) := by decide +kernel
theorem dX9_leftBy_48 : decode cX9_leftBy 48 = .ok (.iinc 3 1, 3) := by decide +kernel
theorem dX9_leftBy_51 : decode cX9_leftBy 51 = .ok (.goto (-47), 3) := by decide +kernel
theorem dX9_leftBy_54 : decode cX9_leftBy 54 = .ok (.iload_n 2, 1) := by decide +kernel
theorem dX9_leftBy_55 : decode cX9_leftBy 55 = .ok (.ireturn, 1) := by decide +kernel
theorem dX9_slowestOf_0 : decode cX9_slowestOf 0 = .ok (.iconst (-1), 1) := by decide +kernel
theorem dX9_slowestOf_1 : decode cX9_slowestOf 1 = .ok (.istore_n 2, 1) := by decide +kernel
theorem dX9_slowestOf_2 : decode cX9_slowestOf 2 = .ok (.iconst 0, 1) := by decide +kernel
theorem dX9_slowestOf_3 : decode cX9_slowestOf 3 = .ok (.istore_n 3, 1) := by decide +kernel
theorem dX9_slowestOf_4 : decode cX9_slowestOf 4 = .ok (.iload_n 3, 1) := by decide +kernel
theorem dX9_slowestOf_5 : decode cX9_slowestOf 5 = .ok (.aload_n 0, 1) := by decide +kernel
theorem dX9_slowestOf_6 : decode cX9_slowestOf 6 = .ok (.getfield 109, 3) := by decide +kernel
theorem dX9_slowestOf_9 : decode cX9_slowestOf 9 = .ok (.if_icmp .ge 40, 3) := by decide +kernel
theorem dX9_slowestOf_12 : decode cX9_slowestOf 12 = .ok (.iload_n 1, 1) := by decide +kernel
theorem dX9_slowestOf_13 : decode cX9_slowestOf 13 = .ok (.iload_n 3, 1) := by decide +kernel
theorem dX9_slowestOf_14 : decode cX9_slowestOf 14 = .ok (.invokestatic 204, 3) := by decide +kernel
theorem dX9_slowestOf_17 : decode cX9_slowestOf 17 = .ok (.ifCond .eq 24, 3) := by decide +kernel
theorem dX9_slowestOf_20 : decode cX9_slowestOf 20 = .ok (.iload_n 2, 1) := by decide +kernel
theorem dX9_slowestOf_21 : decode cX9_slowestOf 21 = .ok (.ifCond .lt 16, 3) := by decide +kernel
theorem dX9_slowestOf_24 : decode cX9_slowestOf 24 = .ok (.aload_n 0, 1) := by decide +kernel
theorem dX9_slowestOf_25 : decode cX9_slowestOf 25 = .ok (.iload_n 3, 1) := by decide +kernel
theorem dX9_slowestOf_26 : decode cX9_slowestOf 26 = .ok (.invokevirtual 211, 3) := by decide +kernel
theorem dX9_slowestOf_29 : decode cX9_slowestOf 29 = .ok (.aload_n 0, 1) := by decide +kernel
theorem dX9_slowestOf_30 : decode cX9_slowestOf 30 = .ok (.iload_n 2, 1) := by decide +kernel
theorem dX9_slowestOf_31 : decode cX9_slowestOf 31 = .ok (.invokevirtual 211, 3) := by decide +kernel
theorem dX9_slowestOf_34 : decode cX9_slowestOf 34 = .ok (.if_icmp .le 7, 3) := by decide +kernel
theorem dX9_slowestOf_37 : decode cX9_slowestOf 37 = .ok (.iload_n 3, 1) := by decide +kernel
theorem dX9_slowestOf_38 : decode cX9_slowestOf 38 = .ok (.goto 4, 3) := by decide +kernel
theorem dX9_slowestOf_41 : decode cX9_slowestOf 41 = .ok (.iload_n 2, 1) := by decide +kernel
theorem dX9_slowestOf_42 : decode cX9_slowestOf 42 = .ok (.istore_n 2, 1) := by decide +kernel
theorem dX9_slowestOf_43 : decode cX9_slowestOf 43 = .ok (.iinc 3 1, 3) := by decide +kernel
theorem dX9_slowestOf_46 : decode cX9_slowestOf 46 = .ok (.goto (-42), 3) := by decide +kernel
theorem dX9_slowestOf_49 : decode cX9_slowestOf 49 = .ok (.iload_n 2, 1) := by decide +kernel
theorem dX9_slowestOf_50 : decode cX9_slowestOf 50 = .ok (.ireturn, 1) := by decide +kernel
theorem dX9_whoIsIn_0 : decode cX9_whoIsIn 0 = .ok (.iconst 0, 1) := by decide +kernel
theorem dX9_whoIsIn_1 : decode cX9_whoIsIn 1 = .ok (.istore_n 2, 1) := by decide +kernel
theorem dX9_whoIsIn_2 : decode cX9_whoIsIn 2 = .ok (.iconst 0, 1) := by decide +kernel
theorem dX9_whoIsIn_3 : decode cX9_whoIsIn 3 = .ok (.istore_n 3, 1) := by decide +kernel
theorem dX9_whoIsIn_4 : decode cX9_whoIsIn 4 = .ok (.iload_n 3, 1) := by decide +kernel
theorem dX9_whoIsIn_5 : decode cX9_whoIsIn 5 = .ok (.aload_n 0, 1) := by decide +kernel
theorem dX9_whoIsIn_6 : decode cX9_whoIsIn 6 = .ok (.getfield 109, 3) := by decide +kernel
theorem dX9_whoIsIn_9 : decode cX9_whoIsIn 9 = .ok (.if_icmp .ge 32, 3) := by decide +kernel
theorem dX9_whoIsIn_12 : decode cX9_whoIsIn 12 = .ok (.iload_n 2, 1) := by decide +kernel
theorem dX9_whoIsIn_13 : decode cX9_whoIsIn 13 = .ok (.aload_n 0, 1) := by decide +kernel
theorem dX9_whoIsIn_14 : decode cX9_whoIsIn 14 = .ok (.getfield 34, 3) := by decide +kernel
theorem dX9_whoIsIn_17 : decode cX9_whoIsIn 17 = .ok (.bipush 23, 2) := by decide +kernel
theorem dX9_whoIsIn_19 : decode cX9_whoIsIn 19 = .ok (.iload_n 3, 1) := by decide +kernel
theorem dX9_whoIsIn_20 : decode cX9_whoIsIn 20 = .ok (.iadd, 1) := by decide +kernel
theorem dX9_whoIsIn_21 : decode cX9_whoIsIn 21 = .ok (.iaload, 1) := by decide +kernel
theorem dX9_whoIsIn_22 : decode cX9_whoIsIn 22 = .ok (.iload_n 1, 1) := by decide +kernel
theorem dX9_whoIsIn_23 : decode cX9_whoIsIn 23 = .ok (.if_icmp .ne 9, 3) := by decide +kernel
theorem dX9_whoIsIn_26 : decode cX9_whoIsIn 26 = .ok (.iconst 1, 1) := by decide +kernel
theorem dX9_whoIsIn_27 : decode cX9_whoIsIn 27 = .ok (.iload_n 3, 1) := by decide +kernel
theorem dX9_whoIsIn_28 : decode cX9_whoIsIn 28 = .ok (.ishl, 1) := by decide +kernel
theorem dX9_whoIsIn_29 : decode cX9_whoIsIn 29 = .ok (.goto 4, 3) := by decide +kernel
theorem dX9_whoIsIn_32 : decode cX9_whoIsIn 32 = .ok (.iconst 0, 1) := by decide +kernel
theorem dX9_whoIsIn_33 : decode cX9_whoIsIn 33 = .ok (.ior, 1) := by decide +kernel
theorem dX9_whoIsIn_34 : decode cX9_whoIsIn 34 = .ok (.istore_n 2, 1) := by decide +kernel
theorem dX9_whoIsIn_35 : decode cX9_whoIsIn 35 = .ok (.iinc 3 1, 3) := by decide +kernel
theorem dX9_whoIsIn_38 : decode cX9_whoIsIn 38 = .ok (.goto (-34), 3) := by decide +kernel
theorem dX9_whoIsIn_41 : decode cX9_whoIsIn 41 = .ok (.iload_n 2, 1) := by decide +kernel
theorem dX9_whoIsIn_42 : decode cX9_whoIsIn 42 = .ok (.ireturn, 1) := by decide +kernel
theorem dX9_whoIsBookedOn_0 : decode cX9_whoIsBookedOn 0 = .ok (.iconst 0, 1) := by decide +kernel
theorem dX9_whoIsBookedOn_1 : decode cX9_whoIsBookedOn 1 = .ok (.istore_n 2, 1) := by decide +kernel
theorem dX9_whoIsBookedOn_2 : decode cX9_whoIsBookedOn 2 = .ok (.iconst 0, 1) := by decide +kernel
theorem dX9_whoIsBookedOn_3 : decode cX9_whoIsBookedOn 3 = .ok (.istore_n 3, 1) := by decide +kernel
theorem dX9_whoIsBookedOn_4 : decode cX9_whoIsBookedOn 4 = .ok (.iload_n 3, 1) := by decide +kernel
theorem dX9_whoIsBookedOn_5 : decode cX9_whoIsBookedOn 5 = .ok (.aload_n 0, 1) := by decide +kernel
theorem dX9_whoIsBookedOn_6 : decode cX9_whoIsBookedOn 6 = .ok (.getfield 109, 3) := by decide +kernel
theorem dX9_whoIsBookedOn_9 : decode cX9_whoIsBookedOn 9 = .ok (.if_icmp .ge 32, 3) := by decide +kernel
theorem dX9_whoIsBookedOn_12 : decode cX9_whoIsBookedOn 12 = .ok (.iload_n 2, 1) := by decide +kernel
theorem dX9_whoIsBookedOn_13 : decode cX9_whoIsBookedOn 13 = .ok (.aload_n 0, 1) := by decide +kernel
theorem dX9_whoIsBookedOn_14 : decode cX9_whoIsBookedOn 14 = .ok (.getfield 34, 3) := by decide +kernel
theorem dX9_whoIsBookedOn_17 : decode cX9_whoIsBookedOn 17 = .ok (.bipush 37, 2) := by decide +kernel
theorem dX9_whoIsBookedOn_19 : decode cX9_whoIsBookedOn 19 = .ok (.iload_n 3, 1) := by decide +kernel
theorem dX9_whoIsBookedOn_20 : decode cX9_whoIsBookedOn 20 = .ok (.iadd, 1) := by decide +kernel
theorem dX9_whoIsBookedOn_21 : decode cX9_whoIsBookedOn 21 = .ok (.iaload, 1) := by decide +kernel
theorem dX9_whoIsBookedOn_22 : decode cX9_whoIsBookedOn 22 = .ok (.iload_n 1, 1) := by decide +kernel
theorem dX9_whoIsBookedOn_23 : decode cX9_whoIsBookedOn 23 = .ok (.if_icmp .ne 9, 3) := by decide +kernel
theorem dX9_whoIsBookedOn_26 : decode cX9_whoIsBookedOn 26 = .ok (.iconst 1, 1) := by decide +kernel
theorem dX9_whoIsBookedOn_27 : decode cX9_whoIsBookedOn 27 = .ok (.iload_n 3, 1) := by decide +kernel
theorem dX9_whoIsBookedOn_28 : decode cX9_whoIsBookedOn 28 = .ok (.ishl, 1) := by decide +kernel
theorem dX9_whoIsBookedOn_29 : decode cX9_whoIsBookedOn 29 = .ok (.goto 4, 3) := by decide +kernel
theorem dX9_whoIsBookedOn_32 : decode cX9_whoIsBookedOn 32 = .ok (.iconst 0, 1) := by decide +kernel
theorem dX9_whoIsBookedOn_33 : decode cX9_whoIsBookedOn 33 = .ok (.ior, 1) := by decide +kernel
theorem dX9_whoIsBookedOn_34 : decode cX9_whoIsBookedOn 34 = .ok (.istore_n 2, 1) := by decide +kernel
theorem dX9_whoIsBookedOn_35 : decode cX9_whoIsBookedOn 35 = .ok (.iinc 3 1, 3) := by decide +kernel
theorem dX9_whoIsBookedOn_38 : decode cX9_whoIsBookedOn 38 = .ok (.goto (-34), 3) := by decide +kernel
theorem dX9_whoIsBookedOn_41 : decode cX9_whoIsBookedOn 41 = .ok (.iload_n 2, 1) := by decide +kernel
theorem dX9_whoIsBookedOn_42 : decode cX9_whoIsBookedOn 42 = .ok (.ireturn, 1) := by decide +kernel
theorem dX9_ownedOnes_0 : decode cX9_ownedOnes 0 = .ok (.iconst 0, 1) := by decide +kernel
theorem dX9_ownedOnes_1 : decode cX9_ownedOnes 1 = .ok (.istore_n 1, 1) := by decide +kernel
theorem dX9_ownedOnes_2 : decode cX9_ownedOnes 2 = .ok (.iconst 0, 1) := by decide +kernel
theorem dX9_ownedOnes_3 : decode cX9_ownedOnes 3 = .ok (.istore_n 2, 1) := by decide +kernel
theorem dX9_ownedOnes_4 : decode cX9_ownedOnes 4 = .ok (.iload_n 2, 1) := by decide +kernel
theorem dX9_ownedOnes_5 : decode cX9_ownedOnes 5 = .ok (.aload_n 0, 1) := by decide +kernel
theorem dX9_ownedOnes_6 : decode cX9_ownedOnes 6 = .ok (.getfield 102, 3) := by decide +kernel
theorem dX9_ownedOnes_9 : decode cX9_ownedOnes 9 = .ok (.if_icmp .ge 32, 3) := by decide +kernel
theorem dX9_ownedOnes_12 : decode cX9_ownedOnes 12 = .ok (.iload_n 1, 1) := by decide +kernel
theorem dX9_ownedOnes_13 : decode cX9_ownedOnes 13 = .ok (.aload_n 0, 1) := by decide +kernel
theorem dX9_ownedOnes_14 : decode cX9_ownedOnes 14 = .ok (.getfield 34, 3) := by decide +kernel
theorem dX9_ownedOnes_17 : decode cX9_ownedOnes 17 = .ok (.bipush 12, 2) := by decide +kernel
theorem dX9_ownedOnes_19 : decode cX9_ownedOnes 19 = .ok (.iload_n 2, 1) := by decide +kernel
theorem dX9_ownedOnes_20 : decode cX9_ownedOnes 20 = .ok (.iadd, 1) := by decide +kernel
theorem dX9_ownedOnes_21 : decode cX9_ownedOnes 21 = .ok (.iaload, 1) := by decide +kernel
theorem dX9_ownedOnes_22 : decode cX9_ownedOnes 22 = .ok (.iconst (-1), 1) := by decide +kernel
theorem dX9_ownedOnes_23 : decode cX9_ownedOnes 23 = .ok (.if_icmp .eq 9, 3) := by decide +kernel
theorem dX9_ownedOnes_26 : decode cX9_ownedOnes 26 = .ok (.iconst 1, 1) := by decide +kernel
theorem dX9_ownedOnes_27 : decode cX9_ownedOnes 27 = .ok (.iload_n 2, 1) := by decide +kernel
theorem dX9_ownedOnes_28 : decode cX9_ownedOnes 28 = .ok (.ishl, 1) := by decide +kernel
theorem dX9_ownedOnes_29 : decode cX9_ownedOnes 29 = .ok (.goto 4, 3) := by decide +kernel
theorem dX9_ownedOnes_32 : decode cX9_ownedOnes 32 = .ok (.iconst 0, 1) := by decide +kernel
theorem dX9_ownedOnes_33 : decode cX9_ownedOnes 33 = .ok (.ior, 1) := by decide +kernel
theorem dX9_ownedOnes_34 : decode cX9_ownedOnes 34 = .ok (.istore_n 1, 1) := by decide +kernel
theorem dX9_ownedOnes_35 : decode cX9_ownedOnes 35 = .ok (.iinc 2 1, 3) := by decide +kernel
theorem dX9_ownedOnes_38 : decode cX9_ownedOnes 38 = .ok (.goto (-34), 3) := by decide +kernel
theorem dX9_ownedOnes_41 : decode cX9_ownedOnes 41 = .ok (.iload_n 1, 1) := by decide +kernel
theorem dX9_ownedOnes_42 : decode cX9_ownedOnes 42 = .ok (.ireturn, 1) := by decide +kernel
theorem dX9_emptyOnes_0 : decode cX9_emptyOnes 0 = .ok (.iconst 0, 1) := by decide +kernel
theorem dX9_emptyOnes_1 : decode cX9_emptyOnes 1 = .ok (.istore_n 1, 1) := by decide +kernel
theorem dX9_emptyOnes_2 : decode cX9_emptyOnes 2 = .ok (.iconst 0, 1) := by decide +kernel
theorem dX9_emptyOnes_3 : decode cX9_emptyOnes 3 = .ok (.istore_n 2, 1) := by decide +kernel
theorem dX9_emptyOnes_4 : decode cX9_emptyOnes 4 = .ok (.iload_n 2, 1) := by decide +kernel
theorem dX9_emptyOnes_5 : decode cX9_emptyOnes 5 = .ok (.aload_n 0, 1) := by decide +kernel
theorem dX9_emptyOnes_6 : decode cX9_emptyOnes 6 = .ok (.getfield 102, 3) := by decide +kernel
theorem dX9_emptyOnes_9 : decode cX9_emptyOnes 9 = .ok (.if_icmp .ge 33, 3) := by decide +kernel
theorem dX9_emptyOnes_12 : decode cX9_emptyOnes 12 = .ok (.iload_n 1, 1) := by decide +kernel
theorem dX9_emptyOnes_13 : decode cX9_emptyOnes 13 = .ok (.aload_n 0, 1) := by decide +kernel
theorem dX9_emptyOnes_14 : decode cX9_emptyOnes 14 = .ok (.iload_n 2, 1) := by decide +kernel
theorem dX9_emptyOnes_15 : decode cX9_emptyOnes 15 = .ok (.invokevirtual 214, 3) := by decide +kernel
theorem dX9_emptyOnes_18 : decode cX9_emptyOnes 18 = .ok (.aload_n 0, 1) := by decide +kernel
theorem dX9_emptyOnes_19 : decode cX9_emptyOnes 19 = .ok (.iload_n 2, 1) := by decide +kernel
theorem dX9_emptyOnes_20 : decode cX9_emptyOnes 20 = .ok (.invokevirtual 217, 3) := by decide +kernel
theorem dX9_emptyOnes_23 : decode cX9_emptyOnes 23 = .ok (.ior, 1) := by decide +kernel
theorem dX9_emptyOnes_24 : decode cX9_emptyOnes 24 = .ok (.ifCond .ne 9, 3) := by decide +kernel
theorem dX9_emptyOnes_27 : decode cX9_emptyOnes 27 = .ok (.iconst 1, 1) := by decide +kernel
theorem dX9_emptyOnes_28 : decode cX9_emptyOnes 28 = .ok (.iload_n 2, 1) := by decide +kernel
theorem dX9_emptyOnes_29 : decode cX9_emptyOnes 29 = .ok (.ishl, 1) := by decide +kernel
theorem dX9_emptyOnes_30 : decode cX9_emptyOnes 30 = .ok (.goto 4, 3) := by decide +kernel
theorem dX9_emptyOnes_33 : decode cX9_emptyOnes 33 = .ok (.iconst 0, 1) := by decide +kernel
theorem dX9_emptyOnes_34 : decode cX9_emptyOnes 34 = .ok (.ior, 1) := by decide +kernel
theorem dX9_emptyOnes_35 : decode cX9_emptyOnes 35 = .ok (.istore_n 1, 1) := by decide +kernel
theorem dX9_emptyOnes_36 : decode cX9_emptyOnes 36 = .ok (.iinc 2 1, 3) := by decide +kernel
theorem dX9_emptyOnes_39 : decode cX9_emptyOnes 39 = .ok (.goto (-35), 3) := by decide +kernel
theorem dX9_emptyOnes_42 : decode cX9_emptyOnes 42 = .ok (.iload_n 1, 1) := by decide +kernel
theorem dX9_emptyOnes_43 : decode cX9_emptyOnes 43 = .ok (.ireturn, 1) := by decide +kernel
theorem dX9_fleet_0 : decode cX9_fleet 0 = .ok (.iconst (-1), 1) := by decide +kernel
theorem dX9_fleet_1 : decode cX9_fleet 1 = .ok (.istore_n 1, 1) := by decide +kernel
theorem dX9_fleet_2 : decode cX9_fleet 2 = .ok (.iconst 0, 1) := by decide +kernel
theorem dX9_fleet_3 : decode cX9_fleet 3 = .ok (.istore_n 2, 1) := by decide +kernel
theorem dX9_fleet_4 : decode cX9_fleet 4 = .ok (.iload_n 2, 1) := by decide +kernel
theorem dX9_fleet_5 : decode cX9_fleet 5 = .ok (.aload_n 0, 1) := by decide +kernel
theorem dX9_fleet_6 : decode cX9_fleet 6 = .ok (.getfield 109, 3) := by decide +kernel
theorem dX9_fleet_9 : decode cX9_fleet 9 = .ok (.if_icmp .ge 91, 3) := by decide +kernel
theorem dX9_fleet_12 : decode cX9_fleet 12 = .ok (.aload_n 0, 1) := by decide +kernel
theorem dX9_fleet_13 : decode cX9_fleet 13 = .ok (.iload_n 2, 1) := by decide +kernel
theorem dX9_fleet_14 : decode cX9_fleet 14 = .ok (.invokevirtual 197, 3) := by decide +kernel
theorem dX9_fleet_17 : decode cX9_fleet 17 = .ok (.invokestatic 220, 3) := by decide +kernel
theorem dX9_fleet_20 : decode cX9_fleet 20 = .ok (.istore_n 3, 1) := by decide +kernel
theorem dX9_fleet_21 : decode cX9_fleet 21 = .ok (.iload_n 1, 1) := by decide +kernel
theorem dX9_fleet_22 : decode cX9_fleet 22 = .ok (.ifCond .ge 7, 3) := by decide +kernel
theorem dX9_fleet_25 : decode cX9_fleet 25 = .ok (.iconst 0, 1) := by decide +kernel
theorem dX9_fleet_26 : decode cX9_fleet 26 = .ok (.goto 11, 3) := by decide +kernel
theorem dX9_fleet_29 : decode cX9_fleet 29 = .ok (.aload_n 0, 1) := by decide +kernel
theorem dX9_fleet_30 : decode cX9_fleet 30 = .ok (.iload_n 1, 1) := by decide +kernel
theorem dX9_fleet_31 : decode cX9_fleet 31 = .ok (.invokevirtual 197, 3) := by decide +kernel
theorem dX9_fleet_34 : decode cX9_fleet 34 = .ok (.invokestatic 220, 3) := by decide +kernel
theorem dX9_fleet_37 : decode cX9_fleet 37 = .ok (.istore 4, 2) := by decide +kernel
theorem dX9_fleet_39 : decode cX9_fleet 39 = .ok (.iload_n 3, 1) := by decide +kernel
theorem dX9_fleet_40 : decode cX9_fleet 40 = .ok (.iload 4, 2) := by decide +kernel
theorem dX9_fleet_42 : decode cX9_fleet 42 = .ok (.if_icmp .ne 32, 3) := by decide +kernel
theorem dX9_fleet_45 : decode cX9_fleet 45 = .ok (.iload_n 1, 1) := by decide +kernel
theorem dX9_fleet_46 : decode cX9_fleet 46 = .ok (.ifCond .lt 28, 3) := by decide +kernel
theorem dX9_fleet_49 : decode cX9_fleet 49 = .ok (.aload_n 0, 1) := by decide +kernel
theorem dX9_fleet_50 : decode cX9_fleet 50 = .ok (.getfield 34, 3) := by decide +kernel
theorem dX9_fleet_53 : decode cX9_fleet 53 = .ok (.bipush 44, 2) := by decide +kernel
theorem dX9_fleet_55 : decode cX9_fleet 55 = .ok (.iload_n 2, 1) := by decide +kernel
theorem dX9_fleet_56 : decode cX9_fleet 56 = .ok (.iadd, 1) := by decide +kernel
theorem dX9_fleet_57 : decode cX9_fleet 57 = .ok (.iaload, 1) := by decide +kernel
theorem dX9_fleet_58 : decode cX9_fleet 58 = .ok (.aload_n 0, 1) := by decide +kernel
theorem dX9_fleet_59 : decode cX9_fleet 59 = .ok (.getfield 34, 3) := by decide +kernel
theorem dX9_fleet_62 : decode cX9_fleet 62 = .ok (.bipush 44, 2) := by decide +kernel
theorem dX9_fleet_64 : decode cX9_fleet 64 = .ok (.iload_n 1, 1) := by decide +kernel
theorem dX9_fleet_65 : decode cX9_fleet 65 = .ok (.iadd, 1) := by decide +kernel
theorem dX9_fleet_66 : decode cX9_fleet 66 = .ok (.iaload, 1) := by decide +kernel
theorem dX9_fleet_67 : decode cX9_fleet 67 = .ok (.if_icmp .le 7, 3) := by decide +kernel
theorem dX9_fleet_70 : decode cX9_fleet 70 = .ok (.iconst 1, 1) := by decide +kernel
theorem dX9_fleet_71 : decode cX9_fleet 71 = .ok (.goto 4, 3) := by decide +kernel
theorem dX9_fleet_74 : decode cX9_fleet 74 = .ok (.iconst 0, 1) := by decide +kernel
theorem dX9_fleet_75 : decode cX9_fleet 75 = .ok (.istore 5, 2) := by decide +kernel
theorem dX9_fleet_77 : decode cX9_fleet 77 = .ok (.iload_n 3, 1) := by decide +kernel
theorem dX9_fleet_78 : decode cX9_fleet 78 = .ok (.iload 4, 2) := by decide +kernel
theorem dX9_fleet_80 : decode cX9_fleet 80 = .ok (.if_icmp .gt 8, 3) := by decide +kernel
theorem dX9_fleet_83 : decode cX9_fleet 83 = .ok (.iload 5, 2) := by decide +kernel
theorem dX9_fleet_85 : decode cX9_fleet 85 = .ok (.ifCond .eq 7, 3) := by decide +kernel
theorem dX9_fleet_88 : decode cX9_fleet 88 = .ok (.iload_n 2, 1) := by decide +kernel
theorem dX9_fleet_89 : decode cX9_fleet 89 = .ok (.goto 4, 3) := by decide +kernel
theorem dX9_fleet_92 : decode cX9_fleet 92 = .ok (.iload_n 1, 1) := by decide +kernel
theorem dX9_fleet_93 : decode cX9_fleet 93 = .ok (.istore_n 1, 1) := by decide +kernel
theorem dX9_fleet_94 : decode cX9_fleet 94 = .ok (.iinc 2 1, 3) := by decide +kernel
theorem dX9_fleet_97 : decode cX9_fleet 97 = .ok (.goto (-93), 3) := by decide +kernel
theorem dX9_fleet_100 : decode cX9_fleet 100 = .ok (.iload_n 1, 1) := by decide +kernel
theorem dX9_fleet_101 : decode cX9_fleet 101 = .ok (.ireturn, 1) := by decide +kernel
theorem dX9_told_0 : decode cX9_told 0 = .ok (.iload_n 1, 1) := by decide +kernel
theorem dX9_told_1 : decode cX9_told 1 = .ok (.tableswitch 141 0 12 #[67, 72, 80, 85, 90, 95, 103, 108, 113, 118, 126, 131, 136], 67) := by decide +kernel
theorem dX9_told_68 : decode cX9_told 68 = .ok (.aload_n 0, 1) := by decide +kernel
theorem dX9_told_69 : decode cX9_told 69 = .ok (.getfield 99, 3) := by decide +kernel
theorem dX9_told_72 : decode cX9_told 72 = .ok (.ireturn, 1) := by decide +kernel
theorem dX9_told_73 : decode cX9_told 73 = .ok (.aload_n 0, 1) := by decide +kernel
theorem dX9_told_74 : decode cX9_told 74 = .ok (.getfield 34, 3) := by decide +kernel
theorem dX9_told_77 : decode cX9_told 77 = .ok (.bipush 51, 2) := by decide +kernel
theorem dX9_told_79 : decode cX9_told 79 = .ok (.iaload, 1) := by decide +kernel
theorem dX9_told_80 : decode cX9_told 80 = .ok (.ireturn, 1) := by decide +kernel
theorem dX9_told_81 : decode cX9_told 81 = .ok (.aload_n 0, 1) := by decide +kernel
theorem dX9_told_82 : decode cX9_told 82 = .ok (.getfield 102, 3) := by decide +kernel
theorem dX9_told_85 : decode cX9_told 85 = .ok (.ireturn, 1) := by decide +kernel
theorem dX9_told_86 : decode cX9_told 86 = .ok (.aload_n 0, 1) := by decide +kernel
theorem dX9_told_87 : decode cX9_told 87 = .ok (.getfield 109, 3) := by decide +kernel
theorem dX9_told_90 : decode cX9_told 90 = .ok (.ireturn, 1) := by decide +kernel
theorem dX9_told_91 : decode cX9_told 91 = .ok (.aload_n 0, 1) := by decide +kernel
theorem dX9_told_92 : decode cX9_told 92 = .ok (.getfield 115, 3) := by decide +kernel
theorem dX9_told_95 : decode cX9_told 95 = .ok (.ireturn, 1) := by decide +kernel
theorem dX9_told_96 : decode cX9_told 96 = .ok (.aload_n 0, 1) := by decide +kernel
theorem dX9_told_97 : decode cX9_told 97 = .ok (.getfield 34, 3) := by decide +kernel
theorem dX9_told_100 : decode cX9_told 100 = .ok (.bipush 52, 2) := by decide +kernel
theorem dX9_told_102 : decode cX9_told 102 = .ok (.iaload, 1) := by decide +kernel
theorem dX9_told_103 : decode cX9_told 103 = .ok (.ireturn, 1) := by decide +kernel
theorem dX9_told_104 : decode cX9_told 104 = .ok (.aload_n 0, 1) := by decide +kernel
theorem dX9_told_105 : decode cX9_told 105 = .ok (.invokevirtual 223, 3) := by decide +kernel
theorem dX9_told_108 : decode cX9_told 108 = .ok (.ireturn, 1) := by decide +kernel
theorem dX9_told_109 : decode cX9_told 109 = .ok (.aload_n 0, 1) := by decide +kernel
theorem dX9_told_110 : decode cX9_told 110 = .ok (.invokevirtual 226, 3) := by decide +kernel
theorem dX9_told_113 : decode cX9_told 113 = .ok (.ireturn, 1) := by decide +kernel
theorem dX9_told_114 : decode cX9_told 114 = .ok (.aload_n 0, 1) := by decide +kernel
theorem dX9_told_115 : decode cX9_told 115 = .ok (.invokevirtual 229, 3) := by decide +kernel
theorem dX9_told_118 : decode cX9_told 118 = .ok (.ireturn, 1) := by decide +kernel
theorem dX9_told_119 : decode cX9_told 119 = .ok (.aload_n 0, 1) := by decide +kernel
theorem dX9_told_120 : decode cX9_told 120 = .ok (.getfield 34, 3) := by decide +kernel
theorem dX9_told_123 : decode cX9_told 123 = .ok (.bipush 53, 2) := by decide +kernel
theorem dX9_told_125 : decode cX9_told 125 = .ok (.iaload, 1) := by decide +kernel
theorem dX9_told_126 : decode cX9_told 126 = .ok (.ireturn, 1) := by decide +kernel
theorem dX9_told_127 : decode cX9_told 127 = .ok (.aload_n 0, 1) := by decide +kernel
theorem dX9_told_128 : decode cX9_told 128 = .ok (.getfield 188, 3) := by decide +kernel
theorem dX9_told_131 : decode cX9_told 131 = .ok (.ireturn, 1) := by decide +kernel
theorem dX9_told_132 : decode cX9_told 132 = .ok (.aload_n 0, 1) := by decide +kernel
theorem dX9_told_133 : decode cX9_told 133 = .ok (.getfield 191, 3) := by decide +kernel
theorem dX9_told_136 : decode cX9_told 136 = .ok (.ireturn, 1) := by decide +kernel
theorem dX9_told_137 : decode cX9_told 137 = .ok (.aload_n 0, 1) := by decide +kernel
theorem dX9_told_138 : decode cX9_told 138 = .ok (.getfield 194, 3) := by decide +kernel
theorem dX9_told_141 : decode cX9_told 141 = .ok (.ireturn, 1) := by decide +kernel
theorem dX9_told_142 : decode cX9_told 142 = .ok (.ldc 114, 2) := by decide +kernel
theorem dX9_told_144 : decode cX9_told 144 = .ok (.ireturn, 1) := by decide +kernel
theorem dX9_coach_0 : decode cX9_coach 0 = .ok (.aload_n 0, 1) := by decide +kernel
theorem dX9_coach_1 : decode cX9_coach 1 = .ok (.iload_n 1, 1) := by decide +kernel
theorem dX9_coach_2 : decode cX9_coach 2 = .ok (.invokevirtual 232, 3) := by decide +kernel
theorem dX9_coach_5 : decode cX9_coach 5 = .ok (.ifCond .ne 6, 3) := by decide +kernel
theorem dX9_coach_8 : decode cX9_coach 8 = .ok (.ldc 236, 2) := by decide +kernel
theorem dX9_coach_10 : decode cX9_coach 10 = .ok (.ireturn, 1) := by decide +kernel
theorem dX9_coach_11 : decode cX9_coach 11 = .ok (.iload_n 2, 1) := by decide +kernel
theorem dX9_coach_12 : decode cX9_coach 12 = .ok (.tableswitch 88 0 5 #[40, 47, 56, 66, 76, 82], 40) := by decide +kernel
theorem dX9_coach_52 : decode cX9_coach 52 = .ok (.aload_n 0, 1) := by decide +kernel
theorem dX9_coach_53 : decode cX9_coach 53 = .ok (.getfield 34, 3) := by decide +kernel
theorem dX9_coach_56 : decode cX9_coach 56 = .ok (.iload_n 1, 1) := by decide +kernel
theorem dX9_coach_57 : decode cX9_coach 57 = .ok (.iaload, 1) := by decide +kernel
theorem dX9_coach_58 : decode cX9_coach 58 = .ok (.ireturn, 1) := by decide +kernel
theorem dX9_coach_59 : decode cX9_coach 59 = .ok (.aload_n 0, 1) := by decide +kernel
theorem dX9_coach_60 : decode cX9_coach 60 = .ok (.getfield 34, 3) := by decide +kernel
theorem dX9_coach_63 : decode cX9_coach 63 = .ok (.iconst 4, 1) := by decide +kernel
theorem dX9_coach_64 : decode cX9_coach 64 = .ok (.iload_n 1, 1) := by decide +kernel
theorem dX9_coach_65 : decode cX9_coach 65 = .ok (.iadd, 1) := by decide +kernel
theorem dX9_coach_66 : decode cX9_coach 66 = .ok (.iaload, 1) := by decide +kernel
theorem dX9_coach_67 : decode cX9_coach 67 = .ok (.ireturn, 1) := by decide +kernel
theorem dX9_coach_68 : decode cX9_coach 68 = .ok (.aload_n 0, 1) := by decide +kernel
theorem dX9_coach_69 : decode cX9_coach 69 = .ok (.getfield 34, 3) := by decide +kernel
theorem dX9_coach_72 : decode cX9_coach 72 = .ok (.bipush 8, 2) := by decide +kernel
theorem dX9_coach_74 : decode cX9_coach 74 = .ok (.iload_n 1, 1) := by decide +kernel
theorem dX9_coach_75 : decode cX9_coach 75 = .ok (.iadd, 1) := by decide +kernel
theorem dX9_coach_76 : decode cX9_coach 76 = .ok (.iaload, 1) := by decide +kernel
theorem dX9_coach_77 : decode cX9_coach 77 = .ok (.ireturn, 1) := by decide +kernel
theorem dX9_coach_78 : decode cX9_coach 78 = .ok (.aload_n 0, 1) := by decide +kernel
theorem dX9_coach_79 : decode cX9_coach 79 = .ok (.getfield 34, 3) := by decide +kernel
theorem dX9_coach_82 : decode cX9_coach 82 = .ok (.bipush 12, 2) := by decide +kernel
theorem dX9_coach_84 : decode cX9_coach 84 = .ok (.iload_n 1, 1) := by decide +kernel
theorem dX9_coach_85 : decode cX9_coach 85 = .ok (.iadd, 1) := by decide +kernel
theorem dX9_coach_86 : decode cX9_coach 86 = .ok (.iaload, 1) := by decide +kernel
theorem dX9_coach_87 : decode cX9_coach 87 = .ok (.ireturn, 1) := by decide +kernel
theorem dX9_coach_88 : decode cX9_coach 88 = .ok (.aload_n 0, 1) := by decide +kernel
theorem dX9_coach_89 : decode cX9_coach 89 = .ok (.iload_n 1, 1) := by decide +kernel
theorem dX9_coach_90 : decode cX9_coach 90 = .ok (.invokevirtual 214, 3) := by decide +kernel
theorem dX9_coach_93 : decode cX9_coach 93 = .ok (.ireturn, 1) := by decide +kernel
theorem dX9_coach_94 : decode cX9_coach 94 = .ok (.aload_n 0, 1) := by decide +kernel
theorem dX9_coach_95 : decode cX9_coach 95 = .ok (.iload_n 1, 1) := by decide +kernel
theorem dX9_coach_96 : decode cX9_coach 96 = .ok (.invokevirtual 217, 3) := by decide +kernel
theorem dX9_coach_99 : decode cX9_coach 99 = .ok (.ireturn, 1) := by decide +kernel
theorem dX9_coach_100 : decode cX9_coach 100 = .ok (.ldc 114, 2) := by decide +kernel
theorem dX9_coach_102 : decode cX9_coach 102 = .ok (.ireturn, 1) := by decide +kernel
theorem dX9_passenger_0 : decode cX9_passenger 0 = .ok (.aload_n 0, 1) := by decide +kernel
theorem dX9_passenger_1 : decode cX9_passenger 1 = .ok (.iload_n 1, 1) := by decide +kernel
theorem dX9_passenger_2 : decode cX9_passenger 2 = .ok (.invokevirtual 237, 3) := by decide +kernel
theorem dX9_passenger_5 : decode cX9_passenger 5 = .ok (.ifCond .ne 6, 3) := by decide +kernel
theorem dX9_passenger_8 : decode cX9_passenger 8 = .ok (.ldc 236, 2) := by decide +kernel
theorem dX9_passenger_10 : decode cX9_passenger 10 = .ok (.ireturn, 1) := by decide +kernel
theorem dX9_passenger_11 : decode cX9_passenger 11 = .ok (.iload_n 2, 1) := by decide +kernel
theorem dX9_passenger_12 : decode cX9_passenger 12 = .ok (.tableswitch 131 0 8 #[52, 59, 69, 79, 89, 96, 106, 119, 125], 52) := by decide +kernel
theorem dX9_passenger_64 : decode cX9_passenger 64 = .ok (.aload_n 0, 1) := by decide +kernel
theorem dX9_passenger_65 : decode cX9_passenger 65 = .ok (.getfield 19, 3) := by decide +kernel
theorem dX9_passenger_68 : decode cX9_passenger 68 = .ok (.iload_n 1, 1) := by decide +kernel
theorem dX9_passenger_69 : decode cX9_passenger 69 = .ok (.iaload, 1) := by decide +kernel
theorem dX9_passenger_70 : decode cX9_passenger 70 = .ok (.ireturn, 1) := by decide +kernel
theorem dX9_passenger_71 : decode cX9_passenger 71 = .ok (.aload_n 0, 1) := by decide +kernel
theorem dX9_passenger_72 : decode cX9_passenger 72 = .ok (.getfield 34, 3) := by decide +kernel
theorem dX9_passenger_75 : decode cX9_passenger 75 = .ok (.bipush 16, 2) := by decide +kernel
theorem dX9_passenger_77 : decode cX9_passenger 77 = .ok (.iload_n 1, 1) := by decide +kernel
theorem dX9_passenger_78 : decode cX9_passenger 78 = .ok (.iadd, 1) := by decide +kernel
theorem dX9_passenger_79 : decode cX9_passenger 79 = .ok (.iaload, 1) := by decide +kernel
theorem dX9_passenger_80 : decode cX9_passenger 80 = .ok (.ireturn, 1) := by decide +kernel
theorem dX9_passenger_81 : decode cX9_passenger 81 = .ok (.aload_n 0, 1) := by decide +kernel
theorem dX9_passenger_82 : decode cX9_passenger 82 = .ok (.getfield 34, 3) := by decide +kernel
theorem dX9_passenger_85 : decode cX9_passenger 85 = .ok (.bipush 23, 2) := by decide +kernel
theorem dX9_passenger_87 : decode cX9_passenger 87 = .ok (.iload_n 1, 1) := by decide +kernel
theorem dX9_passenger_88 : decode cX9_passenger 88 = .ok (.iadd, 1) := by decide +kernel
theorem dX9_passenger_89 : decode cX9_passenger 89 = .ok (.iaload, 1) := by decide +kernel
theorem dX9_passenger_90 : decode cX9_passenger 90 = .ok (.ireturn, 1) := by decide +kernel
theorem dX9_passenger_91 : decode cX9_passenger 91 = .ok (.aload_n 0, 1) := by decide +kernel
theorem dX9_passenger_92 : decode cX9_passenger 92 = .ok (.getfield 34, 3) := by decide +kernel
theorem dX9_passenger_95 : decode cX9_passenger 95 = .ok (.bipush 30, 2) := by decide +kernel
theorem dX9_passenger_97 : decode cX9_passenger 97 = .ok (.iload_n 1, 1) := by decide +kernel
theorem dX9_passenger_98 : decode cX9_passenger 98 = .ok (.iadd, 1) := by decide +kernel
theorem dX9_passenger_99 : decode cX9_passenger 99 = .ok (.iaload, 1) := by decide +kernel
theorem dX9_passenger_100 : decode cX9_passenger 100 = .ok (.ireturn, 1) := by decide +kernel
theorem dX9_passenger_101 : decode cX9_passenger 101 = .ok (.aload_n 0, 1) := by decide +kernel
theorem dX9_passenger_102 : decode cX9_passenger 102 = .ok (.getfield 28, 3) := by decide +kernel
theorem dX9_passenger_105 : decode cX9_passenger 105 = .ok (.iload_n 1, 1) := by decide +kernel
theorem dX9_passenger_106 : decode cX9_passenger 106 = .ok (.iaload, 1) := by decide +kernel
theorem dX9_passenger_107 : decode cX9_passenger 107 = .ok (.ireturn, 1) := by decide +kernel
theorem dX9_passenger_108 : decode cX9_passenger 108 = .ok (.aload_n 0, 1) := by decide +kernel
theorem dX9_passenger_109 : decode cX9_passenger 109 = .ok (.getfield 34, 3) := by decide +kernel
theorem dX9_passenger_112 : decode cX9_passenger 112 = .ok (.bipush 37, 2) := by decide +kernel
theorem dX9_passenger_114 : decode cX9_passenger 114 = .ok (.iload_n 1, 1) := by decide +kernel
theorem dX9_passenger_115 : decode cX9_passenger 115 = .ok (.iadd, 1) := by decide +kernel
theorem dX9_passenger_116 : decode cX9_passenger 116 = .ok (.iaload, 1) := by decide +kernel
theorem dX9_passenger_117 : decode cX9_passenger 117 = .ok (.ireturn, 1) := by decide +kernel
theorem dX9_passenger_118 : decode cX9_passenger 118 = .ok (.aload_n 0, 1) := by decide +kernel
theorem dX9_passenger_119 : decode cX9_passenger 119 = .ok (.getfield 34, 3) := by decide +kernel
theorem dX9_passenger_122 : decode cX9_passenger 122 = .ok (.bipush 44, 2) := by decide +kernel
theorem dX9_passenger_124 : decode cX9_passenger 124 = .ok (.iload_n 1, 1) := by decide +kernel
theorem dX9_passenger_125 : decode cX9_passenger 125 = .ok (.iadd, 1) := by decide +kernel
theorem dX9_passenger_126 : decode cX9_passenger 126 = .ok (.iaload, 1) := by decide +kernel
theorem dX9_passenger_127 : decode cX9_passenger 127 = .ok (.ldc 240, 2) := by decide +kernel
theorem dX9_passenger_129 : decode cX9_passenger 129 = .ok (.iadd, 1) := by decide +kernel
theorem dX9_passenger_130 : decode cX9_passenger 130 = .ok (.ireturn, 1) := by decide +kernel
theorem dX9_passenger_131 : decode cX9_passenger 131 = .ok (.aload_n 0, 1) := by decide +kernel
theorem dX9_passenger_132 : decode cX9_passenger 132 = .ok (.iload_n 1, 1) := by decide +kernel
theorem dX9_passenger_133 : decode cX9_passenger 133 = .ok (.invokevirtual 197, 3) := by decide +kernel
theorem dX9_passenger_136 : decode cX9_passenger 136 = .ok (.ireturn, 1) := by decide +kernel
theorem dX9_passenger_137 : decode cX9_passenger 137 = .ok (.aload_n 0, 1) := by decide +kernel
theorem dX9_passenger_138 : decode cX9_passenger 138 = .ok (.iload_n 1, 1) := by decide +kernel
theorem dX9_passenger_139 : decode cX9_passenger 139 = .ok (.invokevirtual 211, 3) := by decide +kernel
theorem dX9_passenger_142 : decode cX9_passenger 142 = .ok (.ireturn, 1) := by decide +kernel
theorem dX9_passenger_143 : decode cX9_passenger 143 = .ok (.ldc 114, 2) := by decide +kernel
theorem dX9_passenger_145 : decode cX9_passenger 145 = .ok (.ireturn, 1) := by decide +kernel
theorem dX9_lefts_0 : decode cX9_lefts 0 = .ok (.iload_n 2, 1) := by decide +kernel
theorem dX9_lefts_1 : decode cX9_lefts 1 = .ok (.i2l, 1) := by decide +kernel
theorem dX9_lefts_2 : decode cX9_lefts 2 = .ok (.lconst 0, 1) := by decide +kernel
theorem dX9_lefts_3 : decode cX9_lefts 3 = .ok (.ldc2_w 241, 3) := by decide +kernel
theorem dX9_lefts_6 : decode cX9_lefts 6 = .ok (.invokestatic 105, 3) := by decide +kernel
theorem dX9_lefts_9 : decode cX9_lefts 9 = .ok (.ifCond .ne 6, 3) := by decide +kernel
theorem dX9_lefts_12 : decode cX9_lefts 12 = .ok (.ldc 114, 2) := by decide +kernel
theorem dX9_lefts_14 : decode cX9_lefts 14 = .ok (.ireturn, 1) := by decide +kernel
theorem dX9_lefts_15 : decode cX9_lefts 15 = .ok (.iload_n 1, 1) := by decide +kernel
theorem dX9_lefts_16 : decode cX9_lefts 16 = .ok (.i2l, 1) := by decide +kernel
theorem dX9_lefts_17 : decode cX9_lefts 17 = .ok (.lconst 0, 1) := by decide +kernel
theorem dX9_lefts_18 : decode cX9_lefts 18 = .ok (.aload_n 0, 1) := by decide +kernel
theorem dX9_lefts_19 : decode cX9_lefts 19 = .ok (.getfield 34, 3) := by decide +kernel
theorem dX9_lefts_22 : decode cX9_lefts 22 = .ok (.bipush 53, 2) := by decide +kernel
theorem dX9_lefts_24 : decode cX9_lefts 24 = .ok (.iaload, 1) := by decide +kernel
theorem dX9_lefts_25 : decode cX9_lefts 25 = .ok (.iconst 1, 1) := by decide +kernel
theorem dX9_lefts_26 : decode cX9_lefts 26 = .ok (.isub, 1) := by decide +kernel
theorem dX9_lefts_27 : decode cX9_lefts 27 = .ok (.i2l, 1) := by decide +kernel
theorem dX9_lefts_28 : decode cX9_lefts 28 = .ok (.invokestatic 105, 3) := by decide +kernel
theorem dX9_lefts_31 : decode cX9_lefts 31 = .ok (.ifCond .ne 5, 3) := by decide +kernel
theorem dX9_lefts_34 : decode cX9_lefts 34 = .ok (.iconst (-1), 1) := by decide +kernel
theorem dX9_lefts_35 : decode cX9_lefts 35 = .ok (.ireturn, 1) := by decide +kernel
theorem dX9_lefts_36 : decode cX9_lefts 36 = .ok (.aload_n 0, 1) := by decide +kernel
theorem dX9_lefts_37 : decode cX9_lefts 37 = .ok (.getfield 34, 3) := by decide +kernel
theorem dX9_lefts_40 : decode cX9_lefts 40 = .ok (.bipush 54, 2) := by decide +kernel
theorem dX9_lefts_42 : decode cX9_lefts 42 = .ok (.aload_n 0, 1) := by decide +kernel
theorem dX9_lefts_43 : decode cX9_lefts 43 = .ok (.getfield 34, 3) := by decide +kernel
theorem dX9_lefts_46 : decode cX9_lefts 46 = .ok (.bipush 53, 2) := by decide +kernel
theorem dX9_lefts_48 : decode cX9_lefts 48 = .ok (.iaload, 1) := by decide +kernel
theorem dX9_lefts_49 : decode cX9_lefts 49 = .ok (.iadd, 1) := by decide +kernel
theorem dX9_lefts_50 : decode cX9_lefts 50 = .ok (.iconst 1, 1) := by decide +kernel
theorem dX9_lefts_51 : decode cX9_lefts 51 = .ok (.isub, 1) := by decide +kernel
theorem dX9_lefts_52 : decode cX9_lefts 52 = .ok (.iload_n 1, 1) := by decide +kernel
theorem dX9_lefts_53 : decode cX9_lefts 53 = .ok (.isub, 1) := by decide +kernel
theorem dX9_lefts_54 : decode cX9_lefts 54 = .ok (.iaload, 1) := by decide +kernel
theorem dX9_lefts_55 : decode cX9_lefts 55 = .ok (.istore_n 3, 1) := by decide +kernel
theorem dX9_lefts_56 : decode cX9_lefts 56 = .ok (.iload_n 2, 1) := by decide +kernel
theorem dX9_lefts_57 : decode cX9_lefts 57 = .ok (.tableswitch 61 0 3 #[31, 37, 45, 53], 31) := by decide +kernel
theorem dX9_lefts_88 : decode cX9_lefts 88 = .ok (.iload_n 3, 1) := by decide +kernel
theorem dX9_lefts_89 : decode cX9_lefts 89 = .ok (.sipush 2048, 3) := by decide +kernel
theorem dX9_lefts_92 : decode cX9_lefts 92 = .ok (.idiv, 1) := by decide +kernel
theorem dX9_lefts_93 : decode cX9_lefts 93 = .ok (.ireturn, 1) := by decide +kernel
theorem dX9_lefts_94 : decode cX9_lefts 94 = .ok (.iload_n 3, 1) := by decide +kernel
theorem dX9_lefts_95 : decode cX9_lefts 95 = .ok (.sipush 512, 3) := by decide +kernel
theorem dX9_lefts_98 : decode cX9_lefts 98 = .ok (.idiv, 1) := by decide +kernel
theorem dX9_lefts_99 : decode cX9_lefts 99 = .ok (.iconst 4, 1) := by decide +kernel
theorem dX9_lefts_100 : decode cX9_lefts 100 = .ok (.irem, 1) := by decide +kernel
theorem dX9_lefts_101 : decode cX9_lefts 101 = .ok (.ireturn, 1) := by decide +kernel
theorem dX9_lefts_102 : decode cX9_lefts 102 = .ok (.iload_n 3, 1) := by decide +kernel
theorem dX9_lefts_103 : decode cX9_lefts 103 = .ok (.bipush 64, 2) := by decide +kernel
theorem dX9_lefts_105 : decode cX9_lefts 105 = .ok (.idiv, 1) := by decide +kernel
theorem dX9_lefts_106 : decode cX9_lefts 106 = .ok (.bipush 8, 2) := by decide +kernel
theorem dX9_lefts_108 : decode cX9_lefts 108 = .ok (.irem, 1) := by decide +kernel
theorem dX9_lefts_109 : decode cX9_lefts 109 = .ok (.ireturn, 1) := by decide +kernel
theorem dX9_lefts_110 : decode cX9_lefts 110 = .ok (.iload_n 3, 1) := by decide +kernel
theorem dX9_lefts_111 : decode cX9_lefts 111 = .ok (.bipush 8, 2) := by decide +kernel
theorem dX9_lefts_113 : decode cX9_lefts 113 = .ok (.idiv, 1) := by decide +kernel
theorem dX9_lefts_114 : decode cX9_lefts 114 = .ok (.bipush 8, 2) := by decide +kernel
theorem dX9_lefts_116 : decode cX9_lefts 116 = .ok (.irem, 1) := by decide +kernel
theorem dX9_lefts_117 : decode cX9_lefts 117 = .ok (.ireturn, 1) := by decide +kernel
theorem dX9_lefts_118 : decode cX9_lefts 118 = .ok (.iload_n 3, 1) := by decide +kernel
theorem dX9_lefts_119 : decode cX9_lefts 119 = .ok (.bipush 8, 2) := by decide +kernel
theorem dX9_lefts_121 : decode cX9_lefts 121 = .ok (.irem, 1) := by decide +kernel
theorem dX9_lefts_122 : decode cX9_lefts 122 = .ok (.iconst 1, 1) := by decide +kernel
theorem dX9_lefts_123 : decode cX9_lefts 123 = .ok (.isub, 1) := by decide +kernel
theorem dX9_lefts_124 : decode cX9_lefts 124 = .ok (.ireturn, 1) := by decide +kernel
theorem dX9_noteLeft_0 : decode cX9_noteLeft 0 = .ok (.aload_n 0, 1) := by decide +kernel
theorem dX9_noteLeft_1 : decode cX9_noteLeft 1 = .ok (.getfield 34, 3) := by decide +kernel
theorem dX9_noteLeft_4 : decode cX9_noteLeft 4 = .ok (.bipush 53, 2) := by decide +kernel
theorem dX9_noteLeft_6 : decode cX9_noteLeft 6 = .ok (.iaload, 1) := by decide +kernel
theorem dX9_noteLeft_7 : decode cX9_noteLeft 7 = .ok (.bipush 20, 2) := by decide +kernel
theorem dX9_noteLeft_9 : decode cX9_noteLeft 9 = .ok (.if_icmp .ne 48, 3) := by decide +kernel
theorem dX9_noteLeft_12 : decode cX9_noteLeft 12 = .ok (.iconst 1, 1) := by decide +kernel
theorem dX9_noteLeft_13 : decode cX9_noteLeft 13 = .ok (.istore_n 3, 1) := by decide +kernel
theorem dX9_noteLeft_14 : decode cX9_noteLeft 14 = .ok (.iload_n 3, 1) := by decide +kernel
theorem dX9_noteLeft_15 : decode cX9_noteLeft 15 = .ok (.bipush 20, 2) := by decide +kernel
theorem dX9_noteLeft_17 : decode cX9_noteLeft 17 = .ok (.if_icmp .ge 29, 3) := by decide +kernel
theorem dX9_noteLeft_20 : decode cX9_noteLeft 20 = .ok (.aload_n 0, 1) := by decide +kernel
theorem dX9_noteLeft_21 : decode cX9_noteLeft 21 = .ok (.getfield 34, 3) := by decide +kernel
theorem dX9_noteLeft_24 : decode cX9_noteLeft 24 = .ok (.bipush 54, 2) := by decide +kernel
theorem dX9_noteLeft_26 : decode cX9_noteLeft 26 = .ok (.iload_n 3, 1) := by decide +kernel
theorem dX9_noteLeft_27 : decode cX9_noteLeft 27 = .ok (.iadd, 1) := by decide +kernel
theorem dX9_noteLeft_28 : decode cX9_noteLeft 28 = .ok (.iconst 1, 1) := by decide +kernel
theorem dX9_noteLeft_29 : decode cX9_noteLeft 29 = .ok (.isub, 1) := by decide +kernel
theorem dX9_noteLeft_30 : decode cX9_noteLeft 30 = .ok (.aload_n 0, 1) := by decide +kernel
theorem dX9_noteLeft_31 : decode cX9_noteLeft 31 = .ok (.getfield 34, 3) := by decide +kernel
theorem dX9_noteLeft_34 : decode cX9_noteLeft 34 = .ok (.bipush 54, 2) := by decide +kernel
theorem dX9_noteLeft_36 : decode cX9_noteLeft 36 = .ok (.iload_n 3, 1) := by decide +kernel
theorem dX9_noteLeft_37 : decode cX9_noteLeft 37 = .ok (.iadd, 1) := by decide +kernel
theorem dX9_noteLeft_38 : decode cX9_noteLeft 38 = .ok (.iaload, 1) := by decide +kernel
theorem dX9_noteLeft_39 : decode cX9_noteLeft 39 = .ok (.iastore, 1) := by decide +kernel
theorem dX9_noteLeft_40 : decode cX9_noteLeft 40 = .ok (.iinc 3 1, 3) := by decide +kernel
theorem dX9_noteLeft_43 : decode cX9_noteLeft 43 = .ok (.goto (-29), 3) := by decide +kernel
theorem dX9_noteLeft_46 : decode cX9_noteLeft 46 = .ok (.aload_n 0, 1) := by decide +kernel
theorem dX9_noteLeft_47 : decode cX9_noteLeft 47 = .ok (.getfield 34, 3) := by decide +kernel
theorem dX9_noteLeft_50 : decode cX9_noteLeft 50 = .ok (.bipush 53, 2) := by decide +kernel
theorem dX9_noteLeft_52 : decode cX9_noteLeft 52 = .ok (.dup2, 1) := by decide +kernel
theorem dX9_noteLeft_53 : decode cX9_noteLeft 53 = .ok (.iaload, 1) := by decide +kernel
theorem dX9_noteLeft_54 : decode cX9_noteLeft 54 = .ok (.iconst 1, 1) := by decide +kernel
theorem dX9_noteLeft_55 : decode cX9_noteLeft 55 = .ok (.isub, 1) := by decide +kernel
theorem dX9_noteLeft_56 : decode cX9_noteLeft 56 = .ok (.iastore, 1) := by decide +kernel
theorem dX9_noteLeft_57 : decode cX9_noteLeft 57 = .ok (.aload_n 0, 1) := by decide +kernel
theorem dX9_noteLeft_58 : decode cX9_noteLeft 58 = .ok (.getfield 34, 3) := by decide +kernel
theorem dX9_noteLeft_61 : decode cX9_noteLeft 61 = .ok (.bipush 54, 2) := by decide +kernel
theorem dX9_noteLeft_63 : decode cX9_noteLeft 63 = .ok (.aload_n 0, 1) := by decide +kernel
theorem dX9_noteLeft_64 : decode cX9_noteLeft 64 = .ok (.getfield 34, 3) := by decide +kernel
theorem dX9_noteLeft_67 : decode cX9_noteLeft 67 = .ok (.bipush 53, 2) := by decide +kernel
theorem dX9_noteLeft_69 : decode cX9_noteLeft 69 = .ok (.iaload, 1) := by decide +kernel
theorem dX9_noteLeft_70 : decode cX9_noteLeft 70 = .ok (.iadd, 1) := by decide +kernel
theorem dX9_noteLeft_71 : decode cX9_noteLeft 71 = .ok (.sipush 2048, 3) := by decide +kernel
theorem dX9_noteLeft_74 : decode cX9_noteLeft 74 = .ok (.aload_n 0, 1) := by decide +kernel
theorem dX9_noteLeft_75 : decode cX9_noteLeft 75 = .ok (.getfield 34, 3) := by decide +kernel
theorem dX9_noteLeft_78 : decode cX9_noteLeft 78 = .ok (.bipush 52, 2) := by decide +kernel
theorem dX9_noteLeft_80 : decode cX9_noteLeft 80 = .ok (.iaload, 1) := by decide +kernel
theorem dX9_noteLeft_81 : decode cX9_noteLeft 81 = .ok (.imul, 1) := by decide +kernel
theorem dX9_noteLeft_82 : decode cX9_noteLeft 82 = .ok (.sipush 512, 3) := by decide +kernel
theorem dX9_noteLeft_85 : decode cX9_noteLeft 85 = .ok (.iload_n 1, 1) := by decide +kernel
theorem dX9_noteLeft_86 : decode cX9_noteLeft 86 = .ok (.imul, 1) := by decide +kernel
theorem dX9_noteLeft_87 : decode cX9_noteLeft 87 = .ok (.iadd, 1) := by decide +kernel
theorem dX9_noteLeft_88 : decode cX9_noteLeft 88 = .ok (.bipush 64, 2) := by decide +kernel
theorem dX9_noteLeft_90 : decode cX9_noteLeft 90 = .ok (.aload_n 0, 1) := by decide +kernel
theorem dX9_noteLeft_91 : decode cX9_noteLeft 91 = .ok (.getfield 34, 3) := by decide +kernel
theorem dX9_noteLeft_94 : decode cX9_noteLeft 94 = .ok (.iload_n 1, 1) := by decide +kernel
theorem dX9_noteLeft_95 : decode cX9_noteLeft 95 = .ok (.iaload, 1) := by decide +kernel
theorem dX9_noteLeft_96 : decode cX9_noteLeft 96 = .ok (.imul, 1) := by decide +kernel
theorem dX9_noteLeft_97 : decode cX9_noteLeft 97 = .ok (.iadd, 1) := by decide +kernel
theorem dX9_noteLeft_98 : decode cX9_noteLeft 98 = .ok (.bipush 8, 2) := by decide +kernel
theorem dX9_noteLeft_100 : decode cX9_noteLeft 100 = .ok (.iload_n 2, 1) := by decide +kernel
theorem dX9_noteLeft_101 : decode cX9_noteLeft 101 = .ok (.imul, 1) := by decide +kernel
theorem dX9_noteLeft_102 : decode cX9_noteLeft 102 = .ok (.iadd, 1) := by decide +kernel
theorem dX9_noteLeft_103 : decode cX9_noteLeft 103 = .ok (.aload_n 0, 1) := by decide +kernel
theorem dX9_noteLeft_104 : decode cX9_noteLeft 104 = .ok (.getfield 34, 3) := by decide +kernel
theorem dX9_noteLeft_107 : decode cX9_noteLeft 107 = .ok (.bipush 12, 2) := by decide +kernel
theorem dX9_noteLeft_109 : decode cX9_noteLeft 109 = .ok (.iload_n 1, 1) := by decide +kernel
theorem dX9_noteLeft_110 : decode cX9_noteLeft 110 = .ok (.iadd, 1) := by decide +kernel
theorem dX9_noteLeft_111 : decode cX9_noteLeft 111 = .ok (.iaload, 1) := by decide +kernel
theorem dX9_noteLeft_112 : decode cX9_noteLeft 112 = .ok (.iadd, 1) := by decide +kernel
theorem dX9_noteLeft_113 : decode cX9_noteLeft 113 = .ok (.iconst 1, 1) := by decide +kernel
theorem dX9_noteLeft_114 : decode cX9_noteLeft 114 = .ok (.iadd, 1) := by decide +kernel
theorem dX9_noteLeft_115 : decode cX9_noteLeft 115 = .ok (.iastore, 1) := by decide +kernel
theorem dX9_noteLeft_116 : decode cX9_noteLeft 116 = .ok (.aload_n 0, 1) := by decide +kernel
theorem dX9_noteLeft_117 : decode cX9_noteLeft 117 = .ok (.getfield 34, 3) := by decide +kernel
theorem dX9_noteLeft_120 : decode cX9_noteLeft 120 = .ok (.bipush 53, 2) := by decide +kernel
theorem dX9_noteLeft_122 : decode cX9_noteLeft 122 = .ok (.dup2, 1) := by decide +kernel
theorem dX9_noteLeft_123 : decode cX9_noteLeft 123 = .ok (.iaload, 1) := by decide +kernel
theorem dX9_noteLeft_124 : decode cX9_noteLeft 124 = .ok (.iconst 1, 1) := by decide +kernel
theorem dX9_noteLeft_125 : decode cX9_noteLeft 125 = .ok (.iadd, 1) := by decide +kernel
theorem dX9_noteLeft_126 : decode cX9_noteLeft 126 = .ok (.iastore, 1) := by decide +kernel
theorem dX9_noteLeft_127 : decode cX9_noteLeft 127 = .ok (.return_, 1) := by decide +kernel
theorem dX9_goOn_0 : decode cX9_goOn 0 = .ok (.aload_n 0, 1) := by decide +kernel
theorem dX9_goOn_1 : decode cX9_goOn 1 = .ok (.getfield 34, 3) := by decide +kernel
theorem dX9_goOn_4 : decode cX9_goOn 4 = .ok (.iconst 4, 1) := by decide +kernel
theorem dX9_goOn_5 : decode cX9_goOn 5 = .ok (.iload_n 1, 1) := by decide +kernel
theorem dX9_goOn_6 : decode cX9_goOn 6 = .ok (.iadd, 1) := by decide +kernel
theorem dX9_goOn_7 : decode cX9_goOn 7 = .ok (.iaload, 1) := by decide +kernel
theorem dX9_goOn_8 : decode cX9_goOn 8 = .ok (.iconst 1, 1) := by decide +kernel
theorem dX9_goOn_9 : decode cX9_goOn 9 = .ok (.if_icmp .ne 26, 3) := by decide +kernel
theorem dX9_goOn_12 : decode cX9_goOn 12 = .ok (.aload_n 0, 1) := by decide +kernel
theorem dX9_goOn_13 : decode cX9_goOn 13 = .ok (.getfield 34, 3) := by decide +kernel
theorem dX9_goOn_16 : decode cX9_goOn 16 = .ok (.iload_n 1, 1) := by decide +kernel
theorem dX9_goOn_17 : decode cX9_goOn 17 = .ok (.iaload, 1) := by decide +kernel
theorem dX9_goOn_18 : decode cX9_goOn 18 = .ok (.aload_n 0, 1) := by decide +kernel
theorem dX9_goOn_19 : decode cX9_goOn 19 = .ok (.getfield 99, 3) := by decide +kernel
theorem dX9_goOn_22 : decode cX9_goOn 22 = .ok (.iconst 1, 1) := by decide +kernel
theorem dX9_goOn_23 : decode cX9_goOn 23 = .ok (.isub, 1) := by decide +kernel
theorem dX9_goOn_24 : decode cX9_goOn 24 = .ok (.if_icmp .ne 7, 3) := by decide +kernel
theorem dX9_goOn_27 : decode cX9_goOn 27 = .ok (.iconst 1, 1) := by decide +kernel
theorem dX9_goOn_28 : decode cX9_goOn 28 = .ok (.goto 21, 3) := by decide +kernel
theorem dX9_goOn_31 : decode cX9_goOn 31 = .ok (.iconst 0, 1) := by decide +kernel
theorem dX9_goOn_32 : decode cX9_goOn 32 = .ok (.goto 17, 3) := by decide +kernel
theorem dX9_goOn_35 : decode cX9_goOn 35 = .ok (.aload_n 0, 1) := by decide +kernel
theorem dX9_goOn_36 : decode cX9_goOn 36 = .ok (.getfield 34, 3) := by decide +kernel
theorem dX9_goOn_39 : decode cX9_goOn 39 = .ok (.iload_n 1, 1) := by decide +kernel
theorem dX9_goOn_40 : decode cX9_goOn 40 = .ok (.iaload, 1) := by decide +kernel
theorem dX9_goOn_41 : decode cX9_goOn 41 = .ok (.ifCond .ne 7, 3) := by decide +kernel
theorem dX9_goOn_44 : decode cX9_goOn 44 = .ok (.iconst 1, 1) := by decide +kernel
theorem dX9_goOn_45 : decode cX9_goOn 45 = .ok (.goto 4, 3) := by decide +kernel
theorem dX9_goOn_48 : decode cX9_goOn 48 = .ok (.iconst 0, 1) := by decide +kernel
theorem dX9_goOn_49 : decode cX9_goOn 49 = .ok (.istore_n 2, 1) := by decide +kernel
theorem dX9_goOn_50 : decode cX9_goOn 50 = .ok (.aload_n 0, 1) := by decide +kernel
theorem dX9_goOn_51 : decode cX9_goOn 51 = .ok (.getfield 34, 3) := by decide +kernel
theorem dX9_goOn_54 : decode cX9_goOn 54 = .ok (.iconst 4, 1) := by decide +kernel
theorem dX9_goOn_55 : decode cX9_goOn 55 = .ok (.iload_n 1, 1) := by decide +kernel
theorem dX9_goOn_56 : decode cX9_goOn 56 = .ok (.iadd, 1) := by decide +kernel
theorem dX9_goOn_57 : decode cX9_goOn 57 = .ok (.iload_n 2, 1) := by decide +kernel
theorem dX9_goOn_58 : decode cX9_goOn 58 = .ok (.ifCond .eq 16, 3) := by decide +kernel
theorem dX9_goOn_61 : decode cX9_goOn 61 = .ok (.iconst 1, 1) := by decide +kernel
theorem dX9_goOn_62 : decode cX9_goOn 62 = .ok (.aload_n 0, 1) := by decide +kernel
theorem dX9_goOn_63 : decode cX9_goOn 63 = .ok (.getfield 34, 3) := by decide +kernel
theorem dX9_goOn_66 : decode cX9_goOn 66 = .ok (.iconst 4, 1) := by decide +kernel
theorem dX9_goOn_67 : decode cX9_goOn 67 = .ok (.iload_n 1, 1) := by decide +kernel
theorem dX9_goOn_68 : decode cX9_goOn 68 = .ok (.iadd, 1) := by decide +kernel
theorem dX9_goOn_69 : decode cX9_goOn 69 = .ok (.iaload, 1) := by decide +kernel
theorem dX9_goOn_70 : decode cX9_goOn 70 = .ok (.isub, 1) := by decide +kernel
theorem dX9_goOn_71 : decode cX9_goOn 71 = .ok (.goto 11, 3) := by decide +kernel
theorem dX9_goOn_74 : decode cX9_goOn 74 = .ok (.aload_n 0, 1) := by decide +kernel
theorem dX9_goOn_75 : decode cX9_goOn 75 = .ok (.getfield 34, 3) := by decide +kernel
theorem dX9_goOn_78 : decode cX9_goOn 78 = .ok (.iconst 4, 1) := by decide +kernel
theorem dX9_goOn_79 : decode cX9_goOn 79 = .ok (.iload_n 1, 1) := by decide +kernel
theorem dX9_goOn_80 : decode cX9_goOn 80 = .ok (.iadd, 1) := by decide +kernel
theorem dX9_goOn_81 : decode cX9_goOn 81 = .ok (.iaload, 1) := by decide +kernel
theorem dX9_goOn_82 : decode cX9_goOn 82 = .ok (.iastore, 1) := by decide +kernel
theorem dX9_goOn_83 : decode cX9_goOn 83 = .ok (.aload_n 0, 1) := by decide +kernel
theorem dX9_goOn_84 : decode cX9_goOn 84 = .ok (.getfield 34, 3) := by decide +kernel
theorem dX9_goOn_87 : decode cX9_goOn 87 = .ok (.iload_n 1, 1) := by decide +kernel
theorem dX9_goOn_88 : decode cX9_goOn 88 = .ok (.dup2, 1) := by decide +kernel
theorem dX9_goOn_89 : decode cX9_goOn 89 = .ok (.iaload, 1) := by decide +kernel
theorem dX9_goOn_90 : decode cX9_goOn 90 = .ok (.aload_n 0, 1) := by decide +kernel
theorem dX9_goOn_91 : decode cX9_goOn 91 = .ok (.getfield 34, 3) := by decide +kernel
theorem dX9_goOn_94 : decode cX9_goOn 94 = .ok (.iconst 4, 1) := by decide +kernel
theorem dX9_goOn_95 : decode cX9_goOn 95 = .ok (.iload_n 1, 1) := by decide +kernel
theorem dX9_goOn_96 : decode cX9_goOn 96 = .ok (.iadd, 1) := by decide +kernel
theorem dX9_goOn_97 : decode cX9_goOn 97 = .ok (.iaload, 1) := by decide +kernel
theorem dX9_goOn_98 : decode cX9_goOn 98 = .ok (.iconst 1, 1) := by decide +kernel
theorem dX9_goOn_99 : decode cX9_goOn 99 = .ok (.if_icmp .ne 7, 3) := by decide +kernel
theorem dX9_goOn_102 : decode cX9_goOn 102 = .ok (.iconst 1, 1) := by decide +kernel
theorem dX9_goOn_103 : decode cX9_goOn 103 = .ok (.goto 4, 3) := by decide +kernel
theorem dX9_goOn_106 : decode cX9_goOn 106 = .ok (.iconst (-1), 1) := by decide +kernel
theorem dX9_goOn_107 : decode cX9_goOn 107 = .ok (.iadd, 1) := by decide +kernel
theorem dX9_goOn_108 : decode cX9_goOn 108 = .ok (.iastore, 1) := by decide +kernel
theorem dX9_goOn_109 : decode cX9_goOn 109 = .ok (.return_, 1) := by decide +kernel
theorem dX9_payAll_0 : decode cX9_payAll 0 = .ok (.aload_n 0, 1) := by decide +kernel
theorem dX9_payAll_1 : decode cX9_payAll 1 = .ok (.getfield 34, 3) := by decide +kernel
theorem dX9_payAll_4 : decode cX9_payAll 4 = .ok (.bipush 12, 2) := by decide +kernel
theorem dX9_payAll_6 : decode cX9_payAll 6 = .ok (.iload_n 1, 1) := by decide +kernel
theorem dX9_payAll_7 : decode cX9_payAll 7 = .ok (.iadd, 1) := by decide +kernel
theorem dX9_payAll_8 : decode cX9_payAll 8 = .ok (.iaload, 1) := by decide +kernel
theorem dX9_payAll_9 : decode cX9_payAll 9 = .ok (.istore_n 2, 1) := by decide +kernel
theorem dX9_payAll_10 : decode cX9_payAll 10 = .ok (.iconst 0, 1) := by decide +kernel
theorem dX9_payAll_11 : decode cX9_payAll 11 = .ok (.istore_n 3, 1) := by decide +kernel
theorem dX9_payAll_12 : decode cX9_payAll 12 = .ok (.iload_n 3, 1) := by decide +kernel
theorem dX9_payAll_13 : decode cX9_payAll 13 = .ok (.aload_n 0, 1) := by decide +kernel
theorem dX9_payAll_14 : decode cX9_payAll 14 = .ok (.getfield 109, 3) := by decide +kernel
theorem dX9_payAll_17 : decode cX9_payAll 17 = .ok (.if_icmp .ge 58, 3) := by decide +kernel
theorem dX9_payAll_20 : decode cX9_payAll 20 = .ok (.iload_n 2, 1) := by decide +kernel
theorem dX9_payAll_21 : decode cX9_payAll 21 = .ok (.iconst (-1), 1) := by decide +kernel
theorem dX9_payAll_22 : decode cX9_payAll 22 = .ok (.if_icmp .eq 53, 3) := by decide +kernel
theorem dX9_payAll_25 : decode cX9_payAll 25 = .ok (.aload_n 0, 1) := by decide +kernel
theorem dX9_payAll_26 : decode cX9_payAll 26 = .ok (.getfield 34, 3) := by decide +kernel
theorem dX9_payAll_29 : decode cX9_payAll 29 = .ok (.bipush 23, 2) := by decide +kernel
theorem dX9_payAll_31 : decode cX9_payAll 31 = .ok (.iload_n 3, 1) := by decide +kernel
theorem dX9_payAll_32 : decode cX9_payAll 32 = .ok (.iadd, 1) := by decide +kernel
theorem dX9_payAll_33 : decode cX9_payAll 33 = .ok (.iaload, 1) := by decide +kernel
theorem dX9_payAll_34 : decode cX9_payAll 34 = .ok (.iload_n 1, 1) := by decide +kernel
theorem dX9_payAll_35 : decode cX9_payAll 35 = .ok (.if_icmp .ne 34, 3) := by decide +kernel
theorem dX9_payAll_38 : decode cX9_payAll 38 = .ok (.iload_n 3, 1) := by decide +kernel
theorem dX9_payAll_39 : decode cX9_payAll 39 = .ok (.iload_n 2, 1) := by decide +kernel
theorem dX9_payAll_40 : decode cX9_payAll 40 = .ok (.if_icmp .eq 29, 3) := by decide +kernel
theorem dX9_payAll_43 : decode cX9_payAll 43 = .ok (.aload_n 0, 1) := by decide +kernel
theorem dX9_payAll_44 : decode cX9_payAll 44 = .ok (.getfield 34, 3) := by decide +kernel
theorem dX9_payAll_47 : decode cX9_payAll 47 = .ok (.bipush 44, 2) := by decide +kernel
theorem dX9_payAll_49 : decode cX9_payAll 49 = .ok (.iload_n 3, 1) := by decide +kernel
theorem dX9_payAll_50 : decode cX9_payAll 50 = .ok (.iadd, 1) := by decide +kernel
