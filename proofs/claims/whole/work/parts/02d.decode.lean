theorem dX9_payAll_51 : decode cX9_payAll 51 = .ok (.dup2, 1) := by decide +kernel
theorem dX9_payAll_52 : decode cX9_payAll 52 = .ok (.iaload, 1) := by decide +kernel
theorem dX9_payAll_53 : decode cX9_payAll 53 = .ok (.iconst 1, 1) := by decide +kernel
theorem dX9_payAll_54 : decode cX9_payAll 54 = .ok (.isub, 1) := by decide +kernel
theorem dX9_payAll_55 : decode cX9_payAll 55 = .ok (.iastore, 1) := by decide +kernel
theorem dX9_payAll_56 : decode cX9_payAll 56 = .ok (.aload_n 0, 1) := by decide +kernel
theorem dX9_payAll_57 : decode cX9_payAll 57 = .ok (.getfield 34, 3) := by decide +kernel
theorem dX9_payAll_60 : decode cX9_payAll 60 = .ok (.bipush 44, 2) := by decide +kernel
theorem dX9_payAll_62 : decode cX9_payAll 62 = .ok (.iload_n 2, 1) := by decide +kernel
theorem dX9_payAll_63 : decode cX9_payAll 63 = .ok (.iadd, 1) := by decide +kernel
theorem dX9_payAll_64 : decode cX9_payAll 64 = .ok (.dup2, 1) := by decide +kernel
theorem dX9_payAll_65 : decode cX9_payAll 65 = .ok (.iaload, 1) := by decide +kernel
theorem dX9_payAll_66 : decode cX9_payAll 66 = .ok (.iconst 1, 1) := by decide +kernel
theorem dX9_payAll_67 : decode cX9_payAll 67 = .ok (.iadd, 1) := by decide +kernel
theorem dX9_payAll_68 : decode cX9_payAll 68 = .ok (.iastore, 1) := by decide +kernel
theorem dX9_payAll_69 : decode cX9_payAll 69 = .ok (.iinc 3 1, 3) := by decide +kernel
theorem dX9_payAll_72 : decode cX9_payAll 72 = .ok (.goto (-60), 3) := by decide +kernel
theorem dX9_payAll_75 : decode cX9_payAll 75 = .ok (.return_, 1) := by decide +kernel
theorem dX9_comeTo_0 : decode cX9_comeTo 0 = .ok (.iconst 0, 1) := by decide +kernel
theorem dX9_comeTo_1 : decode cX9_comeTo 1 = .ok (.istore_n 2, 1) := by decide +kernel
theorem dX9_comeTo_2 : decode cX9_comeTo 2 = .ok (.iload_n 2, 1) := by decide +kernel
theorem dX9_comeTo_3 : decode cX9_comeTo 3 = .ok (.aload_n 0, 1) := by decide +kernel
theorem dX9_comeTo_4 : decode cX9_comeTo 4 = .ok (.getfield 109, 3) := by decide +kernel
theorem dX9_comeTo_7 : decode cX9_comeTo 7 = .ok (.if_icmp .ge 72, 3) := by decide +kernel
theorem dX9_comeTo_10 : decode cX9_comeTo 10 = .ok (.aload_n 0, 1) := by decide +kernel
theorem dX9_comeTo_11 : decode cX9_comeTo 11 = .ok (.getfield 34, 3) := by decide +kernel
theorem dX9_comeTo_14 : decode cX9_comeTo 14 = .ok (.bipush 23, 2) := by decide +kernel
theorem dX9_comeTo_16 : decode cX9_comeTo 16 = .ok (.iload_n 2, 1) := by decide +kernel
theorem dX9_comeTo_17 : decode cX9_comeTo 17 = .ok (.iadd, 1) := by decide +kernel
theorem dX9_comeTo_18 : decode cX9_comeTo 18 = .ok (.iaload, 1) := by decide +kernel
theorem dX9_comeTo_19 : decode cX9_comeTo 19 = .ok (.iload_n 1, 1) := by decide +kernel
theorem dX9_comeTo_20 : decode cX9_comeTo 20 = .ok (.if_icmp .ne 53, 3) := by decide +kernel
theorem dX9_comeTo_23 : decode cX9_comeTo 23 = .ok (.aload_n 0, 1) := by decide +kernel
theorem dX9_comeTo_24 : decode cX9_comeTo 24 = .ok (.getfield 28, 3) := by decide +kernel
theorem dX9_comeTo_27 : decode cX9_comeTo 27 = .ok (.iload_n 2, 1) := by decide +kernel
theorem dX9_comeTo_28 : decode cX9_comeTo 28 = .ok (.iaload, 1) := by decide +kernel
theorem dX9_comeTo_29 : decode cX9_comeTo 29 = .ok (.aload_n 0, 1) := by decide +kernel
theorem dX9_comeTo_30 : decode cX9_comeTo 30 = .ok (.getfield 34, 3) := by decide +kernel
theorem dX9_comeTo_33 : decode cX9_comeTo 33 = .ok (.iload_n 1, 1) := by decide +kernel
theorem dX9_comeTo_34 : decode cX9_comeTo 34 = .ok (.iaload, 1) := by decide +kernel
theorem dX9_comeTo_35 : decode cX9_comeTo 35 = .ok (.if_icmp .ne 38, 3) := by decide +kernel
theorem dX9_comeTo_38 : decode cX9_comeTo 38 = .ok (.aload_n 0, 1) := by decide +kernel
theorem dX9_comeTo_39 : decode cX9_comeTo 39 = .ok (.getfield 34, 3) := by decide +kernel
theorem dX9_comeTo_42 : decode cX9_comeTo 42 = .ok (.bipush 16, 2) := by decide +kernel
theorem dX9_comeTo_44 : decode cX9_comeTo 44 = .ok (.iload_n 2, 1) := by decide +kernel
theorem dX9_comeTo_45 : decode cX9_comeTo 45 = .ok (.iadd, 1) := by decide +kernel
theorem dX9_comeTo_46 : decode cX9_comeTo 46 = .ok (.aload_n 0, 1) := by decide +kernel
theorem dX9_comeTo_47 : decode cX9_comeTo 47 = .ok (.getfield 34, 3) := by decide +kernel
theorem dX9_comeTo_50 : decode cX9_comeTo 50 = .ok (.iload_n 1, 1) := by decide +kernel
theorem dX9_comeTo_51 : decode cX9_comeTo 51 = .ok (.iaload, 1) := by decide +kernel
theorem dX9_comeTo_52 : decode cX9_comeTo 52 = .ok (.iastore, 1) := by decide +kernel
theorem dX9_comeTo_53 : decode cX9_comeTo 53 = .ok (.aload_n 0, 1) := by decide +kernel
theorem dX9_comeTo_54 : decode cX9_comeTo 54 = .ok (.getfield 34, 3) := by decide +kernel
theorem dX9_comeTo_57 : decode cX9_comeTo 57 = .ok (.bipush 23, 2) := by decide +kernel
theorem dX9_comeTo_59 : decode cX9_comeTo 59 = .ok (.iload_n 2, 1) := by decide +kernel
theorem dX9_comeTo_60 : decode cX9_comeTo 60 = .ok (.iadd, 1) := by decide +kernel
theorem dX9_comeTo_61 : decode cX9_comeTo 61 = .ok (.iconst (-1), 1) := by decide +kernel
theorem dX9_comeTo_62 : decode cX9_comeTo 62 = .ok (.iastore, 1) := by decide +kernel
theorem dX9_comeTo_63 : decode cX9_comeTo 63 = .ok (.aload_n 0, 1) := by decide +kernel
theorem dX9_comeTo_64 : decode cX9_comeTo 64 = .ok (.getfield 34, 3) := by decide +kernel
theorem dX9_comeTo_67 : decode cX9_comeTo 67 = .ok (.bipush 37, 2) := by decide +kernel
theorem dX9_comeTo_69 : decode cX9_comeTo 69 = .ok (.iload_n 2, 1) := by decide +kernel
theorem dX9_comeTo_70 : decode cX9_comeTo 70 = .ok (.iadd, 1) := by decide +kernel
theorem dX9_comeTo_71 : decode cX9_comeTo 71 = .ok (.iconst (-1), 1) := by decide +kernel
theorem dX9_comeTo_72 : decode cX9_comeTo 72 = .ok (.iastore, 1) := by decide +kernel
theorem dX9_comeTo_73 : decode cX9_comeTo 73 = .ok (.iinc 2 1, 3) := by decide +kernel
theorem dX9_comeTo_76 : decode cX9_comeTo 76 = .ok (.goto (-74), 3) := by decide +kernel
theorem dX9_comeTo_79 : decode cX9_comeTo 79 = .ok (.return_, 1) := by decide +kernel
theorem dX9_blow_0 : decode cX9_blow 0 = .ok (.aload_n 0, 1) := by decide +kernel
theorem dX9_blow_1 : decode cX9_blow 1 = .ok (.iload_n 1, 1) := by decide +kernel
theorem dX9_blow_2 : decode cX9_blow 2 = .ok (.invokevirtual 243, 3) := by decide +kernel
theorem dX9_blow_5 : decode cX9_blow 5 = .ok (.istore_n 2, 1) := by decide +kernel
theorem dX9_blow_6 : decode cX9_blow 6 = .ok (.aload_n 0, 1) := by decide +kernel
theorem dX9_blow_7 : decode cX9_blow 7 = .ok (.iload_n 2, 1) := by decide +kernel
theorem dX9_blow_8 : decode cX9_blow 8 = .ok (.invokevirtual 246, 3) := by decide +kernel
theorem dX9_blow_11 : decode cX9_blow 11 = .ok (.istore_n 3, 1) := by decide +kernel
theorem dX9_blow_12 : decode cX9_blow 12 = .ok (.iload_n 2, 1) := by decide +kernel
theorem dX9_blow_13 : decode cX9_blow 13 = .ok (.ifCond .eq 9, 3) := by decide +kernel
theorem dX9_blow_16 : decode cX9_blow 16 = .ok (.aload_n 0, 1) := by decide +kernel
theorem dX9_blow_17 : decode cX9_blow 17 = .ok (.iload_n 1, 1) := by decide +kernel
theorem dX9_blow_18 : decode cX9_blow 18 = .ok (.iload_n 3, 1) := by decide +kernel
theorem dX9_blow_19 : decode cX9_blow 19 = .ok (.invokevirtual 249, 3) := by decide +kernel
theorem dX9_blow_22 : decode cX9_blow 22 = .ok (.iconst 0, 1) := by decide +kernel
theorem dX9_blow_23 : decode cX9_blow 23 = .ok (.istore 4, 2) := by decide +kernel
theorem dX9_blow_25 : decode cX9_blow 25 = .ok (.iload 4, 2) := by decide +kernel
theorem dX9_blow_27 : decode cX9_blow 27 = .ok (.aload_n 0, 1) := by decide +kernel
theorem dX9_blow_28 : decode cX9_blow 28 = .ok (.getfield 109, 3) := by decide +kernel
theorem dX9_blow_31 : decode cX9_blow 31 = .ok (.if_icmp .ge 126, 3) := by decide +kernel
theorem dX9_blow_34 : decode cX9_blow 34 = .ok (.aload_n 0, 1) := by decide +kernel
theorem dX9_blow_35 : decode cX9_blow 35 = .ok (.iload 4, 2) := by decide +kernel
theorem dX9_blow_37 : decode cX9_blow 37 = .ok (.iload_n 1, 1) := by decide +kernel
theorem dX9_blow_38 : decode cX9_blow 38 = .ok (.invokevirtual 208, 3) := by decide +kernel
theorem dX9_blow_41 : decode cX9_blow 41 = .ok (.ifCond .eq 16, 3) := by decide +kernel
theorem dX9_blow_44 : decode cX9_blow 44 = .ok (.iload_n 2, 1) := by decide +kernel
theorem dX9_blow_45 : decode cX9_blow 45 = .ok (.iload 4, 2) := by decide +kernel
theorem dX9_blow_47 : decode cX9_blow 47 = .ok (.invokestatic 204, 3) := by decide +kernel
theorem dX9_blow_50 : decode cX9_blow 50 = .ok (.ifCond .ne 7, 3) := by decide +kernel
theorem dX9_blow_53 : decode cX9_blow 53 = .ok (.iconst 1, 1) := by decide +kernel
theorem dX9_blow_54 : decode cX9_blow 54 = .ok (.goto 4, 3) := by decide +kernel
theorem dX9_blow_57 : decode cX9_blow 57 = .ok (.iconst 0, 1) := by decide +kernel
theorem dX9_blow_58 : decode cX9_blow 58 = .ok (.istore 5, 2) := by decide +kernel
theorem dX9_blow_60 : decode cX9_blow 60 = .ok (.aload_n 0, 1) := by decide +kernel
theorem dX9_blow_61 : decode cX9_blow 61 = .ok (.getfield 34, 3) := by decide +kernel
theorem dX9_blow_64 : decode cX9_blow 64 = .ok (.bipush 23, 2) := by decide +kernel
theorem dX9_blow_66 : decode cX9_blow 66 = .ok (.iload 4, 2) := by decide +kernel
theorem dX9_blow_68 : decode cX9_blow 68 = .ok (.iadd, 1) := by decide +kernel
theorem dX9_blow_69 : decode cX9_blow 69 = .ok (.iload 5, 2) := by decide +kernel
theorem dX9_blow_71 : decode cX9_blow 71 = .ok (.ifCond .eq 7, 3) := by decide +kernel
theorem dX9_blow_74 : decode cX9_blow 74 = .ok (.iload_n 1, 1) := by decide +kernel
theorem dX9_blow_75 : decode cX9_blow 75 = .ok (.goto 13, 3) := by decide +kernel
theorem dX9_blow_78 : decode cX9_blow 78 = .ok (.aload_n 0, 1) := by decide +kernel
theorem dX9_blow_79 : decode cX9_blow 79 = .ok (.getfield 34, 3) := by decide +kernel
theorem dX9_blow_82 : decode cX9_blow 82 = .ok (.bipush 23, 2) := by decide +kernel
theorem dX9_blow_84 : decode cX9_blow 84 = .ok (.iload 4, 2) := by decide +kernel
theorem dX9_blow_86 : decode cX9_blow 86 = .ok (.iadd, 1) := by decide +kernel
theorem dX9_blow_87 : decode cX9_blow 87 = .ok (.iaload, 1) := by decide +kernel
theorem dX9_blow_88 : decode cX9_blow 88 = .ok (.iastore, 1) := by decide +kernel
theorem dX9_blow_89 : decode cX9_blow 89 = .ok (.aload_n 0, 1) := by decide +kernel
theorem dX9_blow_90 : decode cX9_blow 90 = .ok (.getfield 34, 3) := by decide +kernel
theorem dX9_blow_93 : decode cX9_blow 93 = .ok (.bipush 16, 2) := by decide +kernel
theorem dX9_blow_95 : decode cX9_blow 95 = .ok (.iload 4, 2) := by decide +kernel
theorem dX9_blow_97 : decode cX9_blow 97 = .ok (.iadd, 1) := by decide +kernel
theorem dX9_blow_98 : decode cX9_blow 98 = .ok (.iload 5, 2) := by decide +kernel
theorem dX9_blow_100 : decode cX9_blow 100 = .ok (.ifCond .eq 7, 3) := by decide +kernel
theorem dX9_blow_103 : decode cX9_blow 103 = .ok (.iconst (-1), 1) := by decide +kernel
theorem dX9_blow_104 : decode cX9_blow 104 = .ok (.goto 13, 3) := by decide +kernel
theorem dX9_blow_107 : decode cX9_blow 107 = .ok (.aload_n 0, 1) := by decide +kernel
theorem dX9_blow_108 : decode cX9_blow 108 = .ok (.getfield 34, 3) := by decide +kernel
theorem dX9_blow_111 : decode cX9_blow 111 = .ok (.bipush 16, 2) := by decide +kernel
theorem dX9_blow_113 : decode cX9_blow 113 = .ok (.iload 4, 2) := by decide +kernel
theorem dX9_blow_115 : decode cX9_blow 115 = .ok (.iadd, 1) := by decide +kernel
theorem dX9_blow_116 : decode cX9_blow 116 = .ok (.iaload, 1) := by decide +kernel
theorem dX9_blow_117 : decode cX9_blow 117 = .ok (.iastore, 1) := by decide +kernel
theorem dX9_blow_118 : decode cX9_blow 118 = .ok (.aload_n 0, 1) := by decide +kernel
theorem dX9_blow_119 : decode cX9_blow 119 = .ok (.getfield 34, 3) := by decide +kernel
theorem dX9_blow_122 : decode cX9_blow 122 = .ok (.bipush 37, 2) := by decide +kernel
theorem dX9_blow_124 : decode cX9_blow 124 = .ok (.iload 4, 2) := by decide +kernel
theorem dX9_blow_126 : decode cX9_blow 126 = .ok (.iadd, 1) := by decide +kernel
theorem dX9_blow_127 : decode cX9_blow 127 = .ok (.iload_n 2, 1) := by decide +kernel
theorem dX9_blow_128 : decode cX9_blow 128 = .ok (.iload 4, 2) := by decide +kernel
theorem dX9_blow_130 : decode cX9_blow 130 = .ok (.invokestatic 204, 3) := by decide +kernel
theorem dX9_blow_133 : decode cX9_blow 133 = .ok (.ifCond .eq 7, 3) := by decide +kernel
theorem dX9_blow_136 : decode cX9_blow 136 = .ok (.iconst (-1), 1) := by decide +kernel
theorem dX9_blow_137 : decode cX9_blow 137 = .ok (.goto 13, 3) := by decide +kernel
theorem dX9_blow_140 : decode cX9_blow 140 = .ok (.aload_n 0, 1) := by decide +kernel
theorem dX9_blow_141 : decode cX9_blow 141 = .ok (.getfield 34, 3) := by decide +kernel
theorem dX9_blow_144 : decode cX9_blow 144 = .ok (.bipush 37, 2) := by decide +kernel
theorem dX9_blow_146 : decode cX9_blow 146 = .ok (.iload 4, 2) := by decide +kernel
theorem dX9_blow_148 : decode cX9_blow 148 = .ok (.iadd, 1) := by decide +kernel
theorem dX9_blow_149 : decode cX9_blow 149 = .ok (.iaload, 1) := by decide +kernel
theorem dX9_blow_150 : decode cX9_blow 150 = .ok (.iastore, 1) := by decide +kernel
theorem dX9_blow_151 : decode cX9_blow 151 = .ok (.iinc 4 1, 3) := by decide +kernel
theorem dX9_blow_154 : decode cX9_blow 154 = .ok (.goto (-129), 3) := by decide +kernel
theorem dX9_blow_157 : decode cX9_blow 157 = .ok (.aload_n 0, 1) := by decide +kernel
theorem dX9_blow_158 : decode cX9_blow 158 = .ok (.getfield 34, 3) := by decide +kernel
theorem dX9_blow_161 : decode cX9_blow 161 = .ok (.bipush 12, 2) := by decide +kernel
theorem dX9_blow_163 : decode cX9_blow 163 = .ok (.iload_n 1, 1) := by decide +kernel
theorem dX9_blow_164 : decode cX9_blow 164 = .ok (.iadd, 1) := by decide +kernel
theorem dX9_blow_165 : decode cX9_blow 165 = .ok (.iload_n 2, 1) := by decide +kernel
theorem dX9_blow_166 : decode cX9_blow 166 = .ok (.ifCond .eq 7, 3) := by decide +kernel
theorem dX9_blow_169 : decode cX9_blow 169 = .ok (.iload_n 3, 1) := by decide +kernel
theorem dX9_blow_170 : decode cX9_blow 170 = .ok (.goto 12, 3) := by decide +kernel
theorem dX9_blow_173 : decode cX9_blow 173 = .ok (.aload_n 0, 1) := by decide +kernel
theorem dX9_blow_174 : decode cX9_blow 174 = .ok (.getfield 34, 3) := by decide +kernel
theorem dX9_blow_177 : decode cX9_blow 177 = .ok (.bipush 12, 2) := by decide +kernel
theorem dX9_blow_179 : decode cX9_blow 179 = .ok (.iload_n 1, 1) := by decide +kernel
theorem dX9_blow_180 : decode cX9_blow 180 = .ok (.iadd, 1) := by decide +kernel
theorem dX9_blow_181 : decode cX9_blow 181 = .ok (.iaload, 1) := by decide +kernel
theorem dX9_blow_182 : decode cX9_blow 182 = .ok (.iastore, 1) := by decide +kernel
theorem dX9_blow_183 : decode cX9_blow 183 = .ok (.aload_n 0, 1) := by decide +kernel
theorem dX9_blow_184 : decode cX9_blow 184 = .ok (.iload_n 1, 1) := by decide +kernel
theorem dX9_blow_185 : decode cX9_blow 185 = .ok (.invokevirtual 253, 3) := by decide +kernel
theorem dX9_blow_188 : decode cX9_blow 188 = .ok (.aload_n 0, 1) := by decide +kernel
theorem dX9_blow_189 : decode cX9_blow 189 = .ok (.iload_n 1, 1) := by decide +kernel
theorem dX9_blow_190 : decode cX9_blow 190 = .ok (.invokevirtual 257, 3) := by decide +kernel
theorem dX9_blow_193 : decode cX9_blow 193 = .ok (.aload_n 0, 1) := by decide +kernel
theorem dX9_blow_194 : decode cX9_blow 194 = .ok (.iload_n 1, 1) := by decide +kernel
theorem dX9_blow_195 : decode cX9_blow 195 = .ok (.invokevirtual 260, 3) := by decide +kernel
theorem dX9_blow_198 : decode cX9_blow 198 = .ok (.aload_n 0, 1) := by decide +kernel
theorem dX9_blow_199 : decode cX9_blow 199 = .ok (.getfield 34, 3) := by decide +kernel
theorem dX9_blow_202 : decode cX9_blow 202 = .ok (.bipush 52, 2) := by decide +kernel
theorem dX9_blow_204 : decode cX9_blow 204 = .ok (.dup2, 1) := by decide +kernel
theorem dX9_blow_205 : decode cX9_blow 205 = .ok (.iaload, 1) := by decide +kernel
theorem dX9_blow_206 : decode cX9_blow 206 = .ok (.iconst 1, 1) := by decide +kernel
theorem dX9_blow_207 : decode cX9_blow 207 = .ok (.iadd, 1) := by decide +kernel
theorem dX9_blow_208 : decode cX9_blow 208 = .ok (.iastore, 1) := by decide +kernel
theorem dX9_blow_209 : decode cX9_blow 209 = .ok (.iload_n 2, 1) := by decide +kernel
theorem dX9_blow_210 : decode cX9_blow 210 = .ok (.ireturn, 1) := by decide +kernel
theorem dX9_pass_0 : decode cX9_pass 0 = .ok (.iconst 0, 1) := by decide +kernel
theorem dX9_pass_1 : decode cX9_pass 1 = .ok (.istore_n 1, 1) := by decide +kernel
theorem dX9_pass_2 : decode cX9_pass 2 = .ok (.iconst 0, 1) := by decide +kernel
theorem dX9_pass_3 : decode cX9_pass 3 = .ok (.istore_n 2, 1) := by decide +kernel
theorem dX9_pass_4 : decode cX9_pass 4 = .ok (.iload_n 2, 1) := by decide +kernel
theorem dX9_pass_5 : decode cX9_pass 5 = .ok (.aload_n 0, 1) := by decide +kernel
theorem dX9_pass_6 : decode cX9_pass 6 = .ok (.getfield 102, 3) := by decide +kernel
theorem dX9_pass_9 : decode cX9_pass 9 = .ok (.if_icmp .ge 17, 3) := by decide +kernel
theorem dX9_pass_12 : decode cX9_pass 12 = .ok (.iload_n 1, 1) := by decide +kernel
theorem dX9_pass_13 : decode cX9_pass 13 = .ok (.aload_n 0, 1) := by decide +kernel
theorem dX9_pass_14 : decode cX9_pass 14 = .ok (.iload_n 2, 1) := by decide +kernel
theorem dX9_pass_15 : decode cX9_pass 15 = .ok (.invokevirtual 263, 3) := by decide +kernel
theorem dX9_pass_18 : decode cX9_pass 18 = .ok (.ior, 1) := by decide +kernel
theorem dX9_pass_19 : decode cX9_pass 19 = .ok (.istore_n 1, 1) := by decide +kernel
theorem dX9_pass_20 : decode cX9_pass 20 = .ok (.iinc 2 1, 3) := by decide +kernel
theorem dX9_pass_23 : decode cX9_pass 23 = .ok (.goto (-19), 3) := by decide +kernel
theorem dX9_pass_26 : decode cX9_pass 26 = .ok (.iload_n 1, 1) := by decide +kernel
theorem dX9_pass_27 : decode cX9_pass 27 = .ok (.ireturn, 1) := by decide +kernel
theorem dX9_remember_0 : decode cX9_remember 0 = .ok (.aload_n 0, 1) := by decide +kernel
theorem dX9_remember_1 : decode cX9_remember 1 = .ok (.getfield 194, 3) := by decide +kernel
theorem dX9_remember_4 : decode cX9_remember 4 = .ok (.bipush 16, 2) := by decide +kernel
theorem dX9_remember_6 : decode cX9_remember 6 = .ok (.if_icmp .ne 44, 3) := by decide +kernel
theorem dX9_remember_9 : decode cX9_remember 9 = .ok (.bipush 74, 2) := by decide +kernel
theorem dX9_remember_11 : decode cX9_remember 11 = .ok (.istore_n 1, 1) := by decide +kernel
theorem dX9_remember_12 : decode cX9_remember 12 = .ok (.iload_n 1, 1) := by decide +kernel
theorem dX9_remember_13 : decode cX9_remember 13 = .ok (.sipush 1184, 3) := by decide +kernel
theorem dX9_remember_16 : decode cX9_remember 16 = .ok (.if_icmp .ge 24, 3) := by decide +kernel
theorem dX9_remember_19 : decode cX9_remember 19 = .ok (.aload_n 0, 1) := by decide +kernel
theorem dX9_remember_20 : decode cX9_remember 20 = .ok (.getfield 68, 3) := by decide +kernel
theorem dX9_remember_23 : decode cX9_remember 23 = .ok (.iload_n 1, 1) := by decide +kernel
theorem dX9_remember_24 : decode cX9_remember 24 = .ok (.bipush 74, 2) := by decide +kernel
theorem dX9_remember_26 : decode cX9_remember 26 = .ok (.isub, 1) := by decide +kernel
theorem dX9_remember_27 : decode cX9_remember 27 = .ok (.aload_n 0, 1) := by decide +kernel
theorem dX9_remember_28 : decode cX9_remember 28 = .ok (.getfield 68, 3) := by decide +kernel
theorem dX9_remember_31 : decode cX9_remember 31 = .ok (.iload_n 1, 1) := by decide +kernel
theorem dX9_remember_32 : decode cX9_remember 32 = .ok (.iaload, 1) := by decide +kernel
theorem dX9_remember_33 : decode cX9_remember 33 = .ok (.iastore, 1) := by decide +kernel
theorem dX9_remember_34 : decode cX9_remember 34 = .ok (.iinc 1 1, 3) := by decide +kernel
theorem dX9_remember_37 : decode cX9_remember 37 = .ok (.goto (-25), 3) := by decide +kernel
theorem dX9_remember_40 : decode cX9_remember 40 = .ok (.aload_n 0, 1) := by decide +kernel
theorem dX9_remember_41 : decode cX9_remember 41 = .ok (.dup, 1) := by decide +kernel
theorem dX9_remember_42 : decode cX9_remember 42 = .ok (.getfield 194, 3) := by decide +kernel
theorem dX9_remember_45 : decode cX9_remember 45 = .ok (.iconst 1, 1) := by decide +kernel
theorem dX9_remember_46 : decode cX9_remember 46 = .ok (.isub, 1) := by decide +kernel
theorem dX9_remember_47 : decode cX9_remember 47 = .ok (.putfield 194, 3) := by decide +kernel
theorem dX9_remember_50 : decode cX9_remember 50 = .ok (.iconst 0, 1) := by decide +kernel
theorem dX9_remember_51 : decode cX9_remember 51 = .ok (.istore_n 1, 1) := by decide +kernel
theorem dX9_remember_52 : decode cX9_remember 52 = .ok (.iload_n 1, 1) := by decide +kernel
theorem dX9_remember_53 : decode cX9_remember 53 = .ok (.bipush 74, 2) := by decide +kernel
theorem dX9_remember_55 : decode cX9_remember 55 = .ok (.if_icmp .ge 29, 3) := by decide +kernel
theorem dX9_remember_58 : decode cX9_remember 58 = .ok (.aload_n 0, 1) := by decide +kernel
theorem dX9_remember_59 : decode cX9_remember 59 = .ok (.getfield 68, 3) := by decide +kernel
theorem dX9_remember_62 : decode cX9_remember 62 = .ok (.bipush 74, 2) := by decide +kernel
theorem dX9_remember_64 : decode cX9_remember 64 = .ok (.aload_n 0, 1) := by decide +kernel
theorem dX9_remember_65 : decode cX9_remember 65 = .ok (.getfield 194, 3) := by decide +kernel
theorem dX9_remember_68 : decode cX9_remember 68 = .ok (.imul, 1) := by decide +kernel
theorem dX9_remember_69 : decode cX9_remember 69 = .ok (.iload_n 1, 1) := by decide +kernel
theorem dX9_remember_70 : decode cX9_remember 70 = .ok (.iadd, 1) := by decide +kernel
theorem dX9_remember_71 : decode cX9_remember 71 = .ok (.aload_n 0, 1) := by decide +kernel
theorem dX9_remember_72 : decode cX9_remember 72 = .ok (.getfield 34, 3) := by decide +kernel
theorem dX9_remember_75 : decode cX9_remember 75 = .ok (.iload_n 1, 1) := by decide +kernel
theorem dX9_remember_76 : decode cX9_remember 76 = .ok (.iaload, 1) := by decide +kernel
theorem dX9_remember_77 : decode cX9_remember 77 = .ok (.iastore, 1) := by decide +kernel
theorem dX9_remember_78 : decode cX9_remember 78 = .ok (.iinc 1 1, 3) := by decide +kernel
theorem dX9_remember_81 : decode cX9_remember 81 = .ok (.goto (-29), 3) := by decide +kernel
theorem dX9_remember_84 : decode cX9_remember 84 = .ok (.aload_n 0, 1) := by decide +kernel
theorem dX9_remember_85 : decode cX9_remember 85 = .ok (.dup, 1) := by decide +kernel
theorem dX9_remember_86 : decode cX9_remember 86 = .ok (.getfield 194, 3) := by decide +kernel
theorem dX9_remember_89 : decode cX9_remember 89 = .ok (.iconst 1, 1) := by decide +kernel
theorem dX9_remember_90 : decode cX9_remember 90 = .ok (.iadd, 1) := by decide +kernel
theorem dX9_remember_91 : decode cX9_remember 91 = .ok (.putfield 194, 3) := by decide +kernel
theorem dX9_remember_94 : decode cX9_remember 94 = .ok (.return_, 1) := by decide +kernel
theorem dX9_horn_0 : decode cX9_horn 0 = .ok (.aload_n 0, 1) := by decide +kernel
theorem dX9_horn_1 : decode cX9_horn 1 = .ok (.iload_n 1, 1) := by decide +kernel
theorem dX9_horn_2 : decode cX9_horn 2 = .ok (.invokevirtual 232, 3) := by decide +kernel
theorem dX9_horn_5 : decode cX9_horn 5 = .ok (.ifCond .ne 6, 3) := by decide +kernel
theorem dX9_horn_8 : decode cX9_horn 8 = .ok (.ldc 236, 2) := by decide +kernel
theorem dX9_horn_10 : decode cX9_horn 10 = .ok (.ireturn, 1) := by decide +kernel
theorem dX9_horn_11 : decode cX9_horn 11 = .ok (.aload_n 0, 1) := by decide +kernel
theorem dX9_horn_12 : decode cX9_horn 12 = .ok (.getfield 34, 3) := by decide +kernel
theorem dX9_horn_15 : decode cX9_horn 15 = .ok (.bipush 52, 2) := by decide +kernel
theorem dX9_horn_17 : decode cX9_horn 17 = .ok (.iaload, 1) := by decide +kernel
theorem dX9_horn_18 : decode cX9_horn 18 = .ok (.sipush 9000, 3) := by decide +kernel
theorem dX9_horn_21 : decode cX9_horn 21 = .ok (.if_icmp .le 6, 3) := by decide +kernel
theorem dX9_horn_24 : decode cX9_horn 24 = .ok (.ldc 118, 2) := by decide +kernel
theorem dX9_horn_26 : decode cX9_horn 26 = .ok (.ireturn, 1) := by decide +kernel
theorem dX9_horn_27 : decode cX9_horn 27 = .ok (.aload_n 0, 1) := by decide +kernel
theorem dX9_horn_28 : decode cX9_horn 28 = .ok (.invokevirtual 266, 3) := by decide +kernel
theorem dX9_horn_31 : decode cX9_horn 31 = .ok (.aload_n 0, 1) := by decide +kernel
theorem dX9_horn_32 : decode cX9_horn 32 = .ok (.iload_n 1, 1) := by decide +kernel
theorem dX9_horn_33 : decode cX9_horn 33 = .ok (.invokevirtual 263, 3) := by decide +kernel
theorem dX9_horn_36 : decode cX9_horn 36 = .ok (.ireturn, 1) := by decide +kernel
theorem dX9_roundsRefused_0 : decode cX9_roundsRefused 0 = .ok (.iload_n 1, 1) := by decide +kernel
theorem dX9_roundsRefused_1 : decode cX9_roundsRefused 1 = .ok (.i2l, 1) := by decide +kernel
theorem dX9_roundsRefused_2 : decode cX9_roundsRefused 2 = .ok (.lconst 1, 1) := by decide +kernel
theorem dX9_roundsRefused_3 : decode cX9_roundsRefused 3 = .ok (.ldc2_w 269, 3) := by decide +kernel
theorem dX9_roundsRefused_6 : decode cX9_roundsRefused 6 = .ok (.invokestatic 105, 3) := by decide +kernel
theorem dX9_roundsRefused_9 : decode cX9_roundsRefused 9 = .ok (.ifCond .ne 6, 3) := by decide +kernel
theorem dX9_roundsRefused_12 : decode cX9_roundsRefused 12 = .ok (.ldc 114, 2) := by decide +kernel
theorem dX9_roundsRefused_14 : decode cX9_roundsRefused 14 = .ok (.ireturn, 1) := by decide +kernel
theorem dX9_roundsRefused_15 : decode cX9_roundsRefused 15 = .ok (.aload_n 0, 1) := by decide +kernel
theorem dX9_roundsRefused_16 : decode cX9_roundsRefused 16 = .ok (.getfield 99, 3) := by decide +kernel
theorem dX9_roundsRefused_19 : decode cX9_roundsRefused 19 = .ok (.ifCond .ne 9, 3) := by decide +kernel
theorem dX9_roundsRefused_22 : decode cX9_roundsRefused 22 = .ok (.ldc_w 271, 3) := by decide +kernel
theorem dX9_roundsRefused_25 : decode cX9_roundsRefused 25 = .ok (.goto 22, 3) := by decide +kernel
theorem dX9_roundsRefused_28 : decode cX9_roundsRefused 28 = .ok (.aload_n 0, 1) := by decide +kernel
theorem dX9_roundsRefused_29 : decode cX9_roundsRefused 29 = .ok (.getfield 34, 3) := by decide +kernel
theorem dX9_roundsRefused_32 : decode cX9_roundsRefused 32 = .ok (.bipush 52, 2) := by decide +kernel
theorem dX9_roundsRefused_34 : decode cX9_roundsRefused 34 = .ok (.iaload, 1) := by decide +kernel
theorem dX9_roundsRefused_35 : decode cX9_roundsRefused 35 = .ok (.sipush 9000, 3) := by decide +kernel
theorem dX9_roundsRefused_38 : decode cX9_roundsRefused 38 = .ok (.if_icmp .le 8, 3) := by decide +kernel
theorem dX9_roundsRefused_41 : decode cX9_roundsRefused 41 = .ok (.ldc 118, 2) := by decide +kernel
theorem dX9_roundsRefused_43 : decode cX9_roundsRefused 43 = .ok (.goto 4, 3) := by decide +kernel
theorem dX9_roundsRefused_46 : decode cX9_roundsRefused 46 = .ok (.iconst 0, 1) := by decide +kernel
theorem dX9_roundsRefused_47 : decode cX9_roundsRefused 47 = .ok (.ireturn, 1) := by decide +kernel
theorem dX9_rounds_0 : decode cX9_rounds 0 = .ok (.aload_n 0, 1) := by decide +kernel
theorem dX9_rounds_1 : decode cX9_rounds 1 = .ok (.iload_n 1, 1) := by decide +kernel
theorem dX9_rounds_2 : decode cX9_rounds 2 = .ok (.invokevirtual 272, 3) := by decide +kernel
theorem dX9_rounds_5 : decode cX9_rounds 5 = .ok (.istore_n 2, 1) := by decide +kernel
theorem dX9_rounds_6 : decode cX9_rounds 6 = .ok (.iload_n 2, 1) := by decide +kernel
theorem dX9_rounds_7 : decode cX9_rounds 7 = .ok (.ifCond .eq 5, 3) := by decide +kernel
theorem dX9_rounds_10 : decode cX9_rounds 10 = .ok (.iload_n 2, 1) := by decide +kernel
theorem dX9_rounds_11 : decode cX9_rounds 11 = .ok (.ireturn, 1) := by decide +kernel
theorem dX9_rounds_12 : decode cX9_rounds 12 = .ok (.aload_n 0, 1) := by decide +kernel
theorem dX9_rounds_13 : decode cX9_rounds 13 = .ok (.invokevirtual 266, 3) := by decide +kernel
theorem dX9_rounds_16 : decode cX9_rounds 16 = .ok (.iconst 0, 1) := by decide +kernel
theorem dX9_rounds_17 : decode cX9_rounds 17 = .ok (.istore_n 3, 1) := by decide +kernel
theorem dX9_rounds_18 : decode cX9_rounds 18 = .ok (.iload_n 3, 1) := by decide +kernel
theorem dX9_rounds_19 : decode cX9_rounds 19 = .ok (.iload_n 1, 1) := by decide +kernel
theorem dX9_rounds_20 : decode cX9_rounds 20 = .ok (.if_icmp .ge 15, 3) := by decide +kernel
theorem dX9_rounds_23 : decode cX9_rounds 23 = .ok (.aload_n 0, 1) := by decide +kernel
theorem dX9_rounds_24 : decode cX9_rounds 24 = .ok (.invokevirtual 275, 3) := by decide +kernel
theorem dX9_rounds_27 : decode cX9_rounds 27 = .ok (.istore 4, 2) := by decide +kernel
theorem dX9_rounds_29 : decode cX9_rounds 29 = .ok (.iinc 3 1, 3) := by decide +kernel
theorem dX9_rounds_32 : decode cX9_rounds 32 = .ok (.goto (-14), 3) := by decide +kernel
theorem dX9_rounds_35 : decode cX9_rounds 35 = .ok (.aload_n 0, 1) := by decide +kernel
theorem dX9_rounds_36 : decode cX9_rounds 36 = .ok (.getfield 34, 3) := by decide +kernel
theorem dX9_rounds_39 : decode cX9_rounds 39 = .ok (.bipush 52, 2) := by decide +kernel
theorem dX9_rounds_41 : decode cX9_rounds 41 = .ok (.iaload, 1) := by decide +kernel
theorem dX9_rounds_42 : decode cX9_rounds 42 = .ok (.ireturn, 1) := by decide +kernel
theorem dX9_book_0 : decode cX9_book 0 = .ok (.aload_n 0, 1) := by decide +kernel
theorem dX9_book_1 : decode cX9_book 1 = .ok (.iload_n 1, 1) := by decide +kernel
theorem dX9_book_2 : decode cX9_book 2 = .ok (.invokevirtual 237, 3) := by decide +kernel
theorem dX9_book_5 : decode cX9_book 5 = .ok (.ifCond .eq 16, 3) := by decide +kernel
theorem dX9_book_8 : decode cX9_book 8 = .ok (.iload_n 2, 1) := by decide +kernel
theorem dX9_book_9 : decode cX9_book 9 = .ok (.iconst (-1), 1) := by decide +kernel
theorem dX9_book_10 : decode cX9_book 10 = .ok (.if_icmp .eq 14, 3) := by decide +kernel
theorem dX9_book_13 : decode cX9_book 13 = .ok (.aload_n 0, 1) := by decide +kernel
theorem dX9_book_14 : decode cX9_book 14 = .ok (.iload_n 2, 1) := by decide +kernel
theorem dX9_book_15 : decode cX9_book 15 = .ok (.invokevirtual 232, 3) := by decide +kernel
theorem dX9_book_18 : decode cX9_book 18 = .ok (.ifCond .ne 6, 3) := by decide +kernel
theorem dX9_book_21 : decode cX9_book 21 = .ok (.ldc 236, 2) := by decide +kernel
theorem dX9_book_23 : decode cX9_book 23 = .ok (.ireturn, 1) := by decide +kernel
theorem dX9_book_24 : decode cX9_book 24 = .ok (.aload_n 0, 1) := by decide +kernel
theorem dX9_book_25 : decode cX9_book 25 = .ok (.getfield 34, 3) := by decide +kernel
theorem dX9_book_28 : decode cX9_book 28 = .ok (.bipush 16, 2) := by decide +kernel
theorem dX9_book_30 : decode cX9_book 30 = .ok (.iload_n 1, 1) := by decide +kernel
theorem dX9_book_31 : decode cX9_book 31 = .ok (.iadd, 1) := by decide +kernel
theorem dX9_book_32 : decode cX9_book 32 = .ok (.iaload, 1) := by decide +kernel
theorem dX9_book_33 : decode cX9_book 33 = .ok (.iconst (-1), 1) := by decide +kernel
theorem dX9_book_34 : decode cX9_book 34 = .ok (.if_icmp .ne 7, 3) := by decide +kernel
theorem dX9_book_37 : decode cX9_book 37 = .ok (.ldc_w 271, 3) := by decide +kernel
theorem dX9_book_40 : decode cX9_book 40 = .ok (.ireturn, 1) := by decide +kernel
theorem dX9_book_41 : decode cX9_book 41 = .ok (.aload_n 0, 1) := by decide +kernel
theorem dX9_book_42 : decode cX9_book 42 = .ok (.invokevirtual 266, 3) := by decide +kernel
theorem dX9_book_45 : decode cX9_book 45 = .ok (.aload_n 0, 1) := by decide +kernel
theorem dX9_book_46 : decode cX9_book 46 = .ok (.getfield 34, 3) := by decide +kernel
theorem dX9_book_49 : decode cX9_book 49 = .ok (.bipush 37, 2) := by decide +kernel
theorem dX9_book_51 : decode cX9_book 51 = .ok (.iload_n 1, 1) := by decide +kernel
theorem dX9_book_52 : decode cX9_book 52 = .ok (.iadd, 1) := by decide +kernel
theorem dX9_book_53 : decode cX9_book 53 = .ok (.iaload, 1) := by decide +kernel
theorem dX9_book_54 : decode cX9_book 54 = .ok (.istore_n 3, 1) := by decide +kernel
theorem dX9_book_55 : decode cX9_book 55 = .ok (.aload_n 0, 1) := by decide +kernel
theorem dX9_book_56 : decode cX9_book 56 = .ok (.getfield 34, 3) := by decide +kernel
theorem dX9_book_59 : decode cX9_book 59 = .ok (.bipush 37, 2) := by decide +kernel
theorem dX9_book_61 : decode cX9_book 61 = .ok (.iload_n 1, 1) := by decide +kernel
theorem dX9_book_62 : decode cX9_book 62 = .ok (.iadd, 1) := by decide +kernel
theorem dX9_book_63 : decode cX9_book 63 = .ok (.iload_n 2, 1) := by decide +kernel
theorem dX9_book_64 : decode cX9_book 64 = .ok (.iastore, 1) := by decide +kernel
theorem dX9_book_65 : decode cX9_book 65 = .ok (.iload_n 3, 1) := by decide +kernel
theorem dX9_book_66 : decode cX9_book 66 = .ok (.ireturn, 1) := by decide +kernel
theorem dX9_walk_0 : decode cX9_walk 0 = .ok (.aload_n 0, 1) := by decide +kernel
theorem dX9_walk_1 : decode cX9_walk 1 = .ok (.iload_n 1, 1) := by decide +kernel
theorem dX9_walk_2 : decode cX9_walk 2 = .ok (.invokevirtual 237, 3) := by decide +kernel
theorem dX9_walk_5 : decode cX9_walk 5 = .ok (.ifCond .ne 6, 3) := by decide +kernel
theorem dX9_walk_8 : decode cX9_walk 8 = .ok (.ldc 236, 2) := by decide +kernel
theorem dX9_walk_10 : decode cX9_walk 10 = .ok (.ireturn, 1) := by decide +kernel
theorem dX9_walk_11 : decode cX9_walk 11 = .ok (.aload_n 0, 1) := by decide +kernel
theorem dX9_walk_12 : decode cX9_walk 12 = .ok (.getfield 34, 3) := by decide +kernel
theorem dX9_walk_15 : decode cX9_walk 15 = .ok (.bipush 16, 2) := by decide +kernel
theorem dX9_walk_17 : decode cX9_walk 17 = .ok (.iload_n 1, 1) := by decide +kernel
theorem dX9_walk_18 : decode cX9_walk 18 = .ok (.iadd, 1) := by decide +kernel
theorem dX9_walk_19 : decode cX9_walk 19 = .ok (.iaload, 1) := by decide +kernel
theorem dX9_walk_20 : decode cX9_walk 20 = .ok (.iload_n 2, 1) := by decide +kernel
theorem dX9_walk_21 : decode cX9_walk 21 = .ok (.ifCond .eq 7, 3) := by decide +kernel
theorem dX9_walk_24 : decode cX9_walk 24 = .ok (.iconst 1, 1) := by decide +kernel
theorem dX9_walk_25 : decode cX9_walk 25 = .ok (.goto 4, 3) := by decide +kernel
theorem dX9_walk_28 : decode cX9_walk 28 = .ok (.iconst (-1), 1) := by decide +kernel
theorem dX9_walk_29 : decode cX9_walk 29 = .ok (.iadd, 1) := by decide +kernel
theorem dX9_walk_30 : decode cX9_walk 30 = .ok (.istore_n 3, 1) := by decide +kernel
theorem dX9_walk_31 : decode cX9_walk 31 = .ok (.aload_n 0, 1) := by decide +kernel
theorem dX9_walk_32 : decode cX9_walk 32 = .ok (.getfield 34, 3) := by decide +kernel
theorem dX9_walk_35 : decode cX9_walk 35 = .ok (.bipush 16, 2) := by decide +kernel
theorem dX9_walk_37 : decode cX9_walk 37 = .ok (.iload_n 1, 1) := by decide +kernel
theorem dX9_walk_38 : decode cX9_walk 38 = .ok (.iadd, 1) := by decide +kernel
theorem dX9_walk_39 : decode cX9_walk 39 = .ok (.iaload, 1) := by decide +kernel
theorem dX9_walk_40 : decode cX9_walk 40 = .ok (.iconst (-1), 1) := by decide +kernel
theorem dX9_walk_41 : decode cX9_walk 41 = .ok (.if_icmp .eq 19, 3) := by decide +kernel
theorem dX9_walk_44 : decode cX9_walk 44 = .ok (.iload_n 3, 1) := by decide +kernel
theorem dX9_walk_45 : decode cX9_walk 45 = .ok (.i2l, 1) := by decide +kernel
theorem dX9_walk_46 : decode cX9_walk 46 = .ok (.lconst 0, 1) := by decide +kernel
theorem dX9_walk_47 : decode cX9_walk 47 = .ok (.aload_n 0, 1) := by decide +kernel
theorem dX9_walk_48 : decode cX9_walk 48 = .ok (.getfield 99, 3) := by decide +kernel
theorem dX9_walk_51 : decode cX9_walk 51 = .ok (.iconst 1, 1) := by decide +kernel
theorem dX9_walk_52 : decode cX9_walk 52 = .ok (.isub, 1) := by decide +kernel
theorem dX9_walk_53 : decode cX9_walk 53 = .ok (.i2l, 1) := by decide +kernel
theorem dX9_walk_54 : decode cX9_walk 54 = .ok (.invokestatic 105, 3) := by decide +kernel
theorem dX9_walk_57 : decode cX9_walk 57 = .ok (.ifCond .ne 7, 3) := by decide +kernel
theorem dX9_walk_60 : decode cX9_walk 60 = .ok (.ldc_w 271, 3) := by decide +kernel
theorem dX9_walk_63 : decode cX9_walk 63 = .ok (.ireturn, 1) := by decide +kernel
theorem dX9_walk_64 : decode cX9_walk 64 = .ok (.aload_n 0, 1) := by decide +kernel
theorem dX9_walk_65 : decode cX9_walk 65 = .ok (.invokevirtual 266, 3) := by decide +kernel
theorem dX9_walk_68 : decode cX9_walk 68 = .ok (.aload_n 0, 1) := by decide +kernel
theorem dX9_walk_69 : decode cX9_walk 69 = .ok (.getfield 34, 3) := by decide +kernel
theorem dX9_walk_72 : decode cX9_walk 72 = .ok (.bipush 16, 2) := by decide +kernel
theorem dX9_walk_74 : decode cX9_walk 74 = .ok (.iload_n 1, 1) := by decide +kernel
theorem dX9_walk_75 : decode cX9_walk 75 = .ok (.iadd, 1) := by decide +kernel
theorem dX9_walk_76 : decode cX9_walk 76 = .ok (.iload_n 3, 1) := by decide +kernel
theorem dX9_walk_77 : decode cX9_walk 77 = .ok (.iastore, 1) := by decide +kernel
theorem dX9_walk_78 : decode cX9_walk 78 = .ok (.iload_n 3, 1) := by decide +kernel
theorem dX9_walk_79 : decode cX9_walk 79 = .ok (.ireturn, 1) := by decide +kernel
theorem dX9_outNow_0 : decode cX9_outNow 0 = .ok (.aload_n 0, 1) := by decide +kernel
theorem dX9_outNow_1 : decode cX9_outNow 1 = .ok (.getfield 34, 3) := by decide +kernel
theorem dX9_outNow_4 : decode cX9_outNow 4 = .ok (.bipush 23, 2) := by decide +kernel
theorem dX9_outNow_6 : decode cX9_outNow 6 = .ok (.iload_n 1, 1) := by decide +kernel
theorem dX9_outNow_7 : decode cX9_outNow 7 = .ok (.iadd, 1) := by decide +kernel
theorem dX9_outNow_8 : decode cX9_outNow 8 = .ok (.iaload, 1) := by decide +kernel
theorem dX9_outNow_9 : decode cX9_outNow 9 = .ok (.istore_n 2, 1) := by decide +kernel
theorem dX9_outNow_10 : decode cX9_outNow 10 = .ok (.aload_n 0, 1) := by decide +kernel
theorem dX9_outNow_11 : decode cX9_outNow 11 = .ok (.getfield 34, 3) := by decide +kernel
theorem dX9_outNow_14 : decode cX9_outNow 14 = .ok (.bipush 16, 2) := by decide +kernel
theorem dX9_outNow_16 : decode cX9_outNow 16 = .ok (.iload_n 1, 1) := by decide +kernel
theorem dX9_outNow_17 : decode cX9_outNow 17 = .ok (.iadd, 1) := by decide +kernel
theorem dX9_outNow_18 : decode cX9_outNow 18 = .ok (.aload_n 0, 1) := by decide +kernel
theorem dX9_outNow_19 : decode cX9_outNow 19 = .ok (.getfield 34, 3) := by decide +kernel
theorem dX9_outNow_22 : decode cX9_outNow 22 = .ok (.iload_n 2, 1) := by decide +kernel
theorem dX9_outNow_23 : decode cX9_outNow 23 = .ok (.iaload, 1) := by decide +kernel
theorem dX9_outNow_24 : decode cX9_outNow 24 = .ok (.iastore, 1) := by decide +kernel
theorem dX9_outNow_25 : decode cX9_outNow 25 = .ok (.aload_n 0, 1) := by decide +kernel
theorem dX9_outNow_26 : decode cX9_outNow 26 = .ok (.getfield 34, 3) := by decide +kernel
theorem dX9_outNow_29 : decode cX9_outNow 29 = .ok (.bipush 23, 2) := by decide +kernel
theorem dX9_outNow_31 : decode cX9_outNow 31 = .ok (.iload_n 1, 1) := by decide +kernel
theorem dX9_outNow_32 : decode cX9_outNow 32 = .ok (.iadd, 1) := by decide +kernel
theorem dX9_outNow_33 : decode cX9_outNow 33 = .ok (.iconst (-1), 1) := by decide +kernel
theorem dX9_outNow_34 : decode cX9_outNow 34 = .ok (.iastore, 1) := by decide +kernel
theorem dX9_outNow_35 : decode cX9_outNow 35 = .ok (.aload_n 0, 1) := by decide +kernel
theorem dX9_outNow_36 : decode cX9_outNow 36 = .ok (.getfield 34, 3) := by decide +kernel
theorem dX9_outNow_39 : decode cX9_outNow 39 = .ok (.bipush 37, 2) := by decide +kernel
theorem dX9_outNow_41 : decode cX9_outNow 41 = .ok (.iload_n 1, 1) := by decide +kernel
theorem dX9_outNow_42 : decode cX9_outNow 42 = .ok (.iadd, 1) := by decide +kernel
theorem dX9_outNow_43 : decode cX9_outNow 43 = .ok (.iconst (-1), 1) := by decide +kernel
theorem dX9_outNow_44 : decode cX9_outNow 44 = .ok (.iastore, 1) := by decide +kernel
theorem dX9_outNow_45 : decode cX9_outNow 45 = .ok (.iload_n 2, 1) := by decide +kernel
theorem dX9_outNow_46 : decode cX9_outNow 46 = .ok (.ireturn, 1) := by decide +kernel
theorem dX9_out_0 : decode cX9_out 0 = .ok (.aload_n 0, 1) := by decide +kernel
theorem dX9_out_1 : decode cX9_out 1 = .ok (.iload_n 1, 1) := by decide +kernel
theorem dX9_out_2 : decode cX9_out 2 = .ok (.invokevirtual 237, 3) := by decide +kernel
theorem dX9_out_5 : decode cX9_out 5 = .ok (.ifCond .ne 6, 3) := by decide +kernel
theorem dX9_out_8 : decode cX9_out 8 = .ok (.ldc 236, 2) := by decide +kernel
theorem dX9_out_10 : decode cX9_out 10 = .ok (.ireturn, 1) := by decide +kernel
theorem dX9_out_11 : decode cX9_out 11 = .ok (.aload_n 0, 1) := by decide +kernel
theorem dX9_out_12 : decode cX9_out 12 = .ok (.getfield 34, 3) := by decide +kernel
theorem dX9_out_15 : decode cX9_out 15 = .ok (.bipush 23, 2) := by decide +kernel
theorem dX9_out_17 : decode cX9_out 17 = .ok (.iload_n 1, 1) := by decide +kernel
theorem dX9_out_18 : decode cX9_out 18 = .ok (.iadd, 1) := by decide +kernel
theorem dX9_out_19 : decode cX9_out 19 = .ok (.iaload, 1) := by decide +kernel
theorem dX9_out_20 : decode cX9_out 20 = .ok (.iconst (-1), 1) := by decide +kernel
theorem dX9_out_21 : decode cX9_out 21 = .ok (.if_icmp .ne 7, 3) := by decide +kernel
theorem dX9_out_24 : decode cX9_out 24 = .ok (.ldc_w 271, 3) := by decide +kernel
theorem dX9_out_27 : decode cX9_out 27 = .ok (.ireturn, 1) := by decide +kernel
theorem dX9_out_28 : decode cX9_out 28 = .ok (.aload_n 0, 1) := by decide +kernel
theorem dX9_out_29 : decode cX9_out 29 = .ok (.invokevirtual 266, 3) := by decide +kernel
theorem dX9_out_32 : decode cX9_out 32 = .ok (.aload_n 0, 1) := by decide +kernel
theorem dX9_out_33 : decode cX9_out 33 = .ok (.iload_n 1, 1) := by decide +kernel
theorem dX9_out_34 : decode cX9_out 34 = .ok (.invokevirtual 278, 3) := by decide +kernel
theorem dX9_out_37 : decode cX9_out 37 = .ok (.ireturn, 1) := by decide +kernel
theorem dX9_slow_0 : decode cX9_slow 0 = .ok (.aload_n 0, 1) := by decide +kernel
theorem dX9_slow_1 : decode cX9_slow 1 = .ok (.iload_n 1, 1) := by decide +kernel
theorem dX9_slow_2 : decode cX9_slow 2 = .ok (.invokevirtual 237, 3) := by decide +kernel
theorem dX9_slow_5 : decode cX9_slow 5 = .ok (.ifCond .ne 6, 3) := by decide +kernel
theorem dX9_slow_8 : decode cX9_slow 8 = .ok (.ldc 236, 2) := by decide +kernel
theorem dX9_slow_10 : decode cX9_slow 10 = .ok (.ireturn, 1) := by decide +kernel
theorem dX9_slow_11 : decode cX9_slow 11 = .ok (.iload_n 2, 1) := by decide +kernel
theorem dX9_slow_12 : decode cX9_slow 12 = .ok (.i2l, 1) := by decide +kernel
theorem dX9_slow_13 : decode cX9_slow 13 = .ok (.lconst 0, 1) := by decide +kernel
theorem dX9_slow_14 : decode cX9_slow 14 = .ok (.ldc2_w 269, 3) := by decide +kernel
theorem dX9_slow_17 : decode cX9_slow 17 = .ok (.invokestatic 105, 3) := by decide +kernel
theorem dX9_slow_20 : decode cX9_slow 20 = .ok (.ifCond .ne 6, 3) := by decide +kernel
theorem dX9_slow_23 : decode cX9_slow 23 = .ok (.ldc 114, 2) := by decide +kernel
theorem dX9_slow_25 : decode cX9_slow 25 = .ok (.ireturn, 1) := by decide +kernel
theorem dX9_slow_26 : decode cX9_slow 26 = .ok (.aload_n 0, 1) := by decide +kernel
theorem dX9_slow_27 : decode cX9_slow 27 = .ok (.invokevirtual 266, 3) := by decide +kernel
theorem dX9_slow_30 : decode cX9_slow 30 = .ok (.aload_n 0, 1) := by decide +kernel
theorem dX9_slow_31 : decode cX9_slow 31 = .ok (.getfield 34, 3) := by decide +kernel
theorem dX9_slow_34 : decode cX9_slow 34 = .ok (.bipush 30, 2) := by decide +kernel
theorem dX9_slow_36 : decode cX9_slow 36 = .ok (.iload_n 1, 1) := by decide +kernel
theorem dX9_slow_37 : decode cX9_slow 37 = .ok (.iadd, 1) := by decide +kernel
theorem dX9_slow_38 : decode cX9_slow 38 = .ok (.iaload, 1) := by decide +kernel
theorem dX9_slow_39 : decode cX9_slow 39 = .ok (.istore_n 3, 1) := by decide +kernel
theorem dX9_slow_40 : decode cX9_slow 40 = .ok (.aload_n 0, 1) := by decide +kernel
theorem dX9_slow_41 : decode cX9_slow 41 = .ok (.getfield 34, 3) := by decide +kernel
theorem dX9_slow_44 : decode cX9_slow 44 = .ok (.bipush 30, 2) := by decide +kernel
theorem dX9_slow_46 : decode cX9_slow 46 = .ok (.iload_n 1, 1) := by decide +kernel
theorem dX9_slow_47 : decode cX9_slow 47 = .ok (.iadd, 1) := by decide +kernel
theorem dX9_slow_48 : decode cX9_slow 48 = .ok (.iload_n 2, 1) := by decide +kernel
theorem dX9_slow_49 : decode cX9_slow 49 = .ok (.iastore, 1) := by decide +kernel
theorem dX9_slow_50 : decode cX9_slow 50 = .ok (.iload_n 3, 1) := by decide +kernel
theorem dX9_slow_51 : decode cX9_slow 51 = .ok (.ireturn, 1) := by decide +kernel
theorem dX9_waits_0 : decode cX9_waits 0 = .ok (.aload_n 0, 1) := by decide +kernel
theorem dX9_waits_1 : decode cX9_waits 1 = .ok (.iload_n 1, 1) := by decide +kernel
theorem dX9_waits_2 : decode cX9_waits 2 = .ok (.invokevirtual 232, 3) := by decide +kernel
theorem dX9_waits_5 : decode cX9_waits 5 = .ok (.ifCond .ne 6, 3) := by decide +kernel
theorem dX9_waits_8 : decode cX9_waits 8 = .ok (.ldc 236, 2) := by decide +kernel
theorem dX9_waits_10 : decode cX9_waits 10 = .ok (.ireturn, 1) := by decide +kernel
theorem dX9_waits_11 : decode cX9_waits 11 = .ok (.iload_n 2, 1) := by decide +kernel
theorem dX9_waits_12 : decode cX9_waits 12 = .ok (.i2l, 1) := by decide +kernel
theorem dX9_waits_13 : decode cX9_waits 13 = .ok (.lconst 0, 1) := by decide +kernel
theorem dX9_waits_14 : decode cX9_waits 14 = .ok (.ldc2_w 281, 3) := by decide +kernel
theorem dX9_waits_17 : decode cX9_waits 17 = .ok (.invokestatic 105, 3) := by decide +kernel
theorem dX9_waits_20 : decode cX9_waits 20 = .ok (.ifCond .ne 6, 3) := by decide +kernel
theorem dX9_waits_23 : decode cX9_waits 23 = .ok (.ldc 114, 2) := by decide +kernel
theorem dX9_waits_25 : decode cX9_waits 25 = .ok (.ireturn, 1) := by decide +kernel
theorem dX9_waits_26 : decode cX9_waits 26 = .ok (.aload_n 0, 1) := by decide +kernel
theorem dX9_waits_27 : decode cX9_waits 27 = .ok (.invokevirtual 266, 3) := by decide +kernel
theorem dX9_waits_30 : decode cX9_waits 30 = .ok (.aload_n 0, 1) := by decide +kernel
theorem dX9_waits_31 : decode cX9_waits 31 = .ok (.getfield 34, 3) := by decide +kernel
theorem dX9_waits_34 : decode cX9_waits 34 = .ok (.bipush 8, 2) := by decide +kernel
theorem dX9_waits_36 : decode cX9_waits 36 = .ok (.iload_n 1, 1) := by decide +kernel
theorem dX9_waits_37 : decode cX9_waits 37 = .ok (.iadd, 1) := by decide +kernel
theorem dX9_waits_38 : decode cX9_waits 38 = .ok (.iaload, 1) := by decide +kernel
theorem dX9_waits_39 : decode cX9_waits 39 = .ok (.istore_n 3, 1) := by decide +kernel
theorem dX9_waits_40 : decode cX9_waits 40 = .ok (.aload_n 0, 1) := by decide +kernel
theorem dX9_waits_41 : decode cX9_waits 41 = .ok (.getfield 34, 3) := by decide +kernel
theorem dX9_waits_44 : decode cX9_waits 44 = .ok (.bipush 8, 2) := by decide +kernel
theorem dX9_waits_46 : decode cX9_waits 46 = .ok (.iload_n 1, 1) := by decide +kernel
theorem dX9_waits_47 : decode cX9_waits 47 = .ok (.iadd, 1) := by decide +kernel
theorem dX9_waits_48 : decode cX9_waits 48 = .ok (.iload_n 2, 1) := by decide +kernel
theorem dX9_waits_49 : decode cX9_waits 49 = .ok (.iastore, 1) := by decide +kernel
theorem dX9_waits_50 : decode cX9_waits 50 = .ok (.iload_n 3, 1) := by decide +kernel
theorem dX9_waits_51 : decode cX9_waits 51 = .ok (.ireturn, 1) := by decide +kernel
theorem dX9_light_0 : decode cX9_light 0 = .ok (.iload_n 1, 1) := by decide +kernel
theorem dX9_light_1 : decode cX9_light 1 = .ok (.i2l, 1) := by decide +kernel
theorem dX9_light_2 : decode cX9_light 2 = .ok (.lconst 0, 1) := by decide +kernel
theorem dX9_light_3 : decode cX9_light 3 = .ok (.iconst 1, 1) := by decide +kernel
theorem dX9_light_4 : decode cX9_light 4 = .ok (.aload_n 0, 1) := by decide +kernel
theorem dX9_light_5 : decode cX9_light 5 = .ok (.getfield 99, 3) := by decide +kernel
theorem dX9_light_8 : decode cX9_light 8 = .ok (.ishl, 1) := by decide +kernel
theorem dX9_light_9 : decode cX9_light 9 = .ok (.iconst 1, 1) := by decide +kernel
theorem dX9_light_10 : decode cX9_light 10 = .ok (.isub, 1) := by decide +kernel
theorem dX9_light_11 : decode cX9_light 11 = .ok (.i2l, 1) := by decide +kernel
theorem dX9_light_12 : decode cX9_light 12 = .ok (.invokestatic 105, 3) := by decide +kernel
theorem dX9_light_15 : decode cX9_light 15 = .ok (.ifCond .ne 6, 3) := by decide +kernel
theorem dX9_light_18 : decode cX9_light 18 = .ok (.ldc 236, 2) := by decide +kernel
theorem dX9_light_20 : decode cX9_light 20 = .ok (.ireturn, 1) := by decide +kernel
theorem dX9_light_21 : decode cX9_light 21 = .ok (.aload_n 0, 1) := by decide +kernel
theorem dX9_light_22 : decode cX9_light 22 = .ok (.getfield 99, 3) := by decide +kernel
theorem dX9_light_25 : decode cX9_light 25 = .ok (.ifCond .ne 7, 3) := by decide +kernel
theorem dX9_light_28 : decode cX9_light 28 = .ok (.ldc_w 271, 3) := by decide +kernel
theorem dX9_light_31 : decode cX9_light 31 = .ok (.ireturn, 1) := by decide +kernel
theorem dX9_light_32 : decode cX9_light 32 = .ok (.aload_n 0, 1) := by decide +kernel
theorem dX9_light_33 : decode cX9_light 33 = .ok (.invokevirtual 266, 3) := by decide +kernel
theorem dX9_light_36 : decode cX9_light 36 = .ok (.aload_n 0, 1) := by decide +kernel
theorem dX9_light_37 : decode cX9_light 37 = .ok (.getfield 34, 3) := by decide +kernel
theorem dX9_light_40 : decode cX9_light 40 = .ok (.bipush 51, 2) := by decide +kernel
theorem dX9_light_42 : decode cX9_light 42 = .ok (.iaload, 1) := by decide +kernel
theorem dX9_light_43 : decode cX9_light 43 = .ok (.istore_n 2, 1) := by decide +kernel
theorem dX9_light_44 : decode cX9_light 44 = .ok (.aload_n 0, 1) := by decide +kernel
theorem dX9_light_45 : decode cX9_light 45 = .ok (.getfield 34, 3) := by decide +kernel
theorem dX9_light_48 : decode cX9_light 48 = .ok (.bipush 51, 2) := by decide +kernel
theorem dX9_light_50 : decode cX9_light 50 = .ok (.iload_n 1, 1) := by decide +kernel
theorem dX9_light_51 : decode cX9_light 51 = .ok (.iastore, 1) := by decide +kernel
theorem dX9_light_52 : decode cX9_light 52 = .ok (.iload_n 2, 1) := by decide +kernel
theorem dX9_light_53 : decode cX9_light 53 = .ok (.ireturn, 1) := by decide +kernel
theorem dX9_draw_0 : decode cX9_draw 0 = .ok (.aload_n 0, 1) := by decide +kernel
theorem dX9_draw_1 : decode cX9_draw 1 = .ok (.aload_n 0, 1) := by decide +kernel
theorem dX9_draw_2 : decode cX9_draw 2 = .ok (.getfield 283, 3) := by decide +kernel
theorem dX9_draw_5 : decode cX9_draw 5 = .ok (.i2l, 1) := by decide +kernel
theorem dX9_draw_6 : decode cX9_draw 6 = .ok (.ldc2_w 286, 3) := by decide +kernel
theorem dX9_draw_9 : decode cX9_draw 9 = .ok (.lmul, 1) := by decide +kernel
theorem dX9_draw_10 : decode cX9_draw 10 = .ok (.ldc2_w 288, 3) := by decide +kernel
theorem dX9_draw_13 : decode cX9_draw 13 = .ok (.ladd, 1) := by decide +kernel
theorem dX9_draw_14 : decode cX9_draw 14 = .ok (.ldc2_w 290, 3) := by decide +kernel
theorem dX9_draw_17 : decode cX9_draw 17 = .ok (.lrem, 1) := by decide +kernel
theorem dX9_draw_18 : decode cX9_draw 18 = .ok (.l2i, 1) := by decide +kernel
theorem dX9_draw_19 : decode cX9_draw 19 = .ok (.putfield 283, 3) := by decide +kernel
theorem dX9_draw_22 : decode cX9_draw 22 = .ok (.aload_n 0, 1) := by decide +kernel
theorem dX9_draw_23 : decode cX9_draw 23 = .ok (.getfield 283, 3) := by decide +kernel
theorem dX9_draw_26 : decode cX9_draw 26 = .ok (.ldc_w 292, 3) := by decide +kernel
theorem dX9_draw_29 : decode cX9_draw 29 = .ok (.idiv, 1) := by decide +kernel
theorem dX9_draw_30 : decode cX9_draw 30 = .ok (.iload_n 1, 1) := by decide +kernel
theorem dX9_draw_31 : decode cX9_draw 31 = .ok (.irem, 1) := by decide +kernel
theorem dX9_draw_32 : decode cX9_draw 32 = .ok (.ireturn, 1) := by decide +kernel
theorem dX9_chance_0 : decode cX9_chance 0 = .ok (.aload_n 0, 1) := by decide +kernel
theorem dX9_chance_1 : decode cX9_chance 1 = .ok (.iconst 4, 1) := by decide +kernel
theorem dX9_chance_2 : decode cX9_chance 2 = .ok (.invokevirtual 293, 3) := by decide +kernel
theorem dX9_chance_5 : decode cX9_chance 5 = .ok (.istore_n 1, 1) := by decide +kernel
theorem dX9_chance_6 : decode cX9_chance 6 = .ok (.aload_n 0, 1) := by decide +kernel
theorem dX9_chance_7 : decode cX9_chance 7 = .ok (.aload_n 0, 1) := by decide +kernel
theorem dX9_chance_8 : decode cX9_chance 8 = .ok (.getfield 109, 3) := by decide +kernel
theorem dX9_chance_11 : decode cX9_chance 11 = .ok (.invokevirtual 293, 3) := by decide +kernel
theorem dX9_chance_14 : decode cX9_chance 14 = .ok (.istore_n 2, 1) := by decide +kernel
theorem dX9_chance_15 : decode cX9_chance 15 = .ok (.aload_n 0, 1) := by decide +kernel
theorem dX9_chance_16 : decode cX9_chance 16 = .ok (.aload_n 0, 1) := by decide +kernel
theorem dX9_chance_17 : decode cX9_chance 17 = .ok (.getfield 102, 3) := by decide +kernel
theorem dX9_chance_20 : decode cX9_chance 20 = .ok (.invokevirtual 293, 3) := by decide +kernel
theorem dX9_chance_23 : decode cX9_chance 23 = .ok (.istore_n 3, 1) := by decide +kernel
theorem dX9_chance_24 : decode cX9_chance 24 = .ok (.iload_n 1, 1) := by decide +kernel
theorem dX9_chance_25 : decode cX9_chance 25 = .ok (.iconst 2, 1) := by decide +kernel
theorem dX9_chance_26 : decode cX9_chance 26 = .ok (.if_icmp .ge 41, 3) := by decide +kernel
theorem dX9_chance_29 : decode cX9_chance 29 = .ok (.aload_n 0, 1) := by decide +kernel
theorem dX9_chance_30 : decode cX9_chance 30 = .ok (.getfield 34, 3) := by decide +kernel
theorem dX9_chance_33 : decode cX9_chance 33 = .ok (.bipush 37, 2) := by decide +kernel
theorem dX9_chance_35 : decode cX9_chance 35 = .ok (.iload_n 2, 1) := by decide +kernel
theorem dX9_chance_36 : decode cX9_chance 36 = .ok (.iadd, 1) := by decide +kernel
theorem dX9_chance_37 : decode cX9_chance 37 = .ok (.aload_n 0, 1) := by decide +kernel
theorem dX9_chance_38 : decode cX9_chance 38 = .ok (.getfield 34, 3) := by decide +kernel
theorem dX9_chance_41 : decode cX9_chance 41 = .ok (.bipush 16, 2) := by decide +kernel
theorem dX9_chance_43 : decode cX9_chance 43 = .ok (.iload_n 2, 1) := by decide +kernel
theorem dX9_chance_44 : decode cX9_chance 44 = .ok (.iadd, 1) := by decide +kernel
theorem dX9_chance_45 : decode cX9_chance 45 = .ok (.iaload, 1) := by decide +kernel
theorem dX9_chance_46 : decode cX9_chance 46 = .ok (.iconst (-1), 1) := by decide +kernel
theorem dX9_chance_47 : decode cX9_chance 47 = .ok (.if_icmp .eq 7, 3) := by decide +kernel
theorem dX9_chance_50 : decode cX9_chance 50 = .ok (.iload_n 3, 1) := by decide +kernel
theorem dX9_chance_51 : decode cX9_chance 51 = .ok (.goto 12, 3) := by decide +kernel
theorem dX9_chance_54 : decode cX9_chance 54 = .ok (.aload_n 0, 1) := by decide +kernel
theorem dX9_chance_55 : decode cX9_chance 55 = .ok (.getfield 34, 3) := by decide +kernel
theorem dX9_chance_58 : decode cX9_chance 58 = .ok (.bipush 37, 2) := by decide +kernel
theorem dX9_chance_60 : decode cX9_chance 60 = .ok (.iload_n 2, 1) := by decide +kernel
theorem dX9_chance_61 : decode cX9_chance 61 = .ok (.iadd, 1) := by decide +kernel
theorem dX9_chance_62 : decode cX9_chance 62 = .ok (.iaload, 1) := by decide +kernel
theorem dX9_chance_63 : decode cX9_chance 63 = .ok (.iastore, 1) := by decide +kernel
theorem dX9_chance_64 : decode cX9_chance 64 = .ok (.goto 46, 3) := by decide +kernel
theorem dX9_chance_67 : decode cX9_chance 67 = .ok (.iload_n 1, 1) := by decide +kernel
theorem dX9_chance_68 : decode cX9_chance 68 = .ok (.iconst 2, 1) := by decide +kernel
theorem dX9_chance_69 : decode cX9_chance 69 = .ok (.if_icmp .ne 21, 3) := by decide +kernel
theorem dX9_chance_72 : decode cX9_chance 72 = .ok (.aload_n 0, 1) := by decide +kernel
theorem dX9_chance_73 : decode cX9_chance 73 = .ok (.getfield 34, 3) := by decide +kernel
theorem dX9_chance_76 : decode cX9_chance 76 = .ok (.bipush 30, 2) := by decide +kernel
theorem dX9_chance_78 : decode cX9_chance 78 = .ok (.iload_n 2, 1) := by decide +kernel
theorem dX9_chance_79 : decode cX9_chance 79 = .ok (.iadd, 1) := by decide +kernel
theorem dX9_chance_80 : decode cX9_chance 80 = .ok (.aload_n 0, 1) := by decide +kernel
theorem dX9_chance_81 : decode cX9_chance 81 = .ok (.bipush 31, 2) := by decide +kernel
theorem dX9_chance_83 : decode cX9_chance 83 = .ok (.invokevirtual 293, 3) := by decide +kernel
theorem dX9_chance_86 : decode cX9_chance 86 = .ok (.iastore, 1) := by decide +kernel
theorem dX9_chance_87 : decode cX9_chance 87 = .ok (.goto 23, 3) := by decide +kernel
theorem dX9_chance_90 : decode cX9_chance 90 = .ok (.aload_n 0, 1) := by decide +kernel
theorem dX9_chance_91 : decode cX9_chance 91 = .ok (.getfield 34, 3) := by decide +kernel
theorem dX9_chance_94 : decode cX9_chance 94 = .ok (.bipush 23, 2) := by decide +kernel
theorem dX9_chance_96 : decode cX9_chance 96 = .ok (.iload_n 2, 1) := by decide +kernel
theorem dX9_chance_97 : decode cX9_chance 97 = .ok (.iadd, 1) := by decide +kernel
theorem dX9_chance_98 : decode cX9_chance 98 = .ok (.iaload, 1) := by decide +kernel
theorem dX9_chance_99 : decode cX9_chance 99 = .ok (.iconst (-1), 1) := by decide +kernel
theorem dX9_chance_100 : decode cX9_chance 100 = .ok (.if_icmp .eq 10, 3) := by decide +kernel
theorem dX9_chance_103 : decode cX9_chance 103 = .ok (.aload_n 0, 1) := by decide +kernel
theorem dX9_chance_104 : decode cX9_chance 104 = .ok (.iload_n 2, 1) := by decide +kernel
theorem dX9_chance_105 : decode cX9_chance 105 = .ok (.invokevirtual 278, 3) := by decide +kernel
theorem dX9_chance_108 : decode cX9_chance 108 = .ok (.istore 4, 2) := by decide +kernel
theorem dX9_chance_110 : decode cX9_chance 110 = .ok (.return_, 1) := by decide +kernel
theorem dX9_drift_0 : decode cX9_drift 0 = .ok (.aload_n 0, 1) := by decide +kernel
theorem dX9_drift_1 : decode cX9_drift 1 = .ok (.iload_n 1, 1) := by decide +kernel
theorem dX9_drift_2 : decode cX9_drift 2 = .ok (.invokevirtual 272, 3) := by decide +kernel
theorem dX9_drift_5 : decode cX9_drift 5 = .ok (.istore_n 2, 1) := by decide +kernel
theorem dX9_drift_6 : decode cX9_drift 6 = .ok (.iload_n 2, 1) := by decide +kernel
theorem dX9_drift_7 : decode cX9_drift 7 = .ok (.ifCond .eq 5, 3) := by decide +kernel
theorem dX9_drift_10 : decode cX9_drift 10 = .ok (.iload_n 2, 1) := by decide +kernel
theorem dX9_drift_11 : decode cX9_drift 11 = .ok (.ireturn, 1) := by decide +kernel
theorem dX9_drift_12 : decode cX9_drift 12 = .ok (.aload_n 0, 1) := by decide +kernel
theorem dX9_drift_13 : decode cX9_drift 13 = .ok (.invokevirtual 266, 3) := by decide +kernel
theorem dX9_drift_16 : decode cX9_drift 16 = .ok (.iconst 0, 1) := by decide +kernel
theorem dX9_drift_17 : decode cX9_drift 17 = .ok (.istore_n 3, 1) := by decide +kernel
theorem dX9_drift_18 : decode cX9_drift 18 = .ok (.iload_n 3, 1) := by decide +kernel
theorem dX9_drift_19 : decode cX9_drift 19 = .ok (.iload_n 1, 1) := by decide +kernel
theorem dX9_drift_20 : decode cX9_drift 20 = .ok (.if_icmp .ge 33, 3) := by decide +kernel
theorem dX9_drift_23 : decode cX9_drift 23 = .ok (.aload_n 0, 1) := by decide +kernel
theorem dX9_drift_24 : decode cX9_drift 24 = .ok (.getfield 109, 3) := by decide +kernel
theorem dX9_drift_27 : decode cX9_drift 27 = .ok (.ifCond .le 14, 3) := by decide +kernel
theorem dX9_drift_30 : decode cX9_drift 30 = .ok (.aload_n 0, 1) := by decide +kernel
theorem dX9_drift_31 : decode cX9_drift 31 = .ok (.getfield 102, 3) := by decide +kernel
theorem dX9_drift_34 : decode cX9_drift 34 = .ok (.ifCond .le 7, 3) := by decide +kernel
theorem dX9_drift_37 : decode cX9_drift 37 = .ok (.aload_n 0, 1) := by decide +kernel
theorem dX9_drift_38 : decode cX9_drift 38 = .ok (.invokevirtual 296, 3) := by decide +kernel
theorem dX9_drift_41 : decode cX9_drift 41 = .ok (.aload_n 0, 1) := by decide +kernel
theorem dX9_drift_42 : decode cX9_drift 42 = .ok (.invokevirtual 275, 3) := by decide +kernel
theorem dX9_drift_45 : decode cX9_drift 45 = .ok (.istore 4, 2) := by decide +kernel
theorem dX9_drift_47 : decode cX9_drift 47 = .ok (.iinc 3 1, 3) := by decide +kernel
theorem dX9_drift_50 : decode cX9_drift 50 = .ok (.goto (-32), 3) := by decide +kernel
theorem dX9_drift_53 : decode cX9_drift 53 = .ok (.aload_n 0, 1) := by decide +kernel
theorem dX9_drift_54 : decode cX9_drift 54 = .ok (.getfield 34, 3) := by decide +kernel
theorem dX9_drift_57 : decode cX9_drift 57 = .ok (.bipush 52, 2) := by decide +kernel
theorem dX9_drift_59 : decode cX9_drift 59 = .ok (.iaload, 1) := by decide +kernel
theorem dX9_drift_60 : decode cX9_drift 60 = .ok (.ireturn, 1) := by decide +kernel
theorem dX9_undo_0 : decode cX9_undo 0 = .ok (.aload_n 0, 1) := by decide +kernel
theorem dX9_undo_1 : decode cX9_undo 1 = .ok (.getfield 194, 3) := by decide +kernel
theorem dX9_undo_4 : decode cX9_undo 4 = .ok (.ifCond .ne 7, 3) := by decide +kernel
theorem dX9_undo_7 : decode cX9_undo 7 = .ok (.ldc_w 271, 3) := by decide +kernel
theorem dX9_undo_10 : decode cX9_undo 10 = .ok (.ireturn, 1) := by decide +kernel
theorem dX9_undo_11 : decode cX9_undo 11 = .ok (.aload_n 0, 1) := by decide +kernel
theorem dX9_undo_12 : decode cX9_undo 12 = .ok (.dup, 1) := by decide +kernel
theorem dX9_undo_13 : decode cX9_undo 13 = .ok (.getfield 194, 3) := by decide +kernel
theorem dX9_undo_16 : decode cX9_undo 16 = .ok (.iconst 1, 1) := by decide +kernel
theorem dX9_undo_17 : decode cX9_undo 17 = .ok (.isub, 1) := by decide +kernel
theorem dX9_undo_18 : decode cX9_undo 18 = .ok (.putfield 194, 3) := by decide +kernel
theorem dX9_undo_21 : decode cX9_undo 21 = .ok (.iconst 0, 1) := by decide +kernel
theorem dX9_undo_22 : decode cX9_undo 22 = .ok (.istore_n 1, 1) := by decide +kernel
theorem dX9_undo_23 : decode cX9_undo 23 = .ok (.iload_n 1, 1) := by decide +kernel
theorem dX9_undo_24 : decode cX9_undo 24 = .ok (.bipush 74, 2) := by decide +kernel
theorem dX9_undo_26 : decode cX9_undo 26 = .ok (.if_icmp .ge 29, 3) := by decide +kernel
theorem dX9_undo_29 : decode cX9_undo 29 = .ok (.aload_n 0, 1) := by decide +kernel
theorem dX9_undo_30 : decode cX9_undo 30 = .ok (.getfield 34, 3) := by decide +kernel
theorem dX9_undo_33 : decode cX9_undo 33 = .ok (.iload_n 1, 1) := by decide +kernel
theorem dX9_undo_34 : decode cX9_undo 34 = .ok (.aload_n 0, 1) := by decide +kernel
theorem dX9_undo_35 : decode cX9_undo 35 = .ok (.getfield 68, 3) := by decide +kernel
theorem dX9_undo_38 : decode cX9_undo 38 = .ok (.bipush 74, 2) := by decide +kernel
theorem dX9_undo_40 : decode cX9_undo 40 = .ok (.aload_n 0, 1) := by decide +kernel
theorem dX9_undo_41 : decode cX9_undo 41 = .ok (.getfield 194, 3) := by decide +kernel
theorem dX9_undo_44 : decode cX9_undo 44 = .ok (.imul, 1) := by decide +kernel
theorem dX9_undo_45 : decode cX9_undo 45 = .ok (.iload_n 1, 1) := by decide +kernel
theorem dX9_undo_46 : decode cX9_undo 46 = .ok (.iadd, 1) := by decide +kernel
theorem dX9_undo_47 : decode cX9_undo 47 = .ok (.iaload, 1) := by decide +kernel
theorem dX9_undo_48 : decode cX9_undo 48 = .ok (.iastore, 1) := by decide +kernel
theorem dX9_undo_49 : decode cX9_undo 49 = .ok (.iinc 1 1, 3) := by decide +kernel
theorem dX9_undo_52 : decode cX9_undo 52 = .ok (.goto (-29), 3) := by decide +kernel
theorem dX9_undo_55 : decode cX9_undo 55 = .ok (.aload_n 0, 1) := by decide +kernel
theorem dX9_undo_56 : decode cX9_undo 56 = .ok (.getfield 194, 3) := by decide +kernel
theorem dX9_undo_59 : decode cX9_undo 59 = .ok (.ireturn, 1) := by decide +kernel
theorem dX9_left_0 : decode cX9_left 0 = .ok (.aload_n 0, 1) := by decide +kernel
theorem dX9_left_1 : decode cX9_left 1 = .ok (.iload_n 1, 1) := by decide +kernel
theorem dX9_left_2 : decode cX9_left 2 = .ok (.invokevirtual 232, 3) := by decide +kernel
theorem dX9_left_5 : decode cX9_left 5 = .ok (.ifCond .ne 6, 3) := by decide +kernel
theorem dX9_left_8 : decode cX9_left 8 = .ok (.ldc 236, 2) := by decide +kernel
theorem dX9_left_10 : decode cX9_left 10 = .ok (.ireturn, 1) := by decide +kernel
theorem dX9_left_11 : decode cX9_left 11 = .ok (.iload_n 2, 1) := by decide +kernel
theorem dX9_left_12 : decode cX9_left 12 = .ok (.i2l, 1) := by decide +kernel
theorem dX9_left_13 : decode cX9_left 13 = .ok (.lconst 0, 1) := by decide +kernel
theorem dX9_left_14 : decode cX9_left 14 = .ok (.lconst 1, 1) := by decide +kernel
theorem dX9_left_15 : decode cX9_left 15 = .ok (.invokestatic 105, 3) := by decide +kernel
theorem dX9_left_18 : decode cX9_left 18 = .ok (.ifCond .ne 6, 3) := by decide +kernel
theorem dX9_left_21 : decode cX9_left 21 = .ok (.ldc 114, 2) := by decide +kernel
theorem dX9_left_23 : decode cX9_left 23 = .ok (.ireturn, 1) := by decide +kernel
theorem dX9_left_24 : decode cX9_left 24 = .ok (.aload_n 0, 1) := by decide +kernel
theorem dX9_left_25 : decode cX9_left 25 = .ok (.iload_n 1, 1) := by decide +kernel
theorem dX9_left_26 : decode cX9_left 26 = .ok (.invokevirtual 243, 3) := by decide +kernel
theorem dX9_left_29 : decode cX9_left 29 = .ok (.istore_n 3, 1) := by decide +kernel
theorem dX9_left_30 : decode cX9_left 30 = .ok (.iload_n 2, 1) := by decide +kernel
theorem dX9_left_31 : decode cX9_left 31 = .ok (.ifCond .ne 7, 3) := by decide +kernel
theorem dX9_left_34 : decode cX9_left 34 = .ok (.iload_n 3, 1) := by decide +kernel
theorem dX9_left_35 : decode cX9_left 35 = .ok (.goto 24, 3) := by decide +kernel
theorem dX9_left_38 : decode cX9_left 38 = .ok (.iload_n 3, 1) := by decide +kernel
theorem dX9_left_39 : decode cX9_left 39 = .ok (.ifCond .ne 15, 3) := by decide +kernel
theorem dX9_left_42 : decode cX9_left 42 = .ok (.aload_n 0, 1) := by decide +kernel
theorem dX9_left_43 : decode cX9_left 43 = .ok (.getfield 34, 3) := by decide +kernel
theorem dX9_left_46 : decode cX9_left 46 = .ok (.bipush 12, 2) := by decide +kernel
theorem dX9_left_48 : decode cX9_left 48 = .ok (.iload_n 1, 1) := by decide +kernel
theorem dX9_left_49 : decode cX9_left 49 = .ok (.iadd, 1) := by decide +kernel
theorem dX9_left_50 : decode cX9_left 50 = .ok (.iaload, 1) := by decide +kernel
theorem dX9_left_51 : decode cX9_left 51 = .ok (.goto 8, 3) := by decide +kernel
theorem dX9_left_54 : decode cX9_left 54 = .ok (.aload_n 0, 1) := by decide +kernel
theorem dX9_left_55 : decode cX9_left 55 = .ok (.iload_n 3, 1) := by decide +kernel
theorem dX9_left_56 : decode cX9_left 56 = .ok (.invokevirtual 246, 3) := by decide +kernel
theorem dX9_left_59 : decode cX9_left 59 = .ok (.ireturn, 1) := by decide +kernel
theorem dX9_behind_0 : decode cX9_behind 0 = .ok (.aload_n 0, 1) := by decide +kernel
theorem dX9_behind_1 : decode cX9_behind 1 = .ok (.iload_n 1, 1) := by decide +kernel
theorem dX9_behind_2 : decode cX9_behind 2 = .ok (.invokevirtual 237, 3) := by decide +kernel
theorem dX9_behind_5 : decode cX9_behind 5 = .ok (.ifCond .ne 6, 3) := by decide +kernel
theorem dX9_behind_8 : decode cX9_behind 8 = .ok (.ldc 236, 2) := by decide +kernel
theorem dX9_behind_10 : decode cX9_behind 10 = .ok (.ireturn, 1) := by decide +kernel
theorem dX9_behind_11 : decode cX9_behind 11 = .ok (.iload_n 2, 1) := by decide +kernel
theorem dX9_behind_12 : decode cX9_behind 12 = .ok (.i2l, 1) := by decide +kernel
theorem dX9_behind_13 : decode cX9_behind 13 = .ok (.lconst 0, 1) := by decide +kernel
theorem dX9_behind_14 : decode cX9_behind 14 = .ok (.ldc2_w 299, 3) := by decide +kernel
theorem dX9_behind_17 : decode cX9_behind 17 = .ok (.invokestatic 105, 3) := by decide +kernel
theorem dX9_behind_20 : decode cX9_behind 20 = .ok (.ifCond .eq 15, 3) := by decide +kernel
theorem dX9_behind_23 : decode cX9_behind 23 = .ok (.iload_n 3, 1) := by decide +kernel
theorem dX9_behind_24 : decode cX9_behind 24 = .ok (.i2l, 1) := by decide +kernel
theorem dX9_behind_25 : decode cX9_behind 25 = .ok (.lconst 0, 1) := by decide +kernel
theorem dX9_behind_26 : decode cX9_behind 26 = .ok (.ldc2_w 301, 3) := by decide +kernel
theorem dX9_behind_29 : decode cX9_behind 29 = .ok (.invokestatic 105, 3) := by decide +kernel
theorem dX9_behind_32 : decode cX9_behind 32 = .ok (.ifCond .ne 6, 3) := by decide +kernel
theorem dX9_behind_35 : decode cX9_behind 35 = .ok (.ldc 114, 2) := by decide +kernel
theorem dX9_behind_37 : decode cX9_behind 37 = .ok (.ireturn, 1) := by decide +kernel
theorem dX9_behind_38 : decode cX9_behind 38 = .ok (.aload_n 0, 1) := by decide +kernel
theorem dX9_behind_39 : decode cX9_behind 39 = .ok (.getfield 34, 3) := by decide +kernel
theorem dX9_behind_42 : decode cX9_behind 42 = .ok (.aload_n 0, 1) := by decide +kernel
theorem dX9_behind_43 : decode cX9_behind 43 = .ok (.getfield 71, 3) := by decide +kernel
theorem dX9_behind_46 : decode cX9_behind 46 = .ok (.bipush 74, 2) := by decide +kernel
theorem dX9_behind_48 : decode cX9_behind 48 = .ok (.invokestatic 175, 3) := by decide +kernel
theorem dX9_behind_51 : decode cX9_behind 51 = .ok (.iconst 0, 1) := by decide +kernel
theorem dX9_behind_52 : decode cX9_behind 52 = .ok (.istore 4, 2) := by decide +kernel
theorem dX9_behind_54 : decode cX9_behind 54 = .ok (.iload 4, 2) := by decide +kernel
theorem dX9_behind_56 : decode cX9_behind 56 = .ok (.iload_n 2, 1) := by decide +kernel
theorem dX9_behind_57 : decode cX9_behind 57 = .ok (.if_icmp .ge 15, 3) := by decide +kernel
theorem dX9_behind_60 : decode cX9_behind 60 = .ok (.aload_n 0, 1) := by decide +kernel
theorem dX9_behind_61 : decode cX9_behind 61 = .ok (.invokevirtual 275, 3) := by decide +kernel
theorem dX9_behind_64 : decode cX9_behind 64 = .ok (.istore 5, 2) := by decide +kernel
theorem dX9_behind_66 : decode cX9_behind 66 = .ok (.iinc 4 1, 3) := by decide +kernel
theorem dX9_behind_69 : decode cX9_behind 69 = .ok (.goto (-15), 3) := by decide +kernel
theorem dX9_behind_72 : decode cX9_behind 72 = .ok (.aload_n 0, 1) := by decide +kernel
theorem dX9_behind_73 : decode cX9_behind 73 = .ok (.getfield 34, 3) := by decide +kernel
theorem dX9_behind_76 : decode cX9_behind 76 = .ok (.bipush 16, 2) := by decide +kernel
theorem dX9_behind_78 : decode cX9_behind 78 = .ok (.iload_n 1, 1) := by decide +kernel
theorem dX9_behind_79 : decode cX9_behind 79 = .ok (.iadd, 1) := by decide +kernel
theorem dX9_behind_80 : decode cX9_behind 80 = .ok (.iaload, 1) := by decide +kernel
theorem dX9_behind_81 : decode cX9_behind 81 = .ok (.iconst (-1), 1) := by decide +kernel
theorem dX9_behind_82 : decode cX9_behind 82 = .ok (.if_icmp .eq 15, 3) := by decide +kernel
theorem dX9_behind_85 : decode cX9_behind 85 = .ok (.aload_n 0, 1) := by decide +kernel
theorem dX9_behind_86 : decode cX9_behind 86 = .ok (.getfield 34, 3) := by decide +kernel
theorem dX9_behind_89 : decode cX9_behind 89 = .ok (.bipush 16, 2) := by decide +kernel
theorem dX9_behind_91 : decode cX9_behind 91 = .ok (.iload_n 1, 1) := by decide +kernel
theorem dX9_behind_92 : decode cX9_behind 92 = .ok (.iadd, 1) := by decide +kernel
theorem dX9_behind_93 : decode cX9_behind 93 = .ok (.iaload, 1) := by decide +kernel
theorem dX9_behind_94 : decode cX9_behind 94 = .ok (.goto 17, 3) := by decide +kernel
theorem dX9_behind_97 : decode cX9_behind 97 = .ok (.aload_n 0, 1) := by decide +kernel
theorem dX9_behind_98 : decode cX9_behind 98 = .ok (.getfield 34, 3) := by decide +kernel
theorem dX9_behind_101 : decode cX9_behind 101 = .ok (.aload_n 0, 1) := by decide +kernel
theorem dX9_behind_102 : decode cX9_behind 102 = .ok (.getfield 34, 3) := by decide +kernel
theorem dX9_behind_105 : decode cX9_behind 105 = .ok (.bipush 23, 2) := by decide +kernel
theorem dX9_behind_107 : decode cX9_behind 107 = .ok (.iload_n 1, 1) := by decide +kernel
theorem dX9_behind_108 : decode cX9_behind 108 = .ok (.iadd, 1) := by decide +kernel
theorem dX9_behind_109 : decode cX9_behind 109 = .ok (.iaload, 1) := by decide +kernel
theorem dX9_behind_110 : decode cX9_behind 110 = .ok (.iaload, 1) := by decide +kernel
theorem dX9_behind_111 : decode cX9_behind 111 = .ok (.istore 4, 2) := by decide +kernel
theorem dX9_behind_113 : decode cX9_behind 113 = .ok (.iload_n 3, 1) := by decide +kernel
theorem dX9_behind_114 : decode cX9_behind 114 = .ok (.ifCond .ne 8, 3) := by decide +kernel
theorem dX9_behind_117 : decode cX9_behind 117 = .ok (.iload 4, 2) := by decide +kernel
theorem dX9_behind_119 : decode cX9_behind 119 = .ok (.goto 28, 3) := by decide +kernel
theorem dX9_behind_122 : decode cX9_behind 122 = .ok (.iload_n 3, 1) := by decide +kernel
theorem dX9_behind_123 : decode cX9_behind 123 = .ok (.iconst 1, 1) := by decide +kernel
theorem dX9_behind_124 : decode cX9_behind 124 = .ok (.if_icmp .ne 11, 3) := by decide +kernel
theorem dX9_behind_127 : decode cX9_behind 127 = .ok (.aload_n 0, 1) := by decide +kernel
theorem dX9_behind_128 : decode cX9_behind 128 = .ok (.iload_n 1, 1) := by decide +kernel
theorem dX9_behind_129 : decode cX9_behind 129 = .ok (.invokevirtual 197, 3) := by decide +kernel
theorem dX9_behind_132 : decode cX9_behind 132 = .ok (.goto 15, 3) := by decide +kernel
theorem dX9_behind_135 : decode cX9_behind 135 = .ok (.aload_n 0, 1) := by decide +kernel
theorem dX9_behind_136 : decode cX9_behind 136 = .ok (.getfield 34, 3) := by decide +kernel
theorem dX9_behind_139 : decode cX9_behind 139 = .ok (.bipush 44, 2) := by decide +kernel
theorem dX9_behind_141 : decode cX9_behind 141 = .ok (.iload_n 1, 1) := by decide +kernel
theorem dX9_behind_142 : decode cX9_behind 142 = .ok (.iadd, 1) := by decide +kernel
theorem dX9_behind_143 : decode cX9_behind 143 = .ok (.iaload, 1) := by decide +kernel
theorem dX9_behind_144 : decode cX9_behind 144 = .ok (.ldc 240, 2) := by decide +kernel
theorem dX9_behind_146 : decode cX9_behind 146 = .ok (.iadd, 1) := by decide +kernel
theorem dX9_behind_147 : decode cX9_behind 147 = .ok (.istore 5, 2) := by decide +kernel
theorem dX9_behind_149 : decode cX9_behind 149 = .ok (.aload_n 0, 1) := by decide +kernel
theorem dX9_behind_150 : decode cX9_behind 150 = .ok (.getfield 71, 3) := by decide +kernel
theorem dX9_behind_153 : decode cX9_behind 153 = .ok (.aload_n 0, 1) := by decide +kernel
theorem dX9_behind_154 : decode cX9_behind 154 = .ok (.getfield 34, 3) := by decide +kernel
theorem dX9_behind_157 : decode cX9_behind 157 = .ok (.bipush 74, 2) := by decide +kernel
theorem dX9_behind_159 : decode cX9_behind 159 = .ok (.invokestatic 175, 3) := by decide +kernel
theorem dX9_behind_162 : decode cX9_behind 162 = .ok (.iload 5, 2) := by decide +kernel
theorem dX9_behind_164 : decode cX9_behind 164 = .ok (.ireturn, 1) := by decide +kernel
theorem dX9_comes_0 : decode cX9_comes 0 = .ok (.aload_n 0, 1) := by decide +kernel
theorem dX9_comes_1 : decode cX9_comes 1 = .ok (.iload_n 1, 1) := by decide +kernel
theorem dX9_comes_2 : decode cX9_comes 2 = .ok (.invokevirtual 237, 3) := by decide +kernel
theorem dX9_comes_5 : decode cX9_comes 5 = .ok (.ifCond .ne 6, 3) := by decide +kernel
theorem dX9_comes_8 : decode cX9_comes 8 = .ok (.ldc 236, 2) := by decide +kernel
theorem dX9_comes_10 : decode cX9_comes 10 = .ok (.ireturn, 1) := by decide +kernel
theorem dX9_comes_11 : decode cX9_comes 11 = .ok (.aload_n 0, 1) := by decide +kernel
theorem dX9_comes_12 : decode cX9_comes 12 = .ok (.getfield 34, 3) := by decide +kernel
theorem dX9_comes_15 : decode cX9_comes 15 = .ok (.aload_n 0, 1) := by decide +kernel
theorem dX9_comes_16 : decode cX9_comes 16 = .ok (.getfield 71, 3) := by decide +kernel
theorem dX9_comes_19 : decode cX9_comes 19 = .ok (.bipush 74, 2) := by decide +kernel
theorem dX9_comes_21 : decode cX9_comes 21 = .ok (.invokestatic 175, 3) := by decide +kernel
theorem dX9_comes_24 : decode cX9_comes 24 = .ok (.iconst 0, 1) := by decide +kernel
theorem dX9_comes_25 : decode cX9_comes 25 = .ok (.istore_n 2, 1) := by decide +kernel
theorem dX9_comes_26 : decode cX9_comes 26 = .ok (.iload_n 2, 1) := by decide +kernel
theorem dX9_comes_27 : decode cX9_comes 27 = .ok (.bipush 60, 2) := by decide +kernel
theorem dX9_comes_29 : decode cX9_comes 29 = .ok (.if_icmp .ge 32, 3) := by decide +kernel
theorem dX9_comes_32 : decode cX9_comes 32 = .ok (.aload_n 0, 1) := by decide +kernel
theorem dX9_comes_33 : decode cX9_comes 33 = .ok (.getfield 34, 3) := by decide +kernel
theorem dX9_comes_36 : decode cX9_comes 36 = .ok (.bipush 16, 2) := by decide +kernel
theorem dX9_comes_38 : decode cX9_comes 38 = .ok (.iload_n 1, 1) := by decide +kernel
theorem dX9_comes_39 : decode cX9_comes 39 = .ok (.iadd, 1) := by decide +kernel
theorem dX9_comes_40 : decode cX9_comes 40 = .ok (.iaload, 1) := by decide +kernel
theorem dX9_comes_41 : decode cX9_comes 41 = .ok (.aload_n 0, 1) := by decide +kernel
theorem dX9_comes_42 : decode cX9_comes 42 = .ok (.getfield 28, 3) := by decide +kernel
theorem dX9_comes_45 : decode cX9_comes 45 = .ok (.iload_n 1, 1) := by decide +kernel
theorem dX9_comes_46 : decode cX9_comes 46 = .ok (.iaload, 1) := by decide +kernel
theorem dX9_comes_47 : decode cX9_comes 47 = .ok (.if_icmp .eq 14, 3) := by decide +kernel
theorem dX9_comes_50 : decode cX9_comes 50 = .ok (.aload_n 0, 1) := by decide +kernel
theorem dX9_comes_51 : decode cX9_comes 51 = .ok (.invokevirtual 275, 3) := by decide +kernel
theorem dX9_comes_54 : decode cX9_comes 54 = .ok (.istore_n 3, 1) := by decide +kernel
theorem dX9_comes_55 : decode cX9_comes 55 = .ok (.iinc 2 1, 3) := by decide +kernel
theorem dX9_comes_58 : decode cX9_comes 58 = .ok (.goto (-32), 3) := by decide +kernel
theorem dX9_comes_61 : decode cX9_comes 61 = .ok (.aload_n 0, 1) := by decide +kernel
theorem dX9_comes_62 : decode cX9_comes 62 = .ok (.getfield 34, 3) := by decide +kernel
theorem dX9_comes_65 : decode cX9_comes 65 = .ok (.bipush 16, 2) := by decide +kernel
theorem dX9_comes_67 : decode cX9_comes 67 = .ok (.iload_n 1, 1) := by decide +kernel
theorem dX9_comes_68 : decode cX9_comes 68 = .ok (.iadd, 1) := by decide +kernel
theorem dX9_comes_69 : decode cX9_comes 69 = .ok (.iaload, 1) := by decide +kernel
theorem dX9_comes_70 : decode cX9_comes 70 = .ok (.aload_n 0, 1) := by decide +kernel
theorem dX9_comes_71 : decode cX9_comes 71 = .ok (.getfield 28, 3) := by decide +kernel
theorem dX9_comes_74 : decode cX9_comes 74 = .ok (.iload_n 1, 1) := by decide +kernel
theorem dX9_comes_75 : decode cX9_comes 75 = .ok (.iaload, 1) := by decide +kernel
theorem dX9_comes_76 : decode cX9_comes 76 = .ok (.if_icmp .ne 7, 3) := by decide +kernel
theorem dX9_comes_79 : decode cX9_comes 79 = .ok (.iload_n 2, 1) := by decide +kernel
theorem dX9_comes_80 : decode cX9_comes 80 = .ok (.goto 4, 3) := by decide +kernel
theorem dX9_comes_83 : decode cX9_comes 83 = .ok (.iconst (-1), 1) := by decide +kernel
theorem dX9_comes_84 : decode cX9_comes 84 = .ok (.istore_n 3, 1) := by decide +kernel
theorem dX9_comes_85 : decode cX9_comes 85 = .ok (.aload_n 0, 1) := by decide +kernel
theorem dX9_comes_86 : decode cX9_comes 86 = .ok (.getfield 71, 3) := by decide +kernel
theorem dX9_comes_89 : decode cX9_comes 89 = .ok (.aload_n 0, 1) := by decide +kernel
theorem dX9_comes_90 : decode cX9_comes 90 = .ok (.getfield 34, 3) := by decide +kernel
theorem dX9_comes_93 : decode cX9_comes 93 = .ok (.bipush 74, 2) := by decide +kernel
theorem dX9_comes_95 : decode cX9_comes 95 = .ok (.invokestatic 175, 3) := by decide +kernel
theorem dX9_comes_98 : decode cX9_comes 98 = .ok (.iload_n 3, 1) := by decide +kernel
theorem dX9_comes_99 : decode cX9_comes 99 = .ok (.ireturn, 1) := by decide +kernel
theorem dX9_leastWait_0 : decode cX9_leastWait 0 = .ok (.aload_n 0, 1) := by decide +kernel
theorem dX9_leastWait_1 : decode cX9_leastWait 1 = .ok (.iload_n 1, 1) := by decide +kernel
theorem dX9_leastWait_2 : decode cX9_leastWait 2 = .ok (.invokevirtual 232, 3) := by decide +kernel
theorem dX9_leastWait_5 : decode cX9_leastWait 5 = .ok (.ifCond .ne 6, 3) := by decide +kernel
theorem dX9_leastWait_8 : decode cX9_leastWait 8 = .ok (.ldc 236, 2) := by decide +kernel
theorem dX9_leastWait_10 : decode cX9_leastWait 10 = .ok (.ireturn, 1) := by decide +kernel
theorem dX9_leastWait_11 : decode cX9_leastWait 11 = .ok (.iconst 0, 1) := by decide +kernel
theorem dX9_leastWait_12 : decode cX9_leastWait 12 = .ok (.istore_n 2, 1) := by decide +kernel
theorem dX9_leastWait_13 : decode cX9_leastWait 13 = .ok (.iconst 0, 1) := by decide +kernel
theorem dX9_leastWait_14 : decode cX9_leastWait 14 = .ok (.istore_n 3, 1) := by decide +kernel
theorem dX9_leastWait_15 : decode cX9_leastWait 15 = .ok (.iload_n 3, 1) := by decide +kernel
theorem dX9_leastWait_16 : decode cX9_leastWait 16 = .ok (.aload_n 0, 1) := by decide +kernel
theorem dX9_leastWait_17 : decode cX9_leastWait 17 = .ok (.getfield 109, 3) := by decide +kernel
theorem dX9_leastWait_20 : decode cX9_leastWait 20 = .ok (.if_icmp .ge 42, 3) := by decide +kernel
theorem dX9_leastWait_23 : decode cX9_leastWait 23 = .ok (.aload_n 0, 1) := by decide +kernel
theorem dX9_leastWait_24 : decode cX9_leastWait 24 = .ok (.iload_n 3, 1) := by decide +kernel
theorem dX9_leastWait_25 : decode cX9_leastWait 25 = .ok (.iload_n 1, 1) := by decide +kernel
theorem dX9_leastWait_26 : decode cX9_leastWait 26 = .ok (.invokevirtual 208, 3) := by decide +kernel
theorem dX9_leastWait_29 : decode cX9_leastWait 29 = .ok (.ifCond .eq 11, 3) := by decide +kernel
theorem dX9_leastWait_32 : decode cX9_leastWait 32 = .ok (.aload_n 0, 1) := by decide +kernel
theorem dX9_leastWait_33 : decode cX9_leastWait 33 = .ok (.iload_n 3, 1) := by decide +kernel
theorem dX9_leastWait_34 : decode cX9_leastWait 34 = .ok (.invokevirtual 211, 3) := by decide +kernel
theorem dX9_leastWait_37 : decode cX9_leastWait 37 = .ok (.goto 4, 3) := by decide +kernel
theorem dX9_leastWait_40 : decode cX9_leastWait 40 = .ok (.iconst 0, 1) := by decide +kernel
theorem dX9_leastWait_41 : decode cX9_leastWait 41 = .ok (.istore 4, 2) := by decide +kernel
theorem dX9_leastWait_43 : decode cX9_leastWait 43 = .ok (.iload 4, 2) := by decide +kernel
theorem dX9_leastWait_45 : decode cX9_leastWait 45 = .ok (.iload_n 2, 1) := by decide +kernel
theorem dX9_leastWait_46 : decode cX9_leastWait 46 = .ok (.if_icmp .le 8, 3) := by decide +kernel
theorem dX9_leastWait_49 : decode cX9_leastWait 49 = .ok (.iload 4, 2) := by decide +kernel
theorem dX9_leastWait_51 : decode cX9_leastWait 51 = .ok (.goto 4, 3) := by decide +kernel
theorem dX9_leastWait_54 : decode cX9_leastWait 54 = .ok (.iload_n 2, 1) := by decide +kernel
theorem dX9_leastWait_55 : decode cX9_leastWait 55 = .ok (.istore_n 2, 1) := by decide +kernel
theorem dX9_leastWait_56 : decode cX9_leastWait 56 = .ok (.iinc 3 1, 3) := by decide +kernel
theorem dX9_leastWait_59 : decode cX9_leastWait 59 = .ok (.goto (-44), 3) := by decide +kernel
theorem dX9_leastWait_62 : decode cX9_leastWait 62 = .ok (.iload_n 2, 1) := by decide +kernel
theorem dX9_leastWait_63 : decode cX9_leastWait 63 = .ok (.ireturn, 1) := by decide +kernel
theorem dX9_leavesNobody_0 : decode cX9_leavesNobody 0 = .ok (.aload_n 0, 1) := by decide +kernel
theorem dX9_leavesNobody_1 : decode cX9_leavesNobody 1 = .ok (.getfield 34, 3) := by decide +kernel
theorem dX9_leavesNobody_4 : decode cX9_leavesNobody 4 = .ok (.bipush 51, 2) := by decide +kernel
theorem dX9_leavesNobody_6 : decode cX9_leavesNobody 6 = .ok (.iload_n 1, 1) := by decide +kernel
theorem dX9_leavesNobody_7 : decode cX9_leavesNobody 7 = .ok (.iastore, 1) := by decide +kernel
theorem dX9_leavesNobody_8 : decode cX9_leavesNobody 8 = .ok (.iconst 1, 1) := by decide +kernel
theorem dX9_leavesNobody_9 : decode cX9_leavesNobody 9 = .ok (.istore_n 3, 1) := by decide +kernel
theorem dX9_leavesNobody_10 : decode cX9_leavesNobody 10 = .ok (.iconst 0, 1) := by decide +kernel
theorem dX9_leavesNobody_11 : decode cX9_leavesNobody 11 = .ok (.istore 4, 2) := by decide +kernel
theorem dX9_leavesNobody_13 : decode cX9_leavesNobody 13 = .ok (.iload 4, 2) := by decide +kernel
theorem dX9_leavesNobody_15 : decode cX9_leavesNobody 15 = .ok (.iload_n 2, 1) := by decide +kernel
theorem dX9_leavesNobody_16 : decode cX9_leavesNobody 16 = .ok (.if_icmp .ge 26, 3) := by decide +kernel
theorem dX9_leavesNobody_19 : decode cX9_leavesNobody 19 = .ok (.iload_n 3, 1) := by decide +kernel
theorem dX9_leavesNobody_20 : decode cX9_leavesNobody 20 = .ok (.ifCond .eq 22, 3) := by decide +kernel
theorem dX9_leavesNobody_23 : decode cX9_leavesNobody 23 = .ok (.aload_n 0, 1) := by decide +kernel
theorem dX9_leavesNobody_24 : decode cX9_leavesNobody 24 = .ok (.invokevirtual 275, 3) := by decide +kernel
theorem dX9_leavesNobody_27 : decode cX9_leavesNobody 27 = .ok (.ifCond .ne 7, 3) := by decide +kernel
theorem dX9_leavesNobody_30 : decode cX9_leavesNobody 30 = .ok (.iconst 1, 1) := by decide +kernel
theorem dX9_leavesNobody_31 : decode cX9_leavesNobody 31 = .ok (.goto 4, 3) := by decide +kernel
theorem dX9_leavesNobody_34 : decode cX9_leavesNobody 34 = .ok (.iconst 0, 1) := by decide +kernel
theorem dX9_leavesNobody_35 : decode cX9_leavesNobody 35 = .ok (.istore_n 3, 1) := by decide +kernel
theorem dX9_leavesNobody_36 : decode cX9_leavesNobody 36 = .ok (.iinc 4 1, 3) := by decide +kernel
theorem dX9_leavesNobody_39 : decode cX9_leavesNobody 39 = .ok (.goto (-26), 3) := by decide +kernel
theorem dX9_leavesNobody_42 : decode cX9_leavesNobody 42 = .ok (.aload_n 0, 1) := by decide +kernel
theorem dX9_leavesNobody_43 : decode cX9_leavesNobody 43 = .ok (.getfield 71, 3) := by decide +kernel
theorem dX9_leavesNobody_46 : decode cX9_leavesNobody 46 = .ok (.aload_n 0, 1) := by decide +kernel
theorem dX9_leavesNobody_47 : decode cX9_leavesNobody 47 = .ok (.getfield 34, 3) := by decide +kernel
theorem dX9_leavesNobody_50 : decode cX9_leavesNobody 50 = .ok (.bipush 74, 2) := by decide +kernel
theorem dX9_leavesNobody_52 : decode cX9_leavesNobody 52 = .ok (.invokestatic 175, 3) := by decide +kernel
theorem dX9_leavesNobody_55 : decode cX9_leavesNobody 55 = .ok (.iload_n 3, 1) := by decide +kernel
theorem dX9_leavesNobody_56 : decode cX9_leavesNobody 56 = .ok (.ireturn, 1) := by decide +kernel
theorem dX9_lights_0 : decode cX9_lights 0 = .ok (.iload_n 1, 1) := by decide +kernel
theorem dX9_lights_1 : decode cX9_lights 1 = .ok (.i2l, 1) := by decide +kernel
theorem dX9_lights_2 : decode cX9_lights 2 = .ok (.lconst 1, 1) := by decide +kernel
theorem dX9_lights_3 : decode cX9_lights 3 = .ok (.ldc2_w 303, 3) := by decide +kernel
theorem dX9_lights_6 : decode cX9_lights 6 = .ok (.invokestatic 105, 3) := by decide +kernel
theorem dX9_lights_9 : decode cX9_lights 9 = .ok (.ifCond .ne 6, 3) := by decide +kernel
theorem dX9_lights_12 : decode cX9_lights 12 = .ok (.ldc 114, 2) := by decide +kernel
theorem dX9_lights_14 : decode cX9_lights 14 = .ok (.ireturn, 1) := by decide +kernel
theorem dX9_lights_15 : decode cX9_lights 15 = .ok (.aload_n 0, 1) := by decide +kernel
theorem dX9_lights_16 : decode cX9_lights 16 = .ok (.getfield 99, 3) := by decide +kernel
theorem dX9_lights_19 : decode cX9_lights 19 = .ok (.ifCond .ne 7, 3) := by decide +kernel
theorem dX9_lights_22 : decode cX9_lights 22 = .ok (.ldc_w 271, 3) := by decide +kernel
theorem dX9_lights_25 : decode cX9_lights 25 = .ok (.ireturn, 1) := by decide +kernel
theorem dX9_lights_26 : decode cX9_lights 26 = .ok (.aload_n 0, 1) := by decide +kernel
theorem dX9_lights_27 : decode cX9_lights 27 = .ok (.getfield 34, 3) := by decide +kernel
theorem dX9_lights_30 : decode cX9_lights 30 = .ok (.aload_n 0, 1) := by decide +kernel
theorem dX9_lights_31 : decode cX9_lights 31 = .ok (.getfield 71, 3) := by decide +kernel
theorem dX9_lights_34 : decode cX9_lights 34 = .ok (.bipush 74, 2) := by decide +kernel
theorem dX9_lights_36 : decode cX9_lights 36 = .ok (.invokestatic 175, 3) := by decide +kernel
theorem dX9_lights_39 : decode cX9_lights 39 = .ok (.iconst (-1), 1) := by decide +kernel
theorem dX9_lights_40 : decode cX9_lights 40 = .ok (.istore_n 2, 1) := by decide +kernel
theorem dX9_lights_41 : decode cX9_lights 41 = .ok (.iconst 0, 1) := by decide +kernel
theorem dX9_lights_42 : decode cX9_lights 42 = .ok (.istore_n 3, 1) := by decide +kernel
theorem dX9_lights_43 : decode cX9_lights 43 = .ok (.iload_n 3, 1) := by decide +kernel
theorem dX9_lights_44 : decode cX9_lights 44 = .ok (.iconst 1, 1) := by decide +kernel
theorem dX9_lights_45 : decode cX9_lights 45 = .ok (.aload_n 0, 1) := by decide +kernel
theorem dX9_lights_46 : decode cX9_lights 46 = .ok (.getfield 99, 3) := by decide +kernel
theorem dX9_lights_49 : decode cX9_lights 49 = .ok (.ishl, 1) := by decide +kernel
theorem dX9_lights_50 : decode cX9_lights 50 = .ok (.if_icmp .ge 51, 3) := by decide +kernel
theorem dX9_lights_53 : decode cX9_lights 53 = .ok (.iload_n 2, 1) := by decide +kernel
theorem dX9_lights_54 : decode cX9_lights 54 = .ok (.ifCond .lt 14, 3) := by decide +kernel
theorem dX9_lights_57 : decode cX9_lights 57 = .ok (.iload_n 3, 1) := by decide +kernel
theorem dX9_lights_58 : decode cX9_lights 58 = .ok (.invokestatic 220, 3) := by decide +kernel
theorem dX9_lights_61 : decode cX9_lights 61 = .ok (.iload_n 2, 1) := by decide +kernel
theorem dX9_lights_62 : decode cX9_lights 62 = .ok (.invokestatic 220, 3) := by decide +kernel
theorem dX9_lights_65 : decode cX9_lights 65 = .ok (.if_icmp .ge 7, 3) := by decide +kernel
theorem dX9_lights_68 : decode cX9_lights 68 = .ok (.iconst 1, 1) := by decide +kernel
theorem dX9_lights_69 : decode cX9_lights 69 = .ok (.goto 4, 3) := by decide +kernel
theorem dX9_lights_72 : decode cX9_lights 72 = .ok (.iconst 0, 1) := by decide +kernel
theorem dX9_lights_73 : decode cX9_lights 73 = .ok (.istore 4, 2) := by decide +kernel
theorem dX9_lights_75 : decode cX9_lights 75 = .ok (.iload 4, 2) := by decide +kernel
theorem dX9_lights_77 : decode cX9_lights 77 = .ok (.ifCond .eq 16, 3) := by decide +kernel
theorem dX9_lights_80 : decode cX9_lights 80 = .ok (.aload_n 0, 1) := by decide +kernel
theorem dX9_lights_81 : decode cX9_lights 81 = .ok (.iload_n 3, 1) := by decide +kernel
theorem dX9_lights_82 : decode cX9_lights 82 = .ok (.iload_n 1, 1) := by decide +kernel
theorem dX9_lights_83 : decode cX9_lights 83 = .ok (.invokevirtual 305, 3) := by decide +kernel
theorem dX9_lights_86 : decode cX9_lights 86 = .ok (.ifCond .eq 7, 3) := by decide +kernel
theorem dX9_lights_89 : decode cX9_lights 89 = .ok (.iload_n 3, 1) := by decide +kernel
theorem dX9_lights_90 : decode cX9_lights 90 = .ok (.goto 4, 3) := by decide +kernel
theorem dX9_lights_93 : decode cX9_lights 93 = .ok (.iload_n 2, 1) := by decide +kernel
theorem dX9_lights_94 : decode cX9_lights 94 = .ok (.istore_n 2, 1) := by decide +kernel
theorem dX9_lights_95 : decode cX9_lights 95 = .ok (.iinc 3 1, 3) := by decide +kernel
theorem dX9_lights_98 : decode cX9_lights 98 = .ok (.goto (-55), 3) := by decide +kernel
theorem dX9_lights_101 : decode cX9_lights 101 = .ok (.iload_n 2, 1) := by decide +kernel
theorem dX9_lights_102 : decode cX9_lights 102 = .ok (.ireturn, 1) := by decide +kernel
theorem dX9_scheme_0 : decode cX9_scheme 0 = .ok (.aload_n 0, 1) := by decide +kernel
theorem dX9_scheme_1 : decode cX9_scheme 1 = .ok (.iload_n 1, 1) := by decide +kernel
theorem dX9_scheme_2 : decode cX9_scheme 2 = .ok (.invokevirtual 237, 3) := by decide +kernel
theorem dX9_scheme_5 : decode cX9_scheme 5 = .ok (.ifCond .ne 6, 3) := by decide +kernel
theorem dX9_scheme_8 : decode cX9_scheme 8 = .ok (.ldc 236, 2) := by decide +kernel
theorem dX9_scheme_10 : decode cX9_scheme 10 = .ok (.ireturn, 1) := by decide +kernel
theorem dX9_scheme_11 : decode cX9_scheme 11 = .ok (.iload_n 2, 1) := by decide +kernel
theorem dX9_scheme_12 : decode cX9_scheme 12 = .ok (.i2l, 1) := by decide +kernel
theorem dX9_scheme_13 : decode cX9_scheme 13 = .ok (.lconst 1, 1) := by decide +kernel
theorem dX9_scheme_14 : decode cX9_scheme 14 = .ok (.ldc2_w 303, 3) := by decide +kernel
theorem dX9_scheme_17 : decode cX9_scheme 17 = .ok (.invokestatic 105, 3) := by decide +kernel
theorem dX9_scheme_20 : decode cX9_scheme 20 = .ok (.ifCond .eq 13, 3) := by decide +kernel
theorem dX9_scheme_23 : decode cX9_scheme 23 = .ok (.iload_n 3, 1) := by decide +kernel
theorem dX9_scheme_24 : decode cX9_scheme 24 = .ok (.i2l, 1) := by decide +kernel
theorem dX9_scheme_25 : decode cX9_scheme 25 = .ok (.lconst 0, 1) := by decide +kernel
theorem dX9_scheme_26 : decode cX9_scheme 26 = .ok (.lconst 1, 1) := by decide +kernel
theorem dX9_scheme_27 : decode cX9_scheme 27 = .ok (.invokestatic 105, 3) := by decide +kernel
theorem dX9_scheme_30 : decode cX9_scheme 30 = .ok (.ifCond .ne 6, 3) := by decide +kernel
theorem dX9_scheme_33 : decode cX9_scheme 33 = .ok (.ldc 114, 2) := by decide +kernel
theorem dX9_scheme_35 : decode cX9_scheme 35 = .ok (.ireturn, 1) := by decide +kernel
theorem dX9_scheme_36 : decode cX9_scheme 36 = .ok (.aload_n 0, 1) := by decide +kernel
theorem dX9_scheme_37 : decode cX9_scheme 37 = .ok (.getfield 34, 3) := by decide +kernel
theorem dX9_scheme_40 : decode cX9_scheme 40 = .ok (.aload_n 0, 1) := by decide +kernel
theorem dX9_scheme_41 : decode cX9_scheme 41 = .ok (.getfield 71, 3) := by decide +kernel
theorem dX9_scheme_44 : decode cX9_scheme 44 = .ok (.bipush 74, 2) := by decide +kernel
theorem dX9_scheme_46 : decode cX9_scheme 46 = .ok (.invokestatic 175, 3) := by decide +kernel
theorem dX9_scheme_49 : decode cX9_scheme 49 = .ok (.iconst (-1), 1) := by decide +kernel
theorem dX9_scheme_50 : decode cX9_scheme 50 = .ok (.istore 4, 2) := by decide +kernel
theorem dX9_scheme_52 : decode cX9_scheme 52 = .ok (.iconst 0, 1) := by decide +kernel
theorem dX9_scheme_53 : decode cX9_scheme 53 = .ok (.istore 5, 2) := by decide +kernel
theorem dX9_scheme_55 : decode cX9_scheme 55 = .ok (.iconst 0, 1) := by decide +kernel
theorem dX9_scheme_56 : decode cX9_scheme 56 = .ok (.istore 6, 2) := by decide +kernel
theorem dX9_scheme_58 : decode cX9_scheme 58 = .ok (.iconst 0, 1) := by decide +kernel
theorem dX9_scheme_59 : decode cX9_scheme 59 = .ok (.istore 7, 2) := by decide +kernel
theorem dX9_scheme_61 : decode cX9_scheme 61 = .ok (.iload 7, 2) := by decide +kernel
theorem dX9_scheme_63 : decode cX9_scheme 63 = .ok (.bipush 30, 2) := by decide +kernel
theorem dX9_scheme_65 : decode cX9_scheme 65 = .ok (.if_icmp .gt 153, 3) := by decide +kernel
theorem dX9_scheme_68 : decode cX9_scheme 68 = .ok (.aload_n 0, 1) := by decide +kernel
theorem dX9_scheme_69 : decode cX9_scheme 69 = .ok (.getfield 34, 3) := by decide +kernel
theorem dX9_scheme_72 : decode cX9_scheme 72 = .ok (.bipush 30, 2) := by decide +kernel
theorem dX9_scheme_74 : decode cX9_scheme 74 = .ok (.iload_n 1, 1) := by decide +kernel
theorem dX9_scheme_75 : decode cX9_scheme 75 = .ok (.iadd, 1) := by decide +kernel
theorem dX9_scheme_76 : decode cX9_scheme 76 = .ok (.iload 7, 2) := by decide +kernel
theorem dX9_scheme_78 : decode cX9_scheme 78 = .ok (.iastore, 1) := by decide +kernel
theorem dX9_scheme_79 : decode cX9_scheme 79 = .ok (.iconst 0, 1) := by decide +kernel
theorem dX9_scheme_80 : decode cX9_scheme 80 = .ok (.istore 8, 2) := by decide +kernel
theorem dX9_scheme_82 : decode cX9_scheme 82 = .ok (.iload 8, 2) := by decide +kernel
theorem dX9_scheme_84 : decode cX9_scheme 84 = .ok (.iload_n 2, 1) := by decide +kernel
theorem dX9_scheme_85 : decode cX9_scheme 85 = .ok (.if_icmp .ge 15, 3) := by decide +kernel
theorem dX9_scheme_88 : decode cX9_scheme 88 = .ok (.aload_n 0, 1) := by decide +kernel
theorem dX9_scheme_89 : decode cX9_scheme 89 = .ok (.invokevirtual 275, 3) := by decide +kernel
theorem dX9_scheme_92 : decode cX9_scheme 92 = .ok (.istore 9, 2) := by decide +kernel
theorem dX9_scheme_94 : decode cX9_scheme 94 = .ok (.iinc 8 1, 3) := by decide +kernel
theorem dX9_scheme_97 : decode cX9_scheme 97 = .ok (.goto (-15), 3) := by decide +kernel
theorem dX9_scheme_100 : decode cX9_scheme 100 = .ok (.aload_n 0, 1) := by decide +kernel
theorem dX9_scheme_101 : decode cX9_scheme 101 = .ok (.iload_n 1, 1) := by decide +kernel
theorem dX9_scheme_102 : decode cX9_scheme 102 = .ok (.invokevirtual 197, 3) := by decide +kernel
theorem dX9_scheme_105 : decode cX9_scheme 105 = .ok (.invokestatic 220, 3) := by decide +kernel
theorem dX9_scheme_108 : decode cX9_scheme 108 = .ok (.istore 8, 2) := by decide +kernel
theorem dX9_scheme_110 : decode cX9_scheme 110 = .ok (.iload 4, 2) := by decide +kernel
theorem dX9_scheme_112 : decode cX9_scheme 112 = .ok (.ifCond .lt 31, 3) := by decide +kernel
theorem dX9_scheme_115 : decode cX9_scheme 115 = .ok (.iload 8, 2) := by decide +kernel
theorem dX9_scheme_117 : decode cX9_scheme 117 = .ok (.iload 5, 2) := by decide +kernel
theorem dX9_scheme_119 : decode cX9_scheme 119 = .ok (.if_icmp .gt 24, 3) := by decide +kernel
theorem dX9_scheme_122 : decode cX9_scheme 122 = .ok (.iload 8, 2) := by decide +kernel
theorem dX9_scheme_124 : decode cX9_scheme 124 = .ok (.iload 5, 2) := by decide +kernel
theorem dX9_scheme_126 : decode cX9_scheme 126 = .ok (.if_icmp .ne 21, 3) := by decide +kernel
theorem dX9_scheme_129 : decode cX9_scheme 129 = .ok (.aload_n 0, 1) := by decide +kernel
theorem dX9_scheme_130 : decode cX9_scheme 130 = .ok (.getfield 34, 3) := by decide +kernel
theorem dX9_scheme_133 : decode cX9_scheme 133 = .ok (.bipush 44, 2) := by decide +kernel
theorem dX9_scheme_135 : decode cX9_scheme 135 = .ok (.iload_n 1, 1) := by decide +kernel
theorem dX9_scheme_136 : decode cX9_scheme 136 = .ok (.iadd, 1) := by decide +kernel
theorem dX9_scheme_137 : decode cX9_scheme 137 = .ok (.iaload, 1) := by decide +kernel
theorem dX9_scheme_138 : decode cX9_scheme 138 = .ok (.iload 6, 2) := by decide +kernel
theorem dX9_scheme_140 : decode cX9_scheme 140 = .ok (.if_icmp .le 7, 3) := by decide +kernel
theorem dX9_scheme_143 : decode cX9_scheme 143 = .ok (.iconst 1, 1) := by decide +kernel
theorem dX9_scheme_144 : decode cX9_scheme 144 = .ok (.goto 4, 3) := by decide +kernel
theorem dX9_scheme_147 : decode cX9_scheme 147 = .ok (.iconst 0, 1) := by decide +kernel
theorem dX9_scheme_148 : decode cX9_scheme 148 = .ok (.istore 9, 2) := by decide +kernel
theorem dX9_scheme_150 : decode cX9_scheme 150 = .ok (.iload 9, 2) := by decide +kernel
theorem dX9_scheme_152 : decode cX9_scheme 152 = .ok (.ifCond .eq 8, 3) := by decide +kernel
theorem dX9_scheme_155 : decode cX9_scheme 155 = .ok (.iload 7, 2) := by decide +kernel
theorem dX9_scheme_157 : decode cX9_scheme 157 = .ok (.goto 5, 3) := by decide +kernel
theorem dX9_scheme_160 : decode cX9_scheme 160 = .ok (.iload 4, 2) := by decide +kernel
theorem dX9_scheme_162 : decode cX9_scheme 162 = .ok (.istore 4, 2) := by decide +kernel
theorem dX9_scheme_164 : decode cX9_scheme 164 = .ok (.iload 9, 2) := by decide +kernel
theorem dX9_scheme_166 : decode cX9_scheme 166 = .ok (.ifCond .eq 8, 3) := by decide +kernel
theorem dX9_scheme_169 : decode cX9_scheme 169 = .ok (.iload 8, 2) := by decide +kernel
theorem dX9_scheme_171 : decode cX9_scheme 171 = .ok (.goto 5, 3) := by decide +kernel
theorem dX9_scheme_174 : decode cX9_scheme 174 = .ok (.iload 5, 2) := by decide +kernel
theorem dX9_scheme_176 : decode cX9_scheme 176 = .ok (.istore 5, 2) := by decide +kernel
theorem dX9_scheme_178 : decode cX9_scheme 178 = .ok (.iload 9, 2) := by decide +kernel
theorem dX9_scheme_180 : decode cX9_scheme 180 = .ok (.ifCond .eq 15, 3) := by decide +kernel
theorem dX9_scheme_183 : decode cX9_scheme 183 = .ok (.aload_n 0, 1) := by decide +kernel
theorem dX9_scheme_184 : decode cX9_scheme 184 = .ok (.getfield 34, 3) := by decide +kernel
theorem dX9_scheme_187 : decode cX9_scheme 187 = .ok (.bipush 44, 2) := by decide +kernel
theorem dX9_scheme_189 : decode cX9_scheme 189 = .ok (.iload_n 1, 1) := by decide +kernel
theorem dX9_scheme_190 : decode cX9_scheme 190 = .ok (.iadd, 1) := by decide +kernel
theorem dX9_scheme_191 : decode cX9_scheme 191 = .ok (.iaload, 1) := by decide +kernel
theorem dX9_scheme_192 : decode cX9_scheme 192 = .ok (.goto 5, 3) := by decide +kernel
theorem dX9_scheme_195 : decode cX9_scheme 195 = .ok (.iload 6, 2) := by decide +kernel
theorem dX9_scheme_197 : decode cX9_scheme 197 = .ok (.istore 6, 2) := by decide +kernel
theorem dX9_scheme_199 : decode cX9_scheme 199 = .ok (.aload_n 0, 1) := by decide +kernel
theorem dX9_scheme_200 : decode cX9_scheme 200 = .ok (.getfield 71, 3) := by decide +kernel
theorem dX9_scheme_203 : decode cX9_scheme 203 = .ok (.aload_n 0, 1) := by decide +kernel
theorem dX9_scheme_204 : decode cX9_scheme 204 = .ok (.getfield 34, 3) := by decide +kernel
theorem dX9_scheme_207 : decode cX9_scheme 207 = .ok (.bipush 74, 2) := by decide +kernel
theorem dX9_scheme_209 : decode cX9_scheme 209 = .ok (.invokestatic 175, 3) := by decide +kernel
theorem dX9_scheme_212 : decode cX9_scheme 212 = .ok (.iinc 7 1, 3) := by decide +kernel
theorem dX9_scheme_215 : decode cX9_scheme 215 = .ok (.goto (-154), 3) := by decide +kernel
theorem dX9_scheme_218 : decode cX9_scheme 218 = .ok (.iload_n 3, 1) := by decide +kernel
theorem dX9_scheme_219 : decode cX9_scheme 219 = .ok (.ifCond .ne 8, 3) := by decide +kernel
theorem dX9_scheme_222 : decode cX9_scheme 222 = .ok (.iload 4, 2) := by decide +kernel
theorem dX9_scheme_224 : decode cX9_scheme 224 = .ok (.goto 5, 3) := by decide +kernel
theorem dX9_scheme_227 : decode cX9_scheme 227 = .ok (.iload 5, 2) := by decide +kernel
theorem dX9_scheme_229 : decode cX9_scheme 229 = .ok (.ireturn, 1) := by decide +kernel
theorem dX9_clear_0 : decode cX9_clear 0 = .ok (.iload_n 1, 1) := by decide +kernel
theorem dX9_clear_1 : decode cX9_clear 1 = .ok (.i2l, 1) := by decide +kernel
theorem dX9_clear_2 : decode cX9_clear 2 = .ok (.lconst 0, 1) := by decide +kernel
theorem dX9_clear_3 : decode cX9_clear 3 = .ok (.ldc2_w 299, 3) := by decide +kernel
theorem dX9_clear_6 : decode cX9_clear 6 = .ok (.invokestatic 105, 3) := by decide +kernel
theorem dX9_clear_9 : decode cX9_clear 9 = .ok (.ifCond .eq 15, 3) := by decide +kernel
theorem dX9_clear_12 : decode cX9_clear 12 = .ok (.iload_n 2, 1) := by decide +kernel
theorem dX9_clear_13 : decode cX9_clear 13 = .ok (.i2l, 1) := by decide +kernel
theorem dX9_clear_14 : decode cX9_clear 14 = .ok (.lconst 0, 1) := by decide +kernel
theorem dX9_clear_15 : decode cX9_clear 15 = .ok (.ldc2_w 308, 3) := by decide +kernel
theorem dX9_clear_18 : decode cX9_clear 18 = .ok (.invokestatic 105, 3) := by decide +kernel
theorem dX9_clear_21 : decode cX9_clear 21 = .ok (.ifCond .ne 6, 3) := by decide +kernel
theorem dX9_clear_24 : decode cX9_clear 24 = .ok (.ldc 114, 2) := by decide +kernel
theorem dX9_clear_26 : decode cX9_clear 26 = .ok (.ireturn, 1) := by decide +kernel
theorem dX9_clear_27 : decode cX9_clear 27 = .ok (.ldc2_w 310, 3) := by decide +kernel
theorem dX9_clear_30 : decode cX9_clear 30 = .ok (.lstore_n 3, 1) := by decide +kernel
theorem dX9_clear_31 : decode cX9_clear 31 = .ok (.iconst 0, 1) := by decide +kernel
theorem dX9_clear_32 : decode cX9_clear 32 = .ok (.istore 5, 2) := by decide +kernel
theorem dX9_clear_34 : decode cX9_clear 34 = .ok (.iload 5, 2) := by decide +kernel
theorem dX9_clear_36 : decode cX9_clear 36 = .ok (.iload_n 1, 1) := by decide +kernel
theorem dX9_clear_37 : decode cX9_clear 37 = .ok (.if_icmp .ge 18, 3) := by decide +kernel
theorem dX9_clear_40 : decode cX9_clear 40 = .ok (.lload_n 3, 1) := by decide +kernel
theorem dX9_clear_41 : decode cX9_clear 41 = .ok (.iload_n 2, 1) := by decide +kernel
theorem dX9_clear_42 : decode cX9_clear 42 = .ok (.i2l, 1) := by decide +kernel
theorem dX9_clear_43 : decode cX9_clear 43 = .ok (.lmul, 1) := by decide +kernel
theorem dX9_clear_44 : decode cX9_clear 44 = .ok (.ldc2_w 308, 3) := by decide +kernel
theorem dX9_clear_47 : decode cX9_clear 47 = .ok (.ldiv, 1) := by decide +kernel
theorem dX9_clear_48 : decode cX9_clear 48 = .ok (.lstore_n 3, 1) := by decide +kernel
theorem dX9_clear_49 : decode cX9_clear 49 = .ok (.iinc 5 1, 3) := by decide +kernel
theorem dX9_clear_52 : decode cX9_clear 52 = .ok (.goto (-18), 3) := by decide +kernel
theorem dX9_clear_55 : decode cX9_clear 55 = .ok (.lload_n 3, 1) := by decide +kernel
theorem dX9_clear_56 : decode cX9_clear 56 = .ok (.l2i, 1) := by decide +kernel
theorem dX9_clear_57 : decode cX9_clear 57 = .ok (.ireturn, 1) := by decide +kernel
theorem dX9_see_0 : decode cX9_see 0 = .ok (.iload_n 1, 1) := by decide +kernel
theorem dX9_see_1 : decode cX9_see 1 = .ok (.i2l, 1) := by decide +kernel
theorem dX9_see_2 : decode cX9_see 2 = .ok (.lconst 0, 1) := by decide +kernel
theorem dX9_see_3 : decode cX9_see 3 = .ok (.ldc2_w 312, 3) := by decide +kernel
theorem dX9_see_6 : decode cX9_see 6 = .ok (.invokestatic 105, 3) := by decide +kernel
theorem dX9_see_9 : decode cX9_see 9 = .ok (.ifCond .eq 27, 3) := by decide +kernel
theorem dX9_see_12 : decode cX9_see 12 = .ok (.iload_n 2, 1) := by decide +kernel
theorem dX9_see_13 : decode cX9_see 13 = .ok (.i2l, 1) := by decide +kernel
theorem dX9_see_14 : decode cX9_see 14 = .ok (.lconst 0, 1) := by decide +kernel
theorem dX9_see_15 : decode cX9_see 15 = .ok (.ldc2_w 301, 3) := by decide +kernel
theorem dX9_see_18 : decode cX9_see 18 = .ok (.invokestatic 105, 3) := by decide +kernel
theorem dX9_see_21 : decode cX9_see 21 = .ok (.ifCond .eq 15, 3) := by decide +kernel
theorem dX9_see_24 : decode cX9_see 24 = .ok (.iload_n 3, 1) := by decide +kernel
theorem dX9_see_25 : decode cX9_see 25 = .ok (.i2l, 1) := by decide +kernel
theorem dX9_see_26 : decode cX9_see 26 = .ok (.lconst 0, 1) := by decide +kernel
theorem dX9_see_27 : decode cX9_see 27 = .ok (.ldc2_w 314, 3) := by decide +kernel
theorem dX9_see_30 : decode cX9_see 30 = .ok (.invokestatic 105, 3) := by decide +kernel
theorem dX9_see_33 : decode cX9_see 33 = .ok (.ifCond .ne 6, 3) := by decide +kernel
theorem dX9_see_36 : decode cX9_see 36 = .ok (.ldc 114, 2) := by decide +kernel
theorem dX9_see_38 : decode cX9_see 38 = .ok (.ireturn, 1) := by decide +kernel
theorem dX9_see_39 : decode cX9_see 39 = .ok (.aload_n 0, 1) := by decide +kernel
theorem dX9_see_40 : decode cX9_see 40 = .ok (.getfield 188, 3) := by decide +kernel
theorem dX9_see_43 : decode cX9_see 43 = .ok (.bipush 6, 2) := by decide +kernel
theorem dX9_see_45 : decode cX9_see 45 = .ok (.if_icmp .ne 6, 3) := by decide +kernel
theorem dX9_see_48 : decode cX9_see 48 = .ok (.ldc 118, 2) := by decide +kernel
theorem dX9_see_50 : decode cX9_see 50 = .ok (.ireturn, 1) := by decide +kernel
theorem dX9_see_51 : decode cX9_see 51 = .ok (.aload_n 0, 1) := by decide +kernel
theorem dX9_see_52 : decode cX9_see 52 = .ok (.getfield 74, 3) := by decide +kernel
theorem dX9_see_55 : decode cX9_see 55 = .ok (.aload_n 0, 1) := by decide +kernel
theorem dX9_see_56 : decode cX9_see 56 = .ok (.getfield 188, 3) := by decide +kernel
theorem dX9_see_59 : decode cX9_see 59 = .ok (.iload_n 1, 1) := by decide +kernel
theorem dX9_see_60 : decode cX9_see 60 = .ok (.iastore, 1) := by decide +kernel
theorem dX9_see_61 : decode cX9_see 61 = .ok (.aload_n 0, 1) := by decide +kernel
theorem dX9_see_62 : decode cX9_see 62 = .ok (.getfield 77, 3) := by decide +kernel
theorem dX9_see_65 : decode cX9_see 65 = .ok (.aload_n 0, 1) := by decide +kernel
theorem dX9_see_66 : decode cX9_see 66 = .ok (.getfield 188, 3) := by decide +kernel
theorem dX9_see_69 : decode cX9_see 69 = .ok (.iload_n 2, 1) := by decide +kernel
theorem dX9_see_70 : decode cX9_see 70 = .ok (.iastore, 1) := by decide +kernel
theorem dX9_see_71 : decode cX9_see 71 = .ok (.aload_n 0, 1) := by decide +kernel
theorem dX9_see_72 : decode cX9_see 72 = .ok (.getfield 80, 3) := by decide +kernel
theorem dX9_see_75 : decode cX9_see 75 = .ok (.aload_n 0, 1) := by decide +kernel
theorem dX9_see_76 : decode cX9_see 76 = .ok (.getfield 188, 3) := by decide +kernel
theorem dX9_see_79 : decode cX9_see 79 = .ok (.iload_n 3, 1) := by decide +kernel
theorem dX9_see_80 : decode cX9_see 80 = .ok (.iastore, 1) := by decide +kernel
theorem dX9_see_81 : decode cX9_see 81 = .ok (.aload_n 0, 1) := by decide +kernel
theorem dX9_see_82 : decode cX9_see 82 = .ok (.getfield 83, 3) := by decide +kernel
theorem dX9_see_85 : decode cX9_see 85 = .ok (.aload_n 0, 1) := by decide +kernel
theorem dX9_see_86 : decode cX9_see 86 = .ok (.getfield 188, 3) := by decide +kernel
theorem dX9_see_89 : decode cX9_see 89 = .ok (.iload 4, 2) := by decide +kernel
theorem dX9_see_91 : decode cX9_see 91 = .ok (.bastore, 1) := by decide +kernel
theorem dX9_see_92 : decode cX9_see 92 = .ok (.aload_n 0, 1) := by decide +kernel
theorem dX9_see_93 : decode cX9_see 93 = .ok (.dup, 1) := by decide +kernel
theorem dX9_see_94 : decode cX9_see 94 = .ok (.getfield 188, 3) := by decide +kernel
theorem dX9_see_97 : decode cX9_see 97 = .ok (.iconst 1, 1) := by decide +kernel
theorem dX9_see_98 : decode cX9_see 98 = .ok (.iadd, 1) := by decide +kernel
theorem dX9_see_99 : decode cX9_see 99 = .ok (.putfield 188, 3) := by decide +kernel
theorem dX9_see_102 : decode cX9_see 102 = .ok (.aload_n 0, 1) := by decide +kernel
theorem dX9_see_103 : decode cX9_see 103 = .ok (.getfield 188, 3) := by decide +kernel
theorem dX9_see_106 : decode cX9_see 106 = .ok (.ireturn, 1) := by decide +kernel
theorem dX9_couldBe_0 : decode cX9_couldBe 0 = .ok (.iconst 1, 1) := by decide +kernel
theorem dX9_couldBe_1 : decode cX9_couldBe 1 = .ok (.istore_n 2, 1) := by decide +kernel
theorem dX9_couldBe_2 : decode cX9_couldBe 2 = .ok (.iconst 0, 1) := by decide +kernel
theorem dX9_couldBe_3 : decode cX9_couldBe 3 = .ok (.istore_n 3, 1) := by decide +kernel
theorem dX9_couldBe_4 : decode cX9_couldBe 4 = .ok (.iload_n 3, 1) := by decide +kernel
theorem dX9_couldBe_5 : decode cX9_couldBe 5 = .ok (.aload_n 0, 1) := by decide +kernel
theorem dX9_couldBe_6 : decode cX9_couldBe 6 = .ok (.getfield 188, 3) := by decide +kernel
theorem dX9_couldBe_9 : decode cX9_couldBe 9 = .ok (.if_icmp .ge 59, 3) := by decide +kernel
theorem dX9_couldBe_12 : decode cX9_couldBe 12 = .ok (.iload_n 2, 1) := by decide +kernel
theorem dX9_couldBe_13 : decode cX9_couldBe 13 = .ok (.ifCond .eq 55, 3) := by decide +kernel
theorem dX9_couldBe_16 : decode cX9_couldBe 16 = .ok (.aload_n 0, 1) := by decide +kernel
theorem dX9_couldBe_17 : decode cX9_couldBe 17 = .ok (.getfield 74, 3) := by decide +kernel
theorem dX9_couldBe_20 : decode cX9_couldBe 20 = .ok (.iload_n 3, 1) := by decide +kernel
theorem dX9_couldBe_21 : decode cX9_couldBe 21 = .ok (.iaload, 1) := by decide +kernel
theorem dX9_couldBe_22 : decode cX9_couldBe 22 = .ok (.iload_n 1, 1) := by decide +kernel
theorem dX9_couldBe_23 : decode cX9_couldBe 23 = .ok (.aload_n 0, 1) := by decide +kernel
theorem dX9_couldBe_24 : decode cX9_couldBe 24 = .ok (.getfield 77, 3) := by decide +kernel
theorem dX9_couldBe_27 : decode cX9_couldBe 27 = .ok (.iload_n 3, 1) := by decide +kernel
theorem dX9_couldBe_28 : decode cX9_couldBe 28 = .ok (.iaload, 1) := by decide +kernel
theorem dX9_couldBe_29 : decode cX9_couldBe 29 = .ok (.iconst 0, 1) := by decide +kernel
theorem dX9_couldBe_30 : decode cX9_couldBe 30 = .ok (.invokestatic 200, 3) := by decide +kernel
theorem dX9_couldBe_33 : decode cX9_couldBe 33 = .ok (.aload_n 0, 1) := by decide +kernel
theorem dX9_couldBe_34 : decode cX9_couldBe 34 = .ok (.getfield 80, 3) := by decide +kernel
theorem dX9_couldBe_37 : decode cX9_couldBe 37 = .ok (.iload_n 3, 1) := by decide +kernel
theorem dX9_couldBe_38 : decode cX9_couldBe 38 = .ok (.iaload, 1) := by decide +kernel
theorem dX9_couldBe_39 : decode cX9_couldBe 39 = .ok (.if_icmp .le 7, 3) := by decide +kernel
theorem dX9_couldBe_42 : decode cX9_couldBe 42 = .ok (.iconst 1, 1) := by decide +kernel
theorem dX9_couldBe_43 : decode cX9_couldBe 43 = .ok (.goto 4, 3) := by decide +kernel
theorem dX9_couldBe_46 : decode cX9_couldBe 46 = .ok (.iconst 0, 1) := by decide +kernel
theorem dX9_couldBe_47 : decode cX9_couldBe 47 = .ok (.aload_n 0, 1) := by decide +kernel
theorem dX9_couldBe_48 : decode cX9_couldBe 48 = .ok (.getfield 83, 3) := by decide +kernel
theorem dX9_couldBe_51 : decode cX9_couldBe 51 = .ok (.iload_n 3, 1) := by decide +kernel
theorem dX9_couldBe_52 : decode cX9_couldBe 52 = .ok (.baload, 1) := by decide +kernel
theorem dX9_couldBe_53 : decode cX9_couldBe 53 = .ok (.if_icmp .ne 7, 3) := by decide +kernel
theorem dX9_couldBe_56 : decode cX9_couldBe 56 = .ok (.iconst 1, 1) := by decide +kernel
theorem dX9_couldBe_57 : decode cX9_couldBe 57 = .ok (.goto 4, 3) := by decide +kernel
theorem dX9_couldBe_60 : decode cX9_couldBe 60 = .ok (.iconst 0, 1) := by decide +kernel
theorem dX9_couldBe_61 : decode cX9_couldBe 61 = .ok (.istore_n 2, 1) := by decide +kernel
theorem dX9_couldBe_62 : decode cX9_couldBe 62 = .ok (.iinc 3 1, 3) := by decide +kernel
theorem dX9_couldBe_65 : decode cX9_couldBe 65 = .ok (.goto (-61), 3) := by decide +kernel
theorem dX9_couldBe_68 : decode cX9_couldBe 68 = .ok (.iload_n 2, 1) := by decide +kernel
theorem dX9_couldBe_69 : decode cX9_couldBe 69 = .ok (.ireturn, 1) := by decide +kernel
theorem dX9_manyAbove_0 : decode cX9_manyAbove 0 = .ok (.iconst 0, 1) := by decide +kernel
theorem dX9_manyAbove_1 : decode cX9_manyAbove 1 = .ok (.istore_n 2, 1) := by decide +kernel
theorem dX9_manyAbove_2 : decode cX9_manyAbove 2 = .ok (.iload_n 1, 1) := by decide +kernel
theorem dX9_manyAbove_3 : decode cX9_manyAbove 3 = .ok (.iconst 1, 1) := by decide +kernel
theorem dX9_manyAbove_4 : decode cX9_manyAbove 4 = .ok (.iadd, 1) := by decide +kernel
theorem dX9_manyAbove_5 : decode cX9_manyAbove 5 = .ok (.istore_n 3, 1) := by decide +kernel
theorem dX9_manyAbove_6 : decode cX9_manyAbove 6 = .ok (.iload_n 3, 1) := by decide +kernel
theorem dX9_manyAbove_7 : decode cX9_manyAbove 7 = .ok (.bipush 30, 2) := by decide +kernel
theorem dX9_manyAbove_9 : decode cX9_manyAbove 9 = .ok (.if_icmp .gt 25, 3) := by decide +kernel
theorem dX9_manyAbove_12 : decode cX9_manyAbove 12 = .ok (.iload_n 2, 1) := by decide +kernel
theorem dX9_manyAbove_13 : decode cX9_manyAbove 13 = .ok (.aload_n 0, 1) := by decide +kernel
theorem dX9_manyAbove_14 : decode cX9_manyAbove 14 = .ok (.iload_n 3, 1) := by decide +kernel
theorem dX9_manyAbove_15 : decode cX9_manyAbove 15 = .ok (.invokevirtual 316, 3) := by decide +kernel
theorem dX9_manyAbove_18 : decode cX9_manyAbove 18 = .ok (.ifCond .eq 7, 3) := by decide +kernel
theorem dX9_manyAbove_21 : decode cX9_manyAbove 21 = .ok (.iconst 1, 1) := by decide +kernel
theorem dX9_manyAbove_22 : decode cX9_manyAbove 22 = .ok (.goto 4, 3) := by decide +kernel
theorem dX9_manyAbove_25 : decode cX9_manyAbove 25 = .ok (.iconst 0, 1) := by decide +kernel
theorem dX9_manyAbove_26 : decode cX9_manyAbove 26 = .ok (.iadd, 1) := by decide +kernel
theorem dX9_manyAbove_27 : decode cX9_manyAbove 27 = .ok (.istore_n 2, 1) := by decide +kernel
theorem dX9_manyAbove_28 : decode cX9_manyAbove 28 = .ok (.iinc 3 1, 3) := by decide +kernel
theorem dX9_manyAbove_31 : decode cX9_manyAbove 31 = .ok (.goto (-25), 3) := by decide +kernel
theorem dX9_manyAbove_34 : decode cX9_manyAbove 34 = .ok (.iload_n 2, 1) := by decide +kernel
theorem dX9_manyAbove_35 : decode cX9_manyAbove 35 = .ok (.ireturn, 1) := by decide +kernel
theorem dX9_truly_0 : decode cX9_truly 0 = .ok (.iload_n 1, 1) := by decide +kernel
theorem dX9_truly_1 : decode cX9_truly 1 = .ok (.i2l, 1) := by decide +kernel
theorem dX9_truly_2 : decode cX9_truly 2 = .ok (.lconst 0, 1) := by decide +kernel
theorem dX9_truly_3 : decode cX9_truly 3 = .ok (.ldc2_w 301, 3) := by decide +kernel
theorem dX9_truly_6 : decode cX9_truly 6 = .ok (.invokestatic 105, 3) := by decide +kernel
theorem dX9_truly_9 : decode cX9_truly 9 = .ok (.ifCond .ne 6, 3) := by decide +kernel
theorem dX9_truly_12 : decode cX9_truly 12 = .ok (.ldc 114, 2) := by decide +kernel
theorem dX9_truly_14 : decode cX9_truly 14 = .ok (.ireturn, 1) := by decide +kernel
theorem dX9_truly_15 : decode cX9_truly 15 = .ok (.iconst (-1), 1) := by decide +kernel
theorem dX9_truly_16 : decode cX9_truly 16 = .ok (.istore_n 2, 1) := by decide +kernel
theorem dX9_truly_17 : decode cX9_truly 17 = .ok (.iconst (-1), 1) := by decide +kernel
theorem dX9_truly_18 : decode cX9_truly 18 = .ok (.istore_n 3, 1) := by decide +kernel
theorem dX9_truly_19 : decode cX9_truly 19 = .ok (.iconst 0, 1) := by decide +kernel
theorem dX9_truly_20 : decode cX9_truly 20 = .ok (.istore 4, 2) := by decide +kernel
theorem dX9_truly_22 : decode cX9_truly 22 = .ok (.iload 4, 2) := by decide +kernel
theorem dX9_truly_24 : decode cX9_truly 24 = .ok (.bipush 30, 2) := by decide +kernel
theorem dX9_truly_26 : decode cX9_truly 26 = .ok (.if_icmp .gt 45, 3) := by decide +kernel
theorem dX9_truly_29 : decode cX9_truly 29 = .ok (.iload_n 2, 1) := by decide +kernel
theorem dX9_truly_30 : decode cX9_truly 30 = .ok (.ifCond .ge 17, 3) := by decide +kernel
theorem dX9_truly_33 : decode cX9_truly 33 = .ok (.aload_n 0, 1) := by decide +kernel
theorem dX9_truly_34 : decode cX9_truly 34 = .ok (.iload 4, 2) := by decide +kernel
theorem dX9_truly_36 : decode cX9_truly 36 = .ok (.invokevirtual 316, 3) := by decide +kernel
theorem dX9_truly_39 : decode cX9_truly 39 = .ok (.ifCond .eq 8, 3) := by decide +kernel
theorem dX9_truly_42 : decode cX9_truly 42 = .ok (.iload 4, 2) := by decide +kernel
theorem dX9_truly_44 : decode cX9_truly 44 = .ok (.goto 4, 3) := by decide +kernel
theorem dX9_truly_47 : decode cX9_truly 47 = .ok (.iload_n 2, 1) := by decide +kernel
theorem dX9_truly_48 : decode cX9_truly 48 = .ok (.istore_n 2, 1) := by decide +kernel
theorem dX9_truly_49 : decode cX9_truly 49 = .ok (.aload_n 0, 1) := by decide +kernel
theorem dX9_truly_50 : decode cX9_truly 50 = .ok (.iload 4, 2) := by decide +kernel
theorem dX9_truly_52 : decode cX9_truly 52 = .ok (.invokevirtual 316, 3) := by decide +kernel
theorem dX9_truly_55 : decode cX9_truly 55 = .ok (.ifCond .eq 8, 3) := by decide +kernel
theorem dX9_truly_58 : decode cX9_truly 58 = .ok (.iload 4, 2) := by decide +kernel
theorem dX9_truly_60 : decode cX9_truly 60 = .ok (.goto 4, 3) := by decide +kernel
theorem dX9_truly_63 : decode cX9_truly 63 = .ok (.iload_n 3, 1) := by decide +kernel
theorem dX9_truly_64 : decode cX9_truly 64 = .ok (.istore_n 3, 1) := by decide +kernel
theorem dX9_truly_65 : decode cX9_truly 65 = .ok (.iinc 4 1, 3) := by decide +kernel
theorem dX9_truly_68 : decode cX9_truly 68 = .ok (.goto (-46), 3) := by decide +kernel
theorem dX9_truly_71 : decode cX9_truly 71 = .ok (.iload_n 1, 1) := by decide +kernel
theorem dX9_truly_72 : decode cX9_truly 72 = .ok (.ifCond .ne 11, 3) := by decide +kernel
theorem dX9_truly_75 : decode cX9_truly 75 = .ok (.aload_n 0, 1) := by decide +kernel
theorem dX9_truly_76 : decode cX9_truly 76 = .ok (.iconst (-1), 1) := by decide +kernel
theorem dX9_truly_77 : decode cX9_truly 77 = .ok (.invokevirtual 319, 3) := by decide +kernel
theorem dX9_truly_80 : decode cX9_truly 80 = .ok (.goto 13, 3) := by decide +kernel
theorem dX9_truly_83 : decode cX9_truly 83 = .ok (.iload_n 1, 1) := by decide +kernel
theorem dX9_truly_84 : decode cX9_truly 84 = .ok (.iconst 1, 1) := by decide +kernel
theorem dX9_truly_85 : decode cX9_truly 85 = .ok (.if_icmp .ne 7, 3) := by decide +kernel
theorem dX9_truly_88 : decode cX9_truly 88 = .ok (.iload_n 2, 1) := by decide +kernel
theorem dX9_truly_89 : decode cX9_truly 89 = .ok (.goto 4, 3) := by decide +kernel
theorem dX9_truly_92 : decode cX9_truly 92 = .ok (.iload_n 3, 1) := by decide +kernel
theorem dX9_truly_93 : decode cX9_truly 93 = .ok (.ireturn, 1) := by decide +kernel
theorem dX9_tryNext_0 : decode cX9_tryNext 0 = .ok (.aload_n 0, 1) := by decide +kernel
theorem dX9_tryNext_1 : decode cX9_tryNext 1 = .ok (.iconst (-1), 1) := by decide +kernel
theorem dX9_tryNext_2 : decode cX9_tryNext 2 = .ok (.invokevirtual 319, 3) := by decide +kernel
theorem dX9_tryNext_5 : decode cX9_tryNext 5 = .ok (.istore_n 1, 1) := by decide +kernel
theorem dX9_tryNext_6 : decode cX9_tryNext 6 = .ok (.iconst (-1), 1) := by decide +kernel
theorem dX9_tryNext_7 : decode cX9_tryNext 7 = .ok (.istore_n 2, 1) := by decide +kernel
theorem dX9_tryNext_8 : decode cX9_tryNext 8 = .ok (.iload_n 1, 1) := by decide +kernel
theorem dX9_tryNext_9 : decode cX9_tryNext 9 = .ok (.istore_n 3, 1) := by decide +kernel
theorem dX9_tryNext_10 : decode cX9_tryNext 10 = .ok (.iconst 0, 1) := by decide +kernel
theorem dX9_tryNext_11 : decode cX9_tryNext 11 = .ok (.istore 4, 2) := by decide +kernel
theorem dX9_tryNext_13 : decode cX9_tryNext 13 = .ok (.iload 4, 2) := by decide +kernel
theorem dX9_tryNext_15 : decode cX9_tryNext 15 = .ok (.bipush 40, 2) := by decide +kernel
theorem dX9_tryNext_17 : decode cX9_tryNext 17 = .ok (.if_icmp .gt 63, 3) := by decide +kernel
theorem dX9_tryNext_20 : decode cX9_tryNext 20 = .ok (.aload_n 0, 1) := by decide +kernel
theorem dX9_tryNext_21 : decode cX9_tryNext 21 = .ok (.iload 4, 2) := by decide +kernel
theorem dX9_tryNext_23 : decode cX9_tryNext 23 = .ok (.invokevirtual 319, 3) := by decide +kernel
theorem dX9_tryNext_26 : decode cX9_tryNext 26 = .ok (.istore 5, 2) := by decide +kernel
theorem dX9_tryNext_28 : decode cX9_tryNext 28 = .ok (.iload 5, 2) := by decide +kernel
theorem dX9_tryNext_30 : decode cX9_tryNext 30 = .ok (.iload_n 1, 1) := by decide +kernel
theorem dX9_tryNext_31 : decode cX9_tryNext 31 = .ok (.iload 5, 2) := by decide +kernel
theorem dX9_tryNext_33 : decode cX9_tryNext 33 = .ok (.isub, 1) := by decide +kernel
theorem dX9_tryNext_34 : decode cX9_tryNext 34 = .ok (.if_icmp .le 8, 3) := by decide +kernel
theorem dX9_tryNext_37 : decode cX9_tryNext 37 = .ok (.iload 5, 2) := by decide +kernel
theorem dX9_tryNext_39 : decode cX9_tryNext 39 = .ok (.goto 7, 3) := by decide +kernel
theorem dX9_tryNext_42 : decode cX9_tryNext 42 = .ok (.iload_n 1, 1) := by decide +kernel
theorem dX9_tryNext_43 : decode cX9_tryNext 43 = .ok (.iload 5, 2) := by decide +kernel
theorem dX9_tryNext_45 : decode cX9_tryNext 45 = .ok (.isub, 1) := by decide +kernel
theorem dX9_tryNext_46 : decode cX9_tryNext 46 = .ok (.istore 6, 2) := by decide +kernel
theorem dX9_tryNext_48 : decode cX9_tryNext 48 = .ok (.iload 6, 2) := by decide +kernel
theorem dX9_tryNext_50 : decode cX9_tryNext 50 = .ok (.iload_n 3, 1) := by decide +kernel
theorem dX9_tryNext_51 : decode cX9_tryNext 51 = .ok (.if_icmp .ge 8, 3) := by decide +kernel
theorem dX9_tryNext_54 : decode cX9_tryNext 54 = .ok (.iload 4, 2) := by decide +kernel
theorem dX9_tryNext_56 : decode cX9_tryNext 56 = .ok (.goto 4, 3) := by decide +kernel
theorem dX9_tryNext_59 : decode cX9_tryNext 59 = .ok (.iload_n 2, 1) := by decide +kernel
theorem dX9_tryNext_60 : decode cX9_tryNext 60 = .ok (.istore_n 2, 1) := by decide +kernel
theorem dX9_tryNext_61 : decode cX9_tryNext 61 = .ok (.iload 6, 2) := by decide +kernel
theorem dX9_tryNext_63 : decode cX9_tryNext 63 = .ok (.iload_n 3, 1) := by decide +kernel
theorem dX9_tryNext_64 : decode cX9_tryNext 64 = .ok (.if_icmp .ge 8, 3) := by decide +kernel
theorem dX9_tryNext_67 : decode cX9_tryNext 67 = .ok (.iload 6, 2) := by decide +kernel
theorem dX9_tryNext_69 : decode cX9_tryNext 69 = .ok (.goto 4, 3) := by decide +kernel
theorem dX9_tryNext_72 : decode cX9_tryNext 72 = .ok (.iload_n 3, 1) := by decide +kernel
theorem dX9_tryNext_73 : decode cX9_tryNext 73 = .ok (.istore_n 3, 1) := by decide +kernel
theorem dX9_tryNext_74 : decode cX9_tryNext 74 = .ok (.iinc 4 1, 3) := by decide +kernel
theorem dX9_tryNext_77 : decode cX9_tryNext 77 = .ok (.goto (-64), 3) := by decide +kernel
theorem dX9_tryNext_80 : decode cX9_tryNext 80 = .ok (.iload_n 2, 1) := by decide +kernel
theorem dX9_tryNext_81 : decode cX9_tryNext 81 = .ok (.ireturn, 1) := by decide +kernel
theorem dX9_write_0 : decode cX9_write 0 = .ok (.aload_n 0, 1) := by decide +kernel
theorem dX9_write_1 : decode cX9_write 1 = .ok (.iload_n 1, 1) := by decide +kernel
theorem dX9_write_2 : decode cX9_write 2 = .ok (.invokevirtual 232, 3) := by decide +kernel
theorem dX9_write_5 : decode cX9_write 5 = .ok (.ifCond .eq 16, 3) := by decide +kernel
theorem dX9_write_8 : decode cX9_write 8 = .ok (.iload_n 2, 1) := by decide +kernel
theorem dX9_write_9 : decode cX9_write 9 = .ok (.iconst (-1), 1) := by decide +kernel
theorem dX9_write_10 : decode cX9_write 10 = .ok (.if_icmp .eq 14, 3) := by decide +kernel
theorem dX9_write_13 : decode cX9_write 13 = .ok (.aload_n 0, 1) := by decide +kernel
theorem dX9_write_14 : decode cX9_write 14 = .ok (.iload_n 2, 1) := by decide +kernel
theorem dX9_write_15 : decode cX9_write 15 = .ok (.invokevirtual 237, 3) := by decide +kernel
theorem dX9_write_18 : decode cX9_write 18 = .ok (.ifCond .ne 6, 3) := by decide +kernel
theorem dX9_write_21 : decode cX9_write 21 = .ok (.ldc 236, 2) := by decide +kernel
theorem dX9_write_23 : decode cX9_write 23 = .ok (.ireturn, 1) := by decide +kernel
theorem dX9_write_24 : decode cX9_write 24 = .ok (.aload_n 0, 1) := by decide +kernel
theorem dX9_write_25 : decode cX9_write 25 = .ok (.getfield 191, 3) := by decide +kernel
theorem dX9_write_28 : decode cX9_write 28 = .ok (.bipush 15, 2) := by decide +kernel
theorem dX9_write_30 : decode cX9_write 30 = .ok (.if_icmp .ne 6, 3) := by decide +kernel
theorem dX9_write_33 : decode cX9_write 33 = .ok (.ldc 118, 2) := by decide +kernel
theorem dX9_write_35 : decode cX9_write 35 = .ok (.ireturn, 1) := by decide +kernel
theorem dX9_write_36 : decode cX9_write 36 = .ok (.aload_n 0, 1) := by decide +kernel
theorem dX9_write_37 : decode cX9_write 37 = .ok (.getfield 87, 3) := by decide +kernel
theorem dX9_write_40 : decode cX9_write 40 = .ok (.aload_n 0, 1) := by decide +kernel
theorem dX9_write_41 : decode cX9_write 41 = .ok (.getfield 191, 3) := by decide +kernel
theorem dX9_write_44 : decode cX9_write 44 = .ok (.iload_n 1, 1) := by decide +kernel
theorem dX9_write_45 : decode cX9_write 45 = .ok (.iastore, 1) := by decide +kernel
theorem dX9_write_46 : decode cX9_write 46 = .ok (.aload_n 0, 1) := by decide +kernel
theorem dX9_write_47 : decode cX9_write 47 = .ok (.getfield 90, 3) := by decide +kernel
theorem dX9_write_50 : decode cX9_write 50 = .ok (.aload_n 0, 1) := by decide +kernel
theorem dX9_write_51 : decode cX9_write 51 = .ok (.getfield 191, 3) := by decide +kernel
theorem dX9_write_54 : decode cX9_write 54 = .ok (.iload_n 2, 1) := by decide +kernel
theorem dX9_write_55 : decode cX9_write 55 = .ok (.iastore, 1) := by decide +kernel
theorem dX9_write_56 : decode cX9_write 56 = .ok (.aload_n 0, 1) := by decide +kernel
theorem dX9_write_57 : decode cX9_write 57 = .ok (.dup, 1) := by decide +kernel
theorem dX9_write_58 : decode cX9_write 58 = .ok (.getfield 191, 3) := by decide +kernel
theorem dX9_write_61 : decode cX9_write 61 = .ok (.iconst 1, 1) := by decide +kernel
theorem dX9_write_62 : decode cX9_write 62 = .ok (.iadd, 1) := by decide +kernel
theorem dX9_write_63 : decode cX9_write 63 = .ok (.putfield 191, 3) := by decide +kernel
theorem dX9_write_66 : decode cX9_write 66 = .ok (.aload_n 0, 1) := by decide +kernel
theorem dX9_write_67 : decode cX9_write 67 = .ok (.getfield 191, 3) := by decide +kernel
theorem dX9_write_70 : decode cX9_write 70 = .ok (.ireturn, 1) := by decide +kernel
theorem dX9_tear_0 : decode cX9_tear 0 = .ok (.aload_n 0, 1) := by decide +kernel
theorem dX9_tear_1 : decode cX9_tear 1 = .ok (.getfield 188, 3) := by decide +kernel
theorem dX9_tear_4 : decode cX9_tear 4 = .ok (.aload_n 0, 1) := by decide +kernel
theorem dX9_tear_5 : decode cX9_tear 5 = .ok (.getfield 191, 3) := by decide +kernel
theorem dX9_tear_8 : decode cX9_tear 8 = .ok (.iadd, 1) := by decide +kernel
theorem dX9_tear_9 : decode cX9_tear 9 = .ok (.istore_n 1, 1) := by decide +kernel
theorem dX9_tear_10 : decode cX9_tear 10 = .ok (.aload_n 0, 1) := by decide +kernel
theorem dX9_tear_11 : decode cX9_tear 11 = .ok (.iconst 0, 1) := by decide +kernel
theorem dX9_tear_12 : decode cX9_tear 12 = .ok (.putfield 188, 3) := by decide +kernel
theorem dX9_tear_15 : decode cX9_tear 15 = .ok (.aload_n 0, 1) := by decide +kernel
theorem dX9_tear_16 : decode cX9_tear 16 = .ok (.iconst 0, 1) := by decide +kernel
theorem dX9_tear_17 : decode cX9_tear 17 = .ok (.putfield 191, 3) := by decide +kernel
theorem dX9_tear_20 : decode cX9_tear 20 = .ok (.iload_n 1, 1) := by decide +kernel
theorem dX9_tear_21 : decode cX9_tear 21 = .ok (.ireturn, 1) := by decide +kernel
theorem dX9_judge_0 : decode cX9_judge 0 = .ok (.iconst 0, 1) := by decide +kernel
theorem dX9_judge_1 : decode cX9_judge 1 = .ok (.istore_n 1, 1) := by decide +kernel
theorem dX9_judge_2 : decode cX9_judge 2 = .ok (.iload_n 1, 1) := by decide +kernel
theorem dX9_judge_3 : decode cX9_judge 3 = .ok (.aload_n 0, 1) := by decide +kernel
theorem dX9_judge_4 : decode cX9_judge 4 = .ok (.getfield 191, 3) := by decide +kernel
theorem dX9_judge_7 : decode cX9_judge 7 = .ok (.if_icmp .ge 34, 3) := by decide +kernel
theorem dX9_judge_10 : decode cX9_judge 10 = .ok (.aload_n 0, 1) := by decide +kernel
theorem dX9_judge_11 : decode cX9_judge 11 = .ok (.getfield 34, 3) := by decide +kernel
theorem dX9_judge_14 : decode cX9_judge 14 = .ok (.bipush 12, 2) := by decide +kernel
theorem dX9_judge_16 : decode cX9_judge 16 = .ok (.aload_n 0, 1) := by decide +kernel
theorem dX9_judge_17 : decode cX9_judge 17 = .ok (.getfield 87, 3) := by decide +kernel
theorem dX9_judge_20 : decode cX9_judge 20 = .ok (.iload_n 1, 1) := by decide +kernel
theorem dX9_judge_21 : decode cX9_judge 21 = .ok (.iaload, 1) := by decide +kernel
theorem dX9_judge_22 : decode cX9_judge 22 = .ok (.iadd, 1) := by decide +kernel
theorem dX9_judge_23 : decode cX9_judge 23 = .ok (.iaload, 1) := by decide +kernel
theorem dX9_judge_24 : decode cX9_judge 24 = .ok (.aload_n 0, 1) := by decide +kernel
theorem dX9_judge_25 : decode cX9_judge 25 = .ok (.getfield 90, 3) := by decide +kernel
theorem dX9_judge_28 : decode cX9_judge 28 = .ok (.iload_n 1, 1) := by decide +kernel
theorem dX9_judge_29 : decode cX9_judge 29 = .ok (.iaload, 1) := by decide +kernel
theorem dX9_judge_30 : decode cX9_judge 30 = .ok (.if_icmp .eq 5, 3) := by decide +kernel
theorem dX9_judge_33 : decode cX9_judge 33 = .ok (.iload_n 1, 1) := by decide +kernel
theorem dX9_judge_34 : decode cX9_judge 34 = .ok (.ireturn, 1) := by decide +kernel
theorem dX9_judge_35 : decode cX9_judge 35 = .ok (.iinc 1 1, 3) := by decide +kernel
theorem dX9_judge_38 : decode cX9_judge 38 = .ok (.goto (-36), 3) := by decide +kernel
theorem dX9_judge_41 : decode cX9_judge 41 = .ok (.iconst (-1), 1) := by decide +kernel
theorem dX9_judge_42 : decode cX9_judge 42 = .ok (.ireturn, 1) := by decide +kernel
theorem dX9_seed_0 : decode cX9_seed 0 = .ok (.iload_n 1, 1) := by decide +kernel
theorem dX9_seed_1 : decode cX9_seed 1 = .ok (.ifCond .ge 6, 3) := by decide +kernel
theorem dX9_seed_4 : decode cX9_seed 4 = .ok (.ldc 114, 2) := by decide +kernel
theorem dX9_seed_6 : decode cX9_seed 6 = .ok (.ireturn, 1) := by decide +kernel
theorem dX9_seed_7 : decode cX9_seed 7 = .ok (.aload_n 0, 1) := by decide +kernel
theorem dX9_seed_8 : decode cX9_seed 8 = .ok (.getfield 283, 3) := by decide +kernel
theorem dX9_seed_11 : decode cX9_seed 11 = .ok (.istore_n 2, 1) := by decide +kernel
theorem dX9_seed_12 : decode cX9_seed 12 = .ok (.aload_n 0, 1) := by decide +kernel
theorem dX9_seed_13 : decode cX9_seed 13 = .ok (.iload_n 1, 1) := by decide +kernel
theorem dX9_seed_14 : decode cX9_seed 14 = .ok (.putfield 283, 3) := by decide +kernel
theorem dX9_seed_17 : decode cX9_seed 17 = .ok (.iload_n 2, 1) := by decide +kernel
theorem dX9_seed_18 : decode cX9_seed 18 = .ok (.ireturn, 1) := by decide +kernel
theorem dX9_keep_0 : decode cX9_keep 0 = .ok (.iload_n 1, 1) := by decide +kernel
theorem dX9_keep_1 : decode cX9_keep 1 = .ok (.i2l, 1) := by decide +kernel
theorem dX9_keep_2 : decode cX9_keep 2 = .ok (.lconst 0, 1) := by decide +kernel
theorem dX9_keep_3 : decode cX9_keep 3 = .ok (.lconst 1, 1) := by decide +kernel
theorem dX9_keep_4 : decode cX9_keep 4 = .ok (.invokestatic 105, 3) := by decide +kernel
theorem dX9_keep_7 : decode cX9_keep 7 = .ok (.ifCond .ne 6, 3) := by decide +kernel
theorem dX9_keep_10 : decode cX9_keep 10 = .ok (.ldc 236, 2) := by decide +kernel
theorem dX9_keep_12 : decode cX9_keep 12 = .ok (.ireturn, 1) := by decide +kernel
theorem dX9_keep_13 : decode cX9_keep 13 = .ok (.iconst 0, 1) := by decide +kernel
theorem dX9_keep_14 : decode cX9_keep 14 = .ok (.istore_n 2, 1) := by decide +kernel
theorem dX9_keep_15 : decode cX9_keep 15 = .ok (.iload_n 2, 1) := by decide +kernel
theorem dX9_keep_16 : decode cX9_keep 16 = .ok (.bipush 74, 2) := by decide +kernel
theorem dX9_keep_18 : decode cX9_keep 18 = .ok (.if_icmp .ge 26, 3) := by decide +kernel
theorem dX9_keep_21 : decode cX9_keep 21 = .ok (.aload_n 0, 1) := by decide +kernel
theorem dX9_keep_22 : decode cX9_keep 22 = .ok (.getfield 93, 3) := by decide +kernel
theorem dX9_keep_25 : decode cX9_keep 25 = .ok (.bipush 75, 2) := by decide +kernel
theorem dX9_keep_27 : decode cX9_keep 27 = .ok (.iload_n 1, 1) := by decide +kernel
theorem dX9_keep_28 : decode cX9_keep 28 = .ok (.imul, 1) := by decide +kernel
theorem dX9_keep_29 : decode cX9_keep 29 = .ok (.iload_n 2, 1) := by decide +kernel
theorem dX9_keep_30 : decode cX9_keep 30 = .ok (.iadd, 1) := by decide +kernel
theorem dX9_keep_31 : decode cX9_keep 31 = .ok (.aload_n 0, 1) := by decide +kernel
theorem dX9_keep_32 : decode cX9_keep 32 = .ok (.getfield 34, 3) := by decide +kernel
theorem dX9_keep_35 : decode cX9_keep 35 = .ok (.iload_n 2, 1) := by decide +kernel
theorem dX9_keep_36 : decode cX9_keep 36 = .ok (.iaload, 1) := by decide +kernel
theorem dX9_keep_37 : decode cX9_keep 37 = .ok (.iastore, 1) := by decide +kernel
theorem dX9_keep_38 : decode cX9_keep 38 = .ok (.iinc 2 1, 3) := by decide +kernel
theorem dX9_keep_41 : decode cX9_keep 41 = .ok (.goto (-26), 3) := by decide +kernel
theorem dX9_keep_44 : decode cX9_keep 44 = .ok (.aload_n 0, 1) := by decide +kernel
theorem dX9_keep_45 : decode cX9_keep 45 = .ok (.getfield 93, 3) := by decide +kernel
theorem dX9_keep_48 : decode cX9_keep 48 = .ok (.bipush 75, 2) := by decide +kernel
theorem dX9_keep_50 : decode cX9_keep 50 = .ok (.iload_n 1, 1) := by decide +kernel
theorem dX9_keep_51 : decode cX9_keep 51 = .ok (.imul, 1) := by decide +kernel
theorem dX9_keep_52 : decode cX9_keep 52 = .ok (.bipush 74, 2) := by decide +kernel
theorem dX9_keep_54 : decode cX9_keep 54 = .ok (.iadd, 1) := by decide +kernel
theorem dX9_keep_55 : decode cX9_keep 55 = .ok (.aload_n 0, 1) := by decide +kernel
theorem dX9_keep_56 : decode cX9_keep 56 = .ok (.getfield 283, 3) := by decide +kernel
theorem dX9_keep_59 : decode cX9_keep 59 = .ok (.iastore, 1) := by decide +kernel
theorem dX9_keep_60 : decode cX9_keep 60 = .ok (.aload_n 0, 1) := by decide +kernel
theorem dX9_keep_61 : decode cX9_keep 61 = .ok (.getfield 96, 3) := by decide +kernel
theorem dX9_keep_64 : decode cX9_keep 64 = .ok (.iload_n 1, 1) := by decide +kernel
theorem dX9_keep_65 : decode cX9_keep 65 = .ok (.iconst 1, 1) := by decide +kernel
theorem dX9_keep_66 : decode cX9_keep 66 = .ok (.bastore, 1) := by decide +kernel
theorem dX9_keep_67 : decode cX9_keep 67 = .ok (.aload_n 0, 1) := by decide +kernel
theorem dX9_keep_68 : decode cX9_keep 68 = .ok (.iconst 0, 1) := by decide +kernel
theorem dX9_keep_69 : decode cX9_keep 69 = .ok (.putfield 194, 3) := by decide +kernel
theorem dX9_keep_72 : decode cX9_keep 72 = .ok (.iconst 1, 1) := by decide +kernel
theorem dX9_keep_73 : decode cX9_keep 73 = .ok (.ireturn, 1) := by decide +kernel
theorem dX9_goBack_0 : decode cX9_goBack 0 = .ok (.iload_n 1, 1) := by decide +kernel
theorem dX9_goBack_1 : decode cX9_goBack 1 = .ok (.i2l, 1) := by decide +kernel
theorem dX9_goBack_2 : decode cX9_goBack 2 = .ok (.lconst 0, 1) := by decide +kernel
theorem dX9_goBack_3 : decode cX9_goBack 3 = .ok (.lconst 1, 1) := by decide +kernel
theorem dX9_goBack_4 : decode cX9_goBack 4 = .ok (.invokestatic 105, 3) := by decide +kernel
theorem dX9_goBack_7 : decode cX9_goBack 7 = .ok (.ifCond .ne 6, 3) := by decide +kernel
theorem dX9_goBack_10 : decode cX9_goBack 10 = .ok (.ldc 236, 2) := by decide +kernel
theorem dX9_goBack_12 : decode cX9_goBack 12 = .ok (.ireturn, 1) := by decide +kernel
theorem dX9_goBack_13 : decode cX9_goBack 13 = .ok (.aload_n 0, 1) := by decide +kernel
theorem dX9_goBack_14 : decode cX9_goBack 14 = .ok (.getfield 96, 3) := by decide +kernel
theorem dX9_goBack_17 : decode cX9_goBack 17 = .ok (.iload_n 1, 1) := by decide +kernel
theorem dX9_goBack_18 : decode cX9_goBack 18 = .ok (.baload, 1) := by decide +kernel
theorem dX9_goBack_19 : decode cX9_goBack 19 = .ok (.ifCond .ne 7, 3) := by decide +kernel
theorem dX9_goBack_22 : decode cX9_goBack 22 = .ok (.ldc_w 271, 3) := by decide +kernel
theorem dX9_goBack_25 : decode cX9_goBack 25 = .ok (.ireturn, 1) := by decide +kernel
theorem dX9_goBack_26 : decode cX9_goBack 26 = .ok (.iconst 0, 1) := by decide +kernel
theorem dX9_goBack_27 : decode cX9_goBack 27 = .ok (.istore_n 2, 1) := by decide +kernel
theorem dX9_goBack_28 : decode cX9_goBack 28 = .ok (.iload_n 2, 1) := by decide +kernel
theorem dX9_goBack_29 : decode cX9_goBack 29 = .ok (.bipush 74, 2) := by decide +kernel
theorem dX9_goBack_31 : decode cX9_goBack 31 = .ok (.if_icmp .ge 26, 3) := by decide +kernel
theorem dX9_goBack_34 : decode cX9_goBack 34 = .ok (.aload_n 0, 1) := by decide +kernel
theorem dX9_goBack_35 : decode cX9_goBack 35 = .ok (.getfield 34, 3) := by decide +kernel
theorem dX9_goBack_38 : decode cX9_goBack 38 = .ok (.iload_n 2, 1) := by decide +kernel
theorem dX9_goBack_39 : decode cX9_goBack 39 = .ok (.aload_n 0, 1) := by decide +kernel
theorem dX9_goBack_40 : decode cX9_goBack 40 = .ok (.getfield 93, 3) := by decide +kernel
theorem dX9_goBack_43 : decode cX9_goBack 43 = .ok (.bipush 75, 2) := by decide +kernel
theorem dX9_goBack_45 : decode cX9_goBack 45 = .ok (.iload_n 1, 1) := by decide +kernel
theorem dX9_goBack_46 : decode cX9_goBack 46 = .ok (.imul, 1) := by decide +kernel
theorem dX9_goBack_47 : decode cX9_goBack 47 = .ok (.iload_n 2, 1) := by decide +kernel
theorem dX9_goBack_48 : decode cX9_goBack 48 = .ok (.iadd, 1) := by decide +kernel
theorem dX9_goBack_49 : decode cX9_goBack 49 = .ok (.iaload, 1) := by decide +kernel
theorem dX9_goBack_50 : decode cX9_goBack 50 = .ok (.iastore, 1) := by decide +kernel
theorem dX9_goBack_51 : decode cX9_goBack 51 = .ok (.iinc 2 1, 3) := by decide +kernel
theorem dX9_goBack_54 : decode cX9_goBack 54 = .ok (.goto (-26), 3) := by decide +kernel
theorem dX9_goBack_57 : decode cX9_goBack 57 = .ok (.aload_n 0, 1) := by decide +kernel
theorem dX9_goBack_58 : decode cX9_goBack 58 = .ok (.aload_n 0, 1) := by decide +kernel
theorem dX9_goBack_59 : decode cX9_goBack 59 = .ok (.getfield 93, 3) := by decide +kernel
theorem dX9_goBack_62 : decode cX9_goBack 62 = .ok (.bipush 75, 2) := by decide +kernel
theorem dX9_goBack_64 : decode cX9_goBack 64 = .ok (.iload_n 1, 1) := by decide +kernel
theorem dX9_goBack_65 : decode cX9_goBack 65 = .ok (.imul, 1) := by decide +kernel
theorem dX9_goBack_66 : decode cX9_goBack 66 = .ok (.bipush 74, 2) := by decide +kernel
theorem dX9_goBack_68 : decode cX9_goBack 68 = .ok (.iadd, 1) := by decide +kernel
theorem dX9_goBack_69 : decode cX9_goBack 69 = .ok (.iaload, 1) := by decide +kernel
theorem dX9_goBack_70 : decode cX9_goBack 70 = .ok (.putfield 283, 3) := by decide +kernel
theorem dX9_goBack_73 : decode cX9_goBack 73 = .ok (.aload_n 0, 1) := by decide +kernel
theorem dX9_goBack_74 : decode cX9_goBack 74 = .ok (.iconst 0, 1) := by decide +kernel
theorem dX9_goBack_75 : decode cX9_goBack 75 = .ok (.putfield 194, 3) := by decide +kernel
theorem dX9_goBack_78 : decode cX9_goBack 78 = .ok (.iconst 1, 1) := by decide +kernel
theorem dX9_goBack_79 : decode cX9_goBack 79 = .ok (.ireturn, 1) := by decide +kernel
