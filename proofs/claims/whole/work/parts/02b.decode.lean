theorem dX8_init_0 : decode cX8_init 0 = .ok (.aload_n 0, 1) := by decide +kernel
theorem dX8_init_1 : decode cX8_init 1 = .ok (.invokespecial 1, 3) := by decide +kernel
theorem dX8_init_4 : decode cX8_init 4 = .ok (.aload_n 0, 1) := by decide +kernel
theorem dX8_init_5 : decode cX8_init 5 = .ok (.new 7, 3) := by decide +kernel
theorem dX8_init_8 : decode cX8_init 8 = .ok (.dup, 1) := by decide +kernel
theorem dX8_init_9 : decode cX8_init 9 = .ok (.invokespecial 9, 3) := by decide +kernel
theorem dX8_init_12 : decode cX8_init 12 = .ok (.putfield 10, 3) := by decide +kernel
theorem dX8_init_15 : decode cX8_init 15 = .ok (.aload_n 0, 1) := by decide +kernel
theorem dX8_init_16 : decode cX8_init 16 = .ok (.new 16, 3) := by decide +kernel
theorem dX8_init_19 : decode cX8_init 19 = .ok (.dup, 1) := by decide +kernel
theorem dX8_init_20 : decode cX8_init 20 = .ok (.invokespecial 18, 3) := by decide +kernel
theorem dX8_init_23 : decode cX8_init 23 = .ok (.putfield 19, 3) := by decide +kernel
theorem dX8_init_26 : decode cX8_init 26 = .ok (.aload_n 0, 1) := by decide +kernel
theorem dX8_init_27 : decode cX8_init 27 = .ok (.new 23, 3) := by decide +kernel
theorem dX8_init_30 : decode cX8_init 30 = .ok (.dup, 1) := by decide +kernel
theorem dX8_init_31 : decode cX8_init 31 = .ok (.aload_n 0, 1) := by decide +kernel
theorem dX8_init_32 : decode cX8_init 32 = .ok (.getfield 19, 3) := by decide +kernel
theorem dX8_init_35 : decode cX8_init 35 = .ok (.invokespecial 25, 3) := by decide +kernel
theorem dX8_init_38 : decode cX8_init 38 = .ok (.putfield 28, 3) := by decide +kernel
theorem dX8_init_41 : decode cX8_init 41 = .ok (.aload_n 0, 1) := by decide +kernel
theorem dX8_init_42 : decode cX8_init 42 = .ok (.new 23, 3) := by decide +kernel
theorem dX8_init_45 : decode cX8_init 45 = .ok (.dup, 1) := by decide +kernel
theorem dX8_init_46 : decode cX8_init 46 = .ok (.aload_n 0, 1) := by decide +kernel
theorem dX8_init_47 : decode cX8_init 47 = .ok (.getfield 19, 3) := by decide +kernel
theorem dX8_init_50 : decode cX8_init 50 = .ok (.invokespecial 25, 3) := by decide +kernel
theorem dX8_init_53 : decode cX8_init 53 = .ok (.putfield 32, 3) := by decide +kernel
theorem dX8_init_56 : decode cX8_init 56 = .ok (.aload_n 0, 1) := by decide +kernel
theorem dX8_init_57 : decode cX8_init 57 = .ok (.new 35, 3) := by decide +kernel
theorem dX8_init_60 : decode cX8_init 60 = .ok (.dup, 1) := by decide +kernel
theorem dX8_init_61 : decode cX8_init 61 = .ok (.aload_n 0, 1) := by decide +kernel
theorem dX8_init_62 : decode cX8_init 62 = .ok (.getfield 19, 3) := by decide +kernel
theorem dX8_init_65 : decode cX8_init 65 = .ok (.invokespecial 37, 3) := by decide +kernel
theorem dX8_init_68 : decode cX8_init 68 = .ok (.putfield 38, 3) := by decide +kernel
theorem dX8_init_71 : decode cX8_init 71 = .ok (.aload_n 0, 1) := by decide +kernel
theorem dX8_init_72 : decode cX8_init 72 = .ok (.iconst 2, 1) := by decide +kernel
theorem dX8_init_73 : decode cX8_init 73 = .ok (.anewarray 42, 3) := by decide +kernel
theorem dX8_init_76 : decode cX8_init 76 = .ok (.putfield 44, 3) := by decide +kernel
theorem dX8_init_79 : decode cX8_init 79 = .ok (.aload_n 0, 1) := by decide +kernel
theorem dX8_init_80 : decode cX8_init 80 = .ok (.new 48, 3) := by decide +kernel
theorem dX8_init_83 : decode cX8_init 83 = .ok (.dup, 1) := by decide +kernel
theorem dX8_init_84 : decode cX8_init 84 = .ok (.invokespecial 50, 3) := by decide +kernel
theorem dX8_init_87 : decode cX8_init 87 = .ok (.putfield 51, 3) := by decide +kernel
theorem dX8_init_90 : decode cX8_init 90 = .ok (.aload_n 0, 1) := by decide +kernel
theorem dX8_init_91 : decode cX8_init 91 = .ok (.new 55, 3) := by decide +kernel
theorem dX8_init_94 : decode cX8_init 94 = .ok (.dup, 1) := by decide +kernel
theorem dX8_init_95 : decode cX8_init 95 = .ok (.invokespecial 57, 3) := by decide +kernel
theorem dX8_init_98 : decode cX8_init 98 = .ok (.putfield 58, 3) := by decide +kernel
theorem dX8_init_101 : decode cX8_init 101 = .ok (.aload_n 0, 1) := by decide +kernel
theorem dX8_init_102 : decode cX8_init 102 = .ok (.iconst (-1), 1) := by decide +kernel
theorem dX8_init_103 : decode cX8_init 103 = .ok (.putfield 62, 3) := by decide +kernel
theorem dX8_init_106 : decode cX8_init 106 = .ok (.aload_n 0, 1) := by decide +kernel
theorem dX8_init_107 : decode cX8_init 107 = .ok (.iconst 0, 1) := by decide +kernel
theorem dX8_init_108 : decode cX8_init 108 = .ok (.putfield 66, 3) := by decide +kernel
theorem dX8_init_111 : decode cX8_init 111 = .ok (.iconst 0, 1) := by decide +kernel
theorem dX8_init_112 : decode cX8_init 112 = .ok (.istore_n 1, 1) := by decide +kernel
theorem dX8_init_113 : decode cX8_init 113 = .ok (.iload_n 1, 1) := by decide +kernel
theorem dX8_init_114 : decode cX8_init 114 = .ok (.iconst 2, 1) := by decide +kernel
theorem dX8_init_115 : decode cX8_init 115 = .ok (.if_icmp .ge 26, 3) := by decide +kernel
theorem dX8_init_118 : decode cX8_init 118 = .ok (.aload_n 0, 1) := by decide +kernel
theorem dX8_init_119 : decode cX8_init 119 = .ok (.getfield 44, 3) := by decide +kernel
theorem dX8_init_122 : decode cX8_init 122 = .ok (.iload_n 1, 1) := by decide +kernel
theorem dX8_init_123 : decode cX8_init 123 = .ok (.new 42, 3) := by decide +kernel
theorem dX8_init_126 : decode cX8_init 126 = .ok (.dup, 1) := by decide +kernel
theorem dX8_init_127 : decode cX8_init 127 = .ok (.aload_n 0, 1) := by decide +kernel
theorem dX8_init_128 : decode cX8_init 128 = .ok (.getfield 19, 3) := by decide +kernel
theorem dX8_init_131 : decode cX8_init 131 = .ok (.invokespecial 69, 3) := by decide +kernel
theorem dX8_init_134 : decode cX8_init 134 = .ok (.aastore, 1) := by decide +kernel
theorem dX8_init_135 : decode cX8_init 135 = .ok (.iinc 1 1, 3) := by decide +kernel
theorem dX8_init_138 : decode cX8_init 138 = .ok (.goto (-25), 3) := by decide +kernel
theorem dX8_init_141 : decode cX8_init 141 = .ok (.return_, 1) := by decide +kernel
theorem dX8_feed_0 : decode cX8_feed 0 = .ok (.iload_n 1, 1) := by decide +kernel
theorem dX8_feed_1 : decode cX8_feed 1 = .ok (.ifCond .lt 10, 3) := by decide +kernel
theorem dX8_feed_4 : decode cX8_feed 4 = .ok (.iload_n 1, 1) := by decide +kernel
theorem dX8_feed_5 : decode cX8_feed 5 = .ok (.sipush 255, 3) := by decide +kernel
theorem dX8_feed_8 : decode cX8_feed 8 = .ok (.if_icmp .le 6, 3) := by decide +kernel
theorem dX8_feed_11 : decode cX8_feed 11 = .ok (.ldc 70, 2) := by decide +kernel
theorem dX8_feed_13 : decode cX8_feed 13 = .ok (.ireturn, 1) := by decide +kernel
theorem dX8_feed_14 : decode cX8_feed 14 = .ok (.aload_n 0, 1) := by decide +kernel
theorem dX8_feed_15 : decode cX8_feed 15 = .ok (.getfield 10, 3) := by decide +kernel
theorem dX8_feed_18 : decode cX8_feed 18 = .ok (.getfield 71, 3) := by decide +kernel
theorem dX8_feed_21 : decode cX8_feed 21 = .ok (.sipush 240, 3) := by decide +kernel
theorem dX8_feed_24 : decode cX8_feed 24 = .ok (.if_icmp .lt 6, 3) := by decide +kernel
theorem dX8_feed_27 : decode cX8_feed 27 = .ok (.ldc 74, 2) := by decide +kernel
theorem dX8_feed_29 : decode cX8_feed 29 = .ok (.ireturn, 1) := by decide +kernel
theorem dX8_feed_30 : decode cX8_feed 30 = .ok (.aload_n 0, 1) := by decide +kernel
theorem dX8_feed_31 : decode cX8_feed 31 = .ok (.getfield 10, 3) := by decide +kernel
theorem dX8_feed_34 : decode cX8_feed 34 = .ok (.iload_n 1, 1) := by decide +kernel
theorem dX8_feed_35 : decode cX8_feed 35 = .ok (.invokevirtual 75, 3) := by decide +kernel
theorem dX8_feed_38 : decode cX8_feed 38 = .ok (.aload_n 0, 1) := by decide +kernel
theorem dX8_feed_39 : decode cX8_feed 39 = .ok (.getfield 10, 3) := by decide +kernel
theorem dX8_feed_42 : decode cX8_feed 42 = .ok (.getfield 71, 3) := by decide +kernel
theorem dX8_feed_45 : decode cX8_feed 45 = .ok (.ireturn, 1) := by decide +kernel
theorem dX8_line_0 : decode cX8_line 0 = .ok (.aload_n 0, 1) := by decide +kernel
theorem dX8_line_1 : decode cX8_line 1 = .ok (.getfield 10, 3) := by decide +kernel
theorem dX8_line_4 : decode cX8_line 4 = .ok (.invokevirtual 79, 3) := by decide +kernel
theorem dX8_line_7 : decode cX8_line 7 = .ok (.aload_n 0, 1) := by decide +kernel
theorem dX8_line_8 : decode cX8_line 8 = .ok (.aload_n 0, 1) := by decide +kernel
theorem dX8_line_9 : decode cX8_line 9 = .ok (.getfield 10, 3) := by decide +kernel
theorem dX8_line_12 : decode cX8_line 12 = .ok (.getfield 82, 3) := by decide +kernel
theorem dX8_line_15 : decode cX8_line 15 = .ok (.putfield 62, 3) := by decide +kernel
theorem dX8_line_18 : decode cX8_line 18 = .ok (.aload_n 0, 1) := by decide +kernel
theorem dX8_line_19 : decode cX8_line 19 = .ok (.getfield 10, 3) := by decide +kernel
theorem dX8_line_22 : decode cX8_line 22 = .ok (.getfield 83, 3) := by decide +kernel
theorem dX8_line_25 : decode cX8_line 25 = .ok (.ifCond .eq 14, 3) := by decide +kernel
theorem dX8_line_28 : decode cX8_line 28 = .ok (.bipush (-10), 2) := by decide +kernel
theorem dX8_line_30 : decode cX8_line 30 = .ok (.aload_n 0, 1) := by decide +kernel
theorem dX8_line_31 : decode cX8_line 31 = .ok (.getfield 10, 3) := by decide +kernel
theorem dX8_line_34 : decode cX8_line 34 = .ok (.getfield 83, 3) := by decide +kernel
theorem dX8_line_37 : decode cX8_line 37 = .ok (.isub, 1) := by decide +kernel
theorem dX8_line_38 : decode cX8_line 38 = .ok (.ireturn, 1) := by decide +kernel
theorem dX8_line_39 : decode cX8_line 39 = .ok (.aload_n 0, 1) := by decide +kernel
theorem dX8_line_40 : decode cX8_line 40 = .ok (.getfield 19, 3) := by decide +kernel
theorem dX8_line_43 : decode cX8_line 43 = .ok (.aload_n 0, 1) := by decide +kernel
theorem dX8_line_44 : decode cX8_line 44 = .ok (.getfield 10, 3) := by decide +kernel
theorem dX8_line_47 : decode cX8_line 47 = .ok (.getfield 86, 3) := by decide +kernel
theorem dX8_line_50 : decode cX8_line 50 = .ok (.invokevirtual 87, 3) := by decide +kernel
theorem dX8_line_53 : decode cX8_line 53 = .ok (.aload_n 0, 1) := by decide +kernel
theorem dX8_line_54 : decode cX8_line 54 = .ok (.getfield 28, 3) := by decide +kernel
theorem dX8_line_57 : decode cX8_line 57 = .ok (.aload_n 0, 1) := by decide +kernel
theorem dX8_line_58 : decode cX8_line 58 = .ok (.getfield 10, 3) := by decide +kernel
theorem dX8_line_61 : decode cX8_line 61 = .ok (.getfield 90, 3) := by decide +kernel
theorem dX8_line_64 : decode cX8_line 64 = .ok (.invokevirtual 93, 3) := by decide +kernel
theorem dX8_line_67 : decode cX8_line 67 = .ok (.aload_n 0, 1) := by decide +kernel
theorem dX8_line_68 : decode cX8_line 68 = .ok (.getfield 38, 3) := by decide +kernel
theorem dX8_line_71 : decode cX8_line 71 = .ok (.invokevirtual 96, 3) := by decide +kernel
theorem dX8_line_74 : decode cX8_line 74 = .ok (.iconst 0, 1) := by decide +kernel
theorem dX8_line_75 : decode cX8_line 75 = .ok (.istore_n 1, 1) := by decide +kernel
theorem dX8_line_76 : decode cX8_line 76 = .ok (.iload_n 1, 1) := by decide +kernel
theorem dX8_line_77 : decode cX8_line 77 = .ok (.iconst 2, 1) := by decide +kernel
theorem dX8_line_78 : decode cX8_line 78 = .ok (.if_icmp .ge 19, 3) := by decide +kernel
theorem dX8_line_81 : decode cX8_line 81 = .ok (.aload_n 0, 1) := by decide +kernel
theorem dX8_line_82 : decode cX8_line 82 = .ok (.getfield 44, 3) := by decide +kernel
theorem dX8_line_85 : decode cX8_line 85 = .ok (.iload_n 1, 1) := by decide +kernel
theorem dX8_line_86 : decode cX8_line 86 = .ok (.aaload, 1) := by decide +kernel
theorem dX8_line_87 : decode cX8_line 87 = .ok (.iconst 0, 1) := by decide +kernel
theorem dX8_line_88 : decode cX8_line 88 = .ok (.putfield 99, 3) := by decide +kernel
theorem dX8_line_91 : decode cX8_line 91 = .ok (.iinc 1 1, 3) := by decide +kernel
theorem dX8_line_94 : decode cX8_line 94 = .ok (.goto (-18), 3) := by decide +kernel
theorem dX8_line_97 : decode cX8_line 97 = .ok (.aload_n 0, 1) := by decide +kernel
theorem dX8_line_98 : decode cX8_line 98 = .ok (.getfield 51, 3) := by decide +kernel
theorem dX8_line_101 : decode cX8_line 101 = .ok (.iconst 0, 1) := by decide +kernel
theorem dX8_line_102 : decode cX8_line 102 = .ok (.putfield 103, 3) := by decide +kernel
theorem dX8_line_105 : decode cX8_line 105 = .ok (.aload_n 0, 1) := by decide +kernel
theorem dX8_line_106 : decode cX8_line 106 = .ok (.getfield 58, 3) := by decide +kernel
theorem dX8_line_109 : decode cX8_line 109 = .ok (.iconst 0, 1) := by decide +kernel
theorem dX8_line_110 : decode cX8_line 110 = .ok (.putfield 104, 3) := by decide +kernel
theorem dX8_line_113 : decode cX8_line 113 = .ok (.aload_n 0, 1) := by decide +kernel
theorem dX8_line_114 : decode cX8_line 114 = .ok (.getfield 19, 3) := by decide +kernel
theorem dX8_line_117 : decode cX8_line 117 = .ok (.getfield 105, 3) := by decide +kernel
theorem dX8_line_120 : decode cX8_line 120 = .ok (.ireturn, 1) := by decide +kernel
theorem dX8_fault_0 : decode cX8_fault 0 = .ok (.aload_n 0, 1) := by decide +kernel
theorem dX8_fault_1 : decode cX8_fault 1 = .ok (.getfield 62, 3) := by decide +kernel
theorem dX8_fault_4 : decode cX8_fault 4 = .ok (.ireturn, 1) := by decide +kernel
theorem dX8_told_0 : decode cX8_told 0 = .ok (.iload_n 1, 1) := by decide +kernel
theorem dX8_told_1 : decode cX8_told 1 = .ok (.tableswitch 174 0 12 #[67, 75, 83, 91, 99, 107, 115, 123, 131, 139, 150, 158, 166], 67) := by decide +kernel
theorem dX8_told_68 : decode cX8_told 68 = .ok (.aload_n 0, 1) := by decide +kernel
theorem dX8_told_69 : decode cX8_told 69 = .ok (.getfield 19, 3) := by decide +kernel
theorem dX8_told_72 : decode cX8_told 72 = .ok (.getfield 108, 3) := by decide +kernel
theorem dX8_told_75 : decode cX8_told 75 = .ok (.ireturn, 1) := by decide +kernel
theorem dX8_told_76 : decode cX8_told 76 = .ok (.aload_n 0, 1) := by decide +kernel
theorem dX8_told_77 : decode cX8_told 77 = .ok (.getfield 28, 3) := by decide +kernel
theorem dX8_told_80 : decode cX8_told 80 = .ok (.getfield 111, 3) := by decide +kernel
theorem dX8_told_83 : decode cX8_told 83 = .ok (.ireturn, 1) := by decide +kernel
theorem dX8_told_84 : decode cX8_told 84 = .ok (.aload_n 0, 1) := by decide +kernel
theorem dX8_told_85 : decode cX8_told 85 = .ok (.getfield 19, 3) := by decide +kernel
theorem dX8_told_88 : decode cX8_told 88 = .ok (.getfield 114, 3) := by decide +kernel
theorem dX8_told_91 : decode cX8_told 91 = .ok (.ireturn, 1) := by decide +kernel
theorem dX8_told_92 : decode cX8_told 92 = .ok (.aload_n 0, 1) := by decide +kernel
theorem dX8_told_93 : decode cX8_told 93 = .ok (.getfield 19, 3) := by decide +kernel
theorem dX8_told_96 : decode cX8_told 96 = .ok (.getfield 105, 3) := by decide +kernel
theorem dX8_told_99 : decode cX8_told 99 = .ok (.ireturn, 1) := by decide +kernel
theorem dX8_told_100 : decode cX8_told 100 = .ok (.aload_n 0, 1) := by decide +kernel
theorem dX8_told_101 : decode cX8_told 101 = .ok (.getfield 10, 3) := by decide +kernel
theorem dX8_told_104 : decode cX8_told 104 = .ok (.getfield 71, 3) := by decide +kernel
theorem dX8_told_107 : decode cX8_told 107 = .ok (.ireturn, 1) := by decide +kernel
theorem dX8_told_108 : decode cX8_told 108 = .ok (.aload_n 0, 1) := by decide +kernel
theorem dX8_told_109 : decode cX8_told 109 = .ok (.getfield 28, 3) := by decide +kernel
theorem dX8_told_112 : decode cX8_told 112 = .ok (.getfield 117, 3) := by decide +kernel
theorem dX8_told_115 : decode cX8_told 115 = .ok (.ireturn, 1) := by decide +kernel
theorem dX8_told_116 : decode cX8_told 116 = .ok (.aload_n 0, 1) := by decide +kernel
theorem dX8_told_117 : decode cX8_told 117 = .ok (.getfield 28, 3) := by decide +kernel
theorem dX8_told_120 : decode cX8_told 120 = .ok (.invokevirtual 120, 3) := by decide +kernel
theorem dX8_told_123 : decode cX8_told 123 = .ok (.ireturn, 1) := by decide +kernel
theorem dX8_told_124 : decode cX8_told 124 = .ok (.aload_n 0, 1) := by decide +kernel
theorem dX8_told_125 : decode cX8_told 125 = .ok (.getfield 28, 3) := by decide +kernel
theorem dX8_told_128 : decode cX8_told 128 = .ok (.invokevirtual 124, 3) := by decide +kernel
theorem dX8_told_131 : decode cX8_told 131 = .ok (.ireturn, 1) := by decide +kernel
theorem dX8_told_132 : decode cX8_told 132 = .ok (.aload_n 0, 1) := by decide +kernel
theorem dX8_told_133 : decode cX8_told 133 = .ok (.getfield 28, 3) := by decide +kernel
theorem dX8_told_136 : decode cX8_told 136 = .ok (.invokevirtual 127, 3) := by decide +kernel
theorem dX8_told_139 : decode cX8_told 139 = .ok (.ireturn, 1) := by decide +kernel
theorem dX8_told_140 : decode cX8_told 140 = .ok (.aload_n 0, 1) := by decide +kernel
theorem dX8_told_141 : decode cX8_told 141 = .ok (.getfield 28, 3) := by decide +kernel
theorem dX8_told_144 : decode cX8_told 144 = .ok (.getfield 130, 3) := by decide +kernel
theorem dX8_told_147 : decode cX8_told 147 = .ok (.getfield 134, 3) := by decide +kernel
theorem dX8_told_150 : decode cX8_told 150 = .ok (.ireturn, 1) := by decide +kernel
theorem dX8_told_151 : decode cX8_told 151 = .ok (.aload_n 0, 1) := by decide +kernel
theorem dX8_told_152 : decode cX8_told 152 = .ok (.getfield 51, 3) := by decide +kernel
theorem dX8_told_155 : decode cX8_told 155 = .ok (.getfield 103, 3) := by decide +kernel
theorem dX8_told_158 : decode cX8_told 158 = .ok (.ireturn, 1) := by decide +kernel
theorem dX8_told_159 : decode cX8_told 159 = .ok (.aload_n 0, 1) := by decide +kernel
theorem dX8_told_160 : decode cX8_told 160 = .ok (.getfield 58, 3) := by decide +kernel
theorem dX8_told_163 : decode cX8_told 163 = .ok (.getfield 104, 3) := by decide +kernel
theorem dX8_told_166 : decode cX8_told 166 = .ok (.ireturn, 1) := by decide +kernel
theorem dX8_told_167 : decode cX8_told 167 = .ok (.aload_n 0, 1) := by decide +kernel
theorem dX8_told_168 : decode cX8_told 168 = .ok (.getfield 38, 3) := by decide +kernel
theorem dX8_told_171 : decode cX8_told 171 = .ok (.getfield 137, 3) := by decide +kernel
theorem dX8_told_174 : decode cX8_told 174 = .ok (.ireturn, 1) := by decide +kernel
theorem dX8_told_175 : decode cX8_told 175 = .ok (.ldc 70, 2) := by decide +kernel
theorem dX8_told_177 : decode cX8_told 177 = .ok (.ireturn, 1) := by decide +kernel
theorem dX8_coach_0 : decode cX8_coach 0 = .ok (.aload_n 0, 1) := by decide +kernel
theorem dX8_coach_1 : decode cX8_coach 1 = .ok (.getfield 19, 3) := by decide +kernel
theorem dX8_coach_4 : decode cX8_coach 4 = .ok (.iload_n 1, 1) := by decide +kernel
theorem dX8_coach_5 : decode cX8_coach 5 = .ok (.invokevirtual 138, 3) := by decide +kernel
theorem dX8_coach_8 : decode cX8_coach 8 = .ok (.ifCond .ne 6, 3) := by decide +kernel
theorem dX8_coach_11 : decode cX8_coach 11 = .ok (.ldc 142, 2) := by decide +kernel
theorem dX8_coach_13 : decode cX8_coach 13 = .ok (.ireturn, 1) := by decide +kernel
theorem dX8_coach_14 : decode cX8_coach 14 = .ok (.iload_n 2, 1) := by decide +kernel
theorem dX8_coach_15 : decode cX8_coach 15 = .ok (.tableswitch 95 0 5 #[37, 47, 57, 67, 77, 86], 37) := by decide +kernel
theorem dX8_coach_52 : decode cX8_coach 52 = .ok (.aload_n 0, 1) := by decide +kernel
theorem dX8_coach_53 : decode cX8_coach 53 = .ok (.getfield 28, 3) := by decide +kernel
theorem dX8_coach_56 : decode cX8_coach 56 = .ok (.getfield 143, 3) := by decide +kernel
theorem dX8_coach_59 : decode cX8_coach 59 = .ok (.iload_n 1, 1) := by decide +kernel
theorem dX8_coach_60 : decode cX8_coach 60 = .ok (.iaload, 1) := by decide +kernel
theorem dX8_coach_61 : decode cX8_coach 61 = .ok (.ireturn, 1) := by decide +kernel
theorem dX8_coach_62 : decode cX8_coach 62 = .ok (.aload_n 0, 1) := by decide +kernel
theorem dX8_coach_63 : decode cX8_coach 63 = .ok (.getfield 28, 3) := by decide +kernel
theorem dX8_coach_66 : decode cX8_coach 66 = .ok (.getfield 147, 3) := by decide +kernel
theorem dX8_coach_69 : decode cX8_coach 69 = .ok (.iload_n 1, 1) := by decide +kernel
theorem dX8_coach_70 : decode cX8_coach 70 = .ok (.iaload, 1) := by decide +kernel
theorem dX8_coach_71 : decode cX8_coach 71 = .ok (.ireturn, 1) := by decide +kernel
theorem dX8_coach_72 : decode cX8_coach 72 = .ok (.aload_n 0, 1) := by decide +kernel
theorem dX8_coach_73 : decode cX8_coach 73 = .ok (.getfield 28, 3) := by decide +kernel
theorem dX8_coach_76 : decode cX8_coach 76 = .ok (.getfield 150, 3) := by decide +kernel
theorem dX8_coach_79 : decode cX8_coach 79 = .ok (.iload_n 1, 1) := by decide +kernel
theorem dX8_coach_80 : decode cX8_coach 80 = .ok (.iaload, 1) := by decide +kernel
theorem dX8_coach_81 : decode cX8_coach 81 = .ok (.ireturn, 1) := by decide +kernel
theorem dX8_coach_82 : decode cX8_coach 82 = .ok (.aload_n 0, 1) := by decide +kernel
theorem dX8_coach_83 : decode cX8_coach 83 = .ok (.getfield 28, 3) := by decide +kernel
theorem dX8_coach_86 : decode cX8_coach 86 = .ok (.getfield 153, 3) := by decide +kernel
theorem dX8_coach_89 : decode cX8_coach 89 = .ok (.iload_n 1, 1) := by decide +kernel
theorem dX8_coach_90 : decode cX8_coach 90 = .ok (.iaload, 1) := by decide +kernel
theorem dX8_coach_91 : decode cX8_coach 91 = .ok (.ireturn, 1) := by decide +kernel
theorem dX8_coach_92 : decode cX8_coach 92 = .ok (.aload_n 0, 1) := by decide +kernel
theorem dX8_coach_93 : decode cX8_coach 93 = .ok (.getfield 28, 3) := by decide +kernel
theorem dX8_coach_96 : decode cX8_coach 96 = .ok (.iload_n 1, 1) := by decide +kernel
theorem dX8_coach_97 : decode cX8_coach 97 = .ok (.invokevirtual 156, 3) := by decide +kernel
theorem dX8_coach_100 : decode cX8_coach 100 = .ok (.ireturn, 1) := by decide +kernel
theorem dX8_coach_101 : decode cX8_coach 101 = .ok (.aload_n 0, 1) := by decide +kernel
theorem dX8_coach_102 : decode cX8_coach 102 = .ok (.getfield 28, 3) := by decide +kernel
theorem dX8_coach_105 : decode cX8_coach 105 = .ok (.iload_n 1, 1) := by decide +kernel
theorem dX8_coach_106 : decode cX8_coach 106 = .ok (.invokevirtual 160, 3) := by decide +kernel
theorem dX8_coach_109 : decode cX8_coach 109 = .ok (.ireturn, 1) := by decide +kernel
theorem dX8_coach_110 : decode cX8_coach 110 = .ok (.ldc 70, 2) := by decide +kernel
theorem dX8_coach_112 : decode cX8_coach 112 = .ok (.ireturn, 1) := by decide +kernel
theorem dX8_passenger_0 : decode cX8_passenger 0 = .ok (.aload_n 0, 1) := by decide +kernel
theorem dX8_passenger_1 : decode cX8_passenger 1 = .ok (.getfield 19, 3) := by decide +kernel
theorem dX8_passenger_4 : decode cX8_passenger 4 = .ok (.iload_n 1, 1) := by decide +kernel
theorem dX8_passenger_5 : decode cX8_passenger 5 = .ok (.invokevirtual 163, 3) := by decide +kernel
theorem dX8_passenger_8 : decode cX8_passenger 8 = .ok (.ifCond .ne 6, 3) := by decide +kernel
theorem dX8_passenger_11 : decode cX8_passenger 11 = .ok (.ldc 142, 2) := by decide +kernel
theorem dX8_passenger_13 : decode cX8_passenger 13 = .ok (.ireturn, 1) := by decide +kernel
theorem dX8_passenger_14 : decode cX8_passenger 14 = .ok (.iload_n 2, 1) := by decide +kernel
theorem dX8_passenger_15 : decode cX8_passenger 15 = .ok (.tableswitch 157 0 8 #[49, 59, 69, 79, 89, 99, 109, 122, 131], 49) := by decide +kernel
theorem dX8_passenger_64 : decode cX8_passenger 64 = .ok (.aload_n 0, 1) := by decide +kernel
theorem dX8_passenger_65 : decode cX8_passenger 65 = .ok (.getfield 19, 3) := by decide +kernel
theorem dX8_passenger_68 : decode cX8_passenger 68 = .ok (.getfield 166, 3) := by decide +kernel
theorem dX8_passenger_71 : decode cX8_passenger 71 = .ok (.iload_n 1, 1) := by decide +kernel
theorem dX8_passenger_72 : decode cX8_passenger 72 = .ok (.iaload, 1) := by decide +kernel
theorem dX8_passenger_73 : decode cX8_passenger 73 = .ok (.ireturn, 1) := by decide +kernel
theorem dX8_passenger_74 : decode cX8_passenger 74 = .ok (.aload_n 0, 1) := by decide +kernel
theorem dX8_passenger_75 : decode cX8_passenger 75 = .ok (.getfield 28, 3) := by decide +kernel
theorem dX8_passenger_78 : decode cX8_passenger 78 = .ok (.getfield 169, 3) := by decide +kernel
theorem dX8_passenger_81 : decode cX8_passenger 81 = .ok (.iload_n 1, 1) := by decide +kernel
theorem dX8_passenger_82 : decode cX8_passenger 82 = .ok (.iaload, 1) := by decide +kernel
theorem dX8_passenger_83 : decode cX8_passenger 83 = .ok (.ireturn, 1) := by decide +kernel
theorem dX8_passenger_84 : decode cX8_passenger 84 = .ok (.aload_n 0, 1) := by decide +kernel
theorem dX8_passenger_85 : decode cX8_passenger 85 = .ok (.getfield 28, 3) := by decide +kernel
theorem dX8_passenger_88 : decode cX8_passenger 88 = .ok (.getfield 172, 3) := by decide +kernel
theorem dX8_passenger_91 : decode cX8_passenger 91 = .ok (.iload_n 1, 1) := by decide +kernel
theorem dX8_passenger_92 : decode cX8_passenger 92 = .ok (.iaload, 1) := by decide +kernel
theorem dX8_passenger_93 : decode cX8_passenger 93 = .ok (.ireturn, 1) := by decide +kernel
theorem dX8_passenger_94 : decode cX8_passenger 94 = .ok (.aload_n 0, 1) := by decide +kernel
theorem dX8_passenger_95 : decode cX8_passenger 95 = .ok (.getfield 28, 3) := by decide +kernel
theorem dX8_passenger_98 : decode cX8_passenger 98 = .ok (.getfield 175, 3) := by decide +kernel
theorem dX8_passenger_101 : decode cX8_passenger 101 = .ok (.iload_n 1, 1) := by decide +kernel
theorem dX8_passenger_102 : decode cX8_passenger 102 = .ok (.iaload, 1) := by decide +kernel
theorem dX8_passenger_103 : decode cX8_passenger 103 = .ok (.ireturn, 1) := by decide +kernel
theorem dX8_passenger_104 : decode cX8_passenger 104 = .ok (.aload_n 0, 1) := by decide +kernel
theorem dX8_passenger_105 : decode cX8_passenger 105 = .ok (.getfield 19, 3) := by decide +kernel
theorem dX8_passenger_108 : decode cX8_passenger 108 = .ok (.getfield 178, 3) := by decide +kernel
theorem dX8_passenger_111 : decode cX8_passenger 111 = .ok (.iload_n 1, 1) := by decide +kernel
theorem dX8_passenger_112 : decode cX8_passenger 112 = .ok (.iaload, 1) := by decide +kernel
theorem dX8_passenger_113 : decode cX8_passenger 113 = .ok (.ireturn, 1) := by decide +kernel
theorem dX8_passenger_114 : decode cX8_passenger 114 = .ok (.aload_n 0, 1) := by decide +kernel
theorem dX8_passenger_115 : decode cX8_passenger 115 = .ok (.getfield 28, 3) := by decide +kernel
theorem dX8_passenger_118 : decode cX8_passenger 118 = .ok (.getfield 181, 3) := by decide +kernel
theorem dX8_passenger_121 : decode cX8_passenger 121 = .ok (.iload_n 1, 1) := by decide +kernel
theorem dX8_passenger_122 : decode cX8_passenger 122 = .ok (.iaload, 1) := by decide +kernel
theorem dX8_passenger_123 : decode cX8_passenger 123 = .ok (.ireturn, 1) := by decide +kernel
theorem dX8_passenger_124 : decode cX8_passenger 124 = .ok (.aload_n 0, 1) := by decide +kernel
theorem dX8_passenger_125 : decode cX8_passenger 125 = .ok (.getfield 28, 3) := by decide +kernel
theorem dX8_passenger_128 : decode cX8_passenger 128 = .ok (.getfield 184, 3) := by decide +kernel
theorem dX8_passenger_131 : decode cX8_passenger 131 = .ok (.iload_n 1, 1) := by decide +kernel
theorem dX8_passenger_132 : decode cX8_passenger 132 = .ok (.iaload, 1) := by decide +kernel
theorem dX8_passenger_133 : decode cX8_passenger 133 = .ok (.ldc 187, 2) := by decide +kernel
theorem dX8_passenger_135 : decode cX8_passenger 135 = .ok (.iadd, 1) := by decide +kernel
theorem dX8_passenger_136 : decode cX8_passenger 136 = .ok (.ireturn, 1) := by decide +kernel
theorem dX8_passenger_137 : decode cX8_passenger 137 = .ok (.aload_n 0, 1) := by decide +kernel
theorem dX8_passenger_138 : decode cX8_passenger 138 = .ok (.getfield 28, 3) := by decide +kernel
theorem dX8_passenger_141 : decode cX8_passenger 141 = .ok (.iload_n 1, 1) := by decide +kernel
theorem dX8_passenger_142 : decode cX8_passenger 142 = .ok (.invokevirtual 188, 3) := by decide +kernel
theorem dX8_passenger_145 : decode cX8_passenger 145 = .ok (.ireturn, 1) := by decide +kernel
theorem dX8_passenger_146 : decode cX8_passenger 146 = .ok (.aload_n 0, 1) := by decide +kernel
theorem dX8_passenger_147 : decode cX8_passenger 147 = .ok (.getfield 28, 3) := by decide +kernel
theorem dX8_passenger_150 : decode cX8_passenger 150 = .ok (.getfield 172, 3) := by decide +kernel
theorem dX8_passenger_153 : decode cX8_passenger 153 = .ok (.iload_n 1, 1) := by decide +kernel
theorem dX8_passenger_154 : decode cX8_passenger 154 = .ok (.iaload, 1) := by decide +kernel
theorem dX8_passenger_155 : decode cX8_passenger 155 = .ok (.iconst (-1), 1) := by decide +kernel
theorem dX8_passenger_156 : decode cX8_passenger 156 = .ok (.if_icmp .ne 14, 3) := by decide +kernel
theorem dX8_passenger_159 : decode cX8_passenger 159 = .ok (.aload_n 0, 1) := by decide +kernel
theorem dX8_passenger_160 : decode cX8_passenger 160 = .ok (.getfield 28, 3) := by decide +kernel
theorem dX8_passenger_163 : decode cX8_passenger 163 = .ok (.iload_n 1, 1) := by decide +kernel
theorem dX8_passenger_164 : decode cX8_passenger 164 = .ok (.invokevirtual 191, 3) := by decide +kernel
theorem dX8_passenger_167 : decode cX8_passenger 167 = .ok (.goto 4, 3) := by decide +kernel
theorem dX8_passenger_170 : decode cX8_passenger 170 = .ok (.iconst (-1), 1) := by decide +kernel
theorem dX8_passenger_171 : decode cX8_passenger 171 = .ok (.ireturn, 1) := by decide +kernel
theorem dX8_passenger_172 : decode cX8_passenger 172 = .ok (.ldc 70, 2) := by decide +kernel
theorem dX8_passenger_174 : decode cX8_passenger 174 = .ok (.ireturn, 1) := by decide +kernel
theorem dX8_lefts_0 : decode cX8_lefts 0 = .ok (.iload_n 2, 1) := by decide +kernel
theorem dX8_lefts_1 : decode cX8_lefts 1 = .ok (.ifCond .lt 8, 3) := by decide +kernel
theorem dX8_lefts_4 : decode cX8_lefts 4 = .ok (.iload_n 2, 1) := by decide +kernel
theorem dX8_lefts_5 : decode cX8_lefts 5 = .ok (.iconst 5, 1) := by decide +kernel
theorem dX8_lefts_6 : decode cX8_lefts 6 = .ok (.if_icmp .lt 6, 3) := by decide +kernel
theorem dX8_lefts_9 : decode cX8_lefts 9 = .ok (.ldc 70, 2) := by decide +kernel
theorem dX8_lefts_11 : decode cX8_lefts 11 = .ok (.ireturn, 1) := by decide +kernel
theorem dX8_lefts_12 : decode cX8_lefts 12 = .ok (.aload_n 0, 1) := by decide +kernel
theorem dX8_lefts_13 : decode cX8_lefts 13 = .ok (.getfield 28, 3) := by decide +kernel
theorem dX8_lefts_16 : decode cX8_lefts 16 = .ok (.getfield 130, 3) := by decide +kernel
theorem dX8_lefts_19 : decode cX8_lefts 19 = .ok (.iload_n 1, 1) := by decide +kernel
theorem dX8_lefts_20 : decode cX8_lefts 20 = .ok (.iload_n 2, 1) := by decide +kernel
theorem dX8_lefts_21 : decode cX8_lefts 21 = .ok (.invokevirtual 194, 3) := by decide +kernel
theorem dX8_lefts_24 : decode cX8_lefts 24 = .ok (.ireturn, 1) := by decide +kernel
theorem dX8_horn_0 : decode cX8_horn 0 = .ok (.aload_n 0, 1) := by decide +kernel
theorem dX8_horn_1 : decode cX8_horn 1 = .ok (.getfield 19, 3) := by decide +kernel
theorem dX8_horn_4 : decode cX8_horn 4 = .ok (.iload_n 1, 1) := by decide +kernel
theorem dX8_horn_5 : decode cX8_horn 5 = .ok (.invokevirtual 138, 3) := by decide +kernel
theorem dX8_horn_8 : decode cX8_horn 8 = .ok (.ifCond .ne 6, 3) := by decide +kernel
theorem dX8_horn_11 : decode cX8_horn 11 = .ok (.ldc 142, 2) := by decide +kernel
theorem dX8_horn_13 : decode cX8_horn 13 = .ok (.ireturn, 1) := by decide +kernel
theorem dX8_horn_14 : decode cX8_horn 14 = .ok (.aload_n 0, 1) := by decide +kernel
theorem dX8_horn_15 : decode cX8_horn 15 = .ok (.getfield 28, 3) := by decide +kernel
theorem dX8_horn_18 : decode cX8_horn 18 = .ok (.getfield 117, 3) := by decide +kernel
theorem dX8_horn_21 : decode cX8_horn 21 = .ok (.sipush 9000, 3) := by decide +kernel
theorem dX8_horn_24 : decode cX8_horn 24 = .ok (.if_icmp .le 6, 3) := by decide +kernel
theorem dX8_horn_27 : decode cX8_horn 27 = .ok (.ldc 74, 2) := by decide +kernel
theorem dX8_horn_29 : decode cX8_horn 29 = .ok (.ireturn, 1) := by decide +kernel
theorem dX8_horn_30 : decode cX8_horn 30 = .ok (.aload_n 0, 1) := by decide +kernel
theorem dX8_horn_31 : decode cX8_horn 31 = .ok (.getfield 38, 3) := by decide +kernel
theorem dX8_horn_34 : decode cX8_horn 34 = .ok (.aload_n 0, 1) := by decide +kernel
theorem dX8_horn_35 : decode cX8_horn 35 = .ok (.getfield 28, 3) := by decide +kernel
theorem dX8_horn_38 : decode cX8_horn 38 = .ok (.invokevirtual 198, 3) := by decide +kernel
theorem dX8_horn_41 : decode cX8_horn 41 = .ok (.aload_n 0, 1) := by decide +kernel
theorem dX8_horn_42 : decode cX8_horn 42 = .ok (.getfield 28, 3) := by decide +kernel
theorem dX8_horn_45 : decode cX8_horn 45 = .ok (.iload_n 1, 1) := by decide +kernel
theorem dX8_horn_46 : decode cX8_horn 46 = .ok (.invokevirtual 201, 3) := by decide +kernel
theorem dX8_horn_49 : decode cX8_horn 49 = .ok (.ireturn, 1) := by decide +kernel
theorem dX8_rounds_0 : decode cX8_rounds 0 = .ok (.aload_n 0, 1) := by decide +kernel
theorem dX8_rounds_1 : decode cX8_rounds 1 = .ok (.iload_n 1, 1) := by decide +kernel
theorem dX8_rounds_2 : decode cX8_rounds 2 = .ok (.invokevirtual 204, 3) := by decide +kernel
theorem dX8_rounds_5 : decode cX8_rounds 5 = .ok (.istore_n 2, 1) := by decide +kernel
theorem dX8_rounds_6 : decode cX8_rounds 6 = .ok (.iload_n 2, 1) := by decide +kernel
theorem dX8_rounds_7 : decode cX8_rounds 7 = .ok (.ifCond .eq 5, 3) := by decide +kernel
theorem dX8_rounds_10 : decode cX8_rounds 10 = .ok (.iload_n 2, 1) := by decide +kernel
theorem dX8_rounds_11 : decode cX8_rounds 11 = .ok (.ireturn, 1) := by decide +kernel
theorem dX8_rounds_12 : decode cX8_rounds 12 = .ok (.aload_n 0, 1) := by decide +kernel
theorem dX8_rounds_13 : decode cX8_rounds 13 = .ok (.getfield 38, 3) := by decide +kernel
theorem dX8_rounds_16 : decode cX8_rounds 16 = .ok (.aload_n 0, 1) := by decide +kernel
theorem dX8_rounds_17 : decode cX8_rounds 17 = .ok (.getfield 28, 3) := by decide +kernel
theorem dX8_rounds_20 : decode cX8_rounds 20 = .ok (.invokevirtual 198, 3) := by decide +kernel
theorem dX8_rounds_23 : decode cX8_rounds 23 = .ok (.aload_n 0, 1) := by decide +kernel
theorem dX8_rounds_24 : decode cX8_rounds 24 = .ok (.getfield 28, 3) := by decide +kernel
theorem dX8_rounds_27 : decode cX8_rounds 27 = .ok (.iload_n 1, 1) := by decide +kernel
theorem dX8_rounds_28 : decode cX8_rounds 28 = .ok (.invokevirtual 207, 3) := by decide +kernel
theorem dX8_rounds_31 : decode cX8_rounds 31 = .ok (.aload_n 0, 1) := by decide +kernel
theorem dX8_rounds_32 : decode cX8_rounds 32 = .ok (.getfield 28, 3) := by decide +kernel
theorem dX8_rounds_35 : decode cX8_rounds 35 = .ok (.getfield 117, 3) := by decide +kernel
theorem dX8_rounds_38 : decode cX8_rounds 38 = .ok (.ireturn, 1) := by decide +kernel
theorem dX8_book_0 : decode cX8_book 0 = .ok (.aload_n 0, 1) := by decide +kernel
theorem dX8_book_1 : decode cX8_book 1 = .ok (.getfield 19, 3) := by decide +kernel
theorem dX8_book_4 : decode cX8_book 4 = .ok (.iload_n 1, 1) := by decide +kernel
theorem dX8_book_5 : decode cX8_book 5 = .ok (.invokevirtual 163, 3) := by decide +kernel
theorem dX8_book_8 : decode cX8_book 8 = .ok (.ifCond .eq 19, 3) := by decide +kernel
theorem dX8_book_11 : decode cX8_book 11 = .ok (.iload_n 2, 1) := by decide +kernel
theorem dX8_book_12 : decode cX8_book 12 = .ok (.iconst (-1), 1) := by decide +kernel
theorem dX8_book_13 : decode cX8_book 13 = .ok (.if_icmp .eq 17, 3) := by decide +kernel
theorem dX8_book_16 : decode cX8_book 16 = .ok (.aload_n 0, 1) := by decide +kernel
theorem dX8_book_17 : decode cX8_book 17 = .ok (.getfield 19, 3) := by decide +kernel
theorem dX8_book_20 : decode cX8_book 20 = .ok (.iload_n 2, 1) := by decide +kernel
theorem dX8_book_21 : decode cX8_book 21 = .ok (.invokevirtual 138, 3) := by decide +kernel
theorem dX8_book_24 : decode cX8_book 24 = .ok (.ifCond .ne 6, 3) := by decide +kernel
theorem dX8_book_27 : decode cX8_book 27 = .ok (.ldc 142, 2) := by decide +kernel
theorem dX8_book_29 : decode cX8_book 29 = .ok (.ireturn, 1) := by decide +kernel
theorem dX8_book_30 : decode cX8_book 30 = .ok (.aload_n 0, 1) := by decide +kernel
theorem dX8_book_31 : decode cX8_book 31 = .ok (.getfield 28, 3) := by decide +kernel
theorem dX8_book_34 : decode cX8_book 34 = .ok (.getfield 172, 3) := by decide +kernel
theorem dX8_book_37 : decode cX8_book 37 = .ok (.iload_n 1, 1) := by decide +kernel
theorem dX8_book_38 : decode cX8_book 38 = .ok (.iaload, 1) := by decide +kernel
theorem dX8_book_39 : decode cX8_book 39 = .ok (.iconst (-1), 1) := by decide +kernel
theorem dX8_book_40 : decode cX8_book 40 = .ok (.if_icmp .eq 6, 3) := by decide +kernel
theorem dX8_book_43 : decode cX8_book 43 = .ok (.ldc 210, 2) := by decide +kernel
theorem dX8_book_45 : decode cX8_book 45 = .ok (.ireturn, 1) := by decide +kernel
theorem dX8_book_46 : decode cX8_book 46 = .ok (.aload_n 0, 1) := by decide +kernel
theorem dX8_book_47 : decode cX8_book 47 = .ok (.getfield 38, 3) := by decide +kernel
theorem dX8_book_50 : decode cX8_book 50 = .ok (.aload_n 0, 1) := by decide +kernel
theorem dX8_book_51 : decode cX8_book 51 = .ok (.getfield 28, 3) := by decide +kernel
theorem dX8_book_54 : decode cX8_book 54 = .ok (.invokevirtual 198, 3) := by decide +kernel
theorem dX8_book_57 : decode cX8_book 57 = .ok (.aload_n 0, 1) := by decide +kernel
theorem dX8_book_58 : decode cX8_book 58 = .ok (.getfield 28, 3) := by decide +kernel
theorem dX8_book_61 : decode cX8_book 61 = .ok (.getfield 181, 3) := by decide +kernel
theorem dX8_book_64 : decode cX8_book 64 = .ok (.iload_n 1, 1) := by decide +kernel
theorem dX8_book_65 : decode cX8_book 65 = .ok (.iaload, 1) := by decide +kernel
theorem dX8_book_66 : decode cX8_book 66 = .ok (.istore_n 3, 1) := by decide +kernel
theorem dX8_book_67 : decode cX8_book 67 = .ok (.aload_n 0, 1) := by decide +kernel
theorem dX8_book_68 : decode cX8_book 68 = .ok (.getfield 28, 3) := by decide +kernel
theorem dX8_book_71 : decode cX8_book 71 = .ok (.getfield 181, 3) := by decide +kernel
theorem dX8_book_74 : decode cX8_book 74 = .ok (.iload_n 1, 1) := by decide +kernel
theorem dX8_book_75 : decode cX8_book 75 = .ok (.iload_n 2, 1) := by decide +kernel
theorem dX8_book_76 : decode cX8_book 76 = .ok (.iastore, 1) := by decide +kernel
theorem dX8_book_77 : decode cX8_book 77 = .ok (.iload_n 3, 1) := by decide +kernel
theorem dX8_book_78 : decode cX8_book 78 = .ok (.ireturn, 1) := by decide +kernel
theorem dX8_walk_0 : decode cX8_walk 0 = .ok (.aload_n 0, 1) := by decide +kernel
theorem dX8_walk_1 : decode cX8_walk 1 = .ok (.getfield 19, 3) := by decide +kernel
theorem dX8_walk_4 : decode cX8_walk 4 = .ok (.iload_n 1, 1) := by decide +kernel
theorem dX8_walk_5 : decode cX8_walk 5 = .ok (.invokevirtual 163, 3) := by decide +kernel
theorem dX8_walk_8 : decode cX8_walk 8 = .ok (.ifCond .ne 6, 3) := by decide +kernel
theorem dX8_walk_11 : decode cX8_walk 11 = .ok (.ldc 142, 2) := by decide +kernel
theorem dX8_walk_13 : decode cX8_walk 13 = .ok (.ireturn, 1) := by decide +kernel
theorem dX8_walk_14 : decode cX8_walk 14 = .ok (.iload_n 2, 1) := by decide +kernel
theorem dX8_walk_15 : decode cX8_walk 15 = .ok (.ifCond .eq 17, 3) := by decide +kernel
theorem dX8_walk_18 : decode cX8_walk 18 = .ok (.aload_n 0, 1) := by decide +kernel
theorem dX8_walk_19 : decode cX8_walk 19 = .ok (.getfield 28, 3) := by decide +kernel
theorem dX8_walk_22 : decode cX8_walk 22 = .ok (.getfield 169, 3) := by decide +kernel
theorem dX8_walk_25 : decode cX8_walk 25 = .ok (.iload_n 1, 1) := by decide +kernel
theorem dX8_walk_26 : decode cX8_walk 26 = .ok (.iaload, 1) := by decide +kernel
theorem dX8_walk_27 : decode cX8_walk 27 = .ok (.iconst 1, 1) := by decide +kernel
theorem dX8_walk_28 : decode cX8_walk 28 = .ok (.iadd, 1) := by decide +kernel
theorem dX8_walk_29 : decode cX8_walk 29 = .ok (.goto 14, 3) := by decide +kernel
theorem dX8_walk_32 : decode cX8_walk 32 = .ok (.aload_n 0, 1) := by decide +kernel
theorem dX8_walk_33 : decode cX8_walk 33 = .ok (.getfield 28, 3) := by decide +kernel
theorem dX8_walk_36 : decode cX8_walk 36 = .ok (.getfield 169, 3) := by decide +kernel
theorem dX8_walk_39 : decode cX8_walk 39 = .ok (.iload_n 1, 1) := by decide +kernel
theorem dX8_walk_40 : decode cX8_walk 40 = .ok (.iaload, 1) := by decide +kernel
theorem dX8_walk_41 : decode cX8_walk 41 = .ok (.iconst 1, 1) := by decide +kernel
theorem dX8_walk_42 : decode cX8_walk 42 = .ok (.isub, 1) := by decide +kernel
theorem dX8_walk_43 : decode cX8_walk 43 = .ok (.istore_n 3, 1) := by decide +kernel
theorem dX8_walk_44 : decode cX8_walk 44 = .ok (.aload_n 0, 1) := by decide +kernel
theorem dX8_walk_45 : decode cX8_walk 45 = .ok (.getfield 28, 3) := by decide +kernel
theorem dX8_walk_48 : decode cX8_walk 48 = .ok (.getfield 172, 3) := by decide +kernel
theorem dX8_walk_51 : decode cX8_walk 51 = .ok (.iload_n 1, 1) := by decide +kernel
theorem dX8_walk_52 : decode cX8_walk 52 = .ok (.iaload, 1) := by decide +kernel
theorem dX8_walk_53 : decode cX8_walk 53 = .ok (.iconst (-1), 1) := by decide +kernel
theorem dX8_walk_54 : decode cX8_walk 54 = .ok (.if_icmp .ne 18, 3) := by decide +kernel
theorem dX8_walk_57 : decode cX8_walk 57 = .ok (.iload_n 3, 1) := by decide +kernel
theorem dX8_walk_58 : decode cX8_walk 58 = .ok (.ifCond .lt 14, 3) := by decide +kernel
theorem dX8_walk_61 : decode cX8_walk 61 = .ok (.iload_n 3, 1) := by decide +kernel
theorem dX8_walk_62 : decode cX8_walk 62 = .ok (.aload_n 0, 1) := by decide +kernel
theorem dX8_walk_63 : decode cX8_walk 63 = .ok (.getfield 19, 3) := by decide +kernel
theorem dX8_walk_66 : decode cX8_walk 66 = .ok (.getfield 108, 3) := by decide +kernel
theorem dX8_walk_69 : decode cX8_walk 69 = .ok (.if_icmp .lt 6, 3) := by decide +kernel
theorem dX8_walk_72 : decode cX8_walk 72 = .ok (.ldc 210, 2) := by decide +kernel
theorem dX8_walk_74 : decode cX8_walk 74 = .ok (.ireturn, 1) := by decide +kernel
theorem dX8_walk_75 : decode cX8_walk 75 = .ok (.aload_n 0, 1) := by decide +kernel
theorem dX8_walk_76 : decode cX8_walk 76 = .ok (.getfield 38, 3) := by decide +kernel
theorem dX8_walk_79 : decode cX8_walk 79 = .ok (.aload_n 0, 1) := by decide +kernel
theorem dX8_walk_80 : decode cX8_walk 80 = .ok (.getfield 28, 3) := by decide +kernel
theorem dX8_walk_83 : decode cX8_walk 83 = .ok (.invokevirtual 198, 3) := by decide +kernel
theorem dX8_walk_86 : decode cX8_walk 86 = .ok (.aload_n 0, 1) := by decide +kernel
theorem dX8_walk_87 : decode cX8_walk 87 = .ok (.getfield 28, 3) := by decide +kernel
theorem dX8_walk_90 : decode cX8_walk 90 = .ok (.getfield 169, 3) := by decide +kernel
theorem dX8_walk_93 : decode cX8_walk 93 = .ok (.iload_n 1, 1) := by decide +kernel
theorem dX8_walk_94 : decode cX8_walk 94 = .ok (.iload_n 3, 1) := by decide +kernel
theorem dX8_walk_95 : decode cX8_walk 95 = .ok (.iastore, 1) := by decide +kernel
theorem dX8_walk_96 : decode cX8_walk 96 = .ok (.iload_n 3, 1) := by decide +kernel
theorem dX8_walk_97 : decode cX8_walk 97 = .ok (.ireturn, 1) := by decide +kernel
theorem dX8_out_0 : decode cX8_out 0 = .ok (.aload_n 0, 1) := by decide +kernel
theorem dX8_out_1 : decode cX8_out 1 = .ok (.getfield 19, 3) := by decide +kernel
theorem dX8_out_4 : decode cX8_out 4 = .ok (.iload_n 1, 1) := by decide +kernel
theorem dX8_out_5 : decode cX8_out 5 = .ok (.invokevirtual 163, 3) := by decide +kernel
theorem dX8_out_8 : decode cX8_out 8 = .ok (.ifCond .ne 6, 3) := by decide +kernel
theorem dX8_out_11 : decode cX8_out 11 = .ok (.ldc 142, 2) := by decide +kernel
theorem dX8_out_13 : decode cX8_out 13 = .ok (.ireturn, 1) := by decide +kernel
theorem dX8_out_14 : decode cX8_out 14 = .ok (.aload_n 0, 1) := by decide +kernel
theorem dX8_out_15 : decode cX8_out 15 = .ok (.getfield 28, 3) := by decide +kernel
theorem dX8_out_18 : decode cX8_out 18 = .ok (.getfield 172, 3) := by decide +kernel
theorem dX8_out_21 : decode cX8_out 21 = .ok (.iload_n 1, 1) := by decide +kernel
theorem dX8_out_22 : decode cX8_out 22 = .ok (.iaload, 1) := by decide +kernel
theorem dX8_out_23 : decode cX8_out 23 = .ok (.istore_n 2, 1) := by decide +kernel
theorem dX8_out_24 : decode cX8_out 24 = .ok (.iload_n 2, 1) := by decide +kernel
theorem dX8_out_25 : decode cX8_out 25 = .ok (.iconst (-1), 1) := by decide +kernel
theorem dX8_out_26 : decode cX8_out 26 = .ok (.if_icmp .ne 6, 3) := by decide +kernel
theorem dX8_out_29 : decode cX8_out 29 = .ok (.ldc 210, 2) := by decide +kernel
theorem dX8_out_31 : decode cX8_out 31 = .ok (.ireturn, 1) := by decide +kernel
theorem dX8_out_32 : decode cX8_out 32 = .ok (.aload_n 0, 1) := by decide +kernel
theorem dX8_out_33 : decode cX8_out 33 = .ok (.getfield 38, 3) := by decide +kernel
theorem dX8_out_36 : decode cX8_out 36 = .ok (.aload_n 0, 1) := by decide +kernel
theorem dX8_out_37 : decode cX8_out 37 = .ok (.getfield 28, 3) := by decide +kernel
theorem dX8_out_40 : decode cX8_out 40 = .ok (.invokevirtual 198, 3) := by decide +kernel
theorem dX8_out_43 : decode cX8_out 43 = .ok (.aload_n 0, 1) := by decide +kernel
theorem dX8_out_44 : decode cX8_out 44 = .ok (.getfield 28, 3) := by decide +kernel
theorem dX8_out_47 : decode cX8_out 47 = .ok (.iload_n 1, 1) := by decide +kernel
theorem dX8_out_48 : decode cX8_out 48 = .ok (.invokevirtual 211, 3) := by decide +kernel
theorem dX8_out_51 : decode cX8_out 51 = .ok (.iload_n 2, 1) := by decide +kernel
theorem dX8_out_52 : decode cX8_out 52 = .ok (.ireturn, 1) := by decide +kernel
theorem dX8_slow_0 : decode cX8_slow 0 = .ok (.aload_n 0, 1) := by decide +kernel
theorem dX8_slow_1 : decode cX8_slow 1 = .ok (.getfield 19, 3) := by decide +kernel
theorem dX8_slow_4 : decode cX8_slow 4 = .ok (.iload_n 1, 1) := by decide +kernel
theorem dX8_slow_5 : decode cX8_slow 5 = .ok (.invokevirtual 163, 3) := by decide +kernel
theorem dX8_slow_8 : decode cX8_slow 8 = .ok (.ifCond .ne 6, 3) := by decide +kernel
theorem dX8_slow_11 : decode cX8_slow 11 = .ok (.ldc 142, 2) := by decide +kernel
theorem dX8_slow_13 : decode cX8_slow 13 = .ok (.ireturn, 1) := by decide +kernel
theorem dX8_slow_14 : decode cX8_slow 14 = .ok (.iload_n 2, 1) := by decide +kernel
theorem dX8_slow_15 : decode cX8_slow 15 = .ok (.ifCond .lt 9, 3) := by decide +kernel
theorem dX8_slow_18 : decode cX8_slow 18 = .ok (.iload_n 2, 1) := by decide +kernel
theorem dX8_slow_19 : decode cX8_slow 19 = .ok (.bipush 30, 2) := by decide +kernel
theorem dX8_slow_21 : decode cX8_slow 21 = .ok (.if_icmp .le 6, 3) := by decide +kernel
theorem dX8_slow_24 : decode cX8_slow 24 = .ok (.ldc 70, 2) := by decide +kernel
theorem dX8_slow_26 : decode cX8_slow 26 = .ok (.ireturn, 1) := by decide +kernel
theorem dX8_slow_27 : decode cX8_slow 27 = .ok (.aload_n 0, 1) := by decide +kernel
theorem dX8_slow_28 : decode cX8_slow 28 = .ok (.getfield 38, 3) := by decide +kernel
theorem dX8_slow_31 : decode cX8_slow 31 = .ok (.aload_n 0, 1) := by decide +kernel
theorem dX8_slow_32 : decode cX8_slow 32 = .ok (.getfield 28, 3) := by decide +kernel
theorem dX8_slow_35 : decode cX8_slow 35 = .ok (.invokevirtual 198, 3) := by decide +kernel
theorem dX8_slow_38 : decode cX8_slow 38 = .ok (.aload_n 0, 1) := by decide +kernel
theorem dX8_slow_39 : decode cX8_slow 39 = .ok (.getfield 28, 3) := by decide +kernel
theorem dX8_slow_42 : decode cX8_slow 42 = .ok (.getfield 175, 3) := by decide +kernel
theorem dX8_slow_45 : decode cX8_slow 45 = .ok (.iload_n 1, 1) := by decide +kernel
theorem dX8_slow_46 : decode cX8_slow 46 = .ok (.iaload, 1) := by decide +kernel
theorem dX8_slow_47 : decode cX8_slow 47 = .ok (.istore_n 3, 1) := by decide +kernel
theorem dX8_slow_48 : decode cX8_slow 48 = .ok (.aload_n 0, 1) := by decide +kernel
theorem dX8_slow_49 : decode cX8_slow 49 = .ok (.getfield 28, 3) := by decide +kernel
theorem dX8_slow_52 : decode cX8_slow 52 = .ok (.getfield 175, 3) := by decide +kernel
theorem dX8_slow_55 : decode cX8_slow 55 = .ok (.iload_n 1, 1) := by decide +kernel
theorem dX8_slow_56 : decode cX8_slow 56 = .ok (.iload_n 2, 1) := by decide +kernel
theorem dX8_slow_57 : decode cX8_slow 57 = .ok (.iastore, 1) := by decide +kernel
theorem dX8_slow_58 : decode cX8_slow 58 = .ok (.iload_n 3, 1) := by decide +kernel
theorem dX8_slow_59 : decode cX8_slow 59 = .ok (.ireturn, 1) := by decide +kernel
theorem dX8_waits_0 : decode cX8_waits 0 = .ok (.aload_n 0, 1) := by decide +kernel
theorem dX8_waits_1 : decode cX8_waits 1 = .ok (.getfield 19, 3) := by decide +kernel
theorem dX8_waits_4 : decode cX8_waits 4 = .ok (.iload_n 1, 1) := by decide +kernel
theorem dX8_waits_5 : decode cX8_waits 5 = .ok (.invokevirtual 138, 3) := by decide +kernel
theorem dX8_waits_8 : decode cX8_waits 8 = .ok (.ifCond .ne 6, 3) := by decide +kernel
theorem dX8_waits_11 : decode cX8_waits 11 = .ok (.ldc 142, 2) := by decide +kernel
theorem dX8_waits_13 : decode cX8_waits 13 = .ok (.ireturn, 1) := by decide +kernel
theorem dX8_waits_14 : decode cX8_waits 14 = .ok (.iload_n 2, 1) := by decide +kernel
theorem dX8_waits_15 : decode cX8_waits 15 = .ok (.ifCond .lt 9, 3) := by decide +kernel
theorem dX8_waits_18 : decode cX8_waits 18 = .ok (.iload_n 2, 1) := by decide +kernel
theorem dX8_waits_19 : decode cX8_waits 19 = .ok (.bipush 50, 2) := by decide +kernel
theorem dX8_waits_21 : decode cX8_waits 21 = .ok (.if_icmp .le 6, 3) := by decide +kernel
theorem dX8_waits_24 : decode cX8_waits 24 = .ok (.ldc 70, 2) := by decide +kernel
theorem dX8_waits_26 : decode cX8_waits 26 = .ok (.ireturn, 1) := by decide +kernel
theorem dX8_waits_27 : decode cX8_waits 27 = .ok (.aload_n 0, 1) := by decide +kernel
theorem dX8_waits_28 : decode cX8_waits 28 = .ok (.getfield 38, 3) := by decide +kernel
theorem dX8_waits_31 : decode cX8_waits 31 = .ok (.aload_n 0, 1) := by decide +kernel
theorem dX8_waits_32 : decode cX8_waits 32 = .ok (.getfield 28, 3) := by decide +kernel
theorem dX8_waits_35 : decode cX8_waits 35 = .ok (.invokevirtual 198, 3) := by decide +kernel
theorem dX8_waits_38 : decode cX8_waits 38 = .ok (.aload_n 0, 1) := by decide +kernel
theorem dX8_waits_39 : decode cX8_waits 39 = .ok (.getfield 28, 3) := by decide +kernel
theorem dX8_waits_42 : decode cX8_waits 42 = .ok (.getfield 150, 3) := by decide +kernel
theorem dX8_waits_45 : decode cX8_waits 45 = .ok (.iload_n 1, 1) := by decide +kernel
theorem dX8_waits_46 : decode cX8_waits 46 = .ok (.iaload, 1) := by decide +kernel
theorem dX8_waits_47 : decode cX8_waits 47 = .ok (.istore_n 3, 1) := by decide +kernel
theorem dX8_waits_48 : decode cX8_waits 48 = .ok (.aload_n 0, 1) := by decide +kernel
theorem dX8_waits_49 : decode cX8_waits 49 = .ok (.getfield 28, 3) := by decide +kernel
theorem dX8_waits_52 : decode cX8_waits 52 = .ok (.getfield 150, 3) := by decide +kernel
theorem dX8_waits_55 : decode cX8_waits 55 = .ok (.iload_n 1, 1) := by decide +kernel
theorem dX8_waits_56 : decode cX8_waits 56 = .ok (.iload_n 2, 1) := by decide +kernel
theorem dX8_waits_57 : decode cX8_waits 57 = .ok (.iastore, 1) := by decide +kernel
theorem dX8_waits_58 : decode cX8_waits 58 = .ok (.iload_n 3, 1) := by decide +kernel
theorem dX8_waits_59 : decode cX8_waits 59 = .ok (.ireturn, 1) := by decide +kernel
theorem dX8_light_0 : decode cX8_light 0 = .ok (.iload_n 1, 1) := by decide +kernel
theorem dX8_light_1 : decode cX8_light 1 = .ok (.aload_n 0, 1) := by decide +kernel
theorem dX8_light_2 : decode cX8_light 2 = .ok (.getfield 19, 3) := by decide +kernel
theorem dX8_light_5 : decode cX8_light 5 = .ok (.getfield 108, 3) := by decide +kernel
theorem dX8_light_8 : decode cX8_light 8 = .ok (.iushr, 1) := by decide +kernel
theorem dX8_light_9 : decode cX8_light 9 = .ok (.ifCond .eq 6, 3) := by decide +kernel
theorem dX8_light_12 : decode cX8_light 12 = .ok (.ldc 142, 2) := by decide +kernel
theorem dX8_light_14 : decode cX8_light 14 = .ok (.ireturn, 1) := by decide +kernel
theorem dX8_light_15 : decode cX8_light 15 = .ok (.aload_n 0, 1) := by decide +kernel
theorem dX8_light_16 : decode cX8_light 16 = .ok (.getfield 19, 3) := by decide +kernel
theorem dX8_light_19 : decode cX8_light 19 = .ok (.getfield 108, 3) := by decide +kernel
theorem dX8_light_22 : decode cX8_light 22 = .ok (.ifCond .ne 6, 3) := by decide +kernel
theorem dX8_light_25 : decode cX8_light 25 = .ok (.ldc 210, 2) := by decide +kernel
theorem dX8_light_27 : decode cX8_light 27 = .ok (.ireturn, 1) := by decide +kernel
theorem dX8_light_28 : decode cX8_light 28 = .ok (.aload_n 0, 1) := by decide +kernel
theorem dX8_light_29 : decode cX8_light 29 = .ok (.getfield 38, 3) := by decide +kernel
theorem dX8_light_32 : decode cX8_light 32 = .ok (.aload_n 0, 1) := by decide +kernel
theorem dX8_light_33 : decode cX8_light 33 = .ok (.getfield 28, 3) := by decide +kernel
theorem dX8_light_36 : decode cX8_light 36 = .ok (.invokevirtual 198, 3) := by decide +kernel
theorem dX8_light_39 : decode cX8_light 39 = .ok (.aload_n 0, 1) := by decide +kernel
theorem dX8_light_40 : decode cX8_light 40 = .ok (.getfield 28, 3) := by decide +kernel
theorem dX8_light_43 : decode cX8_light 43 = .ok (.getfield 111, 3) := by decide +kernel
theorem dX8_light_46 : decode cX8_light 46 = .ok (.istore_n 2, 1) := by decide +kernel
theorem dX8_light_47 : decode cX8_light 47 = .ok (.aload_n 0, 1) := by decide +kernel
theorem dX8_light_48 : decode cX8_light 48 = .ok (.getfield 28, 3) := by decide +kernel
theorem dX8_light_51 : decode cX8_light 51 = .ok (.iload_n 1, 1) := by decide +kernel
theorem dX8_light_52 : decode cX8_light 52 = .ok (.putfield 111, 3) := by decide +kernel
theorem dX8_light_55 : decode cX8_light 55 = .ok (.iload_n 2, 1) := by decide +kernel
theorem dX8_light_56 : decode cX8_light 56 = .ok (.ireturn, 1) := by decide +kernel
theorem dX8_drift_0 : decode cX8_drift 0 = .ok (.aload_n 0, 1) := by decide +kernel
theorem dX8_drift_1 : decode cX8_drift 1 = .ok (.iload_n 1, 1) := by decide +kernel
theorem dX8_drift_2 : decode cX8_drift 2 = .ok (.invokevirtual 204, 3) := by decide +kernel
theorem dX8_drift_5 : decode cX8_drift 5 = .ok (.istore_n 2, 1) := by decide +kernel
theorem dX8_drift_6 : decode cX8_drift 6 = .ok (.iload_n 2, 1) := by decide +kernel
theorem dX8_drift_7 : decode cX8_drift 7 = .ok (.ifCond .eq 5, 3) := by decide +kernel
theorem dX8_drift_10 : decode cX8_drift 10 = .ok (.iload_n 2, 1) := by decide +kernel
theorem dX8_drift_11 : decode cX8_drift 11 = .ok (.ireturn, 1) := by decide +kernel
theorem dX8_drift_12 : decode cX8_drift 12 = .ok (.aload_n 0, 1) := by decide +kernel
theorem dX8_drift_13 : decode cX8_drift 13 = .ok (.getfield 38, 3) := by decide +kernel
theorem dX8_drift_16 : decode cX8_drift 16 = .ok (.aload_n 0, 1) := by decide +kernel
theorem dX8_drift_17 : decode cX8_drift 17 = .ok (.getfield 28, 3) := by decide +kernel
theorem dX8_drift_20 : decode cX8_drift 20 = .ok (.invokevirtual 198, 3) := by decide +kernel
theorem dX8_drift_23 : decode cX8_drift 23 = .ok (.iconst 0, 1) := by decide +kernel
theorem dX8_drift_24 : decode cX8_drift 24 = .ok (.istore_n 3, 1) := by decide +kernel
theorem dX8_drift_25 : decode cX8_drift 25 = .ok (.iload_n 3, 1) := by decide +kernel
theorem dX8_drift_26 : decode cX8_drift 26 = .ok (.iload_n 1, 1) := by decide +kernel
theorem dX8_drift_27 : decode cX8_drift 27 = .ok (.if_icmp .ge 21, 3) := by decide +kernel
theorem dX8_drift_30 : decode cX8_drift 30 = .ok (.aload_n 0, 1) := by decide +kernel
theorem dX8_drift_31 : decode cX8_drift 31 = .ok (.invokevirtual 214, 3) := by decide +kernel
theorem dX8_drift_34 : decode cX8_drift 34 = .ok (.aload_n 0, 1) := by decide +kernel
theorem dX8_drift_35 : decode cX8_drift 35 = .ok (.getfield 28, 3) := by decide +kernel
theorem dX8_drift_38 : decode cX8_drift 38 = .ok (.iconst 1, 1) := by decide +kernel
theorem dX8_drift_39 : decode cX8_drift 39 = .ok (.invokevirtual 207, 3) := by decide +kernel
theorem dX8_drift_42 : decode cX8_drift 42 = .ok (.iinc 3 1, 3) := by decide +kernel
theorem dX8_drift_45 : decode cX8_drift 45 = .ok (.goto (-20), 3) := by decide +kernel
theorem dX8_drift_48 : decode cX8_drift 48 = .ok (.aload_n 0, 1) := by decide +kernel
theorem dX8_drift_49 : decode cX8_drift 49 = .ok (.getfield 28, 3) := by decide +kernel
theorem dX8_drift_52 : decode cX8_drift 52 = .ok (.getfield 117, 3) := by decide +kernel
theorem dX8_drift_55 : decode cX8_drift 55 = .ok (.ireturn, 1) := by decide +kernel
theorem dX8_undo_0 : decode cX8_undo 0 = .ok (.aload_n 0, 1) := by decide +kernel
theorem dX8_undo_1 : decode cX8_undo 1 = .ok (.getfield 38, 3) := by decide +kernel
theorem dX8_undo_4 : decode cX8_undo 4 = .ok (.getfield 137, 3) := by decide +kernel
theorem dX8_undo_7 : decode cX8_undo 7 = .ok (.ifCond .ne 6, 3) := by decide +kernel
theorem dX8_undo_10 : decode cX8_undo 10 = .ok (.ldc 210, 2) := by decide +kernel
theorem dX8_undo_12 : decode cX8_undo 12 = .ok (.ireturn, 1) := by decide +kernel
theorem dX8_undo_13 : decode cX8_undo 13 = .ok (.aload_n 0, 1) := by decide +kernel
theorem dX8_undo_14 : decode cX8_undo 14 = .ok (.getfield 38, 3) := by decide +kernel
theorem dX8_undo_17 : decode cX8_undo 17 = .ok (.aload_n 0, 1) := by decide +kernel
theorem dX8_undo_18 : decode cX8_undo 18 = .ok (.getfield 28, 3) := by decide +kernel
theorem dX8_undo_21 : decode cX8_undo 21 = .ok (.invokevirtual 217, 3) := by decide +kernel
theorem dX8_undo_24 : decode cX8_undo 24 = .ok (.aload_n 0, 1) := by decide +kernel
theorem dX8_undo_25 : decode cX8_undo 25 = .ok (.getfield 38, 3) := by decide +kernel
theorem dX8_undo_28 : decode cX8_undo 28 = .ok (.getfield 137, 3) := by decide +kernel
theorem dX8_undo_31 : decode cX8_undo 31 = .ok (.ireturn, 1) := by decide +kernel
theorem dX8_left_0 : decode cX8_left 0 = .ok (.aload_n 0, 1) := by decide +kernel
theorem dX8_left_1 : decode cX8_left 1 = .ok (.getfield 19, 3) := by decide +kernel
theorem dX8_left_4 : decode cX8_left 4 = .ok (.iload_n 1, 1) := by decide +kernel
theorem dX8_left_5 : decode cX8_left 5 = .ok (.invokevirtual 138, 3) := by decide +kernel
theorem dX8_left_8 : decode cX8_left 8 = .ok (.ifCond .ne 6, 3) := by decide +kernel
theorem dX8_left_11 : decode cX8_left 11 = .ok (.ldc 142, 2) := by decide +kernel
theorem dX8_left_13 : decode cX8_left 13 = .ok (.ireturn, 1) := by decide +kernel
theorem dX8_left_14 : decode cX8_left 14 = .ok (.iload_n 2, 1) := by decide +kernel
theorem dX8_left_15 : decode cX8_left 15 = .ok (.ifCond .lt 8, 3) := by decide +kernel
theorem dX8_left_18 : decode cX8_left 18 = .ok (.iload_n 2, 1) := by decide +kernel
theorem dX8_left_19 : decode cX8_left 19 = .ok (.iconst 1, 1) := by decide +kernel
theorem dX8_left_20 : decode cX8_left 20 = .ok (.if_icmp .le 6, 3) := by decide +kernel
theorem dX8_left_23 : decode cX8_left 23 = .ok (.ldc 70, 2) := by decide +kernel
theorem dX8_left_25 : decode cX8_left 25 = .ok (.ireturn, 1) := by decide +kernel
theorem dX8_left_26 : decode cX8_left 26 = .ok (.aload_n 0, 1) := by decide +kernel
theorem dX8_left_27 : decode cX8_left 27 = .ok (.getfield 28, 3) := by decide +kernel
theorem dX8_left_30 : decode cX8_left 30 = .ok (.iload_n 1, 1) := by decide +kernel
theorem dX8_left_31 : decode cX8_left 31 = .ok (.invokevirtual 220, 3) := by decide +kernel
theorem dX8_left_34 : decode cX8_left 34 = .ok (.istore_n 3, 1) := by decide +kernel
theorem dX8_left_35 : decode cX8_left 35 = .ok (.iload_n 2, 1) := by decide +kernel
theorem dX8_left_36 : decode cX8_left 36 = .ok (.ifCond .ne 7, 3) := by decide +kernel
theorem dX8_left_39 : decode cX8_left 39 = .ok (.iload_n 3, 1) := by decide +kernel
theorem dX8_left_40 : decode cX8_left 40 = .ok (.goto 12, 3) := by decide +kernel
theorem dX8_left_43 : decode cX8_left 43 = .ok (.aload_n 0, 1) := by decide +kernel
theorem dX8_left_44 : decode cX8_left 44 = .ok (.getfield 28, 3) := by decide +kernel
theorem dX8_left_47 : decode cX8_left 47 = .ok (.iload_n 1, 1) := by decide +kernel
theorem dX8_left_48 : decode cX8_left 48 = .ok (.iload_n 3, 1) := by decide +kernel
theorem dX8_left_49 : decode cX8_left 49 = .ok (.invokevirtual 223, 3) := by decide +kernel
theorem dX8_left_52 : decode cX8_left 52 = .ok (.ireturn, 1) := by decide +kernel
theorem dX8_behind_0 : decode cX8_behind 0 = .ok (.aload_n 0, 1) := by decide +kernel
theorem dX8_behind_1 : decode cX8_behind 1 = .ok (.getfield 19, 3) := by decide +kernel
theorem dX8_behind_4 : decode cX8_behind 4 = .ok (.iload_n 1, 1) := by decide +kernel
theorem dX8_behind_5 : decode cX8_behind 5 = .ok (.invokevirtual 163, 3) := by decide +kernel
theorem dX8_behind_8 : decode cX8_behind 8 = .ok (.ifCond .ne 6, 3) := by decide +kernel
theorem dX8_behind_11 : decode cX8_behind 11 = .ok (.ldc 142, 2) := by decide +kernel
theorem dX8_behind_13 : decode cX8_behind 13 = .ok (.ireturn, 1) := by decide +kernel
theorem dX8_behind_14 : decode cX8_behind 14 = .ok (.iload_n 2, 1) := by decide +kernel
theorem dX8_behind_15 : decode cX8_behind 15 = .ok (.ifCond .lt 18, 3) := by decide +kernel
theorem dX8_behind_18 : decode cX8_behind 18 = .ok (.iload_n 2, 1) := by decide +kernel
theorem dX8_behind_19 : decode cX8_behind 19 = .ok (.bipush 60, 2) := by decide +kernel
theorem dX8_behind_21 : decode cX8_behind 21 = .ok (.if_icmp .gt 12, 3) := by decide +kernel
theorem dX8_behind_24 : decode cX8_behind 24 = .ok (.iload_n 3, 1) := by decide +kernel
theorem dX8_behind_25 : decode cX8_behind 25 = .ok (.ifCond .lt 8, 3) := by decide +kernel
theorem dX8_behind_28 : decode cX8_behind 28 = .ok (.iload_n 3, 1) := by decide +kernel
theorem dX8_behind_29 : decode cX8_behind 29 = .ok (.iconst 2, 1) := by decide +kernel
theorem dX8_behind_30 : decode cX8_behind 30 = .ok (.if_icmp .le 6, 3) := by decide +kernel
theorem dX8_behind_33 : decode cX8_behind 33 = .ok (.ldc 70, 2) := by decide +kernel
theorem dX8_behind_35 : decode cX8_behind 35 = .ok (.ireturn, 1) := by decide +kernel
theorem dX8_behind_36 : decode cX8_behind 36 = .ok (.aload_n 0, 1) := by decide +kernel
theorem dX8_behind_37 : decode cX8_behind 37 = .ok (.getfield 32, 3) := by decide +kernel
theorem dX8_behind_40 : decode cX8_behind 40 = .ok (.aload_n 0, 1) := by decide +kernel
theorem dX8_behind_41 : decode cX8_behind 41 = .ok (.getfield 28, 3) := by decide +kernel
theorem dX8_behind_44 : decode cX8_behind 44 = .ok (.invokevirtual 226, 3) := by decide +kernel
theorem dX8_behind_47 : decode cX8_behind 47 = .ok (.aload_n 0, 1) := by decide +kernel
theorem dX8_behind_48 : decode cX8_behind 48 = .ok (.getfield 32, 3) := by decide +kernel
theorem dX8_behind_51 : decode cX8_behind 51 = .ok (.iload_n 2, 1) := by decide +kernel
theorem dX8_behind_52 : decode cX8_behind 52 = .ok (.invokevirtual 207, 3) := by decide +kernel
theorem dX8_behind_55 : decode cX8_behind 55 = .ok (.iload_n 3, 1) := by decide +kernel
theorem dX8_behind_56 : decode cX8_behind 56 = .ok (.ifCond .ne 12, 3) := by decide +kernel
theorem dX8_behind_59 : decode cX8_behind 59 = .ok (.aload_n 0, 1) := by decide +kernel
theorem dX8_behind_60 : decode cX8_behind 60 = .ok (.getfield 32, 3) := by decide +kernel
theorem dX8_behind_63 : decode cX8_behind 63 = .ok (.iload_n 1, 1) := by decide +kernel
theorem dX8_behind_64 : decode cX8_behind 64 = .ok (.invokevirtual 229, 3) := by decide +kernel
theorem dX8_behind_67 : decode cX8_behind 67 = .ok (.ireturn, 1) := by decide +kernel
theorem dX8_behind_68 : decode cX8_behind 68 = .ok (.iload_n 3, 1) := by decide +kernel
theorem dX8_behind_69 : decode cX8_behind 69 = .ok (.iconst 1, 1) := by decide +kernel
theorem dX8_behind_70 : decode cX8_behind 70 = .ok (.if_icmp .ne 14, 3) := by decide +kernel
theorem dX8_behind_73 : decode cX8_behind 73 = .ok (.aload_n 0, 1) := by decide +kernel
theorem dX8_behind_74 : decode cX8_behind 74 = .ok (.getfield 32, 3) := by decide +kernel
theorem dX8_behind_77 : decode cX8_behind 77 = .ok (.iload_n 1, 1) := by decide +kernel
theorem dX8_behind_78 : decode cX8_behind 78 = .ok (.invokevirtual 188, 3) := by decide +kernel
theorem dX8_behind_81 : decode cX8_behind 81 = .ok (.goto 15, 3) := by decide +kernel
theorem dX8_behind_84 : decode cX8_behind 84 = .ok (.aload_n 0, 1) := by decide +kernel
theorem dX8_behind_85 : decode cX8_behind 85 = .ok (.getfield 32, 3) := by decide +kernel
theorem dX8_behind_88 : decode cX8_behind 88 = .ok (.getfield 184, 3) := by decide +kernel
theorem dX8_behind_91 : decode cX8_behind 91 = .ok (.iload_n 1, 1) := by decide +kernel
theorem dX8_behind_92 : decode cX8_behind 92 = .ok (.iaload, 1) := by decide +kernel
theorem dX8_behind_93 : decode cX8_behind 93 = .ok (.ldc 187, 2) := by decide +kernel
theorem dX8_behind_95 : decode cX8_behind 95 = .ok (.iadd, 1) := by decide +kernel
theorem dX8_behind_96 : decode cX8_behind 96 = .ok (.ireturn, 1) := by decide +kernel
theorem dX8_comes_0 : decode cX8_comes 0 = .ok (.aload_n 0, 1) := by decide +kernel
theorem dX8_comes_1 : decode cX8_comes 1 = .ok (.getfield 19, 3) := by decide +kernel
theorem dX8_comes_4 : decode cX8_comes 4 = .ok (.iload_n 1, 1) := by decide +kernel
theorem dX8_comes_5 : decode cX8_comes 5 = .ok (.invokevirtual 163, 3) := by decide +kernel
theorem dX8_comes_8 : decode cX8_comes 8 = .ok (.ifCond .ne 6, 3) := by decide +kernel
theorem dX8_comes_11 : decode cX8_comes 11 = .ok (.ldc 142, 2) := by decide +kernel
theorem dX8_comes_13 : decode cX8_comes 13 = .ok (.ireturn, 1) := by decide +kernel
theorem dX8_comes_14 : decode cX8_comes 14 = .ok (.aload_n 0, 1) := by decide +kernel
theorem dX8_comes_15 : decode cX8_comes 15 = .ok (.getfield 32, 3) := by decide +kernel
theorem dX8_comes_18 : decode cX8_comes 18 = .ok (.aload_n 0, 1) := by decide +kernel
theorem dX8_comes_19 : decode cX8_comes 19 = .ok (.getfield 28, 3) := by decide +kernel
theorem dX8_comes_22 : decode cX8_comes 22 = .ok (.invokevirtual 226, 3) := by decide +kernel
theorem dX8_comes_25 : decode cX8_comes 25 = .ok (.iconst 0, 1) := by decide +kernel
theorem dX8_comes_26 : decode cX8_comes 26 = .ok (.istore_n 2, 1) := by decide +kernel
theorem dX8_comes_27 : decode cX8_comes 27 = .ok (.iload_n 2, 1) := by decide +kernel
theorem dX8_comes_28 : decode cX8_comes 28 = .ok (.bipush 60, 2) := by decide +kernel
theorem dX8_comes_30 : decode cX8_comes 30 = .ok (.if_icmp .gt 40, 3) := by decide +kernel
theorem dX8_comes_33 : decode cX8_comes 33 = .ok (.aload_n 0, 1) := by decide +kernel
theorem dX8_comes_34 : decode cX8_comes 34 = .ok (.getfield 32, 3) := by decide +kernel
theorem dX8_comes_37 : decode cX8_comes 37 = .ok (.getfield 169, 3) := by decide +kernel
theorem dX8_comes_40 : decode cX8_comes 40 = .ok (.iload_n 1, 1) := by decide +kernel
theorem dX8_comes_41 : decode cX8_comes 41 = .ok (.iaload, 1) := by decide +kernel
theorem dX8_comes_42 : decode cX8_comes 42 = .ok (.aload_n 0, 1) := by decide +kernel
theorem dX8_comes_43 : decode cX8_comes 43 = .ok (.getfield 19, 3) := by decide +kernel
theorem dX8_comes_46 : decode cX8_comes 46 = .ok (.getfield 178, 3) := by decide +kernel
theorem dX8_comes_49 : decode cX8_comes 49 = .ok (.iload_n 1, 1) := by decide +kernel
theorem dX8_comes_50 : decode cX8_comes 50 = .ok (.iaload, 1) := by decide +kernel
theorem dX8_comes_51 : decode cX8_comes 51 = .ok (.if_icmp .ne 5, 3) := by decide +kernel
theorem dX8_comes_54 : decode cX8_comes 54 = .ok (.iload_n 2, 1) := by decide +kernel
theorem dX8_comes_55 : decode cX8_comes 55 = .ok (.ireturn, 1) := by decide +kernel
theorem dX8_comes_56 : decode cX8_comes 56 = .ok (.aload_n 0, 1) := by decide +kernel
theorem dX8_comes_57 : decode cX8_comes 57 = .ok (.getfield 32, 3) := by decide +kernel
theorem dX8_comes_60 : decode cX8_comes 60 = .ok (.iconst 1, 1) := by decide +kernel
theorem dX8_comes_61 : decode cX8_comes 61 = .ok (.invokevirtual 207, 3) := by decide +kernel
theorem dX8_comes_64 : decode cX8_comes 64 = .ok (.iinc 2 1, 3) := by decide +kernel
theorem dX8_comes_67 : decode cX8_comes 67 = .ok (.goto (-40), 3) := by decide +kernel
theorem dX8_comes_70 : decode cX8_comes 70 = .ok (.iconst (-1), 1) := by decide +kernel
theorem dX8_comes_71 : decode cX8_comes 71 = .ok (.ireturn, 1) := by decide +kernel
theorem dX8_leastWait_0 : decode cX8_leastWait 0 = .ok (.aload_n 0, 1) := by decide +kernel
theorem dX8_leastWait_1 : decode cX8_leastWait 1 = .ok (.getfield 19, 3) := by decide +kernel
theorem dX8_leastWait_4 : decode cX8_leastWait 4 = .ok (.iload_n 1, 1) := by decide +kernel
theorem dX8_leastWait_5 : decode cX8_leastWait 5 = .ok (.invokevirtual 138, 3) := by decide +kernel
theorem dX8_leastWait_8 : decode cX8_leastWait 8 = .ok (.ifCond .ne 6, 3) := by decide +kernel
theorem dX8_leastWait_11 : decode cX8_leastWait 11 = .ok (.ldc 142, 2) := by decide +kernel
theorem dX8_leastWait_13 : decode cX8_leastWait 13 = .ok (.ireturn, 1) := by decide +kernel
theorem dX8_leastWait_14 : decode cX8_leastWait 14 = .ok (.aload_n 0, 1) := by decide +kernel
theorem dX8_leastWait_15 : decode cX8_leastWait 15 = .ok (.getfield 28, 3) := by decide +kernel
theorem dX8_leastWait_18 : decode cX8_leastWait 18 = .ok (.iload_n 1, 1) := by decide +kernel
theorem dX8_leastWait_19 : decode cX8_leastWait 19 = .ok (.invokevirtual 232, 3) := by decide +kernel
theorem dX8_leastWait_22 : decode cX8_leastWait 22 = .ok (.ireturn, 1) := by decide +kernel
theorem dX8_lights_0 : decode cX8_lights 0 = .ok (.iload_n 1, 1) := by decide +kernel
theorem dX8_lights_1 : decode cX8_lights 1 = .ok (.iconst 1, 1) := by decide +kernel
theorem dX8_lights_2 : decode cX8_lights 2 = .ok (.if_icmp .lt 9, 3) := by decide +kernel
theorem dX8_lights_5 : decode cX8_lights 5 = .ok (.iload_n 1, 1) := by decide +kernel
theorem dX8_lights_6 : decode cX8_lights 6 = .ok (.bipush 20, 2) := by decide +kernel
theorem dX8_lights_8 : decode cX8_lights 8 = .ok (.if_icmp .le 6, 3) := by decide +kernel
theorem dX8_lights_11 : decode cX8_lights 11 = .ok (.ldc 70, 2) := by decide +kernel
theorem dX8_lights_13 : decode cX8_lights 13 = .ok (.ireturn, 1) := by decide +kernel
theorem dX8_lights_14 : decode cX8_lights 14 = .ok (.aload_n 0, 1) := by decide +kernel
theorem dX8_lights_15 : decode cX8_lights 15 = .ok (.getfield 19, 3) := by decide +kernel
theorem dX8_lights_18 : decode cX8_lights 18 = .ok (.getfield 108, 3) := by decide +kernel
theorem dX8_lights_21 : decode cX8_lights 21 = .ok (.ifCond .ne 6, 3) := by decide +kernel
theorem dX8_lights_24 : decode cX8_lights 24 = .ok (.ldc 210, 2) := by decide +kernel
theorem dX8_lights_26 : decode cX8_lights 26 = .ok (.ireturn, 1) := by decide +kernel
theorem dX8_lights_27 : decode cX8_lights 27 = .ok (.aload_n 0, 1) := by decide +kernel
theorem dX8_lights_28 : decode cX8_lights 28 = .ok (.getfield 32, 3) := by decide +kernel
theorem dX8_lights_31 : decode cX8_lights 31 = .ok (.aload_n 0, 1) := by decide +kernel
theorem dX8_lights_32 : decode cX8_lights 32 = .ok (.getfield 28, 3) := by decide +kernel
theorem dX8_lights_35 : decode cX8_lights 35 = .ok (.invokevirtual 226, 3) := by decide +kernel
theorem dX8_lights_38 : decode cX8_lights 38 = .ok (.aload_n 0, 1) := by decide +kernel
theorem dX8_lights_39 : decode cX8_lights 39 = .ok (.getfield 32, 3) := by decide +kernel
theorem dX8_lights_42 : decode cX8_lights 42 = .ok (.iconst 0, 1) := by decide +kernel
theorem dX8_lights_43 : decode cX8_lights 43 = .ok (.putfield 111, 3) := by decide +kernel
theorem dX8_lights_46 : decode cX8_lights 46 = .ok (.iconst 0, 1) := by decide +kernel
theorem dX8_lights_47 : decode cX8_lights 47 = .ok (.istore_n 2, 1) := by decide +kernel
theorem dX8_lights_48 : decode cX8_lights 48 = .ok (.iload_n 2, 1) := by decide +kernel
theorem dX8_lights_49 : decode cX8_lights 49 = .ok (.iload_n 1, 1) := by decide +kernel
theorem dX8_lights_50 : decode cX8_lights 50 = .ok (.if_icmp .ge 75, 3) := by decide +kernel
theorem dX8_lights_53 : decode cX8_lights 53 = .ok (.iconst 0, 1) := by decide +kernel
theorem dX8_lights_54 : decode cX8_lights 54 = .ok (.istore_n 3, 1) := by decide +kernel
theorem dX8_lights_55 : decode cX8_lights 55 = .ok (.iload_n 3, 1) := by decide +kernel
theorem dX8_lights_56 : decode cX8_lights 56 = .ok (.aload_n 0, 1) := by decide +kernel
theorem dX8_lights_57 : decode cX8_lights 57 = .ok (.getfield 19, 3) := by decide +kernel
theorem dX8_lights_60 : decode cX8_lights 60 = .ok (.getfield 114, 3) := by decide +kernel
theorem dX8_lights_63 : decode cX8_lights 63 = .ok (.if_icmp .ge 56, 3) := by decide +kernel
theorem dX8_lights_66 : decode cX8_lights 66 = .ok (.aload_n 0, 1) := by decide +kernel
theorem dX8_lights_67 : decode cX8_lights 67 = .ok (.getfield 32, 3) := by decide +kernel
theorem dX8_lights_70 : decode cX8_lights 70 = .ok (.iload_n 3, 1) := by decide +kernel
theorem dX8_lights_71 : decode cX8_lights 71 = .ok (.invokevirtual 220, 3) := by decide +kernel
theorem dX8_lights_74 : decode cX8_lights 74 = .ok (.ifCond .eq 26, 3) := by decide +kernel
theorem dX8_lights_77 : decode cX8_lights 77 = .ok (.aload_n 0, 1) := by decide +kernel
theorem dX8_lights_78 : decode cX8_lights 78 = .ok (.getfield 32, 3) := by decide +kernel
theorem dX8_lights_81 : decode cX8_lights 81 = .ok (.dup, 1) := by decide +kernel
theorem dX8_lights_82 : decode cX8_lights 82 = .ok (.getfield 111, 3) := by decide +kernel
theorem dX8_lights_85 : decode cX8_lights 85 = .ok (.iconst 1, 1) := by decide +kernel
theorem dX8_lights_86 : decode cX8_lights 86 = .ok (.aload_n 0, 1) := by decide +kernel
theorem dX8_lights_87 : decode cX8_lights 87 = .ok (.getfield 32, 3) := by decide +kernel
theorem dX8_lights_90 : decode cX8_lights 90 = .ok (.getfield 143, 3) := by decide +kernel
theorem dX8_lights_93 : decode cX8_lights 93 = .ok (.iload_n 3, 1) := by decide +kernel
theorem dX8_lights_94 : decode cX8_lights 94 = .ok (.iaload, 1) := by decide +kernel
theorem dX8_lights_95 : decode cX8_lights 95 = .ok (.ishl, 1) := by decide +kernel
theorem dX8_lights_96 : decode cX8_lights 96 = .ok (.ior, 1) := by decide +kernel
theorem dX8_lights_97 : decode cX8_lights 97 = .ok (.putfield 111, 3) := by decide +kernel
theorem dX8_lights_100 : decode cX8_lights 100 = .ok (.aload_n 0, 1) := by decide +kernel
theorem dX8_lights_101 : decode cX8_lights 101 = .ok (.getfield 32, 3) := by decide +kernel
theorem dX8_lights_104 : decode cX8_lights 104 = .ok (.iload_n 3, 1) := by decide +kernel
theorem dX8_lights_105 : decode cX8_lights 105 = .ok (.invokevirtual 201, 3) := by decide +kernel
theorem dX8_lights_108 : decode cX8_lights 108 = .ok (.ifCond .eq 5, 3) := by decide +kernel
theorem dX8_lights_111 : decode cX8_lights 111 = .ok (.iconst (-1), 1) := by decide +kernel
theorem dX8_lights_112 : decode cX8_lights 112 = .ok (.ireturn, 1) := by decide +kernel
theorem dX8_lights_113 : decode cX8_lights 113 = .ok (.iinc 3 1, 3) := by decide +kernel
theorem dX8_lights_116 : decode cX8_lights 116 = .ok (.goto (-61), 3) := by decide +kernel
theorem dX8_lights_119 : decode cX8_lights 119 = .ok (.iinc 2 1, 3) := by decide +kernel
theorem dX8_lights_122 : decode cX8_lights 122 = .ok (.goto (-74), 3) := by decide +kernel
theorem dX8_lights_125 : decode cX8_lights 125 = .ok (.aload_n 0, 1) := by decide +kernel
theorem dX8_lights_126 : decode cX8_lights 126 = .ok (.getfield 32, 3) := by decide +kernel
theorem dX8_lights_129 : decode cX8_lights 129 = .ok (.getfield 111, 3) := by decide +kernel
theorem dX8_lights_132 : decode cX8_lights 132 = .ok (.ireturn, 1) := by decide +kernel
theorem dX8_scheme_0 : decode cX8_scheme 0 = .ok (.aload_n 0, 1) := by decide +kernel
theorem dX8_scheme_1 : decode cX8_scheme 1 = .ok (.getfield 19, 3) := by decide +kernel
theorem dX8_scheme_4 : decode cX8_scheme 4 = .ok (.iload_n 1, 1) := by decide +kernel
theorem dX8_scheme_5 : decode cX8_scheme 5 = .ok (.invokevirtual 163, 3) := by decide +kernel
theorem dX8_scheme_8 : decode cX8_scheme 8 = .ok (.ifCond .ne 6, 3) := by decide +kernel
theorem dX8_scheme_11 : decode cX8_scheme 11 = .ok (.ldc 142, 2) := by decide +kernel
theorem dX8_scheme_13 : decode cX8_scheme 13 = .ok (.ireturn, 1) := by decide +kernel
theorem dX8_scheme_14 : decode cX8_scheme 14 = .ok (.iload_n 2, 1) := by decide +kernel
theorem dX8_scheme_15 : decode cX8_scheme 15 = .ok (.iconst 1, 1) := by decide +kernel
theorem dX8_scheme_16 : decode cX8_scheme 16 = .ok (.if_icmp .lt 18, 3) := by decide +kernel
theorem dX8_scheme_19 : decode cX8_scheme 19 = .ok (.iload_n 2, 1) := by decide +kernel
theorem dX8_scheme_20 : decode cX8_scheme 20 = .ok (.bipush 20, 2) := by decide +kernel
theorem dX8_scheme_22 : decode cX8_scheme 22 = .ok (.if_icmp .gt 12, 3) := by decide +kernel
theorem dX8_scheme_25 : decode cX8_scheme 25 = .ok (.iload_n 3, 1) := by decide +kernel
theorem dX8_scheme_26 : decode cX8_scheme 26 = .ok (.ifCond .lt 8, 3) := by decide +kernel
theorem dX8_scheme_29 : decode cX8_scheme 29 = .ok (.iload_n 3, 1) := by decide +kernel
theorem dX8_scheme_30 : decode cX8_scheme 30 = .ok (.iconst 1, 1) := by decide +kernel
theorem dX8_scheme_31 : decode cX8_scheme 31 = .ok (.if_icmp .le 6, 3) := by decide +kernel
theorem dX8_scheme_34 : decode cX8_scheme 34 = .ok (.ldc 70, 2) := by decide +kernel
theorem dX8_scheme_36 : decode cX8_scheme 36 = .ok (.ireturn, 1) := by decide +kernel
theorem dX8_scheme_37 : decode cX8_scheme 37 = .ok (.iconst (-1), 1) := by decide +kernel
theorem dX8_scheme_38 : decode cX8_scheme 38 = .ok (.istore 4, 2) := by decide +kernel
theorem dX8_scheme_40 : decode cX8_scheme 40 = .ok (.iconst 0, 1) := by decide +kernel
theorem dX8_scheme_41 : decode cX8_scheme 41 = .ok (.istore 5, 2) := by decide +kernel
theorem dX8_scheme_43 : decode cX8_scheme 43 = .ok (.iconst 0, 1) := by decide +kernel
theorem dX8_scheme_44 : decode cX8_scheme 44 = .ok (.istore 6, 2) := by decide +kernel
theorem dX8_scheme_46 : decode cX8_scheme 46 = .ok (.iconst 0, 1) := by decide +kernel
theorem dX8_scheme_47 : decode cX8_scheme 47 = .ok (.istore 7, 2) := by decide +kernel
theorem dX8_scheme_49 : decode cX8_scheme 49 = .ok (.iload 7, 2) := by decide +kernel
theorem dX8_scheme_51 : decode cX8_scheme 51 = .ok (.bipush 30, 2) := by decide +kernel
theorem dX8_scheme_53 : decode cX8_scheme 53 = .ok (.if_icmp .gt 102, 3) := by decide +kernel
theorem dX8_scheme_56 : decode cX8_scheme 56 = .ok (.aload_n 0, 1) := by decide +kernel
theorem dX8_scheme_57 : decode cX8_scheme 57 = .ok (.getfield 32, 3) := by decide +kernel
theorem dX8_scheme_60 : decode cX8_scheme 60 = .ok (.aload_n 0, 1) := by decide +kernel
theorem dX8_scheme_61 : decode cX8_scheme 61 = .ok (.getfield 28, 3) := by decide +kernel
theorem dX8_scheme_64 : decode cX8_scheme 64 = .ok (.invokevirtual 226, 3) := by decide +kernel
theorem dX8_scheme_67 : decode cX8_scheme 67 = .ok (.aload_n 0, 1) := by decide +kernel
theorem dX8_scheme_68 : decode cX8_scheme 68 = .ok (.getfield 32, 3) := by decide +kernel
theorem dX8_scheme_71 : decode cX8_scheme 71 = .ok (.getfield 175, 3) := by decide +kernel
theorem dX8_scheme_74 : decode cX8_scheme 74 = .ok (.iload_n 1, 1) := by decide +kernel
theorem dX8_scheme_75 : decode cX8_scheme 75 = .ok (.iload 7, 2) := by decide +kernel
theorem dX8_scheme_77 : decode cX8_scheme 77 = .ok (.iastore, 1) := by decide +kernel
theorem dX8_scheme_78 : decode cX8_scheme 78 = .ok (.aload_n 0, 1) := by decide +kernel
theorem dX8_scheme_79 : decode cX8_scheme 79 = .ok (.getfield 32, 3) := by decide +kernel
theorem dX8_scheme_82 : decode cX8_scheme 82 = .ok (.iload_n 2, 1) := by decide +kernel
theorem dX8_scheme_83 : decode cX8_scheme 83 = .ok (.invokevirtual 207, 3) := by decide +kernel
theorem dX8_scheme_86 : decode cX8_scheme 86 = .ok (.aload_n 0, 1) := by decide +kernel
theorem dX8_scheme_87 : decode cX8_scheme 87 = .ok (.getfield 32, 3) := by decide +kernel
theorem dX8_scheme_90 : decode cX8_scheme 90 = .ok (.iload_n 1, 1) := by decide +kernel
theorem dX8_scheme_91 : decode cX8_scheme 91 = .ok (.invokevirtual 188, 3) := by decide +kernel
theorem dX8_scheme_94 : decode cX8_scheme 94 = .ok (.invokestatic 235, 3) := by decide +kernel
theorem dX8_scheme_97 : decode cX8_scheme 97 = .ok (.istore 8, 2) := by decide +kernel
theorem dX8_scheme_99 : decode cX8_scheme 99 = .ok (.aload_n 0, 1) := by decide +kernel
theorem dX8_scheme_100 : decode cX8_scheme 100 = .ok (.getfield 32, 3) := by decide +kernel
theorem dX8_scheme_103 : decode cX8_scheme 103 = .ok (.getfield 184, 3) := by decide +kernel
theorem dX8_scheme_106 : decode cX8_scheme 106 = .ok (.iload_n 1, 1) := by decide +kernel
theorem dX8_scheme_107 : decode cX8_scheme 107 = .ok (.iaload, 1) := by decide +kernel
theorem dX8_scheme_108 : decode cX8_scheme 108 = .ok (.istore 9, 2) := by decide +kernel
theorem dX8_scheme_110 : decode cX8_scheme 110 = .ok (.iload 4, 2) := by decide +kernel
theorem dX8_scheme_112 : decode cX8_scheme 112 = .ok (.iconst (-1), 1) := by decide +kernel
theorem dX8_scheme_113 : decode cX8_scheme 113 = .ok (.if_icmp .eq 24, 3) := by decide +kernel
theorem dX8_scheme_116 : decode cX8_scheme 116 = .ok (.iload 8, 2) := by decide +kernel
theorem dX8_scheme_118 : decode cX8_scheme 118 = .ok (.iload 5, 2) := by decide +kernel
theorem dX8_scheme_120 : decode cX8_scheme 120 = .ok (.if_icmp .gt 17, 3) := by decide +kernel
theorem dX8_scheme_123 : decode cX8_scheme 123 = .ok (.iload 8, 2) := by decide +kernel
theorem dX8_scheme_125 : decode cX8_scheme 125 = .ok (.iload 5, 2) := by decide +kernel
theorem dX8_scheme_127 : decode cX8_scheme 127 = .ok (.if_icmp .ne 22, 3) := by decide +kernel
theorem dX8_scheme_130 : decode cX8_scheme 130 = .ok (.iload 9, 2) := by decide +kernel
theorem dX8_scheme_132 : decode cX8_scheme 132 = .ok (.iload 6, 2) := by decide +kernel
theorem dX8_scheme_134 : decode cX8_scheme 134 = .ok (.if_icmp .le 15, 3) := by decide +kernel
theorem dX8_scheme_137 : decode cX8_scheme 137 = .ok (.iload 7, 2) := by decide +kernel
theorem dX8_scheme_139 : decode cX8_scheme 139 = .ok (.istore 4, 2) := by decide +kernel
theorem dX8_scheme_141 : decode cX8_scheme 141 = .ok (.iload 8, 2) := by decide +kernel
theorem dX8_scheme_143 : decode cX8_scheme 143 = .ok (.istore 5, 2) := by decide +kernel
theorem dX8_scheme_145 : decode cX8_scheme 145 = .ok (.iload 9, 2) := by decide +kernel
theorem dX8_scheme_147 : decode cX8_scheme 147 = .ok (.istore 6, 2) := by decide +kernel
theorem dX8_scheme_149 : decode cX8_scheme 149 = .ok (.iinc 7 1, 3) := by decide +kernel
theorem dX8_scheme_152 : decode cX8_scheme 152 = .ok (.goto (-103), 3) := by decide +kernel
theorem dX8_scheme_155 : decode cX8_scheme 155 = .ok (.iload_n 3, 1) := by decide +kernel
theorem dX8_scheme_156 : decode cX8_scheme 156 = .ok (.ifCond .ne 8, 3) := by decide +kernel
theorem dX8_scheme_159 : decode cX8_scheme 159 = .ok (.iload 4, 2) := by decide +kernel
theorem dX8_scheme_161 : decode cX8_scheme 161 = .ok (.goto 5, 3) := by decide +kernel
theorem dX8_scheme_164 : decode cX8_scheme 164 = .ok (.iload 5, 2) := by decide +kernel
theorem dX8_scheme_166 : decode cX8_scheme 166 = .ok (.ireturn, 1) := by decide +kernel
theorem dX8_clear_0 : decode cX8_clear 0 = .ok (.iload_n 1, 1) := by decide +kernel
theorem dX8_clear_1 : decode cX8_clear 1 = .ok (.ifCond .lt 19, 3) := by decide +kernel
theorem dX8_clear_4 : decode cX8_clear 4 = .ok (.iload_n 1, 1) := by decide +kernel
theorem dX8_clear_5 : decode cX8_clear 5 = .ok (.bipush 60, 2) := by decide +kernel
theorem dX8_clear_7 : decode cX8_clear 7 = .ok (.if_icmp .gt 13, 3) := by decide +kernel
theorem dX8_clear_10 : decode cX8_clear 10 = .ok (.iload_n 2, 1) := by decide +kernel
theorem dX8_clear_11 : decode cX8_clear 11 = .ok (.ifCond .lt 9, 3) := by decide +kernel
theorem dX8_clear_14 : decode cX8_clear 14 = .ok (.iload_n 2, 1) := by decide +kernel
theorem dX8_clear_15 : decode cX8_clear 15 = .ok (.bipush 100, 2) := by decide +kernel
theorem dX8_clear_17 : decode cX8_clear 17 = .ok (.if_icmp .le 6, 3) := by decide +kernel
theorem dX8_clear_20 : decode cX8_clear 20 = .ok (.ldc 70, 2) := by decide +kernel
theorem dX8_clear_22 : decode cX8_clear 22 = .ok (.ireturn, 1) := by decide +kernel
theorem dX8_clear_23 : decode cX8_clear 23 = .ok (.ldc2_w 240, 3) := by decide +kernel
theorem dX8_clear_26 : decode cX8_clear 26 = .ok (.lstore_n 3, 1) := by decide +kernel
theorem dX8_clear_27 : decode cX8_clear 27 = .ok (.iconst 0, 1) := by decide +kernel
theorem dX8_clear_28 : decode cX8_clear 28 = .ok (.istore 5, 2) := by decide +kernel
theorem dX8_clear_30 : decode cX8_clear 30 = .ok (.iload 5, 2) := by decide +kernel
theorem dX8_clear_32 : decode cX8_clear 32 = .ok (.iload_n 1, 1) := by decide +kernel
theorem dX8_clear_33 : decode cX8_clear 33 = .ok (.if_icmp .ge 18, 3) := by decide +kernel
theorem dX8_clear_36 : decode cX8_clear 36 = .ok (.lload_n 3, 1) := by decide +kernel
theorem dX8_clear_37 : decode cX8_clear 37 = .ok (.iload_n 2, 1) := by decide +kernel
theorem dX8_clear_38 : decode cX8_clear 38 = .ok (.i2l, 1) := by decide +kernel
theorem dX8_clear_39 : decode cX8_clear 39 = .ok (.lmul, 1) := by decide +kernel
theorem dX8_clear_40 : decode cX8_clear 40 = .ok (.ldc2_w 242, 3) := by decide +kernel
theorem dX8_clear_43 : decode cX8_clear 43 = .ok (.ldiv, 1) := by decide +kernel
theorem dX8_clear_44 : decode cX8_clear 44 = .ok (.lstore_n 3, 1) := by decide +kernel
theorem dX8_clear_45 : decode cX8_clear 45 = .ok (.iinc 5 1, 3) := by decide +kernel
theorem dX8_clear_48 : decode cX8_clear 48 = .ok (.goto (-18), 3) := by decide +kernel
theorem dX8_clear_51 : decode cX8_clear 51 = .ok (.lload_n 3, 1) := by decide +kernel
theorem dX8_clear_52 : decode cX8_clear 52 = .ok (.l2i, 1) := by decide +kernel
theorem dX8_clear_53 : decode cX8_clear 53 = .ok (.ireturn, 1) := by decide +kernel
theorem dX8_see_0 : decode cX8_see 0 = .ok (.iload_n 1, 1) := by decide +kernel
theorem dX8_see_1 : decode cX8_see 1 = .ok (.ifCond .lt 27, 3) := by decide +kernel
theorem dX8_see_4 : decode cX8_see 4 = .ok (.iload_n 1, 1) := by decide +kernel
theorem dX8_see_5 : decode cX8_see 5 = .ok (.iconst 3, 1) := by decide +kernel
theorem dX8_see_6 : decode cX8_see 6 = .ok (.if_icmp .gt 22, 3) := by decide +kernel
theorem dX8_see_9 : decode cX8_see 9 = .ok (.iload_n 2, 1) := by decide +kernel
theorem dX8_see_10 : decode cX8_see 10 = .ok (.ifCond .lt 18, 3) := by decide +kernel
theorem dX8_see_13 : decode cX8_see 13 = .ok (.iload_n 2, 1) := by decide +kernel
theorem dX8_see_14 : decode cX8_see 14 = .ok (.iconst 3, 1) := by decide +kernel
theorem dX8_see_15 : decode cX8_see 15 = .ok (.if_icmp .ge 13, 3) := by decide +kernel
theorem dX8_see_18 : decode cX8_see 18 = .ok (.iload_n 3, 1) := by decide +kernel
theorem dX8_see_19 : decode cX8_see 19 = .ok (.ifCond .lt 9, 3) := by decide +kernel
theorem dX8_see_22 : decode cX8_see 22 = .ok (.iload_n 3, 1) := by decide +kernel
theorem dX8_see_23 : decode cX8_see 23 = .ok (.bipush 40, 2) := by decide +kernel
theorem dX8_see_25 : decode cX8_see 25 = .ok (.if_icmp .le 6, 3) := by decide +kernel
theorem dX8_see_28 : decode cX8_see 28 = .ok (.ldc 70, 2) := by decide +kernel
theorem dX8_see_30 : decode cX8_see 30 = .ok (.ireturn, 1) := by decide +kernel
theorem dX8_see_31 : decode cX8_see 31 = .ok (.aload_n 0, 1) := by decide +kernel
theorem dX8_see_32 : decode cX8_see 32 = .ok (.getfield 51, 3) := by decide +kernel
theorem dX8_see_35 : decode cX8_see 35 = .ok (.getfield 103, 3) := by decide +kernel
theorem dX8_see_38 : decode cX8_see 38 = .ok (.bipush 6, 2) := by decide +kernel
theorem dX8_see_40 : decode cX8_see 40 = .ok (.if_icmp .lt 6, 3) := by decide +kernel
theorem dX8_see_43 : decode cX8_see 43 = .ok (.ldc 74, 2) := by decide +kernel
theorem dX8_see_45 : decode cX8_see 45 = .ok (.ireturn, 1) := by decide +kernel
theorem dX8_see_46 : decode cX8_see 46 = .ok (.aload_n 0, 1) := by decide +kernel
theorem dX8_see_47 : decode cX8_see 47 = .ok (.getfield 51, 3) := by decide +kernel
theorem dX8_see_50 : decode cX8_see 50 = .ok (.iload_n 1, 1) := by decide +kernel
theorem dX8_see_51 : decode cX8_see 51 = .ok (.iload_n 2, 1) := by decide +kernel
theorem dX8_see_52 : decode cX8_see 52 = .ok (.iload_n 3, 1) := by decide +kernel
theorem dX8_see_53 : decode cX8_see 53 = .ok (.iload 4, 2) := by decide +kernel
theorem dX8_see_55 : decode cX8_see 55 = .ok (.invokevirtual 244, 3) := by decide +kernel
theorem dX8_see_58 : decode cX8_see 58 = .ok (.aload_n 0, 1) := by decide +kernel
theorem dX8_see_59 : decode cX8_see 59 = .ok (.getfield 51, 3) := by decide +kernel
theorem dX8_see_62 : decode cX8_see 62 = .ok (.getfield 103, 3) := by decide +kernel
theorem dX8_see_65 : decode cX8_see 65 = .ok (.ireturn, 1) := by decide +kernel
theorem dX8_truly_0 : decode cX8_truly 0 = .ok (.iload_n 1, 1) := by decide +kernel
theorem dX8_truly_1 : decode cX8_truly 1 = .ok (.ifCond .lt 8, 3) := by decide +kernel
theorem dX8_truly_4 : decode cX8_truly 4 = .ok (.iload_n 1, 1) := by decide +kernel
theorem dX8_truly_5 : decode cX8_truly 5 = .ok (.iconst 2, 1) := by decide +kernel
theorem dX8_truly_6 : decode cX8_truly 6 = .ok (.if_icmp .le 6, 3) := by decide +kernel
theorem dX8_truly_9 : decode cX8_truly 9 = .ok (.ldc 70, 2) := by decide +kernel
theorem dX8_truly_11 : decode cX8_truly 11 = .ok (.ireturn, 1) := by decide +kernel
theorem dX8_truly_12 : decode cX8_truly 12 = .ok (.iconst 0, 1) := by decide +kernel
theorem dX8_truly_13 : decode cX8_truly 13 = .ok (.istore_n 2, 1) := by decide +kernel
theorem dX8_truly_14 : decode cX8_truly 14 = .ok (.iconst (-1), 1) := by decide +kernel
theorem dX8_truly_15 : decode cX8_truly 15 = .ok (.istore_n 3, 1) := by decide +kernel
theorem dX8_truly_16 : decode cX8_truly 16 = .ok (.iconst (-1), 1) := by decide +kernel
theorem dX8_truly_17 : decode cX8_truly 17 = .ok (.istore 4, 2) := by decide +kernel
theorem dX8_truly_19 : decode cX8_truly 19 = .ok (.iconst 0, 1) := by decide +kernel
theorem dX8_truly_20 : decode cX8_truly 20 = .ok (.istore 5, 2) := by decide +kernel
theorem dX8_truly_22 : decode cX8_truly 22 = .ok (.iload 5, 2) := by decide +kernel
theorem dX8_truly_24 : decode cX8_truly 24 = .ok (.bipush 30, 2) := by decide +kernel
theorem dX8_truly_26 : decode cX8_truly 26 = .ok (.if_icmp .gt 40, 3) := by decide +kernel
theorem dX8_truly_29 : decode cX8_truly 29 = .ok (.aload_n 0, 1) := by decide +kernel
theorem dX8_truly_30 : decode cX8_truly 30 = .ok (.getfield 51, 3) := by decide +kernel
theorem dX8_truly_33 : decode cX8_truly 33 = .ok (.iload 5, 2) := by decide +kernel
theorem dX8_truly_35 : decode cX8_truly 35 = .ok (.invokevirtual 247, 3) := by decide +kernel
theorem dX8_truly_38 : decode cX8_truly 38 = .ok (.ifCond .eq 22, 3) := by decide +kernel
theorem dX8_truly_41 : decode cX8_truly 41 = .ok (.iinc 2 1, 3) := by decide +kernel
theorem dX8_truly_44 : decode cX8_truly 44 = .ok (.iload_n 3, 1) := by decide +kernel
theorem dX8_truly_45 : decode cX8_truly 45 = .ok (.iconst (-1), 1) := by decide +kernel
theorem dX8_truly_46 : decode cX8_truly 46 = .ok (.if_icmp .ne 8, 3) := by decide +kernel
theorem dX8_truly_49 : decode cX8_truly 49 = .ok (.iload 5, 2) := by decide +kernel
theorem dX8_truly_51 : decode cX8_truly 51 = .ok (.goto 4, 3) := by decide +kernel
theorem dX8_truly_54 : decode cX8_truly 54 = .ok (.iload_n 3, 1) := by decide +kernel
theorem dX8_truly_55 : decode cX8_truly 55 = .ok (.istore_n 3, 1) := by decide +kernel
theorem dX8_truly_56 : decode cX8_truly 56 = .ok (.iload 5, 2) := by decide +kernel
theorem dX8_truly_58 : decode cX8_truly 58 = .ok (.istore 4, 2) := by decide +kernel
theorem dX8_truly_60 : decode cX8_truly 60 = .ok (.iinc 5 1, 3) := by decide +kernel
theorem dX8_truly_63 : decode cX8_truly 63 = .ok (.goto (-41), 3) := by decide +kernel
theorem dX8_truly_66 : decode cX8_truly 66 = .ok (.iload_n 1, 1) := by decide +kernel
theorem dX8_truly_67 : decode cX8_truly 67 = .ok (.ifCond .ne 5, 3) := by decide +kernel
theorem dX8_truly_70 : decode cX8_truly 70 = .ok (.iload_n 2, 1) := by decide +kernel
theorem dX8_truly_71 : decode cX8_truly 71 = .ok (.ireturn, 1) := by decide +kernel
theorem dX8_truly_72 : decode cX8_truly 72 = .ok (.iload_n 1, 1) := by decide +kernel
theorem dX8_truly_73 : decode cX8_truly 73 = .ok (.iconst 1, 1) := by decide +kernel
theorem dX8_truly_74 : decode cX8_truly 74 = .ok (.if_icmp .ne 7, 3) := by decide +kernel
theorem dX8_truly_77 : decode cX8_truly 77 = .ok (.iload_n 3, 1) := by decide +kernel
theorem dX8_truly_78 : decode cX8_truly 78 = .ok (.goto 5, 3) := by decide +kernel
theorem dX8_truly_81 : decode cX8_truly 81 = .ok (.iload 4, 2) := by decide +kernel
theorem dX8_truly_83 : decode cX8_truly 83 = .ok (.ireturn, 1) := by decide +kernel
theorem dX8_tryNext_0 : decode cX8_tryNext 0 = .ok (.aload_n 0, 1) := by decide +kernel
theorem dX8_tryNext_1 : decode cX8_tryNext 1 = .ok (.iconst 0, 1) := by decide +kernel
theorem dX8_tryNext_2 : decode cX8_tryNext 2 = .ok (.invokevirtual 250, 3) := by decide +kernel
theorem dX8_tryNext_5 : decode cX8_tryNext 5 = .ok (.istore_n 1, 1) := by decide +kernel
theorem dX8_tryNext_6 : decode cX8_tryNext 6 = .ok (.iconst 0, 1) := by decide +kernel
theorem dX8_tryNext_7 : decode cX8_tryNext 7 = .ok (.istore_n 2, 1) := by decide +kernel
theorem dX8_tryNext_8 : decode cX8_tryNext 8 = .ok (.iconst (-1), 1) := by decide +kernel
theorem dX8_tryNext_9 : decode cX8_tryNext 9 = .ok (.istore_n 3, 1) := by decide +kernel
theorem dX8_tryNext_10 : decode cX8_tryNext 10 = .ok (.iload_n 1, 1) := by decide +kernel
theorem dX8_tryNext_11 : decode cX8_tryNext 11 = .ok (.istore 4, 2) := by decide +kernel
theorem dX8_tryNext_13 : decode cX8_tryNext 13 = .ok (.iconst 0, 1) := by decide +kernel
theorem dX8_tryNext_14 : decode cX8_tryNext 14 = .ok (.istore 5, 2) := by decide +kernel
theorem dX8_tryNext_16 : decode cX8_tryNext 16 = .ok (.iload 5, 2) := by decide +kernel
theorem dX8_tryNext_18 : decode cX8_tryNext 18 = .ok (.bipush 40, 2) := by decide +kernel
theorem dX8_tryNext_20 : decode cX8_tryNext 20 = .ok (.if_icmp .gt 54, 3) := by decide +kernel
theorem dX8_tryNext_23 : decode cX8_tryNext 23 = .ok (.iload 5, 2) := by decide +kernel
theorem dX8_tryNext_25 : decode cX8_tryNext 25 = .ok (.bipush 30, 2) := by decide +kernel
theorem dX8_tryNext_27 : decode cX8_tryNext 27 = .ok (.if_icmp .gt 18, 3) := by decide +kernel
theorem dX8_tryNext_30 : decode cX8_tryNext 30 = .ok (.aload_n 0, 1) := by decide +kernel
theorem dX8_tryNext_31 : decode cX8_tryNext 31 = .ok (.getfield 51, 3) := by decide +kernel
theorem dX8_tryNext_34 : decode cX8_tryNext 34 = .ok (.iload 5, 2) := by decide +kernel
theorem dX8_tryNext_36 : decode cX8_tryNext 36 = .ok (.invokevirtual 247, 3) := by decide +kernel
theorem dX8_tryNext_39 : decode cX8_tryNext 39 = .ok (.ifCond .eq 6, 3) := by decide +kernel
theorem dX8_tryNext_42 : decode cX8_tryNext 42 = .ok (.iinc 2 1, 3) := by decide +kernel
theorem dX8_tryNext_45 : decode cX8_tryNext 45 = .ok (.iload_n 2, 1) := by decide +kernel
theorem dX8_tryNext_46 : decode cX8_tryNext 46 = .ok (.iload_n 1, 1) := by decide +kernel
theorem dX8_tryNext_47 : decode cX8_tryNext 47 = .ok (.iload_n 2, 1) := by decide +kernel
theorem dX8_tryNext_48 : decode cX8_tryNext 48 = .ok (.isub, 1) := by decide +kernel
theorem dX8_tryNext_49 : decode cX8_tryNext 49 = .ok (.invokestatic 253, 3) := by decide +kernel
theorem dX8_tryNext_52 : decode cX8_tryNext 52 = .ok (.istore 6, 2) := by decide +kernel
theorem dX8_tryNext_54 : decode cX8_tryNext 54 = .ok (.iload 6, 2) := by decide +kernel
theorem dX8_tryNext_56 : decode cX8_tryNext 56 = .ok (.iload 4, 2) := by decide +kernel
theorem dX8_tryNext_58 : decode cX8_tryNext 58 = .ok (.if_icmp .ge 10, 3) := by decide +kernel
theorem dX8_tryNext_61 : decode cX8_tryNext 61 = .ok (.iload 5, 2) := by decide +kernel
theorem dX8_tryNext_63 : decode cX8_tryNext 63 = .ok (.istore_n 3, 1) := by decide +kernel
theorem dX8_tryNext_64 : decode cX8_tryNext 64 = .ok (.iload 6, 2) := by decide +kernel
theorem dX8_tryNext_66 : decode cX8_tryNext 66 = .ok (.istore 4, 2) := by decide +kernel
theorem dX8_tryNext_68 : decode cX8_tryNext 68 = .ok (.iinc 5 1, 3) := by decide +kernel
theorem dX8_tryNext_71 : decode cX8_tryNext 71 = .ok (.goto (-55), 3) := by decide +kernel
theorem dX8_tryNext_74 : decode cX8_tryNext 74 = .ok (.iload_n 3, 1) := by decide +kernel
theorem dX8_tryNext_75 : decode cX8_tryNext 75 = .ok (.ireturn, 1) := by decide +kernel
theorem dX8_write_0 : decode cX8_write 0 = .ok (.aload_n 0, 1) := by decide +kernel
theorem dX8_write_1 : decode cX8_write 1 = .ok (.getfield 19, 3) := by decide +kernel
theorem dX8_write_4 : decode cX8_write 4 = .ok (.iload_n 1, 1) := by decide +kernel
theorem dX8_write_5 : decode cX8_write 5 = .ok (.invokevirtual 138, 3) := by decide +kernel
theorem dX8_write_8 : decode cX8_write 8 = .ok (.ifCond .eq 19, 3) := by decide +kernel
theorem dX8_write_11 : decode cX8_write 11 = .ok (.iload_n 2, 1) := by decide +kernel
theorem dX8_write_12 : decode cX8_write 12 = .ok (.iconst (-1), 1) := by decide +kernel
theorem dX8_write_13 : decode cX8_write 13 = .ok (.if_icmp .eq 17, 3) := by decide +kernel
theorem dX8_write_16 : decode cX8_write 16 = .ok (.aload_n 0, 1) := by decide +kernel
theorem dX8_write_17 : decode cX8_write 17 = .ok (.getfield 19, 3) := by decide +kernel
theorem dX8_write_20 : decode cX8_write 20 = .ok (.iload_n 2, 1) := by decide +kernel
theorem dX8_write_21 : decode cX8_write 21 = .ok (.invokevirtual 163, 3) := by decide +kernel
theorem dX8_write_24 : decode cX8_write 24 = .ok (.ifCond .ne 6, 3) := by decide +kernel
theorem dX8_write_27 : decode cX8_write 27 = .ok (.ldc 142, 2) := by decide +kernel
theorem dX8_write_29 : decode cX8_write 29 = .ok (.ireturn, 1) := by decide +kernel
theorem dX8_write_30 : decode cX8_write 30 = .ok (.aload_n 0, 1) := by decide +kernel
theorem dX8_write_31 : decode cX8_write 31 = .ok (.getfield 58, 3) := by decide +kernel
theorem dX8_write_34 : decode cX8_write 34 = .ok (.getfield 104, 3) := by decide +kernel
theorem dX8_write_37 : decode cX8_write 37 = .ok (.bipush 15, 2) := by decide +kernel
theorem dX8_write_39 : decode cX8_write 39 = .ok (.if_icmp .lt 6, 3) := by decide +kernel
theorem dX8_write_42 : decode cX8_write 42 = .ok (.ldc 74, 2) := by decide +kernel
theorem dX8_write_44 : decode cX8_write 44 = .ok (.ireturn, 1) := by decide +kernel
theorem dX8_write_45 : decode cX8_write 45 = .ok (.aload_n 0, 1) := by decide +kernel
theorem dX8_write_46 : decode cX8_write 46 = .ok (.getfield 58, 3) := by decide +kernel
theorem dX8_write_49 : decode cX8_write 49 = .ok (.iload_n 1, 1) := by decide +kernel
theorem dX8_write_50 : decode cX8_write 50 = .ok (.iload_n 2, 1) := by decide +kernel
theorem dX8_write_51 : decode cX8_write 51 = .ok (.invokevirtual 258, 3) := by decide +kernel
theorem dX8_write_54 : decode cX8_write 54 = .ok (.aload_n 0, 1) := by decide +kernel
theorem dX8_write_55 : decode cX8_write 55 = .ok (.getfield 58, 3) := by decide +kernel
theorem dX8_write_58 : decode cX8_write 58 = .ok (.getfield 104, 3) := by decide +kernel
theorem dX8_write_61 : decode cX8_write 61 = .ok (.ireturn, 1) := by decide +kernel
theorem dX8_tear_0 : decode cX8_tear 0 = .ok (.aload_n 0, 1) := by decide +kernel
theorem dX8_tear_1 : decode cX8_tear 1 = .ok (.getfield 51, 3) := by decide +kernel
theorem dX8_tear_4 : decode cX8_tear 4 = .ok (.getfield 103, 3) := by decide +kernel
theorem dX8_tear_7 : decode cX8_tear 7 = .ok (.aload_n 0, 1) := by decide +kernel
theorem dX8_tear_8 : decode cX8_tear 8 = .ok (.getfield 58, 3) := by decide +kernel
theorem dX8_tear_11 : decode cX8_tear 11 = .ok (.getfield 104, 3) := by decide +kernel
theorem dX8_tear_14 : decode cX8_tear 14 = .ok (.iadd, 1) := by decide +kernel
theorem dX8_tear_15 : decode cX8_tear 15 = .ok (.istore_n 1, 1) := by decide +kernel
theorem dX8_tear_16 : decode cX8_tear 16 = .ok (.aload_n 0, 1) := by decide +kernel
theorem dX8_tear_17 : decode cX8_tear 17 = .ok (.getfield 51, 3) := by decide +kernel
theorem dX8_tear_20 : decode cX8_tear 20 = .ok (.iconst 0, 1) := by decide +kernel
theorem dX8_tear_21 : decode cX8_tear 21 = .ok (.putfield 103, 3) := by decide +kernel
theorem dX8_tear_24 : decode cX8_tear 24 = .ok (.aload_n 0, 1) := by decide +kernel
theorem dX8_tear_25 : decode cX8_tear 25 = .ok (.getfield 58, 3) := by decide +kernel
theorem dX8_tear_28 : decode cX8_tear 28 = .ok (.iconst 0, 1) := by decide +kernel
theorem dX8_tear_29 : decode cX8_tear 29 = .ok (.putfield 104, 3) := by decide +kernel
theorem dX8_tear_32 : decode cX8_tear 32 = .ok (.iload_n 1, 1) := by decide +kernel
theorem dX8_tear_33 : decode cX8_tear 33 = .ok (.ireturn, 1) := by decide +kernel
theorem dX8_judge_0 : decode cX8_judge 0 = .ok (.aload_n 0, 1) := by decide +kernel
theorem dX8_judge_1 : decode cX8_judge 1 = .ok (.getfield 58, 3) := by decide +kernel
theorem dX8_judge_4 : decode cX8_judge 4 = .ok (.aload_n 0, 1) := by decide +kernel
theorem dX8_judge_5 : decode cX8_judge 5 = .ok (.getfield 28, 3) := by decide +kernel
theorem dX8_judge_8 : decode cX8_judge 8 = .ok (.invokevirtual 261, 3) := by decide +kernel
theorem dX8_judge_11 : decode cX8_judge 11 = .ok (.ireturn, 1) := by decide +kernel
theorem dX8_seed_0 : decode cX8_seed 0 = .ok (.iload_n 1, 1) := by decide +kernel
theorem dX8_seed_1 : decode cX8_seed 1 = .ok (.ifCond .ge 6, 3) := by decide +kernel
theorem dX8_seed_4 : decode cX8_seed 4 = .ok (.ldc 70, 2) := by decide +kernel
theorem dX8_seed_6 : decode cX8_seed 6 = .ok (.ireturn, 1) := by decide +kernel
theorem dX8_seed_7 : decode cX8_seed 7 = .ok (.aload_n 0, 1) := by decide +kernel
theorem dX8_seed_8 : decode cX8_seed 8 = .ok (.getfield 66, 3) := by decide +kernel
theorem dX8_seed_11 : decode cX8_seed 11 = .ok (.istore_n 2, 1) := by decide +kernel
theorem dX8_seed_12 : decode cX8_seed 12 = .ok (.aload_n 0, 1) := by decide +kernel
theorem dX8_seed_13 : decode cX8_seed 13 = .ok (.iload_n 1, 1) := by decide +kernel
theorem dX8_seed_14 : decode cX8_seed 14 = .ok (.putfield 66, 3) := by decide +kernel
theorem dX8_seed_17 : decode cX8_seed 17 = .ok (.iload_n 2, 1) := by decide +kernel
theorem dX8_seed_18 : decode cX8_seed 18 = .ok (.ireturn, 1) := by decide +kernel
theorem dX8_keep_0 : decode cX8_keep 0 = .ok (.iload_n 1, 1) := by decide +kernel
theorem dX8_keep_1 : decode cX8_keep 1 = .ok (.ifCond .lt 8, 3) := by decide +kernel
theorem dX8_keep_4 : decode cX8_keep 4 = .ok (.iload_n 1, 1) := by decide +kernel
theorem dX8_keep_5 : decode cX8_keep 5 = .ok (.iconst 2, 1) := by decide +kernel
theorem dX8_keep_6 : decode cX8_keep 6 = .ok (.if_icmp .lt 6, 3) := by decide +kernel
theorem dX8_keep_9 : decode cX8_keep 9 = .ok (.ldc 142, 2) := by decide +kernel
theorem dX8_keep_11 : decode cX8_keep 11 = .ok (.ireturn, 1) := by decide +kernel
theorem dX8_keep_12 : decode cX8_keep 12 = .ok (.aload_n 0, 1) := by decide +kernel
theorem dX8_keep_13 : decode cX8_keep 13 = .ok (.getfield 44, 3) := by decide +kernel
theorem dX8_keep_16 : decode cX8_keep 16 = .ok (.iload_n 1, 1) := by decide +kernel
theorem dX8_keep_17 : decode cX8_keep 17 = .ok (.aaload, 1) := by decide +kernel
theorem dX8_keep_18 : decode cX8_keep 18 = .ok (.astore_n 2, 1) := by decide +kernel
theorem dX8_keep_19 : decode cX8_keep 19 = .ok (.aload_n 2, 1) := by decide +kernel
theorem dX8_keep_20 : decode cX8_keep 20 = .ok (.getfield 265, 3) := by decide +kernel
theorem dX8_keep_23 : decode cX8_keep 23 = .ok (.aload_n 0, 1) := by decide +kernel
theorem dX8_keep_24 : decode cX8_keep 24 = .ok (.getfield 28, 3) := by decide +kernel
theorem dX8_keep_27 : decode cX8_keep 27 = .ok (.invokevirtual 93, 3) := by decide +kernel
theorem dX8_keep_30 : decode cX8_keep 30 = .ok (.aload_n 2, 1) := by decide +kernel
theorem dX8_keep_31 : decode cX8_keep 31 = .ok (.aload_n 0, 1) := by decide +kernel
theorem dX8_keep_32 : decode cX8_keep 32 = .ok (.getfield 66, 3) := by decide +kernel
theorem dX8_keep_35 : decode cX8_keep 35 = .ok (.putfield 266, 3) := by decide +kernel
theorem dX8_keep_38 : decode cX8_keep 38 = .ok (.aload_n 2, 1) := by decide +kernel
theorem dX8_keep_39 : decode cX8_keep 39 = .ok (.iconst 1, 1) := by decide +kernel
theorem dX8_keep_40 : decode cX8_keep 40 = .ok (.putfield 99, 3) := by decide +kernel
theorem dX8_keep_43 : decode cX8_keep 43 = .ok (.aload_n 0, 1) := by decide +kernel
theorem dX8_keep_44 : decode cX8_keep 44 = .ok (.getfield 38, 3) := by decide +kernel
theorem dX8_keep_47 : decode cX8_keep 47 = .ok (.invokevirtual 96, 3) := by decide +kernel
theorem dX8_keep_50 : decode cX8_keep 50 = .ok (.iconst 1, 1) := by decide +kernel
theorem dX8_keep_51 : decode cX8_keep 51 = .ok (.ireturn, 1) := by decide +kernel
theorem dX8_goBack_0 : decode cX8_goBack 0 = .ok (.iload_n 1, 1) := by decide +kernel
theorem dX8_goBack_1 : decode cX8_goBack 1 = .ok (.ifCond .lt 8, 3) := by decide +kernel
theorem dX8_goBack_4 : decode cX8_goBack 4 = .ok (.iload_n 1, 1) := by decide +kernel
theorem dX8_goBack_5 : decode cX8_goBack 5 = .ok (.iconst 2, 1) := by decide +kernel
theorem dX8_goBack_6 : decode cX8_goBack 6 = .ok (.if_icmp .lt 6, 3) := by decide +kernel
theorem dX8_goBack_9 : decode cX8_goBack 9 = .ok (.ldc 142, 2) := by decide +kernel
theorem dX8_goBack_11 : decode cX8_goBack 11 = .ok (.ireturn, 1) := by decide +kernel
theorem dX8_goBack_12 : decode cX8_goBack 12 = .ok (.aload_n 0, 1) := by decide +kernel
theorem dX8_goBack_13 : decode cX8_goBack 13 = .ok (.getfield 44, 3) := by decide +kernel
theorem dX8_goBack_16 : decode cX8_goBack 16 = .ok (.iload_n 1, 1) := by decide +kernel
theorem dX8_goBack_17 : decode cX8_goBack 17 = .ok (.aaload, 1) := by decide +kernel
theorem dX8_goBack_18 : decode cX8_goBack 18 = .ok (.astore_n 2, 1) := by decide +kernel
theorem dX8_goBack_19 : decode cX8_goBack 19 = .ok (.aload_n 2, 1) := by decide +kernel
theorem dX8_goBack_20 : decode cX8_goBack 20 = .ok (.getfield 99, 3) := by decide +kernel
theorem dX8_goBack_23 : decode cX8_goBack 23 = .ok (.ifCond .ne 6, 3) := by decide +kernel
theorem dX8_goBack_26 : decode cX8_goBack 26 = .ok (.ldc 210, 2) := by decide +kernel
theorem dX8_goBack_28 : decode cX8_goBack 28 = .ok (.ireturn, 1) := by decide +kernel
theorem dX8_goBack_29 : decode cX8_goBack 29 = .ok (.aload_n 0, 1) := by decide +kernel
theorem dX8_goBack_30 : decode cX8_goBack 30 = .ok (.getfield 28, 3) := by decide +kernel
theorem dX8_goBack_33 : decode cX8_goBack 33 = .ok (.aload_n 2, 1) := by decide +kernel
theorem dX8_goBack_34 : decode cX8_goBack 34 = .ok (.getfield 265, 3) := by decide +kernel
theorem dX8_goBack_37 : decode cX8_goBack 37 = .ok (.invokevirtual 93, 3) := by decide +kernel
theorem dX8_goBack_40 : decode cX8_goBack 40 = .ok (.aload_n 0, 1) := by decide +kernel
theorem dX8_goBack_41 : decode cX8_goBack 41 = .ok (.aload_n 2, 1) := by decide +kernel
theorem dX8_goBack_42 : decode cX8_goBack 42 = .ok (.getfield 266, 3) := by decide +kernel
theorem dX8_goBack_45 : decode cX8_goBack 45 = .ok (.putfield 66, 3) := by decide +kernel
theorem dX8_goBack_48 : decode cX8_goBack 48 = .ok (.aload_n 0, 1) := by decide +kernel
theorem dX8_goBack_49 : decode cX8_goBack 49 = .ok (.getfield 38, 3) := by decide +kernel
theorem dX8_goBack_52 : decode cX8_goBack 52 = .ok (.invokevirtual 96, 3) := by decide +kernel
theorem dX8_goBack_55 : decode cX8_goBack 55 = .ok (.iconst 1, 1) := by decide +kernel
theorem dX8_goBack_56 : decode cX8_goBack 56 = .ok (.ireturn, 1) := by decide +kernel
theorem dX8_refusalOfRounds_0 : decode cX8_refusalOfRounds 0 = .ok (.iload_n 1, 1) := by decide +kernel
theorem dX8_refusalOfRounds_1 : decode cX8_refusalOfRounds 1 = .ok (.iconst 1, 1) := by decide +kernel
theorem dX8_refusalOfRounds_2 : decode cX8_refusalOfRounds 2 = .ok (.if_icmp .lt 9, 3) := by decide +kernel
theorem dX8_refusalOfRounds_5 : decode cX8_refusalOfRounds 5 = .ok (.iload_n 1, 1) := by decide +kernel
theorem dX8_refusalOfRounds_6 : decode cX8_refusalOfRounds 6 = .ok (.bipush 30, 2) := by decide +kernel
theorem dX8_refusalOfRounds_8 : decode cX8_refusalOfRounds 8 = .ok (.if_icmp .le 6, 3) := by decide +kernel
theorem dX8_refusalOfRounds_11 : decode cX8_refusalOfRounds 11 = .ok (.ldc 70, 2) := by decide +kernel
theorem dX8_refusalOfRounds_13 : decode cX8_refusalOfRounds 13 = .ok (.ireturn, 1) := by decide +kernel
theorem dX8_refusalOfRounds_14 : decode cX8_refusalOfRounds 14 = .ok (.aload_n 0, 1) := by decide +kernel
theorem dX8_refusalOfRounds_15 : decode cX8_refusalOfRounds 15 = .ok (.getfield 19, 3) := by decide +kernel
theorem dX8_refusalOfRounds_18 : decode cX8_refusalOfRounds 18 = .ok (.getfield 108, 3) := by decide +kernel
theorem dX8_refusalOfRounds_21 : decode cX8_refusalOfRounds 21 = .ok (.ifCond .ne 6, 3) := by decide +kernel
theorem dX8_refusalOfRounds_24 : decode cX8_refusalOfRounds 24 = .ok (.ldc 210, 2) := by decide +kernel
theorem dX8_refusalOfRounds_26 : decode cX8_refusalOfRounds 26 = .ok (.ireturn, 1) := by decide +kernel
theorem dX8_refusalOfRounds_27 : decode cX8_refusalOfRounds 27 = .ok (.aload_n 0, 1) := by decide +kernel
theorem dX8_refusalOfRounds_28 : decode cX8_refusalOfRounds 28 = .ok (.getfield 28, 3) := by decide +kernel
theorem dX8_refusalOfRounds_31 : decode cX8_refusalOfRounds 31 = .ok (.getfield 117, 3) := by decide +kernel
theorem dX8_refusalOfRounds_34 : decode cX8_refusalOfRounds 34 = .ok (.sipush 9000, 3) := by decide +kernel
theorem dX8_refusalOfRounds_37 : decode cX8_refusalOfRounds 37 = .ok (.if_icmp .le 8, 3) := by decide +kernel
theorem dX8_refusalOfRounds_40 : decode cX8_refusalOfRounds 40 = .ok (.ldc 74, 2) := by decide +kernel
theorem dX8_refusalOfRounds_42 : decode cX8_refusalOfRounds 42 = .ok (.goto 4, 3) := by decide +kernel
theorem dX8_refusalOfRounds_45 : decode cX8_refusalOfRounds 45 = .ok (.iconst 0, 1) := by decide +kernel
theorem dX8_refusalOfRounds_46 : decode cX8_refusalOfRounds 46 = .ok (.ireturn, 1) := by decide +kernel
theorem dX8_draw_0 : decode cX8_draw 0 = .ok (.aload_n 0, 1) := by decide +kernel
theorem dX8_draw_1 : decode cX8_draw 1 = .ok (.aload_n 0, 1) := by decide +kernel
theorem dX8_draw_2 : decode cX8_draw 2 = .ok (.getfield 66, 3) := by decide +kernel
theorem dX8_draw_5 : decode cX8_draw 5 = .ok (.i2l, 1) := by decide +kernel
theorem dX8_draw_6 : decode cX8_draw 6 = .ok (.ldc2_w 267, 3) := by decide +kernel
theorem dX8_draw_9 : decode cX8_draw 9 = .ok (.lmul, 1) := by decide +kernel
theorem dX8_draw_10 : decode cX8_draw 10 = .ok (.ldc2_w 269, 3) := by decide +kernel
theorem dX8_draw_13 : decode cX8_draw 13 = .ok (.ladd, 1) := by decide +kernel
theorem dX8_draw_14 : decode cX8_draw 14 = .ok (.ldc2_w 271, 3) := by decide +kernel
theorem dX8_draw_17 : decode cX8_draw 17 = .ok (.land, 1) := by decide +kernel
theorem dX8_draw_18 : decode cX8_draw 18 = .ok (.l2i, 1) := by decide +kernel
theorem dX8_draw_19 : decode cX8_draw 19 = .ok (.putfield 66, 3) := by decide +kernel
theorem dX8_draw_22 : decode cX8_draw 22 = .ok (.iload_n 1, 1) := by decide +kernel
theorem dX8_draw_23 : decode cX8_draw 23 = .ok (.ifCond .le 16, 3) := by decide +kernel
theorem dX8_draw_26 : decode cX8_draw 26 = .ok (.aload_n 0, 1) := by decide +kernel
theorem dX8_draw_27 : decode cX8_draw 27 = .ok (.getfield 66, 3) := by decide +kernel
theorem dX8_draw_30 : decode cX8_draw 30 = .ok (.ldc_w 273, 3) := by decide +kernel
theorem dX8_draw_33 : decode cX8_draw 33 = .ok (.idiv, 1) := by decide +kernel
theorem dX8_draw_34 : decode cX8_draw 34 = .ok (.iload_n 1, 1) := by decide +kernel
theorem dX8_draw_35 : decode cX8_draw 35 = .ok (.irem, 1) := by decide +kernel
theorem dX8_draw_36 : decode cX8_draw 36 = .ok (.goto 4, 3) := by decide +kernel
theorem dX8_draw_39 : decode cX8_draw 39 = .ok (.iconst 0, 1) := by decide +kernel
theorem dX8_draw_40 : decode cX8_draw 40 = .ok (.ireturn, 1) := by decide +kernel
theorem dX8_chance_0 : decode cX8_chance 0 = .ok (.aload_n 0, 1) := by decide +kernel
theorem dX8_chance_1 : decode cX8_chance 1 = .ok (.getfield 19, 3) := by decide +kernel
theorem dX8_chance_4 : decode cX8_chance 4 = .ok (.getfield 105, 3) := by decide +kernel
theorem dX8_chance_7 : decode cX8_chance 7 = .ok (.ifCond .eq 13, 3) := by decide +kernel
theorem dX8_chance_10 : decode cX8_chance 10 = .ok (.aload_n 0, 1) := by decide +kernel
theorem dX8_chance_11 : decode cX8_chance 11 = .ok (.getfield 19, 3) := by decide +kernel
theorem dX8_chance_14 : decode cX8_chance 14 = .ok (.getfield 114, 3) := by decide +kernel
theorem dX8_chance_17 : decode cX8_chance 17 = .ok (.ifCond .ne 4, 3) := by decide +kernel
theorem dX8_chance_20 : decode cX8_chance 20 = .ok (.return_, 1) := by decide +kernel
theorem dX8_chance_21 : decode cX8_chance 21 = .ok (.aload_n 0, 1) := by decide +kernel
theorem dX8_chance_22 : decode cX8_chance 22 = .ok (.iconst 4, 1) := by decide +kernel
theorem dX8_chance_23 : decode cX8_chance 23 = .ok (.invokevirtual 274, 3) := by decide +kernel
theorem dX8_chance_26 : decode cX8_chance 26 = .ok (.istore_n 1, 1) := by decide +kernel
theorem dX8_chance_27 : decode cX8_chance 27 = .ok (.aload_n 0, 1) := by decide +kernel
theorem dX8_chance_28 : decode cX8_chance 28 = .ok (.aload_n 0, 1) := by decide +kernel
theorem dX8_chance_29 : decode cX8_chance 29 = .ok (.getfield 19, 3) := by decide +kernel
theorem dX8_chance_32 : decode cX8_chance 32 = .ok (.getfield 105, 3) := by decide +kernel
theorem dX8_chance_35 : decode cX8_chance 35 = .ok (.invokevirtual 274, 3) := by decide +kernel
theorem dX8_chance_38 : decode cX8_chance 38 = .ok (.istore_n 2, 1) := by decide +kernel
theorem dX8_chance_39 : decode cX8_chance 39 = .ok (.aload_n 0, 1) := by decide +kernel
theorem dX8_chance_40 : decode cX8_chance 40 = .ok (.aload_n 0, 1) := by decide +kernel
theorem dX8_chance_41 : decode cX8_chance 41 = .ok (.getfield 19, 3) := by decide +kernel
theorem dX8_chance_44 : decode cX8_chance 44 = .ok (.getfield 114, 3) := by decide +kernel
theorem dX8_chance_47 : decode cX8_chance 47 = .ok (.invokevirtual 274, 3) := by decide +kernel
theorem dX8_chance_50 : decode cX8_chance 50 = .ok (.istore_n 3, 1) := by decide +kernel
theorem dX8_chance_51 : decode cX8_chance 51 = .ok (.iload_n 1, 1) := by decide +kernel
theorem dX8_chance_52 : decode cX8_chance 52 = .ok (.iconst 2, 1) := by decide +kernel
theorem dX8_chance_53 : decode cX8_chance 53 = .ok (.if_icmp .ne 21, 3) := by decide +kernel
theorem dX8_chance_56 : decode cX8_chance 56 = .ok (.aload_n 0, 1) := by decide +kernel
theorem dX8_chance_57 : decode cX8_chance 57 = .ok (.getfield 28, 3) := by decide +kernel
theorem dX8_chance_60 : decode cX8_chance 60 = .ok (.getfield 175, 3) := by decide +kernel
theorem dX8_chance_63 : decode cX8_chance 63 = .ok (.iload_n 2, 1) := by decide +kernel
theorem dX8_chance_64 : decode cX8_chance 64 = .ok (.aload_n 0, 1) := by decide +kernel
theorem dX8_chance_65 : decode cX8_chance 65 = .ok (.bipush 31, 2) := by decide +kernel
theorem dX8_chance_67 : decode cX8_chance 67 = .ok (.invokevirtual 274, 3) := by decide +kernel
theorem dX8_chance_70 : decode cX8_chance 70 = .ok (.iastore, 1) := by decide +kernel
theorem dX8_chance_71 : decode cX8_chance 71 = .ok (.goto 55, 3) := by decide +kernel
theorem dX8_chance_74 : decode cX8_chance 74 = .ok (.iload_n 1, 1) := by decide +kernel
theorem dX8_chance_75 : decode cX8_chance 75 = .ok (.iconst 3, 1) := by decide +kernel
theorem dX8_chance_76 : decode cX8_chance 76 = .ok (.if_icmp .ne 27, 3) := by decide +kernel
theorem dX8_chance_79 : decode cX8_chance 79 = .ok (.aload_n 0, 1) := by decide +kernel
theorem dX8_chance_80 : decode cX8_chance 80 = .ok (.getfield 28, 3) := by decide +kernel
theorem dX8_chance_83 : decode cX8_chance 83 = .ok (.getfield 172, 3) := by decide +kernel
theorem dX8_chance_86 : decode cX8_chance 86 = .ok (.iload_n 2, 1) := by decide +kernel
theorem dX8_chance_87 : decode cX8_chance 87 = .ok (.iaload, 1) := by decide +kernel
theorem dX8_chance_88 : decode cX8_chance 88 = .ok (.iconst (-1), 1) := by decide +kernel
theorem dX8_chance_89 : decode cX8_chance 89 = .ok (.if_icmp .eq 37, 3) := by decide +kernel
theorem dX8_chance_92 : decode cX8_chance 92 = .ok (.aload_n 0, 1) := by decide +kernel
theorem dX8_chance_93 : decode cX8_chance 93 = .ok (.getfield 28, 3) := by decide +kernel
theorem dX8_chance_96 : decode cX8_chance 96 = .ok (.iload_n 2, 1) := by decide +kernel
theorem dX8_chance_97 : decode cX8_chance 97 = .ok (.invokevirtual 211, 3) := by decide +kernel
theorem dX8_chance_100 : decode cX8_chance 100 = .ok (.goto 26, 3) := by decide +kernel
theorem dX8_chance_103 : decode cX8_chance 103 = .ok (.aload_n 0, 1) := by decide +kernel
theorem dX8_chance_104 : decode cX8_chance 104 = .ok (.getfield 28, 3) := by decide +kernel
theorem dX8_chance_107 : decode cX8_chance 107 = .ok (.getfield 172, 3) := by decide +kernel
theorem dX8_chance_110 : decode cX8_chance 110 = .ok (.iload_n 2, 1) := by decide +kernel
theorem dX8_chance_111 : decode cX8_chance 111 = .ok (.iaload, 1) := by decide +kernel
theorem dX8_chance_112 : decode cX8_chance 112 = .ok (.iconst (-1), 1) := by decide +kernel
theorem dX8_chance_113 : decode cX8_chance 113 = .ok (.if_icmp .ne 13, 3) := by decide +kernel
theorem dX8_chance_116 : decode cX8_chance 116 = .ok (.aload_n 0, 1) := by decide +kernel
theorem dX8_chance_117 : decode cX8_chance 117 = .ok (.getfield 28, 3) := by decide +kernel
theorem dX8_chance_120 : decode cX8_chance 120 = .ok (.getfield 181, 3) := by decide +kernel
theorem dX8_chance_123 : decode cX8_chance 123 = .ok (.iload_n 2, 1) := by decide +kernel
theorem dX8_chance_124 : decode cX8_chance 124 = .ok (.iload_n 3, 1) := by decide +kernel
theorem dX8_chance_125 : decode cX8_chance 125 = .ok (.iastore, 1) := by decide +kernel
theorem dX8_chance_126 : decode cX8_chance 126 = .ok (.return_, 1) := by decide +kernel
theorem dX8_lagInTheDark_0 : decode cX8_lagInTheDark 0 = .ok (.iload_n 0, 1) := by decide +kernel
theorem dX8_lagInTheDark_1 : decode cX8_lagInTheDark 1 = .ok (.tableswitch 50 1 3 #[27, 40, 46], 27) := by decide +kernel
theorem dX8_lagInTheDark_28 : decode cX8_lagInTheDark 28 = .ok (.iload_n 2, 1) := by decide +kernel
theorem dX8_lagInTheDark_29 : decode cX8_lagInTheDark 29 = .ok (.ifCond .eq 10, 3) := by decide +kernel
theorem dX8_lagInTheDark_32 : decode cX8_lagInTheDark 32 = .ok (.iload_n 1, 1) := by decide +kernel
theorem dX8_lagInTheDark_33 : decode cX8_lagInTheDark 33 = .ok (.bipush 9, 2) := by decide +kernel
theorem dX8_lagInTheDark_35 : decode cX8_lagInTheDark 35 = .ok (.iadd, 1) := by decide +kernel
theorem dX8_lagInTheDark_36 : decode cX8_lagInTheDark 36 = .ok (.goto 4, 3) := by decide +kernel
theorem dX8_lagInTheDark_39 : decode cX8_lagInTheDark 39 = .ok (.iload_n 1, 1) := by decide +kernel
theorem dX8_lagInTheDark_40 : decode cX8_lagInTheDark 40 = .ok (.ireturn, 1) := by decide +kernel
theorem dX8_lagInTheDark_41 : decode cX8_lagInTheDark 41 = .ok (.iload_n 1, 1) := by decide +kernel
theorem dX8_lagInTheDark_42 : decode cX8_lagInTheDark 42 = .ok (.iload_n 3, 1) := by decide +kernel
theorem dX8_lagInTheDark_43 : decode cX8_lagInTheDark 43 = .ok (.iconst 3, 1) := by decide +kernel
theorem dX8_lagInTheDark_44 : decode cX8_lagInTheDark 44 = .ok (.irem, 1) := by decide +kernel
theorem dX8_lagInTheDark_45 : decode cX8_lagInTheDark 45 = .ok (.iadd, 1) := by decide +kernel
theorem dX8_lagInTheDark_46 : decode cX8_lagInTheDark 46 = .ok (.ireturn, 1) := by decide +kernel
theorem dX8_lagInTheDark_47 : decode cX8_lagInTheDark 47 = .ok (.iload_n 1, 1) := by decide +kernel
theorem dX8_lagInTheDark_48 : decode cX8_lagInTheDark 48 = .ok (.iconst 2, 1) := by decide +kernel
theorem dX8_lagInTheDark_49 : decode cX8_lagInTheDark 49 = .ok (.idiv, 1) := by decide +kernel
theorem dX8_lagInTheDark_50 : decode cX8_lagInTheDark 50 = .ok (.ireturn, 1) := by decide +kernel
theorem dX8_lagInTheDark_51 : decode cX8_lagInTheDark 51 = .ok (.iload_n 1, 1) := by decide +kernel
theorem dX8_lagInTheDark_52 : decode cX8_lagInTheDark 52 = .ok (.ireturn, 1) := by decide +kernel
