theorem dX0_init_0 : decode cX0_init 0 = .ok (.aload_n 0, 1) := by decide +kernel
theorem dX0_init_1 : decode cX0_init 1 = .ok (.invokespecial 3, 3) := by decide +kernel
theorem dX0_init_4 : decode cX0_init 4 = .ok (.aload_n 0, 1) := by decide +kernel
theorem dX0_init_5 : decode cX0_init 5 = .ok (.iconst 0, 1) := by decide +kernel
theorem dX0_init_6 : decode cX0_init 6 = .ok (.putfield 9, 3) := by decide +kernel
theorem dX0_init_9 : decode cX0_init 9 = .ok (.aload_n 0, 1) := by decide +kernel
theorem dX0_init_10 : decode cX0_init 10 = .ok (.iconst 0, 1) := by decide +kernel
theorem dX0_init_11 : decode cX0_init 11 = .ok (.putfield 15, 3) := by decide +kernel
theorem dX0_init_14 : decode cX0_init 14 = .ok (.aload_n 0, 1) := by decide +kernel
theorem dX0_init_15 : decode cX0_init 15 = .ok (.iconst 4, 1) := by decide +kernel
theorem dX0_init_16 : decode cX0_init 16 = .ok (.newarray .int, 2) := by decide +kernel
theorem dX0_init_18 : decode cX0_init 18 = .ok (.putfield 18, 3) := by decide +kernel
theorem dX0_init_21 : decode cX0_init 21 = .ok (.aload_n 0, 1) := by decide +kernel
theorem dX0_init_22 : decode cX0_init 22 = .ok (.iconst 4, 1) := by decide +kernel
theorem dX0_init_23 : decode cX0_init 23 = .ok (.newarray .int, 2) := by decide +kernel
theorem dX0_init_25 : decode cX0_init 25 = .ok (.putfield 22, 3) := by decide +kernel
theorem dX0_init_28 : decode cX0_init 28 = .ok (.aload_n 0, 1) := by decide +kernel
theorem dX0_init_29 : decode cX0_init 29 = .ok (.iconst 4, 1) := by decide +kernel
theorem dX0_init_30 : decode cX0_init 30 = .ok (.newarray .int, 2) := by decide +kernel
theorem dX0_init_32 : decode cX0_init 32 = .ok (.putfield 25, 3) := by decide +kernel
theorem dX0_init_35 : decode cX0_init 35 = .ok (.aload_n 0, 1) := by decide +kernel
theorem dX0_init_36 : decode cX0_init 36 = .ok (.iconst 4, 1) := by decide +kernel
theorem dX0_init_37 : decode cX0_init 37 = .ok (.newarray .int, 2) := by decide +kernel
theorem dX0_init_39 : decode cX0_init 39 = .ok (.putfield 28, 3) := by decide +kernel
theorem dX0_init_42 : decode cX0_init 42 = .ok (.aload_n 0, 1) := by decide +kernel
theorem dX0_init_43 : decode cX0_init 43 = .ok (.bipush 7, 2) := by decide +kernel
theorem dX0_init_45 : decode cX0_init 45 = .ok (.newarray .int, 2) := by decide +kernel
theorem dX0_init_47 : decode cX0_init 47 = .ok (.putfield 31, 3) := by decide +kernel
theorem dX0_init_50 : decode cX0_init 50 = .ok (.aload_n 0, 1) := by decide +kernel
theorem dX0_init_51 : decode cX0_init 51 = .ok (.bipush 7, 2) := by decide +kernel
theorem dX0_init_53 : decode cX0_init 53 = .ok (.newarray .int, 2) := by decide +kernel
theorem dX0_init_55 : decode cX0_init 55 = .ok (.putfield 34, 3) := by decide +kernel
theorem dX0_init_58 : decode cX0_init 58 = .ok (.aload_n 0, 1) := by decide +kernel
theorem dX0_init_59 : decode cX0_init 59 = .ok (.bipush 7, 2) := by decide +kernel
theorem dX0_init_61 : decode cX0_init 61 = .ok (.newarray .int, 2) := by decide +kernel
theorem dX0_init_63 : decode cX0_init 63 = .ok (.putfield 37, 3) := by decide +kernel
theorem dX0_init_66 : decode cX0_init 66 = .ok (.aload_n 0, 1) := by decide +kernel
theorem dX0_init_67 : decode cX0_init 67 = .ok (.bipush 7, 2) := by decide +kernel
theorem dX0_init_69 : decode cX0_init 69 = .ok (.newarray .int, 2) := by decide +kernel
theorem dX0_init_71 : decode cX0_init 71 = .ok (.putfield 40, 3) := by decide +kernel
theorem dX0_init_74 : decode cX0_init 74 = .ok (.aload_n 0, 1) := by decide +kernel
theorem dX0_init_75 : decode cX0_init 75 = .ok (.bipush 7, 2) := by decide +kernel
theorem dX0_init_77 : decode cX0_init 77 = .ok (.newarray .int, 2) := by decide +kernel
theorem dX0_init_79 : decode cX0_init 79 = .ok (.putfield 43, 3) := by decide +kernel
theorem dX0_init_82 : decode cX0_init 82 = .ok (.aload_n 0, 1) := by decide +kernel
theorem dX0_init_83 : decode cX0_init 83 = .ok (.new 46, 3) := by decide +kernel
theorem dX0_init_86 : decode cX0_init 86 = .ok (.dup, 1) := by decide +kernel
theorem dX0_init_87 : decode cX0_init 87 = .ok (.invokespecial 48, 3) := by decide +kernel
theorem dX0_init_90 : decode cX0_init 90 = .ok (.putfield 49, 3) := by decide +kernel
theorem dX0_init_93 : decode cX0_init 93 = .ok (.aload_n 0, 1) := by decide +kernel
theorem dX0_init_94 : decode cX0_init 94 = .ok (.aload_n 1, 1) := by decide +kernel
theorem dX0_init_95 : decode cX0_init 95 = .ok (.putfield 53, 3) := by decide +kernel
theorem dX0_init_98 : decode cX0_init 98 = .ok (.return_, 1) := by decide +kernel
theorem dX0_copyFrom_0 : decode cX0_copyFrom 0 = .ok (.aload_n 0, 1) := by decide +kernel
theorem dX0_copyFrom_1 : decode cX0_copyFrom 1 = .ok (.aload_n 1, 1) := by decide +kernel
theorem dX0_copyFrom_2 : decode cX0_copyFrom 2 = .ok (.invokevirtual 57, 3) := by decide +kernel
theorem dX0_copyFrom_5 : decode cX0_copyFrom 5 = .ok (.aload_n 0, 1) := by decide +kernel
theorem dX0_copyFrom_6 : decode cX0_copyFrom 6 = .ok (.getfield 49, 3) := by decide +kernel
theorem dX0_copyFrom_9 : decode cX0_copyFrom 9 = .ok (.aload_n 1, 1) := by decide +kernel
theorem dX0_copyFrom_10 : decode cX0_copyFrom 10 = .ok (.getfield 49, 3) := by decide +kernel
theorem dX0_copyFrom_13 : decode cX0_copyFrom 13 = .ok (.invokevirtual 61, 3) := by decide +kernel
theorem dX0_copyFrom_16 : decode cX0_copyFrom 16 = .ok (.return_, 1) := by decide +kernel
theorem dX0_copyPlacesFrom_0 : decode cX0_copyPlacesFrom 0 = .ok (.aload_n 0, 1) := by decide +kernel
theorem dX0_copyPlacesFrom_1 : decode cX0_copyPlacesFrom 1 = .ok (.aload_n 1, 1) := by decide +kernel
theorem dX0_copyPlacesFrom_2 : decode cX0_copyPlacesFrom 2 = .ok (.getfield 9, 3) := by decide +kernel
theorem dX0_copyPlacesFrom_5 : decode cX0_copyPlacesFrom 5 = .ok (.putfield 9, 3) := by decide +kernel
theorem dX0_copyPlacesFrom_8 : decode cX0_copyPlacesFrom 8 = .ok (.aload_n 0, 1) := by decide +kernel
theorem dX0_copyPlacesFrom_9 : decode cX0_copyPlacesFrom 9 = .ok (.aload_n 1, 1) := by decide +kernel
theorem dX0_copyPlacesFrom_10 : decode cX0_copyPlacesFrom 10 = .ok (.getfield 15, 3) := by decide +kernel
theorem dX0_copyPlacesFrom_13 : decode cX0_copyPlacesFrom 13 = .ok (.putfield 15, 3) := by decide +kernel
theorem dX0_copyPlacesFrom_16 : decode cX0_copyPlacesFrom 16 = .ok (.aload_n 1, 1) := by decide +kernel
theorem dX0_copyPlacesFrom_17 : decode cX0_copyPlacesFrom 17 = .ok (.getfield 18, 3) := by decide +kernel
theorem dX0_copyPlacesFrom_20 : decode cX0_copyPlacesFrom 20 = .ok (.iconst 0, 1) := by decide +kernel
theorem dX0_copyPlacesFrom_21 : decode cX0_copyPlacesFrom 21 = .ok (.aload_n 0, 1) := by decide +kernel
theorem dX0_copyPlacesFrom_22 : decode cX0_copyPlacesFrom 22 = .ok (.getfield 18, 3) := by decide +kernel
theorem dX0_copyPlacesFrom_25 : decode cX0_copyPlacesFrom 25 = .ok (.iconst 0, 1) := by decide +kernel
theorem dX0_copyPlacesFrom_26 : decode cX0_copyPlacesFrom 26 = .ok (.iconst 4, 1) := by decide +kernel
theorem dX0_copyPlacesFrom_27 : decode cX0_copyPlacesFrom 27 = .ok (.invokestatic 65, 3) := by decide +kernel
theorem dX0_copyPlacesFrom_30 : decode cX0_copyPlacesFrom 30 = .ok (.aload_n 1, 1) := by decide +kernel
theorem dX0_copyPlacesFrom_31 : decode cX0_copyPlacesFrom 31 = .ok (.getfield 22, 3) := by decide +kernel
theorem dX0_copyPlacesFrom_34 : decode cX0_copyPlacesFrom 34 = .ok (.iconst 0, 1) := by decide +kernel
theorem dX0_copyPlacesFrom_35 : decode cX0_copyPlacesFrom 35 = .ok (.aload_n 0, 1) := by decide +kernel
theorem dX0_copyPlacesFrom_36 : decode cX0_copyPlacesFrom 36 = .ok (.getfield 22, 3) := by decide +kernel
theorem dX0_copyPlacesFrom_39 : decode cX0_copyPlacesFrom 39 = .ok (.iconst 0, 1) := by decide +kernel
theorem dX0_copyPlacesFrom_40 : decode cX0_copyPlacesFrom 40 = .ok (.iconst 4, 1) := by decide +kernel
theorem dX0_copyPlacesFrom_41 : decode cX0_copyPlacesFrom 41 = .ok (.invokestatic 65, 3) := by decide +kernel
theorem dX0_copyPlacesFrom_44 : decode cX0_copyPlacesFrom 44 = .ok (.aload_n 1, 1) := by decide +kernel
theorem dX0_copyPlacesFrom_45 : decode cX0_copyPlacesFrom 45 = .ok (.getfield 25, 3) := by decide +kernel
theorem dX0_copyPlacesFrom_48 : decode cX0_copyPlacesFrom 48 = .ok (.iconst 0, 1) := by decide +kernel
theorem dX0_copyPlacesFrom_49 : decode cX0_copyPlacesFrom 49 = .ok (.aload_n 0, 1) := by decide +kernel
theorem dX0_copyPlacesFrom_50 : decode cX0_copyPlacesFrom 50 = .ok (.getfield 25, 3) := by decide +kernel
theorem dX0_copyPlacesFrom_53 : decode cX0_copyPlacesFrom 53 = .ok (.iconst 0, 1) := by decide +kernel
theorem dX0_copyPlacesFrom_54 : decode cX0_copyPlacesFrom 54 = .ok (.iconst 4, 1) := by decide +kernel
theorem dX0_copyPlacesFrom_55 : decode cX0_copyPlacesFrom 55 = .ok (.invokestatic 65, 3) := by decide +kernel
theorem dX0_copyPlacesFrom_58 : decode cX0_copyPlacesFrom 58 = .ok (.aload_n 1, 1) := by decide +kernel
theorem dX0_copyPlacesFrom_59 : decode cX0_copyPlacesFrom 59 = .ok (.getfield 28, 3) := by decide +kernel
theorem dX0_copyPlacesFrom_62 : decode cX0_copyPlacesFrom 62 = .ok (.iconst 0, 1) := by decide +kernel
theorem dX0_copyPlacesFrom_63 : decode cX0_copyPlacesFrom 63 = .ok (.aload_n 0, 1) := by decide +kernel
theorem dX0_copyPlacesFrom_64 : decode cX0_copyPlacesFrom 64 = .ok (.getfield 28, 3) := by decide +kernel
theorem dX0_copyPlacesFrom_67 : decode cX0_copyPlacesFrom 67 = .ok (.iconst 0, 1) := by decide +kernel
theorem dX0_copyPlacesFrom_68 : decode cX0_copyPlacesFrom 68 = .ok (.iconst 4, 1) := by decide +kernel
theorem dX0_copyPlacesFrom_69 : decode cX0_copyPlacesFrom 69 = .ok (.invokestatic 65, 3) := by decide +kernel
theorem dX0_copyPlacesFrom_72 : decode cX0_copyPlacesFrom 72 = .ok (.aload_n 1, 1) := by decide +kernel
theorem dX0_copyPlacesFrom_73 : decode cX0_copyPlacesFrom 73 = .ok (.getfield 31, 3) := by decide +kernel
theorem dX0_copyPlacesFrom_76 : decode cX0_copyPlacesFrom 76 = .ok (.iconst 0, 1) := by decide +kernel
theorem dX0_copyPlacesFrom_77 : decode cX0_copyPlacesFrom 77 = .ok (.aload_n 0, 1) := by decide +kernel
theorem dX0_copyPlacesFrom_78 : decode cX0_copyPlacesFrom 78 = .ok (.getfield 31, 3) := by decide +kernel
theorem dX0_copyPlacesFrom_81 : decode cX0_copyPlacesFrom 81 = .ok (.iconst 0, 1) := by decide +kernel
theorem dX0_copyPlacesFrom_82 : decode cX0_copyPlacesFrom 82 = .ok (.bipush 7, 2) := by decide +kernel
theorem dX0_copyPlacesFrom_84 : decode cX0_copyPlacesFrom 84 = .ok (.invokestatic 65, 3) := by decide +kernel
theorem dX0_copyPlacesFrom_87 : decode cX0_copyPlacesFrom 87 = .ok (.aload_n 1, 1) := by decide +kernel
theorem dX0_copyPlacesFrom_88 : decode cX0_copyPlacesFrom 88 = .ok (.getfield 34, 3) := by decide +kernel
theorem dX0_copyPlacesFrom_91 : decode cX0_copyPlacesFrom 91 = .ok (.iconst 0, 1) := by decide +kernel
theorem dX0_copyPlacesFrom_92 : decode cX0_copyPlacesFrom 92 = .ok (.aload_n 0, 1) := by decide +kernel
theorem dX0_copyPlacesFrom_93 : decode cX0_copyPlacesFrom 93 = .ok (.getfield 34, 3) := by decide +kernel
theorem dX0_copyPlacesFrom_96 : decode cX0_copyPlacesFrom 96 = .ok (.iconst 0, 1) := by decide +kernel
theorem dX0_copyPlacesFrom_97 : decode cX0_copyPlacesFrom 97 = .ok (.bipush 7, 2) := by decide +kernel
theorem dX0_copyPlacesFrom_99 : decode cX0_copyPlacesFrom 99 = .ok (.invokestatic 65, 3) := by decide +kernel
theorem dX0_copyPlacesFrom_102 : decode cX0_copyPlacesFrom 102 = .ok (.aload_n 1, 1) := by decide +kernel
theorem dX0_copyPlacesFrom_103 : decode cX0_copyPlacesFrom 103 = .ok (.getfield 37, 3) := by decide +kernel
theorem dX0_copyPlacesFrom_106 : decode cX0_copyPlacesFrom 106 = .ok (.iconst 0, 1) := by decide +kernel
theorem dX0_copyPlacesFrom_107 : decode cX0_copyPlacesFrom 107 = .ok (.aload_n 0, 1) := by decide +kernel
theorem dX0_copyPlacesFrom_108 : decode cX0_copyPlacesFrom 108 = .ok (.getfield 37, 3) := by decide +kernel
theorem dX0_copyPlacesFrom_111 : decode cX0_copyPlacesFrom 111 = .ok (.iconst 0, 1) := by decide +kernel
theorem dX0_copyPlacesFrom_112 : decode cX0_copyPlacesFrom 112 = .ok (.bipush 7, 2) := by decide +kernel
theorem dX0_copyPlacesFrom_114 : decode cX0_copyPlacesFrom 114 = .ok (.invokestatic 65, 3) := by decide +kernel
theorem dX0_copyPlacesFrom_117 : decode cX0_copyPlacesFrom 117 = .ok (.aload_n 1, 1) := by decide +kernel
theorem dX0_copyPlacesFrom_118 : decode cX0_copyPlacesFrom 118 = .ok (.getfield 40, 3) := by decide +kernel
theorem dX0_copyPlacesFrom_121 : decode cX0_copyPlacesFrom 121 = .ok (.iconst 0, 1) := by decide +kernel
theorem dX0_copyPlacesFrom_122 : decode cX0_copyPlacesFrom 122 = .ok (.aload_n 0, 1) := by decide +kernel
theorem dX0_copyPlacesFrom_123 : decode cX0_copyPlacesFrom 123 = .ok (.getfield 40, 3) := by decide +kernel
theorem dX0_copyPlacesFrom_126 : decode cX0_copyPlacesFrom 126 = .ok (.iconst 0, 1) := by decide +kernel
theorem dX0_copyPlacesFrom_127 : decode cX0_copyPlacesFrom 127 = .ok (.bipush 7, 2) := by decide +kernel
theorem dX0_copyPlacesFrom_129 : decode cX0_copyPlacesFrom 129 = .ok (.invokestatic 65, 3) := by decide +kernel
theorem dX0_copyPlacesFrom_132 : decode cX0_copyPlacesFrom 132 = .ok (.aload_n 1, 1) := by decide +kernel
theorem dX0_copyPlacesFrom_133 : decode cX0_copyPlacesFrom 133 = .ok (.getfield 43, 3) := by decide +kernel
theorem dX0_copyPlacesFrom_136 : decode cX0_copyPlacesFrom 136 = .ok (.iconst 0, 1) := by decide +kernel
theorem dX0_copyPlacesFrom_137 : decode cX0_copyPlacesFrom 137 = .ok (.aload_n 0, 1) := by decide +kernel
theorem dX0_copyPlacesFrom_138 : decode cX0_copyPlacesFrom 138 = .ok (.getfield 43, 3) := by decide +kernel
theorem dX0_copyPlacesFrom_141 : decode cX0_copyPlacesFrom 141 = .ok (.iconst 0, 1) := by decide +kernel
theorem dX0_copyPlacesFrom_142 : decode cX0_copyPlacesFrom 142 = .ok (.bipush 7, 2) := by decide +kernel
theorem dX0_copyPlacesFrom_144 : decode cX0_copyPlacesFrom 144 = .ok (.invokestatic 65, 3) := by decide +kernel
theorem dX0_copyPlacesFrom_147 : decode cX0_copyPlacesFrom 147 = .ok (.return_, 1) := by decide +kernel
theorem dX0_ownedBy_0 : decode cX0_ownedBy 0 = .ok (.iconst 0, 1) := by decide +kernel
theorem dX0_ownedBy_1 : decode cX0_ownedBy 1 = .ok (.istore_n 2, 1) := by decide +kernel
theorem dX0_ownedBy_2 : decode cX0_ownedBy 2 = .ok (.iconst 0, 1) := by decide +kernel
theorem dX0_ownedBy_3 : decode cX0_ownedBy 3 = .ok (.istore_n 3, 1) := by decide +kernel
theorem dX0_ownedBy_4 : decode cX0_ownedBy 4 = .ok (.iload_n 3, 1) := by decide +kernel
theorem dX0_ownedBy_5 : decode cX0_ownedBy 5 = .ok (.aload_n 0, 1) := by decide +kernel
theorem dX0_ownedBy_6 : decode cX0_ownedBy 6 = .ok (.getfield 53, 3) := by decide +kernel
theorem dX0_ownedBy_9 : decode cX0_ownedBy 9 = .ok (.getfield 71, 3) := by decide +kernel
theorem dX0_ownedBy_12 : decode cX0_ownedBy 12 = .ok (.if_icmp .ge 25, 3) := by decide +kernel
theorem dX0_ownedBy_15 : decode cX0_ownedBy 15 = .ok (.aload_n 0, 1) := by decide +kernel
theorem dX0_ownedBy_16 : decode cX0_ownedBy 16 = .ok (.getfield 28, 3) := by decide +kernel
theorem dX0_ownedBy_19 : decode cX0_ownedBy 19 = .ok (.iload_n 3, 1) := by decide +kernel
theorem dX0_ownedBy_20 : decode cX0_ownedBy 20 = .ok (.iaload, 1) := by decide +kernel
theorem dX0_ownedBy_21 : decode cX0_ownedBy 21 = .ok (.iload_n 1, 1) := by decide +kernel
theorem dX0_ownedBy_22 : decode cX0_ownedBy 22 = .ok (.if_icmp .ne 9, 3) := by decide +kernel
theorem dX0_ownedBy_25 : decode cX0_ownedBy 25 = .ok (.iload_n 2, 1) := by decide +kernel
theorem dX0_ownedBy_26 : decode cX0_ownedBy 26 = .ok (.iconst 1, 1) := by decide +kernel
theorem dX0_ownedBy_27 : decode cX0_ownedBy 27 = .ok (.iload_n 3, 1) := by decide +kernel
theorem dX0_ownedBy_28 : decode cX0_ownedBy 28 = .ok (.ishl, 1) := by decide +kernel
theorem dX0_ownedBy_29 : decode cX0_ownedBy 29 = .ok (.ior, 1) := by decide +kernel
theorem dX0_ownedBy_30 : decode cX0_ownedBy 30 = .ok (.istore_n 2, 1) := by decide +kernel
theorem dX0_ownedBy_31 : decode cX0_ownedBy 31 = .ok (.iinc 3 1, 3) := by decide +kernel
theorem dX0_ownedBy_34 : decode cX0_ownedBy 34 = .ok (.goto (-30), 3) := by decide +kernel
theorem dX0_ownedBy_37 : decode cX0_ownedBy 37 = .ok (.iload_n 2, 1) := by decide +kernel
theorem dX0_ownedBy_38 : decode cX0_ownedBy 38 = .ok (.ireturn, 1) := by decide +kernel
theorem dX0_ownedCoaches_0 : decode cX0_ownedCoaches 0 = .ok (.iconst 1, 1) := by decide +kernel
theorem dX0_ownedCoaches_1 : decode cX0_ownedCoaches 1 = .ok (.aload_n 0, 1) := by decide +kernel
theorem dX0_ownedCoaches_2 : decode cX0_ownedCoaches 2 = .ok (.getfield 53, 3) := by decide +kernel
theorem dX0_ownedCoaches_5 : decode cX0_ownedCoaches 5 = .ok (.getfield 71, 3) := by decide +kernel
theorem dX0_ownedCoaches_8 : decode cX0_ownedCoaches 8 = .ok (.ishl, 1) := by decide +kernel
theorem dX0_ownedCoaches_9 : decode cX0_ownedCoaches 9 = .ok (.iconst 1, 1) := by decide +kernel
theorem dX0_ownedCoaches_10 : decode cX0_ownedCoaches 10 = .ok (.isub, 1) := by decide +kernel
theorem dX0_ownedCoaches_11 : decode cX0_ownedCoaches 11 = .ok (.aload_n 0, 1) := by decide +kernel
theorem dX0_ownedCoaches_12 : decode cX0_ownedCoaches 12 = .ok (.iconst (-1), 1) := by decide +kernel
theorem dX0_ownedCoaches_13 : decode cX0_ownedCoaches 13 = .ok (.invokevirtual 76, 3) := by decide +kernel
theorem dX0_ownedCoaches_16 : decode cX0_ownedCoaches 16 = .ok (.iconst (-1), 1) := by decide +kernel
theorem dX0_ownedCoaches_17 : decode cX0_ownedCoaches 17 = .ok (.ixor, 1) := by decide +kernel
theorem dX0_ownedCoaches_18 : decode cX0_ownedCoaches 18 = .ok (.iand, 1) := by decide +kernel
theorem dX0_ownedCoaches_19 : decode cX0_ownedCoaches 19 = .ok (.ireturn, 1) := by decide +kernel
theorem dX0_ridersOf_0 : decode cX0_ridersOf 0 = .ok (.iconst 0, 1) := by decide +kernel
theorem dX0_ridersOf_1 : decode cX0_ridersOf 1 = .ok (.istore_n 2, 1) := by decide +kernel
theorem dX0_ridersOf_2 : decode cX0_ridersOf 2 = .ok (.iconst 0, 1) := by decide +kernel
theorem dX0_ridersOf_3 : decode cX0_ridersOf 3 = .ok (.istore_n 3, 1) := by decide +kernel
theorem dX0_ridersOf_4 : decode cX0_ridersOf 4 = .ok (.iload_n 3, 1) := by decide +kernel
theorem dX0_ridersOf_5 : decode cX0_ridersOf 5 = .ok (.aload_n 0, 1) := by decide +kernel
theorem dX0_ridersOf_6 : decode cX0_ridersOf 6 = .ok (.getfield 53, 3) := by decide +kernel
theorem dX0_ridersOf_9 : decode cX0_ridersOf 9 = .ok (.getfield 80, 3) := by decide +kernel
theorem dX0_ridersOf_12 : decode cX0_ridersOf 12 = .ok (.if_icmp .ge 25, 3) := by decide +kernel
theorem dX0_ridersOf_15 : decode cX0_ridersOf 15 = .ok (.aload_n 0, 1) := by decide +kernel
theorem dX0_ridersOf_16 : decode cX0_ridersOf 16 = .ok (.getfield 34, 3) := by decide +kernel
theorem dX0_ridersOf_19 : decode cX0_ridersOf 19 = .ok (.iload_n 3, 1) := by decide +kernel
theorem dX0_ridersOf_20 : decode cX0_ridersOf 20 = .ok (.iaload, 1) := by decide +kernel
theorem dX0_ridersOf_21 : decode cX0_ridersOf 21 = .ok (.iload_n 1, 1) := by decide +kernel
theorem dX0_ridersOf_22 : decode cX0_ridersOf 22 = .ok (.if_icmp .ne 9, 3) := by decide +kernel
theorem dX0_ridersOf_25 : decode cX0_ridersOf 25 = .ok (.iload_n 2, 1) := by decide +kernel
theorem dX0_ridersOf_26 : decode cX0_ridersOf 26 = .ok (.iconst 1, 1) := by decide +kernel
theorem dX0_ridersOf_27 : decode cX0_ridersOf 27 = .ok (.iload_n 3, 1) := by decide +kernel
theorem dX0_ridersOf_28 : decode cX0_ridersOf 28 = .ok (.ishl, 1) := by decide +kernel
theorem dX0_ridersOf_29 : decode cX0_ridersOf 29 = .ok (.ior, 1) := by decide +kernel
theorem dX0_ridersOf_30 : decode cX0_ridersOf 30 = .ok (.istore_n 2, 1) := by decide +kernel
theorem dX0_ridersOf_31 : decode cX0_ridersOf 31 = .ok (.iinc 3 1, 3) := by decide +kernel
theorem dX0_ridersOf_34 : decode cX0_ridersOf 34 = .ok (.goto (-30), 3) := by decide +kernel
theorem dX0_ridersOf_37 : decode cX0_ridersOf 37 = .ok (.iload_n 2, 1) := by decide +kernel
theorem dX0_ridersOf_38 : decode cX0_ridersOf 38 = .ok (.ireturn, 1) := by decide +kernel
theorem dX0_bookedOn_0 : decode cX0_bookedOn 0 = .ok (.iconst 0, 1) := by decide +kernel
theorem dX0_bookedOn_1 : decode cX0_bookedOn 1 = .ok (.istore_n 2, 1) := by decide +kernel
theorem dX0_bookedOn_2 : decode cX0_bookedOn 2 = .ok (.iconst 0, 1) := by decide +kernel
theorem dX0_bookedOn_3 : decode cX0_bookedOn 3 = .ok (.istore_n 3, 1) := by decide +kernel
theorem dX0_bookedOn_4 : decode cX0_bookedOn 4 = .ok (.iload_n 3, 1) := by decide +kernel
theorem dX0_bookedOn_5 : decode cX0_bookedOn 5 = .ok (.aload_n 0, 1) := by decide +kernel
theorem dX0_bookedOn_6 : decode cX0_bookedOn 6 = .ok (.getfield 53, 3) := by decide +kernel
theorem dX0_bookedOn_9 : decode cX0_bookedOn 9 = .ok (.getfield 80, 3) := by decide +kernel
theorem dX0_bookedOn_12 : decode cX0_bookedOn 12 = .ok (.if_icmp .ge 25, 3) := by decide +kernel
theorem dX0_bookedOn_15 : decode cX0_bookedOn 15 = .ok (.aload_n 0, 1) := by decide +kernel
theorem dX0_bookedOn_16 : decode cX0_bookedOn 16 = .ok (.getfield 40, 3) := by decide +kernel
theorem dX0_bookedOn_19 : decode cX0_bookedOn 19 = .ok (.iload_n 3, 1) := by decide +kernel
theorem dX0_bookedOn_20 : decode cX0_bookedOn 20 = .ok (.iaload, 1) := by decide +kernel
theorem dX0_bookedOn_21 : decode cX0_bookedOn 21 = .ok (.iload_n 1, 1) := by decide +kernel
theorem dX0_bookedOn_22 : decode cX0_bookedOn 22 = .ok (.if_icmp .ne 9, 3) := by decide +kernel
theorem dX0_bookedOn_25 : decode cX0_bookedOn 25 = .ok (.iload_n 2, 1) := by decide +kernel
theorem dX0_bookedOn_26 : decode cX0_bookedOn 26 = .ok (.iconst 1, 1) := by decide +kernel
theorem dX0_bookedOn_27 : decode cX0_bookedOn 27 = .ok (.iload_n 3, 1) := by decide +kernel
theorem dX0_bookedOn_28 : decode cX0_bookedOn 28 = .ok (.ishl, 1) := by decide +kernel
theorem dX0_bookedOn_29 : decode cX0_bookedOn 29 = .ok (.ior, 1) := by decide +kernel
theorem dX0_bookedOn_30 : decode cX0_bookedOn 30 = .ok (.istore_n 2, 1) := by decide +kernel
theorem dX0_bookedOn_31 : decode cX0_bookedOn 31 = .ok (.iinc 3 1, 3) := by decide +kernel
theorem dX0_bookedOn_34 : decode cX0_bookedOn 34 = .ok (.goto (-30), 3) := by decide +kernel
theorem dX0_bookedOn_37 : decode cX0_bookedOn 37 = .ok (.iload_n 2, 1) := by decide +kernel
theorem dX0_bookedOn_38 : decode cX0_bookedOn 38 = .ok (.ireturn, 1) := by decide +kernel
theorem dX0_emptyCoaches_0 : decode cX0_emptyCoaches 0 = .ok (.iconst 0, 1) := by decide +kernel
theorem dX0_emptyCoaches_1 : decode cX0_emptyCoaches 1 = .ok (.istore_n 1, 1) := by decide +kernel
theorem dX0_emptyCoaches_2 : decode cX0_emptyCoaches 2 = .ok (.iconst 0, 1) := by decide +kernel
theorem dX0_emptyCoaches_3 : decode cX0_emptyCoaches 3 = .ok (.istore_n 2, 1) := by decide +kernel
theorem dX0_emptyCoaches_4 : decode cX0_emptyCoaches 4 = .ok (.iload_n 2, 1) := by decide +kernel
theorem dX0_emptyCoaches_5 : decode cX0_emptyCoaches 5 = .ok (.aload_n 0, 1) := by decide +kernel
theorem dX0_emptyCoaches_6 : decode cX0_emptyCoaches 6 = .ok (.getfield 53, 3) := by decide +kernel
theorem dX0_emptyCoaches_9 : decode cX0_emptyCoaches 9 = .ok (.getfield 71, 3) := by decide +kernel
theorem dX0_emptyCoaches_12 : decode cX0_emptyCoaches 12 = .ok (.if_icmp .ge 29, 3) := by decide +kernel
theorem dX0_emptyCoaches_15 : decode cX0_emptyCoaches 15 = .ok (.aload_n 0, 1) := by decide +kernel
theorem dX0_emptyCoaches_16 : decode cX0_emptyCoaches 16 = .ok (.iload_n 2, 1) := by decide +kernel
theorem dX0_emptyCoaches_17 : decode cX0_emptyCoaches 17 = .ok (.invokevirtual 83, 3) := by decide +kernel
theorem dX0_emptyCoaches_20 : decode cX0_emptyCoaches 20 = .ok (.aload_n 0, 1) := by decide +kernel
theorem dX0_emptyCoaches_21 : decode cX0_emptyCoaches 21 = .ok (.iload_n 2, 1) := by decide +kernel
theorem dX0_emptyCoaches_22 : decode cX0_emptyCoaches 22 = .ok (.invokevirtual 86, 3) := by decide +kernel
theorem dX0_emptyCoaches_25 : decode cX0_emptyCoaches 25 = .ok (.ior, 1) := by decide +kernel
theorem dX0_emptyCoaches_26 : decode cX0_emptyCoaches 26 = .ok (.ifCond .ne 9, 3) := by decide +kernel
theorem dX0_emptyCoaches_29 : decode cX0_emptyCoaches 29 = .ok (.iload_n 1, 1) := by decide +kernel
theorem dX0_emptyCoaches_30 : decode cX0_emptyCoaches 30 = .ok (.iconst 1, 1) := by decide +kernel
theorem dX0_emptyCoaches_31 : decode cX0_emptyCoaches 31 = .ok (.iload_n 2, 1) := by decide +kernel
theorem dX0_emptyCoaches_32 : decode cX0_emptyCoaches 32 = .ok (.ishl, 1) := by decide +kernel
theorem dX0_emptyCoaches_33 : decode cX0_emptyCoaches 33 = .ok (.ior, 1) := by decide +kernel
theorem dX0_emptyCoaches_34 : decode cX0_emptyCoaches 34 = .ok (.istore_n 1, 1) := by decide +kernel
theorem dX0_emptyCoaches_35 : decode cX0_emptyCoaches 35 = .ok (.iinc 2 1, 3) := by decide +kernel
theorem dX0_emptyCoaches_38 : decode cX0_emptyCoaches 38 = .ok (.goto (-34), 3) := by decide +kernel
theorem dX0_emptyCoaches_41 : decode cX0_emptyCoaches 41 = .ok (.iload_n 1, 1) := by decide +kernel
theorem dX0_emptyCoaches_42 : decode cX0_emptyCoaches 42 = .ok (.ireturn, 1) := by decide +kernel
theorem dX0_greatestFleet_0 : decode cX0_greatestFleet 0 = .ok (.iconst (-1), 1) := by decide +kernel
theorem dX0_greatestFleet_1 : decode cX0_greatestFleet 1 = .ok (.istore_n 1, 1) := by decide +kernel
theorem dX0_greatestFleet_2 : decode cX0_greatestFleet 2 = .ok (.iconst 0, 1) := by decide +kernel
theorem dX0_greatestFleet_3 : decode cX0_greatestFleet 3 = .ok (.istore_n 2, 1) := by decide +kernel
theorem dX0_greatestFleet_4 : decode cX0_greatestFleet 4 = .ok (.iconst 0, 1) := by decide +kernel
theorem dX0_greatestFleet_5 : decode cX0_greatestFleet 5 = .ok (.istore_n 3, 1) := by decide +kernel
theorem dX0_greatestFleet_6 : decode cX0_greatestFleet 6 = .ok (.iconst 0, 1) := by decide +kernel
theorem dX0_greatestFleet_7 : decode cX0_greatestFleet 7 = .ok (.istore 4, 2) := by decide +kernel
theorem dX0_greatestFleet_9 : decode cX0_greatestFleet 9 = .ok (.iload 4, 2) := by decide +kernel
theorem dX0_greatestFleet_11 : decode cX0_greatestFleet 11 = .ok (.aload_n 0, 1) := by decide +kernel
theorem dX0_greatestFleet_12 : decode cX0_greatestFleet 12 = .ok (.getfield 53, 3) := by decide +kernel
theorem dX0_greatestFleet_15 : decode cX0_greatestFleet 15 = .ok (.getfield 80, 3) := by decide +kernel
theorem dX0_greatestFleet_18 : decode cX0_greatestFleet 18 = .ok (.if_icmp .ge 62, 3) := by decide +kernel
theorem dX0_greatestFleet_21 : decode cX0_greatestFleet 21 = .ok (.aload_n 0, 1) := by decide +kernel
theorem dX0_greatestFleet_22 : decode cX0_greatestFleet 22 = .ok (.iload 4, 2) := by decide +kernel
theorem dX0_greatestFleet_24 : decode cX0_greatestFleet 24 = .ok (.invokevirtual 76, 3) := by decide +kernel
theorem dX0_greatestFleet_27 : decode cX0_greatestFleet 27 = .ok (.invokestatic 89, 3) := by decide +kernel
theorem dX0_greatestFleet_30 : decode cX0_greatestFleet 30 = .ok (.istore 5, 2) := by decide +kernel
theorem dX0_greatestFleet_32 : decode cX0_greatestFleet 32 = .ok (.iload 5, 2) := by decide +kernel
theorem dX0_greatestFleet_34 : decode cX0_greatestFleet 34 = .ok (.iload_n 2, 1) := by decide +kernel
theorem dX0_greatestFleet_35 : decode cX0_greatestFleet 35 = .ok (.if_icmp .gt 25, 3) := by decide +kernel
theorem dX0_greatestFleet_38 : decode cX0_greatestFleet 38 = .ok (.iload_n 1, 1) := by decide +kernel
theorem dX0_greatestFleet_39 : decode cX0_greatestFleet 39 = .ok (.iconst (-1), 1) := by decide +kernel
theorem dX0_greatestFleet_40 : decode cX0_greatestFleet 40 = .ok (.if_icmp .eq 34, 3) := by decide +kernel
theorem dX0_greatestFleet_43 : decode cX0_greatestFleet 43 = .ok (.iload 5, 2) := by decide +kernel
theorem dX0_greatestFleet_45 : decode cX0_greatestFleet 45 = .ok (.iload_n 2, 1) := by decide +kernel
theorem dX0_greatestFleet_46 : decode cX0_greatestFleet 46 = .ok (.if_icmp .ne 28, 3) := by decide +kernel
theorem dX0_greatestFleet_49 : decode cX0_greatestFleet 49 = .ok (.aload_n 0, 1) := by decide +kernel
theorem dX0_greatestFleet_50 : decode cX0_greatestFleet 50 = .ok (.getfield 43, 3) := by decide +kernel
theorem dX0_greatestFleet_53 : decode cX0_greatestFleet 53 = .ok (.iload 4, 2) := by decide +kernel
theorem dX0_greatestFleet_55 : decode cX0_greatestFleet 55 = .ok (.iaload, 1) := by decide +kernel
theorem dX0_greatestFleet_56 : decode cX0_greatestFleet 56 = .ok (.iload_n 3, 1) := by decide +kernel
theorem dX0_greatestFleet_57 : decode cX0_greatestFleet 57 = .ok (.if_icmp .le 17, 3) := by decide +kernel
theorem dX0_greatestFleet_60 : decode cX0_greatestFleet 60 = .ok (.iload 4, 2) := by decide +kernel
theorem dX0_greatestFleet_62 : decode cX0_greatestFleet 62 = .ok (.istore_n 1, 1) := by decide +kernel
theorem dX0_greatestFleet_63 : decode cX0_greatestFleet 63 = .ok (.iload 5, 2) := by decide +kernel
theorem dX0_greatestFleet_65 : decode cX0_greatestFleet 65 = .ok (.istore_n 2, 1) := by decide +kernel
theorem dX0_greatestFleet_66 : decode cX0_greatestFleet 66 = .ok (.aload_n 0, 1) := by decide +kernel
theorem dX0_greatestFleet_67 : decode cX0_greatestFleet 67 = .ok (.getfield 43, 3) := by decide +kernel
theorem dX0_greatestFleet_70 : decode cX0_greatestFleet 70 = .ok (.iload 4, 2) := by decide +kernel
theorem dX0_greatestFleet_72 : decode cX0_greatestFleet 72 = .ok (.iaload, 1) := by decide +kernel
theorem dX0_greatestFleet_73 : decode cX0_greatestFleet 73 = .ok (.istore_n 3, 1) := by decide +kernel
theorem dX0_greatestFleet_74 : decode cX0_greatestFleet 74 = .ok (.iinc 4 1, 3) := by decide +kernel
theorem dX0_greatestFleet_77 : decode cX0_greatestFleet 77 = .ok (.goto (-68), 3) := by decide +kernel
theorem dX0_greatestFleet_80 : decode cX0_greatestFleet 80 = .ok (.iload_n 1, 1) := by decide +kernel
theorem dX0_greatestFleet_81 : decode cX0_greatestFleet 81 = .ok (.ireturn, 1) := by decide +kernel
theorem dX0_whereIs_0 : decode cX0_whereIs 0 = .ok (.aload_n 0, 1) := by decide +kernel
theorem dX0_whereIs_1 : decode cX0_whereIs 1 = .ok (.getfield 34, 3) := by decide +kernel
theorem dX0_whereIs_4 : decode cX0_whereIs 4 = .ok (.iload_n 1, 1) := by decide +kernel
theorem dX0_whereIs_5 : decode cX0_whereIs 5 = .ok (.iaload, 1) := by decide +kernel
theorem dX0_whereIs_6 : decode cX0_whereIs 6 = .ok (.istore_n 2, 1) := by decide +kernel
theorem dX0_whereIs_7 : decode cX0_whereIs 7 = .ok (.iload_n 2, 1) := by decide +kernel
theorem dX0_whereIs_8 : decode cX0_whereIs 8 = .ok (.ifCond .lt 17, 3) := by decide +kernel
theorem dX0_whereIs_11 : decode cX0_whereIs 11 = .ok (.iload_n 2, 1) := by decide +kernel
theorem dX0_whereIs_12 : decode cX0_whereIs 12 = .ok (.iconst 4, 1) := by decide +kernel
theorem dX0_whereIs_13 : decode cX0_whereIs 13 = .ok (.if_icmp .ge 12, 3) := by decide +kernel
theorem dX0_whereIs_16 : decode cX0_whereIs 16 = .ok (.aload_n 0, 1) := by decide +kernel
theorem dX0_whereIs_17 : decode cX0_whereIs 17 = .ok (.getfield 18, 3) := by decide +kernel
theorem dX0_whereIs_20 : decode cX0_whereIs 20 = .ok (.iload_n 2, 1) := by decide +kernel
theorem dX0_whereIs_21 : decode cX0_whereIs 21 = .ok (.iaload, 1) := by decide +kernel
theorem dX0_whereIs_22 : decode cX0_whereIs 22 = .ok (.goto 9, 3) := by decide +kernel
theorem dX0_whereIs_25 : decode cX0_whereIs 25 = .ok (.aload_n 0, 1) := by decide +kernel
theorem dX0_whereIs_26 : decode cX0_whereIs 26 = .ok (.getfield 31, 3) := by decide +kernel
theorem dX0_whereIs_29 : decode cX0_whereIs 29 = .ok (.iload_n 1, 1) := by decide +kernel
theorem dX0_whereIs_30 : decode cX0_whereIs 30 = .ok (.iaload, 1) := by decide +kernel
theorem dX0_whereIs_31 : decode cX0_whereIs 31 = .ok (.ireturn, 1) := by decide +kernel
theorem dX0_lag_0 : decode cX0_lag 0 = .ok (.aload_n 0, 1) := by decide +kernel
theorem dX0_lag_1 : decode cX0_lag 1 = .ok (.getfield 53, 3) := by decide +kernel
theorem dX0_lag_4 : decode cX0_lag 4 = .ok (.getfield 94, 3) := by decide +kernel
theorem dX0_lag_7 : decode cX0_lag 7 = .ok (.iload_n 1, 1) := by decide +kernel
theorem dX0_lag_8 : decode cX0_lag 8 = .ok (.iaload, 1) := by decide +kernel
theorem dX0_lag_9 : decode cX0_lag 9 = .ok (.aload_n 0, 1) := by decide +kernel
theorem dX0_lag_10 : decode cX0_lag 10 = .ok (.getfield 37, 3) := by decide +kernel
theorem dX0_lag_13 : decode cX0_lag 13 = .ok (.iload_n 1, 1) := by decide +kernel
theorem dX0_lag_14 : decode cX0_lag 14 = .ok (.iaload, 1) := by decide +kernel
theorem dX0_lag_15 : decode cX0_lag 15 = .ok (.aload_n 0, 1) := by decide +kernel
theorem dX0_lag_16 : decode cX0_lag 16 = .ok (.iload_n 1, 1) := by decide +kernel
theorem dX0_lag_17 : decode cX0_lag 17 = .ok (.invokevirtual 76, 3) := by decide +kernel
theorem dX0_lag_20 : decode cX0_lag 20 = .ok (.ifCond .ne 7, 3) := by decide +kernel
theorem dX0_lag_23 : decode cX0_lag 23 = .ok (.iconst 1, 1) := by decide +kernel
theorem dX0_lag_24 : decode cX0_lag 24 = .ok (.goto 4, 3) := by decide +kernel
theorem dX0_lag_27 : decode cX0_lag 27 = .ok (.iconst 0, 1) := by decide +kernel
theorem dX0_lag_28 : decode cX0_lag 28 = .ok (.aload_n 0, 1) := by decide +kernel
theorem dX0_lag_29 : decode cX0_lag 29 = .ok (.getfield 9, 3) := by decide +kernel
theorem dX0_lag_32 : decode cX0_lag 32 = .ok (.invokestatic 97, 3) := by decide +kernel
theorem dX0_lag_35 : decode cX0_lag 35 = .ok (.istore_n 2, 1) := by decide +kernel
theorem dX0_lag_36 : decode cX0_lag 36 = .ok (.aload_n 0, 1) := by decide +kernel
theorem dX0_lag_37 : decode cX0_lag 37 = .ok (.getfield 31, 3) := by decide +kernel
theorem dX0_lag_40 : decode cX0_lag 40 = .ok (.iload_n 1, 1) := by decide +kernel
theorem dX0_lag_41 : decode cX0_lag 41 = .ok (.iaload, 1) := by decide +kernel
theorem dX0_lag_42 : decode cX0_lag 42 = .ok (.ifCond .lt 24, 3) := by decide +kernel
theorem dX0_lag_45 : decode cX0_lag 45 = .ok (.aload_n 0, 1) := by decide +kernel
theorem dX0_lag_46 : decode cX0_lag 46 = .ok (.getfield 15, 3) := by decide +kernel
theorem dX0_lag_49 : decode cX0_lag 49 = .ok (.aload_n 0, 1) := by decide +kernel
theorem dX0_lag_50 : decode cX0_lag 50 = .ok (.getfield 31, 3) := by decide +kernel
theorem dX0_lag_53 : decode cX0_lag 53 = .ok (.iload_n 1, 1) := by decide +kernel
theorem dX0_lag_54 : decode cX0_lag 54 = .ok (.iaload, 1) := by decide +kernel
theorem dX0_lag_55 : decode cX0_lag 55 = .ok (.ishr, 1) := by decide +kernel
theorem dX0_lag_56 : decode cX0_lag 56 = .ok (.iconst 1, 1) := by decide +kernel
theorem dX0_lag_57 : decode cX0_lag 57 = .ok (.iand, 1) := by decide +kernel
theorem dX0_lag_58 : decode cX0_lag 58 = .ok (.iconst 1, 1) := by decide +kernel
theorem dX0_lag_59 : decode cX0_lag 59 = .ok (.if_icmp .ne 7, 3) := by decide +kernel
theorem dX0_lag_62 : decode cX0_lag 62 = .ok (.iconst 1, 1) := by decide +kernel
theorem dX0_lag_63 : decode cX0_lag 63 = .ok (.goto 4, 3) := by decide +kernel
theorem dX0_lag_66 : decode cX0_lag 66 = .ok (.iconst 0, 1) := by decide +kernel
theorem dX0_lag_67 : decode cX0_lag 67 = .ok (.istore_n 3, 1) := by decide +kernel
theorem dX0_lag_68 : decode cX0_lag 68 = .ok (.iload_n 3, 1) := by decide +kernel
theorem dX0_lag_69 : decode cX0_lag 69 = .ok (.ifCond .eq 13, 3) := by decide +kernel
theorem dX0_lag_72 : decode cX0_lag 72 = .ok (.iload_n 2, 1) := by decide +kernel
theorem dX0_lag_73 : decode cX0_lag 73 = .ok (.iconst 5, 1) := by decide +kernel
theorem dX0_lag_74 : decode cX0_lag 74 = .ok (.isub, 1) := by decide +kernel
theorem dX0_lag_75 : decode cX0_lag 75 = .ok (.iconst 0, 1) := by decide +kernel
theorem dX0_lag_76 : decode cX0_lag 76 = .ok (.invokestatic 101, 3) := by decide +kernel
theorem dX0_lag_79 : decode cX0_lag 79 = .ok (.goto 4, 3) := by decide +kernel
theorem dX0_lag_82 : decode cX0_lag 82 = .ok (.iload_n 2, 1) := by decide +kernel
theorem dX0_lag_83 : decode cX0_lag 83 = .ok (.ireturn, 1) := by decide +kernel
theorem dX0_isCalledBy_0 : decode cX0_isCalledBy 0 = .ok (.aload_n 0, 1) := by decide +kernel
theorem dX0_isCalledBy_1 : decode cX0_isCalledBy 1 = .ok (.getfield 34, 3) := by decide +kernel
theorem dX0_isCalledBy_4 : decode cX0_isCalledBy 4 = .ok (.iload_n 2, 1) := by decide +kernel
theorem dX0_isCalledBy_5 : decode cX0_isCalledBy 5 = .ok (.iaload, 1) := by decide +kernel
theorem dX0_isCalledBy_6 : decode cX0_isCalledBy 6 = .ok (.iconst (-1), 1) := by decide +kernel
theorem dX0_isCalledBy_7 : decode cX0_isCalledBy 7 = .ok (.if_icmp .ne 32, 3) := by decide +kernel
theorem dX0_isCalledBy_10 : decode cX0_isCalledBy 10 = .ok (.aload_n 0, 1) := by decide +kernel
theorem dX0_isCalledBy_11 : decode cX0_isCalledBy 11 = .ok (.getfield 40, 3) := by decide +kernel
theorem dX0_isCalledBy_14 : decode cX0_isCalledBy 14 = .ok (.iload_n 2, 1) := by decide +kernel
theorem dX0_isCalledBy_15 : decode cX0_isCalledBy 15 = .ok (.iaload, 1) := by decide +kernel
theorem dX0_isCalledBy_16 : decode cX0_isCalledBy 16 = .ok (.iload_n 1, 1) := by decide +kernel
theorem dX0_isCalledBy_17 : decode cX0_isCalledBy 17 = .ok (.if_icmp .ne 22, 3) := by decide +kernel
theorem dX0_isCalledBy_20 : decode cX0_isCalledBy 20 = .ok (.aload_n 0, 1) := by decide +kernel
theorem dX0_isCalledBy_21 : decode cX0_isCalledBy 21 = .ok (.getfield 31, 3) := by decide +kernel
theorem dX0_isCalledBy_24 : decode cX0_isCalledBy 24 = .ok (.iload_n 2, 1) := by decide +kernel
theorem dX0_isCalledBy_25 : decode cX0_isCalledBy 25 = .ok (.iaload, 1) := by decide +kernel
theorem dX0_isCalledBy_26 : decode cX0_isCalledBy 26 = .ok (.aload_n 0, 1) := by decide +kernel
theorem dX0_isCalledBy_27 : decode cX0_isCalledBy 27 = .ok (.getfield 18, 3) := by decide +kernel
theorem dX0_isCalledBy_30 : decode cX0_isCalledBy 30 = .ok (.iload_n 1, 1) := by decide +kernel
theorem dX0_isCalledBy_31 : decode cX0_isCalledBy 31 = .ok (.iaload, 1) := by decide +kernel
theorem dX0_isCalledBy_32 : decode cX0_isCalledBy 32 = .ok (.if_icmp .ne 7, 3) := by decide +kernel
theorem dX0_isCalledBy_35 : decode cX0_isCalledBy 35 = .ok (.iconst 1, 1) := by decide +kernel
theorem dX0_isCalledBy_36 : decode cX0_isCalledBy 36 = .ok (.goto 4, 3) := by decide +kernel
theorem dX0_isCalledBy_39 : decode cX0_isCalledBy 39 = .ok (.iconst 0, 1) := by decide +kernel
theorem dX0_isCalledBy_40 : decode cX0_isCalledBy 40 = .ok (.ireturn, 1) := by decide +kernel
theorem dX0_greatestLag_0 : decode cX0_greatestLag 0 = .ok (.iconst 0, 1) := by decide +kernel
theorem dX0_greatestLag_1 : decode cX0_greatestLag 1 = .ok (.istore_n 2, 1) := by decide +kernel
theorem dX0_greatestLag_2 : decode cX0_greatestLag 2 = .ok (.iconst 0, 1) := by decide +kernel
theorem dX0_greatestLag_3 : decode cX0_greatestLag 3 = .ok (.istore_n 3, 1) := by decide +kernel
theorem dX0_greatestLag_4 : decode cX0_greatestLag 4 = .ok (.iload_n 3, 1) := by decide +kernel
theorem dX0_greatestLag_5 : decode cX0_greatestLag 5 = .ok (.aload_n 0, 1) := by decide +kernel
theorem dX0_greatestLag_6 : decode cX0_greatestLag 6 = .ok (.getfield 53, 3) := by decide +kernel
theorem dX0_greatestLag_9 : decode cX0_greatestLag 9 = .ok (.getfield 80, 3) := by decide +kernel
theorem dX0_greatestLag_12 : decode cX0_greatestLag 12 = .ok (.if_icmp .ge 28, 3) := by decide +kernel
theorem dX0_greatestLag_15 : decode cX0_greatestLag 15 = .ok (.aload_n 0, 1) := by decide +kernel
theorem dX0_greatestLag_16 : decode cX0_greatestLag 16 = .ok (.iload_n 1, 1) := by decide +kernel
theorem dX0_greatestLag_17 : decode cX0_greatestLag 17 = .ok (.iload_n 3, 1) := by decide +kernel
theorem dX0_greatestLag_18 : decode cX0_greatestLag 18 = .ok (.invokevirtual 107, 3) := by decide +kernel
theorem dX0_greatestLag_21 : decode cX0_greatestLag 21 = .ok (.ifCond .eq 13, 3) := by decide +kernel
theorem dX0_greatestLag_24 : decode cX0_greatestLag 24 = .ok (.iload_n 2, 1) := by decide +kernel
theorem dX0_greatestLag_25 : decode cX0_greatestLag 25 = .ok (.aload_n 0, 1) := by decide +kernel
theorem dX0_greatestLag_26 : decode cX0_greatestLag 26 = .ok (.iload_n 3, 1) := by decide +kernel
theorem dX0_greatestLag_27 : decode cX0_greatestLag 27 = .ok (.invokevirtual 111, 3) := by decide +kernel
theorem dX0_greatestLag_30 : decode cX0_greatestLag 30 = .ok (.invokestatic 101, 3) := by decide +kernel
theorem dX0_greatestLag_33 : decode cX0_greatestLag 33 = .ok (.istore_n 2, 1) := by decide +kernel
theorem dX0_greatestLag_34 : decode cX0_greatestLag 34 = .ok (.iinc 3 1, 3) := by decide +kernel
theorem dX0_greatestLag_37 : decode cX0_greatestLag 37 = .ok (.goto (-33), 3) := by decide +kernel
theorem dX0_greatestLag_40 : decode cX0_greatestLag 40 = .ok (.iload_n 2, 1) := by decide +kernel
theorem dX0_greatestLag_41 : decode cX0_greatestLag 41 = .ok (.ireturn, 1) := by decide +kernel
theorem dX0_leftBy_0 : decode cX0_leftBy 0 = .ok (.iconst 0, 1) := by decide +kernel
theorem dX0_leftBy_1 : decode cX0_leftBy 1 = .ok (.istore_n 2, 1) := by decide +kernel
theorem dX0_leftBy_2 : decode cX0_leftBy 2 = .ok (.iconst 0, 1) := by decide +kernel
theorem dX0_leftBy_3 : decode cX0_leftBy 3 = .ok (.istore_n 3, 1) := by decide +kernel
theorem dX0_leftBy_4 : decode cX0_leftBy 4 = .ok (.iload_n 3, 1) := by decide +kernel
theorem dX0_leftBy_5 : decode cX0_leftBy 5 = .ok (.aload_n 0, 1) := by decide +kernel
theorem dX0_leftBy_6 : decode cX0_leftBy 6 = .ok (.getfield 53, 3) := by decide +kernel
theorem dX0_leftBy_9 : decode cX0_leftBy 9 = .ok (.getfield 80, 3) := by decide +kernel
theorem dX0_leftBy_12 : decode cX0_leftBy 12 = .ok (.if_icmp .ge 38, 3) := by decide +kernel
theorem dX0_leftBy_15 : decode cX0_leftBy 15 = .ok (.aload_n 0, 1) := by decide +kernel
theorem dX0_leftBy_16 : decode cX0_leftBy 16 = .ok (.iload_n 1, 1) := by decide +kernel
theorem dX0_leftBy_17 : decode cX0_leftBy 17 = .ok (.iload_n 3, 1) := by decide +kernel
theorem dX0_leftBy_18 : decode cX0_leftBy 18 = .ok (.invokevirtual 107, 3) := by decide +kernel
theorem dX0_leftBy_21 : decode cX0_leftBy 21 = .ok (.ifCond .eq 23, 3) := by decide +kernel
theorem dX0_leftBy_24 : decode cX0_leftBy 24 = .ok (.aload_n 0, 1) := by decide +kernel
theorem dX0_leftBy_25 : decode cX0_leftBy 25 = .ok (.iload_n 3, 1) := by decide +kernel
theorem dX0_leftBy_26 : decode cX0_leftBy 26 = .ok (.invokevirtual 111, 3) := by decide +kernel
theorem dX0_leftBy_29 : decode cX0_leftBy 29 = .ok (.aload_n 0, 1) := by decide +kernel
theorem dX0_leftBy_30 : decode cX0_leftBy 30 = .ok (.getfield 25, 3) := by decide +kernel
theorem dX0_leftBy_33 : decode cX0_leftBy 33 = .ok (.iload_n 1, 1) := by decide +kernel
theorem dX0_leftBy_34 : decode cX0_leftBy 34 = .ok (.iaload, 1) := by decide +kernel
theorem dX0_leftBy_35 : decode cX0_leftBy 35 = .ok (.if_icmp .le 9, 3) := by decide +kernel
theorem dX0_leftBy_38 : decode cX0_leftBy 38 = .ok (.iload_n 2, 1) := by decide +kernel
theorem dX0_leftBy_39 : decode cX0_leftBy 39 = .ok (.iconst 1, 1) := by decide +kernel
theorem dX0_leftBy_40 : decode cX0_leftBy 40 = .ok (.iload_n 3, 1) := by decide +kernel
theorem dX0_leftBy_41 : decode cX0_leftBy 41 = .ok (.ishl, 1) := by decide +kernel
theorem dX0_leftBy_42 : decode cX0_leftBy 42 = .ok (.ior, 1) := by decide +kernel
theorem dX0_leftBy_43 : decode cX0_leftBy 43 = .ok (.istore_n 2, 1) := by decide +kernel
theorem dX0_leftBy_44 : decode cX0_leftBy 44 = .ok (.iinc 3 1, 3) := by decide +kernel
theorem dX0_leftBy_47 : decode cX0_leftBy 47 = .ok (.goto (-43), 3) := by decide +kernel
theorem dX0_leftBy_50 : decode cX0_leftBy 50 = .ok (.iload_n 2, 1) := by decide +kernel
theorem dX0_leftBy_51 : decode cX0_leftBy 51 = .ok (.ireturn, 1) := by decide +kernel
theorem dX0_ownerBehind_0 : decode cX0_ownerBehind 0 = .ok (.aload_n 0, 1) := by decide +kernel
theorem dX0_ownerBehind_1 : decode cX0_ownerBehind 1 = .ok (.getfield 28, 3) := by decide +kernel
theorem dX0_ownerBehind_4 : decode cX0_ownerBehind 4 = .ok (.iload_n 1, 1) := by decide +kernel
theorem dX0_ownerBehind_5 : decode cX0_ownerBehind 5 = .ok (.iaload, 1) := by decide +kernel
theorem dX0_ownerBehind_6 : decode cX0_ownerBehind 6 = .ok (.istore_n 3, 1) := by decide +kernel
theorem dX0_ownerBehind_7 : decode cX0_ownerBehind 7 = .ok (.iconst (-1), 1) := by decide +kernel
theorem dX0_ownerBehind_8 : decode cX0_ownerBehind 8 = .ok (.istore 4, 2) := by decide +kernel
theorem dX0_ownerBehind_10 : decode cX0_ownerBehind 10 = .ok (.iconst 0, 1) := by decide +kernel
theorem dX0_ownerBehind_11 : decode cX0_ownerBehind 11 = .ok (.istore 5, 2) := by decide +kernel
theorem dX0_ownerBehind_13 : decode cX0_ownerBehind 13 = .ok (.iload 5, 2) := by decide +kernel
theorem dX0_ownerBehind_15 : decode cX0_ownerBehind 15 = .ok (.aload_n 0, 1) := by decide +kernel
theorem dX0_ownerBehind_16 : decode cX0_ownerBehind 16 = .ok (.getfield 53, 3) := by decide +kernel
theorem dX0_ownerBehind_19 : decode cX0_ownerBehind 19 = .ok (.getfield 80, 3) := by decide +kernel
theorem dX0_ownerBehind_22 : decode cX0_ownerBehind 22 = .ok (.if_icmp .ge 41, 3) := by decide +kernel
theorem dX0_ownerBehind_25 : decode cX0_ownerBehind 25 = .ok (.iload_n 2, 1) := by decide +kernel
theorem dX0_ownerBehind_26 : decode cX0_ownerBehind 26 = .ok (.iload 5, 2) := by decide +kernel
theorem dX0_ownerBehind_28 : decode cX0_ownerBehind 28 = .ok (.ishr, 1) := by decide +kernel
theorem dX0_ownerBehind_29 : decode cX0_ownerBehind 29 = .ok (.iconst 1, 1) := by decide +kernel
theorem dX0_ownerBehind_30 : decode cX0_ownerBehind 30 = .ok (.iand, 1) := by decide +kernel
theorem dX0_ownerBehind_31 : decode cX0_ownerBehind 31 = .ok (.iconst 1, 1) := by decide +kernel
theorem dX0_ownerBehind_32 : decode cX0_ownerBehind 32 = .ok (.if_icmp .ne 25, 3) := by decide +kernel
theorem dX0_ownerBehind_35 : decode cX0_ownerBehind 35 = .ok (.aload_n 0, 1) := by decide +kernel
theorem dX0_ownerBehind_36 : decode cX0_ownerBehind 36 = .ok (.iload 5, 2) := by decide +kernel
theorem dX0_ownerBehind_38 : decode cX0_ownerBehind 38 = .ok (.invokevirtual 111, 3) := by decide +kernel
theorem dX0_ownerBehind_41 : decode cX0_ownerBehind 41 = .ok (.iload 4, 2) := by decide +kernel
theorem dX0_ownerBehind_43 : decode cX0_ownerBehind 43 = .ok (.if_icmp .le 14, 3) := by decide +kernel
theorem dX0_ownerBehind_46 : decode cX0_ownerBehind 46 = .ok (.iload 5, 2) := by decide +kernel
theorem dX0_ownerBehind_48 : decode cX0_ownerBehind 48 = .ok (.istore_n 3, 1) := by decide +kernel
theorem dX0_ownerBehind_49 : decode cX0_ownerBehind 49 = .ok (.aload_n 0, 1) := by decide +kernel
theorem dX0_ownerBehind_50 : decode cX0_ownerBehind 50 = .ok (.iload 5, 2) := by decide +kernel
theorem dX0_ownerBehind_52 : decode cX0_ownerBehind 52 = .ok (.invokevirtual 111, 3) := by decide +kernel
theorem dX0_ownerBehind_55 : decode cX0_ownerBehind 55 = .ok (.istore 4, 2) := by decide +kernel
theorem dX0_ownerBehind_57 : decode cX0_ownerBehind 57 = .ok (.iinc 5 1, 3) := by decide +kernel
theorem dX0_ownerBehind_60 : decode cX0_ownerBehind 60 = .ok (.goto (-47), 3) := by decide +kernel
theorem dX0_ownerBehind_63 : decode cX0_ownerBehind 63 = .ok (.iload_n 3, 1) := by decide +kernel
theorem dX0_ownerBehind_64 : decode cX0_ownerBehind 64 = .ok (.ireturn, 1) := by decide +kernel
theorem dX0_blowRounds_0 : decode cX0_blowRounds 0 = .ok (.iconst 0, 1) := by decide +kernel
theorem dX0_blowRounds_1 : decode cX0_blowRounds 1 = .ok (.istore_n 2, 1) := by decide +kernel
theorem dX0_blowRounds_2 : decode cX0_blowRounds 2 = .ok (.iload_n 2, 1) := by decide +kernel
theorem dX0_blowRounds_3 : decode cX0_blowRounds 3 = .ok (.iload_n 1, 1) := by decide +kernel
theorem dX0_blowRounds_4 : decode cX0_blowRounds 4 = .ok (.if_icmp .ge 34, 3) := by decide +kernel
theorem dX0_blowRounds_7 : decode cX0_blowRounds 7 = .ok (.iconst 0, 1) := by decide +kernel
theorem dX0_blowRounds_8 : decode cX0_blowRounds 8 = .ok (.istore_n 3, 1) := by decide +kernel
theorem dX0_blowRounds_9 : decode cX0_blowRounds 9 = .ok (.iload_n 3, 1) := by decide +kernel
theorem dX0_blowRounds_10 : decode cX0_blowRounds 10 = .ok (.aload_n 0, 1) := by decide +kernel
theorem dX0_blowRounds_11 : decode cX0_blowRounds 11 = .ok (.getfield 53, 3) := by decide +kernel
theorem dX0_blowRounds_14 : decode cX0_blowRounds 14 = .ok (.getfield 71, 3) := by decide +kernel
theorem dX0_blowRounds_17 : decode cX0_blowRounds 17 = .ok (.if_icmp .ge 15, 3) := by decide +kernel
theorem dX0_blowRounds_20 : decode cX0_blowRounds 20 = .ok (.aload_n 0, 1) := by decide +kernel
theorem dX0_blowRounds_21 : decode cX0_blowRounds 21 = .ok (.iload_n 3, 1) := by decide +kernel
theorem dX0_blowRounds_22 : decode cX0_blowRounds 22 = .ok (.invokevirtual 114, 3) := by decide +kernel
theorem dX0_blowRounds_25 : decode cX0_blowRounds 25 = .ok (.pop, 1) := by decide +kernel
theorem dX0_blowRounds_26 : decode cX0_blowRounds 26 = .ok (.iinc 3 1, 3) := by decide +kernel
theorem dX0_blowRounds_29 : decode cX0_blowRounds 29 = .ok (.goto (-20), 3) := by decide +kernel
theorem dX0_blowRounds_32 : decode cX0_blowRounds 32 = .ok (.iinc 2 1, 3) := by decide +kernel
theorem dX0_blowRounds_35 : decode cX0_blowRounds 35 = .ok (.goto (-33), 3) := by decide +kernel
theorem dX0_blowRounds_38 : decode cX0_blowRounds 38 = .ok (.return_, 1) := by decide +kernel
theorem dX0_blow_0 : decode cX0_blow 0 = .ok (.aload_n 0, 1) := by decide +kernel
theorem dX0_blow_1 : decode cX0_blow 1 = .ok (.iload_n 1, 1) := by decide +kernel
theorem dX0_blow_2 : decode cX0_blow 2 = .ok (.invokevirtual 117, 3) := by decide +kernel
theorem dX0_blow_5 : decode cX0_blow 5 = .ok (.istore_n 2, 1) := by decide +kernel
theorem dX0_blow_6 : decode cX0_blow 6 = .ok (.aload_n 0, 1) := by decide +kernel
theorem dX0_blow_7 : decode cX0_blow 7 = .ok (.iload_n 1, 1) := by decide +kernel
theorem dX0_blow_8 : decode cX0_blow 8 = .ok (.iload_n 2, 1) := by decide +kernel
theorem dX0_blow_9 : decode cX0_blow 9 = .ok (.invokevirtual 120, 3) := by decide +kernel
theorem dX0_blow_12 : decode cX0_blow 12 = .ok (.istore_n 3, 1) := by decide +kernel
theorem dX0_blow_13 : decode cX0_blow 13 = .ok (.iload_n 2, 1) := by decide +kernel
theorem dX0_blow_14 : decode cX0_blow 14 = .ok (.ifCond .eq 28, 3) := by decide +kernel
theorem dX0_blow_17 : decode cX0_blow 17 = .ok (.aload_n 0, 1) := by decide +kernel
theorem dX0_blow_18 : decode cX0_blow 18 = .ok (.getfield 49, 3) := by decide +kernel
theorem dX0_blow_21 : decode cX0_blow 21 = .ok (.aload_n 0, 1) := by decide +kernel
theorem dX0_blow_22 : decode cX0_blow 22 = .ok (.getfield 9, 3) := by decide +kernel
theorem dX0_blow_25 : decode cX0_blow 25 = .ok (.iload_n 1, 1) := by decide +kernel
theorem dX0_blow_26 : decode cX0_blow 26 = .ok (.aload_n 0, 1) := by decide +kernel
theorem dX0_blow_27 : decode cX0_blow 27 = .ok (.getfield 18, 3) := by decide +kernel
theorem dX0_blow_30 : decode cX0_blow 30 = .ok (.iload_n 1, 1) := by decide +kernel
theorem dX0_blow_31 : decode cX0_blow 31 = .ok (.iaload, 1) := by decide +kernel
theorem dX0_blow_32 : decode cX0_blow 32 = .ok (.iload_n 3, 1) := by decide +kernel
theorem dX0_blow_33 : decode cX0_blow 33 = .ok (.aload_n 0, 1) := by decide +kernel
theorem dX0_blow_34 : decode cX0_blow 34 = .ok (.getfield 28, 3) := by decide +kernel
theorem dX0_blow_37 : decode cX0_blow 37 = .ok (.iload_n 1, 1) := by decide +kernel
theorem dX0_blow_38 : decode cX0_blow 38 = .ok (.iaload, 1) := by decide +kernel
theorem dX0_blow_39 : decode cX0_blow 39 = .ok (.invokevirtual 123, 3) := by decide +kernel
theorem dX0_blow_42 : decode cX0_blow 42 = .ok (.aload_n 0, 1) := by decide +kernel
theorem dX0_blow_43 : decode cX0_blow 43 = .ok (.iload_n 1, 1) := by decide +kernel
theorem dX0_blow_44 : decode cX0_blow 44 = .ok (.iload_n 2, 1) := by decide +kernel
theorem dX0_blow_45 : decode cX0_blow 45 = .ok (.invokevirtual 127, 3) := by decide +kernel
theorem dX0_blow_48 : decode cX0_blow 48 = .ok (.aload_n 0, 1) := by decide +kernel
theorem dX0_blow_49 : decode cX0_blow 49 = .ok (.getfield 28, 3) := by decide +kernel
theorem dX0_blow_52 : decode cX0_blow 52 = .ok (.iload_n 1, 1) := by decide +kernel
theorem dX0_blow_53 : decode cX0_blow 53 = .ok (.iload_n 3, 1) := by decide +kernel
theorem dX0_blow_54 : decode cX0_blow 54 = .ok (.iastore, 1) := by decide +kernel
theorem dX0_blow_55 : decode cX0_blow 55 = .ok (.aload_n 0, 1) := by decide +kernel
theorem dX0_blow_56 : decode cX0_blow 56 = .ok (.iload_n 1, 1) := by decide +kernel
theorem dX0_blow_57 : decode cX0_blow 57 = .ok (.invokevirtual 131, 3) := by decide +kernel
theorem dX0_blow_60 : decode cX0_blow 60 = .ok (.aload_n 0, 1) := by decide +kernel
theorem dX0_blow_61 : decode cX0_blow 61 = .ok (.iload_n 1, 1) := by decide +kernel
theorem dX0_blow_62 : decode cX0_blow 62 = .ok (.invokevirtual 135, 3) := by decide +kernel
theorem dX0_blow_65 : decode cX0_blow 65 = .ok (.aload_n 0, 1) := by decide +kernel
theorem dX0_blow_66 : decode cX0_blow 66 = .ok (.dup, 1) := by decide +kernel
theorem dX0_blow_67 : decode cX0_blow 67 = .ok (.getfield 9, 3) := by decide +kernel
theorem dX0_blow_70 : decode cX0_blow 70 = .ok (.iconst 1, 1) := by decide +kernel
theorem dX0_blow_71 : decode cX0_blow 71 = .ok (.iadd, 1) := by decide +kernel
theorem dX0_blow_72 : decode cX0_blow 72 = .ok (.putfield 9, 3) := by decide +kernel
theorem dX0_blow_75 : decode cX0_blow 75 = .ok (.iload_n 2, 1) := by decide +kernel
theorem dX0_blow_76 : decode cX0_blow 76 = .ok (.ireturn, 1) := by decide +kernel
theorem dX0_callIn_0 : decode cX0_callIn 0 = .ok (.iconst 0, 1) := by decide +kernel
theorem dX0_callIn_1 : decode cX0_callIn 1 = .ok (.istore_n 3, 1) := by decide +kernel
theorem dX0_callIn_2 : decode cX0_callIn 2 = .ok (.iload_n 3, 1) := by decide +kernel
theorem dX0_callIn_3 : decode cX0_callIn 3 = .ok (.aload_n 0, 1) := by decide +kernel
theorem dX0_callIn_4 : decode cX0_callIn 4 = .ok (.getfield 53, 3) := by decide +kernel
theorem dX0_callIn_7 : decode cX0_callIn 7 = .ok (.getfield 80, 3) := by decide +kernel
theorem dX0_callIn_10 : decode cX0_callIn 10 = .ok (.if_icmp .ge 51, 3) := by decide +kernel
theorem dX0_callIn_13 : decode cX0_callIn 13 = .ok (.iload_n 2, 1) := by decide +kernel
theorem dX0_callIn_14 : decode cX0_callIn 14 = .ok (.iload_n 3, 1) := by decide +kernel
theorem dX0_callIn_15 : decode cX0_callIn 15 = .ok (.ishr, 1) := by decide +kernel
theorem dX0_callIn_16 : decode cX0_callIn 16 = .ok (.iconst 1, 1) := by decide +kernel
theorem dX0_callIn_17 : decode cX0_callIn 17 = .ok (.iand, 1) := by decide +kernel
theorem dX0_callIn_18 : decode cX0_callIn 18 = .ok (.iconst 1, 1) := by decide +kernel
theorem dX0_callIn_19 : decode cX0_callIn 19 = .ok (.if_icmp .ne 13, 3) := by decide +kernel
theorem dX0_callIn_22 : decode cX0_callIn 22 = .ok (.aload_n 0, 1) := by decide +kernel
theorem dX0_callIn_23 : decode cX0_callIn 23 = .ok (.getfield 40, 3) := by decide +kernel
theorem dX0_callIn_26 : decode cX0_callIn 26 = .ok (.iload_n 3, 1) := by decide +kernel
theorem dX0_callIn_27 : decode cX0_callIn 27 = .ok (.iconst (-1), 1) := by decide +kernel
theorem dX0_callIn_28 : decode cX0_callIn 28 = .ok (.iastore, 1) := by decide +kernel
theorem dX0_callIn_29 : decode cX0_callIn 29 = .ok (.goto 26, 3) := by decide +kernel
theorem dX0_callIn_32 : decode cX0_callIn 32 = .ok (.aload_n 0, 1) := by decide +kernel
theorem dX0_callIn_33 : decode cX0_callIn 33 = .ok (.iload_n 1, 1) := by decide +kernel
theorem dX0_callIn_34 : decode cX0_callIn 34 = .ok (.iload_n 3, 1) := by decide +kernel
theorem dX0_callIn_35 : decode cX0_callIn 35 = .ok (.invokevirtual 107, 3) := by decide +kernel
theorem dX0_callIn_38 : decode cX0_callIn 38 = .ok (.ifCond .eq 17, 3) := by decide +kernel
theorem dX0_callIn_41 : decode cX0_callIn 41 = .ok (.aload_n 0, 1) := by decide +kernel
theorem dX0_callIn_42 : decode cX0_callIn 42 = .ok (.getfield 31, 3) := by decide +kernel
theorem dX0_callIn_45 : decode cX0_callIn 45 = .ok (.iload_n 3, 1) := by decide +kernel
theorem dX0_callIn_46 : decode cX0_callIn 46 = .ok (.iconst (-1), 1) := by decide +kernel
theorem dX0_callIn_47 : decode cX0_callIn 47 = .ok (.iastore, 1) := by decide +kernel
theorem dX0_callIn_48 : decode cX0_callIn 48 = .ok (.aload_n 0, 1) := by decide +kernel
theorem dX0_callIn_49 : decode cX0_callIn 49 = .ok (.getfield 34, 3) := by decide +kernel
theorem dX0_callIn_52 : decode cX0_callIn 52 = .ok (.iload_n 3, 1) := by decide +kernel
theorem dX0_callIn_53 : decode cX0_callIn 53 = .ok (.iload_n 1, 1) := by decide +kernel
theorem dX0_callIn_54 : decode cX0_callIn 54 = .ok (.iastore, 1) := by decide +kernel
theorem dX0_callIn_55 : decode cX0_callIn 55 = .ok (.iinc 3 1, 3) := by decide +kernel
theorem dX0_callIn_58 : decode cX0_callIn 58 = .ok (.goto (-56), 3) := by decide +kernel
theorem dX0_callIn_61 : decode cX0_callIn 61 = .ok (.return_, 1) := by decide +kernel
theorem dX0_go_0 : decode cX0_go 0 = .ok (.aload_n 0, 1) := by decide +kernel
theorem dX0_go_1 : decode cX0_go 1 = .ok (.getfield 22, 3) := by decide +kernel
theorem dX0_go_4 : decode cX0_go 4 = .ok (.iload_n 1, 1) := by decide +kernel
theorem dX0_go_5 : decode cX0_go 5 = .ok (.iaload, 1) := by decide +kernel
theorem dX0_go_6 : decode cX0_go 6 = .ok (.iconst 1, 1) := by decide +kernel
theorem dX0_go_7 : decode cX0_go 7 = .ok (.if_icmp .ne 31, 3) := by decide +kernel
theorem dX0_go_10 : decode cX0_go 10 = .ok (.aload_n 0, 1) := by decide +kernel
theorem dX0_go_11 : decode cX0_go 11 = .ok (.getfield 18, 3) := by decide +kernel
theorem dX0_go_14 : decode cX0_go 14 = .ok (.iload_n 1, 1) := by decide +kernel
theorem dX0_go_15 : decode cX0_go 15 = .ok (.iaload, 1) := by decide +kernel
theorem dX0_go_16 : decode cX0_go 16 = .ok (.aload_n 0, 1) := by decide +kernel
theorem dX0_go_17 : decode cX0_go 17 = .ok (.getfield 53, 3) := by decide +kernel
theorem dX0_go_20 : decode cX0_go 20 = .ok (.getfield 138, 3) := by decide +kernel
theorem dX0_go_23 : decode cX0_go 23 = .ok (.iconst 1, 1) := by decide +kernel
theorem dX0_go_24 : decode cX0_go 24 = .ok (.isub, 1) := by decide +kernel
theorem dX0_go_25 : decode cX0_go 25 = .ok (.if_icmp .lt 13, 3) := by decide +kernel
theorem dX0_go_28 : decode cX0_go 28 = .ok (.aload_n 0, 1) := by decide +kernel
theorem dX0_go_29 : decode cX0_go 29 = .ok (.getfield 22, 3) := by decide +kernel
theorem dX0_go_32 : decode cX0_go 32 = .ok (.iload_n 1, 1) := by decide +kernel
theorem dX0_go_33 : decode cX0_go 33 = .ok (.iconst 0, 1) := by decide +kernel
theorem dX0_go_34 : decode cX0_go 34 = .ok (.iastore, 1) := by decide +kernel
theorem dX0_go_35 : decode cX0_go 35 = .ok (.goto 28, 3) := by decide +kernel
theorem dX0_go_38 : decode cX0_go 38 = .ok (.aload_n 0, 1) := by decide +kernel
theorem dX0_go_39 : decode cX0_go 39 = .ok (.getfield 22, 3) := by decide +kernel
theorem dX0_go_42 : decode cX0_go 42 = .ok (.iload_n 1, 1) := by decide +kernel
theorem dX0_go_43 : decode cX0_go 43 = .ok (.iaload, 1) := by decide +kernel
theorem dX0_go_44 : decode cX0_go 44 = .ok (.ifCond .ne 19, 3) := by decide +kernel
theorem dX0_go_47 : decode cX0_go 47 = .ok (.aload_n 0, 1) := by decide +kernel
theorem dX0_go_48 : decode cX0_go 48 = .ok (.getfield 18, 3) := by decide +kernel
theorem dX0_go_51 : decode cX0_go 51 = .ok (.iload_n 1, 1) := by decide +kernel
theorem dX0_go_52 : decode cX0_go 52 = .ok (.iaload, 1) := by decide +kernel
theorem dX0_go_53 : decode cX0_go 53 = .ok (.ifCond .gt 10, 3) := by decide +kernel
theorem dX0_go_56 : decode cX0_go 56 = .ok (.aload_n 0, 1) := by decide +kernel
theorem dX0_go_57 : decode cX0_go 57 = .ok (.getfield 22, 3) := by decide +kernel
theorem dX0_go_60 : decode cX0_go 60 = .ok (.iload_n 1, 1) := by decide +kernel
theorem dX0_go_61 : decode cX0_go 61 = .ok (.iconst 1, 1) := by decide +kernel
theorem dX0_go_62 : decode cX0_go 62 = .ok (.iastore, 1) := by decide +kernel
theorem dX0_go_63 : decode cX0_go 63 = .ok (.aload_n 0, 1) := by decide +kernel
theorem dX0_go_64 : decode cX0_go 64 = .ok (.getfield 18, 3) := by decide +kernel
theorem dX0_go_67 : decode cX0_go 67 = .ok (.iload_n 1, 1) := by decide +kernel
theorem dX0_go_68 : decode cX0_go 68 = .ok (.dup2, 1) := by decide +kernel
theorem dX0_go_69 : decode cX0_go 69 = .ok (.iaload, 1) := by decide +kernel
theorem dX0_go_70 : decode cX0_go 70 = .ok (.aload_n 0, 1) := by decide +kernel
theorem dX0_go_71 : decode cX0_go 71 = .ok (.getfield 22, 3) := by decide +kernel
theorem dX0_go_74 : decode cX0_go 74 = .ok (.iload_n 1, 1) := by decide +kernel
theorem dX0_go_75 : decode cX0_go 75 = .ok (.iaload, 1) := by decide +kernel
theorem dX0_go_76 : decode cX0_go 76 = .ok (.iconst 1, 1) := by decide +kernel
theorem dX0_go_77 : decode cX0_go 77 = .ok (.if_icmp .ne 7, 3) := by decide +kernel
theorem dX0_go_80 : decode cX0_go 80 = .ok (.iconst 1, 1) := by decide +kernel
theorem dX0_go_81 : decode cX0_go 81 = .ok (.goto 4, 3) := by decide +kernel
theorem dX0_go_84 : decode cX0_go 84 = .ok (.iconst (-1), 1) := by decide +kernel
theorem dX0_go_85 : decode cX0_go 85 = .ok (.iadd, 1) := by decide +kernel
theorem dX0_go_86 : decode cX0_go 86 = .ok (.iastore, 1) := by decide +kernel
theorem dX0_go_87 : decode cX0_go 87 = .ok (.return_, 1) := by decide +kernel
theorem dX0_arrive_0 : decode cX0_arrive 0 = .ok (.aload_n 0, 1) := by decide +kernel
theorem dX0_arrive_1 : decode cX0_arrive 1 = .ok (.getfield 28, 3) := by decide +kernel
theorem dX0_arrive_4 : decode cX0_arrive 4 = .ok (.iload_n 1, 1) := by decide +kernel
theorem dX0_arrive_5 : decode cX0_arrive 5 = .ok (.iaload, 1) := by decide +kernel
theorem dX0_arrive_6 : decode cX0_arrive 6 = .ok (.istore_n 2, 1) := by decide +kernel
theorem dX0_arrive_7 : decode cX0_arrive 7 = .ok (.iconst 0, 1) := by decide +kernel
theorem dX0_arrive_8 : decode cX0_arrive 8 = .ok (.istore_n 3, 1) := by decide +kernel
theorem dX0_arrive_9 : decode cX0_arrive 9 = .ok (.iload_n 3, 1) := by decide +kernel
theorem dX0_arrive_10 : decode cX0_arrive 10 = .ok (.aload_n 0, 1) := by decide +kernel
theorem dX0_arrive_11 : decode cX0_arrive 11 = .ok (.getfield 53, 3) := by decide +kernel
theorem dX0_arrive_14 : decode cX0_arrive 14 = .ok (.getfield 80, 3) := by decide +kernel
theorem dX0_arrive_17 : decode cX0_arrive 17 = .ok (.if_icmp .ge 78, 3) := by decide +kernel
theorem dX0_arrive_20 : decode cX0_arrive 20 = .ok (.aload_n 0, 1) := by decide +kernel
theorem dX0_arrive_21 : decode cX0_arrive 21 = .ok (.getfield 34, 3) := by decide +kernel
theorem dX0_arrive_24 : decode cX0_arrive 24 = .ok (.iload_n 3, 1) := by decide +kernel
theorem dX0_arrive_25 : decode cX0_arrive 25 = .ok (.iaload, 1) := by decide +kernel
theorem dX0_arrive_26 : decode cX0_arrive 26 = .ok (.iload_n 1, 1) := by decide +kernel
theorem dX0_arrive_27 : decode cX0_arrive 27 = .ok (.if_icmp .ne 62, 3) := by decide +kernel
theorem dX0_arrive_30 : decode cX0_arrive 30 = .ok (.aload_n 0, 1) := by decide +kernel
theorem dX0_arrive_31 : decode cX0_arrive 31 = .ok (.getfield 53, 3) := by decide +kernel
theorem dX0_arrive_34 : decode cX0_arrive 34 = .ok (.iload_n 2, 1) := by decide +kernel
theorem dX0_arrive_35 : decode cX0_arrive 35 = .ok (.invokevirtual 141, 3) := by decide +kernel
theorem dX0_arrive_38 : decode cX0_arrive 38 = .ok (.ifCond .eq 28, 3) := by decide +kernel
theorem dX0_arrive_41 : decode cX0_arrive 41 = .ok (.iload_n 2, 1) := by decide +kernel
theorem dX0_arrive_42 : decode cX0_arrive 42 = .ok (.iload_n 3, 1) := by decide +kernel
theorem dX0_arrive_43 : decode cX0_arrive 43 = .ok (.if_icmp .eq 23, 3) := by decide +kernel
theorem dX0_arrive_46 : decode cX0_arrive 46 = .ok (.aload_n 0, 1) := by decide +kernel
theorem dX0_arrive_47 : decode cX0_arrive 47 = .ok (.getfield 43, 3) := by decide +kernel
theorem dX0_arrive_50 : decode cX0_arrive 50 = .ok (.iload_n 3, 1) := by decide +kernel
theorem dX0_arrive_51 : decode cX0_arrive 51 = .ok (.dup2, 1) := by decide +kernel
theorem dX0_arrive_52 : decode cX0_arrive 52 = .ok (.iaload, 1) := by decide +kernel
theorem dX0_arrive_53 : decode cX0_arrive 53 = .ok (.iconst 1, 1) := by decide +kernel
theorem dX0_arrive_54 : decode cX0_arrive 54 = .ok (.isub, 1) := by decide +kernel
theorem dX0_arrive_55 : decode cX0_arrive 55 = .ok (.iastore, 1) := by decide +kernel
theorem dX0_arrive_56 : decode cX0_arrive 56 = .ok (.aload_n 0, 1) := by decide +kernel
theorem dX0_arrive_57 : decode cX0_arrive 57 = .ok (.getfield 43, 3) := by decide +kernel
theorem dX0_arrive_60 : decode cX0_arrive 60 = .ok (.iload_n 2, 1) := by decide +kernel
theorem dX0_arrive_61 : decode cX0_arrive 61 = .ok (.dup2, 1) := by decide +kernel
theorem dX0_arrive_62 : decode cX0_arrive 62 = .ok (.iaload, 1) := by decide +kernel
theorem dX0_arrive_63 : decode cX0_arrive 63 = .ok (.iconst 1, 1) := by decide +kernel
theorem dX0_arrive_64 : decode cX0_arrive 64 = .ok (.iadd, 1) := by decide +kernel
theorem dX0_arrive_65 : decode cX0_arrive 65 = .ok (.iastore, 1) := by decide +kernel
theorem dX0_arrive_66 : decode cX0_arrive 66 = .ok (.aload_n 0, 1) := by decide +kernel
theorem dX0_arrive_67 : decode cX0_arrive 67 = .ok (.getfield 53, 3) := by decide +kernel
theorem dX0_arrive_70 : decode cX0_arrive 70 = .ok (.getfield 145, 3) := by decide +kernel
theorem dX0_arrive_73 : decode cX0_arrive 73 = .ok (.iload_n 3, 1) := by decide +kernel
theorem dX0_arrive_74 : decode cX0_arrive 74 = .ok (.iaload, 1) := by decide +kernel
theorem dX0_arrive_75 : decode cX0_arrive 75 = .ok (.aload_n 0, 1) := by decide +kernel
theorem dX0_arrive_76 : decode cX0_arrive 76 = .ok (.getfield 18, 3) := by decide +kernel
theorem dX0_arrive_79 : decode cX0_arrive 79 = .ok (.iload_n 1, 1) := by decide +kernel
theorem dX0_arrive_80 : decode cX0_arrive 80 = .ok (.iaload, 1) := by decide +kernel
theorem dX0_arrive_81 : decode cX0_arrive 81 = .ok (.if_icmp .ne 8, 3) := by decide +kernel
theorem dX0_arrive_84 : decode cX0_arrive 84 = .ok (.aload_n 0, 1) := by decide +kernel
theorem dX0_arrive_85 : decode cX0_arrive 85 = .ok (.iload_n 3, 1) := by decide +kernel
theorem dX0_arrive_86 : decode cX0_arrive 86 = .ok (.invokevirtual 148, 3) := by decide +kernel
theorem dX0_arrive_89 : decode cX0_arrive 89 = .ok (.iinc 3 1, 3) := by decide +kernel
theorem dX0_arrive_92 : decode cX0_arrive 92 = .ok (.goto (-83), 3) := by decide +kernel
theorem dX0_arrive_95 : decode cX0_arrive 95 = .ok (.return_, 1) := by decide +kernel
theorem dX0_alight_0 : decode cX0_alight 0 = .ok (.aload_n 0, 1) := by decide +kernel
theorem dX0_alight_1 : decode cX0_alight 1 = .ok (.getfield 31, 3) := by decide +kernel
theorem dX0_alight_4 : decode cX0_alight 4 = .ok (.iload_n 1, 1) := by decide +kernel
theorem dX0_alight_5 : decode cX0_alight 5 = .ok (.aload_n 0, 1) := by decide +kernel
theorem dX0_alight_6 : decode cX0_alight 6 = .ok (.iload_n 1, 1) := by decide +kernel
theorem dX0_alight_7 : decode cX0_alight 7 = .ok (.invokevirtual 151, 3) := by decide +kernel
theorem dX0_alight_10 : decode cX0_alight 10 = .ok (.iastore, 1) := by decide +kernel
theorem dX0_alight_11 : decode cX0_alight 11 = .ok (.aload_n 0, 1) := by decide +kernel
theorem dX0_alight_12 : decode cX0_alight 12 = .ok (.getfield 34, 3) := by decide +kernel
theorem dX0_alight_15 : decode cX0_alight 15 = .ok (.iload_n 1, 1) := by decide +kernel
theorem dX0_alight_16 : decode cX0_alight 16 = .ok (.iconst (-1), 1) := by decide +kernel
theorem dX0_alight_17 : decode cX0_alight 17 = .ok (.iastore, 1) := by decide +kernel
theorem dX0_alight_18 : decode cX0_alight 18 = .ok (.aload_n 0, 1) := by decide +kernel
theorem dX0_alight_19 : decode cX0_alight 19 = .ok (.getfield 40, 3) := by decide +kernel
theorem dX0_alight_22 : decode cX0_alight 22 = .ok (.iload_n 1, 1) := by decide +kernel
theorem dX0_alight_23 : decode cX0_alight 23 = .ok (.iconst (-1), 1) := by decide +kernel
theorem dX0_alight_24 : decode cX0_alight 24 = .ok (.iastore, 1) := by decide +kernel
theorem dX0_alight_25 : decode cX0_alight 25 = .ok (.return_, 1) := by decide +kernel
theorem dX1_init_0 : decode cX1_init 0 = .ok (.aload_n 0, 1) := by decide +kernel
theorem dX1_init_1 : decode cX1_init 1 = .ok (.invokespecial 1, 3) := by decide +kernel
theorem dX1_init_4 : decode cX1_init 4 = .ok (.aload_n 0, 1) := by decide +kernel
theorem dX1_init_5 : decode cX1_init 5 = .ok (.iconst 0, 1) := by decide +kernel
theorem dX1_init_6 : decode cX1_init 6 = .ok (.putfield 7, 3) := by decide +kernel
theorem dX1_init_9 : decode cX1_init 9 = .ok (.aload_n 0, 1) := by decide +kernel
theorem dX1_init_10 : decode cX1_init 10 = .ok (.iconst 0, 1) := by decide +kernel
theorem dX1_init_11 : decode cX1_init 11 = .ok (.putfield 13, 3) := by decide +kernel
theorem dX1_init_14 : decode cX1_init 14 = .ok (.aload_n 0, 1) := by decide +kernel
theorem dX1_init_15 : decode cX1_init 15 = .ok (.new 17, 3) := by decide +kernel
theorem dX1_init_18 : decode cX1_init 18 = .ok (.dup, 1) := by decide +kernel
theorem dX1_init_19 : decode cX1_init 19 = .ok (.aload_n 1, 1) := by decide +kernel
theorem dX1_init_20 : decode cX1_init 20 = .ok (.invokespecial 19, 3) := by decide +kernel
theorem dX1_init_23 : decode cX1_init 23 = .ok (.putfield 22, 3) := by decide +kernel
theorem dX1_init_26 : decode cX1_init 26 = .ok (.return_, 1) := by decide +kernel
theorem dX2_init_0 : decode cX2_init 0 = .ok (.aload_n 0, 1) := by decide +kernel
theorem dX2_init_1 : decode cX2_init 1 = .ok (.invokespecial 3, 3) := by decide +kernel
theorem dX2_init_4 : decode cX2_init 4 = .ok (.aload_n 0, 1) := by decide +kernel
theorem dX2_init_5 : decode cX2_init 5 = .ok (.bipush 100, 2) := by decide +kernel
theorem dX2_init_7 : decode cX2_init 7 = .ok (.newarray .int, 2) := by decide +kernel
theorem dX2_init_9 : decode cX2_init 9 = .ok (.putfield 9, 3) := by decide +kernel
theorem dX2_init_12 : decode cX2_init 12 = .ok (.aload_n 0, 1) := by decide +kernel
theorem dX2_init_13 : decode cX2_init 13 = .ok (.iconst 0, 1) := by decide +kernel
theorem dX2_init_14 : decode cX2_init 14 = .ok (.putfield 15, 3) := by decide +kernel
theorem dX2_init_17 : decode cX2_init 17 = .ok (.aload_n 0, 1) := by decide +kernel
theorem dX2_init_18 : decode cX2_init 18 = .ok (.iconst 0, 1) := by decide +kernel
theorem dX2_init_19 : decode cX2_init 19 = .ok (.putfield 19, 3) := by decide +kernel
theorem dX2_init_22 : decode cX2_init 22 = .ok (.return_, 1) := by decide +kernel
theorem dX2_copyFrom_0 : decode cX2_copyFrom 0 = .ok (.aload_n 1, 1) := by decide +kernel
theorem dX2_copyFrom_1 : decode cX2_copyFrom 1 = .ok (.getfield 9, 3) := by decide +kernel
theorem dX2_copyFrom_4 : decode cX2_copyFrom 4 = .ok (.iconst 0, 1) := by decide +kernel
theorem dX2_copyFrom_5 : decode cX2_copyFrom 5 = .ok (.aload_n 0, 1) := by decide +kernel
theorem dX2_copyFrom_6 : decode cX2_copyFrom 6 = .ok (.getfield 9, 3) := by decide +kernel
theorem dX2_copyFrom_9 : decode cX2_copyFrom 9 = .ok (.iconst 0, 1) := by decide +kernel
theorem dX2_copyFrom_10 : decode cX2_copyFrom 10 = .ok (.bipush 100, 2) := by decide +kernel
theorem dX2_copyFrom_12 : decode cX2_copyFrom 12 = .ok (.invokestatic 22, 3) := by decide +kernel
theorem dX2_copyFrom_15 : decode cX2_copyFrom 15 = .ok (.aload_n 0, 1) := by decide +kernel
theorem dX2_copyFrom_16 : decode cX2_copyFrom 16 = .ok (.aload_n 1, 1) := by decide +kernel
theorem dX2_copyFrom_17 : decode cX2_copyFrom 17 = .ok (.getfield 15, 3) := by decide +kernel
theorem dX2_copyFrom_20 : decode cX2_copyFrom 20 = .ok (.putfield 15, 3) := by decide +kernel
theorem dX2_copyFrom_23 : decode cX2_copyFrom 23 = .ok (.aload_n 0, 1) := by decide +kernel
theorem dX2_copyFrom_24 : decode cX2_copyFrom 24 = .ok (.aload_n 1, 1) := by decide +kernel
theorem dX2_copyFrom_25 : decode cX2_copyFrom 25 = .ok (.getfield 19, 3) := by decide +kernel
theorem dX2_copyFrom_28 : decode cX2_copyFrom 28 = .ok (.putfield 19, 3) := by decide +kernel
theorem dX2_copyFrom_31 : decode cX2_copyFrom 31 = .ok (.return_, 1) := by decide +kernel
theorem dX2_add_0 : decode cX2_add 0 = .ok (.aload_n 0, 1) := by decide +kernel
theorem dX2_add_1 : decode cX2_add 1 = .ok (.getfield 19, 3) := by decide +kernel
theorem dX2_add_4 : decode cX2_add 4 = .ok (.iconst 5, 1) := by decide +kernel
theorem dX2_add_5 : decode cX2_add 5 = .ok (.imul, 1) := by decide +kernel
theorem dX2_add_6 : decode cX2_add 6 = .ok (.istore 6, 2) := by decide +kernel
theorem dX2_add_8 : decode cX2_add 8 = .ok (.aload_n 0, 1) := by decide +kernel
theorem dX2_add_9 : decode cX2_add 9 = .ok (.getfield 9, 3) := by decide +kernel
theorem dX2_add_12 : decode cX2_add 12 = .ok (.iload 6, 2) := by decide +kernel
theorem dX2_add_14 : decode cX2_add 14 = .ok (.iload_n 1, 1) := by decide +kernel
theorem dX2_add_15 : decode cX2_add 15 = .ok (.iastore, 1) := by decide +kernel
theorem dX2_add_16 : decode cX2_add 16 = .ok (.aload_n 0, 1) := by decide +kernel
theorem dX2_add_17 : decode cX2_add 17 = .ok (.getfield 9, 3) := by decide +kernel
theorem dX2_add_20 : decode cX2_add 20 = .ok (.iload 6, 2) := by decide +kernel
theorem dX2_add_22 : decode cX2_add 22 = .ok (.iconst 1, 1) := by decide +kernel
theorem dX2_add_23 : decode cX2_add 23 = .ok (.iadd, 1) := by decide +kernel
theorem dX2_add_24 : decode cX2_add 24 = .ok (.iload_n 2, 1) := by decide +kernel
theorem dX2_add_25 : decode cX2_add 25 = .ok (.iastore, 1) := by decide +kernel
theorem dX2_add_26 : decode cX2_add 26 = .ok (.aload_n 0, 1) := by decide +kernel
theorem dX2_add_27 : decode cX2_add 27 = .ok (.getfield 9, 3) := by decide +kernel
theorem dX2_add_30 : decode cX2_add 30 = .ok (.iload 6, 2) := by decide +kernel
theorem dX2_add_32 : decode cX2_add 32 = .ok (.iconst 2, 1) := by decide +kernel
theorem dX2_add_33 : decode cX2_add 33 = .ok (.iadd, 1) := by decide +kernel
theorem dX2_add_34 : decode cX2_add 34 = .ok (.iload_n 3, 1) := by decide +kernel
theorem dX2_add_35 : decode cX2_add 35 = .ok (.iastore, 1) := by decide +kernel
theorem dX2_add_36 : decode cX2_add 36 = .ok (.aload_n 0, 1) := by decide +kernel
theorem dX2_add_37 : decode cX2_add 37 = .ok (.getfield 9, 3) := by decide +kernel
theorem dX2_add_40 : decode cX2_add 40 = .ok (.iload 6, 2) := by decide +kernel
theorem dX2_add_42 : decode cX2_add 42 = .ok (.iconst 3, 1) := by decide +kernel
theorem dX2_add_43 : decode cX2_add 43 = .ok (.iadd, 1) := by decide +kernel
theorem dX2_add_44 : decode cX2_add 44 = .ok (.iload 4, 2) := by decide +kernel
theorem dX2_add_46 : decode cX2_add 46 = .ok (.iastore, 1) := by decide +kernel
theorem dX2_add_47 : decode cX2_add 47 = .ok (.aload_n 0, 1) := by decide +kernel
theorem dX2_add_48 : decode cX2_add 48 = .ok (.getfield 9, 3) := by decide +kernel
theorem dX2_add_51 : decode cX2_add 51 = .ok (.iload 6, 2) := by decide +kernel
theorem dX2_add_53 : decode cX2_add 53 = .ok (.iconst 4, 1) := by decide +kernel
theorem dX2_add_54 : decode cX2_add 54 = .ok (.iadd, 1) := by decide +kernel
theorem dX2_add_55 : decode cX2_add 55 = .ok (.iload 5, 2) := by decide +kernel
theorem dX2_add_57 : decode cX2_add 57 = .ok (.iastore, 1) := by decide +kernel
theorem dX2_add_58 : decode cX2_add 58 = .ok (.aload_n 0, 1) := by decide +kernel
theorem dX2_add_59 : decode cX2_add 59 = .ok (.aload_n 0, 1) := by decide +kernel
theorem dX2_add_60 : decode cX2_add 60 = .ok (.getfield 19, 3) := by decide +kernel
theorem dX2_add_63 : decode cX2_add 63 = .ok (.iconst 1, 1) := by decide +kernel
theorem dX2_add_64 : decode cX2_add 64 = .ok (.iadd, 1) := by decide +kernel
theorem dX2_add_65 : decode cX2_add 65 = .ok (.bipush 20, 2) := by decide +kernel
theorem dX2_add_67 : decode cX2_add 67 = .ok (.if_icmp .ge 12, 3) := by decide +kernel
theorem dX2_add_70 : decode cX2_add 70 = .ok (.aload_n 0, 1) := by decide +kernel
theorem dX2_add_71 : decode cX2_add 71 = .ok (.getfield 19, 3) := by decide +kernel
theorem dX2_add_74 : decode cX2_add 74 = .ok (.iconst 1, 1) := by decide +kernel
theorem dX2_add_75 : decode cX2_add 75 = .ok (.iadd, 1) := by decide +kernel
theorem dX2_add_76 : decode cX2_add 76 = .ok (.goto 4, 3) := by decide +kernel
theorem dX2_add_79 : decode cX2_add 79 = .ok (.iconst 0, 1) := by decide +kernel
theorem dX2_add_80 : decode cX2_add 80 = .ok (.putfield 19, 3) := by decide +kernel
theorem dX2_add_83 : decode cX2_add 83 = .ok (.aload_n 0, 1) := by decide +kernel
theorem dX2_add_84 : decode cX2_add 84 = .ok (.aload_n 0, 1) := by decide +kernel
theorem dX2_add_85 : decode cX2_add 85 = .ok (.getfield 15, 3) := by decide +kernel
theorem dX2_add_88 : decode cX2_add 88 = .ok (.iconst 1, 1) := by decide +kernel
theorem dX2_add_89 : decode cX2_add 89 = .ok (.iadd, 1) := by decide +kernel
theorem dX2_add_90 : decode cX2_add 90 = .ok (.bipush 20, 2) := by decide +kernel
theorem dX2_add_92 : decode cX2_add 92 = .ok (.invokestatic 28, 3) := by decide +kernel
theorem dX2_add_95 : decode cX2_add 95 = .ok (.putfield 15, 3) := by decide +kernel
theorem dX2_add_98 : decode cX2_add 98 = .ok (.return_, 1) := by decide +kernel
theorem dX2_get_0 : decode cX2_get 0 = .ok (.iload_n 1, 1) := by decide +kernel
theorem dX2_get_1 : decode cX2_get 1 = .ok (.ifCond .lt 20, 3) := by decide +kernel
theorem dX2_get_4 : decode cX2_get 4 = .ok (.iload_n 1, 1) := by decide +kernel
theorem dX2_get_5 : decode cX2_get 5 = .ok (.aload_n 0, 1) := by decide +kernel
theorem dX2_get_6 : decode cX2_get 6 = .ok (.getfield 15, 3) := by decide +kernel
theorem dX2_get_9 : decode cX2_get 9 = .ok (.if_icmp .ge 12, 3) := by decide +kernel
theorem dX2_get_12 : decode cX2_get 12 = .ok (.iload_n 2, 1) := by decide +kernel
theorem dX2_get_13 : decode cX2_get 13 = .ok (.ifCond .lt 8, 3) := by decide +kernel
theorem dX2_get_16 : decode cX2_get 16 = .ok (.iload_n 2, 1) := by decide +kernel
theorem dX2_get_17 : decode cX2_get 17 = .ok (.iconst 5, 1) := by decide +kernel
theorem dX2_get_18 : decode cX2_get 18 = .ok (.if_icmp .lt 5, 3) := by decide +kernel
theorem dX2_get_21 : decode cX2_get 21 = .ok (.iconst (-1), 1) := by decide +kernel
theorem dX2_get_22 : decode cX2_get 22 = .ok (.ireturn, 1) := by decide +kernel
theorem dX2_get_23 : decode cX2_get 23 = .ok (.aload_n 0, 1) := by decide +kernel
theorem dX2_get_24 : decode cX2_get 24 = .ok (.getfield 19, 3) := by decide +kernel
theorem dX2_get_27 : decode cX2_get 27 = .ok (.iconst 1, 1) := by decide +kernel
theorem dX2_get_28 : decode cX2_get 28 = .ok (.isub, 1) := by decide +kernel
theorem dX2_get_29 : decode cX2_get 29 = .ok (.iload_n 1, 1) := by decide +kernel
theorem dX2_get_30 : decode cX2_get 30 = .ok (.isub, 1) := by decide +kernel
theorem dX2_get_31 : decode cX2_get 31 = .ok (.istore_n 3, 1) := by decide +kernel
theorem dX2_get_32 : decode cX2_get 32 = .ok (.aload_n 0, 1) := by decide +kernel
theorem dX2_get_33 : decode cX2_get 33 = .ok (.getfield 9, 3) := by decide +kernel
theorem dX2_get_36 : decode cX2_get 36 = .ok (.iload_n 3, 1) := by decide +kernel
theorem dX2_get_37 : decode cX2_get 37 = .ok (.ifCond .ge 10, 3) := by decide +kernel
theorem dX2_get_40 : decode cX2_get 40 = .ok (.iload_n 3, 1) := by decide +kernel
theorem dX2_get_41 : decode cX2_get 41 = .ok (.bipush 20, 2) := by decide +kernel
theorem dX2_get_43 : decode cX2_get 43 = .ok (.iadd, 1) := by decide +kernel
theorem dX2_get_44 : decode cX2_get 44 = .ok (.goto 4, 3) := by decide +kernel
theorem dX2_get_47 : decode cX2_get 47 = .ok (.iload_n 3, 1) := by decide +kernel
theorem dX2_get_48 : decode cX2_get 48 = .ok (.iconst 5, 1) := by decide +kernel
theorem dX2_get_49 : decode cX2_get 49 = .ok (.imul, 1) := by decide +kernel
theorem dX2_get_50 : decode cX2_get 50 = .ok (.iload_n 2, 1) := by decide +kernel
theorem dX2_get_51 : decode cX2_get 51 = .ok (.iadd, 1) := by decide +kernel
theorem dX2_get_52 : decode cX2_get 52 = .ok (.iaload, 1) := by decide +kernel
theorem dX2_get_53 : decode cX2_get 53 = .ok (.ireturn, 1) := by decide +kernel
theorem dX3_init_0 : decode cX3_init 0 = .ok (.aload_n 0, 1) := by decide +kernel
theorem dX3_init_1 : decode cX3_init 1 = .ok (.invokespecial 3, 3) := by decide +kernel
theorem dX3_init_4 : decode cX3_init 4 = .ok (.aload_n 0, 1) := by decide +kernel
theorem dX3_init_5 : decode cX3_init 5 = .ok (.iconst 0, 1) := by decide +kernel
theorem dX3_init_6 : decode cX3_init 6 = .ok (.putfield 9, 3) := by decide +kernel
theorem dX3_init_9 : decode cX3_init 9 = .ok (.aload_n 0, 1) := by decide +kernel
theorem dX3_init_10 : decode cX3_init 10 = .ok (.iconst 0, 1) := by decide +kernel
theorem dX3_init_11 : decode cX3_init 11 = .ok (.putfield 15, 3) := by decide +kernel
theorem dX3_init_14 : decode cX3_init 14 = .ok (.aload_n 0, 1) := by decide +kernel
theorem dX3_init_15 : decode cX3_init 15 = .ok (.iconst 0, 1) := by decide +kernel
theorem dX3_init_16 : decode cX3_init 16 = .ok (.putfield 18, 3) := by decide +kernel
theorem dX3_init_19 : decode cX3_init 19 = .ok (.aload_n 0, 1) := by decide +kernel
theorem dX3_init_20 : decode cX3_init 20 = .ok (.bipush 7, 2) := by decide +kernel
theorem dX3_init_22 : decode cX3_init 22 = .ok (.newarray .int, 2) := by decide +kernel
theorem dX3_init_24 : decode cX3_init 24 = .ok (.putfield 21, 3) := by decide +kernel
theorem dX3_init_27 : decode cX3_init 27 = .ok (.aload_n 0, 1) := by decide +kernel
theorem dX3_init_28 : decode cX3_init 28 = .ok (.bipush 7, 2) := by decide +kernel
theorem dX3_init_30 : decode cX3_init 30 = .ok (.newarray .int, 2) := by decide +kernel
theorem dX3_init_32 : decode cX3_init 32 = .ok (.putfield 25, 3) := by decide +kernel
theorem dX3_init_35 : decode cX3_init 35 = .ok (.return_, 1) := by decide +kernel
theorem dX3_wipe_0 : decode cX3_wipe 0 = .ok (.aload_n 0, 1) := by decide +kernel
theorem dX3_wipe_1 : decode cX3_wipe 1 = .ok (.iconst 0, 1) := by decide +kernel
theorem dX3_wipe_2 : decode cX3_wipe 2 = .ok (.putfield 9, 3) := by decide +kernel
theorem dX3_wipe_5 : decode cX3_wipe 5 = .ok (.aload_n 0, 1) := by decide +kernel
theorem dX3_wipe_6 : decode cX3_wipe 6 = .ok (.iconst 0, 1) := by decide +kernel
theorem dX3_wipe_7 : decode cX3_wipe 7 = .ok (.putfield 15, 3) := by decide +kernel
theorem dX3_wipe_10 : decode cX3_wipe 10 = .ok (.aload_n 0, 1) := by decide +kernel
theorem dX3_wipe_11 : decode cX3_wipe 11 = .ok (.iconst 0, 1) := by decide +kernel
theorem dX3_wipe_12 : decode cX3_wipe 12 = .ok (.putfield 18, 3) := by decide +kernel
theorem dX3_wipe_15 : decode cX3_wipe 15 = .ok (.return_, 1) := by decide +kernel
theorem dX3_copyFrom_0 : decode cX3_copyFrom 0 = .ok (.aload_n 0, 1) := by decide +kernel
theorem dX3_copyFrom_1 : decode cX3_copyFrom 1 = .ok (.aload_n 1, 1) := by decide +kernel
theorem dX3_copyFrom_2 : decode cX3_copyFrom 2 = .ok (.getfield 9, 3) := by decide +kernel
theorem dX3_copyFrom_5 : decode cX3_copyFrom 5 = .ok (.putfield 9, 3) := by decide +kernel
theorem dX3_copyFrom_8 : decode cX3_copyFrom 8 = .ok (.aload_n 0, 1) := by decide +kernel
theorem dX3_copyFrom_9 : decode cX3_copyFrom 9 = .ok (.aload_n 1, 1) := by decide +kernel
theorem dX3_copyFrom_10 : decode cX3_copyFrom 10 = .ok (.getfield 15, 3) := by decide +kernel
theorem dX3_copyFrom_13 : decode cX3_copyFrom 13 = .ok (.putfield 15, 3) := by decide +kernel
theorem dX3_copyFrom_16 : decode cX3_copyFrom 16 = .ok (.aload_n 0, 1) := by decide +kernel
theorem dX3_copyFrom_17 : decode cX3_copyFrom 17 = .ok (.aload_n 1, 1) := by decide +kernel
theorem dX3_copyFrom_18 : decode cX3_copyFrom 18 = .ok (.getfield 18, 3) := by decide +kernel
theorem dX3_copyFrom_21 : decode cX3_copyFrom 21 = .ok (.putfield 18, 3) := by decide +kernel
theorem dX3_copyFrom_24 : decode cX3_copyFrom 24 = .ok (.aload_n 1, 1) := by decide +kernel
theorem dX3_copyFrom_25 : decode cX3_copyFrom 25 = .ok (.getfield 21, 3) := by decide +kernel
theorem dX3_copyFrom_28 : decode cX3_copyFrom 28 = .ok (.iconst 0, 1) := by decide +kernel
theorem dX3_copyFrom_29 : decode cX3_copyFrom 29 = .ok (.aload_n 0, 1) := by decide +kernel
theorem dX3_copyFrom_30 : decode cX3_copyFrom 30 = .ok (.getfield 21, 3) := by decide +kernel
theorem dX3_copyFrom_33 : decode cX3_copyFrom 33 = .ok (.iconst 0, 1) := by decide +kernel
theorem dX3_copyFrom_34 : decode cX3_copyFrom 34 = .ok (.bipush 7, 2) := by decide +kernel
theorem dX3_copyFrom_36 : decode cX3_copyFrom 36 = .ok (.invokestatic 28, 3) := by decide +kernel
theorem dX3_copyFrom_39 : decode cX3_copyFrom 39 = .ok (.aload_n 1, 1) := by decide +kernel
theorem dX3_copyFrom_40 : decode cX3_copyFrom 40 = .ok (.getfield 25, 3) := by decide +kernel
theorem dX3_copyFrom_43 : decode cX3_copyFrom 43 = .ok (.iconst 0, 1) := by decide +kernel
theorem dX3_copyFrom_44 : decode cX3_copyFrom 44 = .ok (.aload_n 0, 1) := by decide +kernel
theorem dX3_copyFrom_45 : decode cX3_copyFrom 45 = .ok (.getfield 25, 3) := by decide +kernel
theorem dX3_copyFrom_48 : decode cX3_copyFrom 48 = .ok (.iconst 0, 1) := by decide +kernel
theorem dX3_copyFrom_49 : decode cX3_copyFrom 49 = .ok (.bipush 7, 2) := by decide +kernel
theorem dX3_copyFrom_51 : decode cX3_copyFrom 51 = .ok (.invokestatic 28, 3) := by decide +kernel
theorem dX3_copyFrom_54 : decode cX3_copyFrom 54 = .ok (.return_, 1) := by decide +kernel
theorem dX3_hasCoach_0 : decode cX3_hasCoach 0 = .ok (.iload_n 1, 1) := by decide +kernel
theorem dX3_hasCoach_1 : decode cX3_hasCoach 1 = .ok (.ifCond .lt 15, 3) := by decide +kernel
theorem dX3_hasCoach_4 : decode cX3_hasCoach 4 = .ok (.iload_n 1, 1) := by decide +kernel
theorem dX3_hasCoach_5 : decode cX3_hasCoach 5 = .ok (.aload_n 0, 1) := by decide +kernel
theorem dX3_hasCoach_6 : decode cX3_hasCoach 6 = .ok (.getfield 15, 3) := by decide +kernel
theorem dX3_hasCoach_9 : decode cX3_hasCoach 9 = .ok (.if_icmp .ge 7, 3) := by decide +kernel
theorem dX3_hasCoach_12 : decode cX3_hasCoach 12 = .ok (.iconst 1, 1) := by decide +kernel
theorem dX3_hasCoach_13 : decode cX3_hasCoach 13 = .ok (.goto 4, 3) := by decide +kernel
theorem dX3_hasCoach_16 : decode cX3_hasCoach 16 = .ok (.iconst 0, 1) := by decide +kernel
theorem dX3_hasCoach_17 : decode cX3_hasCoach 17 = .ok (.ireturn, 1) := by decide +kernel
theorem dX3_hasPassenger_0 : decode cX3_hasPassenger 0 = .ok (.iload_n 1, 1) := by decide +kernel
theorem dX3_hasPassenger_1 : decode cX3_hasPassenger 1 = .ok (.ifCond .lt 15, 3) := by decide +kernel
theorem dX3_hasPassenger_4 : decode cX3_hasPassenger 4 = .ok (.iload_n 1, 1) := by decide +kernel
theorem dX3_hasPassenger_5 : decode cX3_hasPassenger 5 = .ok (.aload_n 0, 1) := by decide +kernel
theorem dX3_hasPassenger_6 : decode cX3_hasPassenger 6 = .ok (.getfield 18, 3) := by decide +kernel
theorem dX3_hasPassenger_9 : decode cX3_hasPassenger 9 = .ok (.if_icmp .ge 7, 3) := by decide +kernel
theorem dX3_hasPassenger_12 : decode cX3_hasPassenger 12 = .ok (.iconst 1, 1) := by decide +kernel
theorem dX3_hasPassenger_13 : decode cX3_hasPassenger 13 = .ok (.goto 4, 3) := by decide +kernel
theorem dX3_hasPassenger_16 : decode cX3_hasPassenger 16 = .ok (.iconst 0, 1) := by decide +kernel
theorem dX3_hasPassenger_17 : decode cX3_hasPassenger 17 = .ok (.ireturn, 1) := by decide +kernel
theorem dX4_init_0 : decode cX4_init 0 = .ok (.aload_n 0, 1) := by decide +kernel
theorem dX4_init_1 : decode cX4_init 1 = .ok (.invokespecial 3, 3) := by decide +kernel
theorem dX4_init_4 : decode cX4_init 4 = .ok (.aload_n 0, 1) := by decide +kernel
theorem dX4_init_5 : decode cX4_init 5 = .ok (.bipush 16, 2) := by decide +kernel
theorem dX4_init_7 : decode cX4_init 7 = .ok (.anewarray 9, 3) := by decide +kernel
theorem dX4_init_10 : decode cX4_init 10 = .ok (.putfield 11, 3) := by decide +kernel
theorem dX4_init_13 : decode cX4_init 13 = .ok (.aload_n 0, 1) := by decide +kernel
theorem dX4_init_14 : decode cX4_init 14 = .ok (.iconst 0, 1) := by decide +kernel
theorem dX4_init_15 : decode cX4_init 15 = .ok (.putfield 17, 3) := by decide +kernel
theorem dX4_init_18 : decode cX4_init 18 = .ok (.aload_n 0, 1) := by decide +kernel
theorem dX4_init_19 : decode cX4_init 19 = .ok (.iconst 0, 1) := by decide +kernel
theorem dX4_init_20 : decode cX4_init 20 = .ok (.putfield 21, 3) := by decide +kernel
theorem dX4_init_23 : decode cX4_init 23 = .ok (.iconst 0, 1) := by decide +kernel
theorem dX4_init_24 : decode cX4_init 24 = .ok (.istore_n 2, 1) := by decide +kernel
theorem dX4_init_25 : decode cX4_init 25 = .ok (.iload_n 2, 1) := by decide +kernel
theorem dX4_init_26 : decode cX4_init 26 = .ok (.bipush 16, 2) := by decide +kernel
theorem dX4_init_28 : decode cX4_init 28 = .ok (.if_icmp .ge 23, 3) := by decide +kernel
theorem dX4_init_31 : decode cX4_init 31 = .ok (.aload_n 0, 1) := by decide +kernel
theorem dX4_init_32 : decode cX4_init 32 = .ok (.getfield 11, 3) := by decide +kernel
theorem dX4_init_35 : decode cX4_init 35 = .ok (.iload_n 2, 1) := by decide +kernel
theorem dX4_init_36 : decode cX4_init 36 = .ok (.new 9, 3) := by decide +kernel
theorem dX4_init_39 : decode cX4_init 39 = .ok (.dup, 1) := by decide +kernel
theorem dX4_init_40 : decode cX4_init 40 = .ok (.aload_n 1, 1) := by decide +kernel
theorem dX4_init_41 : decode cX4_init 41 = .ok (.invokespecial 24, 3) := by decide +kernel
theorem dX4_init_44 : decode cX4_init 44 = .ok (.aastore, 1) := by decide +kernel
theorem dX4_init_45 : decode cX4_init 45 = .ok (.iinc 2 1, 3) := by decide +kernel
theorem dX4_init_48 : decode cX4_init 48 = .ok (.goto (-23), 3) := by decide +kernel
theorem dX4_init_51 : decode cX4_init 51 = .ok (.return_, 1) := by decide +kernel
theorem dX4_forget_0 : decode cX4_forget 0 = .ok (.aload_n 0, 1) := by decide +kernel
theorem dX4_forget_1 : decode cX4_forget 1 = .ok (.iconst 0, 1) := by decide +kernel
theorem dX4_forget_2 : decode cX4_forget 2 = .ok (.putfield 17, 3) := by decide +kernel
theorem dX4_forget_5 : decode cX4_forget 5 = .ok (.aload_n 0, 1) := by decide +kernel
theorem dX4_forget_6 : decode cX4_forget 6 = .ok (.iconst 0, 1) := by decide +kernel
theorem dX4_forget_7 : decode cX4_forget 7 = .ok (.putfield 21, 3) := by decide +kernel
theorem dX4_forget_10 : decode cX4_forget 10 = .ok (.return_, 1) := by decide +kernel
theorem dX4_push_0 : decode cX4_push 0 = .ok (.aload_n 0, 1) := by decide +kernel
theorem dX4_push_1 : decode cX4_push 1 = .ok (.getfield 11, 3) := by decide +kernel
theorem dX4_push_4 : decode cX4_push 4 = .ok (.aload_n 0, 1) := by decide +kernel
theorem dX4_push_5 : decode cX4_push 5 = .ok (.getfield 21, 3) := by decide +kernel
theorem dX4_push_8 : decode cX4_push 8 = .ok (.aaload, 1) := by decide +kernel
theorem dX4_push_9 : decode cX4_push 9 = .ok (.aload_n 1, 1) := by decide +kernel
theorem dX4_push_10 : decode cX4_push 10 = .ok (.invokevirtual 27, 3) := by decide +kernel
theorem dX4_push_13 : decode cX4_push 13 = .ok (.aload_n 0, 1) := by decide +kernel
theorem dX4_push_14 : decode cX4_push 14 = .ok (.aload_n 0, 1) := by decide +kernel
theorem dX4_push_15 : decode cX4_push 15 = .ok (.getfield 21, 3) := by decide +kernel
theorem dX4_push_18 : decode cX4_push 18 = .ok (.iconst 1, 1) := by decide +kernel
theorem dX4_push_19 : decode cX4_push 19 = .ok (.iadd, 1) := by decide +kernel
theorem dX4_push_20 : decode cX4_push 20 = .ok (.bipush 16, 2) := by decide +kernel
theorem dX4_push_22 : decode cX4_push 22 = .ok (.if_icmp .ge 12, 3) := by decide +kernel
theorem dX4_push_25 : decode cX4_push 25 = .ok (.aload_n 0, 1) := by decide +kernel
theorem dX4_push_26 : decode cX4_push 26 = .ok (.getfield 21, 3) := by decide +kernel
theorem dX4_push_29 : decode cX4_push 29 = .ok (.iconst 1, 1) := by decide +kernel
theorem dX4_push_30 : decode cX4_push 30 = .ok (.iadd, 1) := by decide +kernel
theorem dX4_push_31 : decode cX4_push 31 = .ok (.goto 4, 3) := by decide +kernel
theorem dX4_push_34 : decode cX4_push 34 = .ok (.iconst 0, 1) := by decide +kernel
theorem dX4_push_35 : decode cX4_push 35 = .ok (.putfield 21, 3) := by decide +kernel
theorem dX4_push_38 : decode cX4_push 38 = .ok (.aload_n 0, 1) := by decide +kernel
theorem dX4_push_39 : decode cX4_push 39 = .ok (.aload_n 0, 1) := by decide +kernel
theorem dX4_push_40 : decode cX4_push 40 = .ok (.getfield 17, 3) := by decide +kernel
theorem dX4_push_43 : decode cX4_push 43 = .ok (.iconst 1, 1) := by decide +kernel
theorem dX4_push_44 : decode cX4_push 44 = .ok (.iadd, 1) := by decide +kernel
theorem dX4_push_45 : decode cX4_push 45 = .ok (.bipush 16, 2) := by decide +kernel
theorem dX4_push_47 : decode cX4_push 47 = .ok (.invokestatic 31, 3) := by decide +kernel
theorem dX4_push_50 : decode cX4_push 50 = .ok (.putfield 17, 3) := by decide +kernel
theorem dX4_push_53 : decode cX4_push 53 = .ok (.return_, 1) := by decide +kernel
theorem dX4_pop_0 : decode cX4_pop 0 = .ok (.aload_n 0, 1) := by decide +kernel
theorem dX4_pop_1 : decode cX4_pop 1 = .ok (.getfield 17, 3) := by decide +kernel
theorem dX4_pop_4 : decode cX4_pop 4 = .ok (.ifCond .le 48, 3) := by decide +kernel
theorem dX4_pop_7 : decode cX4_pop 7 = .ok (.aload_n 0, 1) := by decide +kernel
theorem dX4_pop_8 : decode cX4_pop 8 = .ok (.aload_n 0, 1) := by decide +kernel
theorem dX4_pop_9 : decode cX4_pop 9 = .ok (.getfield 21, 3) := by decide +kernel
theorem dX4_pop_12 : decode cX4_pop 12 = .ok (.ifCond .le 12, 3) := by decide +kernel
theorem dX4_pop_15 : decode cX4_pop 15 = .ok (.aload_n 0, 1) := by decide +kernel
theorem dX4_pop_16 : decode cX4_pop 16 = .ok (.getfield 21, 3) := by decide +kernel
theorem dX4_pop_19 : decode cX4_pop 19 = .ok (.iconst 1, 1) := by decide +kernel
theorem dX4_pop_20 : decode cX4_pop 20 = .ok (.isub, 1) := by decide +kernel
theorem dX4_pop_21 : decode cX4_pop 21 = .ok (.goto 5, 3) := by decide +kernel
theorem dX4_pop_24 : decode cX4_pop 24 = .ok (.bipush 15, 2) := by decide +kernel
theorem dX4_pop_26 : decode cX4_pop 26 = .ok (.putfield 21, 3) := by decide +kernel
theorem dX4_pop_29 : decode cX4_pop 29 = .ok (.aload_n 0, 1) := by decide +kernel
theorem dX4_pop_30 : decode cX4_pop 30 = .ok (.dup, 1) := by decide +kernel
theorem dX4_pop_31 : decode cX4_pop 31 = .ok (.getfield 17, 3) := by decide +kernel
theorem dX4_pop_34 : decode cX4_pop 34 = .ok (.iconst 1, 1) := by decide +kernel
theorem dX4_pop_35 : decode cX4_pop 35 = .ok (.isub, 1) := by decide +kernel
theorem dX4_pop_36 : decode cX4_pop 36 = .ok (.putfield 17, 3) := by decide +kernel
theorem dX4_pop_39 : decode cX4_pop 39 = .ok (.aload_n 1, 1) := by decide +kernel
theorem dX4_pop_40 : decode cX4_pop 40 = .ok (.aload_n 0, 1) := by decide +kernel
theorem dX4_pop_41 : decode cX4_pop 41 = .ok (.getfield 11, 3) := by decide +kernel
theorem dX4_pop_44 : decode cX4_pop 44 = .ok (.aload_n 0, 1) := by decide +kernel
theorem dX4_pop_45 : decode cX4_pop 45 = .ok (.getfield 21, 3) := by decide +kernel
theorem dX4_pop_48 : decode cX4_pop 48 = .ok (.aaload, 1) := by decide +kernel
theorem dX4_pop_49 : decode cX4_pop 49 = .ok (.invokevirtual 27, 3) := by decide +kernel
theorem dX4_pop_52 : decode cX4_pop 52 = .ok (.return_, 1) := by decide +kernel
theorem dX5_init_0 : decode cX5_init 0 = .ok (.aload_n 0, 1) := by decide +kernel
theorem dX5_init_1 : decode cX5_init 1 = .ok (.invokespecial 3, 3) := by decide +kernel
theorem dX5_init_4 : decode cX5_init 4 = .ok (.aload_n 0, 1) := by decide +kernel
theorem dX5_init_5 : decode cX5_init 5 = .ok (.sipush 240, 3) := by decide +kernel
theorem dX5_init_8 : decode cX5_init 8 = .ok (.newarray .int, 2) := by decide +kernel
theorem dX5_init_10 : decode cX5_init 10 = .ok (.putfield 9, 3) := by decide +kernel
theorem dX5_init_13 : decode cX5_init 13 = .ok (.aload_n 0, 1) := by decide +kernel
theorem dX5_init_14 : decode cX5_init 14 = .ok (.iconst 0, 1) := by decide +kernel
theorem dX5_init_15 : decode cX5_init 15 = .ok (.putfield 15, 3) := by decide +kernel
theorem dX5_init_18 : decode cX5_init 18 = .ok (.aload_n 0, 1) := by decide +kernel
theorem dX5_init_19 : decode cX5_init 19 = .ok (.iconst 0, 1) := by decide +kernel
theorem dX5_init_20 : decode cX5_init 20 = .ok (.putfield 19, 3) := by decide +kernel
theorem dX5_init_23 : decode cX5_init 23 = .ok (.aload_n 0, 1) := by decide +kernel
theorem dX5_init_24 : decode cX5_init 24 = .ok (.iconst 0, 1) := by decide +kernel
theorem dX5_init_25 : decode cX5_init 25 = .ok (.putfield 22, 3) := by decide +kernel
theorem dX5_init_28 : decode cX5_init 28 = .ok (.aload_n 0, 1) := by decide +kernel
theorem dX5_init_29 : decode cX5_init 29 = .ok (.iconst (-1), 1) := by decide +kernel
theorem dX5_init_30 : decode cX5_init 30 = .ok (.putfield 25, 3) := by decide +kernel
theorem dX5_init_33 : decode cX5_init 33 = .ok (.aload_n 0, 1) := by decide +kernel
theorem dX5_init_34 : decode cX5_init 34 = .ok (.new 28, 3) := by decide +kernel
theorem dX5_init_37 : decode cX5_init 37 = .ok (.dup, 1) := by decide +kernel
theorem dX5_init_38 : decode cX5_init 38 = .ok (.invokespecial 30, 3) := by decide +kernel
theorem dX5_init_41 : decode cX5_init 41 = .ok (.putfield 31, 3) := by decide +kernel
theorem dX5_init_44 : decode cX5_init 44 = .ok (.aload_n 0, 1) := by decide +kernel
theorem dX5_init_45 : decode cX5_init 45 = .ok (.new 35, 3) := by decide +kernel
theorem dX5_init_48 : decode cX5_init 48 = .ok (.dup, 1) := by decide +kernel
theorem dX5_init_49 : decode cX5_init 49 = .ok (.aload_n 0, 1) := by decide +kernel
theorem dX5_init_50 : decode cX5_init 50 = .ok (.getfield 31, 3) := by decide +kernel
theorem dX5_init_53 : decode cX5_init 53 = .ok (.invokespecial 37, 3) := by decide +kernel
theorem dX5_init_56 : decode cX5_init 56 = .ok (.putfield 40, 3) := by decide +kernel
theorem dX5_init_59 : decode cX5_init 59 = .ok (.return_, 1) := by decide +kernel
theorem dX5_add_0 : decode cX5_add 0 = .ok (.aload_n 0, 1) := by decide +kernel
theorem dX5_add_1 : decode cX5_add 1 = .ok (.getfield 15, 3) := by decide +kernel
theorem dX5_add_4 : decode cX5_add 4 = .ok (.sipush 240, 3) := by decide +kernel
theorem dX5_add_7 : decode cX5_add 7 = .ok (.if_icmp .ge 23, 3) := by decide +kernel
theorem dX5_add_10 : decode cX5_add 10 = .ok (.aload_n 0, 1) := by decide +kernel
theorem dX5_add_11 : decode cX5_add 11 = .ok (.getfield 9, 3) := by decide +kernel
theorem dX5_add_14 : decode cX5_add 14 = .ok (.aload_n 0, 1) := by decide +kernel
theorem dX5_add_15 : decode cX5_add 15 = .ok (.getfield 15, 3) := by decide +kernel
theorem dX5_add_18 : decode cX5_add 18 = .ok (.iload_n 1, 1) := by decide +kernel
theorem dX5_add_19 : decode cX5_add 19 = .ok (.iastore, 1) := by decide +kernel
theorem dX5_add_20 : decode cX5_add 20 = .ok (.aload_n 0, 1) := by decide +kernel
theorem dX5_add_21 : decode cX5_add 21 = .ok (.dup, 1) := by decide +kernel
theorem dX5_add_22 : decode cX5_add 22 = .ok (.getfield 15, 3) := by decide +kernel
theorem dX5_add_25 : decode cX5_add 25 = .ok (.iconst 1, 1) := by decide +kernel
theorem dX5_add_26 : decode cX5_add 26 = .ok (.iadd, 1) := by decide +kernel
theorem dX5_add_27 : decode cX5_add 27 = .ok (.putfield 15, 3) := by decide +kernel
theorem dX5_add_30 : decode cX5_add 30 = .ok (.return_, 1) := by decide +kernel
theorem dX5_read_0 : decode cX5_read 0 = .ok (.aload_n 0, 1) := by decide +kernel
theorem dX5_read_1 : decode cX5_read 1 = .ok (.iconst 0, 1) := by decide +kernel
theorem dX5_read_2 : decode cX5_read 2 = .ok (.putfield 19, 3) := by decide +kernel
theorem dX5_read_5 : decode cX5_read 5 = .ok (.aload_n 0, 1) := by decide +kernel
theorem dX5_read_6 : decode cX5_read 6 = .ok (.iconst 0, 1) := by decide +kernel
theorem dX5_read_7 : decode cX5_read 7 = .ok (.putfield 22, 3) := by decide +kernel
theorem dX5_read_10 : decode cX5_read 10 = .ok (.aload_n 0, 1) := by decide +kernel
theorem dX5_read_11 : decode cX5_read 11 = .ok (.iconst (-1), 1) := by decide +kernel
theorem dX5_read_12 : decode cX5_read 12 = .ok (.putfield 25, 3) := by decide +kernel
theorem dX5_read_15 : decode cX5_read 15 = .ok (.aload_n 0, 1) := by decide +kernel
theorem dX5_read_16 : decode cX5_read 16 = .ok (.getfield 31, 3) := by decide +kernel
theorem dX5_read_19 : decode cX5_read 19 = .ok (.invokevirtual 44, 3) := by decide +kernel
theorem dX5_read_22 : decode cX5_read 22 = .ok (.aload_n 0, 1) := by decide +kernel
theorem dX5_read_23 : decode cX5_read 23 = .ok (.getfield 40, 3) := by decide +kernel
theorem dX5_read_26 : decode cX5_read 26 = .ok (.iconst 0, 1) := by decide +kernel
theorem dX5_read_27 : decode cX5_read 27 = .ok (.putfield 47, 3) := by decide +kernel
theorem dX5_read_30 : decode cX5_read 30 = .ok (.iconst 0, 1) := by decide +kernel
theorem dX5_read_31 : decode cX5_read 31 = .ok (.istore_n 1, 1) := by decide +kernel
theorem dX5_read_32 : decode cX5_read 32 = .ok (.iload_n 1, 1) := by decide +kernel
theorem dX5_read_33 : decode cX5_read 33 = .ok (.sipush 240, 3) := by decide +kernel
theorem dX5_read_36 : decode cX5_read 36 = .ok (.if_icmp .gt 67, 3) := by decide +kernel
theorem dX5_read_39 : decode cX5_read 39 = .ok (.aload_n 0, 1) := by decide +kernel
theorem dX5_read_40 : decode cX5_read 40 = .ok (.invokevirtual 50, 3) := by decide +kernel
theorem dX5_read_43 : decode cX5_read 43 = .ok (.aload_n 0, 1) := by decide +kernel
theorem dX5_read_44 : decode cX5_read 44 = .ok (.getfield 22, 3) := by decide +kernel
theorem dX5_read_47 : decode cX5_read 47 = .ok (.ifCond .ne 56, 3) := by decide +kernel
theorem dX5_read_50 : decode cX5_read 50 = .ok (.aload_n 0, 1) := by decide +kernel
theorem dX5_read_51 : decode cX5_read 51 = .ok (.getfield 19, 3) := by decide +kernel
theorem dX5_read_54 : decode cX5_read 54 = .ok (.aload_n 0, 1) := by decide +kernel
theorem dX5_read_55 : decode cX5_read 55 = .ok (.getfield 15, 3) := by decide +kernel
theorem dX5_read_58 : decode cX5_read 58 = .ok (.if_icmp .lt 6, 3) := by decide +kernel
theorem dX5_read_61 : decode cX5_read 61 = .ok (.goto 42, 3) := by decide +kernel
theorem dX5_read_64 : decode cX5_read 64 = .ok (.aload_n 0, 1) := by decide +kernel
theorem dX5_read_65 : decode cX5_read 65 = .ok (.aload_n 0, 1) := by decide +kernel
theorem dX5_read_66 : decode cX5_read 66 = .ok (.getfield 9, 3) := by decide +kernel
theorem dX5_read_69 : decode cX5_read 69 = .ok (.aload_n 0, 1) := by decide +kernel
theorem dX5_read_70 : decode cX5_read 70 = .ok (.getfield 19, 3) := by decide +kernel
theorem dX5_read_73 : decode cX5_read 73 = .ok (.iaload, 1) := by decide +kernel
theorem dX5_read_74 : decode cX5_read 74 = .ok (.invokevirtual 53, 3) := by decide +kernel
theorem dX5_read_77 : decode cX5_read 77 = .ok (.aload_n 0, 1) := by decide +kernel
theorem dX5_read_78 : decode cX5_read 78 = .ok (.getfield 22, 3) := by decide +kernel
theorem dX5_read_81 : decode cX5_read 81 = .ok (.ifCond .ne 16, 3) := by decide +kernel
theorem dX5_read_84 : decode cX5_read 84 = .ok (.aload_n 0, 1) := by decide +kernel
theorem dX5_read_85 : decode cX5_read 85 = .ok (.aload_n 0, 1) := by decide +kernel
theorem dX5_read_86 : decode cX5_read 86 = .ok (.getfield 9, 3) := by decide +kernel
theorem dX5_read_89 : decode cX5_read 89 = .ok (.aload_n 0, 1) := by decide +kernel
theorem dX5_read_90 : decode cX5_read 90 = .ok (.getfield 19, 3) := by decide +kernel
theorem dX5_read_93 : decode cX5_read 93 = .ok (.iaload, 1) := by decide +kernel
theorem dX5_read_94 : decode cX5_read 94 = .ok (.invokevirtual 57, 3) := by decide +kernel
theorem dX5_read_97 : decode cX5_read 97 = .ok (.iinc 1 1, 3) := by decide +kernel
theorem dX5_read_100 : decode cX5_read 100 = .ok (.goto (-68), 3) := by decide +kernel
theorem dX5_read_103 : decode cX5_read 103 = .ok (.aload_n 0, 1) := by decide +kernel
theorem dX5_read_104 : decode cX5_read 104 = .ok (.iconst 0, 1) := by decide +kernel
theorem dX5_read_105 : decode cX5_read 105 = .ok (.putfield 15, 3) := by decide +kernel
theorem dX5_read_108 : decode cX5_read 108 = .ok (.return_, 1) := by decide +kernel
theorem dX5_judgeWord_0 : decode cX5_judgeWord 0 = .ok (.aload_n 0, 1) := by decide +kernel
theorem dX5_judgeWord_1 : decode cX5_judgeWord 1 = .ok (.getfield 31, 3) := by decide +kernel
theorem dX5_judgeWord_4 : decode cX5_judgeWord 4 = .ok (.getfield 60, 3) := by decide +kernel
theorem dX5_judgeWord_7 : decode cX5_judgeWord 7 = .ok (.ifCond .ne 17, 3) := by decide +kernel
theorem dX5_judgeWord_10 : decode cX5_judgeWord 10 = .ok (.iload_n 1, 1) := by decide +kernel
theorem dX5_judgeWord_11 : decode cX5_judgeWord 11 = .ok (.bipush 108, 2) := by decide +kernel
theorem dX5_judgeWord_13 : decode cX5_judgeWord 13 = .ok (.if_icmp .ne 7, 3) := by decide +kernel
theorem dX5_judgeWord_16 : decode cX5_judgeWord 16 = .ok (.iconst 1, 1) := by decide +kernel
theorem dX5_judgeWord_17 : decode cX5_judgeWord 17 = .ok (.goto 30, 3) := by decide +kernel
theorem dX5_judgeWord_20 : decode cX5_judgeWord 20 = .ok (.iconst 0, 1) := by decide +kernel
theorem dX5_judgeWord_21 : decode cX5_judgeWord 21 = .ok (.goto 26, 3) := by decide +kernel
theorem dX5_judgeWord_24 : decode cX5_judgeWord 24 = .ok (.iload_n 1, 1) := by decide +kernel
theorem dX5_judgeWord_25 : decode cX5_judgeWord 25 = .ok (.bipush 108, 2) := by decide +kernel
theorem dX5_judgeWord_27 : decode cX5_judgeWord 27 = .ok (.if_icmp .eq 15, 3) := by decide +kernel
theorem dX5_judgeWord_30 : decode cX5_judgeWord 30 = .ok (.iload_n 1, 1) := by decide +kernel
theorem dX5_judgeWord_31 : decode cX5_judgeWord 31 = .ok (.bipush 99, 2) := by decide +kernel
theorem dX5_judgeWord_33 : decode cX5_judgeWord 33 = .ok (.if_icmp .eq 9, 3) := by decide +kernel
theorem dX5_judgeWord_36 : decode cX5_judgeWord 36 = .ok (.iload_n 1, 1) := by decide +kernel
theorem dX5_judgeWord_37 : decode cX5_judgeWord 37 = .ok (.bipush 112, 2) := by decide +kernel
theorem dX5_judgeWord_39 : decode cX5_judgeWord 39 = .ok (.if_icmp .ne 7, 3) := by decide +kernel
theorem dX5_judgeWord_42 : decode cX5_judgeWord 42 = .ok (.iconst 1, 1) := by decide +kernel
theorem dX5_judgeWord_43 : decode cX5_judgeWord 43 = .ok (.goto 4, 3) := by decide +kernel
theorem dX5_judgeWord_46 : decode cX5_judgeWord 46 = .ok (.iconst 0, 1) := by decide +kernel
theorem dX5_judgeWord_47 : decode cX5_judgeWord 47 = .ok (.istore_n 2, 1) := by decide +kernel
theorem dX5_judgeWord_48 : decode cX5_judgeWord 48 = .ok (.iload_n 2, 1) := by decide +kernel
theorem dX5_judgeWord_49 : decode cX5_judgeWord 49 = .ok (.ifCond .ne 15, 3) := by decide +kernel
theorem dX5_judgeWord_52 : decode cX5_judgeWord 52 = .ok (.aload_n 0, 1) := by decide +kernel
theorem dX5_judgeWord_53 : decode cX5_judgeWord 53 = .ok (.iconst 1, 1) := by decide +kernel
theorem dX5_judgeWord_54 : decode cX5_judgeWord 54 = .ok (.aload_n 0, 1) := by decide +kernel
theorem dX5_judgeWord_55 : decode cX5_judgeWord 55 = .ok (.getfield 19, 3) := by decide +kernel
theorem dX5_judgeWord_58 : decode cX5_judgeWord 58 = .ok (.invokevirtual 63, 3) := by decide +kernel
theorem dX5_judgeWord_61 : decode cX5_judgeWord 61 = .ok (.goto 20, 3) := by decide +kernel
theorem dX5_judgeWord_64 : decode cX5_judgeWord 64 = .ok (.aload_n 0, 1) := by decide +kernel
theorem dX5_judgeWord_65 : decode cX5_judgeWord 65 = .ok (.iload_n 1, 1) := by decide +kernel
theorem dX5_judgeWord_66 : decode cX5_judgeWord 66 = .ok (.invokevirtual 67, 3) := by decide +kernel
theorem dX5_judgeWord_69 : decode cX5_judgeWord 69 = .ok (.ifCond .eq 12, 3) := by decide +kernel
theorem dX5_judgeWord_72 : decode cX5_judgeWord 72 = .ok (.aload_n 0, 1) := by decide +kernel
theorem dX5_judgeWord_73 : decode cX5_judgeWord 73 = .ok (.iconst 3, 1) := by decide +kernel
theorem dX5_judgeWord_74 : decode cX5_judgeWord 74 = .ok (.aload_n 0, 1) := by decide +kernel
theorem dX5_judgeWord_75 : decode cX5_judgeWord 75 = .ok (.getfield 19, 3) := by decide +kernel
theorem dX5_judgeWord_78 : decode cX5_judgeWord 78 = .ok (.invokevirtual 63, 3) := by decide +kernel
theorem dX5_judgeWord_81 : decode cX5_judgeWord 81 = .ok (.return_, 1) := by decide +kernel
theorem dX5_isTooMany_0 : decode cX5_isTooMany 0 = .ok (.iload_n 1, 1) := by decide +kernel
theorem dX5_isTooMany_1 : decode cX5_isTooMany 1 = .ok (.bipush 99, 2) := by decide +kernel
theorem dX5_isTooMany_3 : decode cX5_isTooMany 3 = .ok (.if_icmp .ne 20, 3) := by decide +kernel
theorem dX5_isTooMany_6 : decode cX5_isTooMany 6 = .ok (.aload_n 0, 1) := by decide +kernel
theorem dX5_isTooMany_7 : decode cX5_isTooMany 7 = .ok (.getfield 31, 3) := by decide +kernel
theorem dX5_isTooMany_10 : decode cX5_isTooMany 10 = .ok (.getfield 71, 3) := by decide +kernel
theorem dX5_isTooMany_13 : decode cX5_isTooMany 13 = .ok (.iconst 4, 1) := by decide +kernel
theorem dX5_isTooMany_14 : decode cX5_isTooMany 14 = .ok (.if_icmp .lt 7, 3) := by decide +kernel
theorem dX5_isTooMany_17 : decode cX5_isTooMany 17 = .ok (.iconst 1, 1) := by decide +kernel
theorem dX5_isTooMany_18 : decode cX5_isTooMany 18 = .ok (.goto 4, 3) := by decide +kernel
theorem dX5_isTooMany_21 : decode cX5_isTooMany 21 = .ok (.iconst 0, 1) := by decide +kernel
theorem dX5_isTooMany_22 : decode cX5_isTooMany 22 = .ok (.ireturn, 1) := by decide +kernel
theorem dX5_isTooMany_23 : decode cX5_isTooMany 23 = .ok (.iload_n 1, 1) := by decide +kernel
theorem dX5_isTooMany_24 : decode cX5_isTooMany 24 = .ok (.bipush 112, 2) := by decide +kernel
theorem dX5_isTooMany_26 : decode cX5_isTooMany 26 = .ok (.if_icmp .ne 21, 3) := by decide +kernel
theorem dX5_isTooMany_29 : decode cX5_isTooMany 29 = .ok (.aload_n 0, 1) := by decide +kernel
theorem dX5_isTooMany_30 : decode cX5_isTooMany 30 = .ok (.getfield 31, 3) := by decide +kernel
theorem dX5_isTooMany_33 : decode cX5_isTooMany 33 = .ok (.getfield 74, 3) := by decide +kernel
theorem dX5_isTooMany_36 : decode cX5_isTooMany 36 = .ok (.bipush 7, 2) := by decide +kernel
theorem dX5_isTooMany_38 : decode cX5_isTooMany 38 = .ok (.if_icmp .lt 7, 3) := by decide +kernel
theorem dX5_isTooMany_41 : decode cX5_isTooMany 41 = .ok (.iconst 1, 1) := by decide +kernel
theorem dX5_isTooMany_42 : decode cX5_isTooMany 42 = .ok (.goto 4, 3) := by decide +kernel
theorem dX5_isTooMany_45 : decode cX5_isTooMany 45 = .ok (.iconst 0, 1) := by decide +kernel
theorem dX5_isTooMany_46 : decode cX5_isTooMany 46 = .ok (.ireturn, 1) := by decide +kernel
theorem dX5_isTooMany_47 : decode cX5_isTooMany 47 = .ok (.aload_n 0, 1) := by decide +kernel
theorem dX5_isTooMany_48 : decode cX5_isTooMany 48 = .ok (.getfield 31, 3) := by decide +kernel
theorem dX5_isTooMany_51 : decode cX5_isTooMany 51 = .ok (.getfield 60, 3) := by decide +kernel
theorem dX5_isTooMany_54 : decode cX5_isTooMany 54 = .ok (.ifCond .le 7, 3) := by decide +kernel
theorem dX5_isTooMany_57 : decode cX5_isTooMany 57 = .ok (.iconst 1, 1) := by decide +kernel
theorem dX5_isTooMany_58 : decode cX5_isTooMany 58 = .ok (.goto 4, 3) := by decide +kernel
theorem dX5_isTooMany_61 : decode cX5_isTooMany 61 = .ok (.iconst 0, 1) := by decide +kernel
theorem dX5_isTooMany_62 : decode cX5_isTooMany 62 = .ok (.ireturn, 1) := by decide +kernel
theorem dX5_readClause_0 : decode cX5_readClause 0 = .ok (.aload_n 0, 1) := by decide +kernel
theorem dX5_readClause_1 : decode cX5_readClause 1 = .ok (.dup, 1) := by decide +kernel
theorem dX5_readClause_2 : decode cX5_readClause 2 = .ok (.getfield 19, 3) := by decide +kernel
theorem dX5_readClause_5 : decode cX5_readClause 5 = .ok (.iconst 1, 1) := by decide +kernel
theorem dX5_readClause_6 : decode cX5_readClause 6 = .ok (.iadd, 1) := by decide +kernel
theorem dX5_readClause_7 : decode cX5_readClause 7 = .ok (.putfield 19, 3) := by decide +kernel
theorem dX5_readClause_10 : decode cX5_readClause 10 = .ok (.iload_n 1, 1) := by decide +kernel
theorem dX5_readClause_11 : decode cX5_readClause 11 = .ok (.bipush 108, 2) := by decide +kernel
theorem dX5_readClause_13 : decode cX5_readClause 13 = .ok (.if_icmp .ne 10, 3) := by decide +kernel
theorem dX5_readClause_16 : decode cX5_readClause 16 = .ok (.aload_n 0, 1) := by decide +kernel
theorem dX5_readClause_17 : decode cX5_readClause 17 = .ok (.invokevirtual 77, 3) := by decide +kernel
theorem dX5_readClause_20 : decode cX5_readClause 20 = .ok (.goto 34, 3) := by decide +kernel
theorem dX5_readClause_23 : decode cX5_readClause 23 = .ok (.iload_n 1, 1) := by decide +kernel
theorem dX5_readClause_24 : decode cX5_readClause 24 = .ok (.bipush 99, 2) := by decide +kernel
theorem dX5_readClause_26 : decode cX5_readClause 26 = .ok (.if_icmp .ne 17, 3) := by decide +kernel
theorem dX5_readClause_29 : decode cX5_readClause 29 = .ok (.aload_n 0, 1) := by decide +kernel
theorem dX5_readClause_30 : decode cX5_readClause 30 = .ok (.aload_n 0, 1) := by decide +kernel
theorem dX5_readClause_31 : decode cX5_readClause 31 = .ok (.getfield 31, 3) := by decide +kernel
theorem dX5_readClause_34 : decode cX5_readClause 34 = .ok (.getfield 71, 3) := by decide +kernel
theorem dX5_readClause_37 : decode cX5_readClause 37 = .ok (.invokevirtual 80, 3) := by decide +kernel
theorem dX5_readClause_40 : decode cX5_readClause 40 = .ok (.goto 14, 3) := by decide +kernel
theorem dX5_readClause_43 : decode cX5_readClause 43 = .ok (.aload_n 0, 1) := by decide +kernel
theorem dX5_readClause_44 : decode cX5_readClause 44 = .ok (.aload_n 0, 1) := by decide +kernel
theorem dX5_readClause_45 : decode cX5_readClause 45 = .ok (.getfield 31, 3) := by decide +kernel
theorem dX5_readClause_48 : decode cX5_readClause 48 = .ok (.getfield 74, 3) := by decide +kernel
theorem dX5_readClause_51 : decode cX5_readClause 51 = .ok (.invokevirtual 83, 3) := by decide +kernel
theorem dX5_readClause_54 : decode cX5_readClause 54 = .ok (.aload_n 0, 1) := by decide +kernel
theorem dX5_readClause_55 : decode cX5_readClause 55 = .ok (.invokevirtual 86, 3) := by decide +kernel
theorem dX5_readClause_58 : decode cX5_readClause 58 = .ok (.return_, 1) := by decide +kernel
theorem dX5_readInns_0 : decode cX5_readInns 0 = .ok (.aload_n 0, 1) := by decide +kernel
theorem dX5_readInns_1 : decode cX5_readInns 1 = .ok (.iconst 2, 1) := by decide +kernel
theorem dX5_readInns_2 : decode cX5_readInns 2 = .ok (.bipush 7, 2) := by decide +kernel
theorem dX5_readInns_4 : decode cX5_readInns 4 = .ok (.invokevirtual 89, 3) := by decide +kernel
theorem dX5_readInns_7 : decode cX5_readInns 7 = .ok (.istore_n 1, 1) := by decide +kernel
theorem dX5_readInns_8 : decode cX5_readInns 8 = .ok (.aload_n 0, 1) := by decide +kernel
theorem dX5_readInns_9 : decode cX5_readInns 9 = .ok (.getfield 40, 3) := by decide +kernel
theorem dX5_readInns_12 : decode cX5_readInns 12 = .ok (.aload_n 0, 1) := by decide +kernel
theorem dX5_readInns_13 : decode cX5_readInns 13 = .ok (.iconst 0, 1) := by decide +kernel
theorem dX5_readInns_14 : decode cX5_readInns 14 = .ok (.iconst 1, 1) := by decide +kernel
theorem dX5_readInns_15 : decode cX5_readInns 15 = .ok (.iload_n 1, 1) := by decide +kernel
theorem dX5_readInns_16 : decode cX5_readInns 16 = .ok (.ishl, 1) := by decide +kernel
theorem dX5_readInns_17 : decode cX5_readInns 17 = .ok (.iconst 1, 1) := by decide +kernel
theorem dX5_readInns_18 : decode cX5_readInns 18 = .ok (.isub, 1) := by decide +kernel
theorem dX5_readInns_19 : decode cX5_readInns 19 = .ok (.invokevirtual 89, 3) := by decide +kernel
theorem dX5_readInns_22 : decode cX5_readInns 22 = .ok (.putfield 47, 3) := by decide +kernel
theorem dX5_readInns_25 : decode cX5_readInns 25 = .ok (.aload_n 0, 1) := by decide +kernel
theorem dX5_readInns_26 : decode cX5_readInns 26 = .ok (.getfield 31, 3) := by decide +kernel
theorem dX5_readInns_29 : decode cX5_readInns 29 = .ok (.iload_n 1, 1) := by decide +kernel
theorem dX5_readInns_30 : decode cX5_readInns 30 = .ok (.putfield 60, 3) := by decide +kernel
theorem dX5_readInns_33 : decode cX5_readInns 33 = .ok (.return_, 1) := by decide +kernel
theorem dX5_readCoach_0 : decode cX5_readCoach 0 = .ok (.iload_n 1, 1) := by decide +kernel
theorem dX5_readCoach_1 : decode cX5_readCoach 1 = .ok (.iconst 4, 1) := by decide +kernel
theorem dX5_readCoach_2 : decode cX5_readCoach 2 = .ok (.if_icmp .lt 4, 3) := by decide +kernel
theorem dX5_readCoach_5 : decode cX5_readCoach 5 = .ok (.return_, 1) := by decide +kernel
theorem dX5_readCoach_6 : decode cX5_readCoach 6 = .ok (.aload_n 0, 1) := by decide +kernel
theorem dX5_readCoach_7 : decode cX5_readCoach 7 = .ok (.getfield 40, 3) := by decide +kernel
theorem dX5_readCoach_10 : decode cX5_readCoach 10 = .ok (.getfield 93, 3) := by decide +kernel
theorem dX5_readCoach_13 : decode cX5_readCoach 13 = .ok (.iload_n 1, 1) := by decide +kernel
theorem dX5_readCoach_14 : decode cX5_readCoach 14 = .ok (.aload_n 0, 1) := by decide +kernel
theorem dX5_readCoach_15 : decode cX5_readCoach 15 = .ok (.iconst 0, 1) := by decide +kernel
theorem dX5_readCoach_16 : decode cX5_readCoach 16 = .ok (.aload_n 0, 1) := by decide +kernel
theorem dX5_readCoach_17 : decode cX5_readCoach 17 = .ok (.getfield 31, 3) := by decide +kernel
theorem dX5_readCoach_20 : decode cX5_readCoach 20 = .ok (.getfield 60, 3) := by decide +kernel
theorem dX5_readCoach_23 : decode cX5_readCoach 23 = .ok (.iconst 1, 1) := by decide +kernel
theorem dX5_readCoach_24 : decode cX5_readCoach 24 = .ok (.isub, 1) := by decide +kernel
theorem dX5_readCoach_25 : decode cX5_readCoach 25 = .ok (.invokevirtual 89, 3) := by decide +kernel
theorem dX5_readCoach_28 : decode cX5_readCoach 28 = .ok (.iastore, 1) := by decide +kernel
theorem dX5_readCoach_29 : decode cX5_readCoach 29 = .ok (.aload_n 0, 1) := by decide +kernel
theorem dX5_readCoach_30 : decode cX5_readCoach 30 = .ok (.getfield 40, 3) := by decide +kernel
theorem dX5_readCoach_33 : decode cX5_readCoach 33 = .ok (.getfield 96, 3) := by decide +kernel
theorem dX5_readCoach_36 : decode cX5_readCoach 36 = .ok (.iload_n 1, 1) := by decide +kernel
theorem dX5_readCoach_37 : decode cX5_readCoach 37 = .ok (.aload_n 0, 1) := by decide +kernel
theorem dX5_readCoach_38 : decode cX5_readCoach 38 = .ok (.iconst 0, 1) := by decide +kernel
theorem dX5_readCoach_39 : decode cX5_readCoach 39 = .ok (.iconst 1, 1) := by decide +kernel
theorem dX5_readCoach_40 : decode cX5_readCoach 40 = .ok (.invokevirtual 89, 3) := by decide +kernel
theorem dX5_readCoach_43 : decode cX5_readCoach 43 = .ok (.iastore, 1) := by decide +kernel
theorem dX5_readCoach_44 : decode cX5_readCoach 44 = .ok (.aload_n 0, 1) := by decide +kernel
theorem dX5_readCoach_45 : decode cX5_readCoach 45 = .ok (.getfield 40, 3) := by decide +kernel
theorem dX5_readCoach_48 : decode cX5_readCoach 48 = .ok (.getfield 99, 3) := by decide +kernel
theorem dX5_readCoach_51 : decode cX5_readCoach 51 = .ok (.iload_n 1, 1) := by decide +kernel
theorem dX5_readCoach_52 : decode cX5_readCoach 52 = .ok (.aload_n 0, 1) := by decide +kernel
theorem dX5_readCoach_53 : decode cX5_readCoach 53 = .ok (.iconst 0, 1) := by decide +kernel
theorem dX5_readCoach_54 : decode cX5_readCoach 54 = .ok (.bipush 30, 2) := by decide +kernel
theorem dX5_readCoach_56 : decode cX5_readCoach 56 = .ok (.invokevirtual 89, 3) := by decide +kernel
theorem dX5_readCoach_59 : decode cX5_readCoach 59 = .ok (.iastore, 1) := by decide +kernel
theorem dX5_readCoach_60 : decode cX5_readCoach 60 = .ok (.aload_n 0, 1) := by decide +kernel
theorem dX5_readCoach_61 : decode cX5_readCoach 61 = .ok (.getfield 40, 3) := by decide +kernel
theorem dX5_readCoach_64 : decode cX5_readCoach 64 = .ok (.getfield 102, 3) := by decide +kernel
theorem dX5_readCoach_67 : decode cX5_readCoach 67 = .ok (.iload_n 1, 1) := by decide +kernel
theorem dX5_readCoach_68 : decode cX5_readCoach 68 = .ok (.iconst (-1), 1) := by decide +kernel
theorem dX5_readCoach_69 : decode cX5_readCoach 69 = .ok (.iastore, 1) := by decide +kernel
theorem dX5_readCoach_70 : decode cX5_readCoach 70 = .ok (.aload_n 0, 1) := by decide +kernel
theorem dX5_readCoach_71 : decode cX5_readCoach 71 = .ok (.getfield 31, 3) := by decide +kernel
theorem dX5_readCoach_74 : decode cX5_readCoach 74 = .ok (.iload_n 1, 1) := by decide +kernel
theorem dX5_readCoach_75 : decode cX5_readCoach 75 = .ok (.iconst 1, 1) := by decide +kernel
theorem dX5_readCoach_76 : decode cX5_readCoach 76 = .ok (.iadd, 1) := by decide +kernel
theorem dX5_readCoach_77 : decode cX5_readCoach 77 = .ok (.putfield 71, 3) := by decide +kernel
theorem dX5_readCoach_80 : decode cX5_readCoach 80 = .ok (.return_, 1) := by decide +kernel
theorem dX5_readPassenger_0 : decode cX5_readPassenger 0 = .ok (.iload_n 1, 1) := by decide +kernel
theorem dX5_readPassenger_1 : decode cX5_readPassenger 1 = .ok (.bipush 7, 2) := by decide +kernel
theorem dX5_readPassenger_3 : decode cX5_readPassenger 3 = .ok (.if_icmp .lt 4, 3) := by decide +kernel
theorem dX5_readPassenger_6 : decode cX5_readPassenger 6 = .ok (.return_, 1) := by decide +kernel
theorem dX5_readPassenger_7 : decode cX5_readPassenger 7 = .ok (.aload_n 0, 1) := by decide +kernel
theorem dX5_readPassenger_8 : decode cX5_readPassenger 8 = .ok (.getfield 31, 3) := by decide +kernel
theorem dX5_readPassenger_11 : decode cX5_readPassenger 11 = .ok (.getfield 105, 3) := by decide +kernel
theorem dX5_readPassenger_14 : decode cX5_readPassenger 14 = .ok (.iload_n 1, 1) := by decide +kernel
theorem dX5_readPassenger_15 : decode cX5_readPassenger 15 = .ok (.aload_n 0, 1) := by decide +kernel
theorem dX5_readPassenger_16 : decode cX5_readPassenger 16 = .ok (.iconst 0, 1) := by decide +kernel
theorem dX5_readPassenger_17 : decode cX5_readPassenger 17 = .ok (.iconst 3, 1) := by decide +kernel
theorem dX5_readPassenger_18 : decode cX5_readPassenger 18 = .ok (.invokevirtual 89, 3) := by decide +kernel
theorem dX5_readPassenger_21 : decode cX5_readPassenger 21 = .ok (.iastore, 1) := by decide +kernel
theorem dX5_readPassenger_22 : decode cX5_readPassenger 22 = .ok (.aload_n 0, 1) := by decide +kernel
theorem dX5_readPassenger_23 : decode cX5_readPassenger 23 = .ok (.getfield 40, 3) := by decide +kernel
theorem dX5_readPassenger_26 : decode cX5_readPassenger 26 = .ok (.getfield 108, 3) := by decide +kernel
theorem dX5_readPassenger_29 : decode cX5_readPassenger 29 = .ok (.iload_n 1, 1) := by decide +kernel
theorem dX5_readPassenger_30 : decode cX5_readPassenger 30 = .ok (.aload_n 0, 1) := by decide +kernel
theorem dX5_readPassenger_31 : decode cX5_readPassenger 31 = .ok (.iconst 0, 1) := by decide +kernel
theorem dX5_readPassenger_32 : decode cX5_readPassenger 32 = .ok (.aload_n 0, 1) := by decide +kernel
theorem dX5_readPassenger_33 : decode cX5_readPassenger 33 = .ok (.getfield 31, 3) := by decide +kernel
theorem dX5_readPassenger_36 : decode cX5_readPassenger 36 = .ok (.getfield 60, 3) := by decide +kernel
theorem dX5_readPassenger_39 : decode cX5_readPassenger 39 = .ok (.iconst 1, 1) := by decide +kernel
theorem dX5_readPassenger_40 : decode cX5_readPassenger 40 = .ok (.isub, 1) := by decide +kernel
theorem dX5_readPassenger_41 : decode cX5_readPassenger 41 = .ok (.invokevirtual 89, 3) := by decide +kernel
theorem dX5_readPassenger_44 : decode cX5_readPassenger 44 = .ok (.iastore, 1) := by decide +kernel
theorem dX5_readPassenger_45 : decode cX5_readPassenger 45 = .ok (.aload_n 0, 1) := by decide +kernel
theorem dX5_readPassenger_46 : decode cX5_readPassenger 46 = .ok (.getfield 40, 3) := by decide +kernel
theorem dX5_readPassenger_49 : decode cX5_readPassenger 49 = .ok (.getfield 111, 3) := by decide +kernel
theorem dX5_readPassenger_52 : decode cX5_readPassenger 52 = .ok (.iload_n 1, 1) := by decide +kernel
theorem dX5_readPassenger_53 : decode cX5_readPassenger 53 = .ok (.iconst (-1), 1) := by decide +kernel
theorem dX5_readPassenger_54 : decode cX5_readPassenger 54 = .ok (.iastore, 1) := by decide +kernel
theorem dX5_readPassenger_55 : decode cX5_readPassenger 55 = .ok (.aload_n 0, 1) := by decide +kernel
theorem dX5_readPassenger_56 : decode cX5_readPassenger 56 = .ok (.getfield 40, 3) := by decide +kernel
theorem dX5_readPassenger_59 : decode cX5_readPassenger 59 = .ok (.getfield 114, 3) := by decide +kernel
theorem dX5_readPassenger_62 : decode cX5_readPassenger 62 = .ok (.iload_n 1, 1) := by decide +kernel
theorem dX5_readPassenger_63 : decode cX5_readPassenger 63 = .ok (.aload_n 0, 1) := by decide +kernel
theorem dX5_readPassenger_64 : decode cX5_readPassenger 64 = .ok (.iconst 0, 1) := by decide +kernel
theorem dX5_readPassenger_65 : decode cX5_readPassenger 65 = .ok (.bipush 30, 2) := by decide +kernel
theorem dX5_readPassenger_67 : decode cX5_readPassenger 67 = .ok (.invokevirtual 89, 3) := by decide +kernel
theorem dX5_readPassenger_70 : decode cX5_readPassenger 70 = .ok (.iastore, 1) := by decide +kernel
theorem dX5_readPassenger_71 : decode cX5_readPassenger 71 = .ok (.aload_n 0, 1) := by decide +kernel
theorem dX5_readPassenger_72 : decode cX5_readPassenger 72 = .ok (.getfield 31, 3) := by decide +kernel
theorem dX5_readPassenger_75 : decode cX5_readPassenger 75 = .ok (.getfield 117, 3) := by decide +kernel
theorem dX5_readPassenger_78 : decode cX5_readPassenger 78 = .ok (.iload_n 1, 1) := by decide +kernel
theorem dX5_readPassenger_79 : decode cX5_readPassenger 79 = .ok (.aload_n 0, 1) := by decide +kernel
theorem dX5_readPassenger_80 : decode cX5_readPassenger 80 = .ok (.iconst 0, 1) := by decide +kernel
theorem dX5_readPassenger_81 : decode cX5_readPassenger 81 = .ok (.aload_n 0, 1) := by decide +kernel
theorem dX5_readPassenger_82 : decode cX5_readPassenger 82 = .ok (.getfield 31, 3) := by decide +kernel
theorem dX5_readPassenger_85 : decode cX5_readPassenger 85 = .ok (.getfield 60, 3) := by decide +kernel
theorem dX5_readPassenger_88 : decode cX5_readPassenger 88 = .ok (.iconst 1, 1) := by decide +kernel
theorem dX5_readPassenger_89 : decode cX5_readPassenger 89 = .ok (.isub, 1) := by decide +kernel
theorem dX5_readPassenger_90 : decode cX5_readPassenger 90 = .ok (.invokevirtual 89, 3) := by decide +kernel
theorem dX5_readPassenger_93 : decode cX5_readPassenger 93 = .ok (.iastore, 1) := by decide +kernel
theorem dX5_readPassenger_94 : decode cX5_readPassenger 94 = .ok (.aload_n 0, 1) := by decide +kernel
theorem dX5_readPassenger_95 : decode cX5_readPassenger 95 = .ok (.getfield 40, 3) := by decide +kernel
theorem dX5_readPassenger_98 : decode cX5_readPassenger 98 = .ok (.getfield 120, 3) := by decide +kernel
theorem dX5_readPassenger_101 : decode cX5_readPassenger 101 = .ok (.iload_n 1, 1) := by decide +kernel
theorem dX5_readPassenger_102 : decode cX5_readPassenger 102 = .ok (.aload_n 0, 1) := by decide +kernel
theorem dX5_readPassenger_103 : decode cX5_readPassenger 103 = .ok (.invokevirtual 123, 3) := by decide +kernel
theorem dX5_readPassenger_106 : decode cX5_readPassenger 106 = .ok (.iastore, 1) := by decide +kernel
theorem dX5_readPassenger_107 : decode cX5_readPassenger 107 = .ok (.aload_n 0, 1) := by decide +kernel
theorem dX5_readPassenger_108 : decode cX5_readPassenger 108 = .ok (.getfield 31, 3) := by decide +kernel
theorem dX5_readPassenger_111 : decode cX5_readPassenger 111 = .ok (.iload_n 1, 1) := by decide +kernel
theorem dX5_readPassenger_112 : decode cX5_readPassenger 112 = .ok (.iconst 1, 1) := by decide +kernel
theorem dX5_readPassenger_113 : decode cX5_readPassenger 113 = .ok (.iadd, 1) := by decide +kernel
theorem dX5_readPassenger_114 : decode cX5_readPassenger 114 = .ok (.putfield 74, 3) := by decide +kernel
theorem dX5_readPassenger_117 : decode cX5_readPassenger 117 = .ok (.return_, 1) := by decide +kernel
theorem dX5_booking_0 : decode cX5_booking 0 = .ok (.aload_n 0, 1) := by decide +kernel
theorem dX5_booking_1 : decode cX5_booking 1 = .ok (.invokevirtual 50, 3) := by decide +kernel
theorem dX5_booking_4 : decode cX5_booking 4 = .ok (.aload_n 0, 1) := by decide +kernel
theorem dX5_booking_5 : decode cX5_booking 5 = .ok (.getfield 19, 3) := by decide +kernel
theorem dX5_booking_8 : decode cX5_booking 8 = .ok (.istore_n 1, 1) := by decide +kernel
theorem dX5_booking_9 : decode cX5_booking 9 = .ok (.aload_n 0, 1) := by decide +kernel
theorem dX5_booking_10 : decode cX5_booking 10 = .ok (.iconst 0, 1) := by decide +kernel
theorem dX5_booking_11 : decode cX5_booking 11 = .ok (.bipush 9, 2) := by decide +kernel
theorem dX5_booking_13 : decode cX5_booking 13 = .ok (.invokevirtual 89, 3) := by decide +kernel
theorem dX5_booking_16 : decode cX5_booking 16 = .ok (.istore_n 2, 1) := by decide +kernel
theorem dX5_booking_17 : decode cX5_booking 17 = .ok (.iload_n 2, 1) := by decide +kernel
theorem dX5_booking_18 : decode cX5_booking 18 = .ok (.bipush 9, 2) := by decide +kernel
theorem dX5_booking_20 : decode cX5_booking 20 = .ok (.if_icmp .ne 5, 3) := by decide +kernel
theorem dX5_booking_23 : decode cX5_booking 23 = .ok (.iconst (-1), 1) := by decide +kernel
theorem dX5_booking_24 : decode cX5_booking 24 = .ok (.ireturn, 1) := by decide +kernel
theorem dX5_booking_25 : decode cX5_booking 25 = .ok (.iload_n 2, 1) := by decide +kernel
theorem dX5_booking_26 : decode cX5_booking 26 = .ok (.aload_n 0, 1) := by decide +kernel
theorem dX5_booking_27 : decode cX5_booking 27 = .ok (.getfield 31, 3) := by decide +kernel
theorem dX5_booking_30 : decode cX5_booking 30 = .ok (.getfield 71, 3) := by decide +kernel
theorem dX5_booking_33 : decode cX5_booking 33 = .ok (.if_icmp .lt 9, 3) := by decide +kernel
theorem dX5_booking_36 : decode cX5_booking 36 = .ok (.aload_n 0, 1) := by decide +kernel
theorem dX5_booking_37 : decode cX5_booking 37 = .ok (.iconst 2, 1) := by decide +kernel
theorem dX5_booking_38 : decode cX5_booking 38 = .ok (.iload_n 1, 1) := by decide +kernel
theorem dX5_booking_39 : decode cX5_booking 39 = .ok (.invokevirtual 63, 3) := by decide +kernel
theorem dX5_booking_42 : decode cX5_booking 42 = .ok (.iload_n 2, 1) := by decide +kernel
theorem dX5_booking_43 : decode cX5_booking 43 = .ok (.ireturn, 1) := by decide +kernel
theorem dX5_number_0 : decode cX5_number 0 = .ok (.aload_n 0, 1) := by decide +kernel
theorem dX5_number_1 : decode cX5_number 1 = .ok (.invokevirtual 50, 3) := by decide +kernel
theorem dX5_number_4 : decode cX5_number 4 = .ok (.aload_n 0, 1) := by decide +kernel
theorem dX5_number_5 : decode cX5_number 5 = .ok (.invokevirtual 127, 3) := by decide +kernel
theorem dX5_number_8 : decode cX5_number 8 = .ok (.ifCond .ne 12, 3) := by decide +kernel
theorem dX5_number_11 : decode cX5_number 11 = .ok (.aload_n 0, 1) := by decide +kernel
theorem dX5_number_12 : decode cX5_number 12 = .ok (.iconst 1, 1) := by decide +kernel
theorem dX5_number_13 : decode cX5_number 13 = .ok (.aload_n 0, 1) := by decide +kernel
theorem dX5_number_14 : decode cX5_number 14 = .ok (.getfield 19, 3) := by decide +kernel
theorem dX5_number_17 : decode cX5_number 17 = .ok (.invokevirtual 63, 3) := by decide +kernel
theorem dX5_number_20 : decode cX5_number 20 = .ok (.aload_n 0, 1) := by decide +kernel
theorem dX5_number_21 : decode cX5_number 21 = .ok (.getfield 22, 3) := by decide +kernel
theorem dX5_number_24 : decode cX5_number 24 = .ok (.ifCond .eq 5, 3) := by decide +kernel
theorem dX5_number_27 : decode cX5_number 27 = .ok (.iconst 0, 1) := by decide +kernel
theorem dX5_number_28 : decode cX5_number 28 = .ok (.ireturn, 1) := by decide +kernel
theorem dX5_number_29 : decode cX5_number 29 = .ok (.aload_n 0, 1) := by decide +kernel
theorem dX5_number_30 : decode cX5_number 30 = .ok (.getfield 19, 3) := by decide +kernel
theorem dX5_number_33 : decode cX5_number 33 = .ok (.istore_n 3, 1) := by decide +kernel
theorem dX5_number_34 : decode cX5_number 34 = .ok (.iconst 0, 1) := by decide +kernel
theorem dX5_number_35 : decode cX5_number 35 = .ok (.istore 4, 2) := by decide +kernel
theorem dX5_number_37 : decode cX5_number 37 = .ok (.aload_n 0, 1) := by decide +kernel
theorem dX5_number_38 : decode cX5_number 38 = .ok (.getfield 19, 3) := by decide +kernel
theorem dX5_number_41 : decode cX5_number 41 = .ok (.aload_n 0, 1) := by decide +kernel
theorem dX5_number_42 : decode cX5_number 42 = .ok (.getfield 15, 3) := by decide +kernel
theorem dX5_number_45 : decode cX5_number 45 = .ok (.if_icmp .ge 53, 3) := by decide +kernel
theorem dX5_number_48 : decode cX5_number 48 = .ok (.aload_n 0, 1) := by decide +kernel
theorem dX5_number_49 : decode cX5_number 49 = .ok (.invokevirtual 127, 3) := by decide +kernel
theorem dX5_number_52 : decode cX5_number 52 = .ok (.ifCond .eq 46, 3) := by decide +kernel
theorem dX5_number_55 : decode cX5_number 55 = .ok (.aload_n 0, 1) := by decide +kernel
theorem dX5_number_56 : decode cX5_number 56 = .ok (.getfield 19, 3) := by decide +kernel
theorem dX5_number_59 : decode cX5_number 59 = .ok (.iload_n 3, 1) := by decide +kernel
theorem dX5_number_60 : decode cX5_number 60 = .ok (.isub, 1) := by decide +kernel
theorem dX5_number_61 : decode cX5_number 61 = .ok (.iconst 3, 1) := by decide +kernel
theorem dX5_number_62 : decode cX5_number 62 = .ok (.if_icmp .ge 23, 3) := by decide +kernel
theorem dX5_number_65 : decode cX5_number 65 = .ok (.iload 4, 2) := by decide +kernel
theorem dX5_number_67 : decode cX5_number 67 = .ok (.bipush 10, 2) := by decide +kernel
theorem dX5_number_69 : decode cX5_number 69 = .ok (.imul, 1) := by decide +kernel
theorem dX5_number_70 : decode cX5_number 70 = .ok (.aload_n 0, 1) := by decide +kernel
theorem dX5_number_71 : decode cX5_number 71 = .ok (.getfield 9, 3) := by decide +kernel
theorem dX5_number_74 : decode cX5_number 74 = .ok (.aload_n 0, 1) := by decide +kernel
theorem dX5_number_75 : decode cX5_number 75 = .ok (.getfield 19, 3) := by decide +kernel
theorem dX5_number_78 : decode cX5_number 78 = .ok (.iaload, 1) := by decide +kernel
theorem dX5_number_79 : decode cX5_number 79 = .ok (.iadd, 1) := by decide +kernel
theorem dX5_number_80 : decode cX5_number 80 = .ok (.bipush 48, 2) := by decide +kernel
theorem dX5_number_82 : decode cX5_number 82 = .ok (.isub, 1) := by decide +kernel
theorem dX5_number_83 : decode cX5_number 83 = .ok (.istore 4, 2) := by decide +kernel
theorem dX5_number_85 : decode cX5_number 85 = .ok (.aload_n 0, 1) := by decide +kernel
theorem dX5_number_86 : decode cX5_number 86 = .ok (.dup, 1) := by decide +kernel
theorem dX5_number_87 : decode cX5_number 87 = .ok (.getfield 19, 3) := by decide +kernel
theorem dX5_number_90 : decode cX5_number 90 = .ok (.iconst 1, 1) := by decide +kernel
theorem dX5_number_91 : decode cX5_number 91 = .ok (.iadd, 1) := by decide +kernel
theorem dX5_number_92 : decode cX5_number 92 = .ok (.putfield 19, 3) := by decide +kernel
theorem dX5_number_95 : decode cX5_number 95 = .ok (.goto (-58), 3) := by decide +kernel
theorem dX5_number_98 : decode cX5_number 98 = .ok (.aload_n 0, 1) := by decide +kernel
theorem dX5_number_99 : decode cX5_number 99 = .ok (.getfield 19, 3) := by decide +kernel
theorem dX5_number_102 : decode cX5_number 102 = .ok (.iload_n 3, 1) := by decide +kernel
theorem dX5_number_103 : decode cX5_number 103 = .ok (.isub, 1) := by decide +kernel
theorem dX5_number_104 : decode cX5_number 104 = .ok (.iconst 3, 1) := by decide +kernel
theorem dX5_number_105 : decode cX5_number 105 = .ok (.if_icmp .gt 15, 3) := by decide +kernel
theorem dX5_number_108 : decode cX5_number 108 = .ok (.iload 4, 2) := by decide +kernel
theorem dX5_number_110 : decode cX5_number 110 = .ok (.iload_n 1, 1) := by decide +kernel
theorem dX5_number_111 : decode cX5_number 111 = .ok (.if_icmp .lt 9, 3) := by decide +kernel
theorem dX5_number_114 : decode cX5_number 114 = .ok (.iload 4, 2) := by decide +kernel
theorem dX5_number_116 : decode cX5_number 116 = .ok (.iload_n 2, 1) := by decide +kernel
theorem dX5_number_117 : decode cX5_number 117 = .ok (.if_icmp .le 11, 3) := by decide +kernel
theorem dX5_number_120 : decode cX5_number 120 = .ok (.aload_n 0, 1) := by decide +kernel
theorem dX5_number_121 : decode cX5_number 121 = .ok (.iconst 2, 1) := by decide +kernel
theorem dX5_number_122 : decode cX5_number 122 = .ok (.iload_n 3, 1) := by decide +kernel
theorem dX5_number_123 : decode cX5_number 123 = .ok (.invokevirtual 63, 3) := by decide +kernel
theorem dX5_number_126 : decode cX5_number 126 = .ok (.iconst 0, 1) := by decide +kernel
theorem dX5_number_127 : decode cX5_number 127 = .ok (.ireturn, 1) := by decide +kernel
theorem dX5_number_128 : decode cX5_number 128 = .ok (.iload 4, 2) := by decide +kernel
theorem dX5_number_130 : decode cX5_number 130 = .ok (.ireturn, 1) := by decide +kernel
theorem dX5_readEnd_0 : decode cX5_readEnd 0 = .ok (.aload_n 0, 1) := by decide +kernel
theorem dX5_readEnd_1 : decode cX5_readEnd 1 = .ok (.invokevirtual 50, 3) := by decide +kernel
theorem dX5_readEnd_4 : decode cX5_readEnd 4 = .ok (.aload_n 0, 1) := by decide +kernel
theorem dX5_readEnd_5 : decode cX5_readEnd 5 = .ok (.getfield 19, 3) := by decide +kernel
theorem dX5_readEnd_8 : decode cX5_readEnd 8 = .ok (.aload_n 0, 1) := by decide +kernel
theorem dX5_readEnd_9 : decode cX5_readEnd 9 = .ok (.getfield 15, 3) := by decide +kernel
theorem dX5_readEnd_12 : decode cX5_readEnd 12 = .ok (.if_icmp .ge 17, 3) := by decide +kernel
theorem dX5_readEnd_15 : decode cX5_readEnd 15 = .ok (.aload_n 0, 1) := by decide +kernel
theorem dX5_readEnd_16 : decode cX5_readEnd 16 = .ok (.getfield 9, 3) := by decide +kernel
theorem dX5_readEnd_19 : decode cX5_readEnd 19 = .ok (.aload_n 0, 1) := by decide +kernel
theorem dX5_readEnd_20 : decode cX5_readEnd 20 = .ok (.getfield 19, 3) := by decide +kernel
theorem dX5_readEnd_23 : decode cX5_readEnd 23 = .ok (.iaload, 1) := by decide +kernel
theorem dX5_readEnd_24 : decode cX5_readEnd 24 = .ok (.bipush 59, 2) := by decide +kernel
theorem dX5_readEnd_26 : decode cX5_readEnd 26 = .ok (.if_icmp .eq 15, 3) := by decide +kernel
theorem dX5_readEnd_29 : decode cX5_readEnd 29 = .ok (.aload_n 0, 1) := by decide +kernel
theorem dX5_readEnd_30 : decode cX5_readEnd 30 = .ok (.iconst 1, 1) := by decide +kernel
theorem dX5_readEnd_31 : decode cX5_readEnd 31 = .ok (.aload_n 0, 1) := by decide +kernel
theorem dX5_readEnd_32 : decode cX5_readEnd 32 = .ok (.getfield 19, 3) := by decide +kernel
theorem dX5_readEnd_35 : decode cX5_readEnd 35 = .ok (.invokevirtual 63, 3) := by decide +kernel
theorem dX5_readEnd_38 : decode cX5_readEnd 38 = .ok (.goto 13, 3) := by decide +kernel
theorem dX5_readEnd_41 : decode cX5_readEnd 41 = .ok (.aload_n 0, 1) := by decide +kernel
theorem dX5_readEnd_42 : decode cX5_readEnd 42 = .ok (.dup, 1) := by decide +kernel
theorem dX5_readEnd_43 : decode cX5_readEnd 43 = .ok (.getfield 19, 3) := by decide +kernel
theorem dX5_readEnd_46 : decode cX5_readEnd 46 = .ok (.iconst 1, 1) := by decide +kernel
theorem dX5_readEnd_47 : decode cX5_readEnd 47 = .ok (.iadd, 1) := by decide +kernel
theorem dX5_readEnd_48 : decode cX5_readEnd 48 = .ok (.putfield 19, 3) := by decide +kernel
theorem dX5_readEnd_51 : decode cX5_readEnd 51 = .ok (.return_, 1) := by decide +kernel
theorem dX5_skipBlanks_0 : decode cX5_skipBlanks 0 = .ok (.aload_n 0, 1) := by decide +kernel
theorem dX5_skipBlanks_1 : decode cX5_skipBlanks 1 = .ok (.getfield 19, 3) := by decide +kernel
theorem dX5_skipBlanks_4 : decode cX5_skipBlanks 4 = .ok (.aload_n 0, 1) := by decide +kernel
theorem dX5_skipBlanks_5 : decode cX5_skipBlanks 5 = .ok (.getfield 15, 3) := by decide +kernel
theorem dX5_skipBlanks_8 : decode cX5_skipBlanks 8 = .ok (.if_icmp .ge 30, 3) := by decide +kernel
theorem dX5_skipBlanks_11 : decode cX5_skipBlanks 11 = .ok (.aload_n 0, 1) := by decide +kernel
theorem dX5_skipBlanks_12 : decode cX5_skipBlanks 12 = .ok (.getfield 9, 3) := by decide +kernel
theorem dX5_skipBlanks_15 : decode cX5_skipBlanks 15 = .ok (.aload_n 0, 1) := by decide +kernel
theorem dX5_skipBlanks_16 : decode cX5_skipBlanks 16 = .ok (.getfield 19, 3) := by decide +kernel
theorem dX5_skipBlanks_19 : decode cX5_skipBlanks 19 = .ok (.iaload, 1) := by decide +kernel
theorem dX5_skipBlanks_20 : decode cX5_skipBlanks 20 = .ok (.bipush 32, 2) := by decide +kernel
theorem dX5_skipBlanks_22 : decode cX5_skipBlanks 22 = .ok (.if_icmp .ne 16, 3) := by decide +kernel
theorem dX5_skipBlanks_25 : decode cX5_skipBlanks 25 = .ok (.aload_n 0, 1) := by decide +kernel
theorem dX5_skipBlanks_26 : decode cX5_skipBlanks 26 = .ok (.dup, 1) := by decide +kernel
theorem dX5_skipBlanks_27 : decode cX5_skipBlanks 27 = .ok (.getfield 19, 3) := by decide +kernel
theorem dX5_skipBlanks_30 : decode cX5_skipBlanks 30 = .ok (.iconst 1, 1) := by decide +kernel
theorem dX5_skipBlanks_31 : decode cX5_skipBlanks 31 = .ok (.iadd, 1) := by decide +kernel
theorem dX5_skipBlanks_32 : decode cX5_skipBlanks 32 = .ok (.putfield 19, 3) := by decide +kernel
theorem dX5_skipBlanks_35 : decode cX5_skipBlanks 35 = .ok (.goto (-35), 3) := by decide +kernel
theorem dX5_skipBlanks_38 : decode cX5_skipBlanks 38 = .ok (.return_, 1) := by decide +kernel
theorem dX5_isFigure_0 : decode cX5_isFigure 0 = .ok (.aload_n 0, 1) := by decide +kernel
theorem dX5_isFigure_1 : decode cX5_isFigure 1 = .ok (.getfield 19, 3) := by decide +kernel
theorem dX5_isFigure_4 : decode cX5_isFigure 4 = .ok (.aload_n 0, 1) := by decide +kernel
theorem dX5_isFigure_5 : decode cX5_isFigure 5 = .ok (.getfield 15, 3) := by decide +kernel
theorem dX5_isFigure_8 : decode cX5_isFigure 8 = .ok (.if_icmp .ge 35, 3) := by decide +kernel
theorem dX5_isFigure_11 : decode cX5_isFigure 11 = .ok (.aload_n 0, 1) := by decide +kernel
theorem dX5_isFigure_12 : decode cX5_isFigure 12 = .ok (.getfield 9, 3) := by decide +kernel
theorem dX5_isFigure_15 : decode cX5_isFigure 15 = .ok (.aload_n 0, 1) := by decide +kernel
theorem dX5_isFigure_16 : decode cX5_isFigure 16 = .ok (.getfield 19, 3) := by decide +kernel
theorem dX5_isFigure_19 : decode cX5_isFigure 19 = .ok (.iaload, 1) := by decide +kernel
theorem dX5_isFigure_20 : decode cX5_isFigure 20 = .ok (.bipush 48, 2) := by decide +kernel
theorem dX5_isFigure_22 : decode cX5_isFigure 22 = .ok (.if_icmp .lt 21, 3) := by decide +kernel
theorem dX5_isFigure_25 : decode cX5_isFigure 25 = .ok (.aload_n 0, 1) := by decide +kernel
theorem dX5_isFigure_26 : decode cX5_isFigure 26 = .ok (.getfield 9, 3) := by decide +kernel
theorem dX5_isFigure_29 : decode cX5_isFigure 29 = .ok (.aload_n 0, 1) := by decide +kernel
theorem dX5_isFigure_30 : decode cX5_isFigure 30 = .ok (.getfield 19, 3) := by decide +kernel
theorem dX5_isFigure_33 : decode cX5_isFigure 33 = .ok (.iaload, 1) := by decide +kernel
theorem dX5_isFigure_34 : decode cX5_isFigure 34 = .ok (.bipush 57, 2) := by decide +kernel
theorem dX5_isFigure_36 : decode cX5_isFigure 36 = .ok (.if_icmp .gt 7, 3) := by decide +kernel
theorem dX5_isFigure_39 : decode cX5_isFigure 39 = .ok (.iconst 1, 1) := by decide +kernel
theorem dX5_isFigure_40 : decode cX5_isFigure 40 = .ok (.goto 4, 3) := by decide +kernel
theorem dX5_isFigure_43 : decode cX5_isFigure 43 = .ok (.iconst 0, 1) := by decide +kernel
theorem dX5_isFigure_44 : decode cX5_isFigure 44 = .ok (.ireturn, 1) := by decide +kernel
theorem dX5_blame_0 : decode cX5_blame 0 = .ok (.aload_n 0, 1) := by decide +kernel
theorem dX5_blame_1 : decode cX5_blame 1 = .ok (.getfield 22, 3) := by decide +kernel
theorem dX5_blame_4 : decode cX5_blame 4 = .ok (.ifCond .ne 13, 3) := by decide +kernel
theorem dX5_blame_7 : decode cX5_blame 7 = .ok (.aload_n 0, 1) := by decide +kernel
theorem dX5_blame_8 : decode cX5_blame 8 = .ok (.iload_n 1, 1) := by decide +kernel
theorem dX5_blame_9 : decode cX5_blame 9 = .ok (.putfield 22, 3) := by decide +kernel
theorem dX5_blame_12 : decode cX5_blame 12 = .ok (.aload_n 0, 1) := by decide +kernel
theorem dX5_blame_13 : decode cX5_blame 13 = .ok (.iload_n 2, 1) := by decide +kernel
theorem dX5_blame_14 : decode cX5_blame 14 = .ok (.putfield 25, 3) := by decide +kernel
theorem dX5_blame_17 : decode cX5_blame 17 = .ok (.return_, 1) := by decide +kernel
theorem dX6_init_0 : decode cX6_init 0 = .ok (.aload_n 0, 1) := by decide +kernel
theorem dX6_init_1 : decode cX6_init 1 = .ok (.invokespecial 3, 3) := by decide +kernel
theorem dX6_init_4 : decode cX6_init 4 = .ok (.aload_n 0, 1) := by decide +kernel
theorem dX6_init_5 : decode cX6_init 5 = .ok (.bipush 15, 2) := by decide +kernel
theorem dX6_init_7 : decode cX6_init 7 = .ok (.newarray .int, 2) := by decide +kernel
theorem dX6_init_9 : decode cX6_init 9 = .ok (.putfield 9, 3) := by decide +kernel
theorem dX6_init_12 : decode cX6_init 12 = .ok (.aload_n 0, 1) := by decide +kernel
theorem dX6_init_13 : decode cX6_init 13 = .ok (.bipush 15, 2) := by decide +kernel
theorem dX6_init_15 : decode cX6_init 15 = .ok (.newarray .int, 2) := by decide +kernel
theorem dX6_init_17 : decode cX6_init 17 = .ok (.putfield 15, 3) := by decide +kernel
theorem dX6_init_20 : decode cX6_init 20 = .ok (.aload_n 0, 1) := by decide +kernel
theorem dX6_init_21 : decode cX6_init 21 = .ok (.iconst 0, 1) := by decide +kernel
theorem dX6_init_22 : decode cX6_init 22 = .ok (.putfield 18, 3) := by decide +kernel
theorem dX6_init_25 : decode cX6_init 25 = .ok (.return_, 1) := by decide +kernel
theorem dX6_add_0 : decode cX6_add 0 = .ok (.aload_n 0, 1) := by decide +kernel
theorem dX6_add_1 : decode cX6_add 1 = .ok (.getfield 18, 3) := by decide +kernel
theorem dX6_add_4 : decode cX6_add 4 = .ok (.bipush 15, 2) := by decide +kernel
theorem dX6_add_6 : decode cX6_add 6 = .ok (.if_icmp .ge 33, 3) := by decide +kernel
theorem dX6_add_9 : decode cX6_add 9 = .ok (.aload_n 0, 1) := by decide +kernel
theorem dX6_add_10 : decode cX6_add 10 = .ok (.getfield 9, 3) := by decide +kernel
theorem dX6_add_13 : decode cX6_add 13 = .ok (.aload_n 0, 1) := by decide +kernel
theorem dX6_add_14 : decode cX6_add 14 = .ok (.getfield 18, 3) := by decide +kernel
theorem dX6_add_17 : decode cX6_add 17 = .ok (.iload_n 1, 1) := by decide +kernel
theorem dX6_add_18 : decode cX6_add 18 = .ok (.iastore, 1) := by decide +kernel
theorem dX6_add_19 : decode cX6_add 19 = .ok (.aload_n 0, 1) := by decide +kernel
theorem dX6_add_20 : decode cX6_add 20 = .ok (.getfield 15, 3) := by decide +kernel
theorem dX6_add_23 : decode cX6_add 23 = .ok (.aload_n 0, 1) := by decide +kernel
theorem dX6_add_24 : decode cX6_add 24 = .ok (.getfield 18, 3) := by decide +kernel
theorem dX6_add_27 : decode cX6_add 27 = .ok (.iload_n 2, 1) := by decide +kernel
theorem dX6_add_28 : decode cX6_add 28 = .ok (.iastore, 1) := by decide +kernel
theorem dX6_add_29 : decode cX6_add 29 = .ok (.aload_n 0, 1) := by decide +kernel
theorem dX6_add_30 : decode cX6_add 30 = .ok (.dup, 1) := by decide +kernel
theorem dX6_add_31 : decode cX6_add 31 = .ok (.getfield 18, 3) := by decide +kernel
theorem dX6_add_34 : decode cX6_add 34 = .ok (.iconst 1, 1) := by decide +kernel
theorem dX6_add_35 : decode cX6_add 35 = .ok (.iadd, 1) := by decide +kernel
theorem dX6_add_36 : decode cX6_add 36 = .ok (.putfield 18, 3) := by decide +kernel
theorem dX6_add_39 : decode cX6_add 39 = .ok (.return_, 1) := by decide +kernel
theorem dX6_firstWrong_0 : decode cX6_firstWrong 0 = .ok (.iconst 0, 1) := by decide +kernel
theorem dX6_firstWrong_1 : decode cX6_firstWrong 1 = .ok (.istore_n 2, 1) := by decide +kernel
theorem dX6_firstWrong_2 : decode cX6_firstWrong 2 = .ok (.iload_n 2, 1) := by decide +kernel
theorem dX6_firstWrong_3 : decode cX6_firstWrong 3 = .ok (.aload_n 0, 1) := by decide +kernel
theorem dX6_firstWrong_4 : decode cX6_firstWrong 4 = .ok (.getfield 18, 3) := by decide +kernel
theorem dX6_firstWrong_7 : decode cX6_firstWrong 7 = .ok (.if_icmp .ge 31, 3) := by decide +kernel
theorem dX6_firstWrong_10 : decode cX6_firstWrong 10 = .ok (.aload_n 1, 1) := by decide +kernel
theorem dX6_firstWrong_11 : decode cX6_firstWrong 11 = .ok (.getfield 22, 3) := by decide +kernel
theorem dX6_firstWrong_14 : decode cX6_firstWrong 14 = .ok (.aload_n 0, 1) := by decide +kernel
theorem dX6_firstWrong_15 : decode cX6_firstWrong 15 = .ok (.getfield 9, 3) := by decide +kernel
theorem dX6_firstWrong_18 : decode cX6_firstWrong 18 = .ok (.iload_n 2, 1) := by decide +kernel
theorem dX6_firstWrong_19 : decode cX6_firstWrong 19 = .ok (.iaload, 1) := by decide +kernel
theorem dX6_firstWrong_20 : decode cX6_firstWrong 20 = .ok (.iaload, 1) := by decide +kernel
theorem dX6_firstWrong_21 : decode cX6_firstWrong 21 = .ok (.aload_n 0, 1) := by decide +kernel
theorem dX6_firstWrong_22 : decode cX6_firstWrong 22 = .ok (.getfield 15, 3) := by decide +kernel
theorem dX6_firstWrong_25 : decode cX6_firstWrong 25 = .ok (.iload_n 2, 1) := by decide +kernel
theorem dX6_firstWrong_26 : decode cX6_firstWrong 26 = .ok (.iaload, 1) := by decide +kernel
theorem dX6_firstWrong_27 : decode cX6_firstWrong 27 = .ok (.if_icmp .eq 5, 3) := by decide +kernel
theorem dX6_firstWrong_30 : decode cX6_firstWrong 30 = .ok (.iload_n 2, 1) := by decide +kernel
theorem dX6_firstWrong_31 : decode cX6_firstWrong 31 = .ok (.ireturn, 1) := by decide +kernel
theorem dX6_firstWrong_32 : decode cX6_firstWrong 32 = .ok (.iinc 2 1, 3) := by decide +kernel
theorem dX6_firstWrong_35 : decode cX6_firstWrong 35 = .ok (.goto (-33), 3) := by decide +kernel
theorem dX6_firstWrong_38 : decode cX6_firstWrong 38 = .ok (.iconst (-1), 1) := by decide +kernel
theorem dX6_firstWrong_39 : decode cX6_firstWrong 39 = .ok (.ireturn, 1) := by decide +kernel
theorem dX7_init_0 : decode cX7_init 0 = .ok (.aload_n 0, 1) := by decide +kernel
theorem dX7_init_1 : decode cX7_init 1 = .ok (.invokespecial 3, 3) := by decide +kernel
theorem dX7_init_4 : decode cX7_init 4 = .ok (.aload_n 0, 1) := by decide +kernel
theorem dX7_init_5 : decode cX7_init 5 = .ok (.bipush 6, 2) := by decide +kernel
theorem dX7_init_7 : decode cX7_init 7 = .ok (.newarray .int, 2) := by decide +kernel
theorem dX7_init_9 : decode cX7_init 9 = .ok (.putfield 9, 3) := by decide +kernel
theorem dX7_init_12 : decode cX7_init 12 = .ok (.aload_n 0, 1) := by decide +kernel
theorem dX7_init_13 : decode cX7_init 13 = .ok (.bipush 6, 2) := by decide +kernel
theorem dX7_init_15 : decode cX7_init 15 = .ok (.newarray .int, 2) := by decide +kernel
theorem dX7_init_17 : decode cX7_init 17 = .ok (.putfield 15, 3) := by decide +kernel
theorem dX7_init_20 : decode cX7_init 20 = .ok (.aload_n 0, 1) := by decide +kernel
theorem dX7_init_21 : decode cX7_init 21 = .ok (.bipush 6, 2) := by decide +kernel
theorem dX7_init_23 : decode cX7_init 23 = .ok (.newarray .int, 2) := by decide +kernel
theorem dX7_init_25 : decode cX7_init 25 = .ok (.putfield 18, 3) := by decide +kernel
theorem dX7_init_28 : decode cX7_init 28 = .ok (.aload_n 0, 1) := by decide +kernel
theorem dX7_init_29 : decode cX7_init 29 = .ok (.bipush 6, 2) := by decide +kernel
theorem dX7_init_31 : decode cX7_init 31 = .ok (.newarray .boolean, 2) := by decide +kernel
theorem dX7_init_33 : decode cX7_init 33 = .ok (.putfield 21, 3) := by decide +kernel
theorem dX7_init_36 : decode cX7_init 36 = .ok (.aload_n 0, 1) := by decide +kernel
theorem dX7_init_37 : decode cX7_init 37 = .ok (.iconst 0, 1) := by decide +kernel
theorem dX7_init_38 : decode cX7_init 38 = .ok (.putfield 25, 3) := by decide +kernel
theorem dX7_init_41 : decode cX7_init 41 = .ok (.return_, 1) := by decide +kernel
theorem dX7_add_0 : decode cX7_add 0 = .ok (.aload_n 0, 1) := by decide +kernel
theorem dX7_add_1 : decode cX7_add 1 = .ok (.getfield 25, 3) := by decide +kernel
theorem dX7_add_4 : decode cX7_add 4 = .ok (.bipush 6, 2) := by decide +kernel
theorem dX7_add_6 : decode cX7_add 6 = .ok (.if_icmp .ge 54, 3) := by decide +kernel
theorem dX7_add_9 : decode cX7_add 9 = .ok (.aload_n 0, 1) := by decide +kernel
theorem dX7_add_10 : decode cX7_add 10 = .ok (.getfield 9, 3) := by decide +kernel
theorem dX7_add_13 : decode cX7_add 13 = .ok (.aload_n 0, 1) := by decide +kernel
theorem dX7_add_14 : decode cX7_add 14 = .ok (.getfield 25, 3) := by decide +kernel
theorem dX7_add_17 : decode cX7_add 17 = .ok (.iload_n 1, 1) := by decide +kernel
theorem dX7_add_18 : decode cX7_add 18 = .ok (.iastore, 1) := by decide +kernel
theorem dX7_add_19 : decode cX7_add 19 = .ok (.aload_n 0, 1) := by decide +kernel
theorem dX7_add_20 : decode cX7_add 20 = .ok (.getfield 15, 3) := by decide +kernel
theorem dX7_add_23 : decode cX7_add 23 = .ok (.aload_n 0, 1) := by decide +kernel
theorem dX7_add_24 : decode cX7_add 24 = .ok (.getfield 25, 3) := by decide +kernel
theorem dX7_add_27 : decode cX7_add 27 = .ok (.iload_n 2, 1) := by decide +kernel
theorem dX7_add_28 : decode cX7_add 28 = .ok (.iastore, 1) := by decide +kernel
theorem dX7_add_29 : decode cX7_add 29 = .ok (.aload_n 0, 1) := by decide +kernel
theorem dX7_add_30 : decode cX7_add 30 = .ok (.getfield 18, 3) := by decide +kernel
theorem dX7_add_33 : decode cX7_add 33 = .ok (.aload_n 0, 1) := by decide +kernel
theorem dX7_add_34 : decode cX7_add 34 = .ok (.getfield 25, 3) := by decide +kernel
theorem dX7_add_37 : decode cX7_add 37 = .ok (.iload_n 3, 1) := by decide +kernel
theorem dX7_add_38 : decode cX7_add 38 = .ok (.iastore, 1) := by decide +kernel
theorem dX7_add_39 : decode cX7_add 39 = .ok (.aload_n 0, 1) := by decide +kernel
theorem dX7_add_40 : decode cX7_add 40 = .ok (.getfield 21, 3) := by decide +kernel
theorem dX7_add_43 : decode cX7_add 43 = .ok (.aload_n 0, 1) := by decide +kernel
theorem dX7_add_44 : decode cX7_add 44 = .ok (.getfield 25, 3) := by decide +kernel
theorem dX7_add_47 : decode cX7_add 47 = .ok (.iload 4, 2) := by decide +kernel
theorem dX7_add_49 : decode cX7_add 49 = .ok (.bastore, 1) := by decide +kernel
theorem dX7_add_50 : decode cX7_add 50 = .ok (.aload_n 0, 1) := by decide +kernel
theorem dX7_add_51 : decode cX7_add 51 = .ok (.dup, 1) := by decide +kernel
theorem dX7_add_52 : decode cX7_add 52 = .ok (.getfield 25, 3) := by decide +kernel
theorem dX7_add_55 : decode cX7_add 55 = .ok (.iconst 1, 1) := by decide +kernel
theorem dX7_add_56 : decode cX7_add 56 = .ok (.iadd, 1) := by decide +kernel
theorem dX7_add_57 : decode cX7_add 57 = .ok (.putfield 25, 3) := by decide +kernel
theorem dX7_add_60 : decode cX7_add 60 = .ok (.return_, 1) := by decide +kernel
theorem dX7_fits_0 : decode cX7_fits 0 = .ok (.iconst 0, 1) := by decide +kernel
theorem dX7_fits_1 : decode cX7_fits 1 = .ok (.istore_n 2, 1) := by decide +kernel
theorem dX7_fits_2 : decode cX7_fits 2 = .ok (.iload_n 2, 1) := by decide +kernel
theorem dX7_fits_3 : decode cX7_fits 3 = .ok (.aload_n 0, 1) := by decide +kernel
theorem dX7_fits_4 : decode cX7_fits 4 = .ok (.getfield 25, 3) := by decide +kernel
theorem dX7_fits_7 : decode cX7_fits 7 = .ok (.if_icmp .ge 53, 3) := by decide +kernel
theorem dX7_fits_10 : decode cX7_fits 10 = .ok (.aload_n 0, 1) := by decide +kernel
theorem dX7_fits_11 : decode cX7_fits 11 = .ok (.getfield 9, 3) := by decide +kernel
theorem dX7_fits_14 : decode cX7_fits 14 = .ok (.iload_n 2, 1) := by decide +kernel
theorem dX7_fits_15 : decode cX7_fits 15 = .ok (.iaload, 1) := by decide +kernel
theorem dX7_fits_16 : decode cX7_fits 16 = .ok (.iload_n 1, 1) := by decide +kernel
theorem dX7_fits_17 : decode cX7_fits 17 = .ok (.iconst 1, 1) := by decide +kernel
theorem dX7_fits_18 : decode cX7_fits 18 = .ok (.aload_n 0, 1) := by decide +kernel
theorem dX7_fits_19 : decode cX7_fits 19 = .ok (.getfield 15, 3) := by decide +kernel
theorem dX7_fits_22 : decode cX7_fits 22 = .ok (.iload_n 2, 1) := by decide +kernel
theorem dX7_fits_23 : decode cX7_fits 23 = .ok (.iaload, 1) := by decide +kernel
theorem dX7_fits_24 : decode cX7_fits 24 = .ok (.invokestatic 29, 3) := by decide +kernel
theorem dX7_fits_27 : decode cX7_fits 27 = .ok (.aload_n 0, 1) := by decide +kernel
theorem dX7_fits_28 : decode cX7_fits 28 = .ok (.getfield 18, 3) := by decide +kernel
theorem dX7_fits_31 : decode cX7_fits 31 = .ok (.iload_n 2, 1) := by decide +kernel
theorem dX7_fits_32 : decode cX7_fits 32 = .ok (.iaload, 1) := by decide +kernel
theorem dX7_fits_33 : decode cX7_fits 33 = .ok (.if_icmp .le 7, 3) := by decide +kernel
theorem dX7_fits_36 : decode cX7_fits 36 = .ok (.iconst 1, 1) := by decide +kernel
theorem dX7_fits_37 : decode cX7_fits 37 = .ok (.goto 4, 3) := by decide +kernel
theorem dX7_fits_40 : decode cX7_fits 40 = .ok (.iconst 0, 1) := by decide +kernel
theorem dX7_fits_41 : decode cX7_fits 41 = .ok (.istore_n 3, 1) := by decide +kernel
theorem dX7_fits_42 : decode cX7_fits 42 = .ok (.iload_n 3, 1) := by decide +kernel
theorem dX7_fits_43 : decode cX7_fits 43 = .ok (.aload_n 0, 1) := by decide +kernel
theorem dX7_fits_44 : decode cX7_fits 44 = .ok (.getfield 21, 3) := by decide +kernel
theorem dX7_fits_47 : decode cX7_fits 47 = .ok (.iload_n 2, 1) := by decide +kernel
theorem dX7_fits_48 : decode cX7_fits 48 = .ok (.baload, 1) := by decide +kernel
theorem dX7_fits_49 : decode cX7_fits 49 = .ok (.if_icmp .eq 5, 3) := by decide +kernel
theorem dX7_fits_52 : decode cX7_fits 52 = .ok (.iconst 0, 1) := by decide +kernel
theorem dX7_fits_53 : decode cX7_fits 53 = .ok (.ireturn, 1) := by decide +kernel
theorem dX7_fits_54 : decode cX7_fits 54 = .ok (.iinc 2 1, 3) := by decide +kernel
theorem dX7_fits_57 : decode cX7_fits 57 = .ok (.goto (-55), 3) := by decide +kernel
theorem dX7_fits_60 : decode cX7_fits 60 = .ok (.iconst 1, 1) := by decide +kernel
theorem dX7_fits_61 : decode cX7_fits 61 = .ok (.ireturn, 1) := by decide +kernel
