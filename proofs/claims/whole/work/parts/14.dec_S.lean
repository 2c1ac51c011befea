theorem dd_S_init_0 : decode cd_S_init 0 = .ok (.aload_n 0, 1) := by decide +kernel
theorem dd_S_init_1 : decode cd_S_init 1 = .ok (.invokespecial 3, 3) := by decide +kernel
theorem dd_S_init_4 : decode cd_S_init 4 = .ok (.aload_n 0, 1) := by decide +kernel
theorem dd_S_init_5 : decode cd_S_init 5 = .ok (.bipush 64, 2) := by decide +kernel
theorem dd_S_init_7 : decode cd_S_init 7 = .ok (.newarray .int, 2) := by decide +kernel
theorem dd_S_init_9 : decode cd_S_init 9 = .ok (.putfield 11, 3) := by decide +kernel
theorem dd_S_init_12 : decode cd_S_init 12 = .ok (.return_, 1) := by decide +kernel
theorem dd_S_primeOf_0 : decode cd_S_primeOf 0 = .ok (.lload_n 1, 1) := by decide +kernel
theorem dd_S_primeOf_1 : decode cd_S_primeOf 1 = .ok (.lconst 0, 1) := by decide +kernel
theorem dd_S_primeOf_2 : decode cd_S_primeOf 2 = .ok (.lcmp, 1) := by decide +kernel
theorem dd_S_primeOf_3 : decode cd_S_primeOf 3 = .ok (.ifCond .lt 11, 3) := by decide +kernel
theorem dd_S_primeOf_6 : decode cd_S_primeOf 6 = .ok (.lload_n 1, 1) := by decide +kernel
theorem dd_S_primeOf_7 : decode cd_S_primeOf 7 = .ok (.ldc2_w 15, 3) := by decide +kernel
theorem dd_S_primeOf_10 : decode cd_S_primeOf 10 = .ok (.lcmp, 1) := by decide +kernel
theorem dd_S_primeOf_11 : decode cd_S_primeOf 11 = .ok (.ifCond .lt 6, 3) := by decide +kernel
theorem dd_S_primeOf_14 : decode cd_S_primeOf 14 = .ok (.bipush (-2), 2) := by decide +kernel
theorem dd_S_primeOf_16 : decode cd_S_primeOf 16 = .ok (.ireturn, 1) := by decide +kernel
theorem dd_S_primeOf_17 : decode cd_S_primeOf 17 = .ok (.iconst 0, 1) := by decide +kernel
theorem dd_S_primeOf_18 : decode cd_S_primeOf 18 = .ok (.istore_n 3, 1) := by decide +kernel
theorem dd_S_primeOf_19 : decode cd_S_primeOf 19 = .ok (.iload_n 3, 1) := by decide +kernel
theorem dd_S_primeOf_20 : decode cd_S_primeOf 20 = .ok (.sipush 256, 3) := by decide +kernel
theorem dd_S_primeOf_23 : decode cd_S_primeOf 23 = .ok (.if_icmp .ge 34, 3) := by decide +kernel
theorem dd_S_primeOf_26 : decode cd_S_primeOf 26 = .ok (.aload_n 0, 1) := by decide +kernel
theorem dd_S_primeOf_27 : decode cd_S_primeOf 27 = .ok (.lload_n 1, 1) := by decide +kernel
theorem dd_S_primeOf_28 : decode cd_S_primeOf 28 = .ok (.iload_n 3, 1) := by decide +kernel
theorem dd_S_primeOf_29 : decode cd_S_primeOf 29 = .ok (.invokevirtual 17, 3) := by decide +kernel
theorem dd_S_primeOf_32 : decode cd_S_primeOf 32 = .ok (.ldc 21, 2) := by decide +kernel
theorem dd_S_primeOf_34 : decode cd_S_primeOf 34 = .ok (.iand, 1) := by decide +kernel
theorem dd_S_primeOf_35 : decode cd_S_primeOf 35 = .ok (.ldc 22, 2) := by decide +kernel
theorem dd_S_primeOf_37 : decode cd_S_primeOf 37 = .ok (.ior, 1) := by decide +kernel
theorem dd_S_primeOf_38 : decode cd_S_primeOf 38 = .ok (.istore 4, 2) := by decide +kernel
theorem dd_S_primeOf_40 : decode cd_S_primeOf 40 = .ok (.iload 4, 2) := by decide +kernel
theorem dd_S_primeOf_42 : decode cd_S_primeOf 42 = .ok (.invokestatic 23, 3) := by decide +kernel
theorem dd_S_primeOf_45 : decode cd_S_primeOf 45 = .ok (.ifCond .eq 6, 3) := by decide +kernel
theorem dd_S_primeOf_48 : decode cd_S_primeOf 48 = .ok (.iload 4, 2) := by decide +kernel
theorem dd_S_primeOf_50 : decode cd_S_primeOf 50 = .ok (.ireturn, 1) := by decide +kernel
theorem dd_S_primeOf_51 : decode cd_S_primeOf 51 = .ok (.iinc 3 1, 3) := by decide +kernel
theorem dd_S_primeOf_54 : decode cd_S_primeOf 54 = .ok (.goto (-35), 3) := by decide +kernel
theorem dd_S_primeOf_57 : decode cd_S_primeOf 57 = .ok (.bipush (-2), 2) := by decide +kernel
theorem dd_S_primeOf_59 : decode cd_S_primeOf 59 = .ok (.ireturn, 1) := by decide +kernel
theorem dd_S_hash_0 : decode cd_S_hash 0 = .ok (.aload_n 0, 1) := by decide +kernel
theorem dd_S_hash_1 : decode cd_S_hash 1 = .ok (.lload_n 1, 1) := by decide +kernel
theorem dd_S_hash_2 : decode cd_S_hash 2 = .ok (.iload_n 3, 1) := by decide +kernel
theorem dd_S_hash_3 : decode cd_S_hash 3 = .ok (.invokevirtual 27, 3) := by decide +kernel
theorem dd_S_hash_6 : decode cd_S_hash 6 = .ok (.ldc 31, 2) := by decide +kernel
theorem dd_S_hash_8 : decode cd_S_hash 8 = .ok (.istore 4, 2) := by decide +kernel
theorem dd_S_hash_10 : decode cd_S_hash 10 = .ok (.ldc 32, 2) := by decide +kernel
theorem dd_S_hash_12 : decode cd_S_hash 12 = .ok (.istore 5, 2) := by decide +kernel
theorem dd_S_hash_14 : decode cd_S_hash 14 = .ok (.ldc 33, 2) := by decide +kernel
theorem dd_S_hash_16 : decode cd_S_hash 16 = .ok (.istore 6, 2) := by decide +kernel
theorem dd_S_hash_18 : decode cd_S_hash 18 = .ok (.ldc 34, 2) := by decide +kernel
theorem dd_S_hash_20 : decode cd_S_hash 20 = .ok (.istore 7, 2) := by decide +kernel
theorem dd_S_hash_22 : decode cd_S_hash 22 = .ok (.ldc 35, 2) := by decide +kernel
theorem dd_S_hash_24 : decode cd_S_hash 24 = .ok (.istore 8, 2) := by decide +kernel
theorem dd_S_hash_26 : decode cd_S_hash 26 = .ok (.ldc 36, 2) := by decide +kernel
theorem dd_S_hash_28 : decode cd_S_hash 28 = .ok (.istore 9, 2) := by decide +kernel
theorem dd_S_hash_30 : decode cd_S_hash 30 = .ok (.ldc 37, 2) := by decide +kernel
theorem dd_S_hash_32 : decode cd_S_hash 32 = .ok (.istore 10, 2) := by decide +kernel
theorem dd_S_hash_34 : decode cd_S_hash 34 = .ok (.ldc 38, 2) := by decide +kernel
theorem dd_S_hash_36 : decode cd_S_hash 36 = .ok (.istore 11, 2) := by decide +kernel
theorem dd_S_hash_38 : decode cd_S_hash 38 = .ok (.iconst 0, 1) := by decide +kernel
theorem dd_S_hash_39 : decode cd_S_hash 39 = .ok (.istore 12, 2) := by decide +kernel
theorem dd_S_hash_41 : decode cd_S_hash 41 = .ok (.iload 12, 2) := by decide +kernel
theorem dd_S_hash_43 : decode cd_S_hash 43 = .ok (.bipush 64, 2) := by decide +kernel
theorem dd_S_hash_45 : decode cd_S_hash 45 = .ok (.if_icmp .ge 146, 3) := by decide +kernel
theorem dd_S_hash_48 : decode cd_S_hash 48 = .ok (.iload 11, 2) := by decide +kernel
theorem dd_S_hash_50 : decode cd_S_hash 50 = .ok (.iload 8, 2) := by decide +kernel
theorem dd_S_hash_52 : decode cd_S_hash 52 = .ok (.bipush 6, 2) := by decide +kernel
theorem dd_S_hash_54 : decode cd_S_hash 54 = .ok (.invokestatic 39, 3) := by decide +kernel
theorem dd_S_hash_57 : decode cd_S_hash 57 = .ok (.iload 8, 2) := by decide +kernel
theorem dd_S_hash_59 : decode cd_S_hash 59 = .ok (.bipush 11, 2) := by decide +kernel
theorem dd_S_hash_61 : decode cd_S_hash 61 = .ok (.invokestatic 39, 3) := by decide +kernel
theorem dd_S_hash_64 : decode cd_S_hash 64 = .ok (.ixor, 1) := by decide +kernel
theorem dd_S_hash_65 : decode cd_S_hash 65 = .ok (.iload 8, 2) := by decide +kernel
theorem dd_S_hash_67 : decode cd_S_hash 67 = .ok (.bipush 25, 2) := by decide +kernel
theorem dd_S_hash_69 : decode cd_S_hash 69 = .ok (.invokestatic 39, 3) := by decide +kernel
theorem dd_S_hash_72 : decode cd_S_hash 72 = .ok (.ixor, 1) := by decide +kernel
theorem dd_S_hash_73 : decode cd_S_hash 73 = .ok (.iadd, 1) := by decide +kernel
theorem dd_S_hash_74 : decode cd_S_hash 74 = .ok (.iload 8, 2) := by decide +kernel
theorem dd_S_hash_76 : decode cd_S_hash 76 = .ok (.iload 9, 2) := by decide +kernel
theorem dd_S_hash_78 : decode cd_S_hash 78 = .ok (.iand, 1) := by decide +kernel
theorem dd_S_hash_79 : decode cd_S_hash 79 = .ok (.iload 8, 2) := by decide +kernel
theorem dd_S_hash_81 : decode cd_S_hash 81 = .ok (.iconst (-1), 1) := by decide +kernel
theorem dd_S_hash_82 : decode cd_S_hash 82 = .ok (.ixor, 1) := by decide +kernel
theorem dd_S_hash_83 : decode cd_S_hash 83 = .ok (.iload 10, 2) := by decide +kernel
theorem dd_S_hash_85 : decode cd_S_hash 85 = .ok (.iand, 1) := by decide +kernel
theorem dd_S_hash_86 : decode cd_S_hash 86 = .ok (.ixor, 1) := by decide +kernel
theorem dd_S_hash_87 : decode cd_S_hash 87 = .ok (.iadd, 1) := by decide +kernel
theorem dd_S_hash_88 : decode cd_S_hash 88 = .ok (.getstatic 43, 3) := by decide +kernel
theorem dd_S_hash_91 : decode cd_S_hash 91 = .ok (.iload 12, 2) := by decide +kernel
theorem dd_S_hash_93 : decode cd_S_hash 93 = .ok (.iaload, 1) := by decide +kernel
theorem dd_S_hash_94 : decode cd_S_hash 94 = .ok (.iadd, 1) := by decide +kernel
theorem dd_S_hash_95 : decode cd_S_hash 95 = .ok (.aload_n 0, 1) := by decide +kernel
theorem dd_S_hash_96 : decode cd_S_hash 96 = .ok (.getfield 11, 3) := by decide +kernel
theorem dd_S_hash_99 : decode cd_S_hash 99 = .ok (.iload 12, 2) := by decide +kernel
theorem dd_S_hash_101 : decode cd_S_hash 101 = .ok (.iaload, 1) := by decide +kernel
theorem dd_S_hash_102 : decode cd_S_hash 102 = .ok (.iadd, 1) := by decide +kernel
theorem dd_S_hash_103 : decode cd_S_hash 103 = .ok (.istore 13, 2) := by decide +kernel
theorem dd_S_hash_105 : decode cd_S_hash 105 = .ok (.iload 4, 2) := by decide +kernel
theorem dd_S_hash_107 : decode cd_S_hash 107 = .ok (.iconst 2, 1) := by decide +kernel
theorem dd_S_hash_108 : decode cd_S_hash 108 = .ok (.invokestatic 39, 3) := by decide +kernel
theorem dd_S_hash_111 : decode cd_S_hash 111 = .ok (.iload 4, 2) := by decide +kernel
theorem dd_S_hash_113 : decode cd_S_hash 113 = .ok (.bipush 13, 2) := by decide +kernel
theorem dd_S_hash_115 : decode cd_S_hash 115 = .ok (.invokestatic 39, 3) := by decide +kernel
theorem dd_S_hash_118 : decode cd_S_hash 118 = .ok (.ixor, 1) := by decide +kernel
theorem dd_S_hash_119 : decode cd_S_hash 119 = .ok (.iload 4, 2) := by decide +kernel
theorem dd_S_hash_121 : decode cd_S_hash 121 = .ok (.bipush 22, 2) := by decide +kernel
theorem dd_S_hash_123 : decode cd_S_hash 123 = .ok (.invokestatic 39, 3) := by decide +kernel
theorem dd_S_hash_126 : decode cd_S_hash 126 = .ok (.ixor, 1) := by decide +kernel
theorem dd_S_hash_127 : decode cd_S_hash 127 = .ok (.iload 4, 2) := by decide +kernel
theorem dd_S_hash_129 : decode cd_S_hash 129 = .ok (.iload 5, 2) := by decide +kernel
theorem dd_S_hash_131 : decode cd_S_hash 131 = .ok (.iand, 1) := by decide +kernel
theorem dd_S_hash_132 : decode cd_S_hash 132 = .ok (.iload 4, 2) := by decide +kernel
theorem dd_S_hash_134 : decode cd_S_hash 134 = .ok (.iload 6, 2) := by decide +kernel
theorem dd_S_hash_136 : decode cd_S_hash 136 = .ok (.iand, 1) := by decide +kernel
theorem dd_S_hash_137 : decode cd_S_hash 137 = .ok (.ixor, 1) := by decide +kernel
theorem dd_S_hash_138 : decode cd_S_hash 138 = .ok (.iload 5, 2) := by decide +kernel
theorem dd_S_hash_140 : decode cd_S_hash 140 = .ok (.iload 6, 2) := by decide +kernel
theorem dd_S_hash_142 : decode cd_S_hash 142 = .ok (.iand, 1) := by decide +kernel
theorem dd_S_hash_143 : decode cd_S_hash 143 = .ok (.ixor, 1) := by decide +kernel
theorem dd_S_hash_144 : decode cd_S_hash 144 = .ok (.iadd, 1) := by decide +kernel
theorem dd_S_hash_145 : decode cd_S_hash 145 = .ok (.istore 14, 2) := by decide +kernel
theorem dd_S_hash_147 : decode cd_S_hash 147 = .ok (.iload 10, 2) := by decide +kernel
theorem dd_S_hash_149 : decode cd_S_hash 149 = .ok (.istore 11, 2) := by decide +kernel
theorem dd_S_hash_151 : decode cd_S_hash 151 = .ok (.iload 9, 2) := by decide +kernel
theorem dd_S_hash_153 : decode cd_S_hash 153 = .ok (.istore 10, 2) := by decide +kernel
theorem dd_S_hash_155 : decode cd_S_hash 155 = .ok (.iload 8, 2) := by decide +kernel
theorem dd_S_hash_157 : decode cd_S_hash 157 = .ok (.istore 9, 2) := by decide +kernel
theorem dd_S_hash_159 : decode cd_S_hash 159 = .ok (.iload 7, 2) := by decide +kernel
theorem dd_S_hash_161 : decode cd_S_hash 161 = .ok (.iload 13, 2) := by decide +kernel
theorem dd_S_hash_163 : decode cd_S_hash 163 = .ok (.iadd, 1) := by decide +kernel
theorem dd_S_hash_164 : decode cd_S_hash 164 = .ok (.istore 8, 2) := by decide +kernel
theorem dd_S_hash_166 : decode cd_S_hash 166 = .ok (.iload 6, 2) := by decide +kernel
theorem dd_S_hash_168 : decode cd_S_hash 168 = .ok (.istore 7, 2) := by decide +kernel
theorem dd_S_hash_170 : decode cd_S_hash 170 = .ok (.iload 5, 2) := by decide +kernel
theorem dd_S_hash_172 : decode cd_S_hash 172 = .ok (.istore 6, 2) := by decide +kernel
theorem dd_S_hash_174 : decode cd_S_hash 174 = .ok (.iload 4, 2) := by decide +kernel
theorem dd_S_hash_176 : decode cd_S_hash 176 = .ok (.istore 5, 2) := by decide +kernel
theorem dd_S_hash_178 : decode cd_S_hash 178 = .ok (.iload 13, 2) := by decide +kernel
theorem dd_S_hash_180 : decode cd_S_hash 180 = .ok (.iload 14, 2) := by decide +kernel
theorem dd_S_hash_182 : decode cd_S_hash 182 = .ok (.iadd, 1) := by decide +kernel
theorem dd_S_hash_183 : decode cd_S_hash 183 = .ok (.istore 4, 2) := by decide +kernel
theorem dd_S_hash_185 : decode cd_S_hash 185 = .ok (.iinc 12 1, 3) := by decide +kernel
theorem dd_S_hash_188 : decode cd_S_hash 188 = .ok (.goto (-147), 3) := by decide +kernel
theorem dd_S_hash_191 : decode cd_S_hash 191 = .ok (.iload 4, 2) := by decide +kernel
theorem dd_S_hash_193 : decode cd_S_hash 193 = .ok (.ldc 31, 2) := by decide +kernel
theorem dd_S_hash_195 : decode cd_S_hash 195 = .ok (.iadd, 1) := by decide +kernel
theorem dd_S_hash_196 : decode cd_S_hash 196 = .ok (.ireturn, 1) := by decide +kernel
theorem dd_S_fillSchedule_0 : decode cd_S_fillSchedule 0 = .ok (.aload_n 0, 1) := by decide +kernel
theorem dd_S_fillSchedule_1 : decode cd_S_fillSchedule 1 = .ok (.getfield 11, 3) := by decide +kernel
theorem dd_S_fillSchedule_4 : decode cd_S_fillSchedule 4 = .ok (.iconst 0, 1) := by decide +kernel
theorem dd_S_fillSchedule_5 : decode cd_S_fillSchedule 5 = .ok (.invokestatic 46, 3) := by decide +kernel
theorem dd_S_fillSchedule_8 : decode cd_S_fillSchedule 8 = .ok (.aload_n 0, 1) := by decide +kernel
theorem dd_S_fillSchedule_9 : decode cd_S_fillSchedule 9 = .ok (.getfield 11, 3) := by decide +kernel
theorem dd_S_fillSchedule_12 : decode cd_S_fillSchedule 12 = .ok (.iconst 0, 1) := by decide +kernel
theorem dd_S_fillSchedule_13 : decode cd_S_fillSchedule 13 = .ok (.lload_n 1, 1) := by decide +kernel
theorem dd_S_fillSchedule_14 : decode cd_S_fillSchedule 14 = .ok (.bipush 32, 2) := by decide +kernel
theorem dd_S_fillSchedule_16 : decode cd_S_fillSchedule 16 = .ok (.lushr, 1) := by decide +kernel
theorem dd_S_fillSchedule_17 : decode cd_S_fillSchedule 17 = .ok (.l2i, 1) := by decide +kernel
theorem dd_S_fillSchedule_18 : decode cd_S_fillSchedule 18 = .ok (.iastore, 1) := by decide +kernel
theorem dd_S_fillSchedule_19 : decode cd_S_fillSchedule 19 = .ok (.aload_n 0, 1) := by decide +kernel
theorem dd_S_fillSchedule_20 : decode cd_S_fillSchedule 20 = .ok (.getfield 11, 3) := by decide +kernel
theorem dd_S_fillSchedule_23 : decode cd_S_fillSchedule 23 = .ok (.iconst 1, 1) := by decide +kernel
theorem dd_S_fillSchedule_24 : decode cd_S_fillSchedule 24 = .ok (.lload_n 1, 1) := by decide +kernel
theorem dd_S_fillSchedule_25 : decode cd_S_fillSchedule 25 = .ok (.l2i, 1) := by decide +kernel
theorem dd_S_fillSchedule_26 : decode cd_S_fillSchedule 26 = .ok (.iastore, 1) := by decide +kernel
theorem dd_S_fillSchedule_27 : decode cd_S_fillSchedule 27 = .ok (.aload_n 0, 1) := by decide +kernel
theorem dd_S_fillSchedule_28 : decode cd_S_fillSchedule 28 = .ok (.getfield 11, 3) := by decide +kernel
theorem dd_S_fillSchedule_31 : decode cd_S_fillSchedule 31 = .ok (.iconst 3, 1) := by decide +kernel
theorem dd_S_fillSchedule_32 : decode cd_S_fillSchedule 32 = .ok (.iload_n 3, 1) := by decide +kernel
theorem dd_S_fillSchedule_33 : decode cd_S_fillSchedule 33 = .ok (.iastore, 1) := by decide +kernel
theorem dd_S_fillSchedule_34 : decode cd_S_fillSchedule 34 = .ok (.aload_n 0, 1) := by decide +kernel
theorem dd_S_fillSchedule_35 : decode cd_S_fillSchedule 35 = .ok (.getfield 11, 3) := by decide +kernel
theorem dd_S_fillSchedule_38 : decode cd_S_fillSchedule 38 = .ok (.iconst 4, 1) := by decide +kernel
theorem dd_S_fillSchedule_39 : decode cd_S_fillSchedule 39 = .ok (.ldc 52, 2) := by decide +kernel
theorem dd_S_fillSchedule_41 : decode cd_S_fillSchedule 41 = .ok (.iastore, 1) := by decide +kernel
theorem dd_S_fillSchedule_42 : decode cd_S_fillSchedule 42 = .ok (.aload_n 0, 1) := by decide +kernel
theorem dd_S_fillSchedule_43 : decode cd_S_fillSchedule 43 = .ok (.getfield 11, 3) := by decide +kernel
theorem dd_S_fillSchedule_46 : decode cd_S_fillSchedule 46 = .ok (.bipush 15, 2) := by decide +kernel
theorem dd_S_fillSchedule_48 : decode cd_S_fillSchedule 48 = .ok (.sipush 128, 3) := by decide +kernel
theorem dd_S_fillSchedule_51 : decode cd_S_fillSchedule 51 = .ok (.iastore, 1) := by decide +kernel
theorem dd_S_fillSchedule_52 : decode cd_S_fillSchedule 52 = .ok (.bipush 16, 2) := by decide +kernel
theorem dd_S_fillSchedule_54 : decode cd_S_fillSchedule 54 = .ok (.istore 4, 2) := by decide +kernel
theorem dd_S_fillSchedule_56 : decode cd_S_fillSchedule 56 = .ok (.iload 4, 2) := by decide +kernel
theorem dd_S_fillSchedule_58 : decode cd_S_fillSchedule 58 = .ok (.bipush 64, 2) := by decide +kernel
theorem dd_S_fillSchedule_60 : decode cd_S_fillSchedule 60 = .ok (.if_icmp .ge 133, 3) := by decide +kernel
theorem dd_S_fillSchedule_63 : decode cd_S_fillSchedule 63 = .ok (.aload_n 0, 1) := by decide +kernel
theorem dd_S_fillSchedule_64 : decode cd_S_fillSchedule 64 = .ok (.getfield 11, 3) := by decide +kernel
theorem dd_S_fillSchedule_67 : decode cd_S_fillSchedule 67 = .ok (.iload 4, 2) := by decide +kernel
theorem dd_S_fillSchedule_69 : decode cd_S_fillSchedule 69 = .ok (.iconst 2, 1) := by decide +kernel
theorem dd_S_fillSchedule_70 : decode cd_S_fillSchedule 70 = .ok (.isub, 1) := by decide +kernel
theorem dd_S_fillSchedule_71 : decode cd_S_fillSchedule 71 = .ok (.iaload, 1) := by decide +kernel
theorem dd_S_fillSchedule_72 : decode cd_S_fillSchedule 72 = .ok (.bipush 17, 2) := by decide +kernel
theorem dd_S_fillSchedule_74 : decode cd_S_fillSchedule 74 = .ok (.invokestatic 39, 3) := by decide +kernel
theorem dd_S_fillSchedule_77 : decode cd_S_fillSchedule 77 = .ok (.aload_n 0, 1) := by decide +kernel
theorem dd_S_fillSchedule_78 : decode cd_S_fillSchedule 78 = .ok (.getfield 11, 3) := by decide +kernel
theorem dd_S_fillSchedule_81 : decode cd_S_fillSchedule 81 = .ok (.iload 4, 2) := by decide +kernel
theorem dd_S_fillSchedule_83 : decode cd_S_fillSchedule 83 = .ok (.iconst 2, 1) := by decide +kernel
theorem dd_S_fillSchedule_84 : decode cd_S_fillSchedule 84 = .ok (.isub, 1) := by decide +kernel
theorem dd_S_fillSchedule_85 : decode cd_S_fillSchedule 85 = .ok (.iaload, 1) := by decide +kernel
theorem dd_S_fillSchedule_86 : decode cd_S_fillSchedule 86 = .ok (.bipush 19, 2) := by decide +kernel
theorem dd_S_fillSchedule_88 : decode cd_S_fillSchedule 88 = .ok (.invokestatic 39, 3) := by decide +kernel
theorem dd_S_fillSchedule_91 : decode cd_S_fillSchedule 91 = .ok (.ixor, 1) := by decide +kernel
theorem dd_S_fillSchedule_92 : decode cd_S_fillSchedule 92 = .ok (.aload_n 0, 1) := by decide +kernel
theorem dd_S_fillSchedule_93 : decode cd_S_fillSchedule 93 = .ok (.getfield 11, 3) := by decide +kernel
theorem dd_S_fillSchedule_96 : decode cd_S_fillSchedule 96 = .ok (.iload 4, 2) := by decide +kernel
theorem dd_S_fillSchedule_98 : decode cd_S_fillSchedule 98 = .ok (.iconst 2, 1) := by decide +kernel
theorem dd_S_fillSchedule_99 : decode cd_S_fillSchedule 99 = .ok (.isub, 1) := by decide +kernel
theorem dd_S_fillSchedule_100 : decode cd_S_fillSchedule 100 = .ok (.iaload, 1) := by decide +kernel
theorem dd_S_fillSchedule_101 : decode cd_S_fillSchedule 101 = .ok (.bipush 10, 2) := by decide +kernel
theorem dd_S_fillSchedule_103 : decode cd_S_fillSchedule 103 = .ok (.iushr, 1) := by decide +kernel
theorem dd_S_fillSchedule_104 : decode cd_S_fillSchedule 104 = .ok (.ixor, 1) := by decide +kernel
theorem dd_S_fillSchedule_105 : decode cd_S_fillSchedule 105 = .ok (.istore 5, 2) := by decide +kernel
theorem dd_S_fillSchedule_107 : decode cd_S_fillSchedule 107 = .ok (.aload_n 0, 1) := by decide +kernel
theorem dd_S_fillSchedule_108 : decode cd_S_fillSchedule 108 = .ok (.getfield 11, 3) := by decide +kernel
theorem dd_S_fillSchedule_111 : decode cd_S_fillSchedule 111 = .ok (.iload 4, 2) := by decide +kernel
theorem dd_S_fillSchedule_113 : decode cd_S_fillSchedule 113 = .ok (.bipush 15, 2) := by decide +kernel
theorem dd_S_fillSchedule_115 : decode cd_S_fillSchedule 115 = .ok (.isub, 1) := by decide +kernel
theorem dd_S_fillSchedule_116 : decode cd_S_fillSchedule 116 = .ok (.iaload, 1) := by decide +kernel
theorem dd_S_fillSchedule_117 : decode cd_S_fillSchedule 117 = .ok (.bipush 7, 2) := by decide +kernel
theorem dd_S_fillSchedule_119 : decode cd_S_fillSchedule 119 = .ok (.invokestatic 39, 3) := by decide +kernel
theorem dd_S_fillSchedule_122 : decode cd_S_fillSchedule 122 = .ok (.aload_n 0, 1) := by decide +kernel
theorem dd_S_fillSchedule_123 : decode cd_S_fillSchedule 123 = .ok (.getfield 11, 3) := by decide +kernel
theorem dd_S_fillSchedule_126 : decode cd_S_fillSchedule 126 = .ok (.iload 4, 2) := by decide +kernel
theorem dd_S_fillSchedule_128 : decode cd_S_fillSchedule 128 = .ok (.bipush 15, 2) := by decide +kernel
theorem dd_S_fillSchedule_130 : decode cd_S_fillSchedule 130 = .ok (.isub, 1) := by decide +kernel
theorem dd_S_fillSchedule_131 : decode cd_S_fillSchedule 131 = .ok (.iaload, 1) := by decide +kernel
theorem dd_S_fillSchedule_132 : decode cd_S_fillSchedule 132 = .ok (.bipush 18, 2) := by decide +kernel
theorem dd_S_fillSchedule_134 : decode cd_S_fillSchedule 134 = .ok (.invokestatic 39, 3) := by decide +kernel
theorem dd_S_fillSchedule_137 : decode cd_S_fillSchedule 137 = .ok (.ixor, 1) := by decide +kernel
theorem dd_S_fillSchedule_138 : decode cd_S_fillSchedule 138 = .ok (.aload_n 0, 1) := by decide +kernel
theorem dd_S_fillSchedule_139 : decode cd_S_fillSchedule 139 = .ok (.getfield 11, 3) := by decide +kernel
theorem dd_S_fillSchedule_142 : decode cd_S_fillSchedule 142 = .ok (.iload 4, 2) := by decide +kernel
theorem dd_S_fillSchedule_144 : decode cd_S_fillSchedule 144 = .ok (.bipush 15, 2) := by decide +kernel
theorem dd_S_fillSchedule_146 : decode cd_S_fillSchedule 146 = .ok (.isub, 1) := by decide +kernel
theorem dd_S_fillSchedule_147 : decode cd_S_fillSchedule 147 = .ok (.iaload, 1) := by decide +kernel
theorem dd_S_fillSchedule_148 : decode cd_S_fillSchedule 148 = .ok (.iconst 3, 1) := by decide +kernel
theorem dd_S_fillSchedule_149 : decode cd_S_fillSchedule 149 = .ok (.iushr, 1) := by decide +kernel
theorem dd_S_fillSchedule_150 : decode cd_S_fillSchedule 150 = .ok (.ixor, 1) := by decide +kernel
theorem dd_S_fillSchedule_151 : decode cd_S_fillSchedule 151 = .ok (.istore 6, 2) := by decide +kernel
theorem dd_S_fillSchedule_153 : decode cd_S_fillSchedule 153 = .ok (.aload_n 0, 1) := by decide +kernel
theorem dd_S_fillSchedule_154 : decode cd_S_fillSchedule 154 = .ok (.getfield 11, 3) := by decide +kernel
theorem dd_S_fillSchedule_157 : decode cd_S_fillSchedule 157 = .ok (.iload 4, 2) := by decide +kernel
theorem dd_S_fillSchedule_159 : decode cd_S_fillSchedule 159 = .ok (.iload 5, 2) := by decide +kernel
theorem dd_S_fillSchedule_161 : decode cd_S_fillSchedule 161 = .ok (.aload_n 0, 1) := by decide +kernel
theorem dd_S_fillSchedule_162 : decode cd_S_fillSchedule 162 = .ok (.getfield 11, 3) := by decide +kernel
theorem dd_S_fillSchedule_165 : decode cd_S_fillSchedule 165 = .ok (.iload 4, 2) := by decide +kernel
theorem dd_S_fillSchedule_167 : decode cd_S_fillSchedule 167 = .ok (.bipush 7, 2) := by decide +kernel
theorem dd_S_fillSchedule_169 : decode cd_S_fillSchedule 169 = .ok (.isub, 1) := by decide +kernel
theorem dd_S_fillSchedule_170 : decode cd_S_fillSchedule 170 = .ok (.iaload, 1) := by decide +kernel
theorem dd_S_fillSchedule_171 : decode cd_S_fillSchedule 171 = .ok (.iadd, 1) := by decide +kernel
theorem dd_S_fillSchedule_172 : decode cd_S_fillSchedule 172 = .ok (.iload 6, 2) := by decide +kernel
theorem dd_S_fillSchedule_174 : decode cd_S_fillSchedule 174 = .ok (.iadd, 1) := by decide +kernel
theorem dd_S_fillSchedule_175 : decode cd_S_fillSchedule 175 = .ok (.aload_n 0, 1) := by decide +kernel
theorem dd_S_fillSchedule_176 : decode cd_S_fillSchedule 176 = .ok (.getfield 11, 3) := by decide +kernel
theorem dd_S_fillSchedule_179 : decode cd_S_fillSchedule 179 = .ok (.iload 4, 2) := by decide +kernel
theorem dd_S_fillSchedule_181 : decode cd_S_fillSchedule 181 = .ok (.bipush 16, 2) := by decide +kernel
theorem dd_S_fillSchedule_183 : decode cd_S_fillSchedule 183 = .ok (.isub, 1) := by decide +kernel
theorem dd_S_fillSchedule_184 : decode cd_S_fillSchedule 184 = .ok (.iaload, 1) := by decide +kernel
theorem dd_S_fillSchedule_185 : decode cd_S_fillSchedule 185 = .ok (.iadd, 1) := by decide +kernel
theorem dd_S_fillSchedule_186 : decode cd_S_fillSchedule 186 = .ok (.iastore, 1) := by decide +kernel
theorem dd_S_fillSchedule_187 : decode cd_S_fillSchedule 187 = .ok (.iinc 4 1, 3) := by decide +kernel
theorem dd_S_fillSchedule_190 : decode cd_S_fillSchedule 190 = .ok (.goto (-134), 3) := by decide +kernel
theorem dd_S_fillSchedule_193 : decode cd_S_fillSchedule 193 = .ok (.return_, 1) := by decide +kernel
theorem dd_S_turn_0 : decode cd_S_turn 0 = .ok (.iload_n 0, 1) := by decide +kernel
theorem dd_S_turn_1 : decode cd_S_turn 1 = .ok (.iload_n 1, 1) := by decide +kernel
theorem dd_S_turn_2 : decode cd_S_turn 2 = .ok (.iushr, 1) := by decide +kernel
theorem dd_S_turn_3 : decode cd_S_turn 3 = .ok (.iload_n 0, 1) := by decide +kernel
theorem dd_S_turn_4 : decode cd_S_turn 4 = .ok (.bipush 32, 2) := by decide +kernel
theorem dd_S_turn_6 : decode cd_S_turn 6 = .ok (.iload_n 1, 1) := by decide +kernel
theorem dd_S_turn_7 : decode cd_S_turn 7 = .ok (.isub, 1) := by decide +kernel
theorem dd_S_turn_8 : decode cd_S_turn 8 = .ok (.ishl, 1) := by decide +kernel
theorem dd_S_turn_9 : decode cd_S_turn 9 = .ok (.ior, 1) := by decide +kernel
theorem dd_S_turn_10 : decode cd_S_turn 10 = .ok (.ireturn, 1) := by decide +kernel
theorem dd_S_isPrime_0 : decode cd_S_isPrime 0 = .ok (.iload_n 0, 1) := by decide +kernel
theorem dd_S_isPrime_1 : decode cd_S_isPrime 1 = .ok (.bipush 61, 2) := by decide +kernel
theorem dd_S_isPrime_3 : decode cd_S_isPrime 3 = .ok (.if_icmp .le 33, 3) := by decide +kernel
theorem dd_S_isPrime_6 : decode cd_S_isPrime 6 = .ok (.iload_n 0, 1) := by decide +kernel
theorem dd_S_isPrime_7 : decode cd_S_isPrime 7 = .ok (.iconst 2, 1) := by decide +kernel
theorem dd_S_isPrime_8 : decode cd_S_isPrime 8 = .ok (.invokestatic 53, 3) := by decide +kernel
theorem dd_S_isPrime_11 : decode cd_S_isPrime 11 = .ok (.ifCond .eq 25, 3) := by decide +kernel
theorem dd_S_isPrime_14 : decode cd_S_isPrime 14 = .ok (.iload_n 0, 1) := by decide +kernel
theorem dd_S_isPrime_15 : decode cd_S_isPrime 15 = .ok (.bipush 7, 2) := by decide +kernel
theorem dd_S_isPrime_17 : decode cd_S_isPrime 17 = .ok (.invokestatic 53, 3) := by decide +kernel
theorem dd_S_isPrime_20 : decode cd_S_isPrime 20 = .ok (.ifCond .eq 16, 3) := by decide +kernel
theorem dd_S_isPrime_23 : decode cd_S_isPrime 23 = .ok (.iload_n 0, 1) := by decide +kernel
theorem dd_S_isPrime_24 : decode cd_S_isPrime 24 = .ok (.bipush 61, 2) := by decide +kernel
theorem dd_S_isPrime_26 : decode cd_S_isPrime 26 = .ok (.invokestatic 53, 3) := by decide +kernel
theorem dd_S_isPrime_29 : decode cd_S_isPrime 29 = .ok (.ifCond .eq 7, 3) := by decide +kernel
theorem dd_S_isPrime_32 : decode cd_S_isPrime 32 = .ok (.iconst 1, 1) := by decide +kernel
theorem dd_S_isPrime_33 : decode cd_S_isPrime 33 = .ok (.goto 4, 3) := by decide +kernel
theorem dd_S_isPrime_36 : decode cd_S_isPrime 36 = .ok (.iconst 0, 1) := by decide +kernel
theorem dd_S_isPrime_37 : decode cd_S_isPrime 37 = .ok (.ireturn, 1) := by decide +kernel
theorem dd_S_passes_0 : decode cd_S_passes 0 = .ok (.iconst 0, 1) := by decide +kernel
theorem dd_S_passes_1 : decode cd_S_passes 1 = .ok (.istore_n 2, 1) := by decide +kernel
theorem dd_S_passes_2 : decode cd_S_passes 2 = .ok (.iload_n 0, 1) := by decide +kernel
theorem dd_S_passes_3 : decode cd_S_passes 3 = .ok (.iconst 1, 1) := by decide +kernel
theorem dd_S_passes_4 : decode cd_S_passes 4 = .ok (.isub, 1) := by decide +kernel
theorem dd_S_passes_5 : decode cd_S_passes 5 = .ok (.istore_n 3, 1) := by decide +kernel
theorem dd_S_passes_6 : decode cd_S_passes 6 = .ok (.iload_n 2, 1) := by decide +kernel
theorem dd_S_passes_7 : decode cd_S_passes 7 = .ok (.bipush 31, 2) := by decide +kernel
theorem dd_S_passes_9 : decode cd_S_passes 9 = .ok (.if_icmp .ge 19, 3) := by decide +kernel
theorem dd_S_passes_12 : decode cd_S_passes 12 = .ok (.iload_n 3, 1) := by decide +kernel
theorem dd_S_passes_13 : decode cd_S_passes 13 = .ok (.iconst 1, 1) := by decide +kernel
theorem dd_S_passes_14 : decode cd_S_passes 14 = .ok (.iand, 1) := by decide +kernel
theorem dd_S_passes_15 : decode cd_S_passes 15 = .ok (.ifCond .ne 13, 3) := by decide +kernel
theorem dd_S_passes_18 : decode cd_S_passes 18 = .ok (.iload_n 3, 1) := by decide +kernel
theorem dd_S_passes_19 : decode cd_S_passes 19 = .ok (.iconst 1, 1) := by decide +kernel
theorem dd_S_passes_20 : decode cd_S_passes 20 = .ok (.iushr, 1) := by decide +kernel
theorem dd_S_passes_21 : decode cd_S_passes 21 = .ok (.istore_n 3, 1) := by decide +kernel
theorem dd_S_passes_22 : decode cd_S_passes 22 = .ok (.iinc 2 1, 3) := by decide +kernel
theorem dd_S_passes_25 : decode cd_S_passes 25 = .ok (.goto (-19), 3) := by decide +kernel
theorem dd_S_passes_28 : decode cd_S_passes 28 = .ok (.iload_n 1, 1) := by decide +kernel
theorem dd_S_passes_29 : decode cd_S_passes 29 = .ok (.i2l, 1) := by decide +kernel
theorem dd_S_passes_30 : decode cd_S_passes 30 = .ok (.iload_n 3, 1) := by decide +kernel
theorem dd_S_passes_31 : decode cd_S_passes 31 = .ok (.iload_n 0, 1) := by decide +kernel
theorem dd_S_passes_32 : decode cd_S_passes 32 = .ok (.invokestatic 57, 3) := by decide +kernel
theorem dd_S_passes_35 : decode cd_S_passes 35 = .ok (.lstore 4, 2) := by decide +kernel
theorem dd_S_passes_37 : decode cd_S_passes 37 = .ok (.lload 4, 2) := by decide +kernel
theorem dd_S_passes_39 : decode cd_S_passes 39 = .ok (.lconst 1, 1) := by decide +kernel
theorem dd_S_passes_40 : decode cd_S_passes 40 = .ok (.lcmp, 1) := by decide +kernel
theorem dd_S_passes_41 : decode cd_S_passes 41 = .ok (.ifCond .eq 13, 3) := by decide +kernel
theorem dd_S_passes_44 : decode cd_S_passes 44 = .ok (.lload 4, 2) := by decide +kernel
theorem dd_S_passes_46 : decode cd_S_passes 46 = .ok (.iload_n 0, 1) := by decide +kernel
theorem dd_S_passes_47 : decode cd_S_passes 47 = .ok (.iconst 1, 1) := by decide +kernel
theorem dd_S_passes_48 : decode cd_S_passes 48 = .ok (.isub, 1) := by decide +kernel
theorem dd_S_passes_49 : decode cd_S_passes 49 = .ok (.i2l, 1) := by decide +kernel
theorem dd_S_passes_50 : decode cd_S_passes 50 = .ok (.lcmp, 1) := by decide +kernel
theorem dd_S_passes_51 : decode cd_S_passes 51 = .ok (.ifCond .ne 5, 3) := by decide +kernel
theorem dd_S_passes_54 : decode cd_S_passes 54 = .ok (.iconst 1, 1) := by decide +kernel
theorem dd_S_passes_55 : decode cd_S_passes 55 = .ok (.ireturn, 1) := by decide +kernel
theorem dd_S_passes_56 : decode cd_S_passes 56 = .ok (.iconst 1, 1) := by decide +kernel
theorem dd_S_passes_57 : decode cd_S_passes 57 = .ok (.istore 6, 2) := by decide +kernel
theorem dd_S_passes_59 : decode cd_S_passes 59 = .ok (.iload 6, 2) := by decide +kernel
theorem dd_S_passes_61 : decode cd_S_passes 61 = .ok (.iload_n 2, 1) := by decide +kernel
theorem dd_S_passes_62 : decode cd_S_passes 62 = .ok (.if_icmp .ge 31, 3) := by decide +kernel
theorem dd_S_passes_65 : decode cd_S_passes 65 = .ok (.lload 4, 2) := by decide +kernel
theorem dd_S_passes_67 : decode cd_S_passes 67 = .ok (.lload 4, 2) := by decide +kernel
theorem dd_S_passes_69 : decode cd_S_passes 69 = .ok (.lmul, 1) := by decide +kernel
theorem dd_S_passes_70 : decode cd_S_passes 70 = .ok (.iload_n 0, 1) := by decide +kernel
theorem dd_S_passes_71 : decode cd_S_passes 71 = .ok (.i2l, 1) := by decide +kernel
theorem dd_S_passes_72 : decode cd_S_passes 72 = .ok (.lrem, 1) := by decide +kernel
theorem dd_S_passes_73 : decode cd_S_passes 73 = .ok (.lstore 4, 2) := by decide +kernel
theorem dd_S_passes_75 : decode cd_S_passes 75 = .ok (.lload 4, 2) := by decide +kernel
theorem dd_S_passes_77 : decode cd_S_passes 77 = .ok (.iload_n 0, 1) := by decide +kernel
theorem dd_S_passes_78 : decode cd_S_passes 78 = .ok (.iconst 1, 1) := by decide +kernel
theorem dd_S_passes_79 : decode cd_S_passes 79 = .ok (.isub, 1) := by decide +kernel
theorem dd_S_passes_80 : decode cd_S_passes 80 = .ok (.i2l, 1) := by decide +kernel
theorem dd_S_passes_81 : decode cd_S_passes 81 = .ok (.lcmp, 1) := by decide +kernel
theorem dd_S_passes_82 : decode cd_S_passes 82 = .ok (.ifCond .ne 5, 3) := by decide +kernel
theorem dd_S_passes_85 : decode cd_S_passes 85 = .ok (.iconst 1, 1) := by decide +kernel
theorem dd_S_passes_86 : decode cd_S_passes 86 = .ok (.ireturn, 1) := by decide +kernel
theorem dd_S_passes_87 : decode cd_S_passes 87 = .ok (.iinc 6 1, 3) := by decide +kernel
theorem dd_S_passes_90 : decode cd_S_passes 90 = .ok (.goto (-31), 3) := by decide +kernel
theorem dd_S_passes_93 : decode cd_S_passes 93 = .ok (.iconst 0, 1) := by decide +kernel
theorem dd_S_passes_94 : decode cd_S_passes 94 = .ok (.ireturn, 1) := by decide +kernel
theorem dd_S_inverse_0 : decode cd_S_inverse 0 = .ok (.iload_n 1, 1) := by decide +kernel
theorem dd_S_inverse_1 : decode cd_S_inverse 1 = .ok (.iconst 2, 1) := by decide +kernel
theorem dd_S_inverse_2 : decode cd_S_inverse 2 = .ok (.if_icmp .ge 7, 3) := by decide +kernel
theorem dd_S_inverse_5 : decode cd_S_inverse 5 = .ok (.iconst 0, 1) := by decide +kernel
theorem dd_S_inverse_6 : decode cd_S_inverse 6 = .ok (.goto 13, 3) := by decide +kernel
theorem dd_S_inverse_9 : decode cd_S_inverse 9 = .ok (.iload_n 0, 1) := by decide +kernel
theorem dd_S_inverse_10 : decode cd_S_inverse 10 = .ok (.i2l, 1) := by decide +kernel
theorem dd_S_inverse_11 : decode cd_S_inverse 11 = .ok (.iload_n 1, 1) := by decide +kernel
theorem dd_S_inverse_12 : decode cd_S_inverse 12 = .ok (.iconst 2, 1) := by decide +kernel
theorem dd_S_inverse_13 : decode cd_S_inverse 13 = .ok (.isub, 1) := by decide +kernel
theorem dd_S_inverse_14 : decode cd_S_inverse 14 = .ok (.iload_n 1, 1) := by decide +kernel
theorem dd_S_inverse_15 : decode cd_S_inverse 15 = .ok (.invokestatic 57, 3) := by decide +kernel
theorem dd_S_inverse_18 : decode cd_S_inverse 18 = .ok (.l2i, 1) := by decide +kernel
theorem dd_S_inverse_19 : decode cd_S_inverse 19 = .ok (.ireturn, 1) := by decide +kernel
theorem dd_S_power_0 : decode cd_S_power 0 = .ok (.lconst 1, 1) := by decide +kernel
theorem dd_S_power_1 : decode cd_S_power 1 = .ok (.lstore 4, 2) := by decide +kernel
theorem dd_S_power_3 : decode cd_S_power 3 = .ok (.bipush 31, 2) := by decide +kernel
theorem dd_S_power_5 : decode cd_S_power 5 = .ok (.istore 6, 2) := by decide +kernel
theorem dd_S_power_7 : decode cd_S_power 7 = .ok (.iload 6, 2) := by decide +kernel
theorem dd_S_power_9 : decode cd_S_power 9 = .ok (.ifCond .lt 37, 3) := by decide +kernel
theorem dd_S_power_12 : decode cd_S_power 12 = .ok (.lload 4, 2) := by decide +kernel
theorem dd_S_power_14 : decode cd_S_power 14 = .ok (.lload 4, 2) := by decide +kernel
theorem dd_S_power_16 : decode cd_S_power 16 = .ok (.lmul, 1) := by decide +kernel
theorem dd_S_power_17 : decode cd_S_power 17 = .ok (.iload_n 3, 1) := by decide +kernel
theorem dd_S_power_18 : decode cd_S_power 18 = .ok (.i2l, 1) := by decide +kernel
theorem dd_S_power_19 : decode cd_S_power 19 = .ok (.lrem, 1) := by decide +kernel
theorem dd_S_power_20 : decode cd_S_power 20 = .ok (.lstore 4, 2) := by decide +kernel
theorem dd_S_power_22 : decode cd_S_power 22 = .ok (.iload_n 2, 1) := by decide +kernel
theorem dd_S_power_23 : decode cd_S_power 23 = .ok (.iload 6, 2) := by decide +kernel
theorem dd_S_power_25 : decode cd_S_power 25 = .ok (.iushr, 1) := by decide +kernel
theorem dd_S_power_26 : decode cd_S_power 26 = .ok (.iconst 1, 1) := by decide +kernel
theorem dd_S_power_27 : decode cd_S_power 27 = .ok (.iand, 1) := by decide +kernel
theorem dd_S_power_28 : decode cd_S_power 28 = .ok (.ifCond .eq 12, 3) := by decide +kernel
theorem dd_S_power_31 : decode cd_S_power 31 = .ok (.lload 4, 2) := by decide +kernel
theorem dd_S_power_33 : decode cd_S_power 33 = .ok (.lload_n 0, 1) := by decide +kernel
theorem dd_S_power_34 : decode cd_S_power 34 = .ok (.lmul, 1) := by decide +kernel
theorem dd_S_power_35 : decode cd_S_power 35 = .ok (.iload_n 3, 1) := by decide +kernel
theorem dd_S_power_36 : decode cd_S_power 36 = .ok (.i2l, 1) := by decide +kernel
theorem dd_S_power_37 : decode cd_S_power 37 = .ok (.lrem, 1) := by decide +kernel
theorem dd_S_power_38 : decode cd_S_power 38 = .ok (.lstore 4, 2) := by decide +kernel
theorem dd_S_power_40 : decode cd_S_power 40 = .ok (.iinc 6 (-1), 3) := by decide +kernel
theorem dd_S_power_43 : decode cd_S_power 43 = .ok (.goto (-36), 3) := by decide +kernel
theorem dd_S_power_46 : decode cd_S_power 46 = .ok (.lload 4, 2) := by decide +kernel
theorem dd_S_power_48 : decode cd_S_power 48 = .ok (.lreturn, 1) := by decide +kernel
