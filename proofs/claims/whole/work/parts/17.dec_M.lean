theorem dd_M_init_0 : decode cd_M_init 0 = .ok (.aload_n 0, 1) := by decide +kernel
theorem dd_M_init_1 : decode cd_M_init 1 = .ok (.invokespecial 1, 3) := by decide +kernel
theorem dd_M_init_4 : decode cd_M_init 4 = .ok (.aload_n 0, 1) := by decide +kernel
theorem dd_M_init_5 : decode cd_M_init 5 = .ok (.bipush 32, 2) := by decide +kernel
theorem dd_M_init_7 : decode cd_M_init 7 = .ok (.newarray .long, 2) := by decide +kernel
theorem dd_M_init_9 : decode cd_M_init 9 = .ok (.dup, 1) := by decide +kernel
theorem dd_M_init_10 : decode cd_M_init 10 = .ok (.iconst 0, 1) := by decide +kernel
theorem dd_M_init_11 : decode cd_M_init 11 = .ok (.ldc2_w 7, 3) := by decide +kernel
theorem dd_M_init_14 : decode cd_M_init 14 = .ok (.lastore, 1) := by decide +kernel
theorem dd_M_init_15 : decode cd_M_init 15 = .ok (.dup, 1) := by decide +kernel
theorem dd_M_init_16 : decode cd_M_init 16 = .ok (.iconst 1, 1) := by decide +kernel
theorem dd_M_init_17 : decode cd_M_init 17 = .ok (.ldc2_w 9, 3) := by decide +kernel
theorem dd_M_init_20 : decode cd_M_init 20 = .ok (.lastore, 1) := by decide +kernel
theorem dd_M_init_21 : decode cd_M_init 21 = .ok (.dup, 1) := by decide +kernel
theorem dd_M_init_22 : decode cd_M_init 22 = .ok (.iconst 2, 1) := by decide +kernel
theorem dd_M_init_23 : decode cd_M_init 23 = .ok (.ldc2_w 11, 3) := by decide +kernel
theorem dd_M_init_26 : decode cd_M_init 26 = .ok (.lastore, 1) := by decide +kernel
theorem dd_M_init_27 : decode cd_M_init 27 = .ok (.dup, 1) := by decide +kernel
theorem dd_M_init_28 : decode cd_M_init 28 = .ok (.iconst 3, 1) := by decide +kernel
theorem dd_M_init_29 : decode cd_M_init 29 = .ok (.ldc2_w 13, 3) := by decide +kernel
theorem dd_M_init_32 : decode cd_M_init 32 = .ok (.lastore, 1) := by decide +kernel
theorem dd_M_init_33 : decode cd_M_init 33 = .ok (.dup, 1) := by decide +kernel
theorem dd_M_init_34 : decode cd_M_init 34 = .ok (.iconst 4, 1) := by decide +kernel
theorem dd_M_init_35 : decode cd_M_init 35 = .ok (.ldc2_w 15, 3) := by decide +kernel
theorem dd_M_init_38 : decode cd_M_init 38 = .ok (.lastore, 1) := by decide +kernel
theorem dd_M_init_39 : decode cd_M_init 39 = .ok (.dup, 1) := by decide +kernel
theorem dd_M_init_40 : decode cd_M_init 40 = .ok (.iconst 5, 1) := by decide +kernel
theorem dd_M_init_41 : decode cd_M_init 41 = .ok (.ldc2_w 17, 3) := by decide +kernel
theorem dd_M_init_44 : decode cd_M_init 44 = .ok (.lastore, 1) := by decide +kernel
theorem dd_M_init_45 : decode cd_M_init 45 = .ok (.dup, 1) := by decide +kernel
theorem dd_M_init_46 : decode cd_M_init 46 = .ok (.bipush 6, 2) := by decide +kernel
theorem dd_M_init_48 : decode cd_M_init 48 = .ok (.ldc2_w 19, 3) := by decide +kernel
theorem dd_M_init_51 : decode cd_M_init 51 = .ok (.lastore, 1) := by decide +kernel
theorem dd_M_init_52 : decode cd_M_init 52 = .ok (.dup, 1) := by decide +kernel
theorem dd_M_init_53 : decode cd_M_init 53 = .ok (.bipush 7, 2) := by decide +kernel
theorem dd_M_init_55 : decode cd_M_init 55 = .ok (.ldc2_w 21, 3) := by decide +kernel
theorem dd_M_init_58 : decode cd_M_init 58 = .ok (.lastore, 1) := by decide +kernel
theorem dd_M_init_59 : decode cd_M_init 59 = .ok (.dup, 1) := by decide +kernel
theorem dd_M_init_60 : decode cd_M_init 60 = .ok (.bipush 8, 2) := by decide +kernel
theorem dd_M_init_62 : decode cd_M_init 62 = .ok (.ldc2_w 23, 3) := by decide +kernel
theorem dd_M_init_65 : decode cd_M_init 65 = .ok (.lastore, 1) := by decide +kernel
theorem dd_M_init_66 : decode cd_M_init 66 = .ok (.dup, 1) := by decide +kernel
theorem dd_M_init_67 : decode cd_M_init 67 = .ok (.bipush 9, 2) := by decide +kernel
theorem dd_M_init_69 : decode cd_M_init 69 = .ok (.ldc2_w 25, 3) := by decide +kernel
theorem dd_M_init_72 : decode cd_M_init 72 = .ok (.lastore, 1) := by decide +kernel
theorem dd_M_init_73 : decode cd_M_init 73 = .ok (.dup, 1) := by decide +kernel
theorem dd_M_init_74 : decode cd_M_init 74 = .ok (.bipush 10, 2) := by decide +kernel
theorem dd_M_init_76 : decode cd_M_init 76 = .ok (.ldc2_w 27, 3) := by decide +kernel
theorem dd_M_init_79 : decode cd_M_init 79 = .ok (.lastore, 1) := by decide +kernel
theorem dd_M_init_80 : decode cd_M_init 80 = .ok (.dup, 1) := by decide +kernel
theorem dd_M_init_81 : decode cd_M_init 81 = .ok (.bipush 11, 2) := by decide +kernel
theorem dd_M_init_83 : decode cd_M_init 83 = .ok (.ldc2_w 29, 3) := by decide +kernel
theorem dd_M_init_86 : decode cd_M_init 86 = .ok (.lastore, 1) := by decide +kernel
theorem dd_M_init_87 : decode cd_M_init 87 = .ok (.dup, 1) := by decide +kernel
theorem dd_M_init_88 : decode cd_M_init 88 = .ok (.bipush 12, 2) := by decide +kernel
theorem dd_M_init_90 : decode cd_M_init 90 = .ok (.ldc2_w 31, 3) := by decide +kernel
theorem dd_M_init_93 : decode cd_M_init 93 = .ok (.lastore, 1) := by decide +kernel
theorem dd_M_init_94 : decode cd_M_init 94 = .ok (.dup, 1) := by decide +kernel
theorem dd_M_init_95 : decode cd_M_init 95 = .ok (.bipush 13, 2) := by decide +kernel
theorem dd_M_init_97 : decode cd_M_init 97 = .ok (.ldc2_w 33, 3) := by decide +kernel
theorem dd_M_init_100 : decode cd_M_init 100 = .ok (.lastore, 1) := by decide +kernel
theorem dd_M_init_101 : decode cd_M_init 101 = .ok (.dup, 1) := by decide +kernel
theorem dd_M_init_102 : decode cd_M_init 102 = .ok (.bipush 14, 2) := by decide +kernel
theorem dd_M_init_104 : decode cd_M_init 104 = .ok (.ldc2_w 35, 3) := by decide +kernel
theorem dd_M_init_107 : decode cd_M_init 107 = .ok (.lastore, 1) := by decide +kernel
theorem dd_M_init_108 : decode cd_M_init 108 = .ok (.dup, 1) := by decide +kernel
theorem dd_M_init_109 : decode cd_M_init 109 = .ok (.bipush 15, 2) := by decide +kernel
theorem dd_M_init_111 : decode cd_M_init 111 = .ok (.ldc2_w 37, 3) := by decide +kernel
theorem dd_M_init_114 : decode cd_M_init 114 = .ok (.lastore, 1) := by decide +kernel
theorem dd_M_init_115 : decode cd_M_init 115 = .ok (.dup, 1) := by decide +kernel
theorem dd_M_init_116 : decode cd_M_init 116 = .ok (.bipush 16, 2) := by decide +kernel
theorem dd_M_init_118 : decode cd_M_init 118 = .ok (.ldc2_w 39, 3) := by decide +kernel
theorem dd_M_init_121 : decode cd_M_init 121 = .ok (.lastore, 1) := by decide +kernel
theorem dd_M_init_122 : decode cd_M_init 122 = .ok (.dup, 1) := by decide +kernel
theorem dd_M_init_123 : decode cd_M_init 123 = .ok (.bipush 17, 2) := by decide +kernel
theorem dd_M_init_125 : decode cd_M_init 125 = .ok (.ldc2_w 41, 3) := by decide +kernel
theorem dd_M_init_128 : decode cd_M_init 128 = .ok (.lastore, 1) := by decide +kernel
theorem dd_M_init_129 : decode cd_M_init 129 = .ok (.dup, 1) := by decide +kernel
theorem dd_M_init_130 : decode cd_M_init 130 = .ok (.bipush 18, 2) := by decide +kernel
theorem dd_M_init_132 : decode cd_M_init 132 = .ok (.ldc2_w 43, 3) := by decide +kernel
theorem dd_M_init_135 : decode cd_M_init 135 = .ok (.lastore, 1) := by decide +kernel
theorem dd_M_init_136 : decode cd_M_init 136 = .ok (.dup, 1) := by decide +kernel
theorem dd_M_init_137 : decode cd_M_init 137 = .ok (.bipush 19, 2) := by decide +kernel
theorem dd_M_init_139 : decode cd_M_init 139 = .ok (.ldc2_w 45, 3) := by decide +kernel
theorem dd_M_init_142 : decode cd_M_init 142 = .ok (.lastore, 1) := by decide +kernel
theorem dd_M_init_143 : decode cd_M_init 143 = .ok (.dup, 1) := by decide +kernel
theorem dd_M_init_144 : decode cd_M_init 144 = .ok (.bipush 20, 2) := by decide +kernel
theorem dd_M_init_146 : decode cd_M_init 146 = .ok (.ldc2_w 47, 3) := by decide +kernel
theorem dd_M_init_149 : decode cd_M_init 149 = .ok (.lastore, 1) := by decide +kernel
theorem dd_M_init_150 : decode cd_M_init 150 = .ok (.dup, 1) := by decide +kernel
theorem dd_M_init_151 : decode cd_M_init 151 = .ok (.bipush 21, 2) := by decide +kernel
theorem dd_M_init_153 : decode cd_M_init 153 = .ok (.ldc2_w 49, 3) := by decide +kernel
theorem dd_M_init_156 : decode cd_M_init 156 = .ok (.lastore, 1) := by decide +kernel
theorem dd_M_init_157 : decode cd_M_init 157 = .ok (.dup, 1) := by decide +kernel
theorem dd_M_init_158 : decode cd_M_init 158 = .ok (.bipush 22, 2) := by decide +kernel
theorem dd_M_init_160 : decode cd_M_init 160 = .ok (.ldc2_w 51, 3) := by decide +kernel
theorem dd_M_init_163 : decode cd_M_init 163 = .ok (.lastore, 1) := by decide +kernel
theorem dd_M_init_164 : decode cd_M_init 164 = .ok (.dup, 1) := by decide +kernel
theorem dd_M_init_165 : decode cd_M_init 165 = .ok (.bipush 23, 2) := by decide +kernel
theorem dd_M_init_167 : decode cd_M_init 167 = .ok (.ldc2_w 53, 3) := by decide +kernel
theorem dd_M_init_170 : decode cd_M_init 170 = .ok (.lastore, 1) := by decide +kernel
theorem dd_M_init_171 : decode cd_M_init 171 = .ok (.dup, 1) := by decide +kernel
theorem dd_M_init_172 : decode cd_M_init 172 = .ok (.bipush 24, 2) := by decide +kernel
theorem dd_M_init_174 : decode cd_M_init 174 = .ok (.ldc2_w 55, 3) := by decide +kernel
theorem dd_M_init_177 : decode cd_M_init 177 = .ok (.lastore, 1) := by decide +kernel
theorem dd_M_init_178 : decode cd_M_init 178 = .ok (.dup, 1) := by decide +kernel
theorem dd_M_init_179 : decode cd_M_init 179 = .ok (.bipush 25, 2) := by decide +kernel
theorem dd_M_init_181 : decode cd_M_init 181 = .ok (.ldc2_w 57, 3) := by decide +kernel
theorem dd_M_init_184 : decode cd_M_init 184 = .ok (.lastore, 1) := by decide +kernel
theorem dd_M_init_185 : decode cd_M_init 185 = .ok (.dup, 1) := by decide +kernel
theorem dd_M_init_186 : decode cd_M_init 186 = .ok (.bipush 26, 2) := by decide +kernel
theorem dd_M_init_188 : decode cd_M_init 188 = .ok (.ldc2_w 59, 3) := by decide +kernel
theorem dd_M_init_191 : decode cd_M_init 191 = .ok (.lastore, 1) := by decide +kernel
theorem dd_M_init_192 : decode cd_M_init 192 = .ok (.dup, 1) := by decide +kernel
theorem dd_M_init_193 : decode cd_M_init 193 = .ok (.bipush 27, 2) := by decide +kernel
theorem dd_M_init_195 : decode cd_M_init 195 = .ok (.ldc2_w 61, 3) := by decide +kernel
theorem dd_M_init_198 : decode cd_M_init 198 = .ok (.lastore, 1) := by decide +kernel
theorem dd_M_init_199 : decode cd_M_init 199 = .ok (.dup, 1) := by decide +kernel
theorem dd_M_init_200 : decode cd_M_init 200 = .ok (.bipush 28, 2) := by decide +kernel
theorem dd_M_init_202 : decode cd_M_init 202 = .ok (.ldc2_w 63, 3) := by decide +kernel
theorem dd_M_init_205 : decode cd_M_init 205 = .ok (.lastore, 1) := by decide +kernel
theorem dd_M_init_206 : decode cd_M_init 206 = .ok (.dup, 1) := by decide +kernel
theorem dd_M_init_207 : decode cd_M_init 207 = .ok (.bipush 29, 2) := by decide +kernel
theorem dd_M_init_209 : decode cd_M_init 209 = .ok (.ldc2_w 65, 3) := by decide +kernel
theorem dd_M_init_212 : decode cd_M_init 212 = .ok (.lastore, 1) := by decide +kernel
theorem dd_M_init_213 : decode cd_M_init 213 = .ok (.dup, 1) := by decide +kernel
theorem dd_M_init_214 : decode cd_M_init 214 = .ok (.bipush 30, 2) := by decide +kernel
theorem dd_M_init_216 : decode cd_M_init 216 = .ok (.ldc2_w 67, 3) := by decide +kernel
theorem dd_M_init_219 : decode cd_M_init 219 = .ok (.lastore, 1) := by decide +kernel
theorem dd_M_init_220 : decode cd_M_init 220 = .ok (.dup, 1) := by decide +kernel
theorem dd_M_init_221 : decode cd_M_init 221 = .ok (.bipush 31, 2) := by decide +kernel
theorem dd_M_init_223 : decode cd_M_init 223 = .ok (.ldc2_w 69, 3) := by decide +kernel
theorem dd_M_init_226 : decode cd_M_init 226 = .ok (.lastore, 1) := by decide +kernel
theorem dd_M_init_227 : decode cd_M_init 227 = .ok (.putfield 71, 3) := by decide +kernel
theorem dd_M_init_230 : decode cd_M_init 230 = .ok (.aload_n 0, 1) := by decide +kernel
theorem dd_M_init_231 : decode cd_M_init 231 = .ok (.bipush 64, 2) := by decide +kernel
theorem dd_M_init_233 : decode cd_M_init 233 = .ok (.newarray .int, 2) := by decide +kernel
theorem dd_M_init_235 : decode cd_M_init 235 = .ok (.putfield 77, 3) := by decide +kernel
theorem dd_M_init_238 : decode cd_M_init 238 = .ok (.aload_n 0, 1) := by decide +kernel
theorem dd_M_init_239 : decode cd_M_init 239 = .ok (.bipush 10, 2) := by decide +kernel
theorem dd_M_init_241 : decode cd_M_init 241 = .ok (.newarray .long, 2) := by decide +kernel
theorem dd_M_init_243 : decode cd_M_init 243 = .ok (.putfield 81, 3) := by decide +kernel
theorem dd_M_init_246 : decode cd_M_init 246 = .ok (.aload_n 0, 1) := by decide +kernel
theorem dd_M_init_247 : decode cd_M_init 247 = .ok (.bipush 10, 2) := by decide +kernel
theorem dd_M_init_249 : decode cd_M_init 249 = .ok (.newarray .int, 2) := by decide +kernel
theorem dd_M_init_251 : decode cd_M_init 251 = .ok (.putfield 84, 3) := by decide +kernel
theorem dd_M_init_254 : decode cd_M_init 254 = .ok (.aload_n 0, 1) := by decide +kernel
theorem dd_M_init_255 : decode cd_M_init 255 = .ok (.bipush 17, 2) := by decide +kernel
theorem dd_M_init_257 : decode cd_M_init 257 = .ok (.newarray .int, 2) := by decide +kernel
theorem dd_M_init_259 : decode cd_M_init 259 = .ok (.putfield 87, 3) := by decide +kernel
theorem dd_M_init_262 : decode cd_M_init 262 = .ok (.aload_n 0, 1) := by decide +kernel
theorem dd_M_init_263 : decode cd_M_init 263 = .ok (.sipush 170, 3) := by decide +kernel
theorem dd_M_init_266 : decode cd_M_init 266 = .ok (.newarray .long, 2) := by decide +kernel
theorem dd_M_init_268 : decode cd_M_init 268 = .ok (.putfield 90, 3) := by decide +kernel
theorem dd_M_init_271 : decode cd_M_init 271 = .ok (.aload_n 0, 1) := by decide +kernel
theorem dd_M_init_272 : decode cd_M_init 272 = .ok (.sipush 170, 3) := by decide +kernel
theorem dd_M_init_275 : decode cd_M_init 275 = .ok (.newarray .int, 2) := by decide +kernel
theorem dd_M_init_277 : decode cd_M_init 277 = .ok (.putfield 93, 3) := by decide +kernel
theorem dd_M_init_280 : decode cd_M_init 280 = .ok (.aload_n 0, 1) := by decide +kernel
theorem dd_M_init_281 : decode cd_M_init 281 = .ok (.bipush 17, 2) := by decide +kernel
theorem dd_M_init_283 : decode cd_M_init 283 = .ok (.newarray .long, 2) := by decide +kernel
theorem dd_M_init_285 : decode cd_M_init 285 = .ok (.putfield 96, 3) := by decide +kernel
theorem dd_M_init_288 : decode cd_M_init 288 = .ok (.aload_n 0, 1) := by decide +kernel
theorem dd_M_init_289 : decode cd_M_init 289 = .ok (.bipush 17, 2) := by decide +kernel
theorem dd_M_init_291 : decode cd_M_init 291 = .ok (.newarray .long, 2) := by decide +kernel
theorem dd_M_init_293 : decode cd_M_init 293 = .ok (.putfield 99, 3) := by decide +kernel
theorem dd_M_init_296 : decode cd_M_init 296 = .ok (.aload_n 0, 1) := by decide +kernel
theorem dd_M_init_297 : decode cd_M_init 297 = .ok (.bipush 32, 2) := by decide +kernel
theorem dd_M_init_299 : decode cd_M_init 299 = .ok (.newarray .int, 2) := by decide +kernel
theorem dd_M_init_301 : decode cd_M_init 301 = .ok (.putfield 102, 3) := by decide +kernel
theorem dd_M_init_304 : decode cd_M_init 304 = .ok (.return_, 1) := by decide +kernel
theorem dd_M_right_0 : decode cd_M_right 0 = .ok (.iload_n 0, 1) := by decide +kernel
theorem dd_M_right_1 : decode cd_M_right 1 = .ok (.iload_n 1, 1) := by decide +kernel
theorem dd_M_right_2 : decode cd_M_right 2 = .ok (.iushr, 1) := by decide +kernel
theorem dd_M_right_3 : decode cd_M_right 3 = .ok (.iload_n 0, 1) := by decide +kernel
theorem dd_M_right_4 : decode cd_M_right 4 = .ok (.bipush 32, 2) := by decide +kernel
theorem dd_M_right_6 : decode cd_M_right 6 = .ok (.iload_n 1, 1) := by decide +kernel
theorem dd_M_right_7 : decode cd_M_right 7 = .ok (.isub, 1) := by decide +kernel
theorem dd_M_right_8 : decode cd_M_right 8 = .ok (.ishl, 1) := by decide +kernel
theorem dd_M_right_9 : decode cd_M_right 9 = .ok (.ior, 1) := by decide +kernel
theorem dd_M_right_10 : decode cd_M_right 10 = .ok (.ireturn, 1) := by decide +kernel
theorem dd_M_hash_0 : decode cd_M_hash 0 = .ok (.iconst 0, 1) := by decide +kernel
theorem dd_M_hash_1 : decode cd_M_hash 1 = .ok (.istore 4, 2) := by decide +kernel
theorem dd_M_hash_3 : decode cd_M_hash 3 = .ok (.iload 4, 2) := by decide +kernel
theorem dd_M_hash_5 : decode cd_M_hash 5 = .ok (.bipush 16, 2) := by decide +kernel
theorem dd_M_hash_7 : decode cd_M_hash 7 = .ok (.if_icmp .ge 17, 3) := by decide +kernel
theorem dd_M_hash_10 : decode cd_M_hash 10 = .ok (.aload_n 0, 1) := by decide +kernel
theorem dd_M_hash_11 : decode cd_M_hash 11 = .ok (.getfield 77, 3) := by decide +kernel
theorem dd_M_hash_14 : decode cd_M_hash 14 = .ok (.iload 4, 2) := by decide +kernel
theorem dd_M_hash_16 : decode cd_M_hash 16 = .ok (.iconst 0, 1) := by decide +kernel
theorem dd_M_hash_17 : decode cd_M_hash 17 = .ok (.iastore, 1) := by decide +kernel
theorem dd_M_hash_18 : decode cd_M_hash 18 = .ok (.iinc 4 1, 3) := by decide +kernel
theorem dd_M_hash_21 : decode cd_M_hash 21 = .ok (.goto (-18), 3) := by decide +kernel
theorem dd_M_hash_24 : decode cd_M_hash 24 = .ok (.aload_n 0, 1) := by decide +kernel
theorem dd_M_hash_25 : decode cd_M_hash 25 = .ok (.getfield 77, 3) := by decide +kernel
theorem dd_M_hash_28 : decode cd_M_hash 28 = .ok (.iconst 0, 1) := by decide +kernel
theorem dd_M_hash_29 : decode cd_M_hash 29 = .ok (.lload_n 1, 1) := by decide +kernel
theorem dd_M_hash_30 : decode cd_M_hash 30 = .ok (.bipush 32, 2) := by decide +kernel
theorem dd_M_hash_32 : decode cd_M_hash 32 = .ok (.lshr, 1) := by decide +kernel
theorem dd_M_hash_33 : decode cd_M_hash 33 = .ok (.l2i, 1) := by decide +kernel
theorem dd_M_hash_34 : decode cd_M_hash 34 = .ok (.iastore, 1) := by decide +kernel
theorem dd_M_hash_35 : decode cd_M_hash 35 = .ok (.aload_n 0, 1) := by decide +kernel
theorem dd_M_hash_36 : decode cd_M_hash 36 = .ok (.getfield 77, 3) := by decide +kernel
theorem dd_M_hash_39 : decode cd_M_hash 39 = .ok (.iconst 1, 1) := by decide +kernel
theorem dd_M_hash_40 : decode cd_M_hash 40 = .ok (.lload_n 1, 1) := by decide +kernel
theorem dd_M_hash_41 : decode cd_M_hash 41 = .ok (.l2i, 1) := by decide +kernel
theorem dd_M_hash_42 : decode cd_M_hash 42 = .ok (.iastore, 1) := by decide +kernel
theorem dd_M_hash_43 : decode cd_M_hash 43 = .ok (.aload_n 0, 1) := by decide +kernel
theorem dd_M_hash_44 : decode cd_M_hash 44 = .ok (.getfield 77, 3) := by decide +kernel
theorem dd_M_hash_47 : decode cd_M_hash 47 = .ok (.iconst 3, 1) := by decide +kernel
theorem dd_M_hash_48 : decode cd_M_hash 48 = .ok (.iload_n 3, 1) := by decide +kernel
theorem dd_M_hash_49 : decode cd_M_hash 49 = .ok (.iastore, 1) := by decide +kernel
theorem dd_M_hash_50 : decode cd_M_hash 50 = .ok (.aload_n 0, 1) := by decide +kernel
theorem dd_M_hash_51 : decode cd_M_hash 51 = .ok (.getfield 77, 3) := by decide +kernel
theorem dd_M_hash_54 : decode cd_M_hash 54 = .ok (.iconst 4, 1) := by decide +kernel
theorem dd_M_hash_55 : decode cd_M_hash 55 = .ok (.ldc 105, 2) := by decide +kernel
theorem dd_M_hash_57 : decode cd_M_hash 57 = .ok (.iastore, 1) := by decide +kernel
theorem dd_M_hash_58 : decode cd_M_hash 58 = .ok (.aload_n 0, 1) := by decide +kernel
theorem dd_M_hash_59 : decode cd_M_hash 59 = .ok (.getfield 77, 3) := by decide +kernel
theorem dd_M_hash_62 : decode cd_M_hash 62 = .ok (.bipush 15, 2) := by decide +kernel
theorem dd_M_hash_64 : decode cd_M_hash 64 = .ok (.sipush 128, 3) := by decide +kernel
theorem dd_M_hash_67 : decode cd_M_hash 67 = .ok (.iastore, 1) := by decide +kernel
theorem dd_M_hash_68 : decode cd_M_hash 68 = .ok (.bipush 16, 2) := by decide +kernel
theorem dd_M_hash_70 : decode cd_M_hash 70 = .ok (.istore 4, 2) := by decide +kernel
theorem dd_M_hash_72 : decode cd_M_hash 72 = .ok (.iload 4, 2) := by decide +kernel
theorem dd_M_hash_74 : decode cd_M_hash 74 = .ok (.bipush 64, 2) := by decide +kernel
theorem dd_M_hash_76 : decode cd_M_hash 76 = .ok (.if_icmp .ge 103, 3) := by decide +kernel
theorem dd_M_hash_79 : decode cd_M_hash 79 = .ok (.aload_n 0, 1) := by decide +kernel
theorem dd_M_hash_80 : decode cd_M_hash 80 = .ok (.getfield 77, 3) := by decide +kernel
theorem dd_M_hash_83 : decode cd_M_hash 83 = .ok (.iload 4, 2) := by decide +kernel
theorem dd_M_hash_85 : decode cd_M_hash 85 = .ok (.iconst 2, 1) := by decide +kernel
theorem dd_M_hash_86 : decode cd_M_hash 86 = .ok (.isub, 1) := by decide +kernel
theorem dd_M_hash_87 : decode cd_M_hash 87 = .ok (.iaload, 1) := by decide +kernel
theorem dd_M_hash_88 : decode cd_M_hash 88 = .ok (.istore 5, 2) := by decide +kernel
theorem dd_M_hash_90 : decode cd_M_hash 90 = .ok (.aload_n 0, 1) := by decide +kernel
theorem dd_M_hash_91 : decode cd_M_hash 91 = .ok (.getfield 77, 3) := by decide +kernel
theorem dd_M_hash_94 : decode cd_M_hash 94 = .ok (.iload 4, 2) := by decide +kernel
theorem dd_M_hash_96 : decode cd_M_hash 96 = .ok (.bipush 15, 2) := by decide +kernel
theorem dd_M_hash_98 : decode cd_M_hash 98 = .ok (.isub, 1) := by decide +kernel
theorem dd_M_hash_99 : decode cd_M_hash 99 = .ok (.iaload, 1) := by decide +kernel
theorem dd_M_hash_100 : decode cd_M_hash 100 = .ok (.istore 6, 2) := by decide +kernel
theorem dd_M_hash_102 : decode cd_M_hash 102 = .ok (.aload_n 0, 1) := by decide +kernel
theorem dd_M_hash_103 : decode cd_M_hash 103 = .ok (.getfield 77, 3) := by decide +kernel
theorem dd_M_hash_106 : decode cd_M_hash 106 = .ok (.iload 4, 2) := by decide +kernel
theorem dd_M_hash_108 : decode cd_M_hash 108 = .ok (.iload 5, 2) := by decide +kernel
theorem dd_M_hash_110 : decode cd_M_hash 110 = .ok (.bipush 17, 2) := by decide +kernel
theorem dd_M_hash_112 : decode cd_M_hash 112 = .ok (.invokestatic 106, 3) := by decide +kernel
theorem dd_M_hash_115 : decode cd_M_hash 115 = .ok (.iload 5, 2) := by decide +kernel
theorem dd_M_hash_117 : decode cd_M_hash 117 = .ok (.bipush 19, 2) := by decide +kernel
theorem dd_M_hash_119 : decode cd_M_hash 119 = .ok (.invokestatic 106, 3) := by decide +kernel
theorem dd_M_hash_122 : decode cd_M_hash 122 = .ok (.ixor, 1) := by decide +kernel
theorem dd_M_hash_123 : decode cd_M_hash 123 = .ok (.iload 5, 2) := by decide +kernel
theorem dd_M_hash_125 : decode cd_M_hash 125 = .ok (.bipush 10, 2) := by decide +kernel
theorem dd_M_hash_127 : decode cd_M_hash 127 = .ok (.iushr, 1) := by decide +kernel
theorem dd_M_hash_128 : decode cd_M_hash 128 = .ok (.ixor, 1) := by decide +kernel
theorem dd_M_hash_129 : decode cd_M_hash 129 = .ok (.aload_n 0, 1) := by decide +kernel
theorem dd_M_hash_130 : decode cd_M_hash 130 = .ok (.getfield 77, 3) := by decide +kernel
theorem dd_M_hash_133 : decode cd_M_hash 133 = .ok (.iload 4, 2) := by decide +kernel
theorem dd_M_hash_135 : decode cd_M_hash 135 = .ok (.bipush 7, 2) := by decide +kernel
theorem dd_M_hash_137 : decode cd_M_hash 137 = .ok (.isub, 1) := by decide +kernel
theorem dd_M_hash_138 : decode cd_M_hash 138 = .ok (.iaload, 1) := by decide +kernel
theorem dd_M_hash_139 : decode cd_M_hash 139 = .ok (.iadd, 1) := by decide +kernel
theorem dd_M_hash_140 : decode cd_M_hash 140 = .ok (.iload 6, 2) := by decide +kernel
theorem dd_M_hash_142 : decode cd_M_hash 142 = .ok (.bipush 7, 2) := by decide +kernel
theorem dd_M_hash_144 : decode cd_M_hash 144 = .ok (.invokestatic 106, 3) := by decide +kernel
theorem dd_M_hash_147 : decode cd_M_hash 147 = .ok (.iload 6, 2) := by decide +kernel
theorem dd_M_hash_149 : decode cd_M_hash 149 = .ok (.bipush 18, 2) := by decide +kernel
theorem dd_M_hash_151 : decode cd_M_hash 151 = .ok (.invokestatic 106, 3) := by decide +kernel
theorem dd_M_hash_154 : decode cd_M_hash 154 = .ok (.ixor, 1) := by decide +kernel
theorem dd_M_hash_155 : decode cd_M_hash 155 = .ok (.iload 6, 2) := by decide +kernel
theorem dd_M_hash_157 : decode cd_M_hash 157 = .ok (.iconst 3, 1) := by decide +kernel
theorem dd_M_hash_158 : decode cd_M_hash 158 = .ok (.iushr, 1) := by decide +kernel
theorem dd_M_hash_159 : decode cd_M_hash 159 = .ok (.ixor, 1) := by decide +kernel
theorem dd_M_hash_160 : decode cd_M_hash 160 = .ok (.iadd, 1) := by decide +kernel
theorem dd_M_hash_161 : decode cd_M_hash 161 = .ok (.aload_n 0, 1) := by decide +kernel
theorem dd_M_hash_162 : decode cd_M_hash 162 = .ok (.getfield 77, 3) := by decide +kernel
theorem dd_M_hash_165 : decode cd_M_hash 165 = .ok (.iload 4, 2) := by decide +kernel
theorem dd_M_hash_167 : decode cd_M_hash 167 = .ok (.bipush 16, 2) := by decide +kernel
theorem dd_M_hash_169 : decode cd_M_hash 169 = .ok (.isub, 1) := by decide +kernel
theorem dd_M_hash_170 : decode cd_M_hash 170 = .ok (.iaload, 1) := by decide +kernel
theorem dd_M_hash_171 : decode cd_M_hash 171 = .ok (.iadd, 1) := by decide +kernel
theorem dd_M_hash_172 : decode cd_M_hash 172 = .ok (.iastore, 1) := by decide +kernel
theorem dd_M_hash_173 : decode cd_M_hash 173 = .ok (.iinc 4 1, 3) := by decide +kernel
theorem dd_M_hash_176 : decode cd_M_hash 176 = .ok (.goto (-104), 3) := by decide +kernel
theorem dd_M_hash_179 : decode cd_M_hash 179 = .ok (.ldc 110, 2) := by decide +kernel
theorem dd_M_hash_181 : decode cd_M_hash 181 = .ok (.istore 4, 2) := by decide +kernel
theorem dd_M_hash_183 : decode cd_M_hash 183 = .ok (.ldc 111, 2) := by decide +kernel
theorem dd_M_hash_185 : decode cd_M_hash 185 = .ok (.istore 5, 2) := by decide +kernel
theorem dd_M_hash_187 : decode cd_M_hash 187 = .ok (.ldc 112, 2) := by decide +kernel
theorem dd_M_hash_189 : decode cd_M_hash 189 = .ok (.istore 6, 2) := by decide +kernel
theorem dd_M_hash_191 : decode cd_M_hash 191 = .ok (.ldc 113, 2) := by decide +kernel
theorem dd_M_hash_193 : decode cd_M_hash 193 = .ok (.istore 7, 2) := by decide +kernel
theorem dd_M_hash_195 : decode cd_M_hash 195 = .ok (.ldc 114, 2) := by decide +kernel
theorem dd_M_hash_197 : decode cd_M_hash 197 = .ok (.istore 8, 2) := by decide +kernel
theorem dd_M_hash_199 : decode cd_M_hash 199 = .ok (.ldc 115, 2) := by decide +kernel
theorem dd_M_hash_201 : decode cd_M_hash 201 = .ok (.istore 9, 2) := by decide +kernel
theorem dd_M_hash_203 : decode cd_M_hash 203 = .ok (.ldc 116, 2) := by decide +kernel
theorem dd_M_hash_205 : decode cd_M_hash 205 = .ok (.istore 10, 2) := by decide +kernel
theorem dd_M_hash_207 : decode cd_M_hash 207 = .ok (.ldc 117, 2) := by decide +kernel
theorem dd_M_hash_209 : decode cd_M_hash 209 = .ok (.istore 11, 2) := by decide +kernel
theorem dd_M_hash_211 : decode cd_M_hash 211 = .ok (.iconst 0, 1) := by decide +kernel
theorem dd_M_hash_212 : decode cd_M_hash 212 = .ok (.istore 12, 2) := by decide +kernel
theorem dd_M_hash_214 : decode cd_M_hash 214 = .ok (.iload 12, 2) := by decide +kernel
theorem dd_M_hash_216 : decode cd_M_hash 216 = .ok (.bipush 64, 2) := by decide +kernel
theorem dd_M_hash_218 : decode cd_M_hash 218 = .ok (.if_icmp .ge 164, 3) := by decide +kernel
theorem dd_M_hash_221 : decode cd_M_hash 221 = .ok (.iload 10, 2) := by decide +kernel
theorem dd_M_hash_223 : decode cd_M_hash 223 = .ok (.iload 7, 2) := by decide +kernel
theorem dd_M_hash_225 : decode cd_M_hash 225 = .ok (.bipush 6, 2) := by decide +kernel
theorem dd_M_hash_227 : decode cd_M_hash 227 = .ok (.invokestatic 106, 3) := by decide +kernel
theorem dd_M_hash_230 : decode cd_M_hash 230 = .ok (.iload 7, 2) := by decide +kernel
theorem dd_M_hash_232 : decode cd_M_hash 232 = .ok (.bipush 11, 2) := by decide +kernel
theorem dd_M_hash_234 : decode cd_M_hash 234 = .ok (.invokestatic 106, 3) := by decide +kernel
theorem dd_M_hash_237 : decode cd_M_hash 237 = .ok (.ixor, 1) := by decide +kernel
theorem dd_M_hash_238 : decode cd_M_hash 238 = .ok (.iload 7, 2) := by decide +kernel
theorem dd_M_hash_240 : decode cd_M_hash 240 = .ok (.bipush 25, 2) := by decide +kernel
theorem dd_M_hash_242 : decode cd_M_hash 242 = .ok (.invokestatic 106, 3) := by decide +kernel
theorem dd_M_hash_245 : decode cd_M_hash 245 = .ok (.ixor, 1) := by decide +kernel
theorem dd_M_hash_246 : decode cd_M_hash 246 = .ok (.iadd, 1) := by decide +kernel
theorem dd_M_hash_247 : decode cd_M_hash 247 = .ok (.iload 7, 2) := by decide +kernel
theorem dd_M_hash_249 : decode cd_M_hash 249 = .ok (.iload 8, 2) := by decide +kernel
theorem dd_M_hash_251 : decode cd_M_hash 251 = .ok (.iand, 1) := by decide +kernel
theorem dd_M_hash_252 : decode cd_M_hash 252 = .ok (.iload 7, 2) := by decide +kernel
theorem dd_M_hash_254 : decode cd_M_hash 254 = .ok (.iconst (-1), 1) := by decide +kernel
theorem dd_M_hash_255 : decode cd_M_hash 255 = .ok (.ixor, 1) := by decide +kernel
theorem dd_M_hash_256 : decode cd_M_hash 256 = .ok (.iload 9, 2) := by decide +kernel
theorem dd_M_hash_258 : decode cd_M_hash 258 = .ok (.iand, 1) := by decide +kernel
theorem dd_M_hash_259 : decode cd_M_hash 259 = .ok (.ixor, 1) := by decide +kernel
theorem dd_M_hash_260 : decode cd_M_hash 260 = .ok (.iadd, 1) := by decide +kernel
theorem dd_M_hash_261 : decode cd_M_hash 261 = .ok (.aload_n 0, 1) := by decide +kernel
theorem dd_M_hash_262 : decode cd_M_hash 262 = .ok (.getfield 71, 3) := by decide +kernel
theorem dd_M_hash_265 : decode cd_M_hash 265 = .ok (.iload 12, 2) := by decide +kernel
theorem dd_M_hash_267 : decode cd_M_hash 267 = .ok (.iconst 2, 1) := by decide +kernel
theorem dd_M_hash_268 : decode cd_M_hash 268 = .ok (.idiv, 1) := by decide +kernel
theorem dd_M_hash_269 : decode cd_M_hash 269 = .ok (.laload, 1) := by decide +kernel
theorem dd_M_hash_270 : decode cd_M_hash 270 = .ok (.iload 12, 2) := by decide +kernel
theorem dd_M_hash_272 : decode cd_M_hash 272 = .ok (.iconst 2, 1) := by decide +kernel
theorem dd_M_hash_273 : decode cd_M_hash 273 = .ok (.irem, 1) := by decide +kernel
theorem dd_M_hash_274 : decode cd_M_hash 274 = .ok (.ifCond .ne 8, 3) := by decide +kernel
theorem dd_M_hash_277 : decode cd_M_hash 277 = .ok (.bipush 32, 2) := by decide +kernel
theorem dd_M_hash_279 : decode cd_M_hash 279 = .ok (.goto 4, 3) := by decide +kernel
theorem dd_M_hash_282 : decode cd_M_hash 282 = .ok (.iconst 0, 1) := by decide +kernel
theorem dd_M_hash_283 : decode cd_M_hash 283 = .ok (.lshr, 1) := by decide +kernel
theorem dd_M_hash_284 : decode cd_M_hash 284 = .ok (.l2i, 1) := by decide +kernel
theorem dd_M_hash_285 : decode cd_M_hash 285 = .ok (.iadd, 1) := by decide +kernel
theorem dd_M_hash_286 : decode cd_M_hash 286 = .ok (.aload_n 0, 1) := by decide +kernel
theorem dd_M_hash_287 : decode cd_M_hash 287 = .ok (.getfield 77, 3) := by decide +kernel
theorem dd_M_hash_290 : decode cd_M_hash 290 = .ok (.iload 12, 2) := by decide +kernel
theorem dd_M_hash_292 : decode cd_M_hash 292 = .ok (.iaload, 1) := by decide +kernel
theorem dd_M_hash_293 : decode cd_M_hash 293 = .ok (.iadd, 1) := by decide +kernel
theorem dd_M_hash_294 : decode cd_M_hash 294 = .ok (.istore 13, 2) := by decide +kernel
theorem dd_M_hash_296 : decode cd_M_hash 296 = .ok (.iload 4, 2) := by decide +kernel
theorem dd_M_hash_298 : decode cd_M_hash 298 = .ok (.iconst 2, 1) := by decide +kernel
theorem dd_M_hash_299 : decode cd_M_hash 299 = .ok (.invokestatic 106, 3) := by decide +kernel
theorem dd_M_hash_302 : decode cd_M_hash 302 = .ok (.iload 4, 2) := by decide +kernel
theorem dd_M_hash_304 : decode cd_M_hash 304 = .ok (.bipush 13, 2) := by decide +kernel
theorem dd_M_hash_306 : decode cd_M_hash 306 = .ok (.invokestatic 106, 3) := by decide +kernel
theorem dd_M_hash_309 : decode cd_M_hash 309 = .ok (.ixor, 1) := by decide +kernel
theorem dd_M_hash_310 : decode cd_M_hash 310 = .ok (.iload 4, 2) := by decide +kernel
theorem dd_M_hash_312 : decode cd_M_hash 312 = .ok (.bipush 22, 2) := by decide +kernel
theorem dd_M_hash_314 : decode cd_M_hash 314 = .ok (.invokestatic 106, 3) := by decide +kernel
theorem dd_M_hash_317 : decode cd_M_hash 317 = .ok (.ixor, 1) := by decide +kernel
theorem dd_M_hash_318 : decode cd_M_hash 318 = .ok (.iload 4, 2) := by decide +kernel
theorem dd_M_hash_320 : decode cd_M_hash 320 = .ok (.iload 5, 2) := by decide +kernel
theorem dd_M_hash_322 : decode cd_M_hash 322 = .ok (.iand, 1) := by decide +kernel
theorem dd_M_hash_323 : decode cd_M_hash 323 = .ok (.iload 4, 2) := by decide +kernel
theorem dd_M_hash_325 : decode cd_M_hash 325 = .ok (.iload 11, 2) := by decide +kernel
theorem dd_M_hash_327 : decode cd_M_hash 327 = .ok (.iand, 1) := by decide +kernel
theorem dd_M_hash_328 : decode cd_M_hash 328 = .ok (.ixor, 1) := by decide +kernel
theorem dd_M_hash_329 : decode cd_M_hash 329 = .ok (.iload 5, 2) := by decide +kernel
theorem dd_M_hash_331 : decode cd_M_hash 331 = .ok (.iload 11, 2) := by decide +kernel
theorem dd_M_hash_333 : decode cd_M_hash 333 = .ok (.iand, 1) := by decide +kernel
theorem dd_M_hash_334 : decode cd_M_hash 334 = .ok (.ixor, 1) := by decide +kernel
theorem dd_M_hash_335 : decode cd_M_hash 335 = .ok (.iadd, 1) := by decide +kernel
theorem dd_M_hash_336 : decode cd_M_hash 336 = .ok (.istore 14, 2) := by decide +kernel
theorem dd_M_hash_338 : decode cd_M_hash 338 = .ok (.iload 9, 2) := by decide +kernel
theorem dd_M_hash_340 : decode cd_M_hash 340 = .ok (.istore 10, 2) := by decide +kernel
theorem dd_M_hash_342 : decode cd_M_hash 342 = .ok (.iload 8, 2) := by decide +kernel
theorem dd_M_hash_344 : decode cd_M_hash 344 = .ok (.istore 9, 2) := by decide +kernel
theorem dd_M_hash_346 : decode cd_M_hash 346 = .ok (.iload 7, 2) := by decide +kernel
theorem dd_M_hash_348 : decode cd_M_hash 348 = .ok (.istore 8, 2) := by decide +kernel
theorem dd_M_hash_350 : decode cd_M_hash 350 = .ok (.iload 6, 2) := by decide +kernel
theorem dd_M_hash_352 : decode cd_M_hash 352 = .ok (.iload 13, 2) := by decide +kernel
theorem dd_M_hash_354 : decode cd_M_hash 354 = .ok (.iadd, 1) := by decide +kernel
theorem dd_M_hash_355 : decode cd_M_hash 355 = .ok (.istore 7, 2) := by decide +kernel
theorem dd_M_hash_357 : decode cd_M_hash 357 = .ok (.iload 11, 2) := by decide +kernel
theorem dd_M_hash_359 : decode cd_M_hash 359 = .ok (.istore 6, 2) := by decide +kernel
theorem dd_M_hash_361 : decode cd_M_hash 361 = .ok (.iload 5, 2) := by decide +kernel
theorem dd_M_hash_363 : decode cd_M_hash 363 = .ok (.istore 11, 2) := by decide +kernel
theorem dd_M_hash_365 : decode cd_M_hash 365 = .ok (.iload 4, 2) := by decide +kernel
theorem dd_M_hash_367 : decode cd_M_hash 367 = .ok (.istore 5, 2) := by decide +kernel
theorem dd_M_hash_369 : decode cd_M_hash 369 = .ok (.iload 13, 2) := by decide +kernel
theorem dd_M_hash_371 : decode cd_M_hash 371 = .ok (.iload 14, 2) := by decide +kernel
theorem dd_M_hash_373 : decode cd_M_hash 373 = .ok (.iadd, 1) := by decide +kernel
theorem dd_M_hash_374 : decode cd_M_hash 374 = .ok (.istore 4, 2) := by decide +kernel
theorem dd_M_hash_376 : decode cd_M_hash 376 = .ok (.iinc 12 1, 3) := by decide +kernel
theorem dd_M_hash_379 : decode cd_M_hash 379 = .ok (.goto (-165), 3) := by decide +kernel
theorem dd_M_hash_382 : decode cd_M_hash 382 = .ok (.iload 4, 2) := by decide +kernel
theorem dd_M_hash_384 : decode cd_M_hash 384 = .ok (.ldc 110, 2) := by decide +kernel
theorem dd_M_hash_386 : decode cd_M_hash 386 = .ok (.iadd, 1) := by decide +kernel
theorem dd_M_hash_387 : decode cd_M_hash 387 = .ok (.ireturn, 1) := by decide +kernel
theorem dd_M_isPrime_0 : decode cd_M_isPrime 0 = .ok (.ldc2_w 118, 3) := by decide +kernel
theorem dd_M_isPrime_3 : decode cd_M_isPrime 3 = .ok (.lstore_n 1, 1) := by decide +kernel
theorem dd_M_isPrime_4 : decode cd_M_isPrime 4 = .ok (.lload_n 1, 1) := by decide +kernel
theorem dd_M_isPrime_5 : decode cd_M_isPrime 5 = .ok (.lload_n 1, 1) := by decide +kernel
theorem dd_M_isPrime_6 : decode cd_M_isPrime 6 = .ok (.lmul, 1) := by decide +kernel
theorem dd_M_isPrime_7 : decode cd_M_isPrime 7 = .ok (.iload_n 0, 1) := by decide +kernel
theorem dd_M_isPrime_8 : decode cd_M_isPrime 8 = .ok (.i2l, 1) := by decide +kernel
theorem dd_M_isPrime_9 : decode cd_M_isPrime 9 = .ok (.lcmp, 1) := by decide +kernel
theorem dd_M_isPrime_10 : decode cd_M_isPrime 10 = .ok (.ifCond .gt 23, 3) := by decide +kernel
theorem dd_M_isPrime_13 : decode cd_M_isPrime 13 = .ok (.iload_n 0, 1) := by decide +kernel
theorem dd_M_isPrime_14 : decode cd_M_isPrime 14 = .ok (.i2l, 1) := by decide +kernel
theorem dd_M_isPrime_15 : decode cd_M_isPrime 15 = .ok (.lload_n 1, 1) := by decide +kernel
theorem dd_M_isPrime_16 : decode cd_M_isPrime 16 = .ok (.lrem, 1) := by decide +kernel
theorem dd_M_isPrime_17 : decode cd_M_isPrime 17 = .ok (.lconst 0, 1) := by decide +kernel
theorem dd_M_isPrime_18 : decode cd_M_isPrime 18 = .ok (.lcmp, 1) := by decide +kernel
theorem dd_M_isPrime_19 : decode cd_M_isPrime 19 = .ok (.ifCond .ne 5, 3) := by decide +kernel
theorem dd_M_isPrime_22 : decode cd_M_isPrime 22 = .ok (.iconst 0, 1) := by decide +kernel
theorem dd_M_isPrime_23 : decode cd_M_isPrime 23 = .ok (.ireturn, 1) := by decide +kernel
theorem dd_M_isPrime_24 : decode cd_M_isPrime 24 = .ok (.lload_n 1, 1) := by decide +kernel
theorem dd_M_isPrime_25 : decode cd_M_isPrime 25 = .ok (.ldc2_w 120, 3) := by decide +kernel
theorem dd_M_isPrime_28 : decode cd_M_isPrime 28 = .ok (.ladd, 1) := by decide +kernel
theorem dd_M_isPrime_29 : decode cd_M_isPrime 29 = .ok (.lstore_n 1, 1) := by decide +kernel
theorem dd_M_isPrime_30 : decode cd_M_isPrime 30 = .ok (.goto (-26), 3) := by decide +kernel
theorem dd_M_isPrime_33 : decode cd_M_isPrime 33 = .ok (.iconst 1, 1) := by decide +kernel
theorem dd_M_isPrime_34 : decode cd_M_isPrime 34 = .ok (.ireturn, 1) := by decide +kernel
theorem dd_M_isSerial_0 : decode cd_M_isSerial 0 = .ok (.lload_n 0, 1) := by decide +kernel
theorem dd_M_isSerial_1 : decode cd_M_isSerial 1 = .ok (.lconst 0, 1) := by decide +kernel
theorem dd_M_isSerial_2 : decode cd_M_isSerial 2 = .ok (.lcmp, 1) := by decide +kernel
theorem dd_M_isSerial_3 : decode cd_M_isSerial 3 = .ok (.ifCond .lt 15, 3) := by decide +kernel
theorem dd_M_isSerial_6 : decode cd_M_isSerial 6 = .ok (.lload_n 0, 1) := by decide +kernel
theorem dd_M_isSerial_7 : decode cd_M_isSerial 7 = .ok (.ldc2_w 122, 3) := by decide +kernel
theorem dd_M_isSerial_10 : decode cd_M_isSerial 10 = .ok (.lcmp, 1) := by decide +kernel
theorem dd_M_isSerial_11 : decode cd_M_isSerial 11 = .ok (.ifCond .ge 7, 3) := by decide +kernel
theorem dd_M_isSerial_14 : decode cd_M_isSerial 14 = .ok (.iconst 1, 1) := by decide +kernel
theorem dd_M_isSerial_15 : decode cd_M_isSerial 15 = .ok (.goto 4, 3) := by decide +kernel
theorem dd_M_isSerial_18 : decode cd_M_isSerial 18 = .ok (.iconst 0, 1) := by decide +kernel
theorem dd_M_isSerial_19 : decode cd_M_isSerial 19 = .ok (.ireturn, 1) := by decide +kernel
theorem dd_M_prime_0 : decode cd_M_prime 0 = .ok (.iconst 0, 1) := by decide +kernel
theorem dd_M_prime_1 : decode cd_M_prime 1 = .ok (.istore_n 3, 1) := by decide +kernel
theorem dd_M_prime_2 : decode cd_M_prime 2 = .ok (.iload_n 3, 1) := by decide +kernel
theorem dd_M_prime_3 : decode cd_M_prime 3 = .ok (.sipush 256, 3) := by decide +kernel
theorem dd_M_prime_6 : decode cd_M_prime 6 = .ok (.if_icmp .ge 43, 3) := by decide +kernel
theorem dd_M_prime_9 : decode cd_M_prime 9 = .ok (.lload_n 1, 1) := by decide +kernel
theorem dd_M_prime_10 : decode cd_M_prime 10 = .ok (.invokestatic 124, 3) := by decide +kernel
theorem dd_M_prime_13 : decode cd_M_prime 13 = .ok (.ifCond .eq 36, 3) := by decide +kernel
theorem dd_M_prime_16 : decode cd_M_prime 16 = .ok (.aload_n 0, 1) := by decide +kernel
theorem dd_M_prime_17 : decode cd_M_prime 17 = .ok (.lload_n 1, 1) := by decide +kernel
theorem dd_M_prime_18 : decode cd_M_prime 18 = .ok (.iload_n 3, 1) := by decide +kernel
theorem dd_M_prime_19 : decode cd_M_prime 19 = .ok (.invokevirtual 128, 3) := by decide +kernel
theorem dd_M_prime_22 : decode cd_M_prime 22 = .ok (.ldc 132, 2) := by decide +kernel
theorem dd_M_prime_24 : decode cd_M_prime 24 = .ok (.iand, 1) := by decide +kernel
theorem dd_M_prime_25 : decode cd_M_prime 25 = .ok (.ldc 133, 2) := by decide +kernel
theorem dd_M_prime_27 : decode cd_M_prime 27 = .ok (.ior, 1) := by decide +kernel
theorem dd_M_prime_28 : decode cd_M_prime 28 = .ok (.iconst 1, 1) := by decide +kernel
theorem dd_M_prime_29 : decode cd_M_prime 29 = .ok (.ior, 1) := by decide +kernel
theorem dd_M_prime_30 : decode cd_M_prime 30 = .ok (.istore 4, 2) := by decide +kernel
theorem dd_M_prime_32 : decode cd_M_prime 32 = .ok (.iload 4, 2) := by decide +kernel
theorem dd_M_prime_34 : decode cd_M_prime 34 = .ok (.invokestatic 134, 3) := by decide +kernel
theorem dd_M_prime_37 : decode cd_M_prime 37 = .ok (.ifCond .eq 6, 3) := by decide +kernel
theorem dd_M_prime_40 : decode cd_M_prime 40 = .ok (.iload 4, 2) := by decide +kernel
theorem dd_M_prime_42 : decode cd_M_prime 42 = .ok (.ireturn, 1) := by decide +kernel
theorem dd_M_prime_43 : decode cd_M_prime 43 = .ok (.iinc 3 1, 3) := by decide +kernel
theorem dd_M_prime_46 : decode cd_M_prime 46 = .ok (.goto (-44), 3) := by decide +kernel
theorem dd_M_prime_49 : decode cd_M_prime 49 = .ok (.bipush (-2), 2) := by decide +kernel
theorem dd_M_prime_51 : decode cd_M_prime 51 = .ok (.ireturn, 1) := by decide +kernel
theorem dd_M_isLess_0 : decode cd_M_isLess 0 = .ok (.lload_n 0, 1) := by decide +kernel
theorem dd_M_isLess_1 : decode cd_M_isLess 1 = .ok (.ldc2_w 138, 3) := by decide +kernel
theorem dd_M_isLess_4 : decode cd_M_isLess 4 = .ok (.ladd, 1) := by decide +kernel
theorem dd_M_isLess_5 : decode cd_M_isLess 5 = .ok (.lload_n 2, 1) := by decide +kernel
theorem dd_M_isLess_6 : decode cd_M_isLess 6 = .ok (.ldc2_w 138, 3) := by decide +kernel
theorem dd_M_isLess_9 : decode cd_M_isLess 9 = .ok (.ladd, 1) := by decide +kernel
theorem dd_M_isLess_10 : decode cd_M_isLess 10 = .ok (.lcmp, 1) := by decide +kernel
theorem dd_M_isLess_11 : decode cd_M_isLess 11 = .ok (.ifCond .ge 7, 3) := by decide +kernel
theorem dd_M_isLess_14 : decode cd_M_isLess 14 = .ok (.iconst 1, 1) := by decide +kernel
theorem dd_M_isLess_15 : decode cd_M_isLess 15 = .ok (.goto 4, 3) := by decide +kernel
theorem dd_M_isLess_18 : decode cd_M_isLess 18 = .ok (.iconst 0, 1) := by decide +kernel
theorem dd_M_isLess_19 : decode cd_M_isLess 19 = .ok (.ireturn, 1) := by decide +kernel
theorem dd_M_isBelowN_0 : decode cd_M_isBelowN 0 = .ok (.lload_n 1, 1) := by decide +kernel
theorem dd_M_isBelowN_1 : decode cd_M_isBelowN 1 = .ok (.aload_n 0, 1) := by decide +kernel
theorem dd_M_isBelowN_2 : decode cd_M_isBelowN 2 = .ok (.getfield 140, 3) := by decide +kernel
theorem dd_M_isBelowN_5 : decode cd_M_isBelowN 5 = .ok (.invokestatic 144, 3) := by decide +kernel
theorem dd_M_isBelowN_8 : decode cd_M_isBelowN 8 = .ok (.ifCond .ne 23, 3) := by decide +kernel
theorem dd_M_isBelowN_11 : decode cd_M_isBelowN 11 = .ok (.lload_n 1, 1) := by decide +kernel
theorem dd_M_isBelowN_12 : decode cd_M_isBelowN 12 = .ok (.aload_n 0, 1) := by decide +kernel
theorem dd_M_isBelowN_13 : decode cd_M_isBelowN 13 = .ok (.getfield 140, 3) := by decide +kernel
theorem dd_M_isBelowN_16 : decode cd_M_isBelowN 16 = .ok (.lcmp, 1) := by decide +kernel
theorem dd_M_isBelowN_17 : decode cd_M_isBelowN 17 = .ok (.ifCond .ne 18, 3) := by decide +kernel
theorem dd_M_isBelowN_20 : decode cd_M_isBelowN 20 = .ok (.lload_n 3, 1) := by decide +kernel
theorem dd_M_isBelowN_21 : decode cd_M_isBelowN 21 = .ok (.aload_n 0, 1) := by decide +kernel
theorem dd_M_isBelowN_22 : decode cd_M_isBelowN 22 = .ok (.getfield 148, 3) := by decide +kernel
theorem dd_M_isBelowN_25 : decode cd_M_isBelowN 25 = .ok (.invokestatic 144, 3) := by decide +kernel
theorem dd_M_isBelowN_28 : decode cd_M_isBelowN 28 = .ok (.ifCond .eq 7, 3) := by decide +kernel
theorem dd_M_isBelowN_31 : decode cd_M_isBelowN 31 = .ok (.iconst 1, 1) := by decide +kernel
theorem dd_M_isBelowN_32 : decode cd_M_isBelowN 32 = .ok (.goto 4, 3) := by decide +kernel
theorem dd_M_isBelowN_35 : decode cd_M_isBelowN 35 = .ok (.iconst 0, 1) := by decide +kernel
theorem dd_M_isBelowN_36 : decode cd_M_isBelowN 36 = .ok (.ireturn, 1) := by decide +kernel
theorem dd_M_plus_0 : decode cd_M_plus 0 = .ok (.aload_n 0, 1) := by decide +kernel
theorem dd_M_plus_1 : decode cd_M_plus 1 = .ok (.lload_n 3, 1) := by decide +kernel
theorem dd_M_plus_2 : decode cd_M_plus 2 = .ok (.lload 7, 2) := by decide +kernel
theorem dd_M_plus_4 : decode cd_M_plus 4 = .ok (.ladd, 1) := by decide +kernel
theorem dd_M_plus_5 : decode cd_M_plus 5 = .ok (.putfield 151, 3) := by decide +kernel
theorem dd_M_plus_8 : decode cd_M_plus 8 = .ok (.aload_n 0, 1) := by decide +kernel
theorem dd_M_plus_9 : decode cd_M_plus 9 = .ok (.getfield 151, 3) := by decide +kernel
theorem dd_M_plus_12 : decode cd_M_plus 12 = .ok (.lload_n 3, 1) := by decide +kernel
theorem dd_M_plus_13 : decode cd_M_plus 13 = .ok (.invokestatic 144, 3) := by decide +kernel
theorem dd_M_plus_16 : decode cd_M_plus 16 = .ok (.ifCond .eq 7, 3) := by decide +kernel
theorem dd_M_plus_19 : decode cd_M_plus 19 = .ok (.lconst 1, 1) := by decide +kernel
theorem dd_M_plus_20 : decode cd_M_plus 20 = .ok (.goto 4, 3) := by decide +kernel
theorem dd_M_plus_23 : decode cd_M_plus 23 = .ok (.lconst 0, 1) := by decide +kernel
theorem dd_M_plus_24 : decode cd_M_plus 24 = .ok (.lstore 9, 2) := by decide +kernel
theorem dd_M_plus_26 : decode cd_M_plus 26 = .ok (.aload_n 0, 1) := by decide +kernel
theorem dd_M_plus_27 : decode cd_M_plus 27 = .ok (.lload_n 1, 1) := by decide +kernel
theorem dd_M_plus_28 : decode cd_M_plus 28 = .ok (.lload 5, 2) := by decide +kernel
theorem dd_M_plus_30 : decode cd_M_plus 30 = .ok (.ladd, 1) := by decide +kernel
theorem dd_M_plus_31 : decode cd_M_plus 31 = .ok (.putfield 154, 3) := by decide +kernel
theorem dd_M_plus_34 : decode cd_M_plus 34 = .ok (.aload_n 0, 1) := by decide +kernel
theorem dd_M_plus_35 : decode cd_M_plus 35 = .ok (.getfield 154, 3) := by decide +kernel
theorem dd_M_plus_38 : decode cd_M_plus 38 = .ok (.lload_n 1, 1) := by decide +kernel
theorem dd_M_plus_39 : decode cd_M_plus 39 = .ok (.invokestatic 144, 3) := by decide +kernel
theorem dd_M_plus_42 : decode cd_M_plus 42 = .ok (.istore 11, 2) := by decide +kernel
theorem dd_M_plus_44 : decode cd_M_plus 44 = .ok (.aload_n 0, 1) := by decide +kernel
theorem dd_M_plus_45 : decode cd_M_plus 45 = .ok (.aload_n 0, 1) := by decide +kernel
theorem dd_M_plus_46 : decode cd_M_plus 46 = .ok (.getfield 154, 3) := by decide +kernel
theorem dd_M_plus_49 : decode cd_M_plus 49 = .ok (.lload 9, 2) := by decide +kernel
theorem dd_M_plus_51 : decode cd_M_plus 51 = .ok (.ladd, 1) := by decide +kernel
theorem dd_M_plus_52 : decode cd_M_plus 52 = .ok (.putfield 154, 3) := by decide +kernel
theorem dd_M_plus_55 : decode cd_M_plus 55 = .ok (.iload 11, 2) := by decide +kernel
theorem dd_M_plus_57 : decode cd_M_plus 57 = .ok (.ifCond .ne 19, 3) := by decide +kernel
theorem dd_M_plus_60 : decode cd_M_plus 60 = .ok (.lload 9, 2) := by decide +kernel
theorem dd_M_plus_62 : decode cd_M_plus 62 = .ok (.lconst 1, 1) := by decide +kernel
theorem dd_M_plus_63 : decode cd_M_plus 63 = .ok (.lcmp, 1) := by decide +kernel
theorem dd_M_plus_64 : decode cd_M_plus 64 = .ok (.ifCond .ne 16, 3) := by decide +kernel
theorem dd_M_plus_67 : decode cd_M_plus 67 = .ok (.aload_n 0, 1) := by decide +kernel
theorem dd_M_plus_68 : decode cd_M_plus 68 = .ok (.getfield 154, 3) := by decide +kernel
theorem dd_M_plus_71 : decode cd_M_plus 71 = .ok (.lconst 0, 1) := by decide +kernel
theorem dd_M_plus_72 : decode cd_M_plus 72 = .ok (.lcmp, 1) := by decide +kernel
theorem dd_M_plus_73 : decode cd_M_plus 73 = .ok (.ifCond .ne 7, 3) := by decide +kernel
theorem dd_M_plus_76 : decode cd_M_plus 76 = .ok (.iconst 1, 1) := by decide +kernel
theorem dd_M_plus_77 : decode cd_M_plus 77 = .ok (.goto 4, 3) := by decide +kernel
theorem dd_M_plus_80 : decode cd_M_plus 80 = .ok (.iconst 0, 1) := by decide +kernel
theorem dd_M_plus_81 : decode cd_M_plus 81 = .ok (.istore 11, 2) := by decide +kernel
theorem dd_M_plus_83 : decode cd_M_plus 83 = .ok (.iload 11, 2) := by decide +kernel
theorem dd_M_plus_85 : decode cd_M_plus 85 = .ok (.ifCond .ne 18, 3) := by decide +kernel
theorem dd_M_plus_88 : decode cd_M_plus 88 = .ok (.aload_n 0, 1) := by decide +kernel
theorem dd_M_plus_89 : decode cd_M_plus 89 = .ok (.aload_n 0, 1) := by decide +kernel
theorem dd_M_plus_90 : decode cd_M_plus 90 = .ok (.getfield 154, 3) := by decide +kernel
theorem dd_M_plus_93 : decode cd_M_plus 93 = .ok (.aload_n 0, 1) := by decide +kernel
theorem dd_M_plus_94 : decode cd_M_plus 94 = .ok (.getfield 151, 3) := by decide +kernel
theorem dd_M_plus_97 : decode cd_M_plus 97 = .ok (.invokevirtual 157, 3) := by decide +kernel
theorem dd_M_plus_100 : decode cd_M_plus 100 = .ok (.ifCond .ne 53, 3) := by decide +kernel
theorem dd_M_plus_103 : decode cd_M_plus 103 = .ok (.aload_n 0, 1) := by decide +kernel
theorem dd_M_plus_104 : decode cd_M_plus 104 = .ok (.getfield 151, 3) := by decide +kernel
theorem dd_M_plus_107 : decode cd_M_plus 107 = .ok (.aload_n 0, 1) := by decide +kernel
theorem dd_M_plus_108 : decode cd_M_plus 108 = .ok (.getfield 148, 3) := by decide +kernel
theorem dd_M_plus_111 : decode cd_M_plus 111 = .ok (.invokestatic 144, 3) := by decide +kernel
theorem dd_M_plus_114 : decode cd_M_plus 114 = .ok (.ifCond .eq 7, 3) := by decide +kernel
theorem dd_M_plus_117 : decode cd_M_plus 117 = .ok (.lconst 1, 1) := by decide +kernel
theorem dd_M_plus_118 : decode cd_M_plus 118 = .ok (.goto 4, 3) := by decide +kernel
theorem dd_M_plus_121 : decode cd_M_plus 121 = .ok (.lconst 0, 1) := by decide +kernel
theorem dd_M_plus_122 : decode cd_M_plus 122 = .ok (.lstore 12, 2) := by decide +kernel
theorem dd_M_plus_124 : decode cd_M_plus 124 = .ok (.aload_n 0, 1) := by decide +kernel
theorem dd_M_plus_125 : decode cd_M_plus 125 = .ok (.aload_n 0, 1) := by decide +kernel
theorem dd_M_plus_126 : decode cd_M_plus 126 = .ok (.getfield 151, 3) := by decide +kernel
theorem dd_M_plus_129 : decode cd_M_plus 129 = .ok (.aload_n 0, 1) := by decide +kernel
theorem dd_M_plus_130 : decode cd_M_plus 130 = .ok (.getfield 148, 3) := by decide +kernel
theorem dd_M_plus_133 : decode cd_M_plus 133 = .ok (.lsub, 1) := by decide +kernel
theorem dd_M_plus_134 : decode cd_M_plus 134 = .ok (.putfield 151, 3) := by decide +kernel
theorem dd_M_plus_137 : decode cd_M_plus 137 = .ok (.aload_n 0, 1) := by decide +kernel
theorem dd_M_plus_138 : decode cd_M_plus 138 = .ok (.aload_n 0, 1) := by decide +kernel
theorem dd_M_plus_139 : decode cd_M_plus 139 = .ok (.getfield 154, 3) := by decide +kernel
theorem dd_M_plus_142 : decode cd_M_plus 142 = .ok (.aload_n 0, 1) := by decide +kernel
theorem dd_M_plus_143 : decode cd_M_plus 143 = .ok (.getfield 140, 3) := by decide +kernel
theorem dd_M_plus_146 : decode cd_M_plus 146 = .ok (.lsub, 1) := by decide +kernel
theorem dd_M_plus_147 : decode cd_M_plus 147 = .ok (.lload 12, 2) := by decide +kernel
theorem dd_M_plus_149 : decode cd_M_plus 149 = .ok (.lsub, 1) := by decide +kernel
theorem dd_M_plus_150 : decode cd_M_plus 150 = .ok (.putfield 154, 3) := by decide +kernel
theorem dd_M_plus_153 : decode cd_M_plus 153 = .ok (.return_, 1) := by decide +kernel
theorem dd_M_multiply_0 : decode cd_M_multiply 0 = .ok (.lconst 0, 1) := by decide +kernel
theorem dd_M_multiply_1 : decode cd_M_multiply 1 = .ok (.lstore 9, 2) := by decide +kernel
theorem dd_M_multiply_3 : decode cd_M_multiply 3 = .ok (.lconst 0, 1) := by decide +kernel
theorem dd_M_multiply_4 : decode cd_M_multiply 4 = .ok (.lstore 11, 2) := by decide +kernel
theorem dd_M_multiply_6 : decode cd_M_multiply 6 = .ok (.bipush 127, 2) := by decide +kernel
theorem dd_M_multiply_8 : decode cd_M_multiply 8 = .ok (.istore 13, 2) := by decide +kernel
theorem dd_M_multiply_10 : decode cd_M_multiply 10 = .ok (.iload 13, 2) := by decide +kernel
theorem dd_M_multiply_12 : decode cd_M_multiply 12 = .ok (.ifCond .lt 85, 3) := by decide +kernel
theorem dd_M_multiply_15 : decode cd_M_multiply 15 = .ok (.aload_n 0, 1) := by decide +kernel
theorem dd_M_multiply_16 : decode cd_M_multiply 16 = .ok (.lload 9, 2) := by decide +kernel
theorem dd_M_multiply_18 : decode cd_M_multiply 18 = .ok (.lload 11, 2) := by decide +kernel
theorem dd_M_multiply_20 : decode cd_M_multiply 20 = .ok (.lload 9, 2) := by decide +kernel
theorem dd_M_multiply_22 : decode cd_M_multiply 22 = .ok (.lload 11, 2) := by decide +kernel
theorem dd_M_multiply_24 : decode cd_M_multiply 24 = .ok (.invokevirtual 160, 3) := by decide +kernel
theorem dd_M_multiply_27 : decode cd_M_multiply 27 = .ok (.aload_n 0, 1) := by decide +kernel
theorem dd_M_multiply_28 : decode cd_M_multiply 28 = .ok (.getfield 154, 3) := by decide +kernel
theorem dd_M_multiply_31 : decode cd_M_multiply 31 = .ok (.lstore 9, 2) := by decide +kernel
theorem dd_M_multiply_33 : decode cd_M_multiply 33 = .ok (.aload_n 0, 1) := by decide +kernel
theorem dd_M_multiply_34 : decode cd_M_multiply 34 = .ok (.getfield 151, 3) := by decide +kernel
theorem dd_M_multiply_37 : decode cd_M_multiply 37 = .ok (.lstore 11, 2) := by decide +kernel
theorem dd_M_multiply_39 : decode cd_M_multiply 39 = .ok (.iload 13, 2) := by decide +kernel
theorem dd_M_multiply_41 : decode cd_M_multiply 41 = .ok (.bipush 64, 2) := by decide +kernel
theorem dd_M_multiply_43 : decode cd_M_multiply 43 = .ok (.if_icmp .ge 11, 3) := by decide +kernel
theorem dd_M_multiply_46 : decode cd_M_multiply 46 = .ok (.lload 7, 2) := by decide +kernel
theorem dd_M_multiply_48 : decode cd_M_multiply 48 = .ok (.iload 13, 2) := by decide +kernel
theorem dd_M_multiply_50 : decode cd_M_multiply 50 = .ok (.lshr, 1) := by decide +kernel
theorem dd_M_multiply_51 : decode cd_M_multiply 51 = .ok (.goto 11, 3) := by decide +kernel
theorem dd_M_multiply_54 : decode cd_M_multiply 54 = .ok (.lload 5, 2) := by decide +kernel
theorem dd_M_multiply_56 : decode cd_M_multiply 56 = .ok (.iload 13, 2) := by decide +kernel
theorem dd_M_multiply_58 : decode cd_M_multiply 58 = .ok (.bipush 64, 2) := by decide +kernel
theorem dd_M_multiply_60 : decode cd_M_multiply 60 = .ok (.isub, 1) := by decide +kernel
theorem dd_M_multiply_61 : decode cd_M_multiply 61 = .ok (.lshr, 1) := by decide +kernel
theorem dd_M_multiply_62 : decode cd_M_multiply 62 = .ok (.lconst 1, 1) := by decide +kernel
theorem dd_M_multiply_63 : decode cd_M_multiply 63 = .ok (.land, 1) := by decide +kernel
theorem dd_M_multiply_64 : decode cd_M_multiply 64 = .ok (.lconst 1, 1) := by decide +kernel
theorem dd_M_multiply_65 : decode cd_M_multiply 65 = .ok (.lcmp, 1) := by decide +kernel
theorem dd_M_multiply_66 : decode cd_M_multiply 66 = .ok (.ifCond .ne 25, 3) := by decide +kernel
theorem dd_M_multiply_69 : decode cd_M_multiply 69 = .ok (.aload_n 0, 1) := by decide +kernel
theorem dd_M_multiply_70 : decode cd_M_multiply 70 = .ok (.lload 9, 2) := by decide +kernel
theorem dd_M_multiply_72 : decode cd_M_multiply 72 = .ok (.lload 11, 2) := by decide +kernel
theorem dd_M_multiply_74 : decode cd_M_multiply 74 = .ok (.lload_n 1, 1) := by decide +kernel
theorem dd_M_multiply_75 : decode cd_M_multiply 75 = .ok (.lload_n 3, 1) := by decide +kernel
theorem dd_M_multiply_76 : decode cd_M_multiply 76 = .ok (.invokevirtual 160, 3) := by decide +kernel
theorem dd_M_multiply_79 : decode cd_M_multiply 79 = .ok (.aload_n 0, 1) := by decide +kernel
theorem dd_M_multiply_80 : decode cd_M_multiply 80 = .ok (.getfield 154, 3) := by decide +kernel
theorem dd_M_multiply_83 : decode cd_M_multiply 83 = .ok (.lstore 9, 2) := by decide +kernel
theorem dd_M_multiply_85 : decode cd_M_multiply 85 = .ok (.aload_n 0, 1) := by decide +kernel
theorem dd_M_multiply_86 : decode cd_M_multiply 86 = .ok (.getfield 151, 3) := by decide +kernel
theorem dd_M_multiply_89 : decode cd_M_multiply 89 = .ok (.lstore 11, 2) := by decide +kernel
theorem dd_M_multiply_91 : decode cd_M_multiply 91 = .ok (.iinc 13 (-1), 3) := by decide +kernel
theorem dd_M_multiply_94 : decode cd_M_multiply 94 = .ok (.goto (-84), 3) := by decide +kernel
theorem dd_M_multiply_97 : decode cd_M_multiply 97 = .ok (.aload_n 0, 1) := by decide +kernel
theorem dd_M_multiply_98 : decode cd_M_multiply 98 = .ok (.lload 9, 2) := by decide +kernel
theorem dd_M_multiply_100 : decode cd_M_multiply 100 = .ok (.putfield 154, 3) := by decide +kernel
theorem dd_M_multiply_103 : decode cd_M_multiply 103 = .ok (.aload_n 0, 1) := by decide +kernel
theorem dd_M_multiply_104 : decode cd_M_multiply 104 = .ok (.lload 11, 2) := by decide +kernel
theorem dd_M_multiply_106 : decode cd_M_multiply 106 = .ok (.putfield 151, 3) := by decide +kernel
theorem dd_M_multiply_109 : decode cd_M_multiply 109 = .ok (.return_, 1) := by decide +kernel
theorem dd_M_power_0 : decode cd_M_power 0 = .ok (.lconst 0, 1) := by decide +kernel
theorem dd_M_power_1 : decode cd_M_power 1 = .ok (.lstore 6, 2) := by decide +kernel
theorem dd_M_power_3 : decode cd_M_power 3 = .ok (.lconst 1, 1) := by decide +kernel
theorem dd_M_power_4 : decode cd_M_power 4 = .ok (.lstore 8, 2) := by decide +kernel
theorem dd_M_power_6 : decode cd_M_power 6 = .ok (.bipush 30, 2) := by decide +kernel
theorem dd_M_power_8 : decode cd_M_power 8 = .ok (.istore 10, 2) := by decide +kernel
theorem dd_M_power_10 : decode cd_M_power 10 = .ok (.iload 10, 2) := by decide +kernel
theorem dd_M_power_12 : decode cd_M_power 12 = .ok (.ifCond .lt 66, 3) := by decide +kernel
theorem dd_M_power_15 : decode cd_M_power 15 = .ok (.aload_n 0, 1) := by decide +kernel
theorem dd_M_power_16 : decode cd_M_power 16 = .ok (.lload 6, 2) := by decide +kernel
theorem dd_M_power_18 : decode cd_M_power 18 = .ok (.lload 8, 2) := by decide +kernel
theorem dd_M_power_20 : decode cd_M_power 20 = .ok (.lload 6, 2) := by decide +kernel
theorem dd_M_power_22 : decode cd_M_power 22 = .ok (.lload 8, 2) := by decide +kernel
theorem dd_M_power_24 : decode cd_M_power 24 = .ok (.invokevirtual 164, 3) := by decide +kernel
theorem dd_M_power_27 : decode cd_M_power 27 = .ok (.aload_n 0, 1) := by decide +kernel
theorem dd_M_power_28 : decode cd_M_power 28 = .ok (.getfield 154, 3) := by decide +kernel
theorem dd_M_power_31 : decode cd_M_power 31 = .ok (.lstore 6, 2) := by decide +kernel
theorem dd_M_power_33 : decode cd_M_power 33 = .ok (.aload_n 0, 1) := by decide +kernel
theorem dd_M_power_34 : decode cd_M_power 34 = .ok (.getfield 151, 3) := by decide +kernel
theorem dd_M_power_37 : decode cd_M_power 37 = .ok (.lstore 8, 2) := by decide +kernel
theorem dd_M_power_39 : decode cd_M_power 39 = .ok (.iload 5, 2) := by decide +kernel
theorem dd_M_power_41 : decode cd_M_power 41 = .ok (.iload 10, 2) := by decide +kernel
theorem dd_M_power_43 : decode cd_M_power 43 = .ok (.ishr, 1) := by decide +kernel
theorem dd_M_power_44 : decode cd_M_power 44 = .ok (.iconst 1, 1) := by decide +kernel
theorem dd_M_power_45 : decode cd_M_power 45 = .ok (.iand, 1) := by decide +kernel
theorem dd_M_power_46 : decode cd_M_power 46 = .ok (.iconst 1, 1) := by decide +kernel
theorem dd_M_power_47 : decode cd_M_power 47 = .ok (.if_icmp .ne 25, 3) := by decide +kernel
theorem dd_M_power_50 : decode cd_M_power 50 = .ok (.aload_n 0, 1) := by decide +kernel
theorem dd_M_power_51 : decode cd_M_power 51 = .ok (.lload 6, 2) := by decide +kernel
theorem dd_M_power_53 : decode cd_M_power 53 = .ok (.lload 8, 2) := by decide +kernel
theorem dd_M_power_55 : decode cd_M_power 55 = .ok (.lload_n 1, 1) := by decide +kernel
theorem dd_M_power_56 : decode cd_M_power 56 = .ok (.lload_n 3, 1) := by decide +kernel
theorem dd_M_power_57 : decode cd_M_power 57 = .ok (.invokevirtual 164, 3) := by decide +kernel
theorem dd_M_power_60 : decode cd_M_power 60 = .ok (.aload_n 0, 1) := by decide +kernel
theorem dd_M_power_61 : decode cd_M_power 61 = .ok (.getfield 154, 3) := by decide +kernel
theorem dd_M_power_64 : decode cd_M_power 64 = .ok (.lstore 6, 2) := by decide +kernel
theorem dd_M_power_66 : decode cd_M_power 66 = .ok (.aload_n 0, 1) := by decide +kernel
theorem dd_M_power_67 : decode cd_M_power 67 = .ok (.getfield 151, 3) := by decide +kernel
theorem dd_M_power_70 : decode cd_M_power 70 = .ok (.lstore 8, 2) := by decide +kernel
theorem dd_M_power_72 : decode cd_M_power 72 = .ok (.iinc 10 (-1), 3) := by decide +kernel
theorem dd_M_power_75 : decode cd_M_power 75 = .ok (.goto (-65), 3) := by decide +kernel
theorem dd_M_power_78 : decode cd_M_power 78 = .ok (.aload_n 0, 1) := by decide +kernel
theorem dd_M_power_79 : decode cd_M_power 79 = .ok (.lload 6, 2) := by decide +kernel
theorem dd_M_power_81 : decode cd_M_power 81 = .ok (.putfield 154, 3) := by decide +kernel
theorem dd_M_power_84 : decode cd_M_power 84 = .ok (.aload_n 0, 1) := by decide +kernel
theorem dd_M_power_85 : decode cd_M_power 85 = .ok (.lload 8, 2) := by decide +kernel
theorem dd_M_power_87 : decode cd_M_power 87 = .ok (.putfield 151, 3) := by decide +kernel
theorem dd_M_power_90 : decode cd_M_power 90 = .ok (.return_, 1) := by decide +kernel
theorem dd_M_powerOfWords_0 : decode cd_M_powerOfWords 0 = .ok (.lconst 0, 1) := by decide +kernel
theorem dd_M_powerOfWords_1 : decode cd_M_powerOfWords 1 = .ok (.lstore 5, 2) := by decide +kernel
theorem dd_M_powerOfWords_3 : decode cd_M_powerOfWords 3 = .ok (.lconst 1, 1) := by decide +kernel
theorem dd_M_powerOfWords_4 : decode cd_M_powerOfWords 4 = .ok (.lstore 7, 2) := by decide +kernel
theorem dd_M_powerOfWords_6 : decode cd_M_powerOfWords 6 = .ok (.iconst 0, 1) := by decide +kernel
theorem dd_M_powerOfWords_7 : decode cd_M_powerOfWords 7 = .ok (.istore 9, 2) := by decide +kernel
theorem dd_M_powerOfWords_9 : decode cd_M_powerOfWords 9 = .ok (.sipush 511, 3) := by decide +kernel
theorem dd_M_powerOfWords_12 : decode cd_M_powerOfWords 12 = .ok (.istore 10, 2) := by decide +kernel
theorem dd_M_powerOfWords_14 : decode cd_M_powerOfWords 14 = .ok (.iload 10, 2) := by decide +kernel
theorem dd_M_powerOfWords_16 : decode cd_M_powerOfWords 16 = .ok (.ifCond .lt 85, 3) := by decide +kernel
theorem dd_M_powerOfWords_19 : decode cd_M_powerOfWords 19 = .ok (.iload 9, 2) := by decide +kernel
theorem dd_M_powerOfWords_21 : decode cd_M_powerOfWords 21 = .ok (.ifCond .eq 27, 3) := by decide +kernel
theorem dd_M_powerOfWords_24 : decode cd_M_powerOfWords 24 = .ok (.aload_n 0, 1) := by decide +kernel
theorem dd_M_powerOfWords_25 : decode cd_M_powerOfWords 25 = .ok (.lload 5, 2) := by decide +kernel
theorem dd_M_powerOfWords_27 : decode cd_M_powerOfWords 27 = .ok (.lload 7, 2) := by decide +kernel
theorem dd_M_powerOfWords_29 : decode cd_M_powerOfWords 29 = .ok (.lload 5, 2) := by decide +kernel
theorem dd_M_powerOfWords_31 : decode cd_M_powerOfWords 31 = .ok (.lload 7, 2) := by decide +kernel
theorem dd_M_powerOfWords_33 : decode cd_M_powerOfWords 33 = .ok (.invokevirtual 164, 3) := by decide +kernel
theorem dd_M_powerOfWords_36 : decode cd_M_powerOfWords 36 = .ok (.aload_n 0, 1) := by decide +kernel
theorem dd_M_powerOfWords_37 : decode cd_M_powerOfWords 37 = .ok (.getfield 154, 3) := by decide +kernel
theorem dd_M_powerOfWords_40 : decode cd_M_powerOfWords 40 = .ok (.lstore 5, 2) := by decide +kernel
theorem dd_M_powerOfWords_42 : decode cd_M_powerOfWords 42 = .ok (.aload_n 0, 1) := by decide +kernel
theorem dd_M_powerOfWords_43 : decode cd_M_powerOfWords 43 = .ok (.getfield 151, 3) := by decide +kernel
theorem dd_M_powerOfWords_46 : decode cd_M_powerOfWords 46 = .ok (.lstore 7, 2) := by decide +kernel
theorem dd_M_powerOfWords_48 : decode cd_M_powerOfWords 48 = .ok (.aload_n 0, 1) := by decide +kernel
theorem dd_M_powerOfWords_49 : decode cd_M_powerOfWords 49 = .ok (.getfield 102, 3) := by decide +kernel
theorem dd_M_powerOfWords_52 : decode cd_M_powerOfWords 52 = .ok (.iload 10, 2) := by decide +kernel
theorem dd_M_powerOfWords_54 : decode cd_M_powerOfWords 54 = .ok (.bipush 16, 2) := by decide +kernel
theorem dd_M_powerOfWords_56 : decode cd_M_powerOfWords 56 = .ok (.idiv, 1) := by decide +kernel
theorem dd_M_powerOfWords_57 : decode cd_M_powerOfWords 57 = .ok (.iaload, 1) := by decide +kernel
theorem dd_M_powerOfWords_58 : decode cd_M_powerOfWords 58 = .ok (.iload 10, 2) := by decide +kernel
theorem dd_M_powerOfWords_60 : decode cd_M_powerOfWords 60 = .ok (.bipush 16, 2) := by decide +kernel
theorem dd_M_powerOfWords_62 : decode cd_M_powerOfWords 62 = .ok (.irem, 1) := by decide +kernel
theorem dd_M_powerOfWords_63 : decode cd_M_powerOfWords 63 = .ok (.ishr, 1) := by decide +kernel
theorem dd_M_powerOfWords_64 : decode cd_M_powerOfWords 64 = .ok (.iconst 1, 1) := by decide +kernel
theorem dd_M_powerOfWords_65 : decode cd_M_powerOfWords 65 = .ok (.iand, 1) := by decide +kernel
theorem dd_M_powerOfWords_66 : decode cd_M_powerOfWords 66 = .ok (.iconst 1, 1) := by decide +kernel
theorem dd_M_powerOfWords_67 : decode cd_M_powerOfWords 67 = .ok (.if_icmp .ne 28, 3) := by decide +kernel
theorem dd_M_powerOfWords_70 : decode cd_M_powerOfWords 70 = .ok (.aload_n 0, 1) := by decide +kernel
theorem dd_M_powerOfWords_71 : decode cd_M_powerOfWords 71 = .ok (.lload 5, 2) := by decide +kernel
theorem dd_M_powerOfWords_73 : decode cd_M_powerOfWords 73 = .ok (.lload 7, 2) := by decide +kernel
theorem dd_M_powerOfWords_75 : decode cd_M_powerOfWords 75 = .ok (.lload_n 1, 1) := by decide +kernel
theorem dd_M_powerOfWords_76 : decode cd_M_powerOfWords 76 = .ok (.lload_n 3, 1) := by decide +kernel
theorem dd_M_powerOfWords_77 : decode cd_M_powerOfWords 77 = .ok (.invokevirtual 164, 3) := by decide +kernel
theorem dd_M_powerOfWords_80 : decode cd_M_powerOfWords 80 = .ok (.aload_n 0, 1) := by decide +kernel
theorem dd_M_powerOfWords_81 : decode cd_M_powerOfWords 81 = .ok (.getfield 154, 3) := by decide +kernel
theorem dd_M_powerOfWords_84 : decode cd_M_powerOfWords 84 = .ok (.lstore 5, 2) := by decide +kernel
theorem dd_M_powerOfWords_86 : decode cd_M_powerOfWords 86 = .ok (.aload_n 0, 1) := by decide +kernel
theorem dd_M_powerOfWords_87 : decode cd_M_powerOfWords 87 = .ok (.getfield 151, 3) := by decide +kernel
theorem dd_M_powerOfWords_90 : decode cd_M_powerOfWords 90 = .ok (.lstore 7, 2) := by decide +kernel
theorem dd_M_powerOfWords_92 : decode cd_M_powerOfWords 92 = .ok (.iconst 1, 1) := by decide +kernel
theorem dd_M_powerOfWords_93 : decode cd_M_powerOfWords 93 = .ok (.istore 9, 2) := by decide +kernel
theorem dd_M_powerOfWords_95 : decode cd_M_powerOfWords 95 = .ok (.iinc 10 (-1), 3) := by decide +kernel
theorem dd_M_powerOfWords_98 : decode cd_M_powerOfWords 98 = .ok (.goto (-84), 3) := by decide +kernel
theorem dd_M_powerOfWords_101 : decode cd_M_powerOfWords 101 = .ok (.aload_n 0, 1) := by decide +kernel
theorem dd_M_powerOfWords_102 : decode cd_M_powerOfWords 102 = .ok (.lload 5, 2) := by decide +kernel
theorem dd_M_powerOfWords_104 : decode cd_M_powerOfWords 104 = .ok (.putfield 154, 3) := by decide +kernel
theorem dd_M_powerOfWords_107 : decode cd_M_powerOfWords 107 = .ok (.aload_n 0, 1) := by decide +kernel
theorem dd_M_powerOfWords_108 : decode cd_M_powerOfWords 108 = .ok (.lload 7, 2) := by decide +kernel
theorem dd_M_powerOfWords_110 : decode cd_M_powerOfWords 110 = .ok (.putfield 151, 3) := by decide +kernel
theorem dd_M_powerOfWords_113 : decode cd_M_powerOfWords 113 = .ok (.return_, 1) := by decide +kernel
theorem dd_M_beginWords_0 : decode cd_M_beginWords 0 = .ok (.iconst 0, 1) := by decide +kernel
theorem dd_M_beginWords_1 : decode cd_M_beginWords 1 = .ok (.istore_n 1, 1) := by decide +kernel
theorem dd_M_beginWords_2 : decode cd_M_beginWords 2 = .ok (.iload_n 1, 1) := by decide +kernel
theorem dd_M_beginWords_3 : decode cd_M_beginWords 3 = .ok (.bipush 32, 2) := by decide +kernel
theorem dd_M_beginWords_5 : decode cd_M_beginWords 5 = .ok (.if_icmp .ge 24, 3) := by decide +kernel
theorem dd_M_beginWords_8 : decode cd_M_beginWords 8 = .ok (.aload_n 0, 1) := by decide +kernel
theorem dd_M_beginWords_9 : decode cd_M_beginWords 9 = .ok (.getfield 102, 3) := by decide +kernel
theorem dd_M_beginWords_12 : decode cd_M_beginWords 12 = .ok (.iload_n 1, 1) := by decide +kernel
theorem dd_M_beginWords_13 : decode cd_M_beginWords 13 = .ok (.iload_n 1, 1) := by decide +kernel
theorem dd_M_beginWords_14 : decode cd_M_beginWords 14 = .ok (.ifCond .ne 7, 3) := by decide +kernel
theorem dd_M_beginWords_17 : decode cd_M_beginWords 17 = .ok (.iconst 1, 1) := by decide +kernel
theorem dd_M_beginWords_18 : decode cd_M_beginWords 18 = .ok (.goto 4, 3) := by decide +kernel
theorem dd_M_beginWords_21 : decode cd_M_beginWords 21 = .ok (.iconst 0, 1) := by decide +kernel
theorem dd_M_beginWords_22 : decode cd_M_beginWords 22 = .ok (.iastore, 1) := by decide +kernel
theorem dd_M_beginWords_23 : decode cd_M_beginWords 23 = .ok (.iinc 1 1, 3) := by decide +kernel
theorem dd_M_beginWords_26 : decode cd_M_beginWords 26 = .ok (.goto (-24), 3) := by decide +kernel
theorem dd_M_beginWords_29 : decode cd_M_beginWords 29 = .ok (.return_, 1) := by decide +kernel
theorem dd_M_multiplyWords_0 : decode cd_M_multiplyWords 0 = .ok (.lconst 0, 1) := by decide +kernel
theorem dd_M_multiplyWords_1 : decode cd_M_multiplyWords 1 = .ok (.lstore_n 2, 1) := by decide +kernel
theorem dd_M_multiplyWords_2 : decode cd_M_multiplyWords 2 = .ok (.iconst 0, 1) := by decide +kernel
theorem dd_M_multiplyWords_3 : decode cd_M_multiplyWords 3 = .ok (.istore 4, 2) := by decide +kernel
theorem dd_M_multiplyWords_5 : decode cd_M_multiplyWords 5 = .ok (.iload 4, 2) := by decide +kernel
theorem dd_M_multiplyWords_7 : decode cd_M_multiplyWords 7 = .ok (.bipush 32, 2) := by decide +kernel
theorem dd_M_multiplyWords_9 : decode cd_M_multiplyWords 9 = .ok (.if_icmp .ge 41, 3) := by decide +kernel
theorem dd_M_multiplyWords_12 : decode cd_M_multiplyWords 12 = .ok (.lload_n 2, 1) := by decide +kernel
theorem dd_M_multiplyWords_13 : decode cd_M_multiplyWords 13 = .ok (.aload_n 0, 1) := by decide +kernel
theorem dd_M_multiplyWords_14 : decode cd_M_multiplyWords 14 = .ok (.getfield 102, 3) := by decide +kernel
theorem dd_M_multiplyWords_17 : decode cd_M_multiplyWords 17 = .ok (.iload 4, 2) := by decide +kernel
theorem dd_M_multiplyWords_19 : decode cd_M_multiplyWords 19 = .ok (.iaload, 1) := by decide +kernel
theorem dd_M_multiplyWords_20 : decode cd_M_multiplyWords 20 = .ok (.i2l, 1) := by decide +kernel
theorem dd_M_multiplyWords_21 : decode cd_M_multiplyWords 21 = .ok (.iload_n 1, 1) := by decide +kernel
theorem dd_M_multiplyWords_22 : decode cd_M_multiplyWords 22 = .ok (.i2l, 1) := by decide +kernel
theorem dd_M_multiplyWords_23 : decode cd_M_multiplyWords 23 = .ok (.lmul, 1) := by decide +kernel
theorem dd_M_multiplyWords_24 : decode cd_M_multiplyWords 24 = .ok (.ladd, 1) := by decide +kernel
theorem dd_M_multiplyWords_25 : decode cd_M_multiplyWords 25 = .ok (.lstore_n 2, 1) := by decide +kernel
theorem dd_M_multiplyWords_26 : decode cd_M_multiplyWords 26 = .ok (.aload_n 0, 1) := by decide +kernel
theorem dd_M_multiplyWords_27 : decode cd_M_multiplyWords 27 = .ok (.getfield 102, 3) := by decide +kernel
theorem dd_M_multiplyWords_30 : decode cd_M_multiplyWords 30 = .ok (.iload 4, 2) := by decide +kernel
theorem dd_M_multiplyWords_32 : decode cd_M_multiplyWords 32 = .ok (.lload_n 2, 1) := by decide +kernel
theorem dd_M_multiplyWords_33 : decode cd_M_multiplyWords 33 = .ok (.ldc2_w 167, 3) := by decide +kernel
theorem dd_M_multiplyWords_36 : decode cd_M_multiplyWords 36 = .ok (.land, 1) := by decide +kernel
theorem dd_M_multiplyWords_37 : decode cd_M_multiplyWords 37 = .ok (.l2i, 1) := by decide +kernel
theorem dd_M_multiplyWords_38 : decode cd_M_multiplyWords 38 = .ok (.iastore, 1) := by decide +kernel
theorem dd_M_multiplyWords_39 : decode cd_M_multiplyWords 39 = .ok (.lload_n 2, 1) := by decide +kernel
theorem dd_M_multiplyWords_40 : decode cd_M_multiplyWords 40 = .ok (.bipush 16, 2) := by decide +kernel
theorem dd_M_multiplyWords_42 : decode cd_M_multiplyWords 42 = .ok (.lshr, 1) := by decide +kernel
theorem dd_M_multiplyWords_43 : decode cd_M_multiplyWords 43 = .ok (.lstore_n 2, 1) := by decide +kernel
theorem dd_M_multiplyWords_44 : decode cd_M_multiplyWords 44 = .ok (.iinc 4 1, 3) := by decide +kernel
theorem dd_M_multiplyWords_47 : decode cd_M_multiplyWords 47 = .ok (.goto (-42), 3) := by decide +kernel
theorem dd_M_multiplyWords_50 : decode cd_M_multiplyWords 50 = .ok (.return_, 1) := by decide +kernel
theorem dd_M_restOfWords_0 : decode cd_M_restOfWords 0 = .ok (.lconst 0, 1) := by decide +kernel
theorem dd_M_restOfWords_1 : decode cd_M_restOfWords 1 = .ok (.lstore_n 2, 1) := by decide +kernel
theorem dd_M_restOfWords_2 : decode cd_M_restOfWords 2 = .ok (.bipush 31, 2) := by decide +kernel
theorem dd_M_restOfWords_4 : decode cd_M_restOfWords 4 = .ok (.istore 4, 2) := by decide +kernel
theorem dd_M_restOfWords_6 : decode cd_M_restOfWords 6 = .ok (.iload 4, 2) := by decide +kernel
theorem dd_M_restOfWords_8 : decode cd_M_restOfWords 8 = .ok (.ifCond .lt 27, 3) := by decide +kernel
theorem dd_M_restOfWords_11 : decode cd_M_restOfWords 11 = .ok (.lload_n 2, 1) := by decide +kernel
theorem dd_M_restOfWords_12 : decode cd_M_restOfWords 12 = .ok (.ldc2_w 169, 3) := by decide +kernel
theorem dd_M_restOfWords_15 : decode cd_M_restOfWords 15 = .ok (.lmul, 1) := by decide +kernel
theorem dd_M_restOfWords_16 : decode cd_M_restOfWords 16 = .ok (.aload_n 0, 1) := by decide +kernel
theorem dd_M_restOfWords_17 : decode cd_M_restOfWords 17 = .ok (.getfield 102, 3) := by decide +kernel
theorem dd_M_restOfWords_20 : decode cd_M_restOfWords 20 = .ok (.iload 4, 2) := by decide +kernel
theorem dd_M_restOfWords_22 : decode cd_M_restOfWords 22 = .ok (.iaload, 1) := by decide +kernel
theorem dd_M_restOfWords_23 : decode cd_M_restOfWords 23 = .ok (.i2l, 1) := by decide +kernel
theorem dd_M_restOfWords_24 : decode cd_M_restOfWords 24 = .ok (.ladd, 1) := by decide +kernel
theorem dd_M_restOfWords_25 : decode cd_M_restOfWords 25 = .ok (.iload_n 1, 1) := by decide +kernel
theorem dd_M_restOfWords_26 : decode cd_M_restOfWords 26 = .ok (.i2l, 1) := by decide +kernel
theorem dd_M_restOfWords_27 : decode cd_M_restOfWords 27 = .ok (.lrem, 1) := by decide +kernel
theorem dd_M_restOfWords_28 : decode cd_M_restOfWords 28 = .ok (.lstore_n 2, 1) := by decide +kernel
theorem dd_M_restOfWords_29 : decode cd_M_restOfWords 29 = .ok (.iinc 4 (-1), 3) := by decide +kernel
theorem dd_M_restOfWords_32 : decode cd_M_restOfWords 32 = .ok (.goto (-26), 3) := by decide +kernel
theorem dd_M_restOfWords_35 : decode cd_M_restOfWords 35 = .ok (.lload_n 2, 1) := by decide +kernel
theorem dd_M_restOfWords_36 : decode cd_M_restOfWords 36 = .ok (.lreturn, 1) := by decide +kernel
theorem dd_M_invertWords_0 : decode cd_M_invertWords 0 = .ok (.aload_n 0, 1) := by decide +kernel
theorem dd_M_invertWords_1 : decode cd_M_invertWords 1 = .ok (.iload_n 1, 1) := by decide +kernel
theorem dd_M_invertWords_2 : decode cd_M_invertWords 2 = .ok (.invokevirtual 171, 3) := by decide +kernel
theorem dd_M_invertWords_5 : decode cd_M_invertWords 5 = .ok (.lstore_n 2, 1) := by decide +kernel
theorem dd_M_invertWords_6 : decode cd_M_invertWords 6 = .ok (.lconst 1, 1) := by decide +kernel
theorem dd_M_invertWords_7 : decode cd_M_invertWords 7 = .ok (.lstore 4, 2) := by decide +kernel
theorem dd_M_invertWords_9 : decode cd_M_invertWords 9 = .ok (.bipush 30, 2) := by decide +kernel
theorem dd_M_invertWords_11 : decode cd_M_invertWords 11 = .ok (.istore 6, 2) := by decide +kernel
theorem dd_M_invertWords_13 : decode cd_M_invertWords 13 = .ok (.iload 6, 2) := by decide +kernel
theorem dd_M_invertWords_15 : decode cd_M_invertWords 15 = .ok (.ifCond .lt 45, 3) := by decide +kernel
theorem dd_M_invertWords_18 : decode cd_M_invertWords 18 = .ok (.lload 4, 2) := by decide +kernel
theorem dd_M_invertWords_20 : decode cd_M_invertWords 20 = .ok (.lload 4, 2) := by decide +kernel
theorem dd_M_invertWords_22 : decode cd_M_invertWords 22 = .ok (.lmul, 1) := by decide +kernel
theorem dd_M_invertWords_23 : decode cd_M_invertWords 23 = .ok (.iload_n 1, 1) := by decide +kernel
theorem dd_M_invertWords_24 : decode cd_M_invertWords 24 = .ok (.i2l, 1) := by decide +kernel
theorem dd_M_invertWords_25 : decode cd_M_invertWords 25 = .ok (.lrem, 1) := by decide +kernel
theorem dd_M_invertWords_26 : decode cd_M_invertWords 26 = .ok (.lstore 4, 2) := by decide +kernel
theorem dd_M_invertWords_28 : decode cd_M_invertWords 28 = .ok (.iload_n 1, 1) := by decide +kernel
theorem dd_M_invertWords_29 : decode cd_M_invertWords 29 = .ok (.iconst 2, 1) := by decide +kernel
theorem dd_M_invertWords_30 : decode cd_M_invertWords 30 = .ok (.isub, 1) := by decide +kernel
theorem dd_M_invertWords_31 : decode cd_M_invertWords 31 = .ok (.iload 6, 2) := by decide +kernel
theorem dd_M_invertWords_33 : decode cd_M_invertWords 33 = .ok (.ishr, 1) := by decide +kernel
theorem dd_M_invertWords_34 : decode cd_M_invertWords 34 = .ok (.iconst 1, 1) := by decide +kernel
theorem dd_M_invertWords_35 : decode cd_M_invertWords 35 = .ok (.iand, 1) := by decide +kernel
theorem dd_M_invertWords_36 : decode cd_M_invertWords 36 = .ok (.iconst 1, 1) := by decide +kernel
theorem dd_M_invertWords_37 : decode cd_M_invertWords 37 = .ok (.if_icmp .ne 13, 3) := by decide +kernel
theorem dd_M_invertWords_40 : decode cd_M_invertWords 40 = .ok (.lload 4, 2) := by decide +kernel
theorem dd_M_invertWords_42 : decode cd_M_invertWords 42 = .ok (.lload_n 2, 1) := by decide +kernel
theorem dd_M_invertWords_43 : decode cd_M_invertWords 43 = .ok (.lmul, 1) := by decide +kernel
theorem dd_M_invertWords_44 : decode cd_M_invertWords 44 = .ok (.iload_n 1, 1) := by decide +kernel
theorem dd_M_invertWords_45 : decode cd_M_invertWords 45 = .ok (.i2l, 1) := by decide +kernel
theorem dd_M_invertWords_46 : decode cd_M_invertWords 46 = .ok (.lrem, 1) := by decide +kernel
theorem dd_M_invertWords_47 : decode cd_M_invertWords 47 = .ok (.goto 5, 3) := by decide +kernel
theorem dd_M_invertWords_50 : decode cd_M_invertWords 50 = .ok (.lload 4, 2) := by decide +kernel
theorem dd_M_invertWords_52 : decode cd_M_invertWords 52 = .ok (.lstore 4, 2) := by decide +kernel
theorem dd_M_invertWords_54 : decode cd_M_invertWords 54 = .ok (.iinc 6 (-1), 3) := by decide +kernel
theorem dd_M_invertWords_57 : decode cd_M_invertWords 57 = .ok (.goto (-44), 3) := by decide +kernel
theorem dd_M_invertWords_60 : decode cd_M_invertWords 60 = .ok (.aload_n 0, 1) := by decide +kernel
theorem dd_M_invertWords_61 : decode cd_M_invertWords 61 = .ok (.lload 4, 2) := by decide +kernel
theorem dd_M_invertWords_63 : decode cd_M_invertWords 63 = .ok (.l2i, 1) := by decide +kernel
theorem dd_M_invertWords_64 : decode cd_M_invertWords 64 = .ok (.invokevirtual 175, 3) := by decide +kernel
theorem dd_M_invertWords_67 : decode cd_M_invertWords 67 = .ok (.lconst 0, 1) := by decide +kernel
theorem dd_M_invertWords_68 : decode cd_M_invertWords 68 = .ok (.lstore 6, 2) := by decide +kernel
theorem dd_M_invertWords_70 : decode cd_M_invertWords 70 = .ok (.bipush 31, 2) := by decide +kernel
theorem dd_M_invertWords_72 : decode cd_M_invertWords 72 = .ok (.istore 8, 2) := by decide +kernel
theorem dd_M_invertWords_74 : decode cd_M_invertWords 74 = .ok (.iload 8, 2) := by decide +kernel
theorem dd_M_invertWords_76 : decode cd_M_invertWords 76 = .ok (.ifCond .lt 46, 3) := by decide +kernel
theorem dd_M_invertWords_79 : decode cd_M_invertWords 79 = .ok (.lload 6, 2) := by decide +kernel
theorem dd_M_invertWords_81 : decode cd_M_invertWords 81 = .ok (.ldc2_w 169, 3) := by decide +kernel
theorem dd_M_invertWords_84 : decode cd_M_invertWords 84 = .ok (.lmul, 1) := by decide +kernel
theorem dd_M_invertWords_85 : decode cd_M_invertWords 85 = .ok (.aload_n 0, 1) := by decide +kernel
theorem dd_M_invertWords_86 : decode cd_M_invertWords 86 = .ok (.getfield 102, 3) := by decide +kernel
theorem dd_M_invertWords_89 : decode cd_M_invertWords 89 = .ok (.iload 8, 2) := by decide +kernel
theorem dd_M_invertWords_91 : decode cd_M_invertWords 91 = .ok (.iaload, 1) := by decide +kernel
theorem dd_M_invertWords_92 : decode cd_M_invertWords 92 = .ok (.i2l, 1) := by decide +kernel
theorem dd_M_invertWords_93 : decode cd_M_invertWords 93 = .ok (.ladd, 1) := by decide +kernel
theorem dd_M_invertWords_94 : decode cd_M_invertWords 94 = .ok (.lstore 6, 2) := by decide +kernel
theorem dd_M_invertWords_96 : decode cd_M_invertWords 96 = .ok (.aload_n 0, 1) := by decide +kernel
theorem dd_M_invertWords_97 : decode cd_M_invertWords 97 = .ok (.getfield 102, 3) := by decide +kernel
theorem dd_M_invertWords_100 : decode cd_M_invertWords 100 = .ok (.iload 8, 2) := by decide +kernel
theorem dd_M_invertWords_102 : decode cd_M_invertWords 102 = .ok (.lload 6, 2) := by decide +kernel
theorem dd_M_invertWords_104 : decode cd_M_invertWords 104 = .ok (.iload_n 1, 1) := by decide +kernel
theorem dd_M_invertWords_105 : decode cd_M_invertWords 105 = .ok (.i2l, 1) := by decide +kernel
theorem dd_M_invertWords_106 : decode cd_M_invertWords 106 = .ok (.ldiv, 1) := by decide +kernel
theorem dd_M_invertWords_107 : decode cd_M_invertWords 107 = .ok (.l2i, 1) := by decide +kernel
theorem dd_M_invertWords_108 : decode cd_M_invertWords 108 = .ok (.iastore, 1) := by decide +kernel
theorem dd_M_invertWords_109 : decode cd_M_invertWords 109 = .ok (.lload 6, 2) := by decide +kernel
theorem dd_M_invertWords_111 : decode cd_M_invertWords 111 = .ok (.iload_n 1, 1) := by decide +kernel
theorem dd_M_invertWords_112 : decode cd_M_invertWords 112 = .ok (.i2l, 1) := by decide +kernel
theorem dd_M_invertWords_113 : decode cd_M_invertWords 113 = .ok (.lrem, 1) := by decide +kernel
theorem dd_M_invertWords_114 : decode cd_M_invertWords 114 = .ok (.lstore 6, 2) := by decide +kernel
theorem dd_M_invertWords_116 : decode cd_M_invertWords 116 = .ok (.iinc 8 (-1), 3) := by decide +kernel
theorem dd_M_invertWords_119 : decode cd_M_invertWords 119 = .ok (.goto (-45), 3) := by decide +kernel
theorem dd_M_invertWords_122 : decode cd_M_invertWords 122 = .ok (.lload 4, 2) := by decide +kernel
theorem dd_M_invertWords_124 : decode cd_M_invertWords 124 = .ok (.l2i, 1) := by decide +kernel
theorem dd_M_invertWords_125 : decode cd_M_invertWords 125 = .ok (.ireturn, 1) := by decide +kernel
theorem dd_M_thirds_0 : decode cd_M_thirds 0 = .ok (.lload_n 0, 1) := by decide +kernel
theorem dd_M_thirds_1 : decode cd_M_thirds 1 = .ok (.bipush 32, 2) := by decide +kernel
theorem dd_M_thirds_3 : decode cd_M_thirds 3 = .ok (.lushr, 1) := by decide +kernel
theorem dd_M_thirds_4 : decode cd_M_thirds 4 = .ok (.lload_n 0, 1) := by decide +kernel
theorem dd_M_thirds_5 : decode cd_M_thirds 5 = .ok (.ldc2_w 179, 3) := by decide +kernel
theorem dd_M_thirds_8 : decode cd_M_thirds 8 = .ok (.land, 1) := by decide +kernel
theorem dd_M_thirds_9 : decode cd_M_thirds 9 = .ok (.ladd, 1) := by decide +kernel
theorem dd_M_thirds_10 : decode cd_M_thirds 10 = .ok (.ldc2_w 118, 3) := by decide +kernel
theorem dd_M_thirds_13 : decode cd_M_thirds 13 = .ok (.lrem, 1) := by decide +kernel
theorem dd_M_thirds_14 : decode cd_M_thirds 14 = .ok (.lreturn, 1) := by decide +kernel
theorem dd_M_modulus_0 : decode cd_M_modulus 0 = .ok (.aload_n 0, 1) := by decide +kernel
theorem dd_M_modulus_1 : decode cd_M_modulus 1 = .ok (.getfield 181, 3) := by decide +kernel
theorem dd_M_modulus_4 : decode cd_M_modulus 4 = .ok (.ifCond .ne 38, 3) := by decide +kernel
theorem dd_M_modulus_7 : decode cd_M_modulus 7 = .ok (.lload_n 3, 1) := by decide +kernel
theorem dd_M_modulus_8 : decode cd_M_modulus 8 = .ok (.lconst 1, 1) := by decide +kernel
theorem dd_M_modulus_9 : decode cd_M_modulus 9 = .ok (.land, 1) := by decide +kernel
theorem dd_M_modulus_10 : decode cd_M_modulus 10 = .ok (.lconst 0, 1) := by decide +kernel
theorem dd_M_modulus_11 : decode cd_M_modulus 11 = .ok (.lcmp, 1) := by decide +kernel
theorem dd_M_modulus_12 : decode cd_M_modulus 12 = .ok (.ifCond .eq 30, 3) := by decide +kernel
theorem dd_M_modulus_15 : decode cd_M_modulus 15 = .ok (.lload_n 1, 1) := by decide +kernel
theorem dd_M_modulus_16 : decode cd_M_modulus 16 = .ok (.invokestatic 185, 3) := by decide +kernel
theorem dd_M_modulus_19 : decode cd_M_modulus 19 = .ok (.lload_n 3, 1) := by decide +kernel
theorem dd_M_modulus_20 : decode cd_M_modulus 20 = .ok (.invokestatic 185, 3) := by decide +kernel
theorem dd_M_modulus_23 : decode cd_M_modulus 23 = .ok (.ladd, 1) := by decide +kernel
theorem dd_M_modulus_24 : decode cd_M_modulus 24 = .ok (.ldc2_w 118, 3) := by decide +kernel
theorem dd_M_modulus_27 : decode cd_M_modulus 27 = .ok (.lrem, 1) := by decide +kernel
theorem dd_M_modulus_28 : decode cd_M_modulus 28 = .ok (.lconst 0, 1) := by decide +kernel
theorem dd_M_modulus_29 : decode cd_M_modulus 29 = .ok (.lcmp, 1) := by decide +kernel
theorem dd_M_modulus_30 : decode cd_M_modulus 30 = .ok (.ifCond .eq 12, 3) := by decide +kernel
theorem dd_M_modulus_33 : decode cd_M_modulus 33 = .ok (.lload_n 1, 1) := by decide +kernel
theorem dd_M_modulus_34 : decode cd_M_modulus 34 = .ok (.bipush 36, 2) := by decide +kernel
theorem dd_M_modulus_36 : decode cd_M_modulus 36 = .ok (.lushr, 1) := by decide +kernel
theorem dd_M_modulus_37 : decode cd_M_modulus 37 = .ok (.lconst 0, 1) := by decide +kernel
theorem dd_M_modulus_38 : decode cd_M_modulus 38 = .ok (.lcmp, 1) := by decide +kernel
theorem dd_M_modulus_39 : decode cd_M_modulus 39 = .ok (.ifCond .ne 5, 3) := by decide +kernel
theorem dd_M_modulus_42 : decode cd_M_modulus 42 = .ok (.iconst 0, 1) := by decide +kernel
theorem dd_M_modulus_43 : decode cd_M_modulus 43 = .ok (.ireturn, 1) := by decide +kernel
theorem dd_M_modulus_44 : decode cd_M_modulus 44 = .ok (.aload_n 0, 1) := by decide +kernel
theorem dd_M_modulus_45 : decode cd_M_modulus 45 = .ok (.iconst 1, 1) := by decide +kernel
theorem dd_M_modulus_46 : decode cd_M_modulus 46 = .ok (.putfield 181, 3) := by decide +kernel
theorem dd_M_modulus_49 : decode cd_M_modulus 49 = .ok (.aload_n 0, 1) := by decide +kernel
theorem dd_M_modulus_50 : decode cd_M_modulus 50 = .ok (.lload_n 1, 1) := by decide +kernel
theorem dd_M_modulus_51 : decode cd_M_modulus 51 = .ok (.putfield 140, 3) := by decide +kernel
theorem dd_M_modulus_54 : decode cd_M_modulus 54 = .ok (.aload_n 0, 1) := by decide +kernel
theorem dd_M_modulus_55 : decode cd_M_modulus 55 = .ok (.lload_n 3, 1) := by decide +kernel
theorem dd_M_modulus_56 : decode cd_M_modulus 56 = .ok (.putfield 148, 3) := by decide +kernel
theorem dd_M_modulus_59 : decode cd_M_modulus 59 = .ok (.aload_n 0, 1) := by decide +kernel
theorem dd_M_modulus_60 : decode cd_M_modulus 60 = .ok (.invokevirtual 189, 3) := by decide +kernel
theorem dd_M_modulus_63 : decode cd_M_modulus 63 = .ok (.aload_n 0, 1) := by decide +kernel
theorem dd_M_modulus_64 : decode cd_M_modulus 64 = .ok (.getfield 96, 3) := by decide +kernel
theorem dd_M_modulus_67 : decode cd_M_modulus 67 = .ok (.iconst 0, 1) := by decide +kernel
theorem dd_M_modulus_68 : decode cd_M_modulus 68 = .ok (.lconst 0, 1) := by decide +kernel
theorem dd_M_modulus_69 : decode cd_M_modulus 69 = .ok (.lastore, 1) := by decide +kernel
theorem dd_M_modulus_70 : decode cd_M_modulus 70 = .ok (.aload_n 0, 1) := by decide +kernel
theorem dd_M_modulus_71 : decode cd_M_modulus 71 = .ok (.getfield 99, 3) := by decide +kernel
theorem dd_M_modulus_74 : decode cd_M_modulus 74 = .ok (.iconst 0, 1) := by decide +kernel
theorem dd_M_modulus_75 : decode cd_M_modulus 75 = .ok (.ldc2_w 118, 3) := by decide +kernel
theorem dd_M_modulus_78 : decode cd_M_modulus 78 = .ok (.lastore, 1) := by decide +kernel
theorem dd_M_modulus_79 : decode cd_M_modulus 79 = .ok (.iconst 1, 1) := by decide +kernel
theorem dd_M_modulus_80 : decode cd_M_modulus 80 = .ok (.ireturn, 1) := by decide +kernel
theorem dd_M_findThird_0 : decode cd_M_findThird 0 = .ok (.lconst 0, 1) := by decide +kernel
theorem dd_M_findThird_1 : decode cd_M_findThird 1 = .ok (.lstore_n 1, 1) := by decide +kernel
theorem dd_M_findThird_2 : decode cd_M_findThird 2 = .ok (.lconst 0, 1) := by decide +kernel
theorem dd_M_findThird_3 : decode cd_M_findThird 3 = .ok (.lstore_n 3, 1) := by decide +kernel
theorem dd_M_findThird_4 : decode cd_M_findThird 4 = .ok (.iconst 0, 1) := by decide +kernel
theorem dd_M_findThird_5 : decode cd_M_findThird 5 = .ok (.istore 5, 2) := by decide +kernel
theorem dd_M_findThird_7 : decode cd_M_findThird 7 = .ok (.bipush 127, 2) := by decide +kernel
theorem dd_M_findThird_9 : decode cd_M_findThird 9 = .ok (.istore 6, 2) := by decide +kernel
theorem dd_M_findThird_11 : decode cd_M_findThird 11 = .ok (.iload 6, 2) := by decide +kernel
theorem dd_M_findThird_13 : decode cd_M_findThird 13 = .ok (.ifCond .lt 77, 3) := by decide +kernel
theorem dd_M_findThird_16 : decode cd_M_findThird 16 = .ok (.iconst 2, 1) := by decide +kernel
theorem dd_M_findThird_17 : decode cd_M_findThird 17 = .ok (.iload 5, 2) := by decide +kernel
theorem dd_M_findThird_19 : decode cd_M_findThird 19 = .ok (.imul, 1) := by decide +kernel
theorem dd_M_findThird_20 : decode cd_M_findThird 20 = .ok (.iload 6, 2) := by decide +kernel
theorem dd_M_findThird_22 : decode cd_M_findThird 22 = .ok (.bipush 64, 2) := by decide +kernel
theorem dd_M_findThird_24 : decode cd_M_findThird 24 = .ok (.if_icmp .ge 13, 3) := by decide +kernel
theorem dd_M_findThird_27 : decode cd_M_findThird 27 = .ok (.aload_n 0, 1) := by decide +kernel
theorem dd_M_findThird_28 : decode cd_M_findThird 28 = .ok (.getfield 148, 3) := by decide +kernel
theorem dd_M_findThird_31 : decode cd_M_findThird 31 = .ok (.iload 6, 2) := by decide +kernel
theorem dd_M_findThird_33 : decode cd_M_findThird 33 = .ok (.lshr, 1) := by decide +kernel
theorem dd_M_findThird_34 : decode cd_M_findThird 34 = .ok (.goto 13, 3) := by decide +kernel
theorem dd_M_findThird_37 : decode cd_M_findThird 37 = .ok (.aload_n 0, 1) := by decide +kernel
theorem dd_M_findThird_38 : decode cd_M_findThird 38 = .ok (.getfield 140, 3) := by decide +kernel
theorem dd_M_findThird_41 : decode cd_M_findThird 41 = .ok (.iload 6, 2) := by decide +kernel
theorem dd_M_findThird_43 : decode cd_M_findThird 43 = .ok (.bipush 64, 2) := by decide +kernel
theorem dd_M_findThird_45 : decode cd_M_findThird 45 = .ok (.isub, 1) := by decide +kernel
theorem dd_M_findThird_46 : decode cd_M_findThird 46 = .ok (.lshr, 1) := by decide +kernel
theorem dd_M_findThird_47 : decode cd_M_findThird 47 = .ok (.lconst 1, 1) := by decide +kernel
theorem dd_M_findThird_48 : decode cd_M_findThird 48 = .ok (.land, 1) := by decide +kernel
theorem dd_M_findThird_49 : decode cd_M_findThird 49 = .ok (.l2i, 1) := by decide +kernel
theorem dd_M_findThird_50 : decode cd_M_findThird 50 = .ok (.iadd, 1) := by decide +kernel
theorem dd_M_findThird_51 : decode cd_M_findThird 51 = .ok (.istore 5, 2) := by decide +kernel
theorem dd_M_findThird_53 : decode cd_M_findThird 53 = .ok (.lload_n 1, 1) := by decide +kernel
theorem dd_M_findThird_54 : decode cd_M_findThird 54 = .ok (.iconst 1, 1) := by decide +kernel
theorem dd_M_findThird_55 : decode cd_M_findThird 55 = .ok (.lshl, 1) := by decide +kernel
theorem dd_M_findThird_56 : decode cd_M_findThird 56 = .ok (.lload_n 3, 1) := by decide +kernel
theorem dd_M_findThird_57 : decode cd_M_findThird 57 = .ok (.bipush 63, 2) := by decide +kernel
theorem dd_M_findThird_59 : decode cd_M_findThird 59 = .ok (.lushr, 1) := by decide +kernel
theorem dd_M_findThird_60 : decode cd_M_findThird 60 = .ok (.lor, 1) := by decide +kernel
theorem dd_M_findThird_61 : decode cd_M_findThird 61 = .ok (.lstore_n 1, 1) := by decide +kernel
theorem dd_M_findThird_62 : decode cd_M_findThird 62 = .ok (.lload_n 3, 1) := by decide +kernel
theorem dd_M_findThird_63 : decode cd_M_findThird 63 = .ok (.iconst 1, 1) := by decide +kernel
theorem dd_M_findThird_64 : decode cd_M_findThird 64 = .ok (.lshl, 1) := by decide +kernel
theorem dd_M_findThird_65 : decode cd_M_findThird 65 = .ok (.iload 5, 2) := by decide +kernel
theorem dd_M_findThird_67 : decode cd_M_findThird 67 = .ok (.iconst 3, 1) := by decide +kernel
theorem dd_M_findThird_68 : decode cd_M_findThird 68 = .ok (.if_icmp .lt 7, 3) := by decide +kernel
theorem dd_M_findThird_71 : decode cd_M_findThird 71 = .ok (.lconst 1, 1) := by decide +kernel
theorem dd_M_findThird_72 : decode cd_M_findThird 72 = .ok (.goto 4, 3) := by decide +kernel
theorem dd_M_findThird_75 : decode cd_M_findThird 75 = .ok (.lconst 0, 1) := by decide +kernel
theorem dd_M_findThird_76 : decode cd_M_findThird 76 = .ok (.lor, 1) := by decide +kernel
theorem dd_M_findThird_77 : decode cd_M_findThird 77 = .ok (.lstore_n 3, 1) := by decide +kernel
theorem dd_M_findThird_78 : decode cd_M_findThird 78 = .ok (.iload 5, 2) := by decide +kernel
theorem dd_M_findThird_80 : decode cd_M_findThird 80 = .ok (.iconst 3, 1) := by decide +kernel
theorem dd_M_findThird_81 : decode cd_M_findThird 81 = .ok (.irem, 1) := by decide +kernel
theorem dd_M_findThird_82 : decode cd_M_findThird 82 = .ok (.istore 5, 2) := by decide +kernel
theorem dd_M_findThird_84 : decode cd_M_findThird 84 = .ok (.iinc 6 (-1), 3) := by decide +kernel
theorem dd_M_findThird_87 : decode cd_M_findThird 87 = .ok (.goto (-76), 3) := by decide +kernel
theorem dd_M_findThird_90 : decode cd_M_findThird 90 = .ok (.iload 5, 2) := by decide +kernel
theorem dd_M_findThird_92 : decode cd_M_findThird 92 = .ok (.iconst 1, 1) := by decide +kernel
theorem dd_M_findThird_93 : decode cd_M_findThird 93 = .ok (.if_icmp .ne 21, 3) := by decide +kernel
theorem dd_M_findThird_96 : decode cd_M_findThird 96 = .ok (.aload_n 0, 1) := by decide +kernel
theorem dd_M_findThird_97 : decode cd_M_findThird 97 = .ok (.lload_n 1, 1) := by decide +kernel
theorem dd_M_findThird_98 : decode cd_M_findThird 98 = .ok (.lload_n 3, 1) := by decide +kernel
theorem dd_M_findThird_99 : decode cd_M_findThird 99 = .ok (.lload_n 1, 1) := by decide +kernel
theorem dd_M_findThird_100 : decode cd_M_findThird 100 = .ok (.lload_n 3, 1) := by decide +kernel
theorem dd_M_findThird_101 : decode cd_M_findThird 101 = .ok (.invokevirtual 160, 3) := by decide +kernel
theorem dd_M_findThird_104 : decode cd_M_findThird 104 = .ok (.aload_n 0, 1) := by decide +kernel
theorem dd_M_findThird_105 : decode cd_M_findThird 105 = .ok (.getfield 154, 3) := by decide +kernel
theorem dd_M_findThird_108 : decode cd_M_findThird 108 = .ok (.lstore_n 1, 1) := by decide +kernel
theorem dd_M_findThird_109 : decode cd_M_findThird 109 = .ok (.aload_n 0, 1) := by decide +kernel
theorem dd_M_findThird_110 : decode cd_M_findThird 110 = .ok (.getfield 151, 3) := by decide +kernel
theorem dd_M_findThird_113 : decode cd_M_findThird 113 = .ok (.lstore_n 3, 1) := by decide +kernel
theorem dd_M_findThird_114 : decode cd_M_findThird 114 = .ok (.aload_n 0, 1) := by decide +kernel
theorem dd_M_findThird_115 : decode cd_M_findThird 115 = .ok (.lload_n 1, 1) := by decide +kernel
theorem dd_M_findThird_116 : decode cd_M_findThird 116 = .ok (.lload_n 3, 1) := by decide +kernel
theorem dd_M_findThird_117 : decode cd_M_findThird 117 = .ok (.lconst 0, 1) := by decide +kernel
theorem dd_M_findThird_118 : decode cd_M_findThird 118 = .ok (.lconst 1, 1) := by decide +kernel
theorem dd_M_findThird_119 : decode cd_M_findThird 119 = .ok (.invokevirtual 160, 3) := by decide +kernel
theorem dd_M_findThird_122 : decode cd_M_findThird 122 = .ok (.aload_n 0, 1) := by decide +kernel
theorem dd_M_findThird_123 : decode cd_M_findThird 123 = .ok (.aload_n 0, 1) := by decide +kernel
theorem dd_M_findThird_124 : decode cd_M_findThird 124 = .ok (.getfield 154, 3) := by decide +kernel
theorem dd_M_findThird_127 : decode cd_M_findThird 127 = .ok (.putfield 192, 3) := by decide +kernel
theorem dd_M_findThird_130 : decode cd_M_findThird 130 = .ok (.aload_n 0, 1) := by decide +kernel
theorem dd_M_findThird_131 : decode cd_M_findThird 131 = .ok (.aload_n 0, 1) := by decide +kernel
theorem dd_M_findThird_132 : decode cd_M_findThird 132 = .ok (.getfield 151, 3) := by decide +kernel
theorem dd_M_findThird_135 : decode cd_M_findThird 135 = .ok (.putfield 195, 3) := by decide +kernel
theorem dd_M_findThird_138 : decode cd_M_findThird 138 = .ok (.return_, 1) := by decide +kernel
theorem dd_M_pendingAt_0 : decode cd_M_pendingAt 0 = .ok (.iconst 0, 1) := by decide +kernel
theorem dd_M_pendingAt_1 : decode cd_M_pendingAt 1 = .ok (.istore_n 3, 1) := by decide +kernel
theorem dd_M_pendingAt_2 : decode cd_M_pendingAt 2 = .ok (.iload_n 3, 1) := by decide +kernel
theorem dd_M_pendingAt_3 : decode cd_M_pendingAt 3 = .ok (.aload_n 0, 1) := by decide +kernel
theorem dd_M_pendingAt_4 : decode cd_M_pendingAt 4 = .ok (.getfield 198, 3) := by decide +kernel
theorem dd_M_pendingAt_7 : decode cd_M_pendingAt 7 = .ok (.if_icmp .ge 22, 3) := by decide +kernel
theorem dd_M_pendingAt_10 : decode cd_M_pendingAt 10 = .ok (.aload_n 0, 1) := by decide +kernel
theorem dd_M_pendingAt_11 : decode cd_M_pendingAt 11 = .ok (.getfield 81, 3) := by decide +kernel
theorem dd_M_pendingAt_14 : decode cd_M_pendingAt 14 = .ok (.iload_n 3, 1) := by decide +kernel
theorem dd_M_pendingAt_15 : decode cd_M_pendingAt 15 = .ok (.laload, 1) := by decide +kernel
theorem dd_M_pendingAt_16 : decode cd_M_pendingAt 16 = .ok (.lload_n 1, 1) := by decide +kernel
theorem dd_M_pendingAt_17 : decode cd_M_pendingAt 17 = .ok (.lcmp, 1) := by decide +kernel
theorem dd_M_pendingAt_18 : decode cd_M_pendingAt 18 = .ok (.ifCond .ne 5, 3) := by decide +kernel
theorem dd_M_pendingAt_21 : decode cd_M_pendingAt 21 = .ok (.iload_n 3, 1) := by decide +kernel
theorem dd_M_pendingAt_22 : decode cd_M_pendingAt 22 = .ok (.ireturn, 1) := by decide +kernel
theorem dd_M_pendingAt_23 : decode cd_M_pendingAt 23 = .ok (.iinc 3 1, 3) := by decide +kernel
theorem dd_M_pendingAt_26 : decode cd_M_pendingAt 26 = .ok (.goto (-24), 3) := by decide +kernel
theorem dd_M_pendingAt_29 : decode cd_M_pendingAt 29 = .ok (.iconst (-1), 1) := by decide +kernel
theorem dd_M_pendingAt_30 : decode cd_M_pendingAt 30 = .ok (.ireturn, 1) := by decide +kernel
theorem dd_M_placeIn_0 : decode cd_M_placeIn 0 = .ok (.bipush 10, 2) := by decide +kernel
theorem dd_M_placeIn_2 : decode cd_M_placeIn 2 = .ok (.iload_n 1, 1) := by decide +kernel
theorem dd_M_placeIn_3 : decode cd_M_placeIn 3 = .ok (.imul, 1) := by decide +kernel
theorem dd_M_placeIn_4 : decode cd_M_placeIn 4 = .ok (.istore 4, 2) := by decide +kernel
theorem dd_M_placeIn_6 : decode cd_M_placeIn 6 = .ok (.iload 4, 2) := by decide +kernel
theorem dd_M_placeIn_8 : decode cd_M_placeIn 8 = .ok (.bipush 10, 2) := by decide +kernel
theorem dd_M_placeIn_10 : decode cd_M_placeIn 10 = .ok (.iload_n 1, 1) := by decide +kernel
theorem dd_M_placeIn_11 : decode cd_M_placeIn 11 = .ok (.imul, 1) := by decide +kernel
theorem dd_M_placeIn_12 : decode cd_M_placeIn 12 = .ok (.aload_n 0, 1) := by decide +kernel
theorem dd_M_placeIn_13 : decode cd_M_placeIn 13 = .ok (.getfield 87, 3) := by decide +kernel
theorem dd_M_placeIn_16 : decode cd_M_placeIn 16 = .ok (.iload_n 1, 1) := by decide +kernel
theorem dd_M_placeIn_17 : decode cd_M_placeIn 17 = .ok (.iaload, 1) := by decide +kernel
theorem dd_M_placeIn_18 : decode cd_M_placeIn 18 = .ok (.iadd, 1) := by decide +kernel
theorem dd_M_placeIn_19 : decode cd_M_placeIn 19 = .ok (.if_icmp .ge 24, 3) := by decide +kernel
theorem dd_M_placeIn_22 : decode cd_M_placeIn 22 = .ok (.aload_n 0, 1) := by decide +kernel
theorem dd_M_placeIn_23 : decode cd_M_placeIn 23 = .ok (.getfield 90, 3) := by decide +kernel
theorem dd_M_placeIn_26 : decode cd_M_placeIn 26 = .ok (.iload 4, 2) := by decide +kernel
theorem dd_M_placeIn_28 : decode cd_M_placeIn 28 = .ok (.laload, 1) := by decide +kernel
theorem dd_M_placeIn_29 : decode cd_M_placeIn 29 = .ok (.lload_n 2, 1) := by decide +kernel
theorem dd_M_placeIn_30 : decode cd_M_placeIn 30 = .ok (.lcmp, 1) := by decide +kernel
theorem dd_M_placeIn_31 : decode cd_M_placeIn 31 = .ok (.ifCond .ne 6, 3) := by decide +kernel
theorem dd_M_placeIn_34 : decode cd_M_placeIn 34 = .ok (.iload 4, 2) := by decide +kernel
theorem dd_M_placeIn_36 : decode cd_M_placeIn 36 = .ok (.ireturn, 1) := by decide +kernel
theorem dd_M_placeIn_37 : decode cd_M_placeIn 37 = .ok (.iinc 4 1, 3) := by decide +kernel
theorem dd_M_placeIn_40 : decode cd_M_placeIn 40 = .ok (.goto (-34), 3) := by decide +kernel
theorem dd_M_placeIn_43 : decode cd_M_placeIn 43 = .ok (.iconst (-1), 1) := by decide +kernel
theorem dd_M_placeIn_44 : decode cd_M_placeIn 44 = .ok (.ireturn, 1) := by decide +kernel
theorem dd_M_add_0 : decode cd_M_add 0 = .ok (.aload_n 0, 1) := by decide +kernel
theorem dd_M_add_1 : decode cd_M_add 1 = .ok (.getfield 181, 3) := by decide +kernel
theorem dd_M_add_4 : decode cd_M_add 4 = .ok (.ifCond .ne 5, 3) := by decide +kernel
theorem dd_M_add_7 : decode cd_M_add 7 = .ok (.iconst (-1), 1) := by decide +kernel
theorem dd_M_add_8 : decode cd_M_add 8 = .ok (.ireturn, 1) := by decide +kernel
theorem dd_M_add_9 : decode cd_M_add 9 = .ok (.aload_n 0, 1) := by decide +kernel
theorem dd_M_add_10 : decode cd_M_add 10 = .ok (.lload_n 1, 1) := by decide +kernel
theorem dd_M_add_11 : decode cd_M_add 11 = .ok (.invokevirtual 202, 3) := by decide +kernel
theorem dd_M_add_14 : decode cd_M_add 14 = .ok (.istore_n 3, 1) := by decide +kernel
theorem dd_M_add_15 : decode cd_M_add 15 = .ok (.iload_n 3, 1) := by decide +kernel
theorem dd_M_add_16 : decode cd_M_add 16 = .ok (.bipush (-2), 2) := by decide +kernel
theorem dd_M_add_18 : decode cd_M_add 18 = .ok (.if_icmp .ne 6, 3) := by decide +kernel
theorem dd_M_add_21 : decode cd_M_add 21 = .ok (.bipush (-2), 2) := by decide +kernel
theorem dd_M_add_23 : decode cd_M_add 23 = .ok (.ireturn, 1) := by decide +kernel
theorem dd_M_add_24 : decode cd_M_add 24 = .ok (.aload_n 0, 1) := by decide +kernel
theorem dd_M_add_25 : decode cd_M_add 25 = .ok (.lload_n 1, 1) := by decide +kernel
theorem dd_M_add_26 : decode cd_M_add 26 = .ok (.invokevirtual 206, 3) := by decide +kernel
theorem dd_M_add_29 : decode cd_M_add 29 = .ok (.ifCond .lt 6, 3) := by decide +kernel
theorem dd_M_add_32 : decode cd_M_add 32 = .ok (.bipush (-3), 2) := by decide +kernel
theorem dd_M_add_34 : decode cd_M_add 34 = .ok (.ireturn, 1) := by decide +kernel
theorem dd_M_add_35 : decode cd_M_add 35 = .ok (.iconst 0, 1) := by decide +kernel
theorem dd_M_add_36 : decode cd_M_add 36 = .ok (.istore 4, 2) := by decide +kernel
theorem dd_M_add_38 : decode cd_M_add 38 = .ok (.iload 4, 2) := by decide +kernel
theorem dd_M_add_40 : decode cd_M_add 40 = .ok (.aload_n 0, 1) := by decide +kernel
theorem dd_M_add_41 : decode cd_M_add 41 = .ok (.getfield 198, 3) := by decide +kernel
theorem dd_M_add_44 : decode cd_M_add 44 = .ok (.if_icmp .ge 23, 3) := by decide +kernel
theorem dd_M_add_47 : decode cd_M_add 47 = .ok (.aload_n 0, 1) := by decide +kernel
theorem dd_M_add_48 : decode cd_M_add 48 = .ok (.getfield 84, 3) := by decide +kernel
theorem dd_M_add_51 : decode cd_M_add 51 = .ok (.iload 4, 2) := by decide +kernel
theorem dd_M_add_53 : decode cd_M_add 53 = .ok (.iaload, 1) := by decide +kernel
theorem dd_M_add_54 : decode cd_M_add 54 = .ok (.iload_n 3, 1) := by decide +kernel
theorem dd_M_add_55 : decode cd_M_add 55 = .ok (.if_icmp .ne 6, 3) := by decide +kernel
theorem dd_M_add_58 : decode cd_M_add 58 = .ok (.bipush (-5), 2) := by decide +kernel
theorem dd_M_add_60 : decode cd_M_add 60 = .ok (.ireturn, 1) := by decide +kernel
theorem dd_M_add_61 : decode cd_M_add 61 = .ok (.iinc 4 1, 3) := by decide +kernel
theorem dd_M_add_64 : decode cd_M_add 64 = .ok (.goto (-26), 3) := by decide +kernel
theorem dd_M_add_67 : decode cd_M_add 67 = .ok (.aload_n 0, 1) := by decide +kernel
theorem dd_M_add_68 : decode cd_M_add 68 = .ok (.getfield 198, 3) := by decide +kernel
theorem dd_M_add_71 : decode cd_M_add 71 = .ok (.bipush 10, 2) := by decide +kernel
theorem dd_M_add_73 : decode cd_M_add 73 = .ok (.if_icmp .ne 6, 3) := by decide +kernel
theorem dd_M_add_76 : decode cd_M_add 76 = .ok (.bipush (-6), 2) := by decide +kernel
theorem dd_M_add_78 : decode cd_M_add 78 = .ok (.ireturn, 1) := by decide +kernel
theorem dd_M_add_79 : decode cd_M_add 79 = .ok (.aload_n 0, 1) := by decide +kernel
theorem dd_M_add_80 : decode cd_M_add 80 = .ok (.getfield 198, 3) := by decide +kernel
theorem dd_M_add_83 : decode cd_M_add 83 = .ok (.istore 4, 2) := by decide +kernel
theorem dd_M_add_85 : decode cd_M_add 85 = .ok (.iload 4, 2) := by decide +kernel
theorem dd_M_add_87 : decode cd_M_add 87 = .ok (.ifCond .le 55, 3) := by decide +kernel
theorem dd_M_add_90 : decode cd_M_add 90 = .ok (.aload_n 0, 1) := by decide +kernel
theorem dd_M_add_91 : decode cd_M_add 91 = .ok (.getfield 81, 3) := by decide +kernel
theorem dd_M_add_94 : decode cd_M_add 94 = .ok (.iload 4, 2) := by decide +kernel
theorem dd_M_add_96 : decode cd_M_add 96 = .ok (.iconst 1, 1) := by decide +kernel
theorem dd_M_add_97 : decode cd_M_add 97 = .ok (.isub, 1) := by decide +kernel
theorem dd_M_add_98 : decode cd_M_add 98 = .ok (.laload, 1) := by decide +kernel
theorem dd_M_add_99 : decode cd_M_add 99 = .ok (.lload_n 1, 1) := by decide +kernel
theorem dd_M_add_100 : decode cd_M_add 100 = .ok (.lcmp, 1) := by decide +kernel
theorem dd_M_add_101 : decode cd_M_add 101 = .ok (.ifCond .le 41, 3) := by decide +kernel
theorem dd_M_add_104 : decode cd_M_add 104 = .ok (.aload_n 0, 1) := by decide +kernel
theorem dd_M_add_105 : decode cd_M_add 105 = .ok (.getfield 81, 3) := by decide +kernel
theorem dd_M_add_108 : decode cd_M_add 108 = .ok (.iload 4, 2) := by decide +kernel
theorem dd_M_add_110 : decode cd_M_add 110 = .ok (.aload_n 0, 1) := by decide +kernel
theorem dd_M_add_111 : decode cd_M_add 111 = .ok (.getfield 81, 3) := by decide +kernel
theorem dd_M_add_114 : decode cd_M_add 114 = .ok (.iload 4, 2) := by decide +kernel
theorem dd_M_add_116 : decode cd_M_add 116 = .ok (.iconst 1, 1) := by decide +kernel
theorem dd_M_add_117 : decode cd_M_add 117 = .ok (.isub, 1) := by decide +kernel
theorem dd_M_add_118 : decode cd_M_add 118 = .ok (.laload, 1) := by decide +kernel
theorem dd_M_add_119 : decode cd_M_add 119 = .ok (.lastore, 1) := by decide +kernel
theorem dd_M_add_120 : decode cd_M_add 120 = .ok (.aload_n 0, 1) := by decide +kernel
theorem dd_M_add_121 : decode cd_M_add 121 = .ok (.getfield 84, 3) := by decide +kernel
theorem dd_M_add_124 : decode cd_M_add 124 = .ok (.iload 4, 2) := by decide +kernel
theorem dd_M_add_126 : decode cd_M_add 126 = .ok (.aload_n 0, 1) := by decide +kernel
theorem dd_M_add_127 : decode cd_M_add 127 = .ok (.getfield 84, 3) := by decide +kernel
theorem dd_M_add_130 : decode cd_M_add 130 = .ok (.iload 4, 2) := by decide +kernel
theorem dd_M_add_132 : decode cd_M_add 132 = .ok (.iconst 1, 1) := by decide +kernel
theorem dd_M_add_133 : decode cd_M_add 133 = .ok (.isub, 1) := by decide +kernel
theorem dd_M_add_134 : decode cd_M_add 134 = .ok (.iaload, 1) := by decide +kernel
theorem dd_M_add_135 : decode cd_M_add 135 = .ok (.iastore, 1) := by decide +kernel
theorem dd_M_add_136 : decode cd_M_add 136 = .ok (.iinc 4 (-1), 3) := by decide +kernel
theorem dd_M_add_139 : decode cd_M_add 139 = .ok (.goto (-54), 3) := by decide +kernel
theorem dd_M_add_142 : decode cd_M_add 142 = .ok (.aload_n 0, 1) := by decide +kernel
theorem dd_M_add_143 : decode cd_M_add 143 = .ok (.getfield 81, 3) := by decide +kernel
theorem dd_M_add_146 : decode cd_M_add 146 = .ok (.iload 4, 2) := by decide +kernel
theorem dd_M_add_148 : decode cd_M_add 148 = .ok (.lload_n 1, 1) := by decide +kernel
theorem dd_M_add_149 : decode cd_M_add 149 = .ok (.lastore, 1) := by decide +kernel
theorem dd_M_add_150 : decode cd_M_add 150 = .ok (.aload_n 0, 1) := by decide +kernel
theorem dd_M_add_151 : decode cd_M_add 151 = .ok (.getfield 84, 3) := by decide +kernel
theorem dd_M_add_154 : decode cd_M_add 154 = .ok (.iload 4, 2) := by decide +kernel
theorem dd_M_add_156 : decode cd_M_add 156 = .ok (.iload_n 3, 1) := by decide +kernel
theorem dd_M_add_157 : decode cd_M_add 157 = .ok (.iastore, 1) := by decide +kernel
theorem dd_M_add_158 : decode cd_M_add 158 = .ok (.aload_n 0, 1) := by decide +kernel
theorem dd_M_add_159 : decode cd_M_add 159 = .ok (.dup, 1) := by decide +kernel
theorem dd_M_add_160 : decode cd_M_add 160 = .ok (.getfield 198, 3) := by decide +kernel
theorem dd_M_add_163 : decode cd_M_add 163 = .ok (.iconst 1, 1) := by decide +kernel
theorem dd_M_add_164 : decode cd_M_add 164 = .ok (.iadd, 1) := by decide +kernel
theorem dd_M_add_165 : decode cd_M_add 165 = .ok (.putfield 198, 3) := by decide +kernel
theorem dd_M_add_168 : decode cd_M_add 168 = .ok (.aload_n 0, 1) := by decide +kernel
theorem dd_M_add_169 : decode cd_M_add 169 = .ok (.getfield 198, 3) := by decide +kernel
theorem dd_M_add_172 : decode cd_M_add 172 = .ok (.ireturn, 1) := by decide +kernel
theorem dd_M_remove_0 : decode cd_M_remove 0 = .ok (.aload_n 0, 1) := by decide +kernel
theorem dd_M_remove_1 : decode cd_M_remove 1 = .ok (.getfield 181, 3) := by decide +kernel
theorem dd_M_remove_4 : decode cd_M_remove 4 = .ok (.ifCond .ne 5, 3) := by decide +kernel
theorem dd_M_remove_7 : decode cd_M_remove 7 = .ok (.iconst (-1), 1) := by decide +kernel
theorem dd_M_remove_8 : decode cd_M_remove 8 = .ok (.ireturn, 1) := by decide +kernel
theorem dd_M_remove_9 : decode cd_M_remove 9 = .ok (.aload_n 0, 1) := by decide +kernel
theorem dd_M_remove_10 : decode cd_M_remove 10 = .ok (.lload_n 1, 1) := by decide +kernel
theorem dd_M_remove_11 : decode cd_M_remove 11 = .ok (.invokevirtual 202, 3) := by decide +kernel
theorem dd_M_remove_14 : decode cd_M_remove 14 = .ok (.bipush (-2), 2) := by decide +kernel
theorem dd_M_remove_16 : decode cd_M_remove 16 = .ok (.if_icmp .ne 6, 3) := by decide +kernel
theorem dd_M_remove_19 : decode cd_M_remove 19 = .ok (.bipush (-2), 2) := by decide +kernel
theorem dd_M_remove_21 : decode cd_M_remove 21 = .ok (.ireturn, 1) := by decide +kernel
theorem dd_M_remove_22 : decode cd_M_remove 22 = .ok (.aload_n 0, 1) := by decide +kernel
theorem dd_M_remove_23 : decode cd_M_remove 23 = .ok (.lload_n 1, 1) := by decide +kernel
theorem dd_M_remove_24 : decode cd_M_remove 24 = .ok (.invokevirtual 206, 3) := by decide +kernel
theorem dd_M_remove_27 : decode cd_M_remove 27 = .ok (.istore_n 3, 1) := by decide +kernel
theorem dd_M_remove_28 : decode cd_M_remove 28 = .ok (.iload_n 3, 1) := by decide +kernel
theorem dd_M_remove_29 : decode cd_M_remove 29 = .ok (.ifCond .ge 6, 3) := by decide +kernel
theorem dd_M_remove_32 : decode cd_M_remove 32 = .ok (.bipush (-4), 2) := by decide +kernel
theorem dd_M_remove_34 : decode cd_M_remove 34 = .ok (.ireturn, 1) := by decide +kernel
theorem dd_M_remove_35 : decode cd_M_remove 35 = .ok (.aload_n 0, 1) := by decide +kernel
theorem dd_M_remove_36 : decode cd_M_remove 36 = .ok (.dup, 1) := by decide +kernel
theorem dd_M_remove_37 : decode cd_M_remove 37 = .ok (.getfield 198, 3) := by decide +kernel
theorem dd_M_remove_40 : decode cd_M_remove 40 = .ok (.iconst 1, 1) := by decide +kernel
theorem dd_M_remove_41 : decode cd_M_remove 41 = .ok (.isub, 1) := by decide +kernel
theorem dd_M_remove_42 : decode cd_M_remove 42 = .ok (.putfield 198, 3) := by decide +kernel
theorem dd_M_remove_45 : decode cd_M_remove 45 = .ok (.iload_n 3, 1) := by decide +kernel
theorem dd_M_remove_46 : decode cd_M_remove 46 = .ok (.istore 4, 2) := by decide +kernel
theorem dd_M_remove_48 : decode cd_M_remove 48 = .ok (.iload 4, 2) := by decide +kernel
theorem dd_M_remove_50 : decode cd_M_remove 50 = .ok (.aload_n 0, 1) := by decide +kernel
theorem dd_M_remove_51 : decode cd_M_remove 51 = .ok (.getfield 198, 3) := by decide +kernel
theorem dd_M_remove_54 : decode cd_M_remove 54 = .ok (.if_icmp .ge 41, 3) := by decide +kernel
theorem dd_M_remove_57 : decode cd_M_remove 57 = .ok (.aload_n 0, 1) := by decide +kernel
theorem dd_M_remove_58 : decode cd_M_remove 58 = .ok (.getfield 81, 3) := by decide +kernel
theorem dd_M_remove_61 : decode cd_M_remove 61 = .ok (.iload 4, 2) := by decide +kernel
theorem dd_M_remove_63 : decode cd_M_remove 63 = .ok (.aload_n 0, 1) := by decide +kernel
theorem dd_M_remove_64 : decode cd_M_remove 64 = .ok (.getfield 81, 3) := by decide +kernel
theorem dd_M_remove_67 : decode cd_M_remove 67 = .ok (.iload 4, 2) := by decide +kernel
theorem dd_M_remove_69 : decode cd_M_remove 69 = .ok (.iconst 1, 1) := by decide +kernel
theorem dd_M_remove_70 : decode cd_M_remove 70 = .ok (.iadd, 1) := by decide +kernel
theorem dd_M_remove_71 : decode cd_M_remove 71 = .ok (.laload, 1) := by decide +kernel
theorem dd_M_remove_72 : decode cd_M_remove 72 = .ok (.lastore, 1) := by decide +kernel
theorem dd_M_remove_73 : decode cd_M_remove 73 = .ok (.aload_n 0, 1) := by decide +kernel
theorem dd_M_remove_74 : decode cd_M_remove 74 = .ok (.getfield 84, 3) := by decide +kernel
theorem dd_M_remove_77 : decode cd_M_remove 77 = .ok (.iload 4, 2) := by decide +kernel
theorem dd_M_remove_79 : decode cd_M_remove 79 = .ok (.aload_n 0, 1) := by decide +kernel
theorem dd_M_remove_80 : decode cd_M_remove 80 = .ok (.getfield 84, 3) := by decide +kernel
theorem dd_M_remove_83 : decode cd_M_remove 83 = .ok (.iload 4, 2) := by decide +kernel
theorem dd_M_remove_85 : decode cd_M_remove 85 = .ok (.iconst 1, 1) := by decide +kernel
theorem dd_M_remove_86 : decode cd_M_remove 86 = .ok (.iadd, 1) := by decide +kernel
theorem dd_M_remove_87 : decode cd_M_remove 87 = .ok (.iaload, 1) := by decide +kernel
theorem dd_M_remove_88 : decode cd_M_remove 88 = .ok (.iastore, 1) := by decide +kernel
theorem dd_M_remove_89 : decode cd_M_remove 89 = .ok (.iinc 4 1, 3) := by decide +kernel
theorem dd_M_remove_92 : decode cd_M_remove 92 = .ok (.goto (-44), 3) := by decide +kernel
theorem dd_M_remove_95 : decode cd_M_remove 95 = .ok (.aload_n 0, 1) := by decide +kernel
theorem dd_M_remove_96 : decode cd_M_remove 96 = .ok (.getfield 198, 3) := by decide +kernel
theorem dd_M_remove_99 : decode cd_M_remove 99 = .ok (.ireturn, 1) := by decide +kernel
theorem dd_M_close_0 : decode cd_M_close 0 = .ok (.aload_n 0, 1) := by decide +kernel
theorem dd_M_close_1 : decode cd_M_close 1 = .ok (.getfield 181, 3) := by decide +kernel
theorem dd_M_close_4 : decode cd_M_close 4 = .ok (.ifCond .ne 5, 3) := by decide +kernel
theorem dd_M_close_7 : decode cd_M_close 7 = .ok (.iconst (-1), 1) := by decide +kernel
theorem dd_M_close_8 : decode cd_M_close 8 = .ok (.ireturn, 1) := by decide +kernel
theorem dd_M_close_9 : decode cd_M_close 9 = .ok (.aload_n 0, 1) := by decide +kernel
theorem dd_M_close_10 : decode cd_M_close 10 = .ok (.getfield 209, 3) := by decide +kernel
theorem dd_M_close_13 : decode cd_M_close 13 = .ok (.bipush 16, 2) := by decide +kernel
theorem dd_M_close_15 : decode cd_M_close 15 = .ok (.if_icmp .ne 6, 3) := by decide +kernel
theorem dd_M_close_18 : decode cd_M_close 18 = .ok (.bipush (-6), 2) := by decide +kernel
theorem dd_M_close_20 : decode cd_M_close 20 = .ok (.ireturn, 1) := by decide +kernel
theorem dd_M_close_21 : decode cd_M_close 21 = .ok (.aload_n 0, 1) := by decide +kernel
theorem dd_M_close_22 : decode cd_M_close 22 = .ok (.dup, 1) := by decide +kernel
theorem dd_M_close_23 : decode cd_M_close 23 = .ok (.getfield 209, 3) := by decide +kernel
theorem dd_M_close_26 : decode cd_M_close 26 = .ok (.iconst 1, 1) := by decide +kernel
theorem dd_M_close_27 : decode cd_M_close 27 = .ok (.iadd, 1) := by decide +kernel
theorem dd_M_close_28 : decode cd_M_close 28 = .ok (.putfield 209, 3) := by decide +kernel
theorem dd_M_close_31 : decode cd_M_close 31 = .ok (.aload_n 0, 1) := by decide +kernel
theorem dd_M_close_32 : decode cd_M_close 32 = .ok (.getfield 87, 3) := by decide +kernel
theorem dd_M_close_35 : decode cd_M_close 35 = .ok (.aload_n 0, 1) := by decide +kernel
theorem dd_M_close_36 : decode cd_M_close 36 = .ok (.getfield 209, 3) := by decide +kernel
theorem dd_M_close_39 : decode cd_M_close 39 = .ok (.aload_n 0, 1) := by decide +kernel
theorem dd_M_close_40 : decode cd_M_close 40 = .ok (.getfield 198, 3) := by decide +kernel
theorem dd_M_close_43 : decode cd_M_close 43 = .ok (.iastore, 1) := by decide +kernel
theorem dd_M_close_44 : decode cd_M_close 44 = .ok (.aload_n 0, 1) := by decide +kernel
theorem dd_M_close_45 : decode cd_M_close 45 = .ok (.lconst 0, 1) := by decide +kernel
theorem dd_M_close_46 : decode cd_M_close 46 = .ok (.putfield 154, 3) := by decide +kernel
theorem dd_M_close_49 : decode cd_M_close 49 = .ok (.aload_n 0, 1) := by decide +kernel
theorem dd_M_close_50 : decode cd_M_close 50 = .ok (.ldc2_w 118, 3) := by decide +kernel
theorem dd_M_close_53 : decode cd_M_close 53 = .ok (.putfield 151, 3) := by decide +kernel
theorem dd_M_close_56 : decode cd_M_close 56 = .ok (.iconst 0, 1) := by decide +kernel
theorem dd_M_close_57 : decode cd_M_close 57 = .ok (.istore_n 1, 1) := by decide +kernel
theorem dd_M_close_58 : decode cd_M_close 58 = .ok (.iload_n 1, 1) := by decide +kernel
theorem dd_M_close_59 : decode cd_M_close 59 = .ok (.aload_n 0, 1) := by decide +kernel
theorem dd_M_close_60 : decode cd_M_close 60 = .ok (.getfield 198, 3) := by decide +kernel
theorem dd_M_close_63 : decode cd_M_close 63 = .ok (.if_icmp .ge 67, 3) := by decide +kernel
theorem dd_M_close_66 : decode cd_M_close 66 = .ok (.aload_n 0, 1) := by decide +kernel
theorem dd_M_close_67 : decode cd_M_close 67 = .ok (.getfield 90, 3) := by decide +kernel
theorem dd_M_close_70 : decode cd_M_close 70 = .ok (.bipush 10, 2) := by decide +kernel
theorem dd_M_close_72 : decode cd_M_close 72 = .ok (.aload_n 0, 1) := by decide +kernel
theorem dd_M_close_73 : decode cd_M_close 73 = .ok (.getfield 209, 3) := by decide +kernel
theorem dd_M_close_76 : decode cd_M_close 76 = .ok (.imul, 1) := by decide +kernel
theorem dd_M_close_77 : decode cd_M_close 77 = .ok (.iload_n 1, 1) := by decide +kernel
theorem dd_M_close_78 : decode cd_M_close 78 = .ok (.iadd, 1) := by decide +kernel
theorem dd_M_close_79 : decode cd_M_close 79 = .ok (.aload_n 0, 1) := by decide +kernel
theorem dd_M_close_80 : decode cd_M_close 80 = .ok (.getfield 81, 3) := by decide +kernel
theorem dd_M_close_83 : decode cd_M_close 83 = .ok (.iload_n 1, 1) := by decide +kernel
theorem dd_M_close_84 : decode cd_M_close 84 = .ok (.laload, 1) := by decide +kernel
theorem dd_M_close_85 : decode cd_M_close 85 = .ok (.lastore, 1) := by decide +kernel
theorem dd_M_close_86 : decode cd_M_close 86 = .ok (.aload_n 0, 1) := by decide +kernel
theorem dd_M_close_87 : decode cd_M_close 87 = .ok (.getfield 93, 3) := by decide +kernel
theorem dd_M_close_90 : decode cd_M_close 90 = .ok (.bipush 10, 2) := by decide +kernel
theorem dd_M_close_92 : decode cd_M_close 92 = .ok (.aload_n 0, 1) := by decide +kernel
theorem dd_M_close_93 : decode cd_M_close 93 = .ok (.getfield 209, 3) := by decide +kernel
theorem dd_M_close_96 : decode cd_M_close 96 = .ok (.imul, 1) := by decide +kernel
theorem dd_M_close_97 : decode cd_M_close 97 = .ok (.iload_n 1, 1) := by decide +kernel
theorem dd_M_close_98 : decode cd_M_close 98 = .ok (.iadd, 1) := by decide +kernel
theorem dd_M_close_99 : decode cd_M_close 99 = .ok (.aload_n 0, 1) := by decide +kernel
theorem dd_M_close_100 : decode cd_M_close 100 = .ok (.getfield 84, 3) := by decide +kernel
theorem dd_M_close_103 : decode cd_M_close 103 = .ok (.iload_n 1, 1) := by decide +kernel
theorem dd_M_close_104 : decode cd_M_close 104 = .ok (.iaload, 1) := by decide +kernel
theorem dd_M_close_105 : decode cd_M_close 105 = .ok (.iastore, 1) := by decide +kernel
theorem dd_M_close_106 : decode cd_M_close 106 = .ok (.aload_n 0, 1) := by decide +kernel
theorem dd_M_close_107 : decode cd_M_close 107 = .ok (.aload_n 0, 1) := by decide +kernel
theorem dd_M_close_108 : decode cd_M_close 108 = .ok (.getfield 154, 3) := by decide +kernel
theorem dd_M_close_111 : decode cd_M_close 111 = .ok (.aload_n 0, 1) := by decide +kernel
theorem dd_M_close_112 : decode cd_M_close 112 = .ok (.getfield 151, 3) := by decide +kernel
theorem dd_M_close_115 : decode cd_M_close 115 = .ok (.aload_n 0, 1) := by decide +kernel
theorem dd_M_close_116 : decode cd_M_close 116 = .ok (.getfield 84, 3) := by decide +kernel
theorem dd_M_close_119 : decode cd_M_close 119 = .ok (.iload_n 1, 1) := by decide +kernel
theorem dd_M_close_120 : decode cd_M_close 120 = .ok (.iaload, 1) := by decide +kernel
theorem dd_M_close_121 : decode cd_M_close 121 = .ok (.invokevirtual 212, 3) := by decide +kernel
theorem dd_M_close_124 : decode cd_M_close 124 = .ok (.iinc 1 1, 3) := by decide +kernel
theorem dd_M_close_127 : decode cd_M_close 127 = .ok (.goto (-69), 3) := by decide +kernel
theorem dd_M_close_130 : decode cd_M_close 130 = .ok (.aload_n 0, 1) := by decide +kernel
theorem dd_M_close_131 : decode cd_M_close 131 = .ok (.getfield 96, 3) := by decide +kernel
theorem dd_M_close_134 : decode cd_M_close 134 = .ok (.aload_n 0, 1) := by decide +kernel
theorem dd_M_close_135 : decode cd_M_close 135 = .ok (.getfield 209, 3) := by decide +kernel
theorem dd_M_close_138 : decode cd_M_close 138 = .ok (.aload_n 0, 1) := by decide +kernel
theorem dd_M_close_139 : decode cd_M_close 139 = .ok (.getfield 154, 3) := by decide +kernel
theorem dd_M_close_142 : decode cd_M_close 142 = .ok (.lastore, 1) := by decide +kernel
theorem dd_M_close_143 : decode cd_M_close 143 = .ok (.aload_n 0, 1) := by decide +kernel
theorem dd_M_close_144 : decode cd_M_close 144 = .ok (.getfield 99, 3) := by decide +kernel
theorem dd_M_close_147 : decode cd_M_close 147 = .ok (.aload_n 0, 1) := by decide +kernel
theorem dd_M_close_148 : decode cd_M_close 148 = .ok (.getfield 209, 3) := by decide +kernel
theorem dd_M_close_151 : decode cd_M_close 151 = .ok (.aload_n 0, 1) := by decide +kernel
theorem dd_M_close_152 : decode cd_M_close 152 = .ok (.getfield 151, 3) := by decide +kernel
theorem dd_M_close_155 : decode cd_M_close 155 = .ok (.lastore, 1) := by decide +kernel
theorem dd_M_close_156 : decode cd_M_close 156 = .ok (.aload_n 0, 1) := by decide +kernel
theorem dd_M_close_157 : decode cd_M_close 157 = .ok (.getfield 209, 3) := by decide +kernel
theorem dd_M_close_160 : decode cd_M_close 160 = .ok (.ireturn, 1) := by decide +kernel
theorem dd_M_size_0 : decode cd_M_size 0 = .ok (.aload_n 0, 1) := by decide +kernel
theorem dd_M_size_1 : decode cd_M_size 1 = .ok (.getfield 181, 3) := by decide +kernel
theorem dd_M_size_4 : decode cd_M_size 4 = .ok (.ifCond .ne 5, 3) := by decide +kernel
theorem dd_M_size_7 : decode cd_M_size 7 = .ok (.iconst (-1), 1) := by decide +kernel
theorem dd_M_size_8 : decode cd_M_size 8 = .ok (.ireturn, 1) := by decide +kernel
theorem dd_M_size_9 : decode cd_M_size 9 = .ok (.iload_n 1, 1) := by decide +kernel
theorem dd_M_size_10 : decode cd_M_size 10 = .ok (.ifCond .ne 15, 3) := by decide +kernel
theorem dd_M_size_13 : decode cd_M_size 13 = .ok (.aload_n 0, 1) := by decide +kernel
theorem dd_M_size_14 : decode cd_M_size 14 = .ok (.getfield 87, 3) := by decide +kernel
theorem dd_M_size_17 : decode cd_M_size 17 = .ok (.aload_n 0, 1) := by decide +kernel
theorem dd_M_size_18 : decode cd_M_size 18 = .ok (.getfield 209, 3) := by decide +kernel
theorem dd_M_size_21 : decode cd_M_size 21 = .ok (.iaload, 1) := by decide +kernel
theorem dd_M_size_22 : decode cd_M_size 22 = .ok (.goto 29, 3) := by decide +kernel
theorem dd_M_size_25 : decode cd_M_size 25 = .ok (.iload_n 1, 1) := by decide +kernel
theorem dd_M_size_26 : decode cd_M_size 26 = .ok (.iconst 1, 1) := by decide +kernel
theorem dd_M_size_27 : decode cd_M_size 27 = .ok (.if_icmp .ne 10, 3) := by decide +kernel
theorem dd_M_size_30 : decode cd_M_size 30 = .ok (.aload_n 0, 1) := by decide +kernel
theorem dd_M_size_31 : decode cd_M_size 31 = .ok (.getfield 198, 3) := by decide +kernel
theorem dd_M_size_34 : decode cd_M_size 34 = .ok (.goto 17, 3) := by decide +kernel
theorem dd_M_size_37 : decode cd_M_size 37 = .ok (.iload_n 1, 1) := by decide +kernel
theorem dd_M_size_38 : decode cd_M_size 38 = .ok (.iconst 2, 1) := by decide +kernel
theorem dd_M_size_39 : decode cd_M_size 39 = .ok (.if_icmp .ne 10, 3) := by decide +kernel
theorem dd_M_size_42 : decode cd_M_size 42 = .ok (.aload_n 0, 1) := by decide +kernel
theorem dd_M_size_43 : decode cd_M_size 43 = .ok (.getfield 209, 3) := by decide +kernel
theorem dd_M_size_46 : decode cd_M_size 46 = .ok (.goto 5, 3) := by decide +kernel
theorem dd_M_size_49 : decode cd_M_size 49 = .ok (.bipush (-2), 2) := by decide +kernel
theorem dd_M_size_51 : decode cd_M_size 51 = .ok (.ireturn, 1) := by decide +kernel
theorem dd_M_state_0 : decode cd_M_state 0 = .ok (.aload_n 0, 1) := by decide +kernel
theorem dd_M_state_1 : decode cd_M_state 1 = .ok (.getfield 181, 3) := by decide +kernel
theorem dd_M_state_4 : decode cd_M_state 4 = .ok (.ifCond .ne 5, 3) := by decide +kernel
theorem dd_M_state_7 : decode cd_M_state 7 = .ok (.iconst (-1), 1) := by decide +kernel
theorem dd_M_state_8 : decode cd_M_state 8 = .ok (.ireturn, 1) := by decide +kernel
theorem dd_M_state_9 : decode cd_M_state 9 = .ok (.aload_n 0, 1) := by decide +kernel
theorem dd_M_state_10 : decode cd_M_state 10 = .ok (.lload_n 1, 1) := by decide +kernel
theorem dd_M_state_11 : decode cd_M_state 11 = .ok (.invokevirtual 202, 3) := by decide +kernel
theorem dd_M_state_14 : decode cd_M_state 14 = .ok (.bipush (-2), 2) := by decide +kernel
theorem dd_M_state_16 : decode cd_M_state 16 = .ok (.if_icmp .ne 6, 3) := by decide +kernel
theorem dd_M_state_19 : decode cd_M_state 19 = .ok (.bipush (-2), 2) := by decide +kernel
theorem dd_M_state_21 : decode cd_M_state 21 = .ok (.ireturn, 1) := by decide +kernel
theorem dd_M_state_22 : decode cd_M_state 22 = .ok (.aload_n 0, 1) := by decide +kernel
theorem dd_M_state_23 : decode cd_M_state 23 = .ok (.aload_n 0, 1) := by decide +kernel
theorem dd_M_state_24 : decode cd_M_state 24 = .ok (.getfield 209, 3) := by decide +kernel
theorem dd_M_state_27 : decode cd_M_state 27 = .ok (.lload_n 1, 1) := by decide +kernel
theorem dd_M_state_28 : decode cd_M_state 28 = .ok (.invokevirtual 216, 3) := by decide +kernel
theorem dd_M_state_31 : decode cd_M_state 31 = .ok (.ifCond .lt 7, 3) := by decide +kernel
theorem dd_M_state_34 : decode cd_M_state 34 = .ok (.iconst 1, 1) := by decide +kernel
theorem dd_M_state_35 : decode cd_M_state 35 = .ok (.goto 4, 3) := by decide +kernel
theorem dd_M_state_38 : decode cd_M_state 38 = .ok (.iconst 0, 1) := by decide +kernel
theorem dd_M_state_39 : decode cd_M_state 39 = .ok (.aload_n 0, 1) := by decide +kernel
theorem dd_M_state_40 : decode cd_M_state 40 = .ok (.lload_n 1, 1) := by decide +kernel
theorem dd_M_state_41 : decode cd_M_state 41 = .ok (.invokevirtual 206, 3) := by decide +kernel
theorem dd_M_state_44 : decode cd_M_state 44 = .ok (.ifCond .lt 7, 3) := by decide +kernel
theorem dd_M_state_47 : decode cd_M_state 47 = .ok (.iconst 2, 1) := by decide +kernel
theorem dd_M_state_48 : decode cd_M_state 48 = .ok (.goto 4, 3) := by decide +kernel
theorem dd_M_state_51 : decode cd_M_state 51 = .ok (.iconst 0, 1) := by decide +kernel
theorem dd_M_state_52 : decode cd_M_state 52 = .ok (.iadd, 1) := by decide +kernel
theorem dd_M_state_53 : decode cd_M_state 53 = .ok (.ireturn, 1) := by decide +kernel
theorem dd_M_isEpoch_0 : decode cd_M_isEpoch 0 = .ok (.iload_n 1, 1) := by decide +kernel
theorem dd_M_isEpoch_1 : decode cd_M_isEpoch 1 = .ok (.ifCond .lt 15, 3) := by decide +kernel
theorem dd_M_isEpoch_4 : decode cd_M_isEpoch 4 = .ok (.iload_n 1, 1) := by decide +kernel
theorem dd_M_isEpoch_5 : decode cd_M_isEpoch 5 = .ok (.aload_n 0, 1) := by decide +kernel
theorem dd_M_isEpoch_6 : decode cd_M_isEpoch 6 = .ok (.getfield 209, 3) := by decide +kernel
theorem dd_M_isEpoch_9 : decode cd_M_isEpoch 9 = .ok (.if_icmp .gt 7, 3) := by decide +kernel
theorem dd_M_isEpoch_12 : decode cd_M_isEpoch 12 = .ok (.iconst 1, 1) := by decide +kernel
theorem dd_M_isEpoch_13 : decode cd_M_isEpoch 13 = .ok (.goto 4, 3) := by decide +kernel
theorem dd_M_isEpoch_16 : decode cd_M_isEpoch 16 = .ok (.iconst 0, 1) := by decide +kernel
theorem dd_M_isEpoch_17 : decode cd_M_isEpoch 17 = .ok (.ireturn, 1) := by decide +kernel
theorem dd_M_accumulator_0 : decode cd_M_accumulator 0 = .ok (.aload_n 0, 1) := by decide +kernel
theorem dd_M_accumulator_1 : decode cd_M_accumulator 1 = .ok (.getfield 181, 3) := by decide +kernel
theorem dd_M_accumulator_4 : decode cd_M_accumulator 4 = .ok (.ifCond .eq 11, 3) := by decide +kernel
theorem dd_M_accumulator_7 : decode cd_M_accumulator 7 = .ok (.aload_n 0, 1) := by decide +kernel
theorem dd_M_accumulator_8 : decode cd_M_accumulator 8 = .ok (.iload_n 1, 1) := by decide +kernel
theorem dd_M_accumulator_9 : decode cd_M_accumulator 9 = .ok (.invokevirtual 220, 3) := by decide +kernel
theorem dd_M_accumulator_12 : decode cd_M_accumulator 12 = .ok (.ifCond .ne 7, 3) := by decide +kernel
theorem dd_M_accumulator_15 : decode cd_M_accumulator 15 = .ok (.lconst 0, 1) := by decide +kernel
theorem dd_M_accumulator_16 : decode cd_M_accumulator 16 = .ok (.goto 22, 3) := by decide +kernel
theorem dd_M_accumulator_19 : decode cd_M_accumulator 19 = .ok (.iload_n 2, 1) := by decide +kernel
theorem dd_M_accumulator_20 : decode cd_M_accumulator 20 = .ok (.ifCond .eq 12, 3) := by decide +kernel
theorem dd_M_accumulator_23 : decode cd_M_accumulator 23 = .ok (.aload_n 0, 1) := by decide +kernel
theorem dd_M_accumulator_24 : decode cd_M_accumulator 24 = .ok (.getfield 96, 3) := by decide +kernel
theorem dd_M_accumulator_27 : decode cd_M_accumulator 27 = .ok (.iload_n 1, 1) := by decide +kernel
theorem dd_M_accumulator_28 : decode cd_M_accumulator 28 = .ok (.laload, 1) := by decide +kernel
theorem dd_M_accumulator_29 : decode cd_M_accumulator 29 = .ok (.goto 9, 3) := by decide +kernel
theorem dd_M_accumulator_32 : decode cd_M_accumulator 32 = .ok (.aload_n 0, 1) := by decide +kernel
theorem dd_M_accumulator_33 : decode cd_M_accumulator 33 = .ok (.getfield 99, 3) := by decide +kernel
theorem dd_M_accumulator_36 : decode cd_M_accumulator 36 = .ok (.iload_n 1, 1) := by decide +kernel
theorem dd_M_accumulator_37 : decode cd_M_accumulator 37 = .ok (.laload, 1) := by decide +kernel
theorem dd_M_accumulator_38 : decode cd_M_accumulator 38 = .ok (.lreturn, 1) := by decide +kernel
theorem dd_M_note_0 : decode cd_M_note 0 = .ok (.aload_n 0, 1) := by decide +kernel
theorem dd_M_note_1 : decode cd_M_note 1 = .ok (.getfield 181, 3) := by decide +kernel
theorem dd_M_note_4 : decode cd_M_note 4 = .ok (.ifCond .ne 5, 3) := by decide +kernel
theorem dd_M_note_7 : decode cd_M_note 7 = .ok (.iconst (-1), 1) := by decide +kernel
theorem dd_M_note_8 : decode cd_M_note 8 = .ok (.ireturn, 1) := by decide +kernel
theorem dd_M_note_9 : decode cd_M_note 9 = .ok (.aload_n 0, 1) := by decide +kernel
theorem dd_M_note_10 : decode cd_M_note 10 = .ok (.iload_n 1, 1) := by decide +kernel
theorem dd_M_note_11 : decode cd_M_note 11 = .ok (.invokevirtual 220, 3) := by decide +kernel
theorem dd_M_note_14 : decode cd_M_note 14 = .ok (.ifCond .eq 16, 3) := by decide +kernel
theorem dd_M_note_17 : decode cd_M_note 17 = .ok (.iload_n 1, 1) := by decide +kernel
theorem dd_M_note_18 : decode cd_M_note 18 = .ok (.ifCond .eq 12, 3) := by decide +kernel
theorem dd_M_note_21 : decode cd_M_note 21 = .ok (.iload_n 2, 1) := by decide +kernel
theorem dd_M_note_22 : decode cd_M_note 22 = .ok (.ifCond .lt 8, 3) := by decide +kernel
theorem dd_M_note_25 : decode cd_M_note 25 = .ok (.iload_n 2, 1) := by decide +kernel
theorem dd_M_note_26 : decode cd_M_note 26 = .ok (.iconst 3, 1) := by decide +kernel
theorem dd_M_note_27 : decode cd_M_note 27 = .ok (.if_icmp .le 6, 3) := by decide +kernel
theorem dd_M_note_30 : decode cd_M_note 30 = .ok (.bipush (-2), 2) := by decide +kernel
theorem dd_M_note_32 : decode cd_M_note 32 = .ok (.ireturn, 1) := by decide +kernel
theorem dd_M_note_33 : decode cd_M_note 33 = .ok (.iload_n 2, 1) := by decide +kernel
theorem dd_M_note_34 : decode cd_M_note 34 = .ok (.iconst 2, 1) := by decide +kernel
theorem dd_M_note_35 : decode cd_M_note 35 = .ok (.irem, 1) := by decide +kernel
theorem dd_M_note_36 : decode cd_M_note 36 = .ok (.ifCond .ne 7, 3) := by decide +kernel
theorem dd_M_note_39 : decode cd_M_note 39 = .ok (.iload_n 1, 1) := by decide +kernel
theorem dd_M_note_40 : decode cd_M_note 40 = .ok (.goto 6, 3) := by decide +kernel
theorem dd_M_note_43 : decode cd_M_note 43 = .ok (.iload_n 1, 1) := by decide +kernel
theorem dd_M_note_44 : decode cd_M_note 44 = .ok (.iconst 1, 1) := by decide +kernel
theorem dd_M_note_45 : decode cd_M_note 45 = .ok (.isub, 1) := by decide +kernel
theorem dd_M_note_46 : decode cd_M_note 46 = .ok (.istore 4, 2) := by decide +kernel
theorem dd_M_note_48 : decode cd_M_note 48 = .ok (.iload_n 2, 1) := by decide +kernel
theorem dd_M_note_49 : decode cd_M_note 49 = .ok (.iconst 2, 1) := by decide +kernel
theorem dd_M_note_50 : decode cd_M_note 50 = .ok (.irem, 1) := by decide +kernel
theorem dd_M_note_51 : decode cd_M_note 51 = .ok (.ifCond .ne 9, 3) := by decide +kernel
theorem dd_M_note_54 : decode cd_M_note 54 = .ok (.iload_n 1, 1) := by decide +kernel
theorem dd_M_note_55 : decode cd_M_note 55 = .ok (.iconst 1, 1) := by decide +kernel
theorem dd_M_note_56 : decode cd_M_note 56 = .ok (.isub, 1) := by decide +kernel
theorem dd_M_note_57 : decode cd_M_note 57 = .ok (.goto 4, 3) := by decide +kernel
theorem dd_M_note_60 : decode cd_M_note 60 = .ok (.iload_n 1, 1) := by decide +kernel
theorem dd_M_note_61 : decode cd_M_note 61 = .ok (.istore 5, 2) := by decide +kernel
theorem dd_M_note_63 : decode cd_M_note 63 = .ok (.iconst 0, 1) := by decide +kernel
theorem dd_M_note_64 : decode cd_M_note 64 = .ok (.istore 6, 2) := by decide +kernel
theorem dd_M_note_66 : decode cd_M_note 66 = .ok (.bipush 10, 2) := by decide +kernel
theorem dd_M_note_68 : decode cd_M_note 68 = .ok (.iload 4, 2) := by decide +kernel
theorem dd_M_note_70 : decode cd_M_note 70 = .ok (.imul, 1) := by decide +kernel
theorem dd_M_note_71 : decode cd_M_note 71 = .ok (.istore 7, 2) := by decide +kernel
theorem dd_M_note_73 : decode cd_M_note 73 = .ok (.iload 7, 2) := by decide +kernel
theorem dd_M_note_75 : decode cd_M_note 75 = .ok (.bipush 10, 2) := by decide +kernel
theorem dd_M_note_77 : decode cd_M_note 77 = .ok (.iload 4, 2) := by decide +kernel
theorem dd_M_note_79 : decode cd_M_note 79 = .ok (.imul, 1) := by decide +kernel
theorem dd_M_note_80 : decode cd_M_note 80 = .ok (.aload_n 0, 1) := by decide +kernel
theorem dd_M_note_81 : decode cd_M_note 81 = .ok (.getfield 87, 3) := by decide +kernel
theorem dd_M_note_84 : decode cd_M_note 84 = .ok (.iload 4, 2) := by decide +kernel
theorem dd_M_note_86 : decode cd_M_note 86 = .ok (.iaload, 1) := by decide +kernel
theorem dd_M_note_87 : decode cd_M_note 87 = .ok (.iadd, 1) := by decide +kernel
theorem dd_M_note_88 : decode cd_M_note 88 = .ok (.if_icmp .ge 47, 3) := by decide +kernel
theorem dd_M_note_91 : decode cd_M_note 91 = .ok (.aload_n 0, 1) := by decide +kernel
theorem dd_M_note_92 : decode cd_M_note 92 = .ok (.iload 5, 2) := by decide +kernel
theorem dd_M_note_94 : decode cd_M_note 94 = .ok (.aload_n 0, 1) := by decide +kernel
theorem dd_M_note_95 : decode cd_M_note 95 = .ok (.getfield 90, 3) := by decide +kernel
theorem dd_M_note_98 : decode cd_M_note 98 = .ok (.iload 7, 2) := by decide +kernel
theorem dd_M_note_100 : decode cd_M_note 100 = .ok (.laload, 1) := by decide +kernel
theorem dd_M_note_101 : decode cd_M_note 101 = .ok (.invokevirtual 216, 3) := by decide +kernel
theorem dd_M_note_104 : decode cd_M_note 104 = .ok (.ifCond .ge 25, 3) := by decide +kernel
theorem dd_M_note_107 : decode cd_M_note 107 = .ok (.iload_n 2, 1) := by decide +kernel
theorem dd_M_note_108 : decode cd_M_note 108 = .ok (.iconst 1, 1) := by decide +kernel
theorem dd_M_note_109 : decode cd_M_note 109 = .ok (.if_icmp .le 17, 3) := by decide +kernel
theorem dd_M_note_112 : decode cd_M_note 112 = .ok (.iload 6, 2) := by decide +kernel
theorem dd_M_note_114 : decode cd_M_note 114 = .ok (.iload_n 3, 1) := by decide +kernel
theorem dd_M_note_115 : decode cd_M_note 115 = .ok (.if_icmp .ne 11, 3) := by decide +kernel
theorem dd_M_note_118 : decode cd_M_note 118 = .ok (.aload_n 0, 1) := by decide +kernel
theorem dd_M_note_119 : decode cd_M_note 119 = .ok (.getfield 93, 3) := by decide +kernel
theorem dd_M_note_122 : decode cd_M_note 122 = .ok (.iload 7, 2) := by decide +kernel
theorem dd_M_note_124 : decode cd_M_note 124 = .ok (.iaload, 1) := by decide +kernel
theorem dd_M_note_125 : decode cd_M_note 125 = .ok (.ireturn, 1) := by decide +kernel
theorem dd_M_note_126 : decode cd_M_note 126 = .ok (.iinc 6 1, 3) := by decide +kernel
theorem dd_M_note_129 : decode cd_M_note 129 = .ok (.iinc 7 1, 3) := by decide +kernel
theorem dd_M_note_132 : decode cd_M_note 132 = .ok (.goto (-59), 3) := by decide +kernel
theorem dd_M_note_135 : decode cd_M_note 135 = .ok (.iload_n 2, 1) := by decide +kernel
theorem dd_M_note_136 : decode cd_M_note 136 = .ok (.iconst 1, 1) := by decide +kernel
theorem dd_M_note_137 : decode cd_M_note 137 = .ok (.if_icmp .le 8, 3) := by decide +kernel
theorem dd_M_note_140 : decode cd_M_note 140 = .ok (.bipush (-2), 2) := by decide +kernel
theorem dd_M_note_142 : decode cd_M_note 142 = .ok (.goto 5, 3) := by decide +kernel
theorem dd_M_note_145 : decode cd_M_note 145 = .ok (.iload 6, 2) := by decide +kernel
theorem dd_M_note_147 : decode cd_M_note 147 = .ok (.ireturn, 1) := by decide +kernel
theorem dd_M_issued_0 : decode cd_M_issued 0 = .ok (.aload_n 0, 1) := by decide +kernel
theorem dd_M_issued_1 : decode cd_M_issued 1 = .ok (.lconst 0, 1) := by decide +kernel
theorem dd_M_issued_2 : decode cd_M_issued 2 = .ok (.putfield 154, 3) := by decide +kernel
theorem dd_M_issued_5 : decode cd_M_issued 5 = .ok (.aload_n 0, 1) := by decide +kernel
theorem dd_M_issued_6 : decode cd_M_issued 6 = .ok (.ldc2_w 118, 3) := by decide +kernel
theorem dd_M_issued_9 : decode cd_M_issued 9 = .ok (.putfield 151, 3) := by decide +kernel
theorem dd_M_issued_12 : decode cd_M_issued 12 = .ok (.bipush 10, 2) := by decide +kernel
theorem dd_M_issued_14 : decode cd_M_issued 14 = .ok (.aload_n 0, 1) := by decide +kernel
theorem dd_M_issued_15 : decode cd_M_issued 15 = .ok (.getfield 209, 3) := by decide +kernel
theorem dd_M_issued_18 : decode cd_M_issued 18 = .ok (.imul, 1) := by decide +kernel
theorem dd_M_issued_19 : decode cd_M_issued 19 = .ok (.istore_n 2, 1) := by decide +kernel
theorem dd_M_issued_20 : decode cd_M_issued 20 = .ok (.iload_n 2, 1) := by decide +kernel
theorem dd_M_issued_21 : decode cd_M_issued 21 = .ok (.bipush 10, 2) := by decide +kernel
theorem dd_M_issued_23 : decode cd_M_issued 23 = .ok (.aload_n 0, 1) := by decide +kernel
theorem dd_M_issued_24 : decode cd_M_issued 24 = .ok (.getfield 209, 3) := by decide +kernel
theorem dd_M_issued_27 : decode cd_M_issued 27 = .ok (.imul, 1) := by decide +kernel
theorem dd_M_issued_28 : decode cd_M_issued 28 = .ok (.aload_n 0, 1) := by decide +kernel
theorem dd_M_issued_29 : decode cd_M_issued 29 = .ok (.getfield 87, 3) := by decide +kernel
theorem dd_M_issued_32 : decode cd_M_issued 32 = .ok (.aload_n 0, 1) := by decide +kernel
theorem dd_M_issued_33 : decode cd_M_issued 33 = .ok (.getfield 209, 3) := by decide +kernel
theorem dd_M_issued_36 : decode cd_M_issued 36 = .ok (.iaload, 1) := by decide +kernel
theorem dd_M_issued_37 : decode cd_M_issued 37 = .ok (.iadd, 1) := by decide +kernel
theorem dd_M_issued_38 : decode cd_M_issued 38 = .ok (.if_icmp .ge 32, 3) := by decide +kernel
theorem dd_M_issued_41 : decode cd_M_issued 41 = .ok (.iload_n 2, 1) := by decide +kernel
theorem dd_M_issued_42 : decode cd_M_issued 42 = .ok (.iload_n 1, 1) := by decide +kernel
theorem dd_M_issued_43 : decode cd_M_issued 43 = .ok (.if_icmp .eq 21, 3) := by decide +kernel
theorem dd_M_issued_46 : decode cd_M_issued 46 = .ok (.aload_n 0, 1) := by decide +kernel
theorem dd_M_issued_47 : decode cd_M_issued 47 = .ok (.aload_n 0, 1) := by decide +kernel
theorem dd_M_issued_48 : decode cd_M_issued 48 = .ok (.getfield 154, 3) := by decide +kernel
theorem dd_M_issued_51 : decode cd_M_issued 51 = .ok (.aload_n 0, 1) := by decide +kernel
theorem dd_M_issued_52 : decode cd_M_issued 52 = .ok (.getfield 151, 3) := by decide +kernel
theorem dd_M_issued_55 : decode cd_M_issued 55 = .ok (.aload_n 0, 1) := by decide +kernel
theorem dd_M_issued_56 : decode cd_M_issued 56 = .ok (.getfield 93, 3) := by decide +kernel
theorem dd_M_issued_59 : decode cd_M_issued 59 = .ok (.iload_n 2, 1) := by decide +kernel
theorem dd_M_issued_60 : decode cd_M_issued 60 = .ok (.iaload, 1) := by decide +kernel
theorem dd_M_issued_61 : decode cd_M_issued 61 = .ok (.invokevirtual 212, 3) := by decide +kernel
theorem dd_M_issued_64 : decode cd_M_issued 64 = .ok (.iinc 2 1, 3) := by decide +kernel
theorem dd_M_issued_67 : decode cd_M_issued 67 = .ok (.goto (-47), 3) := by decide +kernel
theorem dd_M_issued_70 : decode cd_M_issued 70 = .ok (.return_, 1) := by decide +kernel
theorem dd_M_witness_0 : decode cd_M_witness 0 = .ok (.aload_n 0, 1) := by decide +kernel
theorem dd_M_witness_1 : decode cd_M_witness 1 = .ok (.getfield 181, 3) := by decide +kernel
theorem dd_M_witness_4 : decode cd_M_witness 4 = .ok (.ifCond .eq 15, 3) := by decide +kernel
theorem dd_M_witness_7 : decode cd_M_witness 7 = .ok (.aload_n 0, 1) := by decide +kernel
theorem dd_M_witness_8 : decode cd_M_witness 8 = .ok (.aload_n 0, 1) := by decide +kernel
theorem dd_M_witness_9 : decode cd_M_witness 9 = .ok (.getfield 209, 3) := by decide +kernel
theorem dd_M_witness_12 : decode cd_M_witness 12 = .ok (.lload_n 1, 1) := by decide +kernel
theorem dd_M_witness_13 : decode cd_M_witness 13 = .ok (.invokevirtual 216, 3) := by decide +kernel
theorem dd_M_witness_16 : decode cd_M_witness 16 = .ok (.goto 4, 3) := by decide +kernel
theorem dd_M_witness_19 : decode cd_M_witness 19 = .ok (.iconst (-1), 1) := by decide +kernel
theorem dd_M_witness_20 : decode cd_M_witness 20 = .ok (.istore 4, 2) := by decide +kernel
theorem dd_M_witness_22 : decode cd_M_witness 22 = .ok (.iload 4, 2) := by decide +kernel
theorem dd_M_witness_24 : decode cd_M_witness 24 = .ok (.ifCond .ge 5, 3) := by decide +kernel
theorem dd_M_witness_27 : decode cd_M_witness 27 = .ok (.lconst 0, 1) := by decide +kernel
theorem dd_M_witness_28 : decode cd_M_witness 28 = .ok (.lreturn, 1) := by decide +kernel
theorem dd_M_witness_29 : decode cd_M_witness 29 = .ok (.aload_n 0, 1) := by decide +kernel
theorem dd_M_witness_30 : decode cd_M_witness 30 = .ok (.iload 4, 2) := by decide +kernel
theorem dd_M_witness_32 : decode cd_M_witness 32 = .ok (.invokevirtual 223, 3) := by decide +kernel
theorem dd_M_witness_35 : decode cd_M_witness 35 = .ok (.iload_n 3, 1) := by decide +kernel
theorem dd_M_witness_36 : decode cd_M_witness 36 = .ok (.ifCond .eq 10, 3) := by decide +kernel
theorem dd_M_witness_39 : decode cd_M_witness 39 = .ok (.aload_n 0, 1) := by decide +kernel
theorem dd_M_witness_40 : decode cd_M_witness 40 = .ok (.getfield 154, 3) := by decide +kernel
theorem dd_M_witness_43 : decode cd_M_witness 43 = .ok (.goto 7, 3) := by decide +kernel
theorem dd_M_witness_46 : decode cd_M_witness 46 = .ok (.aload_n 0, 1) := by decide +kernel
theorem dd_M_witness_47 : decode cd_M_witness 47 = .ok (.getfield 151, 3) := by decide +kernel
theorem dd_M_witness_50 : decode cd_M_witness 50 = .ok (.lreturn, 1) := by decide +kernel
theorem dd_M_issue_0 : decode cd_M_issue 0 = .ok (.aload_n 0, 1) := by decide +kernel
theorem dd_M_issue_1 : decode cd_M_issue 1 = .ok (.getfield 181, 3) := by decide +kernel
theorem dd_M_issue_4 : decode cd_M_issue 4 = .ok (.ifCond .ne 5, 3) := by decide +kernel
theorem dd_M_issue_7 : decode cd_M_issue 7 = .ok (.iconst (-1), 1) := by decide +kernel
theorem dd_M_issue_8 : decode cd_M_issue 8 = .ok (.ireturn, 1) := by decide +kernel
theorem dd_M_issue_9 : decode cd_M_issue 9 = .ok (.aload_n 0, 1) := by decide +kernel
theorem dd_M_issue_10 : decode cd_M_issue 10 = .ok (.lload_n 1, 1) := by decide +kernel
theorem dd_M_issue_11 : decode cd_M_issue 11 = .ok (.invokevirtual 202, 3) := by decide +kernel
theorem dd_M_issue_14 : decode cd_M_issue 14 = .ok (.bipush (-2), 2) := by decide +kernel
theorem dd_M_issue_16 : decode cd_M_issue 16 = .ok (.if_icmp .ne 6, 3) := by decide +kernel
theorem dd_M_issue_19 : decode cd_M_issue 19 = .ok (.bipush (-2), 2) := by decide +kernel
theorem dd_M_issue_21 : decode cd_M_issue 21 = .ok (.ireturn, 1) := by decide +kernel
theorem dd_M_issue_22 : decode cd_M_issue 22 = .ok (.aload_n 0, 1) := by decide +kernel
theorem dd_M_issue_23 : decode cd_M_issue 23 = .ok (.aload_n 0, 1) := by decide +kernel
theorem dd_M_issue_24 : decode cd_M_issue 24 = .ok (.getfield 209, 3) := by decide +kernel
theorem dd_M_issue_27 : decode cd_M_issue 27 = .ok (.lload_n 1, 1) := by decide +kernel
theorem dd_M_issue_28 : decode cd_M_issue 28 = .ok (.invokevirtual 216, 3) := by decide +kernel
theorem dd_M_issue_31 : decode cd_M_issue 31 = .ok (.istore_n 3, 1) := by decide +kernel
theorem dd_M_issue_32 : decode cd_M_issue 32 = .ok (.iload_n 3, 1) := by decide +kernel
theorem dd_M_issue_33 : decode cd_M_issue 33 = .ok (.ifCond .ge 6, 3) := by decide +kernel
theorem dd_M_issue_36 : decode cd_M_issue 36 = .ok (.bipush (-4), 2) := by decide +kernel
theorem dd_M_issue_38 : decode cd_M_issue 38 = .ok (.ireturn, 1) := by decide +kernel
theorem dd_M_issue_39 : decode cd_M_issue 39 = .ok (.aload_n 0, 1) := by decide +kernel
theorem dd_M_issue_40 : decode cd_M_issue 40 = .ok (.iload_n 3, 1) := by decide +kernel
theorem dd_M_issue_41 : decode cd_M_issue 41 = .ok (.invokevirtual 223, 3) := by decide +kernel
theorem dd_M_issue_44 : decode cd_M_issue 44 = .ok (.aload_n 0, 1) := by decide +kernel
theorem dd_M_issue_45 : decode cd_M_issue 45 = .ok (.aload_n 0, 1) := by decide +kernel
theorem dd_M_issue_46 : decode cd_M_issue 46 = .ok (.getfield 154, 3) := by decide +kernel
theorem dd_M_issue_49 : decode cd_M_issue 49 = .ok (.putfield 226, 3) := by decide +kernel
theorem dd_M_issue_52 : decode cd_M_issue 52 = .ok (.aload_n 0, 1) := by decide +kernel
theorem dd_M_issue_53 : decode cd_M_issue 53 = .ok (.aload_n 0, 1) := by decide +kernel
theorem dd_M_issue_54 : decode cd_M_issue 54 = .ok (.getfield 151, 3) := by decide +kernel
theorem dd_M_issue_57 : decode cd_M_issue 57 = .ok (.putfield 229, 3) := by decide +kernel
theorem dd_M_issue_60 : decode cd_M_issue 60 = .ok (.aload_n 0, 1) := by decide +kernel
theorem dd_M_issue_61 : decode cd_M_issue 61 = .ok (.iconst 0, 1) := by decide +kernel
theorem dd_M_issue_62 : decode cd_M_issue 62 = .ok (.putfield 232, 3) := by decide +kernel
theorem dd_M_issue_65 : decode cd_M_issue 65 = .ok (.aload_n 0, 1) := by decide +kernel
theorem dd_M_issue_66 : decode cd_M_issue 66 = .ok (.getfield 87, 3) := by decide +kernel
theorem dd_M_issue_69 : decode cd_M_issue 69 = .ok (.aload_n 0, 1) := by decide +kernel
theorem dd_M_issue_70 : decode cd_M_issue 70 = .ok (.getfield 209, 3) := by decide +kernel
theorem dd_M_issue_73 : decode cd_M_issue 73 = .ok (.iaload, 1) := by decide +kernel
theorem dd_M_issue_74 : decode cd_M_issue 74 = .ok (.iconst 1, 1) := by decide +kernel
theorem dd_M_issue_75 : decode cd_M_issue 75 = .ok (.isub, 1) := by decide +kernel
theorem dd_M_issue_76 : decode cd_M_issue 76 = .ok (.ireturn, 1) := by decide +kernel
theorem dd_M_hold_0 : decode cd_M_hold 0 = .ok (.aload_n 0, 1) := by decide +kernel
theorem dd_M_hold_1 : decode cd_M_hold 1 = .ok (.getfield 181, 3) := by decide +kernel
theorem dd_M_hold_4 : decode cd_M_hold 4 = .ok (.ifCond .eq 17, 3) := by decide +kernel
theorem dd_M_hold_7 : decode cd_M_hold 7 = .ok (.aload_n 0, 1) := by decide +kernel
theorem dd_M_hold_8 : decode cd_M_hold 8 = .ok (.lload_n 1, 1) := by decide +kernel
theorem dd_M_hold_9 : decode cd_M_hold 9 = .ok (.lload_n 3, 1) := by decide +kernel
theorem dd_M_hold_10 : decode cd_M_hold 10 = .ok (.invokevirtual 157, 3) := by decide +kernel
theorem dd_M_hold_13 : decode cd_M_hold 13 = .ok (.ifCond .eq 8, 3) := by decide +kernel
theorem dd_M_hold_16 : decode cd_M_hold 16 = .ok (.iload 5, 2) := by decide +kernel
theorem dd_M_hold_18 : decode cd_M_hold 18 = .ok (.ifCond .ge 5, 3) := by decide +kernel
theorem dd_M_hold_21 : decode cd_M_hold 21 = .ok (.iconst 0, 1) := by decide +kernel
theorem dd_M_hold_22 : decode cd_M_hold 22 = .ok (.ireturn, 1) := by decide +kernel
theorem dd_M_hold_23 : decode cd_M_hold 23 = .ok (.aload_n 0, 1) := by decide +kernel
theorem dd_M_hold_24 : decode cd_M_hold 24 = .ok (.lload_n 1, 1) := by decide +kernel
theorem dd_M_hold_25 : decode cd_M_hold 25 = .ok (.putfield 226, 3) := by decide +kernel
theorem dd_M_hold_28 : decode cd_M_hold 28 = .ok (.aload_n 0, 1) := by decide +kernel
theorem dd_M_hold_29 : decode cd_M_hold 29 = .ok (.lload_n 3, 1) := by decide +kernel
theorem dd_M_hold_30 : decode cd_M_hold 30 = .ok (.putfield 229, 3) := by decide +kernel
theorem dd_M_hold_33 : decode cd_M_hold 33 = .ok (.aload_n 0, 1) := by decide +kernel
theorem dd_M_hold_34 : decode cd_M_hold 34 = .ok (.iload 5, 2) := by decide +kernel
theorem dd_M_hold_36 : decode cd_M_hold 36 = .ok (.putfield 232, 3) := by decide +kernel
theorem dd_M_hold_39 : decode cd_M_hold 39 = .ok (.iconst 1, 1) := by decide +kernel
theorem dd_M_hold_40 : decode cd_M_hold 40 = .ok (.ireturn, 1) := by decide +kernel
theorem dd_M_hand_0 : decode cd_M_hand 0 = .ok (.iload_n 1, 1) := by decide +kernel
theorem dd_M_hand_1 : decode cd_M_hand 1 = .ok (.ifCond .eq 10, 3) := by decide +kernel
theorem dd_M_hand_4 : decode cd_M_hand 4 = .ok (.aload_n 0, 1) := by decide +kernel
theorem dd_M_hand_5 : decode cd_M_hand 5 = .ok (.getfield 226, 3) := by decide +kernel
theorem dd_M_hand_8 : decode cd_M_hand 8 = .ok (.goto 7, 3) := by decide +kernel
theorem dd_M_hand_11 : decode cd_M_hand 11 = .ok (.aload_n 0, 1) := by decide +kernel
theorem dd_M_hand_12 : decode cd_M_hand 12 = .ok (.getfield 229, 3) := by decide +kernel
theorem dd_M_hand_15 : decode cd_M_hand 15 = .ok (.lreturn, 1) := by decide +kernel
theorem dd_M_factor_0 : decode cd_M_factor 0 = .ok (.aload_n 0, 1) := by decide +kernel
theorem dd_M_factor_1 : decode cd_M_factor 1 = .ok (.getfield 181, 3) := by decide +kernel
theorem dd_M_factor_4 : decode cd_M_factor 4 = .ok (.ifCond .eq 10, 3) := by decide +kernel
theorem dd_M_factor_7 : decode cd_M_factor 7 = .ok (.aload_n 0, 1) := by decide +kernel
theorem dd_M_factor_8 : decode cd_M_factor 8 = .ok (.getfield 232, 3) := by decide +kernel
theorem dd_M_factor_11 : decode cd_M_factor 11 = .ok (.goto 4, 3) := by decide +kernel
theorem dd_M_factor_14 : decode cd_M_factor 14 = .ok (.iconst (-1), 1) := by decide +kernel
theorem dd_M_factor_15 : decode cd_M_factor 15 = .ok (.ireturn, 1) := by decide +kernel
theorem dd_M_isWitness_0 : decode cd_M_isWitness 0 = .ok (.aload_n 0, 1) := by decide +kernel
theorem dd_M_isWitness_1 : decode cd_M_isWitness 1 = .ok (.aload_n 0, 1) := by decide +kernel
theorem dd_M_isWitness_2 : decode cd_M_isWitness 2 = .ok (.getfield 226, 3) := by decide +kernel
theorem dd_M_isWitness_5 : decode cd_M_isWitness 5 = .ok (.aload_n 0, 1) := by decide +kernel
theorem dd_M_isWitness_6 : decode cd_M_isWitness 6 = .ok (.getfield 229, 3) := by decide +kernel
theorem dd_M_isWitness_9 : decode cd_M_isWitness 9 = .ok (.iload_n 1, 1) := by decide +kernel
theorem dd_M_isWitness_10 : decode cd_M_isWitness 10 = .ok (.invokevirtual 212, 3) := by decide +kernel
theorem dd_M_isWitness_13 : decode cd_M_isWitness 13 = .ok (.aload_n 0, 1) := by decide +kernel
theorem dd_M_isWitness_14 : decode cd_M_isWitness 14 = .ok (.getfield 154, 3) := by decide +kernel
theorem dd_M_isWitness_17 : decode cd_M_isWitness 17 = .ok (.aload_n 0, 1) := by decide +kernel
theorem dd_M_isWitness_18 : decode cd_M_isWitness 18 = .ok (.getfield 96, 3) := by decide +kernel
theorem dd_M_isWitness_21 : decode cd_M_isWitness 21 = .ok (.iload_n 2, 1) := by decide +kernel
theorem dd_M_isWitness_22 : decode cd_M_isWitness 22 = .ok (.laload, 1) := by decide +kernel
theorem dd_M_isWitness_23 : decode cd_M_isWitness 23 = .ok (.lcmp, 1) := by decide +kernel
theorem dd_M_isWitness_24 : decode cd_M_isWitness 24 = .ok (.ifCond .ne 21, 3) := by decide +kernel
theorem dd_M_isWitness_27 : decode cd_M_isWitness 27 = .ok (.aload_n 0, 1) := by decide +kernel
theorem dd_M_isWitness_28 : decode cd_M_isWitness 28 = .ok (.getfield 151, 3) := by decide +kernel
theorem dd_M_isWitness_31 : decode cd_M_isWitness 31 = .ok (.aload_n 0, 1) := by decide +kernel
theorem dd_M_isWitness_32 : decode cd_M_isWitness 32 = .ok (.getfield 99, 3) := by decide +kernel
theorem dd_M_isWitness_35 : decode cd_M_isWitness 35 = .ok (.iload_n 2, 1) := by decide +kernel
theorem dd_M_isWitness_36 : decode cd_M_isWitness 36 = .ok (.laload, 1) := by decide +kernel
theorem dd_M_isWitness_37 : decode cd_M_isWitness 37 = .ok (.lcmp, 1) := by decide +kernel
theorem dd_M_isWitness_38 : decode cd_M_isWitness 38 = .ok (.ifCond .ne 7, 3) := by decide +kernel
theorem dd_M_isWitness_41 : decode cd_M_isWitness 41 = .ok (.iconst 1, 1) := by decide +kernel
theorem dd_M_isWitness_42 : decode cd_M_isWitness 42 = .ok (.goto 4, 3) := by decide +kernel
theorem dd_M_isWitness_45 : decode cd_M_isWitness 45 = .ok (.iconst 0, 1) := by decide +kernel
theorem dd_M_isWitness_46 : decode cd_M_isWitness 46 = .ok (.ireturn, 1) := by decide +kernel
theorem dd_M_check_0 : decode cd_M_check 0 = .ok (.aload_n 0, 1) := by decide +kernel
theorem dd_M_check_1 : decode cd_M_check 1 = .ok (.getfield 181, 3) := by decide +kernel
theorem dd_M_check_4 : decode cd_M_check 4 = .ok (.ifCond .ne 5, 3) := by decide +kernel
theorem dd_M_check_7 : decode cd_M_check 7 = .ok (.iconst (-1), 1) := by decide +kernel
theorem dd_M_check_8 : decode cd_M_check 8 = .ok (.ireturn, 1) := by decide +kernel
theorem dd_M_check_9 : decode cd_M_check 9 = .ok (.aload_n 0, 1) := by decide +kernel
theorem dd_M_check_10 : decode cd_M_check 10 = .ok (.lload_n 1, 1) := by decide +kernel
theorem dd_M_check_11 : decode cd_M_check 11 = .ok (.invokevirtual 202, 3) := by decide +kernel
theorem dd_M_check_14 : decode cd_M_check 14 = .ok (.istore 4, 2) := by decide +kernel
theorem dd_M_check_16 : decode cd_M_check 16 = .ok (.iload 4, 2) := by decide +kernel
theorem dd_M_check_18 : decode cd_M_check 18 = .ok (.bipush (-2), 2) := by decide +kernel
theorem dd_M_check_20 : decode cd_M_check 20 = .ok (.if_icmp .eq 11, 3) := by decide +kernel
theorem dd_M_check_23 : decode cd_M_check 23 = .ok (.aload_n 0, 1) := by decide +kernel
theorem dd_M_check_24 : decode cd_M_check 24 = .ok (.iload_n 3, 1) := by decide +kernel
theorem dd_M_check_25 : decode cd_M_check 25 = .ok (.invokevirtual 220, 3) := by decide +kernel
theorem dd_M_check_28 : decode cd_M_check 28 = .ok (.ifCond .ne 6, 3) := by decide +kernel
theorem dd_M_check_31 : decode cd_M_check 31 = .ok (.bipush (-2), 2) := by decide +kernel
theorem dd_M_check_33 : decode cd_M_check 33 = .ok (.ireturn, 1) := by decide +kernel
theorem dd_M_check_34 : decode cd_M_check 34 = .ok (.aload_n 0, 1) := by decide +kernel
theorem dd_M_check_35 : decode cd_M_check 35 = .ok (.iload 4, 2) := by decide +kernel
theorem dd_M_check_37 : decode cd_M_check 37 = .ok (.iload_n 3, 1) := by decide +kernel
theorem dd_M_check_38 : decode cd_M_check 38 = .ok (.invokevirtual 235, 3) := by decide +kernel
theorem dd_M_check_41 : decode cd_M_check 41 = .ok (.ifCond .eq 7, 3) := by decide +kernel
theorem dd_M_check_44 : decode cd_M_check 44 = .ok (.iconst 1, 1) := by decide +kernel
theorem dd_M_check_45 : decode cd_M_check 45 = .ok (.goto 4, 3) := by decide +kernel
theorem dd_M_check_48 : decode cd_M_check 48 = .ok (.iconst 0, 1) := by decide +kernel
theorem dd_M_check_49 : decode cd_M_check 49 = .ok (.ireturn, 1) := by decide +kernel
theorem dd_M_moveTo_0 : decode cd_M_moveTo 0 = .ok (.bipush 10, 2) := by decide +kernel
theorem dd_M_moveTo_2 : decode cd_M_moveTo 2 = .ok (.iload_n 1, 1) := by decide +kernel
theorem dd_M_moveTo_3 : decode cd_M_moveTo 3 = .ok (.imul, 1) := by decide +kernel
theorem dd_M_moveTo_4 : decode cd_M_moveTo 4 = .ok (.istore_n 3, 1) := by decide +kernel
theorem dd_M_moveTo_5 : decode cd_M_moveTo 5 = .ok (.iload_n 3, 1) := by decide +kernel
theorem dd_M_moveTo_6 : decode cd_M_moveTo 6 = .ok (.bipush 10, 2) := by decide +kernel
theorem dd_M_moveTo_8 : decode cd_M_moveTo 8 = .ok (.iload_n 1, 1) := by decide +kernel
theorem dd_M_moveTo_9 : decode cd_M_moveTo 9 = .ok (.imul, 1) := by decide +kernel
theorem dd_M_moveTo_10 : decode cd_M_moveTo 10 = .ok (.aload_n 0, 1) := by decide +kernel
theorem dd_M_moveTo_11 : decode cd_M_moveTo 11 = .ok (.getfield 87, 3) := by decide +kernel
theorem dd_M_moveTo_14 : decode cd_M_moveTo 14 = .ok (.iload_n 1, 1) := by decide +kernel
theorem dd_M_moveTo_15 : decode cd_M_moveTo 15 = .ok (.iaload, 1) := by decide +kernel
theorem dd_M_moveTo_16 : decode cd_M_moveTo 16 = .ok (.iadd, 1) := by decide +kernel
theorem dd_M_moveTo_17 : decode cd_M_moveTo 17 = .ok (.if_icmp .ge 59, 3) := by decide +kernel
theorem dd_M_moveTo_20 : decode cd_M_moveTo 20 = .ok (.aload_n 0, 1) := by decide +kernel
theorem dd_M_moveTo_21 : decode cd_M_moveTo 21 = .ok (.iload_n 1, 1) := by decide +kernel
theorem dd_M_moveTo_22 : decode cd_M_moveTo 22 = .ok (.iconst 1, 1) := by decide +kernel
theorem dd_M_moveTo_23 : decode cd_M_moveTo 23 = .ok (.isub, 1) := by decide +kernel
theorem dd_M_moveTo_24 : decode cd_M_moveTo 24 = .ok (.aload_n 0, 1) := by decide +kernel
theorem dd_M_moveTo_25 : decode cd_M_moveTo 25 = .ok (.getfield 90, 3) := by decide +kernel
theorem dd_M_moveTo_28 : decode cd_M_moveTo 28 = .ok (.iload_n 3, 1) := by decide +kernel
theorem dd_M_moveTo_29 : decode cd_M_moveTo 29 = .ok (.laload, 1) := by decide +kernel
theorem dd_M_moveTo_30 : decode cd_M_moveTo 30 = .ok (.invokevirtual 216, 3) := by decide +kernel
theorem dd_M_moveTo_33 : decode cd_M_moveTo 33 = .ok (.ifCond .ge 37, 3) := by decide +kernel
theorem dd_M_moveTo_36 : decode cd_M_moveTo 36 = .ok (.aload_n 0, 1) := by decide +kernel
theorem dd_M_moveTo_37 : decode cd_M_moveTo 37 = .ok (.aload_n 0, 1) := by decide +kernel
theorem dd_M_moveTo_38 : decode cd_M_moveTo 38 = .ok (.getfield 226, 3) := by decide +kernel
theorem dd_M_moveTo_41 : decode cd_M_moveTo 41 = .ok (.aload_n 0, 1) := by decide +kernel
theorem dd_M_moveTo_42 : decode cd_M_moveTo 42 = .ok (.getfield 229, 3) := by decide +kernel
theorem dd_M_moveTo_45 : decode cd_M_moveTo 45 = .ok (.aload_n 0, 1) := by decide +kernel
theorem dd_M_moveTo_46 : decode cd_M_moveTo 46 = .ok (.getfield 93, 3) := by decide +kernel
theorem dd_M_moveTo_49 : decode cd_M_moveTo 49 = .ok (.iload_n 3, 1) := by decide +kernel
theorem dd_M_moveTo_50 : decode cd_M_moveTo 50 = .ok (.iaload, 1) := by decide +kernel
theorem dd_M_moveTo_51 : decode cd_M_moveTo 51 = .ok (.invokevirtual 212, 3) := by decide +kernel
theorem dd_M_moveTo_54 : decode cd_M_moveTo 54 = .ok (.aload_n 0, 1) := by decide +kernel
theorem dd_M_moveTo_55 : decode cd_M_moveTo 55 = .ok (.aload_n 0, 1) := by decide +kernel
theorem dd_M_moveTo_56 : decode cd_M_moveTo 56 = .ok (.getfield 154, 3) := by decide +kernel
theorem dd_M_moveTo_59 : decode cd_M_moveTo 59 = .ok (.putfield 226, 3) := by decide +kernel
theorem dd_M_moveTo_62 : decode cd_M_moveTo 62 = .ok (.aload_n 0, 1) := by decide +kernel
theorem dd_M_moveTo_63 : decode cd_M_moveTo 63 = .ok (.aload_n 0, 1) := by decide +kernel
theorem dd_M_moveTo_64 : decode cd_M_moveTo 64 = .ok (.getfield 151, 3) := by decide +kernel
theorem dd_M_moveTo_67 : decode cd_M_moveTo 67 = .ok (.putfield 229, 3) := by decide +kernel
theorem dd_M_moveTo_70 : decode cd_M_moveTo 70 = .ok (.iinc 3 1, 3) := by decide +kernel
theorem dd_M_moveTo_73 : decode cd_M_moveTo 73 = .ok (.goto (-68), 3) := by decide +kernel
theorem dd_M_moveTo_76 : decode cd_M_moveTo 76 = .ok (.aload_n 0, 1) := by decide +kernel
theorem dd_M_moveTo_77 : decode cd_M_moveTo 77 = .ok (.invokevirtual 239, 3) := by decide +kernel
theorem dd_M_moveTo_80 : decode cd_M_moveTo 80 = .ok (.bipush 10, 2) := by decide +kernel
theorem dd_M_moveTo_82 : decode cd_M_moveTo 82 = .ok (.iload_n 1, 1) := by decide +kernel
theorem dd_M_moveTo_83 : decode cd_M_moveTo 83 = .ok (.imul, 1) := by decide +kernel
theorem dd_M_moveTo_84 : decode cd_M_moveTo 84 = .ok (.bipush 10, 2) := by decide +kernel
theorem dd_M_moveTo_86 : decode cd_M_moveTo 86 = .ok (.isub, 1) := by decide +kernel
theorem dd_M_moveTo_87 : decode cd_M_moveTo 87 = .ok (.istore_n 3, 1) := by decide +kernel
theorem dd_M_moveTo_88 : decode cd_M_moveTo 88 = .ok (.iload_n 3, 1) := by decide +kernel
theorem dd_M_moveTo_89 : decode cd_M_moveTo 89 = .ok (.bipush 10, 2) := by decide +kernel
theorem dd_M_moveTo_91 : decode cd_M_moveTo 91 = .ok (.iload_n 1, 1) := by decide +kernel
theorem dd_M_moveTo_92 : decode cd_M_moveTo 92 = .ok (.imul, 1) := by decide +kernel
theorem dd_M_moveTo_93 : decode cd_M_moveTo 93 = .ok (.bipush 10, 2) := by decide +kernel
theorem dd_M_moveTo_95 : decode cd_M_moveTo 95 = .ok (.isub, 1) := by decide +kernel
theorem dd_M_moveTo_96 : decode cd_M_moveTo 96 = .ok (.aload_n 0, 1) := by decide +kernel
theorem dd_M_moveTo_97 : decode cd_M_moveTo 97 = .ok (.getfield 87, 3) := by decide +kernel
theorem dd_M_moveTo_100 : decode cd_M_moveTo 100 = .ok (.iload_n 1, 1) := by decide +kernel
theorem dd_M_moveTo_101 : decode cd_M_moveTo 101 = .ok (.iconst 1, 1) := by decide +kernel
theorem dd_M_moveTo_102 : decode cd_M_moveTo 102 = .ok (.isub, 1) := by decide +kernel
theorem dd_M_moveTo_103 : decode cd_M_moveTo 103 = .ok (.iaload, 1) := by decide +kernel
theorem dd_M_moveTo_104 : decode cd_M_moveTo 104 = .ok (.iadd, 1) := by decide +kernel
theorem dd_M_moveTo_105 : decode cd_M_moveTo 105 = .ok (.if_icmp .ge 33, 3) := by decide +kernel
theorem dd_M_moveTo_108 : decode cd_M_moveTo 108 = .ok (.aload_n 0, 1) := by decide +kernel
theorem dd_M_moveTo_109 : decode cd_M_moveTo 109 = .ok (.iload_n 1, 1) := by decide +kernel
theorem dd_M_moveTo_110 : decode cd_M_moveTo 110 = .ok (.aload_n 0, 1) := by decide +kernel
theorem dd_M_moveTo_111 : decode cd_M_moveTo 111 = .ok (.getfield 90, 3) := by decide +kernel
theorem dd_M_moveTo_114 : decode cd_M_moveTo 114 = .ok (.iload_n 3, 1) := by decide +kernel
theorem dd_M_moveTo_115 : decode cd_M_moveTo 115 = .ok (.laload, 1) := by decide +kernel
theorem dd_M_moveTo_116 : decode cd_M_moveTo 116 = .ok (.invokevirtual 216, 3) := by decide +kernel
theorem dd_M_moveTo_119 : decode cd_M_moveTo 119 = .ok (.ifCond .ge 13, 3) := by decide +kernel
theorem dd_M_moveTo_122 : decode cd_M_moveTo 122 = .ok (.aload_n 0, 1) := by decide +kernel
theorem dd_M_moveTo_123 : decode cd_M_moveTo 123 = .ok (.aload_n 0, 1) := by decide +kernel
theorem dd_M_moveTo_124 : decode cd_M_moveTo 124 = .ok (.getfield 93, 3) := by decide +kernel
theorem dd_M_moveTo_127 : decode cd_M_moveTo 127 = .ok (.iload_n 3, 1) := by decide +kernel
theorem dd_M_moveTo_128 : decode cd_M_moveTo 128 = .ok (.iaload, 1) := by decide +kernel
theorem dd_M_moveTo_129 : decode cd_M_moveTo 129 = .ok (.invokevirtual 175, 3) := by decide +kernel
theorem dd_M_moveTo_132 : decode cd_M_moveTo 132 = .ok (.iinc 3 1, 3) := by decide +kernel
theorem dd_M_moveTo_135 : decode cd_M_moveTo 135 = .ok (.goto (-47), 3) := by decide +kernel
theorem dd_M_moveTo_138 : decode cd_M_moveTo 138 = .ok (.aload_n 0, 1) := by decide +kernel
theorem dd_M_moveTo_139 : decode cd_M_moveTo 139 = .ok (.iload_n 2, 1) := by decide +kernel
theorem dd_M_moveTo_140 : decode cd_M_moveTo 140 = .ok (.invokevirtual 242, 3) := by decide +kernel
theorem dd_M_moveTo_143 : decode cd_M_moveTo 143 = .ok (.istore_n 3, 1) := by decide +kernel
theorem dd_M_moveTo_144 : decode cd_M_moveTo 144 = .ok (.aload_n 0, 1) := by decide +kernel
theorem dd_M_moveTo_145 : decode cd_M_moveTo 145 = .ok (.aload_n 0, 1) := by decide +kernel
theorem dd_M_moveTo_146 : decode cd_M_moveTo 146 = .ok (.getfield 226, 3) := by decide +kernel
theorem dd_M_moveTo_149 : decode cd_M_moveTo 149 = .ok (.aload_n 0, 1) := by decide +kernel
theorem dd_M_moveTo_150 : decode cd_M_moveTo 150 = .ok (.getfield 229, 3) := by decide +kernel
theorem dd_M_moveTo_153 : decode cd_M_moveTo 153 = .ok (.iload_n 3, 1) := by decide +kernel
theorem dd_M_moveTo_154 : decode cd_M_moveTo 154 = .ok (.invokevirtual 212, 3) := by decide +kernel
theorem dd_M_moveTo_157 : decode cd_M_moveTo 157 = .ok (.aload_n 0, 1) := by decide +kernel
theorem dd_M_moveTo_158 : decode cd_M_moveTo 158 = .ok (.aload_n 0, 1) := by decide +kernel
theorem dd_M_moveTo_159 : decode cd_M_moveTo 159 = .ok (.getfield 154, 3) := by decide +kernel
theorem dd_M_moveTo_162 : decode cd_M_moveTo 162 = .ok (.putfield 226, 3) := by decide +kernel
theorem dd_M_moveTo_165 : decode cd_M_moveTo 165 = .ok (.aload_n 0, 1) := by decide +kernel
theorem dd_M_moveTo_166 : decode cd_M_moveTo 166 = .ok (.aload_n 0, 1) := by decide +kernel
theorem dd_M_moveTo_167 : decode cd_M_moveTo 167 = .ok (.getfield 151, 3) := by decide +kernel
theorem dd_M_moveTo_170 : decode cd_M_moveTo 170 = .ok (.putfield 229, 3) := by decide +kernel
theorem dd_M_moveTo_173 : decode cd_M_moveTo 173 = .ok (.aload_n 0, 1) := by decide +kernel
theorem dd_M_moveTo_174 : decode cd_M_moveTo 174 = .ok (.aload_n 0, 1) := by decide +kernel
theorem dd_M_moveTo_175 : decode cd_M_moveTo 175 = .ok (.getfield 192, 3) := by decide +kernel
theorem dd_M_moveTo_178 : decode cd_M_moveTo 178 = .ok (.putfield 154, 3) := by decide +kernel
theorem dd_M_moveTo_181 : decode cd_M_moveTo 181 = .ok (.aload_n 0, 1) := by decide +kernel
theorem dd_M_moveTo_182 : decode cd_M_moveTo 182 = .ok (.aload_n 0, 1) := by decide +kernel
theorem dd_M_moveTo_183 : decode cd_M_moveTo 183 = .ok (.getfield 195, 3) := by decide +kernel
theorem dd_M_moveTo_186 : decode cd_M_moveTo 186 = .ok (.putfield 151, 3) := by decide +kernel
theorem dd_M_moveTo_189 : decode cd_M_moveTo 189 = .ok (.bipush 10, 2) := by decide +kernel
theorem dd_M_moveTo_191 : decode cd_M_moveTo 191 = .ok (.iload_n 1, 1) := by decide +kernel
theorem dd_M_moveTo_192 : decode cd_M_moveTo 192 = .ok (.imul, 1) := by decide +kernel
theorem dd_M_moveTo_193 : decode cd_M_moveTo 193 = .ok (.istore 4, 2) := by decide +kernel
theorem dd_M_moveTo_195 : decode cd_M_moveTo 195 = .ok (.iload 4, 2) := by decide +kernel
theorem dd_M_moveTo_197 : decode cd_M_moveTo 197 = .ok (.bipush 10, 2) := by decide +kernel
theorem dd_M_moveTo_199 : decode cd_M_moveTo 199 = .ok (.iload_n 1, 1) := by decide +kernel
theorem dd_M_moveTo_200 : decode cd_M_moveTo 200 = .ok (.imul, 1) := by decide +kernel
theorem dd_M_moveTo_201 : decode cd_M_moveTo 201 = .ok (.aload_n 0, 1) := by decide +kernel
theorem dd_M_moveTo_202 : decode cd_M_moveTo 202 = .ok (.getfield 87, 3) := by decide +kernel
theorem dd_M_moveTo_205 : decode cd_M_moveTo 205 = .ok (.iload_n 1, 1) := by decide +kernel
theorem dd_M_moveTo_206 : decode cd_M_moveTo 206 = .ok (.iaload, 1) := by decide +kernel
theorem dd_M_moveTo_207 : decode cd_M_moveTo 207 = .ok (.iadd, 1) := by decide +kernel
theorem dd_M_moveTo_208 : decode cd_M_moveTo 208 = .ok (.if_icmp .ge 28, 3) := by decide +kernel
theorem dd_M_moveTo_211 : decode cd_M_moveTo 211 = .ok (.aload_n 0, 1) := by decide +kernel
theorem dd_M_moveTo_212 : decode cd_M_moveTo 212 = .ok (.aload_n 0, 1) := by decide +kernel
theorem dd_M_moveTo_213 : decode cd_M_moveTo 213 = .ok (.getfield 154, 3) := by decide +kernel
theorem dd_M_moveTo_216 : decode cd_M_moveTo 216 = .ok (.aload_n 0, 1) := by decide +kernel
theorem dd_M_moveTo_217 : decode cd_M_moveTo 217 = .ok (.getfield 151, 3) := by decide +kernel
theorem dd_M_moveTo_220 : decode cd_M_moveTo 220 = .ok (.aload_n 0, 1) := by decide +kernel
theorem dd_M_moveTo_221 : decode cd_M_moveTo 221 = .ok (.getfield 93, 3) := by decide +kernel
theorem dd_M_moveTo_224 : decode cd_M_moveTo 224 = .ok (.iload 4, 2) := by decide +kernel
theorem dd_M_moveTo_226 : decode cd_M_moveTo 226 = .ok (.iaload, 1) := by decide +kernel
theorem dd_M_moveTo_227 : decode cd_M_moveTo 227 = .ok (.invokevirtual 212, 3) := by decide +kernel
theorem dd_M_moveTo_230 : decode cd_M_moveTo 230 = .ok (.iinc 4 1, 3) := by decide +kernel
theorem dd_M_moveTo_233 : decode cd_M_moveTo 233 = .ok (.goto (-38), 3) := by decide +kernel
theorem dd_M_moveTo_236 : decode cd_M_moveTo 236 = .ok (.aload_n 0, 1) := by decide +kernel
theorem dd_M_moveTo_237 : decode cd_M_moveTo 237 = .ok (.aload_n 0, 1) := by decide +kernel
theorem dd_M_moveTo_238 : decode cd_M_moveTo 238 = .ok (.getfield 154, 3) := by decide +kernel
theorem dd_M_moveTo_241 : decode cd_M_moveTo 241 = .ok (.aload_n 0, 1) := by decide +kernel
theorem dd_M_moveTo_242 : decode cd_M_moveTo 242 = .ok (.getfield 151, 3) := by decide +kernel
theorem dd_M_moveTo_245 : decode cd_M_moveTo 245 = .ok (.invokevirtual 246, 3) := by decide +kernel
theorem dd_M_moveTo_248 : decode cd_M_moveTo 248 = .ok (.aload_n 0, 1) := by decide +kernel
theorem dd_M_moveTo_249 : decode cd_M_moveTo 249 = .ok (.aload_n 0, 1) := by decide +kernel
theorem dd_M_moveTo_250 : decode cd_M_moveTo 250 = .ok (.getfield 226, 3) := by decide +kernel
theorem dd_M_moveTo_253 : decode cd_M_moveTo 253 = .ok (.aload_n 0, 1) := by decide +kernel
theorem dd_M_moveTo_254 : decode cd_M_moveTo 254 = .ok (.getfield 229, 3) := by decide +kernel
theorem dd_M_moveTo_257 : decode cd_M_moveTo 257 = .ok (.aload_n 0, 1) := by decide +kernel
theorem dd_M_moveTo_258 : decode cd_M_moveTo 258 = .ok (.getfield 154, 3) := by decide +kernel
theorem dd_M_moveTo_261 : decode cd_M_moveTo 261 = .ok (.aload_n 0, 1) := by decide +kernel
theorem dd_M_moveTo_262 : decode cd_M_moveTo 262 = .ok (.getfield 151, 3) := by decide +kernel
theorem dd_M_moveTo_265 : decode cd_M_moveTo 265 = .ok (.invokevirtual 164, 3) := by decide +kernel
theorem dd_M_moveTo_268 : decode cd_M_moveTo 268 = .ok (.aload_n 0, 1) := by decide +kernel
theorem dd_M_moveTo_269 : decode cd_M_moveTo 269 = .ok (.aload_n 0, 1) := by decide +kernel
theorem dd_M_moveTo_270 : decode cd_M_moveTo 270 = .ok (.getfield 154, 3) := by decide +kernel
theorem dd_M_moveTo_273 : decode cd_M_moveTo 273 = .ok (.putfield 226, 3) := by decide +kernel
theorem dd_M_moveTo_276 : decode cd_M_moveTo 276 = .ok (.aload_n 0, 1) := by decide +kernel
theorem dd_M_moveTo_277 : decode cd_M_moveTo 277 = .ok (.aload_n 0, 1) := by decide +kernel
theorem dd_M_moveTo_278 : decode cd_M_moveTo 278 = .ok (.getfield 151, 3) := by decide +kernel
theorem dd_M_moveTo_281 : decode cd_M_moveTo 281 = .ok (.putfield 229, 3) := by decide +kernel
theorem dd_M_moveTo_284 : decode cd_M_moveTo 284 = .ok (.return_, 1) := by decide +kernel
theorem dd_M_advance_0 : decode cd_M_advance 0 = .ok (.aload_n 0, 1) := by decide +kernel
theorem dd_M_advance_1 : decode cd_M_advance 1 = .ok (.getfield 181, 3) := by decide +kernel
theorem dd_M_advance_4 : decode cd_M_advance 4 = .ok (.ifCond .ne 5, 3) := by decide +kernel
theorem dd_M_advance_7 : decode cd_M_advance 7 = .ok (.iconst (-1), 1) := by decide +kernel
theorem dd_M_advance_8 : decode cd_M_advance 8 = .ok (.ireturn, 1) := by decide +kernel
theorem dd_M_advance_9 : decode cd_M_advance 9 = .ok (.aload_n 0, 1) := by decide +kernel
theorem dd_M_advance_10 : decode cd_M_advance 10 = .ok (.lload_n 1, 1) := by decide +kernel
theorem dd_M_advance_11 : decode cd_M_advance 11 = .ok (.invokevirtual 202, 3) := by decide +kernel
theorem dd_M_advance_14 : decode cd_M_advance 14 = .ok (.istore 4, 2) := by decide +kernel
theorem dd_M_advance_16 : decode cd_M_advance 16 = .ok (.iload 4, 2) := by decide +kernel
theorem dd_M_advance_18 : decode cd_M_advance 18 = .ok (.bipush (-2), 2) := by decide +kernel
theorem dd_M_advance_20 : decode cd_M_advance 20 = .ok (.if_icmp .eq 11, 3) := by decide +kernel
theorem dd_M_advance_23 : decode cd_M_advance 23 = .ok (.aload_n 0, 1) := by decide +kernel
theorem dd_M_advance_24 : decode cd_M_advance 24 = .ok (.iload_n 3, 1) := by decide +kernel
theorem dd_M_advance_25 : decode cd_M_advance 25 = .ok (.invokevirtual 220, 3) := by decide +kernel
theorem dd_M_advance_28 : decode cd_M_advance 28 = .ok (.ifCond .ne 6, 3) := by decide +kernel
theorem dd_M_advance_31 : decode cd_M_advance 31 = .ok (.bipush (-2), 2) := by decide +kernel
theorem dd_M_advance_33 : decode cd_M_advance 33 = .ok (.ireturn, 1) := by decide +kernel
theorem dd_M_advance_34 : decode cd_M_advance 34 = .ok (.iload_n 3, 1) := by decide +kernel
theorem dd_M_advance_35 : decode cd_M_advance 35 = .ok (.istore 5, 2) := by decide +kernel
theorem dd_M_advance_37 : decode cd_M_advance 37 = .ok (.iload 5, 2) := by decide +kernel
theorem dd_M_advance_39 : decode cd_M_advance 39 = .ok (.aload_n 0, 1) := by decide +kernel
theorem dd_M_advance_40 : decode cd_M_advance 40 = .ok (.getfield 209, 3) := by decide +kernel
theorem dd_M_advance_43 : decode cd_M_advance 43 = .ok (.if_icmp .gt 22, 3) := by decide +kernel
theorem dd_M_advance_46 : decode cd_M_advance 46 = .ok (.aload_n 0, 1) := by decide +kernel
theorem dd_M_advance_47 : decode cd_M_advance 47 = .ok (.iload 5, 2) := by decide +kernel
theorem dd_M_advance_49 : decode cd_M_advance 49 = .ok (.lload_n 1, 1) := by decide +kernel
theorem dd_M_advance_50 : decode cd_M_advance 50 = .ok (.invokevirtual 216, 3) := by decide +kernel
theorem dd_M_advance_53 : decode cd_M_advance 53 = .ok (.ifCond .ge 6, 3) := by decide +kernel
theorem dd_M_advance_56 : decode cd_M_advance 56 = .ok (.bipush (-4), 2) := by decide +kernel
theorem dd_M_advance_58 : decode cd_M_advance 58 = .ok (.ireturn, 1) := by decide +kernel
theorem dd_M_advance_59 : decode cd_M_advance 59 = .ok (.iinc 5 1, 3) := by decide +kernel
theorem dd_M_advance_62 : decode cd_M_advance 62 = .ok (.goto (-25), 3) := by decide +kernel
theorem dd_M_advance_65 : decode cd_M_advance 65 = .ok (.aload_n 0, 1) := by decide +kernel
theorem dd_M_advance_66 : decode cd_M_advance 66 = .ok (.iload 4, 2) := by decide +kernel
theorem dd_M_advance_68 : decode cd_M_advance 68 = .ok (.iload_n 3, 1) := by decide +kernel
theorem dd_M_advance_69 : decode cd_M_advance 69 = .ok (.invokevirtual 235, 3) := by decide +kernel
theorem dd_M_advance_72 : decode cd_M_advance 72 = .ok (.ifCond .ne 6, 3) := by decide +kernel
theorem dd_M_advance_75 : decode cd_M_advance 75 = .ok (.bipush (-7), 2) := by decide +kernel
theorem dd_M_advance_77 : decode cd_M_advance 77 = .ok (.ireturn, 1) := by decide +kernel
theorem dd_M_advance_78 : decode cd_M_advance 78 = .ok (.iload_n 3, 1) := by decide +kernel
theorem dd_M_advance_79 : decode cd_M_advance 79 = .ok (.iconst 1, 1) := by decide +kernel
theorem dd_M_advance_80 : decode cd_M_advance 80 = .ok (.iadd, 1) := by decide +kernel
theorem dd_M_advance_81 : decode cd_M_advance 81 = .ok (.istore 5, 2) := by decide +kernel
theorem dd_M_advance_83 : decode cd_M_advance 83 = .ok (.iload 5, 2) := by decide +kernel
theorem dd_M_advance_85 : decode cd_M_advance 85 = .ok (.aload_n 0, 1) := by decide +kernel
theorem dd_M_advance_86 : decode cd_M_advance 86 = .ok (.getfield 209, 3) := by decide +kernel
theorem dd_M_advance_89 : decode cd_M_advance 89 = .ok (.if_icmp .gt 17, 3) := by decide +kernel
theorem dd_M_advance_92 : decode cd_M_advance 92 = .ok (.aload_n 0, 1) := by decide +kernel
theorem dd_M_advance_93 : decode cd_M_advance 93 = .ok (.iload 5, 2) := by decide +kernel
theorem dd_M_advance_95 : decode cd_M_advance 95 = .ok (.iload 4, 2) := by decide +kernel
theorem dd_M_advance_97 : decode cd_M_advance 97 = .ok (.invokevirtual 250, 3) := by decide +kernel
theorem dd_M_advance_100 : decode cd_M_advance 100 = .ok (.iinc 5 1, 3) := by decide +kernel
theorem dd_M_advance_103 : decode cd_M_advance 103 = .ok (.goto (-20), 3) := by decide +kernel
theorem dd_M_advance_106 : decode cd_M_advance 106 = .ok (.aload_n 0, 1) := by decide +kernel
theorem dd_M_advance_107 : decode cd_M_advance 107 = .ok (.getfield 209, 3) := by decide +kernel
theorem dd_M_advance_110 : decode cd_M_advance 110 = .ok (.iload_n 3, 1) := by decide +kernel
theorem dd_M_advance_111 : decode cd_M_advance 111 = .ok (.isub, 1) := by decide +kernel
theorem dd_M_advance_112 : decode cd_M_advance 112 = .ok (.ireturn, 1) := by decide +kernel
theorem dd_M_exclude_0 : decode cd_M_exclude 0 = .ok (.aload_n 0, 1) := by decide +kernel
theorem dd_M_exclude_1 : decode cd_M_exclude 1 = .ok (.getfield 181, 3) := by decide +kernel
theorem dd_M_exclude_4 : decode cd_M_exclude 4 = .ok (.ifCond .ne 5, 3) := by decide +kernel
theorem dd_M_exclude_7 : decode cd_M_exclude 7 = .ok (.iconst (-1), 1) := by decide +kernel
theorem dd_M_exclude_8 : decode cd_M_exclude 8 = .ok (.ireturn, 1) := by decide +kernel
theorem dd_M_exclude_9 : decode cd_M_exclude 9 = .ok (.aload_n 0, 1) := by decide +kernel
theorem dd_M_exclude_10 : decode cd_M_exclude 10 = .ok (.lload_n 1, 1) := by decide +kernel
theorem dd_M_exclude_11 : decode cd_M_exclude 11 = .ok (.invokevirtual 202, 3) := by decide +kernel
theorem dd_M_exclude_14 : decode cd_M_exclude 14 = .ok (.istore_n 3, 1) := by decide +kernel
theorem dd_M_exclude_15 : decode cd_M_exclude 15 = .ok (.iload_n 3, 1) := by decide +kernel
theorem dd_M_exclude_16 : decode cd_M_exclude 16 = .ok (.bipush (-2), 2) := by decide +kernel
theorem dd_M_exclude_18 : decode cd_M_exclude 18 = .ok (.if_icmp .ne 6, 3) := by decide +kernel
theorem dd_M_exclude_21 : decode cd_M_exclude 21 = .ok (.bipush (-2), 2) := by decide +kernel
theorem dd_M_exclude_23 : decode cd_M_exclude 23 = .ok (.ireturn, 1) := by decide +kernel
theorem dd_M_exclude_24 : decode cd_M_exclude 24 = .ok (.aload_n 0, 1) := by decide +kernel
theorem dd_M_exclude_25 : decode cd_M_exclude 25 = .ok (.aload_n 0, 1) := by decide +kernel
theorem dd_M_exclude_26 : decode cd_M_exclude 26 = .ok (.getfield 209, 3) := by decide +kernel
theorem dd_M_exclude_29 : decode cd_M_exclude 29 = .ok (.lload_n 1, 1) := by decide +kernel
theorem dd_M_exclude_30 : decode cd_M_exclude 30 = .ok (.invokevirtual 216, 3) := by decide +kernel
theorem dd_M_exclude_33 : decode cd_M_exclude 33 = .ok (.ifCond .lt 6, 3) := by decide +kernel
theorem dd_M_exclude_36 : decode cd_M_exclude 36 = .ok (.bipush (-3), 2) := by decide +kernel
theorem dd_M_exclude_38 : decode cd_M_exclude 38 = .ok (.ireturn, 1) := by decide +kernel
theorem dd_M_exclude_39 : decode cd_M_exclude 39 = .ok (.aload_n 0, 1) := by decide +kernel
theorem dd_M_exclude_40 : decode cd_M_exclude 40 = .ok (.invokevirtual 239, 3) := by decide +kernel
theorem dd_M_exclude_43 : decode cd_M_exclude 43 = .ok (.bipush 10, 2) := by decide +kernel
theorem dd_M_exclude_45 : decode cd_M_exclude 45 = .ok (.aload_n 0, 1) := by decide +kernel
theorem dd_M_exclude_46 : decode cd_M_exclude 46 = .ok (.getfield 209, 3) := by decide +kernel
theorem dd_M_exclude_49 : decode cd_M_exclude 49 = .ok (.imul, 1) := by decide +kernel
theorem dd_M_exclude_50 : decode cd_M_exclude 50 = .ok (.istore 4, 2) := by decide +kernel
theorem dd_M_exclude_52 : decode cd_M_exclude 52 = .ok (.iload 4, 2) := by decide +kernel
theorem dd_M_exclude_54 : decode cd_M_exclude 54 = .ok (.bipush 10, 2) := by decide +kernel
theorem dd_M_exclude_56 : decode cd_M_exclude 56 = .ok (.aload_n 0, 1) := by decide +kernel
theorem dd_M_exclude_57 : decode cd_M_exclude 57 = .ok (.getfield 209, 3) := by decide +kernel
theorem dd_M_exclude_60 : decode cd_M_exclude 60 = .ok (.imul, 1) := by decide +kernel
theorem dd_M_exclude_61 : decode cd_M_exclude 61 = .ok (.aload_n 0, 1) := by decide +kernel
theorem dd_M_exclude_62 : decode cd_M_exclude 62 = .ok (.getfield 87, 3) := by decide +kernel
theorem dd_M_exclude_65 : decode cd_M_exclude 65 = .ok (.aload_n 0, 1) := by decide +kernel
theorem dd_M_exclude_66 : decode cd_M_exclude 66 = .ok (.getfield 209, 3) := by decide +kernel
theorem dd_M_exclude_69 : decode cd_M_exclude 69 = .ok (.iaload, 1) := by decide +kernel
theorem dd_M_exclude_70 : decode cd_M_exclude 70 = .ok (.iadd, 1) := by decide +kernel
theorem dd_M_exclude_71 : decode cd_M_exclude 71 = .ok (.if_icmp .ge 34, 3) := by decide +kernel
theorem dd_M_exclude_74 : decode cd_M_exclude 74 = .ok (.aload_n 0, 1) := by decide +kernel
theorem dd_M_exclude_75 : decode cd_M_exclude 75 = .ok (.getfield 93, 3) := by decide +kernel
theorem dd_M_exclude_78 : decode cd_M_exclude 78 = .ok (.iload 4, 2) := by decide +kernel
theorem dd_M_exclude_80 : decode cd_M_exclude 80 = .ok (.iaload, 1) := by decide +kernel
theorem dd_M_exclude_81 : decode cd_M_exclude 81 = .ok (.iload_n 3, 1) := by decide +kernel
theorem dd_M_exclude_82 : decode cd_M_exclude 82 = .ok (.if_icmp .ne 6, 3) := by decide +kernel
theorem dd_M_exclude_85 : decode cd_M_exclude 85 = .ok (.bipush (-5), 2) := by decide +kernel
theorem dd_M_exclude_87 : decode cd_M_exclude 87 = .ok (.ireturn, 1) := by decide +kernel
theorem dd_M_exclude_88 : decode cd_M_exclude 88 = .ok (.aload_n 0, 1) := by decide +kernel
theorem dd_M_exclude_89 : decode cd_M_exclude 89 = .ok (.aload_n 0, 1) := by decide +kernel
theorem dd_M_exclude_90 : decode cd_M_exclude 90 = .ok (.getfield 93, 3) := by decide +kernel
theorem dd_M_exclude_93 : decode cd_M_exclude 93 = .ok (.iload 4, 2) := by decide +kernel
theorem dd_M_exclude_95 : decode cd_M_exclude 95 = .ok (.iaload, 1) := by decide +kernel
theorem dd_M_exclude_96 : decode cd_M_exclude 96 = .ok (.invokevirtual 175, 3) := by decide +kernel
theorem dd_M_exclude_99 : decode cd_M_exclude 99 = .ok (.iinc 4 1, 3) := by decide +kernel
theorem dd_M_exclude_102 : decode cd_M_exclude 102 = .ok (.goto (-50), 3) := by decide +kernel
theorem dd_M_exclude_105 : decode cd_M_exclude 105 = .ok (.aload_n 0, 1) := by decide +kernel
theorem dd_M_exclude_106 : decode cd_M_exclude 106 = .ok (.aload_n 0, 1) := by decide +kernel
theorem dd_M_exclude_107 : decode cd_M_exclude 107 = .ok (.iload_n 3, 1) := by decide +kernel
theorem dd_M_exclude_108 : decode cd_M_exclude 108 = .ok (.invokevirtual 242, 3) := by decide +kernel
theorem dd_M_exclude_111 : decode cd_M_exclude 111 = .ok (.putfield 232, 3) := by decide +kernel
theorem dd_M_exclude_114 : decode cd_M_exclude 114 = .ok (.aload_n 0, 1) := by decide +kernel
theorem dd_M_exclude_115 : decode cd_M_exclude 115 = .ok (.aload_n 0, 1) := by decide +kernel
theorem dd_M_exclude_116 : decode cd_M_exclude 116 = .ok (.getfield 192, 3) := by decide +kernel
theorem dd_M_exclude_119 : decode cd_M_exclude 119 = .ok (.aload_n 0, 1) := by decide +kernel
theorem dd_M_exclude_120 : decode cd_M_exclude 120 = .ok (.getfield 195, 3) := by decide +kernel
theorem dd_M_exclude_123 : decode cd_M_exclude 123 = .ok (.invokevirtual 246, 3) := by decide +kernel
theorem dd_M_exclude_126 : decode cd_M_exclude 126 = .ok (.aload_n 0, 1) := by decide +kernel
theorem dd_M_exclude_127 : decode cd_M_exclude 127 = .ok (.aload_n 0, 1) := by decide +kernel
theorem dd_M_exclude_128 : decode cd_M_exclude 128 = .ok (.getfield 154, 3) := by decide +kernel
theorem dd_M_exclude_131 : decode cd_M_exclude 131 = .ok (.putfield 226, 3) := by decide +kernel
theorem dd_M_exclude_134 : decode cd_M_exclude 134 = .ok (.aload_n 0, 1) := by decide +kernel
theorem dd_M_exclude_135 : decode cd_M_exclude 135 = .ok (.aload_n 0, 1) := by decide +kernel
theorem dd_M_exclude_136 : decode cd_M_exclude 136 = .ok (.getfield 151, 3) := by decide +kernel
theorem dd_M_exclude_139 : decode cd_M_exclude 139 = .ok (.putfield 229, 3) := by decide +kernel
theorem dd_M_exclude_142 : decode cd_M_exclude 142 = .ok (.aload_n 0, 1) := by decide +kernel
theorem dd_M_exclude_143 : decode cd_M_exclude 143 = .ok (.getfield 232, 3) := by decide +kernel
theorem dd_M_exclude_146 : decode cd_M_exclude 146 = .ok (.ireturn, 1) := by decide +kernel
theorem dd_M_checkExclude_0 : decode cd_M_checkExclude 0 = .ok (.aload_n 0, 1) := by decide +kernel
theorem dd_M_checkExclude_1 : decode cd_M_checkExclude 1 = .ok (.getfield 181, 3) := by decide +kernel
theorem dd_M_checkExclude_4 : decode cd_M_checkExclude 4 = .ok (.ifCond .ne 5, 3) := by decide +kernel
theorem dd_M_checkExclude_7 : decode cd_M_checkExclude 7 = .ok (.iconst (-1), 1) := by decide +kernel
theorem dd_M_checkExclude_8 : decode cd_M_checkExclude 8 = .ok (.ireturn, 1) := by decide +kernel
theorem dd_M_checkExclude_9 : decode cd_M_checkExclude 9 = .ok (.aload_n 0, 1) := by decide +kernel
theorem dd_M_checkExclude_10 : decode cd_M_checkExclude 10 = .ok (.lload_n 1, 1) := by decide +kernel
theorem dd_M_checkExclude_11 : decode cd_M_checkExclude 11 = .ok (.invokevirtual 202, 3) := by decide +kernel
theorem dd_M_checkExclude_14 : decode cd_M_checkExclude 14 = .ok (.istore 4, 2) := by decide +kernel
theorem dd_M_checkExclude_16 : decode cd_M_checkExclude 16 = .ok (.iload 4, 2) := by decide +kernel
theorem dd_M_checkExclude_18 : decode cd_M_checkExclude 18 = .ok (.bipush (-2), 2) := by decide +kernel
theorem dd_M_checkExclude_20 : decode cd_M_checkExclude 20 = .ok (.if_icmp .eq 11, 3) := by decide +kernel
theorem dd_M_checkExclude_23 : decode cd_M_checkExclude 23 = .ok (.aload_n 0, 1) := by decide +kernel
theorem dd_M_checkExclude_24 : decode cd_M_checkExclude 24 = .ok (.iload_n 3, 1) := by decide +kernel
theorem dd_M_checkExclude_25 : decode cd_M_checkExclude 25 = .ok (.invokevirtual 220, 3) := by decide +kernel
theorem dd_M_checkExclude_28 : decode cd_M_checkExclude 28 = .ok (.ifCond .ne 6, 3) := by decide +kernel
theorem dd_M_checkExclude_31 : decode cd_M_checkExclude 31 = .ok (.bipush (-2), 2) := by decide +kernel
theorem dd_M_checkExclude_33 : decode cd_M_checkExclude 33 = .ok (.ireturn, 1) := by decide +kernel
theorem dd_M_checkExclude_34 : decode cd_M_checkExclude 34 = .ok (.aload_n 0, 1) := by decide +kernel
theorem dd_M_checkExclude_35 : decode cd_M_checkExclude 35 = .ok (.aload_n 0, 1) := by decide +kernel
theorem dd_M_checkExclude_36 : decode cd_M_checkExclude 36 = .ok (.getfield 226, 3) := by decide +kernel
theorem dd_M_checkExclude_39 : decode cd_M_checkExclude 39 = .ok (.aload_n 0, 1) := by decide +kernel
theorem dd_M_checkExclude_40 : decode cd_M_checkExclude 40 = .ok (.getfield 229, 3) := by decide +kernel
theorem dd_M_checkExclude_43 : decode cd_M_checkExclude 43 = .ok (.iload 4, 2) := by decide +kernel
theorem dd_M_checkExclude_45 : decode cd_M_checkExclude 45 = .ok (.invokevirtual 212, 3) := by decide +kernel
theorem dd_M_checkExclude_48 : decode cd_M_checkExclude 48 = .ok (.aload_n 0, 1) := by decide +kernel
theorem dd_M_checkExclude_49 : decode cd_M_checkExclude 49 = .ok (.getfield 154, 3) := by decide +kernel
theorem dd_M_checkExclude_52 : decode cd_M_checkExclude 52 = .ok (.lstore 5, 2) := by decide +kernel
theorem dd_M_checkExclude_54 : decode cd_M_checkExclude 54 = .ok (.aload_n 0, 1) := by decide +kernel
theorem dd_M_checkExclude_55 : decode cd_M_checkExclude 55 = .ok (.getfield 151, 3) := by decide +kernel
theorem dd_M_checkExclude_58 : decode cd_M_checkExclude 58 = .ok (.lstore 7, 2) := by decide +kernel
theorem dd_M_checkExclude_60 : decode cd_M_checkExclude 60 = .ok (.aload_n 0, 1) := by decide +kernel
theorem dd_M_checkExclude_61 : decode cd_M_checkExclude 61 = .ok (.aload_n 0, 1) := by decide +kernel
theorem dd_M_checkExclude_62 : decode cd_M_checkExclude 62 = .ok (.getfield 96, 3) := by decide +kernel
theorem dd_M_checkExclude_65 : decode cd_M_checkExclude 65 = .ok (.iload_n 3, 1) := by decide +kernel
theorem dd_M_checkExclude_66 : decode cd_M_checkExclude 66 = .ok (.laload, 1) := by decide +kernel
theorem dd_M_checkExclude_67 : decode cd_M_checkExclude 67 = .ok (.aload_n 0, 1) := by decide +kernel
theorem dd_M_checkExclude_68 : decode cd_M_checkExclude 68 = .ok (.getfield 99, 3) := by decide +kernel
theorem dd_M_checkExclude_71 : decode cd_M_checkExclude 71 = .ok (.iload_n 3, 1) := by decide +kernel
theorem dd_M_checkExclude_72 : decode cd_M_checkExclude 72 = .ok (.laload, 1) := by decide +kernel
theorem dd_M_checkExclude_73 : decode cd_M_checkExclude 73 = .ok (.aload_n 0, 1) := by decide +kernel
theorem dd_M_checkExclude_74 : decode cd_M_checkExclude 74 = .ok (.getfield 232, 3) := by decide +kernel
theorem dd_M_checkExclude_77 : decode cd_M_checkExclude 77 = .ok (.invokevirtual 212, 3) := by decide +kernel
theorem dd_M_checkExclude_80 : decode cd_M_checkExclude 80 = .ok (.aload_n 0, 1) := by decide +kernel
theorem dd_M_checkExclude_81 : decode cd_M_checkExclude 81 = .ok (.lload 5, 2) := by decide +kernel
theorem dd_M_checkExclude_83 : decode cd_M_checkExclude 83 = .ok (.lload 7, 2) := by decide +kernel
theorem dd_M_checkExclude_85 : decode cd_M_checkExclude 85 = .ok (.aload_n 0, 1) := by decide +kernel
theorem dd_M_checkExclude_86 : decode cd_M_checkExclude 86 = .ok (.getfield 154, 3) := by decide +kernel
theorem dd_M_checkExclude_89 : decode cd_M_checkExclude 89 = .ok (.aload_n 0, 1) := by decide +kernel
theorem dd_M_checkExclude_90 : decode cd_M_checkExclude 90 = .ok (.getfield 151, 3) := by decide +kernel
theorem dd_M_checkExclude_93 : decode cd_M_checkExclude 93 = .ok (.invokevirtual 164, 3) := by decide +kernel
theorem dd_M_checkExclude_96 : decode cd_M_checkExclude 96 = .ok (.aload_n 0, 1) := by decide +kernel
theorem dd_M_checkExclude_97 : decode cd_M_checkExclude 97 = .ok (.getfield 154, 3) := by decide +kernel
theorem dd_M_checkExclude_100 : decode cd_M_checkExclude 100 = .ok (.lconst 0, 1) := by decide +kernel
theorem dd_M_checkExclude_101 : decode cd_M_checkExclude 101 = .ok (.lcmp, 1) := by decide +kernel
theorem dd_M_checkExclude_102 : decode cd_M_checkExclude 102 = .ok (.ifCond .ne 18, 3) := by decide +kernel
theorem dd_M_checkExclude_105 : decode cd_M_checkExclude 105 = .ok (.aload_n 0, 1) := by decide +kernel
theorem dd_M_checkExclude_106 : decode cd_M_checkExclude 106 = .ok (.getfield 151, 3) := by decide +kernel
theorem dd_M_checkExclude_109 : decode cd_M_checkExclude 109 = .ok (.ldc2_w 118, 3) := by decide +kernel
theorem dd_M_checkExclude_112 : decode cd_M_checkExclude 112 = .ok (.lcmp, 1) := by decide +kernel
theorem dd_M_checkExclude_113 : decode cd_M_checkExclude 113 = .ok (.ifCond .ne 7, 3) := by decide +kernel
theorem dd_M_checkExclude_116 : decode cd_M_checkExclude 116 = .ok (.iconst 1, 1) := by decide +kernel
theorem dd_M_checkExclude_117 : decode cd_M_checkExclude 117 = .ok (.goto 4, 3) := by decide +kernel
theorem dd_M_checkExclude_120 : decode cd_M_checkExclude 120 = .ok (.iconst 0, 1) := by decide +kernel
theorem dd_M_checkExclude_121 : decode cd_M_checkExclude 121 = .ok (.ireturn, 1) := by decide +kernel
