theorem dd_L_law_0 : decode cd_L_law 0 = .ok (.new 7, 3) := by decide +kernel
theorem dd_L_law_3 : decode cd_L_law 3 = .ok (.dup, 1) := by decide +kernel
theorem dd_L_law_4 : decode cd_L_law 4 = .ok (.invokespecial 9, 3) := by decide +kernel
theorem dd_L_law_7 : decode cd_L_law 7 = .ok (.astore_n 1, 1) := by decide +kernel
theorem dd_L_law_8 : decode cd_L_law 8 = .ok (.new 10, 3) := by decide +kernel
theorem dd_L_law_11 : decode cd_L_law 11 = .ok (.dup, 1) := by decide +kernel
theorem dd_L_law_12 : decode cd_L_law 12 = .ok (.invokespecial 12, 3) := by decide +kernel
theorem dd_L_law_15 : decode cd_L_law 15 = .ok (.astore_n 2, 1) := by decide +kernel
theorem dd_L_law_16 : decode cd_L_law 16 = .ok (.iconst 0, 1) := by decide +kernel
theorem dd_L_law_17 : decode cd_L_law 17 = .ok (.istore_n 3, 1) := by decide +kernel
theorem dd_L_law_18 : decode cd_L_law 18 = .ok (.iload_n 3, 1) := by decide +kernel
theorem dd_L_law_19 : decode cd_L_law 19 = .ok (.aload_n 0, 1) := by decide +kernel
theorem dd_L_law_20 : decode cd_L_law 20 = .ok (.arraylength, 1) := by decide +kernel
theorem dd_L_law_21 : decode cd_L_law 21 = .ok (.bipush 6, 2) := by decide +kernel
theorem dd_L_law_23 : decode cd_L_law 23 = .ok (.isub, 1) := by decide +kernel
theorem dd_L_law_24 : decode cd_L_law 24 = .ok (.if_icmp .gt 1067, 3) := by decide +kernel
theorem dd_L_law_27 : decode cd_L_law 27 = .ok (.aload_n 0, 1) := by decide +kernel
theorem dd_L_law_28 : decode cd_L_law 28 = .ok (.iload_n 3, 1) := by decide +kernel
theorem dd_L_law_29 : decode cd_L_law 29 = .ok (.iaload, 1) := by decide +kernel
theorem dd_L_law_30 : decode cd_L_law 30 = .ok (.bipush 31, 2) := by decide +kernel
theorem dd_L_law_32 : decode cd_L_law 32 = .ok (.iand, 1) := by decide +kernel
theorem dd_L_law_33 : decode cd_L_law 33 = .ok (.tableswitch 1052 0 17 #[87, 180, 233, 286, 339, 352, 375, 428, 478, 521, 601, 654, 757, 797, 810, 873, 936, 989], 87) := by decide +kernel
theorem dd_L_law_120 : decode cd_L_law 120 = .ok (.aload_n 1, 1) := by decide +kernel
theorem dd_L_law_121 : decode cd_L_law 121 = .ok (.aload_n 0, 1) := by decide +kernel
theorem dd_L_law_122 : decode cd_L_law 122 = .ok (.iload_n 3, 1) := by decide +kernel
theorem dd_L_law_123 : decode cd_L_law 123 = .ok (.iconst 1, 1) := by decide +kernel
theorem dd_L_law_124 : decode cd_L_law 124 = .ok (.iadd, 1) := by decide +kernel
theorem dd_L_law_125 : decode cd_L_law 125 = .ok (.iaload, 1) := by decide +kernel
theorem dd_L_law_126 : decode cd_L_law 126 = .ok (.i2l, 1) := by decide +kernel
theorem dd_L_law_127 : decode cd_L_law 127 = .ok (.bipush 32, 2) := by decide +kernel
theorem dd_L_law_129 : decode cd_L_law 129 = .ok (.lshl, 1) := by decide +kernel
theorem dd_L_law_130 : decode cd_L_law 130 = .ok (.aload_n 0, 1) := by decide +kernel
theorem dd_L_law_131 : decode cd_L_law 131 = .ok (.iload_n 3, 1) := by decide +kernel
theorem dd_L_law_132 : decode cd_L_law 132 = .ok (.iconst 2, 1) := by decide +kernel
theorem dd_L_law_133 : decode cd_L_law 133 = .ok (.iadd, 1) := by decide +kernel
theorem dd_L_law_134 : decode cd_L_law 134 = .ok (.iaload, 1) := by decide +kernel
theorem dd_L_law_135 : decode cd_L_law 135 = .ok (.i2l, 1) := by decide +kernel
theorem dd_L_law_136 : decode cd_L_law 136 = .ok (.ldc2_w 13, 3) := by decide +kernel
theorem dd_L_law_139 : decode cd_L_law 139 = .ok (.land, 1) := by decide +kernel
theorem dd_L_law_140 : decode cd_L_law 140 = .ok (.lor, 1) := by decide +kernel
theorem dd_L_law_141 : decode cd_L_law 141 = .ok (.aload_n 0, 1) := by decide +kernel
theorem dd_L_law_142 : decode cd_L_law 142 = .ok (.iload_n 3, 1) := by decide +kernel
theorem dd_L_law_143 : decode cd_L_law 143 = .ok (.iconst 3, 1) := by decide +kernel
theorem dd_L_law_144 : decode cd_L_law 144 = .ok (.iadd, 1) := by decide +kernel
theorem dd_L_law_145 : decode cd_L_law 145 = .ok (.iaload, 1) := by decide +kernel
theorem dd_L_law_146 : decode cd_L_law 146 = .ok (.i2l, 1) := by decide +kernel
theorem dd_L_law_147 : decode cd_L_law 147 = .ok (.bipush 32, 2) := by decide +kernel
theorem dd_L_law_149 : decode cd_L_law 149 = .ok (.lshl, 1) := by decide +kernel
theorem dd_L_law_150 : decode cd_L_law 150 = .ok (.aload_n 0, 1) := by decide +kernel
theorem dd_L_law_151 : decode cd_L_law 151 = .ok (.iload_n 3, 1) := by decide +kernel
theorem dd_L_law_152 : decode cd_L_law 152 = .ok (.iconst 4, 1) := by decide +kernel
theorem dd_L_law_153 : decode cd_L_law 153 = .ok (.iadd, 1) := by decide +kernel
theorem dd_L_law_154 : decode cd_L_law 154 = .ok (.iaload, 1) := by decide +kernel
theorem dd_L_law_155 : decode cd_L_law 155 = .ok (.i2l, 1) := by decide +kernel
theorem dd_L_law_156 : decode cd_L_law 156 = .ok (.ldc2_w 13, 3) := by decide +kernel
theorem dd_L_law_159 : decode cd_L_law 159 = .ok (.land, 1) := by decide +kernel
theorem dd_L_law_160 : decode cd_L_law 160 = .ok (.lor, 1) := by decide +kernel
theorem dd_L_law_161 : decode cd_L_law 161 = .ok (.invokevirtual 15, 3) := by decide +kernel
theorem dd_L_law_164 : decode cd_L_law 164 = .ok (.aload_n 2, 1) := by decide +kernel
theorem dd_L_law_165 : decode cd_L_law 165 = .ok (.aload_n 0, 1) := by decide +kernel
theorem dd_L_law_166 : decode cd_L_law 166 = .ok (.iload_n 3, 1) := by decide +kernel
theorem dd_L_law_167 : decode cd_L_law 167 = .ok (.iconst 1, 1) := by decide +kernel
theorem dd_L_law_168 : decode cd_L_law 168 = .ok (.iadd, 1) := by decide +kernel
theorem dd_L_law_169 : decode cd_L_law 169 = .ok (.iaload, 1) := by decide +kernel
theorem dd_L_law_170 : decode cd_L_law 170 = .ok (.i2l, 1) := by decide +kernel
theorem dd_L_law_171 : decode cd_L_law 171 = .ok (.bipush 32, 2) := by decide +kernel
theorem dd_L_law_173 : decode cd_L_law 173 = .ok (.lshl, 1) := by decide +kernel
theorem dd_L_law_174 : decode cd_L_law 174 = .ok (.aload_n 0, 1) := by decide +kernel
theorem dd_L_law_175 : decode cd_L_law 175 = .ok (.iload_n 3, 1) := by decide +kernel
theorem dd_L_law_176 : decode cd_L_law 176 = .ok (.iconst 2, 1) := by decide +kernel
theorem dd_L_law_177 : decode cd_L_law 177 = .ok (.iadd, 1) := by decide +kernel
theorem dd_L_law_178 : decode cd_L_law 178 = .ok (.iaload, 1) := by decide +kernel
theorem dd_L_law_179 : decode cd_L_law 179 = .ok (.i2l, 1) := by decide +kernel
theorem dd_L_law_180 : decode cd_L_law 180 = .ok (.ldc2_w 13, 3) := by decide +kernel
theorem dd_L_law_183 : decode cd_L_law 183 = .ok (.land, 1) := by decide +kernel
theorem dd_L_law_184 : decode cd_L_law 184 = .ok (.lor, 1) := by decide +kernel
theorem dd_L_law_185 : decode cd_L_law 185 = .ok (.aload_n 0, 1) := by decide +kernel
theorem dd_L_law_186 : decode cd_L_law 186 = .ok (.iload_n 3, 1) := by decide +kernel
theorem dd_L_law_187 : decode cd_L_law 187 = .ok (.iconst 3, 1) := by decide +kernel
theorem dd_L_law_188 : decode cd_L_law 188 = .ok (.iadd, 1) := by decide +kernel
theorem dd_L_law_189 : decode cd_L_law 189 = .ok (.iaload, 1) := by decide +kernel
theorem dd_L_law_190 : decode cd_L_law 190 = .ok (.i2l, 1) := by decide +kernel
theorem dd_L_law_191 : decode cd_L_law 191 = .ok (.bipush 32, 2) := by decide +kernel
theorem dd_L_law_193 : decode cd_L_law 193 = .ok (.lshl, 1) := by decide +kernel
theorem dd_L_law_194 : decode cd_L_law 194 = .ok (.aload_n 0, 1) := by decide +kernel
theorem dd_L_law_195 : decode cd_L_law 195 = .ok (.iload_n 3, 1) := by decide +kernel
theorem dd_L_law_196 : decode cd_L_law 196 = .ok (.iconst 4, 1) := by decide +kernel
theorem dd_L_law_197 : decode cd_L_law 197 = .ok (.iadd, 1) := by decide +kernel
theorem dd_L_law_198 : decode cd_L_law 198 = .ok (.iaload, 1) := by decide +kernel
theorem dd_L_law_199 : decode cd_L_law 199 = .ok (.i2l, 1) := by decide +kernel
theorem dd_L_law_200 : decode cd_L_law 200 = .ok (.ldc2_w 13, 3) := by decide +kernel
theorem dd_L_law_203 : decode cd_L_law 203 = .ok (.land, 1) := by decide +kernel
theorem dd_L_law_204 : decode cd_L_law 204 = .ok (.lor, 1) := by decide +kernel
theorem dd_L_law_205 : decode cd_L_law 205 = .ok (.invokevirtual 19, 3) := by decide +kernel
theorem dd_L_law_208 : decode cd_L_law 208 = .ok (.if_icmp .eq 877, 3) := by decide +kernel
theorem dd_L_law_211 : decode cd_L_law 211 = .ok (.iconst 0, 1) := by decide +kernel
theorem dd_L_law_212 : decode cd_L_law 212 = .ok (.ireturn, 1) := by decide +kernel
theorem dd_L_law_213 : decode cd_L_law 213 = .ok (.aload_n 1, 1) := by decide +kernel
theorem dd_L_law_214 : decode cd_L_law 214 = .ok (.aload_n 0, 1) := by decide +kernel
theorem dd_L_law_215 : decode cd_L_law 215 = .ok (.iload_n 3, 1) := by decide +kernel
theorem dd_L_law_216 : decode cd_L_law 216 = .ok (.iconst 1, 1) := by decide +kernel
theorem dd_L_law_217 : decode cd_L_law 217 = .ok (.iadd, 1) := by decide +kernel
theorem dd_L_law_218 : decode cd_L_law 218 = .ok (.iaload, 1) := by decide +kernel
theorem dd_L_law_219 : decode cd_L_law 219 = .ok (.i2l, 1) := by decide +kernel
theorem dd_L_law_220 : decode cd_L_law 220 = .ok (.bipush 32, 2) := by decide +kernel
theorem dd_L_law_222 : decode cd_L_law 222 = .ok (.lshl, 1) := by decide +kernel
theorem dd_L_law_223 : decode cd_L_law 223 = .ok (.aload_n 0, 1) := by decide +kernel
theorem dd_L_law_224 : decode cd_L_law 224 = .ok (.iload_n 3, 1) := by decide +kernel
theorem dd_L_law_225 : decode cd_L_law 225 = .ok (.iconst 2, 1) := by decide +kernel
theorem dd_L_law_226 : decode cd_L_law 226 = .ok (.iadd, 1) := by decide +kernel
theorem dd_L_law_227 : decode cd_L_law 227 = .ok (.iaload, 1) := by decide +kernel
theorem dd_L_law_228 : decode cd_L_law 228 = .ok (.i2l, 1) := by decide +kernel
theorem dd_L_law_229 : decode cd_L_law 229 = .ok (.ldc2_w 13, 3) := by decide +kernel
theorem dd_L_law_232 : decode cd_L_law 232 = .ok (.land, 1) := by decide +kernel
theorem dd_L_law_233 : decode cd_L_law 233 = .ok (.lor, 1) := by decide +kernel
theorem dd_L_law_234 : decode cd_L_law 234 = .ok (.invokevirtual 20, 3) := by decide +kernel
theorem dd_L_law_237 : decode cd_L_law 237 = .ok (.aload_n 2, 1) := by decide +kernel
theorem dd_L_law_238 : decode cd_L_law 238 = .ok (.aload_n 0, 1) := by decide +kernel
theorem dd_L_law_239 : decode cd_L_law 239 = .ok (.iload_n 3, 1) := by decide +kernel
theorem dd_L_law_240 : decode cd_L_law 240 = .ok (.iconst 1, 1) := by decide +kernel
theorem dd_L_law_241 : decode cd_L_law 241 = .ok (.iadd, 1) := by decide +kernel
theorem dd_L_law_242 : decode cd_L_law 242 = .ok (.iaload, 1) := by decide +kernel
theorem dd_L_law_243 : decode cd_L_law 243 = .ok (.i2l, 1) := by decide +kernel
theorem dd_L_law_244 : decode cd_L_law 244 = .ok (.bipush 32, 2) := by decide +kernel
theorem dd_L_law_246 : decode cd_L_law 246 = .ok (.lshl, 1) := by decide +kernel
theorem dd_L_law_247 : decode cd_L_law 247 = .ok (.aload_n 0, 1) := by decide +kernel
theorem dd_L_law_248 : decode cd_L_law 248 = .ok (.iload_n 3, 1) := by decide +kernel
theorem dd_L_law_249 : decode cd_L_law 249 = .ok (.iconst 2, 1) := by decide +kernel
theorem dd_L_law_250 : decode cd_L_law 250 = .ok (.iadd, 1) := by decide +kernel
theorem dd_L_law_251 : decode cd_L_law 251 = .ok (.iaload, 1) := by decide +kernel
theorem dd_L_law_252 : decode cd_L_law 252 = .ok (.i2l, 1) := by decide +kernel
theorem dd_L_law_253 : decode cd_L_law 253 = .ok (.ldc2_w 13, 3) := by decide +kernel
theorem dd_L_law_256 : decode cd_L_law 256 = .ok (.land, 1) := by decide +kernel
theorem dd_L_law_257 : decode cd_L_law 257 = .ok (.lor, 1) := by decide +kernel
theorem dd_L_law_258 : decode cd_L_law 258 = .ok (.invokevirtual 24, 3) := by decide +kernel
theorem dd_L_law_261 : decode cd_L_law 261 = .ok (.if_icmp .eq 824, 3) := by decide +kernel
theorem dd_L_law_264 : decode cd_L_law 264 = .ok (.iconst 0, 1) := by decide +kernel
theorem dd_L_law_265 : decode cd_L_law 265 = .ok (.ireturn, 1) := by decide +kernel
theorem dd_L_law_266 : decode cd_L_law 266 = .ok (.aload_n 1, 1) := by decide +kernel
theorem dd_L_law_267 : decode cd_L_law 267 = .ok (.aload_n 0, 1) := by decide +kernel
theorem dd_L_law_268 : decode cd_L_law 268 = .ok (.iload_n 3, 1) := by decide +kernel
theorem dd_L_law_269 : decode cd_L_law 269 = .ok (.iconst 1, 1) := by decide +kernel
theorem dd_L_law_270 : decode cd_L_law 270 = .ok (.iadd, 1) := by decide +kernel
theorem dd_L_law_271 : decode cd_L_law 271 = .ok (.iaload, 1) := by decide +kernel
theorem dd_L_law_272 : decode cd_L_law 272 = .ok (.i2l, 1) := by decide +kernel
theorem dd_L_law_273 : decode cd_L_law 273 = .ok (.bipush 32, 2) := by decide +kernel
theorem dd_L_law_275 : decode cd_L_law 275 = .ok (.lshl, 1) := by decide +kernel
theorem dd_L_law_276 : decode cd_L_law 276 = .ok (.aload_n 0, 1) := by decide +kernel
theorem dd_L_law_277 : decode cd_L_law 277 = .ok (.iload_n 3, 1) := by decide +kernel
theorem dd_L_law_278 : decode cd_L_law 278 = .ok (.iconst 2, 1) := by decide +kernel
theorem dd_L_law_279 : decode cd_L_law 279 = .ok (.iadd, 1) := by decide +kernel
theorem dd_L_law_280 : decode cd_L_law 280 = .ok (.iaload, 1) := by decide +kernel
theorem dd_L_law_281 : decode cd_L_law 281 = .ok (.i2l, 1) := by decide +kernel
theorem dd_L_law_282 : decode cd_L_law 282 = .ok (.ldc2_w 13, 3) := by decide +kernel
theorem dd_L_law_285 : decode cd_L_law 285 = .ok (.land, 1) := by decide +kernel
theorem dd_L_law_286 : decode cd_L_law 286 = .ok (.lor, 1) := by decide +kernel
theorem dd_L_law_287 : decode cd_L_law 287 = .ok (.invokevirtual 25, 3) := by decide +kernel
theorem dd_L_law_290 : decode cd_L_law 290 = .ok (.aload_n 2, 1) := by decide +kernel
theorem dd_L_law_291 : decode cd_L_law 291 = .ok (.aload_n 0, 1) := by decide +kernel
theorem dd_L_law_292 : decode cd_L_law 292 = .ok (.iload_n 3, 1) := by decide +kernel
theorem dd_L_law_293 : decode cd_L_law 293 = .ok (.iconst 1, 1) := by decide +kernel
theorem dd_L_law_294 : decode cd_L_law 294 = .ok (.iadd, 1) := by decide +kernel
theorem dd_L_law_295 : decode cd_L_law 295 = .ok (.iaload, 1) := by decide +kernel
theorem dd_L_law_296 : decode cd_L_law 296 = .ok (.i2l, 1) := by decide +kernel
theorem dd_L_law_297 : decode cd_L_law 297 = .ok (.bipush 32, 2) := by decide +kernel
theorem dd_L_law_299 : decode cd_L_law 299 = .ok (.lshl, 1) := by decide +kernel
theorem dd_L_law_300 : decode cd_L_law 300 = .ok (.aload_n 0, 1) := by decide +kernel
theorem dd_L_law_301 : decode cd_L_law 301 = .ok (.iload_n 3, 1) := by decide +kernel
theorem dd_L_law_302 : decode cd_L_law 302 = .ok (.iconst 2, 1) := by decide +kernel
theorem dd_L_law_303 : decode cd_L_law 303 = .ok (.iadd, 1) := by decide +kernel
theorem dd_L_law_304 : decode cd_L_law 304 = .ok (.iaload, 1) := by decide +kernel
theorem dd_L_law_305 : decode cd_L_law 305 = .ok (.i2l, 1) := by decide +kernel
theorem dd_L_law_306 : decode cd_L_law 306 = .ok (.ldc2_w 13, 3) := by decide +kernel
theorem dd_L_law_309 : decode cd_L_law 309 = .ok (.land, 1) := by decide +kernel
theorem dd_L_law_310 : decode cd_L_law 310 = .ok (.lor, 1) := by decide +kernel
theorem dd_L_law_311 : decode cd_L_law 311 = .ok (.invokevirtual 28, 3) := by decide +kernel
theorem dd_L_law_314 : decode cd_L_law 314 = .ok (.if_icmp .eq 771, 3) := by decide +kernel
theorem dd_L_law_317 : decode cd_L_law 317 = .ok (.iconst 0, 1) := by decide +kernel
theorem dd_L_law_318 : decode cd_L_law 318 = .ok (.ireturn, 1) := by decide +kernel
theorem dd_L_law_319 : decode cd_L_law 319 = .ok (.aload_n 1, 1) := by decide +kernel
theorem dd_L_law_320 : decode cd_L_law 320 = .ok (.aload_n 0, 1) := by decide +kernel
theorem dd_L_law_321 : decode cd_L_law 321 = .ok (.iload_n 3, 1) := by decide +kernel
theorem dd_L_law_322 : decode cd_L_law 322 = .ok (.iconst 1, 1) := by decide +kernel
theorem dd_L_law_323 : decode cd_L_law 323 = .ok (.iadd, 1) := by decide +kernel
theorem dd_L_law_324 : decode cd_L_law 324 = .ok (.iaload, 1) := by decide +kernel
theorem dd_L_law_325 : decode cd_L_law 325 = .ok (.i2l, 1) := by decide +kernel
theorem dd_L_law_326 : decode cd_L_law 326 = .ok (.bipush 32, 2) := by decide +kernel
theorem dd_L_law_328 : decode cd_L_law 328 = .ok (.lshl, 1) := by decide +kernel
theorem dd_L_law_329 : decode cd_L_law 329 = .ok (.aload_n 0, 1) := by decide +kernel
theorem dd_L_law_330 : decode cd_L_law 330 = .ok (.iload_n 3, 1) := by decide +kernel
theorem dd_L_law_331 : decode cd_L_law 331 = .ok (.iconst 2, 1) := by decide +kernel
theorem dd_L_law_332 : decode cd_L_law 332 = .ok (.iadd, 1) := by decide +kernel
theorem dd_L_law_333 : decode cd_L_law 333 = .ok (.iaload, 1) := by decide +kernel
theorem dd_L_law_334 : decode cd_L_law 334 = .ok (.i2l, 1) := by decide +kernel
theorem dd_L_law_335 : decode cd_L_law 335 = .ok (.ldc2_w 13, 3) := by decide +kernel
theorem dd_L_law_338 : decode cd_L_law 338 = .ok (.land, 1) := by decide +kernel
theorem dd_L_law_339 : decode cd_L_law 339 = .ok (.lor, 1) := by decide +kernel
theorem dd_L_law_340 : decode cd_L_law 340 = .ok (.invokevirtual 29, 3) := by decide +kernel
theorem dd_L_law_343 : decode cd_L_law 343 = .ok (.aload_n 2, 1) := by decide +kernel
theorem dd_L_law_344 : decode cd_L_law 344 = .ok (.aload_n 0, 1) := by decide +kernel
theorem dd_L_law_345 : decode cd_L_law 345 = .ok (.iload_n 3, 1) := by decide +kernel
theorem dd_L_law_346 : decode cd_L_law 346 = .ok (.iconst 1, 1) := by decide +kernel
theorem dd_L_law_347 : decode cd_L_law 347 = .ok (.iadd, 1) := by decide +kernel
theorem dd_L_law_348 : decode cd_L_law 348 = .ok (.iaload, 1) := by decide +kernel
theorem dd_L_law_349 : decode cd_L_law 349 = .ok (.i2l, 1) := by decide +kernel
theorem dd_L_law_350 : decode cd_L_law 350 = .ok (.bipush 32, 2) := by decide +kernel
theorem dd_L_law_352 : decode cd_L_law 352 = .ok (.lshl, 1) := by decide +kernel
theorem dd_L_law_353 : decode cd_L_law 353 = .ok (.aload_n 0, 1) := by decide +kernel
theorem dd_L_law_354 : decode cd_L_law 354 = .ok (.iload_n 3, 1) := by decide +kernel
theorem dd_L_law_355 : decode cd_L_law 355 = .ok (.iconst 2, 1) := by decide +kernel
theorem dd_L_law_356 : decode cd_L_law 356 = .ok (.iadd, 1) := by decide +kernel
theorem dd_L_law_357 : decode cd_L_law 357 = .ok (.iaload, 1) := by decide +kernel
theorem dd_L_law_358 : decode cd_L_law 358 = .ok (.i2l, 1) := by decide +kernel
theorem dd_L_law_359 : decode cd_L_law 359 = .ok (.ldc2_w 13, 3) := by decide +kernel
theorem dd_L_law_362 : decode cd_L_law 362 = .ok (.land, 1) := by decide +kernel
theorem dd_L_law_363 : decode cd_L_law 363 = .ok (.lor, 1) := by decide +kernel
theorem dd_L_law_364 : decode cd_L_law 364 = .ok (.invokevirtual 32, 3) := by decide +kernel
theorem dd_L_law_367 : decode cd_L_law 367 = .ok (.if_icmp .eq 718, 3) := by decide +kernel
theorem dd_L_law_370 : decode cd_L_law 370 = .ok (.iconst 0, 1) := by decide +kernel
theorem dd_L_law_371 : decode cd_L_law 371 = .ok (.ireturn, 1) := by decide +kernel
theorem dd_L_law_372 : decode cd_L_law 372 = .ok (.aload_n 1, 1) := by decide +kernel
theorem dd_L_law_373 : decode cd_L_law 373 = .ok (.invokevirtual 33, 3) := by decide +kernel
theorem dd_L_law_376 : decode cd_L_law 376 = .ok (.aload_n 2, 1) := by decide +kernel
theorem dd_L_law_377 : decode cd_L_law 377 = .ok (.invokevirtual 37, 3) := by decide +kernel
theorem dd_L_law_380 : decode cd_L_law 380 = .ok (.if_icmp .eq 705, 3) := by decide +kernel
theorem dd_L_law_383 : decode cd_L_law 383 = .ok (.iconst 0, 1) := by decide +kernel
theorem dd_L_law_384 : decode cd_L_law 384 = .ok (.ireturn, 1) := by decide +kernel
theorem dd_L_law_385 : decode cd_L_law 385 = .ok (.aload_n 1, 1) := by decide +kernel
theorem dd_L_law_386 : decode cd_L_law 386 = .ok (.aload_n 0, 1) := by decide +kernel
theorem dd_L_law_387 : decode cd_L_law 387 = .ok (.iload_n 3, 1) := by decide +kernel
theorem dd_L_law_388 : decode cd_L_law 388 = .ok (.iconst 1, 1) := by decide +kernel
theorem dd_L_law_389 : decode cd_L_law 389 = .ok (.iadd, 1) := by decide +kernel
theorem dd_L_law_390 : decode cd_L_law 390 = .ok (.iaload, 1) := by decide +kernel
theorem dd_L_law_391 : decode cd_L_law 391 = .ok (.invokevirtual 38, 3) := by decide +kernel
theorem dd_L_law_394 : decode cd_L_law 394 = .ok (.aload_n 2, 1) := by decide +kernel
theorem dd_L_law_395 : decode cd_L_law 395 = .ok (.aload_n 0, 1) := by decide +kernel
theorem dd_L_law_396 : decode cd_L_law 396 = .ok (.iload_n 3, 1) := by decide +kernel
theorem dd_L_law_397 : decode cd_L_law 397 = .ok (.iconst 1, 1) := by decide +kernel
theorem dd_L_law_398 : decode cd_L_law 398 = .ok (.iadd, 1) := by decide +kernel
theorem dd_L_law_399 : decode cd_L_law 399 = .ok (.iaload, 1) := by decide +kernel
theorem dd_L_law_400 : decode cd_L_law 400 = .ok (.invokevirtual 42, 3) := by decide +kernel
theorem dd_L_law_403 : decode cd_L_law 403 = .ok (.if_icmp .eq 682, 3) := by decide +kernel
theorem dd_L_law_406 : decode cd_L_law 406 = .ok (.iconst 0, 1) := by decide +kernel
theorem dd_L_law_407 : decode cd_L_law 407 = .ok (.ireturn, 1) := by decide +kernel
theorem dd_L_law_408 : decode cd_L_law 408 = .ok (.aload_n 1, 1) := by decide +kernel
theorem dd_L_law_409 : decode cd_L_law 409 = .ok (.aload_n 0, 1) := by decide +kernel
theorem dd_L_law_410 : decode cd_L_law 410 = .ok (.iload_n 3, 1) := by decide +kernel
theorem dd_L_law_411 : decode cd_L_law 411 = .ok (.iconst 1, 1) := by decide +kernel
theorem dd_L_law_412 : decode cd_L_law 412 = .ok (.iadd, 1) := by decide +kernel
theorem dd_L_law_413 : decode cd_L_law 413 = .ok (.iaload, 1) := by decide +kernel
theorem dd_L_law_414 : decode cd_L_law 414 = .ok (.i2l, 1) := by decide +kernel
theorem dd_L_law_415 : decode cd_L_law 415 = .ok (.bipush 32, 2) := by decide +kernel
theorem dd_L_law_417 : decode cd_L_law 417 = .ok (.lshl, 1) := by decide +kernel
theorem dd_L_law_418 : decode cd_L_law 418 = .ok (.aload_n 0, 1) := by decide +kernel
theorem dd_L_law_419 : decode cd_L_law 419 = .ok (.iload_n 3, 1) := by decide +kernel
theorem dd_L_law_420 : decode cd_L_law 420 = .ok (.iconst 2, 1) := by decide +kernel
theorem dd_L_law_421 : decode cd_L_law 421 = .ok (.iadd, 1) := by decide +kernel
theorem dd_L_law_422 : decode cd_L_law 422 = .ok (.iaload, 1) := by decide +kernel
theorem dd_L_law_423 : decode cd_L_law 423 = .ok (.i2l, 1) := by decide +kernel
theorem dd_L_law_424 : decode cd_L_law 424 = .ok (.ldc2_w 13, 3) := by decide +kernel
theorem dd_L_law_427 : decode cd_L_law 427 = .ok (.land, 1) := by decide +kernel
theorem dd_L_law_428 : decode cd_L_law 428 = .ok (.lor, 1) := by decide +kernel
theorem dd_L_law_429 : decode cd_L_law 429 = .ok (.invokevirtual 43, 3) := by decide +kernel
theorem dd_L_law_432 : decode cd_L_law 432 = .ok (.aload_n 2, 1) := by decide +kernel
theorem dd_L_law_433 : decode cd_L_law 433 = .ok (.aload_n 0, 1) := by decide +kernel
theorem dd_L_law_434 : decode cd_L_law 434 = .ok (.iload_n 3, 1) := by decide +kernel
theorem dd_L_law_435 : decode cd_L_law 435 = .ok (.iconst 1, 1) := by decide +kernel
theorem dd_L_law_436 : decode cd_L_law 436 = .ok (.iadd, 1) := by decide +kernel
theorem dd_L_law_437 : decode cd_L_law 437 = .ok (.iaload, 1) := by decide +kernel
theorem dd_L_law_438 : decode cd_L_law 438 = .ok (.i2l, 1) := by decide +kernel
theorem dd_L_law_439 : decode cd_L_law 439 = .ok (.bipush 32, 2) := by decide +kernel
theorem dd_L_law_441 : decode cd_L_law 441 = .ok (.lshl, 1) := by decide +kernel
theorem dd_L_law_442 : decode cd_L_law 442 = .ok (.aload_n 0, 1) := by decide +kernel
theorem dd_L_law_443 : decode cd_L_law 443 = .ok (.iload_n 3, 1) := by decide +kernel
theorem dd_L_law_444 : decode cd_L_law 444 = .ok (.iconst 2, 1) := by decide +kernel
theorem dd_L_law_445 : decode cd_L_law 445 = .ok (.iadd, 1) := by decide +kernel
theorem dd_L_law_446 : decode cd_L_law 446 = .ok (.iaload, 1) := by decide +kernel
theorem dd_L_law_447 : decode cd_L_law 447 = .ok (.i2l, 1) := by decide +kernel
theorem dd_L_law_448 : decode cd_L_law 448 = .ok (.ldc2_w 13, 3) := by decide +kernel
theorem dd_L_law_451 : decode cd_L_law 451 = .ok (.land, 1) := by decide +kernel
theorem dd_L_law_452 : decode cd_L_law 452 = .ok (.lor, 1) := by decide +kernel
theorem dd_L_law_453 : decode cd_L_law 453 = .ok (.invokevirtual 46, 3) := by decide +kernel
theorem dd_L_law_456 : decode cd_L_law 456 = .ok (.if_icmp .eq 629, 3) := by decide +kernel
theorem dd_L_law_459 : decode cd_L_law 459 = .ok (.iconst 0, 1) := by decide +kernel
theorem dd_L_law_460 : decode cd_L_law 460 = .ok (.ireturn, 1) := by decide +kernel
theorem dd_L_law_461 : decode cd_L_law 461 = .ok (.aload_n 1, 1) := by decide +kernel
theorem dd_L_law_462 : decode cd_L_law 462 = .ok (.aload_n 0, 1) := by decide +kernel
theorem dd_L_law_463 : decode cd_L_law 463 = .ok (.iload_n 3, 1) := by decide +kernel
theorem dd_L_law_464 : decode cd_L_law 464 = .ok (.iconst 1, 1) := by decide +kernel
theorem dd_L_law_465 : decode cd_L_law 465 = .ok (.iadd, 1) := by decide +kernel
theorem dd_L_law_466 : decode cd_L_law 466 = .ok (.iaload, 1) := by decide +kernel
theorem dd_L_law_467 : decode cd_L_law 467 = .ok (.aload_n 0, 1) := by decide +kernel
theorem dd_L_law_468 : decode cd_L_law 468 = .ok (.iload_n 3, 1) := by decide +kernel
theorem dd_L_law_469 : decode cd_L_law 469 = .ok (.iconst 2, 1) := by decide +kernel
theorem dd_L_law_470 : decode cd_L_law 470 = .ok (.iadd, 1) := by decide +kernel
theorem dd_L_law_471 : decode cd_L_law 471 = .ok (.iaload, 1) := by decide +kernel
theorem dd_L_law_472 : decode cd_L_law 472 = .ok (.ifCond .eq 7, 3) := by decide +kernel
theorem dd_L_law_475 : decode cd_L_law 475 = .ok (.iconst 1, 1) := by decide +kernel
theorem dd_L_law_476 : decode cd_L_law 476 = .ok (.goto 4, 3) := by decide +kernel
theorem dd_L_law_479 : decode cd_L_law 479 = .ok (.iconst 0, 1) := by decide +kernel
theorem dd_L_law_480 : decode cd_L_law 480 = .ok (.invokevirtual 47, 3) := by decide +kernel
theorem dd_L_law_483 : decode cd_L_law 483 = .ok (.aload_n 2, 1) := by decide +kernel
theorem dd_L_law_484 : decode cd_L_law 484 = .ok (.aload_n 0, 1) := by decide +kernel
theorem dd_L_law_485 : decode cd_L_law 485 = .ok (.iload_n 3, 1) := by decide +kernel
theorem dd_L_law_486 : decode cd_L_law 486 = .ok (.iconst 1, 1) := by decide +kernel
theorem dd_L_law_487 : decode cd_L_law 487 = .ok (.iadd, 1) := by decide +kernel
theorem dd_L_law_488 : decode cd_L_law 488 = .ok (.iaload, 1) := by decide +kernel
theorem dd_L_law_489 : decode cd_L_law 489 = .ok (.aload_n 0, 1) := by decide +kernel
theorem dd_L_law_490 : decode cd_L_law 490 = .ok (.iload_n 3, 1) := by decide +kernel
theorem dd_L_law_491 : decode cd_L_law 491 = .ok (.iconst 2, 1) := by decide +kernel
theorem dd_L_law_492 : decode cd_L_law 492 = .ok (.iadd, 1) := by decide +kernel
theorem dd_L_law_493 : decode cd_L_law 493 = .ok (.iaload, 1) := by decide +kernel
theorem dd_L_law_494 : decode cd_L_law 494 = .ok (.ifCond .eq 7, 3) := by decide +kernel
theorem dd_L_law_497 : decode cd_L_law 497 = .ok (.iconst 1, 1) := by decide +kernel
theorem dd_L_law_498 : decode cd_L_law 498 = .ok (.goto 4, 3) := by decide +kernel
theorem dd_L_law_501 : decode cd_L_law 501 = .ok (.iconst 0, 1) := by decide +kernel
theorem dd_L_law_502 : decode cd_L_law 502 = .ok (.invokevirtual 51, 3) := by decide +kernel
theorem dd_L_law_505 : decode cd_L_law 505 = .ok (.lcmp, 1) := by decide +kernel
theorem dd_L_law_506 : decode cd_L_law 506 = .ok (.ifCond .eq 579, 3) := by decide +kernel
theorem dd_L_law_509 : decode cd_L_law 509 = .ok (.iconst 0, 1) := by decide +kernel
theorem dd_L_law_510 : decode cd_L_law 510 = .ok (.ireturn, 1) := by decide +kernel
theorem dd_L_law_511 : decode cd_L_law 511 = .ok (.aload_n 1, 1) := by decide +kernel
theorem dd_L_law_512 : decode cd_L_law 512 = .ok (.aload_n 0, 1) := by decide +kernel
theorem dd_L_law_513 : decode cd_L_law 513 = .ok (.iload_n 3, 1) := by decide +kernel
theorem dd_L_law_514 : decode cd_L_law 514 = .ok (.iconst 1, 1) := by decide +kernel
theorem dd_L_law_515 : decode cd_L_law 515 = .ok (.iadd, 1) := by decide +kernel
theorem dd_L_law_516 : decode cd_L_law 516 = .ok (.iaload, 1) := by decide +kernel
theorem dd_L_law_517 : decode cd_L_law 517 = .ok (.aload_n 0, 1) := by decide +kernel
theorem dd_L_law_518 : decode cd_L_law 518 = .ok (.iload_n 3, 1) := by decide +kernel
theorem dd_L_law_519 : decode cd_L_law 519 = .ok (.iconst 2, 1) := by decide +kernel
theorem dd_L_law_520 : decode cd_L_law 520 = .ok (.iadd, 1) := by decide +kernel
theorem dd_L_law_521 : decode cd_L_law 521 = .ok (.iaload, 1) := by decide +kernel
theorem dd_L_law_522 : decode cd_L_law 522 = .ok (.aload_n 0, 1) := by decide +kernel
theorem dd_L_law_523 : decode cd_L_law 523 = .ok (.iload_n 3, 1) := by decide +kernel
theorem dd_L_law_524 : decode cd_L_law 524 = .ok (.iconst 3, 1) := by decide +kernel
theorem dd_L_law_525 : decode cd_L_law 525 = .ok (.iadd, 1) := by decide +kernel
theorem dd_L_law_526 : decode cd_L_law 526 = .ok (.iaload, 1) := by decide +kernel
theorem dd_L_law_527 : decode cd_L_law 527 = .ok (.invokevirtual 52, 3) := by decide +kernel
theorem dd_L_law_530 : decode cd_L_law 530 = .ok (.aload_n 2, 1) := by decide +kernel
theorem dd_L_law_531 : decode cd_L_law 531 = .ok (.aload_n 0, 1) := by decide +kernel
theorem dd_L_law_532 : decode cd_L_law 532 = .ok (.iload_n 3, 1) := by decide +kernel
theorem dd_L_law_533 : decode cd_L_law 533 = .ok (.iconst 1, 1) := by decide +kernel
theorem dd_L_law_534 : decode cd_L_law 534 = .ok (.iadd, 1) := by decide +kernel
theorem dd_L_law_535 : decode cd_L_law 535 = .ok (.iaload, 1) := by decide +kernel
theorem dd_L_law_536 : decode cd_L_law 536 = .ok (.aload_n 0, 1) := by decide +kernel
theorem dd_L_law_537 : decode cd_L_law 537 = .ok (.iload_n 3, 1) := by decide +kernel
theorem dd_L_law_538 : decode cd_L_law 538 = .ok (.iconst 2, 1) := by decide +kernel
theorem dd_L_law_539 : decode cd_L_law 539 = .ok (.iadd, 1) := by decide +kernel
theorem dd_L_law_540 : decode cd_L_law 540 = .ok (.iaload, 1) := by decide +kernel
theorem dd_L_law_541 : decode cd_L_law 541 = .ok (.aload_n 0, 1) := by decide +kernel
theorem dd_L_law_542 : decode cd_L_law 542 = .ok (.iload_n 3, 1) := by decide +kernel
theorem dd_L_law_543 : decode cd_L_law 543 = .ok (.iconst 3, 1) := by decide +kernel
theorem dd_L_law_544 : decode cd_L_law 544 = .ok (.iadd, 1) := by decide +kernel
theorem dd_L_law_545 : decode cd_L_law 545 = .ok (.iaload, 1) := by decide +kernel
theorem dd_L_law_546 : decode cd_L_law 546 = .ok (.invokevirtual 56, 3) := by decide +kernel
theorem dd_L_law_549 : decode cd_L_law 549 = .ok (.if_icmp .eq 536, 3) := by decide +kernel
theorem dd_L_law_552 : decode cd_L_law 552 = .ok (.iconst 0, 1) := by decide +kernel
theorem dd_L_law_553 : decode cd_L_law 553 = .ok (.ireturn, 1) := by decide +kernel
theorem dd_L_law_554 : decode cd_L_law 554 = .ok (.aload_n 1, 1) := by decide +kernel
theorem dd_L_law_555 : decode cd_L_law 555 = .ok (.aload_n 0, 1) := by decide +kernel
theorem dd_L_law_556 : decode cd_L_law 556 = .ok (.iload_n 3, 1) := by decide +kernel
theorem dd_L_law_557 : decode cd_L_law 557 = .ok (.iconst 1, 1) := by decide +kernel
theorem dd_L_law_558 : decode cd_L_law 558 = .ok (.iadd, 1) := by decide +kernel
theorem dd_L_law_559 : decode cd_L_law 559 = .ok (.iaload, 1) := by decide +kernel
theorem dd_L_law_560 : decode cd_L_law 560 = .ok (.i2l, 1) := by decide +kernel
theorem dd_L_law_561 : decode cd_L_law 561 = .ok (.bipush 32, 2) := by decide +kernel
theorem dd_L_law_563 : decode cd_L_law 563 = .ok (.lshl, 1) := by decide +kernel
theorem dd_L_law_564 : decode cd_L_law 564 = .ok (.aload_n 0, 1) := by decide +kernel
theorem dd_L_law_565 : decode cd_L_law 565 = .ok (.iload_n 3, 1) := by decide +kernel
theorem dd_L_law_566 : decode cd_L_law 566 = .ok (.iconst 2, 1) := by decide +kernel
theorem dd_L_law_567 : decode cd_L_law 567 = .ok (.iadd, 1) := by decide +kernel
theorem dd_L_law_568 : decode cd_L_law 568 = .ok (.iaload, 1) := by decide +kernel
theorem dd_L_law_569 : decode cd_L_law 569 = .ok (.i2l, 1) := by decide +kernel
theorem dd_L_law_570 : decode cd_L_law 570 = .ok (.ldc2_w 13, 3) := by decide +kernel
theorem dd_L_law_573 : decode cd_L_law 573 = .ok (.land, 1) := by decide +kernel
theorem dd_L_law_574 : decode cd_L_law 574 = .ok (.lor, 1) := by decide +kernel
theorem dd_L_law_575 : decode cd_L_law 575 = .ok (.aload_n 0, 1) := by decide +kernel
theorem dd_L_law_576 : decode cd_L_law 576 = .ok (.iload_n 3, 1) := by decide +kernel
theorem dd_L_law_577 : decode cd_L_law 577 = .ok (.iconst 3, 1) := by decide +kernel
theorem dd_L_law_578 : decode cd_L_law 578 = .ok (.iadd, 1) := by decide +kernel
theorem dd_L_law_579 : decode cd_L_law 579 = .ok (.iaload, 1) := by decide +kernel
theorem dd_L_law_580 : decode cd_L_law 580 = .ok (.ifCond .eq 7, 3) := by decide +kernel
theorem dd_L_law_583 : decode cd_L_law 583 = .ok (.iconst 1, 1) := by decide +kernel
theorem dd_L_law_584 : decode cd_L_law 584 = .ok (.goto 4, 3) := by decide +kernel
theorem dd_L_law_587 : decode cd_L_law 587 = .ok (.iconst 0, 1) := by decide +kernel
theorem dd_L_law_588 : decode cd_L_law 588 = .ok (.invokevirtual 57, 3) := by decide +kernel
theorem dd_L_law_591 : decode cd_L_law 591 = .ok (.aload_n 2, 1) := by decide +kernel
theorem dd_L_law_592 : decode cd_L_law 592 = .ok (.aload_n 0, 1) := by decide +kernel
theorem dd_L_law_593 : decode cd_L_law 593 = .ok (.iload_n 3, 1) := by decide +kernel
theorem dd_L_law_594 : decode cd_L_law 594 = .ok (.iconst 1, 1) := by decide +kernel
theorem dd_L_law_595 : decode cd_L_law 595 = .ok (.iadd, 1) := by decide +kernel
theorem dd_L_law_596 : decode cd_L_law 596 = .ok (.iaload, 1) := by decide +kernel
theorem dd_L_law_597 : decode cd_L_law 597 = .ok (.i2l, 1) := by decide +kernel
theorem dd_L_law_598 : decode cd_L_law 598 = .ok (.bipush 32, 2) := by decide +kernel
theorem dd_L_law_600 : decode cd_L_law 600 = .ok (.lshl, 1) := by decide +kernel
theorem dd_L_law_601 : decode cd_L_law 601 = .ok (.aload_n 0, 1) := by decide +kernel
theorem dd_L_law_602 : decode cd_L_law 602 = .ok (.iload_n 3, 1) := by decide +kernel
theorem dd_L_law_603 : decode cd_L_law 603 = .ok (.iconst 2, 1) := by decide +kernel
theorem dd_L_law_604 : decode cd_L_law 604 = .ok (.iadd, 1) := by decide +kernel
theorem dd_L_law_605 : decode cd_L_law 605 = .ok (.iaload, 1) := by decide +kernel
theorem dd_L_law_606 : decode cd_L_law 606 = .ok (.i2l, 1) := by decide +kernel
theorem dd_L_law_607 : decode cd_L_law 607 = .ok (.ldc2_w 13, 3) := by decide +kernel
theorem dd_L_law_610 : decode cd_L_law 610 = .ok (.land, 1) := by decide +kernel
theorem dd_L_law_611 : decode cd_L_law 611 = .ok (.lor, 1) := by decide +kernel
theorem dd_L_law_612 : decode cd_L_law 612 = .ok (.aload_n 0, 1) := by decide +kernel
theorem dd_L_law_613 : decode cd_L_law 613 = .ok (.iload_n 3, 1) := by decide +kernel
theorem dd_L_law_614 : decode cd_L_law 614 = .ok (.iconst 3, 1) := by decide +kernel
theorem dd_L_law_615 : decode cd_L_law 615 = .ok (.iadd, 1) := by decide +kernel
theorem dd_L_law_616 : decode cd_L_law 616 = .ok (.iaload, 1) := by decide +kernel
theorem dd_L_law_617 : decode cd_L_law 617 = .ok (.ifCond .eq 7, 3) := by decide +kernel
theorem dd_L_law_620 : decode cd_L_law 620 = .ok (.iconst 1, 1) := by decide +kernel
theorem dd_L_law_621 : decode cd_L_law 621 = .ok (.goto 4, 3) := by decide +kernel
theorem dd_L_law_624 : decode cd_L_law 624 = .ok (.iconst 0, 1) := by decide +kernel
theorem dd_L_law_625 : decode cd_L_law 625 = .ok (.invokevirtual 61, 3) := by decide +kernel
theorem dd_L_law_628 : decode cd_L_law 628 = .ok (.lcmp, 1) := by decide +kernel
theorem dd_L_law_629 : decode cd_L_law 629 = .ok (.ifCond .eq 456, 3) := by decide +kernel
theorem dd_L_law_632 : decode cd_L_law 632 = .ok (.iconst 0, 1) := by decide +kernel
theorem dd_L_law_633 : decode cd_L_law 633 = .ok (.ireturn, 1) := by decide +kernel
theorem dd_L_law_634 : decode cd_L_law 634 = .ok (.aload_n 1, 1) := by decide +kernel
theorem dd_L_law_635 : decode cd_L_law 635 = .ok (.aload_n 0, 1) := by decide +kernel
theorem dd_L_law_636 : decode cd_L_law 636 = .ok (.iload_n 3, 1) := by decide +kernel
theorem dd_L_law_637 : decode cd_L_law 637 = .ok (.iconst 1, 1) := by decide +kernel
theorem dd_L_law_638 : decode cd_L_law 638 = .ok (.iadd, 1) := by decide +kernel
theorem dd_L_law_639 : decode cd_L_law 639 = .ok (.iaload, 1) := by decide +kernel
theorem dd_L_law_640 : decode cd_L_law 640 = .ok (.i2l, 1) := by decide +kernel
theorem dd_L_law_641 : decode cd_L_law 641 = .ok (.bipush 32, 2) := by decide +kernel
theorem dd_L_law_643 : decode cd_L_law 643 = .ok (.lshl, 1) := by decide +kernel
theorem dd_L_law_644 : decode cd_L_law 644 = .ok (.aload_n 0, 1) := by decide +kernel
theorem dd_L_law_645 : decode cd_L_law 645 = .ok (.iload_n 3, 1) := by decide +kernel
theorem dd_L_law_646 : decode cd_L_law 646 = .ok (.iconst 2, 1) := by decide +kernel
theorem dd_L_law_647 : decode cd_L_law 647 = .ok (.iadd, 1) := by decide +kernel
theorem dd_L_law_648 : decode cd_L_law 648 = .ok (.iaload, 1) := by decide +kernel
theorem dd_L_law_649 : decode cd_L_law 649 = .ok (.i2l, 1) := by decide +kernel
theorem dd_L_law_650 : decode cd_L_law 650 = .ok (.ldc2_w 13, 3) := by decide +kernel
theorem dd_L_law_653 : decode cd_L_law 653 = .ok (.land, 1) := by decide +kernel
theorem dd_L_law_654 : decode cd_L_law 654 = .ok (.lor, 1) := by decide +kernel
theorem dd_L_law_655 : decode cd_L_law 655 = .ok (.invokevirtual 62, 3) := by decide +kernel
theorem dd_L_law_658 : decode cd_L_law 658 = .ok (.aload_n 2, 1) := by decide +kernel
theorem dd_L_law_659 : decode cd_L_law 659 = .ok (.aload_n 0, 1) := by decide +kernel
theorem dd_L_law_660 : decode cd_L_law 660 = .ok (.iload_n 3, 1) := by decide +kernel
theorem dd_L_law_661 : decode cd_L_law 661 = .ok (.iconst 1, 1) := by decide +kernel
theorem dd_L_law_662 : decode cd_L_law 662 = .ok (.iadd, 1) := by decide +kernel
theorem dd_L_law_663 : decode cd_L_law 663 = .ok (.iaload, 1) := by decide +kernel
theorem dd_L_law_664 : decode cd_L_law 664 = .ok (.i2l, 1) := by decide +kernel
theorem dd_L_law_665 : decode cd_L_law 665 = .ok (.bipush 32, 2) := by decide +kernel
theorem dd_L_law_667 : decode cd_L_law 667 = .ok (.lshl, 1) := by decide +kernel
theorem dd_L_law_668 : decode cd_L_law 668 = .ok (.aload_n 0, 1) := by decide +kernel
theorem dd_L_law_669 : decode cd_L_law 669 = .ok (.iload_n 3, 1) := by decide +kernel
theorem dd_L_law_670 : decode cd_L_law 670 = .ok (.iconst 2, 1) := by decide +kernel
theorem dd_L_law_671 : decode cd_L_law 671 = .ok (.iadd, 1) := by decide +kernel
theorem dd_L_law_672 : decode cd_L_law 672 = .ok (.iaload, 1) := by decide +kernel
theorem dd_L_law_673 : decode cd_L_law 673 = .ok (.i2l, 1) := by decide +kernel
theorem dd_L_law_674 : decode cd_L_law 674 = .ok (.ldc2_w 13, 3) := by decide +kernel
theorem dd_L_law_677 : decode cd_L_law 677 = .ok (.land, 1) := by decide +kernel
theorem dd_L_law_678 : decode cd_L_law 678 = .ok (.lor, 1) := by decide +kernel
theorem dd_L_law_679 : decode cd_L_law 679 = .ok (.invokevirtual 65, 3) := by decide +kernel
theorem dd_L_law_682 : decode cd_L_law 682 = .ok (.if_icmp .eq 403, 3) := by decide +kernel
theorem dd_L_law_685 : decode cd_L_law 685 = .ok (.iconst 0, 1) := by decide +kernel
theorem dd_L_law_686 : decode cd_L_law 686 = .ok (.ireturn, 1) := by decide +kernel
theorem dd_L_law_687 : decode cd_L_law 687 = .ok (.aload_n 1, 1) := by decide +kernel
theorem dd_L_law_688 : decode cd_L_law 688 = .ok (.aload_n 0, 1) := by decide +kernel
theorem dd_L_law_689 : decode cd_L_law 689 = .ok (.iload_n 3, 1) := by decide +kernel
theorem dd_L_law_690 : decode cd_L_law 690 = .ok (.iconst 1, 1) := by decide +kernel
theorem dd_L_law_691 : decode cd_L_law 691 = .ok (.iadd, 1) := by decide +kernel
theorem dd_L_law_692 : decode cd_L_law 692 = .ok (.iaload, 1) := by decide +kernel
theorem dd_L_law_693 : decode cd_L_law 693 = .ok (.i2l, 1) := by decide +kernel
theorem dd_L_law_694 : decode cd_L_law 694 = .ok (.bipush 32, 2) := by decide +kernel
theorem dd_L_law_696 : decode cd_L_law 696 = .ok (.lshl, 1) := by decide +kernel
theorem dd_L_law_697 : decode cd_L_law 697 = .ok (.aload_n 0, 1) := by decide +kernel
theorem dd_L_law_698 : decode cd_L_law 698 = .ok (.iload_n 3, 1) := by decide +kernel
theorem dd_L_law_699 : decode cd_L_law 699 = .ok (.iconst 2, 1) := by decide +kernel
theorem dd_L_law_700 : decode cd_L_law 700 = .ok (.iadd, 1) := by decide +kernel
theorem dd_L_law_701 : decode cd_L_law 701 = .ok (.iaload, 1) := by decide +kernel
theorem dd_L_law_702 : decode cd_L_law 702 = .ok (.i2l, 1) := by decide +kernel
theorem dd_L_law_703 : decode cd_L_law 703 = .ok (.ldc2_w 13, 3) := by decide +kernel
theorem dd_L_law_706 : decode cd_L_law 706 = .ok (.land, 1) := by decide +kernel
theorem dd_L_law_707 : decode cd_L_law 707 = .ok (.lor, 1) := by decide +kernel
theorem dd_L_law_708 : decode cd_L_law 708 = .ok (.aload_n 0, 1) := by decide +kernel
theorem dd_L_law_709 : decode cd_L_law 709 = .ok (.iload_n 3, 1) := by decide +kernel
theorem dd_L_law_710 : decode cd_L_law 710 = .ok (.iconst 3, 1) := by decide +kernel
theorem dd_L_law_711 : decode cd_L_law 711 = .ok (.iadd, 1) := by decide +kernel
theorem dd_L_law_712 : decode cd_L_law 712 = .ok (.iaload, 1) := by decide +kernel
theorem dd_L_law_713 : decode cd_L_law 713 = .ok (.i2l, 1) := by decide +kernel
theorem dd_L_law_714 : decode cd_L_law 714 = .ok (.bipush 32, 2) := by decide +kernel
theorem dd_L_law_716 : decode cd_L_law 716 = .ok (.lshl, 1) := by decide +kernel
theorem dd_L_law_717 : decode cd_L_law 717 = .ok (.aload_n 0, 1) := by decide +kernel
theorem dd_L_law_718 : decode cd_L_law 718 = .ok (.iload_n 3, 1) := by decide +kernel
theorem dd_L_law_719 : decode cd_L_law 719 = .ok (.iconst 4, 1) := by decide +kernel
theorem dd_L_law_720 : decode cd_L_law 720 = .ok (.iadd, 1) := by decide +kernel
theorem dd_L_law_721 : decode cd_L_law 721 = .ok (.iaload, 1) := by decide +kernel
theorem dd_L_law_722 : decode cd_L_law 722 = .ok (.i2l, 1) := by decide +kernel
theorem dd_L_law_723 : decode cd_L_law 723 = .ok (.ldc2_w 13, 3) := by decide +kernel
theorem dd_L_law_726 : decode cd_L_law 726 = .ok (.land, 1) := by decide +kernel
theorem dd_L_law_727 : decode cd_L_law 727 = .ok (.lor, 1) := by decide +kernel
theorem dd_L_law_728 : decode cd_L_law 728 = .ok (.aload_n 0, 1) := by decide +kernel
theorem dd_L_law_729 : decode cd_L_law 729 = .ok (.iload_n 3, 1) := by decide +kernel
theorem dd_L_law_730 : decode cd_L_law 730 = .ok (.iconst 5, 1) := by decide +kernel
theorem dd_L_law_731 : decode cd_L_law 731 = .ok (.iadd, 1) := by decide +kernel
theorem dd_L_law_732 : decode cd_L_law 732 = .ok (.iaload, 1) := by decide +kernel
theorem dd_L_law_733 : decode cd_L_law 733 = .ok (.invokevirtual 66, 3) := by decide +kernel
theorem dd_L_law_736 : decode cd_L_law 736 = .ok (.aload_n 2, 1) := by decide +kernel
theorem dd_L_law_737 : decode cd_L_law 737 = .ok (.aload_n 0, 1) := by decide +kernel
theorem dd_L_law_738 : decode cd_L_law 738 = .ok (.iload_n 3, 1) := by decide +kernel
theorem dd_L_law_739 : decode cd_L_law 739 = .ok (.iconst 1, 1) := by decide +kernel
theorem dd_L_law_740 : decode cd_L_law 740 = .ok (.iadd, 1) := by decide +kernel
theorem dd_L_law_741 : decode cd_L_law 741 = .ok (.iaload, 1) := by decide +kernel
theorem dd_L_law_742 : decode cd_L_law 742 = .ok (.i2l, 1) := by decide +kernel
theorem dd_L_law_743 : decode cd_L_law 743 = .ok (.bipush 32, 2) := by decide +kernel
theorem dd_L_law_745 : decode cd_L_law 745 = .ok (.lshl, 1) := by decide +kernel
theorem dd_L_law_746 : decode cd_L_law 746 = .ok (.aload_n 0, 1) := by decide +kernel
theorem dd_L_law_747 : decode cd_L_law 747 = .ok (.iload_n 3, 1) := by decide +kernel
theorem dd_L_law_748 : decode cd_L_law 748 = .ok (.iconst 2, 1) := by decide +kernel
theorem dd_L_law_749 : decode cd_L_law 749 = .ok (.iadd, 1) := by decide +kernel
theorem dd_L_law_750 : decode cd_L_law 750 = .ok (.iaload, 1) := by decide +kernel
theorem dd_L_law_751 : decode cd_L_law 751 = .ok (.i2l, 1) := by decide +kernel
theorem dd_L_law_752 : decode cd_L_law 752 = .ok (.ldc2_w 13, 3) := by decide +kernel
theorem dd_L_law_755 : decode cd_L_law 755 = .ok (.land, 1) := by decide +kernel
theorem dd_L_law_756 : decode cd_L_law 756 = .ok (.lor, 1) := by decide +kernel
theorem dd_L_law_757 : decode cd_L_law 757 = .ok (.aload_n 0, 1) := by decide +kernel
theorem dd_L_law_758 : decode cd_L_law 758 = .ok (.iload_n 3, 1) := by decide +kernel
theorem dd_L_law_759 : decode cd_L_law 759 = .ok (.iconst 3, 1) := by decide +kernel
theorem dd_L_law_760 : decode cd_L_law 760 = .ok (.iadd, 1) := by decide +kernel
theorem dd_L_law_761 : decode cd_L_law 761 = .ok (.iaload, 1) := by decide +kernel
theorem dd_L_law_762 : decode cd_L_law 762 = .ok (.i2l, 1) := by decide +kernel
theorem dd_L_law_763 : decode cd_L_law 763 = .ok (.bipush 32, 2) := by decide +kernel
theorem dd_L_law_765 : decode cd_L_law 765 = .ok (.lshl, 1) := by decide +kernel
theorem dd_L_law_766 : decode cd_L_law 766 = .ok (.aload_n 0, 1) := by decide +kernel
theorem dd_L_law_767 : decode cd_L_law 767 = .ok (.iload_n 3, 1) := by decide +kernel
theorem dd_L_law_768 : decode cd_L_law 768 = .ok (.iconst 4, 1) := by decide +kernel
theorem dd_L_law_769 : decode cd_L_law 769 = .ok (.iadd, 1) := by decide +kernel
theorem dd_L_law_770 : decode cd_L_law 770 = .ok (.iaload, 1) := by decide +kernel
theorem dd_L_law_771 : decode cd_L_law 771 = .ok (.i2l, 1) := by decide +kernel
theorem dd_L_law_772 : decode cd_L_law 772 = .ok (.ldc2_w 13, 3) := by decide +kernel
theorem dd_L_law_775 : decode cd_L_law 775 = .ok (.land, 1) := by decide +kernel
theorem dd_L_law_776 : decode cd_L_law 776 = .ok (.lor, 1) := by decide +kernel
theorem dd_L_law_777 : decode cd_L_law 777 = .ok (.aload_n 0, 1) := by decide +kernel
theorem dd_L_law_778 : decode cd_L_law 778 = .ok (.iload_n 3, 1) := by decide +kernel
theorem dd_L_law_779 : decode cd_L_law 779 = .ok (.iconst 5, 1) := by decide +kernel
theorem dd_L_law_780 : decode cd_L_law 780 = .ok (.iadd, 1) := by decide +kernel
theorem dd_L_law_781 : decode cd_L_law 781 = .ok (.iaload, 1) := by decide +kernel
theorem dd_L_law_782 : decode cd_L_law 782 = .ok (.invokevirtual 70, 3) := by decide +kernel
theorem dd_L_law_785 : decode cd_L_law 785 = .ok (.if_icmp .eq 300, 3) := by decide +kernel
theorem dd_L_law_788 : decode cd_L_law 788 = .ok (.iconst 0, 1) := by decide +kernel
theorem dd_L_law_789 : decode cd_L_law 789 = .ok (.ireturn, 1) := by decide +kernel
theorem dd_L_law_790 : decode cd_L_law 790 = .ok (.aload_n 1, 1) := by decide +kernel
theorem dd_L_law_791 : decode cd_L_law 791 = .ok (.aload_n 0, 1) := by decide +kernel
theorem dd_L_law_792 : decode cd_L_law 792 = .ok (.iload_n 3, 1) := by decide +kernel
theorem dd_L_law_793 : decode cd_L_law 793 = .ok (.iconst 1, 1) := by decide +kernel
theorem dd_L_law_794 : decode cd_L_law 794 = .ok (.iadd, 1) := by decide +kernel
theorem dd_L_law_795 : decode cd_L_law 795 = .ok (.iaload, 1) := by decide +kernel
theorem dd_L_law_796 : decode cd_L_law 796 = .ok (.ifCond .eq 7, 3) := by decide +kernel
theorem dd_L_law_799 : decode cd_L_law 799 = .ok (.iconst 1, 1) := by decide +kernel
theorem dd_L_law_800 : decode cd_L_law 800 = .ok (.goto 4, 3) := by decide +kernel
theorem dd_L_law_803 : decode cd_L_law 803 = .ok (.iconst 0, 1) := by decide +kernel
theorem dd_L_law_804 : decode cd_L_law 804 = .ok (.invokevirtual 71, 3) := by decide +kernel
theorem dd_L_law_807 : decode cd_L_law 807 = .ok (.aload_n 2, 1) := by decide +kernel
theorem dd_L_law_808 : decode cd_L_law 808 = .ok (.aload_n 0, 1) := by decide +kernel
theorem dd_L_law_809 : decode cd_L_law 809 = .ok (.iload_n 3, 1) := by decide +kernel
theorem dd_L_law_810 : decode cd_L_law 810 = .ok (.iconst 1, 1) := by decide +kernel
theorem dd_L_law_811 : decode cd_L_law 811 = .ok (.iadd, 1) := by decide +kernel
theorem dd_L_law_812 : decode cd_L_law 812 = .ok (.iaload, 1) := by decide +kernel
theorem dd_L_law_813 : decode cd_L_law 813 = .ok (.ifCond .eq 7, 3) := by decide +kernel
theorem dd_L_law_816 : decode cd_L_law 816 = .ok (.iconst 1, 1) := by decide +kernel
theorem dd_L_law_817 : decode cd_L_law 817 = .ok (.goto 4, 3) := by decide +kernel
theorem dd_L_law_820 : decode cd_L_law 820 = .ok (.iconst 0, 1) := by decide +kernel
theorem dd_L_law_821 : decode cd_L_law 821 = .ok (.invokevirtual 75, 3) := by decide +kernel
theorem dd_L_law_824 : decode cd_L_law 824 = .ok (.lcmp, 1) := by decide +kernel
theorem dd_L_law_825 : decode cd_L_law 825 = .ok (.ifCond .eq 260, 3) := by decide +kernel
theorem dd_L_law_828 : decode cd_L_law 828 = .ok (.iconst 0, 1) := by decide +kernel
theorem dd_L_law_829 : decode cd_L_law 829 = .ok (.ireturn, 1) := by decide +kernel
theorem dd_L_law_830 : decode cd_L_law 830 = .ok (.aload_n 1, 1) := by decide +kernel
theorem dd_L_law_831 : decode cd_L_law 831 = .ok (.invokevirtual 76, 3) := by decide +kernel
theorem dd_L_law_834 : decode cd_L_law 834 = .ok (.aload_n 2, 1) := by decide +kernel
theorem dd_L_law_835 : decode cd_L_law 835 = .ok (.invokevirtual 79, 3) := by decide +kernel
theorem dd_L_law_838 : decode cd_L_law 838 = .ok (.if_icmp .eq 247, 3) := by decide +kernel
theorem dd_L_law_841 : decode cd_L_law 841 = .ok (.iconst 0, 1) := by decide +kernel
theorem dd_L_law_842 : decode cd_L_law 842 = .ok (.ireturn, 1) := by decide +kernel
theorem dd_L_law_843 : decode cd_L_law 843 = .ok (.aload_n 1, 1) := by decide +kernel
theorem dd_L_law_844 : decode cd_L_law 844 = .ok (.aload_n 0, 1) := by decide +kernel
theorem dd_L_law_845 : decode cd_L_law 845 = .ok (.iload_n 3, 1) := by decide +kernel
theorem dd_L_law_846 : decode cd_L_law 846 = .ok (.iconst 1, 1) := by decide +kernel
theorem dd_L_law_847 : decode cd_L_law 847 = .ok (.iadd, 1) := by decide +kernel
theorem dd_L_law_848 : decode cd_L_law 848 = .ok (.iaload, 1) := by decide +kernel
theorem dd_L_law_849 : decode cd_L_law 849 = .ok (.i2l, 1) := by decide +kernel
theorem dd_L_law_850 : decode cd_L_law 850 = .ok (.bipush 32, 2) := by decide +kernel
theorem dd_L_law_852 : decode cd_L_law 852 = .ok (.lshl, 1) := by decide +kernel
theorem dd_L_law_853 : decode cd_L_law 853 = .ok (.aload_n 0, 1) := by decide +kernel
theorem dd_L_law_854 : decode cd_L_law 854 = .ok (.iload_n 3, 1) := by decide +kernel
theorem dd_L_law_855 : decode cd_L_law 855 = .ok (.iconst 2, 1) := by decide +kernel
theorem dd_L_law_856 : decode cd_L_law 856 = .ok (.iadd, 1) := by decide +kernel
theorem dd_L_law_857 : decode cd_L_law 857 = .ok (.iaload, 1) := by decide +kernel
theorem dd_L_law_858 : decode cd_L_law 858 = .ok (.i2l, 1) := by decide +kernel
theorem dd_L_law_859 : decode cd_L_law 859 = .ok (.ldc2_w 13, 3) := by decide +kernel
theorem dd_L_law_862 : decode cd_L_law 862 = .ok (.land, 1) := by decide +kernel
theorem dd_L_law_863 : decode cd_L_law 863 = .ok (.lor, 1) := by decide +kernel
theorem dd_L_law_864 : decode cd_L_law 864 = .ok (.aload_n 0, 1) := by decide +kernel
theorem dd_L_law_865 : decode cd_L_law 865 = .ok (.iload_n 3, 1) := by decide +kernel
theorem dd_L_law_866 : decode cd_L_law 866 = .ok (.iconst 3, 1) := by decide +kernel
theorem dd_L_law_867 : decode cd_L_law 867 = .ok (.iadd, 1) := by decide +kernel
theorem dd_L_law_868 : decode cd_L_law 868 = .ok (.iaload, 1) := by decide +kernel
theorem dd_L_law_869 : decode cd_L_law 869 = .ok (.invokevirtual 80, 3) := by decide +kernel
theorem dd_L_law_872 : decode cd_L_law 872 = .ok (.aload_n 2, 1) := by decide +kernel
theorem dd_L_law_873 : decode cd_L_law 873 = .ok (.aload_n 0, 1) := by decide +kernel
theorem dd_L_law_874 : decode cd_L_law 874 = .ok (.iload_n 3, 1) := by decide +kernel
theorem dd_L_law_875 : decode cd_L_law 875 = .ok (.iconst 1, 1) := by decide +kernel
theorem dd_L_law_876 : decode cd_L_law 876 = .ok (.iadd, 1) := by decide +kernel
theorem dd_L_law_877 : decode cd_L_law 877 = .ok (.iaload, 1) := by decide +kernel
theorem dd_L_law_878 : decode cd_L_law 878 = .ok (.i2l, 1) := by decide +kernel
theorem dd_L_law_879 : decode cd_L_law 879 = .ok (.bipush 32, 2) := by decide +kernel
theorem dd_L_law_881 : decode cd_L_law 881 = .ok (.lshl, 1) := by decide +kernel
theorem dd_L_law_882 : decode cd_L_law 882 = .ok (.aload_n 0, 1) := by decide +kernel
theorem dd_L_law_883 : decode cd_L_law 883 = .ok (.iload_n 3, 1) := by decide +kernel
theorem dd_L_law_884 : decode cd_L_law 884 = .ok (.iconst 2, 1) := by decide +kernel
theorem dd_L_law_885 : decode cd_L_law 885 = .ok (.iadd, 1) := by decide +kernel
theorem dd_L_law_886 : decode cd_L_law 886 = .ok (.iaload, 1) := by decide +kernel
theorem dd_L_law_887 : decode cd_L_law 887 = .ok (.i2l, 1) := by decide +kernel
theorem dd_L_law_888 : decode cd_L_law 888 = .ok (.ldc2_w 13, 3) := by decide +kernel
theorem dd_L_law_891 : decode cd_L_law 891 = .ok (.land, 1) := by decide +kernel
theorem dd_L_law_892 : decode cd_L_law 892 = .ok (.lor, 1) := by decide +kernel
theorem dd_L_law_893 : decode cd_L_law 893 = .ok (.aload_n 0, 1) := by decide +kernel
theorem dd_L_law_894 : decode cd_L_law 894 = .ok (.iload_n 3, 1) := by decide +kernel
theorem dd_L_law_895 : decode cd_L_law 895 = .ok (.iconst 3, 1) := by decide +kernel
theorem dd_L_law_896 : decode cd_L_law 896 = .ok (.iadd, 1) := by decide +kernel
theorem dd_L_law_897 : decode cd_L_law 897 = .ok (.iaload, 1) := by decide +kernel
theorem dd_L_law_898 : decode cd_L_law 898 = .ok (.invokevirtual 84, 3) := by decide +kernel
theorem dd_L_law_901 : decode cd_L_law 901 = .ok (.if_icmp .eq 184, 3) := by decide +kernel
theorem dd_L_law_904 : decode cd_L_law 904 = .ok (.iconst 0, 1) := by decide +kernel
theorem dd_L_law_905 : decode cd_L_law 905 = .ok (.ireturn, 1) := by decide +kernel
theorem dd_L_law_906 : decode cd_L_law 906 = .ok (.aload_n 1, 1) := by decide +kernel
theorem dd_L_law_907 : decode cd_L_law 907 = .ok (.aload_n 0, 1) := by decide +kernel
theorem dd_L_law_908 : decode cd_L_law 908 = .ok (.iload_n 3, 1) := by decide +kernel
theorem dd_L_law_909 : decode cd_L_law 909 = .ok (.iconst 1, 1) := by decide +kernel
theorem dd_L_law_910 : decode cd_L_law 910 = .ok (.iadd, 1) := by decide +kernel
theorem dd_L_law_911 : decode cd_L_law 911 = .ok (.iaload, 1) := by decide +kernel
theorem dd_L_law_912 : decode cd_L_law 912 = .ok (.i2l, 1) := by decide +kernel
theorem dd_L_law_913 : decode cd_L_law 913 = .ok (.bipush 32, 2) := by decide +kernel
theorem dd_L_law_915 : decode cd_L_law 915 = .ok (.lshl, 1) := by decide +kernel
theorem dd_L_law_916 : decode cd_L_law 916 = .ok (.aload_n 0, 1) := by decide +kernel
theorem dd_L_law_917 : decode cd_L_law 917 = .ok (.iload_n 3, 1) := by decide +kernel
theorem dd_L_law_918 : decode cd_L_law 918 = .ok (.iconst 2, 1) := by decide +kernel
theorem dd_L_law_919 : decode cd_L_law 919 = .ok (.iadd, 1) := by decide +kernel
theorem dd_L_law_920 : decode cd_L_law 920 = .ok (.iaload, 1) := by decide +kernel
theorem dd_L_law_921 : decode cd_L_law 921 = .ok (.i2l, 1) := by decide +kernel
theorem dd_L_law_922 : decode cd_L_law 922 = .ok (.ldc2_w 13, 3) := by decide +kernel
theorem dd_L_law_925 : decode cd_L_law 925 = .ok (.land, 1) := by decide +kernel
theorem dd_L_law_926 : decode cd_L_law 926 = .ok (.lor, 1) := by decide +kernel
theorem dd_L_law_927 : decode cd_L_law 927 = .ok (.aload_n 0, 1) := by decide +kernel
theorem dd_L_law_928 : decode cd_L_law 928 = .ok (.iload_n 3, 1) := by decide +kernel
theorem dd_L_law_929 : decode cd_L_law 929 = .ok (.iconst 3, 1) := by decide +kernel
theorem dd_L_law_930 : decode cd_L_law 930 = .ok (.iadd, 1) := by decide +kernel
theorem dd_L_law_931 : decode cd_L_law 931 = .ok (.iaload, 1) := by decide +kernel
theorem dd_L_law_932 : decode cd_L_law 932 = .ok (.invokevirtual 85, 3) := by decide +kernel
theorem dd_L_law_935 : decode cd_L_law 935 = .ok (.aload_n 2, 1) := by decide +kernel
theorem dd_L_law_936 : decode cd_L_law 936 = .ok (.aload_n 0, 1) := by decide +kernel
theorem dd_L_law_937 : decode cd_L_law 937 = .ok (.iload_n 3, 1) := by decide +kernel
theorem dd_L_law_938 : decode cd_L_law 938 = .ok (.iconst 1, 1) := by decide +kernel
theorem dd_L_law_939 : decode cd_L_law 939 = .ok (.iadd, 1) := by decide +kernel
theorem dd_L_law_940 : decode cd_L_law 940 = .ok (.iaload, 1) := by decide +kernel
theorem dd_L_law_941 : decode cd_L_law 941 = .ok (.i2l, 1) := by decide +kernel
theorem dd_L_law_942 : decode cd_L_law 942 = .ok (.bipush 32, 2) := by decide +kernel
theorem dd_L_law_944 : decode cd_L_law 944 = .ok (.lshl, 1) := by decide +kernel
theorem dd_L_law_945 : decode cd_L_law 945 = .ok (.aload_n 0, 1) := by decide +kernel
theorem dd_L_law_946 : decode cd_L_law 946 = .ok (.iload_n 3, 1) := by decide +kernel
theorem dd_L_law_947 : decode cd_L_law 947 = .ok (.iconst 2, 1) := by decide +kernel
theorem dd_L_law_948 : decode cd_L_law 948 = .ok (.iadd, 1) := by decide +kernel
theorem dd_L_law_949 : decode cd_L_law 949 = .ok (.iaload, 1) := by decide +kernel
theorem dd_L_law_950 : decode cd_L_law 950 = .ok (.i2l, 1) := by decide +kernel
theorem dd_L_law_951 : decode cd_L_law 951 = .ok (.ldc2_w 13, 3) := by decide +kernel
theorem dd_L_law_954 : decode cd_L_law 954 = .ok (.land, 1) := by decide +kernel
theorem dd_L_law_955 : decode cd_L_law 955 = .ok (.lor, 1) := by decide +kernel
theorem dd_L_law_956 : decode cd_L_law 956 = .ok (.aload_n 0, 1) := by decide +kernel
theorem dd_L_law_957 : decode cd_L_law 957 = .ok (.iload_n 3, 1) := by decide +kernel
theorem dd_L_law_958 : decode cd_L_law 958 = .ok (.iconst 3, 1) := by decide +kernel
theorem dd_L_law_959 : decode cd_L_law 959 = .ok (.iadd, 1) := by decide +kernel
theorem dd_L_law_960 : decode cd_L_law 960 = .ok (.iaload, 1) := by decide +kernel
theorem dd_L_law_961 : decode cd_L_law 961 = .ok (.invokevirtual 88, 3) := by decide +kernel
theorem dd_L_law_964 : decode cd_L_law 964 = .ok (.if_icmp .eq 121, 3) := by decide +kernel
theorem dd_L_law_967 : decode cd_L_law 967 = .ok (.iconst 0, 1) := by decide +kernel
theorem dd_L_law_968 : decode cd_L_law 968 = .ok (.ireturn, 1) := by decide +kernel
theorem dd_L_law_969 : decode cd_L_law 969 = .ok (.aload_n 1, 1) := by decide +kernel
theorem dd_L_law_970 : decode cd_L_law 970 = .ok (.aload_n 0, 1) := by decide +kernel
theorem dd_L_law_971 : decode cd_L_law 971 = .ok (.iload_n 3, 1) := by decide +kernel
theorem dd_L_law_972 : decode cd_L_law 972 = .ok (.iconst 1, 1) := by decide +kernel
theorem dd_L_law_973 : decode cd_L_law 973 = .ok (.iadd, 1) := by decide +kernel
theorem dd_L_law_974 : decode cd_L_law 974 = .ok (.iaload, 1) := by decide +kernel
theorem dd_L_law_975 : decode cd_L_law 975 = .ok (.i2l, 1) := by decide +kernel
theorem dd_L_law_976 : decode cd_L_law 976 = .ok (.bipush 32, 2) := by decide +kernel
theorem dd_L_law_978 : decode cd_L_law 978 = .ok (.lshl, 1) := by decide +kernel
theorem dd_L_law_979 : decode cd_L_law 979 = .ok (.aload_n 0, 1) := by decide +kernel
theorem dd_L_law_980 : decode cd_L_law 980 = .ok (.iload_n 3, 1) := by decide +kernel
theorem dd_L_law_981 : decode cd_L_law 981 = .ok (.iconst 2, 1) := by decide +kernel
theorem dd_L_law_982 : decode cd_L_law 982 = .ok (.iadd, 1) := by decide +kernel
theorem dd_L_law_983 : decode cd_L_law 983 = .ok (.iaload, 1) := by decide +kernel
theorem dd_L_law_984 : decode cd_L_law 984 = .ok (.i2l, 1) := by decide +kernel
theorem dd_L_law_985 : decode cd_L_law 985 = .ok (.ldc2_w 13, 3) := by decide +kernel
theorem dd_L_law_988 : decode cd_L_law 988 = .ok (.land, 1) := by decide +kernel
theorem dd_L_law_989 : decode cd_L_law 989 = .ok (.lor, 1) := by decide +kernel
theorem dd_L_law_990 : decode cd_L_law 990 = .ok (.invokevirtual 89, 3) := by decide +kernel
theorem dd_L_law_993 : decode cd_L_law 993 = .ok (.aload_n 2, 1) := by decide +kernel
theorem dd_L_law_994 : decode cd_L_law 994 = .ok (.aload_n 0, 1) := by decide +kernel
theorem dd_L_law_995 : decode cd_L_law 995 = .ok (.iload_n 3, 1) := by decide +kernel
theorem dd_L_law_996 : decode cd_L_law 996 = .ok (.iconst 1, 1) := by decide +kernel
theorem dd_L_law_997 : decode cd_L_law 997 = .ok (.iadd, 1) := by decide +kernel
theorem dd_L_law_998 : decode cd_L_law 998 = .ok (.iaload, 1) := by decide +kernel
theorem dd_L_law_999 : decode cd_L_law 999 = .ok (.i2l, 1) := by decide +kernel
theorem dd_L_law_1000 : decode cd_L_law 1000 = .ok (.bipush 32, 2) := by decide +kernel
theorem dd_L_law_1002 : decode cd_L_law 1002 = .ok (.lshl, 1) := by decide +kernel
theorem dd_L_law_1003 : decode cd_L_law 1003 = .ok (.aload_n 0, 1) := by decide +kernel
theorem dd_L_law_1004 : decode cd_L_law 1004 = .ok (.iload_n 3, 1) := by decide +kernel
theorem dd_L_law_1005 : decode cd_L_law 1005 = .ok (.iconst 2, 1) := by decide +kernel
theorem dd_L_law_1006 : decode cd_L_law 1006 = .ok (.iadd, 1) := by decide +kernel
theorem dd_L_law_1007 : decode cd_L_law 1007 = .ok (.iaload, 1) := by decide +kernel
theorem dd_L_law_1008 : decode cd_L_law 1008 = .ok (.i2l, 1) := by decide +kernel
theorem dd_L_law_1009 : decode cd_L_law 1009 = .ok (.ldc2_w 13, 3) := by decide +kernel
theorem dd_L_law_1012 : decode cd_L_law 1012 = .ok (.land, 1) := by decide +kernel
theorem dd_L_law_1013 : decode cd_L_law 1013 = .ok (.lor, 1) := by decide +kernel
theorem dd_L_law_1014 : decode cd_L_law 1014 = .ok (.invokevirtual 92, 3) := by decide +kernel
theorem dd_L_law_1017 : decode cd_L_law 1017 = .ok (.if_icmp .eq 68, 3) := by decide +kernel
theorem dd_L_law_1020 : decode cd_L_law 1020 = .ok (.iconst 0, 1) := by decide +kernel
theorem dd_L_law_1021 : decode cd_L_law 1021 = .ok (.ireturn, 1) := by decide +kernel
theorem dd_L_law_1022 : decode cd_L_law 1022 = .ok (.aload_n 1, 1) := by decide +kernel
theorem dd_L_law_1023 : decode cd_L_law 1023 = .ok (.aload_n 0, 1) := by decide +kernel
theorem dd_L_law_1024 : decode cd_L_law 1024 = .ok (.iload_n 3, 1) := by decide +kernel
theorem dd_L_law_1025 : decode cd_L_law 1025 = .ok (.iconst 1, 1) := by decide +kernel
theorem dd_L_law_1026 : decode cd_L_law 1026 = .ok (.iadd, 1) := by decide +kernel
theorem dd_L_law_1027 : decode cd_L_law 1027 = .ok (.iaload, 1) := by decide +kernel
theorem dd_L_law_1028 : decode cd_L_law 1028 = .ok (.i2l, 1) := by decide +kernel
theorem dd_L_law_1029 : decode cd_L_law 1029 = .ok (.bipush 32, 2) := by decide +kernel
theorem dd_L_law_1031 : decode cd_L_law 1031 = .ok (.lshl, 1) := by decide +kernel
theorem dd_L_law_1032 : decode cd_L_law 1032 = .ok (.aload_n 0, 1) := by decide +kernel
theorem dd_L_law_1033 : decode cd_L_law 1033 = .ok (.iload_n 3, 1) := by decide +kernel
theorem dd_L_law_1034 : decode cd_L_law 1034 = .ok (.iconst 2, 1) := by decide +kernel
theorem dd_L_law_1035 : decode cd_L_law 1035 = .ok (.iadd, 1) := by decide +kernel
theorem dd_L_law_1036 : decode cd_L_law 1036 = .ok (.iaload, 1) := by decide +kernel
theorem dd_L_law_1037 : decode cd_L_law 1037 = .ok (.i2l, 1) := by decide +kernel
theorem dd_L_law_1038 : decode cd_L_law 1038 = .ok (.ldc2_w 13, 3) := by decide +kernel
theorem dd_L_law_1041 : decode cd_L_law 1041 = .ok (.land, 1) := by decide +kernel
theorem dd_L_law_1042 : decode cd_L_law 1042 = .ok (.lor, 1) := by decide +kernel
theorem dd_L_law_1043 : decode cd_L_law 1043 = .ok (.aload_n 0, 1) := by decide +kernel
theorem dd_L_law_1044 : decode cd_L_law 1044 = .ok (.iload_n 3, 1) := by decide +kernel
theorem dd_L_law_1045 : decode cd_L_law 1045 = .ok (.iconst 3, 1) := by decide +kernel
theorem dd_L_law_1046 : decode cd_L_law 1046 = .ok (.iadd, 1) := by decide +kernel
theorem dd_L_law_1047 : decode cd_L_law 1047 = .ok (.iaload, 1) := by decide +kernel
theorem dd_L_law_1048 : decode cd_L_law 1048 = .ok (.invokevirtual 93, 3) := by decide +kernel
theorem dd_L_law_1051 : decode cd_L_law 1051 = .ok (.aload_n 2, 1) := by decide +kernel
theorem dd_L_law_1052 : decode cd_L_law 1052 = .ok (.aload_n 0, 1) := by decide +kernel
theorem dd_L_law_1053 : decode cd_L_law 1053 = .ok (.iload_n 3, 1) := by decide +kernel
theorem dd_L_law_1054 : decode cd_L_law 1054 = .ok (.iconst 1, 1) := by decide +kernel
theorem dd_L_law_1055 : decode cd_L_law 1055 = .ok (.iadd, 1) := by decide +kernel
theorem dd_L_law_1056 : decode cd_L_law 1056 = .ok (.iaload, 1) := by decide +kernel
theorem dd_L_law_1057 : decode cd_L_law 1057 = .ok (.i2l, 1) := by decide +kernel
theorem dd_L_law_1058 : decode cd_L_law 1058 = .ok (.bipush 32, 2) := by decide +kernel
theorem dd_L_law_1060 : decode cd_L_law 1060 = .ok (.lshl, 1) := by decide +kernel
theorem dd_L_law_1061 : decode cd_L_law 1061 = .ok (.aload_n 0, 1) := by decide +kernel
theorem dd_L_law_1062 : decode cd_L_law 1062 = .ok (.iload_n 3, 1) := by decide +kernel
theorem dd_L_law_1063 : decode cd_L_law 1063 = .ok (.iconst 2, 1) := by decide +kernel
theorem dd_L_law_1064 : decode cd_L_law 1064 = .ok (.iadd, 1) := by decide +kernel
theorem dd_L_law_1065 : decode cd_L_law 1065 = .ok (.iaload, 1) := by decide +kernel
theorem dd_L_law_1066 : decode cd_L_law 1066 = .ok (.i2l, 1) := by decide +kernel
theorem dd_L_law_1067 : decode cd_L_law 1067 = .ok (.ldc2_w 13, 3) := by decide +kernel
theorem dd_L_law_1070 : decode cd_L_law 1070 = .ok (.land, 1) := by decide +kernel
theorem dd_L_law_1071 : decode cd_L_law 1071 = .ok (.lor, 1) := by decide +kernel
theorem dd_L_law_1072 : decode cd_L_law 1072 = .ok (.aload_n 0, 1) := by decide +kernel
theorem dd_L_law_1073 : decode cd_L_law 1073 = .ok (.iload_n 3, 1) := by decide +kernel
theorem dd_L_law_1074 : decode cd_L_law 1074 = .ok (.iconst 3, 1) := by decide +kernel
theorem dd_L_law_1075 : decode cd_L_law 1075 = .ok (.iadd, 1) := by decide +kernel
theorem dd_L_law_1076 : decode cd_L_law 1076 = .ok (.iaload, 1) := by decide +kernel
theorem dd_L_law_1077 : decode cd_L_law 1077 = .ok (.invokevirtual 96, 3) := by decide +kernel
theorem dd_L_law_1080 : decode cd_L_law 1080 = .ok (.if_icmp .eq 5, 3) := by decide +kernel
theorem dd_L_law_1083 : decode cd_L_law 1083 = .ok (.iconst 0, 1) := by decide +kernel
theorem dd_L_law_1084 : decode cd_L_law 1084 = .ok (.ireturn, 1) := by decide +kernel
theorem dd_L_law_1085 : decode cd_L_law 1085 = .ok (.iinc 3 6, 3) := by decide +kernel
theorem dd_L_law_1088 : decode cd_L_law 1088 = .ok (.goto (-1070), 3) := by decide +kernel
theorem dd_L_law_1091 : decode cd_L_law 1091 = .ok (.iconst 1, 1) := by decide +kernel
theorem dd_L_law_1092 : decode cd_L_law 1092 = .ok (.ireturn, 1) := by decide +kernel
