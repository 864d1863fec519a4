theorem dL_comparisons_276 : decode cL_comparisons 276 = .ok (.if_icmp .ne 120, 3) := by decide +kernel
theorem dL_comparisons_279 : decode cL_comparisons 279 = .ok (.aload_n 0, 1) := by decide +kernel
theorem dL_comparisons_280 : decode cL_comparisons 280 = .ok (.invokevirtual 202, 3) := by decide +kernel
theorem dL_comparisons_283 : decode cL_comparisons 283 = .ok (.iload_n 3, 1) := by decide +kernel
theorem dL_comparisons_284 : decode cL_comparisons 284 = .ok (.ifCond .ne 7, 3) := by decide +kernel
theorem dL_comparisons_287 : decode cL_comparisons 287 = .ok (.iconst (-1), 1) := by decide +kernel
theorem dL_comparisons_288 : decode cL_comparisons 288 = .ok (.goto 6, 3) := by decide +kernel
theorem dL_comparisons_291 : decode cL_comparisons 291 = .ok (.iload_n 2, 1) := by decide +kernel
theorem dL_comparisons_292 : decode cL_comparisons 292 = .ok (.iload_n 3, 1) := by decide +kernel
theorem dL_comparisons_293 : decode cL_comparisons 293 = .ok (.idiv, 1) := by decide +kernel
theorem dL_comparisons_294 : decode cL_comparisons 294 = .ok (.if_icmp .ne 102, 3) := by decide +kernel
theorem dL_comparisons_297 : decode cL_comparisons 297 = .ok (.aload_n 0, 1) := by decide +kernel
theorem dL_comparisons_298 : decode cL_comparisons 298 = .ok (.invokevirtual 205, 3) := by decide +kernel
theorem dL_comparisons_301 : decode cL_comparisons 301 = .ok (.iload 5, 2) := by decide +kernel
theorem dL_comparisons_303 : decode cL_comparisons 303 = .ok (.if_icmp .ne 93, 3) := by decide +kernel
theorem dL_comparisons_306 : decode cL_comparisons 306 = .ok (.aload_n 0, 1) := by decide +kernel
theorem dL_comparisons_307 : decode cL_comparisons 307 = .ok (.invokevirtual 208, 3) := by decide +kernel
theorem dL_comparisons_310 : decode cL_comparisons 310 = .ok (.iload 6, 2) := by decide +kernel
theorem dL_comparisons_312 : decode cL_comparisons 312 = .ok (.if_icmp .ne 84, 3) := by decide +kernel
theorem dL_comparisons_315 : decode cL_comparisons 315 = .ok (.aload_n 0, 1) := by decide +kernel
theorem dL_comparisons_316 : decode cL_comparisons 316 = .ok (.invokevirtual 211, 3) := by decide +kernel
theorem dL_comparisons_319 : decode cL_comparisons 319 = .ok (.iload 7, 2) := by decide +kernel
theorem dL_comparisons_321 : decode cL_comparisons 321 = .ok (.if_icmp .ne 75, 3) := by decide +kernel
theorem dL_comparisons_324 : decode cL_comparisons 324 = .ok (.aload_n 0, 1) := by decide +kernel
theorem dL_comparisons_325 : decode cL_comparisons 325 = .ok (.invokevirtual 214, 3) := by decide +kernel
theorem dL_comparisons_328 : decode cL_comparisons 328 = .ok (.iload_n 1, 1) := by decide +kernel
theorem dL_comparisons_329 : decode cL_comparisons 329 = .ok (.iconst 2, 1) := by decide +kernel
theorem dL_comparisons_330 : decode cL_comparisons 330 = .ok (.if_icmp .ge 7, 3) := by decide +kernel
theorem dL_comparisons_333 : decode cL_comparisons 333 = .ok (.iconst 0, 1) := by decide +kernel
theorem dL_comparisons_334 : decode cL_comparisons 334 = .ok (.goto 8, 3) := by decide +kernel
theorem dL_comparisons_337 : decode cL_comparisons 337 = .ok (.iload 9, 2) := by decide +kernel
theorem dL_comparisons_339 : decode cL_comparisons 339 = .ok (.iload 8, 2) := by decide +kernel
theorem dL_comparisons_341 : decode cL_comparisons 341 = .ok (.isub, 1) := by decide +kernel
theorem dL_comparisons_342 : decode cL_comparisons 342 = .ok (.if_icmp .ne 54, 3) := by decide +kernel
theorem dL_comparisons_345 : decode cL_comparisons 345 = .ok (.aload_n 0, 1) := by decide +kernel
theorem dL_comparisons_346 : decode cL_comparisons 346 = .ok (.invokevirtual 217, 3) := by decide +kernel
theorem dL_comparisons_349 : decode cL_comparisons 349 = .ok (.iload 10, 2) := by decide +kernel
theorem dL_comparisons_351 : decode cL_comparisons 351 = .ok (.ifCond .ne 7, 3) := by decide +kernel
theorem dL_comparisons_354 : decode cL_comparisons 354 = .ok (.dconst 0, 1) := by decide +kernel
theorem dL_comparisons_355 : decode cL_comparisons 355 = .ok (.goto 10, 3) := by decide +kernel
theorem dL_comparisons_358 : decode cL_comparisons 358 = .ok (.iload 4, 2) := by decide +kernel
theorem dL_comparisons_360 : decode cL_comparisons 360 = .ok (.i2d, 1) := by decide +kernel
theorem dL_comparisons_361 : decode cL_comparisons 361 = .ok (.iload 10, 2) := by decide +kernel
theorem dL_comparisons_363 : decode cL_comparisons 363 = .ok (.i2d, 1) := by decide +kernel
theorem dL_comparisons_364 : decode cL_comparisons 364 = .ok (.ddiv, 1) := by decide +kernel
theorem dL_comparisons_365 : decode cL_comparisons 365 = .ok (.dcmp .l, 1) := by decide +kernel
theorem dL_comparisons_366 : decode cL_comparisons 366 = .ok (.ifCond .ne 30, 3) := by decide +kernel
theorem dL_comparisons_369 : decode cL_comparisons 369 = .ok (.aload_n 0, 1) := by decide +kernel
theorem dL_comparisons_370 : decode cL_comparisons 370 = .ok (.invokevirtual 221, 3) := by decide +kernel
theorem dL_comparisons_373 : decode cL_comparisons 373 = .ok (.iload 10, 2) := by decide +kernel
theorem dL_comparisons_375 : decode cL_comparisons 375 = .ok (.ifCond .ne 7, 3) := by decide +kernel
theorem dL_comparisons_378 : decode cL_comparisons 378 = .ok (.fconst 0, 1) := by decide +kernel
theorem dL_comparisons_379 : decode cL_comparisons 379 = .ok (.goto 9, 3) := by decide +kernel
theorem dL_comparisons_382 : decode cL_comparisons 382 = .ok (.iload_n 1, 1) := by decide +kernel
theorem dL_comparisons_383 : decode cL_comparisons 383 = .ok (.i2f, 1) := by decide +kernel
theorem dL_comparisons_384 : decode cL_comparisons 384 = .ok (.iload 10, 2) := by decide +kernel
theorem dL_comparisons_386 : decode cL_comparisons 386 = .ok (.i2f, 1) := by decide +kernel
theorem dL_comparisons_387 : decode cL_comparisons 387 = .ok (.fdiv, 1) := by decide +kernel
theorem dL_comparisons_388 : decode cL_comparisons 388 = .ok (.fcmp .l, 1) := by decide +kernel
theorem dL_comparisons_389 : decode cL_comparisons 389 = .ok (.ifCond .ne 7, 3) := by decide +kernel
theorem dL_comparisons_392 : decode cL_comparisons 392 = .ok (.iconst 1, 1) := by decide +kernel
theorem dL_comparisons_393 : decode cL_comparisons 393 = .ok (.goto 4, 3) := by decide +kernel
theorem dL_comparisons_396 : decode cL_comparisons 396 = .ok (.iconst 0, 1) := by decide +kernel
theorem dL_comparisons_397 : decode cL_comparisons 397 = .ok (.ireturn, 1) := by decide +kernel
theorem dL_act_0 : decode cL_act 0 = .ok (.aload_n 0, 1) := by decide +kernel
theorem dL_act_1 : decode cL_act 1 = .ok (.invokevirtual 121, 3) := by decide +kernel
theorem dL_act_4 : decode cL_act 4 = .ok (.istore_n 2, 1) := by decide +kernel
theorem dL_act_5 : decode cL_act 5 = .ok (.iload_n 2, 1) := by decide +kernel
theorem dL_act_6 : decode cL_act 6 = .ok (.ifCond .ne 7, 3) := by decide +kernel
theorem dL_act_9 : decode cL_act 9 = .ok (.iconst 0, 1) := by decide +kernel
theorem dL_act_10 : decode cL_act 10 = .ok (.goto 9, 3) := by decide +kernel
theorem dL_act_13 : decode cL_act 13 = .ok (.aload_n 1, 1) := by decide +kernel
theorem dL_act_14 : decode cL_act 14 = .ok (.invokestatic 81, 3) := by decide +kernel
theorem dL_act_17 : decode cL_act 17 = .ok (.iload_n 2, 1) := by decide +kernel
theorem dL_act_18 : decode cL_act 18 = .ok (.irem, 1) := by decide +kernel
theorem dL_act_19 : decode cL_act 19 = .ok (.istore_n 3, 1) := by decide +kernel
theorem dL_act_20 : decode cL_act 20 = .ok (.iload_n 2, 1) := by decide +kernel
theorem dL_act_21 : decode cL_act 21 = .ok (.ifCond .le 15, 3) := by decide +kernel
theorem dL_act_24 : decode cL_act 24 = .ok (.aload_n 0, 1) := by decide +kernel
theorem dL_act_25 : decode cL_act 25 = .ok (.iload_n 3, 1) := by decide +kernel
theorem dL_act_26 : decode cL_act 26 = .ok (.invokevirtual 148, 3) := by decide +kernel
theorem dL_act_29 : decode cL_act 29 = .ok (.ifCond .eq 7, 3) := by decide +kernel
theorem dL_act_32 : decode cL_act 32 = .ok (.iconst 1, 1) := by decide +kernel
theorem dL_act_33 : decode cL_act 33 = .ok (.goto 4, 3) := by decide +kernel
theorem dL_act_36 : decode cL_act 36 = .ok (.iconst 0, 1) := by decide +kernel
theorem dL_act_37 : decode cL_act 37 = .ok (.istore 4, 2) := by decide +kernel
theorem dL_act_39 : decode cL_act 39 = .ok (.iload_n 2, 1) := by decide +kernel
theorem dL_act_40 : decode cL_act 40 = .ok (.ifCond .eq 12, 3) := by decide +kernel
theorem dL_act_43 : decode cL_act 43 = .ok (.aload_n 0, 1) := by decide +kernel
theorem dL_act_44 : decode cL_act 44 = .ok (.iload_n 3, 1) := by decide +kernel
theorem dL_act_45 : decode cL_act 45 = .ok (.invokevirtual 142, 3) := by decide +kernel
theorem dL_act_48 : decode cL_act 48 = .ok (.iconst (-1), 1) := by decide +kernel
theorem dL_act_49 : decode cL_act 49 = .ok (.if_icmp .ne 7, 3) := by decide +kernel
theorem dL_act_52 : decode cL_act 52 = .ok (.iconst 1, 1) := by decide +kernel
theorem dL_act_53 : decode cL_act 53 = .ok (.goto 4, 3) := by decide +kernel
theorem dL_act_56 : decode cL_act 56 = .ok (.iconst 0, 1) := by decide +kernel
theorem dL_act_57 : decode cL_act 57 = .ok (.istore 5, 2) := by decide +kernel
theorem dL_act_59 : decode cL_act 59 = .ok (.iload_n 2, 1) := by decide +kernel
theorem dL_act_60 : decode cL_act 60 = .ok (.ifCond .ne 8, 3) := by decide +kernel
theorem dL_act_63 : decode cL_act 63 = .ok (.bipush (-5), 2) := by decide +kernel
theorem dL_act_65 : decode cL_act 65 = .ok (.goto 5, 3) := by decide +kernel
theorem dL_act_68 : decode cL_act 68 = .ok (.bipush (-3), 2) := by decide +kernel
theorem dL_act_70 : decode cL_act 70 = .ok (.istore 6, 2) := by decide +kernel
theorem dL_act_72 : decode cL_act 72 = .ok (.aload_n 1, 1) := by decide +kernel
theorem dL_act_73 : decode cL_act 73 = .ok (.invokestatic 81, 3) := by decide +kernel
theorem dL_act_76 : decode cL_act 76 = .ok (.bipush 11, 2) := by decide +kernel
theorem dL_act_78 : decode cL_act 78 = .ok (.irem, 1) := by decide +kernel
theorem dL_act_79 : decode cL_act 79 = .ok (.tableswitch 747 0 9 #[53, 53, 53, 123, 164, 240, 312, 409, 544, 621], 53) := by decide +kernel
theorem dL_act_132 : decode cL_act 132 = .ok (.iconst 1, 1) := by decide +kernel
theorem dL_act_133 : decode cL_act 133 = .ok (.aload_n 1, 1) := by decide +kernel
theorem dL_act_134 : decode cL_act 134 = .ok (.invokestatic 81, 3) := by decide +kernel
theorem dL_act_137 : decode cL_act 137 = .ok (.bipush 70, 2) := by decide +kernel
theorem dL_act_139 : decode cL_act 139 = .ok (.irem, 1) := by decide +kernel
theorem dL_act_140 : decode cL_act 140 = .ok (.iadd, 1) := by decide +kernel
theorem dL_act_141 : decode cL_act 141 = .ok (.istore 7, 2) := by decide +kernel
theorem dL_act_143 : decode cL_act 143 = .ok (.iload_n 2, 1) := by decide +kernel
theorem dL_act_144 : decode cL_act 144 = .ok (.ifCond .ne 7, 3) := by decide +kernel
theorem dL_act_147 : decode cL_act 147 = .ok (.iconst 0, 1) := by decide +kernel
theorem dL_act_148 : decode cL_act 148 = .ok (.goto 10, 3) := by decide +kernel
theorem dL_act_151 : decode cL_act 151 = .ok (.aload_n 0, 1) := by decide +kernel
theorem dL_act_152 : decode cL_act 152 = .ok (.iload_n 3, 1) := by decide +kernel
theorem dL_act_153 : decode cL_act 153 = .ok (.iload 7, 2) := by decide +kernel
theorem dL_act_155 : decode cL_act 155 = .ok (.invokevirtual 193, 3) := by decide +kernel
theorem dL_act_158 : decode cL_act 158 = .ok (.istore 8, 2) := by decide +kernel
theorem dL_act_160 : decode cL_act 160 = .ok (.aload_n 0, 1) := by decide +kernel
theorem dL_act_161 : decode cL_act 161 = .ok (.invokevirtual 118, 3) := by decide +kernel
theorem dL_act_164 : decode cL_act 164 = .ok (.istore 9, 2) := by decide +kernel
theorem dL_act_166 : decode cL_act 166 = .ok (.aload_n 0, 1) := by decide +kernel
theorem dL_act_167 : decode cL_act 167 = .ok (.iload 7, 2) := by decide +kernel
theorem dL_act_169 : decode cL_act 169 = .ok (.invokestatic 225, 3) := by decide +kernel
theorem dL_act_172 : decode cL_act 172 = .ok (.aload_n 0, 1) := by decide +kernel
theorem dL_act_173 : decode cL_act 173 = .ok (.invokevirtual 118, 3) := by decide +kernel
theorem dL_act_176 : decode cL_act 176 = .ok (.iload 9, 2) := by decide +kernel
theorem dL_act_178 : decode cL_act 178 = .ok (.isub, 1) := by decide +kernel
theorem dL_act_179 : decode cL_act 179 = .ok (.if_icmp .ne 21, 3) := by decide +kernel
theorem dL_act_182 : decode cL_act 182 = .ok (.iload_n 2, 1) := by decide +kernel
theorem dL_act_183 : decode cL_act 183 = .ok (.ifCond .eq 13, 3) := by decide +kernel
theorem dL_act_186 : decode cL_act 186 = .ok (.aload_n 0, 1) := by decide +kernel
theorem dL_act_187 : decode cL_act 187 = .ok (.iload_n 3, 1) := by decide +kernel
theorem dL_act_188 : decode cL_act 188 = .ok (.invokevirtual 175, 3) := by decide +kernel
theorem dL_act_191 : decode cL_act 191 = .ok (.iload 8, 2) := by decide +kernel
theorem dL_act_193 : decode cL_act 193 = .ok (.if_icmp .ne 7, 3) := by decide +kernel
theorem dL_act_196 : decode cL_act 196 = .ok (.iconst 1, 1) := by decide +kernel
theorem dL_act_197 : decode cL_act 197 = .ok (.goto 4, 3) := by decide +kernel
theorem dL_act_200 : decode cL_act 200 = .ok (.iconst 0, 1) := by decide +kernel
theorem dL_act_201 : decode cL_act 201 = .ok (.ireturn, 1) := by decide +kernel
theorem dL_act_202 : decode cL_act 202 = .ok (.aload_n 0, 1) := by decide +kernel
theorem dL_act_203 : decode cL_act 203 = .ok (.invokevirtual 109, 3) := by decide +kernel
theorem dL_act_206 : decode cL_act 206 = .ok (.istore 10, 2) := by decide +kernel
theorem dL_act_208 : decode cL_act 208 = .ok (.aload_n 1, 1) := by decide +kernel
theorem dL_act_209 : decode cL_act 209 = .ok (.invokestatic 81, 3) := by decide +kernel
theorem dL_act_212 : decode cL_act 212 = .ok (.bipush 101, 2) := by decide +kernel
theorem dL_act_214 : decode cL_act 214 = .ok (.irem, 1) := by decide +kernel
theorem dL_act_215 : decode cL_act 215 = .ok (.istore 11, 2) := by decide +kernel
theorem dL_act_217 : decode cL_act 217 = .ok (.aload_n 0, 1) := by decide +kernel
theorem dL_act_218 : decode cL_act 218 = .ok (.iload 11, 2) := by decide +kernel
theorem dL_act_220 : decode cL_act 220 = .ok (.invokestatic 229, 3) := by decide +kernel
theorem dL_act_223 : decode cL_act 223 = .ok (.iload 10, 2) := by decide +kernel
theorem dL_act_225 : decode cL_act 225 = .ok (.if_icmp .ne 16, 3) := by decide +kernel
theorem dL_act_228 : decode cL_act 228 = .ok (.aload_n 0, 1) := by decide +kernel
theorem dL_act_229 : decode cL_act 229 = .ok (.invokevirtual 109, 3) := by decide +kernel
theorem dL_act_232 : decode cL_act 232 = .ok (.iload 11, 2) := by decide +kernel
theorem dL_act_234 : decode cL_act 234 = .ok (.if_icmp .ne 7, 3) := by decide +kernel
theorem dL_act_237 : decode cL_act 237 = .ok (.iconst 1, 1) := by decide +kernel
theorem dL_act_238 : decode cL_act 238 = .ok (.goto 4, 3) := by decide +kernel
theorem dL_act_241 : decode cL_act 241 = .ok (.iconst 0, 1) := by decide +kernel
theorem dL_act_242 : decode cL_act 242 = .ok (.ireturn, 1) := by decide +kernel
theorem dL_act_243 : decode cL_act 243 = .ok (.aload_n 1, 1) := by decide +kernel
theorem dL_act_244 : decode cL_act 244 = .ok (.invokestatic 81, 3) := by decide +kernel
theorem dL_act_247 : decode cL_act 247 = .ok (.iconst 4, 1) := by decide +kernel
theorem dL_act_248 : decode cL_act 248 = .ok (.irem, 1) := by decide +kernel
theorem dL_act_249 : decode cL_act 249 = .ok (.istore 12, 2) := by decide +kernel
theorem dL_act_251 : decode cL_act 251 = .ok (.aload_n 0, 1) := by decide +kernel
theorem dL_act_252 : decode cL_act 252 = .ok (.iload_n 3, 1) := by decide +kernel
theorem dL_act_253 : decode cL_act 253 = .ok (.iload 12, 2) := by decide +kernel
theorem dL_act_255 : decode cL_act 255 = .ok (.invokestatic 232, 3) := by decide +kernel
theorem dL_act_258 : decode cL_act 258 = .ok (.istore 13, 2) := by decide +kernel
theorem dL_act_260 : decode cL_act 260 = .ok (.iload_n 2, 1) := by decide +kernel
theorem dL_act_261 : decode cL_act 261 = .ok (.ifCond .le 37, 3) := by decide +kernel
theorem dL_act_264 : decode cL_act 264 = .ok (.iload 5, 2) := by decide +kernel
theorem dL_act_266 : decode cL_act 266 = .ok (.ifCond .eq 32, 3) := by decide +kernel
theorem dL_act_269 : decode cL_act 269 = .ok (.iload 13, 2) := by decide +kernel
theorem dL_act_271 : decode cL_act 271 = .ok (.aload_n 0, 1) := by decide +kernel
theorem dL_act_272 : decode cL_act 272 = .ok (.iload 12, 2) := by decide +kernel
theorem dL_act_274 : decode cL_act 274 = .ok (.invokevirtual 152, 3) := by decide +kernel
theorem dL_act_277 : decode cL_act 277 = .ok (.if_icmp .ne 17, 3) := by decide +kernel
theorem dL_act_280 : decode cL_act 280 = .ok (.aload_n 0, 1) := by decide +kernel
theorem dL_act_281 : decode cL_act 281 = .ok (.iload_n 3, 1) := by decide +kernel
theorem dL_act_282 : decode cL_act 282 = .ok (.invokevirtual 142, 3) := by decide +kernel
theorem dL_act_285 : decode cL_act 285 = .ok (.iload 12, 2) := by decide +kernel
theorem dL_act_287 : decode cL_act 287 = .ok (.if_icmp .ne 7, 3) := by decide +kernel
theorem dL_act_290 : decode cL_act 290 = .ok (.iconst 1, 1) := by decide +kernel
theorem dL_act_291 : decode cL_act 291 = .ok (.goto 27, 3) := by decide +kernel
theorem dL_act_294 : decode cL_act 294 = .ok (.iconst 0, 1) := by decide +kernel
theorem dL_act_295 : decode cL_act 295 = .ok (.goto 23, 3) := by decide +kernel
theorem dL_act_298 : decode cL_act 298 = .ok (.iload 13, 2) := by decide +kernel
theorem dL_act_300 : decode cL_act 300 = .ok (.iload 6, 2) := by decide +kernel
theorem dL_act_302 : decode cL_act 302 = .ok (.if_icmp .ne 15, 3) := by decide +kernel
theorem dL_act_305 : decode cL_act 305 = .ok (.aload_n 0, 1) := by decide +kernel
theorem dL_act_306 : decode cL_act 306 = .ok (.iconst 3, 1) := by decide +kernel
theorem dL_act_307 : decode cL_act 307 = .ok (.invokestatic 236, 3) := by decide +kernel
theorem dL_act_310 : decode cL_act 310 = .ok (.ifCond .lt 7, 3) := by decide +kernel
theorem dL_act_313 : decode cL_act 313 = .ok (.iconst 1, 1) := by decide +kernel
theorem dL_act_314 : decode cL_act 314 = .ok (.goto 4, 3) := by decide +kernel
theorem dL_act_317 : decode cL_act 317 = .ok (.iconst 0, 1) := by decide +kernel
theorem dL_act_318 : decode cL_act 318 = .ok (.ireturn, 1) := by decide +kernel
theorem dL_act_319 : decode cL_act 319 = .ok (.iload_n 2, 1) := by decide +kernel
theorem dL_act_320 : decode cL_act 320 = .ok (.ifCond .ne 7, 3) := by decide +kernel
theorem dL_act_323 : decode cL_act 323 = .ok (.iconst (-1), 1) := by decide +kernel
theorem dL_act_324 : decode cL_act 324 = .ok (.goto 8, 3) := by decide +kernel
theorem dL_act_327 : decode cL_act 327 = .ok (.aload_n 0, 1) := by decide +kernel
theorem dL_act_328 : decode cL_act 328 = .ok (.iload_n 3, 1) := by decide +kernel
theorem dL_act_329 : decode cL_act 329 = .ok (.invokevirtual 142, 3) := by decide +kernel
theorem dL_act_332 : decode cL_act 332 = .ok (.istore 14, 2) := by decide +kernel
theorem dL_act_334 : decode cL_act 334 = .ok (.aload_n 0, 1) := by decide +kernel
theorem dL_act_335 : decode cL_act 335 = .ok (.iload_n 3, 1) := by decide +kernel
theorem dL_act_336 : decode cL_act 336 = .ok (.invokestatic 239, 3) := by decide +kernel
theorem dL_act_339 : decode cL_act 339 = .ok (.istore 15, 2) := by decide +kernel
theorem dL_act_341 : decode cL_act 341 = .ok (.iload 14, 2) := by decide +kernel
theorem dL_act_343 : decode cL_act 343 = .ok (.ifCond .lt 27, 3) := by decide +kernel
theorem dL_act_346 : decode cL_act 346 = .ok (.iload 15, 2) := by decide +kernel
theorem dL_act_348 : decode cL_act 348 = .ok (.iload 14, 2) := by decide +kernel
theorem dL_act_350 : decode cL_act 350 = .ok (.if_icmp .ne 16, 3) := by decide +kernel
theorem dL_act_353 : decode cL_act 353 = .ok (.aload_n 0, 1) := by decide +kernel
theorem dL_act_354 : decode cL_act 354 = .ok (.iload_n 3, 1) := by decide +kernel
theorem dL_act_355 : decode cL_act 355 = .ok (.invokevirtual 142, 3) := by decide +kernel
theorem dL_act_358 : decode cL_act 358 = .ok (.iconst (-1), 1) := by decide +kernel
theorem dL_act_359 : decode cL_act 359 = .ok (.if_icmp .ne 7, 3) := by decide +kernel
theorem dL_act_362 : decode cL_act 362 = .ok (.iconst 1, 1) := by decide +kernel
theorem dL_act_363 : decode cL_act 363 = .ok (.goto 27, 3) := by decide +kernel
theorem dL_act_366 : decode cL_act 366 = .ok (.iconst 0, 1) := by decide +kernel
theorem dL_act_367 : decode cL_act 367 = .ok (.goto 23, 3) := by decide +kernel
theorem dL_act_370 : decode cL_act 370 = .ok (.iload 15, 2) := by decide +kernel
theorem dL_act_372 : decode cL_act 372 = .ok (.iload 6, 2) := by decide +kernel
theorem dL_act_374 : decode cL_act 374 = .ok (.if_icmp .ne 15, 3) := by decide +kernel
theorem dL_act_377 : decode cL_act 377 = .ok (.aload_n 0, 1) := by decide +kernel
theorem dL_act_378 : decode cL_act 378 = .ok (.iconst 4, 1) := by decide +kernel
theorem dL_act_379 : decode cL_act 379 = .ok (.invokestatic 236, 3) := by decide +kernel
theorem dL_act_382 : decode cL_act 382 = .ok (.ifCond .lt 7, 3) := by decide +kernel
theorem dL_act_385 : decode cL_act 385 = .ok (.iconst 1, 1) := by decide +kernel
theorem dL_act_386 : decode cL_act 386 = .ok (.goto 4, 3) := by decide +kernel
theorem dL_act_389 : decode cL_act 389 = .ok (.iconst 0, 1) := by decide +kernel
theorem dL_act_390 : decode cL_act 390 = .ok (.ireturn, 1) := by decide +kernel
theorem dL_act_391 : decode cL_act 391 = .ok (.iload_n 2, 1) := by decide +kernel
theorem dL_act_392 : decode cL_act 392 = .ok (.ifCond .ne 7, 3) := by decide +kernel
theorem dL_act_395 : decode cL_act 395 = .ok (.iconst 0, 1) := by decide +kernel
theorem dL_act_396 : decode cL_act 396 = .ok (.goto 8, 3) := by decide +kernel
theorem dL_act_399 : decode cL_act 399 = .ok (.aload_n 0, 1) := by decide +kernel
theorem dL_act_400 : decode cL_act 400 = .ok (.iload_n 3, 1) := by decide +kernel
theorem dL_act_401 : decode cL_act 401 = .ok (.invokevirtual 139, 3) := by decide +kernel
theorem dL_act_404 : decode cL_act 404 = .ok (.istore 16, 2) := by decide +kernel
theorem dL_act_406 : decode cL_act 406 = .ok (.iload_n 2, 1) := by decide +kernel
theorem dL_act_407 : decode cL_act 407 = .ok (.ifCond .ne 7, 3) := by decide +kernel
theorem dL_act_410 : decode cL_act 410 = .ok (.iconst 3, 1) := by decide +kernel
theorem dL_act_411 : decode cL_act 411 = .ok (.goto 8, 3) := by decide +kernel
theorem dL_act_414 : decode cL_act 414 = .ok (.aload_n 0, 1) := by decide +kernel
theorem dL_act_415 : decode cL_act 415 = .ok (.iload_n 3, 1) := by decide +kernel
theorem dL_act_416 : decode cL_act 416 = .ok (.invokevirtual 190, 3) := by decide +kernel
theorem dL_act_419 : decode cL_act 419 = .ok (.istore 17, 2) := by decide +kernel
theorem dL_act_421 : decode cL_act 421 = .ok (.aload_n 0, 1) := by decide +kernel
theorem dL_act_422 : decode cL_act 422 = .ok (.iload_n 3, 1) := by decide +kernel
theorem dL_act_423 : decode cL_act 423 = .ok (.invokestatic 242, 3) := by decide +kernel
theorem dL_act_426 : decode cL_act 426 = .ok (.istore 18, 2) := by decide +kernel
theorem dL_act_428 : decode cL_act 428 = .ok (.iload 17, 2) := by decide +kernel
theorem dL_act_430 : decode cL_act 430 = .ok (.ifCond .ne 26, 3) := by decide +kernel
theorem dL_act_433 : decode cL_act 433 = .ok (.iload 18, 2) := by decide +kernel
theorem dL_act_435 : decode cL_act 435 = .ok (.iload 16, 2) := by decide +kernel
theorem dL_act_437 : decode cL_act 437 = .ok (.if_icmp .ne 15, 3) := by decide +kernel
theorem dL_act_440 : decode cL_act 440 = .ok (.aload_n 0, 1) := by decide +kernel
theorem dL_act_441 : decode cL_act 441 = .ok (.iload_n 3, 1) := by decide +kernel
theorem dL_act_442 : decode cL_act 442 = .ok (.invokevirtual 178, 3) := by decide +kernel
theorem dL_act_445 : decode cL_act 445 = .ok (.ifCond .ne 7, 3) := by decide +kernel
theorem dL_act_448 : decode cL_act 448 = .ok (.iconst 1, 1) := by decide +kernel
theorem dL_act_449 : decode cL_act 449 = .ok (.goto 38, 3) := by decide +kernel
theorem dL_act_452 : decode cL_act 452 = .ok (.iconst 0, 1) := by decide +kernel
theorem dL_act_453 : decode cL_act 453 = .ok (.goto 34, 3) := by decide +kernel
theorem dL_act_456 : decode cL_act 456 = .ok (.iload 18, 2) := by decide +kernel
theorem dL_act_458 : decode cL_act 458 = .ok (.iload_n 2, 1) := by decide +kernel
theorem dL_act_459 : decode cL_act 459 = .ok (.ifCond .ne 9, 3) := by decide +kernel
theorem dL_act_462 : decode cL_act 462 = .ok (.sipush (-995), 3) := by decide +kernel
theorem dL_act_465 : decode cL_act 465 = .ok (.goto 6, 3) := by decide +kernel
theorem dL_act_468 : decode cL_act 468 = .ok (.sipush (-993), 3) := by decide +kernel
theorem dL_act_471 : decode cL_act 471 = .ok (.if_icmp .ne 15, 3) := by decide +kernel
theorem dL_act_474 : decode cL_act 474 = .ok (.aload_n 0, 1) := by decide +kernel
theorem dL_act_475 : decode cL_act 475 = .ok (.iconst 5, 1) := by decide +kernel
theorem dL_act_476 : decode cL_act 476 = .ok (.invokestatic 236, 3) := by decide +kernel
theorem dL_act_479 : decode cL_act 479 = .ok (.ifCond .lt 7, 3) := by decide +kernel
theorem dL_act_482 : decode cL_act 482 = .ok (.iconst 1, 1) := by decide +kernel
theorem dL_act_483 : decode cL_act 483 = .ok (.goto 4, 3) := by decide +kernel
theorem dL_act_486 : decode cL_act 486 = .ok (.iconst 0, 1) := by decide +kernel
theorem dL_act_487 : decode cL_act 487 = .ok (.ireturn, 1) := by decide +kernel
theorem dL_act_488 : decode cL_act 488 = .ok (.iload_n 2, 1) := by decide +kernel
theorem dL_act_489 : decode cL_act 489 = .ok (.ifCond .ne 7, 3) := by decide +kernel
theorem dL_act_492 : decode cL_act 492 = .ok (.iconst 0, 1) := by decide +kernel
theorem dL_act_493 : decode cL_act 493 = .ok (.goto 8, 3) := by decide +kernel
theorem dL_act_496 : decode cL_act 496 = .ok (.aload_n 0, 1) := by decide +kernel
theorem dL_act_497 : decode cL_act 497 = .ok (.iload_n 3, 1) := by decide +kernel
theorem dL_act_498 : decode cL_act 498 = .ok (.invokevirtual 124, 3) := by decide +kernel
theorem dL_act_501 : decode cL_act 501 = .ok (.istore 19, 2) := by decide +kernel
theorem dL_act_503 : decode cL_act 503 = .ok (.iload_n 2, 1) := by decide +kernel
theorem dL_act_504 : decode cL_act 504 = .ok (.ifCond .ne 7, 3) := by decide +kernel
theorem dL_act_507 : decode cL_act 507 = .ok (.iconst 0, 1) := by decide +kernel
theorem dL_act_508 : decode cL_act 508 = .ok (.goto 8, 3) := by decide +kernel
theorem dL_act_511 : decode cL_act 511 = .ok (.aload_n 0, 1) := by decide +kernel
theorem dL_act_512 : decode cL_act 512 = .ok (.iload_n 3, 1) := by decide +kernel
theorem dL_act_513 : decode cL_act 513 = .ok (.invokevirtual 133, 3) := by decide +kernel
theorem dL_act_516 : decode cL_act 516 = .ok (.istore 20, 2) := by decide +kernel
theorem dL_act_518 : decode cL_act 518 = .ok (.iload 4, 2) := by decide +kernel
theorem dL_act_520 : decode cL_act 520 = .ok (.ifCond .eq 17, 3) := by decide +kernel
theorem dL_act_523 : decode cL_act 523 = .ok (.aload_n 0, 1) := by decide +kernel
theorem dL_act_524 : decode cL_act 524 = .ok (.iload_n 3, 1) := by decide +kernel
theorem dL_act_525 : decode cL_act 525 = .ok (.invokevirtual 130, 3) := by decide +kernel
theorem dL_act_528 : decode cL_act 528 = .ok (.bipush 20, 2) := by decide +kernel
theorem dL_act_530 : decode cL_act 530 = .ok (.if_icmp .ge 7, 3) := by decide +kernel
theorem dL_act_533 : decode cL_act 533 = .ok (.iconst 1, 1) := by decide +kernel
theorem dL_act_534 : decode cL_act 534 = .ok (.goto 4, 3) := by decide +kernel
theorem dL_act_537 : decode cL_act 537 = .ok (.iconst 0, 1) := by decide +kernel
theorem dL_act_538 : decode cL_act 538 = .ok (.istore 21, 2) := by decide +kernel
theorem dL_act_540 : decode cL_act 540 = .ok (.aload_n 0, 1) := by decide +kernel
theorem dL_act_541 : decode cL_act 541 = .ok (.iload_n 3, 1) := by decide +kernel
theorem dL_act_542 : decode cL_act 542 = .ok (.invokestatic 245, 3) := by decide +kernel
theorem dL_act_545 : decode cL_act 545 = .ok (.istore 22, 2) := by decide +kernel
theorem dL_act_547 : decode cL_act 547 = .ok (.iload 4, 2) := by decide +kernel
theorem dL_act_549 : decode cL_act 549 = .ok (.ifCond .eq 53, 3) := by decide +kernel
theorem dL_act_552 : decode cL_act 552 = .ok (.iload 19, 2) := by decide +kernel
theorem dL_act_554 : decode cL_act 554 = .ok (.ifCond .le 48, 3) := by decide +kernel
theorem dL_act_557 : decode cL_act 557 = .ok (.iload 22, 2) := by decide +kernel
theorem dL_act_559 : decode cL_act 559 = .ok (.iload 20, 2) := by decide +kernel
theorem dL_act_561 : decode cL_act 561 = .ok (.if_icmp .ne 37, 3) := by decide +kernel
theorem dL_act_564 : decode cL_act 564 = .ok (.aload_n 0, 1) := by decide +kernel
theorem dL_act_565 : decode cL_act 565 = .ok (.iload_n 3, 1) := by decide +kernel
theorem dL_act_566 : decode cL_act 566 = .ok (.invokevirtual 133, 3) := by decide +kernel
theorem dL_act_569 : decode cL_act 569 = .ok (.ifCond .ne 29, 3) := by decide +kernel
theorem dL_act_572 : decode cL_act 572 = .ok (.aload_n 0, 1) := by decide +kernel
theorem dL_act_573 : decode cL_act 573 = .ok (.iload_n 3, 1) := by decide +kernel
theorem dL_act_574 : decode cL_act 574 = .ok (.invokevirtual 124, 3) := by decide +kernel
theorem dL_act_577 : decode cL_act 577 = .ok (.iload 21, 2) := by decide +kernel
theorem dL_act_579 : decode cL_act 579 = .ok (.ifCond .eq 10, 3) := by decide +kernel
theorem dL_act_582 : decode cL_act 582 = .ok (.iload 19, 2) := by decide +kernel
theorem dL_act_584 : decode cL_act 584 = .ok (.iconst 1, 1) := by decide +kernel
theorem dL_act_585 : decode cL_act 585 = .ok (.isub, 1) := by decide +kernel
theorem dL_act_586 : decode cL_act 586 = .ok (.goto 5, 3) := by decide +kernel
theorem dL_act_589 : decode cL_act 589 = .ok (.iload 19, 2) := by decide +kernel
theorem dL_act_591 : decode cL_act 591 = .ok (.if_icmp .ne 7, 3) := by decide +kernel
theorem dL_act_594 : decode cL_act 594 = .ok (.iconst 1, 1) := by decide +kernel
theorem dL_act_595 : decode cL_act 595 = .ok (.goto 27, 3) := by decide +kernel
theorem dL_act_598 : decode cL_act 598 = .ok (.iconst 0, 1) := by decide +kernel
theorem dL_act_599 : decode cL_act 599 = .ok (.goto 23, 3) := by decide +kernel
theorem dL_act_602 : decode cL_act 602 = .ok (.iload 22, 2) := by decide +kernel
theorem dL_act_604 : decode cL_act 604 = .ok (.iload 6, 2) := by decide +kernel
theorem dL_act_606 : decode cL_act 606 = .ok (.if_icmp .ne 15, 3) := by decide +kernel
theorem dL_act_609 : decode cL_act 609 = .ok (.aload_n 0, 1) := by decide +kernel
theorem dL_act_610 : decode cL_act 610 = .ok (.iconst 2, 1) := by decide +kernel
theorem dL_act_611 : decode cL_act 611 = .ok (.invokestatic 236, 3) := by decide +kernel
theorem dL_act_614 : decode cL_act 614 = .ok (.ifCond .lt 7, 3) := by decide +kernel
theorem dL_act_617 : decode cL_act 617 = .ok (.iconst 1, 1) := by decide +kernel
theorem dL_act_618 : decode cL_act 618 = .ok (.goto 4, 3) := by decide +kernel
theorem dL_act_621 : decode cL_act 621 = .ok (.iconst 0, 1) := by decide +kernel
theorem dL_act_622 : decode cL_act 622 = .ok (.ireturn, 1) := by decide +kernel
theorem dL_act_623 : decode cL_act 623 = .ok (.iload_n 2, 1) := by decide +kernel
theorem dL_act_624 : decode cL_act 624 = .ok (.ifCond .ne 7, 3) := by decide +kernel
theorem dL_act_627 : decode cL_act 627 = .ok (.iconst 0, 1) := by decide +kernel
theorem dL_act_628 : decode cL_act 628 = .ok (.goto 8, 3) := by decide +kernel
theorem dL_act_631 : decode cL_act 631 = .ok (.aload_n 0, 1) := by decide +kernel
theorem dL_act_632 : decode cL_act 632 = .ok (.iload_n 3, 1) := by decide +kernel
theorem dL_act_633 : decode cL_act 633 = .ok (.invokevirtual 136, 3) := by decide +kernel
theorem dL_act_636 : decode cL_act 636 = .ok (.istore 23, 2) := by decide +kernel
theorem dL_act_638 : decode cL_act 638 = .ok (.aload_n 0, 1) := by decide +kernel
theorem dL_act_639 : decode cL_act 639 = .ok (.iload_n 3, 1) := by decide +kernel
theorem dL_act_640 : decode cL_act 640 = .ok (.invokestatic 248, 3) := by decide +kernel
theorem dL_act_643 : decode cL_act 643 = .ok (.istore 24, 2) := by decide +kernel
theorem dL_act_645 : decode cL_act 645 = .ok (.iload_n 2, 1) := by decide +kernel
theorem dL_act_646 : decode cL_act 646 = .ok (.ifCond .le 33, 3) := by decide +kernel
theorem dL_act_649 : decode cL_act 649 = .ok (.iload 4, 2) := by decide +kernel
theorem dL_act_651 : decode cL_act 651 = .ok (.ifCond .ne 28, 3) := by decide +kernel
theorem dL_act_654 : decode cL_act 654 = .ok (.iload 24, 2) := by decide +kernel
theorem dL_act_656 : decode cL_act 656 = .ok (.iload 23, 2) := by decide +kernel
theorem dL_act_658 : decode cL_act 658 = .ok (.if_icmp .ne 17, 3) := by decide +kernel
theorem dL_act_661 : decode cL_act 661 = .ok (.aload_n 0, 1) := by decide +kernel
theorem dL_act_662 : decode cL_act 662 = .ok (.iload_n 3, 1) := by decide +kernel
theorem dL_act_663 : decode cL_act 663 = .ok (.invokevirtual 136, 3) := by decide +kernel
theorem dL_act_666 : decode cL_act 666 = .ok (.bipush 60, 2) := by decide +kernel
theorem dL_act_668 : decode cL_act 668 = .ok (.if_icmp .ne 7, 3) := by decide +kernel
theorem dL_act_671 : decode cL_act 671 = .ok (.iconst 1, 1) := by decide +kernel
theorem dL_act_672 : decode cL_act 672 = .ok (.goto 27, 3) := by decide +kernel
theorem dL_act_675 : decode cL_act 675 = .ok (.iconst 0, 1) := by decide +kernel
theorem dL_act_676 : decode cL_act 676 = .ok (.goto 23, 3) := by decide +kernel
theorem dL_act_679 : decode cL_act 679 = .ok (.iload 24, 2) := by decide +kernel
theorem dL_act_681 : decode cL_act 681 = .ok (.iload 6, 2) := by decide +kernel
theorem dL_act_683 : decode cL_act 683 = .ok (.if_icmp .ne 15, 3) := by decide +kernel
theorem dL_act_686 : decode cL_act 686 = .ok (.aload_n 0, 1) := by decide +kernel
theorem dL_act_687 : decode cL_act 687 = .ok (.iconst 5, 1) := by decide +kernel
theorem dL_act_688 : decode cL_act 688 = .ok (.invokestatic 236, 3) := by decide +kernel
theorem dL_act_691 : decode cL_act 691 = .ok (.ifCond .lt 7, 3) := by decide +kernel
theorem dL_act_694 : decode cL_act 694 = .ok (.iconst 1, 1) := by decide +kernel
theorem dL_act_695 : decode cL_act 695 = .ok (.goto 4, 3) := by decide +kernel
theorem dL_act_698 : decode cL_act 698 = .ok (.iconst 0, 1) := by decide +kernel
theorem dL_act_699 : decode cL_act 699 = .ok (.ireturn, 1) := by decide +kernel
theorem dL_act_700 : decode cL_act 700 = .ok (.iconst 1, 1) := by decide +kernel
theorem dL_act_701 : decode cL_act 701 = .ok (.aload_n 1, 1) := by decide +kernel
theorem dL_act_702 : decode cL_act 702 = .ok (.invokestatic 81, 3) := by decide +kernel
theorem dL_act_705 : decode cL_act 705 = .ok (.bipush 6, 2) := by decide +kernel
theorem dL_act_707 : decode cL_act 707 = .ok (.irem, 1) := by decide +kernel
theorem dL_act_708 : decode cL_act 708 = .ok (.iadd, 1) := by decide +kernel
theorem dL_act_709 : decode cL_act 709 = .ok (.istore 25, 2) := by decide +kernel
theorem dL_act_711 : decode cL_act 711 = .ok (.iload_n 2, 1) := by decide +kernel
theorem dL_act_712 : decode cL_act 712 = .ok (.ifCond .ne 7, 3) := by decide +kernel
theorem dL_act_715 : decode cL_act 715 = .ok (.iconst 0, 1) := by decide +kernel
theorem dL_act_716 : decode cL_act 716 = .ok (.goto 8, 3) := by decide +kernel
theorem dL_act_719 : decode cL_act 719 = .ok (.aload_n 0, 1) := by decide +kernel
theorem dL_act_720 : decode cL_act 720 = .ok (.iload_n 3, 1) := by decide +kernel
theorem dL_act_721 : decode cL_act 721 = .ok (.invokevirtual 124, 3) := by decide +kernel
theorem dL_act_724 : decode cL_act 724 = .ok (.istore 26, 2) := by decide +kernel
theorem dL_act_726 : decode cL_act 726 = .ok (.aload_n 0, 1) := by decide +kernel
theorem dL_act_727 : decode cL_act 727 = .ok (.invokevirtual 118, 3) := by decide +kernel
theorem dL_act_730 : decode cL_act 730 = .ok (.istore 27, 2) := by decide +kernel
theorem dL_act_732 : decode cL_act 732 = .ok (.iload 4, 2) := by decide +kernel
theorem dL_act_734 : decode cL_act 734 = .ok (.ifCond .eq 24, 3) := by decide +kernel
theorem dL_act_737 : decode cL_act 737 = .ok (.iload 25, 2) := by decide +kernel
theorem dL_act_739 : decode cL_act 739 = .ok (.iload 27, 2) := by decide +kernel
theorem dL_act_741 : decode cL_act 741 = .ok (.if_icmp .gt 17, 3) := by decide +kernel
theorem dL_act_744 : decode cL_act 744 = .ok (.iload 26, 2) := by decide +kernel
theorem dL_act_746 : decode cL_act 746 = .ok (.iload 25, 2) := by decide +kernel
theorem dL_act_748 : decode cL_act 748 = .ok (.iadd, 1) := by decide +kernel
theorem dL_act_749 : decode cL_act 749 = .ok (.bipush 20, 2) := by decide +kernel
theorem dL_act_751 : decode cL_act 751 = .ok (.if_icmp .gt 7, 3) := by decide +kernel
theorem dL_act_754 : decode cL_act 754 = .ok (.iconst 1, 1) := by decide +kernel
theorem dL_act_755 : decode cL_act 755 = .ok (.goto 4, 3) := by decide +kernel
theorem dL_act_758 : decode cL_act 758 = .ok (.iconst 0, 1) := by decide +kernel
theorem dL_act_759 : decode cL_act 759 = .ok (.istore 28, 2) := by decide +kernel
theorem dL_act_761 : decode cL_act 761 = .ok (.aload_n 0, 1) := by decide +kernel
theorem dL_act_762 : decode cL_act 762 = .ok (.iload_n 3, 1) := by decide +kernel
theorem dL_act_763 : decode cL_act 763 = .ok (.iload 25, 2) := by decide +kernel
theorem dL_act_765 : decode cL_act 765 = .ok (.invokestatic 251, 3) := by decide +kernel
theorem dL_act_768 : decode cL_act 768 = .ok (.istore 29, 2) := by decide +kernel
theorem dL_act_770 : decode cL_act 770 = .ok (.iload 28, 2) := by decide +kernel
theorem dL_act_772 : decode cL_act 772 = .ok (.ifCond .eq 33, 3) := by decide +kernel
theorem dL_act_775 : decode cL_act 775 = .ok (.iload 29, 2) := by decide +kernel
theorem dL_act_777 : decode cL_act 777 = .ok (.iload 26, 2) := by decide +kernel
theorem dL_act_779 : decode cL_act 779 = .ok (.iload 25, 2) := by decide +kernel
theorem dL_act_781 : decode cL_act 781 = .ok (.iadd, 1) := by decide +kernel
theorem dL_act_782 : decode cL_act 782 = .ok (.if_icmp .ne 19, 3) := by decide +kernel
theorem dL_act_785 : decode cL_act 785 = .ok (.aload_n 0, 1) := by decide +kernel
theorem dL_act_786 : decode cL_act 786 = .ok (.invokevirtual 118, 3) := by decide +kernel
theorem dL_act_789 : decode cL_act 789 = .ok (.iload 27, 2) := by decide +kernel
theorem dL_act_791 : decode cL_act 791 = .ok (.iload 25, 2) := by decide +kernel
theorem dL_act_793 : decode cL_act 793 = .ok (.isub, 1) := by decide +kernel
theorem dL_act_794 : decode cL_act 794 = .ok (.if_icmp .ne 7, 3) := by decide +kernel
theorem dL_act_797 : decode cL_act 797 = .ok (.iconst 1, 1) := by decide +kernel
theorem dL_act_798 : decode cL_act 798 = .ok (.goto 27, 3) := by decide +kernel
theorem dL_act_801 : decode cL_act 801 = .ok (.iconst 0, 1) := by decide +kernel
theorem dL_act_802 : decode cL_act 802 = .ok (.goto 23, 3) := by decide +kernel
theorem dL_act_805 : decode cL_act 805 = .ok (.iload 29, 2) := by decide +kernel
theorem dL_act_807 : decode cL_act 807 = .ok (.iload 6, 2) := by decide +kernel
theorem dL_act_809 : decode cL_act 809 = .ok (.if_icmp .ne 15, 3) := by decide +kernel
theorem dL_act_812 : decode cL_act 812 = .ok (.aload_n 0, 1) := by decide +kernel
theorem dL_act_813 : decode cL_act 813 = .ok (.iconst 5, 1) := by decide +kernel
theorem dL_act_814 : decode cL_act 814 = .ok (.invokestatic 236, 3) := by decide +kernel
theorem dL_act_817 : decode cL_act 817 = .ok (.ifCond .lt 7, 3) := by decide +kernel
theorem dL_act_820 : decode cL_act 820 = .ok (.iconst 1, 1) := by decide +kernel
theorem dL_act_821 : decode cL_act 821 = .ok (.goto 4, 3) := by decide +kernel
theorem dL_act_824 : decode cL_act 824 = .ok (.iconst 0, 1) := by decide +kernel
theorem dL_act_825 : decode cL_act 825 = .ok (.ireturn, 1) := by decide +kernel
theorem dL_act_826 : decode cL_act 826 = .ok (.aload_n 0, 1) := by decide +kernel
theorem dL_act_827 : decode cL_act 827 = .ok (.invokevirtual 112, 3) := by decide +kernel
theorem dL_act_830 : decode cL_act 830 = .ok (.istore 30, 2) := by decide +kernel
theorem dL_act_832 : decode cL_act 832 = .ok (.aload_n 1, 1) := by decide +kernel
theorem dL_act_833 : decode cL_act 833 = .ok (.invokestatic 81, 3) := by decide +kernel
theorem dL_act_836 : decode cL_act 836 = .ok (.bipush 41, 2) := by decide +kernel
theorem dL_act_838 : decode cL_act 838 = .ok (.irem, 1) := by decide +kernel
theorem dL_act_839 : decode cL_act 839 = .ok (.istore 31, 2) := by decide +kernel
theorem dL_act_841 : decode cL_act 841 = .ok (.aload_n 0, 1) := by decide +kernel
theorem dL_act_842 : decode cL_act 842 = .ok (.iload 31, 2) := by decide +kernel
theorem dL_act_844 : decode cL_act 844 = .ok (.invokestatic 254, 3) := by decide +kernel
theorem dL_act_847 : decode cL_act 847 = .ok (.iload 30, 2) := by decide +kernel
theorem dL_act_849 : decode cL_act 849 = .ok (.if_icmp .ne 16, 3) := by decide +kernel
theorem dL_act_852 : decode cL_act 852 = .ok (.aload_n 0, 1) := by decide +kernel
theorem dL_act_853 : decode cL_act 853 = .ok (.invokevirtual 112, 3) := by decide +kernel
theorem dL_act_856 : decode cL_act 856 = .ok (.iload 31, 2) := by decide +kernel
theorem dL_act_858 : decode cL_act 858 = .ok (.if_icmp .ne 7, 3) := by decide +kernel
theorem dL_act_861 : decode cL_act 861 = .ok (.iconst 1, 1) := by decide +kernel
theorem dL_act_862 : decode cL_act 862 = .ok (.goto 4, 3) := by decide +kernel
theorem dL_act_865 : decode cL_act 865 = .ok (.iconst 0, 1) := by decide +kernel
theorem dL_act_866 : decode cL_act 866 = .ok (.ireturn, 1) := by decide +kernel
theorem dL_law_0 : decode cL_law 0 = .ok (.new 19, 3) := by decide +kernel
theorem dL_law_3 : decode cL_law 3 = .ok (.dup, 1) := by decide +kernel
theorem dL_law_4 : decode cL_law 4 = .ok (.invokespecial 257, 3) := by decide +kernel
theorem dL_law_7 : decode cL_law 7 = .ok (.astore_n 1, 1) := by decide +kernel
theorem dL_law_8 : decode cL_law 8 = .ok (.iconst 1, 1) := by decide +kernel
theorem dL_law_9 : decode cL_law 9 = .ok (.newarray .int, 2) := by decide +kernel
theorem dL_law_11 : decode cL_law 11 = .ok (.dup, 1) := by decide +kernel
theorem dL_law_12 : decode cL_law 12 = .ok (.iconst 0, 1) := by decide +kernel
theorem dL_law_13 : decode cL_law 13 = .ok (.aload_n 0, 1) := by decide +kernel
theorem dL_law_14 : decode cL_law 14 = .ok (.arraylength, 1) := by decide +kernel
theorem dL_law_15 : decode cL_law 15 = .ok (.ifCond .ne 9, 3) := by decide +kernel
theorem dL_law_18 : decode cL_law 18 = .ok (.sipush 1276, 3) := by decide +kernel
theorem dL_law_21 : decode cL_law 21 = .ok (.goto 6, 3) := by decide +kernel
theorem dL_law_24 : decode cL_law 24 = .ok (.aload_n 0, 1) := by decide +kernel
theorem dL_law_25 : decode cL_law 25 = .ok (.iconst 0, 1) := by decide +kernel
theorem dL_law_26 : decode cL_law 26 = .ok (.iaload, 1) := by decide +kernel
theorem dL_law_27 : decode cL_law 27 = .ok (.iastore, 1) := by decide +kernel
theorem dL_law_28 : decode cL_law 28 = .ok (.astore_n 2, 1) := by decide +kernel
theorem dL_law_29 : decode cL_law 29 = .ok (.iconst 1, 1) := by decide +kernel
theorem dL_law_30 : decode cL_law 30 = .ok (.istore_n 3, 1) := by decide +kernel
theorem dL_law_31 : decode cL_law 31 = .ok (.iconst 0, 1) := by decide +kernel
theorem dL_law_32 : decode cL_law 32 = .ok (.istore 4, 2) := by decide +kernel
theorem dL_law_34 : decode cL_law 34 = .ok (.iload 4, 2) := by decide +kernel
theorem dL_law_36 : decode cL_law 36 = .ok (.iconst 2, 1) := by decide +kernel
theorem dL_law_37 : decode cL_law 37 = .ok (.if_icmp .ge 338, 3) := by decide +kernel
theorem dL_law_40 : decode cL_law 40 = .ok (.iload_n 3, 1) := by decide +kernel
theorem dL_law_41 : decode cL_law 41 = .ok (.ifCond .eq 334, 3) := by decide +kernel
theorem dL_law_44 : decode cL_law 44 = .ok (.aload_n 2, 1) := by decide +kernel
theorem dL_law_45 : decode cL_law 45 = .ok (.iconst 0, 1) := by decide +kernel
theorem dL_law_46 : decode cL_law 46 = .ok (.dup2, 1) := by decide +kernel
theorem dL_law_47 : decode cL_law 47 = .ok (.iaload, 1) := by decide +kernel
theorem dL_law_48 : decode cL_law 48 = .ok (.iload 4, 2) := by decide +kernel
theorem dL_law_50 : decode cL_law 50 = .ok (.aload_n 0, 1) := by decide +kernel
theorem dL_law_51 : decode cL_law 51 = .ok (.arraylength, 1) := by decide +kernel
theorem dL_law_52 : decode cL_law 52 = .ok (.if_icmp .ge 10, 3) := by decide +kernel
theorem dL_law_55 : decode cL_law 55 = .ok (.aload_n 0, 1) := by decide +kernel
theorem dL_law_56 : decode cL_law 56 = .ok (.iload 4, 2) := by decide +kernel
theorem dL_law_58 : decode cL_law 58 = .ok (.iaload, 1) := by decide +kernel
theorem dL_law_59 : decode cL_law 59 = .ok (.goto 4, 3) := by decide +kernel
theorem dL_law_62 : decode cL_law 62 = .ok (.iconst 0, 1) := by decide +kernel
theorem dL_law_63 : decode cL_law 63 = .ok (.ixor, 1) := by decide +kernel
theorem dL_law_64 : decode cL_law 64 = .ok (.iastore, 1) := by decide +kernel
theorem dL_law_65 : decode cL_law 65 = .ok (.aload_n 2, 1) := by decide +kernel
theorem dL_law_66 : decode cL_law 66 = .ok (.invokestatic 81, 3) := by decide +kernel
theorem dL_law_69 : decode cL_law 69 = .ok (.bipush 7, 2) := by decide +kernel
theorem dL_law_71 : decode cL_law 71 = .ok (.irem, 1) := by decide +kernel
theorem dL_law_72 : decode cL_law 72 = .ok (.istore 5, 2) := by decide +kernel
theorem dL_law_74 : decode cL_law 74 = .ok (.aload_n 1, 1) := by decide +kernel
theorem dL_law_75 : decode cL_law 75 = .ok (.iload 5, 2) := by decide +kernel
theorem dL_law_77 : decode cL_law 77 = .ok (.aload_n 2, 1) := by decide +kernel
theorem dL_law_78 : decode cL_law 78 = .ok (.invokestatic 258, 3) := by decide +kernel
theorem dL_law_81 : decode cL_law 81 = .ok (.invokestatic 262, 3) := by decide +kernel
theorem dL_law_84 : decode cL_law 84 = .ok (.iload 5, 2) := by decide +kernel
theorem dL_law_86 : decode cL_law 86 = .ok (.if_icmp .ne 16, 3) := by decide +kernel
theorem dL_law_89 : decode cL_law 89 = .ok (.aload_n 1, 1) := by decide +kernel
theorem dL_law_90 : decode cL_law 90 = .ok (.iload 4, 2) := by decide +kernel
theorem dL_law_92 : decode cL_law 92 = .ok (.invokevirtual 264, 3) := by decide +kernel
theorem dL_law_95 : decode cL_law 95 = .ok (.ifCond .ne 7, 3) := by decide +kernel
theorem dL_law_98 : decode cL_law 98 = .ok (.iconst 1, 1) := by decide +kernel
theorem dL_law_99 : decode cL_law 99 = .ok (.goto 4, 3) := by decide +kernel
theorem dL_law_102 : decode cL_law 102 = .ok (.iconst 0, 1) := by decide +kernel
theorem dL_law_103 : decode cL_law 103 = .ok (.istore_n 3, 1) := by decide +kernel
theorem dL_law_104 : decode cL_law 104 = .ok (.aload_n 1, 1) := by decide +kernel
theorem dL_law_105 : decode cL_law 105 = .ok (.invokestatic 267, 3) := by decide +kernel
theorem dL_law_108 : decode cL_law 108 = .ok (.lstore 6, 2) := by decide +kernel
theorem dL_law_110 : decode cL_law 110 = .ok (.iconst 0, 1) := by decide +kernel
theorem dL_law_111 : decode cL_law 111 = .ok (.istore 8, 2) := by decide +kernel
theorem dL_law_113 : decode cL_law 113 = .ok (.iload 8, 2) := by decide +kernel
theorem dL_law_115 : decode cL_law 115 = .ok (.bipush 14, 2) := by decide +kernel
theorem dL_law_117 : decode cL_law 117 = .ok (.if_icmp .ge 214, 3) := by decide +kernel
theorem dL_law_120 : decode cL_law 120 = .ok (.iload_n 3, 1) := by decide +kernel
theorem dL_law_121 : decode cL_law 121 = .ok (.ifCond .eq 210, 3) := by decide +kernel
theorem dL_law_124 : decode cL_law 124 = .ok (.aload_n 1, 1) := by decide +kernel
theorem dL_law_125 : decode cL_law 125 = .ok (.invokestatic 267, 3) := by decide +kernel
theorem dL_law_128 : decode cL_law 128 = .ok (.lstore 9, 2) := by decide +kernel
theorem dL_law_130 : decode cL_law 130 = .ok (.aload_n 1, 1) := by decide +kernel
theorem dL_law_131 : decode cL_law 131 = .ok (.bipush 100, 2) := by decide +kernel
theorem dL_law_133 : decode cL_law 133 = .ok (.invokestatic 225, 3) := by decide +kernel
theorem dL_law_136 : decode cL_law 136 = .ok (.bipush (-2), 2) := by decide +kernel
theorem dL_law_138 : decode cL_law 138 = .ok (.if_icmp .ne 117, 3) := by decide +kernel
theorem dL_law_141 : decode cL_law 141 = .ok (.aload_n 1, 1) := by decide +kernel
theorem dL_law_142 : decode cL_law 142 = .ok (.iconst (-1), 1) := by decide +kernel
theorem dL_law_143 : decode cL_law 143 = .ok (.invokestatic 229, 3) := by decide +kernel
theorem dL_law_146 : decode cL_law 146 = .ok (.bipush (-2), 2) := by decide +kernel
theorem dL_law_148 : decode cL_law 148 = .ok (.if_icmp .ne 107, 3) := by decide +kernel
theorem dL_law_151 : decode cL_law 151 = .ok (.aload_n 1, 1) := by decide +kernel
theorem dL_law_152 : decode cL_law 152 = .ok (.bipush 41, 2) := by decide +kernel
theorem dL_law_154 : decode cL_law 154 = .ok (.invokestatic 254, 3) := by decide +kernel
theorem dL_law_157 : decode cL_law 157 = .ok (.bipush (-2), 2) := by decide +kernel
theorem dL_law_159 : decode cL_law 159 = .ok (.if_icmp .ne 96, 3) := by decide +kernel
theorem dL_law_162 : decode cL_law 162 = .ok (.aload_n 1, 1) := by decide +kernel
theorem dL_law_163 : decode cL_law 163 = .ok (.bipush 6, 2) := by decide +kernel
theorem dL_law_165 : decode cL_law 165 = .ok (.invokestatic 236, 3) := by decide +kernel
theorem dL_law_168 : decode cL_law 168 = .ok (.bipush (-2), 2) := by decide +kernel
theorem dL_law_170 : decode cL_law 170 = .ok (.if_icmp .ne 85, 3) := by decide +kernel
theorem dL_law_173 : decode cL_law 173 = .ok (.aload_n 1, 1) := by decide +kernel
theorem dL_law_174 : decode cL_law 174 = .ok (.bipush 6, 2) := by decide +kernel
theorem dL_law_176 : decode cL_law 176 = .ok (.iconst 0, 1) := by decide +kernel
theorem dL_law_177 : decode cL_law 177 = .ok (.invokestatic 232, 3) := by decide +kernel
theorem dL_law_180 : decode cL_law 180 = .ok (.bipush (-5), 2) := by decide +kernel
theorem dL_law_182 : decode cL_law 182 = .ok (.if_icmp .ne 73, 3) := by decide +kernel
theorem dL_law_185 : decode cL_law 185 = .ok (.aload_n 1, 1) := by decide +kernel
theorem dL_law_186 : decode cL_law 186 = .ok (.iconst (-1), 1) := by decide +kernel
theorem dL_law_187 : decode cL_law 187 = .ok (.invokestatic 239, 3) := by decide +kernel
theorem dL_law_190 : decode cL_law 190 = .ok (.bipush (-5), 2) := by decide +kernel
theorem dL_law_192 : decode cL_law 192 = .ok (.if_icmp .ne 63, 3) := by decide +kernel
theorem dL_law_195 : decode cL_law 195 = .ok (.aload_n 1, 1) := by decide +kernel
theorem dL_law_196 : decode cL_law 196 = .ok (.bipush 6, 2) := by decide +kernel
theorem dL_law_198 : decode cL_law 198 = .ok (.invokestatic 242, 3) := by decide +kernel
theorem dL_law_201 : decode cL_law 201 = .ok (.sipush (-995), 3) := by decide +kernel
theorem dL_law_204 : decode cL_law 204 = .ok (.if_icmp .ne 51, 3) := by decide +kernel
theorem dL_law_207 : decode cL_law 207 = .ok (.aload_n 1, 1) := by decide +kernel
theorem dL_law_208 : decode cL_law 208 = .ok (.bipush 6, 2) := by decide +kernel
theorem dL_law_210 : decode cL_law 210 = .ok (.invokestatic 245, 3) := by decide +kernel
theorem dL_law_213 : decode cL_law 213 = .ok (.bipush (-5), 2) := by decide +kernel
theorem dL_law_215 : decode cL_law 215 = .ok (.if_icmp .ne 40, 3) := by decide +kernel
theorem dL_law_218 : decode cL_law 218 = .ok (.aload_n 1, 1) := by decide +kernel
theorem dL_law_219 : decode cL_law 219 = .ok (.bipush 6, 2) := by decide +kernel
theorem dL_law_221 : decode cL_law 221 = .ok (.invokestatic 248, 3) := by decide +kernel
theorem dL_law_224 : decode cL_law 224 = .ok (.bipush (-5), 2) := by decide +kernel
theorem dL_law_226 : decode cL_law 226 = .ok (.if_icmp .ne 29, 3) := by decide +kernel
theorem dL_law_229 : decode cL_law 229 = .ok (.aload_n 1, 1) := by decide +kernel
theorem dL_law_230 : decode cL_law 230 = .ok (.bipush 6, 2) := by decide +kernel
theorem dL_law_232 : decode cL_law 232 = .ok (.iconst 1, 1) := by decide +kernel
theorem dL_law_233 : decode cL_law 233 = .ok (.invokestatic 251, 3) := by decide +kernel
theorem dL_law_236 : decode cL_law 236 = .ok (.bipush (-5), 2) := by decide +kernel
theorem dL_law_238 : decode cL_law 238 = .ok (.if_icmp .ne 17, 3) := by decide +kernel
theorem dL_law_241 : decode cL_law 241 = .ok (.aload_n 1, 1) := by decide +kernel
theorem dL_law_242 : decode cL_law 242 = .ok (.invokestatic 267, 3) := by decide +kernel
theorem dL_law_245 : decode cL_law 245 = .ok (.lload 9, 2) := by decide +kernel
theorem dL_law_247 : decode cL_law 247 = .ok (.lcmp, 1) := by decide +kernel
theorem dL_law_248 : decode cL_law 248 = .ok (.ifCond .ne 7, 3) := by decide +kernel
theorem dL_law_251 : decode cL_law 251 = .ok (.iconst 1, 1) := by decide +kernel
theorem dL_law_252 : decode cL_law 252 = .ok (.goto 4, 3) := by decide +kernel
theorem dL_law_255 : decode cL_law 255 = .ok (.iconst 0, 1) := by decide +kernel
theorem dL_law_256 : decode cL_law 256 = .ok (.istore_n 3, 1) := by decide +kernel
theorem dL_law_257 : decode cL_law 257 = .ok (.iload_n 3, 1) := by decide +kernel
theorem dL_law_258 : decode cL_law 258 = .ok (.ifCond .eq 29, 3) := by decide +kernel
theorem dL_law_261 : decode cL_law 261 = .ok (.aload_n 1, 1) := by decide +kernel
theorem dL_law_262 : decode cL_law 262 = .ok (.aload_n 2, 1) := by decide +kernel
theorem dL_law_263 : decode cL_law 263 = .ok (.invokestatic 271, 3) := by decide +kernel
theorem dL_law_266 : decode cL_law 266 = .ok (.ifCond .eq 21, 3) := by decide +kernel
theorem dL_law_269 : decode cL_law 269 = .ok (.aload_n 1, 1) := by decide +kernel
theorem dL_law_270 : decode cL_law 270 = .ok (.invokestatic 275, 3) := by decide +kernel
theorem dL_law_273 : decode cL_law 273 = .ok (.ifCond .eq 14, 3) := by decide +kernel
theorem dL_law_276 : decode cL_law 276 = .ok (.aload_n 1, 1) := by decide +kernel
theorem dL_law_277 : decode cL_law 277 = .ok (.invokestatic 279, 3) := by decide +kernel
theorem dL_law_280 : decode cL_law 280 = .ok (.ifCond .eq 7, 3) := by decide +kernel
theorem dL_law_283 : decode cL_law 283 = .ok (.iconst 1, 1) := by decide +kernel
theorem dL_law_284 : decode cL_law 284 = .ok (.goto 4, 3) := by decide +kernel
theorem dL_law_287 : decode cL_law 287 = .ok (.iconst 0, 1) := by decide +kernel
theorem dL_law_288 : decode cL_law 288 = .ok (.istore_n 3, 1) := by decide +kernel
theorem dL_law_289 : decode cL_law 289 = .ok (.iload_n 3, 1) := by decide +kernel
theorem dL_law_290 : decode cL_law 290 = .ok (.ifCond .eq 35, 3) := by decide +kernel
theorem dL_law_293 : decode cL_law 293 = .ok (.aload_n 2, 1) := by decide +kernel
theorem dL_law_294 : decode cL_law 294 = .ok (.invokestatic 81, 3) := by decide +kernel
theorem dL_law_297 : decode cL_law 297 = .ok (.iconst 4, 1) := by decide +kernel
theorem dL_law_298 : decode cL_law 298 = .ok (.irem, 1) := by decide +kernel
theorem dL_law_299 : decode cL_law 299 = .ok (.ifCond .ne 26, 3) := by decide +kernel
theorem dL_law_302 : decode cL_law 302 = .ok (.aload_n 1, 1) := by decide +kernel
theorem dL_law_303 : decode cL_law 303 = .ok (.invokestatic 282, 3) := by decide +kernel
theorem dL_law_306 : decode cL_law 306 = .ok (.ifCond .lt 17, 3) := by decide +kernel
theorem dL_law_309 : decode cL_law 309 = .ok (.aload_n 1, 1) := by decide +kernel
theorem dL_law_310 : decode cL_law 310 = .ok (.invokestatic 267, 3) := by decide +kernel
theorem dL_law_313 : decode cL_law 313 = .ok (.lload 9, 2) := by decide +kernel
theorem dL_law_315 : decode cL_law 315 = .ok (.lcmp, 1) := by decide +kernel
theorem dL_law_316 : decode cL_law 316 = .ok (.ifCond .ne 7, 3) := by decide +kernel
theorem dL_law_319 : decode cL_law 319 = .ok (.iconst 1, 1) := by decide +kernel
theorem dL_law_320 : decode cL_law 320 = .ok (.goto 4, 3) := by decide +kernel
theorem dL_law_323 : decode cL_law 323 = .ok (.iconst 0, 1) := by decide +kernel
theorem dL_law_324 : decode cL_law 324 = .ok (.istore_n 3, 1) := by decide +kernel
theorem dL_law_325 : decode cL_law 325 = .ok (.iinc 8 1, 3) := by decide +kernel
theorem dL_law_328 : decode cL_law 328 = .ok (.goto (-215), 3) := by decide +kernel
theorem dL_law_331 : decode cL_law 331 = .ok (.iload_n 3, 1) := by decide +kernel
theorem dL_law_332 : decode cL_law 332 = .ok (.ifCond .eq 37, 3) := by decide +kernel
theorem dL_law_335 : decode cL_law 335 = .ok (.aload_n 2, 1) := by decide +kernel
theorem dL_law_336 : decode cL_law 336 = .ok (.invokestatic 81, 3) := by decide +kernel
theorem dL_law_339 : decode cL_law 339 = .ok (.iconst 2, 1) := by decide +kernel
theorem dL_law_340 : decode cL_law 340 = .ok (.irem, 1) := by decide +kernel
theorem dL_law_341 : decode cL_law 341 = .ok (.ifCond .ne 28, 3) := by decide +kernel
theorem dL_law_344 : decode cL_law 344 = .ok (.aload_n 1, 1) := by decide +kernel
theorem dL_law_345 : decode cL_law 345 = .ok (.iload 4, 2) := by decide +kernel
theorem dL_law_347 : decode cL_law 347 = .ok (.invokevirtual 286, 3) := by decide +kernel
theorem dL_law_350 : decode cL_law 350 = .ok (.ifCond .ne 17, 3) := by decide +kernel
theorem dL_law_353 : decode cL_law 353 = .ok (.aload_n 1, 1) := by decide +kernel
theorem dL_law_354 : decode cL_law 354 = .ok (.invokestatic 267, 3) := by decide +kernel
theorem dL_law_357 : decode cL_law 357 = .ok (.lload 6, 2) := by decide +kernel
theorem dL_law_359 : decode cL_law 359 = .ok (.lcmp, 1) := by decide +kernel
theorem dL_law_360 : decode cL_law 360 = .ok (.ifCond .ne 7, 3) := by decide +kernel
theorem dL_law_363 : decode cL_law 363 = .ok (.iconst 1, 1) := by decide +kernel
theorem dL_law_364 : decode cL_law 364 = .ok (.goto 4, 3) := by decide +kernel
theorem dL_law_367 : decode cL_law 367 = .ok (.iconst 0, 1) := by decide +kernel
theorem dL_law_368 : decode cL_law 368 = .ok (.istore_n 3, 1) := by decide +kernel
theorem dL_law_369 : decode cL_law 369 = .ok (.iinc 4 1, 3) := by decide +kernel
theorem dL_law_372 : decode cL_law 372 = .ok (.goto (-338), 3) := by decide +kernel
theorem dL_law_375 : decode cL_law 375 = .ok (.iload_n 3, 1) := by decide +kernel
theorem dL_law_376 : decode cL_law 376 = .ok (.ireturn, 1) := by decide +kernel
