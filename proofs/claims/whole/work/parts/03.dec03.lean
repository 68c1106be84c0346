theorem dX11_reads_67 : decode cX11_reads 67 = .ok (.if_icmp .ne 9, 3) := by decide +kernel
theorem dX11_reads_70 : decode cX11_reads 70 = .ok (.aload_n 0, 1) := by decide +kernel
theorem dX11_reads_71 : decode cX11_reads 71 = .ok (.iconst 5, 1) := by decide +kernel
theorem dX11_reads_72 : decode cX11_reads 72 = .ok (.invokevirtual 256, 3) := by decide +kernel
theorem dX11_reads_75 : decode cX11_reads 75 = .ok (.ireturn, 1) := by decide +kernel
theorem dX11_reads_76 : decode cX11_reads 76 = .ok (.iload 4, 2) := by decide +kernel
theorem dX11_reads_78 : decode cX11_reads 78 = .ok (.ifCond .ne 8, 3) := by decide +kernel
theorem dX11_reads_81 : decode cX11_reads 81 = .ok (.iload 5, 2) := by decide +kernel
theorem dX11_reads_83 : decode cX11_reads 83 = .ok (.ifCond .eq 48, 3) := by decide +kernel
theorem dX11_reads_86 : decode cX11_reads 86 = .ok (.aload_n 0, 1) := by decide +kernel
theorem dX11_reads_87 : decode cX11_reads 87 = .ok (.iload 4, 2) := by decide +kernel
theorem dX11_reads_89 : decode cX11_reads 89 = .ok (.ifCond .eq 8, 3) := by decide +kernel
theorem dX11_reads_92 : decode cX11_reads 92 = .ok (.bipush 30, 2) := by decide +kernel
theorem dX11_reads_94 : decode cX11_reads 94 = .ok (.goto 5, 3) := by decide +kernel
theorem dX11_reads_97 : decode cX11_reads 97 = .ok (.bipush 28, 2) := by decide +kernel
theorem dX11_reads_99 : decode cX11_reads 99 = .ok (.invokevirtual 259, 3) := by decide +kernel
theorem dX11_reads_102 : decode cX11_reads 102 = .ok (.iinc 1 1, 3) := by decide +kernel
theorem dX11_reads_105 : decode cX11_reads 105 = .ok (.aload_n 0, 1) := by decide +kernel
theorem dX11_reads_106 : decode cX11_reads 106 = .ok (.getfield 59, 3) := by decide +kernel
theorem dX11_reads_109 : decode cX11_reads 109 = .ok (.iload_n 1, 1) := by decide +kernel
theorem dX11_reads_110 : decode cX11_reads 110 = .ok (.iload 4, 2) := by decide +kernel
theorem dX11_reads_112 : decode cX11_reads 112 = .ok (.ifCond .eq 7, 3) := by decide +kernel
theorem dX11_reads_115 : decode cX11_reads 115 = .ok (.iconst 1, 1) := by decide +kernel
theorem dX11_reads_116 : decode cX11_reads 116 = .ok (.goto 4, 3) := by decide +kernel
theorem dX11_reads_119 : decode cX11_reads 119 = .ok (.iconst 2, 1) := by decide +kernel
theorem dX11_reads_120 : decode cX11_reads 120 = .ok (.iastore, 1) := by decide +kernel
theorem dX11_reads_121 : decode cX11_reads 121 = .ok (.aload_n 0, 1) := by decide +kernel
theorem dX11_reads_122 : decode cX11_reads 122 = .ok (.getfield 62, 3) := by decide +kernel
theorem dX11_reads_125 : decode cX11_reads 125 = .ok (.iload_n 1, 1) := by decide +kernel
theorem dX11_reads_126 : decode cX11_reads 126 = .ok (.iconst 0, 1) := by decide +kernel
theorem dX11_reads_127 : decode cX11_reads 127 = .ok (.bastore, 1) := by decide +kernel
theorem dX11_reads_128 : decode cX11_reads 128 = .ok (.goto 44, 3) := by decide +kernel
theorem dX11_reads_131 : decode cX11_reads 131 = .ok (.aload_n 0, 1) := by decide +kernel
theorem dX11_reads_132 : decode cX11_reads 132 = .ok (.iload_n 3, 1) := by decide +kernel
theorem dX11_reads_133 : decode cX11_reads 133 = .ok (.ifCond .le 7, 3) := by decide +kernel
theorem dX11_reads_136 : decode cX11_reads 136 = .ok (.iload_n 3, 1) := by decide +kernel
theorem dX11_reads_137 : decode cX11_reads 137 = .ok (.goto 10, 3) := by decide +kernel
theorem dX11_reads_140 : decode cX11_reads 140 = .ok (.bipush 100, 2) := by decide +kernel
theorem dX11_reads_142 : decode cX11_reads 142 = .ok (.aload_n 0, 1) := by decide +kernel
theorem dX11_reads_143 : decode cX11_reads 143 = .ok (.getfield 209, 3) := by decide +kernel
theorem dX11_reads_146 : decode cX11_reads 146 = .ok (.iadd, 1) := by decide +kernel
theorem dX11_reads_147 : decode cX11_reads 147 = .ok (.invokevirtual 259, 3) := by decide +kernel
theorem dX11_reads_150 : decode cX11_reads 150 = .ok (.iconst 0, 1) := by decide +kernel
theorem dX11_reads_151 : decode cX11_reads 151 = .ok (.istore_n 2, 1) := by decide +kernel
theorem dX11_reads_152 : decode cX11_reads 152 = .ok (.iload_n 1, 1) := by decide +kernel
theorem dX11_reads_153 : decode cX11_reads 153 = .ok (.ifCond .le 19, 3) := by decide +kernel
theorem dX11_reads_156 : decode cX11_reads 156 = .ok (.aload_n 0, 1) := by decide +kernel
theorem dX11_reads_157 : decode cX11_reads 157 = .ok (.getfield 59, 3) := by decide +kernel
theorem dX11_reads_160 : decode cX11_reads 160 = .ok (.iload_n 1, 1) := by decide +kernel
theorem dX11_reads_161 : decode cX11_reads 161 = .ok (.iaload, 1) := by decide +kernel
theorem dX11_reads_162 : decode cX11_reads 162 = .ok (.iconst 1, 1) := by decide +kernel
theorem dX11_reads_163 : decode cX11_reads 163 = .ok (.if_icmp .ne 9, 3) := by decide +kernel
theorem dX11_reads_166 : decode cX11_reads 166 = .ok (.iinc 1 (-1), 3) := by decide +kernel
theorem dX11_reads_169 : decode cX11_reads 169 = .ok (.goto (-17), 3) := by decide +kernel
theorem dX11_reads_172 : decode cX11_reads 172 = .ok (.aload_n 0, 1) := by decide +kernel
theorem dX11_reads_173 : decode cX11_reads 173 = .ok (.invokevirtual 262, 3) := by decide +kernel
theorem dX11_reads_176 : decode cX11_reads 176 = .ok (.goto (-165), 3) := by decide +kernel
theorem dX11_reads_179 : decode cX11_reads 179 = .ok (.aload_n 0, 1) := by decide +kernel
theorem dX11_reads_180 : decode cX11_reads 180 = .ok (.bipush 43, 2) := by decide +kernel
theorem dX11_reads_182 : decode cX11_reads 182 = .ok (.invokevirtual 252, 3) := by decide +kernel
theorem dX11_reads_185 : decode cX11_reads 185 = .ok (.ifCond .ne 21, 3) := by decide +kernel
theorem dX11_reads_188 : decode cX11_reads 188 = .ok (.aload_n 0, 1) := by decide +kernel
theorem dX11_reads_189 : decode cX11_reads 189 = .ok (.bipush 45, 2) := by decide +kernel
theorem dX11_reads_191 : decode cX11_reads 191 = .ok (.invokevirtual 252, 3) := by decide +kernel
theorem dX11_reads_194 : decode cX11_reads 194 = .ok (.ifCond .ne 12, 3) := by decide +kernel
theorem dX11_reads_197 : decode cX11_reads 197 = .ok (.aload_n 0, 1) := by decide +kernel
theorem dX11_reads_198 : decode cX11_reads 198 = .ok (.bipush 42, 2) := by decide +kernel
theorem dX11_reads_200 : decode cX11_reads 200 = .ok (.invokevirtual 252, 3) := by decide +kernel
theorem dX11_reads_203 : decode cX11_reads 203 = .ok (.ifCond .eq 42, 3) := by decide +kernel
theorem dX11_reads_206 : decode cX11_reads 206 = .ok (.aload_n 0, 1) := by decide +kernel
theorem dX11_reads_207 : decode cX11_reads 207 = .ok (.aload_n 0, 1) := by decide +kernel
theorem dX11_reads_208 : decode cX11_reads 208 = .ok (.bipush 43, 2) := by decide +kernel
theorem dX11_reads_210 : decode cX11_reads 210 = .ok (.invokevirtual 252, 3) := by decide +kernel
theorem dX11_reads_213 : decode cX11_reads 213 = .ok (.ifCond .eq 8, 3) := by decide +kernel
theorem dX11_reads_216 : decode cX11_reads 216 = .ok (.bipush 20, 2) := by decide +kernel
theorem dX11_reads_218 : decode cX11_reads 218 = .ok (.goto 19, 3) := by decide +kernel
theorem dX11_reads_221 : decode cX11_reads 221 = .ok (.aload_n 0, 1) := by decide +kernel
theorem dX11_reads_222 : decode cX11_reads 222 = .ok (.bipush 45, 2) := by decide +kernel
theorem dX11_reads_224 : decode cX11_reads 224 = .ok (.invokevirtual 252, 3) := by decide +kernel
theorem dX11_reads_227 : decode cX11_reads 227 = .ok (.ifCond .eq 8, 3) := by decide +kernel
theorem dX11_reads_230 : decode cX11_reads 230 = .ok (.bipush 21, 2) := by decide +kernel
theorem dX11_reads_232 : decode cX11_reads 232 = .ok (.goto 5, 3) := by decide +kernel
theorem dX11_reads_235 : decode cX11_reads 235 = .ok (.bipush 22, 2) := by decide +kernel
theorem dX11_reads_237 : decode cX11_reads 237 = .ok (.invokevirtual 259, 3) := by decide +kernel
theorem dX11_reads_240 : decode cX11_reads 240 = .ok (.iconst 1, 1) := by decide +kernel
theorem dX11_reads_241 : decode cX11_reads 241 = .ok (.istore_n 2, 1) := by decide +kernel
theorem dX11_reads_242 : decode cX11_reads 242 = .ok (.goto 182, 3) := by decide +kernel
theorem dX11_reads_245 : decode cX11_reads 245 = .ok (.aload_n 0, 1) := by decide +kernel
theorem dX11_reads_246 : decode cX11_reads 246 = .ok (.bipush 60, 2) := by decide +kernel
theorem dX11_reads_248 : decode cX11_reads 248 = .ok (.invokevirtual 252, 3) := by decide +kernel
theorem dX11_reads_251 : decode cX11_reads 251 = .ok (.ifCond .ne 12, 3) := by decide +kernel
theorem dX11_reads_254 : decode cX11_reads 254 = .ok (.aload_n 0, 1) := by decide +kernel
theorem dX11_reads_255 : decode cX11_reads 255 = .ok (.bipush 61, 2) := by decide +kernel
theorem dX11_reads_257 : decode cX11_reads 257 = .ok (.invokevirtual 252, 3) := by decide +kernel
theorem dX11_reads_260 : decode cX11_reads 260 = .ok (.ifCond .eq 44, 3) := by decide +kernel
theorem dX11_reads_263 : decode cX11_reads 263 = .ok (.aload_n 0, 1) := by decide +kernel
theorem dX11_reads_264 : decode cX11_reads 264 = .ok (.getfield 62, 3) := by decide +kernel
theorem dX11_reads_267 : decode cX11_reads 267 = .ok (.iload_n 1, 1) := by decide +kernel
theorem dX11_reads_268 : decode cX11_reads 268 = .ok (.baload, 1) := by decide +kernel
theorem dX11_reads_269 : decode cX11_reads 269 = .ok (.ifCond .ne 35, 3) := by decide +kernel
theorem dX11_reads_272 : decode cX11_reads 272 = .ok (.aload_n 0, 1) := by decide +kernel
theorem dX11_reads_273 : decode cX11_reads 273 = .ok (.aload_n 0, 1) := by decide +kernel
theorem dX11_reads_274 : decode cX11_reads 274 = .ok (.bipush 60, 2) := by decide +kernel
theorem dX11_reads_276 : decode cX11_reads 276 = .ok (.invokevirtual 252, 3) := by decide +kernel
theorem dX11_reads_279 : decode cX11_reads 279 = .ok (.ifCond .eq 8, 3) := by decide +kernel
theorem dX11_reads_282 : decode cX11_reads 282 = .ok (.bipush 24, 2) := by decide +kernel
theorem dX11_reads_284 : decode cX11_reads 284 = .ok (.goto 5, 3) := by decide +kernel
theorem dX11_reads_287 : decode cX11_reads 287 = .ok (.bipush 25, 2) := by decide +kernel
theorem dX11_reads_289 : decode cX11_reads 289 = .ok (.invokevirtual 259, 3) := by decide +kernel
theorem dX11_reads_292 : decode cX11_reads 292 = .ok (.aload_n 0, 1) := by decide +kernel
theorem dX11_reads_293 : decode cX11_reads 293 = .ok (.getfield 62, 3) := by decide +kernel
theorem dX11_reads_296 : decode cX11_reads 296 = .ok (.iload_n 1, 1) := by decide +kernel
theorem dX11_reads_297 : decode cX11_reads 297 = .ok (.iconst 1, 1) := by decide +kernel
theorem dX11_reads_298 : decode cX11_reads 298 = .ok (.bastore, 1) := by decide +kernel
theorem dX11_reads_299 : decode cX11_reads 299 = .ok (.iconst 1, 1) := by decide +kernel
theorem dX11_reads_300 : decode cX11_reads 300 = .ok (.istore_n 2, 1) := by decide +kernel
theorem dX11_reads_301 : decode cX11_reads 301 = .ok (.goto 123, 3) := by decide +kernel
theorem dX11_reads_304 : decode cX11_reads 304 = .ok (.aload_n 0, 1) := by decide +kernel
theorem dX11_reads_305 : decode cX11_reads 305 = .ok (.ldc2_w 265, 3) := by decide +kernel
theorem dX11_reads_308 : decode cX11_reads 308 = .ok (.invokevirtual 248, 3) := by decide +kernel
theorem dX11_reads_311 : decode cX11_reads 311 = .ok (.ifCond .ne 13, 3) := by decide +kernel
theorem dX11_reads_314 : decode cX11_reads 314 = .ok (.aload_n 0, 1) := by decide +kernel
theorem dX11_reads_315 : decode cX11_reads 315 = .ok (.ldc2_w 267, 3) := by decide +kernel
theorem dX11_reads_318 : decode cX11_reads 318 = .ok (.invokevirtual 248, 3) := by decide +kernel
theorem dX11_reads_321 : decode cX11_reads 321 = .ok (.ifCond .eq 36, 3) := by decide +kernel
theorem dX11_reads_324 : decode cX11_reads 324 = .ok (.aload_n 0, 1) := by decide +kernel
theorem dX11_reads_325 : decode cX11_reads 325 = .ok (.aload_n 0, 1) := by decide +kernel
theorem dX11_reads_326 : decode cX11_reads 326 = .ok (.ldc2_w 265, 3) := by decide +kernel
theorem dX11_reads_329 : decode cX11_reads 329 = .ok (.invokevirtual 248, 3) := by decide +kernel
theorem dX11_reads_332 : decode cX11_reads 332 = .ok (.ifCond .eq 8, 3) := by decide +kernel
theorem dX11_reads_335 : decode cX11_reads 335 = .ok (.bipush 26, 2) := by decide +kernel
theorem dX11_reads_337 : decode cX11_reads 337 = .ok (.goto 5, 3) := by decide +kernel
theorem dX11_reads_340 : decode cX11_reads 340 = .ok (.bipush 27, 2) := by decide +kernel
theorem dX11_reads_342 : decode cX11_reads 342 = .ok (.invokevirtual 259, 3) := by decide +kernel
theorem dX11_reads_345 : decode cX11_reads 345 = .ok (.aload_n 0, 1) := by decide +kernel
theorem dX11_reads_346 : decode cX11_reads 346 = .ok (.getfield 62, 3) := by decide +kernel
theorem dX11_reads_349 : decode cX11_reads 349 = .ok (.iload_n 1, 1) := by decide +kernel
theorem dX11_reads_350 : decode cX11_reads 350 = .ok (.iconst 0, 1) := by decide +kernel
theorem dX11_reads_351 : decode cX11_reads 351 = .ok (.bastore, 1) := by decide +kernel
theorem dX11_reads_352 : decode cX11_reads 352 = .ok (.iconst 1, 1) := by decide +kernel
theorem dX11_reads_353 : decode cX11_reads 353 = .ok (.istore_n 2, 1) := by decide +kernel
theorem dX11_reads_354 : decode cX11_reads 354 = .ok (.goto 70, 3) := by decide +kernel
theorem dX11_reads_357 : decode cX11_reads 357 = .ok (.aload_n 0, 1) := by decide +kernel
theorem dX11_reads_358 : decode cX11_reads 358 = .ok (.bipush 41, 2) := by decide +kernel
theorem dX11_reads_360 : decode cX11_reads 360 = .ok (.invokevirtual 252, 3) := by decide +kernel
theorem dX11_reads_363 : decode cX11_reads 363 = .ok (.ifCond .eq 36, 3) := by decide +kernel
theorem dX11_reads_366 : decode cX11_reads 366 = .ok (.iload_n 1, 1) := by decide +kernel
theorem dX11_reads_367 : decode cX11_reads 367 = .ok (.ifCond .le 32, 3) := by decide +kernel
theorem dX11_reads_370 : decode cX11_reads 370 = .ok (.aload_n 0, 1) := by decide +kernel
theorem dX11_reads_371 : decode cX11_reads 371 = .ok (.bipush 29, 2) := by decide +kernel
theorem dX11_reads_373 : decode cX11_reads 373 = .ok (.invokevirtual 259, 3) := by decide +kernel
theorem dX11_reads_376 : decode cX11_reads 376 = .ok (.iinc 1 (-1), 3) := by decide +kernel
theorem dX11_reads_379 : decode cX11_reads 379 = .ok (.iload_n 1, 1) := by decide +kernel
theorem dX11_reads_380 : decode cX11_reads 380 = .ok (.ifCond .le 44, 3) := by decide +kernel
theorem dX11_reads_383 : decode cX11_reads 383 = .ok (.aload_n 0, 1) := by decide +kernel
theorem dX11_reads_384 : decode cX11_reads 384 = .ok (.getfield 59, 3) := by decide +kernel
theorem dX11_reads_387 : decode cX11_reads 387 = .ok (.iload_n 1, 1) := by decide +kernel
theorem dX11_reads_388 : decode cX11_reads 388 = .ok (.iaload, 1) := by decide +kernel
theorem dX11_reads_389 : decode cX11_reads 389 = .ok (.iconst 1, 1) := by decide +kernel
theorem dX11_reads_390 : decode cX11_reads 390 = .ok (.if_icmp .ne 34, 3) := by decide +kernel
theorem dX11_reads_393 : decode cX11_reads 393 = .ok (.iinc 1 (-1), 3) := by decide +kernel
theorem dX11_reads_396 : decode cX11_reads 396 = .ok (.goto (-17), 3) := by decide +kernel
theorem dX11_reads_399 : decode cX11_reads 399 = .ok (.iload_n 1, 1) := by decide +kernel
theorem dX11_reads_400 : decode cX11_reads 400 = .ok (.ifCond .ne 18, 3) := by decide +kernel
theorem dX11_reads_403 : decode cX11_reads 403 = .ok (.aload_n 0, 1) := by decide +kernel
theorem dX11_reads_404 : decode cX11_reads 404 = .ok (.bipush 59, 2) := by decide +kernel
theorem dX11_reads_406 : decode cX11_reads 406 = .ok (.invokevirtual 252, 3) := by decide +kernel
theorem dX11_reads_409 : decode cX11_reads 409 = .ok (.ifCond .eq 9, 3) := by decide +kernel
theorem dX11_reads_412 : decode cX11_reads 412 = .ok (.aload_n 0, 1) := by decide +kernel
theorem dX11_reads_413 : decode cX11_reads 413 = .ok (.invokevirtual 262, 3) := by decide +kernel
theorem dX11_reads_416 : decode cX11_reads 416 = .ok (.iconst 1, 1) := by decide +kernel
theorem dX11_reads_417 : decode cX11_reads 417 = .ok (.ireturn, 1) := by decide +kernel
theorem dX11_reads_418 : decode cX11_reads 418 = .ok (.aload_n 0, 1) := by decide +kernel
theorem dX11_reads_419 : decode cX11_reads 419 = .ok (.iconst 1, 1) := by decide +kernel
theorem dX11_reads_420 : decode cX11_reads 420 = .ok (.invokevirtual 256, 3) := by decide +kernel
theorem dX11_reads_423 : decode cX11_reads 423 = .ok (.ireturn, 1) := by decide +kernel
theorem dX11_reads_424 : decode cX11_reads 424 = .ok (.aload_n 0, 1) := by decide +kernel
theorem dX11_reads_425 : decode cX11_reads 425 = .ok (.invokevirtual 262, 3) := by decide +kernel
theorem dX11_reads_428 : decode cX11_reads 428 = .ok (.goto (-417), 3) := by decide +kernel
theorem dX11_opens_0 : decode cX11_opens 0 = .ok (.aload_n 0, 1) := by decide +kernel
theorem dX11_opens_1 : decode cX11_opens 1 = .ok (.getfield 69, 3) := by decide +kernel
theorem dX11_opens_4 : decode cX11_opens 4 = .ok (.iload_n 1, 1) := by decide +kernel
theorem dX11_opens_5 : decode cX11_opens 5 = .ok (.iconst 0, 1) := by decide +kernel
theorem dX11_opens_6 : decode cX11_opens 6 = .ok (.iastore, 1) := by decide +kernel
theorem dX11_opens_7 : decode cX11_opens 7 = .ok (.aload_n 0, 1) := by decide +kernel
theorem dX11_opens_8 : decode cX11_opens 8 = .ok (.getfield 75, 3) := by decide +kernel
theorem dX11_opens_11 : decode cX11_opens 11 = .ok (.iload_n 1, 1) := by decide +kernel
theorem dX11_opens_12 : decode cX11_opens 12 = .ok (.iconst 0, 1) := by decide +kernel
theorem dX11_opens_13 : decode cX11_opens 13 = .ok (.iastore, 1) := by decide +kernel
theorem dX11_opens_14 : decode cX11_opens 14 = .ok (.aload_n 0, 1) := by decide +kernel
theorem dX11_opens_15 : decode cX11_opens 15 = .ok (.getfield 78, 3) := by decide +kernel
theorem dX11_opens_18 : decode cX11_opens 18 = .ok (.iload_n 1, 1) := by decide +kernel
theorem dX11_opens_19 : decode cX11_opens 19 = .ok (.iconst 0, 1) := by decide +kernel
theorem dX11_opens_20 : decode cX11_opens 20 = .ok (.iastore, 1) := by decide +kernel
theorem dX11_opens_21 : decode cX11_opens 21 = .ok (.aload_n 0, 1) := by decide +kernel
theorem dX11_opens_22 : decode cX11_opens 22 = .ok (.getfield 81, 3) := by decide +kernel
theorem dX11_opens_25 : decode cX11_opens 25 = .ok (.iload_n 1, 1) := by decide +kernel
theorem dX11_opens_26 : decode cX11_opens 26 = .ok (.bipush 20, 2) := by decide +kernel
theorem dX11_opens_28 : decode cX11_opens 28 = .ok (.iastore, 1) := by decide +kernel
theorem dX11_opens_29 : decode cX11_opens 29 = .ok (.aload_n 0, 1) := by decide +kernel
theorem dX11_opens_30 : decode cX11_opens 30 = .ok (.getfield 87, 3) := by decide +kernel
theorem dX11_opens_33 : decode cX11_opens 33 = .ok (.iload_n 1, 1) := by decide +kernel
theorem dX11_opens_34 : decode cX11_opens 34 = .ok (.iconst 0, 1) := by decide +kernel
theorem dX11_opens_35 : decode cX11_opens 35 = .ok (.iastore, 1) := by decide +kernel
theorem dX11_opens_36 : decode cX11_opens 36 = .ok (.return_, 1) := by decide +kernel
theorem dX11_sums_0 : decode cX11_sums 0 = .ok (.aload_n 0, 1) := by decide +kernel
theorem dX11_sums_1 : decode cX11_sums 1 = .ok (.getfield 78, 3) := by decide +kernel
theorem dX11_sums_4 : decode cX11_sums 4 = .ok (.iload_n 1, 1) := by decide +kernel
theorem dX11_sums_5 : decode cX11_sums 5 = .ok (.aload_n 0, 1) := by decide +kernel
theorem dX11_sums_6 : decode cX11_sums 6 = .ok (.getfield 81, 3) := by decide +kernel
theorem dX11_sums_9 : decode cX11_sums 9 = .ok (.iload_n 1, 1) := by decide +kernel
theorem dX11_sums_10 : decode cX11_sums 10 = .ok (.iaload, 1) := by decide +kernel
theorem dX11_sums_11 : decode cX11_sums 11 = .ok (.bipush 21, 2) := by decide +kernel
theorem dX11_sums_13 : decode cX11_sums 13 = .ok (.if_icmp .ne 19, 3) := by decide +kernel
theorem dX11_sums_16 : decode cX11_sums 16 = .ok (.aload_n 0, 1) := by decide +kernel
theorem dX11_sums_17 : decode cX11_sums 17 = .ok (.getfield 78, 3) := by decide +kernel
theorem dX11_sums_20 : decode cX11_sums 20 = .ok (.iload_n 1, 1) := by decide +kernel
theorem dX11_sums_21 : decode cX11_sums 21 = .ok (.iaload, 1) := by decide +kernel
theorem dX11_sums_22 : decode cX11_sums 22 = .ok (.aload_n 0, 1) := by decide +kernel
theorem dX11_sums_23 : decode cX11_sums 23 = .ok (.getfield 84, 3) := by decide +kernel
theorem dX11_sums_26 : decode cX11_sums 26 = .ok (.iload_n 1, 1) := by decide +kernel
theorem dX11_sums_27 : decode cX11_sums 27 = .ok (.iaload, 1) := by decide +kernel
theorem dX11_sums_28 : decode cX11_sums 28 = .ok (.isub, 1) := by decide +kernel
theorem dX11_sums_29 : decode cX11_sums 29 = .ok (.goto 16, 3) := by decide +kernel
theorem dX11_sums_32 : decode cX11_sums 32 = .ok (.aload_n 0, 1) := by decide +kernel
theorem dX11_sums_33 : decode cX11_sums 33 = .ok (.getfield 78, 3) := by decide +kernel
theorem dX11_sums_36 : decode cX11_sums 36 = .ok (.iload_n 1, 1) := by decide +kernel
theorem dX11_sums_37 : decode cX11_sums 37 = .ok (.iaload, 1) := by decide +kernel
theorem dX11_sums_38 : decode cX11_sums 38 = .ok (.aload_n 0, 1) := by decide +kernel
theorem dX11_sums_39 : decode cX11_sums 39 = .ok (.getfield 84, 3) := by decide +kernel
theorem dX11_sums_42 : decode cX11_sums 42 = .ok (.iload_n 1, 1) := by decide +kernel
theorem dX11_sums_43 : decode cX11_sums 43 = .ok (.iaload, 1) := by decide +kernel
theorem dX11_sums_44 : decode cX11_sums 44 = .ok (.iadd, 1) := by decide +kernel
theorem dX11_sums_45 : decode cX11_sums 45 = .ok (.iastore, 1) := by decide +kernel
theorem dX11_sums_46 : decode cX11_sums 46 = .ok (.aload_n 0, 1) := by decide +kernel
theorem dX11_sums_47 : decode cX11_sums 47 = .ok (.getfield 87, 3) := by decide +kernel
theorem dX11_sums_50 : decode cX11_sums 50 = .ok (.iload_n 1, 1) := by decide +kernel
theorem dX11_sums_51 : decode cX11_sums 51 = .ok (.iconst 0, 1) := by decide +kernel
theorem dX11_sums_52 : decode cX11_sums 52 = .ok (.iastore, 1) := by decide +kernel
theorem dX11_sums_53 : decode cX11_sums 53 = .ok (.return_, 1) := by decide +kernel
theorem dX11_tests_0 : decode cX11_tests 0 = .ok (.aload_n 0, 1) := by decide +kernel
theorem dX11_tests_1 : decode cX11_tests 1 = .ok (.iload_n 1, 1) := by decide +kernel
theorem dX11_tests_2 : decode cX11_tests 2 = .ok (.invokevirtual 269, 3) := by decide +kernel
theorem dX11_tests_5 : decode cX11_tests 5 = .ok (.aload_n 0, 1) := by decide +kernel
theorem dX11_tests_6 : decode cX11_tests 6 = .ok (.getfield 78, 3) := by decide +kernel
theorem dX11_tests_9 : decode cX11_tests 9 = .ok (.iload_n 1, 1) := by decide +kernel
theorem dX11_tests_10 : decode cX11_tests 10 = .ok (.iaload, 1) := by decide +kernel
theorem dX11_tests_11 : decode cX11_tests 11 = .ok (.istore_n 2, 1) := by decide +kernel
theorem dX11_tests_12 : decode cX11_tests 12 = .ok (.aload_n 0, 1) := by decide +kernel
theorem dX11_tests_13 : decode cX11_tests 13 = .ok (.getfield 75, 3) := by decide +kernel
theorem dX11_tests_16 : decode cX11_tests 16 = .ok (.iload_n 1, 1) := by decide +kernel
theorem dX11_tests_17 : decode cX11_tests 17 = .ok (.iaload, 1) := by decide +kernel
theorem dX11_tests_18 : decode cX11_tests 18 = .ok (.bipush 24, 2) := by decide +kernel
theorem dX11_tests_20 : decode cX11_tests 20 = .ok (.if_icmp .ne 24, 3) := by decide +kernel
theorem dX11_tests_23 : decode cX11_tests 23 = .ok (.aload_n 0, 1) := by decide +kernel
theorem dX11_tests_24 : decode cX11_tests 24 = .ok (.getfield 72, 3) := by decide +kernel
theorem dX11_tests_27 : decode cX11_tests 27 = .ok (.iload_n 1, 1) := by decide +kernel
theorem dX11_tests_28 : decode cX11_tests 28 = .ok (.iaload, 1) := by decide +kernel
theorem dX11_tests_29 : decode cX11_tests 29 = .ok (.aload_n 0, 1) := by decide +kernel
theorem dX11_tests_30 : decode cX11_tests 30 = .ok (.getfield 78, 3) := by decide +kernel
theorem dX11_tests_33 : decode cX11_tests 33 = .ok (.iload_n 1, 1) := by decide +kernel
theorem dX11_tests_34 : decode cX11_tests 34 = .ok (.iaload, 1) := by decide +kernel
theorem dX11_tests_35 : decode cX11_tests 35 = .ok (.if_icmp .ge 7, 3) := by decide +kernel
theorem dX11_tests_38 : decode cX11_tests 38 = .ok (.iconst 1, 1) := by decide +kernel
theorem dX11_tests_39 : decode cX11_tests 39 = .ok (.goto 4, 3) := by decide +kernel
theorem dX11_tests_42 : decode cX11_tests 42 = .ok (.iconst 0, 1) := by decide +kernel
theorem dX11_tests_43 : decode cX11_tests 43 = .ok (.istore_n 2, 1) := by decide +kernel
theorem dX11_tests_44 : decode cX11_tests 44 = .ok (.aload_n 0, 1) := by decide +kernel
theorem dX11_tests_45 : decode cX11_tests 45 = .ok (.getfield 75, 3) := by decide +kernel
theorem dX11_tests_48 : decode cX11_tests 48 = .ok (.iload_n 1, 1) := by decide +kernel
theorem dX11_tests_49 : decode cX11_tests 49 = .ok (.iaload, 1) := by decide +kernel
theorem dX11_tests_50 : decode cX11_tests 50 = .ok (.bipush 25, 2) := by decide +kernel
theorem dX11_tests_52 : decode cX11_tests 52 = .ok (.if_icmp .ne 24, 3) := by decide +kernel
theorem dX11_tests_55 : decode cX11_tests 55 = .ok (.aload_n 0, 1) := by decide +kernel
theorem dX11_tests_56 : decode cX11_tests 56 = .ok (.getfield 72, 3) := by decide +kernel
theorem dX11_tests_59 : decode cX11_tests 59 = .ok (.iload_n 1, 1) := by decide +kernel
theorem dX11_tests_60 : decode cX11_tests 60 = .ok (.iaload, 1) := by decide +kernel
theorem dX11_tests_61 : decode cX11_tests 61 = .ok (.aload_n 0, 1) := by decide +kernel
theorem dX11_tests_62 : decode cX11_tests 62 = .ok (.getfield 78, 3) := by decide +kernel
theorem dX11_tests_65 : decode cX11_tests 65 = .ok (.iload_n 1, 1) := by decide +kernel
theorem dX11_tests_66 : decode cX11_tests 66 = .ok (.iaload, 1) := by decide +kernel
theorem dX11_tests_67 : decode cX11_tests 67 = .ok (.if_icmp .ne 7, 3) := by decide +kernel
theorem dX11_tests_70 : decode cX11_tests 70 = .ok (.iconst 1, 1) := by decide +kernel
theorem dX11_tests_71 : decode cX11_tests 71 = .ok (.goto 4, 3) := by decide +kernel
theorem dX11_tests_74 : decode cX11_tests 74 = .ok (.iconst 0, 1) := by decide +kernel
theorem dX11_tests_75 : decode cX11_tests 75 = .ok (.istore_n 2, 1) := by decide +kernel
theorem dX11_tests_76 : decode cX11_tests 76 = .ok (.aload_n 0, 1) := by decide +kernel
theorem dX11_tests_77 : decode cX11_tests 77 = .ok (.getfield 69, 3) := by decide +kernel
theorem dX11_tests_80 : decode cX11_tests 80 = .ok (.iload_n 1, 1) := by decide +kernel
theorem dX11_tests_81 : decode cX11_tests 81 = .ok (.iaload, 1) := by decide +kernel
theorem dX11_tests_82 : decode cX11_tests 82 = .ok (.bipush 26, 2) := by decide +kernel
theorem dX11_tests_84 : decode cX11_tests 84 = .ok (.if_icmp .ne 22, 3) := by decide +kernel
theorem dX11_tests_87 : decode cX11_tests 87 = .ok (.aload_n 0, 1) := by decide +kernel
theorem dX11_tests_88 : decode cX11_tests 88 = .ok (.getfield 66, 3) := by decide +kernel
theorem dX11_tests_91 : decode cX11_tests 91 = .ok (.iload_n 1, 1) := by decide +kernel
theorem dX11_tests_92 : decode cX11_tests 92 = .ok (.iaload, 1) := by decide +kernel
theorem dX11_tests_93 : decode cX11_tests 93 = .ok (.ifCond .eq 11, 3) := by decide +kernel
theorem dX11_tests_96 : decode cX11_tests 96 = .ok (.iload_n 2, 1) := by decide +kernel
theorem dX11_tests_97 : decode cX11_tests 97 = .ok (.ifCond .eq 7, 3) := by decide +kernel
theorem dX11_tests_100 : decode cX11_tests 100 = .ok (.iconst 1, 1) := by decide +kernel
theorem dX11_tests_101 : decode cX11_tests 101 = .ok (.goto 4, 3) := by decide +kernel
theorem dX11_tests_104 : decode cX11_tests 104 = .ok (.iconst 0, 1) := by decide +kernel
theorem dX11_tests_105 : decode cX11_tests 105 = .ok (.istore_n 2, 1) := by decide +kernel
theorem dX11_tests_106 : decode cX11_tests 106 = .ok (.aload_n 0, 1) := by decide +kernel
theorem dX11_tests_107 : decode cX11_tests 107 = .ok (.getfield 69, 3) := by decide +kernel
theorem dX11_tests_110 : decode cX11_tests 110 = .ok (.iload_n 1, 1) := by decide +kernel
theorem dX11_tests_111 : decode cX11_tests 111 = .ok (.iaload, 1) := by decide +kernel
theorem dX11_tests_112 : decode cX11_tests 112 = .ok (.bipush 27, 2) := by decide +kernel
theorem dX11_tests_114 : decode cX11_tests 114 = .ok (.if_icmp .ne 22, 3) := by decide +kernel
theorem dX11_tests_117 : decode cX11_tests 117 = .ok (.aload_n 0, 1) := by decide +kernel
theorem dX11_tests_118 : decode cX11_tests 118 = .ok (.getfield 66, 3) := by decide +kernel
theorem dX11_tests_121 : decode cX11_tests 121 = .ok (.iload_n 1, 1) := by decide +kernel
theorem dX11_tests_122 : decode cX11_tests 122 = .ok (.iaload, 1) := by decide +kernel
theorem dX11_tests_123 : decode cX11_tests 123 = .ok (.ifCond .ne 7, 3) := by decide +kernel
theorem dX11_tests_126 : decode cX11_tests 126 = .ok (.iload_n 2, 1) := by decide +kernel
theorem dX11_tests_127 : decode cX11_tests 127 = .ok (.ifCond .eq 7, 3) := by decide +kernel
theorem dX11_tests_130 : decode cX11_tests 130 = .ok (.iconst 1, 1) := by decide +kernel
theorem dX11_tests_131 : decode cX11_tests 131 = .ok (.goto 4, 3) := by decide +kernel
theorem dX11_tests_134 : decode cX11_tests 134 = .ok (.iconst 0, 1) := by decide +kernel
theorem dX11_tests_135 : decode cX11_tests 135 = .ok (.istore_n 2, 1) := by decide +kernel
theorem dX11_tests_136 : decode cX11_tests 136 = .ok (.aload_n 0, 1) := by decide +kernel
theorem dX11_tests_137 : decode cX11_tests 137 = .ok (.getfield 66, 3) := by decide +kernel
theorem dX11_tests_140 : decode cX11_tests 140 = .ok (.iload_n 1, 1) := by decide +kernel
theorem dX11_tests_141 : decode cX11_tests 141 = .ok (.iload_n 2, 1) := by decide +kernel
theorem dX11_tests_142 : decode cX11_tests 142 = .ok (.iastore, 1) := by decide +kernel
theorem dX11_tests_143 : decode cX11_tests 143 = .ok (.aload_n 0, 1) := by decide +kernel
theorem dX11_tests_144 : decode cX11_tests 144 = .ok (.getfield 75, 3) := by decide +kernel
theorem dX11_tests_147 : decode cX11_tests 147 = .ok (.iload_n 1, 1) := by decide +kernel
theorem dX11_tests_148 : decode cX11_tests 148 = .ok (.iconst 0, 1) := by decide +kernel
theorem dX11_tests_149 : decode cX11_tests 149 = .ok (.iastore, 1) := by decide +kernel
theorem dX11_tests_150 : decode cX11_tests 150 = .ok (.aload_n 0, 1) := by decide +kernel
theorem dX11_tests_151 : decode cX11_tests 151 = .ok (.getfield 78, 3) := by decide +kernel
theorem dX11_tests_154 : decode cX11_tests 154 = .ok (.iload_n 1, 1) := by decide +kernel
theorem dX11_tests_155 : decode cX11_tests 155 = .ok (.iconst 0, 1) := by decide +kernel
theorem dX11_tests_156 : decode cX11_tests 156 = .ok (.iastore, 1) := by decide +kernel
theorem dX11_tests_157 : decode cX11_tests 157 = .ok (.aload_n 0, 1) := by decide +kernel
theorem dX11_tests_158 : decode cX11_tests 158 = .ok (.getfield 81, 3) := by decide +kernel
theorem dX11_tests_161 : decode cX11_tests 161 = .ok (.iload_n 1, 1) := by decide +kernel
theorem dX11_tests_162 : decode cX11_tests 162 = .ok (.bipush 20, 2) := by decide +kernel
theorem dX11_tests_164 : decode cX11_tests 164 = .ok (.iastore, 1) := by decide +kernel
theorem dX11_tests_165 : decode cX11_tests 165 = .ok (.return_, 1) := by decide +kernel
theorem dX11_worked_0 : decode cX11_worked 0 = .ok (.iconst 0, 1) := by decide +kernel
theorem dX11_worked_1 : decode cX11_worked 1 = .ok (.istore_n 2, 1) := by decide +kernel
theorem dX11_worked_2 : decode cX11_worked 2 = .ok (.aload_n 0, 1) := by decide +kernel
theorem dX11_worked_3 : decode cX11_worked 3 = .ok (.iconst 0, 1) := by decide +kernel
theorem dX11_worked_4 : decode cX11_worked 4 = .ok (.invokevirtual 272, 3) := by decide +kernel
theorem dX11_worked_7 : decode cX11_worked 7 = .ok (.aload_n 0, 1) := by decide +kernel
theorem dX11_worked_8 : decode cX11_worked 8 = .ok (.getfield 50, 3) := by decide +kernel
theorem dX11_worked_11 : decode cX11_worked 11 = .ok (.iload_n 1, 1) := by decide +kernel
theorem dX11_worked_12 : decode cX11_worked 12 = .ok (.iaload, 1) := by decide +kernel
theorem dX11_worked_13 : decode cX11_worked 13 = .ok (.istore_n 3, 1) := by decide +kernel
theorem dX11_worked_14 : decode cX11_worked 14 = .ok (.iload_n 3, 1) := by decide +kernel
theorem dX11_worked_15 : decode cX11_worked 15 = .ok (.aload_n 0, 1) := by decide +kernel
theorem dX11_worked_16 : decode cX11_worked 16 = .ok (.getfield 53, 3) := by decide +kernel
theorem dX11_worked_19 : decode cX11_worked 19 = .ok (.iload_n 1, 1) := by decide +kernel
theorem dX11_worked_20 : decode cX11_worked 20 = .ok (.iaload, 1) := by decide +kernel
theorem dX11_worked_21 : decode cX11_worked 21 = .ok (.if_icmp .ge 314, 3) := by decide +kernel
theorem dX11_worked_24 : decode cX11_worked 24 = .ok (.aload_n 0, 1) := by decide +kernel
theorem dX11_worked_25 : decode cX11_worked 25 = .ok (.getfield 56, 3) := by decide +kernel
theorem dX11_worked_28 : decode cX11_worked 28 = .ok (.iload_n 3, 1) := by decide +kernel
theorem dX11_worked_29 : decode cX11_worked 29 = .ok (.iaload, 1) := by decide +kernel
theorem dX11_worked_30 : decode cX11_worked 30 = .ok (.istore 4, 2) := by decide +kernel
theorem dX11_worked_32 : decode cX11_worked 32 = .ok (.iload 4, 2) := by decide +kernel
theorem dX11_worked_34 : decode cX11_worked 34 = .ok (.bipush 28, 2) := by decide +kernel
theorem dX11_worked_36 : decode cX11_worked 36 = .ok (.if_icmp .eq 10, 3) := by decide +kernel
theorem dX11_worked_39 : decode cX11_worked 39 = .ok (.iload 4, 2) := by decide +kernel
theorem dX11_worked_41 : decode cX11_worked 41 = .ok (.bipush 30, 2) := by decide +kernel
theorem dX11_worked_43 : decode cX11_worked 43 = .ok (.if_icmp .ne 32, 3) := by decide +kernel
theorem dX11_worked_46 : decode cX11_worked 46 = .ok (.iinc 2 1, 3) := by decide +kernel
theorem dX11_worked_49 : decode cX11_worked 49 = .ok (.aload_n 0, 1) := by decide +kernel
theorem dX11_worked_50 : decode cX11_worked 50 = .ok (.getfield 90, 3) := by decide +kernel
theorem dX11_worked_53 : decode cX11_worked 53 = .ok (.iload_n 2, 1) := by decide +kernel
theorem dX11_worked_54 : decode cX11_worked 54 = .ok (.iload 4, 2) := by decide +kernel
theorem dX11_worked_56 : decode cX11_worked 56 = .ok (.bipush 30, 2) := by decide +kernel
theorem dX11_worked_58 : decode cX11_worked 58 = .ok (.if_icmp .ne 7, 3) := by decide +kernel
theorem dX11_worked_61 : decode cX11_worked 61 = .ok (.iconst 1, 1) := by decide +kernel
theorem dX11_worked_62 : decode cX11_worked 62 = .ok (.goto 4, 3) := by decide +kernel
theorem dX11_worked_65 : decode cX11_worked 65 = .ok (.iconst 0, 1) := by decide +kernel
theorem dX11_worked_66 : decode cX11_worked 66 = .ok (.iastore, 1) := by decide +kernel
theorem dX11_worked_67 : decode cX11_worked 67 = .ok (.aload_n 0, 1) := by decide +kernel
theorem dX11_worked_68 : decode cX11_worked 68 = .ok (.iload_n 2, 1) := by decide +kernel
theorem dX11_worked_69 : decode cX11_worked 69 = .ok (.invokevirtual 272, 3) := by decide +kernel
theorem dX11_worked_72 : decode cX11_worked 72 = .ok (.goto 257, 3) := by decide +kernel
theorem dX11_worked_75 : decode cX11_worked 75 = .ok (.iload 4, 2) := by decide +kernel
theorem dX11_worked_77 : decode cX11_worked 77 = .ok (.bipush 20, 2) := by decide +kernel
theorem dX11_worked_79 : decode cX11_worked 79 = .ok (.if_icmp .eq 10, 3) := by decide +kernel
theorem dX11_worked_82 : decode cX11_worked 82 = .ok (.iload 4, 2) := by decide +kernel
theorem dX11_worked_84 : decode cX11_worked 84 = .ok (.bipush 21, 2) := by decide +kernel
theorem dX11_worked_86 : decode cX11_worked 86 = .ok (.if_icmp .ne 19, 3) := by decide +kernel
theorem dX11_worked_89 : decode cX11_worked 89 = .ok (.aload_n 0, 1) := by decide +kernel
theorem dX11_worked_90 : decode cX11_worked 90 = .ok (.iload_n 2, 1) := by decide +kernel
theorem dX11_worked_91 : decode cX11_worked 91 = .ok (.invokevirtual 269, 3) := by decide +kernel
theorem dX11_worked_94 : decode cX11_worked 94 = .ok (.aload_n 0, 1) := by decide +kernel
theorem dX11_worked_95 : decode cX11_worked 95 = .ok (.getfield 81, 3) := by decide +kernel
theorem dX11_worked_98 : decode cX11_worked 98 = .ok (.iload_n 2, 1) := by decide +kernel
theorem dX11_worked_99 : decode cX11_worked 99 = .ok (.iload 4, 2) := by decide +kernel
theorem dX11_worked_101 : decode cX11_worked 101 = .ok (.iastore, 1) := by decide +kernel
theorem dX11_worked_102 : decode cX11_worked 102 = .ok (.goto 227, 3) := by decide +kernel
theorem dX11_worked_105 : decode cX11_worked 105 = .ok (.iload 4, 2) := by decide +kernel
theorem dX11_worked_107 : decode cX11_worked 107 = .ok (.bipush 22, 2) := by decide +kernel
theorem dX11_worked_109 : decode cX11_worked 109 = .ok (.if_icmp .ne 14, 3) := by decide +kernel
theorem dX11_worked_112 : decode cX11_worked 112 = .ok (.aload_n 0, 1) := by decide +kernel
theorem dX11_worked_113 : decode cX11_worked 113 = .ok (.getfield 87, 3) := by decide +kernel
theorem dX11_worked_116 : decode cX11_worked 116 = .ok (.iload_n 2, 1) := by decide +kernel
theorem dX11_worked_117 : decode cX11_worked 117 = .ok (.iload 4, 2) := by decide +kernel
theorem dX11_worked_119 : decode cX11_worked 119 = .ok (.iastore, 1) := by decide +kernel
theorem dX11_worked_120 : decode cX11_worked 120 = .ok (.goto 209, 3) := by decide +kernel
theorem dX11_worked_123 : decode cX11_worked 123 = .ok (.iload 4, 2) := by decide +kernel
theorem dX11_worked_125 : decode cX11_worked 125 = .ok (.bipush 24, 2) := by decide +kernel
theorem dX11_worked_127 : decode cX11_worked 127 = .ok (.if_icmp .eq 10, 3) := by decide +kernel
theorem dX11_worked_130 : decode cX11_worked 130 = .ok (.iload 4, 2) := by decide +kernel
theorem dX11_worked_132 : decode cX11_worked 132 = .ok (.bipush 25, 2) := by decide +kernel
theorem dX11_worked_134 : decode cX11_worked 134 = .ok (.if_icmp .ne 46, 3) := by decide +kernel
theorem dX11_worked_137 : decode cX11_worked 137 = .ok (.aload_n 0, 1) := by decide +kernel
theorem dX11_worked_138 : decode cX11_worked 138 = .ok (.iload_n 2, 1) := by decide +kernel
theorem dX11_worked_139 : decode cX11_worked 139 = .ok (.invokevirtual 269, 3) := by decide +kernel
theorem dX11_worked_142 : decode cX11_worked 142 = .ok (.aload_n 0, 1) := by decide +kernel
theorem dX11_worked_143 : decode cX11_worked 143 = .ok (.getfield 72, 3) := by decide +kernel
theorem dX11_worked_146 : decode cX11_worked 146 = .ok (.iload_n 2, 1) := by decide +kernel
theorem dX11_worked_147 : decode cX11_worked 147 = .ok (.aload_n 0, 1) := by decide +kernel
theorem dX11_worked_148 : decode cX11_worked 148 = .ok (.getfield 78, 3) := by decide +kernel
theorem dX11_worked_151 : decode cX11_worked 151 = .ok (.iload_n 2, 1) := by decide +kernel
theorem dX11_worked_152 : decode cX11_worked 152 = .ok (.iaload, 1) := by decide +kernel
theorem dX11_worked_153 : decode cX11_worked 153 = .ok (.iastore, 1) := by decide +kernel
theorem dX11_worked_154 : decode cX11_worked 154 = .ok (.aload_n 0, 1) := by decide +kernel
theorem dX11_worked_155 : decode cX11_worked 155 = .ok (.getfield 75, 3) := by decide +kernel
theorem dX11_worked_158 : decode cX11_worked 158 = .ok (.iload_n 2, 1) := by decide +kernel
theorem dX11_worked_159 : decode cX11_worked 159 = .ok (.iload 4, 2) := by decide +kernel
theorem dX11_worked_161 : decode cX11_worked 161 = .ok (.iastore, 1) := by decide +kernel
theorem dX11_worked_162 : decode cX11_worked 162 = .ok (.aload_n 0, 1) := by decide +kernel
theorem dX11_worked_163 : decode cX11_worked 163 = .ok (.getfield 78, 3) := by decide +kernel
theorem dX11_worked_166 : decode cX11_worked 166 = .ok (.iload_n 2, 1) := by decide +kernel
theorem dX11_worked_167 : decode cX11_worked 167 = .ok (.iconst 0, 1) := by decide +kernel
theorem dX11_worked_168 : decode cX11_worked 168 = .ok (.iastore, 1) := by decide +kernel
theorem dX11_worked_169 : decode cX11_worked 169 = .ok (.aload_n 0, 1) := by decide +kernel
theorem dX11_worked_170 : decode cX11_worked 170 = .ok (.getfield 81, 3) := by decide +kernel
theorem dX11_worked_173 : decode cX11_worked 173 = .ok (.iload_n 2, 1) := by decide +kernel
theorem dX11_worked_174 : decode cX11_worked 174 = .ok (.bipush 20, 2) := by decide +kernel
theorem dX11_worked_176 : decode cX11_worked 176 = .ok (.iastore, 1) := by decide +kernel
theorem dX11_worked_177 : decode cX11_worked 177 = .ok (.goto 152, 3) := by decide +kernel
theorem dX11_worked_180 : decode cX11_worked 180 = .ok (.iload 4, 2) := by decide +kernel
theorem dX11_worked_182 : decode cX11_worked 182 = .ok (.bipush 26, 2) := by decide +kernel
theorem dX11_worked_184 : decode cX11_worked 184 = .ok (.if_icmp .eq 10, 3) := by decide +kernel
theorem dX11_worked_187 : decode cX11_worked 187 = .ok (.iload 4, 2) := by decide +kernel
theorem dX11_worked_189 : decode cX11_worked 189 = .ok (.bipush 27, 2) := by decide +kernel
theorem dX11_worked_191 : decode cX11_worked 191 = .ok (.if_icmp .ne 19, 3) := by decide +kernel
theorem dX11_worked_194 : decode cX11_worked 194 = .ok (.aload_n 0, 1) := by decide +kernel
theorem dX11_worked_195 : decode cX11_worked 195 = .ok (.iload_n 2, 1) := by decide +kernel
theorem dX11_worked_196 : decode cX11_worked 196 = .ok (.invokevirtual 275, 3) := by decide +kernel
theorem dX11_worked_199 : decode cX11_worked 199 = .ok (.aload_n 0, 1) := by decide +kernel
theorem dX11_worked_200 : decode cX11_worked 200 = .ok (.getfield 69, 3) := by decide +kernel
theorem dX11_worked_203 : decode cX11_worked 203 = .ok (.iload_n 2, 1) := by decide +kernel
theorem dX11_worked_204 : decode cX11_worked 204 = .ok (.iload 4, 2) := by decide +kernel
theorem dX11_worked_206 : decode cX11_worked 206 = .ok (.iastore, 1) := by decide +kernel
theorem dX11_worked_207 : decode cX11_worked 207 = .ok (.goto 122, 3) := by decide +kernel
theorem dX11_worked_210 : decode cX11_worked 210 = .ok (.iload 4, 2) := by decide +kernel
theorem dX11_worked_212 : decode cX11_worked 212 = .ok (.bipush 100, 2) := by decide +kernel
theorem dX11_worked_214 : decode cX11_worked 214 = .ok (.if_icmp .lt 11, 3) := by decide +kernel
theorem dX11_worked_217 : decode cX11_worked 217 = .ok (.iload 4, 2) := by decide +kernel
theorem dX11_worked_219 : decode cX11_worked 219 = .ok (.bipush 100, 2) := by decide +kernel
theorem dX11_worked_221 : decode cX11_worked 221 = .ok (.isub, 1) := by decide +kernel
theorem dX11_worked_222 : decode cX11_worked 222 = .ok (.goto 21, 3) := by decide +kernel
theorem dX11_worked_225 : decode cX11_worked 225 = .ok (.iload 4, 2) := by decide +kernel
theorem dX11_worked_227 : decode cX11_worked 227 = .ok (.bipush 20, 2) := by decide +kernel
theorem dX11_worked_229 : decode cX11_worked 229 = .ok (.if_icmp .ge 13, 3) := by decide +kernel
theorem dX11_worked_232 : decode cX11_worked 232 = .ok (.aload_n 0, 1) := by decide +kernel
theorem dX11_worked_233 : decode cX11_worked 233 = .ok (.getfield 93, 3) := by decide +kernel
theorem dX11_worked_236 : decode cX11_worked 236 = .ok (.iload 4, 2) := by decide +kernel
theorem dX11_worked_238 : decode cX11_worked 238 = .ok (.iaload, 1) := by decide +kernel
theorem dX11_worked_239 : decode cX11_worked 239 = .ok (.goto 4, 3) := by decide +kernel
theorem dX11_worked_242 : decode cX11_worked 242 = .ok (.iconst 0, 1) := by decide +kernel
theorem dX11_worked_243 : decode cX11_worked 243 = .ok (.istore 5, 2) := by decide +kernel
theorem dX11_worked_245 : decode cX11_worked 245 = .ok (.iload 4, 2) := by decide +kernel
theorem dX11_worked_247 : decode cX11_worked 247 = .ok (.bipush 29, 2) := by decide +kernel
theorem dX11_worked_249 : decode cX11_worked 249 = .ok (.if_icmp .ne 19, 3) := by decide +kernel
theorem dX11_worked_252 : decode cX11_worked 252 = .ok (.aload_n 0, 1) := by decide +kernel
theorem dX11_worked_253 : decode cX11_worked 253 = .ok (.iload_n 2, 1) := by decide +kernel
theorem dX11_worked_254 : decode cX11_worked 254 = .ok (.invokevirtual 275, 3) := by decide +kernel
theorem dX11_worked_257 : decode cX11_worked 257 = .ok (.aload_n 0, 1) := by decide +kernel
theorem dX11_worked_258 : decode cX11_worked 258 = .ok (.getfield 66, 3) := by decide +kernel
theorem dX11_worked_261 : decode cX11_worked 261 = .ok (.iload_n 2, 1) := by decide +kernel
theorem dX11_worked_262 : decode cX11_worked 262 = .ok (.iaload, 1) := by decide +kernel
theorem dX11_worked_263 : decode cX11_worked 263 = .ok (.istore 5, 2) := by decide +kernel
theorem dX11_worked_265 : decode cX11_worked 265 = .ok (.iinc 2 (-1), 3) := by decide +kernel
theorem dX11_worked_268 : decode cX11_worked 268 = .ok (.iload_n 2, 1) := by decide +kernel
theorem dX11_worked_269 : decode cX11_worked 269 = .ok (.ifCond .le 31, 3) := by decide +kernel
theorem dX11_worked_272 : decode cX11_worked 272 = .ok (.aload_n 0, 1) := by decide +kernel
theorem dX11_worked_273 : decode cX11_worked 273 = .ok (.getfield 90, 3) := by decide +kernel
theorem dX11_worked_276 : decode cX11_worked 276 = .ok (.iload_n 2, 1) := by decide +kernel
theorem dX11_worked_277 : decode cX11_worked 277 = .ok (.iaload, 1) := by decide +kernel
theorem dX11_worked_278 : decode cX11_worked 278 = .ok (.iconst 1, 1) := by decide +kernel
theorem dX11_worked_279 : decode cX11_worked 279 = .ok (.if_icmp .ne 21, 3) := by decide +kernel
theorem dX11_worked_282 : decode cX11_worked 282 = .ok (.iload 5, 2) := by decide +kernel
theorem dX11_worked_284 : decode cX11_worked 284 = .ok (.ifCond .ne 7, 3) := by decide +kernel
theorem dX11_worked_287 : decode cX11_worked 287 = .ok (.iconst 1, 1) := by decide +kernel
theorem dX11_worked_288 : decode cX11_worked 288 = .ok (.goto 4, 3) := by decide +kernel
theorem dX11_worked_291 : decode cX11_worked 291 = .ok (.iconst 0, 1) := by decide +kernel
theorem dX11_worked_292 : decode cX11_worked 292 = .ok (.istore 5, 2) := by decide +kernel
theorem dX11_worked_294 : decode cX11_worked 294 = .ok (.iinc 2 (-1), 3) := by decide +kernel
theorem dX11_worked_297 : decode cX11_worked 297 = .ok (.goto (-29), 3) := by decide +kernel
theorem dX11_worked_300 : decode cX11_worked 300 = .ok (.aload_n 0, 1) := by decide +kernel
theorem dX11_worked_301 : decode cX11_worked 301 = .ok (.getfield 84, 3) := by decide +kernel
theorem dX11_worked_304 : decode cX11_worked 304 = .ok (.iload_n 2, 1) := by decide +kernel
theorem dX11_worked_305 : decode cX11_worked 305 = .ok (.aload_n 0, 1) := by decide +kernel
theorem dX11_worked_306 : decode cX11_worked 306 = .ok (.getfield 87, 3) := by decide +kernel
theorem dX11_worked_309 : decode cX11_worked 309 = .ok (.iload_n 2, 1) := by decide +kernel
theorem dX11_worked_310 : decode cX11_worked 310 = .ok (.iaload, 1) := by decide +kernel
theorem dX11_worked_311 : decode cX11_worked 311 = .ok (.ifCond .ne 8, 3) := by decide +kernel
theorem dX11_worked_314 : decode cX11_worked 314 = .ok (.iload 5, 2) := by decide +kernel
theorem dX11_worked_316 : decode cX11_worked 316 = .ok (.goto 12, 3) := by decide +kernel
theorem dX11_worked_319 : decode cX11_worked 319 = .ok (.aload_n 0, 1) := by decide +kernel
theorem dX11_worked_320 : decode cX11_worked 320 = .ok (.getfield 84, 3) := by decide +kernel
theorem dX11_worked_323 : decode cX11_worked 323 = .ok (.iload_n 2, 1) := by decide +kernel
theorem dX11_worked_324 : decode cX11_worked 324 = .ok (.iaload, 1) := by decide +kernel
theorem dX11_worked_325 : decode cX11_worked 325 = .ok (.iload 5, 2) := by decide +kernel
theorem dX11_worked_327 : decode cX11_worked 327 = .ok (.imul, 1) := by decide +kernel
theorem dX11_worked_328 : decode cX11_worked 328 = .ok (.iastore, 1) := by decide +kernel
theorem dX11_worked_329 : decode cX11_worked 329 = .ok (.iinc 3 1, 3) := by decide +kernel
theorem dX11_worked_332 : decode cX11_worked 332 = .ok (.goto (-318), 3) := by decide +kernel
theorem dX11_worked_335 : decode cX11_worked 335 = .ok (.aload_n 0, 1) := by decide +kernel
theorem dX11_worked_336 : decode cX11_worked 336 = .ok (.iconst 0, 1) := by decide +kernel
theorem dX11_worked_337 : decode cX11_worked 337 = .ok (.invokevirtual 275, 3) := by decide +kernel
theorem dX11_worked_340 : decode cX11_worked 340 = .ok (.aload_n 0, 1) := by decide +kernel
theorem dX11_worked_341 : decode cX11_worked 341 = .ok (.getfield 66, 3) := by decide +kernel
theorem dX11_worked_344 : decode cX11_worked 344 = .ok (.iconst 0, 1) := by decide +kernel
theorem dX11_worked_345 : decode cX11_worked 345 = .ok (.iaload, 1) := by decide +kernel
theorem dX11_worked_346 : decode cX11_worked 346 = .ok (.ireturn, 1) := by decide +kernel
theorem dX11_isKept_0 : decode cX11_isKept 0 = .ok (.aload_n 0, 1) := by decide +kernel
theorem dX11_isKept_1 : decode cX11_isKept 1 = .ok (.getfield 212, 3) := by decide +kernel
theorem dX11_isKept_4 : decode cX11_isKept 4 = .ok (.iconst 1, 1) := by decide +kernel
theorem dX11_isKept_5 : decode cX11_isKept 5 = .ok (.if_icmp .eq 5, 3) := by decide +kernel
theorem dX11_isKept_8 : decode cX11_isKept 8 = .ok (.iconst 1, 1) := by decide +kernel
theorem dX11_isKept_9 : decode cX11_isKept 9 = .ok (.ireturn, 1) := by decide +kernel
theorem dX11_isKept_10 : decode cX11_isKept 10 = .ok (.aload_n 0, 1) := by decide +kernel
theorem dX11_isKept_11 : decode cX11_isKept 11 = .ok (.getfield 205, 3) := by decide +kernel
theorem dX11_isKept_14 : decode cX11_isKept 14 = .ok (.ldc2_w 278, 3) := by decide +kernel
theorem dX11_isKept_17 : decode cX11_isKept 17 = .ok (.lcmp, 1) := by decide +kernel
theorem dX11_isKept_18 : decode cX11_isKept 18 = .ok (.ifCond .eq 267, 3) := by decide +kernel
theorem dX11_isKept_21 : decode cX11_isKept 21 = .ok (.aload_n 0, 1) := by decide +kernel
theorem dX11_isKept_22 : decode cX11_isKept 22 = .ok (.getfield 205, 3) := by decide +kernel
theorem dX11_isKept_25 : decode cX11_isKept 25 = .ok (.ldc2_w 280, 3) := by decide +kernel
theorem dX11_isKept_28 : decode cX11_isKept 28 = .ok (.lcmp, 1) := by decide +kernel
theorem dX11_isKept_29 : decode cX11_isKept 29 = .ok (.ifCond .eq 256, 3) := by decide +kernel
theorem dX11_isKept_32 : decode cX11_isKept 32 = .ok (.aload_n 0, 1) := by decide +kernel
theorem dX11_isKept_33 : decode cX11_isKept 33 = .ok (.getfield 205, 3) := by decide +kernel
theorem dX11_isKept_36 : decode cX11_isKept 36 = .ok (.ldc2_w 282, 3) := by decide +kernel
theorem dX11_isKept_39 : decode cX11_isKept 39 = .ok (.lcmp, 1) := by decide +kernel
theorem dX11_isKept_40 : decode cX11_isKept 40 = .ok (.ifCond .eq 245, 3) := by decide +kernel
theorem dX11_isKept_43 : decode cX11_isKept 43 = .ok (.aload_n 0, 1) := by decide +kernel
theorem dX11_isKept_44 : decode cX11_isKept 44 = .ok (.getfield 205, 3) := by decide +kernel
theorem dX11_isKept_47 : decode cX11_isKept 47 = .ok (.ldc2_w 284, 3) := by decide +kernel
theorem dX11_isKept_50 : decode cX11_isKept 50 = .ok (.lcmp, 1) := by decide +kernel
theorem dX11_isKept_51 : decode cX11_isKept 51 = .ok (.ifCond .eq 234, 3) := by decide +kernel
theorem dX11_isKept_54 : decode cX11_isKept 54 = .ok (.aload_n 0, 1) := by decide +kernel
theorem dX11_isKept_55 : decode cX11_isKept 55 = .ok (.getfield 205, 3) := by decide +kernel
theorem dX11_isKept_58 : decode cX11_isKept 58 = .ok (.ldc2_w 286, 3) := by decide +kernel
theorem dX11_isKept_61 : decode cX11_isKept 61 = .ok (.lcmp, 1) := by decide +kernel
theorem dX11_isKept_62 : decode cX11_isKept 62 = .ok (.ifCond .eq 223, 3) := by decide +kernel
theorem dX11_isKept_65 : decode cX11_isKept 65 = .ok (.aload_n 0, 1) := by decide +kernel
theorem dX11_isKept_66 : decode cX11_isKept 66 = .ok (.getfield 205, 3) := by decide +kernel
theorem dX11_isKept_69 : decode cX11_isKept 69 = .ok (.ldc2_w 288, 3) := by decide +kernel
theorem dX11_isKept_72 : decode cX11_isKept 72 = .ok (.lcmp, 1) := by decide +kernel
theorem dX11_isKept_73 : decode cX11_isKept 73 = .ok (.ifCond .eq 212, 3) := by decide +kernel
theorem dX11_isKept_76 : decode cX11_isKept 76 = .ok (.aload_n 0, 1) := by decide +kernel
theorem dX11_isKept_77 : decode cX11_isKept 77 = .ok (.getfield 205, 3) := by decide +kernel
theorem dX11_isKept_80 : decode cX11_isKept 80 = .ok (.ldc2_w 290, 3) := by decide +kernel
theorem dX11_isKept_83 : decode cX11_isKept 83 = .ok (.lcmp, 1) := by decide +kernel
theorem dX11_isKept_84 : decode cX11_isKept 84 = .ok (.ifCond .eq 201, 3) := by decide +kernel
theorem dX11_isKept_87 : decode cX11_isKept 87 = .ok (.aload_n 0, 1) := by decide +kernel
theorem dX11_isKept_88 : decode cX11_isKept 88 = .ok (.getfield 205, 3) := by decide +kernel
theorem dX11_isKept_91 : decode cX11_isKept 91 = .ok (.ldc2_w 292, 3) := by decide +kernel
theorem dX11_isKept_94 : decode cX11_isKept 94 = .ok (.lcmp, 1) := by decide +kernel
theorem dX11_isKept_95 : decode cX11_isKept 95 = .ok (.ifCond .eq 190, 3) := by decide +kernel
theorem dX11_isKept_98 : decode cX11_isKept 98 = .ok (.aload_n 0, 1) := by decide +kernel
theorem dX11_isKept_99 : decode cX11_isKept 99 = .ok (.getfield 205, 3) := by decide +kernel
theorem dX11_isKept_102 : decode cX11_isKept 102 = .ok (.ldc2_w 294, 3) := by decide +kernel
theorem dX11_isKept_105 : decode cX11_isKept 105 = .ok (.lcmp, 1) := by decide +kernel
theorem dX11_isKept_106 : decode cX11_isKept 106 = .ok (.ifCond .eq 179, 3) := by decide +kernel
theorem dX11_isKept_109 : decode cX11_isKept 109 = .ok (.aload_n 0, 1) := by decide +kernel
theorem dX11_isKept_110 : decode cX11_isKept 110 = .ok (.getfield 205, 3) := by decide +kernel
theorem dX11_isKept_113 : decode cX11_isKept 113 = .ok (.ldc2_w 296, 3) := by decide +kernel
theorem dX11_isKept_116 : decode cX11_isKept 116 = .ok (.lcmp, 1) := by decide +kernel
theorem dX11_isKept_117 : decode cX11_isKept 117 = .ok (.ifCond .eq 168, 3) := by decide +kernel
theorem dX11_isKept_120 : decode cX11_isKept 120 = .ok (.aload_n 0, 1) := by decide +kernel
theorem dX11_isKept_121 : decode cX11_isKept 121 = .ok (.getfield 205, 3) := by decide +kernel
theorem dX11_isKept_124 : decode cX11_isKept 124 = .ok (.ldc2_w 298, 3) := by decide +kernel
theorem dX11_isKept_127 : decode cX11_isKept 127 = .ok (.lcmp, 1) := by decide +kernel
theorem dX11_isKept_128 : decode cX11_isKept 128 = .ok (.ifCond .eq 157, 3) := by decide +kernel
theorem dX11_isKept_131 : decode cX11_isKept 131 = .ok (.aload_n 0, 1) := by decide +kernel
theorem dX11_isKept_132 : decode cX11_isKept 132 = .ok (.getfield 205, 3) := by decide +kernel
theorem dX11_isKept_135 : decode cX11_isKept 135 = .ok (.ldc2_w 300, 3) := by decide +kernel
theorem dX11_isKept_138 : decode cX11_isKept 138 = .ok (.lcmp, 1) := by decide +kernel
theorem dX11_isKept_139 : decode cX11_isKept 139 = .ok (.ifCond .eq 146, 3) := by decide +kernel
theorem dX11_isKept_142 : decode cX11_isKept 142 = .ok (.aload_n 0, 1) := by decide +kernel
theorem dX11_isKept_143 : decode cX11_isKept 143 = .ok (.getfield 205, 3) := by decide +kernel
theorem dX11_isKept_146 : decode cX11_isKept 146 = .ok (.ldc2_w 302, 3) := by decide +kernel
theorem dX11_isKept_149 : decode cX11_isKept 149 = .ok (.lcmp, 1) := by decide +kernel
theorem dX11_isKept_150 : decode cX11_isKept 150 = .ok (.ifCond .eq 135, 3) := by decide +kernel
theorem dX11_isKept_153 : decode cX11_isKept 153 = .ok (.aload_n 0, 1) := by decide +kernel
theorem dX11_isKept_154 : decode cX11_isKept 154 = .ok (.getfield 205, 3) := by decide +kernel
theorem dX11_isKept_157 : decode cX11_isKept 157 = .ok (.ldc2_w 304, 3) := by decide +kernel
theorem dX11_isKept_160 : decode cX11_isKept 160 = .ok (.lcmp, 1) := by decide +kernel
theorem dX11_isKept_161 : decode cX11_isKept 161 = .ok (.ifCond .eq 124, 3) := by decide +kernel
theorem dX11_isKept_164 : decode cX11_isKept 164 = .ok (.aload_n 0, 1) := by decide +kernel
theorem dX11_isKept_165 : decode cX11_isKept 165 = .ok (.getfield 205, 3) := by decide +kernel
theorem dX11_isKept_168 : decode cX11_isKept 168 = .ok (.ldc2_w 306, 3) := by decide +kernel
theorem dX11_isKept_171 : decode cX11_isKept 171 = .ok (.lcmp, 1) := by decide +kernel
theorem dX11_isKept_172 : decode cX11_isKept 172 = .ok (.ifCond .eq 113, 3) := by decide +kernel
theorem dX11_isKept_175 : decode cX11_isKept 175 = .ok (.aload_n 0, 1) := by decide +kernel
theorem dX11_isKept_176 : decode cX11_isKept 176 = .ok (.getfield 205, 3) := by decide +kernel
theorem dX11_isKept_179 : decode cX11_isKept 179 = .ok (.ldc2_w 308, 3) := by decide +kernel
theorem dX11_isKept_182 : decode cX11_isKept 182 = .ok (.lcmp, 1) := by decide +kernel
theorem dX11_isKept_183 : decode cX11_isKept 183 = .ok (.ifCond .eq 102, 3) := by decide +kernel
theorem dX11_isKept_186 : decode cX11_isKept 186 = .ok (.aload_n 0, 1) := by decide +kernel
theorem dX11_isKept_187 : decode cX11_isKept 187 = .ok (.getfield 205, 3) := by decide +kernel
theorem dX11_isKept_190 : decode cX11_isKept 190 = .ok (.ldc2_w 310, 3) := by decide +kernel
theorem dX11_isKept_193 : decode cX11_isKept 193 = .ok (.lcmp, 1) := by decide +kernel
theorem dX11_isKept_194 : decode cX11_isKept 194 = .ok (.ifCond .eq 91, 3) := by decide +kernel
theorem dX11_isKept_197 : decode cX11_isKept 197 = .ok (.aload_n 0, 1) := by decide +kernel
theorem dX11_isKept_198 : decode cX11_isKept 198 = .ok (.getfield 205, 3) := by decide +kernel
theorem dX11_isKept_201 : decode cX11_isKept 201 = .ok (.ldc2_w 312, 3) := by decide +kernel
theorem dX11_isKept_204 : decode cX11_isKept 204 = .ok (.lcmp, 1) := by decide +kernel
theorem dX11_isKept_205 : decode cX11_isKept 205 = .ok (.ifCond .eq 80, 3) := by decide +kernel
theorem dX11_isKept_208 : decode cX11_isKept 208 = .ok (.aload_n 0, 1) := by decide +kernel
theorem dX11_isKept_209 : decode cX11_isKept 209 = .ok (.getfield 205, 3) := by decide +kernel
theorem dX11_isKept_212 : decode cX11_isKept 212 = .ok (.ldc2_w 314, 3) := by decide +kernel
theorem dX11_isKept_215 : decode cX11_isKept 215 = .ok (.lcmp, 1) := by decide +kernel
theorem dX11_isKept_216 : decode cX11_isKept 216 = .ok (.ifCond .eq 69, 3) := by decide +kernel
theorem dX11_isKept_219 : decode cX11_isKept 219 = .ok (.aload_n 0, 1) := by decide +kernel
theorem dX11_isKept_220 : decode cX11_isKept 220 = .ok (.getfield 205, 3) := by decide +kernel
theorem dX11_isKept_223 : decode cX11_isKept 223 = .ok (.ldc2_w 316, 3) := by decide +kernel
theorem dX11_isKept_226 : decode cX11_isKept 226 = .ok (.lcmp, 1) := by decide +kernel
theorem dX11_isKept_227 : decode cX11_isKept 227 = .ok (.ifCond .eq 58, 3) := by decide +kernel
theorem dX11_isKept_230 : decode cX11_isKept 230 = .ok (.aload_n 0, 1) := by decide +kernel
theorem dX11_isKept_231 : decode cX11_isKept 231 = .ok (.getfield 205, 3) := by decide +kernel
theorem dX11_isKept_234 : decode cX11_isKept 234 = .ok (.ldc2_w 318, 3) := by decide +kernel
theorem dX11_isKept_237 : decode cX11_isKept 237 = .ok (.lcmp, 1) := by decide +kernel
theorem dX11_isKept_238 : decode cX11_isKept 238 = .ok (.ifCond .eq 47, 3) := by decide +kernel
theorem dX11_isKept_241 : decode cX11_isKept 241 = .ok (.aload_n 0, 1) := by decide +kernel
theorem dX11_isKept_242 : decode cX11_isKept 242 = .ok (.getfield 205, 3) := by decide +kernel
theorem dX11_isKept_245 : decode cX11_isKept 245 = .ok (.ldc2_w 320, 3) := by decide +kernel
theorem dX11_isKept_248 : decode cX11_isKept 248 = .ok (.lcmp, 1) := by decide +kernel
theorem dX11_isKept_249 : decode cX11_isKept 249 = .ok (.ifCond .eq 36, 3) := by decide +kernel
theorem dX11_isKept_252 : decode cX11_isKept 252 = .ok (.aload_n 0, 1) := by decide +kernel
theorem dX11_isKept_253 : decode cX11_isKept 253 = .ok (.getfield 205, 3) := by decide +kernel
theorem dX11_isKept_256 : decode cX11_isKept 256 = .ok (.ldc2_w 246, 3) := by decide +kernel
theorem dX11_isKept_259 : decode cX11_isKept 259 = .ok (.lcmp, 1) := by decide +kernel
theorem dX11_isKept_260 : decode cX11_isKept 260 = .ok (.ifCond .eq 25, 3) := by decide +kernel
theorem dX11_isKept_263 : decode cX11_isKept 263 = .ok (.aload_n 0, 1) := by decide +kernel
theorem dX11_isKept_264 : decode cX11_isKept 264 = .ok (.getfield 205, 3) := by decide +kernel
theorem dX11_isKept_267 : decode cX11_isKept 267 = .ok (.ldc2_w 265, 3) := by decide +kernel
theorem dX11_isKept_270 : decode cX11_isKept 270 = .ok (.lcmp, 1) := by decide +kernel
theorem dX11_isKept_271 : decode cX11_isKept 271 = .ok (.ifCond .eq 14, 3) := by decide +kernel
theorem dX11_isKept_274 : decode cX11_isKept 274 = .ok (.aload_n 0, 1) := by decide +kernel
theorem dX11_isKept_275 : decode cX11_isKept 275 = .ok (.getfield 205, 3) := by decide +kernel
theorem dX11_isKept_278 : decode cX11_isKept 278 = .ok (.ldc2_w 267, 3) := by decide +kernel
theorem dX11_isKept_281 : decode cX11_isKept 281 = .ok (.lcmp, 1) := by decide +kernel
theorem dX11_isKept_282 : decode cX11_isKept 282 = .ok (.ifCond .ne 7, 3) := by decide +kernel
theorem dX11_isKept_285 : decode cX11_isKept 285 = .ok (.iconst 1, 1) := by decide +kernel
theorem dX11_isKept_286 : decode cX11_isKept 286 = .ok (.goto 4, 3) := by decide +kernel
theorem dX11_isKept_289 : decode cX11_isKept 289 = .ok (.iconst 0, 1) := by decide +kernel
theorem dX11_isKept_290 : decode cX11_isKept 290 = .ok (.ireturn, 1) := by decide +kernel
theorem dX11_named_0 : decode cX11_named 0 = .ok (.iload_n 1, 1) := by decide +kernel
theorem dX11_named_1 : decode cX11_named 1 = .ok (.istore 5, 2) := by decide +kernel
theorem dX11_named_3 : decode cX11_named 3 = .ok (.iload 5, 2) := by decide +kernel
theorem dX11_named_5 : decode cX11_named 5 = .ok (.iload_n 1, 1) := by decide +kernel
theorem dX11_named_6 : decode cX11_named 6 = .ok (.iload_n 2, 1) := by decide +kernel
theorem dX11_named_7 : decode cX11_named 7 = .ok (.iadd, 1) := by decide +kernel
theorem dX11_named_8 : decode cX11_named 8 = .ok (.if_icmp .ge 23, 3) := by decide +kernel
theorem dX11_named_11 : decode cX11_named 11 = .ok (.aload_n 0, 1) := by decide +kernel
theorem dX11_named_12 : decode cX11_named 12 = .ok (.iload 5, 2) := by decide +kernel
theorem dX11_named_14 : decode cX11_named 14 = .ok (.laload, 1) := by decide +kernel
theorem dX11_named_15 : decode cX11_named 15 = .ok (.lload_n 3, 1) := by decide +kernel
theorem dX11_named_16 : decode cX11_named 16 = .ok (.lcmp, 1) := by decide +kernel
theorem dX11_named_17 : decode cX11_named 17 = .ok (.ifCond .ne 8, 3) := by decide +kernel
theorem dX11_named_20 : decode cX11_named 20 = .ok (.iload 5, 2) := by decide +kernel
theorem dX11_named_22 : decode cX11_named 22 = .ok (.iload_n 1, 1) := by decide +kernel
theorem dX11_named_23 : decode cX11_named 23 = .ok (.isub, 1) := by decide +kernel
theorem dX11_named_24 : decode cX11_named 24 = .ok (.ireturn, 1) := by decide +kernel
theorem dX11_named_25 : decode cX11_named 25 = .ok (.iinc 5 1, 3) := by decide +kernel
theorem dX11_named_28 : decode cX11_named 28 = .ok (.goto (-25), 3) := by decide +kernel
theorem dX11_named_31 : decode cX11_named 31 = .ok (.iconst (-1), 1) := by decide +kernel
theorem dX11_named_32 : decode cX11_named 32 = .ok (.ireturn, 1) := by decide +kernel
theorem dX11_penNamed_0 : decode cX11_penNamed 0 = .ok (.aload_n 0, 1) := by decide +kernel
theorem dX11_penNamed_1 : decode cX11_penNamed 1 = .ok (.getfield 16, 3) := by decide +kernel
theorem dX11_penNamed_4 : decode cX11_penNamed 4 = .ok (.bipush 6, 2) := by decide +kernel
theorem dX11_penNamed_6 : decode cX11_penNamed 6 = .ok (.iload_n 1, 1) := by decide +kernel
theorem dX11_penNamed_7 : decode cX11_penNamed 7 = .ok (.imul, 1) := by decide +kernel
theorem dX11_penNamed_8 : decode cX11_penNamed 8 = .ok (.aload_n 0, 1) := by decide +kernel
theorem dX11_penNamed_9 : decode cX11_penNamed 9 = .ok (.getfield 13, 3) := by decide +kernel
theorem dX11_penNamed_12 : decode cX11_penNamed 12 = .ok (.bipush 9, 2) := by decide +kernel
theorem dX11_penNamed_14 : decode cX11_penNamed 14 = .ok (.iload_n 1, 1) := by decide +kernel
theorem dX11_penNamed_15 : decode cX11_penNamed 15 = .ok (.imul, 1) := by decide +kernel
theorem dX11_penNamed_16 : decode cX11_penNamed 16 = .ok (.iconst 0, 1) := by decide +kernel
theorem dX11_penNamed_17 : decode cX11_penNamed 17 = .ok (.iadd, 1) := by decide +kernel
theorem dX11_penNamed_18 : decode cX11_penNamed 18 = .ok (.iaload, 1) := by decide +kernel
theorem dX11_penNamed_19 : decode cX11_penNamed 19 = .ok (.aload_n 0, 1) := by decide +kernel
theorem dX11_penNamed_20 : decode cX11_penNamed 20 = .ok (.getfield 205, 3) := by decide +kernel
theorem dX11_penNamed_23 : decode cX11_penNamed 23 = .ok (.invokestatic 322, 3) := by decide +kernel
theorem dX11_penNamed_26 : decode cX11_penNamed 26 = .ok (.ireturn, 1) := by decide +kernel
theorem dX11_guestNamed_0 : decode cX11_guestNamed 0 = .ok (.aload_n 0, 1) := by decide +kernel
theorem dX11_guestNamed_1 : decode cX11_guestNamed 1 = .ok (.getfield 20, 3) := by decide +kernel
theorem dX11_guestNamed_4 : decode cX11_guestNamed 4 = .ok (.bipush 6, 2) := by decide +kernel
theorem dX11_guestNamed_6 : decode cX11_guestNamed 6 = .ok (.iload_n 1, 1) := by decide +kernel
theorem dX11_guestNamed_7 : decode cX11_guestNamed 7 = .ok (.imul, 1) := by decide +kernel
theorem dX11_guestNamed_8 : decode cX11_guestNamed 8 = .ok (.aload_n 0, 1) := by decide +kernel
theorem dX11_guestNamed_9 : decode cX11_guestNamed 9 = .ok (.getfield 13, 3) := by decide +kernel
theorem dX11_guestNamed_12 : decode cX11_guestNamed 12 = .ok (.bipush 9, 2) := by decide +kernel
theorem dX11_guestNamed_14 : decode cX11_guestNamed 14 = .ok (.iload_n 1, 1) := by decide +kernel
theorem dX11_guestNamed_15 : decode cX11_guestNamed 15 = .ok (.imul, 1) := by decide +kernel
theorem dX11_guestNamed_16 : decode cX11_guestNamed 16 = .ok (.iconst 1, 1) := by decide +kernel
theorem dX11_guestNamed_17 : decode cX11_guestNamed 17 = .ok (.iadd, 1) := by decide +kernel
theorem dX11_guestNamed_18 : decode cX11_guestNamed 18 = .ok (.iaload, 1) := by decide +kernel
theorem dX11_guestNamed_19 : decode cX11_guestNamed 19 = .ok (.aload_n 0, 1) := by decide +kernel
theorem dX11_guestNamed_20 : decode cX11_guestNamed 20 = .ok (.getfield 205, 3) := by decide +kernel
theorem dX11_guestNamed_23 : decode cX11_guestNamed 23 = .ok (.invokestatic 322, 3) := by decide +kernel
theorem dX11_guestNamed_26 : decode cX11_guestNamed 26 = .ok (.ireturn, 1) := by decide +kernel
theorem dX11_needsNumber_0 : decode cX11_needsNumber 0 = .ok (.aload_n 0, 1) := by decide +kernel
theorem dX11_needsNumber_1 : decode cX11_needsNumber 1 = .ok (.getfield 212, 3) := by decide +kernel
theorem dX11_needsNumber_4 : decode cX11_needsNumber 4 = .ok (.iconst 2, 1) := by decide +kernel
theorem dX11_needsNumber_5 : decode cX11_needsNumber 5 = .ok (.if_icmp .eq 9, 3) := by decide +kernel
theorem dX11_needsNumber_8 : decode cX11_needsNumber 8 = .ok (.aload_n 0, 1) := by decide +kernel
theorem dX11_needsNumber_9 : decode cX11_needsNumber 9 = .ok (.iconst 1, 1) := by decide +kernel
theorem dX11_needsNumber_10 : decode cX11_needsNumber 10 = .ok (.invokevirtual 256, 3) := by decide +kernel
theorem dX11_needsNumber_13 : decode cX11_needsNumber 13 = .ok (.ireturn, 1) := by decide +kernel
theorem dX11_needsNumber_14 : decode cX11_needsNumber 14 = .ok (.aload_n 0, 1) := by decide +kernel
theorem dX11_needsNumber_15 : decode cX11_needsNumber 15 = .ok (.getfield 209, 3) := by decide +kernel
theorem dX11_needsNumber_18 : decode cX11_needsNumber 18 = .ok (.iload_n 1, 1) := by decide +kernel
theorem dX11_needsNumber_19 : decode cX11_needsNumber 19 = .ok (.iload_n 2, 1) := by decide +kernel
theorem dX11_needsNumber_20 : decode cX11_needsNumber 20 = .ok (.invokestatic 326, 3) := by decide +kernel
theorem dX11_needsNumber_23 : decode cX11_needsNumber 23 = .ok (.ifCond .ne 9, 3) := by decide +kernel
theorem dX11_needsNumber_26 : decode cX11_needsNumber 26 = .ok (.aload_n 0, 1) := by decide +kernel
theorem dX11_needsNumber_27 : decode cX11_needsNumber 27 = .ok (.iconst 4, 1) := by decide +kernel
theorem dX11_needsNumber_28 : decode cX11_needsNumber 28 = .ok (.invokevirtual 256, 3) := by decide +kernel
theorem dX11_needsNumber_31 : decode cX11_needsNumber 31 = .ok (.ireturn, 1) := by decide +kernel
theorem dX11_needsNumber_32 : decode cX11_needsNumber 32 = .ok (.aload_n 0, 1) := by decide +kernel
theorem dX11_needsNumber_33 : decode cX11_needsNumber 33 = .ok (.aload_n 0, 1) := by decide +kernel
theorem dX11_needsNumber_34 : decode cX11_needsNumber 34 = .ok (.getfield 209, 3) := by decide +kernel
theorem dX11_needsNumber_37 : decode cX11_needsNumber 37 = .ok (.putfield 330, 3) := by decide +kernel
theorem dX11_needsNumber_40 : decode cX11_needsNumber 40 = .ok (.aload_n 0, 1) := by decide +kernel
theorem dX11_needsNumber_41 : decode cX11_needsNumber 41 = .ok (.invokevirtual 262, 3) := by decide +kernel
theorem dX11_needsNumber_44 : decode cX11_needsNumber 44 = .ok (.iconst 1, 1) := by decide +kernel
theorem dX11_needsNumber_45 : decode cX11_needsNumber 45 = .ok (.ireturn, 1) := by decide +kernel
theorem dX11_needsWord_0 : decode cX11_needsWord 0 = .ok (.aload_n 0, 1) := by decide +kernel
theorem dX11_needsWord_1 : decode cX11_needsWord 1 = .ok (.lload_n 1, 1) := by decide +kernel
theorem dX11_needsWord_2 : decode cX11_needsWord 2 = .ok (.invokevirtual 248, 3) := by decide +kernel
theorem dX11_needsWord_5 : decode cX11_needsWord 5 = .ok (.ifCond .ne 9, 3) := by decide +kernel
theorem dX11_needsWord_8 : decode cX11_needsWord 8 = .ok (.aload_n 0, 1) := by decide +kernel
theorem dX11_needsWord_9 : decode cX11_needsWord 9 = .ok (.iconst 1, 1) := by decide +kernel
theorem dX11_needsWord_10 : decode cX11_needsWord 10 = .ok (.invokevirtual 256, 3) := by decide +kernel
theorem dX11_needsWord_13 : decode cX11_needsWord 13 = .ok (.ireturn, 1) := by decide +kernel
theorem dX11_needsWord_14 : decode cX11_needsWord 14 = .ok (.aload_n 0, 1) := by decide +kernel
theorem dX11_needsWord_15 : decode cX11_needsWord 15 = .ok (.invokevirtual 262, 3) := by decide +kernel
theorem dX11_needsWord_18 : decode cX11_needsWord 18 = .ok (.iconst 1, 1) := by decide +kernel
theorem dX11_needsWord_19 : decode cX11_needsWord 19 = .ok (.ireturn, 1) := by decide +kernel
theorem dX11_needsBoth_0 : decode cX11_needsBoth 0 = .ok (.aload_n 0, 1) := by decide +kernel
theorem dX11_needsBoth_1 : decode cX11_needsBoth 1 = .ok (.lload_n 1, 1) := by decide +kernel
theorem dX11_needsBoth_2 : decode cX11_needsBoth 2 = .ok (.invokevirtual 333, 3) := by decide +kernel
theorem dX11_needsBoth_5 : decode cX11_needsBoth 5 = .ok (.ifCond .eq 17, 3) := by decide +kernel
theorem dX11_needsBoth_8 : decode cX11_needsBoth 8 = .ok (.aload_n 0, 1) := by decide +kernel
theorem dX11_needsBoth_9 : decode cX11_needsBoth 9 = .ok (.iload_n 3, 1) := by decide +kernel
theorem dX11_needsBoth_10 : decode cX11_needsBoth 10 = .ok (.iload 4, 2) := by decide +kernel
theorem dX11_needsBoth_12 : decode cX11_needsBoth 12 = .ok (.invokevirtual 336, 3) := by decide +kernel
theorem dX11_needsBoth_15 : decode cX11_needsBoth 15 = .ok (.ifCond .eq 7, 3) := by decide +kernel
theorem dX11_needsBoth_18 : decode cX11_needsBoth 18 = .ok (.iconst 1, 1) := by decide +kernel
theorem dX11_needsBoth_19 : decode cX11_needsBoth 19 = .ok (.goto 4, 3) := by decide +kernel
theorem dX11_needsBoth_22 : decode cX11_needsBoth 22 = .ok (.iconst 0, 1) := by decide +kernel
theorem dX11_needsBoth_23 : decode cX11_needsBoth 23 = .ok (.ireturn, 1) := by decide +kernel
theorem dX11_closes_0 : decode cX11_closes 0 = .ok (.aload_n 0, 1) := by decide +kernel
theorem dX11_closes_1 : decode cX11_closes 1 = .ok (.bipush 59, 2) := by decide +kernel
theorem dX11_closes_3 : decode cX11_closes 3 = .ok (.invokevirtual 252, 3) := by decide +kernel
theorem dX11_closes_6 : decode cX11_closes 6 = .ok (.ifCond .ne 9, 3) := by decide +kernel
theorem dX11_closes_9 : decode cX11_closes 9 = .ok (.aload_n 0, 1) := by decide +kernel
theorem dX11_closes_10 : decode cX11_closes 10 = .ok (.iconst 1, 1) := by decide +kernel
theorem dX11_closes_11 : decode cX11_closes 11 = .ok (.invokevirtual 256, 3) := by decide +kernel
theorem dX11_closes_14 : decode cX11_closes 14 = .ok (.ireturn, 1) := by decide +kernel
theorem dX11_closes_15 : decode cX11_closes 15 = .ok (.aload_n 0, 1) := by decide +kernel
theorem dX11_closes_16 : decode cX11_closes 16 = .ok (.invokevirtual 262, 3) := by decide +kernel
theorem dX11_closes_19 : decode cX11_closes 19 = .ok (.iconst 1, 1) := by decide +kernel
theorem dX11_closes_20 : decode cX11_closes 20 = .ok (.ireturn, 1) := by decide +kernel
theorem dX11_needsNew_0 : decode cX11_needsNew 0 = .ok (.aload_n 0, 1) := by decide +kernel
theorem dX11_needsNew_1 : decode cX11_needsNew 1 = .ok (.invokevirtual 340, 3) := by decide +kernel
theorem dX11_needsNew_4 : decode cX11_needsNew 4 = .ok (.ifCond .eq 9, 3) := by decide +kernel
theorem dX11_needsNew_7 : decode cX11_needsNew 7 = .ok (.aload_n 0, 1) := by decide +kernel
theorem dX11_needsNew_8 : decode cX11_needsNew 8 = .ok (.iconst 1, 1) := by decide +kernel
theorem dX11_needsNew_9 : decode cX11_needsNew 9 = .ok (.invokevirtual 256, 3) := by decide +kernel
theorem dX11_needsNew_12 : decode cX11_needsNew 12 = .ok (.ireturn, 1) := by decide +kernel
theorem dX11_needsNew_13 : decode cX11_needsNew 13 = .ok (.aload_n 0, 1) := by decide +kernel
theorem dX11_needsNew_14 : decode cX11_needsNew 14 = .ok (.iconst 1, 1) := by decide +kernel
theorem dX11_needsNew_15 : decode cX11_needsNew 15 = .ok (.invokevirtual 344, 3) := by decide +kernel
theorem dX11_needsNew_18 : decode cX11_needsNew 18 = .ok (.ifCond .ge 33, 3) := by decide +kernel
theorem dX11_needsNew_21 : decode cX11_needsNew 21 = .ok (.aload_n 0, 1) := by decide +kernel
theorem dX11_needsNew_22 : decode cX11_needsNew 22 = .ok (.iconst 1, 1) := by decide +kernel
theorem dX11_needsNew_23 : decode cX11_needsNew 23 = .ok (.invokevirtual 347, 3) := by decide +kernel
theorem dX11_needsNew_26 : decode cX11_needsNew 26 = .ok (.ifCond .ge 25, 3) := by decide +kernel
theorem dX11_needsNew_29 : decode cX11_needsNew 29 = .ok (.aload_n 0, 1) := by decide +kernel
theorem dX11_needsNew_30 : decode cX11_needsNew 30 = .ok (.getfield 23, 3) := by decide +kernel
theorem dX11_needsNew_33 : decode cX11_needsNew 33 = .ok (.iconst 5, 1) := by decide +kernel
theorem dX11_needsNew_34 : decode cX11_needsNew 34 = .ok (.aload_n 0, 1) := by decide +kernel
theorem dX11_needsNew_35 : decode cX11_needsNew 35 = .ok (.getfield 13, 3) := by decide +kernel
theorem dX11_needsNew_38 : decode cX11_needsNew 38 = .ok (.bipush 11, 2) := by decide +kernel
theorem dX11_needsNew_40 : decode cX11_needsNew 40 = .ok (.iaload, 1) := by decide +kernel
theorem dX11_needsNew_41 : decode cX11_needsNew 41 = .ok (.aload_n 0, 1) := by decide +kernel
theorem dX11_needsNew_42 : decode cX11_needsNew 42 = .ok (.getfield 205, 3) := by decide +kernel
theorem dX11_needsNew_45 : decode cX11_needsNew 45 = .ok (.invokestatic 322, 3) := by decide +kernel
theorem dX11_needsNew_48 : decode cX11_needsNew 48 = .ok (.ifCond .lt 9, 3) := by decide +kernel
theorem dX11_needsNew_51 : decode cX11_needsNew 51 = .ok (.aload_n 0, 1) := by decide +kernel
theorem dX11_needsNew_52 : decode cX11_needsNew 52 = .ok (.iconst 3, 1) := by decide +kernel
theorem dX11_needsNew_53 : decode cX11_needsNew 53 = .ok (.invokevirtual 256, 3) := by decide +kernel
theorem dX11_needsNew_56 : decode cX11_needsNew 56 = .ok (.ireturn, 1) := by decide +kernel
theorem dX11_needsNew_57 : decode cX11_needsNew 57 = .ok (.aload_n 0, 1) := by decide +kernel
theorem dX11_needsNew_58 : decode cX11_needsNew 58 = .ok (.aload_n 0, 1) := by decide +kernel
theorem dX11_needsNew_59 : decode cX11_needsNew 59 = .ok (.getfield 205, 3) := by decide +kernel
theorem dX11_needsNew_62 : decode cX11_needsNew 62 = .ok (.putfield 350, 3) := by decide +kernel
theorem dX11_needsNew_65 : decode cX11_needsNew 65 = .ok (.aload_n 0, 1) := by decide +kernel
theorem dX11_needsNew_66 : decode cX11_needsNew 66 = .ok (.invokevirtual 262, 3) := by decide +kernel
theorem dX11_needsNew_69 : decode cX11_needsNew 69 = .ok (.iconst 1, 1) := by decide +kernel
theorem dX11_needsNew_70 : decode cX11_needsNew 70 = .ok (.ireturn, 1) := by decide +kernel
theorem dX11_needsPen_0 : decode cX11_needsPen 0 = .ok (.aload_n 0, 1) := by decide +kernel
theorem dX11_needsPen_1 : decode cX11_needsPen 1 = .ok (.invokevirtual 340, 3) := by decide +kernel
theorem dX11_needsPen_4 : decode cX11_needsPen 4 = .ok (.ifCond .eq 9, 3) := by decide +kernel
theorem dX11_needsPen_7 : decode cX11_needsPen 7 = .ok (.aload_n 0, 1) := by decide +kernel
theorem dX11_needsPen_8 : decode cX11_needsPen 8 = .ok (.iconst 1, 1) := by decide +kernel
theorem dX11_needsPen_9 : decode cX11_needsPen 9 = .ok (.invokevirtual 256, 3) := by decide +kernel
theorem dX11_needsPen_12 : decode cX11_needsPen 12 = .ok (.ireturn, 1) := by decide +kernel
theorem dX11_needsPen_13 : decode cX11_needsPen 13 = .ok (.aload_n 0, 1) := by decide +kernel
theorem dX11_needsPen_14 : decode cX11_needsPen 14 = .ok (.aload_n 0, 1) := by decide +kernel
theorem dX11_needsPen_15 : decode cX11_needsPen 15 = .ok (.iload_n 1, 1) := by decide +kernel
theorem dX11_needsPen_16 : decode cX11_needsPen 16 = .ok (.invokevirtual 344, 3) := by decide +kernel
theorem dX11_needsPen_19 : decode cX11_needsPen 19 = .ok (.putfield 330, 3) := by decide +kernel
theorem dX11_needsPen_22 : decode cX11_needsPen 22 = .ok (.aload_n 0, 1) := by decide +kernel
theorem dX11_needsPen_23 : decode cX11_needsPen 23 = .ok (.getfield 330, 3) := by decide +kernel
theorem dX11_needsPen_26 : decode cX11_needsPen 26 = .ok (.ifCond .ge 11, 3) := by decide +kernel
theorem dX11_needsPen_29 : decode cX11_needsPen 29 = .ok (.aload_n 0, 1) := by decide +kernel
theorem dX11_needsPen_30 : decode cX11_needsPen 30 = .ok (.iconst 2, 1) := by decide +kernel
theorem dX11_needsPen_31 : decode cX11_needsPen 31 = .ok (.invokevirtual 256, 3) := by decide +kernel
theorem dX11_needsPen_34 : decode cX11_needsPen 34 = .ok (.ifCond .eq 7, 3) := by decide +kernel
theorem dX11_needsPen_37 : decode cX11_needsPen 37 = .ok (.iconst 1, 1) := by decide +kernel
theorem dX11_needsPen_38 : decode cX11_needsPen 38 = .ok (.goto 4, 3) := by decide +kernel
theorem dX11_needsPen_41 : decode cX11_needsPen 41 = .ok (.iconst 0, 1) := by decide +kernel
theorem dX11_needsPen_42 : decode cX11_needsPen 42 = .ok (.ireturn, 1) := by decide +kernel
theorem dX11_needsGuest_0 : decode cX11_needsGuest 0 = .ok (.aload_n 0, 1) := by decide +kernel
theorem dX11_needsGuest_1 : decode cX11_needsGuest 1 = .ok (.invokevirtual 340, 3) := by decide +kernel
theorem dX11_needsGuest_4 : decode cX11_needsGuest 4 = .ok (.ifCond .eq 9, 3) := by decide +kernel
theorem dX11_needsGuest_7 : decode cX11_needsGuest 7 = .ok (.aload_n 0, 1) := by decide +kernel
theorem dX11_needsGuest_8 : decode cX11_needsGuest 8 = .ok (.iconst 1, 1) := by decide +kernel
theorem dX11_needsGuest_9 : decode cX11_needsGuest 9 = .ok (.invokevirtual 256, 3) := by decide +kernel
theorem dX11_needsGuest_12 : decode cX11_needsGuest 12 = .ok (.ireturn, 1) := by decide +kernel
theorem dX11_needsGuest_13 : decode cX11_needsGuest 13 = .ok (.aload_n 0, 1) := by decide +kernel
theorem dX11_needsGuest_14 : decode cX11_needsGuest 14 = .ok (.aload_n 0, 1) := by decide +kernel
theorem dX11_needsGuest_15 : decode cX11_needsGuest 15 = .ok (.iload_n 1, 1) := by decide +kernel
theorem dX11_needsGuest_16 : decode cX11_needsGuest 16 = .ok (.invokevirtual 347, 3) := by decide +kernel
theorem dX11_needsGuest_19 : decode cX11_needsGuest 19 = .ok (.putfield 330, 3) := by decide +kernel
theorem dX11_needsGuest_22 : decode cX11_needsGuest 22 = .ok (.aload_n 0, 1) := by decide +kernel
theorem dX11_needsGuest_23 : decode cX11_needsGuest 23 = .ok (.getfield 330, 3) := by decide +kernel
theorem dX11_needsGuest_26 : decode cX11_needsGuest 26 = .ok (.ifCond .ge 11, 3) := by decide +kernel
theorem dX11_needsGuest_29 : decode cX11_needsGuest 29 = .ok (.aload_n 0, 1) := by decide +kernel
theorem dX11_needsGuest_30 : decode cX11_needsGuest 30 = .ok (.iconst 2, 1) := by decide +kernel
theorem dX11_needsGuest_31 : decode cX11_needsGuest 31 = .ok (.invokevirtual 256, 3) := by decide +kernel
theorem dX11_needsGuest_34 : decode cX11_needsGuest 34 = .ok (.ifCond .eq 7, 3) := by decide +kernel
theorem dX11_needsGuest_37 : decode cX11_needsGuest 37 = .ok (.iconst 1, 1) := by decide +kernel
theorem dX11_needsGuest_38 : decode cX11_needsGuest 38 = .ok (.goto 4, 3) := by decide +kernel
theorem dX11_needsGuest_41 : decode cX11_needsGuest 41 = .ok (.iconst 0, 1) := by decide +kernel
theorem dX11_needsGuest_42 : decode cX11_needsGuest 42 = .ok (.ireturn, 1) := by decide +kernel
theorem dX11_needsKind_0 : decode cX11_needsKind 0 = .ok (.aload_n 0, 1) := by decide +kernel
theorem dX11_needsKind_1 : decode cX11_needsKind 1 = .ok (.aload_n 0, 1) := by decide +kernel
theorem dX11_needsKind_2 : decode cX11_needsKind 2 = .ok (.ldc2_w 314, 3) := by decide +kernel
theorem dX11_needsKind_5 : decode cX11_needsKind 5 = .ok (.invokevirtual 248, 3) := by decide +kernel
theorem dX11_needsKind_8 : decode cX11_needsKind 8 = .ok (.ifCond .eq 7, 3) := by decide +kernel
theorem dX11_needsKind_11 : decode cX11_needsKind 11 = .ok (.iconst 0, 1) := by decide +kernel
theorem dX11_needsKind_12 : decode cX11_needsKind 12 = .ok (.goto 46, 3) := by decide +kernel
theorem dX11_needsKind_15 : decode cX11_needsKind 15 = .ok (.aload_n 0, 1) := by decide +kernel
theorem dX11_needsKind_16 : decode cX11_needsKind 16 = .ok (.ldc2_w 316, 3) := by decide +kernel
theorem dX11_needsKind_19 : decode cX11_needsKind 19 = .ok (.invokevirtual 248, 3) := by decide +kernel
theorem dX11_needsKind_22 : decode cX11_needsKind 22 = .ok (.ifCond .eq 7, 3) := by decide +kernel
theorem dX11_needsKind_25 : decode cX11_needsKind 25 = .ok (.iconst 1, 1) := by decide +kernel
theorem dX11_needsKind_26 : decode cX11_needsKind 26 = .ok (.goto 32, 3) := by decide +kernel
theorem dX11_needsKind_29 : decode cX11_needsKind 29 = .ok (.aload_n 0, 1) := by decide +kernel
theorem dX11_needsKind_30 : decode cX11_needsKind 30 = .ok (.ldc2_w 318, 3) := by decide +kernel
theorem dX11_needsKind_33 : decode cX11_needsKind 33 = .ok (.invokevirtual 248, 3) := by decide +kernel
theorem dX11_needsKind_36 : decode cX11_needsKind 36 = .ok (.ifCond .eq 7, 3) := by decide +kernel
theorem dX11_needsKind_39 : decode cX11_needsKind 39 = .ok (.iconst 2, 1) := by decide +kernel
theorem dX11_needsKind_40 : decode cX11_needsKind 40 = .ok (.goto 18, 3) := by decide +kernel
theorem dX11_needsKind_43 : decode cX11_needsKind 43 = .ok (.aload_n 0, 1) := by decide +kernel
theorem dX11_needsKind_44 : decode cX11_needsKind 44 = .ok (.ldc2_w 320, 3) := by decide +kernel
theorem dX11_needsKind_47 : decode cX11_needsKind 47 = .ok (.invokevirtual 248, 3) := by decide +kernel
theorem dX11_needsKind_50 : decode cX11_needsKind 50 = .ok (.ifCond .eq 7, 3) := by decide +kernel
theorem dX11_needsKind_53 : decode cX11_needsKind 53 = .ok (.iconst 3, 1) := by decide +kernel
theorem dX11_needsKind_54 : decode cX11_needsKind 54 = .ok (.goto 4, 3) := by decide +kernel
theorem dX11_needsKind_57 : decode cX11_needsKind 57 = .ok (.iconst (-1), 1) := by decide +kernel
theorem dX11_needsKind_58 : decode cX11_needsKind 58 = .ok (.putfield 330, 3) := by decide +kernel
theorem dX11_needsKind_61 : decode cX11_needsKind 61 = .ok (.aload_n 0, 1) := by decide +kernel
theorem dX11_needsKind_62 : decode cX11_needsKind 62 = .ok (.getfield 330, 3) := by decide +kernel
theorem dX11_needsKind_65 : decode cX11_needsKind 65 = .ok (.ifCond .ge 9, 3) := by decide +kernel
theorem dX11_needsKind_68 : decode cX11_needsKind 68 = .ok (.aload_n 0, 1) := by decide +kernel
theorem dX11_needsKind_69 : decode cX11_needsKind 69 = .ok (.iconst 1, 1) := by decide +kernel
theorem dX11_needsKind_70 : decode cX11_needsKind 70 = .ok (.invokevirtual 256, 3) := by decide +kernel
theorem dX11_needsKind_73 : decode cX11_needsKind 73 = .ok (.ireturn, 1) := by decide +kernel
theorem dX11_needsKind_74 : decode cX11_needsKind 74 = .ok (.aload_n 0, 1) := by decide +kernel
theorem dX11_needsKind_75 : decode cX11_needsKind 75 = .ok (.invokevirtual 262, 3) := by decide +kernel
theorem dX11_needsKind_78 : decode cX11_needsKind 78 = .ok (.iconst 1, 1) := by decide +kernel
theorem dX11_needsKind_79 : decode cX11_needsKind 79 = .ok (.ireturn, 1) := by decide +kernel
theorem dX11_isTwice_0 : decode cX11_isTwice 0 = .ok (.aload_n 0, 1) := by decide +kernel
theorem dX11_isTwice_1 : decode cX11_isTwice 1 = .ok (.getfield 352, 3) := by decide +kernel
theorem dX11_isTwice_4 : decode cX11_isTwice 4 = .ok (.iload_n 1, 1) := by decide +kernel
theorem dX11_isTwice_5 : decode cX11_isTwice 5 = .ok (.ishr, 1) := by decide +kernel
theorem dX11_isTwice_6 : decode cX11_isTwice 6 = .ok (.iconst 1, 1) := by decide +kernel
theorem dX11_isTwice_7 : decode cX11_isTwice 7 = .ok (.iand, 1) := by decide +kernel
theorem dX11_isTwice_8 : decode cX11_isTwice 8 = .ok (.iconst 1, 1) := by decide +kernel
theorem dX11_isTwice_9 : decode cX11_isTwice 9 = .ok (.if_icmp .ne 5, 3) := by decide +kernel
theorem dX11_isTwice_12 : decode cX11_isTwice 12 = .ok (.iconst 1, 1) := by decide +kernel
theorem dX11_isTwice_13 : decode cX11_isTwice 13 = .ok (.ireturn, 1) := by decide +kernel
theorem dX11_isTwice_14 : decode cX11_isTwice 14 = .ok (.aload_n 0, 1) := by decide +kernel
theorem dX11_isTwice_15 : decode cX11_isTwice 15 = .ok (.dup, 1) := by decide +kernel
theorem dX11_isTwice_16 : decode cX11_isTwice 16 = .ok (.getfield 352, 3) := by decide +kernel
theorem dX11_isTwice_19 : decode cX11_isTwice 19 = .ok (.iconst 1, 1) := by decide +kernel
theorem dX11_isTwice_20 : decode cX11_isTwice 20 = .ok (.iload_n 1, 1) := by decide +kernel
theorem dX11_isTwice_21 : decode cX11_isTwice 21 = .ok (.ishl, 1) := by decide +kernel
theorem dX11_isTwice_22 : decode cX11_isTwice 22 = .ok (.ior, 1) := by decide +kernel
theorem dX11_isTwice_23 : decode cX11_isTwice 23 = .ok (.putfield 352, 3) := by decide +kernel
theorem dX11_isTwice_26 : decode cX11_isTwice 26 = .ok (.iconst 0, 1) := by decide +kernel
theorem dX11_isTwice_27 : decode cX11_isTwice 27 = .ok (.ireturn, 1) := by decide +kernel
theorem dX11_readsPen_0 : decode cX11_readsPen 0 = .ok (.bipush 6, 2) := by decide +kernel
theorem dX11_readsPen_2 : decode cX11_readsPen 2 = .ok (.aload_n 0, 1) := by decide +kernel
theorem dX11_readsPen_3 : decode cX11_readsPen 3 = .ok (.getfield 13, 3) := by decide +kernel
theorem dX11_readsPen_6 : decode cX11_readsPen 6 = .ok (.bipush 9, 2) := by decide +kernel
theorem dX11_readsPen_8 : decode cX11_readsPen 8 = .ok (.iaload, 1) := by decide +kernel
theorem dX11_readsPen_9 : decode cX11_readsPen 9 = .ok (.iadd, 1) := by decide +kernel
theorem dX11_readsPen_10 : decode cX11_readsPen 10 = .ok (.istore_n 1, 1) := by decide +kernel
theorem dX11_readsPen_11 : decode cX11_readsPen 11 = .ok (.iload_n 1, 1) := by decide +kernel
theorem dX11_readsPen_12 : decode cX11_readsPen 12 = .ok (.bipush 12, 2) := by decide +kernel
theorem dX11_readsPen_14 : decode cX11_readsPen 14 = .ok (.if_icmp .ne 9, 3) := by decide +kernel
theorem dX11_readsPen_17 : decode cX11_readsPen 17 = .ok (.aload_n 0, 1) := by decide +kernel
theorem dX11_readsPen_18 : decode cX11_readsPen 18 = .ok (.iconst 5, 1) := by decide +kernel
theorem dX11_readsPen_19 : decode cX11_readsPen 19 = .ok (.invokevirtual 256, 3) := by decide +kernel
theorem dX11_readsPen_22 : decode cX11_readsPen 22 = .ok (.ireturn, 1) := by decide +kernel
theorem dX11_readsPen_23 : decode cX11_readsPen 23 = .ok (.aload_n 0, 1) := by decide +kernel
theorem dX11_readsPen_24 : decode cX11_readsPen 24 = .ok (.invokevirtual 262, 3) := by decide +kernel
theorem dX11_readsPen_27 : decode cX11_readsPen 27 = .ok (.aload_n 0, 1) := by decide +kernel
theorem dX11_readsPen_28 : decode cX11_readsPen 28 = .ok (.invokevirtual 355, 3) := by decide +kernel
theorem dX11_readsPen_31 : decode cX11_readsPen 31 = .ok (.ifCond .eq 16, 3) := by decide +kernel
theorem dX11_readsPen_34 : decode cX11_readsPen 34 = .ok (.aload_n 0, 1) := by decide +kernel
theorem dX11_readsPen_35 : decode cX11_readsPen 35 = .ok (.ldc2_w 280, 3) := by decide +kernel
theorem dX11_readsPen_38 : decode cX11_readsPen 38 = .ok (.iconst 0, 1) := by decide +kernel
theorem dX11_readsPen_39 : decode cX11_readsPen 39 = .ok (.bipush 9, 2) := by decide +kernel
theorem dX11_readsPen_41 : decode cX11_readsPen 41 = .ok (.invokevirtual 358, 3) := by decide +kernel
theorem dX11_readsPen_44 : decode cX11_readsPen 44 = .ok (.ifCond .ne 5, 3) := by decide +kernel
theorem dX11_readsPen_47 : decode cX11_readsPen 47 = .ok (.iconst 0, 1) := by decide +kernel
theorem dX11_readsPen_48 : decode cX11_readsPen 48 = .ok (.ireturn, 1) := by decide +kernel
theorem dX11_readsPen_49 : decode cX11_readsPen 49 = .ok (.aload_n 0, 1) := by decide +kernel
theorem dX11_readsPen_50 : decode cX11_readsPen 50 = .ok (.getfield 26, 3) := by decide +kernel
theorem dX11_readsPen_53 : decode cX11_readsPen 53 = .ok (.iload_n 1, 1) := by decide +kernel
theorem dX11_readsPen_54 : decode cX11_readsPen 54 = .ok (.aload_n 0, 1) := by decide +kernel
theorem dX11_readsPen_55 : decode cX11_readsPen 55 = .ok (.getfield 330, 3) := by decide +kernel
theorem dX11_readsPen_58 : decode cX11_readsPen 58 = .ok (.iastore, 1) := by decide +kernel
theorem dX11_readsPen_59 : decode cX11_readsPen 59 = .ok (.aload_n 0, 1) := by decide +kernel
theorem dX11_readsPen_60 : decode cX11_readsPen 60 = .ok (.getfield 16, 3) := by decide +kernel
theorem dX11_readsPen_63 : decode cX11_readsPen 63 = .ok (.iload_n 1, 1) := by decide +kernel
theorem dX11_readsPen_64 : decode cX11_readsPen 64 = .ok (.aload_n 0, 1) := by decide +kernel
theorem dX11_readsPen_65 : decode cX11_readsPen 65 = .ok (.getfield 350, 3) := by decide +kernel
theorem dX11_readsPen_68 : decode cX11_readsPen 68 = .ok (.lastore, 1) := by decide +kernel
theorem dX11_readsPen_69 : decode cX11_readsPen 69 = .ok (.aload_n 0, 1) := by decide +kernel
theorem dX11_readsPen_70 : decode cX11_readsPen 70 = .ok (.getfield 13, 3) := by decide +kernel
theorem dX11_readsPen_73 : decode cX11_readsPen 73 = .ok (.bipush 9, 2) := by decide +kernel
theorem dX11_readsPen_75 : decode cX11_readsPen 75 = .ok (.dup2, 1) := by decide +kernel
theorem dX11_readsPen_76 : decode cX11_readsPen 76 = .ok (.iaload, 1) := by decide +kernel
theorem dX11_readsPen_77 : decode cX11_readsPen 77 = .ok (.iconst 1, 1) := by decide +kernel
theorem dX11_readsPen_78 : decode cX11_readsPen 78 = .ok (.iadd, 1) := by decide +kernel
theorem dX11_readsPen_79 : decode cX11_readsPen 79 = .ok (.iastore, 1) := by decide +kernel
theorem dX11_readsPen_80 : decode cX11_readsPen 80 = .ok (.aload_n 0, 1) := by decide +kernel
theorem dX11_readsPen_81 : decode cX11_readsPen 81 = .ok (.invokevirtual 362, 3) := by decide +kernel
theorem dX11_readsPen_84 : decode cX11_readsPen 84 = .ok (.ireturn, 1) := by decide +kernel
theorem dX11_readsPath_0 : decode cX11_readsPath 0 = .ok (.aload_n 0, 1) := by decide +kernel
theorem dX11_readsPath_1 : decode cX11_readsPath 1 = .ok (.invokevirtual 262, 3) := by decide +kernel
theorem dX11_readsPath_4 : decode cX11_readsPath 4 = .ok (.aload_n 0, 1) := by decide +kernel
theorem dX11_readsPath_5 : decode cX11_readsPath 5 = .ok (.iconst 1, 1) := by decide +kernel
theorem dX11_readsPath_6 : decode cX11_readsPath 6 = .ok (.invokevirtual 365, 3) := by decide +kernel
theorem dX11_readsPath_9 : decode cX11_readsPath 9 = .ok (.ifCond .ne 5, 3) := by decide +kernel
theorem dX11_readsPath_12 : decode cX11_readsPath 12 = .ok (.iconst 0, 1) := by decide +kernel
theorem dX11_readsPath_13 : decode cX11_readsPath 13 = .ok (.ireturn, 1) := by decide +kernel
theorem dX11_readsPath_14 : decode cX11_readsPath 14 = .ok (.aload_n 0, 1) := by decide +kernel
theorem dX11_readsPath_15 : decode cX11_readsPath 15 = .ok (.getfield 330, 3) := by decide +kernel
theorem dX11_readsPath_18 : decode cX11_readsPath 18 = .ok (.istore_n 1, 1) := by decide +kernel
theorem dX11_readsPath_19 : decode cX11_readsPath 19 = .ok (.aload_n 0, 1) := by decide +kernel
theorem dX11_readsPath_20 : decode cX11_readsPath 20 = .ok (.invokevirtual 262, 3) := by decide +kernel
theorem dX11_readsPath_23 : decode cX11_readsPath 23 = .ok (.aload_n 0, 1) := by decide +kernel
theorem dX11_readsPath_24 : decode cX11_readsPath 24 = .ok (.iconst 1, 1) := by decide +kernel
theorem dX11_readsPath_25 : decode cX11_readsPath 25 = .ok (.invokevirtual 365, 3) := by decide +kernel
theorem dX11_readsPath_28 : decode cX11_readsPath 28 = .ok (.ifCond .ne 5, 3) := by decide +kernel
theorem dX11_readsPath_31 : decode cX11_readsPath 31 = .ok (.iconst 0, 1) := by decide +kernel
theorem dX11_readsPath_32 : decode cX11_readsPath 32 = .ok (.ireturn, 1) := by decide +kernel
theorem dX11_readsPath_33 : decode cX11_readsPath 33 = .ok (.aload_n 0, 1) := by decide +kernel
theorem dX11_readsPath_34 : decode cX11_readsPath 34 = .ok (.getfield 330, 3) := by decide +kernel
theorem dX11_readsPath_37 : decode cX11_readsPath 37 = .ok (.istore_n 2, 1) := by decide +kernel
theorem dX11_readsPath_38 : decode cX11_readsPath 38 = .ok (.iload_n 1, 1) := by decide +kernel
theorem dX11_readsPath_39 : decode cX11_readsPath 39 = .ok (.iload_n 2, 1) := by decide +kernel
theorem dX11_readsPath_40 : decode cX11_readsPath 40 = .ok (.if_icmp .eq 20, 3) := by decide +kernel
theorem dX11_readsPath_43 : decode cX11_readsPath 43 = .ok (.aload_n 0, 1) := by decide +kernel
theorem dX11_readsPath_44 : decode cX11_readsPath 44 = .ok (.getfield 44, 3) := by decide +kernel
theorem dX11_readsPath_47 : decode cX11_readsPath 47 = .ok (.bipush 36, 2) := by decide +kernel
theorem dX11_readsPath_49 : decode cX11_readsPath 49 = .ok (.bipush 6, 2) := by decide +kernel
theorem dX11_readsPath_51 : decode cX11_readsPath 51 = .ok (.iload_n 1, 1) := by decide +kernel
theorem dX11_readsPath_52 : decode cX11_readsPath 52 = .ok (.imul, 1) := by decide +kernel
theorem dX11_readsPath_53 : decode cX11_readsPath 53 = .ok (.iadd, 1) := by decide +kernel
theorem dX11_readsPath_54 : decode cX11_readsPath 54 = .ok (.iload_n 2, 1) := by decide +kernel
theorem dX11_readsPath_55 : decode cX11_readsPath 55 = .ok (.iadd, 1) := by decide +kernel
theorem dX11_readsPath_56 : decode cX11_readsPath 56 = .ok (.iaload, 1) := by decide +kernel
theorem dX11_readsPath_57 : decode cX11_readsPath 57 = .ok (.ifCond .le 9, 3) := by decide +kernel
theorem dX11_readsPath_60 : decode cX11_readsPath 60 = .ok (.aload_n 0, 1) := by decide +kernel
theorem dX11_readsPath_61 : decode cX11_readsPath 61 = .ok (.iconst 3, 1) := by decide +kernel
theorem dX11_readsPath_62 : decode cX11_readsPath 62 = .ok (.invokevirtual 256, 3) := by decide +kernel
theorem dX11_readsPath_65 : decode cX11_readsPath 65 = .ok (.ireturn, 1) := by decide +kernel
theorem dX11_readsPath_66 : decode cX11_readsPath 66 = .ok (.aload_n 0, 1) := by decide +kernel
theorem dX11_readsPath_67 : decode cX11_readsPath 67 = .ok (.invokevirtual 262, 3) := by decide +kernel
theorem dX11_readsPath_70 : decode cX11_readsPath 70 = .ok (.aload_n 0, 1) := by decide +kernel
theorem dX11_readsPath_71 : decode cX11_readsPath 71 = .ok (.iconst 1, 1) := by decide +kernel
theorem dX11_readsPath_72 : decode cX11_readsPath 72 = .ok (.bipush 30, 2) := by decide +kernel
theorem dX11_readsPath_74 : decode cX11_readsPath 74 = .ok (.invokevirtual 336, 3) := by decide +kernel
theorem dX11_readsPath_77 : decode cX11_readsPath 77 = .ok (.ifCond .ne 5, 3) := by decide +kernel
theorem dX11_readsPath_80 : decode cX11_readsPath 80 = .ok (.iconst 0, 1) := by decide +kernel
theorem dX11_readsPath_81 : decode cX11_readsPath 81 = .ok (.ireturn, 1) := by decide +kernel
theorem dX11_readsPath_82 : decode cX11_readsPath 82 = .ok (.aload_n 0, 1) := by decide +kernel
theorem dX11_readsPath_83 : decode cX11_readsPath 83 = .ok (.getfield 44, 3) := by decide +kernel
theorem dX11_readsPath_86 : decode cX11_readsPath 86 = .ok (.bipush 36, 2) := by decide +kernel
theorem dX11_readsPath_88 : decode cX11_readsPath 88 = .ok (.bipush 6, 2) := by decide +kernel
theorem dX11_readsPath_90 : decode cX11_readsPath 90 = .ok (.iload_n 1, 1) := by decide +kernel
theorem dX11_readsPath_91 : decode cX11_readsPath 91 = .ok (.imul, 1) := by decide +kernel
theorem dX11_readsPath_92 : decode cX11_readsPath 92 = .ok (.iadd, 1) := by decide +kernel
theorem dX11_readsPath_93 : decode cX11_readsPath 93 = .ok (.iload_n 2, 1) := by decide +kernel
theorem dX11_readsPath_94 : decode cX11_readsPath 94 = .ok (.iadd, 1) := by decide +kernel
theorem dX11_readsPath_95 : decode cX11_readsPath 95 = .ok (.aload_n 0, 1) := by decide +kernel
theorem dX11_readsPath_96 : decode cX11_readsPath 96 = .ok (.getfield 330, 3) := by decide +kernel
theorem dX11_readsPath_99 : decode cX11_readsPath 99 = .ok (.iastore, 1) := by decide +kernel
theorem dX11_readsPath_100 : decode cX11_readsPath 100 = .ok (.aload_n 0, 1) := by decide +kernel
theorem dX11_readsPath_101 : decode cX11_readsPath 101 = .ok (.getfield 44, 3) := by decide +kernel
theorem dX11_readsPath_104 : decode cX11_readsPath 104 = .ok (.bipush 36, 2) := by decide +kernel
theorem dX11_readsPath_106 : decode cX11_readsPath 106 = .ok (.bipush 6, 2) := by decide +kernel
theorem dX11_readsPath_108 : decode cX11_readsPath 108 = .ok (.iload_n 2, 1) := by decide +kernel
theorem dX11_readsPath_109 : decode cX11_readsPath 109 = .ok (.imul, 1) := by decide +kernel
theorem dX11_readsPath_110 : decode cX11_readsPath 110 = .ok (.iadd, 1) := by decide +kernel
theorem dX11_readsPath_111 : decode cX11_readsPath 111 = .ok (.iload_n 1, 1) := by decide +kernel
theorem dX11_readsPath_112 : decode cX11_readsPath 112 = .ok (.iadd, 1) := by decide +kernel
theorem dX11_readsPath_113 : decode cX11_readsPath 113 = .ok (.aload_n 0, 1) := by decide +kernel
theorem dX11_readsPath_114 : decode cX11_readsPath 114 = .ok (.getfield 330, 3) := by decide +kernel
theorem dX11_readsPath_117 : decode cX11_readsPath 117 = .ok (.iastore, 1) := by decide +kernel
theorem dX11_readsPath_118 : decode cX11_readsPath 118 = .ok (.aload_n 0, 1) := by decide +kernel
theorem dX11_readsPath_119 : decode cX11_readsPath 119 = .ok (.getfield 13, 3) := by decide +kernel
theorem dX11_readsPath_122 : decode cX11_readsPath 122 = .ok (.bipush 12, 2) := by decide +kernel
theorem dX11_readsPath_124 : decode cX11_readsPath 124 = .ok (.dup2, 1) := by decide +kernel
theorem dX11_readsPath_125 : decode cX11_readsPath 125 = .ok (.iaload, 1) := by decide +kernel
theorem dX11_readsPath_126 : decode cX11_readsPath 126 = .ok (.iconst 1, 1) := by decide +kernel
theorem dX11_readsPath_127 : decode cX11_readsPath 127 = .ok (.iadd, 1) := by decide +kernel
theorem dX11_readsPath_128 : decode cX11_readsPath 128 = .ok (.iastore, 1) := by decide +kernel
theorem dX11_readsPath_129 : decode cX11_readsPath 129 = .ok (.aload_n 0, 1) := by decide +kernel
theorem dX11_readsPath_130 : decode cX11_readsPath 130 = .ok (.invokevirtual 362, 3) := by decide +kernel
theorem dX11_readsPath_133 : decode cX11_readsPath 133 = .ok (.ireturn, 1) := by decide +kernel
theorem dX11_readsGuest_0 : decode cX11_readsGuest 0 = .ok (.bipush 6, 2) := by decide +kernel
theorem dX11_readsGuest_2 : decode cX11_readsGuest 2 = .ok (.aload_n 0, 1) := by decide +kernel
theorem dX11_readsGuest_3 : decode cX11_readsGuest 3 = .ok (.getfield 13, 3) := by decide +kernel
theorem dX11_readsGuest_6 : decode cX11_readsGuest 6 = .ok (.bipush 10, 2) := by decide +kernel
theorem dX11_readsGuest_8 : decode cX11_readsGuest 8 = .ok (.iaload, 1) := by decide +kernel
theorem dX11_readsGuest_9 : decode cX11_readsGuest 9 = .ok (.iadd, 1) := by decide +kernel
theorem dX11_readsGuest_10 : decode cX11_readsGuest 10 = .ok (.istore_n 1, 1) := by decide +kernel
theorem dX11_readsGuest_11 : decode cX11_readsGuest 11 = .ok (.iload_n 1, 1) := by decide +kernel
theorem dX11_readsGuest_12 : decode cX11_readsGuest 12 = .ok (.bipush 12, 2) := by decide +kernel
theorem dX11_readsGuest_14 : decode cX11_readsGuest 14 = .ok (.if_icmp .ne 9, 3) := by decide +kernel
theorem dX11_readsGuest_17 : decode cX11_readsGuest 17 = .ok (.aload_n 0, 1) := by decide +kernel
theorem dX11_readsGuest_18 : decode cX11_readsGuest 18 = .ok (.iconst 5, 1) := by decide +kernel
theorem dX11_readsGuest_19 : decode cX11_readsGuest 19 = .ok (.invokevirtual 256, 3) := by decide +kernel
theorem dX11_readsGuest_22 : decode cX11_readsGuest 22 = .ok (.ireturn, 1) := by decide +kernel
theorem dX11_readsGuest_23 : decode cX11_readsGuest 23 = .ok (.aload_n 0, 1) := by decide +kernel
theorem dX11_readsGuest_24 : decode cX11_readsGuest 24 = .ok (.invokevirtual 262, 3) := by decide +kernel
theorem dX11_readsGuest_27 : decode cX11_readsGuest 27 = .ok (.aload_n 0, 1) := by decide +kernel
theorem dX11_readsGuest_28 : decode cX11_readsGuest 28 = .ok (.invokevirtual 355, 3) := by decide +kernel
theorem dX11_readsGuest_31 : decode cX11_readsGuest 31 = .ok (.ifCond .eq 10, 3) := by decide +kernel
theorem dX11_readsGuest_34 : decode cX11_readsGuest 34 = .ok (.aload_n 0, 1) := by decide +kernel
theorem dX11_readsGuest_35 : decode cX11_readsGuest 35 = .ok (.invokevirtual 368, 3) := by decide +kernel
theorem dX11_readsGuest_38 : decode cX11_readsGuest 38 = .ok (.ifCond .ne 5, 3) := by decide +kernel
theorem dX11_readsGuest_41 : decode cX11_readsGuest 41 = .ok (.iconst 0, 1) := by decide +kernel
theorem dX11_readsGuest_42 : decode cX11_readsGuest 42 = .ok (.ireturn, 1) := by decide +kernel
theorem dX11_readsGuest_43 : decode cX11_readsGuest 43 = .ok (.aload_n 0, 1) := by decide +kernel
theorem dX11_readsGuest_44 : decode cX11_readsGuest 44 = .ok (.getfield 29, 3) := by decide +kernel
theorem dX11_readsGuest_47 : decode cX11_readsGuest 47 = .ok (.iload_n 1, 1) := by decide +kernel
theorem dX11_readsGuest_48 : decode cX11_readsGuest 48 = .ok (.aload_n 0, 1) := by decide +kernel
theorem dX11_readsGuest_49 : decode cX11_readsGuest 49 = .ok (.getfield 330, 3) := by decide +kernel
theorem dX11_readsGuest_52 : decode cX11_readsGuest 52 = .ok (.iastore, 1) := by decide +kernel
theorem dX11_readsGuest_53 : decode cX11_readsGuest 53 = .ok (.aload_n 0, 1) := by decide +kernel
theorem dX11_readsGuest_54 : decode cX11_readsGuest 54 = .ok (.ldc2_w 286, 3) := by decide +kernel
theorem dX11_readsGuest_57 : decode cX11_readsGuest 57 = .ok (.iconst 0, 1) := by decide +kernel
theorem dX11_readsGuest_58 : decode cX11_readsGuest 58 = .ok (.bipush 9, 2) := by decide +kernel
theorem dX11_readsGuest_60 : decode cX11_readsGuest 60 = .ok (.invokevirtual 358, 3) := by decide +kernel
theorem dX11_readsGuest_63 : decode cX11_readsGuest 63 = .ok (.ifCond .ne 5, 3) := by decide +kernel
theorem dX11_readsGuest_66 : decode cX11_readsGuest 66 = .ok (.iconst 0, 1) := by decide +kernel
theorem dX11_readsGuest_67 : decode cX11_readsGuest 67 = .ok (.ireturn, 1) := by decide +kernel
theorem dX11_readsGuest_68 : decode cX11_readsGuest 68 = .ok (.aload_n 0, 1) := by decide +kernel
theorem dX11_readsGuest_69 : decode cX11_readsGuest 69 = .ok (.getfield 32, 3) := by decide +kernel
theorem dX11_readsGuest_72 : decode cX11_readsGuest 72 = .ok (.iload_n 1, 1) := by decide +kernel
theorem dX11_readsGuest_73 : decode cX11_readsGuest 73 = .ok (.aload_n 0, 1) := by decide +kernel
theorem dX11_readsGuest_74 : decode cX11_readsGuest 74 = .ok (.getfield 330, 3) := by decide +kernel
theorem dX11_readsGuest_77 : decode cX11_readsGuest 77 = .ok (.iastore, 1) := by decide +kernel
theorem dX11_readsGuest_78 : decode cX11_readsGuest 78 = .ok (.aload_n 0, 1) := by decide +kernel
theorem dX11_readsGuest_79 : decode cX11_readsGuest 79 = .ok (.ldc2_w 288, 3) := by decide +kernel
theorem dX11_readsGuest_82 : decode cX11_readsGuest 82 = .ok (.invokevirtual 333, 3) := by decide +kernel
theorem dX11_readsGuest_85 : decode cX11_readsGuest 85 = .ok (.ifCond .eq 11, 3) := by decide +kernel
theorem dX11_readsGuest_88 : decode cX11_readsGuest 88 = .ok (.aload_n 0, 1) := by decide +kernel
theorem dX11_readsGuest_89 : decode cX11_readsGuest 89 = .ok (.iconst 1, 1) := by decide +kernel
theorem dX11_readsGuest_90 : decode cX11_readsGuest 90 = .ok (.invokevirtual 365, 3) := by decide +kernel
theorem dX11_readsGuest_93 : decode cX11_readsGuest 93 = .ok (.ifCond .ne 5, 3) := by decide +kernel
theorem dX11_readsGuest_96 : decode cX11_readsGuest 96 = .ok (.iconst 0, 1) := by decide +kernel
theorem dX11_readsGuest_97 : decode cX11_readsGuest 97 = .ok (.ireturn, 1) := by decide +kernel
theorem dX11_readsGuest_98 : decode cX11_readsGuest 98 = .ok (.aload_n 0, 1) := by decide +kernel
theorem dX11_readsGuest_99 : decode cX11_readsGuest 99 = .ok (.getfield 35, 3) := by decide +kernel
theorem dX11_readsGuest_102 : decode cX11_readsGuest 102 = .ok (.iload_n 1, 1) := by decide +kernel
theorem dX11_readsGuest_103 : decode cX11_readsGuest 103 = .ok (.aload_n 0, 1) := by decide +kernel
theorem dX11_readsGuest_104 : decode cX11_readsGuest 104 = .ok (.getfield 330, 3) := by decide +kernel
theorem dX11_readsGuest_107 : decode cX11_readsGuest 107 = .ok (.iastore, 1) := by decide +kernel
theorem dX11_readsGuest_108 : decode cX11_readsGuest 108 = .ok (.aload_n 0, 1) := by decide +kernel
theorem dX11_readsGuest_109 : decode cX11_readsGuest 109 = .ok (.getfield 47, 3) := by decide +kernel
theorem dX11_readsGuest_112 : decode cX11_readsGuest 112 = .ok (.iload_n 1, 1) := by decide +kernel
theorem dX11_readsGuest_113 : decode cX11_readsGuest 113 = .ok (.iconst 0, 1) := by decide +kernel
theorem dX11_readsGuest_114 : decode cX11_readsGuest 114 = .ok (.iastore, 1) := by decide +kernel
theorem dX11_readsGuest_115 : decode cX11_readsGuest 115 = .ok (.aload_n 0, 1) := by decide +kernel
theorem dX11_readsGuest_116 : decode cX11_readsGuest 116 = .ok (.invokevirtual 262, 3) := by decide +kernel
theorem dX11_readsGuest_119 : decode cX11_readsGuest 119 = .ok (.aload_n 0, 1) := by decide +kernel
theorem dX11_readsGuest_120 : decode cX11_readsGuest 120 = .ok (.getfield 20, 3) := by decide +kernel
theorem dX11_readsGuest_123 : decode cX11_readsGuest 123 = .ok (.iload_n 1, 1) := by decide +kernel
theorem dX11_readsGuest_124 : decode cX11_readsGuest 124 = .ok (.aload_n 0, 1) := by decide +kernel
theorem dX11_readsGuest_125 : decode cX11_readsGuest 125 = .ok (.getfield 350, 3) := by decide +kernel
theorem dX11_readsGuest_128 : decode cX11_readsGuest 128 = .ok (.lastore, 1) := by decide +kernel
theorem dX11_readsGuest_129 : decode cX11_readsGuest 129 = .ok (.aload_n 0, 1) := by decide +kernel
theorem dX11_readsGuest_130 : decode cX11_readsGuest 130 = .ok (.getfield 13, 3) := by decide +kernel
theorem dX11_readsGuest_133 : decode cX11_readsGuest 133 = .ok (.bipush 10, 2) := by decide +kernel
theorem dX11_readsGuest_135 : decode cX11_readsGuest 135 = .ok (.dup2, 1) := by decide +kernel
theorem dX11_readsGuest_136 : decode cX11_readsGuest 136 = .ok (.iaload, 1) := by decide +kernel
theorem dX11_readsGuest_137 : decode cX11_readsGuest 137 = .ok (.iconst 1, 1) := by decide +kernel
theorem dX11_readsGuest_138 : decode cX11_readsGuest 138 = .ok (.iadd, 1) := by decide +kernel
theorem dX11_readsGuest_139 : decode cX11_readsGuest 139 = .ok (.iastore, 1) := by decide +kernel
theorem dX11_readsGuest_140 : decode cX11_readsGuest 140 = .ok (.aload_n 0, 1) := by decide +kernel
theorem dX11_readsGuest_141 : decode cX11_readsGuest 141 = .ok (.invokevirtual 362, 3) := by decide +kernel
theorem dX11_readsGuest_144 : decode cX11_readsGuest 144 = .ok (.ireturn, 1) := by decide +kernel
theorem dX11_readsAnimal_0 : decode cX11_readsAnimal 0 = .ok (.iconst 5, 1) := by decide +kernel
theorem dX11_readsAnimal_1 : decode cX11_readsAnimal 1 = .ok (.aload_n 0, 1) := by decide +kernel
theorem dX11_readsAnimal_2 : decode cX11_readsAnimal 2 = .ok (.getfield 13, 3) := by decide +kernel
theorem dX11_readsAnimal_5 : decode cX11_readsAnimal 5 = .ok (.bipush 11, 2) := by decide +kernel
theorem dX11_readsAnimal_7 : decode cX11_readsAnimal 7 = .ok (.iaload, 1) := by decide +kernel
theorem dX11_readsAnimal_8 : decode cX11_readsAnimal 8 = .ok (.iadd, 1) := by decide +kernel
theorem dX11_readsAnimal_9 : decode cX11_readsAnimal 9 = .ok (.istore_n 1, 1) := by decide +kernel
theorem dX11_readsAnimal_10 : decode cX11_readsAnimal 10 = .ok (.iload_n 1, 1) := by decide +kernel
theorem dX11_readsAnimal_11 : decode cX11_readsAnimal 11 = .ok (.bipush 10, 2) := by decide +kernel
theorem dX11_readsAnimal_13 : decode cX11_readsAnimal 13 = .ok (.if_icmp .ne 9, 3) := by decide +kernel
theorem dX11_readsAnimal_16 : decode cX11_readsAnimal 16 = .ok (.aload_n 0, 1) := by decide +kernel
theorem dX11_readsAnimal_17 : decode cX11_readsAnimal 17 = .ok (.iconst 5, 1) := by decide +kernel
theorem dX11_readsAnimal_18 : decode cX11_readsAnimal 18 = .ok (.invokevirtual 256, 3) := by decide +kernel
theorem dX11_readsAnimal_21 : decode cX11_readsAnimal 21 = .ok (.ireturn, 1) := by decide +kernel
theorem dX11_readsAnimal_22 : decode cX11_readsAnimal 22 = .ok (.aload_n 0, 1) := by decide +kernel
theorem dX11_readsAnimal_23 : decode cX11_readsAnimal 23 = .ok (.invokevirtual 262, 3) := by decide +kernel
theorem dX11_readsAnimal_26 : decode cX11_readsAnimal 26 = .ok (.aload_n 0, 1) := by decide +kernel
theorem dX11_readsAnimal_27 : decode cX11_readsAnimal 27 = .ok (.invokevirtual 355, 3) := by decide +kernel
theorem dX11_readsAnimal_30 : decode cX11_readsAnimal 30 = .ok (.ifCond .eq 20, 3) := by decide +kernel
theorem dX11_readsAnimal_33 : decode cX11_readsAnimal 33 = .ok (.aload_n 0, 1) := by decide +kernel
theorem dX11_readsAnimal_34 : decode cX11_readsAnimal 34 = .ok (.ldc2_w 292, 3) := by decide +kernel
theorem dX11_readsAnimal_37 : decode cX11_readsAnimal 37 = .ok (.invokevirtual 333, 3) := by decide +kernel
theorem dX11_readsAnimal_40 : decode cX11_readsAnimal 40 = .ok (.ifCond .eq 10, 3) := by decide +kernel
theorem dX11_readsAnimal_43 : decode cX11_readsAnimal 43 = .ok (.aload_n 0, 1) := by decide +kernel
theorem dX11_readsAnimal_44 : decode cX11_readsAnimal 44 = .ok (.invokevirtual 368, 3) := by decide +kernel
theorem dX11_readsAnimal_47 : decode cX11_readsAnimal 47 = .ok (.ifCond .ne 5, 3) := by decide +kernel
theorem dX11_readsAnimal_50 : decode cX11_readsAnimal 50 = .ok (.iconst 0, 1) := by decide +kernel
theorem dX11_readsAnimal_51 : decode cX11_readsAnimal 51 = .ok (.ireturn, 1) := by decide +kernel
theorem dX11_readsAnimal_52 : decode cX11_readsAnimal 52 = .ok (.aload_n 0, 1) := by decide +kernel
theorem dX11_readsAnimal_53 : decode cX11_readsAnimal 53 = .ok (.getfield 38, 3) := by decide +kernel
theorem dX11_readsAnimal_56 : decode cX11_readsAnimal 56 = .ok (.iload_n 1, 1) := by decide +kernel
theorem dX11_readsAnimal_57 : decode cX11_readsAnimal 57 = .ok (.aload_n 0, 1) := by decide +kernel
theorem dX11_readsAnimal_58 : decode cX11_readsAnimal 58 = .ok (.getfield 330, 3) := by decide +kernel
theorem dX11_readsAnimal_61 : decode cX11_readsAnimal 61 = .ok (.iastore, 1) := by decide +kernel
theorem dX11_readsAnimal_62 : decode cX11_readsAnimal 62 = .ok (.aload_n 0, 1) := by decide +kernel
theorem dX11_readsAnimal_63 : decode cX11_readsAnimal 63 = .ok (.ldc2_w 294, 3) := by decide +kernel
theorem dX11_readsAnimal_66 : decode cX11_readsAnimal 66 = .ok (.iconst 0, 1) := by decide +kernel
theorem dX11_readsAnimal_67 : decode cX11_readsAnimal 67 = .ok (.sipush 999, 3) := by decide +kernel
theorem dX11_readsAnimal_70 : decode cX11_readsAnimal 70 = .ok (.invokevirtual 358, 3) := by decide +kernel
theorem dX11_readsAnimal_73 : decode cX11_readsAnimal 73 = .ok (.ifCond .ne 5, 3) := by decide +kernel
theorem dX11_readsAnimal_76 : decode cX11_readsAnimal 76 = .ok (.iconst 0, 1) := by decide +kernel
theorem dX11_readsAnimal_77 : decode cX11_readsAnimal 77 = .ok (.ireturn, 1) := by decide +kernel
theorem dX11_readsAnimal_78 : decode cX11_readsAnimal 78 = .ok (.aload_n 0, 1) := by decide +kernel
theorem dX11_readsAnimal_79 : decode cX11_readsAnimal 79 = .ok (.getfield 41, 3) := by decide +kernel
theorem dX11_readsAnimal_82 : decode cX11_readsAnimal 82 = .ok (.iload_n 1, 1) := by decide +kernel
theorem dX11_readsAnimal_83 : decode cX11_readsAnimal 83 = .ok (.aload_n 0, 1) := by decide +kernel
theorem dX11_readsAnimal_84 : decode cX11_readsAnimal 84 = .ok (.getfield 330, 3) := by decide +kernel
theorem dX11_readsAnimal_87 : decode cX11_readsAnimal 87 = .ok (.iastore, 1) := by decide +kernel
theorem dX11_readsAnimal_88 : decode cX11_readsAnimal 88 = .ok (.aload_n 0, 1) := by decide +kernel
theorem dX11_readsAnimal_89 : decode cX11_readsAnimal 89 = .ok (.getfield 23, 3) := by decide +kernel
theorem dX11_readsAnimal_92 : decode cX11_readsAnimal 92 = .ok (.iload_n 1, 1) := by decide +kernel
theorem dX11_readsAnimal_93 : decode cX11_readsAnimal 93 = .ok (.aload_n 0, 1) := by decide +kernel
theorem dX11_readsAnimal_94 : decode cX11_readsAnimal 94 = .ok (.getfield 350, 3) := by decide +kernel
theorem dX11_readsAnimal_97 : decode cX11_readsAnimal 97 = .ok (.lastore, 1) := by decide +kernel
theorem dX11_readsAnimal_98 : decode cX11_readsAnimal 98 = .ok (.aload_n 0, 1) := by decide +kernel
theorem dX11_readsAnimal_99 : decode cX11_readsAnimal 99 = .ok (.getfield 13, 3) := by decide +kernel
theorem dX11_readsAnimal_102 : decode cX11_readsAnimal 102 = .ok (.bipush 11, 2) := by decide +kernel
theorem dX11_readsAnimal_104 : decode cX11_readsAnimal 104 = .ok (.dup2, 1) := by decide +kernel
theorem dX11_readsAnimal_105 : decode cX11_readsAnimal 105 = .ok (.iaload, 1) := by decide +kernel
theorem dX11_readsAnimal_106 : decode cX11_readsAnimal 106 = .ok (.iconst 1, 1) := by decide +kernel
theorem dX11_readsAnimal_107 : decode cX11_readsAnimal 107 = .ok (.iadd, 1) := by decide +kernel
theorem dX11_readsAnimal_108 : decode cX11_readsAnimal 108 = .ok (.iastore, 1) := by decide +kernel
theorem dX11_readsAnimal_109 : decode cX11_readsAnimal 109 = .ok (.aload_n 0, 1) := by decide +kernel
theorem dX11_readsAnimal_110 : decode cX11_readsAnimal 110 = .ok (.invokevirtual 362, 3) := by decide +kernel
theorem dX11_readsAnimal_113 : decode cX11_readsAnimal 113 = .ok (.ireturn, 1) := by decide +kernel
theorem dX11_readsFoe_0 : decode cX11_readsFoe 0 = .ok (.aload_n 0, 1) := by decide +kernel
theorem dX11_readsFoe_1 : decode cX11_readsFoe 1 = .ok (.invokevirtual 262, 3) := by decide +kernel
theorem dX11_readsFoe_4 : decode cX11_readsFoe 4 = .ok (.aload_n 0, 1) := by decide +kernel
theorem dX11_readsFoe_5 : decode cX11_readsFoe 5 = .ok (.iconst 1, 1) := by decide +kernel
theorem dX11_readsFoe_6 : decode cX11_readsFoe 6 = .ok (.invokevirtual 371, 3) := by decide +kernel
theorem dX11_readsFoe_9 : decode cX11_readsFoe 9 = .ok (.ifCond .ne 5, 3) := by decide +kernel
theorem dX11_readsFoe_12 : decode cX11_readsFoe 12 = .ok (.iconst 0, 1) := by decide +kernel
theorem dX11_readsFoe_13 : decode cX11_readsFoe 13 = .ok (.ireturn, 1) := by decide +kernel
theorem dX11_readsFoe_14 : decode cX11_readsFoe 14 = .ok (.aload_n 0, 1) := by decide +kernel
theorem dX11_readsFoe_15 : decode cX11_readsFoe 15 = .ok (.getfield 330, 3) := by decide +kernel
theorem dX11_readsFoe_18 : decode cX11_readsFoe 18 = .ok (.istore_n 1, 1) := by decide +kernel
theorem dX11_readsFoe_19 : decode cX11_readsFoe 19 = .ok (.aload_n 0, 1) := by decide +kernel
theorem dX11_readsFoe_20 : decode cX11_readsFoe 20 = .ok (.invokevirtual 262, 3) := by decide +kernel
theorem dX11_readsFoe_23 : decode cX11_readsFoe 23 = .ok (.aload_n 0, 1) := by decide +kernel
theorem dX11_readsFoe_24 : decode cX11_readsFoe 24 = .ok (.iconst 1, 1) := by decide +kernel
theorem dX11_readsFoe_25 : decode cX11_readsFoe 25 = .ok (.invokevirtual 371, 3) := by decide +kernel
theorem dX11_readsFoe_28 : decode cX11_readsFoe 28 = .ok (.ifCond .ne 5, 3) := by decide +kernel
theorem dX11_readsFoe_31 : decode cX11_readsFoe 31 = .ok (.iconst 0, 1) := by decide +kernel
theorem dX11_readsFoe_32 : decode cX11_readsFoe 32 = .ok (.ireturn, 1) := by decide +kernel
theorem dX11_readsFoe_33 : decode cX11_readsFoe 33 = .ok (.aload_n 0, 1) := by decide +kernel
theorem dX11_readsFoe_34 : decode cX11_readsFoe 34 = .ok (.getfield 330, 3) := by decide +kernel
theorem dX11_readsFoe_37 : decode cX11_readsFoe 37 = .ok (.istore_n 2, 1) := by decide +kernel
theorem dX11_readsFoe_38 : decode cX11_readsFoe 38 = .ok (.iload_n 1, 1) := by decide +kernel
theorem dX11_readsFoe_39 : decode cX11_readsFoe 39 = .ok (.iload_n 2, 1) := by decide +kernel
theorem dX11_readsFoe_40 : decode cX11_readsFoe 40 = .ok (.if_icmp .eq 20, 3) := by decide +kernel
theorem dX11_readsFoe_43 : decode cX11_readsFoe 43 = .ok (.aload_n 0, 1) := by decide +kernel
theorem dX11_readsFoe_44 : decode cX11_readsFoe 44 = .ok (.getfield 47, 3) := by decide +kernel
theorem dX11_readsFoe_47 : decode cX11_readsFoe 47 = .ok (.bipush 6, 2) := by decide +kernel
theorem dX11_readsFoe_49 : decode cX11_readsFoe 49 = .ok (.iload_n 1, 1) := by decide +kernel
theorem dX11_readsFoe_50 : decode cX11_readsFoe 50 = .ok (.iadd, 1) := by decide +kernel
theorem dX11_readsFoe_51 : decode cX11_readsFoe 51 = .ok (.iaload, 1) := by decide +kernel
theorem dX11_readsFoe_52 : decode cX11_readsFoe 52 = .ok (.iload_n 2, 1) := by decide +kernel
theorem dX11_readsFoe_53 : decode cX11_readsFoe 53 = .ok (.ishr, 1) := by decide +kernel
theorem dX11_readsFoe_54 : decode cX11_readsFoe 54 = .ok (.iconst 1, 1) := by decide +kernel
theorem dX11_readsFoe_55 : decode cX11_readsFoe 55 = .ok (.iand, 1) := by decide +kernel
theorem dX11_readsFoe_56 : decode cX11_readsFoe 56 = .ok (.iconst 1, 1) := by decide +kernel
theorem dX11_readsFoe_57 : decode cX11_readsFoe 57 = .ok (.if_icmp .ne 9, 3) := by decide +kernel
theorem dX11_readsFoe_60 : decode cX11_readsFoe 60 = .ok (.aload_n 0, 1) := by decide +kernel
theorem dX11_readsFoe_61 : decode cX11_readsFoe 61 = .ok (.iconst 3, 1) := by decide +kernel
theorem dX11_readsFoe_62 : decode cX11_readsFoe 62 = .ok (.invokevirtual 256, 3) := by decide +kernel
theorem dX11_readsFoe_65 : decode cX11_readsFoe 65 = .ok (.ireturn, 1) := by decide +kernel
theorem dX11_readsFoe_66 : decode cX11_readsFoe 66 = .ok (.aload_n 0, 1) := by decide +kernel
theorem dX11_readsFoe_67 : decode cX11_readsFoe 67 = .ok (.invokevirtual 262, 3) := by decide +kernel
theorem dX11_readsFoe_70 : decode cX11_readsFoe 70 = .ok (.aload_n 0, 1) := by decide +kernel
theorem dX11_readsFoe_71 : decode cX11_readsFoe 71 = .ok (.getfield 47, 3) := by decide +kernel
theorem dX11_readsFoe_74 : decode cX11_readsFoe 74 = .ok (.bipush 6, 2) := by decide +kernel
theorem dX11_readsFoe_76 : decode cX11_readsFoe 76 = .ok (.iload_n 1, 1) := by decide +kernel
theorem dX11_readsFoe_77 : decode cX11_readsFoe 77 = .ok (.iadd, 1) := by decide +kernel
theorem dX11_readsFoe_78 : decode cX11_readsFoe 78 = .ok (.dup2, 1) := by decide +kernel
theorem dX11_readsFoe_79 : decode cX11_readsFoe 79 = .ok (.iaload, 1) := by decide +kernel
theorem dX11_readsFoe_80 : decode cX11_readsFoe 80 = .ok (.iconst 1, 1) := by decide +kernel
theorem dX11_readsFoe_81 : decode cX11_readsFoe 81 = .ok (.iload_n 2, 1) := by decide +kernel
theorem dX11_readsFoe_82 : decode cX11_readsFoe 82 = .ok (.ishl, 1) := by decide +kernel
theorem dX11_readsFoe_83 : decode cX11_readsFoe 83 = .ok (.ior, 1) := by decide +kernel
theorem dX11_readsFoe_84 : decode cX11_readsFoe 84 = .ok (.iastore, 1) := by decide +kernel
theorem dX11_readsFoe_85 : decode cX11_readsFoe 85 = .ok (.aload_n 0, 1) := by decide +kernel
theorem dX11_readsFoe_86 : decode cX11_readsFoe 86 = .ok (.getfield 47, 3) := by decide +kernel
theorem dX11_readsFoe_89 : decode cX11_readsFoe 89 = .ok (.bipush 6, 2) := by decide +kernel
theorem dX11_readsFoe_91 : decode cX11_readsFoe 91 = .ok (.iload_n 2, 1) := by decide +kernel
theorem dX11_readsFoe_92 : decode cX11_readsFoe 92 = .ok (.iadd, 1) := by decide +kernel
theorem dX11_readsFoe_93 : decode cX11_readsFoe 93 = .ok (.dup2, 1) := by decide +kernel
theorem dX11_readsFoe_94 : decode cX11_readsFoe 94 = .ok (.iaload, 1) := by decide +kernel
theorem dX11_readsFoe_95 : decode cX11_readsFoe 95 = .ok (.iconst 1, 1) := by decide +kernel
theorem dX11_readsFoe_96 : decode cX11_readsFoe 96 = .ok (.iload_n 1, 1) := by decide +kernel
theorem dX11_readsFoe_97 : decode cX11_readsFoe 97 = .ok (.ishl, 1) := by decide +kernel
theorem dX11_readsFoe_98 : decode cX11_readsFoe 98 = .ok (.ior, 1) := by decide +kernel
theorem dX11_readsFoe_99 : decode cX11_readsFoe 99 = .ok (.iastore, 1) := by decide +kernel
theorem dX11_readsFoe_100 : decode cX11_readsFoe 100 = .ok (.aload_n 0, 1) := by decide +kernel
theorem dX11_readsFoe_101 : decode cX11_readsFoe 101 = .ok (.getfield 13, 3) := by decide +kernel
theorem dX11_readsFoe_104 : decode cX11_readsFoe 104 = .ok (.bipush 13, 2) := by decide +kernel
theorem dX11_readsFoe_106 : decode cX11_readsFoe 106 = .ok (.dup2, 1) := by decide +kernel
theorem dX11_readsFoe_107 : decode cX11_readsFoe 107 = .ok (.iaload, 1) := by decide +kernel
theorem dX11_readsFoe_108 : decode cX11_readsFoe 108 = .ok (.iconst 1, 1) := by decide +kernel
theorem dX11_readsFoe_109 : decode cX11_readsFoe 109 = .ok (.iadd, 1) := by decide +kernel
theorem dX11_readsFoe_110 : decode cX11_readsFoe 110 = .ok (.iastore, 1) := by decide +kernel
theorem dX11_readsFoe_111 : decode cX11_readsFoe 111 = .ok (.aload_n 0, 1) := by decide +kernel
theorem dX11_readsFoe_112 : decode cX11_readsFoe 112 = .ok (.invokevirtual 362, 3) := by decide +kernel
theorem dX11_readsFoe_115 : decode cX11_readsFoe 115 = .ok (.ireturn, 1) := by decide +kernel
theorem dX11_readsOne_0 : decode cX11_readsOne 0 = .ok (.aload_n 0, 1) := by decide +kernel
theorem dX11_readsOne_1 : decode cX11_readsOne 1 = .ok (.iload_n 1, 1) := by decide +kernel
theorem dX11_readsOne_2 : decode cX11_readsOne 2 = .ok (.invokevirtual 374, 3) := by decide +kernel
theorem dX11_readsOne_5 : decode cX11_readsOne 5 = .ok (.ifCond .eq 9, 3) := by decide +kernel
theorem dX11_readsOne_8 : decode cX11_readsOne 8 = .ok (.aload_n 0, 1) := by decide +kernel
theorem dX11_readsOne_9 : decode cX11_readsOne 9 = .ok (.iconst 3, 1) := by decide +kernel
theorem dX11_readsOne_10 : decode cX11_readsOne 10 = .ok (.invokevirtual 256, 3) := by decide +kernel
theorem dX11_readsOne_13 : decode cX11_readsOne 13 = .ok (.ireturn, 1) := by decide +kernel
theorem dX11_readsOne_14 : decode cX11_readsOne 14 = .ok (.aload_n 0, 1) := by decide +kernel
theorem dX11_readsOne_15 : decode cX11_readsOne 15 = .ok (.invokevirtual 262, 3) := by decide +kernel
theorem dX11_readsOne_18 : decode cX11_readsOne 18 = .ok (.aload_n 0, 1) := by decide +kernel
theorem dX11_readsOne_19 : decode cX11_readsOne 19 = .ok (.iconst 0, 1) := by decide +kernel
theorem dX11_readsOne_20 : decode cX11_readsOne 20 = .ok (.iload_n 2, 1) := by decide +kernel
theorem dX11_readsOne_21 : decode cX11_readsOne 21 = .ok (.invokevirtual 336, 3) := by decide +kernel
theorem dX11_readsOne_24 : decode cX11_readsOne 24 = .ok (.ifCond .ne 5, 3) := by decide +kernel
theorem dX11_readsOne_27 : decode cX11_readsOne 27 = .ok (.iconst 0, 1) := by decide +kernel
theorem dX11_readsOne_28 : decode cX11_readsOne 28 = .ok (.ireturn, 1) := by decide +kernel
theorem dX11_readsOne_29 : decode cX11_readsOne 29 = .ok (.aload_n 0, 1) := by decide +kernel
theorem dX11_readsOne_30 : decode cX11_readsOne 30 = .ok (.getfield 13, 3) := by decide +kernel
theorem dX11_readsOne_33 : decode cX11_readsOne 33 = .ok (.bipush 9, 2) := by decide +kernel
theorem dX11_readsOne_35 : decode cX11_readsOne 35 = .ok (.iload_n 1, 1) := by decide +kernel
theorem dX11_readsOne_36 : decode cX11_readsOne 36 = .ok (.iadd, 1) := by decide +kernel
theorem dX11_readsOne_37 : decode cX11_readsOne 37 = .ok (.aload_n 0, 1) := by decide +kernel
theorem dX11_readsOne_38 : decode cX11_readsOne 38 = .ok (.getfield 330, 3) := by decide +kernel
theorem dX11_readsOne_41 : decode cX11_readsOne 41 = .ok (.iastore, 1) := by decide +kernel
theorem dX11_readsOne_42 : decode cX11_readsOne 42 = .ok (.aload_n 0, 1) := by decide +kernel
theorem dX11_readsOne_43 : decode cX11_readsOne 43 = .ok (.invokevirtual 362, 3) := by decide +kernel
theorem dX11_readsOne_46 : decode cX11_readsOne 46 = .ok (.ireturn, 1) := by decide +kernel
theorem dX11_readsTyre_0 : decode cX11_readsTyre 0 = .ok (.aload_n 0, 1) := by decide +kernel
theorem dX11_readsTyre_1 : decode cX11_readsTyre 1 = .ok (.bipush 6, 2) := by decide +kernel
theorem dX11_readsTyre_3 : decode cX11_readsTyre 3 = .ok (.invokevirtual 374, 3) := by decide +kernel
theorem dX11_readsTyre_6 : decode cX11_readsTyre 6 = .ok (.ifCond .eq 9, 3) := by decide +kernel
theorem dX11_readsTyre_9 : decode cX11_readsTyre 9 = .ok (.aload_n 0, 1) := by decide +kernel
theorem dX11_readsTyre_10 : decode cX11_readsTyre 10 = .ok (.iconst 3, 1) := by decide +kernel
theorem dX11_readsTyre_11 : decode cX11_readsTyre 11 = .ok (.invokevirtual 256, 3) := by decide +kernel
theorem dX11_readsTyre_14 : decode cX11_readsTyre 14 = .ok (.ireturn, 1) := by decide +kernel
theorem dX11_readsTyre_15 : decode cX11_readsTyre 15 = .ok (.aload_n 0, 1) := by decide +kernel
theorem dX11_readsTyre_16 : decode cX11_readsTyre 16 = .ok (.invokevirtual 262, 3) := by decide +kernel
theorem dX11_readsTyre_19 : decode cX11_readsTyre 19 = .ok (.aload_n 0, 1) := by decide +kernel
theorem dX11_readsTyre_20 : decode cX11_readsTyre 20 = .ok (.iconst 1, 1) := by decide +kernel
theorem dX11_readsTyre_21 : decode cX11_readsTyre 21 = .ok (.bipush 9, 2) := by decide +kernel
theorem dX11_readsTyre_23 : decode cX11_readsTyre 23 = .ok (.invokevirtual 336, 3) := by decide +kernel
theorem dX11_readsTyre_26 : decode cX11_readsTyre 26 = .ok (.ifCond .ne 5, 3) := by decide +kernel
theorem dX11_readsTyre_29 : decode cX11_readsTyre 29 = .ok (.iconst 0, 1) := by decide +kernel
theorem dX11_readsTyre_30 : decode cX11_readsTyre 30 = .ok (.ireturn, 1) := by decide +kernel
theorem dX11_readsTyre_31 : decode cX11_readsTyre 31 = .ok (.aload_n 0, 1) := by decide +kernel
theorem dX11_readsTyre_32 : decode cX11_readsTyre 32 = .ok (.getfield 13, 3) := by decide +kernel
theorem dX11_readsTyre_35 : decode cX11_readsTyre 35 = .ok (.bipush 15, 2) := by decide +kernel
theorem dX11_readsTyre_37 : decode cX11_readsTyre 37 = .ok (.aload_n 0, 1) := by decide +kernel
theorem dX11_readsTyre_38 : decode cX11_readsTyre 38 = .ok (.getfield 330, 3) := by decide +kernel
theorem dX11_readsTyre_41 : decode cX11_readsTyre 41 = .ok (.iastore, 1) := by decide +kernel
theorem dX11_readsTyre_42 : decode cX11_readsTyre 42 = .ok (.aload_n 0, 1) := by decide +kernel
theorem dX11_readsTyre_43 : decode cX11_readsTyre 43 = .ok (.ldc2_w 302, 3) := by decide +kernel
theorem dX11_readsTyre_46 : decode cX11_readsTyre 46 = .ok (.iconst 0, 1) := by decide +kernel
theorem dX11_readsTyre_47 : decode cX11_readsTyre 47 = .ok (.bipush 99, 2) := by decide +kernel
theorem dX11_readsTyre_49 : decode cX11_readsTyre 49 = .ok (.invokevirtual 358, 3) := by decide +kernel
theorem dX11_readsTyre_52 : decode cX11_readsTyre 52 = .ok (.ifCond .ne 5, 3) := by decide +kernel
theorem dX11_readsTyre_55 : decode cX11_readsTyre 55 = .ok (.iconst 0, 1) := by decide +kernel
theorem dX11_readsTyre_56 : decode cX11_readsTyre 56 = .ok (.ireturn, 1) := by decide +kernel
theorem dX11_readsTyre_57 : decode cX11_readsTyre 57 = .ok (.aload_n 0, 1) := by decide +kernel
theorem dX11_readsTyre_58 : decode cX11_readsTyre 58 = .ok (.getfield 13, 3) := by decide +kernel
theorem dX11_readsTyre_61 : decode cX11_readsTyre 61 = .ok (.bipush 16, 2) := by decide +kernel
theorem dX11_readsTyre_63 : decode cX11_readsTyre 63 = .ok (.aload_n 0, 1) := by decide +kernel
theorem dX11_readsTyre_64 : decode cX11_readsTyre 64 = .ok (.getfield 330, 3) := by decide +kernel
theorem dX11_readsTyre_67 : decode cX11_readsTyre 67 = .ok (.iastore, 1) := by decide +kernel
theorem dX11_readsTyre_68 : decode cX11_readsTyre 68 = .ok (.aload_n 0, 1) := by decide +kernel
theorem dX11_readsTyre_69 : decode cX11_readsTyre 69 = .ok (.invokevirtual 362, 3) := by decide +kernel
theorem dX11_readsTyre_72 : decode cX11_readsTyre 72 = .ok (.ireturn, 1) := by decide +kernel
theorem dX11_readsLaw_0 : decode cX11_readsLaw 0 = .ok (.aload_n 0, 1) := by decide +kernel
theorem dX11_readsLaw_1 : decode cX11_readsLaw 1 = .ok (.getfield 53, 3) := by decide +kernel
theorem dX11_readsLaw_4 : decode cX11_readsLaw 4 = .ok (.iconst 2, 1) := by decide +kernel
theorem dX11_readsLaw_5 : decode cX11_readsLaw 5 = .ok (.iload_n 1, 1) := by decide +kernel
theorem dX11_readsLaw_6 : decode cX11_readsLaw 6 = .ok (.iadd, 1) := by decide +kernel
theorem dX11_readsLaw_7 : decode cX11_readsLaw 7 = .ok (.iaload, 1) := by decide +kernel
theorem dX11_readsLaw_8 : decode cX11_readsLaw 8 = .ok (.aload_n 0, 1) := by decide +kernel
theorem dX11_readsLaw_9 : decode cX11_readsLaw 9 = .ok (.getfield 50, 3) := by decide +kernel
theorem dX11_readsLaw_12 : decode cX11_readsLaw 12 = .ok (.iconst 2, 1) := by decide +kernel
theorem dX11_readsLaw_13 : decode cX11_readsLaw 13 = .ok (.iload_n 1, 1) := by decide +kernel
theorem dX11_readsLaw_14 : decode cX11_readsLaw 14 = .ok (.iadd, 1) := by decide +kernel
theorem dX11_readsLaw_15 : decode cX11_readsLaw 15 = .ok (.iaload, 1) := by decide +kernel
theorem dX11_readsLaw_16 : decode cX11_readsLaw 16 = .ok (.if_icmp .le 9, 3) := by decide +kernel
theorem dX11_readsLaw_19 : decode cX11_readsLaw 19 = .ok (.aload_n 0, 1) := by decide +kernel
theorem dX11_readsLaw_20 : decode cX11_readsLaw 20 = .ok (.iconst 3, 1) := by decide +kernel
theorem dX11_readsLaw_21 : decode cX11_readsLaw 21 = .ok (.invokevirtual 256, 3) := by decide +kernel
theorem dX11_readsLaw_24 : decode cX11_readsLaw 24 = .ok (.ireturn, 1) := by decide +kernel
theorem dX11_readsLaw_25 : decode cX11_readsLaw 25 = .ok (.aload_n 0, 1) := by decide +kernel
theorem dX11_readsLaw_26 : decode cX11_readsLaw 26 = .ok (.iload_n 1, 1) := by decide +kernel
theorem dX11_readsLaw_27 : decode cX11_readsLaw 27 = .ok (.putfield 233, 3) := by decide +kernel
theorem dX11_readsLaw_30 : decode cX11_readsLaw 30 = .ok (.aload_n 0, 1) := by decide +kernel
theorem dX11_readsLaw_31 : decode cX11_readsLaw 31 = .ok (.invokevirtual 262, 3) := by decide +kernel
theorem dX11_readsLaw_34 : decode cX11_readsLaw 34 = .ok (.aload_n 0, 1) := by decide +kernel
theorem dX11_readsLaw_35 : decode cX11_readsLaw 35 = .ok (.getfield 50, 3) := by decide +kernel
theorem dX11_readsLaw_38 : decode cX11_readsLaw 38 = .ok (.iconst 2, 1) := by decide +kernel
theorem dX11_readsLaw_39 : decode cX11_readsLaw 39 = .ok (.iload_n 1, 1) := by decide +kernel
theorem dX11_readsLaw_40 : decode cX11_readsLaw 40 = .ok (.iadd, 1) := by decide +kernel
theorem dX11_readsLaw_41 : decode cX11_readsLaw 41 = .ok (.aload_n 0, 1) := by decide +kernel
theorem dX11_readsLaw_42 : decode cX11_readsLaw 42 = .ok (.getfield 226, 3) := by decide +kernel
theorem dX11_readsLaw_45 : decode cX11_readsLaw 45 = .ok (.iastore, 1) := by decide +kernel
theorem dX11_readsLaw_46 : decode cX11_readsLaw 46 = .ok (.aload_n 0, 1) := by decide +kernel
theorem dX11_readsLaw_47 : decode cX11_readsLaw 47 = .ok (.invokevirtual 377, 3) := by decide +kernel
theorem dX11_readsLaw_50 : decode cX11_readsLaw 50 = .ok (.ifCond .ne 5, 3) := by decide +kernel
theorem dX11_readsLaw_53 : decode cX11_readsLaw 53 = .ok (.iconst 0, 1) := by decide +kernel
theorem dX11_readsLaw_54 : decode cX11_readsLaw 54 = .ok (.ireturn, 1) := by decide +kernel
theorem dX11_readsLaw_55 : decode cX11_readsLaw 55 = .ok (.aload_n 0, 1) := by decide +kernel
theorem dX11_readsLaw_56 : decode cX11_readsLaw 56 = .ok (.getfield 53, 3) := by decide +kernel
theorem dX11_readsLaw_59 : decode cX11_readsLaw 59 = .ok (.iconst 2, 1) := by decide +kernel
theorem dX11_readsLaw_60 : decode cX11_readsLaw 60 = .ok (.iload_n 1, 1) := by decide +kernel
theorem dX11_readsLaw_61 : decode cX11_readsLaw 61 = .ok (.iadd, 1) := by decide +kernel
theorem dX11_readsLaw_62 : decode cX11_readsLaw 62 = .ok (.aload_n 0, 1) := by decide +kernel
theorem dX11_readsLaw_63 : decode cX11_readsLaw 63 = .ok (.getfield 226, 3) := by decide +kernel
theorem dX11_readsLaw_66 : decode cX11_readsLaw 66 = .ok (.iastore, 1) := by decide +kernel
theorem dX11_readsLaw_67 : decode cX11_readsLaw 67 = .ok (.iconst 1, 1) := by decide +kernel
theorem dX11_readsLaw_68 : decode cX11_readsLaw 68 = .ok (.ireturn, 1) := by decide +kernel
theorem dX11_starts_0 : decode cX11_starts 0 = .ok (.aload_n 0, 1) := by decide +kernel
theorem dX11_starts_1 : decode cX11_starts 1 = .ok (.aload_n 0, 1) := by decide +kernel
theorem dX11_starts_2 : decode cX11_starts 2 = .ok (.getfield 193, 3) := by decide +kernel
theorem dX11_starts_5 : decode cX11_starts 5 = .ok (.putfield 196, 3) := by decide +kernel
theorem dX11_starts_8 : decode cX11_starts 8 = .ok (.aload_n 0, 1) := by decide +kernel
theorem dX11_starts_9 : decode cX11_starts 9 = .ok (.iconst 0, 1) := by decide +kernel
theorem dX11_starts_10 : decode cX11_starts 10 = .ok (.putfield 193, 3) := by decide +kernel
theorem dX11_starts_13 : decode cX11_starts 13 = .ok (.aload_n 0, 1) := by decide +kernel
theorem dX11_starts_14 : decode cX11_starts 14 = .ok (.iconst 0, 1) := by decide +kernel
theorem dX11_starts_15 : decode cX11_starts 15 = .ok (.putfield 199, 3) := by decide +kernel
theorem dX11_starts_18 : decode cX11_starts 18 = .ok (.aload_n 0, 1) := by decide +kernel
theorem dX11_starts_19 : decode cX11_starts 19 = .ok (.invokevirtual 262, 3) := by decide +kernel
theorem dX11_starts_22 : decode cX11_starts 22 = .ok (.return_, 1) := by decide +kernel
theorem dX11_readsAll_0 : decode cX11_readsAll 0 = .ok (.aload_n 0, 1) := by decide +kernel
theorem dX11_readsAll_1 : decode cX11_readsAll 1 = .ok (.iconst 1, 1) := by decide +kernel
theorem dX11_readsAll_2 : decode cX11_readsAll 2 = .ok (.invokevirtual 177, 3) := by decide +kernel
theorem dX11_readsAll_5 : decode cX11_readsAll 5 = .ok (.aload_n 0, 1) := by decide +kernel
theorem dX11_readsAll_6 : decode cX11_readsAll 6 = .ok (.iconst 0, 1) := by decide +kernel
theorem dX11_readsAll_7 : decode cX11_readsAll 7 = .ok (.putfield 352, 3) := by decide +kernel
theorem dX11_readsAll_10 : decode cX11_readsAll 10 = .ok (.aload_n 0, 1) := by decide +kernel
theorem dX11_readsAll_11 : decode cX11_readsAll 11 = .ok (.sipush 1000, 3) := by decide +kernel
theorem dX11_readsAll_14 : decode cX11_readsAll 14 = .ok (.putfield 226, 3) := by decide +kernel
theorem dX11_readsAll_17 : decode cX11_readsAll 17 = .ok (.aload_n 0, 1) := by decide +kernel
theorem dX11_readsAll_18 : decode cX11_readsAll 18 = .ok (.invokevirtual 380, 3) := by decide +kernel
theorem dX11_readsAll_21 : decode cX11_readsAll 21 = .ok (.aload_n 0, 1) := by decide +kernel
theorem dX11_readsAll_22 : decode cX11_readsAll 22 = .ok (.getfield 212, 3) := by decide +kernel
theorem dX11_readsAll_25 : decode cX11_readsAll 25 = .ok (.ifCond .eq 197, 3) := by decide +kernel
theorem dX11_readsAll_28 : decode cX11_readsAll 28 = .ok (.aload_n 0, 1) := by decide +kernel
theorem dX11_readsAll_29 : decode cX11_readsAll 29 = .ok (.ldc2_w 278, 3) := by decide +kernel
theorem dX11_readsAll_32 : decode cX11_readsAll 32 = .ok (.invokevirtual 248, 3) := by decide +kernel
theorem dX11_readsAll_35 : decode cX11_readsAll 35 = .ok (.ifCond .eq 10, 3) := by decide +kernel
theorem dX11_readsAll_38 : decode cX11_readsAll 38 = .ok (.aload_n 0, 1) := by decide +kernel
theorem dX11_readsAll_39 : decode cX11_readsAll 39 = .ok (.invokevirtual 383, 3) := by decide +kernel
theorem dX11_readsAll_42 : decode cX11_readsAll 42 = .ok (.goto 170, 3) := by decide +kernel
theorem dX11_readsAll_45 : decode cX11_readsAll 45 = .ok (.aload_n 0, 1) := by decide +kernel
theorem dX11_readsAll_46 : decode cX11_readsAll 46 = .ok (.ldc2_w 282, 3) := by decide +kernel
theorem dX11_readsAll_49 : decode cX11_readsAll 49 = .ok (.invokevirtual 248, 3) := by decide +kernel
theorem dX11_readsAll_52 : decode cX11_readsAll 52 = .ok (.ifCond .eq 10, 3) := by decide +kernel
theorem dX11_readsAll_55 : decode cX11_readsAll 55 = .ok (.aload_n 0, 1) := by decide +kernel
theorem dX11_readsAll_56 : decode cX11_readsAll 56 = .ok (.invokevirtual 386, 3) := by decide +kernel
theorem dX11_readsAll_59 : decode cX11_readsAll 59 = .ok (.goto 153, 3) := by decide +kernel
theorem dX11_readsAll_62 : decode cX11_readsAll 62 = .ok (.aload_n 0, 1) := by decide +kernel
theorem dX11_readsAll_63 : decode cX11_readsAll 63 = .ok (.ldc2_w 284, 3) := by decide +kernel
theorem dX11_readsAll_66 : decode cX11_readsAll 66 = .ok (.invokevirtual 248, 3) := by decide +kernel
theorem dX11_readsAll_69 : decode cX11_readsAll 69 = .ok (.ifCond .eq 10, 3) := by decide +kernel
theorem dX11_readsAll_72 : decode cX11_readsAll 72 = .ok (.aload_n 0, 1) := by decide +kernel
theorem dX11_readsAll_73 : decode cX11_readsAll 73 = .ok (.invokevirtual 389, 3) := by decide +kernel
theorem dX11_readsAll_76 : decode cX11_readsAll 76 = .ok (.goto 136, 3) := by decide +kernel
theorem dX11_readsAll_79 : decode cX11_readsAll 79 = .ok (.aload_n 0, 1) := by decide +kernel
theorem dX11_readsAll_80 : decode cX11_readsAll 80 = .ok (.ldc2_w 290, 3) := by decide +kernel
theorem dX11_readsAll_83 : decode cX11_readsAll 83 = .ok (.invokevirtual 248, 3) := by decide +kernel
theorem dX11_readsAll_86 : decode cX11_readsAll 86 = .ok (.ifCond .eq 10, 3) := by decide +kernel
theorem dX11_readsAll_89 : decode cX11_readsAll 89 = .ok (.aload_n 0, 1) := by decide +kernel
theorem dX11_readsAll_90 : decode cX11_readsAll 90 = .ok (.invokevirtual 392, 3) := by decide +kernel
theorem dX11_readsAll_93 : decode cX11_readsAll 93 = .ok (.goto 119, 3) := by decide +kernel
theorem dX11_readsAll_96 : decode cX11_readsAll 96 = .ok (.aload_n 0, 1) := by decide +kernel
theorem dX11_readsAll_97 : decode cX11_readsAll 97 = .ok (.ldc2_w 296, 3) := by decide +kernel
theorem dX11_readsAll_100 : decode cX11_readsAll 100 = .ok (.invokevirtual 248, 3) := by decide +kernel
theorem dX11_readsAll_103 : decode cX11_readsAll 103 = .ok (.ifCond .eq 10, 3) := by decide +kernel
theorem dX11_readsAll_106 : decode cX11_readsAll 106 = .ok (.aload_n 0, 1) := by decide +kernel
theorem dX11_readsAll_107 : decode cX11_readsAll 107 = .ok (.invokevirtual 395, 3) := by decide +kernel
theorem dX11_readsAll_110 : decode cX11_readsAll 110 = .ok (.goto 102, 3) := by decide +kernel
theorem dX11_readsAll_113 : decode cX11_readsAll 113 = .ok (.aload_n 0, 1) := by decide +kernel
theorem dX11_readsAll_114 : decode cX11_readsAll 114 = .ok (.ldc2_w 298, 3) := by decide +kernel
theorem dX11_readsAll_117 : decode cX11_readsAll 117 = .ok (.invokevirtual 248, 3) := by decide +kernel
theorem dX11_readsAll_120 : decode cX11_readsAll 120 = .ok (.ifCond .eq 13, 3) := by decide +kernel
theorem dX11_readsAll_123 : decode cX11_readsAll 123 = .ok (.aload_n 0, 1) := by decide +kernel
theorem dX11_readsAll_124 : decode cX11_readsAll 124 = .ok (.iconst 5, 1) := by decide +kernel
theorem dX11_readsAll_125 : decode cX11_readsAll 125 = .ok (.bipush 9, 2) := by decide +kernel
theorem dX11_readsAll_127 : decode cX11_readsAll 127 = .ok (.invokevirtual 398, 3) := by decide +kernel
theorem dX11_readsAll_130 : decode cX11_readsAll 130 = .ok (.goto 82, 3) := by decide +kernel
theorem dX11_readsAll_133 : decode cX11_readsAll 133 = .ok (.aload_n 0, 1) := by decide +kernel
theorem dX11_readsAll_134 : decode cX11_readsAll 134 = .ok (.ldc2_w 304, 3) := by decide +kernel
theorem dX11_readsAll_137 : decode cX11_readsAll 137 = .ok (.invokevirtual 248, 3) := by decide +kernel
theorem dX11_readsAll_140 : decode cX11_readsAll 140 = .ok (.ifCond .eq 14, 3) := by decide +kernel
theorem dX11_readsAll_143 : decode cX11_readsAll 143 = .ok (.aload_n 0, 1) := by decide +kernel
theorem dX11_readsAll_144 : decode cX11_readsAll 144 = .ok (.bipush 8, 2) := by decide +kernel
theorem dX11_readsAll_146 : decode cX11_readsAll 146 = .ok (.bipush 10, 2) := by decide +kernel
theorem dX11_readsAll_148 : decode cX11_readsAll 148 = .ok (.invokevirtual 398, 3) := by decide +kernel
theorem dX11_readsAll_151 : decode cX11_readsAll 151 = .ok (.goto 61, 3) := by decide +kernel
theorem dX11_readsAll_154 : decode cX11_readsAll 154 = .ok (.aload_n 0, 1) := by decide +kernel
theorem dX11_readsAll_155 : decode cX11_readsAll 155 = .ok (.ldc2_w 300, 3) := by decide +kernel
theorem dX11_readsAll_158 : decode cX11_readsAll 158 = .ok (.invokevirtual 248, 3) := by decide +kernel
theorem dX11_readsAll_161 : decode cX11_readsAll 161 = .ok (.ifCond .eq 10, 3) := by decide +kernel
theorem dX11_readsAll_164 : decode cX11_readsAll 164 = .ok (.aload_n 0, 1) := by decide +kernel
theorem dX11_readsAll_165 : decode cX11_readsAll 165 = .ok (.invokevirtual 401, 3) := by decide +kernel
theorem dX11_readsAll_168 : decode cX11_readsAll 168 = .ok (.goto 44, 3) := by decide +kernel
theorem dX11_readsAll_171 : decode cX11_readsAll 171 = .ok (.aload_n 0, 1) := by decide +kernel
theorem dX11_readsAll_172 : decode cX11_readsAll 172 = .ok (.ldc2_w 306, 3) := by decide +kernel
theorem dX11_readsAll_175 : decode cX11_readsAll 175 = .ok (.invokevirtual 248, 3) := by decide +kernel
theorem dX11_readsAll_178 : decode cX11_readsAll 178 = .ok (.ifCond .eq 11, 3) := by decide +kernel
theorem dX11_readsAll_181 : decode cX11_readsAll 181 = .ok (.aload_n 0, 1) := by decide +kernel
theorem dX11_readsAll_182 : decode cX11_readsAll 182 = .ok (.iconst 0, 1) := by decide +kernel
theorem dX11_readsAll_183 : decode cX11_readsAll 183 = .ok (.invokevirtual 404, 3) := by decide +kernel
theorem dX11_readsAll_186 : decode cX11_readsAll 186 = .ok (.goto 26, 3) := by decide +kernel
theorem dX11_readsAll_189 : decode cX11_readsAll 189 = .ok (.aload_n 0, 1) := by decide +kernel
theorem dX11_readsAll_190 : decode cX11_readsAll 190 = .ok (.ldc2_w 308, 3) := by decide +kernel
theorem dX11_readsAll_193 : decode cX11_readsAll 193 = .ok (.invokevirtual 248, 3) := by decide +kernel
theorem dX11_readsAll_196 : decode cX11_readsAll 196 = .ok (.ifCond .eq 11, 3) := by decide +kernel
theorem dX11_readsAll_199 : decode cX11_readsAll 199 = .ok (.aload_n 0, 1) := by decide +kernel
theorem dX11_readsAll_200 : decode cX11_readsAll 200 = .ok (.iconst 1, 1) := by decide +kernel
theorem dX11_readsAll_201 : decode cX11_readsAll 201 = .ok (.invokevirtual 404, 3) := by decide +kernel
theorem dX11_readsAll_204 : decode cX11_readsAll 204 = .ok (.goto 8, 3) := by decide +kernel
theorem dX11_readsAll_207 : decode cX11_readsAll 207 = .ok (.aload_n 0, 1) := by decide +kernel
theorem dX11_readsAll_208 : decode cX11_readsAll 208 = .ok (.iconst 1, 1) := by decide +kernel
theorem dX11_readsAll_209 : decode cX11_readsAll 209 = .ok (.invokevirtual 256, 3) := by decide +kernel
theorem dX11_readsAll_212 : decode cX11_readsAll 212 = .ok (.istore_n 1, 1) := by decide +kernel
theorem dX11_readsAll_213 : decode cX11_readsAll 213 = .ok (.iload_n 1, 1) := by decide +kernel
theorem dX11_readsAll_214 : decode cX11_readsAll 214 = .ok (.ifCond .ne 5, 3) := by decide +kernel
theorem dX11_readsAll_217 : decode cX11_readsAll 217 = .ok (.iconst 0, 1) := by decide +kernel
theorem dX11_readsAll_218 : decode cX11_readsAll 218 = .ok (.ireturn, 1) := by decide +kernel
theorem dX11_readsAll_219 : decode cX11_readsAll 219 = .ok (.goto (-198), 3) := by decide +kernel
theorem dX11_readsAll_222 : decode cX11_readsAll 222 = .ok (.iconst 1, 1) := by decide +kernel
theorem dX11_readsAll_223 : decode cX11_readsAll 223 = .ok (.ireturn, 1) := by decide +kernel
theorem dX11_shifts_0 : decode cX11_shifts 0 = .ok (.iconst 0, 1) := by decide +kernel
theorem dX11_shifts_1 : decode cX11_shifts 1 = .ok (.istore_n 2, 1) := by decide +kernel
theorem dX11_shifts_2 : decode cX11_shifts 2 = .ok (.iload_n 2, 1) := by decide +kernel
theorem dX11_shifts_3 : decode cX11_shifts 3 = .ok (.iload_n 1, 1) := by decide +kernel
theorem dX11_shifts_4 : decode cX11_shifts 4 = .ok (.if_icmp .ge 17, 3) := by decide +kernel
theorem dX11_shifts_7 : decode cX11_shifts 7 = .ok (.aload_n 0, 1) := by decide +kernel
theorem dX11_shifts_8 : decode cX11_shifts 8 = .ok (.iload_n 2, 1) := by decide +kernel
theorem dX11_shifts_9 : decode cX11_shifts 9 = .ok (.aload_n 0, 1) := by decide +kernel
theorem dX11_shifts_10 : decode cX11_shifts 10 = .ok (.iload_n 1, 1) := by decide +kernel
theorem dX11_shifts_11 : decode cX11_shifts 11 = .ok (.iload_n 2, 1) := by decide +kernel
theorem dX11_shifts_12 : decode cX11_shifts 12 = .ok (.iadd, 1) := by decide +kernel
theorem dX11_shifts_13 : decode cX11_shifts 13 = .ok (.iaload, 1) := by decide +kernel
theorem dX11_shifts_14 : decode cX11_shifts 14 = .ok (.iastore, 1) := by decide +kernel
theorem dX11_shifts_15 : decode cX11_shifts 15 = .ok (.iinc 2 1, 3) := by decide +kernel
theorem dX11_shifts_18 : decode cX11_shifts 18 = .ok (.goto (-16), 3) := by decide +kernel
theorem dX11_shifts_21 : decode cX11_shifts 21 = .ok (.return_, 1) := by decide +kernel
theorem dX11_shiftsNames_0 : decode cX11_shiftsNames 0 = .ok (.iconst 0, 1) := by decide +kernel
theorem dX11_shiftsNames_1 : decode cX11_shiftsNames 1 = .ok (.istore_n 2, 1) := by decide +kernel
theorem dX11_shiftsNames_2 : decode cX11_shiftsNames 2 = .ok (.iload_n 2, 1) := by decide +kernel
theorem dX11_shiftsNames_3 : decode cX11_shiftsNames 3 = .ok (.iload_n 1, 1) := by decide +kernel
theorem dX11_shiftsNames_4 : decode cX11_shiftsNames 4 = .ok (.if_icmp .ge 17, 3) := by decide +kernel
theorem dX11_shiftsNames_7 : decode cX11_shiftsNames 7 = .ok (.aload_n 0, 1) := by decide +kernel
theorem dX11_shiftsNames_8 : decode cX11_shiftsNames 8 = .ok (.iload_n 2, 1) := by decide +kernel
theorem dX11_shiftsNames_9 : decode cX11_shiftsNames 9 = .ok (.aload_n 0, 1) := by decide +kernel
theorem dX11_shiftsNames_10 : decode cX11_shiftsNames 10 = .ok (.iload_n 1, 1) := by decide +kernel
theorem dX11_shiftsNames_11 : decode cX11_shiftsNames 11 = .ok (.iload_n 2, 1) := by decide +kernel
theorem dX11_shiftsNames_12 : decode cX11_shiftsNames 12 = .ok (.iadd, 1) := by decide +kernel
theorem dX11_shiftsNames_13 : decode cX11_shiftsNames 13 = .ok (.laload, 1) := by decide +kernel
theorem dX11_shiftsNames_14 : decode cX11_shiftsNames 14 = .ok (.lastore, 1) := by decide +kernel
theorem dX11_shiftsNames_15 : decode cX11_shiftsNames 15 = .ok (.iinc 2 1, 3) := by decide +kernel
theorem dX11_shiftsNames_18 : decode cX11_shiftsNames 18 = .ok (.goto (-16), 3) := by decide +kernel
theorem dX11_shiftsNames_21 : decode cX11_shiftsNames 21 = .ok (.return_, 1) := by decide +kernel
theorem dX11_lays_0 : decode cX11_lays 0 = .ok (.aload_n 0, 1) := by decide +kernel
theorem dX11_lays_1 : decode cX11_lays 1 = .ok (.getfield 13, 3) := by decide +kernel
theorem dX11_lays_4 : decode cX11_lays 4 = .ok (.bipush 9, 2) := by decide +kernel
theorem dX11_lays_6 : decode cX11_lays 6 = .ok (.invokestatic 407, 3) := by decide +kernel
theorem dX11_lays_9 : decode cX11_lays 9 = .ok (.aload_n 0, 1) := by decide +kernel
theorem dX11_lays_10 : decode cX11_lays 10 = .ok (.getfield 16, 3) := by decide +kernel
theorem dX11_lays_13 : decode cX11_lays 13 = .ok (.bipush 6, 2) := by decide +kernel
theorem dX11_lays_15 : decode cX11_lays 15 = .ok (.invokestatic 411, 3) := by decide +kernel
theorem dX11_lays_18 : decode cX11_lays 18 = .ok (.aload_n 0, 1) := by decide +kernel
theorem dX11_lays_19 : decode cX11_lays 19 = .ok (.getfield 20, 3) := by decide +kernel
theorem dX11_lays_22 : decode cX11_lays 22 = .ok (.bipush 6, 2) := by decide +kernel
theorem dX11_lays_24 : decode cX11_lays 24 = .ok (.invokestatic 411, 3) := by decide +kernel
theorem dX11_lays_27 : decode cX11_lays 27 = .ok (.aload_n 0, 1) := by decide +kernel
theorem dX11_lays_28 : decode cX11_lays 28 = .ok (.getfield 23, 3) := by decide +kernel
theorem dX11_lays_31 : decode cX11_lays 31 = .ok (.iconst 5, 1) := by decide +kernel
theorem dX11_lays_32 : decode cX11_lays 32 = .ok (.invokestatic 411, 3) := by decide +kernel
theorem dX11_lays_35 : decode cX11_lays 35 = .ok (.aload_n 0, 1) := by decide +kernel
theorem dX11_lays_36 : decode cX11_lays 36 = .ok (.getfield 26, 3) := by decide +kernel
theorem dX11_lays_39 : decode cX11_lays 39 = .ok (.bipush 6, 2) := by decide +kernel
theorem dX11_lays_41 : decode cX11_lays 41 = .ok (.invokestatic 407, 3) := by decide +kernel
theorem dX11_lays_44 : decode cX11_lays 44 = .ok (.aload_n 0, 1) := by decide +kernel
theorem dX11_lays_45 : decode cX11_lays 45 = .ok (.getfield 29, 3) := by decide +kernel
theorem dX11_lays_48 : decode cX11_lays 48 = .ok (.bipush 6, 2) := by decide +kernel
theorem dX11_lays_50 : decode cX11_lays 50 = .ok (.invokestatic 407, 3) := by decide +kernel
theorem dX11_lays_53 : decode cX11_lays 53 = .ok (.aload_n 0, 1) := by decide +kernel
theorem dX11_lays_54 : decode cX11_lays 54 = .ok (.getfield 32, 3) := by decide +kernel
theorem dX11_lays_57 : decode cX11_lays 57 = .ok (.bipush 6, 2) := by decide +kernel
theorem dX11_lays_59 : decode cX11_lays 59 = .ok (.invokestatic 407, 3) := by decide +kernel
theorem dX11_lays_62 : decode cX11_lays 62 = .ok (.aload_n 0, 1) := by decide +kernel
theorem dX11_lays_63 : decode cX11_lays 63 = .ok (.getfield 35, 3) := by decide +kernel
theorem dX11_lays_66 : decode cX11_lays 66 = .ok (.bipush 6, 2) := by decide +kernel
theorem dX11_lays_68 : decode cX11_lays 68 = .ok (.invokestatic 407, 3) := by decide +kernel
theorem dX11_lays_71 : decode cX11_lays 71 = .ok (.aload_n 0, 1) := by decide +kernel
theorem dX11_lays_72 : decode cX11_lays 72 = .ok (.getfield 38, 3) := by decide +kernel
theorem dX11_lays_75 : decode cX11_lays 75 = .ok (.iconst 5, 1) := by decide +kernel
theorem dX11_lays_76 : decode cX11_lays 76 = .ok (.invokestatic 407, 3) := by decide +kernel
theorem dX11_lays_79 : decode cX11_lays 79 = .ok (.aload_n 0, 1) := by decide +kernel
theorem dX11_lays_80 : decode cX11_lays 80 = .ok (.getfield 41, 3) := by decide +kernel
theorem dX11_lays_83 : decode cX11_lays 83 = .ok (.iconst 5, 1) := by decide +kernel
theorem dX11_lays_84 : decode cX11_lays 84 = .ok (.invokestatic 407, 3) := by decide +kernel
theorem dX11_lays_87 : decode cX11_lays 87 = .ok (.aload_n 0, 1) := by decide +kernel
theorem dX11_lays_88 : decode cX11_lays 88 = .ok (.getfield 44, 3) := by decide +kernel
theorem dX11_lays_91 : decode cX11_lays 91 = .ok (.bipush 36, 2) := by decide +kernel
theorem dX11_lays_93 : decode cX11_lays 93 = .ok (.invokestatic 407, 3) := by decide +kernel
theorem dX11_lays_96 : decode cX11_lays 96 = .ok (.aload_n 0, 1) := by decide +kernel
theorem dX11_lays_97 : decode cX11_lays 97 = .ok (.getfield 47, 3) := by decide +kernel
theorem dX11_lays_100 : decode cX11_lays 100 = .ok (.bipush 6, 2) := by decide +kernel
theorem dX11_lays_102 : decode cX11_lays 102 = .ok (.invokestatic 407, 3) := by decide +kernel
theorem dX11_lays_105 : decode cX11_lays 105 = .ok (.aload_n 0, 1) := by decide +kernel
theorem dX11_lays_106 : decode cX11_lays 106 = .ok (.getfield 56, 3) := by decide +kernel
theorem dX11_lays_109 : decode cX11_lays 109 = .ok (.sipush 1000, 3) := by decide +kernel
theorem dX11_lays_112 : decode cX11_lays 112 = .ok (.invokestatic 407, 3) := by decide +kernel
theorem dX11_lays_115 : decode cX11_lays 115 = .ok (.iconst 0, 1) := by decide +kernel
theorem dX11_lays_116 : decode cX11_lays 116 = .ok (.istore_n 1, 1) := by decide +kernel
theorem dX11_lays_117 : decode cX11_lays 117 = .ok (.iload_n 1, 1) := by decide +kernel
theorem dX11_lays_118 : decode cX11_lays 118 = .ok (.iconst 2, 1) := by decide +kernel
theorem dX11_lays_119 : decode cX11_lays 119 = .ok (.if_icmp .ge 45, 3) := by decide +kernel
theorem dX11_lays_122 : decode cX11_lays 122 = .ok (.aload_n 0, 1) := by decide +kernel
theorem dX11_lays_123 : decode cX11_lays 123 = .ok (.getfield 50, 3) := by decide +kernel
theorem dX11_lays_126 : decode cX11_lays 126 = .ok (.iload_n 1, 1) := by decide +kernel
theorem dX11_lays_127 : decode cX11_lays 127 = .ok (.aload_n 0, 1) := by decide +kernel
theorem dX11_lays_128 : decode cX11_lays 128 = .ok (.getfield 50, 3) := by decide +kernel
theorem dX11_lays_131 : decode cX11_lays 131 = .ok (.iconst 2, 1) := by decide +kernel
theorem dX11_lays_132 : decode cX11_lays 132 = .ok (.iload_n 1, 1) := by decide +kernel
theorem dX11_lays_133 : decode cX11_lays 133 = .ok (.iadd, 1) := by decide +kernel
theorem dX11_lays_134 : decode cX11_lays 134 = .ok (.iaload, 1) := by decide +kernel
theorem dX11_lays_135 : decode cX11_lays 135 = .ok (.sipush 1000, 3) := by decide +kernel
theorem dX11_lays_138 : decode cX11_lays 138 = .ok (.isub, 1) := by decide +kernel
theorem dX11_lays_139 : decode cX11_lays 139 = .ok (.iastore, 1) := by decide +kernel
theorem dX11_lays_140 : decode cX11_lays 140 = .ok (.aload_n 0, 1) := by decide +kernel
theorem dX11_lays_141 : decode cX11_lays 141 = .ok (.getfield 53, 3) := by decide +kernel
theorem dX11_lays_144 : decode cX11_lays 144 = .ok (.iload_n 1, 1) := by decide +kernel
theorem dX11_lays_145 : decode cX11_lays 145 = .ok (.aload_n 0, 1) := by decide +kernel
theorem dX11_lays_146 : decode cX11_lays 146 = .ok (.getfield 53, 3) := by decide +kernel
theorem dX11_lays_149 : decode cX11_lays 149 = .ok (.iconst 2, 1) := by decide +kernel
theorem dX11_lays_150 : decode cX11_lays 150 = .ok (.iload_n 1, 1) := by decide +kernel
theorem dX11_lays_151 : decode cX11_lays 151 = .ok (.iadd, 1) := by decide +kernel
theorem dX11_lays_152 : decode cX11_lays 152 = .ok (.iaload, 1) := by decide +kernel
theorem dX11_lays_153 : decode cX11_lays 153 = .ok (.sipush 1000, 3) := by decide +kernel
theorem dX11_lays_156 : decode cX11_lays 156 = .ok (.isub, 1) := by decide +kernel
theorem dX11_lays_157 : decode cX11_lays 157 = .ok (.iastore, 1) := by decide +kernel
theorem dX11_lays_158 : decode cX11_lays 158 = .ok (.iinc 1 1, 3) := by decide +kernel
theorem dX11_lays_161 : decode cX11_lays 161 = .ok (.goto (-44), 3) := by decide +kernel
theorem dX11_lays_164 : decode cX11_lays 164 = .ok (.return_, 1) := by decide +kernel
theorem dX11_copies_0 : decode cX11_copies 0 = .ok (.iconst 0, 1) := by decide +kernel
theorem dX11_copies_1 : decode cX11_copies 1 = .ok (.istore 4, 2) := by decide +kernel
theorem dX11_copies_3 : decode cX11_copies 3 = .ok (.iload 4, 2) := by decide +kernel
theorem dX11_copies_5 : decode cX11_copies 5 = .ok (.bipush 19, 2) := by decide +kernel
theorem dX11_copies_7 : decode cX11_copies 7 = .ok (.if_icmp .ge 21, 3) := by decide +kernel
theorem dX11_copies_10 : decode cX11_copies 10 = .ok (.aload_n 2, 1) := by decide +kernel
theorem dX11_copies_11 : decode cX11_copies 11 = .ok (.iload_n 3, 1) := by decide +kernel
theorem dX11_copies_12 : decode cX11_copies 12 = .ok (.iload 4, 2) := by decide +kernel
theorem dX11_copies_14 : decode cX11_copies 14 = .ok (.iadd, 1) := by decide +kernel
theorem dX11_copies_15 : decode cX11_copies 15 = .ok (.aload_n 0, 1) := by decide +kernel
theorem dX11_copies_16 : decode cX11_copies 16 = .ok (.iload_n 1, 1) := by decide +kernel
theorem dX11_copies_17 : decode cX11_copies 17 = .ok (.iload 4, 2) := by decide +kernel
theorem dX11_copies_19 : decode cX11_copies 19 = .ok (.iadd, 1) := by decide +kernel
theorem dX11_copies_20 : decode cX11_copies 20 = .ok (.iaload, 1) := by decide +kernel
theorem dX11_copies_21 : decode cX11_copies 21 = .ok (.iastore, 1) := by decide +kernel
theorem dX11_copies_22 : decode cX11_copies 22 = .ok (.iinc 4 1, 3) := by decide +kernel
theorem dX11_copies_25 : decode cX11_copies 25 = .ok (.goto (-22), 3) := by decide +kernel
theorem dX11_copies_28 : decode cX11_copies 28 = .ok (.return_, 1) := by decide +kernel
theorem dX11_readsLine_0 : decode cX11_readsLine 0 = .ok (.aload_n 0, 1) := by decide +kernel
theorem dX11_readsLine_1 : decode cX11_readsLine 1 = .ok (.ldc2_w 310, 3) := by decide +kernel
theorem dX11_readsLine_4 : decode cX11_readsLine 4 = .ok (.invokevirtual 248, 3) := by decide +kernel
theorem dX11_readsLine_7 : decode cX11_readsLine 7 = .ok (.ifCond .eq 7, 3) := by decide +kernel
theorem dX11_readsLine_10 : decode cX11_readsLine 10 = .ok (.iconst 0, 1) := by decide +kernel
theorem dX11_readsLine_11 : decode cX11_readsLine 11 = .ok (.goto 32, 3) := by decide +kernel
theorem dX11_readsLine_14 : decode cX11_readsLine 14 = .ok (.aload_n 0, 1) := by decide +kernel
theorem dX11_readsLine_15 : decode cX11_readsLine 15 = .ok (.ldc2_w 300, 3) := by decide +kernel
theorem dX11_readsLine_18 : decode cX11_readsLine 18 = .ok (.invokevirtual 248, 3) := by decide +kernel
theorem dX11_readsLine_21 : decode cX11_readsLine 21 = .ok (.ifCond .eq 7, 3) := by decide +kernel
theorem dX11_readsLine_24 : decode cX11_readsLine 24 = .ok (.iconst 1, 1) := by decide +kernel
theorem dX11_readsLine_25 : decode cX11_readsLine 25 = .ok (.goto 18, 3) := by decide +kernel
theorem dX11_readsLine_28 : decode cX11_readsLine 28 = .ok (.aload_n 0, 1) := by decide +kernel
theorem dX11_readsLine_29 : decode cX11_readsLine 29 = .ok (.ldc2_w 312, 3) := by decide +kernel
theorem dX11_readsLine_32 : decode cX11_readsLine 32 = .ok (.invokevirtual 248, 3) := by decide +kernel
theorem dX11_readsLine_35 : decode cX11_readsLine 35 = .ok (.ifCond .eq 7, 3) := by decide +kernel
theorem dX11_readsLine_38 : decode cX11_readsLine 38 = .ok (.iconst 2, 1) := by decide +kernel
theorem dX11_readsLine_39 : decode cX11_readsLine 39 = .ok (.goto 4, 3) := by decide +kernel
theorem dX11_readsLine_42 : decode cX11_readsLine 42 = .ok (.iconst (-1), 1) := by decide +kernel
theorem dX11_readsLine_43 : decode cX11_readsLine 43 = .ok (.istore_n 1, 1) := by decide +kernel
theorem dX11_readsLine_44 : decode cX11_readsLine 44 = .ok (.iload_n 1, 1) := by decide +kernel
theorem dX11_readsLine_45 : decode cX11_readsLine 45 = .ok (.ifCond .ge 9, 3) := by decide +kernel
theorem dX11_readsLine_48 : decode cX11_readsLine 48 = .ok (.aload_n 0, 1) := by decide +kernel
theorem dX11_readsLine_49 : decode cX11_readsLine 49 = .ok (.iconst 1, 1) := by decide +kernel
theorem dX11_readsLine_50 : decode cX11_readsLine 50 = .ok (.invokevirtual 256, 3) := by decide +kernel
theorem dX11_readsLine_53 : decode cX11_readsLine 53 = .ok (.ireturn, 1) := by decide +kernel
theorem dX11_readsLine_54 : decode cX11_readsLine 54 = .ok (.aload_n 0, 1) := by decide +kernel
theorem dX11_readsLine_55 : decode cX11_readsLine 55 = .ok (.getfield 96, 3) := by decide +kernel
theorem dX11_readsLine_58 : decode cX11_readsLine 58 = .ok (.iconst 5, 1) := by decide +kernel
theorem dX11_readsLine_59 : decode cX11_readsLine 59 = .ok (.iaload, 1) := by decide +kernel
theorem dX11_readsLine_60 : decode cX11_readsLine 60 = .ok (.bipush 40, 2) := by decide +kernel
theorem dX11_readsLine_62 : decode cX11_readsLine 62 = .ok (.if_icmp .ne 9, 3) := by decide +kernel
theorem dX11_readsLine_65 : decode cX11_readsLine 65 = .ok (.aload_n 0, 1) := by decide +kernel
theorem dX11_readsLine_66 : decode cX11_readsLine 66 = .ok (.iconst 5, 1) := by decide +kernel
theorem dX11_readsLine_67 : decode cX11_readsLine 67 = .ok (.invokevirtual 256, 3) := by decide +kernel
theorem dX11_readsLine_70 : decode cX11_readsLine 70 = .ok (.ireturn, 1) := by decide +kernel
theorem dX11_readsLine_71 : decode cX11_readsLine 71 = .ok (.aload_n 0, 1) := by decide +kernel
theorem dX11_readsLine_72 : decode cX11_readsLine 72 = .ok (.invokevirtual 262, 3) := by decide +kernel
theorem dX11_readsLine_75 : decode cX11_readsLine 75 = .ok (.sipush 200, 3) := by decide +kernel
theorem dX11_readsLine_78 : decode cX11_readsLine 78 = .ok (.aload_n 0, 1) := by decide +kernel
theorem dX11_readsLine_79 : decode cX11_readsLine 79 = .ok (.getfield 96, 3) := by decide +kernel
theorem dX11_readsLine_82 : decode cX11_readsLine 82 = .ok (.iconst 5, 1) := by decide +kernel
theorem dX11_readsLine_83 : decode cX11_readsLine 83 = .ok (.iaload, 1) := by decide +kernel
theorem dX11_readsLine_84 : decode cX11_readsLine 84 = .ok (.iadd, 1) := by decide +kernel
theorem dX11_readsLine_85 : decode cX11_readsLine 85 = .ok (.istore_n 2, 1) := by decide +kernel
theorem dX11_readsLine_86 : decode cX11_readsLine 86 = .ok (.aload_n 0, 1) := by decide +kernel
theorem dX11_readsLine_87 : decode cX11_readsLine 87 = .ok (.getfield 99, 3) := by decide +kernel
theorem dX11_readsLine_90 : decode cX11_readsLine 90 = .ok (.iload_n 2, 1) := by decide +kernel
theorem dX11_readsLine_91 : decode cX11_readsLine 91 = .ok (.iload_n 1, 1) := by decide +kernel
theorem dX11_readsLine_92 : decode cX11_readsLine 92 = .ok (.iastore, 1) := by decide +kernel
theorem dX11_readsLine_93 : decode cX11_readsLine 93 = .ok (.iload_n 1, 1) := by decide +kernel
theorem dX11_readsLine_94 : decode cX11_readsLine 94 = .ok (.iconst 2, 1) := by decide +kernel
theorem dX11_readsLine_95 : decode cX11_readsLine 95 = .ok (.if_icmp .eq 27, 3) := by decide +kernel
theorem dX11_readsLine_98 : decode cX11_readsLine 98 = .ok (.aload_n 0, 1) := by decide +kernel
theorem dX11_readsLine_99 : decode cX11_readsLine 99 = .ok (.iconst 0, 1) := by decide +kernel
theorem dX11_readsLine_100 : decode cX11_readsLine 100 = .ok (.invokevirtual 371, 3) := by decide +kernel
theorem dX11_readsLine_103 : decode cX11_readsLine 103 = .ok (.ifCond .ne 5, 3) := by decide +kernel
theorem dX11_readsLine_106 : decode cX11_readsLine 106 = .ok (.iconst 0, 1) := by decide +kernel
theorem dX11_readsLine_107 : decode cX11_readsLine 107 = .ok (.ireturn, 1) := by decide +kernel
theorem dX11_readsLine_108 : decode cX11_readsLine 108 = .ok (.aload_n 0, 1) := by decide +kernel
theorem dX11_readsLine_109 : decode cX11_readsLine 109 = .ok (.getfield 102, 3) := by decide +kernel
theorem dX11_readsLine_112 : decode cX11_readsLine 112 = .ok (.iload_n 2, 1) := by decide +kernel
theorem dX11_readsLine_113 : decode cX11_readsLine 113 = .ok (.aload_n 0, 1) := by decide +kernel
theorem dX11_readsLine_114 : decode cX11_readsLine 114 = .ok (.getfield 330, 3) := by decide +kernel
theorem dX11_readsLine_117 : decode cX11_readsLine 117 = .ok (.iastore, 1) := by decide +kernel
theorem dX11_readsLine_118 : decode cX11_readsLine 118 = .ok (.aload_n 0, 1) := by decide +kernel
theorem dX11_readsLine_119 : decode cX11_readsLine 119 = .ok (.invokevirtual 262, 3) := by decide +kernel
theorem dX11_readsLine_122 : decode cX11_readsLine 122 = .ok (.iload_n 1, 1) := by decide +kernel
theorem dX11_readsLine_123 : decode cX11_readsLine 123 = .ok (.ifCond .ne 27, 3) := by decide +kernel
theorem dX11_readsLine_126 : decode cX11_readsLine 126 = .ok (.aload_n 0, 1) := by decide +kernel
theorem dX11_readsLine_127 : decode cX11_readsLine 127 = .ok (.iconst 0, 1) := by decide +kernel
theorem dX11_readsLine_128 : decode cX11_readsLine 128 = .ok (.invokevirtual 365, 3) := by decide +kernel
theorem dX11_readsLine_131 : decode cX11_readsLine 131 = .ok (.ifCond .ne 5, 3) := by decide +kernel
theorem dX11_readsLine_134 : decode cX11_readsLine 134 = .ok (.iconst 0, 1) := by decide +kernel
theorem dX11_readsLine_135 : decode cX11_readsLine 135 = .ok (.ireturn, 1) := by decide +kernel
theorem dX11_readsLine_136 : decode cX11_readsLine 136 = .ok (.aload_n 0, 1) := by decide +kernel
theorem dX11_readsLine_137 : decode cX11_readsLine 137 = .ok (.getfield 105, 3) := by decide +kernel
theorem dX11_readsLine_140 : decode cX11_readsLine 140 = .ok (.iload_n 2, 1) := by decide +kernel
theorem dX11_readsLine_141 : decode cX11_readsLine 141 = .ok (.aload_n 0, 1) := by decide +kernel
theorem dX11_readsLine_142 : decode cX11_readsLine 142 = .ok (.getfield 330, 3) := by decide +kernel
theorem dX11_readsLine_145 : decode cX11_readsLine 145 = .ok (.iastore, 1) := by decide +kernel
theorem dX11_readsLine_146 : decode cX11_readsLine 146 = .ok (.aload_n 0, 1) := by decide +kernel
theorem dX11_readsLine_147 : decode cX11_readsLine 147 = .ok (.invokevirtual 262, 3) := by decide +kernel
theorem dX11_readsLine_150 : decode cX11_readsLine 150 = .ok (.aload_n 0, 1) := by decide +kernel
theorem dX11_readsLine_151 : decode cX11_readsLine 151 = .ok (.getfield 96, 3) := by decide +kernel
theorem dX11_readsLine_154 : decode cX11_readsLine 154 = .ok (.iconst 5, 1) := by decide +kernel
theorem dX11_readsLine_155 : decode cX11_readsLine 155 = .ok (.dup2, 1) := by decide +kernel
theorem dX11_readsLine_156 : decode cX11_readsLine 156 = .ok (.iaload, 1) := by decide +kernel
theorem dX11_readsLine_157 : decode cX11_readsLine 157 = .ok (.iconst 1, 1) := by decide +kernel
theorem dX11_readsLine_158 : decode cX11_readsLine 158 = .ok (.iadd, 1) := by decide +kernel
theorem dX11_readsLine_159 : decode cX11_readsLine 159 = .ok (.iastore, 1) := by decide +kernel
theorem dX11_readsLine_160 : decode cX11_readsLine 160 = .ok (.aload_n 0, 1) := by decide +kernel
theorem dX11_readsLine_161 : decode cX11_readsLine 161 = .ok (.invokevirtual 362, 3) := by decide +kernel
theorem dX11_readsLine_164 : decode cX11_readsLine 164 = .ok (.ireturn, 1) := by decide +kernel
theorem dX11_laysLines_0 : decode cX11_laysLines 0 = .ok (.aload_n 0, 1) := by decide +kernel
theorem dX11_laysLines_1 : decode cX11_laysLines 1 = .ok (.getfield 96, 3) := by decide +kernel
theorem dX11_laysLines_4 : decode cX11_laysLines 4 = .ok (.iload_n 2, 1) := by decide +kernel
theorem dX11_laysLines_5 : decode cX11_laysLines 5 = .ok (.aload_n 0, 1) := by decide +kernel
theorem dX11_laysLines_6 : decode cX11_laysLines 6 = .ok (.getfield 96, 3) := by decide +kernel
theorem dX11_laysLines_9 : decode cX11_laysLines 9 = .ok (.iload_n 1, 1) := by decide +kernel
theorem dX11_laysLines_10 : decode cX11_laysLines 10 = .ok (.iaload, 1) := by decide +kernel
theorem dX11_laysLines_11 : decode cX11_laysLines 11 = .ok (.iastore, 1) := by decide +kernel
theorem dX11_laysLines_12 : decode cX11_laysLines 12 = .ok (.iconst 0, 1) := by decide +kernel
theorem dX11_laysLines_13 : decode cX11_laysLines 13 = .ok (.istore_n 3, 1) := by decide +kernel
theorem dX11_laysLines_14 : decode cX11_laysLines 14 = .ok (.iload_n 3, 1) := by decide +kernel
theorem dX11_laysLines_15 : decode cX11_laysLines 15 = .ok (.bipush 40, 2) := by decide +kernel
theorem dX11_laysLines_17 : decode cX11_laysLines 17 = .ok (.if_icmp .ge 75, 3) := by decide +kernel
theorem dX11_laysLines_20 : decode cX11_laysLines 20 = .ok (.aload_n 0, 1) := by decide +kernel
theorem dX11_laysLines_21 : decode cX11_laysLines 21 = .ok (.getfield 99, 3) := by decide +kernel
theorem dX11_laysLines_24 : decode cX11_laysLines 24 = .ok (.bipush 40, 2) := by decide +kernel
theorem dX11_laysLines_26 : decode cX11_laysLines 26 = .ok (.iload_n 2, 1) := by decide +kernel
theorem dX11_laysLines_27 : decode cX11_laysLines 27 = .ok (.imul, 1) := by decide +kernel
theorem dX11_laysLines_28 : decode cX11_laysLines 28 = .ok (.iload_n 3, 1) := by decide +kernel
theorem dX11_laysLines_29 : decode cX11_laysLines 29 = .ok (.iadd, 1) := by decide +kernel
theorem dX11_laysLines_30 : decode cX11_laysLines 30 = .ok (.aload_n 0, 1) := by decide +kernel
theorem dX11_laysLines_31 : decode cX11_laysLines 31 = .ok (.getfield 99, 3) := by decide +kernel
theorem dX11_laysLines_34 : decode cX11_laysLines 34 = .ok (.bipush 40, 2) := by decide +kernel
theorem dX11_laysLines_36 : decode cX11_laysLines 36 = .ok (.iload_n 1, 1) := by decide +kernel
theorem dX11_laysLines_37 : decode cX11_laysLines 37 = .ok (.imul, 1) := by decide +kernel
theorem dX11_laysLines_38 : decode cX11_laysLines 38 = .ok (.iload_n 3, 1) := by decide +kernel
theorem dX11_laysLines_39 : decode cX11_laysLines 39 = .ok (.iadd, 1) := by decide +kernel
theorem dX11_laysLines_40 : decode cX11_laysLines 40 = .ok (.iaload, 1) := by decide +kernel
theorem dX11_laysLines_41 : decode cX11_laysLines 41 = .ok (.iastore, 1) := by decide +kernel
theorem dX11_laysLines_42 : decode cX11_laysLines 42 = .ok (.aload_n 0, 1) := by decide +kernel
theorem dX11_laysLines_43 : decode cX11_laysLines 43 = .ok (.getfield 102, 3) := by decide +kernel
theorem dX11_laysLines_46 : decode cX11_laysLines 46 = .ok (.bipush 40, 2) := by decide +kernel
theorem dX11_laysLines_48 : decode cX11_laysLines 48 = .ok (.iload_n 2, 1) := by decide +kernel
theorem dX11_laysLines_49 : decode cX11_laysLines 49 = .ok (.imul, 1) := by decide +kernel
theorem dX11_laysLines_50 : decode cX11_laysLines 50 = .ok (.iload_n 3, 1) := by decide +kernel
theorem dX11_laysLines_51 : decode cX11_laysLines 51 = .ok (.iadd, 1) := by decide +kernel
theorem dX11_laysLines_52 : decode cX11_laysLines 52 = .ok (.aload_n 0, 1) := by decide +kernel
theorem dX11_laysLines_53 : decode cX11_laysLines 53 = .ok (.getfield 102, 3) := by decide +kernel
theorem dX11_laysLines_56 : decode cX11_laysLines 56 = .ok (.bipush 40, 2) := by decide +kernel
theorem dX11_laysLines_58 : decode cX11_laysLines 58 = .ok (.iload_n 1, 1) := by decide +kernel
theorem dX11_laysLines_59 : decode cX11_laysLines 59 = .ok (.imul, 1) := by decide +kernel
theorem dX11_laysLines_60 : decode cX11_laysLines 60 = .ok (.iload_n 3, 1) := by decide +kernel
theorem dX11_laysLines_61 : decode cX11_laysLines 61 = .ok (.iadd, 1) := by decide +kernel
theorem dX11_laysLines_62 : decode cX11_laysLines 62 = .ok (.iaload, 1) := by decide +kernel
theorem dX11_laysLines_63 : decode cX11_laysLines 63 = .ok (.iastore, 1) := by decide +kernel
theorem dX11_laysLines_64 : decode cX11_laysLines 64 = .ok (.aload_n 0, 1) := by decide +kernel
theorem dX11_laysLines_65 : decode cX11_laysLines 65 = .ok (.getfield 105, 3) := by decide +kernel
theorem dX11_laysLines_68 : decode cX11_laysLines 68 = .ok (.bipush 40, 2) := by decide +kernel
theorem dX11_laysLines_70 : decode cX11_laysLines 70 = .ok (.iload_n 2, 1) := by decide +kernel
theorem dX11_laysLines_71 : decode cX11_laysLines 71 = .ok (.imul, 1) := by decide +kernel
theorem dX11_laysLines_72 : decode cX11_laysLines 72 = .ok (.iload_n 3, 1) := by decide +kernel
theorem dX11_laysLines_73 : decode cX11_laysLines 73 = .ok (.iadd, 1) := by decide +kernel
theorem dX11_laysLines_74 : decode cX11_laysLines 74 = .ok (.aload_n 0, 1) := by decide +kernel
theorem dX11_laysLines_75 : decode cX11_laysLines 75 = .ok (.getfield 105, 3) := by decide +kernel
theorem dX11_laysLines_78 : decode cX11_laysLines 78 = .ok (.bipush 40, 2) := by decide +kernel
theorem dX11_laysLines_80 : decode cX11_laysLines 80 = .ok (.iload_n 1, 1) := by decide +kernel
theorem dX11_laysLines_81 : decode cX11_laysLines 81 = .ok (.imul, 1) := by decide +kernel
theorem dX11_laysLines_82 : decode cX11_laysLines 82 = .ok (.iload_n 3, 1) := by decide +kernel
theorem dX11_laysLines_83 : decode cX11_laysLines 83 = .ok (.iadd, 1) := by decide +kernel
theorem dX11_laysLines_84 : decode cX11_laysLines 84 = .ok (.iaload, 1) := by decide +kernel
theorem dX11_laysLines_85 : decode cX11_laysLines 85 = .ok (.iastore, 1) := by decide +kernel
theorem dX11_laysLines_86 : decode cX11_laysLines 86 = .ok (.iinc 3 1, 3) := by decide +kernel
theorem dX11_laysLines_89 : decode cX11_laysLines 89 = .ok (.goto (-75), 3) := by decide +kernel
theorem dX11_laysLines_92 : decode cX11_laysLines 92 = .ok (.return_, 1) := by decide +kernel
theorem dX11_forgets_0 : decode cX11_forgets 0 = .ok (.aload_n 0, 1) := by decide +kernel
theorem dX11_forgets_1 : decode cX11_forgets 1 = .ok (.getfield 108, 3) := by decide +kernel
theorem dX11_forgets_4 : decode cX11_forgets 4 = .ok (.iconst 0, 1) := by decide +kernel
theorem dX11_forgets_5 : decode cX11_forgets 5 = .ok (.iconst 0, 1) := by decide +kernel
theorem dX11_forgets_6 : decode cX11_forgets 6 = .ok (.iastore, 1) := by decide +kernel
theorem dX11_forgets_7 : decode cX11_forgets 7 = .ok (.aload_n 0, 1) := by decide +kernel
theorem dX11_forgets_8 : decode cX11_forgets 8 = .ok (.getfield 111, 3) := by decide +kernel
theorem dX11_forgets_11 : decode cX11_forgets 11 = .ok (.iconst 0, 1) := by decide +kernel
theorem dX11_forgets_12 : decode cX11_forgets 12 = .ok (.ldc_w 415, 3) := by decide +kernel
theorem dX11_forgets_15 : decode cX11_forgets 15 = .ok (.iastore, 1) := by decide +kernel
theorem dX11_forgets_16 : decode cX11_forgets 16 = .ok (.return_, 1) := by decide +kernel
theorem dX11_fresh_0 : decode cX11_fresh 0 = .ok (.iconst 0, 1) := by decide +kernel
theorem dX11_fresh_1 : decode cX11_fresh 1 = .ok (.istore_n 1, 1) := by decide +kernel
theorem dX11_fresh_2 : decode cX11_fresh 2 = .ok (.iload_n 1, 1) := by decide +kernel
theorem dX11_fresh_3 : decode cX11_fresh 3 = .ok (.bipush 19, 2) := by decide +kernel
theorem dX11_fresh_5 : decode cX11_fresh 5 = .ok (.if_icmp .ge 16, 3) := by decide +kernel
theorem dX11_fresh_8 : decode cX11_fresh 8 = .ok (.aload_n 0, 1) := by decide +kernel
theorem dX11_fresh_9 : decode cX11_fresh 9 = .ok (.getfield 114, 3) := by decide +kernel
theorem dX11_fresh_12 : decode cX11_fresh 12 = .ok (.iload_n 1, 1) := by decide +kernel
theorem dX11_fresh_13 : decode cX11_fresh 13 = .ok (.iconst 0, 1) := by decide +kernel
theorem dX11_fresh_14 : decode cX11_fresh 14 = .ok (.iastore, 1) := by decide +kernel
theorem dX11_fresh_15 : decode cX11_fresh 15 = .ok (.iinc 1 1, 3) := by decide +kernel
theorem dX11_fresh_18 : decode cX11_fresh 18 = .ok (.goto (-16), 3) := by decide +kernel
theorem dX11_fresh_21 : decode cX11_fresh 21 = .ok (.iconst 0, 1) := by decide +kernel
theorem dX11_fresh_22 : decode cX11_fresh 22 = .ok (.istore_n 1, 1) := by decide +kernel
theorem dX11_fresh_23 : decode cX11_fresh 23 = .ok (.iload_n 1, 1) := by decide +kernel
theorem dX11_fresh_24 : decode cX11_fresh 24 = .ok (.aload_n 0, 1) := by decide +kernel
theorem dX11_fresh_25 : decode cX11_fresh 25 = .ok (.getfield 13, 3) := by decide +kernel
theorem dX11_fresh_28 : decode cX11_fresh 28 = .ok (.iconst 1, 1) := by decide +kernel
theorem dX11_fresh_29 : decode cX11_fresh 29 = .ok (.iaload, 1) := by decide +kernel
theorem dX11_fresh_30 : decode cX11_fresh 30 = .ok (.if_icmp .ge 38, 3) := by decide +kernel
theorem dX11_fresh_33 : decode cX11_fresh 33 = .ok (.aload_n 0, 1) := by decide +kernel
theorem dX11_fresh_34 : decode cX11_fresh 34 = .ok (.getfield 114, 3) := by decide +kernel
theorem dX11_fresh_37 : decode cX11_fresh 37 = .ok (.iconst 2, 1) := by decide +kernel
theorem dX11_fresh_38 : decode cX11_fresh 38 = .ok (.iload_n 1, 1) := by decide +kernel
theorem dX11_fresh_39 : decode cX11_fresh 39 = .ok (.iadd, 1) := by decide +kernel
theorem dX11_fresh_40 : decode cX11_fresh 40 = .ok (.aload_n 0, 1) := by decide +kernel
theorem dX11_fresh_41 : decode cX11_fresh 41 = .ok (.getfield 35, 3) := by decide +kernel
theorem dX11_fresh_44 : decode cX11_fresh 44 = .ok (.iload_n 1, 1) := by decide +kernel
theorem dX11_fresh_45 : decode cX11_fresh 45 = .ok (.iaload, 1) := by decide +kernel
theorem dX11_fresh_46 : decode cX11_fresh 46 = .ok (.iastore, 1) := by decide +kernel
theorem dX11_fresh_47 : decode cX11_fresh 47 = .ok (.aload_n 0, 1) := by decide +kernel
theorem dX11_fresh_48 : decode cX11_fresh 48 = .ok (.getfield 114, 3) := by decide +kernel
theorem dX11_fresh_51 : decode cX11_fresh 51 = .ok (.bipush 8, 2) := by decide +kernel
theorem dX11_fresh_53 : decode cX11_fresh 53 = .ok (.iload_n 1, 1) := by decide +kernel
theorem dX11_fresh_54 : decode cX11_fresh 54 = .ok (.iadd, 1) := by decide +kernel
theorem dX11_fresh_55 : decode cX11_fresh 55 = .ok (.aload_n 0, 1) := by decide +kernel
theorem dX11_fresh_56 : decode cX11_fresh 56 = .ok (.getfield 32, 3) := by decide +kernel
theorem dX11_fresh_59 : decode cX11_fresh 59 = .ok (.iload_n 1, 1) := by decide +kernel
theorem dX11_fresh_60 : decode cX11_fresh 60 = .ok (.iaload, 1) := by decide +kernel
theorem dX11_fresh_61 : decode cX11_fresh 61 = .ok (.iastore, 1) := by decide +kernel
theorem dX11_fresh_62 : decode cX11_fresh 62 = .ok (.iinc 1 1, 3) := by decide +kernel
theorem dX11_fresh_65 : decode cX11_fresh 65 = .ok (.goto (-42), 3) := by decide +kernel
theorem dX11_fresh_68 : decode cX11_fresh 68 = .ok (.iconst 0, 1) := by decide +kernel
theorem dX11_fresh_69 : decode cX11_fresh 69 = .ok (.istore_n 1, 1) := by decide +kernel
theorem dX11_fresh_70 : decode cX11_fresh 70 = .ok (.iload_n 1, 1) := by decide +kernel
theorem dX11_fresh_71 : decode cX11_fresh 71 = .ok (.aload_n 0, 1) := by decide +kernel
theorem dX11_fresh_72 : decode cX11_fresh 72 = .ok (.getfield 13, 3) := by decide +kernel
theorem dX11_fresh_75 : decode cX11_fresh 75 = .ok (.iconst 2, 1) := by decide +kernel
theorem dX11_fresh_76 : decode cX11_fresh 76 = .ok (.iaload, 1) := by decide +kernel
theorem dX11_fresh_77 : decode cX11_fresh 77 = .ok (.if_icmp .ge 24, 3) := by decide +kernel
theorem dX11_fresh_80 : decode cX11_fresh 80 = .ok (.aload_n 0, 1) := by decide +kernel
theorem dX11_fresh_81 : decode cX11_fresh 81 = .ok (.getfield 114, 3) := by decide +kernel
theorem dX11_fresh_84 : decode cX11_fresh 84 = .ok (.bipush 14, 2) := by decide +kernel
theorem dX11_fresh_86 : decode cX11_fresh 86 = .ok (.iload_n 1, 1) := by decide +kernel
theorem dX11_fresh_87 : decode cX11_fresh 87 = .ok (.iadd, 1) := by decide +kernel
theorem dX11_fresh_88 : decode cX11_fresh 88 = .ok (.aload_n 0, 1) := by decide +kernel
theorem dX11_fresh_89 : decode cX11_fresh 89 = .ok (.getfield 41, 3) := by decide +kernel
theorem dX11_fresh_92 : decode cX11_fresh 92 = .ok (.iload_n 1, 1) := by decide +kernel
theorem dX11_fresh_93 : decode cX11_fresh 93 = .ok (.iaload, 1) := by decide +kernel
theorem dX11_fresh_94 : decode cX11_fresh 94 = .ok (.iastore, 1) := by decide +kernel
theorem dX11_fresh_95 : decode cX11_fresh 95 = .ok (.iinc 1 1, 3) := by decide +kernel
theorem dX11_fresh_98 : decode cX11_fresh 98 = .ok (.goto (-28), 3) := by decide +kernel
theorem dX11_fresh_101 : decode cX11_fresh 101 = .ok (.return_, 1) := by decide +kernel
theorem dX11_zoo_0 : decode cX11_zoo 0 = .ok (.aload_n 0, 1) := by decide +kernel
theorem dX11_zoo_1 : decode cX11_zoo 1 = .ok (.iconst 0, 1) := by decide +kernel
theorem dX11_zoo_2 : decode cX11_zoo 2 = .ok (.putfield 187, 3) := by decide +kernel
theorem dX11_zoo_5 : decode cX11_zoo 5 = .ok (.aload_n 0, 1) := by decide +kernel
theorem dX11_zoo_6 : decode cX11_zoo 6 = .ok (.invokevirtual 416, 3) := by decide +kernel
theorem dX11_zoo_9 : decode cX11_zoo 9 = .ok (.ifCond .ne 8, 3) := by decide +kernel
theorem dX11_zoo_12 : decode cX11_zoo 12 = .ok (.aload_n 0, 1) := by decide +kernel
theorem dX11_zoo_13 : decode cX11_zoo 13 = .ok (.getfield 223, 3) := by decide +kernel
theorem dX11_zoo_16 : decode cX11_zoo 16 = .ok (.ireturn, 1) := by decide +kernel
theorem dX11_zoo_17 : decode cX11_zoo 17 = .ok (.aload_n 0, 1) := by decide +kernel
theorem dX11_zoo_18 : decode cX11_zoo 18 = .ok (.invokevirtual 419, 3) := by decide +kernel
theorem dX11_zoo_21 : decode cX11_zoo 21 = .ok (.aload_n 0, 1) := by decide +kernel
theorem dX11_zoo_22 : decode cX11_zoo 22 = .ok (.invokevirtual 181, 3) := by decide +kernel
theorem dX11_zoo_25 : decode cX11_zoo 25 = .ok (.aload_n 0, 1) := by decide +kernel
theorem dX11_zoo_26 : decode cX11_zoo 26 = .ok (.invokevirtual 184, 3) := by decide +kernel
theorem dX11_zoo_29 : decode cX11_zoo 29 = .ok (.aload_n 0, 1) := by decide +kernel
theorem dX11_zoo_30 : decode cX11_zoo 30 = .ok (.getfield 96, 3) := by decide +kernel
theorem dX11_zoo_33 : decode cX11_zoo 33 = .ok (.iconst 0, 1) := by decide +kernel
theorem dX11_zoo_34 : decode cX11_zoo 34 = .ok (.iconst 0, 1) := by decide +kernel
theorem dX11_zoo_35 : decode cX11_zoo 35 = .ok (.iastore, 1) := by decide +kernel
theorem dX11_zoo_36 : decode cX11_zoo 36 = .ok (.aload_n 0, 1) := by decide +kernel
theorem dX11_zoo_37 : decode cX11_zoo 37 = .ok (.iconst 0, 1) := by decide +kernel
theorem dX11_zoo_38 : decode cX11_zoo 38 = .ok (.putfield 422, 3) := by decide +kernel
theorem dX11_zoo_41 : decode cX11_zoo 41 = .ok (.iconst 0, 1) := by decide +kernel
theorem dX11_zoo_42 : decode cX11_zoo 42 = .ok (.istore_n 1, 1) := by decide +kernel
theorem dX11_zoo_43 : decode cX11_zoo 43 = .ok (.iload_n 1, 1) := by decide +kernel
theorem dX11_zoo_44 : decode cX11_zoo 44 = .ok (.iconst 4, 1) := by decide +kernel
theorem dX11_zoo_45 : decode cX11_zoo 45 = .ok (.if_icmp .ge 16, 3) := by decide +kernel
theorem dX11_zoo_48 : decode cX11_zoo 48 = .ok (.aload_n 0, 1) := by decide +kernel
theorem dX11_zoo_49 : decode cX11_zoo 49 = .ok (.getfield 129, 3) := by decide +kernel
theorem dX11_zoo_52 : decode cX11_zoo 52 = .ok (.iload_n 1, 1) := by decide +kernel
theorem dX11_zoo_53 : decode cX11_zoo 53 = .ok (.iconst 0, 1) := by decide +kernel
theorem dX11_zoo_54 : decode cX11_zoo 54 = .ok (.bastore, 1) := by decide +kernel
theorem dX11_zoo_55 : decode cX11_zoo 55 = .ok (.iinc 1 1, 3) := by decide +kernel
theorem dX11_zoo_58 : decode cX11_zoo 58 = .ok (.goto (-15), 3) := by decide +kernel
theorem dX11_zoo_61 : decode cX11_zoo 61 = .ok (.iconst 0, 1) := by decide +kernel
theorem dX11_zoo_62 : decode cX11_zoo 62 = .ok (.ireturn, 1) := by decide +kernel
theorem dX11_days_0 : decode cX11_days 0 = .ok (.aload_n 0, 1) := by decide +kernel
theorem dX11_days_1 : decode cX11_days 1 = .ok (.iconst 0, 1) := by decide +kernel
theorem dX11_days_2 : decode cX11_days 2 = .ok (.putfield 187, 3) := by decide +kernel
theorem dX11_days_5 : decode cX11_days 5 = .ok (.aload_n 0, 1) := by decide +kernel
theorem dX11_days_6 : decode cX11_days 6 = .ok (.getfield 96, 3) := by decide +kernel
theorem dX11_days_9 : decode cX11_days 9 = .ok (.iconst 5, 1) := by decide +kernel
theorem dX11_days_10 : decode cX11_days 10 = .ok (.iconst 0, 1) := by decide +kernel
theorem dX11_days_11 : decode cX11_days 11 = .ok (.iastore, 1) := by decide +kernel
theorem dX11_days_12 : decode cX11_days 12 = .ok (.aload_n 0, 1) := by decide +kernel
theorem dX11_days_13 : decode cX11_days 13 = .ok (.invokevirtual 380, 3) := by decide +kernel
theorem dX11_days_16 : decode cX11_days 16 = .ok (.aload_n 0, 1) := by decide +kernel
theorem dX11_days_17 : decode cX11_days 17 = .ok (.getfield 212, 3) := by decide +kernel
theorem dX11_days_20 : decode cX11_days 20 = .ok (.ifCond .eq 15, 3) := by decide +kernel
theorem dX11_days_23 : decode cX11_days 23 = .ok (.aload_n 0, 1) := by decide +kernel
theorem dX11_days_24 : decode cX11_days 24 = .ok (.invokevirtual 425, 3) := by decide +kernel
theorem dX11_days_27 : decode cX11_days 27 = .ok (.ifCond .ne (-11), 3) := by decide +kernel
theorem dX11_days_30 : decode cX11_days 30 = .ok (.aload_n 0, 1) := by decide +kernel
theorem dX11_days_31 : decode cX11_days 31 = .ok (.getfield 223, 3) := by decide +kernel
theorem dX11_days_34 : decode cX11_days 34 = .ok (.ireturn, 1) := by decide +kernel
theorem dX11_days_35 : decode cX11_days 35 = .ok (.aload_n 0, 1) := by decide +kernel
theorem dX11_days_36 : decode cX11_days 36 = .ok (.iconst 5, 1) := by decide +kernel
theorem dX11_days_37 : decode cX11_days 37 = .ok (.iconst 0, 1) := by decide +kernel
theorem dX11_days_38 : decode cX11_days 38 = .ok (.invokevirtual 428, 3) := by decide +kernel
theorem dX11_days_41 : decode cX11_days 41 = .ok (.iconst 0, 1) := by decide +kernel
theorem dX11_days_42 : decode cX11_days 42 = .ok (.ireturn, 1) := by decide +kernel
theorem dX11_isPen_0 : decode cX11_isPen 0 = .ok (.iload_n 1, 1) := by decide +kernel
theorem dX11_isPen_1 : decode cX11_isPen 1 = .ok (.ifCond .lt 17, 3) := by decide +kernel
theorem dX11_isPen_4 : decode cX11_isPen 4 = .ok (.iload_n 1, 1) := by decide +kernel
theorem dX11_isPen_5 : decode cX11_isPen 5 = .ok (.aload_n 0, 1) := by decide +kernel
theorem dX11_isPen_6 : decode cX11_isPen 6 = .ok (.getfield 13, 3) := by decide +kernel
theorem dX11_isPen_9 : decode cX11_isPen 9 = .ok (.iconst 0, 1) := by decide +kernel
theorem dX11_isPen_10 : decode cX11_isPen 10 = .ok (.iaload, 1) := by decide +kernel
theorem dX11_isPen_11 : decode cX11_isPen 11 = .ok (.if_icmp .ge 7, 3) := by decide +kernel
theorem dX11_isPen_14 : decode cX11_isPen 14 = .ok (.iconst 1, 1) := by decide +kernel
theorem dX11_isPen_15 : decode cX11_isPen 15 = .ok (.goto 4, 3) := by decide +kernel
theorem dX11_isPen_18 : decode cX11_isPen 18 = .ok (.iconst 0, 1) := by decide +kernel
theorem dX11_isPen_19 : decode cX11_isPen 19 = .ok (.ireturn, 1) := by decide +kernel
theorem dX11_isGuest_0 : decode cX11_isGuest 0 = .ok (.iload_n 1, 1) := by decide +kernel
theorem dX11_isGuest_1 : decode cX11_isGuest 1 = .ok (.ifCond .lt 17, 3) := by decide +kernel
theorem dX11_isGuest_4 : decode cX11_isGuest 4 = .ok (.iload_n 1, 1) := by decide +kernel
theorem dX11_isGuest_5 : decode cX11_isGuest 5 = .ok (.aload_n 0, 1) := by decide +kernel
theorem dX11_isGuest_6 : decode cX11_isGuest 6 = .ok (.getfield 13, 3) := by decide +kernel
theorem dX11_isGuest_9 : decode cX11_isGuest 9 = .ok (.iconst 1, 1) := by decide +kernel
theorem dX11_isGuest_10 : decode cX11_isGuest 10 = .ok (.iaload, 1) := by decide +kernel
theorem dX11_isGuest_11 : decode cX11_isGuest 11 = .ok (.if_icmp .ge 7, 3) := by decide +kernel
theorem dX11_isGuest_14 : decode cX11_isGuest 14 = .ok (.iconst 1, 1) := by decide +kernel
theorem dX11_isGuest_15 : decode cX11_isGuest 15 = .ok (.goto 4, 3) := by decide +kernel
theorem dX11_isGuest_18 : decode cX11_isGuest 18 = .ok (.iconst 0, 1) := by decide +kernel
theorem dX11_isGuest_19 : decode cX11_isGuest 19 = .ok (.ireturn, 1) := by decide +kernel
theorem dX11_isAnimal_0 : decode cX11_isAnimal 0 = .ok (.iload_n 1, 1) := by decide +kernel
theorem dX11_isAnimal_1 : decode cX11_isAnimal 1 = .ok (.ifCond .lt 17, 3) := by decide +kernel
theorem dX11_isAnimal_4 : decode cX11_isAnimal 4 = .ok (.iload_n 1, 1) := by decide +kernel
theorem dX11_isAnimal_5 : decode cX11_isAnimal 5 = .ok (.aload_n 0, 1) := by decide +kernel
theorem dX11_isAnimal_6 : decode cX11_isAnimal 6 = .ok (.getfield 13, 3) := by decide +kernel
theorem dX11_isAnimal_9 : decode cX11_isAnimal 9 = .ok (.iconst 2, 1) := by decide +kernel
theorem dX11_isAnimal_10 : decode cX11_isAnimal 10 = .ok (.iaload, 1) := by decide +kernel
theorem dX11_isAnimal_11 : decode cX11_isAnimal 11 = .ok (.if_icmp .ge 7, 3) := by decide +kernel
theorem dX11_isAnimal_14 : decode cX11_isAnimal 14 = .ok (.iconst 1, 1) := by decide +kernel
theorem dX11_isAnimal_15 : decode cX11_isAnimal 15 = .ok (.goto 4, 3) := by decide +kernel
theorem dX11_isAnimal_18 : decode cX11_isAnimal 18 = .ok (.iconst 0, 1) := by decide +kernel
theorem dX11_isAnimal_19 : decode cX11_isAnimal 19 = .ok (.ireturn, 1) := by decide +kernel
theorem dX11_allGuests_0 : decode cX11_allGuests 0 = .ok (.iconst 1, 1) := by decide +kernel
theorem dX11_allGuests_1 : decode cX11_allGuests 1 = .ok (.aload_n 0, 1) := by decide +kernel
theorem dX11_allGuests_2 : decode cX11_allGuests 2 = .ok (.getfield 13, 3) := by decide +kernel
theorem dX11_allGuests_5 : decode cX11_allGuests 5 = .ok (.iconst 1, 1) := by decide +kernel
theorem dX11_allGuests_6 : decode cX11_allGuests 6 = .ok (.iaload, 1) := by decide +kernel
theorem dX11_allGuests_7 : decode cX11_allGuests 7 = .ok (.ishl, 1) := by decide +kernel
theorem dX11_allGuests_8 : decode cX11_allGuests 8 = .ok (.iconst 1, 1) := by decide +kernel
theorem dX11_allGuests_9 : decode cX11_allGuests 9 = .ok (.isub, 1) := by decide +kernel
theorem dX11_allGuests_10 : decode cX11_allGuests 10 = .ok (.ireturn, 1) := by decide +kernel
theorem dX11_guestsIn_0 : decode cX11_guestsIn 0 = .ok (.iconst 0, 1) := by decide +kernel
theorem dX11_guestsIn_1 : decode cX11_guestsIn 1 = .ok (.istore_n 2, 1) := by decide +kernel
theorem dX11_guestsIn_2 : decode cX11_guestsIn 2 = .ok (.iconst 0, 1) := by decide +kernel
theorem dX11_guestsIn_3 : decode cX11_guestsIn 3 = .ok (.istore_n 3, 1) := by decide +kernel
theorem dX11_guestsIn_4 : decode cX11_guestsIn 4 = .ok (.iload_n 3, 1) := by decide +kernel
theorem dX11_guestsIn_5 : decode cX11_guestsIn 5 = .ok (.aload_n 0, 1) := by decide +kernel
theorem dX11_guestsIn_6 : decode cX11_guestsIn 6 = .ok (.getfield 13, 3) := by decide +kernel
theorem dX11_guestsIn_9 : decode cX11_guestsIn 9 = .ok (.iconst 1, 1) := by decide +kernel
theorem dX11_guestsIn_10 : decode cX11_guestsIn 10 = .ok (.iaload, 1) := by decide +kernel
theorem dX11_guestsIn_11 : decode cX11_guestsIn 11 = .ok (.if_icmp .ge 31, 3) := by decide +kernel
theorem dX11_guestsIn_14 : decode cX11_guestsIn 14 = .ok (.iload_n 2, 1) := by decide +kernel
theorem dX11_guestsIn_15 : decode cX11_guestsIn 15 = .ok (.aload_n 0, 1) := by decide +kernel
theorem dX11_guestsIn_16 : decode cX11_guestsIn 16 = .ok (.getfield 114, 3) := by decide +kernel
theorem dX11_guestsIn_19 : decode cX11_guestsIn 19 = .ok (.iconst 2, 1) := by decide +kernel
theorem dX11_guestsIn_20 : decode cX11_guestsIn 20 = .ok (.iload_n 3, 1) := by decide +kernel
theorem dX11_guestsIn_21 : decode cX11_guestsIn 21 = .ok (.iadd, 1) := by decide +kernel
theorem dX11_guestsIn_22 : decode cX11_guestsIn 22 = .ok (.iaload, 1) := by decide +kernel
