theorem d_W_law_0 : decode code 0 = .ok (.new 8, 3) := by decide +kernel
theorem d_W_law_3 : decode code 3 = .ok (.dup, 1) := by decide +kernel
theorem d_W_law_4 : decode code 4 = .ok (.invokespecial 53, 3) := by decide +kernel
theorem d_W_law_7 : decode code 7 = .ok (.astore_n 1, 1) := by decide +kernel
theorem d_W_law_8 : decode code 8 = .ok (.new 54, 3) := by decide +kernel
theorem d_W_law_11 : decode code 11 = .ok (.dup, 1) := by decide +kernel
theorem d_W_law_12 : decode code 12 = .ok (.invokespecial 56, 3) := by decide +kernel
theorem d_W_law_15 : decode code 15 = .ok (.astore_n 2, 1) := by decide +kernel
theorem d_W_law_16 : decode code 16 = .ok (.iconst 1, 1) := by decide +kernel
theorem d_W_law_17 : decode code 17 = .ok (.newarray .long, 2) := by decide +kernel
theorem d_W_law_19 : decode code 19 = .ok (.astore_n 3, 1) := by decide +kernel
theorem d_W_law_20 : decode code 20 = .ok (.iconst 0, 1) := by decide +kernel
theorem d_W_law_21 : decode code 21 = .ok (.istore 4, 2) := by decide +kernel
theorem d_W_law_23 : decode code 23 = .ok (.iload 4, 2) := by decide +kernel
theorem d_W_law_25 : decode code 25 = .ok (.aload_n 0, 1) := by decide +kernel
theorem d_W_law_26 : decode code 26 = .ok (.arraylength, 1) := by decide +kernel
theorem d_W_law_27 : decode code 27 = .ok (.iconst 5, 1) := by decide +kernel
theorem d_W_law_28 : decode code 28 = .ok (.isub, 1) := by decide +kernel
theorem d_W_law_29 : decode code 29 = .ok (.if_icmp .gt 812, 3) := by decide +kernel
theorem d_W_law_32 : decode code 32 = .ok (.aload_n 0, 1) := by decide +kernel
theorem d_W_law_33 : decode code 33 = .ok (.iload 4, 2) := by decide +kernel
theorem d_W_law_35 : decode code 35 = .ok (.iaload, 1) := by decide +kernel
theorem d_W_law_36 : decode code 36 = .ok (.bipush 15, 2) := by decide +kernel
theorem d_W_law_38 : decode code 38 = .ok (.iand, 1) := by decide +kernel
theorem d_W_law_39 : decode code 39 = .ok (.tableswitch 796 0 13 #[69, 161, 217, 261, 317, 385, 465, 521, 589, 645, 658, 671, 727, 771], 69) := by decide +kernel
theorem d_W_law_108 : decode code 108 = .ok (.aload_n 1, 1) := by decide +kernel
theorem d_W_law_109 : decode code 109 = .ok (.aload_n 0, 1) := by decide +kernel
theorem d_W_law_110 : decode code 110 = .ok (.iload 4, 2) := by decide +kernel
theorem d_W_law_112 : decode code 112 = .ok (.iconst 1, 1) := by decide +kernel
theorem d_W_law_113 : decode code 113 = .ok (.iadd, 1) := by decide +kernel
theorem d_W_law_114 : decode code 114 = .ok (.iaload, 1) := by decide +kernel
theorem d_W_law_115 : decode code 115 = .ok (.aload_n 0, 1) := by decide +kernel
theorem d_W_law_116 : decode code 116 = .ok (.iload 4, 2) := by decide +kernel
theorem d_W_law_118 : decode code 118 = .ok (.iconst 2, 1) := by decide +kernel
theorem d_W_law_119 : decode code 119 = .ok (.iadd, 1) := by decide +kernel
theorem d_W_law_120 : decode code 120 = .ok (.iaload, 1) := by decide +kernel
theorem d_W_law_121 : decode code 121 = .ok (.aload_n 0, 1) := by decide +kernel
theorem d_W_law_122 : decode code 122 = .ok (.iload 4, 2) := by decide +kernel
theorem d_W_law_124 : decode code 124 = .ok (.iconst 3, 1) := by decide +kernel
theorem d_W_law_125 : decode code 125 = .ok (.iadd, 1) := by decide +kernel
theorem d_W_law_126 : decode code 126 = .ok (.iaload, 1) := by decide +kernel
theorem d_W_law_127 : decode code 127 = .ok (.aload_n 0, 1) := by decide +kernel
theorem d_W_law_128 : decode code 128 = .ok (.iload 4, 2) := by decide +kernel
theorem d_W_law_130 : decode code 130 = .ok (.iconst 4, 1) := by decide +kernel
theorem d_W_law_131 : decode code 131 = .ok (.iadd, 1) := by decide +kernel
theorem d_W_law_132 : decode code 132 = .ok (.iaload, 1) := by decide +kernel
theorem d_W_law_133 : decode code 133 = .ok (.aload_n 3, 1) := by decide +kernel
theorem d_W_law_134 : decode code 134 = .ok (.invokestatic 57, 3) := by decide +kernel
theorem d_W_law_137 : decode code 137 = .ok (.istore 5, 2) := by decide +kernel
theorem d_W_law_139 : decode code 139 = .ok (.aload_n 2, 1) := by decide +kernel
theorem d_W_law_140 : decode code 140 = .ok (.aload_n 0, 1) := by decide +kernel
theorem d_W_law_141 : decode code 141 = .ok (.iload 4, 2) := by decide +kernel
theorem d_W_law_143 : decode code 143 = .ok (.iconst 1, 1) := by decide +kernel
theorem d_W_law_144 : decode code 144 = .ok (.iadd, 1) := by decide +kernel
theorem d_W_law_145 : decode code 145 = .ok (.iaload, 1) := by decide +kernel
theorem d_W_law_146 : decode code 146 = .ok (.aload_n 0, 1) := by decide +kernel
theorem d_W_law_147 : decode code 147 = .ok (.iload 4, 2) := by decide +kernel
theorem d_W_law_149 : decode code 149 = .ok (.iconst 2, 1) := by decide +kernel
theorem d_W_law_150 : decode code 150 = .ok (.iadd, 1) := by decide +kernel
theorem d_W_law_151 : decode code 151 = .ok (.iaload, 1) := by decide +kernel
theorem d_W_law_152 : decode code 152 = .ok (.aload_n 0, 1) := by decide +kernel
theorem d_W_law_153 : decode code 153 = .ok (.iload 4, 2) := by decide +kernel
theorem d_W_law_155 : decode code 155 = .ok (.iconst 3, 1) := by decide +kernel
theorem d_W_law_156 : decode code 156 = .ok (.iadd, 1) := by decide +kernel
theorem d_W_law_157 : decode code 157 = .ok (.iaload, 1) := by decide +kernel
theorem d_W_law_158 : decode code 158 = .ok (.aload_n 0, 1) := by decide +kernel
theorem d_W_law_159 : decode code 159 = .ok (.iload 4, 2) := by decide +kernel
theorem d_W_law_161 : decode code 161 = .ok (.iconst 4, 1) := by decide +kernel
theorem d_W_law_162 : decode code 162 = .ok (.iadd, 1) := by decide +kernel
theorem d_W_law_163 : decode code 163 = .ok (.iaload, 1) := by decide +kernel
theorem d_W_law_164 : decode code 164 = .ok (.invokevirtual 62, 3) := by decide +kernel
theorem d_W_law_167 : decode code 167 = .ok (.istore 6, 2) := by decide +kernel
theorem d_W_law_169 : decode code 169 = .ok (.aload_n 2, 1) := by decide +kernel
theorem d_W_law_170 : decode code 170 = .ok (.invokevirtual 63, 3) := by decide +kernel
theorem d_W_law_173 : decode code 173 = .ok (.iload 5, 2) := by decide +kernel
theorem d_W_law_175 : decode code 175 = .ok (.if_icmp .eq 5, 3) := by decide +kernel
theorem d_W_law_178 : decode code 178 = .ok (.iconst 0, 1) := by decide +kernel
theorem d_W_law_179 : decode code 179 = .ok (.ireturn, 1) := by decide +kernel
theorem d_W_law_180 : decode code 180 = .ok (.iload 5, 2) := by decide +kernel
theorem d_W_law_182 : decode code 182 = .ok (.ifCond .ne 15, 3) := by decide +kernel
theorem d_W_law_185 : decode code 185 = .ok (.aload_n 3, 1) := by decide +kernel
theorem d_W_law_186 : decode code 186 = .ok (.iconst 0, 1) := by decide +kernel
theorem d_W_law_187 : decode code 187 = .ok (.laload, 1) := by decide +kernel
theorem d_W_law_188 : decode code 188 = .ok (.iload 6, 2) := by decide +kernel
theorem d_W_law_190 : decode code 190 = .ok (.i2l, 1) := by decide +kernel
theorem d_W_law_191 : decode code 191 = .ok (.lcmp, 1) := by decide +kernel
theorem d_W_law_192 : decode code 192 = .ok (.ifCond .eq 5, 3) := by decide +kernel
theorem d_W_law_195 : decode code 195 = .ok (.iconst 0, 1) := by decide +kernel
theorem d_W_law_196 : decode code 196 = .ok (.ireturn, 1) := by decide +kernel
theorem d_W_law_197 : decode code 197 = .ok (.goto 638, 3) := by decide +kernel
theorem d_W_law_200 : decode code 200 = .ok (.aload_n 1, 1) := by decide +kernel
theorem d_W_law_201 : decode code 201 = .ok (.aload_n 0, 1) := by decide +kernel
theorem d_W_law_202 : decode code 202 = .ok (.iload 4, 2) := by decide +kernel
theorem d_W_law_204 : decode code 204 = .ok (.iconst 1, 1) := by decide +kernel
theorem d_W_law_205 : decode code 205 = .ok (.iadd, 1) := by decide +kernel
theorem d_W_law_206 : decode code 206 = .ok (.iaload, 1) := by decide +kernel
theorem d_W_law_207 : decode code 207 = .ok (.aload_n 3, 1) := by decide +kernel
theorem d_W_law_208 : decode code 208 = .ok (.invokestatic 66, 3) := by decide +kernel
theorem d_W_law_211 : decode code 211 = .ok (.istore 5, 2) := by decide +kernel
theorem d_W_law_213 : decode code 213 = .ok (.aload_n 2, 1) := by decide +kernel
theorem d_W_law_214 : decode code 214 = .ok (.aload_n 0, 1) := by decide +kernel
theorem d_W_law_215 : decode code 215 = .ok (.iload 4, 2) := by decide +kernel
theorem d_W_law_217 : decode code 217 = .ok (.iconst 1, 1) := by decide +kernel
theorem d_W_law_218 : decode code 218 = .ok (.iadd, 1) := by decide +kernel
theorem d_W_law_219 : decode code 219 = .ok (.iaload, 1) := by decide +kernel
theorem d_W_law_220 : decode code 220 = .ok (.invokevirtual 69, 3) := by decide +kernel
theorem d_W_law_223 : decode code 223 = .ok (.istore 6, 2) := by decide +kernel
theorem d_W_law_225 : decode code 225 = .ok (.aload_n 2, 1) := by decide +kernel
theorem d_W_law_226 : decode code 226 = .ok (.invokevirtual 63, 3) := by decide +kernel
theorem d_W_law_229 : decode code 229 = .ok (.iload 5, 2) := by decide +kernel
theorem d_W_law_231 : decode code 231 = .ok (.if_icmp .eq 5, 3) := by decide +kernel
theorem d_W_law_234 : decode code 234 = .ok (.iconst 0, 1) := by decide +kernel
theorem d_W_law_235 : decode code 235 = .ok (.ireturn, 1) := by decide +kernel
theorem d_W_law_236 : decode code 236 = .ok (.iload 5, 2) := by decide +kernel
theorem d_W_law_238 : decode code 238 = .ok (.ifCond .ne 15, 3) := by decide +kernel
theorem d_W_law_241 : decode code 241 = .ok (.aload_n 3, 1) := by decide +kernel
theorem d_W_law_242 : decode code 242 = .ok (.iconst 0, 1) := by decide +kernel
theorem d_W_law_243 : decode code 243 = .ok (.laload, 1) := by decide +kernel
theorem d_W_law_244 : decode code 244 = .ok (.iload 6, 2) := by decide +kernel
theorem d_W_law_246 : decode code 246 = .ok (.i2l, 1) := by decide +kernel
theorem d_W_law_247 : decode code 247 = .ok (.lcmp, 1) := by decide +kernel
theorem d_W_law_248 : decode code 248 = .ok (.ifCond .eq 5, 3) := by decide +kernel
theorem d_W_law_251 : decode code 251 = .ok (.iconst 0, 1) := by decide +kernel
theorem d_W_law_252 : decode code 252 = .ok (.ireturn, 1) := by decide +kernel
theorem d_W_law_253 : decode code 253 = .ok (.goto 582, 3) := by decide +kernel
theorem d_W_law_256 : decode code 256 = .ok (.aload_n 1, 1) := by decide +kernel
theorem d_W_law_257 : decode code 257 = .ok (.aload_n 3, 1) := by decide +kernel
theorem d_W_law_258 : decode code 258 = .ok (.invokestatic 70, 3) := by decide +kernel
theorem d_W_law_261 : decode code 261 = .ok (.istore 5, 2) := by decide +kernel
theorem d_W_law_263 : decode code 263 = .ok (.aload_n 2, 1) := by decide +kernel
theorem d_W_law_264 : decode code 264 = .ok (.invokevirtual 73, 3) := by decide +kernel
theorem d_W_law_267 : decode code 267 = .ok (.istore 6, 2) := by decide +kernel
theorem d_W_law_269 : decode code 269 = .ok (.aload_n 2, 1) := by decide +kernel
theorem d_W_law_270 : decode code 270 = .ok (.invokevirtual 63, 3) := by decide +kernel
theorem d_W_law_273 : decode code 273 = .ok (.iload 5, 2) := by decide +kernel
theorem d_W_law_275 : decode code 275 = .ok (.if_icmp .eq 5, 3) := by decide +kernel
theorem d_W_law_278 : decode code 278 = .ok (.iconst 0, 1) := by decide +kernel
theorem d_W_law_279 : decode code 279 = .ok (.ireturn, 1) := by decide +kernel
theorem d_W_law_280 : decode code 280 = .ok (.iload 5, 2) := by decide +kernel
theorem d_W_law_282 : decode code 282 = .ok (.ifCond .ne 15, 3) := by decide +kernel
theorem d_W_law_285 : decode code 285 = .ok (.aload_n 3, 1) := by decide +kernel
theorem d_W_law_286 : decode code 286 = .ok (.iconst 0, 1) := by decide +kernel
theorem d_W_law_287 : decode code 287 = .ok (.laload, 1) := by decide +kernel
theorem d_W_law_288 : decode code 288 = .ok (.iload 6, 2) := by decide +kernel
theorem d_W_law_290 : decode code 290 = .ok (.i2l, 1) := by decide +kernel
theorem d_W_law_291 : decode code 291 = .ok (.lcmp, 1) := by decide +kernel
theorem d_W_law_292 : decode code 292 = .ok (.ifCond .eq 5, 3) := by decide +kernel
theorem d_W_law_295 : decode code 295 = .ok (.iconst 0, 1) := by decide +kernel
theorem d_W_law_296 : decode code 296 = .ok (.ireturn, 1) := by decide +kernel
theorem d_W_law_297 : decode code 297 = .ok (.goto 538, 3) := by decide +kernel
theorem d_W_law_300 : decode code 300 = .ok (.aload_n 1, 1) := by decide +kernel
theorem d_W_law_301 : decode code 301 = .ok (.aload_n 0, 1) := by decide +kernel
theorem d_W_law_302 : decode code 302 = .ok (.iload 4, 2) := by decide +kernel
theorem d_W_law_304 : decode code 304 = .ok (.iconst 1, 1) := by decide +kernel
theorem d_W_law_305 : decode code 305 = .ok (.iadd, 1) := by decide +kernel
theorem d_W_law_306 : decode code 306 = .ok (.iaload, 1) := by decide +kernel
theorem d_W_law_307 : decode code 307 = .ok (.aload_n 3, 1) := by decide +kernel
theorem d_W_law_308 : decode code 308 = .ok (.invokestatic 74, 3) := by decide +kernel
theorem d_W_law_311 : decode code 311 = .ok (.istore 5, 2) := by decide +kernel
theorem d_W_law_313 : decode code 313 = .ok (.aload_n 2, 1) := by decide +kernel
theorem d_W_law_314 : decode code 314 = .ok (.aload_n 0, 1) := by decide +kernel
theorem d_W_law_315 : decode code 315 = .ok (.iload 4, 2) := by decide +kernel
theorem d_W_law_317 : decode code 317 = .ok (.iconst 1, 1) := by decide +kernel
theorem d_W_law_318 : decode code 318 = .ok (.iadd, 1) := by decide +kernel
theorem d_W_law_319 : decode code 319 = .ok (.iaload, 1) := by decide +kernel
theorem d_W_law_320 : decode code 320 = .ok (.invokevirtual 76, 3) := by decide +kernel
theorem d_W_law_323 : decode code 323 = .ok (.istore 6, 2) := by decide +kernel
theorem d_W_law_325 : decode code 325 = .ok (.aload_n 2, 1) := by decide +kernel
theorem d_W_law_326 : decode code 326 = .ok (.invokevirtual 63, 3) := by decide +kernel
theorem d_W_law_329 : decode code 329 = .ok (.iload 5, 2) := by decide +kernel
theorem d_W_law_331 : decode code 331 = .ok (.if_icmp .eq 5, 3) := by decide +kernel
theorem d_W_law_334 : decode code 334 = .ok (.iconst 0, 1) := by decide +kernel
theorem d_W_law_335 : decode code 335 = .ok (.ireturn, 1) := by decide +kernel
theorem d_W_law_336 : decode code 336 = .ok (.iload 5, 2) := by decide +kernel
theorem d_W_law_338 : decode code 338 = .ok (.ifCond .ne 15, 3) := by decide +kernel
theorem d_W_law_341 : decode code 341 = .ok (.aload_n 3, 1) := by decide +kernel
theorem d_W_law_342 : decode code 342 = .ok (.iconst 0, 1) := by decide +kernel
theorem d_W_law_343 : decode code 343 = .ok (.laload, 1) := by decide +kernel
theorem d_W_law_344 : decode code 344 = .ok (.iload 6, 2) := by decide +kernel
theorem d_W_law_346 : decode code 346 = .ok (.i2l, 1) := by decide +kernel
theorem d_W_law_347 : decode code 347 = .ok (.lcmp, 1) := by decide +kernel
theorem d_W_law_348 : decode code 348 = .ok (.ifCond .eq 5, 3) := by decide +kernel
theorem d_W_law_351 : decode code 351 = .ok (.iconst 0, 1) := by decide +kernel
theorem d_W_law_352 : decode code 352 = .ok (.ireturn, 1) := by decide +kernel
theorem d_W_law_353 : decode code 353 = .ok (.goto 482, 3) := by decide +kernel
theorem d_W_law_356 : decode code 356 = .ok (.aload_n 1, 1) := by decide +kernel
theorem d_W_law_357 : decode code 357 = .ok (.aload_n 0, 1) := by decide +kernel
theorem d_W_law_358 : decode code 358 = .ok (.iload 4, 2) := by decide +kernel
theorem d_W_law_360 : decode code 360 = .ok (.iconst 1, 1) := by decide +kernel
theorem d_W_law_361 : decode code 361 = .ok (.iadd, 1) := by decide +kernel
theorem d_W_law_362 : decode code 362 = .ok (.iaload, 1) := by decide +kernel
theorem d_W_law_363 : decode code 363 = .ok (.aload_n 0, 1) := by decide +kernel
theorem d_W_law_364 : decode code 364 = .ok (.iload 4, 2) := by decide +kernel
theorem d_W_law_366 : decode code 366 = .ok (.iconst 2, 1) := by decide +kernel
theorem d_W_law_367 : decode code 367 = .ok (.iadd, 1) := by decide +kernel
theorem d_W_law_368 : decode code 368 = .ok (.iaload, 1) := by decide +kernel
theorem d_W_law_369 : decode code 369 = .ok (.aload_n 3, 1) := by decide +kernel
theorem d_W_law_370 : decode code 370 = .ok (.invokestatic 77, 3) := by decide +kernel
theorem d_W_law_373 : decode code 373 = .ok (.istore 5, 2) := by decide +kernel
theorem d_W_law_375 : decode code 375 = .ok (.aload_n 2, 1) := by decide +kernel
theorem d_W_law_376 : decode code 376 = .ok (.aload_n 0, 1) := by decide +kernel
theorem d_W_law_377 : decode code 377 = .ok (.iload 4, 2) := by decide +kernel
theorem d_W_law_379 : decode code 379 = .ok (.iconst 1, 1) := by decide +kernel
theorem d_W_law_380 : decode code 380 = .ok (.iadd, 1) := by decide +kernel
theorem d_W_law_381 : decode code 381 = .ok (.iaload, 1) := by decide +kernel
theorem d_W_law_382 : decode code 382 = .ok (.aload_n 0, 1) := by decide +kernel
theorem d_W_law_383 : decode code 383 = .ok (.iload 4, 2) := by decide +kernel
theorem d_W_law_385 : decode code 385 = .ok (.iconst 2, 1) := by decide +kernel
theorem d_W_law_386 : decode code 386 = .ok (.iadd, 1) := by decide +kernel
theorem d_W_law_387 : decode code 387 = .ok (.iaload, 1) := by decide +kernel
theorem d_W_law_388 : decode code 388 = .ok (.invokevirtual 80, 3) := by decide +kernel
theorem d_W_law_391 : decode code 391 = .ok (.istore 6, 2) := by decide +kernel
theorem d_W_law_393 : decode code 393 = .ok (.aload_n 2, 1) := by decide +kernel
theorem d_W_law_394 : decode code 394 = .ok (.invokevirtual 63, 3) := by decide +kernel
theorem d_W_law_397 : decode code 397 = .ok (.iload 5, 2) := by decide +kernel
theorem d_W_law_399 : decode code 399 = .ok (.if_icmp .eq 5, 3) := by decide +kernel
theorem d_W_law_402 : decode code 402 = .ok (.iconst 0, 1) := by decide +kernel
theorem d_W_law_403 : decode code 403 = .ok (.ireturn, 1) := by decide +kernel
theorem d_W_law_404 : decode code 404 = .ok (.iload 5, 2) := by decide +kernel
theorem d_W_law_406 : decode code 406 = .ok (.ifCond .ne 15, 3) := by decide +kernel
theorem d_W_law_409 : decode code 409 = .ok (.aload_n 3, 1) := by decide +kernel
theorem d_W_law_410 : decode code 410 = .ok (.iconst 0, 1) := by decide +kernel
theorem d_W_law_411 : decode code 411 = .ok (.laload, 1) := by decide +kernel
theorem d_W_law_412 : decode code 412 = .ok (.iload 6, 2) := by decide +kernel
theorem d_W_law_414 : decode code 414 = .ok (.i2l, 1) := by decide +kernel
theorem d_W_law_415 : decode code 415 = .ok (.lcmp, 1) := by decide +kernel
theorem d_W_law_416 : decode code 416 = .ok (.ifCond .eq 5, 3) := by decide +kernel
theorem d_W_law_419 : decode code 419 = .ok (.iconst 0, 1) := by decide +kernel
theorem d_W_law_420 : decode code 420 = .ok (.ireturn, 1) := by decide +kernel
theorem d_W_law_421 : decode code 421 = .ok (.goto 414, 3) := by decide +kernel
theorem d_W_law_424 : decode code 424 = .ok (.aload_n 1, 1) := by decide +kernel
theorem d_W_law_425 : decode code 425 = .ok (.aload_n 0, 1) := by decide +kernel
theorem d_W_law_426 : decode code 426 = .ok (.iload 4, 2) := by decide +kernel
theorem d_W_law_428 : decode code 428 = .ok (.iconst 1, 1) := by decide +kernel
theorem d_W_law_429 : decode code 429 = .ok (.iadd, 1) := by decide +kernel
theorem d_W_law_430 : decode code 430 = .ok (.iaload, 1) := by decide +kernel
theorem d_W_law_431 : decode code 431 = .ok (.aload_n 0, 1) := by decide +kernel
theorem d_W_law_432 : decode code 432 = .ok (.iload 4, 2) := by decide +kernel
theorem d_W_law_434 : decode code 434 = .ok (.iconst 2, 1) := by decide +kernel
theorem d_W_law_435 : decode code 435 = .ok (.iadd, 1) := by decide +kernel
theorem d_W_law_436 : decode code 436 = .ok (.iaload, 1) := by decide +kernel
theorem d_W_law_437 : decode code 437 = .ok (.aload_n 0, 1) := by decide +kernel
theorem d_W_law_438 : decode code 438 = .ok (.iload 4, 2) := by decide +kernel
theorem d_W_law_440 : decode code 440 = .ok (.iconst 3, 1) := by decide +kernel
theorem d_W_law_441 : decode code 441 = .ok (.iadd, 1) := by decide +kernel
theorem d_W_law_442 : decode code 442 = .ok (.iaload, 1) := by decide +kernel
theorem d_W_law_443 : decode code 443 = .ok (.aload_n 3, 1) := by decide +kernel
theorem d_W_law_444 : decode code 444 = .ok (.invokestatic 81, 3) := by decide +kernel
theorem d_W_law_447 : decode code 447 = .ok (.istore 5, 2) := by decide +kernel
theorem d_W_law_449 : decode code 449 = .ok (.aload_n 2, 1) := by decide +kernel
theorem d_W_law_450 : decode code 450 = .ok (.aload_n 0, 1) := by decide +kernel
theorem d_W_law_451 : decode code 451 = .ok (.iload 4, 2) := by decide +kernel
theorem d_W_law_453 : decode code 453 = .ok (.iconst 1, 1) := by decide +kernel
theorem d_W_law_454 : decode code 454 = .ok (.iadd, 1) := by decide +kernel
theorem d_W_law_455 : decode code 455 = .ok (.iaload, 1) := by decide +kernel
theorem d_W_law_456 : decode code 456 = .ok (.aload_n 0, 1) := by decide +kernel
theorem d_W_law_457 : decode code 457 = .ok (.iload 4, 2) := by decide +kernel
theorem d_W_law_459 : decode code 459 = .ok (.iconst 2, 1) := by decide +kernel
theorem d_W_law_460 : decode code 460 = .ok (.iadd, 1) := by decide +kernel
theorem d_W_law_461 : decode code 461 = .ok (.iaload, 1) := by decide +kernel
theorem d_W_law_462 : decode code 462 = .ok (.aload_n 0, 1) := by decide +kernel
theorem d_W_law_463 : decode code 463 = .ok (.iload 4, 2) := by decide +kernel
theorem d_W_law_465 : decode code 465 = .ok (.iconst 3, 1) := by decide +kernel
theorem d_W_law_466 : decode code 466 = .ok (.iadd, 1) := by decide +kernel
theorem d_W_law_467 : decode code 467 = .ok (.iaload, 1) := by decide +kernel
theorem d_W_law_468 : decode code 468 = .ok (.invokevirtual 84, 3) := by decide +kernel
theorem d_W_law_471 : decode code 471 = .ok (.istore 6, 2) := by decide +kernel
theorem d_W_law_473 : decode code 473 = .ok (.aload_n 2, 1) := by decide +kernel
theorem d_W_law_474 : decode code 474 = .ok (.invokevirtual 63, 3) := by decide +kernel
theorem d_W_law_477 : decode code 477 = .ok (.iload 5, 2) := by decide +kernel
theorem d_W_law_479 : decode code 479 = .ok (.if_icmp .eq 5, 3) := by decide +kernel
theorem d_W_law_482 : decode code 482 = .ok (.iconst 0, 1) := by decide +kernel
theorem d_W_law_483 : decode code 483 = .ok (.ireturn, 1) := by decide +kernel
theorem d_W_law_484 : decode code 484 = .ok (.iload 5, 2) := by decide +kernel
theorem d_W_law_486 : decode code 486 = .ok (.ifCond .ne 15, 3) := by decide +kernel
theorem d_W_law_489 : decode code 489 = .ok (.aload_n 3, 1) := by decide +kernel
theorem d_W_law_490 : decode code 490 = .ok (.iconst 0, 1) := by decide +kernel
theorem d_W_law_491 : decode code 491 = .ok (.laload, 1) := by decide +kernel
theorem d_W_law_492 : decode code 492 = .ok (.iload 6, 2) := by decide +kernel
theorem d_W_law_494 : decode code 494 = .ok (.i2l, 1) := by decide +kernel
theorem d_W_law_495 : decode code 495 = .ok (.lcmp, 1) := by decide +kernel
theorem d_W_law_496 : decode code 496 = .ok (.ifCond .eq 5, 3) := by decide +kernel
theorem d_W_law_499 : decode code 499 = .ok (.iconst 0, 1) := by decide +kernel
theorem d_W_law_500 : decode code 500 = .ok (.ireturn, 1) := by decide +kernel
theorem d_W_law_501 : decode code 501 = .ok (.goto 334, 3) := by decide +kernel
theorem d_W_law_504 : decode code 504 = .ok (.aload_n 1, 1) := by decide +kernel
theorem d_W_law_505 : decode code 505 = .ok (.aload_n 0, 1) := by decide +kernel
theorem d_W_law_506 : decode code 506 = .ok (.iload 4, 2) := by decide +kernel
theorem d_W_law_508 : decode code 508 = .ok (.iconst 1, 1) := by decide +kernel
theorem d_W_law_509 : decode code 509 = .ok (.iadd, 1) := by decide +kernel
theorem d_W_law_510 : decode code 510 = .ok (.iaload, 1) := by decide +kernel
theorem d_W_law_511 : decode code 511 = .ok (.aload_n 3, 1) := by decide +kernel
theorem d_W_law_512 : decode code 512 = .ok (.invokestatic 85, 3) := by decide +kernel
theorem d_W_law_515 : decode code 515 = .ok (.istore 5, 2) := by decide +kernel
theorem d_W_law_517 : decode code 517 = .ok (.aload_n 2, 1) := by decide +kernel
theorem d_W_law_518 : decode code 518 = .ok (.aload_n 0, 1) := by decide +kernel
theorem d_W_law_519 : decode code 519 = .ok (.iload 4, 2) := by decide +kernel
theorem d_W_law_521 : decode code 521 = .ok (.iconst 1, 1) := by decide +kernel
theorem d_W_law_522 : decode code 522 = .ok (.iadd, 1) := by decide +kernel
theorem d_W_law_523 : decode code 523 = .ok (.iaload, 1) := by decide +kernel
theorem d_W_law_524 : decode code 524 = .ok (.invokevirtual 87, 3) := by decide +kernel
theorem d_W_law_527 : decode code 527 = .ok (.istore 6, 2) := by decide +kernel
theorem d_W_law_529 : decode code 529 = .ok (.aload_n 2, 1) := by decide +kernel
theorem d_W_law_530 : decode code 530 = .ok (.invokevirtual 63, 3) := by decide +kernel
theorem d_W_law_533 : decode code 533 = .ok (.iload 5, 2) := by decide +kernel
theorem d_W_law_535 : decode code 535 = .ok (.if_icmp .eq 5, 3) := by decide +kernel
theorem d_W_law_538 : decode code 538 = .ok (.iconst 0, 1) := by decide +kernel
theorem d_W_law_539 : decode code 539 = .ok (.ireturn, 1) := by decide +kernel
theorem d_W_law_540 : decode code 540 = .ok (.iload 5, 2) := by decide +kernel
theorem d_W_law_542 : decode code 542 = .ok (.ifCond .ne 15, 3) := by decide +kernel
theorem d_W_law_545 : decode code 545 = .ok (.aload_n 3, 1) := by decide +kernel
theorem d_W_law_546 : decode code 546 = .ok (.iconst 0, 1) := by decide +kernel
theorem d_W_law_547 : decode code 547 = .ok (.laload, 1) := by decide +kernel
theorem d_W_law_548 : decode code 548 = .ok (.iload 6, 2) := by decide +kernel
theorem d_W_law_550 : decode code 550 = .ok (.i2l, 1) := by decide +kernel
theorem d_W_law_551 : decode code 551 = .ok (.lcmp, 1) := by decide +kernel
theorem d_W_law_552 : decode code 552 = .ok (.ifCond .eq 5, 3) := by decide +kernel
theorem d_W_law_555 : decode code 555 = .ok (.iconst 0, 1) := by decide +kernel
theorem d_W_law_556 : decode code 556 = .ok (.ireturn, 1) := by decide +kernel
theorem d_W_law_557 : decode code 557 = .ok (.goto 278, 3) := by decide +kernel
theorem d_W_law_560 : decode code 560 = .ok (.aload_n 1, 1) := by decide +kernel
theorem d_W_law_561 : decode code 561 = .ok (.aload_n 0, 1) := by decide +kernel
theorem d_W_law_562 : decode code 562 = .ok (.iload 4, 2) := by decide +kernel
theorem d_W_law_564 : decode code 564 = .ok (.iconst 1, 1) := by decide +kernel
theorem d_W_law_565 : decode code 565 = .ok (.iadd, 1) := by decide +kernel
theorem d_W_law_566 : decode code 566 = .ok (.iaload, 1) := by decide +kernel
theorem d_W_law_567 : decode code 567 = .ok (.aload_n 0, 1) := by decide +kernel
theorem d_W_law_568 : decode code 568 = .ok (.iload 4, 2) := by decide +kernel
theorem d_W_law_570 : decode code 570 = .ok (.iconst 2, 1) := by decide +kernel
theorem d_W_law_571 : decode code 571 = .ok (.iadd, 1) := by decide +kernel
theorem d_W_law_572 : decode code 572 = .ok (.iaload, 1) := by decide +kernel
theorem d_W_law_573 : decode code 573 = .ok (.aload_n 3, 1) := by decide +kernel
theorem d_W_law_574 : decode code 574 = .ok (.invokestatic 88, 3) := by decide +kernel
theorem d_W_law_577 : decode code 577 = .ok (.istore 5, 2) := by decide +kernel
theorem d_W_law_579 : decode code 579 = .ok (.aload_n 2, 1) := by decide +kernel
theorem d_W_law_580 : decode code 580 = .ok (.aload_n 0, 1) := by decide +kernel
theorem d_W_law_581 : decode code 581 = .ok (.iload 4, 2) := by decide +kernel
theorem d_W_law_583 : decode code 583 = .ok (.iconst 1, 1) := by decide +kernel
theorem d_W_law_584 : decode code 584 = .ok (.iadd, 1) := by decide +kernel
theorem d_W_law_585 : decode code 585 = .ok (.iaload, 1) := by decide +kernel
theorem d_W_law_586 : decode code 586 = .ok (.aload_n 0, 1) := by decide +kernel
theorem d_W_law_587 : decode code 587 = .ok (.iload 4, 2) := by decide +kernel
theorem d_W_law_589 : decode code 589 = .ok (.iconst 2, 1) := by decide +kernel
theorem d_W_law_590 : decode code 590 = .ok (.iadd, 1) := by decide +kernel
theorem d_W_law_591 : decode code 591 = .ok (.iaload, 1) := by decide +kernel
theorem d_W_law_592 : decode code 592 = .ok (.invokevirtual 90, 3) := by decide +kernel
theorem d_W_law_595 : decode code 595 = .ok (.istore 6, 2) := by decide +kernel
theorem d_W_law_597 : decode code 597 = .ok (.aload_n 2, 1) := by decide +kernel
theorem d_W_law_598 : decode code 598 = .ok (.invokevirtual 63, 3) := by decide +kernel
theorem d_W_law_601 : decode code 601 = .ok (.iload 5, 2) := by decide +kernel
theorem d_W_law_603 : decode code 603 = .ok (.if_icmp .eq 5, 3) := by decide +kernel
theorem d_W_law_606 : decode code 606 = .ok (.iconst 0, 1) := by decide +kernel
theorem d_W_law_607 : decode code 607 = .ok (.ireturn, 1) := by decide +kernel
theorem d_W_law_608 : decode code 608 = .ok (.iload 5, 2) := by decide +kernel
theorem d_W_law_610 : decode code 610 = .ok (.ifCond .ne 15, 3) := by decide +kernel
theorem d_W_law_613 : decode code 613 = .ok (.aload_n 3, 1) := by decide +kernel
theorem d_W_law_614 : decode code 614 = .ok (.iconst 0, 1) := by decide +kernel
theorem d_W_law_615 : decode code 615 = .ok (.laload, 1) := by decide +kernel
theorem d_W_law_616 : decode code 616 = .ok (.iload 6, 2) := by decide +kernel
theorem d_W_law_618 : decode code 618 = .ok (.i2l, 1) := by decide +kernel
theorem d_W_law_619 : decode code 619 = .ok (.lcmp, 1) := by decide +kernel
theorem d_W_law_620 : decode code 620 = .ok (.ifCond .eq 5, 3) := by decide +kernel
theorem d_W_law_623 : decode code 623 = .ok (.iconst 0, 1) := by decide +kernel
theorem d_W_law_624 : decode code 624 = .ok (.ireturn, 1) := by decide +kernel
theorem d_W_law_625 : decode code 625 = .ok (.goto 210, 3) := by decide +kernel
theorem d_W_law_628 : decode code 628 = .ok (.aload_n 1, 1) := by decide +kernel
theorem d_W_law_629 : decode code 629 = .ok (.aload_n 0, 1) := by decide +kernel
theorem d_W_law_630 : decode code 630 = .ok (.iload 4, 2) := by decide +kernel
theorem d_W_law_632 : decode code 632 = .ok (.iconst 1, 1) := by decide +kernel
theorem d_W_law_633 : decode code 633 = .ok (.iadd, 1) := by decide +kernel
theorem d_W_law_634 : decode code 634 = .ok (.iaload, 1) := by decide +kernel
theorem d_W_law_635 : decode code 635 = .ok (.aload_n 3, 1) := by decide +kernel
theorem d_W_law_636 : decode code 636 = .ok (.invokestatic 91, 3) := by decide +kernel
theorem d_W_law_639 : decode code 639 = .ok (.istore 5, 2) := by decide +kernel
theorem d_W_law_641 : decode code 641 = .ok (.aload_n 2, 1) := by decide +kernel
theorem d_W_law_642 : decode code 642 = .ok (.aload_n 0, 1) := by decide +kernel
theorem d_W_law_643 : decode code 643 = .ok (.iload 4, 2) := by decide +kernel
theorem d_W_law_645 : decode code 645 = .ok (.iconst 1, 1) := by decide +kernel
theorem d_W_law_646 : decode code 646 = .ok (.iadd, 1) := by decide +kernel
theorem d_W_law_647 : decode code 647 = .ok (.iaload, 1) := by decide +kernel
theorem d_W_law_648 : decode code 648 = .ok (.invokevirtual 93, 3) := by decide +kernel
theorem d_W_law_651 : decode code 651 = .ok (.istore 6, 2) := by decide +kernel
theorem d_W_law_653 : decode code 653 = .ok (.aload_n 2, 1) := by decide +kernel
theorem d_W_law_654 : decode code 654 = .ok (.invokevirtual 63, 3) := by decide +kernel
theorem d_W_law_657 : decode code 657 = .ok (.iload 5, 2) := by decide +kernel
theorem d_W_law_659 : decode code 659 = .ok (.if_icmp .eq 5, 3) := by decide +kernel
theorem d_W_law_662 : decode code 662 = .ok (.iconst 0, 1) := by decide +kernel
theorem d_W_law_663 : decode code 663 = .ok (.ireturn, 1) := by decide +kernel
theorem d_W_law_664 : decode code 664 = .ok (.iload 5, 2) := by decide +kernel
theorem d_W_law_666 : decode code 666 = .ok (.ifCond .ne 15, 3) := by decide +kernel
theorem d_W_law_669 : decode code 669 = .ok (.aload_n 3, 1) := by decide +kernel
theorem d_W_law_670 : decode code 670 = .ok (.iconst 0, 1) := by decide +kernel
theorem d_W_law_671 : decode code 671 = .ok (.laload, 1) := by decide +kernel
theorem d_W_law_672 : decode code 672 = .ok (.iload 6, 2) := by decide +kernel
theorem d_W_law_674 : decode code 674 = .ok (.i2l, 1) := by decide +kernel
theorem d_W_law_675 : decode code 675 = .ok (.lcmp, 1) := by decide +kernel
theorem d_W_law_676 : decode code 676 = .ok (.ifCond .eq 5, 3) := by decide +kernel
theorem d_W_law_679 : decode code 679 = .ok (.iconst 0, 1) := by decide +kernel
theorem d_W_law_680 : decode code 680 = .ok (.ireturn, 1) := by decide +kernel
theorem d_W_law_681 : decode code 681 = .ok (.goto 154, 3) := by decide +kernel
theorem d_W_law_684 : decode code 684 = .ok (.aload_n 1, 1) := by decide +kernel
theorem d_W_law_685 : decode code 685 = .ok (.invokevirtual 94, 3) := by decide +kernel
theorem d_W_law_688 : decode code 688 = .ok (.aload_n 2, 1) := by decide +kernel
theorem d_W_law_689 : decode code 689 = .ok (.invokevirtual 97, 3) := by decide +kernel
theorem d_W_law_692 : decode code 692 = .ok (.if_icmp .eq 143, 3) := by decide +kernel
theorem d_W_law_695 : decode code 695 = .ok (.iconst 0, 1) := by decide +kernel
theorem d_W_law_696 : decode code 696 = .ok (.ireturn, 1) := by decide +kernel
theorem d_W_law_697 : decode code 697 = .ok (.aload_n 1, 1) := by decide +kernel
theorem d_W_law_698 : decode code 698 = .ok (.invokevirtual 98, 3) := by decide +kernel
theorem d_W_law_701 : decode code 701 = .ok (.aload_n 2, 1) := by decide +kernel
theorem d_W_law_702 : decode code 702 = .ok (.invokevirtual 101, 3) := by decide +kernel
theorem d_W_law_705 : decode code 705 = .ok (.if_icmp .eq 130, 3) := by decide +kernel
theorem d_W_law_708 : decode code 708 = .ok (.iconst 0, 1) := by decide +kernel
theorem d_W_law_709 : decode code 709 = .ok (.ireturn, 1) := by decide +kernel
theorem d_W_law_710 : decode code 710 = .ok (.aload_n 1, 1) := by decide +kernel
theorem d_W_law_711 : decode code 711 = .ok (.aload_n 0, 1) := by decide +kernel
theorem d_W_law_712 : decode code 712 = .ok (.iload 4, 2) := by decide +kernel
theorem d_W_law_714 : decode code 714 = .ok (.iconst 1, 1) := by decide +kernel
theorem d_W_law_715 : decode code 715 = .ok (.iadd, 1) := by decide +kernel
theorem d_W_law_716 : decode code 716 = .ok (.iaload, 1) := by decide +kernel
theorem d_W_law_717 : decode code 717 = .ok (.aload_n 3, 1) := by decide +kernel
theorem d_W_law_718 : decode code 718 = .ok (.invokestatic 102, 3) := by decide +kernel
theorem d_W_law_721 : decode code 721 = .ok (.istore 5, 2) := by decide +kernel
theorem d_W_law_723 : decode code 723 = .ok (.aload_n 2, 1) := by decide +kernel
theorem d_W_law_724 : decode code 724 = .ok (.aload_n 0, 1) := by decide +kernel
theorem d_W_law_725 : decode code 725 = .ok (.iload 4, 2) := by decide +kernel
theorem d_W_law_727 : decode code 727 = .ok (.iconst 1, 1) := by decide +kernel
theorem d_W_law_728 : decode code 728 = .ok (.iadd, 1) := by decide +kernel
theorem d_W_law_729 : decode code 729 = .ok (.iaload, 1) := by decide +kernel
theorem d_W_law_730 : decode code 730 = .ok (.invokevirtual 104, 3) := by decide +kernel
theorem d_W_law_733 : decode code 733 = .ok (.istore 6, 2) := by decide +kernel
theorem d_W_law_735 : decode code 735 = .ok (.aload_n 2, 1) := by decide +kernel
theorem d_W_law_736 : decode code 736 = .ok (.invokevirtual 63, 3) := by decide +kernel
theorem d_W_law_739 : decode code 739 = .ok (.iload 5, 2) := by decide +kernel
theorem d_W_law_741 : decode code 741 = .ok (.if_icmp .eq 5, 3) := by decide +kernel
theorem d_W_law_744 : decode code 744 = .ok (.iconst 0, 1) := by decide +kernel
theorem d_W_law_745 : decode code 745 = .ok (.ireturn, 1) := by decide +kernel
theorem d_W_law_746 : decode code 746 = .ok (.iload 5, 2) := by decide +kernel
theorem d_W_law_748 : decode code 748 = .ok (.ifCond .ne 15, 3) := by decide +kernel
theorem d_W_law_751 : decode code 751 = .ok (.aload_n 3, 1) := by decide +kernel
theorem d_W_law_752 : decode code 752 = .ok (.iconst 0, 1) := by decide +kernel
theorem d_W_law_753 : decode code 753 = .ok (.laload, 1) := by decide +kernel
theorem d_W_law_754 : decode code 754 = .ok (.iload 6, 2) := by decide +kernel
theorem d_W_law_756 : decode code 756 = .ok (.i2l, 1) := by decide +kernel
theorem d_W_law_757 : decode code 757 = .ok (.lcmp, 1) := by decide +kernel
theorem d_W_law_758 : decode code 758 = .ok (.ifCond .eq 5, 3) := by decide +kernel
theorem d_W_law_761 : decode code 761 = .ok (.iconst 0, 1) := by decide +kernel
theorem d_W_law_762 : decode code 762 = .ok (.ireturn, 1) := by decide +kernel
theorem d_W_law_763 : decode code 763 = .ok (.goto 72, 3) := by decide +kernel
theorem d_W_law_766 : decode code 766 = .ok (.aload_n 1, 1) := by decide +kernel
theorem d_W_law_767 : decode code 767 = .ok (.aload_n 3, 1) := by decide +kernel
theorem d_W_law_768 : decode code 768 = .ok (.invokestatic 105, 3) := by decide +kernel
theorem d_W_law_771 : decode code 771 = .ok (.istore 5, 2) := by decide +kernel
theorem d_W_law_773 : decode code 773 = .ok (.aload_n 2, 1) := by decide +kernel
theorem d_W_law_774 : decode code 774 = .ok (.invokevirtual 107, 3) := by decide +kernel
theorem d_W_law_777 : decode code 777 = .ok (.istore 6, 2) := by decide +kernel
theorem d_W_law_779 : decode code 779 = .ok (.aload_n 2, 1) := by decide +kernel
theorem d_W_law_780 : decode code 780 = .ok (.invokevirtual 63, 3) := by decide +kernel
theorem d_W_law_783 : decode code 783 = .ok (.iload 5, 2) := by decide +kernel
theorem d_W_law_785 : decode code 785 = .ok (.if_icmp .eq 5, 3) := by decide +kernel
theorem d_W_law_788 : decode code 788 = .ok (.iconst 0, 1) := by decide +kernel
theorem d_W_law_789 : decode code 789 = .ok (.ireturn, 1) := by decide +kernel
theorem d_W_law_790 : decode code 790 = .ok (.iload 5, 2) := by decide +kernel
theorem d_W_law_792 : decode code 792 = .ok (.ifCond .ne 15, 3) := by decide +kernel
theorem d_W_law_795 : decode code 795 = .ok (.aload_n 3, 1) := by decide +kernel
theorem d_W_law_796 : decode code 796 = .ok (.iconst 0, 1) := by decide +kernel
theorem d_W_law_797 : decode code 797 = .ok (.laload, 1) := by decide +kernel
theorem d_W_law_798 : decode code 798 = .ok (.iload 6, 2) := by decide +kernel
theorem d_W_law_800 : decode code 800 = .ok (.i2l, 1) := by decide +kernel
theorem d_W_law_801 : decode code 801 = .ok (.lcmp, 1) := by decide +kernel
theorem d_W_law_802 : decode code 802 = .ok (.ifCond .eq 5, 3) := by decide +kernel
theorem d_W_law_805 : decode code 805 = .ok (.iconst 0, 1) := by decide +kernel
theorem d_W_law_806 : decode code 806 = .ok (.ireturn, 1) := by decide +kernel
theorem d_W_law_807 : decode code 807 = .ok (.goto 28, 3) := by decide +kernel
theorem d_W_law_810 : decode code 810 = .ok (.aload_n 1, 1) := by decide +kernel
theorem d_W_law_811 : decode code 811 = .ok (.aload_n 0, 1) := by decide +kernel
theorem d_W_law_812 : decode code 812 = .ok (.iload 4, 2) := by decide +kernel
theorem d_W_law_814 : decode code 814 = .ok (.iconst 1, 1) := by decide +kernel
theorem d_W_law_815 : decode code 815 = .ok (.iadd, 1) := by decide +kernel
theorem d_W_law_816 : decode code 816 = .ok (.iaload, 1) := by decide +kernel
theorem d_W_law_817 : decode code 817 = .ok (.invokevirtual 108, 3) := by decide +kernel
theorem d_W_law_820 : decode code 820 = .ok (.aload_n 2, 1) := by decide +kernel
theorem d_W_law_821 : decode code 821 = .ok (.aload_n 0, 1) := by decide +kernel
theorem d_W_law_822 : decode code 822 = .ok (.iload 4, 2) := by decide +kernel
theorem d_W_law_824 : decode code 824 = .ok (.iconst 1, 1) := by decide +kernel
theorem d_W_law_825 : decode code 825 = .ok (.iadd, 1) := by decide +kernel
theorem d_W_law_826 : decode code 826 = .ok (.iaload, 1) := by decide +kernel
theorem d_W_law_827 : decode code 827 = .ok (.invokevirtual 111, 3) := by decide +kernel
theorem d_W_law_830 : decode code 830 = .ok (.if_icmp .eq 5, 3) := by decide +kernel
theorem d_W_law_833 : decode code 833 = .ok (.iconst 0, 1) := by decide +kernel
theorem d_W_law_834 : decode code 834 = .ok (.ireturn, 1) := by decide +kernel
theorem d_W_law_835 : decode code 835 = .ok (.iinc 4 5, 3) := by decide +kernel
theorem d_W_law_838 : decode code 838 = .ok (.goto (-815), 3) := by decide +kernel
theorem d_W_law_841 : decode code 841 = .ok (.iconst 1, 1) := by decide +kernel
theorem d_W_law_842 : decode code 842 = .ok (.ireturn, 1) := by decide +kernel
theorem kcW_W_feed : Cond.codeWith y_W_feed c_W_feed 7 (some .int) [(0, 14, 17, 13)] ∈ WS := ws_t (List.mem_of_getElem? (i := 459) (by decide +kernel)) (by decide +kernel)
theorem kcW_W_end : Cond.codeWith y_W_end c_W_end 4 (some .int) [(0, 9, 12, 19), (0, 9, 15, 13)] ∈ WS := ws_t (List.mem_of_getElem? (i := 538) (by decide +kernel)) (by decide +kernel)
theorem kcW_W_read : Cond.codeWith y_W_read c_W_read 3 (some .int) [(0, 8, 11, 19)] ∈ WS := ws_t (List.mem_of_getElem? (i := 563) (by decide +kernel)) (by decide +kernel)
theorem kcW_W_fault : Cond.codeWith y_W_fault c_W_fault 4 (some .int) [(0, 9, 12, 28)] ∈ WS := ws_t (List.mem_of_getElem? (i := 737) (by decide +kernel)) (by decide +kernel)
theorem kcW_W_next : Cond.codeWith y_W_next c_W_next 5 (some .int) [(0, 10, 13, 28)] ∈ WS := ws_t (List.mem_of_getElem? (i := 761) (by decide +kernel)) (by decide +kernel)
theorem kcW_W_action : Cond.codeWith y_W_action c_W_action 6 (some .int) [(0, 12, 15, 28)] ∈ WS := ws_t (List.mem_of_getElem? (i := 770) (by decide +kernel)) (by decide +kernel)
theorem kcW_W_missing : Cond.codeWith y_W_missing c_W_missing 4 (some .int) [(0, 9, 12, 28)] ∈ WS := ws_t (List.mem_of_getElem? (i := 779) (by decide +kernel)) (by decide +kernel)
theorem kcW_W_reached : Cond.codeWith y_W_reached c_W_reached 5 (some .int) [(0, 10, 13, 28)] ∈ WS := ws_t (List.mem_of_getElem? (i := 791) (by decide +kernel)) (by decide +kernel)
theorem kcW_W_message : Cond.codeWith y_W_message c_W_message 4 (some .int) [(0, 9, 12, 28)] ∈ WS := ws_t (List.mem_of_getElem? (i := 800) (by decide +kernel)) (by decide +kernel)
theorem kcW_W_out : Cond.codeWith y_W_out c_W_out 4 (some .int) [(0, 9, 12, 28)] ∈ WS := ws_t (List.mem_of_getElem? (i := 820) (by decide +kernel)) (by decide +kernel)
theorem kcW_W_again : Cond.codeWith y_W_again c_W_again 3 (some .int) [(0, 8, 11, 13)] ∈ WS := ws_t (List.mem_of_getElem? (i := 828) (by decide +kernel)) (by decide +kernel)
theorem z_same {G : GG} {X : XX} {cc : ByteArray} {nL : Nat} {own : String} {rm : Room} {kc ks : Nat} {ws : va_W} {lv : List (Nat × Value)} {pc tgt : Nat} {st : List Value} {x : Int32} {off : Int} (C : Cx G X cc nL own rm) (d : decode cc pc = .ok (.if_icmp .eq off, 3)) (ht : (pc : Int) + off = (tgt : Int)) (kk : Zc G X nL kc ks ws lv tgt st) : Zc G X nL kc ks ws lv pc (.int x :: .int x :: st) := by
  obtain ⟨p, l, e, R, s, m, args, below, meth, c, Q, A⟩ := X
  intro H locs ls hP hD hS hl
  obtain ⟨hx, hb, hml, hown, hts, hK, hA, hSx, hR⟩ := C
  exact lv_icmp_eq hx hb d ht (fun h => kk H locs ls hP hD hS hl) (fun h => absurd rfl h)
def LI (tl pl vph vso vne vsl vst vpa vac uf mfi mwh : Int) (tF pF nl nn nt ug ud ua tx ou sF nf ng no : Nat → Int) : Prop :=
  (0 ≤ tl ∧ tl ≤ 4096) ∧ byt tF ∧ u8 tx ∧ (∀ j : Nat, (j : Int) < tl → tF j = bF tx j) ∧ (0 ≤ pl ∧ pl ≤ 5632) ∧ byt pF ∧ pgT pF ou pl ∧ u8 sF ∧ (-1 ≤ mwh ∧ mwh ≤ 255) ∧ cfI vph vso vne vsl vst vpa vac uf ∧ TbI nl nn nt ug ua ud sF nf ng no uf mfi
/-- the head of the law's loop, n rounds done -/
def Bk (G : GG) (X : XX) (b L n : Nat) (aX : Nat) (aT : Nat) (aTb : Nat) (aP : Nat) (aPb : Nat) (aN : Nat) (aNl : Nat) (aNn : Nat) (aNt : Nat) (aU : Nat) (aUg : Nat) (aUd : Nat) (aUa : Nat) (aV : Nat) (aL : Nat) (aI : Nat) (aD : Nat) (aDw : Nat) (aM : Nat) (aWc : Nat) (aTx : Nat) (aOu : Nat) (aSo : Nat) (aNf : Nat) (aNg : Nat) (aSr : Nat) (aNu : Nat) (aMa : Nat) (aNo : Nat) (aLe : Nat) (aAc : Nat) (aDi : Nat) (aOr : Nat) (aLo : Nat) : Prop := ∀ (iv : Int) (xf xp tl pl ur uv uf vph vso vne vsl vst vpa vac ls la lk df mth mle mna mfi mki mfr mto mwh : Int) (tF pF nl nn nt ug ud ua dw tx ou sF nf ng sr nu no di od : Nat → Int) (lo : Nat → Int64), iv = 5 * (n : Int) → iv ≤ L → LI tl pl vph vso vne vsl vst vpa vac uf mfi mwh tF pF nl nn nt ug ud ua tx ou sF nf ng no → Zc G X 7 (34 + n) (31088 + 6 * n) [(aX, .inr (7, [.ref aT, .ref aP, .ref aN, .ref aU, .ref aV, .ref aI, .ref aD, .int (iI xf), .int (iI xp)])), (aT, .inr (0, [.ref aTb, .int (iI tl)])), bA G aTb 4096 tF, (aP, .inr (0, [.ref aPb, .int (iI pl)])), bA G aPb 5632 pF, (aN, .inr (3, [.ref aNl, .ref aNn, .ref aNt])), bA G aNl 480 nl, iA G aNn 40 nn, iA G aNt 3 nt, (aU, .inr (6, [.ref aUg, .ref aUd, .int (iI ur), .int (iI uv), .int (iI uf), .ref aN, .ref aUa])), iA G aUg 384 ug, iA G aUd 16 ud, iA G aUa 1536 ua, (aV, .inr (4, [.ref aL, .ref aN, .ref aU, .int (iI vph), .int (iI vso), .int (iI vne), .int (iI vsl), .int (iI vst), .int (iI vpa), .int (iI vac)])), (aL, .inr (2, [.ref aT, .int (iI ls), .int (iI la), .int (iI lk)])), (aI, .inr (5, [.ref aP, .ref aN, .ref aU])), (aD, .inr (1, [.ref aP, .ref aN, .ref aU, .ref aDw, .int (iI df)])), iA G aDw 24 dw, (aM, .inr (8, [.ref aWc, .int (iI mth), .int (iI tl), .ref aTx, .int (iI pl), .ref aOu, .int (iI xf), .int (iI xp), .int (iI mle), .int (iI mna), .ref aSo, .ref aNf, .ref aNg, .ref aSr, .ref aNu, .ref aMa, .ref aNo, .int (iI mfi), .int (iI ur), .int (iI uv), .ref aLe, .ref aAc, .ref aDi, .ref aOr, .int (iI mki), .int (iI mfr), .int (iI mto), .int (iI mwh)])), iA G aWc 48 wch, iA G aTx 4200 tx, iA G aOu 8192 ou, iA G aSo 4200 sF, iA G aNf 40 nf, iA G aNg 40 ng, iA G aSr 40 sr, iA G aNu 40 nu, iA G aMa 3 nt, iA G aNo 48 no, iA G aLe 384 ug, iA G aAc 1536 ua, iA G aDi 16 di, iA G aOr 16 od, lA G aLo lo] [(0, .ref b), (1, .ref aX), (2, .ref aM), (3, .ref aLo), (4, .int (iI iv))] 23 []
theorem msg_tie {P Q P2 Q2 : Prop} {a b : Int} (h1 : P ↔ P2) (h2 : Q ↔ Q2) (ha : (¬ P → a = 0) ∧ (P → (Q → a = 1) ∧ (¬ Q → a = 3))) (hb0 : ¬ P2 → b = 0) (hb : P2 → (Q2 → b = 1) ∧ (¬ Q2 → b = 3)) : a = b := by
  by_cases hp : P
  · by_cases hq : Q
    · rw [(ha.2 hp).1 hq, (hb (h1.mp hp)).1 (h2.mp hq)]
    · rw [(ha.2 hp).2 hq, (hb (h1.mp hp)).2 (fun z => hq (h2.mpr z))]
  · rw [ha.1 hp, hb0 (fun z => hp (h1.mpr z))]
theorem cnt_tie {nl nn nt ug ua ud sF nf ng no di : Nat → Int} {uf mfi tl pl ur uv w a b : Int} (h : TbI nl nn nt ug ua ud sF nf ng no uf mfi)
    (ha : (w = 0 → a = tl) ∧ (w = 1 → a = nt 0) ∧ (w = 2 → a = nt 1) ∧ (w = 3 → a = nt 2) ∧ (w = 4 → a = ur) ∧ (w = 5 → a = uv) ∧ (w = 6 → a = mps nt ug ud 0) ∧ (w = 7 → a = mps nt ug ud 1) ∧ (w = 8 → a = uf) ∧ (w = 9 → a = pl) ∧ (¬ (0 ≤ w ∧ w ≤ 9) → a = -1))
    (hb : (w = 0 → b = tl) ∧ (w = 1 → b = nt 0) ∧ (w = 2 → b = nt 1) ∧ (w = 3 → b = nt 2) ∧ (w = 4 → b = ur) ∧ (w = 5 → b = uv) ∧ (w = 6 → b = ((msS nt ug 0 (nt 0).toNat).length : Int)) ∧ (w = 8 → b = if 0 < nt 0 then mfi else -1) ∧ (w = 9 → b = pl) ∧ (w = 7 → b = msR nt ug di 0 (nt 0).toNat ∧ ((0 < nt 0 → DS (fun (s e : Int) => ug (prf nt s e).toNat) (nt 0) (nt 1 + nt 2) mfi di) ∧ (¬ 0 < nt 0 → ∀ j : Nat, j < 16 → di j = -1))) ∧ (¬ (0 ≤ w ∧ w ≤ 9) → b = -1)) : a = b := by
  obtain ⟨a0, a1, a2, a3, a4, a5, a6, a7, a8, a9, a10⟩ := ha
  obtain ⟨b0, b1, b2, b3, b4, b5, b6, b8, b9, b7, b10⟩ := hb
  by_cases z : 0 ≤ w ∧ w ≤ 9
  · rcases (show w = 0 ∨ w = 1 ∨ w = 2 ∨ w = 3 ∨ w = 4 ∨ w = 5 ∨ w = 6 ∨ w = 7 ∨ w = 8 ∨ w = 9 by omega) with q | q | q | q | q | q | q | q | q | q
    · rw [a0 q, b0 q]
    · rw [a1 q, b1 q]
    · rw [a2 q, b2 q]
    · rw [a3 q, b3 q]
    · rw [a4 q, b4 q]
    · rw [a5 q, b5 q]
    · rw [a6 q, b6 q]; rfl
    · rw [a7 q, (b7 q).1, ← Tb_msR h (b7 q).2]; rfl
    · rw [a8 q, b8 q]; exact h.2.2.2.2.2.1.2
    · rw [a9 q, b9 q]
  · rw [a10 z, b10 z]
/-- one text, read by both -/
theorem rd_same {tF sF2 tx sF : Nat → Int} {tl : Int} {c : Cf} (ht : 0 ≤ tl ∧ tl ≤ 4096) (he : ∀ j : Nat, (j : Int) < tl → tF j = bF tx j) (hs : ∀ j : Nat, sF2 j = if (j : Int) < tl then tx j else sF j) : prun tF tl 4097 0 c = rn (bF sF2) tl 0 c := by
  rw [← rn_0 _ _ ht]
  refine prun_cg (fun j hj => ?_) 4097 0 c (Int.le_refl 0) ht.1
  rw [he j hj]
  unfold bF
  rw [hs j, if_pos hj]
theorem u8_src {sF2 tx sF : Nat → Int} {tl : Int} (h1 : u8 tx) (h2 : u8 sF) (hs : ∀ j : Nat, sF2 j = if (j : Int) < tl then tx j else sF j) : u8 sF2 := fun j => by
  rw [hs j]
  split
  · exact h1 j
  · exact h2 j
theorem cf_uf {ph so nv sl st pr ac ufr : Int} {nt : Nat → Int} (h : cfI ph so nv sl st pr ac ufr) : cfI ph so nv sl st pr ac (ufS nt ufr) := by
  unfold cfI at h ⊢
  unfold ufS
  split <;> omega
theorem ud_rg {nt ug ua ud0 : Nat → Int} {so nv st pr ac ur uv ufr : Int} {N : NL} (h : cI (0, so, nv, st, pr, ac, N, ug, ua, ur, uv, ufr)) (ht : nt 0 = cN 0 N ∧ nt 1 = cN 1 N ∧ nt 2 = cN 2 N) :
    dst (fun j => if j < 16 then rfT ug (nt 0).toNat (nt 0).toNat 0 (udS nt ufr (flZ 16 (-1) ud0)) j else -1) := by
  obtain ⟨a1, a2, a3, a4, a5, a6, a7, a8, a9, a10⟩ := h
  have hc := cnt_cN ht a2
  unfold cnt at hc
  intro j
  show -1 ≤ (if j < 16 then _ else _) ∧ (if j < 16 then _ else _) ≤ (100 : Int)
  by_cases z : j < 16
  · rw [if_pos z]
    by_cases y : 0 < nt 0
    · have hf : 0 ≤ ufS nt ufr ∧ ufS nt ufr < nt 0 := by unfold ufS; split <;> omega
      have hu : ∀ x : Nat, x < 16 → udS nt ufr (flZ 16 (-1) ud0) x = if (x : Int) = ufS nt ufr then 0 else -1 := fun x hx => by
        unfold udS
        rw [if_neg (by omega)]
        by_cases q : (x : Int) = ufS nt ufr
        · rw [if_pos q, show (ufS nt ufr).toNat = x by omega]; exact uZ_s
        · rw [if_neg q, uZ_n (by omega)]; exact if_pos hx
      have hd := CI_DS (ug := ug) (m := nt 0) (f := ufS nt ufr) (fun j => by have := a5 j; omega) (by omega) hf hu
      have := hd.2.2.1 j z
      omega
    · have e0 : (nt 0).toNat = 0 := by omega
      have hfm : ufS nt ufr = -1 := by unfold ufS; rw [if_neg (by omega)]; omega
      rw [e0]
      show -1 ≤ udS nt ufr (flZ 16 (-1) ud0) j ∧ udS nt ufr (flZ 16 (-1) ud0) j ≤ 100
      unfold udS
      rw [if_pos hfm]
      have e1 : flZ 16 (-1) ud0 j = -1 := if_pos z
      omega
  · rw [if_neg z]
    omega
