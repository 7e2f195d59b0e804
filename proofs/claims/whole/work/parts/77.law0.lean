/-! the law: its rows, the words of its calls -/
theorem d_law_0 : decode code 0 = .ok (.new 8, 3) := by decide +kernel
theorem d_law_3 : decode code 3 = .ok (.dup, 1) := by decide +kernel
theorem d_law_4 : decode code 4 = .ok (.invokespecial 72, 3) := by decide +kernel
theorem d_law_7 : decode code 7 = .ok (.astore_n 1, 1) := by decide +kernel
theorem d_law_8 : decode code 8 = .ok (.new 73, 3) := by decide +kernel
theorem d_law_11 : decode code 11 = .ok (.dup, 1) := by decide +kernel
theorem d_law_12 : decode code 12 = .ok (.invokespecial 75, 3) := by decide +kernel
theorem d_law_15 : decode code 15 = .ok (.astore_n 2, 1) := by decide +kernel
theorem d_law_16 : decode code 16 = .ok (.iconst 1, 1) := by decide +kernel
theorem d_law_17 : decode code 17 = .ok (.newarray .long, 2) := by decide +kernel
theorem d_law_19 : decode code 19 = .ok (.astore_n 3, 1) := by decide +kernel
theorem d_law_20 : decode code 20 = .ok (.iconst 1, 1) := by decide +kernel
theorem d_law_21 : decode code 21 = .ok (.newarray .double, 2) := by decide +kernel
theorem d_law_23 : decode code 23 = .ok (.astore 4, 2) := by decide +kernel
theorem d_law_25 : decode code 25 = .ok (.iconst 0, 1) := by decide +kernel
theorem d_law_26 : decode code 26 = .ok (.istore 5, 2) := by decide +kernel
theorem d_law_28 : decode code 28 = .ok (.iload 5, 2) := by decide +kernel
theorem d_law_30 : decode code 30 = .ok (.aload_n 0, 1) := by decide +kernel
theorem d_law_31 : decode code 31 = .ok (.arraylength, 1) := by decide +kernel
theorem d_law_32 : decode code 32 = .ok (.iconst 5, 1) := by decide +kernel
theorem d_law_33 : decode code 33 = .ok (.isub, 1) := by decide +kernel
theorem d_law_34 : decode code 34 = .ok (.if_icmp .gt 1242, 3) := by decide +kernel
theorem d_law_37 : decode code 37 = .ok (.aload_n 0, 1) := by decide +kernel
theorem d_law_38 : decode code 38 = .ok (.iload 5, 2) := by decide +kernel
theorem d_law_40 : decode code 40 = .ok (.iaload, 1) := by decide +kernel
theorem d_law_41 : decode code 41 = .ok (.bipush 15, 2) := by decide +kernel
theorem d_law_43 : decode code 43 = .ok (.iand, 1) := by decide +kernel
theorem d_law_44 : decode code 44 = .ok (.tableswitch 1226 0 15 #[80, 160, 240, 320, 380, 450, 514, 626, 674, 722, 778, 844, 912, 1022, 1133, 1201], 80) := by decide +kernel
theorem d_law_124 : decode code 124 = .ok (.aload_n 1, 1) := by decide +kernel
theorem d_law_125 : decode code 125 = .ok (.aload_n 0, 1) := by decide +kernel
theorem d_law_126 : decode code 126 = .ok (.iload 5, 2) := by decide +kernel
theorem d_law_128 : decode code 128 = .ok (.iconst 1, 1) := by decide +kernel
theorem d_law_129 : decode code 129 = .ok (.iadd, 1) := by decide +kernel
theorem d_law_130 : decode code 130 = .ok (.iaload, 1) := by decide +kernel
theorem d_law_131 : decode code 131 = .ok (.aload_n 0, 1) := by decide +kernel
theorem d_law_132 : decode code 132 = .ok (.iload 5, 2) := by decide +kernel
theorem d_law_134 : decode code 134 = .ok (.iconst 2, 1) := by decide +kernel
theorem d_law_135 : decode code 135 = .ok (.iadd, 1) := by decide +kernel
theorem d_law_136 : decode code 136 = .ok (.iaload, 1) := by decide +kernel
theorem d_law_137 : decode code 137 = .ok (.aload_n 0, 1) := by decide +kernel
theorem d_law_138 : decode code 138 = .ok (.iload 5, 2) := by decide +kernel
theorem d_law_140 : decode code 140 = .ok (.iconst 3, 1) := by decide +kernel
theorem d_law_141 : decode code 141 = .ok (.iadd, 1) := by decide +kernel
theorem d_law_142 : decode code 142 = .ok (.iaload, 1) := by decide +kernel
theorem d_law_143 : decode code 143 = .ok (.aload_n 3, 1) := by decide +kernel
theorem d_law_144 : decode code 144 = .ok (.invokestatic 76, 3) := by decide +kernel
theorem d_law_147 : decode code 147 = .ok (.istore 6, 2) := by decide +kernel
theorem d_law_149 : decode code 149 = .ok (.aload_n 2, 1) := by decide +kernel
theorem d_law_150 : decode code 150 = .ok (.aload_n 0, 1) := by decide +kernel
theorem d_law_151 : decode code 151 = .ok (.iload 5, 2) := by decide +kernel
theorem d_law_153 : decode code 153 = .ok (.iconst 1, 1) := by decide +kernel
theorem d_law_154 : decode code 154 = .ok (.iadd, 1) := by decide +kernel
theorem d_law_155 : decode code 155 = .ok (.iaload, 1) := by decide +kernel
theorem d_law_156 : decode code 156 = .ok (.aload_n 0, 1) := by decide +kernel
theorem d_law_157 : decode code 157 = .ok (.iload 5, 2) := by decide +kernel
theorem d_law_159 : decode code 159 = .ok (.iconst 2, 1) := by decide +kernel
theorem d_law_160 : decode code 160 = .ok (.iadd, 1) := by decide +kernel
theorem d_law_161 : decode code 161 = .ok (.iaload, 1) := by decide +kernel
theorem d_law_162 : decode code 162 = .ok (.aload_n 0, 1) := by decide +kernel
theorem d_law_163 : decode code 163 = .ok (.iload 5, 2) := by decide +kernel
theorem d_law_165 : decode code 165 = .ok (.iconst 3, 1) := by decide +kernel
theorem d_law_166 : decode code 166 = .ok (.iadd, 1) := by decide +kernel
theorem d_law_167 : decode code 167 = .ok (.iaload, 1) := by decide +kernel
theorem d_law_168 : decode code 168 = .ok (.invokevirtual 81, 3) := by decide +kernel
theorem d_law_171 : decode code 171 = .ok (.istore 7, 2) := by decide +kernel
theorem d_law_173 : decode code 173 = .ok (.aload_n 2, 1) := by decide +kernel
theorem d_law_174 : decode code 174 = .ok (.invokevirtual 82, 3) := by decide +kernel
theorem d_law_177 : decode code 177 = .ok (.iload 6, 2) := by decide +kernel
theorem d_law_179 : decode code 179 = .ok (.if_icmp .eq 5, 3) := by decide +kernel
theorem d_law_182 : decode code 182 = .ok (.iconst 0, 1) := by decide +kernel
theorem d_law_183 : decode code 183 = .ok (.ireturn, 1) := by decide +kernel
theorem d_law_184 : decode code 184 = .ok (.iload 6, 2) := by decide +kernel
theorem d_law_186 : decode code 186 = .ok (.ifCond .ne 15, 3) := by decide +kernel
theorem d_law_189 : decode code 189 = .ok (.aload_n 3, 1) := by decide +kernel
theorem d_law_190 : decode code 190 = .ok (.iconst 0, 1) := by decide +kernel
theorem d_law_191 : decode code 191 = .ok (.laload, 1) := by decide +kernel
theorem d_law_192 : decode code 192 = .ok (.iload 7, 2) := by decide +kernel
theorem d_law_194 : decode code 194 = .ok (.i2l, 1) := by decide +kernel
theorem d_law_195 : decode code 195 = .ok (.lcmp, 1) := by decide +kernel
theorem d_law_196 : decode code 196 = .ok (.ifCond .eq 5, 3) := by decide +kernel
theorem d_law_199 : decode code 199 = .ok (.iconst 0, 1) := by decide +kernel
theorem d_law_200 : decode code 200 = .ok (.ireturn, 1) := by decide +kernel
theorem d_law_201 : decode code 201 = .ok (.goto 1069, 3) := by decide +kernel
theorem d_law_204 : decode code 204 = .ok (.aload_n 1, 1) := by decide +kernel
theorem d_law_205 : decode code 205 = .ok (.aload_n 0, 1) := by decide +kernel
theorem d_law_206 : decode code 206 = .ok (.iload 5, 2) := by decide +kernel
theorem d_law_208 : decode code 208 = .ok (.iconst 1, 1) := by decide +kernel
theorem d_law_209 : decode code 209 = .ok (.iadd, 1) := by decide +kernel
theorem d_law_210 : decode code 210 = .ok (.iaload, 1) := by decide +kernel
theorem d_law_211 : decode code 211 = .ok (.aload_n 0, 1) := by decide +kernel
theorem d_law_212 : decode code 212 = .ok (.iload 5, 2) := by decide +kernel
theorem d_law_214 : decode code 214 = .ok (.iconst 2, 1) := by decide +kernel
theorem d_law_215 : decode code 215 = .ok (.iadd, 1) := by decide +kernel
theorem d_law_216 : decode code 216 = .ok (.iaload, 1) := by decide +kernel
theorem d_law_217 : decode code 217 = .ok (.i2d, 1) := by decide +kernel
theorem d_law_218 : decode code 218 = .ok (.ldc2_w 86, 3) := by decide +kernel
theorem d_law_221 : decode code 221 = .ok (.dmul, 1) := by decide +kernel
theorem d_law_222 : decode code 222 = .ok (.aload_n 0, 1) := by decide +kernel
theorem d_law_223 : decode code 223 = .ok (.iload 5, 2) := by decide +kernel
theorem d_law_225 : decode code 225 = .ok (.iconst 3, 1) := by decide +kernel
theorem d_law_226 : decode code 226 = .ok (.iadd, 1) := by decide +kernel
theorem d_law_227 : decode code 227 = .ok (.iaload, 1) := by decide +kernel
theorem d_law_228 : decode code 228 = .ok (.i2d, 1) := by decide +kernel
theorem d_law_229 : decode code 229 = .ok (.ldc2_w 86, 3) := by decide +kernel
theorem d_law_232 : decode code 232 = .ok (.dmul, 1) := by decide +kernel
theorem d_law_233 : decode code 233 = .ok (.invokestatic 88, 3) := by decide +kernel
theorem d_law_236 : decode code 236 = .ok (.istore 6, 2) := by decide +kernel
theorem d_law_238 : decode code 238 = .ok (.aload_n 2, 1) := by decide +kernel
theorem d_law_239 : decode code 239 = .ok (.aload_n 0, 1) := by decide +kernel
theorem d_law_240 : decode code 240 = .ok (.iload 5, 2) := by decide +kernel
theorem d_law_242 : decode code 242 = .ok (.iconst 1, 1) := by decide +kernel
theorem d_law_243 : decode code 243 = .ok (.iadd, 1) := by decide +kernel
theorem d_law_244 : decode code 244 = .ok (.iaload, 1) := by decide +kernel
theorem d_law_245 : decode code 245 = .ok (.aload_n 0, 1) := by decide +kernel
theorem d_law_246 : decode code 246 = .ok (.iload 5, 2) := by decide +kernel
theorem d_law_248 : decode code 248 = .ok (.iconst 2, 1) := by decide +kernel
theorem d_law_249 : decode code 249 = .ok (.iadd, 1) := by decide +kernel
theorem d_law_250 : decode code 250 = .ok (.iaload, 1) := by decide +kernel
theorem d_law_251 : decode code 251 = .ok (.i2d, 1) := by decide +kernel
theorem d_law_252 : decode code 252 = .ok (.ldc2_w 86, 3) := by decide +kernel
theorem d_law_255 : decode code 255 = .ok (.dmul, 1) := by decide +kernel
theorem d_law_256 : decode code 256 = .ok (.aload_n 0, 1) := by decide +kernel
theorem d_law_257 : decode code 257 = .ok (.iload 5, 2) := by decide +kernel
theorem d_law_259 : decode code 259 = .ok (.iconst 3, 1) := by decide +kernel
theorem d_law_260 : decode code 260 = .ok (.iadd, 1) := by decide +kernel
theorem d_law_261 : decode code 261 = .ok (.iaload, 1) := by decide +kernel
theorem d_law_262 : decode code 262 = .ok (.i2d, 1) := by decide +kernel
theorem d_law_263 : decode code 263 = .ok (.ldc2_w 86, 3) := by decide +kernel
theorem d_law_266 : decode code 266 = .ok (.dmul, 1) := by decide +kernel
theorem d_law_267 : decode code 267 = .ok (.invokevirtual 91, 3) := by decide +kernel
theorem d_law_270 : decode code 270 = .ok (.aload_n 2, 1) := by decide +kernel
theorem d_law_271 : decode code 271 = .ok (.invokevirtual 82, 3) := by decide +kernel
theorem d_law_274 : decode code 274 = .ok (.iload 6, 2) := by decide +kernel
theorem d_law_276 : decode code 276 = .ok (.if_icmp .eq 5, 3) := by decide +kernel
theorem d_law_279 : decode code 279 = .ok (.iconst 0, 1) := by decide +kernel
theorem d_law_280 : decode code 280 = .ok (.ireturn, 1) := by decide +kernel
theorem d_law_281 : decode code 281 = .ok (.goto 989, 3) := by decide +kernel
theorem d_law_284 : decode code 284 = .ok (.aload_n 1, 1) := by decide +kernel
theorem d_law_285 : decode code 285 = .ok (.aload_n 0, 1) := by decide +kernel
theorem d_law_286 : decode code 286 = .ok (.iload 5, 2) := by decide +kernel
theorem d_law_288 : decode code 288 = .ok (.iconst 1, 1) := by decide +kernel
theorem d_law_289 : decode code 289 = .ok (.iadd, 1) := by decide +kernel
theorem d_law_290 : decode code 290 = .ok (.iaload, 1) := by decide +kernel
theorem d_law_291 : decode code 291 = .ok (.aload_n 0, 1) := by decide +kernel
theorem d_law_292 : decode code 292 = .ok (.iload 5, 2) := by decide +kernel
theorem d_law_294 : decode code 294 = .ok (.iconst 2, 1) := by decide +kernel
theorem d_law_295 : decode code 295 = .ok (.iadd, 1) := by decide +kernel
theorem d_law_296 : decode code 296 = .ok (.iaload, 1) := by decide +kernel
theorem d_law_297 : decode code 297 = .ok (.i2d, 1) := by decide +kernel
theorem d_law_298 : decode code 298 = .ok (.ldc2_w 86, 3) := by decide +kernel
theorem d_law_301 : decode code 301 = .ok (.dmul, 1) := by decide +kernel
theorem d_law_302 : decode code 302 = .ok (.aload_n 0, 1) := by decide +kernel
theorem d_law_303 : decode code 303 = .ok (.iload 5, 2) := by decide +kernel
theorem d_law_305 : decode code 305 = .ok (.iconst 3, 1) := by decide +kernel
theorem d_law_306 : decode code 306 = .ok (.iadd, 1) := by decide +kernel
theorem d_law_307 : decode code 307 = .ok (.iaload, 1) := by decide +kernel
theorem d_law_308 : decode code 308 = .ok (.i2d, 1) := by decide +kernel
theorem d_law_309 : decode code 309 = .ok (.ldc2_w 86, 3) := by decide +kernel
theorem d_law_312 : decode code 312 = .ok (.dmul, 1) := by decide +kernel
theorem d_law_313 : decode code 313 = .ok (.invokestatic 92, 3) := by decide +kernel
theorem d_law_316 : decode code 316 = .ok (.istore 6, 2) := by decide +kernel
theorem d_law_318 : decode code 318 = .ok (.aload_n 2, 1) := by decide +kernel
theorem d_law_319 : decode code 319 = .ok (.aload_n 0, 1) := by decide +kernel
theorem d_law_320 : decode code 320 = .ok (.iload 5, 2) := by decide +kernel
theorem d_law_322 : decode code 322 = .ok (.iconst 1, 1) := by decide +kernel
theorem d_law_323 : decode code 323 = .ok (.iadd, 1) := by decide +kernel
theorem d_law_324 : decode code 324 = .ok (.iaload, 1) := by decide +kernel
theorem d_law_325 : decode code 325 = .ok (.aload_n 0, 1) := by decide +kernel
theorem d_law_326 : decode code 326 = .ok (.iload 5, 2) := by decide +kernel
theorem d_law_328 : decode code 328 = .ok (.iconst 2, 1) := by decide +kernel
theorem d_law_329 : decode code 329 = .ok (.iadd, 1) := by decide +kernel
theorem d_law_330 : decode code 330 = .ok (.iaload, 1) := by decide +kernel
theorem d_law_331 : decode code 331 = .ok (.i2d, 1) := by decide +kernel
theorem d_law_332 : decode code 332 = .ok (.ldc2_w 86, 3) := by decide +kernel
theorem d_law_335 : decode code 335 = .ok (.dmul, 1) := by decide +kernel
theorem d_law_336 : decode code 336 = .ok (.aload_n 0, 1) := by decide +kernel
theorem d_law_337 : decode code 337 = .ok (.iload 5, 2) := by decide +kernel
theorem d_law_339 : decode code 339 = .ok (.iconst 3, 1) := by decide +kernel
theorem d_law_340 : decode code 340 = .ok (.iadd, 1) := by decide +kernel
theorem d_law_341 : decode code 341 = .ok (.iaload, 1) := by decide +kernel
theorem d_law_342 : decode code 342 = .ok (.i2d, 1) := by decide +kernel
theorem d_law_343 : decode code 343 = .ok (.ldc2_w 86, 3) := by decide +kernel
theorem d_law_346 : decode code 346 = .ok (.dmul, 1) := by decide +kernel
theorem d_law_347 : decode code 347 = .ok (.invokevirtual 94, 3) := by decide +kernel
theorem d_law_350 : decode code 350 = .ok (.aload_n 2, 1) := by decide +kernel
theorem d_law_351 : decode code 351 = .ok (.invokevirtual 82, 3) := by decide +kernel
theorem d_law_354 : decode code 354 = .ok (.iload 6, 2) := by decide +kernel
theorem d_law_356 : decode code 356 = .ok (.if_icmp .eq 5, 3) := by decide +kernel
theorem d_law_359 : decode code 359 = .ok (.iconst 0, 1) := by decide +kernel
theorem d_law_360 : decode code 360 = .ok (.ireturn, 1) := by decide +kernel
theorem d_law_361 : decode code 361 = .ok (.goto 909, 3) := by decide +kernel
theorem d_law_364 : decode code 364 = .ok (.aload_n 1, 1) := by decide +kernel
theorem d_law_365 : decode code 365 = .ok (.aload_n 0, 1) := by decide +kernel
theorem d_law_366 : decode code 366 = .ok (.iload 5, 2) := by decide +kernel
theorem d_law_368 : decode code 368 = .ok (.iconst 1, 1) := by decide +kernel
theorem d_law_369 : decode code 369 = .ok (.iadd, 1) := by decide +kernel
theorem d_law_370 : decode code 370 = .ok (.iaload, 1) := by decide +kernel
theorem d_law_371 : decode code 371 = .ok (.aload_n 0, 1) := by decide +kernel
theorem d_law_372 : decode code 372 = .ok (.iload 5, 2) := by decide +kernel
theorem d_law_374 : decode code 374 = .ok (.iconst 2, 1) := by decide +kernel
theorem d_law_375 : decode code 375 = .ok (.iadd, 1) := by decide +kernel
theorem d_law_376 : decode code 376 = .ok (.iaload, 1) := by decide +kernel
theorem d_law_377 : decode code 377 = .ok (.aload_n 0, 1) := by decide +kernel
theorem d_law_378 : decode code 378 = .ok (.iload 5, 2) := by decide +kernel
theorem d_law_380 : decode code 380 = .ok (.iconst 3, 1) := by decide +kernel
theorem d_law_381 : decode code 381 = .ok (.iadd, 1) := by decide +kernel
theorem d_law_382 : decode code 382 = .ok (.iaload, 1) := by decide +kernel
theorem d_law_383 : decode code 383 = .ok (.invokestatic 95, 3) := by decide +kernel
theorem d_law_386 : decode code 386 = .ok (.istore 6, 2) := by decide +kernel
theorem d_law_388 : decode code 388 = .ok (.aload_n 2, 1) := by decide +kernel
theorem d_law_389 : decode code 389 = .ok (.aload_n 0, 1) := by decide +kernel
theorem d_law_390 : decode code 390 = .ok (.iload 5, 2) := by decide +kernel
theorem d_law_392 : decode code 392 = .ok (.iconst 1, 1) := by decide +kernel
theorem d_law_393 : decode code 393 = .ok (.iadd, 1) := by decide +kernel
theorem d_law_394 : decode code 394 = .ok (.iaload, 1) := by decide +kernel
theorem d_law_395 : decode code 395 = .ok (.aload_n 0, 1) := by decide +kernel
theorem d_law_396 : decode code 396 = .ok (.iload 5, 2) := by decide +kernel
theorem d_law_398 : decode code 398 = .ok (.iconst 2, 1) := by decide +kernel
theorem d_law_399 : decode code 399 = .ok (.iadd, 1) := by decide +kernel
theorem d_law_400 : decode code 400 = .ok (.iaload, 1) := by decide +kernel
theorem d_law_401 : decode code 401 = .ok (.aload_n 0, 1) := by decide +kernel
theorem d_law_402 : decode code 402 = .ok (.iload 5, 2) := by decide +kernel
theorem d_law_404 : decode code 404 = .ok (.iconst 3, 1) := by decide +kernel
theorem d_law_405 : decode code 405 = .ok (.iadd, 1) := by decide +kernel
theorem d_law_406 : decode code 406 = .ok (.iaload, 1) := by decide +kernel
theorem d_law_407 : decode code 407 = .ok (.invokevirtual 98, 3) := by decide +kernel
theorem d_law_410 : decode code 410 = .ok (.aload_n 2, 1) := by decide +kernel
theorem d_law_411 : decode code 411 = .ok (.invokevirtual 82, 3) := by decide +kernel
theorem d_law_414 : decode code 414 = .ok (.iload 6, 2) := by decide +kernel
theorem d_law_416 : decode code 416 = .ok (.if_icmp .eq 5, 3) := by decide +kernel
theorem d_law_419 : decode code 419 = .ok (.iconst 0, 1) := by decide +kernel
theorem d_law_420 : decode code 420 = .ok (.ireturn, 1) := by decide +kernel
theorem d_law_421 : decode code 421 = .ok (.goto 849, 3) := by decide +kernel
theorem d_law_424 : decode code 424 = .ok (.aload_n 1, 1) := by decide +kernel
theorem d_law_425 : decode code 425 = .ok (.aload_n 0, 1) := by decide +kernel
theorem d_law_426 : decode code 426 = .ok (.iload 5, 2) := by decide +kernel
theorem d_law_428 : decode code 428 = .ok (.iconst 1, 1) := by decide +kernel
theorem d_law_429 : decode code 429 = .ok (.iadd, 1) := by decide +kernel
theorem d_law_430 : decode code 430 = .ok (.iaload, 1) := by decide +kernel
theorem d_law_431 : decode code 431 = .ok (.aload_n 0, 1) := by decide +kernel
theorem d_law_432 : decode code 432 = .ok (.iload 5, 2) := by decide +kernel
theorem d_law_434 : decode code 434 = .ok (.iconst 2, 1) := by decide +kernel
theorem d_law_435 : decode code 435 = .ok (.iadd, 1) := by decide +kernel
theorem d_law_436 : decode code 436 = .ok (.iaload, 1) := by decide +kernel
theorem d_law_437 : decode code 437 = .ok (.aload_n 0, 1) := by decide +kernel
theorem d_law_438 : decode code 438 = .ok (.iload 5, 2) := by decide +kernel
theorem d_law_440 : decode code 440 = .ok (.iconst 3, 1) := by decide +kernel
theorem d_law_441 : decode code 441 = .ok (.iadd, 1) := by decide +kernel
theorem d_law_442 : decode code 442 = .ok (.iaload, 1) := by decide +kernel
theorem d_law_443 : decode code 443 = .ok (.i2d, 1) := by decide +kernel
theorem d_law_444 : decode code 444 = .ok (.ldc2_w 86, 3) := by decide +kernel
theorem d_law_447 : decode code 447 = .ok (.dmul, 1) := by decide +kernel
theorem d_law_448 : decode code 448 = .ok (.invokestatic 99, 3) := by decide +kernel
theorem d_law_451 : decode code 451 = .ok (.istore 6, 2) := by decide +kernel
theorem d_law_453 : decode code 453 = .ok (.aload_n 2, 1) := by decide +kernel
theorem d_law_454 : decode code 454 = .ok (.aload_n 0, 1) := by decide +kernel
theorem d_law_455 : decode code 455 = .ok (.iload 5, 2) := by decide +kernel
theorem d_law_457 : decode code 457 = .ok (.iconst 1, 1) := by decide +kernel
theorem d_law_458 : decode code 458 = .ok (.iadd, 1) := by decide +kernel
theorem d_law_459 : decode code 459 = .ok (.iaload, 1) := by decide +kernel
theorem d_law_460 : decode code 460 = .ok (.aload_n 0, 1) := by decide +kernel
theorem d_law_461 : decode code 461 = .ok (.iload 5, 2) := by decide +kernel
theorem d_law_463 : decode code 463 = .ok (.iconst 2, 1) := by decide +kernel
theorem d_law_464 : decode code 464 = .ok (.iadd, 1) := by decide +kernel
theorem d_law_465 : decode code 465 = .ok (.iaload, 1) := by decide +kernel
theorem d_law_466 : decode code 466 = .ok (.aload_n 0, 1) := by decide +kernel
theorem d_law_467 : decode code 467 = .ok (.iload 5, 2) := by decide +kernel
theorem d_law_469 : decode code 469 = .ok (.iconst 3, 1) := by decide +kernel
theorem d_law_470 : decode code 470 = .ok (.iadd, 1) := by decide +kernel
theorem d_law_471 : decode code 471 = .ok (.iaload, 1) := by decide +kernel
theorem d_law_472 : decode code 472 = .ok (.i2d, 1) := by decide +kernel
theorem d_law_473 : decode code 473 = .ok (.ldc2_w 86, 3) := by decide +kernel
theorem d_law_476 : decode code 476 = .ok (.dmul, 1) := by decide +kernel
theorem d_law_477 : decode code 477 = .ok (.invokevirtual 102, 3) := by decide +kernel
theorem d_law_480 : decode code 480 = .ok (.aload_n 2, 1) := by decide +kernel
theorem d_law_481 : decode code 481 = .ok (.invokevirtual 82, 3) := by decide +kernel
theorem d_law_484 : decode code 484 = .ok (.iload 6, 2) := by decide +kernel
theorem d_law_486 : decode code 486 = .ok (.if_icmp .eq 5, 3) := by decide +kernel
theorem d_law_489 : decode code 489 = .ok (.iconst 0, 1) := by decide +kernel
theorem d_law_490 : decode code 490 = .ok (.ireturn, 1) := by decide +kernel
theorem d_law_491 : decode code 491 = .ok (.goto 779, 3) := by decide +kernel
theorem d_law_494 : decode code 494 = .ok (.aload_n 1, 1) := by decide +kernel
theorem d_law_495 : decode code 495 = .ok (.aload_n 0, 1) := by decide +kernel
theorem d_law_496 : decode code 496 = .ok (.iload 5, 2) := by decide +kernel
theorem d_law_498 : decode code 498 = .ok (.iconst 1, 1) := by decide +kernel
theorem d_law_499 : decode code 499 = .ok (.iadd, 1) := by decide +kernel
theorem d_law_500 : decode code 500 = .ok (.iaload, 1) := by decide +kernel
theorem d_law_501 : decode code 501 = .ok (.aload_n 0, 1) := by decide +kernel
theorem d_law_502 : decode code 502 = .ok (.iload 5, 2) := by decide +kernel
theorem d_law_504 : decode code 504 = .ok (.iconst 2, 1) := by decide +kernel
theorem d_law_505 : decode code 505 = .ok (.iadd, 1) := by decide +kernel
theorem d_law_506 : decode code 506 = .ok (.iaload, 1) := by decide +kernel
theorem d_law_507 : decode code 507 = .ok (.ifCond .eq 7, 3) := by decide +kernel
theorem d_law_510 : decode code 510 = .ok (.iconst 1, 1) := by decide +kernel
theorem d_law_511 : decode code 511 = .ok (.goto 4, 3) := by decide +kernel
theorem d_law_514 : decode code 514 = .ok (.iconst 0, 1) := by decide +kernel
theorem d_law_515 : decode code 515 = .ok (.invokestatic 103, 3) := by decide +kernel
theorem d_law_518 : decode code 518 = .ok (.istore 6, 2) := by decide +kernel
theorem d_law_520 : decode code 520 = .ok (.aload_n 2, 1) := by decide +kernel
theorem d_law_521 : decode code 521 = .ok (.aload_n 0, 1) := by decide +kernel
theorem d_law_522 : decode code 522 = .ok (.iload 5, 2) := by decide +kernel
theorem d_law_524 : decode code 524 = .ok (.iconst 1, 1) := by decide +kernel
theorem d_law_525 : decode code 525 = .ok (.iadd, 1) := by decide +kernel
theorem d_law_526 : decode code 526 = .ok (.iaload, 1) := by decide +kernel
theorem d_law_527 : decode code 527 = .ok (.aload_n 0, 1) := by decide +kernel
theorem d_law_528 : decode code 528 = .ok (.iload 5, 2) := by decide +kernel
theorem d_law_530 : decode code 530 = .ok (.iconst 2, 1) := by decide +kernel
theorem d_law_531 : decode code 531 = .ok (.iadd, 1) := by decide +kernel
theorem d_law_532 : decode code 532 = .ok (.iaload, 1) := by decide +kernel
theorem d_law_533 : decode code 533 = .ok (.ifCond .eq 7, 3) := by decide +kernel
theorem d_law_536 : decode code 536 = .ok (.iconst 1, 1) := by decide +kernel
theorem d_law_537 : decode code 537 = .ok (.goto 4, 3) := by decide +kernel
theorem d_law_540 : decode code 540 = .ok (.iconst 0, 1) := by decide +kernel
theorem d_law_541 : decode code 541 = .ok (.invokevirtual 106, 3) := by decide +kernel
theorem d_law_544 : decode code 544 = .ok (.aload_n 2, 1) := by decide +kernel
theorem d_law_545 : decode code 545 = .ok (.invokevirtual 82, 3) := by decide +kernel
theorem d_law_548 : decode code 548 = .ok (.iload 6, 2) := by decide +kernel
theorem d_law_550 : decode code 550 = .ok (.if_icmp .eq 5, 3) := by decide +kernel
theorem d_law_553 : decode code 553 = .ok (.iconst 0, 1) := by decide +kernel
theorem d_law_554 : decode code 554 = .ok (.ireturn, 1) := by decide +kernel
theorem d_law_555 : decode code 555 = .ok (.goto 715, 3) := by decide +kernel
theorem d_law_558 : decode code 558 = .ok (.aload_n 1, 1) := by decide +kernel
theorem d_law_559 : decode code 559 = .ok (.aload_n 0, 1) := by decide +kernel
theorem d_law_560 : decode code 560 = .ok (.iload 5, 2) := by decide +kernel
theorem d_law_562 : decode code 562 = .ok (.iconst 1, 1) := by decide +kernel
theorem d_law_563 : decode code 563 = .ok (.iadd, 1) := by decide +kernel
theorem d_law_564 : decode code 564 = .ok (.iaload, 1) := by decide +kernel
theorem d_law_565 : decode code 565 = .ok (.aload_n 0, 1) := by decide +kernel
theorem d_law_566 : decode code 566 = .ok (.iload 5, 2) := by decide +kernel
theorem d_law_568 : decode code 568 = .ok (.iconst 2, 1) := by decide +kernel
theorem d_law_569 : decode code 569 = .ok (.iadd, 1) := by decide +kernel
theorem d_law_570 : decode code 570 = .ok (.iaload, 1) := by decide +kernel
theorem d_law_571 : decode code 571 = .ok (.aload_n 0, 1) := by decide +kernel
theorem d_law_572 : decode code 572 = .ok (.iload 5, 2) := by decide +kernel
theorem d_law_574 : decode code 574 = .ok (.iconst 3, 1) := by decide +kernel
theorem d_law_575 : decode code 575 = .ok (.iadd, 1) := by decide +kernel
theorem d_law_576 : decode code 576 = .ok (.iaload, 1) := by decide +kernel
theorem d_law_577 : decode code 577 = .ok (.i2d, 1) := by decide +kernel
theorem d_law_578 : decode code 578 = .ok (.ldc2_w 86, 3) := by decide +kernel
theorem d_law_581 : decode code 581 = .ok (.dmul, 1) := by decide +kernel
theorem d_law_582 : decode code 582 = .ok (.aload_n 0, 1) := by decide +kernel
theorem d_law_583 : decode code 583 = .ok (.iload 5, 2) := by decide +kernel
theorem d_law_585 : decode code 585 = .ok (.iconst 4, 1) := by decide +kernel
theorem d_law_586 : decode code 586 = .ok (.iadd, 1) := by decide +kernel
theorem d_law_587 : decode code 587 = .ok (.iaload, 1) := by decide +kernel
theorem d_law_588 : decode code 588 = .ok (.i2d, 1) := by decide +kernel
theorem d_law_589 : decode code 589 = .ok (.ldc2_w 86, 3) := by decide +kernel
theorem d_law_592 : decode code 592 = .ok (.dmul, 1) := by decide +kernel
theorem d_law_593 : decode code 593 = .ok (.aload_n 3, 1) := by decide +kernel
theorem d_law_594 : decode code 594 = .ok (.invokestatic 107, 3) := by decide +kernel
theorem d_law_597 : decode code 597 = .ok (.istore 6, 2) := by decide +kernel
theorem d_law_599 : decode code 599 = .ok (.aload_n 2, 1) := by decide +kernel
theorem d_law_600 : decode code 600 = .ok (.aload_n 0, 1) := by decide +kernel
theorem d_law_601 : decode code 601 = .ok (.iload 5, 2) := by decide +kernel
theorem d_law_603 : decode code 603 = .ok (.iconst 1, 1) := by decide +kernel
theorem d_law_604 : decode code 604 = .ok (.iadd, 1) := by decide +kernel
theorem d_law_605 : decode code 605 = .ok (.iaload, 1) := by decide +kernel
theorem d_law_606 : decode code 606 = .ok (.aload_n 0, 1) := by decide +kernel
theorem d_law_607 : decode code 607 = .ok (.iload 5, 2) := by decide +kernel
theorem d_law_609 : decode code 609 = .ok (.iconst 2, 1) := by decide +kernel
theorem d_law_610 : decode code 610 = .ok (.iadd, 1) := by decide +kernel
theorem d_law_611 : decode code 611 = .ok (.iaload, 1) := by decide +kernel
theorem d_law_612 : decode code 612 = .ok (.aload_n 0, 1) := by decide +kernel
theorem d_law_613 : decode code 613 = .ok (.iload 5, 2) := by decide +kernel
theorem d_law_615 : decode code 615 = .ok (.iconst 3, 1) := by decide +kernel
theorem d_law_616 : decode code 616 = .ok (.iadd, 1) := by decide +kernel
theorem d_law_617 : decode code 617 = .ok (.iaload, 1) := by decide +kernel
theorem d_law_618 : decode code 618 = .ok (.i2d, 1) := by decide +kernel
theorem d_law_619 : decode code 619 = .ok (.ldc2_w 86, 3) := by decide +kernel
theorem d_law_622 : decode code 622 = .ok (.dmul, 1) := by decide +kernel
theorem d_law_623 : decode code 623 = .ok (.aload_n 0, 1) := by decide +kernel
theorem d_law_624 : decode code 624 = .ok (.iload 5, 2) := by decide +kernel
theorem d_law_626 : decode code 626 = .ok (.iconst 4, 1) := by decide +kernel
theorem d_law_627 : decode code 627 = .ok (.iadd, 1) := by decide +kernel
theorem d_law_628 : decode code 628 = .ok (.iaload, 1) := by decide +kernel
theorem d_law_629 : decode code 629 = .ok (.i2d, 1) := by decide +kernel
theorem d_law_630 : decode code 630 = .ok (.ldc2_w 86, 3) := by decide +kernel
theorem d_law_633 : decode code 633 = .ok (.dmul, 1) := by decide +kernel
theorem d_law_634 : decode code 634 = .ok (.invokevirtual 110, 3) := by decide +kernel
theorem d_law_637 : decode code 637 = .ok (.istore 7, 2) := by decide +kernel
theorem d_law_639 : decode code 639 = .ok (.aload_n 2, 1) := by decide +kernel
theorem d_law_640 : decode code 640 = .ok (.invokevirtual 82, 3) := by decide +kernel
theorem d_law_643 : decode code 643 = .ok (.iload 6, 2) := by decide +kernel
theorem d_law_645 : decode code 645 = .ok (.if_icmp .eq 5, 3) := by decide +kernel
theorem d_law_648 : decode code 648 = .ok (.iconst 0, 1) := by decide +kernel
theorem d_law_649 : decode code 649 = .ok (.ireturn, 1) := by decide +kernel
theorem d_law_650 : decode code 650 = .ok (.iload 6, 2) := by decide +kernel
theorem d_law_652 : decode code 652 = .ok (.ifCond .ne 15, 3) := by decide +kernel
theorem d_law_655 : decode code 655 = .ok (.aload_n 3, 1) := by decide +kernel
theorem d_law_656 : decode code 656 = .ok (.iconst 0, 1) := by decide +kernel
theorem d_law_657 : decode code 657 = .ok (.laload, 1) := by decide +kernel
theorem d_law_658 : decode code 658 = .ok (.iload 7, 2) := by decide +kernel
theorem d_law_660 : decode code 660 = .ok (.i2l, 1) := by decide +kernel
theorem d_law_661 : decode code 661 = .ok (.lcmp, 1) := by decide +kernel
theorem d_law_662 : decode code 662 = .ok (.ifCond .eq 5, 3) := by decide +kernel
theorem d_law_665 : decode code 665 = .ok (.iconst 0, 1) := by decide +kernel
theorem d_law_666 : decode code 666 = .ok (.ireturn, 1) := by decide +kernel
theorem d_law_667 : decode code 667 = .ok (.goto 603, 3) := by decide +kernel
theorem d_law_670 : decode code 670 = .ok (.aload_n 1, 1) := by decide +kernel
theorem d_law_671 : decode code 671 = .ok (.aload_n 0, 1) := by decide +kernel
theorem d_law_672 : decode code 672 = .ok (.iload 5, 2) := by decide +kernel
theorem d_law_674 : decode code 674 = .ok (.iconst 1, 1) := by decide +kernel
theorem d_law_675 : decode code 675 = .ok (.iadd, 1) := by decide +kernel
theorem d_law_676 : decode code 676 = .ok (.iaload, 1) := by decide +kernel
theorem d_law_677 : decode code 677 = .ok (.aload_n 0, 1) := by decide +kernel
theorem d_law_678 : decode code 678 = .ok (.iload 5, 2) := by decide +kernel
theorem d_law_680 : decode code 680 = .ok (.iconst 2, 1) := by decide +kernel
theorem d_law_681 : decode code 681 = .ok (.iadd, 1) := by decide +kernel
theorem d_law_682 : decode code 682 = .ok (.iaload, 1) := by decide +kernel
theorem d_law_683 : decode code 683 = .ok (.invokestatic 111, 3) := by decide +kernel
theorem d_law_686 : decode code 686 = .ok (.istore 6, 2) := by decide +kernel
theorem d_law_688 : decode code 688 = .ok (.aload_n 2, 1) := by decide +kernel
theorem d_law_689 : decode code 689 = .ok (.aload_n 0, 1) := by decide +kernel
theorem d_law_690 : decode code 690 = .ok (.iload 5, 2) := by decide +kernel
theorem d_law_692 : decode code 692 = .ok (.iconst 1, 1) := by decide +kernel
theorem d_law_693 : decode code 693 = .ok (.iadd, 1) := by decide +kernel
theorem d_law_694 : decode code 694 = .ok (.iaload, 1) := by decide +kernel
theorem d_law_695 : decode code 695 = .ok (.aload_n 0, 1) := by decide +kernel
theorem d_law_696 : decode code 696 = .ok (.iload 5, 2) := by decide +kernel
theorem d_law_698 : decode code 698 = .ok (.iconst 2, 1) := by decide +kernel
theorem d_law_699 : decode code 699 = .ok (.iadd, 1) := by decide +kernel
theorem d_law_700 : decode code 700 = .ok (.iaload, 1) := by decide +kernel
theorem d_law_701 : decode code 701 = .ok (.invokevirtual 114, 3) := by decide +kernel
theorem d_law_704 : decode code 704 = .ok (.aload_n 2, 1) := by decide +kernel
theorem d_law_705 : decode code 705 = .ok (.invokevirtual 82, 3) := by decide +kernel
theorem d_law_708 : decode code 708 = .ok (.iload 6, 2) := by decide +kernel
theorem d_law_710 : decode code 710 = .ok (.if_icmp .eq 5, 3) := by decide +kernel
theorem d_law_713 : decode code 713 = .ok (.iconst 0, 1) := by decide +kernel
theorem d_law_714 : decode code 714 = .ok (.ireturn, 1) := by decide +kernel
theorem d_law_715 : decode code 715 = .ok (.goto 555, 3) := by decide +kernel
theorem d_law_718 : decode code 718 = .ok (.aload_n 1, 1) := by decide +kernel
theorem d_law_719 : decode code 719 = .ok (.aload_n 0, 1) := by decide +kernel
theorem d_law_720 : decode code 720 = .ok (.iload 5, 2) := by decide +kernel
theorem d_law_722 : decode code 722 = .ok (.iconst 1, 1) := by decide +kernel
theorem d_law_723 : decode code 723 = .ok (.iadd, 1) := by decide +kernel
theorem d_law_724 : decode code 724 = .ok (.iaload, 1) := by decide +kernel
theorem d_law_725 : decode code 725 = .ok (.aload_n 0, 1) := by decide +kernel
theorem d_law_726 : decode code 726 = .ok (.iload 5, 2) := by decide +kernel
theorem d_law_728 : decode code 728 = .ok (.iconst 2, 1) := by decide +kernel
theorem d_law_729 : decode code 729 = .ok (.iadd, 1) := by decide +kernel
theorem d_law_730 : decode code 730 = .ok (.iaload, 1) := by decide +kernel
theorem d_law_731 : decode code 731 = .ok (.invokestatic 115, 3) := by decide +kernel
theorem d_law_734 : decode code 734 = .ok (.istore 6, 2) := by decide +kernel
theorem d_law_736 : decode code 736 = .ok (.aload_n 2, 1) := by decide +kernel
theorem d_law_737 : decode code 737 = .ok (.aload_n 0, 1) := by decide +kernel
theorem d_law_738 : decode code 738 = .ok (.iload 5, 2) := by decide +kernel
theorem d_law_740 : decode code 740 = .ok (.iconst 1, 1) := by decide +kernel
theorem d_law_741 : decode code 741 = .ok (.iadd, 1) := by decide +kernel
theorem d_law_742 : decode code 742 = .ok (.iaload, 1) := by decide +kernel
theorem d_law_743 : decode code 743 = .ok (.aload_n 0, 1) := by decide +kernel
theorem d_law_744 : decode code 744 = .ok (.iload 5, 2) := by decide +kernel
theorem d_law_746 : decode code 746 = .ok (.iconst 2, 1) := by decide +kernel
theorem d_law_747 : decode code 747 = .ok (.iadd, 1) := by decide +kernel
theorem d_law_748 : decode code 748 = .ok (.iaload, 1) := by decide +kernel
theorem d_law_749 : decode code 749 = .ok (.invokevirtual 117, 3) := by decide +kernel
theorem d_law_752 : decode code 752 = .ok (.aload_n 2, 1) := by decide +kernel
theorem d_law_753 : decode code 753 = .ok (.invokevirtual 82, 3) := by decide +kernel
theorem d_law_756 : decode code 756 = .ok (.iload 6, 2) := by decide +kernel
theorem d_law_758 : decode code 758 = .ok (.if_icmp .eq 5, 3) := by decide +kernel
theorem d_law_761 : decode code 761 = .ok (.iconst 0, 1) := by decide +kernel
theorem d_law_762 : decode code 762 = .ok (.ireturn, 1) := by decide +kernel
theorem d_law_763 : decode code 763 = .ok (.goto 507, 3) := by decide +kernel
theorem d_law_766 : decode code 766 = .ok (.aload_n 1, 1) := by decide +kernel
theorem d_law_767 : decode code 767 = .ok (.aload_n 0, 1) := by decide +kernel
theorem d_law_768 : decode code 768 = .ok (.iload 5, 2) := by decide +kernel
theorem d_law_770 : decode code 770 = .ok (.iconst 1, 1) := by decide +kernel
theorem d_law_771 : decode code 771 = .ok (.iadd, 1) := by decide +kernel
theorem d_law_772 : decode code 772 = .ok (.iaload, 1) := by decide +kernel
theorem d_law_773 : decode code 773 = .ok (.aload_n 3, 1) := by decide +kernel
theorem d_law_774 : decode code 774 = .ok (.invokestatic 118, 3) := by decide +kernel
theorem d_law_777 : decode code 777 = .ok (.istore 6, 2) := by decide +kernel
theorem d_law_779 : decode code 779 = .ok (.aload_n 2, 1) := by decide +kernel
theorem d_law_780 : decode code 780 = .ok (.aload_n 0, 1) := by decide +kernel
theorem d_law_781 : decode code 781 = .ok (.iload 5, 2) := by decide +kernel
theorem d_law_783 : decode code 783 = .ok (.iconst 1, 1) := by decide +kernel
theorem d_law_784 : decode code 784 = .ok (.iadd, 1) := by decide +kernel
theorem d_law_785 : decode code 785 = .ok (.iaload, 1) := by decide +kernel
theorem d_law_786 : decode code 786 = .ok (.invokevirtual 121, 3) := by decide +kernel
theorem d_law_789 : decode code 789 = .ok (.istore 7, 2) := by decide +kernel
theorem d_law_791 : decode code 791 = .ok (.aload_n 2, 1) := by decide +kernel
theorem d_law_792 : decode code 792 = .ok (.invokevirtual 82, 3) := by decide +kernel
theorem d_law_795 : decode code 795 = .ok (.iload 6, 2) := by decide +kernel
theorem d_law_797 : decode code 797 = .ok (.if_icmp .eq 5, 3) := by decide +kernel
theorem d_law_800 : decode code 800 = .ok (.iconst 0, 1) := by decide +kernel
theorem d_law_801 : decode code 801 = .ok (.ireturn, 1) := by decide +kernel
theorem d_law_802 : decode code 802 = .ok (.iload 6, 2) := by decide +kernel
theorem d_law_804 : decode code 804 = .ok (.ifCond .ne 15, 3) := by decide +kernel
theorem d_law_807 : decode code 807 = .ok (.aload_n 3, 1) := by decide +kernel
theorem d_law_808 : decode code 808 = .ok (.iconst 0, 1) := by decide +kernel
theorem d_law_809 : decode code 809 = .ok (.laload, 1) := by decide +kernel
theorem d_law_810 : decode code 810 = .ok (.iload 7, 2) := by decide +kernel
theorem d_law_812 : decode code 812 = .ok (.i2l, 1) := by decide +kernel
theorem d_law_813 : decode code 813 = .ok (.lcmp, 1) := by decide +kernel
theorem d_law_814 : decode code 814 = .ok (.ifCond .eq 5, 3) := by decide +kernel
theorem d_law_817 : decode code 817 = .ok (.iconst 0, 1) := by decide +kernel
theorem d_law_818 : decode code 818 = .ok (.ireturn, 1) := by decide +kernel
theorem d_law_819 : decode code 819 = .ok (.goto 451, 3) := by decide +kernel
theorem d_law_822 : decode code 822 = .ok (.aload_n 1, 1) := by decide +kernel
theorem d_law_823 : decode code 823 = .ok (.aload_n 0, 1) := by decide +kernel
theorem d_law_824 : decode code 824 = .ok (.iload 5, 2) := by decide +kernel
theorem d_law_826 : decode code 826 = .ok (.iconst 1, 1) := by decide +kernel
theorem d_law_827 : decode code 827 = .ok (.iadd, 1) := by decide +kernel
theorem d_law_828 : decode code 828 = .ok (.iaload, 1) := by decide +kernel
theorem d_law_829 : decode code 829 = .ok (.i2d, 1) := by decide +kernel
theorem d_law_830 : decode code 830 = .ok (.ldc2_w 86, 3) := by decide +kernel
theorem d_law_833 : decode code 833 = .ok (.dmul, 1) := by decide +kernel
theorem d_law_834 : decode code 834 = .ok (.aload_n 3, 1) := by decide +kernel
theorem d_law_835 : decode code 835 = .ok (.invokestatic 122, 3) := by decide +kernel
theorem d_law_838 : decode code 838 = .ok (.istore 6, 2) := by decide +kernel
theorem d_law_840 : decode code 840 = .ok (.aload_n 2, 1) := by decide +kernel
theorem d_law_841 : decode code 841 = .ok (.aload_n 0, 1) := by decide +kernel
theorem d_law_842 : decode code 842 = .ok (.iload 5, 2) := by decide +kernel
theorem d_law_844 : decode code 844 = .ok (.iconst 1, 1) := by decide +kernel
theorem d_law_845 : decode code 845 = .ok (.iadd, 1) := by decide +kernel
theorem d_law_846 : decode code 846 = .ok (.iaload, 1) := by decide +kernel
theorem d_law_847 : decode code 847 = .ok (.i2d, 1) := by decide +kernel
theorem d_law_848 : decode code 848 = .ok (.ldc2_w 86, 3) := by decide +kernel
theorem d_law_851 : decode code 851 = .ok (.dmul, 1) := by decide +kernel
theorem d_law_852 : decode code 852 = .ok (.invokevirtual 125, 3) := by decide +kernel
theorem d_law_855 : decode code 855 = .ok (.istore 7, 2) := by decide +kernel
theorem d_law_857 : decode code 857 = .ok (.aload_n 2, 1) := by decide +kernel
theorem d_law_858 : decode code 858 = .ok (.invokevirtual 82, 3) := by decide +kernel
theorem d_law_861 : decode code 861 = .ok (.iload 6, 2) := by decide +kernel
theorem d_law_863 : decode code 863 = .ok (.if_icmp .eq 5, 3) := by decide +kernel
theorem d_law_866 : decode code 866 = .ok (.iconst 0, 1) := by decide +kernel
theorem d_law_867 : decode code 867 = .ok (.ireturn, 1) := by decide +kernel
theorem d_law_868 : decode code 868 = .ok (.iload 6, 2) := by decide +kernel
theorem d_law_870 : decode code 870 = .ok (.ifCond .ne 15, 3) := by decide +kernel
theorem d_law_873 : decode code 873 = .ok (.aload_n 3, 1) := by decide +kernel
theorem d_law_874 : decode code 874 = .ok (.iconst 0, 1) := by decide +kernel
theorem d_law_875 : decode code 875 = .ok (.laload, 1) := by decide +kernel
theorem d_law_876 : decode code 876 = .ok (.iload 7, 2) := by decide +kernel
theorem d_law_878 : decode code 878 = .ok (.i2l, 1) := by decide +kernel
theorem d_law_879 : decode code 879 = .ok (.lcmp, 1) := by decide +kernel
theorem d_law_880 : decode code 880 = .ok (.ifCond .eq 5, 3) := by decide +kernel
theorem d_law_883 : decode code 883 = .ok (.iconst 0, 1) := by decide +kernel
theorem d_law_884 : decode code 884 = .ok (.ireturn, 1) := by decide +kernel
theorem d_law_885 : decode code 885 = .ok (.goto 385, 3) := by decide +kernel
theorem d_law_888 : decode code 888 = .ok (.aload_n 1, 1) := by decide +kernel
theorem d_law_889 : decode code 889 = .ok (.aload_n 0, 1) := by decide +kernel
theorem d_law_890 : decode code 890 = .ok (.iload 5, 2) := by decide +kernel
theorem d_law_892 : decode code 892 = .ok (.iconst 1, 1) := by decide +kernel
theorem d_law_893 : decode code 893 = .ok (.iadd, 1) := by decide +kernel
theorem d_law_894 : decode code 894 = .ok (.iaload, 1) := by decide +kernel
theorem d_law_895 : decode code 895 = .ok (.aload_n 0, 1) := by decide +kernel
theorem d_law_896 : decode code 896 = .ok (.iload 5, 2) := by decide +kernel
theorem d_law_898 : decode code 898 = .ok (.iconst 2, 1) := by decide +kernel
theorem d_law_899 : decode code 899 = .ok (.iadd, 1) := by decide +kernel
theorem d_law_900 : decode code 900 = .ok (.iaload, 1) := by decide +kernel
theorem d_law_901 : decode code 901 = .ok (.aload_n 3, 1) := by decide +kernel
theorem d_law_902 : decode code 902 = .ok (.invokestatic 126, 3) := by decide +kernel
theorem d_law_905 : decode code 905 = .ok (.istore 6, 2) := by decide +kernel
theorem d_law_907 : decode code 907 = .ok (.aload_n 2, 1) := by decide +kernel
theorem d_law_908 : decode code 908 = .ok (.aload_n 0, 1) := by decide +kernel
theorem d_law_909 : decode code 909 = .ok (.iload 5, 2) := by decide +kernel
theorem d_law_911 : decode code 911 = .ok (.iconst 1, 1) := by decide +kernel
theorem d_law_912 : decode code 912 = .ok (.iadd, 1) := by decide +kernel
theorem d_law_913 : decode code 913 = .ok (.iaload, 1) := by decide +kernel
theorem d_law_914 : decode code 914 = .ok (.aload_n 0, 1) := by decide +kernel
theorem d_law_915 : decode code 915 = .ok (.iload 5, 2) := by decide +kernel
theorem d_law_917 : decode code 917 = .ok (.iconst 2, 1) := by decide +kernel
theorem d_law_918 : decode code 918 = .ok (.iadd, 1) := by decide +kernel
theorem d_law_919 : decode code 919 = .ok (.iaload, 1) := by decide +kernel
theorem d_law_920 : decode code 920 = .ok (.invokevirtual 129, 3) := by decide +kernel
theorem d_law_923 : decode code 923 = .ok (.istore 7, 2) := by decide +kernel
theorem d_law_925 : decode code 925 = .ok (.aload_n 2, 1) := by decide +kernel
theorem d_law_926 : decode code 926 = .ok (.invokevirtual 82, 3) := by decide +kernel
theorem d_law_929 : decode code 929 = .ok (.iload 6, 2) := by decide +kernel
theorem d_law_931 : decode code 931 = .ok (.if_icmp .eq 5, 3) := by decide +kernel
theorem d_law_934 : decode code 934 = .ok (.iconst 0, 1) := by decide +kernel
theorem d_law_935 : decode code 935 = .ok (.ireturn, 1) := by decide +kernel
theorem d_law_936 : decode code 936 = .ok (.iload 6, 2) := by decide +kernel
theorem d_law_938 : decode code 938 = .ok (.ifCond .ne 15, 3) := by decide +kernel
theorem d_law_941 : decode code 941 = .ok (.aload_n 3, 1) := by decide +kernel
theorem d_law_942 : decode code 942 = .ok (.iconst 0, 1) := by decide +kernel
theorem d_law_943 : decode code 943 = .ok (.laload, 1) := by decide +kernel
theorem d_law_944 : decode code 944 = .ok (.iload 7, 2) := by decide +kernel
theorem d_law_946 : decode code 946 = .ok (.i2l, 1) := by decide +kernel
theorem d_law_947 : decode code 947 = .ok (.lcmp, 1) := by decide +kernel
theorem d_law_948 : decode code 948 = .ok (.ifCond .eq 5, 3) := by decide +kernel
theorem d_law_951 : decode code 951 = .ok (.iconst 0, 1) := by decide +kernel
theorem d_law_952 : decode code 952 = .ok (.ireturn, 1) := by decide +kernel
theorem d_law_953 : decode code 953 = .ok (.goto 317, 3) := by decide +kernel
theorem d_law_956 : decode code 956 = .ok (.aload_n 1, 1) := by decide +kernel
theorem d_law_957 : decode code 957 = .ok (.aload_n 0, 1) := by decide +kernel
theorem d_law_958 : decode code 958 = .ok (.iload 5, 2) := by decide +kernel
theorem d_law_960 : decode code 960 = .ok (.iconst 1, 1) := by decide +kernel
theorem d_law_961 : decode code 961 = .ok (.iadd, 1) := by decide +kernel
theorem d_law_962 : decode code 962 = .ok (.iaload, 1) := by decide +kernel
theorem d_law_963 : decode code 963 = .ok (.i2d, 1) := by decide +kernel
theorem d_law_964 : decode code 964 = .ok (.ldc2_w 86, 3) := by decide +kernel
theorem d_law_967 : decode code 967 = .ok (.dmul, 1) := by decide +kernel
theorem d_law_968 : decode code 968 = .ok (.aload_n 0, 1) := by decide +kernel
theorem d_law_969 : decode code 969 = .ok (.iload 5, 2) := by decide +kernel
theorem d_law_971 : decode code 971 = .ok (.iconst 2, 1) := by decide +kernel
theorem d_law_972 : decode code 972 = .ok (.iadd, 1) := by decide +kernel
theorem d_law_973 : decode code 973 = .ok (.iaload, 1) := by decide +kernel
theorem d_law_974 : decode code 974 = .ok (.i2d, 1) := by decide +kernel
theorem d_law_975 : decode code 975 = .ok (.ldc2_w 86, 3) := by decide +kernel
theorem d_law_978 : decode code 978 = .ok (.dmul, 1) := by decide +kernel
theorem d_law_979 : decode code 979 = .ok (.aload_n 0, 1) := by decide +kernel
theorem d_law_980 : decode code 980 = .ok (.iload 5, 2) := by decide +kernel
theorem d_law_982 : decode code 982 = .ok (.iconst 3, 1) := by decide +kernel
theorem d_law_983 : decode code 983 = .ok (.iadd, 1) := by decide +kernel
theorem d_law_984 : decode code 984 = .ok (.iaload, 1) := by decide +kernel
theorem d_law_985 : decode code 985 = .ok (.i2d, 1) := by decide +kernel
theorem d_law_986 : decode code 986 = .ok (.ldc2_w 86, 3) := by decide +kernel
theorem d_law_989 : decode code 989 = .ok (.dmul, 1) := by decide +kernel
theorem d_law_990 : decode code 990 = .ok (.aload_n 3, 1) := by decide +kernel
theorem d_law_991 : decode code 991 = .ok (.invokestatic 130, 3) := by decide +kernel
theorem d_law_994 : decode code 994 = .ok (.istore 6, 2) := by decide +kernel
theorem d_law_996 : decode code 996 = .ok (.aload_n 2, 1) := by decide +kernel
theorem d_law_997 : decode code 997 = .ok (.aload_n 0, 1) := by decide +kernel
theorem d_law_998 : decode code 998 = .ok (.iload 5, 2) := by decide +kernel
theorem d_law_1000 : decode code 1000 = .ok (.iconst 1, 1) := by decide +kernel
theorem d_law_1001 : decode code 1001 = .ok (.iadd, 1) := by decide +kernel
theorem d_law_1002 : decode code 1002 = .ok (.iaload, 1) := by decide +kernel
theorem d_law_1003 : decode code 1003 = .ok (.i2d, 1) := by decide +kernel
theorem d_law_1004 : decode code 1004 = .ok (.ldc2_w 86, 3) := by decide +kernel
theorem d_law_1007 : decode code 1007 = .ok (.dmul, 1) := by decide +kernel
theorem d_law_1008 : decode code 1008 = .ok (.aload_n 0, 1) := by decide +kernel
theorem d_law_1009 : decode code 1009 = .ok (.iload 5, 2) := by decide +kernel
theorem d_law_1011 : decode code 1011 = .ok (.iconst 2, 1) := by decide +kernel
theorem d_law_1012 : decode code 1012 = .ok (.iadd, 1) := by decide +kernel
theorem d_law_1013 : decode code 1013 = .ok (.iaload, 1) := by decide +kernel
theorem d_law_1014 : decode code 1014 = .ok (.i2d, 1) := by decide +kernel
theorem d_law_1015 : decode code 1015 = .ok (.ldc2_w 86, 3) := by decide +kernel
theorem d_law_1018 : decode code 1018 = .ok (.dmul, 1) := by decide +kernel
theorem d_law_1019 : decode code 1019 = .ok (.aload_n 0, 1) := by decide +kernel
theorem d_law_1020 : decode code 1020 = .ok (.iload 5, 2) := by decide +kernel
theorem d_law_1022 : decode code 1022 = .ok (.iconst 3, 1) := by decide +kernel
theorem d_law_1023 : decode code 1023 = .ok (.iadd, 1) := by decide +kernel
theorem d_law_1024 : decode code 1024 = .ok (.iaload, 1) := by decide +kernel
theorem d_law_1025 : decode code 1025 = .ok (.i2d, 1) := by decide +kernel
theorem d_law_1026 : decode code 1026 = .ok (.ldc2_w 86, 3) := by decide +kernel
theorem d_law_1029 : decode code 1029 = .ok (.dmul, 1) := by decide +kernel
theorem d_law_1030 : decode code 1030 = .ok (.invokevirtual 133, 3) := by decide +kernel
theorem d_law_1033 : decode code 1033 = .ok (.istore 7, 2) := by decide +kernel
theorem d_law_1035 : decode code 1035 = .ok (.aload_n 2, 1) := by decide +kernel
theorem d_law_1036 : decode code 1036 = .ok (.invokevirtual 82, 3) := by decide +kernel
theorem d_law_1039 : decode code 1039 = .ok (.iload 6, 2) := by decide +kernel
theorem d_law_1041 : decode code 1041 = .ok (.if_icmp .eq 5, 3) := by decide +kernel
theorem d_law_1044 : decode code 1044 = .ok (.iconst 0, 1) := by decide +kernel
theorem d_law_1045 : decode code 1045 = .ok (.ireturn, 1) := by decide +kernel
theorem d_law_1046 : decode code 1046 = .ok (.iload 6, 2) := by decide +kernel
theorem d_law_1048 : decode code 1048 = .ok (.ifCond .ne 15, 3) := by decide +kernel
theorem d_law_1051 : decode code 1051 = .ok (.aload_n 3, 1) := by decide +kernel
theorem d_law_1052 : decode code 1052 = .ok (.iconst 0, 1) := by decide +kernel
theorem d_law_1053 : decode code 1053 = .ok (.laload, 1) := by decide +kernel
theorem d_law_1054 : decode code 1054 = .ok (.iload 7, 2) := by decide +kernel
theorem d_law_1056 : decode code 1056 = .ok (.i2l, 1) := by decide +kernel
theorem d_law_1057 : decode code 1057 = .ok (.lcmp, 1) := by decide +kernel
theorem d_law_1058 : decode code 1058 = .ok (.ifCond .eq 5, 3) := by decide +kernel
theorem d_law_1061 : decode code 1061 = .ok (.iconst 0, 1) := by decide +kernel
theorem d_law_1062 : decode code 1062 = .ok (.ireturn, 1) := by decide +kernel
theorem d_law_1063 : decode code 1063 = .ok (.goto 207, 3) := by decide +kernel
theorem d_law_1066 : decode code 1066 = .ok (.aload_n 1, 1) := by decide +kernel
theorem d_law_1067 : decode code 1067 = .ok (.aload_n 0, 1) := by decide +kernel
theorem d_law_1068 : decode code 1068 = .ok (.iload 5, 2) := by decide +kernel
theorem d_law_1070 : decode code 1070 = .ok (.iconst 1, 1) := by decide +kernel
theorem d_law_1071 : decode code 1071 = .ok (.iadd, 1) := by decide +kernel
theorem d_law_1072 : decode code 1072 = .ok (.iaload, 1) := by decide +kernel
theorem d_law_1073 : decode code 1073 = .ok (.aload_n 0, 1) := by decide +kernel
theorem d_law_1074 : decode code 1074 = .ok (.iload 5, 2) := by decide +kernel
theorem d_law_1076 : decode code 1076 = .ok (.iconst 2, 1) := by decide +kernel
theorem d_law_1077 : decode code 1077 = .ok (.iadd, 1) := by decide +kernel
theorem d_law_1078 : decode code 1078 = .ok (.iaload, 1) := by decide +kernel
theorem d_law_1079 : decode code 1079 = .ok (.aload_n 0, 1) := by decide +kernel
theorem d_law_1080 : decode code 1080 = .ok (.iload 5, 2) := by decide +kernel
theorem d_law_1082 : decode code 1082 = .ok (.iconst 3, 1) := by decide +kernel
theorem d_law_1083 : decode code 1083 = .ok (.iadd, 1) := by decide +kernel
theorem d_law_1084 : decode code 1084 = .ok (.iaload, 1) := by decide +kernel
theorem d_law_1085 : decode code 1085 = .ok (.i2d, 1) := by decide +kernel
theorem d_law_1086 : decode code 1086 = .ok (.ldc2_w 86, 3) := by decide +kernel
theorem d_law_1089 : decode code 1089 = .ok (.dmul, 1) := by decide +kernel
theorem d_law_1090 : decode code 1090 = .ok (.aload 4, 2) := by decide +kernel
theorem d_law_1092 : decode code 1092 = .ok (.invokestatic 134, 3) := by decide +kernel
theorem d_law_1095 : decode code 1095 = .ok (.istore 6, 2) := by decide +kernel
theorem d_law_1097 : decode code 1097 = .ok (.aload_n 2, 1) := by decide +kernel
theorem d_law_1098 : decode code 1098 = .ok (.aload_n 0, 1) := by decide +kernel
theorem d_law_1099 : decode code 1099 = .ok (.iload 5, 2) := by decide +kernel
theorem d_law_1101 : decode code 1101 = .ok (.iconst 1, 1) := by decide +kernel
theorem d_law_1102 : decode code 1102 = .ok (.iadd, 1) := by decide +kernel
theorem d_law_1103 : decode code 1103 = .ok (.iaload, 1) := by decide +kernel
theorem d_law_1104 : decode code 1104 = .ok (.aload_n 0, 1) := by decide +kernel
theorem d_law_1105 : decode code 1105 = .ok (.iload 5, 2) := by decide +kernel
theorem d_law_1107 : decode code 1107 = .ok (.iconst 2, 1) := by decide +kernel
theorem d_law_1108 : decode code 1108 = .ok (.iadd, 1) := by decide +kernel
theorem d_law_1109 : decode code 1109 = .ok (.iaload, 1) := by decide +kernel
theorem d_law_1110 : decode code 1110 = .ok (.aload_n 0, 1) := by decide +kernel
theorem d_law_1111 : decode code 1111 = .ok (.iload 5, 2) := by decide +kernel
theorem d_law_1113 : decode code 1113 = .ok (.iconst 3, 1) := by decide +kernel
theorem d_law_1114 : decode code 1114 = .ok (.iadd, 1) := by decide +kernel
theorem d_law_1115 : decode code 1115 = .ok (.iaload, 1) := by decide +kernel
theorem d_law_1116 : decode code 1116 = .ok (.i2d, 1) := by decide +kernel
theorem d_law_1117 : decode code 1117 = .ok (.ldc2_w 86, 3) := by decide +kernel
theorem d_law_1120 : decode code 1120 = .ok (.dmul, 1) := by decide +kernel
theorem d_law_1121 : decode code 1121 = .ok (.invokevirtual 137, 3) := by decide +kernel
theorem d_law_1124 : decode code 1124 = .ok (.dstore 7, 2) := by decide +kernel
theorem d_law_1126 : decode code 1126 = .ok (.aload_n 2, 1) := by decide +kernel
theorem d_law_1127 : decode code 1127 = .ok (.invokevirtual 82, 3) := by decide +kernel
theorem d_law_1130 : decode code 1130 = .ok (.iload 6, 2) := by decide +kernel
theorem d_law_1132 : decode code 1132 = .ok (.if_icmp .eq 5, 3) := by decide +kernel
theorem d_law_1135 : decode code 1135 = .ok (.iconst 0, 1) := by decide +kernel
theorem d_law_1136 : decode code 1136 = .ok (.ireturn, 1) := by decide +kernel
theorem d_law_1137 : decode code 1137 = .ok (.iload 6, 2) := by decide +kernel
theorem d_law_1139 : decode code 1139 = .ok (.ifCond .ne 35, 3) := by decide +kernel
theorem d_law_1142 : decode code 1142 = .ok (.aload 4, 2) := by decide +kernel
theorem d_law_1144 : decode code 1144 = .ok (.iconst 0, 1) := by decide +kernel
theorem d_law_1145 : decode code 1145 = .ok (.daload, 1) := by decide +kernel
theorem d_law_1146 : decode code 1146 = .ok (.dload 7, 2) := by decide +kernel
theorem d_law_1148 : decode code 1148 = .ok (.dcmp .l, 1) := by decide +kernel
theorem d_law_1149 : decode code 1149 = .ok (.ifCond .eq 25, 3) := by decide +kernel
theorem d_law_1152 : decode code 1152 = .ok (.aload 4, 2) := by decide +kernel
theorem d_law_1154 : decode code 1154 = .ok (.iconst 0, 1) := by decide +kernel
theorem d_law_1155 : decode code 1155 = .ok (.daload, 1) := by decide +kernel
theorem d_law_1156 : decode code 1156 = .ok (.aload 4, 2) := by decide +kernel
theorem d_law_1158 : decode code 1158 = .ok (.iconst 0, 1) := by decide +kernel
theorem d_law_1159 : decode code 1159 = .ok (.daload, 1) := by decide +kernel
theorem d_law_1160 : decode code 1160 = .ok (.dcmp .l, 1) := by decide +kernel
theorem d_law_1161 : decode code 1161 = .ok (.ifCond .eq 11, 3) := by decide +kernel
theorem d_law_1164 : decode code 1164 = .ok (.dload 7, 2) := by decide +kernel
theorem d_law_1166 : decode code 1166 = .ok (.dload 7, 2) := by decide +kernel
theorem d_law_1168 : decode code 1168 = .ok (.dcmp .l, 1) := by decide +kernel
theorem d_law_1169 : decode code 1169 = .ok (.ifCond .ne 5, 3) := by decide +kernel
theorem d_law_1172 : decode code 1172 = .ok (.iconst 0, 1) := by decide +kernel
theorem d_law_1173 : decode code 1173 = .ok (.ireturn, 1) := by decide +kernel
theorem d_law_1174 : decode code 1174 = .ok (.goto 96, 3) := by decide +kernel
theorem d_law_1177 : decode code 1177 = .ok (.aload_n 1, 1) := by decide +kernel
theorem d_law_1178 : decode code 1178 = .ok (.aload_n 0, 1) := by decide +kernel
theorem d_law_1179 : decode code 1179 = .ok (.iload 5, 2) := by decide +kernel
theorem d_law_1181 : decode code 1181 = .ok (.iconst 1, 1) := by decide +kernel
theorem d_law_1182 : decode code 1182 = .ok (.iadd, 1) := by decide +kernel
theorem d_law_1183 : decode code 1183 = .ok (.iaload, 1) := by decide +kernel
theorem d_law_1184 : decode code 1184 = .ok (.aload_n 0, 1) := by decide +kernel
theorem d_law_1185 : decode code 1185 = .ok (.iload 5, 2) := by decide +kernel
theorem d_law_1187 : decode code 1187 = .ok (.iconst 2, 1) := by decide +kernel
theorem d_law_1188 : decode code 1188 = .ok (.iadd, 1) := by decide +kernel
theorem d_law_1189 : decode code 1189 = .ok (.iaload, 1) := by decide +kernel
theorem d_law_1190 : decode code 1190 = .ok (.aload_n 3, 1) := by decide +kernel
theorem d_law_1191 : decode code 1191 = .ok (.invokestatic 138, 3) := by decide +kernel
theorem d_law_1194 : decode code 1194 = .ok (.istore 6, 2) := by decide +kernel
theorem d_law_1196 : decode code 1196 = .ok (.aload_n 2, 1) := by decide +kernel
theorem d_law_1197 : decode code 1197 = .ok (.aload_n 0, 1) := by decide +kernel
theorem d_law_1198 : decode code 1198 = .ok (.iload 5, 2) := by decide +kernel
theorem d_law_1200 : decode code 1200 = .ok (.iconst 1, 1) := by decide +kernel
theorem d_law_1201 : decode code 1201 = .ok (.iadd, 1) := by decide +kernel
theorem d_law_1202 : decode code 1202 = .ok (.iaload, 1) := by decide +kernel
theorem d_law_1203 : decode code 1203 = .ok (.aload_n 0, 1) := by decide +kernel
theorem d_law_1204 : decode code 1204 = .ok (.iload 5, 2) := by decide +kernel
theorem d_law_1206 : decode code 1206 = .ok (.iconst 2, 1) := by decide +kernel
theorem d_law_1207 : decode code 1207 = .ok (.iadd, 1) := by decide +kernel
theorem d_law_1208 : decode code 1208 = .ok (.iaload, 1) := by decide +kernel
theorem d_law_1209 : decode code 1209 = .ok (.invokevirtual 140, 3) := by decide +kernel
theorem d_law_1212 : decode code 1212 = .ok (.istore 7, 2) := by decide +kernel
theorem d_law_1214 : decode code 1214 = .ok (.aload_n 2, 1) := by decide +kernel
theorem d_law_1215 : decode code 1215 = .ok (.invokevirtual 82, 3) := by decide +kernel
theorem d_law_1218 : decode code 1218 = .ok (.iload 6, 2) := by decide +kernel
theorem d_law_1220 : decode code 1220 = .ok (.if_icmp .eq 5, 3) := by decide +kernel
theorem d_law_1223 : decode code 1223 = .ok (.iconst 0, 1) := by decide +kernel
theorem d_law_1224 : decode code 1224 = .ok (.ireturn, 1) := by decide +kernel
theorem d_law_1225 : decode code 1225 = .ok (.iload 6, 2) := by decide +kernel
theorem d_law_1227 : decode code 1227 = .ok (.ifCond .ne 15, 3) := by decide +kernel
theorem d_law_1230 : decode code 1230 = .ok (.aload_n 3, 1) := by decide +kernel
theorem d_law_1231 : decode code 1231 = .ok (.iconst 0, 1) := by decide +kernel
theorem d_law_1232 : decode code 1232 = .ok (.laload, 1) := by decide +kernel
theorem d_law_1233 : decode code 1233 = .ok (.iload 7, 2) := by decide +kernel
theorem d_law_1235 : decode code 1235 = .ok (.i2l, 1) := by decide +kernel
theorem d_law_1236 : decode code 1236 = .ok (.lcmp, 1) := by decide +kernel
theorem d_law_1237 : decode code 1237 = .ok (.ifCond .eq 5, 3) := by decide +kernel
theorem d_law_1240 : decode code 1240 = .ok (.iconst 0, 1) := by decide +kernel
theorem d_law_1241 : decode code 1241 = .ok (.ireturn, 1) := by decide +kernel
theorem d_law_1242 : decode code 1242 = .ok (.goto 28, 3) := by decide +kernel
theorem d_law_1245 : decode code 1245 = .ok (.aload_n 1, 1) := by decide +kernel
theorem d_law_1246 : decode code 1246 = .ok (.aload_n 0, 1) := by decide +kernel
theorem d_law_1247 : decode code 1247 = .ok (.iload 5, 2) := by decide +kernel
theorem d_law_1249 : decode code 1249 = .ok (.iconst 1, 1) := by decide +kernel
theorem d_law_1250 : decode code 1250 = .ok (.iadd, 1) := by decide +kernel
theorem d_law_1251 : decode code 1251 = .ok (.iaload, 1) := by decide +kernel
theorem d_law_1252 : decode code 1252 = .ok (.invokevirtual 141, 3) := by decide +kernel
theorem d_law_1255 : decode code 1255 = .ok (.aload_n 2, 1) := by decide +kernel
theorem d_law_1256 : decode code 1256 = .ok (.aload_n 0, 1) := by decide +kernel
theorem d_law_1257 : decode code 1257 = .ok (.iload 5, 2) := by decide +kernel
theorem d_law_1259 : decode code 1259 = .ok (.iconst 1, 1) := by decide +kernel
theorem d_law_1260 : decode code 1260 = .ok (.iadd, 1) := by decide +kernel
theorem d_law_1261 : decode code 1261 = .ok (.iaload, 1) := by decide +kernel
theorem d_law_1262 : decode code 1262 = .ok (.invokevirtual 144, 3) := by decide +kernel
theorem d_law_1265 : decode code 1265 = .ok (.if_icmp .eq 5, 3) := by decide +kernel
theorem d_law_1268 : decode code 1268 = .ok (.iconst 0, 1) := by decide +kernel
theorem d_law_1269 : decode code 1269 = .ok (.ireturn, 1) := by decide +kernel
theorem d_law_1270 : decode code 1270 = .ok (.iinc 5 5, 3) := by decide +kernel
theorem d_law_1273 : decode code 1273 = .ok (.goto (-1245), 3) := by decide +kernel
theorem d_law_1276 : decode code 1276 = .ok (.iconst 1, 1) := by decide +kernel
theorem d_law_1277 : decode code 1277 = .ok (.ireturn, 1) := by decide +kernel
theorem kw_La_around : c_La_around ∈ gw := gw_i 705 (by decide +kernel) (by decide +kernel)
theorem kw_La_cell : c_La_cell ∈ gw := gw_i 689 (by decide +kernel) (by decide +kernel)
theorem kw_La_hide : c_La_hide ∈ gw := gw_i 513 (by decide +kernel) (by decide +kernel)
theorem kw_La_into : c_La_into ∈ gw := gw_i 570 (by decide +kernel) (by decide +kernel)
theorem kw_La_key : c_La_key ∈ gw := gw_i 520 (by decide +kernel) (by decide +kernel)
theorem kw_La_lay : c_La_lay ∈ gw := gw_i 498 (by decide +kernel) (by decide +kernel)
theorem kw_La_lengths : c_La_lengths ∈ gw := gw_i 458 (by decide +kernel) (by decide +kernel)
theorem kw_La_mode : c_La_mode ∈ gw := gw_i 505 (by decide +kernel) (by decide +kernel)
theorem kw_La_node : c_La_node ∈ gw := gw_i 289 (by decide +kernel) (by decide +kernel)
theorem kw_La_paint : c_La_paint ∈ gw := gw_i 624 (by decide +kernel) (by decide +kernel)
theorem kw_La_place : c_La_place ∈ gw := gw_i 482 (by decide +kernel) (by decide +kernel)
theorem kw_La_remove : c_La_remove ∈ gw := gw_i 617 (by decide +kernel) (by decide +kernel)
theorem kw_La_told : c_La_told ∈ gw := gw_i 756 (by decide +kernel) (by decide +kernel)
theorem kw_La_top : c_La_top ∈ gw := gw_i 696 (by decide +kernel) (by decide +kernel)
theorem kw_La_unkey : c_La_unkey ∈ gw := gw_i 546 (by decide +kernel) (by decide +kernel)
