/-! the law, instruction by instruction -/
abbrev y_La_law : MethodName := x
theorem d_La_law_0 : decode code 0 = .ok (.new 8, 3) := by decide +kernel
theorem d_La_law_3 : decode code 3 = .ok (.dup, 1) := by decide +kernel
theorem d_La_law_4 : decode code 4 = .ok (.invokespecial 68, 3) := by decide +kernel
theorem d_La_law_7 : decode code 7 = .ok (.astore_n 1, 1) := by decide +kernel
theorem d_La_law_8 : decode code 8 = .ok (.new 69, 3) := by decide +kernel
theorem d_La_law_11 : decode code 11 = .ok (.dup, 1) := by decide +kernel
theorem d_La_law_12 : decode code 12 = .ok (.invokespecial 71, 3) := by decide +kernel
theorem d_La_law_15 : decode code 15 = .ok (.astore_n 2, 1) := by decide +kernel
theorem d_La_law_16 : decode code 16 = .ok (.iconst 1, 1) := by decide +kernel
theorem d_La_law_17 : decode code 17 = .ok (.newarray .long, 2) := by decide +kernel
theorem d_La_law_19 : decode code 19 = .ok (.astore_n 3, 1) := by decide +kernel
theorem d_La_law_20 : decode code 20 = .ok (.iconst 0, 1) := by decide +kernel
theorem d_La_law_21 : decode code 21 = .ok (.istore 4, 2) := by decide +kernel
theorem d_La_law_23 : decode code 23 = .ok (.iload 4, 2) := by decide +kernel
theorem d_La_law_25 : decode code 25 = .ok (.aload_n 0, 1) := by decide +kernel
theorem d_La_law_26 : decode code 26 = .ok (.arraylength, 1) := by decide +kernel
theorem d_La_law_27 : decode code 27 = .ok (.bipush 6, 2) := by decide +kernel
theorem d_La_law_29 : decode code 29 = .ok (.isub, 1) := by decide +kernel
theorem d_La_law_30 : decode code 30 = .ok (.if_icmp .gt 1209, 3) := by decide +kernel
theorem d_La_law_33 : decode code 33 = .ok (.aload_n 0, 1) := by decide +kernel
theorem d_La_law_34 : decode code 34 = .ok (.iload 4, 2) := by decide +kernel
theorem d_La_law_36 : decode code 36 = .ok (.iaload, 1) := by decide +kernel
theorem d_La_law_37 : decode code 37 = .ok (.bipush 31, 2) := by decide +kernel
theorem d_La_law_39 : decode code 39 = .ok (.iand, 1) := by decide +kernel
theorem d_La_law_40 : decode code 40 = .ok (.tableswitch 1193 0 16 #[84, 140, 196, 244, 292, 348, 428, 532, 636, 704, 772, 828, 841, 897, 965, 1021, 1125], 84) := by decide +kernel
theorem d_La_law_124 : decode code 124 = .ok (.aload_n 1, 1) := by decide +kernel
theorem d_La_law_125 : decode code 125 = .ok (.aload_n 0, 1) := by decide +kernel
theorem d_La_law_126 : decode code 126 = .ok (.iload 4, 2) := by decide +kernel
theorem d_La_law_128 : decode code 128 = .ok (.iconst 1, 1) := by decide +kernel
theorem d_La_law_129 : decode code 129 = .ok (.iadd, 1) := by decide +kernel
theorem d_La_law_130 : decode code 130 = .ok (.iaload, 1) := by decide +kernel
theorem d_La_law_131 : decode code 131 = .ok (.aload_n 3, 1) := by decide +kernel
theorem d_La_law_132 : decode code 132 = .ok (.invokestatic 72, 3) := by decide +kernel
theorem d_La_law_135 : decode code 135 = .ok (.istore 5, 2) := by decide +kernel
theorem d_La_law_137 : decode code 137 = .ok (.aload_n 2, 1) := by decide +kernel
theorem d_La_law_138 : decode code 138 = .ok (.aload_n 0, 1) := by decide +kernel
theorem d_La_law_139 : decode code 139 = .ok (.iload 4, 2) := by decide +kernel
theorem d_La_law_141 : decode code 141 = .ok (.iconst 1, 1) := by decide +kernel
theorem d_La_law_142 : decode code 142 = .ok (.iadd, 1) := by decide +kernel
theorem d_La_law_143 : decode code 143 = .ok (.iaload, 1) := by decide +kernel
theorem d_La_law_144 : decode code 144 = .ok (.invokevirtual 77, 3) := by decide +kernel
theorem d_La_law_147 : decode code 147 = .ok (.istore 6, 2) := by decide +kernel
theorem d_La_law_149 : decode code 149 = .ok (.aload_n 2, 1) := by decide +kernel
theorem d_La_law_150 : decode code 150 = .ok (.invokevirtual 78, 3) := by decide +kernel
theorem d_La_law_153 : decode code 153 = .ok (.iload 5, 2) := by decide +kernel
theorem d_La_law_155 : decode code 155 = .ok (.if_icmp .eq 5, 3) := by decide +kernel
theorem d_La_law_158 : decode code 158 = .ok (.iconst 0, 1) := by decide +kernel
theorem d_La_law_159 : decode code 159 = .ok (.ireturn, 1) := by decide +kernel
theorem d_La_law_160 : decode code 160 = .ok (.iload 5, 2) := by decide +kernel
theorem d_La_law_162 : decode code 162 = .ok (.ifCond .ne 15, 3) := by decide +kernel
theorem d_La_law_165 : decode code 165 = .ok (.aload_n 3, 1) := by decide +kernel
theorem d_La_law_166 : decode code 166 = .ok (.iconst 0, 1) := by decide +kernel
theorem d_La_law_167 : decode code 167 = .ok (.laload, 1) := by decide +kernel
theorem d_La_law_168 : decode code 168 = .ok (.iload 6, 2) := by decide +kernel
theorem d_La_law_170 : decode code 170 = .ok (.i2l, 1) := by decide +kernel
theorem d_La_law_171 : decode code 171 = .ok (.lcmp, 1) := by decide +kernel
theorem d_La_law_172 : decode code 172 = .ok (.ifCond .eq 5, 3) := by decide +kernel
theorem d_La_law_175 : decode code 175 = .ok (.iconst 0, 1) := by decide +kernel
theorem d_La_law_176 : decode code 176 = .ok (.ireturn, 1) := by decide +kernel
theorem d_La_law_177 : decode code 177 = .ok (.goto 1056, 3) := by decide +kernel
theorem d_La_law_180 : decode code 180 = .ok (.aload_n 1, 1) := by decide +kernel
theorem d_La_law_181 : decode code 181 = .ok (.aload_n 0, 1) := by decide +kernel
theorem d_La_law_182 : decode code 182 = .ok (.iload 4, 2) := by decide +kernel
theorem d_La_law_184 : decode code 184 = .ok (.iconst 1, 1) := by decide +kernel
theorem d_La_law_185 : decode code 185 = .ok (.iadd, 1) := by decide +kernel
theorem d_La_law_186 : decode code 186 = .ok (.iaload, 1) := by decide +kernel
theorem d_La_law_187 : decode code 187 = .ok (.aload_n 3, 1) := by decide +kernel
theorem d_La_law_188 : decode code 188 = .ok (.invokestatic 82, 3) := by decide +kernel
theorem d_La_law_191 : decode code 191 = .ok (.istore 5, 2) := by decide +kernel
theorem d_La_law_193 : decode code 193 = .ok (.aload_n 2, 1) := by decide +kernel
theorem d_La_law_194 : decode code 194 = .ok (.aload_n 0, 1) := by decide +kernel
theorem d_La_law_195 : decode code 195 = .ok (.iload 4, 2) := by decide +kernel
theorem d_La_law_197 : decode code 197 = .ok (.iconst 1, 1) := by decide +kernel
theorem d_La_law_198 : decode code 198 = .ok (.iadd, 1) := by decide +kernel
theorem d_La_law_199 : decode code 199 = .ok (.iaload, 1) := by decide +kernel
theorem d_La_law_200 : decode code 200 = .ok (.invokevirtual 84, 3) := by decide +kernel
theorem d_La_law_203 : decode code 203 = .ok (.istore 6, 2) := by decide +kernel
theorem d_La_law_205 : decode code 205 = .ok (.aload_n 2, 1) := by decide +kernel
theorem d_La_law_206 : decode code 206 = .ok (.invokevirtual 78, 3) := by decide +kernel
theorem d_La_law_209 : decode code 209 = .ok (.iload 5, 2) := by decide +kernel
theorem d_La_law_211 : decode code 211 = .ok (.if_icmp .eq 5, 3) := by decide +kernel
theorem d_La_law_214 : decode code 214 = .ok (.iconst 0, 1) := by decide +kernel
theorem d_La_law_215 : decode code 215 = .ok (.ireturn, 1) := by decide +kernel
theorem d_La_law_216 : decode code 216 = .ok (.iload 5, 2) := by decide +kernel
theorem d_La_law_218 : decode code 218 = .ok (.ifCond .ne 15, 3) := by decide +kernel
theorem d_La_law_221 : decode code 221 = .ok (.aload_n 3, 1) := by decide +kernel
theorem d_La_law_222 : decode code 222 = .ok (.iconst 0, 1) := by decide +kernel
theorem d_La_law_223 : decode code 223 = .ok (.laload, 1) := by decide +kernel
theorem d_La_law_224 : decode code 224 = .ok (.iload 6, 2) := by decide +kernel
theorem d_La_law_226 : decode code 226 = .ok (.i2l, 1) := by decide +kernel
theorem d_La_law_227 : decode code 227 = .ok (.lcmp, 1) := by decide +kernel
theorem d_La_law_228 : decode code 228 = .ok (.ifCond .eq 5, 3) := by decide +kernel
theorem d_La_law_231 : decode code 231 = .ok (.iconst 0, 1) := by decide +kernel
theorem d_La_law_232 : decode code 232 = .ok (.ireturn, 1) := by decide +kernel
theorem d_La_law_233 : decode code 233 = .ok (.goto 1000, 3) := by decide +kernel
theorem d_La_law_236 : decode code 236 = .ok (.aload_n 1, 1) := by decide +kernel
theorem d_La_law_237 : decode code 237 = .ok (.aload_n 0, 1) := by decide +kernel
theorem d_La_law_238 : decode code 238 = .ok (.iload 4, 2) := by decide +kernel
theorem d_La_law_240 : decode code 240 = .ok (.iconst 1, 1) := by decide +kernel
theorem d_La_law_241 : decode code 241 = .ok (.iadd, 1) := by decide +kernel
theorem d_La_law_242 : decode code 242 = .ok (.iaload, 1) := by decide +kernel
theorem d_La_law_243 : decode code 243 = .ok (.aload_n 0, 1) := by decide +kernel
theorem d_La_law_244 : decode code 244 = .ok (.iload 4, 2) := by decide +kernel
theorem d_La_law_246 : decode code 246 = .ok (.iconst 2, 1) := by decide +kernel
theorem d_La_law_247 : decode code 247 = .ok (.iadd, 1) := by decide +kernel
theorem d_La_law_248 : decode code 248 = .ok (.iaload, 1) := by decide +kernel
theorem d_La_law_249 : decode code 249 = .ok (.invokestatic 85, 3) := by decide +kernel
theorem d_La_law_252 : decode code 252 = .ok (.istore 5, 2) := by decide +kernel
theorem d_La_law_254 : decode code 254 = .ok (.aload_n 2, 1) := by decide +kernel
theorem d_La_law_255 : decode code 255 = .ok (.aload_n 0, 1) := by decide +kernel
theorem d_La_law_256 : decode code 256 = .ok (.iload 4, 2) := by decide +kernel
theorem d_La_law_258 : decode code 258 = .ok (.iconst 1, 1) := by decide +kernel
theorem d_La_law_259 : decode code 259 = .ok (.iadd, 1) := by decide +kernel
theorem d_La_law_260 : decode code 260 = .ok (.iaload, 1) := by decide +kernel
theorem d_La_law_261 : decode code 261 = .ok (.aload_n 0, 1) := by decide +kernel
theorem d_La_law_262 : decode code 262 = .ok (.iload 4, 2) := by decide +kernel
theorem d_La_law_264 : decode code 264 = .ok (.iconst 2, 1) := by decide +kernel
theorem d_La_law_265 : decode code 265 = .ok (.iadd, 1) := by decide +kernel
theorem d_La_law_266 : decode code 266 = .ok (.iaload, 1) := by decide +kernel
theorem d_La_law_267 : decode code 267 = .ok (.invokevirtual 88, 3) := by decide +kernel
theorem d_La_law_270 : decode code 270 = .ok (.aload_n 2, 1) := by decide +kernel
theorem d_La_law_271 : decode code 271 = .ok (.invokevirtual 78, 3) := by decide +kernel
theorem d_La_law_274 : decode code 274 = .ok (.iload 5, 2) := by decide +kernel
theorem d_La_law_276 : decode code 276 = .ok (.if_icmp .eq 5, 3) := by decide +kernel
theorem d_La_law_279 : decode code 279 = .ok (.iconst 0, 1) := by decide +kernel
theorem d_La_law_280 : decode code 280 = .ok (.ireturn, 1) := by decide +kernel
theorem d_La_law_281 : decode code 281 = .ok (.goto 952, 3) := by decide +kernel
theorem d_La_law_284 : decode code 284 = .ok (.aload_n 1, 1) := by decide +kernel
theorem d_La_law_285 : decode code 285 = .ok (.aload_n 0, 1) := by decide +kernel
theorem d_La_law_286 : decode code 286 = .ok (.iload 4, 2) := by decide +kernel
theorem d_La_law_288 : decode code 288 = .ok (.iconst 1, 1) := by decide +kernel
theorem d_La_law_289 : decode code 289 = .ok (.iadd, 1) := by decide +kernel
theorem d_La_law_290 : decode code 290 = .ok (.iaload, 1) := by decide +kernel
theorem d_La_law_291 : decode code 291 = .ok (.aload_n 0, 1) := by decide +kernel
theorem d_La_law_292 : decode code 292 = .ok (.iload 4, 2) := by decide +kernel
theorem d_La_law_294 : decode code 294 = .ok (.iconst 2, 1) := by decide +kernel
theorem d_La_law_295 : decode code 295 = .ok (.iadd, 1) := by decide +kernel
theorem d_La_law_296 : decode code 296 = .ok (.iaload, 1) := by decide +kernel
theorem d_La_law_297 : decode code 297 = .ok (.invokestatic 89, 3) := by decide +kernel
theorem d_La_law_300 : decode code 300 = .ok (.istore 5, 2) := by decide +kernel
theorem d_La_law_302 : decode code 302 = .ok (.aload_n 2, 1) := by decide +kernel
theorem d_La_law_303 : decode code 303 = .ok (.aload_n 0, 1) := by decide +kernel
theorem d_La_law_304 : decode code 304 = .ok (.iload 4, 2) := by decide +kernel
theorem d_La_law_306 : decode code 306 = .ok (.iconst 1, 1) := by decide +kernel
theorem d_La_law_307 : decode code 307 = .ok (.iadd, 1) := by decide +kernel
theorem d_La_law_308 : decode code 308 = .ok (.iaload, 1) := by decide +kernel
theorem d_La_law_309 : decode code 309 = .ok (.aload_n 0, 1) := by decide +kernel
theorem d_La_law_310 : decode code 310 = .ok (.iload 4, 2) := by decide +kernel
theorem d_La_law_312 : decode code 312 = .ok (.iconst 2, 1) := by decide +kernel
theorem d_La_law_313 : decode code 313 = .ok (.iadd, 1) := by decide +kernel
theorem d_La_law_314 : decode code 314 = .ok (.iaload, 1) := by decide +kernel
theorem d_La_law_315 : decode code 315 = .ok (.invokevirtual 91, 3) := by decide +kernel
theorem d_La_law_318 : decode code 318 = .ok (.aload_n 2, 1) := by decide +kernel
theorem d_La_law_319 : decode code 319 = .ok (.invokevirtual 78, 3) := by decide +kernel
theorem d_La_law_322 : decode code 322 = .ok (.iload 5, 2) := by decide +kernel
theorem d_La_law_324 : decode code 324 = .ok (.if_icmp .eq 5, 3) := by decide +kernel
theorem d_La_law_327 : decode code 327 = .ok (.iconst 0, 1) := by decide +kernel
theorem d_La_law_328 : decode code 328 = .ok (.ireturn, 1) := by decide +kernel
theorem d_La_law_329 : decode code 329 = .ok (.goto 904, 3) := by decide +kernel
theorem d_La_law_332 : decode code 332 = .ok (.aload_n 1, 1) := by decide +kernel
theorem d_La_law_333 : decode code 333 = .ok (.aload_n 0, 1) := by decide +kernel
theorem d_La_law_334 : decode code 334 = .ok (.iload 4, 2) := by decide +kernel
theorem d_La_law_336 : decode code 336 = .ok (.iconst 1, 1) := by decide +kernel
theorem d_La_law_337 : decode code 337 = .ok (.iadd, 1) := by decide +kernel
theorem d_La_law_338 : decode code 338 = .ok (.iaload, 1) := by decide +kernel
theorem d_La_law_339 : decode code 339 = .ok (.aload_n 3, 1) := by decide +kernel
theorem d_La_law_340 : decode code 340 = .ok (.invokestatic 92, 3) := by decide +kernel
theorem d_La_law_343 : decode code 343 = .ok (.istore 5, 2) := by decide +kernel
theorem d_La_law_345 : decode code 345 = .ok (.aload_n 2, 1) := by decide +kernel
theorem d_La_law_346 : decode code 346 = .ok (.aload_n 0, 1) := by decide +kernel
theorem d_La_law_347 : decode code 347 = .ok (.iload 4, 2) := by decide +kernel
theorem d_La_law_349 : decode code 349 = .ok (.iconst 1, 1) := by decide +kernel
theorem d_La_law_350 : decode code 350 = .ok (.iadd, 1) := by decide +kernel
theorem d_La_law_351 : decode code 351 = .ok (.iaload, 1) := by decide +kernel
theorem d_La_law_352 : decode code 352 = .ok (.invokevirtual 94, 3) := by decide +kernel
theorem d_La_law_355 : decode code 355 = .ok (.istore 6, 2) := by decide +kernel
theorem d_La_law_357 : decode code 357 = .ok (.aload_n 2, 1) := by decide +kernel
theorem d_La_law_358 : decode code 358 = .ok (.invokevirtual 78, 3) := by decide +kernel
theorem d_La_law_361 : decode code 361 = .ok (.iload 5, 2) := by decide +kernel
theorem d_La_law_363 : decode code 363 = .ok (.if_icmp .eq 5, 3) := by decide +kernel
theorem d_La_law_366 : decode code 366 = .ok (.iconst 0, 1) := by decide +kernel
theorem d_La_law_367 : decode code 367 = .ok (.ireturn, 1) := by decide +kernel
theorem d_La_law_368 : decode code 368 = .ok (.iload 5, 2) := by decide +kernel
theorem d_La_law_370 : decode code 370 = .ok (.ifCond .ne 15, 3) := by decide +kernel
theorem d_La_law_373 : decode code 373 = .ok (.aload_n 3, 1) := by decide +kernel
theorem d_La_law_374 : decode code 374 = .ok (.iconst 0, 1) := by decide +kernel
theorem d_La_law_375 : decode code 375 = .ok (.laload, 1) := by decide +kernel
theorem d_La_law_376 : decode code 376 = .ok (.iload 6, 2) := by decide +kernel
theorem d_La_law_378 : decode code 378 = .ok (.i2l, 1) := by decide +kernel
theorem d_La_law_379 : decode code 379 = .ok (.lcmp, 1) := by decide +kernel
theorem d_La_law_380 : decode code 380 = .ok (.ifCond .eq 5, 3) := by decide +kernel
theorem d_La_law_383 : decode code 383 = .ok (.iconst 0, 1) := by decide +kernel
theorem d_La_law_384 : decode code 384 = .ok (.ireturn, 1) := by decide +kernel
theorem d_La_law_385 : decode code 385 = .ok (.goto 848, 3) := by decide +kernel
theorem d_La_law_388 : decode code 388 = .ok (.aload_n 1, 1) := by decide +kernel
theorem d_La_law_389 : decode code 389 = .ok (.aload_n 0, 1) := by decide +kernel
theorem d_La_law_390 : decode code 390 = .ok (.iload 4, 2) := by decide +kernel
theorem d_La_law_392 : decode code 392 = .ok (.iconst 1, 1) := by decide +kernel
theorem d_La_law_393 : decode code 393 = .ok (.iadd, 1) := by decide +kernel
theorem d_La_law_394 : decode code 394 = .ok (.iaload, 1) := by decide +kernel
theorem d_La_law_395 : decode code 395 = .ok (.aload_n 0, 1) := by decide +kernel
theorem d_La_law_396 : decode code 396 = .ok (.iload 4, 2) := by decide +kernel
theorem d_La_law_398 : decode code 398 = .ok (.iconst 2, 1) := by decide +kernel
theorem d_La_law_399 : decode code 399 = .ok (.iadd, 1) := by decide +kernel
theorem d_La_law_400 : decode code 400 = .ok (.iaload, 1) := by decide +kernel
theorem d_La_law_401 : decode code 401 = .ok (.aload_n 0, 1) := by decide +kernel
theorem d_La_law_402 : decode code 402 = .ok (.iload 4, 2) := by decide +kernel
theorem d_La_law_404 : decode code 404 = .ok (.iconst 3, 1) := by decide +kernel
theorem d_La_law_405 : decode code 405 = .ok (.iadd, 1) := by decide +kernel
theorem d_La_law_406 : decode code 406 = .ok (.iaload, 1) := by decide +kernel
theorem d_La_law_407 : decode code 407 = .ok (.aload_n 3, 1) := by decide +kernel
theorem d_La_law_408 : decode code 408 = .ok (.invokestatic 95, 3) := by decide +kernel
theorem d_La_law_411 : decode code 411 = .ok (.istore 5, 2) := by decide +kernel
theorem d_La_law_413 : decode code 413 = .ok (.aload_n 2, 1) := by decide +kernel
theorem d_La_law_414 : decode code 414 = .ok (.aload_n 0, 1) := by decide +kernel
theorem d_La_law_415 : decode code 415 = .ok (.iload 4, 2) := by decide +kernel
theorem d_La_law_417 : decode code 417 = .ok (.iconst 1, 1) := by decide +kernel
theorem d_La_law_418 : decode code 418 = .ok (.iadd, 1) := by decide +kernel
theorem d_La_law_419 : decode code 419 = .ok (.iaload, 1) := by decide +kernel
theorem d_La_law_420 : decode code 420 = .ok (.aload_n 0, 1) := by decide +kernel
theorem d_La_law_421 : decode code 421 = .ok (.iload 4, 2) := by decide +kernel
theorem d_La_law_423 : decode code 423 = .ok (.iconst 2, 1) := by decide +kernel
theorem d_La_law_424 : decode code 424 = .ok (.iadd, 1) := by decide +kernel
theorem d_La_law_425 : decode code 425 = .ok (.iaload, 1) := by decide +kernel
theorem d_La_law_426 : decode code 426 = .ok (.aload_n 0, 1) := by decide +kernel
theorem d_La_law_427 : decode code 427 = .ok (.iload 4, 2) := by decide +kernel
theorem d_La_law_429 : decode code 429 = .ok (.iconst 3, 1) := by decide +kernel
theorem d_La_law_430 : decode code 430 = .ok (.iadd, 1) := by decide +kernel
theorem d_La_law_431 : decode code 431 = .ok (.iaload, 1) := by decide +kernel
theorem d_La_law_432 : decode code 432 = .ok (.invokevirtual 98, 3) := by decide +kernel
theorem d_La_law_435 : decode code 435 = .ok (.istore 6, 2) := by decide +kernel
theorem d_La_law_437 : decode code 437 = .ok (.aload_n 2, 1) := by decide +kernel
theorem d_La_law_438 : decode code 438 = .ok (.invokevirtual 78, 3) := by decide +kernel
theorem d_La_law_441 : decode code 441 = .ok (.iload 5, 2) := by decide +kernel
theorem d_La_law_443 : decode code 443 = .ok (.if_icmp .eq 5, 3) := by decide +kernel
theorem d_La_law_446 : decode code 446 = .ok (.iconst 0, 1) := by decide +kernel
theorem d_La_law_447 : decode code 447 = .ok (.ireturn, 1) := by decide +kernel
theorem d_La_law_448 : decode code 448 = .ok (.iload 5, 2) := by decide +kernel
theorem d_La_law_450 : decode code 450 = .ok (.ifCond .ne 15, 3) := by decide +kernel
theorem d_La_law_453 : decode code 453 = .ok (.aload_n 3, 1) := by decide +kernel
theorem d_La_law_454 : decode code 454 = .ok (.iconst 0, 1) := by decide +kernel
theorem d_La_law_455 : decode code 455 = .ok (.laload, 1) := by decide +kernel
theorem d_La_law_456 : decode code 456 = .ok (.iload 6, 2) := by decide +kernel
theorem d_La_law_458 : decode code 458 = .ok (.i2l, 1) := by decide +kernel
theorem d_La_law_459 : decode code 459 = .ok (.lcmp, 1) := by decide +kernel
theorem d_La_law_460 : decode code 460 = .ok (.ifCond .eq 5, 3) := by decide +kernel
theorem d_La_law_463 : decode code 463 = .ok (.iconst 0, 1) := by decide +kernel
theorem d_La_law_464 : decode code 464 = .ok (.ireturn, 1) := by decide +kernel
theorem d_La_law_465 : decode code 465 = .ok (.goto 768, 3) := by decide +kernel
theorem d_La_law_468 : decode code 468 = .ok (.aload_n 1, 1) := by decide +kernel
theorem d_La_law_469 : decode code 469 = .ok (.aload_n 0, 1) := by decide +kernel
theorem d_La_law_470 : decode code 470 = .ok (.iload 4, 2) := by decide +kernel
theorem d_La_law_472 : decode code 472 = .ok (.iconst 1, 1) := by decide +kernel
theorem d_La_law_473 : decode code 473 = .ok (.iadd, 1) := by decide +kernel
theorem d_La_law_474 : decode code 474 = .ok (.iaload, 1) := by decide +kernel
theorem d_La_law_475 : decode code 475 = .ok (.aload_n 0, 1) := by decide +kernel
theorem d_La_law_476 : decode code 476 = .ok (.iload 4, 2) := by decide +kernel
theorem d_La_law_478 : decode code 478 = .ok (.iconst 2, 1) := by decide +kernel
theorem d_La_law_479 : decode code 479 = .ok (.iadd, 1) := by decide +kernel
theorem d_La_law_480 : decode code 480 = .ok (.iaload, 1) := by decide +kernel
theorem d_La_law_481 : decode code 481 = .ok (.aload_n 0, 1) := by decide +kernel
theorem d_La_law_482 : decode code 482 = .ok (.iload 4, 2) := by decide +kernel
theorem d_La_law_484 : decode code 484 = .ok (.iconst 3, 1) := by decide +kernel
theorem d_La_law_485 : decode code 485 = .ok (.iadd, 1) := by decide +kernel
theorem d_La_law_486 : decode code 486 = .ok (.iaload, 1) := by decide +kernel
theorem d_La_law_487 : decode code 487 = .ok (.aload_n 0, 1) := by decide +kernel
theorem d_La_law_488 : decode code 488 = .ok (.iload 4, 2) := by decide +kernel
theorem d_La_law_490 : decode code 490 = .ok (.iconst 4, 1) := by decide +kernel
theorem d_La_law_491 : decode code 491 = .ok (.iadd, 1) := by decide +kernel
theorem d_La_law_492 : decode code 492 = .ok (.iaload, 1) := by decide +kernel
theorem d_La_law_493 : decode code 493 = .ok (.aload_n 0, 1) := by decide +kernel
theorem d_La_law_494 : decode code 494 = .ok (.iload 4, 2) := by decide +kernel
theorem d_La_law_496 : decode code 496 = .ok (.iconst 5, 1) := by decide +kernel
theorem d_La_law_497 : decode code 497 = .ok (.iadd, 1) := by decide +kernel
theorem d_La_law_498 : decode code 498 = .ok (.iaload, 1) := by decide +kernel
theorem d_La_law_499 : decode code 499 = .ok (.aload_n 3, 1) := by decide +kernel
theorem d_La_law_500 : decode code 500 = .ok (.invokestatic 99, 3) := by decide +kernel
theorem d_La_law_503 : decode code 503 = .ok (.istore 5, 2) := by decide +kernel
theorem d_La_law_505 : decode code 505 = .ok (.aload_n 2, 1) := by decide +kernel
theorem d_La_law_506 : decode code 506 = .ok (.aload_n 0, 1) := by decide +kernel
theorem d_La_law_507 : decode code 507 = .ok (.iload 4, 2) := by decide +kernel
theorem d_La_law_509 : decode code 509 = .ok (.iconst 1, 1) := by decide +kernel
theorem d_La_law_510 : decode code 510 = .ok (.iadd, 1) := by decide +kernel
theorem d_La_law_511 : decode code 511 = .ok (.iaload, 1) := by decide +kernel
theorem d_La_law_512 : decode code 512 = .ok (.aload_n 0, 1) := by decide +kernel
theorem d_La_law_513 : decode code 513 = .ok (.iload 4, 2) := by decide +kernel
theorem d_La_law_515 : decode code 515 = .ok (.iconst 2, 1) := by decide +kernel
theorem d_La_law_516 : decode code 516 = .ok (.iadd, 1) := by decide +kernel
theorem d_La_law_517 : decode code 517 = .ok (.iaload, 1) := by decide +kernel
theorem d_La_law_518 : decode code 518 = .ok (.aload_n 0, 1) := by decide +kernel
theorem d_La_law_519 : decode code 519 = .ok (.iload 4, 2) := by decide +kernel
theorem d_La_law_521 : decode code 521 = .ok (.iconst 3, 1) := by decide +kernel
theorem d_La_law_522 : decode code 522 = .ok (.iadd, 1) := by decide +kernel
theorem d_La_law_523 : decode code 523 = .ok (.iaload, 1) := by decide +kernel
theorem d_La_law_524 : decode code 524 = .ok (.aload_n 0, 1) := by decide +kernel
theorem d_La_law_525 : decode code 525 = .ok (.iload 4, 2) := by decide +kernel
theorem d_La_law_527 : decode code 527 = .ok (.iconst 4, 1) := by decide +kernel
theorem d_La_law_528 : decode code 528 = .ok (.iadd, 1) := by decide +kernel
theorem d_La_law_529 : decode code 529 = .ok (.iaload, 1) := by decide +kernel
theorem d_La_law_530 : decode code 530 = .ok (.aload_n 0, 1) := by decide +kernel
theorem d_La_law_531 : decode code 531 = .ok (.iload 4, 2) := by decide +kernel
theorem d_La_law_533 : decode code 533 = .ok (.iconst 5, 1) := by decide +kernel
theorem d_La_law_534 : decode code 534 = .ok (.iadd, 1) := by decide +kernel
theorem d_La_law_535 : decode code 535 = .ok (.iaload, 1) := by decide +kernel
theorem d_La_law_536 : decode code 536 = .ok (.invokevirtual 102, 3) := by decide +kernel
theorem d_La_law_539 : decode code 539 = .ok (.istore 6, 2) := by decide +kernel
theorem d_La_law_541 : decode code 541 = .ok (.aload_n 2, 1) := by decide +kernel
theorem d_La_law_542 : decode code 542 = .ok (.invokevirtual 78, 3) := by decide +kernel
theorem d_La_law_545 : decode code 545 = .ok (.iload 5, 2) := by decide +kernel
theorem d_La_law_547 : decode code 547 = .ok (.if_icmp .eq 5, 3) := by decide +kernel
theorem d_La_law_550 : decode code 550 = .ok (.iconst 0, 1) := by decide +kernel
theorem d_La_law_551 : decode code 551 = .ok (.ireturn, 1) := by decide +kernel
theorem d_La_law_552 : decode code 552 = .ok (.iload 5, 2) := by decide +kernel
theorem d_La_law_554 : decode code 554 = .ok (.ifCond .ne 15, 3) := by decide +kernel
theorem d_La_law_557 : decode code 557 = .ok (.aload_n 3, 1) := by decide +kernel
theorem d_La_law_558 : decode code 558 = .ok (.iconst 0, 1) := by decide +kernel
theorem d_La_law_559 : decode code 559 = .ok (.laload, 1) := by decide +kernel
theorem d_La_law_560 : decode code 560 = .ok (.iload 6, 2) := by decide +kernel
theorem d_La_law_562 : decode code 562 = .ok (.i2l, 1) := by decide +kernel
theorem d_La_law_563 : decode code 563 = .ok (.lcmp, 1) := by decide +kernel
theorem d_La_law_564 : decode code 564 = .ok (.ifCond .eq 5, 3) := by decide +kernel
theorem d_La_law_567 : decode code 567 = .ok (.iconst 0, 1) := by decide +kernel
theorem d_La_law_568 : decode code 568 = .ok (.ireturn, 1) := by decide +kernel
theorem d_La_law_569 : decode code 569 = .ok (.goto 664, 3) := by decide +kernel
theorem d_La_law_572 : decode code 572 = .ok (.aload_n 1, 1) := by decide +kernel
theorem d_La_law_573 : decode code 573 = .ok (.aload_n 0, 1) := by decide +kernel
theorem d_La_law_574 : decode code 574 = .ok (.iload 4, 2) := by decide +kernel
theorem d_La_law_576 : decode code 576 = .ok (.iconst 1, 1) := by decide +kernel
theorem d_La_law_577 : decode code 577 = .ok (.iadd, 1) := by decide +kernel
theorem d_La_law_578 : decode code 578 = .ok (.iaload, 1) := by decide +kernel
theorem d_La_law_579 : decode code 579 = .ok (.aload_n 0, 1) := by decide +kernel
theorem d_La_law_580 : decode code 580 = .ok (.iload 4, 2) := by decide +kernel
theorem d_La_law_582 : decode code 582 = .ok (.iconst 2, 1) := by decide +kernel
theorem d_La_law_583 : decode code 583 = .ok (.iadd, 1) := by decide +kernel
theorem d_La_law_584 : decode code 584 = .ok (.iaload, 1) := by decide +kernel
theorem d_La_law_585 : decode code 585 = .ok (.aload_n 0, 1) := by decide +kernel
theorem d_La_law_586 : decode code 586 = .ok (.iload 4, 2) := by decide +kernel
theorem d_La_law_588 : decode code 588 = .ok (.iconst 3, 1) := by decide +kernel
theorem d_La_law_589 : decode code 589 = .ok (.iadd, 1) := by decide +kernel
theorem d_La_law_590 : decode code 590 = .ok (.iaload, 1) := by decide +kernel
theorem d_La_law_591 : decode code 591 = .ok (.aload_n 0, 1) := by decide +kernel
theorem d_La_law_592 : decode code 592 = .ok (.iload 4, 2) := by decide +kernel
theorem d_La_law_594 : decode code 594 = .ok (.iconst 4, 1) := by decide +kernel
theorem d_La_law_595 : decode code 595 = .ok (.iadd, 1) := by decide +kernel
theorem d_La_law_596 : decode code 596 = .ok (.iaload, 1) := by decide +kernel
theorem d_La_law_597 : decode code 597 = .ok (.aload_n 0, 1) := by decide +kernel
theorem d_La_law_598 : decode code 598 = .ok (.iload 4, 2) := by decide +kernel
theorem d_La_law_600 : decode code 600 = .ok (.iconst 5, 1) := by decide +kernel
theorem d_La_law_601 : decode code 601 = .ok (.iadd, 1) := by decide +kernel
theorem d_La_law_602 : decode code 602 = .ok (.iaload, 1) := by decide +kernel
theorem d_La_law_603 : decode code 603 = .ok (.aload_n 3, 1) := by decide +kernel
theorem d_La_law_604 : decode code 604 = .ok (.invokestatic 103, 3) := by decide +kernel
theorem d_La_law_607 : decode code 607 = .ok (.istore 5, 2) := by decide +kernel
theorem d_La_law_609 : decode code 609 = .ok (.aload_n 2, 1) := by decide +kernel
theorem d_La_law_610 : decode code 610 = .ok (.aload_n 0, 1) := by decide +kernel
theorem d_La_law_611 : decode code 611 = .ok (.iload 4, 2) := by decide +kernel
theorem d_La_law_613 : decode code 613 = .ok (.iconst 1, 1) := by decide +kernel
theorem d_La_law_614 : decode code 614 = .ok (.iadd, 1) := by decide +kernel
theorem d_La_law_615 : decode code 615 = .ok (.iaload, 1) := by decide +kernel
theorem d_La_law_616 : decode code 616 = .ok (.aload_n 0, 1) := by decide +kernel
theorem d_La_law_617 : decode code 617 = .ok (.iload 4, 2) := by decide +kernel
theorem d_La_law_619 : decode code 619 = .ok (.iconst 2, 1) := by decide +kernel
theorem d_La_law_620 : decode code 620 = .ok (.iadd, 1) := by decide +kernel
theorem d_La_law_621 : decode code 621 = .ok (.iaload, 1) := by decide +kernel
theorem d_La_law_622 : decode code 622 = .ok (.aload_n 0, 1) := by decide +kernel
theorem d_La_law_623 : decode code 623 = .ok (.iload 4, 2) := by decide +kernel
theorem d_La_law_625 : decode code 625 = .ok (.iconst 3, 1) := by decide +kernel
theorem d_La_law_626 : decode code 626 = .ok (.iadd, 1) := by decide +kernel
theorem d_La_law_627 : decode code 627 = .ok (.iaload, 1) := by decide +kernel
theorem d_La_law_628 : decode code 628 = .ok (.aload_n 0, 1) := by decide +kernel
theorem d_La_law_629 : decode code 629 = .ok (.iload 4, 2) := by decide +kernel
theorem d_La_law_631 : decode code 631 = .ok (.iconst 4, 1) := by decide +kernel
theorem d_La_law_632 : decode code 632 = .ok (.iadd, 1) := by decide +kernel
theorem d_La_law_633 : decode code 633 = .ok (.iaload, 1) := by decide +kernel
theorem d_La_law_634 : decode code 634 = .ok (.aload_n 0, 1) := by decide +kernel
theorem d_La_law_635 : decode code 635 = .ok (.iload 4, 2) := by decide +kernel
theorem d_La_law_637 : decode code 637 = .ok (.iconst 5, 1) := by decide +kernel
theorem d_La_law_638 : decode code 638 = .ok (.iadd, 1) := by decide +kernel
theorem d_La_law_639 : decode code 639 = .ok (.iaload, 1) := by decide +kernel
theorem d_La_law_640 : decode code 640 = .ok (.invokevirtual 105, 3) := by decide +kernel
theorem d_La_law_643 : decode code 643 = .ok (.istore 6, 2) := by decide +kernel
theorem d_La_law_645 : decode code 645 = .ok (.aload_n 2, 1) := by decide +kernel
theorem d_La_law_646 : decode code 646 = .ok (.invokevirtual 78, 3) := by decide +kernel
theorem d_La_law_649 : decode code 649 = .ok (.iload 5, 2) := by decide +kernel
theorem d_La_law_651 : decode code 651 = .ok (.if_icmp .eq 5, 3) := by decide +kernel
theorem d_La_law_654 : decode code 654 = .ok (.iconst 0, 1) := by decide +kernel
theorem d_La_law_655 : decode code 655 = .ok (.ireturn, 1) := by decide +kernel
theorem d_La_law_656 : decode code 656 = .ok (.iload 5, 2) := by decide +kernel
theorem d_La_law_658 : decode code 658 = .ok (.ifCond .ne 15, 3) := by decide +kernel
theorem d_La_law_661 : decode code 661 = .ok (.aload_n 3, 1) := by decide +kernel
theorem d_La_law_662 : decode code 662 = .ok (.iconst 0, 1) := by decide +kernel
theorem d_La_law_663 : decode code 663 = .ok (.laload, 1) := by decide +kernel
theorem d_La_law_664 : decode code 664 = .ok (.iload 6, 2) := by decide +kernel
theorem d_La_law_666 : decode code 666 = .ok (.i2l, 1) := by decide +kernel
theorem d_La_law_667 : decode code 667 = .ok (.lcmp, 1) := by decide +kernel
theorem d_La_law_668 : decode code 668 = .ok (.ifCond .eq 5, 3) := by decide +kernel
theorem d_La_law_671 : decode code 671 = .ok (.iconst 0, 1) := by decide +kernel
theorem d_La_law_672 : decode code 672 = .ok (.ireturn, 1) := by decide +kernel
theorem d_La_law_673 : decode code 673 = .ok (.goto 560, 3) := by decide +kernel
theorem d_La_law_676 : decode code 676 = .ok (.aload_n 1, 1) := by decide +kernel
theorem d_La_law_677 : decode code 677 = .ok (.aload_n 0, 1) := by decide +kernel
theorem d_La_law_678 : decode code 678 = .ok (.iload 4, 2) := by decide +kernel
theorem d_La_law_680 : decode code 680 = .ok (.iconst 1, 1) := by decide +kernel
theorem d_La_law_681 : decode code 681 = .ok (.iadd, 1) := by decide +kernel
theorem d_La_law_682 : decode code 682 = .ok (.iaload, 1) := by decide +kernel
theorem d_La_law_683 : decode code 683 = .ok (.aload_n 0, 1) := by decide +kernel
theorem d_La_law_684 : decode code 684 = .ok (.iload 4, 2) := by decide +kernel
theorem d_La_law_686 : decode code 686 = .ok (.iconst 2, 1) := by decide +kernel
theorem d_La_law_687 : decode code 687 = .ok (.iadd, 1) := by decide +kernel
theorem d_La_law_688 : decode code 688 = .ok (.iaload, 1) := by decide +kernel
theorem d_La_law_689 : decode code 689 = .ok (.aload_n 3, 1) := by decide +kernel
theorem d_La_law_690 : decode code 690 = .ok (.invokestatic 106, 3) := by decide +kernel
theorem d_La_law_693 : decode code 693 = .ok (.istore 5, 2) := by decide +kernel
theorem d_La_law_695 : decode code 695 = .ok (.aload_n 2, 1) := by decide +kernel
theorem d_La_law_696 : decode code 696 = .ok (.aload_n 0, 1) := by decide +kernel
theorem d_La_law_697 : decode code 697 = .ok (.iload 4, 2) := by decide +kernel
theorem d_La_law_699 : decode code 699 = .ok (.iconst 1, 1) := by decide +kernel
theorem d_La_law_700 : decode code 700 = .ok (.iadd, 1) := by decide +kernel
theorem d_La_law_701 : decode code 701 = .ok (.iaload, 1) := by decide +kernel
theorem d_La_law_702 : decode code 702 = .ok (.aload_n 0, 1) := by decide +kernel
theorem d_La_law_703 : decode code 703 = .ok (.iload 4, 2) := by decide +kernel
theorem d_La_law_705 : decode code 705 = .ok (.iconst 2, 1) := by decide +kernel
theorem d_La_law_706 : decode code 706 = .ok (.iadd, 1) := by decide +kernel
theorem d_La_law_707 : decode code 707 = .ok (.iaload, 1) := by decide +kernel
theorem d_La_law_708 : decode code 708 = .ok (.invokevirtual 109, 3) := by decide +kernel
theorem d_La_law_711 : decode code 711 = .ok (.istore 6, 2) := by decide +kernel
theorem d_La_law_713 : decode code 713 = .ok (.aload_n 2, 1) := by decide +kernel
theorem d_La_law_714 : decode code 714 = .ok (.invokevirtual 78, 3) := by decide +kernel
theorem d_La_law_717 : decode code 717 = .ok (.iload 5, 2) := by decide +kernel
theorem d_La_law_719 : decode code 719 = .ok (.if_icmp .eq 5, 3) := by decide +kernel
theorem d_La_law_722 : decode code 722 = .ok (.iconst 0, 1) := by decide +kernel
theorem d_La_law_723 : decode code 723 = .ok (.ireturn, 1) := by decide +kernel
theorem d_La_law_724 : decode code 724 = .ok (.iload 5, 2) := by decide +kernel
theorem d_La_law_726 : decode code 726 = .ok (.ifCond .ne 15, 3) := by decide +kernel
theorem d_La_law_729 : decode code 729 = .ok (.aload_n 3, 1) := by decide +kernel
theorem d_La_law_730 : decode code 730 = .ok (.iconst 0, 1) := by decide +kernel
theorem d_La_law_731 : decode code 731 = .ok (.laload, 1) := by decide +kernel
theorem d_La_law_732 : decode code 732 = .ok (.iload 6, 2) := by decide +kernel
theorem d_La_law_734 : decode code 734 = .ok (.i2l, 1) := by decide +kernel
theorem d_La_law_735 : decode code 735 = .ok (.lcmp, 1) := by decide +kernel
theorem d_La_law_736 : decode code 736 = .ok (.ifCond .eq 5, 3) := by decide +kernel
theorem d_La_law_739 : decode code 739 = .ok (.iconst 0, 1) := by decide +kernel
theorem d_La_law_740 : decode code 740 = .ok (.ireturn, 1) := by decide +kernel
theorem d_La_law_741 : decode code 741 = .ok (.goto 492, 3) := by decide +kernel
theorem d_La_law_744 : decode code 744 = .ok (.aload_n 1, 1) := by decide +kernel
theorem d_La_law_745 : decode code 745 = .ok (.aload_n 0, 1) := by decide +kernel
theorem d_La_law_746 : decode code 746 = .ok (.iload 4, 2) := by decide +kernel
theorem d_La_law_748 : decode code 748 = .ok (.iconst 1, 1) := by decide +kernel
theorem d_La_law_749 : decode code 749 = .ok (.iadd, 1) := by decide +kernel
theorem d_La_law_750 : decode code 750 = .ok (.iaload, 1) := by decide +kernel
theorem d_La_law_751 : decode code 751 = .ok (.aload_n 0, 1) := by decide +kernel
theorem d_La_law_752 : decode code 752 = .ok (.iload 4, 2) := by decide +kernel
theorem d_La_law_754 : decode code 754 = .ok (.iconst 2, 1) := by decide +kernel
theorem d_La_law_755 : decode code 755 = .ok (.iadd, 1) := by decide +kernel
theorem d_La_law_756 : decode code 756 = .ok (.iaload, 1) := by decide +kernel
theorem d_La_law_757 : decode code 757 = .ok (.aload_n 3, 1) := by decide +kernel
theorem d_La_law_758 : decode code 758 = .ok (.invokestatic 110, 3) := by decide +kernel
theorem d_La_law_761 : decode code 761 = .ok (.istore 5, 2) := by decide +kernel
theorem d_La_law_763 : decode code 763 = .ok (.aload_n 2, 1) := by decide +kernel
theorem d_La_law_764 : decode code 764 = .ok (.aload_n 0, 1) := by decide +kernel
theorem d_La_law_765 : decode code 765 = .ok (.iload 4, 2) := by decide +kernel
theorem d_La_law_767 : decode code 767 = .ok (.iconst 1, 1) := by decide +kernel
theorem d_La_law_768 : decode code 768 = .ok (.iadd, 1) := by decide +kernel
theorem d_La_law_769 : decode code 769 = .ok (.iaload, 1) := by decide +kernel
theorem d_La_law_770 : decode code 770 = .ok (.aload_n 0, 1) := by decide +kernel
theorem d_La_law_771 : decode code 771 = .ok (.iload 4, 2) := by decide +kernel
theorem d_La_law_773 : decode code 773 = .ok (.iconst 2, 1) := by decide +kernel
theorem d_La_law_774 : decode code 774 = .ok (.iadd, 1) := by decide +kernel
theorem d_La_law_775 : decode code 775 = .ok (.iaload, 1) := by decide +kernel
theorem d_La_law_776 : decode code 776 = .ok (.invokevirtual 112, 3) := by decide +kernel
theorem d_La_law_779 : decode code 779 = .ok (.istore 6, 2) := by decide +kernel
theorem d_La_law_781 : decode code 781 = .ok (.aload_n 2, 1) := by decide +kernel
theorem d_La_law_782 : decode code 782 = .ok (.invokevirtual 78, 3) := by decide +kernel
theorem d_La_law_785 : decode code 785 = .ok (.iload 5, 2) := by decide +kernel
theorem d_La_law_787 : decode code 787 = .ok (.if_icmp .eq 5, 3) := by decide +kernel
theorem d_La_law_790 : decode code 790 = .ok (.iconst 0, 1) := by decide +kernel
theorem d_La_law_791 : decode code 791 = .ok (.ireturn, 1) := by decide +kernel
theorem d_La_law_792 : decode code 792 = .ok (.iload 5, 2) := by decide +kernel
theorem d_La_law_794 : decode code 794 = .ok (.ifCond .ne 15, 3) := by decide +kernel
theorem d_La_law_797 : decode code 797 = .ok (.aload_n 3, 1) := by decide +kernel
theorem d_La_law_798 : decode code 798 = .ok (.iconst 0, 1) := by decide +kernel
theorem d_La_law_799 : decode code 799 = .ok (.laload, 1) := by decide +kernel
theorem d_La_law_800 : decode code 800 = .ok (.iload 6, 2) := by decide +kernel
theorem d_La_law_802 : decode code 802 = .ok (.i2l, 1) := by decide +kernel
theorem d_La_law_803 : decode code 803 = .ok (.lcmp, 1) := by decide +kernel
theorem d_La_law_804 : decode code 804 = .ok (.ifCond .eq 5, 3) := by decide +kernel
theorem d_La_law_807 : decode code 807 = .ok (.iconst 0, 1) := by decide +kernel
theorem d_La_law_808 : decode code 808 = .ok (.ireturn, 1) := by decide +kernel
theorem d_La_law_809 : decode code 809 = .ok (.goto 424, 3) := by decide +kernel
theorem d_La_law_812 : decode code 812 = .ok (.aload_n 1, 1) := by decide +kernel
theorem d_La_law_813 : decode code 813 = .ok (.aload_n 0, 1) := by decide +kernel
theorem d_La_law_814 : decode code 814 = .ok (.iload 4, 2) := by decide +kernel
theorem d_La_law_816 : decode code 816 = .ok (.iconst 1, 1) := by decide +kernel
theorem d_La_law_817 : decode code 817 = .ok (.iadd, 1) := by decide +kernel
theorem d_La_law_818 : decode code 818 = .ok (.iaload, 1) := by decide +kernel
theorem d_La_law_819 : decode code 819 = .ok (.aload_n 3, 1) := by decide +kernel
theorem d_La_law_820 : decode code 820 = .ok (.invokestatic 113, 3) := by decide +kernel
theorem d_La_law_823 : decode code 823 = .ok (.istore 5, 2) := by decide +kernel
theorem d_La_law_825 : decode code 825 = .ok (.aload_n 2, 1) := by decide +kernel
theorem d_La_law_826 : decode code 826 = .ok (.aload_n 0, 1) := by decide +kernel
theorem d_La_law_827 : decode code 827 = .ok (.iload 4, 2) := by decide +kernel
theorem d_La_law_829 : decode code 829 = .ok (.iconst 1, 1) := by decide +kernel
theorem d_La_law_830 : decode code 830 = .ok (.iadd, 1) := by decide +kernel
theorem d_La_law_831 : decode code 831 = .ok (.iaload, 1) := by decide +kernel
theorem d_La_law_832 : decode code 832 = .ok (.invokevirtual 115, 3) := by decide +kernel
theorem d_La_law_835 : decode code 835 = .ok (.istore 6, 2) := by decide +kernel
theorem d_La_law_837 : decode code 837 = .ok (.aload_n 2, 1) := by decide +kernel
theorem d_La_law_838 : decode code 838 = .ok (.invokevirtual 78, 3) := by decide +kernel
theorem d_La_law_841 : decode code 841 = .ok (.iload 5, 2) := by decide +kernel
theorem d_La_law_843 : decode code 843 = .ok (.if_icmp .eq 5, 3) := by decide +kernel
theorem d_La_law_846 : decode code 846 = .ok (.iconst 0, 1) := by decide +kernel
theorem d_La_law_847 : decode code 847 = .ok (.ireturn, 1) := by decide +kernel
theorem d_La_law_848 : decode code 848 = .ok (.iload 5, 2) := by decide +kernel
theorem d_La_law_850 : decode code 850 = .ok (.ifCond .ne 15, 3) := by decide +kernel
theorem d_La_law_853 : decode code 853 = .ok (.aload_n 3, 1) := by decide +kernel
theorem d_La_law_854 : decode code 854 = .ok (.iconst 0, 1) := by decide +kernel
theorem d_La_law_855 : decode code 855 = .ok (.laload, 1) := by decide +kernel
theorem d_La_law_856 : decode code 856 = .ok (.iload 6, 2) := by decide +kernel
theorem d_La_law_858 : decode code 858 = .ok (.i2l, 1) := by decide +kernel
theorem d_La_law_859 : decode code 859 = .ok (.lcmp, 1) := by decide +kernel
theorem d_La_law_860 : decode code 860 = .ok (.ifCond .eq 5, 3) := by decide +kernel
theorem d_La_law_863 : decode code 863 = .ok (.iconst 0, 1) := by decide +kernel
theorem d_La_law_864 : decode code 864 = .ok (.ireturn, 1) := by decide +kernel
theorem d_La_law_865 : decode code 865 = .ok (.goto 368, 3) := by decide +kernel
theorem d_La_law_868 : decode code 868 = .ok (.aload_n 1, 1) := by decide +kernel
theorem d_La_law_869 : decode code 869 = .ok (.invokevirtual 116, 3) := by decide +kernel
theorem d_La_law_872 : decode code 872 = .ok (.aload_n 2, 1) := by decide +kernel
theorem d_La_law_873 : decode code 873 = .ok (.invokevirtual 119, 3) := by decide +kernel
theorem d_La_law_876 : decode code 876 = .ok (.if_icmp .eq 357, 3) := by decide +kernel
theorem d_La_law_879 : decode code 879 = .ok (.iconst 0, 1) := by decide +kernel
theorem d_La_law_880 : decode code 880 = .ok (.ireturn, 1) := by decide +kernel
theorem d_La_law_881 : decode code 881 = .ok (.aload_n 1, 1) := by decide +kernel
theorem d_La_law_882 : decode code 882 = .ok (.aload_n 0, 1) := by decide +kernel
theorem d_La_law_883 : decode code 883 = .ok (.iload 4, 2) := by decide +kernel
theorem d_La_law_885 : decode code 885 = .ok (.iconst 1, 1) := by decide +kernel
theorem d_La_law_886 : decode code 886 = .ok (.iadd, 1) := by decide +kernel
theorem d_La_law_887 : decode code 887 = .ok (.iaload, 1) := by decide +kernel
theorem d_La_law_888 : decode code 888 = .ok (.aload_n 3, 1) := by decide +kernel
theorem d_La_law_889 : decode code 889 = .ok (.invokestatic 120, 3) := by decide +kernel
theorem d_La_law_892 : decode code 892 = .ok (.istore 5, 2) := by decide +kernel
theorem d_La_law_894 : decode code 894 = .ok (.aload_n 2, 1) := by decide +kernel
theorem d_La_law_895 : decode code 895 = .ok (.aload_n 0, 1) := by decide +kernel
theorem d_La_law_896 : decode code 896 = .ok (.iload 4, 2) := by decide +kernel
theorem d_La_law_898 : decode code 898 = .ok (.iconst 1, 1) := by decide +kernel
theorem d_La_law_899 : decode code 899 = .ok (.iadd, 1) := by decide +kernel
theorem d_La_law_900 : decode code 900 = .ok (.iaload, 1) := by decide +kernel
theorem d_La_law_901 : decode code 901 = .ok (.invokevirtual 122, 3) := by decide +kernel
theorem d_La_law_904 : decode code 904 = .ok (.istore 6, 2) := by decide +kernel
theorem d_La_law_906 : decode code 906 = .ok (.aload_n 2, 1) := by decide +kernel
theorem d_La_law_907 : decode code 907 = .ok (.invokevirtual 78, 3) := by decide +kernel
theorem d_La_law_910 : decode code 910 = .ok (.iload 5, 2) := by decide +kernel
theorem d_La_law_912 : decode code 912 = .ok (.if_icmp .eq 5, 3) := by decide +kernel
theorem d_La_law_915 : decode code 915 = .ok (.iconst 0, 1) := by decide +kernel
theorem d_La_law_916 : decode code 916 = .ok (.ireturn, 1) := by decide +kernel
theorem d_La_law_917 : decode code 917 = .ok (.iload 5, 2) := by decide +kernel
theorem d_La_law_919 : decode code 919 = .ok (.ifCond .ne 15, 3) := by decide +kernel
theorem d_La_law_922 : decode code 922 = .ok (.aload_n 3, 1) := by decide +kernel
theorem d_La_law_923 : decode code 923 = .ok (.iconst 0, 1) := by decide +kernel
theorem d_La_law_924 : decode code 924 = .ok (.laload, 1) := by decide +kernel
theorem d_La_law_925 : decode code 925 = .ok (.iload 6, 2) := by decide +kernel
theorem d_La_law_927 : decode code 927 = .ok (.i2l, 1) := by decide +kernel
theorem d_La_law_928 : decode code 928 = .ok (.lcmp, 1) := by decide +kernel
theorem d_La_law_929 : decode code 929 = .ok (.ifCond .eq 5, 3) := by decide +kernel
theorem d_La_law_932 : decode code 932 = .ok (.iconst 0, 1) := by decide +kernel
theorem d_La_law_933 : decode code 933 = .ok (.ireturn, 1) := by decide +kernel
theorem d_La_law_934 : decode code 934 = .ok (.goto 299, 3) := by decide +kernel
theorem d_La_law_937 : decode code 937 = .ok (.aload_n 1, 1) := by decide +kernel
theorem d_La_law_938 : decode code 938 = .ok (.aload_n 0, 1) := by decide +kernel
theorem d_La_law_939 : decode code 939 = .ok (.iload 4, 2) := by decide +kernel
theorem d_La_law_941 : decode code 941 = .ok (.iconst 1, 1) := by decide +kernel
theorem d_La_law_942 : decode code 942 = .ok (.iadd, 1) := by decide +kernel
theorem d_La_law_943 : decode code 943 = .ok (.iaload, 1) := by decide +kernel
theorem d_La_law_944 : decode code 944 = .ok (.aload_n 0, 1) := by decide +kernel
theorem d_La_law_945 : decode code 945 = .ok (.iload 4, 2) := by decide +kernel
theorem d_La_law_947 : decode code 947 = .ok (.iconst 2, 1) := by decide +kernel
theorem d_La_law_948 : decode code 948 = .ok (.iadd, 1) := by decide +kernel
theorem d_La_law_949 : decode code 949 = .ok (.iaload, 1) := by decide +kernel
theorem d_La_law_950 : decode code 950 = .ok (.aload_n 3, 1) := by decide +kernel
theorem d_La_law_951 : decode code 951 = .ok (.invokestatic 123, 3) := by decide +kernel
theorem d_La_law_954 : decode code 954 = .ok (.istore 5, 2) := by decide +kernel
theorem d_La_law_956 : decode code 956 = .ok (.aload_n 2, 1) := by decide +kernel
theorem d_La_law_957 : decode code 957 = .ok (.aload_n 0, 1) := by decide +kernel
theorem d_La_law_958 : decode code 958 = .ok (.iload 4, 2) := by decide +kernel
theorem d_La_law_960 : decode code 960 = .ok (.iconst 1, 1) := by decide +kernel
theorem d_La_law_961 : decode code 961 = .ok (.iadd, 1) := by decide +kernel
theorem d_La_law_962 : decode code 962 = .ok (.iaload, 1) := by decide +kernel
theorem d_La_law_963 : decode code 963 = .ok (.aload_n 0, 1) := by decide +kernel
theorem d_La_law_964 : decode code 964 = .ok (.iload 4, 2) := by decide +kernel
theorem d_La_law_966 : decode code 966 = .ok (.iconst 2, 1) := by decide +kernel
theorem d_La_law_967 : decode code 967 = .ok (.iadd, 1) := by decide +kernel
theorem d_La_law_968 : decode code 968 = .ok (.iaload, 1) := by decide +kernel
theorem d_La_law_969 : decode code 969 = .ok (.invokevirtual 125, 3) := by decide +kernel
theorem d_La_law_972 : decode code 972 = .ok (.istore 6, 2) := by decide +kernel
theorem d_La_law_974 : decode code 974 = .ok (.aload_n 2, 1) := by decide +kernel
theorem d_La_law_975 : decode code 975 = .ok (.invokevirtual 78, 3) := by decide +kernel
theorem d_La_law_978 : decode code 978 = .ok (.iload 5, 2) := by decide +kernel
theorem d_La_law_980 : decode code 980 = .ok (.if_icmp .eq 5, 3) := by decide +kernel
theorem d_La_law_983 : decode code 983 = .ok (.iconst 0, 1) := by decide +kernel
theorem d_La_law_984 : decode code 984 = .ok (.ireturn, 1) := by decide +kernel
theorem d_La_law_985 : decode code 985 = .ok (.iload 5, 2) := by decide +kernel
theorem d_La_law_987 : decode code 987 = .ok (.ifCond .ne 15, 3) := by decide +kernel
theorem d_La_law_990 : decode code 990 = .ok (.aload_n 3, 1) := by decide +kernel
theorem d_La_law_991 : decode code 991 = .ok (.iconst 0, 1) := by decide +kernel
theorem d_La_law_992 : decode code 992 = .ok (.laload, 1) := by decide +kernel
theorem d_La_law_993 : decode code 993 = .ok (.iload 6, 2) := by decide +kernel
theorem d_La_law_995 : decode code 995 = .ok (.i2l, 1) := by decide +kernel
theorem d_La_law_996 : decode code 996 = .ok (.lcmp, 1) := by decide +kernel
theorem d_La_law_997 : decode code 997 = .ok (.ifCond .eq 5, 3) := by decide +kernel
theorem d_La_law_1000 : decode code 1000 = .ok (.iconst 0, 1) := by decide +kernel
theorem d_La_law_1001 : decode code 1001 = .ok (.ireturn, 1) := by decide +kernel
theorem d_La_law_1002 : decode code 1002 = .ok (.goto 231, 3) := by decide +kernel
theorem d_La_law_1005 : decode code 1005 = .ok (.aload_n 1, 1) := by decide +kernel
theorem d_La_law_1006 : decode code 1006 = .ok (.aload_n 0, 1) := by decide +kernel
theorem d_La_law_1007 : decode code 1007 = .ok (.iload 4, 2) := by decide +kernel
theorem d_La_law_1009 : decode code 1009 = .ok (.iconst 1, 1) := by decide +kernel
theorem d_La_law_1010 : decode code 1010 = .ok (.iadd, 1) := by decide +kernel
theorem d_La_law_1011 : decode code 1011 = .ok (.iaload, 1) := by decide +kernel
theorem d_La_law_1012 : decode code 1012 = .ok (.aload_n 3, 1) := by decide +kernel
theorem d_La_law_1013 : decode code 1013 = .ok (.invokestatic 126, 3) := by decide +kernel
theorem d_La_law_1016 : decode code 1016 = .ok (.istore 5, 2) := by decide +kernel
theorem d_La_law_1018 : decode code 1018 = .ok (.aload_n 2, 1) := by decide +kernel
theorem d_La_law_1019 : decode code 1019 = .ok (.aload_n 0, 1) := by decide +kernel
theorem d_La_law_1020 : decode code 1020 = .ok (.iload 4, 2) := by decide +kernel
theorem d_La_law_1022 : decode code 1022 = .ok (.iconst 1, 1) := by decide +kernel
theorem d_La_law_1023 : decode code 1023 = .ok (.iadd, 1) := by decide +kernel
theorem d_La_law_1024 : decode code 1024 = .ok (.iaload, 1) := by decide +kernel
theorem d_La_law_1025 : decode code 1025 = .ok (.invokevirtual 128, 3) := by decide +kernel
theorem d_La_law_1028 : decode code 1028 = .ok (.istore 6, 2) := by decide +kernel
theorem d_La_law_1030 : decode code 1030 = .ok (.aload_n 2, 1) := by decide +kernel
theorem d_La_law_1031 : decode code 1031 = .ok (.invokevirtual 78, 3) := by decide +kernel
theorem d_La_law_1034 : decode code 1034 = .ok (.iload 5, 2) := by decide +kernel
theorem d_La_law_1036 : decode code 1036 = .ok (.if_icmp .eq 5, 3) := by decide +kernel
theorem d_La_law_1039 : decode code 1039 = .ok (.iconst 0, 1) := by decide +kernel
theorem d_La_law_1040 : decode code 1040 = .ok (.ireturn, 1) := by decide +kernel
theorem d_La_law_1041 : decode code 1041 = .ok (.iload 5, 2) := by decide +kernel
theorem d_La_law_1043 : decode code 1043 = .ok (.ifCond .ne 15, 3) := by decide +kernel
theorem d_La_law_1046 : decode code 1046 = .ok (.aload_n 3, 1) := by decide +kernel
theorem d_La_law_1047 : decode code 1047 = .ok (.iconst 0, 1) := by decide +kernel
theorem d_La_law_1048 : decode code 1048 = .ok (.laload, 1) := by decide +kernel
theorem d_La_law_1049 : decode code 1049 = .ok (.iload 6, 2) := by decide +kernel
theorem d_La_law_1051 : decode code 1051 = .ok (.i2l, 1) := by decide +kernel
theorem d_La_law_1052 : decode code 1052 = .ok (.lcmp, 1) := by decide +kernel
theorem d_La_law_1053 : decode code 1053 = .ok (.ifCond .eq 5, 3) := by decide +kernel
theorem d_La_law_1056 : decode code 1056 = .ok (.iconst 0, 1) := by decide +kernel
theorem d_La_law_1057 : decode code 1057 = .ok (.ireturn, 1) := by decide +kernel
theorem d_La_law_1058 : decode code 1058 = .ok (.goto 175, 3) := by decide +kernel
theorem d_La_law_1061 : decode code 1061 = .ok (.aload_n 1, 1) := by decide +kernel
theorem d_La_law_1062 : decode code 1062 = .ok (.aload_n 0, 1) := by decide +kernel
theorem d_La_law_1063 : decode code 1063 = .ok (.iload 4, 2) := by decide +kernel
theorem d_La_law_1065 : decode code 1065 = .ok (.iconst 1, 1) := by decide +kernel
theorem d_La_law_1066 : decode code 1066 = .ok (.iadd, 1) := by decide +kernel
theorem d_La_law_1067 : decode code 1067 = .ok (.iaload, 1) := by decide +kernel
theorem d_La_law_1068 : decode code 1068 = .ok (.aload_n 0, 1) := by decide +kernel
theorem d_La_law_1069 : decode code 1069 = .ok (.iload 4, 2) := by decide +kernel
theorem d_La_law_1071 : decode code 1071 = .ok (.iconst 2, 1) := by decide +kernel
theorem d_La_law_1072 : decode code 1072 = .ok (.iadd, 1) := by decide +kernel
theorem d_La_law_1073 : decode code 1073 = .ok (.iaload, 1) := by decide +kernel
theorem d_La_law_1074 : decode code 1074 = .ok (.aload_n 0, 1) := by decide +kernel
theorem d_La_law_1075 : decode code 1075 = .ok (.iload 4, 2) := by decide +kernel
theorem d_La_law_1077 : decode code 1077 = .ok (.iconst 3, 1) := by decide +kernel
theorem d_La_law_1078 : decode code 1078 = .ok (.iadd, 1) := by decide +kernel
theorem d_La_law_1079 : decode code 1079 = .ok (.iaload, 1) := by decide +kernel
theorem d_La_law_1080 : decode code 1080 = .ok (.aload_n 0, 1) := by decide +kernel
theorem d_La_law_1081 : decode code 1081 = .ok (.iload 4, 2) := by decide +kernel
theorem d_La_law_1083 : decode code 1083 = .ok (.iconst 4, 1) := by decide +kernel
theorem d_La_law_1084 : decode code 1084 = .ok (.iadd, 1) := by decide +kernel
theorem d_La_law_1085 : decode code 1085 = .ok (.iaload, 1) := by decide +kernel
theorem d_La_law_1086 : decode code 1086 = .ok (.aload_n 0, 1) := by decide +kernel
theorem d_La_law_1087 : decode code 1087 = .ok (.iload 4, 2) := by decide +kernel
theorem d_La_law_1089 : decode code 1089 = .ok (.iconst 5, 1) := by decide +kernel
theorem d_La_law_1090 : decode code 1090 = .ok (.iadd, 1) := by decide +kernel
theorem d_La_law_1091 : decode code 1091 = .ok (.iaload, 1) := by decide +kernel
theorem d_La_law_1092 : decode code 1092 = .ok (.aload_n 3, 1) := by decide +kernel
theorem d_La_law_1093 : decode code 1093 = .ok (.invokestatic 129, 3) := by decide +kernel
theorem d_La_law_1096 : decode code 1096 = .ok (.istore 5, 2) := by decide +kernel
theorem d_La_law_1098 : decode code 1098 = .ok (.aload_n 2, 1) := by decide +kernel
theorem d_La_law_1099 : decode code 1099 = .ok (.aload_n 0, 1) := by decide +kernel
theorem d_La_law_1100 : decode code 1100 = .ok (.iload 4, 2) := by decide +kernel
theorem d_La_law_1102 : decode code 1102 = .ok (.iconst 1, 1) := by decide +kernel
theorem d_La_law_1103 : decode code 1103 = .ok (.iadd, 1) := by decide +kernel
theorem d_La_law_1104 : decode code 1104 = .ok (.iaload, 1) := by decide +kernel
theorem d_La_law_1105 : decode code 1105 = .ok (.aload_n 0, 1) := by decide +kernel
theorem d_La_law_1106 : decode code 1106 = .ok (.iload 4, 2) := by decide +kernel
theorem d_La_law_1108 : decode code 1108 = .ok (.iconst 2, 1) := by decide +kernel
theorem d_La_law_1109 : decode code 1109 = .ok (.iadd, 1) := by decide +kernel
theorem d_La_law_1110 : decode code 1110 = .ok (.iaload, 1) := by decide +kernel
theorem d_La_law_1111 : decode code 1111 = .ok (.aload_n 0, 1) := by decide +kernel
theorem d_La_law_1112 : decode code 1112 = .ok (.iload 4, 2) := by decide +kernel
theorem d_La_law_1114 : decode code 1114 = .ok (.iconst 3, 1) := by decide +kernel
theorem d_La_law_1115 : decode code 1115 = .ok (.iadd, 1) := by decide +kernel
theorem d_La_law_1116 : decode code 1116 = .ok (.iaload, 1) := by decide +kernel
theorem d_La_law_1117 : decode code 1117 = .ok (.aload_n 0, 1) := by decide +kernel
theorem d_La_law_1118 : decode code 1118 = .ok (.iload 4, 2) := by decide +kernel
theorem d_La_law_1120 : decode code 1120 = .ok (.iconst 4, 1) := by decide +kernel
theorem d_La_law_1121 : decode code 1121 = .ok (.iadd, 1) := by decide +kernel
theorem d_La_law_1122 : decode code 1122 = .ok (.iaload, 1) := by decide +kernel
theorem d_La_law_1123 : decode code 1123 = .ok (.aload_n 0, 1) := by decide +kernel
theorem d_La_law_1124 : decode code 1124 = .ok (.iload 4, 2) := by decide +kernel
theorem d_La_law_1126 : decode code 1126 = .ok (.iconst 5, 1) := by decide +kernel
theorem d_La_law_1127 : decode code 1127 = .ok (.iadd, 1) := by decide +kernel
theorem d_La_law_1128 : decode code 1128 = .ok (.iaload, 1) := by decide +kernel
theorem d_La_law_1129 : decode code 1129 = .ok (.invokevirtual 131, 3) := by decide +kernel
theorem d_La_law_1132 : decode code 1132 = .ok (.istore 6, 2) := by decide +kernel
theorem d_La_law_1134 : decode code 1134 = .ok (.aload_n 2, 1) := by decide +kernel
theorem d_La_law_1135 : decode code 1135 = .ok (.invokevirtual 78, 3) := by decide +kernel
theorem d_La_law_1138 : decode code 1138 = .ok (.iload 5, 2) := by decide +kernel
theorem d_La_law_1140 : decode code 1140 = .ok (.if_icmp .eq 5, 3) := by decide +kernel
theorem d_La_law_1143 : decode code 1143 = .ok (.iconst 0, 1) := by decide +kernel
theorem d_La_law_1144 : decode code 1144 = .ok (.ireturn, 1) := by decide +kernel
theorem d_La_law_1145 : decode code 1145 = .ok (.iload 5, 2) := by decide +kernel
theorem d_La_law_1147 : decode code 1147 = .ok (.ifCond .ne 15, 3) := by decide +kernel
theorem d_La_law_1150 : decode code 1150 = .ok (.aload_n 3, 1) := by decide +kernel
theorem d_La_law_1151 : decode code 1151 = .ok (.iconst 0, 1) := by decide +kernel
theorem d_La_law_1152 : decode code 1152 = .ok (.laload, 1) := by decide +kernel
theorem d_La_law_1153 : decode code 1153 = .ok (.iload 6, 2) := by decide +kernel
theorem d_La_law_1155 : decode code 1155 = .ok (.i2l, 1) := by decide +kernel
theorem d_La_law_1156 : decode code 1156 = .ok (.lcmp, 1) := by decide +kernel
theorem d_La_law_1157 : decode code 1157 = .ok (.ifCond .eq 5, 3) := by decide +kernel
theorem d_La_law_1160 : decode code 1160 = .ok (.iconst 0, 1) := by decide +kernel
theorem d_La_law_1161 : decode code 1161 = .ok (.ireturn, 1) := by decide +kernel
theorem d_La_law_1162 : decode code 1162 = .ok (.goto 71, 3) := by decide +kernel
theorem d_La_law_1165 : decode code 1165 = .ok (.aload_n 1, 1) := by decide +kernel
theorem d_La_law_1166 : decode code 1166 = .ok (.aload_n 0, 1) := by decide +kernel
theorem d_La_law_1167 : decode code 1167 = .ok (.iload 4, 2) := by decide +kernel
theorem d_La_law_1169 : decode code 1169 = .ok (.iconst 1, 1) := by decide +kernel
theorem d_La_law_1170 : decode code 1170 = .ok (.iadd, 1) := by decide +kernel
theorem d_La_law_1171 : decode code 1171 = .ok (.iaload, 1) := by decide +kernel
theorem d_La_law_1172 : decode code 1172 = .ok (.aload_n 0, 1) := by decide +kernel
theorem d_La_law_1173 : decode code 1173 = .ok (.iload 4, 2) := by decide +kernel
theorem d_La_law_1175 : decode code 1175 = .ok (.iconst 2, 1) := by decide +kernel
theorem d_La_law_1176 : decode code 1176 = .ok (.iadd, 1) := by decide +kernel
theorem d_La_law_1177 : decode code 1177 = .ok (.iaload, 1) := by decide +kernel
theorem d_La_law_1178 : decode code 1178 = .ok (.aload_n 3, 1) := by decide +kernel
theorem d_La_law_1179 : decode code 1179 = .ok (.invokestatic 132, 3) := by decide +kernel
theorem d_La_law_1182 : decode code 1182 = .ok (.istore 5, 2) := by decide +kernel
theorem d_La_law_1184 : decode code 1184 = .ok (.aload_n 2, 1) := by decide +kernel
theorem d_La_law_1185 : decode code 1185 = .ok (.aload_n 0, 1) := by decide +kernel
theorem d_La_law_1186 : decode code 1186 = .ok (.iload 4, 2) := by decide +kernel
theorem d_La_law_1188 : decode code 1188 = .ok (.iconst 1, 1) := by decide +kernel
theorem d_La_law_1189 : decode code 1189 = .ok (.iadd, 1) := by decide +kernel
theorem d_La_law_1190 : decode code 1190 = .ok (.iaload, 1) := by decide +kernel
theorem d_La_law_1191 : decode code 1191 = .ok (.aload_n 0, 1) := by decide +kernel
theorem d_La_law_1192 : decode code 1192 = .ok (.iload 4, 2) := by decide +kernel
theorem d_La_law_1194 : decode code 1194 = .ok (.iconst 2, 1) := by decide +kernel
theorem d_La_law_1195 : decode code 1195 = .ok (.iadd, 1) := by decide +kernel
theorem d_La_law_1196 : decode code 1196 = .ok (.iaload, 1) := by decide +kernel
theorem d_La_law_1197 : decode code 1197 = .ok (.invokevirtual 134, 3) := by decide +kernel
theorem d_La_law_1200 : decode code 1200 = .ok (.istore 6, 2) := by decide +kernel
theorem d_La_law_1202 : decode code 1202 = .ok (.aload_n 2, 1) := by decide +kernel
theorem d_La_law_1203 : decode code 1203 = .ok (.invokevirtual 78, 3) := by decide +kernel
theorem d_La_law_1206 : decode code 1206 = .ok (.iload 5, 2) := by decide +kernel
theorem d_La_law_1208 : decode code 1208 = .ok (.if_icmp .eq 5, 3) := by decide +kernel
theorem d_La_law_1211 : decode code 1211 = .ok (.iconst 0, 1) := by decide +kernel
theorem d_La_law_1212 : decode code 1212 = .ok (.ireturn, 1) := by decide +kernel
theorem d_La_law_1213 : decode code 1213 = .ok (.iload 5, 2) := by decide +kernel
theorem d_La_law_1215 : decode code 1215 = .ok (.ifCond .ne 15, 3) := by decide +kernel
theorem d_La_law_1218 : decode code 1218 = .ok (.aload_n 3, 1) := by decide +kernel
theorem d_La_law_1219 : decode code 1219 = .ok (.iconst 0, 1) := by decide +kernel
theorem d_La_law_1220 : decode code 1220 = .ok (.laload, 1) := by decide +kernel
theorem d_La_law_1221 : decode code 1221 = .ok (.iload 6, 2) := by decide +kernel
theorem d_La_law_1223 : decode code 1223 = .ok (.i2l, 1) := by decide +kernel
theorem d_La_law_1224 : decode code 1224 = .ok (.lcmp, 1) := by decide +kernel
theorem d_La_law_1225 : decode code 1225 = .ok (.ifCond .eq 5, 3) := by decide +kernel
theorem d_La_law_1228 : decode code 1228 = .ok (.iconst 0, 1) := by decide +kernel
theorem d_La_law_1229 : decode code 1229 = .ok (.ireturn, 1) := by decide +kernel
theorem d_La_law_1230 : decode code 1230 = .ok (.goto 3, 3) := by decide +kernel
theorem d_La_law_1233 : decode code 1233 = .ok (.iinc 4 6, 3) := by decide +kernel
theorem d_La_law_1236 : decode code 1236 = .ok (.goto (-1213), 3) := by decide +kernel
theorem d_La_law_1239 : decode code 1239 = .ok (.iconst 1, 1) := by decide +kernel
theorem d_La_law_1240 : decode code 1240 = .ok (.ireturn, 1) := by decide +kernel

