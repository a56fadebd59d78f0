theorem dX11_solve_180 : decode cX11_solve 180 = .ok (.iload_n 1, 1) := by decide +kernel
theorem dX11_solve_181 : decode cX11_solve 181 = .ok (.if_icmp .gt 72, 3) := by decide +kernel
theorem dX11_solve_184 : decode cX11_solve 184 = .ok (.aload_n 0, 1) := by decide +kernel
theorem dX11_solve_185 : decode cX11_solve 185 = .ok (.getfield 48, 3) := by decide +kernel
theorem dX11_solve_188 : decode cX11_solve 188 = .ok (.bipush 41, 2) := by decide +kernel
theorem dX11_solve_190 : decode cX11_solve 190 = .ok (.iload 5, 2) := by decide +kernel
theorem dX11_solve_192 : decode cX11_solve 192 = .ok (.imul, 1) := by decide +kernel
theorem dX11_solve_193 : decode cX11_solve 193 = .ok (.iload 8, 2) := by decide +kernel
theorem dX11_solve_195 : decode cX11_solve 195 = .ok (.iadd, 1) := by decide +kernel
theorem dX11_solve_196 : decode cX11_solve 196 = .ok (.laload, 1) := by decide +kernel
theorem dX11_solve_197 : decode cX11_solve 197 = .ok (.lload 6, 2) := by decide +kernel
theorem dX11_solve_199 : decode cX11_solve 199 = .ok (.lmul, 1) := by decide +kernel
theorem dX11_solve_200 : decode cX11_solve 200 = .ok (.aload_n 0, 1) := by decide +kernel
theorem dX11_solve_201 : decode cX11_solve 201 = .ok (.getfield 23, 3) := by decide +kernel
theorem dX11_solve_204 : decode cX11_solve 204 = .ok (.i2l, 1) := by decide +kernel
theorem dX11_solve_205 : decode cX11_solve 205 = .ok (.lrem, 1) := by decide +kernel
theorem dX11_solve_206 : decode cX11_solve 206 = .ok (.lstore 9, 2) := by decide +kernel
theorem dX11_solve_208 : decode cX11_solve 208 = .ok (.aload_n 0, 1) := by decide +kernel
theorem dX11_solve_209 : decode cX11_solve 209 = .ok (.getfield 48, 3) := by decide +kernel
theorem dX11_solve_212 : decode cX11_solve 212 = .ok (.bipush 41, 2) := by decide +kernel
theorem dX11_solve_214 : decode cX11_solve 214 = .ok (.iload 5, 2) := by decide +kernel
theorem dX11_solve_216 : decode cX11_solve 216 = .ok (.imul, 1) := by decide +kernel
theorem dX11_solve_217 : decode cX11_solve 217 = .ok (.iload 8, 2) := by decide +kernel
theorem dX11_solve_219 : decode cX11_solve 219 = .ok (.iadd, 1) := by decide +kernel
theorem dX11_solve_220 : decode cX11_solve 220 = .ok (.aload_n 0, 1) := by decide +kernel
theorem dX11_solve_221 : decode cX11_solve 221 = .ok (.getfield 48, 3) := by decide +kernel
theorem dX11_solve_224 : decode cX11_solve 224 = .ok (.bipush 41, 2) := by decide +kernel
theorem dX11_solve_226 : decode cX11_solve 226 = .ok (.iload_n 3, 1) := by decide +kernel
theorem dX11_solve_227 : decode cX11_solve 227 = .ok (.imul, 1) := by decide +kernel
theorem dX11_solve_228 : decode cX11_solve 228 = .ok (.iload 8, 2) := by decide +kernel
theorem dX11_solve_230 : decode cX11_solve 230 = .ok (.iadd, 1) := by decide +kernel
theorem dX11_solve_231 : decode cX11_solve 231 = .ok (.laload, 1) := by decide +kernel
theorem dX11_solve_232 : decode cX11_solve 232 = .ok (.lastore, 1) := by decide +kernel
theorem dX11_solve_233 : decode cX11_solve 233 = .ok (.aload_n 0, 1) := by decide +kernel
theorem dX11_solve_234 : decode cX11_solve 234 = .ok (.getfield 48, 3) := by decide +kernel
theorem dX11_solve_237 : decode cX11_solve 237 = .ok (.bipush 41, 2) := by decide +kernel
theorem dX11_solve_239 : decode cX11_solve 239 = .ok (.iload_n 3, 1) := by decide +kernel
theorem dX11_solve_240 : decode cX11_solve 240 = .ok (.imul, 1) := by decide +kernel
theorem dX11_solve_241 : decode cX11_solve 241 = .ok (.iload 8, 2) := by decide +kernel
theorem dX11_solve_243 : decode cX11_solve 243 = .ok (.iadd, 1) := by decide +kernel
theorem dX11_solve_244 : decode cX11_solve 244 = .ok (.lload 9, 2) := by decide +kernel
theorem dX11_solve_246 : decode cX11_solve 246 = .ok (.lastore, 1) := by decide +kernel
theorem dX11_solve_247 : decode cX11_solve 247 = .ok (.iinc 8 1, 3) := by decide +kernel
theorem dX11_solve_250 : decode cX11_solve 250 = .ok (.goto (-72), 3) := by decide +kernel
theorem dX11_solve_253 : decode cX11_solve 253 = .ok (.iconst 0, 1) := by decide +kernel
theorem dX11_solve_254 : decode cX11_solve 254 = .ok (.istore 8, 2) := by decide +kernel
theorem dX11_solve_256 : decode cX11_solve 256 = .ok (.iload 8, 2) := by decide +kernel
theorem dX11_solve_258 : decode cX11_solve 258 = .ok (.iload_n 2, 1) := by decide +kernel
theorem dX11_solve_259 : decode cX11_solve 259 = .ok (.if_icmp .ge 102, 3) := by decide +kernel
theorem dX11_solve_262 : decode cX11_solve 262 = .ok (.aload_n 0, 1) := by decide +kernel
theorem dX11_solve_263 : decode cX11_solve 263 = .ok (.getfield 48, 3) := by decide +kernel
theorem dX11_solve_266 : decode cX11_solve 266 = .ok (.bipush 41, 2) := by decide +kernel
theorem dX11_solve_268 : decode cX11_solve 268 = .ok (.iload 8, 2) := by decide +kernel
theorem dX11_solve_270 : decode cX11_solve 270 = .ok (.imul, 1) := by decide +kernel
theorem dX11_solve_271 : decode cX11_solve 271 = .ok (.iload 4, 2) := by decide +kernel
theorem dX11_solve_273 : decode cX11_solve 273 = .ok (.iadd, 1) := by decide +kernel
theorem dX11_solve_274 : decode cX11_solve 274 = .ok (.laload, 1) := by decide +kernel
theorem dX11_solve_275 : decode cX11_solve 275 = .ok (.lstore 9, 2) := by decide +kernel
theorem dX11_solve_277 : decode cX11_solve 277 = .ok (.iconst 0, 1) := by decide +kernel
theorem dX11_solve_278 : decode cX11_solve 278 = .ok (.istore 11, 2) := by decide +kernel
theorem dX11_solve_280 : decode cX11_solve 280 = .ok (.iload 11, 2) := by decide +kernel
theorem dX11_solve_282 : decode cX11_solve 282 = .ok (.iload_n 1, 1) := by decide +kernel
theorem dX11_solve_283 : decode cX11_solve 283 = .ok (.if_icmp .gt 72, 3) := by decide +kernel
theorem dX11_solve_286 : decode cX11_solve 286 = .ok (.iload 8, 2) := by decide +kernel
theorem dX11_solve_288 : decode cX11_solve 288 = .ok (.iload_n 3, 1) := by decide +kernel
theorem dX11_solve_289 : decode cX11_solve 289 = .ok (.if_icmp .eq 66, 3) := by decide +kernel
theorem dX11_solve_292 : decode cX11_solve 292 = .ok (.lload 9, 2) := by decide +kernel
theorem dX11_solve_294 : decode cX11_solve 294 = .ok (.lconst 0, 1) := by decide +kernel
theorem dX11_solve_295 : decode cX11_solve 295 = .ok (.lcmp, 1) := by decide +kernel
theorem dX11_solve_296 : decode cX11_solve 296 = .ok (.ifCond .eq 59, 3) := by decide +kernel
theorem dX11_solve_299 : decode cX11_solve 299 = .ok (.aload_n 0, 1) := by decide +kernel
theorem dX11_solve_300 : decode cX11_solve 300 = .ok (.getfield 48, 3) := by decide +kernel
theorem dX11_solve_303 : decode cX11_solve 303 = .ok (.bipush 41, 2) := by decide +kernel
theorem dX11_solve_305 : decode cX11_solve 305 = .ok (.iload 8, 2) := by decide +kernel
theorem dX11_solve_307 : decode cX11_solve 307 = .ok (.imul, 1) := by decide +kernel
theorem dX11_solve_308 : decode cX11_solve 308 = .ok (.iload 11, 2) := by decide +kernel
theorem dX11_solve_310 : decode cX11_solve 310 = .ok (.iadd, 1) := by decide +kernel
theorem dX11_solve_311 : decode cX11_solve 311 = .ok (.aload_n 0, 1) := by decide +kernel
theorem dX11_solve_312 : decode cX11_solve 312 = .ok (.getfield 48, 3) := by decide +kernel
theorem dX11_solve_315 : decode cX11_solve 315 = .ok (.bipush 41, 2) := by decide +kernel
theorem dX11_solve_317 : decode cX11_solve 317 = .ok (.iload 8, 2) := by decide +kernel
theorem dX11_solve_319 : decode cX11_solve 319 = .ok (.imul, 1) := by decide +kernel
theorem dX11_solve_320 : decode cX11_solve 320 = .ok (.iload 11, 2) := by decide +kernel
theorem dX11_solve_322 : decode cX11_solve 322 = .ok (.iadd, 1) := by decide +kernel
theorem dX11_solve_323 : decode cX11_solve 323 = .ok (.laload, 1) := by decide +kernel
theorem dX11_solve_324 : decode cX11_solve 324 = .ok (.lload 9, 2) := by decide +kernel
theorem dX11_solve_326 : decode cX11_solve 326 = .ok (.aload_n 0, 1) := by decide +kernel
theorem dX11_solve_327 : decode cX11_solve 327 = .ok (.getfield 48, 3) := by decide +kernel
theorem dX11_solve_330 : decode cX11_solve 330 = .ok (.bipush 41, 2) := by decide +kernel
theorem dX11_solve_332 : decode cX11_solve 332 = .ok (.iload_n 3, 1) := by decide +kernel
theorem dX11_solve_333 : decode cX11_solve 333 = .ok (.imul, 1) := by decide +kernel
theorem dX11_solve_334 : decode cX11_solve 334 = .ok (.iload 11, 2) := by decide +kernel
theorem dX11_solve_336 : decode cX11_solve 336 = .ok (.iadd, 1) := by decide +kernel
theorem dX11_solve_337 : decode cX11_solve 337 = .ok (.laload, 1) := by decide +kernel
theorem dX11_solve_338 : decode cX11_solve 338 = .ok (.lmul, 1) := by decide +kernel
theorem dX11_solve_339 : decode cX11_solve 339 = .ok (.lsub, 1) := by decide +kernel
theorem dX11_solve_340 : decode cX11_solve 340 = .ok (.aload_n 0, 1) := by decide +kernel
theorem dX11_solve_341 : decode cX11_solve 341 = .ok (.getfield 23, 3) := by decide +kernel
theorem dX11_solve_344 : decode cX11_solve 344 = .ok (.i2l, 1) := by decide +kernel
theorem dX11_solve_345 : decode cX11_solve 345 = .ok (.invokestatic 156, 3) := by decide +kernel
theorem dX11_solve_348 : decode cX11_solve 348 = .ok (.lastore, 1) := by decide +kernel
theorem dX11_solve_349 : decode cX11_solve 349 = .ok (.iinc 11 1, 3) := by decide +kernel
theorem dX11_solve_352 : decode cX11_solve 352 = .ok (.goto (-72), 3) := by decide +kernel
theorem dX11_solve_355 : decode cX11_solve 355 = .ok (.iinc 8 1, 3) := by decide +kernel
theorem dX11_solve_358 : decode cX11_solve 358 = .ok (.goto (-102), 3) := by decide +kernel
theorem dX11_solve_361 : decode cX11_solve 361 = .ok (.aload_n 0, 1) := by decide +kernel
theorem dX11_solve_362 : decode cX11_solve 362 = .ok (.getfield 51, 3) := by decide +kernel
theorem dX11_solve_365 : decode cX11_solve 365 = .ok (.iload 4, 2) := by decide +kernel
theorem dX11_solve_367 : decode cX11_solve 367 = .ok (.iload_n 3, 1) := by decide +kernel
theorem dX11_solve_368 : decode cX11_solve 368 = .ok (.i2l, 1) := by decide +kernel
theorem dX11_solve_369 : decode cX11_solve 369 = .ok (.lastore, 1) := by decide +kernel
theorem dX11_solve_370 : decode cX11_solve 370 = .ok (.iinc 3 1, 3) := by decide +kernel
theorem dX11_solve_373 : decode cX11_solve 373 = .ok (.iinc 4 1, 3) := by decide +kernel
theorem dX11_solve_376 : decode cX11_solve 376 = .ok (.goto (-269), 3) := by decide +kernel
theorem dX11_solve_379 : decode cX11_solve 379 = .ok (.iload_n 3, 1) := by decide +kernel
theorem dX11_solve_380 : decode cX11_solve 380 = .ok (.istore 4, 2) := by decide +kernel
theorem dX11_solve_382 : decode cX11_solve 382 = .ok (.iload 4, 2) := by decide +kernel
theorem dX11_solve_384 : decode cX11_solve 384 = .ok (.iload_n 2, 1) := by decide +kernel
theorem dX11_solve_385 : decode cX11_solve 385 = .ok (.if_icmp .ge 28, 3) := by decide +kernel
theorem dX11_solve_388 : decode cX11_solve 388 = .ok (.aload_n 0, 1) := by decide +kernel
theorem dX11_solve_389 : decode cX11_solve 389 = .ok (.getfield 48, 3) := by decide +kernel
theorem dX11_solve_392 : decode cX11_solve 392 = .ok (.bipush 41, 2) := by decide +kernel
theorem dX11_solve_394 : decode cX11_solve 394 = .ok (.iload 4, 2) := by decide +kernel
theorem dX11_solve_396 : decode cX11_solve 396 = .ok (.imul, 1) := by decide +kernel
theorem dX11_solve_397 : decode cX11_solve 397 = .ok (.iload_n 1, 1) := by decide +kernel
theorem dX11_solve_398 : decode cX11_solve 398 = .ok (.iadd, 1) := by decide +kernel
theorem dX11_solve_399 : decode cX11_solve 399 = .ok (.laload, 1) := by decide +kernel
theorem dX11_solve_400 : decode cX11_solve 400 = .ok (.lconst 0, 1) := by decide +kernel
theorem dX11_solve_401 : decode cX11_solve 401 = .ok (.lcmp, 1) := by decide +kernel
theorem dX11_solve_402 : decode cX11_solve 402 = .ok (.ifCond .eq 5, 3) := by decide +kernel
theorem dX11_solve_405 : decode cX11_solve 405 = .ok (.iconst 0, 1) := by decide +kernel
theorem dX11_solve_406 : decode cX11_solve 406 = .ok (.ireturn, 1) := by decide +kernel
theorem dX11_solve_407 : decode cX11_solve 407 = .ok (.iinc 4 1, 3) := by decide +kernel
theorem dX11_solve_410 : decode cX11_solve 410 = .ok (.goto (-28), 3) := by decide +kernel
theorem dX11_solve_413 : decode cX11_solve 413 = .ok (.iconst 0, 1) := by decide +kernel
theorem dX11_solve_414 : decode cX11_solve 414 = .ok (.istore 4, 2) := by decide +kernel
theorem dX11_solve_416 : decode cX11_solve 416 = .ok (.iload 4, 2) := by decide +kernel
theorem dX11_solve_418 : decode cX11_solve 418 = .ok (.iload_n 1, 1) := by decide +kernel
theorem dX11_solve_419 : decode cX11_solve 419 = .ok (.if_icmp .ge 50, 3) := by decide +kernel
theorem dX11_solve_422 : decode cX11_solve 422 = .ok (.aload_n 0, 1) := by decide +kernel
theorem dX11_solve_423 : decode cX11_solve 423 = .ok (.getfield 51, 3) := by decide +kernel
theorem dX11_solve_426 : decode cX11_solve 426 = .ok (.iload 4, 2) := by decide +kernel
theorem dX11_solve_428 : decode cX11_solve 428 = .ok (.aload_n 0, 1) := by decide +kernel
theorem dX11_solve_429 : decode cX11_solve 429 = .ok (.getfield 51, 3) := by decide +kernel
theorem dX11_solve_432 : decode cX11_solve 432 = .ok (.iload 4, 2) := by decide +kernel
theorem dX11_solve_434 : decode cX11_solve 434 = .ok (.laload, 1) := by decide +kernel
theorem dX11_solve_435 : decode cX11_solve 435 = .ok (.lconst 0, 1) := by decide +kernel
theorem dX11_solve_436 : decode cX11_solve 436 = .ok (.lcmp, 1) := by decide +kernel
theorem dX11_solve_437 : decode cX11_solve 437 = .ok (.ifCond .ge 7, 3) := by decide +kernel
theorem dX11_solve_440 : decode cX11_solve 440 = .ok (.lconst 0, 1) := by decide +kernel
theorem dX11_solve_441 : decode cX11_solve 441 = .ok (.goto 21, 3) := by decide +kernel
theorem dX11_solve_444 : decode cX11_solve 444 = .ok (.aload_n 0, 1) := by decide +kernel
theorem dX11_solve_445 : decode cX11_solve 445 = .ok (.getfield 48, 3) := by decide +kernel
theorem dX11_solve_448 : decode cX11_solve 448 = .ok (.bipush 41, 2) := by decide +kernel
theorem dX11_solve_450 : decode cX11_solve 450 = .ok (.aload_n 0, 1) := by decide +kernel
theorem dX11_solve_451 : decode cX11_solve 451 = .ok (.getfield 51, 3) := by decide +kernel
theorem dX11_solve_454 : decode cX11_solve 454 = .ok (.iload 4, 2) := by decide +kernel
theorem dX11_solve_456 : decode cX11_solve 456 = .ok (.laload, 1) := by decide +kernel
theorem dX11_solve_457 : decode cX11_solve 457 = .ok (.l2i, 1) := by decide +kernel
theorem dX11_solve_458 : decode cX11_solve 458 = .ok (.imul, 1) := by decide +kernel
theorem dX11_solve_459 : decode cX11_solve 459 = .ok (.iload_n 1, 1) := by decide +kernel
theorem dX11_solve_460 : decode cX11_solve 460 = .ok (.iadd, 1) := by decide +kernel
theorem dX11_solve_461 : decode cX11_solve 461 = .ok (.laload, 1) := by decide +kernel
theorem dX11_solve_462 : decode cX11_solve 462 = .ok (.lastore, 1) := by decide +kernel
theorem dX11_solve_463 : decode cX11_solve 463 = .ok (.iinc 4 1, 3) := by decide +kernel
theorem dX11_solve_466 : decode cX11_solve 466 = .ok (.goto (-50), 3) := by decide +kernel
theorem dX11_solve_469 : decode cX11_solve 469 = .ok (.iconst 1, 1) := by decide +kernel
theorem dX11_solve_470 : decode cX11_solve 470 = .ok (.ireturn, 1) := by decide +kernel
theorem dX11_leastOf_0 : decode cX11_leastOf 0 = .ok (.iconst 0, 1) := by decide +kernel
theorem dX11_leastOf_1 : decode cX11_leastOf 1 = .ok (.istore_n 1, 1) := by decide +kernel
theorem dX11_leastOf_2 : decode cX11_leastOf 2 = .ok (.aload_n 0, 1) := by decide +kernel
theorem dX11_leastOf_3 : decode cX11_leastOf 3 = .ok (.iload_n 1, 1) := by decide +kernel
theorem dX11_leastOf_4 : decode cX11_leastOf 4 = .ok (.invokevirtual 226, 3) := by decide +kernel
theorem dX11_leastOf_7 : decode cX11_leastOf 7 = .ok (.ifCond .ne 9, 3) := by decide +kernel
theorem dX11_leastOf_10 : decode cX11_leastOf 10 = .ok (.iinc 1 1, 3) := by decide +kernel
theorem dX11_leastOf_13 : decode cX11_leastOf 13 = .ok (.goto (-11), 3) := by decide +kernel
theorem dX11_leastOf_16 : decode cX11_leastOf 16 = .ok (.iload_n 1, 1) := by decide +kernel
theorem dX11_leastOf_17 : decode cX11_leastOf 17 = .ok (.ireturn, 1) := by decide +kernel
theorem dX11_least_0 : decode cX11_least 0 = .ok (.iload_n 1, 1) := by decide +kernel
theorem dX11_least_1 : decode cX11_least 1 = .ok (.ifCond .ge 5, 3) := by decide +kernel
theorem dX11_least_4 : decode cX11_least 4 = .ok (.iconst (-1), 1) := by decide +kernel
theorem dX11_least_5 : decode cX11_least 5 = .ok (.ireturn, 1) := by decide +kernel
theorem dX11_least_6 : decode cX11_least 6 = .ok (.aload_n 0, 1) := by decide +kernel
theorem dX11_least_7 : decode cX11_least 7 = .ok (.invokevirtual 229, 3) := by decide +kernel
theorem dX11_least_10 : decode cX11_least 10 = .ok (.istore_n 2, 1) := by decide +kernel
theorem dX11_least_11 : decode cX11_least 11 = .ok (.iload_n 1, 1) := by decide +kernel
theorem dX11_least_12 : decode cX11_least 12 = .ok (.ifCond .ne 7, 3) := by decide +kernel
theorem dX11_least_15 : decode cX11_least 15 = .ok (.iload_n 2, 1) := by decide +kernel
theorem dX11_least_16 : decode cX11_least 16 = .ok (.goto 22, 3) := by decide +kernel
theorem dX11_least_19 : decode cX11_least 19 = .ok (.iload_n 1, 1) := by decide +kernel
theorem dX11_least_20 : decode cX11_least 20 = .ok (.iload_n 2, 1) := by decide +kernel
theorem dX11_least_21 : decode cX11_least 21 = .ok (.if_icmp .le 8, 3) := by decide +kernel
theorem dX11_least_24 : decode cX11_least 24 = .ok (.bipush (-4), 2) := by decide +kernel
theorem dX11_least_26 : decode cX11_least 26 = .ok (.goto 12, 3) := by decide +kernel
theorem dX11_least_29 : decode cX11_least 29 = .ok (.aload_n 0, 1) := by decide +kernel
theorem dX11_least_30 : decode cX11_least 30 = .ok (.getfield 51, 3) := by decide +kernel
theorem dX11_least_33 : decode cX11_least 33 = .ok (.iload_n 2, 1) := by decide +kernel
theorem dX11_least_34 : decode cX11_least 34 = .ok (.iload_n 1, 1) := by decide +kernel
theorem dX11_least_35 : decode cX11_least 35 = .ok (.isub, 1) := by decide +kernel
theorem dX11_least_36 : decode cX11_least 36 = .ok (.laload, 1) := by decide +kernel
theorem dX11_least_37 : decode cX11_least 37 = .ok (.l2i, 1) := by decide +kernel
theorem dX11_least_38 : decode cX11_least 38 = .ok (.ireturn, 1) := by decide +kernel
theorem dX11_breaks_0 : decode cX11_breaks 0 = .ok (.iload_n 1, 1) := by decide +kernel
theorem dX11_breaks_1 : decode cX11_breaks 1 = .ok (.invokestatic 127, 3) := by decide +kernel
theorem dX11_breaks_4 : decode cX11_breaks 4 = .ok (.ifCond .ne 5, 3) := by decide +kernel
theorem dX11_breaks_7 : decode cX11_breaks 7 = .ok (.iconst (-1), 1) := by decide +kernel
theorem dX11_breaks_8 : decode cX11_breaks 8 = .ok (.ireturn, 1) := by decide +kernel
theorem dX11_breaks_9 : decode cX11_breaks 9 = .ok (.iconst 0, 1) := by decide +kernel
theorem dX11_breaks_10 : decode cX11_breaks 10 = .ok (.istore_n 2, 1) := by decide +kernel
theorem dX11_breaks_11 : decode cX11_breaks 11 = .ok (.iload_n 2, 1) := by decide +kernel
theorem dX11_breaks_12 : decode cX11_breaks 12 = .ok (.aload_n 0, 1) := by decide +kernel
theorem dX11_breaks_13 : decode cX11_breaks 13 = .ok (.getfield 221, 3) := by decide +kernel
theorem dX11_breaks_16 : decode cX11_breaks 16 = .ok (.if_icmp .ge 30, 3) := by decide +kernel
theorem dX11_breaks_19 : decode cX11_breaks 19 = .ok (.aload_n 0, 1) := by decide +kernel
theorem dX11_breaks_20 : decode cX11_breaks 20 = .ok (.iload_n 1, 1) := by decide +kernel
theorem dX11_breaks_21 : decode cX11_breaks 21 = .ok (.iload_n 2, 1) := by decide +kernel
theorem dX11_breaks_22 : decode cX11_breaks 22 = .ok (.aload_n 0, 1) := by decide +kernel
theorem dX11_breaks_23 : decode cX11_breaks 23 = .ok (.getfield 23, 3) := by decide +kernel
theorem dX11_breaks_26 : decode cX11_breaks 26 = .ok (.invokevirtual 164, 3) := by decide +kernel
theorem dX11_breaks_29 : decode cX11_breaks 29 = .ok (.aload_n 0, 1) := by decide +kernel
theorem dX11_breaks_30 : decode cX11_breaks 30 = .ok (.getfield 27, 3) := by decide +kernel
theorem dX11_breaks_33 : decode cX11_breaks 33 = .ok (.iload_n 2, 1) := by decide +kernel
theorem dX11_breaks_34 : decode cX11_breaks 34 = .ok (.iaload, 1) := by decide +kernel
theorem dX11_breaks_35 : decode cX11_breaks 35 = .ok (.if_icmp .eq 5, 3) := by decide +kernel
theorem dX11_breaks_38 : decode cX11_breaks 38 = .ok (.iload_n 2, 1) := by decide +kernel
theorem dX11_breaks_39 : decode cX11_breaks 39 = .ok (.ireturn, 1) := by decide +kernel
theorem dX11_breaks_40 : decode cX11_breaks 40 = .ok (.iinc 2 1, 3) := by decide +kernel
theorem dX11_breaks_43 : decode cX11_breaks 43 = .ok (.goto (-32), 3) := by decide +kernel
theorem dX11_breaks_46 : decode cX11_breaks 46 = .ok (.bipush (-4), 2) := by decide +kernel
theorem dX11_breaks_48 : decode cX11_breaks 48 = .ok (.ireturn, 1) := by decide +kernel
theorem dX11_next_0 : decode cX11_next 0 = .ok (.aload_n 0, 1) := by decide +kernel
theorem dX11_next_1 : decode cX11_next 1 = .ok (.getfield 221, 3) := by decide +kernel
theorem dX11_next_4 : decode cX11_next 4 = .ok (.ifCond .ne 6, 3) := by decide +kernel
theorem dX11_next_7 : decode cX11_next 7 = .ok (.bipush (-4), 2) := by decide +kernel
theorem dX11_next_9 : decode cX11_next 9 = .ok (.ireturn, 1) := by decide +kernel
theorem dX11_next_10 : decode cX11_next 10 = .ok (.aload_n 0, 1) := by decide +kernel
theorem dX11_next_11 : decode cX11_next 11 = .ok (.invokevirtual 229, 3) := by decide +kernel
theorem dX11_next_14 : decode cX11_next 14 = .ok (.istore_n 1, 1) := by decide +kernel
theorem dX11_next_15 : decode cX11_next 15 = .ok (.lconst 0, 1) := by decide +kernel
theorem dX11_next_16 : decode cX11_next 16 = .ok (.lstore_n 2, 1) := by decide +kernel
theorem dX11_next_17 : decode cX11_next 17 = .ok (.iconst 1, 1) := by decide +kernel
theorem dX11_next_18 : decode cX11_next 18 = .ok (.istore 4, 2) := by decide +kernel
theorem dX11_next_20 : decode cX11_next 20 = .ok (.iload 4, 2) := by decide +kernel
theorem dX11_next_22 : decode cX11_next 22 = .ok (.iload_n 1, 1) := by decide +kernel
theorem dX11_next_23 : decode cX11_next 23 = .ok (.if_icmp .gt 35, 3) := by decide +kernel
theorem dX11_next_26 : decode cX11_next 26 = .ok (.lload_n 2, 1) := by decide +kernel
theorem dX11_next_27 : decode cX11_next 27 = .ok (.aload_n 0, 1) := by decide +kernel
theorem dX11_next_28 : decode cX11_next 28 = .ok (.getfield 51, 3) := by decide +kernel
theorem dX11_next_31 : decode cX11_next 31 = .ok (.iload_n 1, 1) := by decide +kernel
theorem dX11_next_32 : decode cX11_next 32 = .ok (.iload 4, 2) := by decide +kernel
theorem dX11_next_34 : decode cX11_next 34 = .ok (.isub, 1) := by decide +kernel
theorem dX11_next_35 : decode cX11_next 35 = .ok (.laload, 1) := by decide +kernel
theorem dX11_next_36 : decode cX11_next 36 = .ok (.aload_n 0, 1) := by decide +kernel
theorem dX11_next_37 : decode cX11_next 37 = .ok (.getfield 27, 3) := by decide +kernel
theorem dX11_next_40 : decode cX11_next 40 = .ok (.aload_n 0, 1) := by decide +kernel
theorem dX11_next_41 : decode cX11_next 41 = .ok (.getfield 221, 3) := by decide +kernel
theorem dX11_next_44 : decode cX11_next 44 = .ok (.iload 4, 2) := by decide +kernel
theorem dX11_next_46 : decode cX11_next 46 = .ok (.isub, 1) := by decide +kernel
theorem dX11_next_47 : decode cX11_next 47 = .ok (.iaload, 1) := by decide +kernel
theorem dX11_next_48 : decode cX11_next 48 = .ok (.i2l, 1) := by decide +kernel
theorem dX11_next_49 : decode cX11_next 49 = .ok (.lmul, 1) := by decide +kernel
theorem dX11_next_50 : decode cX11_next 50 = .ok (.ladd, 1) := by decide +kernel
theorem dX11_next_51 : decode cX11_next 51 = .ok (.lstore_n 2, 1) := by decide +kernel
theorem dX11_next_52 : decode cX11_next 52 = .ok (.iinc 4 1, 3) := by decide +kernel
theorem dX11_next_55 : decode cX11_next 55 = .ok (.goto (-35), 3) := by decide +kernel
theorem dX11_next_58 : decode cX11_next 58 = .ok (.lload_n 2, 1) := by decide +kernel
theorem dX11_next_59 : decode cX11_next 59 = .ok (.aload_n 0, 1) := by decide +kernel
theorem dX11_next_60 : decode cX11_next 60 = .ok (.getfield 23, 3) := by decide +kernel
theorem dX11_next_63 : decode cX11_next 63 = .ok (.i2l, 1) := by decide +kernel
theorem dX11_next_64 : decode cX11_next 64 = .ok (.lrem, 1) := by decide +kernel
theorem dX11_next_65 : decode cX11_next 65 = .ok (.l2i, 1) := by decide +kernel
theorem dX11_next_66 : decode cX11_next 66 = .ok (.ireturn, 1) := by decide +kernel
theorem dX11_multiply_0 : decode cX11_multiply 0 = .ok (.aload_n 0, 1) := by decide +kernel
theorem dX11_multiply_1 : decode cX11_multiply 1 = .ok (.getfield 7, 3) := by decide +kernel
theorem dX11_multiply_4 : decode cX11_multiply 4 = .ok (.iload_n 1, 1) := by decide +kernel
theorem dX11_multiply_5 : decode cX11_multiply 5 = .ok (.iaload, 1) := by decide +kernel
theorem dX11_multiply_6 : decode cX11_multiply 6 = .ok (.istore_n 3, 1) := by decide +kernel
theorem dX11_multiply_7 : decode cX11_multiply 7 = .ok (.iload_n 2, 1) := by decide +kernel
theorem dX11_multiply_8 : decode cX11_multiply 8 = .ok (.ifCond .ge 7, 3) := by decide +kernel
theorem dX11_multiply_11 : decode cX11_multiply 11 = .ok (.iconst 1, 1) := by decide +kernel
theorem dX11_multiply_12 : decode cX11_multiply 12 = .ok (.goto 9, 3) := by decide +kernel
theorem dX11_multiply_15 : decode cX11_multiply 15 = .ok (.aload_n 0, 1) := by decide +kernel
theorem dX11_multiply_16 : decode cX11_multiply 16 = .ok (.getfield 7, 3) := by decide +kernel
theorem dX11_multiply_19 : decode cX11_multiply 19 = .ok (.iload_n 2, 1) := by decide +kernel
theorem dX11_multiply_20 : decode cX11_multiply 20 = .ok (.iaload, 1) := by decide +kernel
theorem dX11_multiply_21 : decode cX11_multiply 21 = .ok (.istore 4, 2) := by decide +kernel
theorem dX11_multiply_23 : decode cX11_multiply 23 = .ok (.iload_n 3, 1) := by decide +kernel
theorem dX11_multiply_24 : decode cX11_multiply 24 = .ok (.iload 4, 2) := by decide +kernel
theorem dX11_multiply_26 : decode cX11_multiply 26 = .ok (.iadd, 1) := by decide +kernel
theorem dX11_multiply_27 : decode cX11_multiply 27 = .ok (.bipush 6, 2) := by decide +kernel
theorem dX11_multiply_29 : decode cX11_multiply 29 = .ok (.if_icmp .le 5, 3) := by decide +kernel
theorem dX11_multiply_32 : decode cX11_multiply 32 = .ok (.iconst 0, 1) := by decide +kernel
theorem dX11_multiply_33 : decode cX11_multiply 33 = .ok (.ireturn, 1) := by decide +kernel
theorem dX11_multiply_34 : decode cX11_multiply 34 = .ok (.iconst 0, 1) := by decide +kernel
theorem dX11_multiply_35 : decode cX11_multiply 35 = .ok (.istore 5, 2) := by decide +kernel
theorem dX11_multiply_37 : decode cX11_multiply 37 = .ok (.iload 5, 2) := by decide +kernel
theorem dX11_multiply_39 : decode cX11_multiply 39 = .ok (.bipush 14, 2) := by decide +kernel
theorem dX11_multiply_41 : decode cX11_multiply 41 = .ok (.if_icmp .ge 17, 3) := by decide +kernel
theorem dX11_multiply_44 : decode cX11_multiply 44 = .ok (.aload_n 0, 1) := by decide +kernel
theorem dX11_multiply_45 : decode cX11_multiply 45 = .ok (.getfield 54, 3) := by decide +kernel
theorem dX11_multiply_48 : decode cX11_multiply 48 = .ok (.iload 5, 2) := by decide +kernel
theorem dX11_multiply_50 : decode cX11_multiply 50 = .ok (.lconst 0, 1) := by decide +kernel
theorem dX11_multiply_51 : decode cX11_multiply 51 = .ok (.lastore, 1) := by decide +kernel
theorem dX11_multiply_52 : decode cX11_multiply 52 = .ok (.iinc 5 1, 3) := by decide +kernel
theorem dX11_multiply_55 : decode cX11_multiply 55 = .ok (.goto (-18), 3) := by decide +kernel
theorem dX11_multiply_58 : decode cX11_multiply 58 = .ok (.iconst 0, 1) := by decide +kernel
theorem dX11_multiply_59 : decode cX11_multiply 59 = .ok (.istore 5, 2) := by decide +kernel
theorem dX11_multiply_61 : decode cX11_multiply 61 = .ok (.iload 5, 2) := by decide +kernel
theorem dX11_multiply_63 : decode cX11_multiply 63 = .ok (.iload_n 3, 1) := by decide +kernel
theorem dX11_multiply_64 : decode cX11_multiply 64 = .ok (.if_icmp .gt 105, 3) := by decide +kernel
theorem dX11_multiply_67 : decode cX11_multiply 67 = .ok (.iconst 0, 1) := by decide +kernel
theorem dX11_multiply_68 : decode cX11_multiply 68 = .ok (.istore 6, 2) := by decide +kernel
theorem dX11_multiply_70 : decode cX11_multiply 70 = .ok (.iload 6, 2) := by decide +kernel
theorem dX11_multiply_72 : decode cX11_multiply 72 = .ok (.iload 4, 2) := by decide +kernel
theorem dX11_multiply_74 : decode cX11_multiply 74 = .ok (.if_icmp .gt 89, 3) := by decide +kernel
theorem dX11_multiply_77 : decode cX11_multiply 77 = .ok (.iload 5, 2) := by decide +kernel
theorem dX11_multiply_79 : decode cX11_multiply 79 = .ok (.ifCond .ne 7, 3) := by decide +kernel
theorem dX11_multiply_82 : decode cX11_multiply 82 = .ok (.lconst 1, 1) := by decide +kernel
theorem dX11_multiply_83 : decode cX11_multiply 83 = .ok (.goto 18, 3) := by decide +kernel
theorem dX11_multiply_86 : decode cX11_multiply 86 = .ok (.aload_n 0, 1) := by decide +kernel
theorem dX11_multiply_87 : decode cX11_multiply 87 = .ok (.getfield 13, 3) := by decide +kernel
theorem dX11_multiply_90 : decode cX11_multiply 90 = .ok (.bipush 6, 2) := by decide +kernel
theorem dX11_multiply_92 : decode cX11_multiply 92 = .ok (.iload_n 1, 1) := by decide +kernel
theorem dX11_multiply_93 : decode cX11_multiply 93 = .ok (.imul, 1) := by decide +kernel
theorem dX11_multiply_94 : decode cX11_multiply 94 = .ok (.iload 5, 2) := by decide +kernel
theorem dX11_multiply_96 : decode cX11_multiply 96 = .ok (.iadd, 1) := by decide +kernel
theorem dX11_multiply_97 : decode cX11_multiply 97 = .ok (.iconst 1, 1) := by decide +kernel
theorem dX11_multiply_98 : decode cX11_multiply 98 = .ok (.isub, 1) := by decide +kernel
theorem dX11_multiply_99 : decode cX11_multiply 99 = .ok (.laload, 1) := by decide +kernel
theorem dX11_multiply_100 : decode cX11_multiply 100 = .ok (.lneg, 1) := by decide +kernel
theorem dX11_multiply_101 : decode cX11_multiply 101 = .ok (.lstore 7, 2) := by decide +kernel
theorem dX11_multiply_103 : decode cX11_multiply 103 = .ok (.iload 6, 2) := by decide +kernel
theorem dX11_multiply_105 : decode cX11_multiply 105 = .ok (.ifCond .ne 7, 3) := by decide +kernel
theorem dX11_multiply_108 : decode cX11_multiply 108 = .ok (.lconst 1, 1) := by decide +kernel
theorem dX11_multiply_109 : decode cX11_multiply 109 = .ok (.goto 28, 3) := by decide +kernel
theorem dX11_multiply_112 : decode cX11_multiply 112 = .ok (.iload_n 2, 1) := by decide +kernel
theorem dX11_multiply_113 : decode cX11_multiply 113 = .ok (.ifCond .ge 9, 3) := by decide +kernel
theorem dX11_multiply_116 : decode cX11_multiply 116 = .ok (.ldc2_w 224, 3) := by decide +kernel
theorem dX11_multiply_119 : decode cX11_multiply 119 = .ok (.goto 18, 3) := by decide +kernel
theorem dX11_multiply_122 : decode cX11_multiply 122 = .ok (.aload_n 0, 1) := by decide +kernel
theorem dX11_multiply_123 : decode cX11_multiply 123 = .ok (.getfield 13, 3) := by decide +kernel
theorem dX11_multiply_126 : decode cX11_multiply 126 = .ok (.bipush 6, 2) := by decide +kernel
theorem dX11_multiply_128 : decode cX11_multiply 128 = .ok (.iload_n 2, 1) := by decide +kernel
theorem dX11_multiply_129 : decode cX11_multiply 129 = .ok (.imul, 1) := by decide +kernel
theorem dX11_multiply_130 : decode cX11_multiply 130 = .ok (.iload 6, 2) := by decide +kernel
theorem dX11_multiply_132 : decode cX11_multiply 132 = .ok (.iadd, 1) := by decide +kernel
theorem dX11_multiply_133 : decode cX11_multiply 133 = .ok (.iconst 1, 1) := by decide +kernel
theorem dX11_multiply_134 : decode cX11_multiply 134 = .ok (.isub, 1) := by decide +kernel
theorem dX11_multiply_135 : decode cX11_multiply 135 = .ok (.laload, 1) := by decide +kernel
theorem dX11_multiply_136 : decode cX11_multiply 136 = .ok (.lneg, 1) := by decide +kernel
theorem dX11_multiply_137 : decode cX11_multiply 137 = .ok (.lstore 9, 2) := by decide +kernel
theorem dX11_multiply_139 : decode cX11_multiply 139 = .ok (.aload_n 0, 1) := by decide +kernel
theorem dX11_multiply_140 : decode cX11_multiply 140 = .ok (.getfield 54, 3) := by decide +kernel
theorem dX11_multiply_143 : decode cX11_multiply 143 = .ok (.iload 5, 2) := by decide +kernel
theorem dX11_multiply_145 : decode cX11_multiply 145 = .ok (.iload 6, 2) := by decide +kernel
theorem dX11_multiply_147 : decode cX11_multiply 147 = .ok (.iadd, 1) := by decide +kernel
theorem dX11_multiply_148 : decode cX11_multiply 148 = .ok (.dup2, 1) := by decide +kernel
theorem dX11_multiply_149 : decode cX11_multiply 149 = .ok (.laload, 1) := by decide +kernel
theorem dX11_multiply_150 : decode cX11_multiply 150 = .ok (.lload 7, 2) := by decide +kernel
theorem dX11_multiply_152 : decode cX11_multiply 152 = .ok (.lload 9, 2) := by decide +kernel
theorem dX11_multiply_154 : decode cX11_multiply 154 = .ok (.lmul, 1) := by decide +kernel
theorem dX11_multiply_155 : decode cX11_multiply 155 = .ok (.ladd, 1) := by decide +kernel
theorem dX11_multiply_156 : decode cX11_multiply 156 = .ok (.lastore, 1) := by decide +kernel
theorem dX11_multiply_157 : decode cX11_multiply 157 = .ok (.iinc 6 1, 3) := by decide +kernel
theorem dX11_multiply_160 : decode cX11_multiply 160 = .ok (.goto (-90), 3) := by decide +kernel
theorem dX11_multiply_163 : decode cX11_multiply 163 = .ok (.iinc 5 1, 3) := by decide +kernel
theorem dX11_multiply_166 : decode cX11_multiply 166 = .ok (.goto (-105), 3) := by decide +kernel
theorem dX11_multiply_169 : decode cX11_multiply 169 = .ok (.aload_n 0, 1) := by decide +kernel
theorem dX11_multiply_170 : decode cX11_multiply 170 = .ok (.getfield 7, 3) := by decide +kernel
theorem dX11_multiply_173 : decode cX11_multiply 173 = .ok (.bipush 6, 2) := by decide +kernel
theorem dX11_multiply_175 : decode cX11_multiply 175 = .ok (.iload_n 3, 1) := by decide +kernel
theorem dX11_multiply_176 : decode cX11_multiply 176 = .ok (.iload 4, 2) := by decide +kernel
theorem dX11_multiply_178 : decode cX11_multiply 178 = .ok (.iadd, 1) := by decide +kernel
theorem dX11_multiply_179 : decode cX11_multiply 179 = .ok (.iastore, 1) := by decide +kernel
theorem dX11_multiply_180 : decode cX11_multiply 180 = .ok (.iconst 1, 1) := by decide +kernel
theorem dX11_multiply_181 : decode cX11_multiply 181 = .ok (.istore 5, 2) := by decide +kernel
theorem dX11_multiply_183 : decode cX11_multiply 183 = .ok (.iconst 1, 1) := by decide +kernel
theorem dX11_multiply_184 : decode cX11_multiply 184 = .ok (.istore 6, 2) := by decide +kernel
theorem dX11_multiply_186 : decode cX11_multiply 186 = .ok (.iload 6, 2) := by decide +kernel
theorem dX11_multiply_188 : decode cX11_multiply 188 = .ok (.iload_n 3, 1) := by decide +kernel
theorem dX11_multiply_189 : decode cX11_multiply 189 = .ok (.iload 4, 2) := by decide +kernel
theorem dX11_multiply_191 : decode cX11_multiply 191 = .ok (.iadd, 1) := by decide +kernel
theorem dX11_multiply_192 : decode cX11_multiply 192 = .ok (.if_icmp .gt 58, 3) := by decide +kernel
theorem dX11_multiply_195 : decode cX11_multiply 195 = .ok (.aload_n 0, 1) := by decide +kernel
theorem dX11_multiply_196 : decode cX11_multiply 196 = .ok (.getfield 13, 3) := by decide +kernel
theorem dX11_multiply_199 : decode cX11_multiply 199 = .ok (.bipush 36, 2) := by decide +kernel
theorem dX11_multiply_201 : decode cX11_multiply 201 = .ok (.iload 6, 2) := by decide +kernel
theorem dX11_multiply_203 : decode cX11_multiply 203 = .ok (.iadd, 1) := by decide +kernel
theorem dX11_multiply_204 : decode cX11_multiply 204 = .ok (.iconst 1, 1) := by decide +kernel
theorem dX11_multiply_205 : decode cX11_multiply 205 = .ok (.isub, 1) := by decide +kernel
theorem dX11_multiply_206 : decode cX11_multiply 206 = .ok (.aload_n 0, 1) := by decide +kernel
theorem dX11_multiply_207 : decode cX11_multiply 207 = .ok (.getfield 54, 3) := by decide +kernel
theorem dX11_multiply_210 : decode cX11_multiply 210 = .ok (.iload 6, 2) := by decide +kernel
theorem dX11_multiply_212 : decode cX11_multiply 212 = .ok (.laload, 1) := by decide +kernel
theorem dX11_multiply_213 : decode cX11_multiply 213 = .ok (.lneg, 1) := by decide +kernel
theorem dX11_multiply_214 : decode cX11_multiply 214 = .ok (.lastore, 1) := by decide +kernel
theorem dX11_multiply_215 : decode cX11_multiply 215 = .ok (.iload 5, 2) := by decide +kernel
theorem dX11_multiply_217 : decode cX11_multiply 217 = .ok (.ifCond .eq 24, 3) := by decide +kernel
theorem dX11_multiply_220 : decode cX11_multiply 220 = .ok (.aload_n 0, 1) := by decide +kernel
theorem dX11_multiply_221 : decode cX11_multiply 221 = .ok (.getfield 54, 3) := by decide +kernel
theorem dX11_multiply_224 : decode cX11_multiply 224 = .ok (.iload 6, 2) := by decide +kernel
theorem dX11_multiply_226 : decode cX11_multiply 226 = .ok (.laload, 1) := by decide +kernel
theorem dX11_multiply_227 : decode cX11_multiply 227 = .ok (.invokestatic 84, 3) := by decide +kernel
theorem dX11_multiply_230 : decode cX11_multiply 230 = .ok (.ldc2_w 115, 3) := by decide +kernel
theorem dX11_multiply_233 : decode cX11_multiply 233 = .ok (.lcmp, 1) := by decide +kernel
theorem dX11_multiply_234 : decode cX11_multiply 234 = .ok (.ifCond .gt 7, 3) := by decide +kernel
theorem dX11_multiply_237 : decode cX11_multiply 237 = .ok (.iconst 1, 1) := by decide +kernel
theorem dX11_multiply_238 : decode cX11_multiply 238 = .ok (.goto 4, 3) := by decide +kernel
theorem dX11_multiply_241 : decode cX11_multiply 241 = .ok (.iconst 0, 1) := by decide +kernel
theorem dX11_multiply_242 : decode cX11_multiply 242 = .ok (.istore 5, 2) := by decide +kernel
theorem dX11_multiply_244 : decode cX11_multiply 244 = .ok (.iinc 6 1, 3) := by decide +kernel
theorem dX11_multiply_247 : decode cX11_multiply 247 = .ok (.goto (-61), 3) := by decide +kernel
theorem dX11_multiply_250 : decode cX11_multiply 250 = .ok (.iload 5, 2) := by decide +kernel
theorem dX11_multiply_252 : decode cX11_multiply 252 = .ok (.ireturn, 1) := by decide +kernel
theorem dX11_start_0 : decode cX11_start 0 = .ok (.aload_n 0, 1) := by decide +kernel
theorem dX11_start_1 : decode cX11_start 1 = .ok (.getfield 17, 3) := by decide +kernel
theorem dX11_start_4 : decode cX11_start 4 = .ok (.bipush 36, 2) := by decide +kernel
theorem dX11_start_6 : decode cX11_start 6 = .ok (.iload_n 1, 1) := by decide +kernel
theorem dX11_start_7 : decode cX11_start 7 = .ok (.iadd, 1) := by decide +kernel
theorem dX11_start_8 : decode cX11_start 8 = .ok (.lload_n 2, 1) := by decide +kernel
theorem dX11_start_9 : decode cX11_start 9 = .ok (.lastore, 1) := by decide +kernel
theorem dX11_start_10 : decode cX11_start 10 = .ok (.lload_n 2, 1) := by decide +kernel
theorem dX11_start_11 : decode cX11_start 11 = .ok (.invokestatic 84, 3) := by decide +kernel
theorem dX11_start_14 : decode cX11_start 14 = .ok (.ldc2_w 121, 3) := by decide +kernel
theorem dX11_start_17 : decode cX11_start 17 = .ok (.lcmp, 1) := by decide +kernel
theorem dX11_start_18 : decode cX11_start 18 = .ok (.ifCond .gt 7, 3) := by decide +kernel
theorem dX11_start_21 : decode cX11_start 21 = .ok (.iconst 1, 1) := by decide +kernel
theorem dX11_start_22 : decode cX11_start 22 = .ok (.goto 4, 3) := by decide +kernel
theorem dX11_start_25 : decode cX11_start 25 = .ok (.iconst 0, 1) := by decide +kernel
theorem dX11_start_26 : decode cX11_start 26 = .ok (.ireturn, 1) := by decide +kernel
theorem dX11_layPowers_0 : decode cX11_layPowers 0 = .ok (.aload_n 0, 1) := by decide +kernel
theorem dX11_layPowers_1 : decode cX11_layPowers 1 = .ok (.getfield 7, 3) := by decide +kernel
theorem dX11_layPowers_4 : decode cX11_layPowers 4 = .ok (.iload_n 1, 1) := by decide +kernel
theorem dX11_layPowers_5 : decode cX11_layPowers 5 = .ok (.iaload, 1) := by decide +kernel
theorem dX11_layPowers_6 : decode cX11_layPowers 6 = .ok (.istore 4, 2) := by decide +kernel
theorem dX11_layPowers_8 : decode cX11_layPowers 8 = .ok (.iconst 1, 1) := by decide +kernel
theorem dX11_layPowers_9 : decode cX11_layPowers 9 = .ok (.istore 5, 2) := by decide +kernel
theorem dX11_layPowers_11 : decode cX11_layPowers 11 = .ok (.iload 5, 2) := by decide +kernel
theorem dX11_layPowers_13 : decode cX11_layPowers 13 = .ok (.iload_n 2, 1) := by decide +kernel
theorem dX11_layPowers_14 : decode cX11_layPowers 14 = .ok (.if_icmp .gt 110, 3) := by decide +kernel
theorem dX11_layPowers_17 : decode cX11_layPowers 17 = .ok (.iload 5, 2) := by decide +kernel
theorem dX11_layPowers_19 : decode cX11_layPowers 19 = .ok (.iload 4, 2) := by decide +kernel
theorem dX11_layPowers_21 : decode cX11_layPowers 21 = .ok (.if_icmp .gt 24, 3) := by decide +kernel
theorem dX11_layPowers_24 : decode cX11_layPowers 24 = .ok (.iload 5, 2) := by decide +kernel
theorem dX11_layPowers_26 : decode cX11_layPowers 26 = .ok (.i2l, 1) := by decide +kernel
theorem dX11_layPowers_27 : decode cX11_layPowers 27 = .ok (.aload_n 0, 1) := by decide +kernel
theorem dX11_layPowers_28 : decode cX11_layPowers 28 = .ok (.getfield 13, 3) := by decide +kernel
theorem dX11_layPowers_31 : decode cX11_layPowers 31 = .ok (.bipush 6, 2) := by decide +kernel
theorem dX11_layPowers_33 : decode cX11_layPowers 33 = .ok (.iload_n 1, 1) := by decide +kernel
theorem dX11_layPowers_34 : decode cX11_layPowers 34 = .ok (.imul, 1) := by decide +kernel
theorem dX11_layPowers_35 : decode cX11_layPowers 35 = .ok (.iload 5, 2) := by decide +kernel
theorem dX11_layPowers_37 : decode cX11_layPowers 37 = .ok (.iadd, 1) := by decide +kernel
theorem dX11_layPowers_38 : decode cX11_layPowers 38 = .ok (.iconst 1, 1) := by decide +kernel
theorem dX11_layPowers_39 : decode cX11_layPowers 39 = .ok (.isub, 1) := by decide +kernel
theorem dX11_layPowers_40 : decode cX11_layPowers 40 = .ok (.laload, 1) := by decide +kernel
theorem dX11_layPowers_41 : decode cX11_layPowers 41 = .ok (.lmul, 1) := by decide +kernel
theorem dX11_layPowers_42 : decode cX11_layPowers 42 = .ok (.goto 4, 3) := by decide +kernel
theorem dX11_layPowers_45 : decode cX11_layPowers 45 = .ok (.lconst 0, 1) := by decide +kernel
theorem dX11_layPowers_46 : decode cX11_layPowers 46 = .ok (.lstore 6, 2) := by decide +kernel
theorem dX11_layPowers_48 : decode cX11_layPowers 48 = .ok (.iconst 1, 1) := by decide +kernel
theorem dX11_layPowers_49 : decode cX11_layPowers 49 = .ok (.istore 8, 2) := by decide +kernel
theorem dX11_layPowers_51 : decode cX11_layPowers 51 = .ok (.iload 8, 2) := by decide +kernel
theorem dX11_layPowers_53 : decode cX11_layPowers 53 = .ok (.iload 4, 2) := by decide +kernel
theorem dX11_layPowers_55 : decode cX11_layPowers 55 = .ok (.if_icmp .gt 43, 3) := by decide +kernel
theorem dX11_layPowers_58 : decode cX11_layPowers 58 = .ok (.iload 8, 2) := by decide +kernel
theorem dX11_layPowers_60 : decode cX11_layPowers 60 = .ok (.iload 5, 2) := by decide +kernel
theorem dX11_layPowers_62 : decode cX11_layPowers 62 = .ok (.if_icmp .ge 36, 3) := by decide +kernel
theorem dX11_layPowers_65 : decode cX11_layPowers 65 = .ok (.lload 6, 2) := by decide +kernel
theorem dX11_layPowers_67 : decode cX11_layPowers 67 = .ok (.aload_n 0, 1) := by decide +kernel
theorem dX11_layPowers_68 : decode cX11_layPowers 68 = .ok (.getfield 13, 3) := by decide +kernel
theorem dX11_layPowers_71 : decode cX11_layPowers 71 = .ok (.bipush 6, 2) := by decide +kernel
theorem dX11_layPowers_73 : decode cX11_layPowers 73 = .ok (.iload_n 1, 1) := by decide +kernel
theorem dX11_layPowers_74 : decode cX11_layPowers 74 = .ok (.imul, 1) := by decide +kernel
theorem dX11_layPowers_75 : decode cX11_layPowers 75 = .ok (.iload 8, 2) := by decide +kernel
theorem dX11_layPowers_77 : decode cX11_layPowers 77 = .ok (.iadd, 1) := by decide +kernel
theorem dX11_layPowers_78 : decode cX11_layPowers 78 = .ok (.iconst 1, 1) := by decide +kernel
theorem dX11_layPowers_79 : decode cX11_layPowers 79 = .ok (.isub, 1) := by decide +kernel
theorem dX11_layPowers_80 : decode cX11_layPowers 80 = .ok (.laload, 1) := by decide +kernel
theorem dX11_layPowers_81 : decode cX11_layPowers 81 = .ok (.aload_n 3, 1) := by decide +kernel
theorem dX11_layPowers_82 : decode cX11_layPowers 82 = .ok (.iload 5, 2) := by decide +kernel
theorem dX11_layPowers_84 : decode cX11_layPowers 84 = .ok (.iload 8, 2) := by decide +kernel
theorem dX11_layPowers_86 : decode cX11_layPowers 86 = .ok (.isub, 1) := by decide +kernel
theorem dX11_layPowers_87 : decode cX11_layPowers 87 = .ok (.laload, 1) := by decide +kernel
theorem dX11_layPowers_88 : decode cX11_layPowers 88 = .ok (.lmul, 1) := by decide +kernel
theorem dX11_layPowers_89 : decode cX11_layPowers 89 = .ok (.ladd, 1) := by decide +kernel
theorem dX11_layPowers_90 : decode cX11_layPowers 90 = .ok (.lstore 6, 2) := by decide +kernel
theorem dX11_layPowers_92 : decode cX11_layPowers 92 = .ok (.iinc 8 1, 3) := by decide +kernel
theorem dX11_layPowers_95 : decode cX11_layPowers 95 = .ok (.goto (-44), 3) := by decide +kernel
theorem dX11_layPowers_98 : decode cX11_layPowers 98 = .ok (.lload 6, 2) := by decide +kernel
theorem dX11_layPowers_100 : decode cX11_layPowers 100 = .ok (.invokestatic 84, 3) := by decide +kernel
theorem dX11_layPowers_103 : decode cX11_layPowers 103 = .ok (.ldc2_w 140, 3) := by decide +kernel
theorem dX11_layPowers_106 : decode cX11_layPowers 106 = .ok (.lcmp, 1) := by decide +kernel
theorem dX11_layPowers_107 : decode cX11_layPowers 107 = .ok (.ifCond .le 5, 3) := by decide +kernel
theorem dX11_layPowers_110 : decode cX11_layPowers 110 = .ok (.iconst 0, 1) := by decide +kernel
theorem dX11_layPowers_111 : decode cX11_layPowers 111 = .ok (.ireturn, 1) := by decide +kernel
theorem dX11_layPowers_112 : decode cX11_layPowers 112 = .ok (.aload_n 3, 1) := by decide +kernel
theorem dX11_layPowers_113 : decode cX11_layPowers 113 = .ok (.iload 5, 2) := by decide +kernel
theorem dX11_layPowers_115 : decode cX11_layPowers 115 = .ok (.lload 6, 2) := by decide +kernel
theorem dX11_layPowers_117 : decode cX11_layPowers 117 = .ok (.lastore, 1) := by decide +kernel
theorem dX11_layPowers_118 : decode cX11_layPowers 118 = .ok (.iinc 5 1, 3) := by decide +kernel
theorem dX11_layPowers_121 : decode cX11_layPowers 121 = .ok (.goto (-110), 3) := by decide +kernel
theorem dX11_layPowers_124 : decode cX11_layPowers 124 = .ok (.iconst 1, 1) := by decide +kernel
theorem dX11_layPowers_125 : decode cX11_layPowers 125 = .ok (.ireturn, 1) := by decide +kernel
theorem dX11_fromPowers_0 : decode cX11_fromPowers 0 = .ok (.aload_n 0, 1) := by decide +kernel
theorem dX11_fromPowers_1 : decode cX11_fromPowers 1 = .ok (.getfield 7, 3) := by decide +kernel
theorem dX11_fromPowers_4 : decode cX11_fromPowers 4 = .ok (.bipush 6, 2) := by decide +kernel
theorem dX11_fromPowers_6 : decode cX11_fromPowers 6 = .ok (.iload_n 1, 1) := by decide +kernel
theorem dX11_fromPowers_7 : decode cX11_fromPowers 7 = .ok (.iastore, 1) := by decide +kernel
theorem dX11_fromPowers_8 : decode cX11_fromPowers 8 = .ok (.iconst 1, 1) := by decide +kernel
theorem dX11_fromPowers_9 : decode cX11_fromPowers 9 = .ok (.istore_n 2, 1) := by decide +kernel
theorem dX11_fromPowers_10 : decode cX11_fromPowers 10 = .ok (.iload_n 2, 1) := by decide +kernel
theorem dX11_fromPowers_11 : decode cX11_fromPowers 11 = .ok (.iload_n 1, 1) := by decide +kernel
theorem dX11_fromPowers_12 : decode cX11_fromPowers 12 = .ok (.if_icmp .gt 87, 3) := by decide +kernel
theorem dX11_fromPowers_15 : decode cX11_fromPowers 15 = .ok (.aload_n 0, 1) := by decide +kernel
theorem dX11_fromPowers_16 : decode cX11_fromPowers 16 = .ok (.getfield 63, 3) := by decide +kernel
theorem dX11_fromPowers_19 : decode cX11_fromPowers 19 = .ok (.iload_n 2, 1) := by decide +kernel
theorem dX11_fromPowers_20 : decode cX11_fromPowers 20 = .ok (.laload, 1) := by decide +kernel
theorem dX11_fromPowers_21 : decode cX11_fromPowers 21 = .ok (.lstore_n 3, 1) := by decide +kernel
theorem dX11_fromPowers_22 : decode cX11_fromPowers 22 = .ok (.iconst 1, 1) := by decide +kernel
theorem dX11_fromPowers_23 : decode cX11_fromPowers 23 = .ok (.istore 5, 2) := by decide +kernel
theorem dX11_fromPowers_25 : decode cX11_fromPowers 25 = .ok (.iload 5, 2) := by decide +kernel
theorem dX11_fromPowers_27 : decode cX11_fromPowers 27 = .ok (.iload_n 2, 1) := by decide +kernel
theorem dX11_fromPowers_28 : decode cX11_fromPowers 28 = .ok (.if_icmp .ge 34, 3) := by decide +kernel
theorem dX11_fromPowers_31 : decode cX11_fromPowers 31 = .ok (.lload_n 3, 1) := by decide +kernel
theorem dX11_fromPowers_32 : decode cX11_fromPowers 32 = .ok (.aload_n 0, 1) := by decide +kernel
theorem dX11_fromPowers_33 : decode cX11_fromPowers 33 = .ok (.getfield 13, 3) := by decide +kernel
theorem dX11_fromPowers_36 : decode cX11_fromPowers 36 = .ok (.bipush 36, 2) := by decide +kernel
theorem dX11_fromPowers_38 : decode cX11_fromPowers 38 = .ok (.iload 5, 2) := by decide +kernel
theorem dX11_fromPowers_40 : decode cX11_fromPowers 40 = .ok (.iadd, 1) := by decide +kernel
theorem dX11_fromPowers_41 : decode cX11_fromPowers 41 = .ok (.iconst 1, 1) := by decide +kernel
theorem dX11_fromPowers_42 : decode cX11_fromPowers 42 = .ok (.isub, 1) := by decide +kernel
theorem dX11_fromPowers_43 : decode cX11_fromPowers 43 = .ok (.laload, 1) := by decide +kernel
theorem dX11_fromPowers_44 : decode cX11_fromPowers 44 = .ok (.aload_n 0, 1) := by decide +kernel
theorem dX11_fromPowers_45 : decode cX11_fromPowers 45 = .ok (.getfield 63, 3) := by decide +kernel
theorem dX11_fromPowers_48 : decode cX11_fromPowers 48 = .ok (.iload_n 2, 1) := by decide +kernel
theorem dX11_fromPowers_49 : decode cX11_fromPowers 49 = .ok (.iload 5, 2) := by decide +kernel
theorem dX11_fromPowers_51 : decode cX11_fromPowers 51 = .ok (.isub, 1) := by decide +kernel
theorem dX11_fromPowers_52 : decode cX11_fromPowers 52 = .ok (.laload, 1) := by decide +kernel
theorem dX11_fromPowers_53 : decode cX11_fromPowers 53 = .ok (.lmul, 1) := by decide +kernel
theorem dX11_fromPowers_54 : decode cX11_fromPowers 54 = .ok (.lsub, 1) := by decide +kernel
theorem dX11_fromPowers_55 : decode cX11_fromPowers 55 = .ok (.lstore_n 3, 1) := by decide +kernel
theorem dX11_fromPowers_56 : decode cX11_fromPowers 56 = .ok (.iinc 5 1, 3) := by decide +kernel
theorem dX11_fromPowers_59 : decode cX11_fromPowers 59 = .ok (.goto (-34), 3) := by decide +kernel
theorem dX11_fromPowers_62 : decode cX11_fromPowers 62 = .ok (.lload_n 3, 1) := by decide +kernel
theorem dX11_fromPowers_63 : decode cX11_fromPowers 63 = .ok (.iload_n 2, 1) := by decide +kernel
theorem dX11_fromPowers_64 : decode cX11_fromPowers 64 = .ok (.i2l, 1) := by decide +kernel
theorem dX11_fromPowers_65 : decode cX11_fromPowers 65 = .ok (.ldiv, 1) := by decide +kernel
theorem dX11_fromPowers_66 : decode cX11_fromPowers 66 = .ok (.invokestatic 84, 3) := by decide +kernel
theorem dX11_fromPowers_69 : decode cX11_fromPowers 69 = .ok (.ldc2_w 115, 3) := by decide +kernel
theorem dX11_fromPowers_72 : decode cX11_fromPowers 72 = .ok (.lcmp, 1) := by decide +kernel
theorem dX11_fromPowers_73 : decode cX11_fromPowers 73 = .ok (.ifCond .le 5, 3) := by decide +kernel
theorem dX11_fromPowers_76 : decode cX11_fromPowers 76 = .ok (.iconst 0, 1) := by decide +kernel
theorem dX11_fromPowers_77 : decode cX11_fromPowers 77 = .ok (.ireturn, 1) := by decide +kernel
theorem dX11_fromPowers_78 : decode cX11_fromPowers 78 = .ok (.aload_n 0, 1) := by decide +kernel
theorem dX11_fromPowers_79 : decode cX11_fromPowers 79 = .ok (.getfield 13, 3) := by decide +kernel
theorem dX11_fromPowers_82 : decode cX11_fromPowers 82 = .ok (.bipush 36, 2) := by decide +kernel
theorem dX11_fromPowers_84 : decode cX11_fromPowers 84 = .ok (.iload_n 2, 1) := by decide +kernel
theorem dX11_fromPowers_85 : decode cX11_fromPowers 85 = .ok (.iadd, 1) := by decide +kernel
theorem dX11_fromPowers_86 : decode cX11_fromPowers 86 = .ok (.iconst 1, 1) := by decide +kernel
theorem dX11_fromPowers_87 : decode cX11_fromPowers 87 = .ok (.isub, 1) := by decide +kernel
theorem dX11_fromPowers_88 : decode cX11_fromPowers 88 = .ok (.lload_n 3, 1) := by decide +kernel
theorem dX11_fromPowers_89 : decode cX11_fromPowers 89 = .ok (.iload_n 2, 1) := by decide +kernel
theorem dX11_fromPowers_90 : decode cX11_fromPowers 90 = .ok (.i2l, 1) := by decide +kernel
theorem dX11_fromPowers_91 : decode cX11_fromPowers 91 = .ok (.ldiv, 1) := by decide +kernel
theorem dX11_fromPowers_92 : decode cX11_fromPowers 92 = .ok (.lastore, 1) := by decide +kernel
theorem dX11_fromPowers_93 : decode cX11_fromPowers 93 = .ok (.iinc 2 1, 3) := by decide +kernel
theorem dX11_fromPowers_96 : decode cX11_fromPowers 96 = .ok (.goto (-86), 3) := by decide +kernel
theorem dX11_fromPowers_99 : decode cX11_fromPowers 99 = .ok (.iconst 1, 1) := by decide +kernel
theorem dX11_fromPowers_100 : decode cX11_fromPowers 100 = .ok (.ireturn, 1) := by decide +kernel
theorem dX11_layFirst_0 : decode cX11_layFirst 0 = .ok (.aload_n 0, 1) := by decide +kernel
theorem dX11_layFirst_1 : decode cX11_layFirst 1 = .ok (.iload_n 1, 1) := by decide +kernel
theorem dX11_layFirst_2 : decode cX11_layFirst 2 = .ok (.iload_n 2, 1) := by decide +kernel
theorem dX11_layFirst_3 : decode cX11_layFirst 3 = .ok (.iconst 1, 1) := by decide +kernel
theorem dX11_layFirst_4 : decode cX11_layFirst 4 = .ok (.isub, 1) := by decide +kernel
theorem dX11_layFirst_5 : decode cX11_layFirst 5 = .ok (.invokevirtual 150, 3) := by decide +kernel
theorem dX11_layFirst_8 : decode cX11_layFirst 8 = .ok (.iload_n 2, 1) := by decide +kernel
theorem dX11_layFirst_9 : decode cX11_layFirst 9 = .ok (.if_icmp .ge 5, 3) := by decide +kernel
theorem dX11_layFirst_12 : decode cX11_layFirst 12 = .ok (.iconst 0, 1) := by decide +kernel
theorem dX11_layFirst_13 : decode cX11_layFirst 13 = .ok (.ireturn, 1) := by decide +kernel
theorem dX11_layFirst_14 : decode cX11_layFirst 14 = .ok (.iconst 0, 1) := by decide +kernel
theorem dX11_layFirst_15 : decode cX11_layFirst 15 = .ok (.istore_n 3, 1) := by decide +kernel
theorem dX11_layFirst_16 : decode cX11_layFirst 16 = .ok (.iload_n 3, 1) := by decide +kernel
theorem dX11_layFirst_17 : decode cX11_layFirst 17 = .ok (.iload_n 2, 1) := by decide +kernel
theorem dX11_layFirst_18 : decode cX11_layFirst 18 = .ok (.if_icmp .ge 27, 3) := by decide +kernel
theorem dX11_layFirst_21 : decode cX11_layFirst 21 = .ok (.iload_n 3, 1) := by decide +kernel
theorem dX11_layFirst_22 : decode cX11_layFirst 22 = .ok (.bipush 100, 2) := by decide +kernel
theorem dX11_layFirst_24 : decode cX11_layFirst 24 = .ok (.if_icmp .ge 21, 3) := by decide +kernel
theorem dX11_layFirst_27 : decode cX11_layFirst 27 = .ok (.aload_n 0, 1) := by decide +kernel
theorem dX11_layFirst_28 : decode cX11_layFirst 28 = .ok (.getfield 66, 3) := by decide +kernel
theorem dX11_layFirst_31 : decode cX11_layFirst 31 = .ok (.iload_n 3, 1) := by decide +kernel
theorem dX11_layFirst_32 : decode cX11_layFirst 32 = .ok (.aload_n 0, 1) := by decide +kernel
theorem dX11_layFirst_33 : decode cX11_layFirst 33 = .ok (.getfield 30, 3) := by decide +kernel
theorem dX11_layFirst_36 : decode cX11_layFirst 36 = .ok (.iload_n 3, 1) := by decide +kernel
theorem dX11_layFirst_37 : decode cX11_layFirst 37 = .ok (.laload, 1) := by decide +kernel
theorem dX11_layFirst_38 : decode cX11_layFirst 38 = .ok (.lastore, 1) := by decide +kernel
theorem dX11_layFirst_39 : decode cX11_layFirst 39 = .ok (.iinc 3 1, 3) := by decide +kernel
theorem dX11_layFirst_42 : decode cX11_layFirst 42 = .ok (.goto (-26), 3) := by decide +kernel
theorem dX11_layFirst_45 : decode cX11_layFirst 45 = .ok (.iconst 1, 1) := by decide +kernel
theorem dX11_layFirst_46 : decode cX11_layFirst 46 = .ok (.ireturn, 1) := by decide +kernel
theorem dX11_isGreat_0 : decode cX11_isGreat 0 = .ok (.lload_n 0, 1) := by decide +kernel
theorem dX11_isGreat_1 : decode cX11_isGreat 1 = .ok (.lconst 0, 1) := by decide +kernel
theorem dX11_isGreat_2 : decode cX11_isGreat 2 = .ok (.lcmp, 1) := by decide +kernel
theorem dX11_isGreat_3 : decode cX11_isGreat 3 = .ok (.ifCond .eq 29, 3) := by decide +kernel
theorem dX11_isGreat_6 : decode cX11_isGreat 6 = .ok (.lload_n 2, 1) := by decide +kernel
theorem dX11_isGreat_7 : decode cX11_isGreat 7 = .ok (.lconst 0, 1) := by decide +kernel
theorem dX11_isGreat_8 : decode cX11_isGreat 8 = .ok (.lcmp, 1) := by decide +kernel
theorem dX11_isGreat_9 : decode cX11_isGreat 9 = .ok (.ifCond .eq 23, 3) := by decide +kernel
theorem dX11_isGreat_12 : decode cX11_isGreat 12 = .ok (.lload_n 0, 1) := by decide +kernel
theorem dX11_isGreat_13 : decode cX11_isGreat 13 = .ok (.invokestatic 84, 3) := by decide +kernel
theorem dX11_isGreat_16 : decode cX11_isGreat 16 = .ok (.ldc2_w 232, 3) := by decide +kernel
theorem dX11_isGreat_19 : decode cX11_isGreat 19 = .ok (.lload_n 2, 1) := by decide +kernel
theorem dX11_isGreat_20 : decode cX11_isGreat 20 = .ok (.invokestatic 84, 3) := by decide +kernel
theorem dX11_isGreat_23 : decode cX11_isGreat 23 = .ok (.ldiv, 1) := by decide +kernel
theorem dX11_isGreat_24 : decode cX11_isGreat 24 = .ok (.lcmp, 1) := by decide +kernel
theorem dX11_isGreat_25 : decode cX11_isGreat 25 = .ok (.ifCond .le 7, 3) := by decide +kernel
theorem dX11_isGreat_28 : decode cX11_isGreat 28 = .ok (.iconst 1, 1) := by decide +kernel
theorem dX11_isGreat_29 : decode cX11_isGreat 29 = .ok (.goto 4, 3) := by decide +kernel
theorem dX11_isGreat_32 : decode cX11_isGreat 32 = .ok (.iconst 0, 1) := by decide +kernel
theorem dX11_isGreat_33 : decode cX11_isGreat 33 = .ok (.ireturn, 1) := by decide +kernel
theorem dX11_makeSum_0 : decode cX11_makeSum 0 = .ok (.aload_n 0, 1) := by decide +kernel
theorem dX11_makeSum_1 : decode cX11_makeSum 1 = .ok (.iload_n 1, 1) := by decide +kernel
theorem dX11_makeSum_2 : decode cX11_makeSum 2 = .ok (.iload_n 2, 1) := by decide +kernel
theorem dX11_makeSum_3 : decode cX11_makeSum 3 = .ok (.invokevirtual 234, 3) := by decide +kernel
theorem dX11_makeSum_6 : decode cX11_makeSum 6 = .ok (.ifCond .eq 42, 3) := by decide +kernel
theorem dX11_makeSum_9 : decode cX11_makeSum 9 = .ok (.aload_n 0, 1) := by decide +kernel
theorem dX11_makeSum_10 : decode cX11_makeSum 10 = .ok (.iload_n 1, 1) := by decide +kernel
theorem dX11_makeSum_11 : decode cX11_makeSum 11 = .ok (.aload_n 0, 1) := by decide +kernel
theorem dX11_makeSum_12 : decode cX11_makeSum 12 = .ok (.getfield 7, 3) := by decide +kernel
theorem dX11_makeSum_15 : decode cX11_makeSum 15 = .ok (.bipush 6, 2) := by decide +kernel
theorem dX11_makeSum_17 : decode cX11_makeSum 17 = .ok (.iaload, 1) := by decide +kernel
theorem dX11_makeSum_18 : decode cX11_makeSum 18 = .ok (.invokevirtual 237, 3) := by decide +kernel
theorem dX11_makeSum_21 : decode cX11_makeSum 21 = .ok (.ifCond .eq 27, 3) := by decide +kernel
theorem dX11_makeSum_24 : decode cX11_makeSum 24 = .ok (.aload_n 0, 1) := by decide +kernel
theorem dX11_makeSum_25 : decode cX11_makeSum 25 = .ok (.iload_n 2, 1) := by decide +kernel
theorem dX11_makeSum_26 : decode cX11_makeSum 26 = .ok (.aload_n 0, 1) := by decide +kernel
theorem dX11_makeSum_27 : decode cX11_makeSum 27 = .ok (.getfield 7, 3) := by decide +kernel
theorem dX11_makeSum_30 : decode cX11_makeSum 30 = .ok (.bipush 6, 2) := by decide +kernel
theorem dX11_makeSum_32 : decode cX11_makeSum 32 = .ok (.iaload, 1) := by decide +kernel
theorem dX11_makeSum_33 : decode cX11_makeSum 33 = .ok (.iconst 1, 1) := by decide +kernel
theorem dX11_makeSum_34 : decode cX11_makeSum 34 = .ok (.isub, 1) := by decide +kernel
theorem dX11_makeSum_35 : decode cX11_makeSum 35 = .ok (.invokevirtual 150, 3) := by decide +kernel
theorem dX11_makeSum_38 : decode cX11_makeSum 38 = .ok (.aload_n 0, 1) := by decide +kernel
theorem dX11_makeSum_39 : decode cX11_makeSum 39 = .ok (.getfield 7, 3) := by decide +kernel
theorem dX11_makeSum_42 : decode cX11_makeSum 42 = .ok (.bipush 6, 2) := by decide +kernel
theorem dX11_makeSum_44 : decode cX11_makeSum 44 = .ok (.iaload, 1) := by decide +kernel
theorem dX11_makeSum_45 : decode cX11_makeSum 45 = .ok (.if_icmp .ge 5, 3) := by decide +kernel
theorem dX11_makeSum_48 : decode cX11_makeSum 48 = .ok (.iconst 0, 1) := by decide +kernel
theorem dX11_makeSum_49 : decode cX11_makeSum 49 = .ok (.ireturn, 1) := by decide +kernel
theorem dX11_makeSum_50 : decode cX11_makeSum 50 = .ok (.iconst 1, 1) := by decide +kernel
theorem dX11_makeSum_51 : decode cX11_makeSum 51 = .ok (.istore 4, 2) := by decide +kernel
theorem dX11_makeSum_53 : decode cX11_makeSum 53 = .ok (.iconst 0, 1) := by decide +kernel
theorem dX11_makeSum_54 : decode cX11_makeSum 54 = .ok (.istore 5, 2) := by decide +kernel
theorem dX11_makeSum_56 : decode cX11_makeSum 56 = .ok (.iload 5, 2) := by decide +kernel
theorem dX11_makeSum_58 : decode cX11_makeSum 58 = .ok (.aload_n 0, 1) := by decide +kernel
theorem dX11_makeSum_59 : decode cX11_makeSum 59 = .ok (.getfield 7, 3) := by decide +kernel
theorem dX11_makeSum_62 : decode cX11_makeSum 62 = .ok (.bipush 6, 2) := by decide +kernel
theorem dX11_makeSum_64 : decode cX11_makeSum 64 = .ok (.iaload, 1) := by decide +kernel
theorem dX11_makeSum_65 : decode cX11_makeSum 65 = .ok (.if_icmp .ge 60, 3) := by decide +kernel
theorem dX11_makeSum_68 : decode cX11_makeSum 68 = .ok (.aload_n 0, 1) := by decide +kernel
theorem dX11_makeSum_69 : decode cX11_makeSum 69 = .ok (.iload 5, 2) := by decide +kernel
theorem dX11_makeSum_71 : decode cX11_makeSum 71 = .ok (.aload_n 0, 1) := by decide +kernel
theorem dX11_makeSum_72 : decode cX11_makeSum 72 = .ok (.getfield 66, 3) := by decide +kernel
theorem dX11_makeSum_75 : decode cX11_makeSum 75 = .ok (.iload 5, 2) := by decide +kernel
theorem dX11_makeSum_77 : decode cX11_makeSum 77 = .ok (.laload, 1) := by decide +kernel
theorem dX11_makeSum_78 : decode cX11_makeSum 78 = .ok (.iload_n 3, 1) := by decide +kernel
theorem dX11_makeSum_79 : decode cX11_makeSum 79 = .ok (.ifCond .eq 14, 3) := by decide +kernel
theorem dX11_makeSum_82 : decode cX11_makeSum 82 = .ok (.aload_n 0, 1) := by decide +kernel
theorem dX11_makeSum_83 : decode cX11_makeSum 83 = .ok (.getfield 30, 3) := by decide +kernel
theorem dX11_makeSum_86 : decode cX11_makeSum 86 = .ok (.iload 5, 2) := by decide +kernel
theorem dX11_makeSum_88 : decode cX11_makeSum 88 = .ok (.laload, 1) := by decide +kernel
theorem dX11_makeSum_89 : decode cX11_makeSum 89 = .ok (.lneg, 1) := by decide +kernel
theorem dX11_makeSum_90 : decode cX11_makeSum 90 = .ok (.goto 10, 3) := by decide +kernel
theorem dX11_makeSum_93 : decode cX11_makeSum 93 = .ok (.aload_n 0, 1) := by decide +kernel
theorem dX11_makeSum_94 : decode cX11_makeSum 94 = .ok (.getfield 30, 3) := by decide +kernel
theorem dX11_makeSum_97 : decode cX11_makeSum 97 = .ok (.iload 5, 2) := by decide +kernel
theorem dX11_makeSum_99 : decode cX11_makeSum 99 = .ok (.laload, 1) := by decide +kernel
theorem dX11_makeSum_100 : decode cX11_makeSum 100 = .ok (.ladd, 1) := by decide +kernel
theorem dX11_makeSum_101 : decode cX11_makeSum 101 = .ok (.invokevirtual 240, 3) := by decide +kernel
theorem dX11_makeSum_104 : decode cX11_makeSum 104 = .ok (.ifCond .eq 12, 3) := by decide +kernel
theorem dX11_makeSum_107 : decode cX11_makeSum 107 = .ok (.iload 4, 2) := by decide +kernel
theorem dX11_makeSum_109 : decode cX11_makeSum 109 = .ok (.ifCond .eq 7, 3) := by decide +kernel
theorem dX11_makeSum_112 : decode cX11_makeSum 112 = .ok (.iconst 1, 1) := by decide +kernel
theorem dX11_makeSum_113 : decode cX11_makeSum 113 = .ok (.goto 4, 3) := by decide +kernel
theorem dX11_makeSum_116 : decode cX11_makeSum 116 = .ok (.iconst 0, 1) := by decide +kernel
theorem dX11_makeSum_117 : decode cX11_makeSum 117 = .ok (.istore 4, 2) := by decide +kernel
theorem dX11_makeSum_119 : decode cX11_makeSum 119 = .ok (.iinc 5 1, 3) := by decide +kernel
theorem dX11_makeSum_122 : decode cX11_makeSum 122 = .ok (.goto (-66), 3) := by decide +kernel
theorem dX11_makeSum_125 : decode cX11_makeSum 125 = .ok (.iload 4, 2) := by decide +kernel
theorem dX11_makeSum_127 : decode cX11_makeSum 127 = .ok (.ireturn, 1) := by decide +kernel
theorem dX11_makeProduct_0 : decode cX11_makeProduct 0 = .ok (.aload_n 0, 1) := by decide +kernel
theorem dX11_makeProduct_1 : decode cX11_makeProduct 1 = .ok (.getfield 7, 3) := by decide +kernel
theorem dX11_makeProduct_4 : decode cX11_makeProduct 4 = .ok (.iload_n 1, 1) := by decide +kernel
theorem dX11_makeProduct_5 : decode cX11_makeProduct 5 = .ok (.iaload, 1) := by decide +kernel
theorem dX11_makeProduct_6 : decode cX11_makeProduct 6 = .ok (.aload_n 0, 1) := by decide +kernel
theorem dX11_makeProduct_7 : decode cX11_makeProduct 7 = .ok (.getfield 7, 3) := by decide +kernel
theorem dX11_makeProduct_10 : decode cX11_makeProduct 10 = .ok (.iload_n 2, 1) := by decide +kernel
theorem dX11_makeProduct_11 : decode cX11_makeProduct 11 = .ok (.iaload, 1) := by decide +kernel
theorem dX11_makeProduct_12 : decode cX11_makeProduct 12 = .ok (.imul, 1) := by decide +kernel
theorem dX11_makeProduct_13 : decode cX11_makeProduct 13 = .ok (.istore_n 3, 1) := by decide +kernel
theorem dX11_makeProduct_14 : decode cX11_makeProduct 14 = .ok (.iload_n 3, 1) := by decide +kernel
theorem dX11_makeProduct_15 : decode cX11_makeProduct 15 = .ok (.bipush 6, 2) := by decide +kernel
theorem dX11_makeProduct_17 : decode cX11_makeProduct 17 = .ok (.if_icmp .gt 29, 3) := by decide +kernel
theorem dX11_makeProduct_20 : decode cX11_makeProduct 20 = .ok (.aload_n 0, 1) := by decide +kernel
theorem dX11_makeProduct_21 : decode cX11_makeProduct 21 = .ok (.iload_n 1, 1) := by decide +kernel
theorem dX11_makeProduct_22 : decode cX11_makeProduct 22 = .ok (.iload_n 3, 1) := by decide +kernel
theorem dX11_makeProduct_23 : decode cX11_makeProduct 23 = .ok (.aload_n 0, 1) := by decide +kernel
theorem dX11_makeProduct_24 : decode cX11_makeProduct 24 = .ok (.getfield 57, 3) := by decide +kernel
theorem dX11_makeProduct_27 : decode cX11_makeProduct 27 = .ok (.invokevirtual 244, 3) := by decide +kernel
theorem dX11_makeProduct_30 : decode cX11_makeProduct 30 = .ok (.ifCond .eq 16, 3) := by decide +kernel
theorem dX11_makeProduct_33 : decode cX11_makeProduct 33 = .ok (.aload_n 0, 1) := by decide +kernel
theorem dX11_makeProduct_34 : decode cX11_makeProduct 34 = .ok (.iload_n 2, 1) := by decide +kernel
theorem dX11_makeProduct_35 : decode cX11_makeProduct 35 = .ok (.iload_n 3, 1) := by decide +kernel
theorem dX11_makeProduct_36 : decode cX11_makeProduct 36 = .ok (.aload_n 0, 1) := by decide +kernel
theorem dX11_makeProduct_37 : decode cX11_makeProduct 37 = .ok (.getfield 60, 3) := by decide +kernel
theorem dX11_makeProduct_40 : decode cX11_makeProduct 40 = .ok (.invokevirtual 244, 3) := by decide +kernel
theorem dX11_makeProduct_43 : decode cX11_makeProduct 43 = .ok (.ifCond .ne 5, 3) := by decide +kernel
theorem dX11_makeProduct_46 : decode cX11_makeProduct 46 = .ok (.iconst 0, 1) := by decide +kernel
theorem dX11_makeProduct_47 : decode cX11_makeProduct 47 = .ok (.ireturn, 1) := by decide +kernel
theorem dX11_makeProduct_48 : decode cX11_makeProduct 48 = .ok (.iconst 1, 1) := by decide +kernel
theorem dX11_makeProduct_49 : decode cX11_makeProduct 49 = .ok (.istore 4, 2) := by decide +kernel
theorem dX11_makeProduct_51 : decode cX11_makeProduct 51 = .ok (.iload 4, 2) := by decide +kernel
theorem dX11_makeProduct_53 : decode cX11_makeProduct 53 = .ok (.iload_n 3, 1) := by decide +kernel
theorem dX11_makeProduct_54 : decode cX11_makeProduct 54 = .ok (.if_icmp .gt 50, 3) := by decide +kernel
theorem dX11_makeProduct_57 : decode cX11_makeProduct 57 = .ok (.aload_n 0, 1) := by decide +kernel
theorem dX11_makeProduct_58 : decode cX11_makeProduct 58 = .ok (.getfield 63, 3) := by decide +kernel
theorem dX11_makeProduct_61 : decode cX11_makeProduct 61 = .ok (.iload 4, 2) := by decide +kernel
theorem dX11_makeProduct_63 : decode cX11_makeProduct 63 = .ok (.aload_n 0, 1) := by decide +kernel
theorem dX11_makeProduct_64 : decode cX11_makeProduct 64 = .ok (.getfield 57, 3) := by decide +kernel
theorem dX11_makeProduct_67 : decode cX11_makeProduct 67 = .ok (.iload 4, 2) := by decide +kernel
theorem dX11_makeProduct_69 : decode cX11_makeProduct 69 = .ok (.laload, 1) := by decide +kernel
theorem dX11_makeProduct_70 : decode cX11_makeProduct 70 = .ok (.aload_n 0, 1) := by decide +kernel
theorem dX11_makeProduct_71 : decode cX11_makeProduct 71 = .ok (.getfield 60, 3) := by decide +kernel
theorem dX11_makeProduct_74 : decode cX11_makeProduct 74 = .ok (.iload 4, 2) := by decide +kernel
theorem dX11_makeProduct_76 : decode cX11_makeProduct 76 = .ok (.laload, 1) := by decide +kernel
theorem dX11_makeProduct_77 : decode cX11_makeProduct 77 = .ok (.lmul, 1) := by decide +kernel
theorem dX11_makeProduct_78 : decode cX11_makeProduct 78 = .ok (.lastore, 1) := by decide +kernel
theorem dX11_makeProduct_79 : decode cX11_makeProduct 79 = .ok (.aload_n 0, 1) := by decide +kernel
theorem dX11_makeProduct_80 : decode cX11_makeProduct 80 = .ok (.getfield 63, 3) := by decide +kernel
theorem dX11_makeProduct_83 : decode cX11_makeProduct 83 = .ok (.iload 4, 2) := by decide +kernel
theorem dX11_makeProduct_85 : decode cX11_makeProduct 85 = .ok (.laload, 1) := by decide +kernel
theorem dX11_makeProduct_86 : decode cX11_makeProduct 86 = .ok (.invokestatic 84, 3) := by decide +kernel
theorem dX11_makeProduct_89 : decode cX11_makeProduct 89 = .ok (.ldc2_w 140, 3) := by decide +kernel
theorem dX11_makeProduct_92 : decode cX11_makeProduct 92 = .ok (.lcmp, 1) := by decide +kernel
theorem dX11_makeProduct_93 : decode cX11_makeProduct 93 = .ok (.ifCond .le 5, 3) := by decide +kernel
theorem dX11_makeProduct_96 : decode cX11_makeProduct 96 = .ok (.iconst 0, 1) := by decide +kernel
theorem dX11_makeProduct_97 : decode cX11_makeProduct 97 = .ok (.ireturn, 1) := by decide +kernel
theorem dX11_makeProduct_98 : decode cX11_makeProduct 98 = .ok (.iinc 4 1, 3) := by decide +kernel
theorem dX11_makeProduct_101 : decode cX11_makeProduct 101 = .ok (.goto (-50), 3) := by decide +kernel
theorem dX11_makeProduct_104 : decode cX11_makeProduct 104 = .ok (.aload_n 0, 1) := by decide +kernel
theorem dX11_makeProduct_105 : decode cX11_makeProduct 105 = .ok (.iload_n 3, 1) := by decide +kernel
theorem dX11_makeProduct_106 : decode cX11_makeProduct 106 = .ok (.invokevirtual 248, 3) := by decide +kernel
theorem dX11_makeProduct_109 : decode cX11_makeProduct 109 = .ok (.ifCond .eq 24, 3) := by decide +kernel
theorem dX11_makeProduct_112 : decode cX11_makeProduct 112 = .ok (.aload_n 0, 1) := by decide +kernel
theorem dX11_makeProduct_113 : decode cX11_makeProduct 113 = .ok (.iload_n 1, 1) := by decide +kernel
theorem dX11_makeProduct_114 : decode cX11_makeProduct 114 = .ok (.iload_n 3, 1) := by decide +kernel
theorem dX11_makeProduct_115 : decode cX11_makeProduct 115 = .ok (.invokevirtual 237, 3) := by decide +kernel
theorem dX11_makeProduct_118 : decode cX11_makeProduct 118 = .ok (.ifCond .eq 15, 3) := by decide +kernel
theorem dX11_makeProduct_121 : decode cX11_makeProduct 121 = .ok (.aload_n 0, 1) := by decide +kernel
theorem dX11_makeProduct_122 : decode cX11_makeProduct 122 = .ok (.iload_n 2, 1) := by decide +kernel
theorem dX11_makeProduct_123 : decode cX11_makeProduct 123 = .ok (.iload_n 3, 1) := by decide +kernel
theorem dX11_makeProduct_124 : decode cX11_makeProduct 124 = .ok (.iconst 1, 1) := by decide +kernel
theorem dX11_makeProduct_125 : decode cX11_makeProduct 125 = .ok (.isub, 1) := by decide +kernel
theorem dX11_makeProduct_126 : decode cX11_makeProduct 126 = .ok (.invokevirtual 150, 3) := by decide +kernel
theorem dX11_makeProduct_129 : decode cX11_makeProduct 129 = .ok (.iload_n 3, 1) := by decide +kernel
theorem dX11_makeProduct_130 : decode cX11_makeProduct 130 = .ok (.if_icmp .ge 5, 3) := by decide +kernel
theorem dX11_makeProduct_133 : decode cX11_makeProduct 133 = .ok (.iconst 0, 1) := by decide +kernel
theorem dX11_makeProduct_134 : decode cX11_makeProduct 134 = .ok (.ireturn, 1) := by decide +kernel
theorem dX11_makeProduct_135 : decode cX11_makeProduct 135 = .ok (.iconst 1, 1) := by decide +kernel
theorem dX11_makeProduct_136 : decode cX11_makeProduct 136 = .ok (.istore 4, 2) := by decide +kernel
theorem dX11_makeProduct_138 : decode cX11_makeProduct 138 = .ok (.iconst 0, 1) := by decide +kernel
theorem dX11_makeProduct_139 : decode cX11_makeProduct 139 = .ok (.istore 5, 2) := by decide +kernel
theorem dX11_makeProduct_141 : decode cX11_makeProduct 141 = .ok (.iload 5, 2) := by decide +kernel
theorem dX11_makeProduct_143 : decode cX11_makeProduct 143 = .ok (.iload_n 3, 1) := by decide +kernel
theorem dX11_makeProduct_144 : decode cX11_makeProduct 144 = .ok (.if_icmp .ge 65, 3) := by decide +kernel
theorem dX11_makeProduct_147 : decode cX11_makeProduct 147 = .ok (.iload 4, 2) := by decide +kernel
theorem dX11_makeProduct_149 : decode cX11_makeProduct 149 = .ok (.ifCond .eq 51, 3) := by decide +kernel
theorem dX11_makeProduct_152 : decode cX11_makeProduct 152 = .ok (.aload_n 0, 1) := by decide +kernel
theorem dX11_makeProduct_153 : decode cX11_makeProduct 153 = .ok (.getfield 66, 3) := by decide +kernel
theorem dX11_makeProduct_156 : decode cX11_makeProduct 156 = .ok (.iload 5, 2) := by decide +kernel
theorem dX11_makeProduct_158 : decode cX11_makeProduct 158 = .ok (.laload, 1) := by decide +kernel
theorem dX11_makeProduct_159 : decode cX11_makeProduct 159 = .ok (.aload_n 0, 1) := by decide +kernel
theorem dX11_makeProduct_160 : decode cX11_makeProduct 160 = .ok (.getfield 30, 3) := by decide +kernel
theorem dX11_makeProduct_163 : decode cX11_makeProduct 163 = .ok (.iload 5, 2) := by decide +kernel
theorem dX11_makeProduct_165 : decode cX11_makeProduct 165 = .ok (.laload, 1) := by decide +kernel
theorem dX11_makeProduct_166 : decode cX11_makeProduct 166 = .ok (.invokestatic 251, 3) := by decide +kernel
theorem dX11_makeProduct_169 : decode cX11_makeProduct 169 = .ok (.ifCond .ne 31, 3) := by decide +kernel
theorem dX11_makeProduct_172 : decode cX11_makeProduct 172 = .ok (.aload_n 0, 1) := by decide +kernel
theorem dX11_makeProduct_173 : decode cX11_makeProduct 173 = .ok (.iload 5, 2) := by decide +kernel
theorem dX11_makeProduct_175 : decode cX11_makeProduct 175 = .ok (.aload_n 0, 1) := by decide +kernel
theorem dX11_makeProduct_176 : decode cX11_makeProduct 176 = .ok (.getfield 66, 3) := by decide +kernel
theorem dX11_makeProduct_179 : decode cX11_makeProduct 179 = .ok (.iload 5, 2) := by decide +kernel
theorem dX11_makeProduct_181 : decode cX11_makeProduct 181 = .ok (.laload, 1) := by decide +kernel
theorem dX11_makeProduct_182 : decode cX11_makeProduct 182 = .ok (.aload_n 0, 1) := by decide +kernel
theorem dX11_makeProduct_183 : decode cX11_makeProduct 183 = .ok (.getfield 30, 3) := by decide +kernel
theorem dX11_makeProduct_186 : decode cX11_makeProduct 186 = .ok (.iload 5, 2) := by decide +kernel
theorem dX11_makeProduct_188 : decode cX11_makeProduct 188 = .ok (.laload, 1) := by decide +kernel
theorem dX11_makeProduct_189 : decode cX11_makeProduct 189 = .ok (.lmul, 1) := by decide +kernel
theorem dX11_makeProduct_190 : decode cX11_makeProduct 190 = .ok (.invokevirtual 240, 3) := by decide +kernel
theorem dX11_makeProduct_193 : decode cX11_makeProduct 193 = .ok (.ifCond .eq 7, 3) := by decide +kernel
theorem dX11_makeProduct_196 : decode cX11_makeProduct 196 = .ok (.iconst 1, 1) := by decide +kernel
theorem dX11_makeProduct_197 : decode cX11_makeProduct 197 = .ok (.goto 4, 3) := by decide +kernel
theorem dX11_makeProduct_200 : decode cX11_makeProduct 200 = .ok (.iconst 0, 1) := by decide +kernel
theorem dX11_makeProduct_201 : decode cX11_makeProduct 201 = .ok (.istore 4, 2) := by decide +kernel
theorem dX11_makeProduct_203 : decode cX11_makeProduct 203 = .ok (.iinc 5 1, 3) := by decide +kernel
theorem dX11_makeProduct_206 : decode cX11_makeProduct 206 = .ok (.goto (-65), 3) := by decide +kernel
theorem dX11_makeProduct_209 : decode cX11_makeProduct 209 = .ok (.iload 4, 2) := by decide +kernel
theorem dX11_makeProduct_211 : decode cX11_makeProduct 211 = .ok (.ireturn, 1) := by decide +kernel
theorem dX11_makeFold_0 : decode cX11_makeFold 0 = .ok (.aload_n 0, 1) := by decide +kernel
theorem dX11_makeFold_1 : decode cX11_makeFold 1 = .ok (.iload_n 1, 1) := by decide +kernel
theorem dX11_makeFold_2 : decode cX11_makeFold 2 = .ok (.iload_n 2, 1) := by decide +kernel
theorem dX11_makeFold_3 : decode cX11_makeFold 3 = .ok (.invokevirtual 234, 3) := by decide +kernel
theorem dX11_makeFold_6 : decode cX11_makeFold 6 = .ok (.ifCond .eq 42, 3) := by decide +kernel
theorem dX11_makeFold_9 : decode cX11_makeFold 9 = .ok (.aload_n 0, 1) := by decide +kernel
theorem dX11_makeFold_10 : decode cX11_makeFold 10 = .ok (.iload_n 1, 1) := by decide +kernel
theorem dX11_makeFold_11 : decode cX11_makeFold 11 = .ok (.aload_n 0, 1) := by decide +kernel
theorem dX11_makeFold_12 : decode cX11_makeFold 12 = .ok (.getfield 7, 3) := by decide +kernel
theorem dX11_makeFold_15 : decode cX11_makeFold 15 = .ok (.bipush 6, 2) := by decide +kernel
theorem dX11_makeFold_17 : decode cX11_makeFold 17 = .ok (.iaload, 1) := by decide +kernel
theorem dX11_makeFold_18 : decode cX11_makeFold 18 = .ok (.invokevirtual 237, 3) := by decide +kernel
theorem dX11_makeFold_21 : decode cX11_makeFold 21 = .ok (.ifCond .eq 27, 3) := by decide +kernel
theorem dX11_makeFold_24 : decode cX11_makeFold 24 = .ok (.aload_n 0, 1) := by decide +kernel
theorem dX11_makeFold_25 : decode cX11_makeFold 25 = .ok (.iload_n 2, 1) := by decide +kernel
theorem dX11_makeFold_26 : decode cX11_makeFold 26 = .ok (.aload_n 0, 1) := by decide +kernel
theorem dX11_makeFold_27 : decode cX11_makeFold 27 = .ok (.getfield 7, 3) := by decide +kernel
theorem dX11_makeFold_30 : decode cX11_makeFold 30 = .ok (.bipush 6, 2) := by decide +kernel
theorem dX11_makeFold_32 : decode cX11_makeFold 32 = .ok (.iaload, 1) := by decide +kernel
theorem dX11_makeFold_33 : decode cX11_makeFold 33 = .ok (.iconst 1, 1) := by decide +kernel
theorem dX11_makeFold_34 : decode cX11_makeFold 34 = .ok (.isub, 1) := by decide +kernel
theorem dX11_makeFold_35 : decode cX11_makeFold 35 = .ok (.invokevirtual 150, 3) := by decide +kernel
theorem dX11_makeFold_38 : decode cX11_makeFold 38 = .ok (.aload_n 0, 1) := by decide +kernel
theorem dX11_makeFold_39 : decode cX11_makeFold 39 = .ok (.getfield 7, 3) := by decide +kernel
theorem dX11_makeFold_42 : decode cX11_makeFold 42 = .ok (.bipush 6, 2) := by decide +kernel
theorem dX11_makeFold_44 : decode cX11_makeFold 44 = .ok (.iaload, 1) := by decide +kernel
theorem dX11_makeFold_45 : decode cX11_makeFold 45 = .ok (.if_icmp .ge 5, 3) := by decide +kernel
theorem dX11_makeFold_48 : decode cX11_makeFold 48 = .ok (.iconst 0, 1) := by decide +kernel
theorem dX11_makeFold_49 : decode cX11_makeFold 49 = .ok (.ireturn, 1) := by decide +kernel
theorem dX11_makeFold_50 : decode cX11_makeFold 50 = .ok (.iconst 0, 1) := by decide +kernel
theorem dX11_makeFold_51 : decode cX11_makeFold 51 = .ok (.istore_n 3, 1) := by decide +kernel
theorem dX11_makeFold_52 : decode cX11_makeFold 52 = .ok (.iload_n 3, 1) := by decide +kernel
theorem dX11_makeFold_53 : decode cX11_makeFold 53 = .ok (.aload_n 0, 1) := by decide +kernel
theorem dX11_makeFold_54 : decode cX11_makeFold 54 = .ok (.getfield 7, 3) := by decide +kernel
theorem dX11_makeFold_57 : decode cX11_makeFold 57 = .ok (.bipush 6, 2) := by decide +kernel
theorem dX11_makeFold_59 : decode cX11_makeFold 59 = .ok (.iaload, 1) := by decide +kernel
theorem dX11_makeFold_60 : decode cX11_makeFold 60 = .ok (.if_icmp .ge 99, 3) := by decide +kernel
theorem dX11_makeFold_63 : decode cX11_makeFold 63 = .ok (.lconst 0, 1) := by decide +kernel
theorem dX11_makeFold_64 : decode cX11_makeFold 64 = .ok (.lstore 4, 2) := by decide +kernel
theorem dX11_makeFold_66 : decode cX11_makeFold 66 = .ok (.iconst 0, 1) := by decide +kernel
theorem dX11_makeFold_67 : decode cX11_makeFold 67 = .ok (.istore 6, 2) := by decide +kernel
theorem dX11_makeFold_69 : decode cX11_makeFold 69 = .ok (.iload 6, 2) := by decide +kernel
theorem dX11_makeFold_71 : decode cX11_makeFold 71 = .ok (.iload_n 3, 1) := by decide +kernel
theorem dX11_makeFold_72 : decode cX11_makeFold 72 = .ok (.if_icmp .gt 69, 3) := by decide +kernel
theorem dX11_makeFold_75 : decode cX11_makeFold 75 = .ok (.aload_n 0, 1) := by decide +kernel
theorem dX11_makeFold_76 : decode cX11_makeFold 76 = .ok (.getfield 66, 3) := by decide +kernel
theorem dX11_makeFold_79 : decode cX11_makeFold 79 = .ok (.iload 6, 2) := by decide +kernel
theorem dX11_makeFold_81 : decode cX11_makeFold 81 = .ok (.laload, 1) := by decide +kernel
theorem dX11_makeFold_82 : decode cX11_makeFold 82 = .ok (.aload_n 0, 1) := by decide +kernel
theorem dX11_makeFold_83 : decode cX11_makeFold 83 = .ok (.getfield 30, 3) := by decide +kernel
theorem dX11_makeFold_86 : decode cX11_makeFold 86 = .ok (.iload_n 3, 1) := by decide +kernel
theorem dX11_makeFold_87 : decode cX11_makeFold 87 = .ok (.iload 6, 2) := by decide +kernel
theorem dX11_makeFold_89 : decode cX11_makeFold 89 = .ok (.isub, 1) := by decide +kernel
theorem dX11_makeFold_90 : decode cX11_makeFold 90 = .ok (.laload, 1) := by decide +kernel
theorem dX11_makeFold_91 : decode cX11_makeFold 91 = .ok (.invokestatic 251, 3) := by decide +kernel
theorem dX11_makeFold_94 : decode cX11_makeFold 94 = .ok (.ifCond .eq 5, 3) := by decide +kernel
theorem dX11_makeFold_97 : decode cX11_makeFold 97 = .ok (.iconst 0, 1) := by decide +kernel
theorem dX11_makeFold_98 : decode cX11_makeFold 98 = .ok (.ireturn, 1) := by decide +kernel
theorem dX11_makeFold_99 : decode cX11_makeFold 99 = .ok (.lload 4, 2) := by decide +kernel
theorem dX11_makeFold_101 : decode cX11_makeFold 101 = .ok (.aload_n 0, 1) := by decide +kernel
theorem dX11_makeFold_102 : decode cX11_makeFold 102 = .ok (.getfield 66, 3) := by decide +kernel
theorem dX11_makeFold_105 : decode cX11_makeFold 105 = .ok (.iload 6, 2) := by decide +kernel
theorem dX11_makeFold_107 : decode cX11_makeFold 107 = .ok (.laload, 1) := by decide +kernel
theorem dX11_makeFold_108 : decode cX11_makeFold 108 = .ok (.aload_n 0, 1) := by decide +kernel
theorem dX11_makeFold_109 : decode cX11_makeFold 109 = .ok (.getfield 30, 3) := by decide +kernel
theorem dX11_makeFold_112 : decode cX11_makeFold 112 = .ok (.iload_n 3, 1) := by decide +kernel
theorem dX11_makeFold_113 : decode cX11_makeFold 113 = .ok (.iload 6, 2) := by decide +kernel
theorem dX11_makeFold_115 : decode cX11_makeFold 115 = .ok (.isub, 1) := by decide +kernel
theorem dX11_makeFold_116 : decode cX11_makeFold 116 = .ok (.laload, 1) := by decide +kernel
theorem dX11_makeFold_117 : decode cX11_makeFold 117 = .ok (.lmul, 1) := by decide +kernel
theorem dX11_makeFold_118 : decode cX11_makeFold 118 = .ok (.ladd, 1) := by decide +kernel
theorem dX11_makeFold_119 : decode cX11_makeFold 119 = .ok (.lstore 4, 2) := by decide +kernel
theorem dX11_makeFold_121 : decode cX11_makeFold 121 = .ok (.lload 4, 2) := by decide +kernel
theorem dX11_makeFold_123 : decode cX11_makeFold 123 = .ok (.invokestatic 84, 3) := by decide +kernel
theorem dX11_makeFold_126 : decode cX11_makeFold 126 = .ok (.ldc2_w 232, 3) := by decide +kernel
theorem dX11_makeFold_129 : decode cX11_makeFold 129 = .ok (.lcmp, 1) := by decide +kernel
theorem dX11_makeFold_130 : decode cX11_makeFold 130 = .ok (.ifCond .le 5, 3) := by decide +kernel
theorem dX11_makeFold_133 : decode cX11_makeFold 133 = .ok (.iconst 0, 1) := by decide +kernel
theorem dX11_makeFold_134 : decode cX11_makeFold 134 = .ok (.ireturn, 1) := by decide +kernel
theorem dX11_makeFold_135 : decode cX11_makeFold 135 = .ok (.iinc 6 1, 3) := by decide +kernel
theorem dX11_makeFold_138 : decode cX11_makeFold 138 = .ok (.goto (-69), 3) := by decide +kernel
theorem dX11_makeFold_141 : decode cX11_makeFold 141 = .ok (.aload_n 0, 1) := by decide +kernel
theorem dX11_makeFold_142 : decode cX11_makeFold 142 = .ok (.iload_n 3, 1) := by decide +kernel
theorem dX11_makeFold_143 : decode cX11_makeFold 143 = .ok (.lload 4, 2) := by decide +kernel
theorem dX11_makeFold_145 : decode cX11_makeFold 145 = .ok (.invokevirtual 240, 3) := by decide +kernel
theorem dX11_makeFold_148 : decode cX11_makeFold 148 = .ok (.ifCond .ne 5, 3) := by decide +kernel
theorem dX11_makeFold_151 : decode cX11_makeFold 151 = .ok (.iconst 0, 1) := by decide +kernel
theorem dX11_makeFold_152 : decode cX11_makeFold 152 = .ok (.ireturn, 1) := by decide +kernel
theorem dX11_makeFold_153 : decode cX11_makeFold 153 = .ok (.iinc 3 1, 3) := by decide +kernel
theorem dX11_makeFold_156 : decode cX11_makeFold 156 = .ok (.goto (-104), 3) := by decide +kernel
theorem dX11_makeFold_159 : decode cX11_makeFold 159 = .ok (.iconst 1, 1) := by decide +kernel
theorem dX11_makeFold_160 : decode cX11_makeFold 160 = .ok (.ireturn, 1) := by decide +kernel
theorem dX11_makeEach_0 : decode cX11_makeEach 0 = .ok (.aload_n 0, 1) := by decide +kernel
theorem dX11_makeEach_1 : decode cX11_makeEach 1 = .ok (.getfield 7, 3) := by decide +kernel
theorem dX11_makeEach_4 : decode cX11_makeEach 4 = .ok (.iload_n 1, 1) := by decide +kernel
theorem dX11_makeEach_5 : decode cX11_makeEach 5 = .ok (.iaload, 1) := by decide +kernel
theorem dX11_makeEach_6 : decode cX11_makeEach 6 = .ok (.istore_n 3, 1) := by decide +kernel
theorem dX11_makeEach_7 : decode cX11_makeEach 7 = .ok (.aload_n 0, 1) := by decide +kernel
theorem dX11_makeEach_8 : decode cX11_makeEach 8 = .ok (.iload_n 1, 1) := by decide +kernel
theorem dX11_makeEach_9 : decode cX11_makeEach 9 = .ok (.iload_n 2, 1) := by decide +kernel
theorem dX11_makeEach_10 : decode cX11_makeEach 10 = .ok (.iload_n 3, 1) := by decide +kernel
theorem dX11_makeEach_11 : decode cX11_makeEach 11 = .ok (.imul, 1) := by decide +kernel
theorem dX11_makeEach_12 : decode cX11_makeEach 12 = .ok (.aload_n 0, 1) := by decide +kernel
theorem dX11_makeEach_13 : decode cX11_makeEach 13 = .ok (.getfield 57, 3) := by decide +kernel
theorem dX11_makeEach_16 : decode cX11_makeEach 16 = .ok (.invokevirtual 244, 3) := by decide +kernel
theorem dX11_makeEach_19 : decode cX11_makeEach 19 = .ok (.ifCond .ne 5, 3) := by decide +kernel
theorem dX11_makeEach_22 : decode cX11_makeEach 22 = .ok (.iconst 0, 1) := by decide +kernel
theorem dX11_makeEach_23 : decode cX11_makeEach 23 = .ok (.ireturn, 1) := by decide +kernel
theorem dX11_makeEach_24 : decode cX11_makeEach 24 = .ok (.iconst 1, 1) := by decide +kernel
theorem dX11_makeEach_25 : decode cX11_makeEach 25 = .ok (.istore 4, 2) := by decide +kernel
theorem dX11_makeEach_27 : decode cX11_makeEach 27 = .ok (.iload 4, 2) := by decide +kernel
theorem dX11_makeEach_29 : decode cX11_makeEach 29 = .ok (.iload_n 3, 1) := by decide +kernel
theorem dX11_makeEach_30 : decode cX11_makeEach 30 = .ok (.if_icmp .gt 25, 3) := by decide +kernel
theorem dX11_makeEach_33 : decode cX11_makeEach 33 = .ok (.aload_n 0, 1) := by decide +kernel
theorem dX11_makeEach_34 : decode cX11_makeEach 34 = .ok (.getfield 63, 3) := by decide +kernel
theorem dX11_makeEach_37 : decode cX11_makeEach 37 = .ok (.iload 4, 2) := by decide +kernel
theorem dX11_makeEach_39 : decode cX11_makeEach 39 = .ok (.aload_n 0, 1) := by decide +kernel
theorem dX11_makeEach_40 : decode cX11_makeEach 40 = .ok (.getfield 57, 3) := by decide +kernel
theorem dX11_makeEach_43 : decode cX11_makeEach 43 = .ok (.iload_n 2, 1) := by decide +kernel
theorem dX11_makeEach_44 : decode cX11_makeEach 44 = .ok (.iload 4, 2) := by decide +kernel
theorem dX11_makeEach_46 : decode cX11_makeEach 46 = .ok (.imul, 1) := by decide +kernel
theorem dX11_makeEach_47 : decode cX11_makeEach 47 = .ok (.laload, 1) := by decide +kernel
theorem dX11_makeEach_48 : decode cX11_makeEach 48 = .ok (.lastore, 1) := by decide +kernel
theorem dX11_makeEach_49 : decode cX11_makeEach 49 = .ok (.iinc 4 1, 3) := by decide +kernel
theorem dX11_makeEach_52 : decode cX11_makeEach 52 = .ok (.goto (-25), 3) := by decide +kernel
theorem dX11_makeEach_55 : decode cX11_makeEach 55 = .ok (.aload_n 0, 1) := by decide +kernel
theorem dX11_makeEach_56 : decode cX11_makeEach 56 = .ok (.iload_n 3, 1) := by decide +kernel
theorem dX11_makeEach_57 : decode cX11_makeEach 57 = .ok (.invokevirtual 248, 3) := by decide +kernel
theorem dX11_makeEach_60 : decode cX11_makeEach 60 = .ok (.ifCond .eq 18, 3) := by decide +kernel
theorem dX11_makeEach_63 : decode cX11_makeEach 63 = .ok (.aload_n 0, 1) := by decide +kernel
theorem dX11_makeEach_64 : decode cX11_makeEach 64 = .ok (.iload_n 1, 1) := by decide +kernel
theorem dX11_makeEach_65 : decode cX11_makeEach 65 = .ok (.iload_n 2, 1) := by decide +kernel
theorem dX11_makeEach_66 : decode cX11_makeEach 66 = .ok (.iload_n 3, 1) := by decide +kernel
theorem dX11_makeEach_67 : decode cX11_makeEach 67 = .ok (.iconst 1, 1) := by decide +kernel
theorem dX11_makeEach_68 : decode cX11_makeEach 68 = .ok (.isub, 1) := by decide +kernel
theorem dX11_makeEach_69 : decode cX11_makeEach 69 = .ok (.imul, 1) := by decide +kernel
theorem dX11_makeEach_70 : decode cX11_makeEach 70 = .ok (.iconst 1, 1) := by decide +kernel
theorem dX11_makeEach_71 : decode cX11_makeEach 71 = .ok (.iadd, 1) := by decide +kernel
theorem dX11_makeEach_72 : decode cX11_makeEach 72 = .ok (.invokevirtual 237, 3) := by decide +kernel
theorem dX11_makeEach_75 : decode cX11_makeEach 75 = .ok (.ifCond .ne 5, 3) := by decide +kernel
theorem dX11_makeEach_78 : decode cX11_makeEach 78 = .ok (.iconst 0, 1) := by decide +kernel
theorem dX11_makeEach_79 : decode cX11_makeEach 79 = .ok (.ireturn, 1) := by decide +kernel
theorem dX11_makeEach_80 : decode cX11_makeEach 80 = .ok (.iconst 1, 1) := by decide +kernel
theorem dX11_makeEach_81 : decode cX11_makeEach 81 = .ok (.istore 4, 2) := by decide +kernel
theorem dX11_makeEach_83 : decode cX11_makeEach 83 = .ok (.iconst 0, 1) := by decide +kernel
theorem dX11_makeEach_84 : decode cX11_makeEach 84 = .ok (.istore 5, 2) := by decide +kernel
theorem dX11_makeEach_86 : decode cX11_makeEach 86 = .ok (.iload 5, 2) := by decide +kernel
theorem dX11_makeEach_88 : decode cX11_makeEach 88 = .ok (.iload_n 3, 1) := by decide +kernel
theorem dX11_makeEach_89 : decode cX11_makeEach 89 = .ok (.if_icmp .ge 39, 3) := by decide +kernel
theorem dX11_makeEach_92 : decode cX11_makeEach 92 = .ok (.aload_n 0, 1) := by decide +kernel
theorem dX11_makeEach_93 : decode cX11_makeEach 93 = .ok (.iload 5, 2) := by decide +kernel
theorem dX11_makeEach_95 : decode cX11_makeEach 95 = .ok (.aload_n 0, 1) := by decide +kernel
theorem dX11_makeEach_96 : decode cX11_makeEach 96 = .ok (.getfield 66, 3) := by decide +kernel
theorem dX11_makeEach_99 : decode cX11_makeEach 99 = .ok (.iload_n 2, 1) := by decide +kernel
theorem dX11_makeEach_100 : decode cX11_makeEach 100 = .ok (.iload 5, 2) := by decide +kernel
theorem dX11_makeEach_102 : decode cX11_makeEach 102 = .ok (.imul, 1) := by decide +kernel
theorem dX11_makeEach_103 : decode cX11_makeEach 103 = .ok (.laload, 1) := by decide +kernel
theorem dX11_makeEach_104 : decode cX11_makeEach 104 = .ok (.invokevirtual 240, 3) := by decide +kernel
theorem dX11_makeEach_107 : decode cX11_makeEach 107 = .ok (.ifCond .eq 12, 3) := by decide +kernel
theorem dX11_makeEach_110 : decode cX11_makeEach 110 = .ok (.iload 4, 2) := by decide +kernel
theorem dX11_makeEach_112 : decode cX11_makeEach 112 = .ok (.ifCond .eq 7, 3) := by decide +kernel
theorem dX11_makeEach_115 : decode cX11_makeEach 115 = .ok (.iconst 1, 1) := by decide +kernel
theorem dX11_makeEach_116 : decode cX11_makeEach 116 = .ok (.goto 4, 3) := by decide +kernel
theorem dX11_makeEach_119 : decode cX11_makeEach 119 = .ok (.iconst 0, 1) := by decide +kernel
theorem dX11_makeEach_120 : decode cX11_makeEach 120 = .ok (.istore 4, 2) := by decide +kernel
theorem dX11_makeEach_122 : decode cX11_makeEach 122 = .ok (.iinc 5 1, 3) := by decide +kernel
theorem dX11_makeEach_125 : decode cX11_makeEach 125 = .ok (.goto (-39), 3) := by decide +kernel
theorem dX11_makeEach_128 : decode cX11_makeEach 128 = .ok (.iload 4, 2) := by decide +kernel
theorem dX11_makeEach_130 : decode cX11_makeEach 130 = .ok (.ireturn, 1) := by decide +kernel
theorem dX11_makeSums_0 : decode cX11_makeSums 0 = .ok (.aload_n 0, 1) := by decide +kernel
theorem dX11_makeSums_1 : decode cX11_makeSums 1 = .ok (.iload_n 1, 1) := by decide +kernel
theorem dX11_makeSums_2 : decode cX11_makeSums 2 = .ok (.iconst (-1), 1) := by decide +kernel
theorem dX11_makeSums_3 : decode cX11_makeSums 3 = .ok (.invokevirtual 234, 3) := by decide +kernel
theorem dX11_makeSums_6 : decode cX11_makeSums 6 = .ok (.ifCond .eq 18, 3) := by decide +kernel
theorem dX11_makeSums_9 : decode cX11_makeSums 9 = .ok (.aload_n 0, 1) := by decide +kernel
theorem dX11_makeSums_10 : decode cX11_makeSums 10 = .ok (.iload_n 1, 1) := by decide +kernel
theorem dX11_makeSums_11 : decode cX11_makeSums 11 = .ok (.aload_n 0, 1) := by decide +kernel
theorem dX11_makeSums_12 : decode cX11_makeSums 12 = .ok (.getfield 7, 3) := by decide +kernel
theorem dX11_makeSums_15 : decode cX11_makeSums 15 = .ok (.bipush 6, 2) := by decide +kernel
theorem dX11_makeSums_17 : decode cX11_makeSums 17 = .ok (.iaload, 1) := by decide +kernel
theorem dX11_makeSums_18 : decode cX11_makeSums 18 = .ok (.invokevirtual 237, 3) := by decide +kernel
theorem dX11_makeSums_21 : decode cX11_makeSums 21 = .ok (.ifCond .ne 5, 3) := by decide +kernel
theorem dX11_makeSums_24 : decode cX11_makeSums 24 = .ok (.iconst 0, 1) := by decide +kernel
theorem dX11_makeSums_25 : decode cX11_makeSums 25 = .ok (.ireturn, 1) := by decide +kernel
theorem dX11_makeSums_26 : decode cX11_makeSums 26 = .ok (.lconst 0, 1) := by decide +kernel
theorem dX11_makeSums_27 : decode cX11_makeSums 27 = .ok (.lstore_n 2, 1) := by decide +kernel
theorem dX11_makeSums_28 : decode cX11_makeSums 28 = .ok (.iconst 1, 1) := by decide +kernel
theorem dX11_makeSums_29 : decode cX11_makeSums 29 = .ok (.istore 4, 2) := by decide +kernel
theorem dX11_makeSums_31 : decode cX11_makeSums 31 = .ok (.iconst 0, 1) := by decide +kernel
theorem dX11_makeSums_32 : decode cX11_makeSums 32 = .ok (.istore 5, 2) := by decide +kernel
theorem dX11_makeSums_34 : decode cX11_makeSums 34 = .ok (.iload 5, 2) := by decide +kernel
theorem dX11_makeSums_36 : decode cX11_makeSums 36 = .ok (.aload_n 0, 1) := by decide +kernel
theorem dX11_makeSums_37 : decode cX11_makeSums 37 = .ok (.getfield 7, 3) := by decide +kernel
theorem dX11_makeSums_40 : decode cX11_makeSums 40 = .ok (.bipush 6, 2) := by decide +kernel
theorem dX11_makeSums_42 : decode cX11_makeSums 42 = .ok (.iaload, 1) := by decide +kernel
theorem dX11_makeSums_43 : decode cX11_makeSums 43 = .ok (.if_icmp .ge 41, 3) := by decide +kernel
theorem dX11_makeSums_46 : decode cX11_makeSums 46 = .ok (.lload_n 2, 1) := by decide +kernel
theorem dX11_makeSums_47 : decode cX11_makeSums 47 = .ok (.aload_n 0, 1) := by decide +kernel
theorem dX11_makeSums_48 : decode cX11_makeSums 48 = .ok (.getfield 66, 3) := by decide +kernel
theorem dX11_makeSums_51 : decode cX11_makeSums 51 = .ok (.iload 5, 2) := by decide +kernel
theorem dX11_makeSums_53 : decode cX11_makeSums 53 = .ok (.laload, 1) := by decide +kernel
theorem dX11_makeSums_54 : decode cX11_makeSums 54 = .ok (.ladd, 1) := by decide +kernel
theorem dX11_makeSums_55 : decode cX11_makeSums 55 = .ok (.lstore_n 2, 1) := by decide +kernel
theorem dX11_makeSums_56 : decode cX11_makeSums 56 = .ok (.aload_n 0, 1) := by decide +kernel
theorem dX11_makeSums_57 : decode cX11_makeSums 57 = .ok (.iload 5, 2) := by decide +kernel
theorem dX11_makeSums_59 : decode cX11_makeSums 59 = .ok (.lload_n 2, 1) := by decide +kernel
theorem dX11_makeSums_60 : decode cX11_makeSums 60 = .ok (.invokevirtual 240, 3) := by decide +kernel
theorem dX11_makeSums_63 : decode cX11_makeSums 63 = .ok (.ifCond .eq 12, 3) := by decide +kernel
theorem dX11_makeSums_66 : decode cX11_makeSums 66 = .ok (.iload 4, 2) := by decide +kernel
theorem dX11_makeSums_68 : decode cX11_makeSums 68 = .ok (.ifCond .eq 7, 3) := by decide +kernel
theorem dX11_makeSums_71 : decode cX11_makeSums 71 = .ok (.iconst 1, 1) := by decide +kernel
theorem dX11_makeSums_72 : decode cX11_makeSums 72 = .ok (.goto 4, 3) := by decide +kernel
theorem dX11_makeSums_75 : decode cX11_makeSums 75 = .ok (.iconst 0, 1) := by decide +kernel
theorem dX11_makeSums_76 : decode cX11_makeSums 76 = .ok (.istore 4, 2) := by decide +kernel
theorem dX11_makeSums_78 : decode cX11_makeSums 78 = .ok (.iinc 5 1, 3) := by decide +kernel
theorem dX11_makeSums_81 : decode cX11_makeSums 81 = .ok (.goto (-47), 3) := by decide +kernel
theorem dX11_makeSums_84 : decode cX11_makeSums 84 = .ok (.iload 4, 2) := by decide +kernel
theorem dX11_makeSums_86 : decode cX11_makeSums 86 = .ok (.ireturn, 1) := by decide +kernel
theorem dX11_copyLaw_0 : decode cX11_copyLaw 0 = .ok (.aload_n 0, 1) := by decide +kernel
theorem dX11_copyLaw_1 : decode cX11_copyLaw 1 = .ok (.getfield 7, 3) := by decide +kernel
theorem dX11_copyLaw_4 : decode cX11_copyLaw 4 = .ok (.bipush 6, 2) := by decide +kernel
theorem dX11_copyLaw_6 : decode cX11_copyLaw 6 = .ok (.aload_n 0, 1) := by decide +kernel
theorem dX11_copyLaw_7 : decode cX11_copyLaw 7 = .ok (.getfield 7, 3) := by decide +kernel
theorem dX11_copyLaw_10 : decode cX11_copyLaw 10 = .ok (.iload_n 1, 1) := by decide +kernel
theorem dX11_copyLaw_11 : decode cX11_copyLaw 11 = .ok (.iaload, 1) := by decide +kernel
theorem dX11_copyLaw_12 : decode cX11_copyLaw 12 = .ok (.iastore, 1) := by decide +kernel
theorem dX11_copyLaw_13 : decode cX11_copyLaw 13 = .ok (.iconst 0, 1) := by decide +kernel
theorem dX11_copyLaw_14 : decode cX11_copyLaw 14 = .ok (.istore_n 2, 1) := by decide +kernel
theorem dX11_copyLaw_15 : decode cX11_copyLaw 15 = .ok (.iload_n 2, 1) := by decide +kernel
theorem dX11_copyLaw_16 : decode cX11_copyLaw 16 = .ok (.bipush 6, 2) := by decide +kernel
theorem dX11_copyLaw_18 : decode cX11_copyLaw 18 = .ok (.if_icmp .ge 29, 3) := by decide +kernel
theorem dX11_copyLaw_21 : decode cX11_copyLaw 21 = .ok (.aload_n 0, 1) := by decide +kernel
theorem dX11_copyLaw_22 : decode cX11_copyLaw 22 = .ok (.getfield 13, 3) := by decide +kernel
theorem dX11_copyLaw_25 : decode cX11_copyLaw 25 = .ok (.bipush 36, 2) := by decide +kernel
theorem dX11_copyLaw_27 : decode cX11_copyLaw 27 = .ok (.iload_n 2, 1) := by decide +kernel
theorem dX11_copyLaw_28 : decode cX11_copyLaw 28 = .ok (.iadd, 1) := by decide +kernel
theorem dX11_copyLaw_29 : decode cX11_copyLaw 29 = .ok (.aload_n 0, 1) := by decide +kernel
theorem dX11_copyLaw_30 : decode cX11_copyLaw 30 = .ok (.getfield 13, 3) := by decide +kernel
theorem dX11_copyLaw_33 : decode cX11_copyLaw 33 = .ok (.bipush 6, 2) := by decide +kernel
theorem dX11_copyLaw_35 : decode cX11_copyLaw 35 = .ok (.iload_n 1, 1) := by decide +kernel
theorem dX11_copyLaw_36 : decode cX11_copyLaw 36 = .ok (.imul, 1) := by decide +kernel
theorem dX11_copyLaw_37 : decode cX11_copyLaw 37 = .ok (.iload_n 2, 1) := by decide +kernel
theorem dX11_copyLaw_38 : decode cX11_copyLaw 38 = .ok (.iadd, 1) := by decide +kernel
theorem dX11_copyLaw_39 : decode cX11_copyLaw 39 = .ok (.laload, 1) := by decide +kernel
theorem dX11_copyLaw_40 : decode cX11_copyLaw 40 = .ok (.lastore, 1) := by decide +kernel
theorem dX11_copyLaw_41 : decode cX11_copyLaw 41 = .ok (.iinc 2 1, 3) := by decide +kernel
theorem dX11_copyLaw_44 : decode cX11_copyLaw 44 = .ok (.goto (-29), 3) := by decide +kernel
theorem dX11_copyLaw_47 : decode cX11_copyLaw 47 = .ok (.return_, 1) := by decide +kernel
theorem dX11_makeMoved_0 : decode cX11_makeMoved 0 = .ok (.aload_n 0, 1) := by decide +kernel
theorem dX11_makeMoved_1 : decode cX11_makeMoved 1 = .ok (.iload_n 1, 1) := by decide +kernel
theorem dX11_makeMoved_2 : decode cX11_makeMoved 2 = .ok (.invokevirtual 255, 3) := by decide +kernel
theorem dX11_makeMoved_5 : decode cX11_makeMoved 5 = .ok (.aload_n 0, 1) := by decide +kernel
theorem dX11_makeMoved_6 : decode cX11_makeMoved 6 = .ok (.iload_n 1, 1) := by decide +kernel
theorem dX11_makeMoved_7 : decode cX11_makeMoved 7 = .ok (.iload_n 2, 1) := by decide +kernel
theorem dX11_makeMoved_8 : decode cX11_makeMoved 8 = .ok (.aload_n 0, 1) := by decide +kernel
theorem dX11_makeMoved_9 : decode cX11_makeMoved 9 = .ok (.getfield 7, 3) := by decide +kernel
theorem dX11_makeMoved_12 : decode cX11_makeMoved 12 = .ok (.iload_n 1, 1) := by decide +kernel
theorem dX11_makeMoved_13 : decode cX11_makeMoved 13 = .ok (.iaload, 1) := by decide +kernel
theorem dX11_makeMoved_14 : decode cX11_makeMoved 14 = .ok (.iadd, 1) := by decide +kernel
theorem dX11_makeMoved_15 : decode cX11_makeMoved 15 = .ok (.iconst 1, 1) := by decide +kernel
theorem dX11_makeMoved_16 : decode cX11_makeMoved 16 = .ok (.isub, 1) := by decide +kernel
theorem dX11_makeMoved_17 : decode cX11_makeMoved 17 = .ok (.invokevirtual 150, 3) := by decide +kernel
theorem dX11_makeMoved_20 : decode cX11_makeMoved 20 = .ok (.iload_n 2, 1) := by decide +kernel
theorem dX11_makeMoved_21 : decode cX11_makeMoved 21 = .ok (.aload_n 0, 1) := by decide +kernel
theorem dX11_makeMoved_22 : decode cX11_makeMoved 22 = .ok (.getfield 7, 3) := by decide +kernel
theorem dX11_makeMoved_25 : decode cX11_makeMoved 25 = .ok (.iload_n 1, 1) := by decide +kernel
theorem dX11_makeMoved_26 : decode cX11_makeMoved 26 = .ok (.iaload, 1) := by decide +kernel
theorem dX11_makeMoved_27 : decode cX11_makeMoved 27 = .ok (.iadd, 1) := by decide +kernel
theorem dX11_makeMoved_28 : decode cX11_makeMoved 28 = .ok (.if_icmp .ge 5, 3) := by decide +kernel
theorem dX11_makeMoved_31 : decode cX11_makeMoved 31 = .ok (.iconst 0, 1) := by decide +kernel
theorem dX11_makeMoved_32 : decode cX11_makeMoved 32 = .ok (.ireturn, 1) := by decide +kernel
theorem dX11_makeMoved_33 : decode cX11_makeMoved 33 = .ok (.iconst 1, 1) := by decide +kernel
theorem dX11_makeMoved_34 : decode cX11_makeMoved 34 = .ok (.istore_n 3, 1) := by decide +kernel
theorem dX11_makeMoved_35 : decode cX11_makeMoved 35 = .ok (.iconst 0, 1) := by decide +kernel
theorem dX11_makeMoved_36 : decode cX11_makeMoved 36 = .ok (.istore 4, 2) := by decide +kernel
theorem dX11_makeMoved_38 : decode cX11_makeMoved 38 = .ok (.iload 4, 2) := by decide +kernel
theorem dX11_makeMoved_40 : decode cX11_makeMoved 40 = .ok (.aload_n 0, 1) := by decide +kernel
theorem dX11_makeMoved_41 : decode cX11_makeMoved 41 = .ok (.getfield 7, 3) := by decide +kernel
theorem dX11_makeMoved_44 : decode cX11_makeMoved 44 = .ok (.iload_n 1, 1) := by decide +kernel
theorem dX11_makeMoved_45 : decode cX11_makeMoved 45 = .ok (.iaload, 1) := by decide +kernel
theorem dX11_makeMoved_46 : decode cX11_makeMoved 46 = .ok (.if_icmp .ge 37, 3) := by decide +kernel
theorem dX11_makeMoved_49 : decode cX11_makeMoved 49 = .ok (.aload_n 0, 1) := by decide +kernel
theorem dX11_makeMoved_50 : decode cX11_makeMoved 50 = .ok (.iload 4, 2) := by decide +kernel
theorem dX11_makeMoved_52 : decode cX11_makeMoved 52 = .ok (.aload_n 0, 1) := by decide +kernel
theorem dX11_makeMoved_53 : decode cX11_makeMoved 53 = .ok (.getfield 30, 3) := by decide +kernel
theorem dX11_makeMoved_56 : decode cX11_makeMoved 56 = .ok (.iload_n 2, 1) := by decide +kernel
theorem dX11_makeMoved_57 : decode cX11_makeMoved 57 = .ok (.iload 4, 2) := by decide +kernel
theorem dX11_makeMoved_59 : decode cX11_makeMoved 59 = .ok (.iadd, 1) := by decide +kernel
theorem dX11_makeMoved_60 : decode cX11_makeMoved 60 = .ok (.laload, 1) := by decide +kernel
theorem dX11_makeMoved_61 : decode cX11_makeMoved 61 = .ok (.invokevirtual 240, 3) := by decide +kernel
theorem dX11_makeMoved_64 : decode cX11_makeMoved 64 = .ok (.ifCond .eq 11, 3) := by decide +kernel
theorem dX11_makeMoved_67 : decode cX11_makeMoved 67 = .ok (.iload_n 3, 1) := by decide +kernel
theorem dX11_makeMoved_68 : decode cX11_makeMoved 68 = .ok (.ifCond .eq 7, 3) := by decide +kernel
theorem dX11_makeMoved_71 : decode cX11_makeMoved 71 = .ok (.iconst 1, 1) := by decide +kernel
theorem dX11_makeMoved_72 : decode cX11_makeMoved 72 = .ok (.goto 4, 3) := by decide +kernel
theorem dX11_makeMoved_75 : decode cX11_makeMoved 75 = .ok (.iconst 0, 1) := by decide +kernel
theorem dX11_makeMoved_76 : decode cX11_makeMoved 76 = .ok (.istore_n 3, 1) := by decide +kernel
theorem dX11_makeMoved_77 : decode cX11_makeMoved 77 = .ok (.iinc 4 1, 3) := by decide +kernel
theorem dX11_makeMoved_80 : decode cX11_makeMoved 80 = .ok (.goto (-42), 3) := by decide +kernel
theorem dX11_makeMoved_83 : decode cX11_makeMoved 83 = .ok (.iload_n 3, 1) := by decide +kernel
theorem dX11_makeMoved_84 : decode cX11_makeMoved 84 = .ok (.ireturn, 1) := by decide +kernel
theorem dX11_makeTimes_0 : decode cX11_makeTimes 0 = .ok (.aload_n 0, 1) := by decide +kernel
theorem dX11_makeTimes_1 : decode cX11_makeTimes 1 = .ok (.iload_n 1, 1) := by decide +kernel
theorem dX11_makeTimes_2 : decode cX11_makeTimes 2 = .ok (.invokevirtual 255, 3) := by decide +kernel
theorem dX11_makeTimes_5 : decode cX11_makeTimes 5 = .ok (.iconst 1, 1) := by decide +kernel
theorem dX11_makeTimes_6 : decode cX11_makeTimes 6 = .ok (.istore_n 3, 1) := by decide +kernel
theorem dX11_makeTimes_7 : decode cX11_makeTimes 7 = .ok (.iconst 0, 1) := by decide +kernel
theorem dX11_makeTimes_8 : decode cX11_makeTimes 8 = .ok (.istore 4, 2) := by decide +kernel
theorem dX11_makeTimes_10 : decode cX11_makeTimes 10 = .ok (.iload 4, 2) := by decide +kernel
theorem dX11_makeTimes_12 : decode cX11_makeTimes 12 = .ok (.aload_n 0, 1) := by decide +kernel
theorem dX11_makeTimes_13 : decode cX11_makeTimes 13 = .ok (.getfield 7, 3) := by decide +kernel
theorem dX11_makeTimes_16 : decode cX11_makeTimes 16 = .ok (.iload_n 1, 1) := by decide +kernel
theorem dX11_makeTimes_17 : decode cX11_makeTimes 17 = .ok (.iaload, 1) := by decide +kernel
theorem dX11_makeTimes_18 : decode cX11_makeTimes 18 = .ok (.if_icmp .ge 43, 3) := by decide +kernel
theorem dX11_makeTimes_21 : decode cX11_makeTimes 21 = .ok (.aload_n 0, 1) := by decide +kernel
theorem dX11_makeTimes_22 : decode cX11_makeTimes 22 = .ok (.iload 4, 2) := by decide +kernel
theorem dX11_makeTimes_24 : decode cX11_makeTimes 24 = .ok (.aload_n 0, 1) := by decide +kernel
theorem dX11_makeTimes_25 : decode cX11_makeTimes 25 = .ok (.getfield 17, 3) := by decide +kernel
theorem dX11_makeTimes_28 : decode cX11_makeTimes 28 = .ok (.bipush 6, 2) := by decide +kernel
theorem dX11_makeTimes_30 : decode cX11_makeTimes 30 = .ok (.iload_n 1, 1) := by decide +kernel
theorem dX11_makeTimes_31 : decode cX11_makeTimes 31 = .ok (.imul, 1) := by decide +kernel
theorem dX11_makeTimes_32 : decode cX11_makeTimes 32 = .ok (.iload 4, 2) := by decide +kernel
theorem dX11_makeTimes_34 : decode cX11_makeTimes 34 = .ok (.iadd, 1) := by decide +kernel
theorem dX11_makeTimes_35 : decode cX11_makeTimes 35 = .ok (.laload, 1) := by decide +kernel
theorem dX11_makeTimes_36 : decode cX11_makeTimes 36 = .ok (.iload_n 2, 1) := by decide +kernel
theorem dX11_makeTimes_37 : decode cX11_makeTimes 37 = .ok (.i2l, 1) := by decide +kernel
theorem dX11_makeTimes_38 : decode cX11_makeTimes 38 = .ok (.lmul, 1) := by decide +kernel
theorem dX11_makeTimes_39 : decode cX11_makeTimes 39 = .ok (.invokevirtual 240, 3) := by decide +kernel
theorem dX11_makeTimes_42 : decode cX11_makeTimes 42 = .ok (.ifCond .eq 11, 3) := by decide +kernel
theorem dX11_makeTimes_45 : decode cX11_makeTimes 45 = .ok (.iload_n 3, 1) := by decide +kernel
theorem dX11_makeTimes_46 : decode cX11_makeTimes 46 = .ok (.ifCond .eq 7, 3) := by decide +kernel
theorem dX11_makeTimes_49 : decode cX11_makeTimes 49 = .ok (.iconst 1, 1) := by decide +kernel
theorem dX11_makeTimes_50 : decode cX11_makeTimes 50 = .ok (.goto 4, 3) := by decide +kernel
theorem dX11_makeTimes_53 : decode cX11_makeTimes 53 = .ok (.iconst 0, 1) := by decide +kernel
theorem dX11_makeTimes_54 : decode cX11_makeTimes 54 = .ok (.istore_n 3, 1) := by decide +kernel
theorem dX11_makeTimes_55 : decode cX11_makeTimes 55 = .ok (.iinc 4 1, 3) := by decide +kernel
theorem dX11_makeTimes_58 : decode cX11_makeTimes 58 = .ok (.goto (-48), 3) := by decide +kernel
theorem dX11_makeTimes_61 : decode cX11_makeTimes 61 = .ok (.iload_n 3, 1) := by decide +kernel
theorem dX11_makeTimes_62 : decode cX11_makeTimes 62 = .ok (.ireturn, 1) := by decide +kernel
theorem dX11_make_0 : decode cX11_make 0 = .ok (.iload_n 1, 1) := by decide +kernel
theorem dX11_make_1 : decode cX11_make 1 = .ok (.invokestatic 127, 3) := by decide +kernel
theorem dX11_make_4 : decode cX11_make 4 = .ok (.ifCond .eq 39, 3) := by decide +kernel
theorem dX11_make_7 : decode cX11_make 7 = .ok (.iload_n 2, 1) := by decide +kernel
theorem dX11_make_8 : decode cX11_make 8 = .ok (.i2l, 1) := by decide +kernel
theorem dX11_make_9 : decode cX11_make 9 = .ok (.lconst 0, 1) := by decide +kernel
theorem dX11_make_10 : decode cX11_make 10 = .ok (.ldc2_w 213, 3) := by decide +kernel
theorem dX11_make_13 : decode cX11_make 13 = .ok (.invokestatic 80, 3) := by decide +kernel
theorem dX11_make_16 : decode cX11_make 16 = .ok (.ifCond .eq 27, 3) := by decide +kernel
theorem dX11_make_19 : decode cX11_make 19 = .ok (.iload_n 3, 1) := by decide +kernel
theorem dX11_make_20 : decode cX11_make 20 = .ok (.invokestatic 127, 3) := by decide +kernel
theorem dX11_make_23 : decode cX11_make 23 = .ok (.ifCond .eq 20, 3) := by decide +kernel
theorem dX11_make_26 : decode cX11_make 26 = .ok (.iload_n 2, 1) := by decide +kernel
theorem dX11_make_27 : decode cX11_make 27 = .ok (.iconst 3, 1) := by decide +kernel
theorem dX11_make_28 : decode cX11_make 28 = .ok (.if_icmp .gt 11, 3) := by decide +kernel
theorem dX11_make_31 : decode cX11_make 31 = .ok (.iload 4, 2) := by decide +kernel
theorem dX11_make_33 : decode cX11_make 33 = .ok (.invokestatic 127, 3) := by decide +kernel
theorem dX11_make_36 : decode cX11_make 36 = .ok (.ifCond .eq 7, 3) := by decide +kernel
theorem dX11_make_39 : decode cX11_make 39 = .ok (.iconst 1, 1) := by decide +kernel
theorem dX11_make_40 : decode cX11_make 40 = .ok (.goto 4, 3) := by decide +kernel
theorem dX11_make_43 : decode cX11_make 43 = .ok (.iconst 0, 1) := by decide +kernel
theorem dX11_make_44 : decode cX11_make 44 = .ok (.istore 6, 2) := by decide +kernel
theorem dX11_make_46 : decode cX11_make 46 = .ok (.iload 6, 2) := by decide +kernel
theorem dX11_make_48 : decode cX11_make 48 = .ok (.ifCond .eq 67, 3) := by decide +kernel
theorem dX11_make_51 : decode cX11_make 51 = .ok (.iload_n 2, 1) := by decide +kernel
theorem dX11_make_52 : decode cX11_make 52 = .ok (.iconst 4, 1) := by decide +kernel
theorem dX11_make_53 : decode cX11_make 53 = .ok (.if_icmp .ne 18, 3) := by decide +kernel
theorem dX11_make_56 : decode cX11_make 56 = .ok (.iload 5, 2) := by decide +kernel
theorem dX11_make_58 : decode cX11_make 58 = .ok (.i2l, 1) := by decide +kernel
theorem dX11_make_59 : decode cX11_make 59 = .ok (.ldc2_w 134, 3) := by decide +kernel
theorem dX11_make_62 : decode cX11_make 62 = .ok (.ldc2_w 258, 3) := by decide +kernel
theorem dX11_make_65 : decode cX11_make 65 = .ok (.invokestatic 80, 3) := by decide +kernel
theorem dX11_make_68 : decode cX11_make 68 = .ok (.ifCond .eq 47, 3) := by decide +kernel
theorem dX11_make_71 : decode cX11_make 71 = .ok (.iload_n 2, 1) := by decide +kernel
theorem dX11_make_72 : decode cX11_make 72 = .ok (.bipush 6, 2) := by decide +kernel
theorem dX11_make_74 : decode cX11_make 74 = .ok (.if_icmp .ne 16, 3) := by decide +kernel
theorem dX11_make_77 : decode cX11_make 77 = .ok (.iload 5, 2) := by decide +kernel
theorem dX11_make_79 : decode cX11_make 79 = .ok (.i2l, 1) := by decide +kernel
theorem dX11_make_80 : decode cX11_make 80 = .ok (.lconst 0, 1) := by decide +kernel
theorem dX11_make_81 : decode cX11_make 81 = .ok (.ldc2_w 186, 3) := by decide +kernel
theorem dX11_make_84 : decode cX11_make 84 = .ok (.invokestatic 80, 3) := by decide +kernel
theorem dX11_make_87 : decode cX11_make 87 = .ok (.ifCond .eq 28, 3) := by decide +kernel
theorem dX11_make_90 : decode cX11_make 90 = .ok (.iload_n 2, 1) := by decide +kernel
theorem dX11_make_91 : decode cX11_make 91 = .ok (.bipush 7, 2) := by decide +kernel
theorem dX11_make_93 : decode cX11_make 93 = .ok (.if_icmp .ne 18, 3) := by decide +kernel
theorem dX11_make_96 : decode cX11_make 96 = .ok (.iload 5, 2) := by decide +kernel
theorem dX11_make_98 : decode cX11_make 98 = .ok (.i2l, 1) := by decide +kernel
theorem dX11_make_99 : decode cX11_make 99 = .ok (.ldc2_w 260, 3) := by decide +kernel
theorem dX11_make_102 : decode cX11_make 102 = .ok (.ldc2_w 186, 3) := by decide +kernel
theorem dX11_make_105 : decode cX11_make 105 = .ok (.invokestatic 80, 3) := by decide +kernel
theorem dX11_make_108 : decode cX11_make 108 = .ok (.ifCond .eq 7, 3) := by decide +kernel
theorem dX11_make_111 : decode cX11_make 111 = .ok (.iconst 1, 1) := by decide +kernel
theorem dX11_make_112 : decode cX11_make 112 = .ok (.goto 4, 3) := by decide +kernel
theorem dX11_make_115 : decode cX11_make 115 = .ok (.iconst 0, 1) := by decide +kernel
theorem dX11_make_116 : decode cX11_make 116 = .ok (.istore 6, 2) := by decide +kernel
theorem dX11_make_118 : decode cX11_make 118 = .ok (.iload 6, 2) := by decide +kernel
theorem dX11_make_120 : decode cX11_make 120 = .ok (.ifCond .ne 5, 3) := by decide +kernel
theorem dX11_make_123 : decode cX11_make 123 = .ok (.iconst (-1), 1) := by decide +kernel
theorem dX11_make_124 : decode cX11_make 124 = .ok (.ireturn, 1) := by decide +kernel
theorem dX11_make_125 : decode cX11_make 125 = .ok (.iload_n 2, 1) := by decide +kernel
theorem dX11_make_126 : decode cX11_make 126 = .ok (.tableswitch 122 0 6 #[42, 42, 64, 76, 88, 100, 110], 42) := by decide +kernel
theorem dX11_make_168 : decode cX11_make 168 = .ok (.aload_n 0, 1) := by decide +kernel
theorem dX11_make_169 : decode cX11_make 169 = .ok (.iload_n 3, 1) := by decide +kernel
theorem dX11_make_170 : decode cX11_make 170 = .ok (.iload 4, 2) := by decide +kernel
theorem dX11_make_172 : decode cX11_make 172 = .ok (.iload_n 2, 1) := by decide +kernel
theorem dX11_make_173 : decode cX11_make 173 = .ok (.iconst 1, 1) := by decide +kernel
theorem dX11_make_174 : decode cX11_make 174 = .ok (.if_icmp .ne 7, 3) := by decide +kernel
theorem dX11_make_177 : decode cX11_make 177 = .ok (.iconst 1, 1) := by decide +kernel
theorem dX11_make_178 : decode cX11_make 178 = .ok (.goto 4, 3) := by decide +kernel
theorem dX11_make_181 : decode cX11_make 181 = .ok (.iconst 0, 1) := by decide +kernel
theorem dX11_make_182 : decode cX11_make 182 = .ok (.invokevirtual 262, 3) := by decide +kernel
theorem dX11_make_185 : decode cX11_make 185 = .ok (.istore 7, 2) := by decide +kernel
theorem dX11_make_187 : decode cX11_make 187 = .ok (.goto 70, 3) := by decide +kernel
theorem dX11_make_190 : decode cX11_make 190 = .ok (.aload_n 0, 1) := by decide +kernel
theorem dX11_make_191 : decode cX11_make 191 = .ok (.iload_n 3, 1) := by decide +kernel
theorem dX11_make_192 : decode cX11_make 192 = .ok (.iload 4, 2) := by decide +kernel
theorem dX11_make_194 : decode cX11_make 194 = .ok (.invokevirtual 266, 3) := by decide +kernel
theorem dX11_make_197 : decode cX11_make 197 = .ok (.istore 7, 2) := by decide +kernel
theorem dX11_make_199 : decode cX11_make 199 = .ok (.goto 58, 3) := by decide +kernel
theorem dX11_make_202 : decode cX11_make 202 = .ok (.aload_n 0, 1) := by decide +kernel
theorem dX11_make_203 : decode cX11_make 203 = .ok (.iload_n 3, 1) := by decide +kernel
theorem dX11_make_204 : decode cX11_make 204 = .ok (.iload 4, 2) := by decide +kernel
theorem dX11_make_206 : decode cX11_make 206 = .ok (.invokevirtual 269, 3) := by decide +kernel
theorem dX11_make_209 : decode cX11_make 209 = .ok (.istore 7, 2) := by decide +kernel
theorem dX11_make_211 : decode cX11_make 211 = .ok (.goto 46, 3) := by decide +kernel
theorem dX11_make_214 : decode cX11_make 214 = .ok (.aload_n 0, 1) := by decide +kernel
theorem dX11_make_215 : decode cX11_make 215 = .ok (.iload_n 3, 1) := by decide +kernel
theorem dX11_make_216 : decode cX11_make 216 = .ok (.iload 5, 2) := by decide +kernel
theorem dX11_make_218 : decode cX11_make 218 = .ok (.invokevirtual 272, 3) := by decide +kernel
theorem dX11_make_221 : decode cX11_make 221 = .ok (.istore 7, 2) := by decide +kernel
theorem dX11_make_223 : decode cX11_make 223 = .ok (.goto 34, 3) := by decide +kernel
theorem dX11_make_226 : decode cX11_make 226 = .ok (.aload_n 0, 1) := by decide +kernel
theorem dX11_make_227 : decode cX11_make 227 = .ok (.iload_n 3, 1) := by decide +kernel
theorem dX11_make_228 : decode cX11_make 228 = .ok (.invokevirtual 275, 3) := by decide +kernel
theorem dX11_make_231 : decode cX11_make 231 = .ok (.istore 7, 2) := by decide +kernel
theorem dX11_make_233 : decode cX11_make 233 = .ok (.goto 24, 3) := by decide +kernel
theorem dX11_make_236 : decode cX11_make 236 = .ok (.aload_n 0, 1) := by decide +kernel
theorem dX11_make_237 : decode cX11_make 237 = .ok (.iload_n 3, 1) := by decide +kernel
theorem dX11_make_238 : decode cX11_make 238 = .ok (.iload 5, 2) := by decide +kernel
theorem dX11_make_240 : decode cX11_make 240 = .ok (.invokevirtual 278, 3) := by decide +kernel
theorem dX11_make_243 : decode cX11_make 243 = .ok (.istore 7, 2) := by decide +kernel
theorem dX11_make_245 : decode cX11_make 245 = .ok (.goto 12, 3) := by decide +kernel
theorem dX11_make_248 : decode cX11_make 248 = .ok (.aload_n 0, 1) := by decide +kernel
theorem dX11_make_249 : decode cX11_make 249 = .ok (.iload_n 3, 1) := by decide +kernel
theorem dX11_make_250 : decode cX11_make 250 = .ok (.iload 5, 2) := by decide +kernel
theorem dX11_make_252 : decode cX11_make 252 = .ok (.invokevirtual 281, 3) := by decide +kernel
theorem dX11_make_255 : decode cX11_make 255 = .ok (.istore 7, 2) := by decide +kernel
theorem dX11_make_257 : decode cX11_make 257 = .ok (.iload 7, 2) := by decide +kernel
theorem dX11_make_259 : decode cX11_make 259 = .ok (.ifCond .ne 6, 3) := by decide +kernel
theorem dX11_make_262 : decode cX11_make 262 = .ok (.bipush (-3), 2) := by decide +kernel
theorem dX11_make_264 : decode cX11_make 264 = .ok (.ireturn, 1) := by decide +kernel
theorem dX11_make_265 : decode cX11_make 265 = .ok (.aload_n 0, 1) := by decide +kernel
theorem dX11_make_266 : decode cX11_make 266 = .ok (.iload_n 1, 1) := by decide +kernel
theorem dX11_make_267 : decode cX11_make 267 = .ok (.invokevirtual 130, 3) := by decide +kernel
theorem dX11_make_270 : decode cX11_make 270 = .ok (.aload_n 0, 1) := by decide +kernel
theorem dX11_make_271 : decode cX11_make 271 = .ok (.getfield 7, 3) := by decide +kernel
theorem dX11_make_274 : decode cX11_make 274 = .ok (.iload_n 1, 1) := by decide +kernel
theorem dX11_make_275 : decode cX11_make 275 = .ok (.iaload, 1) := by decide +kernel
theorem dX11_make_276 : decode cX11_make 276 = .ok (.ireturn, 1) := by decide +kernel
theorem dX11_same_0 : decode cX11_same 0 = .ok (.iload_n 1, 1) := by decide +kernel
theorem dX11_same_1 : decode cX11_same 1 = .ok (.invokestatic 127, 3) := by decide +kernel
theorem dX11_same_4 : decode cX11_same 4 = .ok (.ifCond .eq 10, 3) := by decide +kernel
theorem dX11_same_7 : decode cX11_same 7 = .ok (.iload_n 2, 1) := by decide +kernel
theorem dX11_same_8 : decode cX11_same 8 = .ok (.invokestatic 127, 3) := by decide +kernel
theorem dX11_same_11 : decode cX11_same 11 = .ok (.ifCond .ne 5, 3) := by decide +kernel
theorem dX11_same_14 : decode cX11_same 14 = .ok (.iconst (-1), 1) := by decide +kernel
theorem dX11_same_15 : decode cX11_same 15 = .ok (.ireturn, 1) := by decide +kernel
theorem dX11_same_16 : decode cX11_same 16 = .ok (.aload_n 0, 1) := by decide +kernel
theorem dX11_same_17 : decode cX11_same 17 = .ok (.getfield 7, 3) := by decide +kernel
theorem dX11_same_20 : decode cX11_same 20 = .ok (.iload_n 1, 1) := by decide +kernel
theorem dX11_same_21 : decode cX11_same 21 = .ok (.iaload, 1) := by decide +kernel
theorem dX11_same_22 : decode cX11_same 22 = .ok (.aload_n 0, 1) := by decide +kernel
theorem dX11_same_23 : decode cX11_same 23 = .ok (.getfield 7, 3) := by decide +kernel
theorem dX11_same_26 : decode cX11_same 26 = .ok (.iload_n 2, 1) := by decide +kernel
theorem dX11_same_27 : decode cX11_same 27 = .ok (.iaload, 1) := by decide +kernel
theorem dX11_same_28 : decode cX11_same 28 = .ok (.iadd, 1) := by decide +kernel
theorem dX11_same_29 : decode cX11_same 29 = .ok (.istore_n 3, 1) := by decide +kernel
theorem dX11_same_30 : decode cX11_same 30 = .ok (.aload_n 0, 1) := by decide +kernel
theorem dX11_same_31 : decode cX11_same 31 = .ok (.iload_n 1, 1) := by decide +kernel
theorem dX11_same_32 : decode cX11_same 32 = .ok (.iload_n 3, 1) := by decide +kernel
theorem dX11_same_33 : decode cX11_same 33 = .ok (.iconst 1, 1) := by decide +kernel
theorem dX11_same_34 : decode cX11_same 34 = .ok (.isub, 1) := by decide +kernel
theorem dX11_same_35 : decode cX11_same 35 = .ok (.invokevirtual 150, 3) := by decide +kernel
theorem dX11_same_38 : decode cX11_same 38 = .ok (.istore 4, 2) := by decide +kernel
theorem dX11_same_40 : decode cX11_same 40 = .ok (.iconst 0, 1) := by decide +kernel
theorem dX11_same_41 : decode cX11_same 41 = .ok (.istore 5, 2) := by decide +kernel
theorem dX11_same_43 : decode cX11_same 43 = .ok (.iload 5, 2) := by decide +kernel
theorem dX11_same_45 : decode cX11_same 45 = .ok (.iload 4, 2) := by decide +kernel
theorem dX11_same_47 : decode cX11_same 47 = .ok (.if_icmp .ge 23, 3) := by decide +kernel
theorem dX11_same_50 : decode cX11_same 50 = .ok (.aload_n 0, 1) := by decide +kernel
theorem dX11_same_51 : decode cX11_same 51 = .ok (.getfield 66, 3) := by decide +kernel
theorem dX11_same_54 : decode cX11_same 54 = .ok (.iload 5, 2) := by decide +kernel
theorem dX11_same_56 : decode cX11_same 56 = .ok (.aload_n 0, 1) := by decide +kernel
theorem dX11_same_57 : decode cX11_same 57 = .ok (.getfield 30, 3) := by decide +kernel
theorem dX11_same_60 : decode cX11_same 60 = .ok (.iload 5, 2) := by decide +kernel
theorem dX11_same_62 : decode cX11_same 62 = .ok (.laload, 1) := by decide +kernel
theorem dX11_same_63 : decode cX11_same 63 = .ok (.lastore, 1) := by decide +kernel
theorem dX11_same_64 : decode cX11_same 64 = .ok (.iinc 5 1, 3) := by decide +kernel
theorem dX11_same_67 : decode cX11_same 67 = .ok (.goto (-24), 3) := by decide +kernel
theorem dX11_same_70 : decode cX11_same 70 = .ok (.aload_n 0, 1) := by decide +kernel
theorem dX11_same_71 : decode cX11_same 71 = .ok (.iload_n 2, 1) := by decide +kernel
theorem dX11_same_72 : decode cX11_same 72 = .ok (.iload_n 3, 1) := by decide +kernel
theorem dX11_same_73 : decode cX11_same 73 = .ok (.iconst 1, 1) := by decide +kernel
theorem dX11_same_74 : decode cX11_same 74 = .ok (.isub, 1) := by decide +kernel
theorem dX11_same_75 : decode cX11_same 75 = .ok (.invokevirtual 150, 3) := by decide +kernel
theorem dX11_same_78 : decode cX11_same 78 = .ok (.istore 5, 2) := by decide +kernel
theorem dX11_same_80 : decode cX11_same 80 = .ok (.iconst 0, 1) := by decide +kernel
theorem dX11_same_81 : decode cX11_same 81 = .ok (.istore 6, 2) := by decide +kernel
theorem dX11_same_83 : decode cX11_same 83 = .ok (.iload 6, 2) := by decide +kernel
theorem dX11_same_85 : decode cX11_same 85 = .ok (.iload_n 3, 1) := by decide +kernel
theorem dX11_same_86 : decode cX11_same 86 = .ok (.if_icmp .ge 46, 3) := by decide +kernel
theorem dX11_same_89 : decode cX11_same 89 = .ok (.iload 6, 2) := by decide +kernel
theorem dX11_same_91 : decode cX11_same 91 = .ok (.iload 4, 2) := by decide +kernel
theorem dX11_same_93 : decode cX11_same 93 = .ok (.if_icmp .ge 10, 3) := by decide +kernel
theorem dX11_same_96 : decode cX11_same 96 = .ok (.iload 6, 2) := by decide +kernel
theorem dX11_same_98 : decode cX11_same 98 = .ok (.iload 5, 2) := by decide +kernel
theorem dX11_same_100 : decode cX11_same 100 = .ok (.if_icmp .lt 6, 3) := by decide +kernel
theorem dX11_same_103 : decode cX11_same 103 = .ok (.bipush (-5), 2) := by decide +kernel
theorem dX11_same_105 : decode cX11_same 105 = .ok (.ireturn, 1) := by decide +kernel
theorem dX11_same_106 : decode cX11_same 106 = .ok (.aload_n 0, 1) := by decide +kernel
theorem dX11_same_107 : decode cX11_same 107 = .ok (.getfield 66, 3) := by decide +kernel
theorem dX11_same_110 : decode cX11_same 110 = .ok (.iload 6, 2) := by decide +kernel
theorem dX11_same_112 : decode cX11_same 112 = .ok (.laload, 1) := by decide +kernel
theorem dX11_same_113 : decode cX11_same 113 = .ok (.aload_n 0, 1) := by decide +kernel
theorem dX11_same_114 : decode cX11_same 114 = .ok (.getfield 30, 3) := by decide +kernel
theorem dX11_same_117 : decode cX11_same 117 = .ok (.iload 6, 2) := by decide +kernel
theorem dX11_same_119 : decode cX11_same 119 = .ok (.laload, 1) := by decide +kernel
theorem dX11_same_120 : decode cX11_same 120 = .ok (.lcmp, 1) := by decide +kernel
theorem dX11_same_121 : decode cX11_same 121 = .ok (.ifCond .eq 5, 3) := by decide +kernel
theorem dX11_same_124 : decode cX11_same 124 = .ok (.iconst 0, 1) := by decide +kernel
theorem dX11_same_125 : decode cX11_same 125 = .ok (.ireturn, 1) := by decide +kernel
theorem dX11_same_126 : decode cX11_same 126 = .ok (.iinc 6 1, 3) := by decide +kernel
theorem dX11_same_129 : decode cX11_same 129 = .ok (.goto (-46), 3) := by decide +kernel
theorem dX11_same_132 : decode cX11_same 132 = .ok (.iconst 1, 1) := by decide +kernel
theorem dX11_same_133 : decode cX11_same 133 = .ok (.ireturn, 1) := by decide +kernel
theorem dX11_isPart_0 : decode cX11_isPart 0 = .ok (.lload_n 0, 1) := by decide +kernel
theorem dX11_isPart_1 : decode cX11_isPart 1 = .ok (.lconst 0, 1) := by decide +kernel
theorem dX11_isPart_2 : decode cX11_isPart 2 = .ok (.lcmp, 1) := by decide +kernel
theorem dX11_isPart_3 : decode cX11_isPart 3 = .ok (.ifCond .ne 17, 3) := by decide +kernel
theorem dX11_isPart_6 : decode cX11_isPart 6 = .ok (.lload_n 2, 1) := by decide +kernel
theorem dX11_isPart_7 : decode cX11_isPart 7 = .ok (.lconst 0, 1) := by decide +kernel
theorem dX11_isPart_8 : decode cX11_isPart 8 = .ok (.lcmp, 1) := by decide +kernel
theorem dX11_isPart_9 : decode cX11_isPart 9 = .ok (.ifCond .ne 7, 3) := by decide +kernel
theorem dX11_isPart_12 : decode cX11_isPart 12 = .ok (.iconst 1, 1) := by decide +kernel
theorem dX11_isPart_13 : decode cX11_isPart 13 = .ok (.goto 20, 3) := by decide +kernel
theorem dX11_isPart_16 : decode cX11_isPart 16 = .ok (.iconst 0, 1) := by decide +kernel
theorem dX11_isPart_17 : decode cX11_isPart 17 = .ok (.goto 16, 3) := by decide +kernel
theorem dX11_isPart_20 : decode cX11_isPart 20 = .ok (.lload_n 2, 1) := by decide +kernel
theorem dX11_isPart_21 : decode cX11_isPart 21 = .ok (.lload_n 0, 1) := by decide +kernel
theorem dX11_isPart_22 : decode cX11_isPart 22 = .ok (.lrem, 1) := by decide +kernel
theorem dX11_isPart_23 : decode cX11_isPart 23 = .ok (.lconst 0, 1) := by decide +kernel
theorem dX11_isPart_24 : decode cX11_isPart 24 = .ok (.lcmp, 1) := by decide +kernel
theorem dX11_isPart_25 : decode cX11_isPart 25 = .ok (.ifCond .ne 7, 3) := by decide +kernel
theorem dX11_isPart_28 : decode cX11_isPart 28 = .ok (.iconst 1, 1) := by decide +kernel
theorem dX11_isPart_29 : decode cX11_isPart 29 = .ok (.goto 4, 3) := by decide +kernel
theorem dX11_isPart_32 : decode cX11_isPart 32 = .ok (.iconst 0, 1) := by decide +kernel
theorem dX11_isPart_33 : decode cX11_isPart 33 = .ok (.ireturn, 1) := by decide +kernel
theorem dX11_common_0 : decode cX11_common 0 = .ok (.iload_n 0, 1) := by decide +kernel
theorem dX11_common_1 : decode cX11_common 1 = .ok (.i2l, 1) := by decide +kernel
theorem dX11_common_2 : decode cX11_common 2 = .ok (.iload_n 1, 1) := by decide +kernel
theorem dX11_common_3 : decode cX11_common 3 = .ok (.i2l, 1) := by decide +kernel
theorem dX11_common_4 : decode cX11_common 4 = .ok (.invokestatic 196, 3) := by decide +kernel
theorem dX11_common_7 : decode cX11_common 7 = .ok (.l2i, 1) := by decide +kernel
theorem dX11_common_8 : decode cX11_common 8 = .ok (.ireturn, 1) := by decide +kernel
theorem dX11_dividing_0 : decode cX11_dividing 0 = .ok (.iload_n 1, 1) := by decide +kernel
theorem dX11_dividing_1 : decode cX11_dividing 1 = .ok (.invokestatic 127, 3) := by decide +kernel
theorem dX11_dividing_4 : decode cX11_dividing 4 = .ok (.ifCond .eq 17, 3) := by decide +kernel
theorem dX11_dividing_7 : decode cX11_dividing 7 = .ok (.iload_n 3, 1) := by decide +kernel
theorem dX11_dividing_8 : decode cX11_dividing 8 = .ok (.i2l, 1) := by decide +kernel
theorem dX11_dividing_9 : decode cX11_dividing 9 = .ok (.ldc2_w 134, 3) := by decide +kernel
theorem dX11_dividing_12 : decode cX11_dividing 12 = .ok (.ldc2_w 284, 3) := by decide +kernel
theorem dX11_dividing_15 : decode cX11_dividing 15 = .ok (.invokestatic 80, 3) := by decide +kernel
theorem dX11_dividing_18 : decode cX11_dividing 18 = .ok (.ifCond .ne 5, 3) := by decide +kernel
theorem dX11_dividing_21 : decode cX11_dividing 21 = .ok (.iconst (-1), 1) := by decide +kernel
theorem dX11_dividing_22 : decode cX11_dividing 22 = .ok (.ireturn, 1) := by decide +kernel
theorem dX11_dividing_23 : decode cX11_dividing 23 = .ok (.aload_n 0, 1) := by decide +kernel
theorem dX11_dividing_24 : decode cX11_dividing 24 = .ok (.iload_n 1, 1) := by decide +kernel
theorem dX11_dividing_25 : decode cX11_dividing 25 = .ok (.iload_n 3, 1) := by decide +kernel
theorem dX11_dividing_26 : decode cX11_dividing 26 = .ok (.invokevirtual 150, 3) := by decide +kernel
theorem dX11_dividing_29 : decode cX11_dividing 29 = .ok (.iload_n 3, 1) := by decide +kernel
theorem dX11_dividing_30 : decode cX11_dividing 30 = .ok (.if_icmp .gt 6, 3) := by decide +kernel
theorem dX11_dividing_33 : decode cX11_dividing 33 = .ok (.bipush (-5), 2) := by decide +kernel
theorem dX11_dividing_35 : decode cX11_dividing 35 = .ok (.ireturn, 1) := by decide +kernel
theorem dX11_dividing_36 : decode cX11_dividing 36 = .ok (.iconst 2, 1) := by decide +kernel
theorem dX11_dividing_37 : decode cX11_dividing 37 = .ok (.istore 4, 2) := by decide +kernel
theorem dX11_dividing_39 : decode cX11_dividing 39 = .ok (.iload 4, 2) := by decide +kernel
theorem dX11_dividing_41 : decode cX11_dividing 41 = .ok (.iload_n 3, 1) := by decide +kernel
theorem dX11_dividing_42 : decode cX11_dividing 42 = .ok (.if_icmp .gt 122, 3) := by decide +kernel
theorem dX11_dividing_45 : decode cX11_dividing 45 = .ok (.iconst 1, 1) := by decide +kernel
theorem dX11_dividing_46 : decode cX11_dividing 46 = .ok (.istore 5, 2) := by decide +kernel
theorem dX11_dividing_48 : decode cX11_dividing 48 = .ok (.iload 5, 2) := by decide +kernel
theorem dX11_dividing_50 : decode cX11_dividing 50 = .ok (.iload 4, 2) := by decide +kernel
theorem dX11_dividing_52 : decode cX11_dividing 52 = .ok (.if_icmp .ge 106, 3) := by decide +kernel
theorem dX11_dividing_55 : decode cX11_dividing 55 = .ok (.iload_n 2, 1) := by decide +kernel
theorem dX11_dividing_56 : decode cX11_dividing 56 = .ok (.ifCond .eq 47, 3) := by decide +kernel
theorem dX11_dividing_59 : decode cX11_dividing 59 = .ok (.aload_n 0, 1) := by decide +kernel
theorem dX11_dividing_60 : decode cX11_dividing 60 = .ok (.getfield 30, 3) := by decide +kernel
theorem dX11_dividing_63 : decode cX11_dividing 63 = .ok (.iload 5, 2) := by decide +kernel
theorem dX11_dividing_65 : decode cX11_dividing 65 = .ok (.laload, 1) := by decide +kernel
theorem dX11_dividing_66 : decode cX11_dividing 66 = .ok (.aload_n 0, 1) := by decide +kernel
theorem dX11_dividing_67 : decode cX11_dividing 67 = .ok (.getfield 30, 3) := by decide +kernel
theorem dX11_dividing_70 : decode cX11_dividing 70 = .ok (.iload 4, 2) := by decide +kernel
theorem dX11_dividing_72 : decode cX11_dividing 72 = .ok (.laload, 1) := by decide +kernel
theorem dX11_dividing_73 : decode cX11_dividing 73 = .ok (.invokestatic 196, 3) := by decide +kernel
theorem dX11_dividing_76 : decode cX11_dividing 76 = .ok (.aload_n 0, 1) := by decide +kernel
theorem dX11_dividing_77 : decode cX11_dividing 77 = .ok (.getfield 30, 3) := by decide +kernel
theorem dX11_dividing_80 : decode cX11_dividing 80 = .ok (.iload 5, 2) := by decide +kernel
theorem dX11_dividing_82 : decode cX11_dividing 82 = .ok (.iload 4, 2) := by decide +kernel
theorem dX11_dividing_84 : decode cX11_dividing 84 = .ok (.invokestatic 286, 3) := by decide +kernel
theorem dX11_dividing_87 : decode cX11_dividing 87 = .ok (.laload, 1) := by decide +kernel
theorem dX11_dividing_88 : decode cX11_dividing 88 = .ok (.invokestatic 84, 3) := by decide +kernel
theorem dX11_dividing_91 : decode cX11_dividing 91 = .ok (.lcmp, 1) := by decide +kernel
theorem dX11_dividing_92 : decode cX11_dividing 92 = .ok (.ifCond .ne 7, 3) := by decide +kernel
theorem dX11_dividing_95 : decode cX11_dividing 95 = .ok (.iconst 1, 1) := by decide +kernel
theorem dX11_dividing_96 : decode cX11_dividing 96 = .ok (.goto 40, 3) := by decide +kernel
theorem dX11_dividing_99 : decode cX11_dividing 99 = .ok (.iconst 0, 1) := by decide +kernel
theorem dX11_dividing_100 : decode cX11_dividing 100 = .ok (.goto 36, 3) := by decide +kernel
theorem dX11_dividing_103 : decode cX11_dividing 103 = .ok (.iload 4, 2) := by decide +kernel
theorem dX11_dividing_105 : decode cX11_dividing 105 = .ok (.iload 5, 2) := by decide +kernel
theorem dX11_dividing_107 : decode cX11_dividing 107 = .ok (.irem, 1) := by decide +kernel
theorem dX11_dividing_108 : decode cX11_dividing 108 = .ok (.ifCond .ne 23, 3) := by decide +kernel
theorem dX11_dividing_111 : decode cX11_dividing 111 = .ok (.aload_n 0, 1) := by decide +kernel
theorem dX11_dividing_112 : decode cX11_dividing 112 = .ok (.getfield 30, 3) := by decide +kernel
theorem dX11_dividing_115 : decode cX11_dividing 115 = .ok (.iload 5, 2) := by decide +kernel
theorem dX11_dividing_117 : decode cX11_dividing 117 = .ok (.laload, 1) := by decide +kernel
theorem dX11_dividing_118 : decode cX11_dividing 118 = .ok (.aload_n 0, 1) := by decide +kernel
theorem dX11_dividing_119 : decode cX11_dividing 119 = .ok (.getfield 30, 3) := by decide +kernel
theorem dX11_dividing_122 : decode cX11_dividing 122 = .ok (.iload 4, 2) := by decide +kernel
theorem dX11_dividing_124 : decode cX11_dividing 124 = .ok (.laload, 1) := by decide +kernel
theorem dX11_dividing_125 : decode cX11_dividing 125 = .ok (.invokestatic 289, 3) := by decide +kernel
theorem dX11_dividing_128 : decode cX11_dividing 128 = .ok (.ifCond .eq 7, 3) := by decide +kernel
theorem dX11_dividing_131 : decode cX11_dividing 131 = .ok (.iconst 1, 1) := by decide +kernel
theorem dX11_dividing_132 : decode cX11_dividing 132 = .ok (.goto 4, 3) := by decide +kernel
theorem dX11_dividing_135 : decode cX11_dividing 135 = .ok (.iconst 0, 1) := by decide +kernel
theorem dX11_dividing_136 : decode cX11_dividing 136 = .ok (.istore 6, 2) := by decide +kernel
theorem dX11_dividing_138 : decode cX11_dividing 138 = .ok (.iload 6, 2) := by decide +kernel
theorem dX11_dividing_140 : decode cX11_dividing 140 = .ok (.ifCond .ne 12, 3) := by decide +kernel
theorem dX11_dividing_143 : decode cX11_dividing 143 = .ok (.bipush 100, 2) := by decide +kernel
theorem dX11_dividing_145 : decode cX11_dividing 145 = .ok (.iload 5, 2) := by decide +kernel
theorem dX11_dividing_147 : decode cX11_dividing 147 = .ok (.imul, 1) := by decide +kernel
theorem dX11_dividing_148 : decode cX11_dividing 148 = .ok (.iload 4, 2) := by decide +kernel
theorem dX11_dividing_150 : decode cX11_dividing 150 = .ok (.iadd, 1) := by decide +kernel
theorem dX11_dividing_151 : decode cX11_dividing 151 = .ok (.ireturn, 1) := by decide +kernel
theorem dX11_dividing_152 : decode cX11_dividing 152 = .ok (.iinc 5 1, 3) := by decide +kernel
theorem dX11_dividing_155 : decode cX11_dividing 155 = .ok (.goto (-107), 3) := by decide +kernel
theorem dX11_dividing_158 : decode cX11_dividing 158 = .ok (.iinc 4 1, 3) := by decide +kernel
theorem dX11_dividing_161 : decode cX11_dividing 161 = .ok (.goto (-122), 3) := by decide +kernel
theorem dX11_dividing_164 : decode cX11_dividing 164 = .ok (.bipush (-4), 2) := by decide +kernel
theorem dX11_dividing_166 : decode cX11_dividing 166 = .ok (.ireturn, 1) := by decide +kernel
theorem dX11_goesIn_0 : decode cX11_goesIn 0 = .ok (.iconst 0, 1) := by decide +kernel
theorem dX11_goesIn_1 : decode cX11_goesIn 1 = .ok (.istore_n 3, 1) := by decide +kernel
theorem dX11_goesIn_2 : decode cX11_goesIn 2 = .ok (.iload_n 3, 1) := by decide +kernel
theorem dX11_goesIn_3 : decode cX11_goesIn 3 = .ok (.aload_n 0, 1) := by decide +kernel
theorem dX11_goesIn_4 : decode cX11_goesIn 4 = .ok (.getfield 292, 3) := by decide +kernel
theorem dX11_goesIn_7 : decode cX11_goesIn 7 = .ok (.if_icmp .gt 21, 3) := by decide +kernel
theorem dX11_goesIn_10 : decode cX11_goesIn 10 = .ok (.aload_n 0, 1) := by decide +kernel
theorem dX11_goesIn_11 : decode cX11_goesIn 11 = .ok (.getfield 75, 3) := by decide +kernel
theorem dX11_goesIn_14 : decode cX11_goesIn 14 = .ok (.iload_n 3, 1) := by decide +kernel
theorem dX11_goesIn_15 : decode cX11_goesIn 15 = .ok (.aload_n 0, 1) := by decide +kernel
theorem dX11_goesIn_16 : decode cX11_goesIn 16 = .ok (.getfield 69, 3) := by decide +kernel
theorem dX11_goesIn_19 : decode cX11_goesIn 19 = .ok (.iload_n 3, 1) := by decide +kernel
theorem dX11_goesIn_20 : decode cX11_goesIn 20 = .ok (.laload, 1) := by decide +kernel
theorem dX11_goesIn_21 : decode cX11_goesIn 21 = .ok (.lastore, 1) := by decide +kernel
theorem dX11_goesIn_22 : decode cX11_goesIn 22 = .ok (.iinc 3 1, 3) := by decide +kernel
theorem dX11_goesIn_25 : decode cX11_goesIn 25 = .ok (.goto (-23), 3) := by decide +kernel
theorem dX11_goesIn_28 : decode cX11_goesIn 28 = .ok (.iconst 0, 1) := by decide +kernel
theorem dX11_goesIn_29 : decode cX11_goesIn 29 = .ok (.istore_n 3, 1) := by decide +kernel
theorem dX11_goesIn_30 : decode cX11_goesIn 30 = .ok (.iload_n 3, 1) := by decide +kernel
theorem dX11_goesIn_31 : decode cX11_goesIn 31 = .ok (.iload_n 1, 1) := by decide +kernel
theorem dX11_goesIn_32 : decode cX11_goesIn 32 = .ok (.iadd, 1) := by decide +kernel
theorem dX11_goesIn_33 : decode cX11_goesIn 33 = .ok (.aload_n 0, 1) := by decide +kernel
theorem dX11_goesIn_34 : decode cX11_goesIn 34 = .ok (.getfield 292, 3) := by decide +kernel
theorem dX11_goesIn_37 : decode cX11_goesIn 37 = .ok (.if_icmp .gt 73, 3) := by decide +kernel
theorem dX11_goesIn_40 : decode cX11_goesIn 40 = .ok (.iconst 1, 1) := by decide +kernel
theorem dX11_goesIn_41 : decode cX11_goesIn 41 = .ok (.istore 4, 2) := by decide +kernel
theorem dX11_goesIn_43 : decode cX11_goesIn 43 = .ok (.iload 4, 2) := by decide +kernel
theorem dX11_goesIn_45 : decode cX11_goesIn 45 = .ok (.iload_n 1, 1) := by decide +kernel
theorem dX11_goesIn_46 : decode cX11_goesIn 46 = .ok (.if_icmp .gt 58, 3) := by decide +kernel
theorem dX11_goesIn_49 : decode cX11_goesIn 49 = .ok (.aload_n 0, 1) := by decide +kernel
theorem dX11_goesIn_50 : decode cX11_goesIn 50 = .ok (.getfield 75, 3) := by decide +kernel
theorem dX11_goesIn_53 : decode cX11_goesIn 53 = .ok (.iload_n 3, 1) := by decide +kernel
theorem dX11_goesIn_54 : decode cX11_goesIn 54 = .ok (.laload, 1) := by decide +kernel
theorem dX11_goesIn_55 : decode cX11_goesIn 55 = .ok (.lconst 0, 1) := by decide +kernel
theorem dX11_goesIn_56 : decode cX11_goesIn 56 = .ok (.lcmp, 1) := by decide +kernel
theorem dX11_goesIn_57 : decode cX11_goesIn 57 = .ok (.ifCond .eq 47, 3) := by decide +kernel
theorem dX11_goesIn_60 : decode cX11_goesIn 60 = .ok (.aload_n 0, 1) := by decide +kernel
theorem dX11_goesIn_61 : decode cX11_goesIn 61 = .ok (.getfield 75, 3) := by decide +kernel
theorem dX11_goesIn_64 : decode cX11_goesIn 64 = .ok (.iload_n 3, 1) := by decide +kernel
theorem dX11_goesIn_65 : decode cX11_goesIn 65 = .ok (.iload 4, 2) := by decide +kernel
theorem dX11_goesIn_67 : decode cX11_goesIn 67 = .ok (.iadd, 1) := by decide +kernel
theorem dX11_goesIn_68 : decode cX11_goesIn 68 = .ok (.aload_n 0, 1) := by decide +kernel
theorem dX11_goesIn_69 : decode cX11_goesIn 69 = .ok (.getfield 75, 3) := by decide +kernel
theorem dX11_goesIn_72 : decode cX11_goesIn 72 = .ok (.iload_n 3, 1) := by decide +kernel
theorem dX11_goesIn_73 : decode cX11_goesIn 73 = .ok (.iload 4, 2) := by decide +kernel
