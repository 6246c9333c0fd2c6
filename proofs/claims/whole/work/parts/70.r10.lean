/-! part 70.r10: block equations of the reference's methods 270 to 278 (printed by wip/whole/tools/gen71.py) -/
theorem qy_271 : vt_O 271 = 12 := by decide +kernel
theorem qr_271 : vt_rc.getD 271 0 = 1 := by decide +kernel
theorem ql_271 : vt_ml.getD 271 0 = 7 := by decide +kernel
theorem qy_272 : vt_O 272 = 12 := by decide +kernel
theorem qr_272 : vt_rc.getD 272 0 = 3 := by decide +kernel
theorem ql_272 : vt_ml.getD 272 0 = 3 := by decide +kernel
theorem qy_274 : vt_O 274 = 12 := by decide +kernel
theorem qr_274 : vt_rc.getD 274 0 = 0 := by decide +kernel
theorem ql_274 : vt_ml.getD 274 0 = 1 := by decide +kernel
theorem qy_276 : vt_O 276 = 12 := by decide +kernel
theorem qr_276 : vt_rc.getD 276 0 = 2 := by decide +kernel
theorem ql_276 : vt_ml.getD 276 0 = 5 := by decide +kernel
theorem qy_277 : vt_O 277 = 12 := by decide +kernel
theorem qr_277 : vt_rc.getD 277 0 = 1 := by decide +kernel
theorem ql_277 : vt_ml.getD 277 0 = 1 := by decide +kernel
theorem qy_278 : vt_O 278 = 12 := by decide +kernel
theorem qr_278 : vt_rc.getD 278 0 = 0 := by decide +kernel
theorem ql_278 : vt_ml.getD 278 0 = 1 := by decide +kernel
theorem q_270_0 : js_I 270 0 = some (.aload_n 0, 1) := by decide +kernel
theorem q_270_1 : js_I 270 1 = some (.getfield 377, 3) := by decide +kernel
theorem q_270_4 : js_I 270 4 = some (.iload_n 1, 1) := by decide +kernel
theorem q_270_5 : js_I 270 5 = some (.laload, 1) := by decide +kernel
theorem q_270_6 : js_I 270 6 = some (.lstore 5, 2) := by decide +kernel
theorem q_270_8 : js_I 270 8 = some (.aload_n 0, 1) := by decide +kernel
theorem q_270_9 : js_I 270 9 = some (.getfield 380, 3) := by decide +kernel
theorem q_270_12 : js_I 270 12 = some (.iload_n 1, 1) := by decide +kernel
theorem q_270_13 : js_I 270 13 = some (.laload, 1) := by decide +kernel
theorem q_270_14 : js_I 270 14 = some (.lstore 7, 2) := by decide +kernel
theorem q_270_16 : js_I 270 16 = some (.sipush 4096, 3) := by decide +kernel
theorem q_270_19 : js_I 270 19 = some (.iload_n 1, 1) := by decide +kernel
theorem q_270_20 : js_I 270 20 = some (.imul, 1) := by decide +kernel
theorem q_270_21 : js_I 270 21 = some (.istore 9, 2) := by decide +kernel
theorem q_270_23 : js_I 270 23 = some (.iload_n 1, 1) := by decide +kernel
theorem q_270_24 : js_I 270 24 = some (.ifCond .ne 8, 3) := by decide +kernel
theorem q_270_27 : js_I 270 27 = some (.iload_n 3, 1) := by decide +kernel
theorem q_270_28 : js_I 270 28 = some (.i2l, 1) := by decide +kernel
theorem q_270_29 : js_I 270 29 = some (.goto 9, 3) := by decide +kernel
theorem q_270_32 : js_I 270 32 = some (.ldc2_w 571, 3) := by decide +kernel
theorem q_270_35 : js_I 270 35 = some (.iload_n 3, 1) := by decide +kernel
theorem q_270_36 : js_I 270 36 = some (.i2l, 1) := by decide +kernel
theorem q_270_37 : js_I 270 37 = some (.lmul, 1) := by decide +kernel
theorem q_270_38 : js_I 270 38 = some (.lstore 10, 2) := by decide +kernel
theorem q_270_40 : js_I 270 40 = some (.iload_n 2, 1) := by decide +kernel
theorem q_270_41 : js_I 270 41 = some (.tableswitch 850 0 30 #[139, 150, 168, 182, 193, 232, 267, 281, 295, 347, 387, 410, 426, 442, 469, 496, 523, 550, 577, 604, 616, 640, 666, 690, 714, 722, 744, 766, 804, 850, 837], 139) := by decide +kernel
theorem q_270_180 : js_I 270 180 = some (.aload_n 0, 1) := by decide +kernel
theorem q_270_181 : js_I 270 181 = some (.getfield 377, 3) := by decide +kernel
theorem q_270_184 : js_I 270 184 = some (.iload_n 1, 1) := by decide +kernel
theorem q_270_185 : js_I 270 185 = some (.lload 10, 2) := by decide +kernel
theorem q_270_187 : js_I 270 187 = some (.lastore, 1) := by decide +kernel
theorem q_270_188 : js_I 270 188 = some (.goto 703, 3) := by decide +kernel
theorem q_270_191 : js_I 270 191 = some (.aload_n 0, 1) := by decide +kernel
theorem q_270_192 : js_I 270 192 = some (.getfield 377, 3) := by decide +kernel
theorem q_270_195 : js_I 270 195 = some (.iload_n 1, 1) := by decide +kernel
theorem q_270_196 : js_I 270 196 = some (.aload_n 0, 1) := by decide +kernel
theorem q_270_197 : js_I 270 197 = some (.getfield 374, 3) := by decide +kernel
theorem q_270_200 : js_I 270 200 = some (.iload 9, 2) := by decide +kernel
theorem q_270_202 : js_I 270 202 = some (.iload_n 3, 1) := by decide +kernel
theorem q_270_203 : js_I 270 203 = some (.iadd, 1) := by decide +kernel
theorem q_270_204 : js_I 270 204 = some (.laload, 1) := by decide +kernel
theorem q_270_205 : js_I 270 205 = some (.lastore, 1) := by decide +kernel
theorem q_270_206 : js_I 270 206 = some (.goto 685, 3) := by decide +kernel
theorem q_270_209 : js_I 270 209 = some (.aload_n 0, 1) := by decide +kernel
theorem q_270_210 : js_I 270 210 = some (.getfield 374, 3) := by decide +kernel
theorem q_270_213 : js_I 270 213 = some (.iload 9, 2) := by decide +kernel
theorem q_270_215 : js_I 270 215 = some (.iload_n 3, 1) := by decide +kernel
theorem q_270_216 : js_I 270 216 = some (.iadd, 1) := by decide +kernel
theorem q_270_217 : js_I 270 217 = some (.lload 5, 2) := by decide +kernel
theorem q_270_219 : js_I 270 219 = some (.lastore, 1) := by decide +kernel
theorem q_270_220 : js_I 270 220 = some (.goto 671, 3) := by decide +kernel
theorem q_270_223 : js_I 270 223 = some (.aload_n 0, 1) := by decide +kernel
theorem q_270_224 : js_I 270 224 = some (.getfield 380, 3) := by decide +kernel
theorem q_270_227 : js_I 270 227 = some (.iload_n 1, 1) := by decide +kernel
theorem q_270_228 : js_I 270 228 = some (.lload 5, 2) := by decide +kernel
theorem q_270_230 : js_I 270 230 = some (.lastore, 1) := by decide +kernel
theorem q_270_231 : js_I 270 231 = some (.goto 660, 3) := by decide +kernel
theorem q_270_234 : js_I 270 234 = some (.aload_n 0, 1) := by decide +kernel
theorem q_270_235 : js_I 270 235 = some (.iload_n 1, 1) := by decide +kernel
theorem q_270_236 : js_I 270 236 = some (.lload 5, 2) := by decide +kernel
theorem q_270_238 : js_I 270 238 = some (.iload 4, 2) := by decide +kernel
theorem q_270_240 : js_I 270 240 = some (.invokevirtual 603, 3) := by decide +kernel
theorem q_270_243 : js_I 270 243 = some (.istore 12, 2) := by decide +kernel
theorem q_270_245 : js_I 270 245 = some (.iload 12, 2) := by decide +kernel
theorem q_270_247 : js_I 270 247 = some (.ifCond .ge 5, 3) := by decide +kernel
theorem q_270_250 : js_I 270 250 = some (.iconst 0, 1) := by decide +kernel
theorem q_270_251 : js_I 270 251 = some (.ireturn, 1) := by decide +kernel
theorem q_270_252 : js_I 270 252 = some (.aload_n 0, 1) := by decide +kernel
theorem q_270_253 : js_I 270 253 = some (.getfield 377, 3) := by decide +kernel
theorem q_270_256 : js_I 270 256 = some (.iload_n 1, 1) := by decide +kernel
theorem q_270_257 : js_I 270 257 = some (.aload_n 0, 1) := by decide +kernel
theorem q_270_258 : js_I 270 258 = some (.getfield 374, 3) := by decide +kernel
theorem q_270_261 : js_I 270 261 = some (.iload 9, 2) := by decide +kernel
theorem q_270_263 : js_I 270 263 = some (.iload_n 3, 1) := by decide +kernel
theorem q_270_264 : js_I 270 264 = some (.iadd, 1) := by decide +kernel
theorem q_270_265 : js_I 270 265 = some (.iload 12, 2) := by decide +kernel
theorem q_270_267 : js_I 270 267 = some (.iadd, 1) := by decide +kernel
theorem q_270_268 : js_I 270 268 = some (.laload, 1) := by decide +kernel
theorem q_270_269 : js_I 270 269 = some (.lastore, 1) := by decide +kernel
theorem q_270_270 : js_I 270 270 = some (.goto 621, 3) := by decide +kernel
theorem q_270_273 : js_I 270 273 = some (.aload_n 0, 1) := by decide +kernel
theorem q_270_274 : js_I 270 274 = some (.iload_n 1, 1) := by decide +kernel
theorem q_270_275 : js_I 270 275 = some (.lload 7, 2) := by decide +kernel
theorem q_270_277 : js_I 270 277 = some (.iload 4, 2) := by decide +kernel
theorem q_270_279 : js_I 270 279 = some (.invokevirtual 603, 3) := by decide +kernel
theorem q_270_282 : js_I 270 282 = some (.istore 12, 2) := by decide +kernel
theorem q_270_284 : js_I 270 284 = some (.iload 12, 2) := by decide +kernel
theorem q_270_286 : js_I 270 286 = some (.ifCond .ge 5, 3) := by decide +kernel
theorem q_270_289 : js_I 270 289 = some (.iconst 0, 1) := by decide +kernel
theorem q_270_290 : js_I 270 290 = some (.ireturn, 1) := by decide +kernel
theorem q_270_291 : js_I 270 291 = some (.aload_n 0, 1) := by decide +kernel
theorem q_270_292 : js_I 270 292 = some (.getfield 374, 3) := by decide +kernel
theorem q_270_295 : js_I 270 295 = some (.iload 9, 2) := by decide +kernel
theorem q_270_297 : js_I 270 297 = some (.iload_n 3, 1) := by decide +kernel
theorem q_270_298 : js_I 270 298 = some (.iadd, 1) := by decide +kernel
theorem q_270_299 : js_I 270 299 = some (.iload 12, 2) := by decide +kernel
theorem q_270_301 : js_I 270 301 = some (.iadd, 1) := by decide +kernel
theorem q_270_302 : js_I 270 302 = some (.lload 5, 2) := by decide +kernel
theorem q_270_304 : js_I 270 304 = some (.lastore, 1) := by decide +kernel
theorem q_270_305 : js_I 270 305 = some (.goto 586, 3) := by decide +kernel
theorem q_270_308 : js_I 270 308 = some (.aload_n 0, 1) := by decide +kernel
theorem q_270_309 : js_I 270 309 = some (.getfield 377, 3) := by decide +kernel
theorem q_270_312 : js_I 270 312 = some (.iload_n 1, 1) := by decide +kernel
theorem q_270_313 : js_I 270 313 = some (.lload 5, 2) := by decide +kernel
theorem q_270_315 : js_I 270 315 = some (.lload 7, 2) := by decide +kernel
theorem q_270_317 : js_I 270 317 = some (.ladd, 1) := by decide +kernel
theorem q_270_318 : js_I 270 318 = some (.lastore, 1) := by decide +kernel
theorem q_270_319 : js_I 270 319 = some (.goto 572, 3) := by decide +kernel
theorem q_270_322 : js_I 270 322 = some (.aload_n 0, 1) := by decide +kernel
theorem q_270_323 : js_I 270 323 = some (.getfield 377, 3) := by decide +kernel
theorem q_270_326 : js_I 270 326 = some (.iload_n 1, 1) := by decide +kernel
theorem q_270_327 : js_I 270 327 = some (.lload 5, 2) := by decide +kernel
theorem q_270_329 : js_I 270 329 = some (.lload 7, 2) := by decide +kernel
theorem q_270_331 : js_I 270 331 = some (.lsub, 1) := by decide +kernel
theorem q_270_332 : js_I 270 332 = some (.lastore, 1) := by decide +kernel
theorem q_270_333 : js_I 270 333 = some (.goto 558, 3) := by decide +kernel
theorem q_270_336 : js_I 270 336 = some (.iload_n 1, 1) := by decide +kernel
theorem q_270_337 : js_I 270 337 = some (.iconst 1, 1) := by decide +kernel
theorem q_270_338 : js_I 270 338 = some (.if_icmp .ne 19, 3) := by decide +kernel
theorem q_270_341 : js_I 270 341 = some (.lload 5, 2) := by decide +kernel
theorem q_270_343 : js_I 270 343 = some (.lload 7, 2) := by decide +kernel
theorem q_270_345 : js_I 270 345 = some (.lmul, 1) := by decide +kernel
theorem q_270_346 : js_I 270 346 = some (.ldc2_w 571, 3) := by decide +kernel
theorem q_270_349 : js_I 270 349 = some (.lrem, 1) := by decide +kernel
theorem q_270_350 : js_I 270 350 = some (.lconst 0, 1) := by decide +kernel
theorem q_270_351 : js_I 270 351 = some (.lcmp, 1) := by decide +kernel
theorem q_270_352 : js_I 270 352 = some (.ifCond .eq 5, 3) := by decide +kernel
theorem q_270_355 : js_I 270 355 = some (.iconst 0, 1) := by decide +kernel
theorem q_270_356 : js_I 270 356 = some (.ireturn, 1) := by decide +kernel
theorem q_270_357 : js_I 270 357 = some (.aload_n 0, 1) := by decide +kernel
theorem q_270_358 : js_I 270 358 = some (.getfield 377, 3) := by decide +kernel
theorem q_270_361 : js_I 270 361 = some (.iload_n 1, 1) := by decide +kernel
theorem q_270_362 : js_I 270 362 = some (.iload_n 1, 1) := by decide +kernel
theorem q_270_363 : js_I 270 363 = some (.iconst 1, 1) := by decide +kernel
theorem q_270_364 : js_I 270 364 = some (.if_icmp .ne 15, 3) := by decide +kernel
theorem q_270_367 : js_I 270 367 = some (.lload 5, 2) := by decide +kernel
theorem q_270_369 : js_I 270 369 = some (.lload 7, 2) := by decide +kernel
theorem q_270_371 : js_I 270 371 = some (.lmul, 1) := by decide +kernel
theorem q_270_372 : js_I 270 372 = some (.ldc2_w 571, 3) := by decide +kernel
theorem q_270_375 : js_I 270 375 = some (.ldiv, 1) := by decide +kernel
theorem q_270_376 : js_I 270 376 = some (.goto 8, 3) := by decide +kernel
theorem q_270_379 : js_I 270 379 = some (.lload 5, 2) := by decide +kernel
theorem q_270_381 : js_I 270 381 = some (.lload 7, 2) := by decide +kernel
theorem q_270_383 : js_I 270 383 = some (.lmul, 1) := by decide +kernel
theorem q_270_384 : js_I 270 384 = some (.lastore, 1) := by decide +kernel
theorem q_270_385 : js_I 270 385 = some (.goto 506, 3) := by decide +kernel
theorem q_270_388 : js_I 270 388 = some (.lload 7, 2) := by decide +kernel
theorem q_270_390 : js_I 270 390 = some (.lconst 0, 1) := by decide +kernel
theorem q_270_391 : js_I 270 391 = some (.lcmp, 1) := by decide +kernel
theorem q_270_392 : js_I 270 392 = some (.ifCond .ne 5, 3) := by decide +kernel
theorem q_270_395 : js_I 270 395 = some (.iconst 0, 1) := by decide +kernel
theorem q_270_396 : js_I 270 396 = some (.ireturn, 1) := by decide +kernel
theorem q_270_397 : js_I 270 397 = some (.aload_n 0, 1) := by decide +kernel
theorem q_270_398 : js_I 270 398 = some (.getfield 377, 3) := by decide +kernel
theorem q_270_401 : js_I 270 401 = some (.iload_n 1, 1) := by decide +kernel
theorem q_270_402 : js_I 270 402 = some (.iload_n 1, 1) := by decide +kernel
theorem q_270_403 : js_I 270 403 = some (.iconst 1, 1) := by decide +kernel
theorem q_270_404 : js_I 270 404 = some (.if_icmp .ne 15, 3) := by decide +kernel
theorem q_270_407 : js_I 270 407 = some (.ldc2_w 571, 3) := by decide +kernel
theorem q_270_410 : js_I 270 410 = some (.lload 5, 2) := by decide +kernel
theorem q_270_412 : js_I 270 412 = some (.lload 7, 2) := by decide +kernel
theorem q_270_414 : js_I 270 414 = some (.ldiv, 1) := by decide +kernel
theorem q_270_415 : js_I 270 415 = some (.lmul, 1) := by decide +kernel
theorem q_270_416 : js_I 270 416 = some (.goto 8, 3) := by decide +kernel
theorem q_270_419 : js_I 270 419 = some (.lload 5, 2) := by decide +kernel
theorem q_270_421 : js_I 270 421 = some (.lload 7, 2) := by decide +kernel
theorem q_270_423 : js_I 270 423 = some (.ldiv, 1) := by decide +kernel
theorem q_270_424 : js_I 270 424 = some (.lastore, 1) := by decide +kernel
theorem q_270_425 : js_I 270 425 = some (.goto 466, 3) := by decide +kernel
theorem q_270_428 : js_I 270 428 = some (.lload 7, 2) := by decide +kernel
theorem q_270_430 : js_I 270 430 = some (.lconst 0, 1) := by decide +kernel
theorem q_270_431 : js_I 270 431 = some (.lcmp, 1) := by decide +kernel
theorem q_270_432 : js_I 270 432 = some (.ifCond .ne 5, 3) := by decide +kernel
theorem q_270_435 : js_I 270 435 = some (.iconst 0, 1) := by decide +kernel
theorem q_270_436 : js_I 270 436 = some (.ireturn, 1) := by decide +kernel
theorem q_270_437 : js_I 270 437 = some (.aload_n 0, 1) := by decide +kernel
theorem q_270_438 : js_I 270 438 = some (.getfield 377, 3) := by decide +kernel
theorem q_270_441 : js_I 270 441 = some (.iload_n 1, 1) := by decide +kernel
theorem q_270_442 : js_I 270 442 = some (.lload 5, 2) := by decide +kernel
theorem q_270_444 : js_I 270 444 = some (.lload 7, 2) := by decide +kernel
theorem q_270_446 : js_I 270 446 = some (.lrem, 1) := by decide +kernel
theorem q_270_447 : js_I 270 447 = some (.lastore, 1) := by decide +kernel
theorem q_270_448 : js_I 270 448 = some (.goto 443, 3) := by decide +kernel
theorem q_270_451 : js_I 270 451 = some (.aload_n 0, 1) := by decide +kernel
theorem q_270_452 : js_I 270 452 = some (.getfield 377, 3) := by decide +kernel
theorem q_270_455 : js_I 270 455 = some (.iload_n 1, 1) := by decide +kernel
theorem q_270_456 : js_I 270 456 = some (.lload 5, 2) := by decide +kernel
theorem q_270_458 : js_I 270 458 = some (.lload 7, 2) := by decide +kernel
theorem q_270_460 : js_I 270 460 = some (.invokestatic 234, 3) := by decide +kernel
theorem q_270_463 : js_I 270 463 = some (.lastore, 1) := by decide +kernel
theorem q_270_464 : js_I 270 464 = some (.goto 427, 3) := by decide +kernel
theorem q_270_467 : js_I 270 467 = some (.aload_n 0, 1) := by decide +kernel
theorem q_270_468 : js_I 270 468 = some (.getfield 377, 3) := by decide +kernel
theorem q_270_471 : js_I 270 471 = some (.iload_n 1, 1) := by decide +kernel
theorem q_270_472 : js_I 270 472 = some (.lload 5, 2) := by decide +kernel
theorem q_270_474 : js_I 270 474 = some (.lload 7, 2) := by decide +kernel
theorem q_270_476 : js_I 270 476 = some (.invokestatic 241, 3) := by decide +kernel
theorem q_270_479 : js_I 270 479 = some (.lastore, 1) := by decide +kernel
theorem q_270_480 : js_I 270 480 = some (.goto 411, 3) := by decide +kernel
theorem q_270_483 : js_I 270 483 = some (.aload_n 0, 1) := by decide +kernel
theorem q_270_484 : js_I 270 484 = some (.getfield 377, 3) := by decide +kernel
theorem q_270_487 : js_I 270 487 = some (.iload_n 1, 1) := by decide +kernel
theorem q_270_488 : js_I 270 488 = some (.aload_n 0, 1) := by decide +kernel
theorem q_270_489 : js_I 270 489 = some (.iload_n 1, 1) := by decide +kernel
theorem q_270_490 : js_I 270 490 = some (.lload 5, 2) := by decide +kernel
theorem q_270_492 : js_I 270 492 = some (.lload 7, 2) := by decide +kernel
theorem q_270_494 : js_I 270 494 = some (.lcmp, 1) := by decide +kernel
theorem q_270_495 : js_I 270 495 = some (.ifCond .ge 7, 3) := by decide +kernel
theorem q_270_498 : js_I 270 498 = some (.iconst 1, 1) := by decide +kernel
theorem q_270_499 : js_I 270 499 = some (.goto 4, 3) := by decide +kernel
theorem q_270_502 : js_I 270 502 = some (.iconst 0, 1) := by decide +kernel
theorem q_270_503 : js_I 270 503 = some (.invokevirtual 607, 3) := by decide +kernel
theorem q_270_506 : js_I 270 506 = some (.lastore, 1) := by decide +kernel
theorem q_270_507 : js_I 270 507 = some (.goto 384, 3) := by decide +kernel
theorem q_270_510 : js_I 270 510 = some (.aload_n 0, 1) := by decide +kernel
theorem q_270_511 : js_I 270 511 = some (.getfield 377, 3) := by decide +kernel
theorem q_270_514 : js_I 270 514 = some (.iload_n 1, 1) := by decide +kernel
theorem q_270_515 : js_I 270 515 = some (.aload_n 0, 1) := by decide +kernel
theorem q_270_516 : js_I 270 516 = some (.iload_n 1, 1) := by decide +kernel
theorem q_270_517 : js_I 270 517 = some (.lload 5, 2) := by decide +kernel
theorem q_270_519 : js_I 270 519 = some (.lload 7, 2) := by decide +kernel
theorem q_270_521 : js_I 270 521 = some (.lcmp, 1) := by decide +kernel
theorem q_270_522 : js_I 270 522 = some (.ifCond .gt 7, 3) := by decide +kernel
theorem q_270_529 : js_I 270 529 = some (.iconst 0, 1) := by decide +kernel
theorem q_270_525 : js_I 270 525 = some (.iconst 1, 1) := by decide +kernel
theorem q_270_526 : js_I 270 526 = some (.goto 4, 3) := by decide +kernel
theorem q_270_530 : js_I 270 530 = some (.invokevirtual 607, 3) := by decide +kernel
theorem q_270_533 : js_I 270 533 = some (.lastore, 1) := by decide +kernel
theorem q_270_534 : js_I 270 534 = some (.goto 357, 3) := by decide +kernel
theorem q_270_537 : js_I 270 537 = some (.aload_n 0, 1) := by decide +kernel
theorem q_270_538 : js_I 270 538 = some (.getfield 377, 3) := by decide +kernel
theorem q_270_541 : js_I 270 541 = some (.iload_n 1, 1) := by decide +kernel
theorem q_270_542 : js_I 270 542 = some (.aload_n 0, 1) := by decide +kernel
theorem q_270_543 : js_I 270 543 = some (.iload_n 1, 1) := by decide +kernel
theorem q_270_544 : js_I 270 544 = some (.lload 5, 2) := by decide +kernel
theorem q_270_546 : js_I 270 546 = some (.lload 7, 2) := by decide +kernel
theorem q_270_548 : js_I 270 548 = some (.lcmp, 1) := by decide +kernel
theorem q_270_549 : js_I 270 549 = some (.ifCond .le 7, 3) := by decide +kernel
theorem q_270_552 : js_I 270 552 = some (.iconst 1, 1) := by decide +kernel
theorem q_270_553 : js_I 270 553 = some (.goto 4, 3) := by decide +kernel
theorem q_270_556 : js_I 270 556 = some (.iconst 0, 1) := by decide +kernel
theorem q_270_557 : js_I 270 557 = some (.invokevirtual 607, 3) := by decide +kernel
theorem q_270_560 : js_I 270 560 = some (.lastore, 1) := by decide +kernel
theorem q_270_561 : js_I 270 561 = some (.goto 330, 3) := by decide +kernel
theorem q_270_564 : js_I 270 564 = some (.aload_n 0, 1) := by decide +kernel
theorem q_270_565 : js_I 270 565 = some (.getfield 377, 3) := by decide +kernel
theorem q_270_568 : js_I 270 568 = some (.iload_n 1, 1) := by decide +kernel
theorem q_270_569 : js_I 270 569 = some (.aload_n 0, 1) := by decide +kernel
theorem q_270_570 : js_I 270 570 = some (.iload_n 1, 1) := by decide +kernel
theorem q_270_571 : js_I 270 571 = some (.lload 5, 2) := by decide +kernel
theorem q_270_573 : js_I 270 573 = some (.lload 7, 2) := by decide +kernel
theorem q_270_575 : js_I 270 575 = some (.lcmp, 1) := by decide +kernel
theorem q_270_576 : js_I 270 576 = some (.ifCond .lt 7, 3) := by decide +kernel
theorem q_270_583 : js_I 270 583 = some (.iconst 0, 1) := by decide +kernel
theorem q_270_579 : js_I 270 579 = some (.iconst 1, 1) := by decide +kernel
theorem q_270_580 : js_I 270 580 = some (.goto 4, 3) := by decide +kernel
theorem q_270_584 : js_I 270 584 = some (.invokevirtual 607, 3) := by decide +kernel
theorem q_270_587 : js_I 270 587 = some (.lastore, 1) := by decide +kernel
theorem q_270_588 : js_I 270 588 = some (.goto 303, 3) := by decide +kernel
theorem q_270_591 : js_I 270 591 = some (.aload_n 0, 1) := by decide +kernel
theorem q_270_592 : js_I 270 592 = some (.getfield 377, 3) := by decide +kernel
theorem q_270_595 : js_I 270 595 = some (.iload_n 1, 1) := by decide +kernel
theorem q_270_596 : js_I 270 596 = some (.aload_n 0, 1) := by decide +kernel
theorem q_270_597 : js_I 270 597 = some (.iload_n 1, 1) := by decide +kernel
theorem q_270_598 : js_I 270 598 = some (.lload 5, 2) := by decide +kernel
theorem q_270_600 : js_I 270 600 = some (.lload 7, 2) := by decide +kernel
theorem q_270_602 : js_I 270 602 = some (.lcmp, 1) := by decide +kernel
theorem q_270_603 : js_I 270 603 = some (.ifCond .ne 7, 3) := by decide +kernel
theorem q_270_606 : js_I 270 606 = some (.iconst 1, 1) := by decide +kernel
theorem q_270_607 : js_I 270 607 = some (.goto 4, 3) := by decide +kernel
theorem q_270_610 : js_I 270 610 = some (.iconst 0, 1) := by decide +kernel
theorem q_270_611 : js_I 270 611 = some (.invokevirtual 607, 3) := by decide +kernel
theorem q_270_614 : js_I 270 614 = some (.lastore, 1) := by decide +kernel
theorem q_270_615 : js_I 270 615 = some (.goto 276, 3) := by decide +kernel
theorem q_270_618 : js_I 270 618 = some (.aload_n 0, 1) := by decide +kernel
theorem q_270_619 : js_I 270 619 = some (.getfield 377, 3) := by decide +kernel
theorem q_270_622 : js_I 270 622 = some (.iload_n 1, 1) := by decide +kernel
theorem q_270_623 : js_I 270 623 = some (.aload_n 0, 1) := by decide +kernel
theorem q_270_624 : js_I 270 624 = some (.iload_n 1, 1) := by decide +kernel
theorem q_270_625 : js_I 270 625 = some (.lload 5, 2) := by decide +kernel
theorem q_270_627 : js_I 270 627 = some (.lload 7, 2) := by decide +kernel
theorem q_270_629 : js_I 270 629 = some (.lcmp, 1) := by decide +kernel
theorem q_270_630 : js_I 270 630 = some (.ifCond .eq 7, 3) := by decide +kernel
theorem q_270_637 : js_I 270 637 = some (.iconst 0, 1) := by decide +kernel
theorem q_270_633 : js_I 270 633 = some (.iconst 1, 1) := by decide +kernel
theorem q_270_634 : js_I 270 634 = some (.goto 4, 3) := by decide +kernel
theorem q_270_638 : js_I 270 638 = some (.invokevirtual 607, 3) := by decide +kernel
theorem q_270_641 : js_I 270 641 = some (.lastore, 1) := by decide +kernel
theorem q_270_642 : js_I 270 642 = some (.goto 249, 3) := by decide +kernel
theorem q_270_645 : js_I 270 645 = some (.aload_n 0, 1) := by decide +kernel
theorem q_270_646 : js_I 270 646 = some (.getfield 377, 3) := by decide +kernel
theorem q_270_649 : js_I 270 649 = some (.iload_n 1, 1) := by decide +kernel
theorem q_270_650 : js_I 270 650 = some (.lload 5, 2) := by decide +kernel
theorem q_270_652 : js_I 270 652 = some (.lneg, 1) := by decide +kernel
theorem q_270_653 : js_I 270 653 = some (.lastore, 1) := by decide +kernel
theorem q_270_654 : js_I 270 654 = some (.goto 237, 3) := by decide +kernel
theorem q_270_657 : js_I 270 657 = some (.aload_n 0, 1) := by decide +kernel
theorem q_270_658 : js_I 270 658 = some (.getfield 377, 3) := by decide +kernel
theorem q_270_661 : js_I 270 661 = some (.iload_n 1, 1) := by decide +kernel
theorem q_270_662 : js_I 270 662 = some (.lload 5, 2) := by decide +kernel
theorem q_270_664 : js_I 270 664 = some (.lconst 0, 1) := by decide +kernel
theorem q_270_665 : js_I 270 665 = some (.lcmp, 1) := by decide +kernel
theorem q_270_666 : js_I 270 666 = some (.ifCond .ge 9, 3) := by decide +kernel
theorem q_270_669 : js_I 270 669 = some (.lload 5, 2) := by decide +kernel
theorem q_270_671 : js_I 270 671 = some (.lneg, 1) := by decide +kernel
theorem q_270_672 : js_I 270 672 = some (.goto 5, 3) := by decide +kernel
theorem q_270_675 : js_I 270 675 = some (.lload 5, 2) := by decide +kernel
theorem q_270_677 : js_I 270 677 = some (.lastore, 1) := by decide +kernel
theorem q_270_678 : js_I 270 678 = some (.goto 213, 3) := by decide +kernel
theorem q_270_681 : js_I 270 681 = some (.aload_n 0, 1) := by decide +kernel
theorem q_270_682 : js_I 270 682 = some (.getfield 377, 3) := by decide +kernel
theorem q_270_685 : js_I 270 685 = some (.iload_n 1, 1) := by decide +kernel
theorem q_270_686 : js_I 270 686 = some (.aload_n 0, 1) := by decide +kernel
theorem q_270_687 : js_I 270 687 = some (.iload_n 1, 1) := by decide +kernel
theorem q_270_688 : js_I 270 688 = some (.lload 5, 2) := by decide +kernel
theorem q_270_690 : js_I 270 690 = some (.lconst 0, 1) := by decide +kernel
theorem q_270_691 : js_I 270 691 = some (.lcmp, 1) := by decide +kernel
theorem q_270_692 : js_I 270 692 = some (.ifCond .ne 7, 3) := by decide +kernel
theorem q_270_695 : js_I 270 695 = some (.iconst 1, 1) := by decide +kernel
theorem q_270_696 : js_I 270 696 = some (.goto 4, 3) := by decide +kernel
theorem q_270_699 : js_I 270 699 = some (.iconst 0, 1) := by decide +kernel
theorem q_270_700 : js_I 270 700 = some (.invokevirtual 607, 3) := by decide +kernel
theorem q_270_703 : js_I 270 703 = some (.lastore, 1) := by decide +kernel
theorem q_270_704 : js_I 270 704 = some (.goto 187, 3) := by decide +kernel
theorem q_270_707 : js_I 270 707 = some (.aload_n 0, 1) := by decide +kernel
theorem q_270_708 : js_I 270 708 = some (.getfield 377, 3) := by decide +kernel
theorem q_270_711 : js_I 270 711 = some (.iload_n 1, 1) := by decide +kernel
theorem q_270_712 : js_I 270 712 = some (.lload 5, 2) := by decide +kernel
theorem q_270_714 : js_I 270 714 = some (.lload 10, 2) := by decide +kernel
theorem q_270_716 : js_I 270 716 = some (.lcmp, 1) := by decide +kernel
theorem q_270_717 : js_I 270 717 = some (.ifCond .ge 8, 3) := by decide +kernel
theorem q_270_720 : js_I 270 720 = some (.lload 10, 2) := by decide +kernel
theorem q_270_722 : js_I 270 722 = some (.goto 5, 3) := by decide +kernel
theorem q_270_725 : js_I 270 725 = some (.lload 5, 2) := by decide +kernel
theorem q_270_727 : js_I 270 727 = some (.lastore, 1) := by decide +kernel
theorem q_270_728 : js_I 270 728 = some (.goto 163, 3) := by decide +kernel
theorem q_270_731 : js_I 270 731 = some (.aload_n 0, 1) := by decide +kernel
theorem q_270_732 : js_I 270 732 = some (.getfield 377, 3) := by decide +kernel
theorem q_270_735 : js_I 270 735 = some (.iload_n 1, 1) := by decide +kernel
theorem q_270_736 : js_I 270 736 = some (.lload 5, 2) := by decide +kernel
theorem q_270_738 : js_I 270 738 = some (.lload 10, 2) := by decide +kernel
theorem q_270_740 : js_I 270 740 = some (.lcmp, 1) := by decide +kernel
theorem q_270_741 : js_I 270 741 = some (.ifCond .le 8, 3) := by decide +kernel
theorem q_270_744 : js_I 270 744 = some (.lload 10, 2) := by decide +kernel
theorem q_270_746 : js_I 270 746 = some (.goto 5, 3) := by decide +kernel
theorem q_270_749 : js_I 270 749 = some (.lload 5, 2) := by decide +kernel
theorem q_270_751 : js_I 270 751 = some (.lastore, 1) := by decide +kernel
theorem q_270_752 : js_I 270 752 = some (.goto 139, 3) := by decide +kernel
theorem q_270_755 : js_I 270 755 = some (.aload_n 0, 1) := by decide +kernel
theorem q_270_756 : js_I 270 756 = some (.iload_n 3, 1) := by decide +kernel
theorem q_270_757 : js_I 270 757 = some (.putfield 576, 3) := by decide +kernel
theorem q_270_760 : js_I 270 760 = some (.goto 131, 3) := by decide +kernel
theorem q_270_763 : js_I 270 763 = some (.aload_n 0, 1) := by decide +kernel
theorem q_270_764 : js_I 270 764 = some (.lload 5, 2) := by decide +kernel
theorem q_270_766 : js_I 270 766 = some (.lconst 0, 1) := by decide +kernel
theorem q_270_767 : js_I 270 767 = some (.lcmp, 1) := by decide +kernel
theorem q_270_768 : js_I 270 768 = some (.ifCond .ne 7, 3) := by decide +kernel
theorem q_270_771 : js_I 270 771 = some (.iload_n 3, 1) := by decide +kernel
theorem q_270_772 : js_I 270 772 = some (.goto 7, 3) := by decide +kernel
theorem q_270_775 : js_I 270 775 = some (.aload_n 0, 1) := by decide +kernel
theorem q_270_776 : js_I 270 776 = some (.getfield 576, 3) := by decide +kernel
theorem q_270_779 : js_I 270 779 = some (.putfield 576, 3) := by decide +kernel
theorem q_270_782 : js_I 270 782 = some (.goto 109, 3) := by decide +kernel
theorem q_270_785 : js_I 270 785 = some (.aload_n 0, 1) := by decide +kernel
theorem q_270_786 : js_I 270 786 = some (.lload 5, 2) := by decide +kernel
theorem q_270_788 : js_I 270 788 = some (.lconst 0, 1) := by decide +kernel
theorem q_270_789 : js_I 270 789 = some (.lcmp, 1) := by decide +kernel
theorem q_270_790 : js_I 270 790 = some (.ifCond .eq 7, 3) := by decide +kernel
theorem q_270_797 : js_I 270 797 = some (.aload_n 0, 1) := by decide +kernel
theorem q_270_798 : js_I 270 798 = some (.getfield 576, 3) := by decide +kernel
theorem q_270_793 : js_I 270 793 = some (.iload_n 3, 1) := by decide +kernel
theorem q_270_794 : js_I 270 794 = some (.goto 7, 3) := by decide +kernel
theorem q_270_801 : js_I 270 801 = some (.putfield 576, 3) := by decide +kernel
theorem q_270_804 : js_I 270 804 = some (.goto 87, 3) := by decide +kernel
theorem q_270_807 : js_I 270 807 = some (.aload_n 0, 1) := by decide +kernel
theorem q_270_808 : js_I 270 808 = some (.getfield 383, 3) := by decide +kernel
theorem q_270_811 : js_I 270 811 = some (.bipush 32, 2) := by decide +kernel
theorem q_270_813 : js_I 270 813 = some (.iload_n 1, 1) := by decide +kernel
theorem q_270_814 : js_I 270 814 = some (.imul, 1) := by decide +kernel
theorem q_270_815 : js_I 270 815 = some (.aload_n 0, 1) := by decide +kernel
theorem q_270_816 : js_I 270 816 = some (.getfield 386, 3) := by decide +kernel
theorem q_270_819 : js_I 270 819 = some (.iload_n 1, 1) := by decide +kernel
theorem q_270_820 : js_I 270 820 = some (.iaload, 1) := by decide +kernel
theorem q_270_821 : js_I 270 821 = some (.iadd, 1) := by decide +kernel
theorem q_270_822 : js_I 270 822 = some (.aload_n 0, 1) := by decide +kernel
theorem q_270_823 : js_I 270 823 = some (.getfield 576, 3) := by decide +kernel
theorem q_270_826 : js_I 270 826 = some (.iastore, 1) := by decide +kernel
theorem q_270_827 : js_I 270 827 = some (.aload_n 0, 1) := by decide +kernel
theorem q_270_828 : js_I 270 828 = some (.getfield 386, 3) := by decide +kernel
theorem q_270_831 : js_I 270 831 = some (.iload_n 1, 1) := by decide +kernel
theorem q_270_832 : js_I 270 832 = some (.dup2, 1) := by decide +kernel
theorem q_270_833 : js_I 270 833 = some (.iaload, 1) := by decide +kernel
theorem q_270_834 : js_I 270 834 = some (.iconst 1, 1) := by decide +kernel
theorem q_270_835 : js_I 270 835 = some (.iadd, 1) := by decide +kernel
theorem q_270_836 : js_I 270 836 = some (.iastore, 1) := by decide +kernel
theorem q_270_837 : js_I 270 837 = some (.aload_n 0, 1) := by decide +kernel
theorem q_270_838 : js_I 270 838 = some (.iload_n 3, 1) := by decide +kernel
theorem q_270_839 : js_I 270 839 = some (.putfield 576, 3) := by decide +kernel
theorem q_270_842 : js_I 270 842 = some (.goto 49, 3) := by decide +kernel
theorem q_270_845 : js_I 270 845 = some (.aload_n 0, 1) := by decide +kernel
theorem q_270_846 : js_I 270 846 = some (.getfield 386, 3) := by decide +kernel
theorem q_270_849 : js_I 270 849 = some (.iload_n 1, 1) := by decide +kernel
theorem q_270_850 : js_I 270 850 = some (.dup2, 1) := by decide +kernel
theorem q_270_851 : js_I 270 851 = some (.iaload, 1) := by decide +kernel
theorem q_270_852 : js_I 270 852 = some (.iconst 1, 1) := by decide +kernel
theorem q_270_853 : js_I 270 853 = some (.isub, 1) := by decide +kernel
theorem q_270_854 : js_I 270 854 = some (.iastore, 1) := by decide +kernel
theorem q_270_855 : js_I 270 855 = some (.aload_n 0, 1) := by decide +kernel
theorem q_270_856 : js_I 270 856 = some (.aload_n 0, 1) := by decide +kernel
theorem q_270_857 : js_I 270 857 = some (.getfield 383, 3) := by decide +kernel
theorem q_270_860 : js_I 270 860 = some (.bipush 32, 2) := by decide +kernel
theorem q_270_862 : js_I 270 862 = some (.iload_n 1, 1) := by decide +kernel
theorem q_270_863 : js_I 270 863 = some (.imul, 1) := by decide +kernel
theorem q_270_864 : js_I 270 864 = some (.aload_n 0, 1) := by decide +kernel
theorem q_270_865 : js_I 270 865 = some (.getfield 386, 3) := by decide +kernel
theorem q_270_868 : js_I 270 868 = some (.iload_n 1, 1) := by decide +kernel
theorem q_270_869 : js_I 270 869 = some (.iaload, 1) := by decide +kernel
theorem q_270_870 : js_I 270 870 = some (.iadd, 1) := by decide +kernel
theorem q_270_871 : js_I 270 871 = some (.iaload, 1) := by decide +kernel
theorem q_270_872 : js_I 270 872 = some (.putfield 576, 3) := by decide +kernel
theorem q_270_875 : js_I 270 875 = some (.goto 16, 3) := by decide +kernel
theorem q_270_878 : js_I 270 878 = some (.lload 5, 2) := by decide +kernel
theorem q_270_880 : js_I 270 880 = some (.lconst 0, 1) := by decide +kernel
theorem q_270_881 : js_I 270 881 = some (.lcmp, 1) := by decide +kernel
theorem q_270_882 : js_I 270 882 = some (.ifCond .eq 7, 3) := by decide +kernel
theorem q_270_889 : js_I 270 889 = some (.iconst 0, 1) := by decide +kernel
theorem q_270_890 : js_I 270 890 = some (.ireturn, 1) := by decide +kernel
theorem q_270_885 : js_I 270 885 = some (.iconst 1, 1) := by decide +kernel
theorem q_270_886 : js_I 270 886 = some (.goto 4, 3) := by decide +kernel
theorem q_270_891 : js_I 270 891 = some (.iconst 1, 1) := by decide +kernel
theorem q_270_892 : js_I 270 892 = some (.ireturn, 1) := by decide +kernel
theorem q_271_0 : js_I 271 0 = some (.iload_n 1, 1) := by decide +kernel
theorem q_271_1 : js_I 271 1 = some (.iconst 1, 1) := by decide +kernel
theorem q_271_2 : js_I 271 2 = some (.if_icmp .ne 15, 3) := by decide +kernel
theorem q_271_5 : js_I 271 5 = some (.lload_n 2, 1) := by decide +kernel
theorem q_271_6 : js_I 271 6 = some (.ldc2_w 571, 3) := by decide +kernel
theorem q_271_9 : js_I 271 9 = some (.lrem, 1) := by decide +kernel
theorem q_271_10 : js_I 271 10 = some (.lconst 0, 1) := by decide +kernel
theorem q_271_11 : js_I 271 11 = some (.lcmp, 1) := by decide +kernel
theorem q_271_12 : js_I 271 12 = some (.ifCond .eq 5, 3) := by decide +kernel
theorem q_271_15 : js_I 271 15 = some (.iconst (-1), 1) := by decide +kernel
theorem q_271_16 : js_I 271 16 = some (.ireturn, 1) := by decide +kernel
theorem q_271_17 : js_I 271 17 = some (.iload_n 1, 1) := by decide +kernel
theorem q_271_18 : js_I 271 18 = some (.iconst 1, 1) := by decide +kernel
theorem q_271_19 : js_I 271 19 = some (.if_icmp .ne 11, 3) := by decide +kernel
theorem q_271_22 : js_I 271 22 = some (.lload_n 2, 1) := by decide +kernel
theorem q_271_23 : js_I 271 23 = some (.ldc2_w 571, 3) := by decide +kernel
theorem q_271_26 : js_I 271 26 = some (.ldiv, 1) := by decide +kernel
theorem q_271_27 : js_I 271 27 = some (.goto 4, 3) := by decide +kernel
theorem q_271_30 : js_I 271 30 = some (.lload_n 2, 1) := by decide +kernel
theorem q_271_31 : js_I 271 31 = some (.lstore 5, 2) := by decide +kernel
theorem q_271_33 : js_I 271 33 = some (.lload 5, 2) := by decide +kernel
theorem q_271_35 : js_I 271 35 = some (.lconst 0, 1) := by decide +kernel
theorem q_271_36 : js_I 271 36 = some (.lcmp, 1) := by decide +kernel
theorem q_271_37 : js_I 271 37 = some (.ifCond .lt 12, 3) := by decide +kernel
theorem q_271_49 : js_I 271 49 = some (.iconst (-1), 1) := by decide +kernel
theorem q_271_50 : js_I 271 50 = some (.goto 6, 3) := by decide +kernel
theorem q_271_56 : js_I 271 56 = some (.ireturn, 1) := by decide +kernel
theorem q_271_40 : js_I 271 40 = some (.lload 5, 2) := by decide +kernel
theorem q_271_42 : js_I 271 42 = some (.iload 4, 2) := by decide +kernel
theorem q_271_44 : js_I 271 44 = some (.i2l, 1) := by decide +kernel
theorem q_271_45 : js_I 271 45 = some (.lcmp, 1) := by decide +kernel
theorem q_271_46 : js_I 271 46 = some (.ifCond .lt 7, 3) := by decide +kernel
theorem q_271_53 : js_I 271 53 = some (.lload 5, 2) := by decide +kernel
theorem q_271_55 : js_I 271 55 = some (.l2i, 1) := by decide +kernel
theorem q_272_0 : js_I 272 0 = some (.iload_n 2, 1) := by decide +kernel
theorem q_272_1 : js_I 272 1 = some (.ifCond .ne 7, 3) := by decide +kernel
theorem q_272_4 : js_I 272 4 = some (.lconst 0, 1) := by decide +kernel
theorem q_272_5 : js_I 272 5 = some (.goto 14, 3) := by decide +kernel
theorem q_272_19 : js_I 272 19 = some (.lreturn, 1) := by decide +kernel
theorem q_272_8 : js_I 272 8 = some (.iload_n 1, 1) := by decide +kernel
theorem q_272_9 : js_I 272 9 = some (.ifCond .ne 7, 3) := by decide +kernel
theorem q_272_12 : js_I 272 12 = some (.lconst 1, 1) := by decide +kernel
theorem q_272_13 : js_I 272 13 = some (.goto 6, 3) := by decide +kernel
theorem q_272_16 : js_I 272 16 = some (.ldc2_w 571, 3) := by decide +kernel
theorem q_273_0 : js_I 273 0 = some (.aload_n 0, 1) := by decide +kernel
theorem q_273_1 : js_I 273 1 = some (.iload_n 1, 1) := by decide +kernel
theorem q_273_2 : js_I 273 2 = some (.putfield 585, 3) := by decide +kernel
theorem q_273_5 : js_I 273 5 = some (.aload_n 0, 1) := by decide +kernel
theorem q_273_6 : js_I 273 6 = some (.invokevirtual 597, 3) := by decide +kernel
theorem q_273_9 : js_I 273 9 = some (.return_, 1) := by decide +kernel
theorem q_274_0 : js_I 274 0 = some (.aload_n 0, 1) := by decide +kernel
theorem q_274_1 : js_I 274 1 = some (.iconst 0, 1) := by decide +kernel
theorem q_274_2 : js_I 274 2 = some (.putfield 573, 3) := by decide +kernel
theorem q_274_5 : js_I 274 5 = some (.aload_n 0, 1) := by decide +kernel
theorem q_274_6 : js_I 274 6 = some (.iconst 0, 1) := by decide +kernel
theorem q_274_7 : js_I 274 7 = some (.putfield 579, 3) := by decide +kernel
theorem q_274_10 : js_I 274 10 = some (.aload_n 0, 1) := by decide +kernel
theorem q_274_11 : js_I 274 11 = some (.iconst 0, 1) := by decide +kernel
theorem q_274_12 : js_I 274 12 = some (.putfield 582, 3) := by decide +kernel
theorem q_274_15 : js_I 274 15 = some (.aload_n 0, 1) := by decide +kernel
theorem q_274_16 : js_I 274 16 = some (.iconst 0, 1) := by decide +kernel
theorem q_274_17 : js_I 274 17 = some (.putfield 594, 3) := by decide +kernel
theorem q_274_20 : js_I 274 20 = some (.aload_n 0, 1) := by decide +kernel
theorem q_274_21 : js_I 274 21 = some (.getfield 386, 3) := by decide +kernel
theorem q_274_24 : js_I 274 24 = some (.iconst 0, 1) := by decide +kernel
theorem q_274_25 : js_I 274 25 = some (.iconst 0, 1) := by decide +kernel
theorem q_274_26 : js_I 274 26 = some (.iastore, 1) := by decide +kernel
theorem q_274_27 : js_I 274 27 = some (.aload_n 0, 1) := by decide +kernel
theorem q_274_28 : js_I 274 28 = some (.getfield 386, 3) := by decide +kernel
theorem q_274_31 : js_I 274 31 = some (.iconst 1, 1) := by decide +kernel
theorem q_274_32 : js_I 274 32 = some (.iconst 0, 1) := by decide +kernel
theorem q_274_33 : js_I 274 33 = some (.iastore, 1) := by decide +kernel
theorem q_274_34 : js_I 274 34 = some (.return_, 1) := by decide +kernel
theorem q_275_0 : js_I 275 0 = some (.aload_n 0, 1) := by decide +kernel
theorem q_275_1 : js_I 275 1 = some (.invokevirtual 610, 3) := by decide +kernel
theorem q_275_4 : js_I 275 4 = some (.ifCond .ne 9, 3) := by decide +kernel
theorem q_275_7 : js_I 275 7 = some (.aload_n 0, 1) := by decide +kernel
theorem q_275_8 : js_I 275 8 = some (.iconst 3, 1) := by decide +kernel
theorem q_275_9 : js_I 275 9 = some (.invokevirtual 614, 3) := by decide +kernel
theorem q_275_13 : js_I 275 13 = some (.sipush 4096, 3) := by decide +kernel
theorem q_275_16 : js_I 275 16 = some (.aload_n 0, 1) := by decide +kernel
theorem q_275_17 : js_I 275 17 = some (.getfield 588, 3) := by decide +kernel
theorem q_275_20 : js_I 275 20 = some (.bipush 16, 2) := by decide +kernel
theorem q_275_22 : js_I 275 22 = some (.irem, 1) := by decide +kernel
theorem q_275_23 : js_I 275 23 = some (.imul, 1) := by decide +kernel
theorem q_275_24 : js_I 275 24 = some (.istore_n 1, 1) := by decide +kernel
theorem q_275_25 : js_I 275 25 = some (.iconst 0, 1) := by decide +kernel
theorem q_275_26 : js_I 275 26 = some (.istore_n 2, 1) := by decide +kernel
theorem q_275_12 : js_I 275 12 = some (.return_, 1) := by decide +kernel
theorem q_275_27 : js_I 275 27 = some (.iload_n 2, 1) := by decide +kernel
theorem q_275_28 : js_I 275 28 = some (.aload_n 0, 1) := by decide +kernel
theorem q_275_29 : js_I 275 29 = some (.getfield 86, 3) := by decide +kernel
theorem q_275_32 : js_I 275 32 = some (.if_icmp .ge 63, 3) := by decide +kernel
theorem q_275_35 : js_I 275 35 = some (.aload_n 0, 1) := by decide +kernel
theorem q_275_36 : js_I 275 36 = some (.getfield 99, 3) := by decide +kernel
theorem q_275_39 : js_I 275 39 = some (.iload_n 2, 1) := by decide +kernel
theorem q_275_40 : js_I 275 40 = some (.iaload, 1) := by decide +kernel
theorem q_275_41 : js_I 275 41 = some (.iconst 2, 1) := by decide +kernel
theorem q_275_42 : js_I 275 42 = some (.if_icmp .eq 6, 3) := by decide +kernel
theorem q_275_48 : js_I 275 48 = some (.iconst 0, 1) := by decide +kernel
theorem q_275_49 : js_I 275 49 = some (.istore_n 3, 1) := by decide +kernel
theorem q_275_45 : js_I 275 45 = some (.goto 44, 3) := by decide +kernel
theorem q_275_95 : js_I 275 95 = some (.aload_n 0, 1) := by decide +kernel
theorem q_275_96 : js_I 275 96 = some (.dup, 1) := by decide +kernel
theorem q_275_97 : js_I 275 97 = some (.getfield 588, 3) := by decide +kernel
theorem q_275_100 : js_I 275 100 = some (.iconst 1, 1) := by decide +kernel
theorem q_275_101 : js_I 275 101 = some (.iadd, 1) := by decide +kernel
theorem q_275_102 : js_I 275 102 = some (.putfield 588, 3) := by decide +kernel
theorem q_275_105 : js_I 275 105 = some (.aload_n 0, 1) := by decide +kernel
theorem q_275_106 : js_I 275 106 = some (.invokevirtual 597, 3) := by decide +kernel
theorem q_275_50 : js_I 275 50 = some (.iload_n 3, 1) := by decide +kernel
theorem q_275_51 : js_I 275 51 = some (.aload_n 0, 1) := by decide +kernel
theorem q_275_52 : js_I 275 52 = some (.getfield 114, 3) := by decide +kernel
theorem q_275_55 : js_I 275 55 = some (.iload_n 2, 1) := by decide +kernel
theorem q_275_56 : js_I 275 56 = some (.iaload, 1) := by decide +kernel
theorem q_275_57 : js_I 275 57 = some (.if_icmp .ge 32, 3) := by decide +kernel
theorem q_275_60 : js_I 275 60 = some (.aload_n 0, 1) := by decide +kernel
theorem q_275_61 : js_I 275 61 = some (.getfield 392, 3) := by decide +kernel
theorem q_275_64 : js_I 275 64 = some (.iload_n 1, 1) := by decide +kernel
theorem q_275_65 : js_I 275 65 = some (.aload_n 0, 1) := by decide +kernel
theorem q_275_66 : js_I 275 66 = some (.getfield 374, 3) := by decide +kernel
theorem q_275_69 : js_I 275 69 = some (.aload_n 0, 1) := by decide +kernel
theorem q_275_70 : js_I 275 70 = some (.getfield 111, 3) := by decide +kernel
theorem q_275_73 : js_I 275 73 = some (.iload_n 2, 1) := by decide +kernel
theorem q_275_74 : js_I 275 74 = some (.iaload, 1) := by decide +kernel
theorem q_275_75 : js_I 275 75 = some (.iload_n 3, 1) := by decide +kernel
theorem q_275_76 : js_I 275 76 = some (.iadd, 1) := by decide +kernel
theorem q_275_77 : js_I 275 77 = some (.laload, 1) := by decide +kernel
theorem q_275_78 : js_I 275 78 = some (.l2i, 1) := by decide +kernel
theorem q_275_79 : js_I 275 79 = some (.iastore, 1) := by decide +kernel
theorem q_275_80 : js_I 275 80 = some (.iinc 1 1, 3) := by decide +kernel
theorem q_275_83 : js_I 275 83 = some (.iinc 3 1, 3) := by decide +kernel
theorem q_275_86 : js_I 275 86 = some (.goto (-36), 3) := by decide +kernel
theorem q_275_89 : js_I 275 89 = some (.iinc 2 1, 3) := by decide +kernel
theorem q_275_92 : js_I 275 92 = some (.goto (-65), 3) := by decide +kernel
theorem q_275_109 : js_I 275 109 = some (.return_, 1) := by decide +kernel
theorem q_276_0 : js_I 276 0 = some (.iconst 0, 1) := by decide +kernel
theorem q_276_1 : js_I 276 1 = some (.istore_n 1, 1) := by decide +kernel
theorem q_276_2 : js_I 276 2 = some (.iload_n 1, 1) := by decide +kernel
theorem q_276_3 : js_I 276 3 = some (.aload_n 0, 1) := by decide +kernel
theorem q_276_4 : js_I 276 4 = some (.getfield 86, 3) := by decide +kernel
theorem q_276_7 : js_I 276 7 = some (.if_icmp .ge 106, 3) := by decide +kernel
theorem q_276_10 : js_I 276 10 = some (.aload_n 0, 1) := by decide +kernel
theorem q_276_11 : js_I 276 11 = some (.getfield 99, 3) := by decide +kernel
theorem q_276_14 : js_I 276 14 = some (.iload_n 1, 1) := by decide +kernel
theorem q_276_15 : js_I 276 15 = some (.iaload, 1) := by decide +kernel
theorem q_276_16 : js_I 276 16 = some (.iconst 2, 1) := by decide +kernel
theorem q_276_17 : js_I 276 17 = some (.if_icmp .eq 6, 3) := by decide +kernel
theorem q_276_23 : js_I 276 23 = some (.iconst 0, 1) := by decide +kernel
theorem q_276_24 : js_I 276 24 = some (.istore_n 2, 1) := by decide +kernel
theorem q_276_20 : js_I 276 20 = some (.goto 87, 3) := by decide +kernel
theorem q_276_113 : js_I 276 113 = some (.iconst 1, 1) := by decide +kernel
theorem q_276_114 : js_I 276 114 = some (.ireturn, 1) := by decide +kernel
theorem q_276_25 : js_I 276 25 = some (.iload_n 2, 1) := by decide +kernel
theorem q_276_26 : js_I 276 26 = some (.aload_n 0, 1) := by decide +kernel
theorem q_276_27 : js_I 276 27 = some (.getfield 114, 3) := by decide +kernel
theorem q_276_30 : js_I 276 30 = some (.iload_n 1, 1) := by decide +kernel
theorem q_276_31 : js_I 276 31 = some (.iaload, 1) := by decide +kernel
theorem q_276_32 : js_I 276 32 = some (.if_icmp .ge 75, 3) := by decide +kernel
theorem q_276_35 : js_I 276 35 = some (.aload_n 0, 1) := by decide +kernel
theorem q_276_36 : js_I 276 36 = some (.getfield 374, 3) := by decide +kernel
theorem q_276_39 : js_I 276 39 = some (.aload_n 0, 1) := by decide +kernel
theorem q_276_40 : js_I 276 40 = some (.getfield 111, 3) := by decide +kernel
theorem q_276_43 : js_I 276 43 = some (.iload_n 1, 1) := by decide +kernel
theorem q_276_44 : js_I 276 44 = some (.iaload, 1) := by decide +kernel
theorem q_276_45 : js_I 276 45 = some (.iload_n 2, 1) := by decide +kernel
theorem q_276_46 : js_I 276 46 = some (.iadd, 1) := by decide +kernel
theorem q_276_47 : js_I 276 47 = some (.laload, 1) := by decide +kernel
theorem q_276_48 : js_I 276 48 = some (.lstore_n 3, 1) := by decide +kernel
theorem q_276_49 : js_I 276 49 = some (.lload_n 3, 1) := by decide +kernel
theorem q_276_50 : js_I 276 50 = some (.aload_n 0, 1) := by decide +kernel
theorem q_276_51 : js_I 276 51 = some (.getfield 105, 3) := by decide +kernel
theorem q_276_54 : js_I 276 54 = some (.iload_n 1, 1) := by decide +kernel
theorem q_276_55 : js_I 276 55 = some (.iaload, 1) := by decide +kernel
theorem q_276_56 : js_I 276 56 = some (.i2l, 1) := by decide +kernel
theorem q_276_57 : js_I 276 57 = some (.lcmp, 1) := by decide +kernel
theorem q_276_58 : js_I 276 58 = some (.ifCond .lt 41, 3) := by decide +kernel
theorem q_276_99 : js_I 276 99 = some (.iconst 0, 1) := by decide +kernel
theorem q_276_100 : js_I 276 100 = some (.ireturn, 1) := by decide +kernel
theorem q_276_61 : js_I 276 61 = some (.lload_n 3, 1) := by decide +kernel
theorem q_276_62 : js_I 276 62 = some (.aload_n 0, 1) := by decide +kernel
theorem q_276_63 : js_I 276 63 = some (.getfield 108, 3) := by decide +kernel
theorem q_276_66 : js_I 276 66 = some (.iload_n 1, 1) := by decide +kernel
theorem q_276_67 : js_I 276 67 = some (.iaload, 1) := by decide +kernel
theorem q_276_68 : js_I 276 68 = some (.i2l, 1) := by decide +kernel
theorem q_276_69 : js_I 276 69 = some (.lcmp, 1) := by decide +kernel
theorem q_276_70 : js_I 276 70 = some (.ifCond .gt 29, 3) := by decide +kernel
theorem q_276_73 : js_I 276 73 = some (.aload_n 0, 1) := by decide +kernel
theorem q_276_74 : js_I 276 74 = some (.getfield 374, 3) := by decide +kernel
theorem q_276_77 : js_I 276 77 = some (.sipush 4096, 3) := by decide +kernel
theorem q_276_80 : js_I 276 80 = some (.aload_n 0, 1) := by decide +kernel
theorem q_276_81 : js_I 276 81 = some (.getfield 111, 3) := by decide +kernel
theorem q_276_84 : js_I 276 84 = some (.iload_n 1, 1) := by decide +kernel
theorem q_276_85 : js_I 276 85 = some (.iaload, 1) := by decide +kernel
theorem q_276_86 : js_I 276 86 = some (.iadd, 1) := by decide +kernel
theorem q_276_87 : js_I 276 87 = some (.iload_n 2, 1) := by decide +kernel
theorem q_276_88 : js_I 276 88 = some (.iadd, 1) := by decide +kernel
theorem q_276_89 : js_I 276 89 = some (.laload, 1) := by decide +kernel
theorem q_276_90 : js_I 276 90 = some (.ldc2_w 571, 3) := by decide +kernel
theorem q_276_93 : js_I 276 93 = some (.lload_n 3, 1) := by decide +kernel
theorem q_276_94 : js_I 276 94 = some (.lmul, 1) := by decide +kernel
theorem q_276_95 : js_I 276 95 = some (.lcmp, 1) := by decide +kernel
theorem q_276_96 : js_I 276 96 = some (.ifCond .eq 5, 3) := by decide +kernel
theorem q_276_101 : js_I 276 101 = some (.iinc 2 1, 3) := by decide +kernel
theorem q_276_104 : js_I 276 104 = some (.goto (-79), 3) := by decide +kernel
theorem q_276_107 : js_I 276 107 = some (.iinc 1 1, 3) := by decide +kernel
theorem q_276_110 : js_I 276 110 = some (.goto (-108), 3) := by decide +kernel
theorem q_277_0 : js_I 277 0 = some (.aload_n 0, 1) := by decide +kernel
theorem q_277_1 : js_I 277 1 = some (.aload_n 0, 1) := by decide +kernel
theorem q_277_2 : js_I 277 2 = some (.getfield 464, 3) := by decide +kernel
theorem q_277_5 : js_I 277 5 = some (.ifCond .eq 7, 3) := by decide +kernel
theorem q_277_12 : js_I 277 12 = some (.iconst 1, 1) := by decide +kernel
theorem q_277_8 : js_I 277 8 = some (.iconst 0, 1) := by decide +kernel
theorem q_277_9 : js_I 277 9 = some (.goto 4, 3) := by decide +kernel
theorem q_277_13 : js_I 277 13 = some (.putfield 3, 3) := by decide +kernel
theorem q_277_16 : js_I 277 16 = some (.aload_n 0, 1) := by decide +kernel
theorem q_277_17 : js_I 277 17 = some (.getfield 3, 3) := by decide +kernel
theorem q_277_20 : js_I 277 20 = some (.ifCond .gt 10, 3) := by decide +kernel
theorem q_277_30 : js_I 277 30 = some (.iconst 0, 1) := by decide +kernel
theorem q_277_31 : js_I 277 31 = some (.ireturn, 1) := by decide +kernel
theorem q_277_23 : js_I 277 23 = some (.aload_n 0, 1) := by decide +kernel
theorem q_277_24 : js_I 277 24 = some (.getfield 585, 3) := by decide +kernel
theorem q_277_27 : js_I 277 27 = some (.ifCond .le 5, 3) := by decide +kernel
theorem q_277_32 : js_I 277 32 = some (.aload_n 0, 1) := by decide +kernel
theorem q_277_33 : js_I 277 33 = some (.invokevirtual 634, 3) := by decide +kernel
theorem q_277_36 : js_I 277 36 = some (.aload_n 0, 1) := by decide +kernel
theorem q_277_37 : js_I 277 37 = some (.getfield 585, 3) := by decide +kernel
theorem q_277_40 : js_I 277 40 = some (.ifCond .le 7, 3) := by decide +kernel
theorem q_277_43 : js_I 277 43 = some (.iconst 0, 1) := by decide +kernel
theorem q_277_44 : js_I 277 44 = some (.goto 4, 3) := by decide +kernel
theorem q_277_48 : js_I 277 48 = some (.ireturn, 1) := by decide +kernel
theorem q_277_47 : js_I 277 47 = some (.iconst 1, 1) := by decide +kernel
theorem q_278_0 : js_I 278 0 = some (.aload_n 0, 1) := by decide +kernel
theorem q_278_1 : js_I 278 1 = some (.getfield 573, 3) := by decide +kernel
theorem q_278_4 : js_I 278 4 = some (.ifCond .ne 7, 3) := by decide +kernel
theorem q_278_7 : js_I 278 7 = some (.aload_n 0, 1) := by decide +kernel
theorem q_278_8 : js_I 278 8 = some (.invokevirtual 628, 3) := by decide +kernel
theorem q_278_11 : js_I 278 11 = some (.aload_n 0, 1) := by decide +kernel
theorem q_278_12 : js_I 278 12 = some (.getfield 573, 3) := by decide +kernel
theorem q_278_15 : js_I 278 15 = some (.ifCond .le 10, 3) := by decide +kernel
theorem q_278_18 : js_I 278 18 = some (.aload_n 0, 1) := by decide +kernel
theorem q_278_19 : js_I 278 19 = some (.invokevirtual 631, 3) := by decide +kernel
theorem q_278_25 : js_I 278 25 = some (.return_, 1) := by decide +kernel
theorem q_278_22 : js_I 278 22 = some (.goto (-11), 3) := by decide +kernel
theorem qf_12_383 : ip_lk (vt_FL.getD 12 []) 383 = some (12, 74) := by decide +kernel
theorem qf_12_392 : ip_lk (vt_FL.getD 12 []) 392 = some (12, 84) := by decide +kernel
theorem qm_12_603 : ip_lk (vt_ML.getD 12 []) 603 = some (271, 3, 1, 12) := by decide +kernel
theorem qm_12_607 : ip_lk (vt_ML.getD 12 []) 607 = some (272, 2, 1, 12) := by decide +kernel
theorem qm_12_597 : ip_lk (vt_ML.getD 12 []) 597 = some (274, 0, 1, 12) := by decide +kernel
theorem qm_12_610 : ip_lk (vt_ML.getD 12 []) 610 = some (276, 0, 1, 12) := by decide +kernel
theorem qm_12_634 : ip_lk (vt_ML.getD 12 []) 634 = some (278, 0, 1, 12) := by decide +kernel
theorem wl_58659 : js_l 58659 = 58659 := by decide +kernel
theorem ww_0 : js_w 0 = 0 := by decide +kernel
-- 270: VitalTwinModel.does (IIII)Z
theorem b_270_0 {E : js_E} {d : Nat} {σ : js_S} {x1 x2 x3 x4 : Int} : js_J E d 270 0 [(2, 83), (0, x1), (0, x2), (0, x3), (0, x4), (9, 0), (9, 0), (9, 0), (9, 0), (9, 0), (9, 0), (9, 0), (9, 0)] [] σ = (if 0 ≤ js_w x1 ∧ js_w x1 < 2 then (if js_w x1 = 0 then js_J E d 270 38 [(2, 83), (0, x1), (0, x2), (0, x3), (0, x4), (1, σ 121 (js_w x1)), (9, 0), (1, σ 122 (js_w x1)), (9, 0), (0, 4096 * x1), (9, 0), (9, 0), (9, 0)] [(1, js_w x3)] σ else js_J E d 270 38 [(2, 83), (0, x1), (0, x2), (0, x3), (0, x4), (1, σ 121 (js_w x1)), (9, 0), (1, σ 122 (js_w x1)), (9, 0), (0, 4096 * x1), (9, 0), (9, 0), (9, 0)] [(1, 58659 * (js_w x3))] σ) else none) :=
  (j_aload_n q_270_0 rfl).trans <| (j_get (ji := 72) (v := (2, 121)) q_270_1 (js_Fo qy_270 qf_12_377) js_o83 rfl rfl rfl rfl).trans <| (j_iload_n q_270_4 rfl).trans <| (j_laload q_270_5 js_o121).trans <| js_itp fun g0 => (j_lstore (l2 := [(2, 83), (0, x1), (0, x2), (0, x3), (0, x4), (1, σ 121 (js_w x1)), (9, 0), (9, 0), (9, 0), (9, 0), (9, 0), (9, 0), (9, 0)]) q_270_6 rfl (Nat.le_of_ble_eq_true rfl)).trans <| (j_aload_n q_270_8 rfl).trans <| (j_get (ji := 73) (v := (2, 122)) q_270_9 (js_Fo qy_270 qf_12_380) js_o83 rfl rfl rfl rfl).trans <| (j_iload_n q_270_12 rfl).trans <| (j_laload q_270_13 js_o122).trans <| (if_pos g0).trans <| (j_lstore (l2 := [(2, 83), (0, x1), (0, x2), (0, x3), (0, x4), (1, σ 121 (js_w x1)), (9, 0), (1, σ 122 (js_w x1)), (9, 0), (9, 0), (9, 0), (9, 0), (9, 0)]) q_270_14 rfl (Nat.le_of_ble_eq_true rfl)).trans <| (j_si q_270_16 rfl).trans <| (j_iload_n q_270_19 rfl).trans <| (j_imul q_270_20).trans <| (j_istore (l2 := [(2, 83), (0, x1), (0, x2), (0, x3), (0, x4), (1, σ 121 (js_w x1)), (9, 0), (1, σ 122 (js_w x1)), (9, 0), (0, 4096 * x1), (9, 0), (9, 0), (9, 0)]) q_270_21 rfl (Nat.le_of_ble_eq_true rfl)).trans <| (j_iload_n q_270_23 rfl).trans <| (j_ifne (t := 32) q_270_24 rfl).trans (js_ite ((j_iload_n q_270_27 rfl).trans <| (j_i2l q_270_28).trans <| (j_goto (t := 38) q_270_29 rfl).trans <| rfl) ((j_ldc2 (v := (1, 58659)) q_270_32 (js_Co qy_270 qc_12_571)).trans <| (j_iload_n q_270_35 rfl).trans <| (j_i2l q_270_36).trans <| (j_lmul q_270_37).trans <| rfl))
theorem b_270_38 {E : js_E} {d : Nat} {σ : js_S} {x1 x2 x3 x4 x5 x7 x9 z0 : Int} : js_J E d 270 38 [(2, 83), (0, x1), (0, x2), (0, x3), (0, x4), (1, x5), (9, 0), (1, x7), (9, 0), (0, x9), (9, 0), (9, 0), (9, 0)] [(1, z0)] σ = js_J E d 270 41 [(2, 83), (0, x1), (0, x2), (0, x3), (0, x4), (1, x5), (9, 0), (1, x7), (9, 0), (0, x9), (1, z0), (9, 0), (9, 0)] [(0, x2)] σ :=
  (j_lstore (l2 := [(2, 83), (0, x1), (0, x2), (0, x3), (0, x4), (1, x5), (9, 0), (1, x7), (9, 0), (0, x9), (1, z0), (9, 0), (9, 0)]) q_270_38 rfl (Nat.le_of_ble_eq_true rfl)).trans <| (j_iload_n q_270_40 rfl).trans <| rfl
theorem s_270_41_0 {E : js_E} {d : Nat} {σ : js_S} {x1 x2 x3 x4 x5 x7 x9 x10 z0 : Int} (h : js_w z0 = 0) : js_J E d 270 41 [(2, 83), (0, x1), (0, x2), (0, x3), (0, x4), (1, x5), (9, 0), (1, x7), (9, 0), (0, x9), (1, x10), (9, 0), (9, 0)] [(0, z0)] σ = js_J E d 270 180 [(2, 83), (0, x1), (0, x2), (0, x3), (0, x4), (1, x5), (9, 0), (1, x7), (9, 0), (0, x9), (1, x10), (9, 0), (9, 0)] [] σ :=
  j_tsw (t := 180) (off := 139) q_270_41 (by rw [h]; decide) (by rw [h]; decide) (by rw [h]; rfl) rfl
theorem s_270_41_1 {E : js_E} {d : Nat} {σ : js_S} {x1 x2 x3 x4 x5 x7 x9 x10 z0 : Int} (h : js_w z0 = 1) : js_J E d 270 41 [(2, 83), (0, x1), (0, x2), (0, x3), (0, x4), (1, x5), (9, 0), (1, x7), (9, 0), (0, x9), (1, x10), (9, 0), (9, 0)] [(0, z0)] σ = js_J E d 270 191 [(2, 83), (0, x1), (0, x2), (0, x3), (0, x4), (1, x5), (9, 0), (1, x7), (9, 0), (0, x9), (1, x10), (9, 0), (9, 0)] [] σ :=
  j_tsw (t := 191) (off := 150) q_270_41 (by rw [h]; decide) (by rw [h]; decide) (by rw [h]; rfl) rfl
theorem s_270_41_2 {E : js_E} {d : Nat} {σ : js_S} {x1 x2 x3 x4 x5 x7 x9 x10 z0 : Int} (h : js_w z0 = 2) : js_J E d 270 41 [(2, 83), (0, x1), (0, x2), (0, x3), (0, x4), (1, x5), (9, 0), (1, x7), (9, 0), (0, x9), (1, x10), (9, 0), (9, 0)] [(0, z0)] σ = js_J E d 270 209 [(2, 83), (0, x1), (0, x2), (0, x3), (0, x4), (1, x5), (9, 0), (1, x7), (9, 0), (0, x9), (1, x10), (9, 0), (9, 0)] [] σ :=
  j_tsw (t := 209) (off := 168) q_270_41 (by rw [h]; decide) (by rw [h]; decide) (by rw [h]; rfl) rfl
theorem s_270_41_3 {E : js_E} {d : Nat} {σ : js_S} {x1 x2 x3 x4 x5 x7 x9 x10 z0 : Int} (h : js_w z0 = 3) : js_J E d 270 41 [(2, 83), (0, x1), (0, x2), (0, x3), (0, x4), (1, x5), (9, 0), (1, x7), (9, 0), (0, x9), (1, x10), (9, 0), (9, 0)] [(0, z0)] σ = js_J E d 270 223 [(2, 83), (0, x1), (0, x2), (0, x3), (0, x4), (1, x5), (9, 0), (1, x7), (9, 0), (0, x9), (1, x10), (9, 0), (9, 0)] [] σ :=
  j_tsw (t := 223) (off := 182) q_270_41 (by rw [h]; decide) (by rw [h]; decide) (by rw [h]; rfl) rfl
theorem s_270_41_4 {E : js_E} {d : Nat} {σ : js_S} {x1 x2 x3 x4 x5 x7 x9 x10 z0 : Int} (h : js_w z0 = 4) : js_J E d 270 41 [(2, 83), (0, x1), (0, x2), (0, x3), (0, x4), (1, x5), (9, 0), (1, x7), (9, 0), (0, x9), (1, x10), (9, 0), (9, 0)] [(0, z0)] σ = js_J E d 270 234 [(2, 83), (0, x1), (0, x2), (0, x3), (0, x4), (1, x5), (9, 0), (1, x7), (9, 0), (0, x9), (1, x10), (9, 0), (9, 0)] [] σ :=
  j_tsw (t := 234) (off := 193) q_270_41 (by rw [h]; decide) (by rw [h]; decide) (by rw [h]; rfl) rfl
theorem s_270_41_5 {E : js_E} {d : Nat} {σ : js_S} {x1 x2 x3 x4 x5 x7 x9 x10 z0 : Int} (h : js_w z0 = 5) : js_J E d 270 41 [(2, 83), (0, x1), (0, x2), (0, x3), (0, x4), (1, x5), (9, 0), (1, x7), (9, 0), (0, x9), (1, x10), (9, 0), (9, 0)] [(0, z0)] σ = js_J E d 270 273 [(2, 83), (0, x1), (0, x2), (0, x3), (0, x4), (1, x5), (9, 0), (1, x7), (9, 0), (0, x9), (1, x10), (9, 0), (9, 0)] [] σ :=
  j_tsw (t := 273) (off := 232) q_270_41 (by rw [h]; decide) (by rw [h]; decide) (by rw [h]; rfl) rfl
theorem s_270_41_6 {E : js_E} {d : Nat} {σ : js_S} {x1 x2 x3 x4 x5 x7 x9 x10 z0 : Int} (h : js_w z0 = 6) : js_J E d 270 41 [(2, 83), (0, x1), (0, x2), (0, x3), (0, x4), (1, x5), (9, 0), (1, x7), (9, 0), (0, x9), (1, x10), (9, 0), (9, 0)] [(0, z0)] σ = js_J E d 270 308 [(2, 83), (0, x1), (0, x2), (0, x3), (0, x4), (1, x5), (9, 0), (1, x7), (9, 0), (0, x9), (1, x10), (9, 0), (9, 0)] [] σ :=
  j_tsw (t := 308) (off := 267) q_270_41 (by rw [h]; decide) (by rw [h]; decide) (by rw [h]; rfl) rfl
theorem s_270_41_7 {E : js_E} {d : Nat} {σ : js_S} {x1 x2 x3 x4 x5 x7 x9 x10 z0 : Int} (h : js_w z0 = 7) : js_J E d 270 41 [(2, 83), (0, x1), (0, x2), (0, x3), (0, x4), (1, x5), (9, 0), (1, x7), (9, 0), (0, x9), (1, x10), (9, 0), (9, 0)] [(0, z0)] σ = js_J E d 270 322 [(2, 83), (0, x1), (0, x2), (0, x3), (0, x4), (1, x5), (9, 0), (1, x7), (9, 0), (0, x9), (1, x10), (9, 0), (9, 0)] [] σ :=
  j_tsw (t := 322) (off := 281) q_270_41 (by rw [h]; decide) (by rw [h]; decide) (by rw [h]; rfl) rfl
theorem s_270_41_8 {E : js_E} {d : Nat} {σ : js_S} {x1 x2 x3 x4 x5 x7 x9 x10 z0 : Int} (h : js_w z0 = 8) : js_J E d 270 41 [(2, 83), (0, x1), (0, x2), (0, x3), (0, x4), (1, x5), (9, 0), (1, x7), (9, 0), (0, x9), (1, x10), (9, 0), (9, 0)] [(0, z0)] σ = js_J E d 270 336 [(2, 83), (0, x1), (0, x2), (0, x3), (0, x4), (1, x5), (9, 0), (1, x7), (9, 0), (0, x9), (1, x10), (9, 0), (9, 0)] [] σ :=
  j_tsw (t := 336) (off := 295) q_270_41 (by rw [h]; decide) (by rw [h]; decide) (by rw [h]; rfl) rfl
theorem s_270_41_9 {E : js_E} {d : Nat} {σ : js_S} {x1 x2 x3 x4 x5 x7 x9 x10 z0 : Int} (h : js_w z0 = 9) : js_J E d 270 41 [(2, 83), (0, x1), (0, x2), (0, x3), (0, x4), (1, x5), (9, 0), (1, x7), (9, 0), (0, x9), (1, x10), (9, 0), (9, 0)] [(0, z0)] σ = js_J E d 270 388 [(2, 83), (0, x1), (0, x2), (0, x3), (0, x4), (1, x5), (9, 0), (1, x7), (9, 0), (0, x9), (1, x10), (9, 0), (9, 0)] [] σ :=
  j_tsw (t := 388) (off := 347) q_270_41 (by rw [h]; decide) (by rw [h]; decide) (by rw [h]; rfl) rfl
theorem s_270_41_10 {E : js_E} {d : Nat} {σ : js_S} {x1 x2 x3 x4 x5 x7 x9 x10 z0 : Int} (h : js_w z0 = 10) : js_J E d 270 41 [(2, 83), (0, x1), (0, x2), (0, x3), (0, x4), (1, x5), (9, 0), (1, x7), (9, 0), (0, x9), (1, x10), (9, 0), (9, 0)] [(0, z0)] σ = js_J E d 270 428 [(2, 83), (0, x1), (0, x2), (0, x3), (0, x4), (1, x5), (9, 0), (1, x7), (9, 0), (0, x9), (1, x10), (9, 0), (9, 0)] [] σ :=
  j_tsw (t := 428) (off := 387) q_270_41 (by rw [h]; decide) (by rw [h]; decide) (by rw [h]; rfl) rfl
theorem s_270_41_11 {E : js_E} {d : Nat} {σ : js_S} {x1 x2 x3 x4 x5 x7 x9 x10 z0 : Int} (h : js_w z0 = 11) : js_J E d 270 41 [(2, 83), (0, x1), (0, x2), (0, x3), (0, x4), (1, x5), (9, 0), (1, x7), (9, 0), (0, x9), (1, x10), (9, 0), (9, 0)] [(0, z0)] σ = js_J E d 270 451 [(2, 83), (0, x1), (0, x2), (0, x3), (0, x4), (1, x5), (9, 0), (1, x7), (9, 0), (0, x9), (1, x10), (9, 0), (9, 0)] [] σ :=
  j_tsw (t := 451) (off := 410) q_270_41 (by rw [h]; decide) (by rw [h]; decide) (by rw [h]; rfl) rfl
theorem s_270_41_12 {E : js_E} {d : Nat} {σ : js_S} {x1 x2 x3 x4 x5 x7 x9 x10 z0 : Int} (h : js_w z0 = 12) : js_J E d 270 41 [(2, 83), (0, x1), (0, x2), (0, x3), (0, x4), (1, x5), (9, 0), (1, x7), (9, 0), (0, x9), (1, x10), (9, 0), (9, 0)] [(0, z0)] σ = js_J E d 270 467 [(2, 83), (0, x1), (0, x2), (0, x3), (0, x4), (1, x5), (9, 0), (1, x7), (9, 0), (0, x9), (1, x10), (9, 0), (9, 0)] [] σ :=
  j_tsw (t := 467) (off := 426) q_270_41 (by rw [h]; decide) (by rw [h]; decide) (by rw [h]; rfl) rfl
theorem s_270_41_13 {E : js_E} {d : Nat} {σ : js_S} {x1 x2 x3 x4 x5 x7 x9 x10 z0 : Int} (h : js_w z0 = 13) : js_J E d 270 41 [(2, 83), (0, x1), (0, x2), (0, x3), (0, x4), (1, x5), (9, 0), (1, x7), (9, 0), (0, x9), (1, x10), (9, 0), (9, 0)] [(0, z0)] σ = js_J E d 270 483 [(2, 83), (0, x1), (0, x2), (0, x3), (0, x4), (1, x5), (9, 0), (1, x7), (9, 0), (0, x9), (1, x10), (9, 0), (9, 0)] [] σ :=
  j_tsw (t := 483) (off := 442) q_270_41 (by rw [h]; decide) (by rw [h]; decide) (by rw [h]; rfl) rfl
theorem s_270_41_14 {E : js_E} {d : Nat} {σ : js_S} {x1 x2 x3 x4 x5 x7 x9 x10 z0 : Int} (h : js_w z0 = 14) : js_J E d 270 41 [(2, 83), (0, x1), (0, x2), (0, x3), (0, x4), (1, x5), (9, 0), (1, x7), (9, 0), (0, x9), (1, x10), (9, 0), (9, 0)] [(0, z0)] σ = js_J E d 270 510 [(2, 83), (0, x1), (0, x2), (0, x3), (0, x4), (1, x5), (9, 0), (1, x7), (9, 0), (0, x9), (1, x10), (9, 0), (9, 0)] [] σ :=
  j_tsw (t := 510) (off := 469) q_270_41 (by rw [h]; decide) (by rw [h]; decide) (by rw [h]; rfl) rfl
theorem s_270_41_15 {E : js_E} {d : Nat} {σ : js_S} {x1 x2 x3 x4 x5 x7 x9 x10 z0 : Int} (h : js_w z0 = 15) : js_J E d 270 41 [(2, 83), (0, x1), (0, x2), (0, x3), (0, x4), (1, x5), (9, 0), (1, x7), (9, 0), (0, x9), (1, x10), (9, 0), (9, 0)] [(0, z0)] σ = js_J E d 270 537 [(2, 83), (0, x1), (0, x2), (0, x3), (0, x4), (1, x5), (9, 0), (1, x7), (9, 0), (0, x9), (1, x10), (9, 0), (9, 0)] [] σ :=
  j_tsw (t := 537) (off := 496) q_270_41 (by rw [h]; decide) (by rw [h]; decide) (by rw [h]; rfl) rfl
theorem s_270_41_16 {E : js_E} {d : Nat} {σ : js_S} {x1 x2 x3 x4 x5 x7 x9 x10 z0 : Int} (h : js_w z0 = 16) : js_J E d 270 41 [(2, 83), (0, x1), (0, x2), (0, x3), (0, x4), (1, x5), (9, 0), (1, x7), (9, 0), (0, x9), (1, x10), (9, 0), (9, 0)] [(0, z0)] σ = js_J E d 270 564 [(2, 83), (0, x1), (0, x2), (0, x3), (0, x4), (1, x5), (9, 0), (1, x7), (9, 0), (0, x9), (1, x10), (9, 0), (9, 0)] [] σ :=
  j_tsw (t := 564) (off := 523) q_270_41 (by rw [h]; decide) (by rw [h]; decide) (by rw [h]; rfl) rfl
theorem s_270_41_17 {E : js_E} {d : Nat} {σ : js_S} {x1 x2 x3 x4 x5 x7 x9 x10 z0 : Int} (h : js_w z0 = 17) : js_J E d 270 41 [(2, 83), (0, x1), (0, x2), (0, x3), (0, x4), (1, x5), (9, 0), (1, x7), (9, 0), (0, x9), (1, x10), (9, 0), (9, 0)] [(0, z0)] σ = js_J E d 270 591 [(2, 83), (0, x1), (0, x2), (0, x3), (0, x4), (1, x5), (9, 0), (1, x7), (9, 0), (0, x9), (1, x10), (9, 0), (9, 0)] [] σ :=
  j_tsw (t := 591) (off := 550) q_270_41 (by rw [h]; decide) (by rw [h]; decide) (by rw [h]; rfl) rfl
theorem s_270_41_18 {E : js_E} {d : Nat} {σ : js_S} {x1 x2 x3 x4 x5 x7 x9 x10 z0 : Int} (h : js_w z0 = 18) : js_J E d 270 41 [(2, 83), (0, x1), (0, x2), (0, x3), (0, x4), (1, x5), (9, 0), (1, x7), (9, 0), (0, x9), (1, x10), (9, 0), (9, 0)] [(0, z0)] σ = js_J E d 270 618 [(2, 83), (0, x1), (0, x2), (0, x3), (0, x4), (1, x5), (9, 0), (1, x7), (9, 0), (0, x9), (1, x10), (9, 0), (9, 0)] [] σ :=
  j_tsw (t := 618) (off := 577) q_270_41 (by rw [h]; decide) (by rw [h]; decide) (by rw [h]; rfl) rfl
theorem s_270_41_19 {E : js_E} {d : Nat} {σ : js_S} {x1 x2 x3 x4 x5 x7 x9 x10 z0 : Int} (h : js_w z0 = 19) : js_J E d 270 41 [(2, 83), (0, x1), (0, x2), (0, x3), (0, x4), (1, x5), (9, 0), (1, x7), (9, 0), (0, x9), (1, x10), (9, 0), (9, 0)] [(0, z0)] σ = js_J E d 270 645 [(2, 83), (0, x1), (0, x2), (0, x3), (0, x4), (1, x5), (9, 0), (1, x7), (9, 0), (0, x9), (1, x10), (9, 0), (9, 0)] [] σ :=
  j_tsw (t := 645) (off := 604) q_270_41 (by rw [h]; decide) (by rw [h]; decide) (by rw [h]; rfl) rfl
theorem s_270_41_20 {E : js_E} {d : Nat} {σ : js_S} {x1 x2 x3 x4 x5 x7 x9 x10 z0 : Int} (h : js_w z0 = 20) : js_J E d 270 41 [(2, 83), (0, x1), (0, x2), (0, x3), (0, x4), (1, x5), (9, 0), (1, x7), (9, 0), (0, x9), (1, x10), (9, 0), (9, 0)] [(0, z0)] σ = js_J E d 270 657 [(2, 83), (0, x1), (0, x2), (0, x3), (0, x4), (1, x5), (9, 0), (1, x7), (9, 0), (0, x9), (1, x10), (9, 0), (9, 0)] [] σ :=
  j_tsw (t := 657) (off := 616) q_270_41 (by rw [h]; decide) (by rw [h]; decide) (by rw [h]; rfl) rfl
theorem s_270_41_21 {E : js_E} {d : Nat} {σ : js_S} {x1 x2 x3 x4 x5 x7 x9 x10 z0 : Int} (h : js_w z0 = 21) : js_J E d 270 41 [(2, 83), (0, x1), (0, x2), (0, x3), (0, x4), (1, x5), (9, 0), (1, x7), (9, 0), (0, x9), (1, x10), (9, 0), (9, 0)] [(0, z0)] σ = js_J E d 270 681 [(2, 83), (0, x1), (0, x2), (0, x3), (0, x4), (1, x5), (9, 0), (1, x7), (9, 0), (0, x9), (1, x10), (9, 0), (9, 0)] [] σ :=
  j_tsw (t := 681) (off := 640) q_270_41 (by rw [h]; decide) (by rw [h]; decide) (by rw [h]; rfl) rfl
theorem s_270_41_22 {E : js_E} {d : Nat} {σ : js_S} {x1 x2 x3 x4 x5 x7 x9 x10 z0 : Int} (h : js_w z0 = 22) : js_J E d 270 41 [(2, 83), (0, x1), (0, x2), (0, x3), (0, x4), (1, x5), (9, 0), (1, x7), (9, 0), (0, x9), (1, x10), (9, 0), (9, 0)] [(0, z0)] σ = js_J E d 270 707 [(2, 83), (0, x1), (0, x2), (0, x3), (0, x4), (1, x5), (9, 0), (1, x7), (9, 0), (0, x9), (1, x10), (9, 0), (9, 0)] [] σ :=
  j_tsw (t := 707) (off := 666) q_270_41 (by rw [h]; decide) (by rw [h]; decide) (by rw [h]; rfl) rfl
theorem s_270_41_23 {E : js_E} {d : Nat} {σ : js_S} {x1 x2 x3 x4 x5 x7 x9 x10 z0 : Int} (h : js_w z0 = 23) : js_J E d 270 41 [(2, 83), (0, x1), (0, x2), (0, x3), (0, x4), (1, x5), (9, 0), (1, x7), (9, 0), (0, x9), (1, x10), (9, 0), (9, 0)] [(0, z0)] σ = js_J E d 270 731 [(2, 83), (0, x1), (0, x2), (0, x3), (0, x4), (1, x5), (9, 0), (1, x7), (9, 0), (0, x9), (1, x10), (9, 0), (9, 0)] [] σ :=
  j_tsw (t := 731) (off := 690) q_270_41 (by rw [h]; decide) (by rw [h]; decide) (by rw [h]; rfl) rfl
theorem s_270_41_24 {E : js_E} {d : Nat} {σ : js_S} {x1 x2 x3 x4 x5 x7 x9 x10 z0 : Int} (h : js_w z0 = 24) : js_J E d 270 41 [(2, 83), (0, x1), (0, x2), (0, x3), (0, x4), (1, x5), (9, 0), (1, x7), (9, 0), (0, x9), (1, x10), (9, 0), (9, 0)] [(0, z0)] σ = js_J E d 270 755 [(2, 83), (0, x1), (0, x2), (0, x3), (0, x4), (1, x5), (9, 0), (1, x7), (9, 0), (0, x9), (1, x10), (9, 0), (9, 0)] [] σ :=
  j_tsw (t := 755) (off := 714) q_270_41 (by rw [h]; decide) (by rw [h]; decide) (by rw [h]; rfl) rfl
theorem s_270_41_25 {E : js_E} {d : Nat} {σ : js_S} {x1 x2 x3 x4 x5 x7 x9 x10 z0 : Int} (h : js_w z0 = 25) : js_J E d 270 41 [(2, 83), (0, x1), (0, x2), (0, x3), (0, x4), (1, x5), (9, 0), (1, x7), (9, 0), (0, x9), (1, x10), (9, 0), (9, 0)] [(0, z0)] σ = js_J E d 270 763 [(2, 83), (0, x1), (0, x2), (0, x3), (0, x4), (1, x5), (9, 0), (1, x7), (9, 0), (0, x9), (1, x10), (9, 0), (9, 0)] [] σ :=
  j_tsw (t := 763) (off := 722) q_270_41 (by rw [h]; decide) (by rw [h]; decide) (by rw [h]; rfl) rfl
theorem s_270_41_26 {E : js_E} {d : Nat} {σ : js_S} {x1 x2 x3 x4 x5 x7 x9 x10 z0 : Int} (h : js_w z0 = 26) : js_J E d 270 41 [(2, 83), (0, x1), (0, x2), (0, x3), (0, x4), (1, x5), (9, 0), (1, x7), (9, 0), (0, x9), (1, x10), (9, 0), (9, 0)] [(0, z0)] σ = js_J E d 270 785 [(2, 83), (0, x1), (0, x2), (0, x3), (0, x4), (1, x5), (9, 0), (1, x7), (9, 0), (0, x9), (1, x10), (9, 0), (9, 0)] [] σ :=
  j_tsw (t := 785) (off := 744) q_270_41 (by rw [h]; decide) (by rw [h]; decide) (by rw [h]; rfl) rfl
theorem s_270_41_27 {E : js_E} {d : Nat} {σ : js_S} {x1 x2 x3 x4 x5 x7 x9 x10 z0 : Int} (h : js_w z0 = 27) : js_J E d 270 41 [(2, 83), (0, x1), (0, x2), (0, x3), (0, x4), (1, x5), (9, 0), (1, x7), (9, 0), (0, x9), (1, x10), (9, 0), (9, 0)] [(0, z0)] σ = js_J E d 270 807 [(2, 83), (0, x1), (0, x2), (0, x3), (0, x4), (1, x5), (9, 0), (1, x7), (9, 0), (0, x9), (1, x10), (9, 0), (9, 0)] [] σ :=
  j_tsw (t := 807) (off := 766) q_270_41 (by rw [h]; decide) (by rw [h]; decide) (by rw [h]; rfl) rfl
theorem s_270_41_28 {E : js_E} {d : Nat} {σ : js_S} {x1 x2 x3 x4 x5 x7 x9 x10 z0 : Int} (h : js_w z0 = 28) : js_J E d 270 41 [(2, 83), (0, x1), (0, x2), (0, x3), (0, x4), (1, x5), (9, 0), (1, x7), (9, 0), (0, x9), (1, x10), (9, 0), (9, 0)] [(0, z0)] σ = js_J E d 270 845 [(2, 83), (0, x1), (0, x2), (0, x3), (0, x4), (1, x5), (9, 0), (1, x7), (9, 0), (0, x9), (1, x10), (9, 0), (9, 0)] [] σ :=
  j_tsw (t := 845) (off := 804) q_270_41 (by rw [h]; decide) (by rw [h]; decide) (by rw [h]; rfl) rfl
theorem s_270_41_29 {E : js_E} {d : Nat} {σ : js_S} {x1 x2 x3 x4 x5 x7 x9 x10 z0 : Int} (h : js_w z0 = 29) : js_J E d 270 41 [(2, 83), (0, x1), (0, x2), (0, x3), (0, x4), (1, x5), (9, 0), (1, x7), (9, 0), (0, x9), (1, x10), (9, 0), (9, 0)] [(0, z0)] σ = js_J E d 270 891 [(2, 83), (0, x1), (0, x2), (0, x3), (0, x4), (1, x5), (9, 0), (1, x7), (9, 0), (0, x9), (1, x10), (9, 0), (9, 0)] [] σ :=
  j_tsw (t := 891) (off := 850) q_270_41 (by rw [h]; decide) (by rw [h]; decide) (by rw [h]; rfl) rfl
theorem s_270_41_30 {E : js_E} {d : Nat} {σ : js_S} {x1 x2 x3 x4 x5 x7 x9 x10 z0 : Int} (h : js_w z0 = 30) : js_J E d 270 41 [(2, 83), (0, x1), (0, x2), (0, x3), (0, x4), (1, x5), (9, 0), (1, x7), (9, 0), (0, x9), (1, x10), (9, 0), (9, 0)] [(0, z0)] σ = js_J E d 270 878 [(2, 83), (0, x1), (0, x2), (0, x3), (0, x4), (1, x5), (9, 0), (1, x7), (9, 0), (0, x9), (1, x10), (9, 0), (9, 0)] [] σ :=
  j_tsw (t := 878) (off := 837) q_270_41 (by rw [h]; decide) (by rw [h]; decide) (by rw [h]; rfl) rfl
theorem s_270_41_d {E : js_E} {d : Nat} {σ : js_S} {x1 x2 x3 x4 x5 x7 x9 x10 z0 : Int} (h : js_w z0 < 0 ∨ 30 < js_w z0) : js_J E d 270 41 [(2, 83), (0, x1), (0, x2), (0, x3), (0, x4), (1, x5), (9, 0), (1, x7), (9, 0), (0, x9), (1, x10), (9, 0), (9, 0)] [(0, z0)] σ = js_J E d 270 891 [(2, 83), (0, x1), (0, x2), (0, x3), (0, x4), (1, x5), (9, 0), (1, x7), (9, 0), (0, x9), (1, x10), (9, 0), (9, 0)] [] σ :=
  j_tswd (t := 891) q_270_41 h rfl
theorem b_270_180 {E : js_E} {d : Nat} {σ : js_S} {x1 x2 x3 x4 x5 x7 x9 x10 : Int} : js_J E d 270 180 [(2, 83), (0, x1), (0, x2), (0, x3), (0, x4), (1, x5), (9, 0), (1, x7), (9, 0), (0, x9), (1, x10), (9, 0), (9, 0)] [] σ = (if 0 ≤ js_w x1 ∧ js_w x1 < 2 then js_J E d 270 891 [(2, 83), (0, x1), (0, x2), (0, x3), (0, x4), (1, x5), (9, 0), (1, x7), (9, 0), (0, x9), (1, x10), (9, 0), (9, 0)] [] (js_up σ 121 (js_w x1) x10) else none) :=
  (j_aload_n q_270_180 rfl).trans <| (j_get (ji := 72) (v := (2, 121)) q_270_181 (js_Fo qy_270 qf_12_377) js_o83 rfl rfl rfl rfl).trans <| (j_iload_n q_270_184 rfl).trans <| (j_lload q_270_185 rfl).trans <| (j_lastore q_270_187 js_o121).trans <| js_itp fun g0 => (j_goto (t := 891) q_270_188 rfl).trans <| rfl
theorem b_270_191 {E : js_E} {d : Nat} {σ : js_S} {x1 x2 x3 x4 x5 x7 x9 x10 : Int} : js_J E d 270 191 [(2, 83), (0, x1), (0, x2), (0, x3), (0, x4), (1, x5), (9, 0), (1, x7), (9, 0), (0, x9), (1, x10), (9, 0), (9, 0)] [] σ = (if 0 ≤ js_w (x9 + x3) ∧ js_w (x9 + x3) < 8192 then (if 0 ≤ js_w x1 ∧ js_w x1 < 2 then js_J E d 270 891 [(2, 83), (0, x1), (0, x2), (0, x3), (0, x4), (1, x5), (9, 0), (1, x7), (9, 0), (0, x9), (1, x10), (9, 0), (9, 0)] [] (js_up σ 121 (js_w x1) (σ 120 (js_w (x9 + x3)))) else none) else none) :=
  (j_aload_n q_270_191 rfl).trans <| (j_get (ji := 72) (v := (2, 121)) q_270_192 (js_Fo qy_270 qf_12_377) js_o83 rfl rfl rfl rfl).trans <| (j_iload_n q_270_195 rfl).trans <| (j_aload_n q_270_196 rfl).trans <| (j_get (ji := 71) (v := (2, 120)) q_270_197 (js_Fo qy_270 qf_12_374) js_o83 rfl rfl rfl rfl).trans <| (j_iload q_270_200 rfl).trans <| (j_iload_n q_270_202 rfl).trans <| (j_iadd q_270_203).trans <| (j_laload q_270_204 js_o120).trans <| js_itp fun g0 => (j_lastore q_270_205 js_o121).trans <| js_itp fun g1 => (j_goto (t := 891) q_270_206 rfl).trans <| rfl
theorem b_270_209 {E : js_E} {d : Nat} {σ : js_S} {x1 x2 x3 x4 x5 x7 x9 x10 : Int} : js_J E d 270 209 [(2, 83), (0, x1), (0, x2), (0, x3), (0, x4), (1, x5), (9, 0), (1, x7), (9, 0), (0, x9), (1, x10), (9, 0), (9, 0)] [] σ = (if 0 ≤ js_w (x9 + x3) ∧ js_w (x9 + x3) < 8192 then js_J E d 270 891 [(2, 83), (0, x1), (0, x2), (0, x3), (0, x4), (1, x5), (9, 0), (1, x7), (9, 0), (0, x9), (1, x10), (9, 0), (9, 0)] [] (js_up σ 120 (js_w (x9 + x3)) x5) else none) :=
  (j_aload_n q_270_209 rfl).trans <| (j_get (ji := 71) (v := (2, 120)) q_270_210 (js_Fo qy_270 qf_12_374) js_o83 rfl rfl rfl rfl).trans <| (j_iload q_270_213 rfl).trans <| (j_iload_n q_270_215 rfl).trans <| (j_iadd q_270_216).trans <| (j_lload q_270_217 rfl).trans <| (j_lastore q_270_219 js_o120).trans <| js_itp fun g0 => (j_goto (t := 891) q_270_220 rfl).trans <| rfl
theorem b_270_223 {E : js_E} {d : Nat} {σ : js_S} {x1 x2 x3 x4 x5 x7 x9 x10 : Int} : js_J E d 270 223 [(2, 83), (0, x1), (0, x2), (0, x3), (0, x4), (1, x5), (9, 0), (1, x7), (9, 0), (0, x9), (1, x10), (9, 0), (9, 0)] [] σ = (if 0 ≤ js_w x1 ∧ js_w x1 < 2 then js_J E d 270 891 [(2, 83), (0, x1), (0, x2), (0, x3), (0, x4), (1, x5), (9, 0), (1, x7), (9, 0), (0, x9), (1, x10), (9, 0), (9, 0)] [] (js_up σ 122 (js_w x1) x5) else none) :=
  (j_aload_n q_270_223 rfl).trans <| (j_get (ji := 73) (v := (2, 122)) q_270_224 (js_Fo qy_270 qf_12_380) js_o83 rfl rfl rfl rfl).trans <| (j_iload_n q_270_227 rfl).trans <| (j_lload q_270_228 rfl).trans <| (j_lastore q_270_230 js_o122).trans <| js_itp fun g0 => (j_goto (t := 891) q_270_231 rfl).trans <| rfl
theorem b_270_234 {E : js_E} {d : Nat} {σ : js_S} {x1 x2 x3 x4 x5 x7 x9 x10 : Int} : js_J E d 270 234 [(2, 83), (0, x1), (0, x2), (0, x3), (0, x4), (1, x5), (9, 0), (1, x7), (9, 0), (0, x9), (1, x10), (9, 0), (9, 0)] [] σ = js_J E d 270 240 [(2, 83), (0, x1), (0, x2), (0, x3), (0, x4), (1, x5), (9, 0), (1, x7), (9, 0), (0, x9), (1, x10), (9, 0), (9, 0)] [(0, x4), (1, x5), (0, x1), (2, 83)] σ :=
  (j_aload_n q_270_234 rfl).trans <| (j_iload_n q_270_235 rfl).trans <| (j_lload q_270_236 rfl).trans <| (j_iload q_270_238 rfl).trans <| rfl
theorem k_270_240 {E : js_E} {d : Nat} {σ σ2 : js_S} {x1 x2 x3 x4 x5 x7 x9 x10 z1 z2 z3 : Int} {v : Int} (hd : 1 ≤ d) (hz : js_J E (d - 1) 271 0 [(2, 83), (0, z1), (1, z2), (9, 0), (0, z3), (9, 0), (9, 0)] [] σ = js_r E (0, v) σ2) : js_J E d 270 240 [(2, 83), (0, x1), (0, x2), (0, x3), (0, x4), (1, x5), (9, 0), (1, x7), (9, 0), (0, x9), (1, x10), (9, 0), (9, 0)] [(0, z3), (1, z2), (0, z1), (2, 83)] σ = js_J E d 270 243 [(2, 83), (0, x1), (0, x2), (0, x3), (0, x4), (1, x5), (9, 0), (1, x7), (9, 0), (0, x9), (1, x10), (9, 0), (9, 0)] [(0, v)] σ2 :=
  j_call (m := 2) (js_caV q_270_240 (js_Mo qy_270 qm_12_603)) (js_agV (av := [(0, z1), (1, z2), (0, z3)]) (st := []) rfl rfl js_o83 rfl) rfl rfl (by rw [ql_271]; exact Nat.le_of_ble_eq_true rfl) (Nat.le_of_ble_eq_true rfl) hd hz
theorem b_270_243 {E : js_E} {d : Nat} {σ : js_S} {x1 x2 x3 x4 x5 x7 x9 x10 z0 : Int} : js_J E d 270 243 [(2, 83), (0, x1), (0, x2), (0, x3), (0, x4), (1, x5), (9, 0), (1, x7), (9, 0), (0, x9), (1, x10), (9, 0), (9, 0)] [(0, z0)] σ = (if js_w z0 < 0 then js_r E (0, 0) σ else (if 0 ≤ js_w ((x9 + x3) + z0) ∧ js_w ((x9 + x3) + z0) < 8192 then (if 0 ≤ js_w x1 ∧ js_w x1 < 2 then js_J E d 270 891 [(2, 83), (0, x1), (0, x2), (0, x3), (0, x4), (1, x5), (9, 0), (1, x7), (9, 0), (0, x9), (1, x10), (9, 0), (0, z0)] [] (js_up σ 121 (js_w x1) (σ 120 (js_w ((x9 + x3) + z0)))) else none) else none)) :=
  (j_istore (l2 := [(2, 83), (0, x1), (0, x2), (0, x3), (0, x4), (1, x5), (9, 0), (1, x7), (9, 0), (0, x9), (1, x10), (9, 0), (0, z0)]) q_270_243 rfl (Nat.le_of_ble_eq_true rfl)).trans <| (j_iload q_270_245 rfl).trans <| (j_ifge (t := 252) q_270_247 rfl).trans (js_ite ((j_iconst q_270_250).trans <| j_breturn0 q_270_251 qr_270) ((j_aload_n q_270_252 rfl).trans <| (j_get (ji := 72) (v := (2, 121)) q_270_253 (js_Fo qy_270 qf_12_377) js_o83 rfl rfl rfl rfl).trans <| (j_iload_n q_270_256 rfl).trans <| (j_aload_n q_270_257 rfl).trans <| (j_get (ji := 71) (v := (2, 120)) q_270_258 (js_Fo qy_270 qf_12_374) js_o83 rfl rfl rfl rfl).trans <| (j_iload q_270_261 rfl).trans <| (j_iload_n q_270_263 rfl).trans <| (j_iadd q_270_264).trans <| (j_iload q_270_265 rfl).trans <| (j_iadd q_270_267).trans <| (j_laload q_270_268 js_o120).trans <| js_itp fun g0 => (j_lastore q_270_269 js_o121).trans <| js_itp fun g1 => (j_goto (t := 891) q_270_270 rfl).trans <| rfl))
theorem b_270_273 {E : js_E} {d : Nat} {σ : js_S} {x1 x2 x3 x4 x5 x7 x9 x10 : Int} : js_J E d 270 273 [(2, 83), (0, x1), (0, x2), (0, x3), (0, x4), (1, x5), (9, 0), (1, x7), (9, 0), (0, x9), (1, x10), (9, 0), (9, 0)] [] σ = js_J E d 270 279 [(2, 83), (0, x1), (0, x2), (0, x3), (0, x4), (1, x5), (9, 0), (1, x7), (9, 0), (0, x9), (1, x10), (9, 0), (9, 0)] [(0, x4), (1, x7), (0, x1), (2, 83)] σ :=
  (j_aload_n q_270_273 rfl).trans <| (j_iload_n q_270_274 rfl).trans <| (j_lload q_270_275 rfl).trans <| (j_iload q_270_277 rfl).trans <| rfl
theorem k_270_279 {E : js_E} {d : Nat} {σ σ2 : js_S} {x1 x2 x3 x4 x5 x7 x9 x10 z1 z2 z3 : Int} {v : Int} (hd : 1 ≤ d) (hz : js_J E (d - 1) 271 0 [(2, 83), (0, z1), (1, z2), (9, 0), (0, z3), (9, 0), (9, 0)] [] σ = js_r E (0, v) σ2) : js_J E d 270 279 [(2, 83), (0, x1), (0, x2), (0, x3), (0, x4), (1, x5), (9, 0), (1, x7), (9, 0), (0, x9), (1, x10), (9, 0), (9, 0)] [(0, z3), (1, z2), (0, z1), (2, 83)] σ = js_J E d 270 282 [(2, 83), (0, x1), (0, x2), (0, x3), (0, x4), (1, x5), (9, 0), (1, x7), (9, 0), (0, x9), (1, x10), (9, 0), (9, 0)] [(0, v)] σ2 :=
  j_call (m := 2) (js_caV q_270_279 (js_Mo qy_270 qm_12_603)) (js_agV (av := [(0, z1), (1, z2), (0, z3)]) (st := []) rfl rfl js_o83 rfl) rfl rfl (by rw [ql_271]; exact Nat.le_of_ble_eq_true rfl) (Nat.le_of_ble_eq_true rfl) hd hz
theorem b_270_282 {E : js_E} {d : Nat} {σ : js_S} {x1 x2 x3 x4 x5 x7 x9 x10 z0 : Int} : js_J E d 270 282 [(2, 83), (0, x1), (0, x2), (0, x3), (0, x4), (1, x5), (9, 0), (1, x7), (9, 0), (0, x9), (1, x10), (9, 0), (9, 0)] [(0, z0)] σ = (if js_w z0 < 0 then js_r E (0, 0) σ else (if 0 ≤ js_w ((x9 + x3) + z0) ∧ js_w ((x9 + x3) + z0) < 8192 then js_J E d 270 891 [(2, 83), (0, x1), (0, x2), (0, x3), (0, x4), (1, x5), (9, 0), (1, x7), (9, 0), (0, x9), (1, x10), (9, 0), (0, z0)] [] (js_up σ 120 (js_w ((x9 + x3) + z0)) x5) else none)) :=
  (j_istore (l2 := [(2, 83), (0, x1), (0, x2), (0, x3), (0, x4), (1, x5), (9, 0), (1, x7), (9, 0), (0, x9), (1, x10), (9, 0), (0, z0)]) q_270_282 rfl (Nat.le_of_ble_eq_true rfl)).trans <| (j_iload q_270_284 rfl).trans <| (j_ifge (t := 291) q_270_286 rfl).trans (js_ite ((j_iconst q_270_289).trans <| j_breturn0 q_270_290 qr_270) ((j_aload_n q_270_291 rfl).trans <| (j_get (ji := 71) (v := (2, 120)) q_270_292 (js_Fo qy_270 qf_12_374) js_o83 rfl rfl rfl rfl).trans <| (j_iload q_270_295 rfl).trans <| (j_iload_n q_270_297 rfl).trans <| (j_iadd q_270_298).trans <| (j_iload q_270_299 rfl).trans <| (j_iadd q_270_301).trans <| (j_lload q_270_302 rfl).trans <| (j_lastore q_270_304 js_o120).trans <| js_itp fun g0 => (j_goto (t := 891) q_270_305 rfl).trans <| rfl))
theorem b_270_308 {E : js_E} {d : Nat} {σ : js_S} {x1 x2 x3 x4 x5 x7 x9 x10 : Int} : js_J E d 270 308 [(2, 83), (0, x1), (0, x2), (0, x3), (0, x4), (1, x5), (9, 0), (1, x7), (9, 0), (0, x9), (1, x10), (9, 0), (9, 0)] [] σ = (if 0 ≤ js_w x1 ∧ js_w x1 < 2 then js_J E d 270 891 [(2, 83), (0, x1), (0, x2), (0, x3), (0, x4), (1, x5), (9, 0), (1, x7), (9, 0), (0, x9), (1, x10), (9, 0), (9, 0)] [] (js_up σ 121 (js_w x1) (x5 + x7)) else none) :=
  (j_aload_n q_270_308 rfl).trans <| (j_get (ji := 72) (v := (2, 121)) q_270_309 (js_Fo qy_270 qf_12_377) js_o83 rfl rfl rfl rfl).trans <| (j_iload_n q_270_312 rfl).trans <| (j_lload q_270_313 rfl).trans <| (j_lload q_270_315 rfl).trans <| (j_ladd q_270_317).trans <| (j_lastore q_270_318 js_o121).trans <| js_itp fun g0 => (j_goto (t := 891) q_270_319 rfl).trans <| rfl
theorem b_270_322 {E : js_E} {d : Nat} {σ : js_S} {x1 x2 x3 x4 x5 x7 x9 x10 : Int} : js_J E d 270 322 [(2, 83), (0, x1), (0, x2), (0, x3), (0, x4), (1, x5), (9, 0), (1, x7), (9, 0), (0, x9), (1, x10), (9, 0), (9, 0)] [] σ = (if 0 ≤ js_w x1 ∧ js_w x1 < 2 then js_J E d 270 891 [(2, 83), (0, x1), (0, x2), (0, x3), (0, x4), (1, x5), (9, 0), (1, x7), (9, 0), (0, x9), (1, x10), (9, 0), (9, 0)] [] (js_up σ 121 (js_w x1) (x5 - x7)) else none) :=
  (j_aload_n q_270_322 rfl).trans <| (j_get (ji := 72) (v := (2, 121)) q_270_323 (js_Fo qy_270 qf_12_377) js_o83 rfl rfl rfl rfl).trans <| (j_iload_n q_270_326 rfl).trans <| (j_lload q_270_327 rfl).trans <| (j_lload q_270_329 rfl).trans <| (j_lsub q_270_331).trans <| (j_lastore q_270_332 js_o121).trans <| js_itp fun g0 => (j_goto (t := 891) q_270_333 rfl).trans <| rfl
theorem b_270_336 {E : js_E} {d : Nat} {σ : js_S} {x1 x2 x3 x4 x5 x7 x9 x10 : Int} : js_J E d 270 336 [(2, 83), (0, x1), (0, x2), (0, x3), (0, x4), (1, x5), (9, 0), (1, x7), (9, 0), (0, x9), (1, x10), (9, 0), (9, 0)] [] σ = (if js_w x1 = 1 then (if js_l ((js_l (x5 * x7)).tmod 58659) = 0 then js_J E d 270 357 [(2, 83), (0, x1), (0, x2), (0, x3), (0, x4), (1, x5), (9, 0), (1, x7), (9, 0), (0, x9), (1, x10), (9, 0), (9, 0)] [] σ else js_r E (0, 0) σ) else js_J E d 270 357 [(2, 83), (0, x1), (0, x2), (0, x3), (0, x4), (1, x5), (9, 0), (1, x7), (9, 0), (0, x9), (1, x10), (9, 0), (9, 0)] [] σ) :=
  (j_iload_n q_270_336 rfl).trans <| (j_iconst q_270_337).trans <| (j_cmpneB (t := 357) q_270_338 rfl ww_1).trans (js_ite ((j_lload q_270_341 rfl).trans <| (j_lload q_270_343 rfl).trans <| (j_lmul q_270_345).trans <| (j_ldc2 (v := (1, 58659)) q_270_346 (js_Co qy_270 qc_12_571)).trans <| (j_lremk q_270_349 wl_58659 (by decide)).trans <| (j_lconst0 q_270_350).trans <| (j_leqB (t := 357) q_270_351 q_270_352 rfl wl_0).trans (js_ite (rfl) ((j_iconst q_270_355).trans <| j_breturn0 q_270_356 qr_270))) (rfl))
theorem b_270_357 {E : js_E} {d : Nat} {σ : js_S} {x1 x2 x3 x4 x5 x7 x9 x10 : Int} : js_J E d 270 357 [(2, 83), (0, x1), (0, x2), (0, x3), (0, x4), (1, x5), (9, 0), (1, x7), (9, 0), (0, x9), (1, x10), (9, 0), (9, 0)] [] σ = (if js_w x1 = 1 then js_J E d 270 384 [(2, 83), (0, x1), (0, x2), (0, x3), (0, x4), (1, x5), (9, 0), (1, x7), (9, 0), (0, x9), (1, x10), (9, 0), (9, 0)] [(1, (js_l (x5 * x7)).tdiv 58659), (0, x1), (2, 121)] σ else js_J E d 270 384 [(2, 83), (0, x1), (0, x2), (0, x3), (0, x4), (1, x5), (9, 0), (1, x7), (9, 0), (0, x9), (1, x10), (9, 0), (9, 0)] [(1, x5 * x7), (0, x1), (2, 121)] σ) :=
  (j_aload_n q_270_357 rfl).trans <| (j_get (ji := 72) (v := (2, 121)) q_270_358 (js_Fo qy_270 qf_12_377) js_o83 rfl rfl rfl rfl).trans <| (j_iload_n q_270_361 rfl).trans <| (j_iload_n q_270_362 rfl).trans <| (j_iconst q_270_363).trans <| (j_cmpneB (t := 379) q_270_364 rfl ww_1).trans (js_ite ((j_lload q_270_367 rfl).trans <| (j_lload q_270_369 rfl).trans <| (j_lmul q_270_371).trans <| (j_ldc2 (v := (1, 58659)) q_270_372 (js_Co qy_270 qc_12_571)).trans <| (j_ldivk q_270_375 wl_58659 (by decide)).trans <| (j_goto (t := 384) q_270_376 rfl).trans <| rfl) ((j_lload q_270_379 rfl).trans <| (j_lload q_270_381 rfl).trans <| (j_lmul q_270_383).trans <| rfl))
theorem b_270_384 {E : js_E} {d : Nat} {σ : js_S} {x1 x2 x3 x4 x5 x7 x9 x10 z1 z2 : Int} : js_J E d 270 384 [(2, 83), (0, x1), (0, x2), (0, x3), (0, x4), (1, x5), (9, 0), (1, x7), (9, 0), (0, x9), (1, x10), (9, 0), (9, 0)] [(1, z2), (0, z1), (2, 121)] σ = (if 0 ≤ js_w z1 ∧ js_w z1 < 2 then js_J E d 270 891 [(2, 83), (0, x1), (0, x2), (0, x3), (0, x4), (1, x5), (9, 0), (1, x7), (9, 0), (0, x9), (1, x10), (9, 0), (9, 0)] [] (js_up σ 121 (js_w z1) z2) else none) :=
  (j_lastore q_270_384 js_o121).trans <| js_itp fun g0 => (j_goto (t := 891) q_270_385 rfl).trans <| rfl
theorem b_270_388 {E : js_E} {d : Nat} {σ : js_S} {x1 x2 x3 x4 x5 x7 x9 x10 : Int} : js_J E d 270 388 [(2, 83), (0, x1), (0, x2), (0, x3), (0, x4), (1, x5), (9, 0), (1, x7), (9, 0), (0, x9), (1, x10), (9, 0), (9, 0)] [] σ = (if js_l x7 = 0 then js_r E (0, 0) σ else (if js_w x1 = 1 then (if js_l x7 = 0 then none else js_J E d 270 424 [(2, 83), (0, x1), (0, x2), (0, x3), (0, x4), (1, x5), (9, 0), (1, x7), (9, 0), (0, x9), (1, x10), (9, 0), (9, 0)] [(1, 58659 * ((js_l x5).tdiv (js_l x7))), (0, x1), (2, 121)] σ) else (if js_l x7 = 0 then none else js_J E d 270 424 [(2, 83), (0, x1), (0, x2), (0, x3), (0, x4), (1, x5), (9, 0), (1, x7), (9, 0), (0, x9), (1, x10), (9, 0), (9, 0)] [(1, (js_l x5).tdiv (js_l x7)), (0, x1), (2, 121)] σ))) :=
  (j_lload q_270_388 rfl).trans <| (j_lconst0 q_270_390).trans <| (j_lneB (t := 397) q_270_391 q_270_392 rfl wl_0).trans (js_ite ((j_iconst q_270_395).trans <| j_breturn0 q_270_396 qr_270) ((j_aload_n q_270_397 rfl).trans <| (j_get (ji := 72) (v := (2, 121)) q_270_398 (js_Fo qy_270 qf_12_377) js_o83 rfl rfl rfl rfl).trans <| (j_iload_n q_270_401 rfl).trans <| (j_iload_n q_270_402 rfl).trans <| (j_iconst q_270_403).trans <| (j_cmpneB (t := 419) q_270_404 rfl ww_1).trans (js_ite ((j_ldc2 (v := (1, 58659)) q_270_407 (js_Co qy_270 qc_12_571)).trans <| (j_lload q_270_410 rfl).trans <| (j_lload q_270_412 rfl).trans <| (j_ldiv q_270_414).trans <| js_ite rfl <| (j_lmul q_270_415).trans <| (j_goto (t := 424) q_270_416 rfl).trans <| rfl) ((j_lload q_270_419 rfl).trans <| (j_lload q_270_421 rfl).trans <| (j_ldiv q_270_423).trans <| js_ite rfl <| rfl))))
theorem b_270_424 {E : js_E} {d : Nat} {σ : js_S} {x1 x2 x3 x4 x5 x7 x9 x10 z1 z2 : Int} : js_J E d 270 424 [(2, 83), (0, x1), (0, x2), (0, x3), (0, x4), (1, x5), (9, 0), (1, x7), (9, 0), (0, x9), (1, x10), (9, 0), (9, 0)] [(1, z2), (0, z1), (2, 121)] σ = (if 0 ≤ js_w z1 ∧ js_w z1 < 2 then js_J E d 270 891 [(2, 83), (0, x1), (0, x2), (0, x3), (0, x4), (1, x5), (9, 0), (1, x7), (9, 0), (0, x9), (1, x10), (9, 0), (9, 0)] [] (js_up σ 121 (js_w z1) z2) else none) :=
  (j_lastore q_270_424 js_o121).trans <| js_itp fun g0 => (j_goto (t := 891) q_270_425 rfl).trans <| rfl
theorem b_270_428 {E : js_E} {d : Nat} {σ : js_S} {x1 x2 x3 x4 x5 x7 x9 x10 : Int} : js_J E d 270 428 [(2, 83), (0, x1), (0, x2), (0, x3), (0, x4), (1, x5), (9, 0), (1, x7), (9, 0), (0, x9), (1, x10), (9, 0), (9, 0)] [] σ = (if js_l x7 = 0 then js_r E (0, 0) σ else (if js_l x7 = 0 then none else (if 0 ≤ js_w x1 ∧ js_w x1 < 2 then js_J E d 270 891 [(2, 83), (0, x1), (0, x2), (0, x3), (0, x4), (1, x5), (9, 0), (1, x7), (9, 0), (0, x9), (1, x10), (9, 0), (9, 0)] [] (js_up σ 121 (js_w x1) ((js_l x5).tmod (js_l x7))) else none))) :=
  (j_lload q_270_428 rfl).trans <| (j_lconst0 q_270_430).trans <| (j_lneB (t := 437) q_270_431 q_270_432 rfl wl_0).trans (js_ite ((j_iconst q_270_435).trans <| j_breturn0 q_270_436 qr_270) ((j_aload_n q_270_437 rfl).trans <| (j_get (ji := 72) (v := (2, 121)) q_270_438 (js_Fo qy_270 qf_12_377) js_o83 rfl rfl rfl rfl).trans <| (j_iload_n q_270_441 rfl).trans <| (j_lload q_270_442 rfl).trans <| (j_lload q_270_444 rfl).trans <| (j_lrem q_270_446).trans <| js_ite rfl <| (j_lastore q_270_447 js_o121).trans <| js_itp fun g0 => (j_goto (t := 891) q_270_448 rfl).trans <| rfl))
theorem b_270_451 {E : js_E} {d : Nat} {σ : js_S} {x1 x2 x3 x4 x5 x7 x9 x10 : Int} (hd : 4 ≤ d) : js_J E d 270 451 [(2, 83), (0, x1), (0, x2), (0, x3), (0, x4), (1, x5), (9, 0), (1, x7), (9, 0), (0, x9), (1, x10), (9, 0), (9, 0)] [] σ = (if 0 ≤ js_w x1 ∧ js_w x1 < 2 then js_J E d 270 891 [(2, 83), (0, x1), (0, x2), (0, x3), (0, x4), (1, x5), (9, 0), (1, x7), (9, 0), (0, x9), (1, x10), (9, 0), (9, 0)] [] (js_up σ 121 (js_w x1) (if js_l x7 < js_l x5 then x7 else x5)) else none) :=
  (j_aload_n q_270_451 rfl).trans <| (j_get (ji := 72) (v := (2, 121)) q_270_452 (js_Fo qy_270 qf_12_377) js_o83 rfl rfl rfl rfl).trans <| (j_iload_n q_270_455 rfl).trans <| (j_lload q_270_456 rfl).trans <| (j_lload q_270_458 rfl).trans <| (j_lmin (js_clS q_270_460 (js_Mo qy_270 qm_12_234)) (Nat.le_of_ble_eq_true rfl) hd).trans <| (j_lastore q_270_463 js_o121).trans <| js_itp fun g0 => (j_goto (t := 891) q_270_464 rfl).trans <| rfl
theorem b_270_467 {E : js_E} {d : Nat} {σ : js_S} {x1 x2 x3 x4 x5 x7 x9 x10 : Int} (hd : 4 ≤ d) : js_J E d 270 467 [(2, 83), (0, x1), (0, x2), (0, x3), (0, x4), (1, x5), (9, 0), (1, x7), (9, 0), (0, x9), (1, x10), (9, 0), (9, 0)] [] σ = (if 0 ≤ js_w x1 ∧ js_w x1 < 2 then js_J E d 270 891 [(2, 83), (0, x1), (0, x2), (0, x3), (0, x4), (1, x5), (9, 0), (1, x7), (9, 0), (0, x9), (1, x10), (9, 0), (9, 0)] [] (js_up σ 121 (js_w x1) (if js_l x7 < js_l x5 then x5 else x7)) else none) :=
  (j_aload_n q_270_467 rfl).trans <| (j_get (ji := 72) (v := (2, 121)) q_270_468 (js_Fo qy_270 qf_12_377) js_o83 rfl rfl rfl rfl).trans <| (j_iload_n q_270_471 rfl).trans <| (j_lload q_270_472 rfl).trans <| (j_lload q_270_474 rfl).trans <| (j_lmax (js_clS q_270_476 (js_Mo qy_270 qm_12_241)) (Nat.le_of_ble_eq_true rfl) hd).trans <| (j_lastore q_270_479 js_o121).trans <| js_itp fun g0 => (j_goto (t := 891) q_270_480 rfl).trans <| rfl
theorem b_270_483 {E : js_E} {d : Nat} {σ : js_S} {x1 x2 x3 x4 x5 x7 x9 x10 : Int} : js_J E d 270 483 [(2, 83), (0, x1), (0, x2), (0, x3), (0, x4), (1, x5), (9, 0), (1, x7), (9, 0), (0, x9), (1, x10), (9, 0), (9, 0)] [] σ = (if js_l x5 < js_l x7 then js_J E d 270 503 [(2, 83), (0, x1), (0, x2), (0, x3), (0, x4), (1, x5), (9, 0), (1, x7), (9, 0), (0, x9), (1, x10), (9, 0), (9, 0)] [(0, 1), (0, x1), (2, 83), (0, x1), (2, 121)] σ else js_J E d 270 503 [(2, 83), (0, x1), (0, x2), (0, x3), (0, x4), (1, x5), (9, 0), (1, x7), (9, 0), (0, x9), (1, x10), (9, 0), (9, 0)] [(0, 0), (0, x1), (2, 83), (0, x1), (2, 121)] σ) :=
  (j_aload_n q_270_483 rfl).trans <| (j_get (ji := 72) (v := (2, 121)) q_270_484 (js_Fo qy_270 qf_12_377) js_o83 rfl rfl rfl rfl).trans <| (j_iload_n q_270_487 rfl).trans <| (j_aload_n q_270_488 rfl).trans <| (j_iload_n q_270_489 rfl).trans <| (j_lload q_270_490 rfl).trans <| (j_lload q_270_492 rfl).trans <| (j_lge (t := 502) q_270_494 q_270_495 rfl).trans (js_ite ((j_iconst q_270_498).trans <| (j_goto (t := 503) q_270_499 rfl).trans <| rfl) ((j_iconst q_270_502).trans <| rfl))
theorem k_270_503 {E : js_E} {d : Nat} {σ σ2 : js_S} {x1 x2 x3 x4 x5 x7 x9 x10 z1 z3 z4 : Int} {v : Int} (hd : 1 ≤ d) (hz : js_J E (d - 1) 272 0 [(2, 83), (0, z3), (0, z4)] [] σ = js_r E (1, v) σ2) : js_J E d 270 503 [(2, 83), (0, x1), (0, x2), (0, x3), (0, x4), (1, x5), (9, 0), (1, x7), (9, 0), (0, x9), (1, x10), (9, 0), (9, 0)] [(0, z4), (0, z3), (2, 83), (0, z1), (2, 121)] σ = js_J E d 270 506 [(2, 83), (0, x1), (0, x2), (0, x3), (0, x4), (1, x5), (9, 0), (1, x7), (9, 0), (0, x9), (1, x10), (9, 0), (9, 0)] [(1, v), (0, z1), (2, 121)] σ2 :=
  j_call (m := 0) (js_caV q_270_503 (js_Mo qy_270 qm_12_607)) (js_agV (av := [(0, z3), (0, z4)]) (st := [(0, z1), (2, 121)]) rfl rfl js_o83 rfl) rfl rfl (by rw [ql_272]; exact Nat.le_of_ble_eq_true rfl) (Nat.le_of_ble_eq_true rfl) hd hz
theorem b_270_506 {E : js_E} {d : Nat} {σ : js_S} {x1 x2 x3 x4 x5 x7 x9 x10 z1 z2 : Int} : js_J E d 270 506 [(2, 83), (0, x1), (0, x2), (0, x3), (0, x4), (1, x5), (9, 0), (1, x7), (9, 0), (0, x9), (1, x10), (9, 0), (9, 0)] [(1, z2), (0, z1), (2, 121)] σ = (if 0 ≤ js_w z1 ∧ js_w z1 < 2 then js_J E d 270 891 [(2, 83), (0, x1), (0, x2), (0, x3), (0, x4), (1, x5), (9, 0), (1, x7), (9, 0), (0, x9), (1, x10), (9, 0), (9, 0)] [] (js_up σ 121 (js_w z1) z2) else none) :=
  (j_lastore q_270_506 js_o121).trans <| js_itp fun g0 => (j_goto (t := 891) q_270_507 rfl).trans <| rfl
theorem b_270_510 {E : js_E} {d : Nat} {σ : js_S} {x1 x2 x3 x4 x5 x7 x9 x10 : Int} : js_J E d 270 510 [(2, 83), (0, x1), (0, x2), (0, x3), (0, x4), (1, x5), (9, 0), (1, x7), (9, 0), (0, x9), (1, x10), (9, 0), (9, 0)] [] σ = (if js_l x7 < js_l x5 then js_J E d 270 530 [(2, 83), (0, x1), (0, x2), (0, x3), (0, x4), (1, x5), (9, 0), (1, x7), (9, 0), (0, x9), (1, x10), (9, 0), (9, 0)] [(0, 0), (0, x1), (2, 83), (0, x1), (2, 121)] σ else js_J E d 270 530 [(2, 83), (0, x1), (0, x2), (0, x3), (0, x4), (1, x5), (9, 0), (1, x7), (9, 0), (0, x9), (1, x10), (9, 0), (9, 0)] [(0, 1), (0, x1), (2, 83), (0, x1), (2, 121)] σ) :=
  (j_aload_n q_270_510 rfl).trans <| (j_get (ji := 72) (v := (2, 121)) q_270_511 (js_Fo qy_270 qf_12_377) js_o83 rfl rfl rfl rfl).trans <| (j_iload_n q_270_514 rfl).trans <| (j_aload_n q_270_515 rfl).trans <| (j_iload_n q_270_516 rfl).trans <| (j_lload q_270_517 rfl).trans <| (j_lload q_270_519 rfl).trans <| (j_lgt (t := 529) q_270_521 q_270_522 rfl).trans (js_ite ((j_iconst q_270_529).trans <| rfl) ((j_iconst q_270_525).trans <| (j_goto (t := 530) q_270_526 rfl).trans <| rfl))
theorem k_270_530 {E : js_E} {d : Nat} {σ σ2 : js_S} {x1 x2 x3 x4 x5 x7 x9 x10 z1 z3 z4 : Int} {v : Int} (hd : 1 ≤ d) (hz : js_J E (d - 1) 272 0 [(2, 83), (0, z3), (0, z4)] [] σ = js_r E (1, v) σ2) : js_J E d 270 530 [(2, 83), (0, x1), (0, x2), (0, x3), (0, x4), (1, x5), (9, 0), (1, x7), (9, 0), (0, x9), (1, x10), (9, 0), (9, 0)] [(0, z4), (0, z3), (2, 83), (0, z1), (2, 121)] σ = js_J E d 270 533 [(2, 83), (0, x1), (0, x2), (0, x3), (0, x4), (1, x5), (9, 0), (1, x7), (9, 0), (0, x9), (1, x10), (9, 0), (9, 0)] [(1, v), (0, z1), (2, 121)] σ2 :=
  j_call (m := 0) (js_caV q_270_530 (js_Mo qy_270 qm_12_607)) (js_agV (av := [(0, z3), (0, z4)]) (st := [(0, z1), (2, 121)]) rfl rfl js_o83 rfl) rfl rfl (by rw [ql_272]; exact Nat.le_of_ble_eq_true rfl) (Nat.le_of_ble_eq_true rfl) hd hz
theorem b_270_533 {E : js_E} {d : Nat} {σ : js_S} {x1 x2 x3 x4 x5 x7 x9 x10 z1 z2 : Int} : js_J E d 270 533 [(2, 83), (0, x1), (0, x2), (0, x3), (0, x4), (1, x5), (9, 0), (1, x7), (9, 0), (0, x9), (1, x10), (9, 0), (9, 0)] [(1, z2), (0, z1), (2, 121)] σ = (if 0 ≤ js_w z1 ∧ js_w z1 < 2 then js_J E d 270 891 [(2, 83), (0, x1), (0, x2), (0, x3), (0, x4), (1, x5), (9, 0), (1, x7), (9, 0), (0, x9), (1, x10), (9, 0), (9, 0)] [] (js_up σ 121 (js_w z1) z2) else none) :=
  (j_lastore q_270_533 js_o121).trans <| js_itp fun g0 => (j_goto (t := 891) q_270_534 rfl).trans <| rfl
theorem b_270_537 {E : js_E} {d : Nat} {σ : js_S} {x1 x2 x3 x4 x5 x7 x9 x10 : Int} : js_J E d 270 537 [(2, 83), (0, x1), (0, x2), (0, x3), (0, x4), (1, x5), (9, 0), (1, x7), (9, 0), (0, x9), (1, x10), (9, 0), (9, 0)] [] σ = (if js_l x7 < js_l x5 then js_J E d 270 557 [(2, 83), (0, x1), (0, x2), (0, x3), (0, x4), (1, x5), (9, 0), (1, x7), (9, 0), (0, x9), (1, x10), (9, 0), (9, 0)] [(0, 1), (0, x1), (2, 83), (0, x1), (2, 121)] σ else js_J E d 270 557 [(2, 83), (0, x1), (0, x2), (0, x3), (0, x4), (1, x5), (9, 0), (1, x7), (9, 0), (0, x9), (1, x10), (9, 0), (9, 0)] [(0, 0), (0, x1), (2, 83), (0, x1), (2, 121)] σ) :=
  (j_aload_n q_270_537 rfl).trans <| (j_get (ji := 72) (v := (2, 121)) q_270_538 (js_Fo qy_270 qf_12_377) js_o83 rfl rfl rfl rfl).trans <| (j_iload_n q_270_541 rfl).trans <| (j_aload_n q_270_542 rfl).trans <| (j_iload_n q_270_543 rfl).trans <| (j_lload q_270_544 rfl).trans <| (j_lload q_270_546 rfl).trans <| (j_lle (t := 556) q_270_548 q_270_549 rfl).trans (js_ite ((j_iconst q_270_552).trans <| (j_goto (t := 557) q_270_553 rfl).trans <| rfl) ((j_iconst q_270_556).trans <| rfl))
theorem k_270_557 {E : js_E} {d : Nat} {σ σ2 : js_S} {x1 x2 x3 x4 x5 x7 x9 x10 z1 z3 z4 : Int} {v : Int} (hd : 1 ≤ d) (hz : js_J E (d - 1) 272 0 [(2, 83), (0, z3), (0, z4)] [] σ = js_r E (1, v) σ2) : js_J E d 270 557 [(2, 83), (0, x1), (0, x2), (0, x3), (0, x4), (1, x5), (9, 0), (1, x7), (9, 0), (0, x9), (1, x10), (9, 0), (9, 0)] [(0, z4), (0, z3), (2, 83), (0, z1), (2, 121)] σ = js_J E d 270 560 [(2, 83), (0, x1), (0, x2), (0, x3), (0, x4), (1, x5), (9, 0), (1, x7), (9, 0), (0, x9), (1, x10), (9, 0), (9, 0)] [(1, v), (0, z1), (2, 121)] σ2 :=
  j_call (m := 0) (js_caV q_270_557 (js_Mo qy_270 qm_12_607)) (js_agV (av := [(0, z3), (0, z4)]) (st := [(0, z1), (2, 121)]) rfl rfl js_o83 rfl) rfl rfl (by rw [ql_272]; exact Nat.le_of_ble_eq_true rfl) (Nat.le_of_ble_eq_true rfl) hd hz
theorem b_270_560 {E : js_E} {d : Nat} {σ : js_S} {x1 x2 x3 x4 x5 x7 x9 x10 z1 z2 : Int} : js_J E d 270 560 [(2, 83), (0, x1), (0, x2), (0, x3), (0, x4), (1, x5), (9, 0), (1, x7), (9, 0), (0, x9), (1, x10), (9, 0), (9, 0)] [(1, z2), (0, z1), (2, 121)] σ = (if 0 ≤ js_w z1 ∧ js_w z1 < 2 then js_J E d 270 891 [(2, 83), (0, x1), (0, x2), (0, x3), (0, x4), (1, x5), (9, 0), (1, x7), (9, 0), (0, x9), (1, x10), (9, 0), (9, 0)] [] (js_up σ 121 (js_w z1) z2) else none) :=
  (j_lastore q_270_560 js_o121).trans <| js_itp fun g0 => (j_goto (t := 891) q_270_561 rfl).trans <| rfl
theorem b_270_564 {E : js_E} {d : Nat} {σ : js_S} {x1 x2 x3 x4 x5 x7 x9 x10 : Int} : js_J E d 270 564 [(2, 83), (0, x1), (0, x2), (0, x3), (0, x4), (1, x5), (9, 0), (1, x7), (9, 0), (0, x9), (1, x10), (9, 0), (9, 0)] [] σ = (if js_l x5 < js_l x7 then js_J E d 270 584 [(2, 83), (0, x1), (0, x2), (0, x3), (0, x4), (1, x5), (9, 0), (1, x7), (9, 0), (0, x9), (1, x10), (9, 0), (9, 0)] [(0, 0), (0, x1), (2, 83), (0, x1), (2, 121)] σ else js_J E d 270 584 [(2, 83), (0, x1), (0, x2), (0, x3), (0, x4), (1, x5), (9, 0), (1, x7), (9, 0), (0, x9), (1, x10), (9, 0), (9, 0)] [(0, 1), (0, x1), (2, 83), (0, x1), (2, 121)] σ) :=
  (j_aload_n q_270_564 rfl).trans <| (j_get (ji := 72) (v := (2, 121)) q_270_565 (js_Fo qy_270 qf_12_377) js_o83 rfl rfl rfl rfl).trans <| (j_iload_n q_270_568 rfl).trans <| (j_aload_n q_270_569 rfl).trans <| (j_iload_n q_270_570 rfl).trans <| (j_lload q_270_571 rfl).trans <| (j_lload q_270_573 rfl).trans <| (j_llt (t := 583) q_270_575 q_270_576 rfl).trans (js_ite ((j_iconst q_270_583).trans <| rfl) ((j_iconst q_270_579).trans <| (j_goto (t := 584) q_270_580 rfl).trans <| rfl))
theorem k_270_584 {E : js_E} {d : Nat} {σ σ2 : js_S} {x1 x2 x3 x4 x5 x7 x9 x10 z1 z3 z4 : Int} {v : Int} (hd : 1 ≤ d) (hz : js_J E (d - 1) 272 0 [(2, 83), (0, z3), (0, z4)] [] σ = js_r E (1, v) σ2) : js_J E d 270 584 [(2, 83), (0, x1), (0, x2), (0, x3), (0, x4), (1, x5), (9, 0), (1, x7), (9, 0), (0, x9), (1, x10), (9, 0), (9, 0)] [(0, z4), (0, z3), (2, 83), (0, z1), (2, 121)] σ = js_J E d 270 587 [(2, 83), (0, x1), (0, x2), (0, x3), (0, x4), (1, x5), (9, 0), (1, x7), (9, 0), (0, x9), (1, x10), (9, 0), (9, 0)] [(1, v), (0, z1), (2, 121)] σ2 :=
  j_call (m := 0) (js_caV q_270_584 (js_Mo qy_270 qm_12_607)) (js_agV (av := [(0, z3), (0, z4)]) (st := [(0, z1), (2, 121)]) rfl rfl js_o83 rfl) rfl rfl (by rw [ql_272]; exact Nat.le_of_ble_eq_true rfl) (Nat.le_of_ble_eq_true rfl) hd hz
theorem b_270_587 {E : js_E} {d : Nat} {σ : js_S} {x1 x2 x3 x4 x5 x7 x9 x10 z1 z2 : Int} : js_J E d 270 587 [(2, 83), (0, x1), (0, x2), (0, x3), (0, x4), (1, x5), (9, 0), (1, x7), (9, 0), (0, x9), (1, x10), (9, 0), (9, 0)] [(1, z2), (0, z1), (2, 121)] σ = (if 0 ≤ js_w z1 ∧ js_w z1 < 2 then js_J E d 270 891 [(2, 83), (0, x1), (0, x2), (0, x3), (0, x4), (1, x5), (9, 0), (1, x7), (9, 0), (0, x9), (1, x10), (9, 0), (9, 0)] [] (js_up σ 121 (js_w z1) z2) else none) :=
  (j_lastore q_270_587 js_o121).trans <| js_itp fun g0 => (j_goto (t := 891) q_270_588 rfl).trans <| rfl
theorem b_270_591 {E : js_E} {d : Nat} {σ : js_S} {x1 x2 x3 x4 x5 x7 x9 x10 : Int} : js_J E d 270 591 [(2, 83), (0, x1), (0, x2), (0, x3), (0, x4), (1, x5), (9, 0), (1, x7), (9, 0), (0, x9), (1, x10), (9, 0), (9, 0)] [] σ = (if js_l x5 = js_l x7 then js_J E d 270 611 [(2, 83), (0, x1), (0, x2), (0, x3), (0, x4), (1, x5), (9, 0), (1, x7), (9, 0), (0, x9), (1, x10), (9, 0), (9, 0)] [(0, 1), (0, x1), (2, 83), (0, x1), (2, 121)] σ else js_J E d 270 611 [(2, 83), (0, x1), (0, x2), (0, x3), (0, x4), (1, x5), (9, 0), (1, x7), (9, 0), (0, x9), (1, x10), (9, 0), (9, 0)] [(0, 0), (0, x1), (2, 83), (0, x1), (2, 121)] σ) :=
  (j_aload_n q_270_591 rfl).trans <| (j_get (ji := 72) (v := (2, 121)) q_270_592 (js_Fo qy_270 qf_12_377) js_o83 rfl rfl rfl rfl).trans <| (j_iload_n q_270_595 rfl).trans <| (j_aload_n q_270_596 rfl).trans <| (j_iload_n q_270_597 rfl).trans <| (j_lload q_270_598 rfl).trans <| (j_lload q_270_600 rfl).trans <| (j_lne (t := 610) q_270_602 q_270_603 rfl).trans (js_ite ((j_iconst q_270_606).trans <| (j_goto (t := 611) q_270_607 rfl).trans <| rfl) ((j_iconst q_270_610).trans <| rfl))
theorem k_270_611 {E : js_E} {d : Nat} {σ σ2 : js_S} {x1 x2 x3 x4 x5 x7 x9 x10 z1 z3 z4 : Int} {v : Int} (hd : 1 ≤ d) (hz : js_J E (d - 1) 272 0 [(2, 83), (0, z3), (0, z4)] [] σ = js_r E (1, v) σ2) : js_J E d 270 611 [(2, 83), (0, x1), (0, x2), (0, x3), (0, x4), (1, x5), (9, 0), (1, x7), (9, 0), (0, x9), (1, x10), (9, 0), (9, 0)] [(0, z4), (0, z3), (2, 83), (0, z1), (2, 121)] σ = js_J E d 270 614 [(2, 83), (0, x1), (0, x2), (0, x3), (0, x4), (1, x5), (9, 0), (1, x7), (9, 0), (0, x9), (1, x10), (9, 0), (9, 0)] [(1, v), (0, z1), (2, 121)] σ2 :=
  j_call (m := 0) (js_caV q_270_611 (js_Mo qy_270 qm_12_607)) (js_agV (av := [(0, z3), (0, z4)]) (st := [(0, z1), (2, 121)]) rfl rfl js_o83 rfl) rfl rfl (by rw [ql_272]; exact Nat.le_of_ble_eq_true rfl) (Nat.le_of_ble_eq_true rfl) hd hz
theorem b_270_614 {E : js_E} {d : Nat} {σ : js_S} {x1 x2 x3 x4 x5 x7 x9 x10 z1 z2 : Int} : js_J E d 270 614 [(2, 83), (0, x1), (0, x2), (0, x3), (0, x4), (1, x5), (9, 0), (1, x7), (9, 0), (0, x9), (1, x10), (9, 0), (9, 0)] [(1, z2), (0, z1), (2, 121)] σ = (if 0 ≤ js_w z1 ∧ js_w z1 < 2 then js_J E d 270 891 [(2, 83), (0, x1), (0, x2), (0, x3), (0, x4), (1, x5), (9, 0), (1, x7), (9, 0), (0, x9), (1, x10), (9, 0), (9, 0)] [] (js_up σ 121 (js_w z1) z2) else none) :=
  (j_lastore q_270_614 js_o121).trans <| js_itp fun g0 => (j_goto (t := 891) q_270_615 rfl).trans <| rfl
theorem b_270_618 {E : js_E} {d : Nat} {σ : js_S} {x1 x2 x3 x4 x5 x7 x9 x10 : Int} : js_J E d 270 618 [(2, 83), (0, x1), (0, x2), (0, x3), (0, x4), (1, x5), (9, 0), (1, x7), (9, 0), (0, x9), (1, x10), (9, 0), (9, 0)] [] σ = (if js_l x5 = js_l x7 then js_J E d 270 638 [(2, 83), (0, x1), (0, x2), (0, x3), (0, x4), (1, x5), (9, 0), (1, x7), (9, 0), (0, x9), (1, x10), (9, 0), (9, 0)] [(0, 0), (0, x1), (2, 83), (0, x1), (2, 121)] σ else js_J E d 270 638 [(2, 83), (0, x1), (0, x2), (0, x3), (0, x4), (1, x5), (9, 0), (1, x7), (9, 0), (0, x9), (1, x10), (9, 0), (9, 0)] [(0, 1), (0, x1), (2, 83), (0, x1), (2, 121)] σ) :=
  (j_aload_n q_270_618 rfl).trans <| (j_get (ji := 72) (v := (2, 121)) q_270_619 (js_Fo qy_270 qf_12_377) js_o83 rfl rfl rfl rfl).trans <| (j_iload_n q_270_622 rfl).trans <| (j_aload_n q_270_623 rfl).trans <| (j_iload_n q_270_624 rfl).trans <| (j_lload q_270_625 rfl).trans <| (j_lload q_270_627 rfl).trans <| (j_leq (t := 637) q_270_629 q_270_630 rfl).trans (js_ite ((j_iconst q_270_637).trans <| rfl) ((j_iconst q_270_633).trans <| (j_goto (t := 638) q_270_634 rfl).trans <| rfl))
theorem k_270_638 {E : js_E} {d : Nat} {σ σ2 : js_S} {x1 x2 x3 x4 x5 x7 x9 x10 z1 z3 z4 : Int} {v : Int} (hd : 1 ≤ d) (hz : js_J E (d - 1) 272 0 [(2, 83), (0, z3), (0, z4)] [] σ = js_r E (1, v) σ2) : js_J E d 270 638 [(2, 83), (0, x1), (0, x2), (0, x3), (0, x4), (1, x5), (9, 0), (1, x7), (9, 0), (0, x9), (1, x10), (9, 0), (9, 0)] [(0, z4), (0, z3), (2, 83), (0, z1), (2, 121)] σ = js_J E d 270 641 [(2, 83), (0, x1), (0, x2), (0, x3), (0, x4), (1, x5), (9, 0), (1, x7), (9, 0), (0, x9), (1, x10), (9, 0), (9, 0)] [(1, v), (0, z1), (2, 121)] σ2 :=
  j_call (m := 0) (js_caV q_270_638 (js_Mo qy_270 qm_12_607)) (js_agV (av := [(0, z3), (0, z4)]) (st := [(0, z1), (2, 121)]) rfl rfl js_o83 rfl) rfl rfl (by rw [ql_272]; exact Nat.le_of_ble_eq_true rfl) (Nat.le_of_ble_eq_true rfl) hd hz
theorem b_270_641 {E : js_E} {d : Nat} {σ : js_S} {x1 x2 x3 x4 x5 x7 x9 x10 z1 z2 : Int} : js_J E d 270 641 [(2, 83), (0, x1), (0, x2), (0, x3), (0, x4), (1, x5), (9, 0), (1, x7), (9, 0), (0, x9), (1, x10), (9, 0), (9, 0)] [(1, z2), (0, z1), (2, 121)] σ = (if 0 ≤ js_w z1 ∧ js_w z1 < 2 then js_J E d 270 891 [(2, 83), (0, x1), (0, x2), (0, x3), (0, x4), (1, x5), (9, 0), (1, x7), (9, 0), (0, x9), (1, x10), (9, 0), (9, 0)] [] (js_up σ 121 (js_w z1) z2) else none) :=
  (j_lastore q_270_641 js_o121).trans <| js_itp fun g0 => (j_goto (t := 891) q_270_642 rfl).trans <| rfl
theorem b_270_645 {E : js_E} {d : Nat} {σ : js_S} {x1 x2 x3 x4 x5 x7 x9 x10 : Int} : js_J E d 270 645 [(2, 83), (0, x1), (0, x2), (0, x3), (0, x4), (1, x5), (9, 0), (1, x7), (9, 0), (0, x9), (1, x10), (9, 0), (9, 0)] [] σ = (if 0 ≤ js_w x1 ∧ js_w x1 < 2 then js_J E d 270 891 [(2, 83), (0, x1), (0, x2), (0, x3), (0, x4), (1, x5), (9, 0), (1, x7), (9, 0), (0, x9), (1, x10), (9, 0), (9, 0)] [] (js_up σ 121 (js_w x1) (-x5)) else none) :=
  (j_aload_n q_270_645 rfl).trans <| (j_get (ji := 72) (v := (2, 121)) q_270_646 (js_Fo qy_270 qf_12_377) js_o83 rfl rfl rfl rfl).trans <| (j_iload_n q_270_649 rfl).trans <| (j_lload q_270_650 rfl).trans <| (j_lneg q_270_652).trans <| (j_lastore q_270_653 js_o121).trans <| js_itp fun g0 => (j_goto (t := 891) q_270_654 rfl).trans <| rfl
theorem b_270_657 {E : js_E} {d : Nat} {σ : js_S} {x1 x2 x3 x4 x5 x7 x9 x10 : Int} : js_J E d 270 657 [(2, 83), (0, x1), (0, x2), (0, x3), (0, x4), (1, x5), (9, 0), (1, x7), (9, 0), (0, x9), (1, x10), (9, 0), (9, 0)] [] σ = (if js_l x5 < 0 then js_J E d 270 677 [(2, 83), (0, x1), (0, x2), (0, x3), (0, x4), (1, x5), (9, 0), (1, x7), (9, 0), (0, x9), (1, x10), (9, 0), (9, 0)] [(1, -x5), (0, x1), (2, 121)] σ else js_J E d 270 677 [(2, 83), (0, x1), (0, x2), (0, x3), (0, x4), (1, x5), (9, 0), (1, x7), (9, 0), (0, x9), (1, x10), (9, 0), (9, 0)] [(1, x5), (0, x1), (2, 121)] σ) :=
  (j_aload_n q_270_657 rfl).trans <| (j_get (ji := 72) (v := (2, 121)) q_270_658 (js_Fo qy_270 qf_12_377) js_o83 rfl rfl rfl rfl).trans <| (j_iload_n q_270_661 rfl).trans <| (j_lload q_270_662 rfl).trans <| (j_lconst0 q_270_664).trans <| (j_lgeB (t := 675) q_270_665 q_270_666 rfl wl_0).trans (js_ite ((j_lload q_270_669 rfl).trans <| (j_lneg q_270_671).trans <| (j_goto (t := 677) q_270_672 rfl).trans <| rfl) ((j_lload q_270_675 rfl).trans <| rfl))
theorem b_270_677 {E : js_E} {d : Nat} {σ : js_S} {x1 x2 x3 x4 x5 x7 x9 x10 z1 z2 : Int} : js_J E d 270 677 [(2, 83), (0, x1), (0, x2), (0, x3), (0, x4), (1, x5), (9, 0), (1, x7), (9, 0), (0, x9), (1, x10), (9, 0), (9, 0)] [(1, z2), (0, z1), (2, 121)] σ = (if 0 ≤ js_w z1 ∧ js_w z1 < 2 then js_J E d 270 891 [(2, 83), (0, x1), (0, x2), (0, x3), (0, x4), (1, x5), (9, 0), (1, x7), (9, 0), (0, x9), (1, x10), (9, 0), (9, 0)] [] (js_up σ 121 (js_w z1) z2) else none) :=
  (j_lastore q_270_677 js_o121).trans <| js_itp fun g0 => (j_goto (t := 891) q_270_678 rfl).trans <| rfl
theorem b_270_681 {E : js_E} {d : Nat} {σ : js_S} {x1 x2 x3 x4 x5 x7 x9 x10 : Int} : js_J E d 270 681 [(2, 83), (0, x1), (0, x2), (0, x3), (0, x4), (1, x5), (9, 0), (1, x7), (9, 0), (0, x9), (1, x10), (9, 0), (9, 0)] [] σ = (if js_l x5 = 0 then js_J E d 270 700 [(2, 83), (0, x1), (0, x2), (0, x3), (0, x4), (1, x5), (9, 0), (1, x7), (9, 0), (0, x9), (1, x10), (9, 0), (9, 0)] [(0, 1), (0, x1), (2, 83), (0, x1), (2, 121)] σ else js_J E d 270 700 [(2, 83), (0, x1), (0, x2), (0, x3), (0, x4), (1, x5), (9, 0), (1, x7), (9, 0), (0, x9), (1, x10), (9, 0), (9, 0)] [(0, 0), (0, x1), (2, 83), (0, x1), (2, 121)] σ) :=
  (j_aload_n q_270_681 rfl).trans <| (j_get (ji := 72) (v := (2, 121)) q_270_682 (js_Fo qy_270 qf_12_377) js_o83 rfl rfl rfl rfl).trans <| (j_iload_n q_270_685 rfl).trans <| (j_aload_n q_270_686 rfl).trans <| (j_iload_n q_270_687 rfl).trans <| (j_lload q_270_688 rfl).trans <| (j_lconst0 q_270_690).trans <| (j_lneB (t := 699) q_270_691 q_270_692 rfl wl_0).trans (js_ite ((j_iconst q_270_695).trans <| (j_goto (t := 700) q_270_696 rfl).trans <| rfl) ((j_iconst q_270_699).trans <| rfl))
theorem k_270_700 {E : js_E} {d : Nat} {σ σ2 : js_S} {x1 x2 x3 x4 x5 x7 x9 x10 z1 z3 z4 : Int} {v : Int} (hd : 1 ≤ d) (hz : js_J E (d - 1) 272 0 [(2, 83), (0, z3), (0, z4)] [] σ = js_r E (1, v) σ2) : js_J E d 270 700 [(2, 83), (0, x1), (0, x2), (0, x3), (0, x4), (1, x5), (9, 0), (1, x7), (9, 0), (0, x9), (1, x10), (9, 0), (9, 0)] [(0, z4), (0, z3), (2, 83), (0, z1), (2, 121)] σ = js_J E d 270 703 [(2, 83), (0, x1), (0, x2), (0, x3), (0, x4), (1, x5), (9, 0), (1, x7), (9, 0), (0, x9), (1, x10), (9, 0), (9, 0)] [(1, v), (0, z1), (2, 121)] σ2 :=
  j_call (m := 0) (js_caV q_270_700 (js_Mo qy_270 qm_12_607)) (js_agV (av := [(0, z3), (0, z4)]) (st := [(0, z1), (2, 121)]) rfl rfl js_o83 rfl) rfl rfl (by rw [ql_272]; exact Nat.le_of_ble_eq_true rfl) (Nat.le_of_ble_eq_true rfl) hd hz
theorem b_270_703 {E : js_E} {d : Nat} {σ : js_S} {x1 x2 x3 x4 x5 x7 x9 x10 z1 z2 : Int} : js_J E d 270 703 [(2, 83), (0, x1), (0, x2), (0, x3), (0, x4), (1, x5), (9, 0), (1, x7), (9, 0), (0, x9), (1, x10), (9, 0), (9, 0)] [(1, z2), (0, z1), (2, 121)] σ = (if 0 ≤ js_w z1 ∧ js_w z1 < 2 then js_J E d 270 891 [(2, 83), (0, x1), (0, x2), (0, x3), (0, x4), (1, x5), (9, 0), (1, x7), (9, 0), (0, x9), (1, x10), (9, 0), (9, 0)] [] (js_up σ 121 (js_w z1) z2) else none) :=
  (j_lastore q_270_703 js_o121).trans <| js_itp fun g0 => (j_goto (t := 891) q_270_704 rfl).trans <| rfl
theorem b_270_707 {E : js_E} {d : Nat} {σ : js_S} {x1 x2 x3 x4 x5 x7 x9 x10 : Int} : js_J E d 270 707 [(2, 83), (0, x1), (0, x2), (0, x3), (0, x4), (1, x5), (9, 0), (1, x7), (9, 0), (0, x9), (1, x10), (9, 0), (9, 0)] [] σ = (if js_l x5 < js_l x10 then js_J E d 270 727 [(2, 83), (0, x1), (0, x2), (0, x3), (0, x4), (1, x5), (9, 0), (1, x7), (9, 0), (0, x9), (1, x10), (9, 0), (9, 0)] [(1, x10), (0, x1), (2, 121)] σ else js_J E d 270 727 [(2, 83), (0, x1), (0, x2), (0, x3), (0, x4), (1, x5), (9, 0), (1, x7), (9, 0), (0, x9), (1, x10), (9, 0), (9, 0)] [(1, x5), (0, x1), (2, 121)] σ) :=
  (j_aload_n q_270_707 rfl).trans <| (j_get (ji := 72) (v := (2, 121)) q_270_708 (js_Fo qy_270 qf_12_377) js_o83 rfl rfl rfl rfl).trans <| (j_iload_n q_270_711 rfl).trans <| (j_lload q_270_712 rfl).trans <| (j_lload q_270_714 rfl).trans <| (j_lge (t := 725) q_270_716 q_270_717 rfl).trans (js_ite ((j_lload q_270_720 rfl).trans <| (j_goto (t := 727) q_270_722 rfl).trans <| rfl) ((j_lload q_270_725 rfl).trans <| rfl))
theorem b_270_727 {E : js_E} {d : Nat} {σ : js_S} {x1 x2 x3 x4 x5 x7 x9 x10 z1 z2 : Int} : js_J E d 270 727 [(2, 83), (0, x1), (0, x2), (0, x3), (0, x4), (1, x5), (9, 0), (1, x7), (9, 0), (0, x9), (1, x10), (9, 0), (9, 0)] [(1, z2), (0, z1), (2, 121)] σ = (if 0 ≤ js_w z1 ∧ js_w z1 < 2 then js_J E d 270 891 [(2, 83), (0, x1), (0, x2), (0, x3), (0, x4), (1, x5), (9, 0), (1, x7), (9, 0), (0, x9), (1, x10), (9, 0), (9, 0)] [] (js_up σ 121 (js_w z1) z2) else none) :=
  (j_lastore q_270_727 js_o121).trans <| js_itp fun g0 => (j_goto (t := 891) q_270_728 rfl).trans <| rfl
theorem b_270_731 {E : js_E} {d : Nat} {σ : js_S} {x1 x2 x3 x4 x5 x7 x9 x10 : Int} : js_J E d 270 731 [(2, 83), (0, x1), (0, x2), (0, x3), (0, x4), (1, x5), (9, 0), (1, x7), (9, 0), (0, x9), (1, x10), (9, 0), (9, 0)] [] σ = (if js_l x10 < js_l x5 then js_J E d 270 751 [(2, 83), (0, x1), (0, x2), (0, x3), (0, x4), (1, x5), (9, 0), (1, x7), (9, 0), (0, x9), (1, x10), (9, 0), (9, 0)] [(1, x10), (0, x1), (2, 121)] σ else js_J E d 270 751 [(2, 83), (0, x1), (0, x2), (0, x3), (0, x4), (1, x5), (9, 0), (1, x7), (9, 0), (0, x9), (1, x10), (9, 0), (9, 0)] [(1, x5), (0, x1), (2, 121)] σ) :=
  (j_aload_n q_270_731 rfl).trans <| (j_get (ji := 72) (v := (2, 121)) q_270_732 (js_Fo qy_270 qf_12_377) js_o83 rfl rfl rfl rfl).trans <| (j_iload_n q_270_735 rfl).trans <| (j_lload q_270_736 rfl).trans <| (j_lload q_270_738 rfl).trans <| (j_lle (t := 749) q_270_740 q_270_741 rfl).trans (js_ite ((j_lload q_270_744 rfl).trans <| (j_goto (t := 751) q_270_746 rfl).trans <| rfl) ((j_lload q_270_749 rfl).trans <| rfl))
theorem b_270_751 {E : js_E} {d : Nat} {σ : js_S} {x1 x2 x3 x4 x5 x7 x9 x10 z1 z2 : Int} : js_J E d 270 751 [(2, 83), (0, x1), (0, x2), (0, x3), (0, x4), (1, x5), (9, 0), (1, x7), (9, 0), (0, x9), (1, x10), (9, 0), (9, 0)] [(1, z2), (0, z1), (2, 121)] σ = (if 0 ≤ js_w z1 ∧ js_w z1 < 2 then js_J E d 270 891 [(2, 83), (0, x1), (0, x2), (0, x3), (0, x4), (1, x5), (9, 0), (1, x7), (9, 0), (0, x9), (1, x10), (9, 0), (9, 0)] [] (js_up σ 121 (js_w z1) z2) else none) :=
  (j_lastore q_270_751 js_o121).trans <| js_itp fun g0 => (j_goto (t := 891) q_270_752 rfl).trans <| rfl
theorem b_270_755 {E : js_E} {d : Nat} {σ : js_S} {x1 x2 x3 x4 x5 x7 x9 x10 : Int} : js_J E d 270 755 [(2, 83), (0, x1), (0, x2), (0, x3), (0, x4), (1, x5), (9, 0), (1, x7), (9, 0), (0, x9), (1, x10), (9, 0), (9, 0)] [] σ = js_J E d 270 891 [(2, 83), (0, x1), (0, x2), (0, x3), (0, x4), (1, x5), (9, 0), (1, x7), (9, 0), (0, x9), (1, x10), (9, 0), (9, 0)] [] (js_up σ 83 78 x3) :=
  (j_aload_n q_270_755 rfl).trans <| (j_iload_n q_270_756 rfl).trans <| (j_putI (ji := 78) q_270_757 (js_Fo qy_270 qf_12_576) rfl js_o83 rfl rfl rfl).trans <| (j_goto (t := 891) q_270_760 rfl).trans <| rfl
theorem b_270_763 {E : js_E} {d : Nat} {σ : js_S} {x1 x2 x3 x4 x5 x7 x9 x10 : Int} : js_J E d 270 763 [(2, 83), (0, x1), (0, x2), (0, x3), (0, x4), (1, x5), (9, 0), (1, x7), (9, 0), (0, x9), (1, x10), (9, 0), (9, 0)] [] σ = (if js_l x5 = 0 then js_J E d 270 779 [(2, 83), (0, x1), (0, x2), (0, x3), (0, x4), (1, x5), (9, 0), (1, x7), (9, 0), (0, x9), (1, x10), (9, 0), (9, 0)] [(0, x3), (2, 83)] σ else js_J E d 270 779 [(2, 83), (0, x1), (0, x2), (0, x3), (0, x4), (1, x5), (9, 0), (1, x7), (9, 0), (0, x9), (1, x10), (9, 0), (9, 0)] [(0, σ 83 78), (2, 83)] σ) :=
  (j_aload_n q_270_763 rfl).trans <| (j_lload q_270_764 rfl).trans <| (j_lconst0 q_270_766).trans <| (j_lneB (t := 775) q_270_767 q_270_768 rfl wl_0).trans (js_ite ((j_iload_n q_270_771 rfl).trans <| (j_goto (t := 779) q_270_772 rfl).trans <| rfl) ((j_aload_n q_270_775 rfl).trans <| (j_get (ji := 78) (v := (0, σ 83 78)) q_270_776 (js_Fo qy_270 qf_12_576) js_o83 rfl rfl rfl rfl).trans <| rfl))
theorem b_270_779 {E : js_E} {d : Nat} {σ : js_S} {x1 x2 x3 x4 x5 x7 x9 x10 z1 : Int} : js_J E d 270 779 [(2, 83), (0, x1), (0, x2), (0, x3), (0, x4), (1, x5), (9, 0), (1, x7), (9, 0), (0, x9), (1, x10), (9, 0), (9, 0)] [(0, z1), (2, 83)] σ = js_J E d 270 891 [(2, 83), (0, x1), (0, x2), (0, x3), (0, x4), (1, x5), (9, 0), (1, x7), (9, 0), (0, x9), (1, x10), (9, 0), (9, 0)] [] (js_up σ 83 78 z1) :=
  (j_putI (ji := 78) q_270_779 (js_Fo qy_270 qf_12_576) rfl js_o83 rfl rfl rfl).trans <| (j_goto (t := 891) q_270_782 rfl).trans <| rfl
theorem b_270_785 {E : js_E} {d : Nat} {σ : js_S} {x1 x2 x3 x4 x5 x7 x9 x10 : Int} : js_J E d 270 785 [(2, 83), (0, x1), (0, x2), (0, x3), (0, x4), (1, x5), (9, 0), (1, x7), (9, 0), (0, x9), (1, x10), (9, 0), (9, 0)] [] σ = (if js_l x5 = 0 then js_J E d 270 801 [(2, 83), (0, x1), (0, x2), (0, x3), (0, x4), (1, x5), (9, 0), (1, x7), (9, 0), (0, x9), (1, x10), (9, 0), (9, 0)] [(0, σ 83 78), (2, 83)] σ else js_J E d 270 801 [(2, 83), (0, x1), (0, x2), (0, x3), (0, x4), (1, x5), (9, 0), (1, x7), (9, 0), (0, x9), (1, x10), (9, 0), (9, 0)] [(0, x3), (2, 83)] σ) :=
  (j_aload_n q_270_785 rfl).trans <| (j_lload q_270_786 rfl).trans <| (j_lconst0 q_270_788).trans <| (j_leqB (t := 797) q_270_789 q_270_790 rfl wl_0).trans (js_ite ((j_aload_n q_270_797 rfl).trans <| (j_get (ji := 78) (v := (0, σ 83 78)) q_270_798 (js_Fo qy_270 qf_12_576) js_o83 rfl rfl rfl rfl).trans <| rfl) ((j_iload_n q_270_793 rfl).trans <| (j_goto (t := 801) q_270_794 rfl).trans <| rfl))
theorem b_270_801 {E : js_E} {d : Nat} {σ : js_S} {x1 x2 x3 x4 x5 x7 x9 x10 z1 : Int} : js_J E d 270 801 [(2, 83), (0, x1), (0, x2), (0, x3), (0, x4), (1, x5), (9, 0), (1, x7), (9, 0), (0, x9), (1, x10), (9, 0), (9, 0)] [(0, z1), (2, 83)] σ = js_J E d 270 891 [(2, 83), (0, x1), (0, x2), (0, x3), (0, x4), (1, x5), (9, 0), (1, x7), (9, 0), (0, x9), (1, x10), (9, 0), (9, 0)] [] (js_up σ 83 78 z1) :=
  (j_putI (ji := 78) q_270_801 (js_Fo qy_270 qf_12_576) rfl js_o83 rfl rfl rfl).trans <| (j_goto (t := 891) q_270_804 rfl).trans <| rfl
theorem b_270_807 {E : js_E} {d : Nat} {σ : js_S} {x1 x2 x3 x4 x5 x7 x9 x10 : Int} : js_J E d 270 807 [(2, 83), (0, x1), (0, x2), (0, x3), (0, x4), (1, x5), (9, 0), (1, x7), (9, 0), (0, x9), (1, x10), (9, 0), (9, 0)] [] σ = (if 0 ≤ js_w x1 ∧ js_w x1 < 2 then (if 0 ≤ js_w ((32 * x1) + (σ 124 (js_w x1))) ∧ js_w ((32 * x1) + (σ 124 (js_w x1))) < 64 then js_J E d 270 891 [(2, 83), (0, x1), (0, x2), (0, x3), (0, x4), (1, x5), (9, 0), (1, x7), (9, 0), (0, x9), (1, x10), (9, 0), (9, 0)] [] (js_up (js_up (js_up σ 123 (js_w ((32 * x1) + (σ 124 (js_w x1)))) (σ 83 78)) 124 (js_w x1) ((σ 124 (js_w x1)) + 1)) 83 78 x3) else none) else none) :=
  (j_aload_n q_270_807 rfl).trans <| (j_get (ji := 74) (v := (2, 123)) q_270_808 (js_Fo qy_270 qf_12_383) js_o83 rfl rfl rfl rfl).trans <| (j_bi q_270_811 rfl).trans <| (j_iload_n q_270_813 rfl).trans <| (j_imul q_270_814).trans <| (j_aload_n q_270_815 rfl).trans <| (j_get (ji := 75) (v := (2, 124)) q_270_816 (js_Fo qy_270 qf_12_386) js_o83 rfl rfl rfl rfl).trans <| (j_iload_n q_270_819 rfl).trans <| (j_iaload q_270_820 js_o124).trans <| js_itp fun g0 => (j_iadd q_270_821).trans <| (j_aload_n q_270_822 rfl).trans <| (j_get (ji := 78) (v := (0, σ 83 78)) q_270_823 (js_Fo qy_270 qf_12_576) js_o83 rfl rfl rfl rfl).trans <| (j_iastore q_270_826 js_o123).trans <| js_itp fun g1 => (j_aload_n q_270_827 rfl).trans <| (j_get (ji := 75) (v := (2, 124)) q_270_828 (js_Fo qy_270 qf_12_386) js_o83 rfl rfl rfl rfl).trans <| (j_iload_n q_270_831 rfl).trans <| (j_dup2 q_270_832).trans <| (j_ialoadv q_270_833 js_o124 ((js_up_na _ (by decide)))).trans <| (if_pos g0).trans <| (j_iconst q_270_834).trans <| (j_iadd q_270_835).trans <| (j_iastore q_270_836 js_o124).trans <| (if_pos g0).trans <| (j_aload_n q_270_837 rfl).trans <| (j_iload_n q_270_838 rfl).trans <| (j_putI (ji := 78) q_270_839 (js_Fo qy_270 qf_12_576) rfl js_o83 rfl rfl rfl).trans <| (j_goto (t := 891) q_270_842 rfl).trans <| rfl
theorem b_270_845 {E : js_E} {d : Nat} {σ : js_S} {x1 x2 x3 x4 x5 x7 x9 x10 : Int} : js_J E d 270 845 [(2, 83), (0, x1), (0, x2), (0, x3), (0, x4), (1, x5), (9, 0), (1, x7), (9, 0), (0, x9), (1, x10), (9, 0), (9, 0)] [] σ = (if 0 ≤ js_w x1 ∧ js_w x1 < 2 then (if 0 ≤ js_w ((32 * x1) + ((σ 124 (js_w x1)) - 1)) ∧ js_w ((32 * x1) + ((σ 124 (js_w x1)) - 1)) < 64 then js_J E d 270 891 [(2, 83), (0, x1), (0, x2), (0, x3), (0, x4), (1, x5), (9, 0), (1, x7), (9, 0), (0, x9), (1, x10), (9, 0), (9, 0)] [] (js_up (js_up σ 124 (js_w x1) ((σ 124 (js_w x1)) - 1)) 83 78 (σ 123 (js_w ((32 * x1) + ((σ 124 (js_w x1)) - 1))))) else none) else none) :=
  (j_aload_n q_270_845 rfl).trans <| (j_get (ji := 75) (v := (2, 124)) q_270_846 (js_Fo qy_270 qf_12_386) js_o83 rfl rfl rfl rfl).trans <| (j_iload_n q_270_849 rfl).trans <| (j_dup2 q_270_850).trans <| (j_iaload q_270_851 js_o124).trans <| js_itp fun g0 => (j_iconst q_270_852).trans <| (j_isub q_270_853).trans <| (j_iastore q_270_854 js_o124).trans <| (if_pos g0).trans <| (j_aload_n q_270_855 rfl).trans <| (j_aload_n q_270_856 rfl).trans <| (j_get (ji := 74) (v := (2, 123)) q_270_857 (js_Fo qy_270 qf_12_383) js_o83 rfl rfl rfl rfl).trans <| (j_bi q_270_860 rfl).trans <| (j_iload_n q_270_862 rfl).trans <| (j_imul q_270_863).trans <| (j_aload_n q_270_864 rfl).trans <| (j_get (ji := 75) (v := (2, 124)) q_270_865 (js_Fo qy_270 qf_12_386) js_o83 rfl rfl rfl rfl).trans <| (j_iload_n q_270_868 rfl).trans <| (j_ialoadv q_270_869 js_o124 ((js_up_same _ _ _ _))).trans <| (if_pos g0).trans <| (j_iadd q_270_870).trans <| (j_ialoadv q_270_871 js_o123 ((js_up_na _ (by decide)))).trans <| js_itp fun g1 => (j_putI (ji := 78) q_270_872 (js_Fo qy_270 qf_12_576) rfl js_o83 rfl rfl rfl).trans <| (j_goto (t := 891) q_270_875 rfl).trans <| rfl
theorem b_270_878 {E : js_E} {d : Nat} {σ : js_S} {x1 x2 x3 x4 x5 x7 x9 x10 : Int} : js_J E d 270 878 [(2, 83), (0, x1), (0, x2), (0, x3), (0, x4), (1, x5), (9, 0), (1, x7), (9, 0), (0, x9), (1, x10), (9, 0), (9, 0)] [] σ = (if js_l x5 = 0 then js_r E (0, 0) σ else js_r E (0, 1) σ) :=
  (j_lload q_270_878 rfl).trans <| (j_lconst0 q_270_880).trans <| (j_leqB (t := 889) q_270_881 q_270_882 rfl wl_0).trans (js_ite ((j_iconst q_270_889).trans <| j_breturn0 q_270_890 qr_270) ((j_iconst q_270_885).trans <| (j_goto (t := 890) q_270_886 rfl).trans <| j_breturn1 q_270_890 qr_270))
theorem b_270_891 {E : js_E} {d : Nat} {σ : js_S} {x1 x2 x3 x4 x5 x7 x9 x10 : Int} {ux12 : js_v} : js_J E d 270 891 [(2, 83), (0, x1), (0, x2), (0, x3), (0, x4), (1, x5), (9, 0), (1, x7), (9, 0), (0, x9), (1, x10), (9, 0), ux12] [] σ = js_r E (0, 1) σ :=
  (j_iconst q_270_891).trans <| j_breturn1 q_270_892 qr_270
-- 271: VitalTwinModel.indexOf (IJI)I
theorem b_271_0 {E : js_E} {d : Nat} {σ : js_S} {x1 x2 x4 : Int} : js_J E d 271 0 [(2, 83), (0, x1), (1, x2), (9, 0), (0, x4), (9, 0), (9, 0)] [] σ = (if js_w x1 = 1 then (if js_l ((js_l x2).tmod 58659) = 0 then js_J E d 271 17 [(2, 83), (0, x1), (1, x2), (9, 0), (0, x4), (9, 0), (9, 0)] [] σ else js_r E (0, (-1)) σ) else js_J E d 271 17 [(2, 83), (0, x1), (1, x2), (9, 0), (0, x4), (9, 0), (9, 0)] [] σ) :=
  (j_iload_n q_271_0 rfl).trans <| (j_iconst q_271_1).trans <| (j_cmpneB (t := 17) q_271_2 rfl ww_1).trans (js_ite ((j_lload_n q_271_5 rfl).trans <| (j_ldc2 (v := (1, 58659)) q_271_6 (js_Co qy_271 qc_12_571)).trans <| (j_lremk q_271_9 wl_58659 (by decide)).trans <| (j_lconst0 q_271_10).trans <| (j_leqB (t := 17) q_271_11 q_271_12 rfl wl_0).trans (js_ite (rfl) ((j_iconst q_271_15).trans <| j_ireturn q_271_16 qr_271))) (rfl))
theorem b_271_17 {E : js_E} {d : Nat} {σ : js_S} {x1 x2 x4 : Int} : js_J E d 271 17 [(2, 83), (0, x1), (1, x2), (9, 0), (0, x4), (9, 0), (9, 0)] [] σ = (if js_w x1 = 1 then js_J E d 271 31 [(2, 83), (0, x1), (1, x2), (9, 0), (0, x4), (9, 0), (9, 0)] [(1, (js_l x2).tdiv 58659)] σ else js_J E d 271 31 [(2, 83), (0, x1), (1, x2), (9, 0), (0, x4), (9, 0), (9, 0)] [(1, x2)] σ) :=
  (j_iload_n q_271_17 rfl).trans <| (j_iconst q_271_18).trans <| (j_cmpneB (t := 30) q_271_19 rfl ww_1).trans (js_ite ((j_lload_n q_271_22 rfl).trans <| (j_ldc2 (v := (1, 58659)) q_271_23 (js_Co qy_271 qc_12_571)).trans <| (j_ldivk q_271_26 wl_58659 (by decide)).trans <| (j_goto (t := 31) q_271_27 rfl).trans <| rfl) ((j_lload_n q_271_30 rfl).trans <| rfl))
theorem b_271_31 {E : js_E} {d : Nat} {σ : js_S} {x1 x2 x4 z0 : Int} : js_J E d 271 31 [(2, 83), (0, x1), (1, x2), (9, 0), (0, x4), (9, 0), (9, 0)] [(1, z0)] σ = (if js_l z0 < 0 then js_r E (0, (-1)) σ else (if js_l z0 < js_l (js_w x4) then js_r E (0, z0) σ else js_r E (0, (-1)) σ)) :=
  (j_lstore (l2 := [(2, 83), (0, x1), (1, x2), (9, 0), (0, x4), (1, z0), (9, 0)]) q_271_31 rfl (Nat.le_of_ble_eq_true rfl)).trans <| (j_lload q_271_33 rfl).trans <| (j_lconst0 q_271_35).trans <| (j_lltB (t := 49) q_271_36 q_271_37 rfl wl_0).trans (js_ite ((j_iconst q_271_49).trans <| (j_goto (t := 56) q_271_50 rfl).trans <| j_ireturn q_271_56 qr_271) ((j_lload q_271_40 rfl).trans <| (j_iload q_271_42 rfl).trans <| (j_i2l q_271_44).trans <| (j_llt (t := 53) q_271_45 q_271_46 rfl).trans (js_ite ((j_lload q_271_53 rfl).trans <| (j_l2i q_271_55).trans <| j_ireturn q_271_56 qr_271) ((j_iconst q_271_49).trans <| (j_goto (t := 56) q_271_50 rfl).trans <| j_ireturn q_271_56 qr_271))))
-- 272: VitalTwinModel.truth (IZ)J
theorem b_272_0 {E : js_E} {d : Nat} {σ : js_S} {x1 x2 : Int} : js_J E d 272 0 [(2, 83), (0, x1), (0, x2)] [] σ = (if js_w x2 = 0 then js_r E (1, 0) σ else (if js_w x1 = 0 then js_r E (1, 1) σ else js_r E (1, 58659) σ)) :=
  (j_iload_n q_272_0 rfl).trans <| (j_ifne (t := 8) q_272_1 rfl).trans (js_ite ((j_lconst0 q_272_4).trans <| (j_goto (t := 19) q_272_5 rfl).trans <| j_lreturn q_272_19 qr_272) ((j_iload_n q_272_8 rfl).trans <| (j_ifne (t := 16) q_272_9 rfl).trans (js_ite ((j_lconst1 q_272_12).trans <| (j_goto (t := 19) q_272_13 rfl).trans <| j_lreturn q_272_19 qr_272) ((j_ldc2 (v := (1, 58659)) q_272_16 (js_Co qy_272 qc_12_571)).trans <| j_lreturn q_272_19 qr_272))))
-- 273: VitalTwinModel.latch (I)V
theorem b_273_0 {E : js_E} {d : Nat} {σ : js_S} {x1 : Int} : js_J E d 273 0 [(2, 83), (0, x1)] [] σ = js_J E d 273 6 [(2, 83), (0, x1)] [(2, 83)] (js_up σ 83 81 x1) :=
  (j_aload_n q_273_0 rfl).trans <| (j_iload_n q_273_1 rfl).trans <| (j_putI (ji := 81) q_273_2 (js_Fo qy_273 qf_12_585) rfl js_o83 rfl rfl rfl).trans <| (j_aload_n q_273_5 rfl).trans <| rfl
theorem k_273_6 {E : js_E} {d : Nat} {σ σ2 : js_S} {x1 : Int} (hd : 1 ≤ d) (hz : js_J E (d - 1) 274 0 [(2, 83)] [] σ = js_r0 E σ2) : js_J E d 273 6 [(2, 83), (0, x1)] [(2, 83)] σ = js_J E d 273 9 [(2, 83), (0, x1)] [] σ2 :=
  j_call0 (m := 0) (js_caV q_273_6 (js_Mo qy_273 qm_12_597)) (js_agV (av := []) (st := []) rfl rfl js_o83 rfl) rfl rfl (by rw [ql_274]; exact Nat.le_of_ble_eq_true rfl) (Nat.le_of_ble_eq_true rfl) hd hz
theorem b_273_9 {E : js_E} {d : Nat} {σ : js_S} {x1 : Int} : js_J E d 273 9 [(2, 83), (0, x1)] [] σ = js_r0 E σ :=
  j_return q_273_9 qr_273
-- 274: VitalTwinModel.through ()V
theorem b_274_0 {E : js_E} {d : Nat} {σ : js_S} : js_J E d 274 0 [(2, 83)] [] σ = js_r0 E (js_up (js_up (js_up (js_up (js_up (js_up σ 83 77 0) 83 79 0) 83 80 0) 83 85 0) 124 0 0) 124 1 0) :=
  (j_aload_n q_274_0 rfl).trans <| (j_iconst q_274_1).trans <| (j_putI (ji := 77) q_274_2 (js_Fo qy_274 qf_12_573) rfl js_o83 rfl rfl rfl).trans <| (j_aload_n q_274_5 rfl).trans <| (j_iconst q_274_6).trans <| (j_putI (ji := 79) q_274_7 (js_Fo qy_274 qf_12_579) rfl js_o83 rfl rfl rfl).trans <| (j_aload_n q_274_10 rfl).trans <| (j_iconst q_274_11).trans <| (j_putI (ji := 80) q_274_12 (js_Fo qy_274 qf_12_582) rfl js_o83 rfl rfl rfl).trans <| (j_aload_n q_274_15 rfl).trans <| (j_iconst q_274_16).trans <| (j_putI (ji := 85) q_274_17 (js_Fo qy_274 qf_12_594) rfl js_o83 rfl rfl rfl).trans <| (j_aload_n q_274_20 rfl).trans <| (j_get (ji := 75) (v := (2, 124)) q_274_21 (js_Fo qy_274 qf_12_386) js_o83 rfl rfl rfl rfl).trans <| (j_iconst q_274_24).trans <| (j_iconst q_274_25).trans <| (j_iastorek q_274_26 js_o124 ww_0 rfl).trans <| (j_aload_n q_274_27 rfl).trans <| (j_get (ji := 75) (v := (2, 124)) q_274_28 (js_Fo qy_274 qf_12_386) js_o83 rfl rfl rfl rfl).trans <| (j_iconst q_274_31).trans <| (j_iconst q_274_32).trans <| (j_iastorek q_274_33 js_o124 ww_1 rfl).trans <| j_return q_274_34 qr_274
-- 275: VitalTwinModel.gate ()V
theorem b_275_0 {E : js_E} {d : Nat} {σ : js_S} : js_J E d 275 0 [(2, 83), (9, 0), (9, 0), (9, 0)] [] σ = js_J E d 275 1 [(2, 83), (9, 0), (9, 0), (9, 0)] [(2, 83)] σ :=
  (j_aload_n q_275_0 rfl).trans <| rfl
theorem k_275_1 {E : js_E} {d : Nat} {σ σ2 : js_S} {v : Int} (hd : 1 ≤ d) (hz : js_J E (d - 1) 276 0 [(2, 83), (9, 0), (9, 0), (9, 0), (9, 0)] [] σ = js_r E (0, v) σ2) : js_J E d 275 1 [(2, 83), (9, 0), (9, 0), (9, 0)] [(2, 83)] σ = js_J E d 275 4 [(2, 83), (9, 0), (9, 0), (9, 0)] [(0, v)] σ2 :=
  j_call (m := 4) (js_caV q_275_1 (js_Mo qy_275 qm_12_610)) (js_agV (av := []) (st := []) rfl rfl js_o83 rfl) rfl rfl (by rw [ql_276]; exact Nat.le_of_ble_eq_true rfl) (Nat.le_of_ble_eq_true rfl) hd hz
theorem b_275_4 {E : js_E} {d : Nat} {σ : js_S} {z0 : Int} : js_J E d 275 4 [(2, 83), (9, 0), (9, 0), (9, 0)] [(0, z0)] σ = (if js_w z0 = 0 then js_J E d 275 9 [(2, 83), (9, 0), (9, 0), (9, 0)] [(0, 3), (2, 83)] σ else js_J E d 275 27 [(2, 83), (0, 4096 * ((js_w (σ 83 82)).tmod 16)), (0, 0), (9, 0)] [] σ) :=
  (j_ifne (t := 13) q_275_4 rfl).trans (js_ite ((j_aload_n q_275_7 rfl).trans <| (j_iconst q_275_8).trans <| rfl) ((j_si q_275_13 rfl).trans <| (j_aload_n q_275_16 rfl).trans <| (j_get (ji := 82) (v := (0, σ 83 82)) q_275_17 (js_Fo qy_275 qf_12_588) js_o83 rfl rfl rfl rfl).trans <| (j_bi q_275_20 rfl).trans <| (j_iremk q_275_22 ww_16 (by decide)).trans <| (j_imul q_275_23).trans <| (j_istore_n (l2 := [(2, 83), (0, 4096 * ((js_w (σ 83 82)).tmod 16)), (9, 0), (9, 0)]) q_275_24 rfl (Nat.le_of_ble_eq_true rfl)).trans <| (j_iconst q_275_25).trans <| (j_istore_n (l2 := [(2, 83), (0, 4096 * ((js_w (σ 83 82)).tmod 16)), (0, 0), (9, 0)]) q_275_26 rfl (Nat.le_of_ble_eq_true rfl)).trans <| rfl))
theorem k_275_9 {E : js_E} {d : Nat} {σ σ2 : js_S} {z1 : Int} (hd : 1 ≤ d) (hz : js_J E (d - 1) 273 0 [(2, 83), (0, z1)] [] σ = js_r0 E σ2) : js_J E d 275 9 [(2, 83), (9, 0), (9, 0), (9, 0)] [(0, z1), (2, 83)] σ = js_J E d 275 12 [(2, 83), (9, 0), (9, 0), (9, 0)] [] σ2 :=
  j_call0 (m := 0) (js_caV q_275_9 (js_Mo qy_275 qm_12_614)) (js_agV (av := [(0, z1)]) (st := []) rfl rfl js_o83 rfl) rfl rfl (by rw [ql_273]; exact Nat.le_of_ble_eq_true rfl) (Nat.le_of_ble_eq_true rfl) hd hz
theorem b_275_12 {E : js_E} {d : Nat} {σ : js_S} : js_J E d 275 12 [(2, 83), (9, 0), (9, 0), (9, 0)] [] σ = js_r0 E σ :=
  j_return q_275_12 qr_275
theorem b_275_27 {E : js_E} {d : Nat} {σ : js_S} {x1 x2 : Int} {ux3 : js_v} : js_J E d 275 27 [(2, 83), (0, x1), (0, x2), ux3] [] σ = (if js_w x2 < js_w (σ 83 11) then (if 0 ≤ js_w x2 ∧ js_w x2 < 400 then (if js_w (σ 86 (js_w x2)) = 2 then js_J E d 275 50 [(2, 83), (0, x1), (0, x2), (0, 0)] [] σ else js_J E d 275 89 [(2, 83), (0, x1), (0, x2), ux3] [] σ) else none) else js_J E d 275 106 [(2, 83), (0, x1), (0, x2), ux3] [(2, 83)] (js_up σ 83 82 ((σ 83 82) + 1))) :=
  (j_iload_n q_275_27 rfl).trans <| (j_aload_n q_275_28 rfl).trans <| (j_get (ji := 11) (v := (0, σ 83 11)) q_275_29 (js_Fo qy_275 qf_12_86) js_o83 rfl rfl rfl rfl).trans <| (j_cmpge (t := 95) q_275_32 rfl).trans (js_ite ((j_aload_n q_275_35 rfl).trans <| (j_get (ji := 12) (v := (2, 86)) q_275_36 (js_Fo qy_275 qf_12_99) js_o83 rfl rfl rfl rfl).trans <| (j_iload_n q_275_39 rfl).trans <| (j_iaload q_275_40 js_o86).trans <| js_itp fun g0 => (j_iconst q_275_41).trans <| (j_cmpeqB (t := 48) q_275_42 rfl ww_2).trans (js_ite ((j_iconst q_275_48).trans <| (j_istore_n (l2 := [(2, 83), (0, x1), (0, x2), (0, 0)]) q_275_49 rfl (Nat.le_of_ble_eq_true rfl)).trans <| rfl) ((j_goto (t := 89) q_275_45 rfl).trans <| rfl))) ((j_aload_n q_275_95 rfl).trans <| (j_dupr q_275_96).trans <| (j_get (ji := 82) (v := (0, σ 83 82)) q_275_97 (js_Fo qy_275 qf_12_588) js_o83 rfl rfl rfl rfl).trans <| (j_iconst q_275_100).trans <| (j_iadd q_275_101).trans <| (j_putI (ji := 82) q_275_102 (js_Fo qy_275 qf_12_588) rfl js_o83 rfl rfl rfl).trans <| (j_aload_n q_275_105 rfl).trans <| rfl))
theorem b_275_50 {E : js_E} {d : Nat} {σ : js_S} {x1 x2 x3 : Int} : js_J E d 275 50 [(2, 83), (0, x1), (0, x2), (0, x3)] [] σ = (if 0 ≤ js_w x2 ∧ js_w x2 < 400 then (if js_w x3 < js_w (σ 91 (js_w x2)) then (if 0 ≤ js_w ((σ 90 (js_w x2)) + x3) ∧ js_w ((σ 90 (js_w x2)) + x3) < 8192 then (if 0 ≤ js_w x1 ∧ js_w x1 < 65536 then js_J E d 275 50 [(2, 83), (0, x1 + 1), (0, x2), (0, x3 + 1)] [] (js_up σ 126 (js_w x1) (σ 120 (js_w ((σ 90 (js_w x2)) + x3)))) else none) else none) else js_J E d 275 89 [(2, 83), (0, x1), (0, x2), (0, x3)] [] σ) else none) :=
  (j_iload_n q_275_50 rfl).trans <| (j_aload_n q_275_51 rfl).trans <| (j_get (ji := 17) (v := (2, 91)) q_275_52 (js_Fo qy_275 qf_12_114) js_o83 rfl rfl rfl rfl).trans <| (j_iload_n q_275_55 rfl).trans <| (j_iaload q_275_56 js_o91).trans <| js_itp fun g0 => (j_cmpge (t := 89) q_275_57 rfl).trans (js_ite ((j_aload_n q_275_60 rfl).trans <| (j_get (ji := 84) (v := (2, 126)) q_275_61 (js_Fo qy_275 qf_12_392) js_o83 rfl rfl rfl rfl).trans <| (j_iload_n q_275_64 rfl).trans <| (j_aload_n q_275_65 rfl).trans <| (j_get (ji := 71) (v := (2, 120)) q_275_66 (js_Fo qy_275 qf_12_374) js_o83 rfl rfl rfl rfl).trans <| (j_aload_n q_275_69 rfl).trans <| (j_get (ji := 16) (v := (2, 90)) q_275_70 (js_Fo qy_275 qf_12_111) js_o83 rfl rfl rfl rfl).trans <| (j_iload_n q_275_73 rfl).trans <| (j_iaload q_275_74 js_o90).trans <| (if_pos g0).trans <| (j_iload_n q_275_75 rfl).trans <| (j_iadd q_275_76).trans <| (j_laload q_275_77 js_o120).trans <| js_itp fun g1 => (j_l2i q_275_78).trans <| (j_iastore q_275_79 js_o126).trans <| js_itp fun g2 => (j_iinc (l2 := [(2, 83), (0, x1 + 1), (0, x2), (0, x3)]) q_275_80 rfl rfl).trans <| (j_iinc (l2 := [(2, 83), (0, x1 + 1), (0, x2), (0, x3 + 1)]) q_275_83 rfl rfl).trans <| (j_goto (t := 50) q_275_86 rfl).trans <| rfl) (rfl))
theorem b_275_89 {E : js_E} {d : Nat} {σ : js_S} {x1 x2 : Int} {ux3 : js_v} : js_J E d 275 89 [(2, 83), (0, x1), (0, x2), ux3] [] σ = js_J E d 275 27 [(2, 83), (0, x1), (0, x2 + 1), ux3] [] σ :=
  (j_iinc (l2 := [(2, 83), (0, x1), (0, x2 + 1), ux3]) q_275_89 rfl rfl).trans <| (j_goto (t := 27) q_275_92 rfl).trans <| rfl
theorem k_275_106 {E : js_E} {d : Nat} {σ σ2 : js_S} {x1 x2 : Int} {ux3 : js_v} (hd : 1 ≤ d) (hz : js_J E (d - 1) 274 0 [(2, 83)] [] σ = js_r0 E σ2) : js_J E d 275 106 [(2, 83), (0, x1), (0, x2), ux3] [(2, 83)] σ = js_J E d 275 109 [(2, 83), (0, x1), (0, x2), ux3] [] σ2 :=
  j_call0 (m := 0) (js_caV q_275_106 (js_Mo qy_275 qm_12_597)) (js_agV (av := []) (st := []) rfl rfl js_o83 rfl) rfl rfl (by rw [ql_274]; exact Nat.le_of_ble_eq_true rfl) (Nat.le_of_ble_eq_true rfl) hd hz
theorem b_275_109 {E : js_E} {d : Nat} {σ : js_S} {x1 x2 : Int} {ux3 : js_v} : js_J E d 275 109 [(2, 83), (0, x1), (0, x2), ux3] [] σ = js_r0 E σ :=
  j_return q_275_109 qr_275
-- 276: VitalTwinModel.agree ()Z
theorem b_276_0 {E : js_E} {d : Nat} {σ : js_S} : js_J E d 276 0 [(2, 83), (9, 0), (9, 0), (9, 0), (9, 0)] [] σ = js_J E d 276 2 [(2, 83), (0, 0), (9, 0), (9, 0), (9, 0)] [] σ :=
  (j_iconst q_276_0).trans <| (j_istore_n (l2 := [(2, 83), (0, 0), (9, 0), (9, 0), (9, 0)]) q_276_1 rfl (Nat.le_of_ble_eq_true rfl)).trans <| rfl
theorem b_276_2 {E : js_E} {d : Nat} {σ : js_S} {x1 : Int} {ux2 ux3 : js_v} : js_J E d 276 2 [(2, 83), (0, x1), ux2, ux3, (9, 0)] [] σ = (if js_w x1 < js_w (σ 83 11) then (if 0 ≤ js_w x1 ∧ js_w x1 < 400 then (if js_w (σ 86 (js_w x1)) = 2 then js_J E d 276 25 [(2, 83), (0, x1), (0, 0), ux3, (9, 0)] [] σ else js_J E d 276 107 [(2, 83), (0, x1), ux2, ux3, (9, 0)] [] σ) else none) else js_r E (0, 1) σ) :=
  (j_iload_n q_276_2 rfl).trans <| (j_aload_n q_276_3 rfl).trans <| (j_get (ji := 11) (v := (0, σ 83 11)) q_276_4 (js_Fo qy_276 qf_12_86) js_o83 rfl rfl rfl rfl).trans <| (j_cmpge (t := 113) q_276_7 rfl).trans (js_ite ((j_aload_n q_276_10 rfl).trans <| (j_get (ji := 12) (v := (2, 86)) q_276_11 (js_Fo qy_276 qf_12_99) js_o83 rfl rfl rfl rfl).trans <| (j_iload_n q_276_14 rfl).trans <| (j_iaload q_276_15 js_o86).trans <| js_itp fun g0 => (j_iconst q_276_16).trans <| (j_cmpeqB (t := 23) q_276_17 rfl ww_2).trans (js_ite ((j_iconst q_276_23).trans <| (j_istore_n (l2 := [(2, 83), (0, x1), (0, 0), ux3, (9, 0)]) q_276_24 rfl (Nat.le_of_ble_eq_true rfl)).trans <| rfl) ((j_goto (t := 107) q_276_20 rfl).trans <| rfl))) ((j_iconst q_276_113).trans <| j_breturn1 q_276_114 qr_276))
theorem b_276_25 {E : js_E} {d : Nat} {σ : js_S} {x1 x2 : Int} {ux3 : js_v} : js_J E d 276 25 [(2, 83), (0, x1), (0, x2), ux3, (9, 0)] [] σ = (if 0 ≤ js_w x1 ∧ js_w x1 < 400 then (if js_w x2 < js_w (σ 91 (js_w x1)) then (if 0 ≤ js_w ((σ 90 (js_w x1)) + x2) ∧ js_w ((σ 90 (js_w x1)) + x2) < 8192 then (if js_l (σ 120 (js_w ((σ 90 (js_w x1)) + x2))) < js_l (js_w (σ 88 (js_w x1))) then js_r E (0, 0) σ else (if js_l (js_w (σ 89 (js_w x1))) < js_l (σ 120 (js_w ((σ 90 (js_w x1)) + x2))) then js_r E (0, 0) σ else (if 0 ≤ js_w ((4096 + (σ 90 (js_w x1))) + x2) ∧ js_w ((4096 + (σ 90 (js_w x1))) + x2) < 8192 then (if js_l (σ 120 (js_w ((4096 + (σ 90 (js_w x1))) + x2))) = js_l (58659 * (σ 120 (js_w ((σ 90 (js_w x1)) + x2)))) then js_J E d 276 25 [(2, 83), (0, x1), (0, x2 + 1), (1, σ 120 (js_w ((σ 90 (js_w x1)) + x2))), (9, 0)] [] σ else js_r E (0, 0) σ) else none))) else none) else js_J E d 276 107 [(2, 83), (0, x1), (0, x2), ux3, (9, 0)] [] σ) else none) :=
  (j_iload_n q_276_25 rfl).trans <| (j_aload_n q_276_26 rfl).trans <| (j_get (ji := 17) (v := (2, 91)) q_276_27 (js_Fo qy_276 qf_12_114) js_o83 rfl rfl rfl rfl).trans <| (j_iload_n q_276_30 rfl).trans <| (j_iaload q_276_31 js_o91).trans <| js_itp fun g0 => (j_cmpge (t := 107) q_276_32 rfl).trans (js_ite ((j_aload_n q_276_35 rfl).trans <| (j_get (ji := 71) (v := (2, 120)) q_276_36 (js_Fo qy_276 qf_12_374) js_o83 rfl rfl rfl rfl).trans <| (j_aload_n q_276_39 rfl).trans <| (j_get (ji := 16) (v := (2, 90)) q_276_40 (js_Fo qy_276 qf_12_111) js_o83 rfl rfl rfl rfl).trans <| (j_iload_n q_276_43 rfl).trans <| (j_iaload q_276_44 js_o90).trans <| (if_pos g0).trans <| (j_iload_n q_276_45 rfl).trans <| (j_iadd q_276_46).trans <| (j_laload q_276_47 js_o120).trans <| js_itp fun g1 => (j_lstore_n (l2 := [(2, 83), (0, x1), (0, x2), (1, σ 120 (js_w ((σ 90 (js_w x1)) + x2))), (9, 0)]) q_276_48 rfl (Nat.le_of_ble_eq_true rfl)).trans <| (j_lload_n q_276_49 rfl).trans <| (j_aload_n q_276_50 rfl).trans <| (j_get (ji := 14) (v := (2, 88)) q_276_51 (js_Fo qy_276 qf_12_105) js_o83 rfl rfl rfl rfl).trans <| (j_iload_n q_276_54 rfl).trans <| (j_iaload q_276_55 js_o88).trans <| (if_pos g0).trans <| (j_i2l q_276_56).trans <| (j_llt (t := 99) q_276_57 q_276_58 rfl).trans (js_ite ((j_iconst q_276_99).trans <| j_breturn0 q_276_100 qr_276) ((j_lload_n q_276_61 rfl).trans <| (j_aload_n q_276_62 rfl).trans <| (j_get (ji := 15) (v := (2, 89)) q_276_63 (js_Fo qy_276 qf_12_108) js_o83 rfl rfl rfl rfl).trans <| (j_iload_n q_276_66 rfl).trans <| (j_iaload q_276_67 js_o89).trans <| (if_pos g0).trans <| (j_i2l q_276_68).trans <| (j_lgt (t := 99) q_276_69 q_276_70 rfl).trans (js_ite ((j_iconst q_276_99).trans <| j_breturn0 q_276_100 qr_276) ((j_aload_n q_276_73 rfl).trans <| (j_get (ji := 71) (v := (2, 120)) q_276_74 (js_Fo qy_276 qf_12_374) js_o83 rfl rfl rfl rfl).trans <| (j_si q_276_77 rfl).trans <| (j_aload_n q_276_80 rfl).trans <| (j_get (ji := 16) (v := (2, 90)) q_276_81 (js_Fo qy_276 qf_12_111) js_o83 rfl rfl rfl rfl).trans <| (j_iload_n q_276_84 rfl).trans <| (j_iaload q_276_85 js_o90).trans <| (if_pos g0).trans <| (j_iadd q_276_86).trans <| (j_iload_n q_276_87 rfl).trans <| (j_iadd q_276_88).trans <| (j_laload q_276_89 js_o120).trans <| js_itp fun g2 => (j_ldc2 (v := (1, 58659)) q_276_90 (js_Co qy_276 qc_12_571)).trans <| (j_lload_n q_276_93 rfl).trans <| (j_lmul q_276_94).trans <| (j_leq (t := 101) q_276_95 q_276_96 rfl).trans (js_ite ((j_iinc (l2 := [(2, 83), (0, x1), (0, x2 + 1), (1, σ 120 (js_w ((σ 90 (js_w x1)) + x2))), (9, 0)]) q_276_101 rfl rfl).trans <| (j_goto (t := 25) q_276_104 rfl).trans <| rfl) ((j_iconst q_276_99).trans <| j_breturn0 q_276_100 qr_276))))))) (rfl))
theorem b_276_107 {E : js_E} {d : Nat} {σ : js_S} {x1 : Int} {ux2 ux3 : js_v} : js_J E d 276 107 [(2, 83), (0, x1), ux2, ux3, (9, 0)] [] σ = js_J E d 276 2 [(2, 83), (0, x1 + 1), ux2, ux3, (9, 0)] [] σ :=
  (j_iinc (l2 := [(2, 83), (0, x1 + 1), ux2, ux3, (9, 0)]) q_276_107 rfl rfl).trans <| (j_goto (t := 2) q_276_110 rfl).trans <| rfl
-- 277: VitalTwinModel.cycle ()I
theorem b_277_0 {E : js_E} {d : Nat} {σ : js_S} : js_J E d 277 0 [(2, 83)] [] σ = (if js_w (σ 83 64) = 0 then js_J E d 277 13 [(2, 83)] [(0, 1), (2, 83)] σ else js_J E d 277 13 [(2, 83)] [(0, 0), (2, 83)] σ) :=
  (j_aload_n q_277_0 rfl).trans <| (j_aload_n q_277_1 rfl).trans <| (j_get (ji := 64) (v := (0, σ 83 64)) q_277_2 (js_Fo qy_277 qf_12_464) js_o83 rfl rfl rfl rfl).trans <| (j_ifeq (t := 12) q_277_5 rfl).trans (js_ite ((j_iconst q_277_12).trans <| rfl) ((j_iconst q_277_8).trans <| (j_goto (t := 13) q_277_9 rfl).trans <| rfl))
theorem b_277_13 {E : js_E} {d : Nat} {σ : js_S} {z1 : Int} : js_J E d 277 13 [(2, 83)] [(0, z1), (2, 83)] σ = (if 0 < js_w z1 then js_r E (0, 0) (js_up σ 83 0 z1) else (if 0 < js_w (σ 83 81) then js_r E (0, 0) (js_up σ 83 0 z1) else js_J E d 277 33 [(2, 83)] [(2, 83)] (js_up σ 83 0 z1))) :=
  (j_putI (ji := 0) q_277_13 (js_Fo qy_277 qf_12_3) rfl js_o83 rfl rfl rfl).trans <| (j_aload_n q_277_16 rfl).trans <| (j_get (ji := 0) (v := (0, z1)) q_277_17 (js_Fo qy_277 qf_12_3) js_o83 rfl rfl rfl (congrArg (Prod.mk 0) ((js_up_same _ _ _ _)))).trans <| (j_ifgt (t := 30) q_277_20 rfl).trans (js_ite ((j_iconst q_277_30).trans <| j_ireturn q_277_31 qr_277) ((j_aload_n q_277_23 rfl).trans <| (j_get (ji := 81) (v := (0, σ 83 81)) q_277_24 (js_Fo qy_277 qf_12_585) js_o83 rfl rfl rfl (congrArg (Prod.mk 0) ((js_up_ni _ (by decide))))).trans <| (j_ifle (t := 32) q_277_27 rfl).trans (js_ite ((j_iconst q_277_30).trans <| j_ireturn q_277_31 qr_277) ((j_aload_n q_277_32 rfl).trans <| rfl))))
theorem k_277_33 {E : js_E} {d : Nat} {σ σ2 : js_S} (hd : 1 ≤ d) (hz : js_J E (d - 1) 278 0 [(2, 83)] [] σ = js_r0 E σ2) : js_J E d 277 33 [(2, 83)] [(2, 83)] σ = js_J E d 277 36 [(2, 83)] [] σ2 :=
  j_call0 (m := 0) (js_caV q_277_33 (js_Mo qy_277 qm_12_634)) (js_agV (av := []) (st := []) rfl rfl js_o83 rfl) rfl rfl (by rw [ql_278]; exact Nat.le_of_ble_eq_true rfl) (Nat.le_of_ble_eq_true rfl) hd hz
theorem b_277_36 {E : js_E} {d : Nat} {σ : js_S} : js_J E d 277 36 [(2, 83)] [] σ = (if 0 < js_w (σ 83 81) then js_r E (0, 0) σ else js_r E (0, 1) σ) :=
  (j_aload_n q_277_36 rfl).trans <| (j_get (ji := 81) (v := (0, σ 83 81)) q_277_37 (js_Fo qy_277 qf_12_585) js_o83 rfl rfl rfl rfl).trans <| (j_ifle (t := 47) q_277_40 rfl).trans (js_ite ((j_iconst q_277_43).trans <| (j_goto (t := 48) q_277_44 rfl).trans <| j_ireturn q_277_48 qr_277) ((j_iconst q_277_47).trans <| j_ireturn q_277_48 qr_277))
-- 278: VitalTwinModel.whole ()V
theorem b_278_0 {E : js_E} {d : Nat} {σ : js_S} : js_J E d 278 0 [(2, 83)] [] σ = (if js_w (σ 83 77) = 0 then js_J E d 278 8 [(2, 83)] [(2, 83)] σ else js_J E d 278 11 [(2, 83)] [] σ) :=
  (j_aload_n q_278_0 rfl).trans <| (j_get (ji := 77) (v := (0, σ 83 77)) q_278_1 (js_Fo qy_278 qf_12_573) js_o83 rfl rfl rfl rfl).trans <| (j_ifne (t := 11) q_278_4 rfl).trans (js_ite ((j_aload_n q_278_7 rfl).trans <| rfl) (rfl))
theorem k_278_8 {E : js_E} {d : Nat} {σ σ2 : js_S} (hd : 1 ≤ d) (hz : js_J E (d - 1) 266 0 [(2, 83), (9, 0), (9, 0), (9, 0)] [] σ = js_r0 E σ2) : js_J E d 278 8 [(2, 83)] [(2, 83)] σ = js_J E d 278 11 [(2, 83)] [] σ2 :=
  j_call0 (m := 3) (js_caV q_278_8 (js_Mo qy_278 qm_12_628)) (js_agV (av := []) (st := []) rfl rfl js_o83 rfl) rfl rfl (by rw [ql_266]; exact Nat.le_of_ble_eq_true rfl) (Nat.le_of_ble_eq_true rfl) hd hz
theorem b_278_11 {E : js_E} {d : Nat} {σ : js_S} : js_J E d 278 11 [(2, 83)] [] σ = (if 0 < js_w (σ 83 77) then js_J E d 278 19 [(2, 83)] [(2, 83)] σ else js_r0 E σ) :=
  (j_aload_n q_278_11 rfl).trans <| (j_get (ji := 77) (v := (0, σ 83 77)) q_278_12 (js_Fo qy_278 qf_12_573) js_o83 rfl rfl rfl rfl).trans <| (j_ifle (t := 25) q_278_15 rfl).trans (js_ite ((j_aload_n q_278_18 rfl).trans <| rfl) (j_return q_278_25 qr_278))
theorem k_278_19 {E : js_E} {d : Nat} {σ σ2 : js_S} (hd : 1 ≤ d) (hz : js_J E (d - 1) 268 0 [(2, 83), (9, 0), (9, 0)] [] σ = js_r0 E σ2) : js_J E d 278 19 [(2, 83)] [(2, 83)] σ = js_J E d 278 22 [(2, 83)] [] σ2 :=
  j_call0 (m := 2) (js_caV q_278_19 (js_Mo qy_278 qm_12_631)) (js_agV (av := []) (st := []) rfl rfl js_o83 rfl) rfl rfl (by rw [ql_268]; exact Nat.le_of_ble_eq_true rfl) (Nat.le_of_ble_eq_true rfl) hd hz
theorem b_278_22 {E : js_E} {d : Nat} {σ : js_S} : js_J E d 278 22 [(2, 83)] [] σ = js_J E d 278 11 [(2, 83)] [] σ :=
  (j_goto (t := 11) q_278_22 rfl).trans <| rfl
