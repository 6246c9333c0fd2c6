/-! part 99.zzzzzzk: block equations of the law from its loop on (printed by wip/whole/tools/gen309.py) -/
theorem qy_309 : vt_O 309 = 19 := by decide +kernel
theorem qr_309 : vt_rc.getD 309 0 = 2 := by decide +kernel
theorem ql_309 : vt_ml.getD 309 0 = 8 := by decide +kernel
theorem q_309_33 : js_I 309 33 = some (.iload 4, 2) := by decide +kernel
theorem q_309_35 : js_I 309 35 = some (.aload_n 0, 1) := by decide +kernel
theorem q_309_36 : js_I 309 36 = some (.arraylength, 1) := by decide +kernel
theorem q_309_37 : js_I 309 37 = some (.iconst 5, 1) := by decide +kernel
theorem q_309_38 : js_I 309 38 = some (.isub, 1) := by decide +kernel
theorem q_309_39 : js_I 309 39 = some (.if_icmp .gt 999, 3) := by decide +kernel
theorem q_309_1038 : js_I 309 1038 = some (.iconst 1, 1) := by decide +kernel
theorem q_309_1039 : js_I 309 1039 = some (.ireturn, 1) := by decide +kernel
theorem q_309_42 : js_I 309 42 = some (.aload_n 0, 1) := by decide +kernel
theorem q_309_43 : js_I 309 43 = some (.iload 4, 2) := by decide +kernel
theorem q_309_45 : js_I 309 45 = some (.iaload, 1) := by decide +kernel
theorem q_309_46 : js_I 309 46 = some (.bipush 31, 2) := by decide +kernel
theorem q_309_48 : js_I 309 48 = some (.iand, 1) := by decide +kernel
theorem q_309_49 : js_I 309 49 = some (.tableswitch 983 0 17 #[87, 188, 201, 238, 275, 312, 379, 428, 465, 521, 565, 621, 689, 750, 817, 884, 945, 958], 87) := by decide +kernel
theorem q_309_136 : js_I 309 136 = some (.aload_n 1, 1) := by decide +kernel
theorem q_309_137 : js_I 309 137 = some (.aload_n 0, 1) := by decide +kernel
theorem q_309_138 : js_I 309 138 = some (.iload 4, 2) := by decide +kernel
theorem q_309_140 : js_I 309 140 = some (.iconst 1, 1) := by decide +kernel
theorem q_309_141 : js_I 309 141 = some (.iadd, 1) := by decide +kernel
theorem q_309_142 : js_I 309 142 = some (.iaload, 1) := by decide +kernel
theorem q_309_143 : js_I 309 143 = some (.i2l, 1) := by decide +kernel
theorem q_309_144 : js_I 309 144 = some (.bipush 32, 2) := by decide +kernel
theorem q_309_146 : js_I 309 146 = some (.lshl, 1) := by decide +kernel
theorem q_309_147 : js_I 309 147 = some (.aload_n 0, 1) := by decide +kernel
theorem q_309_148 : js_I 309 148 = some (.iload 4, 2) := by decide +kernel
theorem q_309_150 : js_I 309 150 = some (.iconst 2, 1) := by decide +kernel
theorem q_309_151 : js_I 309 151 = some (.iadd, 1) := by decide +kernel
theorem q_309_152 : js_I 309 152 = some (.iaload, 1) := by decide +kernel
theorem q_309_153 : js_I 309 153 = some (.i2l, 1) := by decide +kernel
theorem q_309_154 : js_I 309 154 = some (.ldc2_w 51, 3) := by decide +kernel
theorem q_309_157 : js_I 309 157 = some (.land, 1) := by decide +kernel
theorem q_309_158 : js_I 309 158 = some (.lor, 1) := by decide +kernel
theorem q_309_159 : js_I 309 159 = some (.aload_n 0, 1) := by decide +kernel
theorem q_309_160 : js_I 309 160 = some (.iload 4, 2) := by decide +kernel
theorem q_309_162 : js_I 309 162 = some (.iconst 3, 1) := by decide +kernel
theorem q_309_163 : js_I 309 163 = some (.iadd, 1) := by decide +kernel
theorem q_309_164 : js_I 309 164 = some (.iaload, 1) := by decide +kernel
theorem q_309_165 : js_I 309 165 = some (.i2l, 1) := by decide +kernel
theorem q_309_166 : js_I 309 166 = some (.bipush 32, 2) := by decide +kernel
theorem q_309_168 : js_I 309 168 = some (.lshl, 1) := by decide +kernel
theorem q_309_169 : js_I 309 169 = some (.aload_n 0, 1) := by decide +kernel
theorem q_309_170 : js_I 309 170 = some (.iload 4, 2) := by decide +kernel
theorem q_309_172 : js_I 309 172 = some (.iconst 4, 1) := by decide +kernel
theorem q_309_173 : js_I 309 173 = some (.iadd, 1) := by decide +kernel
theorem q_309_174 : js_I 309 174 = some (.iaload, 1) := by decide +kernel
theorem q_309_175 : js_I 309 175 = some (.i2l, 1) := by decide +kernel
theorem q_309_176 : js_I 309 176 = some (.ldc2_w 51, 3) := by decide +kernel
theorem q_309_179 : js_I 309 179 = some (.land, 1) := by decide +kernel
theorem q_309_180 : js_I 309 180 = some (.lor, 1) := by decide +kernel
theorem q_309_181 : js_I 309 181 = some (.invokevirtual 53, 3) := by decide +kernel
theorem q_309_184 : js_I 309 184 = some (.aload_n 2, 1) := by decide +kernel
theorem q_309_185 : js_I 309 185 = some (.aload_n 0, 1) := by decide +kernel
theorem q_309_186 : js_I 309 186 = some (.iload 4, 2) := by decide +kernel
theorem q_309_188 : js_I 309 188 = some (.iconst 1, 1) := by decide +kernel
theorem q_309_189 : js_I 309 189 = some (.iadd, 1) := by decide +kernel
theorem q_309_190 : js_I 309 190 = some (.iaload, 1) := by decide +kernel
theorem q_309_191 : js_I 309 191 = some (.i2l, 1) := by decide +kernel
theorem q_309_192 : js_I 309 192 = some (.bipush 32, 2) := by decide +kernel
theorem q_309_194 : js_I 309 194 = some (.lshl, 1) := by decide +kernel
theorem q_309_195 : js_I 309 195 = some (.aload_n 0, 1) := by decide +kernel
theorem q_309_196 : js_I 309 196 = some (.iload 4, 2) := by decide +kernel
theorem q_309_198 : js_I 309 198 = some (.iconst 2, 1) := by decide +kernel
theorem q_309_199 : js_I 309 199 = some (.iadd, 1) := by decide +kernel
theorem q_309_200 : js_I 309 200 = some (.iaload, 1) := by decide +kernel
theorem q_309_201 : js_I 309 201 = some (.i2l, 1) := by decide +kernel
theorem q_309_202 : js_I 309 202 = some (.ldc2_w 51, 3) := by decide +kernel
theorem q_309_205 : js_I 309 205 = some (.land, 1) := by decide +kernel
theorem q_309_206 : js_I 309 206 = some (.lor, 1) := by decide +kernel
theorem q_309_207 : js_I 309 207 = some (.aload_n 0, 1) := by decide +kernel
theorem q_309_208 : js_I 309 208 = some (.iload 4, 2) := by decide +kernel
theorem q_309_210 : js_I 309 210 = some (.iconst 3, 1) := by decide +kernel
theorem q_309_211 : js_I 309 211 = some (.iadd, 1) := by decide +kernel
theorem q_309_212 : js_I 309 212 = some (.iaload, 1) := by decide +kernel
theorem q_309_213 : js_I 309 213 = some (.i2l, 1) := by decide +kernel
theorem q_309_214 : js_I 309 214 = some (.bipush 32, 2) := by decide +kernel
theorem q_309_216 : js_I 309 216 = some (.lshl, 1) := by decide +kernel
theorem q_309_217 : js_I 309 217 = some (.aload_n 0, 1) := by decide +kernel
theorem q_309_218 : js_I 309 218 = some (.iload 4, 2) := by decide +kernel
theorem q_309_220 : js_I 309 220 = some (.iconst 4, 1) := by decide +kernel
theorem q_309_221 : js_I 309 221 = some (.iadd, 1) := by decide +kernel
theorem q_309_222 : js_I 309 222 = some (.iaload, 1) := by decide +kernel
theorem q_309_223 : js_I 309 223 = some (.i2l, 1) := by decide +kernel
theorem q_309_224 : js_I 309 224 = some (.ldc2_w 51, 3) := by decide +kernel
theorem q_309_227 : js_I 309 227 = some (.land, 1) := by decide +kernel
theorem q_309_228 : js_I 309 228 = some (.lor, 1) := by decide +kernel
theorem q_309_229 : js_I 309 229 = some (.invokevirtual 57, 3) := by decide +kernel
theorem q_309_232 : js_I 309 232 = some (.if_icmp .eq 800, 3) := by decide +kernel
theorem q_309_235 : js_I 309 235 = some (.iconst 0, 1) := by decide +kernel
theorem q_309_236 : js_I 309 236 = some (.ireturn, 1) := by decide +kernel
theorem q_309_237 : js_I 309 237 = some (.aload_n 1, 1) := by decide +kernel
theorem q_309_238 : js_I 309 238 = some (.invokevirtual 58, 3) := by decide +kernel
theorem q_309_241 : js_I 309 241 = some (.aload_n 2, 1) := by decide +kernel
theorem q_309_242 : js_I 309 242 = some (.invokevirtual 61, 3) := by decide +kernel
theorem q_309_245 : js_I 309 245 = some (.if_icmp .eq 787, 3) := by decide +kernel
theorem q_309_248 : js_I 309 248 = some (.iconst 0, 1) := by decide +kernel
theorem q_309_249 : js_I 309 249 = some (.ireturn, 1) := by decide +kernel
theorem q_309_250 : js_I 309 250 = some (.aload_n 1, 1) := by decide +kernel
theorem q_309_251 : js_I 309 251 = some (.aload_n 0, 1) := by decide +kernel
theorem q_309_252 : js_I 309 252 = some (.iload 4, 2) := by decide +kernel
theorem q_309_254 : js_I 309 254 = some (.iconst 1, 1) := by decide +kernel
theorem q_309_255 : js_I 309 255 = some (.iadd, 1) := by decide +kernel
theorem q_309_256 : js_I 309 256 = some (.iaload, 1) := by decide +kernel
theorem q_309_257 : js_I 309 257 = some (.aload_n 0, 1) := by decide +kernel
theorem q_309_258 : js_I 309 258 = some (.iload 4, 2) := by decide +kernel
theorem q_309_260 : js_I 309 260 = some (.iconst 2, 1) := by decide +kernel
theorem q_309_261 : js_I 309 261 = some (.iadd, 1) := by decide +kernel
theorem q_309_262 : js_I 309 262 = some (.iaload, 1) := by decide +kernel
theorem q_309_263 : js_I 309 263 = some (.invokevirtual 62, 3) := by decide +kernel
theorem q_309_266 : js_I 309 266 = some (.aload_n 2, 1) := by decide +kernel
theorem q_309_267 : js_I 309 267 = some (.aload_n 0, 1) := by decide +kernel
theorem q_309_268 : js_I 309 268 = some (.iload 4, 2) := by decide +kernel
theorem q_309_270 : js_I 309 270 = some (.iconst 1, 1) := by decide +kernel
theorem q_309_271 : js_I 309 271 = some (.iadd, 1) := by decide +kernel
theorem q_309_272 : js_I 309 272 = some (.iaload, 1) := by decide +kernel
theorem q_309_273 : js_I 309 273 = some (.aload_n 0, 1) := by decide +kernel
theorem q_309_274 : js_I 309 274 = some (.iload 4, 2) := by decide +kernel
theorem q_309_276 : js_I 309 276 = some (.iconst 2, 1) := by decide +kernel
theorem q_309_277 : js_I 309 277 = some (.iadd, 1) := by decide +kernel
theorem q_309_278 : js_I 309 278 = some (.iaload, 1) := by decide +kernel
theorem q_309_279 : js_I 309 279 = some (.invokevirtual 65, 3) := by decide +kernel
theorem q_309_282 : js_I 309 282 = some (.if_icmp .eq 750, 3) := by decide +kernel
theorem q_309_285 : js_I 309 285 = some (.iconst 0, 1) := by decide +kernel
theorem q_309_286 : js_I 309 286 = some (.ireturn, 1) := by decide +kernel
theorem q_309_287 : js_I 309 287 = some (.aload_n 1, 1) := by decide +kernel
theorem q_309_288 : js_I 309 288 = some (.aload_n 0, 1) := by decide +kernel
theorem q_309_289 : js_I 309 289 = some (.iload 4, 2) := by decide +kernel
theorem q_309_291 : js_I 309 291 = some (.iconst 1, 1) := by decide +kernel
theorem q_309_292 : js_I 309 292 = some (.iadd, 1) := by decide +kernel
theorem q_309_293 : js_I 309 293 = some (.iaload, 1) := by decide +kernel
theorem q_309_294 : js_I 309 294 = some (.aload_n 0, 1) := by decide +kernel
theorem q_309_295 : js_I 309 295 = some (.iload 4, 2) := by decide +kernel
theorem q_309_297 : js_I 309 297 = some (.iconst 2, 1) := by decide +kernel
theorem q_309_298 : js_I 309 298 = some (.iadd, 1) := by decide +kernel
theorem q_309_299 : js_I 309 299 = some (.iaload, 1) := by decide +kernel
theorem q_309_300 : js_I 309 300 = some (.invokevirtual 66, 3) := by decide +kernel
theorem q_309_303 : js_I 309 303 = some (.aload_n 2, 1) := by decide +kernel
theorem q_309_304 : js_I 309 304 = some (.aload_n 0, 1) := by decide +kernel
theorem q_309_305 : js_I 309 305 = some (.iload 4, 2) := by decide +kernel
theorem q_309_307 : js_I 309 307 = some (.iconst 1, 1) := by decide +kernel
theorem q_309_308 : js_I 309 308 = some (.iadd, 1) := by decide +kernel
theorem q_309_309 : js_I 309 309 = some (.iaload, 1) := by decide +kernel
theorem q_309_310 : js_I 309 310 = some (.aload_n 0, 1) := by decide +kernel
theorem q_309_311 : js_I 309 311 = some (.iload 4, 2) := by decide +kernel
theorem q_309_313 : js_I 309 313 = some (.iconst 2, 1) := by decide +kernel
theorem q_309_314 : js_I 309 314 = some (.iadd, 1) := by decide +kernel
theorem q_309_315 : js_I 309 315 = some (.iaload, 1) := by decide +kernel
theorem q_309_316 : js_I 309 316 = some (.invokevirtual 69, 3) := by decide +kernel
theorem q_309_319 : js_I 309 319 = some (.if_icmp .eq 713, 3) := by decide +kernel
theorem q_309_322 : js_I 309 322 = some (.iconst 0, 1) := by decide +kernel
theorem q_309_323 : js_I 309 323 = some (.ireturn, 1) := by decide +kernel
theorem q_309_324 : js_I 309 324 = some (.aload_n 1, 1) := by decide +kernel
theorem q_309_325 : js_I 309 325 = some (.aload_n 0, 1) := by decide +kernel
theorem q_309_326 : js_I 309 326 = some (.iload 4, 2) := by decide +kernel
theorem q_309_328 : js_I 309 328 = some (.iconst 1, 1) := by decide +kernel
theorem q_309_329 : js_I 309 329 = some (.iadd, 1) := by decide +kernel
theorem q_309_330 : js_I 309 330 = some (.iaload, 1) := by decide +kernel
theorem q_309_331 : js_I 309 331 = some (.aload_n 0, 1) := by decide +kernel
theorem q_309_332 : js_I 309 332 = some (.iload 4, 2) := by decide +kernel
theorem q_309_334 : js_I 309 334 = some (.iconst 2, 1) := by decide +kernel
theorem q_309_335 : js_I 309 335 = some (.iadd, 1) := by decide +kernel
theorem q_309_336 : js_I 309 336 = some (.iaload, 1) := by decide +kernel
theorem q_309_337 : js_I 309 337 = some (.invokevirtual 70, 3) := by decide +kernel
theorem q_309_340 : js_I 309 340 = some (.aload_n 2, 1) := by decide +kernel
theorem q_309_341 : js_I 309 341 = some (.aload_n 0, 1) := by decide +kernel
theorem q_309_342 : js_I 309 342 = some (.iload 4, 2) := by decide +kernel
theorem q_309_344 : js_I 309 344 = some (.iconst 1, 1) := by decide +kernel
theorem q_309_345 : js_I 309 345 = some (.iadd, 1) := by decide +kernel
theorem q_309_346 : js_I 309 346 = some (.iaload, 1) := by decide +kernel
theorem q_309_347 : js_I 309 347 = some (.aload_n 0, 1) := by decide +kernel
theorem q_309_348 : js_I 309 348 = some (.iload 4, 2) := by decide +kernel
theorem q_309_350 : js_I 309 350 = some (.iconst 2, 1) := by decide +kernel
theorem q_309_351 : js_I 309 351 = some (.iadd, 1) := by decide +kernel
theorem q_309_352 : js_I 309 352 = some (.iaload, 1) := by decide +kernel
theorem q_309_353 : js_I 309 353 = some (.invokevirtual 73, 3) := by decide +kernel
theorem q_309_356 : js_I 309 356 = some (.if_icmp .eq 676, 3) := by decide +kernel
theorem q_309_359 : js_I 309 359 = some (.iconst 0, 1) := by decide +kernel
theorem q_309_360 : js_I 309 360 = some (.ireturn, 1) := by decide +kernel
theorem q_309_361 : js_I 309 361 = some (.aload_n 1, 1) := by decide +kernel
theorem q_309_362 : js_I 309 362 = some (.aload_n 0, 1) := by decide +kernel
theorem q_309_363 : js_I 309 363 = some (.iload 4, 2) := by decide +kernel
theorem q_309_365 : js_I 309 365 = some (.iconst 1, 1) := by decide +kernel
theorem q_309_366 : js_I 309 366 = some (.iadd, 1) := by decide +kernel
theorem q_309_367 : js_I 309 367 = some (.iaload, 1) := by decide +kernel
theorem q_309_368 : js_I 309 368 = some (.aload_n 0, 1) := by decide +kernel
theorem q_309_369 : js_I 309 369 = some (.iload 4, 2) := by decide +kernel
theorem q_309_371 : js_I 309 371 = some (.iconst 2, 1) := by decide +kernel
theorem q_309_372 : js_I 309 372 = some (.iadd, 1) := by decide +kernel
theorem q_309_373 : js_I 309 373 = some (.iaload, 1) := by decide +kernel
theorem q_309_374 : js_I 309 374 = some (.aload_n 3, 1) := by decide +kernel
theorem q_309_375 : js_I 309 375 = some (.invokestatic 74, 3) := by decide +kernel
theorem q_309_378 : js_I 309 378 = some (.istore 5, 2) := by decide +kernel
theorem q_309_380 : js_I 309 380 = some (.aload_n 2, 1) := by decide +kernel
theorem q_309_381 : js_I 309 381 = some (.aload_n 0, 1) := by decide +kernel
theorem q_309_382 : js_I 309 382 = some (.iload 4, 2) := by decide +kernel
theorem q_309_384 : js_I 309 384 = some (.iconst 1, 1) := by decide +kernel
theorem q_309_385 : js_I 309 385 = some (.iadd, 1) := by decide +kernel
theorem q_309_386 : js_I 309 386 = some (.iaload, 1) := by decide +kernel
theorem q_309_387 : js_I 309 387 = some (.aload_n 0, 1) := by decide +kernel
theorem q_309_388 : js_I 309 388 = some (.iload 4, 2) := by decide +kernel
theorem q_309_390 : js_I 309 390 = some (.iconst 2, 1) := by decide +kernel
theorem q_309_391 : js_I 309 391 = some (.iadd, 1) := by decide +kernel
theorem q_309_392 : js_I 309 392 = some (.iaload, 1) := by decide +kernel
theorem q_309_393 : js_I 309 393 = some (.invokevirtual 77, 3) := by decide +kernel
theorem q_309_396 : js_I 309 396 = some (.lstore 6, 2) := by decide +kernel
theorem q_309_398 : js_I 309 398 = some (.aload_n 2, 1) := by decide +kernel
theorem q_309_399 : js_I 309 399 = some (.invokevirtual 78, 3) := by decide +kernel
theorem q_309_402 : js_I 309 402 = some (.iload 5, 2) := by decide +kernel
theorem q_309_404 : js_I 309 404 = some (.if_icmp .eq 5, 3) := by decide +kernel
theorem q_309_409 : js_I 309 409 = some (.iload 5, 2) := by decide +kernel
theorem q_309_411 : js_I 309 411 = some (.ifCond .ne 14, 3) := by decide +kernel
theorem q_309_414 : js_I 309 414 = some (.aload_n 3, 1) := by decide +kernel
theorem q_309_415 : js_I 309 415 = some (.iconst 0, 1) := by decide +kernel
theorem q_309_416 : js_I 309 416 = some (.laload, 1) := by decide +kernel
theorem q_309_417 : js_I 309 417 = some (.lload 6, 2) := by decide +kernel
theorem q_309_419 : js_I 309 419 = some (.lcmp, 1) := by decide +kernel
theorem q_309_420 : js_I 309 420 = some (.ifCond .eq 5, 3) := by decide +kernel
theorem q_309_423 : js_I 309 423 = some (.iconst 0, 1) := by decide +kernel
theorem q_309_424 : js_I 309 424 = some (.ireturn, 1) := by decide +kernel
theorem q_309_407 : js_I 309 407 = some (.iconst 0, 1) := by decide +kernel
theorem q_309_408 : js_I 309 408 = some (.ireturn, 1) := by decide +kernel
theorem q_309_425 : js_I 309 425 = some (.goto 607, 3) := by decide +kernel
theorem q_309_428 : js_I 309 428 = some (.aload_n 1, 1) := by decide +kernel
theorem q_309_429 : js_I 309 429 = some (.aload_n 0, 1) := by decide +kernel
theorem q_309_430 : js_I 309 430 = some (.iload 4, 2) := by decide +kernel
theorem q_309_432 : js_I 309 432 = some (.iconst 1, 1) := by decide +kernel
theorem q_309_433 : js_I 309 433 = some (.iadd, 1) := by decide +kernel
theorem q_309_434 : js_I 309 434 = some (.iaload, 1) := by decide +kernel
theorem q_309_435 : js_I 309 435 = some (.aload_n 0, 1) := by decide +kernel
theorem q_309_436 : js_I 309 436 = some (.iload 4, 2) := by decide +kernel
theorem q_309_438 : js_I 309 438 = some (.iconst 2, 1) := by decide +kernel
theorem q_309_439 : js_I 309 439 = some (.iadd, 1) := by decide +kernel
theorem q_309_440 : js_I 309 440 = some (.iaload, 1) := by decide +kernel
theorem q_309_441 : js_I 309 441 = some (.aload_n 0, 1) := by decide +kernel
theorem q_309_442 : js_I 309 442 = some (.iload 4, 2) := by decide +kernel
theorem q_309_444 : js_I 309 444 = some (.iconst 3, 1) := by decide +kernel
theorem q_309_445 : js_I 309 445 = some (.iadd, 1) := by decide +kernel
theorem q_309_446 : js_I 309 446 = some (.iaload, 1) := by decide +kernel
theorem q_309_447 : js_I 309 447 = some (.invokevirtual 81, 3) := by decide +kernel
theorem q_309_450 : js_I 309 450 = some (.aload_n 2, 1) := by decide +kernel
theorem q_309_451 : js_I 309 451 = some (.aload_n 0, 1) := by decide +kernel
theorem q_309_452 : js_I 309 452 = some (.iload 4, 2) := by decide +kernel
theorem q_309_454 : js_I 309 454 = some (.iconst 1, 1) := by decide +kernel
theorem q_309_455 : js_I 309 455 = some (.iadd, 1) := by decide +kernel
theorem q_309_456 : js_I 309 456 = some (.iaload, 1) := by decide +kernel
theorem q_309_457 : js_I 309 457 = some (.aload_n 0, 1) := by decide +kernel
theorem q_309_458 : js_I 309 458 = some (.iload 4, 2) := by decide +kernel
theorem q_309_460 : js_I 309 460 = some (.iconst 2, 1) := by decide +kernel
theorem q_309_461 : js_I 309 461 = some (.iadd, 1) := by decide +kernel
theorem q_309_462 : js_I 309 462 = some (.iaload, 1) := by decide +kernel
theorem q_309_463 : js_I 309 463 = some (.aload_n 0, 1) := by decide +kernel
theorem q_309_464 : js_I 309 464 = some (.iload 4, 2) := by decide +kernel
theorem q_309_466 : js_I 309 466 = some (.iconst 3, 1) := by decide +kernel
theorem q_309_467 : js_I 309 467 = some (.iadd, 1) := by decide +kernel
theorem q_309_468 : js_I 309 468 = some (.iaload, 1) := by decide +kernel
theorem q_309_469 : js_I 309 469 = some (.invokevirtual 85, 3) := by decide +kernel
theorem q_309_472 : js_I 309 472 = some (.if_icmp .eq 560, 3) := by decide +kernel
theorem q_309_475 : js_I 309 475 = some (.iconst 0, 1) := by decide +kernel
theorem q_309_476 : js_I 309 476 = some (.ireturn, 1) := by decide +kernel
theorem q_309_477 : js_I 309 477 = some (.aload_n 1, 1) := by decide +kernel
theorem q_309_478 : js_I 309 478 = some (.aload_n 0, 1) := by decide +kernel
theorem q_309_479 : js_I 309 479 = some (.iload 4, 2) := by decide +kernel
theorem q_309_481 : js_I 309 481 = some (.iconst 1, 1) := by decide +kernel
theorem q_309_482 : js_I 309 482 = some (.iadd, 1) := by decide +kernel
theorem q_309_483 : js_I 309 483 = some (.iaload, 1) := by decide +kernel
theorem q_309_484 : js_I 309 484 = some (.aload_n 0, 1) := by decide +kernel
theorem q_309_485 : js_I 309 485 = some (.iload 4, 2) := by decide +kernel
theorem q_309_487 : js_I 309 487 = some (.iconst 2, 1) := by decide +kernel
theorem q_309_488 : js_I 309 488 = some (.iadd, 1) := by decide +kernel
theorem q_309_489 : js_I 309 489 = some (.iaload, 1) := by decide +kernel
theorem q_309_490 : js_I 309 490 = some (.invokevirtual 86, 3) := by decide +kernel
theorem q_309_493 : js_I 309 493 = some (.aload_n 2, 1) := by decide +kernel
theorem q_309_494 : js_I 309 494 = some (.aload_n 0, 1) := by decide +kernel
theorem q_309_495 : js_I 309 495 = some (.iload 4, 2) := by decide +kernel
theorem q_309_497 : js_I 309 497 = some (.iconst 1, 1) := by decide +kernel
theorem q_309_498 : js_I 309 498 = some (.iadd, 1) := by decide +kernel
theorem q_309_499 : js_I 309 499 = some (.iaload, 1) := by decide +kernel
theorem q_309_500 : js_I 309 500 = some (.aload_n 0, 1) := by decide +kernel
theorem q_309_501 : js_I 309 501 = some (.iload 4, 2) := by decide +kernel
theorem q_309_503 : js_I 309 503 = some (.iconst 2, 1) := by decide +kernel
theorem q_309_504 : js_I 309 504 = some (.iadd, 1) := by decide +kernel
theorem q_309_505 : js_I 309 505 = some (.iaload, 1) := by decide +kernel
theorem q_309_506 : js_I 309 506 = some (.invokevirtual 90, 3) := by decide +kernel
theorem q_309_509 : js_I 309 509 = some (.if_icmp .eq 523, 3) := by decide +kernel
theorem q_309_512 : js_I 309 512 = some (.iconst 0, 1) := by decide +kernel
theorem q_309_513 : js_I 309 513 = some (.ireturn, 1) := by decide +kernel
theorem q_309_514 : js_I 309 514 = some (.aload_n 1, 1) := by decide +kernel
theorem q_309_515 : js_I 309 515 = some (.aload_n 0, 1) := by decide +kernel
theorem q_309_516 : js_I 309 516 = some (.iload 4, 2) := by decide +kernel
theorem q_309_518 : js_I 309 518 = some (.iconst 1, 1) := by decide +kernel
theorem q_309_519 : js_I 309 519 = some (.iadd, 1) := by decide +kernel
theorem q_309_520 : js_I 309 520 = some (.iaload, 1) := by decide +kernel
theorem q_309_521 : js_I 309 521 = some (.aload_n 3, 1) := by decide +kernel
theorem q_309_522 : js_I 309 522 = some (.invokestatic 91, 3) := by decide +kernel
theorem q_309_525 : js_I 309 525 = some (.istore 5, 2) := by decide +kernel
theorem q_309_527 : js_I 309 527 = some (.aload_n 2, 1) := by decide +kernel
theorem q_309_528 : js_I 309 528 = some (.aload_n 0, 1) := by decide +kernel
theorem q_309_529 : js_I 309 529 = some (.iload 4, 2) := by decide +kernel
theorem q_309_531 : js_I 309 531 = some (.iconst 1, 1) := by decide +kernel
theorem q_309_532 : js_I 309 532 = some (.iadd, 1) := by decide +kernel
theorem q_309_533 : js_I 309 533 = some (.iaload, 1) := by decide +kernel
theorem q_309_534 : js_I 309 534 = some (.invokevirtual 94, 3) := by decide +kernel
theorem q_309_537 : js_I 309 537 = some (.istore 6, 2) := by decide +kernel
theorem q_309_539 : js_I 309 539 = some (.aload_n 2, 1) := by decide +kernel
theorem q_309_540 : js_I 309 540 = some (.invokevirtual 78, 3) := by decide +kernel
theorem q_309_543 : js_I 309 543 = some (.iload 5, 2) := by decide +kernel
theorem q_309_545 : js_I 309 545 = some (.if_icmp .eq 5, 3) := by decide +kernel
theorem q_309_550 : js_I 309 550 = some (.iload 5, 2) := by decide +kernel
theorem q_309_552 : js_I 309 552 = some (.ifCond .ne 15, 3) := by decide +kernel
theorem q_309_555 : js_I 309 555 = some (.aload_n 3, 1) := by decide +kernel
theorem q_309_556 : js_I 309 556 = some (.iconst 0, 1) := by decide +kernel
theorem q_309_557 : js_I 309 557 = some (.laload, 1) := by decide +kernel
theorem q_309_558 : js_I 309 558 = some (.iload 6, 2) := by decide +kernel
theorem q_309_560 : js_I 309 560 = some (.i2l, 1) := by decide +kernel
theorem q_309_561 : js_I 309 561 = some (.lcmp, 1) := by decide +kernel
theorem q_309_562 : js_I 309 562 = some (.ifCond .eq 5, 3) := by decide +kernel
theorem q_309_565 : js_I 309 565 = some (.iconst 0, 1) := by decide +kernel
theorem q_309_566 : js_I 309 566 = some (.ireturn, 1) := by decide +kernel
theorem q_309_548 : js_I 309 548 = some (.iconst 0, 1) := by decide +kernel
theorem q_309_549 : js_I 309 549 = some (.ireturn, 1) := by decide +kernel
theorem q_309_567 : js_I 309 567 = some (.goto 465, 3) := by decide +kernel
theorem q_309_570 : js_I 309 570 = some (.aload_n 1, 1) := by decide +kernel
theorem q_309_571 : js_I 309 571 = some (.aload_n 3, 1) := by decide +kernel
theorem q_309_572 : js_I 309 572 = some (.invokestatic 95, 3) := by decide +kernel
theorem q_309_575 : js_I 309 575 = some (.istore 5, 2) := by decide +kernel
theorem q_309_577 : js_I 309 577 = some (.aload_n 2, 1) := by decide +kernel
theorem q_309_578 : js_I 309 578 = some (.invokevirtual 98, 3) := by decide +kernel
theorem q_309_581 : js_I 309 581 = some (.istore 6, 2) := by decide +kernel
theorem q_309_583 : js_I 309 583 = some (.aload_n 2, 1) := by decide +kernel
theorem q_309_584 : js_I 309 584 = some (.invokevirtual 78, 3) := by decide +kernel
theorem q_309_587 : js_I 309 587 = some (.iload 5, 2) := by decide +kernel
theorem q_309_589 : js_I 309 589 = some (.if_icmp .eq 5, 3) := by decide +kernel
theorem q_309_594 : js_I 309 594 = some (.iload 5, 2) := by decide +kernel
theorem q_309_596 : js_I 309 596 = some (.ifCond .ne 15, 3) := by decide +kernel
theorem q_309_599 : js_I 309 599 = some (.aload_n 3, 1) := by decide +kernel
theorem q_309_600 : js_I 309 600 = some (.iconst 0, 1) := by decide +kernel
theorem q_309_601 : js_I 309 601 = some (.laload, 1) := by decide +kernel
theorem q_309_602 : js_I 309 602 = some (.iload 6, 2) := by decide +kernel
theorem q_309_604 : js_I 309 604 = some (.i2l, 1) := by decide +kernel
theorem q_309_605 : js_I 309 605 = some (.lcmp, 1) := by decide +kernel
theorem q_309_606 : js_I 309 606 = some (.ifCond .eq 5, 3) := by decide +kernel
theorem q_309_609 : js_I 309 609 = some (.iconst 0, 1) := by decide +kernel
theorem q_309_610 : js_I 309 610 = some (.ireturn, 1) := by decide +kernel
theorem q_309_592 : js_I 309 592 = some (.iconst 0, 1) := by decide +kernel
theorem q_309_593 : js_I 309 593 = some (.ireturn, 1) := by decide +kernel
theorem q_309_611 : js_I 309 611 = some (.goto 421, 3) := by decide +kernel
theorem q_309_614 : js_I 309 614 = some (.aload_n 1, 1) := by decide +kernel
theorem q_309_615 : js_I 309 615 = some (.aload_n 0, 1) := by decide +kernel
theorem q_309_616 : js_I 309 616 = some (.iload 4, 2) := by decide +kernel
theorem q_309_618 : js_I 309 618 = some (.iconst 1, 1) := by decide +kernel
theorem q_309_619 : js_I 309 619 = some (.iadd, 1) := by decide +kernel
theorem q_309_620 : js_I 309 620 = some (.iaload, 1) := by decide +kernel
theorem q_309_621 : js_I 309 621 = some (.aload_n 3, 1) := by decide +kernel
theorem q_309_622 : js_I 309 622 = some (.invokestatic 99, 3) := by decide +kernel
theorem q_309_625 : js_I 309 625 = some (.istore 5, 2) := by decide +kernel
theorem q_309_627 : js_I 309 627 = some (.aload_n 2, 1) := by decide +kernel
theorem q_309_628 : js_I 309 628 = some (.aload_n 0, 1) := by decide +kernel
theorem q_309_629 : js_I 309 629 = some (.iload 4, 2) := by decide +kernel
theorem q_309_631 : js_I 309 631 = some (.iconst 1, 1) := by decide +kernel
theorem q_309_632 : js_I 309 632 = some (.iadd, 1) := by decide +kernel
theorem q_309_633 : js_I 309 633 = some (.iaload, 1) := by decide +kernel
theorem q_309_634 : js_I 309 634 = some (.invokevirtual 101, 3) := by decide +kernel
theorem q_309_637 : js_I 309 637 = some (.istore 6, 2) := by decide +kernel
theorem q_309_639 : js_I 309 639 = some (.aload_n 2, 1) := by decide +kernel
theorem q_309_640 : js_I 309 640 = some (.invokevirtual 78, 3) := by decide +kernel
theorem q_309_643 : js_I 309 643 = some (.iload 5, 2) := by decide +kernel
theorem q_309_645 : js_I 309 645 = some (.if_icmp .eq 5, 3) := by decide +kernel
theorem q_309_650 : js_I 309 650 = some (.iload 5, 2) := by decide +kernel
theorem q_309_652 : js_I 309 652 = some (.ifCond .ne 15, 3) := by decide +kernel
theorem q_309_655 : js_I 309 655 = some (.aload_n 3, 1) := by decide +kernel
theorem q_309_656 : js_I 309 656 = some (.iconst 0, 1) := by decide +kernel
theorem q_309_657 : js_I 309 657 = some (.laload, 1) := by decide +kernel
theorem q_309_658 : js_I 309 658 = some (.iload 6, 2) := by decide +kernel
theorem q_309_660 : js_I 309 660 = some (.i2l, 1) := by decide +kernel
theorem q_309_661 : js_I 309 661 = some (.lcmp, 1) := by decide +kernel
theorem q_309_662 : js_I 309 662 = some (.ifCond .eq 5, 3) := by decide +kernel
theorem q_309_665 : js_I 309 665 = some (.iconst 0, 1) := by decide +kernel
theorem q_309_666 : js_I 309 666 = some (.ireturn, 1) := by decide +kernel
theorem q_309_648 : js_I 309 648 = some (.iconst 0, 1) := by decide +kernel
theorem q_309_649 : js_I 309 649 = some (.ireturn, 1) := by decide +kernel
theorem q_309_667 : js_I 309 667 = some (.goto 365, 3) := by decide +kernel
theorem q_309_670 : js_I 309 670 = some (.aload_n 1, 1) := by decide +kernel
theorem q_309_671 : js_I 309 671 = some (.aload_n 0, 1) := by decide +kernel
theorem q_309_672 : js_I 309 672 = some (.iload 4, 2) := by decide +kernel
theorem q_309_674 : js_I 309 674 = some (.iconst 1, 1) := by decide +kernel
theorem q_309_675 : js_I 309 675 = some (.iadd, 1) := by decide +kernel
theorem q_309_676 : js_I 309 676 = some (.iaload, 1) := by decide +kernel
theorem q_309_677 : js_I 309 677 = some (.aload_n 0, 1) := by decide +kernel
theorem q_309_678 : js_I 309 678 = some (.iload 4, 2) := by decide +kernel
theorem q_309_680 : js_I 309 680 = some (.iconst 2, 1) := by decide +kernel
theorem q_309_681 : js_I 309 681 = some (.iadd, 1) := by decide +kernel
theorem q_309_682 : js_I 309 682 = some (.iaload, 1) := by decide +kernel
theorem q_309_683 : js_I 309 683 = some (.aload_n 3, 1) := by decide +kernel
theorem q_309_684 : js_I 309 684 = some (.invokestatic 102, 3) := by decide +kernel
theorem q_309_687 : js_I 309 687 = some (.istore 5, 2) := by decide +kernel
theorem q_309_689 : js_I 309 689 = some (.aload_n 2, 1) := by decide +kernel
theorem q_309_690 : js_I 309 690 = some (.aload_n 0, 1) := by decide +kernel
theorem q_309_691 : js_I 309 691 = some (.iload 4, 2) := by decide +kernel
theorem q_309_693 : js_I 309 693 = some (.iconst 1, 1) := by decide +kernel
theorem q_309_694 : js_I 309 694 = some (.iadd, 1) := by decide +kernel
theorem q_309_695 : js_I 309 695 = some (.iaload, 1) := by decide +kernel
theorem q_309_696 : js_I 309 696 = some (.aload_n 0, 1) := by decide +kernel
theorem q_309_697 : js_I 309 697 = some (.iload 4, 2) := by decide +kernel
theorem q_309_699 : js_I 309 699 = some (.iconst 2, 1) := by decide +kernel
theorem q_309_700 : js_I 309 700 = some (.iadd, 1) := by decide +kernel
theorem q_309_701 : js_I 309 701 = some (.iaload, 1) := by decide +kernel
theorem q_309_702 : js_I 309 702 = some (.invokevirtual 104, 3) := by decide +kernel
theorem q_309_705 : js_I 309 705 = some (.istore 6, 2) := by decide +kernel
theorem q_309_707 : js_I 309 707 = some (.aload_n 2, 1) := by decide +kernel
theorem q_309_708 : js_I 309 708 = some (.invokevirtual 78, 3) := by decide +kernel
theorem q_309_711 : js_I 309 711 = some (.iload 5, 2) := by decide +kernel
theorem q_309_713 : js_I 309 713 = some (.if_icmp .eq 5, 3) := by decide +kernel
theorem q_309_718 : js_I 309 718 = some (.iload 5, 2) := by decide +kernel
theorem q_309_720 : js_I 309 720 = some (.ifCond .ne 15, 3) := by decide +kernel
theorem q_309_723 : js_I 309 723 = some (.aload_n 3, 1) := by decide +kernel
theorem q_309_724 : js_I 309 724 = some (.iconst 0, 1) := by decide +kernel
theorem q_309_725 : js_I 309 725 = some (.laload, 1) := by decide +kernel
theorem q_309_726 : js_I 309 726 = some (.iload 6, 2) := by decide +kernel
theorem q_309_728 : js_I 309 728 = some (.i2l, 1) := by decide +kernel
theorem q_309_729 : js_I 309 729 = some (.lcmp, 1) := by decide +kernel
theorem q_309_730 : js_I 309 730 = some (.ifCond .eq 5, 3) := by decide +kernel
theorem q_309_733 : js_I 309 733 = some (.iconst 0, 1) := by decide +kernel
theorem q_309_734 : js_I 309 734 = some (.ireturn, 1) := by decide +kernel
theorem q_309_716 : js_I 309 716 = some (.iconst 0, 1) := by decide +kernel
theorem q_309_717 : js_I 309 717 = some (.ireturn, 1) := by decide +kernel
theorem q_309_735 : js_I 309 735 = some (.goto 297, 3) := by decide +kernel
theorem q_309_738 : js_I 309 738 = some (.aload_n 1, 1) := by decide +kernel
theorem q_309_739 : js_I 309 739 = some (.aload_n 0, 1) := by decide +kernel
theorem q_309_740 : js_I 309 740 = some (.iload 4, 2) := by decide +kernel
theorem q_309_742 : js_I 309 742 = some (.iconst 1, 1) := by decide +kernel
theorem q_309_743 : js_I 309 743 = some (.iadd, 1) := by decide +kernel
theorem q_309_744 : js_I 309 744 = some (.iaload, 1) := by decide +kernel
theorem q_309_745 : js_I 309 745 = some (.aload_n 0, 1) := by decide +kernel
theorem q_309_746 : js_I 309 746 = some (.iload 4, 2) := by decide +kernel
theorem q_309_748 : js_I 309 748 = some (.iconst 2, 1) := by decide +kernel
theorem q_309_749 : js_I 309 749 = some (.iadd, 1) := by decide +kernel
theorem q_309_750 : js_I 309 750 = some (.iaload, 1) := by decide +kernel
theorem q_309_751 : js_I 309 751 = some (.aload_n 0, 1) := by decide +kernel
theorem q_309_752 : js_I 309 752 = some (.iload 4, 2) := by decide +kernel
theorem q_309_754 : js_I 309 754 = some (.iconst 3, 1) := by decide +kernel
theorem q_309_755 : js_I 309 755 = some (.iadd, 1) := by decide +kernel
theorem q_309_756 : js_I 309 756 = some (.iaload, 1) := by decide +kernel
theorem q_309_757 : js_I 309 757 = some (.aload_n 0, 1) := by decide +kernel
theorem q_309_758 : js_I 309 758 = some (.iload 4, 2) := by decide +kernel
theorem q_309_760 : js_I 309 760 = some (.iconst 4, 1) := by decide +kernel
theorem q_309_761 : js_I 309 761 = some (.iadd, 1) := by decide +kernel
theorem q_309_762 : js_I 309 762 = some (.iaload, 1) := by decide +kernel
theorem q_309_763 : js_I 309 763 = some (.invokevirtual 105, 3) := by decide +kernel
theorem q_309_766 : js_I 309 766 = some (.aload_n 2, 1) := by decide +kernel
theorem q_309_767 : js_I 309 767 = some (.aload_n 0, 1) := by decide +kernel
theorem q_309_768 : js_I 309 768 = some (.iload 4, 2) := by decide +kernel
theorem q_309_770 : js_I 309 770 = some (.iconst 1, 1) := by decide +kernel
theorem q_309_771 : js_I 309 771 = some (.iadd, 1) := by decide +kernel
theorem q_309_772 : js_I 309 772 = some (.iaload, 1) := by decide +kernel
theorem q_309_773 : js_I 309 773 = some (.aload_n 0, 1) := by decide +kernel
theorem q_309_774 : js_I 309 774 = some (.iload 4, 2) := by decide +kernel
theorem q_309_776 : js_I 309 776 = some (.iconst 2, 1) := by decide +kernel
theorem q_309_777 : js_I 309 777 = some (.iadd, 1) := by decide +kernel
theorem q_309_778 : js_I 309 778 = some (.iaload, 1) := by decide +kernel
theorem q_309_779 : js_I 309 779 = some (.aload_n 0, 1) := by decide +kernel
theorem q_309_780 : js_I 309 780 = some (.iload 4, 2) := by decide +kernel
theorem q_309_782 : js_I 309 782 = some (.iconst 3, 1) := by decide +kernel
theorem q_309_783 : js_I 309 783 = some (.iadd, 1) := by decide +kernel
theorem q_309_784 : js_I 309 784 = some (.iaload, 1) := by decide +kernel
theorem q_309_785 : js_I 309 785 = some (.aload_n 0, 1) := by decide +kernel
theorem q_309_786 : js_I 309 786 = some (.iload 4, 2) := by decide +kernel
theorem q_309_788 : js_I 309 788 = some (.iconst 4, 1) := by decide +kernel
theorem q_309_789 : js_I 309 789 = some (.iadd, 1) := by decide +kernel
theorem q_309_790 : js_I 309 790 = some (.iaload, 1) := by decide +kernel
theorem q_309_791 : js_I 309 791 = some (.invokevirtual 109, 3) := by decide +kernel
theorem q_309_794 : js_I 309 794 = some (.if_icmp .eq 238, 3) := by decide +kernel
theorem q_309_797 : js_I 309 797 = some (.iconst 0, 1) := by decide +kernel
theorem q_309_798 : js_I 309 798 = some (.ireturn, 1) := by decide +kernel
theorem q_309_799 : js_I 309 799 = some (.aload_n 1, 1) := by decide +kernel
theorem q_309_800 : js_I 309 800 = some (.aload_n 0, 1) := by decide +kernel
theorem q_309_801 : js_I 309 801 = some (.iload 4, 2) := by decide +kernel
theorem q_309_803 : js_I 309 803 = some (.iconst 1, 1) := by decide +kernel
theorem q_309_804 : js_I 309 804 = some (.iadd, 1) := by decide +kernel
theorem q_309_805 : js_I 309 805 = some (.iaload, 1) := by decide +kernel
theorem q_309_806 : js_I 309 806 = some (.aload_n 0, 1) := by decide +kernel
theorem q_309_807 : js_I 309 807 = some (.iload 4, 2) := by decide +kernel
theorem q_309_809 : js_I 309 809 = some (.iconst 2, 1) := by decide +kernel
theorem q_309_810 : js_I 309 810 = some (.iadd, 1) := by decide +kernel
theorem q_309_811 : js_I 309 811 = some (.iaload, 1) := by decide +kernel
theorem q_309_812 : js_I 309 812 = some (.aload_n 3, 1) := by decide +kernel
theorem q_309_813 : js_I 309 813 = some (.invokestatic 110, 3) := by decide +kernel
theorem q_309_816 : js_I 309 816 = some (.istore 5, 2) := by decide +kernel
theorem q_309_818 : js_I 309 818 = some (.aload_n 2, 1) := by decide +kernel
theorem q_309_819 : js_I 309 819 = some (.aload_n 0, 1) := by decide +kernel
theorem q_309_820 : js_I 309 820 = some (.iload 4, 2) := by decide +kernel
theorem q_309_822 : js_I 309 822 = some (.iconst 1, 1) := by decide +kernel
theorem q_309_823 : js_I 309 823 = some (.iadd, 1) := by decide +kernel
theorem q_309_824 : js_I 309 824 = some (.iaload, 1) := by decide +kernel
theorem q_309_825 : js_I 309 825 = some (.aload_n 0, 1) := by decide +kernel
theorem q_309_826 : js_I 309 826 = some (.iload 4, 2) := by decide +kernel
theorem q_309_828 : js_I 309 828 = some (.iconst 2, 1) := by decide +kernel
theorem q_309_829 : js_I 309 829 = some (.iadd, 1) := by decide +kernel
theorem q_309_830 : js_I 309 830 = some (.iaload, 1) := by decide +kernel
theorem q_309_831 : js_I 309 831 = some (.invokevirtual 112, 3) := by decide +kernel
theorem q_309_834 : js_I 309 834 = some (.lstore 6, 2) := by decide +kernel
theorem q_309_836 : js_I 309 836 = some (.aload_n 2, 1) := by decide +kernel
theorem q_309_837 : js_I 309 837 = some (.invokevirtual 78, 3) := by decide +kernel
theorem q_309_840 : js_I 309 840 = some (.iload 5, 2) := by decide +kernel
theorem q_309_842 : js_I 309 842 = some (.if_icmp .eq 5, 3) := by decide +kernel
theorem q_309_847 : js_I 309 847 = some (.iload 5, 2) := by decide +kernel
theorem q_309_849 : js_I 309 849 = some (.ifCond .ne 14, 3) := by decide +kernel
theorem q_309_852 : js_I 309 852 = some (.aload_n 3, 1) := by decide +kernel
theorem q_309_853 : js_I 309 853 = some (.iconst 0, 1) := by decide +kernel
theorem q_309_854 : js_I 309 854 = some (.laload, 1) := by decide +kernel
theorem q_309_855 : js_I 309 855 = some (.lload 6, 2) := by decide +kernel
theorem q_309_857 : js_I 309 857 = some (.lcmp, 1) := by decide +kernel
theorem q_309_858 : js_I 309 858 = some (.ifCond .eq 5, 3) := by decide +kernel
theorem q_309_861 : js_I 309 861 = some (.iconst 0, 1) := by decide +kernel
theorem q_309_862 : js_I 309 862 = some (.ireturn, 1) := by decide +kernel
theorem q_309_845 : js_I 309 845 = some (.iconst 0, 1) := by decide +kernel
theorem q_309_846 : js_I 309 846 = some (.ireturn, 1) := by decide +kernel
theorem q_309_863 : js_I 309 863 = some (.goto 169, 3) := by decide +kernel
theorem q_309_866 : js_I 309 866 = some (.aload_n 1, 1) := by decide +kernel
theorem q_309_867 : js_I 309 867 = some (.aload_n 0, 1) := by decide +kernel
theorem q_309_868 : js_I 309 868 = some (.iload 4, 2) := by decide +kernel
theorem q_309_870 : js_I 309 870 = some (.iconst 1, 1) := by decide +kernel
theorem q_309_871 : js_I 309 871 = some (.iadd, 1) := by decide +kernel
theorem q_309_872 : js_I 309 872 = some (.iaload, 1) := by decide +kernel
theorem q_309_873 : js_I 309 873 = some (.aload_n 0, 1) := by decide +kernel
theorem q_309_874 : js_I 309 874 = some (.iload 4, 2) := by decide +kernel
theorem q_309_876 : js_I 309 876 = some (.iconst 2, 1) := by decide +kernel
theorem q_309_877 : js_I 309 877 = some (.iadd, 1) := by decide +kernel
theorem q_309_878 : js_I 309 878 = some (.iaload, 1) := by decide +kernel
theorem q_309_879 : js_I 309 879 = some (.aload_n 3, 1) := by decide +kernel
theorem q_309_880 : js_I 309 880 = some (.invokestatic 113, 3) := by decide +kernel
theorem q_309_883 : js_I 309 883 = some (.istore 5, 2) := by decide +kernel
theorem q_309_885 : js_I 309 885 = some (.aload_n 2, 1) := by decide +kernel
theorem q_309_886 : js_I 309 886 = some (.aload_n 0, 1) := by decide +kernel
theorem q_309_887 : js_I 309 887 = some (.iload 4, 2) := by decide +kernel
theorem q_309_889 : js_I 309 889 = some (.iconst 1, 1) := by decide +kernel
theorem q_309_890 : js_I 309 890 = some (.iadd, 1) := by decide +kernel
theorem q_309_891 : js_I 309 891 = some (.iaload, 1) := by decide +kernel
theorem q_309_892 : js_I 309 892 = some (.aload_n 0, 1) := by decide +kernel
theorem q_309_893 : js_I 309 893 = some (.iload 4, 2) := by decide +kernel
theorem q_309_895 : js_I 309 895 = some (.iconst 2, 1) := by decide +kernel
theorem q_309_896 : js_I 309 896 = some (.iadd, 1) := by decide +kernel
theorem q_309_897 : js_I 309 897 = some (.iaload, 1) := by decide +kernel
theorem q_309_898 : js_I 309 898 = some (.invokevirtual 115, 3) := by decide +kernel
theorem q_309_901 : js_I 309 901 = some (.lstore 6, 2) := by decide +kernel
theorem q_309_903 : js_I 309 903 = some (.aload_n 2, 1) := by decide +kernel
theorem q_309_904 : js_I 309 904 = some (.invokevirtual 78, 3) := by decide +kernel
theorem q_309_907 : js_I 309 907 = some (.iload 5, 2) := by decide +kernel
theorem q_309_909 : js_I 309 909 = some (.if_icmp .eq 5, 3) := by decide +kernel
theorem q_309_914 : js_I 309 914 = some (.iload 5, 2) := by decide +kernel
theorem q_309_916 : js_I 309 916 = some (.ifCond .ne 14, 3) := by decide +kernel
theorem q_309_919 : js_I 309 919 = some (.aload_n 3, 1) := by decide +kernel
theorem q_309_920 : js_I 309 920 = some (.iconst 0, 1) := by decide +kernel
theorem q_309_921 : js_I 309 921 = some (.laload, 1) := by decide +kernel
theorem q_309_922 : js_I 309 922 = some (.lload 6, 2) := by decide +kernel
theorem q_309_924 : js_I 309 924 = some (.lcmp, 1) := by decide +kernel
theorem q_309_925 : js_I 309 925 = some (.ifCond .eq 5, 3) := by decide +kernel
theorem q_309_928 : js_I 309 928 = some (.iconst 0, 1) := by decide +kernel
theorem q_309_929 : js_I 309 929 = some (.ireturn, 1) := by decide +kernel
theorem q_309_912 : js_I 309 912 = some (.iconst 0, 1) := by decide +kernel
theorem q_309_913 : js_I 309 913 = some (.ireturn, 1) := by decide +kernel
theorem q_309_930 : js_I 309 930 = some (.goto 102, 3) := by decide +kernel
theorem q_309_933 : js_I 309 933 = some (.aload_n 1, 1) := by decide +kernel
theorem q_309_934 : js_I 309 934 = some (.aload_n 0, 1) := by decide +kernel
theorem q_309_935 : js_I 309 935 = some (.iload 4, 2) := by decide +kernel
theorem q_309_937 : js_I 309 937 = some (.iconst 1, 1) := by decide +kernel
theorem q_309_938 : js_I 309 938 = some (.iadd, 1) := by decide +kernel
theorem q_309_939 : js_I 309 939 = some (.iaload, 1) := by decide +kernel
theorem q_309_940 : js_I 309 940 = some (.aload_n 0, 1) := by decide +kernel
theorem q_309_941 : js_I 309 941 = some (.iload 4, 2) := by decide +kernel
theorem q_309_943 : js_I 309 943 = some (.iconst 2, 1) := by decide +kernel
theorem q_309_944 : js_I 309 944 = some (.iadd, 1) := by decide +kernel
theorem q_309_945 : js_I 309 945 = some (.iaload, 1) := by decide +kernel
theorem q_309_946 : js_I 309 946 = some (.aload_n 0, 1) := by decide +kernel
theorem q_309_947 : js_I 309 947 = some (.iload 4, 2) := by decide +kernel
theorem q_309_949 : js_I 309 949 = some (.iconst 3, 1) := by decide +kernel
theorem q_309_950 : js_I 309 950 = some (.iadd, 1) := by decide +kernel
theorem q_309_951 : js_I 309 951 = some (.iaload, 1) := by decide +kernel
theorem q_309_952 : js_I 309 952 = some (.aload_n 0, 1) := by decide +kernel
theorem q_309_953 : js_I 309 953 = some (.iload 4, 2) := by decide +kernel
theorem q_309_955 : js_I 309 955 = some (.iconst 4, 1) := by decide +kernel
theorem q_309_956 : js_I 309 956 = some (.iadd, 1) := by decide +kernel
theorem q_309_957 : js_I 309 957 = some (.iaload, 1) := by decide +kernel
theorem q_309_958 : js_I 309 958 = some (.invokevirtual 116, 3) := by decide +kernel
theorem q_309_961 : js_I 309 961 = some (.aload_n 2, 1) := by decide +kernel
theorem q_309_962 : js_I 309 962 = some (.aload_n 0, 1) := by decide +kernel
theorem q_309_963 : js_I 309 963 = some (.iload 4, 2) := by decide +kernel
theorem q_309_965 : js_I 309 965 = some (.iconst 1, 1) := by decide +kernel
theorem q_309_966 : js_I 309 966 = some (.iadd, 1) := by decide +kernel
theorem q_309_967 : js_I 309 967 = some (.iaload, 1) := by decide +kernel
theorem q_309_968 : js_I 309 968 = some (.aload_n 0, 1) := by decide +kernel
theorem q_309_969 : js_I 309 969 = some (.iload 4, 2) := by decide +kernel
theorem q_309_971 : js_I 309 971 = some (.iconst 2, 1) := by decide +kernel
theorem q_309_972 : js_I 309 972 = some (.iadd, 1) := by decide +kernel
theorem q_309_973 : js_I 309 973 = some (.iaload, 1) := by decide +kernel
theorem q_309_974 : js_I 309 974 = some (.aload_n 0, 1) := by decide +kernel
theorem q_309_975 : js_I 309 975 = some (.iload 4, 2) := by decide +kernel
theorem q_309_977 : js_I 309 977 = some (.iconst 3, 1) := by decide +kernel
theorem q_309_978 : js_I 309 978 = some (.iadd, 1) := by decide +kernel
theorem q_309_979 : js_I 309 979 = some (.iaload, 1) := by decide +kernel
theorem q_309_980 : js_I 309 980 = some (.aload_n 0, 1) := by decide +kernel
theorem q_309_981 : js_I 309 981 = some (.iload 4, 2) := by decide +kernel
theorem q_309_983 : js_I 309 983 = some (.iconst 4, 1) := by decide +kernel
theorem q_309_984 : js_I 309 984 = some (.iadd, 1) := by decide +kernel
theorem q_309_985 : js_I 309 985 = some (.iaload, 1) := by decide +kernel
theorem q_309_986 : js_I 309 986 = some (.invokevirtual 120, 3) := by decide +kernel
theorem q_309_989 : js_I 309 989 = some (.if_icmp .eq 43, 3) := by decide +kernel
theorem q_309_992 : js_I 309 992 = some (.iconst 0, 1) := by decide +kernel
theorem q_309_993 : js_I 309 993 = some (.ireturn, 1) := by decide +kernel
theorem q_309_994 : js_I 309 994 = some (.aload_n 1, 1) := by decide +kernel
theorem q_309_995 : js_I 309 995 = some (.invokevirtual 121, 3) := by decide +kernel
theorem q_309_998 : js_I 309 998 = some (.aload_n 2, 1) := by decide +kernel
theorem q_309_999 : js_I 309 999 = some (.invokevirtual 125, 3) := by decide +kernel
theorem q_309_1002 : js_I 309 1002 = some (.if_icmp .eq 30, 3) := by decide +kernel
theorem q_309_1005 : js_I 309 1005 = some (.iconst 0, 1) := by decide +kernel
theorem q_309_1006 : js_I 309 1006 = some (.ireturn, 1) := by decide +kernel
theorem q_309_1007 : js_I 309 1007 = some (.aload_n 1, 1) := by decide +kernel
theorem q_309_1008 : js_I 309 1008 = some (.aload_n 0, 1) := by decide +kernel
theorem q_309_1009 : js_I 309 1009 = some (.iload 4, 2) := by decide +kernel
theorem q_309_1011 : js_I 309 1011 = some (.iconst 1, 1) := by decide +kernel
theorem q_309_1012 : js_I 309 1012 = some (.iadd, 1) := by decide +kernel
theorem q_309_1013 : js_I 309 1013 = some (.iaload, 1) := by decide +kernel
theorem q_309_1014 : js_I 309 1014 = some (.invokevirtual 126, 3) := by decide +kernel
theorem q_309_1017 : js_I 309 1017 = some (.aload_n 2, 1) := by decide +kernel
theorem q_309_1018 : js_I 309 1018 = some (.aload_n 0, 1) := by decide +kernel
theorem q_309_1019 : js_I 309 1019 = some (.iload 4, 2) := by decide +kernel
theorem q_309_1021 : js_I 309 1021 = some (.iconst 1, 1) := by decide +kernel
theorem q_309_1022 : js_I 309 1022 = some (.iadd, 1) := by decide +kernel
theorem q_309_1023 : js_I 309 1023 = some (.iaload, 1) := by decide +kernel
theorem q_309_1024 : js_I 309 1024 = some (.invokevirtual 129, 3) := by decide +kernel
theorem q_309_1027 : js_I 309 1027 = some (.if_icmp .eq 5, 3) := by decide +kernel
theorem q_309_1030 : js_I 309 1030 = some (.iconst 0, 1) := by decide +kernel
theorem q_309_1031 : js_I 309 1031 = some (.ireturn, 1) := by decide +kernel
theorem q_309_1032 : js_I 309 1032 = some (.iinc 4 5, 3) := by decide +kernel
theorem q_309_1035 : js_I 309 1035 = some (.goto (-1002), 3) := by decide +kernel
theorem qm_19_53 : ip_lk (vt_ML.getD 19 []) 53 = some (11, 2, 1, 0) := by decide +kernel
theorem qm_19_57 : ip_lk (vt_ML.getD 19 []) 57 = some (186, 2, 1, 12) := by decide +kernel
theorem qm_19_58 : ip_lk (vt_ML.getD 19 []) 58 = some (299, 0, 1, 0) := by decide +kernel
theorem qm_19_61 : ip_lk (vt_ML.getD 19 []) 61 = some (189, 0, 1, 12) := by decide +kernel
theorem qm_19_62 : ip_lk (vt_ML.getD 19 []) 62 = some (123, 2, 1, 0) := by decide +kernel
theorem qm_19_65 : ip_lk (vt_ML.getD 19 []) 65 = some (291, 2, 1, 12) := by decide +kernel
theorem qm_19_66 : ip_lk (vt_ML.getD 19 []) 66 = some (125, 2, 1, 0) := by decide +kernel
theorem qm_19_69 : ip_lk (vt_ML.getD 19 []) 69 = some (292, 2, 1, 12) := by decide +kernel
theorem qm_19_70 : ip_lk (vt_ML.getD 19 []) 70 = some (127, 2, 1, 0) := by decide +kernel
theorem qm_19_73 : ip_lk (vt_ML.getD 19 []) 73 = some (293, 2, 1, 12) := by decide +kernel
theorem qm_19_74 : ip_lk (vt_ML.getD 19 []) 74 = some (300, 4, 0, 0) := by decide +kernel
theorem qm_19_77 : ip_lk (vt_ML.getD 19 []) 77 = some (294, 2, 1, 12) := by decide +kernel
theorem qm_19_78 : ip_lk (vt_ML.getD 19 []) 78 = some (185, 0, 1, 12) := by decide +kernel
theorem qm_19_81 : ip_lk (vt_ML.getD 19 []) 81 = some (128, 3, 1, 0) := by decide +kernel
theorem qm_19_85 : ip_lk (vt_ML.getD 19 []) 85 = some (295, 3, 1, 12) := by decide +kernel
theorem qm_19_86 : ip_lk (vt_ML.getD 19 []) 86 = some (132, 2, 1, 0) := by decide +kernel
theorem qm_19_90 : ip_lk (vt_ML.getD 19 []) 90 = some (279, 2, 1, 12) := by decide +kernel
theorem qm_19_91 : ip_lk (vt_ML.getD 19 []) 91 = some (301, 3, 0, 0) := by decide +kernel
theorem qm_19_94 : ip_lk (vt_ML.getD 19 []) 94 = some (265, 1, 1, 12) := by decide +kernel
theorem qm_19_95 : ip_lk (vt_ML.getD 19 []) 95 = some (302, 2, 0, 0) := by decide +kernel
theorem qm_19_98 : ip_lk (vt_ML.getD 19 []) 98 = some (277, 0, 1, 12) := by decide +kernel
theorem qm_19_99 : ip_lk (vt_ML.getD 19 []) 99 = some (303, 3, 0, 0) := by decide +kernel
theorem qm_19_101 : ip_lk (vt_ML.getD 19 []) 101 = some (281, 1, 1, 12) := by decide +kernel
theorem qm_19_102 : ip_lk (vt_ML.getD 19 []) 102 = some (304, 4, 0, 0) := by decide +kernel
theorem qm_19_104 : ip_lk (vt_ML.getD 19 []) 104 = some (282, 2, 1, 12) := by decide +kernel
theorem qm_19_105 : ip_lk (vt_ML.getD 19 []) 105 = some (136, 4, 1, 0) := by decide +kernel
theorem qm_19_109 : ip_lk (vt_ML.getD 19 []) 109 = some (288, 4, 1, 12) := by decide +kernel
theorem qm_19_110 : ip_lk (vt_ML.getD 19 []) 110 = some (305, 4, 0, 0) := by decide +kernel
theorem qm_19_112 : ip_lk (vt_ML.getD 19 []) 112 = some (283, 2, 1, 12) := by decide +kernel
theorem qm_19_113 : ip_lk (vt_ML.getD 19 []) 113 = some (306, 4, 0, 0) := by decide +kernel
theorem qm_19_115 : ip_lk (vt_ML.getD 19 []) 115 = some (284, 2, 1, 12) := by decide +kernel
theorem qm_19_116 : ip_lk (vt_ML.getD 19 []) 116 = some (166, 4, 1, 0) := by decide +kernel
theorem qm_19_120 : ip_lk (vt_ML.getD 19 []) 120 = some (285, 4, 1, 12) := by decide +kernel
theorem qm_19_121 : ip_lk (vt_ML.getD 19 []) 121 = some (168, 0, 1, 0) := by decide +kernel
theorem qm_19_125 : ip_lk (vt_ML.getD 19 []) 125 = some (287, 0, 1, 12) := by decide +kernel
theorem qm_19_126 : ip_lk (vt_ML.getD 19 []) 126 = some (169, 1, 1, 0) := by decide +kernel
theorem qm_19_129 : ip_lk (vt_ML.getD 19 []) 129 = some (298, 1, 1, 12) := by decide +kernel
theorem qc_19_51 : ip_lk (vt_CL.getD 19 []) 51 = some (js_V (1, 4294967295)) := by decide +kernel
theorem b_309_33 {E : js_E} {d : Nat} {σ : js_S} {x4 : Int} {ux5 ux6 ux7 : js_v} : js_J E d 309 33 [(3, 100), (2, 0), (2, 83), (2, 136), (0, x4), ux5, ux6, ux7] [] σ = (if js_w ((E.2.1 : Int) - 5) < js_w x4 then js_r E (0, 1) σ else (if 0 ≤ js_w x4 ∧ js_w x4 < (E.2.1 : Int) then js_J E d 309 49 [(3, 100), (2, 0), (2, 83), (2, 136), (0, x4), ux5, ux6, ux7] [(0, js_iand ((E.2.2 (js_w x4).toNat).toInt) 31)] σ else none)) :=
  (j_iload q_309_33 rfl).trans <| (j_aload_n3 q_309_35 rfl).trans <| (j_slen q_309_36 rfl).trans <| (j_iconst q_309_37).trans <| (j_isub q_309_38).trans <| (j_cmpgt (t := 1038) q_309_39 rfl).trans (js_ite ((j_iconst q_309_1038).trans <| j_breturn1 q_309_1039 qr_309) ((j_aload_n3 q_309_42 rfl).trans <| (j_iload q_309_43 rfl).trans <| (j_sloadi q_309_45 rfl).trans <| js_itn <| (j_bi q_309_46 rfl).trans <| (j_iand q_309_48).trans <| rfl))
theorem s_309_49_0 {E : js_E} {d : Nat} {σ : js_S} {x4 z0 : Int} {ux5 ux6 ux7 : js_v} (h : js_w z0 = 0) : js_J E d 309 49 [(3, 100), (2, 0), (2, 83), (2, 136), (0, x4), ux5, ux6, ux7] [(0, z0)] σ = js_J E d 309 136 [(3, 100), (2, 0), (2, 83), (2, 136), (0, x4), ux5, ux6, ux7] [] σ :=
  j_tsw (t := 136) (off := 87) q_309_49 (by rw [h]; decide) (by rw [h]; decide) (by rw [h]; rfl) rfl
theorem s_309_49_1 {E : js_E} {d : Nat} {σ : js_S} {x4 z0 : Int} {ux5 ux6 ux7 : js_v} (h : js_w z0 = 1) : js_J E d 309 49 [(3, 100), (2, 0), (2, 83), (2, 136), (0, x4), ux5, ux6, ux7] [(0, z0)] σ = js_J E d 309 237 [(3, 100), (2, 0), (2, 83), (2, 136), (0, x4), ux5, ux6, ux7] [] σ :=
  j_tsw (t := 237) (off := 188) q_309_49 (by rw [h]; decide) (by rw [h]; decide) (by rw [h]; rfl) rfl
theorem s_309_49_2 {E : js_E} {d : Nat} {σ : js_S} {x4 z0 : Int} {ux5 ux6 ux7 : js_v} (h : js_w z0 = 2) : js_J E d 309 49 [(3, 100), (2, 0), (2, 83), (2, 136), (0, x4), ux5, ux6, ux7] [(0, z0)] σ = js_J E d 309 250 [(3, 100), (2, 0), (2, 83), (2, 136), (0, x4), ux5, ux6, ux7] [] σ :=
  j_tsw (t := 250) (off := 201) q_309_49 (by rw [h]; decide) (by rw [h]; decide) (by rw [h]; rfl) rfl
theorem s_309_49_3 {E : js_E} {d : Nat} {σ : js_S} {x4 z0 : Int} {ux5 ux6 ux7 : js_v} (h : js_w z0 = 3) : js_J E d 309 49 [(3, 100), (2, 0), (2, 83), (2, 136), (0, x4), ux5, ux6, ux7] [(0, z0)] σ = js_J E d 309 287 [(3, 100), (2, 0), (2, 83), (2, 136), (0, x4), ux5, ux6, ux7] [] σ :=
  j_tsw (t := 287) (off := 238) q_309_49 (by rw [h]; decide) (by rw [h]; decide) (by rw [h]; rfl) rfl
theorem s_309_49_4 {E : js_E} {d : Nat} {σ : js_S} {x4 z0 : Int} {ux5 ux6 ux7 : js_v} (h : js_w z0 = 4) : js_J E d 309 49 [(3, 100), (2, 0), (2, 83), (2, 136), (0, x4), ux5, ux6, ux7] [(0, z0)] σ = js_J E d 309 324 [(3, 100), (2, 0), (2, 83), (2, 136), (0, x4), ux5, ux6, ux7] [] σ :=
  j_tsw (t := 324) (off := 275) q_309_49 (by rw [h]; decide) (by rw [h]; decide) (by rw [h]; rfl) rfl
theorem s_309_49_5 {E : js_E} {d : Nat} {σ : js_S} {x4 z0 : Int} {ux5 ux6 ux7 : js_v} (h : js_w z0 = 5) : js_J E d 309 49 [(3, 100), (2, 0), (2, 83), (2, 136), (0, x4), ux5, ux6, ux7] [(0, z0)] σ = js_J E d 309 361 [(3, 100), (2, 0), (2, 83), (2, 136), (0, x4), ux5, ux6, ux7] [] σ :=
  j_tsw (t := 361) (off := 312) q_309_49 (by rw [h]; decide) (by rw [h]; decide) (by rw [h]; rfl) rfl
theorem s_309_49_6 {E : js_E} {d : Nat} {σ : js_S} {x4 z0 : Int} {ux5 ux6 ux7 : js_v} (h : js_w z0 = 6) : js_J E d 309 49 [(3, 100), (2, 0), (2, 83), (2, 136), (0, x4), ux5, ux6, ux7] [(0, z0)] σ = js_J E d 309 428 [(3, 100), (2, 0), (2, 83), (2, 136), (0, x4), ux5, ux6, ux7] [] σ :=
  j_tsw (t := 428) (off := 379) q_309_49 (by rw [h]; decide) (by rw [h]; decide) (by rw [h]; rfl) rfl
theorem s_309_49_7 {E : js_E} {d : Nat} {σ : js_S} {x4 z0 : Int} {ux5 ux6 ux7 : js_v} (h : js_w z0 = 7) : js_J E d 309 49 [(3, 100), (2, 0), (2, 83), (2, 136), (0, x4), ux5, ux6, ux7] [(0, z0)] σ = js_J E d 309 477 [(3, 100), (2, 0), (2, 83), (2, 136), (0, x4), ux5, ux6, ux7] [] σ :=
  j_tsw (t := 477) (off := 428) q_309_49 (by rw [h]; decide) (by rw [h]; decide) (by rw [h]; rfl) rfl
theorem s_309_49_8 {E : js_E} {d : Nat} {σ : js_S} {x4 z0 : Int} {ux5 ux6 ux7 : js_v} (h : js_w z0 = 8) : js_J E d 309 49 [(3, 100), (2, 0), (2, 83), (2, 136), (0, x4), ux5, ux6, ux7] [(0, z0)] σ = js_J E d 309 514 [(3, 100), (2, 0), (2, 83), (2, 136), (0, x4), ux5, ux6, ux7] [] σ :=
  j_tsw (t := 514) (off := 465) q_309_49 (by rw [h]; decide) (by rw [h]; decide) (by rw [h]; rfl) rfl
theorem s_309_49_9 {E : js_E} {d : Nat} {σ : js_S} {x4 z0 : Int} {ux5 ux6 ux7 : js_v} (h : js_w z0 = 9) : js_J E d 309 49 [(3, 100), (2, 0), (2, 83), (2, 136), (0, x4), ux5, ux6, ux7] [(0, z0)] σ = js_J E d 309 570 [(3, 100), (2, 0), (2, 83), (2, 136), (0, x4), ux5, ux6, ux7] [] σ :=
  j_tsw (t := 570) (off := 521) q_309_49 (by rw [h]; decide) (by rw [h]; decide) (by rw [h]; rfl) rfl
theorem s_309_49_10 {E : js_E} {d : Nat} {σ : js_S} {x4 z0 : Int} {ux5 ux6 ux7 : js_v} (h : js_w z0 = 10) : js_J E d 309 49 [(3, 100), (2, 0), (2, 83), (2, 136), (0, x4), ux5, ux6, ux7] [(0, z0)] σ = js_J E d 309 614 [(3, 100), (2, 0), (2, 83), (2, 136), (0, x4), ux5, ux6, ux7] [] σ :=
  j_tsw (t := 614) (off := 565) q_309_49 (by rw [h]; decide) (by rw [h]; decide) (by rw [h]; rfl) rfl
theorem s_309_49_11 {E : js_E} {d : Nat} {σ : js_S} {x4 z0 : Int} {ux5 ux6 ux7 : js_v} (h : js_w z0 = 11) : js_J E d 309 49 [(3, 100), (2, 0), (2, 83), (2, 136), (0, x4), ux5, ux6, ux7] [(0, z0)] σ = js_J E d 309 670 [(3, 100), (2, 0), (2, 83), (2, 136), (0, x4), ux5, ux6, ux7] [] σ :=
  j_tsw (t := 670) (off := 621) q_309_49 (by rw [h]; decide) (by rw [h]; decide) (by rw [h]; rfl) rfl
theorem s_309_49_12 {E : js_E} {d : Nat} {σ : js_S} {x4 z0 : Int} {ux5 ux6 ux7 : js_v} (h : js_w z0 = 12) : js_J E d 309 49 [(3, 100), (2, 0), (2, 83), (2, 136), (0, x4), ux5, ux6, ux7] [(0, z0)] σ = js_J E d 309 738 [(3, 100), (2, 0), (2, 83), (2, 136), (0, x4), ux5, ux6, ux7] [] σ :=
  j_tsw (t := 738) (off := 689) q_309_49 (by rw [h]; decide) (by rw [h]; decide) (by rw [h]; rfl) rfl
theorem s_309_49_13 {E : js_E} {d : Nat} {σ : js_S} {x4 z0 : Int} {ux5 ux6 ux7 : js_v} (h : js_w z0 = 13) : js_J E d 309 49 [(3, 100), (2, 0), (2, 83), (2, 136), (0, x4), ux5, ux6, ux7] [(0, z0)] σ = js_J E d 309 799 [(3, 100), (2, 0), (2, 83), (2, 136), (0, x4), ux5, ux6, ux7] [] σ :=
  j_tsw (t := 799) (off := 750) q_309_49 (by rw [h]; decide) (by rw [h]; decide) (by rw [h]; rfl) rfl
theorem s_309_49_14 {E : js_E} {d : Nat} {σ : js_S} {x4 z0 : Int} {ux5 ux6 ux7 : js_v} (h : js_w z0 = 14) : js_J E d 309 49 [(3, 100), (2, 0), (2, 83), (2, 136), (0, x4), ux5, ux6, ux7] [(0, z0)] σ = js_J E d 309 866 [(3, 100), (2, 0), (2, 83), (2, 136), (0, x4), ux5, ux6, ux7] [] σ :=
  j_tsw (t := 866) (off := 817) q_309_49 (by rw [h]; decide) (by rw [h]; decide) (by rw [h]; rfl) rfl
theorem s_309_49_15 {E : js_E} {d : Nat} {σ : js_S} {x4 z0 : Int} {ux5 ux6 ux7 : js_v} (h : js_w z0 = 15) : js_J E d 309 49 [(3, 100), (2, 0), (2, 83), (2, 136), (0, x4), ux5, ux6, ux7] [(0, z0)] σ = js_J E d 309 933 [(3, 100), (2, 0), (2, 83), (2, 136), (0, x4), ux5, ux6, ux7] [] σ :=
  j_tsw (t := 933) (off := 884) q_309_49 (by rw [h]; decide) (by rw [h]; decide) (by rw [h]; rfl) rfl
theorem s_309_49_16 {E : js_E} {d : Nat} {σ : js_S} {x4 z0 : Int} {ux5 ux6 ux7 : js_v} (h : js_w z0 = 16) : js_J E d 309 49 [(3, 100), (2, 0), (2, 83), (2, 136), (0, x4), ux5, ux6, ux7] [(0, z0)] σ = js_J E d 309 994 [(3, 100), (2, 0), (2, 83), (2, 136), (0, x4), ux5, ux6, ux7] [] σ :=
  j_tsw (t := 994) (off := 945) q_309_49 (by rw [h]; decide) (by rw [h]; decide) (by rw [h]; rfl) rfl
theorem s_309_49_17 {E : js_E} {d : Nat} {σ : js_S} {x4 z0 : Int} {ux5 ux6 ux7 : js_v} (h : js_w z0 = 17) : js_J E d 309 49 [(3, 100), (2, 0), (2, 83), (2, 136), (0, x4), ux5, ux6, ux7] [(0, z0)] σ = js_J E d 309 1007 [(3, 100), (2, 0), (2, 83), (2, 136), (0, x4), ux5, ux6, ux7] [] σ :=
  j_tsw (t := 1007) (off := 958) q_309_49 (by rw [h]; decide) (by rw [h]; decide) (by rw [h]; rfl) rfl
theorem s_309_49_d {E : js_E} {d : Nat} {σ : js_S} {x4 z0 : Int} {ux5 ux6 ux7 : js_v} (h : js_w z0 < 0 ∨ 17 < js_w z0) : js_J E d 309 49 [(3, 100), (2, 0), (2, 83), (2, 136), (0, x4), ux5, ux6, ux7] [(0, z0)] σ = js_J E d 309 1032 [(3, 100), (2, 0), (2, 83), (2, 136), (0, x4), ux5, ux6, ux7] [] σ :=
  j_tswd (t := 1032) q_309_49 h rfl
theorem b_309_136 {E : js_E} {d : Nat} {σ : js_S} {x4 : Int} {ux5 ux6 ux7 : js_v} : js_J E d 309 136 [(3, 100), (2, 0), (2, 83), (2, 136), (0, x4), ux5, ux6, ux7] [] σ = (if 0 ≤ js_w (x4 + 1) ∧ js_w (x4 + 1) < (E.2.1 : Int) then (if 0 ≤ js_w (x4 + 2) ∧ js_w (x4 + 2) < (E.2.1 : Int) then (if 0 ≤ js_w (x4 + 3) ∧ js_w (x4 + 3) < (E.2.1 : Int) then (if 0 ≤ js_w (x4 + 4) ∧ js_w (x4 + 4) < (E.2.1 : Int) then js_J E d 309 181 [(3, 100), (2, 0), (2, 83), (2, 136), (0, x4), ux5, ux6, ux7] [(1, js_lor (js_lshl (js_w ((E.2.2 (js_w (x4 + 3)).toNat).toInt)) 32) (js_land (js_w ((E.2.2 (js_w (x4 + 4)).toNat).toInt)) 4294967295)), (1, js_lor (js_lshl (js_w ((E.2.2 (js_w (x4 + 1)).toNat).toInt)) 32) (js_land (js_w ((E.2.2 (js_w (x4 + 2)).toNat).toInt)) 4294967295)), (2, 0)] σ else none) else none) else none) else none) :=
  (j_aload_n q_309_136 rfl).trans <| (j_aload_n3 q_309_137 rfl).trans <| (j_iload q_309_138 rfl).trans <| (j_iconst q_309_140).trans <| (j_iadd q_309_141).trans <| (j_sloadi q_309_142 rfl).trans <| js_itn <| (j_i2l q_309_143).trans <| (j_bi q_309_144 rfl).trans <| (j_lshl q_309_146).trans <| (j_aload_n3 q_309_147 rfl).trans <| (j_iload q_309_148 rfl).trans <| (j_iconst q_309_150).trans <| (j_iadd q_309_151).trans <| (j_sloadi q_309_152 rfl).trans <| js_itn <| (j_i2l q_309_153).trans <| (j_ldc2 (v := (1, 4294967295)) q_309_154 (js_Co qy_309 qc_19_51)).trans <| (j_land q_309_157).trans <| (j_lor q_309_158).trans <| (j_aload_n3 q_309_159 rfl).trans <| (j_iload q_309_160 rfl).trans <| (j_iconst q_309_162).trans <| (j_iadd q_309_163).trans <| (j_sloadi q_309_164 rfl).trans <| js_itn <| (j_i2l q_309_165).trans <| (j_bi q_309_166 rfl).trans <| (j_lshl q_309_168).trans <| (j_aload_n3 q_309_169 rfl).trans <| (j_iload q_309_170 rfl).trans <| (j_iconst q_309_172).trans <| (j_iadd q_309_173).trans <| (j_sloadi q_309_174 rfl).trans <| js_itn <| (j_i2l q_309_175).trans <| (j_ldc2 (v := (1, 4294967295)) q_309_176 (js_Co qy_309 qc_19_51)).trans <| (j_land q_309_179).trans <| (j_lor q_309_180).trans <| rfl
theorem k_309_181 {E : js_E} {d : Nat} {σ σ2 : js_S} {x4 z1 z2 : Int} {ux5 ux6 ux7 : js_v} {v : Int} (hd : 1 ≤ d) (hz : js_J E (d - 1) 11 0 [(2, 0), (1, z1), (9, 0), (1, z2), (9, 0)] [] σ = js_r E (0, v) σ2) : js_J E d 309 181 [(3, 100), (2, 0), (2, 83), (2, 136), (0, x4), ux5, ux6, ux7] [(1, z2), (1, z1), (2, 0)] σ = js_J E d 309 184 [(3, 100), (2, 0), (2, 83), (2, 136), (0, x4), ux5, ux6, ux7] [(0, v)] σ2 :=
  j_call (m := 0) (js_caV q_309_181 (js_Mo qy_309 qm_19_53)) (js_agV (av := [(1, z1), (1, z2)]) (st := []) rfl rfl js_o0 rfl) rfl rfl (by rw [ql_11]; exact Nat.le_of_ble_eq_true rfl) (Nat.le_of_ble_eq_true rfl) hd hz
theorem b_309_184 {E : js_E} {d : Nat} {σ : js_S} {x4 z0 : Int} {ux5 ux6 ux7 : js_v} : js_J E d 309 184 [(3, 100), (2, 0), (2, 83), (2, 136), (0, x4), ux5, ux6, ux7] [(0, z0)] σ = (if 0 ≤ js_w (x4 + 1) ∧ js_w (x4 + 1) < (E.2.1 : Int) then (if 0 ≤ js_w (x4 + 2) ∧ js_w (x4 + 2) < (E.2.1 : Int) then (if 0 ≤ js_w (x4 + 3) ∧ js_w (x4 + 3) < (E.2.1 : Int) then (if 0 ≤ js_w (x4 + 4) ∧ js_w (x4 + 4) < (E.2.1 : Int) then js_J E d 309 229 [(3, 100), (2, 0), (2, 83), (2, 136), (0, x4), ux5, ux6, ux7] [(1, js_lor (js_lshl (js_w ((E.2.2 (js_w (x4 + 3)).toNat).toInt)) 32) (js_land (js_w ((E.2.2 (js_w (x4 + 4)).toNat).toInt)) 4294967295)), (1, js_lor (js_lshl (js_w ((E.2.2 (js_w (x4 + 1)).toNat).toInt)) 32) (js_land (js_w ((E.2.2 (js_w (x4 + 2)).toNat).toInt)) 4294967295)), (2, 83), (0, z0)] σ else none) else none) else none) else none) :=
  (j_aload_n q_309_184 rfl).trans <| (j_aload_n3 q_309_185 rfl).trans <| (j_iload q_309_186 rfl).trans <| (j_iconst q_309_188).trans <| (j_iadd q_309_189).trans <| (j_sloadi q_309_190 rfl).trans <| js_itn <| (j_i2l q_309_191).trans <| (j_bi q_309_192 rfl).trans <| (j_lshl q_309_194).trans <| (j_aload_n3 q_309_195 rfl).trans <| (j_iload q_309_196 rfl).trans <| (j_iconst q_309_198).trans <| (j_iadd q_309_199).trans <| (j_sloadi q_309_200 rfl).trans <| js_itn <| (j_i2l q_309_201).trans <| (j_ldc2 (v := (1, 4294967295)) q_309_202 (js_Co qy_309 qc_19_51)).trans <| (j_land q_309_205).trans <| (j_lor q_309_206).trans <| (j_aload_n3 q_309_207 rfl).trans <| (j_iload q_309_208 rfl).trans <| (j_iconst q_309_210).trans <| (j_iadd q_309_211).trans <| (j_sloadi q_309_212 rfl).trans <| js_itn <| (j_i2l q_309_213).trans <| (j_bi q_309_214 rfl).trans <| (j_lshl q_309_216).trans <| (j_aload_n3 q_309_217 rfl).trans <| (j_iload q_309_218 rfl).trans <| (j_iconst q_309_220).trans <| (j_iadd q_309_221).trans <| (j_sloadi q_309_222 rfl).trans <| js_itn <| (j_i2l q_309_223).trans <| (j_ldc2 (v := (1, 4294967295)) q_309_224 (js_Co qy_309 qc_19_51)).trans <| (j_land q_309_227).trans <| (j_lor q_309_228).trans <| rfl
theorem k_309_229 {E : js_E} {d : Nat} {σ σ2 : js_S} {x4 z0 z2 z3 : Int} {ux5 ux6 ux7 : js_v} {v : Int} (hd : 1 ≤ d) (hz : js_J E (d - 1) 186 0 [(2, 83), (1, z2), (9, 0), (1, z3), (9, 0), (9, 0), (9, 0), (9, 0)] [] σ = js_r E (0, v) σ2) : js_J E d 309 229 [(3, 100), (2, 0), (2, 83), (2, 136), (0, x4), ux5, ux6, ux7] [(1, z3), (1, z2), (2, 83), (0, z0)] σ = js_J E d 309 232 [(3, 100), (2, 0), (2, 83), (2, 136), (0, x4), ux5, ux6, ux7] [(0, v), (0, z0)] σ2 :=
  j_call (m := 3) (js_caV q_309_229 (js_Mo qy_309 qm_19_57)) (js_agV (av := [(1, z2), (1, z3)]) (st := [(0, z0)]) rfl rfl js_o83 rfl) rfl rfl (by rw [ql_186]; exact Nat.le_of_ble_eq_true rfl) (Nat.le_of_ble_eq_true rfl) hd hz
theorem b_309_232 {E : js_E} {d : Nat} {σ : js_S} {x4 z0 z1 : Int} {ux5 ux6 ux7 : js_v} : js_J E d 309 232 [(3, 100), (2, 0), (2, 83), (2, 136), (0, x4), ux5, ux6, ux7] [(0, z1), (0, z0)] σ = (if js_w z0 = js_w z1 then js_J E d 309 1032 [(3, 100), (2, 0), (2, 83), (2, 136), (0, x4), ux5, ux6, ux7] [] σ else js_r E (0, 0) σ) :=
  (j_cmpeq (t := 1032) q_309_232 rfl).trans (js_ite (rfl) ((j_iconst q_309_235).trans <| j_breturn0 q_309_236 qr_309))
theorem b_309_237 {E : js_E} {d : Nat} {σ : js_S} {x4 : Int} {ux5 ux6 ux7 : js_v} : js_J E d 309 237 [(3, 100), (2, 0), (2, 83), (2, 136), (0, x4), ux5, ux6, ux7] [] σ = js_J E d 309 238 [(3, 100), (2, 0), (2, 83), (2, 136), (0, x4), ux5, ux6, ux7] [(2, 0)] σ :=
  (j_aload_n q_309_237 rfl).trans <| rfl
theorem k_309_238 {E : js_E} {d : Nat} {σ σ2 : js_S} {x4 : Int} {ux5 ux6 ux7 : js_v} {v : Int} (hd : 1 ≤ d) (hz : js_J E (d - 1) 299 0 [(2, 0), (9, 0), (9, 0)] [] σ = js_r E (0, v) σ2) : js_J E d 309 238 [(3, 100), (2, 0), (2, 83), (2, 136), (0, x4), ux5, ux6, ux7] [(2, 0)] σ = js_J E d 309 241 [(3, 100), (2, 0), (2, 83), (2, 136), (0, x4), ux5, ux6, ux7] [(0, v)] σ2 :=
  j_call (m := 2) (js_caV q_309_238 (js_Mo qy_309 qm_19_58)) (js_agV (av := []) (st := []) rfl rfl js_o0 rfl) rfl rfl (by rw [ql_299]; exact Nat.le_of_ble_eq_true rfl) (Nat.le_of_ble_eq_true rfl) hd hz
theorem b_309_241 {E : js_E} {d : Nat} {σ : js_S} {x4 z0 : Int} {ux5 ux6 ux7 : js_v} : js_J E d 309 241 [(3, 100), (2, 0), (2, 83), (2, 136), (0, x4), ux5, ux6, ux7] [(0, z0)] σ = js_J E d 309 242 [(3, 100), (2, 0), (2, 83), (2, 136), (0, x4), ux5, ux6, ux7] [(2, 83), (0, z0)] σ :=
  (j_aload_n q_309_241 rfl).trans <| rfl
theorem k_309_242 {E : js_E} {d : Nat} {σ σ2 : js_S} {x4 z0 : Int} {ux5 ux6 ux7 : js_v} {v : Int} (hd : 1 ≤ d) (hz : js_J E (d - 1) 189 0 [(2, 83), (9, 0), (9, 0), (9, 0), (9, 0), (9, 0), (9, 0)] [] σ = js_r E (0, v) σ2) : js_J E d 309 242 [(3, 100), (2, 0), (2, 83), (2, 136), (0, x4), ux5, ux6, ux7] [(2, 83), (0, z0)] σ = js_J E d 309 245 [(3, 100), (2, 0), (2, 83), (2, 136), (0, x4), ux5, ux6, ux7] [(0, v), (0, z0)] σ2 :=
  j_call (m := 6) (js_caV q_309_242 (js_Mo qy_309 qm_19_61)) (js_agV (av := []) (st := [(0, z0)]) rfl rfl js_o83 rfl) rfl rfl (by rw [ql_189]; exact Nat.le_of_ble_eq_true rfl) (Nat.le_of_ble_eq_true rfl) hd hz
theorem b_309_245 {E : js_E} {d : Nat} {σ : js_S} {x4 z0 z1 : Int} {ux5 ux6 ux7 : js_v} : js_J E d 309 245 [(3, 100), (2, 0), (2, 83), (2, 136), (0, x4), ux5, ux6, ux7] [(0, z1), (0, z0)] σ = (if js_w z0 = js_w z1 then js_J E d 309 1032 [(3, 100), (2, 0), (2, 83), (2, 136), (0, x4), ux5, ux6, ux7] [] σ else js_r E (0, 0) σ) :=
  (j_cmpeq (t := 1032) q_309_245 rfl).trans (js_ite (rfl) ((j_iconst q_309_248).trans <| j_breturn0 q_309_249 qr_309))
theorem b_309_250 {E : js_E} {d : Nat} {σ : js_S} {x4 : Int} {ux5 ux6 ux7 : js_v} : js_J E d 309 250 [(3, 100), (2, 0), (2, 83), (2, 136), (0, x4), ux5, ux6, ux7] [] σ = (if 0 ≤ js_w (x4 + 1) ∧ js_w (x4 + 1) < (E.2.1 : Int) then (if 0 ≤ js_w (x4 + 2) ∧ js_w (x4 + 2) < (E.2.1 : Int) then js_J E d 309 263 [(3, 100), (2, 0), (2, 83), (2, 136), (0, x4), ux5, ux6, ux7] [(0, (E.2.2 (js_w (x4 + 2)).toNat).toInt), (0, (E.2.2 (js_w (x4 + 1)).toNat).toInt), (2, 0)] σ else none) else none) :=
  (j_aload_n q_309_250 rfl).trans <| (j_aload_n3 q_309_251 rfl).trans <| (j_iload q_309_252 rfl).trans <| (j_iconst q_309_254).trans <| (j_iadd q_309_255).trans <| (j_sloadi q_309_256 rfl).trans <| js_itn <| (j_aload_n3 q_309_257 rfl).trans <| (j_iload q_309_258 rfl).trans <| (j_iconst q_309_260).trans <| (j_iadd q_309_261).trans <| (j_sloadi q_309_262 rfl).trans <| js_itn <| rfl
theorem k_309_263 {E : js_E} {d : Nat} {σ σ2 : js_S} {x4 z1 z2 : Int} {ux5 ux6 ux7 : js_v} {v : Int} (hd : 1 ≤ d) (hz : js_J E (d - 1) 123 0 [(2, 0), (0, z1), (0, z2), (9, 0)] [] σ = js_r E (0, v) σ2) : js_J E d 309 263 [(3, 100), (2, 0), (2, 83), (2, 136), (0, x4), ux5, ux6, ux7] [(0, z2), (0, z1), (2, 0)] σ = js_J E d 309 266 [(3, 100), (2, 0), (2, 83), (2, 136), (0, x4), ux5, ux6, ux7] [(0, v)] σ2 :=
  j_call (m := 1) (js_caV q_309_263 (js_Mo qy_309 qm_19_62)) (js_agV (av := [(0, z1), (0, z2)]) (st := []) rfl rfl js_o0 rfl) rfl rfl (by rw [ql_123]; exact Nat.le_of_ble_eq_true rfl) (Nat.le_of_ble_eq_true rfl) hd hz
theorem b_309_266 {E : js_E} {d : Nat} {σ : js_S} {x4 z0 : Int} {ux5 ux6 ux7 : js_v} : js_J E d 309 266 [(3, 100), (2, 0), (2, 83), (2, 136), (0, x4), ux5, ux6, ux7] [(0, z0)] σ = (if 0 ≤ js_w (x4 + 1) ∧ js_w (x4 + 1) < (E.2.1 : Int) then (if 0 ≤ js_w (x4 + 2) ∧ js_w (x4 + 2) < (E.2.1 : Int) then js_J E d 309 279 [(3, 100), (2, 0), (2, 83), (2, 136), (0, x4), ux5, ux6, ux7] [(0, (E.2.2 (js_w (x4 + 2)).toNat).toInt), (0, (E.2.2 (js_w (x4 + 1)).toNat).toInt), (2, 83), (0, z0)] σ else none) else none) :=
  (j_aload_n q_309_266 rfl).trans <| (j_aload_n3 q_309_267 rfl).trans <| (j_iload q_309_268 rfl).trans <| (j_iconst q_309_270).trans <| (j_iadd q_309_271).trans <| (j_sloadi q_309_272 rfl).trans <| js_itn <| (j_aload_n3 q_309_273 rfl).trans <| (j_iload q_309_274 rfl).trans <| (j_iconst q_309_276).trans <| (j_iadd q_309_277).trans <| (j_sloadi q_309_278 rfl).trans <| js_itn <| rfl
theorem k_309_279 {E : js_E} {d : Nat} {σ σ2 : js_S} {x4 z0 z2 z3 : Int} {ux5 ux6 ux7 : js_v} {v : Int} (hd : 1 ≤ d) (hz : js_J E (d - 1) 291 0 [(2, 83), (0, z2), (0, z3)] [] σ = js_r E (0, v) σ2) : js_J E d 309 279 [(3, 100), (2, 0), (2, 83), (2, 136), (0, x4), ux5, ux6, ux7] [(0, z3), (0, z2), (2, 83), (0, z0)] σ = js_J E d 309 282 [(3, 100), (2, 0), (2, 83), (2, 136), (0, x4), ux5, ux6, ux7] [(0, v), (0, z0)] σ2 :=
  j_call (m := 0) (js_caV q_309_279 (js_Mo qy_309 qm_19_65)) (js_agV (av := [(0, z2), (0, z3)]) (st := [(0, z0)]) rfl rfl js_o83 rfl) rfl rfl (by rw [ql_291]; exact Nat.le_of_ble_eq_true rfl) (Nat.le_of_ble_eq_true rfl) hd hz
theorem b_309_282 {E : js_E} {d : Nat} {σ : js_S} {x4 z0 z1 : Int} {ux5 ux6 ux7 : js_v} : js_J E d 309 282 [(3, 100), (2, 0), (2, 83), (2, 136), (0, x4), ux5, ux6, ux7] [(0, z1), (0, z0)] σ = (if js_w z0 = js_w z1 then js_J E d 309 1032 [(3, 100), (2, 0), (2, 83), (2, 136), (0, x4), ux5, ux6, ux7] [] σ else js_r E (0, 0) σ) :=
  (j_cmpeq (t := 1032) q_309_282 rfl).trans (js_ite (rfl) ((j_iconst q_309_285).trans <| j_breturn0 q_309_286 qr_309))
theorem b_309_287 {E : js_E} {d : Nat} {σ : js_S} {x4 : Int} {ux5 ux6 ux7 : js_v} : js_J E d 309 287 [(3, 100), (2, 0), (2, 83), (2, 136), (0, x4), ux5, ux6, ux7] [] σ = (if 0 ≤ js_w (x4 + 1) ∧ js_w (x4 + 1) < (E.2.1 : Int) then (if 0 ≤ js_w (x4 + 2) ∧ js_w (x4 + 2) < (E.2.1 : Int) then js_J E d 309 300 [(3, 100), (2, 0), (2, 83), (2, 136), (0, x4), ux5, ux6, ux7] [(0, (E.2.2 (js_w (x4 + 2)).toNat).toInt), (0, (E.2.2 (js_w (x4 + 1)).toNat).toInt), (2, 0)] σ else none) else none) :=
  (j_aload_n q_309_287 rfl).trans <| (j_aload_n3 q_309_288 rfl).trans <| (j_iload q_309_289 rfl).trans <| (j_iconst q_309_291).trans <| (j_iadd q_309_292).trans <| (j_sloadi q_309_293 rfl).trans <| js_itn <| (j_aload_n3 q_309_294 rfl).trans <| (j_iload q_309_295 rfl).trans <| (j_iconst q_309_297).trans <| (j_iadd q_309_298).trans <| (j_sloadi q_309_299 rfl).trans <| js_itn <| rfl
theorem k_309_300 {E : js_E} {d : Nat} {σ σ2 : js_S} {x4 z1 z2 : Int} {ux5 ux6 ux7 : js_v} {v : Int} (hd : 1 ≤ d) (hz : js_J E (d - 1) 125 0 [(2, 0), (0, z1), (0, z2)] [] σ = js_r E (0, v) σ2) : js_J E d 309 300 [(3, 100), (2, 0), (2, 83), (2, 136), (0, x4), ux5, ux6, ux7] [(0, z2), (0, z1), (2, 0)] σ = js_J E d 309 303 [(3, 100), (2, 0), (2, 83), (2, 136), (0, x4), ux5, ux6, ux7] [(0, v)] σ2 :=
  j_call (m := 0) (js_caV q_309_300 (js_Mo qy_309 qm_19_66)) (js_agV (av := [(0, z1), (0, z2)]) (st := []) rfl rfl js_o0 rfl) rfl rfl (by rw [ql_125]; exact Nat.le_of_ble_eq_true rfl) (Nat.le_of_ble_eq_true rfl) hd hz
theorem b_309_303 {E : js_E} {d : Nat} {σ : js_S} {x4 z0 : Int} {ux5 ux6 ux7 : js_v} : js_J E d 309 303 [(3, 100), (2, 0), (2, 83), (2, 136), (0, x4), ux5, ux6, ux7] [(0, z0)] σ = (if 0 ≤ js_w (x4 + 1) ∧ js_w (x4 + 1) < (E.2.1 : Int) then (if 0 ≤ js_w (x4 + 2) ∧ js_w (x4 + 2) < (E.2.1 : Int) then js_J E d 309 316 [(3, 100), (2, 0), (2, 83), (2, 136), (0, x4), ux5, ux6, ux7] [(0, (E.2.2 (js_w (x4 + 2)).toNat).toInt), (0, (E.2.2 (js_w (x4 + 1)).toNat).toInt), (2, 83), (0, z0)] σ else none) else none) :=
  (j_aload_n q_309_303 rfl).trans <| (j_aload_n3 q_309_304 rfl).trans <| (j_iload q_309_305 rfl).trans <| (j_iconst q_309_307).trans <| (j_iadd q_309_308).trans <| (j_sloadi q_309_309 rfl).trans <| js_itn <| (j_aload_n3 q_309_310 rfl).trans <| (j_iload q_309_311 rfl).trans <| (j_iconst q_309_313).trans <| (j_iadd q_309_314).trans <| (j_sloadi q_309_315 rfl).trans <| js_itn <| rfl
theorem k_309_316 {E : js_E} {d : Nat} {σ σ2 : js_S} {x4 z0 z2 z3 : Int} {ux5 ux6 ux7 : js_v} {v : Int} (hd : 1 ≤ d) (hz : js_J E (d - 1) 292 0 [(2, 83), (0, z2), (0, z3)] [] σ = js_r E (0, v) σ2) : js_J E d 309 316 [(3, 100), (2, 0), (2, 83), (2, 136), (0, x4), ux5, ux6, ux7] [(0, z3), (0, z2), (2, 83), (0, z0)] σ = js_J E d 309 319 [(3, 100), (2, 0), (2, 83), (2, 136), (0, x4), ux5, ux6, ux7] [(0, v), (0, z0)] σ2 :=
  j_call (m := 0) (js_caV q_309_316 (js_Mo qy_309 qm_19_69)) (js_agV (av := [(0, z2), (0, z3)]) (st := [(0, z0)]) rfl rfl js_o83 rfl) rfl rfl (by rw [ql_292]; exact Nat.le_of_ble_eq_true rfl) (Nat.le_of_ble_eq_true rfl) hd hz
theorem b_309_319 {E : js_E} {d : Nat} {σ : js_S} {x4 z0 z1 : Int} {ux5 ux6 ux7 : js_v} : js_J E d 309 319 [(3, 100), (2, 0), (2, 83), (2, 136), (0, x4), ux5, ux6, ux7] [(0, z1), (0, z0)] σ = (if js_w z0 = js_w z1 then js_J E d 309 1032 [(3, 100), (2, 0), (2, 83), (2, 136), (0, x4), ux5, ux6, ux7] [] σ else js_r E (0, 0) σ) :=
  (j_cmpeq (t := 1032) q_309_319 rfl).trans (js_ite (rfl) ((j_iconst q_309_322).trans <| j_breturn0 q_309_323 qr_309))
theorem b_309_324 {E : js_E} {d : Nat} {σ : js_S} {x4 : Int} {ux5 ux6 ux7 : js_v} : js_J E d 309 324 [(3, 100), (2, 0), (2, 83), (2, 136), (0, x4), ux5, ux6, ux7] [] σ = (if 0 ≤ js_w (x4 + 1) ∧ js_w (x4 + 1) < (E.2.1 : Int) then (if 0 ≤ js_w (x4 + 2) ∧ js_w (x4 + 2) < (E.2.1 : Int) then js_J E d 309 337 [(3, 100), (2, 0), (2, 83), (2, 136), (0, x4), ux5, ux6, ux7] [(0, (E.2.2 (js_w (x4 + 2)).toNat).toInt), (0, (E.2.2 (js_w (x4 + 1)).toNat).toInt), (2, 0)] σ else none) else none) :=
  (j_aload_n q_309_324 rfl).trans <| (j_aload_n3 q_309_325 rfl).trans <| (j_iload q_309_326 rfl).trans <| (j_iconst q_309_328).trans <| (j_iadd q_309_329).trans <| (j_sloadi q_309_330 rfl).trans <| js_itn <| (j_aload_n3 q_309_331 rfl).trans <| (j_iload q_309_332 rfl).trans <| (j_iconst q_309_334).trans <| (j_iadd q_309_335).trans <| (j_sloadi q_309_336 rfl).trans <| js_itn <| rfl
theorem k_309_337 {E : js_E} {d : Nat} {σ σ2 : js_S} {x4 z1 z2 : Int} {ux5 ux6 ux7 : js_v} {v : Int} (hd : 1 ≤ d) (hz : js_J E (d - 1) 127 0 [(2, 0), (0, z1), (0, z2), (9, 0)] [] σ = js_r E (0, v) σ2) : js_J E d 309 337 [(3, 100), (2, 0), (2, 83), (2, 136), (0, x4), ux5, ux6, ux7] [(0, z2), (0, z1), (2, 0)] σ = js_J E d 309 340 [(3, 100), (2, 0), (2, 83), (2, 136), (0, x4), ux5, ux6, ux7] [(0, v)] σ2 :=
  j_call (m := 1) (js_caV q_309_337 (js_Mo qy_309 qm_19_70)) (js_agV (av := [(0, z1), (0, z2)]) (st := []) rfl rfl js_o0 rfl) rfl rfl (by rw [ql_127]; exact Nat.le_of_ble_eq_true rfl) (Nat.le_of_ble_eq_true rfl) hd hz
theorem b_309_340 {E : js_E} {d : Nat} {σ : js_S} {x4 z0 : Int} {ux5 ux6 ux7 : js_v} : js_J E d 309 340 [(3, 100), (2, 0), (2, 83), (2, 136), (0, x4), ux5, ux6, ux7] [(0, z0)] σ = (if 0 ≤ js_w (x4 + 1) ∧ js_w (x4 + 1) < (E.2.1 : Int) then (if 0 ≤ js_w (x4 + 2) ∧ js_w (x4 + 2) < (E.2.1 : Int) then js_J E d 309 353 [(3, 100), (2, 0), (2, 83), (2, 136), (0, x4), ux5, ux6, ux7] [(0, (E.2.2 (js_w (x4 + 2)).toNat).toInt), (0, (E.2.2 (js_w (x4 + 1)).toNat).toInt), (2, 83), (0, z0)] σ else none) else none) :=
  (j_aload_n q_309_340 rfl).trans <| (j_aload_n3 q_309_341 rfl).trans <| (j_iload q_309_342 rfl).trans <| (j_iconst q_309_344).trans <| (j_iadd q_309_345).trans <| (j_sloadi q_309_346 rfl).trans <| js_itn <| (j_aload_n3 q_309_347 rfl).trans <| (j_iload q_309_348 rfl).trans <| (j_iconst q_309_350).trans <| (j_iadd q_309_351).trans <| (j_sloadi q_309_352 rfl).trans <| js_itn <| rfl
theorem k_309_353 {E : js_E} {d : Nat} {σ σ2 : js_S} {x4 z0 z2 z3 : Int} {ux5 ux6 ux7 : js_v} {v : Int} (hd : 1 ≤ d) (hz : js_J E (d - 1) 293 0 [(2, 83), (0, z2), (0, z3)] [] σ = js_r E (0, v) σ2) : js_J E d 309 353 [(3, 100), (2, 0), (2, 83), (2, 136), (0, x4), ux5, ux6, ux7] [(0, z3), (0, z2), (2, 83), (0, z0)] σ = js_J E d 309 356 [(3, 100), (2, 0), (2, 83), (2, 136), (0, x4), ux5, ux6, ux7] [(0, v), (0, z0)] σ2 :=
  j_call (m := 0) (js_caV q_309_353 (js_Mo qy_309 qm_19_73)) (js_agV (av := [(0, z2), (0, z3)]) (st := [(0, z0)]) rfl rfl js_o83 rfl) rfl rfl (by rw [ql_293]; exact Nat.le_of_ble_eq_true rfl) (Nat.le_of_ble_eq_true rfl) hd hz
theorem b_309_356 {E : js_E} {d : Nat} {σ : js_S} {x4 z0 z1 : Int} {ux5 ux6 ux7 : js_v} : js_J E d 309 356 [(3, 100), (2, 0), (2, 83), (2, 136), (0, x4), ux5, ux6, ux7] [(0, z1), (0, z0)] σ = (if js_w z0 = js_w z1 then js_J E d 309 1032 [(3, 100), (2, 0), (2, 83), (2, 136), (0, x4), ux5, ux6, ux7] [] σ else js_r E (0, 0) σ) :=
  (j_cmpeq (t := 1032) q_309_356 rfl).trans (js_ite (rfl) ((j_iconst q_309_359).trans <| j_breturn0 q_309_360 qr_309))
theorem b_309_361 {E : js_E} {d : Nat} {σ : js_S} {x4 : Int} {ux5 ux6 ux7 : js_v} : js_J E d 309 361 [(3, 100), (2, 0), (2, 83), (2, 136), (0, x4), ux5, ux6, ux7] [] σ = (if 0 ≤ js_w (x4 + 1) ∧ js_w (x4 + 1) < (E.2.1 : Int) then (if 0 ≤ js_w (x4 + 2) ∧ js_w (x4 + 2) < (E.2.1 : Int) then js_J E d 309 375 [(3, 100), (2, 0), (2, 83), (2, 136), (0, x4), ux5, ux6, ux7] [(2, 136), (0, (E.2.2 (js_w (x4 + 2)).toNat).toInt), (0, (E.2.2 (js_w (x4 + 1)).toNat).toInt), (2, 0)] σ else none) else none) :=
  (j_aload_n q_309_361 rfl).trans <| (j_aload_n3 q_309_362 rfl).trans <| (j_iload q_309_363 rfl).trans <| (j_iconst q_309_365).trans <| (j_iadd q_309_366).trans <| (j_sloadi q_309_367 rfl).trans <| js_itn <| (j_aload_n3 q_309_368 rfl).trans <| (j_iload q_309_369 rfl).trans <| (j_iconst q_309_371).trans <| (j_iadd q_309_372).trans <| (j_sloadi q_309_373 rfl).trans <| js_itn <| (j_aload_n q_309_374 rfl).trans <| rfl
theorem k_309_375 {E : js_E} {d : Nat} {σ σ2 : js_S} {x4 z1 z2 : Int} {ux5 ux6 ux7 : js_v} {v : Int} (hd : 1 ≤ d) (hz : js_J E (d - 1) 300 0 [(2, 0), (0, z1), (0, z2), (2, 136), (9, 0)] [] σ = js_r E (0, v) σ2) : js_J E d 309 375 [(3, 100), (2, 0), (2, 83), (2, 136), (0, x4), ux5, ux6, ux7] [(2, 136), (0, z2), (0, z1), (2, 0)] σ = js_J E d 309 378 [(3, 100), (2, 0), (2, 83), (2, 136), (0, x4), ux5, ux6, ux7] [(0, v)] σ2 :=
  j_call (m := 1) (js_caS q_309_375 (js_Mo qy_309 qm_19_74)) (js_agS (av := [(2, 0), (0, z1), (0, z2), (2, 136)]) (st := []) rfl rfl) rfl rfl (by rw [ql_300]; exact Nat.le_of_ble_eq_true rfl) (Nat.le_of_ble_eq_true rfl) hd hz
theorem b_309_378 {E : js_E} {d : Nat} {σ : js_S} {x4 z0 : Int} {ux5 ux6 ux7 : js_v} : js_J E d 309 378 [(3, 100), (2, 0), (2, 83), (2, 136), (0, x4), ux5, ux6, ux7] [(0, z0)] σ = (if 0 ≤ js_w (x4 + 1) ∧ js_w (x4 + 1) < (E.2.1 : Int) then (if 0 ≤ js_w (x4 + 2) ∧ js_w (x4 + 2) < (E.2.1 : Int) then js_J E d 309 393 [(3, 100), (2, 0), (2, 83), (2, 136), (0, x4), (0, z0), ux6, ux7] [(0, (E.2.2 (js_w (x4 + 2)).toNat).toInt), (0, (E.2.2 (js_w (x4 + 1)).toNat).toInt), (2, 83)] σ else none) else none) :=
  (j_istore (l2 := [(3, 100), (2, 0), (2, 83), (2, 136), (0, x4), (0, z0), ux6, ux7]) q_309_378 rfl (Nat.le_of_ble_eq_true rfl)).trans <| (j_aload_n q_309_380 rfl).trans <| (j_aload_n3 q_309_381 rfl).trans <| (j_iload q_309_382 rfl).trans <| (j_iconst q_309_384).trans <| (j_iadd q_309_385).trans <| (j_sloadi q_309_386 rfl).trans <| js_itn <| (j_aload_n3 q_309_387 rfl).trans <| (j_iload q_309_388 rfl).trans <| (j_iconst q_309_390).trans <| (j_iadd q_309_391).trans <| (j_sloadi q_309_392 rfl).trans <| js_itn <| rfl
theorem k_309_393 {E : js_E} {d : Nat} {σ σ2 : js_S} {x4 x5 z1 z2 : Int} {ux6 ux7 : js_v} {v : Int} (hd : 1 ≤ d) (hz : js_J E (d - 1) 294 0 [(2, 83), (0, z1), (0, z2)] [] σ = js_r E (1, v) σ2) : js_J E d 309 393 [(3, 100), (2, 0), (2, 83), (2, 136), (0, x4), (0, x5), ux6, ux7] [(0, z2), (0, z1), (2, 83)] σ = js_J E d 309 396 [(3, 100), (2, 0), (2, 83), (2, 136), (0, x4), (0, x5), ux6, ux7] [(1, v)] σ2 :=
  j_call (m := 0) (js_caV q_309_393 (js_Mo qy_309 qm_19_77)) (js_agV (av := [(0, z1), (0, z2)]) (st := []) rfl rfl js_o83 rfl) rfl rfl (by rw [ql_294]; exact Nat.le_of_ble_eq_true rfl) (Nat.le_of_ble_eq_true rfl) hd hz
theorem b_309_396 {E : js_E} {d : Nat} {σ : js_S} {x4 x5 z0 : Int} {ux6 ux7 : js_v} : js_J E d 309 396 [(3, 100), (2, 0), (2, 83), (2, 136), (0, x4), (0, x5), ux6, ux7] [(1, z0)] σ = js_J E d 309 399 [(3, 100), (2, 0), (2, 83), (2, 136), (0, x4), (0, x5), (1, z0), (9, 0)] [(2, 83)] σ :=
  (j_lstore (l2 := [(3, 100), (2, 0), (2, 83), (2, 136), (0, x4), (0, x5), (1, z0), (9, 0)]) q_309_396 rfl (Nat.le_of_ble_eq_true rfl)).trans <| (j_aload_n q_309_398 rfl).trans <| rfl
theorem k_309_399 {E : js_E} {d : Nat} {σ σ2 : js_S} {x4 x5 x6 : Int} {v : Int} (hd : 1 ≤ d) (hz : js_J E (d - 1) 185 0 [(2, 83)] [] σ = js_r E (0, v) σ2) : js_J E d 309 399 [(3, 100), (2, 0), (2, 83), (2, 136), (0, x4), (0, x5), (1, x6), (9, 0)] [(2, 83)] σ = js_J E d 309 402 [(3, 100), (2, 0), (2, 83), (2, 136), (0, x4), (0, x5), (1, x6), (9, 0)] [(0, v)] σ2 :=
  j_call (m := 0) (js_caV q_309_399 (js_Mo qy_309 qm_19_78)) (js_agV (av := []) (st := []) rfl rfl js_o83 rfl) rfl rfl (by rw [ql_185]; exact Nat.le_of_ble_eq_true rfl) (Nat.le_of_ble_eq_true rfl) hd hz
theorem b_309_402 {E : js_E} {d : Nat} {σ : js_S} {x4 x5 x6 z0 : Int} : js_J E d 309 402 [(3, 100), (2, 0), (2, 83), (2, 136), (0, x4), (0, x5), (1, x6), (9, 0)] [(0, z0)] σ = (if js_w z0 = js_w x5 then (if js_w x5 = 0 then (if js_l (σ 136 0) = js_l x6 then js_J E d 309 425 [(3, 100), (2, 0), (2, 83), (2, 136), (0, x4), (0, x5), (1, x6), (9, 0)] [] σ else js_r E (0, 0) σ) else js_J E d 309 425 [(3, 100), (2, 0), (2, 83), (2, 136), (0, x4), (0, x5), (1, x6), (9, 0)] [] σ) else js_r E (0, 0) σ) :=
  (j_iload q_309_402 rfl).trans <| (j_cmpeq (t := 409) q_309_404 rfl).trans (js_ite ((j_iload q_309_409 rfl).trans <| (j_ifne (t := 425) q_309_411 rfl).trans (js_ite ((j_aload_n q_309_414 rfl).trans <| (j_iconst q_309_415).trans <| (j_laloadk q_309_416 js_o136 ww_0 rfl).trans <| (j_lload q_309_417 rfl).trans <| (j_leq (t := 425) q_309_419 q_309_420 rfl).trans (js_ite (rfl) ((j_iconst q_309_423).trans <| j_breturn0 q_309_424 qr_309))) (rfl))) ((j_iconst q_309_407).trans <| j_breturn0 q_309_408 qr_309))
theorem b_309_425 {E : js_E} {d : Nat} {σ : js_S} {x4 x5 x6 : Int} : js_J E d 309 425 [(3, 100), (2, 0), (2, 83), (2, 136), (0, x4), (0, x5), (1, x6), (9, 0)] [] σ = js_J E d 309 1032 [(3, 100), (2, 0), (2, 83), (2, 136), (0, x4), (0, x5), (1, x6), (9, 0)] [] σ :=
  (j_goto (t := 1032) q_309_425 rfl).trans <| rfl
theorem b_309_428 {E : js_E} {d : Nat} {σ : js_S} {x4 : Int} {ux5 ux6 ux7 : js_v} : js_J E d 309 428 [(3, 100), (2, 0), (2, 83), (2, 136), (0, x4), ux5, ux6, ux7] [] σ = (if 0 ≤ js_w (x4 + 1) ∧ js_w (x4 + 1) < (E.2.1 : Int) then (if 0 ≤ js_w (x4 + 2) ∧ js_w (x4 + 2) < (E.2.1 : Int) then (if 0 ≤ js_w (x4 + 3) ∧ js_w (x4 + 3) < (E.2.1 : Int) then js_J E d 309 447 [(3, 100), (2, 0), (2, 83), (2, 136), (0, x4), ux5, ux6, ux7] [(0, (E.2.2 (js_w (x4 + 3)).toNat).toInt), (0, (E.2.2 (js_w (x4 + 2)).toNat).toInt), (0, (E.2.2 (js_w (x4 + 1)).toNat).toInt), (2, 0)] σ else none) else none) else none) :=
  (j_aload_n q_309_428 rfl).trans <| (j_aload_n3 q_309_429 rfl).trans <| (j_iload q_309_430 rfl).trans <| (j_iconst q_309_432).trans <| (j_iadd q_309_433).trans <| (j_sloadi q_309_434 rfl).trans <| js_itn <| (j_aload_n3 q_309_435 rfl).trans <| (j_iload q_309_436 rfl).trans <| (j_iconst q_309_438).trans <| (j_iadd q_309_439).trans <| (j_sloadi q_309_440 rfl).trans <| js_itn <| (j_aload_n3 q_309_441 rfl).trans <| (j_iload q_309_442 rfl).trans <| (j_iconst q_309_444).trans <| (j_iadd q_309_445).trans <| (j_sloadi q_309_446 rfl).trans <| js_itn <| rfl
theorem k_309_447 {E : js_E} {d : Nat} {σ σ2 : js_S} {x4 z1 z2 z3 : Int} {ux5 ux6 ux7 : js_v} {v : Int} (hd : 1 ≤ d) (hz : js_J E (d - 1) 128 0 [(2, 0), (0, z1), (0, z2), (0, z3), (9, 0)] [] σ = js_r E (0, v) σ2) : js_J E d 309 447 [(3, 100), (2, 0), (2, 83), (2, 136), (0, x4), ux5, ux6, ux7] [(0, z3), (0, z2), (0, z1), (2, 0)] σ = js_J E d 309 450 [(3, 100), (2, 0), (2, 83), (2, 136), (0, x4), ux5, ux6, ux7] [(0, v)] σ2 :=
  j_call (m := 1) (js_caV q_309_447 (js_Mo qy_309 qm_19_81)) (js_agV (av := [(0, z1), (0, z2), (0, z3)]) (st := []) rfl rfl js_o0 rfl) rfl rfl (by rw [ql_128]; exact Nat.le_of_ble_eq_true rfl) (Nat.le_of_ble_eq_true rfl) hd hz
theorem b_309_450 {E : js_E} {d : Nat} {σ : js_S} {x4 z0 : Int} {ux5 ux6 ux7 : js_v} : js_J E d 309 450 [(3, 100), (2, 0), (2, 83), (2, 136), (0, x4), ux5, ux6, ux7] [(0, z0)] σ = (if 0 ≤ js_w (x4 + 1) ∧ js_w (x4 + 1) < (E.2.1 : Int) then (if 0 ≤ js_w (x4 + 2) ∧ js_w (x4 + 2) < (E.2.1 : Int) then (if 0 ≤ js_w (x4 + 3) ∧ js_w (x4 + 3) < (E.2.1 : Int) then js_J E d 309 469 [(3, 100), (2, 0), (2, 83), (2, 136), (0, x4), ux5, ux6, ux7] [(0, (E.2.2 (js_w (x4 + 3)).toNat).toInt), (0, (E.2.2 (js_w (x4 + 2)).toNat).toInt), (0, (E.2.2 (js_w (x4 + 1)).toNat).toInt), (2, 83), (0, z0)] σ else none) else none) else none) :=
  (j_aload_n q_309_450 rfl).trans <| (j_aload_n3 q_309_451 rfl).trans <| (j_iload q_309_452 rfl).trans <| (j_iconst q_309_454).trans <| (j_iadd q_309_455).trans <| (j_sloadi q_309_456 rfl).trans <| js_itn <| (j_aload_n3 q_309_457 rfl).trans <| (j_iload q_309_458 rfl).trans <| (j_iconst q_309_460).trans <| (j_iadd q_309_461).trans <| (j_sloadi q_309_462 rfl).trans <| js_itn <| (j_aload_n3 q_309_463 rfl).trans <| (j_iload q_309_464 rfl).trans <| (j_iconst q_309_466).trans <| (j_iadd q_309_467).trans <| (j_sloadi q_309_468 rfl).trans <| js_itn <| rfl
theorem k_309_469 {E : js_E} {d : Nat} {σ σ2 : js_S} {x4 z0 z2 z3 z4 : Int} {ux5 ux6 ux7 : js_v} {v : Int} (hd : 1 ≤ d) (hz : js_J E (d - 1) 295 0 [(2, 83), (0, z2), (0, z3), (0, z4), (9, 0), (9, 0)] [] σ = js_r E (0, v) σ2) : js_J E d 309 469 [(3, 100), (2, 0), (2, 83), (2, 136), (0, x4), ux5, ux6, ux7] [(0, z4), (0, z3), (0, z2), (2, 83), (0, z0)] σ = js_J E d 309 472 [(3, 100), (2, 0), (2, 83), (2, 136), (0, x4), ux5, ux6, ux7] [(0, v), (0, z0)] σ2 :=
  j_call (m := 2) (js_caV q_309_469 (js_Mo qy_309 qm_19_85)) (js_agV (av := [(0, z2), (0, z3), (0, z4)]) (st := [(0, z0)]) rfl rfl js_o83 rfl) rfl rfl (by rw [ql_295]; exact Nat.le_of_ble_eq_true rfl) (Nat.le_of_ble_eq_true rfl) hd hz
theorem b_309_472 {E : js_E} {d : Nat} {σ : js_S} {x4 z0 z1 : Int} {ux5 ux6 ux7 : js_v} : js_J E d 309 472 [(3, 100), (2, 0), (2, 83), (2, 136), (0, x4), ux5, ux6, ux7] [(0, z1), (0, z0)] σ = (if js_w z0 = js_w z1 then js_J E d 309 1032 [(3, 100), (2, 0), (2, 83), (2, 136), (0, x4), ux5, ux6, ux7] [] σ else js_r E (0, 0) σ) :=
  (j_cmpeq (t := 1032) q_309_472 rfl).trans (js_ite (rfl) ((j_iconst q_309_475).trans <| j_breturn0 q_309_476 qr_309))
theorem b_309_477 {E : js_E} {d : Nat} {σ : js_S} {x4 : Int} {ux5 ux6 ux7 : js_v} : js_J E d 309 477 [(3, 100), (2, 0), (2, 83), (2, 136), (0, x4), ux5, ux6, ux7] [] σ = (if 0 ≤ js_w (x4 + 1) ∧ js_w (x4 + 1) < (E.2.1 : Int) then (if 0 ≤ js_w (x4 + 2) ∧ js_w (x4 + 2) < (E.2.1 : Int) then js_J E d 309 490 [(3, 100), (2, 0), (2, 83), (2, 136), (0, x4), ux5, ux6, ux7] [(0, (E.2.2 (js_w (x4 + 2)).toNat).toInt), (0, (E.2.2 (js_w (x4 + 1)).toNat).toInt), (2, 0)] σ else none) else none) :=
  (j_aload_n q_309_477 rfl).trans <| (j_aload_n3 q_309_478 rfl).trans <| (j_iload q_309_479 rfl).trans <| (j_iconst q_309_481).trans <| (j_iadd q_309_482).trans <| (j_sloadi q_309_483 rfl).trans <| js_itn <| (j_aload_n3 q_309_484 rfl).trans <| (j_iload q_309_485 rfl).trans <| (j_iconst q_309_487).trans <| (j_iadd q_309_488).trans <| (j_sloadi q_309_489 rfl).trans <| js_itn <| rfl
theorem k_309_490 {E : js_E} {d : Nat} {σ σ2 : js_S} {x4 z1 z2 : Int} {ux5 ux6 ux7 : js_v} {v : Int} (hd : 1 ≤ d) (hz : js_J E (d - 1) 132 0 [(2, 0), (0, z1), (0, z2)] [] σ = js_r E (0, v) σ2) : js_J E d 309 490 [(3, 100), (2, 0), (2, 83), (2, 136), (0, x4), ux5, ux6, ux7] [(0, z2), (0, z1), (2, 0)] σ = js_J E d 309 493 [(3, 100), (2, 0), (2, 83), (2, 136), (0, x4), ux5, ux6, ux7] [(0, v)] σ2 :=
  j_call (m := 0) (js_caV q_309_490 (js_Mo qy_309 qm_19_86)) (js_agV (av := [(0, z1), (0, z2)]) (st := []) rfl rfl js_o0 rfl) rfl rfl (by rw [ql_132]; exact Nat.le_of_ble_eq_true rfl) (Nat.le_of_ble_eq_true rfl) hd hz
theorem b_309_493 {E : js_E} {d : Nat} {σ : js_S} {x4 z0 : Int} {ux5 ux6 ux7 : js_v} : js_J E d 309 493 [(3, 100), (2, 0), (2, 83), (2, 136), (0, x4), ux5, ux6, ux7] [(0, z0)] σ = (if 0 ≤ js_w (x4 + 1) ∧ js_w (x4 + 1) < (E.2.1 : Int) then (if 0 ≤ js_w (x4 + 2) ∧ js_w (x4 + 2) < (E.2.1 : Int) then js_J E d 309 506 [(3, 100), (2, 0), (2, 83), (2, 136), (0, x4), ux5, ux6, ux7] [(0, (E.2.2 (js_w (x4 + 2)).toNat).toInt), (0, (E.2.2 (js_w (x4 + 1)).toNat).toInt), (2, 83), (0, z0)] σ else none) else none) :=
  (j_aload_n q_309_493 rfl).trans <| (j_aload_n3 q_309_494 rfl).trans <| (j_iload q_309_495 rfl).trans <| (j_iconst q_309_497).trans <| (j_iadd q_309_498).trans <| (j_sloadi q_309_499 rfl).trans <| js_itn <| (j_aload_n3 q_309_500 rfl).trans <| (j_iload q_309_501 rfl).trans <| (j_iconst q_309_503).trans <| (j_iadd q_309_504).trans <| (j_sloadi q_309_505 rfl).trans <| js_itn <| rfl
theorem k_309_506 {E : js_E} {d : Nat} {σ σ2 : js_S} {x4 z0 z2 z3 : Int} {ux5 ux6 ux7 : js_v} {v : Int} (hd : 1 ≤ d) (hz : js_J E (d - 1) 279 0 [(2, 83), (0, z2), (0, z3), (9, 0)] [] σ = js_r E (0, v) σ2) : js_J E d 309 506 [(3, 100), (2, 0), (2, 83), (2, 136), (0, x4), ux5, ux6, ux7] [(0, z3), (0, z2), (2, 83), (0, z0)] σ = js_J E d 309 509 [(3, 100), (2, 0), (2, 83), (2, 136), (0, x4), ux5, ux6, ux7] [(0, v), (0, z0)] σ2 :=
  j_call (m := 1) (js_caV q_309_506 (js_Mo qy_309 qm_19_90)) (js_agV (av := [(0, z2), (0, z3)]) (st := [(0, z0)]) rfl rfl js_o83 rfl) rfl rfl (by rw [ql_279]; exact Nat.le_of_ble_eq_true rfl) (Nat.le_of_ble_eq_true rfl) hd hz
theorem b_309_509 {E : js_E} {d : Nat} {σ : js_S} {x4 z0 z1 : Int} {ux5 ux6 ux7 : js_v} : js_J E d 309 509 [(3, 100), (2, 0), (2, 83), (2, 136), (0, x4), ux5, ux6, ux7] [(0, z1), (0, z0)] σ = (if js_w z0 = js_w z1 then js_J E d 309 1032 [(3, 100), (2, 0), (2, 83), (2, 136), (0, x4), ux5, ux6, ux7] [] σ else js_r E (0, 0) σ) :=
  (j_cmpeq (t := 1032) q_309_509 rfl).trans (js_ite (rfl) ((j_iconst q_309_512).trans <| j_breturn0 q_309_513 qr_309))
theorem b_309_514 {E : js_E} {d : Nat} {σ : js_S} {x4 : Int} {ux5 ux6 ux7 : js_v} : js_J E d 309 514 [(3, 100), (2, 0), (2, 83), (2, 136), (0, x4), ux5, ux6, ux7] [] σ = (if 0 ≤ js_w (x4 + 1) ∧ js_w (x4 + 1) < (E.2.1 : Int) then js_J E d 309 522 [(3, 100), (2, 0), (2, 83), (2, 136), (0, x4), ux5, ux6, ux7] [(2, 136), (0, (E.2.2 (js_w (x4 + 1)).toNat).toInt), (2, 0)] σ else none) :=
  (j_aload_n q_309_514 rfl).trans <| (j_aload_n3 q_309_515 rfl).trans <| (j_iload q_309_516 rfl).trans <| (j_iconst q_309_518).trans <| (j_iadd q_309_519).trans <| (j_sloadi q_309_520 rfl).trans <| js_itn <| (j_aload_n q_309_521 rfl).trans <| rfl
theorem k_309_522 {E : js_E} {d : Nat} {σ σ2 : js_S} {x4 z1 : Int} {ux5 ux6 ux7 : js_v} {v : Int} (hd : 1 ≤ d) (hz : js_J E (d - 1) 301 0 [(2, 0), (0, z1), (2, 136), (9, 0)] [] σ = js_r E (0, v) σ2) : js_J E d 309 522 [(3, 100), (2, 0), (2, 83), (2, 136), (0, x4), ux5, ux6, ux7] [(2, 136), (0, z1), (2, 0)] σ = js_J E d 309 525 [(3, 100), (2, 0), (2, 83), (2, 136), (0, x4), ux5, ux6, ux7] [(0, v)] σ2 :=
  j_call (m := 1) (js_caS q_309_522 (js_Mo qy_309 qm_19_91)) (js_agS (av := [(2, 0), (0, z1), (2, 136)]) (st := []) rfl rfl) rfl rfl (by rw [ql_301]; exact Nat.le_of_ble_eq_true rfl) (Nat.le_of_ble_eq_true rfl) hd hz
theorem b_309_525 {E : js_E} {d : Nat} {σ : js_S} {x4 z0 : Int} {ux5 ux6 ux7 : js_v} : js_J E d 309 525 [(3, 100), (2, 0), (2, 83), (2, 136), (0, x4), ux5, ux6, ux7] [(0, z0)] σ = (if 0 ≤ js_w (x4 + 1) ∧ js_w (x4 + 1) < (E.2.1 : Int) then js_J E d 309 534 [(3, 100), (2, 0), (2, 83), (2, 136), (0, x4), (0, z0), ux6, ux7] [(0, (E.2.2 (js_w (x4 + 1)).toNat).toInt), (2, 83)] σ else none) :=
  (j_istore (l2 := [(3, 100), (2, 0), (2, 83), (2, 136), (0, x4), (0, z0), ux6, ux7]) q_309_525 rfl (Nat.le_of_ble_eq_true rfl)).trans <| (j_aload_n q_309_527 rfl).trans <| (j_aload_n3 q_309_528 rfl).trans <| (j_iload q_309_529 rfl).trans <| (j_iconst q_309_531).trans <| (j_iadd q_309_532).trans <| (j_sloadi q_309_533 rfl).trans <| js_itn <| rfl
theorem k_309_534 {E : js_E} {d : Nat} {σ σ2 : js_S} {x4 x5 z1 : Int} {ux6 ux7 : js_v} {v : Int} (hd : 1 ≤ d) (hz : js_J E (d - 1) 265 0 [(2, 83), (0, z1), (9, 0)] [] σ = js_r E (0, v) σ2) : js_J E d 309 534 [(3, 100), (2, 0), (2, 83), (2, 136), (0, x4), (0, x5), ux6, ux7] [(0, z1), (2, 83)] σ = js_J E d 309 537 [(3, 100), (2, 0), (2, 83), (2, 136), (0, x4), (0, x5), ux6, ux7] [(0, v)] σ2 :=
  j_call (m := 1) (js_caV q_309_534 (js_Mo qy_309 qm_19_94)) (js_agV (av := [(0, z1)]) (st := []) rfl rfl js_o83 rfl) rfl rfl (by rw [ql_265]; exact Nat.le_of_ble_eq_true rfl) (Nat.le_of_ble_eq_true rfl) hd hz
theorem b_309_537 {E : js_E} {d : Nat} {σ : js_S} {x4 x5 z0 : Int} {ux6 ux7 : js_v} : js_J E d 309 537 [(3, 100), (2, 0), (2, 83), (2, 136), (0, x4), (0, x5), ux6, ux7] [(0, z0)] σ = js_J E d 309 540 [(3, 100), (2, 0), (2, 83), (2, 136), (0, x4), (0, x5), (0, z0), ux7] [(2, 83)] σ :=
  (j_istore (l2 := [(3, 100), (2, 0), (2, 83), (2, 136), (0, x4), (0, x5), (0, z0), ux7]) q_309_537 rfl (Nat.le_of_ble_eq_true rfl)).trans <| (j_aload_n q_309_539 rfl).trans <| rfl
theorem k_309_540 {E : js_E} {d : Nat} {σ σ2 : js_S} {x4 x5 x6 : Int} {ux7 : js_v} {v : Int} (hd : 1 ≤ d) (hz : js_J E (d - 1) 185 0 [(2, 83)] [] σ = js_r E (0, v) σ2) : js_J E d 309 540 [(3, 100), (2, 0), (2, 83), (2, 136), (0, x4), (0, x5), (0, x6), ux7] [(2, 83)] σ = js_J E d 309 543 [(3, 100), (2, 0), (2, 83), (2, 136), (0, x4), (0, x5), (0, x6), ux7] [(0, v)] σ2 :=
  j_call (m := 0) (js_caV q_309_540 (js_Mo qy_309 qm_19_78)) (js_agV (av := []) (st := []) rfl rfl js_o83 rfl) rfl rfl (by rw [ql_185]; exact Nat.le_of_ble_eq_true rfl) (Nat.le_of_ble_eq_true rfl) hd hz
theorem b_309_543 {E : js_E} {d : Nat} {σ : js_S} {x4 x5 x6 z0 : Int} {ux7 : js_v} : js_J E d 309 543 [(3, 100), (2, 0), (2, 83), (2, 136), (0, x4), (0, x5), (0, x6), ux7] [(0, z0)] σ = (if js_w z0 = js_w x5 then (if js_w x5 = 0 then (if js_l (σ 136 0) = js_l (js_w x6) then js_J E d 309 567 [(3, 100), (2, 0), (2, 83), (2, 136), (0, x4), (0, x5), (0, x6), ux7] [] σ else js_r E (0, 0) σ) else js_J E d 309 567 [(3, 100), (2, 0), (2, 83), (2, 136), (0, x4), (0, x5), (0, x6), ux7] [] σ) else js_r E (0, 0) σ) :=
  (j_iload q_309_543 rfl).trans <| (j_cmpeq (t := 550) q_309_545 rfl).trans (js_ite ((j_iload q_309_550 rfl).trans <| (j_ifne (t := 567) q_309_552 rfl).trans (js_ite ((j_aload_n q_309_555 rfl).trans <| (j_iconst q_309_556).trans <| (j_laloadk q_309_557 js_o136 ww_0 rfl).trans <| (j_iload q_309_558 rfl).trans <| (j_i2l q_309_560).trans <| (j_leq (t := 567) q_309_561 q_309_562 rfl).trans (js_ite (rfl) ((j_iconst q_309_565).trans <| j_breturn0 q_309_566 qr_309))) (rfl))) ((j_iconst q_309_548).trans <| j_breturn0 q_309_549 qr_309))
theorem b_309_567 {E : js_E} {d : Nat} {σ : js_S} {x4 x5 x6 : Int} {ux7 : js_v} : js_J E d 309 567 [(3, 100), (2, 0), (2, 83), (2, 136), (0, x4), (0, x5), (0, x6), ux7] [] σ = js_J E d 309 1032 [(3, 100), (2, 0), (2, 83), (2, 136), (0, x4), (0, x5), (0, x6), ux7] [] σ :=
  (j_goto (t := 1032) q_309_567 rfl).trans <| rfl
theorem b_309_570 {E : js_E} {d : Nat} {σ : js_S} {x4 : Int} {ux5 ux6 ux7 : js_v} : js_J E d 309 570 [(3, 100), (2, 0), (2, 83), (2, 136), (0, x4), ux5, ux6, ux7] [] σ = js_J E d 309 572 [(3, 100), (2, 0), (2, 83), (2, 136), (0, x4), ux5, ux6, ux7] [(2, 136), (2, 0)] σ :=
  (j_aload_n q_309_570 rfl).trans <| (j_aload_n q_309_571 rfl).trans <| rfl
theorem k_309_572 {E : js_E} {d : Nat} {σ σ2 : js_S} {x4 : Int} {ux5 ux6 ux7 : js_v} {v : Int} (hd : 1 ≤ d) (hz : js_J E (d - 1) 302 0 [(2, 0), (2, 136), (9, 0)] [] σ = js_r E (0, v) σ2) : js_J E d 309 572 [(3, 100), (2, 0), (2, 83), (2, 136), (0, x4), ux5, ux6, ux7] [(2, 136), (2, 0)] σ = js_J E d 309 575 [(3, 100), (2, 0), (2, 83), (2, 136), (0, x4), ux5, ux6, ux7] [(0, v)] σ2 :=
  j_call (m := 1) (js_caS q_309_572 (js_Mo qy_309 qm_19_95)) (js_agS (av := [(2, 0), (2, 136)]) (st := []) rfl rfl) rfl rfl (by rw [ql_302]; exact Nat.le_of_ble_eq_true rfl) (Nat.le_of_ble_eq_true rfl) hd hz
theorem b_309_575 {E : js_E} {d : Nat} {σ : js_S} {x4 z0 : Int} {ux5 ux6 ux7 : js_v} : js_J E d 309 575 [(3, 100), (2, 0), (2, 83), (2, 136), (0, x4), ux5, ux6, ux7] [(0, z0)] σ = js_J E d 309 578 [(3, 100), (2, 0), (2, 83), (2, 136), (0, x4), (0, z0), ux6, ux7] [(2, 83)] σ :=
  (j_istore (l2 := [(3, 100), (2, 0), (2, 83), (2, 136), (0, x4), (0, z0), ux6, ux7]) q_309_575 rfl (Nat.le_of_ble_eq_true rfl)).trans <| (j_aload_n q_309_577 rfl).trans <| rfl
theorem k_309_578 {E : js_E} {d : Nat} {σ σ2 : js_S} {x4 x5 : Int} {ux6 ux7 : js_v} {v : Int} (hd : 1 ≤ d) (hz : js_J E (d - 1) 277 0 [(2, 83)] [] σ = js_r E (0, v) σ2) : js_J E d 309 578 [(3, 100), (2, 0), (2, 83), (2, 136), (0, x4), (0, x5), ux6, ux7] [(2, 83)] σ = js_J E d 309 581 [(3, 100), (2, 0), (2, 83), (2, 136), (0, x4), (0, x5), ux6, ux7] [(0, v)] σ2 :=
  j_call (m := 0) (js_caV q_309_578 (js_Mo qy_309 qm_19_98)) (js_agV (av := []) (st := []) rfl rfl js_o83 rfl) rfl rfl (by rw [ql_277]; exact Nat.le_of_ble_eq_true rfl) (Nat.le_of_ble_eq_true rfl) hd hz
theorem b_309_581 {E : js_E} {d : Nat} {σ : js_S} {x4 x5 z0 : Int} {ux6 ux7 : js_v} : js_J E d 309 581 [(3, 100), (2, 0), (2, 83), (2, 136), (0, x4), (0, x5), ux6, ux7] [(0, z0)] σ = js_J E d 309 584 [(3, 100), (2, 0), (2, 83), (2, 136), (0, x4), (0, x5), (0, z0), ux7] [(2, 83)] σ :=
  (j_istore (l2 := [(3, 100), (2, 0), (2, 83), (2, 136), (0, x4), (0, x5), (0, z0), ux7]) q_309_581 rfl (Nat.le_of_ble_eq_true rfl)).trans <| (j_aload_n q_309_583 rfl).trans <| rfl
theorem k_309_584 {E : js_E} {d : Nat} {σ σ2 : js_S} {x4 x5 x6 : Int} {ux7 : js_v} {v : Int} (hd : 1 ≤ d) (hz : js_J E (d - 1) 185 0 [(2, 83)] [] σ = js_r E (0, v) σ2) : js_J E d 309 584 [(3, 100), (2, 0), (2, 83), (2, 136), (0, x4), (0, x5), (0, x6), ux7] [(2, 83)] σ = js_J E d 309 587 [(3, 100), (2, 0), (2, 83), (2, 136), (0, x4), (0, x5), (0, x6), ux7] [(0, v)] σ2 :=
  j_call (m := 0) (js_caV q_309_584 (js_Mo qy_309 qm_19_78)) (js_agV (av := []) (st := []) rfl rfl js_o83 rfl) rfl rfl (by rw [ql_185]; exact Nat.le_of_ble_eq_true rfl) (Nat.le_of_ble_eq_true rfl) hd hz
theorem b_309_587 {E : js_E} {d : Nat} {σ : js_S} {x4 x5 x6 z0 : Int} {ux7 : js_v} : js_J E d 309 587 [(3, 100), (2, 0), (2, 83), (2, 136), (0, x4), (0, x5), (0, x6), ux7] [(0, z0)] σ = (if js_w z0 = js_w x5 then (if js_w x5 = 0 then (if js_l (σ 136 0) = js_l (js_w x6) then js_J E d 309 611 [(3, 100), (2, 0), (2, 83), (2, 136), (0, x4), (0, x5), (0, x6), ux7] [] σ else js_r E (0, 0) σ) else js_J E d 309 611 [(3, 100), (2, 0), (2, 83), (2, 136), (0, x4), (0, x5), (0, x6), ux7] [] σ) else js_r E (0, 0) σ) :=
  (j_iload q_309_587 rfl).trans <| (j_cmpeq (t := 594) q_309_589 rfl).trans (js_ite ((j_iload q_309_594 rfl).trans <| (j_ifne (t := 611) q_309_596 rfl).trans (js_ite ((j_aload_n q_309_599 rfl).trans <| (j_iconst q_309_600).trans <| (j_laloadk q_309_601 js_o136 ww_0 rfl).trans <| (j_iload q_309_602 rfl).trans <| (j_i2l q_309_604).trans <| (j_leq (t := 611) q_309_605 q_309_606 rfl).trans (js_ite (rfl) ((j_iconst q_309_609).trans <| j_breturn0 q_309_610 qr_309))) (rfl))) ((j_iconst q_309_592).trans <| j_breturn0 q_309_593 qr_309))
theorem b_309_611 {E : js_E} {d : Nat} {σ : js_S} {x4 x5 x6 : Int} {ux7 : js_v} : js_J E d 309 611 [(3, 100), (2, 0), (2, 83), (2, 136), (0, x4), (0, x5), (0, x6), ux7] [] σ = js_J E d 309 1032 [(3, 100), (2, 0), (2, 83), (2, 136), (0, x4), (0, x5), (0, x6), ux7] [] σ :=
  (j_goto (t := 1032) q_309_611 rfl).trans <| rfl
theorem b_309_614 {E : js_E} {d : Nat} {σ : js_S} {x4 : Int} {ux5 ux6 ux7 : js_v} : js_J E d 309 614 [(3, 100), (2, 0), (2, 83), (2, 136), (0, x4), ux5, ux6, ux7] [] σ = (if 0 ≤ js_w (x4 + 1) ∧ js_w (x4 + 1) < (E.2.1 : Int) then js_J E d 309 622 [(3, 100), (2, 0), (2, 83), (2, 136), (0, x4), ux5, ux6, ux7] [(2, 136), (0, (E.2.2 (js_w (x4 + 1)).toNat).toInt), (2, 0)] σ else none) :=
  (j_aload_n q_309_614 rfl).trans <| (j_aload_n3 q_309_615 rfl).trans <| (j_iload q_309_616 rfl).trans <| (j_iconst q_309_618).trans <| (j_iadd q_309_619).trans <| (j_sloadi q_309_620 rfl).trans <| js_itn <| (j_aload_n q_309_621 rfl).trans <| rfl
theorem k_309_622 {E : js_E} {d : Nat} {σ σ2 : js_S} {x4 z1 : Int} {ux5 ux6 ux7 : js_v} {v : Int} (hd : 1 ≤ d) (hz : js_J E (d - 1) 303 0 [(2, 0), (0, z1), (2, 136), (9, 0)] [] σ = js_r E (0, v) σ2) : js_J E d 309 622 [(3, 100), (2, 0), (2, 83), (2, 136), (0, x4), ux5, ux6, ux7] [(2, 136), (0, z1), (2, 0)] σ = js_J E d 309 625 [(3, 100), (2, 0), (2, 83), (2, 136), (0, x4), ux5, ux6, ux7] [(0, v)] σ2 :=
  j_call (m := 1) (js_caS q_309_622 (js_Mo qy_309 qm_19_99)) (js_agS (av := [(2, 0), (0, z1), (2, 136)]) (st := []) rfl rfl) rfl rfl (by rw [ql_303]; exact Nat.le_of_ble_eq_true rfl) (Nat.le_of_ble_eq_true rfl) hd hz
theorem b_309_625 {E : js_E} {d : Nat} {σ : js_S} {x4 z0 : Int} {ux5 ux6 ux7 : js_v} : js_J E d 309 625 [(3, 100), (2, 0), (2, 83), (2, 136), (0, x4), ux5, ux6, ux7] [(0, z0)] σ = (if 0 ≤ js_w (x4 + 1) ∧ js_w (x4 + 1) < (E.2.1 : Int) then js_J E d 309 634 [(3, 100), (2, 0), (2, 83), (2, 136), (0, x4), (0, z0), ux6, ux7] [(0, (E.2.2 (js_w (x4 + 1)).toNat).toInt), (2, 83)] σ else none) :=
  (j_istore (l2 := [(3, 100), (2, 0), (2, 83), (2, 136), (0, x4), (0, z0), ux6, ux7]) q_309_625 rfl (Nat.le_of_ble_eq_true rfl)).trans <| (j_aload_n q_309_627 rfl).trans <| (j_aload_n3 q_309_628 rfl).trans <| (j_iload q_309_629 rfl).trans <| (j_iconst q_309_631).trans <| (j_iadd q_309_632).trans <| (j_sloadi q_309_633 rfl).trans <| js_itn <| rfl
theorem k_309_634 {E : js_E} {d : Nat} {σ σ2 : js_S} {x4 x5 z1 : Int} {ux6 ux7 : js_v} {v : Int} (hd : 1 ≤ d) (hz : js_J E (d - 1) 281 0 [(2, 83), (0, z1), (9, 0)] [] σ = js_r E (0, v) σ2) : js_J E d 309 634 [(3, 100), (2, 0), (2, 83), (2, 136), (0, x4), (0, x5), ux6, ux7] [(0, z1), (2, 83)] σ = js_J E d 309 637 [(3, 100), (2, 0), (2, 83), (2, 136), (0, x4), (0, x5), ux6, ux7] [(0, v)] σ2 :=
  j_call (m := 1) (js_caV q_309_634 (js_Mo qy_309 qm_19_101)) (js_agV (av := [(0, z1)]) (st := []) rfl rfl js_o83 rfl) rfl rfl (by rw [ql_281]; exact Nat.le_of_ble_eq_true rfl) (Nat.le_of_ble_eq_true rfl) hd hz
theorem b_309_637 {E : js_E} {d : Nat} {σ : js_S} {x4 x5 z0 : Int} {ux6 ux7 : js_v} : js_J E d 309 637 [(3, 100), (2, 0), (2, 83), (2, 136), (0, x4), (0, x5), ux6, ux7] [(0, z0)] σ = js_J E d 309 640 [(3, 100), (2, 0), (2, 83), (2, 136), (0, x4), (0, x5), (0, z0), ux7] [(2, 83)] σ :=
  (j_istore (l2 := [(3, 100), (2, 0), (2, 83), (2, 136), (0, x4), (0, x5), (0, z0), ux7]) q_309_637 rfl (Nat.le_of_ble_eq_true rfl)).trans <| (j_aload_n q_309_639 rfl).trans <| rfl
theorem k_309_640 {E : js_E} {d : Nat} {σ σ2 : js_S} {x4 x5 x6 : Int} {ux7 : js_v} {v : Int} (hd : 1 ≤ d) (hz : js_J E (d - 1) 185 0 [(2, 83)] [] σ = js_r E (0, v) σ2) : js_J E d 309 640 [(3, 100), (2, 0), (2, 83), (2, 136), (0, x4), (0, x5), (0, x6), ux7] [(2, 83)] σ = js_J E d 309 643 [(3, 100), (2, 0), (2, 83), (2, 136), (0, x4), (0, x5), (0, x6), ux7] [(0, v)] σ2 :=
  j_call (m := 0) (js_caV q_309_640 (js_Mo qy_309 qm_19_78)) (js_agV (av := []) (st := []) rfl rfl js_o83 rfl) rfl rfl (by rw [ql_185]; exact Nat.le_of_ble_eq_true rfl) (Nat.le_of_ble_eq_true rfl) hd hz
theorem b_309_643 {E : js_E} {d : Nat} {σ : js_S} {x4 x5 x6 z0 : Int} {ux7 : js_v} : js_J E d 309 643 [(3, 100), (2, 0), (2, 83), (2, 136), (0, x4), (0, x5), (0, x6), ux7] [(0, z0)] σ = (if js_w z0 = js_w x5 then (if js_w x5 = 0 then (if js_l (σ 136 0) = js_l (js_w x6) then js_J E d 309 667 [(3, 100), (2, 0), (2, 83), (2, 136), (0, x4), (0, x5), (0, x6), ux7] [] σ else js_r E (0, 0) σ) else js_J E d 309 667 [(3, 100), (2, 0), (2, 83), (2, 136), (0, x4), (0, x5), (0, x6), ux7] [] σ) else js_r E (0, 0) σ) :=
  (j_iload q_309_643 rfl).trans <| (j_cmpeq (t := 650) q_309_645 rfl).trans (js_ite ((j_iload q_309_650 rfl).trans <| (j_ifne (t := 667) q_309_652 rfl).trans (js_ite ((j_aload_n q_309_655 rfl).trans <| (j_iconst q_309_656).trans <| (j_laloadk q_309_657 js_o136 ww_0 rfl).trans <| (j_iload q_309_658 rfl).trans <| (j_i2l q_309_660).trans <| (j_leq (t := 667) q_309_661 q_309_662 rfl).trans (js_ite (rfl) ((j_iconst q_309_665).trans <| j_breturn0 q_309_666 qr_309))) (rfl))) ((j_iconst q_309_648).trans <| j_breturn0 q_309_649 qr_309))
theorem b_309_667 {E : js_E} {d : Nat} {σ : js_S} {x4 x5 x6 : Int} {ux7 : js_v} : js_J E d 309 667 [(3, 100), (2, 0), (2, 83), (2, 136), (0, x4), (0, x5), (0, x6), ux7] [] σ = js_J E d 309 1032 [(3, 100), (2, 0), (2, 83), (2, 136), (0, x4), (0, x5), (0, x6), ux7] [] σ :=
  (j_goto (t := 1032) q_309_667 rfl).trans <| rfl
theorem b_309_670 {E : js_E} {d : Nat} {σ : js_S} {x4 : Int} {ux5 ux6 ux7 : js_v} : js_J E d 309 670 [(3, 100), (2, 0), (2, 83), (2, 136), (0, x4), ux5, ux6, ux7] [] σ = (if 0 ≤ js_w (x4 + 1) ∧ js_w (x4 + 1) < (E.2.1 : Int) then (if 0 ≤ js_w (x4 + 2) ∧ js_w (x4 + 2) < (E.2.1 : Int) then js_J E d 309 684 [(3, 100), (2, 0), (2, 83), (2, 136), (0, x4), ux5, ux6, ux7] [(2, 136), (0, (E.2.2 (js_w (x4 + 2)).toNat).toInt), (0, (E.2.2 (js_w (x4 + 1)).toNat).toInt), (2, 0)] σ else none) else none) :=
  (j_aload_n q_309_670 rfl).trans <| (j_aload_n3 q_309_671 rfl).trans <| (j_iload q_309_672 rfl).trans <| (j_iconst q_309_674).trans <| (j_iadd q_309_675).trans <| (j_sloadi q_309_676 rfl).trans <| js_itn <| (j_aload_n3 q_309_677 rfl).trans <| (j_iload q_309_678 rfl).trans <| (j_iconst q_309_680).trans <| (j_iadd q_309_681).trans <| (j_sloadi q_309_682 rfl).trans <| js_itn <| (j_aload_n q_309_683 rfl).trans <| rfl
theorem k_309_684 {E : js_E} {d : Nat} {σ σ2 : js_S} {x4 z1 z2 : Int} {ux5 ux6 ux7 : js_v} {v : Int} (hd : 1 ≤ d) (hz : js_J E (d - 1) 304 0 [(2, 0), (0, z1), (0, z2), (2, 136), (9, 0)] [] σ = js_r E (0, v) σ2) : js_J E d 309 684 [(3, 100), (2, 0), (2, 83), (2, 136), (0, x4), ux5, ux6, ux7] [(2, 136), (0, z2), (0, z1), (2, 0)] σ = js_J E d 309 687 [(3, 100), (2, 0), (2, 83), (2, 136), (0, x4), ux5, ux6, ux7] [(0, v)] σ2 :=
  j_call (m := 1) (js_caS q_309_684 (js_Mo qy_309 qm_19_102)) (js_agS (av := [(2, 0), (0, z1), (0, z2), (2, 136)]) (st := []) rfl rfl) rfl rfl (by rw [ql_304]; exact Nat.le_of_ble_eq_true rfl) (Nat.le_of_ble_eq_true rfl) hd hz
theorem b_309_687 {E : js_E} {d : Nat} {σ : js_S} {x4 z0 : Int} {ux5 ux6 ux7 : js_v} : js_J E d 309 687 [(3, 100), (2, 0), (2, 83), (2, 136), (0, x4), ux5, ux6, ux7] [(0, z0)] σ = (if 0 ≤ js_w (x4 + 1) ∧ js_w (x4 + 1) < (E.2.1 : Int) then (if 0 ≤ js_w (x4 + 2) ∧ js_w (x4 + 2) < (E.2.1 : Int) then js_J E d 309 702 [(3, 100), (2, 0), (2, 83), (2, 136), (0, x4), (0, z0), ux6, ux7] [(0, (E.2.2 (js_w (x4 + 2)).toNat).toInt), (0, (E.2.2 (js_w (x4 + 1)).toNat).toInt), (2, 83)] σ else none) else none) :=
  (j_istore (l2 := [(3, 100), (2, 0), (2, 83), (2, 136), (0, x4), (0, z0), ux6, ux7]) q_309_687 rfl (Nat.le_of_ble_eq_true rfl)).trans <| (j_aload_n q_309_689 rfl).trans <| (j_aload_n3 q_309_690 rfl).trans <| (j_iload q_309_691 rfl).trans <| (j_iconst q_309_693).trans <| (j_iadd q_309_694).trans <| (j_sloadi q_309_695 rfl).trans <| js_itn <| (j_aload_n3 q_309_696 rfl).trans <| (j_iload q_309_697 rfl).trans <| (j_iconst q_309_699).trans <| (j_iadd q_309_700).trans <| (j_sloadi q_309_701 rfl).trans <| js_itn <| rfl
theorem k_309_702 {E : js_E} {d : Nat} {σ σ2 : js_S} {x4 x5 z1 z2 : Int} {ux6 ux7 : js_v} {v : Int} (hd : 1 ≤ d) (hz : js_J E (d - 1) 282 0 [(2, 83), (0, z1), (0, z2), (9, 0)] [] σ = js_r E (0, v) σ2) : js_J E d 309 702 [(3, 100), (2, 0), (2, 83), (2, 136), (0, x4), (0, x5), ux6, ux7] [(0, z2), (0, z1), (2, 83)] σ = js_J E d 309 705 [(3, 100), (2, 0), (2, 83), (2, 136), (0, x4), (0, x5), ux6, ux7] [(0, v)] σ2 :=
  j_call (m := 1) (js_caV q_309_702 (js_Mo qy_309 qm_19_104)) (js_agV (av := [(0, z1), (0, z2)]) (st := []) rfl rfl js_o83 rfl) rfl rfl (by rw [ql_282]; exact Nat.le_of_ble_eq_true rfl) (Nat.le_of_ble_eq_true rfl) hd hz
theorem b_309_705 {E : js_E} {d : Nat} {σ : js_S} {x4 x5 z0 : Int} {ux6 ux7 : js_v} : js_J E d 309 705 [(3, 100), (2, 0), (2, 83), (2, 136), (0, x4), (0, x5), ux6, ux7] [(0, z0)] σ = js_J E d 309 708 [(3, 100), (2, 0), (2, 83), (2, 136), (0, x4), (0, x5), (0, z0), ux7] [(2, 83)] σ :=
  (j_istore (l2 := [(3, 100), (2, 0), (2, 83), (2, 136), (0, x4), (0, x5), (0, z0), ux7]) q_309_705 rfl (Nat.le_of_ble_eq_true rfl)).trans <| (j_aload_n q_309_707 rfl).trans <| rfl
theorem k_309_708 {E : js_E} {d : Nat} {σ σ2 : js_S} {x4 x5 x6 : Int} {ux7 : js_v} {v : Int} (hd : 1 ≤ d) (hz : js_J E (d - 1) 185 0 [(2, 83)] [] σ = js_r E (0, v) σ2) : js_J E d 309 708 [(3, 100), (2, 0), (2, 83), (2, 136), (0, x4), (0, x5), (0, x6), ux7] [(2, 83)] σ = js_J E d 309 711 [(3, 100), (2, 0), (2, 83), (2, 136), (0, x4), (0, x5), (0, x6), ux7] [(0, v)] σ2 :=
  j_call (m := 0) (js_caV q_309_708 (js_Mo qy_309 qm_19_78)) (js_agV (av := []) (st := []) rfl rfl js_o83 rfl) rfl rfl (by rw [ql_185]; exact Nat.le_of_ble_eq_true rfl) (Nat.le_of_ble_eq_true rfl) hd hz
theorem b_309_711 {E : js_E} {d : Nat} {σ : js_S} {x4 x5 x6 z0 : Int} {ux7 : js_v} : js_J E d 309 711 [(3, 100), (2, 0), (2, 83), (2, 136), (0, x4), (0, x5), (0, x6), ux7] [(0, z0)] σ = (if js_w z0 = js_w x5 then (if js_w x5 = 0 then (if js_l (σ 136 0) = js_l (js_w x6) then js_J E d 309 735 [(3, 100), (2, 0), (2, 83), (2, 136), (0, x4), (0, x5), (0, x6), ux7] [] σ else js_r E (0, 0) σ) else js_J E d 309 735 [(3, 100), (2, 0), (2, 83), (2, 136), (0, x4), (0, x5), (0, x6), ux7] [] σ) else js_r E (0, 0) σ) :=
  (j_iload q_309_711 rfl).trans <| (j_cmpeq (t := 718) q_309_713 rfl).trans (js_ite ((j_iload q_309_718 rfl).trans <| (j_ifne (t := 735) q_309_720 rfl).trans (js_ite ((j_aload_n q_309_723 rfl).trans <| (j_iconst q_309_724).trans <| (j_laloadk q_309_725 js_o136 ww_0 rfl).trans <| (j_iload q_309_726 rfl).trans <| (j_i2l q_309_728).trans <| (j_leq (t := 735) q_309_729 q_309_730 rfl).trans (js_ite (rfl) ((j_iconst q_309_733).trans <| j_breturn0 q_309_734 qr_309))) (rfl))) ((j_iconst q_309_716).trans <| j_breturn0 q_309_717 qr_309))
theorem b_309_735 {E : js_E} {d : Nat} {σ : js_S} {x4 x5 x6 : Int} {ux7 : js_v} : js_J E d 309 735 [(3, 100), (2, 0), (2, 83), (2, 136), (0, x4), (0, x5), (0, x6), ux7] [] σ = js_J E d 309 1032 [(3, 100), (2, 0), (2, 83), (2, 136), (0, x4), (0, x5), (0, x6), ux7] [] σ :=
  (j_goto (t := 1032) q_309_735 rfl).trans <| rfl
theorem b_309_738 {E : js_E} {d : Nat} {σ : js_S} {x4 : Int} {ux5 ux6 ux7 : js_v} : js_J E d 309 738 [(3, 100), (2, 0), (2, 83), (2, 136), (0, x4), ux5, ux6, ux7] [] σ = (if 0 ≤ js_w (x4 + 1) ∧ js_w (x4 + 1) < (E.2.1 : Int) then (if 0 ≤ js_w (x4 + 2) ∧ js_w (x4 + 2) < (E.2.1 : Int) then (if 0 ≤ js_w (x4 + 3) ∧ js_w (x4 + 3) < (E.2.1 : Int) then (if 0 ≤ js_w (x4 + 4) ∧ js_w (x4 + 4) < (E.2.1 : Int) then js_J E d 309 763 [(3, 100), (2, 0), (2, 83), (2, 136), (0, x4), ux5, ux6, ux7] [(0, (E.2.2 (js_w (x4 + 4)).toNat).toInt), (0, (E.2.2 (js_w (x4 + 3)).toNat).toInt), (0, (E.2.2 (js_w (x4 + 2)).toNat).toInt), (0, (E.2.2 (js_w (x4 + 1)).toNat).toInt), (2, 0)] σ else none) else none) else none) else none) :=
  (j_aload_n q_309_738 rfl).trans <| (j_aload_n3 q_309_739 rfl).trans <| (j_iload q_309_740 rfl).trans <| (j_iconst q_309_742).trans <| (j_iadd q_309_743).trans <| (j_sloadi q_309_744 rfl).trans <| js_itn <| (j_aload_n3 q_309_745 rfl).trans <| (j_iload q_309_746 rfl).trans <| (j_iconst q_309_748).trans <| (j_iadd q_309_749).trans <| (j_sloadi q_309_750 rfl).trans <| js_itn <| (j_aload_n3 q_309_751 rfl).trans <| (j_iload q_309_752 rfl).trans <| (j_iconst q_309_754).trans <| (j_iadd q_309_755).trans <| (j_sloadi q_309_756 rfl).trans <| js_itn <| (j_aload_n3 q_309_757 rfl).trans <| (j_iload q_309_758 rfl).trans <| (j_iconst q_309_760).trans <| (j_iadd q_309_761).trans <| (j_sloadi q_309_762 rfl).trans <| js_itn <| rfl
theorem k_309_763 {E : js_E} {d : Nat} {σ σ2 : js_S} {x4 z1 z2 z3 z4 : Int} {ux5 ux6 ux7 : js_v} {v : Int} (hd : 1 ≤ d) (hz : js_J E (d - 1) 136 0 [(2, 0), (0, z1), (0, z2), (0, z3), (0, z4)] [] σ = js_r E (0, v) σ2) : js_J E d 309 763 [(3, 100), (2, 0), (2, 83), (2, 136), (0, x4), ux5, ux6, ux7] [(0, z4), (0, z3), (0, z2), (0, z1), (2, 0)] σ = js_J E d 309 766 [(3, 100), (2, 0), (2, 83), (2, 136), (0, x4), ux5, ux6, ux7] [(0, v)] σ2 :=
  j_call (m := 0) (js_caV q_309_763 (js_Mo qy_309 qm_19_105)) (js_agV (av := [(0, z1), (0, z2), (0, z3), (0, z4)]) (st := []) rfl rfl js_o0 rfl) rfl rfl (by rw [ql_136]; exact Nat.le_of_ble_eq_true rfl) (Nat.le_of_ble_eq_true rfl) hd hz
theorem b_309_766 {E : js_E} {d : Nat} {σ : js_S} {x4 z0 : Int} {ux5 ux6 ux7 : js_v} : js_J E d 309 766 [(3, 100), (2, 0), (2, 83), (2, 136), (0, x4), ux5, ux6, ux7] [(0, z0)] σ = (if 0 ≤ js_w (x4 + 1) ∧ js_w (x4 + 1) < (E.2.1 : Int) then (if 0 ≤ js_w (x4 + 2) ∧ js_w (x4 + 2) < (E.2.1 : Int) then (if 0 ≤ js_w (x4 + 3) ∧ js_w (x4 + 3) < (E.2.1 : Int) then (if 0 ≤ js_w (x4 + 4) ∧ js_w (x4 + 4) < (E.2.1 : Int) then js_J E d 309 791 [(3, 100), (2, 0), (2, 83), (2, 136), (0, x4), ux5, ux6, ux7] [(0, (E.2.2 (js_w (x4 + 4)).toNat).toInt), (0, (E.2.2 (js_w (x4 + 3)).toNat).toInt), (0, (E.2.2 (js_w (x4 + 2)).toNat).toInt), (0, (E.2.2 (js_w (x4 + 1)).toNat).toInt), (2, 83), (0, z0)] σ else none) else none) else none) else none) :=
  (j_aload_n q_309_766 rfl).trans <| (j_aload_n3 q_309_767 rfl).trans <| (j_iload q_309_768 rfl).trans <| (j_iconst q_309_770).trans <| (j_iadd q_309_771).trans <| (j_sloadi q_309_772 rfl).trans <| js_itn <| (j_aload_n3 q_309_773 rfl).trans <| (j_iload q_309_774 rfl).trans <| (j_iconst q_309_776).trans <| (j_iadd q_309_777).trans <| (j_sloadi q_309_778 rfl).trans <| js_itn <| (j_aload_n3 q_309_779 rfl).trans <| (j_iload q_309_780 rfl).trans <| (j_iconst q_309_782).trans <| (j_iadd q_309_783).trans <| (j_sloadi q_309_784 rfl).trans <| js_itn <| (j_aload_n3 q_309_785 rfl).trans <| (j_iload q_309_786 rfl).trans <| (j_iconst q_309_788).trans <| (j_iadd q_309_789).trans <| (j_sloadi q_309_790 rfl).trans <| js_itn <| rfl
theorem k_309_791 {E : js_E} {d : Nat} {σ σ2 : js_S} {x4 z0 z2 z3 z4 z5 : Int} {ux5 ux6 ux7 : js_v} {v : Int} (hd : 1 ≤ d) (hz : js_J E (d - 1) 288 0 [(2, 83), (0, z2), (0, z3), (0, z4), (0, z5), (9, 0), (9, 0), (9, 0), (9, 0), (9, 0), (9, 0), (9, 0), (9, 0), (9, 0)] [] σ = js_r E (0, v) σ2) : js_J E d 309 791 [(3, 100), (2, 0), (2, 83), (2, 136), (0, x4), ux5, ux6, ux7] [(0, z5), (0, z4), (0, z3), (0, z2), (2, 83), (0, z0)] σ = js_J E d 309 794 [(3, 100), (2, 0), (2, 83), (2, 136), (0, x4), ux5, ux6, ux7] [(0, v), (0, z0)] σ2 :=
  j_call (m := 9) (js_caV q_309_791 (js_Mo qy_309 qm_19_109)) (js_agV (av := [(0, z2), (0, z3), (0, z4), (0, z5)]) (st := [(0, z0)]) rfl rfl js_o83 rfl) rfl rfl (by rw [ql_288]; exact Nat.le_of_ble_eq_true rfl) (Nat.le_of_ble_eq_true rfl) hd hz
theorem b_309_794 {E : js_E} {d : Nat} {σ : js_S} {x4 z0 z1 : Int} {ux5 ux6 ux7 : js_v} : js_J E d 309 794 [(3, 100), (2, 0), (2, 83), (2, 136), (0, x4), ux5, ux6, ux7] [(0, z1), (0, z0)] σ = (if js_w z0 = js_w z1 then js_J E d 309 1032 [(3, 100), (2, 0), (2, 83), (2, 136), (0, x4), ux5, ux6, ux7] [] σ else js_r E (0, 0) σ) :=
  (j_cmpeq (t := 1032) q_309_794 rfl).trans (js_ite (rfl) ((j_iconst q_309_797).trans <| j_breturn0 q_309_798 qr_309))
theorem b_309_799 {E : js_E} {d : Nat} {σ : js_S} {x4 : Int} {ux5 ux6 ux7 : js_v} : js_J E d 309 799 [(3, 100), (2, 0), (2, 83), (2, 136), (0, x4), ux5, ux6, ux7] [] σ = (if 0 ≤ js_w (x4 + 1) ∧ js_w (x4 + 1) < (E.2.1 : Int) then (if 0 ≤ js_w (x4 + 2) ∧ js_w (x4 + 2) < (E.2.1 : Int) then js_J E d 309 813 [(3, 100), (2, 0), (2, 83), (2, 136), (0, x4), ux5, ux6, ux7] [(2, 136), (0, (E.2.2 (js_w (x4 + 2)).toNat).toInt), (0, (E.2.2 (js_w (x4 + 1)).toNat).toInt), (2, 0)] σ else none) else none) :=
  (j_aload_n q_309_799 rfl).trans <| (j_aload_n3 q_309_800 rfl).trans <| (j_iload q_309_801 rfl).trans <| (j_iconst q_309_803).trans <| (j_iadd q_309_804).trans <| (j_sloadi q_309_805 rfl).trans <| js_itn <| (j_aload_n3 q_309_806 rfl).trans <| (j_iload q_309_807 rfl).trans <| (j_iconst q_309_809).trans <| (j_iadd q_309_810).trans <| (j_sloadi q_309_811 rfl).trans <| js_itn <| (j_aload_n q_309_812 rfl).trans <| rfl
theorem k_309_813 {E : js_E} {d : Nat} {σ σ2 : js_S} {x4 z1 z2 : Int} {ux5 ux6 ux7 : js_v} {v : Int} (hd : 1 ≤ d) (hz : js_J E (d - 1) 305 0 [(2, 0), (0, z1), (0, z2), (2, 136), (9, 0)] [] σ = js_r E (0, v) σ2) : js_J E d 309 813 [(3, 100), (2, 0), (2, 83), (2, 136), (0, x4), ux5, ux6, ux7] [(2, 136), (0, z2), (0, z1), (2, 0)] σ = js_J E d 309 816 [(3, 100), (2, 0), (2, 83), (2, 136), (0, x4), ux5, ux6, ux7] [(0, v)] σ2 :=
  j_call (m := 1) (js_caS q_309_813 (js_Mo qy_309 qm_19_110)) (js_agS (av := [(2, 0), (0, z1), (0, z2), (2, 136)]) (st := []) rfl rfl) rfl rfl (by rw [ql_305]; exact Nat.le_of_ble_eq_true rfl) (Nat.le_of_ble_eq_true rfl) hd hz
theorem b_309_816 {E : js_E} {d : Nat} {σ : js_S} {x4 z0 : Int} {ux5 ux6 ux7 : js_v} : js_J E d 309 816 [(3, 100), (2, 0), (2, 83), (2, 136), (0, x4), ux5, ux6, ux7] [(0, z0)] σ = (if 0 ≤ js_w (x4 + 1) ∧ js_w (x4 + 1) < (E.2.1 : Int) then (if 0 ≤ js_w (x4 + 2) ∧ js_w (x4 + 2) < (E.2.1 : Int) then js_J E d 309 831 [(3, 100), (2, 0), (2, 83), (2, 136), (0, x4), (0, z0), ux6, ux7] [(0, (E.2.2 (js_w (x4 + 2)).toNat).toInt), (0, (E.2.2 (js_w (x4 + 1)).toNat).toInt), (2, 83)] σ else none) else none) :=
  (j_istore (l2 := [(3, 100), (2, 0), (2, 83), (2, 136), (0, x4), (0, z0), ux6, ux7]) q_309_816 rfl (Nat.le_of_ble_eq_true rfl)).trans <| (j_aload_n q_309_818 rfl).trans <| (j_aload_n3 q_309_819 rfl).trans <| (j_iload q_309_820 rfl).trans <| (j_iconst q_309_822).trans <| (j_iadd q_309_823).trans <| (j_sloadi q_309_824 rfl).trans <| js_itn <| (j_aload_n3 q_309_825 rfl).trans <| (j_iload q_309_826 rfl).trans <| (j_iconst q_309_828).trans <| (j_iadd q_309_829).trans <| (j_sloadi q_309_830 rfl).trans <| js_itn <| rfl
theorem k_309_831 {E : js_E} {d : Nat} {σ σ2 : js_S} {x4 x5 z1 z2 : Int} {ux6 ux7 : js_v} {v : Int} (hd : 1 ≤ d) (hz : js_J E (d - 1) 283 0 [(2, 83), (0, z1), (0, z2), (9, 0)] [] σ = js_r E (1, v) σ2) : js_J E d 309 831 [(3, 100), (2, 0), (2, 83), (2, 136), (0, x4), (0, x5), ux6, ux7] [(0, z2), (0, z1), (2, 83)] σ = js_J E d 309 834 [(3, 100), (2, 0), (2, 83), (2, 136), (0, x4), (0, x5), ux6, ux7] [(1, v)] σ2 :=
  j_call (m := 1) (js_caV q_309_831 (js_Mo qy_309 qm_19_112)) (js_agV (av := [(0, z1), (0, z2)]) (st := []) rfl rfl js_o83 rfl) rfl rfl (by rw [ql_283]; exact Nat.le_of_ble_eq_true rfl) (Nat.le_of_ble_eq_true rfl) hd hz
theorem b_309_834 {E : js_E} {d : Nat} {σ : js_S} {x4 x5 z0 : Int} {ux6 ux7 : js_v} : js_J E d 309 834 [(3, 100), (2, 0), (2, 83), (2, 136), (0, x4), (0, x5), ux6, ux7] [(1, z0)] σ = js_J E d 309 837 [(3, 100), (2, 0), (2, 83), (2, 136), (0, x4), (0, x5), (1, z0), (9, 0)] [(2, 83)] σ :=
  (j_lstore (l2 := [(3, 100), (2, 0), (2, 83), (2, 136), (0, x4), (0, x5), (1, z0), (9, 0)]) q_309_834 rfl (Nat.le_of_ble_eq_true rfl)).trans <| (j_aload_n q_309_836 rfl).trans <| rfl
theorem k_309_837 {E : js_E} {d : Nat} {σ σ2 : js_S} {x4 x5 x6 : Int} {v : Int} (hd : 1 ≤ d) (hz : js_J E (d - 1) 185 0 [(2, 83)] [] σ = js_r E (0, v) σ2) : js_J E d 309 837 [(3, 100), (2, 0), (2, 83), (2, 136), (0, x4), (0, x5), (1, x6), (9, 0)] [(2, 83)] σ = js_J E d 309 840 [(3, 100), (2, 0), (2, 83), (2, 136), (0, x4), (0, x5), (1, x6), (9, 0)] [(0, v)] σ2 :=
  j_call (m := 0) (js_caV q_309_837 (js_Mo qy_309 qm_19_78)) (js_agV (av := []) (st := []) rfl rfl js_o83 rfl) rfl rfl (by rw [ql_185]; exact Nat.le_of_ble_eq_true rfl) (Nat.le_of_ble_eq_true rfl) hd hz
theorem b_309_840 {E : js_E} {d : Nat} {σ : js_S} {x4 x5 x6 z0 : Int} : js_J E d 309 840 [(3, 100), (2, 0), (2, 83), (2, 136), (0, x4), (0, x5), (1, x6), (9, 0)] [(0, z0)] σ = (if js_w z0 = js_w x5 then (if js_w x5 = 0 then (if js_l (σ 136 0) = js_l x6 then js_J E d 309 863 [(3, 100), (2, 0), (2, 83), (2, 136), (0, x4), (0, x5), (1, x6), (9, 0)] [] σ else js_r E (0, 0) σ) else js_J E d 309 863 [(3, 100), (2, 0), (2, 83), (2, 136), (0, x4), (0, x5), (1, x6), (9, 0)] [] σ) else js_r E (0, 0) σ) :=
  (j_iload q_309_840 rfl).trans <| (j_cmpeq (t := 847) q_309_842 rfl).trans (js_ite ((j_iload q_309_847 rfl).trans <| (j_ifne (t := 863) q_309_849 rfl).trans (js_ite ((j_aload_n q_309_852 rfl).trans <| (j_iconst q_309_853).trans <| (j_laloadk q_309_854 js_o136 ww_0 rfl).trans <| (j_lload q_309_855 rfl).trans <| (j_leq (t := 863) q_309_857 q_309_858 rfl).trans (js_ite (rfl) ((j_iconst q_309_861).trans <| j_breturn0 q_309_862 qr_309))) (rfl))) ((j_iconst q_309_845).trans <| j_breturn0 q_309_846 qr_309))
theorem b_309_863 {E : js_E} {d : Nat} {σ : js_S} {x4 x5 x6 : Int} : js_J E d 309 863 [(3, 100), (2, 0), (2, 83), (2, 136), (0, x4), (0, x5), (1, x6), (9, 0)] [] σ = js_J E d 309 1032 [(3, 100), (2, 0), (2, 83), (2, 136), (0, x4), (0, x5), (1, x6), (9, 0)] [] σ :=
  (j_goto (t := 1032) q_309_863 rfl).trans <| rfl
theorem b_309_866 {E : js_E} {d : Nat} {σ : js_S} {x4 : Int} {ux5 ux6 ux7 : js_v} : js_J E d 309 866 [(3, 100), (2, 0), (2, 83), (2, 136), (0, x4), ux5, ux6, ux7] [] σ = (if 0 ≤ js_w (x4 + 1) ∧ js_w (x4 + 1) < (E.2.1 : Int) then (if 0 ≤ js_w (x4 + 2) ∧ js_w (x4 + 2) < (E.2.1 : Int) then js_J E d 309 880 [(3, 100), (2, 0), (2, 83), (2, 136), (0, x4), ux5, ux6, ux7] [(2, 136), (0, (E.2.2 (js_w (x4 + 2)).toNat).toInt), (0, (E.2.2 (js_w (x4 + 1)).toNat).toInt), (2, 0)] σ else none) else none) :=
  (j_aload_n q_309_866 rfl).trans <| (j_aload_n3 q_309_867 rfl).trans <| (j_iload q_309_868 rfl).trans <| (j_iconst q_309_870).trans <| (j_iadd q_309_871).trans <| (j_sloadi q_309_872 rfl).trans <| js_itn <| (j_aload_n3 q_309_873 rfl).trans <| (j_iload q_309_874 rfl).trans <| (j_iconst q_309_876).trans <| (j_iadd q_309_877).trans <| (j_sloadi q_309_878 rfl).trans <| js_itn <| (j_aload_n q_309_879 rfl).trans <| rfl
theorem k_309_880 {E : js_E} {d : Nat} {σ σ2 : js_S} {x4 z1 z2 : Int} {ux5 ux6 ux7 : js_v} {v : Int} (hd : 1 ≤ d) (hz : js_J E (d - 1) 306 0 [(2, 0), (0, z1), (0, z2), (2, 136), (9, 0)] [] σ = js_r E (0, v) σ2) : js_J E d 309 880 [(3, 100), (2, 0), (2, 83), (2, 136), (0, x4), ux5, ux6, ux7] [(2, 136), (0, z2), (0, z1), (2, 0)] σ = js_J E d 309 883 [(3, 100), (2, 0), (2, 83), (2, 136), (0, x4), ux5, ux6, ux7] [(0, v)] σ2 :=
  j_call (m := 1) (js_caS q_309_880 (js_Mo qy_309 qm_19_113)) (js_agS (av := [(2, 0), (0, z1), (0, z2), (2, 136)]) (st := []) rfl rfl) rfl rfl (by rw [ql_306]; exact Nat.le_of_ble_eq_true rfl) (Nat.le_of_ble_eq_true rfl) hd hz
theorem b_309_883 {E : js_E} {d : Nat} {σ : js_S} {x4 z0 : Int} {ux5 ux6 ux7 : js_v} : js_J E d 309 883 [(3, 100), (2, 0), (2, 83), (2, 136), (0, x4), ux5, ux6, ux7] [(0, z0)] σ = (if 0 ≤ js_w (x4 + 1) ∧ js_w (x4 + 1) < (E.2.1 : Int) then (if 0 ≤ js_w (x4 + 2) ∧ js_w (x4 + 2) < (E.2.1 : Int) then js_J E d 309 898 [(3, 100), (2, 0), (2, 83), (2, 136), (0, x4), (0, z0), ux6, ux7] [(0, (E.2.2 (js_w (x4 + 2)).toNat).toInt), (0, (E.2.2 (js_w (x4 + 1)).toNat).toInt), (2, 83)] σ else none) else none) :=
  (j_istore (l2 := [(3, 100), (2, 0), (2, 83), (2, 136), (0, x4), (0, z0), ux6, ux7]) q_309_883 rfl (Nat.le_of_ble_eq_true rfl)).trans <| (j_aload_n q_309_885 rfl).trans <| (j_aload_n3 q_309_886 rfl).trans <| (j_iload q_309_887 rfl).trans <| (j_iconst q_309_889).trans <| (j_iadd q_309_890).trans <| (j_sloadi q_309_891 rfl).trans <| js_itn <| (j_aload_n3 q_309_892 rfl).trans <| (j_iload q_309_893 rfl).trans <| (j_iconst q_309_895).trans <| (j_iadd q_309_896).trans <| (j_sloadi q_309_897 rfl).trans <| js_itn <| rfl
theorem k_309_898 {E : js_E} {d : Nat} {σ σ2 : js_S} {x4 x5 z1 z2 : Int} {ux6 ux7 : js_v} {v : Int} (hd : 1 ≤ d) (hz : js_J E (d - 1) 284 0 [(2, 83), (0, z1), (0, z2), (9, 0)] [] σ = js_r E (1, v) σ2) : js_J E d 309 898 [(3, 100), (2, 0), (2, 83), (2, 136), (0, x4), (0, x5), ux6, ux7] [(0, z2), (0, z1), (2, 83)] σ = js_J E d 309 901 [(3, 100), (2, 0), (2, 83), (2, 136), (0, x4), (0, x5), ux6, ux7] [(1, v)] σ2 :=
  j_call (m := 1) (js_caV q_309_898 (js_Mo qy_309 qm_19_115)) (js_agV (av := [(0, z1), (0, z2)]) (st := []) rfl rfl js_o83 rfl) rfl rfl (by rw [ql_284]; exact Nat.le_of_ble_eq_true rfl) (Nat.le_of_ble_eq_true rfl) hd hz
theorem b_309_901 {E : js_E} {d : Nat} {σ : js_S} {x4 x5 z0 : Int} {ux6 ux7 : js_v} : js_J E d 309 901 [(3, 100), (2, 0), (2, 83), (2, 136), (0, x4), (0, x5), ux6, ux7] [(1, z0)] σ = js_J E d 309 904 [(3, 100), (2, 0), (2, 83), (2, 136), (0, x4), (0, x5), (1, z0), (9, 0)] [(2, 83)] σ :=
  (j_lstore (l2 := [(3, 100), (2, 0), (2, 83), (2, 136), (0, x4), (0, x5), (1, z0), (9, 0)]) q_309_901 rfl (Nat.le_of_ble_eq_true rfl)).trans <| (j_aload_n q_309_903 rfl).trans <| rfl
theorem k_309_904 {E : js_E} {d : Nat} {σ σ2 : js_S} {x4 x5 x6 : Int} {v : Int} (hd : 1 ≤ d) (hz : js_J E (d - 1) 185 0 [(2, 83)] [] σ = js_r E (0, v) σ2) : js_J E d 309 904 [(3, 100), (2, 0), (2, 83), (2, 136), (0, x4), (0, x5), (1, x6), (9, 0)] [(2, 83)] σ = js_J E d 309 907 [(3, 100), (2, 0), (2, 83), (2, 136), (0, x4), (0, x5), (1, x6), (9, 0)] [(0, v)] σ2 :=
  j_call (m := 0) (js_caV q_309_904 (js_Mo qy_309 qm_19_78)) (js_agV (av := []) (st := []) rfl rfl js_o83 rfl) rfl rfl (by rw [ql_185]; exact Nat.le_of_ble_eq_true rfl) (Nat.le_of_ble_eq_true rfl) hd hz
theorem b_309_907 {E : js_E} {d : Nat} {σ : js_S} {x4 x5 x6 z0 : Int} : js_J E d 309 907 [(3, 100), (2, 0), (2, 83), (2, 136), (0, x4), (0, x5), (1, x6), (9, 0)] [(0, z0)] σ = (if js_w z0 = js_w x5 then (if js_w x5 = 0 then (if js_l (σ 136 0) = js_l x6 then js_J E d 309 930 [(3, 100), (2, 0), (2, 83), (2, 136), (0, x4), (0, x5), (1, x6), (9, 0)] [] σ else js_r E (0, 0) σ) else js_J E d 309 930 [(3, 100), (2, 0), (2, 83), (2, 136), (0, x4), (0, x5), (1, x6), (9, 0)] [] σ) else js_r E (0, 0) σ) :=
  (j_iload q_309_907 rfl).trans <| (j_cmpeq (t := 914) q_309_909 rfl).trans (js_ite ((j_iload q_309_914 rfl).trans <| (j_ifne (t := 930) q_309_916 rfl).trans (js_ite ((j_aload_n q_309_919 rfl).trans <| (j_iconst q_309_920).trans <| (j_laloadk q_309_921 js_o136 ww_0 rfl).trans <| (j_lload q_309_922 rfl).trans <| (j_leq (t := 930) q_309_924 q_309_925 rfl).trans (js_ite (rfl) ((j_iconst q_309_928).trans <| j_breturn0 q_309_929 qr_309))) (rfl))) ((j_iconst q_309_912).trans <| j_breturn0 q_309_913 qr_309))
theorem b_309_930 {E : js_E} {d : Nat} {σ : js_S} {x4 x5 x6 : Int} : js_J E d 309 930 [(3, 100), (2, 0), (2, 83), (2, 136), (0, x4), (0, x5), (1, x6), (9, 0)] [] σ = js_J E d 309 1032 [(3, 100), (2, 0), (2, 83), (2, 136), (0, x4), (0, x5), (1, x6), (9, 0)] [] σ :=
  (j_goto (t := 1032) q_309_930 rfl).trans <| rfl
theorem b_309_933 {E : js_E} {d : Nat} {σ : js_S} {x4 : Int} {ux5 ux6 ux7 : js_v} : js_J E d 309 933 [(3, 100), (2, 0), (2, 83), (2, 136), (0, x4), ux5, ux6, ux7] [] σ = (if 0 ≤ js_w (x4 + 1) ∧ js_w (x4 + 1) < (E.2.1 : Int) then (if 0 ≤ js_w (x4 + 2) ∧ js_w (x4 + 2) < (E.2.1 : Int) then (if 0 ≤ js_w (x4 + 3) ∧ js_w (x4 + 3) < (E.2.1 : Int) then (if 0 ≤ js_w (x4 + 4) ∧ js_w (x4 + 4) < (E.2.1 : Int) then js_J E d 309 958 [(3, 100), (2, 0), (2, 83), (2, 136), (0, x4), ux5, ux6, ux7] [(0, (E.2.2 (js_w (x4 + 4)).toNat).toInt), (0, (E.2.2 (js_w (x4 + 3)).toNat).toInt), (0, (E.2.2 (js_w (x4 + 2)).toNat).toInt), (0, (E.2.2 (js_w (x4 + 1)).toNat).toInt), (2, 0)] σ else none) else none) else none) else none) :=
  (j_aload_n q_309_933 rfl).trans <| (j_aload_n3 q_309_934 rfl).trans <| (j_iload q_309_935 rfl).trans <| (j_iconst q_309_937).trans <| (j_iadd q_309_938).trans <| (j_sloadi q_309_939 rfl).trans <| js_itn <| (j_aload_n3 q_309_940 rfl).trans <| (j_iload q_309_941 rfl).trans <| (j_iconst q_309_943).trans <| (j_iadd q_309_944).trans <| (j_sloadi q_309_945 rfl).trans <| js_itn <| (j_aload_n3 q_309_946 rfl).trans <| (j_iload q_309_947 rfl).trans <| (j_iconst q_309_949).trans <| (j_iadd q_309_950).trans <| (j_sloadi q_309_951 rfl).trans <| js_itn <| (j_aload_n3 q_309_952 rfl).trans <| (j_iload q_309_953 rfl).trans <| (j_iconst q_309_955).trans <| (j_iadd q_309_956).trans <| (j_sloadi q_309_957 rfl).trans <| js_itn <| rfl
theorem k_309_958 {E : js_E} {d : Nat} {σ σ2 : js_S} {x4 z1 z2 z3 z4 : Int} {ux5 ux6 ux7 : js_v} {v : Int} (hd : 1 ≤ d) (hz : js_J E (d - 1) 166 0 [(2, 0), (0, z1), (0, z2), (0, z3), (0, z4)] [] σ = js_r E (0, v) σ2) : js_J E d 309 958 [(3, 100), (2, 0), (2, 83), (2, 136), (0, x4), ux5, ux6, ux7] [(0, z4), (0, z3), (0, z2), (0, z1), (2, 0)] σ = js_J E d 309 961 [(3, 100), (2, 0), (2, 83), (2, 136), (0, x4), ux5, ux6, ux7] [(0, v)] σ2 :=
  j_call (m := 0) (js_caV q_309_958 (js_Mo qy_309 qm_19_116)) (js_agV (av := [(0, z1), (0, z2), (0, z3), (0, z4)]) (st := []) rfl rfl js_o0 rfl) rfl rfl (by rw [ql_166]; exact Nat.le_of_ble_eq_true rfl) (Nat.le_of_ble_eq_true rfl) hd hz
theorem b_309_961 {E : js_E} {d : Nat} {σ : js_S} {x4 z0 : Int} {ux5 ux6 ux7 : js_v} : js_J E d 309 961 [(3, 100), (2, 0), (2, 83), (2, 136), (0, x4), ux5, ux6, ux7] [(0, z0)] σ = (if 0 ≤ js_w (x4 + 1) ∧ js_w (x4 + 1) < (E.2.1 : Int) then (if 0 ≤ js_w (x4 + 2) ∧ js_w (x4 + 2) < (E.2.1 : Int) then (if 0 ≤ js_w (x4 + 3) ∧ js_w (x4 + 3) < (E.2.1 : Int) then (if 0 ≤ js_w (x4 + 4) ∧ js_w (x4 + 4) < (E.2.1 : Int) then js_J E d 309 986 [(3, 100), (2, 0), (2, 83), (2, 136), (0, x4), ux5, ux6, ux7] [(0, (E.2.2 (js_w (x4 + 4)).toNat).toInt), (0, (E.2.2 (js_w (x4 + 3)).toNat).toInt), (0, (E.2.2 (js_w (x4 + 2)).toNat).toInt), (0, (E.2.2 (js_w (x4 + 1)).toNat).toInt), (2, 83), (0, z0)] σ else none) else none) else none) else none) :=
  (j_aload_n q_309_961 rfl).trans <| (j_aload_n3 q_309_962 rfl).trans <| (j_iload q_309_963 rfl).trans <| (j_iconst q_309_965).trans <| (j_iadd q_309_966).trans <| (j_sloadi q_309_967 rfl).trans <| js_itn <| (j_aload_n3 q_309_968 rfl).trans <| (j_iload q_309_969 rfl).trans <| (j_iconst q_309_971).trans <| (j_iadd q_309_972).trans <| (j_sloadi q_309_973 rfl).trans <| js_itn <| (j_aload_n3 q_309_974 rfl).trans <| (j_iload q_309_975 rfl).trans <| (j_iconst q_309_977).trans <| (j_iadd q_309_978).trans <| (j_sloadi q_309_979 rfl).trans <| js_itn <| (j_aload_n3 q_309_980 rfl).trans <| (j_iload q_309_981 rfl).trans <| (j_iconst q_309_983).trans <| (j_iadd q_309_984).trans <| (j_sloadi q_309_985 rfl).trans <| js_itn <| rfl
theorem k_309_986 {E : js_E} {d : Nat} {σ σ2 : js_S} {x4 z0 z2 z3 z4 z5 : Int} {ux5 ux6 ux7 : js_v} {v : Int} (hd : 1 ≤ d) (hz : js_J E (d - 1) 285 0 [(2, 83), (0, z2), (0, z3), (0, z4), (0, z5)] [] σ = js_r E (0, v) σ2) : js_J E d 309 986 [(3, 100), (2, 0), (2, 83), (2, 136), (0, x4), ux5, ux6, ux7] [(0, z5), (0, z4), (0, z3), (0, z2), (2, 83), (0, z0)] σ = js_J E d 309 989 [(3, 100), (2, 0), (2, 83), (2, 136), (0, x4), ux5, ux6, ux7] [(0, v), (0, z0)] σ2 :=
  j_call (m := 0) (js_caV q_309_986 (js_Mo qy_309 qm_19_120)) (js_agV (av := [(0, z2), (0, z3), (0, z4), (0, z5)]) (st := [(0, z0)]) rfl rfl js_o83 rfl) rfl rfl (by rw [ql_285]; exact Nat.le_of_ble_eq_true rfl) (Nat.le_of_ble_eq_true rfl) hd hz
theorem b_309_989 {E : js_E} {d : Nat} {σ : js_S} {x4 z0 z1 : Int} {ux5 ux6 ux7 : js_v} : js_J E d 309 989 [(3, 100), (2, 0), (2, 83), (2, 136), (0, x4), ux5, ux6, ux7] [(0, z1), (0, z0)] σ = (if js_w z0 = js_w z1 then js_J E d 309 1032 [(3, 100), (2, 0), (2, 83), (2, 136), (0, x4), ux5, ux6, ux7] [] σ else js_r E (0, 0) σ) :=
  (j_cmpeq (t := 1032) q_309_989 rfl).trans (js_ite (rfl) ((j_iconst q_309_992).trans <| j_breturn0 q_309_993 qr_309))
theorem b_309_994 {E : js_E} {d : Nat} {σ : js_S} {x4 : Int} {ux5 ux6 ux7 : js_v} : js_J E d 309 994 [(3, 100), (2, 0), (2, 83), (2, 136), (0, x4), ux5, ux6, ux7] [] σ = js_J E d 309 995 [(3, 100), (2, 0), (2, 83), (2, 136), (0, x4), ux5, ux6, ux7] [(2, 0)] σ :=
  (j_aload_n q_309_994 rfl).trans <| rfl
theorem k_309_995 {E : js_E} {d : Nat} {σ σ2 : js_S} {x4 : Int} {ux5 ux6 ux7 : js_v} {v : Int} (hd : 1 ≤ d) (hz : js_J E (d - 1) 168 0 [(2, 0)] [] σ = js_r E (0, v) σ2) : js_J E d 309 995 [(3, 100), (2, 0), (2, 83), (2, 136), (0, x4), ux5, ux6, ux7] [(2, 0)] σ = js_J E d 309 998 [(3, 100), (2, 0), (2, 83), (2, 136), (0, x4), ux5, ux6, ux7] [(0, v)] σ2 :=
  j_call (m := 0) (js_caV q_309_995 (js_Mo qy_309 qm_19_121)) (js_agV (av := []) (st := []) rfl rfl js_o0 rfl) rfl rfl (by rw [ql_168]; exact Nat.le_of_ble_eq_true rfl) (Nat.le_of_ble_eq_true rfl) hd hz
theorem b_309_998 {E : js_E} {d : Nat} {σ : js_S} {x4 z0 : Int} {ux5 ux6 ux7 : js_v} : js_J E d 309 998 [(3, 100), (2, 0), (2, 83), (2, 136), (0, x4), ux5, ux6, ux7] [(0, z0)] σ = js_J E d 309 999 [(3, 100), (2, 0), (2, 83), (2, 136), (0, x4), ux5, ux6, ux7] [(2, 83), (0, z0)] σ :=
  (j_aload_n q_309_998 rfl).trans <| rfl
theorem k_309_999 {E : js_E} {d : Nat} {σ σ2 : js_S} {x4 z0 : Int} {ux5 ux6 ux7 : js_v} {v : Int} (hd : 1 ≤ d) (hz : js_J E (d - 1) 287 0 [(2, 83)] [] σ = js_r E (0, v) σ2) : js_J E d 309 999 [(3, 100), (2, 0), (2, 83), (2, 136), (0, x4), ux5, ux6, ux7] [(2, 83), (0, z0)] σ = js_J E d 309 1002 [(3, 100), (2, 0), (2, 83), (2, 136), (0, x4), ux5, ux6, ux7] [(0, v), (0, z0)] σ2 :=
  j_call (m := 0) (js_caV q_309_999 (js_Mo qy_309 qm_19_125)) (js_agV (av := []) (st := [(0, z0)]) rfl rfl js_o83 rfl) rfl rfl (by rw [ql_287]; exact Nat.le_of_ble_eq_true rfl) (Nat.le_of_ble_eq_true rfl) hd hz
theorem b_309_1002 {E : js_E} {d : Nat} {σ : js_S} {x4 z0 z1 : Int} {ux5 ux6 ux7 : js_v} : js_J E d 309 1002 [(3, 100), (2, 0), (2, 83), (2, 136), (0, x4), ux5, ux6, ux7] [(0, z1), (0, z0)] σ = (if js_w z0 = js_w z1 then js_J E d 309 1032 [(3, 100), (2, 0), (2, 83), (2, 136), (0, x4), ux5, ux6, ux7] [] σ else js_r E (0, 0) σ) :=
  (j_cmpeq (t := 1032) q_309_1002 rfl).trans (js_ite (rfl) ((j_iconst q_309_1005).trans <| j_breturn0 q_309_1006 qr_309))
theorem b_309_1007 {E : js_E} {d : Nat} {σ : js_S} {x4 : Int} {ux5 ux6 ux7 : js_v} : js_J E d 309 1007 [(3, 100), (2, 0), (2, 83), (2, 136), (0, x4), ux5, ux6, ux7] [] σ = (if 0 ≤ js_w (x4 + 1) ∧ js_w (x4 + 1) < (E.2.1 : Int) then js_J E d 309 1014 [(3, 100), (2, 0), (2, 83), (2, 136), (0, x4), ux5, ux6, ux7] [(0, (E.2.2 (js_w (x4 + 1)).toNat).toInt), (2, 0)] σ else none) :=
  (j_aload_n q_309_1007 rfl).trans <| (j_aload_n3 q_309_1008 rfl).trans <| (j_iload q_309_1009 rfl).trans <| (j_iconst q_309_1011).trans <| (j_iadd q_309_1012).trans <| (j_sloadi q_309_1013 rfl).trans <| js_itn <| rfl
theorem k_309_1014 {E : js_E} {d : Nat} {σ σ2 : js_S} {x4 z1 : Int} {ux5 ux6 ux7 : js_v} {v : Int} (hd : 1 ≤ d) (hz : js_J E (d - 1) 169 0 [(2, 0), (0, z1)] [] σ = js_r E (0, v) σ2) : js_J E d 309 1014 [(3, 100), (2, 0), (2, 83), (2, 136), (0, x4), ux5, ux6, ux7] [(0, z1), (2, 0)] σ = js_J E d 309 1017 [(3, 100), (2, 0), (2, 83), (2, 136), (0, x4), ux5, ux6, ux7] [(0, v)] σ2 :=
  j_call (m := 0) (js_caV q_309_1014 (js_Mo qy_309 qm_19_126)) (js_agV (av := [(0, z1)]) (st := []) rfl rfl js_o0 rfl) rfl rfl (by rw [ql_169]; exact Nat.le_of_ble_eq_true rfl) (Nat.le_of_ble_eq_true rfl) hd hz
theorem b_309_1017 {E : js_E} {d : Nat} {σ : js_S} {x4 z0 : Int} {ux5 ux6 ux7 : js_v} : js_J E d 309 1017 [(3, 100), (2, 0), (2, 83), (2, 136), (0, x4), ux5, ux6, ux7] [(0, z0)] σ = (if 0 ≤ js_w (x4 + 1) ∧ js_w (x4 + 1) < (E.2.1 : Int) then js_J E d 309 1024 [(3, 100), (2, 0), (2, 83), (2, 136), (0, x4), ux5, ux6, ux7] [(0, (E.2.2 (js_w (x4 + 1)).toNat).toInt), (2, 83), (0, z0)] σ else none) :=
  (j_aload_n q_309_1017 rfl).trans <| (j_aload_n3 q_309_1018 rfl).trans <| (j_iload q_309_1019 rfl).trans <| (j_iconst q_309_1021).trans <| (j_iadd q_309_1022).trans <| (j_sloadi q_309_1023 rfl).trans <| js_itn <| rfl
theorem k_309_1024 {E : js_E} {d : Nat} {σ σ2 : js_S} {x4 z0 z2 : Int} {ux5 ux6 ux7 : js_v} {v : Int} (hd : 1 ≤ d) (hz : js_J E (d - 1) 298 0 [(2, 83), (0, z2)] [] σ = js_r E (0, v) σ2) : js_J E d 309 1024 [(3, 100), (2, 0), (2, 83), (2, 136), (0, x4), ux5, ux6, ux7] [(0, z2), (2, 83), (0, z0)] σ = js_J E d 309 1027 [(3, 100), (2, 0), (2, 83), (2, 136), (0, x4), ux5, ux6, ux7] [(0, v), (0, z0)] σ2 :=
  j_call (m := 0) (js_caV q_309_1024 (js_Mo qy_309 qm_19_129)) (js_agV (av := [(0, z2)]) (st := [(0, z0)]) rfl rfl js_o83 rfl) rfl rfl (by rw [ql_298]; exact Nat.le_of_ble_eq_true rfl) (Nat.le_of_ble_eq_true rfl) hd hz
theorem b_309_1027 {E : js_E} {d : Nat} {σ : js_S} {x4 z0 z1 : Int} {ux5 ux6 ux7 : js_v} : js_J E d 309 1027 [(3, 100), (2, 0), (2, 83), (2, 136), (0, x4), ux5, ux6, ux7] [(0, z1), (0, z0)] σ = (if js_w z0 = js_w z1 then js_J E d 309 1032 [(3, 100), (2, 0), (2, 83), (2, 136), (0, x4), ux5, ux6, ux7] [] σ else js_r E (0, 0) σ) :=
  (j_cmpeq (t := 1032) q_309_1027 rfl).trans (js_ite (rfl) ((j_iconst q_309_1030).trans <| j_breturn0 q_309_1031 qr_309))
theorem b_309_1032 {E : js_E} {d : Nat} {σ : js_S} {x4 : Int} {ux5 ux6 ux7 : js_v} : js_J E d 309 1032 [(3, 100), (2, 0), (2, 83), (2, 136), (0, x4), ux5, ux6, ux7] [] σ = js_J E d 309 33 [(3, 100), (2, 0), (2, 83), (2, 136), (0, x4 + 5), ux5, ux6, ux7] [] σ :=
  (j_iinc (l2 := [(3, 100), (2, 0), (2, 83), (2, 136), (0, x4 + 5), ux5, ux6, ux7]) q_309_1032 rfl rfl).trans <| (j_goto (t := 33) q_309_1035 rfl).trans <| rfl
