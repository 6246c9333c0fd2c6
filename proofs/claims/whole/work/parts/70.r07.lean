/-! part 70.r07: block equations of the reference's methods 247 to 253 (printed by wip/whole/tools/gen71.py) -/
theorem qy_255 : vt_O 255 = 12 := by decide +kernel
theorem qr_255 : vt_rc.getD 255 0 = 1 := by decide +kernel
theorem ql_255 : vt_ml.getD 255 0 = 2 := by decide +kernel
theorem qy_256 : vt_O 256 = 12 := by decide +kernel
theorem qr_256 : vt_rc.getD 256 0 = 0 := by decide +kernel
theorem ql_256 : vt_ml.getD 256 0 = 3 := by decide +kernel
theorem qy_250 : vt_O 250 = 12 := by decide +kernel
theorem qr_250 : vt_rc.getD 250 0 = 1 := by decide +kernel
theorem ql_250 : vt_ml.getD 250 0 = 8 := by decide +kernel
theorem qy_257 : vt_O 257 = 12 := by decide +kernel
theorem qr_257 : vt_rc.getD 257 0 = 3 := by decide +kernel
theorem ql_257 : vt_ml.getD 257 0 = 15 := by decide +kernel
theorem qy_260 : vt_O 260 = 12 := by decide +kernel
theorem qr_260 : vt_rc.getD 260 0 = 3 := by decide +kernel
theorem ql_260 : vt_ml.getD 260 0 = 13 := by decide +kernel
theorem qy_261 : vt_O 261 = 12 := by decide +kernel
theorem qr_261 : vt_rc.getD 261 0 = 3 := by decide +kernel
theorem ql_261 : vt_ml.getD 261 0 = 12 := by decide +kernel
theorem qy_249 : vt_O 249 = 12 := by decide +kernel
theorem qr_249 : vt_rc.getD 249 0 = 3 := by decide +kernel
theorem ql_249 : vt_ml.getD 249 0 = 18 := by decide +kernel
theorem qy_252 : vt_O 252 = 12 := by decide +kernel
theorem qr_252 : vt_rc.getD 252 0 = 0 := by decide +kernel
theorem ql_252 : vt_ml.getD 252 0 = 2 := by decide +kernel
theorem qy_254 : vt_O 254 = 12 := by decide +kernel
theorem qr_254 : vt_rc.getD 254 0 = 3 := by decide +kernel
theorem ql_254 : vt_ml.getD 254 0 = 8 := by decide +kernel
theorem q_247_0 : js_I 247 0 = some (.aload_n 0, 1) := by decide +kernel
theorem q_247_1 : js_I 247 1 = some (.getfield 181, 3) := by decide +kernel
theorem q_247_4 : js_I 247 4 = some (.iload_n 1, 1) := by decide +kernel
theorem q_247_5 : js_I 247 5 = some (.iaload, 1) := by decide +kernel
theorem q_247_6 : js_I 247 6 = some (.istore_n 3, 1) := by decide +kernel
theorem q_247_7 : js_I 247 7 = some (.aload_n 0, 1) := by decide +kernel
theorem q_247_8 : js_I 247 8 = some (.getfield 169, 3) := by decide +kernel
theorem q_247_11 : js_I 247 11 = some (.iload_n 1, 1) := by decide +kernel
theorem q_247_12 : js_I 247 12 = some (.baload, 1) := by decide +kernel
theorem q_247_13 : js_I 247 13 = some (.tableswitch 346 20 27 #[47, 78, 192, 303, 325, 346, 332, 339], 47) := by decide +kernel
theorem q_247_60 : js_I 247 60 = some (.aload_n 0, 1) := by decide +kernel
theorem q_247_61 : js_I 247 61 = some (.aload_n 0, 1) := by decide +kernel
theorem q_247_62 : js_I 247 62 = some (.getfield 184, 3) := by decide +kernel
theorem q_247_65 : js_I 247 65 = some (.iload_n 1, 1) := by decide +kernel
theorem q_247_66 : js_I 247 66 = some (.iaload, 1) := by decide +kernel
theorem q_247_67 : js_I 247 67 = some (.iload_n 2, 1) := by decide +kernel
theorem q_247_68 : js_I 247 68 = some (.invokevirtual 511, 3) := by decide +kernel
theorem q_247_71 : js_I 247 71 = some (.lstore 4, 2) := by decide +kernel
theorem q_247_73 : js_I 247 73 = some (.aload_n 0, 1) := by decide +kernel
theorem q_247_74 : js_I 247 74 = some (.iconst 2, 1) := by decide +kernel
theorem q_247_75 : js_I 247 75 = some (.aload_n 0, 1) := by decide +kernel
theorem q_247_76 : js_I 247 76 = some (.getfield 111, 3) := by decide +kernel
theorem q_247_79 : js_I 247 79 = some (.iload_n 3, 1) := by decide +kernel
theorem q_247_80 : js_I 247 80 = some (.iaload, 1) := by decide +kernel
theorem q_247_81 : js_I 247 81 = some (.iconst 0, 1) := by decide +kernel
theorem q_247_82 : js_I 247 82 = some (.invokevirtual 505, 3) := by decide +kernel
theorem q_247_85 : js_I 247 85 = some (.pop, 1) := by decide +kernel
theorem q_247_86 : js_I 247 86 = some (.lload 4, 2) := by decide +kernel
theorem q_247_88 : js_I 247 88 = some (.lconst 1, 1) := by decide +kernel
theorem q_247_89 : js_I 247 89 = some (.ladd, 1) := by decide +kernel
theorem q_247_90 : js_I 247 90 = some (.lreturn, 1) := by decide +kernel
theorem q_247_91 : js_I 247 91 = some (.aload_n 0, 1) := by decide +kernel
theorem q_247_92 : js_I 247 92 = some (.aload_n 0, 1) := by decide +kernel
theorem q_247_93 : js_I 247 93 = some (.getfield 187, 3) := by decide +kernel
theorem q_247_96 : js_I 247 96 = some (.iload_n 1, 1) := by decide +kernel
theorem q_247_97 : js_I 247 97 = some (.iaload, 1) := by decide +kernel
theorem q_247_98 : js_I 247 98 = some (.iload_n 2, 1) := by decide +kernel
theorem q_247_99 : js_I 247 99 = some (.invokevirtual 511, 3) := by decide +kernel
theorem q_247_102 : js_I 247 102 = some (.lstore 4, 2) := by decide +kernel
theorem q_247_104 : js_I 247 104 = some (.aload_n 0, 1) := by decide +kernel
theorem q_247_105 : js_I 247 105 = some (.iconst 2, 1) := by decide +kernel
theorem q_247_106 : js_I 247 106 = some (.aload_n 0, 1) := by decide +kernel
theorem q_247_107 : js_I 247 107 = some (.iload_n 2, 1) := by decide +kernel
theorem q_247_108 : js_I 247 108 = some (.invokevirtual 493, 3) := by decide +kernel
theorem q_247_111 : js_I 247 111 = some (.iconst 0, 1) := by decide +kernel
theorem q_247_112 : js_I 247 112 = some (.invokevirtual 505, 3) := by decide +kernel
theorem q_247_115 : js_I 247 115 = some (.pop, 1) := by decide +kernel
theorem q_247_116 : js_I 247 116 = some (.lload 4, 2) := by decide +kernel
theorem q_247_118 : js_I 247 118 = some (.aload_n 0, 1) := by decide +kernel
theorem q_247_119 : js_I 247 119 = some (.aload_n 0, 1) := by decide +kernel
theorem q_247_120 : js_I 247 120 = some (.getfield 184, 3) := by decide +kernel
theorem q_247_123 : js_I 247 123 = some (.iload_n 1, 1) := by decide +kernel
theorem q_247_124 : js_I 247 124 = some (.iaload, 1) := by decide +kernel
theorem q_247_125 : js_I 247 125 = some (.iload_n 2, 1) := by decide +kernel
theorem q_247_126 : js_I 247 126 = some (.iconst 1, 1) := by decide +kernel
theorem q_247_127 : js_I 247 127 = some (.iadd, 1) := by decide +kernel
theorem q_247_128 : js_I 247 128 = some (.invokevirtual 511, 3) := by decide +kernel
theorem q_247_131 : js_I 247 131 = some (.ladd, 1) := by decide +kernel
theorem q_247_132 : js_I 247 132 = some (.lstore 4, 2) := by decide +kernel
theorem q_247_134 : js_I 247 134 = some (.aload_n 0, 1) := by decide +kernel
theorem q_247_135 : js_I 247 135 = some (.iconst 2, 1) := by decide +kernel
theorem q_247_136 : js_I 247 136 = some (.aload_n 0, 1) := by decide +kernel
theorem q_247_137 : js_I 247 137 = some (.iload_n 2, 1) := by decide +kernel
theorem q_247_138 : js_I 247 138 = some (.iconst 1, 1) := by decide +kernel
theorem q_247_139 : js_I 247 139 = some (.iadd, 1) := by decide +kernel
theorem q_247_140 : js_I 247 140 = some (.invokevirtual 493, 3) := by decide +kernel
theorem q_247_143 : js_I 247 143 = some (.iconst 0, 1) := by decide +kernel
theorem q_247_144 : js_I 247 144 = some (.invokevirtual 505, 3) := by decide +kernel
theorem q_247_147 : js_I 247 147 = some (.pop, 1) := by decide +kernel
theorem q_247_148 : js_I 247 148 = some (.aload_n 0, 1) := by decide +kernel
theorem q_247_149 : js_I 247 149 = some (.iload_n 2, 1) := by decide +kernel
theorem q_247_150 : js_I 247 150 = some (.aload_n 0, 1) := by decide +kernel
theorem q_247_151 : js_I 247 151 = some (.getfield 187, 3) := by decide +kernel
theorem q_247_154 : js_I 247 154 = some (.iload_n 1, 1) := by decide +kernel
theorem q_247_155 : js_I 247 155 = some (.iaload, 1) := by decide +kernel
theorem q_247_156 : js_I 247 156 = some (.invokevirtual 514, 3) := by decide +kernel
theorem q_247_159 : js_I 247 159 = some (.aload_n 0, 1) := by decide +kernel
theorem q_247_160 : js_I 247 160 = some (.iconst 3, 1) := by decide +kernel
theorem q_247_161 : js_I 247 161 = some (.iconst 0, 1) := by decide +kernel
theorem q_247_162 : js_I 247 162 = some (.iconst 0, 1) := by decide +kernel
theorem q_247_163 : js_I 247 163 = some (.invokevirtual 505, 3) := by decide +kernel
theorem q_247_166 : js_I 247 166 = some (.pop, 1) := by decide +kernel
theorem q_247_167 : js_I 247 167 = some (.aload_n 0, 1) := by decide +kernel
theorem q_247_168 : js_I 247 168 = some (.iload_n 2, 1) := by decide +kernel
theorem q_247_169 : js_I 247 169 = some (.iconst 1, 1) := by decide +kernel
theorem q_247_170 : js_I 247 170 = some (.iadd, 1) := by decide +kernel
theorem q_247_171 : js_I 247 171 = some (.aload_n 0, 1) := by decide +kernel
theorem q_247_172 : js_I 247 172 = some (.getfield 184, 3) := by decide +kernel
theorem q_247_175 : js_I 247 175 = some (.iload_n 1, 1) := by decide +kernel
theorem q_247_176 : js_I 247 176 = some (.iaload, 1) := by decide +kernel
theorem q_247_177 : js_I 247 177 = some (.invokevirtual 514, 3) := by decide +kernel
theorem q_247_180 : js_I 247 180 = some (.aload_n 0, 1) := by decide +kernel
theorem q_247_181 : js_I 247 181 = some (.iconst 5, 1) := by decide +kernel
theorem q_247_182 : js_I 247 182 = some (.aload_n 0, 1) := by decide +kernel
theorem q_247_183 : js_I 247 183 = some (.getfield 111, 3) := by decide +kernel
theorem q_247_186 : js_I 247 186 = some (.iload_n 3, 1) := by decide +kernel
theorem q_247_187 : js_I 247 187 = some (.iaload, 1) := by decide +kernel
theorem q_247_188 : js_I 247 188 = some (.aload_n 0, 1) := by decide +kernel
theorem q_247_189 : js_I 247 189 = some (.getfield 114, 3) := by decide +kernel
theorem q_247_192 : js_I 247 192 = some (.iload_n 3, 1) := by decide +kernel
theorem q_247_193 : js_I 247 193 = some (.iaload, 1) := by decide +kernel
theorem q_247_194 : js_I 247 194 = some (.invokevirtual 505, 3) := by decide +kernel
theorem q_247_197 : js_I 247 197 = some (.pop, 1) := by decide +kernel
theorem q_247_198 : js_I 247 198 = some (.lload 4, 2) := by decide +kernel
theorem q_247_200 : js_I 247 200 = some (.ldc2_w 533, 3) := by decide +kernel
theorem q_247_203 : js_I 247 203 = some (.ladd, 1) := by decide +kernel
theorem q_247_204 : js_I 247 204 = some (.lreturn, 1) := by decide +kernel
theorem q_247_205 : js_I 247 205 = some (.aload_n 0, 1) := by decide +kernel
theorem q_247_206 : js_I 247 206 = some (.iconst 0, 1) := by decide +kernel
theorem q_247_207 : js_I 247 207 = some (.aload_n 0, 1) := by decide +kernel
theorem q_247_208 : js_I 247 208 = some (.getfield 184, 3) := by decide +kernel
theorem q_247_211 : js_I 247 211 = some (.iload_n 1, 1) := by decide +kernel
theorem q_247_212 : js_I 247 212 = some (.iaload, 1) := by decide +kernel
theorem q_247_213 : js_I 247 213 = some (.iconst 0, 1) := by decide +kernel
theorem q_247_214 : js_I 247 214 = some (.aload_n 0, 1) := by decide +kernel
theorem q_247_215 : js_I 247 215 = some (.getfield 102, 3) := by decide +kernel
theorem q_247_218 : js_I 247 218 = some (.iload_n 3, 1) := by decide +kernel
theorem q_247_219 : js_I 247 219 = some (.iaload, 1) := by decide +kernel
theorem q_247_220 : js_I 247 220 = some (.ifCond .ne 13, 3) := by decide +kernel
theorem q_247_223 : js_I 247 223 = some (.aload_n 0, 1) := by decide +kernel
theorem q_247_224 : js_I 247 224 = some (.getfield 184, 3) := by decide +kernel
theorem q_247_227 : js_I 247 227 = some (.iload_n 1, 1) := by decide +kernel
theorem q_247_228 : js_I 247 228 = some (.iaload, 1) := by decide +kernel
theorem q_247_229 : js_I 247 229 = some (.i2l, 1) := by decide +kernel
theorem q_247_230 : js_I 247 230 = some (.goto 10, 3) := by decide +kernel
theorem q_247_233 : js_I 247 233 = some (.aload_n 0, 1) := by decide +kernel
theorem q_247_234 : js_I 247 234 = some (.getfield 105, 3) := by decide +kernel
theorem q_247_237 : js_I 247 237 = some (.iload_n 3, 1) := by decide +kernel
theorem q_247_238 : js_I 247 238 = some (.iaload, 1) := by decide +kernel
theorem q_247_239 : js_I 247 239 = some (.i2l, 1) := by decide +kernel
theorem q_247_240 : js_I 247 240 = some (.aload_n 0, 1) := by decide +kernel
theorem q_247_241 : js_I 247 241 = some (.getfield 102, 3) := by decide +kernel
theorem q_247_244 : js_I 247 244 = some (.iload_n 3, 1) := by decide +kernel
theorem q_247_245 : js_I 247 245 = some (.iaload, 1) := by decide +kernel
theorem q_247_246 : js_I 247 246 = some (.ifCond .ne 13, 3) := by decide +kernel
theorem q_247_249 : js_I 247 249 = some (.aload_n 0, 1) := by decide +kernel
theorem q_247_250 : js_I 247 250 = some (.getfield 184, 3) := by decide +kernel
theorem q_247_253 : js_I 247 253 = some (.iload_n 1, 1) := by decide +kernel
theorem q_247_254 : js_I 247 254 = some (.iaload, 1) := by decide +kernel
theorem q_247_255 : js_I 247 255 = some (.i2l, 1) := by decide +kernel
theorem q_247_256 : js_I 247 256 = some (.goto 10, 3) := by decide +kernel
theorem q_247_259 : js_I 247 259 = some (.aload_n 0, 1) := by decide +kernel
theorem q_247_260 : js_I 247 260 = some (.getfield 108, 3) := by decide +kernel
theorem q_247_263 : js_I 247 263 = some (.iload_n 3, 1) := by decide +kernel
theorem q_247_264 : js_I 247 264 = some (.iaload, 1) := by decide +kernel
theorem q_247_265 : js_I 247 265 = some (.i2l, 1) := by decide +kernel
theorem q_247_266 : js_I 247 266 = some (.invokevirtual 483, 3) := by decide +kernel
theorem q_247_269 : js_I 247 269 = some (.pop, 1) := by decide +kernel
theorem q_247_270 : js_I 247 270 = some (.iconst 0, 1) := by decide +kernel
theorem q_247_271 : js_I 247 271 = some (.istore 6, 2) := by decide +kernel
theorem q_247_273 : js_I 247 273 = some (.iload 6, 2) := by decide +kernel
theorem q_247_275 : js_I 247 275 = some (.aload_n 0, 1) := by decide +kernel
theorem q_247_276 : js_I 247 276 = some (.getfield 114, 3) := by decide +kernel
theorem q_247_279 : js_I 247 279 = some (.iload_n 3, 1) := by decide +kernel
theorem q_247_280 : js_I 247 280 = some (.iaload, 1) := by decide +kernel
theorem q_247_281 : js_I 247 281 = some (.if_icmp .ge 25, 3) := by decide +kernel
theorem q_247_284 : js_I 247 284 = some (.aload_n 0, 1) := by decide +kernel
theorem q_247_285 : js_I 247 285 = some (.iconst 2, 1) := by decide +kernel
theorem q_247_286 : js_I 247 286 = some (.aload_n 0, 1) := by decide +kernel
theorem q_247_287 : js_I 247 287 = some (.getfield 111, 3) := by decide +kernel
theorem q_247_290 : js_I 247 290 = some (.iload_n 3, 1) := by decide +kernel
theorem q_247_291 : js_I 247 291 = some (.iaload, 1) := by decide +kernel
theorem q_247_292 : js_I 247 292 = some (.iload 6, 2) := by decide +kernel
theorem q_247_294 : js_I 247 294 = some (.iadd, 1) := by decide +kernel
theorem q_247_295 : js_I 247 295 = some (.iconst 0, 1) := by decide +kernel
theorem q_247_296 : js_I 247 296 = some (.invokevirtual 505, 3) := by decide +kernel
theorem q_247_306 : js_I 247 306 = some (.lconst 1, 1) := by decide +kernel
theorem q_247_307 : js_I 247 307 = some (.aload_n 0, 1) := by decide +kernel
theorem q_247_308 : js_I 247 308 = some (.getfield 114, 3) := by decide +kernel
theorem q_247_311 : js_I 247 311 = some (.iload_n 3, 1) := by decide +kernel
theorem q_247_312 : js_I 247 312 = some (.iaload, 1) := by decide +kernel
theorem q_247_313 : js_I 247 313 = some (.i2l, 1) := by decide +kernel
theorem q_247_314 : js_I 247 314 = some (.ladd, 1) := by decide +kernel
theorem q_247_315 : js_I 247 315 = some (.lreturn, 1) := by decide +kernel
theorem q_247_299 : js_I 247 299 = some (.pop, 1) := by decide +kernel
theorem q_247_300 : js_I 247 300 = some (.iinc 6 1, 3) := by decide +kernel
theorem q_247_303 : js_I 247 303 = some (.goto (-30), 3) := by decide +kernel
theorem q_247_316 : js_I 247 316 = some (.aload_n 0, 1) := by decide +kernel
theorem q_247_317 : js_I 247 317 = some (.iload_n 3, 1) := by decide +kernel
theorem q_247_318 : js_I 247 318 = some (.iload_n 2, 1) := by decide +kernel
theorem q_247_319 : js_I 247 319 = some (.invokevirtual 511, 3) := by decide +kernel
theorem q_247_322 : js_I 247 322 = some (.lstore 4, 2) := by decide +kernel
theorem q_247_324 : js_I 247 324 = some (.aload_n 0, 1) := by decide +kernel
theorem q_247_325 : js_I 247 325 = some (.bipush 30, 2) := by decide +kernel
theorem q_247_327 : js_I 247 327 = some (.iconst 0, 1) := by decide +kernel
theorem q_247_328 : js_I 247 328 = some (.iconst 0, 1) := by decide +kernel
theorem q_247_329 : js_I 247 329 = some (.invokevirtual 505, 3) := by decide +kernel
theorem q_247_332 : js_I 247 332 = some (.pop, 1) := by decide +kernel
theorem q_247_333 : js_I 247 333 = some (.lload 4, 2) := by decide +kernel
theorem q_247_335 : js_I 247 335 = some (.lconst 1, 1) := by decide +kernel
theorem q_247_336 : js_I 247 336 = some (.ladd, 1) := by decide +kernel
theorem q_247_337 : js_I 247 337 = some (.lreturn, 1) := by decide +kernel
theorem q_247_338 : js_I 247 338 = some (.aload_n 0, 1) := by decide +kernel
theorem q_247_339 : js_I 247 339 = some (.iload_n 1, 1) := by decide +kernel
theorem q_247_340 : js_I 247 340 = some (.iload_n 2, 1) := by decide +kernel
theorem q_247_341 : js_I 247 341 = some (.invokevirtual 535, 3) := by decide +kernel
theorem q_247_344 : js_I 247 344 = some (.lreturn, 1) := by decide +kernel
theorem q_247_345 : js_I 247 345 = some (.aload_n 0, 1) := by decide +kernel
theorem q_247_346 : js_I 247 346 = some (.iload_n 1, 1) := by decide +kernel
theorem q_247_347 : js_I 247 347 = some (.iload_n 2, 1) := by decide +kernel
theorem q_247_348 : js_I 247 348 = some (.invokevirtual 538, 3) := by decide +kernel
theorem q_247_351 : js_I 247 351 = some (.lreturn, 1) := by decide +kernel
theorem q_247_352 : js_I 247 352 = some (.aload_n 0, 1) := by decide +kernel
theorem q_247_353 : js_I 247 353 = some (.iload_n 1, 1) := by decide +kernel
theorem q_247_354 : js_I 247 354 = some (.iload_n 2, 1) := by decide +kernel
theorem q_247_355 : js_I 247 355 = some (.invokevirtual 541, 3) := by decide +kernel
theorem q_247_358 : js_I 247 358 = some (.lreturn, 1) := by decide +kernel
theorem q_247_359 : js_I 247 359 = some (.aload_n 0, 1) := by decide +kernel
theorem q_247_360 : js_I 247 360 = some (.iload_n 3, 1) := by decide +kernel
theorem q_247_361 : js_I 247 361 = some (.iload_n 2, 1) := by decide +kernel
theorem q_247_362 : js_I 247 362 = some (.invokevirtual 511, 3) := by decide +kernel
theorem q_247_365 : js_I 247 365 = some (.lreturn, 1) := by decide +kernel
theorem q_248_0 : js_I 248 0 = some (.aload_n 0, 1) := by decide +kernel
theorem q_248_1 : js_I 248 1 = some (.getfield 498, 3) := by decide +kernel
theorem q_248_4 : js_I 248 4 = some (.istore_n 3, 1) := by decide +kernel
theorem q_248_5 : js_I 248 5 = some (.iload_n 1, 1) := by decide +kernel
theorem q_248_6 : js_I 248 6 = some (.istore 4, 2) := by decide +kernel
theorem q_248_8 : js_I 248 8 = some (.aload_n 0, 1) := by decide +kernel
theorem q_248_9 : js_I 248 9 = some (.getfield 169, 3) := by decide +kernel
theorem q_248_12 : js_I 248 12 = some (.iload 4, 2) := by decide +kernel
theorem q_248_14 : js_I 248 14 = some (.baload, 1) := by decide +kernel
theorem q_248_15 : js_I 248 15 = some (.iconst 4, 1) := by decide +kernel
theorem q_248_16 : js_I 248 16 = some (.if_icmp .eq 27, 3) := by decide +kernel
theorem q_248_19 : js_I 248 19 = some (.aload_n 0, 1) := by decide +kernel
theorem q_248_20 : js_I 248 20 = some (.getfield 169, 3) := by decide +kernel
theorem q_248_23 : js_I 248 23 = some (.iload 4, 2) := by decide +kernel
theorem q_248_25 : js_I 248 25 = some (.baload, 1) := by decide +kernel
theorem q_248_26 : js_I 248 26 = some (.bipush 6, 2) := by decide +kernel
theorem q_248_28 : js_I 248 28 = some (.if_icmp .eq 15, 3) := by decide +kernel
theorem q_248_31 : js_I 248 31 = some (.aload_n 0, 1) := by decide +kernel
theorem q_248_32 : js_I 248 32 = some (.getfield 169, 3) := by decide +kernel
theorem q_248_35 : js_I 248 35 = some (.iload 4, 2) := by decide +kernel
theorem q_248_37 : js_I 248 37 = some (.baload, 1) := by decide +kernel
theorem q_248_38 : js_I 248 38 = some (.bipush 7, 2) := by decide +kernel
theorem q_248_40 : js_I 248 40 = some (.if_icmp .ne 36, 3) := by decide +kernel
theorem q_248_76 : js_I 248 76 = some (.aload_n 0, 1) := by decide +kernel
theorem q_248_77 : js_I 248 77 = some (.iload 4, 2) := by decide +kernel
theorem q_248_79 : js_I 248 79 = some (.iload_n 2, 1) := by decide +kernel
theorem q_248_80 : js_I 248 80 = some (.invokevirtual 501, 3) := by decide +kernel
theorem q_248_43 : js_I 248 43 = some (.aload_n 0, 1) := by decide +kernel
theorem q_248_44 : js_I 248 44 = some (.getfield 343, 3) := by decide +kernel
theorem q_248_47 : js_I 248 47 = some (.aload_n 0, 1) := by decide +kernel
theorem q_248_48 : js_I 248 48 = some (.getfield 498, 3) := by decide +kernel
theorem q_248_51 : js_I 248 51 = some (.iload 4, 2) := by decide +kernel
theorem q_248_53 : js_I 248 53 = some (.iastore, 1) := by decide +kernel
theorem q_248_54 : js_I 248 54 = some (.aload_n 0, 1) := by decide +kernel
theorem q_248_55 : js_I 248 55 = some (.dup, 1) := by decide +kernel
theorem q_248_56 : js_I 248 56 = some (.getfield 498, 3) := by decide +kernel
theorem q_248_59 : js_I 248 59 = some (.iconst 1, 1) := by decide +kernel
theorem q_248_60 : js_I 248 60 = some (.iadd, 1) := by decide +kernel
theorem q_248_61 : js_I 248 61 = some (.putfield 498, 3) := by decide +kernel
theorem q_248_64 : js_I 248 64 = some (.aload_n 0, 1) := by decide +kernel
theorem q_248_65 : js_I 248 65 = some (.getfield 181, 3) := by decide +kernel
theorem q_248_68 : js_I 248 68 = some (.iload 4, 2) := by decide +kernel
theorem q_248_70 : js_I 248 70 = some (.iaload, 1) := by decide +kernel
theorem q_248_71 : js_I 248 71 = some (.istore 4, 2) := by decide +kernel
theorem q_248_73 : js_I 248 73 = some (.goto (-65), 3) := by decide +kernel
theorem q_248_83 : js_I 248 83 = some (.lstore 5, 2) := by decide +kernel
theorem q_248_85 : js_I 248 85 = some (.aload_n 0, 1) := by decide +kernel
theorem q_248_86 : js_I 248 86 = some (.getfield 498, 3) := by decide +kernel
theorem q_248_89 : js_I 248 89 = some (.iload_n 3, 1) := by decide +kernel
theorem q_248_90 : js_I 248 90 = some (.if_icmp .le 185, 3) := by decide +kernel
theorem q_248_93 : js_I 248 93 = some (.aload_n 0, 1) := by decide +kernel
theorem q_248_94 : js_I 248 94 = some (.dup, 1) := by decide +kernel
theorem q_248_95 : js_I 248 95 = some (.getfield 498, 3) := by decide +kernel
theorem q_248_98 : js_I 248 98 = some (.iconst 1, 1) := by decide +kernel
theorem q_248_99 : js_I 248 99 = some (.isub, 1) := by decide +kernel
theorem q_248_100 : js_I 248 100 = some (.putfield 498, 3) := by decide +kernel
theorem q_248_103 : js_I 248 103 = some (.aload_n 0, 1) := by decide +kernel
theorem q_248_104 : js_I 248 104 = some (.getfield 343, 3) := by decide +kernel
theorem q_248_107 : js_I 248 107 = some (.aload_n 0, 1) := by decide +kernel
theorem q_248_108 : js_I 248 108 = some (.getfield 498, 3) := by decide +kernel
theorem q_248_111 : js_I 248 111 = some (.iaload, 1) := by decide +kernel
theorem q_248_112 : js_I 248 112 = some (.istore 4, 2) := by decide +kernel
theorem q_248_114 : js_I 248 114 = some (.aload_n 0, 1) := by decide +kernel
theorem q_248_115 : js_I 248 115 = some (.getfield 169, 3) := by decide +kernel
theorem q_248_118 : js_I 248 118 = some (.iload 4, 2) := by decide +kernel
theorem q_248_120 : js_I 248 120 = some (.baload, 1) := by decide +kernel
theorem q_248_121 : js_I 248 121 = some (.iconst 4, 1) := by decide +kernel
theorem q_248_122 : js_I 248 122 = some (.if_icmp .ne 91, 3) := by decide +kernel
theorem q_248_125 : js_I 248 125 = some (.aload_n 0, 1) := by decide +kernel
theorem q_248_126 : js_I 248 126 = some (.iconst 2, 1) := by decide +kernel
theorem q_248_127 : js_I 248 127 = some (.aload_n 0, 1) := by decide +kernel
theorem q_248_128 : js_I 248 128 = some (.iload_n 2, 1) := by decide +kernel
theorem q_248_129 : js_I 248 129 = some (.invokevirtual 493, 3) := by decide +kernel
theorem q_248_213 : js_I 248 213 = some (.aload_n 0, 1) := by decide +kernel
theorem q_248_214 : js_I 248 214 = some (.aload_n 0, 1) := by decide +kernel
theorem q_248_215 : js_I 248 215 = some (.getfield 169, 3) := by decide +kernel
theorem q_248_218 : js_I 248 218 = some (.iload 4, 2) := by decide +kernel
theorem q_248_220 : js_I 248 220 = some (.baload, 1) := by decide +kernel
theorem q_248_221 : js_I 248 221 = some (.bipush 6, 2) := by decide +kernel
theorem q_248_223 : js_I 248 223 = some (.if_icmp .ne 8, 3) := by decide +kernel
theorem q_248_226 : js_I 248 226 = some (.bipush 25, 2) := by decide +kernel
theorem q_248_228 : js_I 248 228 = some (.goto 5, 3) := by decide +kernel
theorem q_248_231 : js_I 248 231 = some (.bipush 26, 2) := by decide +kernel
theorem q_248_275 : js_I 248 275 = some (.lload 5, 2) := by decide +kernel
theorem q_248_277 : js_I 248 277 = some (.lreturn, 1) := by decide +kernel
theorem q_248_132 : js_I 248 132 = some (.iconst 0, 1) := by decide +kernel
theorem q_248_133 : js_I 248 133 = some (.invokevirtual 505, 3) := by decide +kernel
theorem q_248_136 : js_I 248 136 = some (.pop, 1) := by decide +kernel
theorem q_248_137 : js_I 248 137 = some (.lload 5, 2) := by decide +kernel
theorem q_248_139 : js_I 248 139 = some (.ldc2_w 509, 3) := by decide +kernel
theorem q_248_142 : js_I 248 142 = some (.aload_n 0, 1) := by decide +kernel
theorem q_248_143 : js_I 248 143 = some (.aload_n 0, 1) := by decide +kernel
theorem q_248_144 : js_I 248 144 = some (.getfield 184, 3) := by decide +kernel
theorem q_248_147 : js_I 248 147 = some (.iload 4, 2) := by decide +kernel
theorem q_248_149 : js_I 248 149 = some (.iaload, 1) := by decide +kernel
theorem q_248_150 : js_I 248 150 = some (.iload_n 2, 1) := by decide +kernel
theorem q_248_151 : js_I 248 151 = some (.iconst 1, 1) := by decide +kernel
theorem q_248_152 : js_I 248 152 = some (.iadd, 1) := by decide +kernel
theorem q_248_153 : js_I 248 153 = some (.invokevirtual 511, 3) := by decide +kernel
theorem q_248_156 : js_I 248 156 = some (.ladd, 1) := by decide +kernel
theorem q_248_157 : js_I 248 157 = some (.ladd, 1) := by decide +kernel
theorem q_248_158 : js_I 248 158 = some (.lstore 5, 2) := by decide +kernel
theorem q_248_160 : js_I 248 160 = some (.aload_n 0, 1) := by decide +kernel
theorem q_248_161 : js_I 248 161 = some (.iconst 3, 1) := by decide +kernel
theorem q_248_162 : js_I 248 162 = some (.iconst 0, 1) := by decide +kernel
theorem q_248_163 : js_I 248 163 = some (.iconst 0, 1) := by decide +kernel
theorem q_248_164 : js_I 248 164 = some (.invokevirtual 505, 3) := by decide +kernel
theorem q_248_167 : js_I 248 167 = some (.pop, 1) := by decide +kernel
theorem q_248_168 : js_I 248 168 = some (.aload_n 0, 1) := by decide +kernel
theorem q_248_169 : js_I 248 169 = some (.iload_n 2, 1) := by decide +kernel
theorem q_248_170 : js_I 248 170 = some (.aload_n 0, 1) := by decide +kernel
theorem q_248_171 : js_I 248 171 = some (.getfield 181, 3) := by decide +kernel
theorem q_248_174 : js_I 248 174 = some (.iload 4, 2) := by decide +kernel
theorem q_248_176 : js_I 248 176 = some (.iaload, 1) := by decide +kernel
theorem q_248_177 : js_I 248 177 = some (.invokevirtual 514, 3) := by decide +kernel
theorem q_248_180 : js_I 248 180 = some (.aload_n 0, 1) := by decide +kernel
theorem q_248_181 : js_I 248 181 = some (.aload_n 0, 1) := by decide +kernel
theorem q_248_182 : js_I 248 182 = some (.getfield 187, 3) := by decide +kernel
theorem q_248_185 : js_I 248 185 = some (.iload 4, 2) := by decide +kernel
theorem q_248_187 : js_I 248 187 = some (.iaload, 1) := by decide +kernel
theorem q_248_188 : js_I 248 188 = some (.iconst 0, 1) := by decide +kernel
theorem q_248_189 : js_I 248 189 = some (.iconst 0, 1) := by decide +kernel
theorem q_248_190 : js_I 248 190 = some (.aload_n 0, 1) := by decide +kernel
theorem q_248_191 : js_I 248 191 = some (.getfield 175, 3) := by decide +kernel
theorem q_248_194 : js_I 248 194 = some (.iload 4, 2) := by decide +kernel
theorem q_248_196 : js_I 248 196 = some (.iaload, 1) := by decide +kernel
theorem q_248_197 : js_I 248 197 = some (.i2l, 1) := by decide +kernel
theorem q_248_198 : js_I 248 198 = some (.aload_n 0, 1) := by decide +kernel
theorem q_248_199 : js_I 248 199 = some (.getfield 178, 3) := by decide +kernel
theorem q_248_202 : js_I 248 202 = some (.iload 4, 2) := by decide +kernel
theorem q_248_204 : js_I 248 204 = some (.iaload, 1) := by decide +kernel
theorem q_248_205 : js_I 248 205 = some (.i2l, 1) := by decide +kernel
theorem q_248_206 : js_I 248 206 = some (.invokevirtual 483, 3) := by decide +kernel
theorem q_248_209 : js_I 248 209 = some (.pop, 1) := by decide +kernel
theorem q_248_210 : js_I 248 210 = some (.goto 55, 3) := by decide +kernel
theorem q_248_233 : js_I 248 233 = some (.iconst 0, 1) := by decide +kernel
theorem q_248_234 : js_I 248 234 = some (.iconst 0, 1) := by decide +kernel
theorem q_248_235 : js_I 248 235 = some (.invokevirtual 505, 3) := by decide +kernel
theorem q_248_238 : js_I 248 238 = some (.istore 7, 2) := by decide +kernel
theorem q_248_240 : js_I 248 240 = some (.lload 5, 2) := by decide +kernel
theorem q_248_242 : js_I 248 242 = some (.lconst 1, 1) := by decide +kernel
theorem q_248_243 : js_I 248 243 = some (.aload_n 0, 1) := by decide +kernel
theorem q_248_244 : js_I 248 244 = some (.aload_n 0, 1) := by decide +kernel
theorem q_248_245 : js_I 248 245 = some (.getfield 184, 3) := by decide +kernel
theorem q_248_248 : js_I 248 248 = some (.iload 4, 2) := by decide +kernel
theorem q_248_250 : js_I 248 250 = some (.iaload, 1) := by decide +kernel
theorem q_248_251 : js_I 248 251 = some (.iload_n 2, 1) := by decide +kernel
theorem q_248_252 : js_I 248 252 = some (.invokevirtual 511, 3) := by decide +kernel
theorem q_248_255 : js_I 248 255 = some (.ladd, 1) := by decide +kernel
theorem q_248_256 : js_I 248 256 = some (.ladd, 1) := by decide +kernel
theorem q_248_257 : js_I 248 257 = some (.lstore 5, 2) := by decide +kernel
theorem q_248_259 : js_I 248 259 = some (.aload_n 0, 1) := by decide +kernel
theorem q_248_260 : js_I 248 260 = some (.iload 7, 2) := by decide +kernel
theorem q_248_262 : js_I 248 262 = some (.invokevirtual 517, 3) := by decide +kernel
theorem q_248_265 : js_I 248 265 = some (.lload 5, 2) := by decide +kernel
theorem q_248_267 : js_I 248 267 = some (.invokestatic 520, 3) := by decide +kernel
theorem q_248_270 : js_I 248 270 = some (.lstore 5, 2) := by decide +kernel
theorem q_248_272 : js_I 248 272 = some (.goto (-187), 3) := by decide +kernel
theorem q_249_0 : js_I 249 0 = some (.aload_n 0, 1) := by decide +kernel
theorem q_249_1 : js_I 249 1 = some (.getfield 181, 3) := by decide +kernel
theorem q_249_4 : js_I 249 4 = some (.iload_n 1, 1) := by decide +kernel
theorem q_249_5 : js_I 249 5 = some (.iaload, 1) := by decide +kernel
theorem q_249_6 : js_I 249 6 = some (.istore_n 3, 1) := by decide +kernel
theorem q_249_7 : js_I 249 7 = some (.aload_n 0, 1) := by decide +kernel
theorem q_249_8 : js_I 249 8 = some (.getfield 169, 3) := by decide +kernel
theorem q_249_11 : js_I 249 11 = some (.iload_n 1, 1) := by decide +kernel
theorem q_249_12 : js_I 249 12 = some (.baload, 1) := by decide +kernel
theorem q_249_13 : js_I 249 13 = some (.tableswitch 367 1 9 #[51, 75, 104, 367, 154, 367, 367, 194, 278], 51) := by decide +kernel
theorem q_249_64 : js_I 249 64 = some (.aload_n 0, 1) := by decide +kernel
theorem q_249_65 : js_I 249 65 = some (.iconst 0, 1) := by decide +kernel
theorem q_249_66 : js_I 249 66 = some (.iload_n 3, 1) := by decide +kernel
theorem q_249_67 : js_I 249 67 = some (.iconst 0, 1) := by decide +kernel
theorem q_249_68 : js_I 249 68 = some (.aload_n 0, 1) := by decide +kernel
theorem q_249_69 : js_I 249 69 = some (.getfield 175, 3) := by decide +kernel
theorem q_249_72 : js_I 249 72 = some (.iload_n 1, 1) := by decide +kernel
theorem q_249_73 : js_I 249 73 = some (.iaload, 1) := by decide +kernel
theorem q_249_74 : js_I 249 74 = some (.i2l, 1) := by decide +kernel
theorem q_249_75 : js_I 249 75 = some (.aload_n 0, 1) := by decide +kernel
theorem q_249_76 : js_I 249 76 = some (.getfield 178, 3) := by decide +kernel
theorem q_249_79 : js_I 249 79 = some (.iload_n 1, 1) := by decide +kernel
theorem q_249_80 : js_I 249 80 = some (.iaload, 1) := by decide +kernel
theorem q_249_81 : js_I 249 81 = some (.i2l, 1) := by decide +kernel
theorem q_249_82 : js_I 249 82 = some (.invokevirtual 483, 3) := by decide +kernel
theorem q_249_85 : js_I 249 85 = some (.pop, 1) := by decide +kernel
theorem q_249_86 : js_I 249 86 = some (.lconst 1, 1) := by decide +kernel
theorem q_249_87 : js_I 249 87 = some (.lreturn, 1) := by decide +kernel
theorem q_249_88 : js_I 249 88 = some (.aload_n 0, 1) := by decide +kernel
theorem q_249_89 : js_I 249 89 = some (.iconst 1, 1) := by decide +kernel
theorem q_249_90 : js_I 249 90 = some (.aload_n 0, 1) := by decide +kernel
theorem q_249_91 : js_I 249 91 = some (.getfield 111, 3) := by decide +kernel
theorem q_249_94 : js_I 249 94 = some (.iload_n 3, 1) := by decide +kernel
theorem q_249_95 : js_I 249 95 = some (.iaload, 1) := by decide +kernel
theorem q_249_96 : js_I 249 96 = some (.iconst 0, 1) := by decide +kernel
theorem q_249_97 : js_I 249 97 = some (.aload_n 0, 1) := by decide +kernel
theorem q_249_98 : js_I 249 98 = some (.getfield 175, 3) := by decide +kernel
theorem q_249_101 : js_I 249 101 = some (.iload_n 1, 1) := by decide +kernel
theorem q_249_102 : js_I 249 102 = some (.iaload, 1) := by decide +kernel
theorem q_249_103 : js_I 249 103 = some (.i2l, 1) := by decide +kernel
theorem q_249_104 : js_I 249 104 = some (.aload_n 0, 1) := by decide +kernel
theorem q_249_105 : js_I 249 105 = some (.getfield 178, 3) := by decide +kernel
theorem q_249_108 : js_I 249 108 = some (.iload_n 1, 1) := by decide +kernel
theorem q_249_109 : js_I 249 109 = some (.iaload, 1) := by decide +kernel
theorem q_249_110 : js_I 249 110 = some (.i2l, 1) := by decide +kernel
theorem q_249_111 : js_I 249 111 = some (.invokevirtual 483, 3) := by decide +kernel
theorem q_249_114 : js_I 249 114 = some (.pop, 1) := by decide +kernel
theorem q_249_115 : js_I 249 115 = some (.lconst 1, 1) := by decide +kernel
theorem q_249_116 : js_I 249 116 = some (.lreturn, 1) := by decide +kernel
theorem q_249_117 : js_I 249 117 = some (.aload_n 0, 1) := by decide +kernel
theorem q_249_118 : js_I 249 118 = some (.aload_n 0, 1) := by decide +kernel
theorem q_249_119 : js_I 249 119 = some (.getfield 184, 3) := by decide +kernel
theorem q_249_122 : js_I 249 122 = some (.iload_n 1, 1) := by decide +kernel
theorem q_249_123 : js_I 249 123 = some (.iaload, 1) := by decide +kernel
theorem q_249_124 : js_I 249 124 = some (.iload_n 2, 1) := by decide +kernel
theorem q_249_125 : js_I 249 125 = some (.invokevirtual 511, 3) := by decide +kernel
theorem q_249_128 : js_I 249 128 = some (.lstore 4, 2) := by decide +kernel
theorem q_249_130 : js_I 249 130 = some (.aload_n 0, 1) := by decide +kernel
theorem q_249_131 : js_I 249 131 = some (.iconst 4, 1) := by decide +kernel
theorem q_249_132 : js_I 249 132 = some (.aload_n 0, 1) := by decide +kernel
theorem q_249_133 : js_I 249 133 = some (.getfield 111, 3) := by decide +kernel
theorem q_249_136 : js_I 249 136 = some (.iload_n 3, 1) := by decide +kernel
theorem q_249_137 : js_I 249 137 = some (.iaload, 1) := by decide +kernel
theorem q_249_138 : js_I 249 138 = some (.aload_n 0, 1) := by decide +kernel
theorem q_249_139 : js_I 249 139 = some (.getfield 114, 3) := by decide +kernel
theorem q_249_142 : js_I 249 142 = some (.iload_n 3, 1) := by decide +kernel
theorem q_249_143 : js_I 249 143 = some (.iaload, 1) := by decide +kernel
theorem q_249_144 : js_I 249 144 = some (.aload_n 0, 1) := by decide +kernel
theorem q_249_145 : js_I 249 145 = some (.getfield 175, 3) := by decide +kernel
theorem q_249_148 : js_I 249 148 = some (.iload_n 1, 1) := by decide +kernel
theorem q_249_149 : js_I 249 149 = some (.iaload, 1) := by decide +kernel
theorem q_249_150 : js_I 249 150 = some (.i2l, 1) := by decide +kernel
theorem q_249_151 : js_I 249 151 = some (.aload_n 0, 1) := by decide +kernel
theorem q_249_152 : js_I 249 152 = some (.getfield 178, 3) := by decide +kernel
theorem q_249_155 : js_I 249 155 = some (.iload_n 1, 1) := by decide +kernel
theorem q_249_156 : js_I 249 156 = some (.iaload, 1) := by decide +kernel
theorem q_249_157 : js_I 249 157 = some (.i2l, 1) := by decide +kernel
theorem q_249_158 : js_I 249 158 = some (.invokevirtual 483, 3) := by decide +kernel
theorem q_249_161 : js_I 249 161 = some (.pop, 1) := by decide +kernel
theorem q_249_162 : js_I 249 162 = some (.lload 4, 2) := by decide +kernel
theorem q_249_164 : js_I 249 164 = some (.lconst 1, 1) := by decide +kernel
theorem q_249_165 : js_I 249 165 = some (.ladd, 1) := by decide +kernel
theorem q_249_166 : js_I 249 166 = some (.lreturn, 1) := by decide +kernel
theorem q_249_167 : js_I 249 167 = some (.aload_n 0, 1) := by decide +kernel
theorem q_249_168 : js_I 249 168 = some (.iload_n 3, 1) := by decide +kernel
theorem q_249_169 : js_I 249 169 = some (.iload_n 2, 1) := by decide +kernel
theorem q_249_170 : js_I 249 170 = some (.invokevirtual 511, 3) := by decide +kernel
theorem q_249_173 : js_I 249 173 = some (.lstore 6, 2) := by decide +kernel
theorem q_249_175 : js_I 249 175 = some (.aload_n 0, 1) := by decide +kernel
theorem q_249_176 : js_I 249 176 = some (.aload_n 0, 1) := by decide +kernel
theorem q_249_177 : js_I 249 177 = some (.getfield 187, 3) := by decide +kernel
theorem q_249_180 : js_I 249 180 = some (.iload_n 1, 1) := by decide +kernel
theorem q_249_181 : js_I 249 181 = some (.iaload, 1) := by decide +kernel
theorem q_249_182 : js_I 249 182 = some (.iconst 0, 1) := by decide +kernel
theorem q_249_183 : js_I 249 183 = some (.iconst 0, 1) := by decide +kernel
theorem q_249_184 : js_I 249 184 = some (.aload_n 0, 1) := by decide +kernel
theorem q_249_185 : js_I 249 185 = some (.getfield 175, 3) := by decide +kernel
theorem q_249_188 : js_I 249 188 = some (.iload_n 1, 1) := by decide +kernel
theorem q_249_189 : js_I 249 189 = some (.iaload, 1) := by decide +kernel
theorem q_249_190 : js_I 249 190 = some (.i2l, 1) := by decide +kernel
theorem q_249_191 : js_I 249 191 = some (.aload_n 0, 1) := by decide +kernel
theorem q_249_192 : js_I 249 192 = some (.getfield 178, 3) := by decide +kernel
theorem q_249_195 : js_I 249 195 = some (.iload_n 1, 1) := by decide +kernel
theorem q_249_196 : js_I 249 196 = some (.iaload, 1) := by decide +kernel
theorem q_249_197 : js_I 249 197 = some (.i2l, 1) := by decide +kernel
theorem q_249_198 : js_I 249 198 = some (.invokevirtual 483, 3) := by decide +kernel
theorem q_249_201 : js_I 249 201 = some (.pop, 1) := by decide +kernel
theorem q_249_202 : js_I 249 202 = some (.lload 6, 2) := by decide +kernel
theorem q_249_204 : js_I 249 204 = some (.lconst 1, 1) := by decide +kernel
theorem q_249_205 : js_I 249 205 = some (.ladd, 1) := by decide +kernel
theorem q_249_206 : js_I 249 206 = some (.lreturn, 1) := by decide +kernel
theorem q_249_207 : js_I 249 207 = some (.aload_n 0, 1) := by decide +kernel
theorem q_249_208 : js_I 249 208 = some (.iload_n 3, 1) := by decide +kernel
theorem q_249_209 : js_I 249 209 = some (.iload_n 2, 1) := by decide +kernel
theorem q_249_210 : js_I 249 210 = some (.invokevirtual 511, 3) := by decide +kernel
theorem q_249_213 : js_I 249 213 = some (.lstore 8, 2) := by decide +kernel
theorem q_249_215 : js_I 249 215 = some (.aload_n 0, 1) := by decide +kernel
theorem q_249_216 : js_I 249 216 = some (.bipush 25, 2) := by decide +kernel
theorem q_249_218 : js_I 249 218 = some (.iconst 0, 1) := by decide +kernel
theorem q_249_219 : js_I 249 219 = some (.iconst 0, 1) := by decide +kernel
theorem q_249_220 : js_I 249 220 = some (.invokevirtual 505, 3) := by decide +kernel
theorem q_249_223 : js_I 249 223 = some (.istore 10, 2) := by decide +kernel
theorem q_249_225 : js_I 249 225 = some (.aload_n 0, 1) := by decide +kernel
theorem q_249_226 : js_I 249 226 = some (.aload_n 0, 1) := by decide +kernel
theorem q_249_227 : js_I 249 227 = some (.getfield 184, 3) := by decide +kernel
theorem q_249_230 : js_I 249 230 = some (.iload_n 1, 1) := by decide +kernel
theorem q_249_231 : js_I 249 231 = some (.iaload, 1) := by decide +kernel
theorem q_249_232 : js_I 249 232 = some (.iload_n 2, 1) := by decide +kernel
theorem q_249_233 : js_I 249 233 = some (.invokevirtual 511, 3) := by decide +kernel
theorem q_249_236 : js_I 249 236 = some (.lstore 11, 2) := by decide +kernel
theorem q_249_238 : js_I 249 238 = some (.aload_n 0, 1) := by decide +kernel
theorem q_249_239 : js_I 249 239 = some (.bipush 24, 2) := by decide +kernel
theorem q_249_241 : js_I 249 241 = some (.iconst 0, 1) := by decide +kernel
theorem q_249_242 : js_I 249 242 = some (.iconst 0, 1) := by decide +kernel
theorem q_249_243 : js_I 249 243 = some (.invokevirtual 505, 3) := by decide +kernel
theorem q_249_246 : js_I 249 246 = some (.istore 13, 2) := by decide +kernel
theorem q_249_248 : js_I 249 248 = some (.aload_n 0, 1) := by decide +kernel
theorem q_249_249 : js_I 249 249 = some (.iload 10, 2) := by decide +kernel
theorem q_249_251 : js_I 249 251 = some (.invokevirtual 517, 3) := by decide +kernel
theorem q_249_254 : js_I 249 254 = some (.aload_n 0, 1) := by decide +kernel
theorem q_249_255 : js_I 249 255 = some (.aload_n 0, 1) := by decide +kernel
theorem q_249_256 : js_I 249 256 = some (.getfield 187, 3) := by decide +kernel
theorem q_249_259 : js_I 249 259 = some (.iload_n 1, 1) := by decide +kernel
theorem q_249_260 : js_I 249 260 = some (.iaload, 1) := by decide +kernel
theorem q_249_261 : js_I 249 261 = some (.iload_n 2, 1) := by decide +kernel
theorem q_249_262 : js_I 249 262 = some (.invokevirtual 511, 3) := by decide +kernel
theorem q_249_265 : js_I 249 265 = some (.lstore 14, 2) := by decide +kernel
theorem q_249_267 : js_I 249 267 = some (.aload_n 0, 1) := by decide +kernel
theorem q_249_268 : js_I 249 268 = some (.iload 13, 2) := by decide +kernel
theorem q_249_270 : js_I 249 270 = some (.invokevirtual 517, 3) := by decide +kernel
theorem q_249_273 : js_I 249 273 = some (.lload 8, 2) := by decide +kernel
theorem q_249_275 : js_I 249 275 = some (.lconst 1, 1) := by decide +kernel
theorem q_249_276 : js_I 249 276 = some (.ladd, 1) := by decide +kernel
theorem q_249_277 : js_I 249 277 = some (.lload 11, 2) := by decide +kernel
theorem q_249_279 : js_I 249 279 = some (.lconst 1, 1) := by decide +kernel
theorem q_249_280 : js_I 249 280 = some (.ladd, 1) := by decide +kernel
theorem q_249_281 : js_I 249 281 = some (.lload 14, 2) := by decide +kernel
theorem q_249_283 : js_I 249 283 = some (.invokestatic 241, 3) := by decide +kernel
theorem q_249_286 : js_I 249 286 = some (.ladd, 1) := by decide +kernel
theorem q_249_287 : js_I 249 287 = some (.invokestatic 520, 3) := by decide +kernel
theorem q_249_290 : js_I 249 290 = some (.lreturn, 1) := by decide +kernel
theorem q_249_291 : js_I 249 291 = some (.aload_n 0, 1) := by decide +kernel
theorem q_249_292 : js_I 249 292 = some (.iload_n 3, 1) := by decide +kernel
theorem q_249_293 : js_I 249 293 = some (.iload_n 2, 1) := by decide +kernel
theorem q_249_294 : js_I 249 294 = some (.invokevirtual 511, 3) := by decide +kernel
theorem q_249_297 : js_I 249 297 = some (.lstore 16, 2) := by decide +kernel
theorem q_249_299 : js_I 249 299 = some (.aload_n 0, 1) := by decide +kernel
theorem q_249_300 : js_I 249 300 = some (.bipush 22, 2) := by decide +kernel
theorem q_249_302 : js_I 249 302 = some (.aload_n 0, 1) := by decide +kernel
theorem q_249_303 : js_I 249 303 = some (.getfield 184, 3) := by decide +kernel
theorem q_249_306 : js_I 249 306 = some (.iload_n 1, 1) := by decide +kernel
theorem q_249_307 : js_I 249 307 = some (.iaload, 1) := by decide +kernel
theorem q_249_308 : js_I 249 308 = some (.iconst 0, 1) := by decide +kernel
theorem q_249_309 : js_I 249 309 = some (.aload_n 0, 1) := by decide +kernel
theorem q_249_310 : js_I 249 310 = some (.getfield 184, 3) := by decide +kernel
theorem q_249_313 : js_I 249 313 = some (.iload_n 1, 1) := by decide +kernel
theorem q_249_314 : js_I 249 314 = some (.iaload, 1) := by decide +kernel
theorem q_249_315 : js_I 249 315 = some (.aload_n 0, 1) := by decide +kernel
theorem q_249_316 : js_I 249 316 = some (.getfield 175, 3) := by decide +kernel
theorem q_249_319 : js_I 249 319 = some (.iload_n 3, 1) := by decide +kernel
theorem q_249_320 : js_I 249 320 = some (.iaload, 1) := by decide +kernel
theorem q_249_321 : js_I 249 321 = some (.invokestatic 205, 3) := by decide +kernel
theorem q_249_324 : js_I 249 324 = some (.i2l, 1) := by decide +kernel
theorem q_249_325 : js_I 249 325 = some (.aload_n 0, 1) := by decide +kernel
theorem q_249_326 : js_I 249 326 = some (.getfield 184, 3) := by decide +kernel
theorem q_249_329 : js_I 249 329 = some (.iload_n 1, 1) := by decide +kernel
theorem q_249_330 : js_I 249 330 = some (.iaload, 1) := by decide +kernel
theorem q_249_331 : js_I 249 331 = some (.aload_n 0, 1) := by decide +kernel
theorem q_249_332 : js_I 249 332 = some (.getfield 178, 3) := by decide +kernel
theorem q_249_335 : js_I 249 335 = some (.iload_n 3, 1) := by decide +kernel
theorem q_249_336 : js_I 249 336 = some (.iaload, 1) := by decide +kernel
theorem q_249_337 : js_I 249 337 = some (.invokestatic 205, 3) := by decide +kernel
theorem q_249_340 : js_I 249 340 = some (.i2l, 1) := by decide +kernel
theorem q_249_341 : js_I 249 341 = some (.invokevirtual 483, 3) := by decide +kernel
theorem q_249_344 : js_I 249 344 = some (.pop, 1) := by decide +kernel
theorem q_249_345 : js_I 249 345 = some (.aload_n 0, 1) := by decide +kernel
theorem q_249_346 : js_I 249 346 = some (.bipush 23, 2) := by decide +kernel
theorem q_249_348 : js_I 249 348 = some (.aload_n 0, 1) := by decide +kernel
theorem q_249_349 : js_I 249 349 = some (.getfield 187, 3) := by decide +kernel
theorem q_249_352 : js_I 249 352 = some (.iload_n 1, 1) := by decide +kernel
theorem q_249_353 : js_I 249 353 = some (.iaload, 1) := by decide +kernel
theorem q_249_354 : js_I 249 354 = some (.iconst 0, 1) := by decide +kernel
theorem q_249_355 : js_I 249 355 = some (.aload_n 0, 1) := by decide +kernel
theorem q_249_356 : js_I 249 356 = some (.getfield 175, 3) := by decide +kernel
theorem q_249_359 : js_I 249 359 = some (.iload_n 1, 1) := by decide +kernel
theorem q_249_360 : js_I 249 360 = some (.iaload, 1) := by decide +kernel
theorem q_249_361 : js_I 249 361 = some (.i2l, 1) := by decide +kernel
theorem q_249_362 : js_I 249 362 = some (.aload_n 0, 1) := by decide +kernel
theorem q_249_363 : js_I 249 363 = some (.getfield 178, 3) := by decide +kernel
theorem q_249_366 : js_I 249 366 = some (.iload_n 1, 1) := by decide +kernel
theorem q_249_367 : js_I 249 367 = some (.iaload, 1) := by decide +kernel
theorem q_249_368 : js_I 249 368 = some (.i2l, 1) := by decide +kernel
theorem q_249_369 : js_I 249 369 = some (.invokevirtual 483, 3) := by decide +kernel
theorem q_249_372 : js_I 249 372 = some (.pop, 1) := by decide +kernel
theorem q_249_373 : js_I 249 373 = some (.lload 16, 2) := by decide +kernel
theorem q_249_375 : js_I 249 375 = some (.ldc2_w 523, 3) := by decide +kernel
theorem q_249_378 : js_I 249 378 = some (.ladd, 1) := by decide +kernel
theorem q_249_379 : js_I 249 379 = some (.lreturn, 1) := by decide +kernel
theorem q_249_380 : js_I 249 380 = some (.aload_n 0, 1) := by decide +kernel
theorem q_249_381 : js_I 249 381 = some (.iload_n 1, 1) := by decide +kernel
theorem q_249_382 : js_I 249 382 = some (.iload_n 2, 1) := by decide +kernel
theorem q_249_383 : js_I 249 383 = some (.invokevirtual 525, 3) := by decide +kernel
theorem q_249_386 : js_I 249 386 = some (.lreturn, 1) := by decide +kernel
theorem q_250_0 : js_I 250 0 = some (.aload_n 0, 1) := by decide +kernel
theorem q_250_1 : js_I 250 1 = some (.getfield 428, 3) := by decide +kernel
theorem q_250_4 : js_I 250 4 = some (.sipush 8192, 3) := by decide +kernel
theorem q_250_7 : js_I 250 7 = some (.if_icmp .ge 55, 3) := by decide +kernel
theorem q_250_10 : js_I 250 10 = some (.aload_n 0, 1) := by decide +kernel
theorem q_250_11 : js_I 250 11 = some (.getfield 346, 3) := by decide +kernel
theorem q_250_14 : js_I 250 14 = some (.aload_n 0, 1) := by decide +kernel
theorem q_250_15 : js_I 250 15 = some (.getfield 428, 3) := by decide +kernel
theorem q_250_18 : js_I 250 18 = some (.iload_n 1, 1) := by decide +kernel
theorem q_250_19 : js_I 250 19 = some (.iastore, 1) := by decide +kernel
theorem q_250_20 : js_I 250 20 = some (.aload_n 0, 1) := by decide +kernel
theorem q_250_21 : js_I 250 21 = some (.getfield 349, 3) := by decide +kernel
theorem q_250_24 : js_I 250 24 = some (.aload_n 0, 1) := by decide +kernel
theorem q_250_25 : js_I 250 25 = some (.getfield 428, 3) := by decide +kernel
theorem q_250_28 : js_I 250 28 = some (.iload_n 2, 1) := by decide +kernel
theorem q_250_29 : js_I 250 29 = some (.iastore, 1) := by decide +kernel
theorem q_250_30 : js_I 250 30 = some (.aload_n 0, 1) := by decide +kernel
theorem q_250_31 : js_I 250 31 = some (.getfield 352, 3) := by decide +kernel
theorem q_250_34 : js_I 250 34 = some (.aload_n 0, 1) := by decide +kernel
theorem q_250_35 : js_I 250 35 = some (.getfield 428, 3) := by decide +kernel
theorem q_250_38 : js_I 250 38 = some (.iload_n 3, 1) := by decide +kernel
theorem q_250_39 : js_I 250 39 = some (.iastore, 1) := by decide +kernel
theorem q_250_40 : js_I 250 40 = some (.aload_n 0, 1) := by decide +kernel
theorem q_250_41 : js_I 250 41 = some (.getfield 355, 3) := by decide +kernel
theorem q_250_44 : js_I 250 44 = some (.aload_n 0, 1) := by decide +kernel
theorem q_250_45 : js_I 250 45 = some (.getfield 428, 3) := by decide +kernel
theorem q_250_48 : js_I 250 48 = some (.lload 4, 2) := by decide +kernel
theorem q_250_50 : js_I 250 50 = some (.lastore, 1) := by decide +kernel
theorem q_250_51 : js_I 250 51 = some (.aload_n 0, 1) := by decide +kernel
theorem q_250_52 : js_I 250 52 = some (.getfield 359, 3) := by decide +kernel
theorem q_250_55 : js_I 250 55 = some (.aload_n 0, 1) := by decide +kernel
theorem q_250_56 : js_I 250 56 = some (.getfield 428, 3) := by decide +kernel
theorem q_250_59 : js_I 250 59 = some (.lload 6, 2) := by decide +kernel
theorem q_250_61 : js_I 250 61 = some (.lastore, 1) := by decide +kernel
theorem q_250_62 : js_I 250 62 = some (.aload_n 0, 1) := by decide +kernel
theorem q_250_63 : js_I 250 63 = some (.dup, 1) := by decide +kernel
theorem q_250_64 : js_I 250 64 = some (.getfield 428, 3) := by decide +kernel
theorem q_250_67 : js_I 250 67 = some (.iconst 1, 1) := by decide +kernel
theorem q_250_68 : js_I 250 68 = some (.iadd, 1) := by decide +kernel
theorem q_250_69 : js_I 250 69 = some (.putfield 428, 3) := by decide +kernel
theorem q_250_72 : js_I 250 72 = some (.aload_n 0, 1) := by decide +kernel
theorem q_250_73 : js_I 250 73 = some (.getfield 428, 3) := by decide +kernel
theorem q_250_76 : js_I 250 76 = some (.iconst 1, 1) := by decide +kernel
theorem q_250_77 : js_I 250 77 = some (.isub, 1) := by decide +kernel
theorem q_250_78 : js_I 250 78 = some (.ireturn, 1) := by decide +kernel
theorem q_251_0 : js_I 251 0 = some (.aload_n 0, 1) := by decide +kernel
theorem q_251_1 : js_I 251 1 = some (.iload_n 1, 1) := by decide +kernel
theorem q_251_2 : js_I 251 2 = some (.iload_n 2, 1) := by decide +kernel
theorem q_251_3 : js_I 251 3 = some (.iload_n 3, 1) := by decide +kernel
theorem q_251_4 : js_I 251 4 = some (.lconst 1, 1) := by decide +kernel
theorem q_251_5 : js_I 251 5 = some (.lconst 0, 1) := by decide +kernel
theorem q_251_6 : js_I 251 6 = some (.invokevirtual 483, 3) := by decide +kernel
theorem q_251_9 : js_I 251 9 = some (.ireturn, 1) := by decide +kernel
theorem q_252_0 : js_I 252 0 = some (.iload_n 1, 1) := by decide +kernel
theorem q_252_1 : js_I 252 1 = some (.sipush 8192, 3) := by decide +kernel
theorem q_252_4 : js_I 252 4 = some (.if_icmp .ge 13, 3) := by decide +kernel
theorem q_252_7 : js_I 252 7 = some (.aload_n 0, 1) := by decide +kernel
theorem q_252_8 : js_I 252 8 = some (.getfield 349, 3) := by decide +kernel
theorem q_252_11 : js_I 252 11 = some (.iload_n 1, 1) := by decide +kernel
theorem q_252_12 : js_I 252 12 = some (.aload_n 0, 1) := by decide +kernel
theorem q_252_13 : js_I 252 13 = some (.getfield 428, 3) := by decide +kernel
theorem q_252_16 : js_I 252 16 = some (.iastore, 1) := by decide +kernel
theorem q_252_17 : js_I 252 17 = some (.return_, 1) := by decide +kernel
theorem q_253_0 : js_I 253 0 = some (.lload_n 0, 1) := by decide +kernel
theorem q_253_1 : js_I 253 1 = some (.ldc2_w 496, 3) := by decide +kernel
theorem q_253_4 : js_I 253 4 = some (.lcmp, 1) := by decide +kernel
theorem q_253_5 : js_I 253 5 = some (.ifCond .le 9, 3) := by decide +kernel
theorem q_253_8 : js_I 253 8 = some (.ldc2_w 496, 3) := by decide +kernel
theorem q_253_11 : js_I 253 11 = some (.goto 4, 3) := by decide +kernel
theorem q_253_15 : js_I 253 15 = some (.lreturn, 1) := by decide +kernel
theorem q_253_14 : js_I 253 14 = some (.lload_n 0, 1) := by decide +kernel
theorem qf_12_343 : ip_lk (vt_FL.getD 12 []) 343 = some (12, 58) := by decide +kernel
theorem qm_12_493 : ip_lk (vt_ML.getD 12 []) 493 = some (255, 1, 1, 12) := by decide +kernel
theorem qm_12_514 : ip_lk (vt_ML.getD 12 []) 514 = some (256, 2, 1, 12) := by decide +kernel
theorem qm_12_483 : ip_lk (vt_ML.getD 12 []) 483 = some (250, 5, 1, 12) := by decide +kernel
theorem qm_12_535 : ip_lk (vt_ML.getD 12 []) 535 = some (257, 2, 1, 12) := by decide +kernel
theorem qm_12_538 : ip_lk (vt_ML.getD 12 []) 538 = some (260, 2, 1, 12) := by decide +kernel
theorem qm_12_541 : ip_lk (vt_ML.getD 12 []) 541 = some (261, 2, 1, 12) := by decide +kernel
theorem qm_12_501 : ip_lk (vt_ML.getD 12 []) 501 = some (249, 2, 1, 12) := by decide +kernel
theorem qm_12_517 : ip_lk (vt_ML.getD 12 []) 517 = some (252, 1, 1, 12) := by decide +kernel
theorem qm_12_525 : ip_lk (vt_ML.getD 12 []) 525 = some (254, 2, 1, 12) := by decide +kernel
theorem qc_12_533 : ip_lk (vt_CL.getD 12 []) 533 = some (js_V (1, 6)) := by decide +kernel
theorem qc_12_509 : ip_lk (vt_CL.getD 12 []) 509 = some (js_V (1, 4)) := by decide +kernel
theorem qc_12_523 : ip_lk (vt_CL.getD 12 []) 523 = some (js_V (1, 2)) := by decide +kernel
theorem qc_12_496 : ip_lk (vt_CL.getD 12 []) 496 = some (js_V (1, 1000000000000000)) := by decide +kernel
theorem wl_1000000000000000 : js_l 1000000000000000 = 1000000000000000 := by decide +kernel
-- 247: VitalTwinModel.genStatement (II)J
theorem b_247_0 {E : js_E} {d : Nat} {σ : js_S} {x1 x2 : Int} : js_J E d 247 0 [(2, 83), (0, x1), (0, x2), (9, 0), (9, 0), (9, 0), (9, 0)] [] σ = (if 0 ≤ js_w x1 ∧ js_w x1 < 66000 then js_J E d 247 13 [(2, 83), (0, x1), (0, x2), (0, σ 102 (js_w x1)), (9, 0), (9, 0), (9, 0)] [(0, σ 100 (js_w x1))] σ else none) :=
  (j_aload_n q_247_0 rfl).trans <| (j_get (ji := 36) (v := (2, 102)) q_247_1 (js_Fo qy_247 qf_12_181) js_o83 rfl rfl rfl rfl).trans <| (j_iload_n q_247_4 rfl).trans <| (j_iaload q_247_5 js_o102).trans <| js_itp fun g0 => (j_istore_n (l2 := [(2, 83), (0, x1), (0, x2), (0, σ 102 (js_w x1)), (9, 0), (9, 0), (9, 0)]) q_247_6 rfl (Nat.le_of_ble_eq_true rfl)).trans <| (j_aload_n q_247_7 rfl).trans <| (j_get (ji := 34) (v := (2, 100)) q_247_8 (js_Fo qy_247 qf_12_169) js_o83 rfl rfl rfl rfl).trans <| (j_iload_n q_247_11 rfl).trans <| (j_baload q_247_12 js_o100).trans <| (if_pos g0).trans <| rfl
theorem s_247_13_20 {E : js_E} {d : Nat} {σ : js_S} {x1 x2 x3 z0 : Int} (h : js_w z0 = 20) : js_J E d 247 13 [(2, 83), (0, x1), (0, x2), (0, x3), (9, 0), (9, 0), (9, 0)] [(0, z0)] σ = js_J E d 247 60 [(2, 83), (0, x1), (0, x2), (0, x3), (9, 0), (9, 0), (9, 0)] [] σ :=
  j_tsw (t := 60) (off := 47) q_247_13 (by rw [h]; decide) (by rw [h]; decide) (by rw [h]; rfl) rfl
theorem s_247_13_21 {E : js_E} {d : Nat} {σ : js_S} {x1 x2 x3 z0 : Int} (h : js_w z0 = 21) : js_J E d 247 13 [(2, 83), (0, x1), (0, x2), (0, x3), (9, 0), (9, 0), (9, 0)] [(0, z0)] σ = js_J E d 247 91 [(2, 83), (0, x1), (0, x2), (0, x3), (9, 0), (9, 0), (9, 0)] [] σ :=
  j_tsw (t := 91) (off := 78) q_247_13 (by rw [h]; decide) (by rw [h]; decide) (by rw [h]; rfl) rfl
theorem s_247_13_22 {E : js_E} {d : Nat} {σ : js_S} {x1 x2 x3 z0 : Int} (h : js_w z0 = 22) : js_J E d 247 13 [(2, 83), (0, x1), (0, x2), (0, x3), (9, 0), (9, 0), (9, 0)] [(0, z0)] σ = js_J E d 247 205 [(2, 83), (0, x1), (0, x2), (0, x3), (9, 0), (9, 0), (9, 0)] [] σ :=
  j_tsw (t := 205) (off := 192) q_247_13 (by rw [h]; decide) (by rw [h]; decide) (by rw [h]; rfl) rfl
theorem s_247_13_23 {E : js_E} {d : Nat} {σ : js_S} {x1 x2 x3 z0 : Int} (h : js_w z0 = 23) : js_J E d 247 13 [(2, 83), (0, x1), (0, x2), (0, x3), (9, 0), (9, 0), (9, 0)] [(0, z0)] σ = js_J E d 247 316 [(2, 83), (0, x1), (0, x2), (0, x3), (9, 0), (9, 0), (9, 0)] [] σ :=
  j_tsw (t := 316) (off := 303) q_247_13 (by rw [h]; decide) (by rw [h]; decide) (by rw [h]; rfl) rfl
theorem s_247_13_24 {E : js_E} {d : Nat} {σ : js_S} {x1 x2 x3 z0 : Int} (h : js_w z0 = 24) : js_J E d 247 13 [(2, 83), (0, x1), (0, x2), (0, x3), (9, 0), (9, 0), (9, 0)] [(0, z0)] σ = js_J E d 247 338 [(2, 83), (0, x1), (0, x2), (0, x3), (9, 0), (9, 0), (9, 0)] [] σ :=
  j_tsw (t := 338) (off := 325) q_247_13 (by rw [h]; decide) (by rw [h]; decide) (by rw [h]; rfl) rfl
theorem s_247_13_25 {E : js_E} {d : Nat} {σ : js_S} {x1 x2 x3 z0 : Int} (h : js_w z0 = 25) : js_J E d 247 13 [(2, 83), (0, x1), (0, x2), (0, x3), (9, 0), (9, 0), (9, 0)] [(0, z0)] σ = js_J E d 247 359 [(2, 83), (0, x1), (0, x2), (0, x3), (9, 0), (9, 0), (9, 0)] [] σ :=
  j_tsw (t := 359) (off := 346) q_247_13 (by rw [h]; decide) (by rw [h]; decide) (by rw [h]; rfl) rfl
theorem s_247_13_26 {E : js_E} {d : Nat} {σ : js_S} {x1 x2 x3 z0 : Int} (h : js_w z0 = 26) : js_J E d 247 13 [(2, 83), (0, x1), (0, x2), (0, x3), (9, 0), (9, 0), (9, 0)] [(0, z0)] σ = js_J E d 247 345 [(2, 83), (0, x1), (0, x2), (0, x3), (9, 0), (9, 0), (9, 0)] [] σ :=
  j_tsw (t := 345) (off := 332) q_247_13 (by rw [h]; decide) (by rw [h]; decide) (by rw [h]; rfl) rfl
theorem s_247_13_27 {E : js_E} {d : Nat} {σ : js_S} {x1 x2 x3 z0 : Int} (h : js_w z0 = 27) : js_J E d 247 13 [(2, 83), (0, x1), (0, x2), (0, x3), (9, 0), (9, 0), (9, 0)] [(0, z0)] σ = js_J E d 247 352 [(2, 83), (0, x1), (0, x2), (0, x3), (9, 0), (9, 0), (9, 0)] [] σ :=
  j_tsw (t := 352) (off := 339) q_247_13 (by rw [h]; decide) (by rw [h]; decide) (by rw [h]; rfl) rfl
theorem s_247_13_d {E : js_E} {d : Nat} {σ : js_S} {x1 x2 x3 z0 : Int} (h : js_w z0 < 20 ∨ 27 < js_w z0) : js_J E d 247 13 [(2, 83), (0, x1), (0, x2), (0, x3), (9, 0), (9, 0), (9, 0)] [(0, z0)] σ = js_J E d 247 359 [(2, 83), (0, x1), (0, x2), (0, x3), (9, 0), (9, 0), (9, 0)] [] σ :=
  j_tswd (t := 359) q_247_13 h rfl
theorem b_247_60 {E : js_E} {d : Nat} {σ : js_S} {x1 x2 x3 : Int} : js_J E d 247 60 [(2, 83), (0, x1), (0, x2), (0, x3), (9, 0), (9, 0), (9, 0)] [] σ = (if 0 ≤ js_w x1 ∧ js_w x1 < 66000 then js_J E d 247 68 [(2, 83), (0, x1), (0, x2), (0, x3), (9, 0), (9, 0), (9, 0)] [(0, x2), (0, σ 103 (js_w x1)), (2, 83)] σ else none) :=
  (j_aload_n q_247_60 rfl).trans <| (j_aload_n q_247_61 rfl).trans <| (j_get (ji := 37) (v := (2, 103)) q_247_62 (js_Fo qy_247 qf_12_184) js_o83 rfl rfl rfl rfl).trans <| (j_iload_n q_247_65 rfl).trans <| (j_iaload q_247_66 js_o103).trans <| js_itp fun g0 => (j_iload_n q_247_67 rfl).trans <| rfl
theorem k_247_68 {E : js_E} {d : Nat} {σ σ2 : js_S} {x1 x2 x3 z1 z2 : Int} {v : Int} (hd : 1 ≤ d) (hz : js_J E (d - 1) 248 0 [(2, 83), (0, z1), (0, z2), (9, 0), (9, 0), (9, 0), (9, 0), (9, 0)] [] σ = js_r E (1, v) σ2) : js_J E d 247 68 [(2, 83), (0, x1), (0, x2), (0, x3), (9, 0), (9, 0), (9, 0)] [(0, z2), (0, z1), (2, 83)] σ = js_J E d 247 71 [(2, 83), (0, x1), (0, x2), (0, x3), (9, 0), (9, 0), (9, 0)] [(1, v)] σ2 :=
  j_call (m := 5) (js_caV q_247_68 (js_Mo qy_247 qm_12_511)) (js_agV (av := [(0, z1), (0, z2)]) (st := []) rfl rfl js_o83 rfl) rfl rfl (by rw [ql_248]; exact Nat.le_of_ble_eq_true rfl) (Nat.le_of_ble_eq_true rfl) hd hz
theorem b_247_71 {E : js_E} {d : Nat} {σ : js_S} {x1 x2 x3 z0 : Int} : js_J E d 247 71 [(2, 83), (0, x1), (0, x2), (0, x3), (9, 0), (9, 0), (9, 0)] [(1, z0)] σ = (if 0 ≤ js_w x3 ∧ js_w x3 < 400 then js_J E d 247 82 [(2, 83), (0, x1), (0, x2), (0, x3), (1, z0), (9, 0), (9, 0)] [(0, 0), (0, σ 90 (js_w x3)), (0, 2), (2, 83)] σ else none) :=
  (j_lstore (l2 := [(2, 83), (0, x1), (0, x2), (0, x3), (1, z0), (9, 0), (9, 0)]) q_247_71 rfl (Nat.le_of_ble_eq_true rfl)).trans <| (j_aload_n q_247_73 rfl).trans <| (j_iconst q_247_74).trans <| (j_aload_n q_247_75 rfl).trans <| (j_get (ji := 16) (v := (2, 90)) q_247_76 (js_Fo qy_247 qf_12_111) js_o83 rfl rfl rfl rfl).trans <| (j_iload_n q_247_79 rfl).trans <| (j_iaload q_247_80 js_o90).trans <| js_itp fun g0 => (j_iconst q_247_81).trans <| rfl
theorem k_247_82 {E : js_E} {d : Nat} {σ σ2 : js_S} {x1 x2 x3 x4 z1 z2 z3 : Int} {v : Int} (hd : 1 ≤ d) (hz : js_J E (d - 1) 251 0 [(2, 83), (0, z1), (0, z2), (0, z3)] [] σ = js_r E (0, v) σ2) : js_J E d 247 82 [(2, 83), (0, x1), (0, x2), (0, x3), (1, x4), (9, 0), (9, 0)] [(0, z3), (0, z2), (0, z1), (2, 83)] σ = js_J E d 247 85 [(2, 83), (0, x1), (0, x2), (0, x3), (1, x4), (9, 0), (9, 0)] [(0, v)] σ2 :=
  j_call (m := 0) (js_caV q_247_82 (js_Mo qy_247 qm_12_505)) (js_agV (av := [(0, z1), (0, z2), (0, z3)]) (st := []) rfl rfl js_o83 rfl) rfl rfl (by rw [ql_251]; exact Nat.le_of_ble_eq_true rfl) (Nat.le_of_ble_eq_true rfl) hd hz
theorem b_247_85 {E : js_E} {d : Nat} {σ : js_S} {x1 x2 x3 x4 z0 : Int} : js_J E d 247 85 [(2, 83), (0, x1), (0, x2), (0, x3), (1, x4), (9, 0), (9, 0)] [(0, z0)] σ = js_r E (1, x4 + 1) σ :=
  (j_pop0 q_247_85).trans <| (j_lload q_247_86 rfl).trans <| (j_lconst1 q_247_88).trans <| (j_ladd q_247_89).trans <| j_lreturn q_247_90 qr_247
theorem b_247_91 {E : js_E} {d : Nat} {σ : js_S} {x1 x2 x3 : Int} : js_J E d 247 91 [(2, 83), (0, x1), (0, x2), (0, x3), (9, 0), (9, 0), (9, 0)] [] σ = (if 0 ≤ js_w x1 ∧ js_w x1 < 66000 then js_J E d 247 99 [(2, 83), (0, x1), (0, x2), (0, x3), (9, 0), (9, 0), (9, 0)] [(0, x2), (0, σ 104 (js_w x1)), (2, 83)] σ else none) :=
  (j_aload_n q_247_91 rfl).trans <| (j_aload_n q_247_92 rfl).trans <| (j_get (ji := 38) (v := (2, 104)) q_247_93 (js_Fo qy_247 qf_12_187) js_o83 rfl rfl rfl rfl).trans <| (j_iload_n q_247_96 rfl).trans <| (j_iaload q_247_97 js_o104).trans <| js_itp fun g0 => (j_iload_n q_247_98 rfl).trans <| rfl
theorem k_247_99 {E : js_E} {d : Nat} {σ σ2 : js_S} {x1 x2 x3 z1 z2 : Int} {v : Int} (hd : 1 ≤ d) (hz : js_J E (d - 1) 248 0 [(2, 83), (0, z1), (0, z2), (9, 0), (9, 0), (9, 0), (9, 0), (9, 0)] [] σ = js_r E (1, v) σ2) : js_J E d 247 99 [(2, 83), (0, x1), (0, x2), (0, x3), (9, 0), (9, 0), (9, 0)] [(0, z2), (0, z1), (2, 83)] σ = js_J E d 247 102 [(2, 83), (0, x1), (0, x2), (0, x3), (9, 0), (9, 0), (9, 0)] [(1, v)] σ2 :=
  j_call (m := 5) (js_caV q_247_99 (js_Mo qy_247 qm_12_511)) (js_agV (av := [(0, z1), (0, z2)]) (st := []) rfl rfl js_o83 rfl) rfl rfl (by rw [ql_248]; exact Nat.le_of_ble_eq_true rfl) (Nat.le_of_ble_eq_true rfl) hd hz
theorem b_247_102 {E : js_E} {d : Nat} {σ : js_S} {x1 x2 x3 z0 : Int} : js_J E d 247 102 [(2, 83), (0, x1), (0, x2), (0, x3), (9, 0), (9, 0), (9, 0)] [(1, z0)] σ = js_J E d 247 108 [(2, 83), (0, x1), (0, x2), (0, x3), (1, z0), (9, 0), (9, 0)] [(0, x2), (2, 83), (0, 2), (2, 83)] σ :=
  (j_lstore (l2 := [(2, 83), (0, x1), (0, x2), (0, x3), (1, z0), (9, 0), (9, 0)]) q_247_102 rfl (Nat.le_of_ble_eq_true rfl)).trans <| (j_aload_n q_247_104 rfl).trans <| (j_iconst q_247_105).trans <| (j_aload_n q_247_106 rfl).trans <| (j_iload_n q_247_107 rfl).trans <| rfl
theorem k_247_108 {E : js_E} {d : Nat} {σ σ2 : js_S} {x1 x2 x3 x4 z1 z3 : Int} {v : Int} (hd : 1 ≤ d) (hz : js_J E (d - 1) 255 0 [(2, 83), (0, z3)] [] σ = js_r E (0, v) σ2) : js_J E d 247 108 [(2, 83), (0, x1), (0, x2), (0, x3), (1, x4), (9, 0), (9, 0)] [(0, z3), (2, 83), (0, z1), (2, 83)] σ = js_J E d 247 111 [(2, 83), (0, x1), (0, x2), (0, x3), (1, x4), (9, 0), (9, 0)] [(0, v), (0, z1), (2, 83)] σ2 :=
  j_call (m := 0) (js_caV q_247_108 (js_Mo qy_247 qm_12_493)) (js_agV (av := [(0, z3)]) (st := [(0, z1), (2, 83)]) rfl rfl js_o83 rfl) rfl rfl (by rw [ql_255]; exact Nat.le_of_ble_eq_true rfl) (Nat.le_of_ble_eq_true rfl) hd hz
theorem b_247_111 {E : js_E} {d : Nat} {σ : js_S} {x1 x2 x3 x4 z1 z2 : Int} : js_J E d 247 111 [(2, 83), (0, x1), (0, x2), (0, x3), (1, x4), (9, 0), (9, 0)] [(0, z2), (0, z1), (2, 83)] σ = js_J E d 247 112 [(2, 83), (0, x1), (0, x2), (0, x3), (1, x4), (9, 0), (9, 0)] [(0, 0), (0, z2), (0, z1), (2, 83)] σ :=
  (j_iconst q_247_111).trans <| rfl
theorem k_247_112 {E : js_E} {d : Nat} {σ σ2 : js_S} {x1 x2 x3 x4 z1 z2 z3 : Int} {v : Int} (hd : 1 ≤ d) (hz : js_J E (d - 1) 251 0 [(2, 83), (0, z1), (0, z2), (0, z3)] [] σ = js_r E (0, v) σ2) : js_J E d 247 112 [(2, 83), (0, x1), (0, x2), (0, x3), (1, x4), (9, 0), (9, 0)] [(0, z3), (0, z2), (0, z1), (2, 83)] σ = js_J E d 247 115 [(2, 83), (0, x1), (0, x2), (0, x3), (1, x4), (9, 0), (9, 0)] [(0, v)] σ2 :=
  j_call (m := 0) (js_caV q_247_112 (js_Mo qy_247 qm_12_505)) (js_agV (av := [(0, z1), (0, z2), (0, z3)]) (st := []) rfl rfl js_o83 rfl) rfl rfl (by rw [ql_251]; exact Nat.le_of_ble_eq_true rfl) (Nat.le_of_ble_eq_true rfl) hd hz
theorem b_247_115 {E : js_E} {d : Nat} {σ : js_S} {x1 x2 x3 x4 z0 : Int} : js_J E d 247 115 [(2, 83), (0, x1), (0, x2), (0, x3), (1, x4), (9, 0), (9, 0)] [(0, z0)] σ = (if 0 ≤ js_w x1 ∧ js_w x1 < 66000 then js_J E d 247 128 [(2, 83), (0, x1), (0, x2), (0, x3), (1, x4), (9, 0), (9, 0)] [(0, x2 + 1), (0, σ 103 (js_w x1)), (2, 83), (1, x4)] σ else none) :=
  (j_pop0 q_247_115).trans <| (j_lload q_247_116 rfl).trans <| (j_aload_n q_247_118 rfl).trans <| (j_aload_n q_247_119 rfl).trans <| (j_get (ji := 37) (v := (2, 103)) q_247_120 (js_Fo qy_247 qf_12_184) js_o83 rfl rfl rfl rfl).trans <| (j_iload_n q_247_123 rfl).trans <| (j_iaload q_247_124 js_o103).trans <| js_itp fun g0 => (j_iload_n q_247_125 rfl).trans <| (j_iconst q_247_126).trans <| (j_iadd q_247_127).trans <| rfl
theorem k_247_128 {E : js_E} {d : Nat} {σ σ2 : js_S} {x1 x2 x3 x4 z0 z2 z3 : Int} {v : Int} (hd : 1 ≤ d) (hz : js_J E (d - 1) 248 0 [(2, 83), (0, z2), (0, z3), (9, 0), (9, 0), (9, 0), (9, 0), (9, 0)] [] σ = js_r E (1, v) σ2) : js_J E d 247 128 [(2, 83), (0, x1), (0, x2), (0, x3), (1, x4), (9, 0), (9, 0)] [(0, z3), (0, z2), (2, 83), (1, z0)] σ = js_J E d 247 131 [(2, 83), (0, x1), (0, x2), (0, x3), (1, x4), (9, 0), (9, 0)] [(1, v), (1, z0)] σ2 :=
  j_call (m := 5) (js_caV q_247_128 (js_Mo qy_247 qm_12_511)) (js_agV (av := [(0, z2), (0, z3)]) (st := [(1, z0)]) rfl rfl js_o83 rfl) rfl rfl (by rw [ql_248]; exact Nat.le_of_ble_eq_true rfl) (Nat.le_of_ble_eq_true rfl) hd hz
theorem b_247_131 {E : js_E} {d : Nat} {σ : js_S} {x1 x2 x3 x4 z0 z1 : Int} : js_J E d 247 131 [(2, 83), (0, x1), (0, x2), (0, x3), (1, x4), (9, 0), (9, 0)] [(1, z1), (1, z0)] σ = js_J E d 247 140 [(2, 83), (0, x1), (0, x2), (0, x3), (1, z0 + z1), (9, 0), (9, 0)] [(0, x2 + 1), (2, 83), (0, 2), (2, 83)] σ :=
  (j_ladd q_247_131).trans <| (j_lstore (l2 := [(2, 83), (0, x1), (0, x2), (0, x3), (1, z0 + z1), (9, 0), (9, 0)]) q_247_132 rfl (Nat.le_of_ble_eq_true rfl)).trans <| (j_aload_n q_247_134 rfl).trans <| (j_iconst q_247_135).trans <| (j_aload_n q_247_136 rfl).trans <| (j_iload_n q_247_137 rfl).trans <| (j_iconst q_247_138).trans <| (j_iadd q_247_139).trans <| rfl
theorem k_247_140 {E : js_E} {d : Nat} {σ σ2 : js_S} {x1 x2 x3 x4 z1 z3 : Int} {v : Int} (hd : 1 ≤ d) (hz : js_J E (d - 1) 255 0 [(2, 83), (0, z3)] [] σ = js_r E (0, v) σ2) : js_J E d 247 140 [(2, 83), (0, x1), (0, x2), (0, x3), (1, x4), (9, 0), (9, 0)] [(0, z3), (2, 83), (0, z1), (2, 83)] σ = js_J E d 247 143 [(2, 83), (0, x1), (0, x2), (0, x3), (1, x4), (9, 0), (9, 0)] [(0, v), (0, z1), (2, 83)] σ2 :=
  j_call (m := 0) (js_caV q_247_140 (js_Mo qy_247 qm_12_493)) (js_agV (av := [(0, z3)]) (st := [(0, z1), (2, 83)]) rfl rfl js_o83 rfl) rfl rfl (by rw [ql_255]; exact Nat.le_of_ble_eq_true rfl) (Nat.le_of_ble_eq_true rfl) hd hz
theorem b_247_143 {E : js_E} {d : Nat} {σ : js_S} {x1 x2 x3 x4 z1 z2 : Int} : js_J E d 247 143 [(2, 83), (0, x1), (0, x2), (0, x3), (1, x4), (9, 0), (9, 0)] [(0, z2), (0, z1), (2, 83)] σ = js_J E d 247 144 [(2, 83), (0, x1), (0, x2), (0, x3), (1, x4), (9, 0), (9, 0)] [(0, 0), (0, z2), (0, z1), (2, 83)] σ :=
  (j_iconst q_247_143).trans <| rfl
theorem k_247_144 {E : js_E} {d : Nat} {σ σ2 : js_S} {x1 x2 x3 x4 z1 z2 z3 : Int} {v : Int} (hd : 1 ≤ d) (hz : js_J E (d - 1) 251 0 [(2, 83), (0, z1), (0, z2), (0, z3)] [] σ = js_r E (0, v) σ2) : js_J E d 247 144 [(2, 83), (0, x1), (0, x2), (0, x3), (1, x4), (9, 0), (9, 0)] [(0, z3), (0, z2), (0, z1), (2, 83)] σ = js_J E d 247 147 [(2, 83), (0, x1), (0, x2), (0, x3), (1, x4), (9, 0), (9, 0)] [(0, v)] σ2 :=
  j_call (m := 0) (js_caV q_247_144 (js_Mo qy_247 qm_12_505)) (js_agV (av := [(0, z1), (0, z2), (0, z3)]) (st := []) rfl rfl js_o83 rfl) rfl rfl (by rw [ql_251]; exact Nat.le_of_ble_eq_true rfl) (Nat.le_of_ble_eq_true rfl) hd hz
theorem b_247_147 {E : js_E} {d : Nat} {σ : js_S} {x1 x2 x3 x4 z0 : Int} : js_J E d 247 147 [(2, 83), (0, x1), (0, x2), (0, x3), (1, x4), (9, 0), (9, 0)] [(0, z0)] σ = (if 0 ≤ js_w x1 ∧ js_w x1 < 66000 then js_J E d 247 156 [(2, 83), (0, x1), (0, x2), (0, x3), (1, x4), (9, 0), (9, 0)] [(0, σ 104 (js_w x1)), (0, x2), (2, 83)] σ else none) :=
  (j_pop0 q_247_147).trans <| (j_aload_n q_247_148 rfl).trans <| (j_iload_n q_247_149 rfl).trans <| (j_aload_n q_247_150 rfl).trans <| (j_get (ji := 38) (v := (2, 104)) q_247_151 (js_Fo qy_247 qf_12_187) js_o83 rfl rfl rfl rfl).trans <| (j_iload_n q_247_154 rfl).trans <| (j_iaload q_247_155 js_o104).trans <| js_itp fun g0 => rfl
theorem k_247_156 {E : js_E} {d : Nat} {σ σ2 : js_S} {x1 x2 x3 x4 z1 z2 : Int} (hd : 1 ≤ d) (hz : js_J E (d - 1) 256 0 [(2, 83), (0, z1), (0, z2)] [] σ = js_r0 E σ2) : js_J E d 247 156 [(2, 83), (0, x1), (0, x2), (0, x3), (1, x4), (9, 0), (9, 0)] [(0, z2), (0, z1), (2, 83)] σ = js_J E d 247 159 [(2, 83), (0, x1), (0, x2), (0, x3), (1, x4), (9, 0), (9, 0)] [] σ2 :=
  j_call0 (m := 0) (js_caV q_247_156 (js_Mo qy_247 qm_12_514)) (js_agV (av := [(0, z1), (0, z2)]) (st := []) rfl rfl js_o83 rfl) rfl rfl (by rw [ql_256]; exact Nat.le_of_ble_eq_true rfl) (Nat.le_of_ble_eq_true rfl) hd hz
theorem b_247_159 {E : js_E} {d : Nat} {σ : js_S} {x1 x2 x3 x4 : Int} : js_J E d 247 159 [(2, 83), (0, x1), (0, x2), (0, x3), (1, x4), (9, 0), (9, 0)] [] σ = js_J E d 247 163 [(2, 83), (0, x1), (0, x2), (0, x3), (1, x4), (9, 0), (9, 0)] [(0, 0), (0, 0), (0, 3), (2, 83)] σ :=
  (j_aload_n q_247_159 rfl).trans <| (j_iconst q_247_160).trans <| (j_iconst q_247_161).trans <| (j_iconst q_247_162).trans <| rfl
theorem k_247_163 {E : js_E} {d : Nat} {σ σ2 : js_S} {x1 x2 x3 x4 z1 z2 z3 : Int} {v : Int} (hd : 1 ≤ d) (hz : js_J E (d - 1) 251 0 [(2, 83), (0, z1), (0, z2), (0, z3)] [] σ = js_r E (0, v) σ2) : js_J E d 247 163 [(2, 83), (0, x1), (0, x2), (0, x3), (1, x4), (9, 0), (9, 0)] [(0, z3), (0, z2), (0, z1), (2, 83)] σ = js_J E d 247 166 [(2, 83), (0, x1), (0, x2), (0, x3), (1, x4), (9, 0), (9, 0)] [(0, v)] σ2 :=
  j_call (m := 0) (js_caV q_247_163 (js_Mo qy_247 qm_12_505)) (js_agV (av := [(0, z1), (0, z2), (0, z3)]) (st := []) rfl rfl js_o83 rfl) rfl rfl (by rw [ql_251]; exact Nat.le_of_ble_eq_true rfl) (Nat.le_of_ble_eq_true rfl) hd hz
theorem b_247_166 {E : js_E} {d : Nat} {σ : js_S} {x1 x2 x3 x4 z0 : Int} : js_J E d 247 166 [(2, 83), (0, x1), (0, x2), (0, x3), (1, x4), (9, 0), (9, 0)] [(0, z0)] σ = (if 0 ≤ js_w x1 ∧ js_w x1 < 66000 then js_J E d 247 177 [(2, 83), (0, x1), (0, x2), (0, x3), (1, x4), (9, 0), (9, 0)] [(0, σ 103 (js_w x1)), (0, x2 + 1), (2, 83)] σ else none) :=
  (j_pop0 q_247_166).trans <| (j_aload_n q_247_167 rfl).trans <| (j_iload_n q_247_168 rfl).trans <| (j_iconst q_247_169).trans <| (j_iadd q_247_170).trans <| (j_aload_n q_247_171 rfl).trans <| (j_get (ji := 37) (v := (2, 103)) q_247_172 (js_Fo qy_247 qf_12_184) js_o83 rfl rfl rfl rfl).trans <| (j_iload_n q_247_175 rfl).trans <| (j_iaload q_247_176 js_o103).trans <| js_itp fun g0 => rfl
theorem k_247_177 {E : js_E} {d : Nat} {σ σ2 : js_S} {x1 x2 x3 x4 z1 z2 : Int} (hd : 1 ≤ d) (hz : js_J E (d - 1) 256 0 [(2, 83), (0, z1), (0, z2)] [] σ = js_r0 E σ2) : js_J E d 247 177 [(2, 83), (0, x1), (0, x2), (0, x3), (1, x4), (9, 0), (9, 0)] [(0, z2), (0, z1), (2, 83)] σ = js_J E d 247 180 [(2, 83), (0, x1), (0, x2), (0, x3), (1, x4), (9, 0), (9, 0)] [] σ2 :=
  j_call0 (m := 0) (js_caV q_247_177 (js_Mo qy_247 qm_12_514)) (js_agV (av := [(0, z1), (0, z2)]) (st := []) rfl rfl js_o83 rfl) rfl rfl (by rw [ql_256]; exact Nat.le_of_ble_eq_true rfl) (Nat.le_of_ble_eq_true rfl) hd hz
theorem b_247_180 {E : js_E} {d : Nat} {σ : js_S} {x1 x2 x3 x4 : Int} : js_J E d 247 180 [(2, 83), (0, x1), (0, x2), (0, x3), (1, x4), (9, 0), (9, 0)] [] σ = (if 0 ≤ js_w x3 ∧ js_w x3 < 400 then js_J E d 247 194 [(2, 83), (0, x1), (0, x2), (0, x3), (1, x4), (9, 0), (9, 0)] [(0, σ 91 (js_w x3)), (0, σ 90 (js_w x3)), (0, 5), (2, 83)] σ else none) :=
  (j_aload_n q_247_180 rfl).trans <| (j_iconst q_247_181).trans <| (j_aload_n q_247_182 rfl).trans <| (j_get (ji := 16) (v := (2, 90)) q_247_183 (js_Fo qy_247 qf_12_111) js_o83 rfl rfl rfl rfl).trans <| (j_iload_n q_247_186 rfl).trans <| (j_iaload q_247_187 js_o90).trans <| js_itp fun g0 => (j_aload_n q_247_188 rfl).trans <| (j_get (ji := 17) (v := (2, 91)) q_247_189 (js_Fo qy_247 qf_12_114) js_o83 rfl rfl rfl rfl).trans <| (j_iload_n q_247_192 rfl).trans <| (j_iaload q_247_193 js_o91).trans <| (if_pos g0).trans <| rfl
theorem k_247_194 {E : js_E} {d : Nat} {σ σ2 : js_S} {x1 x2 x3 x4 z1 z2 z3 : Int} {v : Int} (hd : 1 ≤ d) (hz : js_J E (d - 1) 251 0 [(2, 83), (0, z1), (0, z2), (0, z3)] [] σ = js_r E (0, v) σ2) : js_J E d 247 194 [(2, 83), (0, x1), (0, x2), (0, x3), (1, x4), (9, 0), (9, 0)] [(0, z3), (0, z2), (0, z1), (2, 83)] σ = js_J E d 247 197 [(2, 83), (0, x1), (0, x2), (0, x3), (1, x4), (9, 0), (9, 0)] [(0, v)] σ2 :=
  j_call (m := 0) (js_caV q_247_194 (js_Mo qy_247 qm_12_505)) (js_agV (av := [(0, z1), (0, z2), (0, z3)]) (st := []) rfl rfl js_o83 rfl) rfl rfl (by rw [ql_251]; exact Nat.le_of_ble_eq_true rfl) (Nat.le_of_ble_eq_true rfl) hd hz
theorem b_247_197 {E : js_E} {d : Nat} {σ : js_S} {x1 x2 x3 x4 z0 : Int} : js_J E d 247 197 [(2, 83), (0, x1), (0, x2), (0, x3), (1, x4), (9, 0), (9, 0)] [(0, z0)] σ = js_r E (1, x4 + 6) σ :=
  (j_pop0 q_247_197).trans <| (j_lload q_247_198 rfl).trans <| (j_ldc2 (v := (1, 6)) q_247_200 (js_Co qy_247 qc_12_533)).trans <| (j_ladd q_247_203).trans <| j_lreturn q_247_204 qr_247
theorem b_247_205 {E : js_E} {d : Nat} {σ : js_S} {x1 x2 x3 : Int} : js_J E d 247 205 [(2, 83), (0, x1), (0, x2), (0, x3), (9, 0), (9, 0), (9, 0)] [] σ = (if 0 ≤ js_w x1 ∧ js_w x1 < 66000 then (if 0 ≤ js_w x3 ∧ js_w x3 < 400 then (if js_w (σ 87 (js_w x3)) = 0 then js_J E d 247 240 [(2, 83), (0, x1), (0, x2), (0, x3), (9, 0), (9, 0), (9, 0)] [(1, js_w (σ 103 (js_w x1))), (0, 0), (0, σ 103 (js_w x1)), (0, 0), (2, 83)] σ else js_J E d 247 240 [(2, 83), (0, x1), (0, x2), (0, x3), (9, 0), (9, 0), (9, 0)] [(1, js_w (σ 88 (js_w x3))), (0, 0), (0, σ 103 (js_w x1)), (0, 0), (2, 83)] σ) else none) else none) :=
  (j_aload_n q_247_205 rfl).trans <| (j_iconst q_247_206).trans <| (j_aload_n q_247_207 rfl).trans <| (j_get (ji := 37) (v := (2, 103)) q_247_208 (js_Fo qy_247 qf_12_184) js_o83 rfl rfl rfl rfl).trans <| (j_iload_n q_247_211 rfl).trans <| (j_iaload q_247_212 js_o103).trans <| js_itp fun g0 => (j_iconst q_247_213).trans <| (j_aload_n q_247_214 rfl).trans <| (j_get (ji := 13) (v := (2, 87)) q_247_215 (js_Fo qy_247 qf_12_102) js_o83 rfl rfl rfl rfl).trans <| (j_iload_n q_247_218 rfl).trans <| (j_iaload q_247_219 js_o87).trans <| js_itp fun g1 => (j_ifne (t := 233) q_247_220 rfl).trans (js_ite ((j_aload_n q_247_223 rfl).trans <| (j_get (ji := 37) (v := (2, 103)) q_247_224 (js_Fo qy_247 qf_12_184) js_o83 rfl rfl rfl rfl).trans <| (j_iload_n q_247_227 rfl).trans <| (j_iaload q_247_228 js_o103).trans <| (if_pos g0).trans <| (j_i2l q_247_229).trans <| (j_goto (t := 240) q_247_230 rfl).trans <| rfl) ((j_aload_n q_247_233 rfl).trans <| (j_get (ji := 14) (v := (2, 88)) q_247_234 (js_Fo qy_247 qf_12_105) js_o83 rfl rfl rfl rfl).trans <| (j_iload_n q_247_237 rfl).trans <| (j_iaload q_247_238 js_o88).trans <| (if_pos g1).trans <| (j_i2l q_247_239).trans <| rfl))
theorem b_247_240 {E : js_E} {d : Nat} {σ : js_S} {x1 x2 x3 z1 z2 z3 z4 : Int} : js_J E d 247 240 [(2, 83), (0, x1), (0, x2), (0, x3), (9, 0), (9, 0), (9, 0)] [(1, z4), (0, z3), (0, z2), (0, z1), (2, 83)] σ = (if 0 ≤ js_w x3 ∧ js_w x3 < 400 then (if js_w (σ 87 (js_w x3)) = 0 then (if 0 ≤ js_w x1 ∧ js_w x1 < 66000 then js_J E d 247 266 [(2, 83), (0, x1), (0, x2), (0, x3), (9, 0), (9, 0), (9, 0)] [(1, js_w (σ 103 (js_w x1))), (1, z4), (0, z3), (0, z2), (0, z1), (2, 83)] σ else none) else js_J E d 247 266 [(2, 83), (0, x1), (0, x2), (0, x3), (9, 0), (9, 0), (9, 0)] [(1, js_w (σ 89 (js_w x3))), (1, z4), (0, z3), (0, z2), (0, z1), (2, 83)] σ) else none) :=
  (j_aload_n q_247_240 rfl).trans <| (j_get (ji := 13) (v := (2, 87)) q_247_241 (js_Fo qy_247 qf_12_102) js_o83 rfl rfl rfl rfl).trans <| (j_iload_n q_247_244 rfl).trans <| (j_iaload q_247_245 js_o87).trans <| js_itp fun g0 => (j_ifne (t := 259) q_247_246 rfl).trans (js_ite ((j_aload_n q_247_249 rfl).trans <| (j_get (ji := 37) (v := (2, 103)) q_247_250 (js_Fo qy_247 qf_12_184) js_o83 rfl rfl rfl rfl).trans <| (j_iload_n q_247_253 rfl).trans <| (j_iaload q_247_254 js_o103).trans <| js_itp fun g1 => (j_i2l q_247_255).trans <| (j_goto (t := 266) q_247_256 rfl).trans <| rfl) ((j_aload_n q_247_259 rfl).trans <| (j_get (ji := 15) (v := (2, 89)) q_247_260 (js_Fo qy_247 qf_12_108) js_o83 rfl rfl rfl rfl).trans <| (j_iload_n q_247_263 rfl).trans <| (j_iaload q_247_264 js_o89).trans <| (if_pos g0).trans <| (j_i2l q_247_265).trans <| rfl))
theorem k_247_266 {E : js_E} {d : Nat} {σ σ2 : js_S} {x1 x2 x3 z1 z2 z3 z4 z5 : Int} {v : Int} (hd : 1 ≤ d) (hz : js_J E (d - 1) 250 0 [(2, 83), (0, z1), (0, z2), (0, z3), (1, z4), (9, 0), (1, z5), (9, 0)] [] σ = js_r E (0, v) σ2) : js_J E d 247 266 [(2, 83), (0, x1), (0, x2), (0, x3), (9, 0), (9, 0), (9, 0)] [(1, z5), (1, z4), (0, z3), (0, z2), (0, z1), (2, 83)] σ = js_J E d 247 269 [(2, 83), (0, x1), (0, x2), (0, x3), (9, 0), (9, 0), (9, 0)] [(0, v)] σ2 :=
  j_call (m := 0) (js_caV q_247_266 (js_Mo qy_247 qm_12_483)) (js_agV (av := [(0, z1), (0, z2), (0, z3), (1, z4), (1, z5)]) (st := []) rfl rfl js_o83 rfl) rfl rfl (by rw [ql_250]; exact Nat.le_of_ble_eq_true rfl) (Nat.le_of_ble_eq_true rfl) hd hz
theorem b_247_269 {E : js_E} {d : Nat} {σ : js_S} {x1 x2 x3 z0 : Int} : js_J E d 247 269 [(2, 83), (0, x1), (0, x2), (0, x3), (9, 0), (9, 0), (9, 0)] [(0, z0)] σ = js_J E d 247 273 [(2, 83), (0, x1), (0, x2), (0, x3), (9, 0), (9, 0), (0, 0)] [] σ :=
  (j_pop0 q_247_269).trans <| (j_iconst q_247_270).trans <| (j_istore (l2 := [(2, 83), (0, x1), (0, x2), (0, x3), (9, 0), (9, 0), (0, 0)]) q_247_271 rfl (Nat.le_of_ble_eq_true rfl)).trans <| rfl
theorem b_247_273 {E : js_E} {d : Nat} {σ : js_S} {x1 x2 x3 x6 : Int} : js_J E d 247 273 [(2, 83), (0, x1), (0, x2), (0, x3), (9, 0), (9, 0), (0, x6)] [] σ = (if 0 ≤ js_w x3 ∧ js_w x3 < 400 then (if js_w x6 < js_w (σ 91 (js_w x3)) then js_J E d 247 296 [(2, 83), (0, x1), (0, x2), (0, x3), (9, 0), (9, 0), (0, x6)] [(0, 0), (0, (σ 90 (js_w x3)) + x6), (0, 2), (2, 83)] σ else js_r E (1, 1 + (js_w (σ 91 (js_w x3)))) σ) else none) :=
  (j_iload q_247_273 rfl).trans <| (j_aload_n q_247_275 rfl).trans <| (j_get (ji := 17) (v := (2, 91)) q_247_276 (js_Fo qy_247 qf_12_114) js_o83 rfl rfl rfl rfl).trans <| (j_iload_n q_247_279 rfl).trans <| (j_iaload q_247_280 js_o91).trans <| js_itp fun g0 => (j_cmpge (t := 306) q_247_281 rfl).trans (js_ite ((j_aload_n q_247_284 rfl).trans <| (j_iconst q_247_285).trans <| (j_aload_n q_247_286 rfl).trans <| (j_get (ji := 16) (v := (2, 90)) q_247_287 (js_Fo qy_247 qf_12_111) js_o83 rfl rfl rfl rfl).trans <| (j_iload_n q_247_290 rfl).trans <| (j_iaload q_247_291 js_o90).trans <| (if_pos g0).trans <| (j_iload q_247_292 rfl).trans <| (j_iadd q_247_294).trans <| (j_iconst q_247_295).trans <| rfl) ((j_lconst1 q_247_306).trans <| (j_aload_n q_247_307 rfl).trans <| (j_get (ji := 17) (v := (2, 91)) q_247_308 (js_Fo qy_247 qf_12_114) js_o83 rfl rfl rfl rfl).trans <| (j_iload_n q_247_311 rfl).trans <| (j_iaload q_247_312 js_o91).trans <| (if_pos g0).trans <| (j_i2l q_247_313).trans <| (j_ladd q_247_314).trans <| j_lreturn q_247_315 qr_247))
theorem k_247_296 {E : js_E} {d : Nat} {σ σ2 : js_S} {x1 x2 x3 x6 z1 z2 z3 : Int} {v : Int} (hd : 1 ≤ d) (hz : js_J E (d - 1) 251 0 [(2, 83), (0, z1), (0, z2), (0, z3)] [] σ = js_r E (0, v) σ2) : js_J E d 247 296 [(2, 83), (0, x1), (0, x2), (0, x3), (9, 0), (9, 0), (0, x6)] [(0, z3), (0, z2), (0, z1), (2, 83)] σ = js_J E d 247 299 [(2, 83), (0, x1), (0, x2), (0, x3), (9, 0), (9, 0), (0, x6)] [(0, v)] σ2 :=
  j_call (m := 0) (js_caV q_247_296 (js_Mo qy_247 qm_12_505)) (js_agV (av := [(0, z1), (0, z2), (0, z3)]) (st := []) rfl rfl js_o83 rfl) rfl rfl (by rw [ql_251]; exact Nat.le_of_ble_eq_true rfl) (Nat.le_of_ble_eq_true rfl) hd hz
theorem b_247_299 {E : js_E} {d : Nat} {σ : js_S} {x1 x2 x3 x6 z0 : Int} : js_J E d 247 299 [(2, 83), (0, x1), (0, x2), (0, x3), (9, 0), (9, 0), (0, x6)] [(0, z0)] σ = js_J E d 247 273 [(2, 83), (0, x1), (0, x2), (0, x3), (9, 0), (9, 0), (0, x6 + 1)] [] σ :=
  (j_pop0 q_247_299).trans <| (j_iinc (l2 := [(2, 83), (0, x1), (0, x2), (0, x3), (9, 0), (9, 0), (0, x6 + 1)]) q_247_300 rfl rfl).trans <| (j_goto (t := 273) q_247_303 rfl).trans <| rfl
theorem b_247_316 {E : js_E} {d : Nat} {σ : js_S} {x1 x2 x3 : Int} : js_J E d 247 316 [(2, 83), (0, x1), (0, x2), (0, x3), (9, 0), (9, 0), (9, 0)] [] σ = js_J E d 247 319 [(2, 83), (0, x1), (0, x2), (0, x3), (9, 0), (9, 0), (9, 0)] [(0, x2), (0, x3), (2, 83)] σ :=
  (j_aload_n q_247_316 rfl).trans <| (j_iload_n q_247_317 rfl).trans <| (j_iload_n q_247_318 rfl).trans <| rfl
theorem k_247_319 {E : js_E} {d : Nat} {σ σ2 : js_S} {x1 x2 x3 z1 z2 : Int} {v : Int} (hd : 1 ≤ d) (hz : js_J E (d - 1) 248 0 [(2, 83), (0, z1), (0, z2), (9, 0), (9, 0), (9, 0), (9, 0), (9, 0)] [] σ = js_r E (1, v) σ2) : js_J E d 247 319 [(2, 83), (0, x1), (0, x2), (0, x3), (9, 0), (9, 0), (9, 0)] [(0, z2), (0, z1), (2, 83)] σ = js_J E d 247 322 [(2, 83), (0, x1), (0, x2), (0, x3), (9, 0), (9, 0), (9, 0)] [(1, v)] σ2 :=
  j_call (m := 5) (js_caV q_247_319 (js_Mo qy_247 qm_12_511)) (js_agV (av := [(0, z1), (0, z2)]) (st := []) rfl rfl js_o83 rfl) rfl rfl (by rw [ql_248]; exact Nat.le_of_ble_eq_true rfl) (Nat.le_of_ble_eq_true rfl) hd hz
theorem b_247_322 {E : js_E} {d : Nat} {σ : js_S} {x1 x2 x3 z0 : Int} : js_J E d 247 322 [(2, 83), (0, x1), (0, x2), (0, x3), (9, 0), (9, 0), (9, 0)] [(1, z0)] σ = js_J E d 247 329 [(2, 83), (0, x1), (0, x2), (0, x3), (1, z0), (9, 0), (9, 0)] [(0, 0), (0, 0), (0, 30), (2, 83)] σ :=
  (j_lstore (l2 := [(2, 83), (0, x1), (0, x2), (0, x3), (1, z0), (9, 0), (9, 0)]) q_247_322 rfl (Nat.le_of_ble_eq_true rfl)).trans <| (j_aload_n q_247_324 rfl).trans <| (j_bi q_247_325 rfl).trans <| (j_iconst q_247_327).trans <| (j_iconst q_247_328).trans <| rfl
theorem k_247_329 {E : js_E} {d : Nat} {σ σ2 : js_S} {x1 x2 x3 x4 z1 z2 z3 : Int} {v : Int} (hd : 1 ≤ d) (hz : js_J E (d - 1) 251 0 [(2, 83), (0, z1), (0, z2), (0, z3)] [] σ = js_r E (0, v) σ2) : js_J E d 247 329 [(2, 83), (0, x1), (0, x2), (0, x3), (1, x4), (9, 0), (9, 0)] [(0, z3), (0, z2), (0, z1), (2, 83)] σ = js_J E d 247 332 [(2, 83), (0, x1), (0, x2), (0, x3), (1, x4), (9, 0), (9, 0)] [(0, v)] σ2 :=
  j_call (m := 0) (js_caV q_247_329 (js_Mo qy_247 qm_12_505)) (js_agV (av := [(0, z1), (0, z2), (0, z3)]) (st := []) rfl rfl js_o83 rfl) rfl rfl (by rw [ql_251]; exact Nat.le_of_ble_eq_true rfl) (Nat.le_of_ble_eq_true rfl) hd hz
theorem b_247_332 {E : js_E} {d : Nat} {σ : js_S} {x1 x2 x3 x4 z0 : Int} : js_J E d 247 332 [(2, 83), (0, x1), (0, x2), (0, x3), (1, x4), (9, 0), (9, 0)] [(0, z0)] σ = js_r E (1, x4 + 1) σ :=
  (j_pop0 q_247_332).trans <| (j_lload q_247_333 rfl).trans <| (j_lconst1 q_247_335).trans <| (j_ladd q_247_336).trans <| j_lreturn q_247_337 qr_247
theorem b_247_338 {E : js_E} {d : Nat} {σ : js_S} {x1 x2 x3 : Int} : js_J E d 247 338 [(2, 83), (0, x1), (0, x2), (0, x3), (9, 0), (9, 0), (9, 0)] [] σ = js_J E d 247 341 [(2, 83), (0, x1), (0, x2), (0, x3), (9, 0), (9, 0), (9, 0)] [(0, x2), (0, x1), (2, 83)] σ :=
  (j_aload_n q_247_338 rfl).trans <| (j_iload_n q_247_339 rfl).trans <| (j_iload_n q_247_340 rfl).trans <| rfl
theorem k_247_341 {E : js_E} {d : Nat} {σ σ2 : js_S} {x1 x2 x3 z1 z2 : Int} {v : Int} (hd : 1 ≤ d) (hz : js_J E (d - 1) 257 0 [(2, 83), (0, z1), (0, z2), (9, 0), (9, 0), (9, 0), (9, 0), (9, 0), (9, 0), (9, 0), (9, 0), (9, 0), (9, 0), (9, 0), (9, 0)] [] σ = js_r E (1, v) σ2) : js_J E d 247 341 [(2, 83), (0, x1), (0, x2), (0, x3), (9, 0), (9, 0), (9, 0)] [(0, z2), (0, z1), (2, 83)] σ = js_J E d 247 344 [(2, 83), (0, x1), (0, x2), (0, x3), (9, 0), (9, 0), (9, 0)] [(1, v)] σ2 :=
  j_call (m := 12) (js_caV q_247_341 (js_Mo qy_247 qm_12_535)) (js_agV (av := [(0, z1), (0, z2)]) (st := []) rfl rfl js_o83 rfl) rfl rfl (by rw [ql_257]; exact Nat.le_of_ble_eq_true rfl) (Nat.le_of_ble_eq_true rfl) hd hz
theorem b_247_344 {E : js_E} {d : Nat} {σ : js_S} {x1 x2 x3 z0 : Int} : js_J E d 247 344 [(2, 83), (0, x1), (0, x2), (0, x3), (9, 0), (9, 0), (9, 0)] [(1, z0)] σ = js_r E (1, z0) σ :=
  j_lreturn q_247_344 qr_247
theorem b_247_345 {E : js_E} {d : Nat} {σ : js_S} {x1 x2 x3 : Int} : js_J E d 247 345 [(2, 83), (0, x1), (0, x2), (0, x3), (9, 0), (9, 0), (9, 0)] [] σ = js_J E d 247 348 [(2, 83), (0, x1), (0, x2), (0, x3), (9, 0), (9, 0), (9, 0)] [(0, x2), (0, x1), (2, 83)] σ :=
  (j_aload_n q_247_345 rfl).trans <| (j_iload_n q_247_346 rfl).trans <| (j_iload_n q_247_347 rfl).trans <| rfl
theorem k_247_348 {E : js_E} {d : Nat} {σ σ2 : js_S} {x1 x2 x3 z1 z2 : Int} {v : Int} (hd : 1 ≤ d) (hz : js_J E (d - 1) 260 0 [(2, 83), (0, z1), (0, z2), (9, 0), (9, 0), (9, 0), (9, 0), (9, 0), (9, 0), (9, 0), (9, 0), (9, 0), (9, 0)] [] σ = js_r E (1, v) σ2) : js_J E d 247 348 [(2, 83), (0, x1), (0, x2), (0, x3), (9, 0), (9, 0), (9, 0)] [(0, z2), (0, z1), (2, 83)] σ = js_J E d 247 351 [(2, 83), (0, x1), (0, x2), (0, x3), (9, 0), (9, 0), (9, 0)] [(1, v)] σ2 :=
  j_call (m := 10) (js_caV q_247_348 (js_Mo qy_247 qm_12_538)) (js_agV (av := [(0, z1), (0, z2)]) (st := []) rfl rfl js_o83 rfl) rfl rfl (by rw [ql_260]; exact Nat.le_of_ble_eq_true rfl) (Nat.le_of_ble_eq_true rfl) hd hz
theorem b_247_351 {E : js_E} {d : Nat} {σ : js_S} {x1 x2 x3 z0 : Int} : js_J E d 247 351 [(2, 83), (0, x1), (0, x2), (0, x3), (9, 0), (9, 0), (9, 0)] [(1, z0)] σ = js_r E (1, z0) σ :=
  j_lreturn q_247_351 qr_247
theorem b_247_352 {E : js_E} {d : Nat} {σ : js_S} {x1 x2 x3 : Int} : js_J E d 247 352 [(2, 83), (0, x1), (0, x2), (0, x3), (9, 0), (9, 0), (9, 0)] [] σ = js_J E d 247 355 [(2, 83), (0, x1), (0, x2), (0, x3), (9, 0), (9, 0), (9, 0)] [(0, x2), (0, x1), (2, 83)] σ :=
  (j_aload_n q_247_352 rfl).trans <| (j_iload_n q_247_353 rfl).trans <| (j_iload_n q_247_354 rfl).trans <| rfl
theorem k_247_355 {E : js_E} {d : Nat} {σ σ2 : js_S} {x1 x2 x3 z1 z2 : Int} {v : Int} (hd : 1 ≤ d) (hz : js_J E (d - 1) 261 0 [(2, 83), (0, z1), (0, z2), (9, 0), (9, 0), (9, 0), (9, 0), (9, 0), (9, 0), (9, 0), (9, 0), (9, 0)] [] σ = js_r E (1, v) σ2) : js_J E d 247 355 [(2, 83), (0, x1), (0, x2), (0, x3), (9, 0), (9, 0), (9, 0)] [(0, z2), (0, z1), (2, 83)] σ = js_J E d 247 358 [(2, 83), (0, x1), (0, x2), (0, x3), (9, 0), (9, 0), (9, 0)] [(1, v)] σ2 :=
  j_call (m := 9) (js_caV q_247_355 (js_Mo qy_247 qm_12_541)) (js_agV (av := [(0, z1), (0, z2)]) (st := []) rfl rfl js_o83 rfl) rfl rfl (by rw [ql_261]; exact Nat.le_of_ble_eq_true rfl) (Nat.le_of_ble_eq_true rfl) hd hz
theorem b_247_358 {E : js_E} {d : Nat} {σ : js_S} {x1 x2 x3 z0 : Int} : js_J E d 247 358 [(2, 83), (0, x1), (0, x2), (0, x3), (9, 0), (9, 0), (9, 0)] [(1, z0)] σ = js_r E (1, z0) σ :=
  j_lreturn q_247_358 qr_247
theorem b_247_359 {E : js_E} {d : Nat} {σ : js_S} {x1 x2 x3 : Int} : js_J E d 247 359 [(2, 83), (0, x1), (0, x2), (0, x3), (9, 0), (9, 0), (9, 0)] [] σ = js_J E d 247 362 [(2, 83), (0, x1), (0, x2), (0, x3), (9, 0), (9, 0), (9, 0)] [(0, x2), (0, x3), (2, 83)] σ :=
  (j_aload_n q_247_359 rfl).trans <| (j_iload_n q_247_360 rfl).trans <| (j_iload_n q_247_361 rfl).trans <| rfl
theorem k_247_362 {E : js_E} {d : Nat} {σ σ2 : js_S} {x1 x2 x3 z1 z2 : Int} {v : Int} (hd : 1 ≤ d) (hz : js_J E (d - 1) 248 0 [(2, 83), (0, z1), (0, z2), (9, 0), (9, 0), (9, 0), (9, 0), (9, 0)] [] σ = js_r E (1, v) σ2) : js_J E d 247 362 [(2, 83), (0, x1), (0, x2), (0, x3), (9, 0), (9, 0), (9, 0)] [(0, z2), (0, z1), (2, 83)] σ = js_J E d 247 365 [(2, 83), (0, x1), (0, x2), (0, x3), (9, 0), (9, 0), (9, 0)] [(1, v)] σ2 :=
  j_call (m := 5) (js_caV q_247_362 (js_Mo qy_247 qm_12_511)) (js_agV (av := [(0, z1), (0, z2)]) (st := []) rfl rfl js_o83 rfl) rfl rfl (by rw [ql_248]; exact Nat.le_of_ble_eq_true rfl) (Nat.le_of_ble_eq_true rfl) hd hz
theorem b_247_365 {E : js_E} {d : Nat} {σ : js_S} {x1 x2 x3 z0 : Int} : js_J E d 247 365 [(2, 83), (0, x1), (0, x2), (0, x3), (9, 0), (9, 0), (9, 0)] [(1, z0)] σ = js_r E (1, z0) σ :=
  j_lreturn q_247_365 qr_247
-- 248: VitalTwinModel.gen (II)J
theorem b_248_0 {E : js_E} {d : Nat} {σ : js_S} {x1 x2 : Int} : js_J E d 248 0 [(2, 83), (0, x1), (0, x2), (9, 0), (9, 0), (9, 0), (9, 0), (9, 0)] [] σ = js_J E d 248 8 [(2, 83), (0, x1), (0, x2), (0, σ 83 52), (0, x1), (9, 0), (9, 0), (9, 0)] [] σ :=
  (j_aload_n q_248_0 rfl).trans <| (j_get (ji := 52) (v := (0, σ 83 52)) q_248_1 (js_Fo qy_248 qf_12_498) js_o83 rfl rfl rfl rfl).trans <| (j_istore_n (l2 := [(2, 83), (0, x1), (0, x2), (0, σ 83 52), (9, 0), (9, 0), (9, 0), (9, 0)]) q_248_4 rfl (Nat.le_of_ble_eq_true rfl)).trans <| (j_iload_n q_248_5 rfl).trans <| (j_istore (l2 := [(2, 83), (0, x1), (0, x2), (0, σ 83 52), (0, x1), (9, 0), (9, 0), (9, 0)]) q_248_6 rfl (Nat.le_of_ble_eq_true rfl)).trans <| rfl
theorem b_248_8 {E : js_E} {d : Nat} {σ : js_S} {x1 x2 x3 x4 : Int} : js_J E d 248 8 [(2, 83), (0, x1), (0, x2), (0, x3), (0, x4), (9, 0), (9, 0), (9, 0)] [] σ = (if 0 ≤ js_w x4 ∧ js_w x4 < 66000 then (if js_w (σ 100 (js_w x4)) = 4 then js_J E d 248 43 [(2, 83), (0, x1), (0, x2), (0, x3), (0, x4), (9, 0), (9, 0), (9, 0)] [] σ else (if js_w (σ 100 (js_w x4)) = 6 then js_J E d 248 43 [(2, 83), (0, x1), (0, x2), (0, x3), (0, x4), (9, 0), (9, 0), (9, 0)] [] σ else (if js_w (σ 100 (js_w x4)) = 7 then js_J E d 248 43 [(2, 83), (0, x1), (0, x2), (0, x3), (0, x4), (9, 0), (9, 0), (9, 0)] [] σ else js_J E d 248 80 [(2, 83), (0, x1), (0, x2), (0, x3), (0, x4), (9, 0), (9, 0), (9, 0)] [(0, x2), (0, x4), (2, 83)] σ))) else none) :=
  (j_aload_n q_248_8 rfl).trans <| (j_get (ji := 34) (v := (2, 100)) q_248_9 (js_Fo qy_248 qf_12_169) js_o83 rfl rfl rfl rfl).trans <| (j_iload q_248_12 rfl).trans <| (j_baload q_248_14 js_o100).trans <| js_itp fun g0 => (j_iconst q_248_15).trans <| (j_cmpeqB (t := 43) q_248_16 rfl ww_4).trans (js_ite (rfl) ((j_aload_n q_248_19 rfl).trans <| (j_get (ji := 34) (v := (2, 100)) q_248_20 (js_Fo qy_248 qf_12_169) js_o83 rfl rfl rfl rfl).trans <| (j_iload q_248_23 rfl).trans <| (j_baload q_248_25 js_o100).trans <| (if_pos g0).trans <| (j_bi q_248_26 rfl).trans <| (j_cmpeqB (t := 43) q_248_28 rfl ww_6).trans (js_ite (rfl) ((j_aload_n q_248_31 rfl).trans <| (j_get (ji := 34) (v := (2, 100)) q_248_32 (js_Fo qy_248 qf_12_169) js_o83 rfl rfl rfl rfl).trans <| (j_iload q_248_35 rfl).trans <| (j_baload q_248_37 js_o100).trans <| (if_pos g0).trans <| (j_bi q_248_38 rfl).trans <| (j_cmpneB (t := 76) q_248_40 rfl ww_7).trans (js_ite (rfl) ((j_aload_n q_248_76 rfl).trans <| (j_iload q_248_77 rfl).trans <| (j_iload_n q_248_79 rfl).trans <| rfl))))))
theorem b_248_43 {E : js_E} {d : Nat} {σ : js_S} {x1 x2 x3 x4 : Int} : js_J E d 248 43 [(2, 83), (0, x1), (0, x2), (0, x3), (0, x4), (9, 0), (9, 0), (9, 0)] [] σ = (if 0 ≤ js_w (σ 83 52) ∧ js_w (σ 83 52) < 66000 then (if 0 ≤ js_w x4 ∧ js_w x4 < 66000 then js_J E d 248 8 [(2, 83), (0, x1), (0, x2), (0, x3), (0, σ 102 (js_w x4)), (9, 0), (9, 0), (9, 0)] [] (js_up (js_up σ 110 (js_w (σ 83 52)) x4) 83 52 ((σ 83 52) + 1)) else none) else none) :=
  (j_aload_n q_248_43 rfl).trans <| (j_get (ji := 58) (v := (2, 110)) q_248_44 (js_Fo qy_248 qf_12_343) js_o83 rfl rfl rfl rfl).trans <| (j_aload_n q_248_47 rfl).trans <| (j_get (ji := 52) (v := (0, σ 83 52)) q_248_48 (js_Fo qy_248 qf_12_498) js_o83 rfl rfl rfl rfl).trans <| (j_iload q_248_51 rfl).trans <| (j_iastore q_248_53 js_o110).trans <| js_itp fun g0 => (j_aload_n q_248_54 rfl).trans <| (j_dupr q_248_55).trans <| (j_get (ji := 52) (v := (0, σ 83 52)) q_248_56 (js_Fo qy_248 qf_12_498) js_o83 rfl rfl rfl (congrArg (Prod.mk 0) ((js_up_na _ (by decide))))).trans <| (j_iconst q_248_59).trans <| (j_iadd q_248_60).trans <| (j_putI (ji := 52) q_248_61 (js_Fo qy_248 qf_12_498) rfl js_o83 rfl rfl rfl).trans <| (j_aload_n q_248_64 rfl).trans <| (j_get (ji := 36) (v := (2, 102)) q_248_65 (js_Fo qy_248 qf_12_181) js_o83 rfl rfl rfl rfl).trans <| (j_iload q_248_68 rfl).trans <| (j_ialoadv q_248_70 js_o102 ((js_up_na _ (by decide)).trans <| (js_up_na _ (by decide)))).trans <| js_itp fun g1 => (j_istore (l2 := [(2, 83), (0, x1), (0, x2), (0, x3), (0, σ 102 (js_w x4)), (9, 0), (9, 0), (9, 0)]) q_248_71 rfl (Nat.le_of_ble_eq_true rfl)).trans <| (j_goto (t := 8) q_248_73 rfl).trans <| rfl
theorem k_248_80 {E : js_E} {d : Nat} {σ σ2 : js_S} {x1 x2 x3 x4 z1 z2 : Int} {v : Int} (hd : 1 ≤ d) (hz : js_J E (d - 1) 249 0 [(2, 83), (0, z1), (0, z2), (9, 0), (9, 0), (9, 0), (9, 0), (9, 0), (9, 0), (9, 0), (9, 0), (9, 0), (9, 0), (9, 0), (9, 0), (9, 0), (9, 0), (9, 0)] [] σ = js_r E (1, v) σ2) : js_J E d 248 80 [(2, 83), (0, x1), (0, x2), (0, x3), (0, x4), (9, 0), (9, 0), (9, 0)] [(0, z2), (0, z1), (2, 83)] σ = js_J E d 248 83 [(2, 83), (0, x1), (0, x2), (0, x3), (0, x4), (9, 0), (9, 0), (9, 0)] [(1, v)] σ2 :=
  j_call (m := 15) (js_caV q_248_80 (js_Mo qy_248 qm_12_501)) (js_agV (av := [(0, z1), (0, z2)]) (st := []) rfl rfl js_o83 rfl) rfl rfl (by rw [ql_249]; exact Nat.le_of_ble_eq_true rfl) (Nat.le_of_ble_eq_true rfl) hd hz
theorem b_248_83 {E : js_E} {d : Nat} {σ : js_S} {x1 x2 x3 x4 z0 : Int} : js_J E d 248 83 [(2, 83), (0, x1), (0, x2), (0, x3), (0, x4), (9, 0), (9, 0), (9, 0)] [(1, z0)] σ = js_J E d 248 85 [(2, 83), (0, x1), (0, x2), (0, x3), (0, x4), (1, z0), (9, 0), (9, 0)] [] σ :=
  (j_lstore (l2 := [(2, 83), (0, x1), (0, x2), (0, x3), (0, x4), (1, z0), (9, 0), (9, 0)]) q_248_83 rfl (Nat.le_of_ble_eq_true rfl)).trans <| rfl
theorem b_248_85 {E : js_E} {d : Nat} {σ : js_S} {x1 x2 x3 x4 x5 : Int} {ux7 : js_v} : js_J E d 248 85 [(2, 83), (0, x1), (0, x2), (0, x3), (0, x4), (1, x5), (9, 0), ux7] [] σ = (if js_w x3 < js_w (σ 83 52) then (if 0 ≤ js_w ((σ 83 52) - 1) ∧ js_w ((σ 83 52) - 1) < 66000 then (if 0 ≤ js_w (σ 110 (js_w ((σ 83 52) - 1))) ∧ js_w (σ 110 (js_w ((σ 83 52) - 1))) < 66000 then (if js_w (σ 100 (js_w (σ 110 (js_w ((σ 83 52) - 1))))) = 4 then js_J E d 248 129 [(2, 83), (0, x1), (0, x2), (0, x3), (0, σ 110 (js_w ((σ 83 52) - 1))), (1, x5), (9, 0), ux7] [(0, x2), (2, 83), (0, 2), (2, 83)] (js_up σ 83 52 ((σ 83 52) - 1)) else (if js_w (σ 100 (js_w (σ 110 (js_w ((σ 83 52) - 1))))) = 6 then js_J E d 248 233 [(2, 83), (0, x1), (0, x2), (0, x3), (0, σ 110 (js_w ((σ 83 52) - 1))), (1, x5), (9, 0), ux7] [(0, 25), (2, 83)] (js_up σ 83 52 ((σ 83 52) - 1)) else js_J E d 248 233 [(2, 83), (0, x1), (0, x2), (0, x3), (0, σ 110 (js_w ((σ 83 52) - 1))), (1, x5), (9, 0), ux7] [(0, 26), (2, 83)] (js_up σ 83 52 ((σ 83 52) - 1)))) else none) else none) else js_r E (1, x5) σ) :=
  (j_aload_n q_248_85 rfl).trans <| (j_get (ji := 52) (v := (0, σ 83 52)) q_248_86 (js_Fo qy_248 qf_12_498) js_o83 rfl rfl rfl rfl).trans <| (j_iload_n q_248_89 rfl).trans <| (j_cmple (t := 275) q_248_90 rfl).trans (js_ite ((j_aload_n q_248_93 rfl).trans <| (j_dupr q_248_94).trans <| (j_get (ji := 52) (v := (0, σ 83 52)) q_248_95 (js_Fo qy_248 qf_12_498) js_o83 rfl rfl rfl rfl).trans <| (j_iconst q_248_98).trans <| (j_isub q_248_99).trans <| (j_putI (ji := 52) q_248_100 (js_Fo qy_248 qf_12_498) rfl js_o83 rfl rfl rfl).trans <| (j_aload_n q_248_103 rfl).trans <| (j_get (ji := 58) (v := (2, 110)) q_248_104 (js_Fo qy_248 qf_12_343) js_o83 rfl rfl rfl rfl).trans <| (j_aload_n q_248_107 rfl).trans <| (j_get (ji := 52) (v := (0, (σ 83 52) - 1)) q_248_108 (js_Fo qy_248 qf_12_498) js_o83 rfl rfl rfl (congrArg (Prod.mk 0) ((js_up_same _ _ _ _)))).trans <| (j_ialoadv q_248_111 js_o110 ((js_up_na _ (by decide)))).trans <| js_itp fun g0 => (j_istore (l2 := [(2, 83), (0, x1), (0, x2), (0, x3), (0, σ 110 (js_w ((σ 83 52) - 1))), (1, x5), (9, 0), ux7]) q_248_112 rfl (Nat.le_of_ble_eq_true rfl)).trans <| (j_aload_n q_248_114 rfl).trans <| (j_get (ji := 34) (v := (2, 100)) q_248_115 (js_Fo qy_248 qf_12_169) js_o83 rfl rfl rfl rfl).trans <| (j_iload q_248_118 rfl).trans <| (j_baloadv q_248_120 js_o100 ((js_up_na _ (by decide)))).trans <| js_itp fun g1 => (j_iconst q_248_121).trans <| (j_cmpneB (t := 213) q_248_122 rfl ww_4).trans (js_ite ((j_aload_n q_248_125 rfl).trans <| (j_iconst q_248_126).trans <| (j_aload_n q_248_127 rfl).trans <| (j_iload_n q_248_128 rfl).trans <| rfl) ((j_aload_n q_248_213 rfl).trans <| (j_aload_n q_248_214 rfl).trans <| (j_get (ji := 34) (v := (2, 100)) q_248_215 (js_Fo qy_248 qf_12_169) js_o83 rfl rfl rfl rfl).trans <| (j_iload q_248_218 rfl).trans <| (j_baloadv q_248_220 js_o100 ((js_up_na _ (by decide)))).trans <| (if_pos g1).trans <| (j_bi q_248_221 rfl).trans <| (j_cmpneB (t := 231) q_248_223 rfl ww_6).trans (js_ite ((j_bi q_248_226 rfl).trans <| (j_goto (t := 233) q_248_228 rfl).trans <| rfl) ((j_bi q_248_231 rfl).trans <| rfl))))) ((j_lload q_248_275 rfl).trans <| j_lreturn q_248_277 qr_248))
theorem k_248_129 {E : js_E} {d : Nat} {σ σ2 : js_S} {x1 x2 x3 x4 x5 z1 z3 : Int} {ux7 : js_v} {v : Int} (hd : 1 ≤ d) (hz : js_J E (d - 1) 255 0 [(2, 83), (0, z3)] [] σ = js_r E (0, v) σ2) : js_J E d 248 129 [(2, 83), (0, x1), (0, x2), (0, x3), (0, x4), (1, x5), (9, 0), ux7] [(0, z3), (2, 83), (0, z1), (2, 83)] σ = js_J E d 248 132 [(2, 83), (0, x1), (0, x2), (0, x3), (0, x4), (1, x5), (9, 0), ux7] [(0, v), (0, z1), (2, 83)] σ2 :=
  j_call (m := 0) (js_caV q_248_129 (js_Mo qy_248 qm_12_493)) (js_agV (av := [(0, z3)]) (st := [(0, z1), (2, 83)]) rfl rfl js_o83 rfl) rfl rfl (by rw [ql_255]; exact Nat.le_of_ble_eq_true rfl) (Nat.le_of_ble_eq_true rfl) hd hz
theorem b_248_132 {E : js_E} {d : Nat} {σ : js_S} {x1 x2 x3 x4 x5 z1 z2 : Int} {ux7 : js_v} : js_J E d 248 132 [(2, 83), (0, x1), (0, x2), (0, x3), (0, x4), (1, x5), (9, 0), ux7] [(0, z2), (0, z1), (2, 83)] σ = js_J E d 248 133 [(2, 83), (0, x1), (0, x2), (0, x3), (0, x4), (1, x5), (9, 0), ux7] [(0, 0), (0, z2), (0, z1), (2, 83)] σ :=
  (j_iconst q_248_132).trans <| rfl
theorem k_248_133 {E : js_E} {d : Nat} {σ σ2 : js_S} {x1 x2 x3 x4 x5 z1 z2 z3 : Int} {ux7 : js_v} {v : Int} (hd : 1 ≤ d) (hz : js_J E (d - 1) 251 0 [(2, 83), (0, z1), (0, z2), (0, z3)] [] σ = js_r E (0, v) σ2) : js_J E d 248 133 [(2, 83), (0, x1), (0, x2), (0, x3), (0, x4), (1, x5), (9, 0), ux7] [(0, z3), (0, z2), (0, z1), (2, 83)] σ = js_J E d 248 136 [(2, 83), (0, x1), (0, x2), (0, x3), (0, x4), (1, x5), (9, 0), ux7] [(0, v)] σ2 :=
  j_call (m := 0) (js_caV q_248_133 (js_Mo qy_248 qm_12_505)) (js_agV (av := [(0, z1), (0, z2), (0, z3)]) (st := []) rfl rfl js_o83 rfl) rfl rfl (by rw [ql_251]; exact Nat.le_of_ble_eq_true rfl) (Nat.le_of_ble_eq_true rfl) hd hz
theorem b_248_136 {E : js_E} {d : Nat} {σ : js_S} {x1 x2 x3 x4 x5 z0 : Int} {ux7 : js_v} : js_J E d 248 136 [(2, 83), (0, x1), (0, x2), (0, x3), (0, x4), (1, x5), (9, 0), ux7] [(0, z0)] σ = (if 0 ≤ js_w x4 ∧ js_w x4 < 66000 then js_J E d 248 153 [(2, 83), (0, x1), (0, x2), (0, x3), (0, x4), (1, x5), (9, 0), ux7] [(0, x2 + 1), (0, σ 103 (js_w x4)), (2, 83), (1, 4), (1, x5)] σ else none) :=
  (j_pop0 q_248_136).trans <| (j_lload q_248_137 rfl).trans <| (j_ldc2 (v := (1, 4)) q_248_139 (js_Co qy_248 qc_12_509)).trans <| (j_aload_n q_248_142 rfl).trans <| (j_aload_n q_248_143 rfl).trans <| (j_get (ji := 37) (v := (2, 103)) q_248_144 (js_Fo qy_248 qf_12_184) js_o83 rfl rfl rfl rfl).trans <| (j_iload q_248_147 rfl).trans <| (j_iaload q_248_149 js_o103).trans <| js_itp fun g0 => (j_iload_n q_248_150 rfl).trans <| (j_iconst q_248_151).trans <| (j_iadd q_248_152).trans <| rfl
theorem k_248_153 {E : js_E} {d : Nat} {σ σ2 : js_S} {x1 x2 x3 x4 x5 z0 z1 z3 z4 : Int} {ux7 : js_v} {v : Int} (hd : 1 ≤ d) (hz : js_J E (d - 1) 248 0 [(2, 83), (0, z3), (0, z4), (9, 0), (9, 0), (9, 0), (9, 0), (9, 0)] [] σ = js_r E (1, v) σ2) : js_J E d 248 153 [(2, 83), (0, x1), (0, x2), (0, x3), (0, x4), (1, x5), (9, 0), ux7] [(0, z4), (0, z3), (2, 83), (1, z1), (1, z0)] σ = js_J E d 248 156 [(2, 83), (0, x1), (0, x2), (0, x3), (0, x4), (1, x5), (9, 0), ux7] [(1, v), (1, z1), (1, z0)] σ2 :=
  j_call (m := 5) (js_caV q_248_153 (js_Mo qy_248 qm_12_511)) (js_agV (av := [(0, z3), (0, z4)]) (st := [(1, z1), (1, z0)]) rfl rfl js_o83 rfl) rfl rfl (by rw [ql_248]; exact Nat.le_of_ble_eq_true rfl) (Nat.le_of_ble_eq_true rfl) hd hz
theorem b_248_156 {E : js_E} {d : Nat} {σ : js_S} {x1 x2 x3 x4 x5 z0 z1 z2 : Int} {ux7 : js_v} : js_J E d 248 156 [(2, 83), (0, x1), (0, x2), (0, x3), (0, x4), (1, x5), (9, 0), ux7] [(1, z2), (1, z1), (1, z0)] σ = js_J E d 248 164 [(2, 83), (0, x1), (0, x2), (0, x3), (0, x4), (1, z0 + (z1 + z2)), (9, 0), ux7] [(0, 0), (0, 0), (0, 3), (2, 83)] σ :=
  (j_ladd q_248_156).trans <| (j_ladd q_248_157).trans <| (j_lstore (l2 := [(2, 83), (0, x1), (0, x2), (0, x3), (0, x4), (1, z0 + (z1 + z2)), (9, 0), ux7]) q_248_158 rfl (Nat.le_of_ble_eq_true rfl)).trans <| (j_aload_n q_248_160 rfl).trans <| (j_iconst q_248_161).trans <| (j_iconst q_248_162).trans <| (j_iconst q_248_163).trans <| rfl
theorem k_248_164 {E : js_E} {d : Nat} {σ σ2 : js_S} {x1 x2 x3 x4 x5 z1 z2 z3 : Int} {ux7 : js_v} {v : Int} (hd : 1 ≤ d) (hz : js_J E (d - 1) 251 0 [(2, 83), (0, z1), (0, z2), (0, z3)] [] σ = js_r E (0, v) σ2) : js_J E d 248 164 [(2, 83), (0, x1), (0, x2), (0, x3), (0, x4), (1, x5), (9, 0), ux7] [(0, z3), (0, z2), (0, z1), (2, 83)] σ = js_J E d 248 167 [(2, 83), (0, x1), (0, x2), (0, x3), (0, x4), (1, x5), (9, 0), ux7] [(0, v)] σ2 :=
  j_call (m := 0) (js_caV q_248_164 (js_Mo qy_248 qm_12_505)) (js_agV (av := [(0, z1), (0, z2), (0, z3)]) (st := []) rfl rfl js_o83 rfl) rfl rfl (by rw [ql_251]; exact Nat.le_of_ble_eq_true rfl) (Nat.le_of_ble_eq_true rfl) hd hz
theorem b_248_167 {E : js_E} {d : Nat} {σ : js_S} {x1 x2 x3 x4 x5 z0 : Int} {ux7 : js_v} : js_J E d 248 167 [(2, 83), (0, x1), (0, x2), (0, x3), (0, x4), (1, x5), (9, 0), ux7] [(0, z0)] σ = (if 0 ≤ js_w x4 ∧ js_w x4 < 66000 then js_J E d 248 177 [(2, 83), (0, x1), (0, x2), (0, x3), (0, x4), (1, x5), (9, 0), ux7] [(0, σ 102 (js_w x4)), (0, x2), (2, 83)] σ else none) :=
  (j_pop0 q_248_167).trans <| (j_aload_n q_248_168 rfl).trans <| (j_iload_n q_248_169 rfl).trans <| (j_aload_n q_248_170 rfl).trans <| (j_get (ji := 36) (v := (2, 102)) q_248_171 (js_Fo qy_248 qf_12_181) js_o83 rfl rfl rfl rfl).trans <| (j_iload q_248_174 rfl).trans <| (j_iaload q_248_176 js_o102).trans <| js_itp fun g0 => rfl
theorem k_248_177 {E : js_E} {d : Nat} {σ σ2 : js_S} {x1 x2 x3 x4 x5 z1 z2 : Int} {ux7 : js_v} (hd : 1 ≤ d) (hz : js_J E (d - 1) 256 0 [(2, 83), (0, z1), (0, z2)] [] σ = js_r0 E σ2) : js_J E d 248 177 [(2, 83), (0, x1), (0, x2), (0, x3), (0, x4), (1, x5), (9, 0), ux7] [(0, z2), (0, z1), (2, 83)] σ = js_J E d 248 180 [(2, 83), (0, x1), (0, x2), (0, x3), (0, x4), (1, x5), (9, 0), ux7] [] σ2 :=
  j_call0 (m := 0) (js_caV q_248_177 (js_Mo qy_248 qm_12_514)) (js_agV (av := [(0, z1), (0, z2)]) (st := []) rfl rfl js_o83 rfl) rfl rfl (by rw [ql_256]; exact Nat.le_of_ble_eq_true rfl) (Nat.le_of_ble_eq_true rfl) hd hz
theorem b_248_180 {E : js_E} {d : Nat} {σ : js_S} {x1 x2 x3 x4 x5 : Int} {ux7 : js_v} : js_J E d 248 180 [(2, 83), (0, x1), (0, x2), (0, x3), (0, x4), (1, x5), (9, 0), ux7] [] σ = (if 0 ≤ js_w x4 ∧ js_w x4 < 66000 then js_J E d 248 206 [(2, 83), (0, x1), (0, x2), (0, x3), (0, x4), (1, x5), (9, 0), ux7] [(1, js_w (σ 106 (js_w x4))), (1, js_w (σ 105 (js_w x4))), (0, 0), (0, 0), (0, σ 104 (js_w x4)), (2, 83)] σ else none) :=
  (j_aload_n q_248_180 rfl).trans <| (j_aload_n q_248_181 rfl).trans <| (j_get (ji := 38) (v := (2, 104)) q_248_182 (js_Fo qy_248 qf_12_187) js_o83 rfl rfl rfl rfl).trans <| (j_iload q_248_185 rfl).trans <| (j_iaload q_248_187 js_o104).trans <| js_itp fun g0 => (j_iconst q_248_188).trans <| (j_iconst q_248_189).trans <| (j_aload_n q_248_190 rfl).trans <| (j_get (ji := 39) (v := (2, 105)) q_248_191 (js_Fo qy_248 qf_12_175) js_o83 rfl rfl rfl rfl).trans <| (j_iload q_248_194 rfl).trans <| (j_iaload q_248_196 js_o105).trans <| (if_pos g0).trans <| (j_i2l q_248_197).trans <| (j_aload_n q_248_198 rfl).trans <| (j_get (ji := 40) (v := (2, 106)) q_248_199 (js_Fo qy_248 qf_12_178) js_o83 rfl rfl rfl rfl).trans <| (j_iload q_248_202 rfl).trans <| (j_iaload q_248_204 js_o106).trans <| (if_pos g0).trans <| (j_i2l q_248_205).trans <| rfl
theorem k_248_206 {E : js_E} {d : Nat} {σ σ2 : js_S} {x1 x2 x3 x4 x5 z1 z2 z3 z4 z5 : Int} {ux7 : js_v} {v : Int} (hd : 1 ≤ d) (hz : js_J E (d - 1) 250 0 [(2, 83), (0, z1), (0, z2), (0, z3), (1, z4), (9, 0), (1, z5), (9, 0)] [] σ = js_r E (0, v) σ2) : js_J E d 248 206 [(2, 83), (0, x1), (0, x2), (0, x3), (0, x4), (1, x5), (9, 0), ux7] [(1, z5), (1, z4), (0, z3), (0, z2), (0, z1), (2, 83)] σ = js_J E d 248 209 [(2, 83), (0, x1), (0, x2), (0, x3), (0, x4), (1, x5), (9, 0), ux7] [(0, v)] σ2 :=
  j_call (m := 0) (js_caV q_248_206 (js_Mo qy_248 qm_12_483)) (js_agV (av := [(0, z1), (0, z2), (0, z3), (1, z4), (1, z5)]) (st := []) rfl rfl js_o83 rfl) rfl rfl (by rw [ql_250]; exact Nat.le_of_ble_eq_true rfl) (Nat.le_of_ble_eq_true rfl) hd hz
theorem b_248_209 {E : js_E} {d : Nat} {σ : js_S} {x1 x2 x3 x4 x5 z0 : Int} {ux7 : js_v} : js_J E d 248 209 [(2, 83), (0, x1), (0, x2), (0, x3), (0, x4), (1, x5), (9, 0), ux7] [(0, z0)] σ = js_J E d 248 265 [(2, 83), (0, x1), (0, x2), (0, x3), (0, x4), (1, x5), (9, 0), ux7] [] σ :=
  (j_pop0 q_248_209).trans <| (j_goto (t := 265) q_248_210 rfl).trans <| rfl
theorem b_248_233 {E : js_E} {d : Nat} {σ : js_S} {x1 x2 x3 x4 x5 z1 : Int} {ux7 : js_v} : js_J E d 248 233 [(2, 83), (0, x1), (0, x2), (0, x3), (0, x4), (1, x5), (9, 0), ux7] [(0, z1), (2, 83)] σ = js_J E d 248 235 [(2, 83), (0, x1), (0, x2), (0, x3), (0, x4), (1, x5), (9, 0), ux7] [(0, 0), (0, 0), (0, z1), (2, 83)] σ :=
  (j_iconst q_248_233).trans <| (j_iconst q_248_234).trans <| rfl
theorem k_248_235 {E : js_E} {d : Nat} {σ σ2 : js_S} {x1 x2 x3 x4 x5 z1 z2 z3 : Int} {ux7 : js_v} {v : Int} (hd : 1 ≤ d) (hz : js_J E (d - 1) 251 0 [(2, 83), (0, z1), (0, z2), (0, z3)] [] σ = js_r E (0, v) σ2) : js_J E d 248 235 [(2, 83), (0, x1), (0, x2), (0, x3), (0, x4), (1, x5), (9, 0), ux7] [(0, z3), (0, z2), (0, z1), (2, 83)] σ = js_J E d 248 238 [(2, 83), (0, x1), (0, x2), (0, x3), (0, x4), (1, x5), (9, 0), ux7] [(0, v)] σ2 :=
  j_call (m := 0) (js_caV q_248_235 (js_Mo qy_248 qm_12_505)) (js_agV (av := [(0, z1), (0, z2), (0, z3)]) (st := []) rfl rfl js_o83 rfl) rfl rfl (by rw [ql_251]; exact Nat.le_of_ble_eq_true rfl) (Nat.le_of_ble_eq_true rfl) hd hz
theorem b_248_238 {E : js_E} {d : Nat} {σ : js_S} {x1 x2 x3 x4 x5 z0 : Int} {ux7 : js_v} : js_J E d 248 238 [(2, 83), (0, x1), (0, x2), (0, x3), (0, x4), (1, x5), (9, 0), ux7] [(0, z0)] σ = (if 0 ≤ js_w x4 ∧ js_w x4 < 66000 then js_J E d 248 252 [(2, 83), (0, x1), (0, x2), (0, x3), (0, x4), (1, x5), (9, 0), (0, z0)] [(0, x2), (0, σ 103 (js_w x4)), (2, 83), (1, 1), (1, x5)] σ else none) :=
  (j_istore (l2 := [(2, 83), (0, x1), (0, x2), (0, x3), (0, x4), (1, x5), (9, 0), (0, z0)]) q_248_238 rfl (Nat.le_of_ble_eq_true rfl)).trans <| (j_lload q_248_240 rfl).trans <| (j_lconst1 q_248_242).trans <| (j_aload_n q_248_243 rfl).trans <| (j_aload_n q_248_244 rfl).trans <| (j_get (ji := 37) (v := (2, 103)) q_248_245 (js_Fo qy_248 qf_12_184) js_o83 rfl rfl rfl rfl).trans <| (j_iload q_248_248 rfl).trans <| (j_iaload q_248_250 js_o103).trans <| js_itp fun g0 => (j_iload_n q_248_251 rfl).trans <| rfl
theorem k_248_252 {E : js_E} {d : Nat} {σ σ2 : js_S} {x1 x2 x3 x4 x5 x7 z0 z1 z3 z4 : Int} {v : Int} (hd : 1 ≤ d) (hz : js_J E (d - 1) 248 0 [(2, 83), (0, z3), (0, z4), (9, 0), (9, 0), (9, 0), (9, 0), (9, 0)] [] σ = js_r E (1, v) σ2) : js_J E d 248 252 [(2, 83), (0, x1), (0, x2), (0, x3), (0, x4), (1, x5), (9, 0), (0, x7)] [(0, z4), (0, z3), (2, 83), (1, z1), (1, z0)] σ = js_J E d 248 255 [(2, 83), (0, x1), (0, x2), (0, x3), (0, x4), (1, x5), (9, 0), (0, x7)] [(1, v), (1, z1), (1, z0)] σ2 :=
  j_call (m := 5) (js_caV q_248_252 (js_Mo qy_248 qm_12_511)) (js_agV (av := [(0, z3), (0, z4)]) (st := [(1, z1), (1, z0)]) rfl rfl js_o83 rfl) rfl rfl (by rw [ql_248]; exact Nat.le_of_ble_eq_true rfl) (Nat.le_of_ble_eq_true rfl) hd hz
theorem b_248_255 {E : js_E} {d : Nat} {σ : js_S} {x1 x2 x3 x4 x5 x7 z0 z1 z2 : Int} : js_J E d 248 255 [(2, 83), (0, x1), (0, x2), (0, x3), (0, x4), (1, x5), (9, 0), (0, x7)] [(1, z2), (1, z1), (1, z0)] σ = js_J E d 248 262 [(2, 83), (0, x1), (0, x2), (0, x3), (0, x4), (1, z0 + (z1 + z2)), (9, 0), (0, x7)] [(0, x7), (2, 83)] σ :=
  (j_ladd q_248_255).trans <| (j_ladd q_248_256).trans <| (j_lstore (l2 := [(2, 83), (0, x1), (0, x2), (0, x3), (0, x4), (1, z0 + (z1 + z2)), (9, 0), (0, x7)]) q_248_257 rfl (Nat.le_of_ble_eq_true rfl)).trans <| (j_aload_n q_248_259 rfl).trans <| (j_iload q_248_260 rfl).trans <| rfl
theorem k_248_262 {E : js_E} {d : Nat} {σ σ2 : js_S} {x1 x2 x3 x4 x5 x7 z1 : Int} (hd : 1 ≤ d) (hz : js_J E (d - 1) 252 0 [(2, 83), (0, z1)] [] σ = js_r0 E σ2) : js_J E d 248 262 [(2, 83), (0, x1), (0, x2), (0, x3), (0, x4), (1, x5), (9, 0), (0, x7)] [(0, z1), (2, 83)] σ = js_J E d 248 265 [(2, 83), (0, x1), (0, x2), (0, x3), (0, x4), (1, x5), (9, 0), (0, x7)] [] σ2 :=
  j_call0 (m := 0) (js_caV q_248_262 (js_Mo qy_248 qm_12_517)) (js_agV (av := [(0, z1)]) (st := []) rfl rfl js_o83 rfl) rfl rfl (by rw [ql_252]; exact Nat.le_of_ble_eq_true rfl) (Nat.le_of_ble_eq_true rfl) hd hz
theorem b_248_265 {E : js_E} {d : Nat} {σ : js_S} {x1 x2 x3 x4 x5 : Int} {ux7 : js_v} : js_J E d 248 265 [(2, 83), (0, x1), (0, x2), (0, x3), (0, x4), (1, x5), (9, 0), ux7] [] σ = js_J E d 248 267 [(2, 83), (0, x1), (0, x2), (0, x3), (0, x4), (1, x5), (9, 0), ux7] [(1, x5)] σ :=
  (j_lload q_248_265 rfl).trans <| rfl
theorem k_248_267 {E : js_E} {d : Nat} {σ σ2 : js_S} {x1 x2 x3 x4 x5 z0 : Int} {ux7 : js_v} {v : Int} (hd : 1 ≤ d) (hz : js_J E (d - 1) 253 0 [(1, z0), (9, 0)] [] σ = js_r E (1, v) σ2) : js_J E d 248 267 [(2, 83), (0, x1), (0, x2), (0, x3), (0, x4), (1, x5), (9, 0), ux7] [(1, z0)] σ = js_J E d 248 270 [(2, 83), (0, x1), (0, x2), (0, x3), (0, x4), (1, x5), (9, 0), ux7] [(1, v)] σ2 :=
  j_call (m := 0) (js_caS q_248_267 (js_Mo qy_248 qm_12_520)) (js_agS (av := [(1, z0)]) (st := []) rfl rfl) rfl rfl (by rw [ql_253]; exact Nat.le_of_ble_eq_true rfl) (Nat.le_of_ble_eq_true rfl) hd hz
theorem b_248_270 {E : js_E} {d : Nat} {σ : js_S} {x1 x2 x3 x4 x5 z0 : Int} {ux7 : js_v} : js_J E d 248 270 [(2, 83), (0, x1), (0, x2), (0, x3), (0, x4), (1, x5), (9, 0), ux7] [(1, z0)] σ = js_J E d 248 85 [(2, 83), (0, x1), (0, x2), (0, x3), (0, x4), (1, z0), (9, 0), ux7] [] σ :=
  (j_lstore (l2 := [(2, 83), (0, x1), (0, x2), (0, x3), (0, x4), (1, z0), (9, 0), ux7]) q_248_270 rfl (Nat.le_of_ble_eq_true rfl)).trans <| (j_goto (t := 85) q_248_272 rfl).trans <| rfl
-- 249: VitalTwinModel.atom (II)J
theorem b_249_0 {E : js_E} {d : Nat} {σ : js_S} {x1 x2 : Int} : js_J E d 249 0 [(2, 83), (0, x1), (0, x2), (9, 0), (9, 0), (9, 0), (9, 0), (9, 0), (9, 0), (9, 0), (9, 0), (9, 0), (9, 0), (9, 0), (9, 0), (9, 0), (9, 0), (9, 0)] [] σ = (if 0 ≤ js_w x1 ∧ js_w x1 < 66000 then js_J E d 249 13 [(2, 83), (0, x1), (0, x2), (0, σ 102 (js_w x1)), (9, 0), (9, 0), (9, 0), (9, 0), (9, 0), (9, 0), (9, 0), (9, 0), (9, 0), (9, 0), (9, 0), (9, 0), (9, 0), (9, 0)] [(0, σ 100 (js_w x1))] σ else none) :=
  (j_aload_n q_249_0 rfl).trans <| (j_get (ji := 36) (v := (2, 102)) q_249_1 (js_Fo qy_249 qf_12_181) js_o83 rfl rfl rfl rfl).trans <| (j_iload_n q_249_4 rfl).trans <| (j_iaload q_249_5 js_o102).trans <| js_itp fun g0 => (j_istore_n (l2 := [(2, 83), (0, x1), (0, x2), (0, σ 102 (js_w x1)), (9, 0), (9, 0), (9, 0), (9, 0), (9, 0), (9, 0), (9, 0), (9, 0), (9, 0), (9, 0), (9, 0), (9, 0), (9, 0), (9, 0)]) q_249_6 rfl (Nat.le_of_ble_eq_true rfl)).trans <| (j_aload_n q_249_7 rfl).trans <| (j_get (ji := 34) (v := (2, 100)) q_249_8 (js_Fo qy_249 qf_12_169) js_o83 rfl rfl rfl rfl).trans <| (j_iload_n q_249_11 rfl).trans <| (j_baload q_249_12 js_o100).trans <| (if_pos g0).trans <| rfl
theorem s_249_13_1 {E : js_E} {d : Nat} {σ : js_S} {x1 x2 x3 z0 : Int} (h : js_w z0 = 1) : js_J E d 249 13 [(2, 83), (0, x1), (0, x2), (0, x3), (9, 0), (9, 0), (9, 0), (9, 0), (9, 0), (9, 0), (9, 0), (9, 0), (9, 0), (9, 0), (9, 0), (9, 0), (9, 0), (9, 0)] [(0, z0)] σ = js_J E d 249 64 [(2, 83), (0, x1), (0, x2), (0, x3), (9, 0), (9, 0), (9, 0), (9, 0), (9, 0), (9, 0), (9, 0), (9, 0), (9, 0), (9, 0), (9, 0), (9, 0), (9, 0), (9, 0)] [] σ :=
  j_tsw (t := 64) (off := 51) q_249_13 (by rw [h]; decide) (by rw [h]; decide) (by rw [h]; rfl) rfl
theorem s_249_13_2 {E : js_E} {d : Nat} {σ : js_S} {x1 x2 x3 z0 : Int} (h : js_w z0 = 2) : js_J E d 249 13 [(2, 83), (0, x1), (0, x2), (0, x3), (9, 0), (9, 0), (9, 0), (9, 0), (9, 0), (9, 0), (9, 0), (9, 0), (9, 0), (9, 0), (9, 0), (9, 0), (9, 0), (9, 0)] [(0, z0)] σ = js_J E d 249 88 [(2, 83), (0, x1), (0, x2), (0, x3), (9, 0), (9, 0), (9, 0), (9, 0), (9, 0), (9, 0), (9, 0), (9, 0), (9, 0), (9, 0), (9, 0), (9, 0), (9, 0), (9, 0)] [] σ :=
  j_tsw (t := 88) (off := 75) q_249_13 (by rw [h]; decide) (by rw [h]; decide) (by rw [h]; rfl) rfl
theorem s_249_13_3 {E : js_E} {d : Nat} {σ : js_S} {x1 x2 x3 z0 : Int} (h : js_w z0 = 3) : js_J E d 249 13 [(2, 83), (0, x1), (0, x2), (0, x3), (9, 0), (9, 0), (9, 0), (9, 0), (9, 0), (9, 0), (9, 0), (9, 0), (9, 0), (9, 0), (9, 0), (9, 0), (9, 0), (9, 0)] [(0, z0)] σ = js_J E d 249 117 [(2, 83), (0, x1), (0, x2), (0, x3), (9, 0), (9, 0), (9, 0), (9, 0), (9, 0), (9, 0), (9, 0), (9, 0), (9, 0), (9, 0), (9, 0), (9, 0), (9, 0), (9, 0)] [] σ :=
  j_tsw (t := 117) (off := 104) q_249_13 (by rw [h]; decide) (by rw [h]; decide) (by rw [h]; rfl) rfl
theorem s_249_13_4 {E : js_E} {d : Nat} {σ : js_S} {x1 x2 x3 z0 : Int} (h : js_w z0 = 4) : js_J E d 249 13 [(2, 83), (0, x1), (0, x2), (0, x3), (9, 0), (9, 0), (9, 0), (9, 0), (9, 0), (9, 0), (9, 0), (9, 0), (9, 0), (9, 0), (9, 0), (9, 0), (9, 0), (9, 0)] [(0, z0)] σ = js_J E d 249 380 [(2, 83), (0, x1), (0, x2), (0, x3), (9, 0), (9, 0), (9, 0), (9, 0), (9, 0), (9, 0), (9, 0), (9, 0), (9, 0), (9, 0), (9, 0), (9, 0), (9, 0), (9, 0)] [] σ :=
  j_tsw (t := 380) (off := 367) q_249_13 (by rw [h]; decide) (by rw [h]; decide) (by rw [h]; rfl) rfl
theorem s_249_13_5 {E : js_E} {d : Nat} {σ : js_S} {x1 x2 x3 z0 : Int} (h : js_w z0 = 5) : js_J E d 249 13 [(2, 83), (0, x1), (0, x2), (0, x3), (9, 0), (9, 0), (9, 0), (9, 0), (9, 0), (9, 0), (9, 0), (9, 0), (9, 0), (9, 0), (9, 0), (9, 0), (9, 0), (9, 0)] [(0, z0)] σ = js_J E d 249 167 [(2, 83), (0, x1), (0, x2), (0, x3), (9, 0), (9, 0), (9, 0), (9, 0), (9, 0), (9, 0), (9, 0), (9, 0), (9, 0), (9, 0), (9, 0), (9, 0), (9, 0), (9, 0)] [] σ :=
  j_tsw (t := 167) (off := 154) q_249_13 (by rw [h]; decide) (by rw [h]; decide) (by rw [h]; rfl) rfl
theorem s_249_13_6 {E : js_E} {d : Nat} {σ : js_S} {x1 x2 x3 z0 : Int} (h : js_w z0 = 6) : js_J E d 249 13 [(2, 83), (0, x1), (0, x2), (0, x3), (9, 0), (9, 0), (9, 0), (9, 0), (9, 0), (9, 0), (9, 0), (9, 0), (9, 0), (9, 0), (9, 0), (9, 0), (9, 0), (9, 0)] [(0, z0)] σ = js_J E d 249 380 [(2, 83), (0, x1), (0, x2), (0, x3), (9, 0), (9, 0), (9, 0), (9, 0), (9, 0), (9, 0), (9, 0), (9, 0), (9, 0), (9, 0), (9, 0), (9, 0), (9, 0), (9, 0)] [] σ :=
  j_tsw (t := 380) (off := 367) q_249_13 (by rw [h]; decide) (by rw [h]; decide) (by rw [h]; rfl) rfl
theorem s_249_13_7 {E : js_E} {d : Nat} {σ : js_S} {x1 x2 x3 z0 : Int} (h : js_w z0 = 7) : js_J E d 249 13 [(2, 83), (0, x1), (0, x2), (0, x3), (9, 0), (9, 0), (9, 0), (9, 0), (9, 0), (9, 0), (9, 0), (9, 0), (9, 0), (9, 0), (9, 0), (9, 0), (9, 0), (9, 0)] [(0, z0)] σ = js_J E d 249 380 [(2, 83), (0, x1), (0, x2), (0, x3), (9, 0), (9, 0), (9, 0), (9, 0), (9, 0), (9, 0), (9, 0), (9, 0), (9, 0), (9, 0), (9, 0), (9, 0), (9, 0), (9, 0)] [] σ :=
  j_tsw (t := 380) (off := 367) q_249_13 (by rw [h]; decide) (by rw [h]; decide) (by rw [h]; rfl) rfl
theorem s_249_13_8 {E : js_E} {d : Nat} {σ : js_S} {x1 x2 x3 z0 : Int} (h : js_w z0 = 8) : js_J E d 249 13 [(2, 83), (0, x1), (0, x2), (0, x3), (9, 0), (9, 0), (9, 0), (9, 0), (9, 0), (9, 0), (9, 0), (9, 0), (9, 0), (9, 0), (9, 0), (9, 0), (9, 0), (9, 0)] [(0, z0)] σ = js_J E d 249 207 [(2, 83), (0, x1), (0, x2), (0, x3), (9, 0), (9, 0), (9, 0), (9, 0), (9, 0), (9, 0), (9, 0), (9, 0), (9, 0), (9, 0), (9, 0), (9, 0), (9, 0), (9, 0)] [] σ :=
  j_tsw (t := 207) (off := 194) q_249_13 (by rw [h]; decide) (by rw [h]; decide) (by rw [h]; rfl) rfl
theorem s_249_13_9 {E : js_E} {d : Nat} {σ : js_S} {x1 x2 x3 z0 : Int} (h : js_w z0 = 9) : js_J E d 249 13 [(2, 83), (0, x1), (0, x2), (0, x3), (9, 0), (9, 0), (9, 0), (9, 0), (9, 0), (9, 0), (9, 0), (9, 0), (9, 0), (9, 0), (9, 0), (9, 0), (9, 0), (9, 0)] [(0, z0)] σ = js_J E d 249 291 [(2, 83), (0, x1), (0, x2), (0, x3), (9, 0), (9, 0), (9, 0), (9, 0), (9, 0), (9, 0), (9, 0), (9, 0), (9, 0), (9, 0), (9, 0), (9, 0), (9, 0), (9, 0)] [] σ :=
  j_tsw (t := 291) (off := 278) q_249_13 (by rw [h]; decide) (by rw [h]; decide) (by rw [h]; rfl) rfl
theorem s_249_13_d {E : js_E} {d : Nat} {σ : js_S} {x1 x2 x3 z0 : Int} (h : js_w z0 < 1 ∨ 9 < js_w z0) : js_J E d 249 13 [(2, 83), (0, x1), (0, x2), (0, x3), (9, 0), (9, 0), (9, 0), (9, 0), (9, 0), (9, 0), (9, 0), (9, 0), (9, 0), (9, 0), (9, 0), (9, 0), (9, 0), (9, 0)] [(0, z0)] σ = js_J E d 249 380 [(2, 83), (0, x1), (0, x2), (0, x3), (9, 0), (9, 0), (9, 0), (9, 0), (9, 0), (9, 0), (9, 0), (9, 0), (9, 0), (9, 0), (9, 0), (9, 0), (9, 0), (9, 0)] [] σ :=
  j_tswd (t := 380) q_249_13 h rfl
theorem b_249_64 {E : js_E} {d : Nat} {σ : js_S} {x1 x2 x3 : Int} : js_J E d 249 64 [(2, 83), (0, x1), (0, x2), (0, x3), (9, 0), (9, 0), (9, 0), (9, 0), (9, 0), (9, 0), (9, 0), (9, 0), (9, 0), (9, 0), (9, 0), (9, 0), (9, 0), (9, 0)] [] σ = (if 0 ≤ js_w x1 ∧ js_w x1 < 66000 then js_J E d 249 82 [(2, 83), (0, x1), (0, x2), (0, x3), (9, 0), (9, 0), (9, 0), (9, 0), (9, 0), (9, 0), (9, 0), (9, 0), (9, 0), (9, 0), (9, 0), (9, 0), (9, 0), (9, 0)] [(1, js_w (σ 106 (js_w x1))), (1, js_w (σ 105 (js_w x1))), (0, 0), (0, x3), (0, 0), (2, 83)] σ else none) :=
  (j_aload_n q_249_64 rfl).trans <| (j_iconst q_249_65).trans <| (j_iload_n q_249_66 rfl).trans <| (j_iconst q_249_67).trans <| (j_aload_n q_249_68 rfl).trans <| (j_get (ji := 39) (v := (2, 105)) q_249_69 (js_Fo qy_249 qf_12_175) js_o83 rfl rfl rfl rfl).trans <| (j_iload_n q_249_72 rfl).trans <| (j_iaload q_249_73 js_o105).trans <| js_itp fun g0 => (j_i2l q_249_74).trans <| (j_aload_n q_249_75 rfl).trans <| (j_get (ji := 40) (v := (2, 106)) q_249_76 (js_Fo qy_249 qf_12_178) js_o83 rfl rfl rfl rfl).trans <| (j_iload_n q_249_79 rfl).trans <| (j_iaload q_249_80 js_o106).trans <| (if_pos g0).trans <| (j_i2l q_249_81).trans <| rfl
theorem k_249_82 {E : js_E} {d : Nat} {σ σ2 : js_S} {x1 x2 x3 z1 z2 z3 z4 z5 : Int} {v : Int} (hd : 1 ≤ d) (hz : js_J E (d - 1) 250 0 [(2, 83), (0, z1), (0, z2), (0, z3), (1, z4), (9, 0), (1, z5), (9, 0)] [] σ = js_r E (0, v) σ2) : js_J E d 249 82 [(2, 83), (0, x1), (0, x2), (0, x3), (9, 0), (9, 0), (9, 0), (9, 0), (9, 0), (9, 0), (9, 0), (9, 0), (9, 0), (9, 0), (9, 0), (9, 0), (9, 0), (9, 0)] [(1, z5), (1, z4), (0, z3), (0, z2), (0, z1), (2, 83)] σ = js_J E d 249 85 [(2, 83), (0, x1), (0, x2), (0, x3), (9, 0), (9, 0), (9, 0), (9, 0), (9, 0), (9, 0), (9, 0), (9, 0), (9, 0), (9, 0), (9, 0), (9, 0), (9, 0), (9, 0)] [(0, v)] σ2 :=
  j_call (m := 0) (js_caV q_249_82 (js_Mo qy_249 qm_12_483)) (js_agV (av := [(0, z1), (0, z2), (0, z3), (1, z4), (1, z5)]) (st := []) rfl rfl js_o83 rfl) rfl rfl (by rw [ql_250]; exact Nat.le_of_ble_eq_true rfl) (Nat.le_of_ble_eq_true rfl) hd hz
theorem b_249_85 {E : js_E} {d : Nat} {σ : js_S} {x1 x2 x3 z0 : Int} : js_J E d 249 85 [(2, 83), (0, x1), (0, x2), (0, x3), (9, 0), (9, 0), (9, 0), (9, 0), (9, 0), (9, 0), (9, 0), (9, 0), (9, 0), (9, 0), (9, 0), (9, 0), (9, 0), (9, 0)] [(0, z0)] σ = js_r E (1, 1) σ :=
  (j_pop0 q_249_85).trans <| (j_lconst1 q_249_86).trans <| j_lreturn q_249_87 qr_249
theorem b_249_88 {E : js_E} {d : Nat} {σ : js_S} {x1 x2 x3 : Int} : js_J E d 249 88 [(2, 83), (0, x1), (0, x2), (0, x3), (9, 0), (9, 0), (9, 0), (9, 0), (9, 0), (9, 0), (9, 0), (9, 0), (9, 0), (9, 0), (9, 0), (9, 0), (9, 0), (9, 0)] [] σ = (if 0 ≤ js_w x3 ∧ js_w x3 < 400 then (if 0 ≤ js_w x1 ∧ js_w x1 < 66000 then js_J E d 249 111 [(2, 83), (0, x1), (0, x2), (0, x3), (9, 0), (9, 0), (9, 0), (9, 0), (9, 0), (9, 0), (9, 0), (9, 0), (9, 0), (9, 0), (9, 0), (9, 0), (9, 0), (9, 0)] [(1, js_w (σ 106 (js_w x1))), (1, js_w (σ 105 (js_w x1))), (0, 0), (0, σ 90 (js_w x3)), (0, 1), (2, 83)] σ else none) else none) :=
  (j_aload_n q_249_88 rfl).trans <| (j_iconst q_249_89).trans <| (j_aload_n q_249_90 rfl).trans <| (j_get (ji := 16) (v := (2, 90)) q_249_91 (js_Fo qy_249 qf_12_111) js_o83 rfl rfl rfl rfl).trans <| (j_iload_n q_249_94 rfl).trans <| (j_iaload q_249_95 js_o90).trans <| js_itp fun g0 => (j_iconst q_249_96).trans <| (j_aload_n q_249_97 rfl).trans <| (j_get (ji := 39) (v := (2, 105)) q_249_98 (js_Fo qy_249 qf_12_175) js_o83 rfl rfl rfl rfl).trans <| (j_iload_n q_249_101 rfl).trans <| (j_iaload q_249_102 js_o105).trans <| js_itp fun g1 => (j_i2l q_249_103).trans <| (j_aload_n q_249_104 rfl).trans <| (j_get (ji := 40) (v := (2, 106)) q_249_105 (js_Fo qy_249 qf_12_178) js_o83 rfl rfl rfl rfl).trans <| (j_iload_n q_249_108 rfl).trans <| (j_iaload q_249_109 js_o106).trans <| (if_pos g1).trans <| (j_i2l q_249_110).trans <| rfl
theorem k_249_111 {E : js_E} {d : Nat} {σ σ2 : js_S} {x1 x2 x3 z1 z2 z3 z4 z5 : Int} {v : Int} (hd : 1 ≤ d) (hz : js_J E (d - 1) 250 0 [(2, 83), (0, z1), (0, z2), (0, z3), (1, z4), (9, 0), (1, z5), (9, 0)] [] σ = js_r E (0, v) σ2) : js_J E d 249 111 [(2, 83), (0, x1), (0, x2), (0, x3), (9, 0), (9, 0), (9, 0), (9, 0), (9, 0), (9, 0), (9, 0), (9, 0), (9, 0), (9, 0), (9, 0), (9, 0), (9, 0), (9, 0)] [(1, z5), (1, z4), (0, z3), (0, z2), (0, z1), (2, 83)] σ = js_J E d 249 114 [(2, 83), (0, x1), (0, x2), (0, x3), (9, 0), (9, 0), (9, 0), (9, 0), (9, 0), (9, 0), (9, 0), (9, 0), (9, 0), (9, 0), (9, 0), (9, 0), (9, 0), (9, 0)] [(0, v)] σ2 :=
  j_call (m := 0) (js_caV q_249_111 (js_Mo qy_249 qm_12_483)) (js_agV (av := [(0, z1), (0, z2), (0, z3), (1, z4), (1, z5)]) (st := []) rfl rfl js_o83 rfl) rfl rfl (by rw [ql_250]; exact Nat.le_of_ble_eq_true rfl) (Nat.le_of_ble_eq_true rfl) hd hz
theorem b_249_114 {E : js_E} {d : Nat} {σ : js_S} {x1 x2 x3 z0 : Int} : js_J E d 249 114 [(2, 83), (0, x1), (0, x2), (0, x3), (9, 0), (9, 0), (9, 0), (9, 0), (9, 0), (9, 0), (9, 0), (9, 0), (9, 0), (9, 0), (9, 0), (9, 0), (9, 0), (9, 0)] [(0, z0)] σ = js_r E (1, 1) σ :=
  (j_pop0 q_249_114).trans <| (j_lconst1 q_249_115).trans <| j_lreturn q_249_116 qr_249
theorem b_249_117 {E : js_E} {d : Nat} {σ : js_S} {x1 x2 x3 : Int} : js_J E d 249 117 [(2, 83), (0, x1), (0, x2), (0, x3), (9, 0), (9, 0), (9, 0), (9, 0), (9, 0), (9, 0), (9, 0), (9, 0), (9, 0), (9, 0), (9, 0), (9, 0), (9, 0), (9, 0)] [] σ = (if 0 ≤ js_w x1 ∧ js_w x1 < 66000 then js_J E d 249 125 [(2, 83), (0, x1), (0, x2), (0, x3), (9, 0), (9, 0), (9, 0), (9, 0), (9, 0), (9, 0), (9, 0), (9, 0), (9, 0), (9, 0), (9, 0), (9, 0), (9, 0), (9, 0)] [(0, x2), (0, σ 103 (js_w x1)), (2, 83)] σ else none) :=
  (j_aload_n q_249_117 rfl).trans <| (j_aload_n q_249_118 rfl).trans <| (j_get (ji := 37) (v := (2, 103)) q_249_119 (js_Fo qy_249 qf_12_184) js_o83 rfl rfl rfl rfl).trans <| (j_iload_n q_249_122 rfl).trans <| (j_iaload q_249_123 js_o103).trans <| js_itp fun g0 => (j_iload_n q_249_124 rfl).trans <| rfl
theorem k_249_125 {E : js_E} {d : Nat} {σ σ2 : js_S} {x1 x2 x3 z1 z2 : Int} {v : Int} (hd : 1 ≤ d) (hz : js_J E (d - 1) 248 0 [(2, 83), (0, z1), (0, z2), (9, 0), (9, 0), (9, 0), (9, 0), (9, 0)] [] σ = js_r E (1, v) σ2) : js_J E d 249 125 [(2, 83), (0, x1), (0, x2), (0, x3), (9, 0), (9, 0), (9, 0), (9, 0), (9, 0), (9, 0), (9, 0), (9, 0), (9, 0), (9, 0), (9, 0), (9, 0), (9, 0), (9, 0)] [(0, z2), (0, z1), (2, 83)] σ = js_J E d 249 128 [(2, 83), (0, x1), (0, x2), (0, x3), (9, 0), (9, 0), (9, 0), (9, 0), (9, 0), (9, 0), (9, 0), (9, 0), (9, 0), (9, 0), (9, 0), (9, 0), (9, 0), (9, 0)] [(1, v)] σ2 :=
  j_call (m := 5) (js_caV q_249_125 (js_Mo qy_249 qm_12_511)) (js_agV (av := [(0, z1), (0, z2)]) (st := []) rfl rfl js_o83 rfl) rfl rfl (by rw [ql_248]; exact Nat.le_of_ble_eq_true rfl) (Nat.le_of_ble_eq_true rfl) hd hz
theorem b_249_128 {E : js_E} {d : Nat} {σ : js_S} {x1 x2 x3 z0 : Int} : js_J E d 249 128 [(2, 83), (0, x1), (0, x2), (0, x3), (9, 0), (9, 0), (9, 0), (9, 0), (9, 0), (9, 0), (9, 0), (9, 0), (9, 0), (9, 0), (9, 0), (9, 0), (9, 0), (9, 0)] [(1, z0)] σ = (if 0 ≤ js_w x3 ∧ js_w x3 < 400 then (if 0 ≤ js_w x1 ∧ js_w x1 < 66000 then js_J E d 249 158 [(2, 83), (0, x1), (0, x2), (0, x3), (1, z0), (9, 0), (9, 0), (9, 0), (9, 0), (9, 0), (9, 0), (9, 0), (9, 0), (9, 0), (9, 0), (9, 0), (9, 0), (9, 0)] [(1, js_w (σ 106 (js_w x1))), (1, js_w (σ 105 (js_w x1))), (0, σ 91 (js_w x3)), (0, σ 90 (js_w x3)), (0, 4), (2, 83)] σ else none) else none) :=
  (j_lstore (l2 := [(2, 83), (0, x1), (0, x2), (0, x3), (1, z0), (9, 0), (9, 0), (9, 0), (9, 0), (9, 0), (9, 0), (9, 0), (9, 0), (9, 0), (9, 0), (9, 0), (9, 0), (9, 0)]) q_249_128 rfl (Nat.le_of_ble_eq_true rfl)).trans <| (j_aload_n q_249_130 rfl).trans <| (j_iconst q_249_131).trans <| (j_aload_n q_249_132 rfl).trans <| (j_get (ji := 16) (v := (2, 90)) q_249_133 (js_Fo qy_249 qf_12_111) js_o83 rfl rfl rfl rfl).trans <| (j_iload_n q_249_136 rfl).trans <| (j_iaload q_249_137 js_o90).trans <| js_itp fun g0 => (j_aload_n q_249_138 rfl).trans <| (j_get (ji := 17) (v := (2, 91)) q_249_139 (js_Fo qy_249 qf_12_114) js_o83 rfl rfl rfl rfl).trans <| (j_iload_n q_249_142 rfl).trans <| (j_iaload q_249_143 js_o91).trans <| (if_pos g0).trans <| (j_aload_n q_249_144 rfl).trans <| (j_get (ji := 39) (v := (2, 105)) q_249_145 (js_Fo qy_249 qf_12_175) js_o83 rfl rfl rfl rfl).trans <| (j_iload_n q_249_148 rfl).trans <| (j_iaload q_249_149 js_o105).trans <| js_itp fun g1 => (j_i2l q_249_150).trans <| (j_aload_n q_249_151 rfl).trans <| (j_get (ji := 40) (v := (2, 106)) q_249_152 (js_Fo qy_249 qf_12_178) js_o83 rfl rfl rfl rfl).trans <| (j_iload_n q_249_155 rfl).trans <| (j_iaload q_249_156 js_o106).trans <| (if_pos g1).trans <| (j_i2l q_249_157).trans <| rfl
theorem k_249_158 {E : js_E} {d : Nat} {σ σ2 : js_S} {x1 x2 x3 x4 z1 z2 z3 z4 z5 : Int} {v : Int} (hd : 1 ≤ d) (hz : js_J E (d - 1) 250 0 [(2, 83), (0, z1), (0, z2), (0, z3), (1, z4), (9, 0), (1, z5), (9, 0)] [] σ = js_r E (0, v) σ2) : js_J E d 249 158 [(2, 83), (0, x1), (0, x2), (0, x3), (1, x4), (9, 0), (9, 0), (9, 0), (9, 0), (9, 0), (9, 0), (9, 0), (9, 0), (9, 0), (9, 0), (9, 0), (9, 0), (9, 0)] [(1, z5), (1, z4), (0, z3), (0, z2), (0, z1), (2, 83)] σ = js_J E d 249 161 [(2, 83), (0, x1), (0, x2), (0, x3), (1, x4), (9, 0), (9, 0), (9, 0), (9, 0), (9, 0), (9, 0), (9, 0), (9, 0), (9, 0), (9, 0), (9, 0), (9, 0), (9, 0)] [(0, v)] σ2 :=
  j_call (m := 0) (js_caV q_249_158 (js_Mo qy_249 qm_12_483)) (js_agV (av := [(0, z1), (0, z2), (0, z3), (1, z4), (1, z5)]) (st := []) rfl rfl js_o83 rfl) rfl rfl (by rw [ql_250]; exact Nat.le_of_ble_eq_true rfl) (Nat.le_of_ble_eq_true rfl) hd hz
theorem b_249_161 {E : js_E} {d : Nat} {σ : js_S} {x1 x2 x3 x4 z0 : Int} : js_J E d 249 161 [(2, 83), (0, x1), (0, x2), (0, x3), (1, x4), (9, 0), (9, 0), (9, 0), (9, 0), (9, 0), (9, 0), (9, 0), (9, 0), (9, 0), (9, 0), (9, 0), (9, 0), (9, 0)] [(0, z0)] σ = js_r E (1, x4 + 1) σ :=
  (j_pop0 q_249_161).trans <| (j_lload q_249_162 rfl).trans <| (j_lconst1 q_249_164).trans <| (j_ladd q_249_165).trans <| j_lreturn q_249_166 qr_249
theorem b_249_167 {E : js_E} {d : Nat} {σ : js_S} {x1 x2 x3 : Int} : js_J E d 249 167 [(2, 83), (0, x1), (0, x2), (0, x3), (9, 0), (9, 0), (9, 0), (9, 0), (9, 0), (9, 0), (9, 0), (9, 0), (9, 0), (9, 0), (9, 0), (9, 0), (9, 0), (9, 0)] [] σ = js_J E d 249 170 [(2, 83), (0, x1), (0, x2), (0, x3), (9, 0), (9, 0), (9, 0), (9, 0), (9, 0), (9, 0), (9, 0), (9, 0), (9, 0), (9, 0), (9, 0), (9, 0), (9, 0), (9, 0)] [(0, x2), (0, x3), (2, 83)] σ :=
  (j_aload_n q_249_167 rfl).trans <| (j_iload_n q_249_168 rfl).trans <| (j_iload_n q_249_169 rfl).trans <| rfl
theorem k_249_170 {E : js_E} {d : Nat} {σ σ2 : js_S} {x1 x2 x3 z1 z2 : Int} {v : Int} (hd : 1 ≤ d) (hz : js_J E (d - 1) 248 0 [(2, 83), (0, z1), (0, z2), (9, 0), (9, 0), (9, 0), (9, 0), (9, 0)] [] σ = js_r E (1, v) σ2) : js_J E d 249 170 [(2, 83), (0, x1), (0, x2), (0, x3), (9, 0), (9, 0), (9, 0), (9, 0), (9, 0), (9, 0), (9, 0), (9, 0), (9, 0), (9, 0), (9, 0), (9, 0), (9, 0), (9, 0)] [(0, z2), (0, z1), (2, 83)] σ = js_J E d 249 173 [(2, 83), (0, x1), (0, x2), (0, x3), (9, 0), (9, 0), (9, 0), (9, 0), (9, 0), (9, 0), (9, 0), (9, 0), (9, 0), (9, 0), (9, 0), (9, 0), (9, 0), (9, 0)] [(1, v)] σ2 :=
  j_call (m := 5) (js_caV q_249_170 (js_Mo qy_249 qm_12_511)) (js_agV (av := [(0, z1), (0, z2)]) (st := []) rfl rfl js_o83 rfl) rfl rfl (by rw [ql_248]; exact Nat.le_of_ble_eq_true rfl) (Nat.le_of_ble_eq_true rfl) hd hz
theorem b_249_173 {E : js_E} {d : Nat} {σ : js_S} {x1 x2 x3 z0 : Int} : js_J E d 249 173 [(2, 83), (0, x1), (0, x2), (0, x3), (9, 0), (9, 0), (9, 0), (9, 0), (9, 0), (9, 0), (9, 0), (9, 0), (9, 0), (9, 0), (9, 0), (9, 0), (9, 0), (9, 0)] [(1, z0)] σ = (if 0 ≤ js_w x1 ∧ js_w x1 < 66000 then js_J E d 249 198 [(2, 83), (0, x1), (0, x2), (0, x3), (9, 0), (9, 0), (1, z0), (9, 0), (9, 0), (9, 0), (9, 0), (9, 0), (9, 0), (9, 0), (9, 0), (9, 0), (9, 0), (9, 0)] [(1, js_w (σ 106 (js_w x1))), (1, js_w (σ 105 (js_w x1))), (0, 0), (0, 0), (0, σ 104 (js_w x1)), (2, 83)] σ else none) :=
  (j_lstore (l2 := [(2, 83), (0, x1), (0, x2), (0, x3), (9, 0), (9, 0), (1, z0), (9, 0), (9, 0), (9, 0), (9, 0), (9, 0), (9, 0), (9, 0), (9, 0), (9, 0), (9, 0), (9, 0)]) q_249_173 rfl (Nat.le_of_ble_eq_true rfl)).trans <| (j_aload_n q_249_175 rfl).trans <| (j_aload_n q_249_176 rfl).trans <| (j_get (ji := 38) (v := (2, 104)) q_249_177 (js_Fo qy_249 qf_12_187) js_o83 rfl rfl rfl rfl).trans <| (j_iload_n q_249_180 rfl).trans <| (j_iaload q_249_181 js_o104).trans <| js_itp fun g0 => (j_iconst q_249_182).trans <| (j_iconst q_249_183).trans <| (j_aload_n q_249_184 rfl).trans <| (j_get (ji := 39) (v := (2, 105)) q_249_185 (js_Fo qy_249 qf_12_175) js_o83 rfl rfl rfl rfl).trans <| (j_iload_n q_249_188 rfl).trans <| (j_iaload q_249_189 js_o105).trans <| (if_pos g0).trans <| (j_i2l q_249_190).trans <| (j_aload_n q_249_191 rfl).trans <| (j_get (ji := 40) (v := (2, 106)) q_249_192 (js_Fo qy_249 qf_12_178) js_o83 rfl rfl rfl rfl).trans <| (j_iload_n q_249_195 rfl).trans <| (j_iaload q_249_196 js_o106).trans <| (if_pos g0).trans <| (j_i2l q_249_197).trans <| rfl
theorem k_249_198 {E : js_E} {d : Nat} {σ σ2 : js_S} {x1 x2 x3 x6 z1 z2 z3 z4 z5 : Int} {v : Int} (hd : 1 ≤ d) (hz : js_J E (d - 1) 250 0 [(2, 83), (0, z1), (0, z2), (0, z3), (1, z4), (9, 0), (1, z5), (9, 0)] [] σ = js_r E (0, v) σ2) : js_J E d 249 198 [(2, 83), (0, x1), (0, x2), (0, x3), (9, 0), (9, 0), (1, x6), (9, 0), (9, 0), (9, 0), (9, 0), (9, 0), (9, 0), (9, 0), (9, 0), (9, 0), (9, 0), (9, 0)] [(1, z5), (1, z4), (0, z3), (0, z2), (0, z1), (2, 83)] σ = js_J E d 249 201 [(2, 83), (0, x1), (0, x2), (0, x3), (9, 0), (9, 0), (1, x6), (9, 0), (9, 0), (9, 0), (9, 0), (9, 0), (9, 0), (9, 0), (9, 0), (9, 0), (9, 0), (9, 0)] [(0, v)] σ2 :=
  j_call (m := 0) (js_caV q_249_198 (js_Mo qy_249 qm_12_483)) (js_agV (av := [(0, z1), (0, z2), (0, z3), (1, z4), (1, z5)]) (st := []) rfl rfl js_o83 rfl) rfl rfl (by rw [ql_250]; exact Nat.le_of_ble_eq_true rfl) (Nat.le_of_ble_eq_true rfl) hd hz
theorem b_249_201 {E : js_E} {d : Nat} {σ : js_S} {x1 x2 x3 x6 z0 : Int} : js_J E d 249 201 [(2, 83), (0, x1), (0, x2), (0, x3), (9, 0), (9, 0), (1, x6), (9, 0), (9, 0), (9, 0), (9, 0), (9, 0), (9, 0), (9, 0), (9, 0), (9, 0), (9, 0), (9, 0)] [(0, z0)] σ = js_r E (1, x6 + 1) σ :=
  (j_pop0 q_249_201).trans <| (j_lload q_249_202 rfl).trans <| (j_lconst1 q_249_204).trans <| (j_ladd q_249_205).trans <| j_lreturn q_249_206 qr_249
theorem b_249_207 {E : js_E} {d : Nat} {σ : js_S} {x1 x2 x3 : Int} : js_J E d 249 207 [(2, 83), (0, x1), (0, x2), (0, x3), (9, 0), (9, 0), (9, 0), (9, 0), (9, 0), (9, 0), (9, 0), (9, 0), (9, 0), (9, 0), (9, 0), (9, 0), (9, 0), (9, 0)] [] σ = js_J E d 249 210 [(2, 83), (0, x1), (0, x2), (0, x3), (9, 0), (9, 0), (9, 0), (9, 0), (9, 0), (9, 0), (9, 0), (9, 0), (9, 0), (9, 0), (9, 0), (9, 0), (9, 0), (9, 0)] [(0, x2), (0, x3), (2, 83)] σ :=
  (j_aload_n q_249_207 rfl).trans <| (j_iload_n q_249_208 rfl).trans <| (j_iload_n q_249_209 rfl).trans <| rfl
theorem k_249_210 {E : js_E} {d : Nat} {σ σ2 : js_S} {x1 x2 x3 z1 z2 : Int} {v : Int} (hd : 1 ≤ d) (hz : js_J E (d - 1) 248 0 [(2, 83), (0, z1), (0, z2), (9, 0), (9, 0), (9, 0), (9, 0), (9, 0)] [] σ = js_r E (1, v) σ2) : js_J E d 249 210 [(2, 83), (0, x1), (0, x2), (0, x3), (9, 0), (9, 0), (9, 0), (9, 0), (9, 0), (9, 0), (9, 0), (9, 0), (9, 0), (9, 0), (9, 0), (9, 0), (9, 0), (9, 0)] [(0, z2), (0, z1), (2, 83)] σ = js_J E d 249 213 [(2, 83), (0, x1), (0, x2), (0, x3), (9, 0), (9, 0), (9, 0), (9, 0), (9, 0), (9, 0), (9, 0), (9, 0), (9, 0), (9, 0), (9, 0), (9, 0), (9, 0), (9, 0)] [(1, v)] σ2 :=
  j_call (m := 5) (js_caV q_249_210 (js_Mo qy_249 qm_12_511)) (js_agV (av := [(0, z1), (0, z2)]) (st := []) rfl rfl js_o83 rfl) rfl rfl (by rw [ql_248]; exact Nat.le_of_ble_eq_true rfl) (Nat.le_of_ble_eq_true rfl) hd hz
theorem b_249_213 {E : js_E} {d : Nat} {σ : js_S} {x1 x2 x3 z0 : Int} : js_J E d 249 213 [(2, 83), (0, x1), (0, x2), (0, x3), (9, 0), (9, 0), (9, 0), (9, 0), (9, 0), (9, 0), (9, 0), (9, 0), (9, 0), (9, 0), (9, 0), (9, 0), (9, 0), (9, 0)] [(1, z0)] σ = js_J E d 249 220 [(2, 83), (0, x1), (0, x2), (0, x3), (9, 0), (9, 0), (9, 0), (9, 0), (1, z0), (9, 0), (9, 0), (9, 0), (9, 0), (9, 0), (9, 0), (9, 0), (9, 0), (9, 0)] [(0, 0), (0, 0), (0, 25), (2, 83)] σ :=
  (j_lstore (l2 := [(2, 83), (0, x1), (0, x2), (0, x3), (9, 0), (9, 0), (9, 0), (9, 0), (1, z0), (9, 0), (9, 0), (9, 0), (9, 0), (9, 0), (9, 0), (9, 0), (9, 0), (9, 0)]) q_249_213 rfl (Nat.le_of_ble_eq_true rfl)).trans <| (j_aload_n q_249_215 rfl).trans <| (j_bi q_249_216 rfl).trans <| (j_iconst q_249_218).trans <| (j_iconst q_249_219).trans <| rfl
theorem k_249_220 {E : js_E} {d : Nat} {σ σ2 : js_S} {x1 x2 x3 x8 z1 z2 z3 : Int} {v : Int} (hd : 1 ≤ d) (hz : js_J E (d - 1) 251 0 [(2, 83), (0, z1), (0, z2), (0, z3)] [] σ = js_r E (0, v) σ2) : js_J E d 249 220 [(2, 83), (0, x1), (0, x2), (0, x3), (9, 0), (9, 0), (9, 0), (9, 0), (1, x8), (9, 0), (9, 0), (9, 0), (9, 0), (9, 0), (9, 0), (9, 0), (9, 0), (9, 0)] [(0, z3), (0, z2), (0, z1), (2, 83)] σ = js_J E d 249 223 [(2, 83), (0, x1), (0, x2), (0, x3), (9, 0), (9, 0), (9, 0), (9, 0), (1, x8), (9, 0), (9, 0), (9, 0), (9, 0), (9, 0), (9, 0), (9, 0), (9, 0), (9, 0)] [(0, v)] σ2 :=
  j_call (m := 0) (js_caV q_249_220 (js_Mo qy_249 qm_12_505)) (js_agV (av := [(0, z1), (0, z2), (0, z3)]) (st := []) rfl rfl js_o83 rfl) rfl rfl (by rw [ql_251]; exact Nat.le_of_ble_eq_true rfl) (Nat.le_of_ble_eq_true rfl) hd hz
theorem b_249_223 {E : js_E} {d : Nat} {σ : js_S} {x1 x2 x3 x8 z0 : Int} : js_J E d 249 223 [(2, 83), (0, x1), (0, x2), (0, x3), (9, 0), (9, 0), (9, 0), (9, 0), (1, x8), (9, 0), (9, 0), (9, 0), (9, 0), (9, 0), (9, 0), (9, 0), (9, 0), (9, 0)] [(0, z0)] σ = (if 0 ≤ js_w x1 ∧ js_w x1 < 66000 then js_J E d 249 233 [(2, 83), (0, x1), (0, x2), (0, x3), (9, 0), (9, 0), (9, 0), (9, 0), (1, x8), (9, 0), (0, z0), (9, 0), (9, 0), (9, 0), (9, 0), (9, 0), (9, 0), (9, 0)] [(0, x2), (0, σ 103 (js_w x1)), (2, 83)] σ else none) :=
  (j_istore (l2 := [(2, 83), (0, x1), (0, x2), (0, x3), (9, 0), (9, 0), (9, 0), (9, 0), (1, x8), (9, 0), (0, z0), (9, 0), (9, 0), (9, 0), (9, 0), (9, 0), (9, 0), (9, 0)]) q_249_223 rfl (Nat.le_of_ble_eq_true rfl)).trans <| (j_aload_n q_249_225 rfl).trans <| (j_aload_n q_249_226 rfl).trans <| (j_get (ji := 37) (v := (2, 103)) q_249_227 (js_Fo qy_249 qf_12_184) js_o83 rfl rfl rfl rfl).trans <| (j_iload_n q_249_230 rfl).trans <| (j_iaload q_249_231 js_o103).trans <| js_itp fun g0 => (j_iload_n q_249_232 rfl).trans <| rfl
theorem k_249_233 {E : js_E} {d : Nat} {σ σ2 : js_S} {x1 x2 x3 x8 x10 z1 z2 : Int} {v : Int} (hd : 1 ≤ d) (hz : js_J E (d - 1) 248 0 [(2, 83), (0, z1), (0, z2), (9, 0), (9, 0), (9, 0), (9, 0), (9, 0)] [] σ = js_r E (1, v) σ2) : js_J E d 249 233 [(2, 83), (0, x1), (0, x2), (0, x3), (9, 0), (9, 0), (9, 0), (9, 0), (1, x8), (9, 0), (0, x10), (9, 0), (9, 0), (9, 0), (9, 0), (9, 0), (9, 0), (9, 0)] [(0, z2), (0, z1), (2, 83)] σ = js_J E d 249 236 [(2, 83), (0, x1), (0, x2), (0, x3), (9, 0), (9, 0), (9, 0), (9, 0), (1, x8), (9, 0), (0, x10), (9, 0), (9, 0), (9, 0), (9, 0), (9, 0), (9, 0), (9, 0)] [(1, v)] σ2 :=
  j_call (m := 5) (js_caV q_249_233 (js_Mo qy_249 qm_12_511)) (js_agV (av := [(0, z1), (0, z2)]) (st := []) rfl rfl js_o83 rfl) rfl rfl (by rw [ql_248]; exact Nat.le_of_ble_eq_true rfl) (Nat.le_of_ble_eq_true rfl) hd hz
theorem b_249_236 {E : js_E} {d : Nat} {σ : js_S} {x1 x2 x3 x8 x10 z0 : Int} : js_J E d 249 236 [(2, 83), (0, x1), (0, x2), (0, x3), (9, 0), (9, 0), (9, 0), (9, 0), (1, x8), (9, 0), (0, x10), (9, 0), (9, 0), (9, 0), (9, 0), (9, 0), (9, 0), (9, 0)] [(1, z0)] σ = js_J E d 249 243 [(2, 83), (0, x1), (0, x2), (0, x3), (9, 0), (9, 0), (9, 0), (9, 0), (1, x8), (9, 0), (0, x10), (1, z0), (9, 0), (9, 0), (9, 0), (9, 0), (9, 0), (9, 0)] [(0, 0), (0, 0), (0, 24), (2, 83)] σ :=
  (j_lstore (l2 := [(2, 83), (0, x1), (0, x2), (0, x3), (9, 0), (9, 0), (9, 0), (9, 0), (1, x8), (9, 0), (0, x10), (1, z0), (9, 0), (9, 0), (9, 0), (9, 0), (9, 0), (9, 0)]) q_249_236 rfl (Nat.le_of_ble_eq_true rfl)).trans <| (j_aload_n q_249_238 rfl).trans <| (j_bi q_249_239 rfl).trans <| (j_iconst q_249_241).trans <| (j_iconst q_249_242).trans <| rfl
theorem k_249_243 {E : js_E} {d : Nat} {σ σ2 : js_S} {x1 x2 x3 x8 x10 x11 z1 z2 z3 : Int} {v : Int} (hd : 1 ≤ d) (hz : js_J E (d - 1) 251 0 [(2, 83), (0, z1), (0, z2), (0, z3)] [] σ = js_r E (0, v) σ2) : js_J E d 249 243 [(2, 83), (0, x1), (0, x2), (0, x3), (9, 0), (9, 0), (9, 0), (9, 0), (1, x8), (9, 0), (0, x10), (1, x11), (9, 0), (9, 0), (9, 0), (9, 0), (9, 0), (9, 0)] [(0, z3), (0, z2), (0, z1), (2, 83)] σ = js_J E d 249 246 [(2, 83), (0, x1), (0, x2), (0, x3), (9, 0), (9, 0), (9, 0), (9, 0), (1, x8), (9, 0), (0, x10), (1, x11), (9, 0), (9, 0), (9, 0), (9, 0), (9, 0), (9, 0)] [(0, v)] σ2 :=
  j_call (m := 0) (js_caV q_249_243 (js_Mo qy_249 qm_12_505)) (js_agV (av := [(0, z1), (0, z2), (0, z3)]) (st := []) rfl rfl js_o83 rfl) rfl rfl (by rw [ql_251]; exact Nat.le_of_ble_eq_true rfl) (Nat.le_of_ble_eq_true rfl) hd hz
theorem b_249_246 {E : js_E} {d : Nat} {σ : js_S} {x1 x2 x3 x8 x10 x11 z0 : Int} : js_J E d 249 246 [(2, 83), (0, x1), (0, x2), (0, x3), (9, 0), (9, 0), (9, 0), (9, 0), (1, x8), (9, 0), (0, x10), (1, x11), (9, 0), (9, 0), (9, 0), (9, 0), (9, 0), (9, 0)] [(0, z0)] σ = js_J E d 249 251 [(2, 83), (0, x1), (0, x2), (0, x3), (9, 0), (9, 0), (9, 0), (9, 0), (1, x8), (9, 0), (0, x10), (1, x11), (9, 0), (0, z0), (9, 0), (9, 0), (9, 0), (9, 0)] [(0, x10), (2, 83)] σ :=
  (j_istore (l2 := [(2, 83), (0, x1), (0, x2), (0, x3), (9, 0), (9, 0), (9, 0), (9, 0), (1, x8), (9, 0), (0, x10), (1, x11), (9, 0), (0, z0), (9, 0), (9, 0), (9, 0), (9, 0)]) q_249_246 rfl (Nat.le_of_ble_eq_true rfl)).trans <| (j_aload_n q_249_248 rfl).trans <| (j_iload q_249_249 rfl).trans <| rfl
theorem k_249_251 {E : js_E} {d : Nat} {σ σ2 : js_S} {x1 x2 x3 x8 x10 x11 x13 z1 : Int} (hd : 1 ≤ d) (hz : js_J E (d - 1) 252 0 [(2, 83), (0, z1)] [] σ = js_r0 E σ2) : js_J E d 249 251 [(2, 83), (0, x1), (0, x2), (0, x3), (9, 0), (9, 0), (9, 0), (9, 0), (1, x8), (9, 0), (0, x10), (1, x11), (9, 0), (0, x13), (9, 0), (9, 0), (9, 0), (9, 0)] [(0, z1), (2, 83)] σ = js_J E d 249 254 [(2, 83), (0, x1), (0, x2), (0, x3), (9, 0), (9, 0), (9, 0), (9, 0), (1, x8), (9, 0), (0, x10), (1, x11), (9, 0), (0, x13), (9, 0), (9, 0), (9, 0), (9, 0)] [] σ2 :=
  j_call0 (m := 0) (js_caV q_249_251 (js_Mo qy_249 qm_12_517)) (js_agV (av := [(0, z1)]) (st := []) rfl rfl js_o83 rfl) rfl rfl (by rw [ql_252]; exact Nat.le_of_ble_eq_true rfl) (Nat.le_of_ble_eq_true rfl) hd hz
theorem b_249_254 {E : js_E} {d : Nat} {σ : js_S} {x1 x2 x3 x8 x10 x11 x13 : Int} : js_J E d 249 254 [(2, 83), (0, x1), (0, x2), (0, x3), (9, 0), (9, 0), (9, 0), (9, 0), (1, x8), (9, 0), (0, x10), (1, x11), (9, 0), (0, x13), (9, 0), (9, 0), (9, 0), (9, 0)] [] σ = (if 0 ≤ js_w x1 ∧ js_w x1 < 66000 then js_J E d 249 262 [(2, 83), (0, x1), (0, x2), (0, x3), (9, 0), (9, 0), (9, 0), (9, 0), (1, x8), (9, 0), (0, x10), (1, x11), (9, 0), (0, x13), (9, 0), (9, 0), (9, 0), (9, 0)] [(0, x2), (0, σ 104 (js_w x1)), (2, 83)] σ else none) :=
  (j_aload_n q_249_254 rfl).trans <| (j_aload_n q_249_255 rfl).trans <| (j_get (ji := 38) (v := (2, 104)) q_249_256 (js_Fo qy_249 qf_12_187) js_o83 rfl rfl rfl rfl).trans <| (j_iload_n q_249_259 rfl).trans <| (j_iaload q_249_260 js_o104).trans <| js_itp fun g0 => (j_iload_n q_249_261 rfl).trans <| rfl
theorem k_249_262 {E : js_E} {d : Nat} {σ σ2 : js_S} {x1 x2 x3 x8 x10 x11 x13 z1 z2 : Int} {v : Int} (hd : 1 ≤ d) (hz : js_J E (d - 1) 248 0 [(2, 83), (0, z1), (0, z2), (9, 0), (9, 0), (9, 0), (9, 0), (9, 0)] [] σ = js_r E (1, v) σ2) : js_J E d 249 262 [(2, 83), (0, x1), (0, x2), (0, x3), (9, 0), (9, 0), (9, 0), (9, 0), (1, x8), (9, 0), (0, x10), (1, x11), (9, 0), (0, x13), (9, 0), (9, 0), (9, 0), (9, 0)] [(0, z2), (0, z1), (2, 83)] σ = js_J E d 249 265 [(2, 83), (0, x1), (0, x2), (0, x3), (9, 0), (9, 0), (9, 0), (9, 0), (1, x8), (9, 0), (0, x10), (1, x11), (9, 0), (0, x13), (9, 0), (9, 0), (9, 0), (9, 0)] [(1, v)] σ2 :=
  j_call (m := 5) (js_caV q_249_262 (js_Mo qy_249 qm_12_511)) (js_agV (av := [(0, z1), (0, z2)]) (st := []) rfl rfl js_o83 rfl) rfl rfl (by rw [ql_248]; exact Nat.le_of_ble_eq_true rfl) (Nat.le_of_ble_eq_true rfl) hd hz
theorem b_249_265 {E : js_E} {d : Nat} {σ : js_S} {x1 x2 x3 x8 x10 x11 x13 z0 : Int} : js_J E d 249 265 [(2, 83), (0, x1), (0, x2), (0, x3), (9, 0), (9, 0), (9, 0), (9, 0), (1, x8), (9, 0), (0, x10), (1, x11), (9, 0), (0, x13), (9, 0), (9, 0), (9, 0), (9, 0)] [(1, z0)] σ = js_J E d 249 270 [(2, 83), (0, x1), (0, x2), (0, x3), (9, 0), (9, 0), (9, 0), (9, 0), (1, x8), (9, 0), (0, x10), (1, x11), (9, 0), (0, x13), (1, z0), (9, 0), (9, 0), (9, 0)] [(0, x13), (2, 83)] σ :=
  (j_lstore (l2 := [(2, 83), (0, x1), (0, x2), (0, x3), (9, 0), (9, 0), (9, 0), (9, 0), (1, x8), (9, 0), (0, x10), (1, x11), (9, 0), (0, x13), (1, z0), (9, 0), (9, 0), (9, 0)]) q_249_265 rfl (Nat.le_of_ble_eq_true rfl)).trans <| (j_aload_n q_249_267 rfl).trans <| (j_iload q_249_268 rfl).trans <| rfl
theorem k_249_270 {E : js_E} {d : Nat} {σ σ2 : js_S} {x1 x2 x3 x8 x10 x11 x13 x14 z1 : Int} (hd : 1 ≤ d) (hz : js_J E (d - 1) 252 0 [(2, 83), (0, z1)] [] σ = js_r0 E σ2) : js_J E d 249 270 [(2, 83), (0, x1), (0, x2), (0, x3), (9, 0), (9, 0), (9, 0), (9, 0), (1, x8), (9, 0), (0, x10), (1, x11), (9, 0), (0, x13), (1, x14), (9, 0), (9, 0), (9, 0)] [(0, z1), (2, 83)] σ = js_J E d 249 273 [(2, 83), (0, x1), (0, x2), (0, x3), (9, 0), (9, 0), (9, 0), (9, 0), (1, x8), (9, 0), (0, x10), (1, x11), (9, 0), (0, x13), (1, x14), (9, 0), (9, 0), (9, 0)] [] σ2 :=
  j_call0 (m := 0) (js_caV q_249_270 (js_Mo qy_249 qm_12_517)) (js_agV (av := [(0, z1)]) (st := []) rfl rfl js_o83 rfl) rfl rfl (by rw [ql_252]; exact Nat.le_of_ble_eq_true rfl) (Nat.le_of_ble_eq_true rfl) hd hz
theorem b_249_273 {E : js_E} {d : Nat} {σ : js_S} {x1 x2 x3 x8 x10 x11 x13 x14 : Int} (hd : 4 ≤ d) : js_J E d 249 273 [(2, 83), (0, x1), (0, x2), (0, x3), (9, 0), (9, 0), (9, 0), (9, 0), (1, x8), (9, 0), (0, x10), (1, x11), (9, 0), (0, x13), (1, x14), (9, 0), (9, 0), (9, 0)] [] σ = js_J E d 249 287 [(2, 83), (0, x1), (0, x2), (0, x3), (9, 0), (9, 0), (9, 0), (9, 0), (1, x8), (9, 0), (0, x10), (1, x11), (9, 0), (0, x13), (1, x14), (9, 0), (9, 0), (9, 0)] [(1, (x8 + 1) + (if js_l x14 < js_l (x11 + 1) then (x11 + 1) else x14))] σ :=
  (j_lload q_249_273 rfl).trans <| (j_lconst1 q_249_275).trans <| (j_ladd q_249_276).trans <| (j_lload q_249_277 rfl).trans <| (j_lconst1 q_249_279).trans <| (j_ladd q_249_280).trans <| (j_lload q_249_281 rfl).trans <| (j_lmax (js_clS q_249_283 (js_Mo qy_249 qm_12_241)) (Nat.le_of_ble_eq_true rfl) hd).trans <| (j_ladd q_249_286).trans <| rfl
theorem k_249_287 {E : js_E} {d : Nat} {σ σ2 : js_S} {x1 x2 x3 x8 x10 x11 x13 x14 z0 : Int} {v : Int} (hd : 1 ≤ d) (hz : js_J E (d - 1) 253 0 [(1, z0), (9, 0)] [] σ = js_r E (1, v) σ2) : js_J E d 249 287 [(2, 83), (0, x1), (0, x2), (0, x3), (9, 0), (9, 0), (9, 0), (9, 0), (1, x8), (9, 0), (0, x10), (1, x11), (9, 0), (0, x13), (1, x14), (9, 0), (9, 0), (9, 0)] [(1, z0)] σ = js_J E d 249 290 [(2, 83), (0, x1), (0, x2), (0, x3), (9, 0), (9, 0), (9, 0), (9, 0), (1, x8), (9, 0), (0, x10), (1, x11), (9, 0), (0, x13), (1, x14), (9, 0), (9, 0), (9, 0)] [(1, v)] σ2 :=
  j_call (m := 0) (js_caS q_249_287 (js_Mo qy_249 qm_12_520)) (js_agS (av := [(1, z0)]) (st := []) rfl rfl) rfl rfl (by rw [ql_253]; exact Nat.le_of_ble_eq_true rfl) (Nat.le_of_ble_eq_true rfl) hd hz
theorem b_249_290 {E : js_E} {d : Nat} {σ : js_S} {x1 x2 x3 x8 x10 x11 x13 x14 z0 : Int} : js_J E d 249 290 [(2, 83), (0, x1), (0, x2), (0, x3), (9, 0), (9, 0), (9, 0), (9, 0), (1, x8), (9, 0), (0, x10), (1, x11), (9, 0), (0, x13), (1, x14), (9, 0), (9, 0), (9, 0)] [(1, z0)] σ = js_r E (1, z0) σ :=
  j_lreturn q_249_290 qr_249
theorem b_249_291 {E : js_E} {d : Nat} {σ : js_S} {x1 x2 x3 : Int} : js_J E d 249 291 [(2, 83), (0, x1), (0, x2), (0, x3), (9, 0), (9, 0), (9, 0), (9, 0), (9, 0), (9, 0), (9, 0), (9, 0), (9, 0), (9, 0), (9, 0), (9, 0), (9, 0), (9, 0)] [] σ = js_J E d 249 294 [(2, 83), (0, x1), (0, x2), (0, x3), (9, 0), (9, 0), (9, 0), (9, 0), (9, 0), (9, 0), (9, 0), (9, 0), (9, 0), (9, 0), (9, 0), (9, 0), (9, 0), (9, 0)] [(0, x2), (0, x3), (2, 83)] σ :=
  (j_aload_n q_249_291 rfl).trans <| (j_iload_n q_249_292 rfl).trans <| (j_iload_n q_249_293 rfl).trans <| rfl
theorem k_249_294 {E : js_E} {d : Nat} {σ σ2 : js_S} {x1 x2 x3 z1 z2 : Int} {v : Int} (hd : 1 ≤ d) (hz : js_J E (d - 1) 248 0 [(2, 83), (0, z1), (0, z2), (9, 0), (9, 0), (9, 0), (9, 0), (9, 0)] [] σ = js_r E (1, v) σ2) : js_J E d 249 294 [(2, 83), (0, x1), (0, x2), (0, x3), (9, 0), (9, 0), (9, 0), (9, 0), (9, 0), (9, 0), (9, 0), (9, 0), (9, 0), (9, 0), (9, 0), (9, 0), (9, 0), (9, 0)] [(0, z2), (0, z1), (2, 83)] σ = js_J E d 249 297 [(2, 83), (0, x1), (0, x2), (0, x3), (9, 0), (9, 0), (9, 0), (9, 0), (9, 0), (9, 0), (9, 0), (9, 0), (9, 0), (9, 0), (9, 0), (9, 0), (9, 0), (9, 0)] [(1, v)] σ2 :=
  j_call (m := 5) (js_caV q_249_294 (js_Mo qy_249 qm_12_511)) (js_agV (av := [(0, z1), (0, z2)]) (st := []) rfl rfl js_o83 rfl) rfl rfl (by rw [ql_248]; exact Nat.le_of_ble_eq_true rfl) (Nat.le_of_ble_eq_true rfl) hd hz
theorem b_249_297 {E : js_E} {d : Nat} {σ : js_S} {x1 x2 x3 z0 : Int} (hd : 4 ≤ d) : js_J E d 249 297 [(2, 83), (0, x1), (0, x2), (0, x3), (9, 0), (9, 0), (9, 0), (9, 0), (9, 0), (9, 0), (9, 0), (9, 0), (9, 0), (9, 0), (9, 0), (9, 0), (9, 0), (9, 0)] [(1, z0)] σ = (if 0 ≤ js_w x1 ∧ js_w x1 < 66000 then (if 0 ≤ js_w x3 ∧ js_w x3 < 66000 then js_J E d 249 341 [(2, 83), (0, x1), (0, x2), (0, x3), (9, 0), (9, 0), (9, 0), (9, 0), (9, 0), (9, 0), (9, 0), (9, 0), (9, 0), (9, 0), (9, 0), (9, 0), (1, z0), (9, 0)] [(1, js_w (if js_w (σ 103 (js_w x1)) < js_w (σ 106 (js_w x3)) then (σ 106 (js_w x3)) else (σ 103 (js_w x1)))), (1, js_w (if js_w (σ 103 (js_w x1)) < js_w (σ 105 (js_w x3)) then (σ 105 (js_w x3)) else (σ 103 (js_w x1)))), (0, 0), (0, σ 103 (js_w x1)), (0, 22), (2, 83)] σ else none) else none) :=
  (j_lstore (l2 := [(2, 83), (0, x1), (0, x2), (0, x3), (9, 0), (9, 0), (9, 0), (9, 0), (9, 0), (9, 0), (9, 0), (9, 0), (9, 0), (9, 0), (9, 0), (9, 0), (1, z0), (9, 0)]) q_249_297 rfl (Nat.le_of_ble_eq_true rfl)).trans <| (j_aload_n q_249_299 rfl).trans <| (j_bi q_249_300 rfl).trans <| (j_aload_n q_249_302 rfl).trans <| (j_get (ji := 37) (v := (2, 103)) q_249_303 (js_Fo qy_249 qf_12_184) js_o83 rfl rfl rfl rfl).trans <| (j_iload_n q_249_306 rfl).trans <| (j_iaload q_249_307 js_o103).trans <| js_itp fun g0 => (j_iconst q_249_308).trans <| (j_aload_n q_249_309 rfl).trans <| (j_get (ji := 37) (v := (2, 103)) q_249_310 (js_Fo qy_249 qf_12_184) js_o83 rfl rfl rfl rfl).trans <| (j_iload_n q_249_313 rfl).trans <| (j_iaload q_249_314 js_o103).trans <| (if_pos g0).trans <| (j_aload_n q_249_315 rfl).trans <| (j_get (ji := 39) (v := (2, 105)) q_249_316 (js_Fo qy_249 qf_12_175) js_o83 rfl rfl rfl rfl).trans <| (j_iload_n q_249_319 rfl).trans <| (j_iaload q_249_320 js_o105).trans <| js_itp fun g1 => (j_max (js_clS q_249_321 (js_Mo qy_249 qm_12_205)) (Nat.le_of_ble_eq_true rfl) hd).trans <| (j_i2l q_249_324).trans <| (j_aload_n q_249_325 rfl).trans <| (j_get (ji := 37) (v := (2, 103)) q_249_326 (js_Fo qy_249 qf_12_184) js_o83 rfl rfl rfl rfl).trans <| (j_iload_n q_249_329 rfl).trans <| (j_iaload q_249_330 js_o103).trans <| (if_pos g0).trans <| (j_aload_n q_249_331 rfl).trans <| (j_get (ji := 40) (v := (2, 106)) q_249_332 (js_Fo qy_249 qf_12_178) js_o83 rfl rfl rfl rfl).trans <| (j_iload_n q_249_335 rfl).trans <| (j_iaload q_249_336 js_o106).trans <| (if_pos g1).trans <| (j_max (js_clS q_249_337 (js_Mo qy_249 qm_12_205)) (Nat.le_of_ble_eq_true rfl) hd).trans <| (j_i2l q_249_340).trans <| rfl
theorem k_249_341 {E : js_E} {d : Nat} {σ σ2 : js_S} {x1 x2 x3 x16 z1 z2 z3 z4 z5 : Int} {v : Int} (hd : 1 ≤ d) (hz : js_J E (d - 1) 250 0 [(2, 83), (0, z1), (0, z2), (0, z3), (1, z4), (9, 0), (1, z5), (9, 0)] [] σ = js_r E (0, v) σ2) : js_J E d 249 341 [(2, 83), (0, x1), (0, x2), (0, x3), (9, 0), (9, 0), (9, 0), (9, 0), (9, 0), (9, 0), (9, 0), (9, 0), (9, 0), (9, 0), (9, 0), (9, 0), (1, x16), (9, 0)] [(1, z5), (1, z4), (0, z3), (0, z2), (0, z1), (2, 83)] σ = js_J E d 249 344 [(2, 83), (0, x1), (0, x2), (0, x3), (9, 0), (9, 0), (9, 0), (9, 0), (9, 0), (9, 0), (9, 0), (9, 0), (9, 0), (9, 0), (9, 0), (9, 0), (1, x16), (9, 0)] [(0, v)] σ2 :=
  j_call (m := 0) (js_caV q_249_341 (js_Mo qy_249 qm_12_483)) (js_agV (av := [(0, z1), (0, z2), (0, z3), (1, z4), (1, z5)]) (st := []) rfl rfl js_o83 rfl) rfl rfl (by rw [ql_250]; exact Nat.le_of_ble_eq_true rfl) (Nat.le_of_ble_eq_true rfl) hd hz
theorem b_249_344 {E : js_E} {d : Nat} {σ : js_S} {x1 x2 x3 x16 z0 : Int} : js_J E d 249 344 [(2, 83), (0, x1), (0, x2), (0, x3), (9, 0), (9, 0), (9, 0), (9, 0), (9, 0), (9, 0), (9, 0), (9, 0), (9, 0), (9, 0), (9, 0), (9, 0), (1, x16), (9, 0)] [(0, z0)] σ = (if 0 ≤ js_w x1 ∧ js_w x1 < 66000 then js_J E d 249 369 [(2, 83), (0, x1), (0, x2), (0, x3), (9, 0), (9, 0), (9, 0), (9, 0), (9, 0), (9, 0), (9, 0), (9, 0), (9, 0), (9, 0), (9, 0), (9, 0), (1, x16), (9, 0)] [(1, js_w (σ 106 (js_w x1))), (1, js_w (σ 105 (js_w x1))), (0, 0), (0, σ 104 (js_w x1)), (0, 23), (2, 83)] σ else none) :=
  (j_pop0 q_249_344).trans <| (j_aload_n q_249_345 rfl).trans <| (j_bi q_249_346 rfl).trans <| (j_aload_n q_249_348 rfl).trans <| (j_get (ji := 38) (v := (2, 104)) q_249_349 (js_Fo qy_249 qf_12_187) js_o83 rfl rfl rfl rfl).trans <| (j_iload_n q_249_352 rfl).trans <| (j_iaload q_249_353 js_o104).trans <| js_itp fun g0 => (j_iconst q_249_354).trans <| (j_aload_n q_249_355 rfl).trans <| (j_get (ji := 39) (v := (2, 105)) q_249_356 (js_Fo qy_249 qf_12_175) js_o83 rfl rfl rfl rfl).trans <| (j_iload_n q_249_359 rfl).trans <| (j_iaload q_249_360 js_o105).trans <| (if_pos g0).trans <| (j_i2l q_249_361).trans <| (j_aload_n q_249_362 rfl).trans <| (j_get (ji := 40) (v := (2, 106)) q_249_363 (js_Fo qy_249 qf_12_178) js_o83 rfl rfl rfl rfl).trans <| (j_iload_n q_249_366 rfl).trans <| (j_iaload q_249_367 js_o106).trans <| (if_pos g0).trans <| (j_i2l q_249_368).trans <| rfl
theorem k_249_369 {E : js_E} {d : Nat} {σ σ2 : js_S} {x1 x2 x3 x16 z1 z2 z3 z4 z5 : Int} {v : Int} (hd : 1 ≤ d) (hz : js_J E (d - 1) 250 0 [(2, 83), (0, z1), (0, z2), (0, z3), (1, z4), (9, 0), (1, z5), (9, 0)] [] σ = js_r E (0, v) σ2) : js_J E d 249 369 [(2, 83), (0, x1), (0, x2), (0, x3), (9, 0), (9, 0), (9, 0), (9, 0), (9, 0), (9, 0), (9, 0), (9, 0), (9, 0), (9, 0), (9, 0), (9, 0), (1, x16), (9, 0)] [(1, z5), (1, z4), (0, z3), (0, z2), (0, z1), (2, 83)] σ = js_J E d 249 372 [(2, 83), (0, x1), (0, x2), (0, x3), (9, 0), (9, 0), (9, 0), (9, 0), (9, 0), (9, 0), (9, 0), (9, 0), (9, 0), (9, 0), (9, 0), (9, 0), (1, x16), (9, 0)] [(0, v)] σ2 :=
  j_call (m := 0) (js_caV q_249_369 (js_Mo qy_249 qm_12_483)) (js_agV (av := [(0, z1), (0, z2), (0, z3), (1, z4), (1, z5)]) (st := []) rfl rfl js_o83 rfl) rfl rfl (by rw [ql_250]; exact Nat.le_of_ble_eq_true rfl) (Nat.le_of_ble_eq_true rfl) hd hz
theorem b_249_372 {E : js_E} {d : Nat} {σ : js_S} {x1 x2 x3 x16 z0 : Int} : js_J E d 249 372 [(2, 83), (0, x1), (0, x2), (0, x3), (9, 0), (9, 0), (9, 0), (9, 0), (9, 0), (9, 0), (9, 0), (9, 0), (9, 0), (9, 0), (9, 0), (9, 0), (1, x16), (9, 0)] [(0, z0)] σ = js_r E (1, x16 + 2) σ :=
  (j_pop0 q_249_372).trans <| (j_lload q_249_373 rfl).trans <| (j_ldc2 (v := (1, 2)) q_249_375 (js_Co qy_249 qc_12_523)).trans <| (j_ladd q_249_378).trans <| j_lreturn q_249_379 qr_249
theorem b_249_380 {E : js_E} {d : Nat} {σ : js_S} {x1 x2 x3 : Int} : js_J E d 249 380 [(2, 83), (0, x1), (0, x2), (0, x3), (9, 0), (9, 0), (9, 0), (9, 0), (9, 0), (9, 0), (9, 0), (9, 0), (9, 0), (9, 0), (9, 0), (9, 0), (9, 0), (9, 0)] [] σ = js_J E d 249 383 [(2, 83), (0, x1), (0, x2), (0, x3), (9, 0), (9, 0), (9, 0), (9, 0), (9, 0), (9, 0), (9, 0), (9, 0), (9, 0), (9, 0), (9, 0), (9, 0), (9, 0), (9, 0)] [(0, x2), (0, x1), (2, 83)] σ :=
  (j_aload_n q_249_380 rfl).trans <| (j_iload_n q_249_381 rfl).trans <| (j_iload_n q_249_382 rfl).trans <| rfl
theorem k_249_383 {E : js_E} {d : Nat} {σ σ2 : js_S} {x1 x2 x3 z1 z2 : Int} {v : Int} (hd : 1 ≤ d) (hz : js_J E (d - 1) 254 0 [(2, 83), (0, z1), (0, z2), (9, 0), (9, 0), (9, 0), (9, 0), (9, 0)] [] σ = js_r E (1, v) σ2) : js_J E d 249 383 [(2, 83), (0, x1), (0, x2), (0, x3), (9, 0), (9, 0), (9, 0), (9, 0), (9, 0), (9, 0), (9, 0), (9, 0), (9, 0), (9, 0), (9, 0), (9, 0), (9, 0), (9, 0)] [(0, z2), (0, z1), (2, 83)] σ = js_J E d 249 386 [(2, 83), (0, x1), (0, x2), (0, x3), (9, 0), (9, 0), (9, 0), (9, 0), (9, 0), (9, 0), (9, 0), (9, 0), (9, 0), (9, 0), (9, 0), (9, 0), (9, 0), (9, 0)] [(1, v)] σ2 :=
  j_call (m := 5) (js_caV q_249_383 (js_Mo qy_249 qm_12_525)) (js_agV (av := [(0, z1), (0, z2)]) (st := []) rfl rfl js_o83 rfl) rfl rfl (by rw [ql_254]; exact Nat.le_of_ble_eq_true rfl) (Nat.le_of_ble_eq_true rfl) hd hz
theorem b_249_386 {E : js_E} {d : Nat} {σ : js_S} {x1 x2 x3 z0 : Int} : js_J E d 249 386 [(2, 83), (0, x1), (0, x2), (0, x3), (9, 0), (9, 0), (9, 0), (9, 0), (9, 0), (9, 0), (9, 0), (9, 0), (9, 0), (9, 0), (9, 0), (9, 0), (9, 0), (9, 0)] [(1, z0)] σ = js_r E (1, z0) σ :=
  j_lreturn q_249_386 qr_249
-- 250: VitalTwinModel.emit (IIIJJ)I
theorem b_250_0 {E : js_E} {d : Nat} {σ : js_S} {x1 x2 x3 x4 x6 : Int} : js_J E d 250 0 [(2, 83), (0, x1), (0, x2), (0, x3), (1, x4), (9, 0), (1, x6), (9, 0)] [] σ = (if js_w (σ 83 49) < 8192 then (if 0 ≤ js_w (σ 83 49) ∧ js_w (σ 83 49) < 8192 then js_J E d 250 62 [(2, 83), (0, x1), (0, x2), (0, x3), (1, x4), (9, 0), (1, x6), (9, 0)] [] (js_up (js_up (js_up (js_up (js_up σ 111 (js_w (σ 83 49)) x1) 112 (js_w (σ 83 49)) x2) 113 (js_w (σ 83 49)) x3) 114 (js_w (σ 83 49)) x4) 115 (js_w (σ 83 49)) x6) else none) else js_J E d 250 62 [(2, 83), (0, x1), (0, x2), (0, x3), (1, x4), (9, 0), (1, x6), (9, 0)] [] σ) :=
  (j_aload_n q_250_0 rfl).trans <| (j_get (ji := 49) (v := (0, σ 83 49)) q_250_1 (js_Fo qy_250 qf_12_428) js_o83 rfl rfl rfl rfl).trans <| (j_si q_250_4 rfl).trans <| (j_cmpgeB (t := 62) q_250_7 rfl ww_8192).trans (js_ite ((j_aload_n q_250_10 rfl).trans <| (j_get (ji := 59) (v := (2, 111)) q_250_11 (js_Fo qy_250 qf_12_346) js_o83 rfl rfl rfl rfl).trans <| (j_aload_n q_250_14 rfl).trans <| (j_get (ji := 49) (v := (0, σ 83 49)) q_250_15 (js_Fo qy_250 qf_12_428) js_o83 rfl rfl rfl rfl).trans <| (j_iload_n q_250_18 rfl).trans <| (j_iastore q_250_19 js_o111).trans <| js_itp fun g0 => (j_aload_n q_250_20 rfl).trans <| (j_get (ji := 60) (v := (2, 112)) q_250_21 (js_Fo qy_250 qf_12_349) js_o83 rfl rfl rfl rfl).trans <| (j_aload_n q_250_24 rfl).trans <| (j_get (ji := 49) (v := (0, σ 83 49)) q_250_25 (js_Fo qy_250 qf_12_428) js_o83 rfl rfl rfl (congrArg (Prod.mk 0) ((js_up_na _ (by decide))))).trans <| (j_iload_n q_250_28 rfl).trans <| (j_iastore q_250_29 js_o112).trans <| (if_pos g0).trans <| (j_aload_n q_250_30 rfl).trans <| (j_get (ji := 61) (v := (2, 113)) q_250_31 (js_Fo qy_250 qf_12_352) js_o83 rfl rfl rfl rfl).trans <| (j_aload_n q_250_34 rfl).trans <| (j_get (ji := 49) (v := (0, σ 83 49)) q_250_35 (js_Fo qy_250 qf_12_428) js_o83 rfl rfl rfl (congrArg (Prod.mk 0) ((js_up_na _ (by decide)).trans <| (js_up_na _ (by decide))))).trans <| (j_iload_n q_250_38 rfl).trans <| (j_iastore q_250_39 js_o113).trans <| (if_pos g0).trans <| (j_aload_n q_250_40 rfl).trans <| (j_get (ji := 62) (v := (2, 114)) q_250_41 (js_Fo qy_250 qf_12_355) js_o83 rfl rfl rfl rfl).trans <| (j_aload_n q_250_44 rfl).trans <| (j_get (ji := 49) (v := (0, σ 83 49)) q_250_45 (js_Fo qy_250 qf_12_428) js_o83 rfl rfl rfl (congrArg (Prod.mk 0) ((js_up_na _ (by decide)).trans <| (js_up_na _ (by decide)).trans <| (js_up_na _ (by decide))))).trans <| (j_lload q_250_48 rfl).trans <| (j_lastore q_250_50 js_o114).trans <| (if_pos g0).trans <| (j_aload_n q_250_51 rfl).trans <| (j_get (ji := 63) (v := (2, 115)) q_250_52 (js_Fo qy_250 qf_12_359) js_o83 rfl rfl rfl rfl).trans <| (j_aload_n q_250_55 rfl).trans <| (j_get (ji := 49) (v := (0, σ 83 49)) q_250_56 (js_Fo qy_250 qf_12_428) js_o83 rfl rfl rfl (congrArg (Prod.mk 0) ((js_up_na _ (by decide)).trans <| (js_up_na _ (by decide)).trans <| (js_up_na _ (by decide)).trans <| (js_up_na _ (by decide))))).trans <| (j_lload q_250_59 rfl).trans <| (j_lastore q_250_61 js_o115).trans <| (if_pos g0).trans <| rfl) (rfl))
theorem b_250_62 {E : js_E} {d : Nat} {σ : js_S} {x1 x2 x3 x4 x6 : Int} : js_J E d 250 62 [(2, 83), (0, x1), (0, x2), (0, x3), (1, x4), (9, 0), (1, x6), (9, 0)] [] σ = js_r E (0, ((σ 83 49) + 1) - 1) (js_up σ 83 49 ((σ 83 49) + 1)) :=
  (j_aload_n q_250_62 rfl).trans <| (j_dupr q_250_63).trans <| (j_get (ji := 49) (v := (0, σ 83 49)) q_250_64 (js_Fo qy_250 qf_12_428) js_o83 rfl rfl rfl rfl).trans <| (j_iconst q_250_67).trans <| (j_iadd q_250_68).trans <| (j_putI (ji := 49) q_250_69 (js_Fo qy_250 qf_12_428) rfl js_o83 rfl rfl rfl).trans <| (j_aload_n q_250_72 rfl).trans <| (j_get (ji := 49) (v := (0, (σ 83 49) + 1)) q_250_73 (js_Fo qy_250 qf_12_428) js_o83 rfl rfl rfl (congrArg (Prod.mk 0) ((js_up_same _ _ _ _)))).trans <| (j_iconst q_250_76).trans <| (j_isub q_250_77).trans <| j_ireturn q_250_78 qr_250
-- 251: VitalTwinModel.plainly (III)I
theorem b_251_0 {E : js_E} {d : Nat} {σ : js_S} {x1 x2 x3 : Int} : js_J E d 251 0 [(2, 83), (0, x1), (0, x2), (0, x3)] [] σ = js_J E d 251 6 [(2, 83), (0, x1), (0, x2), (0, x3)] [(1, 0), (1, 1), (0, x3), (0, x2), (0, x1), (2, 83)] σ :=
  (j_aload_n q_251_0 rfl).trans <| (j_iload_n q_251_1 rfl).trans <| (j_iload_n q_251_2 rfl).trans <| (j_iload_n q_251_3 rfl).trans <| (j_lconst1 q_251_4).trans <| (j_lconst0 q_251_5).trans <| rfl
theorem k_251_6 {E : js_E} {d : Nat} {σ σ2 : js_S} {x1 x2 x3 z1 z2 z3 z4 z5 : Int} {v : Int} (hd : 1 ≤ d) (hz : js_J E (d - 1) 250 0 [(2, 83), (0, z1), (0, z2), (0, z3), (1, z4), (9, 0), (1, z5), (9, 0)] [] σ = js_r E (0, v) σ2) : js_J E d 251 6 [(2, 83), (0, x1), (0, x2), (0, x3)] [(1, z5), (1, z4), (0, z3), (0, z2), (0, z1), (2, 83)] σ = js_J E d 251 9 [(2, 83), (0, x1), (0, x2), (0, x3)] [(0, v)] σ2 :=
  j_call (m := 0) (js_caV q_251_6 (js_Mo qy_251 qm_12_483)) (js_agV (av := [(0, z1), (0, z2), (0, z3), (1, z4), (1, z5)]) (st := []) rfl rfl js_o83 rfl) rfl rfl (by rw [ql_250]; exact Nat.le_of_ble_eq_true rfl) (Nat.le_of_ble_eq_true rfl) hd hz
theorem b_251_9 {E : js_E} {d : Nat} {σ : js_S} {x1 x2 x3 z0 : Int} : js_J E d 251 9 [(2, 83), (0, x1), (0, x2), (0, x3)] [(0, z0)] σ = js_r E (0, z0) σ :=
  j_ireturn q_251_9 qr_251
-- 252: VitalTwinModel.land (I)V
theorem b_252_0 {E : js_E} {d : Nat} {σ : js_S} {x1 : Int} : js_J E d 252 0 [(2, 83), (0, x1)] [] σ = (if js_w x1 < 8192 then (if 0 ≤ js_w x1 ∧ js_w x1 < 8192 then js_r0 E (js_up σ 112 (js_w x1) (σ 83 49)) else none) else js_r0 E σ) :=
  (j_iload_n q_252_0 rfl).trans <| (j_si q_252_1 rfl).trans <| (j_cmpgeB (t := 17) q_252_4 rfl ww_8192).trans (js_ite ((j_aload_n q_252_7 rfl).trans <| (j_get (ji := 60) (v := (2, 112)) q_252_8 (js_Fo qy_252 qf_12_349) js_o83 rfl rfl rfl rfl).trans <| (j_iload_n q_252_11 rfl).trans <| (j_aload_n q_252_12 rfl).trans <| (j_get (ji := 49) (v := (0, σ 83 49)) q_252_13 (js_Fo qy_252 qf_12_428) js_o83 rfl rfl rfl rfl).trans <| (j_iastore q_252_16 js_o112).trans <| js_itp fun g0 => j_return q_252_17 qr_252) (j_return q_252_17 qr_252))
-- 253: VitalTwinModel.bounded (J)J
theorem b_253_0 {E : js_E} {d : Nat} {σ : js_S} {x0 : Int} : js_J E d 253 0 [(1, x0), (9, 0)] [] σ = (if 1000000000000000 < js_l x0 then js_r E (1, 1000000000000000) σ else js_r E (1, x0) σ) :=
  (j_lload_n q_253_0 rfl).trans <| (j_ldc2 (v := (1, 1000000000000000)) q_253_1 (js_Co qy_253 qc_12_496)).trans <| (j_lleB (t := 14) q_253_4 q_253_5 rfl wl_1000000000000000).trans (js_ite ((j_ldc2 (v := (1, 1000000000000000)) q_253_8 (js_Co qy_253 qc_12_496)).trans <| (j_goto (t := 15) q_253_11 rfl).trans <| j_lreturn q_253_15 qr_253) ((j_lload_n q_253_14 rfl).trans <| j_lreturn q_253_15 qr_253))
