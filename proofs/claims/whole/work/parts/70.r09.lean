/-! part 70.r09: block equations of the reference's methods 262 to 269 (printed by wip/whole/tools/gen71.py) -/
theorem qy_265 : vt_O 265 = 12 := by decide +kernel
theorem qr_265 : vt_rc.getD 265 0 = 1 := by decide +kernel
theorem ql_265 : vt_ml.getD 265 0 = 3 := by decide +kernel
theorem qy_266 : vt_O 266 = 12 := by decide +kernel
theorem qr_266 : vt_rc.getD 266 0 = 0 := by decide +kernel
theorem ql_266 : vt_ml.getD 266 0 = 4 := by decide +kernel
theorem qy_268 : vt_O 268 = 12 := by decide +kernel
theorem qr_268 : vt_rc.getD 268 0 = 0 := by decide +kernel
theorem ql_268 : vt_ml.getD 268 0 = 3 := by decide +kernel
theorem qy_267 : vt_O 267 = 12 := by decide +kernel
theorem qr_267 : vt_rc.getD 267 0 = 0 := by decide +kernel
theorem ql_267 : vt_ml.getD 267 0 = 2 := by decide +kernel
theorem qy_269 : vt_O 269 = 12 := by decide +kernel
theorem qr_269 : vt_rc.getD 269 0 = 0 := by decide +kernel
theorem ql_269 : vt_ml.getD 269 0 = 4 := by decide +kernel
theorem qy_270 : vt_O 270 = 12 := by decide +kernel
theorem qr_270 : vt_rc.getD 270 0 = 2 := by decide +kernel
theorem ql_270 : vt_ml.getD 270 0 = 13 := by decide +kernel
theorem qy_273 : vt_O 273 = 12 := by decide +kernel
theorem qr_273 : vt_rc.getD 273 0 = 0 := by decide +kernel
theorem ql_273 : vt_ml.getD 273 0 = 2 := by decide +kernel
theorem qy_275 : vt_O 275 = 12 := by decide +kernel
theorem qr_275 : vt_rc.getD 275 0 = 0 := by decide +kernel
theorem ql_275 : vt_ml.getD 275 0 = 4 := by decide +kernel
theorem q_262_0 : js_I 262 0 = some (.aload_n 0, 1) := by decide +kernel
theorem q_262_1 : js_I 262 1 = some (.aload_n 0, 1) := by decide +kernel
theorem q_262_2 : js_I 262 2 = some (.getfield 425, 3) := by decide +kernel
theorem q_262_5 : js_I 262 5 = some (.putfield 86, 3) := by decide +kernel
theorem q_262_8 : js_I 262 8 = some (.aload_n 0, 1) := by decide +kernel
theorem q_262_9 : js_I 262 9 = some (.aload_n 0, 1) := by decide +kernel
theorem q_262_10 : js_I 262 10 = some (.getfield 431, 3) := by decide +kernel
theorem q_262_13 : js_I 262 13 = some (.putfield 428, 3) := by decide +kernel
theorem q_262_16 : js_I 262 16 = some (.iconst 0, 1) := by decide +kernel
theorem q_262_17 : js_I 262 17 = some (.istore_n 1, 1) := by decide +kernel
theorem q_262_18 : js_I 262 18 = some (.iload_n 1, 1) := by decide +kernel
theorem q_262_19 : js_I 262 19 = some (.aload_n 0, 1) := by decide +kernel
theorem q_262_20 : js_I 262 20 = some (.getfield 86, 3) := by decide +kernel
theorem q_262_23 : js_I 262 23 = some (.if_icmp .ge 190, 3) := by decide +kernel
theorem q_262_26 : js_I 262 26 = some (.aload_n 0, 1) := by decide +kernel
theorem q_262_27 : js_I 262 27 = some (.getfield 99, 3) := by decide +kernel
theorem q_262_30 : js_I 262 30 = some (.iload_n 1, 1) := by decide +kernel
theorem q_262_31 : js_I 262 31 = some (.aload_n 0, 1) := by decide +kernel
theorem q_262_32 : js_I 262 32 = some (.getfield 362, 3) := by decide +kernel
theorem q_262_35 : js_I 262 35 = some (.iload_n 1, 1) := by decide +kernel
theorem q_262_36 : js_I 262 36 = some (.iaload, 1) := by decide +kernel
theorem q_262_37 : js_I 262 37 = some (.iastore, 1) := by decide +kernel
theorem q_262_38 : js_I 262 38 = some (.aload_n 0, 1) := by decide +kernel
theorem q_262_39 : js_I 262 39 = some (.getfield 102, 3) := by decide +kernel
theorem q_262_42 : js_I 262 42 = some (.iload_n 1, 1) := by decide +kernel
theorem q_262_43 : js_I 262 43 = some (.aload_n 0, 1) := by decide +kernel
theorem q_262_44 : js_I 262 44 = some (.getfield 362, 3) := by decide +kernel
theorem q_262_47 : js_I 262 47 = some (.sipush 400, 3) := by decide +kernel
theorem q_262_50 : js_I 262 50 = some (.iload_n 1, 1) := by decide +kernel
theorem q_262_51 : js_I 262 51 = some (.iadd, 1) := by decide +kernel
theorem q_262_52 : js_I 262 52 = some (.iaload, 1) := by decide +kernel
theorem q_262_53 : js_I 262 53 = some (.iastore, 1) := by decide +kernel
theorem q_262_54 : js_I 262 54 = some (.aload_n 0, 1) := by decide +kernel
theorem q_262_55 : js_I 262 55 = some (.getfield 105, 3) := by decide +kernel
theorem q_262_58 : js_I 262 58 = some (.iload_n 1, 1) := by decide +kernel
theorem q_262_59 : js_I 262 59 = some (.aload_n 0, 1) := by decide +kernel
theorem q_262_60 : js_I 262 60 = some (.getfield 362, 3) := by decide +kernel
theorem q_262_63 : js_I 262 63 = some (.sipush 800, 3) := by decide +kernel
theorem q_262_66 : js_I 262 66 = some (.iload_n 1, 1) := by decide +kernel
theorem q_262_67 : js_I 262 67 = some (.iadd, 1) := by decide +kernel
theorem q_262_68 : js_I 262 68 = some (.iaload, 1) := by decide +kernel
theorem q_262_69 : js_I 262 69 = some (.iastore, 1) := by decide +kernel
theorem q_262_70 : js_I 262 70 = some (.aload_n 0, 1) := by decide +kernel
theorem q_262_71 : js_I 262 71 = some (.getfield 108, 3) := by decide +kernel
theorem q_262_74 : js_I 262 74 = some (.iload_n 1, 1) := by decide +kernel
theorem q_262_75 : js_I 262 75 = some (.aload_n 0, 1) := by decide +kernel
theorem q_262_76 : js_I 262 76 = some (.getfield 362, 3) := by decide +kernel
theorem q_262_79 : js_I 262 79 = some (.sipush 1200, 3) := by decide +kernel
theorem q_262_82 : js_I 262 82 = some (.iload_n 1, 1) := by decide +kernel
theorem q_262_83 : js_I 262 83 = some (.iadd, 1) := by decide +kernel
theorem q_262_84 : js_I 262 84 = some (.iaload, 1) := by decide +kernel
theorem q_262_85 : js_I 262 85 = some (.iastore, 1) := by decide +kernel
theorem q_262_86 : js_I 262 86 = some (.aload_n 0, 1) := by decide +kernel
theorem q_262_87 : js_I 262 87 = some (.getfield 111, 3) := by decide +kernel
theorem q_262_90 : js_I 262 90 = some (.iload_n 1, 1) := by decide +kernel
theorem q_262_91 : js_I 262 91 = some (.aload_n 0, 1) := by decide +kernel
theorem q_262_92 : js_I 262 92 = some (.getfield 362, 3) := by decide +kernel
theorem q_262_95 : js_I 262 95 = some (.sipush 1600, 3) := by decide +kernel
theorem q_262_98 : js_I 262 98 = some (.iload_n 1, 1) := by decide +kernel
theorem q_262_99 : js_I 262 99 = some (.iadd, 1) := by decide +kernel
theorem q_262_100 : js_I 262 100 = some (.iaload, 1) := by decide +kernel
theorem q_262_101 : js_I 262 101 = some (.iastore, 1) := by decide +kernel
theorem q_262_102 : js_I 262 102 = some (.aload_n 0, 1) := by decide +kernel
theorem q_262_103 : js_I 262 103 = some (.getfield 114, 3) := by decide +kernel
theorem q_262_106 : js_I 262 106 = some (.iload_n 1, 1) := by decide +kernel
theorem q_262_107 : js_I 262 107 = some (.aload_n 0, 1) := by decide +kernel
theorem q_262_108 : js_I 262 108 = some (.getfield 362, 3) := by decide +kernel
theorem q_262_111 : js_I 262 111 = some (.sipush 2000, 3) := by decide +kernel
theorem q_262_114 : js_I 262 114 = some (.iload_n 1, 1) := by decide +kernel
theorem q_262_115 : js_I 262 115 = some (.iadd, 1) := by decide +kernel
theorem q_262_116 : js_I 262 116 = some (.iaload, 1) := by decide +kernel
theorem q_262_117 : js_I 262 117 = some (.iastore, 1) := by decide +kernel
theorem q_262_118 : js_I 262 118 = some (.aload_n 0, 1) := by decide +kernel
theorem q_262_119 : js_I 262 119 = some (.getfield 117, 3) := by decide +kernel
theorem q_262_122 : js_I 262 122 = some (.iload_n 1, 1) := by decide +kernel
theorem q_262_123 : js_I 262 123 = some (.aload_n 0, 1) := by decide +kernel
theorem q_262_124 : js_I 262 124 = some (.getfield 362, 3) := by decide +kernel
theorem q_262_127 : js_I 262 127 = some (.sipush 2400, 3) := by decide +kernel
theorem q_262_130 : js_I 262 130 = some (.iload_n 1, 1) := by decide +kernel
theorem q_262_131 : js_I 262 131 = some (.iadd, 1) := by decide +kernel
theorem q_262_132 : js_I 262 132 = some (.iaload, 1) := by decide +kernel
theorem q_262_133 : js_I 262 133 = some (.iconst 1, 1) := by decide +kernel
theorem q_262_134 : js_I 262 134 = some (.if_icmp .ne 7, 3) := by decide +kernel
theorem q_262_137 : js_I 262 137 = some (.iconst 1, 1) := by decide +kernel
theorem q_262_138 : js_I 262 138 = some (.goto 4, 3) := by decide +kernel
theorem q_262_141 : js_I 262 141 = some (.iconst 0, 1) := by decide +kernel
theorem q_262_213 : js_I 262 213 = some (.iconst 0, 1) := by decide +kernel
theorem q_262_214 : js_I 262 214 = some (.istore_n 1, 1) := by decide +kernel
theorem q_262_142 : js_I 262 142 = some (.bastore, 1) := by decide +kernel
theorem q_262_143 : js_I 262 143 = some (.aload_n 0, 1) := by decide +kernel
theorem q_262_144 : js_I 262 144 = some (.getfield 120, 3) := by decide +kernel
theorem q_262_147 : js_I 262 147 = some (.iload_n 1, 1) := by decide +kernel
theorem q_262_148 : js_I 262 148 = some (.aload_n 0, 1) := by decide +kernel
theorem q_262_149 : js_I 262 149 = some (.getfield 362, 3) := by decide +kernel
theorem q_262_152 : js_I 262 152 = some (.sipush 2800, 3) := by decide +kernel
theorem q_262_155 : js_I 262 155 = some (.iload_n 1, 1) := by decide +kernel
theorem q_262_156 : js_I 262 156 = some (.iadd, 1) := by decide +kernel
theorem q_262_157 : js_I 262 157 = some (.iaload, 1) := by decide +kernel
theorem q_262_158 : js_I 262 158 = some (.iastore, 1) := by decide +kernel
theorem q_262_159 : js_I 262 159 = some (.aload_n 0, 1) := by decide +kernel
theorem q_262_160 : js_I 262 160 = some (.getfield 126, 3) := by decide +kernel
theorem q_262_163 : js_I 262 163 = some (.iload_n 1, 1) := by decide +kernel
theorem q_262_164 : js_I 262 164 = some (.aload_n 0, 1) := by decide +kernel
theorem q_262_165 : js_I 262 165 = some (.getfield 362, 3) := by decide +kernel
theorem q_262_168 : js_I 262 168 = some (.sipush 3200, 3) := by decide +kernel
theorem q_262_171 : js_I 262 171 = some (.iload_n 1, 1) := by decide +kernel
theorem q_262_172 : js_I 262 172 = some (.iadd, 1) := by decide +kernel
theorem q_262_173 : js_I 262 173 = some (.iaload, 1) := by decide +kernel
theorem q_262_174 : js_I 262 174 = some (.iastore, 1) := by decide +kernel
theorem q_262_175 : js_I 262 175 = some (.aload_n 0, 1) := by decide +kernel
theorem q_262_176 : js_I 262 176 = some (.getfield 129, 3) := by decide +kernel
theorem q_262_179 : js_I 262 179 = some (.iload_n 1, 1) := by decide +kernel
theorem q_262_180 : js_I 262 180 = some (.aload_n 0, 1) := by decide +kernel
theorem q_262_181 : js_I 262 181 = some (.getfield 362, 3) := by decide +kernel
theorem q_262_184 : js_I 262 184 = some (.sipush 3600, 3) := by decide +kernel
theorem q_262_187 : js_I 262 187 = some (.iload_n 1, 1) := by decide +kernel
theorem q_262_188 : js_I 262 188 = some (.iadd, 1) := by decide +kernel
theorem q_262_189 : js_I 262 189 = some (.iaload, 1) := by decide +kernel
theorem q_262_190 : js_I 262 190 = some (.iastore, 1) := by decide +kernel
theorem q_262_191 : js_I 262 191 = some (.aload_n 0, 1) := by decide +kernel
theorem q_262_192 : js_I 262 192 = some (.getfield 79, 3) := by decide +kernel
theorem q_262_195 : js_I 262 195 = some (.iload_n 1, 1) := by decide +kernel
theorem q_262_196 : js_I 262 196 = some (.aload_n 0, 1) := by decide +kernel
theorem q_262_197 : js_I 262 197 = some (.getfield 362, 3) := by decide +kernel
theorem q_262_200 : js_I 262 200 = some (.sipush 4000, 3) := by decide +kernel
theorem q_262_203 : js_I 262 203 = some (.iload_n 1, 1) := by decide +kernel
theorem q_262_204 : js_I 262 204 = some (.iadd, 1) := by decide +kernel
theorem q_262_205 : js_I 262 205 = some (.iaload, 1) := by decide +kernel
theorem q_262_206 : js_I 262 206 = some (.iastore, 1) := by decide +kernel
theorem q_262_207 : js_I 262 207 = some (.iinc 1 1, 3) := by decide +kernel
theorem q_262_210 : js_I 262 210 = some (.goto (-192), 3) := by decide +kernel
theorem q_262_215 : js_I 262 215 = some (.iload_n 1, 1) := by decide +kernel
theorem q_262_216 : js_I 262 216 = some (.bipush 20, 2) := by decide +kernel
theorem q_262_218 : js_I 262 218 = some (.aload_n 0, 1) := by decide +kernel
theorem q_262_219 : js_I 262 219 = some (.getfield 86, 3) := by decide +kernel
theorem q_262_222 : js_I 262 222 = some (.imul, 1) := by decide +kernel
theorem q_262_223 : js_I 262 223 = some (.if_icmp .ge 21, 3) := by decide +kernel
theorem q_262_226 : js_I 262 226 = some (.aload_n 0, 1) := by decide +kernel
theorem q_262_227 : js_I 262 227 = some (.getfield 83, 3) := by decide +kernel
theorem q_262_230 : js_I 262 230 = some (.iload_n 1, 1) := by decide +kernel
theorem q_262_231 : js_I 262 231 = some (.aload_n 0, 1) := by decide +kernel
theorem q_262_232 : js_I 262 232 = some (.getfield 365, 3) := by decide +kernel
theorem q_262_235 : js_I 262 235 = some (.iload_n 1, 1) := by decide +kernel
theorem q_262_236 : js_I 262 236 = some (.baload, 1) := by decide +kernel
theorem q_262_237 : js_I 262 237 = some (.bastore, 1) := by decide +kernel
theorem q_262_238 : js_I 262 238 = some (.iinc 1 1, 3) := by decide +kernel
theorem q_262_241 : js_I 262 241 = some (.goto (-26), 3) := by decide +kernel
theorem q_262_244 : js_I 262 244 = some (.iconst 0, 1) := by decide +kernel
theorem q_262_245 : js_I 262 245 = some (.istore_n 1, 1) := by decide +kernel
theorem q_262_246 : js_I 262 246 = some (.iload_n 1, 1) := by decide +kernel
theorem q_262_247 : js_I 262 247 = some (.aload_n 0, 1) := by decide +kernel
theorem q_262_248 : js_I 262 248 = some (.getfield 428, 3) := by decide +kernel
theorem q_262_251 : js_I 262 251 = some (.if_icmp .ge 81, 3) := by decide +kernel
theorem q_262_254 : js_I 262 254 = some (.aload_n 0, 1) := by decide +kernel
theorem q_262_255 : js_I 262 255 = some (.getfield 346, 3) := by decide +kernel
theorem q_262_258 : js_I 262 258 = some (.iload_n 1, 1) := by decide +kernel
theorem q_262_259 : js_I 262 259 = some (.aload_n 0, 1) := by decide +kernel
theorem q_262_260 : js_I 262 260 = some (.getfield 368, 3) := by decide +kernel
theorem q_262_263 : js_I 262 263 = some (.iload_n 1, 1) := by decide +kernel
theorem q_262_264 : js_I 262 264 = some (.iaload, 1) := by decide +kernel
theorem q_262_265 : js_I 262 265 = some (.iastore, 1) := by decide +kernel
theorem q_262_266 : js_I 262 266 = some (.aload_n 0, 1) := by decide +kernel
theorem q_262_267 : js_I 262 267 = some (.getfield 349, 3) := by decide +kernel
theorem q_262_270 : js_I 262 270 = some (.iload_n 1, 1) := by decide +kernel
theorem q_262_271 : js_I 262 271 = some (.aload_n 0, 1) := by decide +kernel
theorem q_262_272 : js_I 262 272 = some (.getfield 368, 3) := by decide +kernel
theorem q_262_275 : js_I 262 275 = some (.sipush 8192, 3) := by decide +kernel
theorem q_262_278 : js_I 262 278 = some (.iload_n 1, 1) := by decide +kernel
theorem q_262_279 : js_I 262 279 = some (.iadd, 1) := by decide +kernel
theorem q_262_280 : js_I 262 280 = some (.iaload, 1) := by decide +kernel
theorem q_262_281 : js_I 262 281 = some (.iastore, 1) := by decide +kernel
theorem q_262_282 : js_I 262 282 = some (.aload_n 0, 1) := by decide +kernel
theorem q_262_283 : js_I 262 283 = some (.getfield 352, 3) := by decide +kernel
theorem q_262_286 : js_I 262 286 = some (.iload_n 1, 1) := by decide +kernel
theorem q_262_287 : js_I 262 287 = some (.aload_n 0, 1) := by decide +kernel
theorem q_262_288 : js_I 262 288 = some (.getfield 368, 3) := by decide +kernel
theorem q_262_291 : js_I 262 291 = some (.sipush 16384, 3) := by decide +kernel
theorem q_262_294 : js_I 262 294 = some (.iload_n 1, 1) := by decide +kernel
theorem q_262_295 : js_I 262 295 = some (.iadd, 1) := by decide +kernel
theorem q_262_296 : js_I 262 296 = some (.iaload, 1) := by decide +kernel
theorem q_262_297 : js_I 262 297 = some (.iastore, 1) := by decide +kernel
theorem q_262_298 : js_I 262 298 = some (.aload_n 0, 1) := by decide +kernel
theorem q_262_299 : js_I 262 299 = some (.getfield 355, 3) := by decide +kernel
theorem q_262_302 : js_I 262 302 = some (.iload_n 1, 1) := by decide +kernel
theorem q_262_303 : js_I 262 303 = some (.aload_n 0, 1) := by decide +kernel
theorem q_262_304 : js_I 262 304 = some (.getfield 371, 3) := by decide +kernel
theorem q_262_307 : js_I 262 307 = some (.iload_n 1, 1) := by decide +kernel
theorem q_262_308 : js_I 262 308 = some (.laload, 1) := by decide +kernel
theorem q_262_309 : js_I 262 309 = some (.lastore, 1) := by decide +kernel
theorem q_262_310 : js_I 262 310 = some (.aload_n 0, 1) := by decide +kernel
theorem q_262_311 : js_I 262 311 = some (.getfield 359, 3) := by decide +kernel
theorem q_262_314 : js_I 262 314 = some (.iload_n 1, 1) := by decide +kernel
theorem q_262_315 : js_I 262 315 = some (.aload_n 0, 1) := by decide +kernel
theorem q_262_316 : js_I 262 316 = some (.getfield 371, 3) := by decide +kernel
theorem q_262_319 : js_I 262 319 = some (.sipush 8192, 3) := by decide +kernel
theorem q_262_322 : js_I 262 322 = some (.iload_n 1, 1) := by decide +kernel
theorem q_262_323 : js_I 262 323 = some (.iadd, 1) := by decide +kernel
theorem q_262_324 : js_I 262 324 = some (.laload, 1) := by decide +kernel
theorem q_262_325 : js_I 262 325 = some (.lastore, 1) := by decide +kernel
theorem q_262_326 : js_I 262 326 = some (.iinc 1 1, 3) := by decide +kernel
theorem q_262_329 : js_I 262 329 = some (.goto (-83), 3) := by decide +kernel
theorem q_262_332 : js_I 262 332 = some (.return_, 1) := by decide +kernel
theorem q_263_0 : js_I 263 0 = some (.iconst 0, 1) := by decide +kernel
theorem q_263_1 : js_I 263 1 = some (.istore_n 1, 1) := by decide +kernel
theorem q_263_2 : js_I 263 2 = some (.iconst 0, 1) := by decide +kernel
theorem q_263_3 : js_I 263 3 = some (.istore_n 2, 1) := by decide +kernel
theorem q_263_4 : js_I 263 4 = some (.iload_n 2, 1) := by decide +kernel
theorem q_263_5 : js_I 263 5 = some (.aload_n 0, 1) := by decide +kernel
theorem q_263_6 : js_I 263 6 = some (.getfield 86, 3) := by decide +kernel
theorem q_263_9 : js_I 263 9 = some (.if_icmp .ge 85, 3) := by decide +kernel
theorem q_263_12 : js_I 263 12 = some (.aload_n 0, 1) := by decide +kernel
theorem q_263_13 : js_I 263 13 = some (.getfield 99, 3) := by decide +kernel
theorem q_263_16 : js_I 263 16 = some (.iload_n 2, 1) := by decide +kernel
theorem q_263_17 : js_I 263 17 = some (.iaload, 1) := by decide +kernel
theorem q_263_18 : js_I 263 18 = some (.iconst 1, 1) := by decide +kernel
theorem q_263_19 : js_I 263 19 = some (.if_icmp .eq 6, 3) := by decide +kernel
theorem q_263_25 : js_I 263 25 = some (.iconst 0, 1) := by decide +kernel
theorem q_263_26 : js_I 263 26 = some (.istore_n 3, 1) := by decide +kernel
theorem q_263_22 : js_I 263 22 = some (.goto 66, 3) := by decide +kernel
theorem q_263_94 : js_I 263 94 = some (.return_, 1) := by decide +kernel
theorem q_263_27 : js_I 263 27 = some (.iload_n 3, 1) := by decide +kernel
theorem q_263_28 : js_I 263 28 = some (.aload_n 0, 1) := by decide +kernel
theorem q_263_29 : js_I 263 29 = some (.getfield 114, 3) := by decide +kernel
theorem q_263_32 : js_I 263 32 = some (.iload_n 2, 1) := by decide +kernel
theorem q_263_33 : js_I 263 33 = some (.iaload, 1) := by decide +kernel
theorem q_263_34 : js_I 263 34 = some (.if_icmp .ge 45, 3) := by decide +kernel
theorem q_263_37 : js_I 263 37 = some (.aload_n 0, 1) := by decide +kernel
theorem q_263_38 : js_I 263 38 = some (.getfield 389, 3) := by decide +kernel
theorem q_263_41 : js_I 263 41 = some (.iload_n 1, 1) := by decide +kernel
theorem q_263_42 : js_I 263 42 = some (.iload_n 3, 1) := by decide +kernel
theorem q_263_43 : js_I 263 43 = some (.iadd, 1) := by decide +kernel
theorem q_263_44 : js_I 263 44 = some (.aload_n 0, 1) := by decide +kernel
theorem q_263_45 : js_I 263 45 = some (.getfield 105, 3) := by decide +kernel
theorem q_263_48 : js_I 263 48 = some (.iload_n 2, 1) := by decide +kernel
theorem q_263_49 : js_I 263 49 = some (.iaload, 1) := by decide +kernel
theorem q_263_50 : js_I 263 50 = some (.ifCond .gt 12, 3) := by decide +kernel
theorem q_263_53 : js_I 263 53 = some (.aload_n 0, 1) := by decide +kernel
theorem q_263_54 : js_I 263 54 = some (.getfield 108, 3) := by decide +kernel
theorem q_263_57 : js_I 263 57 = some (.iload_n 2, 1) := by decide +kernel
theorem q_263_58 : js_I 263 58 = some (.iaload, 1) := by decide +kernel
theorem q_263_59 : js_I 263 59 = some (.ifCond .ge 12, 3) := by decide +kernel
theorem q_263_71 : js_I 263 71 = some (.iconst 0, 1) := by decide +kernel
theorem q_263_79 : js_I 263 79 = some (.iload_n 1, 1) := by decide +kernel
theorem q_263_80 : js_I 263 80 = some (.aload_n 0, 1) := by decide +kernel
theorem q_263_81 : js_I 263 81 = some (.getfield 114, 3) := by decide +kernel
theorem q_263_84 : js_I 263 84 = some (.iload_n 2, 1) := by decide +kernel
theorem q_263_85 : js_I 263 85 = some (.iaload, 1) := by decide +kernel
theorem q_263_86 : js_I 263 86 = some (.iadd, 1) := by decide +kernel
theorem q_263_87 : js_I 263 87 = some (.istore_n 1, 1) := by decide +kernel
theorem q_263_62 : js_I 263 62 = some (.aload_n 0, 1) := by decide +kernel
theorem q_263_63 : js_I 263 63 = some (.getfield 105, 3) := by decide +kernel
theorem q_263_66 : js_I 263 66 = some (.iload_n 2, 1) := by decide +kernel
theorem q_263_67 : js_I 263 67 = some (.iaload, 1) := by decide +kernel
theorem q_263_68 : js_I 263 68 = some (.goto 4, 3) := by decide +kernel
theorem q_263_72 : js_I 263 72 = some (.iastore, 1) := by decide +kernel
theorem q_263_73 : js_I 263 73 = some (.iinc 3 1, 3) := by decide +kernel
theorem q_263_76 : js_I 263 76 = some (.goto (-49), 3) := by decide +kernel
theorem q_263_88 : js_I 263 88 = some (.iinc 2 1, 3) := by decide +kernel
theorem q_263_91 : js_I 263 91 = some (.goto (-87), 3) := by decide +kernel
theorem q_264_0 : js_I 264 0 = some (.iconst 0, 1) := by decide +kernel
theorem q_264_1 : js_I 264 1 = some (.istore_n 1, 1) := by decide +kernel
theorem q_264_2 : js_I 264 2 = some (.iload_n 1, 1) := by decide +kernel
theorem q_264_3 : js_I 264 3 = some (.sipush 8192, 3) := by decide +kernel
theorem q_264_6 : js_I 264 6 = some (.if_icmp .ge 16, 3) := by decide +kernel
theorem q_264_9 : js_I 264 9 = some (.aload_n 0, 1) := by decide +kernel
theorem q_264_10 : js_I 264 10 = some (.getfield 374, 3) := by decide +kernel
theorem q_264_13 : js_I 264 13 = some (.iload_n 1, 1) := by decide +kernel
theorem q_264_14 : js_I 264 14 = some (.lconst 0, 1) := by decide +kernel
theorem q_264_15 : js_I 264 15 = some (.lastore, 1) := by decide +kernel
theorem q_264_16 : js_I 264 16 = some (.iinc 1 1, 3) := by decide +kernel
theorem q_264_19 : js_I 264 19 = some (.goto (-17), 3) := by decide +kernel
theorem q_264_22 : js_I 264 22 = some (.iconst 0, 1) := by decide +kernel
theorem q_264_23 : js_I 264 23 = some (.istore_n 1, 1) := by decide +kernel
theorem q_264_24 : js_I 264 24 = some (.iload_n 1, 1) := by decide +kernel
theorem q_264_25 : js_I 264 25 = some (.aload_n 0, 1) := by decide +kernel
theorem q_264_26 : js_I 264 26 = some (.getfield 86, 3) := by decide +kernel
theorem q_264_29 : js_I 264 29 = some (.if_icmp .ge 98, 3) := by decide +kernel
theorem q_264_32 : js_I 264 32 = some (.aload_n 0, 1) := by decide +kernel
theorem q_264_33 : js_I 264 33 = some (.getfield 99, 3) := by decide +kernel
theorem q_264_36 : js_I 264 36 = some (.iload_n 1, 1) := by decide +kernel
theorem q_264_37 : js_I 264 37 = some (.iaload, 1) := by decide +kernel
theorem q_264_38 : js_I 264 38 = some (.iconst 2, 1) := by decide +kernel
theorem q_264_39 : js_I 264 39 = some (.if_icmp .eq 16, 3) := by decide +kernel
theorem q_264_42 : js_I 264 42 = some (.aload_n 0, 1) := by decide +kernel
theorem q_264_43 : js_I 264 43 = some (.getfield 99, 3) := by decide +kernel
theorem q_264_46 : js_I 264 46 = some (.iload_n 1, 1) := by decide +kernel
theorem q_264_47 : js_I 264 47 = some (.iaload, 1) := by decide +kernel
theorem q_264_48 : js_I 264 48 = some (.iconst 3, 1) := by decide +kernel
theorem q_264_49 : js_I 264 49 = some (.if_icmp .eq 6, 3) := by decide +kernel
theorem q_264_52 : js_I 264 52 = some (.goto 69, 3) := by decide +kernel
theorem q_264_127 : js_I 264 127 = some (.iconst 0, 1) := by decide +kernel
theorem q_264_128 : js_I 264 128 = some (.istore_n 1, 1) := by decide +kernel
theorem q_264_55 : js_I 264 55 = some (.iconst 0, 1) := by decide +kernel
theorem q_264_56 : js_I 264 56 = some (.istore_n 2, 1) := by decide +kernel
theorem q_264_57 : js_I 264 57 = some (.iload_n 2, 1) := by decide +kernel
theorem q_264_58 : js_I 264 58 = some (.aload_n 0, 1) := by decide +kernel
theorem q_264_59 : js_I 264 59 = some (.getfield 114, 3) := by decide +kernel
theorem q_264_62 : js_I 264 62 = some (.iload_n 1, 1) := by decide +kernel
theorem q_264_63 : js_I 264 63 = some (.iaload, 1) := by decide +kernel
theorem q_264_64 : js_I 264 64 = some (.if_icmp .ge 57, 3) := by decide +kernel
theorem q_264_67 : js_I 264 67 = some (.aload_n 0, 1) := by decide +kernel
theorem q_264_68 : js_I 264 68 = some (.getfield 374, 3) := by decide +kernel
theorem q_264_71 : js_I 264 71 = some (.aload_n 0, 1) := by decide +kernel
theorem q_264_72 : js_I 264 72 = some (.getfield 111, 3) := by decide +kernel
theorem q_264_75 : js_I 264 75 = some (.iload_n 1, 1) := by decide +kernel
theorem q_264_76 : js_I 264 76 = some (.iaload, 1) := by decide +kernel
theorem q_264_77 : js_I 264 77 = some (.iload_n 2, 1) := by decide +kernel
theorem q_264_78 : js_I 264 78 = some (.iadd, 1) := by decide +kernel
theorem q_264_79 : js_I 264 79 = some (.aload_n 0, 1) := by decide +kernel
theorem q_264_80 : js_I 264 80 = some (.getfield 126, 3) := by decide +kernel
theorem q_264_83 : js_I 264 83 = some (.iload_n 1, 1) := by decide +kernel
theorem q_264_84 : js_I 264 84 = some (.iaload, 1) := by decide +kernel
theorem q_264_85 : js_I 264 85 = some (.i2l, 1) := by decide +kernel
theorem q_264_86 : js_I 264 86 = some (.lastore, 1) := by decide +kernel
theorem q_264_87 : js_I 264 87 = some (.aload_n 0, 1) := by decide +kernel
theorem q_264_88 : js_I 264 88 = some (.getfield 374, 3) := by decide +kernel
theorem q_264_91 : js_I 264 91 = some (.sipush 4096, 3) := by decide +kernel
theorem q_264_94 : js_I 264 94 = some (.aload_n 0, 1) := by decide +kernel
theorem q_264_95 : js_I 264 95 = some (.getfield 111, 3) := by decide +kernel
theorem q_264_98 : js_I 264 98 = some (.iload_n 1, 1) := by decide +kernel
theorem q_264_99 : js_I 264 99 = some (.iaload, 1) := by decide +kernel
theorem q_264_100 : js_I 264 100 = some (.iadd, 1) := by decide +kernel
theorem q_264_101 : js_I 264 101 = some (.iload_n 2, 1) := by decide +kernel
theorem q_264_102 : js_I 264 102 = some (.iadd, 1) := by decide +kernel
theorem q_264_103 : js_I 264 103 = some (.ldc2_w 571, 3) := by decide +kernel
theorem q_264_106 : js_I 264 106 = some (.aload_n 0, 1) := by decide +kernel
theorem q_264_107 : js_I 264 107 = some (.getfield 126, 3) := by decide +kernel
theorem q_264_110 : js_I 264 110 = some (.iload_n 1, 1) := by decide +kernel
theorem q_264_111 : js_I 264 111 = some (.iaload, 1) := by decide +kernel
theorem q_264_112 : js_I 264 112 = some (.i2l, 1) := by decide +kernel
theorem q_264_113 : js_I 264 113 = some (.lmul, 1) := by decide +kernel
theorem q_264_114 : js_I 264 114 = some (.lastore, 1) := by decide +kernel
theorem q_264_115 : js_I 264 115 = some (.iinc 2 1, 3) := by decide +kernel
theorem q_264_118 : js_I 264 118 = some (.goto (-61), 3) := by decide +kernel
theorem q_264_121 : js_I 264 121 = some (.iinc 1 1, 3) := by decide +kernel
theorem q_264_124 : js_I 264 124 = some (.goto (-100), 3) := by decide +kernel
theorem q_264_129 : js_I 264 129 = some (.iload_n 1, 1) := by decide +kernel
theorem q_264_130 : js_I 264 130 = some (.iconst 2, 1) := by decide +kernel
theorem q_264_131 : js_I 264 131 = some (.if_icmp .ge 30, 3) := by decide +kernel
theorem q_264_134 : js_I 264 134 = some (.aload_n 0, 1) := by decide +kernel
theorem q_264_135 : js_I 264 135 = some (.getfield 377, 3) := by decide +kernel
theorem q_264_138 : js_I 264 138 = some (.iload_n 1, 1) := by decide +kernel
theorem q_264_139 : js_I 264 139 = some (.lconst 0, 1) := by decide +kernel
theorem q_264_140 : js_I 264 140 = some (.lastore, 1) := by decide +kernel
theorem q_264_141 : js_I 264 141 = some (.aload_n 0, 1) := by decide +kernel
theorem q_264_142 : js_I 264 142 = some (.getfield 380, 3) := by decide +kernel
theorem q_264_145 : js_I 264 145 = some (.iload_n 1, 1) := by decide +kernel
theorem q_264_146 : js_I 264 146 = some (.lconst 0, 1) := by decide +kernel
theorem q_264_147 : js_I 264 147 = some (.lastore, 1) := by decide +kernel
theorem q_264_148 : js_I 264 148 = some (.aload_n 0, 1) := by decide +kernel
theorem q_264_149 : js_I 264 149 = some (.getfield 386, 3) := by decide +kernel
theorem q_264_152 : js_I 264 152 = some (.iload_n 1, 1) := by decide +kernel
theorem q_264_153 : js_I 264 153 = some (.iconst 0, 1) := by decide +kernel
theorem q_264_154 : js_I 264 154 = some (.iastore, 1) := by decide +kernel
theorem q_264_155 : js_I 264 155 = some (.iinc 1 1, 3) := by decide +kernel
theorem q_264_158 : js_I 264 158 = some (.goto (-29), 3) := by decide +kernel
theorem q_264_161 : js_I 264 161 = some (.aload_n 0, 1) := by decide +kernel
theorem q_264_162 : js_I 264 162 = some (.iconst 0, 1) := by decide +kernel
theorem q_264_163 : js_I 264 163 = some (.putfield 573, 3) := by decide +kernel
theorem q_264_166 : js_I 264 166 = some (.aload_n 0, 1) := by decide +kernel
theorem q_264_167 : js_I 264 167 = some (.iconst 0, 1) := by decide +kernel
theorem q_264_168 : js_I 264 168 = some (.putfield 576, 3) := by decide +kernel
theorem q_264_171 : js_I 264 171 = some (.aload_n 0, 1) := by decide +kernel
theorem q_264_172 : js_I 264 172 = some (.iconst 0, 1) := by decide +kernel
theorem q_264_173 : js_I 264 173 = some (.putfield 579, 3) := by decide +kernel
theorem q_264_176 : js_I 264 176 = some (.aload_n 0, 1) := by decide +kernel
theorem q_264_177 : js_I 264 177 = some (.iconst 0, 1) := by decide +kernel
theorem q_264_178 : js_I 264 178 = some (.putfield 582, 3) := by decide +kernel
theorem q_264_181 : js_I 264 181 = some (.aload_n 0, 1) := by decide +kernel
theorem q_264_182 : js_I 264 182 = some (.iconst 0, 1) := by decide +kernel
theorem q_264_183 : js_I 264 183 = some (.putfield 585, 3) := by decide +kernel
theorem q_264_186 : js_I 264 186 = some (.aload_n 0, 1) := by decide +kernel
theorem q_264_187 : js_I 264 187 = some (.iconst 0, 1) := by decide +kernel
theorem q_264_188 : js_I 264 188 = some (.putfield 588, 3) := by decide +kernel
theorem q_264_191 : js_I 264 191 = some (.aload_n 0, 1) := by decide +kernel
theorem q_264_192 : js_I 264 192 = some (.iconst 0, 1) := by decide +kernel
theorem q_264_193 : js_I 264 193 = some (.putfield 591, 3) := by decide +kernel
theorem q_264_196 : js_I 264 196 = some (.aload_n 0, 1) := by decide +kernel
theorem q_264_197 : js_I 264 197 = some (.iconst 0, 1) := by decide +kernel
theorem q_264_198 : js_I 264 198 = some (.putfield 594, 3) := by decide +kernel
theorem q_264_201 : js_I 264 201 = some (.return_, 1) := by decide +kernel
theorem q_265_0 : js_I 265 0 = some (.aload_n 0, 1) := by decide +kernel
theorem q_265_1 : js_I 265 1 = some (.iload_n 1, 1) := by decide +kernel
theorem q_265_2 : js_I 265 2 = some (.iconst 1, 1) := by decide +kernel
theorem q_265_3 : js_I 265 3 = some (.if_icmp .lt 10, 3) := by decide +kernel
theorem q_265_6 : js_I 265 6 = some (.iload_n 1, 1) := by decide +kernel
theorem q_265_7 : js_I 265 7 = some (.ldc_w 627, 3) := by decide +kernel
theorem q_265_10 : js_I 265 10 = some (.if_icmp .le 7, 3) := by decide +kernel
theorem q_265_17 : js_I 265 17 = some (.aload_n 0, 1) := by decide +kernel
theorem q_265_18 : js_I 265 18 = some (.getfield 464, 3) := by decide +kernel
theorem q_265_21 : js_I 265 21 = some (.ifCond .ne 7, 3) := by decide +kernel
theorem q_265_24 : js_I 265 24 = some (.iconst 2, 1) := by decide +kernel
theorem q_265_25 : js_I 265 25 = some (.goto 4, 3) := by decide +kernel
theorem q_265_28 : js_I 265 28 = some (.iconst 0, 1) := by decide +kernel
theorem q_265_13 : js_I 265 13 = some (.iconst 1, 1) := by decide +kernel
theorem q_265_14 : js_I 265 14 = some (.goto 15, 3) := by decide +kernel
theorem q_265_29 : js_I 265 29 = some (.putfield 3, 3) := by decide +kernel
theorem q_265_32 : js_I 265 32 = some (.aload_n 0, 1) := by decide +kernel
theorem q_265_33 : js_I 265 33 = some (.getfield 3, 3) := by decide +kernel
theorem q_265_36 : js_I 265 36 = some (.ifCond .gt 10, 3) := by decide +kernel
theorem q_265_46 : js_I 265 46 = some (.iconst 0, 1) := by decide +kernel
theorem q_265_47 : js_I 265 47 = some (.ireturn, 1) := by decide +kernel
theorem q_265_39 : js_I 265 39 = some (.aload_n 0, 1) := by decide +kernel
theorem q_265_40 : js_I 265 40 = some (.getfield 585, 3) := by decide +kernel
theorem q_265_43 : js_I 265 43 = some (.ifCond .le 5, 3) := by decide +kernel
theorem q_265_48 : js_I 265 48 = some (.aload_n 0, 1) := by decide +kernel
theorem q_265_49 : js_I 265 49 = some (.getfield 573, 3) := by decide +kernel
theorem q_265_52 : js_I 265 52 = some (.ifCond .ne 7, 3) := by decide +kernel
theorem q_265_55 : js_I 265 55 = some (.aload_n 0, 1) := by decide +kernel
theorem q_265_56 : js_I 265 56 = some (.invokevirtual 628, 3) := by decide +kernel
theorem q_265_59 : js_I 265 59 = some (.iconst 0, 1) := by decide +kernel
theorem q_265_60 : js_I 265 60 = some (.istore_n 2, 1) := by decide +kernel
theorem q_265_61 : js_I 265 61 = some (.iload_n 2, 1) := by decide +kernel
theorem q_265_62 : js_I 265 62 = some (.iload_n 1, 1) := by decide +kernel
theorem q_265_63 : js_I 265 63 = some (.if_icmp .ge 20, 3) := by decide +kernel
theorem q_265_66 : js_I 265 66 = some (.aload_n 0, 1) := by decide +kernel
theorem q_265_67 : js_I 265 67 = some (.getfield 573, 3) := by decide +kernel
theorem q_265_70 : js_I 265 70 = some (.ifCond .le 13, 3) := by decide +kernel
theorem q_265_73 : js_I 265 73 = some (.aload_n 0, 1) := by decide +kernel
theorem q_265_74 : js_I 265 74 = some (.invokevirtual 631, 3) := by decide +kernel
theorem q_265_83 : js_I 265 83 = some (.iload_n 2, 1) := by decide +kernel
theorem q_265_84 : js_I 265 84 = some (.ireturn, 1) := by decide +kernel
theorem q_265_77 : js_I 265 77 = some (.iinc 2 1, 3) := by decide +kernel
theorem q_265_80 : js_I 265 80 = some (.goto (-19), 3) := by decide +kernel
theorem q_266_0 : js_I 266 0 = some (.iconst 0, 1) := by decide +kernel
theorem q_266_1 : js_I 266 1 = some (.istore_n 1, 1) := by decide +kernel
theorem q_266_2 : js_I 266 2 = some (.iconst 0, 1) := by decide +kernel
theorem q_266_3 : js_I 266 3 = some (.istore_n 2, 1) := by decide +kernel
theorem q_266_4 : js_I 266 4 = some (.iload_n 2, 1) := by decide +kernel
theorem q_266_5 : js_I 266 5 = some (.aload_n 0, 1) := by decide +kernel
theorem q_266_6 : js_I 266 6 = some (.getfield 86, 3) := by decide +kernel
theorem q_266_9 : js_I 266 9 = some (.if_icmp .ge 91, 3) := by decide +kernel
theorem q_266_12 : js_I 266 12 = some (.aload_n 0, 1) := by decide +kernel
theorem q_266_13 : js_I 266 13 = some (.getfield 99, 3) := by decide +kernel
theorem q_266_16 : js_I 266 16 = some (.iload_n 2, 1) := by decide +kernel
theorem q_266_17 : js_I 266 17 = some (.iaload, 1) := by decide +kernel
theorem q_266_18 : js_I 266 18 = some (.iconst 1, 1) := by decide +kernel
theorem q_266_19 : js_I 266 19 = some (.if_icmp .eq 6, 3) := by decide +kernel
theorem q_266_25 : js_I 266 25 = some (.iconst 0, 1) := by decide +kernel
theorem q_266_26 : js_I 266 26 = some (.istore_n 3, 1) := by decide +kernel
theorem q_266_22 : js_I 266 22 = some (.goto 72, 3) := by decide +kernel
theorem q_266_100 : js_I 266 100 = some (.aload_n 0, 1) := by decide +kernel
theorem q_266_101 : js_I 266 101 = some (.iconst 0, 1) := by decide +kernel
theorem q_266_102 : js_I 266 102 = some (.putfield 579, 3) := by decide +kernel
theorem q_266_105 : js_I 266 105 = some (.aload_n 0, 1) := by decide +kernel
theorem q_266_106 : js_I 266 106 = some (.iconst 0, 1) := by decide +kernel
theorem q_266_107 : js_I 266 107 = some (.invokevirtual 600, 3) := by decide +kernel
theorem q_266_27 : js_I 266 27 = some (.iload_n 3, 1) := by decide +kernel
theorem q_266_28 : js_I 266 28 = some (.aload_n 0, 1) := by decide +kernel
theorem q_266_29 : js_I 266 29 = some (.getfield 114, 3) := by decide +kernel
theorem q_266_32 : js_I 266 32 = some (.iload_n 2, 1) := by decide +kernel
theorem q_266_33 : js_I 266 33 = some (.iaload, 1) := by decide +kernel
theorem q_266_34 : js_I 266 34 = some (.if_icmp .ge 60, 3) := by decide +kernel
theorem q_266_37 : js_I 266 37 = some (.aload_n 0, 1) := by decide +kernel
theorem q_266_38 : js_I 266 38 = some (.getfield 374, 3) := by decide +kernel
theorem q_266_41 : js_I 266 41 = some (.aload_n 0, 1) := by decide +kernel
theorem q_266_42 : js_I 266 42 = some (.getfield 111, 3) := by decide +kernel
theorem q_266_45 : js_I 266 45 = some (.iload_n 2, 1) := by decide +kernel
theorem q_266_46 : js_I 266 46 = some (.iaload, 1) := by decide +kernel
theorem q_266_47 : js_I 266 47 = some (.iload_n 3, 1) := by decide +kernel
theorem q_266_48 : js_I 266 48 = some (.iadd, 1) := by decide +kernel
theorem q_266_49 : js_I 266 49 = some (.aload_n 0, 1) := by decide +kernel
theorem q_266_50 : js_I 266 50 = some (.getfield 389, 3) := by decide +kernel
theorem q_266_53 : js_I 266 53 = some (.iload_n 1, 1) := by decide +kernel
theorem q_266_54 : js_I 266 54 = some (.iaload, 1) := by decide +kernel
theorem q_266_55 : js_I 266 55 = some (.i2l, 1) := by decide +kernel
theorem q_266_56 : js_I 266 56 = some (.lastore, 1) := by decide +kernel
theorem q_266_57 : js_I 266 57 = some (.aload_n 0, 1) := by decide +kernel
theorem q_266_58 : js_I 266 58 = some (.getfield 374, 3) := by decide +kernel
theorem q_266_61 : js_I 266 61 = some (.sipush 4096, 3) := by decide +kernel
theorem q_266_64 : js_I 266 64 = some (.aload_n 0, 1) := by decide +kernel
theorem q_266_65 : js_I 266 65 = some (.getfield 111, 3) := by decide +kernel
theorem q_266_68 : js_I 266 68 = some (.iload_n 2, 1) := by decide +kernel
theorem q_266_69 : js_I 266 69 = some (.iaload, 1) := by decide +kernel
theorem q_266_70 : js_I 266 70 = some (.iadd, 1) := by decide +kernel
theorem q_266_71 : js_I 266 71 = some (.iload_n 3, 1) := by decide +kernel
theorem q_266_72 : js_I 266 72 = some (.iadd, 1) := by decide +kernel
theorem q_266_73 : js_I 266 73 = some (.ldc2_w 571, 3) := by decide +kernel
theorem q_266_76 : js_I 266 76 = some (.aload_n 0, 1) := by decide +kernel
theorem q_266_77 : js_I 266 77 = some (.getfield 389, 3) := by decide +kernel
theorem q_266_80 : js_I 266 80 = some (.iload_n 1, 1) := by decide +kernel
theorem q_266_81 : js_I 266 81 = some (.iaload, 1) := by decide +kernel
theorem q_266_82 : js_I 266 82 = some (.i2l, 1) := by decide +kernel
theorem q_266_83 : js_I 266 83 = some (.lmul, 1) := by decide +kernel
theorem q_266_84 : js_I 266 84 = some (.lastore, 1) := by decide +kernel
theorem q_266_85 : js_I 266 85 = some (.iinc 1 1, 3) := by decide +kernel
theorem q_266_88 : js_I 266 88 = some (.iinc 3 1, 3) := by decide +kernel
theorem q_266_91 : js_I 266 91 = some (.goto (-64), 3) := by decide +kernel
theorem q_266_94 : js_I 266 94 = some (.iinc 2 1, 3) := by decide +kernel
theorem q_266_97 : js_I 266 97 = some (.goto (-93), 3) := by decide +kernel
theorem q_266_110 : js_I 266 110 = some (.return_, 1) := by decide +kernel
theorem q_267_0 : js_I 267 0 = some (.aload_n 0, 1) := by decide +kernel
theorem q_267_1 : js_I 267 1 = some (.iload_n 1, 1) := by decide +kernel
theorem q_267_2 : js_I 267 2 = some (.iconst 1, 1) := by decide +kernel
theorem q_267_3 : js_I 267 3 = some (.iadd, 1) := by decide +kernel
theorem q_267_4 : js_I 267 4 = some (.putfield 573, 3) := by decide +kernel
theorem q_267_7 : js_I 267 7 = some (.aload_n 0, 1) := by decide +kernel
theorem q_267_8 : js_I 267 8 = some (.aload_n 0, 1) := by decide +kernel
theorem q_267_9 : js_I 267 9 = some (.getfield 446, 3) := by decide +kernel
theorem q_267_12 : js_I 267 12 = some (.putfield 576, 3) := by decide +kernel
theorem q_267_15 : js_I 267 15 = some (.aload_n 0, 1) := by decide +kernel
theorem q_267_16 : js_I 267 16 = some (.iconst 0, 1) := by decide +kernel
theorem q_267_17 : js_I 267 17 = some (.putfield 582, 3) := by decide +kernel
theorem q_267_20 : js_I 267 20 = some (.aload_n 0, 1) := by decide +kernel
theorem q_267_21 : js_I 267 21 = some (.getfield 377, 3) := by decide +kernel
theorem q_267_24 : js_I 267 24 = some (.iload_n 1, 1) := by decide +kernel
theorem q_267_25 : js_I 267 25 = some (.lconst 0, 1) := by decide +kernel
theorem q_267_26 : js_I 267 26 = some (.lastore, 1) := by decide +kernel
theorem q_267_27 : js_I 267 27 = some (.aload_n 0, 1) := by decide +kernel
theorem q_267_28 : js_I 267 28 = some (.getfield 380, 3) := by decide +kernel
theorem q_267_31 : js_I 267 31 = some (.iload_n 1, 1) := by decide +kernel
theorem q_267_32 : js_I 267 32 = some (.lconst 0, 1) := by decide +kernel
theorem q_267_33 : js_I 267 33 = some (.lastore, 1) := by decide +kernel
theorem q_267_34 : js_I 267 34 = some (.aload_n 0, 1) := by decide +kernel
theorem q_267_35 : js_I 267 35 = some (.getfield 386, 3) := by decide +kernel
theorem q_267_38 : js_I 267 38 = some (.iload_n 1, 1) := by decide +kernel
theorem q_267_39 : js_I 267 39 = some (.iconst 0, 1) := by decide +kernel
theorem q_267_40 : js_I 267 40 = some (.iastore, 1) := by decide +kernel
theorem q_267_41 : js_I 267 41 = some (.return_, 1) := by decide +kernel
theorem q_268_0 : js_I 268 0 = some (.aload_n 0, 1) := by decide +kernel
theorem q_268_1 : js_I 268 1 = some (.getfield 573, 3) := by decide +kernel
theorem q_268_4 : js_I 268 4 = some (.iconst 1, 1) := by decide +kernel
theorem q_268_5 : js_I 268 5 = some (.isub, 1) := by decide +kernel
theorem q_268_6 : js_I 268 6 = some (.istore_n 1, 1) := by decide +kernel
theorem q_268_7 : js_I 268 7 = some (.aload_n 0, 1) := by decide +kernel
theorem q_268_8 : js_I 268 8 = some (.invokevirtual 617, 3) := by decide +kernel
theorem q_268_11 : js_I 268 11 = some (.aload_n 0, 1) := by decide +kernel
theorem q_268_12 : js_I 268 12 = some (.getfield 576, 3) := by decide +kernel
theorem q_268_15 : js_I 268 15 = some (.istore_n 2, 1) := by decide +kernel
theorem q_268_16 : js_I 268 16 = some (.aload_n 0, 1) := by decide +kernel
theorem q_268_17 : js_I 268 17 = some (.dup, 1) := by decide +kernel
theorem q_268_18 : js_I 268 18 = some (.getfield 576, 3) := by decide +kernel
theorem q_268_21 : js_I 268 21 = some (.iconst 1, 1) := by decide +kernel
theorem q_268_22 : js_I 268 22 = some (.iadd, 1) := by decide +kernel
theorem q_268_23 : js_I 268 23 = some (.putfield 576, 3) := by decide +kernel
theorem q_268_26 : js_I 268 26 = some (.aload_n 0, 1) := by decide +kernel
theorem q_268_27 : js_I 268 27 = some (.dup, 1) := by decide +kernel
theorem q_268_28 : js_I 268 28 = some (.getfield 579, 3) := by decide +kernel
theorem q_268_31 : js_I 268 31 = some (.iconst 1, 1) := by decide +kernel
theorem q_268_32 : js_I 268 32 = some (.iadd, 1) := by decide +kernel
theorem q_268_33 : js_I 268 33 = some (.putfield 579, 3) := by decide +kernel
theorem q_268_36 : js_I 268 36 = some (.aload_n 0, 1) := by decide +kernel
theorem q_268_37 : js_I 268 37 = some (.dup, 1) := by decide +kernel
theorem q_268_38 : js_I 268 38 = some (.getfield 582, 3) := by decide +kernel
theorem q_268_41 : js_I 268 41 = some (.iconst 1, 1) := by decide +kernel
theorem q_268_42 : js_I 268 42 = some (.iadd, 1) := by decide +kernel
theorem q_268_43 : js_I 268 43 = some (.putfield 582, 3) := by decide +kernel
theorem q_268_46 : js_I 268 46 = some (.aload_n 0, 1) := by decide +kernel
theorem q_268_47 : js_I 268 47 = some (.iload_n 1, 1) := by decide +kernel
theorem q_268_48 : js_I 268 48 = some (.aload_n 0, 1) := by decide +kernel
theorem q_268_49 : js_I 268 49 = some (.getfield 346, 3) := by decide +kernel
theorem q_268_52 : js_I 268 52 = some (.iload_n 2, 1) := by decide +kernel
theorem q_268_53 : js_I 268 53 = some (.iaload, 1) := by decide +kernel
theorem q_268_54 : js_I 268 54 = some (.aload_n 0, 1) := by decide +kernel
theorem q_268_55 : js_I 268 55 = some (.getfield 349, 3) := by decide +kernel
theorem q_268_58 : js_I 268 58 = some (.iload_n 2, 1) := by decide +kernel
theorem q_268_59 : js_I 268 59 = some (.iaload, 1) := by decide +kernel
theorem q_268_60 : js_I 268 60 = some (.aload_n 0, 1) := by decide +kernel
theorem q_268_61 : js_I 268 61 = some (.getfield 352, 3) := by decide +kernel
theorem q_268_64 : js_I 268 64 = some (.iload_n 2, 1) := by decide +kernel
theorem q_268_65 : js_I 268 65 = some (.iaload, 1) := by decide +kernel
theorem q_268_66 : js_I 268 66 = some (.invokevirtual 620, 3) := by decide +kernel
theorem q_268_69 : js_I 268 69 = some (.ifCond .ne 9, 3) := by decide +kernel
theorem q_268_72 : js_I 268 72 = some (.aload_n 0, 1) := by decide +kernel
theorem q_268_73 : js_I 268 73 = some (.iconst 1, 1) := by decide +kernel
theorem q_268_74 : js_I 268 74 = some (.invokevirtual 614, 3) := by decide +kernel
theorem q_268_78 : js_I 268 78 = some (.aload_n 0, 1) := by decide +kernel
theorem q_268_79 : js_I 268 79 = some (.getfield 346, 3) := by decide +kernel
theorem q_268_82 : js_I 268 82 = some (.iload_n 2, 1) := by decide +kernel
theorem q_268_83 : js_I 268 83 = some (.iaload, 1) := by decide +kernel
theorem q_268_84 : js_I 268 84 = some (.bipush 29, 2) := by decide +kernel
theorem q_268_86 : js_I 268 86 = some (.if_icmp .eq 20, 3) := by decide +kernel
theorem q_268_106 : js_I 268 106 = some (.iload_n 1, 1) := by decide +kernel
theorem q_268_107 : js_I 268 107 = some (.ifCond .ne 11, 3) := by decide +kernel
theorem q_268_110 : js_I 268 110 = some (.aload_n 0, 1) := by decide +kernel
theorem q_268_111 : js_I 268 111 = some (.iconst 1, 1) := by decide +kernel
theorem q_268_112 : js_I 268 112 = some (.invokevirtual 600, 3) := by decide +kernel
theorem q_268_118 : js_I 268 118 = some (.aload_n 0, 1) := by decide +kernel
theorem q_268_119 : js_I 268 119 = some (.invokevirtual 624, 3) := by decide +kernel
theorem q_268_89 : js_I 268 89 = some (.aload_n 0, 1) := by decide +kernel
theorem q_268_90 : js_I 268 90 = some (.getfield 582, 3) := by decide +kernel
theorem q_268_93 : js_I 268 93 = some (.aload_n 0, 1) := by decide +kernel
theorem q_268_94 : js_I 268 94 = some (.getfield 449, 3) := by decide +kernel
theorem q_268_97 : js_I 268 97 = some (.if_icmp .lt 8, 3) := by decide +kernel
theorem q_268_100 : js_I 268 100 = some (.aload_n 0, 1) := by decide +kernel
theorem q_268_101 : js_I 268 101 = some (.iconst 2, 1) := by decide +kernel
theorem q_268_102 : js_I 268 102 = some (.invokevirtual 614, 3) := by decide +kernel
theorem q_268_77 : js_I 268 77 = some (.return_, 1) := by decide +kernel
theorem q_268_105 : js_I 268 105 = some (.return_, 1) := by decide +kernel
theorem q_268_115 : js_I 268 115 = some (.goto 7, 3) := by decide +kernel
theorem q_268_122 : js_I 268 122 = some (.return_, 1) := by decide +kernel
theorem q_269_0 : js_I 269 0 = some (.iconst 0, 1) := by decide +kernel
theorem q_269_1 : js_I 269 1 = some (.istore_n 1, 1) := by decide +kernel
theorem q_269_2 : js_I 269 2 = some (.iload_n 1, 1) := by decide +kernel
theorem q_269_3 : js_I 269 3 = some (.aload_n 0, 1) := by decide +kernel
theorem q_269_4 : js_I 269 4 = some (.getfield 594, 3) := by decide +kernel
theorem q_269_7 : js_I 269 7 = some (.if_icmp .ge 127, 3) := by decide +kernel
theorem q_269_10 : js_I 269 10 = some (.aload_n 0, 1) := by decide +kernel
theorem q_269_11 : js_I 269 11 = some (.getfield 404, 3) := by decide +kernel
theorem q_269_14 : js_I 269 14 = some (.iload_n 1, 1) := by decide +kernel
theorem q_269_15 : js_I 269 15 = some (.iaload, 1) := by decide +kernel
theorem q_269_16 : js_I 269 16 = some (.aload_n 0, 1) := by decide +kernel
theorem q_269_17 : js_I 269 17 = some (.getfield 579, 3) := by decide +kernel
theorem q_269_20 : js_I 269 20 = some (.if_icmp .eq 6, 3) := by decide +kernel
theorem q_269_26 : js_I 269 26 = some (.aload_n 0, 1) := by decide +kernel
theorem q_269_27 : js_I 269 27 = some (.dup, 1) := by decide +kernel
theorem q_269_28 : js_I 269 28 = some (.getfield 591, 3) := by decide +kernel
theorem q_269_31 : js_I 269 31 = some (.iconst 1, 1) := by decide +kernel
theorem q_269_32 : js_I 269 32 = some (.iadd, 1) := by decide +kernel
theorem q_269_33 : js_I 269 33 = some (.putfield 591, 3) := by decide +kernel
theorem q_269_36 : js_I 269 36 = some (.lconst 1, 1) := by decide +kernel
theorem q_269_37 : js_I 269 37 = some (.aload_n 0, 1) := by decide +kernel
theorem q_269_38 : js_I 269 38 = some (.getfield 401, 3) := by decide +kernel
theorem q_269_41 : js_I 269 41 = some (.iload_n 1, 1) := by decide +kernel
theorem q_269_42 : js_I 269 42 = some (.iaload, 1) := by decide +kernel
theorem q_269_43 : js_I 269 43 = some (.lshl, 1) := by decide +kernel
theorem q_269_44 : js_I 269 44 = some (.lstore_n 2, 1) := by decide +kernel
theorem q_269_45 : js_I 269 45 = some (.aload_n 0, 1) := by decide +kernel
theorem q_269_46 : js_I 269 46 = some (.getfield 398, 3) := by decide +kernel
theorem q_269_49 : js_I 269 49 = some (.iload_n 1, 1) := by decide +kernel
theorem q_269_50 : js_I 269 50 = some (.iaload, 1) := by decide +kernel
theorem q_269_51 : js_I 269 51 = some (.iconst (-1), 1) := by decide +kernel
theorem q_269_52 : js_I 269 52 = some (.if_icmp .ne 21, 3) := by decide +kernel
theorem q_269_55 : js_I 269 55 = some (.aload_n 0, 1) := by decide +kernel
theorem q_269_56 : js_I 269 56 = some (.getfield 377, 3) := by decide +kernel
theorem q_269_59 : js_I 269 59 = some (.aload_n 0, 1) := by decide +kernel
theorem q_269_60 : js_I 269 60 = some (.getfield 395, 3) := by decide +kernel
theorem q_269_63 : js_I 269 63 = some (.iload_n 1, 1) := by decide +kernel
theorem q_269_64 : js_I 269 64 = some (.iaload, 1) := by decide +kernel
theorem q_269_65 : js_I 269 65 = some (.dup2, 1) := by decide +kernel
theorem q_269_66 : js_I 269 66 = some (.laload, 1) := by decide +kernel
theorem q_269_67 : js_I 269 67 = some (.lload_n 2, 1) := by decide +kernel
theorem q_269_68 : js_I 269 68 = some (.lxor, 1) := by decide +kernel
theorem q_269_69 : js_I 269 69 = some (.lastore, 1) := by decide +kernel
theorem q_269_70 : js_I 269 70 = some (.goto 58, 3) := by decide +kernel
theorem q_269_73 : js_I 269 73 = some (.aload_n 0, 1) := by decide +kernel
theorem q_269_74 : js_I 269 74 = some (.getfield 398, 3) := by decide +kernel
theorem q_269_77 : js_I 269 77 = some (.iload_n 1, 1) := by decide +kernel
theorem q_269_78 : js_I 269 78 = some (.iaload, 1) := by decide +kernel
theorem q_269_79 : js_I 269 79 = some (.bipush (-2), 2) := by decide +kernel
theorem q_269_81 : js_I 269 81 = some (.if_icmp .ne 21, 3) := by decide +kernel
theorem q_269_84 : js_I 269 84 = some (.aload_n 0, 1) := by decide +kernel
theorem q_269_85 : js_I 269 85 = some (.getfield 380, 3) := by decide +kernel
theorem q_269_88 : js_I 269 88 = some (.aload_n 0, 1) := by decide +kernel
theorem q_269_89 : js_I 269 89 = some (.getfield 395, 3) := by decide +kernel
theorem q_269_92 : js_I 269 92 = some (.iload_n 1, 1) := by decide +kernel
theorem q_269_93 : js_I 269 93 = some (.iaload, 1) := by decide +kernel
theorem q_269_94 : js_I 269 94 = some (.dup2, 1) := by decide +kernel
theorem q_269_95 : js_I 269 95 = some (.laload, 1) := by decide +kernel
theorem q_269_96 : js_I 269 96 = some (.lload_n 2, 1) := by decide +kernel
theorem q_269_97 : js_I 269 97 = some (.lxor, 1) := by decide +kernel
theorem q_269_98 : js_I 269 98 = some (.lastore, 1) := by decide +kernel
theorem q_269_99 : js_I 269 99 = some (.goto 29, 3) := by decide +kernel
theorem q_269_102 : js_I 269 102 = some (.aload_n 0, 1) := by decide +kernel
theorem q_269_103 : js_I 269 103 = some (.getfield 374, 3) := by decide +kernel
theorem q_269_106 : js_I 269 106 = some (.sipush 4096, 3) := by decide +kernel
theorem q_269_109 : js_I 269 109 = some (.aload_n 0, 1) := by decide +kernel
theorem q_269_110 : js_I 269 110 = some (.getfield 395, 3) := by decide +kernel
theorem q_269_113 : js_I 269 113 = some (.iload_n 1, 1) := by decide +kernel
theorem q_269_114 : js_I 269 114 = some (.iaload, 1) := by decide +kernel
theorem q_269_115 : js_I 269 115 = some (.imul, 1) := by decide +kernel
theorem q_269_116 : js_I 269 116 = some (.aload_n 0, 1) := by decide +kernel
theorem q_269_117 : js_I 269 117 = some (.getfield 398, 3) := by decide +kernel
theorem q_269_120 : js_I 269 120 = some (.iload_n 1, 1) := by decide +kernel
theorem q_269_121 : js_I 269 121 = some (.iaload, 1) := by decide +kernel
theorem q_269_122 : js_I 269 122 = some (.iadd, 1) := by decide +kernel
theorem q_269_123 : js_I 269 123 = some (.dup2, 1) := by decide +kernel
theorem q_269_124 : js_I 269 124 = some (.laload, 1) := by decide +kernel
theorem q_269_125 : js_I 269 125 = some (.lload_n 2, 1) := by decide +kernel
theorem q_269_126 : js_I 269 126 = some (.lxor, 1) := by decide +kernel
theorem q_269_127 : js_I 269 127 = some (.lastore, 1) := by decide +kernel
theorem q_269_23 : js_I 269 23 = some (.goto 105, 3) := by decide +kernel
theorem q_269_134 : js_I 269 134 = some (.return_, 1) := by decide +kernel
theorem q_269_128 : js_I 269 128 = some (.iinc 1 1, 3) := by decide +kernel
theorem q_269_131 : js_I 269 131 = some (.goto (-129), 3) := by decide +kernel
theorem qf_12_389 : ip_lk (vt_FL.getD 12 []) 389 = some (12, 76) := by decide +kernel
theorem qf_12_374 : ip_lk (vt_FL.getD 12 []) 374 = some (12, 71) := by decide +kernel
theorem qf_12_377 : ip_lk (vt_FL.getD 12 []) 377 = some (12, 72) := by decide +kernel
theorem qf_12_380 : ip_lk (vt_FL.getD 12 []) 380 = some (12, 73) := by decide +kernel
theorem qf_12_386 : ip_lk (vt_FL.getD 12 []) 386 = some (12, 75) := by decide +kernel
theorem qf_12_573 : ip_lk (vt_FL.getD 12 []) 573 = some (12, 77) := by decide +kernel
theorem qf_12_576 : ip_lk (vt_FL.getD 12 []) 576 = some (12, 78) := by decide +kernel
theorem qf_12_579 : ip_lk (vt_FL.getD 12 []) 579 = some (12, 79) := by decide +kernel
theorem qf_12_582 : ip_lk (vt_FL.getD 12 []) 582 = some (12, 80) := by decide +kernel
theorem qf_12_585 : ip_lk (vt_FL.getD 12 []) 585 = some (12, 81) := by decide +kernel
theorem qf_12_588 : ip_lk (vt_FL.getD 12 []) 588 = some (12, 82) := by decide +kernel
theorem qf_12_591 : ip_lk (vt_FL.getD 12 []) 591 = some (12, 83) := by decide +kernel
theorem qf_12_594 : ip_lk (vt_FL.getD 12 []) 594 = some (12, 85) := by decide +kernel
theorem qf_12_404 : ip_lk (vt_FL.getD 12 []) 404 = some (12, 89) := by decide +kernel
theorem qf_12_401 : ip_lk (vt_FL.getD 12 []) 401 = some (12, 88) := by decide +kernel
theorem qf_12_398 : ip_lk (vt_FL.getD 12 []) 398 = some (12, 87) := by decide +kernel
theorem qf_12_395 : ip_lk (vt_FL.getD 12 []) 395 = some (12, 86) := by decide +kernel
theorem qm_12_628 : ip_lk (vt_ML.getD 12 []) 628 = some (266, 0, 1, 12) := by decide +kernel
theorem qm_12_631 : ip_lk (vt_ML.getD 12 []) 631 = some (268, 0, 1, 12) := by decide +kernel
theorem qm_12_600 : ip_lk (vt_ML.getD 12 []) 600 = some (267, 1, 1, 12) := by decide +kernel
theorem qm_12_617 : ip_lk (vt_ML.getD 12 []) 617 = some (269, 0, 1, 12) := by decide +kernel
theorem qm_12_620 : ip_lk (vt_ML.getD 12 []) 620 = some (270, 4, 1, 12) := by decide +kernel
theorem qm_12_614 : ip_lk (vt_ML.getD 12 []) 614 = some (273, 1, 1, 12) := by decide +kernel
theorem qm_12_624 : ip_lk (vt_ML.getD 12 []) 624 = some (275, 0, 1, 12) := by decide +kernel
theorem qc_12_571 : ip_lk (vt_CL.getD 12 []) 571 = some (js_V (1, 58659)) := by decide +kernel
theorem qc_12_627 : ip_lk (vt_CL.getD 12 []) 627 = some (js_V (0, 200000)) := by decide +kernel
theorem ww_200000 : js_w 200000 = 200000 := by decide +kernel
theorem ww_29 : js_w 29 = 29 := by decide +kernel
theorem ww_m1 : js_w (-1) = (-1) := by decide +kernel
theorem ww_m2 : js_w (-2) = (-2) := by decide +kernel
-- 262: VitalTwinModel.bringBack ()V
theorem b_262_0 {E : js_E} {d : Nat} {σ : js_S} : js_J E d 262 0 [(2, 83), (9, 0)] [] σ = js_J E d 262 18 [(2, 83), (0, 0)] [] (js_up (js_up σ 83 11 (σ 83 65)) 83 49 (σ 83 66)) :=
  (j_aload_n q_262_0 rfl).trans <| (j_aload_n q_262_1 rfl).trans <| (j_get (ji := 65) (v := (0, σ 83 65)) q_262_2 (js_Fo qy_262 qf_12_425) js_o83 rfl rfl rfl rfl).trans <| (j_putI (ji := 11) q_262_5 (js_Fo qy_262 qf_12_86) rfl js_o83 rfl rfl rfl).trans <| (j_aload_n q_262_8 rfl).trans <| (j_aload_n q_262_9 rfl).trans <| (j_get (ji := 66) (v := (0, σ 83 66)) q_262_10 (js_Fo qy_262 qf_12_431) js_o83 rfl rfl rfl (congrArg (Prod.mk 0) ((js_up_ni _ (by decide))))).trans <| (j_putI (ji := 49) q_262_13 (js_Fo qy_262 qf_12_428) rfl js_o83 rfl rfl rfl).trans <| (j_iconst q_262_16).trans <| (j_istore_n (l2 := [(2, 83), (0, 0)]) q_262_17 rfl (Nat.le_of_ble_eq_true rfl)).trans <| rfl
theorem b_262_18 {E : js_E} {d : Nat} {σ : js_S} {x1 : Int} : js_J E d 262 18 [(2, 83), (0, x1)] [] σ = (if js_w x1 < js_w (σ 83 11) then (if 0 ≤ js_w x1 ∧ js_w x1 < 4800 then (if 0 ≤ js_w x1 ∧ js_w x1 < 400 then (if 0 ≤ js_w (400 + x1) ∧ js_w (400 + x1) < 4800 then (if 0 ≤ js_w (800 + x1) ∧ js_w (800 + x1) < 4800 then (if 0 ≤ js_w (1200 + x1) ∧ js_w (1200 + x1) < 4800 then (if 0 ≤ js_w (1600 + x1) ∧ js_w (1600 + x1) < 4800 then (if 0 ≤ js_w (2000 + x1) ∧ js_w (2000 + x1) < 4800 then (if 0 ≤ js_w (2400 + x1) ∧ js_w (2400 + x1) < 4800 then (if js_w (σ 116 (js_w (2400 + x1))) = 1 then js_J E d 262 142 [(2, 83), (0, x1)] [(0, 1), (0, x1), (2, 92)] (js_up (js_up (js_up (js_up (js_up (js_up σ 86 (js_w x1) (σ 116 (js_w x1))) 87 (js_w x1) (σ 116 (js_w (400 + x1)))) 88 (js_w x1) (σ 116 (js_w (800 + x1)))) 89 (js_w x1) (σ 116 (js_w (1200 + x1)))) 90 (js_w x1) (σ 116 (js_w (1600 + x1)))) 91 (js_w x1) (σ 116 (js_w (2000 + x1)))) else js_J E d 262 142 [(2, 83), (0, x1)] [(0, 0), (0, x1), (2, 92)] (js_up (js_up (js_up (js_up (js_up (js_up σ 86 (js_w x1) (σ 116 (js_w x1))) 87 (js_w x1) (σ 116 (js_w (400 + x1)))) 88 (js_w x1) (σ 116 (js_w (800 + x1)))) 89 (js_w x1) (σ 116 (js_w (1200 + x1)))) 90 (js_w x1) (σ 116 (js_w (1600 + x1)))) 91 (js_w x1) (σ 116 (js_w (2000 + x1))))) else none) else none) else none) else none) else none) else none) else none) else none) else js_J E d 262 215 [(2, 83), (0, 0)] [] σ) :=
  (j_iload_n q_262_18 rfl).trans <| (j_aload_n q_262_19 rfl).trans <| (j_get (ji := 11) (v := (0, σ 83 11)) q_262_20 (js_Fo qy_262 qf_12_86) js_o83 rfl rfl rfl rfl).trans <| (j_cmpge (t := 213) q_262_23 rfl).trans (js_ite ((j_aload_n q_262_26 rfl).trans <| (j_get (ji := 12) (v := (2, 86)) q_262_27 (js_Fo qy_262 qf_12_99) js_o83 rfl rfl rfl rfl).trans <| (j_iload_n q_262_30 rfl).trans <| (j_aload_n q_262_31 rfl).trans <| (j_get (ji := 67) (v := (2, 116)) q_262_32 (js_Fo qy_262 qf_12_362) js_o83 rfl rfl rfl rfl).trans <| (j_iload_n q_262_35 rfl).trans <| (j_iaload q_262_36 js_o116).trans <| js_itp fun g0 => (j_iastore q_262_37 js_o86).trans <| js_itp fun g1 => (j_aload_n q_262_38 rfl).trans <| (j_get (ji := 13) (v := (2, 87)) q_262_39 (js_Fo qy_262 qf_12_102) js_o83 rfl rfl rfl rfl).trans <| (j_iload_n q_262_42 rfl).trans <| (j_aload_n q_262_43 rfl).trans <| (j_get (ji := 67) (v := (2, 116)) q_262_44 (js_Fo qy_262 qf_12_362) js_o83 rfl rfl rfl rfl).trans <| (j_si q_262_47 rfl).trans <| (j_iload_n q_262_50 rfl).trans <| (j_iadd q_262_51).trans <| (j_ialoadv q_262_52 js_o116 ((js_up_na _ (by decide)))).trans <| js_itp fun g2 => (j_iastore q_262_53 js_o87).trans <| (if_pos g1).trans <| (j_aload_n q_262_54 rfl).trans <| (j_get (ji := 14) (v := (2, 88)) q_262_55 (js_Fo qy_262 qf_12_105) js_o83 rfl rfl rfl rfl).trans <| (j_iload_n q_262_58 rfl).trans <| (j_aload_n q_262_59 rfl).trans <| (j_get (ji := 67) (v := (2, 116)) q_262_60 (js_Fo qy_262 qf_12_362) js_o83 rfl rfl rfl rfl).trans <| (j_si q_262_63 rfl).trans <| (j_iload_n q_262_66 rfl).trans <| (j_iadd q_262_67).trans <| (j_ialoadv q_262_68 js_o116 ((js_up_na _ (by decide)).trans <| (js_up_na _ (by decide)))).trans <| js_itp fun g3 => (j_iastore q_262_69 js_o88).trans <| (if_pos g1).trans <| (j_aload_n q_262_70 rfl).trans <| (j_get (ji := 15) (v := (2, 89)) q_262_71 (js_Fo qy_262 qf_12_108) js_o83 rfl rfl rfl rfl).trans <| (j_iload_n q_262_74 rfl).trans <| (j_aload_n q_262_75 rfl).trans <| (j_get (ji := 67) (v := (2, 116)) q_262_76 (js_Fo qy_262 qf_12_362) js_o83 rfl rfl rfl rfl).trans <| (j_si q_262_79 rfl).trans <| (j_iload_n q_262_82 rfl).trans <| (j_iadd q_262_83).trans <| (j_ialoadv q_262_84 js_o116 ((js_up_na _ (by decide)).trans <| (js_up_na _ (by decide)).trans <| (js_up_na _ (by decide)))).trans <| js_itp fun g4 => (j_iastore q_262_85 js_o89).trans <| (if_pos g1).trans <| (j_aload_n q_262_86 rfl).trans <| (j_get (ji := 16) (v := (2, 90)) q_262_87 (js_Fo qy_262 qf_12_111) js_o83 rfl rfl rfl rfl).trans <| (j_iload_n q_262_90 rfl).trans <| (j_aload_n q_262_91 rfl).trans <| (j_get (ji := 67) (v := (2, 116)) q_262_92 (js_Fo qy_262 qf_12_362) js_o83 rfl rfl rfl rfl).trans <| (j_si q_262_95 rfl).trans <| (j_iload_n q_262_98 rfl).trans <| (j_iadd q_262_99).trans <| (j_ialoadv q_262_100 js_o116 ((js_up_na _ (by decide)).trans <| (js_up_na _ (by decide)).trans <| (js_up_na _ (by decide)).trans <| (js_up_na _ (by decide)))).trans <| js_itp fun g5 => (j_iastore q_262_101 js_o90).trans <| (if_pos g1).trans <| (j_aload_n q_262_102 rfl).trans <| (j_get (ji := 17) (v := (2, 91)) q_262_103 (js_Fo qy_262 qf_12_114) js_o83 rfl rfl rfl rfl).trans <| (j_iload_n q_262_106 rfl).trans <| (j_aload_n q_262_107 rfl).trans <| (j_get (ji := 67) (v := (2, 116)) q_262_108 (js_Fo qy_262 qf_12_362) js_o83 rfl rfl rfl rfl).trans <| (j_si q_262_111 rfl).trans <| (j_iload_n q_262_114 rfl).trans <| (j_iadd q_262_115).trans <| (j_ialoadv q_262_116 js_o116 ((js_up_na _ (by decide)).trans <| (js_up_na _ (by decide)).trans <| (js_up_na _ (by decide)).trans <| (js_up_na _ (by decide)).trans <| (js_up_na _ (by decide)))).trans <| js_itp fun g6 => (j_iastore q_262_117 js_o91).trans <| (if_pos g1).trans <| (j_aload_n q_262_118 rfl).trans <| (j_get (ji := 18) (v := (2, 92)) q_262_119 (js_Fo qy_262 qf_12_117) js_o83 rfl rfl rfl rfl).trans <| (j_iload_n q_262_122 rfl).trans <| (j_aload_n q_262_123 rfl).trans <| (j_get (ji := 67) (v := (2, 116)) q_262_124 (js_Fo qy_262 qf_12_362) js_o83 rfl rfl rfl rfl).trans <| (j_si q_262_127 rfl).trans <| (j_iload_n q_262_130 rfl).trans <| (j_iadd q_262_131).trans <| (j_ialoadv q_262_132 js_o116 ((js_up_na _ (by decide)).trans <| (js_up_na _ (by decide)).trans <| (js_up_na _ (by decide)).trans <| (js_up_na _ (by decide)).trans <| (js_up_na _ (by decide)).trans <| (js_up_na _ (by decide)))).trans <| js_itp fun g7 => (j_iconst q_262_133).trans <| (j_cmpneB (t := 141) q_262_134 rfl ww_1).trans (js_ite ((j_iconst q_262_137).trans <| (j_goto (t := 142) q_262_138 rfl).trans <| rfl) ((j_iconst q_262_141).trans <| rfl))) ((j_iconst q_262_213).trans <| (j_istore_n (l2 := [(2, 83), (0, 0)]) q_262_214 rfl (Nat.le_of_ble_eq_true rfl)).trans <| rfl))
theorem b_262_142 {E : js_E} {d : Nat} {σ : js_S} {x1 z1 z2 : Int} : js_J E d 262 142 [(2, 83), (0, x1)] [(0, z2), (0, z1), (2, 92)] σ = (if 0 ≤ js_w z1 ∧ js_w z1 < 400 then (if 0 ≤ js_w (2800 + x1) ∧ js_w (2800 + x1) < 4800 then (if 0 ≤ js_w x1 ∧ js_w x1 < 400 then (if 0 ≤ js_w (3200 + x1) ∧ js_w (3200 + x1) < 4800 then (if 0 ≤ js_w (3600 + x1) ∧ js_w (3600 + x1) < 4800 then (if 0 ≤ js_w (4000 + x1) ∧ js_w (4000 + x1) < 4800 then js_J E d 262 18 [(2, 83), (0, x1 + 1)] [] (js_up (js_up (js_up (js_up (js_up σ 92 (js_w z1) (js_iand z2 1)) 93 (js_w x1) (σ 116 (js_w (2800 + x1)))) 94 (js_w x1) (σ 116 (js_w (3200 + x1)))) 95 (js_w x1) (σ 116 (js_w (3600 + x1)))) 97 (js_w x1) (σ 116 (js_w (4000 + x1)))) else none) else none) else none) else none) else none) else none) :=
  (j_zastore q_262_142 js_o92).trans <| js_itp fun g0 => (j_aload_n q_262_143 rfl).trans <| (j_get (ji := 19) (v := (2, 93)) q_262_144 (js_Fo qy_262 qf_12_120) js_o83 rfl rfl rfl rfl).trans <| (j_iload_n q_262_147 rfl).trans <| (j_aload_n q_262_148 rfl).trans <| (j_get (ji := 67) (v := (2, 116)) q_262_149 (js_Fo qy_262 qf_12_362) js_o83 rfl rfl rfl rfl).trans <| (j_si q_262_152 rfl).trans <| (j_iload_n q_262_155 rfl).trans <| (j_iadd q_262_156).trans <| (j_ialoadv q_262_157 js_o116 ((js_up_na _ (by decide)))).trans <| js_itp fun g1 => (j_iastore q_262_158 js_o93).trans <| js_itp fun g2 => (j_aload_n q_262_159 rfl).trans <| (j_get (ji := 20) (v := (2, 94)) q_262_160 (js_Fo qy_262 qf_12_126) js_o83 rfl rfl rfl rfl).trans <| (j_iload_n q_262_163 rfl).trans <| (j_aload_n q_262_164 rfl).trans <| (j_get (ji := 67) (v := (2, 116)) q_262_165 (js_Fo qy_262 qf_12_362) js_o83 rfl rfl rfl rfl).trans <| (j_si q_262_168 rfl).trans <| (j_iload_n q_262_171 rfl).trans <| (j_iadd q_262_172).trans <| (j_ialoadv q_262_173 js_o116 ((js_up_na _ (by decide)).trans <| (js_up_na _ (by decide)))).trans <| js_itp fun g3 => (j_iastore q_262_174 js_o94).trans <| (if_pos g2).trans <| (j_aload_n q_262_175 rfl).trans <| (j_get (ji := 21) (v := (2, 95)) q_262_176 (js_Fo qy_262 qf_12_129) js_o83 rfl rfl rfl rfl).trans <| (j_iload_n q_262_179 rfl).trans <| (j_aload_n q_262_180 rfl).trans <| (j_get (ji := 67) (v := (2, 116)) q_262_181 (js_Fo qy_262 qf_12_362) js_o83 rfl rfl rfl rfl).trans <| (j_si q_262_184 rfl).trans <| (j_iload_n q_262_187 rfl).trans <| (j_iadd q_262_188).trans <| (j_ialoadv q_262_189 js_o116 ((js_up_na _ (by decide)).trans <| (js_up_na _ (by decide)).trans <| (js_up_na _ (by decide)))).trans <| js_itp fun g4 => (j_iastore q_262_190 js_o95).trans <| (if_pos g2).trans <| (j_aload_n q_262_191 rfl).trans <| (j_get (ji := 23) (v := (2, 97)) q_262_192 (js_Fo qy_262 qf_12_79) js_o83 rfl rfl rfl rfl).trans <| (j_iload_n q_262_195 rfl).trans <| (j_aload_n q_262_196 rfl).trans <| (j_get (ji := 67) (v := (2, 116)) q_262_197 (js_Fo qy_262 qf_12_362) js_o83 rfl rfl rfl rfl).trans <| (j_si q_262_200 rfl).trans <| (j_iload_n q_262_203 rfl).trans <| (j_iadd q_262_204).trans <| (j_ialoadv q_262_205 js_o116 ((js_up_na _ (by decide)).trans <| (js_up_na _ (by decide)).trans <| (js_up_na _ (by decide)).trans <| (js_up_na _ (by decide)))).trans <| js_itp fun g5 => (j_iastore q_262_206 js_o97).trans <| (if_pos g2).trans <| (j_iinc (l2 := [(2, 83), (0, x1 + 1)]) q_262_207 rfl rfl).trans <| (j_goto (t := 18) q_262_210 rfl).trans <| rfl
theorem b_262_215 {E : js_E} {d : Nat} {σ : js_S} {x1 : Int} : js_J E d 262 215 [(2, 83), (0, x1)] [] σ = (if js_w x1 < js_w (20 * (σ 83 11)) then (if 0 ≤ js_w x1 ∧ js_w x1 < 8000 then js_J E d 262 215 [(2, 83), (0, x1 + 1)] [] (js_up σ 98 (js_w x1) (js_i2b (σ 117 (js_w x1)))) else none) else js_J E d 262 246 [(2, 83), (0, 0)] [] σ) :=
  (j_iload_n q_262_215 rfl).trans <| (j_bi q_262_216 rfl).trans <| (j_aload_n q_262_218 rfl).trans <| (j_get (ji := 11) (v := (0, σ 83 11)) q_262_219 (js_Fo qy_262 qf_12_86) js_o83 rfl rfl rfl rfl).trans <| (j_imul q_262_222).trans <| (j_cmpge (t := 244) q_262_223 rfl).trans (js_ite ((j_aload_n q_262_226 rfl).trans <| (j_get (ji := 24) (v := (2, 98)) q_262_227 (js_Fo qy_262 qf_12_83) js_o83 rfl rfl rfl rfl).trans <| (j_iload_n q_262_230 rfl).trans <| (j_aload_n q_262_231 rfl).trans <| (j_get (ji := 68) (v := (2, 117)) q_262_232 (js_Fo qy_262 qf_12_365) js_o83 rfl rfl rfl rfl).trans <| (j_iload_n q_262_235 rfl).trans <| (j_baload q_262_236 js_o117).trans <| js_itp fun g0 => (j_bastore q_262_237 js_o98).trans <| (if_pos g0).trans <| (j_iinc (l2 := [(2, 83), (0, x1 + 1)]) q_262_238 rfl rfl).trans <| (j_goto (t := 215) q_262_241 rfl).trans <| rfl) ((j_iconst q_262_244).trans <| (j_istore_n (l2 := [(2, 83), (0, 0)]) q_262_245 rfl (Nat.le_of_ble_eq_true rfl)).trans <| rfl))
theorem b_262_246 {E : js_E} {d : Nat} {σ : js_S} {x1 : Int} : js_J E d 262 246 [(2, 83), (0, x1)] [] σ = (if js_w x1 < js_w (σ 83 49) then (if 0 ≤ js_w x1 ∧ js_w x1 < 24576 then (if 0 ≤ js_w x1 ∧ js_w x1 < 8192 then (if 0 ≤ js_w (8192 + x1) ∧ js_w (8192 + x1) < 24576 then (if 0 ≤ js_w (16384 + x1) ∧ js_w (16384 + x1) < 24576 then (if 0 ≤ js_w x1 ∧ js_w x1 < 16384 then (if 0 ≤ js_w (8192 + x1) ∧ js_w (8192 + x1) < 16384 then js_J E d 262 246 [(2, 83), (0, x1 + 1)] [] (js_up (js_up (js_up (js_up (js_up σ 111 (js_w x1) (σ 118 (js_w x1))) 112 (js_w x1) (σ 118 (js_w (8192 + x1)))) 113 (js_w x1) (σ 118 (js_w (16384 + x1)))) 114 (js_w x1) (σ 119 (js_w x1))) 115 (js_w x1) (σ 119 (js_w (8192 + x1)))) else none) else none) else none) else none) else none) else none) else js_r0 E σ) :=
  (j_iload_n q_262_246 rfl).trans <| (j_aload_n q_262_247 rfl).trans <| (j_get (ji := 49) (v := (0, σ 83 49)) q_262_248 (js_Fo qy_262 qf_12_428) js_o83 rfl rfl rfl rfl).trans <| (j_cmpge (t := 332) q_262_251 rfl).trans (js_ite ((j_aload_n q_262_254 rfl).trans <| (j_get (ji := 59) (v := (2, 111)) q_262_255 (js_Fo qy_262 qf_12_346) js_o83 rfl rfl rfl rfl).trans <| (j_iload_n q_262_258 rfl).trans <| (j_aload_n q_262_259 rfl).trans <| (j_get (ji := 69) (v := (2, 118)) q_262_260 (js_Fo qy_262 qf_12_368) js_o83 rfl rfl rfl rfl).trans <| (j_iload_n q_262_263 rfl).trans <| (j_iaload q_262_264 js_o118).trans <| js_itp fun g0 => (j_iastore q_262_265 js_o111).trans <| js_itp fun g1 => (j_aload_n q_262_266 rfl).trans <| (j_get (ji := 60) (v := (2, 112)) q_262_267 (js_Fo qy_262 qf_12_349) js_o83 rfl rfl rfl rfl).trans <| (j_iload_n q_262_270 rfl).trans <| (j_aload_n q_262_271 rfl).trans <| (j_get (ji := 69) (v := (2, 118)) q_262_272 (js_Fo qy_262 qf_12_368) js_o83 rfl rfl rfl rfl).trans <| (j_si q_262_275 rfl).trans <| (j_iload_n q_262_278 rfl).trans <| (j_iadd q_262_279).trans <| (j_ialoadv q_262_280 js_o118 ((js_up_na _ (by decide)))).trans <| js_itp fun g2 => (j_iastore q_262_281 js_o112).trans <| (if_pos g1).trans <| (j_aload_n q_262_282 rfl).trans <| (j_get (ji := 61) (v := (2, 113)) q_262_283 (js_Fo qy_262 qf_12_352) js_o83 rfl rfl rfl rfl).trans <| (j_iload_n q_262_286 rfl).trans <| (j_aload_n q_262_287 rfl).trans <| (j_get (ji := 69) (v := (2, 118)) q_262_288 (js_Fo qy_262 qf_12_368) js_o83 rfl rfl rfl rfl).trans <| (j_si q_262_291 rfl).trans <| (j_iload_n q_262_294 rfl).trans <| (j_iadd q_262_295).trans <| (j_ialoadv q_262_296 js_o118 ((js_up_na _ (by decide)).trans <| (js_up_na _ (by decide)))).trans <| js_itp fun g3 => (j_iastore q_262_297 js_o113).trans <| (if_pos g1).trans <| (j_aload_n q_262_298 rfl).trans <| (j_get (ji := 62) (v := (2, 114)) q_262_299 (js_Fo qy_262 qf_12_355) js_o83 rfl rfl rfl rfl).trans <| (j_iload_n q_262_302 rfl).trans <| (j_aload_n q_262_303 rfl).trans <| (j_get (ji := 70) (v := (2, 119)) q_262_304 (js_Fo qy_262 qf_12_371) js_o83 rfl rfl rfl rfl).trans <| (j_iload_n q_262_307 rfl).trans <| (j_laloadv q_262_308 js_o119 ((js_up_na _ (by decide)).trans <| (js_up_na _ (by decide)).trans <| (js_up_na _ (by decide)))).trans <| js_itp fun g4 => (j_lastore q_262_309 js_o114).trans <| (if_pos g1).trans <| (j_aload_n q_262_310 rfl).trans <| (j_get (ji := 63) (v := (2, 115)) q_262_311 (js_Fo qy_262 qf_12_359) js_o83 rfl rfl rfl rfl).trans <| (j_iload_n q_262_314 rfl).trans <| (j_aload_n q_262_315 rfl).trans <| (j_get (ji := 70) (v := (2, 119)) q_262_316 (js_Fo qy_262 qf_12_371) js_o83 rfl rfl rfl rfl).trans <| (j_si q_262_319 rfl).trans <| (j_iload_n q_262_322 rfl).trans <| (j_iadd q_262_323).trans <| (j_laloadv q_262_324 js_o119 ((js_up_na _ (by decide)).trans <| (js_up_na _ (by decide)).trans <| (js_up_na _ (by decide)).trans <| (js_up_na _ (by decide)))).trans <| js_itp fun g5 => (j_lastore q_262_325 js_o115).trans <| (if_pos g1).trans <| (j_iinc (l2 := [(2, 83), (0, x1 + 1)]) q_262_326 rfl rfl).trans <| (j_goto (t := 246) q_262_329 rfl).trans <| rfl) (j_return q_262_332 qr_262))
-- 263: VitalTwinModel.firstGiven ()V
theorem b_263_0 {E : js_E} {d : Nat} {σ : js_S} : js_J E d 263 0 [(2, 83), (9, 0), (9, 0), (9, 0)] [] σ = js_J E d 263 4 [(2, 83), (0, 0), (0, 0), (9, 0)] [] σ :=
  (j_iconst q_263_0).trans <| (j_istore_n (l2 := [(2, 83), (0, 0), (9, 0), (9, 0)]) q_263_1 rfl (Nat.le_of_ble_eq_true rfl)).trans <| (j_iconst q_263_2).trans <| (j_istore_n (l2 := [(2, 83), (0, 0), (0, 0), (9, 0)]) q_263_3 rfl (Nat.le_of_ble_eq_true rfl)).trans <| rfl
theorem b_263_4 {E : js_E} {d : Nat} {σ : js_S} {x1 x2 : Int} {ux3 : js_v} : js_J E d 263 4 [(2, 83), (0, x1), (0, x2), ux3] [] σ = (if js_w x2 < js_w (σ 83 11) then (if 0 ≤ js_w x2 ∧ js_w x2 < 400 then (if js_w (σ 86 (js_w x2)) = 1 then js_J E d 263 27 [(2, 83), (0, x1), (0, x2), (0, 0)] [] σ else js_J E d 263 88 [(2, 83), (0, x1), (0, x2), ux3] [] σ) else none) else js_r0 E σ) :=
  (j_iload_n q_263_4 rfl).trans <| (j_aload_n q_263_5 rfl).trans <| (j_get (ji := 11) (v := (0, σ 83 11)) q_263_6 (js_Fo qy_263 qf_12_86) js_o83 rfl rfl rfl rfl).trans <| (j_cmpge (t := 94) q_263_9 rfl).trans (js_ite ((j_aload_n q_263_12 rfl).trans <| (j_get (ji := 12) (v := (2, 86)) q_263_13 (js_Fo qy_263 qf_12_99) js_o83 rfl rfl rfl rfl).trans <| (j_iload_n q_263_16 rfl).trans <| (j_iaload q_263_17 js_o86).trans <| js_itp fun g0 => (j_iconst q_263_18).trans <| (j_cmpeqB (t := 25) q_263_19 rfl ww_1).trans (js_ite ((j_iconst q_263_25).trans <| (j_istore_n (l2 := [(2, 83), (0, x1), (0, x2), (0, 0)]) q_263_26 rfl (Nat.le_of_ble_eq_true rfl)).trans <| rfl) ((j_goto (t := 88) q_263_22 rfl).trans <| rfl))) (j_return q_263_94 qr_263))
theorem b_263_27 {E : js_E} {d : Nat} {σ : js_S} {x1 x2 x3 : Int} : js_J E d 263 27 [(2, 83), (0, x1), (0, x2), (0, x3)] [] σ = (if 0 ≤ js_w x2 ∧ js_w x2 < 400 then (if js_w x3 < js_w (σ 91 (js_w x2)) then (if 0 < js_w (σ 88 (js_w x2)) then js_J E d 263 62 [(2, 83), (0, x1), (0, x2), (0, x3)] [(0, x1 + x3), (2, 125)] σ else (if js_w (σ 89 (js_w x2)) < 0 then js_J E d 263 62 [(2, 83), (0, x1), (0, x2), (0, x3)] [(0, x1 + x3), (2, 125)] σ else js_J E d 263 72 [(2, 83), (0, x1), (0, x2), (0, x3)] [(0, 0), (0, x1 + x3), (2, 125)] σ)) else js_J E d 263 88 [(2, 83), (0, x1 + (σ 91 (js_w x2))), (0, x2), (0, x3)] [] σ) else none) :=
  (j_iload_n q_263_27 rfl).trans <| (j_aload_n q_263_28 rfl).trans <| (j_get (ji := 17) (v := (2, 91)) q_263_29 (js_Fo qy_263 qf_12_114) js_o83 rfl rfl rfl rfl).trans <| (j_iload_n q_263_32 rfl).trans <| (j_iaload q_263_33 js_o91).trans <| js_itp fun g0 => (j_cmpge (t := 79) q_263_34 rfl).trans (js_ite ((j_aload_n q_263_37 rfl).trans <| (j_get (ji := 76) (v := (2, 125)) q_263_38 (js_Fo qy_263 qf_12_389) js_o83 rfl rfl rfl rfl).trans <| (j_iload_n q_263_41 rfl).trans <| (j_iload_n q_263_42 rfl).trans <| (j_iadd q_263_43).trans <| (j_aload_n q_263_44 rfl).trans <| (j_get (ji := 14) (v := (2, 88)) q_263_45 (js_Fo qy_263 qf_12_105) js_o83 rfl rfl rfl rfl).trans <| (j_iload_n q_263_48 rfl).trans <| (j_iaload q_263_49 js_o88).trans <| (if_pos g0).trans <| (j_ifgt (t := 62) q_263_50 rfl).trans (js_ite (rfl) ((j_aload_n q_263_53 rfl).trans <| (j_get (ji := 15) (v := (2, 89)) q_263_54 (js_Fo qy_263 qf_12_108) js_o83 rfl rfl rfl rfl).trans <| (j_iload_n q_263_57 rfl).trans <| (j_iaload q_263_58 js_o89).trans <| (if_pos g0).trans <| (j_ifge (t := 71) q_263_59 rfl).trans (js_ite (rfl) ((j_iconst q_263_71).trans <| rfl))))) ((j_iload_n q_263_79 rfl).trans <| (j_aload_n q_263_80 rfl).trans <| (j_get (ji := 17) (v := (2, 91)) q_263_81 (js_Fo qy_263 qf_12_114) js_o83 rfl rfl rfl rfl).trans <| (j_iload_n q_263_84 rfl).trans <| (j_iaload q_263_85 js_o91).trans <| (if_pos g0).trans <| (j_iadd q_263_86).trans <| (j_istore_n (l2 := [(2, 83), (0, x1 + (σ 91 (js_w x2))), (0, x2), (0, x3)]) q_263_87 rfl (Nat.le_of_ble_eq_true rfl)).trans <| rfl))
theorem b_263_62 {E : js_E} {d : Nat} {σ : js_S} {x1 x2 x3 z1 : Int} : js_J E d 263 62 [(2, 83), (0, x1), (0, x2), (0, x3)] [(0, z1), (2, 125)] σ = (if 0 ≤ js_w x2 ∧ js_w x2 < 400 then js_J E d 263 72 [(2, 83), (0, x1), (0, x2), (0, x3)] [(0, σ 88 (js_w x2)), (0, z1), (2, 125)] σ else none) :=
  (j_aload_n q_263_62 rfl).trans <| (j_get (ji := 14) (v := (2, 88)) q_263_63 (js_Fo qy_263 qf_12_105) js_o83 rfl rfl rfl rfl).trans <| (j_iload_n q_263_66 rfl).trans <| (j_iaload q_263_67 js_o88).trans <| js_itp fun g0 => (j_goto (t := 72) q_263_68 rfl).trans <| rfl
theorem b_263_72 {E : js_E} {d : Nat} {σ : js_S} {x1 x2 x3 z1 z2 : Int} : js_J E d 263 72 [(2, 83), (0, x1), (0, x2), (0, x3)] [(0, z2), (0, z1), (2, 125)] σ = (if 0 ≤ js_w z1 ∧ js_w z1 < 4096 then js_J E d 263 27 [(2, 83), (0, x1), (0, x2), (0, x3 + 1)] [] (js_up σ 125 (js_w z1) z2) else none) :=
  (j_iastore q_263_72 js_o125).trans <| js_itp fun g0 => (j_iinc (l2 := [(2, 83), (0, x1), (0, x2), (0, x3 + 1)]) q_263_73 rfl rfl).trans <| (j_goto (t := 27) q_263_76 rfl).trans <| rfl
theorem b_263_88 {E : js_E} {d : Nat} {σ : js_S} {x1 x2 : Int} {ux3 : js_v} : js_J E d 263 88 [(2, 83), (0, x1), (0, x2), ux3] [] σ = js_J E d 263 4 [(2, 83), (0, x1), (0, x2 + 1), ux3] [] σ :=
  (j_iinc (l2 := [(2, 83), (0, x1), (0, x2 + 1), ux3]) q_263_88 rfl rfl).trans <| (j_goto (t := 4) q_263_91 rfl).trans <| rfl
-- 264: VitalTwinModel.anew ()V
theorem b_264_0 {E : js_E} {d : Nat} {σ : js_S} : js_J E d 264 0 [(2, 83), (9, 0), (9, 0)] [] σ = js_J E d 264 2 [(2, 83), (0, 0), (9, 0)] [] σ :=
  (j_iconst q_264_0).trans <| (j_istore_n (l2 := [(2, 83), (0, 0), (9, 0)]) q_264_1 rfl (Nat.le_of_ble_eq_true rfl)).trans <| rfl
theorem b_264_2 {E : js_E} {d : Nat} {σ : js_S} {x1 : Int} : js_J E d 264 2 [(2, 83), (0, x1), (9, 0)] [] σ = (if js_w x1 < 8192 then (if 0 ≤ js_w x1 ∧ js_w x1 < 8192 then js_J E d 264 2 [(2, 83), (0, x1 + 1), (9, 0)] [] (js_up σ 120 (js_w x1) 0) else none) else js_J E d 264 24 [(2, 83), (0, 0), (9, 0)] [] σ) :=
  (j_iload_n q_264_2 rfl).trans <| (j_si q_264_3 rfl).trans <| (j_cmpgeB (t := 22) q_264_6 rfl ww_8192).trans (js_ite ((j_aload_n q_264_9 rfl).trans <| (j_get (ji := 71) (v := (2, 120)) q_264_10 (js_Fo qy_264 qf_12_374) js_o83 rfl rfl rfl rfl).trans <| (j_iload_n q_264_13 rfl).trans <| (j_lconst0 q_264_14).trans <| (j_lastore q_264_15 js_o120).trans <| js_itp fun g0 => (j_iinc (l2 := [(2, 83), (0, x1 + 1), (9, 0)]) q_264_16 rfl rfl).trans <| (j_goto (t := 2) q_264_19 rfl).trans <| rfl) ((j_iconst q_264_22).trans <| (j_istore_n (l2 := [(2, 83), (0, 0), (9, 0)]) q_264_23 rfl (Nat.le_of_ble_eq_true rfl)).trans <| rfl))
theorem b_264_24 {E : js_E} {d : Nat} {σ : js_S} {x1 : Int} {ux2 : js_v} : js_J E d 264 24 [(2, 83), (0, x1), ux2] [] σ = (if js_w x1 < js_w (σ 83 11) then (if 0 ≤ js_w x1 ∧ js_w x1 < 400 then (if js_w (σ 86 (js_w x1)) = 2 then js_J E d 264 55 [(2, 83), (0, x1), ux2] [] σ else (if js_w (σ 86 (js_w x1)) = 3 then js_J E d 264 55 [(2, 83), (0, x1), ux2] [] σ else js_J E d 264 121 [(2, 83), (0, x1), ux2] [] σ)) else none) else js_J E d 264 129 [(2, 83), (0, 0), ux2] [] σ) :=
  (j_iload_n q_264_24 rfl).trans <| (j_aload_n q_264_25 rfl).trans <| (j_get (ji := 11) (v := (0, σ 83 11)) q_264_26 (js_Fo qy_264 qf_12_86) js_o83 rfl rfl rfl rfl).trans <| (j_cmpge (t := 127) q_264_29 rfl).trans (js_ite ((j_aload_n q_264_32 rfl).trans <| (j_get (ji := 12) (v := (2, 86)) q_264_33 (js_Fo qy_264 qf_12_99) js_o83 rfl rfl rfl rfl).trans <| (j_iload_n q_264_36 rfl).trans <| (j_iaload q_264_37 js_o86).trans <| js_itp fun g0 => (j_iconst q_264_38).trans <| (j_cmpeqB (t := 55) q_264_39 rfl ww_2).trans (js_ite (rfl) ((j_aload_n q_264_42 rfl).trans <| (j_get (ji := 12) (v := (2, 86)) q_264_43 (js_Fo qy_264 qf_12_99) js_o83 rfl rfl rfl rfl).trans <| (j_iload_n q_264_46 rfl).trans <| (j_iaload q_264_47 js_o86).trans <| (if_pos g0).trans <| (j_iconst q_264_48).trans <| (j_cmpeqB (t := 55) q_264_49 rfl ww_3).trans (js_ite (rfl) ((j_goto (t := 121) q_264_52 rfl).trans <| rfl))))) ((j_iconst q_264_127).trans <| (j_istore_n (l2 := [(2, 83), (0, 0), ux2]) q_264_128 rfl (Nat.le_of_ble_eq_true rfl)).trans <| rfl))
theorem b_264_55 {E : js_E} {d : Nat} {σ : js_S} {x1 : Int} {ux2 : js_v} : js_J E d 264 55 [(2, 83), (0, x1), ux2] [] σ = js_J E d 264 57 [(2, 83), (0, x1), (0, 0)] [] σ :=
  (j_iconst q_264_55).trans <| (j_istore_n (l2 := [(2, 83), (0, x1), (0, 0)]) q_264_56 rfl (Nat.le_of_ble_eq_true rfl)).trans <| rfl
theorem b_264_57 {E : js_E} {d : Nat} {σ : js_S} {x1 x2 : Int} : js_J E d 264 57 [(2, 83), (0, x1), (0, x2)] [] σ = (if 0 ≤ js_w x1 ∧ js_w x1 < 400 then (if js_w x2 < js_w (σ 91 (js_w x1)) then (if 0 ≤ js_w ((σ 90 (js_w x1)) + x2) ∧ js_w ((σ 90 (js_w x1)) + x2) < 8192 then (if 0 ≤ js_w ((4096 + (σ 90 (js_w x1))) + x2) ∧ js_w ((4096 + (σ 90 (js_w x1))) + x2) < 8192 then js_J E d 264 57 [(2, 83), (0, x1), (0, x2 + 1)] [] (js_up (js_up σ 120 (js_w ((σ 90 (js_w x1)) + x2)) (js_w (σ 94 (js_w x1)))) 120 (js_w ((4096 + (σ 90 (js_w x1))) + x2)) (58659 * (js_w (σ 94 (js_w x1))))) else none) else none) else js_J E d 264 121 [(2, 83), (0, x1), (0, x2)] [] σ) else none) :=
  (j_iload_n q_264_57 rfl).trans <| (j_aload_n q_264_58 rfl).trans <| (j_get (ji := 17) (v := (2, 91)) q_264_59 (js_Fo qy_264 qf_12_114) js_o83 rfl rfl rfl rfl).trans <| (j_iload_n q_264_62 rfl).trans <| (j_iaload q_264_63 js_o91).trans <| js_itp fun g0 => (j_cmpge (t := 121) q_264_64 rfl).trans (js_ite ((j_aload_n q_264_67 rfl).trans <| (j_get (ji := 71) (v := (2, 120)) q_264_68 (js_Fo qy_264 qf_12_374) js_o83 rfl rfl rfl rfl).trans <| (j_aload_n q_264_71 rfl).trans <| (j_get (ji := 16) (v := (2, 90)) q_264_72 (js_Fo qy_264 qf_12_111) js_o83 rfl rfl rfl rfl).trans <| (j_iload_n q_264_75 rfl).trans <| (j_iaload q_264_76 js_o90).trans <| (if_pos g0).trans <| (j_iload_n q_264_77 rfl).trans <| (j_iadd q_264_78).trans <| (j_aload_n q_264_79 rfl).trans <| (j_get (ji := 20) (v := (2, 94)) q_264_80 (js_Fo qy_264 qf_12_126) js_o83 rfl rfl rfl rfl).trans <| (j_iload_n q_264_83 rfl).trans <| (j_iaload q_264_84 js_o94).trans <| (if_pos g0).trans <| (j_i2l q_264_85).trans <| (j_lastore q_264_86 js_o120).trans <| js_itp fun g1 => (j_aload_n q_264_87 rfl).trans <| (j_get (ji := 71) (v := (2, 120)) q_264_88 (js_Fo qy_264 qf_12_374) js_o83 rfl rfl rfl rfl).trans <| (j_si q_264_91 rfl).trans <| (j_aload_n q_264_94 rfl).trans <| (j_get (ji := 16) (v := (2, 90)) q_264_95 (js_Fo qy_264 qf_12_111) js_o83 rfl rfl rfl rfl).trans <| (j_iload_n q_264_98 rfl).trans <| (j_ialoadv q_264_99 js_o90 ((js_up_na _ (by decide)))).trans <| (if_pos g0).trans <| (j_iadd q_264_100).trans <| (j_iload_n q_264_101 rfl).trans <| (j_iadd q_264_102).trans <| (j_ldc2 (v := (1, 58659)) q_264_103 (js_Co qy_264 qc_12_571)).trans <| (j_aload_n q_264_106 rfl).trans <| (j_get (ji := 20) (v := (2, 94)) q_264_107 (js_Fo qy_264 qf_12_126) js_o83 rfl rfl rfl rfl).trans <| (j_iload_n q_264_110 rfl).trans <| (j_ialoadv q_264_111 js_o94 ((js_up_na _ (by decide)))).trans <| (if_pos g0).trans <| (j_i2l q_264_112).trans <| (j_lmul q_264_113).trans <| (j_lastore q_264_114 js_o120).trans <| js_itp fun g2 => (j_iinc (l2 := [(2, 83), (0, x1), (0, x2 + 1)]) q_264_115 rfl rfl).trans <| (j_goto (t := 57) q_264_118 rfl).trans <| rfl) (rfl))
theorem b_264_121 {E : js_E} {d : Nat} {σ : js_S} {x1 : Int} {ux2 : js_v} : js_J E d 264 121 [(2, 83), (0, x1), ux2] [] σ = js_J E d 264 24 [(2, 83), (0, x1 + 1), ux2] [] σ :=
  (j_iinc (l2 := [(2, 83), (0, x1 + 1), ux2]) q_264_121 rfl rfl).trans <| (j_goto (t := 24) q_264_124 rfl).trans <| rfl
theorem b_264_129 {E : js_E} {d : Nat} {σ : js_S} {x1 : Int} {ux2 : js_v} : js_J E d 264 129 [(2, 83), (0, x1), ux2] [] σ = (if js_w x1 < 2 then (if 0 ≤ js_w x1 ∧ js_w x1 < 2 then js_J E d 264 129 [(2, 83), (0, x1 + 1), ux2] [] (js_up (js_up (js_up σ 121 (js_w x1) 0) 122 (js_w x1) 0) 124 (js_w x1) 0) else none) else js_r0 E (js_up (js_up (js_up (js_up (js_up (js_up (js_up (js_up σ 83 77 0) 83 78 0) 83 79 0) 83 80 0) 83 81 0) 83 82 0) 83 83 0) 83 85 0)) :=
  (j_iload_n q_264_129 rfl).trans <| (j_iconst q_264_130).trans <| (j_cmpgeB (t := 161) q_264_131 rfl ww_2).trans (js_ite ((j_aload_n q_264_134 rfl).trans <| (j_get (ji := 72) (v := (2, 121)) q_264_135 (js_Fo qy_264 qf_12_377) js_o83 rfl rfl rfl rfl).trans <| (j_iload_n q_264_138 rfl).trans <| (j_lconst0 q_264_139).trans <| (j_lastore q_264_140 js_o121).trans <| js_itp fun g0 => (j_aload_n q_264_141 rfl).trans <| (j_get (ji := 73) (v := (2, 122)) q_264_142 (js_Fo qy_264 qf_12_380) js_o83 rfl rfl rfl rfl).trans <| (j_iload_n q_264_145 rfl).trans <| (j_lconst0 q_264_146).trans <| (j_lastore q_264_147 js_o122).trans <| (if_pos g0).trans <| (j_aload_n q_264_148 rfl).trans <| (j_get (ji := 75) (v := (2, 124)) q_264_149 (js_Fo qy_264 qf_12_386) js_o83 rfl rfl rfl rfl).trans <| (j_iload_n q_264_152 rfl).trans <| (j_iconst q_264_153).trans <| (j_iastore q_264_154 js_o124).trans <| (if_pos g0).trans <| (j_iinc (l2 := [(2, 83), (0, x1 + 1), ux2]) q_264_155 rfl rfl).trans <| (j_goto (t := 129) q_264_158 rfl).trans <| rfl) ((j_aload_n q_264_161 rfl).trans <| (j_iconst q_264_162).trans <| (j_putI (ji := 77) q_264_163 (js_Fo qy_264 qf_12_573) rfl js_o83 rfl rfl rfl).trans <| (j_aload_n q_264_166 rfl).trans <| (j_iconst q_264_167).trans <| (j_putI (ji := 78) q_264_168 (js_Fo qy_264 qf_12_576) rfl js_o83 rfl rfl rfl).trans <| (j_aload_n q_264_171 rfl).trans <| (j_iconst q_264_172).trans <| (j_putI (ji := 79) q_264_173 (js_Fo qy_264 qf_12_579) rfl js_o83 rfl rfl rfl).trans <| (j_aload_n q_264_176 rfl).trans <| (j_iconst q_264_177).trans <| (j_putI (ji := 80) q_264_178 (js_Fo qy_264 qf_12_582) rfl js_o83 rfl rfl rfl).trans <| (j_aload_n q_264_181 rfl).trans <| (j_iconst q_264_182).trans <| (j_putI (ji := 81) q_264_183 (js_Fo qy_264 qf_12_585) rfl js_o83 rfl rfl rfl).trans <| (j_aload_n q_264_186 rfl).trans <| (j_iconst q_264_187).trans <| (j_putI (ji := 82) q_264_188 (js_Fo qy_264 qf_12_588) rfl js_o83 rfl rfl rfl).trans <| (j_aload_n q_264_191 rfl).trans <| (j_iconst q_264_192).trans <| (j_putI (ji := 83) q_264_193 (js_Fo qy_264 qf_12_591) rfl js_o83 rfl rfl rfl).trans <| (j_aload_n q_264_196 rfl).trans <| (j_iconst q_264_197).trans <| (j_putI (ji := 85) q_264_198 (js_Fo qy_264 qf_12_594) rfl js_o83 rfl rfl rfl).trans <| j_return q_264_201 qr_264))
-- 265: VitalTwinModel.steps (I)I
theorem b_265_0 {E : js_E} {d : Nat} {σ : js_S} {x1 : Int} : js_J E d 265 0 [(2, 83), (0, x1), (9, 0)] [] σ = (if js_w x1 < 1 then js_J E d 265 13 [(2, 83), (0, x1), (9, 0)] [(2, 83)] σ else (if 200000 < js_w x1 then js_J E d 265 13 [(2, 83), (0, x1), (9, 0)] [(2, 83)] σ else (if js_w (σ 83 64) = 0 then js_J E d 265 29 [(2, 83), (0, x1), (9, 0)] [(0, 2), (2, 83)] σ else js_J E d 265 29 [(2, 83), (0, x1), (9, 0)] [(0, 0), (2, 83)] σ))) :=
  (j_aload_n q_265_0 rfl).trans <| (j_iload_n q_265_1 rfl).trans <| (j_iconst q_265_2).trans <| (j_cmpltB (t := 13) q_265_3 rfl ww_1).trans (js_ite (rfl) ((j_iload_n q_265_6 rfl).trans <| (j_ldc_w (v := (0, 200000)) q_265_7 (js_Co qy_265 qc_12_627)).trans <| (j_cmpleB (t := 17) q_265_10 rfl ww_200000).trans (js_ite (rfl) ((j_aload_n q_265_17 rfl).trans <| (j_get (ji := 64) (v := (0, σ 83 64)) q_265_18 (js_Fo qy_265 qf_12_464) js_o83 rfl rfl rfl rfl).trans <| (j_ifne (t := 28) q_265_21 rfl).trans (js_ite ((j_iconst q_265_24).trans <| (j_goto (t := 29) q_265_25 rfl).trans <| rfl) ((j_iconst q_265_28).trans <| rfl))))))
theorem b_265_13 {E : js_E} {d : Nat} {σ : js_S} {x1 : Int} : js_J E d 265 13 [(2, 83), (0, x1), (9, 0)] [(2, 83)] σ = js_J E d 265 29 [(2, 83), (0, x1), (9, 0)] [(0, 1), (2, 83)] σ :=
  (j_iconst q_265_13).trans <| (j_goto (t := 29) q_265_14 rfl).trans <| rfl
theorem b_265_29 {E : js_E} {d : Nat} {σ : js_S} {x1 z1 : Int} : js_J E d 265 29 [(2, 83), (0, x1), (9, 0)] [(0, z1), (2, 83)] σ = (if 0 < js_w z1 then js_r E (0, 0) (js_up σ 83 0 z1) else (if 0 < js_w (σ 83 81) then js_r E (0, 0) (js_up σ 83 0 z1) else (if js_w (σ 83 77) = 0 then js_J E d 265 56 [(2, 83), (0, x1), (9, 0)] [(2, 83)] (js_up σ 83 0 z1) else js_J E d 265 59 [(2, 83), (0, x1), (9, 0)] [] (js_up σ 83 0 z1)))) :=
  (j_putI (ji := 0) q_265_29 (js_Fo qy_265 qf_12_3) rfl js_o83 rfl rfl rfl).trans <| (j_aload_n q_265_32 rfl).trans <| (j_get (ji := 0) (v := (0, z1)) q_265_33 (js_Fo qy_265 qf_12_3) js_o83 rfl rfl rfl (congrArg (Prod.mk 0) ((js_up_same _ _ _ _)))).trans <| (j_ifgt (t := 46) q_265_36 rfl).trans (js_ite ((j_iconst q_265_46).trans <| j_ireturn q_265_47 qr_265) ((j_aload_n q_265_39 rfl).trans <| (j_get (ji := 81) (v := (0, σ 83 81)) q_265_40 (js_Fo qy_265 qf_12_585) js_o83 rfl rfl rfl (congrArg (Prod.mk 0) ((js_up_ni _ (by decide))))).trans <| (j_ifle (t := 48) q_265_43 rfl).trans (js_ite ((j_iconst q_265_46).trans <| j_ireturn q_265_47 qr_265) ((j_aload_n q_265_48 rfl).trans <| (j_get (ji := 77) (v := (0, σ 83 77)) q_265_49 (js_Fo qy_265 qf_12_573) js_o83 rfl rfl rfl (congrArg (Prod.mk 0) ((js_up_ni _ (by decide))))).trans <| (j_ifne (t := 59) q_265_52 rfl).trans (js_ite ((j_aload_n q_265_55 rfl).trans <| rfl) (rfl))))))
theorem k_265_56 {E : js_E} {d : Nat} {σ σ2 : js_S} {x1 : Int} (hd : 1 ≤ d) (hz : js_J E (d - 1) 266 0 [(2, 83), (9, 0), (9, 0), (9, 0)] [] σ = js_r0 E σ2) : js_J E d 265 56 [(2, 83), (0, x1), (9, 0)] [(2, 83)] σ = js_J E d 265 59 [(2, 83), (0, x1), (9, 0)] [] σ2 :=
  j_call0 (m := 3) (js_caV q_265_56 (js_Mo qy_265 qm_12_628)) (js_agV (av := []) (st := []) rfl rfl js_o83 rfl) rfl rfl (by rw [ql_266]; exact Nat.le_of_ble_eq_true rfl) (Nat.le_of_ble_eq_true rfl) hd hz
theorem b_265_59 {E : js_E} {d : Nat} {σ : js_S} {x1 : Int} : js_J E d 265 59 [(2, 83), (0, x1), (9, 0)] [] σ = js_J E d 265 61 [(2, 83), (0, x1), (0, 0)] [] σ :=
  (j_iconst q_265_59).trans <| (j_istore_n (l2 := [(2, 83), (0, x1), (0, 0)]) q_265_60 rfl (Nat.le_of_ble_eq_true rfl)).trans <| rfl
theorem b_265_61 {E : js_E} {d : Nat} {σ : js_S} {x1 x2 : Int} : js_J E d 265 61 [(2, 83), (0, x1), (0, x2)] [] σ = (if js_w x2 < js_w x1 then (if 0 < js_w (σ 83 77) then js_J E d 265 74 [(2, 83), (0, x1), (0, x2)] [(2, 83)] σ else js_r E (0, x2) σ) else js_r E (0, x2) σ) :=
  (j_iload_n q_265_61 rfl).trans <| (j_iload_n q_265_62 rfl).trans <| (j_cmpge (t := 83) q_265_63 rfl).trans (js_ite ((j_aload_n q_265_66 rfl).trans <| (j_get (ji := 77) (v := (0, σ 83 77)) q_265_67 (js_Fo qy_265 qf_12_573) js_o83 rfl rfl rfl rfl).trans <| (j_ifle (t := 83) q_265_70 rfl).trans (js_ite ((j_aload_n q_265_73 rfl).trans <| rfl) ((j_iload_n q_265_83 rfl).trans <| j_ireturn q_265_84 qr_265))) ((j_iload_n q_265_83 rfl).trans <| j_ireturn q_265_84 qr_265))
theorem k_265_74 {E : js_E} {d : Nat} {σ σ2 : js_S} {x1 x2 : Int} (hd : 1 ≤ d) (hz : js_J E (d - 1) 268 0 [(2, 83), (9, 0), (9, 0)] [] σ = js_r0 E σ2) : js_J E d 265 74 [(2, 83), (0, x1), (0, x2)] [(2, 83)] σ = js_J E d 265 77 [(2, 83), (0, x1), (0, x2)] [] σ2 :=
  j_call0 (m := 2) (js_caV q_265_74 (js_Mo qy_265 qm_12_631)) (js_agV (av := []) (st := []) rfl rfl js_o83 rfl) rfl rfl (by rw [ql_268]; exact Nat.le_of_ble_eq_true rfl) (Nat.le_of_ble_eq_true rfl) hd hz
theorem b_265_77 {E : js_E} {d : Nat} {σ : js_S} {x1 x2 : Int} : js_J E d 265 77 [(2, 83), (0, x1), (0, x2)] [] σ = js_J E d 265 61 [(2, 83), (0, x1), (0, x2 + 1)] [] σ :=
  (j_iinc (l2 := [(2, 83), (0, x1), (0, x2 + 1)]) q_265_77 rfl rfl).trans <| (j_goto (t := 61) q_265_80 rfl).trans <| rfl
-- 266: VitalTwinModel.cycleBegins ()V
theorem b_266_0 {E : js_E} {d : Nat} {σ : js_S} : js_J E d 266 0 [(2, 83), (9, 0), (9, 0), (9, 0)] [] σ = js_J E d 266 4 [(2, 83), (0, 0), (0, 0), (9, 0)] [] σ :=
  (j_iconst q_266_0).trans <| (j_istore_n (l2 := [(2, 83), (0, 0), (9, 0), (9, 0)]) q_266_1 rfl (Nat.le_of_ble_eq_true rfl)).trans <| (j_iconst q_266_2).trans <| (j_istore_n (l2 := [(2, 83), (0, 0), (0, 0), (9, 0)]) q_266_3 rfl (Nat.le_of_ble_eq_true rfl)).trans <| rfl
theorem b_266_4 {E : js_E} {d : Nat} {σ : js_S} {x1 x2 : Int} {ux3 : js_v} : js_J E d 266 4 [(2, 83), (0, x1), (0, x2), ux3] [] σ = (if js_w x2 < js_w (σ 83 11) then (if 0 ≤ js_w x2 ∧ js_w x2 < 400 then (if js_w (σ 86 (js_w x2)) = 1 then js_J E d 266 27 [(2, 83), (0, x1), (0, x2), (0, 0)] [] σ else js_J E d 266 94 [(2, 83), (0, x1), (0, x2), ux3] [] σ) else none) else js_J E d 266 107 [(2, 83), (0, x1), (0, x2), ux3] [(0, 0), (2, 83)] (js_up σ 83 79 0)) :=
  (j_iload_n q_266_4 rfl).trans <| (j_aload_n q_266_5 rfl).trans <| (j_get (ji := 11) (v := (0, σ 83 11)) q_266_6 (js_Fo qy_266 qf_12_86) js_o83 rfl rfl rfl rfl).trans <| (j_cmpge (t := 100) q_266_9 rfl).trans (js_ite ((j_aload_n q_266_12 rfl).trans <| (j_get (ji := 12) (v := (2, 86)) q_266_13 (js_Fo qy_266 qf_12_99) js_o83 rfl rfl rfl rfl).trans <| (j_iload_n q_266_16 rfl).trans <| (j_iaload q_266_17 js_o86).trans <| js_itp fun g0 => (j_iconst q_266_18).trans <| (j_cmpeqB (t := 25) q_266_19 rfl ww_1).trans (js_ite ((j_iconst q_266_25).trans <| (j_istore_n (l2 := [(2, 83), (0, x1), (0, x2), (0, 0)]) q_266_26 rfl (Nat.le_of_ble_eq_true rfl)).trans <| rfl) ((j_goto (t := 94) q_266_22 rfl).trans <| rfl))) ((j_aload_n q_266_100 rfl).trans <| (j_iconst q_266_101).trans <| (j_putI (ji := 79) q_266_102 (js_Fo qy_266 qf_12_579) rfl js_o83 rfl rfl rfl).trans <| (j_aload_n q_266_105 rfl).trans <| (j_iconst q_266_106).trans <| rfl))
theorem b_266_27 {E : js_E} {d : Nat} {σ : js_S} {x1 x2 x3 : Int} : js_J E d 266 27 [(2, 83), (0, x1), (0, x2), (0, x3)] [] σ = (if 0 ≤ js_w x2 ∧ js_w x2 < 400 then (if js_w x3 < js_w (σ 91 (js_w x2)) then (if 0 ≤ js_w x1 ∧ js_w x1 < 4096 then (if 0 ≤ js_w ((σ 90 (js_w x2)) + x3) ∧ js_w ((σ 90 (js_w x2)) + x3) < 8192 then (if 0 ≤ js_w ((4096 + (σ 90 (js_w x2))) + x3) ∧ js_w ((4096 + (σ 90 (js_w x2))) + x3) < 8192 then js_J E d 266 27 [(2, 83), (0, x1 + 1), (0, x2), (0, x3 + 1)] [] (js_up (js_up σ 120 (js_w ((σ 90 (js_w x2)) + x3)) (js_w (σ 125 (js_w x1)))) 120 (js_w ((4096 + (σ 90 (js_w x2))) + x3)) (58659 * (js_w (σ 125 (js_w x1))))) else none) else none) else none) else js_J E d 266 94 [(2, 83), (0, x1), (0, x2), (0, x3)] [] σ) else none) :=
  (j_iload_n q_266_27 rfl).trans <| (j_aload_n q_266_28 rfl).trans <| (j_get (ji := 17) (v := (2, 91)) q_266_29 (js_Fo qy_266 qf_12_114) js_o83 rfl rfl rfl rfl).trans <| (j_iload_n q_266_32 rfl).trans <| (j_iaload q_266_33 js_o91).trans <| js_itp fun g0 => (j_cmpge (t := 94) q_266_34 rfl).trans (js_ite ((j_aload_n q_266_37 rfl).trans <| (j_get (ji := 71) (v := (2, 120)) q_266_38 (js_Fo qy_266 qf_12_374) js_o83 rfl rfl rfl rfl).trans <| (j_aload_n q_266_41 rfl).trans <| (j_get (ji := 16) (v := (2, 90)) q_266_42 (js_Fo qy_266 qf_12_111) js_o83 rfl rfl rfl rfl).trans <| (j_iload_n q_266_45 rfl).trans <| (j_iaload q_266_46 js_o90).trans <| (if_pos g0).trans <| (j_iload_n q_266_47 rfl).trans <| (j_iadd q_266_48).trans <| (j_aload_n q_266_49 rfl).trans <| (j_get (ji := 76) (v := (2, 125)) q_266_50 (js_Fo qy_266 qf_12_389) js_o83 rfl rfl rfl rfl).trans <| (j_iload_n q_266_53 rfl).trans <| (j_iaload q_266_54 js_o125).trans <| js_itp fun g1 => (j_i2l q_266_55).trans <| (j_lastore q_266_56 js_o120).trans <| js_itp fun g2 => (j_aload_n q_266_57 rfl).trans <| (j_get (ji := 71) (v := (2, 120)) q_266_58 (js_Fo qy_266 qf_12_374) js_o83 rfl rfl rfl rfl).trans <| (j_si q_266_61 rfl).trans <| (j_aload_n q_266_64 rfl).trans <| (j_get (ji := 16) (v := (2, 90)) q_266_65 (js_Fo qy_266 qf_12_111) js_o83 rfl rfl rfl rfl).trans <| (j_iload_n q_266_68 rfl).trans <| (j_ialoadv q_266_69 js_o90 ((js_up_na _ (by decide)))).trans <| (if_pos g0).trans <| (j_iadd q_266_70).trans <| (j_iload_n q_266_71 rfl).trans <| (j_iadd q_266_72).trans <| (j_ldc2 (v := (1, 58659)) q_266_73 (js_Co qy_266 qc_12_571)).trans <| (j_aload_n q_266_76 rfl).trans <| (j_get (ji := 76) (v := (2, 125)) q_266_77 (js_Fo qy_266 qf_12_389) js_o83 rfl rfl rfl rfl).trans <| (j_iload_n q_266_80 rfl).trans <| (j_ialoadv q_266_81 js_o125 ((js_up_na _ (by decide)))).trans <| (if_pos g1).trans <| (j_i2l q_266_82).trans <| (j_lmul q_266_83).trans <| (j_lastore q_266_84 js_o120).trans <| js_itp fun g3 => (j_iinc (l2 := [(2, 83), (0, x1 + 1), (0, x2), (0, x3)]) q_266_85 rfl rfl).trans <| (j_iinc (l2 := [(2, 83), (0, x1 + 1), (0, x2), (0, x3 + 1)]) q_266_88 rfl rfl).trans <| (j_goto (t := 27) q_266_91 rfl).trans <| rfl) (rfl))
theorem b_266_94 {E : js_E} {d : Nat} {σ : js_S} {x1 x2 : Int} {ux3 : js_v} : js_J E d 266 94 [(2, 83), (0, x1), (0, x2), ux3] [] σ = js_J E d 266 4 [(2, 83), (0, x1), (0, x2 + 1), ux3] [] σ :=
  (j_iinc (l2 := [(2, 83), (0, x1), (0, x2 + 1), ux3]) q_266_94 rfl rfl).trans <| (j_goto (t := 4) q_266_97 rfl).trans <| rfl
theorem k_266_107 {E : js_E} {d : Nat} {σ σ2 : js_S} {x1 x2 z1 : Int} {ux3 : js_v} (hd : 1 ≤ d) (hz : js_J E (d - 1) 267 0 [(2, 83), (0, z1)] [] σ = js_r0 E σ2) : js_J E d 266 107 [(2, 83), (0, x1), (0, x2), ux3] [(0, z1), (2, 83)] σ = js_J E d 266 110 [(2, 83), (0, x1), (0, x2), ux3] [] σ2 :=
  j_call0 (m := 0) (js_caV q_266_107 (js_Mo qy_266 qm_12_600)) (js_agV (av := [(0, z1)]) (st := []) rfl rfl js_o83 rfl) rfl rfl (by rw [ql_267]; exact Nat.le_of_ble_eq_true rfl) (Nat.le_of_ble_eq_true rfl) hd hz
theorem b_266_110 {E : js_E} {d : Nat} {σ : js_S} {x1 x2 : Int} {ux3 : js_v} : js_J E d 266 110 [(2, 83), (0, x1), (0, x2), ux3] [] σ = js_r0 E σ :=
  j_return q_266_110 qr_266
-- 267: VitalTwinModel.copyBegins (I)V
theorem b_267_0 {E : js_E} {d : Nat} {σ : js_S} {x1 : Int} : js_J E d 267 0 [(2, 83), (0, x1)] [] σ = (if 0 ≤ js_w x1 ∧ js_w x1 < 2 then js_r0 E (js_up (js_up (js_up (js_up (js_up (js_up σ 83 77 (x1 + 1)) 83 78 (σ 83 50)) 83 80 0) 121 (js_w x1) 0) 122 (js_w x1) 0) 124 (js_w x1) 0) else none) :=
  (j_aload_n q_267_0 rfl).trans <| (j_iload_n q_267_1 rfl).trans <| (j_iconst q_267_2).trans <| (j_iadd q_267_3).trans <| (j_putI (ji := 77) q_267_4 (js_Fo qy_267 qf_12_573) rfl js_o83 rfl rfl rfl).trans <| (j_aload_n q_267_7 rfl).trans <| (j_aload_n q_267_8 rfl).trans <| (j_get (ji := 50) (v := (0, σ 83 50)) q_267_9 (js_Fo qy_267 qf_12_446) js_o83 rfl rfl rfl (congrArg (Prod.mk 0) ((js_up_ni _ (by decide))))).trans <| (j_putI (ji := 78) q_267_12 (js_Fo qy_267 qf_12_576) rfl js_o83 rfl rfl rfl).trans <| (j_aload_n q_267_15 rfl).trans <| (j_iconst q_267_16).trans <| (j_putI (ji := 80) q_267_17 (js_Fo qy_267 qf_12_582) rfl js_o83 rfl rfl rfl).trans <| (j_aload_n q_267_20 rfl).trans <| (j_get (ji := 72) (v := (2, 121)) q_267_21 (js_Fo qy_267 qf_12_377) js_o83 rfl rfl rfl rfl).trans <| (j_iload_n q_267_24 rfl).trans <| (j_lconst0 q_267_25).trans <| (j_lastore q_267_26 js_o121).trans <| js_itp fun g0 => (j_aload_n q_267_27 rfl).trans <| (j_get (ji := 73) (v := (2, 122)) q_267_28 (js_Fo qy_267 qf_12_380) js_o83 rfl rfl rfl rfl).trans <| (j_iload_n q_267_31 rfl).trans <| (j_lconst0 q_267_32).trans <| (j_lastore q_267_33 js_o122).trans <| (if_pos g0).trans <| (j_aload_n q_267_34 rfl).trans <| (j_get (ji := 75) (v := (2, 124)) q_267_35 (js_Fo qy_267 qf_12_386) js_o83 rfl rfl rfl rfl).trans <| (j_iload_n q_267_38 rfl).trans <| (j_iconst q_267_39).trans <| (j_iastore q_267_40 js_o124).trans <| (if_pos g0).trans <| j_return q_267_41 qr_267
-- 268: VitalTwinModel.step ()V
theorem b_268_0 {E : js_E} {d : Nat} {σ : js_S} : js_J E d 268 0 [(2, 83), (9, 0), (9, 0)] [] σ = js_J E d 268 8 [(2, 83), (0, (σ 83 77) - 1), (9, 0)] [(2, 83)] σ :=
  (j_aload_n q_268_0 rfl).trans <| (j_get (ji := 77) (v := (0, σ 83 77)) q_268_1 (js_Fo qy_268 qf_12_573) js_o83 rfl rfl rfl rfl).trans <| (j_iconst q_268_4).trans <| (j_isub q_268_5).trans <| (j_istore_n (l2 := [(2, 83), (0, (σ 83 77) - 1), (9, 0)]) q_268_6 rfl (Nat.le_of_ble_eq_true rfl)).trans <| (j_aload_n q_268_7 rfl).trans <| rfl
theorem k_268_8 {E : js_E} {d : Nat} {σ σ2 : js_S} {x1 : Int} (hd : 1 ≤ d) (hz : js_J E (d - 1) 269 0 [(2, 83), (9, 0), (9, 0), (9, 0)] [] σ = js_r0 E σ2) : js_J E d 268 8 [(2, 83), (0, x1), (9, 0)] [(2, 83)] σ = js_J E d 268 11 [(2, 83), (0, x1), (9, 0)] [] σ2 :=
  j_call0 (m := 3) (js_caV q_268_8 (js_Mo qy_268 qm_12_617)) (js_agV (av := []) (st := []) rfl rfl js_o83 rfl) rfl rfl (by rw [ql_269]; exact Nat.le_of_ble_eq_true rfl) (Nat.le_of_ble_eq_true rfl) hd hz
theorem b_268_11 {E : js_E} {d : Nat} {σ : js_S} {x1 : Int} : js_J E d 268 11 [(2, 83), (0, x1), (9, 0)] [] σ = (if 0 ≤ js_w (σ 83 78) ∧ js_w (σ 83 78) < 8192 then js_J E d 268 66 [(2, 83), (0, x1), (0, σ 83 78)] [(0, σ 113 (js_w (σ 83 78))), (0, σ 112 (js_w (σ 83 78))), (0, σ 111 (js_w (σ 83 78))), (0, x1), (2, 83)] (js_up (js_up (js_up σ 83 78 ((σ 83 78) + 1)) 83 79 ((σ 83 79) + 1)) 83 80 ((σ 83 80) + 1)) else none) :=
  (j_aload_n q_268_11 rfl).trans <| (j_get (ji := 78) (v := (0, σ 83 78)) q_268_12 (js_Fo qy_268 qf_12_576) js_o83 rfl rfl rfl rfl).trans <| (j_istore_n (l2 := [(2, 83), (0, x1), (0, σ 83 78)]) q_268_15 rfl (Nat.le_of_ble_eq_true rfl)).trans <| (j_aload_n q_268_16 rfl).trans <| (j_dupr q_268_17).trans <| (j_get (ji := 78) (v := (0, σ 83 78)) q_268_18 (js_Fo qy_268 qf_12_576) js_o83 rfl rfl rfl rfl).trans <| (j_iconst q_268_21).trans <| (j_iadd q_268_22).trans <| (j_putI (ji := 78) q_268_23 (js_Fo qy_268 qf_12_576) rfl js_o83 rfl rfl rfl).trans <| (j_aload_n q_268_26 rfl).trans <| (j_dupr q_268_27).trans <| (j_get (ji := 79) (v := (0, σ 83 79)) q_268_28 (js_Fo qy_268 qf_12_579) js_o83 rfl rfl rfl (congrArg (Prod.mk 0) ((js_up_ni _ (by decide))))).trans <| (j_iconst q_268_31).trans <| (j_iadd q_268_32).trans <| (j_putI (ji := 79) q_268_33 (js_Fo qy_268 qf_12_579) rfl js_o83 rfl rfl rfl).trans <| (j_aload_n q_268_36 rfl).trans <| (j_dupr q_268_37).trans <| (j_get (ji := 80) (v := (0, σ 83 80)) q_268_38 (js_Fo qy_268 qf_12_582) js_o83 rfl rfl rfl (congrArg (Prod.mk 0) ((js_up_ni _ (by decide)).trans <| (js_up_ni _ (by decide))))).trans <| (j_iconst q_268_41).trans <| (j_iadd q_268_42).trans <| (j_putI (ji := 80) q_268_43 (js_Fo qy_268 qf_12_582) rfl js_o83 rfl rfl rfl).trans <| (j_aload_n q_268_46 rfl).trans <| (j_iload_n q_268_47 rfl).trans <| (j_aload_n q_268_48 rfl).trans <| (j_get (ji := 59) (v := (2, 111)) q_268_49 (js_Fo qy_268 qf_12_346) js_o83 rfl rfl rfl rfl).trans <| (j_iload_n q_268_52 rfl).trans <| (j_ialoadv q_268_53 js_o111 ((js_up_na _ (by decide)).trans <| (js_up_na _ (by decide)).trans <| (js_up_na _ (by decide)))).trans <| js_itp fun g0 => (j_aload_n q_268_54 rfl).trans <| (j_get (ji := 60) (v := (2, 112)) q_268_55 (js_Fo qy_268 qf_12_349) js_o83 rfl rfl rfl rfl).trans <| (j_iload_n q_268_58 rfl).trans <| (j_ialoadv q_268_59 js_o112 ((js_up_na _ (by decide)).trans <| (js_up_na _ (by decide)).trans <| (js_up_na _ (by decide)))).trans <| (if_pos g0).trans <| (j_aload_n q_268_60 rfl).trans <| (j_get (ji := 61) (v := (2, 113)) q_268_61 (js_Fo qy_268 qf_12_352) js_o83 rfl rfl rfl rfl).trans <| (j_iload_n q_268_64 rfl).trans <| (j_ialoadv q_268_65 js_o113 ((js_up_na _ (by decide)).trans <| (js_up_na _ (by decide)).trans <| (js_up_na _ (by decide)))).trans <| (if_pos g0).trans <| rfl
theorem k_268_66 {E : js_E} {d : Nat} {σ σ2 : js_S} {x1 x2 z1 z2 z3 z4 : Int} {v : Int} (hd : 1 ≤ d) (hz : js_J E (d - 1) 270 0 [(2, 83), (0, z1), (0, z2), (0, z3), (0, z4), (9, 0), (9, 0), (9, 0), (9, 0), (9, 0), (9, 0), (9, 0), (9, 0)] [] σ = js_r E (0, v) σ2) : js_J E d 268 66 [(2, 83), (0, x1), (0, x2)] [(0, z4), (0, z3), (0, z2), (0, z1), (2, 83)] σ = js_J E d 268 69 [(2, 83), (0, x1), (0, x2)] [(0, v)] σ2 :=
  j_call (m := 8) (js_caV q_268_66 (js_Mo qy_268 qm_12_620)) (js_agV (av := [(0, z1), (0, z2), (0, z3), (0, z4)]) (st := []) rfl rfl js_o83 rfl) rfl rfl (by rw [ql_270]; exact Nat.le_of_ble_eq_true rfl) (Nat.le_of_ble_eq_true rfl) hd hz
theorem b_268_69 {E : js_E} {d : Nat} {σ : js_S} {x1 x2 z0 : Int} : js_J E d 268 69 [(2, 83), (0, x1), (0, x2)] [(0, z0)] σ = (if js_w z0 = 0 then js_J E d 268 74 [(2, 83), (0, x1), (0, x2)] [(0, 1), (2, 83)] σ else (if 0 ≤ js_w x2 ∧ js_w x2 < 8192 then (if js_w (σ 111 (js_w x2)) = 29 then (if js_w x1 = 0 then js_J E d 268 112 [(2, 83), (0, x1), (0, x2)] [(0, 1), (2, 83)] σ else js_J E d 268 119 [(2, 83), (0, x1), (0, x2)] [(2, 83)] σ) else (if js_w (σ 83 80) < js_w (σ 83 51) then js_J E d 268 105 [(2, 83), (0, x1), (0, x2)] [] σ else js_J E d 268 102 [(2, 83), (0, x1), (0, x2)] [(0, 2), (2, 83)] σ)) else none)) :=
  (j_ifne (t := 78) q_268_69 rfl).trans (js_ite ((j_aload_n q_268_72 rfl).trans <| (j_iconst q_268_73).trans <| rfl) ((j_aload_n q_268_78 rfl).trans <| (j_get (ji := 59) (v := (2, 111)) q_268_79 (js_Fo qy_268 qf_12_346) js_o83 rfl rfl rfl rfl).trans <| (j_iload_n q_268_82 rfl).trans <| (j_iaload q_268_83 js_o111).trans <| js_itp fun g0 => (j_bi q_268_84 rfl).trans <| (j_cmpeqB (t := 106) q_268_86 rfl ww_29).trans (js_ite ((j_iload_n q_268_106 rfl).trans <| (j_ifne (t := 118) q_268_107 rfl).trans (js_ite ((j_aload_n q_268_110 rfl).trans <| (j_iconst q_268_111).trans <| rfl) ((j_aload_n q_268_118 rfl).trans <| rfl))) ((j_aload_n q_268_89 rfl).trans <| (j_get (ji := 80) (v := (0, σ 83 80)) q_268_90 (js_Fo qy_268 qf_12_582) js_o83 rfl rfl rfl rfl).trans <| (j_aload_n q_268_93 rfl).trans <| (j_get (ji := 51) (v := (0, σ 83 51)) q_268_94 (js_Fo qy_268 qf_12_449) js_o83 rfl rfl rfl rfl).trans <| (j_cmplt (t := 105) q_268_97 rfl).trans (js_ite (rfl) ((j_aload_n q_268_100 rfl).trans <| (j_iconst q_268_101).trans <| rfl))))))
theorem k_268_74 {E : js_E} {d : Nat} {σ σ2 : js_S} {x1 x2 z1 : Int} (hd : 1 ≤ d) (hz : js_J E (d - 1) 273 0 [(2, 83), (0, z1)] [] σ = js_r0 E σ2) : js_J E d 268 74 [(2, 83), (0, x1), (0, x2)] [(0, z1), (2, 83)] σ = js_J E d 268 77 [(2, 83), (0, x1), (0, x2)] [] σ2 :=
  j_call0 (m := 0) (js_caV q_268_74 (js_Mo qy_268 qm_12_614)) (js_agV (av := [(0, z1)]) (st := []) rfl rfl js_o83 rfl) rfl rfl (by rw [ql_273]; exact Nat.le_of_ble_eq_true rfl) (Nat.le_of_ble_eq_true rfl) hd hz
theorem b_268_77 {E : js_E} {d : Nat} {σ : js_S} {x1 x2 : Int} : js_J E d 268 77 [(2, 83), (0, x1), (0, x2)] [] σ = js_r0 E σ :=
  j_return q_268_77 qr_268
theorem k_268_102 {E : js_E} {d : Nat} {σ σ2 : js_S} {x1 x2 z1 : Int} (hd : 1 ≤ d) (hz : js_J E (d - 1) 273 0 [(2, 83), (0, z1)] [] σ = js_r0 E σ2) : js_J E d 268 102 [(2, 83), (0, x1), (0, x2)] [(0, z1), (2, 83)] σ = js_J E d 268 105 [(2, 83), (0, x1), (0, x2)] [] σ2 :=
  j_call0 (m := 0) (js_caV q_268_102 (js_Mo qy_268 qm_12_614)) (js_agV (av := [(0, z1)]) (st := []) rfl rfl js_o83 rfl) rfl rfl (by rw [ql_273]; exact Nat.le_of_ble_eq_true rfl) (Nat.le_of_ble_eq_true rfl) hd hz
theorem b_268_105 {E : js_E} {d : Nat} {σ : js_S} {x1 x2 : Int} : js_J E d 268 105 [(2, 83), (0, x1), (0, x2)] [] σ = js_r0 E σ :=
  j_return q_268_105 qr_268
theorem k_268_112 {E : js_E} {d : Nat} {σ σ2 : js_S} {x1 x2 z1 : Int} (hd : 1 ≤ d) (hz : js_J E (d - 1) 267 0 [(2, 83), (0, z1)] [] σ = js_r0 E σ2) : js_J E d 268 112 [(2, 83), (0, x1), (0, x2)] [(0, z1), (2, 83)] σ = js_J E d 268 115 [(2, 83), (0, x1), (0, x2)] [] σ2 :=
  j_call0 (m := 0) (js_caV q_268_112 (js_Mo qy_268 qm_12_600)) (js_agV (av := [(0, z1)]) (st := []) rfl rfl js_o83 rfl) rfl rfl (by rw [ql_267]; exact Nat.le_of_ble_eq_true rfl) (Nat.le_of_ble_eq_true rfl) hd hz
theorem b_268_115 {E : js_E} {d : Nat} {σ : js_S} {x1 x2 : Int} : js_J E d 268 115 [(2, 83), (0, x1), (0, x2)] [] σ = js_J E d 268 122 [(2, 83), (0, x1), (0, x2)] [] σ :=
  (j_goto (t := 122) q_268_115 rfl).trans <| rfl
theorem k_268_119 {E : js_E} {d : Nat} {σ σ2 : js_S} {x1 x2 : Int} (hd : 1 ≤ d) (hz : js_J E (d - 1) 275 0 [(2, 83), (9, 0), (9, 0), (9, 0)] [] σ = js_r0 E σ2) : js_J E d 268 119 [(2, 83), (0, x1), (0, x2)] [(2, 83)] σ = js_J E d 268 122 [(2, 83), (0, x1), (0, x2)] [] σ2 :=
  j_call0 (m := 3) (js_caV q_268_119 (js_Mo qy_268 qm_12_624)) (js_agV (av := []) (st := []) rfl rfl js_o83 rfl) rfl rfl (by rw [ql_275]; exact Nat.le_of_ble_eq_true rfl) (Nat.le_of_ble_eq_true rfl) hd hz
theorem b_268_122 {E : js_E} {d : Nat} {σ : js_S} {x1 x2 : Int} : js_J E d 268 122 [(2, 83), (0, x1), (0, x2)] [] σ = js_r0 E σ :=
  j_return q_268_122 qr_268
-- 269: VitalTwinModel.flipAll ()V
theorem b_269_0 {E : js_E} {d : Nat} {σ : js_S} : js_J E d 269 0 [(2, 83), (9, 0), (9, 0), (9, 0)] [] σ = js_J E d 269 2 [(2, 83), (0, 0), (9, 0), (9, 0)] [] σ :=
  (j_iconst q_269_0).trans <| (j_istore_n (l2 := [(2, 83), (0, 0), (9, 0), (9, 0)]) q_269_1 rfl (Nat.le_of_ble_eq_true rfl)).trans <| rfl
theorem b_269_2 {E : js_E} {d : Nat} {σ : js_S} {x1 : Int} {ux2 : js_v} : js_J E d 269 2 [(2, 83), (0, x1), ux2, (9, 0)] [] σ = (if js_w x1 < js_w (σ 83 85) then (if 0 ≤ js_w x1 ∧ js_w x1 < 8 then (if js_w (σ 130 (js_w x1)) = js_w (σ 83 79) then (if js_w (σ 128 (js_w x1)) = (-1) then (if 0 ≤ js_w (σ 127 (js_w x1)) ∧ js_w (σ 127 (js_w x1)) < 2 then js_J E d 269 128 [(2, 83), (0, x1), (1, js_lshl 1 (σ 129 (js_w x1))), (9, 0)] [] (js_up (js_up σ 83 83 ((σ 83 83) + 1)) 121 (js_w (σ 127 (js_w x1))) (js_lxor (σ 121 (js_w (σ 127 (js_w x1)))) (js_lshl 1 (σ 129 (js_w x1))))) else none) else (if js_w (σ 128 (js_w x1)) = (-2) then (if 0 ≤ js_w (σ 127 (js_w x1)) ∧ js_w (σ 127 (js_w x1)) < 2 then js_J E d 269 128 [(2, 83), (0, x1), (1, js_lshl 1 (σ 129 (js_w x1))), (9, 0)] [] (js_up (js_up σ 83 83 ((σ 83 83) + 1)) 122 (js_w (σ 127 (js_w x1))) (js_lxor (σ 122 (js_w (σ 127 (js_w x1)))) (js_lshl 1 (σ 129 (js_w x1))))) else none) else (if 0 ≤ js_w ((4096 * (σ 127 (js_w x1))) + (σ 128 (js_w x1))) ∧ js_w ((4096 * (σ 127 (js_w x1))) + (σ 128 (js_w x1))) < 8192 then js_J E d 269 128 [(2, 83), (0, x1), (1, js_lshl 1 (σ 129 (js_w x1))), (9, 0)] [] (js_up (js_up σ 83 83 ((σ 83 83) + 1)) 120 (js_w ((4096 * (σ 127 (js_w x1))) + (σ 128 (js_w x1)))) (js_lxor (σ 120 (js_w ((4096 * (σ 127 (js_w x1))) + (σ 128 (js_w x1))))) (js_lshl 1 (σ 129 (js_w x1))))) else none))) else js_J E d 269 128 [(2, 83), (0, x1), ux2, (9, 0)] [] σ) else none) else js_r0 E σ) :=
  (j_iload_n q_269_2 rfl).trans <| (j_aload_n q_269_3 rfl).trans <| (j_get (ji := 85) (v := (0, σ 83 85)) q_269_4 (js_Fo qy_269 qf_12_594) js_o83 rfl rfl rfl rfl).trans <| (j_cmpge (t := 134) q_269_7 rfl).trans (js_ite ((j_aload_n q_269_10 rfl).trans <| (j_get (ji := 89) (v := (2, 130)) q_269_11 (js_Fo qy_269 qf_12_404) js_o83 rfl rfl rfl rfl).trans <| (j_iload_n q_269_14 rfl).trans <| (j_iaload q_269_15 js_o130).trans <| js_itp fun g0 => (j_aload_n q_269_16 rfl).trans <| (j_get (ji := 79) (v := (0, σ 83 79)) q_269_17 (js_Fo qy_269 qf_12_579) js_o83 rfl rfl rfl rfl).trans <| (j_cmpeq (t := 26) q_269_20 rfl).trans (js_ite ((j_aload_n q_269_26 rfl).trans <| (j_dupr q_269_27).trans <| (j_get (ji := 83) (v := (0, σ 83 83)) q_269_28 (js_Fo qy_269 qf_12_591) js_o83 rfl rfl rfl rfl).trans <| (j_iconst q_269_31).trans <| (j_iadd q_269_32).trans <| (j_putI (ji := 83) q_269_33 (js_Fo qy_269 qf_12_591) rfl js_o83 rfl rfl rfl).trans <| (j_lconst1 q_269_36).trans <| (j_aload_n q_269_37 rfl).trans <| (j_get (ji := 88) (v := (2, 129)) q_269_38 (js_Fo qy_269 qf_12_401) js_o83 rfl rfl rfl rfl).trans <| (j_iload_n q_269_41 rfl).trans <| (j_ialoadv q_269_42 js_o129 ((js_up_na _ (by decide)))).trans <| (if_pos g0).trans <| (j_lshl q_269_43).trans <| (j_lstore_n (l2 := [(2, 83), (0, x1), (1, js_lshl 1 (σ 129 (js_w x1))), (9, 0)]) q_269_44 rfl (Nat.le_of_ble_eq_true rfl)).trans <| (j_aload_n q_269_45 rfl).trans <| (j_get (ji := 87) (v := (2, 128)) q_269_46 (js_Fo qy_269 qf_12_398) js_o83 rfl rfl rfl rfl).trans <| (j_iload_n q_269_49 rfl).trans <| (j_ialoadv q_269_50 js_o128 ((js_up_na _ (by decide)))).trans <| (if_pos g0).trans <| (j_iconst q_269_51).trans <| (j_cmpneB (t := 73) q_269_52 rfl ww_m1).trans (js_ite ((j_aload_n q_269_55 rfl).trans <| (j_get (ji := 72) (v := (2, 121)) q_269_56 (js_Fo qy_269 qf_12_377) js_o83 rfl rfl rfl rfl).trans <| (j_aload_n q_269_59 rfl).trans <| (j_get (ji := 86) (v := (2, 127)) q_269_60 (js_Fo qy_269 qf_12_395) js_o83 rfl rfl rfl rfl).trans <| (j_iload_n q_269_63 rfl).trans <| (j_ialoadv q_269_64 js_o127 ((js_up_na _ (by decide)))).trans <| (if_pos g0).trans <| (j_dup2 q_269_65).trans <| (j_laloadv q_269_66 js_o121 ((js_up_na _ (by decide)))).trans <| js_itp fun g1 => (j_lload_n q_269_67 rfl).trans <| (j_lxor q_269_68).trans <| (j_lastore q_269_69 js_o121).trans <| (if_pos g1).trans <| (j_goto (t := 128) q_269_70 rfl).trans <| rfl) ((j_aload_n q_269_73 rfl).trans <| (j_get (ji := 87) (v := (2, 128)) q_269_74 (js_Fo qy_269 qf_12_398) js_o83 rfl rfl rfl rfl).trans <| (j_iload_n q_269_77 rfl).trans <| (j_ialoadv q_269_78 js_o128 ((js_up_na _ (by decide)))).trans <| (if_pos g0).trans <| (j_bi q_269_79 rfl).trans <| (j_cmpneB (t := 102) q_269_81 rfl ww_m2).trans (js_ite ((j_aload_n q_269_84 rfl).trans <| (j_get (ji := 73) (v := (2, 122)) q_269_85 (js_Fo qy_269 qf_12_380) js_o83 rfl rfl rfl rfl).trans <| (j_aload_n q_269_88 rfl).trans <| (j_get (ji := 86) (v := (2, 127)) q_269_89 (js_Fo qy_269 qf_12_395) js_o83 rfl rfl rfl rfl).trans <| (j_iload_n q_269_92 rfl).trans <| (j_ialoadv q_269_93 js_o127 ((js_up_na _ (by decide)))).trans <| (if_pos g0).trans <| (j_dup2 q_269_94).trans <| (j_laloadv q_269_95 js_o122 ((js_up_na _ (by decide)))).trans <| js_itp fun g1 => (j_lload_n q_269_96 rfl).trans <| (j_lxor q_269_97).trans <| (j_lastore q_269_98 js_o122).trans <| (if_pos g1).trans <| (j_goto (t := 128) q_269_99 rfl).trans <| rfl) ((j_aload_n q_269_102 rfl).trans <| (j_get (ji := 71) (v := (2, 120)) q_269_103 (js_Fo qy_269 qf_12_374) js_o83 rfl rfl rfl rfl).trans <| (j_si q_269_106 rfl).trans <| (j_aload_n q_269_109 rfl).trans <| (j_get (ji := 86) (v := (2, 127)) q_269_110 (js_Fo qy_269 qf_12_395) js_o83 rfl rfl rfl rfl).trans <| (j_iload_n q_269_113 rfl).trans <| (j_ialoadv q_269_114 js_o127 ((js_up_na _ (by decide)))).trans <| (if_pos g0).trans <| (j_imul q_269_115).trans <| (j_aload_n q_269_116 rfl).trans <| (j_get (ji := 87) (v := (2, 128)) q_269_117 (js_Fo qy_269 qf_12_398) js_o83 rfl rfl rfl rfl).trans <| (j_iload_n q_269_120 rfl).trans <| (j_ialoadv q_269_121 js_o128 ((js_up_na _ (by decide)))).trans <| (if_pos g0).trans <| (j_iadd q_269_122).trans <| (j_dup2 q_269_123).trans <| (j_laloadv q_269_124 js_o120 ((js_up_na _ (by decide)))).trans <| js_itp fun g1 => (j_lload_n q_269_125 rfl).trans <| (j_lxor q_269_126).trans <| (j_lastore q_269_127 js_o120).trans <| (if_pos g1).trans <| rfl))))) ((j_goto (t := 128) q_269_23 rfl).trans <| rfl))) (j_return q_269_134 qr_269))
theorem b_269_128 {E : js_E} {d : Nat} {σ : js_S} {x1 : Int} {ux2 : js_v} : js_J E d 269 128 [(2, 83), (0, x1), ux2, (9, 0)] [] σ = js_J E d 269 2 [(2, 83), (0, x1 + 1), ux2, (9, 0)] [] σ :=
  (j_iinc (l2 := [(2, 83), (0, x1 + 1), ux2, (9, 0)]) q_269_128 rfl rfl).trans <| (j_goto (t := 2) q_269_131 rfl).trans <| rfl
