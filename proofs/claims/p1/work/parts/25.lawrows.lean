abbrev b_law_law : ByteArray := code
def y_law_law : MethodName := ⟨R_law, "law", "([I)Z"⟩
abbrev w_law_law : List Cond := Cond.tt :: wA
theorem d_law_law_0 : decode b_law_law 0 = .ok (.new 8, 3) := by decide +kernel
theorem d_law_law_3 : decode b_law_law 3 = .ok (.dup, 1) := by decide +kernel
theorem d_law_law_4 : decode b_law_law 4 = .ok (.invokespecial 55, 3) := by decide +kernel
theorem d_law_law_7 : decode b_law_law 7 = .ok (.astore_n 1, 1) := by decide +kernel
theorem d_law_law_8 : decode b_law_law 8 = .ok (.new 56, 3) := by decide +kernel
theorem d_law_law_11 : decode b_law_law 11 = .ok (.dup, 1) := by decide +kernel
theorem d_law_law_12 : decode b_law_law 12 = .ok (.invokespecial 58, 3) := by decide +kernel
theorem d_law_law_15 : decode b_law_law 15 = .ok (.astore_n 2, 1) := by decide +kernel
theorem d_law_law_16 : decode b_law_law 16 = .ok (.iconst 1, 1) := by decide +kernel
theorem d_law_law_17 : decode b_law_law 17 = .ok (.newarray .long, 2) := by decide +kernel
theorem d_law_law_19 : decode b_law_law 19 = .ok (.astore_n 3, 1) := by decide +kernel
theorem d_law_law_20 : decode b_law_law 20 = .ok (.iconst 0, 1) := by decide +kernel
theorem d_law_law_21 : decode b_law_law 21 = .ok (.istore 4, 2) := by decide +kernel
theorem d_law_law_23 : decode b_law_law 23 = .ok (.iload 4, 2) := by decide +kernel
theorem d_law_law_25 : decode b_law_law 25 = .ok (.aload_n 0, 1) := by decide +kernel
theorem d_law_law_26 : decode b_law_law 26 = .ok (.arraylength, 1) := by decide +kernel
theorem d_law_law_27 : decode b_law_law 27 = .ok (.bipush 6, 2) := by decide +kernel
theorem d_law_law_29 : decode b_law_law 29 = .ok (.isub, 1) := by decide +kernel
theorem d_law_law_30 : decode b_law_law 30 = .ok (.if_icmp .gt 756, 3) := by decide +kernel
theorem d_law_law_33 : decode b_law_law 33 = .ok (.aload_n 0, 1) := by decide +kernel
theorem d_law_law_34 : decode b_law_law 34 = .ok (.iload 4, 2) := by decide +kernel
theorem d_law_law_36 : decode b_law_law 36 = .ok (.iaload, 1) := by decide +kernel
theorem d_law_law_37 : decode b_law_law 37 = .ok (.bipush 15, 2) := by decide +kernel
theorem d_law_law_39 : decode b_law_law 39 = .ok (.iand, 1) := by decide +kernel
theorem d_law_law_40 : decode b_law_law 40 = .ok (.tableswitch 740 0 11 #[64, 168, 224, 268, 324, 380, 436, 480, 536, 591, 659, 715], 64) := by decide +kernel
theorem d_law_law_104 : decode b_law_law 104 = .ok (.aload_n 1, 1) := by decide +kernel
theorem d_law_law_105 : decode b_law_law 105 = .ok (.aload_n 0, 1) := by decide +kernel
theorem d_law_law_106 : decode b_law_law 106 = .ok (.iload 4, 2) := by decide +kernel
theorem d_law_law_108 : decode b_law_law 108 = .ok (.iconst 1, 1) := by decide +kernel
theorem d_law_law_109 : decode b_law_law 109 = .ok (.iadd, 1) := by decide +kernel
theorem d_law_law_110 : decode b_law_law 110 = .ok (.iaload, 1) := by decide +kernel
theorem d_law_law_111 : decode b_law_law 111 = .ok (.aload_n 0, 1) := by decide +kernel
theorem d_law_law_112 : decode b_law_law 112 = .ok (.iload 4, 2) := by decide +kernel
theorem d_law_law_114 : decode b_law_law 114 = .ok (.iconst 2, 1) := by decide +kernel
theorem d_law_law_115 : decode b_law_law 115 = .ok (.iadd, 1) := by decide +kernel
theorem d_law_law_116 : decode b_law_law 116 = .ok (.iaload, 1) := by decide +kernel
theorem d_law_law_117 : decode b_law_law 117 = .ok (.aload_n 0, 1) := by decide +kernel
theorem d_law_law_118 : decode b_law_law 118 = .ok (.iload 4, 2) := by decide +kernel
theorem d_law_law_120 : decode b_law_law 120 = .ok (.iconst 3, 1) := by decide +kernel
theorem d_law_law_121 : decode b_law_law 121 = .ok (.iadd, 1) := by decide +kernel
theorem d_law_law_122 : decode b_law_law 122 = .ok (.iaload, 1) := by decide +kernel
theorem d_law_law_123 : decode b_law_law 123 = .ok (.aload_n 0, 1) := by decide +kernel
theorem d_law_law_124 : decode b_law_law 124 = .ok (.iload 4, 2) := by decide +kernel
theorem d_law_law_126 : decode b_law_law 126 = .ok (.iconst 4, 1) := by decide +kernel
theorem d_law_law_127 : decode b_law_law 127 = .ok (.iadd, 1) := by decide +kernel
theorem d_law_law_128 : decode b_law_law 128 = .ok (.iaload, 1) := by decide +kernel
theorem d_law_law_129 : decode b_law_law 129 = .ok (.aload_n 0, 1) := by decide +kernel
theorem d_law_law_130 : decode b_law_law 130 = .ok (.iload 4, 2) := by decide +kernel
theorem d_law_law_132 : decode b_law_law 132 = .ok (.iconst 5, 1) := by decide +kernel
theorem d_law_law_133 : decode b_law_law 133 = .ok (.iadd, 1) := by decide +kernel
theorem d_law_law_134 : decode b_law_law 134 = .ok (.iaload, 1) := by decide +kernel
theorem d_law_law_135 : decode b_law_law 135 = .ok (.aload_n 3, 1) := by decide +kernel
theorem d_law_law_136 : decode b_law_law 136 = .ok (.invokestatic 59, 3) := by decide +kernel
theorem d_law_law_139 : decode b_law_law 139 = .ok (.istore 5, 2) := by decide +kernel
theorem d_law_law_141 : decode b_law_law 141 = .ok (.aload_n 2, 1) := by decide +kernel
theorem d_law_law_142 : decode b_law_law 142 = .ok (.aload_n 0, 1) := by decide +kernel
theorem d_law_law_143 : decode b_law_law 143 = .ok (.iload 4, 2) := by decide +kernel
theorem d_law_law_145 : decode b_law_law 145 = .ok (.iconst 1, 1) := by decide +kernel
theorem d_law_law_146 : decode b_law_law 146 = .ok (.iadd, 1) := by decide +kernel
theorem d_law_law_147 : decode b_law_law 147 = .ok (.iaload, 1) := by decide +kernel
theorem d_law_law_148 : decode b_law_law 148 = .ok (.aload_n 0, 1) := by decide +kernel
theorem d_law_law_149 : decode b_law_law 149 = .ok (.iload 4, 2) := by decide +kernel
theorem d_law_law_151 : decode b_law_law 151 = .ok (.iconst 2, 1) := by decide +kernel
theorem d_law_law_152 : decode b_law_law 152 = .ok (.iadd, 1) := by decide +kernel
theorem d_law_law_153 : decode b_law_law 153 = .ok (.iaload, 1) := by decide +kernel
theorem d_law_law_154 : decode b_law_law 154 = .ok (.aload_n 0, 1) := by decide +kernel
theorem d_law_law_155 : decode b_law_law 155 = .ok (.iload 4, 2) := by decide +kernel
theorem d_law_law_157 : decode b_law_law 157 = .ok (.iconst 3, 1) := by decide +kernel
theorem d_law_law_158 : decode b_law_law 158 = .ok (.iadd, 1) := by decide +kernel
theorem d_law_law_159 : decode b_law_law 159 = .ok (.iaload, 1) := by decide +kernel
theorem d_law_law_160 : decode b_law_law 160 = .ok (.aload_n 0, 1) := by decide +kernel
theorem d_law_law_161 : decode b_law_law 161 = .ok (.iload 4, 2) := by decide +kernel
theorem d_law_law_163 : decode b_law_law 163 = .ok (.iconst 4, 1) := by decide +kernel
theorem d_law_law_164 : decode b_law_law 164 = .ok (.iadd, 1) := by decide +kernel
theorem d_law_law_165 : decode b_law_law 165 = .ok (.iaload, 1) := by decide +kernel
theorem d_law_law_166 : decode b_law_law 166 = .ok (.aload_n 0, 1) := by decide +kernel
theorem d_law_law_167 : decode b_law_law 167 = .ok (.iload 4, 2) := by decide +kernel
theorem d_law_law_169 : decode b_law_law 169 = .ok (.iconst 5, 1) := by decide +kernel
theorem d_law_law_170 : decode b_law_law 170 = .ok (.iadd, 1) := by decide +kernel
theorem d_law_law_171 : decode b_law_law 171 = .ok (.iaload, 1) := by decide +kernel
theorem d_law_law_172 : decode b_law_law 172 = .ok (.invokevirtual 64, 3) := by decide +kernel
theorem d_law_law_175 : decode b_law_law 175 = .ok (.istore 6, 2) := by decide +kernel
theorem d_law_law_177 : decode b_law_law 177 = .ok (.aload_n 2, 1) := by decide +kernel
theorem d_law_law_178 : decode b_law_law 178 = .ok (.invokevirtual 65, 3) := by decide +kernel
theorem d_law_law_181 : decode b_law_law 181 = .ok (.iload 5, 2) := by decide +kernel
theorem d_law_law_183 : decode b_law_law 183 = .ok (.if_icmp .eq 5, 3) := by decide +kernel
theorem d_law_law_186 : decode b_law_law 186 = .ok (.iconst 0, 1) := by decide +kernel
theorem d_law_law_187 : decode b_law_law 187 = .ok (.ireturn, 1) := by decide +kernel
theorem d_law_law_188 : decode b_law_law 188 = .ok (.iload 5, 2) := by decide +kernel
theorem d_law_law_190 : decode b_law_law 190 = .ok (.ifCond .ne 15, 3) := by decide +kernel
theorem d_law_law_193 : decode b_law_law 193 = .ok (.aload_n 3, 1) := by decide +kernel
theorem d_law_law_194 : decode b_law_law 194 = .ok (.iconst 0, 1) := by decide +kernel
theorem d_law_law_195 : decode b_law_law 195 = .ok (.laload, 1) := by decide +kernel
theorem d_law_law_196 : decode b_law_law 196 = .ok (.iload 6, 2) := by decide +kernel
theorem d_law_law_198 : decode b_law_law 198 = .ok (.i2l, 1) := by decide +kernel
theorem d_law_law_199 : decode b_law_law 199 = .ok (.lcmp, 1) := by decide +kernel
theorem d_law_law_200 : decode b_law_law 200 = .ok (.ifCond .eq 5, 3) := by decide +kernel
theorem d_law_law_203 : decode b_law_law 203 = .ok (.iconst 0, 1) := by decide +kernel
theorem d_law_law_204 : decode b_law_law 204 = .ok (.ireturn, 1) := by decide +kernel
theorem d_law_law_205 : decode b_law_law 205 = .ok (.goto 575, 3) := by decide +kernel
theorem d_law_law_208 : decode b_law_law 208 = .ok (.aload_n 1, 1) := by decide +kernel
theorem d_law_law_209 : decode b_law_law 209 = .ok (.aload_n 0, 1) := by decide +kernel
theorem d_law_law_210 : decode b_law_law 210 = .ok (.iload 4, 2) := by decide +kernel
theorem d_law_law_212 : decode b_law_law 212 = .ok (.iconst 1, 1) := by decide +kernel
theorem d_law_law_213 : decode b_law_law 213 = .ok (.iadd, 1) := by decide +kernel
theorem d_law_law_214 : decode b_law_law 214 = .ok (.iaload, 1) := by decide +kernel
theorem d_law_law_215 : decode b_law_law 215 = .ok (.aload_n 3, 1) := by decide +kernel
theorem d_law_law_216 : decode b_law_law 216 = .ok (.invokestatic 68, 3) := by decide +kernel
theorem d_law_law_219 : decode b_law_law 219 = .ok (.istore 5, 2) := by decide +kernel
theorem d_law_law_221 : decode b_law_law 221 = .ok (.aload_n 2, 1) := by decide +kernel
theorem d_law_law_222 : decode b_law_law 222 = .ok (.aload_n 0, 1) := by decide +kernel
theorem d_law_law_223 : decode b_law_law 223 = .ok (.iload 4, 2) := by decide +kernel
theorem d_law_law_225 : decode b_law_law 225 = .ok (.iconst 1, 1) := by decide +kernel
theorem d_law_law_226 : decode b_law_law 226 = .ok (.iadd, 1) := by decide +kernel
theorem d_law_law_227 : decode b_law_law 227 = .ok (.iaload, 1) := by decide +kernel
theorem d_law_law_228 : decode b_law_law 228 = .ok (.invokevirtual 71, 3) := by decide +kernel
theorem d_law_law_231 : decode b_law_law 231 = .ok (.istore 6, 2) := by decide +kernel
theorem d_law_law_233 : decode b_law_law 233 = .ok (.aload_n 2, 1) := by decide +kernel
theorem d_law_law_234 : decode b_law_law 234 = .ok (.invokevirtual 65, 3) := by decide +kernel
theorem d_law_law_237 : decode b_law_law 237 = .ok (.iload 5, 2) := by decide +kernel
theorem d_law_law_239 : decode b_law_law 239 = .ok (.if_icmp .eq 5, 3) := by decide +kernel
theorem d_law_law_242 : decode b_law_law 242 = .ok (.iconst 0, 1) := by decide +kernel
theorem d_law_law_243 : decode b_law_law 243 = .ok (.ireturn, 1) := by decide +kernel
theorem d_law_law_244 : decode b_law_law 244 = .ok (.iload 5, 2) := by decide +kernel
theorem d_law_law_246 : decode b_law_law 246 = .ok (.ifCond .ne 15, 3) := by decide +kernel
theorem d_law_law_249 : decode b_law_law 249 = .ok (.aload_n 3, 1) := by decide +kernel
theorem d_law_law_250 : decode b_law_law 250 = .ok (.iconst 0, 1) := by decide +kernel
theorem d_law_law_251 : decode b_law_law 251 = .ok (.laload, 1) := by decide +kernel
theorem d_law_law_252 : decode b_law_law 252 = .ok (.iload 6, 2) := by decide +kernel
theorem d_law_law_254 : decode b_law_law 254 = .ok (.i2l, 1) := by decide +kernel
theorem d_law_law_255 : decode b_law_law 255 = .ok (.lcmp, 1) := by decide +kernel
theorem d_law_law_256 : decode b_law_law 256 = .ok (.ifCond .eq 5, 3) := by decide +kernel
theorem d_law_law_259 : decode b_law_law 259 = .ok (.iconst 0, 1) := by decide +kernel
theorem d_law_law_260 : decode b_law_law 260 = .ok (.ireturn, 1) := by decide +kernel
theorem d_law_law_261 : decode b_law_law 261 = .ok (.goto 519, 3) := by decide +kernel
theorem d_law_law_264 : decode b_law_law 264 = .ok (.aload_n 1, 1) := by decide +kernel
theorem d_law_law_265 : decode b_law_law 265 = .ok (.aload_n 3, 1) := by decide +kernel
theorem d_law_law_266 : decode b_law_law 266 = .ok (.invokestatic 72, 3) := by decide +kernel
theorem d_law_law_269 : decode b_law_law 269 = .ok (.istore 5, 2) := by decide +kernel
theorem d_law_law_271 : decode b_law_law 271 = .ok (.aload_n 2, 1) := by decide +kernel
theorem d_law_law_272 : decode b_law_law 272 = .ok (.invokevirtual 75, 3) := by decide +kernel
theorem d_law_law_275 : decode b_law_law 275 = .ok (.istore 6, 2) := by decide +kernel
theorem d_law_law_277 : decode b_law_law 277 = .ok (.aload_n 2, 1) := by decide +kernel
theorem d_law_law_278 : decode b_law_law 278 = .ok (.invokevirtual 65, 3) := by decide +kernel
theorem d_law_law_281 : decode b_law_law 281 = .ok (.iload 5, 2) := by decide +kernel
theorem d_law_law_283 : decode b_law_law 283 = .ok (.if_icmp .eq 5, 3) := by decide +kernel
theorem d_law_law_286 : decode b_law_law 286 = .ok (.iconst 0, 1) := by decide +kernel
theorem d_law_law_287 : decode b_law_law 287 = .ok (.ireturn, 1) := by decide +kernel
theorem d_law_law_288 : decode b_law_law 288 = .ok (.iload 5, 2) := by decide +kernel
theorem d_law_law_290 : decode b_law_law 290 = .ok (.ifCond .ne 15, 3) := by decide +kernel
theorem d_law_law_293 : decode b_law_law 293 = .ok (.aload_n 3, 1) := by decide +kernel
theorem d_law_law_294 : decode b_law_law 294 = .ok (.iconst 0, 1) := by decide +kernel
theorem d_law_law_295 : decode b_law_law 295 = .ok (.laload, 1) := by decide +kernel
theorem d_law_law_296 : decode b_law_law 296 = .ok (.iload 6, 2) := by decide +kernel
theorem d_law_law_298 : decode b_law_law 298 = .ok (.i2l, 1) := by decide +kernel
theorem d_law_law_299 : decode b_law_law 299 = .ok (.lcmp, 1) := by decide +kernel
theorem d_law_law_300 : decode b_law_law 300 = .ok (.ifCond .eq 5, 3) := by decide +kernel
theorem d_law_law_303 : decode b_law_law 303 = .ok (.iconst 0, 1) := by decide +kernel
theorem d_law_law_304 : decode b_law_law 304 = .ok (.ireturn, 1) := by decide +kernel
theorem d_law_law_305 : decode b_law_law 305 = .ok (.goto 475, 3) := by decide +kernel
theorem d_law_law_308 : decode b_law_law 308 = .ok (.aload_n 1, 1) := by decide +kernel
theorem d_law_law_309 : decode b_law_law 309 = .ok (.aload_n 0, 1) := by decide +kernel
theorem d_law_law_310 : decode b_law_law 310 = .ok (.iload 4, 2) := by decide +kernel
theorem d_law_law_312 : decode b_law_law 312 = .ok (.iconst 1, 1) := by decide +kernel
theorem d_law_law_313 : decode b_law_law 313 = .ok (.iadd, 1) := by decide +kernel
theorem d_law_law_314 : decode b_law_law 314 = .ok (.iaload, 1) := by decide +kernel
theorem d_law_law_315 : decode b_law_law 315 = .ok (.aload_n 3, 1) := by decide +kernel
theorem d_law_law_316 : decode b_law_law 316 = .ok (.invokestatic 76, 3) := by decide +kernel
theorem d_law_law_319 : decode b_law_law 319 = .ok (.istore 5, 2) := by decide +kernel
theorem d_law_law_321 : decode b_law_law 321 = .ok (.aload_n 2, 1) := by decide +kernel
theorem d_law_law_322 : decode b_law_law 322 = .ok (.aload_n 0, 1) := by decide +kernel
theorem d_law_law_323 : decode b_law_law 323 = .ok (.iload 4, 2) := by decide +kernel
theorem d_law_law_325 : decode b_law_law 325 = .ok (.iconst 1, 1) := by decide +kernel
theorem d_law_law_326 : decode b_law_law 326 = .ok (.iadd, 1) := by decide +kernel
theorem d_law_law_327 : decode b_law_law 327 = .ok (.iaload, 1) := by decide +kernel
theorem d_law_law_328 : decode b_law_law 328 = .ok (.invokevirtual 78, 3) := by decide +kernel
theorem d_law_law_331 : decode b_law_law 331 = .ok (.istore 6, 2) := by decide +kernel
theorem d_law_law_333 : decode b_law_law 333 = .ok (.aload_n 2, 1) := by decide +kernel
theorem d_law_law_334 : decode b_law_law 334 = .ok (.invokevirtual 65, 3) := by decide +kernel
theorem d_law_law_337 : decode b_law_law 337 = .ok (.iload 5, 2) := by decide +kernel
theorem d_law_law_339 : decode b_law_law 339 = .ok (.if_icmp .eq 5, 3) := by decide +kernel
theorem d_law_law_342 : decode b_law_law 342 = .ok (.iconst 0, 1) := by decide +kernel
theorem d_law_law_343 : decode b_law_law 343 = .ok (.ireturn, 1) := by decide +kernel
theorem d_law_law_344 : decode b_law_law 344 = .ok (.iload 5, 2) := by decide +kernel
theorem d_law_law_346 : decode b_law_law 346 = .ok (.ifCond .ne 15, 3) := by decide +kernel
theorem d_law_law_349 : decode b_law_law 349 = .ok (.aload_n 3, 1) := by decide +kernel
theorem d_law_law_350 : decode b_law_law 350 = .ok (.iconst 0, 1) := by decide +kernel
theorem d_law_law_351 : decode b_law_law 351 = .ok (.laload, 1) := by decide +kernel
theorem d_law_law_352 : decode b_law_law 352 = .ok (.iload 6, 2) := by decide +kernel
theorem d_law_law_354 : decode b_law_law 354 = .ok (.i2l, 1) := by decide +kernel
theorem d_law_law_355 : decode b_law_law 355 = .ok (.lcmp, 1) := by decide +kernel
theorem d_law_law_356 : decode b_law_law 356 = .ok (.ifCond .eq 5, 3) := by decide +kernel
theorem d_law_law_359 : decode b_law_law 359 = .ok (.iconst 0, 1) := by decide +kernel
theorem d_law_law_360 : decode b_law_law 360 = .ok (.ireturn, 1) := by decide +kernel
theorem d_law_law_361 : decode b_law_law 361 = .ok (.goto 419, 3) := by decide +kernel
theorem d_law_law_364 : decode b_law_law 364 = .ok (.aload_n 1, 1) := by decide +kernel
theorem d_law_law_365 : decode b_law_law 365 = .ok (.aload_n 0, 1) := by decide +kernel
theorem d_law_law_366 : decode b_law_law 366 = .ok (.iload 4, 2) := by decide +kernel
theorem d_law_law_368 : decode b_law_law 368 = .ok (.iconst 1, 1) := by decide +kernel
theorem d_law_law_369 : decode b_law_law 369 = .ok (.iadd, 1) := by decide +kernel
theorem d_law_law_370 : decode b_law_law 370 = .ok (.iaload, 1) := by decide +kernel
theorem d_law_law_371 : decode b_law_law 371 = .ok (.aload_n 3, 1) := by decide +kernel
theorem d_law_law_372 : decode b_law_law 372 = .ok (.invokestatic 79, 3) := by decide +kernel
theorem d_law_law_375 : decode b_law_law 375 = .ok (.istore 5, 2) := by decide +kernel
theorem d_law_law_377 : decode b_law_law 377 = .ok (.aload_n 2, 1) := by decide +kernel
theorem d_law_law_378 : decode b_law_law 378 = .ok (.aload_n 0, 1) := by decide +kernel
theorem d_law_law_379 : decode b_law_law 379 = .ok (.iload 4, 2) := by decide +kernel
theorem d_law_law_381 : decode b_law_law 381 = .ok (.iconst 1, 1) := by decide +kernel
theorem d_law_law_382 : decode b_law_law 382 = .ok (.iadd, 1) := by decide +kernel
theorem d_law_law_383 : decode b_law_law 383 = .ok (.iaload, 1) := by decide +kernel
theorem d_law_law_384 : decode b_law_law 384 = .ok (.invokevirtual 81, 3) := by decide +kernel
theorem d_law_law_387 : decode b_law_law 387 = .ok (.istore 6, 2) := by decide +kernel
theorem d_law_law_389 : decode b_law_law 389 = .ok (.aload_n 2, 1) := by decide +kernel
theorem d_law_law_390 : decode b_law_law 390 = .ok (.invokevirtual 65, 3) := by decide +kernel
theorem d_law_law_393 : decode b_law_law 393 = .ok (.iload 5, 2) := by decide +kernel
theorem d_law_law_395 : decode b_law_law 395 = .ok (.if_icmp .eq 5, 3) := by decide +kernel
theorem d_law_law_398 : decode b_law_law 398 = .ok (.iconst 0, 1) := by decide +kernel
theorem d_law_law_399 : decode b_law_law 399 = .ok (.ireturn, 1) := by decide +kernel
theorem d_law_law_400 : decode b_law_law 400 = .ok (.iload 5, 2) := by decide +kernel
theorem d_law_law_402 : decode b_law_law 402 = .ok (.ifCond .ne 15, 3) := by decide +kernel
theorem d_law_law_405 : decode b_law_law 405 = .ok (.aload_n 3, 1) := by decide +kernel
theorem d_law_law_406 : decode b_law_law 406 = .ok (.iconst 0, 1) := by decide +kernel
theorem d_law_law_407 : decode b_law_law 407 = .ok (.laload, 1) := by decide +kernel
theorem d_law_law_408 : decode b_law_law 408 = .ok (.iload 6, 2) := by decide +kernel
theorem d_law_law_410 : decode b_law_law 410 = .ok (.i2l, 1) := by decide +kernel
theorem d_law_law_411 : decode b_law_law 411 = .ok (.lcmp, 1) := by decide +kernel
theorem d_law_law_412 : decode b_law_law 412 = .ok (.ifCond .eq 5, 3) := by decide +kernel
theorem d_law_law_415 : decode b_law_law 415 = .ok (.iconst 0, 1) := by decide +kernel
theorem d_law_law_416 : decode b_law_law 416 = .ok (.ireturn, 1) := by decide +kernel
theorem d_law_law_417 : decode b_law_law 417 = .ok (.goto 363, 3) := by decide +kernel
theorem d_law_law_420 : decode b_law_law 420 = .ok (.aload_n 1, 1) := by decide +kernel
theorem d_law_law_421 : decode b_law_law 421 = .ok (.aload_n 0, 1) := by decide +kernel
theorem d_law_law_422 : decode b_law_law 422 = .ok (.iload 4, 2) := by decide +kernel
theorem d_law_law_424 : decode b_law_law 424 = .ok (.iconst 1, 1) := by decide +kernel
theorem d_law_law_425 : decode b_law_law 425 = .ok (.iadd, 1) := by decide +kernel
theorem d_law_law_426 : decode b_law_law 426 = .ok (.iaload, 1) := by decide +kernel
theorem d_law_law_427 : decode b_law_law 427 = .ok (.aload_n 3, 1) := by decide +kernel
theorem d_law_law_428 : decode b_law_law 428 = .ok (.invokestatic 82, 3) := by decide +kernel
theorem d_law_law_431 : decode b_law_law 431 = .ok (.istore 5, 2) := by decide +kernel
theorem d_law_law_433 : decode b_law_law 433 = .ok (.aload_n 2, 1) := by decide +kernel
theorem d_law_law_434 : decode b_law_law 434 = .ok (.aload_n 0, 1) := by decide +kernel
theorem d_law_law_435 : decode b_law_law 435 = .ok (.iload 4, 2) := by decide +kernel
theorem d_law_law_437 : decode b_law_law 437 = .ok (.iconst 1, 1) := by decide +kernel
theorem d_law_law_438 : decode b_law_law 438 = .ok (.iadd, 1) := by decide +kernel
theorem d_law_law_439 : decode b_law_law 439 = .ok (.iaload, 1) := by decide +kernel
theorem d_law_law_440 : decode b_law_law 440 = .ok (.invokevirtual 84, 3) := by decide +kernel
theorem d_law_law_443 : decode b_law_law 443 = .ok (.istore 6, 2) := by decide +kernel
theorem d_law_law_445 : decode b_law_law 445 = .ok (.aload_n 2, 1) := by decide +kernel
theorem d_law_law_446 : decode b_law_law 446 = .ok (.invokevirtual 65, 3) := by decide +kernel
theorem d_law_law_449 : decode b_law_law 449 = .ok (.iload 5, 2) := by decide +kernel
theorem d_law_law_451 : decode b_law_law 451 = .ok (.if_icmp .eq 5, 3) := by decide +kernel
theorem d_law_law_454 : decode b_law_law 454 = .ok (.iconst 0, 1) := by decide +kernel
theorem d_law_law_455 : decode b_law_law 455 = .ok (.ireturn, 1) := by decide +kernel
theorem d_law_law_456 : decode b_law_law 456 = .ok (.iload 5, 2) := by decide +kernel
theorem d_law_law_458 : decode b_law_law 458 = .ok (.ifCond .ne 15, 3) := by decide +kernel
theorem d_law_law_461 : decode b_law_law 461 = .ok (.aload_n 3, 1) := by decide +kernel
theorem d_law_law_462 : decode b_law_law 462 = .ok (.iconst 0, 1) := by decide +kernel
theorem d_law_law_463 : decode b_law_law 463 = .ok (.laload, 1) := by decide +kernel
theorem d_law_law_464 : decode b_law_law 464 = .ok (.iload 6, 2) := by decide +kernel
theorem d_law_law_466 : decode b_law_law 466 = .ok (.i2l, 1) := by decide +kernel
theorem d_law_law_467 : decode b_law_law 467 = .ok (.lcmp, 1) := by decide +kernel
theorem d_law_law_468 : decode b_law_law 468 = .ok (.ifCond .eq 5, 3) := by decide +kernel
theorem d_law_law_471 : decode b_law_law 471 = .ok (.iconst 0, 1) := by decide +kernel
theorem d_law_law_472 : decode b_law_law 472 = .ok (.ireturn, 1) := by decide +kernel
theorem d_law_law_473 : decode b_law_law 473 = .ok (.goto 307, 3) := by decide +kernel
theorem d_law_law_476 : decode b_law_law 476 = .ok (.aload_n 1, 1) := by decide +kernel
theorem d_law_law_477 : decode b_law_law 477 = .ok (.aload_n 3, 1) := by decide +kernel
theorem d_law_law_478 : decode b_law_law 478 = .ok (.invokestatic 85, 3) := by decide +kernel
theorem d_law_law_481 : decode b_law_law 481 = .ok (.istore 5, 2) := by decide +kernel
theorem d_law_law_483 : decode b_law_law 483 = .ok (.aload_n 2, 1) := by decide +kernel
theorem d_law_law_484 : decode b_law_law 484 = .ok (.invokevirtual 87, 3) := by decide +kernel
theorem d_law_law_487 : decode b_law_law 487 = .ok (.istore 6, 2) := by decide +kernel
theorem d_law_law_489 : decode b_law_law 489 = .ok (.aload_n 2, 1) := by decide +kernel
theorem d_law_law_490 : decode b_law_law 490 = .ok (.invokevirtual 65, 3) := by decide +kernel
theorem d_law_law_493 : decode b_law_law 493 = .ok (.iload 5, 2) := by decide +kernel
theorem d_law_law_495 : decode b_law_law 495 = .ok (.if_icmp .eq 5, 3) := by decide +kernel
theorem d_law_law_498 : decode b_law_law 498 = .ok (.iconst 0, 1) := by decide +kernel
theorem d_law_law_499 : decode b_law_law 499 = .ok (.ireturn, 1) := by decide +kernel
theorem d_law_law_500 : decode b_law_law 500 = .ok (.iload 5, 2) := by decide +kernel
theorem d_law_law_502 : decode b_law_law 502 = .ok (.ifCond .ne 15, 3) := by decide +kernel
theorem d_law_law_505 : decode b_law_law 505 = .ok (.aload_n 3, 1) := by decide +kernel
theorem d_law_law_506 : decode b_law_law 506 = .ok (.iconst 0, 1) := by decide +kernel
theorem d_law_law_507 : decode b_law_law 507 = .ok (.laload, 1) := by decide +kernel
theorem d_law_law_508 : decode b_law_law 508 = .ok (.iload 6, 2) := by decide +kernel
theorem d_law_law_510 : decode b_law_law 510 = .ok (.i2l, 1) := by decide +kernel
theorem d_law_law_511 : decode b_law_law 511 = .ok (.lcmp, 1) := by decide +kernel
theorem d_law_law_512 : decode b_law_law 512 = .ok (.ifCond .eq 5, 3) := by decide +kernel
theorem d_law_law_515 : decode b_law_law 515 = .ok (.iconst 0, 1) := by decide +kernel
theorem d_law_law_516 : decode b_law_law 516 = .ok (.ireturn, 1) := by decide +kernel
theorem d_law_law_517 : decode b_law_law 517 = .ok (.goto 263, 3) := by decide +kernel
theorem d_law_law_520 : decode b_law_law 520 = .ok (.aload_n 1, 1) := by decide +kernel
theorem d_law_law_521 : decode b_law_law 521 = .ok (.aload_n 0, 1) := by decide +kernel
theorem d_law_law_522 : decode b_law_law 522 = .ok (.iload 4, 2) := by decide +kernel
theorem d_law_law_524 : decode b_law_law 524 = .ok (.iconst 1, 1) := by decide +kernel
theorem d_law_law_525 : decode b_law_law 525 = .ok (.iadd, 1) := by decide +kernel
theorem d_law_law_526 : decode b_law_law 526 = .ok (.iaload, 1) := by decide +kernel
theorem d_law_law_527 : decode b_law_law 527 = .ok (.aload_n 3, 1) := by decide +kernel
theorem d_law_law_528 : decode b_law_law 528 = .ok (.invokestatic 88, 3) := by decide +kernel
theorem d_law_law_531 : decode b_law_law 531 = .ok (.istore 5, 2) := by decide +kernel
theorem d_law_law_533 : decode b_law_law 533 = .ok (.aload_n 2, 1) := by decide +kernel
theorem d_law_law_534 : decode b_law_law 534 = .ok (.aload_n 0, 1) := by decide +kernel
theorem d_law_law_535 : decode b_law_law 535 = .ok (.iload 4, 2) := by decide +kernel
theorem d_law_law_537 : decode b_law_law 537 = .ok (.iconst 1, 1) := by decide +kernel
theorem d_law_law_538 : decode b_law_law 538 = .ok (.iadd, 1) := by decide +kernel
theorem d_law_law_539 : decode b_law_law 539 = .ok (.iaload, 1) := by decide +kernel
theorem d_law_law_540 : decode b_law_law 540 = .ok (.invokevirtual 90, 3) := by decide +kernel
theorem d_law_law_543 : decode b_law_law 543 = .ok (.istore 6, 2) := by decide +kernel
theorem d_law_law_545 : decode b_law_law 545 = .ok (.aload_n 2, 1) := by decide +kernel
theorem d_law_law_546 : decode b_law_law 546 = .ok (.invokevirtual 65, 3) := by decide +kernel
theorem d_law_law_549 : decode b_law_law 549 = .ok (.iload 5, 2) := by decide +kernel
theorem d_law_law_551 : decode b_law_law 551 = .ok (.if_icmp .eq 5, 3) := by decide +kernel
theorem d_law_law_554 : decode b_law_law 554 = .ok (.iconst 0, 1) := by decide +kernel
theorem d_law_law_555 : decode b_law_law 555 = .ok (.ireturn, 1) := by decide +kernel
theorem d_law_law_556 : decode b_law_law 556 = .ok (.iload 5, 2) := by decide +kernel
theorem d_law_law_558 : decode b_law_law 558 = .ok (.ifCond .ne 15, 3) := by decide +kernel
theorem d_law_law_561 : decode b_law_law 561 = .ok (.aload_n 3, 1) := by decide +kernel
theorem d_law_law_562 : decode b_law_law 562 = .ok (.iconst 0, 1) := by decide +kernel
theorem d_law_law_563 : decode b_law_law 563 = .ok (.laload, 1) := by decide +kernel
theorem d_law_law_564 : decode b_law_law 564 = .ok (.iload 6, 2) := by decide +kernel
theorem d_law_law_566 : decode b_law_law 566 = .ok (.i2l, 1) := by decide +kernel
theorem d_law_law_567 : decode b_law_law 567 = .ok (.lcmp, 1) := by decide +kernel
theorem d_law_law_568 : decode b_law_law 568 = .ok (.ifCond .eq 5, 3) := by decide +kernel
theorem d_law_law_571 : decode b_law_law 571 = .ok (.iconst 0, 1) := by decide +kernel
theorem d_law_law_572 : decode b_law_law 572 = .ok (.ireturn, 1) := by decide +kernel
theorem d_law_law_573 : decode b_law_law 573 = .ok (.goto 207, 3) := by decide +kernel
theorem d_law_law_576 : decode b_law_law 576 = .ok (.aload_n 1, 1) := by decide +kernel
theorem d_law_law_577 : decode b_law_law 577 = .ok (.aload_n 0, 1) := by decide +kernel
theorem d_law_law_578 : decode b_law_law 578 = .ok (.iload 4, 2) := by decide +kernel
theorem d_law_law_580 : decode b_law_law 580 = .ok (.iconst 1, 1) := by decide +kernel
theorem d_law_law_581 : decode b_law_law 581 = .ok (.iadd, 1) := by decide +kernel
theorem d_law_law_582 : decode b_law_law 582 = .ok (.iaload, 1) := by decide +kernel
theorem d_law_law_583 : decode b_law_law 583 = .ok (.aload_n 3, 1) := by decide +kernel
theorem d_law_law_584 : decode b_law_law 584 = .ok (.invokestatic 91, 3) := by decide +kernel
theorem d_law_law_587 : decode b_law_law 587 = .ok (.istore 5, 2) := by decide +kernel
theorem d_law_law_589 : decode b_law_law 589 = .ok (.aload_n 2, 1) := by decide +kernel
theorem d_law_law_590 : decode b_law_law 590 = .ok (.aload_n 0, 1) := by decide +kernel
theorem d_law_law_591 : decode b_law_law 591 = .ok (.iload 4, 2) := by decide +kernel
theorem d_law_law_593 : decode b_law_law 593 = .ok (.iconst 1, 1) := by decide +kernel
theorem d_law_law_594 : decode b_law_law 594 = .ok (.iadd, 1) := by decide +kernel
theorem d_law_law_595 : decode b_law_law 595 = .ok (.iaload, 1) := by decide +kernel
theorem d_law_law_596 : decode b_law_law 596 = .ok (.invokevirtual 93, 3) := by decide +kernel
theorem d_law_law_599 : decode b_law_law 599 = .ok (.lstore 6, 2) := by decide +kernel
theorem d_law_law_601 : decode b_law_law 601 = .ok (.aload_n 2, 1) := by decide +kernel
theorem d_law_law_602 : decode b_law_law 602 = .ok (.invokevirtual 65, 3) := by decide +kernel
theorem d_law_law_605 : decode b_law_law 605 = .ok (.iload 5, 2) := by decide +kernel
theorem d_law_law_607 : decode b_law_law 607 = .ok (.if_icmp .eq 5, 3) := by decide +kernel
theorem d_law_law_610 : decode b_law_law 610 = .ok (.iconst 0, 1) := by decide +kernel
theorem d_law_law_611 : decode b_law_law 611 = .ok (.ireturn, 1) := by decide +kernel
theorem d_law_law_612 : decode b_law_law 612 = .ok (.iload 5, 2) := by decide +kernel
theorem d_law_law_614 : decode b_law_law 614 = .ok (.ifCond .ne 14, 3) := by decide +kernel
theorem d_law_law_617 : decode b_law_law 617 = .ok (.aload_n 3, 1) := by decide +kernel
theorem d_law_law_618 : decode b_law_law 618 = .ok (.iconst 0, 1) := by decide +kernel
theorem d_law_law_619 : decode b_law_law 619 = .ok (.laload, 1) := by decide +kernel
theorem d_law_law_620 : decode b_law_law 620 = .ok (.lload 6, 2) := by decide +kernel
theorem d_law_law_622 : decode b_law_law 622 = .ok (.lcmp, 1) := by decide +kernel
theorem d_law_law_623 : decode b_law_law 623 = .ok (.ifCond .eq 5, 3) := by decide +kernel
theorem d_law_law_626 : decode b_law_law 626 = .ok (.iconst 0, 1) := by decide +kernel
theorem d_law_law_627 : decode b_law_law 627 = .ok (.ireturn, 1) := by decide +kernel
theorem d_law_law_628 : decode b_law_law 628 = .ok (.goto 152, 3) := by decide +kernel
theorem d_law_law_631 : decode b_law_law 631 = .ok (.aload_n 1, 1) := by decide +kernel
theorem d_law_law_632 : decode b_law_law 632 = .ok (.aload_n 0, 1) := by decide +kernel
theorem d_law_law_633 : decode b_law_law 633 = .ok (.iload 4, 2) := by decide +kernel
theorem d_law_law_635 : decode b_law_law 635 = .ok (.iconst 1, 1) := by decide +kernel
theorem d_law_law_636 : decode b_law_law 636 = .ok (.iadd, 1) := by decide +kernel
theorem d_law_law_637 : decode b_law_law 637 = .ok (.iaload, 1) := by decide +kernel
theorem d_law_law_638 : decode b_law_law 638 = .ok (.aload_n 0, 1) := by decide +kernel
theorem d_law_law_639 : decode b_law_law 639 = .ok (.iload 4, 2) := by decide +kernel
theorem d_law_law_641 : decode b_law_law 641 = .ok (.iconst 2, 1) := by decide +kernel
theorem d_law_law_642 : decode b_law_law 642 = .ok (.iadd, 1) := by decide +kernel
theorem d_law_law_643 : decode b_law_law 643 = .ok (.iaload, 1) := by decide +kernel
theorem d_law_law_644 : decode b_law_law 644 = .ok (.aload_n 3, 1) := by decide +kernel
theorem d_law_law_645 : decode b_law_law 645 = .ok (.invokestatic 94, 3) := by decide +kernel
theorem d_law_law_648 : decode b_law_law 648 = .ok (.istore 5, 2) := by decide +kernel
theorem d_law_law_650 : decode b_law_law 650 = .ok (.aload_n 2, 1) := by decide +kernel
theorem d_law_law_651 : decode b_law_law 651 = .ok (.aload_n 0, 1) := by decide +kernel
theorem d_law_law_652 : decode b_law_law 652 = .ok (.iload 4, 2) := by decide +kernel
theorem d_law_law_654 : decode b_law_law 654 = .ok (.iconst 1, 1) := by decide +kernel
theorem d_law_law_655 : decode b_law_law 655 = .ok (.iadd, 1) := by decide +kernel
theorem d_law_law_656 : decode b_law_law 656 = .ok (.iaload, 1) := by decide +kernel
theorem d_law_law_657 : decode b_law_law 657 = .ok (.aload_n 0, 1) := by decide +kernel
theorem d_law_law_658 : decode b_law_law 658 = .ok (.iload 4, 2) := by decide +kernel
theorem d_law_law_660 : decode b_law_law 660 = .ok (.iconst 2, 1) := by decide +kernel
theorem d_law_law_661 : decode b_law_law 661 = .ok (.iadd, 1) := by decide +kernel
theorem d_law_law_662 : decode b_law_law 662 = .ok (.iaload, 1) := by decide +kernel
theorem d_law_law_663 : decode b_law_law 663 = .ok (.invokevirtual 97, 3) := by decide +kernel
theorem d_law_law_666 : decode b_law_law 666 = .ok (.istore 6, 2) := by decide +kernel
theorem d_law_law_668 : decode b_law_law 668 = .ok (.aload_n 2, 1) := by decide +kernel
theorem d_law_law_669 : decode b_law_law 669 = .ok (.invokevirtual 65, 3) := by decide +kernel
theorem d_law_law_672 : decode b_law_law 672 = .ok (.iload 5, 2) := by decide +kernel
theorem d_law_law_674 : decode b_law_law 674 = .ok (.if_icmp .eq 5, 3) := by decide +kernel
theorem d_law_law_677 : decode b_law_law 677 = .ok (.iconst 0, 1) := by decide +kernel
theorem d_law_law_678 : decode b_law_law 678 = .ok (.ireturn, 1) := by decide +kernel
theorem d_law_law_679 : decode b_law_law 679 = .ok (.iload 5, 2) := by decide +kernel
theorem d_law_law_681 : decode b_law_law 681 = .ok (.ifCond .ne 15, 3) := by decide +kernel
theorem d_law_law_684 : decode b_law_law 684 = .ok (.aload_n 3, 1) := by decide +kernel
theorem d_law_law_685 : decode b_law_law 685 = .ok (.iconst 0, 1) := by decide +kernel
theorem d_law_law_686 : decode b_law_law 686 = .ok (.laload, 1) := by decide +kernel
theorem d_law_law_687 : decode b_law_law 687 = .ok (.iload 6, 2) := by decide +kernel
theorem d_law_law_689 : decode b_law_law 689 = .ok (.i2l, 1) := by decide +kernel
theorem d_law_law_690 : decode b_law_law 690 = .ok (.lcmp, 1) := by decide +kernel
theorem d_law_law_691 : decode b_law_law 691 = .ok (.ifCond .eq 5, 3) := by decide +kernel
theorem d_law_law_694 : decode b_law_law 694 = .ok (.iconst 0, 1) := by decide +kernel
theorem d_law_law_695 : decode b_law_law 695 = .ok (.ireturn, 1) := by decide +kernel
theorem d_law_law_696 : decode b_law_law 696 = .ok (.goto 84, 3) := by decide +kernel
theorem d_law_law_699 : decode b_law_law 699 = .ok (.aload_n 1, 1) := by decide +kernel
theorem d_law_law_700 : decode b_law_law 700 = .ok (.aload_n 0, 1) := by decide +kernel
theorem d_law_law_701 : decode b_law_law 701 = .ok (.iload 4, 2) := by decide +kernel
theorem d_law_law_703 : decode b_law_law 703 = .ok (.iconst 1, 1) := by decide +kernel
theorem d_law_law_704 : decode b_law_law 704 = .ok (.iadd, 1) := by decide +kernel
theorem d_law_law_705 : decode b_law_law 705 = .ok (.iaload, 1) := by decide +kernel
theorem d_law_law_706 : decode b_law_law 706 = .ok (.aload_n 3, 1) := by decide +kernel
theorem d_law_law_707 : decode b_law_law 707 = .ok (.invokestatic 98, 3) := by decide +kernel
theorem d_law_law_710 : decode b_law_law 710 = .ok (.istore 5, 2) := by decide +kernel
theorem d_law_law_712 : decode b_law_law 712 = .ok (.aload_n 2, 1) := by decide +kernel
theorem d_law_law_713 : decode b_law_law 713 = .ok (.aload_n 0, 1) := by decide +kernel
theorem d_law_law_714 : decode b_law_law 714 = .ok (.iload 4, 2) := by decide +kernel
theorem d_law_law_716 : decode b_law_law 716 = .ok (.iconst 1, 1) := by decide +kernel
theorem d_law_law_717 : decode b_law_law 717 = .ok (.iadd, 1) := by decide +kernel
theorem d_law_law_718 : decode b_law_law 718 = .ok (.iaload, 1) := by decide +kernel
theorem d_law_law_719 : decode b_law_law 719 = .ok (.invokevirtual 100, 3) := by decide +kernel
theorem d_law_law_722 : decode b_law_law 722 = .ok (.istore 6, 2) := by decide +kernel
theorem d_law_law_724 : decode b_law_law 724 = .ok (.aload_n 2, 1) := by decide +kernel
theorem d_law_law_725 : decode b_law_law 725 = .ok (.invokevirtual 65, 3) := by decide +kernel
theorem d_law_law_728 : decode b_law_law 728 = .ok (.iload 5, 2) := by decide +kernel
theorem d_law_law_730 : decode b_law_law 730 = .ok (.if_icmp .eq 5, 3) := by decide +kernel
theorem d_law_law_733 : decode b_law_law 733 = .ok (.iconst 0, 1) := by decide +kernel
theorem d_law_law_734 : decode b_law_law 734 = .ok (.ireturn, 1) := by decide +kernel
theorem d_law_law_735 : decode b_law_law 735 = .ok (.iload 5, 2) := by decide +kernel
theorem d_law_law_737 : decode b_law_law 737 = .ok (.ifCond .ne 15, 3) := by decide +kernel
theorem d_law_law_740 : decode b_law_law 740 = .ok (.aload_n 3, 1) := by decide +kernel
theorem d_law_law_741 : decode b_law_law 741 = .ok (.iconst 0, 1) := by decide +kernel
theorem d_law_law_742 : decode b_law_law 742 = .ok (.laload, 1) := by decide +kernel
theorem d_law_law_743 : decode b_law_law 743 = .ok (.iload 6, 2) := by decide +kernel
theorem d_law_law_745 : decode b_law_law 745 = .ok (.i2l, 1) := by decide +kernel
theorem d_law_law_746 : decode b_law_law 746 = .ok (.lcmp, 1) := by decide +kernel
theorem d_law_law_747 : decode b_law_law 747 = .ok (.ifCond .eq 5, 3) := by decide +kernel
theorem d_law_law_750 : decode b_law_law 750 = .ok (.iconst 0, 1) := by decide +kernel
theorem d_law_law_751 : decode b_law_law 751 = .ok (.ireturn, 1) := by decide +kernel
theorem d_law_law_752 : decode b_law_law 752 = .ok (.goto 28, 3) := by decide +kernel
theorem d_law_law_755 : decode b_law_law 755 = .ok (.aload_n 1, 1) := by decide +kernel
theorem d_law_law_756 : decode b_law_law 756 = .ok (.aload_n 0, 1) := by decide +kernel
theorem d_law_law_757 : decode b_law_law 757 = .ok (.iload 4, 2) := by decide +kernel
theorem d_law_law_759 : decode b_law_law 759 = .ok (.iconst 1, 1) := by decide +kernel
theorem d_law_law_760 : decode b_law_law 760 = .ok (.iadd, 1) := by decide +kernel
theorem d_law_law_761 : decode b_law_law 761 = .ok (.iaload, 1) := by decide +kernel
theorem d_law_law_762 : decode b_law_law 762 = .ok (.invokevirtual 101, 3) := by decide +kernel
theorem d_law_law_765 : decode b_law_law 765 = .ok (.aload_n 2, 1) := by decide +kernel
theorem d_law_law_766 : decode b_law_law 766 = .ok (.aload_n 0, 1) := by decide +kernel
theorem d_law_law_767 : decode b_law_law 767 = .ok (.iload 4, 2) := by decide +kernel
theorem d_law_law_769 : decode b_law_law 769 = .ok (.iconst 1, 1) := by decide +kernel
theorem d_law_law_770 : decode b_law_law 770 = .ok (.iadd, 1) := by decide +kernel
theorem d_law_law_771 : decode b_law_law 771 = .ok (.iaload, 1) := by decide +kernel
theorem d_law_law_772 : decode b_law_law 772 = .ok (.invokevirtual 104, 3) := by decide +kernel
theorem d_law_law_775 : decode b_law_law 775 = .ok (.if_icmp .eq 5, 3) := by decide +kernel
theorem d_law_law_778 : decode b_law_law 778 = .ok (.iconst 0, 1) := by decide +kernel
theorem d_law_law_779 : decode b_law_law 779 = .ok (.ireturn, 1) := by decide +kernel
theorem d_law_law_780 : decode b_law_law 780 = .ok (.iinc 4 6, 3) := by decide +kernel
theorem d_law_law_783 : decode b_law_law 783 = .ok (.goto (-760), 3) := by decide +kernel
theorem d_law_law_786 : decode b_law_law 786 = .ok (.iconst 1, 1) := by decide +kernel
theorem d_law_law_787 : decode b_law_law 787 = .ok (.ireturn, 1) := by decide +kernel
theorem kw_391 : Cond.classLink R_law 8 R_LM ∈ wA := kinm (show _ ∈ tables_1 from (List.mem_append_left _ (List.mem_of_getElem? (l := tables_1_1) (i := 35) (by decide +kernel)))) (by decide +kernel)
theorem kw_392 : Cond.instantiable R_LM 7 ∈ wA := kinm (show _ ∈ tables_1 from (List.mem_append_left _ (List.mem_of_getElem? (l := tables_1_1) (i := 36) (by decide +kernel)))) (by decide +kernel)
theorem kw_393 : Cond.methodLink R_law 55 y_LM_init ∈ wA := kinm (show _ ∈ tables_1 from (List.mem_append_left _ (List.mem_of_getElem? (l := tables_1_1) (i := 37) (by decide +kernel)))) (by decide +kernel)
theorem kw_394 : Cond.instanceMethod y_LM_init ∈ wA := kinm (show _ ∈ tables_1 from (List.mem_append_left _ (List.mem_of_getElem? (l := tables_1_1) (i := 38) (by decide +kernel)))) (by decide +kernel)
theorem kw_395 : Cond.classLink R_law 56 R_Mo ∈ wA := kinm (show _ ∈ tables_1 from (List.mem_append_right _ (List.mem_append_right _ (List.mem_append_right _ (List.mem_append_right _ (List.mem_append_right _ (List.mem_append_right _ (List.mem_append_right _ (List.mem_append_right _ (List.mem_append_left _ (List.mem_of_getElem? (l := tables_1_9) (i := 109) (by decide +kernel)))))))))))) (by decide +kernel)
theorem kw_396 : Cond.instantiable R_Mo 100 ∈ wA := kinm (show _ ∈ tables_1 from (List.mem_append_right _ (List.mem_append_right _ (List.mem_append_right _ (List.mem_append_right _ (List.mem_append_right _ (List.mem_append_right _ (List.mem_append_right _ (List.mem_append_right _ (List.mem_append_left _ (List.mem_of_getElem? (l := tables_1_9) (i := 110) (by decide +kernel)))))))))))) (by decide +kernel)
theorem kw_397 : Cond.methodLink R_law 58 y_Mo_init ∈ wA := kinm (show _ ∈ tables_1 from (List.mem_append_right _ (List.mem_append_right _ (List.mem_append_right _ (List.mem_append_right _ (List.mem_append_right _ (List.mem_append_right _ (List.mem_append_right _ (List.mem_append_right _ (List.mem_append_left _ (List.mem_of_getElem? (l := tables_1_9) (i := 111) (by decide +kernel)))))))))))) (by decide +kernel)
theorem kw_398 : Cond.instanceMethod y_Mo_init ∈ wA := kinm (show _ ∈ tables_1 from (List.mem_append_right _ (List.mem_append_right _ (List.mem_append_right _ (List.mem_append_right _ (List.mem_append_right _ (List.mem_append_right _ (List.mem_append_right _ (List.mem_append_right _ (List.mem_append_left _ (List.mem_of_getElem? (l := tables_1_9) (i := 112) (by decide +kernel)))))))))))) (by decide +kernel)
def lw_P (b : Addr) (xs : List Int32) (args : Array Value) (s : State) : Prop := args = #[.ref b] ∧ s.IntsAt b xs ∧ xs.length ≤ 6 ∧ (Jvm.Cond.and given_1 narrow_1).before args s = true
def lw_Q (_ : Array Value) (s : State) (o : Outcome) (t : State) : Prop := o = .returned (some (.int 1)) ∧ Framed s o t [] 600002 7302232
def lw_Z (below : List Frame) (a : Array Value) (s : State) : State → Prop := fun t => ∃ o, t.status = .running ∧ Ended t below o ∧ lw_Q a s o t
/-- the law's own end, with 1 on the stack, nothing written that was there before, its room as the claim has it -/
theorem lw_ret {p : Program} {l : Launch} {e : Env} {s : State} {m : MethodId} {below : List Frame} {meth : Method} {c : Code} {b : Nat} (hx : p.tables.exec = Jvm.exec) (hb : c.code = code) (hr : meth.sig.returnType = ret) (hlocks : meth.locks = false) {pc : Nat} {H : Heap} {ls : Array Slot} (hdg : decode code pc = .ok (.ireturn, 1)) : W p l e room_1 s m #[Value.ref b] below meth c H [] 600002 7302232 (lw_Z below #[Value.ref b] s) (F0 m pc ls [.int 1]) := by
  intro T hT X
  obtain ⟨fs, hret, hrun, hended, hW, hframe⟩ := X.leave (v := some (.int 1)) (hlocks := hlocks) (fun h => by rw [hr] at h; cases h)
  have hmeth' : T.vm.method? m = some meth := X.method'
  refine ⟨T.setFrames fs, ?_, .returned (some (.int 1)), hrun, hended, rfl, ⟨_, rfl⟩, hW, hframe⟩
  jvm_step X.here [X.here.top, hx, hb, hdg, hmeth', hr, ret, narrow_b1]
  (try refine ⟨rfl, ?_⟩); (try refine ⟨rfl, ?_⟩)
  first | (intro acts; rw [hret _ acts rfl rfl rfl]) | rw [hret _ _ rfl rfl rfl]
  exact Steps.refl _
/-- what holds at the law's entry: the machine, the code, the tables' words (any of lw_tbl by 'hts w (by decide +kernel)'), the script of L ints xs at the cell b, what the Statement gives of the start (any of its parts by flat_of_before) -/
def lw_At (p : Program) (s : State) (m : MethodId) (meth : Method) (c : Code) (b L : Nat) (xs : Nat → Int32) : Prop :=
  p.tables.exec = Jvm.exec ∧ c.code = code ∧ meth.sig.returnType = ret ∧ c.maxLocals = 8 ∧ s.vm.findClass R_law = some m.cls ∧ (∀ w ∈ lw_tbl, w.before #[Value.ref b] s = true) ∧ va_X b L xs s s.heap ∧ b < s.heap.size ∧ meth.locks = false ∧ (Jvm.Cond.and given_1 narrow_1).before #[Value.ref b] s = true

theorem gx_lc (a : Int64) : lg_cmp a a = 0 := by
  unfold lg_cmp
  rw [if_neg (by simp), if_pos rfl]
