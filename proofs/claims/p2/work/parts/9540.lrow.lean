abbrev b_law_law : ByteArray := code
theorem d_law_law_0 : decode code 0 = .ok (.new 8, 3) := by decide +kernel
theorem d_law_law_3 : decode code 3 = .ok (.dup, 1) := by decide +kernel
theorem d_law_law_4 : decode code 4 = .ok (.invokespecial 55, 3) := by decide +kernel
theorem d_law_law_7 : decode code 7 = .ok (.astore_n 1, 1) := by decide +kernel
theorem d_law_law_8 : decode code 8 = .ok (.new 56, 3) := by decide +kernel
theorem d_law_law_11 : decode code 11 = .ok (.dup, 1) := by decide +kernel
theorem d_law_law_12 : decode code 12 = .ok (.invokespecial 58, 3) := by decide +kernel
theorem d_law_law_15 : decode code 15 = .ok (.astore_n 2, 1) := by decide +kernel
theorem d_law_law_16 : decode code 16 = .ok (.iconst 1, 1) := by decide +kernel
theorem d_law_law_17 : decode code 17 = .ok (.newarray .long, 2) := by decide +kernel
theorem d_law_law_19 : decode code 19 = .ok (.astore_n 3, 1) := by decide +kernel
theorem d_law_law_20 : decode code 20 = .ok (.iconst 0, 1) := by decide +kernel
theorem d_law_law_21 : decode code 21 = .ok (.istore 4, 2) := by decide +kernel
theorem d_law_law_23 : decode code 23 = .ok (.iload 4, 2) := by decide +kernel
theorem d_law_law_25 : decode code 25 = .ok (.aload_n 0, 1) := by decide +kernel
theorem d_law_law_26 : decode code 26 = .ok (.arraylength, 1) := by decide +kernel
theorem d_law_law_27 : decode code 27 = .ok (.bipush 6, 2) := by decide +kernel
theorem d_law_law_29 : decode code 29 = .ok (.isub, 1) := by decide +kernel
theorem d_law_law_30 : decode code 30 = .ok (.if_icmp .gt 477, 3) := by decide +kernel
theorem d_law_law_33 : decode code 33 = .ok (.aload_n 0, 1) := by decide +kernel
theorem d_law_law_34 : decode code 34 = .ok (.iload 4, 2) := by decide +kernel
theorem d_law_law_36 : decode code 36 = .ok (.iaload, 1) := by decide +kernel
theorem d_law_law_37 : decode code 37 = .ok (.bipush 15, 2) := by decide +kernel
theorem d_law_law_39 : decode code 39 = .ok (.iand, 1) := by decide +kernel
theorem d_law_law_40 : decode code 40 = .ok (.tableswitch 461 0 11 #[64, 168, 196, 212, 240, 268, 296, 312, 340, 368, 408, 436], 64) := by decide +kernel
theorem d_law_law_104 : decode code 104 = .ok (.aload_n 1, 1) := by decide +kernel
theorem d_law_law_105 : decode code 105 = .ok (.aload_n 0, 1) := by decide +kernel
theorem d_law_law_106 : decode code 106 = .ok (.iload 4, 2) := by decide +kernel
theorem d_law_law_108 : decode code 108 = .ok (.iconst 1, 1) := by decide +kernel
theorem d_law_law_109 : decode code 109 = .ok (.iadd, 1) := by decide +kernel
theorem d_law_law_110 : decode code 110 = .ok (.iaload, 1) := by decide +kernel
theorem d_law_law_111 : decode code 111 = .ok (.aload_n 0, 1) := by decide +kernel
theorem d_law_law_112 : decode code 112 = .ok (.iload 4, 2) := by decide +kernel
theorem d_law_law_114 : decode code 114 = .ok (.iconst 2, 1) := by decide +kernel
theorem d_law_law_115 : decode code 115 = .ok (.iadd, 1) := by decide +kernel
theorem d_law_law_116 : decode code 116 = .ok (.iaload, 1) := by decide +kernel
theorem d_law_law_117 : decode code 117 = .ok (.aload_n 0, 1) := by decide +kernel
theorem d_law_law_118 : decode code 118 = .ok (.iload 4, 2) := by decide +kernel
theorem d_law_law_120 : decode code 120 = .ok (.iconst 3, 1) := by decide +kernel
theorem d_law_law_121 : decode code 121 = .ok (.iadd, 1) := by decide +kernel
theorem d_law_law_122 : decode code 122 = .ok (.iaload, 1) := by decide +kernel
theorem d_law_law_123 : decode code 123 = .ok (.aload_n 0, 1) := by decide +kernel
theorem d_law_law_124 : decode code 124 = .ok (.iload 4, 2) := by decide +kernel
theorem d_law_law_126 : decode code 126 = .ok (.iconst 4, 1) := by decide +kernel
theorem d_law_law_127 : decode code 127 = .ok (.iadd, 1) := by decide +kernel
theorem d_law_law_128 : decode code 128 = .ok (.iaload, 1) := by decide +kernel
theorem d_law_law_129 : decode code 129 = .ok (.aload_n 0, 1) := by decide +kernel
theorem d_law_law_130 : decode code 130 = .ok (.iload 4, 2) := by decide +kernel
theorem d_law_law_132 : decode code 132 = .ok (.iconst 5, 1) := by decide +kernel
theorem d_law_law_133 : decode code 133 = .ok (.iadd, 1) := by decide +kernel
theorem d_law_law_134 : decode code 134 = .ok (.iaload, 1) := by decide +kernel
theorem d_law_law_135 : decode code 135 = .ok (.aload_n 3, 1) := by decide +kernel
theorem d_law_law_136 : decode code 136 = .ok (.invokestatic 59, 3) := by decide +kernel
theorem d_law_law_139 : decode code 139 = .ok (.istore 5, 2) := by decide +kernel
theorem d_law_law_141 : decode code 141 = .ok (.aload_n 2, 1) := by decide +kernel
theorem d_law_law_142 : decode code 142 = .ok (.aload_n 0, 1) := by decide +kernel
theorem d_law_law_143 : decode code 143 = .ok (.iload 4, 2) := by decide +kernel
theorem d_law_law_145 : decode code 145 = .ok (.iconst 1, 1) := by decide +kernel
theorem d_law_law_146 : decode code 146 = .ok (.iadd, 1) := by decide +kernel
theorem d_law_law_147 : decode code 147 = .ok (.iaload, 1) := by decide +kernel
theorem d_law_law_148 : decode code 148 = .ok (.aload_n 0, 1) := by decide +kernel
theorem d_law_law_149 : decode code 149 = .ok (.iload 4, 2) := by decide +kernel
theorem d_law_law_151 : decode code 151 = .ok (.iconst 2, 1) := by decide +kernel
theorem d_law_law_152 : decode code 152 = .ok (.iadd, 1) := by decide +kernel
theorem d_law_law_153 : decode code 153 = .ok (.iaload, 1) := by decide +kernel
theorem d_law_law_154 : decode code 154 = .ok (.aload_n 0, 1) := by decide +kernel
theorem d_law_law_155 : decode code 155 = .ok (.iload 4, 2) := by decide +kernel
theorem d_law_law_157 : decode code 157 = .ok (.iconst 3, 1) := by decide +kernel
theorem d_law_law_158 : decode code 158 = .ok (.iadd, 1) := by decide +kernel
theorem d_law_law_159 : decode code 159 = .ok (.iaload, 1) := by decide +kernel
theorem d_law_law_160 : decode code 160 = .ok (.aload_n 0, 1) := by decide +kernel
theorem d_law_law_161 : decode code 161 = .ok (.iload 4, 2) := by decide +kernel
theorem d_law_law_163 : decode code 163 = .ok (.iconst 4, 1) := by decide +kernel
theorem d_law_law_164 : decode code 164 = .ok (.iadd, 1) := by decide +kernel
theorem d_law_law_165 : decode code 165 = .ok (.iaload, 1) := by decide +kernel
theorem d_law_law_166 : decode code 166 = .ok (.aload_n 0, 1) := by decide +kernel
theorem d_law_law_167 : decode code 167 = .ok (.iload 4, 2) := by decide +kernel
theorem d_law_law_169 : decode code 169 = .ok (.iconst 5, 1) := by decide +kernel
theorem d_law_law_170 : decode code 170 = .ok (.iadd, 1) := by decide +kernel
theorem d_law_law_171 : decode code 171 = .ok (.iaload, 1) := by decide +kernel
theorem d_law_law_172 : decode code 172 = .ok (.invokevirtual 64, 3) := by decide +kernel
theorem d_law_law_175 : decode code 175 = .ok (.istore 6, 2) := by decide +kernel
theorem d_law_law_177 : decode code 177 = .ok (.aload_n 2, 1) := by decide +kernel
theorem d_law_law_178 : decode code 178 = .ok (.invokevirtual 65, 3) := by decide +kernel
theorem d_law_law_181 : decode code 181 = .ok (.iload 5, 2) := by decide +kernel
theorem d_law_law_183 : decode code 183 = .ok (.if_icmp .eq 5, 3) := by decide +kernel
theorem d_law_law_186 : decode code 186 = .ok (.iconst 0, 1) := by decide +kernel
theorem d_law_law_187 : decode code 187 = .ok (.ireturn, 1) := by decide +kernel
theorem d_law_law_188 : decode code 188 = .ok (.iload 5, 2) := by decide +kernel
theorem d_law_law_190 : decode code 190 = .ok (.ifCond .ne 15, 3) := by decide +kernel
theorem d_law_law_193 : decode code 193 = .ok (.aload_n 3, 1) := by decide +kernel
theorem d_law_law_194 : decode code 194 = .ok (.iconst 0, 1) := by decide +kernel
theorem d_law_law_195 : decode code 195 = .ok (.laload, 1) := by decide +kernel
theorem d_law_law_196 : decode code 196 = .ok (.iload 6, 2) := by decide +kernel
theorem d_law_law_198 : decode code 198 = .ok (.i2l, 1) := by decide +kernel
theorem d_law_law_199 : decode code 199 = .ok (.lcmp, 1) := by decide +kernel
theorem d_law_law_200 : decode code 200 = .ok (.ifCond .eq 5, 3) := by decide +kernel
theorem d_law_law_203 : decode code 203 = .ok (.iconst 0, 1) := by decide +kernel
theorem d_law_law_204 : decode code 204 = .ok (.ireturn, 1) := by decide +kernel
theorem d_law_law_205 : decode code 205 = .ok (.goto 296, 3) := by decide +kernel
theorem d_law_law_208 : decode code 208 = .ok (.aload_n 1, 1) := by decide +kernel
theorem d_law_law_209 : decode code 209 = .ok (.aload_n 0, 1) := by decide +kernel
theorem d_law_law_210 : decode code 210 = .ok (.iload 4, 2) := by decide +kernel
theorem d_law_law_212 : decode code 212 = .ok (.iconst 1, 1) := by decide +kernel
theorem d_law_law_213 : decode code 213 = .ok (.iadd, 1) := by decide +kernel
theorem d_law_law_214 : decode code 214 = .ok (.iaload, 1) := by decide +kernel
theorem d_law_law_215 : decode code 215 = .ok (.aload_n 3, 1) := by decide +kernel
theorem d_law_law_216 : decode code 216 = .ok (.invokestatic 68, 3) := by decide +kernel
theorem d_law_law_219 : decode code 219 = .ok (.istore 5, 2) := by decide +kernel
theorem d_law_law_221 : decode code 221 = .ok (.aload_n 2, 1) := by decide +kernel
theorem d_law_law_222 : decode code 222 = .ok (.aload_n 0, 1) := by decide +kernel
theorem d_law_law_223 : decode code 223 = .ok (.iload 4, 2) := by decide +kernel
theorem d_law_law_225 : decode code 225 = .ok (.iconst 1, 1) := by decide +kernel
theorem d_law_law_226 : decode code 226 = .ok (.iadd, 1) := by decide +kernel
theorem d_law_law_227 : decode code 227 = .ok (.iaload, 1) := by decide +kernel
theorem d_law_law_228 : decode code 228 = .ok (.invokevirtual 71, 3) := by decide +kernel
theorem d_law_law_231 : decode code 231 = .ok (.istore 6, 2) := by decide +kernel
theorem d_law_law_233 : decode code 233 = .ok (.goto 268, 3) := by decide +kernel
theorem d_law_law_236 : decode code 236 = .ok (.aload_n 1, 1) := by decide +kernel
theorem d_law_law_237 : decode code 237 = .ok (.aload_n 3, 1) := by decide +kernel
theorem d_law_law_238 : decode code 238 = .ok (.invokestatic 72, 3) := by decide +kernel
theorem d_law_law_241 : decode code 241 = .ok (.istore 5, 2) := by decide +kernel
theorem d_law_law_243 : decode code 243 = .ok (.aload_n 2, 1) := by decide +kernel
theorem d_law_law_244 : decode code 244 = .ok (.invokevirtual 75, 3) := by decide +kernel
theorem d_law_law_247 : decode code 247 = .ok (.istore 6, 2) := by decide +kernel
theorem d_law_law_249 : decode code 249 = .ok (.goto 252, 3) := by decide +kernel
theorem d_law_law_252 : decode code 252 = .ok (.aload_n 1, 1) := by decide +kernel
theorem d_law_law_253 : decode code 253 = .ok (.aload_n 0, 1) := by decide +kernel
theorem d_law_law_254 : decode code 254 = .ok (.iload 4, 2) := by decide +kernel
theorem d_law_law_256 : decode code 256 = .ok (.iconst 1, 1) := by decide +kernel
theorem d_law_law_257 : decode code 257 = .ok (.iadd, 1) := by decide +kernel
theorem d_law_law_258 : decode code 258 = .ok (.iaload, 1) := by decide +kernel
theorem d_law_law_259 : decode code 259 = .ok (.aload_n 3, 1) := by decide +kernel
theorem d_law_law_260 : decode code 260 = .ok (.invokestatic 76, 3) := by decide +kernel
theorem d_law_law_263 : decode code 263 = .ok (.istore 5, 2) := by decide +kernel
theorem d_law_law_265 : decode code 265 = .ok (.aload_n 2, 1) := by decide +kernel
theorem d_law_law_266 : decode code 266 = .ok (.aload_n 0, 1) := by decide +kernel
theorem d_law_law_267 : decode code 267 = .ok (.iload 4, 2) := by decide +kernel
theorem d_law_law_269 : decode code 269 = .ok (.iconst 1, 1) := by decide +kernel
theorem d_law_law_270 : decode code 270 = .ok (.iadd, 1) := by decide +kernel
theorem d_law_law_271 : decode code 271 = .ok (.iaload, 1) := by decide +kernel
theorem d_law_law_272 : decode code 272 = .ok (.invokevirtual 78, 3) := by decide +kernel
theorem d_law_law_275 : decode code 275 = .ok (.istore 6, 2) := by decide +kernel
theorem d_law_law_277 : decode code 277 = .ok (.goto 224, 3) := by decide +kernel
theorem d_law_law_280 : decode code 280 = .ok (.aload_n 1, 1) := by decide +kernel
theorem d_law_law_281 : decode code 281 = .ok (.aload_n 0, 1) := by decide +kernel
theorem d_law_law_282 : decode code 282 = .ok (.iload 4, 2) := by decide +kernel
theorem d_law_law_284 : decode code 284 = .ok (.iconst 1, 1) := by decide +kernel
theorem d_law_law_285 : decode code 285 = .ok (.iadd, 1) := by decide +kernel
theorem d_law_law_286 : decode code 286 = .ok (.iaload, 1) := by decide +kernel
theorem d_law_law_287 : decode code 287 = .ok (.aload_n 3, 1) := by decide +kernel
theorem d_law_law_288 : decode code 288 = .ok (.invokestatic 79, 3) := by decide +kernel
theorem d_law_law_291 : decode code 291 = .ok (.istore 5, 2) := by decide +kernel
theorem d_law_law_293 : decode code 293 = .ok (.aload_n 2, 1) := by decide +kernel
theorem d_law_law_294 : decode code 294 = .ok (.aload_n 0, 1) := by decide +kernel
theorem d_law_law_295 : decode code 295 = .ok (.iload 4, 2) := by decide +kernel
theorem d_law_law_297 : decode code 297 = .ok (.iconst 1, 1) := by decide +kernel
theorem d_law_law_298 : decode code 298 = .ok (.iadd, 1) := by decide +kernel
theorem d_law_law_299 : decode code 299 = .ok (.iaload, 1) := by decide +kernel
theorem d_law_law_300 : decode code 300 = .ok (.invokevirtual 81, 3) := by decide +kernel
theorem d_law_law_303 : decode code 303 = .ok (.istore 6, 2) := by decide +kernel
theorem d_law_law_305 : decode code 305 = .ok (.goto 196, 3) := by decide +kernel
theorem d_law_law_308 : decode code 308 = .ok (.aload_n 1, 1) := by decide +kernel
theorem d_law_law_309 : decode code 309 = .ok (.aload_n 0, 1) := by decide +kernel
theorem d_law_law_310 : decode code 310 = .ok (.iload 4, 2) := by decide +kernel
theorem d_law_law_312 : decode code 312 = .ok (.iconst 1, 1) := by decide +kernel
theorem d_law_law_313 : decode code 313 = .ok (.iadd, 1) := by decide +kernel
theorem d_law_law_314 : decode code 314 = .ok (.iaload, 1) := by decide +kernel
theorem d_law_law_315 : decode code 315 = .ok (.aload_n 3, 1) := by decide +kernel
theorem d_law_law_316 : decode code 316 = .ok (.invokestatic 82, 3) := by decide +kernel
theorem d_law_law_319 : decode code 319 = .ok (.istore 5, 2) := by decide +kernel
theorem d_law_law_321 : decode code 321 = .ok (.aload_n 2, 1) := by decide +kernel
theorem d_law_law_322 : decode code 322 = .ok (.aload_n 0, 1) := by decide +kernel
theorem d_law_law_323 : decode code 323 = .ok (.iload 4, 2) := by decide +kernel
theorem d_law_law_325 : decode code 325 = .ok (.iconst 1, 1) := by decide +kernel
theorem d_law_law_326 : decode code 326 = .ok (.iadd, 1) := by decide +kernel
theorem d_law_law_327 : decode code 327 = .ok (.iaload, 1) := by decide +kernel
theorem d_law_law_328 : decode code 328 = .ok (.invokevirtual 84, 3) := by decide +kernel
theorem d_law_law_331 : decode code 331 = .ok (.istore 6, 2) := by decide +kernel
theorem d_law_law_333 : decode code 333 = .ok (.goto 168, 3) := by decide +kernel
theorem d_law_law_336 : decode code 336 = .ok (.aload_n 1, 1) := by decide +kernel
theorem d_law_law_337 : decode code 337 = .ok (.aload_n 3, 1) := by decide +kernel
theorem d_law_law_338 : decode code 338 = .ok (.invokestatic 85, 3) := by decide +kernel
theorem d_law_law_341 : decode code 341 = .ok (.istore 5, 2) := by decide +kernel
theorem d_law_law_343 : decode code 343 = .ok (.aload_n 2, 1) := by decide +kernel
theorem d_law_law_344 : decode code 344 = .ok (.invokevirtual 87, 3) := by decide +kernel
theorem d_law_law_347 : decode code 347 = .ok (.istore 6, 2) := by decide +kernel
theorem d_law_law_349 : decode code 349 = .ok (.goto 152, 3) := by decide +kernel
theorem d_law_law_352 : decode code 352 = .ok (.aload_n 1, 1) := by decide +kernel
theorem d_law_law_353 : decode code 353 = .ok (.aload_n 0, 1) := by decide +kernel
theorem d_law_law_354 : decode code 354 = .ok (.iload 4, 2) := by decide +kernel
theorem d_law_law_356 : decode code 356 = .ok (.iconst 1, 1) := by decide +kernel
theorem d_law_law_357 : decode code 357 = .ok (.iadd, 1) := by decide +kernel
theorem d_law_law_358 : decode code 358 = .ok (.iaload, 1) := by decide +kernel
theorem d_law_law_359 : decode code 359 = .ok (.aload_n 3, 1) := by decide +kernel
theorem d_law_law_360 : decode code 360 = .ok (.invokestatic 88, 3) := by decide +kernel
theorem d_law_law_363 : decode code 363 = .ok (.istore 5, 2) := by decide +kernel
theorem d_law_law_365 : decode code 365 = .ok (.aload_n 2, 1) := by decide +kernel
theorem d_law_law_366 : decode code 366 = .ok (.aload_n 0, 1) := by decide +kernel
theorem d_law_law_367 : decode code 367 = .ok (.iload 4, 2) := by decide +kernel
theorem d_law_law_369 : decode code 369 = .ok (.iconst 1, 1) := by decide +kernel
theorem d_law_law_370 : decode code 370 = .ok (.iadd, 1) := by decide +kernel
theorem d_law_law_371 : decode code 371 = .ok (.iaload, 1) := by decide +kernel
theorem d_law_law_372 : decode code 372 = .ok (.invokevirtual 90, 3) := by decide +kernel
theorem d_law_law_375 : decode code 375 = .ok (.istore 6, 2) := by decide +kernel
theorem d_law_law_377 : decode code 377 = .ok (.goto 124, 3) := by decide +kernel
theorem d_law_law_380 : decode code 380 = .ok (.aload_n 1, 1) := by decide +kernel
theorem d_law_law_381 : decode code 381 = .ok (.aload_n 0, 1) := by decide +kernel
theorem d_law_law_382 : decode code 382 = .ok (.iload 4, 2) := by decide +kernel
theorem d_law_law_384 : decode code 384 = .ok (.iconst 1, 1) := by decide +kernel
theorem d_law_law_385 : decode code 385 = .ok (.iadd, 1) := by decide +kernel
theorem d_law_law_386 : decode code 386 = .ok (.iaload, 1) := by decide +kernel
theorem d_law_law_387 : decode code 387 = .ok (.aload_n 3, 1) := by decide +kernel
theorem d_law_law_388 : decode code 388 = .ok (.invokestatic 91, 3) := by decide +kernel
theorem d_law_law_391 : decode code 391 = .ok (.istore 5, 2) := by decide +kernel
theorem d_law_law_393 : decode code 393 = .ok (.aload_n 2, 1) := by decide +kernel
theorem d_law_law_394 : decode code 394 = .ok (.aload_n 0, 1) := by decide +kernel
theorem d_law_law_395 : decode code 395 = .ok (.iload 4, 2) := by decide +kernel
theorem d_law_law_397 : decode code 397 = .ok (.iconst 1, 1) := by decide +kernel
theorem d_law_law_398 : decode code 398 = .ok (.iadd, 1) := by decide +kernel
theorem d_law_law_399 : decode code 399 = .ok (.iaload, 1) := by decide +kernel
theorem d_law_law_400 : decode code 400 = .ok (.invokevirtual 93, 3) := by decide +kernel
theorem d_law_law_403 : decode code 403 = .ok (.lstore 6, 2) := by decide +kernel
theorem d_law_law_405 : decode code 405 = .ok (.goto 96, 3) := by decide +kernel
theorem d_law_law_408 : decode code 408 = .ok (.aload_n 1, 1) := by decide +kernel
theorem d_law_law_409 : decode code 409 = .ok (.aload_n 0, 1) := by decide +kernel
theorem d_law_law_410 : decode code 410 = .ok (.iload 4, 2) := by decide +kernel
theorem d_law_law_412 : decode code 412 = .ok (.iconst 1, 1) := by decide +kernel
theorem d_law_law_413 : decode code 413 = .ok (.iadd, 1) := by decide +kernel
theorem d_law_law_414 : decode code 414 = .ok (.iaload, 1) := by decide +kernel
theorem d_law_law_415 : decode code 415 = .ok (.aload_n 0, 1) := by decide +kernel
theorem d_law_law_416 : decode code 416 = .ok (.iload 4, 2) := by decide +kernel
theorem d_law_law_418 : decode code 418 = .ok (.iconst 2, 1) := by decide +kernel
theorem d_law_law_419 : decode code 419 = .ok (.iadd, 1) := by decide +kernel
theorem d_law_law_420 : decode code 420 = .ok (.iaload, 1) := by decide +kernel
theorem d_law_law_421 : decode code 421 = .ok (.aload_n 3, 1) := by decide +kernel
theorem d_law_law_422 : decode code 422 = .ok (.invokestatic 94, 3) := by decide +kernel
theorem d_law_law_425 : decode code 425 = .ok (.istore 5, 2) := by decide +kernel
theorem d_law_law_427 : decode code 427 = .ok (.aload_n 2, 1) := by decide +kernel
theorem d_law_law_428 : decode code 428 = .ok (.aload_n 0, 1) := by decide +kernel
theorem d_law_law_429 : decode code 429 = .ok (.iload 4, 2) := by decide +kernel
theorem d_law_law_431 : decode code 431 = .ok (.iconst 1, 1) := by decide +kernel
theorem d_law_law_432 : decode code 432 = .ok (.iadd, 1) := by decide +kernel
theorem d_law_law_433 : decode code 433 = .ok (.iaload, 1) := by decide +kernel
theorem d_law_law_434 : decode code 434 = .ok (.aload_n 0, 1) := by decide +kernel
theorem d_law_law_435 : decode code 435 = .ok (.iload 4, 2) := by decide +kernel
theorem d_law_law_437 : decode code 437 = .ok (.iconst 2, 1) := by decide +kernel
theorem d_law_law_438 : decode code 438 = .ok (.iadd, 1) := by decide +kernel
theorem d_law_law_439 : decode code 439 = .ok (.iaload, 1) := by decide +kernel
theorem d_law_law_440 : decode code 440 = .ok (.invokevirtual 97, 3) := by decide +kernel
theorem d_law_law_443 : decode code 443 = .ok (.istore 6, 2) := by decide +kernel
theorem d_law_law_445 : decode code 445 = .ok (.goto 56, 3) := by decide +kernel
theorem d_law_law_448 : decode code 448 = .ok (.aload_n 1, 1) := by decide +kernel
theorem d_law_law_449 : decode code 449 = .ok (.aload_n 0, 1) := by decide +kernel
theorem d_law_law_450 : decode code 450 = .ok (.iload 4, 2) := by decide +kernel
theorem d_law_law_452 : decode code 452 = .ok (.iconst 1, 1) := by decide +kernel
theorem d_law_law_453 : decode code 453 = .ok (.iadd, 1) := by decide +kernel
theorem d_law_law_454 : decode code 454 = .ok (.iaload, 1) := by decide +kernel
theorem d_law_law_455 : decode code 455 = .ok (.aload_n 3, 1) := by decide +kernel
theorem d_law_law_456 : decode code 456 = .ok (.invokestatic 98, 3) := by decide +kernel
theorem d_law_law_459 : decode code 459 = .ok (.istore 5, 2) := by decide +kernel
theorem d_law_law_461 : decode code 461 = .ok (.aload_n 2, 1) := by decide +kernel
theorem d_law_law_462 : decode code 462 = .ok (.aload_n 0, 1) := by decide +kernel
theorem d_law_law_463 : decode code 463 = .ok (.iload 4, 2) := by decide +kernel
theorem d_law_law_465 : decode code 465 = .ok (.iconst 1, 1) := by decide +kernel
theorem d_law_law_466 : decode code 466 = .ok (.iadd, 1) := by decide +kernel
theorem d_law_law_467 : decode code 467 = .ok (.iaload, 1) := by decide +kernel
theorem d_law_law_468 : decode code 468 = .ok (.invokevirtual 100, 3) := by decide +kernel
theorem d_law_law_471 : decode code 471 = .ok (.istore 6, 2) := by decide +kernel
theorem d_law_law_473 : decode code 473 = .ok (.goto 28, 3) := by decide +kernel
theorem d_law_law_476 : decode code 476 = .ok (.aload_n 1, 1) := by decide +kernel
theorem d_law_law_477 : decode code 477 = .ok (.aload_n 0, 1) := by decide +kernel
theorem d_law_law_478 : decode code 478 = .ok (.iload 4, 2) := by decide +kernel
theorem d_law_law_480 : decode code 480 = .ok (.iconst 1, 1) := by decide +kernel
theorem d_law_law_481 : decode code 481 = .ok (.iadd, 1) := by decide +kernel
theorem d_law_law_482 : decode code 482 = .ok (.iaload, 1) := by decide +kernel
theorem d_law_law_483 : decode code 483 = .ok (.invokevirtual 101, 3) := by decide +kernel
theorem d_law_law_486 : decode code 486 = .ok (.pop, 1) := by decide +kernel
theorem d_law_law_487 : decode code 487 = .ok (.aload_n 2, 1) := by decide +kernel
theorem d_law_law_488 : decode code 488 = .ok (.aload_n 0, 1) := by decide +kernel
theorem d_law_law_489 : decode code 489 = .ok (.iload 4, 2) := by decide +kernel
theorem d_law_law_491 : decode code 491 = .ok (.iconst 1, 1) := by decide +kernel
theorem d_law_law_492 : decode code 492 = .ok (.iadd, 1) := by decide +kernel
theorem d_law_law_493 : decode code 493 = .ok (.iaload, 1) := by decide +kernel
theorem d_law_law_494 : decode code 494 = .ok (.invokevirtual 104, 3) := by decide +kernel
theorem d_law_law_497 : decode code 497 = .ok (.pop, 1) := by decide +kernel
theorem d_law_law_498 : decode code 498 = .ok (.goto 3, 3) := by decide +kernel
theorem d_law_law_501 : decode code 501 = .ok (.iinc 4 6, 3) := by decide +kernel
theorem d_law_law_504 : decode code 504 = .ok (.goto (-481), 3) := by decide +kernel
theorem d_law_law_507 : decode code 507 = .ok (.iconst 1, 1) := by decide +kernel
theorem d_law_law_508 : decode code 508 = .ok (.ireturn, 1) := by decide +kernel
