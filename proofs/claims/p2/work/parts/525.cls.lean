abbrev b_St_move : ByteArray := prog_10_method_10_code
def y_St_move : MethodName := ⟨R_St, "move", "()V"⟩
abbrev w_St_move : List Cond := .code y_St_move b_St_move 4 none :: wA
set_option maxRecDepth 20000 in
theorem k_St_move : Cond.code y_St_move b_St_move 4 none ∈ wA := kinm (show _ ∈ tables_1 from (List.mem_append_right _ (List.mem_append_right _ (List.mem_append_right _ (List.mem_append_right _ (List.mem_append_right _ (List.mem_append_right _ (List.mem_append_left _ (List.mem_of_getElem? (l := tables_1_7) (i := 94) rfl))))))))) rfl
theorem d_St_move_0 : decode b_St_move 0 = .ok (.aload_n 0, 1) := by decide +kernel
theorem d_St_move_1 : decode b_St_move 1 = .ok (.getfield 54, 3) := by decide +kernel
theorem d_St_move_4 : decode b_St_move 4 = .ok (.tableswitch 383 0 9 #[56, 83, 383, 134, 182, 216, 257, 310, 383, 349], 56) := by decide +kernel
theorem d_St_move_60 : decode b_St_move 60 = .ok (.aload_n 0, 1) := by decide +kernel
theorem d_St_move_61 : decode b_St_move 61 = .ok (.aload_n 0, 1) := by decide +kernel
theorem d_St_move_62 : decode b_St_move 62 = .ok (.getfield 57, 3) := by decide +kernel
theorem d_St_move_65 : decode b_St_move 65 = .ok (.aload_n 0, 1) := by decide +kernel
theorem d_St_move_66 : decode b_St_move 66 = .ok (.aload_n 0, 1) := by decide +kernel
theorem d_St_move_67 : decode b_St_move 67 = .ok (.getfield 137, 3) := by decide +kernel
theorem d_St_move_70 : decode b_St_move 70 = .ok (.invokevirtual 77, 3) := by decide +kernel
theorem d_St_move_73 : decode b_St_move 73 = .ok (.aload_n 0, 1) := by decide +kernel
theorem d_St_move_74 : decode b_St_move 74 = .ok (.aload_n 0, 1) := by decide +kernel
theorem d_St_move_75 : decode b_St_move 75 = .ok (.getfield 137, 3) := by decide +kernel
theorem d_St_move_78 : decode b_St_move 78 = .ok (.invokevirtual 80, 3) := by decide +kernel
theorem d_St_move_81 : decode b_St_move 81 = .ok (.invokevirtual 176, 3) := by decide +kernel
theorem d_St_move_84 : decode b_St_move 84 = .ok (.goto 355, 3) := by decide +kernel
theorem d_St_move_87 : decode b_St_move 87 = .ok (.aload_n 0, 1) := by decide +kernel
theorem d_St_move_88 : decode b_St_move 88 = .ok (.aload_n 0, 1) := by decide +kernel
theorem d_St_move_89 : decode b_St_move 89 = .ok (.getfield 57, 3) := by decide +kernel
theorem d_St_move_92 : decode b_St_move 92 = .ok (.aload_n 0, 1) := by decide +kernel
theorem d_St_move_93 : decode b_St_move 93 = .ok (.getfield 31, 3) := by decide +kernel
theorem d_St_move_96 : decode b_St_move 96 = .ok (.getfield 154, 3) := by decide +kernel
theorem d_St_move_99 : decode b_St_move 99 = .ok (.aload_n 0, 1) := by decide +kernel
theorem d_St_move_100 : decode b_St_move 100 = .ok (.getfield 121, 3) := by decide +kernel
theorem d_St_move_103 : decode b_St_move 103 = .ok (.getfield 157, 3) := by decide +kernel
theorem d_St_move_106 : decode b_St_move 106 = .ok (.aload_n 0, 1) := by decide +kernel
theorem d_St_move_107 : decode b_St_move 107 = .ok (.getfield 143, 3) := by decide +kernel
theorem d_St_move_110 : decode b_St_move 110 = .ok (.iadd, 1) := by decide +kernel
theorem d_St_move_111 : decode b_St_move 111 = .ok (.baload, 1) := by decide +kernel
theorem d_St_move_112 : decode b_St_move 112 = .ok (.aload_n 0, 1) := by decide +kernel
theorem d_St_move_113 : decode b_St_move 113 = .ok (.getfield 31, 3) := by decide +kernel
theorem d_St_move_116 : decode b_St_move 116 = .ok (.getfield 160, 3) := by decide +kernel
theorem d_St_move_119 : decode b_St_move 119 = .ok (.aload_n 0, 1) := by decide +kernel
theorem d_St_move_120 : decode b_St_move 120 = .ok (.getfield 121, 3) := by decide +kernel
theorem d_St_move_123 : decode b_St_move 123 = .ok (.getfield 157, 3) := by decide +kernel
theorem d_St_move_126 : decode b_St_move 126 = .ok (.aload_n 0, 1) := by decide +kernel
theorem d_St_move_127 : decode b_St_move 127 = .ok (.getfield 143, 3) := by decide +kernel
theorem d_St_move_130 : decode b_St_move 130 = .ok (.iadd, 1) := by decide +kernel
theorem d_St_move_131 : decode b_St_move 131 = .ok (.laload, 1) := by decide +kernel
theorem d_St_move_132 : decode b_St_move 132 = .ok (.invokevirtual 176, 3) := by decide +kernel
theorem d_St_move_135 : decode b_St_move 135 = .ok (.goto 304, 3) := by decide +kernel
theorem d_St_move_138 : decode b_St_move 138 = .ok (.aload_n 0, 1) := by decide +kernel
theorem d_St_move_139 : decode b_St_move 139 = .ok (.aload_n 0, 1) := by decide +kernel
theorem d_St_move_140 : decode b_St_move 140 = .ok (.getfield 57, 3) := by decide +kernel
theorem d_St_move_143 : decode b_St_move 143 = .ok (.aload_n 0, 1) := by decide +kernel
theorem d_St_move_144 : decode b_St_move 144 = .ok (.getfield 137, 3) := by decide +kernel
theorem d_St_move_147 : decode b_St_move 147 = .ok (.ifCond .eq 7, 3) := by decide +kernel
theorem d_St_move_150 : decode b_St_move 150 = .ok (.iconst 2, 1) := by decide +kernel
theorem d_St_move_151 : decode b_St_move 151 = .ok (.goto 4, 3) := by decide +kernel
theorem d_St_move_154 : decode b_St_move 154 = .ok (.iconst 1, 1) := by decide +kernel
theorem d_St_move_155 : decode b_St_move 155 = .ok (.lconst 0, 1) := by decide +kernel
theorem d_St_move_156 : decode b_St_move 156 = .ok (.invokevirtual 176, 3) := by decide +kernel
theorem d_St_move_159 : decode b_St_move 159 = .ok (.aload_n 0, 1) := by decide +kernel
theorem d_St_move_160 : decode b_St_move 160 = .ok (.getfield 113, 3) := by decide +kernel
theorem d_St_move_163 : decode b_St_move 163 = .ok (.dup, 1) := by decide +kernel
theorem d_St_move_164 : decode b_St_move 164 = .ok (.getfield 46, 3) := by decide +kernel
theorem d_St_move_167 : decode b_St_move 167 = .ok (.aload_n 0, 1) := by decide +kernel
theorem d_St_move_168 : decode b_St_move 168 = .ok (.getfield 140, 3) := by decide +kernel
theorem d_St_move_171 : decode b_St_move 171 = .ok (.ifCond .eq 7, 3) := by decide +kernel
theorem d_St_move_174 : decode b_St_move 174 = .ok (.iconst 1, 1) := by decide +kernel
theorem d_St_move_175 : decode b_St_move 175 = .ok (.goto 4, 3) := by decide +kernel
theorem d_St_move_178 : decode b_St_move 178 = .ok (.iconst 0, 1) := by decide +kernel
theorem d_St_move_179 : decode b_St_move 179 = .ok (.iadd, 1) := by decide +kernel
theorem d_St_move_180 : decode b_St_move 180 = .ok (.putfield 46, 3) := by decide +kernel
theorem d_St_move_183 : decode b_St_move 183 = .ok (.goto 256, 3) := by decide +kernel
theorem d_St_move_186 : decode b_St_move 186 = .ok (.aload_n 0, 1) := by decide +kernel
theorem d_St_move_187 : decode b_St_move 187 = .ok (.getfield 57, 3) := by decide +kernel
theorem d_St_move_190 : decode b_St_move 190 = .ok (.istore_n 1, 1) := by decide +kernel
theorem d_St_move_191 : decode b_St_move 191 = .ok (.iload_n 1, 1) := by decide +kernel
theorem d_St_move_192 : decode b_St_move 192 = .ok (.aload_n 0, 1) := by decide +kernel
theorem d_St_move_193 : decode b_St_move 193 = .ok (.getfield 57, 3) := by decide +kernel
theorem d_St_move_196 : decode b_St_move 196 = .ok (.aload_n 0, 1) := by decide +kernel
theorem d_St_move_197 : decode b_St_move 197 = .ok (.getfield 137, 3) := by decide +kernel
theorem d_St_move_200 : decode b_St_move 200 = .ok (.iadd, 1) := by decide +kernel
theorem d_St_move_201 : decode b_St_move 201 = .ok (.if_icmp .gt 16, 3) := by decide +kernel
theorem d_St_move_204 : decode b_St_move 204 = .ok (.aload_n 0, 1) := by decide +kernel
theorem d_St_move_205 : decode b_St_move 205 = .ok (.iload_n 1, 1) := by decide +kernel
theorem d_St_move_206 : decode b_St_move 206 = .ok (.iconst 0, 1) := by decide +kernel
theorem d_St_move_207 : decode b_St_move 207 = .ok (.lconst 0, 1) := by decide +kernel
theorem d_St_move_208 : decode b_St_move 208 = .ok (.invokevirtual 176, 3) := by decide +kernel
theorem d_St_move_211 : decode b_St_move 211 = .ok (.iinc 1 1, 3) := by decide +kernel
theorem d_St_move_214 : decode b_St_move 214 = .ok (.goto (-23), 3) := by decide +kernel
theorem d_St_move_217 : decode b_St_move 217 = .ok (.goto 222, 3) := by decide +kernel
theorem d_St_move_220 : decode b_St_move 220 = .ok (.aload_n 0, 1) := by decide +kernel
theorem d_St_move_221 : decode b_St_move 221 = .ok (.aload_n 0, 1) := by decide +kernel
theorem d_St_move_222 : decode b_St_move 222 = .ok (.getfield 57, 3) := by decide +kernel
theorem d_St_move_225 : decode b_St_move 225 = .ok (.aload_n 0, 1) := by decide +kernel
theorem d_St_move_226 : decode b_St_move 226 = .ok (.getfield 21, 3) := by decide +kernel
theorem d_St_move_229 : decode b_St_move 229 = .ok (.aload_n 0, 1) := by decide +kernel
theorem d_St_move_230 : decode b_St_move 230 = .ok (.aload_n 0, 1) := by decide +kernel
theorem d_St_move_231 : decode b_St_move 231 = .ok (.getfield 137, 3) := by decide +kernel
theorem d_St_move_234 : decode b_St_move 234 = .ok (.invokevirtual 60, 3) := by decide +kernel
theorem d_St_move_237 : decode b_St_move 237 = .ok (.invokevirtual 64, 3) := by decide +kernel
theorem d_St_move_240 : decode b_St_move 240 = .ok (.aload_n 0, 1) := by decide +kernel
theorem d_St_move_241 : decode b_St_move 241 = .ok (.getfield 21, 3) := by decide +kernel
theorem d_St_move_244 : decode b_St_move 244 = .ok (.aload_n 0, 1) := by decide +kernel
theorem d_St_move_245 : decode b_St_move 245 = .ok (.aload_n 0, 1) := by decide +kernel
theorem d_St_move_246 : decode b_St_move 246 = .ok (.getfield 137, 3) := by decide +kernel
theorem d_St_move_249 : decode b_St_move 249 = .ok (.invokevirtual 60, 3) := by decide +kernel
theorem d_St_move_252 : decode b_St_move 252 = .ok (.invokevirtual 69, 3) := by decide +kernel
theorem d_St_move_255 : decode b_St_move 255 = .ok (.invokevirtual 176, 3) := by decide +kernel
theorem d_St_move_258 : decode b_St_move 258 = .ok (.goto 181, 3) := by decide +kernel
theorem d_St_move_261 : decode b_St_move 261 = .ok (.aload_n 0, 1) := by decide +kernel
theorem d_St_move_262 : decode b_St_move 262 = .ok (.aload_n 0, 1) := by decide +kernel
theorem d_St_move_263 : decode b_St_move 263 = .ok (.getfield 21, 3) := by decide +kernel
theorem d_St_move_266 : decode b_St_move 266 = .ok (.aload_n 0, 1) := by decide +kernel
theorem d_St_move_267 : decode b_St_move 267 = .ok (.aload_n 0, 1) := by decide +kernel
theorem d_St_move_268 : decode b_St_move 268 = .ok (.getfield 137, 3) := by decide +kernel
theorem d_St_move_271 : decode b_St_move 271 = .ok (.invokevirtual 60, 3) := by decide +kernel
theorem d_St_move_274 : decode b_St_move 274 = .ok (.invokevirtual 64, 3) := by decide +kernel
theorem d_St_move_277 : decode b_St_move 277 = .ok (.aload_n 0, 1) := by decide +kernel
theorem d_St_move_278 : decode b_St_move 278 = .ok (.getfield 21, 3) := by decide +kernel
theorem d_St_move_281 : decode b_St_move 281 = .ok (.aload_n 0, 1) := by decide +kernel
theorem d_St_move_282 : decode b_St_move 282 = .ok (.aload_n 0, 1) := by decide +kernel
theorem d_St_move_283 : decode b_St_move 283 = .ok (.getfield 137, 3) := by decide +kernel
theorem d_St_move_286 : decode b_St_move 286 = .ok (.invokevirtual 60, 3) := by decide +kernel
theorem d_St_move_289 : decode b_St_move 289 = .ok (.invokevirtual 69, 3) := by decide +kernel
theorem d_St_move_292 : decode b_St_move 292 = .ok (.aload_n 0, 1) := by decide +kernel
theorem d_St_move_293 : decode b_St_move 293 = .ok (.aload_n 0, 1) := by decide +kernel
theorem d_St_move_294 : decode b_St_move 294 = .ok (.getfield 140, 3) := by decide +kernel
theorem d_St_move_297 : decode b_St_move 297 = .ok (.invokevirtual 77, 3) := by decide +kernel
theorem d_St_move_300 : decode b_St_move 300 = .ok (.aload_n 0, 1) := by decide +kernel
theorem d_St_move_301 : decode b_St_move 301 = .ok (.aload_n 0, 1) := by decide +kernel
theorem d_St_move_302 : decode b_St_move 302 = .ok (.getfield 140, 3) := by decide +kernel
theorem d_St_move_305 : decode b_St_move 305 = .ok (.invokevirtual 80, 3) := by decide +kernel
theorem d_St_move_308 : decode b_St_move 308 = .ok (.invokevirtual 180, 3) := by decide +kernel
theorem d_St_move_311 : decode b_St_move 311 = .ok (.goto 128, 3) := by decide +kernel
theorem d_St_move_314 : decode b_St_move 314 = .ok (.aload_n 0, 1) := by decide +kernel
theorem d_St_move_315 : decode b_St_move 315 = .ok (.aload_n 0, 1) := by decide +kernel
theorem d_St_move_316 : decode b_St_move 316 = .ok (.aload_n 0, 1) := by decide +kernel
theorem d_St_move_317 : decode b_St_move 317 = .ok (.getfield 137, 3) := by decide +kernel
theorem d_St_move_320 : decode b_St_move 320 = .ok (.invokevirtual 77, 3) := by decide +kernel
theorem d_St_move_323 : decode b_St_move 323 = .ok (.aload_n 0, 1) := by decide +kernel
theorem d_St_move_324 : decode b_St_move 324 = .ok (.aload_n 0, 1) := by decide +kernel
theorem d_St_move_325 : decode b_St_move 325 = .ok (.getfield 137, 3) := by decide +kernel
theorem d_St_move_328 : decode b_St_move 328 = .ok (.invokevirtual 80, 3) := by decide +kernel
theorem d_St_move_331 : decode b_St_move 331 = .ok (.aload_n 0, 1) := by decide +kernel
theorem d_St_move_332 : decode b_St_move 332 = .ok (.aload_n 0, 1) := by decide +kernel
theorem d_St_move_333 : decode b_St_move 333 = .ok (.getfield 140, 3) := by decide +kernel
theorem d_St_move_336 : decode b_St_move 336 = .ok (.invokevirtual 77, 3) := by decide +kernel
theorem d_St_move_339 : decode b_St_move 339 = .ok (.aload_n 0, 1) := by decide +kernel
theorem d_St_move_340 : decode b_St_move 340 = .ok (.aload_n 0, 1) := by decide +kernel
theorem d_St_move_341 : decode b_St_move 341 = .ok (.getfield 140, 3) := by decide +kernel
theorem d_St_move_344 : decode b_St_move 344 = .ok (.invokevirtual 80, 3) := by decide +kernel
theorem d_St_move_347 : decode b_St_move 347 = .ok (.invokevirtual 180, 3) := by decide +kernel
theorem d_St_move_350 : decode b_St_move 350 = .ok (.goto 89, 3) := by decide +kernel
theorem d_St_move_353 : decode b_St_move 353 = .ok (.aload_n 0, 1) := by decide +kernel
theorem d_St_move_354 : decode b_St_move 354 = .ok (.getfield 21, 3) := by decide +kernel
theorem d_St_move_357 : decode b_St_move 357 = .ok (.aload_n 0, 1) := by decide +kernel
theorem d_St_move_358 : decode b_St_move 358 = .ok (.aload_n 0, 1) := by decide +kernel
theorem d_St_move_359 : decode b_St_move 359 = .ok (.getfield 137, 3) := by decide +kernel
theorem d_St_move_362 : decode b_St_move 362 = .ok (.invokevirtual 60, 3) := by decide +kernel
theorem d_St_move_365 : decode b_St_move 365 = .ok (.aload_n 0, 1) := by decide +kernel
theorem d_St_move_366 : decode b_St_move 366 = .ok (.aload_n 0, 1) := by decide +kernel
theorem d_St_move_367 : decode b_St_move 367 = .ok (.getfield 57, 3) := by decide +kernel
theorem d_St_move_370 : decode b_St_move 370 = .ok (.invokevirtual 77, 3) := by decide +kernel
theorem d_St_move_373 : decode b_St_move 373 = .ok (.aload_n 0, 1) := by decide +kernel
theorem d_St_move_374 : decode b_St_move 374 = .ok (.aload_n 0, 1) := by decide +kernel
theorem d_St_move_375 : decode b_St_move 375 = .ok (.getfield 57, 3) := by decide +kernel
theorem d_St_move_378 : decode b_St_move 378 = .ok (.invokevirtual 80, 3) := by decide +kernel
theorem d_St_move_381 : decode b_St_move 381 = .ok (.invokevirtual 184, 3) := by decide +kernel
theorem d_St_move_384 : decode b_St_move 384 = .ok (.goto 55, 3) := by decide +kernel
theorem d_St_move_387 : decode b_St_move 387 = .ok (.aload_n 0, 1) := by decide +kernel
theorem d_St_move_388 : decode b_St_move 388 = .ok (.aload_n 0, 1) := by decide +kernel
theorem d_St_move_389 : decode b_St_move 389 = .ok (.getfield 137, 3) := by decide +kernel
theorem d_St_move_392 : decode b_St_move 392 = .ok (.invokevirtual 77, 3) := by decide +kernel
theorem d_St_move_395 : decode b_St_move 395 = .ok (.istore_n 1, 1) := by decide +kernel
theorem d_St_move_396 : decode b_St_move 396 = .ok (.aload_n 0, 1) := by decide +kernel
theorem d_St_move_397 : decode b_St_move 397 = .ok (.aload_n 0, 1) := by decide +kernel
theorem d_St_move_398 : decode b_St_move 398 = .ok (.getfield 137, 3) := by decide +kernel
theorem d_St_move_401 : decode b_St_move 401 = .ok (.invokevirtual 80, 3) := by decide +kernel
theorem d_St_move_404 : decode b_St_move 404 = .ok (.lstore_n 2, 1) := by decide +kernel
theorem d_St_move_405 : decode b_St_move 405 = .ok (.aload_n 0, 1) := by decide +kernel
theorem d_St_move_406 : decode b_St_move 406 = .ok (.aload_n 0, 1) := by decide +kernel
theorem d_St_move_407 : decode b_St_move 407 = .ok (.getfield 57, 3) := by decide +kernel
theorem d_St_move_410 : decode b_St_move 410 = .ok (.iconst 1, 1) := by decide +kernel
theorem d_St_move_411 : decode b_St_move 411 = .ok (.iadd, 1) := by decide +kernel
theorem d_St_move_412 : decode b_St_move 412 = .ok (.iload_n 1, 1) := by decide +kernel
theorem d_St_move_413 : decode b_St_move 413 = .ok (.lload_n 2, 1) := by decide +kernel
theorem d_St_move_414 : decode b_St_move 414 = .ok (.invokevirtual 176, 3) := by decide +kernel
theorem d_St_move_417 : decode b_St_move 417 = .ok (.aload_n 0, 1) := by decide +kernel
theorem d_St_move_418 : decode b_St_move 418 = .ok (.iload_n 1, 1) := by decide +kernel
theorem d_St_move_419 : decode b_St_move 419 = .ok (.lload_n 2, 1) := by decide +kernel
theorem d_St_move_420 : decode b_St_move 420 = .ok (.aload_n 0, 1) := by decide +kernel
theorem d_St_move_421 : decode b_St_move 421 = .ok (.aload_n 0, 1) := by decide +kernel
theorem d_St_move_422 : decode b_St_move 422 = .ok (.getfield 140, 3) := by decide +kernel
theorem d_St_move_425 : decode b_St_move 425 = .ok (.invokevirtual 77, 3) := by decide +kernel
theorem d_St_move_428 : decode b_St_move 428 = .ok (.aload_n 0, 1) := by decide +kernel
theorem d_St_move_429 : decode b_St_move 429 = .ok (.aload_n 0, 1) := by decide +kernel
theorem d_St_move_430 : decode b_St_move 430 = .ok (.getfield 140, 3) := by decide +kernel
theorem d_St_move_433 : decode b_St_move 433 = .ok (.invokevirtual 80, 3) := by decide +kernel
theorem d_St_move_436 : decode b_St_move 436 = .ok (.invokevirtual 180, 3) := by decide +kernel
theorem d_St_move_439 : decode b_St_move 439 = .ok (.return_, 1) := by decide +kernel
theorem kw_1276 : Cond.methodLink R_St 60 y_St_upvalue ∈ wA := kinm (show _ ∈ tables_1 from (List.mem_append_right _ (List.mem_append_right _ (List.mem_append_right _ (List.mem_append_right _ (List.mem_append_right _ (List.mem_append_right _ (List.mem_append_left _ (List.mem_of_getElem? (l := tables_1_7) (i := 28) (by decide +kernel)))))))))) (by decide +kernel)
theorem kw_1277 : Cond.methodLink R_St 64 y_He_variableKind ∈ wA := kinm (show _ ∈ tables_1 from (List.mem_append_right _ (List.mem_append_right _ (List.mem_append_right _ (List.mem_append_right _ (List.mem_append_right _ (List.mem_append_right _ (List.mem_append_left _ (List.mem_of_getElem? (l := tables_1_7) (i := 32) (by decide +kernel)))))))))) (by decide +kernel)
theorem kw_1278 : Cond.methodLink R_St 69 y_He_variableValue ∈ wA := kinm (show _ ∈ tables_1 from (List.mem_append_right _ (List.mem_append_right _ (List.mem_append_right _ (List.mem_append_right _ (List.mem_append_right _ (List.mem_append_right _ (List.mem_append_left _ (List.mem_of_getElem? (l := tables_1_7) (i := 36) (by decide +kernel)))))))))) (by decide +kernel)
theorem kw_1279 : Cond.methodLink R_St 180 y_St_read ∈ wA := kinm (show _ ∈ tables_1 from (List.mem_append_right _ (List.mem_append_right _ (List.mem_append_right _ (List.mem_append_right _ (List.mem_append_right _ (List.mem_append_right _ (List.mem_append_left _ (List.mem_of_getElem? (l := tables_1_7) (i := 95) (by decide +kernel)))))))))) (by decide +kernel)
theorem kw_1280 : Cond.methodLink R_St 184 y_He_setVariable ∈ wA := kinm (show _ ∈ tables_1 from (List.mem_append_right _ (List.mem_append_right _ (List.mem_append_right _ (List.mem_append_right _ (List.mem_append_right _ (List.mem_append_right _ (List.mem_append_left _ (List.mem_of_getElem? (l := tables_1_7) (i := 99) (by decide +kernel)))))))))) (by decide +kernel)
theorem kw_1281 : Cond.instanceMethod y_St_move ∈ wA := kinm (show _ ∈ tables_1 from (List.mem_append_right _ (List.mem_append_right _ (List.mem_append_right _ (List.mem_append_right _ (List.mem_append_right _ (List.mem_append_right _ (List.mem_append_left _ (List.mem_of_getElem? (l := tables_1_7) (i := 93) (by decide +kernel)))))))))) (by decide +kernel)
theorem kw_1282 : Cond.selects R_St y_St_move y_St_move ∈ wA := kinp 45 (by decide +kernel) (by decide +kernel)
theorem cv_St_move : CV y_St_move b_St_move 4 none 0 := ⟨kw_1281, kw_1282, kw_883, k_St_move, by decide +kernel⟩
theorem j_St_move_j179 {X : Cx} {q : PL} (g : Gd X y_St_move b_St_move 4 none 4 109 R_St) {o : (Unit) × S1} (hR : Rt X q o.2 none) (k0 : Int32) (k1 : Int32) (k2 : Int32) (s : S1) (hp0 : prs s 152 k2) (ls : Array Slot) (hl : lv_has ls 4 []) (h : M_St_move_j179 k0 k1 k2 s = some o) : WW X q s 179 ls [.int k0, .int k1, .ref (q.1 152 k2)] := by
  unfold M_St_move_j179 at h
  refine ww_iadd (pc := 179) g.1 d_St_move_179 ?_
  refine ww_pI (pc := 180) g (k := 5) cl_Fm hp0 (by decide) (Or.inl kw_875) rfl (f := 19461) rfl rfl rfl rfl d_St_move_180 h fun s hs h => ?_
  refine ww_goto (pc := 183) (tgt := 439) g.1 d_St_move_183 (by decide) ?_
  exact ww_vretH (pc := 439) g h hR d_St_move_439

theorem j_St_move_j155 {X : Cx} {q : PL} (g : Gd X y_St_move b_St_move 4 none 4 109 R_St) {o : (Unit) × S1} (hR : Rt X q o.2 none) (k0 : Int32) (k1 : Int32) (s : S1) (ls : Array Slot) (hl : lv_has ls 4 [(0, .ref (q.1 129 0))]) (h : M_St_move_j155 k0 k1 s = some o) : WW X q s 155 ls [.int k0, .int k1, .ref (q.1 129 0)] := by
  unfold M_St_move_j155 at h
  refine ww_lconst (pc := 155) g.1 (v := 0) d_St_move_155 (by decide) ?_
  obtain ⟨v156, s, hc156, h⟩ := oB_of h
  refine ww_callV (pc := 156) (rest := []) g cv_St_set (Or.inl kw_928) cl_St (pz rfl (by decide)) (ct_St_set hc156) ⟨by decide, by decide⟩ rfl hl.1 (Nat.le_of_ble_eq_true rfl) d_St_move_156 rfl (?_)
  refine ww_st (st' := []) rfl ?_
  refine ww_aload_n (pc := 159) g.1 d_St_move_159 rfl (lv_at hl 0 rfl) ?_
  refine ww_gV (pc := 160) g (k := 5) cl_St (pz rfl (by decide)) (by decide) (Or.inl kw_867) (f := 16517) (t := 152) rfl rfl rfl d_St_move_160 h fun v160 h => ?_
  refine ww_pr h fun pn160 h => ?_
  refine ww_nnP pn160 ?_
  refine ww_dup (pc := 163) g.1 d_St_move_163 rfl ?_
  refine ww_gI (pc := 164) g (k := 5) cl_Fm pn160 (by decide) (Or.inl kw_875) (f := 19461) rfl rfl d_St_move_164 h fun v164 h => ?_
  refine ww_aload_n (pc := 167) g.1 d_St_move_167 rfl (lv_at hl 0 rfl) ?_
  refine ww_gI (pc := 168) g (k := 11) cl_St (pz rfl (by decide)) (by decide) (Or.inl kw_879) (f := 16523) rfl rfl d_St_move_168 h fun v168 h => ?_
  refine ww_if_eq (pc := 171) (tgt := 178) g.1 d_St_move_171 (by decide) h (fun c h => ?_) (fun c h => ?_)
  · refine ww_iconst (pc := 178) g.1 (v := 0) d_St_move_178 (by decide) ?_
    exact j_St_move_j179 g hR 0 v164 v160 s pn160 ls (lv_sub hl [] rfl) h
  · refine ww_iconst (pc := 174) g.1 (v := 1) d_St_move_174 (by decide) ?_
    refine ww_goto (pc := 175) (tgt := 179) g.1 d_St_move_175 (by decide) ?_
    exact j_St_move_j179 g hR 1 v164 v160 s pn160 ls (lv_sub hl [] rfl) h

theorem lp_St_move_L191 {X : Cx} {q : PL} (g : Gd X y_St_move b_St_move 4 none 4 109 R_St) (x : Int32) (s : S1) (o : ((Int32) ⊕ ((Unit))) × S1) (h : M_St_move_L191 x s = some o) (hR : (Sum.elim (fun y : Int32 => ∀ ls : Array Slot, lv_has ls 4 [(0, .ref (q.1 129 0)), (1, .int y)] → WW X q o.2 191 ls []) (fun y : Unit => ∀ ls : Array Slot, lv_has ls 4 [] → WW X q o.2 217 ls []) o.1)) : ∀ ls : Array Slot, lv_has ls 4 [(0, .ref (q.1 129 0)), (1, .int x)] → WW X q s 191 ls [] := by
  intro ls hl
  unfold M_St_move_L191 at h
  refine ww_iload_n (pc := 191) g.1 d_St_move_191 rfl (lv_at hl 1 rfl) ?_
  refine ww_aload_n (pc := 192) g.1 d_St_move_192 rfl (lv_at hl 0 rfl) ?_
  refine ww_gI (pc := 193) g (k := 9) cl_St (pz rfl (by decide)) (by decide) (Or.inl kw_877) (f := 16521) rfl rfl d_St_move_193 h fun v193 h => ?_
  refine ww_aload_n (pc := 196) g.1 d_St_move_196 rfl (lv_at hl 0 rfl) ?_
  refine ww_gI (pc := 197) g (k := 10) cl_St (pz rfl (by decide)) (by decide) (Or.inl kw_878) (f := 16522) rfl rfl d_St_move_197 h fun v197 h => ?_
  refine ww_iadd (pc := 200) g.1 d_St_move_200 ?_
  refine ww_icmp_gt (pc := 201) (tgt := 217) g.1 d_St_move_201 (by decide) h (fun c h => ?_) (fun c h => ?_)
  · rw [oR_eq h] at hR
    exact hR ls (lv_sub hl [] rfl)
  · refine ww_aload_n (pc := 204) g.1 d_St_move_204 rfl (lv_at hl 0 rfl) ?_
    refine ww_iload_n (pc := 205) g.1 d_St_move_205 rfl (lv_at hl 1 rfl) ?_
    refine ww_iconst (pc := 206) g.1 (v := 0) d_St_move_206 (by decide) ?_
    refine ww_lconst (pc := 207) g.1 (v := 0) d_St_move_207 (by decide) ?_
    obtain ⟨v208, s, hc208, h⟩ := oB_of h
    refine ww_callV (pc := 208) (rest := []) g cv_St_set (Or.inl kw_928) cl_St (pz rfl (by decide)) (ct_St_set hc208) ⟨by decide, by decide⟩ rfl hl.1 (Nat.le_of_ble_eq_true rfl) d_St_move_208 rfl (?_)
    refine ww_st (st' := []) rfl ?_
    refine ww_iinc (pc := 211) g.1 (v := x + 1) (lv' := [(1, .int (x + 1)), (0, .ref (q.1 129 0))]) d_St_move_211 hl (k := 1) rfl (by rfl) (by decide) rfl fun ls hl => ?_
    refine ww_goto (pc := 214) (tgt := 191) g.1 d_St_move_214 (by decide) ?_
    rw [oR_eq h] at hR
    exact hR ls (lv_sub hl [1, 0] rfl)

theorem ct_St_move {l : Launch} {P : PP} {q : PL} {s s' : S1}  {r : Unit} (h : M_St_move s = some (r, s')) : Ct l y_St_move b_St_move 4 none 4 109 P q s [.ref (q.1 129 0)] none q s' := by
  refine ct_of (by decide) (Nat.le_of_ble_eq_true rfl) fun X ls eP el g hR hl => ?_
  subst eP
  have hR : Rt X q ((r, s') : Unit × S1).2 none := hR
  have hl : lv_has ls 4 [(0, .ref (q.1 129 0))] := hl
  generalize (r, s') = o at h hR
  unfold M_St_move at h
  refine ww_aload_n (pc := 0) g.1 d_St_move_0 rfl (lv_at hl 0 rfl) ?_
  refine ww_gI (pc := 1) g (k := 8) cl_St (pz rfl (by decide)) (by decide) (Or.inl kw_876) (f := 16520) rfl rfl d_St_move_1 h fun v1 h => ?_
  by_cases c4_60 : v1 = 0
  · have h := oC_pos c4_60 h
    have c := c4_60
    refine ww_tableIn (pc := 4) (tgt := 60) g.1 d_St_move_4 (by rw [c]; decide) (by rw [c]; decide) (by rw [c] <;> rfl) (by decide) ?_
    refine ww_aload_n (pc := 60) g.1 d_St_move_60 rfl (lv_at hl 0 rfl) ?_
    refine ww_aload_n (pc := 61) g.1 d_St_move_61 rfl (lv_at hl 0 rfl) ?_
    refine ww_gI (pc := 62) g (k := 9) cl_St (pz rfl (by decide)) (by decide) (Or.inl kw_877) (f := 16521) rfl rfl d_St_move_62 h fun v62 h => ?_
    refine ww_aload_n (pc := 65) g.1 d_St_move_65 rfl (lv_at hl 0 rfl) ?_
    refine ww_aload_n (pc := 66) g.1 d_St_move_66 rfl (lv_at hl 0 rfl) ?_
    refine ww_gI (pc := 67) g (k := 10) cl_St (pz rfl (by decide)) (by decide) (Or.inl kw_878) (f := 16522) rfl rfl d_St_move_67 h fun v67 h => ?_
    obtain ⟨v70, s, hc70, h⟩ := oB_of h
    refine ww_callV (pc := 70) (rest := [.int v62, .ref (q.1 129 0)]) g cv_St_kindOf (Or.inl kw_914) cl_St (pz rfl (by decide)) (ct_St_kindOf hc70) ⟨by decide, by decide⟩ rfl hl.1 (Nat.le_of_ble_eq_true rfl) d_St_move_70 rfl (?_)
    refine ww_st (st' := [.int v70, .int v62, .ref (q.1 129 0)]) rfl ?_
    refine ww_aload_n (pc := 73) g.1 d_St_move_73 rfl (lv_at hl 0 rfl) ?_
    refine ww_aload_n (pc := 74) g.1 d_St_move_74 rfl (lv_at hl 0 rfl) ?_
    refine ww_gI (pc := 75) g (k := 10) cl_St (pz rfl (by decide)) (by decide) (Or.inl kw_878) (f := 16522) rfl rfl d_St_move_75 h fun v75 h => ?_
    obtain ⟨v78, s, hc78, h⟩ := oB_of h
    refine ww_callV (pc := 78) (rest := [.int v70, .int v62, .ref (q.1 129 0)]) g cv_St_valueOf (Or.inl kw_1120) cl_St (pz rfl (by decide)) (ct_St_valueOf hc78) ⟨by decide, by decide⟩ rfl hl.1 (Nat.le_of_ble_eq_true rfl) d_St_move_78 rfl (?_)
    refine ww_st (st' := [.long v78, .int v70, .int v62, .ref (q.1 129 0)]) rfl ?_
    obtain ⟨v81, s, hc81, h⟩ := oB_of h
    refine ww_callV (pc := 81) (rest := []) g cv_St_set (Or.inl kw_928) cl_St (pz rfl (by decide)) (ct_St_set hc81) ⟨by decide, by decide⟩ rfl hl.1 (Nat.le_of_ble_eq_true rfl) d_St_move_81 rfl (?_)
    refine ww_st (st' := []) rfl ?_
    refine ww_goto (pc := 84) (tgt := 439) g.1 d_St_move_84 (by decide) ?_
    exact ww_vretH (pc := 439) g h hR d_St_move_439
  have h := oC_neg c4_60 h
  by_cases c4_87 : v1 = 1
  · have h := oC_pos c4_87 h
    have c := c4_87
    refine ww_tableIn (pc := 4) (tgt := 87) g.1 d_St_move_4 (by rw [c]; decide) (by rw [c]; decide) (by rw [c] <;> rfl) (by decide) ?_
    refine ww_aload_n (pc := 87) g.1 d_St_move_87 rfl (lv_at hl 0 rfl) ?_
    refine ww_aload_n (pc := 88) g.1 d_St_move_88 rfl (lv_at hl 0 rfl) ?_
    refine ww_gI (pc := 89) g (k := 9) cl_St (pz rfl (by decide)) (by decide) (Or.inl kw_877) (f := 16521) rfl rfl d_St_move_89 h fun v89 h => ?_
    refine ww_aload_n (pc := 92) g.1 d_St_move_92 rfl (lv_at hl 0 rfl) ?_
    refine ww_gR (pc := 93) g (k := 3) cl_St (pz rfl (by decide)) (by decide) (Or.inl kw_872) (f := 16515) (t := 101) rfl rfl rfl d_St_move_93 ?_
    refine ww_gR (pc := 96) g (k := 3) cl_Ch (pz rfl (by decide)) (by decide) (Or.inl kw_894) (f := 12931) (t := 105) rfl rfl rfl d_St_move_96 ?_
    refine ww_aload_n (pc := 99) g.1 d_St_move_99 rfl (lv_at hl 0 rfl) ?_
    refine ww_gV (pc := 100) g (k := 6) cl_St (pz rfl (by decide)) (by decide) (Or.inl kw_869) (f := 16518) (t := 144) rfl rfl rfl d_St_move_100 h fun v100 h => ?_
    refine ww_pr h fun pn100 h => ?_
    refine ww_nnP pn100 ?_
    refine ww_gI (pc := 103) g (k := 6) cl_Pr pn100 (by decide) (Or.inl kw_895) (f := 18438) rfl rfl d_St_move_103 h fun v103 h => ?_
    refine ww_aload_n (pc := 106) g.1 d_St_move_106 rfl (lv_at hl 0 rfl) ?_
    refine ww_gI (pc := 107) g (k := 12) cl_St (pz rfl (by decide)) (by decide) (Or.inl kw_880) (f := 16524) rfl rfl d_St_move_107 h fun v107 h => ?_
    refine ww_iadd (pc := 110) g.1 d_St_move_110 ?_
    refine ww_ab (pc := 111) g (pz rfl (by decide)) rfl rfl d_St_move_111 h fun v111 h => ?_
    refine ww_aload_n (pc := 112) g.1 d_St_move_112 rfl (lv_at hl 0 rfl) ?_
    refine ww_gR (pc := 113) g (k := 3) cl_St (pz rfl (by decide)) (by decide) (Or.inl kw_872) (f := 16515) (t := 101) rfl rfl rfl d_St_move_113 ?_
    refine ww_gR (pc := 116) g (k := 4) cl_Ch (pz rfl (by decide)) (by decide) (Or.inl kw_899) (f := 12932) (t := 106) rfl rfl rfl d_St_move_116 ?_
    refine ww_aload_n (pc := 119) g.1 d_St_move_119 rfl (lv_at hl 0 rfl) ?_
    refine ww_gV (pc := 120) g (k := 6) cl_St (pz rfl (by decide)) (by decide) (Or.inl kw_869) (f := 16518) (t := 144) rfl rfl rfl d_St_move_120 h fun v120 h => ?_
    refine ww_pr h fun pn120 h => ?_
    refine ww_nnP pn120 ?_
    refine ww_gI (pc := 123) g (k := 6) cl_Pr pn120 (by decide) (Or.inl kw_895) (f := 18438) rfl rfl d_St_move_123 h fun v123 h => ?_
    refine ww_aload_n (pc := 126) g.1 d_St_move_126 rfl (lv_at hl 0 rfl) ?_
    refine ww_gI (pc := 127) g (k := 12) cl_St (pz rfl (by decide)) (by decide) (Or.inl kw_880) (f := 16524) rfl rfl d_St_move_127 h fun v127 h => ?_
    refine ww_iadd (pc := 130) g.1 d_St_move_130 ?_
    refine ww_al (pc := 131) g (pz rfl (by decide)) rfl rfl d_St_move_131 h fun v131 h => ?_
    obtain ⟨v132, s, hc132, h⟩ := oB_of h
    refine ww_callV (pc := 132) (rest := []) g cv_St_set (Or.inl kw_928) cl_St (pz rfl (by decide)) (ct_St_set hc132) ⟨by decide, by decide⟩ rfl hl.1 (Nat.le_of_ble_eq_true rfl) d_St_move_132 rfl (?_)
    refine ww_st (st' := []) rfl ?_
    refine ww_goto (pc := 135) (tgt := 439) g.1 d_St_move_135 (by decide) ?_
    exact ww_vretH (pc := 439) g h hR d_St_move_439
  have h := oC_neg c4_87 h
  by_cases c4_138 : v1 = 3
  · have h := oC_pos c4_138 h
    have c := c4_138
    refine ww_tableIn (pc := 4) (tgt := 138) g.1 d_St_move_4 (by rw [c]; decide) (by rw [c]; decide) (by rw [c] <;> rfl) (by decide) ?_
    refine ww_aload_n (pc := 138) g.1 d_St_move_138 rfl (lv_at hl 0 rfl) ?_
    refine ww_aload_n (pc := 139) g.1 d_St_move_139 rfl (lv_at hl 0 rfl) ?_
    refine ww_gI (pc := 140) g (k := 9) cl_St (pz rfl (by decide)) (by decide) (Or.inl kw_877) (f := 16521) rfl rfl d_St_move_140 h fun v140 h => ?_
    refine ww_aload_n (pc := 143) g.1 d_St_move_143 rfl (lv_at hl 0 rfl) ?_
    refine ww_gI (pc := 144) g (k := 10) cl_St (pz rfl (by decide)) (by decide) (Or.inl kw_878) (f := 16522) rfl rfl d_St_move_144 h fun v144 h => ?_
    refine ww_if_eq (pc := 147) (tgt := 154) g.1 d_St_move_147 (by decide) h (fun c h => ?_) (fun c h => ?_)
    · refine ww_iconst (pc := 154) g.1 (v := 1) d_St_move_154 (by decide) ?_
      exact j_St_move_j155 g hR 1 v140 s ls (lv_sub hl [0] rfl) h
    · refine ww_iconst (pc := 150) g.1 (v := 2) d_St_move_150 (by decide) ?_
      refine ww_goto (pc := 151) (tgt := 155) g.1 d_St_move_151 (by decide) ?_
      exact j_St_move_j155 g hR 2 v140 s ls (lv_sub hl [0] rfl) h
  have h := oC_neg c4_138 h
  by_cases c4_186 : v1 = 4
  · have h := oC_pos c4_186 h
    have c := c4_186
    refine ww_tableIn (pc := 4) (tgt := 186) g.1 d_St_move_4 (by rw [c]; decide) (by rw [c]; decide) (by rw [c] <;> rfl) (by decide) ?_
    refine ww_aload_n (pc := 186) g.1 d_St_move_186 rfl (lv_at hl 0 rfl) ?_
    refine ww_gI (pc := 187) g (k := 9) cl_St (pz rfl (by decide)) (by decide) (Or.inl kw_877) (f := 16521) rfl rfl d_St_move_187 h fun v187 h => ?_
    refine ww_istore_n (pc := 190) (i := 1) g.1 (lv' := [(1, .int v187), (0, .ref (q.1 129 0))]) d_St_move_190 rfl hl (by decide) rfl fun ls hl => ?_
    obtain ⟨e191, s1, hw, h⟩ := oB_of h
    refine oW_rule (Wh := fun (x : Int32) (s : S1) => ∀ ls : Array Slot, lv_has ls 4 [(0, .ref (q.1 129 0)), (1, .int x)] → WW X q s 191 ls []) (We := fun (e : (Unit)) (s : S1) => ∀ ls : Array Slot, lv_has ls 4 [] → WW X q s 217 ls []) (fun x s o hb hc => lp_St_move_L191 (q := q) g x s o hb hc) hw ?_ ls (lv_sub hl [1, 0] rfl)
    clear hw hl
    clear ls
    intro ls hl
    generalize s1 = s at h ⊢
    refine ww_goto (pc := 217) (tgt := 439) g.1 d_St_move_217 (by decide) ?_
    exact ww_vretH (pc := 439) g h hR d_St_move_439
  have h := oC_neg c4_186 h
  by_cases c4_220 : v1 = 5
  · have h := oC_pos c4_220 h
    have c := c4_220
    refine ww_tableIn (pc := 4) (tgt := 220) g.1 d_St_move_4 (by rw [c]; decide) (by rw [c]; decide) (by rw [c] <;> rfl) (by decide) ?_
    refine ww_aload_n (pc := 220) g.1 d_St_move_220 rfl (lv_at hl 0 rfl) ?_
    refine ww_aload_n (pc := 221) g.1 d_St_move_221 rfl (lv_at hl 0 rfl) ?_
    refine ww_gI (pc := 222) g (k := 9) cl_St (pz rfl (by decide)) (by decide) (Or.inl kw_877) (f := 16521) rfl rfl d_St_move_222 h fun v222 h => ?_
    refine ww_aload_n (pc := 225) g.1 d_St_move_225 rfl (lv_at hl 0 rfl) ?_
    refine ww_gR (pc := 226) g (k := 1) cl_St (pz rfl (by decide)) (by decide) (Or.inl kw_884) (f := 16513) (t := 111) rfl rfl rfl d_St_move_226 ?_
    refine ww_aload_n (pc := 229) g.1 d_St_move_229 rfl (lv_at hl 0 rfl) ?_
    refine ww_aload_n (pc := 230) g.1 d_St_move_230 rfl (lv_at hl 0 rfl) ?_
    refine ww_gI (pc := 231) g (k := 10) cl_St (pz rfl (by decide)) (by decide) (Or.inl kw_878) (f := 16522) rfl rfl d_St_move_231 h fun v231 h => ?_
    obtain ⟨v234, s, hc234, h⟩ := oB_of h
    refine ww_callV (pc := 234) (rest := [.ref (q.1 111 0), .int v222, .ref (q.1 129 0)]) g cv_St_upvalue (Or.inl kw_1276) cl_St (pz rfl (by decide)) (ct_St_upvalue hc234) ⟨by decide, by decide⟩ rfl hl.1 (Nat.le_of_ble_eq_true rfl) d_St_move_234 rfl (?_)
    refine ww_st (st' := [.int v234, .ref (q.1 111 0), .int v222, .ref (q.1 129 0)]) rfl ?_
    obtain ⟨v237, s, hc237, h⟩ := oB_of h
    refine ww_callV (pc := 237) (rest := [.int v222, .ref (q.1 129 0)]) g cv_He_variableKind (Or.inl kw_1277) cl_He (pz rfl (by decide)) (ct_He_variableKind hc237) ⟨by decide, by decide⟩ rfl hl.1 (Nat.le_of_ble_eq_true rfl) d_St_move_237 rfl (?_)
    refine ww_st (st' := [.int v237, .int v222, .ref (q.1 129 0)]) rfl ?_
    refine ww_aload_n (pc := 240) g.1 d_St_move_240 rfl (lv_at hl 0 rfl) ?_
    refine ww_gR (pc := 241) g (k := 1) cl_St (pz rfl (by decide)) (by decide) (Or.inl kw_884) (f := 16513) (t := 111) rfl rfl rfl d_St_move_241 ?_
    refine ww_aload_n (pc := 244) g.1 d_St_move_244 rfl (lv_at hl 0 rfl) ?_
    refine ww_aload_n (pc := 245) g.1 d_St_move_245 rfl (lv_at hl 0 rfl) ?_
    refine ww_gI (pc := 246) g (k := 10) cl_St (pz rfl (by decide)) (by decide) (Or.inl kw_878) (f := 16522) rfl rfl d_St_move_246 h fun v246 h => ?_
    obtain ⟨v249, s, hc249, h⟩ := oB_of h
    refine ww_callV (pc := 249) (rest := [.ref (q.1 111 0), .int v237, .int v222, .ref (q.1 129 0)]) g cv_St_upvalue (Or.inl kw_1276) cl_St (pz rfl (by decide)) (ct_St_upvalue hc249) ⟨by decide, by decide⟩ rfl hl.1 (Nat.le_of_ble_eq_true rfl) d_St_move_249 rfl (?_)
    refine ww_st (st' := [.int v249, .ref (q.1 111 0), .int v237, .int v222, .ref (q.1 129 0)]) rfl ?_
    obtain ⟨v252, s, hc252, h⟩ := oB_of h
    refine ww_callV (pc := 252) (rest := [.int v237, .int v222, .ref (q.1 129 0)]) g cv_He_variableValue (Or.inl kw_1278) cl_He (pz rfl (by decide)) (ct_He_variableValue hc252) ⟨by decide, by decide⟩ rfl hl.1 (Nat.le_of_ble_eq_true rfl) d_St_move_252 rfl (?_)
    refine ww_st (st' := [.long v252, .int v237, .int v222, .ref (q.1 129 0)]) rfl ?_
    obtain ⟨v255, s, hc255, h⟩ := oB_of h
    refine ww_callV (pc := 255) (rest := []) g cv_St_set (Or.inl kw_928) cl_St (pz rfl (by decide)) (ct_St_set hc255) ⟨by decide, by decide⟩ rfl hl.1 (Nat.le_of_ble_eq_true rfl) d_St_move_255 rfl (?_)
    refine ww_st (st' := []) rfl ?_
    refine ww_goto (pc := 258) (tgt := 439) g.1 d_St_move_258 (by decide) ?_
    exact ww_vretH (pc := 439) g h hR d_St_move_439
  have h := oC_neg c4_220 h
  by_cases c4_261 : v1 = 6
  · have h := oC_pos c4_261 h
    have c := c4_261
    refine ww_tableIn (pc := 4) (tgt := 261) g.1 d_St_move_4 (by rw [c]; decide) (by rw [c]; decide) (by rw [c] <;> rfl) (by decide) ?_
    refine ww_aload_n (pc := 261) g.1 d_St_move_261 rfl (lv_at hl 0 rfl) ?_
    refine ww_aload_n (pc := 262) g.1 d_St_move_262 rfl (lv_at hl 0 rfl) ?_
    refine ww_gR (pc := 263) g (k := 1) cl_St (pz rfl (by decide)) (by decide) (Or.inl kw_884) (f := 16513) (t := 111) rfl rfl rfl d_St_move_263 ?_
    refine ww_aload_n (pc := 266) g.1 d_St_move_266 rfl (lv_at hl 0 rfl) ?_
    refine ww_aload_n (pc := 267) g.1 d_St_move_267 rfl (lv_at hl 0 rfl) ?_
    refine ww_gI (pc := 268) g (k := 10) cl_St (pz rfl (by decide)) (by decide) (Or.inl kw_878) (f := 16522) rfl rfl d_St_move_268 h fun v268 h => ?_
    obtain ⟨v271, s, hc271, h⟩ := oB_of h
    refine ww_callV (pc := 271) (rest := [.ref (q.1 111 0), .ref (q.1 129 0)]) g cv_St_upvalue (Or.inl kw_1276) cl_St (pz rfl (by decide)) (ct_St_upvalue hc271) ⟨by decide, by decide⟩ rfl hl.1 (Nat.le_of_ble_eq_true rfl) d_St_move_271 rfl (?_)
    refine ww_st (st' := [.int v271, .ref (q.1 111 0), .ref (q.1 129 0)]) rfl ?_
    obtain ⟨v274, s, hc274, h⟩ := oB_of h
    refine ww_callV (pc := 274) (rest := [.ref (q.1 129 0)]) g cv_He_variableKind (Or.inl kw_1277) cl_He (pz rfl (by decide)) (ct_He_variableKind hc274) ⟨by decide, by decide⟩ rfl hl.1 (Nat.le_of_ble_eq_true rfl) d_St_move_274 rfl (?_)
    refine ww_st (st' := [.int v274, .ref (q.1 129 0)]) rfl ?_
    refine ww_aload_n (pc := 277) g.1 d_St_move_277 rfl (lv_at hl 0 rfl) ?_
    refine ww_gR (pc := 278) g (k := 1) cl_St (pz rfl (by decide)) (by decide) (Or.inl kw_884) (f := 16513) (t := 111) rfl rfl rfl d_St_move_278 ?_
    refine ww_aload_n (pc := 281) g.1 d_St_move_281 rfl (lv_at hl 0 rfl) ?_
    refine ww_aload_n (pc := 282) g.1 d_St_move_282 rfl (lv_at hl 0 rfl) ?_
    refine ww_gI (pc := 283) g (k := 10) cl_St (pz rfl (by decide)) (by decide) (Or.inl kw_878) (f := 16522) rfl rfl d_St_move_283 h fun v283 h => ?_
    obtain ⟨v286, s, hc286, h⟩ := oB_of h
    refine ww_callV (pc := 286) (rest := [.ref (q.1 111 0), .int v274, .ref (q.1 129 0)]) g cv_St_upvalue (Or.inl kw_1276) cl_St (pz rfl (by decide)) (ct_St_upvalue hc286) ⟨by decide, by decide⟩ rfl hl.1 (Nat.le_of_ble_eq_true rfl) d_St_move_286 rfl (?_)
    refine ww_st (st' := [.int v286, .ref (q.1 111 0), .int v274, .ref (q.1 129 0)]) rfl ?_
    obtain ⟨v289, s, hc289, h⟩ := oB_of h
    refine ww_callV (pc := 289) (rest := [.int v274, .ref (q.1 129 0)]) g cv_He_variableValue (Or.inl kw_1278) cl_He (pz rfl (by decide)) (ct_He_variableValue hc289) ⟨by decide, by decide⟩ rfl hl.1 (Nat.le_of_ble_eq_true rfl) d_St_move_289 rfl (?_)
    refine ww_st (st' := [.long v289, .int v274, .ref (q.1 129 0)]) rfl ?_
    refine ww_aload_n (pc := 292) g.1 d_St_move_292 rfl (lv_at hl 0 rfl) ?_
    refine ww_aload_n (pc := 293) g.1 d_St_move_293 rfl (lv_at hl 0 rfl) ?_
    refine ww_gI (pc := 294) g (k := 11) cl_St (pz rfl (by decide)) (by decide) (Or.inl kw_879) (f := 16523) rfl rfl d_St_move_294 h fun v294 h => ?_
    obtain ⟨v297, s, hc297, h⟩ := oB_of h
    refine ww_callV (pc := 297) (rest := [.long v289, .int v274, .ref (q.1 129 0)]) g cv_St_kindOf (Or.inl kw_914) cl_St (pz rfl (by decide)) (ct_St_kindOf hc297) ⟨by decide, by decide⟩ rfl hl.1 (Nat.le_of_ble_eq_true rfl) d_St_move_297 rfl (?_)
    refine ww_st (st' := [.int v297, .long v289, .int v274, .ref (q.1 129 0)]) rfl ?_
    refine ww_aload_n (pc := 300) g.1 d_St_move_300 rfl (lv_at hl 0 rfl) ?_
    refine ww_aload_n (pc := 301) g.1 d_St_move_301 rfl (lv_at hl 0 rfl) ?_
    refine ww_gI (pc := 302) g (k := 11) cl_St (pz rfl (by decide)) (by decide) (Or.inl kw_879) (f := 16523) rfl rfl d_St_move_302 h fun v302 h => ?_
    obtain ⟨v305, s, hc305, h⟩ := oB_of h
    refine ww_callV (pc := 305) (rest := [.int v297, .long v289, .int v274, .ref (q.1 129 0)]) g cv_St_valueOf (Or.inl kw_1120) cl_St (pz rfl (by decide)) (ct_St_valueOf hc305) ⟨by decide, by decide⟩ rfl hl.1 (Nat.le_of_ble_eq_true rfl) d_St_move_305 rfl (?_)
    refine ww_st (st' := [.long v305, .int v297, .long v289, .int v274, .ref (q.1 129 0)]) rfl ?_
    obtain ⟨v308, s, hc308, h⟩ := oB_of h
    refine ww_callV (pc := 308) (rest := []) g cv_St_read (Or.inl kw_1279) cl_St (pz rfl (by decide)) (ct_St_read hc308) ⟨by decide, by decide⟩ rfl hl.1 (Nat.le_of_ble_eq_true rfl) d_St_move_308 rfl (?_)
    refine ww_st (st' := []) rfl ?_
    refine ww_goto (pc := 311) (tgt := 439) g.1 d_St_move_311 (by decide) ?_
    exact ww_vretH (pc := 439) g h hR d_St_move_439
  have h := oC_neg c4_261 h
  by_cases c4_314 : v1 = 7
  · have h := oC_pos c4_314 h
    have c := c4_314
    refine ww_tableIn (pc := 4) (tgt := 314) g.1 d_St_move_4 (by rw [c]; decide) (by rw [c]; decide) (by rw [c] <;> rfl) (by decide) ?_
    refine ww_aload_n (pc := 314) g.1 d_St_move_314 rfl (lv_at hl 0 rfl) ?_
    refine ww_aload_n (pc := 315) g.1 d_St_move_315 rfl (lv_at hl 0 rfl) ?_
    refine ww_aload_n (pc := 316) g.1 d_St_move_316 rfl (lv_at hl 0 rfl) ?_
    refine ww_gI (pc := 317) g (k := 10) cl_St (pz rfl (by decide)) (by decide) (Or.inl kw_878) (f := 16522) rfl rfl d_St_move_317 h fun v317 h => ?_
    obtain ⟨v320, s, hc320, h⟩ := oB_of h
    refine ww_callV (pc := 320) (rest := [.ref (q.1 129 0)]) g cv_St_kindOf (Or.inl kw_914) cl_St (pz rfl (by decide)) (ct_St_kindOf hc320) ⟨by decide, by decide⟩ rfl hl.1 (Nat.le_of_ble_eq_true rfl) d_St_move_320 rfl (?_)
    refine ww_st (st' := [.int v320, .ref (q.1 129 0)]) rfl ?_
    refine ww_aload_n (pc := 323) g.1 d_St_move_323 rfl (lv_at hl 0 rfl) ?_
    refine ww_aload_n (pc := 324) g.1 d_St_move_324 rfl (lv_at hl 0 rfl) ?_
    refine ww_gI (pc := 325) g (k := 10) cl_St (pz rfl (by decide)) (by decide) (Or.inl kw_878) (f := 16522) rfl rfl d_St_move_325 h fun v325 h => ?_
    obtain ⟨v328, s, hc328, h⟩ := oB_of h
    refine ww_callV (pc := 328) (rest := [.int v320, .ref (q.1 129 0)]) g cv_St_valueOf (Or.inl kw_1120) cl_St (pz rfl (by decide)) (ct_St_valueOf hc328) ⟨by decide, by decide⟩ rfl hl.1 (Nat.le_of_ble_eq_true rfl) d_St_move_328 rfl (?_)
    refine ww_st (st' := [.long v328, .int v320, .ref (q.1 129 0)]) rfl ?_
    refine ww_aload_n (pc := 331) g.1 d_St_move_331 rfl (lv_at hl 0 rfl) ?_
    refine ww_aload_n (pc := 332) g.1 d_St_move_332 rfl (lv_at hl 0 rfl) ?_
    refine ww_gI (pc := 333) g (k := 11) cl_St (pz rfl (by decide)) (by decide) (Or.inl kw_879) (f := 16523) rfl rfl d_St_move_333 h fun v333 h => ?_
    obtain ⟨v336, s, hc336, h⟩ := oB_of h
    refine ww_callV (pc := 336) (rest := [.long v328, .int v320, .ref (q.1 129 0)]) g cv_St_kindOf (Or.inl kw_914) cl_St (pz rfl (by decide)) (ct_St_kindOf hc336) ⟨by decide, by decide⟩ rfl hl.1 (Nat.le_of_ble_eq_true rfl) d_St_move_336 rfl (?_)
    refine ww_st (st' := [.int v336, .long v328, .int v320, .ref (q.1 129 0)]) rfl ?_
    refine ww_aload_n (pc := 339) g.1 d_St_move_339 rfl (lv_at hl 0 rfl) ?_
    refine ww_aload_n (pc := 340) g.1 d_St_move_340 rfl (lv_at hl 0 rfl) ?_
    refine ww_gI (pc := 341) g (k := 11) cl_St (pz rfl (by decide)) (by decide) (Or.inl kw_879) (f := 16523) rfl rfl d_St_move_341 h fun v341 h => ?_
    obtain ⟨v344, s, hc344, h⟩ := oB_of h
    refine ww_callV (pc := 344) (rest := [.int v336, .long v328, .int v320, .ref (q.1 129 0)]) g cv_St_valueOf (Or.inl kw_1120) cl_St (pz rfl (by decide)) (ct_St_valueOf hc344) ⟨by decide, by decide⟩ rfl hl.1 (Nat.le_of_ble_eq_true rfl) d_St_move_344 rfl (?_)
    refine ww_st (st' := [.long v344, .int v336, .long v328, .int v320, .ref (q.1 129 0)]) rfl ?_
    obtain ⟨v347, s, hc347, h⟩ := oB_of h
    refine ww_callV (pc := 347) (rest := []) g cv_St_read (Or.inl kw_1279) cl_St (pz rfl (by decide)) (ct_St_read hc347) ⟨by decide, by decide⟩ rfl hl.1 (Nat.le_of_ble_eq_true rfl) d_St_move_347 rfl (?_)
    refine ww_st (st' := []) rfl ?_
    refine ww_goto (pc := 350) (tgt := 439) g.1 d_St_move_350 (by decide) ?_
    exact ww_vretH (pc := 439) g h hR d_St_move_439
  have h := oC_neg c4_314 h
  by_cases c4_353 : v1 = 9
  · have h := oC_pos c4_353 h
    have c := c4_353
    refine ww_tableIn (pc := 4) (tgt := 353) g.1 d_St_move_4 (by rw [c]; decide) (by rw [c]; decide) (by rw [c] <;> rfl) (by decide) ?_
    refine ww_aload_n (pc := 353) g.1 d_St_move_353 rfl (lv_at hl 0 rfl) ?_
    refine ww_gR (pc := 354) g (k := 1) cl_St (pz rfl (by decide)) (by decide) (Or.inl kw_884) (f := 16513) (t := 111) rfl rfl rfl d_St_move_354 ?_
    refine ww_aload_n (pc := 357) g.1 d_St_move_357 rfl (lv_at hl 0 rfl) ?_
    refine ww_aload_n (pc := 358) g.1 d_St_move_358 rfl (lv_at hl 0 rfl) ?_
    refine ww_gI (pc := 359) g (k := 10) cl_St (pz rfl (by decide)) (by decide) (Or.inl kw_878) (f := 16522) rfl rfl d_St_move_359 h fun v359 h => ?_
    obtain ⟨v362, s, hc362, h⟩ := oB_of h
    refine ww_callV (pc := 362) (rest := [.ref (q.1 111 0)]) g cv_St_upvalue (Or.inl kw_1276) cl_St (pz rfl (by decide)) (ct_St_upvalue hc362) ⟨by decide, by decide⟩ rfl hl.1 (Nat.le_of_ble_eq_true rfl) d_St_move_362 rfl (?_)
    refine ww_st (st' := [.int v362, .ref (q.1 111 0)]) rfl ?_
    refine ww_aload_n (pc := 365) g.1 d_St_move_365 rfl (lv_at hl 0 rfl) ?_
    refine ww_aload_n (pc := 366) g.1 d_St_move_366 rfl (lv_at hl 0 rfl) ?_
    refine ww_gI (pc := 367) g (k := 9) cl_St (pz rfl (by decide)) (by decide) (Or.inl kw_877) (f := 16521) rfl rfl d_St_move_367 h fun v367 h => ?_
    obtain ⟨v370, s, hc370, h⟩ := oB_of h
    refine ww_callV (pc := 370) (rest := [.int v362, .ref (q.1 111 0)]) g cv_St_kindOf (Or.inl kw_914) cl_St (pz rfl (by decide)) (ct_St_kindOf hc370) ⟨by decide, by decide⟩ rfl hl.1 (Nat.le_of_ble_eq_true rfl) d_St_move_370 rfl (?_)
    refine ww_st (st' := [.int v370, .int v362, .ref (q.1 111 0)]) rfl ?_
    refine ww_aload_n (pc := 373) g.1 d_St_move_373 rfl (lv_at hl 0 rfl) ?_
    refine ww_aload_n (pc := 374) g.1 d_St_move_374 rfl (lv_at hl 0 rfl) ?_
    refine ww_gI (pc := 375) g (k := 9) cl_St (pz rfl (by decide)) (by decide) (Or.inl kw_877) (f := 16521) rfl rfl d_St_move_375 h fun v375 h => ?_
    obtain ⟨v378, s, hc378, h⟩ := oB_of h
    refine ww_callV (pc := 378) (rest := [.int v370, .int v362, .ref (q.1 111 0)]) g cv_St_valueOf (Or.inl kw_1120) cl_St (pz rfl (by decide)) (ct_St_valueOf hc378) ⟨by decide, by decide⟩ rfl hl.1 (Nat.le_of_ble_eq_true rfl) d_St_move_378 rfl (?_)
    refine ww_st (st' := [.long v378, .int v370, .int v362, .ref (q.1 111 0)]) rfl ?_
    obtain ⟨v381, s, hc381, h⟩ := oB_of h
    refine ww_callV (pc := 381) (rest := []) g cv_He_setVariable (Or.inl kw_1280) cl_He (pz rfl (by decide)) (ct_He_setVariable hc381) ⟨by decide, by decide⟩ rfl hl.1 (Nat.le_of_ble_eq_true rfl) d_St_move_381 rfl (?_)
    refine ww_st (st' := []) rfl ?_
    refine ww_goto (pc := 384) (tgt := 439) g.1 d_St_move_384 (by decide) ?_
    exact ww_vretH (pc := 439) g h hR d_St_move_439
  have h := oC_neg c4_353 h
  have n_0 : ¬ v1.toInt = 0 := lv_neT (fun e => c4_60 e) rfl
  have n_1 : ¬ v1.toInt = 1 := lv_neT (fun e => c4_87 e) rfl
  have n_3 : ¬ v1.toInt = 3 := lv_neT (fun e => c4_138 e) rfl
  have n_4 : ¬ v1.toInt = 4 := lv_neT (fun e => c4_186 e) rfl
  have n_5 : ¬ v1.toInt = 5 := lv_neT (fun e => c4_220 e) rfl
  have n_6 : ¬ v1.toInt = 6 := lv_neT (fun e => c4_261 e) rfl
  have n_7 : ¬ v1.toInt = 7 := lv_neT (fun e => c4_314 e) rfl
  have n_9 : ¬ v1.toInt = 9 := lv_neT (fun e => c4_353 e) rfl
  by_cases hr : v1.toInt < 0 ∨ 9 < v1.toInt
  · refine ww_tableOut (pc := 4) (tgt := 387) g.1 d_St_move_4 hr (by decide) ?_
    refine ww_aload_n (pc := 387) g.1 d_St_move_387 rfl (lv_at hl 0 rfl) ?_
    refine ww_aload_n (pc := 388) g.1 d_St_move_388 rfl (lv_at hl 0 rfl) ?_
    refine ww_gI (pc := 389) g (k := 10) cl_St (pz rfl (by decide)) (by decide) (Or.inl kw_878) (f := 16522) rfl rfl d_St_move_389 h fun v389 h => ?_
    obtain ⟨v392, s, hc392, h⟩ := oB_of h
    refine ww_callV (pc := 392) (rest := []) g cv_St_kindOf (Or.inl kw_914) cl_St (pz rfl (by decide)) (ct_St_kindOf hc392) ⟨by decide, by decide⟩ rfl hl.1 (Nat.le_of_ble_eq_true rfl) d_St_move_392 rfl (?_)
    refine ww_st (st' := [.int v392]) rfl ?_
    refine ww_istore_n (pc := 395) (i := 1) g.1 (lv' := [(1, .int v392), (0, .ref (q.1 129 0))]) d_St_move_395 rfl hl (by decide) rfl fun ls hl => ?_
    refine ww_aload_n (pc := 396) g.1 d_St_move_396 rfl (lv_at hl 1 rfl) ?_
    refine ww_aload_n (pc := 397) g.1 d_St_move_397 rfl (lv_at hl 1 rfl) ?_
    refine ww_gI (pc := 398) g (k := 10) cl_St (pz rfl (by decide)) (by decide) (Or.inl kw_878) (f := 16522) rfl rfl d_St_move_398 h fun v398 h => ?_
    obtain ⟨v401, s, hc401, h⟩ := oB_of h
    refine ww_callV (pc := 401) (rest := []) g cv_St_valueOf (Or.inl kw_1120) cl_St (pz rfl (by decide)) (ct_St_valueOf hc401) ⟨by decide, by decide⟩ rfl hl.1 (Nat.le_of_ble_eq_true rfl) d_St_move_401 rfl (?_)
    refine ww_st (st' := [.long v401]) rfl ?_
    refine ww_lstore_n (pc := 404) (i := 2) g.1 (lv' := [(2, .long v401), (1, .int v392), (0, .ref (q.1 129 0))]) d_St_move_404 rfl hl (by decide) rfl fun ls hl => ?_
    refine ww_aload_n (pc := 405) g.1 d_St_move_405 rfl (lv_at hl 2 rfl) ?_
    refine ww_aload_n (pc := 406) g.1 d_St_move_406 rfl (lv_at hl 2 rfl) ?_
    refine ww_gI (pc := 407) g (k := 9) cl_St (pz rfl (by decide)) (by decide) (Or.inl kw_877) (f := 16521) rfl rfl d_St_move_407 h fun v407 h => ?_
    refine ww_iconst (pc := 410) g.1 (v := 1) d_St_move_410 (by decide) ?_
    refine ww_iadd (pc := 411) g.1 d_St_move_411 ?_
    refine ww_iload_n (pc := 412) g.1 d_St_move_412 rfl (lv_at hl 1 rfl) ?_
    refine ww_lload_n (pc := 413) g.1 d_St_move_413 rfl (lv_at hl 0 rfl) ?_
    obtain ⟨v414, s, hc414, h⟩ := oB_of h
    refine ww_callV (pc := 414) (rest := []) g cv_St_set (Or.inl kw_928) cl_St (pz rfl (by decide)) (ct_St_set hc414) ⟨by decide, by decide⟩ rfl hl.1 (Nat.le_of_ble_eq_true rfl) d_St_move_414 rfl (?_)
    refine ww_st (st' := []) rfl ?_
    refine ww_aload_n (pc := 417) g.1 d_St_move_417 rfl (lv_at hl 2 rfl) ?_
    refine ww_iload_n (pc := 418) g.1 d_St_move_418 rfl (lv_at hl 1 rfl) ?_
    refine ww_lload_n (pc := 419) g.1 d_St_move_419 rfl (lv_at hl 0 rfl) ?_
    refine ww_aload_n (pc := 420) g.1 d_St_move_420 rfl (lv_at hl 2 rfl) ?_
    refine ww_aload_n (pc := 421) g.1 d_St_move_421 rfl (lv_at hl 2 rfl) ?_
    refine ww_gI (pc := 422) g (k := 11) cl_St (pz rfl (by decide)) (by decide) (Or.inl kw_879) (f := 16523) rfl rfl d_St_move_422 h fun v422 h => ?_
    obtain ⟨v425, s, hc425, h⟩ := oB_of h
    refine ww_callV (pc := 425) (rest := [.long v401, .int v392, .ref (q.1 129 0)]) g cv_St_kindOf (Or.inl kw_914) cl_St (pz rfl (by decide)) (ct_St_kindOf hc425) ⟨by decide, by decide⟩ rfl hl.1 (Nat.le_of_ble_eq_true rfl) d_St_move_425 rfl (?_)
    refine ww_st (st' := [.int v425, .long v401, .int v392, .ref (q.1 129 0)]) rfl ?_
    refine ww_aload_n (pc := 428) g.1 d_St_move_428 rfl (lv_at hl 2 rfl) ?_
    refine ww_aload_n (pc := 429) g.1 d_St_move_429 rfl (lv_at hl 2 rfl) ?_
    refine ww_gI (pc := 430) g (k := 11) cl_St (pz rfl (by decide)) (by decide) (Or.inl kw_879) (f := 16523) rfl rfl d_St_move_430 h fun v430 h => ?_
    obtain ⟨v433, s, hc433, h⟩ := oB_of h
    refine ww_callV (pc := 433) (rest := [.int v425, .long v401, .int v392, .ref (q.1 129 0)]) g cv_St_valueOf (Or.inl kw_1120) cl_St (pz rfl (by decide)) (ct_St_valueOf hc433) ⟨by decide, by decide⟩ rfl hl.1 (Nat.le_of_ble_eq_true rfl) d_St_move_433 rfl (?_)
    refine ww_st (st' := [.long v433, .int v425, .long v401, .int v392, .ref (q.1 129 0)]) rfl ?_
    obtain ⟨v436, s, hc436, h⟩ := oB_of h
    refine ww_callV (pc := 436) (rest := []) g cv_St_read (Or.inl kw_1279) cl_St (pz rfl (by decide)) (ct_St_read hc436) ⟨by decide, by decide⟩ rfl hl.1 (Nat.le_of_ble_eq_true rfl) d_St_move_436 rfl (?_)
    refine ww_st (st' := []) rfl ?_
    exact ww_vretH (pc := 439) g h hR d_St_move_439
  have hh : v1.toInt = 2 ∨ v1.toInt = 8 := by omega
  rcases hh with c | c
  · refine ww_tableIn (pc := 4) (tgt := 387) g.1 d_St_move_4 (by rw [c]; decide) (by rw [c]; decide) (by rw [c] <;> rfl) (by decide) ?_
    refine ww_aload_n (pc := 387) g.1 d_St_move_387 rfl (lv_at hl 0 rfl) ?_
    refine ww_aload_n (pc := 388) g.1 d_St_move_388 rfl (lv_at hl 0 rfl) ?_
    refine ww_gI (pc := 389) g (k := 10) cl_St (pz rfl (by decide)) (by decide) (Or.inl kw_878) (f := 16522) rfl rfl d_St_move_389 h fun v389 h => ?_
    obtain ⟨v392, s, hc392, h⟩ := oB_of h
    refine ww_callV (pc := 392) (rest := []) g cv_St_kindOf (Or.inl kw_914) cl_St (pz rfl (by decide)) (ct_St_kindOf hc392) ⟨by decide, by decide⟩ rfl hl.1 (Nat.le_of_ble_eq_true rfl) d_St_move_392 rfl (?_)
    refine ww_st (st' := [.int v392]) rfl ?_
    refine ww_istore_n (pc := 395) (i := 1) g.1 (lv' := [(1, .int v392), (0, .ref (q.1 129 0))]) d_St_move_395 rfl hl (by decide) rfl fun ls hl => ?_
    refine ww_aload_n (pc := 396) g.1 d_St_move_396 rfl (lv_at hl 1 rfl) ?_
    refine ww_aload_n (pc := 397) g.1 d_St_move_397 rfl (lv_at hl 1 rfl) ?_
    refine ww_gI (pc := 398) g (k := 10) cl_St (pz rfl (by decide)) (by decide) (Or.inl kw_878) (f := 16522) rfl rfl d_St_move_398 h fun v398 h => ?_
    obtain ⟨v401, s, hc401, h⟩ := oB_of h
    refine ww_callV (pc := 401) (rest := []) g cv_St_valueOf (Or.inl kw_1120) cl_St (pz rfl (by decide)) (ct_St_valueOf hc401) ⟨by decide, by decide⟩ rfl hl.1 (Nat.le_of_ble_eq_true rfl) d_St_move_401 rfl (?_)
    refine ww_st (st' := [.long v401]) rfl ?_
    refine ww_lstore_n (pc := 404) (i := 2) g.1 (lv' := [(2, .long v401), (1, .int v392), (0, .ref (q.1 129 0))]) d_St_move_404 rfl hl (by decide) rfl fun ls hl => ?_
    refine ww_aload_n (pc := 405) g.1 d_St_move_405 rfl (lv_at hl 2 rfl) ?_
    refine ww_aload_n (pc := 406) g.1 d_St_move_406 rfl (lv_at hl 2 rfl) ?_
    refine ww_gI (pc := 407) g (k := 9) cl_St (pz rfl (by decide)) (by decide) (Or.inl kw_877) (f := 16521) rfl rfl d_St_move_407 h fun v407 h => ?_
    refine ww_iconst (pc := 410) g.1 (v := 1) d_St_move_410 (by decide) ?_
    refine ww_iadd (pc := 411) g.1 d_St_move_411 ?_
    refine ww_iload_n (pc := 412) g.1 d_St_move_412 rfl (lv_at hl 1 rfl) ?_
    refine ww_lload_n (pc := 413) g.1 d_St_move_413 rfl (lv_at hl 0 rfl) ?_
    obtain ⟨v414, s, hc414, h⟩ := oB_of h
    refine ww_callV (pc := 414) (rest := []) g cv_St_set (Or.inl kw_928) cl_St (pz rfl (by decide)) (ct_St_set hc414) ⟨by decide, by decide⟩ rfl hl.1 (Nat.le_of_ble_eq_true rfl) d_St_move_414 rfl (?_)
    refine ww_st (st' := []) rfl ?_
    refine ww_aload_n (pc := 417) g.1 d_St_move_417 rfl (lv_at hl 2 rfl) ?_
    refine ww_iload_n (pc := 418) g.1 d_St_move_418 rfl (lv_at hl 1 rfl) ?_
    refine ww_lload_n (pc := 419) g.1 d_St_move_419 rfl (lv_at hl 0 rfl) ?_
    refine ww_aload_n (pc := 420) g.1 d_St_move_420 rfl (lv_at hl 2 rfl) ?_
    refine ww_aload_n (pc := 421) g.1 d_St_move_421 rfl (lv_at hl 2 rfl) ?_
    refine ww_gI (pc := 422) g (k := 11) cl_St (pz rfl (by decide)) (by decide) (Or.inl kw_879) (f := 16523) rfl rfl d_St_move_422 h fun v422 h => ?_
    obtain ⟨v425, s, hc425, h⟩ := oB_of h
    refine ww_callV (pc := 425) (rest := [.long v401, .int v392, .ref (q.1 129 0)]) g cv_St_kindOf (Or.inl kw_914) cl_St (pz rfl (by decide)) (ct_St_kindOf hc425) ⟨by decide, by decide⟩ rfl hl.1 (Nat.le_of_ble_eq_true rfl) d_St_move_425 rfl (?_)
    refine ww_st (st' := [.int v425, .long v401, .int v392, .ref (q.1 129 0)]) rfl ?_
    refine ww_aload_n (pc := 428) g.1 d_St_move_428 rfl (lv_at hl 2 rfl) ?_
    refine ww_aload_n (pc := 429) g.1 d_St_move_429 rfl (lv_at hl 2 rfl) ?_
    refine ww_gI (pc := 430) g (k := 11) cl_St (pz rfl (by decide)) (by decide) (Or.inl kw_879) (f := 16523) rfl rfl d_St_move_430 h fun v430 h => ?_
    obtain ⟨v433, s, hc433, h⟩ := oB_of h
    refine ww_callV (pc := 433) (rest := [.int v425, .long v401, .int v392, .ref (q.1 129 0)]) g cv_St_valueOf (Or.inl kw_1120) cl_St (pz rfl (by decide)) (ct_St_valueOf hc433) ⟨by decide, by decide⟩ rfl hl.1 (Nat.le_of_ble_eq_true rfl) d_St_move_433 rfl (?_)
    refine ww_st (st' := [.long v433, .int v425, .long v401, .int v392, .ref (q.1 129 0)]) rfl ?_
    obtain ⟨v436, s, hc436, h⟩ := oB_of h
    refine ww_callV (pc := 436) (rest := []) g cv_St_read (Or.inl kw_1279) cl_St (pz rfl (by decide)) (ct_St_read hc436) ⟨by decide, by decide⟩ rfl hl.1 (Nat.le_of_ble_eq_true rfl) d_St_move_436 rfl (?_)
    refine ww_st (st' := []) rfl ?_
    exact ww_vretH (pc := 439) g h hR d_St_move_439
  · refine ww_tableIn (pc := 4) (tgt := 387) g.1 d_St_move_4 (by rw [c]; decide) (by rw [c]; decide) (by rw [c] <;> rfl) (by decide) ?_
    refine ww_aload_n (pc := 387) g.1 d_St_move_387 rfl (lv_at hl 0 rfl) ?_
    refine ww_aload_n (pc := 388) g.1 d_St_move_388 rfl (lv_at hl 0 rfl) ?_
    refine ww_gI (pc := 389) g (k := 10) cl_St (pz rfl (by decide)) (by decide) (Or.inl kw_878) (f := 16522) rfl rfl d_St_move_389 h fun v389 h => ?_
    obtain ⟨v392, s, hc392, h⟩ := oB_of h
    refine ww_callV (pc := 392) (rest := []) g cv_St_kindOf (Or.inl kw_914) cl_St (pz rfl (by decide)) (ct_St_kindOf hc392) ⟨by decide, by decide⟩ rfl hl.1 (Nat.le_of_ble_eq_true rfl) d_St_move_392 rfl (?_)
    refine ww_st (st' := [.int v392]) rfl ?_
    refine ww_istore_n (pc := 395) (i := 1) g.1 (lv' := [(1, .int v392), (0, .ref (q.1 129 0))]) d_St_move_395 rfl hl (by decide) rfl fun ls hl => ?_
    refine ww_aload_n (pc := 396) g.1 d_St_move_396 rfl (lv_at hl 1 rfl) ?_
    refine ww_aload_n (pc := 397) g.1 d_St_move_397 rfl (lv_at hl 1 rfl) ?_
    refine ww_gI (pc := 398) g (k := 10) cl_St (pz rfl (by decide)) (by decide) (Or.inl kw_878) (f := 16522) rfl rfl d_St_move_398 h fun v398 h => ?_
    obtain ⟨v401, s, hc401, h⟩ := oB_of h
    refine ww_callV (pc := 401) (rest := []) g cv_St_valueOf (Or.inl kw_1120) cl_St (pz rfl (by decide)) (ct_St_valueOf hc401) ⟨by decide, by decide⟩ rfl hl.1 (Nat.le_of_ble_eq_true rfl) d_St_move_401 rfl (?_)
    refine ww_st (st' := [.long v401]) rfl ?_
    refine ww_lstore_n (pc := 404) (i := 2) g.1 (lv' := [(2, .long v401), (1, .int v392), (0, .ref (q.1 129 0))]) d_St_move_404 rfl hl (by decide) rfl fun ls hl => ?_
    refine ww_aload_n (pc := 405) g.1 d_St_move_405 rfl (lv_at hl 2 rfl) ?_
    refine ww_aload_n (pc := 406) g.1 d_St_move_406 rfl (lv_at hl 2 rfl) ?_
    refine ww_gI (pc := 407) g (k := 9) cl_St (pz rfl (by decide)) (by decide) (Or.inl kw_877) (f := 16521) rfl rfl d_St_move_407 h fun v407 h => ?_
    refine ww_iconst (pc := 410) g.1 (v := 1) d_St_move_410 (by decide) ?_
    refine ww_iadd (pc := 411) g.1 d_St_move_411 ?_
    refine ww_iload_n (pc := 412) g.1 d_St_move_412 rfl (lv_at hl 1 rfl) ?_
    refine ww_lload_n (pc := 413) g.1 d_St_move_413 rfl (lv_at hl 0 rfl) ?_
    obtain ⟨v414, s, hc414, h⟩ := oB_of h
    refine ww_callV (pc := 414) (rest := []) g cv_St_set (Or.inl kw_928) cl_St (pz rfl (by decide)) (ct_St_set hc414) ⟨by decide, by decide⟩ rfl hl.1 (Nat.le_of_ble_eq_true rfl) d_St_move_414 rfl (?_)
    refine ww_st (st' := []) rfl ?_
    refine ww_aload_n (pc := 417) g.1 d_St_move_417 rfl (lv_at hl 2 rfl) ?_
    refine ww_iload_n (pc := 418) g.1 d_St_move_418 rfl (lv_at hl 1 rfl) ?_
    refine ww_lload_n (pc := 419) g.1 d_St_move_419 rfl (lv_at hl 0 rfl) ?_
    refine ww_aload_n (pc := 420) g.1 d_St_move_420 rfl (lv_at hl 2 rfl) ?_
    refine ww_aload_n (pc := 421) g.1 d_St_move_421 rfl (lv_at hl 2 rfl) ?_
    refine ww_gI (pc := 422) g (k := 11) cl_St (pz rfl (by decide)) (by decide) (Or.inl kw_879) (f := 16523) rfl rfl d_St_move_422 h fun v422 h => ?_
    obtain ⟨v425, s, hc425, h⟩ := oB_of h
    refine ww_callV (pc := 425) (rest := [.long v401, .int v392, .ref (q.1 129 0)]) g cv_St_kindOf (Or.inl kw_914) cl_St (pz rfl (by decide)) (ct_St_kindOf hc425) ⟨by decide, by decide⟩ rfl hl.1 (Nat.le_of_ble_eq_true rfl) d_St_move_425 rfl (?_)
    refine ww_st (st' := [.int v425, .long v401, .int v392, .ref (q.1 129 0)]) rfl ?_
    refine ww_aload_n (pc := 428) g.1 d_St_move_428 rfl (lv_at hl 2 rfl) ?_
    refine ww_aload_n (pc := 429) g.1 d_St_move_429 rfl (lv_at hl 2 rfl) ?_
    refine ww_gI (pc := 430) g (k := 11) cl_St (pz rfl (by decide)) (by decide) (Or.inl kw_879) (f := 16523) rfl rfl d_St_move_430 h fun v430 h => ?_
    obtain ⟨v433, s, hc433, h⟩ := oB_of h
    refine ww_callV (pc := 433) (rest := [.int v425, .long v401, .int v392, .ref (q.1 129 0)]) g cv_St_valueOf (Or.inl kw_1120) cl_St (pz rfl (by decide)) (ct_St_valueOf hc433) ⟨by decide, by decide⟩ rfl hl.1 (Nat.le_of_ble_eq_true rfl) d_St_move_433 rfl (?_)
    refine ww_st (st' := [.long v433, .int v425, .long v401, .int v392, .ref (q.1 129 0)]) rfl ?_
    obtain ⟨v436, s, hc436, h⟩ := oB_of h
    refine ww_callV (pc := 436) (rest := []) g cv_St_read (Or.inl kw_1279) cl_St (pz rfl (by decide)) (ct_St_read hc436) ⟨by decide, by decide⟩ rfl hl.1 (Nat.le_of_ble_eq_true rfl) d_St_move_436 rfl (?_)
    refine ww_st (st' := []) rfl ?_
    exact ww_vretH (pc := 439) g h hR d_St_move_439

abbrev b_St_reckon : ByteArray := prog_10_method_14_code
def y_St_reckon : MethodName := ⟨R_St, "reckon", "()V"⟩
abbrev w_St_reckon : List Cond := .code y_St_reckon b_St_reckon 5 none :: wA
set_option maxRecDepth 20000 in
theorem k_St_reckon : Cond.code y_St_reckon b_St_reckon 5 none ∈ wA := kinm (show _ ∈ tables_1 from (List.mem_append_right _ (List.mem_append_right _ (List.mem_append_right _ (List.mem_append_right _ (List.mem_append_right _ (List.mem_append_right _ (List.mem_append_left _ (List.mem_of_getElem? (l := tables_1_7) (i := 106) rfl))))))))) rfl
theorem d_St_reckon_0 : decode b_St_reckon 0 = .ok (.aload_n 0, 1) := by decide +kernel
theorem d_St_reckon_1 : decode b_St_reckon 1 = .ok (.aload_n 0, 1) := by decide +kernel
theorem d_St_reckon_2 : decode b_St_reckon 2 = .ok (.getfield 137, 3) := by decide +kernel
theorem d_St_reckon_5 : decode b_St_reckon 5 = .ok (.invokevirtual 77, 3) := by decide +kernel
theorem d_St_reckon_8 : decode b_St_reckon 8 = .ok (.iconst 3, 1) := by decide +kernel
theorem d_St_reckon_9 : decode b_St_reckon 9 = .ok (.if_icmp .ne 15, 3) := by decide +kernel
theorem d_St_reckon_12 : decode b_St_reckon 12 = .ok (.aload_n 0, 1) := by decide +kernel
theorem d_St_reckon_13 : decode b_St_reckon 13 = .ok (.aload_n 0, 1) := by decide +kernel
theorem d_St_reckon_14 : decode b_St_reckon 14 = .ok (.getfield 140, 3) := by decide +kernel
theorem d_St_reckon_17 : decode b_St_reckon 17 = .ok (.invokevirtual 77, 3) := by decide +kernel
theorem d_St_reckon_20 : decode b_St_reckon 20 = .ok (.iconst 3, 1) := by decide +kernel
theorem d_St_reckon_21 : decode b_St_reckon 21 = .ok (.if_icmp .eq 79, 3) := by decide +kernel
theorem d_St_reckon_24 : decode b_St_reckon 24 = .ok (.aload_n 0, 1) := by decide +kernel
theorem d_St_reckon_25 : decode b_St_reckon 25 = .ok (.getfield 54, 3) := by decide +kernel
theorem d_St_reckon_28 : decode b_St_reckon 28 = .ok (.bipush 16, 2) := by decide +kernel
theorem d_St_reckon_30 : decode b_St_reckon 30 = .ok (.if_icmp .gt 13, 3) := by decide +kernel
theorem d_St_reckon_33 : decode b_St_reckon 33 = .ok (.aload_n 0, 1) := by decide +kernel
theorem d_St_reckon_34 : decode b_St_reckon 34 = .ok (.getfield 54, 3) := by decide +kernel
theorem d_St_reckon_37 : decode b_St_reckon 37 = .ok (.bipush 10, 2) := by decide +kernel
theorem d_St_reckon_39 : decode b_St_reckon 39 = .ok (.isub, 1) := by decide +kernel
theorem d_St_reckon_40 : decode b_St_reckon 40 = .ok (.goto 10, 3) := by decide +kernel
theorem d_St_reckon_43 : decode b_St_reckon 43 = .ok (.aload_n 0, 1) := by decide +kernel
theorem d_St_reckon_44 : decode b_St_reckon 44 = .ok (.getfield 54, 3) := by decide +kernel
theorem d_St_reckon_47 : decode b_St_reckon 47 = .ok (.bipush 12, 2) := by decide +kernel
theorem d_St_reckon_49 : decode b_St_reckon 49 = .ok (.isub, 1) := by decide +kernel
theorem d_St_reckon_50 : decode b_St_reckon 50 = .ok (.istore_n 1, 1) := by decide +kernel
theorem d_St_reckon_51 : decode b_St_reckon 51 = .ok (.aload_n 0, 1) := by decide +kernel
theorem d_St_reckon_52 : decode b_St_reckon 52 = .ok (.iload_n 1, 1) := by decide +kernel
theorem d_St_reckon_53 : decode b_St_reckon 53 = .ok (.aload_n 0, 1) := by decide +kernel
theorem d_St_reckon_54 : decode b_St_reckon 54 = .ok (.aload_n 0, 1) := by decide +kernel
theorem d_St_reckon_55 : decode b_St_reckon 55 = .ok (.getfield 137, 3) := by decide +kernel
theorem d_St_reckon_58 : decode b_St_reckon 58 = .ok (.invokevirtual 77, 3) := by decide +kernel
theorem d_St_reckon_61 : decode b_St_reckon 61 = .ok (.aload_n 0, 1) := by decide +kernel
theorem d_St_reckon_62 : decode b_St_reckon 62 = .ok (.aload_n 0, 1) := by decide +kernel
theorem d_St_reckon_63 : decode b_St_reckon 63 = .ok (.getfield 137, 3) := by decide +kernel
theorem d_St_reckon_66 : decode b_St_reckon 66 = .ok (.invokevirtual 80, 3) := by decide +kernel
theorem d_St_reckon_69 : decode b_St_reckon 69 = .ok (.aload_n 0, 1) := by decide +kernel
theorem d_St_reckon_70 : decode b_St_reckon 70 = .ok (.aload_n 0, 1) := by decide +kernel
theorem d_St_reckon_71 : decode b_St_reckon 71 = .ok (.getfield 140, 3) := by decide +kernel
theorem d_St_reckon_74 : decode b_St_reckon 74 = .ok (.invokevirtual 77, 3) := by decide +kernel
theorem d_St_reckon_77 : decode b_St_reckon 77 = .ok (.aload_n 0, 1) := by decide +kernel
theorem d_St_reckon_78 : decode b_St_reckon 78 = .ok (.aload_n 0, 1) := by decide +kernel
theorem d_St_reckon_79 : decode b_St_reckon 79 = .ok (.getfield 140, 3) := by decide +kernel
theorem d_St_reckon_82 : decode b_St_reckon 82 = .ok (.invokevirtual 80, 3) := by decide +kernel
theorem d_St_reckon_85 : decode b_St_reckon 85 = .ok (.invokevirtual 225, 3) := by decide +kernel
theorem d_St_reckon_88 : decode b_St_reckon 88 = .ok (.ifCond .ne 11, 3) := by decide +kernel
theorem d_St_reckon_91 : decode b_St_reckon 91 = .ok (.aload_n 0, 1) := by decide +kernel
theorem d_St_reckon_92 : decode b_St_reckon 92 = .ok (.getfield 9, 3) := by decide +kernel
theorem d_St_reckon_95 : decode b_St_reckon 95 = .ok (.iconst 3, 1) := by decide +kernel
theorem d_St_reckon_96 : decode b_St_reckon 96 = .ok (.invokevirtual 193, 3) := by decide +kernel
theorem d_St_reckon_99 : decode b_St_reckon 99 = .ok (.return_, 1) := by decide +kernel
theorem d_St_reckon_100 : decode b_St_reckon 100 = .ok (.aload_n 0, 1) := by decide +kernel
theorem d_St_reckon_101 : decode b_St_reckon 101 = .ok (.aload_n 0, 1) := by decide +kernel
theorem d_St_reckon_102 : decode b_St_reckon 102 = .ok (.getfield 137, 3) := by decide +kernel
theorem d_St_reckon_105 : decode b_St_reckon 105 = .ok (.invokevirtual 80, 3) := by decide +kernel
theorem d_St_reckon_108 : decode b_St_reckon 108 = .ok (.lstore_n 1, 1) := by decide +kernel
theorem d_St_reckon_109 : decode b_St_reckon 109 = .ok (.aload_n 0, 1) := by decide +kernel
theorem d_St_reckon_110 : decode b_St_reckon 110 = .ok (.aload_n 0, 1) := by decide +kernel
theorem d_St_reckon_111 : decode b_St_reckon 111 = .ok (.getfield 140, 3) := by decide +kernel
theorem d_St_reckon_114 : decode b_St_reckon 114 = .ok (.invokevirtual 80, 3) := by decide +kernel
theorem d_St_reckon_117 : decode b_St_reckon 117 = .ok (.lstore_n 3, 1) := by decide +kernel
theorem d_St_reckon_118 : decode b_St_reckon 118 = .ok (.lload_n 3, 1) := by decide +kernel
theorem d_St_reckon_119 : decode b_St_reckon 119 = .ok (.lconst 0, 1) := by decide +kernel
theorem d_St_reckon_120 : decode b_St_reckon 120 = .ok (.lcmp, 1) := by decide +kernel
theorem d_St_reckon_121 : decode b_St_reckon 121 = .ok (.ifCond .ne 32, 3) := by decide +kernel
theorem d_St_reckon_124 : decode b_St_reckon 124 = .ok (.aload_n 0, 1) := by decide +kernel
theorem d_St_reckon_125 : decode b_St_reckon 125 = .ok (.getfield 54, 3) := by decide +kernel
theorem d_St_reckon_128 : decode b_St_reckon 128 = .ok (.bipush 16, 2) := by decide +kernel
theorem d_St_reckon_130 : decode b_St_reckon 130 = .ok (.if_icmp .eq 12, 3) := by decide +kernel
theorem d_St_reckon_133 : decode b_St_reckon 133 = .ok (.aload_n 0, 1) := by decide +kernel
theorem d_St_reckon_134 : decode b_St_reckon 134 = .ok (.getfield 54, 3) := by decide +kernel
theorem d_St_reckon_137 : decode b_St_reckon 137 = .ok (.bipush 19, 2) := by decide +kernel
theorem d_St_reckon_139 : decode b_St_reckon 139 = .ok (.if_icmp .ne 14, 3) := by decide +kernel
theorem d_St_reckon_142 : decode b_St_reckon 142 = .ok (.aload_n 0, 1) := by decide +kernel
theorem d_St_reckon_143 : decode b_St_reckon 143 = .ok (.getfield 9, 3) := by decide +kernel
theorem d_St_reckon_146 : decode b_St_reckon 146 = .ok (.iconst 5, 1) := by decide +kernel
theorem d_St_reckon_147 : decode b_St_reckon 147 = .ok (.invokevirtual 193, 3) := by decide +kernel
theorem d_St_reckon_150 : decode b_St_reckon 150 = .ok (.goto 18, 3) := by decide +kernel
theorem d_St_reckon_153 : decode b_St_reckon 153 = .ok (.aload_n 0, 1) := by decide +kernel
theorem d_St_reckon_154 : decode b_St_reckon 154 = .ok (.aload_n 0, 1) := by decide +kernel
theorem d_St_reckon_155 : decode b_St_reckon 155 = .ok (.getfield 57, 3) := by decide +kernel
theorem d_St_reckon_158 : decode b_St_reckon 158 = .ok (.iconst 3, 1) := by decide +kernel
theorem d_St_reckon_159 : decode b_St_reckon 159 = .ok (.aload_n 0, 1) := by decide +kernel
theorem d_St_reckon_160 : decode b_St_reckon 160 = .ok (.lload_n 1, 1) := by decide +kernel
theorem d_St_reckon_161 : decode b_St_reckon 161 = .ok (.lload_n 3, 1) := by decide +kernel
theorem d_St_reckon_162 : decode b_St_reckon 162 = .ok (.invokevirtual 229, 3) := by decide +kernel
theorem d_St_reckon_165 : decode b_St_reckon 165 = .ok (.invokevirtual 176, 3) := by decide +kernel
theorem d_St_reckon_168 : decode b_St_reckon 168 = .ok (.return_, 1) := by decide +kernel
theorem kw_1283 : Cond.methodLink R_St 229 y_St_reckoned ∈ wA := kinm (show _ ∈ tables_1 from (List.mem_append_right _ (List.mem_append_right _ (List.mem_append_right _ (List.mem_append_right _ (List.mem_append_right _ (List.mem_append_right _ (List.mem_append_left _ (List.mem_of_getElem? (l := tables_1_7) (i := 111) (by decide +kernel)))))))))) (by decide +kernel)
theorem kw_1284 : Cond.instanceMethod y_St_reckon ∈ wA := kinm (show _ ∈ tables_1 from (List.mem_append_right _ (List.mem_append_right _ (List.mem_append_right _ (List.mem_append_right _ (List.mem_append_right _ (List.mem_append_right _ (List.mem_append_left _ (List.mem_of_getElem? (l := tables_1_7) (i := 105) (by decide +kernel)))))))))) (by decide +kernel)
theorem kw_1285 : Cond.selects R_St y_St_reckon y_St_reckon ∈ wA := kinp 47 (by decide +kernel) (by decide +kernel)
theorem cv_St_reckon : CV y_St_reckon b_St_reckon 5 none 0 := ⟨kw_1284, kw_1285, kw_883, k_St_reckon, by decide +kernel⟩
theorem j_St_reckon_j50 {X : Cx} {q : PL} (g : Gd X y_St_reckon b_St_reckon 5 none 4 105 R_St) {o : (Unit) × S1} (hR : Rt X q o.2 none) (k0 : Int32) (s : S1) (ls : Array Slot) (hl : lv_has ls 5 [(0, .ref (q.1 129 0))]) (h : M_St_reckon_j50 k0 s = some o) : WW X q s 50 ls [.int k0] := by
  unfold M_St_reckon_j50 at h
  refine ww_istore_n (pc := 50) (i := 1) g.1 (lv' := [(1, .int k0), (0, .ref (q.1 129 0))]) d_St_reckon_50 rfl hl (by decide) rfl fun ls hl => ?_
  refine ww_aload_n (pc := 51) g.1 d_St_reckon_51 rfl (lv_at hl 1 rfl) ?_
  refine ww_iload_n (pc := 52) g.1 d_St_reckon_52 rfl (lv_at hl 0 rfl) ?_
  refine ww_aload_n (pc := 53) g.1 d_St_reckon_53 rfl (lv_at hl 1 rfl) ?_
  refine ww_aload_n (pc := 54) g.1 d_St_reckon_54 rfl (lv_at hl 1 rfl) ?_
  refine ww_gI (pc := 55) g (k := 10) cl_St (pz rfl (by decide)) (by decide) (Or.inl kw_878) (f := 16522) rfl rfl d_St_reckon_55 h fun v55 h => ?_
  obtain ⟨v58, s, hc58, h⟩ := oB_of h
  refine ww_callV (pc := 58) (rest := [.int k0, .ref (q.1 129 0)]) g cv_St_kindOf (Or.inl kw_914) cl_St (pz rfl (by decide)) (ct_St_kindOf hc58) ⟨by decide, by decide⟩ rfl hl.1 (Nat.le_of_ble_eq_true rfl) d_St_reckon_58 rfl (?_)
  refine ww_st (st' := [.int v58, .int k0, .ref (q.1 129 0)]) rfl ?_
  refine ww_aload_n (pc := 61) g.1 d_St_reckon_61 rfl (lv_at hl 1 rfl) ?_
  refine ww_aload_n (pc := 62) g.1 d_St_reckon_62 rfl (lv_at hl 1 rfl) ?_
  refine ww_gI (pc := 63) g (k := 10) cl_St (pz rfl (by decide)) (by decide) (Or.inl kw_878) (f := 16522) rfl rfl d_St_reckon_63 h fun v63 h => ?_
  obtain ⟨v66, s, hc66, h⟩ := oB_of h
  refine ww_callV (pc := 66) (rest := [.int v58, .int k0, .ref (q.1 129 0)]) g cv_St_valueOf (Or.inl kw_1120) cl_St (pz rfl (by decide)) (ct_St_valueOf hc66) ⟨by decide, by decide⟩ rfl hl.1 (Nat.le_of_ble_eq_true rfl) d_St_reckon_66 rfl (?_)
  refine ww_st (st' := [.long v66, .int v58, .int k0, .ref (q.1 129 0)]) rfl ?_
  refine ww_aload_n (pc := 69) g.1 d_St_reckon_69 rfl (lv_at hl 1 rfl) ?_
  refine ww_aload_n (pc := 70) g.1 d_St_reckon_70 rfl (lv_at hl 1 rfl) ?_
  refine ww_gI (pc := 71) g (k := 11) cl_St (pz rfl (by decide)) (by decide) (Or.inl kw_879) (f := 16523) rfl rfl d_St_reckon_71 h fun v71 h => ?_
  obtain ⟨v74, s, hc74, h⟩ := oB_of h
  refine ww_callV (pc := 74) (rest := [.long v66, .int v58, .int k0, .ref (q.1 129 0)]) g cv_St_kindOf (Or.inl kw_914) cl_St (pz rfl (by decide)) (ct_St_kindOf hc74) ⟨by decide, by decide⟩ rfl hl.1 (Nat.le_of_ble_eq_true rfl) d_St_reckon_74 rfl (?_)
  refine ww_st (st' := [.int v74, .long v66, .int v58, .int k0, .ref (q.1 129 0)]) rfl ?_
  refine ww_aload_n (pc := 77) g.1 d_St_reckon_77 rfl (lv_at hl 1 rfl) ?_
  refine ww_aload_n (pc := 78) g.1 d_St_reckon_78 rfl (lv_at hl 1 rfl) ?_
  refine ww_gI (pc := 79) g (k := 11) cl_St (pz rfl (by decide)) (by decide) (Or.inl kw_879) (f := 16523) rfl rfl d_St_reckon_79 h fun v79 h => ?_
  obtain ⟨v82, s, hc82, h⟩ := oB_of h
  refine ww_callV (pc := 82) (rest := [.int v74, .long v66, .int v58, .int k0, .ref (q.1 129 0)]) g cv_St_valueOf (Or.inl kw_1120) cl_St (pz rfl (by decide)) (ct_St_valueOf hc82) ⟨by decide, by decide⟩ rfl hl.1 (Nat.le_of_ble_eq_true rfl) d_St_reckon_82 rfl (?_)
  refine ww_st (st' := [.long v82, .int v74, .long v66, .int v58, .int k0, .ref (q.1 129 0)]) rfl ?_
  obtain ⟨v85, s, hc85, h⟩ := oB_of h
  refine ww_callV (pc := 85) (rest := []) g cv_St_callsEither (Or.inl kw_1122) cl_St (pz rfl (by decide)) (ct_St_callsEither hc85) ⟨by decide, by decide⟩ rfl hl.1 (Nat.le_of_ble_eq_true rfl) d_St_reckon_85 rfl (?_)
  refine ww_st (st' := [.int v85]) rfl ?_
  refine ww_if_ne (pc := 88) (tgt := 99) g.1 d_St_reckon_88 (by decide) h (fun c h => ?_) (fun c h => ?_)
  · exact ww_vretH (pc := 99) g h hR d_St_reckon_99
  · refine ww_aload_n (pc := 91) g.1 d_St_reckon_91 rfl (lv_at hl 1 rfl) ?_
    refine ww_gR (pc := 92) g (k := 0) cl_St (pz rfl (by decide)) (by decide) (Or.inl kw_863) (f := 16512) (t := 128) rfl rfl rfl d_St_reckon_92 ?_
    refine ww_iconst (pc := 95) g.1 (v := 3) d_St_reckon_95 (by decide) ?_
    obtain ⟨v96, s, hc96, h⟩ := oB_of h
    refine ww_callV (pc := 96) (rest := []) g cv_Ma_fail (Or.inl kw_1106) cl_Ma (pz rfl (by decide)) (ct_Ma_fail hc96) ⟨by decide, by decide⟩ rfl hl.1 (Nat.le_of_ble_eq_true rfl) d_St_reckon_96 rfl (?_)
    refine ww_st (st' := []) rfl ?_
    exact ww_vretH (pc := 99) g h hR d_St_reckon_99

theorem j_St_reckon_j24 {X : Cx} {q : PL} (g : Gd X y_St_reckon b_St_reckon 5 none 4 105 R_St) {o : (Unit) × S1} (hR : Rt X q o.2 none)  (s : S1) (ls : Array Slot) (hl : lv_has ls 5 [(0, .ref (q.1 129 0))]) (h : M_St_reckon_j24 s = some o) : WW X q s 24 ls [] := by
  unfold M_St_reckon_j24 at h
  refine ww_aload_n (pc := 24) g.1 d_St_reckon_24 rfl (lv_at hl 0 rfl) ?_
  refine ww_gI (pc := 25) g (k := 8) cl_St (pz rfl (by decide)) (by decide) (Or.inl kw_876) (f := 16520) rfl rfl d_St_reckon_25 h fun v25 h => ?_
  refine ww_bipush (pc := 28) g.1 (v := 16) d_St_reckon_28 (by decide) ?_
  refine ww_icmp_gt (pc := 30) (tgt := 43) g.1 d_St_reckon_30 (by decide) h (fun c h => ?_) (fun c h => ?_)
  · refine ww_aload_n (pc := 43) g.1 d_St_reckon_43 rfl (lv_at hl 0 rfl) ?_
    refine ww_gI (pc := 44) g (k := 8) cl_St (pz rfl (by decide)) (by decide) (Or.inl kw_876) (f := 16520) rfl rfl d_St_reckon_44 h fun v44 h => ?_
    refine ww_bipush (pc := 47) g.1 (v := 12) d_St_reckon_47 (by decide) ?_
    refine ww_isub (pc := 49) g.1 d_St_reckon_49 ?_
    exact j_St_reckon_j50 g hR (v44 - 12) s ls (lv_sub hl [0] rfl) h
  · refine ww_aload_n (pc := 33) g.1 d_St_reckon_33 rfl (lv_at hl 0 rfl) ?_
    refine ww_gI (pc := 34) g (k := 8) cl_St (pz rfl (by decide)) (by decide) (Or.inl kw_876) (f := 16520) rfl rfl d_St_reckon_34 h fun v34 h => ?_
    refine ww_bipush (pc := 37) g.1 (v := 10) d_St_reckon_37 (by decide) ?_
    refine ww_isub (pc := 39) g.1 d_St_reckon_39 ?_
    refine ww_goto (pc := 40) (tgt := 50) g.1 d_St_reckon_40 (by decide) ?_
    exact j_St_reckon_j50 g hR (v34 - 10) s ls (lv_sub hl [0] rfl) h

theorem j_St_reckon_j153 {X : Cx} {q : PL} (g : Gd X y_St_reckon b_St_reckon 5 none 4 105 R_St) {o : (Unit) × S1} (hR : Rt X q o.2 none) (l1 : Int64) (l3 : Int64) (s : S1) (ls : Array Slot) (hl : lv_has ls 5 [(0, .ref (q.1 129 0)), (1, .long l1), (3, .long l3)]) (h : M_St_reckon_j153 l1 l3 s = some o) : WW X q s 153 ls [] := by
  unfold M_St_reckon_j153 at h
  refine ww_aload_n (pc := 153) g.1 d_St_reckon_153 rfl (lv_at hl 0 rfl) ?_
  refine ww_aload_n (pc := 154) g.1 d_St_reckon_154 rfl (lv_at hl 0 rfl) ?_
  refine ww_gI (pc := 155) g (k := 9) cl_St (pz rfl (by decide)) (by decide) (Or.inl kw_877) (f := 16521) rfl rfl d_St_reckon_155 h fun v155 h => ?_
  refine ww_iconst (pc := 158) g.1 (v := 3) d_St_reckon_158 (by decide) ?_
  refine ww_aload_n (pc := 159) g.1 d_St_reckon_159 rfl (lv_at hl 0 rfl) ?_
  refine ww_lload_n (pc := 160) g.1 d_St_reckon_160 rfl (lv_at hl 1 rfl) ?_
  refine ww_lload_n (pc := 161) g.1 d_St_reckon_161 rfl (lv_at hl 2 rfl) ?_
  obtain ⟨v162, s, hc162, h⟩ := oB_of h
  refine ww_callV (pc := 162) (rest := [.int 3, .int v155, .ref (q.1 129 0)]) g cv_St_reckoned (Or.inl kw_1283) cl_St (pz rfl (by decide)) (ct_St_reckoned hc162) ⟨by decide, by decide⟩ rfl hl.1 (Nat.le_of_ble_eq_true rfl) d_St_reckon_162 rfl (?_)
  refine ww_st (st' := [.long v162, .int 3, .int v155, .ref (q.1 129 0)]) rfl ?_
  obtain ⟨v165, s, hc165, h⟩ := oB_of h
  refine ww_callV (pc := 165) (rest := []) g cv_St_set (Or.inl kw_928) cl_St (pz rfl (by decide)) (ct_St_set hc165) ⟨by decide, by decide⟩ rfl hl.1 (Nat.le_of_ble_eq_true rfl) d_St_reckon_165 rfl (?_)
  refine ww_st (st' := []) rfl ?_
  exact ww_vretH (pc := 168) g h hR d_St_reckon_168

theorem j_St_reckon_j142 {X : Cx} {q : PL} (g : Gd X y_St_reckon b_St_reckon 5 none 4 105 R_St) {o : (Unit) × S1} (hR : Rt X q o.2 none)  (s : S1) (ls : Array Slot) (hl : lv_has ls 5 [(0, .ref (q.1 129 0))]) (h : M_St_reckon_j142 s = some o) : WW X q s 142 ls [] := by
  unfold M_St_reckon_j142 at h
  refine ww_aload_n (pc := 142) g.1 d_St_reckon_142 rfl (lv_at hl 0 rfl) ?_
  refine ww_gR (pc := 143) g (k := 0) cl_St (pz rfl (by decide)) (by decide) (Or.inl kw_863) (f := 16512) (t := 128) rfl rfl rfl d_St_reckon_143 ?_
  refine ww_iconst (pc := 146) g.1 (v := 5) d_St_reckon_146 (by decide) ?_
  obtain ⟨v147, s, hc147, h⟩ := oB_of h
  refine ww_callV (pc := 147) (rest := []) g cv_Ma_fail (Or.inl kw_1106) cl_Ma (pz rfl (by decide)) (ct_Ma_fail hc147) ⟨by decide, by decide⟩ rfl hl.1 (Nat.le_of_ble_eq_true rfl) d_St_reckon_147 rfl (?_)
  refine ww_st (st' := []) rfl ?_
  refine ww_goto (pc := 150) (tgt := 168) g.1 d_St_reckon_150 (by decide) ?_
  exact ww_vretH (pc := 168) g h hR d_St_reckon_168

theorem ct_St_reckon {l : Launch} {P : PP} {q : PL} {s s' : S1}  {r : Unit} (h : M_St_reckon s = some (r, s')) : Ct l y_St_reckon b_St_reckon 5 none 4 105 P q s [.ref (q.1 129 0)] none q s' := by
  refine ct_of (by decide) (Nat.le_of_ble_eq_true rfl) fun X ls eP el g hR hl => ?_
  subst eP
  have hR : Rt X q ((r, s') : Unit × S1).2 none := hR
  have hl : lv_has ls 5 [(0, .ref (q.1 129 0))] := hl
  generalize (r, s') = o at h hR
  unfold M_St_reckon at h
  refine ww_aload_n (pc := 0) g.1 d_St_reckon_0 rfl (lv_at hl 0 rfl) ?_
  refine ww_aload_n (pc := 1) g.1 d_St_reckon_1 rfl (lv_at hl 0 rfl) ?_
  refine ww_gI (pc := 2) g (k := 10) cl_St (pz rfl (by decide)) (by decide) (Or.inl kw_878) (f := 16522) rfl rfl d_St_reckon_2 h fun v2 h => ?_
  obtain ⟨v5, s, hc5, h⟩ := oB_of h
  refine ww_callV (pc := 5) (rest := []) g cv_St_kindOf (Or.inl kw_914) cl_St (pz rfl (by decide)) (ct_St_kindOf hc5) ⟨by decide, by decide⟩ rfl hl.1 (Nat.le_of_ble_eq_true rfl) d_St_reckon_5 rfl (?_)
  refine ww_st (st' := [.int v5]) rfl ?_
  refine ww_iconst (pc := 8) g.1 (v := 3) d_St_reckon_8 (by decide) ?_
  refine ww_icmp_ne (pc := 9) (tgt := 24) g.1 d_St_reckon_9 (by decide) h (fun c h => ?_) (fun c h => ?_)
  · exact j_St_reckon_j24 g hR s ls (lv_sub hl [0] rfl) h
  · refine ww_aload_n (pc := 12) g.1 d_St_reckon_12 rfl (lv_at hl 0 rfl) ?_
    refine ww_aload_n (pc := 13) g.1 d_St_reckon_13 rfl (lv_at hl 0 rfl) ?_
    refine ww_gI (pc := 14) g (k := 11) cl_St (pz rfl (by decide)) (by decide) (Or.inl kw_879) (f := 16523) rfl rfl d_St_reckon_14 h fun v14 h => ?_
    obtain ⟨v17, s, hc17, h⟩ := oB_of h
    refine ww_callV (pc := 17) (rest := []) g cv_St_kindOf (Or.inl kw_914) cl_St (pz rfl (by decide)) (ct_St_kindOf hc17) ⟨by decide, by decide⟩ rfl hl.1 (Nat.le_of_ble_eq_true rfl) d_St_reckon_17 rfl (?_)
    refine ww_st (st' := [.int v17]) rfl ?_
    refine ww_iconst (pc := 20) g.1 (v := 3) d_St_reckon_20 (by decide) ?_
    refine ww_icmp_eq (pc := 21) (tgt := 100) g.1 d_St_reckon_21 (by decide) h (fun c h => ?_) (fun c h => ?_)
    · refine ww_aload_n (pc := 100) g.1 d_St_reckon_100 rfl (lv_at hl 0 rfl) ?_
      refine ww_aload_n (pc := 101) g.1 d_St_reckon_101 rfl (lv_at hl 0 rfl) ?_
      refine ww_gI (pc := 102) g (k := 10) cl_St (pz rfl (by decide)) (by decide) (Or.inl kw_878) (f := 16522) rfl rfl d_St_reckon_102 h fun v102 h => ?_
      obtain ⟨v105, s, hc105, h⟩ := oB_of h
      refine ww_callV (pc := 105) (rest := []) g cv_St_valueOf (Or.inl kw_1120) cl_St (pz rfl (by decide)) (ct_St_valueOf hc105) ⟨by decide, by decide⟩ rfl hl.1 (Nat.le_of_ble_eq_true rfl) d_St_reckon_105 rfl (?_)
      refine ww_st (st' := [.long v105]) rfl ?_
      refine ww_lstore_n (pc := 108) (i := 1) g.1 (lv' := [(1, .long v105), (0, .ref (q.1 129 0))]) d_St_reckon_108 rfl hl (by decide) rfl fun ls hl => ?_
      refine ww_aload_n (pc := 109) g.1 d_St_reckon_109 rfl (lv_at hl 1 rfl) ?_
      refine ww_aload_n (pc := 110) g.1 d_St_reckon_110 rfl (lv_at hl 1 rfl) ?_
      refine ww_gI (pc := 111) g (k := 11) cl_St (pz rfl (by decide)) (by decide) (Or.inl kw_879) (f := 16523) rfl rfl d_St_reckon_111 h fun v111 h => ?_
      obtain ⟨v114, s, hc114, h⟩ := oB_of h
      refine ww_callV (pc := 114) (rest := []) g cv_St_valueOf (Or.inl kw_1120) cl_St (pz rfl (by decide)) (ct_St_valueOf hc114) ⟨by decide, by decide⟩ rfl hl.1 (Nat.le_of_ble_eq_true rfl) d_St_reckon_114 rfl (?_)
      refine ww_st (st' := [.long v114]) rfl ?_
      refine ww_lstore_n (pc := 117) (i := 3) g.1 (lv' := [(3, .long v114), (1, .long v105), (0, .ref (q.1 129 0))]) d_St_reckon_117 rfl hl (by decide) rfl fun ls hl => ?_
      refine ww_lload_n (pc := 118) g.1 d_St_reckon_118 rfl (lv_at hl 0 rfl) ?_
      refine ww_lconst (pc := 119) g.1 (v := 0) d_St_reckon_119 (by decide) ?_
      refine ww_lcmp (pc := 120) g.1 d_St_reckon_120 ?_
      refine ww_if_ne (pc := 121) (tgt := 153) g.1 d_St_reckon_121 (by decide) h (fun c h => ?_) (fun c h => ?_)
      · exact j_St_reckon_j153 g hR v105 v114 s ls (lv_sub hl [2, 1, 0] rfl) h
      · refine ww_aload_n (pc := 124) g.1 d_St_reckon_124 rfl (lv_at hl 2 rfl) ?_
        refine ww_gI (pc := 125) g (k := 8) cl_St (pz rfl (by decide)) (by decide) (Or.inl kw_876) (f := 16520) rfl rfl d_St_reckon_125 h fun v125 h => ?_
        refine ww_bipush (pc := 128) g.1 (v := 16) d_St_reckon_128 (by decide) ?_
        refine ww_icmp_eq (pc := 130) (tgt := 142) g.1 d_St_reckon_130 (by decide) h (fun c h => ?_) (fun c h => ?_)
        · exact j_St_reckon_j142 g hR s ls (lv_sub hl [2] rfl) h
        · refine ww_aload_n (pc := 133) g.1 d_St_reckon_133 rfl (lv_at hl 2 rfl) ?_
          refine ww_gI (pc := 134) g (k := 8) cl_St (pz rfl (by decide)) (by decide) (Or.inl kw_876) (f := 16520) rfl rfl d_St_reckon_134 h fun v134 h => ?_
          refine ww_bipush (pc := 137) g.1 (v := 19) d_St_reckon_137 (by decide) ?_
          refine ww_icmp_ne (pc := 139) (tgt := 153) g.1 d_St_reckon_139 (by decide) h (fun c h => ?_) (fun c h => ?_)
          · exact j_St_reckon_j153 g hR v105 v114 s ls (lv_sub hl [2, 1, 0] rfl) h
          · exact j_St_reckon_j142 g hR s ls (lv_sub hl [2] rfl) h
    · exact j_St_reckon_j24 g hR s ls (lv_sub hl [0] rfl) h


