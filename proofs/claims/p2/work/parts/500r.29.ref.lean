abbrev b_Mo_builtIn : ByteArray := prog_14_method_85_code
def y_Mo_builtIn : MethodName := ⟨R_Mo, "builtIn", "(I)V"⟩
abbrev w_Mo_builtIn : List Cond := .code y_Mo_builtIn b_Mo_builtIn 2 none :: wA
set_option maxRecDepth 20000 in
theorem k_Mo_builtIn : Cond.code y_Mo_builtIn b_Mo_builtIn 2 none ∈ wA := kinm (show _ ∈ tables_1 from (List.mem_append_right _ (List.mem_append_right _ (List.mem_append_right _ (List.mem_append_right _ (List.mem_append_right _ (List.mem_append_right _ (List.mem_append_right _ (List.mem_append_right _ (List.mem_append_right _ (List.mem_append_right _ (List.mem_append_right _ (List.mem_append_left _ (List.mem_of_getElem? (l := tables_1_12) (i := 175) rfl)))))))))))))) rfl
theorem d_Mo_builtIn_0 : decode b_Mo_builtIn 0 = .ok (.iload_n 1, 1) := by decide +kernel
theorem d_Mo_builtIn_1 : decode b_Mo_builtIn 1 = .ok (.tableswitch 373 0 22 #[107, 114, 119, 165, 191, 196, 203, 210, 210, 210, 218, 258, 265, 272, 279, 286, 293, 331, 349, 354, 359, 366, 331], 107) := by decide +kernel
theorem d_Mo_builtIn_108 : decode b_Mo_builtIn 108 = .ok (.aload_n 0, 1) := by decide +kernel
theorem d_Mo_builtIn_109 : decode b_Mo_builtIn 109 = .ok (.invokevirtual 800, 3) := by decide +kernel
theorem d_Mo_builtIn_112 : decode b_Mo_builtIn 112 = .ok (.goto 276, 3) := by decide +kernel
theorem d_Mo_builtIn_115 : decode b_Mo_builtIn 115 = .ok (.aload_n 0, 1) := by decide +kernel
theorem d_Mo_builtIn_116 : decode b_Mo_builtIn 116 = .ok (.invokevirtual 802, 3) := by decide +kernel
theorem d_Mo_builtIn_119 : decode b_Mo_builtIn 119 = .ok (.return_, 1) := by decide +kernel
theorem d_Mo_builtIn_120 : decode b_Mo_builtIn 120 = .ok (.aload_n 0, 1) := by decide +kernel
theorem d_Mo_builtIn_121 : decode b_Mo_builtIn 121 = .ok (.iconst 4, 1) := by decide +kernel
theorem d_Mo_builtIn_122 : decode b_Mo_builtIn 122 = .ok (.aload_n 0, 1) := by decide +kernel
theorem d_Mo_builtIn_123 : decode b_Mo_builtIn 123 = .ok (.getfield 406, 3) := by decide +kernel
theorem d_Mo_builtIn_126 : decode b_Mo_builtIn 126 = .ok (.aload_n 0, 1) := by decide +kernel
theorem d_Mo_builtIn_127 : decode b_Mo_builtIn 127 = .ok (.iconst 0, 1) := by decide +kernel
theorem d_Mo_builtIn_128 : decode b_Mo_builtIn 128 = .ok (.invokevirtual 797, 3) := by decide +kernel
theorem d_Mo_builtIn_131 : decode b_Mo_builtIn 131 = .ok (.ifCond .ne 7, 3) := by decide +kernel
theorem d_Mo_builtIn_134 : decode b_Mo_builtIn 134 = .ok (.iconst 0, 1) := by decide +kernel
theorem d_Mo_builtIn_135 : decode b_Mo_builtIn 135 = .ok (.goto 23, 3) := by decide +kernel
theorem d_Mo_builtIn_138 : decode b_Mo_builtIn 138 = .ok (.aload_n 0, 1) := by decide +kernel
theorem d_Mo_builtIn_139 : decode b_Mo_builtIn 139 = .ok (.iconst 0, 1) := by decide +kernel
theorem d_Mo_builtIn_140 : decode b_Mo_builtIn 140 = .ok (.invokevirtual 797, 3) := by decide +kernel
theorem d_Mo_builtIn_143 : decode b_Mo_builtIn 143 = .ok (.iconst 2, 1) := by decide +kernel
theorem d_Mo_builtIn_144 : decode b_Mo_builtIn 144 = .ok (.if_icmp .gt 7, 3) := by decide +kernel
theorem d_Mo_builtIn_147 : decode b_Mo_builtIn 147 = .ok (.iconst 1, 1) := by decide +kernel
theorem d_Mo_builtIn_148 : decode b_Mo_builtIn 148 = .ok (.goto 10, 3) := by decide +kernel
theorem d_Mo_builtIn_151 : decode b_Mo_builtIn 151 = .ok (.aload_n 0, 1) := by decide +kernel
theorem d_Mo_builtIn_152 : decode b_Mo_builtIn 152 = .ok (.iconst 0, 1) := by decide +kernel
theorem d_Mo_builtIn_153 : decode b_Mo_builtIn 153 = .ok (.invokevirtual 797, 3) := by decide +kernel
theorem d_Mo_builtIn_156 : decode b_Mo_builtIn 156 = .ok (.iconst 1, 1) := by decide +kernel
theorem d_Mo_builtIn_157 : decode b_Mo_builtIn 157 = .ok (.isub, 1) := by decide +kernel
theorem d_Mo_builtIn_158 : decode b_Mo_builtIn 158 = .ok (.iaload, 1) := by decide +kernel
theorem d_Mo_builtIn_159 : decode b_Mo_builtIn 159 = .ok (.i2l, 1) := by decide +kernel
theorem d_Mo_builtIn_160 : decode b_Mo_builtIn 160 = .ok (.invokevirtual 804, 3) := by decide +kernel
theorem d_Mo_builtIn_163 : decode b_Mo_builtIn 163 = .ok (.goto 225, 3) := by decide +kernel
theorem d_Mo_builtIn_166 : decode b_Mo_builtIn 166 = .ok (.aload_n 0, 1) := by decide +kernel
theorem d_Mo_builtIn_167 : decode b_Mo_builtIn 167 = .ok (.aload_n 0, 1) := by decide +kernel
theorem d_Mo_builtIn_168 : decode b_Mo_builtIn 168 = .ok (.iconst 0, 1) := by decide +kernel
theorem d_Mo_builtIn_169 : decode b_Mo_builtIn 169 = .ok (.invokevirtual 797, 3) := by decide +kernel
theorem d_Mo_builtIn_172 : decode b_Mo_builtIn 172 = .ok (.putfield 215, 3) := by decide +kernel
theorem d_Mo_builtIn_175 : decode b_Mo_builtIn 175 = .ok (.aload_n 0, 1) := by decide +kernel
theorem d_Mo_builtIn_176 : decode b_Mo_builtIn 176 = .ok (.aload_n 0, 1) := by decide +kernel
theorem d_Mo_builtIn_177 : decode b_Mo_builtIn 177 = .ok (.iconst 0, 1) := by decide +kernel
theorem d_Mo_builtIn_178 : decode b_Mo_builtIn 178 = .ok (.invokevirtual 807, 3) := by decide +kernel
theorem d_Mo_builtIn_181 : decode b_Mo_builtIn 181 = .ok (.putfield 218, 3) := by decide +kernel
theorem d_Mo_builtIn_184 : decode b_Mo_builtIn 184 = .ok (.aload_n 0, 1) := by decide +kernel
theorem d_Mo_builtIn_185 : decode b_Mo_builtIn 185 = .ok (.iconst 3, 1) := by decide +kernel
theorem d_Mo_builtIn_186 : decode b_Mo_builtIn 186 = .ok (.putfield 247, 3) := by decide +kernel
theorem d_Mo_builtIn_189 : decode b_Mo_builtIn 189 = .ok (.goto 199, 3) := by decide +kernel
theorem d_Mo_builtIn_192 : decode b_Mo_builtIn 192 = .ok (.aload_n 0, 1) := by decide +kernel
theorem d_Mo_builtIn_193 : decode b_Mo_builtIn 193 = .ok (.invokevirtual 810, 3) := by decide +kernel
theorem d_Mo_builtIn_196 : decode b_Mo_builtIn 196 = .ok (.return_, 1) := by decide +kernel
theorem d_Mo_builtIn_197 : decode b_Mo_builtIn 197 = .ok (.aload_n 0, 1) := by decide +kernel
theorem d_Mo_builtIn_198 : decode b_Mo_builtIn 198 = .ok (.invokevirtual 812, 3) := by decide +kernel
theorem d_Mo_builtIn_201 : decode b_Mo_builtIn 201 = .ok (.goto 187, 3) := by decide +kernel
theorem d_Mo_builtIn_204 : decode b_Mo_builtIn 204 = .ok (.aload_n 0, 1) := by decide +kernel
theorem d_Mo_builtIn_205 : decode b_Mo_builtIn 205 = .ok (.invokevirtual 815, 3) := by decide +kernel
theorem d_Mo_builtIn_208 : decode b_Mo_builtIn 208 = .ok (.goto 180, 3) := by decide +kernel
theorem d_Mo_builtIn_211 : decode b_Mo_builtIn 211 = .ok (.aload_n 0, 1) := by decide +kernel
theorem d_Mo_builtIn_212 : decode b_Mo_builtIn 212 = .ok (.iload_n 1, 1) := by decide +kernel
theorem d_Mo_builtIn_213 : decode b_Mo_builtIn 213 = .ok (.invokevirtual 818, 3) := by decide +kernel
theorem d_Mo_builtIn_216 : decode b_Mo_builtIn 216 = .ok (.goto 172, 3) := by decide +kernel
theorem d_Mo_builtIn_219 : decode b_Mo_builtIn 219 = .ok (.aload_n 0, 1) := by decide +kernel
theorem d_Mo_builtIn_220 : decode b_Mo_builtIn 220 = .ok (.aload_n 0, 1) := by decide +kernel
theorem d_Mo_builtIn_221 : decode b_Mo_builtIn 221 = .ok (.iconst 0, 1) := by decide +kernel
theorem d_Mo_builtIn_222 : decode b_Mo_builtIn 222 = .ok (.invokevirtual 797, 3) := by decide +kernel
theorem d_Mo_builtIn_225 : decode b_Mo_builtIn 225 = .ok (.aload_n 0, 1) := by decide +kernel
theorem d_Mo_builtIn_226 : decode b_Mo_builtIn 226 = .ok (.iconst 1, 1) := by decide +kernel
theorem d_Mo_builtIn_227 : decode b_Mo_builtIn 227 = .ok (.invokevirtual 797, 3) := by decide +kernel
theorem d_Mo_builtIn_230 : decode b_Mo_builtIn 230 = .ok (.if_icmp .ne 21, 3) := by decide +kernel
theorem d_Mo_builtIn_233 : decode b_Mo_builtIn 233 = .ok (.aload_n 0, 1) := by decide +kernel
theorem d_Mo_builtIn_234 : decode b_Mo_builtIn 234 = .ok (.iconst 0, 1) := by decide +kernel
theorem d_Mo_builtIn_235 : decode b_Mo_builtIn 235 = .ok (.invokevirtual 807, 3) := by decide +kernel
theorem d_Mo_builtIn_238 : decode b_Mo_builtIn 238 = .ok (.aload_n 0, 1) := by decide +kernel
theorem d_Mo_builtIn_239 : decode b_Mo_builtIn 239 = .ok (.iconst 1, 1) := by decide +kernel
theorem d_Mo_builtIn_240 : decode b_Mo_builtIn 240 = .ok (.invokevirtual 807, 3) := by decide +kernel
theorem d_Mo_builtIn_243 : decode b_Mo_builtIn 243 = .ok (.lcmp, 1) := by decide +kernel
theorem d_Mo_builtIn_244 : decode b_Mo_builtIn 244 = .ok (.ifCond .ne 7, 3) := by decide +kernel
theorem d_Mo_builtIn_247 : decode b_Mo_builtIn 247 = .ok (.iconst 2, 1) := by decide +kernel
theorem d_Mo_builtIn_248 : decode b_Mo_builtIn 248 = .ok (.goto 4, 3) := by decide +kernel
theorem d_Mo_builtIn_251 : decode b_Mo_builtIn 251 = .ok (.iconst 1, 1) := by decide +kernel
theorem d_Mo_builtIn_252 : decode b_Mo_builtIn 252 = .ok (.lconst 0, 1) := by decide +kernel
theorem d_Mo_builtIn_253 : decode b_Mo_builtIn 253 = .ok (.invokevirtual 804, 3) := by decide +kernel
theorem d_Mo_builtIn_256 : decode b_Mo_builtIn 256 = .ok (.goto 132, 3) := by decide +kernel
theorem d_Mo_builtIn_259 : decode b_Mo_builtIn 259 = .ok (.aload_n 0, 1) := by decide +kernel
theorem d_Mo_builtIn_260 : decode b_Mo_builtIn 260 = .ok (.invokevirtual 821, 3) := by decide +kernel
theorem d_Mo_builtIn_263 : decode b_Mo_builtIn 263 = .ok (.goto 125, 3) := by decide +kernel
theorem d_Mo_builtIn_266 : decode b_Mo_builtIn 266 = .ok (.aload_n 0, 1) := by decide +kernel
theorem d_Mo_builtIn_267 : decode b_Mo_builtIn 267 = .ok (.invokevirtual 823, 3) := by decide +kernel
theorem d_Mo_builtIn_270 : decode b_Mo_builtIn 270 = .ok (.goto 118, 3) := by decide +kernel
theorem d_Mo_builtIn_273 : decode b_Mo_builtIn 273 = .ok (.aload_n 0, 1) := by decide +kernel
theorem d_Mo_builtIn_274 : decode b_Mo_builtIn 274 = .ok (.invokevirtual 825, 3) := by decide +kernel
theorem d_Mo_builtIn_277 : decode b_Mo_builtIn 277 = .ok (.goto 111, 3) := by decide +kernel
theorem d_Mo_builtIn_280 : decode b_Mo_builtIn 280 = .ok (.aload_n 0, 1) := by decide +kernel
theorem d_Mo_builtIn_281 : decode b_Mo_builtIn 281 = .ok (.invokevirtual 827, 3) := by decide +kernel
theorem d_Mo_builtIn_284 : decode b_Mo_builtIn 284 = .ok (.goto 104, 3) := by decide +kernel
theorem d_Mo_builtIn_287 : decode b_Mo_builtIn 287 = .ok (.aload_n 0, 1) := by decide +kernel
theorem d_Mo_builtIn_288 : decode b_Mo_builtIn 288 = .ok (.invokevirtual 830, 3) := by decide +kernel
theorem d_Mo_builtIn_291 : decode b_Mo_builtIn 291 = .ok (.goto 97, 3) := by decide +kernel
theorem d_Mo_builtIn_294 : decode b_Mo_builtIn 294 = .ok (.aload_n 0, 1) := by decide +kernel
theorem d_Mo_builtIn_295 : decode b_Mo_builtIn 295 = .ok (.iconst 0, 1) := by decide +kernel
theorem d_Mo_builtIn_296 : decode b_Mo_builtIn 296 = .ok (.iconst 4, 1) := by decide +kernel
theorem d_Mo_builtIn_297 : decode b_Mo_builtIn 297 = .ok (.invokevirtual 833, 3) := by decide +kernel
theorem d_Mo_builtIn_300 : decode b_Mo_builtIn 300 = .ok (.ifCond .eq 23, 3) := by decide +kernel
theorem d_Mo_builtIn_303 : decode b_Mo_builtIn 303 = .ok (.aload_n 0, 1) := by decide +kernel
theorem d_Mo_builtIn_304 : decode b_Mo_builtIn 304 = .ok (.iconst 3, 1) := by decide +kernel
theorem d_Mo_builtIn_305 : decode b_Mo_builtIn 305 = .ok (.aload_n 0, 1) := by decide +kernel
theorem d_Mo_builtIn_306 : decode b_Mo_builtIn 306 = .ok (.getfield 171, 3) := by decide +kernel
theorem d_Mo_builtIn_309 : decode b_Mo_builtIn 309 = .ok (.aload_n 0, 1) := by decide +kernel
theorem d_Mo_builtIn_310 : decode b_Mo_builtIn 310 = .ok (.iconst 0, 1) := by decide +kernel
theorem d_Mo_builtIn_311 : decode b_Mo_builtIn 311 = .ok (.invokevirtual 807, 3) := by decide +kernel
theorem d_Mo_builtIn_314 : decode b_Mo_builtIn 314 = .ok (.l2i, 1) := by decide +kernel
theorem d_Mo_builtIn_315 : decode b_Mo_builtIn 315 = .ok (.iaload, 1) := by decide +kernel
theorem d_Mo_builtIn_316 : decode b_Mo_builtIn 316 = .ok (.i2l, 1) := by decide +kernel
theorem d_Mo_builtIn_317 : decode b_Mo_builtIn 317 = .ok (.invokevirtual 804, 3) := by decide +kernel
theorem d_Mo_builtIn_320 : decode b_Mo_builtIn 320 = .ok (.goto 68, 3) := by decide +kernel
theorem d_Mo_builtIn_323 : decode b_Mo_builtIn 323 = .ok (.aload_n 0, 1) := by decide +kernel
theorem d_Mo_builtIn_324 : decode b_Mo_builtIn 324 = .ok (.iconst 3, 1) := by decide +kernel
theorem d_Mo_builtIn_325 : decode b_Mo_builtIn 325 = .ok (.invokevirtual 517, 3) := by decide +kernel
theorem d_Mo_builtIn_328 : decode b_Mo_builtIn 328 = .ok (.pop, 1) := by decide +kernel
theorem d_Mo_builtIn_329 : decode b_Mo_builtIn 329 = .ok (.goto 59, 3) := by decide +kernel
theorem d_Mo_builtIn_332 : decode b_Mo_builtIn 332 = .ok (.aload_n 0, 1) := by decide +kernel
theorem d_Mo_builtIn_333 : decode b_Mo_builtIn 333 = .ok (.iload_n 1, 1) := by decide +kernel
theorem d_Mo_builtIn_334 : decode b_Mo_builtIn 334 = .ok (.bipush 22, 2) := by decide +kernel
theorem d_Mo_builtIn_336 : decode b_Mo_builtIn 336 = .ok (.if_icmp .ne 7, 3) := by decide +kernel
theorem d_Mo_builtIn_339 : decode b_Mo_builtIn 339 = .ok (.iconst 1, 1) := by decide +kernel
theorem d_Mo_builtIn_340 : decode b_Mo_builtIn 340 = .ok (.goto 4, 3) := by decide +kernel
theorem d_Mo_builtIn_343 : decode b_Mo_builtIn 343 = .ok (.iconst 0, 1) := by decide +kernel
theorem d_Mo_builtIn_344 : decode b_Mo_builtIn 344 = .ok (.invokevirtual 836, 3) := by decide +kernel
theorem d_Mo_builtIn_347 : decode b_Mo_builtIn 347 = .ok (.goto 41, 3) := by decide +kernel
theorem d_Mo_builtIn_350 : decode b_Mo_builtIn 350 = .ok (.aload_n 0, 1) := by decide +kernel
theorem d_Mo_builtIn_351 : decode b_Mo_builtIn 351 = .ok (.invokevirtual 838, 3) := by decide +kernel
theorem d_Mo_builtIn_354 : decode b_Mo_builtIn 354 = .ok (.return_, 1) := by decide +kernel
theorem d_Mo_builtIn_355 : decode b_Mo_builtIn 355 = .ok (.aload_n 0, 1) := by decide +kernel
theorem d_Mo_builtIn_356 : decode b_Mo_builtIn 356 = .ok (.invokevirtual 840, 3) := by decide +kernel
theorem d_Mo_builtIn_359 : decode b_Mo_builtIn 359 = .ok (.return_, 1) := by decide +kernel
theorem d_Mo_builtIn_360 : decode b_Mo_builtIn 360 = .ok (.aload_n 0, 1) := by decide +kernel
theorem d_Mo_builtIn_361 : decode b_Mo_builtIn 361 = .ok (.invokevirtual 843, 3) := by decide +kernel
theorem d_Mo_builtIn_364 : decode b_Mo_builtIn 364 = .ok (.goto 24, 3) := by decide +kernel
theorem d_Mo_builtIn_367 : decode b_Mo_builtIn 367 = .ok (.aload_n 0, 1) := by decide +kernel
theorem d_Mo_builtIn_368 : decode b_Mo_builtIn 368 = .ok (.invokevirtual 845, 3) := by decide +kernel
theorem d_Mo_builtIn_371 : decode b_Mo_builtIn 371 = .ok (.goto 17, 3) := by decide +kernel
theorem d_Mo_builtIn_374 : decode b_Mo_builtIn 374 = .ok (.aload_n 0, 1) := by decide +kernel
theorem d_Mo_builtIn_375 : decode b_Mo_builtIn 375 = .ok (.invokevirtual 520, 3) := by decide +kernel
theorem d_Mo_builtIn_378 : decode b_Mo_builtIn 378 = .ok (.aload_n 0, 1) := by decide +kernel
theorem d_Mo_builtIn_379 : decode b_Mo_builtIn 379 = .ok (.iconst 3, 1) := by decide +kernel
theorem d_Mo_builtIn_380 : decode b_Mo_builtIn 380 = .ok (.aload_n 0, 1) := by decide +kernel
theorem d_Mo_builtIn_381 : decode b_Mo_builtIn 381 = .ok (.getfield 122, 3) := by decide +kernel
theorem d_Mo_builtIn_384 : decode b_Mo_builtIn 384 = .ok (.i2l, 1) := by decide +kernel
theorem d_Mo_builtIn_385 : decode b_Mo_builtIn 385 = .ok (.invokevirtual 804, 3) := by decide +kernel
theorem d_Mo_builtIn_388 : decode b_Mo_builtIn 388 = .ok (.aload_n 0, 1) := by decide +kernel
theorem d_Mo_builtIn_389 : decode b_Mo_builtIn 389 = .ok (.getfield 259, 3) := by decide +kernel
theorem d_Mo_builtIn_392 : decode b_Mo_builtIn 392 = .ok (.iconst 0, 1) := by decide +kernel
theorem d_Mo_builtIn_393 : decode b_Mo_builtIn 393 = .ok (.putfield 569, 3) := by decide +kernel
theorem d_Mo_builtIn_396 : decode b_Mo_builtIn 396 = .ok (.return_, 1) := by decide +kernel
theorem kw_578 : Cond.methodLink R_Mo 800 y_Mo_print ∈ wA := kinm (show _ ∈ tables_1 from (List.mem_append_right _ (List.mem_append_right _ (List.mem_append_right _ (List.mem_append_right _ (List.mem_append_right _ (List.mem_append_right _ (List.mem_append_right _ (List.mem_append_right _ (List.mem_append_right _ (List.mem_append_right _ (List.mem_append_right _ (List.mem_append_left _ (List.mem_of_getElem? (l := tables_1_12) (i := 176) (by decide +kernel))))))))))))))) (by decide +kernel)
theorem kw_579 : Cond.methodLink R_Mo 802 y_Mo_tostring ∈ wA := kinm (show _ ∈ tables_1 from (List.mem_append_right _ (List.mem_append_right _ (List.mem_append_right _ (List.mem_append_right _ (List.mem_append_right _ (List.mem_append_right _ (List.mem_append_right _ (List.mem_append_right _ (List.mem_append_right _ (List.mem_append_right _ (List.mem_append_right _ (List.mem_append_left _ (List.mem_of_getElem? (l := tables_1_12) (i := 213) (by decide +kernel))))))))))))))) (by decide +kernel)
theorem kw_580 : Cond.methodLink R_Mo 810 y_Mo_pcall ∈ wA := kinm (show _ ∈ tables_1 from (List.mem_append_right _ (List.mem_append_right _ (List.mem_append_right _ (List.mem_append_right _ (List.mem_append_right _ (List.mem_append_right _ (List.mem_append_right _ (List.mem_append_right _ (List.mem_append_right _ (List.mem_append_right _ (List.mem_append_right _ (List.mem_append_left _ (List.mem_of_getElem? (l := tables_1_12) (i := 229) (by decide +kernel))))))))))))))) (by decide +kernel)
theorem kw_581 : Cond.methodLink R_Mo 812 y_Mo_setMeta ∈ wA := kinm (show _ ∈ tables_1 from (List.mem_append_right _ (List.mem_append_right _ (List.mem_append_right _ (List.mem_append_right _ (List.mem_append_right _ (List.mem_append_right _ (List.mem_append_right _ (List.mem_append_right _ (List.mem_append_right _ (List.mem_append_right _ (List.mem_append_right _ (List.mem_append_left _ (List.mem_of_getElem? (l := tables_1_12) (i := 233) (by decide +kernel))))))))))))))) (by decide +kernel)
theorem kw_582 : Cond.methodLink R_Mo 815 y_Mo_getMeta ∈ wA := kinm (show _ ∈ tables_1 from (List.mem_append_right _ (List.mem_append_right _ (List.mem_append_right _ (List.mem_append_right _ (List.mem_append_right _ (List.mem_append_right _ (List.mem_append_right _ (List.mem_append_right _ (List.mem_append_right _ (List.mem_append_right _ (List.mem_append_right _ (List.mem_append_right _ (List.mem_append_left _ (List.mem_of_getElem? (l := tables_1_13) (i := 1) (by decide +kernel)))))))))))))))) (by decide +kernel)
theorem kw_583 : Cond.methodLink R_Mo 818 y_Mo_rawOf ∈ wA := kinm (show _ ∈ tables_1 from (List.mem_append_right _ (List.mem_append_right _ (List.mem_append_right _ (List.mem_append_right _ (List.mem_append_right _ (List.mem_append_right _ (List.mem_append_right _ (List.mem_append_right _ (List.mem_append_right _ (List.mem_append_right _ (List.mem_append_right _ (List.mem_append_right _ (List.mem_append_left _ (List.mem_of_getElem? (l := tables_1_13) (i := 5) (by decide +kernel)))))))))))))))) (by decide +kernel)
theorem kw_584 : Cond.methodLink R_Mo 821 y_Mo_next ∈ wA := kinm (show _ ∈ tables_1 from (List.mem_append_right _ (List.mem_append_right _ (List.mem_append_right _ (List.mem_append_right _ (List.mem_append_right _ (List.mem_append_right _ (List.mem_append_right _ (List.mem_append_right _ (List.mem_append_right _ (List.mem_append_right _ (List.mem_append_right _ (List.mem_append_right _ (List.mem_append_left _ (List.mem_of_getElem? (l := tables_1_13) (i := 13) (by decide +kernel)))))))))))))))) (by decide +kernel)
theorem kw_585 : Cond.methodLink R_Mo 823 y_Mo_select ∈ wA := kinm (show _ ∈ tables_1 from (List.mem_append_right _ (List.mem_append_right _ (List.mem_append_right _ (List.mem_append_right _ (List.mem_append_right _ (List.mem_append_right _ (List.mem_append_right _ (List.mem_append_right _ (List.mem_append_right _ (List.mem_append_right _ (List.mem_append_right _ (List.mem_append_right _ (List.mem_append_left _ (List.mem_of_getElem? (l := tables_1_13) (i := 17) (by decide +kernel)))))))))))))))) (by decide +kernel)
theorem kw_586 : Cond.methodLink R_Mo 825 y_Mo_sub ∈ wA := kinm (show _ ∈ tables_1 from (List.mem_append_right _ (List.mem_append_right _ (List.mem_append_right _ (List.mem_append_right _ (List.mem_append_right _ (List.mem_append_right _ (List.mem_append_right _ (List.mem_append_right _ (List.mem_append_right _ (List.mem_append_right _ (List.mem_append_right _ (List.mem_append_right _ (List.mem_append_left _ (List.mem_of_getElem? (l := tables_1_13) (i := 30) (by decide +kernel)))))))))))))))) (by decide +kernel)
theorem kw_587 : Cond.methodLink R_Mo 827 y_Mo_byteOf ∈ wA := kinm (show _ ∈ tables_1 from (List.mem_append_right _ (List.mem_append_right _ (List.mem_append_right _ (List.mem_append_right _ (List.mem_append_right _ (List.mem_append_right _ (List.mem_append_right _ (List.mem_append_right _ (List.mem_append_right _ (List.mem_append_right _ (List.mem_append_right _ (List.mem_append_right _ (List.mem_append_left _ (List.mem_of_getElem? (l := tables_1_13) (i := 43) (by decide +kernel)))))))))))))))) (by decide +kernel)
theorem kw_588 : Cond.methodLink R_Mo 830 y_Mo_characters ∈ wA := kinm (show _ ∈ tables_1 from (List.mem_append_right _ (List.mem_append_right _ (List.mem_append_right _ (List.mem_append_right _ (List.mem_append_right _ (List.mem_append_right _ (List.mem_append_right _ (List.mem_append_right _ (List.mem_append_right _ (List.mem_append_right _ (List.mem_append_right _ (List.mem_append_right _ (List.mem_append_left _ (List.mem_of_getElem? (l := tables_1_13) (i := 47) (by decide +kernel)))))))))))))))) (by decide +kernel)
theorem kw_589 : Cond.methodLink R_Mo 836 y_Mo_create ∈ wA := kinm (show _ ∈ tables_1 from (List.mem_append_right _ (List.mem_append_right _ (List.mem_append_right _ (List.mem_append_right _ (List.mem_append_right _ (List.mem_append_right _ (List.mem_append_right _ (List.mem_append_right _ (List.mem_append_right _ (List.mem_append_right _ (List.mem_append_right _ (List.mem_append_right _ (List.mem_append_left _ (List.mem_of_getElem? (l := tables_1_13) (i := 52) (by decide +kernel)))))))))))))))) (by decide +kernel)
theorem kw_590 : Cond.methodLink R_Mo 838 y_Mo_resume ∈ wA := kinm (show _ ∈ tables_1 from (List.mem_append_right _ (List.mem_append_right _ (List.mem_append_right _ (List.mem_append_right _ (List.mem_append_right _ (List.mem_append_right _ (List.mem_append_right _ (List.mem_append_right _ (List.mem_append_right _ (List.mem_append_right _ (List.mem_append_right _ (List.mem_append_right _ (List.mem_append_left _ (List.mem_of_getElem? (l := tables_1_13) (i := 56) (by decide +kernel)))))))))))))))) (by decide +kernel)
theorem kw_591 : Cond.methodLink R_Mo 840 y_Mo_giveWay ∈ wA := kinm (show _ ∈ tables_1 from (List.mem_append_right _ (List.mem_append_right _ (List.mem_append_right _ (List.mem_append_right _ (List.mem_append_right _ (List.mem_append_right _ (List.mem_append_right _ (List.mem_append_right _ (List.mem_append_right _ (List.mem_append_right _ (List.mem_append_right _ (List.mem_append_right _ (List.mem_append_left _ (List.mem_of_getElem? (l := tables_1_13) (i := 65) (by decide +kernel)))))))))))))))) (by decide +kernel)
theorem kw_592 : Cond.methodLink R_Mo 843 y_Mo_state ∈ wA := kinm (show _ ∈ tables_1 from (List.mem_append_right _ (List.mem_append_right _ (List.mem_append_right _ (List.mem_append_right _ (List.mem_append_right _ (List.mem_append_right _ (List.mem_append_right _ (List.mem_append_right _ (List.mem_append_right _ (List.mem_append_right _ (List.mem_append_right _ (List.mem_append_right _ (List.mem_append_left _ (List.mem_of_getElem? (l := tables_1_13) (i := 73) (by decide +kernel)))))))))))))))) (by decide +kernel)
theorem kw_593 : Cond.methodLink R_Mo 845 y_Mo_running ∈ wA := kinm (show _ ∈ tables_1 from (List.mem_append_right _ (List.mem_append_right _ (List.mem_append_right _ (List.mem_append_right _ (List.mem_append_right _ (List.mem_append_right _ (List.mem_append_right _ (List.mem_append_right _ (List.mem_append_right _ (List.mem_append_right _ (List.mem_append_right _ (List.mem_append_right _ (List.mem_append_left _ (List.mem_of_getElem? (l := tables_1_13) (i := 77) (by decide +kernel)))))))))))))))) (by decide +kernel)
theorem kw_594 : Cond.instanceMethod y_Mo_builtIn ∈ wA := kinm (show _ ∈ tables_1 from (List.mem_append_right _ (List.mem_append_right _ (List.mem_append_right _ (List.mem_append_right _ (List.mem_append_right _ (List.mem_append_right _ (List.mem_append_right _ (List.mem_append_right _ (List.mem_append_right _ (List.mem_append_right _ (List.mem_append_right _ (List.mem_append_left _ (List.mem_of_getElem? (l := tables_1_12) (i := 174) (by decide +kernel))))))))))))))) (by decide +kernel)
theorem kw_595 : Cond.selects R_Mo y_Mo_builtIn y_Mo_builtIn ∈ wA := kinp 160 (by decide +kernel) (by decide +kernel)
theorem cv_Mo_builtIn : CV y_Mo_builtIn b_Mo_builtIn 2 none 1 := ⟨kw_594, kw_595, kw_17, k_Mo_builtIn, by decide +kernel⟩
theorem j_Mo_builtIn_j388 {X : Cx} {q : PL} (g : Gd X y_Mo_builtIn b_Mo_builtIn 2 none 9 221 R_Mo) {o : (Unit) × S1} (hR : Rt X q o.2 none)  (s : S1) (ls : Array Slot) (hl : lv_has ls 2 [(0, .ref (q.1 0 0))]) (h : M_Mo_builtIn_j388 s = some o) : WW X q s 388 ls [] := by
  unfold M_Mo_builtIn_j388 at h
  refine ww_aload_n (pc := 388) g.1 d_Mo_builtIn_388 rfl (lv_at hl 0 rfl) ?_
  refine ww_gR (pc := 389) g (k := 77) cl_Mo (pz rfl (by decide)) (by decide) (Or.inl kw_182) (f := 77) (t := 7) rfl rfl rfl d_Mo_builtIn_389 ?_
  refine ww_iconst (pc := 392) g.1 (v := 0) d_Mo_builtIn_392 (by decide) ?_
  refine ww_pI (pc := 393) g (k := 2) (cl_Va (Or.inl ⟨by decide, rfl⟩)) (pz rfl (by decide)) (by decide) (Or.inl kw_179) rfl (f := 898) rfl rfl rfl rfl d_Mo_builtIn_393 h fun s hs h => ?_
  exact ww_vretH (pc := 396) g h hR d_Mo_builtIn_396

theorem j_Mo_builtIn_j158 {X : Cx} {q : PL} (g : Gd X y_Mo_builtIn b_Mo_builtIn 2 none 9 221 R_Mo) {o : (Unit) × S1} (hR : Rt X q o.2 none) (k0 : Int32) (k2 : Int32) (s : S1) (ls : Array Slot) (hl : lv_has ls 2 [(0, .ref (q.1 0 0))]) (h : M_Mo_builtIn_j158 k0 k2 s = some o) : WW X q s 158 ls [.int k0, .ref (q.1 83 0), .int k2, .ref (q.1 0 0)] := by
  unfold M_Mo_builtIn_j158 at h
  refine ww_ai (pc := 158) g (pz rfl (by decide)) rfl rfl d_Mo_builtIn_158 h fun v158 h => ?_
  refine ww_i2l (pc := 159) g.1 (v := v158.toInt64) d_Mo_builtIn_159 rfl ?_
  obtain ⟨v160, s, hc160, h⟩ := oB_of h
  refine ww_callV (pc := 160) (rest := []) g cv_Mo_give (Or.inl kw_212) cl_Mo (pz rfl (by decide)) (ct_Mo_give hc160) ⟨by decide, by decide⟩ rfl hl.1 (Nat.le_of_ble_eq_true rfl) d_Mo_builtIn_160 rfl ?_
  refine ww_st (st' := []) rfl ?_
  refine ww_goto (pc := 163) (tgt := 388) g.1 d_Mo_builtIn_163 (by decide) ?_
  exact j_Mo_builtIn_j388 g hR s ls (lv_sub hl [0] rfl) h

theorem j_Mo_builtIn_j252 {X : Cx} {q : PL} (g : Gd X y_Mo_builtIn b_Mo_builtIn 2 none 9 221 R_Mo) {o : (Unit) × S1} (hR : Rt X q o.2 none) (k0 : Int32) (s : S1) (ls : Array Slot) (hl : lv_has ls 2 [(0, .ref (q.1 0 0))]) (h : M_Mo_builtIn_j252 k0 s = some o) : WW X q s 252 ls [.int k0, .ref (q.1 0 0)] := by
  unfold M_Mo_builtIn_j252 at h
  refine ww_lconst (pc := 252) g.1 (v := 0) d_Mo_builtIn_252 (by decide) ?_
  obtain ⟨v253, s, hc253, h⟩ := oB_of h
  refine ww_callV (pc := 253) (rest := []) g cv_Mo_give (Or.inl kw_212) cl_Mo (pz rfl (by decide)) (ct_Mo_give hc253) ⟨by decide, by decide⟩ rfl hl.1 (Nat.le_of_ble_eq_true rfl) d_Mo_builtIn_253 rfl ?_
  refine ww_st (st' := []) rfl ?_
  refine ww_goto (pc := 256) (tgt := 388) g.1 d_Mo_builtIn_256 (by decide) ?_
  exact j_Mo_builtIn_j388 g hR s ls (lv_sub hl [0] rfl) h

theorem j_Mo_builtIn_j251 {X : Cx} {q : PL} (g : Gd X y_Mo_builtIn b_Mo_builtIn 2 none 9 221 R_Mo) {o : (Unit) × S1} (hR : Rt X q o.2 none)  (s : S1) (ls : Array Slot) (hl : lv_has ls 2 [(0, .ref (q.1 0 0))]) (h : M_Mo_builtIn_j251 s = some o) : WW X q s 251 ls [.ref (q.1 0 0)] := by
  unfold M_Mo_builtIn_j251 at h
  refine ww_iconst (pc := 251) g.1 (v := 1) d_Mo_builtIn_251 (by decide) ?_
  exact j_Mo_builtIn_j252 g hR 1 s ls (lv_sub hl [0] rfl) h

theorem j_Mo_builtIn_j344 {X : Cx} {q : PL} (g : Gd X y_Mo_builtIn b_Mo_builtIn 2 none 9 221 R_Mo) {o : (Unit) × S1} (hR : Rt X q o.2 none) (k0 : Int32) (s : S1) (ls : Array Slot) (hl : lv_has ls 2 [(0, .ref (q.1 0 0))]) (h : M_Mo_builtIn_j344 k0 s = some o) : WW X q s 344 ls [.int k0, .ref (q.1 0 0)] := by
  unfold M_Mo_builtIn_j344 at h
  obtain ⟨v344, s, hc344, h⟩ := oB_of h
  refine ww_callV (pc := 344) (rest := []) g cv_Mo_create (Or.inl kw_589) cl_Mo (pz rfl (by decide)) (ct_Mo_create hc344) ⟨by decide, by decide⟩ rfl hl.1 (Nat.le_of_ble_eq_true rfl) d_Mo_builtIn_344 rfl ?_
  refine ww_st (st' := []) rfl ?_
  refine ww_goto (pc := 347) (tgt := 388) g.1 d_Mo_builtIn_347 (by decide) ?_
  exact j_Mo_builtIn_j388 g hR s ls (lv_sub hl [0] rfl) h

theorem ct_Mo_builtIn {l : Launch} {P : PP} {q : PL} {s s' : S1} {l1 : Int32} {r : Unit} (h : M_Mo_builtIn l1 s = some (r, s')) : Ct l y_Mo_builtIn b_Mo_builtIn 2 none 9 221 P q s [.ref (q.1 0 0), .int l1] none q s' := by
  refine ct_of (by decide) (Nat.le_of_ble_eq_true rfl) fun X ls eP el g hR hl => ?_
  subst eP
  have hR : Rt X q ((r, s') : Unit × S1).2 none := hR
  have hl : lv_has ls 2 [(0, .ref (q.1 0 0)), (1, .int l1)] := hl
  generalize (r, s') = o at h hR
  unfold M_Mo_builtIn at h
  refine ww_iload_n (pc := 0) g.1 d_Mo_builtIn_0 rfl (lv_at hl 1 rfl) ?_
  by_cases c1_108 : l1 = 0
  · have h := oC_pos c1_108 h
    have c := c1_108
    refine ww_tableIn (pc := 1) (tgt := 108) g.1 d_Mo_builtIn_1 (by rw [c]; decide) (by rw [c]; decide) (by rw [c]; rfl) (by decide) ?_
    refine ww_aload_n (pc := 108) g.1 d_Mo_builtIn_108 rfl (lv_at hl 0 rfl) ?_
    obtain ⟨v109, s, hc109, h⟩ := oB_of h
    refine ww_callV (pc := 109) (rest := []) g cv_Mo_print (Or.inl kw_578) cl_Mo (pz rfl (by decide)) (ct_Mo_print hc109) ⟨by decide, by decide⟩ rfl hl.1 (Nat.le_of_ble_eq_true rfl) d_Mo_builtIn_109 rfl ?_
    refine ww_st (st' := []) rfl ?_
    refine ww_goto (pc := 112) (tgt := 388) g.1 d_Mo_builtIn_112 (by decide) ?_
    exact j_Mo_builtIn_j388 g hR s ls (lv_sub hl [0] rfl) h
  have h := oC_neg c1_108 h
  by_cases c1_115 : l1 = 1
  · have h := oC_pos c1_115 h
    have c := c1_115
    refine ww_tableIn (pc := 1) (tgt := 115) g.1 d_Mo_builtIn_1 (by rw [c]; decide) (by rw [c]; decide) (by rw [c]; rfl) (by decide) ?_
    refine ww_aload_n (pc := 115) g.1 d_Mo_builtIn_115 rfl (lv_at hl 0 rfl) ?_
    obtain ⟨v116, s, hc116, h⟩ := oB_of h
    refine ww_callV (pc := 116) (rest := []) g cv_Mo_tostring (Or.inl kw_579) cl_Mo (pz rfl (by decide)) (ct_Mo_tostring hc116) ⟨by decide, by decide⟩ rfl hl.1 (Nat.le_of_ble_eq_true rfl) d_Mo_builtIn_116 rfl ?_
    refine ww_st (st' := []) rfl ?_
    exact ww_vretH (pc := 119) g h hR d_Mo_builtIn_119
  have h := oC_neg c1_115 h
  by_cases c1_120 : l1 = 2
  · have h := oC_pos c1_120 h
    have c := c1_120
    refine ww_tableIn (pc := 1) (tgt := 120) g.1 d_Mo_builtIn_1 (by rw [c]; decide) (by rw [c]; decide) (by rw [c]; rfl) (by decide) ?_
    refine ww_aload_n (pc := 120) g.1 d_Mo_builtIn_120 rfl (lv_at hl 0 rfl) ?_
    refine ww_iconst (pc := 121) g.1 (v := 4) d_Mo_builtIn_121 (by decide) ?_
    refine ww_aload_n (pc := 122) g.1 d_Mo_builtIn_122 rfl (lv_at hl 0 rfl) ?_
    refine ww_gR (pc := 123) g (k := 88) cl_Mo (pz rfl (by decide)) (by decide) (Or.inl kw_561) (f := 88) (t := 83) rfl rfl rfl d_Mo_builtIn_123 ?_
    refine ww_aload_n (pc := 126) g.1 d_Mo_builtIn_126 rfl (lv_at hl 0 rfl) ?_
    refine ww_iconst (pc := 127) g.1 (v := 0) d_Mo_builtIn_127 (by decide) ?_
    obtain ⟨v128, s, hc128, h⟩ := oB_of h
    refine ww_callV (pc := 128) (rest := [.ref (q.1 83 0), .int 4, .ref (q.1 0 0)]) g cv_Mo_ak (Or.inl kw_191) cl_Mo (pz rfl (by decide)) (ct_Mo_ak hc128) ⟨by decide, by decide⟩ rfl hl.1 (Nat.le_of_ble_eq_true rfl) d_Mo_builtIn_128 rfl ?_
    refine ww_st (st' := [.int v128, .ref (q.1 83 0), .int 4, .ref (q.1 0 0)]) rfl ?_
    refine ww_if_ne (pc := 131) (tgt := 138) g.1 d_Mo_builtIn_131 (by decide) h (fun c h => ?_) (fun c h => ?_)
    · refine ww_aload_n (pc := 138) g.1 d_Mo_builtIn_138 rfl (lv_at hl 0 rfl) ?_
      refine ww_iconst (pc := 139) g.1 (v := 0) d_Mo_builtIn_139 (by decide) ?_
      obtain ⟨v140, s, hc140, h⟩ := oB_of h
      refine ww_callV (pc := 140) (rest := [.ref (q.1 83 0), .int 4, .ref (q.1 0 0)]) g cv_Mo_ak (Or.inl kw_191) cl_Mo (pz rfl (by decide)) (ct_Mo_ak hc140) ⟨by decide, by decide⟩ rfl hl.1 (Nat.le_of_ble_eq_true rfl) d_Mo_builtIn_140 rfl ?_
      refine ww_st (st' := [.int v140, .ref (q.1 83 0), .int 4, .ref (q.1 0 0)]) rfl ?_
      refine ww_iconst (pc := 143) g.1 (v := 2) d_Mo_builtIn_143 (by decide) ?_
      refine ww_icmp_gt (pc := 144) (tgt := 151) g.1 d_Mo_builtIn_144 (by decide) h (fun c h => ?_) (fun c h => ?_)
      · refine ww_aload_n (pc := 151) g.1 d_Mo_builtIn_151 rfl (lv_at hl 0 rfl) ?_
        refine ww_iconst (pc := 152) g.1 (v := 0) d_Mo_builtIn_152 (by decide) ?_
        obtain ⟨v153, s, hc153, h⟩ := oB_of h
        refine ww_callV (pc := 153) (rest := [.ref (q.1 83 0), .int 4, .ref (q.1 0 0)]) g cv_Mo_ak (Or.inl kw_191) cl_Mo (pz rfl (by decide)) (ct_Mo_ak hc153) ⟨by decide, by decide⟩ rfl hl.1 (Nat.le_of_ble_eq_true rfl) d_Mo_builtIn_153 rfl ?_
        refine ww_st (st' := [.int v153, .ref (q.1 83 0), .int 4, .ref (q.1 0 0)]) rfl ?_
        refine ww_iconst (pc := 156) g.1 (v := 1) d_Mo_builtIn_156 (by decide) ?_
        refine ww_isub (pc := 157) g.1 d_Mo_builtIn_157 ?_
        exact j_Mo_builtIn_j158 g hR (v153 - 1) 4 s ls (lv_sub hl [0] rfl) h
      · refine ww_iconst (pc := 147) g.1 (v := 1) d_Mo_builtIn_147 (by decide) ?_
        refine ww_goto (pc := 148) (tgt := 158) g.1 d_Mo_builtIn_148 (by decide) ?_
        exact j_Mo_builtIn_j158 g hR 1 4 s ls (lv_sub hl [0] rfl) h
    · refine ww_iconst (pc := 134) g.1 (v := 0) d_Mo_builtIn_134 (by decide) ?_
      refine ww_goto (pc := 135) (tgt := 158) g.1 d_Mo_builtIn_135 (by decide) ?_
      exact j_Mo_builtIn_j158 g hR 0 4 s ls (lv_sub hl [0] rfl) h
  have h := oC_neg c1_120 h
  by_cases c1_166 : l1 = 3
  · have h := oC_pos c1_166 h
    have c := c1_166
    refine ww_tableIn (pc := 1) (tgt := 166) g.1 d_Mo_builtIn_1 (by rw [c]; decide) (by rw [c]; decide) (by rw [c]; rfl) (by decide) ?_
    refine ww_aload_n (pc := 166) g.1 d_Mo_builtIn_166 rfl (lv_at hl 0 rfl) ?_
    refine ww_aload_n (pc := 167) g.1 d_Mo_builtIn_167 rfl (lv_at hl 0 rfl) ?_
    refine ww_iconst (pc := 168) g.1 (v := 0) d_Mo_builtIn_168 (by decide) ?_
    obtain ⟨v169, s, hc169, h⟩ := oB_of h
    refine ww_callV (pc := 169) (rest := [.ref (q.1 0 0)]) g cv_Mo_ak (Or.inl kw_191) cl_Mo (pz rfl (by decide)) (ct_Mo_ak hc169) ⟨by decide, by decide⟩ rfl hl.1 (Nat.le_of_ble_eq_true rfl) d_Mo_builtIn_169 rfl ?_
    refine ww_st (st' := [.int v169, .ref (q.1 0 0)]) rfl ?_
    refine ww_pI (pc := 172) g (k := 64) cl_Mo (pz rfl (by decide)) (by decide) (Or.inl kw_73) rfl (f := 64) rfl rfl rfl rfl d_Mo_builtIn_172 h fun s hs h => ?_
    refine ww_aload_n (pc := 175) g.1 d_Mo_builtIn_175 rfl (lv_at hl 0 rfl) ?_
    refine ww_aload_n (pc := 176) g.1 d_Mo_builtIn_176 rfl (lv_at hl 0 rfl) ?_
    refine ww_iconst (pc := 177) g.1 (v := 0) d_Mo_builtIn_177 (by decide) ?_
    obtain ⟨v178, s, hc178, h⟩ := oB_of h
    refine ww_callV (pc := 178) (rest := [.ref (q.1 0 0)]) g cv_Mo_av (Or.inl kw_193) cl_Mo (pz rfl (by decide)) (ct_Mo_av hc178) ⟨by decide, by decide⟩ rfl hl.1 (Nat.le_of_ble_eq_true rfl) d_Mo_builtIn_178 rfl ?_
    refine ww_st (st' := [.long v178, .ref (q.1 0 0)]) rfl ?_
    refine ww_pL (pc := 181) g (k := 65) cl_Mo (pz rfl (by decide)) (by decide) (Or.inl kw_74) rfl (f := 65) rfl rfl rfl rfl d_Mo_builtIn_181 h fun s hs h => ?_
    refine ww_aload_n (pc := 184) g.1 d_Mo_builtIn_184 rfl (lv_at hl 0 rfl) ?_
    refine ww_iconst (pc := 185) g.1 (v := 3) d_Mo_builtIn_185 (by decide) ?_
    refine ww_pI (pc := 186) g (k := 73) cl_Mo (pz rfl (by decide)) (by decide) (Or.inl kw_75) rfl (f := 73) rfl rfl rfl rfl d_Mo_builtIn_186 h fun s hs h => ?_
    refine ww_goto (pc := 189) (tgt := 388) g.1 d_Mo_builtIn_189 (by decide) ?_
    exact j_Mo_builtIn_j388 g hR s ls (lv_sub hl [0] rfl) h
  have h := oC_neg c1_166 h
  by_cases c1_192 : l1 = 4
  · have h := oC_pos c1_192 h
    have c := c1_192
    refine ww_tableIn (pc := 1) (tgt := 192) g.1 d_Mo_builtIn_1 (by rw [c]; decide) (by rw [c]; decide) (by rw [c]; rfl) (by decide) ?_
    refine ww_aload_n (pc := 192) g.1 d_Mo_builtIn_192 rfl (lv_at hl 0 rfl) ?_
    obtain ⟨v193, s, hc193, h⟩ := oB_of h
    refine ww_callV (pc := 193) (rest := []) g cv_Mo_pcall (Or.inl kw_580) cl_Mo (pz rfl (by decide)) (ct_Mo_pcall hc193) ⟨by decide, by decide⟩ rfl hl.1 (Nat.le_of_ble_eq_true rfl) d_Mo_builtIn_193 rfl ?_
    refine ww_st (st' := []) rfl ?_
    exact ww_vretH (pc := 196) g h hR d_Mo_builtIn_196
  have h := oC_neg c1_192 h
  by_cases c1_197 : l1 = 5
  · have h := oC_pos c1_197 h
    have c := c1_197
    refine ww_tableIn (pc := 1) (tgt := 197) g.1 d_Mo_builtIn_1 (by rw [c]; decide) (by rw [c]; decide) (by rw [c]; rfl) (by decide) ?_
    refine ww_aload_n (pc := 197) g.1 d_Mo_builtIn_197 rfl (lv_at hl 0 rfl) ?_
    obtain ⟨v198, s, hc198, h⟩ := oB_of h
    refine ww_callV (pc := 198) (rest := []) g cv_Mo_setMeta (Or.inl kw_581) cl_Mo (pz rfl (by decide)) (ct_Mo_setMeta hc198) ⟨by decide, by decide⟩ rfl hl.1 (Nat.le_of_ble_eq_true rfl) d_Mo_builtIn_198 rfl ?_
    refine ww_st (st' := []) rfl ?_
    refine ww_goto (pc := 201) (tgt := 388) g.1 d_Mo_builtIn_201 (by decide) ?_
    exact j_Mo_builtIn_j388 g hR s ls (lv_sub hl [0] rfl) h
  have h := oC_neg c1_197 h
  by_cases c1_204 : l1 = 6
  · have h := oC_pos c1_204 h
    have c := c1_204
    refine ww_tableIn (pc := 1) (tgt := 204) g.1 d_Mo_builtIn_1 (by rw [c]; decide) (by rw [c]; decide) (by rw [c]; rfl) (by decide) ?_
    refine ww_aload_n (pc := 204) g.1 d_Mo_builtIn_204 rfl (lv_at hl 0 rfl) ?_
    obtain ⟨v205, s, hc205, h⟩ := oB_of h
    refine ww_callV (pc := 205) (rest := []) g cv_Mo_getMeta (Or.inl kw_582) cl_Mo (pz rfl (by decide)) (ct_Mo_getMeta hc205) ⟨by decide, by decide⟩ rfl hl.1 (Nat.le_of_ble_eq_true rfl) d_Mo_builtIn_205 rfl ?_
    refine ww_st (st' := []) rfl ?_
    refine ww_goto (pc := 208) (tgt := 388) g.1 d_Mo_builtIn_208 (by decide) ?_
    exact j_Mo_builtIn_j388 g hR s ls (lv_sub hl [0] rfl) h
  have h := oC_neg c1_204 h
  by_cases c1_211 : l1 = 7 ∨ l1 = 8 ∨ l1 = 9
  · have h := oC_pos c1_211 h
    rcases c1_211 with c | c | c
    · refine ww_tableIn (pc := 1) (tgt := 211) g.1 d_Mo_builtIn_1 (by rw [c]; decide) (by rw [c]; decide) (by rw [c]; rfl) (by decide) ?_
      refine ww_aload_n (pc := 211) g.1 d_Mo_builtIn_211 rfl (lv_at hl 0 rfl) ?_
      refine ww_iload_n (pc := 212) g.1 d_Mo_builtIn_212 rfl (lv_at hl 1 rfl) ?_
      obtain ⟨v213, s, hc213, h⟩ := oB_of h
      refine ww_callV (pc := 213) (rest := []) g cv_Mo_rawOf (Or.inl kw_583) cl_Mo (pz rfl (by decide)) (ct_Mo_rawOf hc213) ⟨by decide, by decide⟩ rfl hl.1 (Nat.le_of_ble_eq_true rfl) d_Mo_builtIn_213 rfl ?_
      refine ww_st (st' := []) rfl ?_
      refine ww_goto (pc := 216) (tgt := 388) g.1 d_Mo_builtIn_216 (by decide) ?_
      exact j_Mo_builtIn_j388 g hR s ls (lv_sub hl [0] rfl) h
    · refine ww_tableIn (pc := 1) (tgt := 211) g.1 d_Mo_builtIn_1 (by rw [c]; decide) (by rw [c]; decide) (by rw [c]; rfl) (by decide) ?_
      refine ww_aload_n (pc := 211) g.1 d_Mo_builtIn_211 rfl (lv_at hl 0 rfl) ?_
      refine ww_iload_n (pc := 212) g.1 d_Mo_builtIn_212 rfl (lv_at hl 1 rfl) ?_
      obtain ⟨v213, s, hc213, h⟩ := oB_of h
      refine ww_callV (pc := 213) (rest := []) g cv_Mo_rawOf (Or.inl kw_583) cl_Mo (pz rfl (by decide)) (ct_Mo_rawOf hc213) ⟨by decide, by decide⟩ rfl hl.1 (Nat.le_of_ble_eq_true rfl) d_Mo_builtIn_213 rfl ?_
      refine ww_st (st' := []) rfl ?_
      refine ww_goto (pc := 216) (tgt := 388) g.1 d_Mo_builtIn_216 (by decide) ?_
      exact j_Mo_builtIn_j388 g hR s ls (lv_sub hl [0] rfl) h
    · refine ww_tableIn (pc := 1) (tgt := 211) g.1 d_Mo_builtIn_1 (by rw [c]; decide) (by rw [c]; decide) (by rw [c]; rfl) (by decide) ?_
      refine ww_aload_n (pc := 211) g.1 d_Mo_builtIn_211 rfl (lv_at hl 0 rfl) ?_
      refine ww_iload_n (pc := 212) g.1 d_Mo_builtIn_212 rfl (lv_at hl 1 rfl) ?_
      obtain ⟨v213, s, hc213, h⟩ := oB_of h
      refine ww_callV (pc := 213) (rest := []) g cv_Mo_rawOf (Or.inl kw_583) cl_Mo (pz rfl (by decide)) (ct_Mo_rawOf hc213) ⟨by decide, by decide⟩ rfl hl.1 (Nat.le_of_ble_eq_true rfl) d_Mo_builtIn_213 rfl ?_
      refine ww_st (st' := []) rfl ?_
      refine ww_goto (pc := 216) (tgt := 388) g.1 d_Mo_builtIn_216 (by decide) ?_
      exact j_Mo_builtIn_j388 g hR s ls (lv_sub hl [0] rfl) h
  have h := oC_neg c1_211 h
  by_cases c1_219 : l1 = 10
  · have h := oC_pos c1_219 h
    have c := c1_219
    refine ww_tableIn (pc := 1) (tgt := 219) g.1 d_Mo_builtIn_1 (by rw [c]; decide) (by rw [c]; decide) (by rw [c]; rfl) (by decide) ?_
    refine ww_aload_n (pc := 219) g.1 d_Mo_builtIn_219 rfl (lv_at hl 0 rfl) ?_
    refine ww_aload_n (pc := 220) g.1 d_Mo_builtIn_220 rfl (lv_at hl 0 rfl) ?_
    refine ww_iconst (pc := 221) g.1 (v := 0) d_Mo_builtIn_221 (by decide) ?_
    obtain ⟨v222, s, hc222, h⟩ := oB_of h
    refine ww_callV (pc := 222) (rest := [.ref (q.1 0 0)]) g cv_Mo_ak (Or.inl kw_191) cl_Mo (pz rfl (by decide)) (ct_Mo_ak hc222) ⟨by decide, by decide⟩ rfl hl.1 (Nat.le_of_ble_eq_true rfl) d_Mo_builtIn_222 rfl ?_
    refine ww_st (st' := [.int v222, .ref (q.1 0 0)]) rfl ?_
    refine ww_aload_n (pc := 225) g.1 d_Mo_builtIn_225 rfl (lv_at hl 0 rfl) ?_
    refine ww_iconst (pc := 226) g.1 (v := 1) d_Mo_builtIn_226 (by decide) ?_
    obtain ⟨v227, s, hc227, h⟩ := oB_of h
    refine ww_callV (pc := 227) (rest := [.int v222, .ref (q.1 0 0)]) g cv_Mo_ak (Or.inl kw_191) cl_Mo (pz rfl (by decide)) (ct_Mo_ak hc227) ⟨by decide, by decide⟩ rfl hl.1 (Nat.le_of_ble_eq_true rfl) d_Mo_builtIn_227 rfl ?_
    refine ww_st (st' := [.int v227, .int v222, .ref (q.1 0 0)]) rfl ?_
    refine ww_icmp_ne (pc := 230) (tgt := 251) g.1 d_Mo_builtIn_230 (by decide) h (fun c h => ?_) (fun c h => ?_)
    · exact j_Mo_builtIn_j251 g hR s ls (lv_sub hl [0] rfl) h
    · refine ww_aload_n (pc := 233) g.1 d_Mo_builtIn_233 rfl (lv_at hl 0 rfl) ?_
      refine ww_iconst (pc := 234) g.1 (v := 0) d_Mo_builtIn_234 (by decide) ?_
      obtain ⟨v235, s, hc235, h⟩ := oB_of h
      refine ww_callV (pc := 235) (rest := [.ref (q.1 0 0)]) g cv_Mo_av (Or.inl kw_193) cl_Mo (pz rfl (by decide)) (ct_Mo_av hc235) ⟨by decide, by decide⟩ rfl hl.1 (Nat.le_of_ble_eq_true rfl) d_Mo_builtIn_235 rfl ?_
      refine ww_st (st' := [.long v235, .ref (q.1 0 0)]) rfl ?_
      refine ww_aload_n (pc := 238) g.1 d_Mo_builtIn_238 rfl (lv_at hl 0 rfl) ?_
      refine ww_iconst (pc := 239) g.1 (v := 1) d_Mo_builtIn_239 (by decide) ?_
      obtain ⟨v240, s, hc240, h⟩ := oB_of h
      refine ww_callV (pc := 240) (rest := [.long v235, .ref (q.1 0 0)]) g cv_Mo_av (Or.inl kw_193) cl_Mo (pz rfl (by decide)) (ct_Mo_av hc240) ⟨by decide, by decide⟩ rfl hl.1 (Nat.le_of_ble_eq_true rfl) d_Mo_builtIn_240 rfl ?_
      refine ww_st (st' := [.long v240, .long v235, .ref (q.1 0 0)]) rfl ?_
      refine ww_lcmp (pc := 243) g.1 d_Mo_builtIn_243 ?_
      refine ww_if_ne (pc := 244) (tgt := 251) g.1 d_Mo_builtIn_244 (by decide) h (fun c h => ?_) (fun c h => ?_)
      · exact j_Mo_builtIn_j251 g hR s ls (lv_sub hl [0] rfl) h
      · refine ww_iconst (pc := 247) g.1 (v := 2) d_Mo_builtIn_247 (by decide) ?_
        refine ww_goto (pc := 248) (tgt := 252) g.1 d_Mo_builtIn_248 (by decide) ?_
        exact j_Mo_builtIn_j252 g hR 2 s ls (lv_sub hl [0] rfl) h
  have h := oC_neg c1_219 h
  by_cases c1_259 : l1 = 11
  · have h := oC_pos c1_259 h
    have c := c1_259
    refine ww_tableIn (pc := 1) (tgt := 259) g.1 d_Mo_builtIn_1 (by rw [c]; decide) (by rw [c]; decide) (by rw [c]; rfl) (by decide) ?_
    refine ww_aload_n (pc := 259) g.1 d_Mo_builtIn_259 rfl (lv_at hl 0 rfl) ?_
    obtain ⟨v260, s, hc260, h⟩ := oB_of h
    refine ww_callV (pc := 260) (rest := []) g cv_Mo_next (Or.inl kw_584) cl_Mo (pz rfl (by decide)) (ct_Mo_next hc260) ⟨by decide, by decide⟩ rfl hl.1 (Nat.le_of_ble_eq_true rfl) d_Mo_builtIn_260 rfl ?_
    refine ww_st (st' := []) rfl ?_
    refine ww_goto (pc := 263) (tgt := 388) g.1 d_Mo_builtIn_263 (by decide) ?_
    exact j_Mo_builtIn_j388 g hR s ls (lv_sub hl [0] rfl) h
  have h := oC_neg c1_259 h
  by_cases c1_266 : l1 = 12
  · have h := oC_pos c1_266 h
    have c := c1_266
    refine ww_tableIn (pc := 1) (tgt := 266) g.1 d_Mo_builtIn_1 (by rw [c]; decide) (by rw [c]; decide) (by rw [c]; rfl) (by decide) ?_
    refine ww_aload_n (pc := 266) g.1 d_Mo_builtIn_266 rfl (lv_at hl 0 rfl) ?_
    obtain ⟨v267, s, hc267, h⟩ := oB_of h
    refine ww_callV (pc := 267) (rest := []) g cv_Mo_select (Or.inl kw_585) cl_Mo (pz rfl (by decide)) (ct_Mo_select hc267) ⟨by decide, by decide⟩ rfl hl.1 (Nat.le_of_ble_eq_true rfl) d_Mo_builtIn_267 rfl ?_
    refine ww_st (st' := []) rfl ?_
    refine ww_goto (pc := 270) (tgt := 388) g.1 d_Mo_builtIn_270 (by decide) ?_
    exact j_Mo_builtIn_j388 g hR s ls (lv_sub hl [0] rfl) h
  have h := oC_neg c1_266 h
  by_cases c1_273 : l1 = 13
  · have h := oC_pos c1_273 h
    have c := c1_273
    refine ww_tableIn (pc := 1) (tgt := 273) g.1 d_Mo_builtIn_1 (by rw [c]; decide) (by rw [c]; decide) (by rw [c]; rfl) (by decide) ?_
    refine ww_aload_n (pc := 273) g.1 d_Mo_builtIn_273 rfl (lv_at hl 0 rfl) ?_
    obtain ⟨v274, s, hc274, h⟩ := oB_of h
    refine ww_callV (pc := 274) (rest := []) g cv_Mo_sub (Or.inl kw_586) cl_Mo (pz rfl (by decide)) (ct_Mo_sub hc274) ⟨by decide, by decide⟩ rfl hl.1 (Nat.le_of_ble_eq_true rfl) d_Mo_builtIn_274 rfl ?_
    refine ww_st (st' := []) rfl ?_
    refine ww_goto (pc := 277) (tgt := 388) g.1 d_Mo_builtIn_277 (by decide) ?_
    exact j_Mo_builtIn_j388 g hR s ls (lv_sub hl [0] rfl) h
  have h := oC_neg c1_273 h
  by_cases c1_280 : l1 = 14
  · have h := oC_pos c1_280 h
    have c := c1_280
    refine ww_tableIn (pc := 1) (tgt := 280) g.1 d_Mo_builtIn_1 (by rw [c]; decide) (by rw [c]; decide) (by rw [c]; rfl) (by decide) ?_
    refine ww_aload_n (pc := 280) g.1 d_Mo_builtIn_280 rfl (lv_at hl 0 rfl) ?_
    obtain ⟨v281, s, hc281, h⟩ := oB_of h
    refine ww_callV (pc := 281) (rest := []) g cv_Mo_byteOf (Or.inl kw_587) cl_Mo (pz rfl (by decide)) (ct_Mo_byteOf hc281) ⟨by decide, by decide⟩ rfl hl.1 (Nat.le_of_ble_eq_true rfl) d_Mo_builtIn_281 rfl ?_
    refine ww_st (st' := []) rfl ?_
    refine ww_goto (pc := 284) (tgt := 388) g.1 d_Mo_builtIn_284 (by decide) ?_
    exact j_Mo_builtIn_j388 g hR s ls (lv_sub hl [0] rfl) h
  have h := oC_neg c1_280 h
  by_cases c1_287 : l1 = 15
  · have h := oC_pos c1_287 h
    have c := c1_287
    refine ww_tableIn (pc := 1) (tgt := 287) g.1 d_Mo_builtIn_1 (by rw [c]; decide) (by rw [c]; decide) (by rw [c]; rfl) (by decide) ?_
    refine ww_aload_n (pc := 287) g.1 d_Mo_builtIn_287 rfl (lv_at hl 0 rfl) ?_
    obtain ⟨v288, s, hc288, h⟩ := oB_of h
    refine ww_callV (pc := 288) (rest := []) g cv_Mo_characters (Or.inl kw_588) cl_Mo (pz rfl (by decide)) (ct_Mo_characters hc288) ⟨by decide, by decide⟩ rfl hl.1 (Nat.le_of_ble_eq_true rfl) d_Mo_builtIn_288 rfl ?_
    refine ww_st (st' := []) rfl ?_
    refine ww_goto (pc := 291) (tgt := 388) g.1 d_Mo_builtIn_291 (by decide) ?_
    exact j_Mo_builtIn_j388 g hR s ls (lv_sub hl [0] rfl) h
  have h := oC_neg c1_287 h
  by_cases c1_294 : l1 = 16
  · have h := oC_pos c1_294 h
    have c := c1_294
    refine ww_tableIn (pc := 1) (tgt := 294) g.1 d_Mo_builtIn_1 (by rw [c]; decide) (by rw [c]; decide) (by rw [c]; rfl) (by decide) ?_
    refine ww_aload_n (pc := 294) g.1 d_Mo_builtIn_294 rfl (lv_at hl 0 rfl) ?_
    refine ww_iconst (pc := 295) g.1 (v := 0) d_Mo_builtIn_295 (by decide) ?_
    refine ww_iconst (pc := 296) g.1 (v := 4) d_Mo_builtIn_296 (by decide) ?_
    obtain ⟨v297, s, hc297, h⟩ := oB_of h
    refine ww_callV (pc := 297) (rest := []) g cv_Mo_is (Or.inl kw_206) cl_Mo (pz rfl (by decide)) (ct_Mo_is hc297) ⟨by decide, by decide⟩ rfl hl.1 (Nat.le_of_ble_eq_true rfl) d_Mo_builtIn_297 rfl ?_
    refine ww_st (st' := [.int v297]) rfl ?_
    refine ww_if_eq (pc := 300) (tgt := 323) g.1 d_Mo_builtIn_300 (by decide) h (fun c h => ?_) (fun c h => ?_)
    · refine ww_aload_n (pc := 323) g.1 d_Mo_builtIn_323 rfl (lv_at hl 0 rfl) ?_
      refine ww_iconst (pc := 324) g.1 (v := 3) d_Mo_builtIn_324 (by decide) ?_
      obtain ⟨v325, s, hc325, h⟩ := oB_of h
      refine ww_callV (pc := 325) (rest := []) g cv_Mo_raise (Or.inl kw_157) cl_Mo (pz rfl (by decide)) (ct_Mo_raise hc325) ⟨by decide, by decide⟩ rfl hl.1 (Nat.le_of_ble_eq_true rfl) d_Mo_builtIn_325 rfl ?_
      refine ww_st (st' := [.int v325]) rfl ?_
      refine ww_pop (pc := 328) g.1 d_Mo_builtIn_328 rfl ?_
      refine ww_goto (pc := 329) (tgt := 388) g.1 d_Mo_builtIn_329 (by decide) ?_
      exact j_Mo_builtIn_j388 g hR s ls (lv_sub hl [0] rfl) h
    · refine ww_aload_n (pc := 303) g.1 d_Mo_builtIn_303 rfl (lv_at hl 0 rfl) ?_
      refine ww_iconst (pc := 304) g.1 (v := 3) d_Mo_builtIn_304 (by decide) ?_
      refine ww_aload_n (pc := 305) g.1 d_Mo_builtIn_305 rfl (lv_at hl 0 rfl) ?_
      refine ww_gR (pc := 306) g (k := 50) cl_Mo (pz rfl (by decide)) (by decide) (Or.inl kw_91) (f := 50) (t := 63) rfl rfl rfl d_Mo_builtIn_306 ?_
      refine ww_aload_n (pc := 309) g.1 d_Mo_builtIn_309 rfl (lv_at hl 0 rfl) ?_
      refine ww_iconst (pc := 310) g.1 (v := 0) d_Mo_builtIn_310 (by decide) ?_
      obtain ⟨v311, s, hc311, h⟩ := oB_of h
      refine ww_callV (pc := 311) (rest := [.ref (q.1 63 0), .int 3, .ref (q.1 0 0)]) g cv_Mo_av (Or.inl kw_193) cl_Mo (pz rfl (by decide)) (ct_Mo_av hc311) ⟨by decide, by decide⟩ rfl hl.1 (Nat.le_of_ble_eq_true rfl) d_Mo_builtIn_311 rfl ?_
      refine ww_st (st' := [.long v311, .ref (q.1 63 0), .int 3, .ref (q.1 0 0)]) rfl ?_
      refine ww_l2i (pc := 314) g.1 (v := v311.toInt32) d_Mo_builtIn_314 rfl ?_
      refine ww_ai (pc := 315) g (pz rfl (by decide)) rfl rfl d_Mo_builtIn_315 h fun v315 h => ?_
      refine ww_i2l (pc := 316) g.1 (v := v315.toInt64) d_Mo_builtIn_316 rfl ?_
      obtain ⟨v317, s, hc317, h⟩ := oB_of h
      refine ww_callV (pc := 317) (rest := []) g cv_Mo_give (Or.inl kw_212) cl_Mo (pz rfl (by decide)) (ct_Mo_give hc317) ⟨by decide, by decide⟩ rfl hl.1 (Nat.le_of_ble_eq_true rfl) d_Mo_builtIn_317 rfl ?_
      refine ww_st (st' := []) rfl ?_
      refine ww_goto (pc := 320) (tgt := 388) g.1 d_Mo_builtIn_320 (by decide) ?_
      exact j_Mo_builtIn_j388 g hR s ls (lv_sub hl [0] rfl) h
  have h := oC_neg c1_294 h
  by_cases c1_332 : l1 = 17 ∨ l1 = 22
  · have h := oC_pos c1_332 h
    rcases c1_332 with c | c
    · refine ww_tableIn (pc := 1) (tgt := 332) g.1 d_Mo_builtIn_1 (by rw [c]; decide) (by rw [c]; decide) (by rw [c]; rfl) (by decide) ?_
      refine ww_aload_n (pc := 332) g.1 d_Mo_builtIn_332 rfl (lv_at hl 0 rfl) ?_
      refine ww_iload_n (pc := 333) g.1 d_Mo_builtIn_333 rfl (lv_at hl 1 rfl) ?_
      refine ww_bipush (pc := 334) g.1 (v := 22) d_Mo_builtIn_334 (by decide) ?_
      refine ww_icmp_ne (pc := 336) (tgt := 343) g.1 d_Mo_builtIn_336 (by decide) h (fun c h => ?_) (fun c h => ?_)
      · refine ww_iconst (pc := 343) g.1 (v := 0) d_Mo_builtIn_343 (by decide) ?_
        exact j_Mo_builtIn_j344 g hR 0 s ls (lv_sub hl [0] rfl) h
      · refine ww_iconst (pc := 339) g.1 (v := 1) d_Mo_builtIn_339 (by decide) ?_
        refine ww_goto (pc := 340) (tgt := 344) g.1 d_Mo_builtIn_340 (by decide) ?_
        exact j_Mo_builtIn_j344 g hR 1 s ls (lv_sub hl [0] rfl) h
    · refine ww_tableIn (pc := 1) (tgt := 332) g.1 d_Mo_builtIn_1 (by rw [c]; decide) (by rw [c]; decide) (by rw [c]; rfl) (by decide) ?_
      refine ww_aload_n (pc := 332) g.1 d_Mo_builtIn_332 rfl (lv_at hl 0 rfl) ?_
      refine ww_iload_n (pc := 333) g.1 d_Mo_builtIn_333 rfl (lv_at hl 1 rfl) ?_
      refine ww_bipush (pc := 334) g.1 (v := 22) d_Mo_builtIn_334 (by decide) ?_
      refine ww_icmp_ne (pc := 336) (tgt := 343) g.1 d_Mo_builtIn_336 (by decide) h (fun c h => ?_) (fun c h => ?_)
      · refine ww_iconst (pc := 343) g.1 (v := 0) d_Mo_builtIn_343 (by decide) ?_
        exact j_Mo_builtIn_j344 g hR 0 s ls (lv_sub hl [0] rfl) h
      · refine ww_iconst (pc := 339) g.1 (v := 1) d_Mo_builtIn_339 (by decide) ?_
        refine ww_goto (pc := 340) (tgt := 344) g.1 d_Mo_builtIn_340 (by decide) ?_
        exact j_Mo_builtIn_j344 g hR 1 s ls (lv_sub hl [0] rfl) h
  have h := oC_neg c1_332 h
  by_cases c1_350 : l1 = 18
  · have h := oC_pos c1_350 h
    have c := c1_350
    refine ww_tableIn (pc := 1) (tgt := 350) g.1 d_Mo_builtIn_1 (by rw [c]; decide) (by rw [c]; decide) (by rw [c]; rfl) (by decide) ?_
    refine ww_aload_n (pc := 350) g.1 d_Mo_builtIn_350 rfl (lv_at hl 0 rfl) ?_
    obtain ⟨v351, s, hc351, h⟩ := oB_of h
    refine ww_callV (pc := 351) (rest := []) g cv_Mo_resume (Or.inl kw_590) cl_Mo (pz rfl (by decide)) (ct_Mo_resume hc351) ⟨by decide, by decide⟩ rfl hl.1 (Nat.le_of_ble_eq_true rfl) d_Mo_builtIn_351 rfl ?_
    refine ww_st (st' := []) rfl ?_
    exact ww_vretH (pc := 354) g h hR d_Mo_builtIn_354
  have h := oC_neg c1_350 h
  by_cases c1_355 : l1 = 19
  · have h := oC_pos c1_355 h
    have c := c1_355
    refine ww_tableIn (pc := 1) (tgt := 355) g.1 d_Mo_builtIn_1 (by rw [c]; decide) (by rw [c]; decide) (by rw [c]; rfl) (by decide) ?_
    refine ww_aload_n (pc := 355) g.1 d_Mo_builtIn_355 rfl (lv_at hl 0 rfl) ?_
    obtain ⟨v356, s, hc356, h⟩ := oB_of h
    refine ww_callV (pc := 356) (rest := []) g cv_Mo_giveWay (Or.inl kw_591) cl_Mo (pz rfl (by decide)) (ct_Mo_giveWay hc356) ⟨by decide, by decide⟩ rfl hl.1 (Nat.le_of_ble_eq_true rfl) d_Mo_builtIn_356 rfl ?_
    refine ww_st (st' := []) rfl ?_
    exact ww_vretH (pc := 359) g h hR d_Mo_builtIn_359
  have h := oC_neg c1_355 h
  by_cases c1_360 : l1 = 20
  · have h := oC_pos c1_360 h
    have c := c1_360
    refine ww_tableIn (pc := 1) (tgt := 360) g.1 d_Mo_builtIn_1 (by rw [c]; decide) (by rw [c]; decide) (by rw [c]; rfl) (by decide) ?_
    refine ww_aload_n (pc := 360) g.1 d_Mo_builtIn_360 rfl (lv_at hl 0 rfl) ?_
    obtain ⟨v361, s, hc361, h⟩ := oB_of h
    refine ww_callV (pc := 361) (rest := []) g cv_Mo_state (Or.inl kw_592) cl_Mo (pz rfl (by decide)) (ct_Mo_state hc361) ⟨by decide, by decide⟩ rfl hl.1 (Nat.le_of_ble_eq_true rfl) d_Mo_builtIn_361 rfl ?_
    refine ww_st (st' := []) rfl ?_
    refine ww_goto (pc := 364) (tgt := 388) g.1 d_Mo_builtIn_364 (by decide) ?_
    exact j_Mo_builtIn_j388 g hR s ls (lv_sub hl [0] rfl) h
  have h := oC_neg c1_360 h
  by_cases c1_367 : l1 = 21
  · have h := oC_pos c1_367 h
    have c := c1_367
    refine ww_tableIn (pc := 1) (tgt := 367) g.1 d_Mo_builtIn_1 (by rw [c]; decide) (by rw [c]; decide) (by rw [c]; rfl) (by decide) ?_
    refine ww_aload_n (pc := 367) g.1 d_Mo_builtIn_367 rfl (lv_at hl 0 rfl) ?_
    obtain ⟨v368, s, hc368, h⟩ := oB_of h
    refine ww_callV (pc := 368) (rest := []) g cv_Mo_running (Or.inl kw_593) cl_Mo (pz rfl (by decide)) (ct_Mo_running hc368) ⟨by decide, by decide⟩ rfl hl.1 (Nat.le_of_ble_eq_true rfl) d_Mo_builtIn_368 rfl ?_
    refine ww_st (st' := []) rfl ?_
    refine ww_goto (pc := 371) (tgt := 388) g.1 d_Mo_builtIn_371 (by decide) ?_
    exact j_Mo_builtIn_j388 g hR s ls (lv_sub hl [0] rfl) h
  have h := oC_neg c1_367 h
  have n_0 : ¬ l1.toInt = 0 := lv_neT (fun e => c1_108 e) rfl
  have n_1 : ¬ l1.toInt = 1 := lv_neT (fun e => c1_115 e) rfl
  have n_2 : ¬ l1.toInt = 2 := lv_neT (fun e => c1_120 e) rfl
  have n_3 : ¬ l1.toInt = 3 := lv_neT (fun e => c1_166 e) rfl
  have n_4 : ¬ l1.toInt = 4 := lv_neT (fun e => c1_192 e) rfl
  have n_5 : ¬ l1.toInt = 5 := lv_neT (fun e => c1_197 e) rfl
  have n_6 : ¬ l1.toInt = 6 := lv_neT (fun e => c1_204 e) rfl
  have n_7 : ¬ l1.toInt = 7 := lv_neT (fun e => c1_211 (Or.inl e)) rfl
  have n_8 : ¬ l1.toInt = 8 := lv_neT (fun e => c1_211 (Or.inr (Or.inl e))) rfl
  have n_9 : ¬ l1.toInt = 9 := lv_neT (fun e => c1_211 (Or.inr (Or.inr (e)))) rfl
  have n_10 : ¬ l1.toInt = 10 := lv_neT (fun e => c1_219 e) rfl
  have n_11 : ¬ l1.toInt = 11 := lv_neT (fun e => c1_259 e) rfl
  have n_12 : ¬ l1.toInt = 12 := lv_neT (fun e => c1_266 e) rfl
  have n_13 : ¬ l1.toInt = 13 := lv_neT (fun e => c1_273 e) rfl
  have n_14 : ¬ l1.toInt = 14 := lv_neT (fun e => c1_280 e) rfl
  have n_15 : ¬ l1.toInt = 15 := lv_neT (fun e => c1_287 e) rfl
  have n_16 : ¬ l1.toInt = 16 := lv_neT (fun e => c1_294 e) rfl
  have n_17 : ¬ l1.toInt = 17 := lv_neT (fun e => c1_332 (Or.inl e)) rfl
  have n_22 : ¬ l1.toInt = 22 := lv_neT (fun e => c1_332 (Or.inr (e))) rfl
  have n_18 : ¬ l1.toInt = 18 := lv_neT (fun e => c1_350 e) rfl
  have n_19 : ¬ l1.toInt = 19 := lv_neT (fun e => c1_355 e) rfl
  have n_20 : ¬ l1.toInt = 20 := lv_neT (fun e => c1_360 e) rfl
  have n_21 : ¬ l1.toInt = 21 := lv_neT (fun e => c1_367 e) rfl
  by_cases hr : l1.toInt < 0 ∨ 22 < l1.toInt
  · refine ww_tableOut (pc := 1) (tgt := 374) g.1 d_Mo_builtIn_1 hr (by decide) ?_
    refine ww_aload_n (pc := 374) g.1 d_Mo_builtIn_374 rfl (lv_at hl 0 rfl) ?_
    obtain ⟨v375, s, hc375, h⟩ := oB_of h
    refine ww_callV (pc := 375) (rest := []) g cv_Mo_collection (Or.inl kw_452) cl_Mo (pz rfl (by decide)) (ct_Mo_collection hc375) ⟨by decide, by decide⟩ rfl hl.1 (Nat.le_of_ble_eq_true rfl) d_Mo_builtIn_375 rfl ?_
    refine ww_st (st' := []) rfl ?_
    refine ww_aload_n (pc := 378) g.1 d_Mo_builtIn_378 rfl (lv_at hl 0 rfl) ?_
    refine ww_iconst (pc := 379) g.1 (v := 3) d_Mo_builtIn_379 (by decide) ?_
    refine ww_aload_n (pc := 380) g.1 d_Mo_builtIn_380 rfl (lv_at hl 0 rfl) ?_
    refine ww_gI (pc := 381) g (k := 34) cl_Mo (pz rfl (by decide)) (by decide) (Or.inl kw_115) (f := 34) rfl rfl d_Mo_builtIn_381 h fun v381 h => ?_
    refine ww_i2l (pc := 384) g.1 (v := v381.toInt64) d_Mo_builtIn_384 rfl ?_
    obtain ⟨v385, s, hc385, h⟩ := oB_of h
    refine ww_callV (pc := 385) (rest := []) g cv_Mo_give (Or.inl kw_212) cl_Mo (pz rfl (by decide)) (ct_Mo_give hc385) ⟨by decide, by decide⟩ rfl hl.1 (Nat.le_of_ble_eq_true rfl) d_Mo_builtIn_385 rfl ?_
    refine ww_st (st' := []) rfl ?_
    exact j_Mo_builtIn_j388 g hR s ls (lv_sub hl [0] rfl) h
  exact absurd hr (by omega)

abbrev b_Mo_deliver : ByteArray := prog_14_method_73_code
def y_Mo_deliver : MethodName := ⟨R_Mo, "deliver", "()V"⟩
abbrev w_Mo_deliver : List Cond := .code y_Mo_deliver b_Mo_deliver 4 none :: wA
set_option maxRecDepth 20000 in
theorem k_Mo_deliver : Cond.code y_Mo_deliver b_Mo_deliver 4 none ∈ wA := kinm (show _ ∈ tables_1 from (List.mem_append_right _ (List.mem_append_right _ (List.mem_append_right _ (List.mem_append_right _ (List.mem_append_right _ (List.mem_append_right _ (List.mem_append_right _ (List.mem_append_right _ (List.mem_append_right _ (List.mem_append_right _ (List.mem_append_right _ (List.mem_append_right _ (List.mem_append_left _ (List.mem_of_getElem? (l := tables_1_13) (i := 84) rfl))))))))))))))) rfl
theorem d_Mo_deliver_0 : decode b_Mo_deliver 0 = .ok (.aload_n 0, 1) := by decide +kernel
theorem d_Mo_deliver_1 : decode b_Mo_deliver 1 = .ok (.iconst 0, 1) := by decide +kernel
theorem d_Mo_deliver_2 : decode b_Mo_deliver 2 = .ok (.putfield 247, 3) := by decide +kernel
theorem d_Mo_deliver_5 : decode b_Mo_deliver 5 = .ok (.aload_n 0, 1) := by decide +kernel
theorem d_Mo_deliver_6 : decode b_Mo_deliver 6 = .ok (.getfield 243, 3) := by decide +kernel
theorem d_Mo_deliver_9 : decode b_Mo_deliver 9 = .ok (.astore_n 1, 1) := by decide +kernel
theorem d_Mo_deliver_10 : decode b_Mo_deliver 10 = .ok (.aload_n 1, 1) := by decide +kernel
theorem d_Mo_deliver_11 : decode b_Mo_deliver 11 = .ok (.getfield 730, 3) := by decide +kernel
theorem d_Mo_deliver_14 : decode b_Mo_deliver 14 = .ok (.ifCond .ne 8, 3) := by decide +kernel
theorem d_Mo_deliver_17 : decode b_Mo_deliver 17 = .ok (.aload_n 0, 1) := by decide +kernel
theorem d_Mo_deliver_18 : decode b_Mo_deliver 18 = .ok (.invokevirtual 761, 3) := by decide +kernel
theorem d_Mo_deliver_21 : decode b_Mo_deliver 21 = .ok (.return_, 1) := by decide +kernel
theorem d_Mo_deliver_22 : decode b_Mo_deliver 22 = .ok (.aload_n 1, 1) := by decide +kernel
theorem d_Mo_deliver_23 : decode b_Mo_deliver 23 = .ok (.invokevirtual 703, 3) := by decide +kernel
theorem d_Mo_deliver_26 : decode b_Mo_deliver 26 = .ok (.istore_n 2, 1) := by decide +kernel
theorem d_Mo_deliver_27 : decode b_Mo_deliver 27 = .ok (.aload_n 1, 1) := by decide +kernel
theorem d_Mo_deliver_28 : decode b_Mo_deliver 28 = .ok (.getfield 733, 3) := by decide +kernel
theorem d_Mo_deliver_31 : decode b_Mo_deliver 31 = .ok (.iload_n 2, 1) := by decide +kernel
theorem d_Mo_deliver_32 : decode b_Mo_deliver 32 = .ok (.iaload, 1) := by decide +kernel
theorem d_Mo_deliver_33 : decode b_Mo_deliver 33 = .ok (.tableswitch 215 0 4 #[35, 44, 44, 215, 149], 35) := by decide +kernel
theorem d_Mo_deliver_68 : decode b_Mo_deliver 68 = .ok (.aload_n 0, 1) := by decide +kernel
theorem d_Mo_deliver_69 : decode b_Mo_deliver 69 = .ok (.aload_n 1, 1) := by decide +kernel
theorem d_Mo_deliver_70 : decode b_Mo_deliver 70 = .ok (.iload_n 2, 1) := by decide +kernel
theorem d_Mo_deliver_71 : decode b_Mo_deliver 71 = .ok (.invokevirtual 764, 3) := by decide +kernel
theorem d_Mo_deliver_74 : decode b_Mo_deliver 74 = .ok (.goto 189, 3) := by decide +kernel
theorem d_Mo_deliver_77 : decode b_Mo_deliver 77 = .ok (.aload_n 1, 1) := by decide +kernel
theorem d_Mo_deliver_78 : decode b_Mo_deliver 78 = .ok (.dup, 1) := by decide +kernel
theorem d_Mo_deliver_79 : decode b_Mo_deliver 79 = .ok (.getfield 730, 3) := by decide +kernel
theorem d_Mo_deliver_82 : decode b_Mo_deliver 82 = .ok (.iconst 1, 1) := by decide +kernel
theorem d_Mo_deliver_83 : decode b_Mo_deliver 83 = .ok (.isub, 1) := by decide +kernel
theorem d_Mo_deliver_84 : decode b_Mo_deliver 84 = .ok (.putfield 730, 3) := by decide +kernel
theorem d_Mo_deliver_87 : decode b_Mo_deliver 87 = .ok (.aload_n 0, 1) := by decide +kernel
theorem d_Mo_deliver_88 : decode b_Mo_deliver 88 = .ok (.getfield 262, 3) := by decide +kernel
theorem d_Mo_deliver_91 : decode b_Mo_deliver 91 = .ok (.getfield 569, 3) := by decide +kernel
theorem d_Mo_deliver_94 : decode b_Mo_deliver 94 = .ok (.sipush 250, 3) := by decide +kernel
theorem d_Mo_deliver_97 : decode b_Mo_deliver 97 = .ok (.if_icmp .ne 21, 3) := by decide +kernel
theorem d_Mo_deliver_100 : decode b_Mo_deliver 100 = .ok (.aload_n 0, 1) := by decide +kernel
theorem d_Mo_deliver_101 : decode b_Mo_deliver 101 = .ok (.getfield 262, 3) := by decide +kernel
theorem d_Mo_deliver_104 : decode b_Mo_deliver 104 = .ok (.iconst 0, 1) := by decide +kernel
theorem d_Mo_deliver_105 : decode b_Mo_deliver 105 = .ok (.putfield 569, 3) := by decide +kernel
theorem d_Mo_deliver_108 : decode b_Mo_deliver 108 = .ok (.aload_n 0, 1) := by decide +kernel
theorem d_Mo_deliver_109 : decode b_Mo_deliver 109 = .ok (.bipush 7, 2) := by decide +kernel
theorem d_Mo_deliver_111 : decode b_Mo_deliver 111 = .ok (.invokevirtual 517, 3) := by decide +kernel
theorem d_Mo_deliver_114 : decode b_Mo_deliver 114 = .ok (.pop, 1) := by decide +kernel
theorem d_Mo_deliver_115 : decode b_Mo_deliver 115 = .ok (.goto 148, 3) := by decide +kernel
theorem d_Mo_deliver_118 : decode b_Mo_deliver 118 = .ok (.aload_n 0, 1) := by decide +kernel
theorem d_Mo_deliver_119 : decode b_Mo_deliver 119 = .ok (.getfield 262, 3) := by decide +kernel
theorem d_Mo_deliver_122 : decode b_Mo_deliver 122 = .ok (.getfield 569, 3) := by decide +kernel
theorem d_Mo_deliver_125 : decode b_Mo_deliver 125 = .ok (.istore_n 3, 1) := by decide +kernel
theorem d_Mo_deliver_126 : decode b_Mo_deliver 126 = .ok (.iload_n 3, 1) := by decide +kernel
theorem d_Mo_deliver_127 : decode b_Mo_deliver 127 = .ok (.ifCond .le 24, 3) := by decide +kernel
theorem d_Mo_deliver_130 : decode b_Mo_deliver 130 = .ok (.aload_n 0, 1) := by decide +kernel
theorem d_Mo_deliver_131 : decode b_Mo_deliver 131 = .ok (.getfield 262, 3) := by decide +kernel
theorem d_Mo_deliver_134 : decode b_Mo_deliver 134 = .ok (.iload_n 3, 1) := by decide +kernel
theorem d_Mo_deliver_135 : decode b_Mo_deliver 135 = .ok (.aload_n 0, 1) := by decide +kernel
theorem d_Mo_deliver_136 : decode b_Mo_deliver 136 = .ok (.getfield 262, 3) := by decide +kernel
theorem d_Mo_deliver_139 : decode b_Mo_deliver 139 = .ok (.iload_n 3, 1) := by decide +kernel
theorem d_Mo_deliver_140 : decode b_Mo_deliver 140 = .ok (.iconst 1, 1) := by decide +kernel
theorem d_Mo_deliver_141 : decode b_Mo_deliver 141 = .ok (.isub, 1) := by decide +kernel
theorem d_Mo_deliver_142 : decode b_Mo_deliver 142 = .ok (.invokevirtual 719, 3) := by decide +kernel
theorem d_Mo_deliver_145 : decode b_Mo_deliver 145 = .ok (.iinc 3 (-1), 3) := by decide +kernel
theorem d_Mo_deliver_148 : decode b_Mo_deliver 148 = .ok (.goto (-22), 3) := by decide +kernel
theorem d_Mo_deliver_151 : decode b_Mo_deliver 151 = .ok (.aload_n 0, 1) := by decide +kernel
theorem d_Mo_deliver_152 : decode b_Mo_deliver 152 = .ok (.getfield 262, 3) := by decide +kernel
theorem d_Mo_deliver_155 : decode b_Mo_deliver 155 = .ok (.iconst 0, 1) := by decide +kernel
theorem d_Mo_deliver_156 : decode b_Mo_deliver 156 = .ok (.iconst 2, 1) := by decide +kernel
theorem d_Mo_deliver_157 : decode b_Mo_deliver 157 = .ok (.lconst 0, 1) := by decide +kernel
theorem d_Mo_deliver_158 : decode b_Mo_deliver 158 = .ok (.invokevirtual 470, 3) := by decide +kernel
theorem d_Mo_deliver_161 : decode b_Mo_deliver 161 = .ok (.aload_n 0, 1) := by decide +kernel
theorem d_Mo_deliver_162 : decode b_Mo_deliver 162 = .ok (.getfield 262, 3) := by decide +kernel
theorem d_Mo_deliver_165 : decode b_Mo_deliver 165 = .ok (.dup, 1) := by decide +kernel
theorem d_Mo_deliver_166 : decode b_Mo_deliver 166 = .ok (.getfield 569, 3) := by decide +kernel
theorem d_Mo_deliver_169 : decode b_Mo_deliver 169 = .ok (.iconst 1, 1) := by decide +kernel
theorem d_Mo_deliver_170 : decode b_Mo_deliver 170 = .ok (.iadd, 1) := by decide +kernel
theorem d_Mo_deliver_171 : decode b_Mo_deliver 171 = .ok (.putfield 569, 3) := by decide +kernel
theorem d_Mo_deliver_174 : decode b_Mo_deliver 174 = .ok (.aload_n 0, 1) := by decide +kernel
theorem d_Mo_deliver_175 : decode b_Mo_deliver 175 = .ok (.iconst 2, 1) := by decide +kernel
theorem d_Mo_deliver_176 : decode b_Mo_deliver 176 = .ok (.putfield 247, 3) := by decide +kernel
theorem d_Mo_deliver_179 : decode b_Mo_deliver 179 = .ok (.goto 84, 3) := by decide +kernel
theorem d_Mo_deliver_182 : decode b_Mo_deliver 182 = .ok (.aload_n 1, 1) := by decide +kernel
theorem d_Mo_deliver_183 : decode b_Mo_deliver 183 = .ok (.dup, 1) := by decide +kernel
theorem d_Mo_deliver_184 : decode b_Mo_deliver 184 = .ok (.getfield 730, 3) := by decide +kernel
theorem d_Mo_deliver_187 : decode b_Mo_deliver 187 = .ok (.iconst 1, 1) := by decide +kernel
theorem d_Mo_deliver_188 : decode b_Mo_deliver 188 = .ok (.isub, 1) := by decide +kernel
theorem d_Mo_deliver_189 : decode b_Mo_deliver 189 = .ok (.putfield 730, 3) := by decide +kernel
theorem d_Mo_deliver_192 : decode b_Mo_deliver 192 = .ok (.aload_n 0, 1) := by decide +kernel
theorem d_Mo_deliver_193 : decode b_Mo_deliver 193 = .ok (.getfield 262, 3) := by decide +kernel
theorem d_Mo_deliver_196 : decode b_Mo_deliver 196 = .ok (.getfield 569, 3) := by decide +kernel
theorem d_Mo_deliver_199 : decode b_Mo_deliver 199 = .ok (.ifCond .eq 16, 3) := by decide +kernel
theorem d_Mo_deliver_202 : decode b_Mo_deliver 202 = .ok (.aload_n 0, 1) := by decide +kernel
theorem d_Mo_deliver_203 : decode b_Mo_deliver 203 = .ok (.getfield 262, 3) := by decide +kernel
theorem d_Mo_deliver_206 : decode b_Mo_deliver 206 = .ok (.getfield 585, 3) := by decide +kernel
theorem d_Mo_deliver_209 : decode b_Mo_deliver 209 = .ok (.iconst 0, 1) := by decide +kernel
theorem d_Mo_deliver_210 : decode b_Mo_deliver 210 = .ok (.baload, 1) := by decide +kernel
theorem d_Mo_deliver_211 : decode b_Mo_deliver 211 = .ok (.iconst 4, 1) := by decide +kernel
theorem d_Mo_deliver_212 : decode b_Mo_deliver 212 = .ok (.if_icmp .eq 20, 3) := by decide +kernel
theorem d_Mo_deliver_215 : decode b_Mo_deliver 215 = .ok (.aload_n 0, 1) := by decide +kernel
theorem d_Mo_deliver_216 : decode b_Mo_deliver 216 = .ok (.getfield 262, 3) := by decide +kernel
theorem d_Mo_deliver_219 : decode b_Mo_deliver 219 = .ok (.iconst 0, 1) := by decide +kernel
theorem d_Mo_deliver_220 : decode b_Mo_deliver 220 = .ok (.putfield 569, 3) := by decide +kernel
theorem d_Mo_deliver_223 : decode b_Mo_deliver 223 = .ok (.aload_n 0, 1) := by decide +kernel
theorem d_Mo_deliver_224 : decode b_Mo_deliver 224 = .ok (.iconst 3, 1) := by decide +kernel
theorem d_Mo_deliver_225 : decode b_Mo_deliver 225 = .ok (.invokevirtual 517, 3) := by decide +kernel
theorem d_Mo_deliver_228 : decode b_Mo_deliver 228 = .ok (.pop, 1) := by decide +kernel
theorem d_Mo_deliver_229 : decode b_Mo_deliver 229 = .ok (.goto 34, 3) := by decide +kernel
theorem d_Mo_deliver_232 : decode b_Mo_deliver 232 = .ok (.aload_n 0, 1) := by decide +kernel
theorem d_Mo_deliver_233 : decode b_Mo_deliver 233 = .ok (.getfield 262, 3) := by decide +kernel
theorem d_Mo_deliver_236 : decode b_Mo_deliver 236 = .ok (.iconst 1, 1) := by decide +kernel
theorem d_Mo_deliver_237 : decode b_Mo_deliver 237 = .ok (.putfield 569, 3) := by decide +kernel
theorem d_Mo_deliver_240 : decode b_Mo_deliver 240 = .ok (.aload_n 0, 1) := by decide +kernel
theorem d_Mo_deliver_241 : decode b_Mo_deliver 241 = .ok (.iconst 2, 1) := by decide +kernel
theorem d_Mo_deliver_242 : decode b_Mo_deliver 242 = .ok (.putfield 247, 3) := by decide +kernel
theorem d_Mo_deliver_245 : decode b_Mo_deliver 245 = .ok (.goto 18, 3) := by decide +kernel
theorem d_Mo_deliver_248 : decode b_Mo_deliver 248 = .ok (.aload_n 1, 1) := by decide +kernel
theorem d_Mo_deliver_249 : decode b_Mo_deliver 249 = .ok (.dup, 1) := by decide +kernel
theorem d_Mo_deliver_250 : decode b_Mo_deliver 250 = .ok (.getfield 730, 3) := by decide +kernel
theorem d_Mo_deliver_253 : decode b_Mo_deliver 253 = .ok (.iconst 1, 1) := by decide +kernel
theorem d_Mo_deliver_254 : decode b_Mo_deliver 254 = .ok (.isub, 1) := by decide +kernel
theorem d_Mo_deliver_255 : decode b_Mo_deliver 255 = .ok (.putfield 730, 3) := by decide +kernel
theorem d_Mo_deliver_258 : decode b_Mo_deliver 258 = .ok (.aload_n 0, 1) := by decide +kernel
theorem d_Mo_deliver_259 : decode b_Mo_deliver 259 = .ok (.iconst 2, 1) := by decide +kernel
theorem d_Mo_deliver_260 : decode b_Mo_deliver 260 = .ok (.putfield 247, 3) := by decide +kernel
theorem d_Mo_deliver_263 : decode b_Mo_deliver 263 = .ok (.return_, 1) := by decide +kernel
theorem kw_596 : Cond.methodLink R_Mo 764 y_Mo_taken ∈ wA := kinm (show _ ∈ tables_1 from (List.mem_append_right _ (List.mem_append_right _ (List.mem_append_right _ (List.mem_append_right _ (List.mem_append_right _ (List.mem_append_right _ (List.mem_append_right _ (List.mem_append_right _ (List.mem_append_right _ (List.mem_append_right _ (List.mem_append_right _ (List.mem_append_right _ (List.mem_append_left _ (List.mem_of_getElem? (l := tables_1_13) (i := 89) (by decide +kernel)))))))))))))))) (by decide +kernel)
theorem kw_597 : Cond.methodLink R_Mo 761 y_Mo_finished ∈ wA := kinm (show _ ∈ tables_1 from (List.mem_append_right _ (List.mem_append_right _ (List.mem_append_right _ (List.mem_append_right _ (List.mem_append_right _ (List.mem_append_right _ (List.mem_append_right _ (List.mem_append_right _ (List.mem_append_right _ (List.mem_append_right _ (List.mem_append_right _ (List.mem_append_right _ (List.mem_append_left _ (List.mem_of_getElem? (l := tables_1_13) (i := 85) (by decide +kernel)))))))))))))))) (by decide +kernel)
theorem kw_598 : Cond.instanceMethod y_Mo_deliver ∈ wA := kinm (show _ ∈ tables_1 from (List.mem_append_right _ (List.mem_append_right _ (List.mem_append_right _ (List.mem_append_right _ (List.mem_append_right _ (List.mem_append_right _ (List.mem_append_right _ (List.mem_append_right _ (List.mem_append_right _ (List.mem_append_right _ (List.mem_append_right _ (List.mem_append_right _ (List.mem_append_left _ (List.mem_of_getElem? (l := tables_1_13) (i := 83) (by decide +kernel)))))))))))))))) (by decide +kernel)
theorem kw_599 : Cond.selects R_Mo y_Mo_deliver y_Mo_deliver ∈ wA := kinp 192 (by decide +kernel) (by decide +kernel)
theorem cv_Mo_deliver : CV y_Mo_deliver b_Mo_deliver 4 none 0 := ⟨kw_598, kw_599, kw_17, k_Mo_deliver, by decide +kernel⟩
theorem lp_Mo_deliver_L126 {X : Cx} {q : PL} (g : Gd X y_Mo_deliver b_Mo_deliver 4 none 10 260 R_Mo) (x : Int32) (s : S1) (o : ((Int32) ⊕ ((Unit))) × S1) (h : M_Mo_deliver_L126 x s = some o) (hR : (Sum.elim (fun y : Int32 => ∀ ls : Array Slot, lv_has ls 4 [(0, .ref (q.1 0 0)), (3, .int y)] → WW X q o.2 126 ls []) (fun y : Unit => ∀ ls : Array Slot, lv_has ls 4 [(0, .ref (q.1 0 0))] → WW X q o.2 151 ls []) o.1)) : ∀ ls : Array Slot, lv_has ls 4 [(0, .ref (q.1 0 0)), (3, .int x)] → WW X q s 126 ls [] := by
  intro ls hl
  unfold M_Mo_deliver_L126 at h
  refine ww_iload_n (pc := 126) g.1 d_Mo_deliver_126 rfl (lv_at hl 1 rfl) ?_
  refine ww_if_le (pc := 127) (tgt := 151) g.1 d_Mo_deliver_127 (by decide) h (fun c h => ?_) (fun c h => ?_)
  · rw [oR_eq h] at hR
    exact hR ls (lv_sub hl [0] rfl)
  · refine ww_aload_n (pc := 130) g.1 d_Mo_deliver_130 rfl (lv_at hl 0 rfl) ?_
    refine ww_gR (pc := 131) g (k := 78) cl_Mo (pz rfl (by decide)) (by decide) (Or.inl kw_178) (f := 78) (t := 10) rfl rfl rfl d_Mo_deliver_131 ?_
    refine ww_iload_n (pc := 134) g.1 d_Mo_deliver_134 rfl (lv_at hl 1 rfl) ?_
    refine ww_aload_n (pc := 135) g.1 d_Mo_deliver_135 rfl (lv_at hl 0 rfl) ?_
    refine ww_gR (pc := 136) g (k := 78) cl_Mo (pz rfl (by decide)) (by decide) (Or.inl kw_178) (f := 78) (t := 10) rfl rfl rfl d_Mo_deliver_136 ?_
    refine ww_iload_n (pc := 139) g.1 d_Mo_deliver_139 rfl (lv_at hl 1 rfl) ?_
    refine ww_iconst (pc := 140) g.1 (v := 1) d_Mo_deliver_140 (by decide) ?_
    refine ww_isub (pc := 141) g.1 d_Mo_deliver_141 ?_
    obtain ⟨v142, s, hc142, h⟩ := oB_of h
    refine ww_callV (pc := 142) (rest := []) g cv_Va_set_ (Or.inl kw_195) (cl_Va (Or.inl ⟨by decide, rfl⟩)) (pz rfl (by decide)) (ct_Va_set_ (Or.inl ⟨by decide, rfl⟩) (Or.inl ⟨by decide, rfl⟩) hc142) ⟨by decide, by decide⟩ rfl hl.1 (Nat.le_of_ble_eq_true rfl) d_Mo_deliver_142 rfl ?_
    refine ww_st (st' := []) rfl ?_
    refine ww_iinc (pc := 145) g.1 (v := x + (-1)) (lv' := [(3, .int (x + (-1))), (0, .ref (q.1 0 0))]) d_Mo_deliver_145 hl (k := 1) rfl (by rfl) (by decide) rfl fun ls hl => ?_
    refine ww_goto (pc := 148) (tgt := 126) g.1 d_Mo_deliver_148 (by decide) ?_
    rw [oR_eq h] at hR
    exact hR ls (lv_sub hl [1, 0] rfl)

theorem j_Mo_deliver_j215 {X : Cx} {q : PL} (g : Gd X y_Mo_deliver b_Mo_deliver 4 none 10 260 R_Mo) {o : (Unit) × S1} (hR : Rt X q o.2 none)  (s : S1) (ls : Array Slot) (hl : lv_has ls 4 [(0, .ref (q.1 0 0))]) (h : M_Mo_deliver_j215 s = some o) : WW X q s 215 ls [] := by
  unfold M_Mo_deliver_j215 at h
  refine ww_aload_n (pc := 215) g.1 d_Mo_deliver_215 rfl (lv_at hl 0 rfl) ?_
  refine ww_gR (pc := 216) g (k := 78) cl_Mo (pz rfl (by decide)) (by decide) (Or.inl kw_178) (f := 78) (t := 10) rfl rfl rfl d_Mo_deliver_216 ?_
  refine ww_iconst (pc := 219) g.1 (v := 0) d_Mo_deliver_219 (by decide) ?_
  refine ww_pI (pc := 220) g (k := 2) (cl_Va (Or.inl ⟨by decide, rfl⟩)) (pz rfl (by decide)) (by decide) (Or.inl kw_179) rfl (f := 1282) rfl rfl rfl rfl d_Mo_deliver_220 h fun s hs h => ?_
  refine ww_aload_n (pc := 223) g.1 d_Mo_deliver_223 rfl (lv_at hl 0 rfl) ?_
  refine ww_iconst (pc := 224) g.1 (v := 3) d_Mo_deliver_224 (by decide) ?_
  obtain ⟨v225, s, hc225, h⟩ := oB_of h
  refine ww_callV (pc := 225) (rest := []) g cv_Mo_raise (Or.inl kw_157) cl_Mo (pz rfl (by decide)) (ct_Mo_raise hc225) ⟨by decide, by decide⟩ rfl hl.1 (Nat.le_of_ble_eq_true rfl) d_Mo_deliver_225 rfl ?_
  refine ww_st (st' := [.int v225]) rfl ?_
  refine ww_pop (pc := 228) g.1 d_Mo_deliver_228 rfl ?_
  refine ww_goto (pc := 229) (tgt := 263) g.1 d_Mo_deliver_229 (by decide) ?_
  exact ww_vretH (pc := 263) g h hR d_Mo_deliver_263

theorem ct_Mo_deliver {l : Launch} {P : PP} {q : PL} {s s' : S1}  {r : Unit} (h : M_Mo_deliver s = some (r, s')) : Ct l y_Mo_deliver b_Mo_deliver 4 none 10 260 P q s [.ref (q.1 0 0)] none q s' := by
  refine ct_of (by decide) (Nat.le_of_ble_eq_true rfl) fun X ls eP el g hR hl => ?_
  subst eP
  have hR : Rt X q ((r, s') : Unit × S1).2 none := hR
  have hl : lv_has ls 4 [(0, .ref (q.1 0 0))] := hl
  generalize (r, s') = o at h hR
  unfold M_Mo_deliver at h
  refine ww_aload_n (pc := 0) g.1 d_Mo_deliver_0 rfl (lv_at hl 0 rfl) ?_
  refine ww_iconst (pc := 1) g.1 (v := 0) d_Mo_deliver_1 (by decide) ?_
  refine ww_pI (pc := 2) g (k := 73) cl_Mo (pz rfl (by decide)) (by decide) (Or.inl kw_75) rfl (f := 73) rfl rfl rfl rfl d_Mo_deliver_2 h fun s hs h => ?_
  refine ww_aload_n (pc := 5) g.1 d_Mo_deliver_5 rfl (lv_at hl 0 rfl) ?_
  refine ww_gV (pc := 6) g (k := 72) cl_Mo (pz rfl (by decide)) (by decide) (Or.inl kw_150) (f := 72) (t := 28) rfl rfl rfl d_Mo_deliver_6 h fun v6 h => ?_
  refine ww_astore_nV (pc := 9) (i := 1) g.1 vr_cases (lv' := [(1, vr q 28 v6), (0, .ref (q.1 0 0))]) d_Mo_deliver_9 rfl hl (by decide) rfl fun ls hl => ?_
  refine ww_aload_nV (pc := 10) g.1 vr_cases d_Mo_deliver_10 rfl (lv_at hl 0 rfl) ?_
  refine ww_ok h fun cn10 h => ?_
  refine ww_nn cn10 ?_
  refine ww_gI (pc := 11) g (k := 2) cl_Th (pt rfl rfl cn10) (by decide) (Or.inl kw_151) (f := 3586) rfl rfl d_Mo_deliver_11 h fun v11 h => ?_
  refine ww_if_ne (pc := 14) (tgt := 22) g.1 d_Mo_deliver_14 (by decide) h (fun c h => ?_) (fun c h => ?_)
  · refine ww_aload_nV (pc := 22) g.1 vr_cases d_Mo_deliver_22 rfl (lv_at hl 0 rfl) ?_
    refine ww_ok h fun cn22 h => ?_
    refine ww_nn cn22 ?_
    obtain ⟨v23, s, hc23, h⟩ := oB_of h
    refine ww_callV (pc := 23) (rest := []) g cv_Th_top (Or.inl kw_236) cl_Th (pt rfl rfl cn22) (ct_Th_top cn22 hc23) ⟨by decide, by decide⟩ rfl hl.1 (Nat.le_of_ble_eq_true rfl) d_Mo_deliver_23 rfl ?_
    refine ww_st (st' := [.int v23]) rfl ?_
    refine ww_istore_n (pc := 26) (i := 2) g.1 (lv' := [(2, .int v23), (1, vr q 28 v6), (0, .ref (q.1 0 0))]) d_Mo_deliver_26 rfl hl (by decide) (by simp [vr_cat]) fun ls hl => ?_
    refine ww_aload_nV (pc := 27) g.1 vr_cases d_Mo_deliver_27 rfl (lv_at hl 1 rfl) ?_
    refine ww_ok h fun cn27 h => ?_
    refine ww_nn cn27 ?_
    refine ww_gR (pc := 28) g (k := 11) cl_Th (pt rfl rfl cn27) (by decide) (Or.inl kw_152) (f := 3595) (t := 30) rfl rfl rfl d_Mo_deliver_28 ?_
    refine ww_iload_n (pc := 31) g.1 d_Mo_deliver_31 rfl (lv_at hl 0 rfl) ?_
    refine ww_ai (pc := 32) g (pt rfl rfl cn27) rfl rfl d_Mo_deliver_32 h fun v32 h => ?_
    by_cases c33_68 : v32 = 0
    · have h := oC_pos c33_68 h
      have c := c33_68
      refine ww_tableIn (pc := 33) (tgt := 68) g.1 d_Mo_deliver_33 (by rw [c]; decide) (by rw [c]; decide) (by rw [c]; rfl) (by decide) ?_
      refine ww_aload_n (pc := 68) g.1 d_Mo_deliver_68 rfl (lv_at hl 2 rfl) ?_
      refine ww_aload_nV (pc := 69) g.1 vr_cases d_Mo_deliver_69 rfl (lv_at hl 1 rfl) ?_
      refine ww_ok h fun cn69 h => ?_
      refine ww_nn cn69 ?_
      refine ww_iload_n (pc := 70) g.1 d_Mo_deliver_70 rfl (lv_at hl 0 rfl) ?_
      obtain ⟨v71, s, hc71, h⟩ := oB_of h
      refine ww_callV (pc := 71) (rest := []) g cv_Mo_taken (Or.inl kw_596) cl_Mo (pz rfl (by decide)) (ct_Mo_taken cn69 hc71) ⟨by decide, by decide⟩ rfl hl.1 (Nat.le_of_ble_eq_true rfl) d_Mo_deliver_71 rfl ?_
      refine ww_st (st' := []) rfl ?_
      refine ww_goto (pc := 74) (tgt := 263) g.1 d_Mo_deliver_74 (by decide) ?_
      exact ww_vretH (pc := 263) g h hR d_Mo_deliver_263
    have h := oC_neg c33_68 h
    by_cases c33_77 : v32 = 1 ∨ v32 = 2
    · have h := oC_pos c33_77 h
      rcases c33_77 with c | c
      · refine ww_tableIn (pc := 33) (tgt := 77) g.1 d_Mo_deliver_33 (by rw [c]; decide) (by rw [c]; decide) (by rw [c]; rfl) (by decide) ?_
        refine ww_aload_nV (pc := 77) g.1 vr_cases d_Mo_deliver_77 rfl (lv_at hl 1 rfl) ?_
        refine ww_ok h fun cn77 h => ?_
        refine ww_nn cn77 ?_
        refine ww_dup (pc := 78) g.1 d_Mo_deliver_78 rfl ?_
        refine ww_gI (pc := 79) g (k := 2) cl_Th (pt rfl rfl cn77) (by decide) (Or.inl kw_151) (f := 3586) rfl rfl d_Mo_deliver_79 h fun v79 h => ?_
        refine ww_iconst (pc := 82) g.1 (v := 1) d_Mo_deliver_82 (by decide) ?_
        refine ww_isub (pc := 83) g.1 d_Mo_deliver_83 ?_
        refine ww_pI (pc := 84) g (k := 2) cl_Th (pt rfl rfl cn77) (by decide) (Or.inl kw_151) rfl (f := 3586) rfl rfl rfl rfl d_Mo_deliver_84 h fun s hs h => ?_
        refine ww_aload_n (pc := 87) g.1 d_Mo_deliver_87 rfl (lv_at hl 2 rfl) ?_
        refine ww_gR (pc := 88) g (k := 78) cl_Mo (pz rfl (by decide)) (by decide) (Or.inl kw_178) (f := 78) (t := 10) rfl rfl rfl d_Mo_deliver_88 ?_
        refine ww_gI (pc := 91) g (k := 2) (cl_Va (Or.inl ⟨by decide, rfl⟩)) (pz rfl (by decide)) (by decide) (Or.inl kw_179) (f := 1282) rfl rfl d_Mo_deliver_91 h fun v91 h => ?_
        refine ww_sipush (pc := 94) g.1 (v := 250) d_Mo_deliver_94 (by decide) ?_
        refine ww_icmp_ne (pc := 97) (tgt := 118) g.1 d_Mo_deliver_97 (by decide) h (fun c h => ?_) (fun c h => ?_)
        · refine ww_aload_n (pc := 118) g.1 d_Mo_deliver_118 rfl (lv_at hl 2 rfl) ?_
          refine ww_gR (pc := 119) g (k := 78) cl_Mo (pz rfl (by decide)) (by decide) (Or.inl kw_178) (f := 78) (t := 10) rfl rfl rfl d_Mo_deliver_119 ?_
          refine ww_gI (pc := 122) g (k := 2) (cl_Va (Or.inl ⟨by decide, rfl⟩)) (pz rfl (by decide)) (by decide) (Or.inl kw_179) (f := 1282) rfl rfl d_Mo_deliver_122 h fun v122 h => ?_
          refine ww_istore_n (pc := 125) (i := 3) g.1 (lv' := [(3, .int v122), (2, .int v23), (1, vr q 28 v6), (0, .ref (q.1 0 0))]) d_Mo_deliver_125 rfl hl (by decide) rfl fun ls hl => ?_
          obtain ⟨e126, s1, hw, h⟩ := oB_of h
          refine oW_rule (Wh := fun (x : Int32) (s : S1) => ∀ ls : Array Slot, lv_has ls 4 [(0, .ref (q.1 0 0)), (3, .int x)] → WW X q s 126 ls []) (We := fun (e : (Unit)) (s : S1) => ∀ ls : Array Slot, lv_has ls 4 [(0, .ref (q.1 0 0))] → WW X q s 151 ls []) (fun x s o hb hc => lp_Mo_deliver_L126 (q := q) g x s o hb hc) hw ?_ ls (lv_sub hl [3, 0] rfl)
          clear hw hl
          clear ls
          intro ls hl
          generalize s1 = s at h ⊢
          refine ww_aload_n (pc := 151) g.1 d_Mo_deliver_151 rfl (lv_at hl 0 rfl) ?_
          refine ww_gR (pc := 152) g (k := 78) cl_Mo (pz rfl (by decide)) (by decide) (Or.inl kw_178) (f := 78) (t := 10) rfl rfl rfl d_Mo_deliver_152 ?_
          refine ww_iconst (pc := 155) g.1 (v := 0) d_Mo_deliver_155 (by decide) ?_
          refine ww_iconst (pc := 156) g.1 (v := 2) d_Mo_deliver_156 (by decide) ?_
          refine ww_lconst (pc := 157) g.1 (v := 0) d_Mo_deliver_157 (by decide) ?_
          obtain ⟨v158, s, hc158, h⟩ := oB_of h
          refine ww_callV (pc := 158) (rest := []) g cv_Va_set (Or.inl kw_99) (cl_Va (Or.inl ⟨by decide, rfl⟩)) (pz rfl (by decide)) (ct_Va_set (Or.inl ⟨by decide, rfl⟩) hc158) ⟨by decide, by decide⟩ rfl hl.1 (Nat.le_of_ble_eq_true rfl) d_Mo_deliver_158 rfl ?_
          refine ww_st (st' := []) rfl ?_
          refine ww_aload_n (pc := 161) g.1 d_Mo_deliver_161 rfl (lv_at hl 0 rfl) ?_
          refine ww_gR (pc := 162) g (k := 78) cl_Mo (pz rfl (by decide)) (by decide) (Or.inl kw_178) (f := 78) (t := 10) rfl rfl rfl d_Mo_deliver_162 ?_
          refine ww_dup (pc := 165) g.1 d_Mo_deliver_165 rfl ?_
          refine ww_gI (pc := 166) g (k := 2) (cl_Va (Or.inl ⟨by decide, rfl⟩)) (pz rfl (by decide)) (by decide) (Or.inl kw_179) (f := 1282) rfl rfl d_Mo_deliver_166 h fun v166 h => ?_
          refine ww_iconst (pc := 169) g.1 (v := 1) d_Mo_deliver_169 (by decide) ?_
          refine ww_iadd (pc := 170) g.1 d_Mo_deliver_170 ?_
          refine ww_pI (pc := 171) g (k := 2) (cl_Va (Or.inl ⟨by decide, rfl⟩)) (pz rfl (by decide)) (by decide) (Or.inl kw_179) rfl (f := 1282) rfl rfl rfl rfl d_Mo_deliver_171 h fun s hs h => ?_
          refine ww_aload_n (pc := 174) g.1 d_Mo_deliver_174 rfl (lv_at hl 0 rfl) ?_
          refine ww_iconst (pc := 175) g.1 (v := 2) d_Mo_deliver_175 (by decide) ?_
          refine ww_pI (pc := 176) g (k := 73) cl_Mo (pz rfl (by decide)) (by decide) (Or.inl kw_75) rfl (f := 73) rfl rfl rfl rfl d_Mo_deliver_176 h fun s hs h => ?_
          refine ww_goto (pc := 179) (tgt := 263) g.1 d_Mo_deliver_179 (by decide) ?_
          exact ww_vretH (pc := 263) g h hR d_Mo_deliver_263
        · refine ww_aload_n (pc := 100) g.1 d_Mo_deliver_100 rfl (lv_at hl 2 rfl) ?_
          refine ww_gR (pc := 101) g (k := 78) cl_Mo (pz rfl (by decide)) (by decide) (Or.inl kw_178) (f := 78) (t := 10) rfl rfl rfl d_Mo_deliver_101 ?_
          refine ww_iconst (pc := 104) g.1 (v := 0) d_Mo_deliver_104 (by decide) ?_
          refine ww_pI (pc := 105) g (k := 2) (cl_Va (Or.inl ⟨by decide, rfl⟩)) (pz rfl (by decide)) (by decide) (Or.inl kw_179) rfl (f := 1282) rfl rfl rfl rfl d_Mo_deliver_105 h fun s hs h => ?_
          refine ww_aload_n (pc := 108) g.1 d_Mo_deliver_108 rfl (lv_at hl 2 rfl) ?_
          refine ww_bipush (pc := 109) g.1 (v := 7) d_Mo_deliver_109 (by decide) ?_
          obtain ⟨v111, s, hc111, h⟩ := oB_of h
          refine ww_callV (pc := 111) (rest := []) g cv_Mo_raise (Or.inl kw_157) cl_Mo (pz rfl (by decide)) (ct_Mo_raise hc111) ⟨by decide, by decide⟩ rfl hl.1 (Nat.le_of_ble_eq_true rfl) d_Mo_deliver_111 rfl ?_
          refine ww_st (st' := [.int v111]) rfl ?_
          refine ww_pop (pc := 114) g.1 d_Mo_deliver_114 rfl ?_
          refine ww_goto (pc := 115) (tgt := 263) g.1 d_Mo_deliver_115 (by decide) ?_
          exact ww_vretH (pc := 263) g h hR d_Mo_deliver_263
      · refine ww_tableIn (pc := 33) (tgt := 77) g.1 d_Mo_deliver_33 (by rw [c]; decide) (by rw [c]; decide) (by rw [c]; rfl) (by decide) ?_
        refine ww_aload_nV (pc := 77) g.1 vr_cases d_Mo_deliver_77 rfl (lv_at hl 1 rfl) ?_
        refine ww_ok h fun cn77 h => ?_
        refine ww_nn cn77 ?_
        refine ww_dup (pc := 78) g.1 d_Mo_deliver_78 rfl ?_
        refine ww_gI (pc := 79) g (k := 2) cl_Th (pt rfl rfl cn77) (by decide) (Or.inl kw_151) (f := 3586) rfl rfl d_Mo_deliver_79 h fun v79 h => ?_
        refine ww_iconst (pc := 82) g.1 (v := 1) d_Mo_deliver_82 (by decide) ?_
        refine ww_isub (pc := 83) g.1 d_Mo_deliver_83 ?_
        refine ww_pI (pc := 84) g (k := 2) cl_Th (pt rfl rfl cn77) (by decide) (Or.inl kw_151) rfl (f := 3586) rfl rfl rfl rfl d_Mo_deliver_84 h fun s hs h => ?_
        refine ww_aload_n (pc := 87) g.1 d_Mo_deliver_87 rfl (lv_at hl 2 rfl) ?_
        refine ww_gR (pc := 88) g (k := 78) cl_Mo (pz rfl (by decide)) (by decide) (Or.inl kw_178) (f := 78) (t := 10) rfl rfl rfl d_Mo_deliver_88 ?_
        refine ww_gI (pc := 91) g (k := 2) (cl_Va (Or.inl ⟨by decide, rfl⟩)) (pz rfl (by decide)) (by decide) (Or.inl kw_179) (f := 1282) rfl rfl d_Mo_deliver_91 h fun v91 h => ?_
        refine ww_sipush (pc := 94) g.1 (v := 250) d_Mo_deliver_94 (by decide) ?_
        refine ww_icmp_ne (pc := 97) (tgt := 118) g.1 d_Mo_deliver_97 (by decide) h (fun c h => ?_) (fun c h => ?_)
        · refine ww_aload_n (pc := 118) g.1 d_Mo_deliver_118 rfl (lv_at hl 2 rfl) ?_
          refine ww_gR (pc := 119) g (k := 78) cl_Mo (pz rfl (by decide)) (by decide) (Or.inl kw_178) (f := 78) (t := 10) rfl rfl rfl d_Mo_deliver_119 ?_
          refine ww_gI (pc := 122) g (k := 2) (cl_Va (Or.inl ⟨by decide, rfl⟩)) (pz rfl (by decide)) (by decide) (Or.inl kw_179) (f := 1282) rfl rfl d_Mo_deliver_122 h fun v122 h => ?_
          refine ww_istore_n (pc := 125) (i := 3) g.1 (lv' := [(3, .int v122), (2, .int v23), (1, vr q 28 v6), (0, .ref (q.1 0 0))]) d_Mo_deliver_125 rfl hl (by decide) rfl fun ls hl => ?_
          obtain ⟨e126, s1, hw, h⟩ := oB_of h
          refine oW_rule (Wh := fun (x : Int32) (s : S1) => ∀ ls : Array Slot, lv_has ls 4 [(0, .ref (q.1 0 0)), (3, .int x)] → WW X q s 126 ls []) (We := fun (e : (Unit)) (s : S1) => ∀ ls : Array Slot, lv_has ls 4 [(0, .ref (q.1 0 0))] → WW X q s 151 ls []) (fun x s o hb hc => lp_Mo_deliver_L126 (q := q) g x s o hb hc) hw ?_ ls (lv_sub hl [3, 0] rfl)
          clear hw hl
          clear ls
          intro ls hl
          generalize s1 = s at h ⊢
          refine ww_aload_n (pc := 151) g.1 d_Mo_deliver_151 rfl (lv_at hl 0 rfl) ?_
          refine ww_gR (pc := 152) g (k := 78) cl_Mo (pz rfl (by decide)) (by decide) (Or.inl kw_178) (f := 78) (t := 10) rfl rfl rfl d_Mo_deliver_152 ?_
          refine ww_iconst (pc := 155) g.1 (v := 0) d_Mo_deliver_155 (by decide) ?_
          refine ww_iconst (pc := 156) g.1 (v := 2) d_Mo_deliver_156 (by decide) ?_
          refine ww_lconst (pc := 157) g.1 (v := 0) d_Mo_deliver_157 (by decide) ?_
          obtain ⟨v158, s, hc158, h⟩ := oB_of h
          refine ww_callV (pc := 158) (rest := []) g cv_Va_set (Or.inl kw_99) (cl_Va (Or.inl ⟨by decide, rfl⟩)) (pz rfl (by decide)) (ct_Va_set (Or.inl ⟨by decide, rfl⟩) hc158) ⟨by decide, by decide⟩ rfl hl.1 (Nat.le_of_ble_eq_true rfl) d_Mo_deliver_158 rfl ?_
          refine ww_st (st' := []) rfl ?_
          refine ww_aload_n (pc := 161) g.1 d_Mo_deliver_161 rfl (lv_at hl 0 rfl) ?_
          refine ww_gR (pc := 162) g (k := 78) cl_Mo (pz rfl (by decide)) (by decide) (Or.inl kw_178) (f := 78) (t := 10) rfl rfl rfl d_Mo_deliver_162 ?_
          refine ww_dup (pc := 165) g.1 d_Mo_deliver_165 rfl ?_
          refine ww_gI (pc := 166) g (k := 2) (cl_Va (Or.inl ⟨by decide, rfl⟩)) (pz rfl (by decide)) (by decide) (Or.inl kw_179) (f := 1282) rfl rfl d_Mo_deliver_166 h fun v166 h => ?_
          refine ww_iconst (pc := 169) g.1 (v := 1) d_Mo_deliver_169 (by decide) ?_
          refine ww_iadd (pc := 170) g.1 d_Mo_deliver_170 ?_
          refine ww_pI (pc := 171) g (k := 2) (cl_Va (Or.inl ⟨by decide, rfl⟩)) (pz rfl (by decide)) (by decide) (Or.inl kw_179) rfl (f := 1282) rfl rfl rfl rfl d_Mo_deliver_171 h fun s hs h => ?_
          refine ww_aload_n (pc := 174) g.1 d_Mo_deliver_174 rfl (lv_at hl 0 rfl) ?_
          refine ww_iconst (pc := 175) g.1 (v := 2) d_Mo_deliver_175 (by decide) ?_
          refine ww_pI (pc := 176) g (k := 73) cl_Mo (pz rfl (by decide)) (by decide) (Or.inl kw_75) rfl (f := 73) rfl rfl rfl rfl d_Mo_deliver_176 h fun s hs h => ?_
          refine ww_goto (pc := 179) (tgt := 263) g.1 d_Mo_deliver_179 (by decide) ?_
          exact ww_vretH (pc := 263) g h hR d_Mo_deliver_263
        · refine ww_aload_n (pc := 100) g.1 d_Mo_deliver_100 rfl (lv_at hl 2 rfl) ?_
          refine ww_gR (pc := 101) g (k := 78) cl_Mo (pz rfl (by decide)) (by decide) (Or.inl kw_178) (f := 78) (t := 10) rfl rfl rfl d_Mo_deliver_101 ?_
          refine ww_iconst (pc := 104) g.1 (v := 0) d_Mo_deliver_104 (by decide) ?_
          refine ww_pI (pc := 105) g (k := 2) (cl_Va (Or.inl ⟨by decide, rfl⟩)) (pz rfl (by decide)) (by decide) (Or.inl kw_179) rfl (f := 1282) rfl rfl rfl rfl d_Mo_deliver_105 h fun s hs h => ?_
          refine ww_aload_n (pc := 108) g.1 d_Mo_deliver_108 rfl (lv_at hl 2 rfl) ?_
          refine ww_bipush (pc := 109) g.1 (v := 7) d_Mo_deliver_109 (by decide) ?_
          obtain ⟨v111, s, hc111, h⟩ := oB_of h
          refine ww_callV (pc := 111) (rest := []) g cv_Mo_raise (Or.inl kw_157) cl_Mo (pz rfl (by decide)) (ct_Mo_raise hc111) ⟨by decide, by decide⟩ rfl hl.1 (Nat.le_of_ble_eq_true rfl) d_Mo_deliver_111 rfl ?_
          refine ww_st (st' := [.int v111]) rfl ?_
          refine ww_pop (pc := 114) g.1 d_Mo_deliver_114 rfl ?_
          refine ww_goto (pc := 115) (tgt := 263) g.1 d_Mo_deliver_115 (by decide) ?_
          exact ww_vretH (pc := 263) g h hR d_Mo_deliver_263
    have h := oC_neg c33_77 h
    by_cases c33_182 : v32 = 4
    · have h := oC_pos c33_182 h
      have c := c33_182
      refine ww_tableIn (pc := 33) (tgt := 182) g.1 d_Mo_deliver_33 (by rw [c]; decide) (by rw [c]; decide) (by rw [c]; rfl) (by decide) ?_
      refine ww_aload_nV (pc := 182) g.1 vr_cases d_Mo_deliver_182 rfl (lv_at hl 1 rfl) ?_
      refine ww_ok h fun cn182 h => ?_
      refine ww_nn cn182 ?_
      refine ww_dup (pc := 183) g.1 d_Mo_deliver_183 rfl ?_
      refine ww_gI (pc := 184) g (k := 2) cl_Th (pt rfl rfl cn182) (by decide) (Or.inl kw_151) (f := 3586) rfl rfl d_Mo_deliver_184 h fun v184 h => ?_
      refine ww_iconst (pc := 187) g.1 (v := 1) d_Mo_deliver_187 (by decide) ?_
      refine ww_isub (pc := 188) g.1 d_Mo_deliver_188 ?_
      refine ww_pI (pc := 189) g (k := 2) cl_Th (pt rfl rfl cn182) (by decide) (Or.inl kw_151) rfl (f := 3586) rfl rfl rfl rfl d_Mo_deliver_189 h fun s hs h => ?_
      refine ww_aload_n (pc := 192) g.1 d_Mo_deliver_192 rfl (lv_at hl 2 rfl) ?_
      refine ww_gR (pc := 193) g (k := 78) cl_Mo (pz rfl (by decide)) (by decide) (Or.inl kw_178) (f := 78) (t := 10) rfl rfl rfl d_Mo_deliver_193 ?_
      refine ww_gI (pc := 196) g (k := 2) (cl_Va (Or.inl ⟨by decide, rfl⟩)) (pz rfl (by decide)) (by decide) (Or.inl kw_179) (f := 1282) rfl rfl d_Mo_deliver_196 h fun v196 h => ?_
      refine ww_if_eq (pc := 199) (tgt := 215) g.1 d_Mo_deliver_199 (by decide) h (fun c h => ?_) (fun c h => ?_)
      · exact j_Mo_deliver_j215 g hR s ls (lv_sub hl [2] rfl) h
      · refine ww_aload_n (pc := 202) g.1 d_Mo_deliver_202 rfl (lv_at hl 2 rfl) ?_
        refine ww_gR (pc := 203) g (k := 78) cl_Mo (pz rfl (by decide)) (by decide) (Or.inl kw_178) (f := 78) (t := 10) rfl rfl rfl d_Mo_deliver_203 ?_
        refine ww_gR (pc := 206) g (k := 0) (cl_Va (Or.inl ⟨by decide, rfl⟩)) (pz rfl (by decide)) (by decide) (Or.inl kw_90) (f := 1280) (t := 11) rfl rfl rfl d_Mo_deliver_206 ?_
        refine ww_iconst (pc := 209) g.1 (v := 0) d_Mo_deliver_209 (by decide) ?_
        refine ww_ab (pc := 210) g (pz rfl (by decide)) rfl rfl d_Mo_deliver_210 h fun v210 h => ?_
        refine ww_iconst (pc := 211) g.1 (v := 4) d_Mo_deliver_211 (by decide) ?_
        refine ww_icmp_eq (pc := 212) (tgt := 232) g.1 d_Mo_deliver_212 (by decide) h (fun c h => ?_) (fun c h => ?_)
        · refine ww_aload_n (pc := 232) g.1 d_Mo_deliver_232 rfl (lv_at hl 2 rfl) ?_
          refine ww_gR (pc := 233) g (k := 78) cl_Mo (pz rfl (by decide)) (by decide) (Or.inl kw_178) (f := 78) (t := 10) rfl rfl rfl d_Mo_deliver_233 ?_
          refine ww_iconst (pc := 236) g.1 (v := 1) d_Mo_deliver_236 (by decide) ?_
          refine ww_pI (pc := 237) g (k := 2) (cl_Va (Or.inl ⟨by decide, rfl⟩)) (pz rfl (by decide)) (by decide) (Or.inl kw_179) rfl (f := 1282) rfl rfl rfl rfl d_Mo_deliver_237 h fun s hs h => ?_
          refine ww_aload_n (pc := 240) g.1 d_Mo_deliver_240 rfl (lv_at hl 2 rfl) ?_
          refine ww_iconst (pc := 241) g.1 (v := 2) d_Mo_deliver_241 (by decide) ?_
          refine ww_pI (pc := 242) g (k := 73) cl_Mo (pz rfl (by decide)) (by decide) (Or.inl kw_75) rfl (f := 73) rfl rfl rfl rfl d_Mo_deliver_242 h fun s hs h => ?_
          refine ww_goto (pc := 245) (tgt := 263) g.1 d_Mo_deliver_245 (by decide) ?_
          exact ww_vretH (pc := 263) g h hR d_Mo_deliver_263
        · exact j_Mo_deliver_j215 g hR s ls (lv_sub hl [2] rfl) h
    have h := oC_neg c33_182 h
    have n_0 : ¬ v32.toInt = 0 := lv_neT (fun e => c33_68 e) rfl
    have n_1 : ¬ v32.toInt = 1 := lv_neT (fun e => c33_77 (Or.inl e)) rfl
    have n_2 : ¬ v32.toInt = 2 := lv_neT (fun e => c33_77 (Or.inr (e))) rfl
    have n_4 : ¬ v32.toInt = 4 := lv_neT (fun e => c33_182 e) rfl
    by_cases hr : v32.toInt < 0 ∨ 4 < v32.toInt
    · refine ww_tableOut (pc := 33) (tgt := 248) g.1 d_Mo_deliver_33 hr (by decide) ?_
      refine ww_aload_nV (pc := 248) g.1 vr_cases d_Mo_deliver_248 rfl (lv_at hl 1 rfl) ?_
      refine ww_ok h fun cn248 h => ?_
      refine ww_nn cn248 ?_
      refine ww_dup (pc := 249) g.1 d_Mo_deliver_249 rfl ?_
      refine ww_gI (pc := 250) g (k := 2) cl_Th (pt rfl rfl cn248) (by decide) (Or.inl kw_151) (f := 3586) rfl rfl d_Mo_deliver_250 h fun v250 h => ?_
      refine ww_iconst (pc := 253) g.1 (v := 1) d_Mo_deliver_253 (by decide) ?_
      refine ww_isub (pc := 254) g.1 d_Mo_deliver_254 ?_
      refine ww_pI (pc := 255) g (k := 2) cl_Th (pt rfl rfl cn248) (by decide) (Or.inl kw_151) rfl (f := 3586) rfl rfl rfl rfl d_Mo_deliver_255 h fun s hs h => ?_
      refine ww_aload_n (pc := 258) g.1 d_Mo_deliver_258 rfl (lv_at hl 2 rfl) ?_
      refine ww_iconst (pc := 259) g.1 (v := 2) d_Mo_deliver_259 (by decide) ?_
      refine ww_pI (pc := 260) g (k := 73) cl_Mo (pz rfl (by decide)) (by decide) (Or.inl kw_75) rfl (f := 73) rfl rfl rfl rfl d_Mo_deliver_260 h fun s hs h => ?_
      exact ww_vretH (pc := 263) g h hR d_Mo_deliver_263
    have hh : v32.toInt = 3 := by omega
    have c := hh
    refine ww_tableIn (pc := 33) (tgt := 248) g.1 d_Mo_deliver_33 (by rw [c]; decide) (by rw [c]; decide) (by rw [c]; rfl) (by decide) ?_
    refine ww_aload_nV (pc := 248) g.1 vr_cases d_Mo_deliver_248 rfl (lv_at hl 1 rfl) ?_
    refine ww_ok h fun cn248 h => ?_
    refine ww_nn cn248 ?_
    refine ww_dup (pc := 249) g.1 d_Mo_deliver_249 rfl ?_
    refine ww_gI (pc := 250) g (k := 2) cl_Th (pt rfl rfl cn248) (by decide) (Or.inl kw_151) (f := 3586) rfl rfl d_Mo_deliver_250 h fun v250 h => ?_
    refine ww_iconst (pc := 253) g.1 (v := 1) d_Mo_deliver_253 (by decide) ?_
    refine ww_isub (pc := 254) g.1 d_Mo_deliver_254 ?_
    refine ww_pI (pc := 255) g (k := 2) cl_Th (pt rfl rfl cn248) (by decide) (Or.inl kw_151) rfl (f := 3586) rfl rfl rfl rfl d_Mo_deliver_255 h fun s hs h => ?_
    refine ww_aload_n (pc := 258) g.1 d_Mo_deliver_258 rfl (lv_at hl 2 rfl) ?_
    refine ww_iconst (pc := 259) g.1 (v := 2) d_Mo_deliver_259 (by decide) ?_
    refine ww_pI (pc := 260) g (k := 73) cl_Mo (pz rfl (by decide)) (by decide) (Or.inl kw_75) rfl (f := 73) rfl rfl rfl rfl d_Mo_deliver_260 h fun s hs h => ?_
    exact ww_vretH (pc := 263) g h hR d_Mo_deliver_263
  · refine ww_aload_n (pc := 17) g.1 d_Mo_deliver_17 rfl (lv_at hl 1 rfl) ?_
    obtain ⟨v18, s, hc18, h⟩ := oB_of h
    refine ww_callV (pc := 18) (rest := []) g cv_Mo_finished (Or.inl kw_597) cl_Mo (pz rfl (by decide)) (ct_Mo_finished hc18) ⟨by decide, by decide⟩ rfl hl.1 (Nat.le_of_ble_eq_true rfl) d_Mo_deliver_18 rfl ?_
    refine ww_st (st' := []) rfl ?_
    exact ww_vretH (pc := 21) g h hR d_Mo_deliver_21


