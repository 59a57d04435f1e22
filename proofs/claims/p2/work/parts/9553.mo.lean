theorem mo_s5 {X : Cx} {q0 q : PL} {ls : Array Slot} {a0 : Nat} {m : Nat × Nat} (g : Gd X y_Mo_init b_Mo_init 2 none 4 81 R_Mo) (hnm : (xh X).name = "<init>") (hR : RtN X q0 105 m 1772) (hkp : Kpp 105 q0 q) (e0 : q.1 0 0 = a0) (hm : Rnn (xP X) q (m.1 + 766, m.2 + 1263172)) (hl : lv_has ls 2 [(0, .ref a0)]) : WN X q 148 314 ls [] := by
  refine nn_aload_n (pc := 314) g.1 d_Mo_init_314 rfl (lv_at hl 0 rfl) ?_
  refine nn_sipush (pc := 315) g.1 (v := 4100) d_Mo_init_315 (by decide) ?_
  refine nn_arr (pc := 318) (r := 59) (i := 0) (N := 4100) (at0 := .boolean) (m := (m.1 + 765, m.2 + 1259072)) g.gn rfl (by decide) ⟨rfl, by decide, by decide⟩ (by decide +kernel) (by decide) rfl (by decide) (by decide) (hm.le (by dsimp only; omega) (by dsimp only; omega)) kn_178 d_Mo_init_318 fun q318 a59 hk e59 hm => ?_
  have e0 : q318.1 0 0 = a0 := (hk 0 0 ⟨⟨rfl, by decide, by decide⟩, by decide +kernel⟩).trans e0
  have hkp := hkp.tr hk (by decide)
  refine nn_put (pc := 320) (r := 0) (k := 46) (n' := 150) g cl_Mo ⟨⟨rfl, by decide, by decide⟩, by decide +kernel⟩ (by decide) (Or.inl kn_179) (Or.inr ⟨rfl, hnm, rfl, kn_179⟩) e0 rfl rfl (Or.inl ⟨(by decide +kernel), rfl, (fvR rfl rfl e59)⟩) d_Mo_init_320 ?_
  refine nn_aload_n (pc := 323) g.1 d_Mo_init_323 rfl (lv_at hl 0 rfl) ?_
  refine nn_sipush (pc := 324) g.1 (v := 4100) d_Mo_init_324 (by decide) ?_
  refine nn_arr (pc := 327) (r := 60) (i := 0) (N := 4100) (at0 := .boolean) (m := (m.1 + 764, m.2 + 1254972)) g.gn rfl (by decide) ⟨rfl, by decide, by decide⟩ (by decide +kernel) (by decide) rfl (by decide) (by decide) (hm.le (by dsimp only; omega) (by dsimp only; omega)) kn_178 d_Mo_init_327 fun q327 a60 hk e60 hm => ?_
  have e0 : q327.1 0 0 = a0 := (hk 0 0 ⟨⟨rfl, by decide, by decide⟩, by decide +kernel⟩).trans e0
  have e59 : q327.1 59 0 = a59 := (hk 59 0 ⟨⟨rfl, by decide, by decide⟩, by decide +kernel⟩).trans e59
  have hkp := hkp.tr hk (by decide)
  refine nn_put (pc := 329) (r := 0) (k := 47) (n' := 152) g cl_Mo ⟨⟨rfl, by decide, by decide⟩, by decide +kernel⟩ (by decide) (Or.inl kn_180) (Or.inr ⟨rfl, hnm, rfl, kn_180⟩) e0 rfl rfl (Or.inl ⟨(by decide +kernel), rfl, (fvR rfl rfl e60)⟩) d_Mo_init_329 ?_
  refine nn_aload_n (pc := 332) g.1 d_Mo_init_332 rfl (lv_at hl 0 rfl) ?_
  refine nn_sipush (pc := 333) g.1 (v := 4100) d_Mo_init_333 (by decide) ?_
  refine nn_arr (pc := 336) (r := 61) (i := 0) (N := 4100) (at0 := .int) (m := (m.1 + 763, m.2 + 1250872)) g.gn rfl (by decide) ⟨rfl, by decide, by decide⟩ (by decide +kernel) (by decide) rfl (by decide) (by decide) (hm.le (by dsimp only; omega) (by dsimp only; omega)) kn_9 d_Mo_init_336 fun q336 a61 hk e61 hm => ?_
  have e0 : q336.1 0 0 = a0 := (hk 0 0 ⟨⟨rfl, by decide, by decide⟩, by decide +kernel⟩).trans e0
  have e59 : q336.1 59 0 = a59 := (hk 59 0 ⟨⟨rfl, by decide, by decide⟩, by decide +kernel⟩).trans e59
  have e60 : q336.1 60 0 = a60 := (hk 60 0 ⟨⟨rfl, by decide, by decide⟩, by decide +kernel⟩).trans e60
  have hkp := hkp.tr hk (by decide)
  refine nn_put (pc := 338) (r := 0) (k := 48) (n' := 154) g cl_Mo ⟨⟨rfl, by decide, by decide⟩, by decide +kernel⟩ (by decide) (Or.inl kn_181) (Or.inr ⟨rfl, hnm, rfl, kn_181⟩) e0 rfl rfl (Or.inl ⟨(by decide +kernel), rfl, (fvR rfl rfl e61)⟩) d_Mo_init_338 ?_
  refine nn_aload_n (pc := 341) g.1 d_Mo_init_341 rfl (lv_at hl 0 rfl) ?_
  refine nn_sipush (pc := 342) g.1 (v := 4100) d_Mo_init_342 (by decide) ?_
  refine nn_arr (pc := 345) (r := 62) (i := 0) (N := 4100) (at0 := .int) (m := (m.1 + 762, m.2 + 1246772)) g.gn rfl (by decide) ⟨rfl, by decide, by decide⟩ (by decide +kernel) (by decide) rfl (by decide) (by decide) (hm.le (by dsimp only; omega) (by dsimp only; omega)) kn_9 d_Mo_init_345 fun q345 a62 hk e62 hm => ?_
  have e0 : q345.1 0 0 = a0 := (hk 0 0 ⟨⟨rfl, by decide, by decide⟩, by decide +kernel⟩).trans e0
  have e59 : q345.1 59 0 = a59 := (hk 59 0 ⟨⟨rfl, by decide, by decide⟩, by decide +kernel⟩).trans e59
  have e60 : q345.1 60 0 = a60 := (hk 60 0 ⟨⟨rfl, by decide, by decide⟩, by decide +kernel⟩).trans e60
  have e61 : q345.1 61 0 = a61 := (hk 61 0 ⟨⟨rfl, by decide, by decide⟩, by decide +kernel⟩).trans e61
  have hkp := hkp.tr hk (by decide)
  refine nn_put (pc := 347) (r := 0) (k := 49) (n' := 156) g cl_Mo ⟨⟨rfl, by decide, by decide⟩, by decide +kernel⟩ (by decide) (Or.inl kn_182) (Or.inr ⟨rfl, hnm, rfl, kn_182⟩) e0 rfl rfl (Or.inl ⟨(by decide +kernel), rfl, (fvR rfl rfl e62)⟩) d_Mo_init_347 ?_
  refine nn_aload_n (pc := 350) g.1 d_Mo_init_350 rfl (lv_at hl 0 rfl) ?_
  refine nn_sipush (pc := 351) g.1 (v := 4100) d_Mo_init_351 (by decide) ?_
  refine nn_arr (pc := 354) (r := 63) (i := 0) (N := 4100) (at0 := .int) (m := (m.1 + 761, m.2 + 1242672)) g.gn rfl (by decide) ⟨rfl, by decide, by decide⟩ (by decide +kernel) (by decide) rfl (by decide) (by decide) (hm.le (by dsimp only; omega) (by dsimp only; omega)) kn_9 d_Mo_init_354 fun q354 a63 hk e63 hm => ?_
  have e0 : q354.1 0 0 = a0 := (hk 0 0 ⟨⟨rfl, by decide, by decide⟩, by decide +kernel⟩).trans e0
  have e59 : q354.1 59 0 = a59 := (hk 59 0 ⟨⟨rfl, by decide, by decide⟩, by decide +kernel⟩).trans e59
  have e60 : q354.1 60 0 = a60 := (hk 60 0 ⟨⟨rfl, by decide, by decide⟩, by decide +kernel⟩).trans e60
  have e61 : q354.1 61 0 = a61 := (hk 61 0 ⟨⟨rfl, by decide, by decide⟩, by decide +kernel⟩).trans e61
  have e62 : q354.1 62 0 = a62 := (hk 62 0 ⟨⟨rfl, by decide, by decide⟩, by decide +kernel⟩).trans e62
  have hkp := hkp.tr hk (by decide)
  refine nn_put (pc := 356) (r := 0) (k := 50) (n' := 158) g cl_Mo ⟨⟨rfl, by decide, by decide⟩, by decide +kernel⟩ (by decide) (Or.inl kn_183) (Or.inr ⟨rfl, hnm, rfl, kn_183⟩) e0 rfl rfl (Or.inl ⟨(by decide +kernel), rfl, (fvR rfl rfl e63)⟩) d_Mo_init_356 ?_
  refine nn_aload_n (pc := 359) g.1 d_Mo_init_359 rfl (lv_at hl 0 rfl) ?_
  refine nn_sipush (pc := 360) g.1 (v := 4100) d_Mo_init_360 (by decide) ?_
  refine nn_arr (pc := 363) (r := 64) (i := 0) (N := 4100) (at0 := .int) (m := (m.1 + 760, m.2 + 1238572)) g.gn rfl (by decide) ⟨rfl, by decide, by decide⟩ (by decide +kernel) (by decide) rfl (by decide) (by decide) (hm.le (by dsimp only; omega) (by dsimp only; omega)) kn_9 d_Mo_init_363 fun q363 a64 hk e64 hm => ?_
  have e0 : q363.1 0 0 = a0 := (hk 0 0 ⟨⟨rfl, by decide, by decide⟩, by decide +kernel⟩).trans e0
  have e59 : q363.1 59 0 = a59 := (hk 59 0 ⟨⟨rfl, by decide, by decide⟩, by decide +kernel⟩).trans e59
  have e60 : q363.1 60 0 = a60 := (hk 60 0 ⟨⟨rfl, by decide, by decide⟩, by decide +kernel⟩).trans e60
  have e61 : q363.1 61 0 = a61 := (hk 61 0 ⟨⟨rfl, by decide, by decide⟩, by decide +kernel⟩).trans e61
  have e62 : q363.1 62 0 = a62 := (hk 62 0 ⟨⟨rfl, by decide, by decide⟩, by decide +kernel⟩).trans e62
  have e63 : q363.1 63 0 = a63 := (hk 63 0 ⟨⟨rfl, by decide, by decide⟩, by decide +kernel⟩).trans e63
  have hkp := hkp.tr hk (by decide)
  refine nn_put (pc := 365) (r := 0) (k := 51) (n' := 160) g cl_Mo ⟨⟨rfl, by decide, by decide⟩, by decide +kernel⟩ (by decide) (Or.inl kn_184) (Or.inr ⟨rfl, hnm, rfl, kn_184⟩) e0 rfl rfl (Or.inl ⟨(by decide +kernel), rfl, (fvR rfl rfl e64)⟩) d_Mo_init_365 ?_
  refine nn_aload_n (pc := 368) g.1 d_Mo_init_368 rfl (lv_at hl 0 rfl) ?_
  refine nn_sipush (pc := 369) g.1 (v := 4100) d_Mo_init_369 (by decide) ?_
  refine nn_arr (pc := 372) (r := 65) (i := 0) (N := 4100) (at0 := .int) (m := (m.1 + 759, m.2 + 1234472)) g.gn rfl (by decide) ⟨rfl, by decide, by decide⟩ (by decide +kernel) (by decide) rfl (by decide) (by decide) (hm.le (by dsimp only; omega) (by dsimp only; omega)) kn_9 d_Mo_init_372 fun q372 a65 hk e65 hm => ?_
  have e0 : q372.1 0 0 = a0 := (hk 0 0 ⟨⟨rfl, by decide, by decide⟩, by decide +kernel⟩).trans e0
  have e59 : q372.1 59 0 = a59 := (hk 59 0 ⟨⟨rfl, by decide, by decide⟩, by decide +kernel⟩).trans e59
  have e60 : q372.1 60 0 = a60 := (hk 60 0 ⟨⟨rfl, by decide, by decide⟩, by decide +kernel⟩).trans e60
  have e61 : q372.1 61 0 = a61 := (hk 61 0 ⟨⟨rfl, by decide, by decide⟩, by decide +kernel⟩).trans e61
  have e62 : q372.1 62 0 = a62 := (hk 62 0 ⟨⟨rfl, by decide, by decide⟩, by decide +kernel⟩).trans e62
  have e63 : q372.1 63 0 = a63 := (hk 63 0 ⟨⟨rfl, by decide, by decide⟩, by decide +kernel⟩).trans e63
  have e64 : q372.1 64 0 = a64 := (hk 64 0 ⟨⟨rfl, by decide, by decide⟩, by decide +kernel⟩).trans e64
  have hkp := hkp.tr hk (by decide)
  refine nn_put (pc := 374) (r := 0) (k := 52) (n' := 162) g cl_Mo ⟨⟨rfl, by decide, by decide⟩, by decide +kernel⟩ (by decide) (Or.inl kn_185) (Or.inr ⟨rfl, hnm, rfl, kn_185⟩) e0 rfl rfl (Or.inl ⟨(by decide +kernel), rfl, (fvR rfl rfl e65)⟩) d_Mo_init_374 ?_
  exact mo_s6 g hnm hR hkp e0 hm hl
theorem mo_s4 {X : Cx} {q0 q : PL} {ls : Array Slot} {a0 : Nat} {m : Nat × Nat} (g : Gd X y_Mo_init b_Mo_init 2 none 4 81 R_Mo) (hnm : (xh X).name = "<init>") (hR : RtN X q0 105 m 1772) (hkp : Kpp 105 q0 q) (e0 : q.1 0 0 = a0) (hm : Rnn (xP X) q (m.1 + 767, m.2 + 1267272)) (hl : lv_has ls 2 [(0, .ref a0)]) : WN X q 146 215 ls [] := by
  refine nn_aload_n (pc := 215) g.1 d_Mo_init_215 rfl (lv_at hl 0 rfl) ?_
  refine nn_iconst (pc := 216) g.1 (v := 0) d_Mo_init_216 (by decide) ?_
  refine nn_put (pc := 217) (r := 0) (k := 27) (n' := 146) g cl_Mo ⟨⟨rfl, by decide, by decide⟩, by decide +kernel⟩ (by decide) (Or.inl kn_159) (Or.inl rfl) e0 rfl rfl (Or.inr ⟨rfl, fN_dv (Or.inr ⟨by decide +kernel, (by decide), (fvI rfl rfl)⟩)⟩) d_Mo_init_217 ?_
  refine nn_aload_n (pc := 220) g.1 d_Mo_init_220 rfl (lv_at hl 0 rfl) ?_
  refine nn_iconst (pc := 221) g.1 (v := 0) d_Mo_init_221 (by decide) ?_
  refine nn_put (pc := 222) (r := 0) (k := 28) (n' := 146) g cl_Mo ⟨⟨rfl, by decide, by decide⟩, by decide +kernel⟩ (by decide) (Or.inl kn_160) (Or.inl rfl) e0 rfl rfl (Or.inr ⟨rfl, fN_dv (Or.inr ⟨by decide +kernel, (by decide), (fvI rfl rfl)⟩)⟩) d_Mo_init_222 ?_
  refine nn_aload_n (pc := 225) g.1 d_Mo_init_225 rfl (lv_at hl 0 rfl) ?_
  refine nn_iconst (pc := 226) g.1 (v := 0) d_Mo_init_226 (by decide) ?_
  refine nn_put (pc := 227) (r := 0) (k := 29) (n' := 146) g cl_Mo ⟨⟨rfl, by decide, by decide⟩, by decide +kernel⟩ (by decide) (Or.inl kn_161) (Or.inl rfl) e0 rfl rfl (Or.inr ⟨rfl, fN_dv (Or.inr ⟨by decide +kernel, (by decide), (fvI rfl rfl)⟩)⟩) d_Mo_init_227 ?_
  refine nn_aload_n (pc := 230) g.1 d_Mo_init_230 rfl (lv_at hl 0 rfl) ?_
  refine nn_iconst (pc := 231) g.1 (v := 0) d_Mo_init_231 (by decide) ?_
  refine nn_put (pc := 232) (r := 0) (k := 30) (n' := 146) g cl_Mo ⟨⟨rfl, by decide, by decide⟩, by decide +kernel⟩ (by decide) (Or.inl kn_162) (Or.inl rfl) e0 rfl rfl (Or.inr ⟨rfl, fN_dv (Or.inr ⟨by decide +kernel, (by decide), (fvI rfl rfl)⟩)⟩) d_Mo_init_232 ?_
  refine nn_aload_n (pc := 235) g.1 d_Mo_init_235 rfl (lv_at hl 0 rfl) ?_
  refine nn_iconst (pc := 236) g.1 (v := 0) d_Mo_init_236 (by decide) ?_
  refine nn_put (pc := 237) (r := 0) (k := 31) (n' := 146) g cl_Mo ⟨⟨rfl, by decide, by decide⟩, by decide +kernel⟩ (by decide) (Or.inl kn_163) (Or.inl rfl) e0 rfl rfl (Or.inr ⟨rfl, fN_dv (Or.inr ⟨by decide +kernel, (by decide), (fvI rfl rfl)⟩)⟩) d_Mo_init_237 ?_
  refine nn_aload_n (pc := 240) g.1 d_Mo_init_240 rfl (lv_at hl 0 rfl) ?_
  refine nn_iconst (pc := 241) g.1 (v := 0) d_Mo_init_241 (by decide) ?_
  refine nn_put (pc := 242) (r := 0) (k := 32) (n' := 146) g cl_Mo ⟨⟨rfl, by decide, by decide⟩, by decide +kernel⟩ (by decide) (Or.inl kn_164) (Or.inl rfl) e0 rfl rfl (Or.inr ⟨rfl, fN_dv (Or.inl ⟨by decide +kernel, by decide +kernel, rfl⟩)⟩) d_Mo_init_242 ?_
  refine nn_aload_n (pc := 245) g.1 d_Mo_init_245 rfl (lv_at hl 0 rfl) ?_
  refine nn_iconst (pc := 246) g.1 (v := 0) d_Mo_init_246 (by decide) ?_
  refine nn_put (pc := 247) (r := 0) (k := 33) (n' := 146) g cl_Mo ⟨⟨rfl, by decide, by decide⟩, by decide +kernel⟩ (by decide) (Or.inl kn_165) (Or.inl rfl) e0 rfl rfl (Or.inr ⟨rfl, fN_dv (Or.inr ⟨by decide +kernel, (by decide), (fvI rfl rfl)⟩)⟩) d_Mo_init_247 ?_
  refine nn_aload_n (pc := 250) g.1 d_Mo_init_250 rfl (lv_at hl 0 rfl) ?_
  refine nn_iconst (pc := 251) g.1 (v := 0) d_Mo_init_251 (by decide) ?_
  refine nn_put (pc := 252) (r := 0) (k := 34) (n' := 146) g cl_Mo ⟨⟨rfl, by decide, by decide⟩, by decide +kernel⟩ (by decide) (Or.inl kn_166) (Or.inl rfl) e0 rfl rfl (Or.inr ⟨rfl, fN_dv (Or.inr ⟨by decide +kernel, (by decide), (fvI rfl rfl)⟩)⟩) d_Mo_init_252 ?_
  refine nn_aload_n (pc := 255) g.1 d_Mo_init_255 rfl (lv_at hl 0 rfl) ?_
  refine nn_iconst (pc := 256) g.1 (v := 0) d_Mo_init_256 (by decide) ?_
  refine nn_put (pc := 257) (r := 0) (k := 35) (n' := 146) g cl_Mo ⟨⟨rfl, by decide, by decide⟩, by decide +kernel⟩ (by decide) (Or.inl kn_167) (Or.inl rfl) e0 rfl rfl (Or.inr ⟨rfl, fN_dv (Or.inr ⟨by decide +kernel, (by decide), (fvI rfl rfl)⟩)⟩) d_Mo_init_257 ?_
  refine nn_aload_n (pc := 260) g.1 d_Mo_init_260 rfl (lv_at hl 0 rfl) ?_
  refine nn_iconst (pc := 261) g.1 (v := 0) d_Mo_init_261 (by decide) ?_
  refine nn_put (pc := 262) (r := 0) (k := 36) (n' := 146) g cl_Mo ⟨⟨rfl, by decide, by decide⟩, by decide +kernel⟩ (by decide) (Or.inl kn_168) (Or.inl rfl) e0 rfl rfl (Or.inr ⟨rfl, fN_dv (Or.inr ⟨by decide +kernel, (by decide), (fvI rfl rfl)⟩)⟩) d_Mo_init_262 ?_
  refine nn_aload_n (pc := 265) g.1 d_Mo_init_265 rfl (lv_at hl 0 rfl) ?_
  refine nn_iconst (pc := 266) g.1 (v := 0) d_Mo_init_266 (by decide) ?_
  refine nn_put (pc := 267) (r := 0) (k := 37) (n' := 146) g cl_Mo ⟨⟨rfl, by decide, by decide⟩, by decide +kernel⟩ (by decide) (Or.inl kn_169) (Or.inl rfl) e0 rfl rfl (Or.inr ⟨rfl, fN_dv (Or.inr ⟨by decide +kernel, (by decide), (fvI rfl rfl)⟩)⟩) d_Mo_init_267 ?_
  refine nn_aload_n (pc := 270) g.1 d_Mo_init_270 rfl (lv_at hl 0 rfl) ?_
  refine nn_iconst (pc := 271) g.1 (v := 0) d_Mo_init_271 (by decide) ?_
  refine nn_put (pc := 272) (r := 0) (k := 38) (n' := 146) g cl_Mo ⟨⟨rfl, by decide, by decide⟩, by decide +kernel⟩ (by decide) (Or.inl kn_170) (Or.inl rfl) e0 rfl rfl (Or.inr ⟨rfl, fN_dv (Or.inr ⟨by decide +kernel, (by decide), (fvI rfl rfl)⟩)⟩) d_Mo_init_272 ?_
  refine nn_aload_n (pc := 275) g.1 d_Mo_init_275 rfl (lv_at hl 0 rfl) ?_
  refine nn_iconst (pc := 276) g.1 (v := 0) d_Mo_init_276 (by decide) ?_
  refine nn_put (pc := 277) (r := 0) (k := 39) (n' := 146) g cl_Mo ⟨⟨rfl, by decide, by decide⟩, by decide +kernel⟩ (by decide) (Or.inl kn_171) (Or.inl rfl) e0 rfl rfl (Or.inr ⟨rfl, fN_dv (Or.inr ⟨by decide +kernel, (by decide), (fvI rfl rfl)⟩)⟩) d_Mo_init_277 ?_
  refine nn_aload_n (pc := 280) g.1 d_Mo_init_280 rfl (lv_at hl 0 rfl) ?_
  refine nn_iconst (pc := 281) g.1 (v := 0) d_Mo_init_281 (by decide) ?_
  refine nn_put (pc := 282) (r := 0) (k := 40) (n' := 146) g cl_Mo ⟨⟨rfl, by decide, by decide⟩, by decide +kernel⟩ (by decide) (Or.inl kn_172) (Or.inl rfl) e0 rfl rfl (Or.inr ⟨rfl, fN_dv (Or.inr ⟨by decide +kernel, (by decide), (fvI rfl rfl)⟩)⟩) d_Mo_init_282 ?_
  refine nn_aload_n (pc := 285) g.1 d_Mo_init_285 rfl (lv_at hl 0 rfl) ?_
  refine nn_iconst (pc := 286) g.1 (v := 0) d_Mo_init_286 (by decide) ?_
  refine nn_put (pc := 287) (r := 0) (k := 41) (n' := 146) g cl_Mo ⟨⟨rfl, by decide, by decide⟩, by decide +kernel⟩ (by decide) (Or.inl kn_173) (Or.inl rfl) e0 rfl rfl (Or.inr ⟨rfl, fN_dv (Or.inr ⟨by decide +kernel, (by decide), (fvI rfl rfl)⟩)⟩) d_Mo_init_287 ?_
  refine nn_aload_n (pc := 290) g.1 d_Mo_init_290 rfl (lv_at hl 0 rfl) ?_
  refine nn_iconst (pc := 291) g.1 (v := 0) d_Mo_init_291 (by decide) ?_
  refine nn_put (pc := 292) (r := 0) (k := 42) (n' := 146) g cl_Mo ⟨⟨rfl, by decide, by decide⟩, by decide +kernel⟩ (by decide) (Or.inl kn_174) (Or.inl rfl) e0 rfl rfl (Or.inr ⟨rfl, fN_dv (Or.inr ⟨by decide +kernel, (by decide), (fvI rfl rfl)⟩)⟩) d_Mo_init_292 ?_
  refine nn_aload_n (pc := 295) g.1 d_Mo_init_295 rfl (lv_at hl 0 rfl) ?_
  refine nn_iconst (pc := 296) g.1 (v := 0) d_Mo_init_296 (by decide) ?_
  refine nn_put (pc := 297) (r := 0) (k := 43) (n' := 146) g cl_Mo ⟨⟨rfl, by decide, by decide⟩, by decide +kernel⟩ (by decide) (Or.inl kn_175) (Or.inl rfl) e0 rfl rfl (Or.inr ⟨rfl, fN_dv (Or.inr ⟨by decide +kernel, (by decide), (fvI rfl rfl)⟩)⟩) d_Mo_init_297 ?_
  refine nn_aload_n (pc := 300) g.1 d_Mo_init_300 rfl (lv_at hl 0 rfl) ?_
  refine nn_iconst (pc := 301) g.1 (v := 0) d_Mo_init_301 (by decide) ?_
  refine nn_put (pc := 302) (r := 0) (k := 44) (n' := 146) g cl_Mo ⟨⟨rfl, by decide, by decide⟩, by decide +kernel⟩ (by decide) (Or.inl kn_176) (Or.inl rfl) e0 rfl rfl (Or.inr ⟨rfl, fN_dv (Or.inr ⟨by decide +kernel, (by decide), (fvI rfl rfl)⟩)⟩) d_Mo_init_302 ?_
  refine nn_aload_n (pc := 305) g.1 d_Mo_init_305 rfl (lv_at hl 0 rfl) ?_
  refine nn_sipush (pc := 306) g.1 (v := 4100) d_Mo_init_306 (by decide) ?_
  refine nn_arr (pc := 309) (r := 58) (i := 0) (N := 4100) (at0 := .byte) (m := (m.1 + 766, m.2 + 1263172)) g.gn rfl (by decide) ⟨rfl, by decide, by decide⟩ (by decide +kernel) (by decide) rfl (by decide) (by decide) (hm.le (by dsimp only; omega) (by dsimp only; omega)) kn_12 d_Mo_init_309 fun q309 a58 hk e58 hm => ?_
  have e0 : q309.1 0 0 = a0 := (hk 0 0 ⟨⟨rfl, by decide, by decide⟩, by decide +kernel⟩).trans e0
  have hkp := hkp.tr hk (by decide)
  refine nn_put (pc := 311) (r := 0) (k := 45) (n' := 148) g cl_Mo ⟨⟨rfl, by decide, by decide⟩, by decide +kernel⟩ (by decide) (Or.inl kn_177) (Or.inr ⟨rfl, hnm, rfl, kn_177⟩) e0 rfl rfl (Or.inl ⟨(by decide +kernel), rfl, (fvR rfl rfl e58)⟩) d_Mo_init_311 ?_
  exact mo_s5 g hnm hR hkp e0 hm hl
theorem mo_s3 {X : Cx} {q0 q : PL} {ls : Array Slot} {a0 : Nat} {m : Nat × Nat} (g : Gd X y_Mo_init b_Mo_init 2 none 4 81 R_Mo) (hnm : (xh X).name = "<init>") (hR : RtN X q0 105 m 1772) (hkp : Kpp 105 q0 q) (e0 : q.1 0 0 = a0) (hm : Rnn (xP X) q (m.1 + 774, m.2 + 1367536)) (hl : lv_has ls 2 [(0, .ref a0)]) : WN X q 132 145 ls [] := by
  refine nn_aload_n (pc := 145) g.1 d_Mo_init_145 rfl (lv_at hl 0 rfl) ?_
  refine nn_sipush (pc := 146) g.1 (v := 256) d_Mo_init_146 (by decide) ?_
  refine nn_arr (pc := 149) (r := 54) (i := 0) (N := 256) (at0 := .int) (m := (m.1 + 773, m.2 + 1367280)) g.gn rfl (by decide) ⟨rfl, by decide, by decide⟩ (by decide +kernel) (by decide) rfl (by decide) (by decide) (hm.le (by dsimp only; omega) (by dsimp only; omega)) kn_9 d_Mo_init_149 fun q149 a54 hk e54 hm => ?_
  have e0 : q149.1 0 0 = a0 := (hk 0 0 ⟨⟨rfl, by decide, by decide⟩, by decide +kernel⟩).trans e0
  have hkp := hkp.tr hk (by decide)
  refine nn_put (pc := 151) (r := 0) (k := 18) (n' := 134) g cl_Mo ⟨⟨rfl, by decide, by decide⟩, by decide +kernel⟩ (by decide) (Or.inl kn_140) (Or.inr ⟨rfl, hnm, rfl, kn_140⟩) e0 rfl rfl (Or.inl ⟨(by decide +kernel), rfl, (fvR rfl rfl e54)⟩) d_Mo_init_151 ?_
  refine nn_aload_n (pc := 154) g.1 d_Mo_init_154 rfl (lv_at hl 0 rfl) ?_
  refine nn_sipush (pc := 155) g.1 (v := 20001) d_Mo_init_155 (by decide) ?_
  refine nn_arr (pc := 158) (r := 55) (i := 0) (N := 20001) (at0 := .int) (m := (m.1 + 772, m.2 + 1347279)) g.gn rfl (by decide) ⟨rfl, by decide, by decide⟩ (by decide +kernel) (by decide) rfl (by decide) (by decide) (hm.le (by dsimp only; omega) (by dsimp only; omega)) kn_9 d_Mo_init_158 fun q158 a55 hk e55 hm => ?_
  have e0 : q158.1 0 0 = a0 := (hk 0 0 ⟨⟨rfl, by decide, by decide⟩, by decide +kernel⟩).trans e0
  have e54 : q158.1 54 0 = a54 := (hk 54 0 ⟨⟨rfl, by decide, by decide⟩, by decide +kernel⟩).trans e54
  have hkp := hkp.tr hk (by decide)
  refine nn_put (pc := 160) (r := 0) (k := 19) (n' := 136) g cl_Mo ⟨⟨rfl, by decide, by decide⟩, by decide +kernel⟩ (by decide) (Or.inl kn_141) (Or.inr ⟨rfl, hnm, rfl, kn_141⟩) e0 rfl rfl (Or.inl ⟨(by decide +kernel), rfl, (fvR rfl rfl e55)⟩) d_Mo_init_160 ?_
  refine nn_aload_n (pc := 163) g.1 d_Mo_init_163 rfl (lv_at hl 0 rfl) ?_
  refine nn_sipush (pc := 164) g.1 (v := 20001) d_Mo_init_164 (by decide) ?_
  refine nn_arr (pc := 167) (r := 56) (i := 0) (N := 20001) (at0 := .int) (m := (m.1 + 771, m.2 + 1327278)) g.gn rfl (by decide) ⟨rfl, by decide, by decide⟩ (by decide +kernel) (by decide) rfl (by decide) (by decide) (hm.le (by dsimp only; omega) (by dsimp only; omega)) kn_9 d_Mo_init_167 fun q167 a56 hk e56 hm => ?_
  have e0 : q167.1 0 0 = a0 := (hk 0 0 ⟨⟨rfl, by decide, by decide⟩, by decide +kernel⟩).trans e0
  have e54 : q167.1 54 0 = a54 := (hk 54 0 ⟨⟨rfl, by decide, by decide⟩, by decide +kernel⟩).trans e54
  have e55 : q167.1 55 0 = a55 := (hk 55 0 ⟨⟨rfl, by decide, by decide⟩, by decide +kernel⟩).trans e55
  have hkp := hkp.tr hk (by decide)
  refine nn_put (pc := 169) (r := 0) (k := 20) (n' := 138) g cl_Mo ⟨⟨rfl, by decide, by decide⟩, by decide +kernel⟩ (by decide) (Or.inl kn_142) (Or.inr ⟨rfl, hnm, rfl, kn_142⟩) e0 rfl rfl (Or.inl ⟨(by decide +kernel), rfl, (fvR rfl rfl e56)⟩) d_Mo_init_169 ?_
  refine nn_aload_n (pc := 172) g.1 d_Mo_init_172 rfl (lv_at hl 0 rfl) ?_
  refine nn_new (pc := 173) (r := 1) (i := 0) (m := (m.1 + 770, m.2 + 1327275)) g.gn (cl_Va (i := 0) (Or.inl ⟨by decide, rfl⟩)) (by unfold dvC; decide +kernel) ⟨rfl, by decide, by decide⟩ (by decide +kernel) (hm.le (by dsimp only; omega) (by have z : nfF 1 = 3 := rfl; dsimp only; omega)) kn_143 kn_144 kn_145 d_Mo_init_173 fun q173 a1 hk e1 hm => ?_
  have e0 : q173.1 0 0 = a0 := (hk 0 0 ⟨⟨rfl, by decide, by decide⟩, by decide +kernel⟩).trans e0
  have e54 : q173.1 54 0 = a54 := (hk 54 0 ⟨⟨rfl, by decide, by decide⟩, by decide +kernel⟩).trans e54
  have e55 : q173.1 55 0 = a55 := (hk 55 0 ⟨⟨rfl, by decide, by decide⟩, by decide +kernel⟩).trans e55
  have e56 : q173.1 56 0 = a56 := (hk 56 0 ⟨⟨rfl, by decide, by decide⟩, by decide +kernel⟩).trans e56
  have hkp := hkp.tr hk (by decide)
  refine nn_dup (pc := 176) g.1 d_Mo_init_176 rfl ?_
  refine nn_sipush (pc := 177) g.1 (v := 20001) d_Mo_init_177 (by decide) ?_
  refine nn_call (pc := 180) (rest := [.ref a1, .ref a0]) (m := (m.1 + 768, m.2 + 1287273)) (As := [.int 20001]) g.gn ci_Va_init (Or.inl kn_152) (cn_Va_1 (hm.le (by dsimp only; omega) (by dsimp only; omega)) e1) (hm.le (by dsimp only; omega) (by dsimp only; omega)) ⟨by decide, by decide⟩ rfl hl.1 (Nat.le_of_ble_eq_true rfl) d_Mo_init_180 rfl fun q180 hk hm => ?_
  have e0 : q180.1 0 0 = a0 := (hk 0 0 ⟨⟨rfl, by decide, by decide⟩, by decide +kernel⟩).trans e0
  have e54 : q180.1 54 0 = a54 := (hk 54 0 ⟨⟨rfl, by decide, by decide⟩, by decide +kernel⟩).trans e54
  have e55 : q180.1 55 0 = a55 := (hk 55 0 ⟨⟨rfl, by decide, by decide⟩, by decide +kernel⟩).trans e55
  have e56 : q180.1 56 0 = a56 := (hk 56 0 ⟨⟨rfl, by decide, by decide⟩, by decide +kernel⟩).trans e56
  have e1 : q180.1 1 0 = a1 := (hk 1 0 ⟨⟨rfl, by decide, by decide⟩, by decide +kernel⟩).trans e1
  have hkp := hkp.tr hk (by decide)
  refine nn_put (pc := 183) (r := 0) (k := 21) (n' := 144) g cl_Mo ⟨⟨rfl, by decide, by decide⟩, by decide +kernel⟩ (by decide) (Or.inl kn_153) (Or.inr ⟨rfl, hnm, rfl, kn_153⟩) e0 rfl rfl (Or.inl ⟨(by decide +kernel), rfl, (fvR rfl rfl e1)⟩) d_Mo_init_183 ?_
  refine nn_aload_n (pc := 186) g.1 d_Mo_init_186 rfl (lv_at hl 0 rfl) ?_
  refine nn_sipush (pc := 187) g.1 (v := 20001) d_Mo_init_187 (by decide) ?_
  refine nn_arr (pc := 190) (r := 57) (i := 0) (N := 20001) (at0 := .int) (m := (m.1 + 767, m.2 + 1267272)) g.gn rfl (by decide) ⟨rfl, by decide, by decide⟩ (by decide +kernel) (by decide) rfl (by decide) (by decide) (hm.le (by dsimp only; omega) (by dsimp only; omega)) kn_9 d_Mo_init_190 fun q190 a57 hk e57 hm => ?_
  have e0 : q190.1 0 0 = a0 := (hk 0 0 ⟨⟨rfl, by decide, by decide⟩, by decide +kernel⟩).trans e0
  have e54 : q190.1 54 0 = a54 := (hk 54 0 ⟨⟨rfl, by decide, by decide⟩, by decide +kernel⟩).trans e54
  have e55 : q190.1 55 0 = a55 := (hk 55 0 ⟨⟨rfl, by decide, by decide⟩, by decide +kernel⟩).trans e55
  have e56 : q190.1 56 0 = a56 := (hk 56 0 ⟨⟨rfl, by decide, by decide⟩, by decide +kernel⟩).trans e56
  have e1 : q190.1 1 0 = a1 := (hk 1 0 ⟨⟨rfl, by decide, by decide⟩, by decide +kernel⟩).trans e1
  have hkp := hkp.tr hk (by decide)
  refine nn_put (pc := 192) (r := 0) (k := 22) (n' := 146) g cl_Mo ⟨⟨rfl, by decide, by decide⟩, by decide +kernel⟩ (by decide) (Or.inl kn_154) (Or.inr ⟨rfl, hnm, rfl, kn_154⟩) e0 rfl rfl (Or.inl ⟨(by decide +kernel), rfl, (fvR rfl rfl e57)⟩) d_Mo_init_192 ?_
  refine nn_aload_n (pc := 195) g.1 d_Mo_init_195 rfl (lv_at hl 0 rfl) ?_
  refine nn_iconst (pc := 196) g.1 (v := 0) d_Mo_init_196 (by decide) ?_
  refine nn_put (pc := 197) (r := 0) (k := 23) (n' := 146) g cl_Mo ⟨⟨rfl, by decide, by decide⟩, by decide +kernel⟩ (by decide) (Or.inl kn_155) (Or.inl rfl) e0 rfl rfl (Or.inr ⟨rfl, fN_dv (Or.inr ⟨by decide +kernel, (by decide), (fvI rfl rfl)⟩)⟩) d_Mo_init_197 ?_
  refine nn_aload_n (pc := 200) g.1 d_Mo_init_200 rfl (lv_at hl 0 rfl) ?_
  refine nn_iconst (pc := 201) g.1 (v := 0) d_Mo_init_201 (by decide) ?_
  refine nn_put (pc := 202) (r := 0) (k := 24) (n' := 146) g cl_Mo ⟨⟨rfl, by decide, by decide⟩, by decide +kernel⟩ (by decide) (Or.inl kn_156) (Or.inl rfl) e0 rfl rfl (Or.inr ⟨rfl, fN_dv (Or.inr ⟨by decide +kernel, (by decide), (fvI rfl rfl)⟩)⟩) d_Mo_init_202 ?_
  refine nn_aload_n (pc := 205) g.1 d_Mo_init_205 rfl (lv_at hl 0 rfl) ?_
  refine nn_iconst (pc := 206) g.1 (v := 0) d_Mo_init_206 (by decide) ?_
  refine nn_put (pc := 207) (r := 0) (k := 25) (n' := 146) g cl_Mo ⟨⟨rfl, by decide, by decide⟩, by decide +kernel⟩ (by decide) (Or.inl kn_157) (Or.inl rfl) e0 rfl rfl (Or.inr ⟨rfl, fN_dv (Or.inr ⟨by decide +kernel, (by decide), (fvI rfl rfl)⟩)⟩) d_Mo_init_207 ?_
  refine nn_aload_n (pc := 210) g.1 d_Mo_init_210 rfl (lv_at hl 0 rfl) ?_
  refine nn_iconst (pc := 211) g.1 (v := 0) d_Mo_init_211 (by decide) ?_
  refine nn_put (pc := 212) (r := 0) (k := 26) (n' := 146) g cl_Mo ⟨⟨rfl, by decide, by decide⟩, by decide +kernel⟩ (by decide) (Or.inl kn_158) (Or.inl rfl) e0 rfl rfl (Or.inr ⟨rfl, fN_dv (Or.inr ⟨by decide +kernel, (by decide), (fvI rfl rfl)⟩)⟩) d_Mo_init_212 ?_
  exact mo_s4 g hnm hR hkp e0 hm hl
