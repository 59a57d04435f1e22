abbrev b_Mo_middle : ByteArray := prog_14_method_123_code
def y_Mo_middle : MethodName := ⟨R_Mo, "middle", "(LLuaMachineModel$Thread_;IIIILLuaMachineModel$Values;I)V"⟩
abbrev w_Mo_middle : List Cond := .code y_Mo_middle b_Mo_middle 9 none :: wA
set_option maxRecDepth 20000 in
theorem k_Mo_middle : Cond.code y_Mo_middle b_Mo_middle 9 none ∈ wA := kinm (show _ ∈ tables_1 from (List.mem_append_right _ (List.mem_append_right _ (List.mem_append_right _ (List.mem_append_right _ (List.mem_append_right _ (List.mem_append_right _ (List.mem_append_right _ (List.mem_append_right _ (List.mem_append_right _ (List.mem_append_right _ (List.mem_append_right _ (List.mem_append_right _ (List.mem_append_left _ (List.mem_of_getElem? (l := tables_1_13) (i := 187) rfl))))))))))))))) rfl
theorem d_Mo_middle_0 : decode b_Mo_middle 0 = .ok (.aload_n 1, 1) := by decide +kernel
theorem d_Mo_middle_1 : decode b_Mo_middle 1 = .ok (.getfield 744, 3) := by decide +kernel
theorem d_Mo_middle_4 : decode b_Mo_middle 4 = .ok (.iload_n 2, 1) := by decide +kernel
theorem d_Mo_middle_5 : decode b_Mo_middle 5 = .ok (.iaload, 1) := by decide +kernel
theorem d_Mo_middle_6 : decode b_Mo_middle 6 = .ok (.iload 4, 2) := by decide +kernel
theorem d_Mo_middle_8 : decode b_Mo_middle 8 = .ok (.invokestatic 482, 3) := by decide +kernel
theorem d_Mo_middle_11 : decode b_Mo_middle 11 = .ok (.iadd, 1) := by decide +kernel
theorem d_Mo_middle_12 : decode b_Mo_middle 12 = .ok (.istore 8, 2) := by decide +kernel
theorem d_Mo_middle_14 : decode b_Mo_middle 14 = .ok (.iload 5, 2) := by decide +kernel
theorem d_Mo_middle_16 : decode b_Mo_middle 16 = .ok (.tableswitch 295 27 35 #[52, 82, 114, 166, 295, 295, 295, 200, 240], 52) := by decide +kernel
theorem d_Mo_middle_68 : decode b_Mo_middle 68 = .ok (.aload 6, 2) := by decide +kernel
theorem d_Mo_middle_70 : decode b_Mo_middle 70 = .ok (.iload 7, 2) := by decide +kernel
theorem d_Mo_middle_72 : decode b_Mo_middle 72 = .ok (.aload 6, 2) := by decide +kernel
theorem d_Mo_middle_74 : decode b_Mo_middle 74 = .ok (.getfield 585, 3) := by decide +kernel
theorem d_Mo_middle_77 : decode b_Mo_middle 77 = .ok (.iload 8, 2) := by decide +kernel
theorem d_Mo_middle_79 : decode b_Mo_middle 79 = .ok (.baload, 1) := by decide +kernel
theorem d_Mo_middle_80 : decode b_Mo_middle 80 = .ok (.invokestatic 977, 3) := by decide +kernel
theorem d_Mo_middle_83 : decode b_Mo_middle 83 = .ok (.ifCond .eq 7, 3) := by decide +kernel
theorem d_Mo_middle_86 : decode b_Mo_middle 86 = .ok (.iconst 1, 1) := by decide +kernel
theorem d_Mo_middle_87 : decode b_Mo_middle 87 = .ok (.goto 4, 3) := by decide +kernel
theorem d_Mo_middle_90 : decode b_Mo_middle 90 = .ok (.iconst 2, 1) := by decide +kernel
theorem d_Mo_middle_91 : decode b_Mo_middle 91 = .ok (.lconst 0, 1) := by decide +kernel
theorem d_Mo_middle_92 : decode b_Mo_middle 92 = .ok (.invokevirtual 470, 3) := by decide +kernel
theorem d_Mo_middle_95 : decode b_Mo_middle 95 = .ok (.goto 227, 3) := by decide +kernel
theorem d_Mo_middle_98 : decode b_Mo_middle 98 = .ok (.aload_n 0, 1) := by decide +kernel
theorem d_Mo_middle_99 : decode b_Mo_middle 99 = .ok (.iload 4, 2) := by decide +kernel
theorem d_Mo_middle_101 : decode b_Mo_middle 101 = .ok (.invokestatic 495, 3) := by decide +kernel
theorem d_Mo_middle_104 : decode b_Mo_middle 104 = .ok (.aload 6, 2) := by decide +kernel
theorem d_Mo_middle_106 : decode b_Mo_middle 106 = .ok (.getfield 585, 3) := by decide +kernel
theorem d_Mo_middle_109 : decode b_Mo_middle 109 = .ok (.iload 8, 2) := by decide +kernel
theorem d_Mo_middle_111 : decode b_Mo_middle 111 = .ok (.baload, 1) := by decide +kernel
theorem d_Mo_middle_112 : decode b_Mo_middle 112 = .ok (.aload 6, 2) := by decide +kernel
theorem d_Mo_middle_114 : decode b_Mo_middle 114 = .ok (.getfield 588, 3) := by decide +kernel
theorem d_Mo_middle_117 : decode b_Mo_middle 117 = .ok (.iload 8, 2) := by decide +kernel
theorem d_Mo_middle_119 : decode b_Mo_middle 119 = .ok (.laload, 1) := by decide +kernel
theorem d_Mo_middle_120 : decode b_Mo_middle 120 = .ok (.aload 6, 2) := by decide +kernel
theorem d_Mo_middle_122 : decode b_Mo_middle 122 = .ok (.iload 7, 2) := by decide +kernel
theorem d_Mo_middle_124 : decode b_Mo_middle 124 = .ok (.invokevirtual 980, 3) := by decide +kernel
theorem d_Mo_middle_127 : decode b_Mo_middle 127 = .ok (.goto 195, 3) := by decide +kernel
theorem d_Mo_middle_130 : decode b_Mo_middle 130 = .ok (.aload_n 0, 1) := by decide +kernel
theorem d_Mo_middle_131 : decode b_Mo_middle 131 = .ok (.aload_n 1, 1) := by decide +kernel
theorem d_Mo_middle_132 : decode b_Mo_middle 132 = .ok (.iload_n 2, 1) := by decide +kernel
theorem d_Mo_middle_133 : decode b_Mo_middle 133 = .ok (.iload 4, 2) := by decide +kernel
theorem d_Mo_middle_135 : decode b_Mo_middle 135 = .ok (.invokestatic 479, 3) := by decide +kernel
theorem d_Mo_middle_138 : decode b_Mo_middle 138 = .ok (.iconst 1, 1) := by decide +kernel
theorem d_Mo_middle_139 : decode b_Mo_middle 139 = .ok (.isub, 1) := by decide +kernel
theorem d_Mo_middle_140 : decode b_Mo_middle 140 = .ok (.aload 6, 2) := by decide +kernel
theorem d_Mo_middle_142 : decode b_Mo_middle 142 = .ok (.getfield 585, 3) := by decide +kernel
theorem d_Mo_middle_145 : decode b_Mo_middle 145 = .ok (.aload_n 1, 1) := by decide +kernel
theorem d_Mo_middle_146 : decode b_Mo_middle 146 = .ok (.getfield 744, 3) := by decide +kernel
theorem d_Mo_middle_149 : decode b_Mo_middle 149 = .ok (.iload_n 2, 1) := by decide +kernel
theorem d_Mo_middle_150 : decode b_Mo_middle 150 = .ok (.iaload, 1) := by decide +kernel
theorem d_Mo_middle_151 : decode b_Mo_middle 151 = .ok (.iload 4, 2) := by decide +kernel
theorem d_Mo_middle_153 : decode b_Mo_middle 153 = .ok (.invokestatic 479, 3) := by decide +kernel
theorem d_Mo_middle_156 : decode b_Mo_middle 156 = .ok (.iadd, 1) := by decide +kernel
theorem d_Mo_middle_157 : decode b_Mo_middle 157 = .ok (.baload, 1) := by decide +kernel
theorem d_Mo_middle_158 : decode b_Mo_middle 158 = .ok (.aload 6, 2) := by decide +kernel
theorem d_Mo_middle_160 : decode b_Mo_middle 160 = .ok (.getfield 588, 3) := by decide +kernel
theorem d_Mo_middle_163 : decode b_Mo_middle 163 = .ok (.aload_n 1, 1) := by decide +kernel
theorem d_Mo_middle_164 : decode b_Mo_middle 164 = .ok (.getfield 744, 3) := by decide +kernel
theorem d_Mo_middle_167 : decode b_Mo_middle 167 = .ok (.iload_n 2, 1) := by decide +kernel
theorem d_Mo_middle_168 : decode b_Mo_middle 168 = .ok (.iaload, 1) := by decide +kernel
theorem d_Mo_middle_169 : decode b_Mo_middle 169 = .ok (.iload 4, 2) := by decide +kernel
theorem d_Mo_middle_171 : decode b_Mo_middle 171 = .ok (.invokestatic 479, 3) := by decide +kernel
theorem d_Mo_middle_174 : decode b_Mo_middle 174 = .ok (.iadd, 1) := by decide +kernel
theorem d_Mo_middle_175 : decode b_Mo_middle 175 = .ok (.laload, 1) := by decide +kernel
theorem d_Mo_middle_176 : decode b_Mo_middle 176 = .ok (.invokevirtual 779, 3) := by decide +kernel
theorem d_Mo_middle_179 : decode b_Mo_middle 179 = .ok (.goto 143, 3) := by decide +kernel
theorem d_Mo_middle_182 : decode b_Mo_middle 182 = .ok (.iload 4, 2) := by decide +kernel
theorem d_Mo_middle_184 : decode b_Mo_middle 184 = .ok (.invokestatic 495, 3) := by decide +kernel
theorem d_Mo_middle_187 : decode b_Mo_middle 187 = .ok (.ifCond .eq 12, 3) := by decide +kernel
theorem d_Mo_middle_190 : decode b_Mo_middle 190 = .ok (.aload_n 0, 1) := by decide +kernel
theorem d_Mo_middle_191 : decode b_Mo_middle 191 = .ok (.aload_n 1, 1) := by decide +kernel
theorem d_Mo_middle_192 : decode b_Mo_middle 192 = .ok (.iload 7, 2) := by decide +kernel
theorem d_Mo_middle_194 : decode b_Mo_middle 194 = .ok (.iconst 1, 1) := by decide +kernel
theorem d_Mo_middle_195 : decode b_Mo_middle 195 = .ok (.isub, 1) := by decide +kernel
theorem d_Mo_middle_196 : decode b_Mo_middle 196 = .ok (.invokevirtual 789, 3) := by decide +kernel
theorem d_Mo_middle_199 : decode b_Mo_middle 199 = .ok (.aload_n 1, 1) := by decide +kernel
theorem d_Mo_middle_200 : decode b_Mo_middle 200 = .ok (.getfield 758, 3) := by decide +kernel
theorem d_Mo_middle_203 : decode b_Mo_middle 203 = .ok (.iload_n 2, 1) := by decide +kernel
theorem d_Mo_middle_204 : decode b_Mo_middle 204 = .ok (.dup2, 1) := by decide +kernel
theorem d_Mo_middle_205 : decode b_Mo_middle 205 = .ok (.iaload, 1) := by decide +kernel
theorem d_Mo_middle_206 : decode b_Mo_middle 206 = .ok (.iload 4, 2) := by decide +kernel
theorem d_Mo_middle_208 : decode b_Mo_middle 208 = .ok (.invokestatic 513, 3) := by decide +kernel
theorem d_Mo_middle_211 : decode b_Mo_middle 211 = .ok (.iadd, 1) := by decide +kernel
theorem d_Mo_middle_212 : decode b_Mo_middle 212 = .ok (.iastore, 1) := by decide +kernel
theorem d_Mo_middle_213 : decode b_Mo_middle 213 = .ok (.goto 109, 3) := by decide +kernel
theorem d_Mo_middle_216 : decode b_Mo_middle 216 = .ok (.aload 6, 2) := by decide +kernel
theorem d_Mo_middle_218 : decode b_Mo_middle 218 = .ok (.getfield 585, 3) := by decide +kernel
theorem d_Mo_middle_221 : decode b_Mo_middle 221 = .ok (.iload 7, 2) := by decide +kernel
theorem d_Mo_middle_223 : decode b_Mo_middle 223 = .ok (.baload, 1) := by decide +kernel
theorem d_Mo_middle_224 : decode b_Mo_middle 224 = .ok (.invokestatic 977, 3) := by decide +kernel
theorem d_Mo_middle_227 : decode b_Mo_middle 227 = .ok (.iload 4, 2) := by decide +kernel
theorem d_Mo_middle_229 : decode b_Mo_middle 229 = .ok (.invokestatic 479, 3) := by decide +kernel
theorem d_Mo_middle_232 : decode b_Mo_middle 232 = .ok (.ifCond .ne 7, 3) := by decide +kernel
theorem d_Mo_middle_235 : decode b_Mo_middle 235 = .ok (.iconst 1, 1) := by decide +kernel
theorem d_Mo_middle_236 : decode b_Mo_middle 236 = .ok (.goto 4, 3) := by decide +kernel
theorem d_Mo_middle_239 : decode b_Mo_middle 239 = .ok (.iconst 0, 1) := by decide +kernel
theorem d_Mo_middle_240 : decode b_Mo_middle 240 = .ok (.if_icmp .ne 82, 3) := by decide +kernel
theorem d_Mo_middle_243 : decode b_Mo_middle 243 = .ok (.aload_n 1, 1) := by decide +kernel
theorem d_Mo_middle_244 : decode b_Mo_middle 244 = .ok (.getfield 758, 3) := by decide +kernel
theorem d_Mo_middle_247 : decode b_Mo_middle 247 = .ok (.iload_n 2, 1) := by decide +kernel
theorem d_Mo_middle_248 : decode b_Mo_middle 248 = .ok (.dup2, 1) := by decide +kernel
theorem d_Mo_middle_249 : decode b_Mo_middle 249 = .ok (.iaload, 1) := by decide +kernel
theorem d_Mo_middle_250 : decode b_Mo_middle 250 = .ok (.iconst 1, 1) := by decide +kernel
theorem d_Mo_middle_251 : decode b_Mo_middle 251 = .ok (.iadd, 1) := by decide +kernel
theorem d_Mo_middle_252 : decode b_Mo_middle 252 = .ok (.iastore, 1) := by decide +kernel
theorem d_Mo_middle_253 : decode b_Mo_middle 253 = .ok (.goto 69, 3) := by decide +kernel
theorem d_Mo_middle_256 : decode b_Mo_middle 256 = .ok (.aload 6, 2) := by decide +kernel
theorem d_Mo_middle_258 : decode b_Mo_middle 258 = .ok (.getfield 585, 3) := by decide +kernel
theorem d_Mo_middle_261 : decode b_Mo_middle 261 = .ok (.iload 8, 2) := by decide +kernel
theorem d_Mo_middle_263 : decode b_Mo_middle 263 = .ok (.baload, 1) := by decide +kernel
theorem d_Mo_middle_264 : decode b_Mo_middle 264 = .ok (.invokestatic 977, 3) := by decide +kernel
theorem d_Mo_middle_267 : decode b_Mo_middle 267 = .ok (.iload 4, 2) := by decide +kernel
theorem d_Mo_middle_269 : decode b_Mo_middle 269 = .ok (.invokestatic 479, 3) := by decide +kernel
theorem d_Mo_middle_272 : decode b_Mo_middle 272 = .ok (.iconst 1, 1) := by decide +kernel
theorem d_Mo_middle_273 : decode b_Mo_middle 273 = .ok (.if_icmp .ne 7, 3) := by decide +kernel
theorem d_Mo_middle_276 : decode b_Mo_middle 276 = .ok (.iconst 1, 1) := by decide +kernel
theorem d_Mo_middle_277 : decode b_Mo_middle 277 = .ok (.goto 4, 3) := by decide +kernel
theorem d_Mo_middle_280 : decode b_Mo_middle 280 = .ok (.iconst 0, 1) := by decide +kernel
theorem d_Mo_middle_281 : decode b_Mo_middle 281 = .ok (.if_icmp .ne 17, 3) := by decide +kernel
theorem d_Mo_middle_284 : decode b_Mo_middle 284 = .ok (.aload 6, 2) := by decide +kernel
theorem d_Mo_middle_286 : decode b_Mo_middle 286 = .ok (.iload 7, 2) := by decide +kernel
theorem d_Mo_middle_288 : decode b_Mo_middle 288 = .ok (.aload 6, 2) := by decide +kernel
theorem d_Mo_middle_290 : decode b_Mo_middle 290 = .ok (.iload 8, 2) := by decide +kernel
theorem d_Mo_middle_292 : decode b_Mo_middle 292 = .ok (.invokevirtual 719, 3) := by decide +kernel
theorem d_Mo_middle_295 : decode b_Mo_middle 295 = .ok (.goto 27, 3) := by decide +kernel
theorem d_Mo_middle_298 : decode b_Mo_middle 298 = .ok (.aload_n 1, 1) := by decide +kernel
theorem d_Mo_middle_299 : decode b_Mo_middle 299 = .ok (.getfield 758, 3) := by decide +kernel
theorem d_Mo_middle_302 : decode b_Mo_middle 302 = .ok (.iload_n 2, 1) := by decide +kernel
theorem d_Mo_middle_303 : decode b_Mo_middle 303 = .ok (.dup2, 1) := by decide +kernel
theorem d_Mo_middle_304 : decode b_Mo_middle 304 = .ok (.iaload, 1) := by decide +kernel
theorem d_Mo_middle_305 : decode b_Mo_middle 305 = .ok (.iconst 1, 1) := by decide +kernel
theorem d_Mo_middle_306 : decode b_Mo_middle 306 = .ok (.iadd, 1) := by decide +kernel
theorem d_Mo_middle_307 : decode b_Mo_middle 307 = .ok (.iastore, 1) := by decide +kernel
theorem d_Mo_middle_308 : decode b_Mo_middle 308 = .ok (.goto 14, 3) := by decide +kernel
theorem d_Mo_middle_311 : decode b_Mo_middle 311 = .ok (.aload_n 0, 1) := by decide +kernel
theorem d_Mo_middle_312 : decode b_Mo_middle 312 = .ok (.aload_n 1, 1) := by decide +kernel
theorem d_Mo_middle_313 : decode b_Mo_middle 313 = .ok (.iload_n 2, 1) := by decide +kernel
theorem d_Mo_middle_314 : decode b_Mo_middle 314 = .ok (.iload_n 3, 1) := by decide +kernel
theorem d_Mo_middle_315 : decode b_Mo_middle 315 = .ok (.iload 4, 2) := by decide +kernel
theorem d_Mo_middle_317 : decode b_Mo_middle 317 = .ok (.iload 5, 2) := by decide +kernel
theorem d_Mo_middle_319 : decode b_Mo_middle 319 = .ok (.invokevirtual 983, 3) := by decide +kernel
theorem d_Mo_middle_322 : decode b_Mo_middle 322 = .ok (.return_, 1) := by decide +kernel
theorem kw_550 : Cond.methodLink R_Mo 977 y_Mo_truth ∈ wA := kinm (show _ ∈ tables_1 from (List.mem_append_right _ (List.mem_append_right _ (List.mem_append_right _ (List.mem_append_right _ (List.mem_append_right _ (List.mem_append_right _ (List.mem_append_right _ (List.mem_append_right _ (List.mem_append_right _ (List.mem_append_right _ (List.mem_append_right _ (List.mem_append_right _ (List.mem_append_left _ (List.mem_of_getElem? (l := tables_1_13) (i := 188) (by decide +kernel)))))))))))))))) (by decide +kernel)
theorem kw_551 : Cond.methodLink R_Mo 980 y_Mo_length ∈ wA := kinm (show _ ∈ tables_1 from (List.mem_append_right _ (List.mem_append_right _ (List.mem_append_right _ (List.mem_append_right _ (List.mem_append_right _ (List.mem_append_right _ (List.mem_append_right _ (List.mem_append_right _ (List.mem_append_right _ (List.mem_append_right _ (List.mem_append_right _ (List.mem_append_right _ (List.mem_append_left _ (List.mem_of_getElem? (l := tables_1_13) (i := 191) (by decide +kernel)))))))))))))))) (by decide +kernel)
theorem kw_552 : Cond.methodLink R_Mo 779 y_Mo_join ∈ wA := kinm (show _ ∈ tables_1 from (List.mem_append_right _ (List.mem_append_right _ (List.mem_append_right _ (List.mem_append_right _ (List.mem_append_right _ (List.mem_append_right _ (List.mem_append_right _ (List.mem_append_right _ (List.mem_append_right _ (List.mem_append_right _ (List.mem_append_right _ (List.mem_append_right _ (List.mem_append_left _ (List.mem_of_getElem? (l := tables_1_13) (i := 93) (by decide +kernel)))))))))))))))) (by decide +kernel)
theorem kw_553 : Cond.methodLink R_Mo 983 y_Mo_compare ∈ wA := kinm (show _ ∈ tables_1 from (List.mem_append_right _ (List.mem_append_right _ (List.mem_append_right _ (List.mem_append_right _ (List.mem_append_right _ (List.mem_append_right _ (List.mem_append_right _ (List.mem_append_right _ (List.mem_append_right _ (List.mem_append_right _ (List.mem_append_right _ (List.mem_append_right _ (List.mem_append_left _ (List.mem_of_getElem? (l := tables_1_13) (i := 195) (by decide +kernel)))))))))))))))) (by decide +kernel)
theorem kw_554 : Cond.instanceMethod y_Mo_middle ∈ wA := kinm (show _ ∈ tables_1 from (List.mem_append_right _ (List.mem_append_right _ (List.mem_append_right _ (List.mem_append_right _ (List.mem_append_right _ (List.mem_append_right _ (List.mem_append_right _ (List.mem_append_right _ (List.mem_append_right _ (List.mem_append_right _ (List.mem_append_right _ (List.mem_append_right _ (List.mem_append_left _ (List.mem_of_getElem? (l := tables_1_13) (i := 186) (by decide +kernel)))))))))))))))) (by decide +kernel)
theorem kw_555 : Cond.selects R_Mo y_Mo_middle y_Mo_middle ∈ wA := kinp 214 (by decide +kernel) (by decide +kernel)
theorem cv_Mo_middle : CV y_Mo_middle b_Mo_middle 9 none 7 := ⟨kw_554, kw_555, kw_17, k_Mo_middle, by decide +kernel⟩
theorem j_Mo_middle_j91 {X : Cx} {q : PL} (g : Gd X y_Mo_middle b_Mo_middle 9 none 9 233 R_Mo) {o : (Unit) × S1} (hR : Rt X q o.2 none) (k0 : Int32) (k1 : Int32) (k2r : Nat) (k2 : Int32) (s : S1) (hp0 : VOK k2r k2) (ls : Array Slot) (hl : lv_has ls 9 []) (h : M_Mo_middle_j91 k0 k1 k2r k2 s = some o) : WW X q s 91 ls [.int k0, .int k1, .ref (q.1 k2r k2)] := by
  unfold M_Mo_middle_j91 at h
  refine ww_lconst (pc := 91) g.1 (v := 0) d_Mo_middle_91 (by decide) ?_
  obtain ⟨v92, s, hc92, h⟩ := oB_of h
  refine ww_callV (pc := 92) (rest := []) g cv_Va_set (Or.inl kw_99) (cl_Va hp0) (vok_p hp0).1 (ct_Va_set hp0 hc92) ⟨by decide, by decide⟩ rfl hl.1 (Nat.le_of_ble_eq_true rfl) d_Mo_middle_92 rfl ?_
  refine ww_st (st' := []) rfl ?_
  refine ww_goto (pc := 95) (tgt := 322) g.1 d_Mo_middle_95 (by decide) ?_
  exact ww_vretH (pc := 322) g h hR d_Mo_middle_322

theorem j_Mo_middle_j199 {X : Cx} {q : PL} (g : Gd X y_Mo_middle b_Mo_middle 9 none 9 233 R_Mo) {o : (Unit) × S1} (hR : Rt X q o.2 none) (l1 : Int32) (l2 : Int32) (l4 : Int32) (s : S1) (hp0 : 0 ≤ l1 ∧ l1 < 33) (ls : Array Slot) (hl : lv_has ls 9 [(1, .ref (q.1 28 l1)), (2, .int l2), (4, .int l4)]) (h : M_Mo_middle_j199 l1 l2 l4 s = some o) : WW X q s 199 ls [] := by
  unfold M_Mo_middle_j199 at h
  refine ww_aload_n (pc := 199) g.1 d_Mo_middle_199 rfl (lv_at hl 0 rfl) ?_
  refine ww_gR (pc := 200) g (k := 13) cl_Th (pt rfl rfl hp0) (by decide) (Or.inl kw_274) (f := 3597) (t := 32) rfl rfl rfl d_Mo_middle_200 ?_
  refine ww_iload_n (pc := 203) g.1 d_Mo_middle_203 rfl (lv_at hl 1 rfl) ?_
  refine ww_dup2_11 (pc := 204) g.1 d_Mo_middle_204 rfl rfl ?_
  refine ww_ai (pc := 205) g (pt rfl rfl hp0) rfl rfl d_Mo_middle_205 h fun v205 h => ?_
  refine ww_iload (pc := 206) g.1 d_Mo_middle_206 (lv_at hl 2 rfl) ?_
  obtain ⟨v208, s, hc208, h⟩ := oB_of h
  refine ww_callS (pc := 208) (rest := [.int v205, .int l2, .ref (q.1 32 l1)]) g cs_Mo_sbx (Or.inl kw_275) (ct_Mo_sbx hc208) ⟨by decide, by decide⟩ rfl hl.1 (Nat.le_of_ble_eq_true rfl) d_Mo_middle_208 rfl ?_
  refine ww_st (st' := [.int v208, .int v205, .int l2, .ref (q.1 32 l1)]) rfl ?_
  refine ww_iadd (pc := 211) g.1 d_Mo_middle_211 ?_
  refine ww_si (pc := 212) g (pt rfl rfl hp0) rfl rfl d_Mo_middle_212 h fun s hs h => ?_
  refine ww_goto (pc := 213) (tgt := 322) g.1 d_Mo_middle_213 (by decide) ?_
  exact ww_vretH (pc := 322) g h hR d_Mo_middle_322

theorem j_Mo_middle_j240 {X : Cx} {q : PL} (g : Gd X y_Mo_middle b_Mo_middle 9 none 9 233 R_Mo) {o : (Unit) × S1} (hR : Rt X q o.2 none) (l1 : Int32) (l2 : Int32) (k0 : Int32) (k1 : Int32) (s : S1) (hp0 : 0 ≤ l1 ∧ l1 < 33) (ls : Array Slot) (hl : lv_has ls 9 [(1, .ref (q.1 28 l1)), (2, .int l2)]) (h : M_Mo_middle_j240 l1 l2 k0 k1 s = some o) : WW X q s 240 ls [.int k0, .int k1] := by
  unfold M_Mo_middle_j240 at h
  refine ww_icmp_ne (pc := 240) (tgt := 322) g.1 d_Mo_middle_240 (by decide) h (fun c h => ?_) (fun c h => ?_)
  · exact ww_vretH (pc := 322) g h hR d_Mo_middle_322
  · refine ww_aload_n (pc := 243) g.1 d_Mo_middle_243 rfl (lv_at hl 0 rfl) ?_
    refine ww_gR (pc := 244) g (k := 13) cl_Th (pt rfl rfl hp0) (by decide) (Or.inl kw_274) (f := 3597) (t := 32) rfl rfl rfl d_Mo_middle_244 ?_
    refine ww_iload_n (pc := 247) g.1 d_Mo_middle_247 rfl (lv_at hl 1 rfl) ?_
    refine ww_dup2_11 (pc := 248) g.1 d_Mo_middle_248 rfl rfl ?_
    refine ww_ai (pc := 249) g (pt rfl rfl hp0) rfl rfl d_Mo_middle_249 h fun v249 h => ?_
    refine ww_iconst (pc := 250) g.1 (v := 1) d_Mo_middle_250 (by decide) ?_
    refine ww_iadd (pc := 251) g.1 d_Mo_middle_251 ?_
    refine ww_si (pc := 252) g (pt rfl rfl hp0) rfl rfl d_Mo_middle_252 h fun s hs h => ?_
    refine ww_goto (pc := 253) (tgt := 322) g.1 d_Mo_middle_253 (by decide) ?_
    exact ww_vretH (pc := 322) g h hR d_Mo_middle_322

theorem j_Mo_middle_j281 {X : Cx} {q : PL} (g : Gd X y_Mo_middle b_Mo_middle 9 none 9 233 R_Mo) {o : (Unit) × S1} (hR : Rt X q o.2 none) (l1 : Int32) (l2 : Int32) (l6r : Nat) (l6 : Int32) (l7 : Int32) (l8 : Int32) (k0 : Int32) (k1 : Int32) (s : S1) (hp0 : 0 ≤ l1 ∧ l1 < 33) (hp1 : VOK l6r l6) (ls : Array Slot) (hl : lv_has ls 9 [(1, .ref (q.1 28 l1)), (2, .int l2), (6, .ref (q.1 l6r l6)), (7, .int l7), (8, .int l8)]) (h : M_Mo_middle_j281 l1 l2 l6r l6 l7 l8 k0 k1 s = some o) : WW X q s 281 ls [.int k0, .int k1] := by
  unfold M_Mo_middle_j281 at h
  refine ww_icmp_ne (pc := 281) (tgt := 298) g.1 d_Mo_middle_281 (by decide) h (fun c h => ?_) (fun c h => ?_)
  · refine ww_aload_n (pc := 298) g.1 d_Mo_middle_298 rfl (lv_at hl 0 rfl) ?_
    refine ww_gR (pc := 299) g (k := 13) cl_Th (pt rfl rfl hp0) (by decide) (Or.inl kw_274) (f := 3597) (t := 32) rfl rfl rfl d_Mo_middle_299 ?_
    refine ww_iload_n (pc := 302) g.1 d_Mo_middle_302 rfl (lv_at hl 1 rfl) ?_
    refine ww_dup2_11 (pc := 303) g.1 d_Mo_middle_303 rfl rfl ?_
    refine ww_ai (pc := 304) g (pt rfl rfl hp0) rfl rfl d_Mo_middle_304 h fun v304 h => ?_
    refine ww_iconst (pc := 305) g.1 (v := 1) d_Mo_middle_305 (by decide) ?_
    refine ww_iadd (pc := 306) g.1 d_Mo_middle_306 ?_
    refine ww_si (pc := 307) g (pt rfl rfl hp0) rfl rfl d_Mo_middle_307 h fun s hs h => ?_
    refine ww_goto (pc := 308) (tgt := 322) g.1 d_Mo_middle_308 (by decide) ?_
    exact ww_vretH (pc := 322) g h hR d_Mo_middle_322
  · refine ww_aload (pc := 284) g.1 d_Mo_middle_284 (lv_at hl 2 rfl) ?_
    refine ww_iload (pc := 286) g.1 d_Mo_middle_286 (lv_at hl 3 rfl) ?_
    refine ww_aload (pc := 288) g.1 d_Mo_middle_288 (lv_at hl 2 rfl) ?_
    refine ww_iload (pc := 290) g.1 d_Mo_middle_290 (lv_at hl 4 rfl) ?_
    obtain ⟨v292, s, hc292, h⟩ := oB_of h
    refine ww_callV (pc := 292) (rest := []) g cv_Va_set_ (Or.inl kw_195) (cl_Va hp1) (vok_p hp1).1 (ct_Va_set_ hp1 hp1 hc292) ⟨by decide, by decide⟩ rfl hl.1 (Nat.le_of_ble_eq_true rfl) d_Mo_middle_292 rfl ?_
    refine ww_st (st' := []) rfl ?_
    refine ww_goto (pc := 295) (tgt := 322) g.1 d_Mo_middle_295 (by decide) ?_
    exact ww_vretH (pc := 322) g h hR d_Mo_middle_322

theorem ct_Mo_middle {l : Launch} {P : PP} {q : PL} {s s' : S1} {l1 : Int32} {l2 : Int32} {l3 : Int32} {l4 : Int32} {l5 : Int32} {l6r : Nat} {l6 : Int32} {l7 : Int32} (hp0 : 0 ≤ l1 ∧ l1 < 33) (hp1 : VOK l6r l6) {r : Unit} (h : M_Mo_middle l1 l2 l3 l4 l5 l6r l6 l7 s = some (r, s')) : Ct l y_Mo_middle b_Mo_middle 9 none 9 233 P q s [.ref (q.1 0 0), .ref (q.1 28 l1), .int l2, .int l3, .int l4, .int l5, .ref (q.1 l6r l6), .int l7] none q s' := by
  refine ct_of (by decide) (Nat.le_of_ble_eq_true rfl) fun X ls eP el g hR hl => ?_
  subst eP
  have hR : Rt X q ((r, s') : Unit × S1).2 none := hR
  have hl : lv_has ls 9 [(0, .ref (q.1 0 0)), (1, .ref (q.1 28 l1)), (2, .int l2), (3, .int l3), (4, .int l4), (5, .int l5), (6, .ref (q.1 l6r l6)), (7, .int l7)] := hl
  generalize (r, s') = o at h hR
  unfold M_Mo_middle at h
  refine ww_aload_n (pc := 0) g.1 d_Mo_middle_0 rfl (lv_at hl 1 rfl) ?_
  refine ww_gR (pc := 1) g (k := 14) cl_Th (pt rfl rfl hp0) (by decide) (Or.inl kw_254) (f := 3598) (t := 33) rfl rfl rfl d_Mo_middle_1 ?_
  refine ww_iload_n (pc := 4) g.1 d_Mo_middle_4 rfl (lv_at hl 2 rfl) ?_
  refine ww_ai (pc := 5) g (pt rfl rfl hp0) rfl rfl d_Mo_middle_5 h fun v5 h => ?_
  refine ww_iload (pc := 6) g.1 d_Mo_middle_6 (lv_at hl 4 rfl) ?_
  obtain ⟨v8, s, hc8, h⟩ := oB_of h
  refine ww_callS (pc := 8) (rest := [.int v5]) g cs_Mo_b (Or.inl kw_54) (ct_Mo_b hc8) ⟨by decide, by decide⟩ rfl hl.1 (Nat.le_of_ble_eq_true rfl) d_Mo_middle_8 rfl ?_
  refine ww_st (st' := [.int v8, .int v5]) rfl ?_
  refine ww_iadd (pc := 11) g.1 d_Mo_middle_11 ?_
  refine ww_leti h fun l8_12 h => ?_
  refine ww_istore (pc := 12) (i := 8) g.1 (lv' := [(8, .int l8_12), (0, .ref (q.1 0 0)), (1, .ref (q.1 28 l1)), (2, .int l2), (3, .int l3), (4, .int l4), (5, .int l5), (6, .ref (q.1 l6r l6)), (7, .int l7)]) d_Mo_middle_12 hl (by decide) rfl fun ls hl => ?_
  refine ww_iload (pc := 14) g.1 d_Mo_middle_14 (lv_at hl 6 rfl) ?_
  by_cases c16_68 : l5 = 27
  · have h := oC_pos c16_68 h
    have c := c16_68
    refine ww_tableIn (pc := 16) (tgt := 68) g.1 d_Mo_middle_16 (by rw [c]; decide) (by rw [c]; decide) (by rw [c]; rfl) (by decide) ?_
    refine ww_aload (pc := 68) g.1 d_Mo_middle_68 (lv_at hl 7 rfl) ?_
    refine ww_iload (pc := 70) g.1 d_Mo_middle_70 (lv_at hl 8 rfl) ?_
    refine ww_aload (pc := 72) g.1 d_Mo_middle_72 (lv_at hl 7 rfl) ?_
    refine ww_gR (pc := 74) g (k := 0) (cl_Va hp1) (vok_p hp1).1 (by rw [(vok_f hp1).1.2.2]; decide) (Or.inl kw_90) (f := (128 * l6r + 0)) (t := l6r + 1) rfl (vok_f hp1).2.1.1 (vok_f hp1).2.1.2 d_Mo_middle_74 ?_
    refine ww_iload (pc := 77) g.1 d_Mo_middle_77 (lv_at hl 0 rfl) ?_
    refine ww_ab (pc := 79) g (vok_p hp1).2.1 (vok_f hp1).2.2.2.2.1 (vok_n hp1).1 d_Mo_middle_79 h fun v79 h => ?_
    obtain ⟨v80, s, hc80, h⟩ := oB_of h
    refine ww_callS (pc := 80) (rest := [.int l7, .ref (q.1 l6r l6)]) g cs_Mo_truth (Or.inl kw_550) (ct_Mo_truth hc80) ⟨by decide, by decide⟩ rfl hl.1 (Nat.le_of_ble_eq_true rfl) d_Mo_middle_80 rfl ?_
    refine ww_st (st' := [.int v80, .int l7, .ref (q.1 l6r l6)]) rfl ?_
    refine ww_if_eq (pc := 83) (tgt := 90) g.1 d_Mo_middle_83 (by decide) h (fun c h => ?_) (fun c h => ?_)
    · refine ww_iconst (pc := 90) g.1 (v := 2) d_Mo_middle_90 (by decide) ?_
      exact j_Mo_middle_j91 g hR 2 l7 l6r l6 s hp1 ls (lv_sub hl [] rfl) h
    · refine ww_iconst (pc := 86) g.1 (v := 1) d_Mo_middle_86 (by decide) ?_
      refine ww_goto (pc := 87) (tgt := 91) g.1 d_Mo_middle_87 (by decide) ?_
      exact j_Mo_middle_j91 g hR 1 l7 l6r l6 s hp1 ls (lv_sub hl [] rfl) h
  have h := oC_neg c16_68 h
  by_cases c16_98 : l5 = 28
  · have h := oC_pos c16_98 h
    have c := c16_98
    refine ww_tableIn (pc := 16) (tgt := 98) g.1 d_Mo_middle_16 (by rw [c]; decide) (by rw [c]; decide) (by rw [c]; rfl) (by decide) ?_
    refine ww_aload_n (pc := 98) g.1 d_Mo_middle_98 rfl (lv_at hl 1 rfl) ?_
    refine ww_iload (pc := 99) g.1 d_Mo_middle_99 (lv_at hl 5 rfl) ?_
    obtain ⟨v101, s, hc101, h⟩ := oB_of h
    refine ww_callS (pc := 101) (rest := [.ref (q.1 0 0)]) g cs_Mo_a (Or.inl kw_280) (ct_Mo_a hc101) ⟨by decide, by decide⟩ rfl hl.1 (Nat.le_of_ble_eq_true rfl) d_Mo_middle_101 rfl ?_
    refine ww_st (st' := [.int v101, .ref (q.1 0 0)]) rfl ?_
    refine ww_aload (pc := 104) g.1 d_Mo_middle_104 (lv_at hl 7 rfl) ?_
    refine ww_gR (pc := 106) g (k := 0) (cl_Va hp1) (vok_p hp1).1 (by rw [(vok_f hp1).1.2.2]; decide) (Or.inl kw_90) (f := (128 * l6r + 0)) (t := l6r + 1) rfl (vok_f hp1).2.1.1 (vok_f hp1).2.1.2 d_Mo_middle_106 ?_
    refine ww_iload (pc := 109) g.1 d_Mo_middle_109 (lv_at hl 0 rfl) ?_
    refine ww_ab (pc := 111) g (vok_p hp1).2.1 (vok_f hp1).2.2.2.2.1 (vok_n hp1).1 d_Mo_middle_111 h fun v111 h => ?_
    refine ww_aload (pc := 112) g.1 d_Mo_middle_112 (lv_at hl 7 rfl) ?_
    refine ww_gR (pc := 114) g (k := 1) (cl_Va hp1) (vok_p hp1).1 (by rw [(vok_f hp1).1.2.2]; decide) (Or.inl kw_93) (f := (128 * l6r + 1)) (t := l6r + 2) rfl (vok_f hp1).2.2.1.1 (vok_f hp1).2.2.1.2 d_Mo_middle_114 ?_
    refine ww_iload (pc := 117) g.1 d_Mo_middle_117 (lv_at hl 0 rfl) ?_
    refine ww_al (pc := 119) g (vok_p hp1).2.2 (vok_f hp1).2.2.2.2.2 (vok_n hp1).2 d_Mo_middle_119 h fun v119 h => ?_
    refine ww_aload (pc := 120) g.1 d_Mo_middle_120 (lv_at hl 7 rfl) ?_
    refine ww_iload (pc := 122) g.1 d_Mo_middle_122 (lv_at hl 8 rfl) ?_
    obtain ⟨v124, s, hc124, h⟩ := oB_of h
    refine ww_callV (pc := 124) (rest := []) g cv_Mo_length (Or.inl kw_551) cl_Mo (pz rfl (by decide)) (ct_Mo_length hp1 hc124) ⟨by decide, by decide⟩ rfl hl.1 (Nat.le_of_ble_eq_true rfl) d_Mo_middle_124 rfl ?_
    refine ww_st (st' := []) rfl ?_
    refine ww_goto (pc := 127) (tgt := 322) g.1 d_Mo_middle_127 (by decide) ?_
    exact ww_vretH (pc := 322) g h hR d_Mo_middle_322
  have h := oC_neg c16_98 h
  by_cases c16_130 : l5 = 29
  · have h := oC_pos c16_130 h
    have c := c16_130
    refine ww_tableIn (pc := 16) (tgt := 130) g.1 d_Mo_middle_16 (by rw [c]; decide) (by rw [c]; decide) (by rw [c]; rfl) (by decide) ?_
    refine ww_aload_n (pc := 130) g.1 d_Mo_middle_130 rfl (lv_at hl 1 rfl) ?_
    refine ww_aload_n (pc := 131) g.1 d_Mo_middle_131 rfl (lv_at hl 2 rfl) ?_
    refine ww_iload_n (pc := 132) g.1 d_Mo_middle_132 rfl (lv_at hl 3 rfl) ?_
    refine ww_iload (pc := 133) g.1 d_Mo_middle_133 (lv_at hl 5 rfl) ?_
    obtain ⟨v135, s, hc135, h⟩ := oB_of h
    refine ww_callS (pc := 135) (rest := [.int l2, .ref (q.1 28 l1), .ref (q.1 0 0)]) g cs_Mo_c (Or.inl kw_311) (ct_Mo_c hc135) ⟨by decide, by decide⟩ rfl hl.1 (Nat.le_of_ble_eq_true rfl) d_Mo_middle_135 rfl ?_
    refine ww_st (st' := [.int v135, .int l2, .ref (q.1 28 l1), .ref (q.1 0 0)]) rfl ?_
    refine ww_iconst (pc := 138) g.1 (v := 1) d_Mo_middle_138 (by decide) ?_
    refine ww_isub (pc := 139) g.1 d_Mo_middle_139 ?_
    refine ww_aload (pc := 140) g.1 d_Mo_middle_140 (lv_at hl 7 rfl) ?_
    refine ww_gR (pc := 142) g (k := 0) (cl_Va hp1) (vok_p hp1).1 (by rw [(vok_f hp1).1.2.2]; decide) (Or.inl kw_90) (f := (128 * l6r + 0)) (t := l6r + 1) rfl (vok_f hp1).2.1.1 (vok_f hp1).2.1.2 d_Mo_middle_142 ?_
    refine ww_aload_n (pc := 145) g.1 d_Mo_middle_145 rfl (lv_at hl 2 rfl) ?_
    refine ww_gR (pc := 146) g (k := 14) cl_Th (pt rfl rfl hp0) (by decide) (Or.inl kw_254) (f := 3598) (t := 33) rfl rfl rfl d_Mo_middle_146 ?_
    refine ww_iload_n (pc := 149) g.1 d_Mo_middle_149 rfl (lv_at hl 3 rfl) ?_
    refine ww_ai (pc := 150) g (pt rfl rfl hp0) rfl rfl d_Mo_middle_150 h fun v150 h => ?_
    refine ww_iload (pc := 151) g.1 d_Mo_middle_151 (lv_at hl 5 rfl) ?_
    obtain ⟨v153, s, hc153, h⟩ := oB_of h
    refine ww_callS (pc := 153) (rest := [.int v150, .ref (q.1 (l6r + 1) l6), .int (v135 - 1), .int l2, .ref (q.1 28 l1), .ref (q.1 0 0)]) g cs_Mo_c (Or.inl kw_311) (ct_Mo_c hc153) ⟨by decide, by decide⟩ rfl hl.1 (Nat.le_of_ble_eq_true rfl) d_Mo_middle_153 rfl ?_
    refine ww_st (st' := [.int v153, .int v150, .ref (q.1 (l6r + 1) l6), .int (v135 - 1), .int l2, .ref (q.1 28 l1), .ref (q.1 0 0)]) rfl ?_
    refine ww_iadd (pc := 156) g.1 d_Mo_middle_156 ?_
    refine ww_ab (pc := 157) g (vok_p hp1).2.1 (vok_f hp1).2.2.2.2.1 (vok_n hp1).1 d_Mo_middle_157 h fun v157 h => ?_
    refine ww_aload (pc := 158) g.1 d_Mo_middle_158 (lv_at hl 7 rfl) ?_
    refine ww_gR (pc := 160) g (k := 1) (cl_Va hp1) (vok_p hp1).1 (by rw [(vok_f hp1).1.2.2]; decide) (Or.inl kw_93) (f := (128 * l6r + 1)) (t := l6r + 2) rfl (vok_f hp1).2.2.1.1 (vok_f hp1).2.2.1.2 d_Mo_middle_160 ?_
    refine ww_aload_n (pc := 163) g.1 d_Mo_middle_163 rfl (lv_at hl 2 rfl) ?_
    refine ww_gR (pc := 164) g (k := 14) cl_Th (pt rfl rfl hp0) (by decide) (Or.inl kw_254) (f := 3598) (t := 33) rfl rfl rfl d_Mo_middle_164 ?_
    refine ww_iload_n (pc := 167) g.1 d_Mo_middle_167 rfl (lv_at hl 3 rfl) ?_
    refine ww_ai (pc := 168) g (pt rfl rfl hp0) rfl rfl d_Mo_middle_168 h fun v168 h => ?_
    refine ww_iload (pc := 169) g.1 d_Mo_middle_169 (lv_at hl 5 rfl) ?_
    obtain ⟨v171, s, hc171, h⟩ := oB_of h
    refine ww_callS (pc := 171) (rest := [.int v168, .ref (q.1 (l6r + 2) l6), .int v157, .int (v135 - 1), .int l2, .ref (q.1 28 l1), .ref (q.1 0 0)]) g cs_Mo_c (Or.inl kw_311) (ct_Mo_c hc171) ⟨by decide, by decide⟩ rfl hl.1 (Nat.le_of_ble_eq_true rfl) d_Mo_middle_171 rfl ?_
    refine ww_st (st' := [.int v171, .int v168, .ref (q.1 (l6r + 2) l6), .int v157, .int (v135 - 1), .int l2, .ref (q.1 28 l1), .ref (q.1 0 0)]) rfl ?_
    refine ww_iadd (pc := 174) g.1 d_Mo_middle_174 ?_
    refine ww_al (pc := 175) g (vok_p hp1).2.2 (vok_f hp1).2.2.2.2.2 (vok_n hp1).2 d_Mo_middle_175 h fun v175 h => ?_
    obtain ⟨v176, s, hc176, h⟩ := oB_of h
    refine ww_callV (pc := 176) (rest := []) g cv_Mo_join (Or.inl kw_552) cl_Mo (pz rfl (by decide)) (ct_Mo_join hp0 hc176) ⟨by decide, by decide⟩ rfl hl.1 (Nat.le_of_ble_eq_true rfl) d_Mo_middle_176 rfl ?_
    refine ww_st (st' := []) rfl ?_
    refine ww_goto (pc := 179) (tgt := 322) g.1 d_Mo_middle_179 (by decide) ?_
    exact ww_vretH (pc := 322) g h hR d_Mo_middle_322
  have h := oC_neg c16_130 h
  by_cases c16_182 : l5 = 30
  · have h := oC_pos c16_182 h
    have c := c16_182
    refine ww_tableIn (pc := 16) (tgt := 182) g.1 d_Mo_middle_16 (by rw [c]; decide) (by rw [c]; decide) (by rw [c]; rfl) (by decide) ?_
    refine ww_iload (pc := 182) g.1 d_Mo_middle_182 (lv_at hl 5 rfl) ?_
    obtain ⟨v184, s, hc184, h⟩ := oB_of h
    refine ww_callS (pc := 184) (rest := []) g cs_Mo_a (Or.inl kw_280) (ct_Mo_a hc184) ⟨by decide, by decide⟩ rfl hl.1 (Nat.le_of_ble_eq_true rfl) d_Mo_middle_184 rfl ?_
    refine ww_st (st' := [.int v184]) rfl ?_
    refine ww_if_eq (pc := 187) (tgt := 199) g.1 d_Mo_middle_187 (by decide) h (fun c h => ?_) (fun c h => ?_)
    · exact j_Mo_middle_j199 g hR l1 l2 l4 s hp0 ls (lv_sub hl [2, 3, 5] rfl) h
    · refine ww_aload_n (pc := 190) g.1 d_Mo_middle_190 rfl (lv_at hl 1 rfl) ?_
      refine ww_aload_n (pc := 191) g.1 d_Mo_middle_191 rfl (lv_at hl 2 rfl) ?_
      refine ww_iload (pc := 192) g.1 d_Mo_middle_192 (lv_at hl 8 rfl) ?_
      refine ww_iconst (pc := 194) g.1 (v := 1) d_Mo_middle_194 (by decide) ?_
      refine ww_isub (pc := 195) g.1 d_Mo_middle_195 ?_
      obtain ⟨v196, s, hc196, h⟩ := oB_of h
      refine ww_callV (pc := 196) (rest := []) g cv_Mo_close (Or.inl kw_374) cl_Mo (pz rfl (by decide)) (ct_Mo_close hp0 hc196) ⟨by decide, by decide⟩ rfl hl.1 (Nat.le_of_ble_eq_true rfl) d_Mo_middle_196 rfl ?_
      refine ww_st (st' := []) rfl ?_
      exact j_Mo_middle_j199 g hR l1 l2 l4 s hp0 ls (lv_sub hl [2, 3, 5] rfl) h
  have h := oC_neg c16_182 h
  by_cases c16_216 : l5 = 34
  · have h := oC_pos c16_216 h
    have c := c16_216
    refine ww_tableIn (pc := 16) (tgt := 216) g.1 d_Mo_middle_16 (by rw [c]; decide) (by rw [c]; decide) (by rw [c]; rfl) (by decide) ?_
    refine ww_aload (pc := 216) g.1 d_Mo_middle_216 (lv_at hl 7 rfl) ?_
    refine ww_gR (pc := 218) g (k := 0) (cl_Va hp1) (vok_p hp1).1 (by rw [(vok_f hp1).1.2.2]; decide) (Or.inl kw_90) (f := (128 * l6r + 0)) (t := l6r + 1) rfl (vok_f hp1).2.1.1 (vok_f hp1).2.1.2 d_Mo_middle_218 ?_
    refine ww_iload (pc := 221) g.1 d_Mo_middle_221 (lv_at hl 8 rfl) ?_
    refine ww_ab (pc := 223) g (vok_p hp1).2.1 (vok_f hp1).2.2.2.2.1 (vok_n hp1).1 d_Mo_middle_223 h fun v223 h => ?_
    obtain ⟨v224, s, hc224, h⟩ := oB_of h
    refine ww_callS (pc := 224) (rest := []) g cs_Mo_truth (Or.inl kw_550) (ct_Mo_truth hc224) ⟨by decide, by decide⟩ rfl hl.1 (Nat.le_of_ble_eq_true rfl) d_Mo_middle_224 rfl ?_
    refine ww_st (st' := [.int v224]) rfl ?_
    refine ww_iload (pc := 227) g.1 d_Mo_middle_227 (lv_at hl 5 rfl) ?_
    obtain ⟨v229, s, hc229, h⟩ := oB_of h
    refine ww_callS (pc := 229) (rest := [.int v224]) g cs_Mo_c (Or.inl kw_311) (ct_Mo_c hc229) ⟨by decide, by decide⟩ rfl hl.1 (Nat.le_of_ble_eq_true rfl) d_Mo_middle_229 rfl ?_
    refine ww_st (st' := [.int v229, .int v224]) rfl ?_
    refine ww_if_ne (pc := 232) (tgt := 239) g.1 d_Mo_middle_232 (by decide) h (fun c h => ?_) (fun c h => ?_)
    · refine ww_iconst (pc := 239) g.1 (v := 0) d_Mo_middle_239 (by decide) ?_
      exact j_Mo_middle_j240 g hR l1 l2 0 v224 s hp0 ls (lv_sub hl [2, 3] rfl) h
    · refine ww_iconst (pc := 235) g.1 (v := 1) d_Mo_middle_235 (by decide) ?_
      refine ww_goto (pc := 236) (tgt := 240) g.1 d_Mo_middle_236 (by decide) ?_
      exact j_Mo_middle_j240 g hR l1 l2 1 v224 s hp0 ls (lv_sub hl [2, 3] rfl) h
  have h := oC_neg c16_216 h
  by_cases c16_256 : l5 = 35
  · have h := oC_pos c16_256 h
    have c := c16_256
    refine ww_tableIn (pc := 16) (tgt := 256) g.1 d_Mo_middle_16 (by rw [c]; decide) (by rw [c]; decide) (by rw [c]; rfl) (by decide) ?_
    refine ww_aload (pc := 256) g.1 d_Mo_middle_256 (lv_at hl 7 rfl) ?_
    refine ww_gR (pc := 258) g (k := 0) (cl_Va hp1) (vok_p hp1).1 (by rw [(vok_f hp1).1.2.2]; decide) (Or.inl kw_90) (f := (128 * l6r + 0)) (t := l6r + 1) rfl (vok_f hp1).2.1.1 (vok_f hp1).2.1.2 d_Mo_middle_258 ?_
    refine ww_iload (pc := 261) g.1 d_Mo_middle_261 (lv_at hl 0 rfl) ?_
    refine ww_ab (pc := 263) g (vok_p hp1).2.1 (vok_f hp1).2.2.2.2.1 (vok_n hp1).1 d_Mo_middle_263 h fun v263 h => ?_
    obtain ⟨v264, s, hc264, h⟩ := oB_of h
    refine ww_callS (pc := 264) (rest := []) g cs_Mo_truth (Or.inl kw_550) (ct_Mo_truth hc264) ⟨by decide, by decide⟩ rfl hl.1 (Nat.le_of_ble_eq_true rfl) d_Mo_middle_264 rfl ?_
    refine ww_st (st' := [.int v264]) rfl ?_
    refine ww_iload (pc := 267) g.1 d_Mo_middle_267 (lv_at hl 5 rfl) ?_
    obtain ⟨v269, s, hc269, h⟩ := oB_of h
    refine ww_callS (pc := 269) (rest := [.int v264]) g cs_Mo_c (Or.inl kw_311) (ct_Mo_c hc269) ⟨by decide, by decide⟩ rfl hl.1 (Nat.le_of_ble_eq_true rfl) d_Mo_middle_269 rfl ?_
    refine ww_st (st' := [.int v269, .int v264]) rfl ?_
    refine ww_iconst (pc := 272) g.1 (v := 1) d_Mo_middle_272 (by decide) ?_
    refine ww_icmp_ne (pc := 273) (tgt := 280) g.1 d_Mo_middle_273 (by decide) h (fun c h => ?_) (fun c h => ?_)
    · refine ww_iconst (pc := 280) g.1 (v := 0) d_Mo_middle_280 (by decide) ?_
      exact j_Mo_middle_j281 g hR l1 l2 l6r l6 l7 l8_12 0 v264 s hp0 hp1 ls (lv_sub hl [2, 3, 7, 8, 0] rfl) h
    · refine ww_iconst (pc := 276) g.1 (v := 1) d_Mo_middle_276 (by decide) ?_
      refine ww_goto (pc := 277) (tgt := 281) g.1 d_Mo_middle_277 (by decide) ?_
      exact j_Mo_middle_j281 g hR l1 l2 l6r l6 l7 l8_12 1 v264 s hp0 hp1 ls (lv_sub hl [2, 3, 7, 8, 0] rfl) h
  have h := oC_neg c16_256 h
  have n_27 : ¬ l5.toInt = 27 := lv_neT (fun e => c16_68 e) rfl
  have n_28 : ¬ l5.toInt = 28 := lv_neT (fun e => c16_98 e) rfl
  have n_29 : ¬ l5.toInt = 29 := lv_neT (fun e => c16_130 e) rfl
  have n_30 : ¬ l5.toInt = 30 := lv_neT (fun e => c16_182 e) rfl
  have n_34 : ¬ l5.toInt = 34 := lv_neT (fun e => c16_216 e) rfl
  have n_35 : ¬ l5.toInt = 35 := lv_neT (fun e => c16_256 e) rfl
  by_cases hr : l5.toInt < 27 ∨ 35 < l5.toInt
  · refine ww_tableOut (pc := 16) (tgt := 311) g.1 d_Mo_middle_16 hr (by decide) ?_
    refine ww_aload_n (pc := 311) g.1 d_Mo_middle_311 rfl (lv_at hl 1 rfl) ?_
    refine ww_aload_n (pc := 312) g.1 d_Mo_middle_312 rfl (lv_at hl 2 rfl) ?_
    refine ww_iload_n (pc := 313) g.1 d_Mo_middle_313 rfl (lv_at hl 3 rfl) ?_
    refine ww_iload_n (pc := 314) g.1 d_Mo_middle_314 rfl (lv_at hl 4 rfl) ?_
    refine ww_iload (pc := 315) g.1 d_Mo_middle_315 (lv_at hl 5 rfl) ?_
    refine ww_iload (pc := 317) g.1 d_Mo_middle_317 (lv_at hl 6 rfl) ?_
    obtain ⟨v319, s, hc319, h⟩ := oB_of h
    refine ww_callV (pc := 319) (rest := []) g cv_Mo_compare (Or.inl kw_553) cl_Mo (pz rfl (by decide)) (ct_Mo_compare hp0 hc319) ⟨by decide, by decide⟩ rfl hl.1 (Nat.le_of_ble_eq_true rfl) d_Mo_middle_319 rfl ?_
    refine ww_st (st' := []) rfl ?_
    exact ww_vretH (pc := 322) g h hR d_Mo_middle_322
  have hh : l5.toInt = 31 ∨ l5.toInt = 32 ∨ l5.toInt = 33 := by omega
  rcases hh with c | c | c
  · refine ww_tableIn (pc := 16) (tgt := 311) g.1 d_Mo_middle_16 (by rw [c]; decide) (by rw [c]; decide) (by rw [c]; rfl) (by decide) ?_
    refine ww_aload_n (pc := 311) g.1 d_Mo_middle_311 rfl (lv_at hl 1 rfl) ?_
    refine ww_aload_n (pc := 312) g.1 d_Mo_middle_312 rfl (lv_at hl 2 rfl) ?_
    refine ww_iload_n (pc := 313) g.1 d_Mo_middle_313 rfl (lv_at hl 3 rfl) ?_
    refine ww_iload_n (pc := 314) g.1 d_Mo_middle_314 rfl (lv_at hl 4 rfl) ?_
    refine ww_iload (pc := 315) g.1 d_Mo_middle_315 (lv_at hl 5 rfl) ?_
    refine ww_iload (pc := 317) g.1 d_Mo_middle_317 (lv_at hl 6 rfl) ?_
    obtain ⟨v319, s, hc319, h⟩ := oB_of h
    refine ww_callV (pc := 319) (rest := []) g cv_Mo_compare (Or.inl kw_553) cl_Mo (pz rfl (by decide)) (ct_Mo_compare hp0 hc319) ⟨by decide, by decide⟩ rfl hl.1 (Nat.le_of_ble_eq_true rfl) d_Mo_middle_319 rfl ?_
    refine ww_st (st' := []) rfl ?_
    exact ww_vretH (pc := 322) g h hR d_Mo_middle_322
  · refine ww_tableIn (pc := 16) (tgt := 311) g.1 d_Mo_middle_16 (by rw [c]; decide) (by rw [c]; decide) (by rw [c]; rfl) (by decide) ?_
    refine ww_aload_n (pc := 311) g.1 d_Mo_middle_311 rfl (lv_at hl 1 rfl) ?_
    refine ww_aload_n (pc := 312) g.1 d_Mo_middle_312 rfl (lv_at hl 2 rfl) ?_
    refine ww_iload_n (pc := 313) g.1 d_Mo_middle_313 rfl (lv_at hl 3 rfl) ?_
    refine ww_iload_n (pc := 314) g.1 d_Mo_middle_314 rfl (lv_at hl 4 rfl) ?_
    refine ww_iload (pc := 315) g.1 d_Mo_middle_315 (lv_at hl 5 rfl) ?_
    refine ww_iload (pc := 317) g.1 d_Mo_middle_317 (lv_at hl 6 rfl) ?_
    obtain ⟨v319, s, hc319, h⟩ := oB_of h
    refine ww_callV (pc := 319) (rest := []) g cv_Mo_compare (Or.inl kw_553) cl_Mo (pz rfl (by decide)) (ct_Mo_compare hp0 hc319) ⟨by decide, by decide⟩ rfl hl.1 (Nat.le_of_ble_eq_true rfl) d_Mo_middle_319 rfl ?_
    refine ww_st (st' := []) rfl ?_
    exact ww_vretH (pc := 322) g h hR d_Mo_middle_322
  · refine ww_tableIn (pc := 16) (tgt := 311) g.1 d_Mo_middle_16 (by rw [c]; decide) (by rw [c]; decide) (by rw [c]; rfl) (by decide) ?_
    refine ww_aload_n (pc := 311) g.1 d_Mo_middle_311 rfl (lv_at hl 1 rfl) ?_
    refine ww_aload_n (pc := 312) g.1 d_Mo_middle_312 rfl (lv_at hl 2 rfl) ?_
    refine ww_iload_n (pc := 313) g.1 d_Mo_middle_313 rfl (lv_at hl 3 rfl) ?_
    refine ww_iload_n (pc := 314) g.1 d_Mo_middle_314 rfl (lv_at hl 4 rfl) ?_
    refine ww_iload (pc := 315) g.1 d_Mo_middle_315 (lv_at hl 5 rfl) ?_
    refine ww_iload (pc := 317) g.1 d_Mo_middle_317 (lv_at hl 6 rfl) ?_
    obtain ⟨v319, s, hc319, h⟩ := oB_of h
    refine ww_callV (pc := 319) (rest := []) g cv_Mo_compare (Or.inl kw_553) cl_Mo (pz rfl (by decide)) (ct_Mo_compare hp0 hc319) ⟨by decide, by decide⟩ rfl hl.1 (Nat.le_of_ble_eq_true rfl) d_Mo_middle_319 rfl ?_
    refine ww_st (st' := []) rfl ?_
    exact ww_vretH (pc := 322) g h hR d_Mo_middle_322

abbrev b_Mo_begin : ByteArray := prog_14_method_60_code
def y_Mo_begin : MethodName := ⟨R_Mo, "begin", "()Z"⟩
abbrev w_Mo_begin : List Cond := .code y_Mo_begin b_Mo_begin 4 (some .boolean) :: wA
set_option maxRecDepth 20000 in
theorem k_Mo_begin : Cond.code y_Mo_begin b_Mo_begin 4 (some .boolean) ∈ wA := kinm (show _ ∈ tables_1 from (List.mem_append_right _ (List.mem_append_right _ (List.mem_append_right _ (List.mem_append_right _ (List.mem_append_right _ (List.mem_append_right _ (List.mem_append_right _ (List.mem_append_right _ (List.mem_append_right _ (List.mem_append_right _ (List.mem_append_left _ (List.mem_of_getElem? (l := tables_1_11) (i := 227) rfl))))))))))))) rfl
theorem d_Mo_begin_0 : decode b_Mo_begin 0 = .ok (.aload_n 0, 1) := by decide +kernel
theorem d_Mo_begin_1 : decode b_Mo_begin 1 = .ok (.aload_n 0, 1) := by decide +kernel
theorem d_Mo_begin_2 : decode b_Mo_begin 2 = .ok (.invokevirtual 675, 3) := by decide +kernel
theorem d_Mo_begin_5 : decode b_Mo_begin 5 = .ok (.putfield 250, 3) := by decide +kernel
theorem d_Mo_begin_8 : decode b_Mo_begin 8 = .ok (.aload_n 0, 1) := by decide +kernel
theorem d_Mo_begin_9 : decode b_Mo_begin 9 = .ok (.getfield 250, 3) := by decide +kernel
theorem d_Mo_begin_12 : decode b_Mo_begin 12 = .ok (.ifCond .lt 63, 3) := by decide +kernel
theorem d_Mo_begin_15 : decode b_Mo_begin 15 = .ok (.aload_n 0, 1) := by decide +kernel
theorem d_Mo_begin_16 : decode b_Mo_begin 16 = .ok (.aload_n 0, 1) := by decide +kernel
theorem d_Mo_begin_17 : decode b_Mo_begin 17 = .ok (.getfield 326, 3) := by decide +kernel
theorem d_Mo_begin_20 : decode b_Mo_begin 20 = .ok (.aload_n 0, 1) := by decide +kernel
theorem d_Mo_begin_21 : decode b_Mo_begin 21 = .ok (.getfield 412, 3) := by decide +kernel
theorem d_Mo_begin_24 : decode b_Mo_begin 24 = .ok (.invokevirtual 677, 3) := by decide +kernel
theorem d_Mo_begin_27 : decode b_Mo_begin 27 = .ok (.ifCond .eq 48, 3) := by decide +kernel
theorem d_Mo_begin_30 : decode b_Mo_begin 30 = .ok (.aload_n 0, 1) := by decide +kernel
theorem d_Mo_begin_31 : decode b_Mo_begin 31 = .ok (.aload_n 0, 1) := by decide +kernel
theorem d_Mo_begin_32 : decode b_Mo_begin 32 = .ok (.getfield 374, 3) := by decide +kernel
theorem d_Mo_begin_35 : decode b_Mo_begin 35 = .ok (.aload_n 0, 1) := by decide +kernel
theorem d_Mo_begin_36 : decode b_Mo_begin 36 = .ok (.getfield 403, 3) := by decide +kernel
theorem d_Mo_begin_39 : decode b_Mo_begin 39 = .ok (.invokevirtual 677, 3) := by decide +kernel
theorem d_Mo_begin_42 : decode b_Mo_begin 42 = .ok (.ifCond .eq 33, 3) := by decide +kernel
theorem d_Mo_begin_45 : decode b_Mo_begin 45 = .ok (.aload_n 0, 1) := by decide +kernel
theorem d_Mo_begin_46 : decode b_Mo_begin 46 = .ok (.aload_n 0, 1) := by decide +kernel
theorem d_Mo_begin_47 : decode b_Mo_begin 47 = .ok (.getfield 391, 3) := by decide +kernel
theorem d_Mo_begin_50 : decode b_Mo_begin 50 = .ok (.aload_n 0, 1) := by decide +kernel
theorem d_Mo_begin_51 : decode b_Mo_begin 51 = .ok (.getfield 406, 3) := by decide +kernel
theorem d_Mo_begin_54 : decode b_Mo_begin 54 = .ok (.invokevirtual 677, 3) := by decide +kernel
theorem d_Mo_begin_57 : decode b_Mo_begin 57 = .ok (.ifCond .eq 18, 3) := by decide +kernel
theorem d_Mo_begin_60 : decode b_Mo_begin 60 = .ok (.aload_n 0, 1) := by decide +kernel
theorem d_Mo_begin_61 : decode b_Mo_begin 61 = .ok (.aload_n 0, 1) := by decide +kernel
theorem d_Mo_begin_62 : decode b_Mo_begin 62 = .ok (.getfield 400, 3) := by decide +kernel
theorem d_Mo_begin_65 : decode b_Mo_begin 65 = .ok (.aload_n 0, 1) := by decide +kernel
theorem d_Mo_begin_66 : decode b_Mo_begin 66 = .ok (.getfield 409, 3) := by decide +kernel
theorem d_Mo_begin_69 : decode b_Mo_begin 69 = .ok (.invokevirtual 677, 3) := by decide +kernel
theorem d_Mo_begin_72 : decode b_Mo_begin 72 = .ok (.ifCond .ne 5, 3) := by decide +kernel
theorem d_Mo_begin_75 : decode b_Mo_begin 75 = .ok (.iconst 0, 1) := by decide +kernel
theorem d_Mo_begin_76 : decode b_Mo_begin 76 = .ok (.ireturn, 1) := by decide +kernel
theorem d_Mo_begin_77 : decode b_Mo_begin 77 = .ok (.aload_n 0, 1) := by decide +kernel
theorem d_Mo_begin_78 : decode b_Mo_begin 78 = .ok (.invokevirtual 681, 3) := by decide +kernel
theorem d_Mo_begin_81 : decode b_Mo_begin 81 = .ok (.istore_n 1, 1) := by decide +kernel
theorem d_Mo_begin_82 : decode b_Mo_begin 82 = .ok (.iload_n 1, 1) := by decide +kernel
theorem d_Mo_begin_83 : decode b_Mo_begin 83 = .ok (.ifCond .ge 5, 3) := by decide +kernel
theorem d_Mo_begin_86 : decode b_Mo_begin 86 = .ok (.iconst 0, 1) := by decide +kernel
theorem d_Mo_begin_87 : decode b_Mo_begin 87 = .ok (.ireturn, 1) := by decide +kernel
theorem d_Mo_begin_88 : decode b_Mo_begin 88 = .ok (.aload_n 0, 1) := by decide +kernel
theorem d_Mo_begin_89 : decode b_Mo_begin 89 = .ok (.getfield 212, 3) := by decide +kernel
theorem d_Mo_begin_92 : decode b_Mo_begin 92 = .ok (.iload_n 1, 1) := by decide +kernel
theorem d_Mo_begin_93 : decode b_Mo_begin 93 = .ok (.iconst 5, 1) := by decide +kernel
theorem d_Mo_begin_94 : decode b_Mo_begin 94 = .ok (.aload_n 0, 1) := by decide +kernel
theorem d_Mo_begin_95 : decode b_Mo_begin 95 = .ok (.getfield 250, 3) := by decide +kernel
theorem d_Mo_begin_98 : decode b_Mo_begin 98 = .ok (.i2l, 1) := by decide +kernel
theorem d_Mo_begin_99 : decode b_Mo_begin 99 = .ok (.invokevirtual 470, 3) := by decide +kernel
theorem d_Mo_begin_102 : decode b_Mo_begin 102 = .ok (.iconst 0, 1) := by decide +kernel
theorem d_Mo_begin_103 : decode b_Mo_begin 103 = .ok (.istore_n 2, 1) := by decide +kernel
theorem d_Mo_begin_104 : decode b_Mo_begin 104 = .ok (.iload_n 2, 1) := by decide +kernel
theorem d_Mo_begin_105 : decode b_Mo_begin 105 = .ok (.aload_n 0, 1) := by decide +kernel
theorem d_Mo_begin_106 : decode b_Mo_begin 106 = .ok (.getfield 95, 3) := by decide +kernel
theorem d_Mo_begin_109 : decode b_Mo_begin 109 = .ok (.if_icmp .ge 74, 3) := by decide +kernel
theorem d_Mo_begin_112 : decode b_Mo_begin 112 = .ok (.aload_n 0, 1) := by decide +kernel
theorem d_Mo_begin_113 : decode b_Mo_begin 113 = .ok (.getfield 82, 3) := by decide +kernel
theorem d_Mo_begin_116 : decode b_Mo_begin 116 = .ok (.getfield 585, 3) := by decide +kernel
theorem d_Mo_begin_119 : decode b_Mo_begin 119 = .ok (.iload_n 2, 1) := by decide +kernel
theorem d_Mo_begin_120 : decode b_Mo_begin 120 = .ok (.baload, 1) := by decide +kernel
theorem d_Mo_begin_121 : decode b_Mo_begin 121 = .ok (.iconst 4, 1) := by decide +kernel
theorem d_Mo_begin_122 : decode b_Mo_begin 122 = .ok (.if_icmp .eq 6, 3) := by decide +kernel
theorem d_Mo_begin_125 : decode b_Mo_begin 125 = .ok (.goto 52, 3) := by decide +kernel
theorem d_Mo_begin_128 : decode b_Mo_begin 128 = .ok (.aload_n 0, 1) := by decide +kernel
theorem d_Mo_begin_129 : decode b_Mo_begin 129 = .ok (.aload_n 0, 1) := by decide +kernel
theorem d_Mo_begin_130 : decode b_Mo_begin 130 = .ok (.getfield 8, 3) := by decide +kernel
theorem d_Mo_begin_133 : decode b_Mo_begin 133 = .ok (.aload_n 0, 1) := by decide +kernel
theorem d_Mo_begin_134 : decode b_Mo_begin 134 = .ok (.getfield 86, 3) := by decide +kernel
theorem d_Mo_begin_137 : decode b_Mo_begin 137 = .ok (.iload_n 2, 1) := by decide +kernel
theorem d_Mo_begin_138 : decode b_Mo_begin 138 = .ok (.iaload, 1) := by decide +kernel
theorem d_Mo_begin_139 : decode b_Mo_begin 139 = .ok (.aload_n 0, 1) := by decide +kernel
theorem d_Mo_begin_140 : decode b_Mo_begin 140 = .ok (.getfield 82, 3) := by decide +kernel
theorem d_Mo_begin_143 : decode b_Mo_begin 143 = .ok (.getfield 588, 3) := by decide +kernel
theorem d_Mo_begin_146 : decode b_Mo_begin 146 = .ok (.iload_n 2, 1) := by decide +kernel
theorem d_Mo_begin_147 : decode b_Mo_begin 147 = .ok (.laload, 1) := by decide +kernel
theorem d_Mo_begin_148 : decode b_Mo_begin 148 = .ok (.l2i, 1) := by decide +kernel
theorem d_Mo_begin_149 : decode b_Mo_begin 149 = .ok (.invokevirtual 655, 3) := by decide +kernel
theorem d_Mo_begin_152 : decode b_Mo_begin 152 = .ok (.istore_n 3, 1) := by decide +kernel
theorem d_Mo_begin_153 : decode b_Mo_begin 153 = .ok (.iload_n 3, 1) := by decide +kernel
theorem d_Mo_begin_154 : decode b_Mo_begin 154 = .ok (.ifCond .ge 5, 3) := by decide +kernel
theorem d_Mo_begin_157 : decode b_Mo_begin 157 = .ok (.iconst 0, 1) := by decide +kernel
theorem d_Mo_begin_158 : decode b_Mo_begin 158 = .ok (.ireturn, 1) := by decide +kernel
theorem d_Mo_begin_159 : decode b_Mo_begin 159 = .ok (.aload_n 0, 1) := by decide +kernel
theorem d_Mo_begin_160 : decode b_Mo_begin 160 = .ok (.getfield 162, 3) := by decide +kernel
theorem d_Mo_begin_163 : decode b_Mo_begin 163 = .ok (.iload_n 3, 1) := by decide +kernel
theorem d_Mo_begin_164 : decode b_Mo_begin 164 = .ok (.iconst 1, 1) := by decide +kernel
theorem d_Mo_begin_165 : decode b_Mo_begin 165 = .ok (.bastore, 1) := by decide +kernel
theorem d_Mo_begin_166 : decode b_Mo_begin 166 = .ok (.aload_n 0, 1) := by decide +kernel
theorem d_Mo_begin_167 : decode b_Mo_begin 167 = .ok (.getfield 82, 3) := by decide +kernel
theorem d_Mo_begin_170 : decode b_Mo_begin 170 = .ok (.getfield 588, 3) := by decide +kernel
theorem d_Mo_begin_173 : decode b_Mo_begin 173 = .ok (.iload_n 2, 1) := by decide +kernel
theorem d_Mo_begin_174 : decode b_Mo_begin 174 = .ok (.iload_n 3, 1) := by decide +kernel
theorem d_Mo_begin_175 : decode b_Mo_begin 175 = .ok (.i2l, 1) := by decide +kernel
theorem d_Mo_begin_176 : decode b_Mo_begin 176 = .ok (.lastore, 1) := by decide +kernel
theorem d_Mo_begin_177 : decode b_Mo_begin 177 = .ok (.iinc 2 1, 3) := by decide +kernel
theorem d_Mo_begin_180 : decode b_Mo_begin 180 = .ok (.goto (-76), 3) := by decide +kernel
theorem d_Mo_begin_183 : decode b_Mo_begin 183 = .ok (.iconst 0, 1) := by decide +kernel
theorem d_Mo_begin_184 : decode b_Mo_begin 184 = .ok (.istore_n 2, 1) := by decide +kernel
theorem d_Mo_begin_185 : decode b_Mo_begin 185 = .ok (.iload_n 2, 1) := by decide +kernel
theorem d_Mo_begin_186 : decode b_Mo_begin 186 = .ok (.bipush 24, 2) := by decide +kernel
theorem d_Mo_begin_188 : decode b_Mo_begin 188 = .ok (.if_icmp .ge 36, 3) := by decide +kernel
theorem d_Mo_begin_191 : decode b_Mo_begin 191 = .ok (.aload_n 0, 1) := by decide +kernel
theorem d_Mo_begin_192 : decode b_Mo_begin 192 = .ok (.aload_n 0, 1) := by decide +kernel
theorem d_Mo_begin_193 : decode b_Mo_begin 193 = .ok (.getfield 250, 3) := by decide +kernel
theorem d_Mo_begin_196 : decode b_Mo_begin 196 = .ok (.iconst 4, 1) := by decide +kernel
theorem d_Mo_begin_197 : decode b_Mo_begin 197 = .ok (.aload_n 0, 1) := by decide +kernel
theorem d_Mo_begin_198 : decode b_Mo_begin 198 = .ok (.getfield 412, 3) := by decide +kernel
theorem d_Mo_begin_201 : decode b_Mo_begin 201 = .ok (.iload_n 2, 1) := by decide +kernel
theorem d_Mo_begin_202 : decode b_Mo_begin 202 = .ok (.iaload, 1) := by decide +kernel
theorem d_Mo_begin_203 : decode b_Mo_begin 203 = .ok (.i2l, 1) := by decide +kernel
theorem d_Mo_begin_204 : decode b_Mo_begin 204 = .ok (.bipush 6, 2) := by decide +kernel
theorem d_Mo_begin_206 : decode b_Mo_begin 206 = .ok (.iconst (-1), 1) := by decide +kernel
theorem d_Mo_begin_207 : decode b_Mo_begin 207 = .ok (.iload_n 2, 1) := by decide +kernel
theorem d_Mo_begin_208 : decode b_Mo_begin 208 = .ok (.isub, 1) := by decide +kernel
theorem d_Mo_begin_209 : decode b_Mo_begin 209 = .ok (.i2l, 1) := by decide +kernel
theorem d_Mo_begin_210 : decode b_Mo_begin 210 = .ok (.invokevirtual 684, 3) := by decide +kernel
theorem d_Mo_begin_213 : decode b_Mo_begin 213 = .ok (.ifCond .ne 5, 3) := by decide +kernel
theorem d_Mo_begin_216 : decode b_Mo_begin 216 = .ok (.iconst 0, 1) := by decide +kernel
theorem d_Mo_begin_217 : decode b_Mo_begin 217 = .ok (.ireturn, 1) := by decide +kernel
theorem d_Mo_begin_218 : decode b_Mo_begin 218 = .ok (.iinc 2 1, 3) := by decide +kernel
theorem d_Mo_begin_221 : decode b_Mo_begin 221 = .ok (.goto (-36), 3) := by decide +kernel
theorem d_Mo_begin_224 : decode b_Mo_begin 224 = .ok (.aload_n 0, 1) := by decide +kernel
theorem d_Mo_begin_225 : decode b_Mo_begin 225 = .ok (.getfield 274, 3) := by decide +kernel
theorem d_Mo_begin_228 : decode b_Mo_begin 228 = .ok (.iconst 0, 1) := by decide +kernel
theorem d_Mo_begin_229 : decode b_Mo_begin 229 = .ok (.iload_n 1, 1) := by decide +kernel
theorem d_Mo_begin_230 : decode b_Mo_begin 230 = .ok (.iastore, 1) := by decide +kernel
theorem d_Mo_begin_231 : decode b_Mo_begin 231 = .ok (.aload_n 0, 1) := by decide +kernel
theorem d_Mo_begin_232 : decode b_Mo_begin 232 = .ok (.iconst 0, 1) := by decide +kernel
theorem d_Mo_begin_233 : decode b_Mo_begin 233 = .ok (.iconst 0, 1) := by decide +kernel
theorem d_Mo_begin_234 : decode b_Mo_begin 234 = .ok (.iconst 1, 1) := by decide +kernel
theorem d_Mo_begin_235 : decode b_Mo_begin 235 = .ok (.invokevirtual 688, 3) := by decide +kernel
theorem d_Mo_begin_238 : decode b_Mo_begin 238 = .ok (.istore_n 2, 1) := by decide +kernel
theorem d_Mo_begin_239 : decode b_Mo_begin 239 = .ok (.iload_n 2, 1) := by decide +kernel
theorem d_Mo_begin_240 : decode b_Mo_begin 240 = .ok (.ifCond .ge 5, 3) := by decide +kernel
theorem d_Mo_begin_243 : decode b_Mo_begin 243 = .ok (.iconst 0, 1) := by decide +kernel
theorem d_Mo_begin_244 : decode b_Mo_begin 244 = .ok (.ireturn, 1) := by decide +kernel
theorem d_Mo_begin_245 : decode b_Mo_begin 245 = .ok (.aload_n 0, 1) := by decide +kernel
theorem d_Mo_begin_246 : decode b_Mo_begin 246 = .ok (.invokevirtual 692, 3) := by decide +kernel
theorem d_Mo_begin_249 : decode b_Mo_begin 249 = .ok (.istore_n 3, 1) := by decide +kernel
theorem d_Mo_begin_250 : decode b_Mo_begin 250 = .ok (.iload_n 3, 1) := by decide +kernel
theorem d_Mo_begin_251 : decode b_Mo_begin 251 = .ok (.ifCond .ge 5, 3) := by decide +kernel
theorem d_Mo_begin_254 : decode b_Mo_begin 254 = .ok (.iconst 0, 1) := by decide +kernel
theorem d_Mo_begin_255 : decode b_Mo_begin 255 = .ok (.ireturn, 1) := by decide +kernel
theorem d_Mo_begin_256 : decode b_Mo_begin 256 = .ok (.aload_n 0, 1) := by decide +kernel
theorem d_Mo_begin_257 : decode b_Mo_begin 257 = .ok (.getfield 239, 3) := by decide +kernel
theorem d_Mo_begin_260 : decode b_Mo_begin 260 = .ok (.iconst 0, 1) := by decide +kernel
theorem d_Mo_begin_261 : decode b_Mo_begin 261 = .ok (.aaload, 1) := by decide +kernel
theorem d_Mo_begin_262 : decode b_Mo_begin 262 = .ok (.iconst 1, 1) := by decide +kernel
theorem d_Mo_begin_263 : decode b_Mo_begin 263 = .ok (.putfield 694, 3) := by decide +kernel
theorem d_Mo_begin_266 : decode b_Mo_begin 266 = .ok (.aload_n 0, 1) := by decide +kernel
theorem d_Mo_begin_267 : decode b_Mo_begin 267 = .ok (.getfield 239, 3) := by decide +kernel
theorem d_Mo_begin_270 : decode b_Mo_begin 270 = .ok (.iconst 0, 1) := by decide +kernel
theorem d_Mo_begin_271 : decode b_Mo_begin 271 = .ok (.aaload, 1) := by decide +kernel
theorem d_Mo_begin_272 : decode b_Mo_begin 272 = .ok (.iconst 1, 1) := by decide +kernel
theorem d_Mo_begin_273 : decode b_Mo_begin 273 = .ok (.putfield 697, 3) := by decide +kernel
theorem d_Mo_begin_276 : decode b_Mo_begin 276 = .ok (.aload_n 0, 1) := by decide +kernel
theorem d_Mo_begin_277 : decode b_Mo_begin 277 = .ok (.aload_n 0, 1) := by decide +kernel
theorem d_Mo_begin_278 : decode b_Mo_begin 278 = .ok (.getfield 239, 3) := by decide +kernel
theorem d_Mo_begin_281 : decode b_Mo_begin 281 = .ok (.iconst 0, 1) := by decide +kernel
theorem d_Mo_begin_282 : decode b_Mo_begin 282 = .ok (.aaload, 1) := by decide +kernel
theorem d_Mo_begin_283 : decode b_Mo_begin 283 = .ok (.putfield 243, 3) := by decide +kernel
theorem d_Mo_begin_286 : decode b_Mo_begin 286 = .ok (.aload_n 0, 1) := by decide +kernel
theorem d_Mo_begin_287 : decode b_Mo_begin 287 = .ok (.iconst 0, 1) := by decide +kernel
theorem d_Mo_begin_288 : decode b_Mo_begin 288 = .ok (.putfield 418, 3) := by decide +kernel
theorem d_Mo_begin_291 : decode b_Mo_begin 291 = .ok (.aload_n 0, 1) := by decide +kernel
theorem d_Mo_begin_292 : decode b_Mo_begin 292 = .ok (.getfield 259, 3) := by decide +kernel
theorem d_Mo_begin_295 : decode b_Mo_begin 295 = .ok (.iconst 0, 1) := by decide +kernel
theorem d_Mo_begin_296 : decode b_Mo_begin 296 = .ok (.putfield 569, 3) := by decide +kernel
theorem d_Mo_begin_299 : decode b_Mo_begin 299 = .ok (.aload_n 0, 1) := by decide +kernel
theorem d_Mo_begin_300 : decode b_Mo_begin 300 = .ok (.iload_n 2, 1) := by decide +kernel
theorem d_Mo_begin_301 : decode b_Mo_begin 301 = .ok (.invokevirtual 700, 3) := by decide +kernel
theorem d_Mo_begin_304 : decode b_Mo_begin 304 = .ok (.iconst 1, 1) := by decide +kernel
theorem d_Mo_begin_305 : decode b_Mo_begin 305 = .ok (.ireturn, 1) := by decide +kernel
theorem kw_556 : Cond.fieldLink R_Mo 326 "LuaMachineModel" "builtIn" "[Ljava/lang/String;" ∈ wA := kinm (show _ ∈ tables_1 from (List.mem_append_right _ (List.mem_append_right _ (List.mem_append_right _ (List.mem_append_right _ (List.mem_append_right _ (List.mem_append_right _ (List.mem_append_right _ (List.mem_append_right _ (List.mem_append_right _ (List.mem_append_left _ (List.mem_of_getElem? (l := tables_1_10) (i := 139) (by decide +kernel))))))))))))) (by decide +kernel)
theorem kw_557 : Cond.fieldLink R_Mo 412 "LuaMachineModel" "builtName" "[I" ∈ wA := kinm (show _ ∈ tables_1 from (List.mem_append_right _ (List.mem_append_right _ (List.mem_append_right _ (List.mem_append_right _ (List.mem_append_right _ (List.mem_append_right _ (List.mem_append_right _ (List.mem_append_right _ (List.mem_append_right _ (List.mem_append_left _ (List.mem_of_getElem? (l := tables_1_10) (i := 146) (by decide +kernel))))))))))))) (by decide +kernel)
theorem kw_558 : Cond.methodLink R_Mo 677 y_Mo_words ∈ wA := kinm (show _ ∈ tables_1 from (List.mem_append_right _ (List.mem_append_right _ (List.mem_append_right _ (List.mem_append_right _ (List.mem_append_right _ (List.mem_append_right _ (List.mem_append_right _ (List.mem_append_right _ (List.mem_append_right _ (List.mem_append_right _ (List.mem_append_right _ (List.mem_append_left _ (List.mem_of_getElem? (l := tables_1_12) (i := 62) (by decide +kernel))))))))))))))) (by decide +kernel)
theorem kw_559 : Cond.fieldLink R_Mo 374 "LuaMachineModel" "events" "[Ljava/lang/String;" ∈ wA := kinm (show _ ∈ tables_1 from (List.mem_append_right _ (List.mem_append_right _ (List.mem_append_right _ (List.mem_append_right _ (List.mem_append_right _ (List.mem_append_right _ (List.mem_append_right _ (List.mem_append_right _ (List.mem_append_right _ (List.mem_append_left _ (List.mem_of_getElem? (l := tables_1_10) (i := 140) (by decide +kernel))))))))))))) (by decide +kernel)
theorem kw_560 : Cond.fieldLink R_Mo 391 "LuaMachineModel" "kinds" "[Ljava/lang/String;" ∈ wA := kinm (show _ ∈ tables_1 from (List.mem_append_right _ (List.mem_append_right _ (List.mem_append_right _ (List.mem_append_right _ (List.mem_append_right _ (List.mem_append_right _ (List.mem_append_right _ (List.mem_append_right _ (List.mem_append_right _ (List.mem_append_left _ (List.mem_of_getElem? (l := tables_1_10) (i := 141) (by decide +kernel))))))))))))) (by decide +kernel)
theorem kw_561 : Cond.fieldLink R_Mo 406 "LuaMachineModel" "kindName" "[I" ∈ wA := kinm (show _ ∈ tables_1 from (List.mem_append_right _ (List.mem_append_right _ (List.mem_append_right _ (List.mem_append_right _ (List.mem_append_right _ (List.mem_append_right _ (List.mem_append_right _ (List.mem_append_right _ (List.mem_append_right _ (List.mem_append_left _ (List.mem_of_getElem? (l := tables_1_10) (i := 144) (by decide +kernel))))))))))))) (by decide +kernel)
theorem kw_562 : Cond.fieldLink R_Mo 400 "LuaMachineModel" "states" "[Ljava/lang/String;" ∈ wA := kinm (show _ ∈ tables_1 from (List.mem_append_right _ (List.mem_append_right _ (List.mem_append_right _ (List.mem_append_right _ (List.mem_append_right _ (List.mem_append_right _ (List.mem_append_right _ (List.mem_append_right _ (List.mem_append_right _ (List.mem_append_left _ (List.mem_of_getElem? (l := tables_1_10) (i := 142) (by decide +kernel))))))))))))) (by decide +kernel)
theorem kw_563 : Cond.methodLink R_Mo 681 y_Mo_newVariable ∈ wA := kinm (show _ ∈ tables_1 from (List.mem_append_right _ (List.mem_append_right _ (List.mem_append_right _ (List.mem_append_right _ (List.mem_append_right _ (List.mem_append_right _ (List.mem_append_right _ (List.mem_append_right _ (List.mem_append_right _ (List.mem_append_right _ (List.mem_append_right _ (List.mem_append_left _ (List.mem_of_getElem? (l := tables_1_12) (i := 77) (by decide +kernel))))))))))))))) (by decide +kernel)
theorem kw_564 : Cond.methodLink R_Mo 700 y_Mo_enter ∈ wA := kinm (show _ ∈ tables_1 from (List.mem_append_right _ (List.mem_append_right _ (List.mem_append_right _ (List.mem_append_right _ (List.mem_append_right _ (List.mem_append_right _ (List.mem_append_right _ (List.mem_append_right _ (List.mem_append_right _ (List.mem_append_right _ (List.mem_append_right _ (List.mem_append_left _ (List.mem_of_getElem? (l := tables_1_12) (i := 125) (by decide +kernel))))))))))))))) (by decide +kernel)
theorem kw_565 : Cond.instanceMethod y_Mo_begin ∈ wA := kinm (show _ ∈ tables_1 from (List.mem_append_right _ (List.mem_append_right _ (List.mem_append_right _ (List.mem_append_right _ (List.mem_append_right _ (List.mem_append_right _ (List.mem_append_right _ (List.mem_append_right _ (List.mem_append_right _ (List.mem_append_right _ (List.mem_append_left _ (List.mem_of_getElem? (l := tables_1_11) (i := 226) (by decide +kernel)))))))))))))) (by decide +kernel)
theorem kw_566 : Cond.selects R_Mo y_Mo_begin y_Mo_begin ∈ wA := kinp 125 (by decide +kernel) (by decide +kernel)
theorem cv_Mo_begin : CV y_Mo_begin b_Mo_begin 4 (some .boolean) 0 := ⟨kw_565, kw_566, kw_17, k_Mo_begin, by decide +kernel⟩
theorem j_Mo_begin_j177 {X : Cx} {q : PL} (g : Gd X y_Mo_begin b_Mo_begin 4 (some .boolean) 10 226 R_Mo) {o : ((Int32 × Int32) ⊕ ((Unit) ⊕ (Int32))) × S1} (hR : (Sum.elim (fun y : Int32 × Int32 => ∀ ls : Array Slot, lv_has ls 4 [(0, .ref (q.1 0 0)), (1, .int y.1), (2, .int y.2)] → WW X q o.2 104 ls []) (Sum.elim (fun y : Unit => ∀ ls : Array Slot, lv_has ls 4 [] → WW X q o.2 157 ls []) (fun y : Int32 => ∀ ls : Array Slot, lv_has ls 4 [(0, .ref (q.1 0 0)), (1, .int y)] → WW X q o.2 183 ls [])) o.1)) (l1 : Int32) (l2 : Int32) (s : S1) (ls : Array Slot) (hl : lv_has ls 4 [(0, .ref (q.1 0 0)), (1, .int l1), (2, .int l2)]) (h : M_Mo_begin_j177 l1 l2 s = some o) : WW X q s 177 ls [] := by
  unfold M_Mo_begin_j177 at h
  refine ww_iinc (pc := 177) g.1 (v := l2 + 1) (lv' := [(2, .int (l2 + 1)), (0, .ref (q.1 0 0)), (1, .int l1)]) d_Mo_begin_177 hl (k := 2) rfl (by rfl) (by decide) rfl fun ls hl => ?_
  refine ww_goto (pc := 180) (tgt := 104) g.1 d_Mo_begin_180 (by decide) ?_
  rw [oR_eq h] at hR
  exact hR ls (lv_sub hl [1, 2, 0] rfl)

theorem lp_Mo_begin_L104 {X : Cx} {q : PL} (g : Gd X y_Mo_begin b_Mo_begin 4 (some .boolean) 10 226 R_Mo) (x : Int32 × Int32) (s : S1) (o : ((Int32 × Int32) ⊕ ((Unit) ⊕ (Int32))) × S1) (h : M_Mo_begin_L104 x s = some o) (hR : (Sum.elim (fun y : Int32 × Int32 => ∀ ls : Array Slot, lv_has ls 4 [(0, .ref (q.1 0 0)), (1, .int y.1), (2, .int y.2)] → WW X q o.2 104 ls []) (Sum.elim (fun y : Unit => ∀ ls : Array Slot, lv_has ls 4 [] → WW X q o.2 157 ls []) (fun y : Int32 => ∀ ls : Array Slot, lv_has ls 4 [(0, .ref (q.1 0 0)), (1, .int y)] → WW X q o.2 183 ls [])) o.1)) : ∀ ls : Array Slot, lv_has ls 4 [(0, .ref (q.1 0 0)), (1, .int x.1), (2, .int x.2)] → WW X q s 104 ls [] := by
  intro ls hl
  unfold M_Mo_begin_L104 at h
  refine ww_iload_n (pc := 104) g.1 d_Mo_begin_104 rfl (lv_at hl 2 rfl) ?_
  refine ww_aload_n (pc := 105) g.1 d_Mo_begin_105 rfl (lv_at hl 0 rfl) ?_
  refine ww_gI (pc := 106) g (k := 25) cl_Mo (pz rfl (by decide)) (by decide) (Or.inl kw_306) (f := 25) rfl rfl d_Mo_begin_106 h fun v106 h => ?_
  refine ww_icmp_ge (pc := 109) (tgt := 183) g.1 d_Mo_begin_109 (by decide) h (fun c h => ?_) (fun c h => ?_)
  · rw [oR_eq h] at hR
    exact hR ls (lv_sub hl [0, 1] rfl)
  · refine ww_aload_n (pc := 112) g.1 d_Mo_begin_112 rfl (lv_at hl 0 rfl) ?_
    refine ww_gR (pc := 113) g (k := 21) cl_Mo (pz rfl (by decide)) (by decide) (Or.inl kw_247) (f := 21) (t := 1) rfl rfl rfl d_Mo_begin_113 ?_
    refine ww_gR (pc := 116) g (k := 0) (cl_Va (Or.inl ⟨by decide, rfl⟩)) (pz rfl (by decide)) (by decide) (Or.inl kw_90) (f := 128) (t := 2) rfl rfl rfl d_Mo_begin_116 ?_
    refine ww_iload_n (pc := 119) g.1 d_Mo_begin_119 rfl (lv_at hl 2 rfl) ?_
    refine ww_ab (pc := 120) g (pz rfl (by decide)) rfl rfl d_Mo_begin_120 h fun v120 h => ?_
    refine ww_iconst (pc := 121) g.1 (v := 4) d_Mo_begin_121 (by decide) ?_
    refine ww_icmp_eq (pc := 122) (tgt := 128) g.1 d_Mo_begin_122 (by decide) h (fun c h => ?_) (fun c h => ?_)
    · refine ww_aload_n (pc := 128) g.1 d_Mo_begin_128 rfl (lv_at hl 0 rfl) ?_
      refine ww_aload_n (pc := 129) g.1 d_Mo_begin_129 rfl (lv_at hl 0 rfl) ?_
      refine ww_gR (pc := 130) g (k := 0) cl_Mo (pz rfl (by decide)) (by decide) (Or.inl kw_30) (f := 0) (t := 41) rfl rfl rfl d_Mo_begin_130 ?_
      refine ww_aload_n (pc := 133) g.1 d_Mo_begin_133 rfl (lv_at hl 0 rfl) ?_
      refine ww_gR (pc := 134) g (k := 22) cl_Mo (pz rfl (by decide)) (by decide) (Or.inl kw_307) (f := 22) (t := 57) rfl rfl rfl d_Mo_begin_134 ?_
      refine ww_iload_n (pc := 137) g.1 d_Mo_begin_137 rfl (lv_at hl 2 rfl) ?_
      refine ww_ai (pc := 138) g (pz rfl (by decide)) rfl rfl d_Mo_begin_138 h fun v138 h => ?_
      refine ww_aload_n (pc := 139) g.1 d_Mo_begin_139 rfl (lv_at hl 0 rfl) ?_
      refine ww_gR (pc := 140) g (k := 21) cl_Mo (pz rfl (by decide)) (by decide) (Or.inl kw_247) (f := 21) (t := 1) rfl rfl rfl d_Mo_begin_140 ?_
      refine ww_gR (pc := 143) g (k := 1) (cl_Va (Or.inl ⟨by decide, rfl⟩)) (pz rfl (by decide)) (by decide) (Or.inl kw_93) (f := 129) (t := 3) rfl rfl rfl d_Mo_begin_143 ?_
      refine ww_iload_n (pc := 146) g.1 d_Mo_begin_146 rfl (lv_at hl 2 rfl) ?_
      refine ww_al (pc := 147) g (pz rfl (by decide)) rfl rfl d_Mo_begin_147 h fun v147 h => ?_
      refine ww_l2i (pc := 148) g.1 (v := v147.toInt32) d_Mo_begin_148 rfl ?_
      obtain ⟨v149, s, hc149, h⟩ := oB_of h
      refine ww_callV (pc := 149) (rest := []) g cv_Mo_string (Or.inl kw_521) cl_Mo (pz rfl (by decide)) (ct_Mo_string ⟨rfl, by decide, by decide⟩ (pz rfl (by decide)) hc149) ⟨by decide, by decide⟩ rfl hl.1 (Nat.le_of_ble_eq_true rfl) d_Mo_begin_149 rfl ?_
      refine ww_st (st' := [.int v149]) rfl ?_
      refine ww_istore_n (pc := 152) (i := 3) g.1 (lv' := [(3, .int v149), (0, .ref (q.1 0 0)), (1, .int x.1), (2, .int x.2)]) d_Mo_begin_152 rfl hl (by decide) rfl fun ls hl => ?_
      refine ww_iload_n (pc := 153) g.1 d_Mo_begin_153 rfl (lv_at hl 0 rfl) ?_
      refine ww_if_ge (pc := 154) (tgt := 159) g.1 d_Mo_begin_154 (by decide) h (fun c h => ?_) (fun c h => ?_)
      · refine ww_aload_n (pc := 159) g.1 d_Mo_begin_159 rfl (lv_at hl 1 rfl) ?_
        refine ww_gR (pc := 160) g (k := 47) cl_Mo (pz rfl (by decide)) (by decide) (Or.inl kw_111) (f := 47) (t := 60) rfl rfl rfl d_Mo_begin_160 ?_
        refine ww_iload_n (pc := 163) g.1 d_Mo_begin_163 rfl (lv_at hl 0 rfl) ?_
        refine ww_iconst (pc := 164) g.1 (v := 1) d_Mo_begin_164 (by decide) ?_
        refine ww_sz (pc := 165) g (pz rfl (by decide)) rfl rfl d_Mo_begin_165 h fun s hs h => ?_
        refine ww_aload_n (pc := 166) g.1 d_Mo_begin_166 rfl (lv_at hl 1 rfl) ?_
        refine ww_gR (pc := 167) g (k := 21) cl_Mo (pz rfl (by decide)) (by decide) (Or.inl kw_247) (f := 21) (t := 1) rfl rfl rfl d_Mo_begin_167 ?_
        refine ww_gR (pc := 170) g (k := 1) (cl_Va (Or.inl ⟨by decide, rfl⟩)) (pz rfl (by decide)) (by decide) (Or.inl kw_93) (f := 129) (t := 3) rfl rfl rfl d_Mo_begin_170 ?_
        refine ww_iload_n (pc := 173) g.1 d_Mo_begin_173 rfl (lv_at hl 3 rfl) ?_
        refine ww_iload_n (pc := 174) g.1 d_Mo_begin_174 rfl (lv_at hl 0 rfl) ?_
        refine ww_i2l (pc := 175) g.1 (v := v149.toInt64) d_Mo_begin_175 rfl ?_
        refine ww_sl (pc := 176) g (pz rfl (by decide)) rfl rfl d_Mo_begin_176 h fun s hs h => ?_
        exact j_Mo_begin_j177 g hR x.1 x.2 s ls (lv_sub hl [1, 2, 3] rfl) h
      · rw [oR_eq h] at hR
        exact hR ls (lv_sub hl [] rfl)
    · refine ww_goto (pc := 125) (tgt := 177) g.1 d_Mo_begin_125 (by decide) ?_
      exact j_Mo_begin_j177 g hR x.1 x.2 s ls (lv_sub hl [0, 1, 2] rfl) h

theorem lp_Mo_begin_L185 {X : Cx} {q : PL} (g : Gd X y_Mo_begin b_Mo_begin 4 (some .boolean) 10 226 R_Mo) (x : Int32 × Int32) (s : S1) (o : ((Int32 × Int32) ⊕ ((Unit) ⊕ (Int32))) × S1) (h : M_Mo_begin_L185 x s = some o) (hR : (Sum.elim (fun y : Int32 × Int32 => ∀ ls : Array Slot, lv_has ls 4 [(0, .ref (q.1 0 0)), (1, .int y.1), (2, .int y.2)] → WW X q o.2 185 ls []) (Sum.elim (fun y : Unit => ∀ ls : Array Slot, lv_has ls 4 [] → WW X q o.2 216 ls []) (fun y : Int32 => ∀ ls : Array Slot, lv_has ls 4 [(0, .ref (q.1 0 0)), (1, .int y)] → WW X q o.2 224 ls [])) o.1)) : ∀ ls : Array Slot, lv_has ls 4 [(0, .ref (q.1 0 0)), (1, .int x.1), (2, .int x.2)] → WW X q s 185 ls [] := by
  intro ls hl
  unfold M_Mo_begin_L185 at h
  refine ww_iload_n (pc := 185) g.1 d_Mo_begin_185 rfl (lv_at hl 2 rfl) ?_
  refine ww_bipush (pc := 186) g.1 (v := 24) d_Mo_begin_186 (by decide) ?_
  refine ww_icmp_ge (pc := 188) (tgt := 224) g.1 d_Mo_begin_188 (by decide) h (fun c h => ?_) (fun c h => ?_)
  · rw [oR_eq h] at hR
    exact hR ls (lv_sub hl [0, 1] rfl)
  · refine ww_aload_n (pc := 191) g.1 d_Mo_begin_191 rfl (lv_at hl 0 rfl) ?_
    refine ww_aload_n (pc := 192) g.1 d_Mo_begin_192 rfl (lv_at hl 0 rfl) ?_
    refine ww_gI (pc := 193) g (k := 74) cl_Mo (pz rfl (by decide)) (by decide) (Or.inl kw_440) (f := 74) rfl rfl d_Mo_begin_193 h fun v193 h => ?_
    refine ww_iconst (pc := 196) g.1 (v := 4) d_Mo_begin_196 (by decide) ?_
    refine ww_aload_n (pc := 197) g.1 d_Mo_begin_197 rfl (lv_at hl 0 rfl) ?_
    refine ww_gR (pc := 198) g (k := 90) cl_Mo (pz rfl (by decide)) (by decide) (Or.inl kw_557) (f := 90) (t := 85) rfl rfl rfl d_Mo_begin_198 ?_
    refine ww_iload_n (pc := 201) g.1 d_Mo_begin_201 rfl (lv_at hl 2 rfl) ?_
    refine ww_ai (pc := 202) g (pz rfl (by decide)) rfl rfl d_Mo_begin_202 h fun v202 h => ?_
    refine ww_i2l (pc := 203) g.1 (v := v202.toInt64) d_Mo_begin_203 rfl ?_
    refine ww_bipush (pc := 204) g.1 (v := 6) d_Mo_begin_204 (by decide) ?_
    refine ww_iconst (pc := 206) g.1 (v := (-1)) d_Mo_begin_206 (by decide) ?_
    refine ww_iload_n (pc := 207) g.1 d_Mo_begin_207 rfl (lv_at hl 2 rfl) ?_
    refine ww_isub (pc := 208) g.1 d_Mo_begin_208 ?_
    refine ww_i2l (pc := 209) g.1 (v := ((-1) - x.2).toInt64) d_Mo_begin_209 rfl ?_
    obtain ⟨v210, s, hc210, h⟩ := oB_of h
    refine ww_callV (pc := 210) (rest := []) g cv_Mo_put (Or.inl kw_474) cl_Mo (pz rfl (by decide)) (ct_Mo_put hc210) ⟨by decide, by decide⟩ rfl hl.1 (Nat.le_of_ble_eq_true rfl) d_Mo_begin_210 rfl ?_
    refine ww_st (st' := [.int v210]) rfl ?_
    refine ww_if_ne (pc := 213) (tgt := 218) g.1 d_Mo_begin_213 (by decide) h (fun c h => ?_) (fun c h => ?_)
    · refine ww_iinc (pc := 218) g.1 (v := x.2 + 1) (lv' := [(2, .int (x.2 + 1)), (0, .ref (q.1 0 0)), (1, .int x.1)]) d_Mo_begin_218 hl (k := 2) rfl (by rfl) (by decide) rfl fun ls hl => ?_
      refine ww_goto (pc := 221) (tgt := 185) g.1 d_Mo_begin_221 (by decide) ?_
      rw [oR_eq h] at hR
      exact hR ls (lv_sub hl [1, 2, 0] rfl)
    · rw [oR_eq h] at hR
      exact hR ls (lv_sub hl [] rfl)

theorem ct_Mo_begin {l : Launch} {P : PP} {q : PL} {s s' : S1}  {r : Int32} (h : M_Mo_begin s = some (r, s')) : Ct l y_Mo_begin b_Mo_begin 4 (some .boolean) 10 226 P q s [.ref (q.1 0 0)] (some (.int r)) q s' := by
  refine ct_of (by decide) (Nat.le_of_ble_eq_true rfl) fun X ls eP el g hR hl => ?_
  subst eP
  have hR : Rt X q ((r, s') : Int32 × S1).2 (some (.int ((r, s') : Int32 × S1).1)) := hR
  have hl : lv_has ls 4 [(0, .ref (q.1 0 0))] := hl
  generalize (r, s') = o at h hR
  unfold M_Mo_begin at h
  refine ww_aload_n (pc := 0) g.1 d_Mo_begin_0 rfl (lv_at hl 0 rfl) ?_
  refine ww_aload_n (pc := 1) g.1 d_Mo_begin_1 rfl (lv_at hl 0 rfl) ?_
  obtain ⟨v2, s, hc2, h⟩ := oB_of h
  refine ww_callV (pc := 2) (rest := [.ref (q.1 0 0)]) g cv_Mo_table (Or.inl kw_493) cl_Mo (pz rfl (by decide)) (ct_Mo_table hc2) ⟨by decide, by decide⟩ rfl hl.1 (Nat.le_of_ble_eq_true rfl) d_Mo_begin_2 rfl ?_
  refine ww_st (st' := [.int v2, .ref (q.1 0 0)]) rfl ?_
  refine ww_pI (pc := 5) g (k := 74) cl_Mo (pz rfl (by decide)) (by decide) (Or.inl kw_440) rfl (f := 74) rfl rfl rfl rfl d_Mo_begin_5 h fun s hs h => ?_
  refine ww_aload_n (pc := 8) g.1 d_Mo_begin_8 rfl (lv_at hl 0 rfl) ?_
  refine ww_gI (pc := 9) g (k := 74) cl_Mo (pz rfl (by decide)) (by decide) (Or.inl kw_440) (f := 74) rfl rfl d_Mo_begin_9 h fun v9 h => ?_
  refine ww_if_lt (pc := 12) (tgt := 75) g.1 d_Mo_begin_12 (by decide) h (fun c h => ?_) (fun c h => ?_)
  · refine ww_iconst (pc := 75) g.1 (v := 0) d_Mo_begin_75 (by decide) ?_
    exact ww_zretH (pc := 76) g h hR (Or.inl rfl) d_Mo_begin_76
  · refine ww_aload_n (pc := 15) g.1 d_Mo_begin_15 rfl (lv_at hl 0 rfl) ?_
    refine ww_aload_n (pc := 16) g.1 d_Mo_begin_16 rfl (lv_at hl 0 rfl) ?_
    refine ww_gR (pc := 17) g (k := 83) cl_Mo (pz rfl (by decide)) (by decide) (Or.inl kw_556) (f := 83) (t := 78) rfl rfl rfl d_Mo_begin_17 ?_
    refine ww_aload_n (pc := 20) g.1 d_Mo_begin_20 rfl (lv_at hl 0 rfl) ?_
    refine ww_gR (pc := 21) g (k := 90) cl_Mo (pz rfl (by decide)) (by decide) (Or.inl kw_557) (f := 90) (t := 85) rfl rfl rfl d_Mo_begin_21 ?_
    obtain ⟨v24, s, hc24, h⟩ := oB_of h
    refine ww_callV (pc := 24) (rest := []) g cv_Mo_words (Or.inl kw_558) cl_Mo (pz rfl (by decide)) (ct_Mo_words ⟨rfl, by decide, by decide⟩ (pz rfl (by decide)) ⟨rfl, by decide, by decide⟩ (pz rfl (by decide)) hc24) ⟨by decide, by decide⟩ rfl hl.1 (Nat.le_of_ble_eq_true rfl) d_Mo_begin_24 rfl ?_
    refine ww_st (st' := [.int v24]) rfl ?_
    refine ww_if_eq (pc := 27) (tgt := 75) g.1 d_Mo_begin_27 (by decide) h (fun c h => ?_) (fun c h => ?_)
    · refine ww_iconst (pc := 75) g.1 (v := 0) d_Mo_begin_75 (by decide) ?_
      exact ww_zretH (pc := 76) g h hR (Or.inl rfl) d_Mo_begin_76
    · refine ww_aload_n (pc := 30) g.1 d_Mo_begin_30 rfl (lv_at hl 0 rfl) ?_
      refine ww_aload_n (pc := 31) g.1 d_Mo_begin_31 rfl (lv_at hl 0 rfl) ?_
      refine ww_gR (pc := 32) g (k := 84) cl_Mo (pz rfl (by decide)) (by decide) (Or.inl kw_559) (f := 84) (t := 79) rfl rfl rfl d_Mo_begin_32 ?_
      refine ww_aload_n (pc := 35) g.1 d_Mo_begin_35 rfl (lv_at hl 0 rfl) ?_
      refine ww_gR (pc := 36) g (k := 87) cl_Mo (pz rfl (by decide)) (by decide) (Or.inl kw_355) (f := 87) (t := 82) rfl rfl rfl d_Mo_begin_36 ?_
      obtain ⟨v39, s, hc39, h⟩ := oB_of h
      refine ww_callV (pc := 39) (rest := []) g cv_Mo_words (Or.inl kw_558) cl_Mo (pz rfl (by decide)) (ct_Mo_words ⟨rfl, by decide, by decide⟩ (pz rfl (by decide)) ⟨rfl, by decide, by decide⟩ (pz rfl (by decide)) hc39) ⟨by decide, by decide⟩ rfl hl.1 (Nat.le_of_ble_eq_true rfl) d_Mo_begin_39 rfl ?_
      refine ww_st (st' := [.int v39]) rfl ?_
      refine ww_if_eq (pc := 42) (tgt := 75) g.1 d_Mo_begin_42 (by decide) h (fun c h => ?_) (fun c h => ?_)
      · refine ww_iconst (pc := 75) g.1 (v := 0) d_Mo_begin_75 (by decide) ?_
        exact ww_zretH (pc := 76) g h hR (Or.inl rfl) d_Mo_begin_76
      · refine ww_aload_n (pc := 45) g.1 d_Mo_begin_45 rfl (lv_at hl 0 rfl) ?_
        refine ww_aload_n (pc := 46) g.1 d_Mo_begin_46 rfl (lv_at hl 0 rfl) ?_
        refine ww_gR (pc := 47) g (k := 85) cl_Mo (pz rfl (by decide)) (by decide) (Or.inl kw_560) (f := 85) (t := 80) rfl rfl rfl d_Mo_begin_47 ?_
        refine ww_aload_n (pc := 50) g.1 d_Mo_begin_50 rfl (lv_at hl 0 rfl) ?_
        refine ww_gR (pc := 51) g (k := 88) cl_Mo (pz rfl (by decide)) (by decide) (Or.inl kw_561) (f := 88) (t := 83) rfl rfl rfl d_Mo_begin_51 ?_
        obtain ⟨v54, s, hc54, h⟩ := oB_of h
        refine ww_callV (pc := 54) (rest := []) g cv_Mo_words (Or.inl kw_558) cl_Mo (pz rfl (by decide)) (ct_Mo_words ⟨rfl, by decide, by decide⟩ (pz rfl (by decide)) ⟨rfl, by decide, by decide⟩ (pz rfl (by decide)) hc54) ⟨by decide, by decide⟩ rfl hl.1 (Nat.le_of_ble_eq_true rfl) d_Mo_begin_54 rfl ?_
        refine ww_st (st' := [.int v54]) rfl ?_
        refine ww_if_eq (pc := 57) (tgt := 75) g.1 d_Mo_begin_57 (by decide) h (fun c h => ?_) (fun c h => ?_)
        · refine ww_iconst (pc := 75) g.1 (v := 0) d_Mo_begin_75 (by decide) ?_
          exact ww_zretH (pc := 76) g h hR (Or.inl rfl) d_Mo_begin_76
        · refine ww_aload_n (pc := 60) g.1 d_Mo_begin_60 rfl (lv_at hl 0 rfl) ?_
          refine ww_aload_n (pc := 61) g.1 d_Mo_begin_61 rfl (lv_at hl 0 rfl) ?_
          refine ww_gR (pc := 62) g (k := 86) cl_Mo (pz rfl (by decide)) (by decide) (Or.inl kw_562) (f := 86) (t := 81) rfl rfl rfl d_Mo_begin_62 ?_
          refine ww_aload_n (pc := 65) g.1 d_Mo_begin_65 rfl (lv_at hl 0 rfl) ?_
          refine ww_gR (pc := 66) g (k := 89) cl_Mo (pz rfl (by decide)) (by decide) (Or.inl kw_226) (f := 89) (t := 84) rfl rfl rfl d_Mo_begin_66 ?_
          obtain ⟨v69, s, hc69, h⟩ := oB_of h
          refine ww_callV (pc := 69) (rest := []) g cv_Mo_words (Or.inl kw_558) cl_Mo (pz rfl (by decide)) (ct_Mo_words ⟨rfl, by decide, by decide⟩ (pz rfl (by decide)) ⟨rfl, by decide, by decide⟩ (pz rfl (by decide)) hc69) ⟨by decide, by decide⟩ rfl hl.1 (Nat.le_of_ble_eq_true rfl) d_Mo_begin_69 rfl ?_
          refine ww_st (st' := [.int v69]) rfl ?_
          refine ww_if_ne (pc := 72) (tgt := 77) g.1 d_Mo_begin_72 (by decide) h (fun c h => ?_) (fun c h => ?_)
          · refine ww_aload_n (pc := 77) g.1 d_Mo_begin_77 rfl (lv_at hl 0 rfl) ?_
            obtain ⟨v78, s, hc78, h⟩ := oB_of h
            refine ww_callV (pc := 78) (rest := []) g cv_Mo_newVariable (Or.inl kw_563) cl_Mo (pz rfl (by decide)) (ct_Mo_newVariable hc78) ⟨by decide, by decide⟩ rfl hl.1 (Nat.le_of_ble_eq_true rfl) d_Mo_begin_78 rfl ?_
            refine ww_st (st' := [.int v78]) rfl ?_
            refine ww_istore_n (pc := 81) (i := 1) g.1 (lv' := [(1, .int v78), (0, .ref (q.1 0 0))]) d_Mo_begin_81 rfl hl (by decide) rfl fun ls hl => ?_
            refine ww_iload_n (pc := 82) g.1 d_Mo_begin_82 rfl (lv_at hl 0 rfl) ?_
            refine ww_if_ge (pc := 83) (tgt := 88) g.1 d_Mo_begin_83 (by decide) h (fun c h => ?_) (fun c h => ?_)
            · refine ww_aload_n (pc := 88) g.1 d_Mo_begin_88 rfl (lv_at hl 1 rfl) ?_
              refine ww_gR (pc := 89) g (k := 63) cl_Mo (pz rfl (by decide)) (by decide) (Or.inl kw_95) (f := 63) (t := 4) rfl rfl rfl d_Mo_begin_89 ?_
              refine ww_iload_n (pc := 92) g.1 d_Mo_begin_92 rfl (lv_at hl 0 rfl) ?_
              refine ww_iconst (pc := 93) g.1 (v := 5) d_Mo_begin_93 (by decide) ?_
              refine ww_aload_n (pc := 94) g.1 d_Mo_begin_94 rfl (lv_at hl 1 rfl) ?_
              refine ww_gI (pc := 95) g (k := 74) cl_Mo (pz rfl (by decide)) (by decide) (Or.inl kw_440) (f := 74) rfl rfl d_Mo_begin_95 h fun v95 h => ?_
              refine ww_i2l (pc := 98) g.1 (v := v95.toInt64) d_Mo_begin_98 rfl ?_
              obtain ⟨v99, s, hc99, h⟩ := oB_of h
              refine ww_callV (pc := 99) (rest := []) g cv_Va_set (Or.inl kw_99) (cl_Va (Or.inl ⟨by decide, rfl⟩)) (pz rfl (by decide)) (ct_Va_set (Or.inl ⟨by decide, rfl⟩) hc99) ⟨by decide, by decide⟩ rfl hl.1 (Nat.le_of_ble_eq_true rfl) d_Mo_begin_99 rfl ?_
              refine ww_st (st' := []) rfl ?_
              refine ww_iconst (pc := 102) g.1 (v := 0) d_Mo_begin_102 (by decide) ?_
              refine ww_istore_n (pc := 103) (i := 2) g.1 (lv' := [(2, .int 0), (1, .int v78), (0, .ref (q.1 0 0))]) d_Mo_begin_103 rfl hl (by decide) rfl fun ls hl => ?_
              obtain ⟨e104, s1, hw, h⟩ := oB_of h
              refine oW_rule (Wh := fun (x : Int32 × Int32) (s : S1) => ∀ ls : Array Slot, lv_has ls 4 [(0, .ref (q.1 0 0)), (1, .int x.1), (2, .int x.2)] → WW X q s 104 ls []) (We := fun (e : (Unit) ⊕ (Int32)) (s : S1) => (Sum.elim (fun y : Unit => ∀ ls : Array Slot, lv_has ls 4 [] → WW X q s 157 ls []) (fun y : Int32 => ∀ ls : Array Slot, lv_has ls 4 [(0, .ref (q.1 0 0)), (1, .int y)] → WW X q s 183 ls [])) e) (fun x s o hb hc => lp_Mo_begin_L104 (q := q) g x s o hb hc) hw ?_ ls (lv_sub hl [2, 1, 0] rfl)
              clear hw hl
              clear ls
              generalize s1 = s at h ⊢
              rcases e104 with y104_157 | y104_183
              · intro ls hl
                dsimp only [Sum.elim_inl, Sum.elim_inr] at h
                refine ww_iconst (pc := 157) g.1 (v := 0) d_Mo_begin_157 (by decide) ?_
                exact ww_zretH (pc := 158) g h hR (Or.inl rfl) d_Mo_begin_158
              · intro ls hl
                dsimp only [Sum.elim_inl, Sum.elim_inr] at h
                refine ww_iconst (pc := 183) g.1 (v := 0) d_Mo_begin_183 (by decide) ?_
                refine ww_istore_n (pc := 184) (i := 2) g.1 (lv' := [(2, .int 0), (0, .ref (q.1 0 0)), (1, .int y104_183)]) d_Mo_begin_184 rfl hl (by decide) rfl fun ls hl => ?_
                obtain ⟨e185, s1, hw, h⟩ := oB_of h
                refine oW_rule (Wh := fun (x : Int32 × Int32) (s : S1) => ∀ ls : Array Slot, lv_has ls 4 [(0, .ref (q.1 0 0)), (1, .int x.1), (2, .int x.2)] → WW X q s 185 ls []) (We := fun (e : (Unit) ⊕ (Int32)) (s : S1) => (Sum.elim (fun y : Unit => ∀ ls : Array Slot, lv_has ls 4 [] → WW X q s 216 ls []) (fun y : Int32 => ∀ ls : Array Slot, lv_has ls 4 [(0, .ref (q.1 0 0)), (1, .int y)] → WW X q s 224 ls [])) e) (fun x s o hb hc => lp_Mo_begin_L185 (q := q) g x s o hb hc) hw ?_ ls (lv_sub hl [1, 2, 0] rfl)
                clear hw hl
                clear ls
                generalize s1 = s at h ⊢
                rcases e185 with y185_216 | y185_224
                · intro ls hl
                  dsimp only [Sum.elim_inl, Sum.elim_inr] at h
                  refine ww_iconst (pc := 216) g.1 (v := 0) d_Mo_begin_216 (by decide) ?_
                  exact ww_zretH (pc := 217) g h hR (Or.inl rfl) d_Mo_begin_217
                · intro ls hl
                  dsimp only [Sum.elim_inl, Sum.elim_inr] at h
                  refine ww_aload_n (pc := 224) g.1 d_Mo_begin_224 rfl (lv_at hl 0 rfl) ?_
                  refine ww_gR (pc := 225) g (k := 82) cl_Mo (pz rfl (by decide)) (by decide) (Or.inl kw_468) (f := 82) (t := 77) rfl rfl rfl d_Mo_begin_225 ?_
                  refine ww_iconst (pc := 228) g.1 (v := 0) d_Mo_begin_228 (by decide) ?_
                  refine ww_iload_n (pc := 229) g.1 d_Mo_begin_229 rfl (lv_at hl 1 rfl) ?_
                  refine ww_si (pc := 230) g (pz rfl (by decide)) rfl rfl d_Mo_begin_230 h fun s hs h => ?_
                  refine ww_aload_n (pc := 231) g.1 d_Mo_begin_231 rfl (lv_at hl 0 rfl) ?_
                  refine ww_iconst (pc := 232) g.1 (v := 0) d_Mo_begin_232 (by decide) ?_
                  refine ww_iconst (pc := 233) g.1 (v := 0) d_Mo_begin_233 (by decide) ?_
                  refine ww_iconst (pc := 234) g.1 (v := 1) d_Mo_begin_234 (by decide) ?_
                  obtain ⟨v235, s, hc235, h⟩ := oB_of h
                  refine ww_callV (pc := 235) (rest := []) g cv_Mo_closure (Or.inl kw_478) cl_Mo (pz rfl (by decide)) (ct_Mo_closure hc235) ⟨by decide, by decide⟩ rfl hl.1 (Nat.le_of_ble_eq_true rfl) d_Mo_begin_235 rfl ?_
                  refine ww_st (st' := [.int v235]) rfl ?_
                  refine ww_istore_n (pc := 238) (i := 2) g.1 (lv' := [(2, .int v235), (0, .ref (q.1 0 0)), (1, .int y185_224)]) d_Mo_begin_238 rfl hl (by decide) rfl fun ls hl => ?_
                  refine ww_iload_n (pc := 239) g.1 d_Mo_begin_239 rfl (lv_at hl 0 rfl) ?_
                  refine ww_if_ge (pc := 240) (tgt := 245) g.1 d_Mo_begin_240 (by decide) h (fun c h => ?_) (fun c h => ?_)
                  · refine ww_aload_n (pc := 245) g.1 d_Mo_begin_245 rfl (lv_at hl 1 rfl) ?_
                    obtain ⟨v246, s, hc246, h⟩ := oB_of h
                    refine ww_callV (pc := 246) (rest := []) g cv_Mo_thread_ (Or.inl kw_477) cl_Mo (pz rfl (by decide)) (ct_Mo_thread_ hc246) ⟨by decide, by decide⟩ rfl hl.1 (Nat.le_of_ble_eq_true rfl) d_Mo_begin_246 rfl ?_
                    refine ww_st (st' := [.int v246]) rfl ?_
                    refine ww_istore_n (pc := 249) (i := 3) g.1 (lv' := [(3, .int v246), (2, .int v235), (0, .ref (q.1 0 0)), (1, .int y185_224)]) d_Mo_begin_249 rfl hl (by decide) rfl fun ls hl => ?_
                    refine ww_iload_n (pc := 250) g.1 d_Mo_begin_250 rfl (lv_at hl 0 rfl) ?_
                    refine ww_if_ge (pc := 251) (tgt := 256) g.1 d_Mo_begin_251 (by decide) h (fun c h => ?_) (fun c h => ?_)
                    · refine ww_aload_n (pc := 256) g.1 d_Mo_begin_256 rfl (lv_at hl 2 rfl) ?_
                      refine ww_gR (pc := 257) g (k := 71) cl_Mo (pz rfl (by decide)) (by decide) (Or.inl kw_88) (f := 71) (t := 76) rfl rfl rfl d_Mo_begin_257 ?_
                      refine ww_iconst (pc := 260) g.1 (v := 0) d_Mo_begin_260 (by decide) ?_
                      refine ww_at (pc := 261) g (t := 28) (pz rfl (by decide)) rfl rfl rfl d_Mo_begin_261 h fun ca261 h => ?_
                      refine ww_iconst (pc := 262) g.1 (v := 1) d_Mo_begin_262 (by decide) ?_
                      refine ww_pI (pc := 263) g (k := 1) cl_Th (pt rfl rfl ca261) (by decide) (Or.inl kw_217) rfl (f := 3585) rfl rfl rfl rfl d_Mo_begin_263 h fun s hs h => ?_
                      refine ww_aload_n (pc := 266) g.1 d_Mo_begin_266 rfl (lv_at hl 2 rfl) ?_
                      refine ww_gR (pc := 267) g (k := 71) cl_Mo (pz rfl (by decide)) (by decide) (Or.inl kw_88) (f := 71) (t := 76) rfl rfl rfl d_Mo_begin_267 ?_
                      refine ww_iconst (pc := 270) g.1 (v := 0) d_Mo_begin_270 (by decide) ?_
                      refine ww_at (pc := 271) g (t := 28) (pz rfl (by decide)) rfl rfl rfl d_Mo_begin_271 h fun ca271 h => ?_
                      refine ww_iconst (pc := 272) g.1 (v := 1) d_Mo_begin_272 (by decide) ?_
                      refine ww_pI (pc := 273) g (k := 5) cl_Th (pt rfl rfl ca271) (by decide) (Or.inl kw_219) rfl (f := 3589) rfl rfl rfl rfl d_Mo_begin_273 h fun s hs h => ?_
                      refine ww_aload_n (pc := 276) g.1 d_Mo_begin_276 rfl (lv_at hl 2 rfl) ?_
                      refine ww_aload_n (pc := 277) g.1 d_Mo_begin_277 rfl (lv_at hl 2 rfl) ?_
                      refine ww_gR (pc := 278) g (k := 71) cl_Mo (pz rfl (by decide)) (by decide) (Or.inl kw_88) (f := 71) (t := 76) rfl rfl rfl d_Mo_begin_278 ?_
                      refine ww_iconst (pc := 281) g.1 (v := 0) d_Mo_begin_281 (by decide) ?_
                      refine ww_at (pc := 282) g (t := 28) (pz rfl (by decide)) rfl rfl rfl d_Mo_begin_282 h fun ca282 h => ?_
                      refine ww_st (st' := [vr q 28 0, .ref (q.1 0 0)]) (by rw [vr_nn ca282]) ?_
                      refine ww_pV (pc := 283) g (k := 72) cl_Mo (pz rfl (by decide)) (by decide) (Or.inl kw_150) rfl (f := 72) (t := 28) rfl rfl rfl rfl fits_vr d_Mo_begin_283 h fun s hs h => ?_
                      refine ww_aload_n (pc := 286) g.1 d_Mo_begin_286 rfl (lv_at hl 2 rfl) ?_
                      refine ww_iconst (pc := 287) g.1 (v := 0) d_Mo_begin_287 (by decide) ?_
                      refine ww_pI (pc := 288) g (k := 92) cl_Mo (pz rfl (by decide)) (by decide) (Or.inl kw_458) rfl (f := 92) rfl rfl rfl rfl d_Mo_begin_288 h fun s hs h => ?_
                      refine ww_aload_n (pc := 291) g.1 d_Mo_begin_291 rfl (lv_at hl 2 rfl) ?_
                      refine ww_gR (pc := 292) g (k := 77) cl_Mo (pz rfl (by decide)) (by decide) (Or.inl kw_182) (f := 77) (t := 7) rfl rfl rfl d_Mo_begin_292 ?_
                      refine ww_iconst (pc := 295) g.1 (v := 0) d_Mo_begin_295 (by decide) ?_
                      refine ww_pI (pc := 296) g (k := 2) (cl_Va (Or.inl ⟨by decide, rfl⟩)) (pz rfl (by decide)) (by decide) (Or.inl kw_179) rfl (f := 898) rfl rfl rfl rfl d_Mo_begin_296 h fun s hs h => ?_
                      refine ww_aload_n (pc := 299) g.1 d_Mo_begin_299 rfl (lv_at hl 2 rfl) ?_
                      refine ww_iload_n (pc := 300) g.1 d_Mo_begin_300 rfl (lv_at hl 1 rfl) ?_
                      obtain ⟨v301, s, hc301, h⟩ := oB_of h
                      refine ww_callV (pc := 301) (rest := []) g cv_Mo_enter (Or.inl kw_564) cl_Mo (pz rfl (by decide)) (ct_Mo_enter hc301) ⟨by decide, by decide⟩ rfl hl.1 (Nat.le_of_ble_eq_true rfl) d_Mo_begin_301 rfl ?_
                      refine ww_st (st' := []) rfl ?_
                      refine ww_iconst (pc := 304) g.1 (v := 1) d_Mo_begin_304 (by decide) ?_
                      exact ww_zretH (pc := 305) g h hR (Or.inr rfl) d_Mo_begin_305
                    · refine ww_iconst (pc := 254) g.1 (v := 0) d_Mo_begin_254 (by decide) ?_
                      exact ww_zretH (pc := 255) g h hR (Or.inl rfl) d_Mo_begin_255
                  · refine ww_iconst (pc := 243) g.1 (v := 0) d_Mo_begin_243 (by decide) ?_
                    exact ww_zretH (pc := 244) g h hR (Or.inl rfl) d_Mo_begin_244
            · refine ww_iconst (pc := 86) g.1 (v := 0) d_Mo_begin_86 (by decide) ?_
              exact ww_zretH (pc := 87) g h hR (Or.inl rfl) d_Mo_begin_87
          · refine ww_iconst (pc := 75) g.1 (v := 0) d_Mo_begin_75 (by decide) ?_
            exact ww_zretH (pc := 76) g h hR (Or.inl rfl) d_Mo_begin_76


