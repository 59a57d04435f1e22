abbrev b_Mo_middle : ByteArray := prog_14_method_123_code
def y_Mo_middle : MethodName := ⟨R_Mo, "middle", "(LLuaMachineModel$Thread_;IIIILLuaMachineModel$Values;I)V"⟩
abbrev w_Mo_middle : List Cond := .code y_Mo_middle b_Mo_middle 9 none :: wA
set_option maxRecDepth 20000 in
theorem k_Mo_middle : Cond.code y_Mo_middle b_Mo_middle 9 none ∈ wA := kinm (show _ ∈ tables_1 from (List.mem_append_right _ (List.mem_append_right _ (List.mem_append_right _ (List.mem_append_right _ (List.mem_append_right _ (List.mem_append_right _ (List.mem_append_right _ (List.mem_append_right _ (List.mem_append_right _ (List.mem_append_right _ (List.mem_append_right _ (List.mem_append_right _ (List.mem_append_left _ (List.mem_of_getElem? (l := tables_1_13) (i := 187) rfl))))))))))))))) rfl
theorem d_Mo_middle_0 : decode b_Mo_middle 0 = .ok (.aload_n 1, 1) := by decide +kernel
theorem d_Mo_middle_1 : decode b_Mo_middle 1 = .ok (.getfield 744, 3) := by decide +kernel
theorem d_Mo_middle_4 : decode b_Mo_middle 4 = .ok (.iload_n 2, 1) := by decide +kernel
theorem d_Mo_middle_5 : decode b_Mo_middle 5 = .ok (.iaload, 1) := by decide +kernel
theorem d_Mo_middle_6 : decode b_Mo_middle 6 = .ok (.iload 4, 2) := by decide +kernel
theorem d_Mo_middle_8 : decode b_Mo_middle 8 = .ok (.invokestatic 482, 3) := by decide +kernel
theorem d_Mo_middle_11 : decode b_Mo_middle 11 = .ok (.iadd, 1) := by decide +kernel
theorem d_Mo_middle_12 : decode b_Mo_middle 12 = .ok (.istore 8, 2) := by decide +kernel
theorem d_Mo_middle_14 : decode b_Mo_middle 14 = .ok (.iload 5, 2) := by decide +kernel
theorem d_Mo_middle_16 : decode b_Mo_middle 16 = .ok (.tableswitch 295 27 35 #[52, 82, 114, 166, 295, 295, 295, 200, 240], 52) := by decide +kernel
theorem d_Mo_middle_68 : decode b_Mo_middle 68 = .ok (.aload 6, 2) := by decide +kernel
theorem d_Mo_middle_70 : decode b_Mo_middle 70 = .ok (.iload 7, 2) := by decide +kernel
theorem d_Mo_middle_72 : decode b_Mo_middle 72 = .ok (.aload 6, 2) := by decide +kernel
theorem d_Mo_middle_74 : decode b_Mo_middle 74 = .ok (.getfield 585, 3) := by decide +kernel
theorem d_Mo_middle_77 : decode b_Mo_middle 77 = .ok (.iload 8, 2) := by decide +kernel
theorem d_Mo_middle_79 : decode b_Mo_middle 79 = .ok (.baload, 1) := by decide +kernel
theorem d_Mo_middle_80 : decode b_Mo_middle 80 = .ok (.invokestatic 977, 3) := by decide +kernel
theorem d_Mo_middle_83 : decode b_Mo_middle 83 = .ok (.ifCond .eq 7, 3) := by decide +kernel
theorem d_Mo_middle_86 : decode b_Mo_middle 86 = .ok (.iconst 1, 1) := by decide +kernel
theorem d_Mo_middle_87 : decode b_Mo_middle 87 = .ok (.goto 4, 3) := by decide +kernel
theorem d_Mo_middle_90 : decode b_Mo_middle 90 = .ok (.iconst 2, 1) := by decide +kernel
theorem d_Mo_middle_91 : decode b_Mo_middle 91 = .ok (.lconst 0, 1) := by decide +kernel
theorem d_Mo_middle_92 : decode b_Mo_middle 92 = .ok (.invokevirtual 470, 3) := by decide +kernel
theorem d_Mo_middle_95 : decode b_Mo_middle 95 = .ok (.goto 227, 3) := by decide +kernel
theorem d_Mo_middle_98 : decode b_Mo_middle 98 = .ok (.aload_n 0, 1) := by decide +kernel
theorem d_Mo_middle_99 : decode b_Mo_middle 99 = .ok (.iload 4, 2) := by decide +kernel
theorem d_Mo_middle_101 : decode b_Mo_middle 101 = .ok (.invokestatic 495, 3) := by decide +kernel
theorem d_Mo_middle_104 : decode b_Mo_middle 104 = .ok (.aload 6, 2) := by decide +kernel
theorem d_Mo_middle_106 : decode b_Mo_middle 106 = .ok (.getfield 585, 3) := by decide +kernel
theorem d_Mo_middle_109 : decode b_Mo_middle 109 = .ok (.iload 8, 2) := by decide +kernel
theorem d_Mo_middle_111 : decode b_Mo_middle 111 = .ok (.baload, 1) := by decide +kernel
theorem d_Mo_middle_112 : decode b_Mo_middle 112 = .ok (.aload 6, 2) := by decide +kernel
theorem d_Mo_middle_114 : decode b_Mo_middle 114 = .ok (.getfield 588, 3) := by decide +kernel
theorem d_Mo_middle_117 : decode b_Mo_middle 117 = .ok (.iload 8, 2) := by decide +kernel
theorem d_Mo_middle_119 : decode b_Mo_middle 119 = .ok (.laload, 1) := by decide +kernel
theorem d_Mo_middle_120 : decode b_Mo_middle 120 = .ok (.aload 6, 2) := by decide +kernel
theorem d_Mo_middle_122 : decode b_Mo_middle 122 = .ok (.iload 7, 2) := by decide +kernel
theorem d_Mo_middle_124 : decode b_Mo_middle 124 = .ok (.invokevirtual 980, 3) := by decide +kernel
theorem d_Mo_middle_127 : decode b_Mo_middle 127 = .ok (.goto 195, 3) := by decide +kernel
theorem d_Mo_middle_130 : decode b_Mo_middle 130 = .ok (.aload_n 0, 1) := by decide +kernel
theorem d_Mo_middle_131 : decode b_Mo_middle 131 = .ok (.aload_n 1, 1) := by decide +kernel
theorem d_Mo_middle_132 : decode b_Mo_middle 132 = .ok (.iload_n 2, 1) := by decide +kernel
theorem d_Mo_middle_133 : decode b_Mo_middle 133 = .ok (.iload 4, 2) := by decide +kernel
theorem d_Mo_middle_135 : decode b_Mo_middle 135 = .ok (.invokestatic 479, 3) := by decide +kernel
theorem d_Mo_middle_138 : decode b_Mo_middle 138 = .ok (.iconst 1, 1) := by decide +kernel
theorem d_Mo_middle_139 : decode b_Mo_middle 139 = .ok (.isub, 1) := by decide +kernel
theorem d_Mo_middle_140 : decode b_Mo_middle 140 = .ok (.aload 6, 2) := by decide +kernel
theorem d_Mo_middle_142 : decode b_Mo_middle 142 = .ok (.getfield 585, 3) := by decide +kernel
theorem d_Mo_middle_145 : decode b_Mo_middle 145 = .ok (.aload_n 1, 1) := by decide +kernel
theorem d_Mo_middle_146 : decode b_Mo_middle 146 = .ok (.getfield 744, 3) := by decide +kernel
theorem d_Mo_middle_149 : decode b_Mo_middle 149 = .ok (.iload_n 2, 1) := by decide +kernel
theorem d_Mo_middle_150 : decode b_Mo_middle 150 = .ok (.iaload, 1) := by decide +kernel
theorem d_Mo_middle_151 : decode b_Mo_middle 151 = .ok (.iload 4, 2) := by decide +kernel
theorem d_Mo_middle_153 : decode b_Mo_middle 153 = .ok (.invokestatic 479, 3) := by decide +kernel
theorem d_Mo_middle_156 : decode b_Mo_middle 156 = .ok (.iadd, 1) := by decide +kernel
theorem d_Mo_middle_157 : decode b_Mo_middle 157 = .ok (.baload, 1) := by decide +kernel
theorem d_Mo_middle_158 : decode b_Mo_middle 158 = .ok (.aload 6, 2) := by decide +kernel
theorem d_Mo_middle_160 : decode b_Mo_middle 160 = .ok (.getfield 588, 3) := by decide +kernel
theorem d_Mo_middle_163 : decode b_Mo_middle 163 = .ok (.aload_n 1, 1) := by decide +kernel
theorem d_Mo_middle_164 : decode b_Mo_middle 164 = .ok (.getfield 744, 3) := by decide +kernel
theorem d_Mo_middle_167 : decode b_Mo_middle 167 = .ok (.iload_n 2, 1) := by decide +kernel
theorem d_Mo_middle_168 : decode b_Mo_middle 168 = .ok (.iaload, 1) := by decide +kernel
theorem d_Mo_middle_169 : decode b_Mo_middle 169 = .ok (.iload 4, 2) := by decide +kernel
theorem d_Mo_middle_171 : decode b_Mo_middle 171 = .ok (.invokestatic 479, 3) := by decide +kernel
theorem d_Mo_middle_174 : decode b_Mo_middle 174 = .ok (.iadd, 1) := by decide +kernel
theorem d_Mo_middle_175 : decode b_Mo_middle 175 = .ok (.laload, 1) := by decide +kernel
theorem d_Mo_middle_176 : decode b_Mo_middle 176 = .ok (.invokevirtual 779, 3) := by decide +kernel
theorem d_Mo_middle_179 : decode b_Mo_middle 179 = .ok (.goto 143, 3) := by decide +kernel
theorem d_Mo_middle_182 : decode b_Mo_middle 182 = .ok (.iload 4, 2) := by decide +kernel
theorem d_Mo_middle_184 : decode b_Mo_middle 184 = .ok (.invokestatic 495, 3) := by decide +kernel
theorem d_Mo_middle_187 : decode b_Mo_middle 187 = .ok (.ifCond .eq 12, 3) := by decide +kernel
theorem d_Mo_middle_190 : decode b_Mo_middle 190 = .ok (.aload_n 0, 1) := by decide +kernel
theorem d_Mo_middle_191 : decode b_Mo_middle 191 = .ok (.aload_n 1, 1) := by decide +kernel
theorem d_Mo_middle_192 : decode b_Mo_middle 192 = .ok (.iload 7, 2) := by decide +kernel
theorem d_Mo_middle_194 : decode b_Mo_middle 194 = .ok (.iconst 1, 1) := by decide +kernel
theorem d_Mo_middle_195 : decode b_Mo_middle 195 = .ok (.isub, 1) := by decide +kernel
theorem d_Mo_middle_196 : decode b_Mo_middle 196 = .ok (.invokevirtual 789, 3) := by decide +kernel
theorem d_Mo_middle_199 : decode b_Mo_middle 199 = .ok (.aload_n 1, 1) := by decide +kernel
theorem d_Mo_middle_200 : decode b_Mo_middle 200 = .ok (.getfield 758, 3) := by decide +kernel
theorem d_Mo_middle_203 : decode b_Mo_middle 203 = .ok (.iload_n 2, 1) := by decide +kernel
theorem d_Mo_middle_204 : decode b_Mo_middle 204 = .ok (.dup2, 1) := by decide +kernel
theorem d_Mo_middle_205 : decode b_Mo_middle 205 = .ok (.iaload, 1) := by decide +kernel
theorem d_Mo_middle_206 : decode b_Mo_middle 206 = .ok (.iload 4, 2) := by decide +kernel
theorem d_Mo_middle_208 : decode b_Mo_middle 208 = .ok (.invokestatic 513, 3) := by decide +kernel
theorem d_Mo_middle_211 : decode b_Mo_middle 211 = .ok (.iadd, 1) := by decide +kernel
theorem d_Mo_middle_212 : decode b_Mo_middle 212 = .ok (.iastore, 1) := by decide +kernel
theorem d_Mo_middle_213 : decode b_Mo_middle 213 = .ok (.goto 109, 3) := by decide +kernel
theorem d_Mo_middle_216 : decode b_Mo_middle 216 = .ok (.aload 6, 2) := by decide +kernel
theorem d_Mo_middle_218 : decode b_Mo_middle 218 = .ok (.getfield 585, 3) := by decide +kernel
theorem d_Mo_middle_221 : decode b_Mo_middle 221 = .ok (.iload 7, 2) := by decide +kernel
theorem d_Mo_middle_223 : decode b_Mo_middle 223 = .ok (.baload, 1) := by decide +kernel
theorem d_Mo_middle_224 : decode b_Mo_middle 224 = .ok (.invokestatic 977, 3) := by decide +kernel
theorem d_Mo_middle_227 : decode b_Mo_middle 227 = .ok (.iload 4, 2) := by decide +kernel
theorem d_Mo_middle_229 : decode b_Mo_middle 229 = .ok (.invokestatic 479, 3) := by decide +kernel
theorem d_Mo_middle_232 : decode b_Mo_middle 232 = .ok (.ifCond .ne 7, 3) := by decide +kernel
theorem d_Mo_middle_235 : decode b_Mo_middle 235 = .ok (.iconst 1, 1) := by decide +kernel
theorem d_Mo_middle_236 : decode b_Mo_middle 236 = .ok (.goto 4, 3) := by decide +kernel
theorem d_Mo_middle_239 : decode b_Mo_middle 239 = .ok (.iconst 0, 1) := by decide +kernel
theorem d_Mo_middle_240 : decode b_Mo_middle 240 = .ok (.if_icmp .ne 82, 3) := by decide +kernel
theorem d_Mo_middle_243 : decode b_Mo_middle 243 = .ok (.aload_n 1, 1) := by decide +kernel
theorem d_Mo_middle_244 : decode b_Mo_middle 244 = .ok (.getfield 758, 3) := by decide +kernel
theorem d_Mo_middle_247 : decode b_Mo_middle 247 = .ok (.iload_n 2, 1) := by decide +kernel
theorem d_Mo_middle_248 : decode b_Mo_middle 248 = .ok (.dup2, 1) := by decide +kernel
theorem d_Mo_middle_249 : decode b_Mo_middle 249 = .ok (.iaload, 1) := by decide +kernel
theorem d_Mo_middle_250 : decode b_Mo_middle 250 = .ok (.iconst 1, 1) := by decide +kernel
theorem d_Mo_middle_251 : decode b_Mo_middle 251 = .ok (.iadd, 1) := by decide +kernel
theorem d_Mo_middle_252 : decode b_Mo_middle 252 = .ok (.iastore, 1) := by decide +kernel
theorem d_Mo_middle_253 : decode b_Mo_middle 253 = .ok (.goto 69, 3) := by decide +kernel
theorem d_Mo_middle_256 : decode b_Mo_middle 256 = .ok (.aload 6, 2) := by decide +kernel
theorem d_Mo_middle_258 : decode b_Mo_middle 258 = .ok (.getfield 585, 3) := by decide +kernel
theorem d_Mo_middle_261 : decode b_Mo_middle 261 = .ok (.iload 8, 2) := by decide +kernel
theorem d_Mo_middle_263 : decode b_Mo_middle 263 = .ok (.baload, 1) := by decide +kernel
theorem d_Mo_middle_264 : decode b_Mo_middle 264 = .ok (.invokestatic 977, 3) := by decide +kernel
theorem d_Mo_middle_267 : decode b_Mo_middle 267 = .ok (.iload 4, 2) := by decide +kernel
theorem d_Mo_middle_269 : decode b_Mo_middle 269 = .ok (.invokestatic 479, 3) := by decide +kernel
theorem d_Mo_middle_272 : decode b_Mo_middle 272 = .ok (.iconst 1, 1) := by decide +kernel
theorem d_Mo_middle_273 : decode b_Mo_middle 273 = .ok (.if_icmp .ne 7, 3) := by decide +kernel
theorem d_Mo_middle_276 : decode b_Mo_middle 276 = .ok (.iconst 1, 1) := by decide +kernel
theorem d_Mo_middle_277 : decode b_Mo_middle 277 = .ok (.goto 4, 3) := by decide +kernel
theorem d_Mo_middle_280 : decode b_Mo_middle 280 = .ok (.iconst 0, 1) := by decide +kernel
theorem d_Mo_middle_281 : decode b_Mo_middle 281 = .ok (.if_icmp .ne 17, 3) := by decide +kernel
theorem d_Mo_middle_284 : decode b_Mo_middle 284 = .ok (.aload 6, 2) := by decide +kernel
theorem d_Mo_middle_286 : decode b_Mo_middle 286 = .ok (.iload 7, 2) := by decide +kernel
theorem d_Mo_middle_288 : decode b_Mo_middle 288 = .ok (.aload 6, 2) := by decide +kernel
theorem d_Mo_middle_290 : decode b_Mo_middle 290 = .ok (.iload 8, 2) := by decide +kernel
theorem d_Mo_middle_292 : decode b_Mo_middle 292 = .ok (.invokevirtual 719, 3) := by decide +kernel
theorem d_Mo_middle_295 : decode b_Mo_middle 295 = .ok (.goto 27, 3) := by decide +kernel
theorem d_Mo_middle_298 : decode b_Mo_middle 298 = .ok (.aload_n 1, 1) := by decide +kernel
theorem d_Mo_middle_299 : decode b_Mo_middle 299 = .ok (.getfield 758, 3) := by decide +kernel
theorem d_Mo_middle_302 : decode b_Mo_middle 302 = .ok (.iload_n 2, 1) := by decide +kernel
theorem d_Mo_middle_303 : decode b_Mo_middle 303 = .ok (.dup2, 1) := by decide +kernel
theorem d_Mo_middle_304 : decode b_Mo_middle 304 = .ok (.iaload, 1) := by decide +kernel
theorem d_Mo_middle_305 : decode b_Mo_middle 305 = .ok (.iconst 1, 1) := by decide +kernel
theorem d_Mo_middle_306 : decode b_Mo_middle 306 = .ok (.iadd, 1) := by decide +kernel
theorem d_Mo_middle_307 : decode b_Mo_middle 307 = .ok (.iastore, 1) := by decide +kernel
theorem d_Mo_middle_308 : decode b_Mo_middle 308 = .ok (.goto 14, 3) := by decide +kernel
theorem d_Mo_middle_311 : decode b_Mo_middle 311 = .ok (.aload_n 0, 1) := by decide +kernel
theorem d_Mo_middle_312 : decode b_Mo_middle 312 = .ok (.aload_n 1, 1) := by decide +kernel
theorem d_Mo_middle_313 : decode b_Mo_middle 313 = .ok (.iload_n 2, 1) := by decide +kernel
theorem d_Mo_middle_314 : decode b_Mo_middle 314 = .ok (.iload_n 3, 1) := by decide +kernel
theorem d_Mo_middle_315 : decode b_Mo_middle 315 = .ok (.iload 4, 2) := by decide +kernel
theorem d_Mo_middle_317 : decode b_Mo_middle 317 = .ok (.iload 5, 2) := by decide +kernel
theorem d_Mo_middle_319 : decode b_Mo_middle 319 = .ok (.invokevirtual 983, 3) := by decide +kernel
theorem d_Mo_middle_322 : decode b_Mo_middle 322 = .ok (.return_, 1) := by decide +kernel
abbrev b_Mo_truth : ByteArray := prog_14_method_122_code
def y_Mo_truth : MethodName := ⟨R_Mo, "truth", "(I)Z"⟩
abbrev w_Mo_truth : List Cond := .code y_Mo_truth b_Mo_truth 1 (some .boolean) :: wA
theorem k_Mo_truth : Cond.code y_Mo_truth b_Mo_truth 1 (some .boolean) ∈ wA := kinm (show _ ∈ tables_1 from (List.mem_append_right _ (List.mem_append_right _ (List.mem_append_right _ (List.mem_append_right _ (List.mem_append_right _ (List.mem_append_right _ (List.mem_append_right _ (List.mem_append_right _ (List.mem_append_right _ (List.mem_append_right _ (List.mem_append_right _ (List.mem_append_right _ (List.mem_append_left _ (List.mem_of_getElem? (l := tables_1_13) (i := 190) (by decide +kernel)))))))))))))))) (by decide +kernel)
theorem d_Mo_truth_0 : decode b_Mo_truth 0 = .ok (.iload_n 0, 1) := by decide +kernel
theorem d_Mo_truth_1 : decode b_Mo_truth 1 = .ok (.iconst 1, 1) := by decide +kernel
theorem d_Mo_truth_2 : decode b_Mo_truth 2 = .ok (.if_icmp .le 7, 3) := by decide +kernel
theorem d_Mo_truth_5 : decode b_Mo_truth 5 = .ok (.iconst 1, 1) := by decide +kernel
theorem d_Mo_truth_6 : decode b_Mo_truth 6 = .ok (.goto 4, 3) := by decide +kernel
theorem d_Mo_truth_9 : decode b_Mo_truth 9 = .ok (.iconst 0, 1) := by decide +kernel
theorem d_Mo_truth_10 : decode b_Mo_truth 10 = .ok (.ireturn, 1) := by decide +kernel
theorem kw_273 : Cond.static y_Mo_truth ∈ wA := kinm (show _ ∈ tables_1 from (List.mem_append_right _ (List.mem_append_right _ (List.mem_append_right _ (List.mem_append_right _ (List.mem_append_right _ (List.mem_append_right _ (List.mem_append_right _ (List.mem_append_right _ (List.mem_append_right _ (List.mem_append_right _ (List.mem_append_right _ (List.mem_append_right _ (List.mem_append_left _ (List.mem_of_getElem? (l := tables_1_13) (i := 189) (by decide +kernel)))))))))))))))) (by decide +kernel)
def M_Mo_truth (l0 : Int32) : M (Int32) :=
  oC (l0 ≤ 1)
    (oR 0)
    (oR 1)

theorem cs_Mo_truth : CS y_Mo_truth b_Mo_truth 1 (some .boolean) 1 := ⟨kw_273, kw_17, k_Mo_truth, by decide +kernel⟩
theorem ct_Mo_truth {l : Launch} {P : PP} {q : PL} {s s' : S1} {l0 : Int32} {r : Int32} (h : M_Mo_truth l0 s = some (r, s')) : Ct l y_Mo_truth b_Mo_truth 1 (some .boolean) 0 0 P q s [.int l0] (some (.int r)) q s' := by
  refine ct_of (by decide) (Nat.le_of_ble_eq_true rfl) fun X ls eP el g hR hl => ?_
  have hR : Rt X q ((r, s') : Int32 × S1).2 (some (.int ((r, s') : Int32 × S1).1)) := hR
  have hl : lv_has ls 1 [(0, .int l0)] := hl
  generalize (r, s') = o at h hR
  unfold M_Mo_truth at h
  refine ww_iload_n (pc := 0) g.1 d_Mo_truth_0 rfl (lv_at hl 0 rfl) ?_
  refine ww_iconst (pc := 1) g.1 (v := 1) d_Mo_truth_1 (by decide) ?_
  refine ww_icmp_le (pc := 2) (tgt := 9) g.1 d_Mo_truth_2 (by decide) h (fun c h => ?_) (fun c h => ?_)
  · refine ww_iconst (pc := 9) g.1 (v := 0) d_Mo_truth_9 (by decide) ?_
    exact ww_zretH (pc := 10) g h hR (Or.inl rfl) d_Mo_truth_10
  · refine ww_iconst (pc := 5) g.1 (v := 1) d_Mo_truth_5 (by decide) ?_
    refine ww_goto (pc := 6) (tgt := 10) g.1 d_Mo_truth_6 (by decide) ?_
    exact ww_zretH (pc := 10) g h hR (Or.inr rfl) d_Mo_truth_10

abbrev b_Mo_length : ByteArray := prog_14_method_124_code
def y_Mo_length : MethodName := ⟨R_Mo, "length", "(IIJLLuaMachineModel$Values;I)V"⟩
abbrev w_Mo_length : List Cond := .code y_Mo_length b_Mo_length 10 none :: wA
theorem k_Mo_length : Cond.code y_Mo_length b_Mo_length 10 none ∈ wA := kinm (show _ ∈ tables_1 from (List.mem_append_right _ (List.mem_append_right _ (List.mem_append_right _ (List.mem_append_right _ (List.mem_append_right _ (List.mem_append_right _ (List.mem_append_right _ (List.mem_append_right _ (List.mem_append_right _ (List.mem_append_right _ (List.mem_append_right _ (List.mem_append_right _ (List.mem_append_left _ (List.mem_of_getElem? (l := tables_1_13) (i := 194) (by decide +kernel)))))))))))))))) (by decide +kernel)
theorem d_Mo_length_0 : decode b_Mo_length 0 = .ok (.iload_n 2, 1) := by decide +kernel
theorem d_Mo_length_1 : decode b_Mo_length 1 = .ok (.iconst 4, 1) := by decide +kernel
theorem d_Mo_length_2 : decode b_Mo_length 2 = .ok (.if_icmp .ne 22, 3) := by decide +kernel
theorem d_Mo_length_5 : decode b_Mo_length 5 = .ok (.aload 5, 2) := by decide +kernel
theorem d_Mo_length_7 : decode b_Mo_length 7 = .ok (.iload 6, 2) := by decide +kernel
theorem d_Mo_length_9 : decode b_Mo_length 9 = .ok (.iconst 3, 1) := by decide +kernel
theorem d_Mo_length_10 : decode b_Mo_length 10 = .ok (.aload_n 0, 1) := by decide +kernel
theorem d_Mo_length_11 : decode b_Mo_length 11 = .ok (.getfield 171, 3) := by decide +kernel
theorem d_Mo_length_14 : decode b_Mo_length 14 = .ok (.lload_n 3, 1) := by decide +kernel
theorem d_Mo_length_15 : decode b_Mo_length 15 = .ok (.l2i, 1) := by decide +kernel
theorem d_Mo_length_16 : decode b_Mo_length 16 = .ok (.iaload, 1) := by decide +kernel
theorem d_Mo_length_17 : decode b_Mo_length 17 = .ok (.i2l, 1) := by decide +kernel
theorem d_Mo_length_18 : decode b_Mo_length 18 = .ok (.invokevirtual 470, 3) := by decide +kernel
theorem d_Mo_length_21 : decode b_Mo_length 21 = .ok (.goto 98, 3) := by decide +kernel
theorem d_Mo_length_24 : decode b_Mo_length 24 = .ok (.iload_n 2, 1) := by decide +kernel
theorem d_Mo_length_25 : decode b_Mo_length 25 = .ok (.iconst 5, 1) := by decide +kernel
theorem d_Mo_length_26 : decode b_Mo_length 26 = .ok (.if_icmp .eq 12, 3) := by decide +kernel
theorem d_Mo_length_29 : decode b_Mo_length 29 = .ok (.aload_n 0, 1) := by decide +kernel
theorem d_Mo_length_30 : decode b_Mo_length 30 = .ok (.iconst 2, 1) := by decide +kernel
theorem d_Mo_length_31 : decode b_Mo_length 31 = .ok (.invokevirtual 517, 3) := by decide +kernel
theorem d_Mo_length_34 : decode b_Mo_length 34 = .ok (.pop, 1) := by decide +kernel
theorem d_Mo_length_35 : decode b_Mo_length 35 = .ok (.goto 84, 3) := by decide +kernel
theorem d_Mo_length_38 : decode b_Mo_length 38 = .ok (.aload_n 0, 1) := by decide +kernel
theorem d_Mo_length_39 : decode b_Mo_length 39 = .ok (.iload_n 2, 1) := by decide +kernel
theorem d_Mo_length_40 : decode b_Mo_length 40 = .ok (.lload_n 3, 1) := by decide +kernel
theorem d_Mo_length_41 : decode b_Mo_length 41 = .ok (.bipush 16, 2) := by decide +kernel
theorem d_Mo_length_43 : decode b_Mo_length 43 = .ok (.invokevirtual 715, 3) := by decide +kernel
theorem d_Mo_length_46 : decode b_Mo_length 46 = .ok (.ifCond .eq 59, 3) := by decide +kernel
theorem d_Mo_length_49 : decode b_Mo_length 49 = .ok (.aload_n 0, 1) := by decide +kernel
theorem d_Mo_length_50 : decode b_Mo_length 50 = .ok (.getfield 222, 3) := by decide +kernel
theorem d_Mo_length_53 : decode b_Mo_length 53 = .ok (.istore 7, 2) := by decide +kernel
theorem d_Mo_length_55 : decode b_Mo_length 55 = .ok (.aload_n 0, 1) := by decide +kernel
theorem d_Mo_length_56 : decode b_Mo_length 56 = .ok (.getfield 225, 3) := by decide +kernel
theorem d_Mo_length_59 : decode b_Mo_length 59 = .ok (.lstore 8, 2) := by decide +kernel
theorem d_Mo_length_61 : decode b_Mo_length 61 = .ok (.aload_n 0, 1) := by decide +kernel
theorem d_Mo_length_62 : decode b_Mo_length 62 = .ok (.getfield 259, 3) := by decide +kernel
theorem d_Mo_length_65 : decode b_Mo_length 65 = .ok (.iconst 0, 1) := by decide +kernel
theorem d_Mo_length_66 : decode b_Mo_length 66 = .ok (.putfield 569, 3) := by decide +kernel
theorem d_Mo_length_69 : decode b_Mo_length 69 = .ok (.aload_n 0, 1) := by decide +kernel
theorem d_Mo_length_70 : decode b_Mo_length 70 = .ok (.getfield 259, 3) := by decide +kernel
theorem d_Mo_length_73 : decode b_Mo_length 73 = .ok (.iload_n 2, 1) := by decide +kernel
theorem d_Mo_length_74 : decode b_Mo_length 74 = .ok (.lload_n 3, 1) := by decide +kernel
theorem d_Mo_length_75 : decode b_Mo_length 75 = .ok (.invokevirtual 572, 3) := by decide +kernel
theorem d_Mo_length_78 : decode b_Mo_length 78 = .ok (.aload_n 0, 1) := by decide +kernel
theorem d_Mo_length_79 : decode b_Mo_length 79 = .ok (.iconst 1, 1) := by decide +kernel
theorem d_Mo_length_80 : decode b_Mo_length 80 = .ok (.iload_n 1, 1) := by decide +kernel
theorem d_Mo_length_81 : decode b_Mo_length 81 = .ok (.iconst 1, 1) := by decide +kernel
theorem d_Mo_length_82 : decode b_Mo_length 82 = .ok (.invokevirtual 947, 3) := by decide +kernel
theorem d_Mo_length_85 : decode b_Mo_length 85 = .ok (.aload_n 0, 1) := by decide +kernel
theorem d_Mo_length_86 : decode b_Mo_length 86 = .ok (.iload 7, 2) := by decide +kernel
theorem d_Mo_length_88 : decode b_Mo_length 88 = .ok (.putfield 253, 3) := by decide +kernel
theorem d_Mo_length_91 : decode b_Mo_length 91 = .ok (.aload_n 0, 1) := by decide +kernel
theorem d_Mo_length_92 : decode b_Mo_length 92 = .ok (.lload 8, 2) := by decide +kernel
theorem d_Mo_length_94 : decode b_Mo_length 94 = .ok (.putfield 256, 3) := by decide +kernel
theorem d_Mo_length_97 : decode b_Mo_length 97 = .ok (.aload_n 0, 1) := by decide +kernel
theorem d_Mo_length_98 : decode b_Mo_length 98 = .ok (.iconst 1, 1) := by decide +kernel
theorem d_Mo_length_99 : decode b_Mo_length 99 = .ok (.putfield 247, 3) := by decide +kernel
theorem d_Mo_length_102 : decode b_Mo_length 102 = .ok (.goto 17, 3) := by decide +kernel
theorem d_Mo_length_105 : decode b_Mo_length 105 = .ok (.aload 5, 2) := by decide +kernel
theorem d_Mo_length_107 : decode b_Mo_length 107 = .ok (.iload 6, 2) := by decide +kernel
theorem d_Mo_length_109 : decode b_Mo_length 109 = .ok (.iconst 3, 1) := by decide +kernel
theorem d_Mo_length_110 : decode b_Mo_length 110 = .ok (.aload_n 0, 1) := by decide +kernel
theorem d_Mo_length_111 : decode b_Mo_length 111 = .ok (.lload_n 3, 1) := by decide +kernel
theorem d_Mo_length_112 : decode b_Mo_length 112 = .ok (.l2i, 1) := by decide +kernel
theorem d_Mo_length_113 : decode b_Mo_length 113 = .ok (.invokevirtual 847, 3) := by decide +kernel
theorem d_Mo_length_116 : decode b_Mo_length 116 = .ok (.invokevirtual 470, 3) := by decide +kernel
theorem d_Mo_length_119 : decode b_Mo_length 119 = .ok (.return_, 1) := by decide +kernel
abbrev b_Mo_compare : ByteArray := prog_14_method_126_code
def y_Mo_compare : MethodName := ⟨R_Mo, "compare", "(LLuaMachineModel$Thread_;IIII)V"⟩
abbrev w_Mo_compare : List Cond := .code y_Mo_compare b_Mo_compare 14 none :: wA
set_option maxRecDepth 20000 in
theorem k_Mo_compare : Cond.code y_Mo_compare b_Mo_compare 14 none ∈ wA := kinm (show _ ∈ tables_1 from (List.mem_append_right _ (List.mem_append_right _ (List.mem_append_right _ (List.mem_append_right _ (List.mem_append_right _ (List.mem_append_right _ (List.mem_append_right _ (List.mem_append_right _ (List.mem_append_right _ (List.mem_append_right _ (List.mem_append_right _ (List.mem_append_right _ (List.mem_append_left _ (List.mem_of_getElem? (l := tables_1_13) (i := 198) rfl))))))))))))))) rfl
theorem d_Mo_compare_0 : decode b_Mo_compare 0 = .ok (.aload_n 0, 1) := by decide +kernel
theorem d_Mo_compare_1 : decode b_Mo_compare 1 = .ok (.aload_n 1, 1) := by decide +kernel
theorem d_Mo_compare_2 : decode b_Mo_compare 2 = .ok (.iload_n 2, 1) := by decide +kernel
theorem d_Mo_compare_3 : decode b_Mo_compare 3 = .ok (.iload_n 3, 1) := by decide +kernel
theorem d_Mo_compare_4 : decode b_Mo_compare 4 = .ok (.iload 4, 2) := by decide +kernel
theorem d_Mo_compare_6 : decode b_Mo_compare 6 = .ok (.invokestatic 482, 3) := by decide +kernel
theorem d_Mo_compare_9 : decode b_Mo_compare 9 = .ok (.invokevirtual 929, 3) := by decide +kernel
theorem d_Mo_compare_12 : decode b_Mo_compare 12 = .ok (.aload_n 0, 1) := by decide +kernel
theorem d_Mo_compare_13 : decode b_Mo_compare 13 = .ok (.getfield 437, 3) := by decide +kernel
theorem d_Mo_compare_16 : decode b_Mo_compare 16 = .ok (.istore 6, 2) := by decide +kernel
theorem d_Mo_compare_18 : decode b_Mo_compare 18 = .ok (.aload_n 0, 1) := by decide +kernel
theorem d_Mo_compare_19 : decode b_Mo_compare 19 = .ok (.getfield 440, 3) := by decide +kernel
theorem d_Mo_compare_22 : decode b_Mo_compare 22 = .ok (.lstore 7, 2) := by decide +kernel
theorem d_Mo_compare_24 : decode b_Mo_compare 24 = .ok (.aload_n 0, 1) := by decide +kernel
theorem d_Mo_compare_25 : decode b_Mo_compare 25 = .ok (.aload_n 1, 1) := by decide +kernel
theorem d_Mo_compare_26 : decode b_Mo_compare 26 = .ok (.iload_n 2, 1) := by decide +kernel
theorem d_Mo_compare_27 : decode b_Mo_compare 27 = .ok (.iload_n 3, 1) := by decide +kernel
theorem d_Mo_compare_28 : decode b_Mo_compare 28 = .ok (.iload 4, 2) := by decide +kernel
theorem d_Mo_compare_30 : decode b_Mo_compare 30 = .ok (.invokestatic 479, 3) := by decide +kernel
theorem d_Mo_compare_33 : decode b_Mo_compare 33 = .ok (.invokevirtual 929, 3) := by decide +kernel
theorem d_Mo_compare_36 : decode b_Mo_compare 36 = .ok (.aload_n 0, 1) := by decide +kernel
theorem d_Mo_compare_37 : decode b_Mo_compare 37 = .ok (.getfield 437, 3) := by decide +kernel
theorem d_Mo_compare_40 : decode b_Mo_compare 40 = .ok (.istore 9, 2) := by decide +kernel
theorem d_Mo_compare_42 : decode b_Mo_compare 42 = .ok (.aload_n 0, 1) := by decide +kernel
theorem d_Mo_compare_43 : decode b_Mo_compare 43 = .ok (.getfield 440, 3) := by decide +kernel
theorem d_Mo_compare_46 : decode b_Mo_compare 46 = .ok (.lstore 10, 2) := by decide +kernel
theorem d_Mo_compare_48 : decode b_Mo_compare 48 = .ok (.iload 5, 2) := by decide +kernel
theorem d_Mo_compare_50 : decode b_Mo_compare 50 = .ok (.bipush 31, 2) := by decide +kernel
theorem d_Mo_compare_52 : decode b_Mo_compare 52 = .ok (.if_icmp .ne 71, 3) := by decide +kernel
theorem d_Mo_compare_55 : decode b_Mo_compare 55 = .ok (.iload 6, 2) := by decide +kernel
theorem d_Mo_compare_57 : decode b_Mo_compare 57 = .ok (.iload 9, 2) := by decide +kernel
theorem d_Mo_compare_59 : decode b_Mo_compare 59 = .ok (.if_icmp .ne 15, 3) := by decide +kernel
theorem d_Mo_compare_62 : decode b_Mo_compare 62 = .ok (.lload 7, 2) := by decide +kernel
theorem d_Mo_compare_64 : decode b_Mo_compare 64 = .ok (.lload 10, 2) := by decide +kernel
theorem d_Mo_compare_66 : decode b_Mo_compare 66 = .ok (.lcmp, 1) := by decide +kernel
theorem d_Mo_compare_67 : decode b_Mo_compare 67 = .ok (.ifCond .ne 7, 3) := by decide +kernel
theorem d_Mo_compare_70 : decode b_Mo_compare 70 = .ok (.iconst 1, 1) := by decide +kernel
theorem d_Mo_compare_71 : decode b_Mo_compare 71 = .ok (.goto 4, 3) := by decide +kernel
theorem d_Mo_compare_74 : decode b_Mo_compare 74 = .ok (.iconst 0, 1) := by decide +kernel
theorem d_Mo_compare_75 : decode b_Mo_compare 75 = .ok (.istore 12, 2) := by decide +kernel
theorem d_Mo_compare_77 : decode b_Mo_compare 77 = .ok (.iload 12, 2) := by decide +kernel
theorem d_Mo_compare_79 : decode b_Mo_compare 79 = .ok (.ifCond .ne 203, 3) := by decide +kernel
theorem d_Mo_compare_82 : decode b_Mo_compare 82 = .ok (.iload 6, 2) := by decide +kernel
theorem d_Mo_compare_84 : decode b_Mo_compare 84 = .ok (.iconst 5, 1) := by decide +kernel
theorem d_Mo_compare_85 : decode b_Mo_compare 85 = .ok (.if_icmp .ne 197, 3) := by decide +kernel
theorem d_Mo_compare_88 : decode b_Mo_compare 88 = .ok (.iload 9, 2) := by decide +kernel
theorem d_Mo_compare_90 : decode b_Mo_compare 90 = .ok (.iconst 5, 1) := by decide +kernel
theorem d_Mo_compare_91 : decode b_Mo_compare 91 = .ok (.if_icmp .ne 191, 3) := by decide +kernel
theorem d_Mo_compare_94 : decode b_Mo_compare 94 = .ok (.aload_n 0, 1) := by decide +kernel
theorem d_Mo_compare_95 : decode b_Mo_compare 95 = .ok (.iconst 2, 1) := by decide +kernel
theorem d_Mo_compare_96 : decode b_Mo_compare 96 = .ok (.iload 4, 2) := by decide +kernel
theorem d_Mo_compare_98 : decode b_Mo_compare 98 = .ok (.invokestatic 495, 3) := by decide +kernel
theorem d_Mo_compare_101 : decode b_Mo_compare 101 = .ok (.iconst 1, 1) := by decide +kernel
theorem d_Mo_compare_102 : decode b_Mo_compare 102 = .ok (.invokevirtual 947, 3) := by decide +kernel
theorem d_Mo_compare_105 : decode b_Mo_compare 105 = .ok (.aload_n 0, 1) := by decide +kernel
theorem d_Mo_compare_106 : decode b_Mo_compare 106 = .ok (.bipush 17, 2) := by decide +kernel
theorem d_Mo_compare_108 : decode b_Mo_compare 108 = .ok (.iload 6, 2) := by decide +kernel
theorem d_Mo_compare_110 : decode b_Mo_compare 110 = .ok (.lload 7, 2) := by decide +kernel
theorem d_Mo_compare_112 : decode b_Mo_compare 112 = .ok (.iload 9, 2) := by decide +kernel
theorem d_Mo_compare_114 : decode b_Mo_compare 114 = .ok (.lload 10, 2) := by decide +kernel
theorem d_Mo_compare_116 : decode b_Mo_compare 116 = .ok (.invokevirtual 956, 3) := by decide +kernel
theorem d_Mo_compare_119 : decode b_Mo_compare 119 = .ok (.ifCond .eq 163, 3) := by decide +kernel
theorem d_Mo_compare_122 : decode b_Mo_compare 122 = .ok (.return_, 1) := by decide +kernel
theorem d_Mo_compare_123 : decode b_Mo_compare 123 = .ok (.iload 6, 2) := by decide +kernel
theorem d_Mo_compare_125 : decode b_Mo_compare 125 = .ok (.iconst 3, 1) := by decide +kernel
theorem d_Mo_compare_126 : decode b_Mo_compare 126 = .ok (.if_icmp .ne 50, 3) := by decide +kernel
theorem d_Mo_compare_129 : decode b_Mo_compare 129 = .ok (.iload 9, 2) := by decide +kernel
theorem d_Mo_compare_131 : decode b_Mo_compare 131 = .ok (.iconst 3, 1) := by decide +kernel
theorem d_Mo_compare_132 : decode b_Mo_compare 132 = .ok (.if_icmp .ne 44, 3) := by decide +kernel
theorem d_Mo_compare_135 : decode b_Mo_compare 135 = .ok (.iload 5, 2) := by decide +kernel
theorem d_Mo_compare_137 : decode b_Mo_compare 137 = .ok (.bipush 32, 2) := by decide +kernel
theorem d_Mo_compare_139 : decode b_Mo_compare 139 = .ok (.if_icmp .ne 19, 3) := by decide +kernel
theorem d_Mo_compare_142 : decode b_Mo_compare 142 = .ok (.lload 7, 2) := by decide +kernel
theorem d_Mo_compare_144 : decode b_Mo_compare 144 = .ok (.lload 10, 2) := by decide +kernel
theorem d_Mo_compare_146 : decode b_Mo_compare 146 = .ok (.lcmp, 1) := by decide +kernel
theorem d_Mo_compare_147 : decode b_Mo_compare 147 = .ok (.ifCond .ge 7, 3) := by decide +kernel
theorem d_Mo_compare_150 : decode b_Mo_compare 150 = .ok (.iconst 1, 1) := by decide +kernel
theorem d_Mo_compare_151 : decode b_Mo_compare 151 = .ok (.goto 20, 3) := by decide +kernel
theorem d_Mo_compare_154 : decode b_Mo_compare 154 = .ok (.iconst 0, 1) := by decide +kernel
theorem d_Mo_compare_155 : decode b_Mo_compare 155 = .ok (.goto 16, 3) := by decide +kernel
theorem d_Mo_compare_158 : decode b_Mo_compare 158 = .ok (.lload 7, 2) := by decide +kernel
theorem d_Mo_compare_160 : decode b_Mo_compare 160 = .ok (.lload 10, 2) := by decide +kernel
theorem d_Mo_compare_162 : decode b_Mo_compare 162 = .ok (.lcmp, 1) := by decide +kernel
theorem d_Mo_compare_163 : decode b_Mo_compare 163 = .ok (.ifCond .gt 7, 3) := by decide +kernel
theorem d_Mo_compare_166 : decode b_Mo_compare 166 = .ok (.iconst 1, 1) := by decide +kernel
theorem d_Mo_compare_167 : decode b_Mo_compare 167 = .ok (.goto 4, 3) := by decide +kernel
theorem d_Mo_compare_170 : decode b_Mo_compare 170 = .ok (.iconst 0, 1) := by decide +kernel
theorem d_Mo_compare_171 : decode b_Mo_compare 171 = .ok (.istore 12, 2) := by decide +kernel
theorem d_Mo_compare_173 : decode b_Mo_compare 173 = .ok (.goto 109, 3) := by decide +kernel
theorem d_Mo_compare_176 : decode b_Mo_compare 176 = .ok (.iload 6, 2) := by decide +kernel
theorem d_Mo_compare_178 : decode b_Mo_compare 178 = .ok (.iconst 4, 1) := by decide +kernel
theorem d_Mo_compare_179 : decode b_Mo_compare 179 = .ok (.if_icmp .ne 56, 3) := by decide +kernel
theorem d_Mo_compare_182 : decode b_Mo_compare 182 = .ok (.iload 9, 2) := by decide +kernel
theorem d_Mo_compare_184 : decode b_Mo_compare 184 = .ok (.iconst 4, 1) := by decide +kernel
theorem d_Mo_compare_185 : decode b_Mo_compare 185 = .ok (.if_icmp .ne 50, 3) := by decide +kernel
theorem d_Mo_compare_188 : decode b_Mo_compare 188 = .ok (.aload_n 0, 1) := by decide +kernel
theorem d_Mo_compare_189 : decode b_Mo_compare 189 = .ok (.lload 7, 2) := by decide +kernel
theorem d_Mo_compare_191 : decode b_Mo_compare 191 = .ok (.l2i, 1) := by decide +kernel
theorem d_Mo_compare_192 : decode b_Mo_compare 192 = .ok (.lload 10, 2) := by decide +kernel
theorem d_Mo_compare_194 : decode b_Mo_compare 194 = .ok (.l2i, 1) := by decide +kernel
theorem d_Mo_compare_195 : decode b_Mo_compare 195 = .ok (.invokevirtual 988, 3) := by decide +kernel
theorem d_Mo_compare_198 : decode b_Mo_compare 198 = .ok (.istore 13, 2) := by decide +kernel
theorem d_Mo_compare_200 : decode b_Mo_compare 200 = .ok (.iload 5, 2) := by decide +kernel
theorem d_Mo_compare_202 : decode b_Mo_compare 202 = .ok (.bipush 32, 2) := by decide +kernel
theorem d_Mo_compare_204 : decode b_Mo_compare 204 = .ok (.if_icmp .ne 16, 3) := by decide +kernel
theorem d_Mo_compare_207 : decode b_Mo_compare 207 = .ok (.iload 13, 2) := by decide +kernel
theorem d_Mo_compare_209 : decode b_Mo_compare 209 = .ok (.ifCond .ge 7, 3) := by decide +kernel
theorem d_Mo_compare_212 : decode b_Mo_compare 212 = .ok (.iconst 1, 1) := by decide +kernel
theorem d_Mo_compare_213 : decode b_Mo_compare 213 = .ok (.goto 17, 3) := by decide +kernel
theorem d_Mo_compare_216 : decode b_Mo_compare 216 = .ok (.iconst 0, 1) := by decide +kernel
theorem d_Mo_compare_217 : decode b_Mo_compare 217 = .ok (.goto 13, 3) := by decide +kernel
theorem d_Mo_compare_220 : decode b_Mo_compare 220 = .ok (.iload 13, 2) := by decide +kernel
theorem d_Mo_compare_222 : decode b_Mo_compare 222 = .ok (.ifCond .gt 7, 3) := by decide +kernel
theorem d_Mo_compare_225 : decode b_Mo_compare 225 = .ok (.iconst 1, 1) := by decide +kernel
theorem d_Mo_compare_226 : decode b_Mo_compare 226 = .ok (.goto 4, 3) := by decide +kernel
theorem d_Mo_compare_229 : decode b_Mo_compare 229 = .ok (.iconst 0, 1) := by decide +kernel
theorem d_Mo_compare_230 : decode b_Mo_compare 230 = .ok (.istore 12, 2) := by decide +kernel
theorem d_Mo_compare_232 : decode b_Mo_compare 232 = .ok (.goto 50, 3) := by decide +kernel
theorem d_Mo_compare_235 : decode b_Mo_compare 235 = .ok (.aload_n 0, 1) := by decide +kernel
theorem d_Mo_compare_236 : decode b_Mo_compare 236 = .ok (.iconst 2, 1) := by decide +kernel
theorem d_Mo_compare_237 : decode b_Mo_compare 237 = .ok (.iload 4, 2) := by decide +kernel
theorem d_Mo_compare_239 : decode b_Mo_compare 239 = .ok (.invokestatic 495, 3) := by decide +kernel
theorem d_Mo_compare_242 : decode b_Mo_compare 242 = .ok (.iconst 1, 1) := by decide +kernel
theorem d_Mo_compare_243 : decode b_Mo_compare 243 = .ok (.invokevirtual 947, 3) := by decide +kernel
theorem d_Mo_compare_246 : decode b_Mo_compare 246 = .ok (.aload_n 0, 1) := by decide +kernel
theorem d_Mo_compare_247 : decode b_Mo_compare 247 = .ok (.iload 5, 2) := by decide +kernel
theorem d_Mo_compare_249 : decode b_Mo_compare 249 = .ok (.bipush 32, 2) := by decide +kernel
theorem d_Mo_compare_251 : decode b_Mo_compare 251 = .ok (.if_icmp .ne 8, 3) := by decide +kernel
theorem d_Mo_compare_254 : decode b_Mo_compare 254 = .ok (.bipush 18, 2) := by decide +kernel
theorem d_Mo_compare_256 : decode b_Mo_compare 256 = .ok (.goto 5, 3) := by decide +kernel
theorem d_Mo_compare_259 : decode b_Mo_compare 259 = .ok (.bipush 19, 2) := by decide +kernel
theorem d_Mo_compare_261 : decode b_Mo_compare 261 = .ok (.iload 6, 2) := by decide +kernel
theorem d_Mo_compare_263 : decode b_Mo_compare 263 = .ok (.lload 7, 2) := by decide +kernel
theorem d_Mo_compare_265 : decode b_Mo_compare 265 = .ok (.iload 9, 2) := by decide +kernel
theorem d_Mo_compare_267 : decode b_Mo_compare 267 = .ok (.lload 10, 2) := by decide +kernel
theorem d_Mo_compare_269 : decode b_Mo_compare 269 = .ok (.invokevirtual 956, 3) := by decide +kernel
theorem d_Mo_compare_272 : decode b_Mo_compare 272 = .ok (.ifCond .ne 9, 3) := by decide +kernel
theorem d_Mo_compare_275 : decode b_Mo_compare 275 = .ok (.aload_n 0, 1) := by decide +kernel
theorem d_Mo_compare_276 : decode b_Mo_compare 276 = .ok (.iconst 3, 1) := by decide +kernel
theorem d_Mo_compare_277 : decode b_Mo_compare 277 = .ok (.invokevirtual 517, 3) := by decide +kernel
theorem d_Mo_compare_280 : decode b_Mo_compare 280 = .ok (.pop, 1) := by decide +kernel
theorem d_Mo_compare_281 : decode b_Mo_compare 281 = .ok (.return_, 1) := by decide +kernel
theorem d_Mo_compare_282 : decode b_Mo_compare 282 = .ok (.iload 12, 2) := by decide +kernel
theorem d_Mo_compare_284 : decode b_Mo_compare 284 = .ok (.iload 4, 2) := by decide +kernel
theorem d_Mo_compare_286 : decode b_Mo_compare 286 = .ok (.invokestatic 495, 3) := by decide +kernel
theorem d_Mo_compare_289 : decode b_Mo_compare 289 = .ok (.iconst 1, 1) := by decide +kernel
theorem d_Mo_compare_290 : decode b_Mo_compare 290 = .ok (.if_icmp .ne 7, 3) := by decide +kernel
theorem d_Mo_compare_293 : decode b_Mo_compare 293 = .ok (.iconst 1, 1) := by decide +kernel
theorem d_Mo_compare_294 : decode b_Mo_compare 294 = .ok (.goto 4, 3) := by decide +kernel
theorem d_Mo_compare_297 : decode b_Mo_compare 297 = .ok (.iconst 0, 1) := by decide +kernel
theorem d_Mo_compare_298 : decode b_Mo_compare 298 = .ok (.if_icmp .eq 13, 3) := by decide +kernel
theorem d_Mo_compare_301 : decode b_Mo_compare 301 = .ok (.aload_n 1, 1) := by decide +kernel
theorem d_Mo_compare_302 : decode b_Mo_compare 302 = .ok (.getfield 758, 3) := by decide +kernel
theorem d_Mo_compare_305 : decode b_Mo_compare 305 = .ok (.iload_n 2, 1) := by decide +kernel
theorem d_Mo_compare_306 : decode b_Mo_compare 306 = .ok (.dup2, 1) := by decide +kernel
theorem d_Mo_compare_307 : decode b_Mo_compare 307 = .ok (.iaload, 1) := by decide +kernel
theorem d_Mo_compare_308 : decode b_Mo_compare 308 = .ok (.iconst 1, 1) := by decide +kernel
theorem d_Mo_compare_309 : decode b_Mo_compare 309 = .ok (.iadd, 1) := by decide +kernel
theorem d_Mo_compare_310 : decode b_Mo_compare 310 = .ok (.iastore, 1) := by decide +kernel
theorem d_Mo_compare_311 : decode b_Mo_compare 311 = .ok (.return_, 1) := by decide +kernel
abbrev b_Mo_order : ByteArray := prog_14_method_127_code
def y_Mo_order : MethodName := ⟨R_Mo, "order", "(II)I"⟩
abbrev w_Mo_order : List Cond := .code y_Mo_order b_Mo_order 6 (some .int) :: wA
theorem k_Mo_order : Cond.code y_Mo_order b_Mo_order 6 (some .int) ∈ wA := kinm (show _ ∈ tables_1 from (List.mem_append_right _ (List.mem_append_right _ (List.mem_append_right _ (List.mem_append_right _ (List.mem_append_right _ (List.mem_append_right _ (List.mem_append_right _ (List.mem_append_right _ (List.mem_append_right _ (List.mem_append_right _ (List.mem_append_right _ (List.mem_append_right _ (List.mem_append_left _ (List.mem_of_getElem? (l := tables_1_13) (i := 202) (by decide +kernel)))))))))))))))) (by decide +kernel)
theorem d_Mo_order_0 : decode b_Mo_order 0 = .ok (.aload_n 0, 1) := by decide +kernel
theorem d_Mo_order_1 : decode b_Mo_order 1 = .ok (.getfield 171, 3) := by decide +kernel
theorem d_Mo_order_4 : decode b_Mo_order 4 = .ok (.iload_n 1, 1) := by decide +kernel
theorem d_Mo_order_5 : decode b_Mo_order 5 = .ok (.iaload, 1) := by decide +kernel
theorem d_Mo_order_6 : decode b_Mo_order 6 = .ok (.aload_n 0, 1) := by decide +kernel
theorem d_Mo_order_7 : decode b_Mo_order 7 = .ok (.getfield 171, 3) := by decide +kernel
theorem d_Mo_order_10 : decode b_Mo_order 10 = .ok (.iload_n 2, 1) := by decide +kernel
theorem d_Mo_order_11 : decode b_Mo_order 11 = .ok (.iaload, 1) := by decide +kernel
theorem d_Mo_order_12 : decode b_Mo_order 12 = .ok (.invokestatic 991, 3) := by decide +kernel
theorem d_Mo_order_15 : decode b_Mo_order 15 = .ok (.istore_n 3, 1) := by decide +kernel
theorem d_Mo_order_16 : decode b_Mo_order 16 = .ok (.iconst 0, 1) := by decide +kernel
theorem d_Mo_order_17 : decode b_Mo_order 17 = .ok (.istore 4, 2) := by decide +kernel
theorem d_Mo_order_19 : decode b_Mo_order 19 = .ok (.iload 4, 2) := by decide +kernel
theorem d_Mo_order_21 : decode b_Mo_order 21 = .ok (.iload_n 3, 1) := by decide +kernel
theorem d_Mo_order_22 : decode b_Mo_order 22 = .ok (.if_icmp .ge 56, 3) := by decide +kernel
theorem d_Mo_order_25 : decode b_Mo_order 25 = .ok (.aload_n 0, 1) := by decide +kernel
theorem d_Mo_order_26 : decode b_Mo_order 26 = .ok (.getfield 187, 3) := by decide +kernel
theorem d_Mo_order_29 : decode b_Mo_order 29 = .ok (.aload_n 0, 1) := by decide +kernel
theorem d_Mo_order_30 : decode b_Mo_order 30 = .ok (.getfield 168, 3) := by decide +kernel
theorem d_Mo_order_33 : decode b_Mo_order 33 = .ok (.iload_n 1, 1) := by decide +kernel
theorem d_Mo_order_34 : decode b_Mo_order 34 = .ok (.iaload, 1) := by decide +kernel
theorem d_Mo_order_35 : decode b_Mo_order 35 = .ok (.iload 4, 2) := by decide +kernel
theorem d_Mo_order_37 : decode b_Mo_order 37 = .ok (.iadd, 1) := by decide +kernel
theorem d_Mo_order_38 : decode b_Mo_order 38 = .ok (.baload, 1) := by decide +kernel
theorem d_Mo_order_39 : decode b_Mo_order 39 = .ok (.sipush 255, 3) := by decide +kernel
theorem d_Mo_order_42 : decode b_Mo_order 42 = .ok (.iand, 1) := by decide +kernel
theorem d_Mo_order_43 : decode b_Mo_order 43 = .ok (.aload_n 0, 1) := by decide +kernel
theorem d_Mo_order_44 : decode b_Mo_order 44 = .ok (.getfield 187, 3) := by decide +kernel
theorem d_Mo_order_47 : decode b_Mo_order 47 = .ok (.aload_n 0, 1) := by decide +kernel
theorem d_Mo_order_48 : decode b_Mo_order 48 = .ok (.getfield 168, 3) := by decide +kernel
theorem d_Mo_order_51 : decode b_Mo_order 51 = .ok (.iload_n 2, 1) := by decide +kernel
theorem d_Mo_order_52 : decode b_Mo_order 52 = .ok (.iaload, 1) := by decide +kernel
theorem d_Mo_order_53 : decode b_Mo_order 53 = .ok (.iload 4, 2) := by decide +kernel
theorem d_Mo_order_55 : decode b_Mo_order 55 = .ok (.iadd, 1) := by decide +kernel
theorem d_Mo_order_56 : decode b_Mo_order 56 = .ok (.baload, 1) := by decide +kernel
theorem d_Mo_order_57 : decode b_Mo_order 57 = .ok (.sipush 255, 3) := by decide +kernel
theorem d_Mo_order_60 : decode b_Mo_order 60 = .ok (.iand, 1) := by decide +kernel
theorem d_Mo_order_61 : decode b_Mo_order 61 = .ok (.isub, 1) := by decide +kernel
theorem d_Mo_order_62 : decode b_Mo_order 62 = .ok (.istore 5, 2) := by decide +kernel
theorem d_Mo_order_64 : decode b_Mo_order 64 = .ok (.iload 5, 2) := by decide +kernel
theorem d_Mo_order_66 : decode b_Mo_order 66 = .ok (.ifCond .eq 6, 3) := by decide +kernel
theorem d_Mo_order_69 : decode b_Mo_order 69 = .ok (.iload 5, 2) := by decide +kernel
theorem d_Mo_order_71 : decode b_Mo_order 71 = .ok (.ireturn, 1) := by decide +kernel
theorem d_Mo_order_72 : decode b_Mo_order 72 = .ok (.iinc 4 1, 3) := by decide +kernel
theorem d_Mo_order_75 : decode b_Mo_order 75 = .ok (.goto (-56), 3) := by decide +kernel
theorem d_Mo_order_78 : decode b_Mo_order 78 = .ok (.aload_n 0, 1) := by decide +kernel
theorem d_Mo_order_79 : decode b_Mo_order 79 = .ok (.getfield 171, 3) := by decide +kernel
theorem d_Mo_order_82 : decode b_Mo_order 82 = .ok (.iload_n 1, 1) := by decide +kernel
theorem d_Mo_order_83 : decode b_Mo_order 83 = .ok (.iaload, 1) := by decide +kernel
theorem d_Mo_order_84 : decode b_Mo_order 84 = .ok (.aload_n 0, 1) := by decide +kernel
theorem d_Mo_order_85 : decode b_Mo_order 85 = .ok (.getfield 171, 3) := by decide +kernel
theorem d_Mo_order_88 : decode b_Mo_order 88 = .ok (.iload_n 2, 1) := by decide +kernel
theorem d_Mo_order_89 : decode b_Mo_order 89 = .ok (.iaload, 1) := by decide +kernel
theorem d_Mo_order_90 : decode b_Mo_order 90 = .ok (.isub, 1) := by decide +kernel
theorem d_Mo_order_91 : decode b_Mo_order 91 = .ok (.ireturn, 1) := by decide +kernel
theorem kw_274 : Cond.methodLink R_Mo 991 y_Mth_min ∈ wA := kinm (show _ ∈ tables_1 from (List.mem_append_right _ (List.mem_append_right _ (List.mem_append_right _ (List.mem_append_right _ (List.mem_append_right _ (List.mem_append_right _ (List.mem_append_right _ (List.mem_append_right _ (List.mem_append_right _ (List.mem_append_right _ (List.mem_append_right _ (List.mem_append_right _ (List.mem_append_left _ (List.mem_of_getElem? (l := tables_1_13) (i := 203) (by decide +kernel)))))))))))))))) (by decide +kernel)
theorem kw_275 : Cond.instanceMethod y_Mo_order ∈ wA := kinm (show _ ∈ tables_1 from (List.mem_append_right _ (List.mem_append_right _ (List.mem_append_right _ (List.mem_append_right _ (List.mem_append_right _ (List.mem_append_right _ (List.mem_append_right _ (List.mem_append_right _ (List.mem_append_right _ (List.mem_append_right _ (List.mem_append_right _ (List.mem_append_right _ (List.mem_append_left _ (List.mem_of_getElem? (l := tables_1_13) (i := 201) (by decide +kernel)))))))))))))))) (by decide +kernel)
theorem kw_276 : Cond.selects R_Mo y_Mo_order y_Mo_order ∈ wA := kinp 217 (by decide +kernel) (by decide +kernel)
def M_Mo_order_L19 : (Int32 × Int32 × Int32 × Int32) → M ((Int32 × Int32 × Int32 × Int32) ⊕ ((Int32) ⊕ (Int32 × Int32))) := fun x =>
  oC (x.2.2.1 ≤ x.2.2.2)
    (oR (Sum.inr (Sum.inr (x.1, x.2.1))))
    (oB (oAI 62 4100 0 x.1) fun v34 =>
    oB (oAI 67 400000 0 (v34 + x.2.2.2)) fun v38 =>
    oB (oAI 62 4100 0 x.2.1) fun v52 =>
    oB (oAI 67 400000 0 (v52 + x.2.2.2)) fun v56 =>
    oL ((v38 &&& 255) - (v56 &&& 255)) fun l5_62 =>
    oC (l5_62 = 0)
      (oR (Sum.inl (x.1, x.2.1, x.2.2.1, x.2.2.2 + 1)))
      (oR (Sum.inr (Sum.inl l5_62))))

def M_Mo_order (l1 : Int32) (l2 : Int32) : M (Int32) :=
  oB (oAI 63 4100 0 l1) fun v5 =>
  oB (oAI 63 4100 0 l2) fun v11 =>
  oB (M_Mth_min v5 v11) fun v12 =>
  oB (oW M_Mo_order_L19 (l1, l2, v12, 0)) fun e19 =>
  Sum.elim
    (fun y19_69 : Int32 =>
      oR y19_69)
    (fun y19_78 : Int32 × Int32 =>
      oB (oAI 63 4100 0 y19_78.1) fun v83 =>
      oB (oAI 63 4100 0 y19_78.2) fun v89 =>
      oR (v83 - v89)) e19

theorem cv_Mo_order : CV y_Mo_order b_Mo_order 6 (some .int) 2 := ⟨kw_275, kw_276, kw_17, k_Mo_order, by decide +kernel⟩
theorem lp_Mo_order_L19 {X : Cx} {q : PL} (g : Gd X y_Mo_order b_Mo_order 6 (some .int) 1 21 R_Mo) (x : Int32 × Int32 × Int32 × Int32) (s : S1) (o : ((Int32 × Int32 × Int32 × Int32) ⊕ ((Int32) ⊕ (Int32 × Int32))) × S1) (h : M_Mo_order_L19 x s = some o) (hR : (Sum.elim (fun y : Int32 × Int32 × Int32 × Int32 => ∀ ls : Array Slot, lv_has ls 6 [(0, .ref (q.1 0 0)), (1, .int y.1), (2, .int y.2.1), (3, .int y.2.2.1), (4, .int y.2.2.2)] → WW X q o.2 19 ls []) (Sum.elim (fun y : Int32 => ∀ ls : Array Slot, lv_has ls 6 [(5, .int y)] → WW X q o.2 69 ls []) (fun y : Int32 × Int32 => ∀ ls : Array Slot, lv_has ls 6 [(0, .ref (q.1 0 0)), (1, .int y.1), (2, .int y.2)] → WW X q o.2 78 ls [])) o.1)) : ∀ ls : Array Slot, lv_has ls 6 [(0, .ref (q.1 0 0)), (1, .int x.1), (2, .int x.2.1), (3, .int x.2.2.1), (4, .int x.2.2.2)] → WW X q s 19 ls [] := by
  intro ls hl
  unfold M_Mo_order_L19 at h
  refine ww_iload (pc := 19) g.1 d_Mo_order_19 (lv_at hl 4 rfl) ?_
  refine ww_iload_n (pc := 21) g.1 d_Mo_order_21 rfl (lv_at hl 3 rfl) ?_
  refine ww_icmp_ge (pc := 22) (tgt := 78) g.1 d_Mo_order_22 (by decide) h (fun c h => ?_) (fun c h => ?_)
  · rw [oR_eq h] at hR
    exact hR ls (lv_sub hl [0, 1, 2] rfl)
  · refine ww_aload_n (pc := 25) g.1 d_Mo_order_25 rfl (lv_at hl 0 rfl) ?_
    refine ww_gR (pc := 26) g (k := 55) cl_Mo (pz rfl (by decide)) (by decide) (Or.inl kw_206) (f := 55) (t := 67) rfl rfl rfl d_Mo_order_26 ?_
    refine ww_aload_n (pc := 29) g.1 d_Mo_order_29 rfl (lv_at hl 0 rfl) ?_
    refine ww_gR (pc := 30) g (k := 49) cl_Mo (pz rfl (by decide)) (by decide) (Or.inl kw_89) (f := 49) (t := 62) rfl rfl rfl d_Mo_order_30 ?_
    refine ww_iload_n (pc := 33) g.1 d_Mo_order_33 rfl (lv_at hl 1 rfl) ?_
    refine ww_ai (pc := 34) g (pz rfl (by decide)) rfl rfl d_Mo_order_34 h fun v34 h => ?_
    refine ww_iload (pc := 35) g.1 d_Mo_order_35 (lv_at hl 4 rfl) ?_
    refine ww_iadd (pc := 37) g.1 d_Mo_order_37 ?_
    refine ww_ab (pc := 38) g (pz rfl (by decide)) rfl rfl d_Mo_order_38 h fun v38 h => ?_
    refine ww_sipush (pc := 39) g.1 (v := 255) d_Mo_order_39 (by decide) ?_
    refine ww_iand (pc := 42) g.1 d_Mo_order_42 ?_
    refine ww_aload_n (pc := 43) g.1 d_Mo_order_43 rfl (lv_at hl 0 rfl) ?_
    refine ww_gR (pc := 44) g (k := 55) cl_Mo (pz rfl (by decide)) (by decide) (Or.inl kw_206) (f := 55) (t := 67) rfl rfl rfl d_Mo_order_44 ?_
    refine ww_aload_n (pc := 47) g.1 d_Mo_order_47 rfl (lv_at hl 0 rfl) ?_
    refine ww_gR (pc := 48) g (k := 49) cl_Mo (pz rfl (by decide)) (by decide) (Or.inl kw_89) (f := 49) (t := 62) rfl rfl rfl d_Mo_order_48 ?_
    refine ww_iload_n (pc := 51) g.1 d_Mo_order_51 rfl (lv_at hl 2 rfl) ?_
    refine ww_ai (pc := 52) g (pz rfl (by decide)) rfl rfl d_Mo_order_52 h fun v52 h => ?_
    refine ww_iload (pc := 53) g.1 d_Mo_order_53 (lv_at hl 4 rfl) ?_
    refine ww_iadd (pc := 55) g.1 d_Mo_order_55 ?_
    refine ww_ab (pc := 56) g (pz rfl (by decide)) rfl rfl d_Mo_order_56 h fun v56 h => ?_
    refine ww_sipush (pc := 57) g.1 (v := 255) d_Mo_order_57 (by decide) ?_
    refine ww_iand (pc := 60) g.1 d_Mo_order_60 ?_
    refine ww_isub (pc := 61) g.1 d_Mo_order_61 ?_
    refine ww_leti h fun l5_62 h => ?_
    refine ww_istore (pc := 62) g.1 (lv' := [(5, .int l5_62), (0, .ref (q.1 0 0)), (1, .int x.1), (2, .int x.2.1), (3, .int x.2.2.1), (4, .int x.2.2.2)]) d_Mo_order_62 hl (by decide) rfl fun ls hl => ?_
    refine ww_iload (pc := 64) g.1 d_Mo_order_64 (lv_at hl 0 rfl) ?_
    refine ww_if_eq (pc := 66) (tgt := 72) g.1 d_Mo_order_66 (by decide) h (fun c h => ?_) (fun c h => ?_)
    · refine ww_iinc (pc := 72) g.1 (v := x.2.2.2 + 1) (lv' := [(4, .int (x.2.2.2 + 1)), (5, .int l5_62), (0, .ref (q.1 0 0)), (1, .int x.1), (2, .int x.2.1), (3, .int x.2.2.1)]) d_Mo_order_72 hl (k := 5) rfl (by rfl) (by decide) rfl fun ls hl => ?_
      refine ww_goto (pc := 75) (tgt := 19) g.1 d_Mo_order_75 (by decide) ?_
      rw [oR_eq h] at hR
      exact hR ls (lv_sub hl [2, 3, 4, 5, 0] rfl)
    · rw [oR_eq h] at hR
      exact hR ls (lv_sub hl [0] rfl)

theorem ct_Mo_order {l : Launch} {P : PP} {q : PL} {s s' : S1} {l1 : Int32} {l2 : Int32} {r : Int32} (h : M_Mo_order l1 l2 s = some (r, s')) : Ct l y_Mo_order b_Mo_order 6 (some .int) 1 21 P q s [.ref (q.1 0 0), .int l1, .int l2] (some (.int r)) q s' := by
  refine ct_of (by decide) (Nat.le_of_ble_eq_true rfl) fun X ls eP el g hR hl => ?_
  have hR : Rt X q ((r, s') : Int32 × S1).2 (some (.int ((r, s') : Int32 × S1).1)) := hR
  have hl : lv_has ls 6 [(0, .ref (q.1 0 0)), (1, .int l1), (2, .int l2)] := hl
  generalize (r, s') = o at h hR
  unfold M_Mo_order at h
  refine ww_aload_n (pc := 0) g.1 d_Mo_order_0 rfl (lv_at hl 0 rfl) ?_
  refine ww_gR (pc := 1) g (k := 50) cl_Mo (pz rfl (by decide)) (by decide) (Or.inl kw_93) (f := 50) (t := 63) rfl rfl rfl d_Mo_order_1 ?_
  refine ww_iload_n (pc := 4) g.1 d_Mo_order_4 rfl (lv_at hl 1 rfl) ?_
  refine ww_ai (pc := 5) g (pz rfl (by decide)) rfl rfl d_Mo_order_5 h fun v5 h => ?_
  refine ww_aload_n (pc := 6) g.1 d_Mo_order_6 rfl (lv_at hl 0 rfl) ?_
  refine ww_gR (pc := 7) g (k := 50) cl_Mo (pz rfl (by decide)) (by decide) (Or.inl kw_93) (f := 50) (t := 63) rfl rfl rfl d_Mo_order_7 ?_
  refine ww_iload_n (pc := 10) g.1 d_Mo_order_10 rfl (lv_at hl 2 rfl) ?_
  refine ww_ai (pc := 11) g (pz rfl (by decide)) rfl rfl d_Mo_order_11 h fun v11 h => ?_
  obtain ⟨v12, s, hc12, h⟩ := oB_of h
  refine ww_callS (pc := 12) (rest := []) g cs_Mth_min (Or.inl kw_274) (ct_Mth_min hc12) ⟨by decide, by decide⟩ rfl hl.1 (Nat.le_of_ble_eq_true rfl) d_Mo_order_12 rfl ?_
  refine ww_st (st' := [.int v12]) rfl ?_
  refine ww_istore_n (pc := 15) g.1 (lv' := [(3, .int v12), (0, .ref (q.1 0 0)), (1, .int l1), (2, .int l2)]) d_Mo_order_15 rfl hl (by decide) rfl fun ls hl => ?_
  refine ww_iconst (pc := 16) g.1 (v := 0) d_Mo_order_16 (by decide) ?_
  refine ww_istore (pc := 17) g.1 (lv' := [(4, .int 0), (3, .int v12), (0, .ref (q.1 0 0)), (1, .int l1), (2, .int l2)]) d_Mo_order_17 hl (by decide) rfl fun ls hl => ?_
  obtain ⟨e19, s1, hw, h⟩ := oB_of h
  refine oW_rule (Wh := fun (x : Int32 × Int32 × Int32 × Int32) (s : S1) => ∀ ls : Array Slot, lv_has ls 6 [(0, .ref (q.1 0 0)), (1, .int x.1), (2, .int x.2.1), (3, .int x.2.2.1), (4, .int x.2.2.2)] → WW X q s 19 ls []) (We := fun (e : (Int32) ⊕ (Int32 × Int32)) (s : S1) => (Sum.elim (fun y : Int32 => ∀ ls : Array Slot, lv_has ls 6 [(5, .int y)] → WW X q s 69 ls []) (fun y : Int32 × Int32 => ∀ ls : Array Slot, lv_has ls 6 [(0, .ref (q.1 0 0)), (1, .int y.1), (2, .int y.2)] → WW X q s 78 ls [])) e) (fun x s o hb hc => lp_Mo_order_L19 (q := q) g x s o hb hc) hw ?_ ls (lv_sub hl [2, 3, 4, 1, 0] rfl)
  clear hw hl
  clear ls
  generalize s1 = s at h ⊢
  rcases e19 with y19_69 | y19_78
  · intro ls hl
    dsimp only [Sum.elim_inl, Sum.elim_inr] at h
    refine ww_iload (pc := 69) g.1 d_Mo_order_69 (lv_at hl 0 rfl) ?_
    exact ww_iretH (pc := 71) g h hR d_Mo_order_71
  · intro ls hl
    dsimp only [Sum.elim_inl, Sum.elim_inr] at h
    refine ww_aload_n (pc := 78) g.1 d_Mo_order_78 rfl (lv_at hl 0 rfl) ?_
    refine ww_gR (pc := 79) g (k := 50) cl_Mo (pz rfl (by decide)) (by decide) (Or.inl kw_93) (f := 50) (t := 63) rfl rfl rfl d_Mo_order_79 ?_
    refine ww_iload_n (pc := 82) g.1 d_Mo_order_82 rfl (lv_at hl 1 rfl) ?_
    refine ww_ai (pc := 83) g (pz rfl (by decide)) rfl rfl d_Mo_order_83 h fun v83 h => ?_
    refine ww_aload_n (pc := 84) g.1 d_Mo_order_84 rfl (lv_at hl 0 rfl) ?_
    refine ww_gR (pc := 85) g (k := 50) cl_Mo (pz rfl (by decide)) (by decide) (Or.inl kw_93) (f := 50) (t := 63) rfl rfl rfl d_Mo_order_85 ?_
    refine ww_iload_n (pc := 88) g.1 d_Mo_order_88 rfl (lv_at hl 2 rfl) ?_
    refine ww_ai (pc := 89) g (pz rfl (by decide)) rfl rfl d_Mo_order_89 h fun v89 h => ?_
    refine ww_isub (pc := 90) g.1 d_Mo_order_90 ?_
    exact ww_iretH (pc := 91) g h hR d_Mo_order_91

abbrev b_Mo_high : ByteArray := prog_14_method_130_code
def y_Mo_high : MethodName := ⟨R_Mo, "high", "(LLuaMachineModel$Thread_;IIIILLuaMachineModel$Values;I)V"⟩
abbrev w_Mo_high : List Cond := .code y_Mo_high b_Mo_high 10 none :: wA
set_option maxRecDepth 20000 in
theorem k_Mo_high : Cond.code y_Mo_high b_Mo_high 10 none ∈ wA := kinm (show _ ∈ tables_1 from (List.mem_append_right _ (List.mem_append_right _ (List.mem_append_right _ (List.mem_append_right _ (List.mem_append_right _ (List.mem_append_right _ (List.mem_append_right _ (List.mem_append_right _ (List.mem_append_right _ (List.mem_append_right _ (List.mem_append_right _ (List.mem_append_right _ (List.mem_append_left _ (List.mem_of_getElem? (l := tables_1_13) (i := 207) rfl))))))))))))))) rfl
theorem d_Mo_high_0 : decode b_Mo_high 0 = .ok (.iload 5, 2) := by decide +kernel
theorem d_Mo_high_2 : decode b_Mo_high 2 = .ok (.tableswitch 610 36 44 #[50, 121, 196, 348, 363, 450, 533, 579, 594], 50) := by decide +kernel
theorem d_Mo_high_52 : decode b_Mo_high 52 = .ok (.aload_n 0, 1) := by decide +kernel
theorem d_Mo_high_53 : decode b_Mo_high 53 = .ok (.aload_n 1, 1) := by decide +kernel
theorem d_Mo_high_54 : decode b_Mo_high 54 = .ok (.iload_n 2, 1) := by decide +kernel
theorem d_Mo_high_55 : decode b_Mo_high 55 = .ok (.iload 4, 2) := by decide +kernel
theorem d_Mo_high_57 : decode b_Mo_high 57 = .ok (.invokestatic 495, 3) := by decide +kernel
theorem d_Mo_high_60 : decode b_Mo_high 60 = .ok (.iload 4, 2) := by decide +kernel
theorem d_Mo_high_62 : decode b_Mo_high 62 = .ok (.invokestatic 482, 3) := by decide +kernel
theorem d_Mo_high_65 : decode b_Mo_high 65 = .ok (.invokevirtual 997, 3) := by decide +kernel
theorem d_Mo_high_68 : decode b_Mo_high 68 = .ok (.ifCond .ne 6, 3) := by decide +kernel
theorem d_Mo_high_71 : decode b_Mo_high 71 = .ok (.goto 554, 3) := by decide +kernel
theorem d_Mo_high_74 : decode b_Mo_high 74 = .ok (.aload_n 0, 1) := by decide +kernel
theorem d_Mo_high_75 : decode b_Mo_high 75 = .ok (.iconst 0, 1) := by decide +kernel
theorem d_Mo_high_76 : decode b_Mo_high 76 = .ok (.iload 4, 2) := by decide +kernel
theorem d_Mo_high_78 : decode b_Mo_high 78 = .ok (.invokestatic 495, 3) := by decide +kernel
theorem d_Mo_high_81 : decode b_Mo_high 81 = .ok (.iload 4, 2) := by decide +kernel
theorem d_Mo_high_83 : decode b_Mo_high 83 = .ok (.invokestatic 479, 3) := by decide +kernel
theorem d_Mo_high_86 : decode b_Mo_high 86 = .ok (.iconst 1, 1) := by decide +kernel
theorem d_Mo_high_87 : decode b_Mo_high 87 = .ok (.isub, 1) := by decide +kernel
theorem d_Mo_high_88 : decode b_Mo_high 88 = .ok (.invokevirtual 947, 3) := by decide +kernel
theorem d_Mo_high_91 : decode b_Mo_high 91 = .ok (.aload_n 0, 1) := by decide +kernel
theorem d_Mo_high_92 : decode b_Mo_high 92 = .ok (.aload 6, 2) := by decide +kernel
theorem d_Mo_high_94 : decode b_Mo_high 94 = .ok (.getfield 585, 3) := by decide +kernel
theorem d_Mo_high_97 : decode b_Mo_high 97 = .ok (.iload 7, 2) := by decide +kernel
theorem d_Mo_high_99 : decode b_Mo_high 99 = .ok (.baload, 1) := by decide +kernel
theorem d_Mo_high_100 : decode b_Mo_high 100 = .ok (.putfield 253, 3) := by decide +kernel
theorem d_Mo_high_103 : decode b_Mo_high 103 = .ok (.aload_n 0, 1) := by decide +kernel
theorem d_Mo_high_104 : decode b_Mo_high 104 = .ok (.aload 6, 2) := by decide +kernel
theorem d_Mo_high_106 : decode b_Mo_high 106 = .ok (.getfield 588, 3) := by decide +kernel
theorem d_Mo_high_109 : decode b_Mo_high 109 = .ok (.iload 7, 2) := by decide +kernel
theorem d_Mo_high_111 : decode b_Mo_high 111 = .ok (.laload, 1) := by decide +kernel
theorem d_Mo_high_112 : decode b_Mo_high 112 = .ok (.putfield 256, 3) := by decide +kernel
theorem d_Mo_high_115 : decode b_Mo_high 115 = .ok (.aload_n 0, 1) := by decide +kernel
theorem d_Mo_high_116 : decode b_Mo_high 116 = .ok (.iconst 1, 1) := by decide +kernel
theorem d_Mo_high_117 : decode b_Mo_high 117 = .ok (.putfield 247, 3) := by decide +kernel
theorem d_Mo_high_120 : decode b_Mo_high 120 = .ok (.goto 505, 3) := by decide +kernel
theorem d_Mo_high_123 : decode b_Mo_high 123 = .ok (.aload_n 0, 1) := by decide +kernel
theorem d_Mo_high_124 : decode b_Mo_high 124 = .ok (.aload_n 1, 1) := by decide +kernel
theorem d_Mo_high_125 : decode b_Mo_high 125 = .ok (.iload_n 2, 1) := by decide +kernel
theorem d_Mo_high_126 : decode b_Mo_high 126 = .ok (.iload 4, 2) := by decide +kernel
theorem d_Mo_high_128 : decode b_Mo_high 128 = .ok (.invokestatic 495, 3) := by decide +kernel
theorem d_Mo_high_131 : decode b_Mo_high 131 = .ok (.iload 4, 2) := by decide +kernel
theorem d_Mo_high_133 : decode b_Mo_high 133 = .ok (.invokestatic 482, 3) := by decide +kernel
theorem d_Mo_high_136 : decode b_Mo_high 136 = .ok (.invokevirtual 997, 3) := by decide +kernel
theorem d_Mo_high_139 : decode b_Mo_high 139 = .ok (.ifCond .ne 6, 3) := by decide +kernel
theorem d_Mo_high_142 : decode b_Mo_high 142 = .ok (.goto 483, 3) := by decide +kernel
theorem d_Mo_high_145 : decode b_Mo_high 145 = .ok (.aload_n 0, 1) := by decide +kernel
theorem d_Mo_high_146 : decode b_Mo_high 146 = .ok (.aload 6, 2) := by decide +kernel
theorem d_Mo_high_148 : decode b_Mo_high 148 = .ok (.getfield 585, 3) := by decide +kernel
theorem d_Mo_high_151 : decode b_Mo_high 151 = .ok (.iload 7, 2) := by decide +kernel
theorem d_Mo_high_153 : decode b_Mo_high 153 = .ok (.baload, 1) := by decide +kernel
theorem d_Mo_high_154 : decode b_Mo_high 154 = .ok (.putfield 253, 3) := by decide +kernel
theorem d_Mo_high_157 : decode b_Mo_high 157 = .ok (.aload_n 0, 1) := by decide +kernel
theorem d_Mo_high_158 : decode b_Mo_high 158 = .ok (.aload 6, 2) := by decide +kernel
theorem d_Mo_high_160 : decode b_Mo_high 160 = .ok (.getfield 588, 3) := by decide +kernel
theorem d_Mo_high_163 : decode b_Mo_high 163 = .ok (.iload 7, 2) := by decide +kernel
theorem d_Mo_high_165 : decode b_Mo_high 165 = .ok (.laload, 1) := by decide +kernel
theorem d_Mo_high_166 : decode b_Mo_high 166 = .ok (.putfield 256, 3) := by decide +kernel
theorem d_Mo_high_169 : decode b_Mo_high 169 = .ok (.aload_n 0, 1) := by decide +kernel
theorem d_Mo_high_170 : decode b_Mo_high 170 = .ok (.aload_n 1, 1) := by decide +kernel
theorem d_Mo_high_171 : decode b_Mo_high 171 = .ok (.aload_n 1, 1) := by decide +kernel
theorem d_Mo_high_172 : decode b_Mo_high 172 = .ok (.getfield 744, 3) := by decide +kernel
theorem d_Mo_high_175 : decode b_Mo_high 175 = .ok (.iload_n 2, 1) := by decide +kernel
theorem d_Mo_high_176 : decode b_Mo_high 176 = .ok (.iaload, 1) := by decide +kernel
theorem d_Mo_high_177 : decode b_Mo_high 177 = .ok (.invokevirtual 789, 3) := by decide +kernel
theorem d_Mo_high_180 : decode b_Mo_high 180 = .ok (.aload_n 1, 1) := by decide +kernel
theorem d_Mo_high_181 : decode b_Mo_high 181 = .ok (.dup, 1) := by decide +kernel
theorem d_Mo_high_182 : decode b_Mo_high 182 = .ok (.getfield 730, 3) := by decide +kernel
theorem d_Mo_high_185 : decode b_Mo_high 185 = .ok (.iconst 1, 1) := by decide +kernel
theorem d_Mo_high_186 : decode b_Mo_high 186 = .ok (.isub, 1) := by decide +kernel
theorem d_Mo_high_187 : decode b_Mo_high 187 = .ok (.putfield 730, 3) := by decide +kernel
theorem d_Mo_high_190 : decode b_Mo_high 190 = .ok (.aload_n 0, 1) := by decide +kernel
theorem d_Mo_high_191 : decode b_Mo_high 191 = .ok (.iconst 1, 1) := by decide +kernel
theorem d_Mo_high_192 : decode b_Mo_high 192 = .ok (.putfield 247, 3) := by decide +kernel
theorem d_Mo_high_195 : decode b_Mo_high 195 = .ok (.goto 430, 3) := by decide +kernel
theorem d_Mo_high_198 : decode b_Mo_high 198 = .ok (.iload 4, 2) := by decide +kernel
theorem d_Mo_high_200 : decode b_Mo_high 200 = .ok (.invokestatic 482, 3) := by decide +kernel
theorem d_Mo_high_203 : decode b_Mo_high 203 = .ok (.ifCond .le 19, 3) := by decide +kernel
theorem d_Mo_high_206 : decode b_Mo_high 206 = .ok (.iload 4, 2) := by decide +kernel
theorem d_Mo_high_208 : decode b_Mo_high 208 = .ok (.invokestatic 495, 3) := by decide +kernel
theorem d_Mo_high_211 : decode b_Mo_high 211 = .ok (.iload 4, 2) := by decide +kernel
theorem d_Mo_high_213 : decode b_Mo_high 213 = .ok (.invokestatic 482, 3) := by decide +kernel
theorem d_Mo_high_216 : decode b_Mo_high 216 = .ok (.iadd, 1) := by decide +kernel
theorem d_Mo_high_217 : decode b_Mo_high 217 = .ok (.iconst 1, 1) := by decide +kernel
theorem d_Mo_high_218 : decode b_Mo_high 218 = .ok (.isub, 1) := by decide +kernel
theorem d_Mo_high_219 : decode b_Mo_high 219 = .ok (.goto 16, 3) := by decide +kernel
theorem d_Mo_high_222 : decode b_Mo_high 222 = .ok (.aload_n 1, 1) := by decide +kernel
theorem d_Mo_high_223 : decode b_Mo_high 223 = .ok (.getfield 773, 3) := by decide +kernel
theorem d_Mo_high_226 : decode b_Mo_high 226 = .ok (.iload_n 2, 1) := by decide +kernel
theorem d_Mo_high_227 : decode b_Mo_high 227 = .ok (.iaload, 1) := by decide +kernel
theorem d_Mo_high_228 : decode b_Mo_high 228 = .ok (.aload_n 1, 1) := by decide +kernel
theorem d_Mo_high_229 : decode b_Mo_high 229 = .ok (.getfield 738, 3) := by decide +kernel
theorem d_Mo_high_232 : decode b_Mo_high 232 = .ok (.iload_n 2, 1) := by decide +kernel
theorem d_Mo_high_233 : decode b_Mo_high 233 = .ok (.iaload, 1) := by decide +kernel
theorem d_Mo_high_234 : decode b_Mo_high 234 = .ok (.iadd, 1) := by decide +kernel
theorem d_Mo_high_235 : decode b_Mo_high 235 = .ok (.istore 8, 2) := by decide +kernel
theorem d_Mo_high_237 : decode b_Mo_high 237 = .ok (.iload 8, 2) := by decide +kernel
theorem d_Mo_high_239 : decode b_Mo_high 239 = .ok (.iload 4, 2) := by decide +kernel
theorem d_Mo_high_241 : decode b_Mo_high 241 = .ok (.invokestatic 495, 3) := by decide +kernel
theorem d_Mo_high_244 : decode b_Mo_high 244 = .ok (.isub, 1) := by decide +kernel
theorem d_Mo_high_245 : decode b_Mo_high 245 = .ok (.sipush 250, 3) := by decide +kernel
theorem d_Mo_high_248 : decode b_Mo_high 248 = .ok (.if_icmp .le 13, 3) := by decide +kernel
theorem d_Mo_high_251 : decode b_Mo_high 251 = .ok (.aload_n 0, 1) := by decide +kernel
theorem d_Mo_high_252 : decode b_Mo_high 252 = .ok (.bipush 7, 2) := by decide +kernel
theorem d_Mo_high_254 : decode b_Mo_high 254 = .ok (.invokevirtual 517, 3) := by decide +kernel
theorem d_Mo_high_257 : decode b_Mo_high 257 = .ok (.pop, 1) := by decide +kernel
theorem d_Mo_high_258 : decode b_Mo_high 258 = .ok (.goto 367, 3) := by decide +kernel
theorem d_Mo_high_261 : decode b_Mo_high 261 = .ok (.aload_n 0, 1) := by decide +kernel
theorem d_Mo_high_262 : decode b_Mo_high 262 = .ok (.getfield 262, 3) := by decide +kernel
theorem d_Mo_high_265 : decode b_Mo_high 265 = .ok (.iconst 0, 1) := by decide +kernel
theorem d_Mo_high_266 : decode b_Mo_high 266 = .ok (.putfield 569, 3) := by decide +kernel
theorem d_Mo_high_269 : decode b_Mo_high 269 = .ok (.iload 4, 2) := by decide +kernel
theorem d_Mo_high_271 : decode b_Mo_high 271 = .ok (.invokestatic 495, 3) := by decide +kernel
theorem d_Mo_high_274 : decode b_Mo_high 274 = .ok (.istore 9, 2) := by decide +kernel
theorem d_Mo_high_276 : decode b_Mo_high 276 = .ok (.iload 9, 2) := by decide +kernel
theorem d_Mo_high_278 : decode b_Mo_high 278 = .ok (.iload 8, 2) := by decide +kernel
theorem d_Mo_high_280 : decode b_Mo_high 280 = .ok (.if_icmp .ge 34, 3) := by decide +kernel
theorem d_Mo_high_283 : decode b_Mo_high 283 = .ok (.aload_n 0, 1) := by decide +kernel
theorem d_Mo_high_284 : decode b_Mo_high 284 = .ok (.aload_n 0, 1) := by decide +kernel
theorem d_Mo_high_285 : decode b_Mo_high 285 = .ok (.getfield 262, 3) := by decide +kernel
theorem d_Mo_high_288 : decode b_Mo_high 288 = .ok (.aload_n 1, 1) := by decide +kernel
theorem d_Mo_high_289 : decode b_Mo_high 289 = .ok (.iload_n 2, 1) := by decide +kernel
theorem d_Mo_high_290 : decode b_Mo_high 290 = .ok (.iload 4, 2) := by decide +kernel
theorem d_Mo_high_292 : decode b_Mo_high 292 = .ok (.invokestatic 482, 3) := by decide +kernel
theorem d_Mo_high_295 : decode b_Mo_high 295 = .ok (.ifCond .ne 7, 3) := by decide +kernel
theorem d_Mo_high_298 : decode b_Mo_high 298 = .ok (.iconst 1, 1) := by decide +kernel
theorem d_Mo_high_299 : decode b_Mo_high 299 = .ok (.goto 4, 3) := by decide +kernel
theorem d_Mo_high_302 : decode b_Mo_high 302 = .ok (.iconst 0, 1) := by decide +kernel
theorem d_Mo_high_303 : decode b_Mo_high 303 = .ok (.iload 9, 2) := by decide +kernel
theorem d_Mo_high_305 : decode b_Mo_high 305 = .ok (.invokevirtual 993, 3) := by decide +kernel
theorem d_Mo_high_308 : decode b_Mo_high 308 = .ok (.iinc 9 1, 3) := by decide +kernel
theorem d_Mo_high_311 : decode b_Mo_high 311 = .ok (.goto (-35), 3) := by decide +kernel
theorem d_Mo_high_314 : decode b_Mo_high 314 = .ok (.aload_n 1, 1) := by decide +kernel
theorem d_Mo_high_315 : decode b_Mo_high 315 = .ok (.getfield 738, 3) := by decide +kernel
theorem d_Mo_high_318 : decode b_Mo_high 318 = .ok (.iload_n 2, 1) := by decide +kernel
theorem d_Mo_high_319 : decode b_Mo_high 319 = .ok (.iconst 0, 1) := by decide +kernel
theorem d_Mo_high_320 : decode b_Mo_high 320 = .ok (.iastore, 1) := by decide +kernel
theorem d_Mo_high_321 : decode b_Mo_high 321 = .ok (.aload_n 0, 1) := by decide +kernel
theorem d_Mo_high_322 : decode b_Mo_high 322 = .ok (.aload_n 1, 1) := by decide +kernel
theorem d_Mo_high_323 : decode b_Mo_high 323 = .ok (.aload_n 1, 1) := by decide +kernel
theorem d_Mo_high_324 : decode b_Mo_high 324 = .ok (.getfield 744, 3) := by decide +kernel
theorem d_Mo_high_327 : decode b_Mo_high 327 = .ok (.iload_n 2, 1) := by decide +kernel
theorem d_Mo_high_328 : decode b_Mo_high 328 = .ok (.iaload, 1) := by decide +kernel
theorem d_Mo_high_329 : decode b_Mo_high 329 = .ok (.invokevirtual 789, 3) := by decide +kernel
theorem d_Mo_high_332 : decode b_Mo_high 332 = .ok (.aload_n 1, 1) := by decide +kernel
theorem d_Mo_high_333 : decode b_Mo_high 333 = .ok (.dup, 1) := by decide +kernel
theorem d_Mo_high_334 : decode b_Mo_high 334 = .ok (.getfield 730, 3) := by decide +kernel
theorem d_Mo_high_337 : decode b_Mo_high 337 = .ok (.iconst 1, 1) := by decide +kernel
theorem d_Mo_high_338 : decode b_Mo_high 338 = .ok (.isub, 1) := by decide +kernel
theorem d_Mo_high_339 : decode b_Mo_high 339 = .ok (.putfield 730, 3) := by decide +kernel
theorem d_Mo_high_342 : decode b_Mo_high 342 = .ok (.aload_n 0, 1) := by decide +kernel
theorem d_Mo_high_343 : decode b_Mo_high 343 = .ok (.iconst 2, 1) := by decide +kernel
theorem d_Mo_high_344 : decode b_Mo_high 344 = .ok (.putfield 247, 3) := by decide +kernel
theorem d_Mo_high_347 : decode b_Mo_high 347 = .ok (.goto 278, 3) := by decide +kernel
theorem d_Mo_high_350 : decode b_Mo_high 350 = .ok (.aload_n 0, 1) := by decide +kernel
theorem d_Mo_high_351 : decode b_Mo_high 351 = .ok (.aload_n 1, 1) := by decide +kernel
theorem d_Mo_high_352 : decode b_Mo_high 352 = .ok (.iload_n 2, 1) := by decide +kernel
theorem d_Mo_high_353 : decode b_Mo_high 353 = .ok (.iload 4, 2) := by decide +kernel
theorem d_Mo_high_355 : decode b_Mo_high 355 = .ok (.aload 6, 2) := by decide +kernel
theorem d_Mo_high_357 : decode b_Mo_high 357 = .ok (.iload 7, 2) := by decide +kernel
theorem d_Mo_high_359 : decode b_Mo_high 359 = .ok (.invokevirtual 1001, 3) := by decide +kernel
theorem d_Mo_high_362 : decode b_Mo_high 362 = .ok (.goto 263, 3) := by decide +kernel
theorem d_Mo_high_365 : decode b_Mo_high 365 = .ok (.aload 6, 2) := by decide +kernel
theorem d_Mo_high_367 : decode b_Mo_high 367 = .ok (.getfield 585, 3) := by decide +kernel
theorem d_Mo_high_370 : decode b_Mo_high 370 = .ok (.iload 7, 2) := by decide +kernel
theorem d_Mo_high_372 : decode b_Mo_high 372 = .ok (.iconst 1, 1) := by decide +kernel
theorem d_Mo_high_373 : decode b_Mo_high 373 = .ok (.iadd, 1) := by decide +kernel
theorem d_Mo_high_374 : decode b_Mo_high 374 = .ok (.baload, 1) := by decide +kernel
theorem d_Mo_high_375 : decode b_Mo_high 375 = .ok (.iconst 3, 1) := by decide +kernel
theorem d_Mo_high_376 : decode b_Mo_high 376 = .ok (.if_icmp .ne 29, 3) := by decide +kernel
theorem d_Mo_high_379 : decode b_Mo_high 379 = .ok (.aload 6, 2) := by decide +kernel
theorem d_Mo_high_381 : decode b_Mo_high 381 = .ok (.getfield 585, 3) := by decide +kernel
theorem d_Mo_high_384 : decode b_Mo_high 384 = .ok (.iload 7, 2) := by decide +kernel
theorem d_Mo_high_386 : decode b_Mo_high 386 = .ok (.iconst 2, 1) := by decide +kernel
theorem d_Mo_high_387 : decode b_Mo_high 387 = .ok (.iadd, 1) := by decide +kernel
theorem d_Mo_high_388 : decode b_Mo_high 388 = .ok (.baload, 1) := by decide +kernel
theorem d_Mo_high_389 : decode b_Mo_high 389 = .ok (.iconst 3, 1) := by decide +kernel
theorem d_Mo_high_390 : decode b_Mo_high 390 = .ok (.if_icmp .ne 15, 3) := by decide +kernel
theorem d_Mo_high_393 : decode b_Mo_high 393 = .ok (.aload 6, 2) := by decide +kernel
theorem d_Mo_high_395 : decode b_Mo_high 395 = .ok (.getfield 585, 3) := by decide +kernel
theorem d_Mo_high_398 : decode b_Mo_high 398 = .ok (.iload 7, 2) := by decide +kernel
theorem d_Mo_high_400 : decode b_Mo_high 400 = .ok (.baload, 1) := by decide +kernel
theorem d_Mo_high_401 : decode b_Mo_high 401 = .ok (.iconst 3, 1) := by decide +kernel
theorem d_Mo_high_402 : decode b_Mo_high 402 = .ok (.if_icmp .eq 12, 3) := by decide +kernel
theorem d_Mo_high_405 : decode b_Mo_high 405 = .ok (.aload_n 0, 1) := by decide +kernel
theorem d_Mo_high_406 : decode b_Mo_high 406 = .ok (.iconst 3, 1) := by decide +kernel
theorem d_Mo_high_407 : decode b_Mo_high 407 = .ok (.invokevirtual 517, 3) := by decide +kernel
theorem d_Mo_high_410 : decode b_Mo_high 410 = .ok (.pop, 1) := by decide +kernel
theorem d_Mo_high_411 : decode b_Mo_high 411 = .ok (.goto 214, 3) := by decide +kernel
theorem d_Mo_high_414 : decode b_Mo_high 414 = .ok (.aload 6, 2) := by decide +kernel
theorem d_Mo_high_416 : decode b_Mo_high 416 = .ok (.getfield 588, 3) := by decide +kernel
theorem d_Mo_high_419 : decode b_Mo_high 419 = .ok (.iload 7, 2) := by decide +kernel
theorem d_Mo_high_421 : decode b_Mo_high 421 = .ok (.dup2, 1) := by decide +kernel
theorem d_Mo_high_422 : decode b_Mo_high 422 = .ok (.laload, 1) := by decide +kernel
theorem d_Mo_high_423 : decode b_Mo_high 423 = .ok (.aload 6, 2) := by decide +kernel
theorem d_Mo_high_425 : decode b_Mo_high 425 = .ok (.getfield 588, 3) := by decide +kernel
theorem d_Mo_high_428 : decode b_Mo_high 428 = .ok (.iload 7, 2) := by decide +kernel
theorem d_Mo_high_430 : decode b_Mo_high 430 = .ok (.iconst 2, 1) := by decide +kernel
theorem d_Mo_high_431 : decode b_Mo_high 431 = .ok (.iadd, 1) := by decide +kernel
theorem d_Mo_high_432 : decode b_Mo_high 432 = .ok (.laload, 1) := by decide +kernel
theorem d_Mo_high_433 : decode b_Mo_high 433 = .ok (.lsub, 1) := by decide +kernel
theorem d_Mo_high_434 : decode b_Mo_high 434 = .ok (.lastore, 1) := by decide +kernel
theorem d_Mo_high_435 : decode b_Mo_high 435 = .ok (.aload_n 1, 1) := by decide +kernel
theorem d_Mo_high_436 : decode b_Mo_high 436 = .ok (.getfield 758, 3) := by decide +kernel
theorem d_Mo_high_439 : decode b_Mo_high 439 = .ok (.iload_n 2, 1) := by decide +kernel
theorem d_Mo_high_440 : decode b_Mo_high 440 = .ok (.dup2, 1) := by decide +kernel
theorem d_Mo_high_441 : decode b_Mo_high 441 = .ok (.iaload, 1) := by decide +kernel
theorem d_Mo_high_442 : decode b_Mo_high 442 = .ok (.iload 4, 2) := by decide +kernel
theorem d_Mo_high_444 : decode b_Mo_high 444 = .ok (.invokestatic 513, 3) := by decide +kernel
theorem d_Mo_high_447 : decode b_Mo_high 447 = .ok (.iadd, 1) := by decide +kernel
theorem d_Mo_high_448 : decode b_Mo_high 448 = .ok (.iastore, 1) := by decide +kernel
theorem d_Mo_high_449 : decode b_Mo_high 449 = .ok (.goto 176, 3) := by decide +kernel
theorem d_Mo_high_452 : decode b_Mo_high 452 = .ok (.aload_n 0, 1) := by decide +kernel
theorem d_Mo_high_453 : decode b_Mo_high 453 = .ok (.getfield 259, 3) := by decide +kernel
theorem d_Mo_high_456 : decode b_Mo_high 456 = .ok (.iconst 0, 1) := by decide +kernel
theorem d_Mo_high_457 : decode b_Mo_high 457 = .ok (.putfield 569, 3) := by decide +kernel
theorem d_Mo_high_460 : decode b_Mo_high 460 = .ok (.aload_n 0, 1) := by decide +kernel
theorem d_Mo_high_461 : decode b_Mo_high 461 = .ok (.getfield 259, 3) := by decide +kernel
theorem d_Mo_high_464 : decode b_Mo_high 464 = .ok (.aload 6, 2) := by decide +kernel
theorem d_Mo_high_466 : decode b_Mo_high 466 = .ok (.iload 7, 2) := by decide +kernel
theorem d_Mo_high_468 : decode b_Mo_high 468 = .ok (.iconst 1, 1) := by decide +kernel
theorem d_Mo_high_469 : decode b_Mo_high 469 = .ok (.iadd, 1) := by decide +kernel
theorem d_Mo_high_470 : decode b_Mo_high 470 = .ok (.invokevirtual 770, 3) := by decide +kernel
theorem d_Mo_high_473 : decode b_Mo_high 473 = .ok (.aload_n 0, 1) := by decide +kernel
theorem d_Mo_high_474 : decode b_Mo_high 474 = .ok (.getfield 259, 3) := by decide +kernel
theorem d_Mo_high_477 : decode b_Mo_high 477 = .ok (.aload 6, 2) := by decide +kernel
theorem d_Mo_high_479 : decode b_Mo_high 479 = .ok (.iload 7, 2) := by decide +kernel
theorem d_Mo_high_481 : decode b_Mo_high 481 = .ok (.iconst 2, 1) := by decide +kernel
theorem d_Mo_high_482 : decode b_Mo_high 482 = .ok (.iadd, 1) := by decide +kernel
theorem d_Mo_high_483 : decode b_Mo_high 483 = .ok (.invokevirtual 770, 3) := by decide +kernel
theorem d_Mo_high_486 : decode b_Mo_high 486 = .ok (.aload_n 0, 1) := by decide +kernel
theorem d_Mo_high_487 : decode b_Mo_high 487 = .ok (.iconst 0, 1) := by decide +kernel
theorem d_Mo_high_488 : decode b_Mo_high 488 = .ok (.iload 4, 2) := by decide +kernel
theorem d_Mo_high_490 : decode b_Mo_high 490 = .ok (.invokestatic 495, 3) := by decide +kernel
theorem d_Mo_high_493 : decode b_Mo_high 493 = .ok (.iconst 3, 1) := by decide +kernel
theorem d_Mo_high_494 : decode b_Mo_high 494 = .ok (.iadd, 1) := by decide +kernel
theorem d_Mo_high_495 : decode b_Mo_high 495 = .ok (.iload 4, 2) := by decide +kernel
theorem d_Mo_high_497 : decode b_Mo_high 497 = .ok (.invokestatic 479, 3) := by decide +kernel
theorem d_Mo_high_500 : decode b_Mo_high 500 = .ok (.invokevirtual 947, 3) := by decide +kernel
theorem d_Mo_high_503 : decode b_Mo_high 503 = .ok (.aload_n 0, 1) := by decide +kernel
theorem d_Mo_high_504 : decode b_Mo_high 504 = .ok (.aload 6, 2) := by decide +kernel
theorem d_Mo_high_506 : decode b_Mo_high 506 = .ok (.getfield 585, 3) := by decide +kernel
theorem d_Mo_high_509 : decode b_Mo_high 509 = .ok (.iload 7, 2) := by decide +kernel
theorem d_Mo_high_511 : decode b_Mo_high 511 = .ok (.baload, 1) := by decide +kernel
theorem d_Mo_high_512 : decode b_Mo_high 512 = .ok (.putfield 253, 3) := by decide +kernel
theorem d_Mo_high_515 : decode b_Mo_high 515 = .ok (.aload_n 0, 1) := by decide +kernel
theorem d_Mo_high_516 : decode b_Mo_high 516 = .ok (.aload 6, 2) := by decide +kernel
theorem d_Mo_high_518 : decode b_Mo_high 518 = .ok (.getfield 588, 3) := by decide +kernel
theorem d_Mo_high_521 : decode b_Mo_high 521 = .ok (.iload 7, 2) := by decide +kernel
theorem d_Mo_high_523 : decode b_Mo_high 523 = .ok (.laload, 1) := by decide +kernel
theorem d_Mo_high_524 : decode b_Mo_high 524 = .ok (.putfield 256, 3) := by decide +kernel
theorem d_Mo_high_527 : decode b_Mo_high 527 = .ok (.aload_n 0, 1) := by decide +kernel
theorem d_Mo_high_528 : decode b_Mo_high 528 = .ok (.iconst 1, 1) := by decide +kernel
theorem d_Mo_high_529 : decode b_Mo_high 529 = .ok (.putfield 247, 3) := by decide +kernel
theorem d_Mo_high_532 : decode b_Mo_high 532 = .ok (.goto 93, 3) := by decide +kernel
theorem d_Mo_high_535 : decode b_Mo_high 535 = .ok (.aload 6, 2) := by decide +kernel
theorem d_Mo_high_537 : decode b_Mo_high 537 = .ok (.getfield 585, 3) := by decide +kernel
theorem d_Mo_high_540 : decode b_Mo_high 540 = .ok (.iload 7, 2) := by decide +kernel
theorem d_Mo_high_542 : decode b_Mo_high 542 = .ok (.iconst 1, 1) := by decide +kernel
theorem d_Mo_high_543 : decode b_Mo_high 543 = .ok (.iadd, 1) := by decide +kernel
theorem d_Mo_high_544 : decode b_Mo_high 544 = .ok (.baload, 1) := by decide +kernel
theorem d_Mo_high_545 : decode b_Mo_high 545 = .ok (.ifCond .ne 6, 3) := by decide +kernel
theorem d_Mo_high_548 : decode b_Mo_high 548 = .ok (.goto 77, 3) := by decide +kernel
theorem d_Mo_high_551 : decode b_Mo_high 551 = .ok (.aload 6, 2) := by decide +kernel
theorem d_Mo_high_553 : decode b_Mo_high 553 = .ok (.iload 7, 2) := by decide +kernel
theorem d_Mo_high_555 : decode b_Mo_high 555 = .ok (.aload 6, 2) := by decide +kernel
theorem d_Mo_high_557 : decode b_Mo_high 557 = .ok (.iload 7, 2) := by decide +kernel
theorem d_Mo_high_559 : decode b_Mo_high 559 = .ok (.iconst 1, 1) := by decide +kernel
theorem d_Mo_high_560 : decode b_Mo_high 560 = .ok (.iadd, 1) := by decide +kernel
theorem d_Mo_high_561 : decode b_Mo_high 561 = .ok (.invokevirtual 719, 3) := by decide +kernel
theorem d_Mo_high_564 : decode b_Mo_high 564 = .ok (.aload_n 1, 1) := by decide +kernel
theorem d_Mo_high_565 : decode b_Mo_high 565 = .ok (.getfield 758, 3) := by decide +kernel
theorem d_Mo_high_568 : decode b_Mo_high 568 = .ok (.iload_n 2, 1) := by decide +kernel
theorem d_Mo_high_569 : decode b_Mo_high 569 = .ok (.dup2, 1) := by decide +kernel
theorem d_Mo_high_570 : decode b_Mo_high 570 = .ok (.iaload, 1) := by decide +kernel
theorem d_Mo_high_571 : decode b_Mo_high 571 = .ok (.iload 4, 2) := by decide +kernel
theorem d_Mo_high_573 : decode b_Mo_high 573 = .ok (.invokestatic 513, 3) := by decide +kernel
theorem d_Mo_high_576 : decode b_Mo_high 576 = .ok (.iadd, 1) := by decide +kernel
theorem d_Mo_high_577 : decode b_Mo_high 577 = .ok (.iastore, 1) := by decide +kernel
theorem d_Mo_high_578 : decode b_Mo_high 578 = .ok (.goto 47, 3) := by decide +kernel
theorem d_Mo_high_581 : decode b_Mo_high 581 = .ok (.aload_n 0, 1) := by decide +kernel
theorem d_Mo_high_582 : decode b_Mo_high 582 = .ok (.aload_n 1, 1) := by decide +kernel
theorem d_Mo_high_583 : decode b_Mo_high 583 = .ok (.iload_n 2, 1) := by decide +kernel
theorem d_Mo_high_584 : decode b_Mo_high 584 = .ok (.iload 4, 2) := by decide +kernel
theorem d_Mo_high_586 : decode b_Mo_high 586 = .ok (.aload 6, 2) := by decide +kernel
theorem d_Mo_high_588 : decode b_Mo_high 588 = .ok (.iload 7, 2) := by decide +kernel
theorem d_Mo_high_590 : decode b_Mo_high 590 = .ok (.invokevirtual 1005, 3) := by decide +kernel
theorem d_Mo_high_593 : decode b_Mo_high 593 = .ok (.goto 32, 3) := by decide +kernel
theorem d_Mo_high_596 : decode b_Mo_high 596 = .ok (.aload_n 0, 1) := by decide +kernel
theorem d_Mo_high_597 : decode b_Mo_high 597 = .ok (.aload_n 1, 1) := by decide +kernel
theorem d_Mo_high_598 : decode b_Mo_high 598 = .ok (.iload_n 2, 1) := by decide +kernel
theorem d_Mo_high_599 : decode b_Mo_high 599 = .ok (.iload_n 3, 1) := by decide +kernel
theorem d_Mo_high_600 : decode b_Mo_high 600 = .ok (.iload 4, 2) := by decide +kernel
theorem d_Mo_high_602 : decode b_Mo_high 602 = .ok (.aload 6, 2) := by decide +kernel
theorem d_Mo_high_604 : decode b_Mo_high 604 = .ok (.iload 7, 2) := by decide +kernel
theorem d_Mo_high_606 : decode b_Mo_high 606 = .ok (.invokevirtual 1008, 3) := by decide +kernel
theorem d_Mo_high_609 : decode b_Mo_high 609 = .ok (.goto 16, 3) := by decide +kernel
theorem d_Mo_high_612 : decode b_Mo_high 612 = .ok (.aload_n 0, 1) := by decide +kernel
theorem d_Mo_high_613 : decode b_Mo_high 613 = .ok (.aload_n 1, 1) := by decide +kernel
theorem d_Mo_high_614 : decode b_Mo_high 614 = .ok (.iload_n 2, 1) := by decide +kernel
theorem d_Mo_high_615 : decode b_Mo_high 615 = .ok (.iload_n 3, 1) := by decide +kernel
theorem d_Mo_high_616 : decode b_Mo_high 616 = .ok (.iload 4, 2) := by decide +kernel
theorem d_Mo_high_618 : decode b_Mo_high 618 = .ok (.aload 6, 2) := by decide +kernel
theorem d_Mo_high_620 : decode b_Mo_high 620 = .ok (.iload 7, 2) := by decide +kernel
theorem d_Mo_high_622 : decode b_Mo_high 622 = .ok (.invokevirtual 1010, 3) := by decide +kernel
theorem d_Mo_high_625 : decode b_Mo_high 625 = .ok (.return_, 1) := by decide +kernel
abbrev b_Mo_gather : ByteArray := prog_14_method_128_code
def y_Mo_gather : MethodName := ⟨R_Mo, "gather", "(LLuaMachineModel$Thread_;III)Z"⟩
abbrev w_Mo_gather : List Cond := .code y_Mo_gather b_Mo_gather 7 (some .boolean) :: wA
theorem k_Mo_gather : Cond.code y_Mo_gather b_Mo_gather 7 (some .boolean) ∈ wA := kinm (show _ ∈ tables_1 from (List.mem_append_right _ (List.mem_append_right _ (List.mem_append_right _ (List.mem_append_right _ (List.mem_append_right _ (List.mem_append_right _ (List.mem_append_right _ (List.mem_append_right _ (List.mem_append_right _ (List.mem_append_right _ (List.mem_append_right _ (List.mem_append_right _ (List.mem_append_left _ (List.mem_of_getElem? (l := tables_1_13) (i := 211) (by decide +kernel)))))))))))))))) (by decide +kernel)
theorem d_Mo_gather_0 : decode b_Mo_gather 0 = .ok (.iload 4, 2) := by decide +kernel
theorem d_Mo_gather_2 : decode b_Mo_gather 2 = .ok (.ifCond .le 10, 3) := by decide +kernel
theorem d_Mo_gather_5 : decode b_Mo_gather 5 = .ok (.iload_n 3, 1) := by decide +kernel
theorem d_Mo_gather_6 : decode b_Mo_gather 6 = .ok (.iload 4, 2) := by decide +kernel
theorem d_Mo_gather_8 : decode b_Mo_gather 8 = .ok (.iadd, 1) := by decide +kernel
theorem d_Mo_gather_9 : decode b_Mo_gather 9 = .ok (.goto 16, 3) := by decide +kernel
theorem d_Mo_gather_12 : decode b_Mo_gather 12 = .ok (.aload_n 1, 1) := by decide +kernel
theorem d_Mo_gather_13 : decode b_Mo_gather 13 = .ok (.getfield 773, 3) := by decide +kernel
theorem d_Mo_gather_16 : decode b_Mo_gather 16 = .ok (.iload_n 2, 1) := by decide +kernel
theorem d_Mo_gather_17 : decode b_Mo_gather 17 = .ok (.iaload, 1) := by decide +kernel
theorem d_Mo_gather_18 : decode b_Mo_gather 18 = .ok (.aload_n 1, 1) := by decide +kernel
theorem d_Mo_gather_19 : decode b_Mo_gather 19 = .ok (.getfield 738, 3) := by decide +kernel
theorem d_Mo_gather_22 : decode b_Mo_gather 22 = .ok (.iload_n 2, 1) := by decide +kernel
theorem d_Mo_gather_23 : decode b_Mo_gather 23 = .ok (.iaload, 1) := by decide +kernel
theorem d_Mo_gather_24 : decode b_Mo_gather 24 = .ok (.iadd, 1) := by decide +kernel
theorem d_Mo_gather_25 : decode b_Mo_gather 25 = .ok (.istore 5, 2) := by decide +kernel
theorem d_Mo_gather_27 : decode b_Mo_gather 27 = .ok (.aload_n 0, 1) := by decide +kernel
theorem d_Mo_gather_28 : decode b_Mo_gather 28 = .ok (.getfield 259, 3) := by decide +kernel
theorem d_Mo_gather_31 : decode b_Mo_gather 31 = .ok (.iconst 0, 1) := by decide +kernel
theorem d_Mo_gather_32 : decode b_Mo_gather 32 = .ok (.putfield 569, 3) := by decide +kernel
theorem d_Mo_gather_35 : decode b_Mo_gather 35 = .ok (.iload 5, 2) := by decide +kernel
theorem d_Mo_gather_37 : decode b_Mo_gather 37 = .ok (.iload_n 3, 1) := by decide +kernel
theorem d_Mo_gather_38 : decode b_Mo_gather 38 = .ok (.isub, 1) := by decide +kernel
theorem d_Mo_gather_39 : decode b_Mo_gather 39 = .ok (.iconst 1, 1) := by decide +kernel
theorem d_Mo_gather_40 : decode b_Mo_gather 40 = .ok (.isub, 1) := by decide +kernel
theorem d_Mo_gather_41 : decode b_Mo_gather 41 = .ok (.sipush 250, 3) := by decide +kernel
theorem d_Mo_gather_44 : decode b_Mo_gather 44 = .ok (.if_icmp .le 19, 3) := by decide +kernel
theorem d_Mo_gather_47 : decode b_Mo_gather 47 = .ok (.aload_n 1, 1) := by decide +kernel
theorem d_Mo_gather_48 : decode b_Mo_gather 48 = .ok (.getfield 738, 3) := by decide +kernel
theorem d_Mo_gather_51 : decode b_Mo_gather 51 = .ok (.iload_n 2, 1) := by decide +kernel
theorem d_Mo_gather_52 : decode b_Mo_gather 52 = .ok (.iconst 0, 1) := by decide +kernel
theorem d_Mo_gather_53 : decode b_Mo_gather 53 = .ok (.iastore, 1) := by decide +kernel
theorem d_Mo_gather_54 : decode b_Mo_gather 54 = .ok (.aload_n 0, 1) := by decide +kernel
theorem d_Mo_gather_55 : decode b_Mo_gather 55 = .ok (.bipush 7, 2) := by decide +kernel
theorem d_Mo_gather_57 : decode b_Mo_gather 57 = .ok (.invokevirtual 517, 3) := by decide +kernel
theorem d_Mo_gather_60 : decode b_Mo_gather 60 = .ok (.pop, 1) := by decide +kernel
theorem d_Mo_gather_61 : decode b_Mo_gather 61 = .ok (.iconst 0, 1) := by decide +kernel
theorem d_Mo_gather_62 : decode b_Mo_gather 62 = .ok (.ireturn, 1) := by decide +kernel
theorem d_Mo_gather_63 : decode b_Mo_gather 63 = .ok (.iload_n 3, 1) := by decide +kernel
theorem d_Mo_gather_64 : decode b_Mo_gather 64 = .ok (.iconst 1, 1) := by decide +kernel
theorem d_Mo_gather_65 : decode b_Mo_gather 65 = .ok (.iadd, 1) := by decide +kernel
theorem d_Mo_gather_66 : decode b_Mo_gather 66 = .ok (.istore 6, 2) := by decide +kernel
theorem d_Mo_gather_68 : decode b_Mo_gather 68 = .ok (.iload 6, 2) := by decide +kernel
theorem d_Mo_gather_70 : decode b_Mo_gather 70 = .ok (.iload 5, 2) := by decide +kernel
theorem d_Mo_gather_72 : decode b_Mo_gather 72 = .ok (.if_icmp .ge 31, 3) := by decide +kernel
theorem d_Mo_gather_75 : decode b_Mo_gather 75 = .ok (.aload_n 0, 1) := by decide +kernel
theorem d_Mo_gather_76 : decode b_Mo_gather 76 = .ok (.aload_n 0, 1) := by decide +kernel
theorem d_Mo_gather_77 : decode b_Mo_gather 77 = .ok (.getfield 259, 3) := by decide +kernel
theorem d_Mo_gather_80 : decode b_Mo_gather 80 = .ok (.aload_n 1, 1) := by decide +kernel
theorem d_Mo_gather_81 : decode b_Mo_gather 81 = .ok (.iload_n 2, 1) := by decide +kernel
theorem d_Mo_gather_82 : decode b_Mo_gather 82 = .ok (.iload 4, 2) := by decide +kernel
theorem d_Mo_gather_84 : decode b_Mo_gather 84 = .ok (.ifCond .ne 7, 3) := by decide +kernel
theorem d_Mo_gather_87 : decode b_Mo_gather 87 = .ok (.iconst 1, 1) := by decide +kernel
theorem d_Mo_gather_88 : decode b_Mo_gather 88 = .ok (.goto 4, 3) := by decide +kernel
theorem d_Mo_gather_91 : decode b_Mo_gather 91 = .ok (.iconst 0, 1) := by decide +kernel
theorem d_Mo_gather_92 : decode b_Mo_gather 92 = .ok (.iload 6, 2) := by decide +kernel
theorem d_Mo_gather_94 : decode b_Mo_gather 94 = .ok (.invokevirtual 993, 3) := by decide +kernel
theorem d_Mo_gather_97 : decode b_Mo_gather 97 = .ok (.iinc 6 1, 3) := by decide +kernel
theorem d_Mo_gather_100 : decode b_Mo_gather 100 = .ok (.goto (-32), 3) := by decide +kernel
theorem d_Mo_gather_103 : decode b_Mo_gather 103 = .ok (.aload_n 1, 1) := by decide +kernel
theorem d_Mo_gather_104 : decode b_Mo_gather 104 = .ok (.getfield 738, 3) := by decide +kernel
theorem d_Mo_gather_107 : decode b_Mo_gather 107 = .ok (.iload_n 2, 1) := by decide +kernel
theorem d_Mo_gather_108 : decode b_Mo_gather 108 = .ok (.iconst 0, 1) := by decide +kernel
theorem d_Mo_gather_109 : decode b_Mo_gather 109 = .ok (.iastore, 1) := by decide +kernel
theorem d_Mo_gather_110 : decode b_Mo_gather 110 = .ok (.iconst 1, 1) := by decide +kernel
theorem d_Mo_gather_111 : decode b_Mo_gather 111 = .ok (.ireturn, 1) := by decide +kernel
abbrev b_Mo_addAt : ByteArray := prog_14_method_129_code
def y_Mo_addAt : MethodName := ⟨R_Mo, "addAt", "(LLuaMachineModel$Values;LLuaMachineModel$Thread_;IZI)V"⟩
abbrev w_Mo_addAt : List Cond := .code y_Mo_addAt b_Mo_addAt 6 none :: wA
theorem k_Mo_addAt : Cond.code y_Mo_addAt b_Mo_addAt 6 none ∈ wA := kinm (show _ ∈ tables_1 from (List.mem_append_right _ (List.mem_append_right _ (List.mem_append_right _ (List.mem_append_right _ (List.mem_append_right _ (List.mem_append_right _ (List.mem_append_right _ (List.mem_append_right _ (List.mem_append_right _ (List.mem_append_right _ (List.mem_append_right _ (List.mem_append_right _ (List.mem_append_left _ (List.mem_of_getElem? (l := tables_1_13) (i := 215) (by decide +kernel)))))))))))))))) (by decide +kernel)
theorem d_Mo_addAt_0 : decode b_Mo_addAt 0 = .ok (.iload 4, 2) := by decide +kernel
theorem d_Mo_addAt_2 : decode b_Mo_addAt 2 = .ok (.ifCond .eq 34, 3) := by decide +kernel
theorem d_Mo_addAt_5 : decode b_Mo_addAt 5 = .ok (.iload 5, 2) := by decide +kernel
theorem d_Mo_addAt_7 : decode b_Mo_addAt 7 = .ok (.aload_n 2, 1) := by decide +kernel
theorem d_Mo_addAt_8 : decode b_Mo_addAt 8 = .ok (.getfield 773, 3) := by decide +kernel
theorem d_Mo_addAt_11 : decode b_Mo_addAt 11 = .ok (.iload_n 3, 1) := by decide +kernel
theorem d_Mo_addAt_12 : decode b_Mo_addAt 12 = .ok (.iaload, 1) := by decide +kernel
theorem d_Mo_addAt_13 : decode b_Mo_addAt 13 = .ok (.if_icmp .lt 23, 3) := by decide +kernel
theorem d_Mo_addAt_16 : decode b_Mo_addAt 16 = .ok (.aload_n 1, 1) := by decide +kernel
theorem d_Mo_addAt_17 : decode b_Mo_addAt 17 = .ok (.aload_n 2, 1) := by decide +kernel
theorem d_Mo_addAt_18 : decode b_Mo_addAt 18 = .ok (.getfield 767, 3) := by decide +kernel
theorem d_Mo_addAt_21 : decode b_Mo_addAt 21 = .ok (.iload 5, 2) := by decide +kernel
theorem d_Mo_addAt_23 : decode b_Mo_addAt 23 = .ok (.aload_n 2, 1) := by decide +kernel
theorem d_Mo_addAt_24 : decode b_Mo_addAt 24 = .ok (.getfield 773, 3) := by decide +kernel
theorem d_Mo_addAt_27 : decode b_Mo_addAt 27 = .ok (.iload_n 3, 1) := by decide +kernel
theorem d_Mo_addAt_28 : decode b_Mo_addAt 28 = .ok (.iaload, 1) := by decide +kernel
theorem d_Mo_addAt_29 : decode b_Mo_addAt 29 = .ok (.isub, 1) := by decide +kernel
theorem d_Mo_addAt_30 : decode b_Mo_addAt 30 = .ok (.invokevirtual 770, 3) := by decide +kernel
theorem d_Mo_addAt_33 : decode b_Mo_addAt 33 = .ok (.goto 20, 3) := by decide +kernel
theorem d_Mo_addAt_36 : decode b_Mo_addAt 36 = .ok (.aload_n 1, 1) := by decide +kernel
theorem d_Mo_addAt_37 : decode b_Mo_addAt 37 = .ok (.aload_n 2, 1) := by decide +kernel
theorem d_Mo_addAt_38 : decode b_Mo_addAt 38 = .ok (.getfield 591, 3) := by decide +kernel
theorem d_Mo_addAt_41 : decode b_Mo_addAt 41 = .ok (.aload_n 2, 1) := by decide +kernel
theorem d_Mo_addAt_42 : decode b_Mo_addAt 42 = .ok (.getfield 744, 3) := by decide +kernel
theorem d_Mo_addAt_45 : decode b_Mo_addAt 45 = .ok (.iload_n 3, 1) := by decide +kernel
theorem d_Mo_addAt_46 : decode b_Mo_addAt 46 = .ok (.iaload, 1) := by decide +kernel
theorem d_Mo_addAt_47 : decode b_Mo_addAt 47 = .ok (.iload 5, 2) := by decide +kernel
theorem d_Mo_addAt_49 : decode b_Mo_addAt 49 = .ok (.iadd, 1) := by decide +kernel
theorem d_Mo_addAt_50 : decode b_Mo_addAt 50 = .ok (.invokevirtual 770, 3) := by decide +kernel
theorem d_Mo_addAt_53 : decode b_Mo_addAt 53 = .ok (.return_, 1) := by decide +kernel
theorem kw_277 : Cond.fieldLink R_Mo 773 "LuaMachineModel$Thread_" "rowAt" "[I" ∈ wA := kinm (show _ ∈ tables_1 from (List.mem_append_right _ (List.mem_append_right _ (List.mem_append_right _ (List.mem_append_right _ (List.mem_append_right _ (List.mem_append_right _ (List.mem_append_right _ (List.mem_append_right _ (List.mem_append_left _ (List.mem_of_getElem? (l := tables_1_9) (i := 237) (by decide +kernel)))))))))))) (by decide +kernel)
theorem kw_278 : Cond.fieldLink R_Mo 767 "LuaMachineModel$Thread_" "row" "LLuaMachineModel$Values;" ∈ wA := kinm (show _ ∈ tables_1 from (List.mem_append_right _ (List.mem_append_right _ (List.mem_append_right _ (List.mem_append_right _ (List.mem_append_right _ (List.mem_append_right _ (List.mem_append_right _ (List.mem_append_right _ (List.mem_append_left _ (List.mem_of_getElem? (l := tables_1_9) (i := 221) (by decide +kernel)))))))))))) (by decide +kernel)
theorem kw_279 : Cond.instanceMethod y_Mo_addAt ∈ wA := kinm (show _ ∈ tables_1 from (List.mem_append_right _ (List.mem_append_right _ (List.mem_append_right _ (List.mem_append_right _ (List.mem_append_right _ (List.mem_append_right _ (List.mem_append_right _ (List.mem_append_right _ (List.mem_append_right _ (List.mem_append_right _ (List.mem_append_right _ (List.mem_append_right _ (List.mem_append_left _ (List.mem_of_getElem? (l := tables_1_13) (i := 214) (by decide +kernel)))))))))))))))) (by decide +kernel)
theorem kw_280 : Cond.selects R_Mo y_Mo_addAt y_Mo_addAt ∈ wA := kinp 220 (by decide +kernel) (by decide +kernel)
def M_Mo_addAt_j36 (l1r : Nat) (l1 : Int32) (l2 : Int32) (l3 : Int32) (l5 : Int32) : M (Unit) :=
  oB (oAI 33 201 l2 l3) fun v46 =>
  oB (M_Va_add_ l1r l1 19 l2 (v46 + l5)) fun _ =>
  oR ()

def M_Mo_addAt (l1r : Nat) (l1 : Int32) (l2 : Int32) (l3 : Int32) (l4 : Int32) (l5 : Int32) : M (Unit) :=
  oC (l4 = 0)
    (M_Mo_addAt_j36 l1r l1 l2 l3 l5)
    (oB (oAI 35 201 l2 l3) fun v12 =>
    oC (l5 < v12)
      (M_Mo_addAt_j36 l1r l1 l2 l3 l5)
      (oB (oAI 35 201 l2 l3) fun v28 =>
      oB (M_Va_add_ l1r l1 22 l2 (l5 - v28)) fun _ =>
      oR ()))

theorem cv_Mo_addAt : CV y_Mo_addAt b_Mo_addAt 6 none 5 := ⟨kw_279, kw_280, kw_17, k_Mo_addAt, by decide +kernel⟩
theorem j_Mo_addAt_j36 {X : Cx} {q : PL} (g : Gd X y_Mo_addAt b_Mo_addAt 6 none 2 45 R_Mo) {o : (Unit) × S1} (hR : Rt X q o.2 none) (l1r : Nat) (l1 : Int32) (l2 : Int32) (l3 : Int32) (l5 : Int32) (s : S1) (hp0 : VOK l1r l1) (hp1 : 0 ≤ l2 ∧ l2 < 33) (ls : Array Slot) (hl : lv_has ls 6 [(1, .ref (q.1 l1r l1)), (2, .ref (q.1 28 l2)), (3, .int l3), (5, .int l5)]) (h : M_Mo_addAt_j36 l1r l1 l2 l3 l5 s = some o) : WW X q s 36 ls [] := by
  unfold M_Mo_addAt_j36 at h
  refine ww_aload_n (pc := 36) g.1 d_Mo_addAt_36 rfl (lv_at hl 0 rfl) ?_
  refine ww_aload_n (pc := 37) g.1 d_Mo_addAt_37 rfl (lv_at hl 1 rfl) ?_
  refine ww_gR (pc := 38) g (k := 7) cl_Th (pt rfl rfl hp1) (by decide) (Or.inl kw_91) (f := 3591) (t := 19) rfl rfl rfl d_Mo_addAt_38 ?_
  refine ww_aload_n (pc := 41) g.1 d_Mo_addAt_41 rfl (lv_at hl 1 rfl) ?_
  refine ww_gR (pc := 42) g (k := 14) cl_Th (pt rfl rfl hp1) (by decide) (Or.inl kw_260) (f := 3598) (t := 33) rfl rfl rfl d_Mo_addAt_42 ?_
  refine ww_iload_n (pc := 45) g.1 d_Mo_addAt_45 rfl (lv_at hl 2 rfl) ?_
  refine ww_ai (pc := 46) g (pt rfl rfl hp1) rfl rfl d_Mo_addAt_46 h fun v46 h => ?_
  refine ww_iload (pc := 47) g.1 d_Mo_addAt_47 (lv_at hl 3 rfl) ?_
  refine ww_iadd (pc := 49) g.1 d_Mo_addAt_49 ?_
  obtain ⟨v50, s, hc50, h⟩ := oB_of h
  refine ww_callV (pc := 50) (rest := []) g cv_Va_add_ (Or.inl kw_227) (cl_Va hp0) (vok_p hp0).1 (ct_Va_add_ hp0 (Or.inr ⟨by decide, hp1⟩) hc50) ⟨by decide, by decide⟩ rfl hl.1 (Nat.le_of_ble_eq_true rfl) d_Mo_addAt_50 rfl ?_
  refine ww_st (st' := []) rfl ?_
  exact ww_vretH (pc := 53) g h hR d_Mo_addAt_53

theorem ct_Mo_addAt {l : Launch} {P : PP} {q : PL} {s s' : S1} {l1r : Nat} {l1 : Int32} {l2 : Int32} {l3 : Int32} {l4 : Int32} {l5 : Int32} (hp0 : VOK l1r l1) (hp1 : 0 ≤ l2 ∧ l2 < 33) {r : Unit} (h : M_Mo_addAt l1r l1 l2 l3 l4 l5 s = some (r, s')) : Ct l y_Mo_addAt b_Mo_addAt 6 none 2 45 P q s [.ref (q.1 0 0), .ref (q.1 l1r l1), .ref (q.1 28 l2), .int l3, .int l4, .int l5] none q s' := by
  refine ct_of (by decide) (Nat.le_of_ble_eq_true rfl) fun X ls eP el g hR hl => ?_
  have hR : Rt X q ((r, s') : Unit × S1).2 none := hR
  have hl : lv_has ls 6 [(0, .ref (q.1 0 0)), (1, .ref (q.1 l1r l1)), (2, .ref (q.1 28 l2)), (3, .int l3), (4, .int l4), (5, .int l5)] := hl
  generalize (r, s') = o at h hR
  unfold M_Mo_addAt at h
  refine ww_iload (pc := 0) g.1 d_Mo_addAt_0 (lv_at hl 4 rfl) ?_
  refine ww_if_eq (pc := 2) (tgt := 36) g.1 d_Mo_addAt_2 (by decide) h (fun c h => ?_) (fun c h => ?_)
  · exact j_Mo_addAt_j36 g hR l1r l1 l2 l3 l5 s hp0 hp1 ls (lv_sub hl [1, 2, 3, 5] rfl) h
  · refine ww_iload (pc := 5) g.1 d_Mo_addAt_5 (lv_at hl 5 rfl) ?_
    refine ww_aload_n (pc := 7) g.1 d_Mo_addAt_7 rfl (lv_at hl 2 rfl) ?_
    refine ww_gR (pc := 8) g (k := 16) cl_Th (pt rfl rfl hp1) (by decide) (Or.inl kw_277) (f := 3600) (t := 35) rfl rfl rfl d_Mo_addAt_8 ?_
    refine ww_iload_n (pc := 11) g.1 d_Mo_addAt_11 rfl (lv_at hl 3 rfl) ?_
    refine ww_ai (pc := 12) g (pt rfl rfl hp1) rfl rfl d_Mo_addAt_12 h fun v12 h => ?_
    refine ww_icmp_lt (pc := 13) (tgt := 36) g.1 d_Mo_addAt_13 (by decide) h (fun c h => ?_) (fun c h => ?_)
    · exact j_Mo_addAt_j36 g hR l1r l1 l2 l3 l5 s hp0 hp1 ls (lv_sub hl [1, 2, 3, 5] rfl) h
    · refine ww_aload_n (pc := 16) g.1 d_Mo_addAt_16 rfl (lv_at hl 1 rfl) ?_
      refine ww_aload_n (pc := 17) g.1 d_Mo_addAt_17 rfl (lv_at hl 2 rfl) ?_
      refine ww_gR (pc := 18) g (k := 8) cl_Th (pt rfl rfl hp1) (by decide) (Or.inl kw_278) (f := 3592) (t := 22) rfl rfl rfl d_Mo_addAt_18 ?_
      refine ww_iload (pc := 21) g.1 d_Mo_addAt_21 (lv_at hl 5 rfl) ?_
      refine ww_aload_n (pc := 23) g.1 d_Mo_addAt_23 rfl (lv_at hl 2 rfl) ?_
      refine ww_gR (pc := 24) g (k := 16) cl_Th (pt rfl rfl hp1) (by decide) (Or.inl kw_277) (f := 3600) (t := 35) rfl rfl rfl d_Mo_addAt_24 ?_
      refine ww_iload_n (pc := 27) g.1 d_Mo_addAt_27 rfl (lv_at hl 3 rfl) ?_
      refine ww_ai (pc := 28) g (pt rfl rfl hp1) rfl rfl d_Mo_addAt_28 h fun v28 h => ?_
      refine ww_isub (pc := 29) g.1 d_Mo_addAt_29 ?_
      obtain ⟨v30, s, hc30, h⟩ := oB_of h
      refine ww_callV (pc := 30) (rest := []) g cv_Va_add_ (Or.inl kw_227) (cl_Va hp0) (vok_p hp0).1 (ct_Va_add_ hp0 (Or.inr ⟨by decide, hp1⟩) hc30) ⟨by decide, by decide⟩ rfl hl.1 (Nat.le_of_ble_eq_true rfl) d_Mo_addAt_30 rfl ?_
      refine ww_st (st' := []) rfl ?_
      refine ww_goto (pc := 33) (tgt := 53) g.1 d_Mo_addAt_33 (by decide) ?_
      exact ww_vretH (pc := 53) g h hR d_Mo_addAt_53

