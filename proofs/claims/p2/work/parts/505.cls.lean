abbrev b_Ch_lastOfRow : ByteArray := prog_3_method_19_code
def y_Ch_lastOfRow : MethodName := ⟨R_Ch, "lastOfRow", "(IIII)I"⟩
abbrev w_Ch_lastOfRow : List Cond := .code y_Ch_lastOfRow b_Ch_lastOfRow 4 (some .int) :: wA
set_option maxRecDepth 20000 in
theorem k_Ch_lastOfRow : Cond.code y_Ch_lastOfRow b_Ch_lastOfRow 4 (some .int) ∈ wA := kinm (show _ ∈ tables_1 from (List.mem_append_right _ (List.mem_append_right _ (List.mem_append_right _ (List.mem_append_left _ (List.mem_of_getElem? (l := tables_1_4) (i := 32) rfl)))))) rfl
theorem d_Ch_lastOfRow_0 : decode b_Ch_lastOfRow 0 = .ok (.iload_n 0, 1) := by decide +kernel
theorem d_Ch_lastOfRow_1 : decode b_Ch_lastOfRow 1 = .ok (.tableswitch 249 4 45 #[183, 249, 249, 249, 249, 249, 249, 249, 187, 249, 249, 249, 249, 249, 249, 249, 249, 249, 249, 249, 249, 249, 249, 249, 249, 249, 191, 249, 249, 249, 249, 249, 195, 209, 215, 221, 225, 229, 235, 239, 249, 243], 183) := by decide +kernel
theorem d_Ch_lastOfRow_184 : decode b_Ch_lastOfRow 184 = .ok (.iload_n 1, 1) := by decide +kernel
theorem d_Ch_lastOfRow_185 : decode b_Ch_lastOfRow 185 = .ok (.iload_n 2, 1) := by decide +kernel
theorem d_Ch_lastOfRow_186 : decode b_Ch_lastOfRow 186 = .ok (.iadd, 1) := by decide +kernel
theorem d_Ch_lastOfRow_187 : decode b_Ch_lastOfRow 187 = .ok (.ireturn, 1) := by decide +kernel
theorem d_Ch_lastOfRow_188 : decode b_Ch_lastOfRow 188 = .ok (.iload_n 1, 1) := by decide +kernel
theorem d_Ch_lastOfRow_189 : decode b_Ch_lastOfRow 189 = .ok (.iconst 1, 1) := by decide +kernel
theorem d_Ch_lastOfRow_190 : decode b_Ch_lastOfRow 190 = .ok (.iadd, 1) := by decide +kernel
theorem d_Ch_lastOfRow_191 : decode b_Ch_lastOfRow 191 = .ok (.ireturn, 1) := by decide +kernel
theorem d_Ch_lastOfRow_192 : decode b_Ch_lastOfRow 192 = .ok (.iload_n 1, 1) := by decide +kernel
theorem d_Ch_lastOfRow_193 : decode b_Ch_lastOfRow 193 = .ok (.iconst 1, 1) := by decide +kernel
theorem d_Ch_lastOfRow_194 : decode b_Ch_lastOfRow 194 = .ok (.isub, 1) := by decide +kernel
theorem d_Ch_lastOfRow_195 : decode b_Ch_lastOfRow 195 = .ok (.ireturn, 1) := by decide +kernel
theorem d_Ch_lastOfRow_196 : decode b_Ch_lastOfRow 196 = .ok (.iload_n 1, 1) := by decide +kernel
theorem d_Ch_lastOfRow_197 : decode b_Ch_lastOfRow 197 = .ok (.iload_n 2, 1) := by decide +kernel
theorem d_Ch_lastOfRow_198 : decode b_Ch_lastOfRow 198 = .ok (.iadd, 1) := by decide +kernel
theorem d_Ch_lastOfRow_199 : decode b_Ch_lastOfRow 199 = .ok (.iconst 1, 1) := by decide +kernel
theorem d_Ch_lastOfRow_200 : decode b_Ch_lastOfRow 200 = .ok (.isub, 1) := by decide +kernel
theorem d_Ch_lastOfRow_201 : decode b_Ch_lastOfRow 201 = .ok (.iload_n 1, 1) := by decide +kernel
theorem d_Ch_lastOfRow_202 : decode b_Ch_lastOfRow 202 = .ok (.iload_n 3, 1) := by decide +kernel
theorem d_Ch_lastOfRow_203 : decode b_Ch_lastOfRow 203 = .ok (.iadd, 1) := by decide +kernel
theorem d_Ch_lastOfRow_204 : decode b_Ch_lastOfRow 204 = .ok (.iconst 2, 1) := by decide +kernel
theorem d_Ch_lastOfRow_205 : decode b_Ch_lastOfRow 205 = .ok (.isub, 1) := by decide +kernel
theorem d_Ch_lastOfRow_206 : decode b_Ch_lastOfRow 206 = .ok (.invokestatic 186, 3) := by decide +kernel
theorem d_Ch_lastOfRow_209 : decode b_Ch_lastOfRow 209 = .ok (.ireturn, 1) := by decide +kernel
theorem d_Ch_lastOfRow_210 : decode b_Ch_lastOfRow 210 = .ok (.iload_n 1, 1) := by decide +kernel
theorem d_Ch_lastOfRow_211 : decode b_Ch_lastOfRow 211 = .ok (.iload_n 2, 1) := by decide +kernel
theorem d_Ch_lastOfRow_212 : decode b_Ch_lastOfRow 212 = .ok (.iadd, 1) := by decide +kernel
theorem d_Ch_lastOfRow_213 : decode b_Ch_lastOfRow 213 = .ok (.iconst 1, 1) := by decide +kernel
theorem d_Ch_lastOfRow_214 : decode b_Ch_lastOfRow 214 = .ok (.isub, 1) := by decide +kernel
theorem d_Ch_lastOfRow_215 : decode b_Ch_lastOfRow 215 = .ok (.ireturn, 1) := by decide +kernel
theorem d_Ch_lastOfRow_216 : decode b_Ch_lastOfRow 216 = .ok (.iload_n 1, 1) := by decide +kernel
theorem d_Ch_lastOfRow_217 : decode b_Ch_lastOfRow 217 = .ok (.iload_n 2, 1) := by decide +kernel
theorem d_Ch_lastOfRow_218 : decode b_Ch_lastOfRow 218 = .ok (.iadd, 1) := by decide +kernel
theorem d_Ch_lastOfRow_219 : decode b_Ch_lastOfRow 219 = .ok (.iconst 2, 1) := by decide +kernel
theorem d_Ch_lastOfRow_220 : decode b_Ch_lastOfRow 220 = .ok (.isub, 1) := by decide +kernel
theorem d_Ch_lastOfRow_221 : decode b_Ch_lastOfRow 221 = .ok (.ireturn, 1) := by decide +kernel
theorem d_Ch_lastOfRow_222 : decode b_Ch_lastOfRow 222 = .ok (.iload_n 1, 1) := by decide +kernel
theorem d_Ch_lastOfRow_223 : decode b_Ch_lastOfRow 223 = .ok (.iconst 3, 1) := by decide +kernel
theorem d_Ch_lastOfRow_224 : decode b_Ch_lastOfRow 224 = .ok (.iadd, 1) := by decide +kernel
theorem d_Ch_lastOfRow_225 : decode b_Ch_lastOfRow 225 = .ok (.ireturn, 1) := by decide +kernel
theorem d_Ch_lastOfRow_226 : decode b_Ch_lastOfRow 226 = .ok (.iload_n 1, 1) := by decide +kernel
theorem d_Ch_lastOfRow_227 : decode b_Ch_lastOfRow 227 = .ok (.iconst 3, 1) := by decide +kernel
theorem d_Ch_lastOfRow_228 : decode b_Ch_lastOfRow 228 = .ok (.iadd, 1) := by decide +kernel
theorem d_Ch_lastOfRow_229 : decode b_Ch_lastOfRow 229 = .ok (.ireturn, 1) := by decide +kernel
theorem d_Ch_lastOfRow_230 : decode b_Ch_lastOfRow 230 = .ok (.iload_n 1, 1) := by decide +kernel
theorem d_Ch_lastOfRow_231 : decode b_Ch_lastOfRow 231 = .ok (.iconst 2, 1) := by decide +kernel
theorem d_Ch_lastOfRow_232 : decode b_Ch_lastOfRow 232 = .ok (.iadd, 1) := by decide +kernel
theorem d_Ch_lastOfRow_233 : decode b_Ch_lastOfRow 233 = .ok (.iload_n 3, 1) := by decide +kernel
theorem d_Ch_lastOfRow_234 : decode b_Ch_lastOfRow 234 = .ok (.iadd, 1) := by decide +kernel
theorem d_Ch_lastOfRow_235 : decode b_Ch_lastOfRow 235 = .ok (.ireturn, 1) := by decide +kernel
theorem d_Ch_lastOfRow_236 : decode b_Ch_lastOfRow 236 = .ok (.iload_n 1, 1) := by decide +kernel
theorem d_Ch_lastOfRow_237 : decode b_Ch_lastOfRow 237 = .ok (.iconst 1, 1) := by decide +kernel
theorem d_Ch_lastOfRow_238 : decode b_Ch_lastOfRow 238 = .ok (.iadd, 1) := by decide +kernel
theorem d_Ch_lastOfRow_239 : decode b_Ch_lastOfRow 239 = .ok (.ireturn, 1) := by decide +kernel
theorem d_Ch_lastOfRow_240 : decode b_Ch_lastOfRow 240 = .ok (.iload_n 1, 1) := by decide +kernel
theorem d_Ch_lastOfRow_241 : decode b_Ch_lastOfRow 241 = .ok (.iload_n 2, 1) := by decide +kernel
theorem d_Ch_lastOfRow_242 : decode b_Ch_lastOfRow 242 = .ok (.iadd, 1) := by decide +kernel
theorem d_Ch_lastOfRow_243 : decode b_Ch_lastOfRow 243 = .ok (.ireturn, 1) := by decide +kernel
theorem d_Ch_lastOfRow_244 : decode b_Ch_lastOfRow 244 = .ok (.iload_n 1, 1) := by decide +kernel
theorem d_Ch_lastOfRow_245 : decode b_Ch_lastOfRow 245 = .ok (.iload_n 2, 1) := by decide +kernel
theorem d_Ch_lastOfRow_246 : decode b_Ch_lastOfRow 246 = .ok (.iadd, 1) := by decide +kernel
theorem d_Ch_lastOfRow_247 : decode b_Ch_lastOfRow 247 = .ok (.iconst 2, 1) := by decide +kernel
theorem d_Ch_lastOfRow_248 : decode b_Ch_lastOfRow 248 = .ok (.isub, 1) := by decide +kernel
theorem d_Ch_lastOfRow_249 : decode b_Ch_lastOfRow 249 = .ok (.ireturn, 1) := by decide +kernel
theorem d_Ch_lastOfRow_250 : decode b_Ch_lastOfRow 250 = .ok (.iconst 0, 1) := by decide +kernel
theorem d_Ch_lastOfRow_251 : decode b_Ch_lastOfRow 251 = .ok (.ireturn, 1) := by decide +kernel
theorem kw_698 : Cond.methodLink R_Ch 186 y_Mth_max ∈ wA := kinm (show _ ∈ tables_1 from (List.mem_append_right _ (List.mem_append_right _ (List.mem_append_right _ (List.mem_append_left _ (List.mem_of_getElem? (l := tables_1_4) (i := 33) (by decide +kernel))))))) (by decide +kernel)
theorem kw_699 : Cond.static y_Ch_lastOfRow ∈ wA := kinm (show _ ∈ tables_1 from (List.mem_append_right _ (List.mem_append_right _ (List.mem_append_right _ (List.mem_append_left _ (List.mem_of_getElem? (l := tables_1_4) (i := 31) (by decide +kernel))))))) (by decide +kernel)
theorem cs_Ch_lastOfRow : CS y_Ch_lastOfRow b_Ch_lastOfRow 4 (some .int) 4 := ⟨kw_699, kw_664, k_Ch_lastOfRow, by decide +kernel⟩
theorem ct_Ch_lastOfRow {l : Launch} {P : PP} {q : PL} {s s' : S1} {l0 : Int32} {l1 : Int32} {l2 : Int32} {l3 : Int32} {r : Int32} (h : M_Ch_lastOfRow l0 l1 l2 l3 s = some (r, s')) : Ct l y_Ch_lastOfRow b_Ch_lastOfRow 4 (some .int) 1 21 P q s [.int l0, .int l1, .int l2, .int l3] (some (.int r)) q s' := by
  refine ct_of (by decide) (Nat.le_of_ble_eq_true rfl) fun X ls eP el g hR hl => ?_
  subst eP
  have hR : Rt X q ((r, s') : Int32 × S1).2 (some (.int ((r, s') : Int32 × S1).1)) := hR
  have hl : lv_has ls 4 [(0, .int l0), (1, .int l1), (2, .int l2), (3, .int l3)] := hl
  generalize (r, s') = o at h hR
  unfold M_Ch_lastOfRow at h
  refine ww_iload_n (pc := 0) g.1 d_Ch_lastOfRow_0 rfl (lv_at hl 0 rfl) ?_
  by_cases c1_184 : l0 = 4
  · have h := oC_pos c1_184 h
    have c := c1_184
    refine ww_tableIn (pc := 1) (tgt := 184) g.1 d_Ch_lastOfRow_1 (by rw [c]; decide) (by rw [c]; decide) (by rw [c] <;> rfl) (by decide) ?_
    refine ww_iload_n (pc := 184) g.1 d_Ch_lastOfRow_184 rfl (lv_at hl 1 rfl) ?_
    refine ww_iload_n (pc := 185) g.1 d_Ch_lastOfRow_185 rfl (lv_at hl 2 rfl) ?_
    refine ww_iadd (pc := 186) g.1 d_Ch_lastOfRow_186 ?_
    exact ww_iretH (pc := 187) g h hR d_Ch_lastOfRow_187
  have h := oC_neg c1_184 h
  by_cases c1_188 : l0 = 12
  · have h := oC_pos c1_188 h
    have c := c1_188
    refine ww_tableIn (pc := 1) (tgt := 188) g.1 d_Ch_lastOfRow_1 (by rw [c]; decide) (by rw [c]; decide) (by rw [c] <;> rfl) (by decide) ?_
    refine ww_iload_n (pc := 188) g.1 d_Ch_lastOfRow_188 rfl (lv_at hl 1 rfl) ?_
    refine ww_iconst (pc := 189) g.1 (v := 1) d_Ch_lastOfRow_189 (by decide) ?_
    refine ww_iadd (pc := 190) g.1 d_Ch_lastOfRow_190 ?_
    exact ww_iretH (pc := 191) g h hR d_Ch_lastOfRow_191
  have h := oC_neg c1_188 h
  by_cases c1_192 : l0 = 30
  · have h := oC_pos c1_192 h
    have c := c1_192
    refine ww_tableIn (pc := 1) (tgt := 192) g.1 d_Ch_lastOfRow_1 (by rw [c]; decide) (by rw [c]; decide) (by rw [c] <;> rfl) (by decide) ?_
    refine ww_iload_n (pc := 192) g.1 d_Ch_lastOfRow_192 rfl (lv_at hl 1 rfl) ?_
    refine ww_iconst (pc := 193) g.1 (v := 1) d_Ch_lastOfRow_193 (by decide) ?_
    refine ww_isub (pc := 194) g.1 d_Ch_lastOfRow_194 ?_
    exact ww_iretH (pc := 195) g h hR d_Ch_lastOfRow_195
  have h := oC_neg c1_192 h
  by_cases c1_196 : l0 = 36
  · have h := oC_pos c1_196 h
    have c := c1_196
    refine ww_tableIn (pc := 1) (tgt := 196) g.1 d_Ch_lastOfRow_1 (by rw [c]; decide) (by rw [c]; decide) (by rw [c] <;> rfl) (by decide) ?_
    refine ww_iload_n (pc := 196) g.1 d_Ch_lastOfRow_196 rfl (lv_at hl 1 rfl) ?_
    refine ww_iload_n (pc := 197) g.1 d_Ch_lastOfRow_197 rfl (lv_at hl 2 rfl) ?_
    refine ww_iadd (pc := 198) g.1 d_Ch_lastOfRow_198 ?_
    refine ww_iconst (pc := 199) g.1 (v := 1) d_Ch_lastOfRow_199 (by decide) ?_
    refine ww_isub (pc := 200) g.1 d_Ch_lastOfRow_200 ?_
    refine ww_iload_n (pc := 201) g.1 d_Ch_lastOfRow_201 rfl (lv_at hl 1 rfl) ?_
    refine ww_iload_n (pc := 202) g.1 d_Ch_lastOfRow_202 rfl (lv_at hl 3 rfl) ?_
    refine ww_iadd (pc := 203) g.1 d_Ch_lastOfRow_203 ?_
    refine ww_iconst (pc := 204) g.1 (v := 2) d_Ch_lastOfRow_204 (by decide) ?_
    refine ww_isub (pc := 205) g.1 d_Ch_lastOfRow_205 ?_
    obtain ⟨v206, s, hc206, h⟩ := oB_of h
    refine ww_callS (pc := 206) (rest := []) g cs_Mth_max (Or.inl kw_698) (ct_Mth_max hc206) ⟨by decide, by decide⟩ rfl hl.1 (Nat.le_of_ble_eq_true rfl) d_Ch_lastOfRow_206 rfl (?_)
    refine ww_st (st' := [.int v206]) rfl ?_
    exact ww_iretH (pc := 209) g h hR d_Ch_lastOfRow_209
  have h := oC_neg c1_196 h
  by_cases c1_210 : l0 = 37
  · have h := oC_pos c1_210 h
    have c := c1_210
    refine ww_tableIn (pc := 1) (tgt := 210) g.1 d_Ch_lastOfRow_1 (by rw [c]; decide) (by rw [c]; decide) (by rw [c] <;> rfl) (by decide) ?_
    refine ww_iload_n (pc := 210) g.1 d_Ch_lastOfRow_210 rfl (lv_at hl 1 rfl) ?_
    refine ww_iload_n (pc := 211) g.1 d_Ch_lastOfRow_211 rfl (lv_at hl 2 rfl) ?_
    refine ww_iadd (pc := 212) g.1 d_Ch_lastOfRow_212 ?_
    refine ww_iconst (pc := 213) g.1 (v := 1) d_Ch_lastOfRow_213 (by decide) ?_
    refine ww_isub (pc := 214) g.1 d_Ch_lastOfRow_214 ?_
    exact ww_iretH (pc := 215) g h hR d_Ch_lastOfRow_215
  have h := oC_neg c1_210 h
  by_cases c1_216 : l0 = 38
  · have h := oC_pos c1_216 h
    have c := c1_216
    refine ww_tableIn (pc := 1) (tgt := 216) g.1 d_Ch_lastOfRow_1 (by rw [c]; decide) (by rw [c]; decide) (by rw [c] <;> rfl) (by decide) ?_
    refine ww_iload_n (pc := 216) g.1 d_Ch_lastOfRow_216 rfl (lv_at hl 1 rfl) ?_
    refine ww_iload_n (pc := 217) g.1 d_Ch_lastOfRow_217 rfl (lv_at hl 2 rfl) ?_
    refine ww_iadd (pc := 218) g.1 d_Ch_lastOfRow_218 ?_
    refine ww_iconst (pc := 219) g.1 (v := 2) d_Ch_lastOfRow_219 (by decide) ?_
    refine ww_isub (pc := 220) g.1 d_Ch_lastOfRow_220 ?_
    exact ww_iretH (pc := 221) g h hR d_Ch_lastOfRow_221
  have h := oC_neg c1_216 h
  by_cases c1_222 : l0 = 39
  · have h := oC_pos c1_222 h
    have c := c1_222
    refine ww_tableIn (pc := 1) (tgt := 222) g.1 d_Ch_lastOfRow_1 (by rw [c]; decide) (by rw [c]; decide) (by rw [c] <;> rfl) (by decide) ?_
    refine ww_iload_n (pc := 222) g.1 d_Ch_lastOfRow_222 rfl (lv_at hl 1 rfl) ?_
    refine ww_iconst (pc := 223) g.1 (v := 3) d_Ch_lastOfRow_223 (by decide) ?_
    refine ww_iadd (pc := 224) g.1 d_Ch_lastOfRow_224 ?_
    exact ww_iretH (pc := 225) g h hR d_Ch_lastOfRow_225
  have h := oC_neg c1_222 h
  by_cases c1_226 : l0 = 40
  · have h := oC_pos c1_226 h
    have c := c1_226
    refine ww_tableIn (pc := 1) (tgt := 226) g.1 d_Ch_lastOfRow_1 (by rw [c]; decide) (by rw [c]; decide) (by rw [c] <;> rfl) (by decide) ?_
    refine ww_iload_n (pc := 226) g.1 d_Ch_lastOfRow_226 rfl (lv_at hl 1 rfl) ?_
    refine ww_iconst (pc := 227) g.1 (v := 3) d_Ch_lastOfRow_227 (by decide) ?_
    refine ww_iadd (pc := 228) g.1 d_Ch_lastOfRow_228 ?_
    exact ww_iretH (pc := 229) g h hR d_Ch_lastOfRow_229
  have h := oC_neg c1_226 h
  by_cases c1_230 : l0 = 41
  · have h := oC_pos c1_230 h
    have c := c1_230
    refine ww_tableIn (pc := 1) (tgt := 230) g.1 d_Ch_lastOfRow_1 (by rw [c]; decide) (by rw [c]; decide) (by rw [c] <;> rfl) (by decide) ?_
    refine ww_iload_n (pc := 230) g.1 d_Ch_lastOfRow_230 rfl (lv_at hl 1 rfl) ?_
    refine ww_iconst (pc := 231) g.1 (v := 2) d_Ch_lastOfRow_231 (by decide) ?_
    refine ww_iadd (pc := 232) g.1 d_Ch_lastOfRow_232 ?_
    refine ww_iload_n (pc := 233) g.1 d_Ch_lastOfRow_233 rfl (lv_at hl 3 rfl) ?_
    refine ww_iadd (pc := 234) g.1 d_Ch_lastOfRow_234 ?_
    exact ww_iretH (pc := 235) g h hR d_Ch_lastOfRow_235
  have h := oC_neg c1_230 h
  by_cases c1_236 : l0 = 42
  · have h := oC_pos c1_236 h
    have c := c1_236
    refine ww_tableIn (pc := 1) (tgt := 236) g.1 d_Ch_lastOfRow_1 (by rw [c]; decide) (by rw [c]; decide) (by rw [c] <;> rfl) (by decide) ?_
    refine ww_iload_n (pc := 236) g.1 d_Ch_lastOfRow_236 rfl (lv_at hl 1 rfl) ?_
    refine ww_iconst (pc := 237) g.1 (v := 1) d_Ch_lastOfRow_237 (by decide) ?_
    refine ww_iadd (pc := 238) g.1 d_Ch_lastOfRow_238 ?_
    exact ww_iretH (pc := 239) g h hR d_Ch_lastOfRow_239
  have h := oC_neg c1_236 h
  by_cases c1_240 : l0 = 43
  · have h := oC_pos c1_240 h
    have c := c1_240
    refine ww_tableIn (pc := 1) (tgt := 240) g.1 d_Ch_lastOfRow_1 (by rw [c]; decide) (by rw [c]; decide) (by rw [c] <;> rfl) (by decide) ?_
    refine ww_iload_n (pc := 240) g.1 d_Ch_lastOfRow_240 rfl (lv_at hl 1 rfl) ?_
    refine ww_iload_n (pc := 241) g.1 d_Ch_lastOfRow_241 rfl (lv_at hl 2 rfl) ?_
    refine ww_iadd (pc := 242) g.1 d_Ch_lastOfRow_242 ?_
    exact ww_iretH (pc := 243) g h hR d_Ch_lastOfRow_243
  have h := oC_neg c1_240 h
  by_cases c1_244 : l0 = 45
  · have h := oC_pos c1_244 h
    have c := c1_244
    refine ww_tableIn (pc := 1) (tgt := 244) g.1 d_Ch_lastOfRow_1 (by rw [c]; decide) (by rw [c]; decide) (by rw [c] <;> rfl) (by decide) ?_
    refine ww_iload_n (pc := 244) g.1 d_Ch_lastOfRow_244 rfl (lv_at hl 1 rfl) ?_
    refine ww_iload_n (pc := 245) g.1 d_Ch_lastOfRow_245 rfl (lv_at hl 2 rfl) ?_
    refine ww_iadd (pc := 246) g.1 d_Ch_lastOfRow_246 ?_
    refine ww_iconst (pc := 247) g.1 (v := 2) d_Ch_lastOfRow_247 (by decide) ?_
    refine ww_isub (pc := 248) g.1 d_Ch_lastOfRow_248 ?_
    exact ww_iretH (pc := 249) g h hR d_Ch_lastOfRow_249
  have h := oC_neg c1_244 h
  have n_4 : ¬ l0.toInt = 4 := lv_neT (fun e => c1_184 e) rfl
  have n_12 : ¬ l0.toInt = 12 := lv_neT (fun e => c1_188 e) rfl
  have n_30 : ¬ l0.toInt = 30 := lv_neT (fun e => c1_192 e) rfl
  have n_36 : ¬ l0.toInt = 36 := lv_neT (fun e => c1_196 e) rfl
  have n_37 : ¬ l0.toInt = 37 := lv_neT (fun e => c1_210 e) rfl
  have n_38 : ¬ l0.toInt = 38 := lv_neT (fun e => c1_216 e) rfl
  have n_39 : ¬ l0.toInt = 39 := lv_neT (fun e => c1_222 e) rfl
  have n_40 : ¬ l0.toInt = 40 := lv_neT (fun e => c1_226 e) rfl
  have n_41 : ¬ l0.toInt = 41 := lv_neT (fun e => c1_230 e) rfl
  have n_42 : ¬ l0.toInt = 42 := lv_neT (fun e => c1_236 e) rfl
  have n_43 : ¬ l0.toInt = 43 := lv_neT (fun e => c1_240 e) rfl
  have n_45 : ¬ l0.toInt = 45 := lv_neT (fun e => c1_244 e) rfl
  by_cases hr : l0.toInt < 4 ∨ 45 < l0.toInt
  · refine ww_tableOut (pc := 1) (tgt := 250) g.1 d_Ch_lastOfRow_1 hr (by decide) ?_
    refine ww_iconst (pc := 250) g.1 (v := 0) d_Ch_lastOfRow_250 (by decide) ?_
    exact ww_iretH (pc := 251) g h hR d_Ch_lastOfRow_251
  have hh : l0.toInt = 5 ∨ l0.toInt = 6 ∨ l0.toInt = 7 ∨ l0.toInt = 8 ∨ l0.toInt = 9 ∨ l0.toInt = 10 ∨ l0.toInt = 11 ∨ l0.toInt = 13 ∨ l0.toInt = 14 ∨ l0.toInt = 15 ∨ l0.toInt = 16 ∨ l0.toInt = 17 ∨ l0.toInt = 18 ∨ l0.toInt = 19 ∨ l0.toInt = 20 ∨ l0.toInt = 21 ∨ l0.toInt = 22 ∨ l0.toInt = 23 ∨ l0.toInt = 24 ∨ l0.toInt = 25 ∨ l0.toInt = 26 ∨ l0.toInt = 27 ∨ l0.toInt = 28 ∨ l0.toInt = 29 ∨ l0.toInt = 31 ∨ l0.toInt = 32 ∨ l0.toInt = 33 ∨ l0.toInt = 34 ∨ l0.toInt = 35 ∨ l0.toInt = 44 := by omega
  rcases hh with c | c | c | c | c | c | c | c | c | c | c | c | c | c | c | c | c | c | c | c | c | c | c | c | c | c | c | c | c | c
  · refine ww_tableIn (pc := 1) (tgt := 250) g.1 d_Ch_lastOfRow_1 (by rw [c]; decide) (by rw [c]; decide) (by rw [c] <;> rfl) (by decide) ?_
    refine ww_iconst (pc := 250) g.1 (v := 0) d_Ch_lastOfRow_250 (by decide) ?_
    exact ww_iretH (pc := 251) g h hR d_Ch_lastOfRow_251
  · refine ww_tableIn (pc := 1) (tgt := 250) g.1 d_Ch_lastOfRow_1 (by rw [c]; decide) (by rw [c]; decide) (by rw [c] <;> rfl) (by decide) ?_
    refine ww_iconst (pc := 250) g.1 (v := 0) d_Ch_lastOfRow_250 (by decide) ?_
    exact ww_iretH (pc := 251) g h hR d_Ch_lastOfRow_251
  · refine ww_tableIn (pc := 1) (tgt := 250) g.1 d_Ch_lastOfRow_1 (by rw [c]; decide) (by rw [c]; decide) (by rw [c] <;> rfl) (by decide) ?_
    refine ww_iconst (pc := 250) g.1 (v := 0) d_Ch_lastOfRow_250 (by decide) ?_
    exact ww_iretH (pc := 251) g h hR d_Ch_lastOfRow_251
  · refine ww_tableIn (pc := 1) (tgt := 250) g.1 d_Ch_lastOfRow_1 (by rw [c]; decide) (by rw [c]; decide) (by rw [c] <;> rfl) (by decide) ?_
    refine ww_iconst (pc := 250) g.1 (v := 0) d_Ch_lastOfRow_250 (by decide) ?_
    exact ww_iretH (pc := 251) g h hR d_Ch_lastOfRow_251
  · refine ww_tableIn (pc := 1) (tgt := 250) g.1 d_Ch_lastOfRow_1 (by rw [c]; decide) (by rw [c]; decide) (by rw [c] <;> rfl) (by decide) ?_
    refine ww_iconst (pc := 250) g.1 (v := 0) d_Ch_lastOfRow_250 (by decide) ?_
    exact ww_iretH (pc := 251) g h hR d_Ch_lastOfRow_251
  · refine ww_tableIn (pc := 1) (tgt := 250) g.1 d_Ch_lastOfRow_1 (by rw [c]; decide) (by rw [c]; decide) (by rw [c] <;> rfl) (by decide) ?_
    refine ww_iconst (pc := 250) g.1 (v := 0) d_Ch_lastOfRow_250 (by decide) ?_
    exact ww_iretH (pc := 251) g h hR d_Ch_lastOfRow_251
  · refine ww_tableIn (pc := 1) (tgt := 250) g.1 d_Ch_lastOfRow_1 (by rw [c]; decide) (by rw [c]; decide) (by rw [c] <;> rfl) (by decide) ?_
    refine ww_iconst (pc := 250) g.1 (v := 0) d_Ch_lastOfRow_250 (by decide) ?_
    exact ww_iretH (pc := 251) g h hR d_Ch_lastOfRow_251
  · refine ww_tableIn (pc := 1) (tgt := 250) g.1 d_Ch_lastOfRow_1 (by rw [c]; decide) (by rw [c]; decide) (by rw [c] <;> rfl) (by decide) ?_
    refine ww_iconst (pc := 250) g.1 (v := 0) d_Ch_lastOfRow_250 (by decide) ?_
    exact ww_iretH (pc := 251) g h hR d_Ch_lastOfRow_251
  · refine ww_tableIn (pc := 1) (tgt := 250) g.1 d_Ch_lastOfRow_1 (by rw [c]; decide) (by rw [c]; decide) (by rw [c] <;> rfl) (by decide) ?_
    refine ww_iconst (pc := 250) g.1 (v := 0) d_Ch_lastOfRow_250 (by decide) ?_
    exact ww_iretH (pc := 251) g h hR d_Ch_lastOfRow_251
  · refine ww_tableIn (pc := 1) (tgt := 250) g.1 d_Ch_lastOfRow_1 (by rw [c]; decide) (by rw [c]; decide) (by rw [c] <;> rfl) (by decide) ?_
    refine ww_iconst (pc := 250) g.1 (v := 0) d_Ch_lastOfRow_250 (by decide) ?_
    exact ww_iretH (pc := 251) g h hR d_Ch_lastOfRow_251
  · refine ww_tableIn (pc := 1) (tgt := 250) g.1 d_Ch_lastOfRow_1 (by rw [c]; decide) (by rw [c]; decide) (by rw [c] <;> rfl) (by decide) ?_
    refine ww_iconst (pc := 250) g.1 (v := 0) d_Ch_lastOfRow_250 (by decide) ?_
    exact ww_iretH (pc := 251) g h hR d_Ch_lastOfRow_251
  · refine ww_tableIn (pc := 1) (tgt := 250) g.1 d_Ch_lastOfRow_1 (by rw [c]; decide) (by rw [c]; decide) (by rw [c] <;> rfl) (by decide) ?_
    refine ww_iconst (pc := 250) g.1 (v := 0) d_Ch_lastOfRow_250 (by decide) ?_
    exact ww_iretH (pc := 251) g h hR d_Ch_lastOfRow_251
  · refine ww_tableIn (pc := 1) (tgt := 250) g.1 d_Ch_lastOfRow_1 (by rw [c]; decide) (by rw [c]; decide) (by rw [c] <;> rfl) (by decide) ?_
    refine ww_iconst (pc := 250) g.1 (v := 0) d_Ch_lastOfRow_250 (by decide) ?_
    exact ww_iretH (pc := 251) g h hR d_Ch_lastOfRow_251
  · refine ww_tableIn (pc := 1) (tgt := 250) g.1 d_Ch_lastOfRow_1 (by rw [c]; decide) (by rw [c]; decide) (by rw [c] <;> rfl) (by decide) ?_
    refine ww_iconst (pc := 250) g.1 (v := 0) d_Ch_lastOfRow_250 (by decide) ?_
    exact ww_iretH (pc := 251) g h hR d_Ch_lastOfRow_251
  · refine ww_tableIn (pc := 1) (tgt := 250) g.1 d_Ch_lastOfRow_1 (by rw [c]; decide) (by rw [c]; decide) (by rw [c] <;> rfl) (by decide) ?_
    refine ww_iconst (pc := 250) g.1 (v := 0) d_Ch_lastOfRow_250 (by decide) ?_
    exact ww_iretH (pc := 251) g h hR d_Ch_lastOfRow_251
  · refine ww_tableIn (pc := 1) (tgt := 250) g.1 d_Ch_lastOfRow_1 (by rw [c]; decide) (by rw [c]; decide) (by rw [c] <;> rfl) (by decide) ?_
    refine ww_iconst (pc := 250) g.1 (v := 0) d_Ch_lastOfRow_250 (by decide) ?_
    exact ww_iretH (pc := 251) g h hR d_Ch_lastOfRow_251
  · refine ww_tableIn (pc := 1) (tgt := 250) g.1 d_Ch_lastOfRow_1 (by rw [c]; decide) (by rw [c]; decide) (by rw [c] <;> rfl) (by decide) ?_
    refine ww_iconst (pc := 250) g.1 (v := 0) d_Ch_lastOfRow_250 (by decide) ?_
    exact ww_iretH (pc := 251) g h hR d_Ch_lastOfRow_251
  · refine ww_tableIn (pc := 1) (tgt := 250) g.1 d_Ch_lastOfRow_1 (by rw [c]; decide) (by rw [c]; decide) (by rw [c] <;> rfl) (by decide) ?_
    refine ww_iconst (pc := 250) g.1 (v := 0) d_Ch_lastOfRow_250 (by decide) ?_
    exact ww_iretH (pc := 251) g h hR d_Ch_lastOfRow_251
  · refine ww_tableIn (pc := 1) (tgt := 250) g.1 d_Ch_lastOfRow_1 (by rw [c]; decide) (by rw [c]; decide) (by rw [c] <;> rfl) (by decide) ?_
    refine ww_iconst (pc := 250) g.1 (v := 0) d_Ch_lastOfRow_250 (by decide) ?_
    exact ww_iretH (pc := 251) g h hR d_Ch_lastOfRow_251
  · refine ww_tableIn (pc := 1) (tgt := 250) g.1 d_Ch_lastOfRow_1 (by rw [c]; decide) (by rw [c]; decide) (by rw [c] <;> rfl) (by decide) ?_
    refine ww_iconst (pc := 250) g.1 (v := 0) d_Ch_lastOfRow_250 (by decide) ?_
    exact ww_iretH (pc := 251) g h hR d_Ch_lastOfRow_251
  · refine ww_tableIn (pc := 1) (tgt := 250) g.1 d_Ch_lastOfRow_1 (by rw [c]; decide) (by rw [c]; decide) (by rw [c] <;> rfl) (by decide) ?_
    refine ww_iconst (pc := 250) g.1 (v := 0) d_Ch_lastOfRow_250 (by decide) ?_
    exact ww_iretH (pc := 251) g h hR d_Ch_lastOfRow_251
  · refine ww_tableIn (pc := 1) (tgt := 250) g.1 d_Ch_lastOfRow_1 (by rw [c]; decide) (by rw [c]; decide) (by rw [c] <;> rfl) (by decide) ?_
    refine ww_iconst (pc := 250) g.1 (v := 0) d_Ch_lastOfRow_250 (by decide) ?_
    exact ww_iretH (pc := 251) g h hR d_Ch_lastOfRow_251
  · refine ww_tableIn (pc := 1) (tgt := 250) g.1 d_Ch_lastOfRow_1 (by rw [c]; decide) (by rw [c]; decide) (by rw [c] <;> rfl) (by decide) ?_
    refine ww_iconst (pc := 250) g.1 (v := 0) d_Ch_lastOfRow_250 (by decide) ?_
    exact ww_iretH (pc := 251) g h hR d_Ch_lastOfRow_251
  · refine ww_tableIn (pc := 1) (tgt := 250) g.1 d_Ch_lastOfRow_1 (by rw [c]; decide) (by rw [c]; decide) (by rw [c] <;> rfl) (by decide) ?_
    refine ww_iconst (pc := 250) g.1 (v := 0) d_Ch_lastOfRow_250 (by decide) ?_
    exact ww_iretH (pc := 251) g h hR d_Ch_lastOfRow_251
  · refine ww_tableIn (pc := 1) (tgt := 250) g.1 d_Ch_lastOfRow_1 (by rw [c]; decide) (by rw [c]; decide) (by rw [c] <;> rfl) (by decide) ?_
    refine ww_iconst (pc := 250) g.1 (v := 0) d_Ch_lastOfRow_250 (by decide) ?_
    exact ww_iretH (pc := 251) g h hR d_Ch_lastOfRow_251
  · refine ww_tableIn (pc := 1) (tgt := 250) g.1 d_Ch_lastOfRow_1 (by rw [c]; decide) (by rw [c]; decide) (by rw [c] <;> rfl) (by decide) ?_
    refine ww_iconst (pc := 250) g.1 (v := 0) d_Ch_lastOfRow_250 (by decide) ?_
    exact ww_iretH (pc := 251) g h hR d_Ch_lastOfRow_251
  · refine ww_tableIn (pc := 1) (tgt := 250) g.1 d_Ch_lastOfRow_1 (by rw [c]; decide) (by rw [c]; decide) (by rw [c] <;> rfl) (by decide) ?_
    refine ww_iconst (pc := 250) g.1 (v := 0) d_Ch_lastOfRow_250 (by decide) ?_
    exact ww_iretH (pc := 251) g h hR d_Ch_lastOfRow_251
  · refine ww_tableIn (pc := 1) (tgt := 250) g.1 d_Ch_lastOfRow_1 (by rw [c]; decide) (by rw [c]; decide) (by rw [c] <;> rfl) (by decide) ?_
    refine ww_iconst (pc := 250) g.1 (v := 0) d_Ch_lastOfRow_250 (by decide) ?_
    exact ww_iretH (pc := 251) g h hR d_Ch_lastOfRow_251
  · refine ww_tableIn (pc := 1) (tgt := 250) g.1 d_Ch_lastOfRow_1 (by rw [c]; decide) (by rw [c]; decide) (by rw [c] <;> rfl) (by decide) ?_
    refine ww_iconst (pc := 250) g.1 (v := 0) d_Ch_lastOfRow_250 (by decide) ?_
    exact ww_iretH (pc := 251) g h hR d_Ch_lastOfRow_251
  · refine ww_tableIn (pc := 1) (tgt := 250) g.1 d_Ch_lastOfRow_1 (by rw [c]; decide) (by rw [c]; decide) (by rw [c] <;> rfl) (by decide) ?_
    refine ww_iconst (pc := 250) g.1 (v := 0) d_Ch_lastOfRow_250 (by decide) ?_
    exact ww_iretH (pc := 251) g h hR d_Ch_lastOfRow_251

abbrev b_Ch_usesOpenRow : ByteArray := prog_3_method_22_code
def y_Ch_usesOpenRow : MethodName := ⟨R_Ch, "usesOpenRow", "(I)Z"⟩
abbrev w_Ch_usesOpenRow : List Cond := .code y_Ch_usesOpenRow b_Ch_usesOpenRow 2 (some .boolean) :: wA
theorem k_Ch_usesOpenRow : Cond.code y_Ch_usesOpenRow b_Ch_usesOpenRow 2 (some .boolean) ∈ wA := kinm (show _ ∈ tables_1 from (List.mem_append_right _ (List.mem_append_right _ (List.mem_append_right _ (List.mem_append_left _ (List.mem_of_getElem? (l := tables_1_4) (i := 46) (by decide +kernel))))))) (by decide +kernel)
theorem d_Ch_usesOpenRow_0 : decode b_Ch_usesOpenRow 0 = .ok (.iload_n 0, 1) := by decide +kernel
theorem d_Ch_usesOpenRow_1 : decode b_Ch_usesOpenRow 1 = .ok (.bipush 63, 2) := by decide +kernel
theorem d_Ch_usesOpenRow_3 : decode b_Ch_usesOpenRow 3 = .ok (.iand, 1) := by decide +kernel
theorem d_Ch_usesOpenRow_4 : decode b_Ch_usesOpenRow 4 = .ok (.istore_n 1, 1) := by decide +kernel
theorem d_Ch_usesOpenRow_5 : decode b_Ch_usesOpenRow 5 = .ok (.iload_n 0, 1) := by decide +kernel
theorem d_Ch_usesOpenRow_6 : decode b_Ch_usesOpenRow 6 = .ok (.bipush 23, 2) := by decide +kernel
theorem d_Ch_usesOpenRow_8 : decode b_Ch_usesOpenRow 8 = .ok (.iushr, 1) := by decide +kernel
theorem d_Ch_usesOpenRow_9 : decode b_Ch_usesOpenRow 9 = .ok (.ifCond .ne 31, 3) := by decide +kernel
theorem d_Ch_usesOpenRow_12 : decode b_Ch_usesOpenRow 12 = .ok (.iload_n 1, 1) := by decide +kernel
theorem d_Ch_usesOpenRow_13 : decode b_Ch_usesOpenRow 13 = .ok (.bipush 36, 2) := by decide +kernel
theorem d_Ch_usesOpenRow_15 : decode b_Ch_usesOpenRow 15 = .ok (.if_icmp .eq 21, 3) := by decide +kernel
theorem d_Ch_usesOpenRow_18 : decode b_Ch_usesOpenRow 18 = .ok (.iload_n 1, 1) := by decide +kernel
theorem d_Ch_usesOpenRow_19 : decode b_Ch_usesOpenRow 19 = .ok (.bipush 37, 2) := by decide +kernel
theorem d_Ch_usesOpenRow_21 : decode b_Ch_usesOpenRow 21 = .ok (.if_icmp .eq 15, 3) := by decide +kernel
theorem d_Ch_usesOpenRow_24 : decode b_Ch_usesOpenRow 24 = .ok (.iload_n 1, 1) := by decide +kernel
theorem d_Ch_usesOpenRow_25 : decode b_Ch_usesOpenRow 25 = .ok (.bipush 38, 2) := by decide +kernel
theorem d_Ch_usesOpenRow_27 : decode b_Ch_usesOpenRow 27 = .ok (.if_icmp .eq 9, 3) := by decide +kernel
theorem d_Ch_usesOpenRow_30 : decode b_Ch_usesOpenRow 30 = .ok (.iload_n 1, 1) := by decide +kernel
theorem d_Ch_usesOpenRow_31 : decode b_Ch_usesOpenRow 31 = .ok (.bipush 43, 2) := by decide +kernel
theorem d_Ch_usesOpenRow_33 : decode b_Ch_usesOpenRow 33 = .ok (.if_icmp .ne 7, 3) := by decide +kernel
theorem d_Ch_usesOpenRow_36 : decode b_Ch_usesOpenRow 36 = .ok (.iconst 1, 1) := by decide +kernel
theorem d_Ch_usesOpenRow_37 : decode b_Ch_usesOpenRow 37 = .ok (.goto 4, 3) := by decide +kernel
theorem d_Ch_usesOpenRow_40 : decode b_Ch_usesOpenRow 40 = .ok (.iconst 0, 1) := by decide +kernel
theorem d_Ch_usesOpenRow_41 : decode b_Ch_usesOpenRow 41 = .ok (.ireturn, 1) := by decide +kernel
theorem kw_700 : Cond.static y_Ch_usesOpenRow ∈ wA := kinm (show _ ∈ tables_1 from (List.mem_append_right _ (List.mem_append_right _ (List.mem_append_right _ (List.mem_append_left _ (List.mem_of_getElem? (l := tables_1_4) (i := 45) (by decide +kernel))))))) (by decide +kernel)
theorem cs_Ch_usesOpenRow : CS y_Ch_usesOpenRow b_Ch_usesOpenRow 2 (some .boolean) 1 := ⟨kw_700, kw_664, k_Ch_usesOpenRow, by decide +kernel⟩
theorem j_Ch_usesOpenRow_j40 {X : Cx} {q : PL} (g : Gd X y_Ch_usesOpenRow b_Ch_usesOpenRow 2 (some .boolean) 0 0 R_Ch) {o : (Int32) × S1} (hR : Rt X q o.2 (some (.int o.1)))  (s : S1) (ls : Array Slot) (hl : lv_has ls 2 []) (h : M_Ch_usesOpenRow_j40 s = some o) : WW X q s 40 ls [] := by
  unfold M_Ch_usesOpenRow_j40 at h
  refine ww_iconst (pc := 40) g.1 (v := 0) d_Ch_usesOpenRow_40 (by decide) ?_
  exact ww_zretH (pc := 41) g h hR (Or.inl rfl) d_Ch_usesOpenRow_41

theorem j_Ch_usesOpenRow_j36 {X : Cx} {q : PL} (g : Gd X y_Ch_usesOpenRow b_Ch_usesOpenRow 2 (some .boolean) 0 0 R_Ch) {o : (Int32) × S1} (hR : Rt X q o.2 (some (.int o.1)))  (s : S1) (ls : Array Slot) (hl : lv_has ls 2 []) (h : M_Ch_usesOpenRow_j36 s = some o) : WW X q s 36 ls [] := by
  unfold M_Ch_usesOpenRow_j36 at h
  refine ww_iconst (pc := 36) g.1 (v := 1) d_Ch_usesOpenRow_36 (by decide) ?_
  refine ww_goto (pc := 37) (tgt := 41) g.1 d_Ch_usesOpenRow_37 (by decide) ?_
  exact ww_zretH (pc := 41) g h hR (Or.inr rfl) d_Ch_usesOpenRow_41

theorem ct_Ch_usesOpenRow {l : Launch} {P : PP} {q : PL} {s s' : S1} {l0 : Int32} {r : Int32} (h : M_Ch_usesOpenRow l0 s = some (r, s')) : Ct l y_Ch_usesOpenRow b_Ch_usesOpenRow 2 (some .boolean) 0 0 P q s [.int l0] (some (.int r)) q s' := by
  refine ct_of (by decide) (Nat.le_of_ble_eq_true rfl) fun X ls eP el g hR hl => ?_
  subst eP
  have hR : Rt X q ((r, s') : Int32 × S1).2 (some (.int ((r, s') : Int32 × S1).1)) := hR
  have hl : lv_has ls 2 [(0, .int l0)] := hl
  generalize (r, s') = o at h hR
  unfold M_Ch_usesOpenRow at h
  refine ww_iload_n (pc := 0) g.1 d_Ch_usesOpenRow_0 rfl (lv_at hl 0 rfl) ?_
  refine ww_bipush (pc := 1) g.1 (v := 63) d_Ch_usesOpenRow_1 (by decide) ?_
  refine ww_iand (pc := 3) g.1 d_Ch_usesOpenRow_3 ?_
  refine ww_leti h fun l1_4 h => ?_
  refine ww_istore_n (pc := 4) (i := 1) g.1 (lv' := [(1, .int l1_4), (0, .int l0)]) d_Ch_usesOpenRow_4 rfl hl (by decide) rfl fun ls hl => ?_
  refine ww_iload_n (pc := 5) g.1 d_Ch_usesOpenRow_5 rfl (lv_at hl 1 rfl) ?_
  refine ww_bipush (pc := 6) g.1 (v := 23) d_Ch_usesOpenRow_6 (by decide) ?_
  refine ww_iushr (pc := 8) g.1 (v := iushr l0 (23 : Int32)) d_Ch_usesOpenRow_8 rfl ?_
  refine ww_if_ne (pc := 9) (tgt := 40) g.1 d_Ch_usesOpenRow_9 (by decide) h (fun c h => ?_) (fun c h => ?_)
  · exact j_Ch_usesOpenRow_j40 g hR s ls (lv_sub hl [] rfl) h
  · refine ww_iload_n (pc := 12) g.1 d_Ch_usesOpenRow_12 rfl (lv_at hl 0 rfl) ?_
    refine ww_bipush (pc := 13) g.1 (v := 36) d_Ch_usesOpenRow_13 (by decide) ?_
    refine ww_icmp_eq (pc := 15) (tgt := 36) g.1 d_Ch_usesOpenRow_15 (by decide) h (fun c h => ?_) (fun c h => ?_)
    · exact j_Ch_usesOpenRow_j36 g hR s ls (lv_sub hl [] rfl) h
    · refine ww_iload_n (pc := 18) g.1 d_Ch_usesOpenRow_18 rfl (lv_at hl 0 rfl) ?_
      refine ww_bipush (pc := 19) g.1 (v := 37) d_Ch_usesOpenRow_19 (by decide) ?_
      refine ww_icmp_eq (pc := 21) (tgt := 36) g.1 d_Ch_usesOpenRow_21 (by decide) h (fun c h => ?_) (fun c h => ?_)
      · exact j_Ch_usesOpenRow_j36 g hR s ls (lv_sub hl [] rfl) h
      · refine ww_iload_n (pc := 24) g.1 d_Ch_usesOpenRow_24 rfl (lv_at hl 0 rfl) ?_
        refine ww_bipush (pc := 25) g.1 (v := 38) d_Ch_usesOpenRow_25 (by decide) ?_
        refine ww_icmp_eq (pc := 27) (tgt := 36) g.1 d_Ch_usesOpenRow_27 (by decide) h (fun c h => ?_) (fun c h => ?_)
        · exact j_Ch_usesOpenRow_j36 g hR s ls (lv_sub hl [] rfl) h
        · refine ww_iload_n (pc := 30) g.1 d_Ch_usesOpenRow_30 rfl (lv_at hl 0 rfl) ?_
          refine ww_bipush (pc := 31) g.1 (v := 43) d_Ch_usesOpenRow_31 (by decide) ?_
          refine ww_icmp_ne (pc := 33) (tgt := 40) g.1 d_Ch_usesOpenRow_33 (by decide) h (fun c h => ?_) (fun c h => ?_)
          · exact j_Ch_usesOpenRow_j40 g hR s ls (lv_sub hl [] rfl) h
          · exact j_Ch_usesOpenRow_j36 g hR s ls (lv_sub hl [] rfl) h

abbrev b_Ch_opensRow : ByteArray := prog_3_method_23_code
def y_Ch_opensRow : MethodName := ⟨R_Ch, "opensRow", "(I)Z"⟩
abbrev w_Ch_opensRow : List Cond := .code y_Ch_opensRow b_Ch_opensRow 2 (some .boolean) :: wA
theorem k_Ch_opensRow : Cond.code y_Ch_opensRow b_Ch_opensRow 2 (some .boolean) ∈ wA := kinm (show _ ∈ tables_1 from (List.mem_append_right _ (List.mem_append_right _ (List.mem_append_right _ (List.mem_append_left _ (List.mem_of_getElem? (l := tables_1_4) (i := 54) (by decide +kernel))))))) (by decide +kernel)
theorem d_Ch_opensRow_0 : decode b_Ch_opensRow 0 = .ok (.iload_n 0, 1) := by decide +kernel
theorem d_Ch_opensRow_1 : decode b_Ch_opensRow 1 = .ok (.bipush 63, 2) := by decide +kernel
theorem d_Ch_opensRow_3 : decode b_Ch_opensRow 3 = .ok (.iand, 1) := by decide +kernel
theorem d_Ch_opensRow_4 : decode b_Ch_opensRow 4 = .ok (.istore_n 1, 1) := by decide +kernel
theorem d_Ch_opensRow_5 : decode b_Ch_opensRow 5 = .ok (.iload_n 1, 1) := by decide +kernel
theorem d_Ch_opensRow_6 : decode b_Ch_opensRow 6 = .ok (.bipush 36, 2) := by decide +kernel
theorem d_Ch_opensRow_8 : decode b_Ch_opensRow 8 = .ok (.if_icmp .ne 14, 3) := by decide +kernel
theorem d_Ch_opensRow_11 : decode b_Ch_opensRow 11 = .ok (.iload_n 0, 1) := by decide +kernel
theorem d_Ch_opensRow_12 : decode b_Ch_opensRow 12 = .ok (.bipush 14, 2) := by decide +kernel
theorem d_Ch_opensRow_14 : decode b_Ch_opensRow 14 = .ok (.iushr, 1) := by decide +kernel
theorem d_Ch_opensRow_15 : decode b_Ch_opensRow 15 = .ok (.sipush 511, 3) := by decide +kernel
theorem d_Ch_opensRow_18 : decode b_Ch_opensRow 18 = .ok (.iand, 1) := by decide +kernel
theorem d_Ch_opensRow_19 : decode b_Ch_opensRow 19 = .ok (.ifCond .eq 16, 3) := by decide +kernel
theorem d_Ch_opensRow_22 : decode b_Ch_opensRow 22 = .ok (.iload_n 1, 1) := by decide +kernel
theorem d_Ch_opensRow_23 : decode b_Ch_opensRow 23 = .ok (.bipush 45, 2) := by decide +kernel
theorem d_Ch_opensRow_25 : decode b_Ch_opensRow 25 = .ok (.if_icmp .ne 14, 3) := by decide +kernel
theorem d_Ch_opensRow_28 : decode b_Ch_opensRow 28 = .ok (.iload_n 0, 1) := by decide +kernel
theorem d_Ch_opensRow_29 : decode b_Ch_opensRow 29 = .ok (.bipush 23, 2) := by decide +kernel
theorem d_Ch_opensRow_31 : decode b_Ch_opensRow 31 = .ok (.iushr, 1) := by decide +kernel
theorem d_Ch_opensRow_32 : decode b_Ch_opensRow 32 = .ok (.ifCond .ne 7, 3) := by decide +kernel
theorem d_Ch_opensRow_35 : decode b_Ch_opensRow 35 = .ok (.iconst 1, 1) := by decide +kernel
theorem d_Ch_opensRow_36 : decode b_Ch_opensRow 36 = .ok (.goto 4, 3) := by decide +kernel
theorem d_Ch_opensRow_39 : decode b_Ch_opensRow 39 = .ok (.iconst 0, 1) := by decide +kernel
theorem d_Ch_opensRow_40 : decode b_Ch_opensRow 40 = .ok (.ireturn, 1) := by decide +kernel
theorem kw_701 : Cond.static y_Ch_opensRow ∈ wA := kinm (show _ ∈ tables_1 from (List.mem_append_right _ (List.mem_append_right _ (List.mem_append_right _ (List.mem_append_left _ (List.mem_of_getElem? (l := tables_1_4) (i := 53) (by decide +kernel))))))) (by decide +kernel)
theorem cs_Ch_opensRow : CS y_Ch_opensRow b_Ch_opensRow 2 (some .boolean) 1 := ⟨kw_701, kw_664, k_Ch_opensRow, by decide +kernel⟩
theorem j_Ch_opensRow_j39 {X : Cx} {q : PL} (g : Gd X y_Ch_opensRow b_Ch_opensRow 2 (some .boolean) 0 0 R_Ch) {o : (Int32) × S1} (hR : Rt X q o.2 (some (.int o.1)))  (s : S1) (ls : Array Slot) (hl : lv_has ls 2 []) (h : M_Ch_opensRow_j39 s = some o) : WW X q s 39 ls [] := by
  unfold M_Ch_opensRow_j39 at h
  refine ww_iconst (pc := 39) g.1 (v := 0) d_Ch_opensRow_39 (by decide) ?_
  exact ww_zretH (pc := 40) g h hR (Or.inl rfl) d_Ch_opensRow_40

theorem j_Ch_opensRow_j35 {X : Cx} {q : PL} (g : Gd X y_Ch_opensRow b_Ch_opensRow 2 (some .boolean) 0 0 R_Ch) {o : (Int32) × S1} (hR : Rt X q o.2 (some (.int o.1)))  (s : S1) (ls : Array Slot) (hl : lv_has ls 2 []) (h : M_Ch_opensRow_j35 s = some o) : WW X q s 35 ls [] := by
  unfold M_Ch_opensRow_j35 at h
  refine ww_iconst (pc := 35) g.1 (v := 1) d_Ch_opensRow_35 (by decide) ?_
  refine ww_goto (pc := 36) (tgt := 40) g.1 d_Ch_opensRow_36 (by decide) ?_
  exact ww_zretH (pc := 40) g h hR (Or.inr rfl) d_Ch_opensRow_40

theorem j_Ch_opensRow_j22 {X : Cx} {q : PL} (g : Gd X y_Ch_opensRow b_Ch_opensRow 2 (some .boolean) 0 0 R_Ch) {o : (Int32) × S1} (hR : Rt X q o.2 (some (.int o.1))) (l0 : Int32) (l1 : Int32) (s : S1) (ls : Array Slot) (hl : lv_has ls 2 [(0, .int l0), (1, .int l1)]) (h : M_Ch_opensRow_j22 l0 l1 s = some o) : WW X q s 22 ls [] := by
  unfold M_Ch_opensRow_j22 at h
  refine ww_iload_n (pc := 22) g.1 d_Ch_opensRow_22 rfl (lv_at hl 1 rfl) ?_
  refine ww_bipush (pc := 23) g.1 (v := 45) d_Ch_opensRow_23 (by decide) ?_
  refine ww_icmp_ne (pc := 25) (tgt := 39) g.1 d_Ch_opensRow_25 (by decide) h (fun c h => ?_) (fun c h => ?_)
  · exact j_Ch_opensRow_j39 g hR s ls (lv_sub hl [] rfl) h
  · refine ww_iload_n (pc := 28) g.1 d_Ch_opensRow_28 rfl (lv_at hl 0 rfl) ?_
    refine ww_bipush (pc := 29) g.1 (v := 23) d_Ch_opensRow_29 (by decide) ?_
    refine ww_iushr (pc := 31) g.1 (v := iushr l0 (23 : Int32)) d_Ch_opensRow_31 rfl ?_
    refine ww_if_ne (pc := 32) (tgt := 39) g.1 d_Ch_opensRow_32 (by decide) h (fun c h => ?_) (fun c h => ?_)
    · exact j_Ch_opensRow_j39 g hR s ls (lv_sub hl [] rfl) h
    · exact j_Ch_opensRow_j35 g hR s ls (lv_sub hl [] rfl) h

theorem ct_Ch_opensRow {l : Launch} {P : PP} {q : PL} {s s' : S1} {l0 : Int32} {r : Int32} (h : M_Ch_opensRow l0 s = some (r, s')) : Ct l y_Ch_opensRow b_Ch_opensRow 2 (some .boolean) 0 0 P q s [.int l0] (some (.int r)) q s' := by
  refine ct_of (by decide) (Nat.le_of_ble_eq_true rfl) fun X ls eP el g hR hl => ?_
  subst eP
  have hR : Rt X q ((r, s') : Int32 × S1).2 (some (.int ((r, s') : Int32 × S1).1)) := hR
  have hl : lv_has ls 2 [(0, .int l0)] := hl
  generalize (r, s') = o at h hR
  unfold M_Ch_opensRow at h
  refine ww_iload_n (pc := 0) g.1 d_Ch_opensRow_0 rfl (lv_at hl 0 rfl) ?_
  refine ww_bipush (pc := 1) g.1 (v := 63) d_Ch_opensRow_1 (by decide) ?_
  refine ww_iand (pc := 3) g.1 d_Ch_opensRow_3 ?_
  refine ww_leti h fun l1_4 h => ?_
  refine ww_istore_n (pc := 4) (i := 1) g.1 (lv' := [(1, .int l1_4), (0, .int l0)]) d_Ch_opensRow_4 rfl hl (by decide) rfl fun ls hl => ?_
  refine ww_iload_n (pc := 5) g.1 d_Ch_opensRow_5 rfl (lv_at hl 0 rfl) ?_
  refine ww_bipush (pc := 6) g.1 (v := 36) d_Ch_opensRow_6 (by decide) ?_
  refine ww_icmp_ne (pc := 8) (tgt := 22) g.1 d_Ch_opensRow_8 (by decide) h (fun c h => ?_) (fun c h => ?_)
  · exact j_Ch_opensRow_j22 g hR l0 l1_4 s ls (lv_sub hl [1, 0] rfl) h
  · refine ww_iload_n (pc := 11) g.1 d_Ch_opensRow_11 rfl (lv_at hl 1 rfl) ?_
    refine ww_bipush (pc := 12) g.1 (v := 14) d_Ch_opensRow_12 (by decide) ?_
    refine ww_iushr (pc := 14) g.1 (v := iushr l0 (14 : Int32)) d_Ch_opensRow_14 rfl ?_
    refine ww_sipush (pc := 15) g.1 (v := 511) d_Ch_opensRow_15 (by decide) ?_
    refine ww_iand (pc := 18) g.1 d_Ch_opensRow_18 ?_
    refine ww_if_eq (pc := 19) (tgt := 35) g.1 d_Ch_opensRow_19 (by decide) h (fun c h => ?_) (fun c h => ?_)
    · exact j_Ch_opensRow_j35 g hR s ls (lv_sub hl [] rfl) h
    · exact j_Ch_opensRow_j22 g hR l0 l1_4 s ls (lv_sub hl [1, 0] rfl) h

abbrev b_He_restart : ByteArray := prog_6_method_2_code
def y_He_restart : MethodName := ⟨R_He, "restart", "()V"⟩
abbrev w_He_restart : List Cond := .code y_He_restart b_He_restart 2 none :: wA
theorem k_He_restart : Cond.code y_He_restart b_He_restart 2 none ∈ wA := kinm (show _ ∈ tables_1 from (List.mem_append_right _ (List.mem_append_right _ (List.mem_append_right _ (List.mem_append_left _ (List.mem_of_getElem? (l := tables_1_4) (i := 77) (by decide +kernel))))))) (by decide +kernel)
theorem d_He_restart_0 : decode b_He_restart 0 = .ok (.aload_n 0, 1) := by decide +kernel
theorem d_He_restart_1 : decode b_He_restart 1 = .ok (.iconst 0, 1) := by decide +kernel
theorem d_He_restart_2 : decode b_He_restart 2 = .ok (.putfield 47, 3) := by decide +kernel
theorem d_He_restart_5 : decode b_He_restart 5 = .ok (.aload_n 0, 1) := by decide +kernel
theorem d_He_restart_6 : decode b_He_restart 6 = .ok (.iconst 0, 1) := by decide +kernel
theorem d_He_restart_7 : decode b_He_restart 7 = .ok (.putfield 50, 3) := by decide +kernel
theorem d_He_restart_10 : decode b_He_restart 10 = .ok (.aload_n 0, 1) := by decide +kernel
theorem d_He_restart_11 : decode b_He_restart 11 = .ok (.getfield 21, 3) := by decide +kernel
theorem d_He_restart_14 : decode b_He_restart 14 = .ok (.iconst 0, 1) := by decide +kernel
theorem d_He_restart_15 : decode b_He_restart 15 = .ok (.bipush 12, 2) := by decide +kernel
theorem d_He_restart_17 : decode b_He_restart 17 = .ok (.iconst 0, 1) := by decide +kernel
theorem d_He_restart_18 : decode b_He_restart 18 = .ok (.invokestatic 53, 3) := by decide +kernel
theorem d_He_restart_21 : decode b_He_restart 21 = .ok (.aload_n 0, 1) := by decide +kernel
theorem d_He_restart_22 : decode b_He_restart 22 = .ok (.getfield 33, 3) := by decide +kernel
theorem d_He_restart_25 : decode b_He_restart 25 = .ok (.iconst (-1), 1) := by decide +kernel
theorem d_He_restart_26 : decode b_He_restart 26 = .ok (.invokestatic 59, 3) := by decide +kernel
theorem d_He_restart_29 : decode b_He_restart 29 = .ok (.iconst 0, 1) := by decide +kernel
theorem d_He_restart_30 : decode b_He_restart 30 = .ok (.istore_n 1, 1) := by decide +kernel
theorem d_He_restart_31 : decode b_He_restart 31 = .ok (.iload_n 1, 1) := by decide +kernel
theorem d_He_restart_32 : decode b_He_restart 32 = .ok (.bipush 32, 2) := by decide +kernel
theorem d_He_restart_34 : decode b_He_restart 34 = .ok (.if_icmp .ge 28, 3) := by decide +kernel
theorem d_He_restart_37 : decode b_He_restart 37 = .ok (.aload_n 0, 1) := by decide +kernel
theorem d_He_restart_38 : decode b_He_restart 38 = .ok (.getfield 29, 3) := by decide +kernel
theorem d_He_restart_41 : decode b_He_restart 41 = .ok (.iload_n 1, 1) := by decide +kernel
theorem d_He_restart_42 : decode b_He_restart 42 = .ok (.aaload, 1) := by decide +kernel
theorem d_He_restart_43 : decode b_He_restart 43 = .ok (.ifnull 13, 3) := by decide +kernel
theorem d_He_restart_46 : decode b_He_restart 46 = .ok (.aload_n 0, 1) := by decide +kernel
theorem d_He_restart_47 : decode b_He_restart 47 = .ok (.getfield 29, 3) := by decide +kernel
theorem d_He_restart_50 : decode b_He_restart 50 = .ok (.iload_n 1, 1) := by decide +kernel
theorem d_He_restart_51 : decode b_He_restart 51 = .ok (.aaload, 1) := by decide +kernel
theorem d_He_restart_52 : decode b_He_restart 52 = .ok (.iconst (-1), 1) := by decide +kernel
theorem d_He_restart_53 : decode b_He_restart 53 = .ok (.putfield 62, 3) := by decide +kernel
theorem d_He_restart_56 : decode b_He_restart 56 = .ok (.iinc 1 1, 3) := by decide +kernel
theorem d_He_restart_59 : decode b_He_restart 59 = .ok (.goto (-28), 3) := by decide +kernel
theorem d_He_restart_62 : decode b_He_restart 62 = .ok (.return_, 1) := by decide +kernel
theorem kw_702 : Cond.fieldLink R_He 47 "LuaMachine$Heap" "slots" "I" ∈ wA := kinm (show _ ∈ tables_1 from (List.mem_append_left _ (List.mem_of_getElem? (l := tables_1_1) (i := 139) (by decide +kernel)))) (by decide +kernel)
theorem kw_703 : Cond.fieldLink R_He 50 "LuaMachine$Heap" "freeCount" "I" ∈ wA := kinm (show _ ∈ tables_1 from (List.mem_append_left _ (List.mem_of_getElem? (l := tables_1_1) (i := 141) (by decide +kernel)))) (by decide +kernel)
theorem kw_704 : Cond.fieldLink R_He 21 "LuaMachine$Heap" "tally" "[I" ∈ wA := kinm (show _ ∈ tables_1 from (List.mem_append_left _ (List.mem_of_getElem? (l := tables_1_1) (i := 142) (by decide +kernel)))) (by decide +kernel)
theorem kw_705 : Cond.methodLink R_He 53 y_Arr_fill_____ ∈ wA := kinm (show _ ∈ tables_1 from (List.mem_append_right _ (List.mem_append_right _ (List.mem_append_right _ (List.mem_append_left _ (List.mem_of_getElem? (l := tables_1_4) (i := 78) (by decide +kernel))))))) (by decide +kernel)
theorem kw_706 : Cond.fieldLink R_He 33 "LuaMachine$Heap" "buckets" "[I" ∈ wA := kinm (show _ ∈ tables_1 from (List.mem_append_left _ (List.mem_of_getElem? (l := tables_1_1) (i := 152) (by decide +kernel)))) (by decide +kernel)
theorem kw_707 : Cond.methodLink R_He 59 y_Arr_fill ∈ wA := kinm (show _ ∈ tables_1 from (List.mem_append_right _ (List.mem_append_right _ (List.mem_append_right _ (List.mem_append_right _ (List.mem_append_left _ (List.mem_of_getElem? (l := tables_1_5) (i := 101) (by decide +kernel)))))))) (by decide +kernel)
theorem kw_708 : Cond.fieldLink R_He 29 "LuaMachine$Heap" "coroutines" "[LLuaMachine$Coroutine;" ∈ wA := kinm (show _ ∈ tables_1 from (List.mem_append_left _ (List.mem_of_getElem? (l := tables_1_1) (i := 150) (by decide +kernel)))) (by decide +kernel)
theorem kw_709 : Cond.fieldLink R_He 62 "LuaMachine$Coroutine" "slot" "I" ∈ wA := kinm (show _ ∈ tables_1 from (List.mem_append_right _ (List.mem_append_right _ (List.mem_append_right _ (List.mem_append_right _ (List.mem_append_right _ (List.mem_append_left _ (List.mem_of_getElem? (l := tables_1_6) (i := 158) (by decide +kernel))))))))) (by decide +kernel)
theorem kw_710 : Cond.instanceMethod y_He_restart ∈ wA := kinm (show _ ∈ tables_1 from (List.mem_append_right _ (List.mem_append_right _ (List.mem_append_right _ (List.mem_append_left _ (List.mem_of_getElem? (l := tables_1_4) (i := 75) (by decide +kernel))))))) (by decide +kernel)
theorem kw_711 : Cond.selects R_He y_He_restart y_He_restart ∈ wA := kinm (show _ ∈ tables_1 from (List.mem_append_right _ (List.mem_append_right _ (List.mem_append_right _ (List.mem_append_left _ (List.mem_of_getElem? (l := tables_1_4) (i := 76) (by decide +kernel))))))) (by decide +kernel)
theorem kw_712 : Cond.initialized R_He ∈ wA := kinm (show _ ∈ tables_1 from (List.mem_append_left _ (List.mem_of_getElem? (l := tables_1_1) (i := 3) (by decide +kernel)))) (by decide +kernel)
theorem cv_He_restart : CV y_He_restart b_He_restart 2 none 0 := ⟨kw_710, kw_711, kw_712, k_He_restart, by decide +kernel⟩
theorem j_He_restart_j56 {X : Cx} {q : PL} (g : Gd X y_He_restart b_He_restart 2 none 2 46 R_He) {o : ((Int32) ⊕ ((Unit))) × S1} (hR : (Sum.elim (fun y : Int32 => ∀ ls : Array Slot, lv_has ls 2 [(0, .ref (q.1 111 0)), (1, .int y)] → WW X q o.2 31 ls []) (fun y : Unit => ∀ ls : Array Slot, lv_has ls 2 [] → WW X q o.2 62 ls []) o.1)) (l1 : Int32) (s : S1) (ls : Array Slot) (hl : lv_has ls 2 [(0, .ref (q.1 111 0)), (1, .int l1)]) (h : M_He_restart_j56 l1 s = some o) : WW X q s 56 ls [] := by
  unfold M_He_restart_j56 at h
  refine ww_iinc (pc := 56) g.1 (v := l1 + 1) (lv' := [(1, .int (l1 + 1)), (0, .ref (q.1 111 0))]) d_He_restart_56 hl (k := 1) rfl (by rfl) (by decide) rfl fun ls hl => ?_
  refine ww_goto (pc := 59) (tgt := 31) g.1 d_He_restart_59 (by decide) ?_
  rw [oR_eq h] at hR
  exact hR ls (lv_sub hl [1, 0] rfl)

theorem lp_He_restart_L31 {X : Cx} {q : PL} (g : Gd X y_He_restart b_He_restart 2 none 2 46 R_He) (x : Int32) (s : S1) (o : ((Int32) ⊕ ((Unit))) × S1) (h : M_He_restart_L31 x s = some o) (hR : (Sum.elim (fun y : Int32 => ∀ ls : Array Slot, lv_has ls 2 [(0, .ref (q.1 111 0)), (1, .int y)] → WW X q o.2 31 ls []) (fun y : Unit => ∀ ls : Array Slot, lv_has ls 2 [] → WW X q o.2 62 ls []) o.1)) : ∀ ls : Array Slot, lv_has ls 2 [(0, .ref (q.1 111 0)), (1, .int x)] → WW X q s 31 ls [] := by
  intro ls hl
  unfold M_He_restart_L31 at h
  refine ww_iload_n (pc := 31) g.1 d_He_restart_31 rfl (lv_at hl 1 rfl) ?_
  refine ww_bipush (pc := 32) g.1 (v := 32) d_He_restart_32 (by decide) ?_
  refine ww_icmp_ge (pc := 34) (tgt := 62) g.1 d_He_restart_34 (by decide) h (fun c h => ?_) (fun c h => ?_)
  · rw [oR_eq h] at hR
    exact hR ls (lv_sub hl [] rfl)
  · refine ww_aload_n (pc := 37) g.1 d_He_restart_37 rfl (lv_at hl 0 rfl) ?_
    refine ww_gR (pc := 38) g (k := 6) cl_He (pz rfl (by decide)) (by decide) (Or.inl kw_708) (f := 14214) (t := 116) rfl rfl rfl d_He_restart_38 ?_
    refine ww_iload_n (pc := 41) g.1 d_He_restart_41 rfl (lv_at hl 1 rfl) ?_
    refine ww_a8N (pc := 42) g (t := 148) (n := 32) (pz rfl (by decide)) rfl rfl rfl d_He_restart_42 h fun v42 h => ?_
    refine ww_ifnullV (pc := 43) (tgt := 56) g.1 d_He_restart_43 (by decide) h (fun c h => ?_) (fun c h => ?_)
    · exact j_He_restart_j56 g hR x s ls (lv_sub hl [0, 1] rfl) h
    · refine ww_aload_n (pc := 46) g.1 d_He_restart_46 rfl (lv_at hl 0 rfl) ?_
      refine ww_gR (pc := 47) g (k := 6) cl_He (pz rfl (by decide)) (by decide) (Or.inl kw_708) (f := 14214) (t := 116) rfl rfl rfl d_He_restart_47 ?_
      refine ww_iload_n (pc := 50) g.1 d_He_restart_50 rfl (lv_at hl 1 rfl) ?_
      refine ww_a8 (pc := 51) g (t := 148) (n := 32) (pz rfl (by decide)) rfl rfl rfl rfl d_He_restart_51 h fun pa51 h => ?_
      refine ww_iconst (pc := 52) g.1 (v := (-1)) d_He_restart_52 (by decide) ?_
      refine ww_pI (pc := 53) g (k := 6) cl_Co pa51 (by decide) (Or.inl kw_709) rfl (f := 18950) rfl rfl rfl rfl d_He_restart_53 h fun s hs h => ?_
      exact j_He_restart_j56 g hR x s ls (lv_sub hl [0, 1] rfl) h

theorem ct_He_restart {l : Launch} {P : PP} {q : PL} {s s' : S1}  {r : Unit} (h : M_He_restart s = some (r, s')) : Ct l y_He_restart b_He_restart 2 none 2 46 P q s [.ref (q.1 111 0)] none q s' := by
  refine ct_of (by decide) (Nat.le_of_ble_eq_true rfl) fun X ls eP el g hR hl => ?_
  subst eP
  have hR : Rt X q ((r, s') : Unit × S1).2 none := hR
  have hl : lv_has ls 2 [(0, .ref (q.1 111 0))] := hl
  generalize (r, s') = o at h hR
  unfold M_He_restart at h
  refine ww_aload_n (pc := 0) g.1 d_He_restart_0 rfl (lv_at hl 0 rfl) ?_
  refine ww_iconst (pc := 1) g.1 (v := 0) d_He_restart_1 (by decide) ?_
  refine ww_pI (pc := 2) g (k := 1) cl_He (pz rfl (by decide)) (by decide) (Or.inl kw_702) rfl (f := 14209) rfl rfl rfl rfl d_He_restart_2 h fun s hs h => ?_
  refine ww_aload_n (pc := 5) g.1 d_He_restart_5 rfl (lv_at hl 0 rfl) ?_
  refine ww_iconst (pc := 6) g.1 (v := 0) d_He_restart_6 (by decide) ?_
  refine ww_pI (pc := 7) g (k := 3) cl_He (pz rfl (by decide)) (by decide) (Or.inl kw_703) rfl (f := 14211) rfl rfl rfl rfl d_He_restart_7 h fun s hs h => ?_
  refine ww_aload_n (pc := 10) g.1 d_He_restart_10 rfl (lv_at hl 0 rfl) ?_
  refine ww_gR (pc := 11) g (k := 4) cl_He (pz rfl (by decide)) (by decide) (Or.inl kw_704) (f := 14212) (t := 114) rfl rfl rfl d_He_restart_11 ?_
  refine ww_iconst (pc := 14) g.1 (v := 0) d_He_restart_14 (by decide) ?_
  refine ww_bipush (pc := 15) g.1 (v := 12) d_He_restart_15 (by decide) ?_
  refine ww_iconst (pc := 17) g.1 (v := 0) d_He_restart_17 (by decide) ?_
  obtain ⟨v18, s, hc18, h⟩ := oB_of h
  refine ww_callS (pc := 18) (rest := []) g cs_Arr_fill_____ (Or.inl kw_705) (ct_Arr_fill_____ ⟨rfl, by decide, by decide⟩ (pz rfl (by decide)) hc18) ⟨by decide, by decide⟩ rfl hl.1 (Nat.le_of_ble_eq_true rfl) d_He_restart_18 rfl (?_)
  refine ww_st (st' := []) rfl ?_
  refine ww_aload_n (pc := 21) g.1 d_He_restart_21 rfl (lv_at hl 0 rfl) ?_
  refine ww_gR (pc := 22) g (k := 7) cl_He (pz rfl (by decide)) (by decide) (Or.inl kw_706) (f := 14215) (t := 117) rfl rfl rfl d_He_restart_22 ?_
  refine ww_iconst (pc := 25) g.1 (v := (-1)) d_He_restart_25 (by decide) ?_
  obtain ⟨v26, s, hc26, h⟩ := oB_of h
  refine ww_callS (pc := 26) (rest := []) g cs_Arr_fill (Or.inl kw_707) (ct_Arr_fill ⟨rfl, by decide, by decide⟩ (pz rfl (by decide)) hc26) ⟨by decide, by decide⟩ rfl hl.1 (Nat.le_of_ble_eq_true rfl) d_He_restart_26 rfl (?_)
  refine ww_st (st' := []) rfl ?_
  refine ww_iconst (pc := 29) g.1 (v := 0) d_He_restart_29 (by decide) ?_
  refine ww_istore_n (pc := 30) (i := 1) g.1 (lv' := [(1, .int 0), (0, .ref (q.1 111 0))]) d_He_restart_30 rfl hl (by decide) rfl fun ls hl => ?_
  obtain ⟨e31, s1, hw, h⟩ := oB_of h
  refine oW_rule (Wh := fun (x : Int32) (s : S1) => ∀ ls : Array Slot, lv_has ls 2 [(0, .ref (q.1 111 0)), (1, .int x)] → WW X q s 31 ls []) (We := fun (e : (Unit)) (s : S1) => ∀ ls : Array Slot, lv_has ls 2 [] → WW X q s 62 ls []) (fun x s o hb hc => lp_He_restart_L31 (q := q) g x s o hb hc) hw ?_ ls (lv_sub hl [1, 0] rfl)
  clear hw hl
  clear ls
  intro ls hl
  generalize s1 = s at h ⊢
  exact ww_vretH (pc := 62) g h hR d_He_restart_62

abbrev b_Arr_checkLength : ByteArray := prog_34_method_131_code
def y_Arr_checkLength : MethodName := ⟨R_Arr, "checkLength", "(II)V"⟩
abbrev w_Arr_checkLength : List Cond := .code y_Arr_checkLength b_Arr_checkLength 2 none :: wA
theorem k_Arr_checkLength : Cond.code y_Arr_checkLength b_Arr_checkLength 2 none ∈ wA := kinm (show _ ∈ tables_1 from (List.mem_append_right _ (List.mem_append_right _ (List.mem_append_right _ (List.mem_append_right _ (List.mem_append_left _ (List.mem_of_getElem? (l := tables_1_5) (i := 44) (by decide +kernel)))))))) (by decide +kernel)
theorem d_Arr_checkLength_0 : decode b_Arr_checkLength 0 = .ok (.iload_n 1, 1) := by decide +kernel
theorem d_Arr_checkLength_1 : decode b_Arr_checkLength 1 = .ok (.iload_n 0, 1) := by decide +kernel
theorem d_Arr_checkLength_2 : decode b_Arr_checkLength 2 = .ok (.if_icmp .ge 35, 3) := by decide +kernel
theorem d_Arr_checkLength_5 : decode b_Arr_checkLength 5 = .ok (.new 43, 3) := by decide +kernel
theorem d_Arr_checkLength_8 : decode b_Arr_checkLength 8 = .ok (.dup, 1) := by decide +kernel
theorem d_Arr_checkLength_9 : decode b_Arr_checkLength 9 = .ok (.new 45, 3) := by decide +kernel
theorem d_Arr_checkLength_12 : decode b_Arr_checkLength 12 = .ok (.dup, 1) := by decide +kernel
theorem d_Arr_checkLength_13 : decode b_Arr_checkLength 13 = .ok (.invokespecial 47, 3) := by decide +kernel
theorem d_Arr_checkLength_16 : decode b_Arr_checkLength 16 = .ok (.iload_n 0, 1) := by decide +kernel
theorem d_Arr_checkLength_17 : decode b_Arr_checkLength 17 = .ok (.invokevirtual 54, 3) := by decide +kernel
theorem d_Arr_checkLength_20 : decode b_Arr_checkLength 20 = .ok (.ldc_w 337, 3) := by decide +kernel
theorem d_Arr_checkLength_23 : decode b_Arr_checkLength 23 = .ok (.invokevirtual 50, 3) := by decide +kernel
theorem d_Arr_checkLength_26 : decode b_Arr_checkLength 26 = .ok (.iload_n 1, 1) := by decide +kernel
theorem d_Arr_checkLength_27 : decode b_Arr_checkLength 27 = .ok (.invokevirtual 54, 3) := by decide +kernel
theorem d_Arr_checkLength_30 : decode b_Arr_checkLength 30 = .ok (.invokevirtual 61, 3) := by decide +kernel
theorem d_Arr_checkLength_33 : decode b_Arr_checkLength 33 = .ok (.invokespecial 65, 3) := by decide +kernel
theorem d_Arr_checkLength_36 : decode b_Arr_checkLength 36 = .ok (.athrow, 1) := by decide +kernel
theorem d_Arr_checkLength_37 : decode b_Arr_checkLength 37 = .ok (.return_, 1) := by decide +kernel
theorem kw_713 : Cond.static y_Arr_checkLength ∈ wA := kinm (show _ ∈ tables_1 from (List.mem_append_right _ (List.mem_append_right _ (List.mem_append_right _ (List.mem_append_right _ (List.mem_append_left _ (List.mem_of_getElem? (l := tables_1_5) (i := 43) (by decide +kernel)))))))) (by decide +kernel)
theorem cs_Arr_checkLength : CS y_Arr_checkLength b_Arr_checkLength 2 none 2 := ⟨kw_713, kw_3, k_Arr_checkLength, by decide +kernel⟩
theorem ct_Arr_checkLength {l : Launch} {P : PP} {q : PL} {s s' : S1} {l0 : Int32} {l1 : Int32} {r : Unit} (h : M_Arr_checkLength l0 l1 s = some (r, s')) : Ct l y_Arr_checkLength b_Arr_checkLength 2 none 0 0 P q s [.int l0, .int l1] none q s' := by
  refine ct_ofF (by decide +kernel) (Nat.le_of_ble_eq_true rfl) fun X ls eP el g hR hl => ?_
  subst eP
  have hR : Rt X q ((r, s') : Unit × S1).2 none := hR
  have hl : lv_has ls 2 [(0, .int l0), (1, .int l1)] := hl
  generalize (r, s') = o at h hR
  unfold M_Arr_checkLength at h
  refine ww_iload_n (pc := 0) g.1 d_Arr_checkLength_0 rfl (lv_at hl 1 rfl) ?_
  refine ww_iload_n (pc := 1) g.1 d_Arr_checkLength_1 rfl (lv_at hl 0 rfl) ?_
  refine ww_icmp_ge (pc := 2) (tgt := 37) g.1 d_Arr_checkLength_2 (by decide) h (fun c h => ?_) (fun c h => ?_)
  · exact ww_vretH (pc := 37) g h hR d_Arr_checkLength_37
  · exact (oF_no h).elim

abbrev b_Ta_restart : ByteArray := prog_11_method_2_code
def y_Ta_restart : MethodName := ⟨R_Ta, "restart", "()V"⟩
abbrev w_Ta_restart : List Cond := .code y_Ta_restart b_Ta_restart 1 none :: wA
theorem k_Ta_restart : Cond.code y_Ta_restart b_Ta_restart 1 none ∈ wA := kinm (show _ ∈ tables_1 from (List.mem_append_right _ (List.mem_append_right _ (List.mem_append_right _ (List.mem_append_right _ (List.mem_append_left _ (List.mem_of_getElem? (l := tables_1_5) (i := 107) (by decide +kernel)))))))) (by decide +kernel)
theorem d_Ta_restart_0 : decode b_Ta_restart 0 = .ok (.aload_n 0, 1) := by decide +kernel
theorem d_Ta_restart_1 : decode b_Ta_restart 1 = .ok (.iconst 0, 1) := by decide +kernel
theorem d_Ta_restart_2 : decode b_Ta_restart 2 = .ok (.putfield 40, 3) := by decide +kernel
theorem d_Ta_restart_5 : decode b_Ta_restart 5 = .ok (.return_, 1) := by decide +kernel
theorem kw_714 : Cond.fieldLink R_Ta 40 "LuaMachine$Tables" "top" "I" ∈ wA := kinm (show _ ∈ tables_1 from (List.mem_append_left _ (List.mem_of_getElem? (l := tables_1_1) (i := 231) (by decide +kernel)))) (by decide +kernel)
theorem kw_715 : Cond.instanceMethod y_Ta_restart ∈ wA := kinm (show _ ∈ tables_1 from (List.mem_append_right _ (List.mem_append_right _ (List.mem_append_right _ (List.mem_append_right _ (List.mem_append_left _ (List.mem_of_getElem? (l := tables_1_5) (i := 105) (by decide +kernel)))))))) (by decide +kernel)
theorem kw_716 : Cond.selects R_Ta y_Ta_restart y_Ta_restart ∈ wA := kinm (show _ ∈ tables_1 from (List.mem_append_right _ (List.mem_append_right _ (List.mem_append_right _ (List.mem_append_right _ (List.mem_append_left _ (List.mem_of_getElem? (l := tables_1_5) (i := 106) (by decide +kernel)))))))) (by decide +kernel)
theorem kw_717 : Cond.initialized R_Ta ∈ wA := kinm (show _ ∈ tables_1 from (List.mem_append_left _ (List.mem_of_getElem? (l := tables_1_1) (i := 4) (by decide +kernel)))) (by decide +kernel)
theorem cv_Ta_restart : CV y_Ta_restart b_Ta_restart 1 none 0 := ⟨kw_715, kw_716, kw_717, k_Ta_restart, by decide +kernel⟩
theorem ct_Ta_restart {l : Launch} {P : PP} {q : PL} {s s' : S1}  {r : Unit} (h : M_Ta_restart s = some (r, s')) : Ct l y_Ta_restart b_Ta_restart 1 none 0 0 P q s [.ref (q.1 120 0)] none q s' := by
  refine ct_of (by decide) (Nat.le_of_ble_eq_true rfl) fun X ls eP el g hR hl => ?_
  subst eP
  have hR : Rt X q ((r, s') : Unit × S1).2 none := hR
  have hl : lv_has ls 1 [(0, .ref (q.1 120 0))] := hl
  generalize (r, s') = o at h hR
  unfold M_Ta_restart at h
  refine ww_aload_n (pc := 0) g.1 d_Ta_restart_0 rfl (lv_at hl 0 rfl) ?_
  refine ww_iconst (pc := 1) g.1 (v := 0) d_Ta_restart_1 (by decide) ?_
  refine ww_pI (pc := 2) g (k := 7) cl_Ta (pz rfl (by decide)) (by decide) (Or.inl kw_714) rfl (f := 15367) rfl rfl rfl rfl d_Ta_restart_2 h fun s hs h => ?_
  exact ww_vretH (pc := 5) g h hR d_Ta_restart_5

abbrev b_Ro_clear : ByteArray := prog_9_method_2_code
def y_Ro_clear : MethodName := ⟨R_Ro, "clear", "()V"⟩
abbrev w_Ro_clear : List Cond := .code y_Ro_clear b_Ro_clear 1 none :: wA
theorem k_Ro_clear : Cond.code y_Ro_clear b_Ro_clear 1 none ∈ wA := kinm (show _ ∈ tables_1 from (List.mem_append_right _ (List.mem_append_right _ (List.mem_append_right _ (List.mem_append_right _ (List.mem_append_left _ (List.mem_of_getElem? (l := tables_1_5) (i := 111) (by decide +kernel)))))))) (by decide +kernel)
theorem d_Ro_clear_0 : decode b_Ro_clear 0 = .ok (.aload_n 0, 1) := by decide +kernel
theorem d_Ro_clear_1 : decode b_Ro_clear 1 = .ok (.iconst 0, 1) := by decide +kernel
theorem d_Ro_clear_2 : decode b_Ro_clear 2 = .ok (.putfield 19, 3) := by decide +kernel
theorem d_Ro_clear_5 : decode b_Ro_clear 5 = .ok (.return_, 1) := by decide +kernel
theorem kw_718 : Cond.fieldLink R_Ro 19 "LuaMachine$Row" "size" "I" ∈ wA := kinm (show _ ∈ tables_1 from (List.mem_append_right _ (List.mem_append_left _ (List.mem_of_getElem? (l := tables_1_2) (i := 36) (by decide +kernel))))) (by decide +kernel)
theorem kw_719 : Cond.instanceMethod y_Ro_clear ∈ wA := kinm (show _ ∈ tables_1 from (List.mem_append_right _ (List.mem_append_right _ (List.mem_append_right _ (List.mem_append_right _ (List.mem_append_left _ (List.mem_of_getElem? (l := tables_1_5) (i := 109) (by decide +kernel)))))))) (by decide +kernel)
theorem kw_720 : Cond.selects R_Ro y_Ro_clear y_Ro_clear ∈ wA := kinm (show _ ∈ tables_1 from (List.mem_append_right _ (List.mem_append_right _ (List.mem_append_right _ (List.mem_append_right _ (List.mem_append_left _ (List.mem_of_getElem? (l := tables_1_5) (i := 110) (by decide +kernel)))))))) (by decide +kernel)
theorem kw_721 : Cond.initialized R_Ro ∈ wA := kinm (show _ ∈ tables_1 from (List.mem_append_left _ (List.mem_of_getElem? (l := tables_1_1) (i := 6) (by decide +kernel)))) (by decide +kernel)
theorem cv_Ro_clear : CV y_Ro_clear b_Ro_clear 1 none 0 := ⟨kw_719, kw_720, kw_721, k_Ro_clear, by decide +kernel⟩
theorem ct_Ro_clear {l : Launch} {P : PP} {q : PL} {s s' : S1} {l0r : Nat} {l0 : Int32} (hp0 : ROK l0r l0) {r : Unit} (h : M_Ro_clear l0r l0 s = some (r, s')) : Ct l y_Ro_clear b_Ro_clear 1 none 0 0 P q s [.ref (q.1 l0r l0)] none q s' := by
  refine ct_of (by decide) (Nat.le_of_ble_eq_true rfl) fun X ls eP el g hR hl => ?_
  subst eP
  have hR : Rt X q ((r, s') : Unit × S1).2 none := hR
  have hl : lv_has ls 1 [(0, .ref (q.1 l0r l0))] := hl
  generalize (r, s') = o at h hR
  unfold M_Ro_clear at h
  refine ww_aload_n (pc := 0) g.1 d_Ro_clear_0 rfl (lv_at hl 0 rfl) ?_
  refine ww_iconst (pc := 1) g.1 (v := 0) d_Ro_clear_1 (by decide) ?_
  refine ww_pI (pc := 2) g (k := 2) (cl_Ro hp0) (rok_p hp0).1 (by rw [(rok_f hp0).1.2.2]; decide) (Or.inl kw_718) rfl (f := (128 * l0r + 2)) rfl (rok_f hp0).2.2.2.1 rfl rfl d_Ro_clear_2 h fun s hs h => ?_
  exact ww_vretH (pc := 5) g h hR d_Ro_clear_5

abbrev b_He_isFull : ByteArray := prog_6_method_5_code
def y_He_isFull : MethodName := ⟨R_He, "isFull", "(I)Z"⟩
abbrev w_He_isFull : List Cond := .code y_He_isFull b_He_isFull 2 (some .boolean) :: wA
theorem k_He_isFull : Cond.code y_He_isFull b_He_isFull 2 (some .boolean) ∈ wA := kinm (show _ ∈ tables_1 from (List.mem_append_right _ (List.mem_append_right _ (List.mem_append_right _ (List.mem_append_right _ (List.mem_append_left _ (List.mem_of_getElem? (l := tables_1_5) (i := 126) (by decide +kernel)))))))) (by decide +kernel)
theorem d_He_isFull_0 : decode b_He_isFull 0 = .ok (.aload_n 0, 1) := by decide +kernel
theorem d_He_isFull_1 : decode b_He_isFull 1 = .ok (.getfield 21, 3) := by decide +kernel
theorem d_He_isFull_4 : decode b_He_isFull 4 = .ok (.iconst 3, 1) := by decide +kernel
theorem d_He_isFull_5 : decode b_He_isFull 5 = .ok (.iaload, 1) := by decide +kernel
theorem d_He_isFull_6 : decode b_He_isFull 6 = .ok (.aload_n 0, 1) := by decide +kernel
theorem d_He_isFull_7 : decode b_He_isFull 7 = .ok (.getfield 43, 3) := by decide +kernel
theorem d_He_isFull_10 : decode b_He_isFull 10 = .ok (.if_icmp .ge 21, 3) := by decide +kernel
theorem d_He_isFull_13 : decode b_He_isFull 13 = .ok (.iload_n 1, 1) := by decide +kernel
theorem d_He_isFull_14 : decode b_He_isFull 14 = .ok (.bipush 7, 2) := by decide +kernel
theorem d_He_isFull_16 : decode b_He_isFull 16 = .ok (.if_icmp .ne 19, 3) := by decide +kernel
theorem d_He_isFull_19 : decode b_He_isFull 19 = .ok (.aload_n 0, 1) := by decide +kernel
theorem d_He_isFull_20 : decode b_He_isFull 20 = .ok (.getfield 21, 3) := by decide +kernel
theorem d_He_isFull_23 : decode b_He_isFull 23 = .ok (.bipush 11, 2) := by decide +kernel
theorem d_He_isFull_25 : decode b_He_isFull 25 = .ok (.iaload, 1) := by decide +kernel
theorem d_He_isFull_26 : decode b_He_isFull 26 = .ok (.bipush 32, 2) := by decide +kernel
theorem d_He_isFull_28 : decode b_He_isFull 28 = .ok (.if_icmp .lt 7, 3) := by decide +kernel
theorem d_He_isFull_31 : decode b_He_isFull 31 = .ok (.iconst 1, 1) := by decide +kernel
theorem d_He_isFull_32 : decode b_He_isFull 32 = .ok (.goto 4, 3) := by decide +kernel
theorem d_He_isFull_35 : decode b_He_isFull 35 = .ok (.iconst 0, 1) := by decide +kernel
theorem d_He_isFull_36 : decode b_He_isFull 36 = .ok (.ireturn, 1) := by decide +kernel
theorem kw_722 : Cond.fieldLink R_He 43 "LuaMachine$Heap" "most" "I" ∈ wA := kinm (show _ ∈ tables_1 from (List.mem_append_left _ (List.mem_of_getElem? (l := tables_1_1) (i := 163) (by decide +kernel)))) (by decide +kernel)
theorem kw_723 : Cond.instanceMethod y_He_isFull ∈ wA := kinm (show _ ∈ tables_1 from (List.mem_append_right _ (List.mem_append_right _ (List.mem_append_right _ (List.mem_append_right _ (List.mem_append_left _ (List.mem_of_getElem? (l := tables_1_5) (i := 125) (by decide +kernel)))))))) (by decide +kernel)
theorem kw_724 : Cond.selects R_He y_He_isFull y_He_isFull ∈ wA := kinp 17 (by decide +kernel) (by decide +kernel)
theorem cv_He_isFull : CV y_He_isFull b_He_isFull 2 (some .boolean) 1 := ⟨kw_723, kw_724, kw_712, k_He_isFull, by decide +kernel⟩
theorem j_He_isFull_j31 {X : Cx} {q : PL} (g : Gd X y_He_isFull b_He_isFull 2 (some .boolean) 0 0 R_He) {o : (Int32) × S1} (hR : Rt X q o.2 (some (.int o.1)))  (s : S1) (ls : Array Slot) (hl : lv_has ls 2 []) (h : M_He_isFull_j31 s = some o) : WW X q s 31 ls [] := by
  unfold M_He_isFull_j31 at h
  refine ww_iconst (pc := 31) g.1 (v := 1) d_He_isFull_31 (by decide) ?_
  refine ww_goto (pc := 32) (tgt := 36) g.1 d_He_isFull_32 (by decide) ?_
  exact ww_zretH (pc := 36) g h hR (Or.inr rfl) d_He_isFull_36

theorem j_He_isFull_j35 {X : Cx} {q : PL} (g : Gd X y_He_isFull b_He_isFull 2 (some .boolean) 0 0 R_He) {o : (Int32) × S1} (hR : Rt X q o.2 (some (.int o.1)))  (s : S1) (ls : Array Slot) (hl : lv_has ls 2 []) (h : M_He_isFull_j35 s = some o) : WW X q s 35 ls [] := by
  unfold M_He_isFull_j35 at h
  refine ww_iconst (pc := 35) g.1 (v := 0) d_He_isFull_35 (by decide) ?_
  exact ww_zretH (pc := 36) g h hR (Or.inl rfl) d_He_isFull_36

theorem ct_He_isFull {l : Launch} {P : PP} {q : PL} {s s' : S1} {l1 : Int32} {r : Int32} (h : M_He_isFull l1 s = some (r, s')) : Ct l y_He_isFull b_He_isFull 2 (some .boolean) 0 0 P q s [.ref (q.1 111 0), .int l1] (some (.int r)) q s' := by
  refine ct_of (by decide) (Nat.le_of_ble_eq_true rfl) fun X ls eP el g hR hl => ?_
  subst eP
  have hR : Rt X q ((r, s') : Int32 × S1).2 (some (.int ((r, s') : Int32 × S1).1)) := hR
  have hl : lv_has ls 2 [(0, .ref (q.1 111 0)), (1, .int l1)] := hl
  generalize (r, s') = o at h hR
  unfold M_He_isFull at h
  refine ww_aload_n (pc := 0) g.1 d_He_isFull_0 rfl (lv_at hl 0 rfl) ?_
  refine ww_gR (pc := 1) g (k := 4) cl_He (pz rfl (by decide)) (by decide) (Or.inl kw_704) (f := 14212) (t := 114) rfl rfl rfl d_He_isFull_1 ?_
  refine ww_iconst (pc := 4) g.1 (v := 3) d_He_isFull_4 (by decide) ?_
  refine ww_ai (pc := 5) g (pz rfl (by decide)) rfl rfl d_He_isFull_5 h fun v5 h => ?_
  refine ww_aload_n (pc := 6) g.1 d_He_isFull_6 rfl (lv_at hl 0 rfl) ?_
  refine ww_gI (pc := 7) g (k := 12) cl_He (pz rfl (by decide)) (by decide) (Or.inl kw_722) (f := 14220) rfl rfl d_He_isFull_7 h fun v7 h => ?_
  refine ww_icmp_ge (pc := 10) (tgt := 31) g.1 d_He_isFull_10 (by decide) h (fun c h => ?_) (fun c h => ?_)
  · exact j_He_isFull_j31 g hR s ls (lv_sub hl [] rfl) h
  · refine ww_iload_n (pc := 13) g.1 d_He_isFull_13 rfl (lv_at hl 1 rfl) ?_
    refine ww_bipush (pc := 14) g.1 (v := 7) d_He_isFull_14 (by decide) ?_
    refine ww_icmp_ne (pc := 16) (tgt := 35) g.1 d_He_isFull_16 (by decide) h (fun c h => ?_) (fun c h => ?_)
    · exact j_He_isFull_j35 g hR s ls (lv_sub hl [] rfl) h
    · refine ww_aload_n (pc := 19) g.1 d_He_isFull_19 rfl (lv_at hl 0 rfl) ?_
      refine ww_gR (pc := 20) g (k := 4) cl_He (pz rfl (by decide)) (by decide) (Or.inl kw_704) (f := 14212) (t := 114) rfl rfl rfl d_He_isFull_20 ?_
      refine ww_bipush (pc := 23) g.1 (v := 11) d_He_isFull_23 (by decide) ?_
      refine ww_ai (pc := 25) g (pz rfl (by decide)) rfl rfl d_He_isFull_25 h fun v25 h => ?_
      refine ww_bipush (pc := 26) g.1 (v := 32) d_He_isFull_26 (by decide) ?_
      refine ww_icmp_lt (pc := 28) (tgt := 35) g.1 d_He_isFull_28 (by decide) h (fun c h => ?_) (fun c h => ?_)
      · exact j_He_isFull_j35 g hR s ls (lv_sub hl [] rfl) h
      · exact j_He_isFull_j31 g hR s ls (lv_sub hl [] rfl) h


