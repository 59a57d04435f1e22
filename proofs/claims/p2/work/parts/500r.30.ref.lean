abbrev b_Mo_call : ByteArray := prog_14_method_67_code
def y_Mo_call : MethodName := ⟨R_Mo, "call", "()V"⟩
abbrev w_Mo_call : List Cond := .code y_Mo_call b_Mo_call 3 none :: wA
set_option maxRecDepth 20000 in
theorem k_Mo_call : Cond.code y_Mo_call b_Mo_call 3 none ∈ wA := kinm (show _ ∈ tables_1 from (List.mem_append_right _ (List.mem_append_right _ (List.mem_append_right _ (List.mem_append_right _ (List.mem_append_right _ (List.mem_append_right _ (List.mem_append_right _ (List.mem_append_right _ (List.mem_append_right _ (List.mem_append_right _ (List.mem_append_right _ (List.mem_append_left _ (List.mem_of_getElem? (l := tables_1_12) (i := 162) rfl)))))))))))))) rfl
theorem d_Mo_call_0 : decode b_Mo_call 0 = .ok (.aload_n 0, 1) := by decide +kernel
theorem d_Mo_call_1 : decode b_Mo_call 1 = .ok (.iconst 0, 1) := by decide +kernel
theorem d_Mo_call_2 : decode b_Mo_call 2 = .ok (.putfield 247, 3) := by decide +kernel
theorem d_Mo_call_5 : decode b_Mo_call 5 = .ok (.iconst 0, 1) := by decide +kernel
theorem d_Mo_call_6 : decode b_Mo_call 6 = .ok (.istore_n 1, 1) := by decide +kernel
theorem d_Mo_call_7 : decode b_Mo_call 7 = .ok (.aload_n 0, 1) := by decide +kernel
theorem d_Mo_call_8 : decode b_Mo_call 8 = .ok (.getfield 253, 3) := by decide +kernel
theorem d_Mo_call_11 : decode b_Mo_call 11 = .ok (.bipush 6, 2) := by decide +kernel
theorem d_Mo_call_13 : decode b_Mo_call 13 = .ok (.if_icmp .eq 133, 3) := by decide +kernel
theorem d_Mo_call_16 : decode b_Mo_call 16 = .ok (.aload_n 0, 1) := by decide +kernel
theorem d_Mo_call_17 : decode b_Mo_call 17 = .ok (.aload_n 0, 1) := by decide +kernel
theorem d_Mo_call_18 : decode b_Mo_call 18 = .ok (.getfield 253, 3) := by decide +kernel
theorem d_Mo_call_21 : decode b_Mo_call 21 = .ok (.aload_n 0, 1) := by decide +kernel
theorem d_Mo_call_22 : decode b_Mo_call 22 = .ok (.getfield 256, 3) := by decide +kernel
theorem d_Mo_call_25 : decode b_Mo_call 25 = .ok (.iconst 2, 1) := by decide +kernel
theorem d_Mo_call_26 : decode b_Mo_call 26 = .ok (.invokevirtual 715, 3) := by decide +kernel
theorem d_Mo_call_29 : decode b_Mo_call 29 = .ok (.ifCond .ne 15, 3) := by decide +kernel
theorem d_Mo_call_32 : decode b_Mo_call 32 = .ok (.aload_n 0, 1) := by decide +kernel
theorem d_Mo_call_33 : decode b_Mo_call 33 = .ok (.iconst 0, 1) := by decide +kernel
theorem d_Mo_call_34 : decode b_Mo_call 34 = .ok (.putfield 253, 3) := by decide +kernel
theorem d_Mo_call_37 : decode b_Mo_call 37 = .ok (.aload_n 0, 1) := by decide +kernel
theorem d_Mo_call_38 : decode b_Mo_call 38 = .ok (.iconst 1, 1) := by decide +kernel
theorem d_Mo_call_39 : decode b_Mo_call 39 = .ok (.invokevirtual 517, 3) := by decide +kernel
theorem d_Mo_call_42 : decode b_Mo_call 42 = .ok (.pop, 1) := by decide +kernel
theorem d_Mo_call_43 : decode b_Mo_call 43 = .ok (.return_, 1) := by decide +kernel
theorem d_Mo_call_44 : decode b_Mo_call 44 = .ok (.iinc 1 1, 3) := by decide +kernel
theorem d_Mo_call_47 : decode b_Mo_call 47 = .ok (.iload_n 1, 1) := by decide +kernel
theorem d_Mo_call_48 : decode b_Mo_call 48 = .ok (.bipush 100, 2) := by decide +kernel
theorem d_Mo_call_50 : decode b_Mo_call 50 = .ok (.if_icmp .ne 15, 3) := by decide +kernel
theorem d_Mo_call_53 : decode b_Mo_call 53 = .ok (.aload_n 0, 1) := by decide +kernel
theorem d_Mo_call_54 : decode b_Mo_call 54 = .ok (.iconst 0, 1) := by decide +kernel
theorem d_Mo_call_55 : decode b_Mo_call 55 = .ok (.putfield 253, 3) := by decide +kernel
theorem d_Mo_call_58 : decode b_Mo_call 58 = .ok (.aload_n 0, 1) := by decide +kernel
theorem d_Mo_call_59 : decode b_Mo_call 59 = .ok (.iconst 4, 1) := by decide +kernel
theorem d_Mo_call_60 : decode b_Mo_call 60 = .ok (.invokevirtual 517, 3) := by decide +kernel
theorem d_Mo_call_63 : decode b_Mo_call 63 = .ok (.pop, 1) := by decide +kernel
theorem d_Mo_call_64 : decode b_Mo_call 64 = .ok (.return_, 1) := by decide +kernel
theorem d_Mo_call_65 : decode b_Mo_call 65 = .ok (.aload_n 0, 1) := by decide +kernel
theorem d_Mo_call_66 : decode b_Mo_call 66 = .ok (.getfield 259, 3) := by decide +kernel
theorem d_Mo_call_69 : decode b_Mo_call 69 = .ok (.getfield 569, 3) := by decide +kernel
theorem d_Mo_call_72 : decode b_Mo_call 72 = .ok (.istore_n 2, 1) := by decide +kernel
theorem d_Mo_call_73 : decode b_Mo_call 73 = .ok (.iload_n 2, 1) := by decide +kernel
theorem d_Mo_call_74 : decode b_Mo_call 74 = .ok (.ifCond .le 24, 3) := by decide +kernel
theorem d_Mo_call_77 : decode b_Mo_call 77 = .ok (.aload_n 0, 1) := by decide +kernel
theorem d_Mo_call_78 : decode b_Mo_call 78 = .ok (.getfield 259, 3) := by decide +kernel
theorem d_Mo_call_81 : decode b_Mo_call 81 = .ok (.iload_n 2, 1) := by decide +kernel
theorem d_Mo_call_82 : decode b_Mo_call 82 = .ok (.aload_n 0, 1) := by decide +kernel
theorem d_Mo_call_83 : decode b_Mo_call 83 = .ok (.getfield 259, 3) := by decide +kernel
theorem d_Mo_call_86 : decode b_Mo_call 86 = .ok (.iload_n 2, 1) := by decide +kernel
theorem d_Mo_call_87 : decode b_Mo_call 87 = .ok (.iconst 1, 1) := by decide +kernel
theorem d_Mo_call_88 : decode b_Mo_call 88 = .ok (.isub, 1) := by decide +kernel
theorem d_Mo_call_89 : decode b_Mo_call 89 = .ok (.invokevirtual 719, 3) := by decide +kernel
theorem d_Mo_call_92 : decode b_Mo_call 92 = .ok (.iinc 2 (-1), 3) := by decide +kernel
theorem d_Mo_call_95 : decode b_Mo_call 95 = .ok (.goto (-22), 3) := by decide +kernel
theorem d_Mo_call_98 : decode b_Mo_call 98 = .ok (.aload_n 0, 1) := by decide +kernel
theorem d_Mo_call_99 : decode b_Mo_call 99 = .ok (.getfield 259, 3) := by decide +kernel
theorem d_Mo_call_102 : decode b_Mo_call 102 = .ok (.iconst 0, 1) := by decide +kernel
theorem d_Mo_call_103 : decode b_Mo_call 103 = .ok (.aload_n 0, 1) := by decide +kernel
theorem d_Mo_call_104 : decode b_Mo_call 104 = .ok (.getfield 253, 3) := by decide +kernel
theorem d_Mo_call_107 : decode b_Mo_call 107 = .ok (.aload_n 0, 1) := by decide +kernel
theorem d_Mo_call_108 : decode b_Mo_call 108 = .ok (.getfield 256, 3) := by decide +kernel
theorem d_Mo_call_111 : decode b_Mo_call 111 = .ok (.invokevirtual 470, 3) := by decide +kernel
theorem d_Mo_call_114 : decode b_Mo_call 114 = .ok (.aload_n 0, 1) := by decide +kernel
theorem d_Mo_call_115 : decode b_Mo_call 115 = .ok (.getfield 259, 3) := by decide +kernel
theorem d_Mo_call_118 : decode b_Mo_call 118 = .ok (.dup, 1) := by decide +kernel
theorem d_Mo_call_119 : decode b_Mo_call 119 = .ok (.getfield 569, 3) := by decide +kernel
theorem d_Mo_call_122 : decode b_Mo_call 122 = .ok (.iconst 1, 1) := by decide +kernel
theorem d_Mo_call_123 : decode b_Mo_call 123 = .ok (.iadd, 1) := by decide +kernel
theorem d_Mo_call_124 : decode b_Mo_call 124 = .ok (.putfield 569, 3) := by decide +kernel
theorem d_Mo_call_127 : decode b_Mo_call 127 = .ok (.aload_n 0, 1) := by decide +kernel
theorem d_Mo_call_128 : decode b_Mo_call 128 = .ok (.aload_n 0, 1) := by decide +kernel
theorem d_Mo_call_129 : decode b_Mo_call 129 = .ok (.getfield 222, 3) := by decide +kernel
theorem d_Mo_call_132 : decode b_Mo_call 132 = .ok (.putfield 253, 3) := by decide +kernel
theorem d_Mo_call_135 : decode b_Mo_call 135 = .ok (.aload_n 0, 1) := by decide +kernel
theorem d_Mo_call_136 : decode b_Mo_call 136 = .ok (.aload_n 0, 1) := by decide +kernel
theorem d_Mo_call_137 : decode b_Mo_call 137 = .ok (.getfield 225, 3) := by decide +kernel
theorem d_Mo_call_140 : decode b_Mo_call 140 = .ok (.putfield 256, 3) := by decide +kernel
theorem d_Mo_call_143 : decode b_Mo_call 143 = .ok (.goto (-136), 3) := by decide +kernel
theorem d_Mo_call_146 : decode b_Mo_call 146 = .ok (.aload_n 0, 1) := by decide +kernel
theorem d_Mo_call_147 : decode b_Mo_call 147 = .ok (.getfield 259, 3) := by decide +kernel
theorem d_Mo_call_150 : decode b_Mo_call 150 = .ok (.getfield 569, 3) := by decide +kernel
theorem d_Mo_call_153 : decode b_Mo_call 153 = .ok (.sipush 250, 3) := by decide +kernel
theorem d_Mo_call_156 : decode b_Mo_call 156 = .ok (.if_icmp .le 24, 3) := by decide +kernel
theorem d_Mo_call_159 : decode b_Mo_call 159 = .ok (.aload_n 0, 1) := by decide +kernel
theorem d_Mo_call_160 : decode b_Mo_call 160 = .ok (.iconst 0, 1) := by decide +kernel
theorem d_Mo_call_161 : decode b_Mo_call 161 = .ok (.putfield 253, 3) := by decide +kernel
theorem d_Mo_call_164 : decode b_Mo_call 164 = .ok (.aload_n 0, 1) := by decide +kernel
theorem d_Mo_call_165 : decode b_Mo_call 165 = .ok (.getfield 259, 3) := by decide +kernel
theorem d_Mo_call_168 : decode b_Mo_call 168 = .ok (.iconst 0, 1) := by decide +kernel
theorem d_Mo_call_169 : decode b_Mo_call 169 = .ok (.putfield 569, 3) := by decide +kernel
theorem d_Mo_call_172 : decode b_Mo_call 172 = .ok (.aload_n 0, 1) := by decide +kernel
theorem d_Mo_call_173 : decode b_Mo_call 173 = .ok (.bipush 7, 2) := by decide +kernel
theorem d_Mo_call_175 : decode b_Mo_call 175 = .ok (.invokevirtual 517, 3) := by decide +kernel
theorem d_Mo_call_178 : decode b_Mo_call 178 = .ok (.pop, 1) := by decide +kernel
theorem d_Mo_call_179 : decode b_Mo_call 179 = .ok (.return_, 1) := by decide +kernel
theorem d_Mo_call_180 : decode b_Mo_call 180 = .ok (.aload_n 0, 1) := by decide +kernel
theorem d_Mo_call_181 : decode b_Mo_call 181 = .ok (.getfield 256, 3) := by decide +kernel
theorem d_Mo_call_184 : decode b_Mo_call 184 = .ok (.lconst 0, 1) := by decide +kernel
theorem d_Mo_call_185 : decode b_Mo_call 185 = .ok (.lcmp, 1) := by decide +kernel
theorem d_Mo_call_186 : decode b_Mo_call 186 = .ok (.ifCond .ge 30, 3) := by decide +kernel
theorem d_Mo_call_189 : decode b_Mo_call 189 = .ok (.aload_n 0, 1) := by decide +kernel
theorem d_Mo_call_190 : decode b_Mo_call 190 = .ok (.ldc2_w 722, 3) := by decide +kernel
theorem d_Mo_call_193 : decode b_Mo_call 193 = .ok (.aload_n 0, 1) := by decide +kernel
theorem d_Mo_call_194 : decode b_Mo_call 194 = .ok (.getfield 256, 3) := by decide +kernel
theorem d_Mo_call_197 : decode b_Mo_call 197 = .ok (.lsub, 1) := by decide +kernel
theorem d_Mo_call_198 : decode b_Mo_call 198 = .ok (.l2i, 1) := by decide +kernel
theorem d_Mo_call_199 : decode b_Mo_call 199 = .ok (.invokevirtual 724, 3) := by decide +kernel
theorem d_Mo_call_202 : decode b_Mo_call 202 = .ok (.aload_n 0, 1) := by decide +kernel
theorem d_Mo_call_203 : decode b_Mo_call 203 = .ok (.getfield 247, 3) := by decide +kernel
theorem d_Mo_call_206 : decode b_Mo_call 206 = .ok (.iconst 1, 1) := by decide +kernel
theorem d_Mo_call_207 : decode b_Mo_call 207 = .ok (.if_icmp .eq 8, 3) := by decide +kernel
theorem d_Mo_call_210 : decode b_Mo_call 210 = .ok (.aload_n 0, 1) := by decide +kernel
theorem d_Mo_call_211 : decode b_Mo_call 211 = .ok (.iconst 0, 1) := by decide +kernel
theorem d_Mo_call_212 : decode b_Mo_call 212 = .ok (.putfield 253, 3) := by decide +kernel
theorem d_Mo_call_215 : decode b_Mo_call 215 = .ok (.return_, 1) := by decide +kernel
theorem d_Mo_call_216 : decode b_Mo_call 216 = .ok (.aload_n 0, 1) := by decide +kernel
theorem d_Mo_call_217 : decode b_Mo_call 217 = .ok (.getfield 256, 3) := by decide +kernel
theorem d_Mo_call_220 : decode b_Mo_call 220 = .ok (.l2i, 1) := by decide +kernel
theorem d_Mo_call_221 : decode b_Mo_call 221 = .ok (.istore_n 1, 1) := by decide +kernel
theorem d_Mo_call_222 : decode b_Mo_call 222 = .ok (.aload_n 0, 1) := by decide +kernel
theorem d_Mo_call_223 : decode b_Mo_call 223 = .ok (.iconst 0, 1) := by decide +kernel
theorem d_Mo_call_224 : decode b_Mo_call 224 = .ok (.putfield 253, 3) := by decide +kernel
theorem d_Mo_call_227 : decode b_Mo_call 227 = .ok (.aload_n 0, 1) := by decide +kernel
theorem d_Mo_call_228 : decode b_Mo_call 228 = .ok (.getfield 168, 3) := by decide +kernel
theorem d_Mo_call_231 : decode b_Mo_call 231 = .ok (.iload_n 1, 1) := by decide +kernel
theorem d_Mo_call_232 : decode b_Mo_call 232 = .ok (.iaload, 1) := by decide +kernel
theorem d_Mo_call_233 : decode b_Mo_call 233 = .ok (.ifCond .ge 35, 3) := by decide +kernel
theorem d_Mo_call_236 : decode b_Mo_call 236 = .ok (.aload_n 0, 1) := by decide +kernel
theorem d_Mo_call_237 : decode b_Mo_call 237 = .ok (.aload_n 0, 1) := by decide +kernel
theorem d_Mo_call_238 : decode b_Mo_call 238 = .ok (.getfield 239, 3) := by decide +kernel
theorem d_Mo_call_241 : decode b_Mo_call 241 = .ok (.aload_n 0, 1) := by decide +kernel
theorem d_Mo_call_242 : decode b_Mo_call 242 = .ok (.getfield 168, 3) := by decide +kernel
theorem d_Mo_call_245 : decode b_Mo_call 245 = .ok (.aload_n 0, 1) := by decide +kernel
theorem d_Mo_call_246 : decode b_Mo_call 246 = .ok (.getfield 171, 3) := by decide +kernel
theorem d_Mo_call_249 : decode b_Mo_call 249 = .ok (.iload_n 1, 1) := by decide +kernel
theorem d_Mo_call_250 : decode b_Mo_call 250 = .ok (.iaload, 1) := by decide +kernel
theorem d_Mo_call_251 : decode b_Mo_call 251 = .ok (.iaload, 1) := by decide +kernel
theorem d_Mo_call_252 : decode b_Mo_call 252 = .ok (.aaload, 1) := by decide +kernel
theorem d_Mo_call_253 : decode b_Mo_call 253 = .ok (.aload_n 0, 1) := by decide +kernel
theorem d_Mo_call_254 : decode b_Mo_call 254 = .ok (.getfield 171, 3) := by decide +kernel
theorem d_Mo_call_257 : decode b_Mo_call 257 = .ok (.iload_n 1, 1) := by decide +kernel
theorem d_Mo_call_258 : decode b_Mo_call 258 = .ok (.iaload, 1) := by decide +kernel
theorem d_Mo_call_259 : decode b_Mo_call 259 = .ok (.iconst 3, 1) := by decide +kernel
theorem d_Mo_call_260 : decode b_Mo_call 260 = .ok (.iload_n 1, 1) := by decide +kernel
theorem d_Mo_call_261 : decode b_Mo_call 261 = .ok (.iconst 0, 1) := by decide +kernel
theorem d_Mo_call_262 : decode b_Mo_call 262 = .ok (.invokevirtual 726, 3) := by decide +kernel
theorem d_Mo_call_265 : decode b_Mo_call 265 = .ok (.goto 8, 3) := by decide +kernel
theorem d_Mo_call_268 : decode b_Mo_call 268 = .ok (.aload_n 0, 1) := by decide +kernel
theorem d_Mo_call_269 : decode b_Mo_call 269 = .ok (.iload_n 1, 1) := by decide +kernel
theorem d_Mo_call_270 : decode b_Mo_call 270 = .ok (.invokevirtual 700, 3) := by decide +kernel
theorem d_Mo_call_273 : decode b_Mo_call 273 = .ok (.return_, 1) := by decide +kernel
theorem kw_600 : Cond.methodLink R_Mo 724 y_Mo_builtIn ∈ wA := kinm (show _ ∈ tables_1 from (List.mem_append_right _ (List.mem_append_right _ (List.mem_append_right _ (List.mem_append_right _ (List.mem_append_right _ (List.mem_append_right _ (List.mem_append_right _ (List.mem_append_right _ (List.mem_append_right _ (List.mem_append_right _ (List.mem_append_right _ (List.mem_append_left _ (List.mem_of_getElem? (l := tables_1_12) (i := 172) (by decide +kernel))))))))))))))) (by decide +kernel)
theorem kw_601 : Cond.instanceMethod y_Mo_call ∈ wA := kinm (show _ ∈ tables_1 from (List.mem_append_right _ (List.mem_append_right _ (List.mem_append_right _ (List.mem_append_right _ (List.mem_append_right _ (List.mem_append_right _ (List.mem_append_right _ (List.mem_append_right _ (List.mem_append_right _ (List.mem_append_right _ (List.mem_append_right _ (List.mem_append_left _ (List.mem_of_getElem? (l := tables_1_12) (i := 161) (by decide +kernel))))))))))))))) (by decide +kernel)
theorem kw_602 : Cond.selects R_Mo y_Mo_call y_Mo_call ∈ wA := kinp 157 (by decide +kernel) (by decide +kernel)
theorem cv_Mo_call : CV y_Mo_call b_Mo_call 3 none 0 := ⟨kw_601, kw_602, kw_17, k_Mo_call, by decide +kernel⟩
theorem lp_Mo_call_L73 {X : Cx} {q : PL} (g : Gd X y_Mo_call b_Mo_call 3 none 10 242 R_Mo) (x : Int32 × Int32) (s : S1) (o : ((Int32 × Int32) ⊕ ((Int32))) × S1) (h : M_Mo_call_L73 x s = some o) (hR : (Sum.elim (fun y : Int32 × Int32 => ∀ ls : Array Slot, lv_has ls 3 [(0, .ref (q.1 0 0)), (1, .int y.1), (2, .int y.2)] → WW X q o.2 73 ls []) (fun y : Int32 => ∀ ls : Array Slot, lv_has ls 3 [(0, .ref (q.1 0 0)), (1, .int y)] → WW X q o.2 98 ls []) o.1)) : ∀ ls : Array Slot, lv_has ls 3 [(0, .ref (q.1 0 0)), (1, .int x.1), (2, .int x.2)] → WW X q s 73 ls [] := by
  intro ls hl
  unfold M_Mo_call_L73 at h
  refine ww_iload_n (pc := 73) g.1 d_Mo_call_73 rfl (lv_at hl 2 rfl) ?_
  refine ww_if_le (pc := 74) (tgt := 98) g.1 d_Mo_call_74 (by decide) h (fun c h => ?_) (fun c h => ?_)
  · rw [oR_eq h] at hR
    exact hR ls (lv_sub hl [0, 1] rfl)
  · refine ww_aload_n (pc := 77) g.1 d_Mo_call_77 rfl (lv_at hl 0 rfl) ?_
    refine ww_gR (pc := 78) g (k := 77) cl_Mo (pz rfl (by decide)) (by decide) (Or.inl kw_182) (f := 77) (t := 7) rfl rfl rfl d_Mo_call_78 ?_
    refine ww_iload_n (pc := 81) g.1 d_Mo_call_81 rfl (lv_at hl 2 rfl) ?_
    refine ww_aload_n (pc := 82) g.1 d_Mo_call_82 rfl (lv_at hl 0 rfl) ?_
    refine ww_gR (pc := 83) g (k := 77) cl_Mo (pz rfl (by decide)) (by decide) (Or.inl kw_182) (f := 77) (t := 7) rfl rfl rfl d_Mo_call_83 ?_
    refine ww_iload_n (pc := 86) g.1 d_Mo_call_86 rfl (lv_at hl 2 rfl) ?_
    refine ww_iconst (pc := 87) g.1 (v := 1) d_Mo_call_87 (by decide) ?_
    refine ww_isub (pc := 88) g.1 d_Mo_call_88 ?_
    obtain ⟨v89, s, hc89, h⟩ := oB_of h
    refine ww_callV (pc := 89) (rest := []) g cv_Va_set_ (Or.inl kw_195) (cl_Va (Or.inl ⟨by decide, rfl⟩)) (pz rfl (by decide)) (ct_Va_set_ (Or.inl ⟨by decide, rfl⟩) (Or.inl ⟨by decide, rfl⟩) hc89) ⟨by decide, by decide⟩ rfl hl.1 (Nat.le_of_ble_eq_true rfl) d_Mo_call_89 rfl ?_
    refine ww_st (st' := []) rfl ?_
    refine ww_iinc (pc := 92) g.1 (v := x.2 + (-1)) (lv' := [(2, .int (x.2 + (-1))), (0, .ref (q.1 0 0)), (1, .int x.1)]) d_Mo_call_92 hl (k := 2) rfl (by rfl) (by decide) rfl fun ls hl => ?_
    refine ww_goto (pc := 95) (tgt := 73) g.1 d_Mo_call_95 (by decide) ?_
    rw [oR_eq h] at hR
    exact hR ls (lv_sub hl [1, 2, 0] rfl)

theorem lp_Mo_call_L7 {X : Cx} {q : PL} (g : Gd X y_Mo_call b_Mo_call 3 none 10 242 R_Mo) (x : Int32) (s : S1) (o : ((Int32) ⊕ ((Unit) ⊕ (Unit) ⊕ (Unit))) × S1) (h : M_Mo_call_L7 x s = some o) (hR : (Sum.elim (fun y : Int32 => ∀ ls : Array Slot, lv_has ls 3 [(0, .ref (q.1 0 0)), (1, .int y)] → WW X q o.2 7 ls []) (Sum.elim (fun y : Unit => ∀ ls : Array Slot, lv_has ls 3 [(0, .ref (q.1 0 0))] → WW X q o.2 32 ls []) (Sum.elim (fun y : Unit => ∀ ls : Array Slot, lv_has ls 3 [(0, .ref (q.1 0 0))] → WW X q o.2 53 ls []) (fun y : Unit => ∀ ls : Array Slot, lv_has ls 3 [(0, .ref (q.1 0 0))] → WW X q o.2 146 ls []))) o.1)) : ∀ ls : Array Slot, lv_has ls 3 [(0, .ref (q.1 0 0)), (1, .int x)] → WW X q s 7 ls [] := by
  intro ls hl
  unfold M_Mo_call_L7 at h
  refine ww_aload_n (pc := 7) g.1 d_Mo_call_7 rfl (lv_at hl 0 rfl) ?_
  refine ww_gI (pc := 8) g (k := 75) cl_Mo (pz rfl (by decide)) (by decide) (Or.inl kw_192) (f := 75) rfl rfl d_Mo_call_8 h fun v8 h => ?_
  refine ww_bipush (pc := 11) g.1 (v := 6) d_Mo_call_11 (by decide) ?_
  refine ww_icmp_eq (pc := 13) (tgt := 146) g.1 d_Mo_call_13 (by decide) h (fun c h => ?_) (fun c h => ?_)
  · rw [oR_eq h] at hR
    exact hR ls (lv_sub hl [0] rfl)
  · refine ww_aload_n (pc := 16) g.1 d_Mo_call_16 rfl (lv_at hl 0 rfl) ?_
    refine ww_aload_n (pc := 17) g.1 d_Mo_call_17 rfl (lv_at hl 0 rfl) ?_
    refine ww_gI (pc := 18) g (k := 75) cl_Mo (pz rfl (by decide)) (by decide) (Or.inl kw_192) (f := 75) rfl rfl d_Mo_call_18 h fun v18 h => ?_
    refine ww_aload_n (pc := 21) g.1 d_Mo_call_21 rfl (lv_at hl 0 rfl) ?_
    refine ww_gL (pc := 22) g (k := 76) cl_Mo (pz rfl (by decide)) (by decide) (Or.inl kw_194) (f := 76) rfl rfl d_Mo_call_22 h fun v22 h => ?_
    refine ww_iconst (pc := 25) g.1 (v := 2) d_Mo_call_25 (by decide) ?_
    obtain ⟨v26, s, hc26, h⟩ := oB_of h
    refine ww_callV (pc := 26) (rest := []) g cv_Mo_meta (Or.inl kw_409) cl_Mo (pz rfl (by decide)) (ct_Mo_meta hc26) ⟨by decide, by decide⟩ rfl hl.1 (Nat.le_of_ble_eq_true rfl) d_Mo_call_26 rfl ?_
    refine ww_st (st' := [.int v26]) rfl ?_
    refine ww_if_ne (pc := 29) (tgt := 44) g.1 d_Mo_call_29 (by decide) h (fun c h => ?_) (fun c h => ?_)
    · refine ww_iinc (pc := 44) g.1 (v := x + 1) (lv' := [(1, .int (x + 1)), (0, .ref (q.1 0 0))]) d_Mo_call_44 hl (k := 1) rfl (by rfl) (by decide) rfl fun ls hl => ?_
      refine ww_iload_n (pc := 47) g.1 d_Mo_call_47 rfl (lv_at hl 0 rfl) ?_
      refine ww_bipush (pc := 48) g.1 (v := 100) d_Mo_call_48 (by decide) ?_
      refine ww_icmp_ne (pc := 50) (tgt := 65) g.1 d_Mo_call_50 (by decide) h (fun c h => ?_) (fun c h => ?_)
      · refine ww_aload_n (pc := 65) g.1 d_Mo_call_65 rfl (lv_at hl 1 rfl) ?_
        refine ww_gR (pc := 66) g (k := 77) cl_Mo (pz rfl (by decide)) (by decide) (Or.inl kw_182) (f := 77) (t := 7) rfl rfl rfl d_Mo_call_66 ?_
        refine ww_gI (pc := 69) g (k := 2) (cl_Va (Or.inl ⟨by decide, rfl⟩)) (pz rfl (by decide)) (by decide) (Or.inl kw_179) (f := 898) rfl rfl d_Mo_call_69 h fun v69 h => ?_
        refine ww_istore_n (pc := 72) (i := 2) g.1 (lv' := [(2, .int v69), (1, .int (x + 1)), (0, .ref (q.1 0 0))]) d_Mo_call_72 rfl hl (by decide) rfl fun ls hl => ?_
        obtain ⟨e73, s1, hw, h⟩ := oB_of h
        refine oW_rule (Wh := fun (x : Int32 × Int32) (s : S1) => ∀ ls : Array Slot, lv_has ls 3 [(0, .ref (q.1 0 0)), (1, .int x.1), (2, .int x.2)] → WW X q s 73 ls []) (We := fun (e : (Int32)) (s : S1) => ∀ ls : Array Slot, lv_has ls 3 [(0, .ref (q.1 0 0)), (1, .int e)] → WW X q s 98 ls []) (fun x s o hb hc => lp_Mo_call_L73 (q := q) g x s o hb hc) hw ?_ ls (lv_sub hl [2, 1, 0] rfl)
        clear hw hl
        clear ls
        intro ls hl
        generalize s1 = s at h ⊢
        refine ww_aload_n (pc := 98) g.1 d_Mo_call_98 rfl (lv_at hl 0 rfl) ?_
        refine ww_gR (pc := 99) g (k := 77) cl_Mo (pz rfl (by decide)) (by decide) (Or.inl kw_182) (f := 77) (t := 7) rfl rfl rfl d_Mo_call_99 ?_
        refine ww_iconst (pc := 102) g.1 (v := 0) d_Mo_call_102 (by decide) ?_
        refine ww_aload_n (pc := 103) g.1 d_Mo_call_103 rfl (lv_at hl 0 rfl) ?_
        refine ww_gI (pc := 104) g (k := 75) cl_Mo (pz rfl (by decide)) (by decide) (Or.inl kw_192) (f := 75) rfl rfl d_Mo_call_104 h fun v104 h => ?_
        refine ww_aload_n (pc := 107) g.1 d_Mo_call_107 rfl (lv_at hl 0 rfl) ?_
        refine ww_gL (pc := 108) g (k := 76) cl_Mo (pz rfl (by decide)) (by decide) (Or.inl kw_194) (f := 76) rfl rfl d_Mo_call_108 h fun v108 h => ?_
        obtain ⟨v111, s, hc111, h⟩ := oB_of h
        refine ww_callV (pc := 111) (rest := []) g cv_Va_set (Or.inl kw_99) (cl_Va (Or.inl ⟨by decide, rfl⟩)) (pz rfl (by decide)) (ct_Va_set (Or.inl ⟨by decide, rfl⟩) hc111) ⟨by decide, by decide⟩ rfl hl.1 (Nat.le_of_ble_eq_true rfl) d_Mo_call_111 rfl ?_
        refine ww_st (st' := []) rfl ?_
        refine ww_aload_n (pc := 114) g.1 d_Mo_call_114 rfl (lv_at hl 0 rfl) ?_
        refine ww_gR (pc := 115) g (k := 77) cl_Mo (pz rfl (by decide)) (by decide) (Or.inl kw_182) (f := 77) (t := 7) rfl rfl rfl d_Mo_call_115 ?_
        refine ww_dup (pc := 118) g.1 d_Mo_call_118 rfl ?_
        refine ww_gI (pc := 119) g (k := 2) (cl_Va (Or.inl ⟨by decide, rfl⟩)) (pz rfl (by decide)) (by decide) (Or.inl kw_179) (f := 898) rfl rfl d_Mo_call_119 h fun v119 h => ?_
        refine ww_iconst (pc := 122) g.1 (v := 1) d_Mo_call_122 (by decide) ?_
        refine ww_iadd (pc := 123) g.1 d_Mo_call_123 ?_
        refine ww_pI (pc := 124) g (k := 2) (cl_Va (Or.inl ⟨by decide, rfl⟩)) (pz rfl (by decide)) (by decide) (Or.inl kw_179) rfl (f := 898) rfl rfl rfl rfl d_Mo_call_124 h fun s hs h => ?_
        refine ww_aload_n (pc := 127) g.1 d_Mo_call_127 rfl (lv_at hl 0 rfl) ?_
        refine ww_aload_n (pc := 128) g.1 d_Mo_call_128 rfl (lv_at hl 0 rfl) ?_
        refine ww_gI (pc := 129) g (k := 66) cl_Mo (pz rfl (by decide)) (by decide) (Or.inl kw_92) (f := 66) rfl rfl d_Mo_call_129 h fun v129 h => ?_
        refine ww_pI (pc := 132) g (k := 75) cl_Mo (pz rfl (by decide)) (by decide) (Or.inl kw_192) rfl (f := 75) rfl rfl rfl rfl d_Mo_call_132 h fun s hs h => ?_
        refine ww_aload_n (pc := 135) g.1 d_Mo_call_135 rfl (lv_at hl 0 rfl) ?_
        refine ww_aload_n (pc := 136) g.1 d_Mo_call_136 rfl (lv_at hl 0 rfl) ?_
        refine ww_gL (pc := 137) g (k := 67) cl_Mo (pz rfl (by decide)) (by decide) (Or.inl kw_94) (f := 67) rfl rfl d_Mo_call_137 h fun v137 h => ?_
        refine ww_pL (pc := 140) g (k := 76) cl_Mo (pz rfl (by decide)) (by decide) (Or.inl kw_194) rfl (f := 76) rfl rfl rfl rfl d_Mo_call_140 h fun s hs h => ?_
        refine ww_goto (pc := 143) (tgt := 7) g.1 d_Mo_call_143 (by decide) ?_
        rw [oR_eq h] at hR
        exact hR ls (lv_sub hl [0, 1] rfl)
      · rw [oR_eq h] at hR
        exact hR ls (lv_sub hl [1] rfl)
    · rw [oR_eq h] at hR
      exact hR ls (lv_sub hl [0] rfl)

theorem ct_Mo_call {l : Launch} {P : PP} {q : PL} {s s' : S1}  {r : Unit} (h : M_Mo_call s = some (r, s')) : Ct l y_Mo_call b_Mo_call 3 none 10 242 P q s [.ref (q.1 0 0)] none q s' := by
  refine ct_of (by decide) (Nat.le_of_ble_eq_true rfl) fun X ls eP el g hR hl => ?_
  subst eP
  have hR : Rt X q ((r, s') : Unit × S1).2 none := hR
  have hl : lv_has ls 3 [(0, .ref (q.1 0 0))] := hl
  generalize (r, s') = o at h hR
  unfold M_Mo_call at h
  refine ww_aload_n (pc := 0) g.1 d_Mo_call_0 rfl (lv_at hl 0 rfl) ?_
  refine ww_iconst (pc := 1) g.1 (v := 0) d_Mo_call_1 (by decide) ?_
  refine ww_pI (pc := 2) g (k := 73) cl_Mo (pz rfl (by decide)) (by decide) (Or.inl kw_75) rfl (f := 73) rfl rfl rfl rfl d_Mo_call_2 h fun s hs h => ?_
  refine ww_iconst (pc := 5) g.1 (v := 0) d_Mo_call_5 (by decide) ?_
  refine ww_istore_n (pc := 6) (i := 1) g.1 (lv' := [(1, .int 0), (0, .ref (q.1 0 0))]) d_Mo_call_6 rfl hl (by decide) rfl fun ls hl => ?_
  obtain ⟨e7, s1, hw, h⟩ := oB_of h
  refine oW_rule (Wh := fun (x : Int32) (s : S1) => ∀ ls : Array Slot, lv_has ls 3 [(0, .ref (q.1 0 0)), (1, .int x)] → WW X q s 7 ls []) (We := fun (e : (Unit) ⊕ (Unit) ⊕ (Unit)) (s : S1) => (Sum.elim (fun y : Unit => ∀ ls : Array Slot, lv_has ls 3 [(0, .ref (q.1 0 0))] → WW X q s 32 ls []) (Sum.elim (fun y : Unit => ∀ ls : Array Slot, lv_has ls 3 [(0, .ref (q.1 0 0))] → WW X q s 53 ls []) (fun y : Unit => ∀ ls : Array Slot, lv_has ls 3 [(0, .ref (q.1 0 0))] → WW X q s 146 ls []))) e) (fun x s o hb hc => lp_Mo_call_L7 (q := q) g x s o hb hc) hw ?_ ls (lv_sub hl [1, 0] rfl)
  clear hw hl
  clear ls
  generalize s1 = s at h ⊢
  rcases e7 with y7_32 | y7_53 | y7_146
  · intro ls hl
    dsimp only [Sum.elim_inl, Sum.elim_inr] at h
    refine ww_aload_n (pc := 32) g.1 d_Mo_call_32 rfl (lv_at hl 0 rfl) ?_
    refine ww_iconst (pc := 33) g.1 (v := 0) d_Mo_call_33 (by decide) ?_
    refine ww_pI (pc := 34) g (k := 75) cl_Mo (pz rfl (by decide)) (by decide) (Or.inl kw_192) rfl (f := 75) rfl rfl rfl rfl d_Mo_call_34 h fun s hs h => ?_
    refine ww_aload_n (pc := 37) g.1 d_Mo_call_37 rfl (lv_at hl 0 rfl) ?_
    refine ww_iconst (pc := 38) g.1 (v := 1) d_Mo_call_38 (by decide) ?_
    obtain ⟨v39, s, hc39, h⟩ := oB_of h
    refine ww_callV (pc := 39) (rest := []) g cv_Mo_raise (Or.inl kw_157) cl_Mo (pz rfl (by decide)) (ct_Mo_raise hc39) ⟨by decide, by decide⟩ rfl hl.1 (Nat.le_of_ble_eq_true rfl) d_Mo_call_39 rfl ?_
    refine ww_st (st' := [.int v39]) rfl ?_
    refine ww_pop (pc := 42) g.1 d_Mo_call_42 rfl ?_
    exact ww_vretH (pc := 43) g h hR d_Mo_call_43
  · intro ls hl
    dsimp only [Sum.elim_inl, Sum.elim_inr] at h
    refine ww_aload_n (pc := 53) g.1 d_Mo_call_53 rfl (lv_at hl 0 rfl) ?_
    refine ww_iconst (pc := 54) g.1 (v := 0) d_Mo_call_54 (by decide) ?_
    refine ww_pI (pc := 55) g (k := 75) cl_Mo (pz rfl (by decide)) (by decide) (Or.inl kw_192) rfl (f := 75) rfl rfl rfl rfl d_Mo_call_55 h fun s hs h => ?_
    refine ww_aload_n (pc := 58) g.1 d_Mo_call_58 rfl (lv_at hl 0 rfl) ?_
    refine ww_iconst (pc := 59) g.1 (v := 4) d_Mo_call_59 (by decide) ?_
    obtain ⟨v60, s, hc60, h⟩ := oB_of h
    refine ww_callV (pc := 60) (rest := []) g cv_Mo_raise (Or.inl kw_157) cl_Mo (pz rfl (by decide)) (ct_Mo_raise hc60) ⟨by decide, by decide⟩ rfl hl.1 (Nat.le_of_ble_eq_true rfl) d_Mo_call_60 rfl ?_
    refine ww_st (st' := [.int v60]) rfl ?_
    refine ww_pop (pc := 63) g.1 d_Mo_call_63 rfl ?_
    exact ww_vretH (pc := 64) g h hR d_Mo_call_64
  · intro ls hl
    dsimp only [Sum.elim_inl, Sum.elim_inr] at h
    refine ww_aload_n (pc := 146) g.1 d_Mo_call_146 rfl (lv_at hl 0 rfl) ?_
    refine ww_gR (pc := 147) g (k := 77) cl_Mo (pz rfl (by decide)) (by decide) (Or.inl kw_182) (f := 77) (t := 7) rfl rfl rfl d_Mo_call_147 ?_
    refine ww_gI (pc := 150) g (k := 2) (cl_Va (Or.inl ⟨by decide, rfl⟩)) (pz rfl (by decide)) (by decide) (Or.inl kw_179) (f := 898) rfl rfl d_Mo_call_150 h fun v150 h => ?_
    refine ww_sipush (pc := 153) g.1 (v := 250) d_Mo_call_153 (by decide) ?_
    refine ww_icmp_le (pc := 156) (tgt := 180) g.1 d_Mo_call_156 (by decide) h (fun c h => ?_) (fun c h => ?_)
    · refine ww_aload_n (pc := 180) g.1 d_Mo_call_180 rfl (lv_at hl 0 rfl) ?_
      refine ww_gL (pc := 181) g (k := 76) cl_Mo (pz rfl (by decide)) (by decide) (Or.inl kw_194) (f := 76) rfl rfl d_Mo_call_181 h fun v181 h => ?_
      refine ww_lconst (pc := 184) g.1 (v := 0) d_Mo_call_184 (by decide) ?_
      refine ww_lcmp (pc := 185) g.1 d_Mo_call_185 ?_
      refine ww_if_ge (pc := 186) (tgt := 216) g.1 d_Mo_call_186 (by decide) h (fun c h => ?_) (fun c h => ?_)
      · refine ww_aload_n (pc := 216) g.1 d_Mo_call_216 rfl (lv_at hl 0 rfl) ?_
        refine ww_gL (pc := 217) g (k := 76) cl_Mo (pz rfl (by decide)) (by decide) (Or.inl kw_194) (f := 76) rfl rfl d_Mo_call_217 h fun v217 h => ?_
        refine ww_l2i (pc := 220) g.1 (v := v217.toInt32) d_Mo_call_220 rfl ?_
        refine ww_istore_n (pc := 221) (i := 1) g.1 (lv' := [(1, .int v217.toInt32), (0, .ref (q.1 0 0))]) d_Mo_call_221 rfl hl (by decide) rfl fun ls hl => ?_
        refine ww_aload_n (pc := 222) g.1 d_Mo_call_222 rfl (lv_at hl 1 rfl) ?_
        refine ww_iconst (pc := 223) g.1 (v := 0) d_Mo_call_223 (by decide) ?_
        refine ww_pI (pc := 224) g (k := 75) cl_Mo (pz rfl (by decide)) (by decide) (Or.inl kw_192) rfl (f := 75) rfl rfl rfl rfl d_Mo_call_224 h fun s hs h => ?_
        refine ww_aload_n (pc := 227) g.1 d_Mo_call_227 rfl (lv_at hl 1 rfl) ?_
        refine ww_gR (pc := 228) g (k := 49) cl_Mo (pz rfl (by decide)) (by decide) (Or.inl kw_87) (f := 49) (t := 62) rfl rfl rfl d_Mo_call_228 ?_
        refine ww_iload_n (pc := 231) g.1 d_Mo_call_231 rfl (lv_at hl 0 rfl) ?_
        refine ww_ai (pc := 232) g (pz rfl (by decide)) rfl rfl d_Mo_call_232 h fun v232 h => ?_
        refine ww_if_ge (pc := 233) (tgt := 268) g.1 d_Mo_call_233 (by decide) h (fun c h => ?_) (fun c h => ?_)
        · refine ww_aload_n (pc := 268) g.1 d_Mo_call_268 rfl (lv_at hl 1 rfl) ?_
          refine ww_iload_n (pc := 269) g.1 d_Mo_call_269 rfl (lv_at hl 0 rfl) ?_
          obtain ⟨v270, s, hc270, h⟩ := oB_of h
          refine ww_callV (pc := 270) (rest := []) g cv_Mo_enter (Or.inl kw_564) cl_Mo (pz rfl (by decide)) (ct_Mo_enter hc270) ⟨by decide, by decide⟩ rfl hl.1 (Nat.le_of_ble_eq_true rfl) d_Mo_call_270 rfl ?_
          refine ww_st (st' := []) rfl ?_
          exact ww_vretH (pc := 273) g h hR d_Mo_call_273
        · refine ww_aload_n (pc := 236) g.1 d_Mo_call_236 rfl (lv_at hl 1 rfl) ?_
          refine ww_aload_n (pc := 237) g.1 d_Mo_call_237 rfl (lv_at hl 1 rfl) ?_
          refine ww_gR (pc := 238) g (k := 71) cl_Mo (pz rfl (by decide)) (by decide) (Or.inl kw_88) (f := 71) (t := 76) rfl rfl rfl d_Mo_call_238 ?_
          refine ww_aload_n (pc := 241) g.1 d_Mo_call_241 rfl (lv_at hl 1 rfl) ?_
          refine ww_gR (pc := 242) g (k := 49) cl_Mo (pz rfl (by decide)) (by decide) (Or.inl kw_87) (f := 49) (t := 62) rfl rfl rfl d_Mo_call_242 ?_
          refine ww_aload_n (pc := 245) g.1 d_Mo_call_245 rfl (lv_at hl 1 rfl) ?_
          refine ww_gR (pc := 246) g (k := 50) cl_Mo (pz rfl (by decide)) (by decide) (Or.inl kw_91) (f := 50) (t := 63) rfl rfl rfl d_Mo_call_246 ?_
          refine ww_iload_n (pc := 249) g.1 d_Mo_call_249 rfl (lv_at hl 0 rfl) ?_
          refine ww_ai (pc := 250) g (pz rfl (by decide)) rfl rfl d_Mo_call_250 h fun v250 h => ?_
          refine ww_ai (pc := 251) g (pz rfl (by decide)) rfl rfl d_Mo_call_251 h fun v251 h => ?_
          refine ww_at (pc := 252) g (t := 28) (pz rfl (by decide)) rfl rfl rfl d_Mo_call_252 h fun ca252 h => ?_
          refine ww_aload_n (pc := 253) g.1 d_Mo_call_253 rfl (lv_at hl 1 rfl) ?_
          refine ww_gR (pc := 254) g (k := 50) cl_Mo (pz rfl (by decide)) (by decide) (Or.inl kw_91) (f := 50) (t := 63) rfl rfl rfl d_Mo_call_254 ?_
          refine ww_iload_n (pc := 257) g.1 d_Mo_call_257 rfl (lv_at hl 0 rfl) ?_
          refine ww_ai (pc := 258) g (pz rfl (by decide)) rfl rfl d_Mo_call_258 h fun v258 h => ?_
          refine ww_iconst (pc := 259) g.1 (v := 3) d_Mo_call_259 (by decide) ?_
          refine ww_iload_n (pc := 260) g.1 d_Mo_call_260 rfl (lv_at hl 0 rfl) ?_
          refine ww_iconst (pc := 261) g.1 (v := 0) d_Mo_call_261 (by decide) ?_
          obtain ⟨v262, s, hc262, h⟩ := oB_of h
          refine ww_callV (pc := 262) (rest := []) g cv_Mo_goesOn (Or.inl kw_369) cl_Mo (pz rfl (by decide)) (ct_Mo_goesOn ca252 hc262) ⟨by decide, by decide⟩ rfl hl.1 (Nat.le_of_ble_eq_true rfl) d_Mo_call_262 rfl ?_
          refine ww_st (st' := []) rfl ?_
          refine ww_goto (pc := 265) (tgt := 273) g.1 d_Mo_call_265 (by decide) ?_
          exact ww_vretH (pc := 273) g h hR d_Mo_call_273
      · refine ww_aload_n (pc := 189) g.1 d_Mo_call_189 rfl (lv_at hl 0 rfl) ?_
        refine ww_ldc2 (pc := 190) g (v := (-1)) kw_286 d_Mo_call_190 ?_
        refine ww_aload_n (pc := 193) g.1 d_Mo_call_193 rfl (lv_at hl 0 rfl) ?_
        refine ww_gL (pc := 194) g (k := 76) cl_Mo (pz rfl (by decide)) (by decide) (Or.inl kw_194) (f := 76) rfl rfl d_Mo_call_194 h fun v194 h => ?_
        refine ww_lsub (pc := 197) g.1 d_Mo_call_197 ?_
        refine ww_l2i (pc := 198) g.1 (v := ((-1) - v194).toInt32) d_Mo_call_198 rfl ?_
        obtain ⟨v199, s, hc199, h⟩ := oB_of h
        refine ww_callV (pc := 199) (rest := []) g cv_Mo_builtIn (Or.inl kw_600) cl_Mo (pz rfl (by decide)) (ct_Mo_builtIn hc199) ⟨by decide, by decide⟩ rfl hl.1 (Nat.le_of_ble_eq_true rfl) d_Mo_call_199 rfl ?_
        refine ww_st (st' := []) rfl ?_
        refine ww_aload_n (pc := 202) g.1 d_Mo_call_202 rfl (lv_at hl 0 rfl) ?_
        refine ww_gI (pc := 203) g (k := 73) cl_Mo (pz rfl (by decide)) (by decide) (Or.inl kw_75) (f := 73) rfl rfl d_Mo_call_203 h fun v203 h => ?_
        refine ww_iconst (pc := 206) g.1 (v := 1) d_Mo_call_206 (by decide) ?_
        refine ww_icmp_eq (pc := 207) (tgt := 215) g.1 d_Mo_call_207 (by decide) h (fun c h => ?_) (fun c h => ?_)
        · exact ww_vretH (pc := 215) g h hR d_Mo_call_215
        · refine ww_aload_n (pc := 210) g.1 d_Mo_call_210 rfl (lv_at hl 0 rfl) ?_
          refine ww_iconst (pc := 211) g.1 (v := 0) d_Mo_call_211 (by decide) ?_
          refine ww_pI (pc := 212) g (k := 75) cl_Mo (pz rfl (by decide)) (by decide) (Or.inl kw_192) rfl (f := 75) rfl rfl rfl rfl d_Mo_call_212 h fun s hs h => ?_
          exact ww_vretH (pc := 215) g h hR d_Mo_call_215
    · refine ww_aload_n (pc := 159) g.1 d_Mo_call_159 rfl (lv_at hl 0 rfl) ?_
      refine ww_iconst (pc := 160) g.1 (v := 0) d_Mo_call_160 (by decide) ?_
      refine ww_pI (pc := 161) g (k := 75) cl_Mo (pz rfl (by decide)) (by decide) (Or.inl kw_192) rfl (f := 75) rfl rfl rfl rfl d_Mo_call_161 h fun s hs h => ?_
      refine ww_aload_n (pc := 164) g.1 d_Mo_call_164 rfl (lv_at hl 0 rfl) ?_
      refine ww_gR (pc := 165) g (k := 77) cl_Mo (pz rfl (by decide)) (by decide) (Or.inl kw_182) (f := 77) (t := 7) rfl rfl rfl d_Mo_call_165 ?_
      refine ww_iconst (pc := 168) g.1 (v := 0) d_Mo_call_168 (by decide) ?_
      refine ww_pI (pc := 169) g (k := 2) (cl_Va (Or.inl ⟨by decide, rfl⟩)) (pz rfl (by decide)) (by decide) (Or.inl kw_179) rfl (f := 898) rfl rfl rfl rfl d_Mo_call_169 h fun s hs h => ?_
      refine ww_aload_n (pc := 172) g.1 d_Mo_call_172 rfl (lv_at hl 0 rfl) ?_
      refine ww_bipush (pc := 173) g.1 (v := 7) d_Mo_call_173 (by decide) ?_
      obtain ⟨v175, s, hc175, h⟩ := oB_of h
      refine ww_callV (pc := 175) (rest := []) g cv_Mo_raise (Or.inl kw_157) cl_Mo (pz rfl (by decide)) (ct_Mo_raise hc175) ⟨by decide, by decide⟩ rfl hl.1 (Nat.le_of_ble_eq_true rfl) d_Mo_call_175 rfl ?_
      refine ww_st (st' := [.int v175]) rfl ?_
      refine ww_pop (pc := 178) g.1 d_Mo_call_178 rfl ?_
      exact ww_vretH (pc := 179) g h hR d_Mo_call_179

abbrev b_Mo_run : ByteArray := prog_14_method_137_code
def y_Mo_run : MethodName := ⟨R_Mo, "run", "(I)I"⟩
abbrev w_Mo_run : List Cond := .code y_Mo_run b_Mo_run 3 (some .int) :: wA
theorem k_Mo_run : Cond.code y_Mo_run b_Mo_run 3 (some .int) ∈ wA := kinm (show _ ∈ tables_1 from (List.mem_append_right _ (List.mem_append_right _ (List.mem_append_right _ (List.mem_append_right _ (List.mem_append_right _ (List.mem_append_right _ (List.mem_append_right _ (List.mem_append_right _ (List.mem_append_right _ (List.mem_append_right _ (List.mem_append_right _ (List.mem_append_left _ (List.mem_of_getElem? (l := tables_1_12) (i := 157) (by decide +kernel))))))))))))))) (by decide +kernel)
theorem d_Mo_run_0 : decode b_Mo_run 0 = .ok (.aload_n 0, 1) := by decide +kernel
theorem d_Mo_run_1 : decode b_Mo_run 1 = .ok (.iconst 0, 1) := by decide +kernel
theorem d_Mo_run_2 : decode b_Mo_run 2 = .ok (.putfield 18, 3) := by decide +kernel
theorem d_Mo_run_5 : decode b_Mo_run 5 = .ok (.aload_n 0, 1) := by decide +kernel
theorem d_Mo_run_6 : decode b_Mo_run 6 = .ok (.iconst 1, 1) := by decide +kernel
theorem d_Mo_run_7 : decode b_Mo_run 7 = .ok (.iload_n 1, 1) := by decide +kernel
theorem d_Mo_run_8 : decode b_Mo_run 8 = .ok (.iconst 1, 1) := by decide +kernel
theorem d_Mo_run_9 : decode b_Mo_run 9 = .ok (.if_icmp .lt 10, 3) := by decide +kernel
theorem d_Mo_run_12 : decode b_Mo_run 12 = .ok (.iload_n 1, 1) := by decide +kernel
theorem d_Mo_run_13 : decode b_Mo_run 13 = .ok (.ldc_w 1019, 3) := by decide +kernel
theorem d_Mo_run_16 : decode b_Mo_run 16 = .ok (.if_icmp .le 7, 3) := by decide +kernel
theorem d_Mo_run_19 : decode b_Mo_run 19 = .ok (.iconst 1, 1) := by decide +kernel
theorem d_Mo_run_20 : decode b_Mo_run 20 = .ok (.goto 4, 3) := by decide +kernel
theorem d_Mo_run_23 : decode b_Mo_run 23 = .ok (.iconst 0, 1) := by decide +kernel
theorem d_Mo_run_24 : decode b_Mo_run 24 = .ok (.invokevirtual 445, 3) := by decide +kernel
theorem d_Mo_run_27 : decode b_Mo_run 27 = .ok (.ifCond .ne 23, 3) := by decide +kernel
theorem d_Mo_run_30 : decode b_Mo_run 30 = .ok (.aload_n 0, 1) := by decide +kernel
theorem d_Mo_run_31 : decode b_Mo_run 31 = .ok (.iconst 2, 1) := by decide +kernel
theorem d_Mo_run_32 : decode b_Mo_run 32 = .ok (.aload_n 0, 1) := by decide +kernel
theorem d_Mo_run_33 : decode b_Mo_run 33 = .ok (.getfield 27, 3) := by decide +kernel
theorem d_Mo_run_36 : decode b_Mo_run 36 = .ok (.ifCond .ne 7, 3) := by decide +kernel
theorem d_Mo_run_39 : decode b_Mo_run 39 = .ok (.iconst 1, 1) := by decide +kernel
theorem d_Mo_run_40 : decode b_Mo_run 40 = .ok (.goto 4, 3) := by decide +kernel
theorem d_Mo_run_43 : decode b_Mo_run 43 = .ok (.iconst 0, 1) := by decide +kernel
theorem d_Mo_run_44 : decode b_Mo_run 44 = .ok (.invokevirtual 445, 3) := by decide +kernel
theorem d_Mo_run_47 : decode b_Mo_run 47 = .ok (.ifCond .eq 5, 3) := by decide +kernel
theorem d_Mo_run_50 : decode b_Mo_run 50 = .ok (.iconst 0, 1) := by decide +kernel
theorem d_Mo_run_51 : decode b_Mo_run 51 = .ok (.ireturn, 1) := by decide +kernel
theorem d_Mo_run_52 : decode b_Mo_run 52 = .ok (.iload_n 1, 1) := by decide +kernel
theorem d_Mo_run_53 : decode b_Mo_run 53 = .ok (.istore_n 2, 1) := by decide +kernel
theorem d_Mo_run_54 : decode b_Mo_run 54 = .ok (.aload_n 0, 1) := by decide +kernel
theorem d_Mo_run_55 : decode b_Mo_run 55 = .ok (.getfield 268, 3) := by decide +kernel
theorem d_Mo_run_58 : decode b_Mo_run 58 = .ok (.ifCond .ne 80, 3) := by decide +kernel
theorem d_Mo_run_61 : decode b_Mo_run 61 = .ok (.aload_n 0, 1) := by decide +kernel
theorem d_Mo_run_62 : decode b_Mo_run 62 = .ok (.getfield 247, 3) := by decide +kernel
theorem d_Mo_run_65 : decode b_Mo_run 65 = .ok (.iconst 1, 1) := by decide +kernel
theorem d_Mo_run_66 : decode b_Mo_run 66 = .ok (.if_icmp .ne 10, 3) := by decide +kernel
theorem d_Mo_run_69 : decode b_Mo_run 69 = .ok (.aload_n 0, 1) := by decide +kernel
theorem d_Mo_run_70 : decode b_Mo_run 70 = .ok (.invokevirtual 1020, 3) := by decide +kernel
theorem d_Mo_run_73 : decode b_Mo_run 73 = .ok (.goto (-19), 3) := by decide +kernel
theorem d_Mo_run_76 : decode b_Mo_run 76 = .ok (.aload_n 0, 1) := by decide +kernel
theorem d_Mo_run_77 : decode b_Mo_run 77 = .ok (.getfield 247, 3) := by decide +kernel
theorem d_Mo_run_80 : decode b_Mo_run 80 = .ok (.iconst 2, 1) := by decide +kernel
theorem d_Mo_run_81 : decode b_Mo_run 81 = .ok (.if_icmp .ne 10, 3) := by decide +kernel
theorem d_Mo_run_84 : decode b_Mo_run 84 = .ok (.aload_n 0, 1) := by decide +kernel
theorem d_Mo_run_85 : decode b_Mo_run 85 = .ok (.invokevirtual 1023, 3) := by decide +kernel
theorem d_Mo_run_88 : decode b_Mo_run 88 = .ok (.goto (-34), 3) := by decide +kernel
theorem d_Mo_run_91 : decode b_Mo_run 91 = .ok (.aload_n 0, 1) := by decide +kernel
theorem d_Mo_run_92 : decode b_Mo_run 92 = .ok (.getfield 247, 3) := by decide +kernel
theorem d_Mo_run_95 : decode b_Mo_run 95 = .ok (.iconst 3, 1) := by decide +kernel
theorem d_Mo_run_96 : decode b_Mo_run 96 = .ok (.if_icmp .ne 10, 3) := by decide +kernel
theorem d_Mo_run_99 : decode b_Mo_run 99 = .ok (.aload_n 0, 1) := by decide +kernel
theorem d_Mo_run_100 : decode b_Mo_run 100 = .ok (.invokevirtual 1026, 3) := by decide +kernel
theorem d_Mo_run_103 : decode b_Mo_run 103 = .ok (.goto (-49), 3) := by decide +kernel
theorem d_Mo_run_106 : decode b_Mo_run 106 = .ok (.aload_n 0, 1) := by decide +kernel
theorem d_Mo_run_107 : decode b_Mo_run 107 = .ok (.getfield 247, 3) := by decide +kernel
theorem d_Mo_run_110 : decode b_Mo_run 110 = .ok (.iconst 4, 1) := by decide +kernel
theorem d_Mo_run_111 : decode b_Mo_run 111 = .ok (.if_icmp .ne 10, 3) := by decide +kernel
theorem d_Mo_run_114 : decode b_Mo_run 114 = .ok (.aload_n 0, 1) := by decide +kernel
theorem d_Mo_run_115 : decode b_Mo_run 115 = .ok (.invokevirtual 1028, 3) := by decide +kernel
theorem d_Mo_run_118 : decode b_Mo_run 118 = .ok (.goto (-64), 3) := by decide +kernel
theorem d_Mo_run_121 : decode b_Mo_run 121 = .ok (.iload_n 2, 1) := by decide +kernel
theorem d_Mo_run_122 : decode b_Mo_run 122 = .ok (.ifCond .ne 6, 3) := by decide +kernel
theorem d_Mo_run_125 : decode b_Mo_run 125 = .ok (.goto 13, 3) := by decide +kernel
theorem d_Mo_run_128 : decode b_Mo_run 128 = .ok (.iinc 2 (-1), 3) := by decide +kernel
theorem d_Mo_run_131 : decode b_Mo_run 131 = .ok (.aload_n 0, 1) := by decide +kernel
theorem d_Mo_run_132 : decode b_Mo_run 132 = .ok (.invokevirtual 1031, 3) := by decide +kernel
theorem d_Mo_run_135 : decode b_Mo_run 135 = .ok (.goto (-81), 3) := by decide +kernel
theorem d_Mo_run_138 : decode b_Mo_run 138 = .ok (.aload_n 0, 1) := by decide +kernel
theorem d_Mo_run_139 : decode b_Mo_run 139 = .ok (.getfield 268, 3) := by decide +kernel
theorem d_Mo_run_142 : decode b_Mo_run 142 = .ok (.ireturn, 1) := by decide +kernel
theorem kw_603 : Cond.constant R_Mo 1019 100000 ∈ wA := kinm (show _ ∈ tables_1 from (List.mem_append_right _ (List.mem_append_right _ (List.mem_append_right _ (List.mem_append_right _ (List.mem_append_right _ (List.mem_append_right _ (List.mem_append_right _ (List.mem_append_right _ (List.mem_append_right _ (List.mem_append_right _ (List.mem_append_right _ (List.mem_append_left _ (List.mem_of_getElem? (l := tables_1_12) (i := 158) (by decide +kernel))))))))))))))) (by decide +kernel)
theorem kw_604 : Cond.methodLink R_Mo 1031 y_Mo_step ∈ wA := kinm (show _ ∈ tables_1 from (List.mem_append_right _ (List.mem_append_right _ (List.mem_append_right _ (List.mem_append_right _ (List.mem_append_right _ (List.mem_append_right _ (List.mem_append_right _ (List.mem_append_right _ (List.mem_append_right _ (List.mem_append_right _ (List.mem_append_right _ (List.mem_append_right _ (List.mem_append_left _ (List.mem_of_getElem? (l := tables_1_13) (i := 127) (by decide +kernel)))))))))))))))) (by decide +kernel)
theorem kw_605 : Cond.methodLink R_Mo 1028 y_Mo_halt ∈ wA := kinm (show _ ∈ tables_1 from (List.mem_append_right _ (List.mem_append_right _ (List.mem_append_right _ (List.mem_append_right _ (List.mem_append_right _ (List.mem_append_right _ (List.mem_append_right _ (List.mem_append_right _ (List.mem_append_right _ (List.mem_append_right _ (List.mem_append_right _ (List.mem_append_right _ (List.mem_append_left _ (List.mem_of_getElem? (l := tables_1_13) (i := 123) (by decide +kernel)))))))))))))))) (by decide +kernel)
theorem kw_606 : Cond.methodLink R_Mo 1026 y_Mo_error ∈ wA := kinm (show _ ∈ tables_1 from (List.mem_append_right _ (List.mem_append_right _ (List.mem_append_right _ (List.mem_append_right _ (List.mem_append_right _ (List.mem_append_right _ (List.mem_append_right _ (List.mem_append_right _ (List.mem_append_right _ (List.mem_append_right _ (List.mem_append_right _ (List.mem_append_right _ (List.mem_append_left _ (List.mem_of_getElem? (l := tables_1_13) (i := 111) (by decide +kernel)))))))))))))))) (by decide +kernel)
theorem kw_607 : Cond.methodLink R_Mo 1023 y_Mo_deliver ∈ wA := kinm (show _ ∈ tables_1 from (List.mem_append_right _ (List.mem_append_right _ (List.mem_append_right _ (List.mem_append_right _ (List.mem_append_right _ (List.mem_append_right _ (List.mem_append_right _ (List.mem_append_right _ (List.mem_append_right _ (List.mem_append_right _ (List.mem_append_right _ (List.mem_append_right _ (List.mem_append_left _ (List.mem_of_getElem? (l := tables_1_13) (i := 81) (by decide +kernel)))))))))))))))) (by decide +kernel)
theorem kw_608 : Cond.methodLink R_Mo 1020 y_Mo_call ∈ wA := kinm (show _ ∈ tables_1 from (List.mem_append_right _ (List.mem_append_right _ (List.mem_append_right _ (List.mem_append_right _ (List.mem_append_right _ (List.mem_append_right _ (List.mem_append_right _ (List.mem_append_right _ (List.mem_append_right _ (List.mem_append_right _ (List.mem_append_right _ (List.mem_append_left _ (List.mem_of_getElem? (l := tables_1_12) (i := 159) (by decide +kernel))))))))))))))) (by decide +kernel)
theorem kw_609 : Cond.instanceMethod y_Mo_run ∈ wA := kinm (show _ ∈ tables_1 from (List.mem_append_right _ (List.mem_append_right _ (List.mem_append_right _ (List.mem_append_right _ (List.mem_append_right _ (List.mem_append_right _ (List.mem_append_right _ (List.mem_append_right _ (List.mem_append_right _ (List.mem_append_right _ (List.mem_append_right _ (List.mem_append_left _ (List.mem_of_getElem? (l := tables_1_12) (i := 155) (by decide +kernel))))))))))))))) (by decide +kernel)
theorem kw_610 : Cond.selects R_Mo y_Mo_run y_Mo_run ∈ wA := kinm (show _ ∈ tables_1 from (List.mem_append_right _ (List.mem_append_right _ (List.mem_append_right _ (List.mem_append_right _ (List.mem_append_right _ (List.mem_append_right _ (List.mem_append_right _ (List.mem_append_right _ (List.mem_append_right _ (List.mem_append_right _ (List.mem_append_right _ (List.mem_append_left _ (List.mem_of_getElem? (l := tables_1_12) (i := 156) (by decide +kernel))))))))))))))) (by decide +kernel)
theorem cv_Mo_run : CV y_Mo_run b_Mo_run 3 (some .int) 1 := ⟨kw_609, kw_610, kw_17, k_Mo_run, by decide +kernel⟩
theorem lp_Mo_run_L54 {X : Cx} {q : PL} (g : Gd X y_Mo_run b_Mo_run 3 (some .int) 11 288 R_Mo) (x : Int32) (s : S1) (o : ((Int32) ⊕ ((Unit) ⊕ (Unit))) × S1) (h : M_Mo_run_L54 x s = some o) (hR : (Sum.elim (fun y : Int32 => ∀ ls : Array Slot, lv_has ls 3 [(0, .ref (q.1 0 0)), (2, .int y)] → WW X q o.2 54 ls []) (Sum.elim (fun y : Unit => ∀ ls : Array Slot, lv_has ls 3 [(0, .ref (q.1 0 0))] → WW X q o.2 125 ls []) (fun y : Unit => ∀ ls : Array Slot, lv_has ls 3 [(0, .ref (q.1 0 0))] → WW X q o.2 138 ls [])) o.1)) : ∀ ls : Array Slot, lv_has ls 3 [(0, .ref (q.1 0 0)), (2, .int x)] → WW X q s 54 ls [] := by
  intro ls hl
  unfold M_Mo_run_L54 at h
  refine ww_aload_n (pc := 54) g.1 d_Mo_run_54 rfl (lv_at hl 0 rfl) ?_
  refine ww_gI (pc := 55) g (k := 80) cl_Mo (pz rfl (by decide)) (by decide) (Or.inl kw_232) (f := 80) rfl rfl d_Mo_run_55 h fun v55 h => ?_
  refine ww_if_ne (pc := 58) (tgt := 138) g.1 d_Mo_run_58 (by decide) h (fun c h => ?_) (fun c h => ?_)
  · rw [oR_eq h] at hR
    exact hR ls (lv_sub hl [0] rfl)
  · refine ww_aload_n (pc := 61) g.1 d_Mo_run_61 rfl (lv_at hl 0 rfl) ?_
    refine ww_gI (pc := 62) g (k := 73) cl_Mo (pz rfl (by decide)) (by decide) (Or.inl kw_75) (f := 73) rfl rfl d_Mo_run_62 h fun v62 h => ?_
    refine ww_iconst (pc := 65) g.1 (v := 1) d_Mo_run_65 (by decide) ?_
    refine ww_icmp_ne (pc := 66) (tgt := 76) g.1 d_Mo_run_66 (by decide) h (fun c h => ?_) (fun c h => ?_)
    · refine ww_aload_n (pc := 76) g.1 d_Mo_run_76 rfl (lv_at hl 0 rfl) ?_
      refine ww_gI (pc := 77) g (k := 73) cl_Mo (pz rfl (by decide)) (by decide) (Or.inl kw_75) (f := 73) rfl rfl d_Mo_run_77 h fun v77 h => ?_
      refine ww_iconst (pc := 80) g.1 (v := 2) d_Mo_run_80 (by decide) ?_
      refine ww_icmp_ne (pc := 81) (tgt := 91) g.1 d_Mo_run_81 (by decide) h (fun c h => ?_) (fun c h => ?_)
      · refine ww_aload_n (pc := 91) g.1 d_Mo_run_91 rfl (lv_at hl 0 rfl) ?_
        refine ww_gI (pc := 92) g (k := 73) cl_Mo (pz rfl (by decide)) (by decide) (Or.inl kw_75) (f := 73) rfl rfl d_Mo_run_92 h fun v92 h => ?_
        refine ww_iconst (pc := 95) g.1 (v := 3) d_Mo_run_95 (by decide) ?_
        refine ww_icmp_ne (pc := 96) (tgt := 106) g.1 d_Mo_run_96 (by decide) h (fun c h => ?_) (fun c h => ?_)
        · refine ww_aload_n (pc := 106) g.1 d_Mo_run_106 rfl (lv_at hl 0 rfl) ?_
          refine ww_gI (pc := 107) g (k := 73) cl_Mo (pz rfl (by decide)) (by decide) (Or.inl kw_75) (f := 73) rfl rfl d_Mo_run_107 h fun v107 h => ?_
          refine ww_iconst (pc := 110) g.1 (v := 4) d_Mo_run_110 (by decide) ?_
          refine ww_icmp_ne (pc := 111) (tgt := 121) g.1 d_Mo_run_111 (by decide) h (fun c h => ?_) (fun c h => ?_)
          · refine ww_iload_n (pc := 121) g.1 d_Mo_run_121 rfl (lv_at hl 1 rfl) ?_
            refine ww_if_ne (pc := 122) (tgt := 128) g.1 d_Mo_run_122 (by decide) h (fun c h => ?_) (fun c h => ?_)
            · refine ww_iinc (pc := 128) g.1 (v := x + (-1)) (lv' := [(2, .int (x + (-1))), (0, .ref (q.1 0 0))]) d_Mo_run_128 hl (k := 1) rfl (by rfl) (by decide) rfl fun ls hl => ?_
              refine ww_aload_n (pc := 131) g.1 d_Mo_run_131 rfl (lv_at hl 1 rfl) ?_
              obtain ⟨v132, s, hc132, h⟩ := oB_of h
              refine ww_callV (pc := 132) (rest := []) g cv_Mo_step (Or.inl kw_604) cl_Mo (pz rfl (by decide)) (ct_Mo_step hc132) ⟨by decide, by decide⟩ rfl hl.1 (Nat.le_of_ble_eq_true rfl) d_Mo_run_132 rfl ?_
              refine ww_st (st' := []) rfl ?_
              refine ww_goto (pc := 135) (tgt := 54) g.1 d_Mo_run_135 (by decide) ?_
              rw [oR_eq h] at hR
              exact hR ls (lv_sub hl [1, 0] rfl)
            · rw [oR_eq h] at hR
              exact hR ls (lv_sub hl [0] rfl)
          · refine ww_aload_n (pc := 114) g.1 d_Mo_run_114 rfl (lv_at hl 0 rfl) ?_
            obtain ⟨v115, s, hc115, h⟩ := oB_of h
            refine ww_callV (pc := 115) (rest := []) g cv_Mo_halt (Or.inl kw_605) cl_Mo (pz rfl (by decide)) (ct_Mo_halt hc115) ⟨by decide, by decide⟩ rfl hl.1 (Nat.le_of_ble_eq_true rfl) d_Mo_run_115 rfl ?_
            refine ww_st (st' := []) rfl ?_
            refine ww_goto (pc := 118) (tgt := 54) g.1 d_Mo_run_118 (by decide) ?_
            rw [oR_eq h] at hR
            exact hR ls (lv_sub hl [0, 1] rfl)
        · refine ww_aload_n (pc := 99) g.1 d_Mo_run_99 rfl (lv_at hl 0 rfl) ?_
          obtain ⟨v100, s, hc100, h⟩ := oB_of h
          refine ww_callV (pc := 100) (rest := []) g cv_Mo_error (Or.inl kw_606) cl_Mo (pz rfl (by decide)) (ct_Mo_error hc100) ⟨by decide, by decide⟩ rfl hl.1 (Nat.le_of_ble_eq_true rfl) d_Mo_run_100 rfl ?_
          refine ww_st (st' := []) rfl ?_
          refine ww_goto (pc := 103) (tgt := 54) g.1 d_Mo_run_103 (by decide) ?_
          rw [oR_eq h] at hR
          exact hR ls (lv_sub hl [0, 1] rfl)
      · refine ww_aload_n (pc := 84) g.1 d_Mo_run_84 rfl (lv_at hl 0 rfl) ?_
        obtain ⟨v85, s, hc85, h⟩ := oB_of h
        refine ww_callV (pc := 85) (rest := []) g cv_Mo_deliver (Or.inl kw_607) cl_Mo (pz rfl (by decide)) (ct_Mo_deliver hc85) ⟨by decide, by decide⟩ rfl hl.1 (Nat.le_of_ble_eq_true rfl) d_Mo_run_85 rfl ?_
        refine ww_st (st' := []) rfl ?_
        refine ww_goto (pc := 88) (tgt := 54) g.1 d_Mo_run_88 (by decide) ?_
        rw [oR_eq h] at hR
        exact hR ls (lv_sub hl [0, 1] rfl)
    · refine ww_aload_n (pc := 69) g.1 d_Mo_run_69 rfl (lv_at hl 0 rfl) ?_
      obtain ⟨v70, s, hc70, h⟩ := oB_of h
      refine ww_callV (pc := 70) (rest := []) g cv_Mo_call (Or.inl kw_608) cl_Mo (pz rfl (by decide)) (ct_Mo_call hc70) ⟨by decide, by decide⟩ rfl hl.1 (Nat.le_of_ble_eq_true rfl) d_Mo_run_70 rfl ?_
      refine ww_st (st' := []) rfl ?_
      refine ww_goto (pc := 73) (tgt := 54) g.1 d_Mo_run_73 (by decide) ?_
      rw [oR_eq h] at hR
      exact hR ls (lv_sub hl [0, 1] rfl)

theorem j_Mo_run_j138 {X : Cx} {q : PL} (g : Gd X y_Mo_run b_Mo_run 3 (some .int) 11 288 R_Mo) {o : (Int32) × S1} (hR : Rt X q o.2 (some (.int o.1)))  (s : S1) (ls : Array Slot) (hl : lv_has ls 3 [(0, .ref (q.1 0 0))]) (h : M_Mo_run_j138 s = some o) : WW X q s 138 ls [] := by
  unfold M_Mo_run_j138 at h
  refine ww_aload_n (pc := 138) g.1 d_Mo_run_138 rfl (lv_at hl 0 rfl) ?_
  refine ww_gI (pc := 139) g (k := 80) cl_Mo (pz rfl (by decide)) (by decide) (Or.inl kw_232) (f := 80) rfl rfl d_Mo_run_139 h fun v139 h => ?_
  exact ww_iretH (pc := 142) g h hR d_Mo_run_142

theorem j_Mo_run_j44 {X : Cx} {q : PL} (g : Gd X y_Mo_run b_Mo_run 3 (some .int) 11 288 R_Mo) {o : (Int32) × S1} (hR : Rt X q o.2 (some (.int o.1))) (l1 : Int32) (k0 : Int32) (k1 : Int32) (s : S1) (ls : Array Slot) (hl : lv_has ls 3 [(0, .ref (q.1 0 0)), (1, .int l1)]) (h : M_Mo_run_j44 l1 k0 k1 s = some o) : WW X q s 44 ls [.int k0, .int k1, .ref (q.1 0 0)] := by
  unfold M_Mo_run_j44 at h
  obtain ⟨v44, s, hc44, h⟩ := oB_of h
  refine ww_callV (pc := 44) (rest := []) g cv_Mo_refuse (Or.inl kw_20) cl_Mo (pz rfl (by decide)) (ct_Mo_refuse hc44) ⟨by decide, by decide⟩ rfl hl.1 (Nat.le_of_ble_eq_true rfl) d_Mo_run_44 rfl ?_
  refine ww_st (st' := [.int v44]) rfl ?_
  refine ww_if_eq (pc := 47) (tgt := 52) g.1 d_Mo_run_47 (by decide) h (fun c h => ?_) (fun c h => ?_)
  · refine ww_iload_n (pc := 52) g.1 d_Mo_run_52 rfl (lv_at hl 1 rfl) ?_
    refine ww_istore_n (pc := 53) (i := 2) g.1 (lv' := [(2, .int l1), (0, .ref (q.1 0 0)), (1, .int l1)]) d_Mo_run_53 rfl hl (by decide) rfl fun ls hl => ?_
    obtain ⟨e54, s1, hw, h⟩ := oB_of h
    refine oW_rule (Wh := fun (x : Int32) (s : S1) => ∀ ls : Array Slot, lv_has ls 3 [(0, .ref (q.1 0 0)), (2, .int x)] → WW X q s 54 ls []) (We := fun (e : (Unit) ⊕ (Unit)) (s : S1) => (Sum.elim (fun y : Unit => ∀ ls : Array Slot, lv_has ls 3 [(0, .ref (q.1 0 0))] → WW X q s 125 ls []) (fun y : Unit => ∀ ls : Array Slot, lv_has ls 3 [(0, .ref (q.1 0 0))] → WW X q s 138 ls [])) e) (fun x s o hb hc => lp_Mo_run_L54 (q := q) g x s o hb hc) hw ?_ ls (lv_sub hl [1, 0] rfl)
    clear hw hl
    clear ls
    generalize s1 = s at h ⊢
    rcases e54 with y54_125 | y54_138
    · intro ls hl
      dsimp only [Sum.elim_inl, Sum.elim_inr] at h
      refine ww_goto (pc := 125) (tgt := 138) g.1 d_Mo_run_125 (by decide) ?_
      exact j_Mo_run_j138 g hR s ls (lv_sub hl [0] rfl) h
    · intro ls hl
      dsimp only [Sum.elim_inl, Sum.elim_inr] at h
      exact j_Mo_run_j138 g hR s ls (lv_sub hl [0] rfl) h
  · refine ww_iconst (pc := 50) g.1 (v := 0) d_Mo_run_50 (by decide) ?_
    exact ww_iretH (pc := 51) g h hR d_Mo_run_51

theorem j_Mo_run_j24 {X : Cx} {q : PL} (g : Gd X y_Mo_run b_Mo_run 3 (some .int) 11 288 R_Mo) {o : (Int32) × S1} (hR : Rt X q o.2 (some (.int o.1))) (l1 : Int32) (k0 : Int32) (k1 : Int32) (s : S1) (ls : Array Slot) (hl : lv_has ls 3 [(0, .ref (q.1 0 0)), (1, .int l1)]) (h : M_Mo_run_j24 l1 k0 k1 s = some o) : WW X q s 24 ls [.int k0, .int k1, .ref (q.1 0 0)] := by
  unfold M_Mo_run_j24 at h
  obtain ⟨v24, s, hc24, h⟩ := oB_of h
  refine ww_callV (pc := 24) (rest := []) g cv_Mo_refuse (Or.inl kw_20) cl_Mo (pz rfl (by decide)) (ct_Mo_refuse hc24) ⟨by decide, by decide⟩ rfl hl.1 (Nat.le_of_ble_eq_true rfl) d_Mo_run_24 rfl ?_
  refine ww_st (st' := [.int v24]) rfl ?_
  refine ww_if_ne (pc := 27) (tgt := 50) g.1 d_Mo_run_27 (by decide) h (fun c h => ?_) (fun c h => ?_)
  · refine ww_iconst (pc := 50) g.1 (v := 0) d_Mo_run_50 (by decide) ?_
    exact ww_iretH (pc := 51) g h hR d_Mo_run_51
  · refine ww_aload_n (pc := 30) g.1 d_Mo_run_30 rfl (lv_at hl 0 rfl) ?_
    refine ww_iconst (pc := 31) g.1 (v := 2) d_Mo_run_31 (by decide) ?_
    refine ww_aload_n (pc := 32) g.1 d_Mo_run_32 rfl (lv_at hl 0 rfl) ?_
    refine ww_gI (pc := 33) g (k := 5) cl_Mo (pz rfl (by decide)) (by decide) (Or.inl kw_283) (f := 5) rfl rfl d_Mo_run_33 h fun v33 h => ?_
    refine ww_if_ne (pc := 36) (tgt := 43) g.1 d_Mo_run_36 (by decide) h (fun c h => ?_) (fun c h => ?_)
    · refine ww_iconst (pc := 43) g.1 (v := 0) d_Mo_run_43 (by decide) ?_
      exact j_Mo_run_j44 g hR l1 0 2 s ls (lv_sub hl [0, 1] rfl) h
    · refine ww_iconst (pc := 39) g.1 (v := 1) d_Mo_run_39 (by decide) ?_
      refine ww_goto (pc := 40) (tgt := 44) g.1 d_Mo_run_40 (by decide) ?_
      exact j_Mo_run_j44 g hR l1 1 2 s ls (lv_sub hl [0, 1] rfl) h

theorem j_Mo_run_j19 {X : Cx} {q : PL} (g : Gd X y_Mo_run b_Mo_run 3 (some .int) 11 288 R_Mo) {o : (Int32) × S1} (hR : Rt X q o.2 (some (.int o.1))) (l1 : Int32) (k0 : Int32) (s : S1) (ls : Array Slot) (hl : lv_has ls 3 [(0, .ref (q.1 0 0)), (1, .int l1)]) (h : M_Mo_run_j19 l1 k0 s = some o) : WW X q s 19 ls [.int k0, .ref (q.1 0 0)] := by
  unfold M_Mo_run_j19 at h
  refine ww_iconst (pc := 19) g.1 (v := 1) d_Mo_run_19 (by decide) ?_
  refine ww_goto (pc := 20) (tgt := 24) g.1 d_Mo_run_20 (by decide) ?_
  exact j_Mo_run_j24 g hR l1 1 k0 s ls (lv_sub hl [0, 1] rfl) h

theorem ct_Mo_run {l : Launch} {P : PP} {q : PL} {s s' : S1} {l1 : Int32} {r : Int32} (h : M_Mo_run l1 s = some (r, s')) : Ct l y_Mo_run b_Mo_run 3 (some .int) 11 288 P q s [.ref (q.1 0 0), .int l1] (some (.int r)) q s' := by
  refine ct_of (by decide) (Nat.le_of_ble_eq_true rfl) fun X ls eP el g hR hl => ?_
  subst eP
  have hR : Rt X q ((r, s') : Int32 × S1).2 (some (.int ((r, s') : Int32 × S1).1)) := hR
  have hl : lv_has ls 3 [(0, .ref (q.1 0 0)), (1, .int l1)] := hl
  generalize (r, s') = o at h hR
  unfold M_Mo_run at h
  refine ww_aload_n (pc := 0) g.1 d_Mo_run_0 rfl (lv_at hl 0 rfl) ?_
  refine ww_iconst (pc := 1) g.1 (v := 0) d_Mo_run_1 (by decide) ?_
  refine ww_pI (pc := 2) g (k := 2) cl_Mo (pz rfl (by decide)) (by decide) (Or.inl kw_14) rfl (f := 2) rfl rfl rfl rfl d_Mo_run_2 h fun s hs h => ?_
  refine ww_aload_n (pc := 5) g.1 d_Mo_run_5 rfl (lv_at hl 0 rfl) ?_
  refine ww_iconst (pc := 6) g.1 (v := 1) d_Mo_run_6 (by decide) ?_
  refine ww_iload_n (pc := 7) g.1 d_Mo_run_7 rfl (lv_at hl 1 rfl) ?_
  refine ww_iconst (pc := 8) g.1 (v := 1) d_Mo_run_8 (by decide) ?_
  refine ww_icmp_lt (pc := 9) (tgt := 19) g.1 d_Mo_run_9 (by decide) h (fun c h => ?_) (fun c h => ?_)
  · exact j_Mo_run_j19 g hR l1 1 s ls (lv_sub hl [0, 1] rfl) h
  · refine ww_iload_n (pc := 12) g.1 d_Mo_run_12 rfl (lv_at hl 1 rfl) ?_
    refine ww_ldcw (pc := 13) g (v := 100000) kw_603 d_Mo_run_13 ?_
    refine ww_icmp_le (pc := 16) (tgt := 23) g.1 d_Mo_run_16 (by decide) h (fun c h => ?_) (fun c h => ?_)
    · refine ww_iconst (pc := 23) g.1 (v := 0) d_Mo_run_23 (by decide) ?_
      exact j_Mo_run_j24 g hR l1 0 1 s ls (lv_sub hl [0, 1] rfl) h
    · exact j_Mo_run_j19 g hR l1 1 s ls (lv_sub hl [0, 1] rfl) h

abbrev b_Mo_proto : ByteArray := prog_14_method_9_code
def y_Mo_proto : MethodName := ⟨R_Mo, "proto", "(II)V"⟩
abbrev w_Mo_proto : List Cond := .code y_Mo_proto b_Mo_proto 8 none :: wA
set_option maxRecDepth 20000 in
theorem k_Mo_proto : Cond.code y_Mo_proto b_Mo_proto 8 none ∈ wA := kinm (show _ ∈ tables_1 from (List.mem_append_right _ (List.mem_append_right _ (List.mem_append_right _ (List.mem_append_right _ (List.mem_append_right _ (List.mem_append_right _ (List.mem_append_right _ (List.mem_append_right _ (List.mem_append_right _ (List.mem_append_right _ (List.mem_append_left _ (List.mem_of_getElem? (l := tables_1_11) (i := 141) rfl))))))))))))) rfl
theorem d_Mo_proto_0 : decode b_Mo_proto 0 = .ok (.aload_n 0, 1) := by decide +kernel
theorem d_Mo_proto_1 : decode b_Mo_proto 1 = .ok (.getfield 21, 3) := by decide +kernel
theorem d_Mo_proto_4 : decode b_Mo_proto 4 = .ok (.ifCond .eq 4, 3) := by decide +kernel
theorem d_Mo_proto_7 : decode b_Mo_proto 7 = .ok (.return_, 1) := by decide +kernel
theorem d_Mo_proto_8 : decode b_Mo_proto 8 = .ok (.aload_n 0, 1) := by decide +kernel
theorem d_Mo_proto_9 : decode b_Mo_proto 9 = .ok (.getfield 89, 3) := by decide +kernel
theorem d_Mo_proto_12 : decode b_Mo_proto 12 = .ok (.sipush 250, 3) := by decide +kernel
theorem d_Mo_proto_15 : decode b_Mo_proto 15 = .ok (.if_icmp .eq 9, 3) := by decide +kernel
theorem d_Mo_proto_18 : decode b_Mo_proto 18 = .ok (.iload_n 2, 1) := by decide +kernel
theorem d_Mo_proto_19 : decode b_Mo_proto 19 = .ok (.bipush 20, 2) := by decide +kernel
theorem d_Mo_proto_21 : decode b_Mo_proto 21 = .ok (.if_icmp .le 14, 3) := by decide +kernel
theorem d_Mo_proto_24 : decode b_Mo_proto 24 = .ok (.aload_n 0, 1) := by decide +kernel
theorem d_Mo_proto_25 : decode b_Mo_proto 25 = .ok (.iconst 3, 1) := by decide +kernel
theorem d_Mo_proto_26 : decode b_Mo_proto 26 = .ok (.aload_n 0, 1) := by decide +kernel
theorem d_Mo_proto_27 : decode b_Mo_proto 27 = .ok (.getfield 104, 3) := by decide +kernel
theorem d_Mo_proto_30 : decode b_Mo_proto 30 = .ok (.invokevirtual 449, 3) := by decide +kernel
theorem d_Mo_proto_33 : decode b_Mo_proto 33 = .ok (.pop, 1) := by decide +kernel
theorem d_Mo_proto_34 : decode b_Mo_proto 34 = .ok (.return_, 1) := by decide +kernel
theorem d_Mo_proto_35 : decode b_Mo_proto 35 = .ok (.aload_n 0, 1) := by decide +kernel
theorem d_Mo_proto_36 : decode b_Mo_proto 36 = .ok (.dup, 1) := by decide +kernel
theorem d_Mo_proto_37 : decode b_Mo_proto 37 = .ok (.getfield 89, 3) := by decide +kernel
theorem d_Mo_proto_40 : decode b_Mo_proto 40 = .ok (.dup_x1, 1) := by decide +kernel
theorem d_Mo_proto_41 : decode b_Mo_proto 41 = .ok (.iconst 1, 1) := by decide +kernel
theorem d_Mo_proto_42 : decode b_Mo_proto 42 = .ok (.iadd, 1) := by decide +kernel
theorem d_Mo_proto_43 : decode b_Mo_proto 43 = .ok (.putfield 89, 3) := by decide +kernel
theorem d_Mo_proto_46 : decode b_Mo_proto 46 = .ok (.istore_n 3, 1) := by decide +kernel
theorem d_Mo_proto_47 : decode b_Mo_proto 47 = .ok (.aload_n 0, 1) := by decide +kernel
theorem d_Mo_proto_48 : decode b_Mo_proto 48 = .ok (.getfield 31, 3) := by decide +kernel
theorem d_Mo_proto_51 : decode b_Mo_proto 51 = .ok (.iload_n 3, 1) := by decide +kernel
theorem d_Mo_proto_52 : decode b_Mo_proto 52 = .ok (.aload_n 0, 1) := by decide +kernel
theorem d_Mo_proto_53 : decode b_Mo_proto 53 = .ok (.iconst 1, 1) := by decide +kernel
theorem d_Mo_proto_54 : decode b_Mo_proto 54 = .ok (.invokevirtual 453, 3) := by decide +kernel
theorem d_Mo_proto_57 : decode b_Mo_proto 57 = .ok (.l2i, 1) := by decide +kernel
theorem d_Mo_proto_58 : decode b_Mo_proto 58 = .ok (.iastore, 1) := by decide +kernel
theorem d_Mo_proto_59 : decode b_Mo_proto 59 = .ok (.aload_n 0, 1) := by decide +kernel
theorem d_Mo_proto_60 : decode b_Mo_proto 60 = .ok (.getfield 35, 3) := by decide +kernel
theorem d_Mo_proto_63 : decode b_Mo_proto 63 = .ok (.iload_n 3, 1) := by decide +kernel
theorem d_Mo_proto_64 : decode b_Mo_proto 64 = .ok (.aload_n 0, 1) := by decide +kernel
theorem d_Mo_proto_65 : decode b_Mo_proto 65 = .ok (.iconst 1, 1) := by decide +kernel
theorem d_Mo_proto_66 : decode b_Mo_proto 66 = .ok (.invokevirtual 453, 3) := by decide +kernel
theorem d_Mo_proto_69 : decode b_Mo_proto 69 = .ok (.l2i, 1) := by decide +kernel
theorem d_Mo_proto_70 : decode b_Mo_proto 70 = .ok (.iastore, 1) := by decide +kernel
theorem d_Mo_proto_71 : decode b_Mo_proto 71 = .ok (.aload_n 0, 1) := by decide +kernel
theorem d_Mo_proto_72 : decode b_Mo_proto 72 = .ok (.aload_n 0, 1) := by decide +kernel
theorem d_Mo_proto_73 : decode b_Mo_proto 73 = .ok (.getfield 35, 3) := by decide +kernel
theorem d_Mo_proto_76 : decode b_Mo_proto 76 = .ok (.iload_n 3, 1) := by decide +kernel
theorem d_Mo_proto_77 : decode b_Mo_proto 77 = .ok (.iaload, 1) := by decide +kernel
theorem d_Mo_proto_78 : decode b_Mo_proto 78 = .ok (.iconst 2, 1) := by decide +kernel
theorem d_Mo_proto_79 : decode b_Mo_proto 79 = .ok (.if_icmp .ge 21, 3) := by decide +kernel
theorem d_Mo_proto_82 : decode b_Mo_proto 82 = .ok (.iload_n 1, 1) := by decide +kernel
theorem d_Mo_proto_83 : decode b_Mo_proto 83 = .ok (.ifCond .ge 13, 3) := by decide +kernel
theorem d_Mo_proto_86 : decode b_Mo_proto 86 = .ok (.aload_n 0, 1) := by decide +kernel
theorem d_Mo_proto_87 : decode b_Mo_proto 87 = .ok (.getfield 35, 3) := by decide +kernel
theorem d_Mo_proto_90 : decode b_Mo_proto 90 = .ok (.iload_n 3, 1) := by decide +kernel
theorem d_Mo_proto_91 : decode b_Mo_proto 91 = .ok (.iaload, 1) := by decide +kernel
theorem d_Mo_proto_92 : decode b_Mo_proto 92 = .ok (.iconst 1, 1) := by decide +kernel
theorem d_Mo_proto_93 : decode b_Mo_proto 93 = .ok (.if_icmp .ne 7, 3) := by decide +kernel
theorem d_Mo_proto_96 : decode b_Mo_proto 96 = .ok (.iconst 1, 1) := by decide +kernel
theorem d_Mo_proto_97 : decode b_Mo_proto 97 = .ok (.goto 4, 3) := by decide +kernel
theorem d_Mo_proto_100 : decode b_Mo_proto 100 = .ok (.iconst 0, 1) := by decide +kernel
theorem d_Mo_proto_101 : decode b_Mo_proto 101 = .ok (.invokevirtual 456, 3) := by decide +kernel
theorem d_Mo_proto_104 : decode b_Mo_proto 104 = .ok (.aload_n 0, 1) := by decide +kernel
theorem d_Mo_proto_105 : decode b_Mo_proto 105 = .ok (.getfield 38, 3) := by decide +kernel
theorem d_Mo_proto_108 : decode b_Mo_proto 108 = .ok (.iload_n 3, 1) := by decide +kernel
theorem d_Mo_proto_109 : decode b_Mo_proto 109 = .ok (.aload_n 0, 1) := by decide +kernel
theorem d_Mo_proto_110 : decode b_Mo_proto 110 = .ok (.iconst 1, 1) := by decide +kernel
theorem d_Mo_proto_111 : decode b_Mo_proto 111 = .ok (.invokevirtual 453, 3) := by decide +kernel
theorem d_Mo_proto_114 : decode b_Mo_proto 114 = .ok (.l2i, 1) := by decide +kernel
theorem d_Mo_proto_115 : decode b_Mo_proto 115 = .ok (.iastore, 1) := by decide +kernel
theorem d_Mo_proto_116 : decode b_Mo_proto 116 = .ok (.aload_n 0, 1) := by decide +kernel
theorem d_Mo_proto_117 : decode b_Mo_proto 117 = .ok (.aload_n 0, 1) := by decide +kernel
theorem d_Mo_proto_118 : decode b_Mo_proto 118 = .ok (.getfield 38, 3) := by decide +kernel
theorem d_Mo_proto_121 : decode b_Mo_proto 121 = .ok (.iload_n 3, 1) := by decide +kernel
theorem d_Mo_proto_122 : decode b_Mo_proto 122 = .ok (.iaload, 1) := by decide +kernel
theorem d_Mo_proto_123 : decode b_Mo_proto 123 = .ok (.iconst 1, 1) := by decide +kernel
theorem d_Mo_proto_124 : decode b_Mo_proto 124 = .ok (.if_icmp .le 34, 3) := by decide +kernel
theorem d_Mo_proto_127 : decode b_Mo_proto 127 = .ok (.aload_n 0, 1) := by decide +kernel
theorem d_Mo_proto_128 : decode b_Mo_proto 128 = .ok (.getfield 38, 3) := by decide +kernel
theorem d_Mo_proto_131 : decode b_Mo_proto 131 = .ok (.iload_n 3, 1) := by decide +kernel
theorem d_Mo_proto_132 : decode b_Mo_proto 132 = .ok (.iaload, 1) := by decide +kernel
theorem d_Mo_proto_133 : decode b_Mo_proto 133 = .ok (.sipush 251, 3) := by decide +kernel
theorem d_Mo_proto_136 : decode b_Mo_proto 136 = .ok (.if_icmp .ge 22, 3) := by decide +kernel
theorem d_Mo_proto_139 : decode b_Mo_proto 139 = .ok (.aload_n 0, 1) := by decide +kernel
theorem d_Mo_proto_140 : decode b_Mo_proto 140 = .ok (.getfield 38, 3) := by decide +kernel
theorem d_Mo_proto_143 : decode b_Mo_proto 143 = .ok (.iload_n 3, 1) := by decide +kernel
theorem d_Mo_proto_144 : decode b_Mo_proto 144 = .ok (.iaload, 1) := by decide +kernel
theorem d_Mo_proto_145 : decode b_Mo_proto 145 = .ok (.aload_n 0, 1) := by decide +kernel
theorem d_Mo_proto_146 : decode b_Mo_proto 146 = .ok (.getfield 31, 3) := by decide +kernel
theorem d_Mo_proto_149 : decode b_Mo_proto 149 = .ok (.iload_n 3, 1) := by decide +kernel
theorem d_Mo_proto_150 : decode b_Mo_proto 150 = .ok (.iaload, 1) := by decide +kernel
theorem d_Mo_proto_151 : decode b_Mo_proto 151 = .ok (.if_icmp .lt 7, 3) := by decide +kernel
theorem d_Mo_proto_154 : decode b_Mo_proto 154 = .ok (.iconst 1, 1) := by decide +kernel
theorem d_Mo_proto_155 : decode b_Mo_proto 155 = .ok (.goto 4, 3) := by decide +kernel
theorem d_Mo_proto_158 : decode b_Mo_proto 158 = .ok (.iconst 0, 1) := by decide +kernel
theorem d_Mo_proto_159 : decode b_Mo_proto 159 = .ok (.invokevirtual 456, 3) := by decide +kernel
theorem d_Mo_proto_162 : decode b_Mo_proto 162 = .ok (.aload_n 0, 1) := by decide +kernel
theorem d_Mo_proto_163 : decode b_Mo_proto 163 = .ok (.getfield 41, 3) := by decide +kernel
theorem d_Mo_proto_166 : decode b_Mo_proto 166 = .ok (.iload_n 3, 1) := by decide +kernel
theorem d_Mo_proto_167 : decode b_Mo_proto 167 = .ok (.aload_n 0, 1) := by decide +kernel
theorem d_Mo_proto_168 : decode b_Mo_proto 168 = .ok (.iconst 1, 1) := by decide +kernel
theorem d_Mo_proto_169 : decode b_Mo_proto 169 = .ok (.invokevirtual 453, 3) := by decide +kernel
theorem d_Mo_proto_172 : decode b_Mo_proto 172 = .ok (.l2i, 1) := by decide +kernel
theorem d_Mo_proto_173 : decode b_Mo_proto 173 = .ok (.iastore, 1) := by decide +kernel
theorem d_Mo_proto_174 : decode b_Mo_proto 174 = .ok (.aload_n 0, 1) := by decide +kernel
theorem d_Mo_proto_175 : decode b_Mo_proto 175 = .ok (.iload_n 1, 1) := by decide +kernel
theorem d_Mo_proto_176 : decode b_Mo_proto 176 = .ok (.ifCond .lt 22, 3) := by decide +kernel
theorem d_Mo_proto_179 : decode b_Mo_proto 179 = .ok (.aload_n 0, 1) := by decide +kernel
theorem d_Mo_proto_180 : decode b_Mo_proto 180 = .ok (.getfield 41, 3) := by decide +kernel
theorem d_Mo_proto_183 : decode b_Mo_proto 183 = .ok (.iload_n 3, 1) := by decide +kernel
theorem d_Mo_proto_184 : decode b_Mo_proto 184 = .ok (.iaload, 1) := by decide +kernel
theorem d_Mo_proto_185 : decode b_Mo_proto 185 = .ok (.bipush 60, 2) := by decide +kernel
theorem d_Mo_proto_187 : decode b_Mo_proto 187 = .ok (.if_icmp .gt 7, 3) := by decide +kernel
theorem d_Mo_proto_190 : decode b_Mo_proto 190 = .ok (.iconst 1, 1) := by decide +kernel
theorem d_Mo_proto_191 : decode b_Mo_proto 191 = .ok (.goto 22, 3) := by decide +kernel
theorem d_Mo_proto_194 : decode b_Mo_proto 194 = .ok (.iconst 0, 1) := by decide +kernel
theorem d_Mo_proto_195 : decode b_Mo_proto 195 = .ok (.goto 18, 3) := by decide +kernel
theorem d_Mo_proto_198 : decode b_Mo_proto 198 = .ok (.aload_n 0, 1) := by decide +kernel
theorem d_Mo_proto_199 : decode b_Mo_proto 199 = .ok (.getfield 41, 3) := by decide +kernel
theorem d_Mo_proto_202 : decode b_Mo_proto 202 = .ok (.iload_n 3, 1) := by decide +kernel
theorem d_Mo_proto_203 : decode b_Mo_proto 203 = .ok (.iaload, 1) := by decide +kernel
theorem d_Mo_proto_204 : decode b_Mo_proto 204 = .ok (.iconst 1, 1) := by decide +kernel
theorem d_Mo_proto_205 : decode b_Mo_proto 205 = .ok (.if_icmp .ne 7, 3) := by decide +kernel
theorem d_Mo_proto_208 : decode b_Mo_proto 208 = .ok (.iconst 1, 1) := by decide +kernel
theorem d_Mo_proto_209 : decode b_Mo_proto 209 = .ok (.goto 4, 3) := by decide +kernel
theorem d_Mo_proto_212 : decode b_Mo_proto 212 = .ok (.iconst 0, 1) := by decide +kernel
theorem d_Mo_proto_213 : decode b_Mo_proto 213 = .ok (.invokevirtual 456, 3) := by decide +kernel
theorem d_Mo_proto_216 : decode b_Mo_proto 216 = .ok (.aload_n 0, 1) := by decide +kernel
theorem d_Mo_proto_217 : decode b_Mo_proto 217 = .ok (.getfield 21, 3) := by decide +kernel
theorem d_Mo_proto_220 : decode b_Mo_proto 220 = .ok (.ifCond .eq 4, 3) := by decide +kernel
theorem d_Mo_proto_223 : decode b_Mo_proto 223 = .ok (.return_, 1) := by decide +kernel
theorem d_Mo_proto_224 : decode b_Mo_proto 224 = .ok (.aload_n 0, 1) := by decide +kernel
theorem d_Mo_proto_225 : decode b_Mo_proto 225 = .ok (.getfield 44, 3) := by decide +kernel
theorem d_Mo_proto_228 : decode b_Mo_proto 228 = .ok (.iload_n 3, 1) := by decide +kernel
theorem d_Mo_proto_229 : decode b_Mo_proto 229 = .ok (.aload_n 0, 1) := by decide +kernel
theorem d_Mo_proto_230 : decode b_Mo_proto 230 = .ok (.getfield 92, 3) := by decide +kernel
theorem d_Mo_proto_233 : decode b_Mo_proto 233 = .ok (.iastore, 1) := by decide +kernel
theorem d_Mo_proto_234 : decode b_Mo_proto 234 = .ok (.iconst 0, 1) := by decide +kernel
theorem d_Mo_proto_235 : decode b_Mo_proto 235 = .ok (.istore 4, 2) := by decide +kernel
theorem d_Mo_proto_237 : decode b_Mo_proto 237 = .ok (.iload 4, 2) := by decide +kernel
theorem d_Mo_proto_239 : decode b_Mo_proto 239 = .ok (.aload_n 0, 1) := by decide +kernel
theorem d_Mo_proto_240 : decode b_Mo_proto 240 = .ok (.getfield 41, 3) := by decide +kernel
theorem d_Mo_proto_243 : decode b_Mo_proto 243 = .ok (.iload_n 3, 1) := by decide +kernel
theorem d_Mo_proto_244 : decode b_Mo_proto 244 = .ok (.iaload, 1) := by decide +kernel
theorem d_Mo_proto_245 : decode b_Mo_proto 245 = .ok (.if_icmp .ge 14, 3) := by decide +kernel
theorem d_Mo_proto_248 : decode b_Mo_proto 248 = .ok (.aload_n 0, 1) := by decide +kernel
theorem d_Mo_proto_249 : decode b_Mo_proto 249 = .ok (.iload_n 1, 1) := by decide +kernel
theorem d_Mo_proto_250 : decode b_Mo_proto 250 = .ok (.invokevirtual 460, 3) := by decide +kernel
theorem d_Mo_proto_253 : decode b_Mo_proto 253 = .ok (.iinc 4 1, 3) := by decide +kernel
theorem d_Mo_proto_256 : decode b_Mo_proto 256 = .ok (.goto (-19), 3) := by decide +kernel
theorem d_Mo_proto_259 : decode b_Mo_proto 259 = .ok (.aload_n 0, 1) := by decide +kernel
theorem d_Mo_proto_260 : decode b_Mo_proto 260 = .ok (.iload_n 3, 1) := by decide +kernel
theorem d_Mo_proto_261 : decode b_Mo_proto 261 = .ok (.invokevirtual 463, 3) := by decide +kernel
theorem d_Mo_proto_264 : decode b_Mo_proto 264 = .ok (.aload_n 0, 1) := by decide +kernel
theorem d_Mo_proto_265 : decode b_Mo_proto 265 = .ok (.iconst 2, 1) := by decide +kernel
theorem d_Mo_proto_266 : decode b_Mo_proto 266 = .ok (.invokevirtual 453, 3) := by decide +kernel
theorem d_Mo_proto_269 : decode b_Mo_proto 269 = .ok (.l2i, 1) := by decide +kernel
theorem d_Mo_proto_270 : decode b_Mo_proto 270 = .ok (.istore 4, 2) := by decide +kernel
theorem d_Mo_proto_272 : decode b_Mo_proto 272 = .ok (.aload_n 0, 1) := by decide +kernel
theorem d_Mo_proto_273 : decode b_Mo_proto 273 = .ok (.iload 4, 2) := by decide +kernel
theorem d_Mo_proto_275 : decode b_Mo_proto 275 = .ok (.ifCond .le 7, 3) := by decide +kernel
theorem d_Mo_proto_278 : decode b_Mo_proto 278 = .ok (.iconst 1, 1) := by decide +kernel
theorem d_Mo_proto_279 : decode b_Mo_proto 279 = .ok (.goto 4, 3) := by decide +kernel
theorem d_Mo_proto_282 : decode b_Mo_proto 282 = .ok (.iconst 0, 1) := by decide +kernel
theorem d_Mo_proto_283 : decode b_Mo_proto 283 = .ok (.invokevirtual 456, 3) := by decide +kernel
theorem d_Mo_proto_286 : decode b_Mo_proto 286 = .ok (.aload_n 0, 1) := by decide +kernel
theorem d_Mo_proto_287 : decode b_Mo_proto 287 = .ok (.getfield 53, 3) := by decide +kernel
theorem d_Mo_proto_290 : decode b_Mo_proto 290 = .ok (.iload_n 3, 1) := by decide +kernel
theorem d_Mo_proto_291 : decode b_Mo_proto 291 = .ok (.aload_n 0, 1) := by decide +kernel
theorem d_Mo_proto_292 : decode b_Mo_proto 292 = .ok (.getfield 98, 3) := by decide +kernel
theorem d_Mo_proto_295 : decode b_Mo_proto 295 = .ok (.iastore, 1) := by decide +kernel
theorem d_Mo_proto_296 : decode b_Mo_proto 296 = .ok (.aload_n 0, 1) := by decide +kernel
theorem d_Mo_proto_297 : decode b_Mo_proto 297 = .ok (.getfield 56, 3) := by decide +kernel
theorem d_Mo_proto_300 : decode b_Mo_proto 300 = .ok (.iload_n 3, 1) := by decide +kernel
theorem d_Mo_proto_301 : decode b_Mo_proto 301 = .ok (.iload 4, 2) := by decide +kernel
theorem d_Mo_proto_303 : decode b_Mo_proto 303 = .ok (.iastore, 1) := by decide +kernel
theorem d_Mo_proto_304 : decode b_Mo_proto 304 = .ok (.iconst 0, 1) := by decide +kernel
theorem d_Mo_proto_305 : decode b_Mo_proto 305 = .ok (.istore 5, 2) := by decide +kernel
theorem d_Mo_proto_307 : decode b_Mo_proto 307 = .ok (.iload 5, 2) := by decide +kernel
theorem d_Mo_proto_309 : decode b_Mo_proto 309 = .ok (.iload 4, 2) := by decide +kernel
theorem d_Mo_proto_311 : decode b_Mo_proto 311 = .ok (.if_icmp .ge 99, 3) := by decide +kernel
theorem d_Mo_proto_314 : decode b_Mo_proto 314 = .ok (.aload_n 0, 1) := by decide +kernel
theorem d_Mo_proto_315 : decode b_Mo_proto 315 = .ok (.getfield 21, 3) := by decide +kernel
theorem d_Mo_proto_318 : decode b_Mo_proto 318 = .ok (.ifCond .ne 92, 3) := by decide +kernel
theorem d_Mo_proto_321 : decode b_Mo_proto 321 = .ok (.aload_n 0, 1) := by decide +kernel
theorem d_Mo_proto_322 : decode b_Mo_proto 322 = .ok (.getfield 104, 3) := by decide +kernel
theorem d_Mo_proto_325 : decode b_Mo_proto 325 = .ok (.istore 6, 2) := by decide +kernel
theorem d_Mo_proto_327 : decode b_Mo_proto 327 = .ok (.aload_n 0, 1) := by decide +kernel
theorem d_Mo_proto_328 : decode b_Mo_proto 328 = .ok (.iconst 4, 1) := by decide +kernel
theorem d_Mo_proto_329 : decode b_Mo_proto 329 = .ok (.invokevirtual 453, 3) := by decide +kernel
theorem d_Mo_proto_332 : decode b_Mo_proto 332 = .ok (.l2i, 1) := by decide +kernel
theorem d_Mo_proto_333 : decode b_Mo_proto 333 = .ok (.istore 7, 2) := by decide +kernel
theorem d_Mo_proto_335 : decode b_Mo_proto 335 = .ok (.aload_n 0, 1) := by decide +kernel
theorem d_Mo_proto_336 : decode b_Mo_proto 336 = .ok (.getfield 21, 3) := by decide +kernel
theorem d_Mo_proto_339 : decode b_Mo_proto 339 = .ok (.ifCond .ne 26, 3) := by decide +kernel
theorem d_Mo_proto_342 : decode b_Mo_proto 342 = .ok (.aload_n 0, 1) := by decide +kernel
theorem d_Mo_proto_343 : decode b_Mo_proto 343 = .ok (.getfield 95, 3) := by decide +kernel
theorem d_Mo_proto_346 : decode b_Mo_proto 346 = .ok (.aload_n 0, 1) := by decide +kernel
theorem d_Mo_proto_347 : decode b_Mo_proto 347 = .ok (.getfield 98, 3) := by decide +kernel
theorem d_Mo_proto_350 : decode b_Mo_proto 350 = .ok (.iadd, 1) := by decide +kernel
theorem d_Mo_proto_351 : decode b_Mo_proto 351 = .ok (.sipush 20000, 3) := by decide +kernel
theorem d_Mo_proto_354 : decode b_Mo_proto 354 = .ok (.if_icmp .ne 11, 3) := by decide +kernel
theorem d_Mo_proto_357 : decode b_Mo_proto 357 = .ok (.aload_n 0, 1) := by decide +kernel
theorem d_Mo_proto_358 : decode b_Mo_proto 358 = .ok (.iconst 4, 1) := by decide +kernel
theorem d_Mo_proto_359 : decode b_Mo_proto 359 = .ok (.iload 6, 2) := by decide +kernel
theorem d_Mo_proto_361 : decode b_Mo_proto 361 = .ok (.invokevirtual 449, 3) := by decide +kernel
theorem d_Mo_proto_364 : decode b_Mo_proto 364 = .ok (.pop, 1) := by decide +kernel
theorem d_Mo_proto_365 : decode b_Mo_proto 365 = .ok (.aload_n 0, 1) := by decide +kernel
theorem d_Mo_proto_366 : decode b_Mo_proto 366 = .ok (.getfield 21, 3) := by decide +kernel
theorem d_Mo_proto_369 : decode b_Mo_proto 369 = .ok (.ifCond .eq 6, 3) := by decide +kernel
theorem d_Mo_proto_372 : decode b_Mo_proto 372 = .ok (.goto 38, 3) := by decide +kernel
theorem d_Mo_proto_375 : decode b_Mo_proto 375 = .ok (.aload_n 0, 1) := by decide +kernel
theorem d_Mo_proto_376 : decode b_Mo_proto 376 = .ok (.getfield 71, 3) := by decide +kernel
theorem d_Mo_proto_379 : decode b_Mo_proto 379 = .ok (.aload_n 0, 1) := by decide +kernel
theorem d_Mo_proto_380 : decode b_Mo_proto 380 = .ok (.getfield 98, 3) := by decide +kernel
theorem d_Mo_proto_383 : decode b_Mo_proto 383 = .ok (.iload 7, 2) := by decide +kernel
theorem d_Mo_proto_385 : decode b_Mo_proto 385 = .ok (.iastore, 1) := by decide +kernel
theorem d_Mo_proto_386 : decode b_Mo_proto 386 = .ok (.aload_n 0, 1) := by decide +kernel
theorem d_Mo_proto_387 : decode b_Mo_proto 387 = .ok (.getfield 74, 3) := by decide +kernel
theorem d_Mo_proto_390 : decode b_Mo_proto 390 = .ok (.aload_n 0, 1) := by decide +kernel
theorem d_Mo_proto_391 : decode b_Mo_proto 391 = .ok (.dup, 1) := by decide +kernel
theorem d_Mo_proto_392 : decode b_Mo_proto 392 = .ok (.getfield 98, 3) := by decide +kernel
theorem d_Mo_proto_395 : decode b_Mo_proto 395 = .ok (.dup_x1, 1) := by decide +kernel
theorem d_Mo_proto_396 : decode b_Mo_proto 396 = .ok (.iconst 1, 1) := by decide +kernel
theorem d_Mo_proto_397 : decode b_Mo_proto 397 = .ok (.iadd, 1) := by decide +kernel
theorem d_Mo_proto_398 : decode b_Mo_proto 398 = .ok (.putfield 98, 3) := by decide +kernel
theorem d_Mo_proto_401 : decode b_Mo_proto 401 = .ok (.iload 6, 2) := by decide +kernel
theorem d_Mo_proto_403 : decode b_Mo_proto 403 = .ok (.iastore, 1) := by decide +kernel
theorem d_Mo_proto_404 : decode b_Mo_proto 404 = .ok (.iinc 5 1, 3) := by decide +kernel
theorem d_Mo_proto_407 : decode b_Mo_proto 407 = .ok (.goto (-100), 3) := by decide +kernel
theorem d_Mo_proto_410 : decode b_Mo_proto 410 = .ok (.aload_n 0, 1) := by decide +kernel
theorem d_Mo_proto_411 : decode b_Mo_proto 411 = .ok (.iconst 1, 1) := by decide +kernel
theorem d_Mo_proto_412 : decode b_Mo_proto 412 = .ok (.invokevirtual 453, 3) := by decide +kernel
theorem d_Mo_proto_415 : decode b_Mo_proto 415 = .ok (.l2i, 1) := by decide +kernel
theorem d_Mo_proto_416 : decode b_Mo_proto 416 = .ok (.istore 5, 2) := by decide +kernel
theorem d_Mo_proto_418 : decode b_Mo_proto 418 = .ok (.aload_n 0, 1) := by decide +kernel
theorem d_Mo_proto_419 : decode b_Mo_proto 419 = .ok (.getfield 21, 3) := by decide +kernel
theorem d_Mo_proto_422 : decode b_Mo_proto 422 = .ok (.ifCond .eq 4, 3) := by decide +kernel
theorem d_Mo_proto_425 : decode b_Mo_proto 425 = .ok (.return_, 1) := by decide +kernel
theorem d_Mo_proto_426 : decode b_Mo_proto 426 = .ok (.aload_n 0, 1) := by decide +kernel
theorem d_Mo_proto_427 : decode b_Mo_proto 427 = .ok (.getfield 62, 3) := by decide +kernel
theorem d_Mo_proto_430 : decode b_Mo_proto 430 = .ok (.iload_n 3, 1) := by decide +kernel
theorem d_Mo_proto_431 : decode b_Mo_proto 431 = .ok (.iload 5, 2) := by decide +kernel
theorem d_Mo_proto_433 : decode b_Mo_proto 433 = .ok (.iastore, 1) := by decide +kernel
theorem d_Mo_proto_434 : decode b_Mo_proto 434 = .ok (.aload_n 0, 1) := by decide +kernel
theorem d_Mo_proto_435 : decode b_Mo_proto 435 = .ok (.getfield 59, 3) := by decide +kernel
theorem d_Mo_proto_438 : decode b_Mo_proto 438 = .ok (.iload_n 3, 1) := by decide +kernel
theorem d_Mo_proto_439 : decode b_Mo_proto 439 = .ok (.aload_n 0, 1) := by decide +kernel
theorem d_Mo_proto_440 : decode b_Mo_proto 440 = .ok (.getfield 101, 3) := by decide +kernel
theorem d_Mo_proto_443 : decode b_Mo_proto 443 = .ok (.iastore, 1) := by decide +kernel
theorem d_Mo_proto_444 : decode b_Mo_proto 444 = .ok (.aload_n 0, 1) := by decide +kernel
theorem d_Mo_proto_445 : decode b_Mo_proto 445 = .ok (.dup, 1) := by decide +kernel
theorem d_Mo_proto_446 : decode b_Mo_proto 446 = .ok (.getfield 101, 3) := by decide +kernel
theorem d_Mo_proto_449 : decode b_Mo_proto 449 = .ok (.iload 5, 2) := by decide +kernel
theorem d_Mo_proto_451 : decode b_Mo_proto 451 = .ok (.iadd, 1) := by decide +kernel
theorem d_Mo_proto_452 : decode b_Mo_proto 452 = .ok (.putfield 101, 3) := by decide +kernel
theorem d_Mo_proto_455 : decode b_Mo_proto 455 = .ok (.iconst 0, 1) := by decide +kernel
theorem d_Mo_proto_456 : decode b_Mo_proto 456 = .ok (.istore 6, 2) := by decide +kernel
theorem d_Mo_proto_458 : decode b_Mo_proto 458 = .ok (.iload 6, 2) := by decide +kernel
theorem d_Mo_proto_460 : decode b_Mo_proto 460 = .ok (.iload 5, 2) := by decide +kernel
theorem d_Mo_proto_462 : decode b_Mo_proto 462 = .ok (.if_icmp .ge 57, 3) := by decide +kernel
theorem d_Mo_proto_465 : decode b_Mo_proto 465 = .ok (.aload_n 0, 1) := by decide +kernel
theorem d_Mo_proto_466 : decode b_Mo_proto 466 = .ok (.getfield 21, 3) := by decide +kernel
theorem d_Mo_proto_469 : decode b_Mo_proto 469 = .ok (.ifCond .ne 50, 3) := by decide +kernel
theorem d_Mo_proto_472 : decode b_Mo_proto 472 = .ok (.aload_n 0, 1) := by decide +kernel
theorem d_Mo_proto_473 : decode b_Mo_proto 473 = .ok (.getfield 59, 3) := by decide +kernel
theorem d_Mo_proto_476 : decode b_Mo_proto 476 = .ok (.iload_n 3, 1) := by decide +kernel
theorem d_Mo_proto_477 : decode b_Mo_proto 477 = .ok (.iaload, 1) := by decide +kernel
theorem d_Mo_proto_478 : decode b_Mo_proto 478 = .ok (.iload 6, 2) := by decide +kernel
theorem d_Mo_proto_480 : decode b_Mo_proto 480 = .ok (.iadd, 1) := by decide +kernel
theorem d_Mo_proto_481 : decode b_Mo_proto 481 = .ok (.sipush 256, 3) := by decide +kernel
theorem d_Mo_proto_484 : decode b_Mo_proto 484 = .ok (.if_icmp .ge 21, 3) := by decide +kernel
theorem d_Mo_proto_487 : decode b_Mo_proto 487 = .ok (.aload_n 0, 1) := by decide +kernel
theorem d_Mo_proto_488 : decode b_Mo_proto 488 = .ok (.getfield 68, 3) := by decide +kernel
theorem d_Mo_proto_491 : decode b_Mo_proto 491 = .ok (.aload_n 0, 1) := by decide +kernel
theorem d_Mo_proto_492 : decode b_Mo_proto 492 = .ok (.getfield 59, 3) := by decide +kernel
theorem d_Mo_proto_495 : decode b_Mo_proto 495 = .ok (.iload_n 3, 1) := by decide +kernel
theorem d_Mo_proto_496 : decode b_Mo_proto 496 = .ok (.iaload, 1) := by decide +kernel
theorem d_Mo_proto_497 : decode b_Mo_proto 497 = .ok (.iload 6, 2) := by decide +kernel
theorem d_Mo_proto_499 : decode b_Mo_proto 499 = .ok (.iadd, 1) := by decide +kernel
theorem d_Mo_proto_500 : decode b_Mo_proto 500 = .ok (.aload_n 0, 1) := by decide +kernel
theorem d_Mo_proto_501 : decode b_Mo_proto 501 = .ok (.getfield 89, 3) := by decide +kernel
theorem d_Mo_proto_504 : decode b_Mo_proto 504 = .ok (.iastore, 1) := by decide +kernel
theorem d_Mo_proto_505 : decode b_Mo_proto 505 = .ok (.aload_n 0, 1) := by decide +kernel
theorem d_Mo_proto_506 : decode b_Mo_proto 506 = .ok (.iload_n 3, 1) := by decide +kernel
theorem d_Mo_proto_507 : decode b_Mo_proto 507 = .ok (.iload_n 2, 1) := by decide +kernel
theorem d_Mo_proto_508 : decode b_Mo_proto 508 = .ok (.iconst 1, 1) := by decide +kernel
theorem d_Mo_proto_509 : decode b_Mo_proto 509 = .ok (.iadd, 1) := by decide +kernel
theorem d_Mo_proto_510 : decode b_Mo_proto 510 = .ok (.invokevirtual 466, 3) := by decide +kernel
theorem d_Mo_proto_513 : decode b_Mo_proto 513 = .ok (.iinc 6 1, 3) := by decide +kernel
theorem d_Mo_proto_516 : decode b_Mo_proto 516 = .ok (.goto (-58), 3) := by decide +kernel
theorem d_Mo_proto_519 : decode b_Mo_proto 519 = .ok (.return_, 1) := by decide +kernel
theorem kw_611 : Cond.methodLink R_Mo 460 y_Mo_upvalue ∈ wA := kinm (show _ ∈ tables_1 from (List.mem_append_right _ (List.mem_append_right _ (List.mem_append_right _ (List.mem_append_right _ (List.mem_append_right _ (List.mem_append_right _ (List.mem_append_right _ (List.mem_append_right _ (List.mem_append_right _ (List.mem_append_right _ (List.mem_append_left _ (List.mem_of_getElem? (l := tables_1_11) (i := 154) (by decide +kernel)))))))))))))) (by decide +kernel)
theorem kw_612 : Cond.methodLink R_Mo 463 y_Mo_readConstants ∈ wA := kinm (show _ ∈ tables_1 from (List.mem_append_right _ (List.mem_append_right _ (List.mem_append_right _ (List.mem_append_right _ (List.mem_append_right _ (List.mem_append_right _ (List.mem_append_right _ (List.mem_append_right _ (List.mem_append_right _ (List.mem_append_right _ (List.mem_append_left _ (List.mem_of_getElem? (l := tables_1_11) (i := 158) (by decide +kernel)))))))))))))) (by decide +kernel)
theorem kw_613 : Cond.fieldLink R_Mo 101 "LuaMachineModel" "childCount" "I" ∈ wA := kinm (show _ ∈ tables_1 from (List.mem_append_right _ (List.mem_append_right _ (List.mem_append_right _ (List.mem_append_right _ (List.mem_append_right _ (List.mem_append_right _ (List.mem_append_right _ (List.mem_append_right _ (List.mem_append_right _ (List.mem_append_left _ (List.mem_of_getElem? (l := tables_1_10) (i := 82) (by decide +kernel))))))))))))) (by decide +kernel)
theorem kw_614 : Cond.methodLink R_Mo 466 y_Mo_proto ∈ wA := kinm (show _ ∈ tables_1 from (List.mem_append_right _ (List.mem_append_right _ (List.mem_append_right _ (List.mem_append_right _ (List.mem_append_right _ (List.mem_append_right _ (List.mem_append_right _ (List.mem_append_right _ (List.mem_append_right _ (List.mem_append_right _ (List.mem_append_left _ (List.mem_of_getElem? (l := tables_1_11) (i := 138) (by decide +kernel)))))))))))))) (by decide +kernel)
theorem kw_615 : Cond.instanceMethod y_Mo_proto ∈ wA := kinm (show _ ∈ tables_1 from (List.mem_append_right _ (List.mem_append_right _ (List.mem_append_right _ (List.mem_append_right _ (List.mem_append_right _ (List.mem_append_right _ (List.mem_append_right _ (List.mem_append_right _ (List.mem_append_right _ (List.mem_append_right _ (List.mem_append_left _ (List.mem_of_getElem? (l := tables_1_11) (i := 140) (by decide +kernel)))))))))))))) (by decide +kernel)
theorem kw_616 : Cond.selects R_Mo y_Mo_proto y_Mo_proto ∈ wA := kinp 112 (by decide +kernel) (by decide +kernel)
theorem cv_Mo_proto : CV y_Mo_proto b_Mo_proto 8 none 2 := ⟨kw_615, kw_616, kw_17, k_Mo_proto, by decide +kernel⟩
def HR_Mo_proto (k : Nat) (rec : Int32 → Int32 → M (Unit)) : Prop := ∀ {l : Launch} {P : PP} {q : PL} {s s' : S1} {l1 : Int32} {l2 : Int32} {r : Unit}, rec l1 l2 s = some (r, s') → Ct l y_Mo_proto b_Mo_proto 8 none (3 + k) (73 + 27 * k) P q s [.ref (q.1 0 0), .int l1, .int l2] none q s'

theorem j_Mo_proto_j24 {k : Nat} {rec : Int32 → Int32 → M (Unit)} (hrec : HR_Mo_proto k rec) {X : Cx} {q : PL} (g : Gd X y_Mo_proto b_Mo_proto 8 none (3 + (k + 1)) (73 + 27 * (k + 1)) R_Mo) {o : (Unit) × S1} (hR : Rt X q o.2 none)  (s : S1) (ls : Array Slot) (hl : lv_has ls 8 [(0, .ref (q.1 0 0))]) (h : M_Mo_proto_j24 rec s = some o) : WW X q s 24 ls [] := by
  unfold M_Mo_proto_j24 at h
  refine ww_aload_n (pc := 24) g.1 d_Mo_proto_24 rfl (lv_at hl 0 rfl) ?_
  refine ww_iconst (pc := 25) g.1 (v := 3) d_Mo_proto_25 (by decide) ?_
  refine ww_aload_n (pc := 26) g.1 d_Mo_proto_26 rfl (lv_at hl 0 rfl) ?_
  refine ww_gI (pc := 27) g (k := 28) cl_Mo (pz rfl (by decide)) (by decide) (Or.inl kw_28) (f := 28) rfl rfl d_Mo_proto_27 h fun v27 h => ?_
  obtain ⟨v30, s, hc30, h⟩ := oB_of h
  refine ww_callV (pc := 30) (rest := []) g cv_Mo_bad (Or.inl kw_31) cl_Mo (pz rfl (by decide)) (ct_Mo_bad hc30) ⟨by omega, by omega⟩ rfl hl.1 (Nat.le_of_ble_eq_true rfl) d_Mo_proto_30 rfl ?_
  refine ww_st (st' := [.int v30]) rfl ?_
  refine ww_pop (pc := 33) g.1 d_Mo_proto_33 rfl ?_
  exact ww_vretH (pc := 34) g h hR d_Mo_proto_34

theorem lp_Mo_proto_L237 {k : Nat} {rec : Int32 → Int32 → M (Unit)} (hrec : HR_Mo_proto k rec) {X : Cx} {q : PL} (g : Gd X y_Mo_proto b_Mo_proto 8 none (3 + (k + 1)) (73 + 27 * (k + 1)) R_Mo) (x : Int32 × Int32 × Int32 × Int32) (s : S1) (o : ((Int32 × Int32 × Int32 × Int32) ⊕ ((Int32 × Int32))) × S1) (h : M_Mo_proto_L237 rec x s = some o) (hR : (Sum.elim (fun y : Int32 × Int32 × Int32 × Int32 => ∀ ls : Array Slot, lv_has ls 8 [(0, .ref (q.1 0 0)), (1, .int y.1), (2, .int y.2.1), (3, .int y.2.2.1), (4, .int y.2.2.2)] → WW X q o.2 237 ls []) (fun y : Int32 × Int32 => ∀ ls : Array Slot, lv_has ls 8 [(0, .ref (q.1 0 0)), (2, .int y.1), (3, .int y.2)] → WW X q o.2 259 ls []) o.1)) : ∀ ls : Array Slot, lv_has ls 8 [(0, .ref (q.1 0 0)), (1, .int x.1), (2, .int x.2.1), (3, .int x.2.2.1), (4, .int x.2.2.2)] → WW X q s 237 ls [] := by
  intro ls hl
  unfold M_Mo_proto_L237 at h
  refine ww_iload (pc := 237) g.1 d_Mo_proto_237 (lv_at hl 4 rfl) ?_
  refine ww_aload_n (pc := 239) g.1 d_Mo_proto_239 rfl (lv_at hl 0 rfl) ?_
  refine ww_gR (pc := 240) g (k := 9) cl_Mo (pz rfl (by decide)) (by decide) (Or.inl kw_39) (f := 9) (t := 45) rfl rfl rfl d_Mo_proto_240 ?_
  refine ww_iload_n (pc := 243) g.1 d_Mo_proto_243 rfl (lv_at hl 3 rfl) ?_
  refine ww_ai (pc := 244) g (pz rfl (by decide)) rfl rfl d_Mo_proto_244 h fun v244 h => ?_
  refine ww_icmp_ge (pc := 245) (tgt := 259) g.1 d_Mo_proto_245 (by decide) h (fun c h => ?_) (fun c h => ?_)
  · rw [oR_eq h] at hR
    exact hR ls (lv_sub hl [0, 2, 3] rfl)
  · refine ww_aload_n (pc := 248) g.1 d_Mo_proto_248 rfl (lv_at hl 0 rfl) ?_
    refine ww_iload_n (pc := 249) g.1 d_Mo_proto_249 rfl (lv_at hl 1 rfl) ?_
    obtain ⟨v250, s, hc250, h⟩ := oB_of h
    refine ww_callV (pc := 250) (rest := []) g cv_Mo_upvalue (Or.inl kw_611) cl_Mo (pz rfl (by decide)) (ct_Mo_upvalue hc250) ⟨by omega, by omega⟩ rfl hl.1 (Nat.le_of_ble_eq_true rfl) d_Mo_proto_250 rfl ?_
    refine ww_st (st' := []) rfl ?_
    refine ww_iinc (pc := 253) g.1 (v := x.2.2.2 + 1) (lv' := [(4, .int (x.2.2.2 + 1)), (0, .ref (q.1 0 0)), (1, .int x.1), (2, .int x.2.1), (3, .int x.2.2.1)]) d_Mo_proto_253 hl (k := 4) rfl (by rfl) (by decide) rfl fun ls hl => ?_
    refine ww_goto (pc := 256) (tgt := 237) g.1 d_Mo_proto_256 (by decide) ?_
    rw [oR_eq h] at hR
    exact hR ls (lv_sub hl [1, 2, 3, 4, 0] rfl)

theorem j_Mo_proto_j365 {k : Nat} {rec : Int32 → Int32 → M (Unit)} (hrec : HR_Mo_proto k rec) {X : Cx} {q : PL} (g : Gd X y_Mo_proto b_Mo_proto 8 none (3 + (k + 1)) (73 + 27 * (k + 1)) R_Mo) {o : ((Int32 × Int32 × Int32 × Int32) ⊕ ((Int32 × Int32) ⊕ (Int32 × Int32))) × S1} (hR : (Sum.elim (fun y : Int32 × Int32 × Int32 × Int32 => ∀ ls : Array Slot, lv_has ls 8 [(0, .ref (q.1 0 0)), (2, .int y.1), (3, .int y.2.1), (4, .int y.2.2.1), (5, .int y.2.2.2)] → WW X q o.2 307 ls []) (Sum.elim (fun y : Int32 × Int32 => ∀ ls : Array Slot, lv_has ls 8 [(0, .ref (q.1 0 0)), (2, .int y.1), (3, .int y.2)] → WW X q o.2 372 ls []) (fun y : Int32 × Int32 => ∀ ls : Array Slot, lv_has ls 8 [(0, .ref (q.1 0 0)), (2, .int y.1), (3, .int y.2)] → WW X q o.2 410 ls [])) o.1)) (l2 : Int32) (l3 : Int32) (l4 : Int32) (l5 : Int32) (l6 : Int32) (l7 : Int32) (s : S1) (ls : Array Slot) (hl : lv_has ls 8 [(0, .ref (q.1 0 0)), (2, .int l2), (3, .int l3), (4, .int l4), (5, .int l5), (6, .int l6), (7, .int l7)]) (h : M_Mo_proto_j365 rec l2 l3 l4 l5 l6 l7 s = some o) : WW X q s 365 ls [] := by
  unfold M_Mo_proto_j365 at h
  refine ww_aload_n (pc := 365) g.1 d_Mo_proto_365 rfl (lv_at hl 0 rfl) ?_
  refine ww_gI (pc := 366) g (k := 3) cl_Mo (pz rfl (by decide)) (by decide) (Or.inl kw_24) (f := 3) rfl rfl d_Mo_proto_366 h fun v366 h => ?_
  refine ww_if_eq (pc := 369) (tgt := 375) g.1 d_Mo_proto_369 (by decide) h (fun c h => ?_) (fun c h => ?_)
  · refine ww_aload_n (pc := 375) g.1 d_Mo_proto_375 rfl (lv_at hl 0 rfl) ?_
    refine ww_gR (pc := 376) g (k := 19) cl_Mo (pz rfl (by decide)) (by decide) (Or.inl kw_58) (f := 19) (t := 55) rfl rfl rfl d_Mo_proto_376 ?_
    refine ww_aload_n (pc := 379) g.1 d_Mo_proto_379 rfl (lv_at hl 0 rfl) ?_
    refine ww_gI (pc := 380) g (k := 26) cl_Mo (pz rfl (by decide)) (by decide) (Or.inl kw_308) (f := 26) rfl rfl d_Mo_proto_380 h fun v380 h => ?_
    refine ww_iload (pc := 383) g.1 d_Mo_proto_383 (lv_at hl 6 rfl) ?_
    refine ww_si (pc := 385) g (pz rfl (by decide)) rfl rfl d_Mo_proto_385 h fun s hs h => ?_
    refine ww_aload_n (pc := 386) g.1 d_Mo_proto_386 rfl (lv_at hl 0 rfl) ?_
    refine ww_gR (pc := 387) g (k := 20) cl_Mo (pz rfl (by decide)) (by decide) (Or.inl kw_436) (f := 20) (t := 56) rfl rfl rfl d_Mo_proto_387 ?_
    refine ww_aload_n (pc := 390) g.1 d_Mo_proto_390 rfl (lv_at hl 0 rfl) ?_
    refine ww_dup (pc := 391) g.1 d_Mo_proto_391 rfl ?_
    refine ww_gI (pc := 392) g (k := 26) cl_Mo (pz rfl (by decide)) (by decide) (Or.inl kw_308) (f := 26) rfl rfl d_Mo_proto_392 h fun v392 h => ?_
    refine ww_dup_x1 (pc := 395) g.1 d_Mo_proto_395 rfl rfl ?_
    refine ww_iconst (pc := 396) g.1 (v := 1) d_Mo_proto_396 (by decide) ?_
    refine ww_iadd (pc := 397) g.1 d_Mo_proto_397 ?_
    refine ww_pI (pc := 398) g (k := 26) cl_Mo (pz rfl (by decide)) (by decide) (Or.inl kw_308) rfl (f := 26) rfl rfl rfl rfl d_Mo_proto_398 h fun s hs h => ?_
    refine ww_iload (pc := 401) g.1 d_Mo_proto_401 (lv_at hl 5 rfl) ?_
    refine ww_si (pc := 403) g (pz rfl (by decide)) rfl rfl d_Mo_proto_403 h fun s hs h => ?_
    refine ww_iinc (pc := 404) g.1 (v := l5 + 1) (lv' := [(5, .int (l5 + 1)), (0, .ref (q.1 0 0)), (2, .int l2), (3, .int l3), (4, .int l4), (6, .int l6), (7, .int l7)]) d_Mo_proto_404 hl (k := 4) rfl (by rfl) (by decide) rfl fun ls hl => ?_
    refine ww_goto (pc := 407) (tgt := 307) g.1 d_Mo_proto_407 (by decide) ?_
    rw [oR_eq h] at hR
    exact hR ls (lv_sub hl [1, 2, 3, 4, 0] rfl)
  · rw [oR_eq h] at hR
    exact hR ls (lv_sub hl [0, 1, 2] rfl)

theorem lp_Mo_proto_L307 {k : Nat} {rec : Int32 → Int32 → M (Unit)} (hrec : HR_Mo_proto k rec) {X : Cx} {q : PL} (g : Gd X y_Mo_proto b_Mo_proto 8 none (3 + (k + 1)) (73 + 27 * (k + 1)) R_Mo) (x : Int32 × Int32 × Int32 × Int32) (s : S1) (o : ((Int32 × Int32 × Int32 × Int32) ⊕ ((Int32 × Int32) ⊕ (Int32 × Int32))) × S1) (h : M_Mo_proto_L307 rec x s = some o) (hR : (Sum.elim (fun y : Int32 × Int32 × Int32 × Int32 => ∀ ls : Array Slot, lv_has ls 8 [(0, .ref (q.1 0 0)), (2, .int y.1), (3, .int y.2.1), (4, .int y.2.2.1), (5, .int y.2.2.2)] → WW X q o.2 307 ls []) (Sum.elim (fun y : Int32 × Int32 => ∀ ls : Array Slot, lv_has ls 8 [(0, .ref (q.1 0 0)), (2, .int y.1), (3, .int y.2)] → WW X q o.2 372 ls []) (fun y : Int32 × Int32 => ∀ ls : Array Slot, lv_has ls 8 [(0, .ref (q.1 0 0)), (2, .int y.1), (3, .int y.2)] → WW X q o.2 410 ls [])) o.1)) : ∀ ls : Array Slot, lv_has ls 8 [(0, .ref (q.1 0 0)), (2, .int x.1), (3, .int x.2.1), (4, .int x.2.2.1), (5, .int x.2.2.2)] → WW X q s 307 ls [] := by
  intro ls hl
  unfold M_Mo_proto_L307 at h
  refine ww_iload (pc := 307) g.1 d_Mo_proto_307 (lv_at hl 4 rfl) ?_
  refine ww_iload (pc := 309) g.1 d_Mo_proto_309 (lv_at hl 3 rfl) ?_
  refine ww_icmp_ge (pc := 311) (tgt := 410) g.1 d_Mo_proto_311 (by decide) h (fun c h => ?_) (fun c h => ?_)
  · rw [oR_eq h] at hR
    exact hR ls (lv_sub hl [0, 1, 2] rfl)
  · refine ww_aload_n (pc := 314) g.1 d_Mo_proto_314 rfl (lv_at hl 0 rfl) ?_
    refine ww_gI (pc := 315) g (k := 3) cl_Mo (pz rfl (by decide)) (by decide) (Or.inl kw_24) (f := 3) rfl rfl d_Mo_proto_315 h fun v315 h => ?_
    refine ww_if_ne (pc := 318) (tgt := 410) g.1 d_Mo_proto_318 (by decide) h (fun c h => ?_) (fun c h => ?_)
    · rw [oR_eq h] at hR
      exact hR ls (lv_sub hl [0, 1, 2] rfl)
    · refine ww_aload_n (pc := 321) g.1 d_Mo_proto_321 rfl (lv_at hl 0 rfl) ?_
      refine ww_gI (pc := 322) g (k := 28) cl_Mo (pz rfl (by decide)) (by decide) (Or.inl kw_28) (f := 28) rfl rfl d_Mo_proto_322 h fun v322 h => ?_
      refine ww_istore (pc := 325) (i := 6) g.1 (lv' := [(6, .int v322), (0, .ref (q.1 0 0)), (2, .int x.1), (3, .int x.2.1), (4, .int x.2.2.1), (5, .int x.2.2.2)]) d_Mo_proto_325 hl (by decide) rfl fun ls hl => ?_
      refine ww_aload_n (pc := 327) g.1 d_Mo_proto_327 rfl (lv_at hl 1 rfl) ?_
      refine ww_iconst (pc := 328) g.1 (v := 4) d_Mo_proto_328 (by decide) ?_
      obtain ⟨v329, s, hc329, h⟩ := oB_of h
      refine ww_callV (pc := 329) (rest := []) g cv_Mo_number (Or.inl kw_36) cl_Mo (pz rfl (by decide)) (ct_Mo_number hc329) ⟨by omega, by omega⟩ rfl hl.1 (Nat.le_of_ble_eq_true rfl) d_Mo_proto_329 rfl ?_
      refine ww_st (st' := [.long v329]) rfl ?_
      refine ww_l2i (pc := 332) g.1 (v := v329.toInt32) d_Mo_proto_332 rfl ?_
      refine ww_istore (pc := 333) (i := 7) g.1 (lv' := [(7, .int v329.toInt32), (6, .int v322), (0, .ref (q.1 0 0)), (2, .int x.1), (3, .int x.2.1), (4, .int x.2.2.1), (5, .int x.2.2.2)]) d_Mo_proto_333 hl (by decide) rfl fun ls hl => ?_
      refine ww_aload_n (pc := 335) g.1 d_Mo_proto_335 rfl (lv_at hl 2 rfl) ?_
      refine ww_gI (pc := 336) g (k := 3) cl_Mo (pz rfl (by decide)) (by decide) (Or.inl kw_24) (f := 3) rfl rfl d_Mo_proto_336 h fun v336 h => ?_
      refine ww_if_ne (pc := 339) (tgt := 365) g.1 d_Mo_proto_339 (by decide) h (fun c h => ?_) (fun c h => ?_)
      · exact j_Mo_proto_j365 hrec g hR x.1 x.2.1 x.2.2.1 x.2.2.2 v322 v329.toInt32 s ls (lv_sub hl [2, 3, 4, 5, 6, 1, 0] rfl) h
      · refine ww_aload_n (pc := 342) g.1 d_Mo_proto_342 rfl (lv_at hl 2 rfl) ?_
        refine ww_gI (pc := 343) g (k := 25) cl_Mo (pz rfl (by decide)) (by decide) (Or.inl kw_306) (f := 25) rfl rfl d_Mo_proto_343 h fun v343 h => ?_
        refine ww_aload_n (pc := 346) g.1 d_Mo_proto_346 rfl (lv_at hl 2 rfl) ?_
        refine ww_gI (pc := 347) g (k := 26) cl_Mo (pz rfl (by decide)) (by decide) (Or.inl kw_308) (f := 26) rfl rfl d_Mo_proto_347 h fun v347 h => ?_
        refine ww_iadd (pc := 350) g.1 d_Mo_proto_350 ?_
        refine ww_sipush (pc := 351) g.1 (v := 20000) d_Mo_proto_351 (by decide) ?_
        refine ww_icmp_ne (pc := 354) (tgt := 365) g.1 d_Mo_proto_354 (by decide) h (fun c h => ?_) (fun c h => ?_)
        · exact j_Mo_proto_j365 hrec g hR x.1 x.2.1 x.2.2.1 x.2.2.2 v322 v329.toInt32 s ls (lv_sub hl [2, 3, 4, 5, 6, 1, 0] rfl) h
        · refine ww_aload_n (pc := 357) g.1 d_Mo_proto_357 rfl (lv_at hl 2 rfl) ?_
          refine ww_iconst (pc := 358) g.1 (v := 4) d_Mo_proto_358 (by decide) ?_
          refine ww_iload (pc := 359) g.1 d_Mo_proto_359 (lv_at hl 1 rfl) ?_
          obtain ⟨v361, s, hc361, h⟩ := oB_of h
          refine ww_callV (pc := 361) (rest := []) g cv_Mo_bad (Or.inl kw_31) cl_Mo (pz rfl (by decide)) (ct_Mo_bad hc361) ⟨by omega, by omega⟩ rfl hl.1 (Nat.le_of_ble_eq_true rfl) d_Mo_proto_361 rfl ?_
          refine ww_st (st' := [.int v361]) rfl ?_
          refine ww_pop (pc := 364) g.1 d_Mo_proto_364 rfl ?_
          exact j_Mo_proto_j365 hrec g hR x.1 x.2.1 x.2.2.1 x.2.2.2 v322 v329.toInt32 s ls (lv_sub hl [2, 3, 4, 5, 6, 1, 0] rfl) h

theorem j_Mo_proto_j505 {k : Nat} {rec : Int32 → Int32 → M (Unit)} (hrec : HR_Mo_proto k rec) {X : Cx} {q : PL} (g : Gd X y_Mo_proto b_Mo_proto 8 none (3 + (k + 1)) (73 + 27 * (k + 1)) R_Mo) {o : ((Int32 × Int32 × Int32 × Int32) ⊕ ((Unit))) × S1} (hR : (Sum.elim (fun y : Int32 × Int32 × Int32 × Int32 => ∀ ls : Array Slot, lv_has ls 8 [(0, .ref (q.1 0 0)), (2, .int y.1), (3, .int y.2.1), (5, .int y.2.2.1), (6, .int y.2.2.2)] → WW X q o.2 458 ls []) (fun y : Unit => ∀ ls : Array Slot, lv_has ls 8 [] → WW X q o.2 519 ls []) o.1)) (l2 : Int32) (l3 : Int32) (l5 : Int32) (l6 : Int32) (s : S1) (ls : Array Slot) (hl : lv_has ls 8 [(0, .ref (q.1 0 0)), (2, .int l2), (3, .int l3), (5, .int l5), (6, .int l6)]) (h : M_Mo_proto_j505 rec l2 l3 l5 l6 s = some o) : WW X q s 505 ls [] := by
  unfold M_Mo_proto_j505 at h
  refine ww_aload_n (pc := 505) g.1 d_Mo_proto_505 rfl (lv_at hl 0 rfl) ?_
  refine ww_iload_n (pc := 506) g.1 d_Mo_proto_506 rfl (lv_at hl 2 rfl) ?_
  refine ww_iload_n (pc := 507) g.1 d_Mo_proto_507 rfl (lv_at hl 1 rfl) ?_
  refine ww_iconst (pc := 508) g.1 (v := 1) d_Mo_proto_508 (by decide) ?_
  refine ww_iadd (pc := 509) g.1 d_Mo_proto_509 ?_
  obtain ⟨v510, s, hc510, h⟩ := oB_of h
  refine ww_callV (pc := 510) (rest := []) g cv_Mo_proto (Or.inl kw_614) cl_Mo (pz rfl (by decide)) (hrec hc510) ⟨by omega, by omega⟩ rfl hl.1 (Nat.le_of_ble_eq_true rfl) d_Mo_proto_510 rfl ?_
  refine ww_st (st' := []) rfl ?_
  refine ww_iinc (pc := 513) g.1 (v := l6 + 1) (lv' := [(6, .int (l6 + 1)), (0, .ref (q.1 0 0)), (2, .int l2), (3, .int l3), (5, .int l5)]) d_Mo_proto_513 hl (k := 4) rfl (by rfl) (by decide) rfl fun ls hl => ?_
  refine ww_goto (pc := 516) (tgt := 458) g.1 d_Mo_proto_516 (by decide) ?_
  rw [oR_eq h] at hR
  exact hR ls (lv_sub hl [1, 2, 3, 4, 0] rfl)

theorem lp_Mo_proto_L458 {k : Nat} {rec : Int32 → Int32 → M (Unit)} (hrec : HR_Mo_proto k rec) {X : Cx} {q : PL} (g : Gd X y_Mo_proto b_Mo_proto 8 none (3 + (k + 1)) (73 + 27 * (k + 1)) R_Mo) (x : Int32 × Int32 × Int32 × Int32) (s : S1) (o : ((Int32 × Int32 × Int32 × Int32) ⊕ ((Unit))) × S1) (h : M_Mo_proto_L458 rec x s = some o) (hR : (Sum.elim (fun y : Int32 × Int32 × Int32 × Int32 => ∀ ls : Array Slot, lv_has ls 8 [(0, .ref (q.1 0 0)), (2, .int y.1), (3, .int y.2.1), (5, .int y.2.2.1), (6, .int y.2.2.2)] → WW X q o.2 458 ls []) (fun y : Unit => ∀ ls : Array Slot, lv_has ls 8 [] → WW X q o.2 519 ls []) o.1)) : ∀ ls : Array Slot, lv_has ls 8 [(0, .ref (q.1 0 0)), (2, .int x.1), (3, .int x.2.1), (5, .int x.2.2.1), (6, .int x.2.2.2)] → WW X q s 458 ls [] := by
  intro ls hl
  unfold M_Mo_proto_L458 at h
  refine ww_iload (pc := 458) g.1 d_Mo_proto_458 (lv_at hl 4 rfl) ?_
  refine ww_iload (pc := 460) g.1 d_Mo_proto_460 (lv_at hl 3 rfl) ?_
  refine ww_icmp_ge (pc := 462) (tgt := 519) g.1 d_Mo_proto_462 (by decide) h (fun c h => ?_) (fun c h => ?_)
  · rw [oR_eq h] at hR
    exact hR ls (lv_sub hl [] rfl)
  · refine ww_aload_n (pc := 465) g.1 d_Mo_proto_465 rfl (lv_at hl 0 rfl) ?_
    refine ww_gI (pc := 466) g (k := 3) cl_Mo (pz rfl (by decide)) (by decide) (Or.inl kw_24) (f := 3) rfl rfl d_Mo_proto_466 h fun v466 h => ?_
    refine ww_if_ne (pc := 469) (tgt := 519) g.1 d_Mo_proto_469 (by decide) h (fun c h => ?_) (fun c h => ?_)
    · rw [oR_eq h] at hR
      exact hR ls (lv_sub hl [] rfl)
    · refine ww_aload_n (pc := 472) g.1 d_Mo_proto_472 rfl (lv_at hl 0 rfl) ?_
      refine ww_gR (pc := 473) g (k := 15) cl_Mo (pz rfl (by decide)) (by decide) (Or.inl kw_497) (f := 15) (t := 51) rfl rfl rfl d_Mo_proto_473 ?_
      refine ww_iload_n (pc := 476) g.1 d_Mo_proto_476 rfl (lv_at hl 2 rfl) ?_
      refine ww_ai (pc := 477) g (pz rfl (by decide)) rfl rfl d_Mo_proto_477 h fun v477 h => ?_
      refine ww_iload (pc := 478) g.1 d_Mo_proto_478 (lv_at hl 4 rfl) ?_
      refine ww_iadd (pc := 480) g.1 d_Mo_proto_480 ?_
      refine ww_sipush (pc := 481) g.1 (v := 256) d_Mo_proto_481 (by decide) ?_
      refine ww_icmp_ge (pc := 484) (tgt := 505) g.1 d_Mo_proto_484 (by decide) h (fun c h => ?_) (fun c h => ?_)
      · exact j_Mo_proto_j505 hrec g hR x.1 x.2.1 x.2.2.1 x.2.2.2 s ls (lv_sub hl [0, 1, 2, 3, 4] rfl) h
      · refine ww_aload_n (pc := 487) g.1 d_Mo_proto_487 rfl (lv_at hl 0 rfl) ?_
        refine ww_gR (pc := 488) g (k := 18) cl_Mo (pz rfl (by decide)) (by decide) (Or.inl kw_496) (f := 18) (t := 54) rfl rfl rfl d_Mo_proto_488 ?_
        refine ww_aload_n (pc := 491) g.1 d_Mo_proto_491 rfl (lv_at hl 0 rfl) ?_
        refine ww_gR (pc := 492) g (k := 15) cl_Mo (pz rfl (by decide)) (by decide) (Or.inl kw_497) (f := 15) (t := 51) rfl rfl rfl d_Mo_proto_492 ?_
        refine ww_iload_n (pc := 495) g.1 d_Mo_proto_495 rfl (lv_at hl 2 rfl) ?_
        refine ww_ai (pc := 496) g (pz rfl (by decide)) rfl rfl d_Mo_proto_496 h fun v496 h => ?_
        refine ww_iload (pc := 497) g.1 d_Mo_proto_497 (lv_at hl 4 rfl) ?_
        refine ww_iadd (pc := 499) g.1 d_Mo_proto_499 ?_
        refine ww_aload_n (pc := 500) g.1 d_Mo_proto_500 rfl (lv_at hl 0 rfl) ?_
        refine ww_gI (pc := 501) g (k := 23) cl_Mo (pz rfl (by decide)) (by decide) (Or.inl kw_434) (f := 23) rfl rfl d_Mo_proto_501 h fun v501 h => ?_
        refine ww_si (pc := 504) g (pz rfl (by decide)) rfl rfl d_Mo_proto_504 h fun s hs h => ?_
        exact j_Mo_proto_j505 hrec g hR x.1 x.2.1 x.2.2.1 x.2.2.2 s ls (lv_sub hl [0, 1, 2, 3, 4] rfl) h

theorem j_Mo_proto_j410 {k : Nat} {rec : Int32 → Int32 → M (Unit)} (hrec : HR_Mo_proto k rec) {X : Cx} {q : PL} (g : Gd X y_Mo_proto b_Mo_proto 8 none (3 + (k + 1)) (73 + 27 * (k + 1)) R_Mo) {o : (Unit) × S1} (hR : Rt X q o.2 none) (l2 : Int32) (l3 : Int32) (s : S1) (ls : Array Slot) (hl : lv_has ls 8 [(0, .ref (q.1 0 0)), (2, .int l2), (3, .int l3)]) (h : M_Mo_proto_j410 rec l2 l3 s = some o) : WW X q s 410 ls [] := by
  unfold M_Mo_proto_j410 at h
  refine ww_aload_n (pc := 410) g.1 d_Mo_proto_410 rfl (lv_at hl 0 rfl) ?_
  refine ww_iconst (pc := 411) g.1 (v := 1) d_Mo_proto_411 (by decide) ?_
  obtain ⟨v412, s, hc412, h⟩ := oB_of h
  refine ww_callV (pc := 412) (rest := []) g cv_Mo_number (Or.inl kw_36) cl_Mo (pz rfl (by decide)) (ct_Mo_number hc412) ⟨by omega, by omega⟩ rfl hl.1 (Nat.le_of_ble_eq_true rfl) d_Mo_proto_412 rfl ?_
  refine ww_st (st' := [.long v412]) rfl ?_
  refine ww_l2i (pc := 415) g.1 (v := v412.toInt32) d_Mo_proto_415 rfl ?_
  refine ww_istore (pc := 416) (i := 5) g.1 (lv' := [(5, .int v412.toInt32), (0, .ref (q.1 0 0)), (2, .int l2), (3, .int l3)]) d_Mo_proto_416 hl (by decide) rfl fun ls hl => ?_
  refine ww_aload_n (pc := 418) g.1 d_Mo_proto_418 rfl (lv_at hl 1 rfl) ?_
  refine ww_gI (pc := 419) g (k := 3) cl_Mo (pz rfl (by decide)) (by decide) (Or.inl kw_24) (f := 3) rfl rfl d_Mo_proto_419 h fun v419 h => ?_
  refine ww_if_eq (pc := 422) (tgt := 426) g.1 d_Mo_proto_422 (by decide) h (fun c h => ?_) (fun c h => ?_)
  · refine ww_aload_n (pc := 426) g.1 d_Mo_proto_426 rfl (lv_at hl 1 rfl) ?_
    refine ww_gR (pc := 427) g (k := 16) cl_Mo (pz rfl (by decide)) (by decide) (Or.inl kw_317) (f := 16) (t := 52) rfl rfl rfl d_Mo_proto_427 ?_
    refine ww_iload_n (pc := 430) g.1 d_Mo_proto_430 rfl (lv_at hl 3 rfl) ?_
    refine ww_iload (pc := 431) g.1 d_Mo_proto_431 (lv_at hl 0 rfl) ?_
    refine ww_si (pc := 433) g (pz rfl (by decide)) rfl rfl d_Mo_proto_433 h fun s hs h => ?_
    refine ww_aload_n (pc := 434) g.1 d_Mo_proto_434 rfl (lv_at hl 1 rfl) ?_
    refine ww_gR (pc := 435) g (k := 15) cl_Mo (pz rfl (by decide)) (by decide) (Or.inl kw_497) (f := 15) (t := 51) rfl rfl rfl d_Mo_proto_435 ?_
    refine ww_iload_n (pc := 438) g.1 d_Mo_proto_438 rfl (lv_at hl 3 rfl) ?_
    refine ww_aload_n (pc := 439) g.1 d_Mo_proto_439 rfl (lv_at hl 1 rfl) ?_
    refine ww_gI (pc := 440) g (k := 27) cl_Mo (pz rfl (by decide)) (by decide) (Or.inl kw_613) (f := 27) rfl rfl d_Mo_proto_440 h fun v440 h => ?_
    refine ww_si (pc := 443) g (pz rfl (by decide)) rfl rfl d_Mo_proto_443 h fun s hs h => ?_
    refine ww_aload_n (pc := 444) g.1 d_Mo_proto_444 rfl (lv_at hl 1 rfl) ?_
    refine ww_dup (pc := 445) g.1 d_Mo_proto_445 rfl ?_
    refine ww_gI (pc := 446) g (k := 27) cl_Mo (pz rfl (by decide)) (by decide) (Or.inl kw_613) (f := 27) rfl rfl d_Mo_proto_446 h fun v446 h => ?_
    refine ww_iload (pc := 449) g.1 d_Mo_proto_449 (lv_at hl 0 rfl) ?_
    refine ww_iadd (pc := 451) g.1 d_Mo_proto_451 ?_
    refine ww_pI (pc := 452) g (k := 27) cl_Mo (pz rfl (by decide)) (by decide) (Or.inl kw_613) rfl (f := 27) rfl rfl rfl rfl d_Mo_proto_452 h fun s hs h => ?_
    refine ww_iconst (pc := 455) g.1 (v := 0) d_Mo_proto_455 (by decide) ?_
    refine ww_istore (pc := 456) (i := 6) g.1 (lv' := [(6, .int 0), (5, .int v412.toInt32), (0, .ref (q.1 0 0)), (2, .int l2), (3, .int l3)]) d_Mo_proto_456 hl (by decide) rfl fun ls hl => ?_
    obtain ⟨e458, s1, hw, h⟩ := oB_of h
    refine oW_rule (Wh := fun (x : Int32 × Int32 × Int32 × Int32) (s : S1) => ∀ ls : Array Slot, lv_has ls 8 [(0, .ref (q.1 0 0)), (2, .int x.1), (3, .int x.2.1), (5, .int x.2.2.1), (6, .int x.2.2.2)] → WW X q s 458 ls []) (We := fun (e : (Unit)) (s : S1) => ∀ ls : Array Slot, lv_has ls 8 [] → WW X q s 519 ls []) (fun x s o hb hc => lp_Mo_proto_L458 hrec (q := q) g x s o hb hc) hw ?_ ls (lv_sub hl [2, 3, 4, 1, 0] rfl)
    clear hw hl
    clear ls
    intro ls hl
    generalize s1 = s at h ⊢
    exact ww_vretH (pc := 519) g h hR d_Mo_proto_519
  · exact ww_vretH (pc := 425) g h hR d_Mo_proto_425

theorem j_Mo_proto_j283 {k : Nat} {rec : Int32 → Int32 → M (Unit)} (hrec : HR_Mo_proto k rec) {X : Cx} {q : PL} (g : Gd X y_Mo_proto b_Mo_proto 8 none (3 + (k + 1)) (73 + 27 * (k + 1)) R_Mo) {o : (Unit) × S1} (hR : Rt X q o.2 none) (l2 : Int32) (l3 : Int32) (l4 : Int32) (k0 : Int32) (s : S1) (ls : Array Slot) (hl : lv_has ls 8 [(0, .ref (q.1 0 0)), (2, .int l2), (3, .int l3), (4, .int l4)]) (h : M_Mo_proto_j283 rec l2 l3 l4 k0 s = some o) : WW X q s 283 ls [.int k0, .ref (q.1 0 0)] := by
  unfold M_Mo_proto_j283 at h
  obtain ⟨v283, s, hc283, h⟩ := oB_of h
  refine ww_callV (pc := 283) (rest := []) g cv_Mo_need (Or.inl kw_40) cl_Mo (pz rfl (by decide)) (ct_Mo_need hc283) ⟨by omega, by omega⟩ rfl hl.1 (Nat.le_of_ble_eq_true rfl) d_Mo_proto_283 rfl ?_
  refine ww_st (st' := []) rfl ?_
  refine ww_aload_n (pc := 286) g.1 d_Mo_proto_286 rfl (lv_at hl 0 rfl) ?_
  refine ww_gR (pc := 287) g (k := 13) cl_Mo (pz rfl (by decide)) (by decide) (Or.inl kw_59) (f := 13) (t := 49) rfl rfl rfl d_Mo_proto_287 ?_
  refine ww_iload_n (pc := 290) g.1 d_Mo_proto_290 rfl (lv_at hl 2 rfl) ?_
  refine ww_aload_n (pc := 291) g.1 d_Mo_proto_291 rfl (lv_at hl 0 rfl) ?_
  refine ww_gI (pc := 292) g (k := 26) cl_Mo (pz rfl (by decide)) (by decide) (Or.inl kw_308) (f := 26) rfl rfl d_Mo_proto_292 h fun v292 h => ?_
  refine ww_si (pc := 295) g (pz rfl (by decide)) rfl rfl d_Mo_proto_295 h fun s hs h => ?_
  refine ww_aload_n (pc := 296) g.1 d_Mo_proto_296 rfl (lv_at hl 0 rfl) ?_
  refine ww_gR (pc := 297) g (k := 14) cl_Mo (pz rfl (by decide)) (by decide) (Or.inl kw_56) (f := 14) (t := 50) rfl rfl rfl d_Mo_proto_297 ?_
  refine ww_iload_n (pc := 300) g.1 d_Mo_proto_300 rfl (lv_at hl 2 rfl) ?_
  refine ww_iload (pc := 301) g.1 d_Mo_proto_301 (lv_at hl 3 rfl) ?_
  refine ww_si (pc := 303) g (pz rfl (by decide)) rfl rfl d_Mo_proto_303 h fun s hs h => ?_
  refine ww_iconst (pc := 304) g.1 (v := 0) d_Mo_proto_304 (by decide) ?_
  refine ww_istore (pc := 305) (i := 5) g.1 (lv' := [(5, .int 0), (0, .ref (q.1 0 0)), (2, .int l2), (3, .int l3), (4, .int l4)]) d_Mo_proto_305 hl (by decide) rfl fun ls hl => ?_
  obtain ⟨e307, s1, hw, h⟩ := oB_of h
  refine oW_rule (Wh := fun (x : Int32 × Int32 × Int32 × Int32) (s : S1) => ∀ ls : Array Slot, lv_has ls 8 [(0, .ref (q.1 0 0)), (2, .int x.1), (3, .int x.2.1), (4, .int x.2.2.1), (5, .int x.2.2.2)] → WW X q s 307 ls []) (We := fun (e : (Int32 × Int32) ⊕ (Int32 × Int32)) (s : S1) => (Sum.elim (fun y : Int32 × Int32 => ∀ ls : Array Slot, lv_has ls 8 [(0, .ref (q.1 0 0)), (2, .int y.1), (3, .int y.2)] → WW X q s 372 ls []) (fun y : Int32 × Int32 => ∀ ls : Array Slot, lv_has ls 8 [(0, .ref (q.1 0 0)), (2, .int y.1), (3, .int y.2)] → WW X q s 410 ls [])) e) (fun x s o hb hc => lp_Mo_proto_L307 hrec (q := q) g x s o hb hc) hw ?_ ls (lv_sub hl [1, 2, 3, 4, 0] rfl)
  clear hw hl
  clear ls
  generalize s1 = s at h ⊢
  rcases e307 with y307_372 | y307_410
  · intro ls hl
    dsimp only [Sum.elim_inl, Sum.elim_inr] at h
    refine ww_goto (pc := 372) (tgt := 410) g.1 d_Mo_proto_372 (by decide) ?_
    exact j_Mo_proto_j410 hrec g hR y307_372.1 y307_372.2 s ls (lv_sub hl [0, 1, 2] rfl) h
  · intro ls hl
    dsimp only [Sum.elim_inl, Sum.elim_inr] at h
    exact j_Mo_proto_j410 hrec g hR y307_410.1 y307_410.2 s ls (lv_sub hl [0, 1, 2] rfl) h

theorem j_Mo_proto_j213 {k : Nat} {rec : Int32 → Int32 → M (Unit)} (hrec : HR_Mo_proto k rec) {X : Cx} {q : PL} (g : Gd X y_Mo_proto b_Mo_proto 8 none (3 + (k + 1)) (73 + 27 * (k + 1)) R_Mo) {o : (Unit) × S1} (hR : Rt X q o.2 none) (l1 : Int32) (l2 : Int32) (l3 : Int32) (k0 : Int32) (s : S1) (ls : Array Slot) (hl : lv_has ls 8 [(0, .ref (q.1 0 0)), (1, .int l1), (2, .int l2), (3, .int l3)]) (h : M_Mo_proto_j213 rec l1 l2 l3 k0 s = some o) : WW X q s 213 ls [.int k0, .ref (q.1 0 0)] := by
  unfold M_Mo_proto_j213 at h
  obtain ⟨v213, s, hc213, h⟩ := oB_of h
  refine ww_callV (pc := 213) (rest := []) g cv_Mo_need (Or.inl kw_40) cl_Mo (pz rfl (by decide)) (ct_Mo_need hc213) ⟨by omega, by omega⟩ rfl hl.1 (Nat.le_of_ble_eq_true rfl) d_Mo_proto_213 rfl ?_
  refine ww_st (st' := []) rfl ?_
  refine ww_aload_n (pc := 216) g.1 d_Mo_proto_216 rfl (lv_at hl 0 rfl) ?_
  refine ww_gI (pc := 217) g (k := 3) cl_Mo (pz rfl (by decide)) (by decide) (Or.inl kw_24) (f := 3) rfl rfl d_Mo_proto_217 h fun v217 h => ?_
  refine ww_if_eq (pc := 220) (tgt := 224) g.1 d_Mo_proto_220 (by decide) h (fun c h => ?_) (fun c h => ?_)
  · refine ww_aload_n (pc := 224) g.1 d_Mo_proto_224 rfl (lv_at hl 0 rfl) ?_
    refine ww_gR (pc := 225) g (k := 10) cl_Mo (pz rfl (by decide)) (by decide) (Or.inl kw_498) (f := 10) (t := 46) rfl rfl rfl d_Mo_proto_225 ?_
    refine ww_iload_n (pc := 228) g.1 d_Mo_proto_228 rfl (lv_at hl 3 rfl) ?_
    refine ww_aload_n (pc := 229) g.1 d_Mo_proto_229 rfl (lv_at hl 0 rfl) ?_
    refine ww_gI (pc := 230) g (k := 24) cl_Mo (pz rfl (by decide)) (by decide) (Or.inl kw_38) (f := 24) rfl rfl d_Mo_proto_230 h fun v230 h => ?_
    refine ww_si (pc := 233) g (pz rfl (by decide)) rfl rfl d_Mo_proto_233 h fun s hs h => ?_
    refine ww_iconst (pc := 234) g.1 (v := 0) d_Mo_proto_234 (by decide) ?_
    refine ww_istore (pc := 235) (i := 4) g.1 (lv' := [(4, .int 0), (0, .ref (q.1 0 0)), (1, .int l1), (2, .int l2), (3, .int l3)]) d_Mo_proto_235 hl (by decide) rfl fun ls hl => ?_
    obtain ⟨e237, s1, hw, h⟩ := oB_of h
    refine oW_rule (Wh := fun (x : Int32 × Int32 × Int32 × Int32) (s : S1) => ∀ ls : Array Slot, lv_has ls 8 [(0, .ref (q.1 0 0)), (1, .int x.1), (2, .int x.2.1), (3, .int x.2.2.1), (4, .int x.2.2.2)] → WW X q s 237 ls []) (We := fun (e : (Int32 × Int32)) (s : S1) => ∀ ls : Array Slot, lv_has ls 8 [(0, .ref (q.1 0 0)), (2, .int e.1), (3, .int e.2)] → WW X q s 259 ls []) (fun x s o hb hc => lp_Mo_proto_L237 hrec (q := q) g x s o hb hc) hw ?_ ls (lv_sub hl [1, 2, 3, 4, 0] rfl)
    clear hw hl
    clear ls
    intro ls hl
    generalize s1 = s at h ⊢
    refine ww_aload_n (pc := 259) g.1 d_Mo_proto_259 rfl (lv_at hl 0 rfl) ?_
    refine ww_iload_n (pc := 260) g.1 d_Mo_proto_260 rfl (lv_at hl 2 rfl) ?_
    obtain ⟨v261, s, hc261, h⟩ := oB_of h
    refine ww_callV (pc := 261) (rest := []) g cv_Mo_readConstants (Or.inl kw_612) cl_Mo (pz rfl (by decide)) (ct_Mo_readConstants hc261) ⟨by omega, by omega⟩ rfl hl.1 (Nat.le_of_ble_eq_true rfl) d_Mo_proto_261 rfl ?_
    refine ww_st (st' := []) rfl ?_
    refine ww_aload_n (pc := 264) g.1 d_Mo_proto_264 rfl (lv_at hl 0 rfl) ?_
    refine ww_iconst (pc := 265) g.1 (v := 2) d_Mo_proto_265 (by decide) ?_
    obtain ⟨v266, s, hc266, h⟩ := oB_of h
    refine ww_callV (pc := 266) (rest := []) g cv_Mo_number (Or.inl kw_36) cl_Mo (pz rfl (by decide)) (ct_Mo_number hc266) ⟨by omega, by omega⟩ rfl hl.1 (Nat.le_of_ble_eq_true rfl) d_Mo_proto_266 rfl ?_
    refine ww_st (st' := [.long v266]) rfl ?_
    refine ww_l2i (pc := 269) g.1 (v := v266.toInt32) d_Mo_proto_269 rfl ?_
    refine ww_istore (pc := 270) (i := 4) g.1 (lv' := [(4, .int v266.toInt32), (0, .ref (q.1 0 0)), (2, .int e237.1), (3, .int e237.2)]) d_Mo_proto_270 hl (by decide) rfl fun ls hl => ?_
    refine ww_aload_n (pc := 272) g.1 d_Mo_proto_272 rfl (lv_at hl 1 rfl) ?_
    refine ww_iload (pc := 273) g.1 d_Mo_proto_273 (lv_at hl 0 rfl) ?_
    refine ww_if_le (pc := 275) (tgt := 282) g.1 d_Mo_proto_275 (by decide) h (fun c h => ?_) (fun c h => ?_)
    · refine ww_iconst (pc := 282) g.1 (v := 0) d_Mo_proto_282 (by decide) ?_
      exact j_Mo_proto_j283 hrec g hR e237.1 e237.2 v266.toInt32 0 s ls (lv_sub hl [1, 2, 3, 0] rfl) h
    · refine ww_iconst (pc := 278) g.1 (v := 1) d_Mo_proto_278 (by decide) ?_
      refine ww_goto (pc := 279) (tgt := 283) g.1 d_Mo_proto_279 (by decide) ?_
      exact j_Mo_proto_j283 hrec g hR e237.1 e237.2 v266.toInt32 1 s ls (lv_sub hl [1, 2, 3, 0] rfl) h
  · exact ww_vretH (pc := 223) g h hR d_Mo_proto_223

theorem j_Mo_proto_j159 {k : Nat} {rec : Int32 → Int32 → M (Unit)} (hrec : HR_Mo_proto k rec) {X : Cx} {q : PL} (g : Gd X y_Mo_proto b_Mo_proto 8 none (3 + (k + 1)) (73 + 27 * (k + 1)) R_Mo) {o : (Unit) × S1} (hR : Rt X q o.2 none) (l1 : Int32) (l2 : Int32) (l3 : Int32) (k0 : Int32) (s : S1) (ls : Array Slot) (hl : lv_has ls 8 [(0, .ref (q.1 0 0)), (1, .int l1), (2, .int l2), (3, .int l3)]) (h : M_Mo_proto_j159 rec l1 l2 l3 k0 s = some o) : WW X q s 159 ls [.int k0, .ref (q.1 0 0)] := by
  unfold M_Mo_proto_j159 at h
  obtain ⟨v159, s, hc159, h⟩ := oB_of h
  refine ww_callV (pc := 159) (rest := []) g cv_Mo_need (Or.inl kw_40) cl_Mo (pz rfl (by decide)) (ct_Mo_need hc159) ⟨by omega, by omega⟩ rfl hl.1 (Nat.le_of_ble_eq_true rfl) d_Mo_proto_159 rfl ?_
  refine ww_st (st' := []) rfl ?_
  refine ww_aload_n (pc := 162) g.1 d_Mo_proto_162 rfl (lv_at hl 0 rfl) ?_
  refine ww_gR (pc := 163) g (k := 9) cl_Mo (pz rfl (by decide)) (by decide) (Or.inl kw_39) (f := 9) (t := 45) rfl rfl rfl d_Mo_proto_163 ?_
  refine ww_iload_n (pc := 166) g.1 d_Mo_proto_166 rfl (lv_at hl 3 rfl) ?_
  refine ww_aload_n (pc := 167) g.1 d_Mo_proto_167 rfl (lv_at hl 0 rfl) ?_
  refine ww_iconst (pc := 168) g.1 (v := 1) d_Mo_proto_168 (by decide) ?_
  obtain ⟨v169, s, hc169, h⟩ := oB_of h
  refine ww_callV (pc := 169) (rest := [.int l3, .ref (q.1 45 0)]) g cv_Mo_number (Or.inl kw_36) cl_Mo (pz rfl (by decide)) (ct_Mo_number hc169) ⟨by omega, by omega⟩ rfl hl.1 (Nat.le_of_ble_eq_true rfl) d_Mo_proto_169 rfl ?_
  refine ww_st (st' := [.long v169, .int l3, .ref (q.1 45 0)]) rfl ?_
  refine ww_l2i (pc := 172) g.1 (v := v169.toInt32) d_Mo_proto_172 rfl ?_
  refine ww_si (pc := 173) g (pz rfl (by decide)) rfl rfl d_Mo_proto_173 h fun s hs h => ?_
  refine ww_aload_n (pc := 174) g.1 d_Mo_proto_174 rfl (lv_at hl 0 rfl) ?_
  refine ww_iload_n (pc := 175) g.1 d_Mo_proto_175 rfl (lv_at hl 1 rfl) ?_
  refine ww_if_lt (pc := 176) (tgt := 198) g.1 d_Mo_proto_176 (by decide) h (fun c h => ?_) (fun c h => ?_)
  · refine ww_aload_n (pc := 198) g.1 d_Mo_proto_198 rfl (lv_at hl 0 rfl) ?_
    refine ww_gR (pc := 199) g (k := 9) cl_Mo (pz rfl (by decide)) (by decide) (Or.inl kw_39) (f := 9) (t := 45) rfl rfl rfl d_Mo_proto_199 ?_
    refine ww_iload_n (pc := 202) g.1 d_Mo_proto_202 rfl (lv_at hl 3 rfl) ?_
    refine ww_ai (pc := 203) g (pz rfl (by decide)) rfl rfl d_Mo_proto_203 h fun v203 h => ?_
    refine ww_iconst (pc := 204) g.1 (v := 1) d_Mo_proto_204 (by decide) ?_
    refine ww_icmp_ne (pc := 205) (tgt := 212) g.1 d_Mo_proto_205 (by decide) h (fun c h => ?_) (fun c h => ?_)
    · refine ww_iconst (pc := 212) g.1 (v := 0) d_Mo_proto_212 (by decide) ?_
      exact j_Mo_proto_j213 hrec g hR l1 l2 l3 0 s ls (lv_sub hl [0, 1, 2, 3] rfl) h
    · refine ww_iconst (pc := 208) g.1 (v := 1) d_Mo_proto_208 (by decide) ?_
      refine ww_goto (pc := 209) (tgt := 213) g.1 d_Mo_proto_209 (by decide) ?_
      exact j_Mo_proto_j213 hrec g hR l1 l2 l3 1 s ls (lv_sub hl [0, 1, 2, 3] rfl) h
  · refine ww_aload_n (pc := 179) g.1 d_Mo_proto_179 rfl (lv_at hl 0 rfl) ?_
    refine ww_gR (pc := 180) g (k := 9) cl_Mo (pz rfl (by decide)) (by decide) (Or.inl kw_39) (f := 9) (t := 45) rfl rfl rfl d_Mo_proto_180 ?_
    refine ww_iload_n (pc := 183) g.1 d_Mo_proto_183 rfl (lv_at hl 3 rfl) ?_
    refine ww_ai (pc := 184) g (pz rfl (by decide)) rfl rfl d_Mo_proto_184 h fun v184 h => ?_
    refine ww_bipush (pc := 185) g.1 (v := 60) d_Mo_proto_185 (by decide) ?_
    refine ww_icmp_gt (pc := 187) (tgt := 194) g.1 d_Mo_proto_187 (by decide) h (fun c h => ?_) (fun c h => ?_)
    · refine ww_iconst (pc := 194) g.1 (v := 0) d_Mo_proto_194 (by decide) ?_
      refine ww_goto (pc := 195) (tgt := 213) g.1 d_Mo_proto_195 (by decide) ?_
      exact j_Mo_proto_j213 hrec g hR l1 l2 l3 0 s ls (lv_sub hl [0, 1, 2, 3] rfl) h
    · refine ww_iconst (pc := 190) g.1 (v := 1) d_Mo_proto_190 (by decide) ?_
      refine ww_goto (pc := 191) (tgt := 213) g.1 d_Mo_proto_191 (by decide) ?_
      exact j_Mo_proto_j213 hrec g hR l1 l2 l3 1 s ls (lv_sub hl [0, 1, 2, 3] rfl) h

theorem j_Mo_proto_j158 {k : Nat} {rec : Int32 → Int32 → M (Unit)} (hrec : HR_Mo_proto k rec) {X : Cx} {q : PL} (g : Gd X y_Mo_proto b_Mo_proto 8 none (3 + (k + 1)) (73 + 27 * (k + 1)) R_Mo) {o : (Unit) × S1} (hR : Rt X q o.2 none) (l1 : Int32) (l2 : Int32) (l3 : Int32) (s : S1) (ls : Array Slot) (hl : lv_has ls 8 [(0, .ref (q.1 0 0)), (1, .int l1), (2, .int l2), (3, .int l3)]) (h : M_Mo_proto_j158 rec l1 l2 l3 s = some o) : WW X q s 158 ls [.ref (q.1 0 0)] := by
  unfold M_Mo_proto_j158 at h
  refine ww_iconst (pc := 158) g.1 (v := 0) d_Mo_proto_158 (by decide) ?_
  exact j_Mo_proto_j159 hrec g hR l1 l2 l3 0 s ls (lv_sub hl [0, 1, 2, 3] rfl) h

theorem j_Mo_proto_j101 {k : Nat} {rec : Int32 → Int32 → M (Unit)} (hrec : HR_Mo_proto k rec) {X : Cx} {q : PL} (g : Gd X y_Mo_proto b_Mo_proto 8 none (3 + (k + 1)) (73 + 27 * (k + 1)) R_Mo) {o : (Unit) × S1} (hR : Rt X q o.2 none) (l1 : Int32) (l2 : Int32) (l3 : Int32) (k0 : Int32) (s : S1) (ls : Array Slot) (hl : lv_has ls 8 [(0, .ref (q.1 0 0)), (1, .int l1), (2, .int l2), (3, .int l3)]) (h : M_Mo_proto_j101 rec l1 l2 l3 k0 s = some o) : WW X q s 101 ls [.int k0, .ref (q.1 0 0)] := by
  unfold M_Mo_proto_j101 at h
  obtain ⟨v101, s, hc101, h⟩ := oB_of h
  refine ww_callV (pc := 101) (rest := []) g cv_Mo_need (Or.inl kw_40) cl_Mo (pz rfl (by decide)) (ct_Mo_need hc101) ⟨by omega, by omega⟩ rfl hl.1 (Nat.le_of_ble_eq_true rfl) d_Mo_proto_101 rfl ?_
  refine ww_st (st' := []) rfl ?_
  refine ww_aload_n (pc := 104) g.1 d_Mo_proto_104 rfl (lv_at hl 0 rfl) ?_
  refine ww_gR (pc := 105) g (k := 8) cl_Mo (pz rfl (by decide)) (by decide) (Or.inl kw_41) (f := 8) (t := 44) rfl rfl rfl d_Mo_proto_105 ?_
  refine ww_iload_n (pc := 108) g.1 d_Mo_proto_108 rfl (lv_at hl 3 rfl) ?_
  refine ww_aload_n (pc := 109) g.1 d_Mo_proto_109 rfl (lv_at hl 0 rfl) ?_
  refine ww_iconst (pc := 110) g.1 (v := 1) d_Mo_proto_110 (by decide) ?_
  obtain ⟨v111, s, hc111, h⟩ := oB_of h
  refine ww_callV (pc := 111) (rest := [.int l3, .ref (q.1 44 0)]) g cv_Mo_number (Or.inl kw_36) cl_Mo (pz rfl (by decide)) (ct_Mo_number hc111) ⟨by omega, by omega⟩ rfl hl.1 (Nat.le_of_ble_eq_true rfl) d_Mo_proto_111 rfl ?_
  refine ww_st (st' := [.long v111, .int l3, .ref (q.1 44 0)]) rfl ?_
  refine ww_l2i (pc := 114) g.1 (v := v111.toInt32) d_Mo_proto_114 rfl ?_
  refine ww_si (pc := 115) g (pz rfl (by decide)) rfl rfl d_Mo_proto_115 h fun s hs h => ?_
  refine ww_aload_n (pc := 116) g.1 d_Mo_proto_116 rfl (lv_at hl 0 rfl) ?_
  refine ww_aload_n (pc := 117) g.1 d_Mo_proto_117 rfl (lv_at hl 0 rfl) ?_
  refine ww_gR (pc := 118) g (k := 8) cl_Mo (pz rfl (by decide)) (by decide) (Or.inl kw_41) (f := 8) (t := 44) rfl rfl rfl d_Mo_proto_118 ?_
  refine ww_iload_n (pc := 121) g.1 d_Mo_proto_121 rfl (lv_at hl 3 rfl) ?_
  refine ww_ai (pc := 122) g (pz rfl (by decide)) rfl rfl d_Mo_proto_122 h fun v122 h => ?_
  refine ww_iconst (pc := 123) g.1 (v := 1) d_Mo_proto_123 (by decide) ?_
  refine ww_icmp_le (pc := 124) (tgt := 158) g.1 d_Mo_proto_124 (by decide) h (fun c h => ?_) (fun c h => ?_)
  · exact j_Mo_proto_j158 hrec g hR l1 l2 l3 s ls (lv_sub hl [0, 1, 2, 3] rfl) h
  · refine ww_aload_n (pc := 127) g.1 d_Mo_proto_127 rfl (lv_at hl 0 rfl) ?_
    refine ww_gR (pc := 128) g (k := 8) cl_Mo (pz rfl (by decide)) (by decide) (Or.inl kw_41) (f := 8) (t := 44) rfl rfl rfl d_Mo_proto_128 ?_
    refine ww_iload_n (pc := 131) g.1 d_Mo_proto_131 rfl (lv_at hl 3 rfl) ?_
    refine ww_ai (pc := 132) g (pz rfl (by decide)) rfl rfl d_Mo_proto_132 h fun v132 h => ?_
    refine ww_sipush (pc := 133) g.1 (v := 251) d_Mo_proto_133 (by decide) ?_
    refine ww_icmp_ge (pc := 136) (tgt := 158) g.1 d_Mo_proto_136 (by decide) h (fun c h => ?_) (fun c h => ?_)
    · exact j_Mo_proto_j158 hrec g hR l1 l2 l3 s ls (lv_sub hl [0, 1, 2, 3] rfl) h
    · refine ww_aload_n (pc := 139) g.1 d_Mo_proto_139 rfl (lv_at hl 0 rfl) ?_
      refine ww_gR (pc := 140) g (k := 8) cl_Mo (pz rfl (by decide)) (by decide) (Or.inl kw_41) (f := 8) (t := 44) rfl rfl rfl d_Mo_proto_140 ?_
      refine ww_iload_n (pc := 143) g.1 d_Mo_proto_143 rfl (lv_at hl 3 rfl) ?_
      refine ww_ai (pc := 144) g (pz rfl (by decide)) rfl rfl d_Mo_proto_144 h fun v144 h => ?_
      refine ww_aload_n (pc := 145) g.1 d_Mo_proto_145 rfl (lv_at hl 0 rfl) ?_
      refine ww_gR (pc := 146) g (k := 6) cl_Mo (pz rfl (by decide)) (by decide) (Or.inl kw_401) (f := 6) (t := 42) rfl rfl rfl d_Mo_proto_146 ?_
      refine ww_iload_n (pc := 149) g.1 d_Mo_proto_149 rfl (lv_at hl 3 rfl) ?_
      refine ww_ai (pc := 150) g (pz rfl (by decide)) rfl rfl d_Mo_proto_150 h fun v150 h => ?_
      refine ww_icmp_lt (pc := 151) (tgt := 158) g.1 d_Mo_proto_151 (by decide) h (fun c h => ?_) (fun c h => ?_)
      · exact j_Mo_proto_j158 hrec g hR l1 l2 l3 s ls (lv_sub hl [0, 1, 2, 3] rfl) h
      · refine ww_iconst (pc := 154) g.1 (v := 1) d_Mo_proto_154 (by decide) ?_
        refine ww_goto (pc := 155) (tgt := 159) g.1 d_Mo_proto_155 (by decide) ?_
        exact j_Mo_proto_j159 hrec g hR l1 l2 l3 1 s ls (lv_sub hl [0, 1, 2, 3] rfl) h

theorem j_Mo_proto_j100 {k : Nat} {rec : Int32 → Int32 → M (Unit)} (hrec : HR_Mo_proto k rec) {X : Cx} {q : PL} (g : Gd X y_Mo_proto b_Mo_proto 8 none (3 + (k + 1)) (73 + 27 * (k + 1)) R_Mo) {o : (Unit) × S1} (hR : Rt X q o.2 none) (l1 : Int32) (l2 : Int32) (l3 : Int32) (s : S1) (ls : Array Slot) (hl : lv_has ls 8 [(0, .ref (q.1 0 0)), (1, .int l1), (2, .int l2), (3, .int l3)]) (h : M_Mo_proto_j100 rec l1 l2 l3 s = some o) : WW X q s 100 ls [.ref (q.1 0 0)] := by
  unfold M_Mo_proto_j100 at h
  refine ww_iconst (pc := 100) g.1 (v := 0) d_Mo_proto_100 (by decide) ?_
  exact j_Mo_proto_j101 hrec g hR l1 l2 l3 0 s ls (lv_sub hl [0, 1, 2, 3] rfl) h

theorem j_Mo_proto_j96 {k : Nat} {rec : Int32 → Int32 → M (Unit)} (hrec : HR_Mo_proto k rec) {X : Cx} {q : PL} (g : Gd X y_Mo_proto b_Mo_proto 8 none (3 + (k + 1)) (73 + 27 * (k + 1)) R_Mo) {o : (Unit) × S1} (hR : Rt X q o.2 none) (l1 : Int32) (l2 : Int32) (l3 : Int32) (s : S1) (ls : Array Slot) (hl : lv_has ls 8 [(0, .ref (q.1 0 0)), (1, .int l1), (2, .int l2), (3, .int l3)]) (h : M_Mo_proto_j96 rec l1 l2 l3 s = some o) : WW X q s 96 ls [.ref (q.1 0 0)] := by
  unfold M_Mo_proto_j96 at h
  refine ww_iconst (pc := 96) g.1 (v := 1) d_Mo_proto_96 (by decide) ?_
  refine ww_goto (pc := 97) (tgt := 101) g.1 d_Mo_proto_97 (by decide) ?_
  exact j_Mo_proto_j101 hrec g hR l1 l2 l3 1 s ls (lv_sub hl [0, 1, 2, 3] rfl) h

theorem ct_Mo_proto_body {k : Nat} {rec : Int32 → Int32 → M (Unit)} (hrec : HR_Mo_proto k rec) {l : Launch} {P : PP} {q : PL} {s s' : S1} {l1 : Int32} {l2 : Int32} {r : Unit} (h : M_Mo_proto_body rec l1 l2 s = some (r, s')) : Ct l y_Mo_proto b_Mo_proto 8 none (3 + (k + 1)) (73 + 27 * (k + 1)) P q s [.ref (q.1 0 0), .int l1, .int l2] none q s' := by
  refine ct_of (by decide) (Nat.le_of_ble_eq_true rfl) fun X ls eP el g hR hl => ?_
  subst eP
  have hR : Rt X q ((r, s') : Unit × S1).2 none := hR
  have hl : lv_has ls 8 [(0, .ref (q.1 0 0)), (1, .int l1), (2, .int l2)] := hl
  generalize (r, s') = o at h hR
  unfold M_Mo_proto_body at h
  refine ww_aload_n (pc := 0) g.1 d_Mo_proto_0 rfl (lv_at hl 0 rfl) ?_
  refine ww_gI (pc := 1) g (k := 3) cl_Mo (pz rfl (by decide)) (by decide) (Or.inl kw_24) (f := 3) rfl rfl d_Mo_proto_1 h fun v1 h => ?_
  refine ww_if_eq (pc := 4) (tgt := 8) g.1 d_Mo_proto_4 (by decide) h (fun c h => ?_) (fun c h => ?_)
  · refine ww_aload_n (pc := 8) g.1 d_Mo_proto_8 rfl (lv_at hl 0 rfl) ?_
    refine ww_gI (pc := 9) g (k := 23) cl_Mo (pz rfl (by decide)) (by decide) (Or.inl kw_434) (f := 23) rfl rfl d_Mo_proto_9 h fun v9 h => ?_
    refine ww_sipush (pc := 12) g.1 (v := 250) d_Mo_proto_12 (by decide) ?_
    refine ww_icmp_eq (pc := 15) (tgt := 24) g.1 d_Mo_proto_15 (by decide) h (fun c h => ?_) (fun c h => ?_)
    · exact j_Mo_proto_j24 hrec g hR s ls (lv_sub hl [0] rfl) h
    · refine ww_iload_n (pc := 18) g.1 d_Mo_proto_18 rfl (lv_at hl 2 rfl) ?_
      refine ww_bipush (pc := 19) g.1 (v := 20) d_Mo_proto_19 (by decide) ?_
      refine ww_icmp_le (pc := 21) (tgt := 35) g.1 d_Mo_proto_21 (by decide) h (fun c h => ?_) (fun c h => ?_)
      · refine ww_aload_n (pc := 35) g.1 d_Mo_proto_35 rfl (lv_at hl 0 rfl) ?_
        refine ww_dup (pc := 36) g.1 d_Mo_proto_36 rfl ?_
        refine ww_gI (pc := 37) g (k := 23) cl_Mo (pz rfl (by decide)) (by decide) (Or.inl kw_434) (f := 23) rfl rfl d_Mo_proto_37 h fun v37 h => ?_
        refine ww_dup_x1 (pc := 40) g.1 d_Mo_proto_40 rfl rfl ?_
        refine ww_iconst (pc := 41) g.1 (v := 1) d_Mo_proto_41 (by decide) ?_
        refine ww_iadd (pc := 42) g.1 d_Mo_proto_42 ?_
        refine ww_pI (pc := 43) g (k := 23) cl_Mo (pz rfl (by decide)) (by decide) (Or.inl kw_434) rfl (f := 23) rfl rfl rfl rfl d_Mo_proto_43 h fun s hs h => ?_
        refine ww_istore_n (pc := 46) (i := 3) g.1 (lv' := [(3, .int v37), (0, .ref (q.1 0 0)), (1, .int l1), (2, .int l2)]) d_Mo_proto_46 rfl hl (by decide) rfl fun ls hl => ?_
        refine ww_aload_n (pc := 47) g.1 d_Mo_proto_47 rfl (lv_at hl 1 rfl) ?_
        refine ww_gR (pc := 48) g (k := 6) cl_Mo (pz rfl (by decide)) (by decide) (Or.inl kw_401) (f := 6) (t := 42) rfl rfl rfl d_Mo_proto_48 ?_
        refine ww_iload_n (pc := 51) g.1 d_Mo_proto_51 rfl (lv_at hl 0 rfl) ?_
        refine ww_aload_n (pc := 52) g.1 d_Mo_proto_52 rfl (lv_at hl 1 rfl) ?_
        refine ww_iconst (pc := 53) g.1 (v := 1) d_Mo_proto_53 (by decide) ?_
        obtain ⟨v54, s, hc54, h⟩ := oB_of h
        refine ww_callV (pc := 54) (rest := [.int v37, .ref (q.1 42 0)]) g cv_Mo_number (Or.inl kw_36) cl_Mo (pz rfl (by decide)) (ct_Mo_number hc54) ⟨by omega, by omega⟩ rfl hl.1 (Nat.le_of_ble_eq_true rfl) d_Mo_proto_54 rfl ?_
        refine ww_st (st' := [.long v54, .int v37, .ref (q.1 42 0)]) rfl ?_
        refine ww_l2i (pc := 57) g.1 (v := v54.toInt32) d_Mo_proto_57 rfl ?_
        refine ww_si (pc := 58) g (pz rfl (by decide)) rfl rfl d_Mo_proto_58 h fun s hs h => ?_
        refine ww_aload_n (pc := 59) g.1 d_Mo_proto_59 rfl (lv_at hl 1 rfl) ?_
        refine ww_gR (pc := 60) g (k := 7) cl_Mo (pz rfl (by decide)) (by decide) (Or.inl kw_403) (f := 7) (t := 43) rfl rfl rfl d_Mo_proto_60 ?_
        refine ww_iload_n (pc := 63) g.1 d_Mo_proto_63 rfl (lv_at hl 0 rfl) ?_
        refine ww_aload_n (pc := 64) g.1 d_Mo_proto_64 rfl (lv_at hl 1 rfl) ?_
        refine ww_iconst (pc := 65) g.1 (v := 1) d_Mo_proto_65 (by decide) ?_
        obtain ⟨v66, s, hc66, h⟩ := oB_of h
        refine ww_callV (pc := 66) (rest := [.int v37, .ref (q.1 43 0)]) g cv_Mo_number (Or.inl kw_36) cl_Mo (pz rfl (by decide)) (ct_Mo_number hc66) ⟨by omega, by omega⟩ rfl hl.1 (Nat.le_of_ble_eq_true rfl) d_Mo_proto_66 rfl ?_
        refine ww_st (st' := [.long v66, .int v37, .ref (q.1 43 0)]) rfl ?_
        refine ww_l2i (pc := 69) g.1 (v := v66.toInt32) d_Mo_proto_69 rfl ?_
        refine ww_si (pc := 70) g (pz rfl (by decide)) rfl rfl d_Mo_proto_70 h fun s hs h => ?_
        refine ww_aload_n (pc := 71) g.1 d_Mo_proto_71 rfl (lv_at hl 1 rfl) ?_
        refine ww_aload_n (pc := 72) g.1 d_Mo_proto_72 rfl (lv_at hl 1 rfl) ?_
        refine ww_gR (pc := 73) g (k := 7) cl_Mo (pz rfl (by decide)) (by decide) (Or.inl kw_403) (f := 7) (t := 43) rfl rfl rfl d_Mo_proto_73 ?_
        refine ww_iload_n (pc := 76) g.1 d_Mo_proto_76 rfl (lv_at hl 0 rfl) ?_
        refine ww_ai (pc := 77) g (pz rfl (by decide)) rfl rfl d_Mo_proto_77 h fun v77 h => ?_
        refine ww_iconst (pc := 78) g.1 (v := 2) d_Mo_proto_78 (by decide) ?_
        refine ww_icmp_ge (pc := 79) (tgt := 100) g.1 d_Mo_proto_79 (by decide) h (fun c h => ?_) (fun c h => ?_)
        · exact j_Mo_proto_j100 hrec g hR l1 l2 v37 s ls (lv_sub hl [1, 2, 3, 0] rfl) h
        · refine ww_iload_n (pc := 82) g.1 d_Mo_proto_82 rfl (lv_at hl 2 rfl) ?_
          refine ww_if_ge (pc := 83) (tgt := 96) g.1 d_Mo_proto_83 (by decide) h (fun c h => ?_) (fun c h => ?_)
          · exact j_Mo_proto_j96 hrec g hR l1 l2 v37 s ls (lv_sub hl [1, 2, 3, 0] rfl) h
          · refine ww_aload_n (pc := 86) g.1 d_Mo_proto_86 rfl (lv_at hl 1 rfl) ?_
            refine ww_gR (pc := 87) g (k := 7) cl_Mo (pz rfl (by decide)) (by decide) (Or.inl kw_403) (f := 7) (t := 43) rfl rfl rfl d_Mo_proto_87 ?_
            refine ww_iload_n (pc := 90) g.1 d_Mo_proto_90 rfl (lv_at hl 0 rfl) ?_
            refine ww_ai (pc := 91) g (pz rfl (by decide)) rfl rfl d_Mo_proto_91 h fun v91 h => ?_
            refine ww_iconst (pc := 92) g.1 (v := 1) d_Mo_proto_92 (by decide) ?_
            refine ww_icmp_ne (pc := 93) (tgt := 100) g.1 d_Mo_proto_93 (by decide) h (fun c h => ?_) (fun c h => ?_)
            · exact j_Mo_proto_j100 hrec g hR l1 l2 v37 s ls (lv_sub hl [1, 2, 3, 0] rfl) h
            · exact j_Mo_proto_j96 hrec g hR l1 l2 v37 s ls (lv_sub hl [1, 2, 3, 0] rfl) h
      · exact j_Mo_proto_j24 hrec g hR s ls (lv_sub hl [0] rfl) h
  · exact ww_vretH (pc := 7) g h hR d_Mo_proto_7

theorem ct_Mo_proto : ∀ k, HR_Mo_proto k (M_Mo_proto k)
  | 0 => fun h => by cases (show (none : Option (Unit × S1)) = some _ from h)
  | k + 1 => fun h => ct_Mo_proto_body (ct_Mo_proto k) h


