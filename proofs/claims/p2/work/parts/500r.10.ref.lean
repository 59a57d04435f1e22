abbrev b_Mo_readConstants : ByteArray := prog_14_method_11_code
def y_Mo_readConstants : MethodName := ⟨R_Mo, "readConstants", "(I)V"⟩
abbrev w_Mo_readConstants : List Cond := .code y_Mo_readConstants b_Mo_readConstants 8 none :: wA
set_option maxRecDepth 20000 in
theorem k_Mo_readConstants : Cond.code y_Mo_readConstants b_Mo_readConstants 8 none ∈ wA := kinm (show _ ∈ tables_1 from (List.mem_append_right _ (List.mem_append_right _ (List.mem_append_right _ (List.mem_append_right _ (List.mem_append_right _ (List.mem_append_right _ (List.mem_append_right _ (List.mem_append_right _ (List.mem_append_right _ (List.mem_append_right _ (List.mem_append_left _ (List.mem_of_getElem? (l := tables_1_11) (i := 161) rfl))))))))))))) rfl
theorem d_Mo_readConstants_0 : decode b_Mo_readConstants 0 = .ok (.aload_n 0, 1) := by decide +kernel
theorem d_Mo_readConstants_1 : decode b_Mo_readConstants 1 = .ok (.iconst 2, 1) := by decide +kernel
theorem d_Mo_readConstants_2 : decode b_Mo_readConstants 2 = .ok (.invokevirtual 453, 3) := by decide +kernel
theorem d_Mo_readConstants_5 : decode b_Mo_readConstants 5 = .ok (.l2i, 1) := by decide +kernel
theorem d_Mo_readConstants_6 : decode b_Mo_readConstants 6 = .ok (.istore_n 2, 1) := by decide +kernel
theorem d_Mo_readConstants_7 : decode b_Mo_readConstants 7 = .ok (.aload_n 0, 1) := by decide +kernel
theorem d_Mo_readConstants_8 : decode b_Mo_readConstants 8 = .ok (.getfield 47, 3) := by decide +kernel
theorem d_Mo_readConstants_11 : decode b_Mo_readConstants 11 = .ok (.iload_n 1, 1) := by decide +kernel
theorem d_Mo_readConstants_12 : decode b_Mo_readConstants 12 = .ok (.aload_n 0, 1) := by decide +kernel
theorem d_Mo_readConstants_13 : decode b_Mo_readConstants 13 = .ok (.getfield 95, 3) := by decide +kernel
theorem d_Mo_readConstants_16 : decode b_Mo_readConstants 16 = .ok (.iastore, 1) := by decide +kernel
theorem d_Mo_readConstants_17 : decode b_Mo_readConstants 17 = .ok (.aload_n 0, 1) := by decide +kernel
theorem d_Mo_readConstants_18 : decode b_Mo_readConstants 18 = .ok (.getfield 50, 3) := by decide +kernel
theorem d_Mo_readConstants_21 : decode b_Mo_readConstants 21 = .ok (.iload_n 1, 1) := by decide +kernel
theorem d_Mo_readConstants_22 : decode b_Mo_readConstants 22 = .ok (.iload_n 2, 1) := by decide +kernel
theorem d_Mo_readConstants_23 : decode b_Mo_readConstants 23 = .ok (.iastore, 1) := by decide +kernel
theorem d_Mo_readConstants_24 : decode b_Mo_readConstants 24 = .ok (.iconst 0, 1) := by decide +kernel
theorem d_Mo_readConstants_25 : decode b_Mo_readConstants 25 = .ok (.istore_n 3, 1) := by decide +kernel
theorem d_Mo_readConstants_26 : decode b_Mo_readConstants 26 = .ok (.iload_n 3, 1) := by decide +kernel
theorem d_Mo_readConstants_27 : decode b_Mo_readConstants 27 = .ok (.iload_n 2, 1) := by decide +kernel
theorem d_Mo_readConstants_28 : decode b_Mo_readConstants 28 = .ok (.if_icmp .ge 191, 3) := by decide +kernel
theorem d_Mo_readConstants_31 : decode b_Mo_readConstants 31 = .ok (.aload_n 0, 1) := by decide +kernel
theorem d_Mo_readConstants_32 : decode b_Mo_readConstants 32 = .ok (.getfield 21, 3) := by decide +kernel
theorem d_Mo_readConstants_35 : decode b_Mo_readConstants 35 = .ok (.ifCond .ne 184, 3) := by decide +kernel
theorem d_Mo_readConstants_38 : decode b_Mo_readConstants 38 = .ok (.aload_n 0, 1) := by decide +kernel
theorem d_Mo_readConstants_39 : decode b_Mo_readConstants 39 = .ok (.iconst 1, 1) := by decide +kernel
theorem d_Mo_readConstants_40 : decode b_Mo_readConstants 40 = .ok (.invokevirtual 453, 3) := by decide +kernel
theorem d_Mo_readConstants_43 : decode b_Mo_readConstants 43 = .ok (.l2i, 1) := by decide +kernel
theorem d_Mo_readConstants_44 : decode b_Mo_readConstants 44 = .ok (.istore 4, 2) := by decide +kernel
theorem d_Mo_readConstants_46 : decode b_Mo_readConstants 46 = .ok (.aload_n 0, 1) := by decide +kernel
theorem d_Mo_readConstants_47 : decode b_Mo_readConstants 47 = .ok (.getfield 21, 3) := by decide +kernel
theorem d_Mo_readConstants_50 : decode b_Mo_readConstants 50 = .ok (.ifCond .ne 28, 3) := by decide +kernel
theorem d_Mo_readConstants_53 : decode b_Mo_readConstants 53 = .ok (.aload_n 0, 1) := by decide +kernel
theorem d_Mo_readConstants_54 : decode b_Mo_readConstants 54 = .ok (.getfield 95, 3) := by decide +kernel
theorem d_Mo_readConstants_57 : decode b_Mo_readConstants 57 = .ok (.aload_n 0, 1) := by decide +kernel
theorem d_Mo_readConstants_58 : decode b_Mo_readConstants 58 = .ok (.getfield 98, 3) := by decide +kernel
theorem d_Mo_readConstants_61 : decode b_Mo_readConstants 61 = .ok (.iadd, 1) := by decide +kernel
theorem d_Mo_readConstants_62 : decode b_Mo_readConstants 62 = .ok (.sipush 20000, 3) := by decide +kernel
theorem d_Mo_readConstants_65 : decode b_Mo_readConstants 65 = .ok (.if_icmp .ne 13, 3) := by decide +kernel
theorem d_Mo_readConstants_68 : decode b_Mo_readConstants 68 = .ok (.aload_n 0, 1) := by decide +kernel
theorem d_Mo_readConstants_69 : decode b_Mo_readConstants 69 = .ok (.iconst 4, 1) := by decide +kernel
theorem d_Mo_readConstants_70 : decode b_Mo_readConstants 70 = .ok (.aload_n 0, 1) := by decide +kernel
theorem d_Mo_readConstants_71 : decode b_Mo_readConstants 71 = .ok (.getfield 107, 3) := by decide +kernel
theorem d_Mo_readConstants_74 : decode b_Mo_readConstants 74 = .ok (.invokevirtual 449, 3) := by decide +kernel
theorem d_Mo_readConstants_77 : decode b_Mo_readConstants 77 = .ok (.pop, 1) := by decide +kernel
theorem d_Mo_readConstants_78 : decode b_Mo_readConstants 78 = .ok (.aload_n 0, 1) := by decide +kernel
theorem d_Mo_readConstants_79 : decode b_Mo_readConstants 79 = .ok (.iload 4, 2) := by decide +kernel
theorem d_Mo_readConstants_81 : decode b_Mo_readConstants 81 = .ok (.iconst 5, 1) := by decide +kernel
theorem d_Mo_readConstants_82 : decode b_Mo_readConstants 82 = .ok (.if_icmp .ge 7, 3) := by decide +kernel
theorem d_Mo_readConstants_85 : decode b_Mo_readConstants 85 = .ok (.iconst 1, 1) := by decide +kernel
theorem d_Mo_readConstants_86 : decode b_Mo_readConstants 86 = .ok (.goto 4, 3) := by decide +kernel
theorem d_Mo_readConstants_89 : decode b_Mo_readConstants 89 = .ok (.iconst 0, 1) := by decide +kernel
theorem d_Mo_readConstants_90 : decode b_Mo_readConstants 90 = .ok (.invokevirtual 456, 3) := by decide +kernel
theorem d_Mo_readConstants_93 : decode b_Mo_readConstants 93 = .ok (.lconst 0, 1) := by decide +kernel
theorem d_Mo_readConstants_94 : decode b_Mo_readConstants 94 = .ok (.lstore 5, 2) := by decide +kernel
theorem d_Mo_readConstants_96 : decode b_Mo_readConstants 96 = .ok (.iload 4, 2) := by decide +kernel
theorem d_Mo_readConstants_98 : decode b_Mo_readConstants 98 = .ok (.iconst 3, 1) := by decide +kernel
theorem d_Mo_readConstants_99 : decode b_Mo_readConstants 99 = .ok (.if_icmp .ne 11, 3) := by decide +kernel
theorem d_Mo_readConstants_102 : decode b_Mo_readConstants 102 = .ok (.aload_n 0, 1) := by decide +kernel
theorem d_Mo_readConstants_103 : decode b_Mo_readConstants 103 = .ok (.bipush 8, 2) := by decide +kernel
theorem d_Mo_readConstants_105 : decode b_Mo_readConstants 105 = .ok (.invokevirtual 453, 3) := by decide +kernel
theorem d_Mo_readConstants_108 : decode b_Mo_readConstants 108 = .ok (.lstore 5, 2) := by decide +kernel
theorem d_Mo_readConstants_110 : decode b_Mo_readConstants 110 = .ok (.iload 4, 2) := by decide +kernel
theorem d_Mo_readConstants_112 : decode b_Mo_readConstants 112 = .ok (.iconst 4, 1) := by decide +kernel
theorem d_Mo_readConstants_113 : decode b_Mo_readConstants 113 = .ok (.if_icmp .ne 71, 3) := by decide +kernel
theorem d_Mo_readConstants_116 : decode b_Mo_readConstants 116 = .ok (.aload_n 0, 1) := by decide +kernel
theorem d_Mo_readConstants_117 : decode b_Mo_readConstants 117 = .ok (.iconst 2, 1) := by decide +kernel
theorem d_Mo_readConstants_118 : decode b_Mo_readConstants 118 = .ok (.invokevirtual 453, 3) := by decide +kernel
theorem d_Mo_readConstants_121 : decode b_Mo_readConstants 121 = .ok (.l2i, 1) := by decide +kernel
theorem d_Mo_readConstants_122 : decode b_Mo_readConstants 122 = .ok (.istore 7, 2) := by decide +kernel
theorem d_Mo_readConstants_124 : decode b_Mo_readConstants 124 = .ok (.aload_n 0, 1) := by decide +kernel
theorem d_Mo_readConstants_125 : decode b_Mo_readConstants 125 = .ok (.getfield 86, 3) := by decide +kernel
theorem d_Mo_readConstants_128 : decode b_Mo_readConstants 128 = .ok (.aload_n 0, 1) := by decide +kernel
theorem d_Mo_readConstants_129 : decode b_Mo_readConstants 129 = .ok (.getfield 95, 3) := by decide +kernel
theorem d_Mo_readConstants_132 : decode b_Mo_readConstants 132 = .ok (.aload_n 0, 1) := by decide +kernel
theorem d_Mo_readConstants_133 : decode b_Mo_readConstants 133 = .ok (.getfield 104, 3) := by decide +kernel
theorem d_Mo_readConstants_136 : decode b_Mo_readConstants 136 = .ok (.iastore, 1) := by decide +kernel
theorem d_Mo_readConstants_137 : decode b_Mo_readConstants 137 = .ok (.iload 7, 2) := by decide +kernel
theorem d_Mo_readConstants_139 : decode b_Mo_readConstants 139 = .ok (.i2l, 1) := by decide +kernel
theorem d_Mo_readConstants_140 : decode b_Mo_readConstants 140 = .ok (.lstore 5, 2) := by decide +kernel
theorem d_Mo_readConstants_142 : decode b_Mo_readConstants 142 = .ok (.aload_n 0, 1) := by decide +kernel
theorem d_Mo_readConstants_143 : decode b_Mo_readConstants 143 = .ok (.getfield 21, 3) := by decide +kernel
theorem d_Mo_readConstants_146 : decode b_Mo_readConstants 146 = .ok (.ifCond .ne 27, 3) := by decide +kernel
theorem d_Mo_readConstants_149 : decode b_Mo_readConstants 149 = .ok (.aload_n 0, 1) := by decide +kernel
theorem d_Mo_readConstants_150 : decode b_Mo_readConstants 150 = .ok (.getfield 14, 3) := by decide +kernel
theorem d_Mo_readConstants_153 : decode b_Mo_readConstants 153 = .ok (.aload_n 0, 1) := by decide +kernel
theorem d_Mo_readConstants_154 : decode b_Mo_readConstants 154 = .ok (.getfield 104, 3) := by decide +kernel
theorem d_Mo_readConstants_157 : decode b_Mo_readConstants 157 = .ok (.isub, 1) := by decide +kernel
theorem d_Mo_readConstants_158 : decode b_Mo_readConstants 158 = .ok (.iload 7, 2) := by decide +kernel
theorem d_Mo_readConstants_160 : decode b_Mo_readConstants 160 = .ok (.if_icmp .ge 13, 3) := by decide +kernel
theorem d_Mo_readConstants_163 : decode b_Mo_readConstants 163 = .ok (.aload_n 0, 1) := by decide +kernel
theorem d_Mo_readConstants_164 : decode b_Mo_readConstants 164 = .ok (.iconst 1, 1) := by decide +kernel
theorem d_Mo_readConstants_165 : decode b_Mo_readConstants 165 = .ok (.aload_n 0, 1) := by decide +kernel
theorem d_Mo_readConstants_166 : decode b_Mo_readConstants 166 = .ok (.getfield 104, 3) := by decide +kernel
theorem d_Mo_readConstants_169 : decode b_Mo_readConstants 169 = .ok (.invokevirtual 449, 3) := by decide +kernel
theorem d_Mo_readConstants_172 : decode b_Mo_readConstants 172 = .ok (.pop, 1) := by decide +kernel
theorem d_Mo_readConstants_173 : decode b_Mo_readConstants 173 = .ok (.aload_n 0, 1) := by decide +kernel
theorem d_Mo_readConstants_174 : decode b_Mo_readConstants 174 = .ok (.dup, 1) := by decide +kernel
theorem d_Mo_readConstants_175 : decode b_Mo_readConstants 175 = .ok (.getfield 104, 3) := by decide +kernel
theorem d_Mo_readConstants_178 : decode b_Mo_readConstants 178 = .ok (.iload 7, 2) := by decide +kernel
theorem d_Mo_readConstants_180 : decode b_Mo_readConstants 180 = .ok (.iadd, 1) := by decide +kernel
theorem d_Mo_readConstants_181 : decode b_Mo_readConstants 181 = .ok (.putfield 104, 3) := by decide +kernel
theorem d_Mo_readConstants_184 : decode b_Mo_readConstants 184 = .ok (.aload_n 0, 1) := by decide +kernel
theorem d_Mo_readConstants_185 : decode b_Mo_readConstants 185 = .ok (.getfield 21, 3) := by decide +kernel
theorem d_Mo_readConstants_188 : decode b_Mo_readConstants 188 = .ok (.ifCond .ne 25, 3) := by decide +kernel
theorem d_Mo_readConstants_191 : decode b_Mo_readConstants 191 = .ok (.aload_n 0, 1) := by decide +kernel
theorem d_Mo_readConstants_192 : decode b_Mo_readConstants 192 = .ok (.getfield 82, 3) := by decide +kernel
theorem d_Mo_readConstants_195 : decode b_Mo_readConstants 195 = .ok (.aload_n 0, 1) := by decide +kernel
theorem d_Mo_readConstants_196 : decode b_Mo_readConstants 196 = .ok (.dup, 1) := by decide +kernel
theorem d_Mo_readConstants_197 : decode b_Mo_readConstants 197 = .ok (.getfield 95, 3) := by decide +kernel
theorem d_Mo_readConstants_200 : decode b_Mo_readConstants 200 = .ok (.dup_x1, 1) := by decide +kernel
theorem d_Mo_readConstants_201 : decode b_Mo_readConstants 201 = .ok (.iconst 1, 1) := by decide +kernel
theorem d_Mo_readConstants_202 : decode b_Mo_readConstants 202 = .ok (.iadd, 1) := by decide +kernel
theorem d_Mo_readConstants_203 : decode b_Mo_readConstants 203 = .ok (.putfield 95, 3) := by decide +kernel
theorem d_Mo_readConstants_206 : decode b_Mo_readConstants 206 = .ok (.iload 4, 2) := by decide +kernel
theorem d_Mo_readConstants_208 : decode b_Mo_readConstants 208 = .ok (.lload 5, 2) := by decide +kernel
theorem d_Mo_readConstants_210 : decode b_Mo_readConstants 210 = .ok (.invokevirtual 470, 3) := by decide +kernel
theorem d_Mo_readConstants_213 : decode b_Mo_readConstants 213 = .ok (.iinc 3 1, 3) := by decide +kernel
theorem d_Mo_readConstants_216 : decode b_Mo_readConstants 216 = .ok (.goto (-190), 3) := by decide +kernel
theorem d_Mo_readConstants_219 : decode b_Mo_readConstants 219 = .ok (.return_, 1) := by decide +kernel
theorem kw_306 : Cond.fieldLink R_Mo 95 "LuaMachineModel" "constCount" "I" ∈ wA := kinm (show _ ∈ tables_1 from (List.mem_append_right _ (List.mem_append_right _ (List.mem_append_right _ (List.mem_append_right _ (List.mem_append_right _ (List.mem_append_right _ (List.mem_append_right _ (List.mem_append_right _ (List.mem_append_right _ (List.mem_append_left _ (List.mem_of_getElem? (l := tables_1_10) (i := 80) (by decide +kernel))))))))))))) (by decide +kernel)
theorem kw_307 : Cond.fieldLink R_Mo 86 "LuaMachineModel" "constText" "[I" ∈ wA := kinm (show _ ∈ tables_1 from (List.mem_append_right _ (List.mem_append_right _ (List.mem_append_right _ (List.mem_append_right _ (List.mem_append_right _ (List.mem_append_right _ (List.mem_append_right _ (List.mem_append_right _ (List.mem_append_right _ (List.mem_append_left _ (List.mem_of_getElem? (l := tables_1_10) (i := 77) (by decide +kernel))))))))))))) (by decide +kernel)
theorem kw_308 : Cond.fieldLink R_Mo 98 "LuaMachineModel" "codeCount" "I" ∈ wA := kinm (show _ ∈ tables_1 from (List.mem_append_right _ (List.mem_append_right _ (List.mem_append_right _ (List.mem_append_right _ (List.mem_append_right _ (List.mem_append_right _ (List.mem_append_right _ (List.mem_append_right _ (List.mem_append_right _ (List.mem_append_left _ (List.mem_of_getElem? (l := tables_1_10) (i := 81) (by decide +kernel))))))))))))) (by decide +kernel)
theorem kw_309 : Cond.instanceMethod y_Mo_readConstants ∈ wA := kinm (show _ ∈ tables_1 from (List.mem_append_right _ (List.mem_append_right _ (List.mem_append_right _ (List.mem_append_right _ (List.mem_append_right _ (List.mem_append_right _ (List.mem_append_right _ (List.mem_append_right _ (List.mem_append_right _ (List.mem_append_right _ (List.mem_append_left _ (List.mem_of_getElem? (l := tables_1_11) (i := 160) (by decide +kernel)))))))))))))) (by decide +kernel)
theorem kw_310 : Cond.selects R_Mo y_Mo_readConstants y_Mo_readConstants ∈ wA := kinp 117 (by decide +kernel) (by decide +kernel)
theorem cv_Mo_readConstants : CV y_Mo_readConstants b_Mo_readConstants 8 none 1 := ⟨kw_309, kw_310, kw_17, k_Mo_readConstants, by decide +kernel⟩
theorem j_Mo_readConstants_j213 {X : Cx} {q : PL} (g : Gd X y_Mo_readConstants b_Mo_readConstants 8 none 2 46 R_Mo) {o : ((Int32 × Int32) ⊕ ((Unit))) × S1} (hR : (Sum.elim (fun y : Int32 × Int32 => ∀ ls : Array Slot, lv_has ls 8 [(0, .ref (q.1 0 0)), (2, .int y.1), (3, .int y.2)] → WW X q o.2 26 ls []) (fun y : Unit => ∀ ls : Array Slot, lv_has ls 8 [] → WW X q o.2 219 ls []) o.1)) (l2 : Int32) (l3 : Int32) (s : S1) (ls : Array Slot) (hl : lv_has ls 8 [(0, .ref (q.1 0 0)), (2, .int l2), (3, .int l3)]) (h : M_Mo_readConstants_j213 l2 l3 s = some o) : WW X q s 213 ls [] := by
  unfold M_Mo_readConstants_j213 at h
  refine ww_iinc (pc := 213) g.1 (v := l3 + 1) (lv' := [(3, .int (l3 + 1)), (0, .ref (q.1 0 0)), (2, .int l2)]) d_Mo_readConstants_213 hl (k := 2) rfl (by rfl) (by decide) rfl fun ls hl => ?_
  refine ww_goto (pc := 216) (tgt := 26) g.1 d_Mo_readConstants_216 (by decide) ?_
  rw [oR_eq h] at hR
  exact hR ls (lv_sub hl [1, 2, 0] rfl)

theorem j_Mo_readConstants_j184 {X : Cx} {q : PL} (g : Gd X y_Mo_readConstants b_Mo_readConstants 8 none 2 46 R_Mo) {o : ((Int32 × Int32) ⊕ ((Unit))) × S1} (hR : (Sum.elim (fun y : Int32 × Int32 => ∀ ls : Array Slot, lv_has ls 8 [(0, .ref (q.1 0 0)), (2, .int y.1), (3, .int y.2)] → WW X q o.2 26 ls []) (fun y : Unit => ∀ ls : Array Slot, lv_has ls 8 [] → WW X q o.2 219 ls []) o.1)) (l2 : Int32) (l3 : Int32) (l4 : Int32) (l5 : Int64) (s : S1) (ls : Array Slot) (hl : lv_has ls 8 [(0, .ref (q.1 0 0)), (2, .int l2), (3, .int l3), (4, .int l4), (5, .long l5)]) (h : M_Mo_readConstants_j184 l2 l3 l4 l5 s = some o) : WW X q s 184 ls [] := by
  unfold M_Mo_readConstants_j184 at h
  refine ww_aload_n (pc := 184) g.1 d_Mo_readConstants_184 rfl (lv_at hl 0 rfl) ?_
  refine ww_gI (pc := 185) g (k := 3) cl_Mo (pz rfl (by decide)) (by decide) (Or.inl kw_24) (f := 3) rfl rfl d_Mo_readConstants_185 h fun v185 h => ?_
  refine ww_if_ne (pc := 188) (tgt := 213) g.1 d_Mo_readConstants_188 (by decide) h (fun c h => ?_) (fun c h => ?_)
  · exact j_Mo_readConstants_j213 g hR l2 l3 s ls (lv_sub hl [0, 1, 2] rfl) h
  · refine ww_aload_n (pc := 191) g.1 d_Mo_readConstants_191 rfl (lv_at hl 0 rfl) ?_
    refine ww_gR (pc := 192) g (k := 21) cl_Mo (pz rfl (by decide)) (by decide) (Or.inl kw_247) (f := 21) (t := 1) rfl rfl rfl d_Mo_readConstants_192 ?_
    refine ww_aload_n (pc := 195) g.1 d_Mo_readConstants_195 rfl (lv_at hl 0 rfl) ?_
    refine ww_dup (pc := 196) g.1 d_Mo_readConstants_196 rfl ?_
    refine ww_gI (pc := 197) g (k := 25) cl_Mo (pz rfl (by decide)) (by decide) (Or.inl kw_306) (f := 25) rfl rfl d_Mo_readConstants_197 h fun v197 h => ?_
    refine ww_dup_x1 (pc := 200) g.1 d_Mo_readConstants_200 rfl rfl ?_
    refine ww_iconst (pc := 201) g.1 (v := 1) d_Mo_readConstants_201 (by decide) ?_
    refine ww_iadd (pc := 202) g.1 d_Mo_readConstants_202 ?_
    refine ww_pI (pc := 203) g (k := 25) cl_Mo (pz rfl (by decide)) (by decide) (Or.inl kw_306) rfl (f := 25) rfl rfl rfl rfl d_Mo_readConstants_203 h fun s hs h => ?_
    refine ww_iload (pc := 206) g.1 d_Mo_readConstants_206 (lv_at hl 3 rfl) ?_
    refine ww_lload (pc := 208) g.1 d_Mo_readConstants_208 (lv_at hl 4 rfl) ?_
    obtain ⟨v210, s, hc210, h⟩ := oB_of h
    refine ww_callV (pc := 210) (rest := []) g cv_Va_set (Or.inl kw_99) (cl_Va (Or.inl ⟨by decide, rfl⟩)) (pz rfl (by decide)) (ct_Va_set (Or.inl ⟨by decide, rfl⟩) hc210) ⟨by decide, by decide⟩ rfl hl.1 (Nat.le_of_ble_eq_true rfl) d_Mo_readConstants_210 rfl ?_
    refine ww_st (st' := []) rfl ?_
    exact j_Mo_readConstants_j213 g hR l2 l3 s ls (lv_sub hl [0, 1, 2] rfl) h

theorem j_Mo_readConstants_j173 {X : Cx} {q : PL} (g : Gd X y_Mo_readConstants b_Mo_readConstants 8 none 2 46 R_Mo) {o : ((Int32 × Int32) ⊕ ((Unit))) × S1} (hR : (Sum.elim (fun y : Int32 × Int32 => ∀ ls : Array Slot, lv_has ls 8 [(0, .ref (q.1 0 0)), (2, .int y.1), (3, .int y.2)] → WW X q o.2 26 ls []) (fun y : Unit => ∀ ls : Array Slot, lv_has ls 8 [] → WW X q o.2 219 ls []) o.1)) (l2 : Int32) (l3 : Int32) (l4 : Int32) (l5 : Int64) (l7 : Int32) (s : S1) (ls : Array Slot) (hl : lv_has ls 8 [(0, .ref (q.1 0 0)), (2, .int l2), (3, .int l3), (4, .int l4), (5, .long l5), (7, .int l7)]) (h : M_Mo_readConstants_j173 l2 l3 l4 l5 l7 s = some o) : WW X q s 173 ls [] := by
  unfold M_Mo_readConstants_j173 at h
  refine ww_aload_n (pc := 173) g.1 d_Mo_readConstants_173 rfl (lv_at hl 0 rfl) ?_
  refine ww_dup (pc := 174) g.1 d_Mo_readConstants_174 rfl ?_
  refine ww_gI (pc := 175) g (k := 28) cl_Mo (pz rfl (by decide)) (by decide) (Or.inl kw_28) (f := 28) rfl rfl d_Mo_readConstants_175 h fun v175 h => ?_
  refine ww_iload (pc := 178) g.1 d_Mo_readConstants_178 (lv_at hl 5 rfl) ?_
  refine ww_iadd (pc := 180) g.1 d_Mo_readConstants_180 ?_
  refine ww_pI (pc := 181) g (k := 28) cl_Mo (pz rfl (by decide)) (by decide) (Or.inl kw_28) rfl (f := 28) rfl rfl rfl rfl d_Mo_readConstants_181 h fun s hs h => ?_
  exact j_Mo_readConstants_j184 g hR l2 l3 l4 l5 s ls (lv_sub hl [0, 1, 2, 3, 4] rfl) h

theorem j_Mo_readConstants_j110 {X : Cx} {q : PL} (g : Gd X y_Mo_readConstants b_Mo_readConstants 8 none 2 46 R_Mo) {o : ((Int32 × Int32) ⊕ ((Unit))) × S1} (hR : (Sum.elim (fun y : Int32 × Int32 => ∀ ls : Array Slot, lv_has ls 8 [(0, .ref (q.1 0 0)), (2, .int y.1), (3, .int y.2)] → WW X q o.2 26 ls []) (fun y : Unit => ∀ ls : Array Slot, lv_has ls 8 [] → WW X q o.2 219 ls []) o.1)) (l2 : Int32) (l3 : Int32) (l4 : Int32) (l5 : Int64) (s : S1) (ls : Array Slot) (hl : lv_has ls 8 [(0, .ref (q.1 0 0)), (2, .int l2), (3, .int l3), (4, .int l4), (5, .long l5)]) (h : M_Mo_readConstants_j110 l2 l3 l4 l5 s = some o) : WW X q s 110 ls [] := by
  unfold M_Mo_readConstants_j110 at h
  refine ww_iload (pc := 110) g.1 d_Mo_readConstants_110 (lv_at hl 3 rfl) ?_
  refine ww_iconst (pc := 112) g.1 (v := 4) d_Mo_readConstants_112 (by decide) ?_
  refine ww_icmp_ne (pc := 113) (tgt := 184) g.1 d_Mo_readConstants_113 (by decide) h (fun c h => ?_) (fun c h => ?_)
  · exact j_Mo_readConstants_j184 g hR l2 l3 l4 l5 s ls (lv_sub hl [0, 1, 2, 3, 4] rfl) h
  · refine ww_aload_n (pc := 116) g.1 d_Mo_readConstants_116 rfl (lv_at hl 0 rfl) ?_
    refine ww_iconst (pc := 117) g.1 (v := 2) d_Mo_readConstants_117 (by decide) ?_
    obtain ⟨v118, s, hc118, h⟩ := oB_of h
    refine ww_callV (pc := 118) (rest := []) g cv_Mo_number (Or.inl kw_36) cl_Mo (pz rfl (by decide)) (ct_Mo_number hc118) ⟨by decide, by decide⟩ rfl hl.1 (Nat.le_of_ble_eq_true rfl) d_Mo_readConstants_118 rfl ?_
    refine ww_st (st' := [.long v118]) rfl ?_
    refine ww_l2i (pc := 121) g.1 (v := v118.toInt32) d_Mo_readConstants_121 rfl ?_
    refine ww_istore (pc := 122) (i := 7) g.1 (lv' := [(7, .int v118.toInt32), (0, .ref (q.1 0 0)), (2, .int l2), (3, .int l3), (4, .int l4), (5, .long l5)]) d_Mo_readConstants_122 hl (by decide) rfl fun ls hl => ?_
    refine ww_aload_n (pc := 124) g.1 d_Mo_readConstants_124 rfl (lv_at hl 1 rfl) ?_
    refine ww_gR (pc := 125) g (k := 22) cl_Mo (pz rfl (by decide)) (by decide) (Or.inl kw_307) (f := 22) (t := 57) rfl rfl rfl d_Mo_readConstants_125 ?_
    refine ww_aload_n (pc := 128) g.1 d_Mo_readConstants_128 rfl (lv_at hl 1 rfl) ?_
    refine ww_gI (pc := 129) g (k := 25) cl_Mo (pz rfl (by decide)) (by decide) (Or.inl kw_306) (f := 25) rfl rfl d_Mo_readConstants_129 h fun v129 h => ?_
    refine ww_aload_n (pc := 132) g.1 d_Mo_readConstants_132 rfl (lv_at hl 1 rfl) ?_
    refine ww_gI (pc := 133) g (k := 28) cl_Mo (pz rfl (by decide)) (by decide) (Or.inl kw_28) (f := 28) rfl rfl d_Mo_readConstants_133 h fun v133 h => ?_
    refine ww_si (pc := 136) g (pz rfl (by decide)) rfl rfl d_Mo_readConstants_136 h fun s hs h => ?_
    refine ww_iload (pc := 137) g.1 d_Mo_readConstants_137 (lv_at hl 0 rfl) ?_
    refine ww_i2l (pc := 139) g.1 (v := v118.toInt32.toInt64) d_Mo_readConstants_139 rfl ?_
    refine ww_lstore (pc := 140) (i := 5) g.1 (lv' := [(5, .long v118.toInt32.toInt64), (7, .int v118.toInt32), (0, .ref (q.1 0 0)), (2, .int l2), (3, .int l3), (4, .int l4)]) d_Mo_readConstants_140 hl (by decide) rfl fun ls hl => ?_
    refine ww_aload_n (pc := 142) g.1 d_Mo_readConstants_142 rfl (lv_at hl 2 rfl) ?_
    refine ww_gI (pc := 143) g (k := 3) cl_Mo (pz rfl (by decide)) (by decide) (Or.inl kw_24) (f := 3) rfl rfl d_Mo_readConstants_143 h fun v143 h => ?_
    refine ww_if_ne (pc := 146) (tgt := 173) g.1 d_Mo_readConstants_146 (by decide) h (fun c h => ?_) (fun c h => ?_)
    · exact j_Mo_readConstants_j173 g hR l2 l3 l4 v118.toInt32.toInt64 v118.toInt32 s ls (lv_sub hl [2, 3, 4, 5, 0, 1] rfl) h
    · refine ww_aload_n (pc := 149) g.1 d_Mo_readConstants_149 rfl (lv_at hl 2 rfl) ?_
      refine ww_gI (pc := 150) g (k := 1) cl_Mo (pz rfl (by decide)) (by decide) (Or.inl kw_21) (f := 1) rfl rfl d_Mo_readConstants_150 h fun v150 h => ?_
      refine ww_aload_n (pc := 153) g.1 d_Mo_readConstants_153 rfl (lv_at hl 2 rfl) ?_
      refine ww_gI (pc := 154) g (k := 28) cl_Mo (pz rfl (by decide)) (by decide) (Or.inl kw_28) (f := 28) rfl rfl d_Mo_readConstants_154 h fun v154 h => ?_
      refine ww_isub (pc := 157) g.1 d_Mo_readConstants_157 ?_
      refine ww_iload (pc := 158) g.1 d_Mo_readConstants_158 (lv_at hl 1 rfl) ?_
      refine ww_icmp_ge (pc := 160) (tgt := 173) g.1 d_Mo_readConstants_160 (by decide) h (fun c h => ?_) (fun c h => ?_)
      · exact j_Mo_readConstants_j173 g hR l2 l3 l4 v118.toInt32.toInt64 v118.toInt32 s ls (lv_sub hl [2, 3, 4, 5, 0, 1] rfl) h
      · refine ww_aload_n (pc := 163) g.1 d_Mo_readConstants_163 rfl (lv_at hl 2 rfl) ?_
        refine ww_iconst (pc := 164) g.1 (v := 1) d_Mo_readConstants_164 (by decide) ?_
        refine ww_aload_n (pc := 165) g.1 d_Mo_readConstants_165 rfl (lv_at hl 2 rfl) ?_
        refine ww_gI (pc := 166) g (k := 28) cl_Mo (pz rfl (by decide)) (by decide) (Or.inl kw_28) (f := 28) rfl rfl d_Mo_readConstants_166 h fun v166 h => ?_
        obtain ⟨v169, s, hc169, h⟩ := oB_of h
        refine ww_callV (pc := 169) (rest := []) g cv_Mo_bad (Or.inl kw_31) cl_Mo (pz rfl (by decide)) (ct_Mo_bad hc169) ⟨by decide, by decide⟩ rfl hl.1 (Nat.le_of_ble_eq_true rfl) d_Mo_readConstants_169 rfl ?_
        refine ww_st (st' := [.int v169]) rfl ?_
        refine ww_pop (pc := 172) g.1 d_Mo_readConstants_172 rfl ?_
        exact j_Mo_readConstants_j173 g hR l2 l3 l4 v118.toInt32.toInt64 v118.toInt32 s ls (lv_sub hl [2, 3, 4, 5, 0, 1] rfl) h

theorem j_Mo_readConstants_j90 {X : Cx} {q : PL} (g : Gd X y_Mo_readConstants b_Mo_readConstants 8 none 2 46 R_Mo) {o : ((Int32 × Int32) ⊕ ((Unit))) × S1} (hR : (Sum.elim (fun y : Int32 × Int32 => ∀ ls : Array Slot, lv_has ls 8 [(0, .ref (q.1 0 0)), (2, .int y.1), (3, .int y.2)] → WW X q o.2 26 ls []) (fun y : Unit => ∀ ls : Array Slot, lv_has ls 8 [] → WW X q o.2 219 ls []) o.1)) (l2 : Int32) (l3 : Int32) (l4 : Int32) (k0 : Int32) (s : S1) (ls : Array Slot) (hl : lv_has ls 8 [(0, .ref (q.1 0 0)), (2, .int l2), (3, .int l3), (4, .int l4)]) (h : M_Mo_readConstants_j90 l2 l3 l4 k0 s = some o) : WW X q s 90 ls [.int k0, .ref (q.1 0 0)] := by
  unfold M_Mo_readConstants_j90 at h
  obtain ⟨v90, s, hc90, h⟩ := oB_of h
  refine ww_callV (pc := 90) (rest := []) g cv_Mo_need (Or.inl kw_40) cl_Mo (pz rfl (by decide)) (ct_Mo_need hc90) ⟨by decide, by decide⟩ rfl hl.1 (Nat.le_of_ble_eq_true rfl) d_Mo_readConstants_90 rfl ?_
  refine ww_st (st' := []) rfl ?_
  refine ww_lconst (pc := 93) g.1 (v := 0) d_Mo_readConstants_93 (by decide) ?_
  refine ww_lstore (pc := 94) (i := 5) g.1 (lv' := [(5, .long 0), (0, .ref (q.1 0 0)), (2, .int l2), (3, .int l3), (4, .int l4)]) d_Mo_readConstants_94 hl (by decide) rfl fun ls hl => ?_
  refine ww_iload (pc := 96) g.1 d_Mo_readConstants_96 (lv_at hl 4 rfl) ?_
  refine ww_iconst (pc := 98) g.1 (v := 3) d_Mo_readConstants_98 (by decide) ?_
  refine ww_icmp_ne (pc := 99) (tgt := 110) g.1 d_Mo_readConstants_99 (by decide) h (fun c h => ?_) (fun c h => ?_)
  · exact j_Mo_readConstants_j110 g hR l2 l3 l4 0 s ls (lv_sub hl [1, 2, 3, 4, 0] rfl) h
  · refine ww_aload_n (pc := 102) g.1 d_Mo_readConstants_102 rfl (lv_at hl 1 rfl) ?_
    refine ww_bipush (pc := 103) g.1 (v := 8) d_Mo_readConstants_103 (by decide) ?_
    obtain ⟨v105, s, hc105, h⟩ := oB_of h
    refine ww_callV (pc := 105) (rest := []) g cv_Mo_number (Or.inl kw_36) cl_Mo (pz rfl (by decide)) (ct_Mo_number hc105) ⟨by decide, by decide⟩ rfl hl.1 (Nat.le_of_ble_eq_true rfl) d_Mo_readConstants_105 rfl ?_
    refine ww_st (st' := [.long v105]) rfl ?_
    refine ww_lstore (pc := 108) (i := 5) g.1 (lv' := [(5, .long v105), (0, .ref (q.1 0 0)), (2, .int l2), (3, .int l3), (4, .int l4)]) d_Mo_readConstants_108 hl (by decide) rfl fun ls hl => ?_
    exact j_Mo_readConstants_j110 g hR l2 l3 l4 v105 s ls (lv_sub hl [1, 2, 3, 4, 0] rfl) h

theorem j_Mo_readConstants_j78 {X : Cx} {q : PL} (g : Gd X y_Mo_readConstants b_Mo_readConstants 8 none 2 46 R_Mo) {o : ((Int32 × Int32) ⊕ ((Unit))) × S1} (hR : (Sum.elim (fun y : Int32 × Int32 => ∀ ls : Array Slot, lv_has ls 8 [(0, .ref (q.1 0 0)), (2, .int y.1), (3, .int y.2)] → WW X q o.2 26 ls []) (fun y : Unit => ∀ ls : Array Slot, lv_has ls 8 [] → WW X q o.2 219 ls []) o.1)) (l2 : Int32) (l3 : Int32) (l4 : Int32) (s : S1) (ls : Array Slot) (hl : lv_has ls 8 [(0, .ref (q.1 0 0)), (2, .int l2), (3, .int l3), (4, .int l4)]) (h : M_Mo_readConstants_j78 l2 l3 l4 s = some o) : WW X q s 78 ls [] := by
  unfold M_Mo_readConstants_j78 at h
  refine ww_aload_n (pc := 78) g.1 d_Mo_readConstants_78 rfl (lv_at hl 0 rfl) ?_
  refine ww_iload (pc := 79) g.1 d_Mo_readConstants_79 (lv_at hl 3 rfl) ?_
  refine ww_iconst (pc := 81) g.1 (v := 5) d_Mo_readConstants_81 (by decide) ?_
  refine ww_icmp_ge (pc := 82) (tgt := 89) g.1 d_Mo_readConstants_82 (by decide) h (fun c h => ?_) (fun c h => ?_)
  · refine ww_iconst (pc := 89) g.1 (v := 0) d_Mo_readConstants_89 (by decide) ?_
    exact j_Mo_readConstants_j90 g hR l2 l3 l4 0 s ls (lv_sub hl [0, 1, 2, 3] rfl) h
  · refine ww_iconst (pc := 85) g.1 (v := 1) d_Mo_readConstants_85 (by decide) ?_
    refine ww_goto (pc := 86) (tgt := 90) g.1 d_Mo_readConstants_86 (by decide) ?_
    exact j_Mo_readConstants_j90 g hR l2 l3 l4 1 s ls (lv_sub hl [0, 1, 2, 3] rfl) h

theorem lp_Mo_readConstants_L26 {X : Cx} {q : PL} (g : Gd X y_Mo_readConstants b_Mo_readConstants 8 none 2 46 R_Mo) (x : Int32 × Int32) (s : S1) (o : ((Int32 × Int32) ⊕ ((Unit))) × S1) (h : M_Mo_readConstants_L26 x s = some o) (hR : (Sum.elim (fun y : Int32 × Int32 => ∀ ls : Array Slot, lv_has ls 8 [(0, .ref (q.1 0 0)), (2, .int y.1), (3, .int y.2)] → WW X q o.2 26 ls []) (fun y : Unit => ∀ ls : Array Slot, lv_has ls 8 [] → WW X q o.2 219 ls []) o.1)) : ∀ ls : Array Slot, lv_has ls 8 [(0, .ref (q.1 0 0)), (2, .int x.1), (3, .int x.2)] → WW X q s 26 ls [] := by
  intro ls hl
  unfold M_Mo_readConstants_L26 at h
  refine ww_iload_n (pc := 26) g.1 d_Mo_readConstants_26 rfl (lv_at hl 2 rfl) ?_
  refine ww_iload_n (pc := 27) g.1 d_Mo_readConstants_27 rfl (lv_at hl 1 rfl) ?_
  refine ww_icmp_ge (pc := 28) (tgt := 219) g.1 d_Mo_readConstants_28 (by decide) h (fun c h => ?_) (fun c h => ?_)
  · rw [oR_eq h] at hR
    exact hR ls (lv_sub hl [] rfl)
  · refine ww_aload_n (pc := 31) g.1 d_Mo_readConstants_31 rfl (lv_at hl 0 rfl) ?_
    refine ww_gI (pc := 32) g (k := 3) cl_Mo (pz rfl (by decide)) (by decide) (Or.inl kw_24) (f := 3) rfl rfl d_Mo_readConstants_32 h fun v32 h => ?_
    refine ww_if_ne (pc := 35) (tgt := 219) g.1 d_Mo_readConstants_35 (by decide) h (fun c h => ?_) (fun c h => ?_)
    · rw [oR_eq h] at hR
      exact hR ls (lv_sub hl [] rfl)
    · refine ww_aload_n (pc := 38) g.1 d_Mo_readConstants_38 rfl (lv_at hl 0 rfl) ?_
      refine ww_iconst (pc := 39) g.1 (v := 1) d_Mo_readConstants_39 (by decide) ?_
      obtain ⟨v40, s, hc40, h⟩ := oB_of h
      refine ww_callV (pc := 40) (rest := []) g cv_Mo_number (Or.inl kw_36) cl_Mo (pz rfl (by decide)) (ct_Mo_number hc40) ⟨by decide, by decide⟩ rfl hl.1 (Nat.le_of_ble_eq_true rfl) d_Mo_readConstants_40 rfl ?_
      refine ww_st (st' := [.long v40]) rfl ?_
      refine ww_l2i (pc := 43) g.1 (v := v40.toInt32) d_Mo_readConstants_43 rfl ?_
      refine ww_istore (pc := 44) (i := 4) g.1 (lv' := [(4, .int v40.toInt32), (0, .ref (q.1 0 0)), (2, .int x.1), (3, .int x.2)]) d_Mo_readConstants_44 hl (by decide) rfl fun ls hl => ?_
      refine ww_aload_n (pc := 46) g.1 d_Mo_readConstants_46 rfl (lv_at hl 1 rfl) ?_
      refine ww_gI (pc := 47) g (k := 3) cl_Mo (pz rfl (by decide)) (by decide) (Or.inl kw_24) (f := 3) rfl rfl d_Mo_readConstants_47 h fun v47 h => ?_
      refine ww_if_ne (pc := 50) (tgt := 78) g.1 d_Mo_readConstants_50 (by decide) h (fun c h => ?_) (fun c h => ?_)
      · exact j_Mo_readConstants_j78 g hR x.1 x.2 v40.toInt32 s ls (lv_sub hl [1, 2, 3, 0] rfl) h
      · refine ww_aload_n (pc := 53) g.1 d_Mo_readConstants_53 rfl (lv_at hl 1 rfl) ?_
        refine ww_gI (pc := 54) g (k := 25) cl_Mo (pz rfl (by decide)) (by decide) (Or.inl kw_306) (f := 25) rfl rfl d_Mo_readConstants_54 h fun v54 h => ?_
        refine ww_aload_n (pc := 57) g.1 d_Mo_readConstants_57 rfl (lv_at hl 1 rfl) ?_
        refine ww_gI (pc := 58) g (k := 26) cl_Mo (pz rfl (by decide)) (by decide) (Or.inl kw_308) (f := 26) rfl rfl d_Mo_readConstants_58 h fun v58 h => ?_
        refine ww_iadd (pc := 61) g.1 d_Mo_readConstants_61 ?_
        refine ww_sipush (pc := 62) g.1 (v := 20000) d_Mo_readConstants_62 (by decide) ?_
        refine ww_icmp_ne (pc := 65) (tgt := 78) g.1 d_Mo_readConstants_65 (by decide) h (fun c h => ?_) (fun c h => ?_)
        · exact j_Mo_readConstants_j78 g hR x.1 x.2 v40.toInt32 s ls (lv_sub hl [1, 2, 3, 0] rfl) h
        · refine ww_aload_n (pc := 68) g.1 d_Mo_readConstants_68 rfl (lv_at hl 1 rfl) ?_
          refine ww_iconst (pc := 69) g.1 (v := 4) d_Mo_readConstants_69 (by decide) ?_
          refine ww_aload_n (pc := 70) g.1 d_Mo_readConstants_70 rfl (lv_at hl 1 rfl) ?_
          refine ww_gI (pc := 71) g (k := 29) cl_Mo (pz rfl (by decide)) (by decide) (Or.inl kw_29) (f := 29) rfl rfl d_Mo_readConstants_71 h fun v71 h => ?_
          obtain ⟨v74, s, hc74, h⟩ := oB_of h
          refine ww_callV (pc := 74) (rest := []) g cv_Mo_bad (Or.inl kw_31) cl_Mo (pz rfl (by decide)) (ct_Mo_bad hc74) ⟨by decide, by decide⟩ rfl hl.1 (Nat.le_of_ble_eq_true rfl) d_Mo_readConstants_74 rfl ?_
          refine ww_st (st' := [.int v74]) rfl ?_
          refine ww_pop (pc := 77) g.1 d_Mo_readConstants_77 rfl ?_
          exact j_Mo_readConstants_j78 g hR x.1 x.2 v40.toInt32 s ls (lv_sub hl [1, 2, 3, 0] rfl) h

theorem ct_Mo_readConstants {l : Launch} {P : PP} {q : PL} {s s' : S1} {l1 : Int32} {r : Unit} (h : M_Mo_readConstants l1 s = some (r, s')) : Ct l y_Mo_readConstants b_Mo_readConstants 8 none 2 46 P q s [.ref (q.1 0 0), .int l1] none q s' := by
  refine ct_of (by decide) (Nat.le_of_ble_eq_true rfl) fun X ls eP el g hR hl => ?_
  subst eP
  have hR : Rt X q ((r, s') : Unit × S1).2 none := hR
  have hl : lv_has ls 8 [(0, .ref (q.1 0 0)), (1, .int l1)] := hl
  generalize (r, s') = o at h hR
  unfold M_Mo_readConstants at h
  refine ww_aload_n (pc := 0) g.1 d_Mo_readConstants_0 rfl (lv_at hl 0 rfl) ?_
  refine ww_iconst (pc := 1) g.1 (v := 2) d_Mo_readConstants_1 (by decide) ?_
  obtain ⟨v2, s, hc2, h⟩ := oB_of h
  refine ww_callV (pc := 2) (rest := []) g cv_Mo_number (Or.inl kw_36) cl_Mo (pz rfl (by decide)) (ct_Mo_number hc2) ⟨by decide, by decide⟩ rfl hl.1 (Nat.le_of_ble_eq_true rfl) d_Mo_readConstants_2 rfl ?_
  refine ww_st (st' := [.long v2]) rfl ?_
  refine ww_l2i (pc := 5) g.1 (v := v2.toInt32) d_Mo_readConstants_5 rfl ?_
  refine ww_istore_n (pc := 6) (i := 2) g.1 (lv' := [(2, .int v2.toInt32), (0, .ref (q.1 0 0)), (1, .int l1)]) d_Mo_readConstants_6 rfl hl (by decide) rfl fun ls hl => ?_
  refine ww_aload_n (pc := 7) g.1 d_Mo_readConstants_7 rfl (lv_at hl 1 rfl) ?_
  refine ww_gR (pc := 8) g (k := 11) cl_Mo (pz rfl (by decide)) (by decide) (Or.inl kw_246) (f := 11) (t := 47) rfl rfl rfl d_Mo_readConstants_8 ?_
  refine ww_iload_n (pc := 11) g.1 d_Mo_readConstants_11 rfl (lv_at hl 2 rfl) ?_
  refine ww_aload_n (pc := 12) g.1 d_Mo_readConstants_12 rfl (lv_at hl 1 rfl) ?_
  refine ww_gI (pc := 13) g (k := 25) cl_Mo (pz rfl (by decide)) (by decide) (Or.inl kw_306) (f := 25) rfl rfl d_Mo_readConstants_13 h fun v13 h => ?_
  refine ww_si (pc := 16) g (pz rfl (by decide)) rfl rfl d_Mo_readConstants_16 h fun s hs h => ?_
  refine ww_aload_n (pc := 17) g.1 d_Mo_readConstants_17 rfl (lv_at hl 1 rfl) ?_
  refine ww_gR (pc := 18) g (k := 12) cl_Mo (pz rfl (by decide)) (by decide) (Or.inl kw_67) (f := 12) (t := 48) rfl rfl rfl d_Mo_readConstants_18 ?_
  refine ww_iload_n (pc := 21) g.1 d_Mo_readConstants_21 rfl (lv_at hl 2 rfl) ?_
  refine ww_iload_n (pc := 22) g.1 d_Mo_readConstants_22 rfl (lv_at hl 0 rfl) ?_
  refine ww_si (pc := 23) g (pz rfl (by decide)) rfl rfl d_Mo_readConstants_23 h fun s hs h => ?_
  refine ww_iconst (pc := 24) g.1 (v := 0) d_Mo_readConstants_24 (by decide) ?_
  refine ww_istore_n (pc := 25) (i := 3) g.1 (lv' := [(3, .int 0), (2, .int v2.toInt32), (0, .ref (q.1 0 0)), (1, .int l1)]) d_Mo_readConstants_25 rfl hl (by decide) rfl fun ls hl => ?_
  obtain ⟨e26, s1, hw, h⟩ := oB_of h
  refine oW_rule (Wh := fun (x : Int32 × Int32) (s : S1) => ∀ ls : Array Slot, lv_has ls 8 [(0, .ref (q.1 0 0)), (2, .int x.1), (3, .int x.2)] → WW X q s 26 ls []) (We := fun (e : (Unit)) (s : S1) => ∀ ls : Array Slot, lv_has ls 8 [] → WW X q s 219 ls []) (fun x s o hb hc => lp_Mo_readConstants_L26 (q := q) g x s o hb hc) hw ?_ ls (lv_sub hl [2, 1, 0] rfl)
  clear hw hl
  clear ls
  intro ls hl
  generalize s1 = s at h ⊢
  exact ww_vretH (pc := 219) g h hR d_Mo_readConstants_219

abbrev b_Mo_makes : ByteArray := prog_14_method_18_code
def y_Mo_makes : MethodName := ⟨R_Mo, "makes", "(I)Z"⟩
abbrev w_Mo_makes : List Cond := .code y_Mo_makes b_Mo_makes 1 (some .boolean) :: wA
theorem k_Mo_makes : Cond.code y_Mo_makes b_Mo_makes 1 (some .boolean) ∈ wA := kinm (show _ ∈ tables_1 from (List.mem_append_right _ (List.mem_append_right _ (List.mem_append_right _ (List.mem_append_right _ (List.mem_append_right _ (List.mem_append_right _ (List.mem_append_right _ (List.mem_append_right _ (List.mem_append_right _ (List.mem_append_right _ (List.mem_append_left _ (List.mem_of_getElem? (l := tables_1_11) (i := 179) (by decide +kernel)))))))))))))) (by decide +kernel)
theorem d_Mo_makes_0 : decode b_Mo_makes 0 = .ok (.iload_n 0, 1) := by decide +kernel
theorem d_Mo_makes_1 : decode b_Mo_makes 1 = .ok (.invokestatic 475, 3) := by decide +kernel
theorem d_Mo_makes_4 : decode b_Mo_makes 4 = .ok (.bipush 36, 2) := by decide +kernel
theorem d_Mo_makes_6 : decode b_Mo_makes 6 = .ok (.if_icmp .ne 10, 3) := by decide +kernel
theorem d_Mo_makes_9 : decode b_Mo_makes 9 = .ok (.iload_n 0, 1) := by decide +kernel
theorem d_Mo_makes_10 : decode b_Mo_makes 10 = .ok (.invokestatic 479, 3) := by decide +kernel
theorem d_Mo_makes_13 : decode b_Mo_makes 13 = .ok (.ifCond .eq 19, 3) := by decide +kernel
theorem d_Mo_makes_16 : decode b_Mo_makes 16 = .ok (.iload_n 0, 1) := by decide +kernel
theorem d_Mo_makes_17 : decode b_Mo_makes 17 = .ok (.invokestatic 475, 3) := by decide +kernel
theorem d_Mo_makes_20 : decode b_Mo_makes 20 = .ok (.bipush 45, 2) := by decide +kernel
theorem d_Mo_makes_22 : decode b_Mo_makes 22 = .ok (.if_icmp .ne 14, 3) := by decide +kernel
theorem d_Mo_makes_25 : decode b_Mo_makes 25 = .ok (.iload_n 0, 1) := by decide +kernel
theorem d_Mo_makes_26 : decode b_Mo_makes 26 = .ok (.invokestatic 482, 3) := by decide +kernel
theorem d_Mo_makes_29 : decode b_Mo_makes 29 = .ok (.ifCond .ne 7, 3) := by decide +kernel
theorem d_Mo_makes_32 : decode b_Mo_makes 32 = .ok (.iconst 1, 1) := by decide +kernel
theorem d_Mo_makes_33 : decode b_Mo_makes 33 = .ok (.goto 4, 3) := by decide +kernel
theorem d_Mo_makes_36 : decode b_Mo_makes 36 = .ok (.iconst 0, 1) := by decide +kernel
theorem d_Mo_makes_37 : decode b_Mo_makes 37 = .ok (.ireturn, 1) := by decide +kernel
theorem kw_311 : Cond.methodLink R_Mo 479 y_Mo_c ∈ wA := kinm (show _ ∈ tables_1 from (List.mem_append_right _ (List.mem_append_right _ (List.mem_append_right _ (List.mem_append_right _ (List.mem_append_right _ (List.mem_append_right _ (List.mem_append_right _ (List.mem_append_right _ (List.mem_append_right _ (List.mem_append_right _ (List.mem_append_left _ (List.mem_of_getElem? (l := tables_1_11) (i := 180) (by decide +kernel)))))))))))))) (by decide +kernel)
theorem kw_312 : Cond.static y_Mo_makes ∈ wA := kinm (show _ ∈ tables_1 from (List.mem_append_right _ (List.mem_append_right _ (List.mem_append_right _ (List.mem_append_right _ (List.mem_append_right _ (List.mem_append_right _ (List.mem_append_right _ (List.mem_append_right _ (List.mem_append_right _ (List.mem_append_right _ (List.mem_append_left _ (List.mem_of_getElem? (l := tables_1_11) (i := 178) (by decide +kernel)))))))))))))) (by decide +kernel)
theorem cs_Mo_makes : CS y_Mo_makes b_Mo_makes 1 (some .boolean) 1 := ⟨kw_312, kw_17, k_Mo_makes, by decide +kernel⟩
theorem j_Mo_makes_j36 {X : Cx} {q : PL} (g : Gd X y_Mo_makes b_Mo_makes 1 (some .boolean) 1 20 R_Mo) {o : (Int32) × S1} (hR : Rt X q o.2 (some (.int o.1)))  (s : S1) (ls : Array Slot) (hl : lv_has ls 1 []) (h : M_Mo_makes_j36 s = some o) : WW X q s 36 ls [] := by
  unfold M_Mo_makes_j36 at h
  refine ww_iconst (pc := 36) g.1 (v := 0) d_Mo_makes_36 (by decide) ?_
  exact ww_zretH (pc := 37) g h hR (Or.inl rfl) d_Mo_makes_37

theorem j_Mo_makes_j32 {X : Cx} {q : PL} (g : Gd X y_Mo_makes b_Mo_makes 1 (some .boolean) 1 20 R_Mo) {o : (Int32) × S1} (hR : Rt X q o.2 (some (.int o.1)))  (s : S1) (ls : Array Slot) (hl : lv_has ls 1 []) (h : M_Mo_makes_j32 s = some o) : WW X q s 32 ls [] := by
  unfold M_Mo_makes_j32 at h
  refine ww_iconst (pc := 32) g.1 (v := 1) d_Mo_makes_32 (by decide) ?_
  refine ww_goto (pc := 33) (tgt := 37) g.1 d_Mo_makes_33 (by decide) ?_
  exact ww_zretH (pc := 37) g h hR (Or.inr rfl) d_Mo_makes_37

theorem j_Mo_makes_j16 {X : Cx} {q : PL} (g : Gd X y_Mo_makes b_Mo_makes 1 (some .boolean) 1 20 R_Mo) {o : (Int32) × S1} (hR : Rt X q o.2 (some (.int o.1))) (l0 : Int32) (s : S1) (ls : Array Slot) (hl : lv_has ls 1 [(0, .int l0)]) (h : M_Mo_makes_j16 l0 s = some o) : WW X q s 16 ls [] := by
  unfold M_Mo_makes_j16 at h
  refine ww_iload_n (pc := 16) g.1 d_Mo_makes_16 rfl (lv_at hl 0 rfl) ?_
  obtain ⟨v17, s, hc17, h⟩ := oB_of h
  refine ww_callS (pc := 17) (rest := []) g cs_Mo_op (Or.inl kw_53) (ct_Mo_op hc17) ⟨by decide, by decide⟩ rfl hl.1 (Nat.le_of_ble_eq_true rfl) d_Mo_makes_17 rfl ?_
  refine ww_st (st' := [.int v17]) rfl ?_
  refine ww_bipush (pc := 20) g.1 (v := 45) d_Mo_makes_20 (by decide) ?_
  refine ww_icmp_ne (pc := 22) (tgt := 36) g.1 d_Mo_makes_22 (by decide) h (fun c h => ?_) (fun c h => ?_)
  · exact j_Mo_makes_j36 g hR s ls (lv_sub hl [] rfl) h
  · refine ww_iload_n (pc := 25) g.1 d_Mo_makes_25 rfl (lv_at hl 0 rfl) ?_
    obtain ⟨v26, s, hc26, h⟩ := oB_of h
    refine ww_callS (pc := 26) (rest := []) g cs_Mo_b (Or.inl kw_54) (ct_Mo_b hc26) ⟨by decide, by decide⟩ rfl hl.1 (Nat.le_of_ble_eq_true rfl) d_Mo_makes_26 rfl ?_
    refine ww_st (st' := [.int v26]) rfl ?_
    refine ww_if_ne (pc := 29) (tgt := 36) g.1 d_Mo_makes_29 (by decide) h (fun c h => ?_) (fun c h => ?_)
    · exact j_Mo_makes_j36 g hR s ls (lv_sub hl [] rfl) h
    · exact j_Mo_makes_j32 g hR s ls (lv_sub hl [] rfl) h

theorem ct_Mo_makes {l : Launch} {P : PP} {q : PL} {s s' : S1} {l0 : Int32} {r : Int32} (h : M_Mo_makes l0 s = some (r, s')) : Ct l y_Mo_makes b_Mo_makes 1 (some .boolean) 1 20 P q s [.int l0] (some (.int r)) q s' := by
  refine ct_of (by decide) (Nat.le_of_ble_eq_true rfl) fun X ls eP el g hR hl => ?_
  subst eP
  have hR : Rt X q ((r, s') : Int32 × S1).2 (some (.int ((r, s') : Int32 × S1).1)) := hR
  have hl : lv_has ls 1 [(0, .int l0)] := hl
  generalize (r, s') = o at h hR
  unfold M_Mo_makes at h
  refine ww_iload_n (pc := 0) g.1 d_Mo_makes_0 rfl (lv_at hl 0 rfl) ?_
  obtain ⟨v1, s, hc1, h⟩ := oB_of h
  refine ww_callS (pc := 1) (rest := []) g cs_Mo_op (Or.inl kw_53) (ct_Mo_op hc1) ⟨by decide, by decide⟩ rfl hl.1 (Nat.le_of_ble_eq_true rfl) d_Mo_makes_1 rfl ?_
  refine ww_st (st' := [.int v1]) rfl ?_
  refine ww_bipush (pc := 4) g.1 (v := 36) d_Mo_makes_4 (by decide) ?_
  refine ww_icmp_ne (pc := 6) (tgt := 16) g.1 d_Mo_makes_6 (by decide) h (fun c h => ?_) (fun c h => ?_)
  · exact j_Mo_makes_j16 g hR l0 s ls (lv_sub hl [0] rfl) h
  · refine ww_iload_n (pc := 9) g.1 d_Mo_makes_9 rfl (lv_at hl 0 rfl) ?_
    obtain ⟨v10, s, hc10, h⟩ := oB_of h
    refine ww_callS (pc := 10) (rest := []) g cs_Mo_c (Or.inl kw_311) (ct_Mo_c hc10) ⟨by decide, by decide⟩ rfl hl.1 (Nat.le_of_ble_eq_true rfl) d_Mo_makes_10 rfl ?_
    refine ww_st (st' := [.int v10]) rfl ?_
    refine ww_if_eq (pc := 13) (tgt := 32) g.1 d_Mo_makes_13 (by decide) h (fun c h => ?_) (fun c h => ?_)
    · exact j_Mo_makes_j32 g hR s ls (lv_sub hl [] rfl) h
    · exact j_Mo_makes_j16 g hR l0 s ls (lv_sub hl [0] rfl) h

abbrev b_Mo_named : ByteArray := prog_14_method_25_code
def y_Mo_named : MethodName := ⟨R_Mo, "named", "(IIII)Z"⟩
abbrev w_Mo_named : List Cond := .code y_Mo_named b_Mo_named 8 (some .boolean) :: wA
set_option maxRecDepth 20000 in
theorem k_Mo_named : Cond.code y_Mo_named b_Mo_named 8 (some .boolean) ∈ wA := kinm (show _ ∈ tables_1 from (List.mem_append_right _ (List.mem_append_right _ (List.mem_append_right _ (List.mem_append_right _ (List.mem_append_right _ (List.mem_append_right _ (List.mem_append_right _ (List.mem_append_right _ (List.mem_append_right _ (List.mem_append_right _ (List.mem_append_left _ (List.mem_of_getElem? (l := tables_1_11) (i := 199) rfl))))))))))))) rfl
theorem d_Mo_named_0 : decode b_Mo_named 0 = .ok (.iload_n 3, 1) := by decide +kernel
theorem d_Mo_named_1 : decode b_Mo_named 1 = .ok (.invokestatic 495, 3) := by decide +kernel
theorem d_Mo_named_4 : decode b_Mo_named 4 = .ok (.istore 5, 2) := by decide +kernel
theorem d_Mo_named_6 : decode b_Mo_named 6 = .ok (.iload_n 3, 1) := by decide +kernel
theorem d_Mo_named_7 : decode b_Mo_named 7 = .ok (.invokestatic 482, 3) := by decide +kernel
theorem d_Mo_named_10 : decode b_Mo_named 10 = .ok (.istore 6, 2) := by decide +kernel
theorem d_Mo_named_12 : decode b_Mo_named 12 = .ok (.iload_n 3, 1) := by decide +kernel
theorem d_Mo_named_13 : decode b_Mo_named 13 = .ok (.invokestatic 479, 3) := by decide +kernel
theorem d_Mo_named_16 : decode b_Mo_named 16 = .ok (.istore 7, 2) := by decide +kernel
theorem d_Mo_named_18 : decode b_Mo_named 18 = .ok (.iload 4, 2) := by decide +kernel
theorem d_Mo_named_20 : decode b_Mo_named 20 = .ok (.tableswitch 1022 0 45 #[200, 224, 1022, 252, 282, 292, 318, 353, 386, 292, 421, 454, 461, 496, 496, 496, 496, 1022, 1022, 496, 496, 496, 496, 496, 496, 200, 200, 200, 200, 529, 560, 597, 597, 597, 627, 648, 678, 732, 766, 801, 833, 865, 890, 922, 959, 987], 200) := by decide +kernel
theorem d_Mo_named_220 : decode b_Mo_named 220 = .ok (.aload_n 0, 1) := by decide +kernel
theorem d_Mo_named_221 : decode b_Mo_named 221 = .ok (.iload 5, 2) := by decide +kernel
theorem d_Mo_named_223 : decode b_Mo_named 223 = .ok (.invokevirtual 505, 3) := by decide +kernel
theorem d_Mo_named_226 : decode b_Mo_named 226 = .ok (.ifCond .eq 16, 3) := by decide +kernel
theorem d_Mo_named_229 : decode b_Mo_named 229 = .ok (.aload_n 0, 1) := by decide +kernel
theorem d_Mo_named_230 : decode b_Mo_named 230 = .ok (.iload 6, 2) := by decide +kernel
theorem d_Mo_named_232 : decode b_Mo_named 232 = .ok (.invokevirtual 505, 3) := by decide +kernel
theorem d_Mo_named_235 : decode b_Mo_named 235 = .ok (.ifCond .eq 7, 3) := by decide +kernel
theorem d_Mo_named_238 : decode b_Mo_named 238 = .ok (.iconst 1, 1) := by decide +kernel
theorem d_Mo_named_239 : decode b_Mo_named 239 = .ok (.goto 4, 3) := by decide +kernel
theorem d_Mo_named_242 : decode b_Mo_named 242 = .ok (.iconst 0, 1) := by decide +kernel
theorem d_Mo_named_243 : decode b_Mo_named 243 = .ok (.ireturn, 1) := by decide +kernel
theorem d_Mo_named_244 : decode b_Mo_named 244 = .ok (.aload_n 0, 1) := by decide +kernel
theorem d_Mo_named_245 : decode b_Mo_named 245 = .ok (.iload 5, 2) := by decide +kernel
theorem d_Mo_named_247 : decode b_Mo_named 247 = .ok (.invokevirtual 505, 3) := by decide +kernel
theorem d_Mo_named_250 : decode b_Mo_named 250 = .ok (.ifCond .eq 20, 3) := by decide +kernel
theorem d_Mo_named_253 : decode b_Mo_named 253 = .ok (.iload_n 3, 1) := by decide +kernel
theorem d_Mo_named_254 : decode b_Mo_named 254 = .ok (.invokestatic 508, 3) := by decide +kernel
theorem d_Mo_named_257 : decode b_Mo_named 257 = .ok (.aload_n 0, 1) := by decide +kernel
theorem d_Mo_named_258 : decode b_Mo_named 258 = .ok (.getfield 50, 3) := by decide +kernel
theorem d_Mo_named_261 : decode b_Mo_named 261 = .ok (.iload_n 1, 1) := by decide +kernel
theorem d_Mo_named_262 : decode b_Mo_named 262 = .ok (.iaload, 1) := by decide +kernel
theorem d_Mo_named_263 : decode b_Mo_named 263 = .ok (.if_icmp .ge 7, 3) := by decide +kernel
theorem d_Mo_named_266 : decode b_Mo_named 266 = .ok (.iconst 1, 1) := by decide +kernel
theorem d_Mo_named_267 : decode b_Mo_named 267 = .ok (.goto 4, 3) := by decide +kernel
theorem d_Mo_named_270 : decode b_Mo_named 270 = .ok (.iconst 0, 1) := by decide +kernel
theorem d_Mo_named_271 : decode b_Mo_named 271 = .ok (.ireturn, 1) := by decide +kernel
theorem d_Mo_named_272 : decode b_Mo_named 272 = .ok (.aload_n 0, 1) := by decide +kernel
theorem d_Mo_named_273 : decode b_Mo_named 273 = .ok (.iload 5, 2) := by decide +kernel
theorem d_Mo_named_275 : decode b_Mo_named 275 = .ok (.invokevirtual 505, 3) := by decide +kernel
theorem d_Mo_named_278 : decode b_Mo_named 278 = .ok (.ifCond .eq 22, 3) := by decide +kernel
theorem d_Mo_named_281 : decode b_Mo_named 281 = .ok (.iload 7, 2) := by decide +kernel
theorem d_Mo_named_283 : decode b_Mo_named 283 = .ok (.ifCond .eq 13, 3) := by decide +kernel
theorem d_Mo_named_286 : decode b_Mo_named 286 = .ok (.aload_n 0, 1) := by decide +kernel
theorem d_Mo_named_287 : decode b_Mo_named 287 = .ok (.iload_n 2, 1) := by decide +kernel
theorem d_Mo_named_288 : decode b_Mo_named 288 = .ok (.iconst 2, 1) := by decide +kernel
theorem d_Mo_named_289 : decode b_Mo_named 289 = .ok (.iadd, 1) := by decide +kernel
theorem d_Mo_named_290 : decode b_Mo_named 290 = .ok (.invokevirtual 498, 3) := by decide +kernel
theorem d_Mo_named_293 : decode b_Mo_named 293 = .ok (.ifCond .eq 7, 3) := by decide +kernel
theorem d_Mo_named_296 : decode b_Mo_named 296 = .ok (.iconst 1, 1) := by decide +kernel
theorem d_Mo_named_297 : decode b_Mo_named 297 = .ok (.goto 4, 3) := by decide +kernel
theorem d_Mo_named_300 : decode b_Mo_named 300 = .ok (.iconst 0, 1) := by decide +kernel
theorem d_Mo_named_301 : decode b_Mo_named 301 = .ok (.ireturn, 1) := by decide +kernel
theorem d_Mo_named_302 : decode b_Mo_named 302 = .ok (.aload_n 0, 1) := by decide +kernel
theorem d_Mo_named_303 : decode b_Mo_named 303 = .ok (.iload 5, 2) := by decide +kernel
theorem d_Mo_named_305 : decode b_Mo_named 305 = .ok (.iload 6, 2) := by decide +kernel
theorem d_Mo_named_307 : decode b_Mo_named 307 = .ok (.iadd, 1) := by decide +kernel
theorem d_Mo_named_308 : decode b_Mo_named 308 = .ok (.invokevirtual 505, 3) := by decide +kernel
theorem d_Mo_named_311 : decode b_Mo_named 311 = .ok (.ireturn, 1) := by decide +kernel
theorem d_Mo_named_312 : decode b_Mo_named 312 = .ok (.aload_n 0, 1) := by decide +kernel
theorem d_Mo_named_313 : decode b_Mo_named 313 = .ok (.iload 5, 2) := by decide +kernel
theorem d_Mo_named_315 : decode b_Mo_named 315 = .ok (.invokevirtual 505, 3) := by decide +kernel
theorem d_Mo_named_318 : decode b_Mo_named 318 = .ok (.ifCond .eq 18, 3) := by decide +kernel
theorem d_Mo_named_321 : decode b_Mo_named 321 = .ok (.iload 6, 2) := by decide +kernel
theorem d_Mo_named_323 : decode b_Mo_named 323 = .ok (.aload_n 0, 1) := by decide +kernel
theorem d_Mo_named_324 : decode b_Mo_named 324 = .ok (.getfield 41, 3) := by decide +kernel
theorem d_Mo_named_327 : decode b_Mo_named 327 = .ok (.iload_n 1, 1) := by decide +kernel
theorem d_Mo_named_328 : decode b_Mo_named 328 = .ok (.iaload, 1) := by decide +kernel
theorem d_Mo_named_329 : decode b_Mo_named 329 = .ok (.if_icmp .ge 7, 3) := by decide +kernel
theorem d_Mo_named_332 : decode b_Mo_named 332 = .ok (.iconst 1, 1) := by decide +kernel
theorem d_Mo_named_333 : decode b_Mo_named 333 = .ok (.goto 4, 3) := by decide +kernel
theorem d_Mo_named_336 : decode b_Mo_named 336 = .ok (.iconst 0, 1) := by decide +kernel
theorem d_Mo_named_337 : decode b_Mo_named 337 = .ok (.ireturn, 1) := by decide +kernel
theorem d_Mo_named_338 : decode b_Mo_named 338 = .ok (.aload_n 0, 1) := by decide +kernel
theorem d_Mo_named_339 : decode b_Mo_named 339 = .ok (.iload 5, 2) := by decide +kernel
theorem d_Mo_named_341 : decode b_Mo_named 341 = .ok (.invokevirtual 505, 3) := by decide +kernel
theorem d_Mo_named_344 : decode b_Mo_named 344 = .ok (.ifCond .eq 27, 3) := by decide +kernel
theorem d_Mo_named_347 : decode b_Mo_named 347 = .ok (.iload 6, 2) := by decide +kernel
theorem d_Mo_named_349 : decode b_Mo_named 349 = .ok (.aload_n 0, 1) := by decide +kernel
theorem d_Mo_named_350 : decode b_Mo_named 350 = .ok (.getfield 41, 3) := by decide +kernel
theorem d_Mo_named_353 : decode b_Mo_named 353 = .ok (.iload_n 1, 1) := by decide +kernel
theorem d_Mo_named_354 : decode b_Mo_named 354 = .ok (.iaload, 1) := by decide +kernel
theorem d_Mo_named_355 : decode b_Mo_named 355 = .ok (.if_icmp .ge 16, 3) := by decide +kernel
theorem d_Mo_named_358 : decode b_Mo_named 358 = .ok (.aload_n 0, 1) := by decide +kernel
theorem d_Mo_named_359 : decode b_Mo_named 359 = .ok (.iload 7, 2) := by decide +kernel
theorem d_Mo_named_361 : decode b_Mo_named 361 = .ok (.invokevirtual 511, 3) := by decide +kernel
theorem d_Mo_named_364 : decode b_Mo_named 364 = .ok (.ifCond .eq 7, 3) := by decide +kernel
theorem d_Mo_named_367 : decode b_Mo_named 367 = .ok (.iconst 1, 1) := by decide +kernel
theorem d_Mo_named_368 : decode b_Mo_named 368 = .ok (.goto 4, 3) := by decide +kernel
theorem d_Mo_named_371 : decode b_Mo_named 371 = .ok (.iconst 0, 1) := by decide +kernel
theorem d_Mo_named_372 : decode b_Mo_named 372 = .ok (.ireturn, 1) := by decide +kernel
theorem d_Mo_named_373 : decode b_Mo_named 373 = .ok (.aload_n 0, 1) := by decide +kernel
theorem d_Mo_named_374 : decode b_Mo_named 374 = .ok (.iload 5, 2) := by decide +kernel
theorem d_Mo_named_376 : decode b_Mo_named 376 = .ok (.invokevirtual 505, 3) := by decide +kernel
theorem d_Mo_named_379 : decode b_Mo_named 379 = .ok (.ifCond .eq 25, 3) := by decide +kernel
theorem d_Mo_named_382 : decode b_Mo_named 382 = .ok (.aload_n 0, 1) := by decide +kernel
theorem d_Mo_named_383 : decode b_Mo_named 383 = .ok (.iload 6, 2) := by decide +kernel
theorem d_Mo_named_385 : decode b_Mo_named 385 = .ok (.invokevirtual 505, 3) := by decide +kernel
theorem d_Mo_named_388 : decode b_Mo_named 388 = .ok (.ifCond .eq 16, 3) := by decide +kernel
theorem d_Mo_named_391 : decode b_Mo_named 391 = .ok (.aload_n 0, 1) := by decide +kernel
theorem d_Mo_named_392 : decode b_Mo_named 392 = .ok (.iload 7, 2) := by decide +kernel
theorem d_Mo_named_394 : decode b_Mo_named 394 = .ok (.invokevirtual 511, 3) := by decide +kernel
theorem d_Mo_named_397 : decode b_Mo_named 397 = .ok (.ifCond .eq 7, 3) := by decide +kernel
theorem d_Mo_named_400 : decode b_Mo_named 400 = .ok (.iconst 1, 1) := by decide +kernel
theorem d_Mo_named_401 : decode b_Mo_named 401 = .ok (.goto 4, 3) := by decide +kernel
theorem d_Mo_named_404 : decode b_Mo_named 404 = .ok (.iconst 0, 1) := by decide +kernel
theorem d_Mo_named_405 : decode b_Mo_named 405 = .ok (.ireturn, 1) := by decide +kernel
theorem d_Mo_named_406 : decode b_Mo_named 406 = .ok (.iload 5, 2) := by decide +kernel
theorem d_Mo_named_408 : decode b_Mo_named 408 = .ok (.aload_n 0, 1) := by decide +kernel
theorem d_Mo_named_409 : decode b_Mo_named 409 = .ok (.getfield 41, 3) := by decide +kernel
theorem d_Mo_named_412 : decode b_Mo_named 412 = .ok (.iload_n 1, 1) := by decide +kernel
theorem d_Mo_named_413 : decode b_Mo_named 413 = .ok (.iaload, 1) := by decide +kernel
theorem d_Mo_named_414 : decode b_Mo_named 414 = .ok (.if_icmp .ge 25, 3) := by decide +kernel
theorem d_Mo_named_417 : decode b_Mo_named 417 = .ok (.aload_n 0, 1) := by decide +kernel
theorem d_Mo_named_418 : decode b_Mo_named 418 = .ok (.iload 6, 2) := by decide +kernel
theorem d_Mo_named_420 : decode b_Mo_named 420 = .ok (.invokevirtual 511, 3) := by decide +kernel
theorem d_Mo_named_423 : decode b_Mo_named 423 = .ok (.ifCond .eq 16, 3) := by decide +kernel
theorem d_Mo_named_426 : decode b_Mo_named 426 = .ok (.aload_n 0, 1) := by decide +kernel
theorem d_Mo_named_427 : decode b_Mo_named 427 = .ok (.iload 7, 2) := by decide +kernel
theorem d_Mo_named_429 : decode b_Mo_named 429 = .ok (.invokevirtual 511, 3) := by decide +kernel
theorem d_Mo_named_432 : decode b_Mo_named 432 = .ok (.ifCond .eq 7, 3) := by decide +kernel
theorem d_Mo_named_435 : decode b_Mo_named 435 = .ok (.iconst 1, 1) := by decide +kernel
theorem d_Mo_named_436 : decode b_Mo_named 436 = .ok (.goto 4, 3) := by decide +kernel
theorem d_Mo_named_439 : decode b_Mo_named 439 = .ok (.iconst 0, 1) := by decide +kernel
theorem d_Mo_named_440 : decode b_Mo_named 440 = .ok (.ireturn, 1) := by decide +kernel
theorem d_Mo_named_441 : decode b_Mo_named 441 = .ok (.aload_n 0, 1) := by decide +kernel
theorem d_Mo_named_442 : decode b_Mo_named 442 = .ok (.iload 5, 2) := by decide +kernel
theorem d_Mo_named_444 : decode b_Mo_named 444 = .ok (.invokevirtual 505, 3) := by decide +kernel
theorem d_Mo_named_447 : decode b_Mo_named 447 = .ok (.ifCond .eq 25, 3) := by decide +kernel
theorem d_Mo_named_450 : decode b_Mo_named 450 = .ok (.aload_n 0, 1) := by decide +kernel
theorem d_Mo_named_451 : decode b_Mo_named 451 = .ok (.iload 6, 2) := by decide +kernel
theorem d_Mo_named_453 : decode b_Mo_named 453 = .ok (.invokevirtual 511, 3) := by decide +kernel
theorem d_Mo_named_456 : decode b_Mo_named 456 = .ok (.ifCond .eq 16, 3) := by decide +kernel
theorem d_Mo_named_459 : decode b_Mo_named 459 = .ok (.aload_n 0, 1) := by decide +kernel
theorem d_Mo_named_460 : decode b_Mo_named 460 = .ok (.iload 7, 2) := by decide +kernel
theorem d_Mo_named_462 : decode b_Mo_named 462 = .ok (.invokevirtual 511, 3) := by decide +kernel
theorem d_Mo_named_465 : decode b_Mo_named 465 = .ok (.ifCond .eq 7, 3) := by decide +kernel
theorem d_Mo_named_468 : decode b_Mo_named 468 = .ok (.iconst 1, 1) := by decide +kernel
theorem d_Mo_named_469 : decode b_Mo_named 469 = .ok (.goto 4, 3) := by decide +kernel
theorem d_Mo_named_472 : decode b_Mo_named 472 = .ok (.iconst 0, 1) := by decide +kernel
theorem d_Mo_named_473 : decode b_Mo_named 473 = .ok (.ireturn, 1) := by decide +kernel
theorem d_Mo_named_474 : decode b_Mo_named 474 = .ok (.aload_n 0, 1) := by decide +kernel
theorem d_Mo_named_475 : decode b_Mo_named 475 = .ok (.iload 5, 2) := by decide +kernel
theorem d_Mo_named_477 : decode b_Mo_named 477 = .ok (.invokevirtual 505, 3) := by decide +kernel
theorem d_Mo_named_480 : decode b_Mo_named 480 = .ok (.ireturn, 1) := by decide +kernel
theorem d_Mo_named_481 : decode b_Mo_named 481 = .ok (.aload_n 0, 1) := by decide +kernel
theorem d_Mo_named_482 : decode b_Mo_named 482 = .ok (.iload 5, 2) := by decide +kernel
theorem d_Mo_named_484 : decode b_Mo_named 484 = .ok (.iconst 1, 1) := by decide +kernel
theorem d_Mo_named_485 : decode b_Mo_named 485 = .ok (.iadd, 1) := by decide +kernel
theorem d_Mo_named_486 : decode b_Mo_named 486 = .ok (.invokevirtual 505, 3) := by decide +kernel
theorem d_Mo_named_489 : decode b_Mo_named 489 = .ok (.ifCond .eq 25, 3) := by decide +kernel
theorem d_Mo_named_492 : decode b_Mo_named 492 = .ok (.aload_n 0, 1) := by decide +kernel
theorem d_Mo_named_493 : decode b_Mo_named 493 = .ok (.iload 6, 2) := by decide +kernel
theorem d_Mo_named_495 : decode b_Mo_named 495 = .ok (.invokevirtual 505, 3) := by decide +kernel
theorem d_Mo_named_498 : decode b_Mo_named 498 = .ok (.ifCond .eq 16, 3) := by decide +kernel
theorem d_Mo_named_501 : decode b_Mo_named 501 = .ok (.aload_n 0, 1) := by decide +kernel
theorem d_Mo_named_502 : decode b_Mo_named 502 = .ok (.iload 7, 2) := by decide +kernel
theorem d_Mo_named_504 : decode b_Mo_named 504 = .ok (.invokevirtual 511, 3) := by decide +kernel
theorem d_Mo_named_507 : decode b_Mo_named 507 = .ok (.ifCond .eq 7, 3) := by decide +kernel
theorem d_Mo_named_510 : decode b_Mo_named 510 = .ok (.iconst 1, 1) := by decide +kernel
theorem d_Mo_named_511 : decode b_Mo_named 511 = .ok (.goto 4, 3) := by decide +kernel
theorem d_Mo_named_514 : decode b_Mo_named 514 = .ok (.iconst 0, 1) := by decide +kernel
theorem d_Mo_named_515 : decode b_Mo_named 515 = .ok (.ireturn, 1) := by decide +kernel
theorem d_Mo_named_516 : decode b_Mo_named 516 = .ok (.aload_n 0, 1) := by decide +kernel
theorem d_Mo_named_517 : decode b_Mo_named 517 = .ok (.iload 5, 2) := by decide +kernel
theorem d_Mo_named_519 : decode b_Mo_named 519 = .ok (.invokevirtual 505, 3) := by decide +kernel
theorem d_Mo_named_522 : decode b_Mo_named 522 = .ok (.ifCond .eq 25, 3) := by decide +kernel
theorem d_Mo_named_525 : decode b_Mo_named 525 = .ok (.aload_n 0, 1) := by decide +kernel
theorem d_Mo_named_526 : decode b_Mo_named 526 = .ok (.iload 6, 2) := by decide +kernel
theorem d_Mo_named_528 : decode b_Mo_named 528 = .ok (.invokevirtual 511, 3) := by decide +kernel
theorem d_Mo_named_531 : decode b_Mo_named 531 = .ok (.ifCond .eq 16, 3) := by decide +kernel
theorem d_Mo_named_534 : decode b_Mo_named 534 = .ok (.aload_n 0, 1) := by decide +kernel
theorem d_Mo_named_535 : decode b_Mo_named 535 = .ok (.iload 7, 2) := by decide +kernel
theorem d_Mo_named_537 : decode b_Mo_named 537 = .ok (.invokevirtual 511, 3) := by decide +kernel
theorem d_Mo_named_540 : decode b_Mo_named 540 = .ok (.ifCond .eq 7, 3) := by decide +kernel
theorem d_Mo_named_543 : decode b_Mo_named 543 = .ok (.iconst 1, 1) := by decide +kernel
theorem d_Mo_named_544 : decode b_Mo_named 544 = .ok (.goto 4, 3) := by decide +kernel
theorem d_Mo_named_547 : decode b_Mo_named 547 = .ok (.iconst 0, 1) := by decide +kernel
theorem d_Mo_named_548 : decode b_Mo_named 548 = .ok (.ireturn, 1) := by decide +kernel
theorem d_Mo_named_549 : decode b_Mo_named 549 = .ok (.aload_n 0, 1) := by decide +kernel
theorem d_Mo_named_550 : decode b_Mo_named 550 = .ok (.iload 5, 2) := by decide +kernel
theorem d_Mo_named_552 : decode b_Mo_named 552 = .ok (.invokevirtual 505, 3) := by decide +kernel
theorem d_Mo_named_555 : decode b_Mo_named 555 = .ok (.ifCond .eq 23, 3) := by decide +kernel
theorem d_Mo_named_558 : decode b_Mo_named 558 = .ok (.iload 6, 2) := by decide +kernel
theorem d_Mo_named_560 : decode b_Mo_named 560 = .ok (.iload 7, 2) := by decide +kernel
theorem d_Mo_named_562 : decode b_Mo_named 562 = .ok (.if_icmp .ge 16, 3) := by decide +kernel
theorem d_Mo_named_565 : decode b_Mo_named 565 = .ok (.aload_n 0, 1) := by decide +kernel
theorem d_Mo_named_566 : decode b_Mo_named 566 = .ok (.iload 7, 2) := by decide +kernel
theorem d_Mo_named_568 : decode b_Mo_named 568 = .ok (.invokevirtual 505, 3) := by decide +kernel
theorem d_Mo_named_571 : decode b_Mo_named 571 = .ok (.ifCond .eq 7, 3) := by decide +kernel
theorem d_Mo_named_574 : decode b_Mo_named 574 = .ok (.iconst 1, 1) := by decide +kernel
theorem d_Mo_named_575 : decode b_Mo_named 575 = .ok (.goto 4, 3) := by decide +kernel
theorem d_Mo_named_578 : decode b_Mo_named 578 = .ok (.iconst 0, 1) := by decide +kernel
theorem d_Mo_named_579 : decode b_Mo_named 579 = .ok (.ireturn, 1) := by decide +kernel
theorem d_Mo_named_580 : decode b_Mo_named 580 = .ok (.iload 5, 2) := by decide +kernel
theorem d_Mo_named_582 : decode b_Mo_named 582 = .ok (.ifCond .eq 14, 3) := by decide +kernel
theorem d_Mo_named_585 : decode b_Mo_named 585 = .ok (.aload_n 0, 1) := by decide +kernel
theorem d_Mo_named_586 : decode b_Mo_named 586 = .ok (.iload 5, 2) := by decide +kernel
theorem d_Mo_named_588 : decode b_Mo_named 588 = .ok (.iconst 1, 1) := by decide +kernel
theorem d_Mo_named_589 : decode b_Mo_named 589 = .ok (.isub, 1) := by decide +kernel
theorem d_Mo_named_590 : decode b_Mo_named 590 = .ok (.invokevirtual 505, 3) := by decide +kernel
theorem d_Mo_named_593 : decode b_Mo_named 593 = .ok (.ifCond .eq 22, 3) := by decide +kernel
theorem d_Mo_named_596 : decode b_Mo_named 596 = .ok (.aload_n 0, 1) := by decide +kernel
theorem d_Mo_named_597 : decode b_Mo_named 597 = .ok (.iload_n 2, 1) := by decide +kernel
theorem d_Mo_named_598 : decode b_Mo_named 598 = .ok (.iconst 1, 1) := by decide +kernel
theorem d_Mo_named_599 : decode b_Mo_named 599 = .ok (.iadd, 1) := by decide +kernel
theorem d_Mo_named_600 : decode b_Mo_named 600 = .ok (.iload_n 3, 1) := by decide +kernel
theorem d_Mo_named_601 : decode b_Mo_named 601 = .ok (.invokestatic 513, 3) := by decide +kernel
theorem d_Mo_named_604 : decode b_Mo_named 604 = .ok (.iadd, 1) := by decide +kernel
theorem d_Mo_named_605 : decode b_Mo_named 605 = .ok (.invokevirtual 498, 3) := by decide +kernel
theorem d_Mo_named_608 : decode b_Mo_named 608 = .ok (.ifCond .eq 7, 3) := by decide +kernel
theorem d_Mo_named_611 : decode b_Mo_named 611 = .ok (.iconst 1, 1) := by decide +kernel
theorem d_Mo_named_612 : decode b_Mo_named 612 = .ok (.goto 4, 3) := by decide +kernel
theorem d_Mo_named_615 : decode b_Mo_named 615 = .ok (.iconst 0, 1) := by decide +kernel
theorem d_Mo_named_616 : decode b_Mo_named 616 = .ok (.ireturn, 1) := by decide +kernel
theorem d_Mo_named_617 : decode b_Mo_named 617 = .ok (.iload 5, 2) := by decide +kernel
theorem d_Mo_named_619 : decode b_Mo_named 619 = .ok (.iconst 2, 1) := by decide +kernel
theorem d_Mo_named_620 : decode b_Mo_named 620 = .ok (.if_icmp .ge 25, 3) := by decide +kernel
theorem d_Mo_named_623 : decode b_Mo_named 623 = .ok (.aload_n 0, 1) := by decide +kernel
theorem d_Mo_named_624 : decode b_Mo_named 624 = .ok (.iload 6, 2) := by decide +kernel
theorem d_Mo_named_626 : decode b_Mo_named 626 = .ok (.invokevirtual 511, 3) := by decide +kernel
theorem d_Mo_named_629 : decode b_Mo_named 629 = .ok (.ifCond .eq 16, 3) := by decide +kernel
theorem d_Mo_named_632 : decode b_Mo_named 632 = .ok (.aload_n 0, 1) := by decide +kernel
theorem d_Mo_named_633 : decode b_Mo_named 633 = .ok (.iload 7, 2) := by decide +kernel
theorem d_Mo_named_635 : decode b_Mo_named 635 = .ok (.invokevirtual 511, 3) := by decide +kernel
theorem d_Mo_named_638 : decode b_Mo_named 638 = .ok (.ifCond .eq 7, 3) := by decide +kernel
theorem d_Mo_named_641 : decode b_Mo_named 641 = .ok (.iconst 1, 1) := by decide +kernel
theorem d_Mo_named_642 : decode b_Mo_named 642 = .ok (.goto 4, 3) := by decide +kernel
theorem d_Mo_named_645 : decode b_Mo_named 645 = .ok (.iconst 0, 1) := by decide +kernel
theorem d_Mo_named_646 : decode b_Mo_named 646 = .ok (.ireturn, 1) := by decide +kernel
theorem d_Mo_named_647 : decode b_Mo_named 647 = .ok (.aload_n 0, 1) := by decide +kernel
theorem d_Mo_named_648 : decode b_Mo_named 648 = .ok (.iload 5, 2) := by decide +kernel
theorem d_Mo_named_650 : decode b_Mo_named 650 = .ok (.invokevirtual 505, 3) := by decide +kernel
theorem d_Mo_named_653 : decode b_Mo_named 653 = .ok (.ifCond .eq 13, 3) := by decide +kernel
theorem d_Mo_named_656 : decode b_Mo_named 656 = .ok (.iload 7, 2) := by decide +kernel
theorem d_Mo_named_658 : decode b_Mo_named 658 = .ok (.iconst 2, 1) := by decide +kernel
theorem d_Mo_named_659 : decode b_Mo_named 659 = .ok (.if_icmp .ge 7, 3) := by decide +kernel
theorem d_Mo_named_662 : decode b_Mo_named 662 = .ok (.iconst 1, 1) := by decide +kernel
theorem d_Mo_named_663 : decode b_Mo_named 663 = .ok (.goto 4, 3) := by decide +kernel
theorem d_Mo_named_666 : decode b_Mo_named 666 = .ok (.iconst 0, 1) := by decide +kernel
theorem d_Mo_named_667 : decode b_Mo_named 667 = .ok (.ireturn, 1) := by decide +kernel
theorem d_Mo_named_668 : decode b_Mo_named 668 = .ok (.aload_n 0, 1) := by decide +kernel
theorem d_Mo_named_669 : decode b_Mo_named 669 = .ok (.iload 5, 2) := by decide +kernel
theorem d_Mo_named_671 : decode b_Mo_named 671 = .ok (.invokevirtual 505, 3) := by decide +kernel
theorem d_Mo_named_674 : decode b_Mo_named 674 = .ok (.ifCond .eq 22, 3) := by decide +kernel
theorem d_Mo_named_677 : decode b_Mo_named 677 = .ok (.aload_n 0, 1) := by decide +kernel
theorem d_Mo_named_678 : decode b_Mo_named 678 = .ok (.iload 6, 2) := by decide +kernel
theorem d_Mo_named_680 : decode b_Mo_named 680 = .ok (.invokevirtual 505, 3) := by decide +kernel
theorem d_Mo_named_683 : decode b_Mo_named 683 = .ok (.ifCond .eq 13, 3) := by decide +kernel
theorem d_Mo_named_686 : decode b_Mo_named 686 = .ok (.iload 7, 2) := by decide +kernel
theorem d_Mo_named_688 : decode b_Mo_named 688 = .ok (.iconst 2, 1) := by decide +kernel
theorem d_Mo_named_689 : decode b_Mo_named 689 = .ok (.if_icmp .ge 7, 3) := by decide +kernel
theorem d_Mo_named_692 : decode b_Mo_named 692 = .ok (.iconst 1, 1) := by decide +kernel
theorem d_Mo_named_693 : decode b_Mo_named 693 = .ok (.goto 4, 3) := by decide +kernel
theorem d_Mo_named_696 : decode b_Mo_named 696 = .ok (.iconst 0, 1) := by decide +kernel
theorem d_Mo_named_697 : decode b_Mo_named 697 = .ok (.ireturn, 1) := by decide +kernel
theorem d_Mo_named_698 : decode b_Mo_named 698 = .ok (.aload_n 0, 1) := by decide +kernel
theorem d_Mo_named_699 : decode b_Mo_named 699 = .ok (.iload 5, 2) := by decide +kernel
theorem d_Mo_named_701 : decode b_Mo_named 701 = .ok (.invokevirtual 505, 3) := by decide +kernel
theorem d_Mo_named_704 : decode b_Mo_named 704 = .ok (.ifCond .eq 46, 3) := by decide +kernel
theorem d_Mo_named_707 : decode b_Mo_named 707 = .ok (.iload 6, 2) := by decide +kernel
theorem d_Mo_named_709 : decode b_Mo_named 709 = .ok (.ifCond .eq 17, 3) := by decide +kernel
theorem d_Mo_named_712 : decode b_Mo_named 712 = .ok (.aload_n 0, 1) := by decide +kernel
theorem d_Mo_named_713 : decode b_Mo_named 713 = .ok (.iload 5, 2) := by decide +kernel
theorem d_Mo_named_715 : decode b_Mo_named 715 = .ok (.iload 6, 2) := by decide +kernel
theorem d_Mo_named_717 : decode b_Mo_named 717 = .ok (.iadd, 1) := by decide +kernel
theorem d_Mo_named_718 : decode b_Mo_named 718 = .ok (.iconst 1, 1) := by decide +kernel
theorem d_Mo_named_719 : decode b_Mo_named 719 = .ok (.isub, 1) := by decide +kernel
theorem d_Mo_named_720 : decode b_Mo_named 720 = .ok (.invokevirtual 505, 3) := by decide +kernel
theorem d_Mo_named_723 : decode b_Mo_named 723 = .ok (.ifCond .eq 27, 3) := by decide +kernel
theorem d_Mo_named_726 : decode b_Mo_named 726 = .ok (.iload 7, 2) := by decide +kernel
theorem d_Mo_named_728 : decode b_Mo_named 728 = .ok (.iconst 2, 1) := by decide +kernel
theorem d_Mo_named_729 : decode b_Mo_named 729 = .ok (.if_icmp .lt 17, 3) := by decide +kernel
theorem d_Mo_named_732 : decode b_Mo_named 732 = .ok (.aload_n 0, 1) := by decide +kernel
theorem d_Mo_named_733 : decode b_Mo_named 733 = .ok (.iload 5, 2) := by decide +kernel
theorem d_Mo_named_735 : decode b_Mo_named 735 = .ok (.iload 7, 2) := by decide +kernel
theorem d_Mo_named_737 : decode b_Mo_named 737 = .ok (.iadd, 1) := by decide +kernel
theorem d_Mo_named_738 : decode b_Mo_named 738 = .ok (.iconst 2, 1) := by decide +kernel
theorem d_Mo_named_739 : decode b_Mo_named 739 = .ok (.isub, 1) := by decide +kernel
theorem d_Mo_named_740 : decode b_Mo_named 740 = .ok (.invokevirtual 505, 3) := by decide +kernel
theorem d_Mo_named_743 : decode b_Mo_named 743 = .ok (.ifCond .eq 7, 3) := by decide +kernel
theorem d_Mo_named_746 : decode b_Mo_named 746 = .ok (.iconst 1, 1) := by decide +kernel
theorem d_Mo_named_747 : decode b_Mo_named 747 = .ok (.goto 4, 3) := by decide +kernel
theorem d_Mo_named_750 : decode b_Mo_named 750 = .ok (.iconst 0, 1) := by decide +kernel
theorem d_Mo_named_751 : decode b_Mo_named 751 = .ok (.ireturn, 1) := by decide +kernel
theorem d_Mo_named_752 : decode b_Mo_named 752 = .ok (.aload_n 0, 1) := by decide +kernel
theorem d_Mo_named_753 : decode b_Mo_named 753 = .ok (.iload 5, 2) := by decide +kernel
theorem d_Mo_named_755 : decode b_Mo_named 755 = .ok (.invokevirtual 505, 3) := by decide +kernel
theorem d_Mo_named_758 : decode b_Mo_named 758 = .ok (.ifCond .eq 26, 3) := by decide +kernel
theorem d_Mo_named_761 : decode b_Mo_named 761 = .ok (.iload 6, 2) := by decide +kernel
theorem d_Mo_named_763 : decode b_Mo_named 763 = .ok (.ifCond .eq 17, 3) := by decide +kernel
theorem d_Mo_named_766 : decode b_Mo_named 766 = .ok (.aload_n 0, 1) := by decide +kernel
theorem d_Mo_named_767 : decode b_Mo_named 767 = .ok (.iload 5, 2) := by decide +kernel
theorem d_Mo_named_769 : decode b_Mo_named 769 = .ok (.iload 6, 2) := by decide +kernel
theorem d_Mo_named_771 : decode b_Mo_named 771 = .ok (.iadd, 1) := by decide +kernel
theorem d_Mo_named_772 : decode b_Mo_named 772 = .ok (.iconst 1, 1) := by decide +kernel
theorem d_Mo_named_773 : decode b_Mo_named 773 = .ok (.isub, 1) := by decide +kernel
theorem d_Mo_named_774 : decode b_Mo_named 774 = .ok (.invokevirtual 505, 3) := by decide +kernel
theorem d_Mo_named_777 : decode b_Mo_named 777 = .ok (.ifCond .eq 7, 3) := by decide +kernel
theorem d_Mo_named_780 : decode b_Mo_named 780 = .ok (.iconst 1, 1) := by decide +kernel
theorem d_Mo_named_781 : decode b_Mo_named 781 = .ok (.goto 4, 3) := by decide +kernel
theorem d_Mo_named_784 : decode b_Mo_named 784 = .ok (.iconst 0, 1) := by decide +kernel
theorem d_Mo_named_785 : decode b_Mo_named 785 = .ok (.ireturn, 1) := by decide +kernel
theorem d_Mo_named_786 : decode b_Mo_named 786 = .ok (.aload_n 0, 1) := by decide +kernel
theorem d_Mo_named_787 : decode b_Mo_named 787 = .ok (.iload 5, 2) := by decide +kernel
theorem d_Mo_named_789 : decode b_Mo_named 789 = .ok (.invokevirtual 505, 3) := by decide +kernel
theorem d_Mo_named_792 : decode b_Mo_named 792 = .ok (.ifCond .eq 27, 3) := by decide +kernel
theorem d_Mo_named_795 : decode b_Mo_named 795 = .ok (.iload 6, 2) := by decide +kernel
theorem d_Mo_named_797 : decode b_Mo_named 797 = .ok (.iconst 2, 1) := by decide +kernel
theorem d_Mo_named_798 : decode b_Mo_named 798 = .ok (.if_icmp .lt 17, 3) := by decide +kernel
theorem d_Mo_named_801 : decode b_Mo_named 801 = .ok (.aload_n 0, 1) := by decide +kernel
theorem d_Mo_named_802 : decode b_Mo_named 802 = .ok (.iload 5, 2) := by decide +kernel
theorem d_Mo_named_804 : decode b_Mo_named 804 = .ok (.iload 6, 2) := by decide +kernel
theorem d_Mo_named_806 : decode b_Mo_named 806 = .ok (.iadd, 1) := by decide +kernel
theorem d_Mo_named_807 : decode b_Mo_named 807 = .ok (.iconst 2, 1) := by decide +kernel
theorem d_Mo_named_808 : decode b_Mo_named 808 = .ok (.isub, 1) := by decide +kernel
theorem d_Mo_named_809 : decode b_Mo_named 809 = .ok (.invokevirtual 505, 3) := by decide +kernel
theorem d_Mo_named_812 : decode b_Mo_named 812 = .ok (.ifCond .eq 7, 3) := by decide +kernel
theorem d_Mo_named_815 : decode b_Mo_named 815 = .ok (.iconst 1, 1) := by decide +kernel
theorem d_Mo_named_816 : decode b_Mo_named 816 = .ok (.goto 4, 3) := by decide +kernel
theorem d_Mo_named_819 : decode b_Mo_named 819 = .ok (.iconst 0, 1) := by decide +kernel
theorem d_Mo_named_820 : decode b_Mo_named 820 = .ok (.ireturn, 1) := by decide +kernel
theorem d_Mo_named_821 : decode b_Mo_named 821 = .ok (.aload_n 0, 1) := by decide +kernel
theorem d_Mo_named_822 : decode b_Mo_named 822 = .ok (.iload 5, 2) := by decide +kernel
theorem d_Mo_named_824 : decode b_Mo_named 824 = .ok (.iconst 3, 1) := by decide +kernel
theorem d_Mo_named_825 : decode b_Mo_named 825 = .ok (.iadd, 1) := by decide +kernel
theorem d_Mo_named_826 : decode b_Mo_named 826 = .ok (.invokevirtual 505, 3) := by decide +kernel
theorem d_Mo_named_829 : decode b_Mo_named 829 = .ok (.ifCond .eq 22, 3) := by decide +kernel
theorem d_Mo_named_832 : decode b_Mo_named 832 = .ok (.aload_n 0, 1) := by decide +kernel
theorem d_Mo_named_833 : decode b_Mo_named 833 = .ok (.iload_n 2, 1) := by decide +kernel
theorem d_Mo_named_834 : decode b_Mo_named 834 = .ok (.iconst 1, 1) := by decide +kernel
theorem d_Mo_named_835 : decode b_Mo_named 835 = .ok (.iadd, 1) := by decide +kernel
theorem d_Mo_named_836 : decode b_Mo_named 836 = .ok (.iload_n 3, 1) := by decide +kernel
theorem d_Mo_named_837 : decode b_Mo_named 837 = .ok (.invokestatic 513, 3) := by decide +kernel
theorem d_Mo_named_840 : decode b_Mo_named 840 = .ok (.iadd, 1) := by decide +kernel
theorem d_Mo_named_841 : decode b_Mo_named 841 = .ok (.invokevirtual 498, 3) := by decide +kernel
theorem d_Mo_named_844 : decode b_Mo_named 844 = .ok (.ifCond .eq 7, 3) := by decide +kernel
theorem d_Mo_named_847 : decode b_Mo_named 847 = .ok (.iconst 1, 1) := by decide +kernel
theorem d_Mo_named_848 : decode b_Mo_named 848 = .ok (.goto 4, 3) := by decide +kernel
theorem d_Mo_named_851 : decode b_Mo_named 851 = .ok (.iconst 0, 1) := by decide +kernel
theorem d_Mo_named_852 : decode b_Mo_named 852 = .ok (.ireturn, 1) := by decide +kernel
theorem d_Mo_named_853 : decode b_Mo_named 853 = .ok (.aload_n 0, 1) := by decide +kernel
theorem d_Mo_named_854 : decode b_Mo_named 854 = .ok (.iload 5, 2) := by decide +kernel
theorem d_Mo_named_856 : decode b_Mo_named 856 = .ok (.iconst 3, 1) := by decide +kernel
theorem d_Mo_named_857 : decode b_Mo_named 857 = .ok (.iadd, 1) := by decide +kernel
theorem d_Mo_named_858 : decode b_Mo_named 858 = .ok (.invokevirtual 505, 3) := by decide +kernel
theorem d_Mo_named_861 : decode b_Mo_named 861 = .ok (.ifCond .eq 22, 3) := by decide +kernel
theorem d_Mo_named_864 : decode b_Mo_named 864 = .ok (.aload_n 0, 1) := by decide +kernel
theorem d_Mo_named_865 : decode b_Mo_named 865 = .ok (.iload_n 2, 1) := by decide +kernel
theorem d_Mo_named_866 : decode b_Mo_named 866 = .ok (.iconst 1, 1) := by decide +kernel
theorem d_Mo_named_867 : decode b_Mo_named 867 = .ok (.iadd, 1) := by decide +kernel
theorem d_Mo_named_868 : decode b_Mo_named 868 = .ok (.iload_n 3, 1) := by decide +kernel
theorem d_Mo_named_869 : decode b_Mo_named 869 = .ok (.invokestatic 513, 3) := by decide +kernel
theorem d_Mo_named_872 : decode b_Mo_named 872 = .ok (.iadd, 1) := by decide +kernel
theorem d_Mo_named_873 : decode b_Mo_named 873 = .ok (.invokevirtual 498, 3) := by decide +kernel
theorem d_Mo_named_876 : decode b_Mo_named 876 = .ok (.ifCond .eq 7, 3) := by decide +kernel
theorem d_Mo_named_879 : decode b_Mo_named 879 = .ok (.iconst 1, 1) := by decide +kernel
theorem d_Mo_named_880 : decode b_Mo_named 880 = .ok (.goto 4, 3) := by decide +kernel
theorem d_Mo_named_883 : decode b_Mo_named 883 = .ok (.iconst 0, 1) := by decide +kernel
theorem d_Mo_named_884 : decode b_Mo_named 884 = .ok (.ireturn, 1) := by decide +kernel
theorem d_Mo_named_885 : decode b_Mo_named 885 = .ok (.iload 7, 2) := by decide +kernel
theorem d_Mo_named_887 : decode b_Mo_named 887 = .ok (.ifCond .le 21, 3) := by decide +kernel
theorem d_Mo_named_890 : decode b_Mo_named 890 = .ok (.aload_n 0, 1) := by decide +kernel
theorem d_Mo_named_891 : decode b_Mo_named 891 = .ok (.iload 5, 2) := by decide +kernel
theorem d_Mo_named_893 : decode b_Mo_named 893 = .ok (.iconst 2, 1) := by decide +kernel
theorem d_Mo_named_894 : decode b_Mo_named 894 = .ok (.iadd, 1) := by decide +kernel
theorem d_Mo_named_895 : decode b_Mo_named 895 = .ok (.iload 7, 2) := by decide +kernel
theorem d_Mo_named_897 : decode b_Mo_named 897 = .ok (.iadd, 1) := by decide +kernel
theorem d_Mo_named_898 : decode b_Mo_named 898 = .ok (.invokevirtual 505, 3) := by decide +kernel
theorem d_Mo_named_901 : decode b_Mo_named 901 = .ok (.ifCond .eq 7, 3) := by decide +kernel
theorem d_Mo_named_904 : decode b_Mo_named 904 = .ok (.iconst 1, 1) := by decide +kernel
theorem d_Mo_named_905 : decode b_Mo_named 905 = .ok (.goto 4, 3) := by decide +kernel
theorem d_Mo_named_908 : decode b_Mo_named 908 = .ok (.iconst 0, 1) := by decide +kernel
theorem d_Mo_named_909 : decode b_Mo_named 909 = .ok (.ireturn, 1) := by decide +kernel
theorem d_Mo_named_910 : decode b_Mo_named 910 = .ok (.aload_n 0, 1) := by decide +kernel
theorem d_Mo_named_911 : decode b_Mo_named 911 = .ok (.iload 5, 2) := by decide +kernel
theorem d_Mo_named_913 : decode b_Mo_named 913 = .ok (.iconst 1, 1) := by decide +kernel
theorem d_Mo_named_914 : decode b_Mo_named 914 = .ok (.iadd, 1) := by decide +kernel
theorem d_Mo_named_915 : decode b_Mo_named 915 = .ok (.invokevirtual 505, 3) := by decide +kernel
theorem d_Mo_named_918 : decode b_Mo_named 918 = .ok (.ifCond .eq 22, 3) := by decide +kernel
theorem d_Mo_named_921 : decode b_Mo_named 921 = .ok (.aload_n 0, 1) := by decide +kernel
theorem d_Mo_named_922 : decode b_Mo_named 922 = .ok (.iload_n 2, 1) := by decide +kernel
theorem d_Mo_named_923 : decode b_Mo_named 923 = .ok (.iconst 1, 1) := by decide +kernel
theorem d_Mo_named_924 : decode b_Mo_named 924 = .ok (.iadd, 1) := by decide +kernel
theorem d_Mo_named_925 : decode b_Mo_named 925 = .ok (.iload_n 3, 1) := by decide +kernel
theorem d_Mo_named_926 : decode b_Mo_named 926 = .ok (.invokestatic 513, 3) := by decide +kernel
theorem d_Mo_named_929 : decode b_Mo_named 929 = .ok (.iadd, 1) := by decide +kernel
theorem d_Mo_named_930 : decode b_Mo_named 930 = .ok (.invokevirtual 498, 3) := by decide +kernel
theorem d_Mo_named_933 : decode b_Mo_named 933 = .ok (.ifCond .eq 7, 3) := by decide +kernel
theorem d_Mo_named_936 : decode b_Mo_named 936 = .ok (.iconst 1, 1) := by decide +kernel
theorem d_Mo_named_937 : decode b_Mo_named 937 = .ok (.goto 4, 3) := by decide +kernel
theorem d_Mo_named_940 : decode b_Mo_named 940 = .ok (.iconst 0, 1) := by decide +kernel
theorem d_Mo_named_941 : decode b_Mo_named 941 = .ok (.ireturn, 1) := by decide +kernel
theorem d_Mo_named_942 : decode b_Mo_named 942 = .ok (.iload 7, 2) := by decide +kernel
theorem d_Mo_named_944 : decode b_Mo_named 944 = .ok (.ifCond .le 33, 3) := by decide +kernel
theorem d_Mo_named_947 : decode b_Mo_named 947 = .ok (.aload_n 0, 1) := by decide +kernel
theorem d_Mo_named_948 : decode b_Mo_named 948 = .ok (.iload 5, 2) := by decide +kernel
theorem d_Mo_named_950 : decode b_Mo_named 950 = .ok (.invokevirtual 505, 3) := by decide +kernel
theorem d_Mo_named_953 : decode b_Mo_named 953 = .ok (.ifCond .eq 24, 3) := by decide +kernel
theorem d_Mo_named_956 : decode b_Mo_named 956 = .ok (.iload 6, 2) := by decide +kernel
theorem d_Mo_named_958 : decode b_Mo_named 958 = .ok (.ifCond .eq 15, 3) := by decide +kernel
theorem d_Mo_named_961 : decode b_Mo_named 961 = .ok (.aload_n 0, 1) := by decide +kernel
theorem d_Mo_named_962 : decode b_Mo_named 962 = .ok (.iload 5, 2) := by decide +kernel
theorem d_Mo_named_964 : decode b_Mo_named 964 = .ok (.iload 6, 2) := by decide +kernel
theorem d_Mo_named_966 : decode b_Mo_named 966 = .ok (.iadd, 1) := by decide +kernel
theorem d_Mo_named_967 : decode b_Mo_named 967 = .ok (.invokevirtual 505, 3) := by decide +kernel
theorem d_Mo_named_970 : decode b_Mo_named 970 = .ok (.ifCond .eq 7, 3) := by decide +kernel
theorem d_Mo_named_973 : decode b_Mo_named 973 = .ok (.iconst 1, 1) := by decide +kernel
theorem d_Mo_named_974 : decode b_Mo_named 974 = .ok (.goto 4, 3) := by decide +kernel
theorem d_Mo_named_977 : decode b_Mo_named 977 = .ok (.iconst 0, 1) := by decide +kernel
theorem d_Mo_named_978 : decode b_Mo_named 978 = .ok (.ireturn, 1) := by decide +kernel
theorem d_Mo_named_979 : decode b_Mo_named 979 = .ok (.aload_n 0, 1) := by decide +kernel
theorem d_Mo_named_980 : decode b_Mo_named 980 = .ok (.iload 5, 2) := by decide +kernel
theorem d_Mo_named_982 : decode b_Mo_named 982 = .ok (.invokevirtual 505, 3) := by decide +kernel
theorem d_Mo_named_985 : decode b_Mo_named 985 = .ok (.ifCond .eq 20, 3) := by decide +kernel
theorem d_Mo_named_988 : decode b_Mo_named 988 = .ok (.iload_n 3, 1) := by decide +kernel
theorem d_Mo_named_989 : decode b_Mo_named 989 = .ok (.invokestatic 508, 3) := by decide +kernel
theorem d_Mo_named_992 : decode b_Mo_named 992 = .ok (.aload_n 0, 1) := by decide +kernel
theorem d_Mo_named_993 : decode b_Mo_named 993 = .ok (.getfield 62, 3) := by decide +kernel
theorem d_Mo_named_996 : decode b_Mo_named 996 = .ok (.iload_n 1, 1) := by decide +kernel
theorem d_Mo_named_997 : decode b_Mo_named 997 = .ok (.iaload, 1) := by decide +kernel
theorem d_Mo_named_998 : decode b_Mo_named 998 = .ok (.if_icmp .ge 7, 3) := by decide +kernel
theorem d_Mo_named_1001 : decode b_Mo_named 1001 = .ok (.iconst 1, 1) := by decide +kernel
theorem d_Mo_named_1002 : decode b_Mo_named 1002 = .ok (.goto 4, 3) := by decide +kernel
theorem d_Mo_named_1005 : decode b_Mo_named 1005 = .ok (.iconst 0, 1) := by decide +kernel
theorem d_Mo_named_1006 : decode b_Mo_named 1006 = .ok (.ireturn, 1) := by decide +kernel
theorem d_Mo_named_1007 : decode b_Mo_named 1007 = .ok (.aload_n 0, 1) := by decide +kernel
theorem d_Mo_named_1008 : decode b_Mo_named 1008 = .ok (.iload 5, 2) := by decide +kernel
theorem d_Mo_named_1010 : decode b_Mo_named 1010 = .ok (.invokevirtual 505, 3) := by decide +kernel
theorem d_Mo_named_1013 : decode b_Mo_named 1013 = .ok (.ifCond .eq 27, 3) := by decide +kernel
theorem d_Mo_named_1016 : decode b_Mo_named 1016 = .ok (.iload 6, 2) := by decide +kernel
theorem d_Mo_named_1018 : decode b_Mo_named 1018 = .ok (.iconst 2, 1) := by decide +kernel
theorem d_Mo_named_1019 : decode b_Mo_named 1019 = .ok (.if_icmp .lt 17, 3) := by decide +kernel
theorem d_Mo_named_1022 : decode b_Mo_named 1022 = .ok (.aload_n 0, 1) := by decide +kernel
theorem d_Mo_named_1023 : decode b_Mo_named 1023 = .ok (.iload 5, 2) := by decide +kernel
theorem d_Mo_named_1025 : decode b_Mo_named 1025 = .ok (.iload 6, 2) := by decide +kernel
theorem d_Mo_named_1027 : decode b_Mo_named 1027 = .ok (.iadd, 1) := by decide +kernel
theorem d_Mo_named_1028 : decode b_Mo_named 1028 = .ok (.iconst 2, 1) := by decide +kernel
theorem d_Mo_named_1029 : decode b_Mo_named 1029 = .ok (.isub, 1) := by decide +kernel
theorem d_Mo_named_1030 : decode b_Mo_named 1030 = .ok (.invokevirtual 505, 3) := by decide +kernel
theorem d_Mo_named_1033 : decode b_Mo_named 1033 = .ok (.ifCond .eq 7, 3) := by decide +kernel
theorem d_Mo_named_1036 : decode b_Mo_named 1036 = .ok (.iconst 1, 1) := by decide +kernel
theorem d_Mo_named_1037 : decode b_Mo_named 1037 = .ok (.goto 4, 3) := by decide +kernel
theorem d_Mo_named_1040 : decode b_Mo_named 1040 = .ok (.iconst 0, 1) := by decide +kernel
theorem d_Mo_named_1041 : decode b_Mo_named 1041 = .ok (.ireturn, 1) := by decide +kernel
theorem d_Mo_named_1042 : decode b_Mo_named 1042 = .ok (.iconst 0, 1) := by decide +kernel
theorem d_Mo_named_1043 : decode b_Mo_named 1043 = .ok (.ireturn, 1) := by decide +kernel
theorem kw_313 : Cond.methodLink R_Mo 505 y_Mo_reg ∈ wA := kinm (show _ ∈ tables_1 from (List.mem_append_right _ (List.mem_append_right _ (List.mem_append_right _ (List.mem_append_right _ (List.mem_append_right _ (List.mem_append_right _ (List.mem_append_right _ (List.mem_append_right _ (List.mem_append_right _ (List.mem_append_right _ (List.mem_append_left _ (List.mem_of_getElem? (l := tables_1_11) (i := 200) (by decide +kernel)))))))))))))) (by decide +kernel)
theorem kw_314 : Cond.methodLink R_Mo 508 y_Mo_bx ∈ wA := kinm (show _ ∈ tables_1 from (List.mem_append_right _ (List.mem_append_right _ (List.mem_append_right _ (List.mem_append_right _ (List.mem_append_right _ (List.mem_append_right _ (List.mem_append_right _ (List.mem_append_right _ (List.mem_append_right _ (List.mem_append_right _ (List.mem_append_left _ (List.mem_of_getElem? (l := tables_1_11) (i := 204) (by decide +kernel)))))))))))))) (by decide +kernel)
theorem kw_315 : Cond.methodLink R_Mo 498 y_Mo_goes ∈ wA := kinm (show _ ∈ tables_1 from (List.mem_append_right _ (List.mem_append_right _ (List.mem_append_right _ (List.mem_append_right _ (List.mem_append_right _ (List.mem_append_right _ (List.mem_append_right _ (List.mem_append_right _ (List.mem_append_right _ (List.mem_append_right _ (List.mem_append_left _ (List.mem_of_getElem? (l := tables_1_11) (i := 192) (by decide +kernel)))))))))))))) (by decide +kernel)
theorem kw_316 : Cond.methodLink R_Mo 511 y_Mo_rk ∈ wA := kinm (show _ ∈ tables_1 from (List.mem_append_right _ (List.mem_append_right _ (List.mem_append_right _ (List.mem_append_right _ (List.mem_append_right _ (List.mem_append_right _ (List.mem_append_right _ (List.mem_append_right _ (List.mem_append_right _ (List.mem_append_right _ (List.mem_append_left _ (List.mem_of_getElem? (l := tables_1_11) (i := 207) (by decide +kernel)))))))))))))) (by decide +kernel)
theorem kw_317 : Cond.fieldLink R_Mo 62 "LuaMachineModel" "children" "[I" ∈ wA := kinm (show _ ∈ tables_1 from (List.mem_append_right _ (List.mem_append_right _ (List.mem_append_right _ (List.mem_append_right _ (List.mem_append_right _ (List.mem_append_right _ (List.mem_append_right _ (List.mem_append_right _ (List.mem_append_right _ (List.mem_append_left _ (List.mem_of_getElem? (l := tables_1_10) (i := 71) (by decide +kernel))))))))))))) (by decide +kernel)
theorem kw_318 : Cond.instanceMethod y_Mo_named ∈ wA := kinm (show _ ∈ tables_1 from (List.mem_append_right _ (List.mem_append_right _ (List.mem_append_right _ (List.mem_append_right _ (List.mem_append_right _ (List.mem_append_right _ (List.mem_append_right _ (List.mem_append_right _ (List.mem_append_right _ (List.mem_append_right _ (List.mem_append_left _ (List.mem_of_getElem? (l := tables_1_11) (i := 198) (by decide +kernel)))))))))))))) (by decide +kernel)
theorem kw_319 : Cond.selects R_Mo y_Mo_named y_Mo_named ∈ wA := kinp 121 (by decide +kernel) (by decide +kernel)
theorem cv_Mo_named : CV y_Mo_named b_Mo_named 8 (some .boolean) 4 := ⟨kw_318, kw_319, kw_17, k_Mo_named, by decide +kernel⟩
theorem j_Mo_named_j242 {X : Cx} {q : PL} (g : Gd X y_Mo_named b_Mo_named 8 (some .boolean) 3 62 R_Mo) {o : (Int32) × S1} (hR : Rt X q o.2 (some (.int o.1)))  (s : S1) (ls : Array Slot) (hl : lv_has ls 8 []) (h : M_Mo_named_j242 s = some o) : WW X q s 242 ls [] := by
  unfold M_Mo_named_j242 at h
  refine ww_iconst (pc := 242) g.1 (v := 0) d_Mo_named_242 (by decide) ?_
  exact ww_zretH (pc := 243) g h hR (Or.inl rfl) d_Mo_named_243

theorem j_Mo_named_j270 {X : Cx} {q : PL} (g : Gd X y_Mo_named b_Mo_named 8 (some .boolean) 3 62 R_Mo) {o : (Int32) × S1} (hR : Rt X q o.2 (some (.int o.1)))  (s : S1) (ls : Array Slot) (hl : lv_has ls 8 []) (h : M_Mo_named_j270 s = some o) : WW X q s 270 ls [] := by
  unfold M_Mo_named_j270 at h
  refine ww_iconst (pc := 270) g.1 (v := 0) d_Mo_named_270 (by decide) ?_
  exact ww_zretH (pc := 271) g h hR (Or.inl rfl) d_Mo_named_271

theorem j_Mo_named_j300 {X : Cx} {q : PL} (g : Gd X y_Mo_named b_Mo_named 8 (some .boolean) 3 62 R_Mo) {o : (Int32) × S1} (hR : Rt X q o.2 (some (.int o.1)))  (s : S1) (ls : Array Slot) (hl : lv_has ls 8 []) (h : M_Mo_named_j300 s = some o) : WW X q s 300 ls [] := by
  unfold M_Mo_named_j300 at h
  refine ww_iconst (pc := 300) g.1 (v := 0) d_Mo_named_300 (by decide) ?_
  exact ww_zretH (pc := 301) g h hR (Or.inl rfl) d_Mo_named_301

theorem j_Mo_named_j296 {X : Cx} {q : PL} (g : Gd X y_Mo_named b_Mo_named 8 (some .boolean) 3 62 R_Mo) {o : (Int32) × S1} (hR : Rt X q o.2 (some (.int o.1)))  (s : S1) (ls : Array Slot) (hl : lv_has ls 8 []) (h : M_Mo_named_j296 s = some o) : WW X q s 296 ls [] := by
  unfold M_Mo_named_j296 at h
  refine ww_iconst (pc := 296) g.1 (v := 1) d_Mo_named_296 (by decide) ?_
  refine ww_goto (pc := 297) (tgt := 301) g.1 d_Mo_named_297 (by decide) ?_
  exact ww_zretH (pc := 301) g h hR (Or.inr rfl) d_Mo_named_301

theorem j_Mo_named_j336 {X : Cx} {q : PL} (g : Gd X y_Mo_named b_Mo_named 8 (some .boolean) 3 62 R_Mo) {o : (Int32) × S1} (hR : Rt X q o.2 (some (.int o.1)))  (s : S1) (ls : Array Slot) (hl : lv_has ls 8 []) (h : M_Mo_named_j336 s = some o) : WW X q s 336 ls [] := by
  unfold M_Mo_named_j336 at h
  refine ww_iconst (pc := 336) g.1 (v := 0) d_Mo_named_336 (by decide) ?_
  exact ww_zretH (pc := 337) g h hR (Or.inl rfl) d_Mo_named_337

theorem j_Mo_named_j371 {X : Cx} {q : PL} (g : Gd X y_Mo_named b_Mo_named 8 (some .boolean) 3 62 R_Mo) {o : (Int32) × S1} (hR : Rt X q o.2 (some (.int o.1)))  (s : S1) (ls : Array Slot) (hl : lv_has ls 8 []) (h : M_Mo_named_j371 s = some o) : WW X q s 371 ls [] := by
  unfold M_Mo_named_j371 at h
  refine ww_iconst (pc := 371) g.1 (v := 0) d_Mo_named_371 (by decide) ?_
  exact ww_zretH (pc := 372) g h hR (Or.inl rfl) d_Mo_named_372

theorem j_Mo_named_j404 {X : Cx} {q : PL} (g : Gd X y_Mo_named b_Mo_named 8 (some .boolean) 3 62 R_Mo) {o : (Int32) × S1} (hR : Rt X q o.2 (some (.int o.1)))  (s : S1) (ls : Array Slot) (hl : lv_has ls 8 []) (h : M_Mo_named_j404 s = some o) : WW X q s 404 ls [] := by
  unfold M_Mo_named_j404 at h
  refine ww_iconst (pc := 404) g.1 (v := 0) d_Mo_named_404 (by decide) ?_
  exact ww_zretH (pc := 405) g h hR (Or.inl rfl) d_Mo_named_405

theorem j_Mo_named_j439 {X : Cx} {q : PL} (g : Gd X y_Mo_named b_Mo_named 8 (some .boolean) 3 62 R_Mo) {o : (Int32) × S1} (hR : Rt X q o.2 (some (.int o.1)))  (s : S1) (ls : Array Slot) (hl : lv_has ls 8 []) (h : M_Mo_named_j439 s = some o) : WW X q s 439 ls [] := by
  unfold M_Mo_named_j439 at h
  refine ww_iconst (pc := 439) g.1 (v := 0) d_Mo_named_439 (by decide) ?_
  exact ww_zretH (pc := 440) g h hR (Or.inl rfl) d_Mo_named_440

theorem j_Mo_named_j472 {X : Cx} {q : PL} (g : Gd X y_Mo_named b_Mo_named 8 (some .boolean) 3 62 R_Mo) {o : (Int32) × S1} (hR : Rt X q o.2 (some (.int o.1)))  (s : S1) (ls : Array Slot) (hl : lv_has ls 8 []) (h : M_Mo_named_j472 s = some o) : WW X q s 472 ls [] := by
  unfold M_Mo_named_j472 at h
  refine ww_iconst (pc := 472) g.1 (v := 0) d_Mo_named_472 (by decide) ?_
  exact ww_zretH (pc := 473) g h hR (Or.inl rfl) d_Mo_named_473

theorem j_Mo_named_j514 {X : Cx} {q : PL} (g : Gd X y_Mo_named b_Mo_named 8 (some .boolean) 3 62 R_Mo) {o : (Int32) × S1} (hR : Rt X q o.2 (some (.int o.1)))  (s : S1) (ls : Array Slot) (hl : lv_has ls 8 []) (h : M_Mo_named_j514 s = some o) : WW X q s 514 ls [] := by
  unfold M_Mo_named_j514 at h
  refine ww_iconst (pc := 514) g.1 (v := 0) d_Mo_named_514 (by decide) ?_
  exact ww_zretH (pc := 515) g h hR (Or.inl rfl) d_Mo_named_515

theorem j_Mo_named_j547 {X : Cx} {q : PL} (g : Gd X y_Mo_named b_Mo_named 8 (some .boolean) 3 62 R_Mo) {o : (Int32) × S1} (hR : Rt X q o.2 (some (.int o.1)))  (s : S1) (ls : Array Slot) (hl : lv_has ls 8 []) (h : M_Mo_named_j547 s = some o) : WW X q s 547 ls [] := by
  unfold M_Mo_named_j547 at h
  refine ww_iconst (pc := 547) g.1 (v := 0) d_Mo_named_547 (by decide) ?_
  exact ww_zretH (pc := 548) g h hR (Or.inl rfl) d_Mo_named_548

theorem j_Mo_named_j578 {X : Cx} {q : PL} (g : Gd X y_Mo_named b_Mo_named 8 (some .boolean) 3 62 R_Mo) {o : (Int32) × S1} (hR : Rt X q o.2 (some (.int o.1)))  (s : S1) (ls : Array Slot) (hl : lv_has ls 8 []) (h : M_Mo_named_j578 s = some o) : WW X q s 578 ls [] := by
  unfold M_Mo_named_j578 at h
  refine ww_iconst (pc := 578) g.1 (v := 0) d_Mo_named_578 (by decide) ?_
  exact ww_zretH (pc := 579) g h hR (Or.inl rfl) d_Mo_named_579

theorem j_Mo_named_j615 {X : Cx} {q : PL} (g : Gd X y_Mo_named b_Mo_named 8 (some .boolean) 3 62 R_Mo) {o : (Int32) × S1} (hR : Rt X q o.2 (some (.int o.1)))  (s : S1) (ls : Array Slot) (hl : lv_has ls 8 []) (h : M_Mo_named_j615 s = some o) : WW X q s 615 ls [] := by
  unfold M_Mo_named_j615 at h
  refine ww_iconst (pc := 615) g.1 (v := 0) d_Mo_named_615 (by decide) ?_
  exact ww_zretH (pc := 616) g h hR (Or.inl rfl) d_Mo_named_616

theorem j_Mo_named_j596 {X : Cx} {q : PL} (g : Gd X y_Mo_named b_Mo_named 8 (some .boolean) 3 62 R_Mo) {o : (Int32) × S1} (hR : Rt X q o.2 (some (.int o.1))) (l2 : Int32) (l3 : Int32) (s : S1) (ls : Array Slot) (hl : lv_has ls 8 [(0, .ref (q.1 0 0)), (2, .int l2), (3, .int l3)]) (h : M_Mo_named_j596 l2 l3 s = some o) : WW X q s 596 ls [] := by
  unfold M_Mo_named_j596 at h
  refine ww_aload_n (pc := 596) g.1 d_Mo_named_596 rfl (lv_at hl 0 rfl) ?_
  refine ww_iload_n (pc := 597) g.1 d_Mo_named_597 rfl (lv_at hl 1 rfl) ?_
  refine ww_iconst (pc := 598) g.1 (v := 1) d_Mo_named_598 (by decide) ?_
  refine ww_iadd (pc := 599) g.1 d_Mo_named_599 ?_
  refine ww_iload_n (pc := 600) g.1 d_Mo_named_600 rfl (lv_at hl 2 rfl) ?_
  obtain ⟨v601, s, hc601, h⟩ := oB_of h
  refine ww_callS (pc := 601) (rest := [.int (l2 + 1), .ref (q.1 0 0)]) g cs_Mo_sbx (Or.inl kw_275) (ct_Mo_sbx hc601) ⟨by decide, by decide⟩ rfl hl.1 (Nat.le_of_ble_eq_true rfl) d_Mo_named_601 rfl ?_
  refine ww_st (st' := [.int v601, .int (l2 + 1), .ref (q.1 0 0)]) rfl ?_
  refine ww_iadd (pc := 604) g.1 d_Mo_named_604 ?_
  obtain ⟨v605, s, hc605, h⟩ := oB_of h
  refine ww_callV (pc := 605) (rest := []) g cv_Mo_goes (Or.inl kw_315) cl_Mo (pz rfl (by decide)) (ct_Mo_goes hc605) ⟨by decide, by decide⟩ rfl hl.1 (Nat.le_of_ble_eq_true rfl) d_Mo_named_605 rfl ?_
  refine ww_st (st' := [.int v605]) rfl ?_
  refine ww_if_eq (pc := 608) (tgt := 615) g.1 d_Mo_named_608 (by decide) h (fun c h => ?_) (fun c h => ?_)
  · exact j_Mo_named_j615 g hR s ls (lv_sub hl [] rfl) h
  · refine ww_iconst (pc := 611) g.1 (v := 1) d_Mo_named_611 (by decide) ?_
    refine ww_goto (pc := 612) (tgt := 616) g.1 d_Mo_named_612 (by decide) ?_
    exact ww_zretH (pc := 616) g h hR (Or.inr rfl) d_Mo_named_616

theorem j_Mo_named_j645 {X : Cx} {q : PL} (g : Gd X y_Mo_named b_Mo_named 8 (some .boolean) 3 62 R_Mo) {o : (Int32) × S1} (hR : Rt X q o.2 (some (.int o.1)))  (s : S1) (ls : Array Slot) (hl : lv_has ls 8 []) (h : M_Mo_named_j645 s = some o) : WW X q s 645 ls [] := by
  unfold M_Mo_named_j645 at h
  refine ww_iconst (pc := 645) g.1 (v := 0) d_Mo_named_645 (by decide) ?_
  exact ww_zretH (pc := 646) g h hR (Or.inl rfl) d_Mo_named_646

theorem j_Mo_named_j666 {X : Cx} {q : PL} (g : Gd X y_Mo_named b_Mo_named 8 (some .boolean) 3 62 R_Mo) {o : (Int32) × S1} (hR : Rt X q o.2 (some (.int o.1)))  (s : S1) (ls : Array Slot) (hl : lv_has ls 8 []) (h : M_Mo_named_j666 s = some o) : WW X q s 666 ls [] := by
  unfold M_Mo_named_j666 at h
  refine ww_iconst (pc := 666) g.1 (v := 0) d_Mo_named_666 (by decide) ?_
  exact ww_zretH (pc := 667) g h hR (Or.inl rfl) d_Mo_named_667

theorem j_Mo_named_j696 {X : Cx} {q : PL} (g : Gd X y_Mo_named b_Mo_named 8 (some .boolean) 3 62 R_Mo) {o : (Int32) × S1} (hR : Rt X q o.2 (some (.int o.1)))  (s : S1) (ls : Array Slot) (hl : lv_has ls 8 []) (h : M_Mo_named_j696 s = some o) : WW X q s 696 ls [] := by
  unfold M_Mo_named_j696 at h
  refine ww_iconst (pc := 696) g.1 (v := 0) d_Mo_named_696 (by decide) ?_
  exact ww_zretH (pc := 697) g h hR (Or.inl rfl) d_Mo_named_697

theorem j_Mo_named_j750 {X : Cx} {q : PL} (g : Gd X y_Mo_named b_Mo_named 8 (some .boolean) 3 62 R_Mo) {o : (Int32) × S1} (hR : Rt X q o.2 (some (.int o.1)))  (s : S1) (ls : Array Slot) (hl : lv_has ls 8 []) (h : M_Mo_named_j750 s = some o) : WW X q s 750 ls [] := by
  unfold M_Mo_named_j750 at h
  refine ww_iconst (pc := 750) g.1 (v := 0) d_Mo_named_750 (by decide) ?_
  exact ww_zretH (pc := 751) g h hR (Or.inl rfl) d_Mo_named_751

theorem j_Mo_named_j746 {X : Cx} {q : PL} (g : Gd X y_Mo_named b_Mo_named 8 (some .boolean) 3 62 R_Mo) {o : (Int32) × S1} (hR : Rt X q o.2 (some (.int o.1)))  (s : S1) (ls : Array Slot) (hl : lv_has ls 8 []) (h : M_Mo_named_j746 s = some o) : WW X q s 746 ls [] := by
  unfold M_Mo_named_j746 at h
  refine ww_iconst (pc := 746) g.1 (v := 1) d_Mo_named_746 (by decide) ?_
  refine ww_goto (pc := 747) (tgt := 751) g.1 d_Mo_named_747 (by decide) ?_
  exact ww_zretH (pc := 751) g h hR (Or.inr rfl) d_Mo_named_751

theorem j_Mo_named_j726 {X : Cx} {q : PL} (g : Gd X y_Mo_named b_Mo_named 8 (some .boolean) 3 62 R_Mo) {o : (Int32) × S1} (hR : Rt X q o.2 (some (.int o.1))) (l5 : Int32) (l7 : Int32) (s : S1) (ls : Array Slot) (hl : lv_has ls 8 [(0, .ref (q.1 0 0)), (5, .int l5), (7, .int l7)]) (h : M_Mo_named_j726 l5 l7 s = some o) : WW X q s 726 ls [] := by
  unfold M_Mo_named_j726 at h
  refine ww_iload (pc := 726) g.1 d_Mo_named_726 (lv_at hl 2 rfl) ?_
  refine ww_iconst (pc := 728) g.1 (v := 2) d_Mo_named_728 (by decide) ?_
  refine ww_icmp_lt (pc := 729) (tgt := 746) g.1 d_Mo_named_729 (by decide) h (fun c h => ?_) (fun c h => ?_)
  · exact j_Mo_named_j746 g hR s ls (lv_sub hl [] rfl) h
  · refine ww_aload_n (pc := 732) g.1 d_Mo_named_732 rfl (lv_at hl 0 rfl) ?_
    refine ww_iload (pc := 733) g.1 d_Mo_named_733 (lv_at hl 1 rfl) ?_
    refine ww_iload (pc := 735) g.1 d_Mo_named_735 (lv_at hl 2 rfl) ?_
    refine ww_iadd (pc := 737) g.1 d_Mo_named_737 ?_
    refine ww_iconst (pc := 738) g.1 (v := 2) d_Mo_named_738 (by decide) ?_
    refine ww_isub (pc := 739) g.1 d_Mo_named_739 ?_
    obtain ⟨v740, s, hc740, h⟩ := oB_of h
    refine ww_callV (pc := 740) (rest := []) g cv_Mo_reg (Or.inl kw_313) cl_Mo (pz rfl (by decide)) (ct_Mo_reg hc740) ⟨by decide, by decide⟩ rfl hl.1 (Nat.le_of_ble_eq_true rfl) d_Mo_named_740 rfl ?_
    refine ww_st (st' := [.int v740]) rfl ?_
    refine ww_if_eq (pc := 743) (tgt := 750) g.1 d_Mo_named_743 (by decide) h (fun c h => ?_) (fun c h => ?_)
    · exact j_Mo_named_j750 g hR s ls (lv_sub hl [] rfl) h
    · exact j_Mo_named_j746 g hR s ls (lv_sub hl [] rfl) h

theorem j_Mo_named_j784 {X : Cx} {q : PL} (g : Gd X y_Mo_named b_Mo_named 8 (some .boolean) 3 62 R_Mo) {o : (Int32) × S1} (hR : Rt X q o.2 (some (.int o.1)))  (s : S1) (ls : Array Slot) (hl : lv_has ls 8 []) (h : M_Mo_named_j784 s = some o) : WW X q s 784 ls [] := by
  unfold M_Mo_named_j784 at h
  refine ww_iconst (pc := 784) g.1 (v := 0) d_Mo_named_784 (by decide) ?_
  exact ww_zretH (pc := 785) g h hR (Or.inl rfl) d_Mo_named_785

theorem j_Mo_named_j780 {X : Cx} {q : PL} (g : Gd X y_Mo_named b_Mo_named 8 (some .boolean) 3 62 R_Mo) {o : (Int32) × S1} (hR : Rt X q o.2 (some (.int o.1)))  (s : S1) (ls : Array Slot) (hl : lv_has ls 8 []) (h : M_Mo_named_j780 s = some o) : WW X q s 780 ls [] := by
  unfold M_Mo_named_j780 at h
  refine ww_iconst (pc := 780) g.1 (v := 1) d_Mo_named_780 (by decide) ?_
  refine ww_goto (pc := 781) (tgt := 785) g.1 d_Mo_named_781 (by decide) ?_
  exact ww_zretH (pc := 785) g h hR (Or.inr rfl) d_Mo_named_785

theorem j_Mo_named_j819 {X : Cx} {q : PL} (g : Gd X y_Mo_named b_Mo_named 8 (some .boolean) 3 62 R_Mo) {o : (Int32) × S1} (hR : Rt X q o.2 (some (.int o.1)))  (s : S1) (ls : Array Slot) (hl : lv_has ls 8 []) (h : M_Mo_named_j819 s = some o) : WW X q s 819 ls [] := by
  unfold M_Mo_named_j819 at h
  refine ww_iconst (pc := 819) g.1 (v := 0) d_Mo_named_819 (by decide) ?_
  exact ww_zretH (pc := 820) g h hR (Or.inl rfl) d_Mo_named_820

theorem j_Mo_named_j815 {X : Cx} {q : PL} (g : Gd X y_Mo_named b_Mo_named 8 (some .boolean) 3 62 R_Mo) {o : (Int32) × S1} (hR : Rt X q o.2 (some (.int o.1)))  (s : S1) (ls : Array Slot) (hl : lv_has ls 8 []) (h : M_Mo_named_j815 s = some o) : WW X q s 815 ls [] := by
  unfold M_Mo_named_j815 at h
  refine ww_iconst (pc := 815) g.1 (v := 1) d_Mo_named_815 (by decide) ?_
  refine ww_goto (pc := 816) (tgt := 820) g.1 d_Mo_named_816 (by decide) ?_
  exact ww_zretH (pc := 820) g h hR (Or.inr rfl) d_Mo_named_820

theorem j_Mo_named_j851 {X : Cx} {q : PL} (g : Gd X y_Mo_named b_Mo_named 8 (some .boolean) 3 62 R_Mo) {o : (Int32) × S1} (hR : Rt X q o.2 (some (.int o.1)))  (s : S1) (ls : Array Slot) (hl : lv_has ls 8 []) (h : M_Mo_named_j851 s = some o) : WW X q s 851 ls [] := by
  unfold M_Mo_named_j851 at h
  refine ww_iconst (pc := 851) g.1 (v := 0) d_Mo_named_851 (by decide) ?_
  exact ww_zretH (pc := 852) g h hR (Or.inl rfl) d_Mo_named_852

theorem j_Mo_named_j883 {X : Cx} {q : PL} (g : Gd X y_Mo_named b_Mo_named 8 (some .boolean) 3 62 R_Mo) {o : (Int32) × S1} (hR : Rt X q o.2 (some (.int o.1)))  (s : S1) (ls : Array Slot) (hl : lv_has ls 8 []) (h : M_Mo_named_j883 s = some o) : WW X q s 883 ls [] := by
  unfold M_Mo_named_j883 at h
  refine ww_iconst (pc := 883) g.1 (v := 0) d_Mo_named_883 (by decide) ?_
  exact ww_zretH (pc := 884) g h hR (Or.inl rfl) d_Mo_named_884

theorem j_Mo_named_j908 {X : Cx} {q : PL} (g : Gd X y_Mo_named b_Mo_named 8 (some .boolean) 3 62 R_Mo) {o : (Int32) × S1} (hR : Rt X q o.2 (some (.int o.1)))  (s : S1) (ls : Array Slot) (hl : lv_has ls 8 []) (h : M_Mo_named_j908 s = some o) : WW X q s 908 ls [] := by
  unfold M_Mo_named_j908 at h
  refine ww_iconst (pc := 908) g.1 (v := 0) d_Mo_named_908 (by decide) ?_
  exact ww_zretH (pc := 909) g h hR (Or.inl rfl) d_Mo_named_909

theorem j_Mo_named_j940 {X : Cx} {q : PL} (g : Gd X y_Mo_named b_Mo_named 8 (some .boolean) 3 62 R_Mo) {o : (Int32) × S1} (hR : Rt X q o.2 (some (.int o.1)))  (s : S1) (ls : Array Slot) (hl : lv_has ls 8 []) (h : M_Mo_named_j940 s = some o) : WW X q s 940 ls [] := by
  unfold M_Mo_named_j940 at h
  refine ww_iconst (pc := 940) g.1 (v := 0) d_Mo_named_940 (by decide) ?_
  exact ww_zretH (pc := 941) g h hR (Or.inl rfl) d_Mo_named_941

theorem j_Mo_named_j977 {X : Cx} {q : PL} (g : Gd X y_Mo_named b_Mo_named 8 (some .boolean) 3 62 R_Mo) {o : (Int32) × S1} (hR : Rt X q o.2 (some (.int o.1)))  (s : S1) (ls : Array Slot) (hl : lv_has ls 8 []) (h : M_Mo_named_j977 s = some o) : WW X q s 977 ls [] := by
  unfold M_Mo_named_j977 at h
  refine ww_iconst (pc := 977) g.1 (v := 0) d_Mo_named_977 (by decide) ?_
  exact ww_zretH (pc := 978) g h hR (Or.inl rfl) d_Mo_named_978

theorem j_Mo_named_j973 {X : Cx} {q : PL} (g : Gd X y_Mo_named b_Mo_named 8 (some .boolean) 3 62 R_Mo) {o : (Int32) × S1} (hR : Rt X q o.2 (some (.int o.1)))  (s : S1) (ls : Array Slot) (hl : lv_has ls 8 []) (h : M_Mo_named_j973 s = some o) : WW X q s 973 ls [] := by
  unfold M_Mo_named_j973 at h
  refine ww_iconst (pc := 973) g.1 (v := 1) d_Mo_named_973 (by decide) ?_
  refine ww_goto (pc := 974) (tgt := 978) g.1 d_Mo_named_974 (by decide) ?_
  exact ww_zretH (pc := 978) g h hR (Or.inr rfl) d_Mo_named_978

theorem j_Mo_named_j1005 {X : Cx} {q : PL} (g : Gd X y_Mo_named b_Mo_named 8 (some .boolean) 3 62 R_Mo) {o : (Int32) × S1} (hR : Rt X q o.2 (some (.int o.1)))  (s : S1) (ls : Array Slot) (hl : lv_has ls 8 []) (h : M_Mo_named_j1005 s = some o) : WW X q s 1005 ls [] := by
  unfold M_Mo_named_j1005 at h
  refine ww_iconst (pc := 1005) g.1 (v := 0) d_Mo_named_1005 (by decide) ?_
  exact ww_zretH (pc := 1006) g h hR (Or.inl rfl) d_Mo_named_1006

theorem j_Mo_named_j1040 {X : Cx} {q : PL} (g : Gd X y_Mo_named b_Mo_named 8 (some .boolean) 3 62 R_Mo) {o : (Int32) × S1} (hR : Rt X q o.2 (some (.int o.1)))  (s : S1) (ls : Array Slot) (hl : lv_has ls 8 []) (h : M_Mo_named_j1040 s = some o) : WW X q s 1040 ls [] := by
  unfold M_Mo_named_j1040 at h
  refine ww_iconst (pc := 1040) g.1 (v := 0) d_Mo_named_1040 (by decide) ?_
  exact ww_zretH (pc := 1041) g h hR (Or.inl rfl) d_Mo_named_1041

theorem j_Mo_named_j1036 {X : Cx} {q : PL} (g : Gd X y_Mo_named b_Mo_named 8 (some .boolean) 3 62 R_Mo) {o : (Int32) × S1} (hR : Rt X q o.2 (some (.int o.1)))  (s : S1) (ls : Array Slot) (hl : lv_has ls 8 []) (h : M_Mo_named_j1036 s = some o) : WW X q s 1036 ls [] := by
  unfold M_Mo_named_j1036 at h
  refine ww_iconst (pc := 1036) g.1 (v := 1) d_Mo_named_1036 (by decide) ?_
  refine ww_goto (pc := 1037) (tgt := 1041) g.1 d_Mo_named_1037 (by decide) ?_
  exact ww_zretH (pc := 1041) g h hR (Or.inr rfl) d_Mo_named_1041

theorem ct_Mo_named {l : Launch} {P : PP} {q : PL} {s s' : S1} {l1 : Int32} {l2 : Int32} {l3 : Int32} {l4 : Int32} {r : Int32} (h : M_Mo_named l1 l2 l3 l4 s = some (r, s')) : Ct l y_Mo_named b_Mo_named 8 (some .boolean) 3 62 P q s [.ref (q.1 0 0), .int l1, .int l2, .int l3, .int l4] (some (.int r)) q s' := by
  refine ct_of (by decide) (Nat.le_of_ble_eq_true rfl) fun X ls eP el g hR hl => ?_
  subst eP
  have hR : Rt X q ((r, s') : Int32 × S1).2 (some (.int ((r, s') : Int32 × S1).1)) := hR
  have hl : lv_has ls 8 [(0, .ref (q.1 0 0)), (1, .int l1), (2, .int l2), (3, .int l3), (4, .int l4)] := hl
  generalize (r, s') = o at h hR
  unfold M_Mo_named at h
  refine ww_iload_n (pc := 0) g.1 d_Mo_named_0 rfl (lv_at hl 3 rfl) ?_
  obtain ⟨v1, s, hc1, h⟩ := oB_of h
  refine ww_callS (pc := 1) (rest := []) g cs_Mo_a (Or.inl kw_280) (ct_Mo_a hc1) ⟨by decide, by decide⟩ rfl hl.1 (Nat.le_of_ble_eq_true rfl) d_Mo_named_1 rfl ?_
  refine ww_st (st' := [.int v1]) rfl ?_
  refine ww_istore (pc := 4) (i := 5) g.1 (lv' := [(5, .int v1), (0, .ref (q.1 0 0)), (1, .int l1), (2, .int l2), (3, .int l3), (4, .int l4)]) d_Mo_named_4 hl (by decide) rfl fun ls hl => ?_
  refine ww_iload_n (pc := 6) g.1 d_Mo_named_6 rfl (lv_at hl 4 rfl) ?_
  obtain ⟨v7, s, hc7, h⟩ := oB_of h
  refine ww_callS (pc := 7) (rest := []) g cs_Mo_b (Or.inl kw_54) (ct_Mo_b hc7) ⟨by decide, by decide⟩ rfl hl.1 (Nat.le_of_ble_eq_true rfl) d_Mo_named_7 rfl ?_
  refine ww_st (st' := [.int v7]) rfl ?_
  refine ww_istore (pc := 10) (i := 6) g.1 (lv' := [(6, .int v7), (5, .int v1), (0, .ref (q.1 0 0)), (1, .int l1), (2, .int l2), (3, .int l3), (4, .int l4)]) d_Mo_named_10 hl (by decide) rfl fun ls hl => ?_
  refine ww_iload_n (pc := 12) g.1 d_Mo_named_12 rfl (lv_at hl 5 rfl) ?_
  obtain ⟨v13, s, hc13, h⟩ := oB_of h
  refine ww_callS (pc := 13) (rest := []) g cs_Mo_c (Or.inl kw_311) (ct_Mo_c hc13) ⟨by decide, by decide⟩ rfl hl.1 (Nat.le_of_ble_eq_true rfl) d_Mo_named_13 rfl ?_
  refine ww_st (st' := [.int v13]) rfl ?_
  refine ww_istore (pc := 16) (i := 7) g.1 (lv' := [(7, .int v13), (6, .int v7), (5, .int v1), (0, .ref (q.1 0 0)), (1, .int l1), (2, .int l2), (3, .int l3), (4, .int l4)]) d_Mo_named_16 hl (by decide) rfl fun ls hl => ?_
  refine ww_iload (pc := 18) g.1 d_Mo_named_18 (lv_at hl 7 rfl) ?_
  by_cases c20_220 : l4 = 0 ∨ l4 = 25 ∨ l4 = 26 ∨ l4 = 27 ∨ l4 = 28
  · have h := oC_pos c20_220 h
    rcases c20_220 with c | c | c | c | c
    · refine ww_tableIn (pc := 20) (tgt := 220) g.1 d_Mo_named_20 (by rw [c]; decide) (by rw [c]; decide) (by rw [c]; rfl) (by decide) ?_
      refine ww_aload_n (pc := 220) g.1 d_Mo_named_220 rfl (lv_at hl 3 rfl) ?_
      refine ww_iload (pc := 221) g.1 d_Mo_named_221 (lv_at hl 2 rfl) ?_
      obtain ⟨v223, s, hc223, h⟩ := oB_of h
      refine ww_callV (pc := 223) (rest := []) g cv_Mo_reg (Or.inl kw_313) cl_Mo (pz rfl (by decide)) (ct_Mo_reg hc223) ⟨by decide, by decide⟩ rfl hl.1 (Nat.le_of_ble_eq_true rfl) d_Mo_named_223 rfl ?_
      refine ww_st (st' := [.int v223]) rfl ?_
      refine ww_if_eq (pc := 226) (tgt := 242) g.1 d_Mo_named_226 (by decide) h (fun c h => ?_) (fun c h => ?_)
      · exact j_Mo_named_j242 g hR s ls (lv_sub hl [] rfl) h
      · refine ww_aload_n (pc := 229) g.1 d_Mo_named_229 rfl (lv_at hl 3 rfl) ?_
        refine ww_iload (pc := 230) g.1 d_Mo_named_230 (lv_at hl 1 rfl) ?_
        obtain ⟨v232, s, hc232, h⟩ := oB_of h
        refine ww_callV (pc := 232) (rest := []) g cv_Mo_reg (Or.inl kw_313) cl_Mo (pz rfl (by decide)) (ct_Mo_reg hc232) ⟨by decide, by decide⟩ rfl hl.1 (Nat.le_of_ble_eq_true rfl) d_Mo_named_232 rfl ?_
        refine ww_st (st' := [.int v232]) rfl ?_
        refine ww_if_eq (pc := 235) (tgt := 242) g.1 d_Mo_named_235 (by decide) h (fun c h => ?_) (fun c h => ?_)
        · exact j_Mo_named_j242 g hR s ls (lv_sub hl [] rfl) h
        · refine ww_iconst (pc := 238) g.1 (v := 1) d_Mo_named_238 (by decide) ?_
          refine ww_goto (pc := 239) (tgt := 243) g.1 d_Mo_named_239 (by decide) ?_
          exact ww_zretH (pc := 243) g h hR (Or.inr rfl) d_Mo_named_243
    · refine ww_tableIn (pc := 20) (tgt := 220) g.1 d_Mo_named_20 (by rw [c]; decide) (by rw [c]; decide) (by rw [c]; rfl) (by decide) ?_
      refine ww_aload_n (pc := 220) g.1 d_Mo_named_220 rfl (lv_at hl 3 rfl) ?_
      refine ww_iload (pc := 221) g.1 d_Mo_named_221 (lv_at hl 2 rfl) ?_
      obtain ⟨v223, s, hc223, h⟩ := oB_of h
      refine ww_callV (pc := 223) (rest := []) g cv_Mo_reg (Or.inl kw_313) cl_Mo (pz rfl (by decide)) (ct_Mo_reg hc223) ⟨by decide, by decide⟩ rfl hl.1 (Nat.le_of_ble_eq_true rfl) d_Mo_named_223 rfl ?_
      refine ww_st (st' := [.int v223]) rfl ?_
      refine ww_if_eq (pc := 226) (tgt := 242) g.1 d_Mo_named_226 (by decide) h (fun c h => ?_) (fun c h => ?_)
      · exact j_Mo_named_j242 g hR s ls (lv_sub hl [] rfl) h
      · refine ww_aload_n (pc := 229) g.1 d_Mo_named_229 rfl (lv_at hl 3 rfl) ?_
        refine ww_iload (pc := 230) g.1 d_Mo_named_230 (lv_at hl 1 rfl) ?_
        obtain ⟨v232, s, hc232, h⟩ := oB_of h
        refine ww_callV (pc := 232) (rest := []) g cv_Mo_reg (Or.inl kw_313) cl_Mo (pz rfl (by decide)) (ct_Mo_reg hc232) ⟨by decide, by decide⟩ rfl hl.1 (Nat.le_of_ble_eq_true rfl) d_Mo_named_232 rfl ?_
        refine ww_st (st' := [.int v232]) rfl ?_
        refine ww_if_eq (pc := 235) (tgt := 242) g.1 d_Mo_named_235 (by decide) h (fun c h => ?_) (fun c h => ?_)
        · exact j_Mo_named_j242 g hR s ls (lv_sub hl [] rfl) h
        · refine ww_iconst (pc := 238) g.1 (v := 1) d_Mo_named_238 (by decide) ?_
          refine ww_goto (pc := 239) (tgt := 243) g.1 d_Mo_named_239 (by decide) ?_
          exact ww_zretH (pc := 243) g h hR (Or.inr rfl) d_Mo_named_243
    · refine ww_tableIn (pc := 20) (tgt := 220) g.1 d_Mo_named_20 (by rw [c]; decide) (by rw [c]; decide) (by rw [c]; rfl) (by decide) ?_
      refine ww_aload_n (pc := 220) g.1 d_Mo_named_220 rfl (lv_at hl 3 rfl) ?_
      refine ww_iload (pc := 221) g.1 d_Mo_named_221 (lv_at hl 2 rfl) ?_
      obtain ⟨v223, s, hc223, h⟩ := oB_of h
      refine ww_callV (pc := 223) (rest := []) g cv_Mo_reg (Or.inl kw_313) cl_Mo (pz rfl (by decide)) (ct_Mo_reg hc223) ⟨by decide, by decide⟩ rfl hl.1 (Nat.le_of_ble_eq_true rfl) d_Mo_named_223 rfl ?_
      refine ww_st (st' := [.int v223]) rfl ?_
      refine ww_if_eq (pc := 226) (tgt := 242) g.1 d_Mo_named_226 (by decide) h (fun c h => ?_) (fun c h => ?_)
      · exact j_Mo_named_j242 g hR s ls (lv_sub hl [] rfl) h
      · refine ww_aload_n (pc := 229) g.1 d_Mo_named_229 rfl (lv_at hl 3 rfl) ?_
        refine ww_iload (pc := 230) g.1 d_Mo_named_230 (lv_at hl 1 rfl) ?_
        obtain ⟨v232, s, hc232, h⟩ := oB_of h
        refine ww_callV (pc := 232) (rest := []) g cv_Mo_reg (Or.inl kw_313) cl_Mo (pz rfl (by decide)) (ct_Mo_reg hc232) ⟨by decide, by decide⟩ rfl hl.1 (Nat.le_of_ble_eq_true rfl) d_Mo_named_232 rfl ?_
        refine ww_st (st' := [.int v232]) rfl ?_
        refine ww_if_eq (pc := 235) (tgt := 242) g.1 d_Mo_named_235 (by decide) h (fun c h => ?_) (fun c h => ?_)
        · exact j_Mo_named_j242 g hR s ls (lv_sub hl [] rfl) h
        · refine ww_iconst (pc := 238) g.1 (v := 1) d_Mo_named_238 (by decide) ?_
          refine ww_goto (pc := 239) (tgt := 243) g.1 d_Mo_named_239 (by decide) ?_
          exact ww_zretH (pc := 243) g h hR (Or.inr rfl) d_Mo_named_243
    · refine ww_tableIn (pc := 20) (tgt := 220) g.1 d_Mo_named_20 (by rw [c]; decide) (by rw [c]; decide) (by rw [c]; rfl) (by decide) ?_
      refine ww_aload_n (pc := 220) g.1 d_Mo_named_220 rfl (lv_at hl 3 rfl) ?_
      refine ww_iload (pc := 221) g.1 d_Mo_named_221 (lv_at hl 2 rfl) ?_
      obtain ⟨v223, s, hc223, h⟩ := oB_of h
      refine ww_callV (pc := 223) (rest := []) g cv_Mo_reg (Or.inl kw_313) cl_Mo (pz rfl (by decide)) (ct_Mo_reg hc223) ⟨by decide, by decide⟩ rfl hl.1 (Nat.le_of_ble_eq_true rfl) d_Mo_named_223 rfl ?_
      refine ww_st (st' := [.int v223]) rfl ?_
      refine ww_if_eq (pc := 226) (tgt := 242) g.1 d_Mo_named_226 (by decide) h (fun c h => ?_) (fun c h => ?_)
      · exact j_Mo_named_j242 g hR s ls (lv_sub hl [] rfl) h
      · refine ww_aload_n (pc := 229) g.1 d_Mo_named_229 rfl (lv_at hl 3 rfl) ?_
        refine ww_iload (pc := 230) g.1 d_Mo_named_230 (lv_at hl 1 rfl) ?_
        obtain ⟨v232, s, hc232, h⟩ := oB_of h
        refine ww_callV (pc := 232) (rest := []) g cv_Mo_reg (Or.inl kw_313) cl_Mo (pz rfl (by decide)) (ct_Mo_reg hc232) ⟨by decide, by decide⟩ rfl hl.1 (Nat.le_of_ble_eq_true rfl) d_Mo_named_232 rfl ?_
        refine ww_st (st' := [.int v232]) rfl ?_
        refine ww_if_eq (pc := 235) (tgt := 242) g.1 d_Mo_named_235 (by decide) h (fun c h => ?_) (fun c h => ?_)
        · exact j_Mo_named_j242 g hR s ls (lv_sub hl [] rfl) h
        · refine ww_iconst (pc := 238) g.1 (v := 1) d_Mo_named_238 (by decide) ?_
          refine ww_goto (pc := 239) (tgt := 243) g.1 d_Mo_named_239 (by decide) ?_
          exact ww_zretH (pc := 243) g h hR (Or.inr rfl) d_Mo_named_243
    · refine ww_tableIn (pc := 20) (tgt := 220) g.1 d_Mo_named_20 (by rw [c]; decide) (by rw [c]; decide) (by rw [c]; rfl) (by decide) ?_
      refine ww_aload_n (pc := 220) g.1 d_Mo_named_220 rfl (lv_at hl 3 rfl) ?_
      refine ww_iload (pc := 221) g.1 d_Mo_named_221 (lv_at hl 2 rfl) ?_
      obtain ⟨v223, s, hc223, h⟩ := oB_of h
      refine ww_callV (pc := 223) (rest := []) g cv_Mo_reg (Or.inl kw_313) cl_Mo (pz rfl (by decide)) (ct_Mo_reg hc223) ⟨by decide, by decide⟩ rfl hl.1 (Nat.le_of_ble_eq_true rfl) d_Mo_named_223 rfl ?_
      refine ww_st (st' := [.int v223]) rfl ?_
      refine ww_if_eq (pc := 226) (tgt := 242) g.1 d_Mo_named_226 (by decide) h (fun c h => ?_) (fun c h => ?_)
      · exact j_Mo_named_j242 g hR s ls (lv_sub hl [] rfl) h
      · refine ww_aload_n (pc := 229) g.1 d_Mo_named_229 rfl (lv_at hl 3 rfl) ?_
        refine ww_iload (pc := 230) g.1 d_Mo_named_230 (lv_at hl 1 rfl) ?_
        obtain ⟨v232, s, hc232, h⟩ := oB_of h
        refine ww_callV (pc := 232) (rest := []) g cv_Mo_reg (Or.inl kw_313) cl_Mo (pz rfl (by decide)) (ct_Mo_reg hc232) ⟨by decide, by decide⟩ rfl hl.1 (Nat.le_of_ble_eq_true rfl) d_Mo_named_232 rfl ?_
        refine ww_st (st' := [.int v232]) rfl ?_
        refine ww_if_eq (pc := 235) (tgt := 242) g.1 d_Mo_named_235 (by decide) h (fun c h => ?_) (fun c h => ?_)
        · exact j_Mo_named_j242 g hR s ls (lv_sub hl [] rfl) h
        · refine ww_iconst (pc := 238) g.1 (v := 1) d_Mo_named_238 (by decide) ?_
          refine ww_goto (pc := 239) (tgt := 243) g.1 d_Mo_named_239 (by decide) ?_
          exact ww_zretH (pc := 243) g h hR (Or.inr rfl) d_Mo_named_243
  have h := oC_neg c20_220 h
  by_cases c20_244 : l4 = 1
  · have h := oC_pos c20_244 h
    have c := c20_244
    refine ww_tableIn (pc := 20) (tgt := 244) g.1 d_Mo_named_20 (by rw [c]; decide) (by rw [c]; decide) (by rw [c]; rfl) (by decide) ?_
    refine ww_aload_n (pc := 244) g.1 d_Mo_named_244 rfl (lv_at hl 3 rfl) ?_
    refine ww_iload (pc := 245) g.1 d_Mo_named_245 (lv_at hl 2 rfl) ?_
    obtain ⟨v247, s, hc247, h⟩ := oB_of h
    refine ww_callV (pc := 247) (rest := []) g cv_Mo_reg (Or.inl kw_313) cl_Mo (pz rfl (by decide)) (ct_Mo_reg hc247) ⟨by decide, by decide⟩ rfl hl.1 (Nat.le_of_ble_eq_true rfl) d_Mo_named_247 rfl ?_
    refine ww_st (st' := [.int v247]) rfl ?_
    refine ww_if_eq (pc := 250) (tgt := 270) g.1 d_Mo_named_250 (by decide) h (fun c h => ?_) (fun c h => ?_)
    · exact j_Mo_named_j270 g hR s ls (lv_sub hl [] rfl) h
    · refine ww_iload_n (pc := 253) g.1 d_Mo_named_253 rfl (lv_at hl 6 rfl) ?_
      obtain ⟨v254, s, hc254, h⟩ := oB_of h
      refine ww_callS (pc := 254) (rest := []) g cs_Mo_bx (Or.inl kw_314) (ct_Mo_bx hc254) ⟨by decide, by decide⟩ rfl hl.1 (Nat.le_of_ble_eq_true rfl) d_Mo_named_254 rfl ?_
      refine ww_st (st' := [.int v254]) rfl ?_
      refine ww_aload_n (pc := 257) g.1 d_Mo_named_257 rfl (lv_at hl 3 rfl) ?_
      refine ww_gR (pc := 258) g (k := 12) cl_Mo (pz rfl (by decide)) (by decide) (Or.inl kw_67) (f := 12) (t := 48) rfl rfl rfl d_Mo_named_258 ?_
      refine ww_iload_n (pc := 261) g.1 d_Mo_named_261 rfl (lv_at hl 4 rfl) ?_
      refine ww_ai (pc := 262) g (pz rfl (by decide)) rfl rfl d_Mo_named_262 h fun v262 h => ?_
      refine ww_icmp_ge (pc := 263) (tgt := 270) g.1 d_Mo_named_263 (by decide) h (fun c h => ?_) (fun c h => ?_)
      · exact j_Mo_named_j270 g hR s ls (lv_sub hl [] rfl) h
      · refine ww_iconst (pc := 266) g.1 (v := 1) d_Mo_named_266 (by decide) ?_
        refine ww_goto (pc := 267) (tgt := 271) g.1 d_Mo_named_267 (by decide) ?_
        exact ww_zretH (pc := 271) g h hR (Or.inr rfl) d_Mo_named_271
  have h := oC_neg c20_244 h
  by_cases c20_272 : l4 = 3
  · have h := oC_pos c20_272 h
    have c := c20_272
    refine ww_tableIn (pc := 20) (tgt := 272) g.1 d_Mo_named_20 (by rw [c]; decide) (by rw [c]; decide) (by rw [c]; rfl) (by decide) ?_
    refine ww_aload_n (pc := 272) g.1 d_Mo_named_272 rfl (lv_at hl 3 rfl) ?_
    refine ww_iload (pc := 273) g.1 d_Mo_named_273 (lv_at hl 2 rfl) ?_
    obtain ⟨v275, s, hc275, h⟩ := oB_of h
    refine ww_callV (pc := 275) (rest := []) g cv_Mo_reg (Or.inl kw_313) cl_Mo (pz rfl (by decide)) (ct_Mo_reg hc275) ⟨by decide, by decide⟩ rfl hl.1 (Nat.le_of_ble_eq_true rfl) d_Mo_named_275 rfl ?_
    refine ww_st (st' := [.int v275]) rfl ?_
    refine ww_if_eq (pc := 278) (tgt := 300) g.1 d_Mo_named_278 (by decide) h (fun c h => ?_) (fun c h => ?_)
    · exact j_Mo_named_j300 g hR s ls (lv_sub hl [] rfl) h
    · refine ww_iload (pc := 281) g.1 d_Mo_named_281 (lv_at hl 0 rfl) ?_
      refine ww_if_eq (pc := 283) (tgt := 296) g.1 d_Mo_named_283 (by decide) h (fun c h => ?_) (fun c h => ?_)
      · exact j_Mo_named_j296 g hR s ls (lv_sub hl [] rfl) h
      · refine ww_aload_n (pc := 286) g.1 d_Mo_named_286 rfl (lv_at hl 3 rfl) ?_
        refine ww_iload_n (pc := 287) g.1 d_Mo_named_287 rfl (lv_at hl 5 rfl) ?_
        refine ww_iconst (pc := 288) g.1 (v := 2) d_Mo_named_288 (by decide) ?_
        refine ww_iadd (pc := 289) g.1 d_Mo_named_289 ?_
        obtain ⟨v290, s, hc290, h⟩ := oB_of h
        refine ww_callV (pc := 290) (rest := []) g cv_Mo_goes (Or.inl kw_315) cl_Mo (pz rfl (by decide)) (ct_Mo_goes hc290) ⟨by decide, by decide⟩ rfl hl.1 (Nat.le_of_ble_eq_true rfl) d_Mo_named_290 rfl ?_
        refine ww_st (st' := [.int v290]) rfl ?_
        refine ww_if_eq (pc := 293) (tgt := 300) g.1 d_Mo_named_293 (by decide) h (fun c h => ?_) (fun c h => ?_)
        · exact j_Mo_named_j300 g hR s ls (lv_sub hl [] rfl) h
        · exact j_Mo_named_j296 g hR s ls (lv_sub hl [] rfl) h
  have h := oC_neg c20_272 h
  by_cases c20_302 : l4 = 4
  · have h := oC_pos c20_302 h
    have c := c20_302
    refine ww_tableIn (pc := 20) (tgt := 302) g.1 d_Mo_named_20 (by rw [c]; decide) (by rw [c]; decide) (by rw [c]; rfl) (by decide) ?_
    refine ww_aload_n (pc := 302) g.1 d_Mo_named_302 rfl (lv_at hl 3 rfl) ?_
    refine ww_iload (pc := 303) g.1 d_Mo_named_303 (lv_at hl 2 rfl) ?_
    refine ww_iload (pc := 305) g.1 d_Mo_named_305 (lv_at hl 1 rfl) ?_
    refine ww_iadd (pc := 307) g.1 d_Mo_named_307 ?_
    obtain ⟨v308, s, hc308, h⟩ := oB_of h
    refine ww_callV (pc := 308) (rest := []) g cv_Mo_reg (Or.inl kw_313) cl_Mo (pz rfl (by decide)) (ct_Mo_reg hc308) ⟨by decide, by decide⟩ rfl hl.1 (Nat.le_of_ble_eq_true rfl) d_Mo_named_308 rfl ?_
    refine ww_st (st' := [.int v308]) rfl ?_
    refine ww_ok h fun cz h => ?_
    exact ww_zretH (pc := 311) g h hR cz d_Mo_named_311
  have h := oC_neg c20_302 h
  by_cases c20_312 : l4 = 5 ∨ l4 = 9
  · have h := oC_pos c20_312 h
    rcases c20_312 with c | c
    · refine ww_tableIn (pc := 20) (tgt := 312) g.1 d_Mo_named_20 (by rw [c]; decide) (by rw [c]; decide) (by rw [c]; rfl) (by decide) ?_
      refine ww_aload_n (pc := 312) g.1 d_Mo_named_312 rfl (lv_at hl 3 rfl) ?_
      refine ww_iload (pc := 313) g.1 d_Mo_named_313 (lv_at hl 2 rfl) ?_
      obtain ⟨v315, s, hc315, h⟩ := oB_of h
      refine ww_callV (pc := 315) (rest := []) g cv_Mo_reg (Or.inl kw_313) cl_Mo (pz rfl (by decide)) (ct_Mo_reg hc315) ⟨by decide, by decide⟩ rfl hl.1 (Nat.le_of_ble_eq_true rfl) d_Mo_named_315 rfl ?_
      refine ww_st (st' := [.int v315]) rfl ?_
      refine ww_if_eq (pc := 318) (tgt := 336) g.1 d_Mo_named_318 (by decide) h (fun c h => ?_) (fun c h => ?_)
      · exact j_Mo_named_j336 g hR s ls (lv_sub hl [] rfl) h
      · refine ww_iload (pc := 321) g.1 d_Mo_named_321 (lv_at hl 1 rfl) ?_
        refine ww_aload_n (pc := 323) g.1 d_Mo_named_323 rfl (lv_at hl 3 rfl) ?_
        refine ww_gR (pc := 324) g (k := 9) cl_Mo (pz rfl (by decide)) (by decide) (Or.inl kw_39) (f := 9) (t := 45) rfl rfl rfl d_Mo_named_324 ?_
        refine ww_iload_n (pc := 327) g.1 d_Mo_named_327 rfl (lv_at hl 4 rfl) ?_
        refine ww_ai (pc := 328) g (pz rfl (by decide)) rfl rfl d_Mo_named_328 h fun v328 h => ?_
        refine ww_icmp_ge (pc := 329) (tgt := 336) g.1 d_Mo_named_329 (by decide) h (fun c h => ?_) (fun c h => ?_)
        · exact j_Mo_named_j336 g hR s ls (lv_sub hl [] rfl) h
        · refine ww_iconst (pc := 332) g.1 (v := 1) d_Mo_named_332 (by decide) ?_
          refine ww_goto (pc := 333) (tgt := 337) g.1 d_Mo_named_333 (by decide) ?_
          exact ww_zretH (pc := 337) g h hR (Or.inr rfl) d_Mo_named_337
    · refine ww_tableIn (pc := 20) (tgt := 312) g.1 d_Mo_named_20 (by rw [c]; decide) (by rw [c]; decide) (by rw [c]; rfl) (by decide) ?_
      refine ww_aload_n (pc := 312) g.1 d_Mo_named_312 rfl (lv_at hl 3 rfl) ?_
      refine ww_iload (pc := 313) g.1 d_Mo_named_313 (lv_at hl 2 rfl) ?_
      obtain ⟨v315, s, hc315, h⟩ := oB_of h
      refine ww_callV (pc := 315) (rest := []) g cv_Mo_reg (Or.inl kw_313) cl_Mo (pz rfl (by decide)) (ct_Mo_reg hc315) ⟨by decide, by decide⟩ rfl hl.1 (Nat.le_of_ble_eq_true rfl) d_Mo_named_315 rfl ?_
      refine ww_st (st' := [.int v315]) rfl ?_
      refine ww_if_eq (pc := 318) (tgt := 336) g.1 d_Mo_named_318 (by decide) h (fun c h => ?_) (fun c h => ?_)
      · exact j_Mo_named_j336 g hR s ls (lv_sub hl [] rfl) h
      · refine ww_iload (pc := 321) g.1 d_Mo_named_321 (lv_at hl 1 rfl) ?_
        refine ww_aload_n (pc := 323) g.1 d_Mo_named_323 rfl (lv_at hl 3 rfl) ?_
        refine ww_gR (pc := 324) g (k := 9) cl_Mo (pz rfl (by decide)) (by decide) (Or.inl kw_39) (f := 9) (t := 45) rfl rfl rfl d_Mo_named_324 ?_
        refine ww_iload_n (pc := 327) g.1 d_Mo_named_327 rfl (lv_at hl 4 rfl) ?_
        refine ww_ai (pc := 328) g (pz rfl (by decide)) rfl rfl d_Mo_named_328 h fun v328 h => ?_
        refine ww_icmp_ge (pc := 329) (tgt := 336) g.1 d_Mo_named_329 (by decide) h (fun c h => ?_) (fun c h => ?_)
        · exact j_Mo_named_j336 g hR s ls (lv_sub hl [] rfl) h
        · refine ww_iconst (pc := 332) g.1 (v := 1) d_Mo_named_332 (by decide) ?_
          refine ww_goto (pc := 333) (tgt := 337) g.1 d_Mo_named_333 (by decide) ?_
          exact ww_zretH (pc := 337) g h hR (Or.inr rfl) d_Mo_named_337
  have h := oC_neg c20_312 h
  by_cases c20_338 : l4 = 6
  · have h := oC_pos c20_338 h
    have c := c20_338
    refine ww_tableIn (pc := 20) (tgt := 338) g.1 d_Mo_named_20 (by rw [c]; decide) (by rw [c]; decide) (by rw [c]; rfl) (by decide) ?_
    refine ww_aload_n (pc := 338) g.1 d_Mo_named_338 rfl (lv_at hl 3 rfl) ?_
    refine ww_iload (pc := 339) g.1 d_Mo_named_339 (lv_at hl 2 rfl) ?_
    obtain ⟨v341, s, hc341, h⟩ := oB_of h
    refine ww_callV (pc := 341) (rest := []) g cv_Mo_reg (Or.inl kw_313) cl_Mo (pz rfl (by decide)) (ct_Mo_reg hc341) ⟨by decide, by decide⟩ rfl hl.1 (Nat.le_of_ble_eq_true rfl) d_Mo_named_341 rfl ?_
    refine ww_st (st' := [.int v341]) rfl ?_
    refine ww_if_eq (pc := 344) (tgt := 371) g.1 d_Mo_named_344 (by decide) h (fun c h => ?_) (fun c h => ?_)
    · exact j_Mo_named_j371 g hR s ls (lv_sub hl [] rfl) h
    · refine ww_iload (pc := 347) g.1 d_Mo_named_347 (lv_at hl 1 rfl) ?_
      refine ww_aload_n (pc := 349) g.1 d_Mo_named_349 rfl (lv_at hl 3 rfl) ?_
      refine ww_gR (pc := 350) g (k := 9) cl_Mo (pz rfl (by decide)) (by decide) (Or.inl kw_39) (f := 9) (t := 45) rfl rfl rfl d_Mo_named_350 ?_
      refine ww_iload_n (pc := 353) g.1 d_Mo_named_353 rfl (lv_at hl 4 rfl) ?_
      refine ww_ai (pc := 354) g (pz rfl (by decide)) rfl rfl d_Mo_named_354 h fun v354 h => ?_
      refine ww_icmp_ge (pc := 355) (tgt := 371) g.1 d_Mo_named_355 (by decide) h (fun c h => ?_) (fun c h => ?_)
      · exact j_Mo_named_j371 g hR s ls (lv_sub hl [] rfl) h
      · refine ww_aload_n (pc := 358) g.1 d_Mo_named_358 rfl (lv_at hl 3 rfl) ?_
        refine ww_iload (pc := 359) g.1 d_Mo_named_359 (lv_at hl 0 rfl) ?_
        obtain ⟨v361, s, hc361, h⟩ := oB_of h
        refine ww_callV (pc := 361) (rest := []) g cv_Mo_rk (Or.inl kw_316) cl_Mo (pz rfl (by decide)) (ct_Mo_rk hc361) ⟨by decide, by decide⟩ rfl hl.1 (Nat.le_of_ble_eq_true rfl) d_Mo_named_361 rfl ?_
        refine ww_st (st' := [.int v361]) rfl ?_
        refine ww_if_eq (pc := 364) (tgt := 371) g.1 d_Mo_named_364 (by decide) h (fun c h => ?_) (fun c h => ?_)
        · exact j_Mo_named_j371 g hR s ls (lv_sub hl [] rfl) h
        · refine ww_iconst (pc := 367) g.1 (v := 1) d_Mo_named_367 (by decide) ?_
          refine ww_goto (pc := 368) (tgt := 372) g.1 d_Mo_named_368 (by decide) ?_
          exact ww_zretH (pc := 372) g h hR (Or.inr rfl) d_Mo_named_372
  have h := oC_neg c20_338 h
  by_cases c20_373 : l4 = 7
  · have h := oC_pos c20_373 h
    have c := c20_373
    refine ww_tableIn (pc := 20) (tgt := 373) g.1 d_Mo_named_20 (by rw [c]; decide) (by rw [c]; decide) (by rw [c]; rfl) (by decide) ?_
    refine ww_aload_n (pc := 373) g.1 d_Mo_named_373 rfl (lv_at hl 3 rfl) ?_
    refine ww_iload (pc := 374) g.1 d_Mo_named_374 (lv_at hl 2 rfl) ?_
    obtain ⟨v376, s, hc376, h⟩ := oB_of h
    refine ww_callV (pc := 376) (rest := []) g cv_Mo_reg (Or.inl kw_313) cl_Mo (pz rfl (by decide)) (ct_Mo_reg hc376) ⟨by decide, by decide⟩ rfl hl.1 (Nat.le_of_ble_eq_true rfl) d_Mo_named_376 rfl ?_
    refine ww_st (st' := [.int v376]) rfl ?_
    refine ww_if_eq (pc := 379) (tgt := 404) g.1 d_Mo_named_379 (by decide) h (fun c h => ?_) (fun c h => ?_)
    · exact j_Mo_named_j404 g hR s ls (lv_sub hl [] rfl) h
    · refine ww_aload_n (pc := 382) g.1 d_Mo_named_382 rfl (lv_at hl 3 rfl) ?_
      refine ww_iload (pc := 383) g.1 d_Mo_named_383 (lv_at hl 1 rfl) ?_
      obtain ⟨v385, s, hc385, h⟩ := oB_of h
      refine ww_callV (pc := 385) (rest := []) g cv_Mo_reg (Or.inl kw_313) cl_Mo (pz rfl (by decide)) (ct_Mo_reg hc385) ⟨by decide, by decide⟩ rfl hl.1 (Nat.le_of_ble_eq_true rfl) d_Mo_named_385 rfl ?_
      refine ww_st (st' := [.int v385]) rfl ?_
      refine ww_if_eq (pc := 388) (tgt := 404) g.1 d_Mo_named_388 (by decide) h (fun c h => ?_) (fun c h => ?_)
      · exact j_Mo_named_j404 g hR s ls (lv_sub hl [] rfl) h
      · refine ww_aload_n (pc := 391) g.1 d_Mo_named_391 rfl (lv_at hl 3 rfl) ?_
        refine ww_iload (pc := 392) g.1 d_Mo_named_392 (lv_at hl 0 rfl) ?_
        obtain ⟨v394, s, hc394, h⟩ := oB_of h
        refine ww_callV (pc := 394) (rest := []) g cv_Mo_rk (Or.inl kw_316) cl_Mo (pz rfl (by decide)) (ct_Mo_rk hc394) ⟨by decide, by decide⟩ rfl hl.1 (Nat.le_of_ble_eq_true rfl) d_Mo_named_394 rfl ?_
        refine ww_st (st' := [.int v394]) rfl ?_
        refine ww_if_eq (pc := 397) (tgt := 404) g.1 d_Mo_named_397 (by decide) h (fun c h => ?_) (fun c h => ?_)
        · exact j_Mo_named_j404 g hR s ls (lv_sub hl [] rfl) h
        · refine ww_iconst (pc := 400) g.1 (v := 1) d_Mo_named_400 (by decide) ?_
          refine ww_goto (pc := 401) (tgt := 405) g.1 d_Mo_named_401 (by decide) ?_
          exact ww_zretH (pc := 405) g h hR (Or.inr rfl) d_Mo_named_405
  have h := oC_neg c20_373 h
  by_cases c20_406 : l4 = 8
  · have h := oC_pos c20_406 h
    have c := c20_406
    refine ww_tableIn (pc := 20) (tgt := 406) g.1 d_Mo_named_20 (by rw [c]; decide) (by rw [c]; decide) (by rw [c]; rfl) (by decide) ?_
    refine ww_iload (pc := 406) g.1 d_Mo_named_406 (lv_at hl 2 rfl) ?_
    refine ww_aload_n (pc := 408) g.1 d_Mo_named_408 rfl (lv_at hl 3 rfl) ?_
    refine ww_gR (pc := 409) g (k := 9) cl_Mo (pz rfl (by decide)) (by decide) (Or.inl kw_39) (f := 9) (t := 45) rfl rfl rfl d_Mo_named_409 ?_
    refine ww_iload_n (pc := 412) g.1 d_Mo_named_412 rfl (lv_at hl 4 rfl) ?_
    refine ww_ai (pc := 413) g (pz rfl (by decide)) rfl rfl d_Mo_named_413 h fun v413 h => ?_
    refine ww_icmp_ge (pc := 414) (tgt := 439) g.1 d_Mo_named_414 (by decide) h (fun c h => ?_) (fun c h => ?_)
    · exact j_Mo_named_j439 g hR s ls (lv_sub hl [] rfl) h
    · refine ww_aload_n (pc := 417) g.1 d_Mo_named_417 rfl (lv_at hl 3 rfl) ?_
      refine ww_iload (pc := 418) g.1 d_Mo_named_418 (lv_at hl 1 rfl) ?_
      obtain ⟨v420, s, hc420, h⟩ := oB_of h
      refine ww_callV (pc := 420) (rest := []) g cv_Mo_rk (Or.inl kw_316) cl_Mo (pz rfl (by decide)) (ct_Mo_rk hc420) ⟨by decide, by decide⟩ rfl hl.1 (Nat.le_of_ble_eq_true rfl) d_Mo_named_420 rfl ?_
      refine ww_st (st' := [.int v420]) rfl ?_
      refine ww_if_eq (pc := 423) (tgt := 439) g.1 d_Mo_named_423 (by decide) h (fun c h => ?_) (fun c h => ?_)
      · exact j_Mo_named_j439 g hR s ls (lv_sub hl [] rfl) h
      · refine ww_aload_n (pc := 426) g.1 d_Mo_named_426 rfl (lv_at hl 3 rfl) ?_
        refine ww_iload (pc := 427) g.1 d_Mo_named_427 (lv_at hl 0 rfl) ?_
        obtain ⟨v429, s, hc429, h⟩ := oB_of h
        refine ww_callV (pc := 429) (rest := []) g cv_Mo_rk (Or.inl kw_316) cl_Mo (pz rfl (by decide)) (ct_Mo_rk hc429) ⟨by decide, by decide⟩ rfl hl.1 (Nat.le_of_ble_eq_true rfl) d_Mo_named_429 rfl ?_
        refine ww_st (st' := [.int v429]) rfl ?_
        refine ww_if_eq (pc := 432) (tgt := 439) g.1 d_Mo_named_432 (by decide) h (fun c h => ?_) (fun c h => ?_)
        · exact j_Mo_named_j439 g hR s ls (lv_sub hl [] rfl) h
        · refine ww_iconst (pc := 435) g.1 (v := 1) d_Mo_named_435 (by decide) ?_
          refine ww_goto (pc := 436) (tgt := 440) g.1 d_Mo_named_436 (by decide) ?_
          exact ww_zretH (pc := 440) g h hR (Or.inr rfl) d_Mo_named_440
  have h := oC_neg c20_406 h
  by_cases c20_441 : l4 = 10
  · have h := oC_pos c20_441 h
    have c := c20_441
    refine ww_tableIn (pc := 20) (tgt := 441) g.1 d_Mo_named_20 (by rw [c]; decide) (by rw [c]; decide) (by rw [c]; rfl) (by decide) ?_
    refine ww_aload_n (pc := 441) g.1 d_Mo_named_441 rfl (lv_at hl 3 rfl) ?_
    refine ww_iload (pc := 442) g.1 d_Mo_named_442 (lv_at hl 2 rfl) ?_
    obtain ⟨v444, s, hc444, h⟩ := oB_of h
    refine ww_callV (pc := 444) (rest := []) g cv_Mo_reg (Or.inl kw_313) cl_Mo (pz rfl (by decide)) (ct_Mo_reg hc444) ⟨by decide, by decide⟩ rfl hl.1 (Nat.le_of_ble_eq_true rfl) d_Mo_named_444 rfl ?_
    refine ww_st (st' := [.int v444]) rfl ?_
    refine ww_if_eq (pc := 447) (tgt := 472) g.1 d_Mo_named_447 (by decide) h (fun c h => ?_) (fun c h => ?_)
    · exact j_Mo_named_j472 g hR s ls (lv_sub hl [] rfl) h
    · refine ww_aload_n (pc := 450) g.1 d_Mo_named_450 rfl (lv_at hl 3 rfl) ?_
      refine ww_iload (pc := 451) g.1 d_Mo_named_451 (lv_at hl 1 rfl) ?_
      obtain ⟨v453, s, hc453, h⟩ := oB_of h
      refine ww_callV (pc := 453) (rest := []) g cv_Mo_rk (Or.inl kw_316) cl_Mo (pz rfl (by decide)) (ct_Mo_rk hc453) ⟨by decide, by decide⟩ rfl hl.1 (Nat.le_of_ble_eq_true rfl) d_Mo_named_453 rfl ?_
      refine ww_st (st' := [.int v453]) rfl ?_
      refine ww_if_eq (pc := 456) (tgt := 472) g.1 d_Mo_named_456 (by decide) h (fun c h => ?_) (fun c h => ?_)
      · exact j_Mo_named_j472 g hR s ls (lv_sub hl [] rfl) h
      · refine ww_aload_n (pc := 459) g.1 d_Mo_named_459 rfl (lv_at hl 3 rfl) ?_
        refine ww_iload (pc := 460) g.1 d_Mo_named_460 (lv_at hl 0 rfl) ?_
        obtain ⟨v462, s, hc462, h⟩ := oB_of h
        refine ww_callV (pc := 462) (rest := []) g cv_Mo_rk (Or.inl kw_316) cl_Mo (pz rfl (by decide)) (ct_Mo_rk hc462) ⟨by decide, by decide⟩ rfl hl.1 (Nat.le_of_ble_eq_true rfl) d_Mo_named_462 rfl ?_
        refine ww_st (st' := [.int v462]) rfl ?_
        refine ww_if_eq (pc := 465) (tgt := 472) g.1 d_Mo_named_465 (by decide) h (fun c h => ?_) (fun c h => ?_)
        · exact j_Mo_named_j472 g hR s ls (lv_sub hl [] rfl) h
        · refine ww_iconst (pc := 468) g.1 (v := 1) d_Mo_named_468 (by decide) ?_
          refine ww_goto (pc := 469) (tgt := 473) g.1 d_Mo_named_469 (by decide) ?_
          exact ww_zretH (pc := 473) g h hR (Or.inr rfl) d_Mo_named_473
  have h := oC_neg c20_441 h
  by_cases c20_474 : l4 = 11
  · have h := oC_pos c20_474 h
    have c := c20_474
    refine ww_tableIn (pc := 20) (tgt := 474) g.1 d_Mo_named_20 (by rw [c]; decide) (by rw [c]; decide) (by rw [c]; rfl) (by decide) ?_
    refine ww_aload_n (pc := 474) g.1 d_Mo_named_474 rfl (lv_at hl 3 rfl) ?_
    refine ww_iload (pc := 475) g.1 d_Mo_named_475 (lv_at hl 2 rfl) ?_
    obtain ⟨v477, s, hc477, h⟩ := oB_of h
    refine ww_callV (pc := 477) (rest := []) g cv_Mo_reg (Or.inl kw_313) cl_Mo (pz rfl (by decide)) (ct_Mo_reg hc477) ⟨by decide, by decide⟩ rfl hl.1 (Nat.le_of_ble_eq_true rfl) d_Mo_named_477 rfl ?_
    refine ww_st (st' := [.int v477]) rfl ?_
    refine ww_ok h fun cz h => ?_
    exact ww_zretH (pc := 480) g h hR cz d_Mo_named_480
  have h := oC_neg c20_474 h
  by_cases c20_481 : l4 = 12
  · have h := oC_pos c20_481 h
    have c := c20_481
    refine ww_tableIn (pc := 20) (tgt := 481) g.1 d_Mo_named_20 (by rw [c]; decide) (by rw [c]; decide) (by rw [c]; rfl) (by decide) ?_
    refine ww_aload_n (pc := 481) g.1 d_Mo_named_481 rfl (lv_at hl 3 rfl) ?_
    refine ww_iload (pc := 482) g.1 d_Mo_named_482 (lv_at hl 2 rfl) ?_
    refine ww_iconst (pc := 484) g.1 (v := 1) d_Mo_named_484 (by decide) ?_
    refine ww_iadd (pc := 485) g.1 d_Mo_named_485 ?_
    obtain ⟨v486, s, hc486, h⟩ := oB_of h
    refine ww_callV (pc := 486) (rest := []) g cv_Mo_reg (Or.inl kw_313) cl_Mo (pz rfl (by decide)) (ct_Mo_reg hc486) ⟨by decide, by decide⟩ rfl hl.1 (Nat.le_of_ble_eq_true rfl) d_Mo_named_486 rfl ?_
    refine ww_st (st' := [.int v486]) rfl ?_
    refine ww_if_eq (pc := 489) (tgt := 514) g.1 d_Mo_named_489 (by decide) h (fun c h => ?_) (fun c h => ?_)
    · exact j_Mo_named_j514 g hR s ls (lv_sub hl [] rfl) h
    · refine ww_aload_n (pc := 492) g.1 d_Mo_named_492 rfl (lv_at hl 3 rfl) ?_
      refine ww_iload (pc := 493) g.1 d_Mo_named_493 (lv_at hl 1 rfl) ?_
      obtain ⟨v495, s, hc495, h⟩ := oB_of h
      refine ww_callV (pc := 495) (rest := []) g cv_Mo_reg (Or.inl kw_313) cl_Mo (pz rfl (by decide)) (ct_Mo_reg hc495) ⟨by decide, by decide⟩ rfl hl.1 (Nat.le_of_ble_eq_true rfl) d_Mo_named_495 rfl ?_
      refine ww_st (st' := [.int v495]) rfl ?_
      refine ww_if_eq (pc := 498) (tgt := 514) g.1 d_Mo_named_498 (by decide) h (fun c h => ?_) (fun c h => ?_)
      · exact j_Mo_named_j514 g hR s ls (lv_sub hl [] rfl) h
      · refine ww_aload_n (pc := 501) g.1 d_Mo_named_501 rfl (lv_at hl 3 rfl) ?_
        refine ww_iload (pc := 502) g.1 d_Mo_named_502 (lv_at hl 0 rfl) ?_
        obtain ⟨v504, s, hc504, h⟩ := oB_of h
        refine ww_callV (pc := 504) (rest := []) g cv_Mo_rk (Or.inl kw_316) cl_Mo (pz rfl (by decide)) (ct_Mo_rk hc504) ⟨by decide, by decide⟩ rfl hl.1 (Nat.le_of_ble_eq_true rfl) d_Mo_named_504 rfl ?_
        refine ww_st (st' := [.int v504]) rfl ?_
        refine ww_if_eq (pc := 507) (tgt := 514) g.1 d_Mo_named_507 (by decide) h (fun c h => ?_) (fun c h => ?_)
        · exact j_Mo_named_j514 g hR s ls (lv_sub hl [] rfl) h
        · refine ww_iconst (pc := 510) g.1 (v := 1) d_Mo_named_510 (by decide) ?_
          refine ww_goto (pc := 511) (tgt := 515) g.1 d_Mo_named_511 (by decide) ?_
          exact ww_zretH (pc := 515) g h hR (Or.inr rfl) d_Mo_named_515
  have h := oC_neg c20_481 h
  by_cases c20_516 : l4 = 13 ∨ l4 = 14 ∨ l4 = 15 ∨ l4 = 16 ∨ l4 = 19 ∨ l4 = 20 ∨ l4 = 21 ∨ l4 = 22 ∨ l4 = 23 ∨ l4 = 24
  · have h := oC_pos c20_516 h
    rcases c20_516 with c | c | c | c | c | c | c | c | c | c
    · refine ww_tableIn (pc := 20) (tgt := 516) g.1 d_Mo_named_20 (by rw [c]; decide) (by rw [c]; decide) (by rw [c]; rfl) (by decide) ?_
      refine ww_aload_n (pc := 516) g.1 d_Mo_named_516 rfl (lv_at hl 3 rfl) ?_
      refine ww_iload (pc := 517) g.1 d_Mo_named_517 (lv_at hl 2 rfl) ?_
      obtain ⟨v519, s, hc519, h⟩ := oB_of h
      refine ww_callV (pc := 519) (rest := []) g cv_Mo_reg (Or.inl kw_313) cl_Mo (pz rfl (by decide)) (ct_Mo_reg hc519) ⟨by decide, by decide⟩ rfl hl.1 (Nat.le_of_ble_eq_true rfl) d_Mo_named_519 rfl ?_
      refine ww_st (st' := [.int v519]) rfl ?_
      refine ww_if_eq (pc := 522) (tgt := 547) g.1 d_Mo_named_522 (by decide) h (fun c h => ?_) (fun c h => ?_)
      · exact j_Mo_named_j547 g hR s ls (lv_sub hl [] rfl) h
      · refine ww_aload_n (pc := 525) g.1 d_Mo_named_525 rfl (lv_at hl 3 rfl) ?_
        refine ww_iload (pc := 526) g.1 d_Mo_named_526 (lv_at hl 1 rfl) ?_
        obtain ⟨v528, s, hc528, h⟩ := oB_of h
        refine ww_callV (pc := 528) (rest := []) g cv_Mo_rk (Or.inl kw_316) cl_Mo (pz rfl (by decide)) (ct_Mo_rk hc528) ⟨by decide, by decide⟩ rfl hl.1 (Nat.le_of_ble_eq_true rfl) d_Mo_named_528 rfl ?_
        refine ww_st (st' := [.int v528]) rfl ?_
        refine ww_if_eq (pc := 531) (tgt := 547) g.1 d_Mo_named_531 (by decide) h (fun c h => ?_) (fun c h => ?_)
        · exact j_Mo_named_j547 g hR s ls (lv_sub hl [] rfl) h
        · refine ww_aload_n (pc := 534) g.1 d_Mo_named_534 rfl (lv_at hl 3 rfl) ?_
          refine ww_iload (pc := 535) g.1 d_Mo_named_535 (lv_at hl 0 rfl) ?_
          obtain ⟨v537, s, hc537, h⟩ := oB_of h
          refine ww_callV (pc := 537) (rest := []) g cv_Mo_rk (Or.inl kw_316) cl_Mo (pz rfl (by decide)) (ct_Mo_rk hc537) ⟨by decide, by decide⟩ rfl hl.1 (Nat.le_of_ble_eq_true rfl) d_Mo_named_537 rfl ?_
          refine ww_st (st' := [.int v537]) rfl ?_
          refine ww_if_eq (pc := 540) (tgt := 547) g.1 d_Mo_named_540 (by decide) h (fun c h => ?_) (fun c h => ?_)
          · exact j_Mo_named_j547 g hR s ls (lv_sub hl [] rfl) h
          · refine ww_iconst (pc := 543) g.1 (v := 1) d_Mo_named_543 (by decide) ?_
            refine ww_goto (pc := 544) (tgt := 548) g.1 d_Mo_named_544 (by decide) ?_
            exact ww_zretH (pc := 548) g h hR (Or.inr rfl) d_Mo_named_548
    · refine ww_tableIn (pc := 20) (tgt := 516) g.1 d_Mo_named_20 (by rw [c]; decide) (by rw [c]; decide) (by rw [c]; rfl) (by decide) ?_
      refine ww_aload_n (pc := 516) g.1 d_Mo_named_516 rfl (lv_at hl 3 rfl) ?_
      refine ww_iload (pc := 517) g.1 d_Mo_named_517 (lv_at hl 2 rfl) ?_
      obtain ⟨v519, s, hc519, h⟩ := oB_of h
      refine ww_callV (pc := 519) (rest := []) g cv_Mo_reg (Or.inl kw_313) cl_Mo (pz rfl (by decide)) (ct_Mo_reg hc519) ⟨by decide, by decide⟩ rfl hl.1 (Nat.le_of_ble_eq_true rfl) d_Mo_named_519 rfl ?_
      refine ww_st (st' := [.int v519]) rfl ?_
      refine ww_if_eq (pc := 522) (tgt := 547) g.1 d_Mo_named_522 (by decide) h (fun c h => ?_) (fun c h => ?_)
      · exact j_Mo_named_j547 g hR s ls (lv_sub hl [] rfl) h
      · refine ww_aload_n (pc := 525) g.1 d_Mo_named_525 rfl (lv_at hl 3 rfl) ?_
        refine ww_iload (pc := 526) g.1 d_Mo_named_526 (lv_at hl 1 rfl) ?_
        obtain ⟨v528, s, hc528, h⟩ := oB_of h
        refine ww_callV (pc := 528) (rest := []) g cv_Mo_rk (Or.inl kw_316) cl_Mo (pz rfl (by decide)) (ct_Mo_rk hc528) ⟨by decide, by decide⟩ rfl hl.1 (Nat.le_of_ble_eq_true rfl) d_Mo_named_528 rfl ?_
        refine ww_st (st' := [.int v528]) rfl ?_
        refine ww_if_eq (pc := 531) (tgt := 547) g.1 d_Mo_named_531 (by decide) h (fun c h => ?_) (fun c h => ?_)
        · exact j_Mo_named_j547 g hR s ls (lv_sub hl [] rfl) h
        · refine ww_aload_n (pc := 534) g.1 d_Mo_named_534 rfl (lv_at hl 3 rfl) ?_
          refine ww_iload (pc := 535) g.1 d_Mo_named_535 (lv_at hl 0 rfl) ?_
          obtain ⟨v537, s, hc537, h⟩ := oB_of h
          refine ww_callV (pc := 537) (rest := []) g cv_Mo_rk (Or.inl kw_316) cl_Mo (pz rfl (by decide)) (ct_Mo_rk hc537) ⟨by decide, by decide⟩ rfl hl.1 (Nat.le_of_ble_eq_true rfl) d_Mo_named_537 rfl ?_
          refine ww_st (st' := [.int v537]) rfl ?_
          refine ww_if_eq (pc := 540) (tgt := 547) g.1 d_Mo_named_540 (by decide) h (fun c h => ?_) (fun c h => ?_)
          · exact j_Mo_named_j547 g hR s ls (lv_sub hl [] rfl) h
          · refine ww_iconst (pc := 543) g.1 (v := 1) d_Mo_named_543 (by decide) ?_
            refine ww_goto (pc := 544) (tgt := 548) g.1 d_Mo_named_544 (by decide) ?_
            exact ww_zretH (pc := 548) g h hR (Or.inr rfl) d_Mo_named_548
    · refine ww_tableIn (pc := 20) (tgt := 516) g.1 d_Mo_named_20 (by rw [c]; decide) (by rw [c]; decide) (by rw [c]; rfl) (by decide) ?_
      refine ww_aload_n (pc := 516) g.1 d_Mo_named_516 rfl (lv_at hl 3 rfl) ?_
      refine ww_iload (pc := 517) g.1 d_Mo_named_517 (lv_at hl 2 rfl) ?_
      obtain ⟨v519, s, hc519, h⟩ := oB_of h
      refine ww_callV (pc := 519) (rest := []) g cv_Mo_reg (Or.inl kw_313) cl_Mo (pz rfl (by decide)) (ct_Mo_reg hc519) ⟨by decide, by decide⟩ rfl hl.1 (Nat.le_of_ble_eq_true rfl) d_Mo_named_519 rfl ?_
      refine ww_st (st' := [.int v519]) rfl ?_
      refine ww_if_eq (pc := 522) (tgt := 547) g.1 d_Mo_named_522 (by decide) h (fun c h => ?_) (fun c h => ?_)
      · exact j_Mo_named_j547 g hR s ls (lv_sub hl [] rfl) h
      · refine ww_aload_n (pc := 525) g.1 d_Mo_named_525 rfl (lv_at hl 3 rfl) ?_
        refine ww_iload (pc := 526) g.1 d_Mo_named_526 (lv_at hl 1 rfl) ?_
        obtain ⟨v528, s, hc528, h⟩ := oB_of h
        refine ww_callV (pc := 528) (rest := []) g cv_Mo_rk (Or.inl kw_316) cl_Mo (pz rfl (by decide)) (ct_Mo_rk hc528) ⟨by decide, by decide⟩ rfl hl.1 (Nat.le_of_ble_eq_true rfl) d_Mo_named_528 rfl ?_
        refine ww_st (st' := [.int v528]) rfl ?_
        refine ww_if_eq (pc := 531) (tgt := 547) g.1 d_Mo_named_531 (by decide) h (fun c h => ?_) (fun c h => ?_)
        · exact j_Mo_named_j547 g hR s ls (lv_sub hl [] rfl) h
        · refine ww_aload_n (pc := 534) g.1 d_Mo_named_534 rfl (lv_at hl 3 rfl) ?_
          refine ww_iload (pc := 535) g.1 d_Mo_named_535 (lv_at hl 0 rfl) ?_
          obtain ⟨v537, s, hc537, h⟩ := oB_of h
          refine ww_callV (pc := 537) (rest := []) g cv_Mo_rk (Or.inl kw_316) cl_Mo (pz rfl (by decide)) (ct_Mo_rk hc537) ⟨by decide, by decide⟩ rfl hl.1 (Nat.le_of_ble_eq_true rfl) d_Mo_named_537 rfl ?_
          refine ww_st (st' := [.int v537]) rfl ?_
          refine ww_if_eq (pc := 540) (tgt := 547) g.1 d_Mo_named_540 (by decide) h (fun c h => ?_) (fun c h => ?_)
          · exact j_Mo_named_j547 g hR s ls (lv_sub hl [] rfl) h
          · refine ww_iconst (pc := 543) g.1 (v := 1) d_Mo_named_543 (by decide) ?_
            refine ww_goto (pc := 544) (tgt := 548) g.1 d_Mo_named_544 (by decide) ?_
            exact ww_zretH (pc := 548) g h hR (Or.inr rfl) d_Mo_named_548
    · refine ww_tableIn (pc := 20) (tgt := 516) g.1 d_Mo_named_20 (by rw [c]; decide) (by rw [c]; decide) (by rw [c]; rfl) (by decide) ?_
      refine ww_aload_n (pc := 516) g.1 d_Mo_named_516 rfl (lv_at hl 3 rfl) ?_
      refine ww_iload (pc := 517) g.1 d_Mo_named_517 (lv_at hl 2 rfl) ?_
      obtain ⟨v519, s, hc519, h⟩ := oB_of h
      refine ww_callV (pc := 519) (rest := []) g cv_Mo_reg (Or.inl kw_313) cl_Mo (pz rfl (by decide)) (ct_Mo_reg hc519) ⟨by decide, by decide⟩ rfl hl.1 (Nat.le_of_ble_eq_true rfl) d_Mo_named_519 rfl ?_
      refine ww_st (st' := [.int v519]) rfl ?_
      refine ww_if_eq (pc := 522) (tgt := 547) g.1 d_Mo_named_522 (by decide) h (fun c h => ?_) (fun c h => ?_)
      · exact j_Mo_named_j547 g hR s ls (lv_sub hl [] rfl) h
      · refine ww_aload_n (pc := 525) g.1 d_Mo_named_525 rfl (lv_at hl 3 rfl) ?_
        refine ww_iload (pc := 526) g.1 d_Mo_named_526 (lv_at hl 1 rfl) ?_
        obtain ⟨v528, s, hc528, h⟩ := oB_of h
        refine ww_callV (pc := 528) (rest := []) g cv_Mo_rk (Or.inl kw_316) cl_Mo (pz rfl (by decide)) (ct_Mo_rk hc528) ⟨by decide, by decide⟩ rfl hl.1 (Nat.le_of_ble_eq_true rfl) d_Mo_named_528 rfl ?_
        refine ww_st (st' := [.int v528]) rfl ?_
        refine ww_if_eq (pc := 531) (tgt := 547) g.1 d_Mo_named_531 (by decide) h (fun c h => ?_) (fun c h => ?_)
        · exact j_Mo_named_j547 g hR s ls (lv_sub hl [] rfl) h
        · refine ww_aload_n (pc := 534) g.1 d_Mo_named_534 rfl (lv_at hl 3 rfl) ?_
          refine ww_iload (pc := 535) g.1 d_Mo_named_535 (lv_at hl 0 rfl) ?_
          obtain ⟨v537, s, hc537, h⟩ := oB_of h
          refine ww_callV (pc := 537) (rest := []) g cv_Mo_rk (Or.inl kw_316) cl_Mo (pz rfl (by decide)) (ct_Mo_rk hc537) ⟨by decide, by decide⟩ rfl hl.1 (Nat.le_of_ble_eq_true rfl) d_Mo_named_537 rfl ?_
          refine ww_st (st' := [.int v537]) rfl ?_
          refine ww_if_eq (pc := 540) (tgt := 547) g.1 d_Mo_named_540 (by decide) h (fun c h => ?_) (fun c h => ?_)
          · exact j_Mo_named_j547 g hR s ls (lv_sub hl [] rfl) h
          · refine ww_iconst (pc := 543) g.1 (v := 1) d_Mo_named_543 (by decide) ?_
            refine ww_goto (pc := 544) (tgt := 548) g.1 d_Mo_named_544 (by decide) ?_
            exact ww_zretH (pc := 548) g h hR (Or.inr rfl) d_Mo_named_548
    · refine ww_tableIn (pc := 20) (tgt := 516) g.1 d_Mo_named_20 (by rw [c]; decide) (by rw [c]; decide) (by rw [c]; rfl) (by decide) ?_
      refine ww_aload_n (pc := 516) g.1 d_Mo_named_516 rfl (lv_at hl 3 rfl) ?_
      refine ww_iload (pc := 517) g.1 d_Mo_named_517 (lv_at hl 2 rfl) ?_
      obtain ⟨v519, s, hc519, h⟩ := oB_of h
      refine ww_callV (pc := 519) (rest := []) g cv_Mo_reg (Or.inl kw_313) cl_Mo (pz rfl (by decide)) (ct_Mo_reg hc519) ⟨by decide, by decide⟩ rfl hl.1 (Nat.le_of_ble_eq_true rfl) d_Mo_named_519 rfl ?_
      refine ww_st (st' := [.int v519]) rfl ?_
      refine ww_if_eq (pc := 522) (tgt := 547) g.1 d_Mo_named_522 (by decide) h (fun c h => ?_) (fun c h => ?_)
      · exact j_Mo_named_j547 g hR s ls (lv_sub hl [] rfl) h
      · refine ww_aload_n (pc := 525) g.1 d_Mo_named_525 rfl (lv_at hl 3 rfl) ?_
        refine ww_iload (pc := 526) g.1 d_Mo_named_526 (lv_at hl 1 rfl) ?_
        obtain ⟨v528, s, hc528, h⟩ := oB_of h
        refine ww_callV (pc := 528) (rest := []) g cv_Mo_rk (Or.inl kw_316) cl_Mo (pz rfl (by decide)) (ct_Mo_rk hc528) ⟨by decide, by decide⟩ rfl hl.1 (Nat.le_of_ble_eq_true rfl) d_Mo_named_528 rfl ?_
        refine ww_st (st' := [.int v528]) rfl ?_
        refine ww_if_eq (pc := 531) (tgt := 547) g.1 d_Mo_named_531 (by decide) h (fun c h => ?_) (fun c h => ?_)
        · exact j_Mo_named_j547 g hR s ls (lv_sub hl [] rfl) h
        · refine ww_aload_n (pc := 534) g.1 d_Mo_named_534 rfl (lv_at hl 3 rfl) ?_
          refine ww_iload (pc := 535) g.1 d_Mo_named_535 (lv_at hl 0 rfl) ?_
          obtain ⟨v537, s, hc537, h⟩ := oB_of h
          refine ww_callV (pc := 537) (rest := []) g cv_Mo_rk (Or.inl kw_316) cl_Mo (pz rfl (by decide)) (ct_Mo_rk hc537) ⟨by decide, by decide⟩ rfl hl.1 (Nat.le_of_ble_eq_true rfl) d_Mo_named_537 rfl ?_
          refine ww_st (st' := [.int v537]) rfl ?_
          refine ww_if_eq (pc := 540) (tgt := 547) g.1 d_Mo_named_540 (by decide) h (fun c h => ?_) (fun c h => ?_)
          · exact j_Mo_named_j547 g hR s ls (lv_sub hl [] rfl) h
          · refine ww_iconst (pc := 543) g.1 (v := 1) d_Mo_named_543 (by decide) ?_
            refine ww_goto (pc := 544) (tgt := 548) g.1 d_Mo_named_544 (by decide) ?_
            exact ww_zretH (pc := 548) g h hR (Or.inr rfl) d_Mo_named_548
    · refine ww_tableIn (pc := 20) (tgt := 516) g.1 d_Mo_named_20 (by rw [c]; decide) (by rw [c]; decide) (by rw [c]; rfl) (by decide) ?_
      refine ww_aload_n (pc := 516) g.1 d_Mo_named_516 rfl (lv_at hl 3 rfl) ?_
      refine ww_iload (pc := 517) g.1 d_Mo_named_517 (lv_at hl 2 rfl) ?_
      obtain ⟨v519, s, hc519, h⟩ := oB_of h
      refine ww_callV (pc := 519) (rest := []) g cv_Mo_reg (Or.inl kw_313) cl_Mo (pz rfl (by decide)) (ct_Mo_reg hc519) ⟨by decide, by decide⟩ rfl hl.1 (Nat.le_of_ble_eq_true rfl) d_Mo_named_519 rfl ?_
      refine ww_st (st' := [.int v519]) rfl ?_
      refine ww_if_eq (pc := 522) (tgt := 547) g.1 d_Mo_named_522 (by decide) h (fun c h => ?_) (fun c h => ?_)
      · exact j_Mo_named_j547 g hR s ls (lv_sub hl [] rfl) h
      · refine ww_aload_n (pc := 525) g.1 d_Mo_named_525 rfl (lv_at hl 3 rfl) ?_
        refine ww_iload (pc := 526) g.1 d_Mo_named_526 (lv_at hl 1 rfl) ?_
        obtain ⟨v528, s, hc528, h⟩ := oB_of h
        refine ww_callV (pc := 528) (rest := []) g cv_Mo_rk (Or.inl kw_316) cl_Mo (pz rfl (by decide)) (ct_Mo_rk hc528) ⟨by decide, by decide⟩ rfl hl.1 (Nat.le_of_ble_eq_true rfl) d_Mo_named_528 rfl ?_
        refine ww_st (st' := [.int v528]) rfl ?_
        refine ww_if_eq (pc := 531) (tgt := 547) g.1 d_Mo_named_531 (by decide) h (fun c h => ?_) (fun c h => ?_)
        · exact j_Mo_named_j547 g hR s ls (lv_sub hl [] rfl) h
        · refine ww_aload_n (pc := 534) g.1 d_Mo_named_534 rfl (lv_at hl 3 rfl) ?_
          refine ww_iload (pc := 535) g.1 d_Mo_named_535 (lv_at hl 0 rfl) ?_
          obtain ⟨v537, s, hc537, h⟩ := oB_of h
          refine ww_callV (pc := 537) (rest := []) g cv_Mo_rk (Or.inl kw_316) cl_Mo (pz rfl (by decide)) (ct_Mo_rk hc537) ⟨by decide, by decide⟩ rfl hl.1 (Nat.le_of_ble_eq_true rfl) d_Mo_named_537 rfl ?_
          refine ww_st (st' := [.int v537]) rfl ?_
          refine ww_if_eq (pc := 540) (tgt := 547) g.1 d_Mo_named_540 (by decide) h (fun c h => ?_) (fun c h => ?_)
          · exact j_Mo_named_j547 g hR s ls (lv_sub hl [] rfl) h
          · refine ww_iconst (pc := 543) g.1 (v := 1) d_Mo_named_543 (by decide) ?_
            refine ww_goto (pc := 544) (tgt := 548) g.1 d_Mo_named_544 (by decide) ?_
            exact ww_zretH (pc := 548) g h hR (Or.inr rfl) d_Mo_named_548
    · refine ww_tableIn (pc := 20) (tgt := 516) g.1 d_Mo_named_20 (by rw [c]; decide) (by rw [c]; decide) (by rw [c]; rfl) (by decide) ?_
      refine ww_aload_n (pc := 516) g.1 d_Mo_named_516 rfl (lv_at hl 3 rfl) ?_
      refine ww_iload (pc := 517) g.1 d_Mo_named_517 (lv_at hl 2 rfl) ?_
      obtain ⟨v519, s, hc519, h⟩ := oB_of h
      refine ww_callV (pc := 519) (rest := []) g cv_Mo_reg (Or.inl kw_313) cl_Mo (pz rfl (by decide)) (ct_Mo_reg hc519) ⟨by decide, by decide⟩ rfl hl.1 (Nat.le_of_ble_eq_true rfl) d_Mo_named_519 rfl ?_
      refine ww_st (st' := [.int v519]) rfl ?_
      refine ww_if_eq (pc := 522) (tgt := 547) g.1 d_Mo_named_522 (by decide) h (fun c h => ?_) (fun c h => ?_)
      · exact j_Mo_named_j547 g hR s ls (lv_sub hl [] rfl) h
      · refine ww_aload_n (pc := 525) g.1 d_Mo_named_525 rfl (lv_at hl 3 rfl) ?_
        refine ww_iload (pc := 526) g.1 d_Mo_named_526 (lv_at hl 1 rfl) ?_
        obtain ⟨v528, s, hc528, h⟩ := oB_of h
        refine ww_callV (pc := 528) (rest := []) g cv_Mo_rk (Or.inl kw_316) cl_Mo (pz rfl (by decide)) (ct_Mo_rk hc528) ⟨by decide, by decide⟩ rfl hl.1 (Nat.le_of_ble_eq_true rfl) d_Mo_named_528 rfl ?_
        refine ww_st (st' := [.int v528]) rfl ?_
        refine ww_if_eq (pc := 531) (tgt := 547) g.1 d_Mo_named_531 (by decide) h (fun c h => ?_) (fun c h => ?_)
        · exact j_Mo_named_j547 g hR s ls (lv_sub hl [] rfl) h
        · refine ww_aload_n (pc := 534) g.1 d_Mo_named_534 rfl (lv_at hl 3 rfl) ?_
          refine ww_iload (pc := 535) g.1 d_Mo_named_535 (lv_at hl 0 rfl) ?_
          obtain ⟨v537, s, hc537, h⟩ := oB_of h
          refine ww_callV (pc := 537) (rest := []) g cv_Mo_rk (Or.inl kw_316) cl_Mo (pz rfl (by decide)) (ct_Mo_rk hc537) ⟨by decide, by decide⟩ rfl hl.1 (Nat.le_of_ble_eq_true rfl) d_Mo_named_537 rfl ?_
          refine ww_st (st' := [.int v537]) rfl ?_
          refine ww_if_eq (pc := 540) (tgt := 547) g.1 d_Mo_named_540 (by decide) h (fun c h => ?_) (fun c h => ?_)
          · exact j_Mo_named_j547 g hR s ls (lv_sub hl [] rfl) h
          · refine ww_iconst (pc := 543) g.1 (v := 1) d_Mo_named_543 (by decide) ?_
            refine ww_goto (pc := 544) (tgt := 548) g.1 d_Mo_named_544 (by decide) ?_
            exact ww_zretH (pc := 548) g h hR (Or.inr rfl) d_Mo_named_548
    · refine ww_tableIn (pc := 20) (tgt := 516) g.1 d_Mo_named_20 (by rw [c]; decide) (by rw [c]; decide) (by rw [c]; rfl) (by decide) ?_
      refine ww_aload_n (pc := 516) g.1 d_Mo_named_516 rfl (lv_at hl 3 rfl) ?_
      refine ww_iload (pc := 517) g.1 d_Mo_named_517 (lv_at hl 2 rfl) ?_
      obtain ⟨v519, s, hc519, h⟩ := oB_of h
      refine ww_callV (pc := 519) (rest := []) g cv_Mo_reg (Or.inl kw_313) cl_Mo (pz rfl (by decide)) (ct_Mo_reg hc519) ⟨by decide, by decide⟩ rfl hl.1 (Nat.le_of_ble_eq_true rfl) d_Mo_named_519 rfl ?_
      refine ww_st (st' := [.int v519]) rfl ?_
      refine ww_if_eq (pc := 522) (tgt := 547) g.1 d_Mo_named_522 (by decide) h (fun c h => ?_) (fun c h => ?_)
      · exact j_Mo_named_j547 g hR s ls (lv_sub hl [] rfl) h
      · refine ww_aload_n (pc := 525) g.1 d_Mo_named_525 rfl (lv_at hl 3 rfl) ?_
        refine ww_iload (pc := 526) g.1 d_Mo_named_526 (lv_at hl 1 rfl) ?_
        obtain ⟨v528, s, hc528, h⟩ := oB_of h
        refine ww_callV (pc := 528) (rest := []) g cv_Mo_rk (Or.inl kw_316) cl_Mo (pz rfl (by decide)) (ct_Mo_rk hc528) ⟨by decide, by decide⟩ rfl hl.1 (Nat.le_of_ble_eq_true rfl) d_Mo_named_528 rfl ?_
        refine ww_st (st' := [.int v528]) rfl ?_
        refine ww_if_eq (pc := 531) (tgt := 547) g.1 d_Mo_named_531 (by decide) h (fun c h => ?_) (fun c h => ?_)
        · exact j_Mo_named_j547 g hR s ls (lv_sub hl [] rfl) h
        · refine ww_aload_n (pc := 534) g.1 d_Mo_named_534 rfl (lv_at hl 3 rfl) ?_
          refine ww_iload (pc := 535) g.1 d_Mo_named_535 (lv_at hl 0 rfl) ?_
          obtain ⟨v537, s, hc537, h⟩ := oB_of h
          refine ww_callV (pc := 537) (rest := []) g cv_Mo_rk (Or.inl kw_316) cl_Mo (pz rfl (by decide)) (ct_Mo_rk hc537) ⟨by decide, by decide⟩ rfl hl.1 (Nat.le_of_ble_eq_true rfl) d_Mo_named_537 rfl ?_
          refine ww_st (st' := [.int v537]) rfl ?_
          refine ww_if_eq (pc := 540) (tgt := 547) g.1 d_Mo_named_540 (by decide) h (fun c h => ?_) (fun c h => ?_)
          · exact j_Mo_named_j547 g hR s ls (lv_sub hl [] rfl) h
          · refine ww_iconst (pc := 543) g.1 (v := 1) d_Mo_named_543 (by decide) ?_
            refine ww_goto (pc := 544) (tgt := 548) g.1 d_Mo_named_544 (by decide) ?_
            exact ww_zretH (pc := 548) g h hR (Or.inr rfl) d_Mo_named_548
    · refine ww_tableIn (pc := 20) (tgt := 516) g.1 d_Mo_named_20 (by rw [c]; decide) (by rw [c]; decide) (by rw [c]; rfl) (by decide) ?_
      refine ww_aload_n (pc := 516) g.1 d_Mo_named_516 rfl (lv_at hl 3 rfl) ?_
      refine ww_iload (pc := 517) g.1 d_Mo_named_517 (lv_at hl 2 rfl) ?_
      obtain ⟨v519, s, hc519, h⟩ := oB_of h
      refine ww_callV (pc := 519) (rest := []) g cv_Mo_reg (Or.inl kw_313) cl_Mo (pz rfl (by decide)) (ct_Mo_reg hc519) ⟨by decide, by decide⟩ rfl hl.1 (Nat.le_of_ble_eq_true rfl) d_Mo_named_519 rfl ?_
      refine ww_st (st' := [.int v519]) rfl ?_
      refine ww_if_eq (pc := 522) (tgt := 547) g.1 d_Mo_named_522 (by decide) h (fun c h => ?_) (fun c h => ?_)
      · exact j_Mo_named_j547 g hR s ls (lv_sub hl [] rfl) h
      · refine ww_aload_n (pc := 525) g.1 d_Mo_named_525 rfl (lv_at hl 3 rfl) ?_
        refine ww_iload (pc := 526) g.1 d_Mo_named_526 (lv_at hl 1 rfl) ?_
        obtain ⟨v528, s, hc528, h⟩ := oB_of h
        refine ww_callV (pc := 528) (rest := []) g cv_Mo_rk (Or.inl kw_316) cl_Mo (pz rfl (by decide)) (ct_Mo_rk hc528) ⟨by decide, by decide⟩ rfl hl.1 (Nat.le_of_ble_eq_true rfl) d_Mo_named_528 rfl ?_
        refine ww_st (st' := [.int v528]) rfl ?_
        refine ww_if_eq (pc := 531) (tgt := 547) g.1 d_Mo_named_531 (by decide) h (fun c h => ?_) (fun c h => ?_)
        · exact j_Mo_named_j547 g hR s ls (lv_sub hl [] rfl) h
        · refine ww_aload_n (pc := 534) g.1 d_Mo_named_534 rfl (lv_at hl 3 rfl) ?_
          refine ww_iload (pc := 535) g.1 d_Mo_named_535 (lv_at hl 0 rfl) ?_
          obtain ⟨v537, s, hc537, h⟩ := oB_of h
          refine ww_callV (pc := 537) (rest := []) g cv_Mo_rk (Or.inl kw_316) cl_Mo (pz rfl (by decide)) (ct_Mo_rk hc537) ⟨by decide, by decide⟩ rfl hl.1 (Nat.le_of_ble_eq_true rfl) d_Mo_named_537 rfl ?_
          refine ww_st (st' := [.int v537]) rfl ?_
          refine ww_if_eq (pc := 540) (tgt := 547) g.1 d_Mo_named_540 (by decide) h (fun c h => ?_) (fun c h => ?_)
          · exact j_Mo_named_j547 g hR s ls (lv_sub hl [] rfl) h
          · refine ww_iconst (pc := 543) g.1 (v := 1) d_Mo_named_543 (by decide) ?_
            refine ww_goto (pc := 544) (tgt := 548) g.1 d_Mo_named_544 (by decide) ?_
            exact ww_zretH (pc := 548) g h hR (Or.inr rfl) d_Mo_named_548
    · refine ww_tableIn (pc := 20) (tgt := 516) g.1 d_Mo_named_20 (by rw [c]; decide) (by rw [c]; decide) (by rw [c]; rfl) (by decide) ?_
      refine ww_aload_n (pc := 516) g.1 d_Mo_named_516 rfl (lv_at hl 3 rfl) ?_
      refine ww_iload (pc := 517) g.1 d_Mo_named_517 (lv_at hl 2 rfl) ?_
      obtain ⟨v519, s, hc519, h⟩ := oB_of h
      refine ww_callV (pc := 519) (rest := []) g cv_Mo_reg (Or.inl kw_313) cl_Mo (pz rfl (by decide)) (ct_Mo_reg hc519) ⟨by decide, by decide⟩ rfl hl.1 (Nat.le_of_ble_eq_true rfl) d_Mo_named_519 rfl ?_
      refine ww_st (st' := [.int v519]) rfl ?_
      refine ww_if_eq (pc := 522) (tgt := 547) g.1 d_Mo_named_522 (by decide) h (fun c h => ?_) (fun c h => ?_)
      · exact j_Mo_named_j547 g hR s ls (lv_sub hl [] rfl) h
      · refine ww_aload_n (pc := 525) g.1 d_Mo_named_525 rfl (lv_at hl 3 rfl) ?_
        refine ww_iload (pc := 526) g.1 d_Mo_named_526 (lv_at hl 1 rfl) ?_
        obtain ⟨v528, s, hc528, h⟩ := oB_of h
        refine ww_callV (pc := 528) (rest := []) g cv_Mo_rk (Or.inl kw_316) cl_Mo (pz rfl (by decide)) (ct_Mo_rk hc528) ⟨by decide, by decide⟩ rfl hl.1 (Nat.le_of_ble_eq_true rfl) d_Mo_named_528 rfl ?_
        refine ww_st (st' := [.int v528]) rfl ?_
        refine ww_if_eq (pc := 531) (tgt := 547) g.1 d_Mo_named_531 (by decide) h (fun c h => ?_) (fun c h => ?_)
        · exact j_Mo_named_j547 g hR s ls (lv_sub hl [] rfl) h
        · refine ww_aload_n (pc := 534) g.1 d_Mo_named_534 rfl (lv_at hl 3 rfl) ?_
          refine ww_iload (pc := 535) g.1 d_Mo_named_535 (lv_at hl 0 rfl) ?_
          obtain ⟨v537, s, hc537, h⟩ := oB_of h
          refine ww_callV (pc := 537) (rest := []) g cv_Mo_rk (Or.inl kw_316) cl_Mo (pz rfl (by decide)) (ct_Mo_rk hc537) ⟨by decide, by decide⟩ rfl hl.1 (Nat.le_of_ble_eq_true rfl) d_Mo_named_537 rfl ?_
          refine ww_st (st' := [.int v537]) rfl ?_
          refine ww_if_eq (pc := 540) (tgt := 547) g.1 d_Mo_named_540 (by decide) h (fun c h => ?_) (fun c h => ?_)
          · exact j_Mo_named_j547 g hR s ls (lv_sub hl [] rfl) h
          · refine ww_iconst (pc := 543) g.1 (v := 1) d_Mo_named_543 (by decide) ?_
            refine ww_goto (pc := 544) (tgt := 548) g.1 d_Mo_named_544 (by decide) ?_
            exact ww_zretH (pc := 548) g h hR (Or.inr rfl) d_Mo_named_548
  have h := oC_neg c20_516 h
  by_cases c20_549 : l4 = 29
  · have h := oC_pos c20_549 h
    have c := c20_549
    refine ww_tableIn (pc := 20) (tgt := 549) g.1 d_Mo_named_20 (by rw [c]; decide) (by rw [c]; decide) (by rw [c]; rfl) (by decide) ?_
    refine ww_aload_n (pc := 549) g.1 d_Mo_named_549 rfl (lv_at hl 3 rfl) ?_
    refine ww_iload (pc := 550) g.1 d_Mo_named_550 (lv_at hl 2 rfl) ?_
    obtain ⟨v552, s, hc552, h⟩ := oB_of h
    refine ww_callV (pc := 552) (rest := []) g cv_Mo_reg (Or.inl kw_313) cl_Mo (pz rfl (by decide)) (ct_Mo_reg hc552) ⟨by decide, by decide⟩ rfl hl.1 (Nat.le_of_ble_eq_true rfl) d_Mo_named_552 rfl ?_
    refine ww_st (st' := [.int v552]) rfl ?_
    refine ww_if_eq (pc := 555) (tgt := 578) g.1 d_Mo_named_555 (by decide) h (fun c h => ?_) (fun c h => ?_)
    · exact j_Mo_named_j578 g hR s ls (lv_sub hl [] rfl) h
    · refine ww_iload (pc := 558) g.1 d_Mo_named_558 (lv_at hl 1 rfl) ?_
      refine ww_iload (pc := 560) g.1 d_Mo_named_560 (lv_at hl 0 rfl) ?_
      refine ww_icmp_ge (pc := 562) (tgt := 578) g.1 d_Mo_named_562 (by decide) h (fun c h => ?_) (fun c h => ?_)
      · exact j_Mo_named_j578 g hR s ls (lv_sub hl [] rfl) h
      · refine ww_aload_n (pc := 565) g.1 d_Mo_named_565 rfl (lv_at hl 3 rfl) ?_
        refine ww_iload (pc := 566) g.1 d_Mo_named_566 (lv_at hl 0 rfl) ?_
        obtain ⟨v568, s, hc568, h⟩ := oB_of h
        refine ww_callV (pc := 568) (rest := []) g cv_Mo_reg (Or.inl kw_313) cl_Mo (pz rfl (by decide)) (ct_Mo_reg hc568) ⟨by decide, by decide⟩ rfl hl.1 (Nat.le_of_ble_eq_true rfl) d_Mo_named_568 rfl ?_
        refine ww_st (st' := [.int v568]) rfl ?_
        refine ww_if_eq (pc := 571) (tgt := 578) g.1 d_Mo_named_571 (by decide) h (fun c h => ?_) (fun c h => ?_)
        · exact j_Mo_named_j578 g hR s ls (lv_sub hl [] rfl) h
        · refine ww_iconst (pc := 574) g.1 (v := 1) d_Mo_named_574 (by decide) ?_
          refine ww_goto (pc := 575) (tgt := 579) g.1 d_Mo_named_575 (by decide) ?_
          exact ww_zretH (pc := 579) g h hR (Or.inr rfl) d_Mo_named_579
  have h := oC_neg c20_549 h
  by_cases c20_580 : l4 = 30
  · have h := oC_pos c20_580 h
    have c := c20_580
    refine ww_tableIn (pc := 20) (tgt := 580) g.1 d_Mo_named_20 (by rw [c]; decide) (by rw [c]; decide) (by rw [c]; rfl) (by decide) ?_
    refine ww_iload (pc := 580) g.1 d_Mo_named_580 (lv_at hl 2 rfl) ?_
    refine ww_if_eq (pc := 582) (tgt := 596) g.1 d_Mo_named_582 (by decide) h (fun c h => ?_) (fun c h => ?_)
    · exact j_Mo_named_j596 g hR l2 l3 s ls (lv_sub hl [3, 5, 6] rfl) h
    · refine ww_aload_n (pc := 585) g.1 d_Mo_named_585 rfl (lv_at hl 3 rfl) ?_
      refine ww_iload (pc := 586) g.1 d_Mo_named_586 (lv_at hl 2 rfl) ?_
      refine ww_iconst (pc := 588) g.1 (v := 1) d_Mo_named_588 (by decide) ?_
      refine ww_isub (pc := 589) g.1 d_Mo_named_589 ?_
      obtain ⟨v590, s, hc590, h⟩ := oB_of h
      refine ww_callV (pc := 590) (rest := []) g cv_Mo_reg (Or.inl kw_313) cl_Mo (pz rfl (by decide)) (ct_Mo_reg hc590) ⟨by decide, by decide⟩ rfl hl.1 (Nat.le_of_ble_eq_true rfl) d_Mo_named_590 rfl ?_
      refine ww_st (st' := [.int v590]) rfl ?_
      refine ww_if_eq (pc := 593) (tgt := 615) g.1 d_Mo_named_593 (by decide) h (fun c h => ?_) (fun c h => ?_)
      · exact j_Mo_named_j615 g hR s ls (lv_sub hl [] rfl) h
      · exact j_Mo_named_j596 g hR l2 l3 s ls (lv_sub hl [3, 5, 6] rfl) h
  have h := oC_neg c20_580 h
  by_cases c20_617 : l4 = 31 ∨ l4 = 32 ∨ l4 = 33
  · have h := oC_pos c20_617 h
    rcases c20_617 with c | c | c
    · refine ww_tableIn (pc := 20) (tgt := 617) g.1 d_Mo_named_20 (by rw [c]; decide) (by rw [c]; decide) (by rw [c]; rfl) (by decide) ?_
      refine ww_iload (pc := 617) g.1 d_Mo_named_617 (lv_at hl 2 rfl) ?_
      refine ww_iconst (pc := 619) g.1 (v := 2) d_Mo_named_619 (by decide) ?_
      refine ww_icmp_ge (pc := 620) (tgt := 645) g.1 d_Mo_named_620 (by decide) h (fun c h => ?_) (fun c h => ?_)
      · exact j_Mo_named_j645 g hR s ls (lv_sub hl [] rfl) h
      · refine ww_aload_n (pc := 623) g.1 d_Mo_named_623 rfl (lv_at hl 3 rfl) ?_
        refine ww_iload (pc := 624) g.1 d_Mo_named_624 (lv_at hl 1 rfl) ?_
        obtain ⟨v626, s, hc626, h⟩ := oB_of h
        refine ww_callV (pc := 626) (rest := []) g cv_Mo_rk (Or.inl kw_316) cl_Mo (pz rfl (by decide)) (ct_Mo_rk hc626) ⟨by decide, by decide⟩ rfl hl.1 (Nat.le_of_ble_eq_true rfl) d_Mo_named_626 rfl ?_
        refine ww_st (st' := [.int v626]) rfl ?_
        refine ww_if_eq (pc := 629) (tgt := 645) g.1 d_Mo_named_629 (by decide) h (fun c h => ?_) (fun c h => ?_)
        · exact j_Mo_named_j645 g hR s ls (lv_sub hl [] rfl) h
        · refine ww_aload_n (pc := 632) g.1 d_Mo_named_632 rfl (lv_at hl 3 rfl) ?_
          refine ww_iload (pc := 633) g.1 d_Mo_named_633 (lv_at hl 0 rfl) ?_
          obtain ⟨v635, s, hc635, h⟩ := oB_of h
          refine ww_callV (pc := 635) (rest := []) g cv_Mo_rk (Or.inl kw_316) cl_Mo (pz rfl (by decide)) (ct_Mo_rk hc635) ⟨by decide, by decide⟩ rfl hl.1 (Nat.le_of_ble_eq_true rfl) d_Mo_named_635 rfl ?_
          refine ww_st (st' := [.int v635]) rfl ?_
          refine ww_if_eq (pc := 638) (tgt := 645) g.1 d_Mo_named_638 (by decide) h (fun c h => ?_) (fun c h => ?_)
          · exact j_Mo_named_j645 g hR s ls (lv_sub hl [] rfl) h
          · refine ww_iconst (pc := 641) g.1 (v := 1) d_Mo_named_641 (by decide) ?_
            refine ww_goto (pc := 642) (tgt := 646) g.1 d_Mo_named_642 (by decide) ?_
            exact ww_zretH (pc := 646) g h hR (Or.inr rfl) d_Mo_named_646
    · refine ww_tableIn (pc := 20) (tgt := 617) g.1 d_Mo_named_20 (by rw [c]; decide) (by rw [c]; decide) (by rw [c]; rfl) (by decide) ?_
      refine ww_iload (pc := 617) g.1 d_Mo_named_617 (lv_at hl 2 rfl) ?_
      refine ww_iconst (pc := 619) g.1 (v := 2) d_Mo_named_619 (by decide) ?_
      refine ww_icmp_ge (pc := 620) (tgt := 645) g.1 d_Mo_named_620 (by decide) h (fun c h => ?_) (fun c h => ?_)
      · exact j_Mo_named_j645 g hR s ls (lv_sub hl [] rfl) h
      · refine ww_aload_n (pc := 623) g.1 d_Mo_named_623 rfl (lv_at hl 3 rfl) ?_
        refine ww_iload (pc := 624) g.1 d_Mo_named_624 (lv_at hl 1 rfl) ?_
        obtain ⟨v626, s, hc626, h⟩ := oB_of h
        refine ww_callV (pc := 626) (rest := []) g cv_Mo_rk (Or.inl kw_316) cl_Mo (pz rfl (by decide)) (ct_Mo_rk hc626) ⟨by decide, by decide⟩ rfl hl.1 (Nat.le_of_ble_eq_true rfl) d_Mo_named_626 rfl ?_
        refine ww_st (st' := [.int v626]) rfl ?_
        refine ww_if_eq (pc := 629) (tgt := 645) g.1 d_Mo_named_629 (by decide) h (fun c h => ?_) (fun c h => ?_)
        · exact j_Mo_named_j645 g hR s ls (lv_sub hl [] rfl) h
        · refine ww_aload_n (pc := 632) g.1 d_Mo_named_632 rfl (lv_at hl 3 rfl) ?_
          refine ww_iload (pc := 633) g.1 d_Mo_named_633 (lv_at hl 0 rfl) ?_
          obtain ⟨v635, s, hc635, h⟩ := oB_of h
          refine ww_callV (pc := 635) (rest := []) g cv_Mo_rk (Or.inl kw_316) cl_Mo (pz rfl (by decide)) (ct_Mo_rk hc635) ⟨by decide, by decide⟩ rfl hl.1 (Nat.le_of_ble_eq_true rfl) d_Mo_named_635 rfl ?_
          refine ww_st (st' := [.int v635]) rfl ?_
          refine ww_if_eq (pc := 638) (tgt := 645) g.1 d_Mo_named_638 (by decide) h (fun c h => ?_) (fun c h => ?_)
          · exact j_Mo_named_j645 g hR s ls (lv_sub hl [] rfl) h
          · refine ww_iconst (pc := 641) g.1 (v := 1) d_Mo_named_641 (by decide) ?_
            refine ww_goto (pc := 642) (tgt := 646) g.1 d_Mo_named_642 (by decide) ?_
            exact ww_zretH (pc := 646) g h hR (Or.inr rfl) d_Mo_named_646
    · refine ww_tableIn (pc := 20) (tgt := 617) g.1 d_Mo_named_20 (by rw [c]; decide) (by rw [c]; decide) (by rw [c]; rfl) (by decide) ?_
      refine ww_iload (pc := 617) g.1 d_Mo_named_617 (lv_at hl 2 rfl) ?_
      refine ww_iconst (pc := 619) g.1 (v := 2) d_Mo_named_619 (by decide) ?_
      refine ww_icmp_ge (pc := 620) (tgt := 645) g.1 d_Mo_named_620 (by decide) h (fun c h => ?_) (fun c h => ?_)
      · exact j_Mo_named_j645 g hR s ls (lv_sub hl [] rfl) h
      · refine ww_aload_n (pc := 623) g.1 d_Mo_named_623 rfl (lv_at hl 3 rfl) ?_
        refine ww_iload (pc := 624) g.1 d_Mo_named_624 (lv_at hl 1 rfl) ?_
        obtain ⟨v626, s, hc626, h⟩ := oB_of h
        refine ww_callV (pc := 626) (rest := []) g cv_Mo_rk (Or.inl kw_316) cl_Mo (pz rfl (by decide)) (ct_Mo_rk hc626) ⟨by decide, by decide⟩ rfl hl.1 (Nat.le_of_ble_eq_true rfl) d_Mo_named_626 rfl ?_
        refine ww_st (st' := [.int v626]) rfl ?_
        refine ww_if_eq (pc := 629) (tgt := 645) g.1 d_Mo_named_629 (by decide) h (fun c h => ?_) (fun c h => ?_)
        · exact j_Mo_named_j645 g hR s ls (lv_sub hl [] rfl) h
        · refine ww_aload_n (pc := 632) g.1 d_Mo_named_632 rfl (lv_at hl 3 rfl) ?_
          refine ww_iload (pc := 633) g.1 d_Mo_named_633 (lv_at hl 0 rfl) ?_
          obtain ⟨v635, s, hc635, h⟩ := oB_of h
          refine ww_callV (pc := 635) (rest := []) g cv_Mo_rk (Or.inl kw_316) cl_Mo (pz rfl (by decide)) (ct_Mo_rk hc635) ⟨by decide, by decide⟩ rfl hl.1 (Nat.le_of_ble_eq_true rfl) d_Mo_named_635 rfl ?_
          refine ww_st (st' := [.int v635]) rfl ?_
          refine ww_if_eq (pc := 638) (tgt := 645) g.1 d_Mo_named_638 (by decide) h (fun c h => ?_) (fun c h => ?_)
          · exact j_Mo_named_j645 g hR s ls (lv_sub hl [] rfl) h
          · refine ww_iconst (pc := 641) g.1 (v := 1) d_Mo_named_641 (by decide) ?_
            refine ww_goto (pc := 642) (tgt := 646) g.1 d_Mo_named_642 (by decide) ?_
            exact ww_zretH (pc := 646) g h hR (Or.inr rfl) d_Mo_named_646
  have h := oC_neg c20_617 h
  by_cases c20_647 : l4 = 34
  · have h := oC_pos c20_647 h
    have c := c20_647
    refine ww_tableIn (pc := 20) (tgt := 647) g.1 d_Mo_named_20 (by rw [c]; decide) (by rw [c]; decide) (by rw [c]; rfl) (by decide) ?_
    refine ww_aload_n (pc := 647) g.1 d_Mo_named_647 rfl (lv_at hl 3 rfl) ?_
    refine ww_iload (pc := 648) g.1 d_Mo_named_648 (lv_at hl 2 rfl) ?_
    obtain ⟨v650, s, hc650, h⟩ := oB_of h
    refine ww_callV (pc := 650) (rest := []) g cv_Mo_reg (Or.inl kw_313) cl_Mo (pz rfl (by decide)) (ct_Mo_reg hc650) ⟨by decide, by decide⟩ rfl hl.1 (Nat.le_of_ble_eq_true rfl) d_Mo_named_650 rfl ?_
    refine ww_st (st' := [.int v650]) rfl ?_
    refine ww_if_eq (pc := 653) (tgt := 666) g.1 d_Mo_named_653 (by decide) h (fun c h => ?_) (fun c h => ?_)
    · exact j_Mo_named_j666 g hR s ls (lv_sub hl [] rfl) h
    · refine ww_iload (pc := 656) g.1 d_Mo_named_656 (lv_at hl 0 rfl) ?_
      refine ww_iconst (pc := 658) g.1 (v := 2) d_Mo_named_658 (by decide) ?_
      refine ww_icmp_ge (pc := 659) (tgt := 666) g.1 d_Mo_named_659 (by decide) h (fun c h => ?_) (fun c h => ?_)
      · exact j_Mo_named_j666 g hR s ls (lv_sub hl [] rfl) h
      · refine ww_iconst (pc := 662) g.1 (v := 1) d_Mo_named_662 (by decide) ?_
        refine ww_goto (pc := 663) (tgt := 667) g.1 d_Mo_named_663 (by decide) ?_
        exact ww_zretH (pc := 667) g h hR (Or.inr rfl) d_Mo_named_667
  have h := oC_neg c20_647 h
  by_cases c20_668 : l4 = 35
  · have h := oC_pos c20_668 h
    have c := c20_668
    refine ww_tableIn (pc := 20) (tgt := 668) g.1 d_Mo_named_20 (by rw [c]; decide) (by rw [c]; decide) (by rw [c]; rfl) (by decide) ?_
    refine ww_aload_n (pc := 668) g.1 d_Mo_named_668 rfl (lv_at hl 3 rfl) ?_
    refine ww_iload (pc := 669) g.1 d_Mo_named_669 (lv_at hl 2 rfl) ?_
    obtain ⟨v671, s, hc671, h⟩ := oB_of h
    refine ww_callV (pc := 671) (rest := []) g cv_Mo_reg (Or.inl kw_313) cl_Mo (pz rfl (by decide)) (ct_Mo_reg hc671) ⟨by decide, by decide⟩ rfl hl.1 (Nat.le_of_ble_eq_true rfl) d_Mo_named_671 rfl ?_
    refine ww_st (st' := [.int v671]) rfl ?_
    refine ww_if_eq (pc := 674) (tgt := 696) g.1 d_Mo_named_674 (by decide) h (fun c h => ?_) (fun c h => ?_)
    · exact j_Mo_named_j696 g hR s ls (lv_sub hl [] rfl) h
    · refine ww_aload_n (pc := 677) g.1 d_Mo_named_677 rfl (lv_at hl 3 rfl) ?_
      refine ww_iload (pc := 678) g.1 d_Mo_named_678 (lv_at hl 1 rfl) ?_
      obtain ⟨v680, s, hc680, h⟩ := oB_of h
      refine ww_callV (pc := 680) (rest := []) g cv_Mo_reg (Or.inl kw_313) cl_Mo (pz rfl (by decide)) (ct_Mo_reg hc680) ⟨by decide, by decide⟩ rfl hl.1 (Nat.le_of_ble_eq_true rfl) d_Mo_named_680 rfl ?_
      refine ww_st (st' := [.int v680]) rfl ?_
      refine ww_if_eq (pc := 683) (tgt := 696) g.1 d_Mo_named_683 (by decide) h (fun c h => ?_) (fun c h => ?_)
      · exact j_Mo_named_j696 g hR s ls (lv_sub hl [] rfl) h
      · refine ww_iload (pc := 686) g.1 d_Mo_named_686 (lv_at hl 0 rfl) ?_
        refine ww_iconst (pc := 688) g.1 (v := 2) d_Mo_named_688 (by decide) ?_
        refine ww_icmp_ge (pc := 689) (tgt := 696) g.1 d_Mo_named_689 (by decide) h (fun c h => ?_) (fun c h => ?_)
        · exact j_Mo_named_j696 g hR s ls (lv_sub hl [] rfl) h
        · refine ww_iconst (pc := 692) g.1 (v := 1) d_Mo_named_692 (by decide) ?_
          refine ww_goto (pc := 693) (tgt := 697) g.1 d_Mo_named_693 (by decide) ?_
          exact ww_zretH (pc := 697) g h hR (Or.inr rfl) d_Mo_named_697
  have h := oC_neg c20_668 h
  by_cases c20_698 : l4 = 36
  · have h := oC_pos c20_698 h
    have c := c20_698
    refine ww_tableIn (pc := 20) (tgt := 698) g.1 d_Mo_named_20 (by rw [c]; decide) (by rw [c]; decide) (by rw [c]; rfl) (by decide) ?_
    refine ww_aload_n (pc := 698) g.1 d_Mo_named_698 rfl (lv_at hl 3 rfl) ?_
    refine ww_iload (pc := 699) g.1 d_Mo_named_699 (lv_at hl 2 rfl) ?_
    obtain ⟨v701, s, hc701, h⟩ := oB_of h
    refine ww_callV (pc := 701) (rest := []) g cv_Mo_reg (Or.inl kw_313) cl_Mo (pz rfl (by decide)) (ct_Mo_reg hc701) ⟨by decide, by decide⟩ rfl hl.1 (Nat.le_of_ble_eq_true rfl) d_Mo_named_701 rfl ?_
    refine ww_st (st' := [.int v701]) rfl ?_
    refine ww_if_eq (pc := 704) (tgt := 750) g.1 d_Mo_named_704 (by decide) h (fun c h => ?_) (fun c h => ?_)
    · exact j_Mo_named_j750 g hR s ls (lv_sub hl [] rfl) h
    · refine ww_iload (pc := 707) g.1 d_Mo_named_707 (lv_at hl 1 rfl) ?_
      refine ww_if_eq (pc := 709) (tgt := 726) g.1 d_Mo_named_709 (by decide) h (fun c h => ?_) (fun c h => ?_)
      · exact j_Mo_named_j726 g hR v1 v13 s ls (lv_sub hl [3, 2, 0] rfl) h
      · refine ww_aload_n (pc := 712) g.1 d_Mo_named_712 rfl (lv_at hl 3 rfl) ?_
        refine ww_iload (pc := 713) g.1 d_Mo_named_713 (lv_at hl 2 rfl) ?_
        refine ww_iload (pc := 715) g.1 d_Mo_named_715 (lv_at hl 1 rfl) ?_
        refine ww_iadd (pc := 717) g.1 d_Mo_named_717 ?_
        refine ww_iconst (pc := 718) g.1 (v := 1) d_Mo_named_718 (by decide) ?_
        refine ww_isub (pc := 719) g.1 d_Mo_named_719 ?_
        obtain ⟨v720, s, hc720, h⟩ := oB_of h
        refine ww_callV (pc := 720) (rest := []) g cv_Mo_reg (Or.inl kw_313) cl_Mo (pz rfl (by decide)) (ct_Mo_reg hc720) ⟨by decide, by decide⟩ rfl hl.1 (Nat.le_of_ble_eq_true rfl) d_Mo_named_720 rfl ?_
        refine ww_st (st' := [.int v720]) rfl ?_
        refine ww_if_eq (pc := 723) (tgt := 750) g.1 d_Mo_named_723 (by decide) h (fun c h => ?_) (fun c h => ?_)
        · exact j_Mo_named_j750 g hR s ls (lv_sub hl [] rfl) h
        · exact j_Mo_named_j726 g hR v1 v13 s ls (lv_sub hl [3, 2, 0] rfl) h
  have h := oC_neg c20_698 h
  by_cases c20_752 : l4 = 37
  · have h := oC_pos c20_752 h
    have c := c20_752
    refine ww_tableIn (pc := 20) (tgt := 752) g.1 d_Mo_named_20 (by rw [c]; decide) (by rw [c]; decide) (by rw [c]; rfl) (by decide) ?_
    refine ww_aload_n (pc := 752) g.1 d_Mo_named_752 rfl (lv_at hl 3 rfl) ?_
    refine ww_iload (pc := 753) g.1 d_Mo_named_753 (lv_at hl 2 rfl) ?_
    obtain ⟨v755, s, hc755, h⟩ := oB_of h
    refine ww_callV (pc := 755) (rest := []) g cv_Mo_reg (Or.inl kw_313) cl_Mo (pz rfl (by decide)) (ct_Mo_reg hc755) ⟨by decide, by decide⟩ rfl hl.1 (Nat.le_of_ble_eq_true rfl) d_Mo_named_755 rfl ?_
    refine ww_st (st' := [.int v755]) rfl ?_
    refine ww_if_eq (pc := 758) (tgt := 784) g.1 d_Mo_named_758 (by decide) h (fun c h => ?_) (fun c h => ?_)
    · exact j_Mo_named_j784 g hR s ls (lv_sub hl [] rfl) h
    · refine ww_iload (pc := 761) g.1 d_Mo_named_761 (lv_at hl 1 rfl) ?_
      refine ww_if_eq (pc := 763) (tgt := 780) g.1 d_Mo_named_763 (by decide) h (fun c h => ?_) (fun c h => ?_)
      · exact j_Mo_named_j780 g hR s ls (lv_sub hl [] rfl) h
      · refine ww_aload_n (pc := 766) g.1 d_Mo_named_766 rfl (lv_at hl 3 rfl) ?_
        refine ww_iload (pc := 767) g.1 d_Mo_named_767 (lv_at hl 2 rfl) ?_
        refine ww_iload (pc := 769) g.1 d_Mo_named_769 (lv_at hl 1 rfl) ?_
        refine ww_iadd (pc := 771) g.1 d_Mo_named_771 ?_
        refine ww_iconst (pc := 772) g.1 (v := 1) d_Mo_named_772 (by decide) ?_
        refine ww_isub (pc := 773) g.1 d_Mo_named_773 ?_
        obtain ⟨v774, s, hc774, h⟩ := oB_of h
        refine ww_callV (pc := 774) (rest := []) g cv_Mo_reg (Or.inl kw_313) cl_Mo (pz rfl (by decide)) (ct_Mo_reg hc774) ⟨by decide, by decide⟩ rfl hl.1 (Nat.le_of_ble_eq_true rfl) d_Mo_named_774 rfl ?_
        refine ww_st (st' := [.int v774]) rfl ?_
        refine ww_if_eq (pc := 777) (tgt := 784) g.1 d_Mo_named_777 (by decide) h (fun c h => ?_) (fun c h => ?_)
        · exact j_Mo_named_j784 g hR s ls (lv_sub hl [] rfl) h
        · exact j_Mo_named_j780 g hR s ls (lv_sub hl [] rfl) h
  have h := oC_neg c20_752 h
  by_cases c20_786 : l4 = 38
  · have h := oC_pos c20_786 h
    have c := c20_786
    refine ww_tableIn (pc := 20) (tgt := 786) g.1 d_Mo_named_20 (by rw [c]; decide) (by rw [c]; decide) (by rw [c]; rfl) (by decide) ?_
    refine ww_aload_n (pc := 786) g.1 d_Mo_named_786 rfl (lv_at hl 3 rfl) ?_
    refine ww_iload (pc := 787) g.1 d_Mo_named_787 (lv_at hl 2 rfl) ?_
    obtain ⟨v789, s, hc789, h⟩ := oB_of h
    refine ww_callV (pc := 789) (rest := []) g cv_Mo_reg (Or.inl kw_313) cl_Mo (pz rfl (by decide)) (ct_Mo_reg hc789) ⟨by decide, by decide⟩ rfl hl.1 (Nat.le_of_ble_eq_true rfl) d_Mo_named_789 rfl ?_
    refine ww_st (st' := [.int v789]) rfl ?_
    refine ww_if_eq (pc := 792) (tgt := 819) g.1 d_Mo_named_792 (by decide) h (fun c h => ?_) (fun c h => ?_)
    · exact j_Mo_named_j819 g hR s ls (lv_sub hl [] rfl) h
    · refine ww_iload (pc := 795) g.1 d_Mo_named_795 (lv_at hl 1 rfl) ?_
      refine ww_iconst (pc := 797) g.1 (v := 2) d_Mo_named_797 (by decide) ?_
      refine ww_icmp_lt (pc := 798) (tgt := 815) g.1 d_Mo_named_798 (by decide) h (fun c h => ?_) (fun c h => ?_)
      · exact j_Mo_named_j815 g hR s ls (lv_sub hl [] rfl) h
      · refine ww_aload_n (pc := 801) g.1 d_Mo_named_801 rfl (lv_at hl 3 rfl) ?_
        refine ww_iload (pc := 802) g.1 d_Mo_named_802 (lv_at hl 2 rfl) ?_
        refine ww_iload (pc := 804) g.1 d_Mo_named_804 (lv_at hl 1 rfl) ?_
        refine ww_iadd (pc := 806) g.1 d_Mo_named_806 ?_
        refine ww_iconst (pc := 807) g.1 (v := 2) d_Mo_named_807 (by decide) ?_
        refine ww_isub (pc := 808) g.1 d_Mo_named_808 ?_
        obtain ⟨v809, s, hc809, h⟩ := oB_of h
        refine ww_callV (pc := 809) (rest := []) g cv_Mo_reg (Or.inl kw_313) cl_Mo (pz rfl (by decide)) (ct_Mo_reg hc809) ⟨by decide, by decide⟩ rfl hl.1 (Nat.le_of_ble_eq_true rfl) d_Mo_named_809 rfl ?_
        refine ww_st (st' := [.int v809]) rfl ?_
        refine ww_if_eq (pc := 812) (tgt := 819) g.1 d_Mo_named_812 (by decide) h (fun c h => ?_) (fun c h => ?_)
        · exact j_Mo_named_j819 g hR s ls (lv_sub hl [] rfl) h
        · exact j_Mo_named_j815 g hR s ls (lv_sub hl [] rfl) h
  have h := oC_neg c20_786 h
  by_cases c20_821 : l4 = 39
  · have h := oC_pos c20_821 h
    have c := c20_821
    refine ww_tableIn (pc := 20) (tgt := 821) g.1 d_Mo_named_20 (by rw [c]; decide) (by rw [c]; decide) (by rw [c]; rfl) (by decide) ?_
    refine ww_aload_n (pc := 821) g.1 d_Mo_named_821 rfl (lv_at hl 3 rfl) ?_
    refine ww_iload (pc := 822) g.1 d_Mo_named_822 (lv_at hl 2 rfl) ?_
    refine ww_iconst (pc := 824) g.1 (v := 3) d_Mo_named_824 (by decide) ?_
    refine ww_iadd (pc := 825) g.1 d_Mo_named_825 ?_
    obtain ⟨v826, s, hc826, h⟩ := oB_of h
    refine ww_callV (pc := 826) (rest := []) g cv_Mo_reg (Or.inl kw_313) cl_Mo (pz rfl (by decide)) (ct_Mo_reg hc826) ⟨by decide, by decide⟩ rfl hl.1 (Nat.le_of_ble_eq_true rfl) d_Mo_named_826 rfl ?_
    refine ww_st (st' := [.int v826]) rfl ?_
    refine ww_if_eq (pc := 829) (tgt := 851) g.1 d_Mo_named_829 (by decide) h (fun c h => ?_) (fun c h => ?_)
    · exact j_Mo_named_j851 g hR s ls (lv_sub hl [] rfl) h
    · refine ww_aload_n (pc := 832) g.1 d_Mo_named_832 rfl (lv_at hl 3 rfl) ?_
      refine ww_iload_n (pc := 833) g.1 d_Mo_named_833 rfl (lv_at hl 5 rfl) ?_
      refine ww_iconst (pc := 834) g.1 (v := 1) d_Mo_named_834 (by decide) ?_
      refine ww_iadd (pc := 835) g.1 d_Mo_named_835 ?_
      refine ww_iload_n (pc := 836) g.1 d_Mo_named_836 rfl (lv_at hl 6 rfl) ?_
      obtain ⟨v837, s, hc837, h⟩ := oB_of h
      refine ww_callS (pc := 837) (rest := [.int (l2 + 1), .ref (q.1 0 0)]) g cs_Mo_sbx (Or.inl kw_275) (ct_Mo_sbx hc837) ⟨by decide, by decide⟩ rfl hl.1 (Nat.le_of_ble_eq_true rfl) d_Mo_named_837 rfl ?_
      refine ww_st (st' := [.int v837, .int (l2 + 1), .ref (q.1 0 0)]) rfl ?_
      refine ww_iadd (pc := 840) g.1 d_Mo_named_840 ?_
      obtain ⟨v841, s, hc841, h⟩ := oB_of h
      refine ww_callV (pc := 841) (rest := []) g cv_Mo_goes (Or.inl kw_315) cl_Mo (pz rfl (by decide)) (ct_Mo_goes hc841) ⟨by decide, by decide⟩ rfl hl.1 (Nat.le_of_ble_eq_true rfl) d_Mo_named_841 rfl ?_
      refine ww_st (st' := [.int v841]) rfl ?_
      refine ww_if_eq (pc := 844) (tgt := 851) g.1 d_Mo_named_844 (by decide) h (fun c h => ?_) (fun c h => ?_)
      · exact j_Mo_named_j851 g hR s ls (lv_sub hl [] rfl) h
      · refine ww_iconst (pc := 847) g.1 (v := 1) d_Mo_named_847 (by decide) ?_
        refine ww_goto (pc := 848) (tgt := 852) g.1 d_Mo_named_848 (by decide) ?_
        exact ww_zretH (pc := 852) g h hR (Or.inr rfl) d_Mo_named_852
  have h := oC_neg c20_821 h
  by_cases c20_853 : l4 = 40
  · have h := oC_pos c20_853 h
    have c := c20_853
    refine ww_tableIn (pc := 20) (tgt := 853) g.1 d_Mo_named_20 (by rw [c]; decide) (by rw [c]; decide) (by rw [c]; rfl) (by decide) ?_
    refine ww_aload_n (pc := 853) g.1 d_Mo_named_853 rfl (lv_at hl 3 rfl) ?_
    refine ww_iload (pc := 854) g.1 d_Mo_named_854 (lv_at hl 2 rfl) ?_
    refine ww_iconst (pc := 856) g.1 (v := 3) d_Mo_named_856 (by decide) ?_
    refine ww_iadd (pc := 857) g.1 d_Mo_named_857 ?_
    obtain ⟨v858, s, hc858, h⟩ := oB_of h
    refine ww_callV (pc := 858) (rest := []) g cv_Mo_reg (Or.inl kw_313) cl_Mo (pz rfl (by decide)) (ct_Mo_reg hc858) ⟨by decide, by decide⟩ rfl hl.1 (Nat.le_of_ble_eq_true rfl) d_Mo_named_858 rfl ?_
    refine ww_st (st' := [.int v858]) rfl ?_
    refine ww_if_eq (pc := 861) (tgt := 883) g.1 d_Mo_named_861 (by decide) h (fun c h => ?_) (fun c h => ?_)
    · exact j_Mo_named_j883 g hR s ls (lv_sub hl [] rfl) h
    · refine ww_aload_n (pc := 864) g.1 d_Mo_named_864 rfl (lv_at hl 3 rfl) ?_
      refine ww_iload_n (pc := 865) g.1 d_Mo_named_865 rfl (lv_at hl 5 rfl) ?_
      refine ww_iconst (pc := 866) g.1 (v := 1) d_Mo_named_866 (by decide) ?_
      refine ww_iadd (pc := 867) g.1 d_Mo_named_867 ?_
      refine ww_iload_n (pc := 868) g.1 d_Mo_named_868 rfl (lv_at hl 6 rfl) ?_
      obtain ⟨v869, s, hc869, h⟩ := oB_of h
      refine ww_callS (pc := 869) (rest := [.int (l2 + 1), .ref (q.1 0 0)]) g cs_Mo_sbx (Or.inl kw_275) (ct_Mo_sbx hc869) ⟨by decide, by decide⟩ rfl hl.1 (Nat.le_of_ble_eq_true rfl) d_Mo_named_869 rfl ?_
      refine ww_st (st' := [.int v869, .int (l2 + 1), .ref (q.1 0 0)]) rfl ?_
      refine ww_iadd (pc := 872) g.1 d_Mo_named_872 ?_
      obtain ⟨v873, s, hc873, h⟩ := oB_of h
      refine ww_callV (pc := 873) (rest := []) g cv_Mo_goes (Or.inl kw_315) cl_Mo (pz rfl (by decide)) (ct_Mo_goes hc873) ⟨by decide, by decide⟩ rfl hl.1 (Nat.le_of_ble_eq_true rfl) d_Mo_named_873 rfl ?_
      refine ww_st (st' := [.int v873]) rfl ?_
      refine ww_if_eq (pc := 876) (tgt := 883) g.1 d_Mo_named_876 (by decide) h (fun c h => ?_) (fun c h => ?_)
      · exact j_Mo_named_j883 g hR s ls (lv_sub hl [] rfl) h
      · refine ww_iconst (pc := 879) g.1 (v := 1) d_Mo_named_879 (by decide) ?_
        refine ww_goto (pc := 880) (tgt := 884) g.1 d_Mo_named_880 (by decide) ?_
        exact ww_zretH (pc := 884) g h hR (Or.inr rfl) d_Mo_named_884
  have h := oC_neg c20_853 h
  by_cases c20_885 : l4 = 41
  · have h := oC_pos c20_885 h
    have c := c20_885
    refine ww_tableIn (pc := 20) (tgt := 885) g.1 d_Mo_named_20 (by rw [c]; decide) (by rw [c]; decide) (by rw [c]; rfl) (by decide) ?_
    refine ww_iload (pc := 885) g.1 d_Mo_named_885 (lv_at hl 0 rfl) ?_
    refine ww_if_le (pc := 887) (tgt := 908) g.1 d_Mo_named_887 (by decide) h (fun c h => ?_) (fun c h => ?_)
    · exact j_Mo_named_j908 g hR s ls (lv_sub hl [] rfl) h
    · refine ww_aload_n (pc := 890) g.1 d_Mo_named_890 rfl (lv_at hl 3 rfl) ?_
      refine ww_iload (pc := 891) g.1 d_Mo_named_891 (lv_at hl 2 rfl) ?_
      refine ww_iconst (pc := 893) g.1 (v := 2) d_Mo_named_893 (by decide) ?_
      refine ww_iadd (pc := 894) g.1 d_Mo_named_894 ?_
      refine ww_iload (pc := 895) g.1 d_Mo_named_895 (lv_at hl 0 rfl) ?_
      refine ww_iadd (pc := 897) g.1 d_Mo_named_897 ?_
      obtain ⟨v898, s, hc898, h⟩ := oB_of h
      refine ww_callV (pc := 898) (rest := []) g cv_Mo_reg (Or.inl kw_313) cl_Mo (pz rfl (by decide)) (ct_Mo_reg hc898) ⟨by decide, by decide⟩ rfl hl.1 (Nat.le_of_ble_eq_true rfl) d_Mo_named_898 rfl ?_
      refine ww_st (st' := [.int v898]) rfl ?_
      refine ww_if_eq (pc := 901) (tgt := 908) g.1 d_Mo_named_901 (by decide) h (fun c h => ?_) (fun c h => ?_)
      · exact j_Mo_named_j908 g hR s ls (lv_sub hl [] rfl) h
      · refine ww_iconst (pc := 904) g.1 (v := 1) d_Mo_named_904 (by decide) ?_
        refine ww_goto (pc := 905) (tgt := 909) g.1 d_Mo_named_905 (by decide) ?_
        exact ww_zretH (pc := 909) g h hR (Or.inr rfl) d_Mo_named_909
  have h := oC_neg c20_885 h
  by_cases c20_910 : l4 = 42
  · have h := oC_pos c20_910 h
    have c := c20_910
    refine ww_tableIn (pc := 20) (tgt := 910) g.1 d_Mo_named_20 (by rw [c]; decide) (by rw [c]; decide) (by rw [c]; rfl) (by decide) ?_
    refine ww_aload_n (pc := 910) g.1 d_Mo_named_910 rfl (lv_at hl 3 rfl) ?_
    refine ww_iload (pc := 911) g.1 d_Mo_named_911 (lv_at hl 2 rfl) ?_
    refine ww_iconst (pc := 913) g.1 (v := 1) d_Mo_named_913 (by decide) ?_
    refine ww_iadd (pc := 914) g.1 d_Mo_named_914 ?_
    obtain ⟨v915, s, hc915, h⟩ := oB_of h
    refine ww_callV (pc := 915) (rest := []) g cv_Mo_reg (Or.inl kw_313) cl_Mo (pz rfl (by decide)) (ct_Mo_reg hc915) ⟨by decide, by decide⟩ rfl hl.1 (Nat.le_of_ble_eq_true rfl) d_Mo_named_915 rfl ?_
    refine ww_st (st' := [.int v915]) rfl ?_
    refine ww_if_eq (pc := 918) (tgt := 940) g.1 d_Mo_named_918 (by decide) h (fun c h => ?_) (fun c h => ?_)
    · exact j_Mo_named_j940 g hR s ls (lv_sub hl [] rfl) h
    · refine ww_aload_n (pc := 921) g.1 d_Mo_named_921 rfl (lv_at hl 3 rfl) ?_
      refine ww_iload_n (pc := 922) g.1 d_Mo_named_922 rfl (lv_at hl 5 rfl) ?_
      refine ww_iconst (pc := 923) g.1 (v := 1) d_Mo_named_923 (by decide) ?_
      refine ww_iadd (pc := 924) g.1 d_Mo_named_924 ?_
      refine ww_iload_n (pc := 925) g.1 d_Mo_named_925 rfl (lv_at hl 6 rfl) ?_
      obtain ⟨v926, s, hc926, h⟩ := oB_of h
      refine ww_callS (pc := 926) (rest := [.int (l2 + 1), .ref (q.1 0 0)]) g cs_Mo_sbx (Or.inl kw_275) (ct_Mo_sbx hc926) ⟨by decide, by decide⟩ rfl hl.1 (Nat.le_of_ble_eq_true rfl) d_Mo_named_926 rfl ?_
      refine ww_st (st' := [.int v926, .int (l2 + 1), .ref (q.1 0 0)]) rfl ?_
      refine ww_iadd (pc := 929) g.1 d_Mo_named_929 ?_
      obtain ⟨v930, s, hc930, h⟩ := oB_of h
      refine ww_callV (pc := 930) (rest := []) g cv_Mo_goes (Or.inl kw_315) cl_Mo (pz rfl (by decide)) (ct_Mo_goes hc930) ⟨by decide, by decide⟩ rfl hl.1 (Nat.le_of_ble_eq_true rfl) d_Mo_named_930 rfl ?_
      refine ww_st (st' := [.int v930]) rfl ?_
      refine ww_if_eq (pc := 933) (tgt := 940) g.1 d_Mo_named_933 (by decide) h (fun c h => ?_) (fun c h => ?_)
      · exact j_Mo_named_j940 g hR s ls (lv_sub hl [] rfl) h
      · refine ww_iconst (pc := 936) g.1 (v := 1) d_Mo_named_936 (by decide) ?_
        refine ww_goto (pc := 937) (tgt := 941) g.1 d_Mo_named_937 (by decide) ?_
        exact ww_zretH (pc := 941) g h hR (Or.inr rfl) d_Mo_named_941
  have h := oC_neg c20_910 h
  by_cases c20_942 : l4 = 43
  · have h := oC_pos c20_942 h
    have c := c20_942
    refine ww_tableIn (pc := 20) (tgt := 942) g.1 d_Mo_named_20 (by rw [c]; decide) (by rw [c]; decide) (by rw [c]; rfl) (by decide) ?_
    refine ww_iload (pc := 942) g.1 d_Mo_named_942 (lv_at hl 0 rfl) ?_
    refine ww_if_le (pc := 944) (tgt := 977) g.1 d_Mo_named_944 (by decide) h (fun c h => ?_) (fun c h => ?_)
    · exact j_Mo_named_j977 g hR s ls (lv_sub hl [] rfl) h
    · refine ww_aload_n (pc := 947) g.1 d_Mo_named_947 rfl (lv_at hl 3 rfl) ?_
      refine ww_iload (pc := 948) g.1 d_Mo_named_948 (lv_at hl 2 rfl) ?_
      obtain ⟨v950, s, hc950, h⟩ := oB_of h
      refine ww_callV (pc := 950) (rest := []) g cv_Mo_reg (Or.inl kw_313) cl_Mo (pz rfl (by decide)) (ct_Mo_reg hc950) ⟨by decide, by decide⟩ rfl hl.1 (Nat.le_of_ble_eq_true rfl) d_Mo_named_950 rfl ?_
      refine ww_st (st' := [.int v950]) rfl ?_
      refine ww_if_eq (pc := 953) (tgt := 977) g.1 d_Mo_named_953 (by decide) h (fun c h => ?_) (fun c h => ?_)
      · exact j_Mo_named_j977 g hR s ls (lv_sub hl [] rfl) h
      · refine ww_iload (pc := 956) g.1 d_Mo_named_956 (lv_at hl 1 rfl) ?_
        refine ww_if_eq (pc := 958) (tgt := 973) g.1 d_Mo_named_958 (by decide) h (fun c h => ?_) (fun c h => ?_)
        · exact j_Mo_named_j973 g hR s ls (lv_sub hl [] rfl) h
        · refine ww_aload_n (pc := 961) g.1 d_Mo_named_961 rfl (lv_at hl 3 rfl) ?_
          refine ww_iload (pc := 962) g.1 d_Mo_named_962 (lv_at hl 2 rfl) ?_
          refine ww_iload (pc := 964) g.1 d_Mo_named_964 (lv_at hl 1 rfl) ?_
          refine ww_iadd (pc := 966) g.1 d_Mo_named_966 ?_
          obtain ⟨v967, s, hc967, h⟩ := oB_of h
          refine ww_callV (pc := 967) (rest := []) g cv_Mo_reg (Or.inl kw_313) cl_Mo (pz rfl (by decide)) (ct_Mo_reg hc967) ⟨by decide, by decide⟩ rfl hl.1 (Nat.le_of_ble_eq_true rfl) d_Mo_named_967 rfl ?_
          refine ww_st (st' := [.int v967]) rfl ?_
          refine ww_if_eq (pc := 970) (tgt := 977) g.1 d_Mo_named_970 (by decide) h (fun c h => ?_) (fun c h => ?_)
          · exact j_Mo_named_j977 g hR s ls (lv_sub hl [] rfl) h
          · exact j_Mo_named_j973 g hR s ls (lv_sub hl [] rfl) h
  have h := oC_neg c20_942 h
  by_cases c20_979 : l4 = 44
  · have h := oC_pos c20_979 h
    have c := c20_979
    refine ww_tableIn (pc := 20) (tgt := 979) g.1 d_Mo_named_20 (by rw [c]; decide) (by rw [c]; decide) (by rw [c]; rfl) (by decide) ?_
    refine ww_aload_n (pc := 979) g.1 d_Mo_named_979 rfl (lv_at hl 3 rfl) ?_
    refine ww_iload (pc := 980) g.1 d_Mo_named_980 (lv_at hl 2 rfl) ?_
    obtain ⟨v982, s, hc982, h⟩ := oB_of h
    refine ww_callV (pc := 982) (rest := []) g cv_Mo_reg (Or.inl kw_313) cl_Mo (pz rfl (by decide)) (ct_Mo_reg hc982) ⟨by decide, by decide⟩ rfl hl.1 (Nat.le_of_ble_eq_true rfl) d_Mo_named_982 rfl ?_
    refine ww_st (st' := [.int v982]) rfl ?_
    refine ww_if_eq (pc := 985) (tgt := 1005) g.1 d_Mo_named_985 (by decide) h (fun c h => ?_) (fun c h => ?_)
    · exact j_Mo_named_j1005 g hR s ls (lv_sub hl [] rfl) h
    · refine ww_iload_n (pc := 988) g.1 d_Mo_named_988 rfl (lv_at hl 6 rfl) ?_
      obtain ⟨v989, s, hc989, h⟩ := oB_of h
      refine ww_callS (pc := 989) (rest := []) g cs_Mo_bx (Or.inl kw_314) (ct_Mo_bx hc989) ⟨by decide, by decide⟩ rfl hl.1 (Nat.le_of_ble_eq_true rfl) d_Mo_named_989 rfl ?_
      refine ww_st (st' := [.int v989]) rfl ?_
      refine ww_aload_n (pc := 992) g.1 d_Mo_named_992 rfl (lv_at hl 3 rfl) ?_
      refine ww_gR (pc := 993) g (k := 16) cl_Mo (pz rfl (by decide)) (by decide) (Or.inl kw_317) (f := 16) (t := 52) rfl rfl rfl d_Mo_named_993 ?_
      refine ww_iload_n (pc := 996) g.1 d_Mo_named_996 rfl (lv_at hl 4 rfl) ?_
      refine ww_ai (pc := 997) g (pz rfl (by decide)) rfl rfl d_Mo_named_997 h fun v997 h => ?_
      refine ww_icmp_ge (pc := 998) (tgt := 1005) g.1 d_Mo_named_998 (by decide) h (fun c h => ?_) (fun c h => ?_)
      · exact j_Mo_named_j1005 g hR s ls (lv_sub hl [] rfl) h
      · refine ww_iconst (pc := 1001) g.1 (v := 1) d_Mo_named_1001 (by decide) ?_
        refine ww_goto (pc := 1002) (tgt := 1006) g.1 d_Mo_named_1002 (by decide) ?_
        exact ww_zretH (pc := 1006) g h hR (Or.inr rfl) d_Mo_named_1006
  have h := oC_neg c20_979 h
  by_cases c20_1007 : l4 = 45
  · have h := oC_pos c20_1007 h
    have c := c20_1007
    refine ww_tableIn (pc := 20) (tgt := 1007) g.1 d_Mo_named_20 (by rw [c]; decide) (by rw [c]; decide) (by rw [c]; rfl) (by decide) ?_
    refine ww_aload_n (pc := 1007) g.1 d_Mo_named_1007 rfl (lv_at hl 3 rfl) ?_
    refine ww_iload (pc := 1008) g.1 d_Mo_named_1008 (lv_at hl 2 rfl) ?_
    obtain ⟨v1010, s, hc1010, h⟩ := oB_of h
    refine ww_callV (pc := 1010) (rest := []) g cv_Mo_reg (Or.inl kw_313) cl_Mo (pz rfl (by decide)) (ct_Mo_reg hc1010) ⟨by decide, by decide⟩ rfl hl.1 (Nat.le_of_ble_eq_true rfl) d_Mo_named_1010 rfl ?_
    refine ww_st (st' := [.int v1010]) rfl ?_
    refine ww_if_eq (pc := 1013) (tgt := 1040) g.1 d_Mo_named_1013 (by decide) h (fun c h => ?_) (fun c h => ?_)
    · exact j_Mo_named_j1040 g hR s ls (lv_sub hl [] rfl) h
    · refine ww_iload (pc := 1016) g.1 d_Mo_named_1016 (lv_at hl 1 rfl) ?_
      refine ww_iconst (pc := 1018) g.1 (v := 2) d_Mo_named_1018 (by decide) ?_
      refine ww_icmp_lt (pc := 1019) (tgt := 1036) g.1 d_Mo_named_1019 (by decide) h (fun c h => ?_) (fun c h => ?_)
      · exact j_Mo_named_j1036 g hR s ls (lv_sub hl [] rfl) h
      · refine ww_aload_n (pc := 1022) g.1 d_Mo_named_1022 rfl (lv_at hl 3 rfl) ?_
        refine ww_iload (pc := 1023) g.1 d_Mo_named_1023 (lv_at hl 2 rfl) ?_
        refine ww_iload (pc := 1025) g.1 d_Mo_named_1025 (lv_at hl 1 rfl) ?_
        refine ww_iadd (pc := 1027) g.1 d_Mo_named_1027 ?_
        refine ww_iconst (pc := 1028) g.1 (v := 2) d_Mo_named_1028 (by decide) ?_
        refine ww_isub (pc := 1029) g.1 d_Mo_named_1029 ?_
        obtain ⟨v1030, s, hc1030, h⟩ := oB_of h
        refine ww_callV (pc := 1030) (rest := []) g cv_Mo_reg (Or.inl kw_313) cl_Mo (pz rfl (by decide)) (ct_Mo_reg hc1030) ⟨by decide, by decide⟩ rfl hl.1 (Nat.le_of_ble_eq_true rfl) d_Mo_named_1030 rfl ?_
        refine ww_st (st' := [.int v1030]) rfl ?_
        refine ww_if_eq (pc := 1033) (tgt := 1040) g.1 d_Mo_named_1033 (by decide) h (fun c h => ?_) (fun c h => ?_)
        · exact j_Mo_named_j1040 g hR s ls (lv_sub hl [] rfl) h
        · exact j_Mo_named_j1036 g hR s ls (lv_sub hl [] rfl) h
  have h := oC_neg c20_1007 h
  have n_0 : ¬ l4.toInt = 0 := lv_neT (fun e => c20_220 (Or.inl e)) rfl
  have n_25 : ¬ l4.toInt = 25 := lv_neT (fun e => c20_220 (Or.inr (Or.inl e))) rfl
  have n_26 : ¬ l4.toInt = 26 := lv_neT (fun e => c20_220 (Or.inr (Or.inr (Or.inl e)))) rfl
  have n_27 : ¬ l4.toInt = 27 := lv_neT (fun e => c20_220 (Or.inr (Or.inr (Or.inr (Or.inl e))))) rfl
  have n_28 : ¬ l4.toInt = 28 := lv_neT (fun e => c20_220 (Or.inr (Or.inr (Or.inr (Or.inr (e)))))) rfl
  have n_1 : ¬ l4.toInt = 1 := lv_neT (fun e => c20_244 e) rfl
  have n_3 : ¬ l4.toInt = 3 := lv_neT (fun e => c20_272 e) rfl
  have n_4 : ¬ l4.toInt = 4 := lv_neT (fun e => c20_302 e) rfl
  have n_5 : ¬ l4.toInt = 5 := lv_neT (fun e => c20_312 (Or.inl e)) rfl
  have n_9 : ¬ l4.toInt = 9 := lv_neT (fun e => c20_312 (Or.inr (e))) rfl
  have n_6 : ¬ l4.toInt = 6 := lv_neT (fun e => c20_338 e) rfl
  have n_7 : ¬ l4.toInt = 7 := lv_neT (fun e => c20_373 e) rfl
  have n_8 : ¬ l4.toInt = 8 := lv_neT (fun e => c20_406 e) rfl
  have n_10 : ¬ l4.toInt = 10 := lv_neT (fun e => c20_441 e) rfl
  have n_11 : ¬ l4.toInt = 11 := lv_neT (fun e => c20_474 e) rfl
  have n_12 : ¬ l4.toInt = 12 := lv_neT (fun e => c20_481 e) rfl
  have n_13 : ¬ l4.toInt = 13 := lv_neT (fun e => c20_516 (Or.inl e)) rfl
  have n_14 : ¬ l4.toInt = 14 := lv_neT (fun e => c20_516 (Or.inr (Or.inl e))) rfl
  have n_15 : ¬ l4.toInt = 15 := lv_neT (fun e => c20_516 (Or.inr (Or.inr (Or.inl e)))) rfl
  have n_16 : ¬ l4.toInt = 16 := lv_neT (fun e => c20_516 (Or.inr (Or.inr (Or.inr (Or.inl e))))) rfl
  have n_19 : ¬ l4.toInt = 19 := lv_neT (fun e => c20_516 (Or.inr (Or.inr (Or.inr (Or.inr (Or.inl e)))))) rfl
  have n_20 : ¬ l4.toInt = 20 := lv_neT (fun e => c20_516 (Or.inr (Or.inr (Or.inr (Or.inr (Or.inr (Or.inl e))))))) rfl
  have n_21 : ¬ l4.toInt = 21 := lv_neT (fun e => c20_516 (Or.inr (Or.inr (Or.inr (Or.inr (Or.inr (Or.inr (Or.inl e)))))))) rfl
  have n_22 : ¬ l4.toInt = 22 := lv_neT (fun e => c20_516 (Or.inr (Or.inr (Or.inr (Or.inr (Or.inr (Or.inr (Or.inr (Or.inl e))))))))) rfl
  have n_23 : ¬ l4.toInt = 23 := lv_neT (fun e => c20_516 (Or.inr (Or.inr (Or.inr (Or.inr (Or.inr (Or.inr (Or.inr (Or.inr (Or.inl e)))))))))) rfl
  have n_24 : ¬ l4.toInt = 24 := lv_neT (fun e => c20_516 (Or.inr (Or.inr (Or.inr (Or.inr (Or.inr (Or.inr (Or.inr (Or.inr (Or.inr (e))))))))))) rfl
  have n_29 : ¬ l4.toInt = 29 := lv_neT (fun e => c20_549 e) rfl
  have n_30 : ¬ l4.toInt = 30 := lv_neT (fun e => c20_580 e) rfl
  have n_31 : ¬ l4.toInt = 31 := lv_neT (fun e => c20_617 (Or.inl e)) rfl
  have n_32 : ¬ l4.toInt = 32 := lv_neT (fun e => c20_617 (Or.inr (Or.inl e))) rfl
  have n_33 : ¬ l4.toInt = 33 := lv_neT (fun e => c20_617 (Or.inr (Or.inr (e)))) rfl
  have n_34 : ¬ l4.toInt = 34 := lv_neT (fun e => c20_647 e) rfl
  have n_35 : ¬ l4.toInt = 35 := lv_neT (fun e => c20_668 e) rfl
  have n_36 : ¬ l4.toInt = 36 := lv_neT (fun e => c20_698 e) rfl
  have n_37 : ¬ l4.toInt = 37 := lv_neT (fun e => c20_752 e) rfl
  have n_38 : ¬ l4.toInt = 38 := lv_neT (fun e => c20_786 e) rfl
  have n_39 : ¬ l4.toInt = 39 := lv_neT (fun e => c20_821 e) rfl
  have n_40 : ¬ l4.toInt = 40 := lv_neT (fun e => c20_853 e) rfl
  have n_41 : ¬ l4.toInt = 41 := lv_neT (fun e => c20_885 e) rfl
  have n_42 : ¬ l4.toInt = 42 := lv_neT (fun e => c20_910 e) rfl
  have n_43 : ¬ l4.toInt = 43 := lv_neT (fun e => c20_942 e) rfl
  have n_44 : ¬ l4.toInt = 44 := lv_neT (fun e => c20_979 e) rfl
  have n_45 : ¬ l4.toInt = 45 := lv_neT (fun e => c20_1007 e) rfl
  by_cases hr : l4.toInt < 0 ∨ 45 < l4.toInt
  · refine ww_tableOut (pc := 20) (tgt := 1042) g.1 d_Mo_named_20 hr (by decide) ?_
    refine ww_iconst (pc := 1042) g.1 (v := 0) d_Mo_named_1042 (by decide) ?_
    exact ww_zretH (pc := 1043) g h hR (Or.inl rfl) d_Mo_named_1043
  have hh : l4.toInt = 2 ∨ l4.toInt = 17 ∨ l4.toInt = 18 := by omega
  rcases hh with c | c | c
  · refine ww_tableIn (pc := 20) (tgt := 1042) g.1 d_Mo_named_20 (by rw [c]; decide) (by rw [c]; decide) (by rw [c]; rfl) (by decide) ?_
    refine ww_iconst (pc := 1042) g.1 (v := 0) d_Mo_named_1042 (by decide) ?_
    exact ww_zretH (pc := 1043) g h hR (Or.inl rfl) d_Mo_named_1043
  · refine ww_tableIn (pc := 20) (tgt := 1042) g.1 d_Mo_named_20 (by rw [c]; decide) (by rw [c]; decide) (by rw [c]; rfl) (by decide) ?_
    refine ww_iconst (pc := 1042) g.1 (v := 0) d_Mo_named_1042 (by decide) ?_
    exact ww_zretH (pc := 1043) g h hR (Or.inl rfl) d_Mo_named_1043
  · refine ww_tableIn (pc := 20) (tgt := 1042) g.1 d_Mo_named_20 (by rw [c]; decide) (by rw [c]; decide) (by rw [c]; rfl) (by decide) ?_
    refine ww_iconst (pc := 1042) g.1 (v := 0) d_Mo_named_1042 (by decide) ?_
    exact ww_zretH (pc := 1043) g h hR (Or.inl rfl) d_Mo_named_1043


