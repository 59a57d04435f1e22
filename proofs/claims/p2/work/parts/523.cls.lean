abbrev b_Ch_goesWhereItMay : ByteArray := prog_3_method_20_code
def y_Ch_goesWhereItMay : MethodName := ⟨R_Ch, "goesWhereItMay", "(LLuaMachine$Prototype;II)Z"⟩
abbrev w_Ch_goesWhereItMay : List Cond := .code y_Ch_goesWhereItMay b_Ch_goesWhereItMay 9 (some .boolean) :: wA
set_option maxRecDepth 20000 in
theorem k_Ch_goesWhereItMay : Cond.code y_Ch_goesWhereItMay b_Ch_goesWhereItMay 9 (some .boolean) ∈ wA := kinm (show _ ∈ tables_1 from (List.mem_append_right _ (List.mem_append_right _ (List.mem_append_right _ (List.mem_append_left _ (List.mem_of_getElem? (l := tables_1_4) (i := 39) rfl)))))) rfl
theorem d_Ch_goesWhereItMay_0 : decode b_Ch_goesWhereItMay 0 = .ok (.iload_n 3, 1) := by decide +kernel
theorem d_Ch_goesWhereItMay_1 : decode b_Ch_goesWhereItMay 1 = .ok (.bipush 63, 2) := by decide +kernel
theorem d_Ch_goesWhereItMay_3 : decode b_Ch_goesWhereItMay 3 = .ok (.iand, 1) := by decide +kernel
theorem d_Ch_goesWhereItMay_4 : decode b_Ch_goesWhereItMay 4 = .ok (.istore 4, 2) := by decide +kernel
theorem d_Ch_goesWhereItMay_6 : decode b_Ch_goesWhereItMay 6 = .ok (.iload 4, 2) := by decide +kernel
theorem d_Ch_goesWhereItMay_8 : decode b_Ch_goesWhereItMay 8 = .ok (.bipush 30, 2) := by decide +kernel
theorem d_Ch_goesWhereItMay_10 : decode b_Ch_goesWhereItMay 10 = .ok (.if_icmp .eq 24, 3) := by decide +kernel
theorem d_Ch_goesWhereItMay_13 : decode b_Ch_goesWhereItMay 13 = .ok (.iload 4, 2) := by decide +kernel
theorem d_Ch_goesWhereItMay_15 : decode b_Ch_goesWhereItMay 15 = .ok (.bipush 39, 2) := by decide +kernel
theorem d_Ch_goesWhereItMay_17 : decode b_Ch_goesWhereItMay 17 = .ok (.if_icmp .eq 17, 3) := by decide +kernel
theorem d_Ch_goesWhereItMay_20 : decode b_Ch_goesWhereItMay 20 = .ok (.iload 4, 2) := by decide +kernel
theorem d_Ch_goesWhereItMay_22 : decode b_Ch_goesWhereItMay 22 = .ok (.bipush 40, 2) := by decide +kernel
theorem d_Ch_goesWhereItMay_24 : decode b_Ch_goesWhereItMay 24 = .ok (.if_icmp .eq 10, 3) := by decide +kernel
theorem d_Ch_goesWhereItMay_27 : decode b_Ch_goesWhereItMay 27 = .ok (.iload 4, 2) := by decide +kernel
theorem d_Ch_goesWhereItMay_29 : decode b_Ch_goesWhereItMay 29 = .ok (.bipush 42, 2) := by decide +kernel
theorem d_Ch_goesWhereItMay_31 : decode b_Ch_goesWhereItMay 31 = .ok (.if_icmp .ne 7, 3) := by decide +kernel
theorem d_Ch_goesWhereItMay_34 : decode b_Ch_goesWhereItMay 34 = .ok (.iconst 1, 1) := by decide +kernel
theorem d_Ch_goesWhereItMay_35 : decode b_Ch_goesWhereItMay 35 = .ok (.goto 4, 3) := by decide +kernel
theorem d_Ch_goesWhereItMay_38 : decode b_Ch_goesWhereItMay 38 = .ok (.iconst 0, 1) := by decide +kernel
theorem d_Ch_goesWhereItMay_39 : decode b_Ch_goesWhereItMay 39 = .ok (.istore 5, 2) := by decide +kernel
theorem d_Ch_goesWhereItMay_41 : decode b_Ch_goesWhereItMay 41 = .ok (.iload 4, 2) := by decide +kernel
theorem d_Ch_goesWhereItMay_43 : decode b_Ch_goesWhereItMay 43 = .ok (.bipush 30, 2) := by decide +kernel
theorem d_Ch_goesWhereItMay_45 : decode b_Ch_goesWhereItMay 45 = .ok (.if_icmp .le 14, 3) := by decide +kernel
theorem d_Ch_goesWhereItMay_48 : decode b_Ch_goesWhereItMay 48 = .ok (.iload 4, 2) := by decide +kernel
theorem d_Ch_goesWhereItMay_50 : decode b_Ch_goesWhereItMay 50 = .ok (.bipush 36, 2) := by decide +kernel
theorem d_Ch_goesWhereItMay_52 : decode b_Ch_goesWhereItMay 52 = .ok (.if_icmp .ge 7, 3) := by decide +kernel
theorem d_Ch_goesWhereItMay_55 : decode b_Ch_goesWhereItMay 55 = .ok (.iconst 1, 1) := by decide +kernel
theorem d_Ch_goesWhereItMay_56 : decode b_Ch_goesWhereItMay 56 = .ok (.goto 4, 3) := by decide +kernel
theorem d_Ch_goesWhereItMay_59 : decode b_Ch_goesWhereItMay 59 = .ok (.iconst 0, 1) := by decide +kernel
theorem d_Ch_goesWhereItMay_60 : decode b_Ch_goesWhereItMay 60 = .ok (.istore 6, 2) := by decide +kernel
theorem d_Ch_goesWhereItMay_62 : decode b_Ch_goesWhereItMay 62 = .ok (.iload 6, 2) := by decide +kernel
theorem d_Ch_goesWhereItMay_64 : decode b_Ch_goesWhereItMay 64 = .ok (.ifCond .ne 20, 3) := by decide +kernel
theorem d_Ch_goesWhereItMay_67 : decode b_Ch_goesWhereItMay 67 = .ok (.iload 4, 2) := by decide +kernel
theorem d_Ch_goesWhereItMay_69 : decode b_Ch_goesWhereItMay 69 = .ok (.iconst 3, 1) := by decide +kernel
theorem d_Ch_goesWhereItMay_70 : decode b_Ch_goesWhereItMay 70 = .ok (.if_icmp .ne 18, 3) := by decide +kernel
theorem d_Ch_goesWhereItMay_73 : decode b_Ch_goesWhereItMay 73 = .ok (.iload_n 3, 1) := by decide +kernel
theorem d_Ch_goesWhereItMay_74 : decode b_Ch_goesWhereItMay 74 = .ok (.bipush 14, 2) := by decide +kernel
theorem d_Ch_goesWhereItMay_76 : decode b_Ch_goesWhereItMay 76 = .ok (.iushr, 1) := by decide +kernel
theorem d_Ch_goesWhereItMay_77 : decode b_Ch_goesWhereItMay 77 = .ok (.sipush 511, 3) := by decide +kernel
theorem d_Ch_goesWhereItMay_80 : decode b_Ch_goesWhereItMay 80 = .ok (.iand, 1) := by decide +kernel
theorem d_Ch_goesWhereItMay_81 : decode b_Ch_goesWhereItMay 81 = .ok (.ifCond .eq 7, 3) := by decide +kernel
theorem d_Ch_goesWhereItMay_84 : decode b_Ch_goesWhereItMay 84 = .ok (.iconst 1, 1) := by decide +kernel
theorem d_Ch_goesWhereItMay_85 : decode b_Ch_goesWhereItMay 85 = .ok (.goto 4, 3) := by decide +kernel
theorem d_Ch_goesWhereItMay_88 : decode b_Ch_goesWhereItMay 88 = .ok (.iconst 0, 1) := by decide +kernel
theorem d_Ch_goesWhereItMay_89 : decode b_Ch_goesWhereItMay 89 = .ok (.istore 7, 2) := by decide +kernel
theorem d_Ch_goesWhereItMay_91 : decode b_Ch_goesWhereItMay 91 = .ok (.iload 4, 2) := by decide +kernel
theorem d_Ch_goesWhereItMay_93 : decode b_Ch_goesWhereItMay 93 = .ok (.bipush 30, 2) := by decide +kernel
theorem d_Ch_goesWhereItMay_95 : decode b_Ch_goesWhereItMay 95 = .ok (.if_icmp .eq 21, 3) := by decide +kernel
theorem d_Ch_goesWhereItMay_98 : decode b_Ch_goesWhereItMay 98 = .ok (.iload 4, 2) := by decide +kernel
theorem d_Ch_goesWhereItMay_100 : decode b_Ch_goesWhereItMay 100 = .ok (.bipush 37, 2) := by decide +kernel
theorem d_Ch_goesWhereItMay_102 : decode b_Ch_goesWhereItMay 102 = .ok (.if_icmp .eq 14, 3) := by decide +kernel
theorem d_Ch_goesWhereItMay_105 : decode b_Ch_goesWhereItMay 105 = .ok (.iload 4, 2) := by decide +kernel
theorem d_Ch_goesWhereItMay_107 : decode b_Ch_goesWhereItMay 107 = .ok (.bipush 38, 2) := by decide +kernel
theorem d_Ch_goesWhereItMay_109 : decode b_Ch_goesWhereItMay 109 = .ok (.if_icmp .eq 7, 3) := by decide +kernel
theorem d_Ch_goesWhereItMay_112 : decode b_Ch_goesWhereItMay 112 = .ok (.iconst 1, 1) := by decide +kernel
theorem d_Ch_goesWhereItMay_113 : decode b_Ch_goesWhereItMay 113 = .ok (.goto 4, 3) := by decide +kernel
theorem d_Ch_goesWhereItMay_116 : decode b_Ch_goesWhereItMay 116 = .ok (.iconst 0, 1) := by decide +kernel
theorem d_Ch_goesWhereItMay_117 : decode b_Ch_goesWhereItMay 117 = .ok (.istore 8, 2) := by decide +kernel
theorem d_Ch_goesWhereItMay_119 : decode b_Ch_goesWhereItMay 119 = .ok (.iload 8, 2) := by decide +kernel
theorem d_Ch_goesWhereItMay_121 : decode b_Ch_goesWhereItMay 121 = .ok (.ifCond .eq 15, 3) := by decide +kernel
theorem d_Ch_goesWhereItMay_124 : decode b_Ch_goesWhereItMay 124 = .ok (.iload_n 2, 1) := by decide +kernel
theorem d_Ch_goesWhereItMay_125 : decode b_Ch_goesWhereItMay 125 = .ok (.iconst 1, 1) := by decide +kernel
theorem d_Ch_goesWhereItMay_126 : decode b_Ch_goesWhereItMay 126 = .ok (.iadd, 1) := by decide +kernel
theorem d_Ch_goesWhereItMay_127 : decode b_Ch_goesWhereItMay 127 = .ok (.aload_n 1, 1) := by decide +kernel
theorem d_Ch_goesWhereItMay_128 : decode b_Ch_goesWhereItMay 128 = .ok (.getfield 140, 3) := by decide +kernel
theorem d_Ch_goesWhereItMay_131 : decode b_Ch_goesWhereItMay 131 = .ok (.if_icmp .lt 5, 3) := by decide +kernel
theorem d_Ch_goesWhereItMay_134 : decode b_Ch_goesWhereItMay 134 = .ok (.iconst 0, 1) := by decide +kernel
theorem d_Ch_goesWhereItMay_135 : decode b_Ch_goesWhereItMay 135 = .ok (.ireturn, 1) := by decide +kernel
theorem d_Ch_goesWhereItMay_136 : decode b_Ch_goesWhereItMay 136 = .ok (.iload 6, 2) := by decide +kernel
theorem d_Ch_goesWhereItMay_138 : decode b_Ch_goesWhereItMay 138 = .ok (.ifCond .eq 26, 3) := by decide +kernel
theorem d_Ch_goesWhereItMay_141 : decode b_Ch_goesWhereItMay 141 = .ok (.aload_n 0, 1) := by decide +kernel
theorem d_Ch_goesWhereItMay_142 : decode b_Ch_goesWhereItMay 142 = .ok (.getfield 21, 3) := by decide +kernel
theorem d_Ch_goesWhereItMay_145 : decode b_Ch_goesWhereItMay 145 = .ok (.aload_n 1, 1) := by decide +kernel
theorem d_Ch_goesWhereItMay_146 : decode b_Ch_goesWhereItMay 146 = .ok (.getfield 137, 3) := by decide +kernel
theorem d_Ch_goesWhereItMay_149 : decode b_Ch_goesWhereItMay 149 = .ok (.iload_n 2, 1) := by decide +kernel
theorem d_Ch_goesWhereItMay_150 : decode b_Ch_goesWhereItMay 150 = .ok (.iadd, 1) := by decide +kernel
theorem d_Ch_goesWhereItMay_151 : decode b_Ch_goesWhereItMay 151 = .ok (.iconst 1, 1) := by decide +kernel
theorem d_Ch_goesWhereItMay_152 : decode b_Ch_goesWhereItMay 152 = .ok (.iadd, 1) := by decide +kernel
theorem d_Ch_goesWhereItMay_153 : decode b_Ch_goesWhereItMay 153 = .ok (.iaload, 1) := by decide +kernel
theorem d_Ch_goesWhereItMay_154 : decode b_Ch_goesWhereItMay 154 = .ok (.bipush 63, 2) := by decide +kernel
theorem d_Ch_goesWhereItMay_156 : decode b_Ch_goesWhereItMay 156 = .ok (.iand, 1) := by decide +kernel
theorem d_Ch_goesWhereItMay_157 : decode b_Ch_goesWhereItMay 157 = .ok (.bipush 30, 2) := by decide +kernel
theorem d_Ch_goesWhereItMay_159 : decode b_Ch_goesWhereItMay 159 = .ok (.if_icmp .eq 5, 3) := by decide +kernel
theorem d_Ch_goesWhereItMay_162 : decode b_Ch_goesWhereItMay 162 = .ok (.iconst 0, 1) := by decide +kernel
theorem d_Ch_goesWhereItMay_163 : decode b_Ch_goesWhereItMay 163 = .ok (.ireturn, 1) := by decide +kernel
theorem d_Ch_goesWhereItMay_164 : decode b_Ch_goesWhereItMay 164 = .ok (.iload 7, 2) := by decide +kernel
theorem d_Ch_goesWhereItMay_166 : decode b_Ch_goesWhereItMay 166 = .ok (.ifCond .eq 16, 3) := by decide +kernel
theorem d_Ch_goesWhereItMay_169 : decode b_Ch_goesWhereItMay 169 = .ok (.aload_n 0, 1) := by decide +kernel
theorem d_Ch_goesWhereItMay_170 : decode b_Ch_goesWhereItMay 170 = .ok (.aload_n 1, 1) := by decide +kernel
theorem d_Ch_goesWhereItMay_171 : decode b_Ch_goesWhereItMay 171 = .ok (.iload_n 2, 1) := by decide +kernel
theorem d_Ch_goesWhereItMay_172 : decode b_Ch_goesWhereItMay 172 = .ok (.iconst 2, 1) := by decide +kernel
theorem d_Ch_goesWhereItMay_173 : decode b_Ch_goesWhereItMay 173 = .ok (.iadd, 1) := by decide +kernel
theorem d_Ch_goesWhereItMay_174 : decode b_Ch_goesWhereItMay 174 = .ok (.invokevirtual 192, 3) := by decide +kernel
theorem d_Ch_goesWhereItMay_177 : decode b_Ch_goesWhereItMay 177 = .ok (.ifCond .ne 5, 3) := by decide +kernel
theorem d_Ch_goesWhereItMay_180 : decode b_Ch_goesWhereItMay 180 = .ok (.iconst 0, 1) := by decide +kernel
theorem d_Ch_goesWhereItMay_181 : decode b_Ch_goesWhereItMay 181 = .ok (.ireturn, 1) := by decide +kernel
theorem d_Ch_goesWhereItMay_182 : decode b_Ch_goesWhereItMay 182 = .ok (.iload 5, 2) := by decide +kernel
theorem d_Ch_goesWhereItMay_184 : decode b_Ch_goesWhereItMay 184 = .ok (.ifCond .eq 22, 3) := by decide +kernel
theorem d_Ch_goesWhereItMay_187 : decode b_Ch_goesWhereItMay 187 = .ok (.aload_n 0, 1) := by decide +kernel
theorem d_Ch_goesWhereItMay_188 : decode b_Ch_goesWhereItMay 188 = .ok (.aload_n 1, 1) := by decide +kernel
theorem d_Ch_goesWhereItMay_189 : decode b_Ch_goesWhereItMay 189 = .ok (.iload_n 2, 1) := by decide +kernel
theorem d_Ch_goesWhereItMay_190 : decode b_Ch_goesWhereItMay 190 = .ok (.iconst 1, 1) := by decide +kernel
theorem d_Ch_goesWhereItMay_191 : decode b_Ch_goesWhereItMay 191 = .ok (.iadd, 1) := by decide +kernel
theorem d_Ch_goesWhereItMay_192 : decode b_Ch_goesWhereItMay 192 = .ok (.iload_n 3, 1) := by decide +kernel
theorem d_Ch_goesWhereItMay_193 : decode b_Ch_goesWhereItMay 193 = .ok (.bipush 14, 2) := by decide +kernel
theorem d_Ch_goesWhereItMay_195 : decode b_Ch_goesWhereItMay 195 = .ok (.iushr, 1) := by decide +kernel
theorem d_Ch_goesWhereItMay_196 : decode b_Ch_goesWhereItMay 196 = .ok (.iadd, 1) := by decide +kernel
theorem d_Ch_goesWhereItMay_197 : decode b_Ch_goesWhereItMay 197 = .ok (.ldc 195, 2) := by decide +kernel
theorem d_Ch_goesWhereItMay_199 : decode b_Ch_goesWhereItMay 199 = .ok (.isub, 1) := by decide +kernel
theorem d_Ch_goesWhereItMay_200 : decode b_Ch_goesWhereItMay 200 = .ok (.invokevirtual 192, 3) := by decide +kernel
theorem d_Ch_goesWhereItMay_203 : decode b_Ch_goesWhereItMay 203 = .ok (.ifCond .eq 7, 3) := by decide +kernel
theorem d_Ch_goesWhereItMay_206 : decode b_Ch_goesWhereItMay 206 = .ok (.iconst 1, 1) := by decide +kernel
theorem d_Ch_goesWhereItMay_207 : decode b_Ch_goesWhereItMay 207 = .ok (.goto 4, 3) := by decide +kernel
theorem d_Ch_goesWhereItMay_210 : decode b_Ch_goesWhereItMay 210 = .ok (.iconst 0, 1) := by decide +kernel
theorem d_Ch_goesWhereItMay_211 : decode b_Ch_goesWhereItMay 211 = .ok (.ireturn, 1) := by decide +kernel
theorem kw_1229 : Cond.constant R_Ch 195 131071 ∈ wA := kinm (show _ ∈ tables_1 from (List.mem_append_right _ (List.mem_append_right _ (List.mem_append_right _ (List.mem_append_left _ (List.mem_of_getElem? (l := tables_1_4) (i := 47) (by decide +kernel))))))) (by decide +kernel)
theorem kw_1230 : Cond.methodLink R_Ch 192 y_Ch_mayBeReached ∈ wA := kinm (show _ ∈ tables_1 from (List.mem_append_right _ (List.mem_append_right _ (List.mem_append_right _ (List.mem_append_left _ (List.mem_of_getElem? (l := tables_1_4) (i := 40) (by decide +kernel))))))) (by decide +kernel)
theorem kw_1231 : Cond.instanceMethod y_Ch_goesWhereItMay ∈ wA := kinm (show _ ∈ tables_1 from (List.mem_append_right _ (List.mem_append_right _ (List.mem_append_right _ (List.mem_append_left _ (List.mem_of_getElem? (l := tables_1_4) (i := 38) (by decide +kernel))))))) (by decide +kernel)
theorem kw_1232 : Cond.selects R_Ch y_Ch_goesWhereItMay y_Ch_goesWhereItMay ∈ wA := kinp 14 (by decide +kernel) (by decide +kernel)
theorem cv_Ch_goesWhereItMay : CV y_Ch_goesWhereItMay b_Ch_goesWhereItMay 9 (some .boolean) 3 := ⟨kw_1231, kw_1232, kw_664, k_Ch_goesWhereItMay, by decide +kernel⟩
theorem j_Ch_goesWhereItMay_j206 {X : Cx} {q : PL} (g : Gd X y_Ch_goesWhereItMay b_Ch_goesWhereItMay 9 (some .boolean) 2 43 R_Ch) {o : (Int32) × S1} (hR : Rt X q o.2 (some (.int o.1)))  (s : S1) (ls : Array Slot) (hl : lv_has ls 9 []) (h : M_Ch_goesWhereItMay_j206 s = some o) : WW X q s 206 ls [] := by
  unfold M_Ch_goesWhereItMay_j206 at h
  refine ww_iconst (pc := 206) g.1 (v := 1) d_Ch_goesWhereItMay_206 (by decide) ?_
  refine ww_goto (pc := 207) (tgt := 211) g.1 d_Ch_goesWhereItMay_207 (by decide) ?_
  exact ww_zretH (pc := 211) g h hR (Or.inr rfl) d_Ch_goesWhereItMay_211

theorem j_Ch_goesWhereItMay_j182 {X : Cx} {q : PL} (g : Gd X y_Ch_goesWhereItMay b_Ch_goesWhereItMay 9 (some .boolean) 2 43 R_Ch) {o : (Int32) × S1} (hR : Rt X q o.2 (some (.int o.1))) (l1 : Int32) (l2 : Int32) (l3 : Int32) (l5 : Int32) (s : S1) (hp0 : prs s 144 l1) (ls : Array Slot) (hl : lv_has ls 9 [(0, .ref (q.1 101 0)), (1, .ref (q.1 144 l1)), (2, .int l2), (3, .int l3), (5, .int l5)]) (h : M_Ch_goesWhereItMay_j182 l1 l2 l3 l5 s = some o) : WW X q s 182 ls [] := by
  unfold M_Ch_goesWhereItMay_j182 at h
  refine ww_iload (pc := 182) g.1 d_Ch_goesWhereItMay_182 (lv_at hl 4 rfl) ?_
  refine ww_if_eq (pc := 184) (tgt := 206) g.1 d_Ch_goesWhereItMay_184 (by decide) h (fun c h => ?_) (fun c h => ?_)
  · exact j_Ch_goesWhereItMay_j206 g hR s ls (lv_sub hl [] rfl) h
  · refine ww_aload_n (pc := 187) g.1 d_Ch_goesWhereItMay_187 rfl (lv_at hl 0 rfl) ?_
    refine ww_aload_n (pc := 188) g.1 d_Ch_goesWhereItMay_188 rfl (lv_at hl 1 rfl) ?_
    refine ww_iload_n (pc := 189) g.1 d_Ch_goesWhereItMay_189 rfl (lv_at hl 2 rfl) ?_
    refine ww_iconst (pc := 190) g.1 (v := 1) d_Ch_goesWhereItMay_190 (by decide) ?_
    refine ww_iadd (pc := 191) g.1 d_Ch_goesWhereItMay_191 ?_
    refine ww_iload_n (pc := 192) g.1 d_Ch_goesWhereItMay_192 rfl (lv_at hl 3 rfl) ?_
    refine ww_bipush (pc := 193) g.1 (v := 14) d_Ch_goesWhereItMay_193 (by decide) ?_
    refine ww_iushr (pc := 195) g.1 (v := iushr l3 (14 : Int32)) d_Ch_goesWhereItMay_195 rfl ?_
    refine ww_iadd (pc := 196) g.1 d_Ch_goesWhereItMay_196 ?_
    refine ww_ldc (pc := 197) g (v := 131071) kw_1229 d_Ch_goesWhereItMay_197 ?_
    refine ww_isub (pc := 199) g.1 d_Ch_goesWhereItMay_199 ?_
    refine ww_lo fun dlo => ?_
    obtain ⟨v200, s, hc200, h⟩ := oB_of h
    refine ww_callV (pc := 200) (rest := []) g cv_Ch_mayBeReached (Or.inl kw_1230) cl_Ch (pz rfl (by decide)) (ct_Ch_mayBeReached hp0 hc200) ⟨by decide, by decide⟩ rfl hl.1 (Nat.le_of_ble_eq_true rfl) d_Ch_goesWhereItMay_200 rfl (?_)
    refine ww_st (st' := [.int v200]) rfl ?_
    refine ww_hi fun dhi => ?_
    have hp0 : prs s 144 l1 := dhi _ _ hp0.2.1 hp0.2.2 (dlo _ _ hp0)
    refine ww_if_eq (pc := 203) (tgt := 210) g.1 d_Ch_goesWhereItMay_203 (by decide) h (fun c h => ?_) (fun c h => ?_)
    · refine ww_iconst (pc := 210) g.1 (v := 0) d_Ch_goesWhereItMay_210 (by decide) ?_
      exact ww_zretH (pc := 211) g h hR (Or.inl rfl) d_Ch_goesWhereItMay_211
    · exact j_Ch_goesWhereItMay_j206 g hR s ls (lv_sub hl [] rfl) h

theorem j_Ch_goesWhereItMay_j164 {X : Cx} {q : PL} (g : Gd X y_Ch_goesWhereItMay b_Ch_goesWhereItMay 9 (some .boolean) 2 43 R_Ch) {o : (Int32) × S1} (hR : Rt X q o.2 (some (.int o.1))) (l1 : Int32) (l2 : Int32) (l3 : Int32) (l5 : Int32) (l7 : Int32) (s : S1) (hp0 : prs s 144 l1) (ls : Array Slot) (hl : lv_has ls 9 [(0, .ref (q.1 101 0)), (1, .ref (q.1 144 l1)), (2, .int l2), (3, .int l3), (5, .int l5), (7, .int l7)]) (h : M_Ch_goesWhereItMay_j164 l1 l2 l3 l5 l7 s = some o) : WW X q s 164 ls [] := by
  unfold M_Ch_goesWhereItMay_j164 at h
  refine ww_iload (pc := 164) g.1 d_Ch_goesWhereItMay_164 (lv_at hl 5 rfl) ?_
  refine ww_if_eq (pc := 166) (tgt := 182) g.1 d_Ch_goesWhereItMay_166 (by decide) h (fun c h => ?_) (fun c h => ?_)
  · exact j_Ch_goesWhereItMay_j182 g hR l1 l2 l3 l5 s hp0 ls (lv_sub hl [0, 1, 2, 3, 4] rfl) h
  · refine ww_aload_n (pc := 169) g.1 d_Ch_goesWhereItMay_169 rfl (lv_at hl 0 rfl) ?_
    refine ww_aload_n (pc := 170) g.1 d_Ch_goesWhereItMay_170 rfl (lv_at hl 1 rfl) ?_
    refine ww_iload_n (pc := 171) g.1 d_Ch_goesWhereItMay_171 rfl (lv_at hl 2 rfl) ?_
    refine ww_iconst (pc := 172) g.1 (v := 2) d_Ch_goesWhereItMay_172 (by decide) ?_
    refine ww_iadd (pc := 173) g.1 d_Ch_goesWhereItMay_173 ?_
    refine ww_lo fun dlo => ?_
    obtain ⟨v174, s, hc174, h⟩ := oB_of h
    refine ww_callV (pc := 174) (rest := []) g cv_Ch_mayBeReached (Or.inl kw_1230) cl_Ch (pz rfl (by decide)) (ct_Ch_mayBeReached hp0 hc174) ⟨by decide, by decide⟩ rfl hl.1 (Nat.le_of_ble_eq_true rfl) d_Ch_goesWhereItMay_174 rfl (?_)
    refine ww_st (st' := [.int v174]) rfl ?_
    refine ww_hi fun dhi => ?_
    have hp0 : prs s 144 l1 := dhi _ _ hp0.2.1 hp0.2.2 (dlo _ _ hp0)
    refine ww_if_ne (pc := 177) (tgt := 182) g.1 d_Ch_goesWhereItMay_177 (by decide) h (fun c h => ?_) (fun c h => ?_)
    · exact j_Ch_goesWhereItMay_j182 g hR l1 l2 l3 l5 s hp0 ls (lv_sub hl [0, 1, 2, 3, 4] rfl) h
    · refine ww_iconst (pc := 180) g.1 (v := 0) d_Ch_goesWhereItMay_180 (by decide) ?_
      exact ww_zretH (pc := 181) g h hR (Or.inl rfl) d_Ch_goesWhereItMay_181

theorem j_Ch_goesWhereItMay_j136 {X : Cx} {q : PL} (g : Gd X y_Ch_goesWhereItMay b_Ch_goesWhereItMay 9 (some .boolean) 2 43 R_Ch) {o : (Int32) × S1} (hR : Rt X q o.2 (some (.int o.1))) (l1 : Int32) (l2 : Int32) (l3 : Int32) (l5 : Int32) (l6 : Int32) (l7 : Int32) (s : S1) (hp0 : prs s 144 l1) (ls : Array Slot) (hl : lv_has ls 9 [(0, .ref (q.1 101 0)), (1, .ref (q.1 144 l1)), (2, .int l2), (3, .int l3), (5, .int l5), (6, .int l6), (7, .int l7)]) (h : M_Ch_goesWhereItMay_j136 l1 l2 l3 l5 l6 l7 s = some o) : WW X q s 136 ls [] := by
  unfold M_Ch_goesWhereItMay_j136 at h
  refine ww_iload (pc := 136) g.1 d_Ch_goesWhereItMay_136 (lv_at hl 5 rfl) ?_
  refine ww_if_eq (pc := 138) (tgt := 164) g.1 d_Ch_goesWhereItMay_138 (by decide) h (fun c h => ?_) (fun c h => ?_)
  · exact j_Ch_goesWhereItMay_j164 g hR l1 l2 l3 l5 l7 s hp0 ls (lv_sub hl [0, 1, 2, 3, 4, 6] rfl) h
  · refine ww_aload_n (pc := 141) g.1 d_Ch_goesWhereItMay_141 rfl (lv_at hl 0 rfl) ?_
    refine ww_gR (pc := 142) g (k := 2) cl_Ch (pz rfl (by decide)) (by decide) (Or.inl kw_686) (f := 12930) (t := 104) rfl rfl rfl d_Ch_goesWhereItMay_142 ?_
    refine ww_aload_n (pc := 145) g.1 d_Ch_goesWhereItMay_145 rfl (lv_at hl 1 rfl) ?_
    refine ww_gI (pc := 146) g (k := 8) cl_Pr hp0 (by decide) (Or.inl kw_683) (f := 18440) rfl rfl d_Ch_goesWhereItMay_146 h fun v146 h => ?_
    refine ww_iload_n (pc := 149) g.1 d_Ch_goesWhereItMay_149 rfl (lv_at hl 2 rfl) ?_
    refine ww_iadd (pc := 150) g.1 d_Ch_goesWhereItMay_150 ?_
    refine ww_iconst (pc := 151) g.1 (v := 1) d_Ch_goesWhereItMay_151 (by decide) ?_
    refine ww_iadd (pc := 152) g.1 d_Ch_goesWhereItMay_152 ?_
    refine ww_ai (pc := 153) g (pz rfl (by decide)) rfl rfl d_Ch_goesWhereItMay_153 h fun v153 h => ?_
    refine ww_bipush (pc := 154) g.1 (v := 63) d_Ch_goesWhereItMay_154 (by decide) ?_
    refine ww_iand (pc := 156) g.1 d_Ch_goesWhereItMay_156 ?_
    refine ww_bipush (pc := 157) g.1 (v := 30) d_Ch_goesWhereItMay_157 (by decide) ?_
    refine ww_icmp_eq (pc := 159) (tgt := 164) g.1 d_Ch_goesWhereItMay_159 (by decide) h (fun c h => ?_) (fun c h => ?_)
    · exact j_Ch_goesWhereItMay_j164 g hR l1 l2 l3 l5 l7 s hp0 ls (lv_sub hl [0, 1, 2, 3, 4, 6] rfl) h
    · refine ww_iconst (pc := 162) g.1 (v := 0) d_Ch_goesWhereItMay_162 (by decide) ?_
      exact ww_zretH (pc := 163) g h hR (Or.inl rfl) d_Ch_goesWhereItMay_163

theorem j_Ch_goesWhereItMay_j117 {X : Cx} {q : PL} (g : Gd X y_Ch_goesWhereItMay b_Ch_goesWhereItMay 9 (some .boolean) 2 43 R_Ch) {o : (Int32) × S1} (hR : Rt X q o.2 (some (.int o.1))) (l1 : Int32) (l2 : Int32) (l3 : Int32) (l5 : Int32) (l6 : Int32) (l7 : Int32) (k0 : Int32) (s : S1) (hp0 : prs s 144 l1) (ls : Array Slot) (hl : lv_has ls 9 [(0, .ref (q.1 101 0)), (1, .ref (q.1 144 l1)), (2, .int l2), (3, .int l3), (5, .int l5), (6, .int l6), (7, .int l7)]) (h : M_Ch_goesWhereItMay_j117 l1 l2 l3 l5 l6 l7 k0 s = some o) : WW X q s 117 ls [.int k0] := by
  unfold M_Ch_goesWhereItMay_j117 at h
  refine ww_istore (pc := 117) (i := 8) g.1 (lv' := [(8, .int k0), (0, .ref (q.1 101 0)), (1, .ref (q.1 144 l1)), (2, .int l2), (3, .int l3), (5, .int l5), (6, .int l6), (7, .int l7)]) d_Ch_goesWhereItMay_117 hl (by decide) rfl fun ls hl => ?_
  refine ww_iload (pc := 119) g.1 d_Ch_goesWhereItMay_119 (lv_at hl 0 rfl) ?_
  refine ww_if_eq (pc := 121) (tgt := 136) g.1 d_Ch_goesWhereItMay_121 (by decide) h (fun c h => ?_) (fun c h => ?_)
  · exact j_Ch_goesWhereItMay_j136 g hR l1 l2 l3 l5 l6 l7 s hp0 ls (lv_sub hl [1, 2, 3, 4, 5, 6, 7] rfl) h
  · refine ww_iload_n (pc := 124) g.1 d_Ch_goesWhereItMay_124 rfl (lv_at hl 3 rfl) ?_
    refine ww_iconst (pc := 125) g.1 (v := 1) d_Ch_goesWhereItMay_125 (by decide) ?_
    refine ww_iadd (pc := 126) g.1 d_Ch_goesWhereItMay_126 ?_
    refine ww_aload_n (pc := 127) g.1 d_Ch_goesWhereItMay_127 rfl (lv_at hl 2 rfl) ?_
    refine ww_gI (pc := 128) g (k := 7) cl_Pr hp0 (by decide) (Or.inl kw_684) (f := 18439) rfl rfl d_Ch_goesWhereItMay_128 h fun v128 h => ?_
    refine ww_icmp_lt (pc := 131) (tgt := 136) g.1 d_Ch_goesWhereItMay_131 (by decide) h (fun c h => ?_) (fun c h => ?_)
    · exact j_Ch_goesWhereItMay_j136 g hR l1 l2 l3 l5 l6 l7 s hp0 ls (lv_sub hl [1, 2, 3, 4, 5, 6, 7] rfl) h
    · refine ww_iconst (pc := 134) g.1 (v := 0) d_Ch_goesWhereItMay_134 (by decide) ?_
      exact ww_zretH (pc := 135) g h hR (Or.inl rfl) d_Ch_goesWhereItMay_135

theorem j_Ch_goesWhereItMay_j116 {X : Cx} {q : PL} (g : Gd X y_Ch_goesWhereItMay b_Ch_goesWhereItMay 9 (some .boolean) 2 43 R_Ch) {o : (Int32) × S1} (hR : Rt X q o.2 (some (.int o.1))) (l1 : Int32) (l2 : Int32) (l3 : Int32) (l5 : Int32) (l6 : Int32) (l7 : Int32) (s : S1) (hp0 : prs s 144 l1) (ls : Array Slot) (hl : lv_has ls 9 [(0, .ref (q.1 101 0)), (1, .ref (q.1 144 l1)), (2, .int l2), (3, .int l3), (5, .int l5), (6, .int l6), (7, .int l7)]) (h : M_Ch_goesWhereItMay_j116 l1 l2 l3 l5 l6 l7 s = some o) : WW X q s 116 ls [] := by
  unfold M_Ch_goesWhereItMay_j116 at h
  refine ww_iconst (pc := 116) g.1 (v := 0) d_Ch_goesWhereItMay_116 (by decide) ?_
  exact j_Ch_goesWhereItMay_j117 g hR l1 l2 l3 l5 l6 l7 0 s hp0 ls (lv_sub hl [0, 1, 2, 3, 4, 5, 6] rfl) h

theorem j_Ch_goesWhereItMay_j89 {X : Cx} {q : PL} (g : Gd X y_Ch_goesWhereItMay b_Ch_goesWhereItMay 9 (some .boolean) 2 43 R_Ch) {o : (Int32) × S1} (hR : Rt X q o.2 (some (.int o.1))) (l1 : Int32) (l2 : Int32) (l3 : Int32) (l4 : Int32) (l5 : Int32) (l6 : Int32) (k0 : Int32) (s : S1) (hp0 : prs s 144 l1) (ls : Array Slot) (hl : lv_has ls 9 [(0, .ref (q.1 101 0)), (1, .ref (q.1 144 l1)), (2, .int l2), (3, .int l3), (4, .int l4), (5, .int l5), (6, .int l6)]) (h : M_Ch_goesWhereItMay_j89 l1 l2 l3 l4 l5 l6 k0 s = some o) : WW X q s 89 ls [.int k0] := by
  unfold M_Ch_goesWhereItMay_j89 at h
  refine ww_istore (pc := 89) (i := 7) g.1 (lv' := [(7, .int k0), (0, .ref (q.1 101 0)), (1, .ref (q.1 144 l1)), (2, .int l2), (3, .int l3), (4, .int l4), (5, .int l5), (6, .int l6)]) d_Ch_goesWhereItMay_89 hl (by decide) rfl fun ls hl => ?_
  refine ww_iload (pc := 91) g.1 d_Ch_goesWhereItMay_91 (lv_at hl 5 rfl) ?_
  refine ww_bipush (pc := 93) g.1 (v := 30) d_Ch_goesWhereItMay_93 (by decide) ?_
  refine ww_icmp_eq (pc := 95) (tgt := 116) g.1 d_Ch_goesWhereItMay_95 (by decide) h (fun c h => ?_) (fun c h => ?_)
  · exact j_Ch_goesWhereItMay_j116 g hR l1 l2 l3 l5 l6 k0 s hp0 ls (lv_sub hl [1, 2, 3, 4, 6, 7, 0] rfl) h
  · refine ww_iload (pc := 98) g.1 d_Ch_goesWhereItMay_98 (lv_at hl 5 rfl) ?_
    refine ww_bipush (pc := 100) g.1 (v := 37) d_Ch_goesWhereItMay_100 (by decide) ?_
    refine ww_icmp_eq (pc := 102) (tgt := 116) g.1 d_Ch_goesWhereItMay_102 (by decide) h (fun c h => ?_) (fun c h => ?_)
    · exact j_Ch_goesWhereItMay_j116 g hR l1 l2 l3 l5 l6 k0 s hp0 ls (lv_sub hl [1, 2, 3, 4, 6, 7, 0] rfl) h
    · refine ww_iload (pc := 105) g.1 d_Ch_goesWhereItMay_105 (lv_at hl 5 rfl) ?_
      refine ww_bipush (pc := 107) g.1 (v := 38) d_Ch_goesWhereItMay_107 (by decide) ?_
      refine ww_icmp_eq (pc := 109) (tgt := 116) g.1 d_Ch_goesWhereItMay_109 (by decide) h (fun c h => ?_) (fun c h => ?_)
      · exact j_Ch_goesWhereItMay_j116 g hR l1 l2 l3 l5 l6 k0 s hp0 ls (lv_sub hl [1, 2, 3, 4, 6, 7, 0] rfl) h
      · refine ww_iconst (pc := 112) g.1 (v := 1) d_Ch_goesWhereItMay_112 (by decide) ?_
        refine ww_goto (pc := 113) (tgt := 117) g.1 d_Ch_goesWhereItMay_113 (by decide) ?_
        exact j_Ch_goesWhereItMay_j117 g hR l1 l2 l3 l5 l6 k0 1 s hp0 ls (lv_sub hl [1, 2, 3, 4, 6, 7, 0] rfl) h

theorem j_Ch_goesWhereItMay_j84 {X : Cx} {q : PL} (g : Gd X y_Ch_goesWhereItMay b_Ch_goesWhereItMay 9 (some .boolean) 2 43 R_Ch) {o : (Int32) × S1} (hR : Rt X q o.2 (some (.int o.1))) (l1 : Int32) (l2 : Int32) (l3 : Int32) (l4 : Int32) (l5 : Int32) (l6 : Int32) (s : S1) (hp0 : prs s 144 l1) (ls : Array Slot) (hl : lv_has ls 9 [(0, .ref (q.1 101 0)), (1, .ref (q.1 144 l1)), (2, .int l2), (3, .int l3), (4, .int l4), (5, .int l5), (6, .int l6)]) (h : M_Ch_goesWhereItMay_j84 l1 l2 l3 l4 l5 l6 s = some o) : WW X q s 84 ls [] := by
  unfold M_Ch_goesWhereItMay_j84 at h
  refine ww_iconst (pc := 84) g.1 (v := 1) d_Ch_goesWhereItMay_84 (by decide) ?_
  refine ww_goto (pc := 85) (tgt := 89) g.1 d_Ch_goesWhereItMay_85 (by decide) ?_
  exact j_Ch_goesWhereItMay_j89 g hR l1 l2 l3 l4 l5 l6 1 s hp0 ls (lv_sub hl [0, 1, 2, 3, 4, 5, 6] rfl) h

theorem j_Ch_goesWhereItMay_j88 {X : Cx} {q : PL} (g : Gd X y_Ch_goesWhereItMay b_Ch_goesWhereItMay 9 (some .boolean) 2 43 R_Ch) {o : (Int32) × S1} (hR : Rt X q o.2 (some (.int o.1))) (l1 : Int32) (l2 : Int32) (l3 : Int32) (l4 : Int32) (l5 : Int32) (l6 : Int32) (s : S1) (hp0 : prs s 144 l1) (ls : Array Slot) (hl : lv_has ls 9 [(0, .ref (q.1 101 0)), (1, .ref (q.1 144 l1)), (2, .int l2), (3, .int l3), (4, .int l4), (5, .int l5), (6, .int l6)]) (h : M_Ch_goesWhereItMay_j88 l1 l2 l3 l4 l5 l6 s = some o) : WW X q s 88 ls [] := by
  unfold M_Ch_goesWhereItMay_j88 at h
  refine ww_iconst (pc := 88) g.1 (v := 0) d_Ch_goesWhereItMay_88 (by decide) ?_
  exact j_Ch_goesWhereItMay_j89 g hR l1 l2 l3 l4 l5 l6 0 s hp0 ls (lv_sub hl [0, 1, 2, 3, 4, 5, 6] rfl) h

theorem j_Ch_goesWhereItMay_j60 {X : Cx} {q : PL} (g : Gd X y_Ch_goesWhereItMay b_Ch_goesWhereItMay 9 (some .boolean) 2 43 R_Ch) {o : (Int32) × S1} (hR : Rt X q o.2 (some (.int o.1))) (l1 : Int32) (l2 : Int32) (l3 : Int32) (l4 : Int32) (l5 : Int32) (k0 : Int32) (s : S1) (hp0 : prs s 144 l1) (ls : Array Slot) (hl : lv_has ls 9 [(0, .ref (q.1 101 0)), (1, .ref (q.1 144 l1)), (2, .int l2), (3, .int l3), (4, .int l4), (5, .int l5)]) (h : M_Ch_goesWhereItMay_j60 l1 l2 l3 l4 l5 k0 s = some o) : WW X q s 60 ls [.int k0] := by
  unfold M_Ch_goesWhereItMay_j60 at h
  refine ww_istore (pc := 60) (i := 6) g.1 (lv' := [(6, .int k0), (0, .ref (q.1 101 0)), (1, .ref (q.1 144 l1)), (2, .int l2), (3, .int l3), (4, .int l4), (5, .int l5)]) d_Ch_goesWhereItMay_60 hl (by decide) rfl fun ls hl => ?_
  refine ww_iload (pc := 62) g.1 d_Ch_goesWhereItMay_62 (lv_at hl 0 rfl) ?_
  refine ww_if_ne (pc := 64) (tgt := 84) g.1 d_Ch_goesWhereItMay_64 (by decide) h (fun c h => ?_) (fun c h => ?_)
  · exact j_Ch_goesWhereItMay_j84 g hR l1 l2 l3 l4 l5 k0 s hp0 ls (lv_sub hl [1, 2, 3, 4, 5, 6, 0] rfl) h
  · refine ww_iload (pc := 67) g.1 d_Ch_goesWhereItMay_67 (lv_at hl 5 rfl) ?_
    refine ww_iconst (pc := 69) g.1 (v := 3) d_Ch_goesWhereItMay_69 (by decide) ?_
    refine ww_icmp_ne (pc := 70) (tgt := 88) g.1 d_Ch_goesWhereItMay_70 (by decide) h (fun c h => ?_) (fun c h => ?_)
    · exact j_Ch_goesWhereItMay_j88 g hR l1 l2 l3 l4 l5 k0 s hp0 ls (lv_sub hl [1, 2, 3, 4, 5, 6, 0] rfl) h
    · refine ww_iload_n (pc := 73) g.1 d_Ch_goesWhereItMay_73 rfl (lv_at hl 4 rfl) ?_
      refine ww_bipush (pc := 74) g.1 (v := 14) d_Ch_goesWhereItMay_74 (by decide) ?_
      refine ww_iushr (pc := 76) g.1 (v := iushr l3 (14 : Int32)) d_Ch_goesWhereItMay_76 rfl ?_
      refine ww_sipush (pc := 77) g.1 (v := 511) d_Ch_goesWhereItMay_77 (by decide) ?_
      refine ww_iand (pc := 80) g.1 d_Ch_goesWhereItMay_80 ?_
      refine ww_if_eq (pc := 81) (tgt := 88) g.1 d_Ch_goesWhereItMay_81 (by decide) h (fun c h => ?_) (fun c h => ?_)
      · exact j_Ch_goesWhereItMay_j88 g hR l1 l2 l3 l4 l5 k0 s hp0 ls (lv_sub hl [1, 2, 3, 4, 5, 6, 0] rfl) h
      · exact j_Ch_goesWhereItMay_j84 g hR l1 l2 l3 l4 l5 k0 s hp0 ls (lv_sub hl [1, 2, 3, 4, 5, 6, 0] rfl) h

theorem j_Ch_goesWhereItMay_j59 {X : Cx} {q : PL} (g : Gd X y_Ch_goesWhereItMay b_Ch_goesWhereItMay 9 (some .boolean) 2 43 R_Ch) {o : (Int32) × S1} (hR : Rt X q o.2 (some (.int o.1))) (l1 : Int32) (l2 : Int32) (l3 : Int32) (l4 : Int32) (l5 : Int32) (s : S1) (hp0 : prs s 144 l1) (ls : Array Slot) (hl : lv_has ls 9 [(0, .ref (q.1 101 0)), (1, .ref (q.1 144 l1)), (2, .int l2), (3, .int l3), (4, .int l4), (5, .int l5)]) (h : M_Ch_goesWhereItMay_j59 l1 l2 l3 l4 l5 s = some o) : WW X q s 59 ls [] := by
  unfold M_Ch_goesWhereItMay_j59 at h
  refine ww_iconst (pc := 59) g.1 (v := 0) d_Ch_goesWhereItMay_59 (by decide) ?_
  exact j_Ch_goesWhereItMay_j60 g hR l1 l2 l3 l4 l5 0 s hp0 ls (lv_sub hl [0, 1, 2, 3, 4, 5] rfl) h

theorem j_Ch_goesWhereItMay_j39 {X : Cx} {q : PL} (g : Gd X y_Ch_goesWhereItMay b_Ch_goesWhereItMay 9 (some .boolean) 2 43 R_Ch) {o : (Int32) × S1} (hR : Rt X q o.2 (some (.int o.1))) (l1 : Int32) (l2 : Int32) (l3 : Int32) (l4 : Int32) (k0 : Int32) (s : S1) (hp0 : prs s 144 l1) (ls : Array Slot) (hl : lv_has ls 9 [(0, .ref (q.1 101 0)), (1, .ref (q.1 144 l1)), (2, .int l2), (3, .int l3), (4, .int l4)]) (h : M_Ch_goesWhereItMay_j39 l1 l2 l3 l4 k0 s = some o) : WW X q s 39 ls [.int k0] := by
  unfold M_Ch_goesWhereItMay_j39 at h
  refine ww_istore (pc := 39) (i := 5) g.1 (lv' := [(5, .int k0), (0, .ref (q.1 101 0)), (1, .ref (q.1 144 l1)), (2, .int l2), (3, .int l3), (4, .int l4)]) d_Ch_goesWhereItMay_39 hl (by decide) rfl fun ls hl => ?_
  refine ww_iload (pc := 41) g.1 d_Ch_goesWhereItMay_41 (lv_at hl 5 rfl) ?_
  refine ww_bipush (pc := 43) g.1 (v := 30) d_Ch_goesWhereItMay_43 (by decide) ?_
  refine ww_icmp_le (pc := 45) (tgt := 59) g.1 d_Ch_goesWhereItMay_45 (by decide) h (fun c h => ?_) (fun c h => ?_)
  · exact j_Ch_goesWhereItMay_j59 g hR l1 l2 l3 l4 k0 s hp0 ls (lv_sub hl [1, 2, 3, 4, 5, 0] rfl) h
  · refine ww_iload (pc := 48) g.1 d_Ch_goesWhereItMay_48 (lv_at hl 5 rfl) ?_
    refine ww_bipush (pc := 50) g.1 (v := 36) d_Ch_goesWhereItMay_50 (by decide) ?_
    refine ww_icmp_ge (pc := 52) (tgt := 59) g.1 d_Ch_goesWhereItMay_52 (by decide) h (fun c h => ?_) (fun c h => ?_)
    · exact j_Ch_goesWhereItMay_j59 g hR l1 l2 l3 l4 k0 s hp0 ls (lv_sub hl [1, 2, 3, 4, 5, 0] rfl) h
    · refine ww_iconst (pc := 55) g.1 (v := 1) d_Ch_goesWhereItMay_55 (by decide) ?_
      refine ww_goto (pc := 56) (tgt := 60) g.1 d_Ch_goesWhereItMay_56 (by decide) ?_
      exact j_Ch_goesWhereItMay_j60 g hR l1 l2 l3 l4 k0 1 s hp0 ls (lv_sub hl [1, 2, 3, 4, 5, 0] rfl) h

theorem j_Ch_goesWhereItMay_j34 {X : Cx} {q : PL} (g : Gd X y_Ch_goesWhereItMay b_Ch_goesWhereItMay 9 (some .boolean) 2 43 R_Ch) {o : (Int32) × S1} (hR : Rt X q o.2 (some (.int o.1))) (l1 : Int32) (l2 : Int32) (l3 : Int32) (l4 : Int32) (s : S1) (hp0 : prs s 144 l1) (ls : Array Slot) (hl : lv_has ls 9 [(0, .ref (q.1 101 0)), (1, .ref (q.1 144 l1)), (2, .int l2), (3, .int l3), (4, .int l4)]) (h : M_Ch_goesWhereItMay_j34 l1 l2 l3 l4 s = some o) : WW X q s 34 ls [] := by
  unfold M_Ch_goesWhereItMay_j34 at h
  refine ww_iconst (pc := 34) g.1 (v := 1) d_Ch_goesWhereItMay_34 (by decide) ?_
  refine ww_goto (pc := 35) (tgt := 39) g.1 d_Ch_goesWhereItMay_35 (by decide) ?_
  exact j_Ch_goesWhereItMay_j39 g hR l1 l2 l3 l4 1 s hp0 ls (lv_sub hl [0, 1, 2, 3, 4] rfl) h

theorem ct_Ch_goesWhereItMay {l : Launch} {P : PP} {q : PL} {s s' : S1} {l1 : Int32} {l2 : Int32} {l3 : Int32} (hp0 : prs s 144 l1) {r : Int32} (h : M_Ch_goesWhereItMay l1 l2 l3 s = some (r, s')) : Ct l y_Ch_goesWhereItMay b_Ch_goesWhereItMay 9 (some .boolean) 2 43 P q s [.ref (q.1 101 0), .ref (q.1 144 l1), .int l2, .int l3] (some (.int r)) q s' := by
  refine ct_of (by decide) (Nat.le_of_ble_eq_true rfl) fun X ls eP el g hR hl => ?_
  subst eP
  have hR : Rt X q ((r, s') : Int32 × S1).2 (some (.int ((r, s') : Int32 × S1).1)) := hR
  have hl : lv_has ls 9 [(0, .ref (q.1 101 0)), (1, .ref (q.1 144 l1)), (2, .int l2), (3, .int l3)] := hl
  generalize (r, s') = o at h hR
  unfold M_Ch_goesWhereItMay at h
  refine ww_iload_n (pc := 0) g.1 d_Ch_goesWhereItMay_0 rfl (lv_at hl 3 rfl) ?_
  refine ww_bipush (pc := 1) g.1 (v := 63) d_Ch_goesWhereItMay_1 (by decide) ?_
  refine ww_iand (pc := 3) g.1 d_Ch_goesWhereItMay_3 ?_
  refine ww_leti h fun l4_4 h => ?_
  refine ww_istore (pc := 4) (i := 4) g.1 (lv' := [(4, .int l4_4), (0, .ref (q.1 101 0)), (1, .ref (q.1 144 l1)), (2, .int l2), (3, .int l3)]) d_Ch_goesWhereItMay_4 hl (by decide) rfl fun ls hl => ?_
  refine ww_iload (pc := 6) g.1 d_Ch_goesWhereItMay_6 (lv_at hl 0 rfl) ?_
  refine ww_bipush (pc := 8) g.1 (v := 30) d_Ch_goesWhereItMay_8 (by decide) ?_
  refine ww_icmp_eq (pc := 10) (tgt := 34) g.1 d_Ch_goesWhereItMay_10 (by decide) h (fun c h => ?_) (fun c h => ?_)
  · exact j_Ch_goesWhereItMay_j34 g hR l1 l2 l3 l4_4 s hp0 ls (lv_sub hl [1, 2, 3, 4, 0] rfl) h
  · refine ww_iload (pc := 13) g.1 d_Ch_goesWhereItMay_13 (lv_at hl 0 rfl) ?_
    refine ww_bipush (pc := 15) g.1 (v := 39) d_Ch_goesWhereItMay_15 (by decide) ?_
    refine ww_icmp_eq (pc := 17) (tgt := 34) g.1 d_Ch_goesWhereItMay_17 (by decide) h (fun c h => ?_) (fun c h => ?_)
    · exact j_Ch_goesWhereItMay_j34 g hR l1 l2 l3 l4_4 s hp0 ls (lv_sub hl [1, 2, 3, 4, 0] rfl) h
    · refine ww_iload (pc := 20) g.1 d_Ch_goesWhereItMay_20 (lv_at hl 0 rfl) ?_
      refine ww_bipush (pc := 22) g.1 (v := 40) d_Ch_goesWhereItMay_22 (by decide) ?_
      refine ww_icmp_eq (pc := 24) (tgt := 34) g.1 d_Ch_goesWhereItMay_24 (by decide) h (fun c h => ?_) (fun c h => ?_)
      · exact j_Ch_goesWhereItMay_j34 g hR l1 l2 l3 l4_4 s hp0 ls (lv_sub hl [1, 2, 3, 4, 0] rfl) h
      · refine ww_iload (pc := 27) g.1 d_Ch_goesWhereItMay_27 (lv_at hl 0 rfl) ?_
        refine ww_bipush (pc := 29) g.1 (v := 42) d_Ch_goesWhereItMay_29 (by decide) ?_
        refine ww_icmp_ne (pc := 31) (tgt := 38) g.1 d_Ch_goesWhereItMay_31 (by decide) h (fun c h => ?_) (fun c h => ?_)
        · refine ww_iconst (pc := 38) g.1 (v := 0) d_Ch_goesWhereItMay_38 (by decide) ?_
          exact j_Ch_goesWhereItMay_j39 g hR l1 l2 l3 l4_4 0 s hp0 ls (lv_sub hl [1, 2, 3, 4, 0] rfl) h
        · exact j_Ch_goesWhereItMay_j34 g hR l1 l2 l3 l4_4 s hp0 ls (lv_sub hl [1, 2, 3, 4, 0] rfl) h

abbrev b_He_clean : ByteArray := prog_6_method_21_code
def y_He_clean : MethodName := ⟨R_He, "clean", "()V"⟩
abbrev w_He_clean : List Cond := .code y_He_clean b_He_clean 4 none :: wA
set_option maxRecDepth 20000 in
theorem k_He_clean : Cond.code y_He_clean b_He_clean 4 none ∈ wA := kinm (show _ ∈ tables_1 from (List.mem_append_right _ (List.mem_append_right _ (List.mem_append_right _ (List.mem_append_right _ (List.mem_append_left _ (List.mem_of_getElem? (l := tables_1_5) (i := 130) rfl))))))) rfl
theorem d_He_clean_0 : decode b_He_clean 0 = .ok (.aload_n 0, 1) := by decide +kernel
theorem d_He_clean_1 : decode b_He_clean 1 = .ok (.getfield 21, 3) := by decide +kernel
theorem d_He_clean_4 : decode b_He_clean 4 = .ok (.iconst 5, 1) := by decide +kernel
theorem d_He_clean_5 : decode b_He_clean 5 = .ok (.dup2, 1) := by decide +kernel
theorem d_He_clean_6 : decode b_He_clean 6 = .ok (.iaload, 1) := by decide +kernel
theorem d_He_clean_7 : decode b_He_clean 7 = .ok (.iconst 1, 1) := by decide +kernel
theorem d_He_clean_8 : decode b_He_clean 8 = .ok (.iadd, 1) := by decide +kernel
theorem d_He_clean_9 : decode b_He_clean 9 = .ok (.iastore, 1) := by decide +kernel
theorem d_He_clean_10 : decode b_He_clean 10 = .ok (.iconst 0, 1) := by decide +kernel
theorem d_He_clean_11 : decode b_He_clean 11 = .ok (.istore_n 1, 1) := by decide +kernel
theorem d_He_clean_12 : decode b_He_clean 12 = .ok (.iload_n 1, 1) := by decide +kernel
theorem d_He_clean_13 : decode b_He_clean 13 = .ok (.aload_n 0, 1) := by decide +kernel
theorem d_He_clean_14 : decode b_He_clean 14 = .ok (.getfield 47, 3) := by decide +kernel
theorem d_He_clean_17 : decode b_He_clean 17 = .ok (.if_icmp .ge 27, 3) := by decide +kernel
theorem d_He_clean_20 : decode b_He_clean 20 = .ok (.aload_n 0, 1) := by decide +kernel
theorem d_He_clean_21 : decode b_He_clean 21 = .ok (.getfield 11, 3) := by decide +kernel
theorem d_He_clean_24 : decode b_He_clean 24 = .ok (.iload_n 1, 1) := by decide +kernel
theorem d_He_clean_25 : decode b_He_clean 25 = .ok (.aaload, 1) := by decide +kernel
theorem d_He_clean_26 : decode b_He_clean 26 = .ok (.aload_n 0, 1) := by decide +kernel
theorem d_He_clean_27 : decode b_He_clean 27 = .ok (.getfield 11, 3) := by decide +kernel
theorem d_He_clean_30 : decode b_He_clean 30 = .ok (.iload_n 1, 1) := by decide +kernel
theorem d_He_clean_31 : decode b_He_clean 31 = .ok (.aaload, 1) := by decide +kernel
theorem d_He_clean_32 : decode b_He_clean 32 = .ok (.getfield 89, 3) := by decide +kernel
theorem d_He_clean_35 : decode b_He_clean 35 = .ok (.putfield 191, 3) := by decide +kernel
theorem d_He_clean_38 : decode b_He_clean 38 = .ok (.iinc 1 1, 3) := by decide +kernel
theorem d_He_clean_41 : decode b_He_clean 41 = .ok (.goto (-29), 3) := by decide +kernel
theorem d_He_clean_44 : decode b_He_clean 44 = .ok (.aload_n 0, 1) := by decide +kernel
theorem d_He_clean_45 : decode b_He_clean 45 = .ok (.iconst 0, 1) := by decide +kernel
theorem d_He_clean_46 : decode b_He_clean 46 = .ok (.putfield 194, 3) := by decide +kernel
theorem d_He_clean_49 : decode b_He_clean 49 = .ok (.aload_n 0, 1) := by decide +kernel
theorem d_He_clean_50 : decode b_He_clean 50 = .ok (.iconst 5, 1) := by decide +kernel
theorem d_He_clean_51 : decode b_He_clean 51 = .ok (.aload_n 0, 1) := by decide +kernel
theorem d_He_clean_52 : decode b_He_clean 52 = .ok (.getfield 197, 3) := by decide +kernel
theorem d_He_clean_55 : decode b_He_clean 55 = .ok (.getfield 201, 3) := by decide +kernel
theorem d_He_clean_58 : decode b_He_clean 58 = .ok (.i2l, 1) := by decide +kernel
theorem d_He_clean_59 : decode b_He_clean 59 = .ok (.invokevirtual 206, 3) := by decide +kernel
theorem d_He_clean_62 : decode b_He_clean 62 = .ok (.aload_n 0, 1) := by decide +kernel
theorem d_He_clean_63 : decode b_He_clean 63 = .ok (.getfield 197, 3) := by decide +kernel
theorem d_He_clean_66 : decode b_He_clean 66 = .ok (.getfield 209, 3) := by decide +kernel
theorem d_He_clean_69 : decode b_He_clean 69 = .ok (.astore_n 1, 1) := by decide +kernel
theorem d_He_clean_70 : decode b_He_clean 70 = .ok (.iconst 0, 1) := by decide +kernel
theorem d_He_clean_71 : decode b_He_clean 71 = .ok (.istore_n 2, 1) := by decide +kernel
theorem d_He_clean_72 : decode b_He_clean 72 = .ok (.iload_n 2, 1) := by decide +kernel
theorem d_He_clean_73 : decode b_He_clean 73 = .ok (.bipush 32, 2) := by decide +kernel
theorem d_He_clean_75 : decode b_He_clean 75 = .ok (.if_icmp .ge 37, 3) := by decide +kernel
theorem d_He_clean_78 : decode b_He_clean 78 = .ok (.aload_n 1, 1) := by decide +kernel
theorem d_He_clean_79 : decode b_He_clean 79 = .ok (.getfield 213, 3) := by decide +kernel
theorem d_He_clean_82 : decode b_He_clean 82 = .ok (.ifCond .lt 30, 3) := by decide +kernel
theorem d_He_clean_85 : decode b_He_clean 85 = .ok (.aload_n 0, 1) := by decide +kernel
theorem d_He_clean_86 : decode b_He_clean 86 = .ok (.bipush 7, 2) := by decide +kernel
theorem d_He_clean_88 : decode b_He_clean 88 = .ok (.aload_n 1, 1) := by decide +kernel
theorem d_He_clean_89 : decode b_He_clean 89 = .ok (.getfield 62, 3) := by decide +kernel
theorem d_He_clean_92 : decode b_He_clean 92 = .ok (.i2l, 1) := by decide +kernel
theorem d_He_clean_93 : decode b_He_clean 93 = .ok (.invokevirtual 206, 3) := by decide +kernel
theorem d_He_clean_96 : decode b_He_clean 96 = .ok (.aload_n 0, 1) := by decide +kernel
theorem d_He_clean_97 : decode b_He_clean 97 = .ok (.getfield 29, 3) := by decide +kernel
theorem d_He_clean_100 : decode b_He_clean 100 = .ok (.aload_n 1, 1) := by decide +kernel
theorem d_He_clean_101 : decode b_He_clean 101 = .ok (.getfield 213, 3) := by decide +kernel
theorem d_He_clean_104 : decode b_He_clean 104 = .ok (.aaload, 1) := by decide +kernel
theorem d_He_clean_105 : decode b_He_clean 105 = .ok (.astore_n 1, 1) := by decide +kernel
theorem d_He_clean_106 : decode b_He_clean 106 = .ok (.iinc 2 1, 3) := by decide +kernel
theorem d_He_clean_109 : decode b_He_clean 109 = .ok (.goto (-37), 3) := by decide +kernel
theorem d_He_clean_112 : decode b_He_clean 112 = .ok (.aload_n 0, 1) := by decide +kernel
theorem d_He_clean_113 : decode b_He_clean 113 = .ok (.bipush 7, 2) := by decide +kernel
theorem d_He_clean_115 : decode b_He_clean 115 = .ok (.aload_n 1, 1) := by decide +kernel
theorem d_He_clean_116 : decode b_He_clean 116 = .ok (.getfield 62, 3) := by decide +kernel
theorem d_He_clean_119 : decode b_He_clean 119 = .ok (.i2l, 1) := by decide +kernel
theorem d_He_clean_120 : decode b_He_clean 120 = .ok (.invokevirtual 206, 3) := by decide +kernel
theorem d_He_clean_123 : decode b_He_clean 123 = .ok (.aload_n 0, 1) := by decide +kernel
theorem d_He_clean_124 : decode b_He_clean 124 = .ok (.aload_n 0, 1) := by decide +kernel
theorem d_He_clean_125 : decode b_He_clean 125 = .ok (.getfield 197, 3) := by decide +kernel
theorem d_He_clean_128 : decode b_He_clean 128 = .ok (.getfield 216, 3) := by decide +kernel
theorem d_He_clean_131 : decode b_He_clean 131 = .ok (.getfield 220, 3) := by decide +kernel
theorem d_He_clean_134 : decode b_He_clean 134 = .ok (.aload_n 0, 1) := by decide +kernel
theorem d_He_clean_135 : decode b_He_clean 135 = .ok (.getfield 197, 3) := by decide +kernel
theorem d_He_clean_138 : decode b_He_clean 138 = .ok (.getfield 216, 3) := by decide +kernel
theorem d_He_clean_141 : decode b_He_clean 141 = .ok (.getfield 223, 3) := by decide +kernel
theorem d_He_clean_144 : decode b_He_clean 144 = .ok (.iconst 0, 1) := by decide +kernel
theorem d_He_clean_145 : decode b_He_clean 145 = .ok (.aload_n 0, 1) := by decide +kernel
theorem d_He_clean_146 : decode b_He_clean 146 = .ok (.getfield 197, 3) := by decide +kernel
theorem d_He_clean_149 : decode b_He_clean 149 = .ok (.getfield 216, 3) := by decide +kernel
theorem d_He_clean_152 : decode b_He_clean 152 = .ok (.getfield 224, 3) := by decide +kernel
theorem d_He_clean_155 : decode b_He_clean 155 = .ok (.invokevirtual 227, 3) := by decide +kernel
theorem d_He_clean_158 : decode b_He_clean 158 = .ok (.aload_n 0, 1) := by decide +kernel
theorem d_He_clean_159 : decode b_He_clean 159 = .ok (.aload_n 0, 1) := by decide +kernel
theorem d_He_clean_160 : decode b_He_clean 160 = .ok (.getfield 197, 3) := by decide +kernel
theorem d_He_clean_163 : decode b_He_clean 163 = .ok (.getfield 231, 3) := by decide +kernel
theorem d_He_clean_166 : decode b_He_clean 166 = .ok (.getfield 220, 3) := by decide +kernel
theorem d_He_clean_169 : decode b_He_clean 169 = .ok (.aload_n 0, 1) := by decide +kernel
theorem d_He_clean_170 : decode b_He_clean 170 = .ok (.getfield 197, 3) := by decide +kernel
theorem d_He_clean_173 : decode b_He_clean 173 = .ok (.getfield 231, 3) := by decide +kernel
theorem d_He_clean_176 : decode b_He_clean 176 = .ok (.getfield 223, 3) := by decide +kernel
theorem d_He_clean_179 : decode b_He_clean 179 = .ok (.iconst 0, 1) := by decide +kernel
theorem d_He_clean_180 : decode b_He_clean 180 = .ok (.aload_n 0, 1) := by decide +kernel
theorem d_He_clean_181 : decode b_He_clean 181 = .ok (.getfield 197, 3) := by decide +kernel
theorem d_He_clean_184 : decode b_He_clean 184 = .ok (.getfield 231, 3) := by decide +kernel
theorem d_He_clean_187 : decode b_He_clean 187 = .ok (.getfield 224, 3) := by decide +kernel
theorem d_He_clean_190 : decode b_He_clean 190 = .ok (.invokevirtual 227, 3) := by decide +kernel
theorem d_He_clean_193 : decode b_He_clean 193 = .ok (.aload_n 0, 1) := by decide +kernel
theorem d_He_clean_194 : decode b_He_clean 194 = .ok (.aload_n 0, 1) := by decide +kernel
theorem d_He_clean_195 : decode b_He_clean 195 = .ok (.getfield 197, 3) := by decide +kernel
theorem d_He_clean_198 : decode b_He_clean 198 = .ok (.getfield 234, 3) := by decide +kernel
theorem d_He_clean_201 : decode b_He_clean 201 = .ok (.getfield 220, 3) := by decide +kernel
theorem d_He_clean_204 : decode b_He_clean 204 = .ok (.aload_n 0, 1) := by decide +kernel
theorem d_He_clean_205 : decode b_He_clean 205 = .ok (.getfield 197, 3) := by decide +kernel
theorem d_He_clean_208 : decode b_He_clean 208 = .ok (.getfield 234, 3) := by decide +kernel
theorem d_He_clean_211 : decode b_He_clean 211 = .ok (.getfield 223, 3) := by decide +kernel
theorem d_He_clean_214 : decode b_He_clean 214 = .ok (.iconst 0, 1) := by decide +kernel
theorem d_He_clean_215 : decode b_He_clean 215 = .ok (.aload_n 0, 1) := by decide +kernel
theorem d_He_clean_216 : decode b_He_clean 216 = .ok (.getfield 197, 3) := by decide +kernel
theorem d_He_clean_219 : decode b_He_clean 219 = .ok (.getfield 234, 3) := by decide +kernel
theorem d_He_clean_222 : decode b_He_clean 222 = .ok (.getfield 224, 3) := by decide +kernel
theorem d_He_clean_225 : decode b_He_clean 225 = .ok (.invokevirtual 227, 3) := by decide +kernel
theorem d_He_clean_228 : decode b_He_clean 228 = .ok (.iconst 0, 1) := by decide +kernel
theorem d_He_clean_229 : decode b_He_clean 229 = .ok (.istore_n 2, 1) := by decide +kernel
theorem d_He_clean_230 : decode b_He_clean 230 = .ok (.aload_n 0, 1) := by decide +kernel
theorem d_He_clean_231 : decode b_He_clean 231 = .ok (.getfield 194, 3) := by decide +kernel
theorem d_He_clean_234 : decode b_He_clean 234 = .ok (.ifCond .le 71, 3) := by decide +kernel
theorem d_He_clean_237 : decode b_He_clean 237 = .ok (.iload_n 2, 1) := by decide +kernel
theorem d_He_clean_238 : decode b_He_clean 238 = .ok (.sipush 4000, 3) := by decide +kernel
theorem d_He_clean_241 : decode b_He_clean 241 = .ok (.if_icmp .ge 64, 3) := by decide +kernel
theorem d_He_clean_244 : decode b_He_clean 244 = .ok (.aload_n 0, 1) := by decide +kernel
theorem d_He_clean_245 : decode b_He_clean 245 = .ok (.dup, 1) := by decide +kernel
theorem d_He_clean_246 : decode b_He_clean 246 = .ok (.getfield 194, 3) := by decide +kernel
theorem d_He_clean_249 : decode b_He_clean 249 = .ok (.iconst 1, 1) := by decide +kernel
theorem d_He_clean_250 : decode b_He_clean 250 = .ok (.isub, 1) := by decide +kernel
theorem d_He_clean_251 : decode b_He_clean 251 = .ok (.putfield 194, 3) := by decide +kernel
theorem d_He_clean_254 : decode b_He_clean 254 = .ok (.aload_n 0, 1) := by decide +kernel
theorem d_He_clean_255 : decode b_He_clean 255 = .ok (.getfield 11, 3) := by decide +kernel
theorem d_He_clean_258 : decode b_He_clean 258 = .ok (.aload_n 0, 1) := by decide +kernel
theorem d_He_clean_259 : decode b_He_clean 259 = .ok (.getfield 40, 3) := by decide +kernel
theorem d_He_clean_262 : decode b_He_clean 262 = .ok (.aload_n 0, 1) := by decide +kernel
theorem d_He_clean_263 : decode b_He_clean 263 = .ok (.getfield 194, 3) := by decide +kernel
theorem d_He_clean_266 : decode b_He_clean 266 = .ok (.iaload, 1) := by decide +kernel
theorem d_He_clean_267 : decode b_He_clean 267 = .ok (.aaload, 1) := by decide +kernel
theorem d_He_clean_268 : decode b_He_clean 268 = .ok (.astore_n 3, 1) := by decide +kernel
theorem d_He_clean_269 : decode b_He_clean 269 = .ok (.aload_n 3, 1) := by decide +kernel
theorem d_He_clean_270 : decode b_He_clean 270 = .ok (.getfield 83, 3) := by decide +kernel
theorem d_He_clean_273 : decode b_He_clean 273 = .ok (.bipush 7, 2) := by decide +kernel
theorem d_He_clean_275 : decode b_He_clean 275 = .ok (.if_icmp .ne 19, 3) := by decide +kernel
theorem d_He_clean_278 : decode b_He_clean 278 = .ok (.aload_n 0, 1) := by decide +kernel
theorem d_He_clean_279 : decode b_He_clean 279 = .ok (.aload_n 0, 1) := by decide +kernel
theorem d_He_clean_280 : decode b_He_clean 280 = .ok (.getfield 29, 3) := by decide +kernel
theorem d_He_clean_283 : decode b_He_clean 283 = .ok (.aload_n 3, 1) := by decide +kernel
theorem d_He_clean_284 : decode b_He_clean 284 = .ok (.getfield 97, 3) := by decide +kernel
theorem d_He_clean_287 : decode b_He_clean 287 = .ok (.aaload, 1) := by decide +kernel
theorem d_He_clean_288 : decode b_He_clean 288 = .ok (.invokevirtual 237, 3) := by decide +kernel
theorem d_He_clean_291 : decode b_He_clean 291 = .ok (.goto 8, 3) := by decide +kernel
theorem d_He_clean_294 : decode b_He_clean 294 = .ok (.aload_n 0, 1) := by decide +kernel
theorem d_He_clean_295 : decode b_He_clean 295 = .ok (.aload_n 3, 1) := by decide +kernel
theorem d_He_clean_296 : decode b_He_clean 296 = .ok (.invokevirtual 241, 3) := by decide +kernel
theorem d_He_clean_299 : decode b_He_clean 299 = .ok (.iinc 2 1, 3) := by decide +kernel
theorem d_He_clean_302 : decode b_He_clean 302 = .ok (.goto (-72), 3) := by decide +kernel
theorem d_He_clean_305 : decode b_He_clean 305 = .ok (.aload_n 0, 1) := by decide +kernel
theorem d_He_clean_306 : decode b_He_clean 306 = .ok (.invokevirtual 245, 3) := by decide +kernel
theorem d_He_clean_309 : decode b_He_clean 309 = .ok (.return_, 1) := by decide +kernel
theorem kw_1233 : Cond.fieldLink R_He 89 "LuaMachine$Thing" "stays" "Z" ∈ wA := kinm (show _ ∈ tables_1 from (List.mem_append_right _ (List.mem_append_right _ (List.mem_append_right _ (List.mem_append_right _ (List.mem_append_left _ (List.mem_of_getElem? (l := tables_1_5) (i := 177) (by decide +kernel)))))))) (by decide +kernel)
theorem kw_1234 : Cond.fieldLink R_He 201 "LuaMachine$Machine" "globals" "I" ∈ wA := kinm (show _ ∈ tables_1 from (List.mem_append_right _ (List.mem_append_left _ (List.mem_of_getElem? (l := tables_1_2) (i := 78) (by decide +kernel))))) (by decide +kernel)
theorem kw_1235 : Cond.fieldLink R_He 209 "LuaMachine$Machine" "current" "LLuaMachine$Coroutine;" ∈ wA := kinm (show _ ∈ tables_1 from (List.mem_append_right _ (List.mem_append_left _ (List.mem_of_getElem? (l := tables_1_2) (i := 83) (by decide +kernel))))) (by decide +kernel)
theorem kw_1236 : Cond.fieldLink R_He 213 "LuaMachine$Coroutine" "resumer" "I" ∈ wA := kinm (show _ ∈ tables_1 from (List.mem_append_right _ (List.mem_append_right _ (List.mem_append_right _ (List.mem_append_right _ (List.mem_append_right _ (List.mem_append_left _ (List.mem_of_getElem? (l := tables_1_6) (i := 172) (by decide +kernel))))))))) (by decide +kernel)
theorem kw_1237 : Cond.fieldLink R_He 216 "LuaMachine$Machine" "last" "LLuaMachine$Row;" ∈ wA := kinm (show _ ∈ tables_1 from (List.mem_append_right _ (List.mem_append_left _ (List.mem_of_getElem? (l := tables_1_2) (i := 71) (by decide +kernel))))) (by decide +kernel)
theorem kw_1238 : Cond.fieldLink R_He 220 "LuaMachine$Row" "kinds" "[B" ∈ wA := kinm (show _ ∈ tables_1 from (List.mem_append_right _ (List.mem_append_left _ (List.mem_of_getElem? (l := tables_1_2) (i := 28) (by decide +kernel))))) (by decide +kernel)
theorem kw_1239 : Cond.fieldLink R_He 223 "LuaMachine$Row" "values" "[J" ∈ wA := kinm (show _ ∈ tables_1 from (List.mem_append_right _ (List.mem_append_left _ (List.mem_of_getElem? (l := tables_1_2) (i := 34) (by decide +kernel))))) (by decide +kernel)
theorem kw_1240 : Cond.fieldLink R_He 224 "LuaMachine$Row" "size" "I" ∈ wA := kinm (show _ ∈ tables_1 from (List.mem_append_right _ (List.mem_append_left _ (List.mem_of_getElem? (l := tables_1_2) (i := 41) (by decide +kernel))))) (by decide +kernel)
theorem kw_1241 : Cond.methodLink R_He 227 y_He_reachRow ∈ wA := kinm (show _ ∈ tables_1 from (List.mem_append_right _ (List.mem_append_right _ (List.mem_append_right _ (List.mem_append_right _ (List.mem_append_left _ (List.mem_of_getElem? (l := tables_1_5) (i := 135) (by decide +kernel)))))))) (by decide +kernel)
theorem kw_1242 : Cond.fieldLink R_He 231 "LuaMachine$Machine" "open" "LLuaMachine$Row;" ∈ wA := kinm (show _ ∈ tables_1 from (List.mem_append_right _ (List.mem_append_left _ (List.mem_of_getElem? (l := tables_1_2) (i := 66) (by decide +kernel))))) (by decide +kernel)
theorem kw_1243 : Cond.fieldLink R_He 234 "LuaMachine$Machine" "args" "LLuaMachine$Row;" ∈ wA := kinm (show _ ∈ tables_1 from (List.mem_append_right _ (List.mem_append_left _ (List.mem_of_getElem? (l := tables_1_2) (i := 61) (by decide +kernel))))) (by decide +kernel)
theorem kw_1244 : Cond.methodLink R_He 241 y_He_reachFrom ∈ wA := kinm (show _ ∈ tables_1 from (List.mem_append_right _ (List.mem_append_right _ (List.mem_append_right _ (List.mem_append_right _ (List.mem_append_left _ (List.mem_of_getElem? (l := tables_1_5) (i := 143) (by decide +kernel)))))))) (by decide +kernel)
theorem kw_1245 : Cond.methodLink R_He 237 y_He_reachFromCoroutine ∈ wA := kinm (show _ ∈ tables_1 from (List.mem_append_right _ (List.mem_append_right _ (List.mem_append_right _ (List.mem_append_right _ (List.mem_append_left _ (List.mem_of_getElem? (l := tables_1_5) (i := 139) (by decide +kernel)))))))) (by decide +kernel)
theorem kw_1246 : Cond.methodLink R_He 245 y_He_sweep ∈ wA := kinm (show _ ∈ tables_1 from (List.mem_append_right _ (List.mem_append_right _ (List.mem_append_right _ (List.mem_append_right _ (List.mem_append_left _ (List.mem_of_getElem? (l := tables_1_5) (i := 147) (by decide +kernel)))))))) (by decide +kernel)
theorem kw_1247 : Cond.instanceMethod y_He_clean ∈ wA := kinm (show _ ∈ tables_1 from (List.mem_append_right _ (List.mem_append_right _ (List.mem_append_right _ (List.mem_append_right _ (List.mem_append_left _ (List.mem_of_getElem? (l := tables_1_5) (i := 128) (by decide +kernel)))))))) (by decide +kernel)
theorem kw_1248 : Cond.selects R_He y_He_clean y_He_clean ∈ wA := kinm (show _ ∈ tables_1 from (List.mem_append_right _ (List.mem_append_right _ (List.mem_append_right _ (List.mem_append_right _ (List.mem_append_left _ (List.mem_of_getElem? (l := tables_1_5) (i := 129) (by decide +kernel)))))))) (by decide +kernel)
theorem cv_He_clean : CV y_He_clean b_He_clean 4 none 0 := ⟨kw_1247, kw_1248, kw_712, k_He_clean, by decide +kernel⟩
theorem lp_He_clean_L12 {X : Cx} {q : PL} (g : Gd X y_He_clean b_He_clean 4 none 2 49 R_He) (x : Int32) (s : S1) (o : ((Int32) ⊕ ((Unit))) × S1) (h : M_He_clean_L12 x s = some o) (hR : (Sum.elim (fun y : Int32 => ∀ ls : Array Slot, lv_has ls 4 [(0, .ref (q.1 111 0)), (1, .int y)] → WW X q o.2 12 ls []) (fun y : Unit => ∀ ls : Array Slot, lv_has ls 4 [(0, .ref (q.1 111 0))] → WW X q o.2 44 ls []) o.1)) : ∀ ls : Array Slot, lv_has ls 4 [(0, .ref (q.1 111 0)), (1, .int x)] → WW X q s 12 ls [] := by
  intro ls hl
  unfold M_He_clean_L12 at h
  refine ww_iload_n (pc := 12) g.1 d_He_clean_12 rfl (lv_at hl 1 rfl) ?_
  refine ww_aload_n (pc := 13) g.1 d_He_clean_13 rfl (lv_at hl 0 rfl) ?_
  refine ww_gI (pc := 14) g (k := 1) cl_He (pz rfl (by decide)) (by decide) (Or.inl kw_702) (f := 14209) rfl rfl d_He_clean_14 h fun v14 h => ?_
  refine ww_icmp_ge (pc := 17) (tgt := 44) g.1 d_He_clean_17 (by decide) h (fun c h => ?_) (fun c h => ?_)
  · rw [oR_eq h] at hR
    exact hR ls (lv_sub hl [0] rfl)
  · refine ww_aload_n (pc := 20) g.1 d_He_clean_20 rfl (lv_at hl 0 rfl) ?_
    refine ww_gR (pc := 21) g (k := 0) cl_He (pz rfl (by decide)) (by decide) (Or.inl kw_725) (f := 14208) (t := 112) rfl rfl rfl d_He_clean_21 ?_
    refine ww_iload_n (pc := 24) g.1 d_He_clean_24 rfl (lv_at hl 1 rfl) ?_
    refine ww_a8 (pc := 25) g (t := 145) (n := 4000) (pz rfl (by decide)) rfl rfl rfl rfl d_He_clean_25 h fun pa25 h => ?_
    refine ww_aload_n (pc := 26) g.1 d_He_clean_26 rfl (lv_at hl 0 rfl) ?_
    refine ww_gR (pc := 27) g (k := 0) cl_He (pz rfl (by decide)) (by decide) (Or.inl kw_725) (f := 14208) (t := 112) rfl rfl rfl d_He_clean_27 ?_
    refine ww_iload_n (pc := 30) g.1 d_He_clean_30 rfl (lv_at hl 1 rfl) ?_
    refine ww_a8 (pc := 31) g (t := 145) (n := 4000) (pz rfl (by decide)) rfl rfl rfl rfl d_He_clean_31 h fun pa31 h => ?_
    refine ww_gI (pc := 32) g (k := 3) cl_Tg pa31 (by decide) (Or.inl kw_1233) (f := 18563) rfl rfl d_He_clean_32 h fun v32 h => ?_
    refine ww_ok h fun cz h => ?_
    refine ww_pI (pc := 35) g (k := 2) cl_Tg pa31 (by decide) (Or.inl kw_726) rfl (f := 18562) rfl rfl (nz cz) (nzf cz) d_He_clean_35 h fun s hs h => ?_
    refine ww_iinc (pc := 38) g.1 (v := x + 1) (lv' := [(1, .int (x + 1)), (0, .ref (q.1 111 0))]) d_He_clean_38 hl (k := 1) rfl (by rfl) (by decide) rfl fun ls hl => ?_
    refine ww_goto (pc := 41) (tgt := 12) g.1 d_He_clean_41 (by decide) ?_
    rw [oR_eq h] at hR
    exact hR ls (lv_sub hl [1, 0] rfl)

theorem lp_He_clean_L72 {X : Cx} {q : PL} (g : Gd X y_He_clean b_He_clean 4 none 2 49 R_He) (x : Int32 × Int32) (s : S1) (o : ((Int32 × Int32) ⊕ ((Int32))) × S1) (h : M_He_clean_L72 x s = some o) (hR : (Sum.elim (fun y : Int32 × Int32 => ∀ ls : Array Slot, (prs o.2 148 y.1) → lv_has ls 4 [(0, .ref (q.1 111 0)), (1, .ref (q.1 148 y.1)), (2, .int y.2)] → WW X q o.2 72 ls []) (fun y : Int32 => ∀ ls : Array Slot, (prs o.2 148 y) → lv_has ls 4 [(0, .ref (q.1 111 0)), (1, .ref (q.1 148 y))] → WW X q o.2 112 ls []) o.1)) : ∀ ls : Array Slot, (prs s 148 x.1) → lv_has ls 4 [(0, .ref (q.1 111 0)), (1, .ref (q.1 148 x.1)), (2, .int x.2)] → WW X q s 72 ls [] := by
  intro ls hp0 hl
  unfold M_He_clean_L72 at h
  refine ww_iload_n (pc := 72) g.1 d_He_clean_72 rfl (lv_at hl 2 rfl) ?_
  refine ww_bipush (pc := 73) g.1 (v := 32) d_He_clean_73 (by decide) ?_
  refine ww_icmp_ge (pc := 75) (tgt := 112) g.1 d_He_clean_75 (by decide) h (fun c h => ?_) (fun c h => ?_)
  · rw [oR_eq h] at hR
    exact hR ls hp0 (lv_sub hl [0, 1] rfl)
  · refine ww_aload_n (pc := 78) g.1 d_He_clean_78 rfl (lv_at hl 1 rfl) ?_
    refine ww_gI (pc := 79) g (k := 11) cl_Co hp0 (by decide) (Or.inl kw_1236) (f := 18955) rfl rfl d_He_clean_79 h fun v79 h => ?_
    refine ww_if_lt (pc := 82) (tgt := 112) g.1 d_He_clean_82 (by decide) h (fun c h => ?_) (fun c h => ?_)
    · rw [oR_eq h] at hR
      exact hR ls hp0 (lv_sub hl [0, 1] rfl)
    · refine ww_aload_n (pc := 85) g.1 d_He_clean_85 rfl (lv_at hl 0 rfl) ?_
      refine ww_bipush (pc := 86) g.1 (v := 7) d_He_clean_86 (by decide) ?_
      refine ww_aload_n (pc := 88) g.1 d_He_clean_88 rfl (lv_at hl 1 rfl) ?_
      refine ww_gI (pc := 89) g (k := 6) cl_Co hp0 (by decide) (Or.inl kw_709) (f := 18950) rfl rfl d_He_clean_89 h fun v89 h => ?_
      refine ww_i2l (pc := 92) g.1 (v := v89.toInt64) d_He_clean_92 rfl ?_
      refine ww_lo fun dlo => ?_
      obtain ⟨v93, s, hc93, h⟩ := oB_of h
      refine ww_callV (pc := 93) (rest := []) g cv_He_reach (Or.inl kw_731) cl_He (pz rfl (by decide)) (ct_He_reach hc93) ⟨by decide, by decide⟩ rfl hl.1 (Nat.le_of_ble_eq_true rfl) d_He_clean_93 rfl (?_)
      refine ww_st (st' := []) rfl ?_
      refine ww_hi fun dhi => ?_
      have hp0 : prs s 148 x.1 := dhi _ _ hp0.2.1 hp0.2.2 (dlo _ _ hp0)
      refine ww_aload_n (pc := 96) g.1 d_He_clean_96 rfl (lv_at hl 0 rfl) ?_
      refine ww_gR (pc := 97) g (k := 6) cl_He (pz rfl (by decide)) (by decide) (Or.inl kw_708) (f := 14214) (t := 116) rfl rfl rfl d_He_clean_97 ?_
      refine ww_aload_n (pc := 100) g.1 d_He_clean_100 rfl (lv_at hl 1 rfl) ?_
      refine ww_gI (pc := 101) g (k := 11) cl_Co hp0 (by decide) (Or.inl kw_1236) (f := 18955) rfl rfl d_He_clean_101 h fun v101 h => ?_
      refine ww_a8 (pc := 104) g (t := 148) (n := 32) (pz rfl (by decide)) rfl rfl rfl rfl d_He_clean_104 h fun pa104 h => ?_
      refine ww_astore_n (pc := 105) (i := 1) g.1 (lv' := [(1, .ref (q.1 148 v101)), (0, .ref (q.1 111 0)), (2, .int x.2)]) d_He_clean_105 rfl hl (by decide) rfl fun ls hl => ?_
      refine ww_iinc (pc := 106) g.1 (v := x.2 + 1) (lv' := [(2, .int (x.2 + 1)), (1, .ref (q.1 148 v101)), (0, .ref (q.1 111 0))]) d_He_clean_106 hl (k := 2) rfl (by rfl) (by decide) rfl fun ls hl => ?_
      refine ww_goto (pc := 109) (tgt := 72) g.1 d_He_clean_109 (by decide) ?_
      rw [oR_eq h] at hR
      exact hR ls pa104 (lv_sub hl [2, 1, 0] rfl)

theorem j_He_clean_j299 {X : Cx} {q : PL} (g : Gd X y_He_clean b_He_clean 4 none 2 49 R_He) {o : ((Int32) ⊕ ((Unit))) × S1} (hR : (Sum.elim (fun y : Int32 => ∀ ls : Array Slot, lv_has ls 4 [(0, .ref (q.1 111 0)), (2, .int y)] → WW X q o.2 230 ls []) (fun y : Unit => ∀ ls : Array Slot, lv_has ls 4 [(0, .ref (q.1 111 0))] → WW X q o.2 305 ls []) o.1)) (l2 : Int32) (s : S1) (ls : Array Slot) (hl : lv_has ls 4 [(0, .ref (q.1 111 0)), (2, .int l2)]) (h : M_He_clean_j299 l2 s = some o) : WW X q s 299 ls [] := by
  unfold M_He_clean_j299 at h
  refine ww_iinc (pc := 299) g.1 (v := l2 + 1) (lv' := [(2, .int (l2 + 1)), (0, .ref (q.1 111 0))]) d_He_clean_299 hl (k := 1) rfl (by rfl) (by decide) rfl fun ls hl => ?_
  refine ww_goto (pc := 302) (tgt := 230) g.1 d_He_clean_302 (by decide) ?_
  rw [oR_eq h] at hR
  exact hR ls (lv_sub hl [1, 0] rfl)

theorem lp_He_clean_L230 {X : Cx} {q : PL} (g : Gd X y_He_clean b_He_clean 4 none 2 49 R_He) (x : Int32) (s : S1) (o : ((Int32) ⊕ ((Unit))) × S1) (h : M_He_clean_L230 x s = some o) (hR : (Sum.elim (fun y : Int32 => ∀ ls : Array Slot, lv_has ls 4 [(0, .ref (q.1 111 0)), (2, .int y)] → WW X q o.2 230 ls []) (fun y : Unit => ∀ ls : Array Slot, lv_has ls 4 [(0, .ref (q.1 111 0))] → WW X q o.2 305 ls []) o.1)) : ∀ ls : Array Slot, lv_has ls 4 [(0, .ref (q.1 111 0)), (2, .int x)] → WW X q s 230 ls [] := by
  intro ls hl
  unfold M_He_clean_L230 at h
  refine ww_aload_n (pc := 230) g.1 d_He_clean_230 rfl (lv_at hl 0 rfl) ?_
  refine ww_gI (pc := 231) g (k := 11) cl_He (pz rfl (by decide)) (by decide) (Or.inl kw_728) (f := 14219) rfl rfl d_He_clean_231 h fun v231 h => ?_
  refine ww_if_le (pc := 234) (tgt := 305) g.1 d_He_clean_234 (by decide) h (fun c h => ?_) (fun c h => ?_)
  · rw [oR_eq h] at hR
    exact hR ls (lv_sub hl [0] rfl)
  · refine ww_iload_n (pc := 237) g.1 d_He_clean_237 rfl (lv_at hl 1 rfl) ?_
    refine ww_sipush (pc := 238) g.1 (v := 4000) d_He_clean_238 (by decide) ?_
    refine ww_icmp_ge (pc := 241) (tgt := 305) g.1 d_He_clean_241 (by decide) h (fun c h => ?_) (fun c h => ?_)
    · rw [oR_eq h] at hR
      exact hR ls (lv_sub hl [0] rfl)
    · refine ww_aload_n (pc := 244) g.1 d_He_clean_244 rfl (lv_at hl 0 rfl) ?_
      refine ww_dup (pc := 245) g.1 d_He_clean_245 rfl ?_
      refine ww_gI (pc := 246) g (k := 11) cl_He (pz rfl (by decide)) (by decide) (Or.inl kw_728) (f := 14219) rfl rfl d_He_clean_246 h fun v246 h => ?_
      refine ww_iconst (pc := 249) g.1 (v := 1) d_He_clean_249 (by decide) ?_
      refine ww_isub (pc := 250) g.1 d_He_clean_250 ?_
      refine ww_pI (pc := 251) g (k := 11) cl_He (pz rfl (by decide)) (by decide) (Or.inl kw_728) rfl (f := 14219) rfl rfl rfl rfl d_He_clean_251 h fun s hs h => ?_
      refine ww_aload_n (pc := 254) g.1 d_He_clean_254 rfl (lv_at hl 0 rfl) ?_
      refine ww_gR (pc := 255) g (k := 0) cl_He (pz rfl (by decide)) (by decide) (Or.inl kw_725) (f := 14208) (t := 112) rfl rfl rfl d_He_clean_255 ?_
      refine ww_aload_n (pc := 258) g.1 d_He_clean_258 rfl (lv_at hl 0 rfl) ?_
      refine ww_gR (pc := 259) g (k := 10) cl_He (pz rfl (by decide)) (by decide) (Or.inl kw_727) (f := 14218) (t := 119) rfl rfl rfl d_He_clean_259 ?_
      refine ww_aload_n (pc := 262) g.1 d_He_clean_262 rfl (lv_at hl 0 rfl) ?_
      refine ww_gI (pc := 263) g (k := 11) cl_He (pz rfl (by decide)) (by decide) (Or.inl kw_728) (f := 14219) rfl rfl d_He_clean_263 h fun v263 h => ?_
      refine ww_ai (pc := 266) g (pz rfl (by decide)) rfl rfl d_He_clean_266 h fun v266 h => ?_
      refine ww_a8 (pc := 267) g (t := 145) (n := 4000) (pz rfl (by decide)) rfl rfl rfl rfl d_He_clean_267 h fun pa267 h => ?_
      refine ww_astore_n (pc := 268) (i := 3) g.1 (lv' := [(3, .ref (q.1 145 v266)), (0, .ref (q.1 111 0)), (2, .int x)]) d_He_clean_268 rfl hl (by decide) rfl fun ls hl => ?_
      refine ww_aload_n (pc := 269) g.1 d_He_clean_269 rfl (lv_at hl 0 rfl) ?_
      refine ww_gI (pc := 270) g (k := 0) cl_Tg pa267 (by decide) (Or.inl kw_747) (f := 18560) rfl rfl d_He_clean_270 h fun v270 h => ?_
      refine ww_bipush (pc := 273) g.1 (v := 7) d_He_clean_273 (by decide) ?_
      refine ww_icmp_ne (pc := 275) (tgt := 294) g.1 d_He_clean_275 (by decide) h (fun c h => ?_) (fun c h => ?_)
      · refine ww_aload_n (pc := 294) g.1 d_He_clean_294 rfl (lv_at hl 1 rfl) ?_
        refine ww_aload_n (pc := 295) g.1 d_He_clean_295 rfl (lv_at hl 0 rfl) ?_
        refine ww_lo fun dlo => ?_
        obtain ⟨v296, s, hc296, h⟩ := oB_of h
        refine ww_callV (pc := 296) (rest := []) g cv_He_reachFrom (Or.inl kw_1244) cl_He (pz rfl (by decide)) (ct_He_reachFrom pa267 hc296) ⟨by decide, by decide⟩ rfl hl.1 (Nat.le_of_ble_eq_true rfl) d_He_clean_296 rfl (?_)
        refine ww_st (st' := []) rfl ?_
        refine ww_hi fun dhi => ?_
        have pa267 : prs s 145 v266 := dhi _ _ pa267.2.1 pa267.2.2 (dlo _ _ pa267)
        exact j_He_clean_j299 g hR x s ls (lv_sub hl [1, 2] rfl) h
      · refine ww_aload_n (pc := 278) g.1 d_He_clean_278 rfl (lv_at hl 1 rfl) ?_
        refine ww_aload_n (pc := 279) g.1 d_He_clean_279 rfl (lv_at hl 1 rfl) ?_
        refine ww_gR (pc := 280) g (k := 6) cl_He (pz rfl (by decide)) (by decide) (Or.inl kw_708) (f := 14214) (t := 116) rfl rfl rfl d_He_clean_280 ?_
        refine ww_aload_n (pc := 283) g.1 d_He_clean_283 rfl (lv_at hl 0 rfl) ?_
        refine ww_gI (pc := 284) g (k := 4) cl_Tg pa267 (by decide) (Or.inl kw_759) (f := 18564) rfl rfl d_He_clean_284 h fun v284 h => ?_
        refine ww_a8 (pc := 287) g (t := 148) (n := 32) (pz rfl (by decide)) rfl rfl rfl rfl d_He_clean_287 h fun pa287 h => ?_
        refine ww_lo fun dlo => ?_
        obtain ⟨v288, s, hc288, h⟩ := oB_of h
        refine ww_callV (pc := 288) (rest := []) g cv_He_reachFromCoroutine (Or.inl kw_1245) cl_He (pz rfl (by decide)) (ct_He_reachFromCoroutine pa287 hc288) ⟨by decide, by decide⟩ rfl hl.1 (Nat.le_of_ble_eq_true rfl) d_He_clean_288 rfl (?_)
        refine ww_st (st' := []) rfl ?_
        refine ww_hi fun dhi => ?_
        have pa267 : prs s 145 v266 := dhi _ _ pa267.2.1 pa267.2.2 (dlo _ _ pa267)
        refine ww_goto (pc := 291) (tgt := 299) g.1 d_He_clean_291 (by decide) ?_
        exact j_He_clean_j299 g hR x s ls (lv_sub hl [1, 2] rfl) h

theorem j_He_clean_j305 {X : Cx} {q : PL} (g : Gd X y_He_clean b_He_clean 4 none 2 49 R_He) {o : (Unit) × S1} (hR : Rt X q o.2 none)  (s : S1) (ls : Array Slot) (hl : lv_has ls 4 [(0, .ref (q.1 111 0))]) (h : M_He_clean_j305 s = some o) : WW X q s 305 ls [] := by
  unfold M_He_clean_j305 at h
  refine ww_aload_n (pc := 305) g.1 d_He_clean_305 rfl (lv_at hl 0 rfl) ?_
  obtain ⟨v306, s, hc306, h⟩ := oB_of h
  refine ww_callV (pc := 306) (rest := []) g cv_He_sweep (Or.inl kw_1246) cl_He (pz rfl (by decide)) (ct_He_sweep hc306) ⟨by decide, by decide⟩ rfl hl.1 (Nat.le_of_ble_eq_true rfl) d_He_clean_306 rfl (?_)
  refine ww_st (st' := []) rfl ?_
  exact ww_vretH (pc := 309) g h hR d_He_clean_309

theorem j_He_clean_j112 {X : Cx} {q : PL} (g : Gd X y_He_clean b_He_clean 4 none 2 49 R_He) {o : (Unit) × S1} (hR : Rt X q o.2 none) (l1 : Int32) (s : S1) (hp0 : prs s 148 l1) (ls : Array Slot) (hl : lv_has ls 4 [(0, .ref (q.1 111 0)), (1, .ref (q.1 148 l1))]) (h : M_He_clean_j112 l1 s = some o) : WW X q s 112 ls [] := by
  unfold M_He_clean_j112 at h
  refine ww_aload_n (pc := 112) g.1 d_He_clean_112 rfl (lv_at hl 0 rfl) ?_
  refine ww_bipush (pc := 113) g.1 (v := 7) d_He_clean_113 (by decide) ?_
  refine ww_aload_n (pc := 115) g.1 d_He_clean_115 rfl (lv_at hl 1 rfl) ?_
  refine ww_gI (pc := 116) g (k := 6) cl_Co hp0 (by decide) (Or.inl kw_709) (f := 18950) rfl rfl d_He_clean_116 h fun v116 h => ?_
  refine ww_i2l (pc := 119) g.1 (v := v116.toInt64) d_He_clean_119 rfl ?_
  refine ww_lo fun dlo => ?_
  obtain ⟨v120, s, hc120, h⟩ := oB_of h
  refine ww_callV (pc := 120) (rest := []) g cv_He_reach (Or.inl kw_731) cl_He (pz rfl (by decide)) (ct_He_reach hc120) ⟨by decide, by decide⟩ rfl hl.1 (Nat.le_of_ble_eq_true rfl) d_He_clean_120 rfl (?_)
  refine ww_st (st' := []) rfl ?_
  refine ww_hi fun dhi => ?_
  have hp0 : prs s 148 l1 := dhi _ _ hp0.2.1 hp0.2.2 (dlo _ _ hp0)
  refine ww_aload_n (pc := 123) g.1 d_He_clean_123 rfl (lv_at hl 0 rfl) ?_
  refine ww_aload_n (pc := 124) g.1 d_He_clean_124 rfl (lv_at hl 0 rfl) ?_
  refine ww_gR (pc := 125) g (k := 15) cl_He (pz rfl (by decide)) (by decide) (Or.inl kw_756) (f := 14223) (t := 128) rfl rfl rfl d_He_clean_125 ?_
  refine ww_gR (pc := 128) g (k := 7) cl_Ma (pz rfl (by decide)) (by decide) (Or.inl kw_1237) (f := 16391) (t := 141) rfl rfl rfl d_He_clean_128 ?_
  refine ww_gR (pc := 131) g (k := 0) (cl_Ro ⟨by decide, rfl⟩) (pz rfl (by decide)) (by decide) (Or.inl kw_1238) (f := 18048) (t := 142) rfl rfl rfl d_He_clean_131 ?_
  refine ww_aload_n (pc := 134) g.1 d_He_clean_134 rfl (lv_at hl 0 rfl) ?_
  refine ww_gR (pc := 135) g (k := 15) cl_He (pz rfl (by decide)) (by decide) (Or.inl kw_756) (f := 14223) (t := 128) rfl rfl rfl d_He_clean_135 ?_
  refine ww_gR (pc := 138) g (k := 7) cl_Ma (pz rfl (by decide)) (by decide) (Or.inl kw_1237) (f := 16391) (t := 141) rfl rfl rfl d_He_clean_138 ?_
  refine ww_gR (pc := 141) g (k := 1) (cl_Ro ⟨by decide, rfl⟩) (pz rfl (by decide)) (by decide) (Or.inl kw_1239) (f := 18049) (t := 143) rfl rfl rfl d_He_clean_141 ?_
  refine ww_iconst (pc := 144) g.1 (v := 0) d_He_clean_144 (by decide) ?_
  refine ww_aload_n (pc := 145) g.1 d_He_clean_145 rfl (lv_at hl 0 rfl) ?_
  refine ww_gR (pc := 146) g (k := 15) cl_He (pz rfl (by decide)) (by decide) (Or.inl kw_756) (f := 14223) (t := 128) rfl rfl rfl d_He_clean_146 ?_
  refine ww_gR (pc := 149) g (k := 7) cl_Ma (pz rfl (by decide)) (by decide) (Or.inl kw_1237) (f := 16391) (t := 141) rfl rfl rfl d_He_clean_149 ?_
  refine ww_gI (pc := 152) g (k := 2) (cl_Ro ⟨by decide, rfl⟩) (pz rfl (by decide)) (by decide) (Or.inl kw_1240) (f := 18050) rfl rfl d_He_clean_152 h fun v152 h => ?_
  refine ww_lo fun dlo => ?_
  obtain ⟨v155, s, hc155, h⟩ := oB_of h
  refine ww_callV (pc := 155) (rest := []) g cv_He_reachRow (Or.inl kw_1241) cl_He (pz rfl (by decide)) (ct_He_reachRow rfl (by decide) (pz rfl (by decide)) rfl (by decide) (pz rfl (by decide)) hc155) ⟨by decide, by decide⟩ rfl hl.1 (Nat.le_of_ble_eq_true rfl) d_He_clean_155 rfl (?_)
  refine ww_st (st' := []) rfl ?_
  refine ww_hi fun dhi => ?_
  have hp0 : prs s 148 l1 := dhi _ _ hp0.2.1 hp0.2.2 (dlo _ _ hp0)
  refine ww_aload_n (pc := 158) g.1 d_He_clean_158 rfl (lv_at hl 0 rfl) ?_
  refine ww_aload_n (pc := 159) g.1 d_He_clean_159 rfl (lv_at hl 0 rfl) ?_
  refine ww_gR (pc := 160) g (k := 15) cl_He (pz rfl (by decide)) (by decide) (Or.inl kw_756) (f := 14223) (t := 128) rfl rfl rfl d_He_clean_160 ?_
  refine ww_gR (pc := 163) g (k := 5) cl_Ma (pz rfl (by decide)) (by decide) (Or.inl kw_1242) (f := 16389) (t := 138) rfl rfl rfl d_He_clean_163 ?_
  refine ww_gR (pc := 166) g (k := 0) (cl_Ro ⟨by decide, rfl⟩) (pz rfl (by decide)) (by decide) (Or.inl kw_1238) (f := 17664) (t := 139) rfl rfl rfl d_He_clean_166 ?_
  refine ww_aload_n (pc := 169) g.1 d_He_clean_169 rfl (lv_at hl 0 rfl) ?_
  refine ww_gR (pc := 170) g (k := 15) cl_He (pz rfl (by decide)) (by decide) (Or.inl kw_756) (f := 14223) (t := 128) rfl rfl rfl d_He_clean_170 ?_
  refine ww_gR (pc := 173) g (k := 5) cl_Ma (pz rfl (by decide)) (by decide) (Or.inl kw_1242) (f := 16389) (t := 138) rfl rfl rfl d_He_clean_173 ?_
  refine ww_gR (pc := 176) g (k := 1) (cl_Ro ⟨by decide, rfl⟩) (pz rfl (by decide)) (by decide) (Or.inl kw_1239) (f := 17665) (t := 140) rfl rfl rfl d_He_clean_176 ?_
  refine ww_iconst (pc := 179) g.1 (v := 0) d_He_clean_179 (by decide) ?_
  refine ww_aload_n (pc := 180) g.1 d_He_clean_180 rfl (lv_at hl 0 rfl) ?_
  refine ww_gR (pc := 181) g (k := 15) cl_He (pz rfl (by decide)) (by decide) (Or.inl kw_756) (f := 14223) (t := 128) rfl rfl rfl d_He_clean_181 ?_
  refine ww_gR (pc := 184) g (k := 5) cl_Ma (pz rfl (by decide)) (by decide) (Or.inl kw_1242) (f := 16389) (t := 138) rfl rfl rfl d_He_clean_184 ?_
  refine ww_gI (pc := 187) g (k := 2) (cl_Ro ⟨by decide, rfl⟩) (pz rfl (by decide)) (by decide) (Or.inl kw_1240) (f := 17666) rfl rfl d_He_clean_187 h fun v187 h => ?_
  refine ww_lo fun dlo => ?_
  obtain ⟨v190, s, hc190, h⟩ := oB_of h
  refine ww_callV (pc := 190) (rest := []) g cv_He_reachRow (Or.inl kw_1241) cl_He (pz rfl (by decide)) (ct_He_reachRow rfl (by decide) (pz rfl (by decide)) rfl (by decide) (pz rfl (by decide)) hc190) ⟨by decide, by decide⟩ rfl hl.1 (Nat.le_of_ble_eq_true rfl) d_He_clean_190 rfl (?_)
  refine ww_st (st' := []) rfl ?_
  refine ww_hi fun dhi => ?_
  have hp0 : prs s 148 l1 := dhi _ _ hp0.2.1 hp0.2.2 (dlo _ _ hp0)
  refine ww_aload_n (pc := 193) g.1 d_He_clean_193 rfl (lv_at hl 0 rfl) ?_
  refine ww_aload_n (pc := 194) g.1 d_He_clean_194 rfl (lv_at hl 0 rfl) ?_
  refine ww_gR (pc := 195) g (k := 15) cl_He (pz rfl (by decide)) (by decide) (Or.inl kw_756) (f := 14223) (t := 128) rfl rfl rfl d_He_clean_195 ?_
  refine ww_gR (pc := 198) g (k := 3) cl_Ma (pz rfl (by decide)) (by decide) (Or.inl kw_1243) (f := 16387) (t := 132) rfl rfl rfl d_He_clean_198 ?_
  refine ww_gR (pc := 201) g (k := 0) (cl_Ro ⟨by decide, rfl⟩) (pz rfl (by decide)) (by decide) (Or.inl kw_1238) (f := 16896) (t := 133) rfl rfl rfl d_He_clean_201 ?_
  refine ww_aload_n (pc := 204) g.1 d_He_clean_204 rfl (lv_at hl 0 rfl) ?_
  refine ww_gR (pc := 205) g (k := 15) cl_He (pz rfl (by decide)) (by decide) (Or.inl kw_756) (f := 14223) (t := 128) rfl rfl rfl d_He_clean_205 ?_
  refine ww_gR (pc := 208) g (k := 3) cl_Ma (pz rfl (by decide)) (by decide) (Or.inl kw_1243) (f := 16387) (t := 132) rfl rfl rfl d_He_clean_208 ?_
  refine ww_gR (pc := 211) g (k := 1) (cl_Ro ⟨by decide, rfl⟩) (pz rfl (by decide)) (by decide) (Or.inl kw_1239) (f := 16897) (t := 134) rfl rfl rfl d_He_clean_211 ?_
  refine ww_iconst (pc := 214) g.1 (v := 0) d_He_clean_214 (by decide) ?_
  refine ww_aload_n (pc := 215) g.1 d_He_clean_215 rfl (lv_at hl 0 rfl) ?_
  refine ww_gR (pc := 216) g (k := 15) cl_He (pz rfl (by decide)) (by decide) (Or.inl kw_756) (f := 14223) (t := 128) rfl rfl rfl d_He_clean_216 ?_
  refine ww_gR (pc := 219) g (k := 3) cl_Ma (pz rfl (by decide)) (by decide) (Or.inl kw_1243) (f := 16387) (t := 132) rfl rfl rfl d_He_clean_219 ?_
  refine ww_gI (pc := 222) g (k := 2) (cl_Ro ⟨by decide, rfl⟩) (pz rfl (by decide)) (by decide) (Or.inl kw_1240) (f := 16898) rfl rfl d_He_clean_222 h fun v222 h => ?_
  refine ww_lo fun dlo => ?_
  obtain ⟨v225, s, hc225, h⟩ := oB_of h
  refine ww_callV (pc := 225) (rest := []) g cv_He_reachRow (Or.inl kw_1241) cl_He (pz rfl (by decide)) (ct_He_reachRow rfl (by decide) (pz rfl (by decide)) rfl (by decide) (pz rfl (by decide)) hc225) ⟨by decide, by decide⟩ rfl hl.1 (Nat.le_of_ble_eq_true rfl) d_He_clean_225 rfl (?_)
  refine ww_st (st' := []) rfl ?_
  refine ww_hi fun dhi => ?_
  have hp0 : prs s 148 l1 := dhi _ _ hp0.2.1 hp0.2.2 (dlo _ _ hp0)
  refine ww_iconst (pc := 228) g.1 (v := 0) d_He_clean_228 (by decide) ?_
  refine ww_istore_n (pc := 229) (i := 2) g.1 (lv' := [(2, .int 0), (0, .ref (q.1 111 0)), (1, .ref (q.1 148 l1))]) d_He_clean_229 rfl hl (by decide) rfl fun ls hl => ?_
  obtain ⟨e230, s1, hw, h⟩ := oB_of h
  refine oW_rule (Wh := fun (x : Int32) (s : S1) => ∀ ls : Array Slot, lv_has ls 4 [(0, .ref (q.1 111 0)), (2, .int x)] → WW X q s 230 ls []) (We := fun (e : (Unit)) (s : S1) => ∀ ls : Array Slot, lv_has ls 4 [(0, .ref (q.1 111 0))] → WW X q s 305 ls []) (fun x s o hb hc => lp_He_clean_L230 (q := q) g x s o hb hc) hw ?_ ls (lv_sub hl [1, 0] rfl)
  clear hw hl
  clear ls
  intro ls hl
  generalize s1 = s at h ⊢
  exact j_He_clean_j305 g hR s ls (lv_sub hl [0] rfl) h

theorem ct_He_clean {l : Launch} {P : PP} {q : PL} {s s' : S1}  {r : Unit} (h : M_He_clean s = some (r, s')) : Ct l y_He_clean b_He_clean 4 none 2 49 P q s [.ref (q.1 111 0)] none q s' := by
  refine ct_of (by decide) (Nat.le_of_ble_eq_true rfl) fun X ls eP el g hR hl => ?_
  subst eP
  have hR : Rt X q ((r, s') : Unit × S1).2 none := hR
  have hl : lv_has ls 4 [(0, .ref (q.1 111 0))] := hl
  generalize (r, s') = o at h hR
  unfold M_He_clean at h
  refine ww_aload_n (pc := 0) g.1 d_He_clean_0 rfl (lv_at hl 0 rfl) ?_
  refine ww_gR (pc := 1) g (k := 4) cl_He (pz rfl (by decide)) (by decide) (Or.inl kw_704) (f := 14212) (t := 114) rfl rfl rfl d_He_clean_1 ?_
  refine ww_iconst (pc := 4) g.1 (v := 5) d_He_clean_4 (by decide) ?_
  refine ww_dup2_11 (pc := 5) g.1 d_He_clean_5 rfl rfl ?_
  refine ww_ai (pc := 6) g (pz rfl (by decide)) rfl rfl d_He_clean_6 h fun v6 h => ?_
  refine ww_iconst (pc := 7) g.1 (v := 1) d_He_clean_7 (by decide) ?_
  refine ww_iadd (pc := 8) g.1 d_He_clean_8 ?_
  refine ww_si (pc := 9) g (pz rfl (by decide)) rfl rfl d_He_clean_9 h fun s hs h => ?_
  refine ww_iconst (pc := 10) g.1 (v := 0) d_He_clean_10 (by decide) ?_
  refine ww_istore_n (pc := 11) (i := 1) g.1 (lv' := [(1, .int 0), (0, .ref (q.1 111 0))]) d_He_clean_11 rfl hl (by decide) rfl fun ls hl => ?_
  obtain ⟨e12, s1, hw, h⟩ := oB_of h
  refine oW_rule (Wh := fun (x : Int32) (s : S1) => ∀ ls : Array Slot, lv_has ls 4 [(0, .ref (q.1 111 0)), (1, .int x)] → WW X q s 12 ls []) (We := fun (e : (Unit)) (s : S1) => ∀ ls : Array Slot, lv_has ls 4 [(0, .ref (q.1 111 0))] → WW X q s 44 ls []) (fun x s o hb hc => lp_He_clean_L12 (q := q) g x s o hb hc) hw ?_ ls (lv_sub hl [1, 0] rfl)
  clear hw hl
  clear ls
  intro ls hl
  generalize s1 = s at h ⊢
  refine ww_aload_n (pc := 44) g.1 d_He_clean_44 rfl (lv_at hl 0 rfl) ?_
  refine ww_iconst (pc := 45) g.1 (v := 0) d_He_clean_45 (by decide) ?_
  refine ww_pI (pc := 46) g (k := 11) cl_He (pz rfl (by decide)) (by decide) (Or.inl kw_728) rfl (f := 14219) rfl rfl rfl rfl d_He_clean_46 h fun s hs h => ?_
  refine ww_aload_n (pc := 49) g.1 d_He_clean_49 rfl (lv_at hl 0 rfl) ?_
  refine ww_iconst (pc := 50) g.1 (v := 5) d_He_clean_50 (by decide) ?_
  refine ww_aload_n (pc := 51) g.1 d_He_clean_51 rfl (lv_at hl 0 rfl) ?_
  refine ww_gR (pc := 52) g (k := 15) cl_He (pz rfl (by decide)) (by decide) (Or.inl kw_756) (f := 14223) (t := 128) rfl rfl rfl d_He_clean_52 ?_
  refine ww_gI (pc := 55) g (k := 10) cl_Ma (pz rfl (by decide)) (by decide) (Or.inl kw_1234) (f := 16394) rfl rfl d_He_clean_55 h fun v55 h => ?_
  refine ww_i2l (pc := 58) g.1 (v := v55.toInt64) d_He_clean_58 rfl ?_
  obtain ⟨v59, s, hc59, h⟩ := oB_of h
  refine ww_callV (pc := 59) (rest := []) g cv_He_reach (Or.inl kw_731) cl_He (pz rfl (by decide)) (ct_He_reach hc59) ⟨by decide, by decide⟩ rfl hl.1 (Nat.le_of_ble_eq_true rfl) d_He_clean_59 rfl (?_)
  refine ww_st (st' := []) rfl ?_
  refine ww_aload_n (pc := 62) g.1 d_He_clean_62 rfl (lv_at hl 0 rfl) ?_
  refine ww_gR (pc := 63) g (k := 15) cl_He (pz rfl (by decide)) (by decide) (Or.inl kw_756) (f := 14223) (t := 128) rfl rfl rfl d_He_clean_63 ?_
  refine ww_gV (pc := 66) g (k := 11) cl_Ma (pz rfl (by decide)) (by decide) (Or.inl kw_1235) (f := 16395) (t := 148) rfl rfl rfl d_He_clean_66 h fun v66 h => ?_
  refine ww_pr h fun pn66 h => ?_
  refine ww_nnP pn66 ?_
  refine ww_astore_n (pc := 69) (i := 1) g.1 (lv' := [(1, .ref (q.1 148 v66)), (0, .ref (q.1 111 0))]) d_He_clean_69 rfl hl (by decide) rfl fun ls hl => ?_
  refine ww_iconst (pc := 70) g.1 (v := 0) d_He_clean_70 (by decide) ?_
  refine ww_istore_n (pc := 71) (i := 2) g.1 (lv' := [(2, .int 0), (1, .ref (q.1 148 v66)), (0, .ref (q.1 111 0))]) d_He_clean_71 rfl hl (by decide) rfl fun ls hl => ?_
  obtain ⟨e72, s1, hw, h⟩ := oB_of h
  refine oW_rule (Wh := fun (x : Int32 × Int32) (s : S1) => ∀ ls : Array Slot, (prs s 148 x.1) → lv_has ls 4 [(0, .ref (q.1 111 0)), (1, .ref (q.1 148 x.1)), (2, .int x.2)] → WW X q s 72 ls []) (We := fun (e : (Int32)) (s : S1) => ∀ ls : Array Slot, (prs s 148 e) → lv_has ls 4 [(0, .ref (q.1 111 0)), (1, .ref (q.1 148 e))] → WW X q s 112 ls []) (fun x s o hb hc => lp_He_clean_L72 (q := q) g x s o hb hc) hw ?_ ls pn66 (lv_sub hl [2, 1, 0] rfl)
  clear hw hl
  clear ls
  generalize s1 = s at h ⊢
  intro ls hq72_0 hl
  exact j_He_clean_j112 g hR e72 s hq72_0 ls (lv_sub hl [0, 1] rfl) h


