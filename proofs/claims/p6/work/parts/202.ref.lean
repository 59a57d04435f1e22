abbrev b_Mo_readConstants : ByteArray := prog_14_method_11_code
def y_Mo_readConstants : MethodName := ⟨R_Mo, "readConstants", "(I)V"⟩
abbrev w_Mo_readConstants : List Cond := .code y_Mo_readConstants b_Mo_readConstants 8 none :: wA
set_option maxRecDepth 20000 in
theorem k_Mo_readConstants : Cond.code y_Mo_readConstants b_Mo_readConstants 8 none ∈ wA := kinm (show _ ∈ tables_1 from (List.mem_append_right _ (List.mem_append_right _ (List.mem_append_right _ (List.mem_append_right _ (List.mem_append_right _ (List.mem_append_right _ (List.mem_append_right _ (List.mem_append_right _ (List.mem_append_right _ (List.mem_append_right _ (List.mem_append_left _ (List.mem_of_getElem? (l := tables_1_11) (i := 161) rfl))))))))))))) rfl
theorem d_Mo_readConstants_0 : decode b_Mo_readConstants 0 = .ok (.aload_n 0, 1) := by decide +kernel
theorem d_Mo_readConstants_1 : decode b_Mo_readConstants 1 = .ok (.iconst 2, 1) := by decide +kernel
theorem d_Mo_readConstants_2 : decode b_Mo_readConstants 2 = .ok (.invokevirtual 453, 3) := by decide +kernel
theorem d_Mo_readConstants_5 : decode b_Mo_readConstants 5 = .ok (.l2i, 1) := by decide +kernel
theorem d_Mo_readConstants_6 : decode b_Mo_readConstants 6 = .ok (.istore_n 2, 1) := by decide +kernel
theorem d_Mo_readConstants_7 : decode b_Mo_readConstants 7 = .ok (.aload_n 0, 1) := by decide +kernel
theorem d_Mo_readConstants_8 : decode b_Mo_readConstants 8 = .ok (.getfield 47, 3) := by decide +kernel
theorem d_Mo_readConstants_11 : decode b_Mo_readConstants 11 = .ok (.iload_n 1, 1) := by decide +kernel
theorem d_Mo_readConstants_12 : decode b_Mo_readConstants 12 = .ok (.aload_n 0, 1) := by decide +kernel
theorem d_Mo_readConstants_13 : decode b_Mo_readConstants 13 = .ok (.getfield 95, 3) := by decide +kernel
theorem d_Mo_readConstants_16 : decode b_Mo_readConstants 16 = .ok (.iastore, 1) := by decide +kernel
theorem d_Mo_readConstants_17 : decode b_Mo_readConstants 17 = .ok (.aload_n 0, 1) := by decide +kernel
theorem d_Mo_readConstants_18 : decode b_Mo_readConstants 18 = .ok (.getfield 50, 3) := by decide +kernel
theorem d_Mo_readConstants_21 : decode b_Mo_readConstants 21 = .ok (.iload_n 1, 1) := by decide +kernel
theorem d_Mo_readConstants_22 : decode b_Mo_readConstants 22 = .ok (.iload_n 2, 1) := by decide +kernel
theorem d_Mo_readConstants_23 : decode b_Mo_readConstants 23 = .ok (.iastore, 1) := by decide +kernel
theorem d_Mo_readConstants_24 : decode b_Mo_readConstants 24 = .ok (.iconst 0, 1) := by decide +kernel
theorem d_Mo_readConstants_25 : decode b_Mo_readConstants 25 = .ok (.istore_n 3, 1) := by decide +kernel
theorem d_Mo_readConstants_26 : decode b_Mo_readConstants 26 = .ok (.iload_n 3, 1) := by decide +kernel
theorem d_Mo_readConstants_27 : decode b_Mo_readConstants 27 = .ok (.iload_n 2, 1) := by decide +kernel
theorem d_Mo_readConstants_28 : decode b_Mo_readConstants 28 = .ok (.if_icmp .ge 191, 3) := by decide +kernel
theorem d_Mo_readConstants_31 : decode b_Mo_readConstants 31 = .ok (.aload_n 0, 1) := by decide +kernel
theorem d_Mo_readConstants_32 : decode b_Mo_readConstants 32 = .ok (.getfield 21, 3) := by decide +kernel
theorem d_Mo_readConstants_35 : decode b_Mo_readConstants 35 = .ok (.ifCond .ne 184, 3) := by decide +kernel
theorem d_Mo_readConstants_38 : decode b_Mo_readConstants 38 = .ok (.aload_n 0, 1) := by decide +kernel
theorem d_Mo_readConstants_39 : decode b_Mo_readConstants 39 = .ok (.iconst 1, 1) := by decide +kernel
theorem d_Mo_readConstants_40 : decode b_Mo_readConstants 40 = .ok (.invokevirtual 453, 3) := by decide +kernel
theorem d_Mo_readConstants_43 : decode b_Mo_readConstants 43 = .ok (.l2i, 1) := by decide +kernel
theorem d_Mo_readConstants_44 : decode b_Mo_readConstants 44 = .ok (.istore 4, 2) := by decide +kernel
theorem d_Mo_readConstants_46 : decode b_Mo_readConstants 46 = .ok (.aload_n 0, 1) := by decide +kernel
theorem d_Mo_readConstants_47 : decode b_Mo_readConstants 47 = .ok (.getfield 21, 3) := by decide +kernel
theorem d_Mo_readConstants_50 : decode b_Mo_readConstants 50 = .ok (.ifCond .ne 28, 3) := by decide +kernel
theorem d_Mo_readConstants_53 : decode b_Mo_readConstants 53 = .ok (.aload_n 0, 1) := by decide +kernel
theorem d_Mo_readConstants_54 : decode b_Mo_readConstants 54 = .ok (.getfield 95, 3) := by decide +kernel
theorem d_Mo_readConstants_57 : decode b_Mo_readConstants 57 = .ok (.aload_n 0, 1) := by decide +kernel
theorem d_Mo_readConstants_58 : decode b_Mo_readConstants 58 = .ok (.getfield 98, 3) := by decide +kernel
theorem d_Mo_readConstants_61 : decode b_Mo_readConstants 61 = .ok (.iadd, 1) := by decide +kernel
theorem d_Mo_readConstants_62 : decode b_Mo_readConstants 62 = .ok (.sipush 20000, 3) := by decide +kernel
theorem d_Mo_readConstants_65 : decode b_Mo_readConstants 65 = .ok (.if_icmp .ne 13, 3) := by decide +kernel
theorem d_Mo_readConstants_68 : decode b_Mo_readConstants 68 = .ok (.aload_n 0, 1) := by decide +kernel
theorem d_Mo_readConstants_69 : decode b_Mo_readConstants 69 = .ok (.iconst 4, 1) := by decide +kernel
theorem d_Mo_readConstants_70 : decode b_Mo_readConstants 70 = .ok (.aload_n 0, 1) := by decide +kernel
theorem d_Mo_readConstants_71 : decode b_Mo_readConstants 71 = .ok (.getfield 107, 3) := by decide +kernel
theorem d_Mo_readConstants_74 : decode b_Mo_readConstants 74 = .ok (.invokevirtual 449, 3) := by decide +kernel
theorem d_Mo_readConstants_77 : decode b_Mo_readConstants 77 = .ok (.pop, 1) := by decide +kernel
theorem d_Mo_readConstants_78 : decode b_Mo_readConstants 78 = .ok (.aload_n 0, 1) := by decide +kernel
theorem d_Mo_readConstants_79 : decode b_Mo_readConstants 79 = .ok (.iload 4, 2) := by decide +kernel
theorem d_Mo_readConstants_81 : decode b_Mo_readConstants 81 = .ok (.iconst 5, 1) := by decide +kernel
theorem d_Mo_readConstants_82 : decode b_Mo_readConstants 82 = .ok (.if_icmp .ge 7, 3) := by decide +kernel
theorem d_Mo_readConstants_85 : decode b_Mo_readConstants 85 = .ok (.iconst 1, 1) := by decide +kernel
theorem d_Mo_readConstants_86 : decode b_Mo_readConstants 86 = .ok (.goto 4, 3) := by decide +kernel
theorem d_Mo_readConstants_89 : decode b_Mo_readConstants 89 = .ok (.iconst 0, 1) := by decide +kernel
theorem d_Mo_readConstants_90 : decode b_Mo_readConstants 90 = .ok (.invokevirtual 456, 3) := by decide +kernel
theorem d_Mo_readConstants_93 : decode b_Mo_readConstants 93 = .ok (.lconst 0, 1) := by decide +kernel
theorem d_Mo_readConstants_94 : decode b_Mo_readConstants 94 = .ok (.lstore 5, 2) := by decide +kernel
theorem d_Mo_readConstants_96 : decode b_Mo_readConstants 96 = .ok (.iload 4, 2) := by decide +kernel
theorem d_Mo_readConstants_98 : decode b_Mo_readConstants 98 = .ok (.iconst 3, 1) := by decide +kernel
theorem d_Mo_readConstants_99 : decode b_Mo_readConstants 99 = .ok (.if_icmp .ne 11, 3) := by decide +kernel
theorem d_Mo_readConstants_102 : decode b_Mo_readConstants 102 = .ok (.aload_n 0, 1) := by decide +kernel
theorem d_Mo_readConstants_103 : decode b_Mo_readConstants 103 = .ok (.bipush 8, 2) := by decide +kernel
theorem d_Mo_readConstants_105 : decode b_Mo_readConstants 105 = .ok (.invokevirtual 453, 3) := by decide +kernel
theorem d_Mo_readConstants_108 : decode b_Mo_readConstants 108 = .ok (.lstore 5, 2) := by decide +kernel
theorem d_Mo_readConstants_110 : decode b_Mo_readConstants 110 = .ok (.iload 4, 2) := by decide +kernel
theorem d_Mo_readConstants_112 : decode b_Mo_readConstants 112 = .ok (.iconst 4, 1) := by decide +kernel
theorem d_Mo_readConstants_113 : decode b_Mo_readConstants 113 = .ok (.if_icmp .ne 71, 3) := by decide +kernel
theorem d_Mo_readConstants_116 : decode b_Mo_readConstants 116 = .ok (.aload_n 0, 1) := by decide +kernel
theorem d_Mo_readConstants_117 : decode b_Mo_readConstants 117 = .ok (.iconst 2, 1) := by decide +kernel
theorem d_Mo_readConstants_118 : decode b_Mo_readConstants 118 = .ok (.invokevirtual 453, 3) := by decide +kernel
theorem d_Mo_readConstants_121 : decode b_Mo_readConstants 121 = .ok (.l2i, 1) := by decide +kernel
theorem d_Mo_readConstants_122 : decode b_Mo_readConstants 122 = .ok (.istore 7, 2) := by decide +kernel
theorem d_Mo_readConstants_124 : decode b_Mo_readConstants 124 = .ok (.aload_n 0, 1) := by decide +kernel
theorem d_Mo_readConstants_125 : decode b_Mo_readConstants 125 = .ok (.getfield 86, 3) := by decide +kernel
theorem d_Mo_readConstants_128 : decode b_Mo_readConstants 128 = .ok (.aload_n 0, 1) := by decide +kernel
theorem d_Mo_readConstants_129 : decode b_Mo_readConstants 129 = .ok (.getfield 95, 3) := by decide +kernel
theorem d_Mo_readConstants_132 : decode b_Mo_readConstants 132 = .ok (.aload_n 0, 1) := by decide +kernel
theorem d_Mo_readConstants_133 : decode b_Mo_readConstants 133 = .ok (.getfield 104, 3) := by decide +kernel
theorem d_Mo_readConstants_136 : decode b_Mo_readConstants 136 = .ok (.iastore, 1) := by decide +kernel
theorem d_Mo_readConstants_137 : decode b_Mo_readConstants 137 = .ok (.iload 7, 2) := by decide +kernel
theorem d_Mo_readConstants_139 : decode b_Mo_readConstants 139 = .ok (.i2l, 1) := by decide +kernel
theorem d_Mo_readConstants_140 : decode b_Mo_readConstants 140 = .ok (.lstore 5, 2) := by decide +kernel
theorem d_Mo_readConstants_142 : decode b_Mo_readConstants 142 = .ok (.aload_n 0, 1) := by decide +kernel
theorem d_Mo_readConstants_143 : decode b_Mo_readConstants 143 = .ok (.getfield 21, 3) := by decide +kernel
theorem d_Mo_readConstants_146 : decode b_Mo_readConstants 146 = .ok (.ifCond .ne 27, 3) := by decide +kernel
theorem d_Mo_readConstants_149 : decode b_Mo_readConstants 149 = .ok (.aload_n 0, 1) := by decide +kernel
theorem d_Mo_readConstants_150 : decode b_Mo_readConstants 150 = .ok (.getfield 14, 3) := by decide +kernel
theorem d_Mo_readConstants_153 : decode b_Mo_readConstants 153 = .ok (.aload_n 0, 1) := by decide +kernel
theorem d_Mo_readConstants_154 : decode b_Mo_readConstants 154 = .ok (.getfield 104, 3) := by decide +kernel
theorem d_Mo_readConstants_157 : decode b_Mo_readConstants 157 = .ok (.isub, 1) := by decide +kernel
theorem d_Mo_readConstants_158 : decode b_Mo_readConstants 158 = .ok (.iload 7, 2) := by decide +kernel
theorem d_Mo_readConstants_160 : decode b_Mo_readConstants 160 = .ok (.if_icmp .ge 13, 3) := by decide +kernel
theorem d_Mo_readConstants_163 : decode b_Mo_readConstants 163 = .ok (.aload_n 0, 1) := by decide +kernel
theorem d_Mo_readConstants_164 : decode b_Mo_readConstants 164 = .ok (.iconst 1, 1) := by decide +kernel
theorem d_Mo_readConstants_165 : decode b_Mo_readConstants 165 = .ok (.aload_n 0, 1) := by decide +kernel
theorem d_Mo_readConstants_166 : decode b_Mo_readConstants 166 = .ok (.getfield 104, 3) := by decide +kernel
theorem d_Mo_readConstants_169 : decode b_Mo_readConstants 169 = .ok (.invokevirtual 449, 3) := by decide +kernel
theorem d_Mo_readConstants_172 : decode b_Mo_readConstants 172 = .ok (.pop, 1) := by decide +kernel
theorem d_Mo_readConstants_173 : decode b_Mo_readConstants 173 = .ok (.aload_n 0, 1) := by decide +kernel
theorem d_Mo_readConstants_174 : decode b_Mo_readConstants 174 = .ok (.dup, 1) := by decide +kernel
theorem d_Mo_readConstants_175 : decode b_Mo_readConstants 175 = .ok (.getfield 104, 3) := by decide +kernel
theorem d_Mo_readConstants_178 : decode b_Mo_readConstants 178 = .ok (.iload 7, 2) := by decide +kernel
theorem d_Mo_readConstants_180 : decode b_Mo_readConstants 180 = .ok (.iadd, 1) := by decide +kernel
theorem d_Mo_readConstants_181 : decode b_Mo_readConstants 181 = .ok (.putfield 104, 3) := by decide +kernel
theorem d_Mo_readConstants_184 : decode b_Mo_readConstants 184 = .ok (.aload_n 0, 1) := by decide +kernel
theorem d_Mo_readConstants_185 : decode b_Mo_readConstants 185 = .ok (.getfield 21, 3) := by decide +kernel
theorem d_Mo_readConstants_188 : decode b_Mo_readConstants 188 = .ok (.ifCond .ne 25, 3) := by decide +kernel
theorem d_Mo_readConstants_191 : decode b_Mo_readConstants 191 = .ok (.aload_n 0, 1) := by decide +kernel
theorem d_Mo_readConstants_192 : decode b_Mo_readConstants 192 = .ok (.getfield 82, 3) := by decide +kernel
theorem d_Mo_readConstants_195 : decode b_Mo_readConstants 195 = .ok (.aload_n 0, 1) := by decide +kernel
theorem d_Mo_readConstants_196 : decode b_Mo_readConstants 196 = .ok (.dup, 1) := by decide +kernel
theorem d_Mo_readConstants_197 : decode b_Mo_readConstants 197 = .ok (.getfield 95, 3) := by decide +kernel
theorem d_Mo_readConstants_200 : decode b_Mo_readConstants 200 = .ok (.dup_x1, 1) := by decide +kernel
theorem d_Mo_readConstants_201 : decode b_Mo_readConstants 201 = .ok (.iconst 1, 1) := by decide +kernel
theorem d_Mo_readConstants_202 : decode b_Mo_readConstants 202 = .ok (.iadd, 1) := by decide +kernel
theorem d_Mo_readConstants_203 : decode b_Mo_readConstants 203 = .ok (.putfield 95, 3) := by decide +kernel
theorem d_Mo_readConstants_206 : decode b_Mo_readConstants 206 = .ok (.iload 4, 2) := by decide +kernel
theorem d_Mo_readConstants_208 : decode b_Mo_readConstants 208 = .ok (.lload 5, 2) := by decide +kernel
theorem d_Mo_readConstants_210 : decode b_Mo_readConstants 210 = .ok (.invokevirtual 470, 3) := by decide +kernel
theorem d_Mo_readConstants_213 : decode b_Mo_readConstants 213 = .ok (.iinc 3 1, 3) := by decide +kernel
theorem d_Mo_readConstants_216 : decode b_Mo_readConstants 216 = .ok (.goto (-190), 3) := by decide +kernel
theorem d_Mo_readConstants_219 : decode b_Mo_readConstants 219 = .ok (.return_, 1) := by decide +kernel
abbrev b_Va_set : ByteArray := prog_16_method_3_code
def y_Va_set : MethodName := ⟨R_Va, "set", "(IIJ)V"⟩
abbrev w_Va_set : List Cond := .code y_Va_set b_Va_set 5 none :: wA
theorem k_Va_set : Cond.code y_Va_set b_Va_set 5 none ∈ wA := kinm (show _ ∈ tables_1 from (List.mem_append_right _ (List.mem_append_right _ (List.mem_append_right _ (List.mem_append_right _ (List.mem_append_right _ (List.mem_append_right _ (List.mem_append_right _ (List.mem_append_right _ (List.mem_append_right _ (List.mem_append_right _ (List.mem_append_left _ (List.mem_of_getElem? (l := tables_1_11) (i := 165) (by decide +kernel)))))))))))))) (by decide +kernel)
theorem d_Va_set_0 : decode b_Va_set 0 = .ok (.aload_n 0, 1) := by decide +kernel
theorem d_Va_set_1 : decode b_Va_set 1 = .ok (.getfield 13, 3) := by decide +kernel
theorem d_Va_set_4 : decode b_Va_set 4 = .ok (.iload_n 1, 1) := by decide +kernel
theorem d_Va_set_5 : decode b_Va_set 5 = .ok (.iload_n 2, 1) := by decide +kernel
theorem d_Va_set_6 : decode b_Va_set 6 = .ok (.i2b, 1) := by decide +kernel
theorem d_Va_set_7 : decode b_Va_set 7 = .ok (.bastore, 1) := by decide +kernel
theorem d_Va_set_8 : decode b_Va_set 8 = .ok (.aload_n 0, 1) := by decide +kernel
theorem d_Va_set_9 : decode b_Va_set 9 = .ok (.getfield 17, 3) := by decide +kernel
theorem d_Va_set_12 : decode b_Va_set 12 = .ok (.iload_n 1, 1) := by decide +kernel
theorem d_Va_set_13 : decode b_Va_set 13 = .ok (.lload_n 3, 1) := by decide +kernel
theorem d_Va_set_14 : decode b_Va_set 14 = .ok (.lastore, 1) := by decide +kernel
theorem d_Va_set_15 : decode b_Va_set 15 = .ok (.return_, 1) := by decide +kernel
theorem kw_45 : Cond.fieldLink R_Va 13 "LuaMachineModel$Values" "k" "[B" ∈ wA := kinm (show _ ∈ tables_1 from (List.mem_append_right _ (List.mem_append_right _ (List.mem_append_right _ (List.mem_append_right _ (List.mem_append_right _ (List.mem_append_right _ (List.mem_append_right _ (List.mem_append_right _ (List.mem_append_left _ (List.mem_of_getElem? (l := tables_1_9) (i := 122) (by decide +kernel)))))))))))) (by decide +kernel)
theorem kw_46 : Cond.fieldLink R_Va 17 "LuaMachineModel$Values" "v" "[J" ∈ wA := kinm (show _ ∈ tables_1 from (List.mem_append_right _ (List.mem_append_right _ (List.mem_append_right _ (List.mem_append_right _ (List.mem_append_right _ (List.mem_append_right _ (List.mem_append_right _ (List.mem_append_right _ (List.mem_append_left _ (List.mem_of_getElem? (l := tables_1_9) (i := 124) (by decide +kernel)))))))))))) (by decide +kernel)
theorem kw_47 : Cond.instanceMethod y_Va_set ∈ wA := kinm (show _ ∈ tables_1 from (List.mem_append_right _ (List.mem_append_right _ (List.mem_append_right _ (List.mem_append_right _ (List.mem_append_right _ (List.mem_append_right _ (List.mem_append_right _ (List.mem_append_right _ (List.mem_append_right _ (List.mem_append_right _ (List.mem_append_left _ (List.mem_of_getElem? (l := tables_1_11) (i := 163) (by decide +kernel)))))))))))))) (by decide +kernel)
theorem kw_48 : Cond.selects R_Va y_Va_set y_Va_set ∈ wA := kinm (show _ ∈ tables_1 from (List.mem_append_right _ (List.mem_append_right _ (List.mem_append_right _ (List.mem_append_right _ (List.mem_append_right _ (List.mem_append_right _ (List.mem_append_right _ (List.mem_append_right _ (List.mem_append_right _ (List.mem_append_right _ (List.mem_append_left _ (List.mem_of_getElem? (l := tables_1_11) (i := 164) (by decide +kernel)))))))))))))) (by decide +kernel)
theorem kw_49 : Cond.initialized R_Va ∈ wA := kinm (show _ ∈ tables_1 from (List.mem_append_left _ (List.mem_of_getElem? (l := tables_1_1) (i := 10) (by decide +kernel)))) (by decide +kernel)
def M_Va_set (l0r : Nat) (l0 : Int32) (l1 : Int32) (l2 : Int32) (l3 : Int64) : M (Unit) :=
  oB (oSI (l0r + 1) (lnI (l0r + 1)) l0 l1 l2.toInt8.toInt32.toInt8.toInt32) fun _ =>
  oB (oSL (l0r + 2) (lnI (l0r + 2)) l0 l1 l3) fun _ =>
  oR ()

theorem cv_Va_set : CV y_Va_set b_Va_set 5 none 3 := ⟨kw_47, kw_48, kw_49, k_Va_set, by decide +kernel⟩
theorem ct_Va_set {l : Launch} {P : PP} {q : PL} {s s' : S1} {l0r : Nat} {l0 : Int32} {l1 : Int32} {l2 : Int32} {l3 : Int64} (hp0 : VOK l0r l0) {r : Unit} (h : M_Va_set l0r l0 l1 l2 l3 s = some (r, s')) : Ct l y_Va_set b_Va_set 5 none 0 0 P q s [.ref (q.1 l0r l0), .int l1, .int l2, .long l3] none q s' := by
  refine ct_of (by decide) (Nat.le_of_ble_eq_true rfl) fun X ls eP el g hR hl => ?_
  have hR : Rt X q ((r, s') : Unit × S1).2 none := hR
  have hl : lv_has ls 5 [(0, .ref (q.1 l0r l0)), (1, .int l1), (2, .int l2), (3, .long l3)] := hl
  generalize (r, s') = o at h hR
  unfold M_Va_set at h
  refine ww_aload_n (pc := 0) g.1 d_Va_set_0 rfl (lv_at hl 0 rfl) ?_
  refine ww_gR (pc := 1) g (k := 0) (cl_Va hp0) (vok_p hp0).1 (by rw [(vok_f hp0).1.2.2]; decide) (Or.inl kw_45) (f := (128 * l0r + 0)) (t := l0r + 1) rfl (vok_f hp0).2.1.1 (vok_f hp0).2.1.2 d_Va_set_1 ?_
  refine ww_iload_n (pc := 4) g.1 d_Va_set_4 rfl (lv_at hl 1 rfl) ?_
  refine ww_iload_n (pc := 5) g.1 d_Va_set_5 rfl (lv_at hl 2 rfl) ?_
  refine ww_i2b (pc := 6) g.1 (v := l2.toInt8.toInt32) d_Va_set_6 rfl ?_
  refine ww_sb (pc := 7) g (vok_p hp0).2.1 (vok_f hp0).2.2.2.2.1 (vok_n hp0).1 d_Va_set_7 h fun s hs h => ?_
  refine ww_aload_n (pc := 8) g.1 d_Va_set_8 rfl (lv_at hl 0 rfl) ?_
  refine ww_gR (pc := 9) g (k := 1) (cl_Va hp0) (vok_p hp0).1 (by rw [(vok_f hp0).1.2.2]; decide) (Or.inl kw_46) (f := (128 * l0r + 1)) (t := l0r + 2) rfl (vok_f hp0).2.2.1.1 (vok_f hp0).2.2.1.2 d_Va_set_9 ?_
  refine ww_iload_n (pc := 12) g.1 d_Va_set_12 rfl (lv_at hl 1 rfl) ?_
  refine ww_lload_n (pc := 13) g.1 d_Va_set_13 rfl (lv_at hl 3 rfl) ?_
  refine ww_sl (pc := 14) g (vok_p hp0).2.2 (vok_f hp0).2.2.2.2.2 (vok_n hp0).2 d_Va_set_14 h fun s hs h => ?_
  exact ww_vretH (pc := 15) g h hR d_Va_set_15

abbrev b_Mo_lookOver : ByteArray := prog_14_method_20_code
def y_Mo_lookOver : MethodName := ⟨R_Mo, "lookOver", "()V"⟩
abbrev w_Mo_lookOver : List Cond := .code y_Mo_lookOver b_Mo_lookOver 3 none :: wA
theorem k_Mo_lookOver : Cond.code y_Mo_lookOver b_Mo_lookOver 3 none ∈ wA := kinm (show _ ∈ tables_1 from (List.mem_append_right _ (List.mem_append_right _ (List.mem_append_right _ (List.mem_append_right _ (List.mem_append_right _ (List.mem_append_right _ (List.mem_append_right _ (List.mem_append_right _ (List.mem_append_right _ (List.mem_append_right _ (List.mem_append_left _ (List.mem_of_getElem? (l := tables_1_11) (i := 169) (by decide +kernel)))))))))))))) (by decide +kernel)
theorem d_Mo_lookOver_0 : decode b_Mo_lookOver 0 = .ok (.iconst 0, 1) := by decide +kernel
theorem d_Mo_lookOver_1 : decode b_Mo_lookOver 1 = .ok (.istore_n 1, 1) := by decide +kernel
theorem d_Mo_lookOver_2 : decode b_Mo_lookOver 2 = .ok (.iload_n 1, 1) := by decide +kernel
theorem d_Mo_lookOver_3 : decode b_Mo_lookOver 3 = .ok (.aload_n 0, 1) := by decide +kernel
theorem d_Mo_lookOver_4 : decode b_Mo_lookOver 4 = .ok (.getfield 89, 3) := by decide +kernel
theorem d_Mo_lookOver_7 : decode b_Mo_lookOver 7 = .ok (.if_icmp .ge 70, 3) := by decide +kernel
theorem d_Mo_lookOver_10 : decode b_Mo_lookOver 10 = .ok (.aload_n 0, 1) := by decide +kernel
theorem d_Mo_lookOver_11 : decode b_Mo_lookOver 11 = .ok (.getfield 21, 3) := by decide +kernel
theorem d_Mo_lookOver_14 : decode b_Mo_lookOver 14 = .ok (.ifCond .ne 63, 3) := by decide +kernel
theorem d_Mo_lookOver_17 : decode b_Mo_lookOver 17 = .ok (.iconst 0, 1) := by decide +kernel
theorem d_Mo_lookOver_18 : decode b_Mo_lookOver 18 = .ok (.istore_n 2, 1) := by decide +kernel
theorem d_Mo_lookOver_19 : decode b_Mo_lookOver 19 = .ok (.iload_n 2, 1) := by decide +kernel
theorem d_Mo_lookOver_20 : decode b_Mo_lookOver 20 = .ok (.aload_n 0, 1) := by decide +kernel
theorem d_Mo_lookOver_21 : decode b_Mo_lookOver 21 = .ok (.getfield 56, 3) := by decide +kernel
theorem d_Mo_lookOver_24 : decode b_Mo_lookOver 24 = .ok (.iload_n 1, 1) := by decide +kernel
theorem d_Mo_lookOver_25 : decode b_Mo_lookOver 25 = .ok (.iaload, 1) := by decide +kernel
theorem d_Mo_lookOver_26 : decode b_Mo_lookOver 26 = .ok (.if_icmp .ge 45, 3) := by decide +kernel
theorem d_Mo_lookOver_29 : decode b_Mo_lookOver 29 = .ok (.aload_n 0, 1) := by decide +kernel
theorem d_Mo_lookOver_30 : decode b_Mo_lookOver 30 = .ok (.getfield 21, 3) := by decide +kernel
theorem d_Mo_lookOver_33 : decode b_Mo_lookOver 33 = .ok (.ifCond .ne 38, 3) := by decide +kernel
theorem d_Mo_lookOver_36 : decode b_Mo_lookOver 36 = .ok (.aload_n 0, 1) := by decide +kernel
theorem d_Mo_lookOver_37 : decode b_Mo_lookOver 37 = .ok (.iload_n 1, 1) := by decide +kernel
theorem d_Mo_lookOver_38 : decode b_Mo_lookOver 38 = .ok (.iload_n 2, 1) := by decide +kernel
theorem d_Mo_lookOver_39 : decode b_Mo_lookOver 39 = .ok (.invokevirtual 485, 3) := by decide +kernel
theorem d_Mo_lookOver_42 : decode b_Mo_lookOver 42 = .ok (.ifCond .ne 23, 3) := by decide +kernel
theorem d_Mo_lookOver_45 : decode b_Mo_lookOver 45 = .ok (.aload_n 0, 1) := by decide +kernel
theorem d_Mo_lookOver_46 : decode b_Mo_lookOver 46 = .ok (.bipush 6, 2) := by decide +kernel
theorem d_Mo_lookOver_48 : decode b_Mo_lookOver 48 = .ok (.aload_n 0, 1) := by decide +kernel
theorem d_Mo_lookOver_49 : decode b_Mo_lookOver 49 = .ok (.getfield 74, 3) := by decide +kernel
theorem d_Mo_lookOver_52 : decode b_Mo_lookOver 52 = .ok (.aload_n 0, 1) := by decide +kernel
theorem d_Mo_lookOver_53 : decode b_Mo_lookOver 53 = .ok (.getfield 53, 3) := by decide +kernel
theorem d_Mo_lookOver_56 : decode b_Mo_lookOver 56 = .ok (.iload_n 1, 1) := by decide +kernel
theorem d_Mo_lookOver_57 : decode b_Mo_lookOver 57 = .ok (.iaload, 1) := by decide +kernel
theorem d_Mo_lookOver_58 : decode b_Mo_lookOver 58 = .ok (.iload_n 2, 1) := by decide +kernel
theorem d_Mo_lookOver_59 : decode b_Mo_lookOver 59 = .ok (.iadd, 1) := by decide +kernel
theorem d_Mo_lookOver_60 : decode b_Mo_lookOver 60 = .ok (.iaload, 1) := by decide +kernel
theorem d_Mo_lookOver_61 : decode b_Mo_lookOver 61 = .ok (.invokevirtual 449, 3) := by decide +kernel
theorem d_Mo_lookOver_64 : decode b_Mo_lookOver 64 = .ok (.pop, 1) := by decide +kernel
theorem d_Mo_lookOver_65 : decode b_Mo_lookOver 65 = .ok (.iinc 2 1, 3) := by decide +kernel
theorem d_Mo_lookOver_68 : decode b_Mo_lookOver 68 = .ok (.goto (-49), 3) := by decide +kernel
theorem d_Mo_lookOver_71 : decode b_Mo_lookOver 71 = .ok (.iinc 1 1, 3) := by decide +kernel
theorem d_Mo_lookOver_74 : decode b_Mo_lookOver 74 = .ok (.goto (-72), 3) := by decide +kernel
theorem d_Mo_lookOver_77 : decode b_Mo_lookOver 77 = .ok (.return_, 1) := by decide +kernel
abbrev b_Mo_formed : ByteArray := prog_14_method_24_code
def y_Mo_formed : MethodName := ⟨R_Mo, "formed", "(II)Z"⟩
abbrev w_Mo_formed : List Cond := .code y_Mo_formed b_Mo_formed 8 (some .boolean) :: wA
set_option maxRecDepth 20000 in
theorem k_Mo_formed : Cond.code y_Mo_formed b_Mo_formed 8 (some .boolean) ∈ wA := kinm (show _ ∈ tables_1 from (List.mem_append_right _ (List.mem_append_right _ (List.mem_append_right _ (List.mem_append_right _ (List.mem_append_right _ (List.mem_append_right _ (List.mem_append_right _ (List.mem_append_right _ (List.mem_append_right _ (List.mem_append_right _ (List.mem_append_left _ (List.mem_of_getElem? (l := tables_1_11) (i := 173) rfl))))))))))))) rfl
theorem d_Mo_formed_0 : decode b_Mo_formed 0 = .ok (.aload_n 0, 1) := by decide +kernel
theorem d_Mo_formed_1 : decode b_Mo_formed 1 = .ok (.iload_n 1, 1) := by decide +kernel
theorem d_Mo_formed_2 : decode b_Mo_formed 2 = .ok (.putfield 113, 3) := by decide +kernel
theorem d_Mo_formed_5 : decode b_Mo_formed 5 = .ok (.aload_n 0, 1) := by decide +kernel
theorem d_Mo_formed_6 : decode b_Mo_formed 6 = .ok (.aload_n 0, 1) := by decide +kernel
theorem d_Mo_formed_7 : decode b_Mo_formed 7 = .ok (.getfield 38, 3) := by decide +kernel
theorem d_Mo_formed_10 : decode b_Mo_formed 10 = .ok (.iload_n 1, 1) := by decide +kernel
theorem d_Mo_formed_11 : decode b_Mo_formed 11 = .ok (.iaload, 1) := by decide +kernel
theorem d_Mo_formed_12 : decode b_Mo_formed 12 = .ok (.putfield 110, 3) := by decide +kernel
theorem d_Mo_formed_15 : decode b_Mo_formed 15 = .ok (.aload_n 0, 1) := by decide +kernel
theorem d_Mo_formed_16 : decode b_Mo_formed 16 = .ok (.getfield 71, 3) := by decide +kernel
theorem d_Mo_formed_19 : decode b_Mo_formed 19 = .ok (.aload_n 0, 1) := by decide +kernel
theorem d_Mo_formed_20 : decode b_Mo_formed 20 = .ok (.getfield 53, 3) := by decide +kernel
theorem d_Mo_formed_23 : decode b_Mo_formed 23 = .ok (.iload_n 1, 1) := by decide +kernel
theorem d_Mo_formed_24 : decode b_Mo_formed 24 = .ok (.iaload, 1) := by decide +kernel
theorem d_Mo_formed_25 : decode b_Mo_formed 25 = .ok (.iload_n 2, 1) := by decide +kernel
theorem d_Mo_formed_26 : decode b_Mo_formed 26 = .ok (.iadd, 1) := by decide +kernel
theorem d_Mo_formed_27 : decode b_Mo_formed 27 = .ok (.iaload, 1) := by decide +kernel
theorem d_Mo_formed_28 : decode b_Mo_formed 28 = .ok (.istore_n 3, 1) := by decide +kernel
theorem d_Mo_formed_29 : decode b_Mo_formed 29 = .ok (.iload_n 3, 1) := by decide +kernel
theorem d_Mo_formed_30 : decode b_Mo_formed 30 = .ok (.invokestatic 475, 3) := by decide +kernel
theorem d_Mo_formed_33 : decode b_Mo_formed 33 = .ok (.istore 4, 2) := by decide +kernel
theorem d_Mo_formed_35 : decode b_Mo_formed 35 = .ok (.iload_n 2, 1) := by decide +kernel
theorem d_Mo_formed_36 : decode b_Mo_formed 36 = .ok (.iconst 1, 1) := by decide +kernel
theorem d_Mo_formed_37 : decode b_Mo_formed 37 = .ok (.iadd, 1) := by decide +kernel
theorem d_Mo_formed_38 : decode b_Mo_formed 38 = .ok (.aload_n 0, 1) := by decide +kernel
theorem d_Mo_formed_39 : decode b_Mo_formed 39 = .ok (.getfield 56, 3) := by decide +kernel
theorem d_Mo_formed_42 : decode b_Mo_formed 42 = .ok (.iload_n 1, 1) := by decide +kernel
theorem d_Mo_formed_43 : decode b_Mo_formed 43 = .ok (.iaload, 1) := by decide +kernel
theorem d_Mo_formed_44 : decode b_Mo_formed 44 = .ok (.if_icmp .ge 7, 3) := by decide +kernel
theorem d_Mo_formed_47 : decode b_Mo_formed 47 = .ok (.iconst 1, 1) := by decide +kernel
theorem d_Mo_formed_48 : decode b_Mo_formed 48 = .ok (.goto 4, 3) := by decide +kernel
theorem d_Mo_formed_51 : decode b_Mo_formed 51 = .ok (.iconst 0, 1) := by decide +kernel
theorem d_Mo_formed_52 : decode b_Mo_formed 52 = .ok (.istore 5, 2) := by decide +kernel
theorem d_Mo_formed_54 : decode b_Mo_formed 54 = .ok (.iload 5, 2) := by decide +kernel
theorem d_Mo_formed_56 : decode b_Mo_formed 56 = .ok (.ifCond .ne 26, 3) := by decide +kernel
theorem d_Mo_formed_59 : decode b_Mo_formed 59 = .ok (.iload 4, 2) := by decide +kernel
theorem d_Mo_formed_61 : decode b_Mo_formed 61 = .ok (.bipush 30, 2) := by decide +kernel
theorem d_Mo_formed_63 : decode b_Mo_formed 63 = .ok (.if_icmp .eq 19, 3) := by decide +kernel
theorem d_Mo_formed_66 : decode b_Mo_formed 66 = .ok (.iload 4, 2) := by decide +kernel
theorem d_Mo_formed_68 : decode b_Mo_formed 68 = .ok (.bipush 37, 2) := by decide +kernel
theorem d_Mo_formed_70 : decode b_Mo_formed 70 = .ok (.if_icmp .eq 12, 3) := by decide +kernel
theorem d_Mo_formed_73 : decode b_Mo_formed 73 = .ok (.iload 4, 2) := by decide +kernel
theorem d_Mo_formed_75 : decode b_Mo_formed 75 = .ok (.bipush 38, 2) := by decide +kernel
theorem d_Mo_formed_77 : decode b_Mo_formed 77 = .ok (.if_icmp .eq 5, 3) := by decide +kernel
theorem d_Mo_formed_80 : decode b_Mo_formed 80 = .ok (.iconst 0, 1) := by decide +kernel
theorem d_Mo_formed_81 : decode b_Mo_formed 81 = .ok (.ireturn, 1) := by decide +kernel
theorem d_Mo_formed_82 : decode b_Mo_formed 82 = .ok (.iload 5, 2) := by decide +kernel
theorem d_Mo_formed_84 : decode b_Mo_formed 84 = .ok (.ifCond .eq 21, 3) := by decide +kernel
theorem d_Mo_formed_87 : decode b_Mo_formed 87 = .ok (.aload_n 0, 1) := by decide +kernel
theorem d_Mo_formed_88 : decode b_Mo_formed 88 = .ok (.getfield 71, 3) := by decide +kernel
theorem d_Mo_formed_91 : decode b_Mo_formed 91 = .ok (.aload_n 0, 1) := by decide +kernel
theorem d_Mo_formed_92 : decode b_Mo_formed 92 = .ok (.getfield 53, 3) := by decide +kernel
theorem d_Mo_formed_95 : decode b_Mo_formed 95 = .ok (.iload_n 1, 1) := by decide +kernel
theorem d_Mo_formed_96 : decode b_Mo_formed 96 = .ok (.iaload, 1) := by decide +kernel
theorem d_Mo_formed_97 : decode b_Mo_formed 97 = .ok (.iload_n 2, 1) := by decide +kernel
theorem d_Mo_formed_98 : decode b_Mo_formed 98 = .ok (.iadd, 1) := by decide +kernel
theorem d_Mo_formed_99 : decode b_Mo_formed 99 = .ok (.iconst 1, 1) := by decide +kernel
theorem d_Mo_formed_100 : decode b_Mo_formed 100 = .ok (.iadd, 1) := by decide +kernel
theorem d_Mo_formed_101 : decode b_Mo_formed 101 = .ok (.iaload, 1) := by decide +kernel
theorem d_Mo_formed_102 : decode b_Mo_formed 102 = .ok (.goto 4, 3) := by decide +kernel
theorem d_Mo_formed_105 : decode b_Mo_formed 105 = .ok (.iconst 0, 1) := by decide +kernel
theorem d_Mo_formed_106 : decode b_Mo_formed 106 = .ok (.istore 6, 2) := by decide +kernel
theorem d_Mo_formed_108 : decode b_Mo_formed 108 = .ok (.iload_n 3, 1) := by decide +kernel
theorem d_Mo_formed_109 : decode b_Mo_formed 109 = .ok (.invokestatic 492, 3) := by decide +kernel
theorem d_Mo_formed_112 : decode b_Mo_formed 112 = .ok (.ifCond .eq 49, 3) := by decide +kernel
theorem d_Mo_formed_115 : decode b_Mo_formed 115 = .ok (.iload 6, 2) := by decide +kernel
theorem d_Mo_formed_117 : decode b_Mo_formed 117 = .ok (.invokestatic 475, 3) := by decide +kernel
theorem d_Mo_formed_120 : decode b_Mo_formed 120 = .ok (.bipush 38, 2) := by decide +kernel
theorem d_Mo_formed_122 : decode b_Mo_formed 122 = .ok (.if_icmp .ne 11, 3) := by decide +kernel
theorem d_Mo_formed_125 : decode b_Mo_formed 125 = .ok (.iload 6, 2) := by decide +kernel
theorem d_Mo_formed_127 : decode b_Mo_formed 127 = .ok (.invokestatic 495, 3) := by decide +kernel
theorem d_Mo_formed_130 : decode b_Mo_formed 130 = .ok (.goto 10, 3) := by decide +kernel
theorem d_Mo_formed_133 : decode b_Mo_formed 133 = .ok (.iload 6, 2) := by decide +kernel
theorem d_Mo_formed_135 : decode b_Mo_formed 135 = .ok (.invokestatic 495, 3) := by decide +kernel
theorem d_Mo_formed_138 : decode b_Mo_formed 138 = .ok (.iconst 1, 1) := by decide +kernel
theorem d_Mo_formed_139 : decode b_Mo_formed 139 = .ok (.iadd, 1) := by decide +kernel
theorem d_Mo_formed_140 : decode b_Mo_formed 140 = .ok (.istore 7, 2) := by decide +kernel
theorem d_Mo_formed_142 : decode b_Mo_formed 142 = .ok (.iload 6, 2) := by decide +kernel
theorem d_Mo_formed_144 : decode b_Mo_formed 144 = .ok (.invokestatic 488, 3) := by decide +kernel
theorem d_Mo_formed_147 : decode b_Mo_formed 147 = .ok (.ifCond .eq 12, 3) := by decide +kernel
theorem d_Mo_formed_150 : decode b_Mo_formed 150 = .ok (.iload 7, 2) := by decide +kernel
theorem d_Mo_formed_152 : decode b_Mo_formed 152 = .ok (.iload_n 3, 1) := by decide +kernel
theorem d_Mo_formed_153 : decode b_Mo_formed 153 = .ok (.invokestatic 495, 3) := by decide +kernel
theorem d_Mo_formed_156 : decode b_Mo_formed 156 = .ok (.if_icmp .le 5, 3) := by decide +kernel
theorem d_Mo_formed_159 : decode b_Mo_formed 159 = .ok (.iconst 0, 1) := by decide +kernel
theorem d_Mo_formed_160 : decode b_Mo_formed 160 = .ok (.ireturn, 1) := by decide +kernel
theorem d_Mo_formed_161 : decode b_Mo_formed 161 = .ok (.iload_n 3, 1) := by decide +kernel
theorem d_Mo_formed_162 : decode b_Mo_formed 162 = .ok (.invokestatic 488, 3) := by decide +kernel
theorem d_Mo_formed_165 : decode b_Mo_formed 165 = .ok (.ifCond .eq 30, 3) := by decide +kernel
theorem d_Mo_formed_168 : decode b_Mo_formed 168 = .ok (.iload_n 2, 1) := by decide +kernel
theorem d_Mo_formed_169 : decode b_Mo_formed 169 = .ok (.ifCond .eq 24, 3) := by decide +kernel
theorem d_Mo_formed_172 : decode b_Mo_formed 172 = .ok (.aload_n 0, 1) := by decide +kernel
theorem d_Mo_formed_173 : decode b_Mo_formed 173 = .ok (.getfield 71, 3) := by decide +kernel
theorem d_Mo_formed_176 : decode b_Mo_formed 176 = .ok (.aload_n 0, 1) := by decide +kernel
theorem d_Mo_formed_177 : decode b_Mo_formed 177 = .ok (.getfield 53, 3) := by decide +kernel
theorem d_Mo_formed_180 : decode b_Mo_formed 180 = .ok (.iload_n 1, 1) := by decide +kernel
theorem d_Mo_formed_181 : decode b_Mo_formed 181 = .ok (.iaload, 1) := by decide +kernel
theorem d_Mo_formed_182 : decode b_Mo_formed 182 = .ok (.iload_n 2, 1) := by decide +kernel
theorem d_Mo_formed_183 : decode b_Mo_formed 183 = .ok (.iadd, 1) := by decide +kernel
theorem d_Mo_formed_184 : decode b_Mo_formed 184 = .ok (.iconst 1, 1) := by decide +kernel
theorem d_Mo_formed_185 : decode b_Mo_formed 185 = .ok (.isub, 1) := by decide +kernel
theorem d_Mo_formed_186 : decode b_Mo_formed 186 = .ok (.iaload, 1) := by decide +kernel
theorem d_Mo_formed_187 : decode b_Mo_formed 187 = .ok (.invokestatic 492, 3) := by decide +kernel
theorem d_Mo_formed_190 : decode b_Mo_formed 190 = .ok (.ifCond .ne 5, 3) := by decide +kernel
theorem d_Mo_formed_193 : decode b_Mo_formed 193 = .ok (.iconst 0, 1) := by decide +kernel
theorem d_Mo_formed_194 : decode b_Mo_formed 194 = .ok (.ireturn, 1) := by decide +kernel
theorem d_Mo_formed_195 : decode b_Mo_formed 195 = .ok (.iload 4, 2) := by decide +kernel
theorem d_Mo_formed_197 : decode b_Mo_formed 197 = .ok (.bipush 31, 2) := by decide +kernel
theorem d_Mo_formed_199 : decode b_Mo_formed 199 = .ok (.if_icmp .lt 32, 3) := by decide +kernel
theorem d_Mo_formed_202 : decode b_Mo_formed 202 = .ok (.iload 4, 2) := by decide +kernel
theorem d_Mo_formed_204 : decode b_Mo_formed 204 = .ok (.bipush 35, 2) := by decide +kernel
theorem d_Mo_formed_206 : decode b_Mo_formed 206 = .ok (.if_icmp .gt 25, 3) := by decide +kernel
theorem d_Mo_formed_209 : decode b_Mo_formed 209 = .ok (.iload 6, 2) := by decide +kernel
theorem d_Mo_formed_211 : decode b_Mo_formed 211 = .ok (.invokestatic 475, 3) := by decide +kernel
theorem d_Mo_formed_214 : decode b_Mo_formed 214 = .ok (.bipush 30, 2) := by decide +kernel
theorem d_Mo_formed_216 : decode b_Mo_formed 216 = .ok (.if_icmp .ne 13, 3) := by decide +kernel
theorem d_Mo_formed_219 : decode b_Mo_formed 219 = .ok (.aload_n 0, 1) := by decide +kernel
theorem d_Mo_formed_220 : decode b_Mo_formed 220 = .ok (.iload_n 2, 1) := by decide +kernel
theorem d_Mo_formed_221 : decode b_Mo_formed 221 = .ok (.iconst 2, 1) := by decide +kernel
theorem d_Mo_formed_222 : decode b_Mo_formed 222 = .ok (.iadd, 1) := by decide +kernel
theorem d_Mo_formed_223 : decode b_Mo_formed 223 = .ok (.invokevirtual 498, 3) := by decide +kernel
theorem d_Mo_formed_226 : decode b_Mo_formed 226 = .ok (.ifCond .ne 5, 3) := by decide +kernel
theorem d_Mo_formed_229 : decode b_Mo_formed 229 = .ok (.iconst 0, 1) := by decide +kernel
theorem d_Mo_formed_230 : decode b_Mo_formed 230 = .ok (.ireturn, 1) := by decide +kernel
theorem d_Mo_formed_231 : decode b_Mo_formed 231 = .ok (.aload_n 0, 1) := by decide +kernel
theorem d_Mo_formed_232 : decode b_Mo_formed 232 = .ok (.iload_n 1, 1) := by decide +kernel
theorem d_Mo_formed_233 : decode b_Mo_formed 233 = .ok (.iload_n 2, 1) := by decide +kernel
theorem d_Mo_formed_234 : decode b_Mo_formed 234 = .ok (.iload_n 3, 1) := by decide +kernel
theorem d_Mo_formed_235 : decode b_Mo_formed 235 = .ok (.iload 4, 2) := by decide +kernel
theorem d_Mo_formed_237 : decode b_Mo_formed 237 = .ok (.invokevirtual 501, 3) := by decide +kernel
theorem d_Mo_formed_240 : decode b_Mo_formed 240 = .ok (.ireturn, 1) := by decide +kernel
abbrev b_Mo_op : ByteArray := prog_14_method_12_code
def y_Mo_op : MethodName := ⟨R_Mo, "op", "(I)I"⟩
abbrev w_Mo_op : List Cond := .code y_Mo_op b_Mo_op 1 (some .int) :: wA
theorem k_Mo_op : Cond.code y_Mo_op b_Mo_op 1 (some .int) ∈ wA := kinm (show _ ∈ tables_1 from (List.mem_append_right _ (List.mem_append_right _ (List.mem_append_right _ (List.mem_append_right _ (List.mem_append_right _ (List.mem_append_right _ (List.mem_append_right _ (List.mem_append_right _ (List.mem_append_right _ (List.mem_append_right _ (List.mem_append_left _ (List.mem_of_getElem? (l := tables_1_11) (i := 176) (by decide +kernel)))))))))))))) (by decide +kernel)
theorem d_Mo_op_0 : decode b_Mo_op 0 = .ok (.iload_n 0, 1) := by decide +kernel
theorem d_Mo_op_1 : decode b_Mo_op 1 = .ok (.bipush 63, 2) := by decide +kernel
theorem d_Mo_op_3 : decode b_Mo_op 3 = .ok (.iand, 1) := by decide +kernel
theorem d_Mo_op_4 : decode b_Mo_op 4 = .ok (.ireturn, 1) := by decide +kernel
theorem kw_50 : Cond.static y_Mo_op ∈ wA := kinm (show _ ∈ tables_1 from (List.mem_append_right _ (List.mem_append_right _ (List.mem_append_right _ (List.mem_append_right _ (List.mem_append_right _ (List.mem_append_right _ (List.mem_append_right _ (List.mem_append_right _ (List.mem_append_right _ (List.mem_append_right _ (List.mem_append_left _ (List.mem_of_getElem? (l := tables_1_11) (i := 175) (by decide +kernel)))))))))))))) (by decide +kernel)
def M_Mo_op (l0 : Int32) : M (Int32) :=
  oR (l0 &&& 63)

theorem cs_Mo_op : CS y_Mo_op b_Mo_op 1 (some .int) 1 := ⟨kw_50, kw_17, k_Mo_op, by decide +kernel⟩
theorem ct_Mo_op {l : Launch} {P : PP} {q : PL} {s s' : S1} {l0 : Int32} {r : Int32} (h : M_Mo_op l0 s = some (r, s')) : Ct l y_Mo_op b_Mo_op 1 (some .int) 0 0 P q s [.int l0] (some (.int r)) q s' := by
  refine ct_of (by decide) (Nat.le_of_ble_eq_true rfl) fun X ls eP el g hR hl => ?_
  have hR : Rt X q ((r, s') : Int32 × S1).2 (some (.int ((r, s') : Int32 × S1).1)) := hR
  have hl : lv_has ls 1 [(0, .int l0)] := hl
  generalize (r, s') = o at h hR
  unfold M_Mo_op at h
  refine ww_iload_n (pc := 0) g.1 d_Mo_op_0 rfl (lv_at hl 0 rfl) ?_
  refine ww_bipush (pc := 1) g.1 (v := 63) d_Mo_op_1 (by decide) ?_
  refine ww_iand (pc := 3) g.1 d_Mo_op_3 ?_
  exact ww_iretH (pc := 4) g h hR d_Mo_op_4

abbrev b_Mo_makes : ByteArray := prog_14_method_18_code
def y_Mo_makes : MethodName := ⟨R_Mo, "makes", "(I)Z"⟩
abbrev w_Mo_makes : List Cond := .code y_Mo_makes b_Mo_makes 1 (some .boolean) :: wA
theorem k_Mo_makes : Cond.code y_Mo_makes b_Mo_makes 1 (some .boolean) ∈ wA := kinm (show _ ∈ tables_1 from (List.mem_append_right _ (List.mem_append_right _ (List.mem_append_right _ (List.mem_append_right _ (List.mem_append_right _ (List.mem_append_right _ (List.mem_append_right _ (List.mem_append_right _ (List.mem_append_right _ (List.mem_append_right _ (List.mem_append_left _ (List.mem_of_getElem? (l := tables_1_11) (i := 179) (by decide +kernel)))))))))))))) (by decide +kernel)
theorem d_Mo_makes_0 : decode b_Mo_makes 0 = .ok (.iload_n 0, 1) := by decide +kernel
theorem d_Mo_makes_1 : decode b_Mo_makes 1 = .ok (.invokestatic 475, 3) := by decide +kernel
theorem d_Mo_makes_4 : decode b_Mo_makes 4 = .ok (.bipush 36, 2) := by decide +kernel
theorem d_Mo_makes_6 : decode b_Mo_makes 6 = .ok (.if_icmp .ne 10, 3) := by decide +kernel
theorem d_Mo_makes_9 : decode b_Mo_makes 9 = .ok (.iload_n 0, 1) := by decide +kernel
theorem d_Mo_makes_10 : decode b_Mo_makes 10 = .ok (.invokestatic 479, 3) := by decide +kernel
theorem d_Mo_makes_13 : decode b_Mo_makes 13 = .ok (.ifCond .eq 19, 3) := by decide +kernel
theorem d_Mo_makes_16 : decode b_Mo_makes 16 = .ok (.iload_n 0, 1) := by decide +kernel
theorem d_Mo_makes_17 : decode b_Mo_makes 17 = .ok (.invokestatic 475, 3) := by decide +kernel
theorem d_Mo_makes_20 : decode b_Mo_makes 20 = .ok (.bipush 45, 2) := by decide +kernel
theorem d_Mo_makes_22 : decode b_Mo_makes 22 = .ok (.if_icmp .ne 14, 3) := by decide +kernel
theorem d_Mo_makes_25 : decode b_Mo_makes 25 = .ok (.iload_n 0, 1) := by decide +kernel
theorem d_Mo_makes_26 : decode b_Mo_makes 26 = .ok (.invokestatic 482, 3) := by decide +kernel
theorem d_Mo_makes_29 : decode b_Mo_makes 29 = .ok (.ifCond .ne 7, 3) := by decide +kernel
theorem d_Mo_makes_32 : decode b_Mo_makes 32 = .ok (.iconst 1, 1) := by decide +kernel
theorem d_Mo_makes_33 : decode b_Mo_makes 33 = .ok (.goto 4, 3) := by decide +kernel
theorem d_Mo_makes_36 : decode b_Mo_makes 36 = .ok (.iconst 0, 1) := by decide +kernel
theorem d_Mo_makes_37 : decode b_Mo_makes 37 = .ok (.ireturn, 1) := by decide +kernel
abbrev b_Mo_c : ByteArray := prog_14_method_14_code
def y_Mo_c : MethodName := ⟨R_Mo, "c", "(I)I"⟩
abbrev w_Mo_c : List Cond := .code y_Mo_c b_Mo_c 1 (some .int) :: wA
theorem k_Mo_c : Cond.code y_Mo_c b_Mo_c 1 (some .int) ∈ wA := kinm (show _ ∈ tables_1 from (List.mem_append_right _ (List.mem_append_right _ (List.mem_append_right _ (List.mem_append_right _ (List.mem_append_right _ (List.mem_append_right _ (List.mem_append_right _ (List.mem_append_right _ (List.mem_append_right _ (List.mem_append_right _ (List.mem_append_left _ (List.mem_of_getElem? (l := tables_1_11) (i := 182) (by decide +kernel)))))))))))))) (by decide +kernel)
theorem d_Mo_c_0 : decode b_Mo_c 0 = .ok (.iload_n 0, 1) := by decide +kernel
theorem d_Mo_c_1 : decode b_Mo_c 1 = .ok (.bipush 14, 2) := by decide +kernel
theorem d_Mo_c_3 : decode b_Mo_c 3 = .ok (.ishr, 1) := by decide +kernel
theorem d_Mo_c_4 : decode b_Mo_c 4 = .ok (.sipush 511, 3) := by decide +kernel
theorem d_Mo_c_7 : decode b_Mo_c 7 = .ok (.iand, 1) := by decide +kernel
theorem d_Mo_c_8 : decode b_Mo_c 8 = .ok (.ireturn, 1) := by decide +kernel
theorem kw_51 : Cond.static y_Mo_c ∈ wA := kinm (show _ ∈ tables_1 from (List.mem_append_right _ (List.mem_append_right _ (List.mem_append_right _ (List.mem_append_right _ (List.mem_append_right _ (List.mem_append_right _ (List.mem_append_right _ (List.mem_append_right _ (List.mem_append_right _ (List.mem_append_right _ (List.mem_append_left _ (List.mem_of_getElem? (l := tables_1_11) (i := 181) (by decide +kernel)))))))))))))) (by decide +kernel)
def M_Mo_c (l0 : Int32) : M (Int32) :=
  oR ((l0 >>> (14 &&& 31)) &&& 511)

theorem cs_Mo_c : CS y_Mo_c b_Mo_c 1 (some .int) 1 := ⟨kw_51, kw_17, k_Mo_c, by decide +kernel⟩
theorem ct_Mo_c {l : Launch} {P : PP} {q : PL} {s s' : S1} {l0 : Int32} {r : Int32} (h : M_Mo_c l0 s = some (r, s')) : Ct l y_Mo_c b_Mo_c 1 (some .int) 0 0 P q s [.int l0] (some (.int r)) q s' := by
  refine ct_of (by decide) (Nat.le_of_ble_eq_true rfl) fun X ls eP el g hR hl => ?_
  have hR : Rt X q ((r, s') : Int32 × S1).2 (some (.int ((r, s') : Int32 × S1).1)) := hR
  have hl : lv_has ls 1 [(0, .int l0)] := hl
  generalize (r, s') = o at h hR
  unfold M_Mo_c at h
  refine ww_iload_n (pc := 0) g.1 d_Mo_c_0 rfl (lv_at hl 0 rfl) ?_
  refine ww_bipush (pc := 1) g.1 (v := 14) d_Mo_c_1 (by decide) ?_
  refine ww_ishr (pc := 3) g.1 d_Mo_c_3 ?_
  refine ww_sipush (pc := 4) g.1 (v := 511) d_Mo_c_4 (by decide) ?_
  refine ww_iand (pc := 7) g.1 d_Mo_c_7 ?_
  exact ww_iretH (pc := 8) g h hR d_Mo_c_8

abbrev b_Mo_b : ByteArray := prog_14_method_15_code
def y_Mo_b : MethodName := ⟨R_Mo, "b", "(I)I"⟩
abbrev w_Mo_b : List Cond := .code y_Mo_b b_Mo_b 1 (some .int) :: wA
theorem k_Mo_b : Cond.code y_Mo_b b_Mo_b 1 (some .int) ∈ wA := kinm (show _ ∈ tables_1 from (List.mem_append_right _ (List.mem_append_right _ (List.mem_append_right _ (List.mem_append_right _ (List.mem_append_right _ (List.mem_append_right _ (List.mem_append_right _ (List.mem_append_right _ (List.mem_append_right _ (List.mem_append_right _ (List.mem_append_left _ (List.mem_of_getElem? (l := tables_1_11) (i := 185) (by decide +kernel)))))))))))))) (by decide +kernel)
theorem d_Mo_b_0 : decode b_Mo_b 0 = .ok (.iload_n 0, 1) := by decide +kernel
theorem d_Mo_b_1 : decode b_Mo_b 1 = .ok (.bipush 23, 2) := by decide +kernel
theorem d_Mo_b_3 : decode b_Mo_b 3 = .ok (.iushr, 1) := by decide +kernel
theorem d_Mo_b_4 : decode b_Mo_b 4 = .ok (.ireturn, 1) := by decide +kernel
theorem kw_52 : Cond.static y_Mo_b ∈ wA := kinm (show _ ∈ tables_1 from (List.mem_append_right _ (List.mem_append_right _ (List.mem_append_right _ (List.mem_append_right _ (List.mem_append_right _ (List.mem_append_right _ (List.mem_append_right _ (List.mem_append_right _ (List.mem_append_right _ (List.mem_append_right _ (List.mem_append_left _ (List.mem_of_getElem? (l := tables_1_11) (i := 184) (by decide +kernel)))))))))))))) (by decide +kernel)
def M_Mo_b (l0 : Int32) : M (Int32) :=
  oR (iushr l0 (23 : Int32))

theorem cs_Mo_b : CS y_Mo_b b_Mo_b 1 (some .int) 1 := ⟨kw_52, kw_17, k_Mo_b, by decide +kernel⟩
theorem ct_Mo_b {l : Launch} {P : PP} {q : PL} {s s' : S1} {l0 : Int32} {r : Int32} (h : M_Mo_b l0 s = some (r, s')) : Ct l y_Mo_b b_Mo_b 1 (some .int) 0 0 P q s [.int l0] (some (.int r)) q s' := by
  refine ct_of (by decide) (Nat.le_of_ble_eq_true rfl) fun X ls eP el g hR hl => ?_
  have hR : Rt X q ((r, s') : Int32 × S1).2 (some (.int ((r, s') : Int32 × S1).1)) := hR
  have hl : lv_has ls 1 [(0, .int l0)] := hl
  generalize (r, s') = o at h hR
  unfold M_Mo_b at h
  refine ww_iload_n (pc := 0) g.1 d_Mo_b_0 rfl (lv_at hl 0 rfl) ?_
  refine ww_bipush (pc := 1) g.1 (v := 23) d_Mo_b_1 (by decide) ?_
  refine ww_iushr (pc := 3) g.1 (v := iushr l0 (23 : Int32)) d_Mo_b_3 rfl ?_
  exact ww_iretH (pc := 4) g h hR d_Mo_b_4

abbrev b_Mo_a : ByteArray := prog_14_method_13_code
def y_Mo_a : MethodName := ⟨R_Mo, "a", "(I)I"⟩
abbrev w_Mo_a : List Cond := .code y_Mo_a b_Mo_a 1 (some .int) :: wA
theorem k_Mo_a : Cond.code y_Mo_a b_Mo_a 1 (some .int) ∈ wA := kinm (show _ ∈ tables_1 from (List.mem_append_right _ (List.mem_append_right _ (List.mem_append_right _ (List.mem_append_right _ (List.mem_append_right _ (List.mem_append_right _ (List.mem_append_right _ (List.mem_append_right _ (List.mem_append_right _ (List.mem_append_right _ (List.mem_append_left _ (List.mem_of_getElem? (l := tables_1_11) (i := 188) (by decide +kernel)))))))))))))) (by decide +kernel)
theorem d_Mo_a_0 : decode b_Mo_a 0 = .ok (.iload_n 0, 1) := by decide +kernel
theorem d_Mo_a_1 : decode b_Mo_a 1 = .ok (.bipush 6, 2) := by decide +kernel
theorem d_Mo_a_3 : decode b_Mo_a 3 = .ok (.ishr, 1) := by decide +kernel
theorem d_Mo_a_4 : decode b_Mo_a 4 = .ok (.sipush 255, 3) := by decide +kernel
theorem d_Mo_a_7 : decode b_Mo_a 7 = .ok (.iand, 1) := by decide +kernel
theorem d_Mo_a_8 : decode b_Mo_a 8 = .ok (.ireturn, 1) := by decide +kernel
theorem kw_53 : Cond.static y_Mo_a ∈ wA := kinm (show _ ∈ tables_1 from (List.mem_append_right _ (List.mem_append_right _ (List.mem_append_right _ (List.mem_append_right _ (List.mem_append_right _ (List.mem_append_right _ (List.mem_append_right _ (List.mem_append_right _ (List.mem_append_right _ (List.mem_append_right _ (List.mem_append_left _ (List.mem_of_getElem? (l := tables_1_11) (i := 187) (by decide +kernel)))))))))))))) (by decide +kernel)
def M_Mo_a (l0 : Int32) : M (Int32) :=
  oR ((l0 >>> (6 &&& 31)) &&& 255)

theorem cs_Mo_a : CS y_Mo_a b_Mo_a 1 (some .int) 1 := ⟨kw_53, kw_17, k_Mo_a, by decide +kernel⟩
theorem ct_Mo_a {l : Launch} {P : PP} {q : PL} {s s' : S1} {l0 : Int32} {r : Int32} (h : M_Mo_a l0 s = some (r, s')) : Ct l y_Mo_a b_Mo_a 1 (some .int) 0 0 P q s [.int l0] (some (.int r)) q s' := by
  refine ct_of (by decide) (Nat.le_of_ble_eq_true rfl) fun X ls eP el g hR hl => ?_
  have hR : Rt X q ((r, s') : Int32 × S1).2 (some (.int ((r, s') : Int32 × S1).1)) := hR
  have hl : lv_has ls 1 [(0, .int l0)] := hl
  generalize (r, s') = o at h hR
  unfold M_Mo_a at h
  refine ww_iload_n (pc := 0) g.1 d_Mo_a_0 rfl (lv_at hl 0 rfl) ?_
  refine ww_bipush (pc := 1) g.1 (v := 6) d_Mo_a_1 (by decide) ?_
  refine ww_ishr (pc := 3) g.1 d_Mo_a_3 ?_
  refine ww_sipush (pc := 4) g.1 (v := 255) d_Mo_a_4 (by decide) ?_
  refine ww_iand (pc := 7) g.1 d_Mo_a_7 ?_
  exact ww_iretH (pc := 8) g h hR d_Mo_a_8

abbrev b_Mo_uses : ByteArray := prog_14_method_19_code
def y_Mo_uses : MethodName := ⟨R_Mo, "uses", "(I)Z"⟩
abbrev w_Mo_uses : List Cond := .code y_Mo_uses b_Mo_uses 2 (some .boolean) :: wA
theorem k_Mo_uses : Cond.code y_Mo_uses b_Mo_uses 2 (some .boolean) ∈ wA := kinm (show _ ∈ tables_1 from (List.mem_append_right _ (List.mem_append_right _ (List.mem_append_right _ (List.mem_append_right _ (List.mem_append_right _ (List.mem_append_right _ (List.mem_append_right _ (List.mem_append_right _ (List.mem_append_right _ (List.mem_append_right _ (List.mem_append_left _ (List.mem_of_getElem? (l := tables_1_11) (i := 191) (by decide +kernel)))))))))))))) (by decide +kernel)
theorem d_Mo_uses_0 : decode b_Mo_uses 0 = .ok (.iload_n 0, 1) := by decide +kernel
theorem d_Mo_uses_1 : decode b_Mo_uses 1 = .ok (.invokestatic 475, 3) := by decide +kernel
theorem d_Mo_uses_4 : decode b_Mo_uses 4 = .ok (.istore_n 1, 1) := by decide +kernel
theorem d_Mo_uses_5 : decode b_Mo_uses 5 = .ok (.iload_n 1, 1) := by decide +kernel
theorem d_Mo_uses_6 : decode b_Mo_uses 6 = .ok (.bipush 36, 2) := by decide +kernel
theorem d_Mo_uses_8 : decode b_Mo_uses 8 = .ok (.if_icmp .eq 21, 3) := by decide +kernel
theorem d_Mo_uses_11 : decode b_Mo_uses 11 = .ok (.iload_n 1, 1) := by decide +kernel
theorem d_Mo_uses_12 : decode b_Mo_uses 12 = .ok (.bipush 37, 2) := by decide +kernel
theorem d_Mo_uses_14 : decode b_Mo_uses 14 = .ok (.if_icmp .eq 15, 3) := by decide +kernel
theorem d_Mo_uses_17 : decode b_Mo_uses 17 = .ok (.iload_n 1, 1) := by decide +kernel
theorem d_Mo_uses_18 : decode b_Mo_uses 18 = .ok (.bipush 38, 2) := by decide +kernel
theorem d_Mo_uses_20 : decode b_Mo_uses 20 = .ok (.if_icmp .eq 9, 3) := by decide +kernel
theorem d_Mo_uses_23 : decode b_Mo_uses 23 = .ok (.iload_n 1, 1) := by decide +kernel
theorem d_Mo_uses_24 : decode b_Mo_uses 24 = .ok (.bipush 43, 2) := by decide +kernel
theorem d_Mo_uses_26 : decode b_Mo_uses 26 = .ok (.if_icmp .ne 14, 3) := by decide +kernel
theorem d_Mo_uses_29 : decode b_Mo_uses 29 = .ok (.iload_n 0, 1) := by decide +kernel
theorem d_Mo_uses_30 : decode b_Mo_uses 30 = .ok (.invokestatic 482, 3) := by decide +kernel
theorem d_Mo_uses_33 : decode b_Mo_uses 33 = .ok (.ifCond .ne 7, 3) := by decide +kernel
theorem d_Mo_uses_36 : decode b_Mo_uses 36 = .ok (.iconst 1, 1) := by decide +kernel
theorem d_Mo_uses_37 : decode b_Mo_uses 37 = .ok (.goto 4, 3) := by decide +kernel
theorem d_Mo_uses_40 : decode b_Mo_uses 40 = .ok (.iconst 0, 1) := by decide +kernel
theorem d_Mo_uses_41 : decode b_Mo_uses 41 = .ok (.ireturn, 1) := by decide +kernel
theorem kw_54 : Cond.methodLink R_Mo 475 y_Mo_op ∈ wA := kinm (show _ ∈ tables_1 from (List.mem_append_right _ (List.mem_append_right _ (List.mem_append_right _ (List.mem_append_right _ (List.mem_append_right _ (List.mem_append_right _ (List.mem_append_right _ (List.mem_append_right _ (List.mem_append_right _ (List.mem_append_right _ (List.mem_append_left _ (List.mem_of_getElem? (l := tables_1_11) (i := 174) (by decide +kernel)))))))))))))) (by decide +kernel)
theorem kw_55 : Cond.methodLink R_Mo 482 y_Mo_b ∈ wA := kinm (show _ ∈ tables_1 from (List.mem_append_right _ (List.mem_append_right _ (List.mem_append_right _ (List.mem_append_right _ (List.mem_append_right _ (List.mem_append_right _ (List.mem_append_right _ (List.mem_append_right _ (List.mem_append_right _ (List.mem_append_right _ (List.mem_append_left _ (List.mem_of_getElem? (l := tables_1_11) (i := 183) (by decide +kernel)))))))))))))) (by decide +kernel)
theorem kw_56 : Cond.static y_Mo_uses ∈ wA := kinm (show _ ∈ tables_1 from (List.mem_append_right _ (List.mem_append_right _ (List.mem_append_right _ (List.mem_append_right _ (List.mem_append_right _ (List.mem_append_right _ (List.mem_append_right _ (List.mem_append_right _ (List.mem_append_right _ (List.mem_append_right _ (List.mem_append_left _ (List.mem_of_getElem? (l := tables_1_11) (i := 190) (by decide +kernel)))))))))))))) (by decide +kernel)
def M_Mo_uses_j40  : M (Int32) :=
  oR 0

def M_Mo_uses_j29 (l0 : Int32) : M (Int32) :=
  oB (M_Mo_b l0) fun v30 =>
  oC (v30 = 0)
    (oR 1)
    (M_Mo_uses_j40)

def M_Mo_uses (l0 : Int32) : M (Int32) :=
  oB (M_Mo_op l0) fun v1 =>
  oC (v1 = 36)
    (M_Mo_uses_j29 l0)
    (oC (v1 = 37)
      (M_Mo_uses_j29 l0)
      (oC (v1 = 38)
        (M_Mo_uses_j29 l0)
        (oC (v1 = 43)
          (M_Mo_uses_j29 l0)
          (M_Mo_uses_j40))))

theorem cs_Mo_uses : CS y_Mo_uses b_Mo_uses 2 (some .boolean) 1 := ⟨kw_56, kw_17, k_Mo_uses, by decide +kernel⟩
theorem j_Mo_uses_j40 {X : Cx} {q : PL} (g : Gd X y_Mo_uses b_Mo_uses 2 (some .boolean) 1 20 R_Mo) {o : (Int32) × S1} (hR : Rt X q o.2 (some (.int o.1)))  (s : S1) (ls : Array Slot) (hl : lv_has ls 2 []) (h : M_Mo_uses_j40 s = some o) : WW X q s 40 ls [] := by
  unfold M_Mo_uses_j40 at h
  refine ww_iconst (pc := 40) g.1 (v := 0) d_Mo_uses_40 (by decide) ?_
  exact ww_zretH (pc := 41) g h hR (Or.inl rfl) d_Mo_uses_41

theorem j_Mo_uses_j29 {X : Cx} {q : PL} (g : Gd X y_Mo_uses b_Mo_uses 2 (some .boolean) 1 20 R_Mo) {o : (Int32) × S1} (hR : Rt X q o.2 (some (.int o.1))) (l0 : Int32) (s : S1) (ls : Array Slot) (hl : lv_has ls 2 [(0, .int l0)]) (h : M_Mo_uses_j29 l0 s = some o) : WW X q s 29 ls [] := by
  unfold M_Mo_uses_j29 at h
  refine ww_iload_n (pc := 29) g.1 d_Mo_uses_29 rfl (lv_at hl 0 rfl) ?_
  obtain ⟨v30, s, hc30, h⟩ := oB_of h
  refine ww_callS (pc := 30) (rest := []) g cs_Mo_b (Or.inl kw_55) (ct_Mo_b hc30) ⟨by decide, by decide⟩ rfl hl.1 (Nat.le_of_ble_eq_true rfl) d_Mo_uses_30 rfl ?_
  refine ww_st (st' := [.int v30]) rfl ?_
  refine ww_if_ne (pc := 33) (tgt := 40) g.1 d_Mo_uses_33 (by decide) h (fun c h => ?_) (fun c h => ?_)
  · exact j_Mo_uses_j40 g hR s ls (lv_sub hl [] rfl) h
  · refine ww_iconst (pc := 36) g.1 (v := 1) d_Mo_uses_36 (by decide) ?_
    refine ww_goto (pc := 37) (tgt := 41) g.1 d_Mo_uses_37 (by decide) ?_
    exact ww_zretH (pc := 41) g h hR (Or.inr rfl) d_Mo_uses_41

theorem ct_Mo_uses {l : Launch} {P : PP} {q : PL} {s s' : S1} {l0 : Int32} {r : Int32} (h : M_Mo_uses l0 s = some (r, s')) : Ct l y_Mo_uses b_Mo_uses 2 (some .boolean) 1 20 P q s [.int l0] (some (.int r)) q s' := by
  refine ct_of (by decide) (Nat.le_of_ble_eq_true rfl) fun X ls eP el g hR hl => ?_
  have hR : Rt X q ((r, s') : Int32 × S1).2 (some (.int ((r, s') : Int32 × S1).1)) := hR
  have hl : lv_has ls 2 [(0, .int l0)] := hl
  generalize (r, s') = o at h hR
  unfold M_Mo_uses at h
  refine ww_iload_n (pc := 0) g.1 d_Mo_uses_0 rfl (lv_at hl 0 rfl) ?_
  obtain ⟨v1, s, hc1, h⟩ := oB_of h
  refine ww_callS (pc := 1) (rest := []) g cs_Mo_op (Or.inl kw_54) (ct_Mo_op hc1) ⟨by decide, by decide⟩ rfl hl.1 (Nat.le_of_ble_eq_true rfl) d_Mo_uses_1 rfl ?_
  refine ww_st (st' := [.int v1]) rfl ?_
  refine ww_istore_n (pc := 4) g.1 (lv' := [(1, .int v1), (0, .int l0)]) d_Mo_uses_4 rfl hl (by decide) rfl fun ls hl => ?_
  refine ww_iload_n (pc := 5) g.1 d_Mo_uses_5 rfl (lv_at hl 0 rfl) ?_
  refine ww_bipush (pc := 6) g.1 (v := 36) d_Mo_uses_6 (by decide) ?_
  refine ww_icmp_eq (pc := 8) (tgt := 29) g.1 d_Mo_uses_8 (by decide) h (fun c h => ?_) (fun c h => ?_)
  · exact j_Mo_uses_j29 g hR l0 s ls (lv_sub hl [1] rfl) h
  · refine ww_iload_n (pc := 11) g.1 d_Mo_uses_11 rfl (lv_at hl 0 rfl) ?_
    refine ww_bipush (pc := 12) g.1 (v := 37) d_Mo_uses_12 (by decide) ?_
    refine ww_icmp_eq (pc := 14) (tgt := 29) g.1 d_Mo_uses_14 (by decide) h (fun c h => ?_) (fun c h => ?_)
    · exact j_Mo_uses_j29 g hR l0 s ls (lv_sub hl [1] rfl) h
    · refine ww_iload_n (pc := 17) g.1 d_Mo_uses_17 rfl (lv_at hl 0 rfl) ?_
      refine ww_bipush (pc := 18) g.1 (v := 38) d_Mo_uses_18 (by decide) ?_
      refine ww_icmp_eq (pc := 20) (tgt := 29) g.1 d_Mo_uses_20 (by decide) h (fun c h => ?_) (fun c h => ?_)
      · exact j_Mo_uses_j29 g hR l0 s ls (lv_sub hl [1] rfl) h
      · refine ww_iload_n (pc := 23) g.1 d_Mo_uses_23 rfl (lv_at hl 0 rfl) ?_
        refine ww_bipush (pc := 24) g.1 (v := 43) d_Mo_uses_24 (by decide) ?_
        refine ww_icmp_ne (pc := 26) (tgt := 40) g.1 d_Mo_uses_26 (by decide) h (fun c h => ?_) (fun c h => ?_)
        · exact j_Mo_uses_j40 g hR s ls (lv_sub hl [] rfl) h
        · exact j_Mo_uses_j29 g hR l0 s ls (lv_sub hl [1] rfl) h

abbrev b_Mo_goes : ByteArray := prog_14_method_23_code
def y_Mo_goes : MethodName := ⟨R_Mo, "goes", "(I)Z"⟩
abbrev w_Mo_goes : List Cond := .code y_Mo_goes b_Mo_goes 2 (some .boolean) :: wA
theorem k_Mo_goes : Cond.code y_Mo_goes b_Mo_goes 2 (some .boolean) ∈ wA := kinm (show _ ∈ tables_1 from (List.mem_append_right _ (List.mem_append_right _ (List.mem_append_right _ (List.mem_append_right _ (List.mem_append_right _ (List.mem_append_right _ (List.mem_append_right _ (List.mem_append_right _ (List.mem_append_right _ (List.mem_append_right _ (List.mem_append_left _ (List.mem_of_getElem? (l := tables_1_11) (i := 195) (by decide +kernel)))))))))))))) (by decide +kernel)
theorem d_Mo_goes_0 : decode b_Mo_goes 0 = .ok (.iload_n 1, 1) := by decide +kernel
theorem d_Mo_goes_1 : decode b_Mo_goes 1 = .ok (.ifCond .lt 42, 3) := by decide +kernel
theorem d_Mo_goes_4 : decode b_Mo_goes 4 = .ok (.iload_n 1, 1) := by decide +kernel
theorem d_Mo_goes_5 : decode b_Mo_goes 5 = .ok (.aload_n 0, 1) := by decide +kernel
theorem d_Mo_goes_6 : decode b_Mo_goes 6 = .ok (.getfield 56, 3) := by decide +kernel
theorem d_Mo_goes_9 : decode b_Mo_goes 9 = .ok (.aload_n 0, 1) := by decide +kernel
theorem d_Mo_goes_10 : decode b_Mo_goes 10 = .ok (.getfield 113, 3) := by decide +kernel
theorem d_Mo_goes_13 : decode b_Mo_goes 13 = .ok (.iaload, 1) := by decide +kernel
theorem d_Mo_goes_14 : decode b_Mo_goes 14 = .ok (.if_icmp .ge 29, 3) := by decide +kernel
theorem d_Mo_goes_17 : decode b_Mo_goes 17 = .ok (.aload_n 0, 1) := by decide +kernel
theorem d_Mo_goes_18 : decode b_Mo_goes 18 = .ok (.getfield 71, 3) := by decide +kernel
theorem d_Mo_goes_21 : decode b_Mo_goes 21 = .ok (.aload_n 0, 1) := by decide +kernel
theorem d_Mo_goes_22 : decode b_Mo_goes 22 = .ok (.getfield 53, 3) := by decide +kernel
theorem d_Mo_goes_25 : decode b_Mo_goes 25 = .ok (.aload_n 0, 1) := by decide +kernel
theorem d_Mo_goes_26 : decode b_Mo_goes 26 = .ok (.getfield 113, 3) := by decide +kernel
theorem d_Mo_goes_29 : decode b_Mo_goes 29 = .ok (.iaload, 1) := by decide +kernel
theorem d_Mo_goes_30 : decode b_Mo_goes 30 = .ok (.iload_n 1, 1) := by decide +kernel
theorem d_Mo_goes_31 : decode b_Mo_goes 31 = .ok (.iadd, 1) := by decide +kernel
theorem d_Mo_goes_32 : decode b_Mo_goes 32 = .ok (.iaload, 1) := by decide +kernel
theorem d_Mo_goes_33 : decode b_Mo_goes 33 = .ok (.invokestatic 488, 3) := by decide +kernel
theorem d_Mo_goes_36 : decode b_Mo_goes 36 = .ok (.ifCond .ne 7, 3) := by decide +kernel
theorem d_Mo_goes_39 : decode b_Mo_goes 39 = .ok (.iconst 1, 1) := by decide +kernel
theorem d_Mo_goes_40 : decode b_Mo_goes 40 = .ok (.goto 4, 3) := by decide +kernel
theorem d_Mo_goes_43 : decode b_Mo_goes 43 = .ok (.iconst 0, 1) := by decide +kernel
theorem d_Mo_goes_44 : decode b_Mo_goes 44 = .ok (.ireturn, 1) := by decide +kernel
theorem kw_57 : Cond.fieldLink R_Mo 56 "LuaMachineModel" "codes" "[I" ∈ wA := kinm (show _ ∈ tables_1 from (List.mem_append_right _ (List.mem_append_right _ (List.mem_append_right _ (List.mem_append_right _ (List.mem_append_right _ (List.mem_append_right _ (List.mem_append_right _ (List.mem_append_right _ (List.mem_append_right _ (List.mem_append_left _ (List.mem_of_getElem? (l := tables_1_10) (i := 69) (by decide +kernel))))))))))))) (by decide +kernel)
theorem kw_58 : Cond.fieldLink R_Mo 113 "LuaMachineModel" "of" "I" ∈ wA := kinm (show _ ∈ tables_1 from (List.mem_append_right _ (List.mem_append_right _ (List.mem_append_right _ (List.mem_append_right _ (List.mem_append_right _ (List.mem_append_right _ (List.mem_append_right _ (List.mem_append_right _ (List.mem_append_right _ (List.mem_append_left _ (List.mem_of_getElem? (l := tables_1_10) (i := 86) (by decide +kernel))))))))))))) (by decide +kernel)
theorem kw_59 : Cond.fieldLink R_Mo 71 "LuaMachineModel" "code" "[I" ∈ wA := kinm (show _ ∈ tables_1 from (List.mem_append_right _ (List.mem_append_right _ (List.mem_append_right _ (List.mem_append_right _ (List.mem_append_right _ (List.mem_append_right _ (List.mem_append_right _ (List.mem_append_right _ (List.mem_append_right _ (List.mem_append_left _ (List.mem_of_getElem? (l := tables_1_10) (i := 74) (by decide +kernel))))))))))))) (by decide +kernel)
theorem kw_60 : Cond.fieldLink R_Mo 53 "LuaMachineModel" "codeAt" "[I" ∈ wA := kinm (show _ ∈ tables_1 from (List.mem_append_right _ (List.mem_append_right _ (List.mem_append_right _ (List.mem_append_right _ (List.mem_append_right _ (List.mem_append_right _ (List.mem_append_right _ (List.mem_append_right _ (List.mem_append_right _ (List.mem_append_left _ (List.mem_of_getElem? (l := tables_1_10) (i := 68) (by decide +kernel))))))))))))) (by decide +kernel)
theorem kw_61 : Cond.methodLink R_Mo 488 y_Mo_uses ∈ wA := kinm (show _ ∈ tables_1 from (List.mem_append_right _ (List.mem_append_right _ (List.mem_append_right _ (List.mem_append_right _ (List.mem_append_right _ (List.mem_append_right _ (List.mem_append_right _ (List.mem_append_right _ (List.mem_append_right _ (List.mem_append_right _ (List.mem_append_left _ (List.mem_of_getElem? (l := tables_1_11) (i := 189) (by decide +kernel)))))))))))))) (by decide +kernel)
theorem kw_62 : Cond.instanceMethod y_Mo_goes ∈ wA := kinm (show _ ∈ tables_1 from (List.mem_append_right _ (List.mem_append_right _ (List.mem_append_right _ (List.mem_append_right _ (List.mem_append_right _ (List.mem_append_right _ (List.mem_append_right _ (List.mem_append_right _ (List.mem_append_right _ (List.mem_append_right _ (List.mem_append_left _ (List.mem_of_getElem? (l := tables_1_11) (i := 194) (by decide +kernel)))))))))))))) (by decide +kernel)
theorem kw_63 : Cond.selects R_Mo y_Mo_goes y_Mo_goes ∈ wA := kinp 120 (by decide +kernel) (by decide +kernel)
def M_Mo_goes_j43  : M (Int32) :=
  oR 0

def M_Mo_goes (l1 : Int32) : M (Int32) :=
  oC (l1 < 0)
    (M_Mo_goes_j43)
    (oB (oGI 31 0) fun v10 =>
    oB (oAI 50 251 0 v10) fun v13 =>
    oC (v13 ≤ l1)
      (M_Mo_goes_j43)
      (oB (oGI 31 0) fun v26 =>
      oB (oAI 49 251 0 v26) fun v29 =>
      oB (oAI 55 20001 0 (v29 + l1)) fun v32 =>
      oB (M_Mo_uses v32) fun v33 =>
      oC (v33 = 0)
        (oR 1)
        (M_Mo_goes_j43)))

theorem cv_Mo_goes : CV y_Mo_goes b_Mo_goes 2 (some .boolean) 1 := ⟨kw_62, kw_63, kw_17, k_Mo_goes, by decide +kernel⟩
theorem j_Mo_goes_j43 {X : Cx} {q : PL} (g : Gd X y_Mo_goes b_Mo_goes 2 (some .boolean) 2 41 R_Mo) {o : (Int32) × S1} (hR : Rt X q o.2 (some (.int o.1)))  (s : S1) (ls : Array Slot) (hl : lv_has ls 2 []) (h : M_Mo_goes_j43 s = some o) : WW X q s 43 ls [] := by
  unfold M_Mo_goes_j43 at h
  refine ww_iconst (pc := 43) g.1 (v := 0) d_Mo_goes_43 (by decide) ?_
  exact ww_zretH (pc := 44) g h hR (Or.inl rfl) d_Mo_goes_44

theorem ct_Mo_goes {l : Launch} {P : PP} {q : PL} {s s' : S1} {l1 : Int32} {r : Int32} (h : M_Mo_goes l1 s = some (r, s')) : Ct l y_Mo_goes b_Mo_goes 2 (some .boolean) 2 41 P q s [.ref (q.1 0 0), .int l1] (some (.int r)) q s' := by
  refine ct_of (by decide) (Nat.le_of_ble_eq_true rfl) fun X ls eP el g hR hl => ?_
  have hR : Rt X q ((r, s') : Int32 × S1).2 (some (.int ((r, s') : Int32 × S1).1)) := hR
  have hl : lv_has ls 2 [(0, .ref (q.1 0 0)), (1, .int l1)] := hl
  generalize (r, s') = o at h hR
  unfold M_Mo_goes at h
  refine ww_iload_n (pc := 0) g.1 d_Mo_goes_0 rfl (lv_at hl 1 rfl) ?_
  refine ww_if_lt (pc := 1) (tgt := 43) g.1 d_Mo_goes_1 (by decide) h (fun c h => ?_) (fun c h => ?_)
  · exact j_Mo_goes_j43 g hR s ls (lv_sub hl [] rfl) h
  · refine ww_iload_n (pc := 4) g.1 d_Mo_goes_4 rfl (lv_at hl 1 rfl) ?_
    refine ww_aload_n (pc := 5) g.1 d_Mo_goes_5 rfl (lv_at hl 0 rfl) ?_
    refine ww_gR (pc := 6) g (k := 14) cl_Mo (pz rfl (by decide)) (by decide) (Or.inl kw_57) (f := 14) (t := 50) rfl rfl rfl d_Mo_goes_6 ?_
    refine ww_aload_n (pc := 9) g.1 d_Mo_goes_9 rfl (lv_at hl 0 rfl) ?_
    refine ww_gI (pc := 10) g (k := 31) cl_Mo (pz rfl (by decide)) (by decide) (Or.inl kw_58) (f := 31) rfl rfl d_Mo_goes_10 h fun v10 h => ?_
    refine ww_ai (pc := 13) g (pz rfl (by decide)) rfl rfl d_Mo_goes_13 h fun v13 h => ?_
    refine ww_icmp_ge (pc := 14) (tgt := 43) g.1 d_Mo_goes_14 (by decide) h (fun c h => ?_) (fun c h => ?_)
    · exact j_Mo_goes_j43 g hR s ls (lv_sub hl [] rfl) h
    · refine ww_aload_n (pc := 17) g.1 d_Mo_goes_17 rfl (lv_at hl 0 rfl) ?_
      refine ww_gR (pc := 18) g (k := 19) cl_Mo (pz rfl (by decide)) (by decide) (Or.inl kw_59) (f := 19) (t := 55) rfl rfl rfl d_Mo_goes_18 ?_
      refine ww_aload_n (pc := 21) g.1 d_Mo_goes_21 rfl (lv_at hl 0 rfl) ?_
      refine ww_gR (pc := 22) g (k := 13) cl_Mo (pz rfl (by decide)) (by decide) (Or.inl kw_60) (f := 13) (t := 49) rfl rfl rfl d_Mo_goes_22 ?_
      refine ww_aload_n (pc := 25) g.1 d_Mo_goes_25 rfl (lv_at hl 0 rfl) ?_
      refine ww_gI (pc := 26) g (k := 31) cl_Mo (pz rfl (by decide)) (by decide) (Or.inl kw_58) (f := 31) rfl rfl d_Mo_goes_26 h fun v26 h => ?_
      refine ww_ai (pc := 29) g (pz rfl (by decide)) rfl rfl d_Mo_goes_29 h fun v29 h => ?_
      refine ww_iload_n (pc := 30) g.1 d_Mo_goes_30 rfl (lv_at hl 1 rfl) ?_
      refine ww_iadd (pc := 31) g.1 d_Mo_goes_31 ?_
      refine ww_ai (pc := 32) g (pz rfl (by decide)) rfl rfl d_Mo_goes_32 h fun v32 h => ?_
      obtain ⟨v33, s, hc33, h⟩ := oB_of h
      refine ww_callS (pc := 33) (rest := []) g cs_Mo_uses (Or.inl kw_61) (ct_Mo_uses hc33) ⟨by decide, by decide⟩ rfl hl.1 (Nat.le_of_ble_eq_true rfl) d_Mo_goes_33 rfl ?_
      refine ww_st (st' := [.int v33]) rfl ?_
      refine ww_if_ne (pc := 36) (tgt := 43) g.1 d_Mo_goes_36 (by decide) h (fun c h => ?_) (fun c h => ?_)
      · exact j_Mo_goes_j43 g hR s ls (lv_sub hl [] rfl) h
      · refine ww_iconst (pc := 39) g.1 (v := 1) d_Mo_goes_39 (by decide) ?_
        refine ww_goto (pc := 40) (tgt := 44) g.1 d_Mo_goes_40 (by decide) ?_
        exact ww_zretH (pc := 44) g h hR (Or.inr rfl) d_Mo_goes_44

abbrev b_Mo_named : ByteArray := prog_14_method_25_code
def y_Mo_named : MethodName := ⟨R_Mo, "named", "(IIII)Z"⟩
abbrev w_Mo_named : List Cond := .code y_Mo_named b_Mo_named 8 (some .boolean) :: wA
set_option maxRecDepth 20000 in
theorem k_Mo_named : Cond.code y_Mo_named b_Mo_named 8 (some .boolean) ∈ wA := kinm (show _ ∈ tables_1 from (List.mem_append_right _ (List.mem_append_right _ (List.mem_append_right _ (List.mem_append_right _ (List.mem_append_right _ (List.mem_append_right _ (List.mem_append_right _ (List.mem_append_right _ (List.mem_append_right _ (List.mem_append_right _ (List.mem_append_left _ (List.mem_of_getElem? (l := tables_1_11) (i := 199) rfl))))))))))))) rfl
theorem d_Mo_named_0 : decode b_Mo_named 0 = .ok (.iload_n 3, 1) := by decide +kernel
theorem d_Mo_named_1 : decode b_Mo_named 1 = .ok (.invokestatic 495, 3) := by decide +kernel
theorem d_Mo_named_4 : decode b_Mo_named 4 = .ok (.istore 5, 2) := by decide +kernel
theorem d_Mo_named_6 : decode b_Mo_named 6 = .ok (.iload_n 3, 1) := by decide +kernel
theorem d_Mo_named_7 : decode b_Mo_named 7 = .ok (.invokestatic 482, 3) := by decide +kernel
theorem d_Mo_named_10 : decode b_Mo_named 10 = .ok (.istore 6, 2) := by decide +kernel
theorem d_Mo_named_12 : decode b_Mo_named 12 = .ok (.iload_n 3, 1) := by decide +kernel
theorem d_Mo_named_13 : decode b_Mo_named 13 = .ok (.invokestatic 479, 3) := by decide +kernel
theorem d_Mo_named_16 : decode b_Mo_named 16 = .ok (.istore 7, 2) := by decide +kernel
theorem d_Mo_named_18 : decode b_Mo_named 18 = .ok (.iload 4, 2) := by decide +kernel
theorem d_Mo_named_20 : decode b_Mo_named 20 = .ok (.tableswitch 1022 0 45 #[200, 224, 1022, 252, 282, 292, 318, 353, 386, 292, 421, 454, 461, 496, 496, 496, 496, 1022, 1022, 496, 496, 496, 496, 496, 496, 200, 200, 200, 200, 529, 560, 597, 597, 597, 627, 648, 678, 732, 766, 801, 833, 865, 890, 922, 959, 987], 200) := by decide +kernel
theorem d_Mo_named_220 : decode b_Mo_named 220 = .ok (.aload_n 0, 1) := by decide +kernel
theorem d_Mo_named_221 : decode b_Mo_named 221 = .ok (.iload 5, 2) := by decide +kernel
theorem d_Mo_named_223 : decode b_Mo_named 223 = .ok (.invokevirtual 505, 3) := by decide +kernel
theorem d_Mo_named_226 : decode b_Mo_named 226 = .ok (.ifCond .eq 16, 3) := by decide +kernel
theorem d_Mo_named_229 : decode b_Mo_named 229 = .ok (.aload_n 0, 1) := by decide +kernel
theorem d_Mo_named_230 : decode b_Mo_named 230 = .ok (.iload 6, 2) := by decide +kernel
theorem d_Mo_named_232 : decode b_Mo_named 232 = .ok (.invokevirtual 505, 3) := by decide +kernel
theorem d_Mo_named_235 : decode b_Mo_named 235 = .ok (.ifCond .eq 7, 3) := by decide +kernel
theorem d_Mo_named_238 : decode b_Mo_named 238 = .ok (.iconst 1, 1) := by decide +kernel
theorem d_Mo_named_239 : decode b_Mo_named 239 = .ok (.goto 4, 3) := by decide +kernel
theorem d_Mo_named_242 : decode b_Mo_named 242 = .ok (.iconst 0, 1) := by decide +kernel
theorem d_Mo_named_243 : decode b_Mo_named 243 = .ok (.ireturn, 1) := by decide +kernel
theorem d_Mo_named_244 : decode b_Mo_named 244 = .ok (.aload_n 0, 1) := by decide +kernel
theorem d_Mo_named_245 : decode b_Mo_named 245 = .ok (.iload 5, 2) := by decide +kernel
theorem d_Mo_named_247 : decode b_Mo_named 247 = .ok (.invokevirtual 505, 3) := by decide +kernel
theorem d_Mo_named_250 : decode b_Mo_named 250 = .ok (.ifCond .eq 20, 3) := by decide +kernel
theorem d_Mo_named_253 : decode b_Mo_named 253 = .ok (.iload_n 3, 1) := by decide +kernel
theorem d_Mo_named_254 : decode b_Mo_named 254 = .ok (.invokestatic 508, 3) := by decide +kernel
theorem d_Mo_named_257 : decode b_Mo_named 257 = .ok (.aload_n 0, 1) := by decide +kernel
theorem d_Mo_named_258 : decode b_Mo_named 258 = .ok (.getfield 50, 3) := by decide +kernel
theorem d_Mo_named_261 : decode b_Mo_named 261 = .ok (.iload_n 1, 1) := by decide +kernel
theorem d_Mo_named_262 : decode b_Mo_named 262 = .ok (.iaload, 1) := by decide +kernel
theorem d_Mo_named_263 : decode b_Mo_named 263 = .ok (.if_icmp .ge 7, 3) := by decide +kernel
theorem d_Mo_named_266 : decode b_Mo_named 266 = .ok (.iconst 1, 1) := by decide +kernel
theorem d_Mo_named_267 : decode b_Mo_named 267 = .ok (.goto 4, 3) := by decide +kernel
theorem d_Mo_named_270 : decode b_Mo_named 270 = .ok (.iconst 0, 1) := by decide +kernel
theorem d_Mo_named_271 : decode b_Mo_named 271 = .ok (.ireturn, 1) := by decide +kernel
theorem d_Mo_named_272 : decode b_Mo_named 272 = .ok (.aload_n 0, 1) := by decide +kernel
theorem d_Mo_named_273 : decode b_Mo_named 273 = .ok (.iload 5, 2) := by decide +kernel
theorem d_Mo_named_275 : decode b_Mo_named 275 = .ok (.invokevirtual 505, 3) := by decide +kernel
theorem d_Mo_named_278 : decode b_Mo_named 278 = .ok (.ifCond .eq 22, 3) := by decide +kernel
theorem d_Mo_named_281 : decode b_Mo_named 281 = .ok (.iload 7, 2) := by decide +kernel
theorem d_Mo_named_283 : decode b_Mo_named 283 = .ok (.ifCond .eq 13, 3) := by decide +kernel
theorem d_Mo_named_286 : decode b_Mo_named 286 = .ok (.aload_n 0, 1) := by decide +kernel
theorem d_Mo_named_287 : decode b_Mo_named 287 = .ok (.iload_n 2, 1) := by decide +kernel
theorem d_Mo_named_288 : decode b_Mo_named 288 = .ok (.iconst 2, 1) := by decide +kernel
theorem d_Mo_named_289 : decode b_Mo_named 289 = .ok (.iadd, 1) := by decide +kernel
theorem d_Mo_named_290 : decode b_Mo_named 290 = .ok (.invokevirtual 498, 3) := by decide +kernel
theorem d_Mo_named_293 : decode b_Mo_named 293 = .ok (.ifCond .eq 7, 3) := by decide +kernel
theorem d_Mo_named_296 : decode b_Mo_named 296 = .ok (.iconst 1, 1) := by decide +kernel
theorem d_Mo_named_297 : decode b_Mo_named 297 = .ok (.goto 4, 3) := by decide +kernel
theorem d_Mo_named_300 : decode b_Mo_named 300 = .ok (.iconst 0, 1) := by decide +kernel
theorem d_Mo_named_301 : decode b_Mo_named 301 = .ok (.ireturn, 1) := by decide +kernel
theorem d_Mo_named_302 : decode b_Mo_named 302 = .ok (.aload_n 0, 1) := by decide +kernel
theorem d_Mo_named_303 : decode b_Mo_named 303 = .ok (.iload 5, 2) := by decide +kernel
theorem d_Mo_named_305 : decode b_Mo_named 305 = .ok (.iload 6, 2) := by decide +kernel
theorem d_Mo_named_307 : decode b_Mo_named 307 = .ok (.iadd, 1) := by decide +kernel
theorem d_Mo_named_308 : decode b_Mo_named 308 = .ok (.invokevirtual 505, 3) := by decide +kernel
theorem d_Mo_named_311 : decode b_Mo_named 311 = .ok (.ireturn, 1) := by decide +kernel
theorem d_Mo_named_312 : decode b_Mo_named 312 = .ok (.aload_n 0, 1) := by decide +kernel
theorem d_Mo_named_313 : decode b_Mo_named 313 = .ok (.iload 5, 2) := by decide +kernel
theorem d_Mo_named_315 : decode b_Mo_named 315 = .ok (.invokevirtual 505, 3) := by decide +kernel
theorem d_Mo_named_318 : decode b_Mo_named 318 = .ok (.ifCond .eq 18, 3) := by decide +kernel
theorem d_Mo_named_321 : decode b_Mo_named 321 = .ok (.iload 6, 2) := by decide +kernel
theorem d_Mo_named_323 : decode b_Mo_named 323 = .ok (.aload_n 0, 1) := by decide +kernel
theorem d_Mo_named_324 : decode b_Mo_named 324 = .ok (.getfield 41, 3) := by decide +kernel
theorem d_Mo_named_327 : decode b_Mo_named 327 = .ok (.iload_n 1, 1) := by decide +kernel
theorem d_Mo_named_328 : decode b_Mo_named 328 = .ok (.iaload, 1) := by decide +kernel
theorem d_Mo_named_329 : decode b_Mo_named 329 = .ok (.if_icmp .ge 7, 3) := by decide +kernel
theorem d_Mo_named_332 : decode b_Mo_named 332 = .ok (.iconst 1, 1) := by decide +kernel
theorem d_Mo_named_333 : decode b_Mo_named 333 = .ok (.goto 4, 3) := by decide +kernel
theorem d_Mo_named_336 : decode b_Mo_named 336 = .ok (.iconst 0, 1) := by decide +kernel
theorem d_Mo_named_337 : decode b_Mo_named 337 = .ok (.ireturn, 1) := by decide +kernel
theorem d_Mo_named_338 : decode b_Mo_named 338 = .ok (.aload_n 0, 1) := by decide +kernel
theorem d_Mo_named_339 : decode b_Mo_named 339 = .ok (.iload 5, 2) := by decide +kernel
theorem d_Mo_named_341 : decode b_Mo_named 341 = .ok (.invokevirtual 505, 3) := by decide +kernel
theorem d_Mo_named_344 : decode b_Mo_named 344 = .ok (.ifCond .eq 27, 3) := by decide +kernel
theorem d_Mo_named_347 : decode b_Mo_named 347 = .ok (.iload 6, 2) := by decide +kernel
theorem d_Mo_named_349 : decode b_Mo_named 349 = .ok (.aload_n 0, 1) := by decide +kernel
theorem d_Mo_named_350 : decode b_Mo_named 350 = .ok (.getfield 41, 3) := by decide +kernel
theorem d_Mo_named_353 : decode b_Mo_named 353 = .ok (.iload_n 1, 1) := by decide +kernel
theorem d_Mo_named_354 : decode b_Mo_named 354 = .ok (.iaload, 1) := by decide +kernel
theorem d_Mo_named_355 : decode b_Mo_named 355 = .ok (.if_icmp .ge 16, 3) := by decide +kernel
theorem d_Mo_named_358 : decode b_Mo_named 358 = .ok (.aload_n 0, 1) := by decide +kernel
theorem d_Mo_named_359 : decode b_Mo_named 359 = .ok (.iload 7, 2) := by decide +kernel
theorem d_Mo_named_361 : decode b_Mo_named 361 = .ok (.invokevirtual 511, 3) := by decide +kernel
theorem d_Mo_named_364 : decode b_Mo_named 364 = .ok (.ifCond .eq 7, 3) := by decide +kernel
theorem d_Mo_named_367 : decode b_Mo_named 367 = .ok (.iconst 1, 1) := by decide +kernel
theorem d_Mo_named_368 : decode b_Mo_named 368 = .ok (.goto 4, 3) := by decide +kernel
theorem d_Mo_named_371 : decode b_Mo_named 371 = .ok (.iconst 0, 1) := by decide +kernel
theorem d_Mo_named_372 : decode b_Mo_named 372 = .ok (.ireturn, 1) := by decide +kernel
theorem d_Mo_named_373 : decode b_Mo_named 373 = .ok (.aload_n 0, 1) := by decide +kernel
theorem d_Mo_named_374 : decode b_Mo_named 374 = .ok (.iload 5, 2) := by decide +kernel
theorem d_Mo_named_376 : decode b_Mo_named 376 = .ok (.invokevirtual 505, 3) := by decide +kernel
theorem d_Mo_named_379 : decode b_Mo_named 379 = .ok (.ifCond .eq 25, 3) := by decide +kernel
theorem d_Mo_named_382 : decode b_Mo_named 382 = .ok (.aload_n 0, 1) := by decide +kernel
theorem d_Mo_named_383 : decode b_Mo_named 383 = .ok (.iload 6, 2) := by decide +kernel
theorem d_Mo_named_385 : decode b_Mo_named 385 = .ok (.invokevirtual 505, 3) := by decide +kernel
theorem d_Mo_named_388 : decode b_Mo_named 388 = .ok (.ifCond .eq 16, 3) := by decide +kernel
theorem d_Mo_named_391 : decode b_Mo_named 391 = .ok (.aload_n 0, 1) := by decide +kernel
theorem d_Mo_named_392 : decode b_Mo_named 392 = .ok (.iload 7, 2) := by decide +kernel
theorem d_Mo_named_394 : decode b_Mo_named 394 = .ok (.invokevirtual 511, 3) := by decide +kernel
theorem d_Mo_named_397 : decode b_Mo_named 397 = .ok (.ifCond .eq 7, 3) := by decide +kernel
theorem d_Mo_named_400 : decode b_Mo_named 400 = .ok (.iconst 1, 1) := by decide +kernel
theorem d_Mo_named_401 : decode b_Mo_named 401 = .ok (.goto 4, 3) := by decide +kernel
theorem d_Mo_named_404 : decode b_Mo_named 404 = .ok (.iconst 0, 1) := by decide +kernel
theorem d_Mo_named_405 : decode b_Mo_named 405 = .ok (.ireturn, 1) := by decide +kernel
theorem d_Mo_named_406 : decode b_Mo_named 406 = .ok (.iload 5, 2) := by decide +kernel
theorem d_Mo_named_408 : decode b_Mo_named 408 = .ok (.aload_n 0, 1) := by decide +kernel
theorem d_Mo_named_409 : decode b_Mo_named 409 = .ok (.getfield 41, 3) := by decide +kernel
theorem d_Mo_named_412 : decode b_Mo_named 412 = .ok (.iload_n 1, 1) := by decide +kernel
theorem d_Mo_named_413 : decode b_Mo_named 413 = .ok (.iaload, 1) := by decide +kernel
theorem d_Mo_named_414 : decode b_Mo_named 414 = .ok (.if_icmp .ge 25, 3) := by decide +kernel
theorem d_Mo_named_417 : decode b_Mo_named 417 = .ok (.aload_n 0, 1) := by decide +kernel
theorem d_Mo_named_418 : decode b_Mo_named 418 = .ok (.iload 6, 2) := by decide +kernel
theorem d_Mo_named_420 : decode b_Mo_named 420 = .ok (.invokevirtual 511, 3) := by decide +kernel
theorem d_Mo_named_423 : decode b_Mo_named 423 = .ok (.ifCond .eq 16, 3) := by decide +kernel
theorem d_Mo_named_426 : decode b_Mo_named 426 = .ok (.aload_n 0, 1) := by decide +kernel
theorem d_Mo_named_427 : decode b_Mo_named 427 = .ok (.iload 7, 2) := by decide +kernel
theorem d_Mo_named_429 : decode b_Mo_named 429 = .ok (.invokevirtual 511, 3) := by decide +kernel
theorem d_Mo_named_432 : decode b_Mo_named 432 = .ok (.ifCond .eq 7, 3) := by decide +kernel
theorem d_Mo_named_435 : decode b_Mo_named 435 = .ok (.iconst 1, 1) := by decide +kernel
theorem d_Mo_named_436 : decode b_Mo_named 436 = .ok (.goto 4, 3) := by decide +kernel
theorem d_Mo_named_439 : decode b_Mo_named 439 = .ok (.iconst 0, 1) := by decide +kernel
theorem d_Mo_named_440 : decode b_Mo_named 440 = .ok (.ireturn, 1) := by decide +kernel
theorem d_Mo_named_441 : decode b_Mo_named 441 = .ok (.aload_n 0, 1) := by decide +kernel
theorem d_Mo_named_442 : decode b_Mo_named 442 = .ok (.iload 5, 2) := by decide +kernel
theorem d_Mo_named_444 : decode b_Mo_named 444 = .ok (.invokevirtual 505, 3) := by decide +kernel
theorem d_Mo_named_447 : decode b_Mo_named 447 = .ok (.ifCond .eq 25, 3) := by decide +kernel
theorem d_Mo_named_450 : decode b_Mo_named 450 = .ok (.aload_n 0, 1) := by decide +kernel
theorem d_Mo_named_451 : decode b_Mo_named 451 = .ok (.iload 6, 2) := by decide +kernel
theorem d_Mo_named_453 : decode b_Mo_named 453 = .ok (.invokevirtual 511, 3) := by decide +kernel
theorem d_Mo_named_456 : decode b_Mo_named 456 = .ok (.ifCond .eq 16, 3) := by decide +kernel
theorem d_Mo_named_459 : decode b_Mo_named 459 = .ok (.aload_n 0, 1) := by decide +kernel
theorem d_Mo_named_460 : decode b_Mo_named 460 = .ok (.iload 7, 2) := by decide +kernel
theorem d_Mo_named_462 : decode b_Mo_named 462 = .ok (.invokevirtual 511, 3) := by decide +kernel
theorem d_Mo_named_465 : decode b_Mo_named 465 = .ok (.ifCond .eq 7, 3) := by decide +kernel
theorem d_Mo_named_468 : decode b_Mo_named 468 = .ok (.iconst 1, 1) := by decide +kernel
theorem d_Mo_named_469 : decode b_Mo_named 469 = .ok (.goto 4, 3) := by decide +kernel
theorem d_Mo_named_472 : decode b_Mo_named 472 = .ok (.iconst 0, 1) := by decide +kernel
theorem d_Mo_named_473 : decode b_Mo_named 473 = .ok (.ireturn, 1) := by decide +kernel
theorem d_Mo_named_474 : decode b_Mo_named 474 = .ok (.aload_n 0, 1) := by decide +kernel
theorem d_Mo_named_475 : decode b_Mo_named 475 = .ok (.iload 5, 2) := by decide +kernel
theorem d_Mo_named_477 : decode b_Mo_named 477 = .ok (.invokevirtual 505, 3) := by decide +kernel
theorem d_Mo_named_480 : decode b_Mo_named 480 = .ok (.ireturn, 1) := by decide +kernel
theorem d_Mo_named_481 : decode b_Mo_named 481 = .ok (.aload_n 0, 1) := by decide +kernel
theorem d_Mo_named_482 : decode b_Mo_named 482 = .ok (.iload 5, 2) := by decide +kernel
theorem d_Mo_named_484 : decode b_Mo_named 484 = .ok (.iconst 1, 1) := by decide +kernel
theorem d_Mo_named_485 : decode b_Mo_named 485 = .ok (.iadd, 1) := by decide +kernel
theorem d_Mo_named_486 : decode b_Mo_named 486 = .ok (.invokevirtual 505, 3) := by decide +kernel
theorem d_Mo_named_489 : decode b_Mo_named 489 = .ok (.ifCond .eq 25, 3) := by decide +kernel
theorem d_Mo_named_492 : decode b_Mo_named 492 = .ok (.aload_n 0, 1) := by decide +kernel
theorem d_Mo_named_493 : decode b_Mo_named 493 = .ok (.iload 6, 2) := by decide +kernel
theorem d_Mo_named_495 : decode b_Mo_named 495 = .ok (.invokevirtual 505, 3) := by decide +kernel
theorem d_Mo_named_498 : decode b_Mo_named 498 = .ok (.ifCond .eq 16, 3) := by decide +kernel
theorem d_Mo_named_501 : decode b_Mo_named 501 = .ok (.aload_n 0, 1) := by decide +kernel
theorem d_Mo_named_502 : decode b_Mo_named 502 = .ok (.iload 7, 2) := by decide +kernel
theorem d_Mo_named_504 : decode b_Mo_named 504 = .ok (.invokevirtual 511, 3) := by decide +kernel
theorem d_Mo_named_507 : decode b_Mo_named 507 = .ok (.ifCond .eq 7, 3) := by decide +kernel
theorem d_Mo_named_510 : decode b_Mo_named 510 = .ok (.iconst 1, 1) := by decide +kernel
theorem d_Mo_named_511 : decode b_Mo_named 511 = .ok (.goto 4, 3) := by decide +kernel
theorem d_Mo_named_514 : decode b_Mo_named 514 = .ok (.iconst 0, 1) := by decide +kernel
theorem d_Mo_named_515 : decode b_Mo_named 515 = .ok (.ireturn, 1) := by decide +kernel
theorem d_Mo_named_516 : decode b_Mo_named 516 = .ok (.aload_n 0, 1) := by decide +kernel
theorem d_Mo_named_517 : decode b_Mo_named 517 = .ok (.iload 5, 2) := by decide +kernel
theorem d_Mo_named_519 : decode b_Mo_named 519 = .ok (.invokevirtual 505, 3) := by decide +kernel
theorem d_Mo_named_522 : decode b_Mo_named 522 = .ok (.ifCond .eq 25, 3) := by decide +kernel
theorem d_Mo_named_525 : decode b_Mo_named 525 = .ok (.aload_n 0, 1) := by decide +kernel
theorem d_Mo_named_526 : decode b_Mo_named 526 = .ok (.iload 6, 2) := by decide +kernel
theorem d_Mo_named_528 : decode b_Mo_named 528 = .ok (.invokevirtual 511, 3) := by decide +kernel
theorem d_Mo_named_531 : decode b_Mo_named 531 = .ok (.ifCond .eq 16, 3) := by decide +kernel
theorem d_Mo_named_534 : decode b_Mo_named 534 = .ok (.aload_n 0, 1) := by decide +kernel
theorem d_Mo_named_535 : decode b_Mo_named 535 = .ok (.iload 7, 2) := by decide +kernel
theorem d_Mo_named_537 : decode b_Mo_named 537 = .ok (.invokevirtual 511, 3) := by decide +kernel
theorem d_Mo_named_540 : decode b_Mo_named 540 = .ok (.ifCond .eq 7, 3) := by decide +kernel
theorem d_Mo_named_543 : decode b_Mo_named 543 = .ok (.iconst 1, 1) := by decide +kernel
theorem d_Mo_named_544 : decode b_Mo_named 544 = .ok (.goto 4, 3) := by decide +kernel
theorem d_Mo_named_547 : decode b_Mo_named 547 = .ok (.iconst 0, 1) := by decide +kernel
theorem d_Mo_named_548 : decode b_Mo_named 548 = .ok (.ireturn, 1) := by decide +kernel
theorem d_Mo_named_549 : decode b_Mo_named 549 = .ok (.aload_n 0, 1) := by decide +kernel
theorem d_Mo_named_550 : decode b_Mo_named 550 = .ok (.iload 5, 2) := by decide +kernel
theorem d_Mo_named_552 : decode b_Mo_named 552 = .ok (.invokevirtual 505, 3) := by decide +kernel
theorem d_Mo_named_555 : decode b_Mo_named 555 = .ok (.ifCond .eq 23, 3) := by decide +kernel
theorem d_Mo_named_558 : decode b_Mo_named 558 = .ok (.iload 6, 2) := by decide +kernel
theorem d_Mo_named_560 : decode b_Mo_named 560 = .ok (.iload 7, 2) := by decide +kernel
theorem d_Mo_named_562 : decode b_Mo_named 562 = .ok (.if_icmp .ge 16, 3) := by decide +kernel
theorem d_Mo_named_565 : decode b_Mo_named 565 = .ok (.aload_n 0, 1) := by decide +kernel
theorem d_Mo_named_566 : decode b_Mo_named 566 = .ok (.iload 7, 2) := by decide +kernel
theorem d_Mo_named_568 : decode b_Mo_named 568 = .ok (.invokevirtual 505, 3) := by decide +kernel
theorem d_Mo_named_571 : decode b_Mo_named 571 = .ok (.ifCond .eq 7, 3) := by decide +kernel
theorem d_Mo_named_574 : decode b_Mo_named 574 = .ok (.iconst 1, 1) := by decide +kernel
theorem d_Mo_named_575 : decode b_Mo_named 575 = .ok (.goto 4, 3) := by decide +kernel
theorem d_Mo_named_578 : decode b_Mo_named 578 = .ok (.iconst 0, 1) := by decide +kernel
theorem d_Mo_named_579 : decode b_Mo_named 579 = .ok (.ireturn, 1) := by decide +kernel
theorem d_Mo_named_580 : decode b_Mo_named 580 = .ok (.iload 5, 2) := by decide +kernel
theorem d_Mo_named_582 : decode b_Mo_named 582 = .ok (.ifCond .eq 14, 3) := by decide +kernel
theorem d_Mo_named_585 : decode b_Mo_named 585 = .ok (.aload_n 0, 1) := by decide +kernel
theorem d_Mo_named_586 : decode b_Mo_named 586 = .ok (.iload 5, 2) := by decide +kernel
theorem d_Mo_named_588 : decode b_Mo_named 588 = .ok (.iconst 1, 1) := by decide +kernel
theorem d_Mo_named_589 : decode b_Mo_named 589 = .ok (.isub, 1) := by decide +kernel
theorem d_Mo_named_590 : decode b_Mo_named 590 = .ok (.invokevirtual 505, 3) := by decide +kernel
theorem d_Mo_named_593 : decode b_Mo_named 593 = .ok (.ifCond .eq 22, 3) := by decide +kernel
theorem d_Mo_named_596 : decode b_Mo_named 596 = .ok (.aload_n 0, 1) := by decide +kernel
theorem d_Mo_named_597 : decode b_Mo_named 597 = .ok (.iload_n 2, 1) := by decide +kernel
theorem d_Mo_named_598 : decode b_Mo_named 598 = .ok (.iconst 1, 1) := by decide +kernel
theorem d_Mo_named_599 : decode b_Mo_named 599 = .ok (.iadd, 1) := by decide +kernel
theorem d_Mo_named_600 : decode b_Mo_named 600 = .ok (.iload_n 3, 1) := by decide +kernel
theorem d_Mo_named_601 : decode b_Mo_named 601 = .ok (.invokestatic 513, 3) := by decide +kernel
theorem d_Mo_named_604 : decode b_Mo_named 604 = .ok (.iadd, 1) := by decide +kernel
theorem d_Mo_named_605 : decode b_Mo_named 605 = .ok (.invokevirtual 498, 3) := by decide +kernel
theorem d_Mo_named_608 : decode b_Mo_named 608 = .ok (.ifCond .eq 7, 3) := by decide +kernel
theorem d_Mo_named_611 : decode b_Mo_named 611 = .ok (.iconst 1, 1) := by decide +kernel
theorem d_Mo_named_612 : decode b_Mo_named 612 = .ok (.goto 4, 3) := by decide +kernel
theorem d_Mo_named_615 : decode b_Mo_named 615 = .ok (.iconst 0, 1) := by decide +kernel
theorem d_Mo_named_616 : decode b_Mo_named 616 = .ok (.ireturn, 1) := by decide +kernel
theorem d_Mo_named_617 : decode b_Mo_named 617 = .ok (.iload 5, 2) := by decide +kernel
theorem d_Mo_named_619 : decode b_Mo_named 619 = .ok (.iconst 2, 1) := by decide +kernel
theorem d_Mo_named_620 : decode b_Mo_named 620 = .ok (.if_icmp .ge 25, 3) := by decide +kernel
theorem d_Mo_named_623 : decode b_Mo_named 623 = .ok (.aload_n 0, 1) := by decide +kernel
theorem d_Mo_named_624 : decode b_Mo_named 624 = .ok (.iload 6, 2) := by decide +kernel
theorem d_Mo_named_626 : decode b_Mo_named 626 = .ok (.invokevirtual 511, 3) := by decide +kernel
theorem d_Mo_named_629 : decode b_Mo_named 629 = .ok (.ifCond .eq 16, 3) := by decide +kernel
theorem d_Mo_named_632 : decode b_Mo_named 632 = .ok (.aload_n 0, 1) := by decide +kernel
theorem d_Mo_named_633 : decode b_Mo_named 633 = .ok (.iload 7, 2) := by decide +kernel
theorem d_Mo_named_635 : decode b_Mo_named 635 = .ok (.invokevirtual 511, 3) := by decide +kernel
theorem d_Mo_named_638 : decode b_Mo_named 638 = .ok (.ifCond .eq 7, 3) := by decide +kernel
theorem d_Mo_named_641 : decode b_Mo_named 641 = .ok (.iconst 1, 1) := by decide +kernel
theorem d_Mo_named_642 : decode b_Mo_named 642 = .ok (.goto 4, 3) := by decide +kernel
theorem d_Mo_named_645 : decode b_Mo_named 645 = .ok (.iconst 0, 1) := by decide +kernel
theorem d_Mo_named_646 : decode b_Mo_named 646 = .ok (.ireturn, 1) := by decide +kernel
theorem d_Mo_named_647 : decode b_Mo_named 647 = .ok (.aload_n 0, 1) := by decide +kernel
theorem d_Mo_named_648 : decode b_Mo_named 648 = .ok (.iload 5, 2) := by decide +kernel
theorem d_Mo_named_650 : decode b_Mo_named 650 = .ok (.invokevirtual 505, 3) := by decide +kernel
theorem d_Mo_named_653 : decode b_Mo_named 653 = .ok (.ifCond .eq 13, 3) := by decide +kernel
theorem d_Mo_named_656 : decode b_Mo_named 656 = .ok (.iload 7, 2) := by decide +kernel
theorem d_Mo_named_658 : decode b_Mo_named 658 = .ok (.iconst 2, 1) := by decide +kernel
theorem d_Mo_named_659 : decode b_Mo_named 659 = .ok (.if_icmp .ge 7, 3) := by decide +kernel
theorem d_Mo_named_662 : decode b_Mo_named 662 = .ok (.iconst 1, 1) := by decide +kernel
theorem d_Mo_named_663 : decode b_Mo_named 663 = .ok (.goto 4, 3) := by decide +kernel
theorem d_Mo_named_666 : decode b_Mo_named 666 = .ok (.iconst 0, 1) := by decide +kernel
theorem d_Mo_named_667 : decode b_Mo_named 667 = .ok (.ireturn, 1) := by decide +kernel
theorem d_Mo_named_668 : decode b_Mo_named 668 = .ok (.aload_n 0, 1) := by decide +kernel
theorem d_Mo_named_669 : decode b_Mo_named 669 = .ok (.iload 5, 2) := by decide +kernel
theorem d_Mo_named_671 : decode b_Mo_named 671 = .ok (.invokevirtual 505, 3) := by decide +kernel
theorem d_Mo_named_674 : decode b_Mo_named 674 = .ok (.ifCond .eq 22, 3) := by decide +kernel
theorem d_Mo_named_677 : decode b_Mo_named 677 = .ok (.aload_n 0, 1) := by decide +kernel
theorem d_Mo_named_678 : decode b_Mo_named 678 = .ok (.iload 6, 2) := by decide +kernel
theorem d_Mo_named_680 : decode b_Mo_named 680 = .ok (.invokevirtual 505, 3) := by decide +kernel
theorem d_Mo_named_683 : decode b_Mo_named 683 = .ok (.ifCond .eq 13, 3) := by decide +kernel
theorem d_Mo_named_686 : decode b_Mo_named 686 = .ok (.iload 7, 2) := by decide +kernel
theorem d_Mo_named_688 : decode b_Mo_named 688 = .ok (.iconst 2, 1) := by decide +kernel
theorem d_Mo_named_689 : decode b_Mo_named 689 = .ok (.if_icmp .ge 7, 3) := by decide +kernel
theorem d_Mo_named_692 : decode b_Mo_named 692 = .ok (.iconst 1, 1) := by decide +kernel
theorem d_Mo_named_693 : decode b_Mo_named 693 = .ok (.goto 4, 3) := by decide +kernel
theorem d_Mo_named_696 : decode b_Mo_named 696 = .ok (.iconst 0, 1) := by decide +kernel
theorem d_Mo_named_697 : decode b_Mo_named 697 = .ok (.ireturn, 1) := by decide +kernel
theorem d_Mo_named_698 : decode b_Mo_named 698 = .ok (.aload_n 0, 1) := by decide +kernel
theorem d_Mo_named_699 : decode b_Mo_named 699 = .ok (.iload 5, 2) := by decide +kernel
theorem d_Mo_named_701 : decode b_Mo_named 701 = .ok (.invokevirtual 505, 3) := by decide +kernel
theorem d_Mo_named_704 : decode b_Mo_named 704 = .ok (.ifCond .eq 46, 3) := by decide +kernel
theorem d_Mo_named_707 : decode b_Mo_named 707 = .ok (.iload 6, 2) := by decide +kernel
theorem d_Mo_named_709 : decode b_Mo_named 709 = .ok (.ifCond .eq 17, 3) := by decide +kernel
theorem d_Mo_named_712 : decode b_Mo_named 712 = .ok (.aload_n 0, 1) := by decide +kernel
theorem d_Mo_named_713 : decode b_Mo_named 713 = .ok (.iload 5, 2) := by decide +kernel
theorem d_Mo_named_715 : decode b_Mo_named 715 = .ok (.iload 6, 2) := by decide +kernel
theorem d_Mo_named_717 : decode b_Mo_named 717 = .ok (.iadd, 1) := by decide +kernel
theorem d_Mo_named_718 : decode b_Mo_named 718 = .ok (.iconst 1, 1) := by decide +kernel
theorem d_Mo_named_719 : decode b_Mo_named 719 = .ok (.isub, 1) := by decide +kernel
theorem d_Mo_named_720 : decode b_Mo_named 720 = .ok (.invokevirtual 505, 3) := by decide +kernel
theorem d_Mo_named_723 : decode b_Mo_named 723 = .ok (.ifCond .eq 27, 3) := by decide +kernel
theorem d_Mo_named_726 : decode b_Mo_named 726 = .ok (.iload 7, 2) := by decide +kernel
theorem d_Mo_named_728 : decode b_Mo_named 728 = .ok (.iconst 2, 1) := by decide +kernel
theorem d_Mo_named_729 : decode b_Mo_named 729 = .ok (.if_icmp .lt 17, 3) := by decide +kernel
theorem d_Mo_named_732 : decode b_Mo_named 732 = .ok (.aload_n 0, 1) := by decide +kernel
theorem d_Mo_named_733 : decode b_Mo_named 733 = .ok (.iload 5, 2) := by decide +kernel
theorem d_Mo_named_735 : decode b_Mo_named 735 = .ok (.iload 7, 2) := by decide +kernel
theorem d_Mo_named_737 : decode b_Mo_named 737 = .ok (.iadd, 1) := by decide +kernel
theorem d_Mo_named_738 : decode b_Mo_named 738 = .ok (.iconst 2, 1) := by decide +kernel
theorem d_Mo_named_739 : decode b_Mo_named 739 = .ok (.isub, 1) := by decide +kernel
theorem d_Mo_named_740 : decode b_Mo_named 740 = .ok (.invokevirtual 505, 3) := by decide +kernel
theorem d_Mo_named_743 : decode b_Mo_named 743 = .ok (.ifCond .eq 7, 3) := by decide +kernel
theorem d_Mo_named_746 : decode b_Mo_named 746 = .ok (.iconst 1, 1) := by decide +kernel
theorem d_Mo_named_747 : decode b_Mo_named 747 = .ok (.goto 4, 3) := by decide +kernel
theorem d_Mo_named_750 : decode b_Mo_named 750 = .ok (.iconst 0, 1) := by decide +kernel
theorem d_Mo_named_751 : decode b_Mo_named 751 = .ok (.ireturn, 1) := by decide +kernel
theorem d_Mo_named_752 : decode b_Mo_named 752 = .ok (.aload_n 0, 1) := by decide +kernel
theorem d_Mo_named_753 : decode b_Mo_named 753 = .ok (.iload 5, 2) := by decide +kernel
theorem d_Mo_named_755 : decode b_Mo_named 755 = .ok (.invokevirtual 505, 3) := by decide +kernel
theorem d_Mo_named_758 : decode b_Mo_named 758 = .ok (.ifCond .eq 26, 3) := by decide +kernel
theorem d_Mo_named_761 : decode b_Mo_named 761 = .ok (.iload 6, 2) := by decide +kernel
theorem d_Mo_named_763 : decode b_Mo_named 763 = .ok (.ifCond .eq 17, 3) := by decide +kernel
theorem d_Mo_named_766 : decode b_Mo_named 766 = .ok (.aload_n 0, 1) := by decide +kernel
theorem d_Mo_named_767 : decode b_Mo_named 767 = .ok (.iload 5, 2) := by decide +kernel
theorem d_Mo_named_769 : decode b_Mo_named 769 = .ok (.iload 6, 2) := by decide +kernel
theorem d_Mo_named_771 : decode b_Mo_named 771 = .ok (.iadd, 1) := by decide +kernel
theorem d_Mo_named_772 : decode b_Mo_named 772 = .ok (.iconst 1, 1) := by decide +kernel
theorem d_Mo_named_773 : decode b_Mo_named 773 = .ok (.isub, 1) := by decide +kernel
theorem d_Mo_named_774 : decode b_Mo_named 774 = .ok (.invokevirtual 505, 3) := by decide +kernel
theorem d_Mo_named_777 : decode b_Mo_named 777 = .ok (.ifCond .eq 7, 3) := by decide +kernel
theorem d_Mo_named_780 : decode b_Mo_named 780 = .ok (.iconst 1, 1) := by decide +kernel
theorem d_Mo_named_781 : decode b_Mo_named 781 = .ok (.goto 4, 3) := by decide +kernel
theorem d_Mo_named_784 : decode b_Mo_named 784 = .ok (.iconst 0, 1) := by decide +kernel
theorem d_Mo_named_785 : decode b_Mo_named 785 = .ok (.ireturn, 1) := by decide +kernel
theorem d_Mo_named_786 : decode b_Mo_named 786 = .ok (.aload_n 0, 1) := by decide +kernel
theorem d_Mo_named_787 : decode b_Mo_named 787 = .ok (.iload 5, 2) := by decide +kernel
theorem d_Mo_named_789 : decode b_Mo_named 789 = .ok (.invokevirtual 505, 3) := by decide +kernel
theorem d_Mo_named_792 : decode b_Mo_named 792 = .ok (.ifCond .eq 27, 3) := by decide +kernel
theorem d_Mo_named_795 : decode b_Mo_named 795 = .ok (.iload 6, 2) := by decide +kernel
theorem d_Mo_named_797 : decode b_Mo_named 797 = .ok (.iconst 2, 1) := by decide +kernel
theorem d_Mo_named_798 : decode b_Mo_named 798 = .ok (.if_icmp .lt 17, 3) := by decide +kernel
theorem d_Mo_named_801 : decode b_Mo_named 801 = .ok (.aload_n 0, 1) := by decide +kernel
theorem d_Mo_named_802 : decode b_Mo_named 802 = .ok (.iload 5, 2) := by decide +kernel
theorem d_Mo_named_804 : decode b_Mo_named 804 = .ok (.iload 6, 2) := by decide +kernel
theorem d_Mo_named_806 : decode b_Mo_named 806 = .ok (.iadd, 1) := by decide +kernel
theorem d_Mo_named_807 : decode b_Mo_named 807 = .ok (.iconst 2, 1) := by decide +kernel
theorem d_Mo_named_808 : decode b_Mo_named 808 = .ok (.isub, 1) := by decide +kernel
theorem d_Mo_named_809 : decode b_Mo_named 809 = .ok (.invokevirtual 505, 3) := by decide +kernel
theorem d_Mo_named_812 : decode b_Mo_named 812 = .ok (.ifCond .eq 7, 3) := by decide +kernel
theorem d_Mo_named_815 : decode b_Mo_named 815 = .ok (.iconst 1, 1) := by decide +kernel
theorem d_Mo_named_816 : decode b_Mo_named 816 = .ok (.goto 4, 3) := by decide +kernel
theorem d_Mo_named_819 : decode b_Mo_named 819 = .ok (.iconst 0, 1) := by decide +kernel
theorem d_Mo_named_820 : decode b_Mo_named 820 = .ok (.ireturn, 1) := by decide +kernel
theorem d_Mo_named_821 : decode b_Mo_named 821 = .ok (.aload_n 0, 1) := by decide +kernel
theorem d_Mo_named_822 : decode b_Mo_named 822 = .ok (.iload 5, 2) := by decide +kernel
theorem d_Mo_named_824 : decode b_Mo_named 824 = .ok (.iconst 3, 1) := by decide +kernel
theorem d_Mo_named_825 : decode b_Mo_named 825 = .ok (.iadd, 1) := by decide +kernel
theorem d_Mo_named_826 : decode b_Mo_named 826 = .ok (.invokevirtual 505, 3) := by decide +kernel
theorem d_Mo_named_829 : decode b_Mo_named 829 = .ok (.ifCond .eq 22, 3) := by decide +kernel
theorem d_Mo_named_832 : decode b_Mo_named 832 = .ok (.aload_n 0, 1) := by decide +kernel
theorem d_Mo_named_833 : decode b_Mo_named 833 = .ok (.iload_n 2, 1) := by decide +kernel
theorem d_Mo_named_834 : decode b_Mo_named 834 = .ok (.iconst 1, 1) := by decide +kernel
theorem d_Mo_named_835 : decode b_Mo_named 835 = .ok (.iadd, 1) := by decide +kernel
theorem d_Mo_named_836 : decode b_Mo_named 836 = .ok (.iload_n 3, 1) := by decide +kernel
theorem d_Mo_named_837 : decode b_Mo_named 837 = .ok (.invokestatic 513, 3) := by decide +kernel
theorem d_Mo_named_840 : decode b_Mo_named 840 = .ok (.iadd, 1) := by decide +kernel
theorem d_Mo_named_841 : decode b_Mo_named 841 = .ok (.invokevirtual 498, 3) := by decide +kernel
theorem d_Mo_named_844 : decode b_Mo_named 844 = .ok (.ifCond .eq 7, 3) := by decide +kernel
theorem d_Mo_named_847 : decode b_Mo_named 847 = .ok (.iconst 1, 1) := by decide +kernel
theorem d_Mo_named_848 : decode b_Mo_named 848 = .ok (.goto 4, 3) := by decide +kernel
theorem d_Mo_named_851 : decode b_Mo_named 851 = .ok (.iconst 0, 1) := by decide +kernel
theorem d_Mo_named_852 : decode b_Mo_named 852 = .ok (.ireturn, 1) := by decide +kernel
theorem d_Mo_named_853 : decode b_Mo_named 853 = .ok (.aload_n 0, 1) := by decide +kernel
theorem d_Mo_named_854 : decode b_Mo_named 854 = .ok (.iload 5, 2) := by decide +kernel
theorem d_Mo_named_856 : decode b_Mo_named 856 = .ok (.iconst 3, 1) := by decide +kernel
theorem d_Mo_named_857 : decode b_Mo_named 857 = .ok (.iadd, 1) := by decide +kernel
theorem d_Mo_named_858 : decode b_Mo_named 858 = .ok (.invokevirtual 505, 3) := by decide +kernel
theorem d_Mo_named_861 : decode b_Mo_named 861 = .ok (.ifCond .eq 22, 3) := by decide +kernel
theorem d_Mo_named_864 : decode b_Mo_named 864 = .ok (.aload_n 0, 1) := by decide +kernel
theorem d_Mo_named_865 : decode b_Mo_named 865 = .ok (.iload_n 2, 1) := by decide +kernel
theorem d_Mo_named_866 : decode b_Mo_named 866 = .ok (.iconst 1, 1) := by decide +kernel
theorem d_Mo_named_867 : decode b_Mo_named 867 = .ok (.iadd, 1) := by decide +kernel
theorem d_Mo_named_868 : decode b_Mo_named 868 = .ok (.iload_n 3, 1) := by decide +kernel
theorem d_Mo_named_869 : decode b_Mo_named 869 = .ok (.invokestatic 513, 3) := by decide +kernel
theorem d_Mo_named_872 : decode b_Mo_named 872 = .ok (.iadd, 1) := by decide +kernel
theorem d_Mo_named_873 : decode b_Mo_named 873 = .ok (.invokevirtual 498, 3) := by decide +kernel
theorem d_Mo_named_876 : decode b_Mo_named 876 = .ok (.ifCond .eq 7, 3) := by decide +kernel
theorem d_Mo_named_879 : decode b_Mo_named 879 = .ok (.iconst 1, 1) := by decide +kernel
theorem d_Mo_named_880 : decode b_Mo_named 880 = .ok (.goto 4, 3) := by decide +kernel
theorem d_Mo_named_883 : decode b_Mo_named 883 = .ok (.iconst 0, 1) := by decide +kernel
theorem d_Mo_named_884 : decode b_Mo_named 884 = .ok (.ireturn, 1) := by decide +kernel
theorem d_Mo_named_885 : decode b_Mo_named 885 = .ok (.iload 7, 2) := by decide +kernel
theorem d_Mo_named_887 : decode b_Mo_named 887 = .ok (.ifCond .le 21, 3) := by decide +kernel
theorem d_Mo_named_890 : decode b_Mo_named 890 = .ok (.aload_n 0, 1) := by decide +kernel
theorem d_Mo_named_891 : decode b_Mo_named 891 = .ok (.iload 5, 2) := by decide +kernel
theorem d_Mo_named_893 : decode b_Mo_named 893 = .ok (.iconst 2, 1) := by decide +kernel
theorem d_Mo_named_894 : decode b_Mo_named 894 = .ok (.iadd, 1) := by decide +kernel
theorem d_Mo_named_895 : decode b_Mo_named 895 = .ok (.iload 7, 2) := by decide +kernel
theorem d_Mo_named_897 : decode b_Mo_named 897 = .ok (.iadd, 1) := by decide +kernel
theorem d_Mo_named_898 : decode b_Mo_named 898 = .ok (.invokevirtual 505, 3) := by decide +kernel
theorem d_Mo_named_901 : decode b_Mo_named 901 = .ok (.ifCond .eq 7, 3) := by decide +kernel
theorem d_Mo_named_904 : decode b_Mo_named 904 = .ok (.iconst 1, 1) := by decide +kernel
theorem d_Mo_named_905 : decode b_Mo_named 905 = .ok (.goto 4, 3) := by decide +kernel
theorem d_Mo_named_908 : decode b_Mo_named 908 = .ok (.iconst 0, 1) := by decide +kernel
theorem d_Mo_named_909 : decode b_Mo_named 909 = .ok (.ireturn, 1) := by decide +kernel
theorem d_Mo_named_910 : decode b_Mo_named 910 = .ok (.aload_n 0, 1) := by decide +kernel
theorem d_Mo_named_911 : decode b_Mo_named 911 = .ok (.iload 5, 2) := by decide +kernel
theorem d_Mo_named_913 : decode b_Mo_named 913 = .ok (.iconst 1, 1) := by decide +kernel
theorem d_Mo_named_914 : decode b_Mo_named 914 = .ok (.iadd, 1) := by decide +kernel
theorem d_Mo_named_915 : decode b_Mo_named 915 = .ok (.invokevirtual 505, 3) := by decide +kernel
theorem d_Mo_named_918 : decode b_Mo_named 918 = .ok (.ifCond .eq 22, 3) := by decide +kernel
theorem d_Mo_named_921 : decode b_Mo_named 921 = .ok (.aload_n 0, 1) := by decide +kernel
theorem d_Mo_named_922 : decode b_Mo_named 922 = .ok (.iload_n 2, 1) := by decide +kernel
theorem d_Mo_named_923 : decode b_Mo_named 923 = .ok (.iconst 1, 1) := by decide +kernel
theorem d_Mo_named_924 : decode b_Mo_named 924 = .ok (.iadd, 1) := by decide +kernel
theorem d_Mo_named_925 : decode b_Mo_named 925 = .ok (.iload_n 3, 1) := by decide +kernel
theorem d_Mo_named_926 : decode b_Mo_named 926 = .ok (.invokestatic 513, 3) := by decide +kernel
theorem d_Mo_named_929 : decode b_Mo_named 929 = .ok (.iadd, 1) := by decide +kernel
theorem d_Mo_named_930 : decode b_Mo_named 930 = .ok (.invokevirtual 498, 3) := by decide +kernel
theorem d_Mo_named_933 : decode b_Mo_named 933 = .ok (.ifCond .eq 7, 3) := by decide +kernel
theorem d_Mo_named_936 : decode b_Mo_named 936 = .ok (.iconst 1, 1) := by decide +kernel
theorem d_Mo_named_937 : decode b_Mo_named 937 = .ok (.goto 4, 3) := by decide +kernel
theorem d_Mo_named_940 : decode b_Mo_named 940 = .ok (.iconst 0, 1) := by decide +kernel
theorem d_Mo_named_941 : decode b_Mo_named 941 = .ok (.ireturn, 1) := by decide +kernel
theorem d_Mo_named_942 : decode b_Mo_named 942 = .ok (.iload 7, 2) := by decide +kernel
theorem d_Mo_named_944 : decode b_Mo_named 944 = .ok (.ifCond .le 33, 3) := by decide +kernel
theorem d_Mo_named_947 : decode b_Mo_named 947 = .ok (.aload_n 0, 1) := by decide +kernel
theorem d_Mo_named_948 : decode b_Mo_named 948 = .ok (.iload 5, 2) := by decide +kernel
theorem d_Mo_named_950 : decode b_Mo_named 950 = .ok (.invokevirtual 505, 3) := by decide +kernel
theorem d_Mo_named_953 : decode b_Mo_named 953 = .ok (.ifCond .eq 24, 3) := by decide +kernel
theorem d_Mo_named_956 : decode b_Mo_named 956 = .ok (.iload 6, 2) := by decide +kernel
theorem d_Mo_named_958 : decode b_Mo_named 958 = .ok (.ifCond .eq 15, 3) := by decide +kernel
theorem d_Mo_named_961 : decode b_Mo_named 961 = .ok (.aload_n 0, 1) := by decide +kernel
theorem d_Mo_named_962 : decode b_Mo_named 962 = .ok (.iload 5, 2) := by decide +kernel
theorem d_Mo_named_964 : decode b_Mo_named 964 = .ok (.iload 6, 2) := by decide +kernel
theorem d_Mo_named_966 : decode b_Mo_named 966 = .ok (.iadd, 1) := by decide +kernel
theorem d_Mo_named_967 : decode b_Mo_named 967 = .ok (.invokevirtual 505, 3) := by decide +kernel
theorem d_Mo_named_970 : decode b_Mo_named 970 = .ok (.ifCond .eq 7, 3) := by decide +kernel
theorem d_Mo_named_973 : decode b_Mo_named 973 = .ok (.iconst 1, 1) := by decide +kernel
theorem d_Mo_named_974 : decode b_Mo_named 974 = .ok (.goto 4, 3) := by decide +kernel
theorem d_Mo_named_977 : decode b_Mo_named 977 = .ok (.iconst 0, 1) := by decide +kernel
theorem d_Mo_named_978 : decode b_Mo_named 978 = .ok (.ireturn, 1) := by decide +kernel
theorem d_Mo_named_979 : decode b_Mo_named 979 = .ok (.aload_n 0, 1) := by decide +kernel
theorem d_Mo_named_980 : decode b_Mo_named 980 = .ok (.iload 5, 2) := by decide +kernel
theorem d_Mo_named_982 : decode b_Mo_named 982 = .ok (.invokevirtual 505, 3) := by decide +kernel
theorem d_Mo_named_985 : decode b_Mo_named 985 = .ok (.ifCond .eq 20, 3) := by decide +kernel
theorem d_Mo_named_988 : decode b_Mo_named 988 = .ok (.iload_n 3, 1) := by decide +kernel
theorem d_Mo_named_989 : decode b_Mo_named 989 = .ok (.invokestatic 508, 3) := by decide +kernel
theorem d_Mo_named_992 : decode b_Mo_named 992 = .ok (.aload_n 0, 1) := by decide +kernel
theorem d_Mo_named_993 : decode b_Mo_named 993 = .ok (.getfield 62, 3) := by decide +kernel
theorem d_Mo_named_996 : decode b_Mo_named 996 = .ok (.iload_n 1, 1) := by decide +kernel
theorem d_Mo_named_997 : decode b_Mo_named 997 = .ok (.iaload, 1) := by decide +kernel
theorem d_Mo_named_998 : decode b_Mo_named 998 = .ok (.if_icmp .ge 7, 3) := by decide +kernel
theorem d_Mo_named_1001 : decode b_Mo_named 1001 = .ok (.iconst 1, 1) := by decide +kernel
theorem d_Mo_named_1002 : decode b_Mo_named 1002 = .ok (.goto 4, 3) := by decide +kernel
theorem d_Mo_named_1005 : decode b_Mo_named 1005 = .ok (.iconst 0, 1) := by decide +kernel
theorem d_Mo_named_1006 : decode b_Mo_named 1006 = .ok (.ireturn, 1) := by decide +kernel
theorem d_Mo_named_1007 : decode b_Mo_named 1007 = .ok (.aload_n 0, 1) := by decide +kernel
theorem d_Mo_named_1008 : decode b_Mo_named 1008 = .ok (.iload 5, 2) := by decide +kernel
theorem d_Mo_named_1010 : decode b_Mo_named 1010 = .ok (.invokevirtual 505, 3) := by decide +kernel
theorem d_Mo_named_1013 : decode b_Mo_named 1013 = .ok (.ifCond .eq 27, 3) := by decide +kernel
theorem d_Mo_named_1016 : decode b_Mo_named 1016 = .ok (.iload 6, 2) := by decide +kernel
theorem d_Mo_named_1018 : decode b_Mo_named 1018 = .ok (.iconst 2, 1) := by decide +kernel
theorem d_Mo_named_1019 : decode b_Mo_named 1019 = .ok (.if_icmp .lt 17, 3) := by decide +kernel
theorem d_Mo_named_1022 : decode b_Mo_named 1022 = .ok (.aload_n 0, 1) := by decide +kernel
theorem d_Mo_named_1023 : decode b_Mo_named 1023 = .ok (.iload 5, 2) := by decide +kernel
theorem d_Mo_named_1025 : decode b_Mo_named 1025 = .ok (.iload 6, 2) := by decide +kernel
theorem d_Mo_named_1027 : decode b_Mo_named 1027 = .ok (.iadd, 1) := by decide +kernel
theorem d_Mo_named_1028 : decode b_Mo_named 1028 = .ok (.iconst 2, 1) := by decide +kernel
theorem d_Mo_named_1029 : decode b_Mo_named 1029 = .ok (.isub, 1) := by decide +kernel
theorem d_Mo_named_1030 : decode b_Mo_named 1030 = .ok (.invokevirtual 505, 3) := by decide +kernel
theorem d_Mo_named_1033 : decode b_Mo_named 1033 = .ok (.ifCond .eq 7, 3) := by decide +kernel
theorem d_Mo_named_1036 : decode b_Mo_named 1036 = .ok (.iconst 1, 1) := by decide +kernel
theorem d_Mo_named_1037 : decode b_Mo_named 1037 = .ok (.goto 4, 3) := by decide +kernel
theorem d_Mo_named_1040 : decode b_Mo_named 1040 = .ok (.iconst 0, 1) := by decide +kernel
theorem d_Mo_named_1041 : decode b_Mo_named 1041 = .ok (.ireturn, 1) := by decide +kernel
theorem d_Mo_named_1042 : decode b_Mo_named 1042 = .ok (.iconst 0, 1) := by decide +kernel
theorem d_Mo_named_1043 : decode b_Mo_named 1043 = .ok (.ireturn, 1) := by decide +kernel
abbrev b_Mo_reg : ByteArray := prog_14_method_21_code
def y_Mo_reg : MethodName := ⟨R_Mo, "reg", "(I)Z"⟩
abbrev w_Mo_reg : List Cond := .code y_Mo_reg b_Mo_reg 2 (some .boolean) :: wA
theorem k_Mo_reg : Cond.code y_Mo_reg b_Mo_reg 2 (some .boolean) ∈ wA := kinm (show _ ∈ tables_1 from (List.mem_append_right _ (List.mem_append_right _ (List.mem_append_right _ (List.mem_append_right _ (List.mem_append_right _ (List.mem_append_right _ (List.mem_append_right _ (List.mem_append_right _ (List.mem_append_right _ (List.mem_append_right _ (List.mem_append_left _ (List.mem_of_getElem? (l := tables_1_11) (i := 203) (by decide +kernel)))))))))))))) (by decide +kernel)
theorem d_Mo_reg_0 : decode b_Mo_reg 0 = .ok (.iload_n 1, 1) := by decide +kernel
theorem d_Mo_reg_1 : decode b_Mo_reg 1 = .ok (.aload_n 0, 1) := by decide +kernel
theorem d_Mo_reg_2 : decode b_Mo_reg 2 = .ok (.getfield 110, 3) := by decide +kernel
theorem d_Mo_reg_5 : decode b_Mo_reg 5 = .ok (.if_icmp .ge 7, 3) := by decide +kernel
theorem d_Mo_reg_8 : decode b_Mo_reg 8 = .ok (.iconst 1, 1) := by decide +kernel
theorem d_Mo_reg_9 : decode b_Mo_reg 9 = .ok (.goto 4, 3) := by decide +kernel
theorem d_Mo_reg_12 : decode b_Mo_reg 12 = .ok (.iconst 0, 1) := by decide +kernel
theorem d_Mo_reg_13 : decode b_Mo_reg 13 = .ok (.ireturn, 1) := by decide +kernel
theorem kw_64 : Cond.fieldLink R_Mo 110 "LuaMachineModel" "m" "I" ∈ wA := kinm (show _ ∈ tables_1 from (List.mem_append_right _ (List.mem_append_right _ (List.mem_append_right _ (List.mem_append_right _ (List.mem_append_right _ (List.mem_append_right _ (List.mem_append_right _ (List.mem_append_right _ (List.mem_append_right _ (List.mem_append_left _ (List.mem_of_getElem? (l := tables_1_10) (i := 85) (by decide +kernel))))))))))))) (by decide +kernel)
theorem kw_65 : Cond.instanceMethod y_Mo_reg ∈ wA := kinm (show _ ∈ tables_1 from (List.mem_append_right _ (List.mem_append_right _ (List.mem_append_right _ (List.mem_append_right _ (List.mem_append_right _ (List.mem_append_right _ (List.mem_append_right _ (List.mem_append_right _ (List.mem_append_right _ (List.mem_append_right _ (List.mem_append_left _ (List.mem_of_getElem? (l := tables_1_11) (i := 202) (by decide +kernel)))))))))))))) (by decide +kernel)
theorem kw_66 : Cond.selects R_Mo y_Mo_reg y_Mo_reg ∈ wA := kinp 122 (by decide +kernel) (by decide +kernel)
def M_Mo_reg (l1 : Int32) : M (Int32) :=
  oB (oGI 30 0) fun v2 =>
  oC (v2 ≤ l1)
    (oR 0)
    (oR 1)

theorem cv_Mo_reg : CV y_Mo_reg b_Mo_reg 2 (some .boolean) 1 := ⟨kw_65, kw_66, kw_17, k_Mo_reg, by decide +kernel⟩
theorem ct_Mo_reg {l : Launch} {P : PP} {q : PL} {s s' : S1} {l1 : Int32} {r : Int32} (h : M_Mo_reg l1 s = some (r, s')) : Ct l y_Mo_reg b_Mo_reg 2 (some .boolean) 0 0 P q s [.ref (q.1 0 0), .int l1] (some (.int r)) q s' := by
  refine ct_of (by decide) (Nat.le_of_ble_eq_true rfl) fun X ls eP el g hR hl => ?_
  have hR : Rt X q ((r, s') : Int32 × S1).2 (some (.int ((r, s') : Int32 × S1).1)) := hR
  have hl : lv_has ls 2 [(0, .ref (q.1 0 0)), (1, .int l1)] := hl
  generalize (r, s') = o at h hR
  unfold M_Mo_reg at h
  refine ww_iload_n (pc := 0) g.1 d_Mo_reg_0 rfl (lv_at hl 1 rfl) ?_
  refine ww_aload_n (pc := 1) g.1 d_Mo_reg_1 rfl (lv_at hl 0 rfl) ?_
  refine ww_gI (pc := 2) g (k := 30) cl_Mo (pz rfl (by decide)) (by decide) (Or.inl kw_64) (f := 30) rfl rfl d_Mo_reg_2 h fun v2 h => ?_
  refine ww_icmp_ge (pc := 5) (tgt := 12) g.1 d_Mo_reg_5 (by decide) h (fun c h => ?_) (fun c h => ?_)
  · refine ww_iconst (pc := 12) g.1 (v := 0) d_Mo_reg_12 (by decide) ?_
    exact ww_zretH (pc := 13) g h hR (Or.inl rfl) d_Mo_reg_13
  · refine ww_iconst (pc := 8) g.1 (v := 1) d_Mo_reg_8 (by decide) ?_
    refine ww_goto (pc := 9) (tgt := 13) g.1 d_Mo_reg_9 (by decide) ?_
    exact ww_zretH (pc := 13) g h hR (Or.inr rfl) d_Mo_reg_13

