abbrev b_Bu_tellStatus : ByteArray := prog_2_method_36_code
def y_Bu_tellStatus : MethodName := ⟨R_Bu, "tellStatus", "()V"⟩
abbrev w_Bu_tellStatus : List Cond := .code y_Bu_tellStatus b_Bu_tellStatus 2 none :: wA
theorem k_Bu_tellStatus : Cond.code y_Bu_tellStatus b_Bu_tellStatus 2 none ∈ wA := kinm (show _ ∈ tables_1 from (List.mem_append_right _ (List.mem_append_right _ (List.mem_append_right _ (List.mem_append_right _ (List.mem_append_right _ (List.mem_append_right _ (List.mem_append_right _ (List.mem_append_left _ (List.mem_of_getElem? (l := tables_1_8) (i := 203) (by decide +kernel))))))))))) (by decide +kernel)
theorem d_Bu_tellStatus_0 : decode b_Bu_tellStatus 0 = .ok (.aload_n 0, 1) := by decide +kernel
theorem d_Bu_tellStatus_1 : decode b_Bu_tellStatus 1 = .ok (.invokevirtual 349, 3) := by decide +kernel
theorem d_Bu_tellStatus_4 : decode b_Bu_tellStatus 4 = .ok (.ifCond .eq 44, 3) := by decide +kernel
theorem d_Bu_tellStatus_7 : decode b_Bu_tellStatus 7 = .ok (.aload_n 0, 1) := by decide +kernel
theorem d_Bu_tellStatus_8 : decode b_Bu_tellStatus 8 = .ok (.getfield 15, 3) := by decide +kernel
theorem d_Bu_tellStatus_11 : decode b_Bu_tellStatus 11 = .ok (.aload_n 0, 1) := by decide +kernel
theorem d_Bu_tellStatus_12 : decode b_Bu_tellStatus 12 = .ok (.getfield 35, 3) := by decide +kernel
theorem d_Bu_tellStatus_15 : decode b_Bu_tellStatus 15 = .ok (.iconst 0, 1) := by decide +kernel
theorem d_Bu_tellStatus_16 : decode b_Bu_tellStatus 16 = .ok (.invokevirtual 78, 3) := by decide +kernel
theorem d_Bu_tellStatus_19 : decode b_Bu_tellStatus 19 = .ok (.l2i, 1) := by decide +kernel
theorem d_Bu_tellStatus_20 : decode b_Bu_tellStatus 20 = .ok (.invokevirtual 352, 3) := by decide +kernel
theorem d_Bu_tellStatus_23 : decode b_Bu_tellStatus 23 = .ok (.astore_n 1, 1) := by decide +kernel
theorem d_Bu_tellStatus_24 : decode b_Bu_tellStatus 24 = .ok (.aload_n 0, 1) := by decide +kernel
theorem d_Bu_tellStatus_25 : decode b_Bu_tellStatus 25 = .ok (.getfield 39, 3) := by decide +kernel
theorem d_Bu_tellStatus_28 : decode b_Bu_tellStatus 28 = .ok (.iconst 4, 1) := by decide +kernel
theorem d_Bu_tellStatus_29 : decode b_Bu_tellStatus 29 = .ok (.aload_n 0, 1) := by decide +kernel
theorem d_Bu_tellStatus_30 : decode b_Bu_tellStatus 30 = .ok (.getfield 25, 3) := by decide +kernel
theorem d_Bu_tellStatus_33 : decode b_Bu_tellStatus 33 = .ok (.getfield 61, 3) := by decide +kernel
theorem d_Bu_tellStatus_36 : decode b_Bu_tellStatus 36 = .ok (.bipush 53, 2) := by decide +kernel
theorem d_Bu_tellStatus_38 : decode b_Bu_tellStatus 38 = .ok (.aload_n 1, 1) := by decide +kernel
theorem d_Bu_tellStatus_39 : decode b_Bu_tellStatus 39 = .ok (.getfield 356, 3) := by decide +kernel
theorem d_Bu_tellStatus_42 : decode b_Bu_tellStatus 42 = .ok (.iadd, 1) := by decide +kernel
theorem d_Bu_tellStatus_43 : decode b_Bu_tellStatus 43 = .ok (.iaload, 1) := by decide +kernel
theorem d_Bu_tellStatus_44 : decode b_Bu_tellStatus 44 = .ok (.i2l, 1) := by decide +kernel
theorem d_Bu_tellStatus_45 : decode b_Bu_tellStatus 45 = .ok (.invokevirtual 74, 3) := by decide +kernel
theorem d_Bu_tellStatus_48 : decode b_Bu_tellStatus 48 = .ok (.return_, 1) := by decide +kernel
theorem kw_1199 : Cond.methodLink R_Bu 349 y_Bu_hasCoroutine ∈ wA := kinm (show _ ∈ tables_1 from (List.mem_append_right _ (List.mem_append_right _ (List.mem_append_right _ (List.mem_append_right _ (List.mem_append_right _ (List.mem_append_right _ (List.mem_append_right _ (List.mem_append_left _ (List.mem_of_getElem? (l := tables_1_8) (i := 177) (by decide +kernel))))))))))) (by decide +kernel)
theorem kw_1200 : Cond.methodLink R_Bu 352 y_Ma_coroutineOf ∈ wA := kinm (show _ ∈ tables_1 from (List.mem_append_right _ (List.mem_append_right _ (List.mem_append_right _ (List.mem_append_right _ (List.mem_append_right _ (List.mem_append_right _ (List.mem_append_right _ (List.mem_append_left _ (List.mem_of_getElem? (l := tables_1_8) (i := 181) (by decide +kernel))))))))))) (by decide +kernel)
theorem kw_1201 : Cond.fieldLink R_Bu 61 "LuaMachine$Heap" "names" "[I" ∈ wA := kinm (show _ ∈ tables_1 from (List.mem_append_left _ (List.mem_of_getElem? (l := tables_1_1) (i := 147) (by decide +kernel)))) (by decide +kernel)
theorem kw_1202 : Cond.fieldLink R_Bu 356 "LuaMachine$Coroutine" "status" "I" ∈ wA := kinm (show _ ∈ tables_1 from (List.mem_append_right _ (List.mem_append_right _ (List.mem_append_right _ (List.mem_append_right _ (List.mem_append_right _ (List.mem_append_left _ (List.mem_of_getElem? (l := tables_1_6) (i := 162) (by decide +kernel))))))))) (by decide +kernel)
theorem kw_1203 : Cond.instanceMethod y_Bu_tellStatus ∈ wA := kinm (show _ ∈ tables_1 from (List.mem_append_right _ (List.mem_append_right _ (List.mem_append_right _ (List.mem_append_right _ (List.mem_append_right _ (List.mem_append_right _ (List.mem_append_right _ (List.mem_append_left _ (List.mem_of_getElem? (l := tables_1_8) (i := 202) (by decide +kernel))))))))))) (by decide +kernel)
theorem kw_1204 : Cond.selects R_Bu y_Bu_tellStatus y_Bu_tellStatus ∈ wA := kinp 97 (by decide +kernel) (by decide +kernel)
theorem cv_Bu_tellStatus : CV y_Bu_tellStatus b_Bu_tellStatus 2 none 0 := ⟨kw_1203, kw_1204, kw_950, k_Bu_tellStatus, by decide +kernel⟩
theorem ct_Bu_tellStatus {l : Launch} {P : PP} {q : PL} {s s' : S1}  {r : Unit} (h : M_Bu_tellStatus s = some (r, s')) : Ct l y_Bu_tellStatus b_Bu_tellStatus 2 none 3 64 P q s [.ref (q.1 130 0)] none q s' := by
  refine ct_of (by decide) (Nat.le_of_ble_eq_true rfl) fun X ls eP el g hR hl => ?_
  subst eP
  have hR : Rt X q ((r, s') : Unit × S1).2 none := hR
  have hl : lv_has ls 2 [(0, .ref (q.1 130 0))] := hl
  generalize (r, s') = o at h hR
  unfold M_Bu_tellStatus at h
  refine ww_aload_n (pc := 0) g.1 d_Bu_tellStatus_0 rfl (lv_at hl 0 rfl) ?_
  obtain ⟨v1, s, hc1, h⟩ := oB_of h
  refine ww_callV (pc := 1) (rest := []) g cv_Bu_hasCoroutine (Or.inl kw_1199) cl_Bu (pz rfl (by decide)) (ct_Bu_hasCoroutine hc1) ⟨by decide, by decide⟩ rfl hl.1 (Nat.le_of_ble_eq_true rfl) d_Bu_tellStatus_1 rfl (?_)
  refine ww_st (st' := [.int v1]) rfl ?_
  refine ww_if_eq (pc := 4) (tgt := 48) g.1 d_Bu_tellStatus_4 (by decide) h (fun c h => ?_) (fun c h => ?_)
  · exact ww_vretH (pc := 48) g h hR d_Bu_tellStatus_48
  · refine ww_aload_n (pc := 7) g.1 d_Bu_tellStatus_7 rfl (lv_at hl 0 rfl) ?_
    refine ww_gR (pc := 8) g (k := 2) cl_Bu (pz rfl (by decide)) (by decide) (Or.inl kw_995) (f := 16642) (t := 128) rfl rfl rfl d_Bu_tellStatus_8 ?_
    refine ww_aload_n (pc := 11) g.1 d_Bu_tellStatus_11 rfl (lv_at hl 0 rfl) ?_
    refine ww_gR (pc := 12) g (k := 5) cl_Bu (pz rfl (by decide)) (by decide) (Or.inl kw_976) (f := 16645) (t := 132) rfl rfl rfl d_Bu_tellStatus_12 ?_
    refine ww_iconst (pc := 15) g.1 (v := 0) d_Bu_tellStatus_15 (by decide) ?_
    obtain ⟨v16, s, hc16, h⟩ := oB_of h
    refine ww_callV (pc := 16) (rest := [.ref (q.1 128 0)]) g cv_Ro_valueAt (Or.inl kw_977) (cl_Ro ⟨by decide, rfl⟩) (pz rfl (by decide)) (ct_Ro_valueAt ⟨by decide, rfl⟩ hc16) ⟨by decide, by decide⟩ rfl hl.1 (Nat.le_of_ble_eq_true rfl) d_Bu_tellStatus_16 rfl (?_)
    refine ww_st (st' := [.long v16, .ref (q.1 128 0)]) rfl ?_
    refine ww_l2i (pc := 19) g.1 (v := v16.toInt32) d_Bu_tellStatus_19 rfl ?_
    obtain ⟨v20, s, hc20, h⟩ := oB_of h
    refine ww_callV (pc := 20) (rest := []) g cv_Ma_coroutineOf (Or.inl kw_1200) cl_Ma (pz rfl (by decide)) (ct_Ma_coroutineOf hc20) ⟨by decide, by decide⟩ rfl hl.1 (Nat.le_of_ble_eq_true rfl) d_Bu_tellStatus_20 rfl (?_)
    refine ww_st (st' := [.ref (q.1 148 v20)]) rfl ?_
    refine ww_pr h fun pr20 h => ?_
    refine ww_astore_n (pc := 23) (i := 1) g.1 (lv' := [(1, .ref (q.1 148 v20)), (0, .ref (q.1 130 0))]) d_Bu_tellStatus_23 rfl hl (by decide) rfl fun ls hl => ?_
    refine ww_aload_n (pc := 24) g.1 d_Bu_tellStatus_24 rfl (lv_at hl 1 rfl) ?_
    refine ww_gR (pc := 25) g (k := 6) cl_Bu (pz rfl (by decide)) (by decide) (Or.inl kw_967) (f := 16646) (t := 135) rfl rfl rfl d_Bu_tellStatus_25 ?_
    refine ww_iconst (pc := 28) g.1 (v := 4) d_Bu_tellStatus_28 (by decide) ?_
    refine ww_aload_n (pc := 29) g.1 d_Bu_tellStatus_29 rfl (lv_at hl 1 rfl) ?_
    refine ww_gR (pc := 30) g (k := 3) cl_Bu (pz rfl (by decide)) (by decide) (Or.inl kw_974) (f := 16643) (t := 111) rfl rfl rfl d_Bu_tellStatus_30 ?_
    refine ww_gR (pc := 33) g (k := 5) cl_He (pz rfl (by decide)) (by decide) (Or.inl kw_1201) (f := 14213) (t := 115) rfl rfl rfl d_Bu_tellStatus_33 ?_
    refine ww_bipush (pc := 36) g.1 (v := 53) d_Bu_tellStatus_36 (by decide) ?_
    refine ww_aload_n (pc := 38) g.1 d_Bu_tellStatus_38 rfl (lv_at hl 0 rfl) ?_
    refine ww_gI (pc := 39) g (k := 7) cl_Co pr20 (by decide) (Or.inl kw_1202) (f := 18951) rfl rfl d_Bu_tellStatus_39 h fun v39 h => ?_
    refine ww_iadd (pc := 42) g.1 d_Bu_tellStatus_42 ?_
    refine ww_ai (pc := 43) g (pz rfl (by decide)) rfl rfl d_Bu_tellStatus_43 h fun v43 h => ?_
    refine ww_i2l (pc := 44) g.1 (v := v43.toInt64) d_Bu_tellStatus_44 rfl ?_
    refine ww_lo fun dlo => ?_
    obtain ⟨v45, s, hc45, h⟩ := oB_of h
    refine ww_callV (pc := 45) (rest := []) g cv_Ro_add (Or.inl kw_971) (cl_Ro ⟨by decide, rfl⟩) (pz rfl (by decide)) (ct_Ro_add ⟨by decide, rfl⟩ hc45) ⟨by decide, by decide⟩ rfl hl.1 (Nat.le_of_ble_eq_true rfl) d_Bu_tellStatus_45 rfl (?_)
    refine ww_st (st' := []) rfl ?_
    refine ww_hi fun dhi => ?_
    have pr20 : prs s 148 v20 := dhi _ _ pr20.2.1 pr20.2.2 (dlo _ _ pr20)
    exact ww_vretH (pc := 48) g h hR d_Bu_tellStatus_48

abbrev b_St_finish : ByteArray := prog_10_method_32_code
def y_St_finish : MethodName := ⟨R_St, "finish", "()V"⟩
abbrev w_St_finish : List Cond := .code y_St_finish b_St_finish 2 none :: wA
set_option maxRecDepth 20000 in
theorem k_St_finish : Cond.code y_St_finish b_St_finish 2 none ∈ wA := kinm (show _ ∈ tables_1 from (List.mem_append_right _ (List.mem_append_right _ (List.mem_append_right _ (List.mem_append_right _ (List.mem_append_right _ (List.mem_append_right _ (List.mem_append_right _ (List.mem_append_left _ (List.mem_of_getElem? (l := tables_1_8) (i := 237) rfl)))))))))) rfl
theorem d_St_finish_0 : decode b_St_finish 0 = .ok (.aload_n 0, 1) := by decide +kernel
theorem d_St_finish_1 : decode b_St_finish 1 = .ok (.invokevirtual 51, 3) := by decide +kernel
theorem d_St_finish_4 : decode b_St_finish 4 = .ok (.aload_n 0, 1) := by decide +kernel
theorem d_St_finish_5 : decode b_St_finish 5 = .ok (.getfield 9, 3) := by decide +kernel
theorem d_St_finish_8 : decode b_St_finish 8 = .ok (.getfield 335, 3) := by decide +kernel
theorem d_St_finish_11 : decode b_St_finish 11 = .ok (.astore_n 1, 1) := by decide +kernel
theorem d_St_finish_12 : decode b_St_finish 12 = .ok (.aload_n 0, 1) := by decide +kernel
theorem d_St_finish_13 : decode b_St_finish 13 = .ok (.getfield 9, 3) := by decide +kernel
theorem d_St_finish_16 : decode b_St_finish 16 = .ok (.iconst 0, 1) := by decide +kernel
theorem d_St_finish_17 : decode b_St_finish 17 = .ok (.putfield 265, 3) := by decide +kernel
theorem d_St_finish_20 : decode b_St_finish 20 = .ok (.aload_n 0, 1) := by decide +kernel
theorem d_St_finish_21 : decode b_St_finish 21 = .ok (.getfield 54, 3) := by decide +kernel
theorem d_St_finish_24 : decode b_St_finish 24 = .ok (.lookupswitch 202 #[(8, 76), (10, 76), (29, 79), (31, 115), (32, 115), (33, 115), (36, 136), (41, 185)], 76) := by decide +kernel
theorem d_St_finish_100 : decode b_St_finish 100 = .ok (.goto 135, 3) := by decide +kernel
theorem d_St_finish_103 : decode b_St_finish 103 = .ok (.aload_n 0, 1) := by decide +kernel
theorem d_St_finish_104 : decode b_St_finish 104 = .ok (.getfield 113, 3) := by decide +kernel
theorem d_St_finish_107 : decode b_St_finish 107 = .ok (.aload_n 1, 1) := by decide +kernel
theorem d_St_finish_108 : decode b_St_finish 108 = .ok (.iconst 0, 1) := by decide +kernel
theorem d_St_finish_109 : decode b_St_finish 109 = .ok (.invokevirtual 362, 3) := by decide +kernel
theorem d_St_finish_112 : decode b_St_finish 112 = .ok (.putfield 255, 3) := by decide +kernel
theorem d_St_finish_115 : decode b_St_finish 115 = .ok (.aload_n 0, 1) := by decide +kernel
theorem d_St_finish_116 : decode b_St_finish 116 = .ok (.getfield 113, 3) := by decide +kernel
theorem d_St_finish_119 : decode b_St_finish 119 = .ok (.aload_n 1, 1) := by decide +kernel
theorem d_St_finish_120 : decode b_St_finish 120 = .ok (.iconst 0, 1) := by decide +kernel
theorem d_St_finish_121 : decode b_St_finish 121 = .ok (.invokevirtual 365, 3) := by decide +kernel
theorem d_St_finish_124 : decode b_St_finish 124 = .ok (.putfield 258, 3) := by decide +kernel
theorem d_St_finish_127 : decode b_St_finish 127 = .ok (.aload_n 0, 1) := by decide +kernel
theorem d_St_finish_128 : decode b_St_finish 128 = .ok (.getfield 9, 3) := by decide +kernel
theorem d_St_finish_131 : decode b_St_finish 131 = .ok (.bipush 6, 2) := by decide +kernel
theorem d_St_finish_133 : decode b_St_finish 133 = .ok (.putfield 265, 3) := by decide +kernel
theorem d_St_finish_136 : decode b_St_finish 136 = .ok (.goto 99, 3) := by decide +kernel
theorem d_St_finish_139 : decode b_St_finish 139 = .ok (.aload_n 0, 1) := by decide +kernel
theorem d_St_finish_140 : decode b_St_finish 140 = .ok (.aload_n 1, 1) := by decide +kernel
theorem d_St_finish_141 : decode b_St_finish 141 = .ok (.iconst 0, 1) := by decide +kernel
theorem d_St_finish_142 : decode b_St_finish 142 = .ok (.invokevirtual 362, 3) := by decide +kernel
theorem d_St_finish_145 : decode b_St_finish 145 = .ok (.iconst 1, 1) := by decide +kernel
theorem d_St_finish_146 : decode b_St_finish 146 = .ok (.if_icmp .le 7, 3) := by decide +kernel
theorem d_St_finish_149 : decode b_St_finish 149 = .ok (.iconst 1, 1) := by decide +kernel
theorem d_St_finish_150 : decode b_St_finish 150 = .ok (.goto 4, 3) := by decide +kernel
theorem d_St_finish_153 : decode b_St_finish 153 = .ok (.iconst 0, 1) := by decide +kernel
theorem d_St_finish_154 : decode b_St_finish 154 = .ok (.invokevirtual 323, 3) := by decide +kernel
theorem d_St_finish_157 : decode b_St_finish 157 = .ok (.goto 78, 3) := by decide +kernel
theorem d_St_finish_160 : decode b_St_finish 160 = .ok (.aload_n 0, 1) := by decide +kernel
theorem d_St_finish_161 : decode b_St_finish 161 = .ok (.getfield 140, 3) := by decide +kernel
theorem d_St_finish_164 : decode b_St_finish 164 = .ok (.ifCond .ne 28, 3) := by decide +kernel
theorem d_St_finish_167 : decode b_St_finish 167 = .ok (.aload_n 0, 1) := by decide +kernel
theorem d_St_finish_168 : decode b_St_finish 168 = .ok (.getfield 9, 3) := by decide +kernel
theorem d_St_finish_171 : decode b_St_finish 171 = .ok (.aload_n 0, 1) := by decide +kernel
theorem d_St_finish_172 : decode b_St_finish 172 = .ok (.getfield 57, 3) := by decide +kernel
theorem d_St_finish_175 : decode b_St_finish 175 = .ok (.putfield 351, 3) := by decide +kernel
theorem d_St_finish_178 : decode b_St_finish 178 = .ok (.aload_n 0, 1) := by decide +kernel
theorem d_St_finish_179 : decode b_St_finish 179 = .ok (.getfield 9, 3) := by decide +kernel
theorem d_St_finish_182 : decode b_St_finish 182 = .ok (.getfield 354, 3) := by decide +kernel
theorem d_St_finish_185 : decode b_St_finish 185 = .ok (.aload_n 1, 1) := by decide +kernel
theorem d_St_finish_186 : decode b_St_finish 186 = .ok (.invokevirtual 368, 3) := by decide +kernel
theorem d_St_finish_189 : decode b_St_finish 189 = .ok (.goto 46, 3) := by decide +kernel
theorem d_St_finish_192 : decode b_St_finish 192 = .ok (.aload_n 0, 1) := by decide +kernel
theorem d_St_finish_193 : decode b_St_finish 193 = .ok (.aload_n 0, 1) := by decide +kernel
theorem d_St_finish_194 : decode b_St_finish 194 = .ok (.getfield 57, 3) := by decide +kernel
theorem d_St_finish_197 : decode b_St_finish 197 = .ok (.aload_n 0, 1) := by decide +kernel
theorem d_St_finish_198 : decode b_St_finish 198 = .ok (.getfield 140, 3) := by decide +kernel
theorem d_St_finish_201 : decode b_St_finish 201 = .ok (.iconst 1, 1) := by decide +kernel
theorem d_St_finish_202 : decode b_St_finish 202 = .ok (.isub, 1) := by decide +kernel
theorem d_St_finish_203 : decode b_St_finish 203 = .ok (.invokevirtual 372, 3) := by decide +kernel
theorem d_St_finish_206 : decode b_St_finish 206 = .ok (.goto 29, 3) := by decide +kernel
theorem d_St_finish_209 : decode b_St_finish 209 = .ok (.aload_n 0, 1) := by decide +kernel
theorem d_St_finish_210 : decode b_St_finish 210 = .ok (.aload_n 0, 1) := by decide +kernel
theorem d_St_finish_211 : decode b_St_finish 211 = .ok (.getfield 57, 3) := by decide +kernel
theorem d_St_finish_214 : decode b_St_finish 214 = .ok (.iconst 3, 1) := by decide +kernel
theorem d_St_finish_215 : decode b_St_finish 215 = .ok (.iadd, 1) := by decide +kernel
theorem d_St_finish_216 : decode b_St_finish 216 = .ok (.aload_n 0, 1) := by decide +kernel
theorem d_St_finish_217 : decode b_St_finish 217 = .ok (.getfield 140, 3) := by decide +kernel
theorem d_St_finish_220 : decode b_St_finish 220 = .ok (.invokevirtual 372, 3) := by decide +kernel
theorem d_St_finish_223 : decode b_St_finish 223 = .ok (.goto 12, 3) := by decide +kernel
theorem d_St_finish_226 : decode b_St_finish 226 = .ok (.aload_n 0, 1) := by decide +kernel
theorem d_St_finish_227 : decode b_St_finish 227 = .ok (.aload_n 0, 1) := by decide +kernel
theorem d_St_finish_228 : decode b_St_finish 228 = .ok (.getfield 57, 3) := by decide +kernel
theorem d_St_finish_231 : decode b_St_finish 231 = .ok (.iconst 1, 1) := by decide +kernel
theorem d_St_finish_232 : decode b_St_finish 232 = .ok (.invokevirtual 372, 3) := by decide +kernel
theorem d_St_finish_235 : decode b_St_finish 235 = .ok (.aload_n 1, 1) := by decide +kernel
theorem d_St_finish_236 : decode b_St_finish 236 = .ok (.invokevirtual 357, 3) := by decide +kernel
theorem d_St_finish_239 : decode b_St_finish 239 = .ok (.return_, 1) := by decide +kernel
theorem kw_1205 : Cond.methodLink R_St 51 y_St_decode ∈ wA := kinm (show _ ∈ tables_1 from (List.mem_append_right _ (List.mem_append_right _ (List.mem_append_right _ (List.mem_append_right _ (List.mem_append_right _ (List.mem_append_right _ (List.mem_append_left _ (List.mem_of_getElem? (l := tables_1_7) (i := 24) (by decide +kernel)))))))))) (by decide +kernel)
theorem kw_1206 : Cond.fieldLink R_St 265 "LuaMachine$Machine" "turn" "I" ∈ wA := kinm (show _ ∈ tables_1 from (List.mem_append_right _ (List.mem_append_left _ (List.mem_of_getElem? (l := tables_1_2) (i := 87) (by decide +kernel))))) (by decide +kernel)
theorem kw_1207 : Cond.methodLink R_St 372 y_St_setAll ∈ wA := kinm (show _ ∈ tables_1 from (List.mem_append_right _ (List.mem_append_right _ (List.mem_append_right _ (List.mem_append_right _ (List.mem_append_right _ (List.mem_append_right _ (List.mem_append_right _ (List.mem_append_right _ (List.mem_append_left _ (List.mem_of_getElem? (l := tables_1_9) (i := 1) (by decide +kernel)))))))))))) (by decide +kernel)
theorem kw_1208 : Cond.methodLink R_St 368 y_Ro_takeAll ∈ wA := kinm (show _ ∈ tables_1 from (List.mem_append_right _ (List.mem_append_right _ (List.mem_append_right _ (List.mem_append_right _ (List.mem_append_right _ (List.mem_append_right _ (List.mem_append_right _ (List.mem_append_right _ (List.mem_append_left _ (List.mem_of_getElem? (l := tables_1_9) (i := 0) (by decide +kernel)))))))))))) (by decide +kernel)
theorem kw_1209 : Cond.instanceMethod y_St_finish ∈ wA := kinm (show _ ∈ tables_1 from (List.mem_append_right _ (List.mem_append_right _ (List.mem_append_right _ (List.mem_append_right _ (List.mem_append_right _ (List.mem_append_right _ (List.mem_append_right _ (List.mem_append_left _ (List.mem_of_getElem? (l := tables_1_8) (i := 235) (by decide +kernel))))))))))) (by decide +kernel)
theorem kw_1210 : Cond.selects R_St y_St_finish y_St_finish ∈ wA := kinm (show _ ∈ tables_1 from (List.mem_append_right _ (List.mem_append_right _ (List.mem_append_right _ (List.mem_append_right _ (List.mem_append_right _ (List.mem_append_right _ (List.mem_append_right _ (List.mem_append_left _ (List.mem_of_getElem? (l := tables_1_8) (i := 236) (by decide +kernel))))))))))) (by decide +kernel)
theorem cv_St_finish : CV y_St_finish b_St_finish 2 none 0 := ⟨kw_1209, kw_1210, kw_883, k_St_finish, by decide +kernel⟩
theorem j_St_finish_j235 {X : Cx} {q : PL} (g : Gd X y_St_finish b_St_finish 2 none 2 47 R_St) {o : (Unit) × S1} (hR : Rt X q o.2 none)  (s : S1) (ls : Array Slot) (hl : lv_has ls 2 [(1, .ref (q.1 135 0))]) (h : M_St_finish_j235 s = some o) : WW X q s 235 ls [] := by
  unfold M_St_finish_j235 at h
  refine ww_aload_n (pc := 235) g.1 d_St_finish_235 rfl (lv_at hl 0 rfl) ?_
  obtain ⟨v236, s, hc236, h⟩ := oB_of h
  refine ww_callV (pc := 236) (rest := []) g cv_Ro_clear (Or.inl kw_931) (cl_Ro ⟨by decide, rfl⟩) (pz rfl (by decide)) (ct_Ro_clear ⟨by decide, rfl⟩ hc236) ⟨by decide, by decide⟩ rfl hl.1 (Nat.le_of_ble_eq_true rfl) d_St_finish_236 rfl (?_)
  refine ww_st (st' := []) rfl ?_
  exact ww_vretH (pc := 239) g h hR d_St_finish_239

theorem j_St_finish_j154 {X : Cx} {q : PL} (g : Gd X y_St_finish b_St_finish 2 none 2 47 R_St) {o : (Unit) × S1} (hR : Rt X q o.2 none) (k0 : Int32) (s : S1) (ls : Array Slot) (hl : lv_has ls 2 [(1, .ref (q.1 135 0))]) (h : M_St_finish_j154 k0 s = some o) : WW X q s 154 ls [.int k0, .ref (q.1 129 0)] := by
  unfold M_St_finish_j154 at h
  obtain ⟨v154, s, hc154, h⟩ := oB_of h
  refine ww_callV (pc := 154) (rest := []) g cv_St_decide (Or.inl kw_1121) cl_St (pz rfl (by decide)) (ct_St_decide hc154) ⟨by decide, by decide⟩ rfl hl.1 (Nat.le_of_ble_eq_true rfl) d_St_finish_154 rfl (?_)
  refine ww_st (st' := []) rfl ?_
  refine ww_goto (pc := 157) (tgt := 235) g.1 d_St_finish_157 (by decide) ?_
  exact j_St_finish_j235 g hR s ls (lv_sub hl [0] rfl) h

theorem ct_St_finish {l : Launch} {P : PP} {q : PL} {s s' : S1}  {r : Unit} (h : M_St_finish s = some (r, s')) : Ct l y_St_finish b_St_finish 2 none 2 47 P q s [.ref (q.1 129 0)] none q s' := by
  refine ct_of (by decide) (Nat.le_of_ble_eq_true rfl) fun X ls eP el g hR hl => ?_
  subst eP
  have hR : Rt X q ((r, s') : Unit × S1).2 none := hR
  have hl : lv_has ls 2 [(0, .ref (q.1 129 0))] := hl
  generalize (r, s') = o at h hR
  unfold M_St_finish at h
  refine ww_aload_n (pc := 0) g.1 d_St_finish_0 rfl (lv_at hl 0 rfl) ?_
  obtain ⟨v1, s, hc1, h⟩ := oB_of h
  refine ww_callV (pc := 1) (rest := []) g cv_St_decode (Or.inl kw_1205) cl_St (pz rfl (by decide)) (ct_St_decode hc1) ⟨by decide, by decide⟩ rfl hl.1 (Nat.le_of_ble_eq_true rfl) d_St_finish_1 rfl (?_)
  refine ww_st (st' := []) rfl ?_
  refine ww_aload_n (pc := 4) g.1 d_St_finish_4 rfl (lv_at hl 0 rfl) ?_
  refine ww_gR (pc := 5) g (k := 0) cl_St (pz rfl (by decide)) (by decide) (Or.inl kw_863) (f := 16512) (t := 128) rfl rfl rfl d_St_finish_5 ?_
  refine ww_gR (pc := 8) g (k := 4) cl_Ma (pz rfl (by decide)) (by decide) (Or.inl kw_1007) (f := 16388) (t := 135) rfl rfl rfl d_St_finish_8 ?_
  refine ww_astore_n (pc := 11) (i := 1) g.1 (lv' := [(1, .ref (q.1 135 0)), (0, .ref (q.1 129 0))]) d_St_finish_11 rfl hl (by decide) rfl fun ls hl => ?_
  refine ww_aload_n (pc := 12) g.1 d_St_finish_12 rfl (lv_at hl 1 rfl) ?_
  refine ww_gR (pc := 13) g (k := 0) cl_St (pz rfl (by decide)) (by decide) (Or.inl kw_863) (f := 16512) (t := 128) rfl rfl rfl d_St_finish_13 ?_
  refine ww_iconst (pc := 16) g.1 (v := 0) d_St_finish_16 (by decide) ?_
  refine ww_pI (pc := 17) g (k := 12) cl_Ma (pz rfl (by decide)) (by decide) (Or.inl kw_1206) rfl (f := 16396) rfl rfl rfl rfl d_St_finish_17 h fun s hs h => ?_
  refine ww_aload_n (pc := 20) g.1 d_St_finish_20 rfl (lv_at hl 1 rfl) ?_
  refine ww_gI (pc := 21) g (k := 8) cl_St (pz rfl (by decide)) (by decide) (Or.inl kw_876) (f := 16520) rfl rfl d_St_finish_21 h fun v21 h => ?_
  by_cases c24_100 : v21 = 8 ∨ v21 = 10
  · have h := oC_pos c24_100 h
    rcases c24_100 with c | c
    · refine ww_lookup (pc := 24) (tgt := 100) g.1 d_St_finish_24 (by decide) (by rw [c] <;> rfl) (by decide) ?_
      refine ww_goto (pc := 100) (tgt := 235) g.1 d_St_finish_100 (by decide) ?_
      exact j_St_finish_j235 g hR s ls (lv_sub hl [0] rfl) h
    · refine ww_lookup (pc := 24) (tgt := 100) g.1 d_St_finish_24 (by decide) (by rw [c] <;> rfl) (by decide) ?_
      refine ww_goto (pc := 100) (tgt := 235) g.1 d_St_finish_100 (by decide) ?_
      exact j_St_finish_j235 g hR s ls (lv_sub hl [0] rfl) h
  have h := oC_neg c24_100 h
  by_cases c24_103 : v21 = 29
  · have h := oC_pos c24_103 h
    have c := c24_103
    refine ww_lookup (pc := 24) (tgt := 103) g.1 d_St_finish_24 (by decide) (by rw [c] <;> rfl) (by decide) ?_
    refine ww_aload_n (pc := 103) g.1 d_St_finish_103 rfl (lv_at hl 1 rfl) ?_
    refine ww_gV (pc := 104) g (k := 5) cl_St (pz rfl (by decide)) (by decide) (Or.inl kw_867) (f := 16517) (t := 152) rfl rfl rfl d_St_finish_104 h fun v104 h => ?_
    refine ww_pr h fun pn104 h => ?_
    refine ww_nnP pn104 ?_
    refine ww_aload_n (pc := 107) g.1 d_St_finish_107 rfl (lv_at hl 0 rfl) ?_
    refine ww_iconst (pc := 108) g.1 (v := 0) d_St_finish_108 (by decide) ?_
    refine ww_lo fun dlo => ?_
    obtain ⟨v109, s, hc109, h⟩ := oB_of h
    refine ww_callV (pc := 109) (rest := [.ref (q.1 152 v104)]) g cv_Ro_kindAt (Or.inl kw_1008) (cl_Ro ⟨by decide, rfl⟩) (pz rfl (by decide)) (ct_Ro_kindAt ⟨by decide, rfl⟩ hc109) ⟨by decide, by decide⟩ rfl hl.1 (Nat.le_of_ble_eq_true rfl) d_St_finish_109 rfl (?_)
    refine ww_st (st' := [.int v109, .ref (q.1 152 v104)]) rfl ?_
    refine ww_hi fun dhi => ?_
    have pn104 : prs s 152 v104 := dhi _ _ pn104.2.1 pn104.2.2 (dlo _ _ pn104)
    refine ww_pI (pc := 112) g (k := 6) cl_Fm pn104 (by decide) (Or.inl kw_1013) rfl (f := 19462) rfl rfl rfl rfl d_St_finish_112 h fun s hs h => ?_
    refine ww_aload_n (pc := 115) g.1 d_St_finish_115 rfl (lv_at hl 1 rfl) ?_
    refine ww_gV (pc := 116) g (k := 5) cl_St (pz rfl (by decide)) (by decide) (Or.inl kw_867) (f := 16517) (t := 152) rfl rfl rfl d_St_finish_116 h fun v116 h => ?_
    refine ww_pr h fun pn116 h => ?_
    refine ww_nnP pn116 ?_
    refine ww_aload_n (pc := 119) g.1 d_St_finish_119 rfl (lv_at hl 0 rfl) ?_
    refine ww_iconst (pc := 120) g.1 (v := 0) d_St_finish_120 (by decide) ?_
    refine ww_lo fun dlo => ?_
    obtain ⟨v121, s, hc121, h⟩ := oB_of h
    refine ww_callV (pc := 121) (rest := [.ref (q.1 152 v116)]) g cv_Ro_valueAt (Or.inl kw_1009) (cl_Ro ⟨by decide, rfl⟩) (pz rfl (by decide)) (ct_Ro_valueAt ⟨by decide, rfl⟩ hc121) ⟨by decide, by decide⟩ rfl hl.1 (Nat.le_of_ble_eq_true rfl) d_St_finish_121 rfl (?_)
    refine ww_st (st' := [.long v121, .ref (q.1 152 v116)]) rfl ?_
    refine ww_hi fun dhi => ?_
    have pn116 : prs s 152 v116 := dhi _ _ pn116.2.1 pn116.2.2 (dlo _ _ pn116)
    refine ww_pL (pc := 124) g (k := 7) cl_Fm pn116 (by decide) (Or.inl kw_1014) rfl (f := 19463) rfl rfl rfl rfl d_St_finish_124 h fun s hs h => ?_
    refine ww_aload_n (pc := 127) g.1 d_St_finish_127 rfl (lv_at hl 1 rfl) ?_
    refine ww_gR (pc := 128) g (k := 0) cl_St (pz rfl (by decide)) (by decide) (Or.inl kw_863) (f := 16512) (t := 128) rfl rfl rfl d_St_finish_128 ?_
    refine ww_bipush (pc := 131) g.1 (v := 6) d_St_finish_131 (by decide) ?_
    refine ww_pI (pc := 133) g (k := 12) cl_Ma (pz rfl (by decide)) (by decide) (Or.inl kw_1206) rfl (f := 16396) rfl rfl rfl rfl d_St_finish_133 h fun s hs h => ?_
    refine ww_goto (pc := 136) (tgt := 235) g.1 d_St_finish_136 (by decide) ?_
    exact j_St_finish_j235 g hR s ls (lv_sub hl [0] rfl) h
  have h := oC_neg c24_103 h
  by_cases c24_139 : v21 = 31 ∨ v21 = 32 ∨ v21 = 33
  · have h := oC_pos c24_139 h
    rcases c24_139 with c | c | c
    · refine ww_lookup (pc := 24) (tgt := 139) g.1 d_St_finish_24 (by decide) (by rw [c] <;> rfl) (by decide) ?_
      refine ww_aload_n (pc := 139) g.1 d_St_finish_139 rfl (lv_at hl 1 rfl) ?_
      refine ww_aload_n (pc := 140) g.1 d_St_finish_140 rfl (lv_at hl 0 rfl) ?_
      refine ww_iconst (pc := 141) g.1 (v := 0) d_St_finish_141 (by decide) ?_
      obtain ⟨v142, s, hc142, h⟩ := oB_of h
      refine ww_callV (pc := 142) (rest := [.ref (q.1 129 0)]) g cv_Ro_kindAt (Or.inl kw_1008) (cl_Ro ⟨by decide, rfl⟩) (pz rfl (by decide)) (ct_Ro_kindAt ⟨by decide, rfl⟩ hc142) ⟨by decide, by decide⟩ rfl hl.1 (Nat.le_of_ble_eq_true rfl) d_St_finish_142 rfl (?_)
      refine ww_st (st' := [.int v142, .ref (q.1 129 0)]) rfl ?_
      refine ww_iconst (pc := 145) g.1 (v := 1) d_St_finish_145 (by decide) ?_
      refine ww_icmp_le (pc := 146) (tgt := 153) g.1 d_St_finish_146 (by decide) h (fun c h => ?_) (fun c h => ?_)
      · refine ww_iconst (pc := 153) g.1 (v := 0) d_St_finish_153 (by decide) ?_
        exact j_St_finish_j154 g hR 0 s ls (lv_sub hl [0] rfl) h
      · refine ww_iconst (pc := 149) g.1 (v := 1) d_St_finish_149 (by decide) ?_
        refine ww_goto (pc := 150) (tgt := 154) g.1 d_St_finish_150 (by decide) ?_
        exact j_St_finish_j154 g hR 1 s ls (lv_sub hl [0] rfl) h
    · refine ww_lookup (pc := 24) (tgt := 139) g.1 d_St_finish_24 (by decide) (by rw [c] <;> rfl) (by decide) ?_
      refine ww_aload_n (pc := 139) g.1 d_St_finish_139 rfl (lv_at hl 1 rfl) ?_
      refine ww_aload_n (pc := 140) g.1 d_St_finish_140 rfl (lv_at hl 0 rfl) ?_
      refine ww_iconst (pc := 141) g.1 (v := 0) d_St_finish_141 (by decide) ?_
      obtain ⟨v142, s, hc142, h⟩ := oB_of h
      refine ww_callV (pc := 142) (rest := [.ref (q.1 129 0)]) g cv_Ro_kindAt (Or.inl kw_1008) (cl_Ro ⟨by decide, rfl⟩) (pz rfl (by decide)) (ct_Ro_kindAt ⟨by decide, rfl⟩ hc142) ⟨by decide, by decide⟩ rfl hl.1 (Nat.le_of_ble_eq_true rfl) d_St_finish_142 rfl (?_)
      refine ww_st (st' := [.int v142, .ref (q.1 129 0)]) rfl ?_
      refine ww_iconst (pc := 145) g.1 (v := 1) d_St_finish_145 (by decide) ?_
      refine ww_icmp_le (pc := 146) (tgt := 153) g.1 d_St_finish_146 (by decide) h (fun c h => ?_) (fun c h => ?_)
      · refine ww_iconst (pc := 153) g.1 (v := 0) d_St_finish_153 (by decide) ?_
        exact j_St_finish_j154 g hR 0 s ls (lv_sub hl [0] rfl) h
      · refine ww_iconst (pc := 149) g.1 (v := 1) d_St_finish_149 (by decide) ?_
        refine ww_goto (pc := 150) (tgt := 154) g.1 d_St_finish_150 (by decide) ?_
        exact j_St_finish_j154 g hR 1 s ls (lv_sub hl [0] rfl) h
    · refine ww_lookup (pc := 24) (tgt := 139) g.1 d_St_finish_24 (by decide) (by rw [c] <;> rfl) (by decide) ?_
      refine ww_aload_n (pc := 139) g.1 d_St_finish_139 rfl (lv_at hl 1 rfl) ?_
      refine ww_aload_n (pc := 140) g.1 d_St_finish_140 rfl (lv_at hl 0 rfl) ?_
      refine ww_iconst (pc := 141) g.1 (v := 0) d_St_finish_141 (by decide) ?_
      obtain ⟨v142, s, hc142, h⟩ := oB_of h
      refine ww_callV (pc := 142) (rest := [.ref (q.1 129 0)]) g cv_Ro_kindAt (Or.inl kw_1008) (cl_Ro ⟨by decide, rfl⟩) (pz rfl (by decide)) (ct_Ro_kindAt ⟨by decide, rfl⟩ hc142) ⟨by decide, by decide⟩ rfl hl.1 (Nat.le_of_ble_eq_true rfl) d_St_finish_142 rfl (?_)
      refine ww_st (st' := [.int v142, .ref (q.1 129 0)]) rfl ?_
      refine ww_iconst (pc := 145) g.1 (v := 1) d_St_finish_145 (by decide) ?_
      refine ww_icmp_le (pc := 146) (tgt := 153) g.1 d_St_finish_146 (by decide) h (fun c h => ?_) (fun c h => ?_)
      · refine ww_iconst (pc := 153) g.1 (v := 0) d_St_finish_153 (by decide) ?_
        exact j_St_finish_j154 g hR 0 s ls (lv_sub hl [0] rfl) h
      · refine ww_iconst (pc := 149) g.1 (v := 1) d_St_finish_149 (by decide) ?_
        refine ww_goto (pc := 150) (tgt := 154) g.1 d_St_finish_150 (by decide) ?_
        exact j_St_finish_j154 g hR 1 s ls (lv_sub hl [0] rfl) h
  have h := oC_neg c24_139 h
  by_cases c24_160 : v21 = 36
  · have h := oC_pos c24_160 h
    have c := c24_160
    refine ww_lookup (pc := 24) (tgt := 160) g.1 d_St_finish_24 (by decide) (by rw [c] <;> rfl) (by decide) ?_
    refine ww_aload_n (pc := 160) g.1 d_St_finish_160 rfl (lv_at hl 1 rfl) ?_
    refine ww_gI (pc := 161) g (k := 11) cl_St (pz rfl (by decide)) (by decide) (Or.inl kw_879) (f := 16523) rfl rfl d_St_finish_161 h fun v161 h => ?_
    refine ww_if_ne (pc := 164) (tgt := 192) g.1 d_St_finish_164 (by decide) h (fun c h => ?_) (fun c h => ?_)
    · refine ww_aload_n (pc := 192) g.1 d_St_finish_192 rfl (lv_at hl 1 rfl) ?_
      refine ww_aload_n (pc := 193) g.1 d_St_finish_193 rfl (lv_at hl 1 rfl) ?_
      refine ww_gI (pc := 194) g (k := 9) cl_St (pz rfl (by decide)) (by decide) (Or.inl kw_877) (f := 16521) rfl rfl d_St_finish_194 h fun v194 h => ?_
      refine ww_aload_n (pc := 197) g.1 d_St_finish_197 rfl (lv_at hl 1 rfl) ?_
      refine ww_gI (pc := 198) g (k := 11) cl_St (pz rfl (by decide)) (by decide) (Or.inl kw_879) (f := 16523) rfl rfl d_St_finish_198 h fun v198 h => ?_
      refine ww_iconst (pc := 201) g.1 (v := 1) d_St_finish_201 (by decide) ?_
      refine ww_isub (pc := 202) g.1 d_St_finish_202 ?_
      obtain ⟨v203, s, hc203, h⟩ := oB_of h
      refine ww_callV (pc := 203) (rest := []) g cv_St_setAll (Or.inl kw_1207) cl_St (pz rfl (by decide)) (ct_St_setAll hc203) ⟨by decide, by decide⟩ rfl hl.1 (Nat.le_of_ble_eq_true rfl) d_St_finish_203 rfl (?_)
      refine ww_st (st' := []) rfl ?_
      refine ww_goto (pc := 206) (tgt := 235) g.1 d_St_finish_206 (by decide) ?_
      exact j_St_finish_j235 g hR s ls (lv_sub hl [0] rfl) h
    · refine ww_aload_n (pc := 167) g.1 d_St_finish_167 rfl (lv_at hl 1 rfl) ?_
      refine ww_gR (pc := 168) g (k := 0) cl_St (pz rfl (by decide)) (by decide) (Or.inl kw_863) (f := 16512) (t := 128) rfl rfl rfl d_St_finish_168 ?_
      refine ww_aload_n (pc := 171) g.1 d_St_finish_171 rfl (lv_at hl 1 rfl) ?_
      refine ww_gI (pc := 172) g (k := 9) cl_St (pz rfl (by decide)) (by decide) (Or.inl kw_877) (f := 16521) rfl rfl d_St_finish_172 h fun v172 h => ?_
      refine ww_pI (pc := 175) g (k := 6) cl_Ma (pz rfl (by decide)) (by decide) (Or.inl kw_929) rfl (f := 16390) rfl rfl rfl rfl d_St_finish_175 h fun s hs h => ?_
      refine ww_aload_n (pc := 178) g.1 d_St_finish_178 rfl (lv_at hl 1 rfl) ?_
      refine ww_gR (pc := 179) g (k := 0) cl_St (pz rfl (by decide)) (by decide) (Or.inl kw_863) (f := 16512) (t := 128) rfl rfl rfl d_St_finish_179 ?_
      refine ww_gR (pc := 182) g (k := 5) cl_Ma (pz rfl (by decide)) (by decide) (Or.inl kw_930) (f := 16389) (t := 138) rfl rfl rfl d_St_finish_182 ?_
      refine ww_aload_n (pc := 185) g.1 d_St_finish_185 rfl (lv_at hl 0 rfl) ?_
      obtain ⟨v186, s, hc186, h⟩ := oB_of h
      refine ww_callV (pc := 186) (rest := []) g cv_Ro_takeAll (Or.inl kw_1208) (cl_Ro ⟨by decide, rfl⟩) (pz rfl (by decide)) (ct_Ro_takeAll ⟨by decide, rfl⟩ ⟨by decide, rfl⟩ hc186) ⟨by decide, by decide⟩ rfl hl.1 (Nat.le_of_ble_eq_true rfl) d_St_finish_186 rfl (?_)
      refine ww_st (st' := []) rfl ?_
      refine ww_goto (pc := 189) (tgt := 235) g.1 d_St_finish_189 (by decide) ?_
      exact j_St_finish_j235 g hR s ls (lv_sub hl [0] rfl) h
  have h := oC_neg c24_160 h
  by_cases c24_209 : v21 = 41
  · have h := oC_pos c24_209 h
    have c := c24_209
    refine ww_lookup (pc := 24) (tgt := 209) g.1 d_St_finish_24 (by decide) (by rw [c] <;> rfl) (by decide) ?_
    refine ww_aload_n (pc := 209) g.1 d_St_finish_209 rfl (lv_at hl 1 rfl) ?_
    refine ww_aload_n (pc := 210) g.1 d_St_finish_210 rfl (lv_at hl 1 rfl) ?_
    refine ww_gI (pc := 211) g (k := 9) cl_St (pz rfl (by decide)) (by decide) (Or.inl kw_877) (f := 16521) rfl rfl d_St_finish_211 h fun v211 h => ?_
    refine ww_iconst (pc := 214) g.1 (v := 3) d_St_finish_214 (by decide) ?_
    refine ww_iadd (pc := 215) g.1 d_St_finish_215 ?_
    refine ww_aload_n (pc := 216) g.1 d_St_finish_216 rfl (lv_at hl 1 rfl) ?_
    refine ww_gI (pc := 217) g (k := 11) cl_St (pz rfl (by decide)) (by decide) (Or.inl kw_879) (f := 16523) rfl rfl d_St_finish_217 h fun v217 h => ?_
    obtain ⟨v220, s, hc220, h⟩ := oB_of h
    refine ww_callV (pc := 220) (rest := []) g cv_St_setAll (Or.inl kw_1207) cl_St (pz rfl (by decide)) (ct_St_setAll hc220) ⟨by decide, by decide⟩ rfl hl.1 (Nat.le_of_ble_eq_true rfl) d_St_finish_220 rfl (?_)
    refine ww_st (st' := []) rfl ?_
    refine ww_goto (pc := 223) (tgt := 235) g.1 d_St_finish_223 (by decide) ?_
    exact j_St_finish_j235 g hR s ls (lv_sub hl [0] rfl) h
  have h := oC_neg c24_209 h
  have n_8 : ¬ v21.toInt = 8 := lv_neT (fun e => c24_100 (Or.inl e)) rfl
  have n_10 : ¬ v21.toInt = 10 := lv_neT (fun e => c24_100 (Or.inr (e))) rfl
  have n_29 : ¬ v21.toInt = 29 := lv_neT (fun e => c24_103 e) rfl
  have n_31 : ¬ v21.toInt = 31 := lv_neT (fun e => c24_139 (Or.inl e)) rfl
  have n_32 : ¬ v21.toInt = 32 := lv_neT (fun e => c24_139 (Or.inr (Or.inl e))) rfl
  have n_33 : ¬ v21.toInt = 33 := lv_neT (fun e => c24_139 (Or.inr (Or.inr (e)))) rfl
  have n_36 : ¬ v21.toInt = 36 := lv_neT (fun e => c24_160 e) rfl
  have n_41 : ¬ v21.toInt = 41 := lv_neT (fun e => c24_209 e) rfl
  refine ww_lookup (pc := 24) (tgt := 226) (off := 202) g.1 d_St_finish_24 (by decide) ((lv_osw (x := v21) (k := 8) (a := 8) (o := 76) (d := 202) (r := [(10, 76), (29, 79), (31, 115), (32, 115), (33, 115), (36, 136), (41, 185)]) (fun e => n_8 (by rw [e] <;> rfl)) rfl).trans ((lv_osw (x := v21) (k := 10) (a := 10) (o := 76) (d := 202) (r := [(29, 79), (31, 115), (32, 115), (33, 115), (36, 136), (41, 185)]) (fun e => n_10 (by rw [e] <;> rfl)) rfl).trans ((lv_osw (x := v21) (k := 29) (a := 29) (o := 79) (d := 202) (r := [(31, 115), (32, 115), (33, 115), (36, 136), (41, 185)]) (fun e => n_29 (by rw [e] <;> rfl)) rfl).trans ((lv_osw (x := v21) (k := 31) (a := 31) (o := 115) (d := 202) (r := [(32, 115), (33, 115), (36, 136), (41, 185)]) (fun e => n_31 (by rw [e] <;> rfl)) rfl).trans ((lv_osw (x := v21) (k := 32) (a := 32) (o := 115) (d := 202) (r := [(33, 115), (36, 136), (41, 185)]) (fun e => n_32 (by rw [e] <;> rfl)) rfl).trans ((lv_osw (x := v21) (k := 33) (a := 33) (o := 115) (d := 202) (r := [(36, 136), (41, 185)]) (fun e => n_33 (by rw [e] <;> rfl)) rfl).trans ((lv_osw (x := v21) (k := 36) (a := 36) (o := 136) (d := 202) (r := [(41, 185)]) (fun e => n_36 (by rw [e] <;> rfl)) rfl).trans ((lv_osw (x := v21) (k := 41) (a := 41) (o := 185) (d := 202) (r := []) (fun e => n_41 (by rw [e] <;> rfl)) rfl).trans rfl)))))))) (by decide) ?_
  refine ww_aload_n (pc := 226) g.1 d_St_finish_226 rfl (lv_at hl 1 rfl) ?_
  refine ww_aload_n (pc := 227) g.1 d_St_finish_227 rfl (lv_at hl 1 rfl) ?_
  refine ww_gI (pc := 228) g (k := 9) cl_St (pz rfl (by decide)) (by decide) (Or.inl kw_877) (f := 16521) rfl rfl d_St_finish_228 h fun v228 h => ?_
  refine ww_iconst (pc := 231) g.1 (v := 1) d_St_finish_231 (by decide) ?_
  obtain ⟨v232, s, hc232, h⟩ := oB_of h
  refine ww_callV (pc := 232) (rest := []) g cv_St_setAll (Or.inl kw_1207) cl_St (pz rfl (by decide)) (ct_St_setAll hc232) ⟨by decide, by decide⟩ rfl hl.1 (Nat.le_of_ble_eq_true rfl) d_St_finish_232 rfl (?_)
  refine ww_st (st' := []) rfl ?_
  exact j_St_finish_j235 g hR s ls (lv_sub hl [0] rfl) h

abbrev b_Ma_endAll : ByteArray := prog_7_method_27_code
def y_Ma_endAll : MethodName := ⟨R_Ma, "endAll", "()V"⟩
abbrev w_Ma_endAll : List Cond := .code y_Ma_endAll b_Ma_endAll 3 none :: wA
theorem k_Ma_endAll : Cond.code y_Ma_endAll b_Ma_endAll 3 none ∈ wA := kinm (show _ ∈ tables_1 from (List.mem_append_right _ (List.mem_append_right _ (List.mem_append_right _ (List.mem_append_right _ (List.mem_append_right _ (List.mem_append_right _ (List.mem_append_right _ (List.mem_append_right _ (List.mem_append_left _ (List.mem_of_getElem? (l := tables_1_9) (i := 39) (by decide +kernel)))))))))))) (by decide +kernel)
theorem d_Ma_endAll_0 : decode b_Ma_endAll 0 = .ok (.iconst 0, 1) := by decide +kernel
theorem d_Ma_endAll_1 : decode b_Ma_endAll 1 = .ok (.istore_n 1, 1) := by decide +kernel
theorem d_Ma_endAll_2 : decode b_Ma_endAll 2 = .ok (.iload_n 1, 1) := by decide +kernel
theorem d_Ma_endAll_3 : decode b_Ma_endAll 3 = .ok (.bipush 32, 2) := by decide +kernel
theorem d_Ma_endAll_5 : decode b_Ma_endAll 5 = .ok (.if_icmp .ge 58, 3) := by decide +kernel
theorem d_Ma_endAll_8 : decode b_Ma_endAll 8 = .ok (.aload_n 0, 1) := by decide +kernel
theorem d_Ma_endAll_9 : decode b_Ma_endAll 9 = .ok (.getfield 172, 3) := by decide +kernel
theorem d_Ma_endAll_12 : decode b_Ma_endAll 12 = .ok (.getfield 318, 3) := by decide +kernel
theorem d_Ma_endAll_15 : decode b_Ma_endAll 15 = .ok (.ifCond .lt 48, 3) := by decide +kernel
theorem d_Ma_endAll_18 : decode b_Ma_endAll 18 = .ok (.aload_n 0, 1) := by decide +kernel
theorem d_Ma_endAll_19 : decode b_Ma_endAll 19 = .ok (.aload_n 0, 1) := by decide +kernel
theorem d_Ma_endAll_20 : decode b_Ma_endAll 20 = .ok (.getfield 172, 3) := by decide +kernel
theorem d_Ma_endAll_23 : decode b_Ma_endAll 23 = .ok (.invokevirtual 371, 3) := by decide +kernel
theorem d_Ma_endAll_26 : decode b_Ma_endAll 26 = .ok (.aload_n 0, 1) := by decide +kernel
theorem d_Ma_endAll_27 : decode b_Ma_endAll 27 = .ok (.getfield 172, 3) := by decide +kernel
theorem d_Ma_endAll_30 : decode b_Ma_endAll 30 = .ok (.astore_n 2, 1) := by decide +kernel
theorem d_Ma_endAll_31 : decode b_Ma_endAll 31 = .ok (.aload_n 0, 1) := by decide +kernel
theorem d_Ma_endAll_32 : decode b_Ma_endAll 32 = .ok (.aload_n 0, 1) := by decide +kernel
theorem d_Ma_endAll_33 : decode b_Ma_endAll 33 = .ok (.getfield 31, 3) := by decide +kernel
theorem d_Ma_endAll_36 : decode b_Ma_endAll 36 = .ok (.getfield 165, 3) := by decide +kernel
theorem d_Ma_endAll_39 : decode b_Ma_endAll 39 = .ok (.aload_n 2, 1) := by decide +kernel
theorem d_Ma_endAll_40 : decode b_Ma_endAll 40 = .ok (.getfield 318, 3) := by decide +kernel
theorem d_Ma_endAll_43 : decode b_Ma_endAll 43 = .ok (.aaload, 1) := by decide +kernel
theorem d_Ma_endAll_44 : decode b_Ma_endAll 44 = .ok (.putfield 172, 3) := by decide +kernel
theorem d_Ma_endAll_47 : decode b_Ma_endAll 47 = .ok (.aload_n 2, 1) := by decide +kernel
theorem d_Ma_endAll_48 : decode b_Ma_endAll 48 = .ok (.iconst 3, 1) := by decide +kernel
theorem d_Ma_endAll_49 : decode b_Ma_endAll 49 = .ok (.putfield 183, 3) := by decide +kernel
theorem d_Ma_endAll_52 : decode b_Ma_endAll 52 = .ok (.aload_n 2, 1) := by decide +kernel
theorem d_Ma_endAll_53 : decode b_Ma_endAll 53 = .ok (.iconst (-1), 1) := by decide +kernel
theorem d_Ma_endAll_54 : decode b_Ma_endAll 54 = .ok (.putfield 318, 3) := by decide +kernel
theorem d_Ma_endAll_57 : decode b_Ma_endAll 57 = .ok (.iinc 1 1, 3) := by decide +kernel
theorem d_Ma_endAll_60 : decode b_Ma_endAll 60 = .ok (.goto (-58), 3) := by decide +kernel
theorem d_Ma_endAll_63 : decode b_Ma_endAll 63 = .ok (.aload_n 0, 1) := by decide +kernel
theorem d_Ma_endAll_64 : decode b_Ma_endAll 64 = .ok (.aload_n 0, 1) := by decide +kernel
theorem d_Ma_endAll_65 : decode b_Ma_endAll 65 = .ok (.getfield 172, 3) := by decide +kernel
theorem d_Ma_endAll_68 : decode b_Ma_endAll 68 = .ok (.invokevirtual 371, 3) := by decide +kernel
theorem d_Ma_endAll_71 : decode b_Ma_endAll 71 = .ok (.aload_n 0, 1) := by decide +kernel
theorem d_Ma_endAll_72 : decode b_Ma_endAll 72 = .ok (.invokevirtual 374, 3) := by decide +kernel
theorem d_Ma_endAll_75 : decode b_Ma_endAll 75 = .ok (.return_, 1) := by decide +kernel
theorem kw_1211 : Cond.methodLink R_Ma 371 y_Ma_empty ∈ wA := kinm (show _ ∈ tables_1 from (List.mem_append_right _ (List.mem_append_right _ (List.mem_append_right _ (List.mem_append_right _ (List.mem_append_right _ (List.mem_append_right _ (List.mem_append_right _ (List.mem_append_right _ (List.mem_append_left _ (List.mem_of_getElem? (l := tables_1_9) (i := 40) (by decide +kernel)))))))))))) (by decide +kernel)
theorem kw_1212 : Cond.methodLink R_Ma 374 y_Ma_endWithError ∈ wA := kinm (show _ ∈ tables_1 from (List.mem_append_right _ (List.mem_append_right _ (List.mem_append_right _ (List.mem_append_right _ (List.mem_append_right _ (List.mem_append_right _ (List.mem_append_right _ (List.mem_append_right _ (List.mem_append_left _ (List.mem_of_getElem? (l := tables_1_9) (i := 44) (by decide +kernel)))))))))))) (by decide +kernel)
theorem kw_1213 : Cond.instanceMethod y_Ma_endAll ∈ wA := kinm (show _ ∈ tables_1 from (List.mem_append_right _ (List.mem_append_right _ (List.mem_append_right _ (List.mem_append_right _ (List.mem_append_right _ (List.mem_append_right _ (List.mem_append_right _ (List.mem_append_right _ (List.mem_append_left _ (List.mem_of_getElem? (l := tables_1_9) (i := 38) (by decide +kernel)))))))))))) (by decide +kernel)
theorem kw_1214 : Cond.selects R_Ma y_Ma_endAll y_Ma_endAll ∈ wA := kinp 106 (by decide +kernel) (by decide +kernel)
theorem cv_Ma_endAll : CV y_Ma_endAll b_Ma_endAll 3 none 0 := ⟨kw_1213, kw_1214, kw_838, k_Ma_endAll, by decide +kernel⟩
theorem lp_Ma_endAll_L2 {X : Cx} {q : PL} (g : Gd X y_Ma_endAll b_Ma_endAll 3 none 2 46 R_Ma) (x : Int32) (s : S1) (o : ((Int32) ⊕ ((Unit))) × S1) (h : M_Ma_endAll_L2 x s = some o) (hR : (Sum.elim (fun y : Int32 => ∀ ls : Array Slot, lv_has ls 3 [(0, .ref (q.1 128 0)), (1, .int y)] → WW X q o.2 2 ls []) (fun y : Unit => ∀ ls : Array Slot, lv_has ls 3 [(0, .ref (q.1 128 0))] → WW X q o.2 63 ls []) o.1)) : ∀ ls : Array Slot, lv_has ls 3 [(0, .ref (q.1 128 0)), (1, .int x)] → WW X q s 2 ls [] := by
  intro ls hl
  unfold M_Ma_endAll_L2 at h
  refine ww_iload_n (pc := 2) g.1 d_Ma_endAll_2 rfl (lv_at hl 1 rfl) ?_
  refine ww_bipush (pc := 3) g.1 (v := 32) d_Ma_endAll_3 (by decide) ?_
  refine ww_icmp_ge (pc := 5) (tgt := 63) g.1 d_Ma_endAll_5 (by decide) h (fun c h => ?_) (fun c h => ?_)
  · rw [oR_eq h] at hR
    exact hR ls (lv_sub hl [0] rfl)
  · refine ww_aload_n (pc := 8) g.1 d_Ma_endAll_8 rfl (lv_at hl 0 rfl) ?_
    refine ww_gV (pc := 9) g (k := 11) cl_Ma (pz rfl (by decide)) (by decide) (Or.inl kw_988) (f := 16395) (t := 148) rfl rfl rfl d_Ma_endAll_9 h fun v9 h => ?_
    refine ww_pr h fun pn9 h => ?_
    refine ww_nnP pn9 ?_
    refine ww_gI (pc := 12) g (k := 11) cl_Co pn9 (by decide) (Or.inl kw_989) (f := 18955) rfl rfl d_Ma_endAll_12 h fun v12 h => ?_
    refine ww_if_lt (pc := 15) (tgt := 63) g.1 d_Ma_endAll_15 (by decide) h (fun c h => ?_) (fun c h => ?_)
    · rw [oR_eq h] at hR
      exact hR ls (lv_sub hl [0] rfl)
    · refine ww_aload_n (pc := 18) g.1 d_Ma_endAll_18 rfl (lv_at hl 0 rfl) ?_
      refine ww_aload_n (pc := 19) g.1 d_Ma_endAll_19 rfl (lv_at hl 0 rfl) ?_
      refine ww_gV (pc := 20) g (k := 11) cl_Ma (pz rfl (by decide)) (by decide) (Or.inl kw_988) (f := 16395) (t := 148) rfl rfl rfl d_Ma_endAll_20 h fun v20 h => ?_
      refine ww_pr h fun pn20 h => ?_
      refine ww_nnP pn20 ?_
      obtain ⟨v23, s, hc23, h⟩ := oB_of h
      refine ww_callV (pc := 23) (rest := []) g cv_Ma_empty (Or.inl kw_1211) cl_Ma (pz rfl (by decide)) (ct_Ma_empty pn20 hc23) ⟨by decide, by decide⟩ rfl hl.1 (Nat.le_of_ble_eq_true rfl) d_Ma_endAll_23 rfl (?_)
      refine ww_st (st' := []) rfl ?_
      refine ww_aload_n (pc := 26) g.1 d_Ma_endAll_26 rfl (lv_at hl 0 rfl) ?_
      refine ww_gV (pc := 27) g (k := 11) cl_Ma (pz rfl (by decide)) (by decide) (Or.inl kw_988) (f := 16395) (t := 148) rfl rfl rfl d_Ma_endAll_27 h fun v27 h => ?_
      refine ww_pr h fun pn27 h => ?_
      refine ww_nnP pn27 ?_
      refine ww_astore_n (pc := 30) (i := 2) g.1 (lv' := [(2, .ref (q.1 148 v27)), (0, .ref (q.1 128 0)), (1, .int x)]) d_Ma_endAll_30 rfl hl (by decide) rfl fun ls hl => ?_
      refine ww_aload_n (pc := 31) g.1 d_Ma_endAll_31 rfl (lv_at hl 1 rfl) ?_
      refine ww_aload_n (pc := 32) g.1 d_Ma_endAll_32 rfl (lv_at hl 1 rfl) ?_
      refine ww_gR (pc := 33) g (k := 1) cl_Ma (pz rfl (by decide)) (by decide) (Or.inl kw_938) (f := 16385) (t := 111) rfl rfl rfl d_Ma_endAll_33 ?_
      refine ww_gR (pc := 36) g (k := 6) cl_He (pz rfl (by decide)) (by decide) (Or.inl kw_939) (f := 14214) (t := 116) rfl rfl rfl d_Ma_endAll_36 ?_
      refine ww_aload_n (pc := 39) g.1 d_Ma_endAll_39 rfl (lv_at hl 0 rfl) ?_
      refine ww_gI (pc := 40) g (k := 11) cl_Co pn27 (by decide) (Or.inl kw_989) (f := 18955) rfl rfl d_Ma_endAll_40 h fun v40 h => ?_
      refine ww_a8 (pc := 43) g (t := 148) (n := 32) (pz rfl (by decide)) rfl rfl rfl rfl d_Ma_endAll_43 h fun pa43 h => ?_
      refine ww_st (st' := [vr q 148 v40, .ref (q.1 128 0)]) (by rw [vr_prs pa43]) ?_
      refine ww_pV (pc := 44) g (k := 11) cl_Ma (pz rfl (by decide)) (by decide) (Or.inl kw_988) rfl (f := 16395) (t := 148) rfl rfl rfl rfl fits_vr d_Ma_endAll_44 h fun s hs h => ?_
      have pn27 : prs s 148 v27 := prs_kI (r := 128) (k := 11) (by decide) hs pn27
      refine ww_aload_n (pc := 47) g.1 d_Ma_endAll_47 rfl (lv_at hl 0 rfl) ?_
      refine ww_iconst (pc := 48) g.1 (v := 3) d_Ma_endAll_48 (by decide) ?_
      refine ww_pI (pc := 49) g (k := 7) cl_Co pn27 (by decide) (Or.inl kw_833) rfl (f := 18951) rfl rfl rfl rfl d_Ma_endAll_49 h fun s hs h => ?_
      have pn27 : prs s 148 v27 := prs_kI (r := 148) (k := 7) (by decide) hs pn27
      refine ww_aload_n (pc := 52) g.1 d_Ma_endAll_52 rfl (lv_at hl 0 rfl) ?_
      refine ww_iconst (pc := 53) g.1 (v := (-1)) d_Ma_endAll_53 (by decide) ?_
      refine ww_pI (pc := 54) g (k := 11) cl_Co pn27 (by decide) (Or.inl kw_989) rfl (f := 18955) rfl rfl rfl rfl d_Ma_endAll_54 h fun s hs h => ?_
      have pn27 : prs s 148 v27 := prs_kI (r := 148) (k := 11) (by decide) hs pn27
      refine ww_iinc (pc := 57) g.1 (v := x + 1) (lv' := [(1, .int (x + 1)), (2, .ref (q.1 148 v27)), (0, .ref (q.1 128 0))]) d_Ma_endAll_57 hl (k := 2) rfl (by rfl) (by decide) rfl fun ls hl => ?_
      refine ww_goto (pc := 60) (tgt := 2) g.1 d_Ma_endAll_60 (by decide) ?_
      rw [oR_eq h] at hR
      exact hR ls (lv_sub hl [2, 0] rfl)

theorem j_Ma_endAll_j63 {X : Cx} {q : PL} (g : Gd X y_Ma_endAll b_Ma_endAll 3 none 2 46 R_Ma) {o : (Unit) × S1} (hR : Rt X q o.2 none)  (s : S1) (ls : Array Slot) (hl : lv_has ls 3 [(0, .ref (q.1 128 0))]) (h : M_Ma_endAll_j63 s = some o) : WW X q s 63 ls [] := by
  unfold M_Ma_endAll_j63 at h
  refine ww_aload_n (pc := 63) g.1 d_Ma_endAll_63 rfl (lv_at hl 0 rfl) ?_
  refine ww_aload_n (pc := 64) g.1 d_Ma_endAll_64 rfl (lv_at hl 0 rfl) ?_
  refine ww_gV (pc := 65) g (k := 11) cl_Ma (pz rfl (by decide)) (by decide) (Or.inl kw_988) (f := 16395) (t := 148) rfl rfl rfl d_Ma_endAll_65 h fun v65 h => ?_
  refine ww_pr h fun pn65 h => ?_
  refine ww_nnP pn65 ?_
  obtain ⟨v68, s, hc68, h⟩ := oB_of h
  refine ww_callV (pc := 68) (rest := []) g cv_Ma_empty (Or.inl kw_1211) cl_Ma (pz rfl (by decide)) (ct_Ma_empty pn65 hc68) ⟨by decide, by decide⟩ rfl hl.1 (Nat.le_of_ble_eq_true rfl) d_Ma_endAll_68 rfl (?_)
  refine ww_st (st' := []) rfl ?_
  refine ww_aload_n (pc := 71) g.1 d_Ma_endAll_71 rfl (lv_at hl 0 rfl) ?_
  obtain ⟨v72, s, hc72, h⟩ := oB_of h
  refine ww_callV (pc := 72) (rest := []) g cv_Ma_endWithError (Or.inl kw_1212) cl_Ma (pz rfl (by decide)) (ct_Ma_endWithError hc72) ⟨by decide, by decide⟩ rfl hl.1 (Nat.le_of_ble_eq_true rfl) d_Ma_endAll_72 rfl (?_)
  refine ww_st (st' := []) rfl ?_
  exact ww_vretH (pc := 75) g h hR d_Ma_endAll_75

theorem ct_Ma_endAll {l : Launch} {P : PP} {q : PL} {s s' : S1}  {r : Unit} (h : M_Ma_endAll s = some (r, s')) : Ct l y_Ma_endAll b_Ma_endAll 3 none 2 46 P q s [.ref (q.1 128 0)] none q s' := by
  refine ct_of (by decide) (Nat.le_of_ble_eq_true rfl) fun X ls eP el g hR hl => ?_
  subst eP
  have hR : Rt X q ((r, s') : Unit × S1).2 none := hR
  have hl : lv_has ls 3 [(0, .ref (q.1 128 0))] := hl
  generalize (r, s') = o at h hR
  unfold M_Ma_endAll at h
  refine ww_iconst (pc := 0) g.1 (v := 0) d_Ma_endAll_0 (by decide) ?_
  refine ww_istore_n (pc := 1) (i := 1) g.1 (lv' := [(1, .int 0), (0, .ref (q.1 128 0))]) d_Ma_endAll_1 rfl hl (by decide) rfl fun ls hl => ?_
  obtain ⟨e2, s1, hw, h⟩ := oB_of h
  refine oW_rule (Wh := fun (x : Int32) (s : S1) => ∀ ls : Array Slot, lv_has ls 3 [(0, .ref (q.1 128 0)), (1, .int x)] → WW X q s 2 ls []) (We := fun (e : (Unit)) (s : S1) => ∀ ls : Array Slot, lv_has ls 3 [(0, .ref (q.1 128 0))] → WW X q s 63 ls []) (fun x s o hb hc => lp_Ma_endAll_L2 (q := q) g x s o hb hc) hw ?_ ls (lv_sub hl [1, 0] rfl)
  clear hw hl
  clear ls
  intro ls hl
  generalize s1 = s at h ⊢
  exact j_Ma_endAll_j63 g hR s ls (lv_sub hl [0] rfl) h

abbrev b_LM_kind : ByteArray := prog_1_method_10_code
def y_LM_kind : MethodName := ⟨R_LM, "kind", "(I)I"⟩
abbrev w_LM_kind : List Cond := .code y_LM_kind b_LM_kind 2 (some .int) :: wA
theorem k_LM_kind : Cond.code y_LM_kind b_LM_kind 2 (some .int) ∈ wA := kinm (show _ ∈ tables_1 from (List.mem_append_right _ (List.mem_append_right _ (List.mem_append_right _ (List.mem_append_right _ (List.mem_append_right _ (List.mem_append_right _ (List.mem_append_right _ (List.mem_append_right _ (List.mem_append_left _ (List.mem_of_getElem? (l := tables_1_9) (i := 67) (by decide +kernel)))))))))))) (by decide +kernel)
theorem d_LM_kind_0 : decode b_LM_kind 0 = .ok (.aload_n 0, 1) := by decide +kernel
theorem d_LM_kind_1 : decode b_LM_kind 1 = .ok (.iload_n 1, 1) := by decide +kernel
theorem d_LM_kind_2 : decode b_LM_kind 2 = .ok (.invokevirtual 146, 3) := by decide +kernel
theorem d_LM_kind_5 : decode b_LM_kind 5 = .ok (.ifCond .eq 11, 3) := by decide +kernel
theorem d_LM_kind_8 : decode b_LM_kind 8 = .ok (.new 149, 3) := by decide +kernel
theorem d_LM_kind_11 : decode b_LM_kind 11 = .ok (.dup, 1) := by decide +kernel
theorem d_LM_kind_12 : decode b_LM_kind 12 = .ok (.invokespecial 151, 3) := by decide +kernel
theorem d_LM_kind_15 : decode b_LM_kind 15 = .ok (.athrow, 1) := by decide +kernel
theorem d_LM_kind_16 : decode b_LM_kind 16 = .ok (.aload_n 0, 1) := by decide +kernel
theorem d_LM_kind_17 : decode b_LM_kind 17 = .ok (.getfield 33, 3) := by decide +kernel
theorem d_LM_kind_20 : decode b_LM_kind 20 = .ok (.getfield 152, 3) := by decide +kernel
theorem d_LM_kind_23 : decode b_LM_kind 23 = .ok (.getfield 156, 3) := by decide +kernel
theorem d_LM_kind_26 : decode b_LM_kind 26 = .ok (.iload_n 1, 1) := by decide +kernel
theorem d_LM_kind_27 : decode b_LM_kind 27 = .ok (.baload, 1) := by decide +kernel
theorem d_LM_kind_28 : decode b_LM_kind 28 = .ok (.ireturn, 1) := by decide +kernel
theorem kw_1215 : Cond.instanceMethod y_LM_kind ∈ wA := kinm (show _ ∈ tables_1 from (List.mem_append_right _ (List.mem_append_right _ (List.mem_append_right _ (List.mem_append_right _ (List.mem_append_right _ (List.mem_append_right _ (List.mem_append_right _ (List.mem_append_right _ (List.mem_append_left _ (List.mem_of_getElem? (l := tables_1_9) (i := 65) (by decide +kernel)))))))))))) (by decide +kernel)
theorem kw_1216 : Cond.selects R_LM y_LM_kind y_LM_kind ∈ wA := kinm (show _ ∈ tables_1 from (List.mem_append_right _ (List.mem_append_right _ (List.mem_append_right _ (List.mem_append_right _ (List.mem_append_right _ (List.mem_append_right _ (List.mem_append_right _ (List.mem_append_right _ (List.mem_append_left _ (List.mem_of_getElem? (l := tables_1_9) (i := 66) (by decide +kernel)))))))))))) (by decide +kernel)
theorem cv_LM_kind : CV y_LM_kind b_LM_kind 2 (some .int) 1 := ⟨kw_1215, kw_1216, kw_647, k_LM_kind, by decide +kernel⟩
theorem ct_LM_kind {l : Launch} {P : PP} {q : PL} {s s' : S1} {l1 : Int32} {r : Int32} (h : M_LM_kind l1 s = some (r, s')) : Ct l y_LM_kind b_LM_kind 2 (some .int) 1 21 P q s [.ref (q.1 100 0), .int l1] (some (.int r)) q s' := by
  refine ct_of (by decide) (Nat.le_of_ble_eq_true rfl) fun X ls eP el g hR hl => ?_
  subst eP
  have hR : Rt X q ((r, s') : Int32 × S1).2 (some (.int ((r, s') : Int32 × S1).1)) := hR
  have hl : lv_has ls 2 [(0, .ref (q.1 100 0)), (1, .int l1)] := hl
  generalize (r, s') = o at h hR
  unfold M_LM_kind at h
  refine ww_aload_n (pc := 0) g.1 d_LM_kind_0 rfl (lv_at hl 0 rfl) ?_
  refine ww_iload_n (pc := 1) g.1 d_LM_kind_1 rfl (lv_at hl 1 rfl) ?_
  obtain ⟨v2, s, hc2, h⟩ := oB_of h
  refine ww_callV (pc := 2) (rest := []) g cv_LM_hasNoResult (Or.inl kw_1031) cl_LM (pz rfl (by decide)) (ct_LM_hasNoResult hc2) ⟨by decide, by decide⟩ rfl hl.1 (Nat.le_of_ble_eq_true rfl) d_LM_kind_2 rfl (?_)
  refine ww_st (st' := [.int v2]) rfl ?_
  refine ww_if_eq (pc := 5) (tgt := 16) g.1 d_LM_kind_5 (by decide) h (fun c h => ?_) (fun c h => ?_)
  · refine ww_aload_n (pc := 16) g.1 d_LM_kind_16 rfl (lv_at hl 0 rfl) ?_
    refine ww_gR (pc := 17) g (k := 4) cl_LM (pz rfl (by decide)) (by decide) (Or.inl kw_635) (f := 12804) (t := 128) rfl rfl rfl d_LM_kind_17 ?_
    refine ww_gR (pc := 20) g (k := 7) cl_Ma (pz rfl (by decide)) (by decide) (Or.inl kw_640) (f := 16391) (t := 141) rfl rfl rfl d_LM_kind_20 ?_
    refine ww_gR (pc := 23) g (k := 0) (cl_Ro ⟨by decide, rfl⟩) (pz rfl (by decide)) (by decide) (Or.inl kw_1032) (f := 18048) (t := 142) rfl rfl rfl d_LM_kind_23 ?_
    refine ww_iload_n (pc := 26) g.1 d_LM_kind_26 rfl (lv_at hl 1 rfl) ?_
    refine ww_ab (pc := 27) g (pz rfl (by decide)) rfl rfl d_LM_kind_27 h fun v27 h => ?_
    exact ww_iretH (pc := 28) g h hR d_LM_kind_28
  · exact (oF_no h).elim

abbrev b_Ch_readPrototype : ByteArray := prog_3_method_6_code
def y_Ch_readPrototype : MethodName := ⟨R_Ch, "readPrototype", "(II)Z"⟩
abbrev w_Ch_readPrototype : List Cond := .code y_Ch_readPrototype b_Ch_readPrototype 4 (some .boolean) :: wA
theorem k_Ch_readPrototype : Cond.code y_Ch_readPrototype b_Ch_readPrototype 4 (some .boolean) ∈ wA := kinm (show _ ∈ tables_1 from (List.mem_append_right _ (List.mem_append_right _ (List.mem_append_left _ (List.mem_of_getElem? (l := tables_1_3) (i := 125) (by decide +kernel)))))) (by decide +kernel)
theorem d_Ch_readPrototype_0 : decode b_Ch_readPrototype 0 = .ok (.aload_n 0, 1) := by decide +kernel
theorem d_Ch_readPrototype_1 : decode b_Ch_readPrototype 1 = .ok (.getfield 11, 3) := by decide +kernel
theorem d_Ch_readPrototype_4 : decode b_Ch_readPrototype 4 = .ok (.iload_n 1, 1) := by decide +kernel
theorem d_Ch_readPrototype_5 : decode b_Ch_readPrototype 5 = .ok (.aaload, 1) := by decide +kernel
theorem d_Ch_readPrototype_6 : decode b_Ch_readPrototype 6 = .ok (.ifnonnull 16, 3) := by decide +kernel
theorem d_Ch_readPrototype_9 : decode b_Ch_readPrototype 9 = .ok (.aload_n 0, 1) := by decide +kernel
theorem d_Ch_readPrototype_10 : decode b_Ch_readPrototype 10 = .ok (.getfield 11, 3) := by decide +kernel
theorem d_Ch_readPrototype_13 : decode b_Ch_readPrototype 13 = .ok (.iload_n 1, 1) := by decide +kernel
theorem d_Ch_readPrototype_14 : decode b_Ch_readPrototype 14 = .ok (.new 9, 3) := by decide +kernel
theorem d_Ch_readPrototype_17 : decode b_Ch_readPrototype 17 = .ok (.dup, 1) := by decide +kernel
theorem d_Ch_readPrototype_18 : decode b_Ch_readPrototype 18 = .ok (.invokespecial 87, 3) := by decide +kernel
theorem d_Ch_readPrototype_21 : decode b_Ch_readPrototype 21 = .ok (.aastore, 1) := by decide +kernel
theorem d_Ch_readPrototype_22 : decode b_Ch_readPrototype 22 = .ok (.aload_n 0, 1) := by decide +kernel
theorem d_Ch_readPrototype_23 : decode b_Ch_readPrototype 23 = .ok (.getfield 11, 3) := by decide +kernel
theorem d_Ch_readPrototype_26 : decode b_Ch_readPrototype 26 = .ok (.iload_n 1, 1) := by decide +kernel
theorem d_Ch_readPrototype_27 : decode b_Ch_readPrototype 27 = .ok (.aaload, 1) := by decide +kernel
theorem d_Ch_readPrototype_28 : decode b_Ch_readPrototype 28 = .ok (.astore_n 3, 1) := by decide +kernel
theorem d_Ch_readPrototype_29 : decode b_Ch_readPrototype 29 = .ok (.aload_n 3, 1) := by decide +kernel
theorem d_Ch_readPrototype_30 : decode b_Ch_readPrototype 30 = .ok (.iload_n 2, 1) := by decide +kernel
theorem d_Ch_readPrototype_31 : decode b_Ch_readPrototype 31 = .ok (.putfield 88, 3) := by decide +kernel
theorem d_Ch_readPrototype_34 : decode b_Ch_readPrototype 34 = .ok (.aload_n 0, 1) := by decide +kernel
theorem d_Ch_readPrototype_35 : decode b_Ch_readPrototype 35 = .ok (.iload_n 1, 1) := by decide +kernel
theorem d_Ch_readPrototype_36 : decode b_Ch_readPrototype 36 = .ok (.iconst 1, 1) := by decide +kernel
theorem d_Ch_readPrototype_37 : decode b_Ch_readPrototype 37 = .ok (.iadd, 1) := by decide +kernel
theorem d_Ch_readPrototype_38 : decode b_Ch_readPrototype 38 = .ok (.putfield 75, 3) := by decide +kernel
theorem d_Ch_readPrototype_41 : decode b_Ch_readPrototype 41 = .ok (.aload_n 0, 1) := by decide +kernel
theorem d_Ch_readPrototype_42 : decode b_Ch_readPrototype 42 = .ok (.aload_n 3, 1) := by decide +kernel
theorem d_Ch_readPrototype_43 : decode b_Ch_readPrototype 43 = .ok (.invokevirtual 91, 3) := by decide +kernel
theorem d_Ch_readPrototype_46 : decode b_Ch_readPrototype 46 = .ok (.ifCond .eq 27, 3) := by decide +kernel
theorem d_Ch_readPrototype_49 : decode b_Ch_readPrototype 49 = .ok (.aload_n 0, 1) := by decide +kernel
theorem d_Ch_readPrototype_50 : decode b_Ch_readPrototype 50 = .ok (.aload_n 3, 1) := by decide +kernel
theorem d_Ch_readPrototype_51 : decode b_Ch_readPrototype 51 = .ok (.invokevirtual 95, 3) := by decide +kernel
theorem d_Ch_readPrototype_54 : decode b_Ch_readPrototype 54 = .ok (.ifCond .eq 19, 3) := by decide +kernel
theorem d_Ch_readPrototype_57 : decode b_Ch_readPrototype 57 = .ok (.aload_n 0, 1) := by decide +kernel
theorem d_Ch_readPrototype_58 : decode b_Ch_readPrototype 58 = .ok (.aload_n 3, 1) := by decide +kernel
theorem d_Ch_readPrototype_59 : decode b_Ch_readPrototype 59 = .ok (.invokevirtual 98, 3) := by decide +kernel
theorem d_Ch_readPrototype_62 : decode b_Ch_readPrototype 62 = .ok (.ifCond .eq 11, 3) := by decide +kernel
theorem d_Ch_readPrototype_65 : decode b_Ch_readPrototype 65 = .ok (.aload_n 0, 1) := by decide +kernel
theorem d_Ch_readPrototype_66 : decode b_Ch_readPrototype 66 = .ok (.aload_n 3, 1) := by decide +kernel
theorem d_Ch_readPrototype_67 : decode b_Ch_readPrototype 67 = .ok (.invokevirtual 101, 3) := by decide +kernel
theorem d_Ch_readPrototype_70 : decode b_Ch_readPrototype 70 = .ok (.ifCond .ne 5, 3) := by decide +kernel
theorem d_Ch_readPrototype_73 : decode b_Ch_readPrototype 73 = .ok (.iconst 0, 1) := by decide +kernel
theorem d_Ch_readPrototype_74 : decode b_Ch_readPrototype 74 = .ok (.ireturn, 1) := by decide +kernel
theorem d_Ch_readPrototype_75 : decode b_Ch_readPrototype 75 = .ok (.aload_n 3, 1) := by decide +kernel
theorem d_Ch_readPrototype_76 : decode b_Ch_readPrototype 76 = .ok (.aload_n 0, 1) := by decide +kernel
theorem d_Ch_readPrototype_77 : decode b_Ch_readPrototype 77 = .ok (.iconst 1, 1) := by decide +kernel
theorem d_Ch_readPrototype_78 : decode b_Ch_readPrototype 78 = .ok (.invokevirtual 104, 3) := by decide +kernel
theorem d_Ch_readPrototype_81 : decode b_Ch_readPrototype 81 = .ok (.putfield 70, 3) := by decide +kernel
theorem d_Ch_readPrototype_84 : decode b_Ch_readPrototype 84 = .ok (.aload_n 3, 1) := by decide +kernel
theorem d_Ch_readPrototype_85 : decode b_Ch_readPrototype 85 = .ok (.getfield 70, 3) := by decide +kernel
theorem d_Ch_readPrototype_88 : decode b_Ch_readPrototype 88 = .ok (.ifCond .lt 7, 3) := by decide +kernel
theorem d_Ch_readPrototype_91 : decode b_Ch_readPrototype 91 = .ok (.iconst 1, 1) := by decide +kernel
theorem d_Ch_readPrototype_92 : decode b_Ch_readPrototype 92 = .ok (.goto 4, 3) := by decide +kernel
theorem d_Ch_readPrototype_95 : decode b_Ch_readPrototype 95 = .ok (.iconst 0, 1) := by decide +kernel
theorem d_Ch_readPrototype_96 : decode b_Ch_readPrototype 96 = .ok (.ireturn, 1) := by decide +kernel
theorem kw_1217 : Cond.methodLink R_Ch 91 y_Ch_readHead ∈ wA := kinm (show _ ∈ tables_1 from (List.mem_append_right _ (List.mem_append_right _ (List.mem_append_left _ (List.mem_of_getElem? (l := tables_1_3) (i := 181) (by decide +kernel)))))) (by decide +kernel)
theorem kw_1218 : Cond.methodLink R_Ch 95 y_Ch_readUpvalues ∈ wA := kinm (show _ ∈ tables_1 from (List.mem_append_right _ (List.mem_append_right _ (List.mem_append_left _ (List.mem_of_getElem? (l := tables_1_3) (i := 189) (by decide +kernel)))))) (by decide +kernel)
theorem kw_1219 : Cond.methodLink R_Ch 98 y_Ch_readConstants ∈ wA := kinm (show _ ∈ tables_1 from (List.mem_append_right _ (List.mem_append_right _ (List.mem_append_left _ (List.mem_of_getElem? (l := tables_1_3) (i := 196) (by decide +kernel)))))) (by decide +kernel)
theorem kw_1220 : Cond.methodLink R_Ch 101 y_Ch_readCode ∈ wA := kinm (show _ ∈ tables_1 from (List.mem_append_right _ (List.mem_append_right _ (List.mem_append_left _ (List.mem_of_getElem? (l := tables_1_3) (i := 205) (by decide +kernel)))))) (by decide +kernel)
abbrev b_Pr_init : ByteArray := prog_8_method_1_code
def y_Pr_init : MethodName := ⟨R_Pr, "<init>", "()V"⟩
abbrev w_Pr_init : List Cond := .code y_Pr_init b_Pr_init 1 none :: wA
theorem k_Pr_init : Cond.code y_Pr_init b_Pr_init 1 none ∈ wA := kinm (show _ ∈ tables_1 from (List.mem_append_right _ (List.mem_append_right _ (List.mem_append_left _ (List.mem_of_getElem? (l := tables_1_3) (i := 129) (by decide +kernel)))))) (by decide +kernel)
theorem d_Pr_init_0 : decode b_Pr_init 0 = .ok (.aload_n 0, 1) := by decide +kernel
theorem d_Pr_init_1 : decode b_Pr_init 1 = .ok (.invokespecial 1, 3) := by decide +kernel
theorem d_Pr_init_4 : decode b_Pr_init 4 = .ok (.return_, 1) := by decide +kernel
theorem kw_1221 : Cond.methodLink R_Pr 1 objectInit ∈ wA := kinm (show _ ∈ tables_1 from (List.mem_append_right _ (List.mem_append_right _ (List.mem_append_left _ (List.mem_of_getElem? (l := tables_1_3) (i := 130) (by decide +kernel)))))) (by decide +kernel)
theorem kw_1222 : Cond.instanceMethod y_Pr_init ∈ wA := kinm (show _ ∈ tables_1 from (List.mem_append_right _ (List.mem_append_right _ (List.mem_append_left _ (List.mem_of_getElem? (l := tables_1_3) (i := 128) (by decide +kernel)))))) (by decide +kernel)
theorem kw_1223 : Cond.initialized R_Pr ∈ wA := kinm (show _ ∈ tables_1 from (List.mem_append_left _ (List.mem_of_getElem? (l := tables_1_1) (i := 17) (by decide +kernel)))) (by decide +kernel)
theorem ci_Pr_init : CIi y_Pr_init b_Pr_init 1 0 := ⟨rfl, kw_1222, kw_1223, k_Pr_init, by decide +kernel⟩
theorem ct0_Pr_init {l : Launch} : Ct0 l y_Pr_init b_Pr_init := ct0_ofi (by decide) d_Pr_init_0 d_Pr_init_1 d_Pr_init_4 kw_1221 kw_779 kw_780
theorem nw_Ch_87 : Cond.methodLinkNest R_Ch 87 y_Pr_init "LuaMachine" ∈ xW := xinm (show _ ∈ tables_1 from (List.mem_append_right _ (List.mem_append_right _ (List.mem_append_left _ (List.mem_of_getElem? (l := tables_1_3) (i := 127) (by decide +kernel)))))) (by decide +kernel)
theorem kw_1225 : Cond.classLink R_Ch 9 R_Pr ∈ wA := kinm (show _ ∈ tables_1 from (List.mem_append_left _ (List.mem_of_getElem? (l := tables_1_1) (i := 49) (by decide +kernel)))) (by decide +kernel)
theorem kw_1226 : Cond.instantiable R_Pr 13 ∈ wA := kinm (show _ ∈ tables_1 from (List.mem_append_right _ (List.mem_append_right _ (List.mem_append_left _ (List.mem_of_getElem? (l := tables_1_3) (i := 126) (by decide +kernel)))))) (by decide +kernel)
theorem kw_1227 : Cond.instanceMethod y_Ch_readPrototype ∈ wA := kinm (show _ ∈ tables_1 from (List.mem_append_right _ (List.mem_append_right _ (List.mem_append_left _ (List.mem_of_getElem? (l := tables_1_3) (i := 124) (by decide +kernel)))))) (by decide +kernel)
theorem kw_1228 : Cond.selects R_Ch y_Ch_readPrototype y_Ch_readPrototype ∈ wA := kinp 5 (by decide +kernel) (by decide +kernel)
theorem cv_Ch_readPrototype : CV y_Ch_readPrototype b_Ch_readPrototype 4 (some .boolean) 2 := ⟨kw_1227, kw_1228, kw_664, k_Ch_readPrototype, by decide +kernel⟩
theorem j_Ch_readPrototype_j22 {X : Cx} {q0 q : PL} (g : Gd X y_Ch_readPrototype b_Ch_readPrototype 4 (some .boolean) 4 92 R_Ch) {o : (Int32 × (Nat × Nat)) × S1} (hR : RtX X [] q0 o.1.2 o.2 (fun _ => some (.int o.1.1))) (hx0 : Exq (xP X) [] q0 q) (l1 : Int32) (l2 : Int32) (ln : Nat × Nat) (hm : Rmq (xP X) q ln) (s : S1) (ls : Array Slot) (hl : lv_has ls 4 [(0, .ref (q.1 101 0)), (1, .int l1), (2, .int l2)]) (h : M_Ch_readPrototype_j22 l1 l2 ln s = some o) : WW X q s 22 ls [] := by
  unfold M_Ch_readPrototype_j22 at h
  refine ww_aload_n (pc := 22) g.1 d_Ch_readPrototype_22 rfl (lv_at hl 0 rfl) ?_
  refine ww_gR (pc := 23) g (k := 0) cl_Ch (pz rfl (by decide)) (by decide) (Or.inl kw_689) (f := 12928) (t := 102) rfl rfl rfl d_Ch_readPrototype_23 ?_
  refine ww_iload_n (pc := 26) g.1 d_Ch_readPrototype_26 rfl (lv_at hl 1 rfl) ?_
  refine ww_a8 (pc := 27) g (t := 144) (n := 250) (pz rfl (by decide)) rfl rfl rfl rfl d_Ch_readPrototype_27 h fun pa27 h => ?_
  refine ww_astore_n (pc := 28) (i := 3) g.1 (lv' := [(3, .ref (q.1 144 l1)), (0, .ref (q.1 101 0)), (1, .int l1), (2, .int l2)]) d_Ch_readPrototype_28 rfl hl (by decide) rfl fun ls hl => ?_
  refine ww_aload_n (pc := 29) g.1 d_Ch_readPrototype_29 rfl (lv_at hl 0 rfl) ?_
  refine ww_iload_n (pc := 30) g.1 d_Ch_readPrototype_30 rfl (lv_at hl 3 rfl) ?_
  refine ww_pI (pc := 31) g (k := 12) cl_Pr pa27 (by decide) (Or.inl kw_692) rfl (f := 18444) rfl rfl rfl rfl d_Ch_readPrototype_31 h fun s hs h => ?_
  have pa27 : prs s 144 l1 := prs_kI (r := 144) (k := 12) (by decide) hs pa27
  refine ww_aload_n (pc := 34) g.1 d_Ch_readPrototype_34 rfl (lv_at hl 1 rfl) ?_
  refine ww_iload_n (pc := 35) g.1 d_Ch_readPrototype_35 rfl (lv_at hl 2 rfl) ?_
  refine ww_iconst (pc := 36) g.1 (v := 1) d_Ch_readPrototype_36 (by decide) ?_
  refine ww_iadd (pc := 37) g.1 d_Ch_readPrototype_37 ?_
  refine ww_pI (pc := 38) g (k := 9) cl_Ch (pz rfl (by decide)) (by decide) (Or.inl kw_658) rfl (f := 12937) rfl rfl rfl rfl d_Ch_readPrototype_38 h fun s hs h => ?_
  have pa27 : prs s 144 l1 := prs_kI (r := 101) (k := 9) (by decide) hs pa27
  refine ww_aload_n (pc := 41) g.1 d_Ch_readPrototype_41 rfl (lv_at hl 1 rfl) ?_
  refine ww_aload_n (pc := 42) g.1 d_Ch_readPrototype_42 rfl (lv_at hl 0 rfl) ?_
  refine ww_lo fun dlo => ?_
  obtain ⟨v43, s, hc43, h⟩ := oB_of h
  refine ww_callV (pc := 43) (rest := []) g cv_Ch_readHead (Or.inl kw_1217) cl_Ch (pz rfl (by decide)) (ct_Ch_readHead pa27 hc43) ⟨by decide, by decide⟩ rfl hl.1 (Nat.le_of_ble_eq_true rfl) d_Ch_readPrototype_43 rfl (?_)
  refine ww_st (st' := [.int v43]) rfl ?_
  refine ww_hi fun dhi => ?_
  have pa27 : prs s 144 l1 := dhi _ _ pa27.2.1 pa27.2.2 (dlo _ _ pa27)
  refine ww_if_eq (pc := 46) (tgt := 73) g.1 d_Ch_readPrototype_46 (by decide) h (fun c h => ?_) (fun c h => ?_)
  · refine ww_iconst (pc := 73) g.1 (v := 0) d_Ch_readPrototype_73 (by decide) ?_
    exact ww_zretX (pc := 74) g h hR hx0 hm (Or.inl rfl) d_Ch_readPrototype_74
  · refine ww_aload_n (pc := 49) g.1 d_Ch_readPrototype_49 rfl (lv_at hl 1 rfl) ?_
    refine ww_aload_n (pc := 50) g.1 d_Ch_readPrototype_50 rfl (lv_at hl 0 rfl) ?_
    refine ww_lo fun dlo => ?_
    obtain ⟨v51, s, hc51, h⟩ := oB_of h
    refine ww_callV (pc := 51) (rest := []) g cv_Ch_readUpvalues (Or.inl kw_1218) cl_Ch (pz rfl (by decide)) (ct_Ch_readUpvalues pa27 hc51) ⟨by decide, by decide⟩ rfl hl.1 (Nat.le_of_ble_eq_true rfl) d_Ch_readPrototype_51 rfl (?_)
    refine ww_st (st' := [.int v51]) rfl ?_
    refine ww_hi fun dhi => ?_
    have pa27 : prs s 144 l1 := dhi _ _ pa27.2.1 pa27.2.2 (dlo _ _ pa27)
    refine ww_if_eq (pc := 54) (tgt := 73) g.1 d_Ch_readPrototype_54 (by decide) h (fun c h => ?_) (fun c h => ?_)
    · refine ww_iconst (pc := 73) g.1 (v := 0) d_Ch_readPrototype_73 (by decide) ?_
      exact ww_zretX (pc := 74) g h hR hx0 hm (Or.inl rfl) d_Ch_readPrototype_74
    · refine ww_aload_n (pc := 57) g.1 d_Ch_readPrototype_57 rfl (lv_at hl 1 rfl) ?_
      refine ww_aload_n (pc := 58) g.1 d_Ch_readPrototype_58 rfl (lv_at hl 0 rfl) ?_
      refine ww_lo fun dlo => ?_
      obtain ⟨v59, s, hc59, h⟩ := oB_of h
      refine ww_callV (pc := 59) (rest := []) g cv_Ch_readConstants (Or.inl kw_1219) cl_Ch (pz rfl (by decide)) (ct_Ch_readConstants pa27 hc59) ⟨by decide, by decide⟩ rfl hl.1 (Nat.le_of_ble_eq_true rfl) d_Ch_readPrototype_59 rfl (?_)
      refine ww_st (st' := [.int v59]) rfl ?_
      refine ww_hi fun dhi => ?_
      have pa27 : prs s 144 l1 := dhi _ _ pa27.2.1 pa27.2.2 (dlo _ _ pa27)
      refine ww_if_eq (pc := 62) (tgt := 73) g.1 d_Ch_readPrototype_62 (by decide) h (fun c h => ?_) (fun c h => ?_)
      · refine ww_iconst (pc := 73) g.1 (v := 0) d_Ch_readPrototype_73 (by decide) ?_
        exact ww_zretX (pc := 74) g h hR hx0 hm (Or.inl rfl) d_Ch_readPrototype_74
      · refine ww_aload_n (pc := 65) g.1 d_Ch_readPrototype_65 rfl (lv_at hl 1 rfl) ?_
        refine ww_aload_n (pc := 66) g.1 d_Ch_readPrototype_66 rfl (lv_at hl 0 rfl) ?_
        refine ww_lo fun dlo => ?_
        obtain ⟨v67, s, hc67, h⟩ := oB_of h
        refine ww_callV (pc := 67) (rest := []) g cv_Ch_readCode (Or.inl kw_1220) cl_Ch (pz rfl (by decide)) (ct_Ch_readCode pa27 hc67) ⟨by decide, by decide⟩ rfl hl.1 (Nat.le_of_ble_eq_true rfl) d_Ch_readPrototype_67 rfl (?_)
        refine ww_st (st' := [.int v67]) rfl ?_
        refine ww_hi fun dhi => ?_
        have pa27 : prs s 144 l1 := dhi _ _ pa27.2.1 pa27.2.2 (dlo _ _ pa27)
        refine ww_if_ne (pc := 70) (tgt := 75) g.1 d_Ch_readPrototype_70 (by decide) h (fun c h => ?_) (fun c h => ?_)
        · refine ww_aload_n (pc := 75) g.1 d_Ch_readPrototype_75 rfl (lv_at hl 0 rfl) ?_
          refine ww_aload_n (pc := 76) g.1 d_Ch_readPrototype_76 rfl (lv_at hl 1 rfl) ?_
          refine ww_iconst (pc := 77) g.1 (v := 1) d_Ch_readPrototype_77 (by decide) ?_
          refine ww_lo fun dlo => ?_
          obtain ⟨v78, s, hc78, h⟩ := oB_of h
          refine ww_callV (pc := 78) (rest := [.ref (q.1 144 l1)]) g cv_Ch_readNumber (Or.inl kw_680) cl_Ch (pz rfl (by decide)) (ct_Ch_readNumber hc78) ⟨by decide, by decide⟩ rfl hl.1 (Nat.le_of_ble_eq_true rfl) d_Ch_readPrototype_78 rfl (?_)
          refine ww_st (st' := [.int v78, .ref (q.1 144 l1)]) rfl ?_
          refine ww_hi fun dhi => ?_
          have pa27 : prs s 144 l1 := dhi _ _ pa27.2.1 pa27.2.2 (dlo _ _ pa27)
          refine ww_pI (pc := 81) g (k := 10) cl_Pr pa27 (by decide) (Or.inl kw_691) rfl (f := 18442) rfl rfl rfl rfl d_Ch_readPrototype_81 h fun s hs h => ?_
          have pa27 : prs s 144 l1 := prs_kI (r := 144) (k := 10) (by decide) hs pa27
          refine ww_aload_n (pc := 84) g.1 d_Ch_readPrototype_84 rfl (lv_at hl 0 rfl) ?_
          refine ww_gI (pc := 85) g (k := 10) cl_Pr pa27 (by decide) (Or.inl kw_691) (f := 18442) rfl rfl d_Ch_readPrototype_85 h fun v85 h => ?_
          refine ww_if_lt (pc := 88) (tgt := 95) g.1 d_Ch_readPrototype_88 (by decide) h (fun c h => ?_) (fun c h => ?_)
          · refine ww_iconst (pc := 95) g.1 (v := 0) d_Ch_readPrototype_95 (by decide) ?_
            exact ww_zretX (pc := 96) g h hR hx0 hm (Or.inl rfl) d_Ch_readPrototype_96
          · refine ww_iconst (pc := 91) g.1 (v := 1) d_Ch_readPrototype_91 (by decide) ?_
            refine ww_goto (pc := 92) (tgt := 96) g.1 d_Ch_readPrototype_92 (by decide) ?_
            exact ww_zretX (pc := 96) g h hR hx0 hm (Or.inr rfl) d_Ch_readPrototype_96
        · refine ww_iconst (pc := 73) g.1 (v := 0) d_Ch_readPrototype_73 (by decide) ?_
          exact ww_zretX (pc := 74) g h hR hx0 hm (Or.inl rfl) d_Ch_readPrototype_74

theorem ct_Ch_readPrototype {l : Launch} {P : PP} {q : PL} {s s' : S1} {n0 n1 : Nat × Nat} {l1 : Int32} {l2 : Int32} {r : Int32} (hm : Rmq P q n0) (h : M_Ch_readPrototype n0 l1 l2 s = some ((r, n1), s')) : CtX l y_Ch_readPrototype b_Ch_readPrototype 4 (some .boolean) 4 92 P [] q s [.ref (q.1 101 0), .int l1, .int l2] (fun _ => some (.int r)) n1 s' := by
  refine ctX_of (by decide) (Nat.le_of_ble_eq_true rfl) fun X ls eP el g hR hl => ?_
  subst eP
  obtain ⟨q0, hq0⟩ : ∃ q0 : PL, q0 = q := ⟨q, rfl⟩
  have hx0 : Exq (xP X) [] q0 q := hq0 ▸ Exq.rf
  rw [← hq0] at hR
  have hR : RtX X [] q0 (((r, n1), s') : (Int32 × (Nat × Nat)) × S1).1.2 (((r, n1), s') : (Int32 × (Nat × Nat)) × S1).2 (fun _ => some (.int (((r, n1), s') : (Int32 × (Nat × Nat)) × S1).1.1)) := hR
  have hl : lv_has ls 4 [(0, .ref (q.1 101 0)), (1, .int l1), (2, .int l2)] := hl
  generalize ((r, n1), s') = o at h hR
  unfold M_Ch_readPrototype at h
  refine ww_aload_n (pc := 0) g.1 d_Ch_readPrototype_0 rfl (lv_at hl 0 rfl) ?_
  refine ww_gR (pc := 1) g (k := 0) cl_Ch (pz rfl (by decide)) (by decide) (Or.inl kw_689) (f := 12928) (t := 102) rfl rfl rfl d_Ch_readPrototype_1 ?_
  refine ww_iload_n (pc := 4) g.1 d_Ch_readPrototype_4 rfl (lv_at hl 1 rfl) ?_
  refine ww_a8N (pc := 5) g (t := 144) (n := 250) (pz rfl (by decide)) rfl rfl rfl d_Ch_readPrototype_5 h fun v5 h => ?_
  refine ww_ifnonnullV (pc := 6) (tgt := 22) g.1 d_Ch_readPrototype_6 (by decide) h (fun c h => ?_) (fun c h => ?_)
  · exact j_Ch_readPrototype_j22 g hR hx0 l1 l2 n0 hm s ls (lv_sub hl [0, 1, 2] rfl) h
  · refine ww_aload_n (pc := 9) g.1 d_Ch_readPrototype_9 rfl (lv_at hl 0 rfl) ?_
    refine ww_gR (pc := 10) g (k := 0) cl_Ch (pz rfl (by decide)) (by decide) (Or.inl kw_689) (f := 12928) (t := 102) rfl rfl rfl d_Ch_readPrototype_10 ?_
    refine ww_iload_n (pc := 13) g.1 d_Ch_readPrototype_13 rfl (lv_at hl 1 rfl) ?_
    refine ww_ok h fun cn14 h => ?_
    refine ww_ks h fun cg14 h => ?_
    refine ww_lo fun dlo => ?_
    refine ww_nwO (ra := 102) (ia := 0) (j := l1) (jj := l1) (t := 144) (N := 250) (L := []) (pc := 14) g (pz rfl (by decide)) (Or.inl ⟨rfl, rfl⟩) rfl rfl rfl (by decide) (in32 rfl cn14) cl_Pr dv_Pr h5_Pr (by decide) (in32 rfl cn14) (rfPr cg14.2) ⟨cg14.1, rfl⟩ kw_1225 kw_1226 kw_1223 ci_Pr_init (Or.inr ⟨_, nw_Ch_87⟩) ct0_Pr_init ⟨by decide, by decide⟩ hl.1 (Nat.le_of_ble_eq_true rfl) hm d_Ch_readPrototype_14 d_Ch_readPrototype_17 d_Ch_readPrototype_18 d_Ch_readPrototype_21 h (fun _ => rfl) fun q14 m14 s hs hE hm pm14 h => ?_
    have ex14_0 : q14.1 101 0 = q.1 101 0 := hE _ _ (by decide) (dlo _ _ (pz rfl (by decide)))
    have hl : lv_has ls 4 [(0, .ref (q14.1 101 0)), (1, .int l1), (2, .int l2)] := by rw [ex14_0]; exact hl
    refine ww_st (st' := []) (by rfl) ?_
    have hx0 : Exq (xP X) [] _ q14 := hx0.tr (hE.sub (by decide))
    exact j_Ch_readPrototype_j22 g hR hx0 l1 l2 m14 hm s ls (lv_sub hl [0, 1, 2] rfl) h


