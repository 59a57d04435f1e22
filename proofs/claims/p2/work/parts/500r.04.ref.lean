abbrev b_Th_begin : ByteArray := prog_15_method_2_code
def y_Th_begin : MethodName := ⟨R_Th, "begin", "(I)V"⟩
abbrev w_Th_begin : List Cond := .code y_Th_begin b_Th_begin 2 none :: wA
theorem k_Th_begin : Cond.code y_Th_begin b_Th_begin 2 none ∈ wA := kinm (show _ ∈ tables_1 from (List.mem_append_right _ (List.mem_append_right _ (List.mem_append_right _ (List.mem_append_right _ (List.mem_append_right _ (List.mem_append_right _ (List.mem_append_right _ (List.mem_append_right _ (List.mem_append_right _ (List.mem_append_right _ (List.mem_append_right _ (List.mem_append_left _ (List.mem_of_getElem? (l := tables_1_12) (i := 124) (by decide +kernel))))))))))))))) (by decide +kernel)
theorem d_Th_begin_0 : decode b_Th_begin 0 = .ok (.aload_n 0, 1) := by decide +kernel
theorem d_Th_begin_1 : decode b_Th_begin 1 = .ok (.iload_n 1, 1) := by decide +kernel
theorem d_Th_begin_2 : decode b_Th_begin 2 = .ok (.putfield 7, 3) := by decide +kernel
theorem d_Th_begin_5 : decode b_Th_begin 5 = .ok (.aload_n 0, 1) := by decide +kernel
theorem d_Th_begin_6 : decode b_Th_begin 6 = .ok (.iconst 0, 1) := by decide +kernel
theorem d_Th_begin_7 : decode b_Th_begin 7 = .ok (.putfield 13, 3) := by decide +kernel
theorem d_Th_begin_10 : decode b_Th_begin 10 = .ok (.aload_n 0, 1) := by decide +kernel
theorem d_Th_begin_11 : decode b_Th_begin 11 = .ok (.iconst 0, 1) := by decide +kernel
theorem d_Th_begin_12 : decode b_Th_begin 12 = .ok (.putfield 16, 3) := by decide +kernel
theorem d_Th_begin_15 : decode b_Th_begin 15 = .ok (.aload_n 0, 1) := by decide +kernel
theorem d_Th_begin_16 : decode b_Th_begin 16 = .ok (.iconst 0, 1) := by decide +kernel
theorem d_Th_begin_17 : decode b_Th_begin 17 = .ok (.putfield 19, 3) := by decide +kernel
theorem d_Th_begin_20 : decode b_Th_begin 20 = .ok (.aload_n 0, 1) := by decide +kernel
theorem d_Th_begin_21 : decode b_Th_begin 21 = .ok (.iconst 0, 1) := by decide +kernel
theorem d_Th_begin_22 : decode b_Th_begin 22 = .ok (.putfield 22, 3) := by decide +kernel
theorem d_Th_begin_25 : decode b_Th_begin 25 = .ok (.aload_n 0, 1) := by decide +kernel
theorem d_Th_begin_26 : decode b_Th_begin 26 = .ok (.iconst 0, 1) := by decide +kernel
theorem d_Th_begin_27 : decode b_Th_begin 27 = .ok (.putfield 25, 3) := by decide +kernel
theorem d_Th_begin_30 : decode b_Th_begin 30 = .ok (.aload_n 0, 1) := by decide +kernel
theorem d_Th_begin_31 : decode b_Th_begin 31 = .ok (.aconst_null, 1) := by decide +kernel
theorem d_Th_begin_32 : decode b_Th_begin 32 = .ok (.putfield 29, 3) := by decide +kernel
theorem d_Th_begin_35 : decode b_Th_begin 35 = .ok (.aload_n 0, 1) := by decide +kernel
theorem d_Th_begin_36 : decode b_Th_begin 36 = .ok (.getfield 45, 3) := by decide +kernel
theorem d_Th_begin_39 : decode b_Th_begin 39 = .ok (.iconst 0, 1) := by decide +kernel
theorem d_Th_begin_40 : decode b_Th_begin 40 = .ok (.putfield 85, 3) := by decide +kernel
theorem d_Th_begin_43 : decode b_Th_begin 43 = .ok (.return_, 1) := by decide +kernel
theorem kw_136 : Cond.fieldLink R_Th 7 "LuaMachineModel$Thread_" "place" "I" ∈ wA := kinm (show _ ∈ tables_1 from (List.mem_append_right _ (List.mem_append_right _ (List.mem_append_right _ (List.mem_append_right _ (List.mem_append_right _ (List.mem_append_right _ (List.mem_append_right _ (List.mem_append_right _ (List.mem_append_left _ (List.mem_of_getElem? (l := tables_1_9) (i := 205) (by decide +kernel)))))))))))) (by decide +kernel)
theorem kw_137 : Cond.fieldLink R_Th 13 "LuaMachineModel$Thread_" "state" "I" ∈ wA := kinm (show _ ∈ tables_1 from (List.mem_append_right _ (List.mem_append_right _ (List.mem_append_right _ (List.mem_append_right _ (List.mem_append_right _ (List.mem_append_right _ (List.mem_append_right _ (List.mem_append_right _ (List.mem_append_left _ (List.mem_of_getElem? (l := tables_1_9) (i := 207) (by decide +kernel)))))))))))) (by decide +kernel)
theorem kw_138 : Cond.fieldLink R_Th 16 "LuaMachineModel$Thread_" "frames" "I" ∈ wA := kinm (show _ ∈ tables_1 from (List.mem_append_right _ (List.mem_append_right _ (List.mem_append_right _ (List.mem_append_right _ (List.mem_append_right _ (List.mem_append_right _ (List.mem_append_right _ (List.mem_append_right _ (List.mem_append_left _ (List.mem_of_getElem? (l := tables_1_9) (i := 209) (by decide +kernel)))))))))))) (by decide +kernel)
theorem kw_139 : Cond.fieldLink R_Th 19 "LuaMachineModel$Thread_" "openCount" "I" ∈ wA := kinm (show _ ∈ tables_1 from (List.mem_append_right _ (List.mem_append_right _ (List.mem_append_right _ (List.mem_append_right _ (List.mem_append_right _ (List.mem_append_right _ (List.mem_append_right _ (List.mem_append_right _ (List.mem_append_left _ (List.mem_of_getElem? (l := tables_1_9) (i := 211) (by decide +kernel)))))))))))) (by decide +kernel)
theorem kw_140 : Cond.fieldLink R_Th 22 "LuaMachineModel$Thread_" "room" "I" ∈ wA := kinm (show _ ∈ tables_1 from (List.mem_append_right _ (List.mem_append_right _ (List.mem_append_right _ (List.mem_append_right _ (List.mem_append_right _ (List.mem_append_right _ (List.mem_append_right _ (List.mem_append_right _ (List.mem_append_left _ (List.mem_of_getElem? (l := tables_1_9) (i := 213) (by decide +kernel)))))))))))) (by decide +kernel)
theorem kw_141 : Cond.fieldLink R_Th 25 "LuaMachineModel$Thread_" "begun" "Z" ∈ wA := kinm (show _ ∈ tables_1 from (List.mem_append_right _ (List.mem_append_right _ (List.mem_append_right _ (List.mem_append_right _ (List.mem_append_right _ (List.mem_append_right _ (List.mem_append_right _ (List.mem_append_right _ (List.mem_append_left _ (List.mem_of_getElem? (l := tables_1_9) (i := 214) (by decide +kernel)))))))))))) (by decide +kernel)
theorem kw_142 : Cond.fieldLink R_Th 29 "LuaMachineModel$Thread_" "resumer" "LLuaMachineModel$Thread_;" ∈ wA := kinm (show _ ∈ tables_1 from (List.mem_append_right _ (List.mem_append_right _ (List.mem_append_right _ (List.mem_append_right _ (List.mem_append_right _ (List.mem_append_right _ (List.mem_append_right _ (List.mem_append_right _ (List.mem_append_left _ (List.mem_of_getElem? (l := tables_1_9) (i := 216) (by decide +kernel)))))))))))) (by decide +kernel)
theorem kw_143 : Cond.fieldLink R_Th 45 "LuaMachineModel$Thread_" "start" "LLuaMachineModel$Values;" ∈ wA := kinm (show _ ∈ tables_1 from (List.mem_append_right _ (List.mem_append_right _ (List.mem_append_right _ (List.mem_append_right _ (List.mem_append_right _ (List.mem_append_right _ (List.mem_append_right _ (List.mem_append_right _ (List.mem_append_left _ (List.mem_of_getElem? (l := tables_1_9) (i := 222) (by decide +kernel)))))))))))) (by decide +kernel)
theorem kw_144 : Cond.fieldLink R_Th 85 "LuaMachineModel$Values" "n" "I" ∈ wA := kinm (show _ ∈ tables_1 from (List.mem_append_right _ (List.mem_append_right _ (List.mem_append_right _ (List.mem_append_right _ (List.mem_append_right _ (List.mem_append_right _ (List.mem_append_right _ (List.mem_append_right _ (List.mem_append_left _ (List.mem_of_getElem? (l := tables_1_9) (i := 127) (by decide +kernel)))))))))))) (by decide +kernel)
theorem kw_145 : Cond.instanceMethod y_Th_begin ∈ wA := kinm (show _ ∈ tables_1 from (List.mem_append_right _ (List.mem_append_right _ (List.mem_append_right _ (List.mem_append_right _ (List.mem_append_right _ (List.mem_append_right _ (List.mem_append_right _ (List.mem_append_right _ (List.mem_append_right _ (List.mem_append_right _ (List.mem_append_right _ (List.mem_append_left _ (List.mem_of_getElem? (l := tables_1_12) (i := 122) (by decide +kernel))))))))))))))) (by decide +kernel)
theorem kw_146 : Cond.selects R_Th y_Th_begin y_Th_begin ∈ wA := kinm (show _ ∈ tables_1 from (List.mem_append_right _ (List.mem_append_right _ (List.mem_append_right _ (List.mem_append_right _ (List.mem_append_right _ (List.mem_append_right _ (List.mem_append_right _ (List.mem_append_right _ (List.mem_append_right _ (List.mem_append_right _ (List.mem_append_right _ (List.mem_append_left _ (List.mem_of_getElem? (l := tables_1_12) (i := 123) (by decide +kernel))))))))))))))) (by decide +kernel)
theorem kw_147 : Cond.initialized R_Th ∈ wA := kinm (show _ ∈ tables_1 from (List.mem_append_left _ (List.mem_of_getElem? (l := tables_1_1) (i := 11) (by decide +kernel)))) (by decide +kernel)
theorem cv_Th_begin : CV y_Th_begin b_Th_begin 2 none 1 := ⟨kw_145, kw_146, kw_147, k_Th_begin, by decide +kernel⟩
theorem ct_Th_begin {l : Launch} {P : PP} {q : PL} {s s' : S1} {l0 : Int32} {l1 : Int32} (hp0 : 0 ≤ l0 ∧ l0 < 33) {r : Unit} (h : M_Th_begin l0 l1 s = some (r, s')) : Ct l y_Th_begin b_Th_begin 2 none 0 0 P q s [.ref (q.1 28 l0), .int l1] none q s' := by
  refine ct_of (by decide) (Nat.le_of_ble_eq_true rfl) fun X ls eP el g hR hl => ?_
  subst eP
  have hR : Rt X q ((r, s') : Unit × S1).2 none := hR
  have hl : lv_has ls 2 [(0, .ref (q.1 28 l0)), (1, .int l1)] := hl
  generalize (r, s') = o at h hR
  unfold M_Th_begin at h
  refine ww_aload_n (pc := 0) g.1 d_Th_begin_0 rfl (lv_at hl 0 rfl) ?_
  refine ww_iload_n (pc := 1) g.1 d_Th_begin_1 rfl (lv_at hl 1 rfl) ?_
  refine ww_pI (pc := 2) g (k := 0) cl_Th (pt rfl rfl hp0) (by decide) (Or.inl kw_136) rfl (f := 3584) rfl rfl rfl rfl d_Th_begin_2 h fun s hs h => ?_
  refine ww_aload_n (pc := 5) g.1 d_Th_begin_5 rfl (lv_at hl 0 rfl) ?_
  refine ww_iconst (pc := 6) g.1 (v := 0) d_Th_begin_6 (by decide) ?_
  refine ww_pI (pc := 7) g (k := 1) cl_Th (pt rfl rfl hp0) (by decide) (Or.inl kw_137) rfl (f := 3585) rfl rfl rfl rfl d_Th_begin_7 h fun s hs h => ?_
  refine ww_aload_n (pc := 10) g.1 d_Th_begin_10 rfl (lv_at hl 0 rfl) ?_
  refine ww_iconst (pc := 11) g.1 (v := 0) d_Th_begin_11 (by decide) ?_
  refine ww_pI (pc := 12) g (k := 2) cl_Th (pt rfl rfl hp0) (by decide) (Or.inl kw_138) rfl (f := 3586) rfl rfl rfl rfl d_Th_begin_12 h fun s hs h => ?_
  refine ww_aload_n (pc := 15) g.1 d_Th_begin_15 rfl (lv_at hl 0 rfl) ?_
  refine ww_iconst (pc := 16) g.1 (v := 0) d_Th_begin_16 (by decide) ?_
  refine ww_pI (pc := 17) g (k := 3) cl_Th (pt rfl rfl hp0) (by decide) (Or.inl kw_139) rfl (f := 3587) rfl rfl rfl rfl d_Th_begin_17 h fun s hs h => ?_
  refine ww_aload_n (pc := 20) g.1 d_Th_begin_20 rfl (lv_at hl 0 rfl) ?_
  refine ww_iconst (pc := 21) g.1 (v := 0) d_Th_begin_21 (by decide) ?_
  refine ww_pI (pc := 22) g (k := 4) cl_Th (pt rfl rfl hp0) (by decide) (Or.inl kw_140) rfl (f := 3588) rfl rfl rfl rfl d_Th_begin_22 h fun s hs h => ?_
  refine ww_aload_n (pc := 25) g.1 d_Th_begin_25 rfl (lv_at hl 0 rfl) ?_
  refine ww_iconst (pc := 26) g.1 (v := 0) d_Th_begin_26 (by decide) ?_
  refine ww_pI (pc := 27) g (k := 5) cl_Th (pt rfl rfl hp0) (by decide) (Or.inl kw_141) rfl (f := 3589) rfl rfl rfl rfl d_Th_begin_27 h fun s hs h => ?_
  refine ww_aload_n (pc := 30) g.1 d_Th_begin_30 rfl (lv_at hl 0 rfl) ?_
  refine ww_null (pc := 31) g.1 d_Th_begin_31 ?_
  refine ww_st (st' := [vr q 28 (-1), .ref (q.1 28 l0)]) (by rw [vr_m1]) ?_
  refine ww_pV (pc := 32) g (k := 6) cl_Th (pt rfl rfl hp0) (by decide) (Or.inl kw_142) rfl (f := 3590) (t := 28) rfl rfl rfl rfl fits_vr d_Th_begin_32 h fun s hs h => ?_
  refine ww_aload_n (pc := 35) g.1 d_Th_begin_35 rfl (lv_at hl 0 rfl) ?_
  refine ww_gR (pc := 36) g (k := 9) cl_Th (pt rfl rfl hp0) (by decide) (Or.inl kw_143) (f := 3593) (t := 25) rfl rfl rfl d_Th_begin_36 ?_
  refine ww_iconst (pc := 39) g.1 (v := 0) d_Th_begin_39 (by decide) ?_
  refine ww_pI (pc := 40) g (k := 2) (cl_Va (Or.inr ⟨by decide, hp0⟩)) (pt rfl rfl hp0) (by decide) (Or.inl kw_144) rfl (f := 3202) rfl rfl rfl rfl d_Th_begin_40 h fun s hs h => ?_
  exact ww_vretH (pc := 43) g h hR d_Th_begin_43

abbrev b_Th_top : ByteArray := prog_15_method_3_code
def y_Th_top : MethodName := ⟨R_Th, "top", "()I"⟩
abbrev w_Th_top : List Cond := .code y_Th_top b_Th_top 1 (some .int) :: wA
theorem k_Th_top : Cond.code y_Th_top b_Th_top 1 (some .int) ∈ wA := kinm (show _ ∈ tables_1 from (List.mem_append_right _ (List.mem_append_right _ (List.mem_append_right _ (List.mem_append_right _ (List.mem_append_right _ (List.mem_append_right _ (List.mem_append_right _ (List.mem_append_right _ (List.mem_append_right _ (List.mem_append_right _ (List.mem_append_right _ (List.mem_append_left _ (List.mem_of_getElem? (l := tables_1_12) (i := 137) (by decide +kernel))))))))))))))) (by decide +kernel)
theorem d_Th_top_0 : decode b_Th_top 0 = .ok (.aload_n 0, 1) := by decide +kernel
theorem d_Th_top_1 : decode b_Th_top 1 = .ok (.getfield 16, 3) := by decide +kernel
theorem d_Th_top_4 : decode b_Th_top 4 = .ok (.iconst 1, 1) := by decide +kernel
theorem d_Th_top_5 : decode b_Th_top 5 = .ok (.isub, 1) := by decide +kernel
theorem d_Th_top_6 : decode b_Th_top 6 = .ok (.ireturn, 1) := by decide +kernel
theorem kw_148 : Cond.instanceMethod y_Th_top ∈ wA := kinm (show _ ∈ tables_1 from (List.mem_append_right _ (List.mem_append_right _ (List.mem_append_right _ (List.mem_append_right _ (List.mem_append_right _ (List.mem_append_right _ (List.mem_append_right _ (List.mem_append_right _ (List.mem_append_right _ (List.mem_append_right _ (List.mem_append_right _ (List.mem_append_left _ (List.mem_of_getElem? (l := tables_1_12) (i := 135) (by decide +kernel))))))))))))))) (by decide +kernel)
theorem kw_149 : Cond.selects R_Th y_Th_top y_Th_top ∈ wA := kinm (show _ ∈ tables_1 from (List.mem_append_right _ (List.mem_append_right _ (List.mem_append_right _ (List.mem_append_right _ (List.mem_append_right _ (List.mem_append_right _ (List.mem_append_right _ (List.mem_append_right _ (List.mem_append_right _ (List.mem_append_right _ (List.mem_append_right _ (List.mem_append_left _ (List.mem_of_getElem? (l := tables_1_12) (i := 136) (by decide +kernel))))))))))))))) (by decide +kernel)
theorem cv_Th_top : CV y_Th_top b_Th_top 1 (some .int) 0 := ⟨kw_148, kw_149, kw_147, k_Th_top, by decide +kernel⟩
theorem ct_Th_top {l : Launch} {P : PP} {q : PL} {s s' : S1} {l0 : Int32} (hp0 : 0 ≤ l0 ∧ l0 < 33) {r : Int32} (h : M_Th_top l0 s = some (r, s')) : Ct l y_Th_top b_Th_top 1 (some .int) 0 0 P q s [.ref (q.1 28 l0)] (some (.int r)) q s' := by
  refine ct_of (by decide) (Nat.le_of_ble_eq_true rfl) fun X ls eP el g hR hl => ?_
  subst eP
  have hR : Rt X q ((r, s') : Int32 × S1).2 (some (.int ((r, s') : Int32 × S1).1)) := hR
  have hl : lv_has ls 1 [(0, .ref (q.1 28 l0))] := hl
  generalize (r, s') = o at h hR
  unfold M_Th_top at h
  refine ww_aload_n (pc := 0) g.1 d_Th_top_0 rfl (lv_at hl 0 rfl) ?_
  refine ww_gI (pc := 1) g (k := 2) cl_Th (pt rfl rfl hp0) (by decide) (Or.inl kw_138) (f := 3586) rfl rfl d_Th_top_1 h fun v1 h => ?_
  refine ww_iconst (pc := 4) g.1 (v := 1) d_Th_top_4 (by decide) ?_
  refine ww_isub (pc := 5) g.1 d_Th_top_5 ?_
  exact ww_iretH (pc := 6) g h hR d_Th_top_6

abbrev b_Mo_push : ByteArray := prog_14_method_68_code
def y_Mo_push : MethodName := ⟨R_Mo, "push", "(II)Z"⟩
abbrev w_Mo_push : List Cond := .code y_Mo_push b_Mo_push 5 (some .boolean) :: wA
theorem k_Mo_push : Cond.code y_Mo_push b_Mo_push 5 (some .boolean) ∈ wA := kinm (show _ ∈ tables_1 from (List.mem_append_right _ (List.mem_append_right _ (List.mem_append_right _ (List.mem_append_right _ (List.mem_append_right _ (List.mem_append_right _ (List.mem_append_right _ (List.mem_append_right _ (List.mem_append_right _ (List.mem_append_right _ (List.mem_append_right _ (List.mem_append_left _ (List.mem_of_getElem? (l := tables_1_12) (i := 141) (by decide +kernel))))))))))))))) (by decide +kernel)
theorem d_Mo_push_0 : decode b_Mo_push 0 = .ok (.aload_n 0, 1) := by decide +kernel
theorem d_Mo_push_1 : decode b_Mo_push 1 = .ok (.getfield 243, 3) := by decide +kernel
theorem d_Mo_push_4 : decode b_Mo_push 4 = .ok (.astore_n 3, 1) := by decide +kernel
theorem d_Mo_push_5 : decode b_Mo_push 5 = .ok (.aload_n 3, 1) := by decide +kernel
theorem d_Mo_push_6 : decode b_Mo_push 6 = .ok (.getfield 730, 3) := by decide +kernel
theorem d_Mo_push_9 : decode b_Mo_push 9 = .ok (.sipush 200, 3) := by decide +kernel
theorem d_Mo_push_12 : decode b_Mo_push 12 = .ok (.if_icmp .ne 11, 3) := by decide +kernel
theorem d_Mo_push_15 : decode b_Mo_push 15 = .ok (.aload_n 0, 1) := by decide +kernel
theorem d_Mo_push_16 : decode b_Mo_push 16 = .ok (.iconst 4, 1) := by decide +kernel
theorem d_Mo_push_17 : decode b_Mo_push 17 = .ok (.invokevirtual 517, 3) := by decide +kernel
theorem d_Mo_push_20 : decode b_Mo_push 20 = .ok (.pop, 1) := by decide +kernel
theorem d_Mo_push_21 : decode b_Mo_push 21 = .ok (.iconst 0, 1) := by decide +kernel
theorem d_Mo_push_22 : decode b_Mo_push 22 = .ok (.ireturn, 1) := by decide +kernel
theorem d_Mo_push_23 : decode b_Mo_push 23 = .ok (.aload_n 3, 1) := by decide +kernel
theorem d_Mo_push_24 : decode b_Mo_push 24 = .ok (.dup, 1) := by decide +kernel
theorem d_Mo_push_25 : decode b_Mo_push 25 = .ok (.getfield 730, 3) := by decide +kernel
theorem d_Mo_push_28 : decode b_Mo_push 28 = .ok (.dup_x1, 1) := by decide +kernel
theorem d_Mo_push_29 : decode b_Mo_push 29 = .ok (.iconst 1, 1) := by decide +kernel
theorem d_Mo_push_30 : decode b_Mo_push 30 = .ok (.iadd, 1) := by decide +kernel
theorem d_Mo_push_31 : decode b_Mo_push 31 = .ok (.putfield 730, 3) := by decide +kernel
theorem d_Mo_push_34 : decode b_Mo_push 34 = .ok (.istore 4, 2) := by decide +kernel
theorem d_Mo_push_36 : decode b_Mo_push 36 = .ok (.aload_n 3, 1) := by decide +kernel
theorem d_Mo_push_37 : decode b_Mo_push 37 = .ok (.getfield 733, 3) := by decide +kernel
theorem d_Mo_push_40 : decode b_Mo_push 40 = .ok (.iload 4, 2) := by decide +kernel
theorem d_Mo_push_42 : decode b_Mo_push 42 = .ok (.iload_n 1, 1) := by decide +kernel
theorem d_Mo_push_43 : decode b_Mo_push 43 = .ok (.iastore, 1) := by decide +kernel
theorem d_Mo_push_44 : decode b_Mo_push 44 = .ok (.aload_n 3, 1) := by decide +kernel
theorem d_Mo_push_45 : decode b_Mo_push 45 = .ok (.getfield 736, 3) := by decide +kernel
theorem d_Mo_push_48 : decode b_Mo_push 48 = .ok (.iload 4, 2) := by decide +kernel
theorem d_Mo_push_50 : decode b_Mo_push 50 = .ok (.iload_n 2, 1) := by decide +kernel
theorem d_Mo_push_51 : decode b_Mo_push 51 = .ok (.iastore, 1) := by decide +kernel
theorem d_Mo_push_52 : decode b_Mo_push 52 = .ok (.aload_n 3, 1) := by decide +kernel
theorem d_Mo_push_53 : decode b_Mo_push 53 = .ok (.getfield 738, 3) := by decide +kernel
theorem d_Mo_push_56 : decode b_Mo_push 56 = .ok (.iload 4, 2) := by decide +kernel
theorem d_Mo_push_58 : decode b_Mo_push 58 = .ok (.iconst 0, 1) := by decide +kernel
theorem d_Mo_push_59 : decode b_Mo_push 59 = .ok (.iastore, 1) := by decide +kernel
theorem d_Mo_push_60 : decode b_Mo_push 60 = .ok (.aload_n 3, 1) := by decide +kernel
theorem d_Mo_push_61 : decode b_Mo_push 61 = .ok (.getfield 741, 3) := by decide +kernel
theorem d_Mo_push_64 : decode b_Mo_push 64 = .ok (.iload 4, 2) := by decide +kernel
theorem d_Mo_push_66 : decode b_Mo_push 66 = .ok (.iconst 0, 1) := by decide +kernel
theorem d_Mo_push_67 : decode b_Mo_push 67 = .ok (.iastore, 1) := by decide +kernel
theorem d_Mo_push_68 : decode b_Mo_push 68 = .ok (.aload_n 3, 1) := by decide +kernel
theorem d_Mo_push_69 : decode b_Mo_push 69 = .ok (.getfield 706, 3) := by decide +kernel
theorem d_Mo_push_72 : decode b_Mo_push 72 = .ok (.iload 4, 2) := by decide +kernel
theorem d_Mo_push_74 : decode b_Mo_push 74 = .ok (.iconst 0, 1) := by decide +kernel
theorem d_Mo_push_75 : decode b_Mo_push 75 = .ok (.iastore, 1) := by decide +kernel
theorem d_Mo_push_76 : decode b_Mo_push 76 = .ok (.iconst 1, 1) := by decide +kernel
theorem d_Mo_push_77 : decode b_Mo_push 77 = .ok (.ireturn, 1) := by decide +kernel
theorem kw_150 : Cond.fieldLink R_Mo 243 "LuaMachineModel" "current" "LLuaMachineModel$Thread_;" ∈ wA := kinm (show _ ∈ tables_1 from (List.mem_append_right _ (List.mem_append_right _ (List.mem_append_right _ (List.mem_append_right _ (List.mem_append_right _ (List.mem_append_right _ (List.mem_append_right _ (List.mem_append_right _ (List.mem_append_right _ (List.mem_append_left _ (List.mem_of_getElem? (l := tables_1_10) (i := 128) (by decide +kernel))))))))))))) (by decide +kernel)
theorem kw_151 : Cond.fieldLink R_Mo 730 "LuaMachineModel$Thread_" "frames" "I" ∈ wA := kinm (show _ ∈ tables_1 from (List.mem_append_right _ (List.mem_append_right _ (List.mem_append_right _ (List.mem_append_right _ (List.mem_append_right _ (List.mem_append_right _ (List.mem_append_right _ (List.mem_append_right _ (List.mem_append_left _ (List.mem_of_getElem? (l := tables_1_9) (i := 210) (by decide +kernel)))))))))))) (by decide +kernel)
theorem kw_152 : Cond.fieldLink R_Mo 733 "LuaMachineModel$Thread_" "kind" "[I" ∈ wA := kinm (show _ ∈ tables_1 from (List.mem_append_right _ (List.mem_append_right _ (List.mem_append_right _ (List.mem_append_right _ (List.mem_append_right _ (List.mem_append_right _ (List.mem_append_right _ (List.mem_append_right _ (List.mem_append_left _ (List.mem_of_getElem? (l := tables_1_9) (i := 227) (by decide +kernel)))))))))))) (by decide +kernel)
theorem kw_153 : Cond.fieldLink R_Mo 736 "LuaMachineModel$Thread_" "function" "[I" ∈ wA := kinm (show _ ∈ tables_1 from (List.mem_append_right _ (List.mem_append_right _ (List.mem_append_right _ (List.mem_append_right _ (List.mem_append_right _ (List.mem_append_right _ (List.mem_append_right _ (List.mem_append_right _ (List.mem_append_left _ (List.mem_of_getElem? (l := tables_1_9) (i := 229) (by decide +kernel)))))))))))) (by decide +kernel)
theorem kw_154 : Cond.fieldLink R_Mo 738 "LuaMachineModel$Thread_" "rowCount" "[I" ∈ wA := kinm (show _ ∈ tables_1 from (List.mem_append_right _ (List.mem_append_right _ (List.mem_append_right _ (List.mem_append_right _ (List.mem_append_right _ (List.mem_append_right _ (List.mem_append_right _ (List.mem_append_right _ (List.mem_append_left _ (List.mem_of_getElem? (l := tables_1_9) (i := 239) (by decide +kernel)))))))))))) (by decide +kernel)
theorem kw_155 : Cond.fieldLink R_Mo 741 "LuaMachineModel$Thread_" "extra" "[I" ∈ wA := kinm (show _ ∈ tables_1 from (List.mem_append_right _ (List.mem_append_right _ (List.mem_append_right _ (List.mem_append_right _ (List.mem_append_right _ (List.mem_append_right _ (List.mem_append_right _ (List.mem_append_right _ (List.mem_append_left _ (List.mem_of_getElem? (l := tables_1_9) (i := 235) (by decide +kernel)))))))))))) (by decide +kernel)
theorem kw_156 : Cond.fieldLink R_Mo 706 "LuaMachineModel$Thread_" "mode" "[I" ∈ wA := kinm (show _ ∈ tables_1 from (List.mem_append_right _ (List.mem_append_right _ (List.mem_append_right _ (List.mem_append_right _ (List.mem_append_right _ (List.mem_append_right _ (List.mem_append_right _ (List.mem_append_right _ (List.mem_append_right _ (List.mem_append_left _ (List.mem_of_getElem? (l := tables_1_10) (i := 1) (by decide +kernel))))))))))))) (by decide +kernel)
theorem kw_157 : Cond.methodLink R_Mo 517 y_Mo_raise ∈ wA := kinm (show _ ∈ tables_1 from (List.mem_append_right _ (List.mem_append_right _ (List.mem_append_right _ (List.mem_append_right _ (List.mem_append_right _ (List.mem_append_right _ (List.mem_append_right _ (List.mem_append_right _ (List.mem_append_right _ (List.mem_append_right _ (List.mem_append_left _ (List.mem_of_getElem? (l := tables_1_11) (i := 237) (by decide +kernel)))))))))))))) (by decide +kernel)
theorem kw_158 : Cond.instanceMethod y_Mo_push ∈ wA := kinm (show _ ∈ tables_1 from (List.mem_append_right _ (List.mem_append_right _ (List.mem_append_right _ (List.mem_append_right _ (List.mem_append_right _ (List.mem_append_right _ (List.mem_append_right _ (List.mem_append_right _ (List.mem_append_right _ (List.mem_append_right _ (List.mem_append_right _ (List.mem_append_left _ (List.mem_of_getElem? (l := tables_1_12) (i := 140) (by decide +kernel))))))))))))))) (by decide +kernel)
theorem kw_159 : Cond.selects R_Mo y_Mo_push y_Mo_push ∈ wA := kinp 156 (by decide +kernel) (by decide +kernel)
theorem cv_Mo_push : CV y_Mo_push b_Mo_push 5 (some .boolean) 2 := ⟨kw_158, kw_159, kw_17, k_Mo_push, by decide +kernel⟩
theorem ct_Mo_push {l : Launch} {P : PP} {q : PL} {s s' : S1} {l1 : Int32} {l2 : Int32} {r : Int32} (h : M_Mo_push l1 l2 s = some (r, s')) : Ct l y_Mo_push b_Mo_push 5 (some .boolean) 1 21 P q s [.ref (q.1 0 0), .int l1, .int l2] (some (.int r)) q s' := by
  refine ct_of (by decide) (Nat.le_of_ble_eq_true rfl) fun X ls eP el g hR hl => ?_
  subst eP
  have hR : Rt X q ((r, s') : Int32 × S1).2 (some (.int ((r, s') : Int32 × S1).1)) := hR
  have hl : lv_has ls 5 [(0, .ref (q.1 0 0)), (1, .int l1), (2, .int l2)] := hl
  generalize (r, s') = o at h hR
  unfold M_Mo_push at h
  refine ww_aload_n (pc := 0) g.1 d_Mo_push_0 rfl (lv_at hl 0 rfl) ?_
  refine ww_gV (pc := 1) g (k := 72) cl_Mo (pz rfl (by decide)) (by decide) (Or.inl kw_150) (f := 72) (t := 28) rfl rfl rfl d_Mo_push_1 h fun v1 h => ?_
  refine ww_astore_nV (pc := 4) (i := 3) g.1 vr_cases (lv' := [(3, vr q 28 v1), (0, .ref (q.1 0 0)), (1, .int l1), (2, .int l2)]) d_Mo_push_4 rfl hl (by decide) rfl fun ls hl => ?_
  refine ww_aload_nV (pc := 5) g.1 vr_cases d_Mo_push_5 rfl (lv_at hl 0 rfl) ?_
  refine ww_ok h fun cn5 h => ?_
  refine ww_nn cn5 ?_
  refine ww_gI (pc := 6) g (k := 2) cl_Th (pt rfl rfl cn5) (by decide) (Or.inl kw_151) (f := 3586) rfl rfl d_Mo_push_6 h fun v6 h => ?_
  refine ww_sipush (pc := 9) g.1 (v := 200) d_Mo_push_9 (by decide) ?_
  refine ww_icmp_ne (pc := 12) (tgt := 23) g.1 d_Mo_push_12 (by decide) h (fun c h => ?_) (fun c h => ?_)
  · refine ww_aload_nV (pc := 23) g.1 vr_cases d_Mo_push_23 rfl (lv_at hl 0 rfl) ?_
    refine ww_ok h fun cn23 h => ?_
    refine ww_nn cn23 ?_
    refine ww_dup (pc := 24) g.1 d_Mo_push_24 rfl ?_
    refine ww_gI (pc := 25) g (k := 2) cl_Th (pt rfl rfl cn23) (by decide) (Or.inl kw_151) (f := 3586) rfl rfl d_Mo_push_25 h fun v25 h => ?_
    refine ww_dup_x1 (pc := 28) g.1 d_Mo_push_28 rfl rfl ?_
    refine ww_iconst (pc := 29) g.1 (v := 1) d_Mo_push_29 (by decide) ?_
    refine ww_iadd (pc := 30) g.1 d_Mo_push_30 ?_
    refine ww_pI (pc := 31) g (k := 2) cl_Th (pt rfl rfl cn23) (by decide) (Or.inl kw_151) rfl (f := 3586) rfl rfl rfl rfl d_Mo_push_31 h fun s hs h => ?_
    refine ww_istore (pc := 34) (i := 4) g.1 (lv' := [(4, .int v25), (3, vr q 28 v1), (0, .ref (q.1 0 0)), (1, .int l1), (2, .int l2)]) d_Mo_push_34 hl (by decide) (by simp [vr_cat]) fun ls hl => ?_
    refine ww_aload_nV (pc := 36) g.1 vr_cases d_Mo_push_36 rfl (lv_at hl 1 rfl) ?_
    refine ww_ok h fun cn36 h => ?_
    refine ww_nn cn36 ?_
    refine ww_gR (pc := 37) g (k := 11) cl_Th (pt rfl rfl cn36) (by decide) (Or.inl kw_152) (f := 3595) (t := 30) rfl rfl rfl d_Mo_push_37 ?_
    refine ww_iload (pc := 40) g.1 d_Mo_push_40 (lv_at hl 0 rfl) ?_
    refine ww_iload_n (pc := 42) g.1 d_Mo_push_42 rfl (lv_at hl 3 rfl) ?_
    refine ww_si (pc := 43) g (pt rfl rfl cn36) rfl rfl d_Mo_push_43 h fun s hs h => ?_
    refine ww_aload_nV (pc := 44) g.1 vr_cases d_Mo_push_44 rfl (lv_at hl 1 rfl) ?_
    refine ww_ok h fun cn44 h => ?_
    refine ww_nn cn44 ?_
    refine ww_gR (pc := 45) g (k := 12) cl_Th (pt rfl rfl cn44) (by decide) (Or.inl kw_153) (f := 3596) (t := 31) rfl rfl rfl d_Mo_push_45 ?_
    refine ww_iload (pc := 48) g.1 d_Mo_push_48 (lv_at hl 0 rfl) ?_
    refine ww_iload_n (pc := 50) g.1 d_Mo_push_50 rfl (lv_at hl 4 rfl) ?_
    refine ww_si (pc := 51) g (pt rfl rfl cn44) rfl rfl d_Mo_push_51 h fun s hs h => ?_
    refine ww_aload_nV (pc := 52) g.1 vr_cases d_Mo_push_52 rfl (lv_at hl 1 rfl) ?_
    refine ww_ok h fun cn52 h => ?_
    refine ww_nn cn52 ?_
    refine ww_gR (pc := 53) g (k := 17) cl_Th (pt rfl rfl cn52) (by decide) (Or.inl kw_154) (f := 3601) (t := 36) rfl rfl rfl d_Mo_push_53 ?_
    refine ww_iload (pc := 56) g.1 d_Mo_push_56 (lv_at hl 0 rfl) ?_
    refine ww_iconst (pc := 58) g.1 (v := 0) d_Mo_push_58 (by decide) ?_
    refine ww_si (pc := 59) g (pt rfl rfl cn52) rfl rfl d_Mo_push_59 h fun s hs h => ?_
    refine ww_aload_nV (pc := 60) g.1 vr_cases d_Mo_push_60 rfl (lv_at hl 1 rfl) ?_
    refine ww_ok h fun cn60 h => ?_
    refine ww_nn cn60 ?_
    refine ww_gR (pc := 61) g (k := 15) cl_Th (pt rfl rfl cn60) (by decide) (Or.inl kw_155) (f := 3599) (t := 34) rfl rfl rfl d_Mo_push_61 ?_
    refine ww_iload (pc := 64) g.1 d_Mo_push_64 (lv_at hl 0 rfl) ?_
    refine ww_iconst (pc := 66) g.1 (v := 0) d_Mo_push_66 (by decide) ?_
    refine ww_si (pc := 67) g (pt rfl rfl cn60) rfl rfl d_Mo_push_67 h fun s hs h => ?_
    refine ww_aload_nV (pc := 68) g.1 vr_cases d_Mo_push_68 rfl (lv_at hl 1 rfl) ?_
    refine ww_ok h fun cn68 h => ?_
    refine ww_nn cn68 ?_
    refine ww_gR (pc := 69) g (k := 18) cl_Th (pt rfl rfl cn68) (by decide) (Or.inl kw_156) (f := 3602) (t := 37) rfl rfl rfl d_Mo_push_69 ?_
    refine ww_iload (pc := 72) g.1 d_Mo_push_72 (lv_at hl 0 rfl) ?_
    refine ww_iconst (pc := 74) g.1 (v := 0) d_Mo_push_74 (by decide) ?_
    refine ww_si (pc := 75) g (pt rfl rfl cn68) rfl rfl d_Mo_push_75 h fun s hs h => ?_
    refine ww_iconst (pc := 76) g.1 (v := 1) d_Mo_push_76 (by decide) ?_
    exact ww_zretH (pc := 77) g h hR (Or.inr rfl) d_Mo_push_77
  · refine ww_aload_n (pc := 15) g.1 d_Mo_push_15 rfl (lv_at hl 1 rfl) ?_
    refine ww_iconst (pc := 16) g.1 (v := 4) d_Mo_push_16 (by decide) ?_
    obtain ⟨v17, s, hc17, h⟩ := oB_of h
    refine ww_callV (pc := 17) (rest := []) g cv_Mo_raise (Or.inl kw_157) cl_Mo (pz rfl (by decide)) (ct_Mo_raise hc17) ⟨by decide, by decide⟩ rfl hl.1 (Nat.le_of_ble_eq_true rfl) d_Mo_push_17 rfl ?_
    refine ww_st (st' := [.int v17]) rfl ?_
    refine ww_pop (pc := 20) g.1 d_Mo_push_20 rfl ?_
    refine ww_iconst (pc := 21) g.1 (v := 0) d_Mo_push_21 (by decide) ?_
    exact ww_zretH (pc := 22) g h hR (Or.inl rfl) d_Mo_push_22

abbrev b_Va_set_ : ByteArray := prog_16_method_4_code
def y_Va_set_ : MethodName := ⟨R_Va, "set", "(ILLuaMachineModel$Values;I)V"⟩
abbrev w_Va_set_ : List Cond := .code y_Va_set_ b_Va_set_ 4 none :: wA
theorem k_Va_set_ : Cond.code y_Va_set_ b_Va_set_ 4 none ∈ wA := kinm (show _ ∈ tables_1 from (List.mem_append_right _ (List.mem_append_right _ (List.mem_append_right _ (List.mem_append_right _ (List.mem_append_right _ (List.mem_append_right _ (List.mem_append_right _ (List.mem_append_right _ (List.mem_append_right _ (List.mem_append_right _ (List.mem_append_right _ (List.mem_append_left _ (List.mem_of_getElem? (l := tables_1_12) (i := 145) (by decide +kernel))))))))))))))) (by decide +kernel)
theorem d_Va_set__0 : decode b_Va_set_ 0 = .ok (.aload_n 0, 1) := by decide +kernel
theorem d_Va_set__1 : decode b_Va_set_ 1 = .ok (.getfield 13, 3) := by decide +kernel
theorem d_Va_set__4 : decode b_Va_set_ 4 = .ok (.iload_n 1, 1) := by decide +kernel
theorem d_Va_set__5 : decode b_Va_set_ 5 = .ok (.aload_n 2, 1) := by decide +kernel
theorem d_Va_set__6 : decode b_Va_set_ 6 = .ok (.getfield 13, 3) := by decide +kernel
theorem d_Va_set__9 : decode b_Va_set_ 9 = .ok (.iload_n 3, 1) := by decide +kernel
theorem d_Va_set__10 : decode b_Va_set_ 10 = .ok (.baload, 1) := by decide +kernel
theorem d_Va_set__11 : decode b_Va_set_ 11 = .ok (.bastore, 1) := by decide +kernel
theorem d_Va_set__12 : decode b_Va_set_ 12 = .ok (.aload_n 0, 1) := by decide +kernel
theorem d_Va_set__13 : decode b_Va_set_ 13 = .ok (.getfield 17, 3) := by decide +kernel
theorem d_Va_set__16 : decode b_Va_set_ 16 = .ok (.iload_n 1, 1) := by decide +kernel
theorem d_Va_set__17 : decode b_Va_set_ 17 = .ok (.aload_n 2, 1) := by decide +kernel
theorem d_Va_set__18 : decode b_Va_set_ 18 = .ok (.getfield 17, 3) := by decide +kernel
theorem d_Va_set__21 : decode b_Va_set_ 21 = .ok (.iload_n 3, 1) := by decide +kernel
theorem d_Va_set__22 : decode b_Va_set_ 22 = .ok (.laload, 1) := by decide +kernel
theorem d_Va_set__23 : decode b_Va_set_ 23 = .ok (.lastore, 1) := by decide +kernel
theorem d_Va_set__24 : decode b_Va_set_ 24 = .ok (.return_, 1) := by decide +kernel
theorem kw_160 : Cond.instanceMethod y_Va_set_ ∈ wA := kinm (show _ ∈ tables_1 from (List.mem_append_right _ (List.mem_append_right _ (List.mem_append_right _ (List.mem_append_right _ (List.mem_append_right _ (List.mem_append_right _ (List.mem_append_right _ (List.mem_append_right _ (List.mem_append_right _ (List.mem_append_right _ (List.mem_append_right _ (List.mem_append_left _ (List.mem_of_getElem? (l := tables_1_12) (i := 143) (by decide +kernel))))))))))))))) (by decide +kernel)
theorem kw_161 : Cond.selects R_Va y_Va_set_ y_Va_set_ ∈ wA := kinm (show _ ∈ tables_1 from (List.mem_append_right _ (List.mem_append_right _ (List.mem_append_right _ (List.mem_append_right _ (List.mem_append_right _ (List.mem_append_right _ (List.mem_append_right _ (List.mem_append_right _ (List.mem_append_right _ (List.mem_append_right _ (List.mem_append_right _ (List.mem_append_left _ (List.mem_of_getElem? (l := tables_1_12) (i := 144) (by decide +kernel))))))))))))))) (by decide +kernel)
theorem cv_Va_set_ : CV y_Va_set_ b_Va_set_ 4 none 3 := ⟨kw_160, kw_161, kw_48, k_Va_set_, by decide +kernel⟩
theorem ct_Va_set_ {l : Launch} {P : PP} {q : PL} {s s' : S1} {l0r : Nat} {l0 : Int32} {l1 : Int32} {l2r : Nat} {l2 : Int32} {l3 : Int32} (hp0 : VOK l0r l0) (hp1 : VOK l2r l2) {r : Unit} (h : M_Va_set_ l0r l0 l1 l2r l2 l3 s = some (r, s')) : Ct l y_Va_set_ b_Va_set_ 4 none 0 0 P q s [.ref (q.1 l0r l0), .int l1, .ref (q.1 l2r l2), .int l3] none q s' := by
  refine ct_of (by decide) (Nat.le_of_ble_eq_true rfl) fun X ls eP el g hR hl => ?_
  subst eP
  have hR : Rt X q ((r, s') : Unit × S1).2 none := hR
  have hl : lv_has ls 4 [(0, .ref (q.1 l0r l0)), (1, .int l1), (2, .ref (q.1 l2r l2)), (3, .int l3)] := hl
  generalize (r, s') = o at h hR
  unfold M_Va_set_ at h
  refine ww_aload_n (pc := 0) g.1 d_Va_set__0 rfl (lv_at hl 0 rfl) ?_
  refine ww_gR (pc := 1) g (k := 0) (cl_Va hp0) (vok_p hp0).1 (by rw [(vok_f hp0).1.2.2]; decide) (Or.inl kw_44) (f := (128 * l0r + 0)) (t := l0r + 1) rfl (vok_f hp0).2.1.1 (vok_f hp0).2.1.2 d_Va_set__1 ?_
  refine ww_iload_n (pc := 4) g.1 d_Va_set__4 rfl (lv_at hl 1 rfl) ?_
  refine ww_aload_n (pc := 5) g.1 d_Va_set__5 rfl (lv_at hl 2 rfl) ?_
  refine ww_gR (pc := 6) g (k := 0) (cl_Va hp1) (vok_p hp1).1 (by rw [(vok_f hp1).1.2.2]; decide) (Or.inl kw_44) (f := (128 * l2r + 0)) (t := l2r + 1) rfl (vok_f hp1).2.1.1 (vok_f hp1).2.1.2 d_Va_set__6 ?_
  refine ww_iload_n (pc := 9) g.1 d_Va_set__9 rfl (lv_at hl 3 rfl) ?_
  refine ww_ab (pc := 10) g (vok_p hp1).2.1 (vok_f hp1).2.2.2.2.1 (vok_n hp1).1 d_Va_set__10 h fun v10 h => ?_
  refine ww_sb (pc := 11) g (vok_p hp0).2.1 (vok_f hp0).2.2.2.2.1 (vok_n hp0).1 d_Va_set__11 h fun s hs h => ?_
  refine ww_aload_n (pc := 12) g.1 d_Va_set__12 rfl (lv_at hl 0 rfl) ?_
  refine ww_gR (pc := 13) g (k := 1) (cl_Va hp0) (vok_p hp0).1 (by rw [(vok_f hp0).1.2.2]; decide) (Or.inl kw_45) (f := (128 * l0r + 1)) (t := l0r + 2) rfl (vok_f hp0).2.2.1.1 (vok_f hp0).2.2.1.2 d_Va_set__13 ?_
  refine ww_iload_n (pc := 16) g.1 d_Va_set__16 rfl (lv_at hl 1 rfl) ?_
  refine ww_aload_n (pc := 17) g.1 d_Va_set__17 rfl (lv_at hl 2 rfl) ?_
  refine ww_gR (pc := 18) g (k := 1) (cl_Va hp1) (vok_p hp1).1 (by rw [(vok_f hp1).1.2.2]; decide) (Or.inl kw_45) (f := (128 * l2r + 1)) (t := l2r + 2) rfl (vok_f hp1).2.2.1.1 (vok_f hp1).2.2.1.2 d_Va_set__18 ?_
  refine ww_iload_n (pc := 21) g.1 d_Va_set__21 rfl (lv_at hl 3 rfl) ?_
  refine ww_al (pc := 22) g (vok_p hp1).2.2 (vok_f hp1).2.2.2.2.2 (vok_n hp1).2 d_Va_set__22 h fun v22 h => ?_
  refine ww_sl (pc := 23) g (vok_p hp0).2.2 (vok_f hp0).2.2.2.2.2 (vok_n hp0).2 d_Va_set__23 h fun s hs h => ?_
  exact ww_vretH (pc := 24) g h hR d_Va_set__24

abbrev b_Mo_fault : ByteArray := prog_14_method_61_code
def y_Mo_fault : MethodName := ⟨R_Mo, "fault", "(I)I"⟩
abbrev w_Mo_fault : List Cond := .code y_Mo_fault b_Mo_fault 2 (some .int) :: wA
theorem k_Mo_fault : Cond.code y_Mo_fault b_Mo_fault 2 (some .int) ∈ wA := kinm (show _ ∈ tables_1 from (List.mem_append_right _ (List.mem_append_right _ (List.mem_append_right _ (List.mem_append_right _ (List.mem_append_right _ (List.mem_append_right _ (List.mem_append_right _ (List.mem_append_right _ (List.mem_append_right _ (List.mem_append_right _ (List.mem_append_right _ (List.mem_append_left _ (List.mem_of_getElem? (l := tables_1_12) (i := 149) (by decide +kernel))))))))))))))) (by decide +kernel)
theorem d_Mo_fault_0 : decode b_Mo_fault 0 = .ok (.aload_n 0, 1) := by decide +kernel
theorem d_Mo_fault_1 : decode b_Mo_fault 1 = .ok (.iconst 0, 1) := by decide +kernel
theorem d_Mo_fault_2 : decode b_Mo_fault 2 = .ok (.putfield 18, 3) := by decide +kernel
theorem d_Mo_fault_5 : decode b_Mo_fault 5 = .ok (.aload_n 0, 1) := by decide +kernel
theorem d_Mo_fault_6 : decode b_Mo_fault 6 = .ok (.iconst 1, 1) := by decide +kernel
theorem d_Mo_fault_7 : decode b_Mo_fault 7 = .ok (.iload_n 1, 1) := by decide +kernel
theorem d_Mo_fault_8 : decode b_Mo_fault 8 = .ok (.ifCond .lt 8, 3) := by decide +kernel
theorem d_Mo_fault_11 : decode b_Mo_fault 11 = .ok (.iload_n 1, 1) := by decide +kernel
theorem d_Mo_fault_12 : decode b_Mo_fault 12 = .ok (.iconst 1, 1) := by decide +kernel
theorem d_Mo_fault_13 : decode b_Mo_fault 13 = .ok (.if_icmp .le 7, 3) := by decide +kernel
theorem d_Mo_fault_16 : decode b_Mo_fault 16 = .ok (.iconst 1, 1) := by decide +kernel
theorem d_Mo_fault_17 : decode b_Mo_fault 17 = .ok (.goto 4, 3) := by decide +kernel
theorem d_Mo_fault_20 : decode b_Mo_fault 20 = .ok (.iconst 0, 1) := by decide +kernel
theorem d_Mo_fault_21 : decode b_Mo_fault 21 = .ok (.invokevirtual 445, 3) := by decide +kernel
theorem d_Mo_fault_24 : decode b_Mo_fault 24 = .ok (.ifCond .eq 5, 3) := by decide +kernel
theorem d_Mo_fault_27 : decode b_Mo_fault 27 = .ok (.iconst 0, 1) := by decide +kernel
theorem d_Mo_fault_28 : decode b_Mo_fault 28 = .ok (.ireturn, 1) := by decide +kernel
theorem d_Mo_fault_29 : decode b_Mo_fault 29 = .ok (.iload_n 1, 1) := by decide +kernel
theorem d_Mo_fault_30 : decode b_Mo_fault 30 = .ok (.ifCond .ne 10, 3) := by decide +kernel
theorem d_Mo_fault_33 : decode b_Mo_fault 33 = .ok (.aload_n 0, 1) := by decide +kernel
theorem d_Mo_fault_34 : decode b_Mo_fault 34 = .ok (.getfield 21, 3) := by decide +kernel
theorem d_Mo_fault_37 : decode b_Mo_fault 37 = .ok (.goto 7, 3) := by decide +kernel
theorem d_Mo_fault_40 : decode b_Mo_fault 40 = .ok (.aload_n 0, 1) := by decide +kernel
theorem d_Mo_fault_41 : decode b_Mo_fault 41 = .ok (.getfield 24, 3) := by decide +kernel
theorem d_Mo_fault_44 : decode b_Mo_fault 44 = .ok (.ireturn, 1) := by decide +kernel
theorem kw_162 : Cond.instanceMethod y_Mo_fault ∈ wA := kinm (show _ ∈ tables_1 from (List.mem_append_right _ (List.mem_append_right _ (List.mem_append_right _ (List.mem_append_right _ (List.mem_append_right _ (List.mem_append_right _ (List.mem_append_right _ (List.mem_append_right _ (List.mem_append_right _ (List.mem_append_right _ (List.mem_append_right _ (List.mem_append_left _ (List.mem_of_getElem? (l := tables_1_12) (i := 147) (by decide +kernel))))))))))))))) (by decide +kernel)
theorem kw_163 : Cond.selects R_Mo y_Mo_fault y_Mo_fault ∈ wA := kinm (show _ ∈ tables_1 from (List.mem_append_right _ (List.mem_append_right _ (List.mem_append_right _ (List.mem_append_right _ (List.mem_append_right _ (List.mem_append_right _ (List.mem_append_right _ (List.mem_append_right _ (List.mem_append_right _ (List.mem_append_right _ (List.mem_append_right _ (List.mem_append_left _ (List.mem_of_getElem? (l := tables_1_12) (i := 148) (by decide +kernel))))))))))))))) (by decide +kernel)
theorem cv_Mo_fault : CV y_Mo_fault b_Mo_fault 2 (some .int) 1 := ⟨kw_162, kw_163, kw_17, k_Mo_fault, by decide +kernel⟩
theorem j_Mo_fault_j21 {X : Cx} {q : PL} (g : Gd X y_Mo_fault b_Mo_fault 2 (some .int) 1 22 R_Mo) {o : (Int32) × S1} (hR : Rt X q o.2 (some (.int o.1))) (l1 : Int32) (k0 : Int32) (k1 : Int32) (s : S1) (ls : Array Slot) (hl : lv_has ls 2 [(0, .ref (q.1 0 0)), (1, .int l1)]) (h : M_Mo_fault_j21 l1 k0 k1 s = some o) : WW X q s 21 ls [.int k0, .int k1, .ref (q.1 0 0)] := by
  unfold M_Mo_fault_j21 at h
  obtain ⟨v21, s, hc21, h⟩ := oB_of h
  refine ww_callV (pc := 21) (rest := []) g cv_Mo_refuse (Or.inl kw_20) cl_Mo (pz rfl (by decide)) (ct_Mo_refuse hc21) ⟨by decide, by decide⟩ rfl hl.1 (Nat.le_of_ble_eq_true rfl) d_Mo_fault_21 rfl ?_
  refine ww_st (st' := [.int v21]) rfl ?_
  refine ww_if_eq (pc := 24) (tgt := 29) g.1 d_Mo_fault_24 (by decide) h (fun c h => ?_) (fun c h => ?_)
  · refine ww_iload_n (pc := 29) g.1 d_Mo_fault_29 rfl (lv_at hl 1 rfl) ?_
    refine ww_if_ne (pc := 30) (tgt := 40) g.1 d_Mo_fault_30 (by decide) h (fun c h => ?_) (fun c h => ?_)
    · refine ww_aload_n (pc := 40) g.1 d_Mo_fault_40 rfl (lv_at hl 0 rfl) ?_
      refine ww_gI (pc := 41) g (k := 4) cl_Mo (pz rfl (by decide)) (by decide) (Or.inl kw_25) (f := 4) rfl rfl d_Mo_fault_41 h fun v41 h => ?_
      exact ww_iretH (pc := 44) g h hR d_Mo_fault_44
    · refine ww_aload_n (pc := 33) g.1 d_Mo_fault_33 rfl (lv_at hl 0 rfl) ?_
      refine ww_gI (pc := 34) g (k := 3) cl_Mo (pz rfl (by decide)) (by decide) (Or.inl kw_24) (f := 3) rfl rfl d_Mo_fault_34 h fun v34 h => ?_
      refine ww_goto (pc := 37) (tgt := 44) g.1 d_Mo_fault_37 (by decide) ?_
      exact ww_iretH (pc := 44) g h hR d_Mo_fault_44
  · refine ww_iconst (pc := 27) g.1 (v := 0) d_Mo_fault_27 (by decide) ?_
    exact ww_iretH (pc := 28) g h hR d_Mo_fault_28

theorem j_Mo_fault_j16 {X : Cx} {q : PL} (g : Gd X y_Mo_fault b_Mo_fault 2 (some .int) 1 22 R_Mo) {o : (Int32) × S1} (hR : Rt X q o.2 (some (.int o.1))) (l1 : Int32) (k0 : Int32) (s : S1) (ls : Array Slot) (hl : lv_has ls 2 [(0, .ref (q.1 0 0)), (1, .int l1)]) (h : M_Mo_fault_j16 l1 k0 s = some o) : WW X q s 16 ls [.int k0, .ref (q.1 0 0)] := by
  unfold M_Mo_fault_j16 at h
  refine ww_iconst (pc := 16) g.1 (v := 1) d_Mo_fault_16 (by decide) ?_
  refine ww_goto (pc := 17) (tgt := 21) g.1 d_Mo_fault_17 (by decide) ?_
  exact j_Mo_fault_j21 g hR l1 1 k0 s ls (lv_sub hl [0, 1] rfl) h

theorem ct_Mo_fault {l : Launch} {P : PP} {q : PL} {s s' : S1} {l1 : Int32} {r : Int32} (h : M_Mo_fault l1 s = some (r, s')) : Ct l y_Mo_fault b_Mo_fault 2 (some .int) 1 22 P q s [.ref (q.1 0 0), .int l1] (some (.int r)) q s' := by
  refine ct_of (by decide) (Nat.le_of_ble_eq_true rfl) fun X ls eP el g hR hl => ?_
  subst eP
  have hR : Rt X q ((r, s') : Int32 × S1).2 (some (.int ((r, s') : Int32 × S1).1)) := hR
  have hl : lv_has ls 2 [(0, .ref (q.1 0 0)), (1, .int l1)] := hl
  generalize (r, s') = o at h hR
  unfold M_Mo_fault at h
  refine ww_aload_n (pc := 0) g.1 d_Mo_fault_0 rfl (lv_at hl 0 rfl) ?_
  refine ww_iconst (pc := 1) g.1 (v := 0) d_Mo_fault_1 (by decide) ?_
  refine ww_pI (pc := 2) g (k := 2) cl_Mo (pz rfl (by decide)) (by decide) (Or.inl kw_14) rfl (f := 2) rfl rfl rfl rfl d_Mo_fault_2 h fun s hs h => ?_
  refine ww_aload_n (pc := 5) g.1 d_Mo_fault_5 rfl (lv_at hl 0 rfl) ?_
  refine ww_iconst (pc := 6) g.1 (v := 1) d_Mo_fault_6 (by decide) ?_
  refine ww_iload_n (pc := 7) g.1 d_Mo_fault_7 rfl (lv_at hl 1 rfl) ?_
  refine ww_if_lt (pc := 8) (tgt := 16) g.1 d_Mo_fault_8 (by decide) h (fun c h => ?_) (fun c h => ?_)
  · exact j_Mo_fault_j16 g hR l1 1 s ls (lv_sub hl [0, 1] rfl) h
  · refine ww_iload_n (pc := 11) g.1 d_Mo_fault_11 rfl (lv_at hl 1 rfl) ?_
    refine ww_iconst (pc := 12) g.1 (v := 1) d_Mo_fault_12 (by decide) ?_
    refine ww_icmp_le (pc := 13) (tgt := 20) g.1 d_Mo_fault_13 (by decide) h (fun c h => ?_) (fun c h => ?_)
    · refine ww_iconst (pc := 20) g.1 (v := 0) d_Mo_fault_20 (by decide) ?_
      exact j_Mo_fault_j21 g hR l1 0 1 s ls (lv_sub hl [0, 1] rfl) h
    · exact j_Mo_fault_j16 g hR l1 1 s ls (lv_sub hl [0, 1] rfl) h

abbrev b_Mo_limit : ByteArray := prog_14_method_62_code
def y_Mo_limit : MethodName := ⟨R_Mo, "limit", "(I)I"⟩
abbrev w_Mo_limit : List Cond := .code y_Mo_limit b_Mo_limit 3 (some .int) :: wA
theorem k_Mo_limit : Cond.code y_Mo_limit b_Mo_limit 3 (some .int) ∈ wA := kinm (show _ ∈ tables_1 from (List.mem_append_right _ (List.mem_append_right _ (List.mem_append_right _ (List.mem_append_right _ (List.mem_append_right _ (List.mem_append_right _ (List.mem_append_right _ (List.mem_append_right _ (List.mem_append_right _ (List.mem_append_right _ (List.mem_append_right _ (List.mem_append_left _ (List.mem_of_getElem? (l := tables_1_12) (i := 153) (by decide +kernel))))))))))))))) (by decide +kernel)
theorem d_Mo_limit_0 : decode b_Mo_limit 0 = .ok (.aload_n 0, 1) := by decide +kernel
theorem d_Mo_limit_1 : decode b_Mo_limit 1 = .ok (.iconst 0, 1) := by decide +kernel
theorem d_Mo_limit_2 : decode b_Mo_limit 2 = .ok (.putfield 18, 3) := by decide +kernel
theorem d_Mo_limit_5 : decode b_Mo_limit 5 = .ok (.aload_n 0, 1) := by decide +kernel
theorem d_Mo_limit_6 : decode b_Mo_limit 6 = .ok (.iconst 1, 1) := by decide +kernel
theorem d_Mo_limit_7 : decode b_Mo_limit 7 = .ok (.iload_n 1, 1) := by decide +kernel
theorem d_Mo_limit_8 : decode b_Mo_limit 8 = .ok (.sipush 200, 3) := by decide +kernel
theorem d_Mo_limit_11 : decode b_Mo_limit 11 = .ok (.if_icmp .lt 10, 3) := by decide +kernel
theorem d_Mo_limit_14 : decode b_Mo_limit 14 = .ok (.iload_n 1, 1) := by decide +kernel
theorem d_Mo_limit_15 : decode b_Mo_limit 15 = .ok (.sipush 4000, 3) := by decide +kernel
theorem d_Mo_limit_18 : decode b_Mo_limit 18 = .ok (.if_icmp .le 7, 3) := by decide +kernel
theorem d_Mo_limit_21 : decode b_Mo_limit 21 = .ok (.iconst 1, 1) := by decide +kernel
theorem d_Mo_limit_22 : decode b_Mo_limit 22 = .ok (.goto 4, 3) := by decide +kernel
theorem d_Mo_limit_25 : decode b_Mo_limit 25 = .ok (.iconst 0, 1) := by decide +kernel
theorem d_Mo_limit_26 : decode b_Mo_limit 26 = .ok (.invokevirtual 445, 3) := by decide +kernel
theorem d_Mo_limit_29 : decode b_Mo_limit 29 = .ok (.ifCond .eq 5, 3) := by decide +kernel
theorem d_Mo_limit_32 : decode b_Mo_limit 32 = .ok (.iconst 0, 1) := by decide +kernel
theorem d_Mo_limit_33 : decode b_Mo_limit 33 = .ok (.ireturn, 1) := by decide +kernel
theorem d_Mo_limit_34 : decode b_Mo_limit 34 = .ok (.aload_n 0, 1) := by decide +kernel
theorem d_Mo_limit_35 : decode b_Mo_limit 35 = .ok (.getfield 116, 3) := by decide +kernel
theorem d_Mo_limit_38 : decode b_Mo_limit 38 = .ok (.istore_n 2, 1) := by decide +kernel
theorem d_Mo_limit_39 : decode b_Mo_limit 39 = .ok (.aload_n 0, 1) := by decide +kernel
theorem d_Mo_limit_40 : decode b_Mo_limit 40 = .ok (.iload_n 1, 1) := by decide +kernel
theorem d_Mo_limit_41 : decode b_Mo_limit 41 = .ok (.putfield 116, 3) := by decide +kernel
theorem d_Mo_limit_44 : decode b_Mo_limit 44 = .ok (.iload_n 2, 1) := by decide +kernel
theorem d_Mo_limit_45 : decode b_Mo_limit 45 = .ok (.ireturn, 1) := by decide +kernel
theorem kw_164 : Cond.fieldLink R_Mo 116 "LuaMachineModel" "limit" "I" ∈ wA := kinm (show _ ∈ tables_1 from (List.mem_append_right _ (List.mem_append_right _ (List.mem_append_right _ (List.mem_append_right _ (List.mem_append_right _ (List.mem_append_right _ (List.mem_append_right _ (List.mem_append_right _ (List.mem_append_right _ (List.mem_append_left _ (List.mem_of_getElem? (l := tables_1_10) (i := 87) (by decide +kernel))))))))))))) (by decide +kernel)
theorem kw_165 : Cond.instanceMethod y_Mo_limit ∈ wA := kinm (show _ ∈ tables_1 from (List.mem_append_right _ (List.mem_append_right _ (List.mem_append_right _ (List.mem_append_right _ (List.mem_append_right _ (List.mem_append_right _ (List.mem_append_right _ (List.mem_append_right _ (List.mem_append_right _ (List.mem_append_right _ (List.mem_append_right _ (List.mem_append_left _ (List.mem_of_getElem? (l := tables_1_12) (i := 151) (by decide +kernel))))))))))))))) (by decide +kernel)
theorem kw_166 : Cond.selects R_Mo y_Mo_limit y_Mo_limit ∈ wA := kinm (show _ ∈ tables_1 from (List.mem_append_right _ (List.mem_append_right _ (List.mem_append_right _ (List.mem_append_right _ (List.mem_append_right _ (List.mem_append_right _ (List.mem_append_right _ (List.mem_append_right _ (List.mem_append_right _ (List.mem_append_right _ (List.mem_append_right _ (List.mem_append_left _ (List.mem_of_getElem? (l := tables_1_12) (i := 152) (by decide +kernel))))))))))))))) (by decide +kernel)
theorem cv_Mo_limit : CV y_Mo_limit b_Mo_limit 3 (some .int) 1 := ⟨kw_165, kw_166, kw_17, k_Mo_limit, by decide +kernel⟩
theorem j_Mo_limit_j26 {X : Cx} {q : PL} (g : Gd X y_Mo_limit b_Mo_limit 3 (some .int) 1 22 R_Mo) {o : (Int32) × S1} (hR : Rt X q o.2 (some (.int o.1))) (l1 : Int32) (k0 : Int32) (k1 : Int32) (s : S1) (ls : Array Slot) (hl : lv_has ls 3 [(0, .ref (q.1 0 0)), (1, .int l1)]) (h : M_Mo_limit_j26 l1 k0 k1 s = some o) : WW X q s 26 ls [.int k0, .int k1, .ref (q.1 0 0)] := by
  unfold M_Mo_limit_j26 at h
  obtain ⟨v26, s, hc26, h⟩ := oB_of h
  refine ww_callV (pc := 26) (rest := []) g cv_Mo_refuse (Or.inl kw_20) cl_Mo (pz rfl (by decide)) (ct_Mo_refuse hc26) ⟨by decide, by decide⟩ rfl hl.1 (Nat.le_of_ble_eq_true rfl) d_Mo_limit_26 rfl ?_
  refine ww_st (st' := [.int v26]) rfl ?_
  refine ww_if_eq (pc := 29) (tgt := 34) g.1 d_Mo_limit_29 (by decide) h (fun c h => ?_) (fun c h => ?_)
  · refine ww_aload_n (pc := 34) g.1 d_Mo_limit_34 rfl (lv_at hl 0 rfl) ?_
    refine ww_gI (pc := 35) g (k := 32) cl_Mo (pz rfl (by decide)) (by decide) (Or.inl kw_164) (f := 32) rfl rfl d_Mo_limit_35 h fun v35 h => ?_
    refine ww_istore_n (pc := 38) (i := 2) g.1 (lv' := [(2, .int v35), (0, .ref (q.1 0 0)), (1, .int l1)]) d_Mo_limit_38 rfl hl (by decide) rfl fun ls hl => ?_
    refine ww_aload_n (pc := 39) g.1 d_Mo_limit_39 rfl (lv_at hl 1 rfl) ?_
    refine ww_iload_n (pc := 40) g.1 d_Mo_limit_40 rfl (lv_at hl 2 rfl) ?_
    refine ww_pI (pc := 41) g (k := 32) cl_Mo (pz rfl (by decide)) (by decide) (Or.inl kw_164) rfl (f := 32) rfl rfl rfl rfl d_Mo_limit_41 h fun s hs h => ?_
    refine ww_iload_n (pc := 44) g.1 d_Mo_limit_44 rfl (lv_at hl 0 rfl) ?_
    exact ww_iretH (pc := 45) g h hR d_Mo_limit_45
  · refine ww_iconst (pc := 32) g.1 (v := 0) d_Mo_limit_32 (by decide) ?_
    exact ww_iretH (pc := 33) g h hR d_Mo_limit_33

theorem j_Mo_limit_j21 {X : Cx} {q : PL} (g : Gd X y_Mo_limit b_Mo_limit 3 (some .int) 1 22 R_Mo) {o : (Int32) × S1} (hR : Rt X q o.2 (some (.int o.1))) (l1 : Int32) (k0 : Int32) (s : S1) (ls : Array Slot) (hl : lv_has ls 3 [(0, .ref (q.1 0 0)), (1, .int l1)]) (h : M_Mo_limit_j21 l1 k0 s = some o) : WW X q s 21 ls [.int k0, .ref (q.1 0 0)] := by
  unfold M_Mo_limit_j21 at h
  refine ww_iconst (pc := 21) g.1 (v := 1) d_Mo_limit_21 (by decide) ?_
  refine ww_goto (pc := 22) (tgt := 26) g.1 d_Mo_limit_22 (by decide) ?_
  exact j_Mo_limit_j26 g hR l1 1 k0 s ls (lv_sub hl [0, 1] rfl) h

theorem ct_Mo_limit {l : Launch} {P : PP} {q : PL} {s s' : S1} {l1 : Int32} {r : Int32} (h : M_Mo_limit l1 s = some (r, s')) : Ct l y_Mo_limit b_Mo_limit 3 (some .int) 1 22 P q s [.ref (q.1 0 0), .int l1] (some (.int r)) q s' := by
  refine ct_of (by decide) (Nat.le_of_ble_eq_true rfl) fun X ls eP el g hR hl => ?_
  subst eP
  have hR : Rt X q ((r, s') : Int32 × S1).2 (some (.int ((r, s') : Int32 × S1).1)) := hR
  have hl : lv_has ls 3 [(0, .ref (q.1 0 0)), (1, .int l1)] := hl
  generalize (r, s') = o at h hR
  unfold M_Mo_limit at h
  refine ww_aload_n (pc := 0) g.1 d_Mo_limit_0 rfl (lv_at hl 0 rfl) ?_
  refine ww_iconst (pc := 1) g.1 (v := 0) d_Mo_limit_1 (by decide) ?_
  refine ww_pI (pc := 2) g (k := 2) cl_Mo (pz rfl (by decide)) (by decide) (Or.inl kw_14) rfl (f := 2) rfl rfl rfl rfl d_Mo_limit_2 h fun s hs h => ?_
  refine ww_aload_n (pc := 5) g.1 d_Mo_limit_5 rfl (lv_at hl 0 rfl) ?_
  refine ww_iconst (pc := 6) g.1 (v := 1) d_Mo_limit_6 (by decide) ?_
  refine ww_iload_n (pc := 7) g.1 d_Mo_limit_7 rfl (lv_at hl 1 rfl) ?_
  refine ww_sipush (pc := 8) g.1 (v := 200) d_Mo_limit_8 (by decide) ?_
  refine ww_icmp_lt (pc := 11) (tgt := 21) g.1 d_Mo_limit_11 (by decide) h (fun c h => ?_) (fun c h => ?_)
  · exact j_Mo_limit_j21 g hR l1 1 s ls (lv_sub hl [0, 1] rfl) h
  · refine ww_iload_n (pc := 14) g.1 d_Mo_limit_14 rfl (lv_at hl 1 rfl) ?_
    refine ww_sipush (pc := 15) g.1 (v := 4000) d_Mo_limit_15 (by decide) ?_
    refine ww_icmp_le (pc := 18) (tgt := 25) g.1 d_Mo_limit_18 (by decide) h (fun c h => ?_) (fun c h => ?_)
    · refine ww_iconst (pc := 25) g.1 (v := 0) d_Mo_limit_25 (by decide) ?_
      exact j_Mo_limit_j26 g hR l1 0 1 s ls (lv_sub hl [0, 1] rfl) h
    · exact j_Mo_limit_j21 g hR l1 1 s ls (lv_sub hl [0, 1] rfl) h

abbrev b_Mo_say : ByteArray := prog_14_method_102_code
def y_Mo_say : MethodName := ⟨R_Mo, "say", "(I)V"⟩
abbrev w_Mo_say : List Cond := .code y_Mo_say b_Mo_say 2 none :: wA
theorem k_Mo_say : Cond.code y_Mo_say b_Mo_say 2 none ∈ wA := kinm (show _ ∈ tables_1 from (List.mem_append_right _ (List.mem_append_right _ (List.mem_append_right _ (List.mem_append_right _ (List.mem_append_right _ (List.mem_append_right _ (List.mem_append_right _ (List.mem_append_right _ (List.mem_append_right _ (List.mem_append_right _ (List.mem_append_right _ (List.mem_append_left _ (List.mem_of_getElem? (l := tables_1_12) (i := 183) (by decide +kernel))))))))))))))) (by decide +kernel)
theorem d_Mo_say_0 : decode b_Mo_say 0 = .ok (.aload_n 0, 1) := by decide +kernel
theorem d_Mo_say_1 : decode b_Mo_say 1 = .ok (.getfield 422, 3) := by decide +kernel
theorem d_Mo_say_4 : decode b_Mo_say 4 = .ok (.aload_n 0, 1) := by decide +kernel
theorem d_Mo_say_5 : decode b_Mo_say 5 = .ok (.dup, 1) := by decide +kernel
theorem d_Mo_say_6 : decode b_Mo_say 6 = .ok (.getfield 431, 3) := by decide +kernel
theorem d_Mo_say_9 : decode b_Mo_say 9 = .ok (.dup_x1, 1) := by decide +kernel
theorem d_Mo_say_10 : decode b_Mo_say 10 = .ok (.iconst 1, 1) := by decide +kernel
theorem d_Mo_say_11 : decode b_Mo_say 11 = .ok (.iadd, 1) := by decide +kernel
theorem d_Mo_say_12 : decode b_Mo_say 12 = .ok (.putfield 431, 3) := by decide +kernel
theorem d_Mo_say_15 : decode b_Mo_say 15 = .ok (.iload_n 1, 1) := by decide +kernel
theorem d_Mo_say_16 : decode b_Mo_say 16 = .ok (.i2b, 1) := by decide +kernel
theorem d_Mo_say_17 : decode b_Mo_say 17 = .ok (.bastore, 1) := by decide +kernel
theorem d_Mo_say_18 : decode b_Mo_say 18 = .ok (.return_, 1) := by decide +kernel
theorem kw_167 : Cond.fieldLink R_Mo 422 "LuaMachineModel" "built" "[B" ∈ wA := kinm (show _ ∈ tables_1 from (List.mem_append_right _ (List.mem_append_right _ (List.mem_append_right _ (List.mem_append_right _ (List.mem_append_right _ (List.mem_append_right _ (List.mem_append_right _ (List.mem_append_right _ (List.mem_append_right _ (List.mem_append_left _ (List.mem_of_getElem? (l := tables_1_10) (i := 149) (by decide +kernel))))))))))))) (by decide +kernel)
theorem kw_168 : Cond.fieldLink R_Mo 431 "LuaMachineModel" "builtSize" "I" ∈ wA := kinm (show _ ∈ tables_1 from (List.mem_append_right _ (List.mem_append_right _ (List.mem_append_right _ (List.mem_append_right _ (List.mem_append_right _ (List.mem_append_right _ (List.mem_append_right _ (List.mem_append_right _ (List.mem_append_right _ (List.mem_append_left _ (List.mem_of_getElem? (l := tables_1_10) (i := 152) (by decide +kernel))))))))))))) (by decide +kernel)
theorem kw_169 : Cond.instanceMethod y_Mo_say ∈ wA := kinm (show _ ∈ tables_1 from (List.mem_append_right _ (List.mem_append_right _ (List.mem_append_right _ (List.mem_append_right _ (List.mem_append_right _ (List.mem_append_right _ (List.mem_append_right _ (List.mem_append_right _ (List.mem_append_right _ (List.mem_append_right _ (List.mem_append_right _ (List.mem_append_left _ (List.mem_of_getElem? (l := tables_1_12) (i := 182) (by decide +kernel))))))))))))))) (by decide +kernel)
theorem kw_170 : Cond.selects R_Mo y_Mo_say y_Mo_say ∈ wA := kinp 162 (by decide +kernel) (by decide +kernel)
theorem cv_Mo_say : CV y_Mo_say b_Mo_say 2 none 1 := ⟨kw_169, kw_170, kw_17, k_Mo_say, by decide +kernel⟩
theorem ct_Mo_say {l : Launch} {P : PP} {q : PL} {s s' : S1} {l1 : Int32} {r : Unit} (h : M_Mo_say l1 s = some (r, s')) : Ct l y_Mo_say b_Mo_say 2 none 0 0 P q s [.ref (q.1 0 0), .int l1] none q s' := by
  refine ct_of (by decide) (Nat.le_of_ble_eq_true rfl) fun X ls eP el g hR hl => ?_
  subst eP
  have hR : Rt X q ((r, s') : Unit × S1).2 none := hR
  have hl : lv_has ls 2 [(0, .ref (q.1 0 0)), (1, .int l1)] := hl
  generalize (r, s') = o at h hR
  unfold M_Mo_say at h
  refine ww_aload_n (pc := 0) g.1 d_Mo_say_0 rfl (lv_at hl 0 rfl) ?_
  refine ww_gR (pc := 1) g (k := 93) cl_Mo (pz rfl (by decide)) (by decide) (Or.inl kw_167) (f := 93) (t := 87) rfl rfl rfl d_Mo_say_1 ?_
  refine ww_aload_n (pc := 4) g.1 d_Mo_say_4 rfl (lv_at hl 0 rfl) ?_
  refine ww_dup (pc := 5) g.1 d_Mo_say_5 rfl ?_
  refine ww_gI (pc := 6) g (k := 96) cl_Mo (pz rfl (by decide)) (by decide) (Or.inl kw_168) (f := 96) rfl rfl d_Mo_say_6 h fun v6 h => ?_
  refine ww_dup_x1 (pc := 9) g.1 d_Mo_say_9 rfl rfl ?_
  refine ww_iconst (pc := 10) g.1 (v := 1) d_Mo_say_10 (by decide) ?_
  refine ww_iadd (pc := 11) g.1 d_Mo_say_11 ?_
  refine ww_pI (pc := 12) g (k := 96) cl_Mo (pz rfl (by decide)) (by decide) (Or.inl kw_168) rfl (f := 96) rfl rfl rfl rfl d_Mo_say_12 h fun s hs h => ?_
  refine ww_iload_n (pc := 15) g.1 d_Mo_say_15 rfl (lv_at hl 1 rfl) ?_
  refine ww_i2b (pc := 16) g.1 (v := l1.toInt8.toInt32) d_Mo_say_16 rfl ?_
  refine ww_sb (pc := 17) g (pz rfl (by decide)) rfl rfl d_Mo_say_17 h fun s hs h => ?_
  exact ww_vretH (pc := 18) g h hR d_Mo_say_18

abbrev b_Mo_sayNumber : ByteArray := prog_14_method_105_code
def y_Mo_sayNumber : MethodName := ⟨R_Mo, "sayNumber", "(J)V"⟩
abbrev w_Mo_sayNumber : List Cond := .code y_Mo_sayNumber b_Mo_sayNumber 6 none :: wA
theorem k_Mo_sayNumber : Cond.code y_Mo_sayNumber b_Mo_sayNumber 6 none ∈ wA := kinm (show _ ∈ tables_1 from (List.mem_append_right _ (List.mem_append_right _ (List.mem_append_right _ (List.mem_append_right _ (List.mem_append_right _ (List.mem_append_right _ (List.mem_append_right _ (List.mem_append_right _ (List.mem_append_right _ (List.mem_append_right _ (List.mem_append_right _ (List.mem_append_left _ (List.mem_of_getElem? (l := tables_1_12) (i := 197) (by decide +kernel))))))))))))))) (by decide +kernel)
theorem d_Mo_sayNumber_0 : decode b_Mo_sayNumber 0 = .ok (.iconst 0, 1) := by decide +kernel
theorem d_Mo_sayNumber_1 : decode b_Mo_sayNumber 1 = .ok (.istore_n 3, 1) := by decide +kernel
theorem d_Mo_sayNumber_2 : decode b_Mo_sayNumber 2 = .ok (.lload_n 1, 1) := by decide +kernel
theorem d_Mo_sayNumber_3 : decode b_Mo_sayNumber 3 = .ok (.lstore 4, 2) := by decide +kernel
theorem d_Mo_sayNumber_5 : decode b_Mo_sayNumber 5 = .ok (.aload_n 0, 1) := by decide +kernel
theorem d_Mo_sayNumber_6 : decode b_Mo_sayNumber 6 = .ok (.getfield 434, 3) := by decide +kernel
theorem d_Mo_sayNumber_9 : decode b_Mo_sayNumber 9 = .ok (.iload_n 3, 1) := by decide +kernel
theorem d_Mo_sayNumber_10 : decode b_Mo_sayNumber 10 = .ok (.iinc 3 1, 3) := by decide +kernel
theorem d_Mo_sayNumber_13 : decode b_Mo_sayNumber 13 = .ok (.ldc2_w 873, 3) := by decide +kernel
theorem d_Mo_sayNumber_16 : decode b_Mo_sayNumber 16 = .ok (.lload 4, 2) := by decide +kernel
theorem d_Mo_sayNumber_18 : decode b_Mo_sayNumber 18 = .ok (.ldc2_w 875, 3) := by decide +kernel
theorem d_Mo_sayNumber_21 : decode b_Mo_sayNumber 21 = .ok (.lrem, 1) := by decide +kernel
theorem d_Mo_sayNumber_22 : decode b_Mo_sayNumber 22 = .ok (.invokestatic 877, 3) := by decide +kernel
theorem d_Mo_sayNumber_25 : decode b_Mo_sayNumber 25 = .ok (.ladd, 1) := by decide +kernel
theorem d_Mo_sayNumber_26 : decode b_Mo_sayNumber 26 = .ok (.l2i, 1) := by decide +kernel
theorem d_Mo_sayNumber_27 : decode b_Mo_sayNumber 27 = .ok (.i2b, 1) := by decide +kernel
theorem d_Mo_sayNumber_28 : decode b_Mo_sayNumber 28 = .ok (.bastore, 1) := by decide +kernel
theorem d_Mo_sayNumber_29 : decode b_Mo_sayNumber 29 = .ok (.lload 4, 2) := by decide +kernel
theorem d_Mo_sayNumber_31 : decode b_Mo_sayNumber 31 = .ok (.ldc2_w 875, 3) := by decide +kernel
theorem d_Mo_sayNumber_34 : decode b_Mo_sayNumber 34 = .ok (.ldiv, 1) := by decide +kernel
theorem d_Mo_sayNumber_35 : decode b_Mo_sayNumber 35 = .ok (.lstore 4, 2) := by decide +kernel
theorem d_Mo_sayNumber_37 : decode b_Mo_sayNumber 37 = .ok (.lload 4, 2) := by decide +kernel
theorem d_Mo_sayNumber_39 : decode b_Mo_sayNumber 39 = .ok (.lconst 0, 1) := by decide +kernel
theorem d_Mo_sayNumber_40 : decode b_Mo_sayNumber 40 = .ok (.lcmp, 1) := by decide +kernel
theorem d_Mo_sayNumber_41 : decode b_Mo_sayNumber 41 = .ok (.ifCond .ne (-36), 3) := by decide +kernel
theorem d_Mo_sayNumber_44 : decode b_Mo_sayNumber 44 = .ok (.lload_n 1, 1) := by decide +kernel
theorem d_Mo_sayNumber_45 : decode b_Mo_sayNumber 45 = .ok (.lconst 0, 1) := by decide +kernel
theorem d_Mo_sayNumber_46 : decode b_Mo_sayNumber 46 = .ok (.lcmp, 1) := by decide +kernel
theorem d_Mo_sayNumber_47 : decode b_Mo_sayNumber 47 = .ok (.ifCond .ge 9, 3) := by decide +kernel
theorem d_Mo_sayNumber_50 : decode b_Mo_sayNumber 50 = .ok (.aload_n 0, 1) := by decide +kernel
theorem d_Mo_sayNumber_51 : decode b_Mo_sayNumber 51 = .ok (.bipush 45, 2) := by decide +kernel
theorem d_Mo_sayNumber_53 : decode b_Mo_sayNumber 53 = .ok (.invokevirtual 870, 3) := by decide +kernel
theorem d_Mo_sayNumber_56 : decode b_Mo_sayNumber 56 = .ok (.iload_n 3, 1) := by decide +kernel
theorem d_Mo_sayNumber_57 : decode b_Mo_sayNumber 57 = .ok (.ifCond .le 19, 3) := by decide +kernel
theorem d_Mo_sayNumber_60 : decode b_Mo_sayNumber 60 = .ok (.aload_n 0, 1) := by decide +kernel
theorem d_Mo_sayNumber_61 : decode b_Mo_sayNumber 61 = .ok (.aload_n 0, 1) := by decide +kernel
theorem d_Mo_sayNumber_62 : decode b_Mo_sayNumber 62 = .ok (.getfield 434, 3) := by decide +kernel
theorem d_Mo_sayNumber_65 : decode b_Mo_sayNumber 65 = .ok (.iinc 3 (-1), 3) := by decide +kernel
theorem d_Mo_sayNumber_68 : decode b_Mo_sayNumber 68 = .ok (.iload_n 3, 1) := by decide +kernel
theorem d_Mo_sayNumber_69 : decode b_Mo_sayNumber 69 = .ok (.baload, 1) := by decide +kernel
theorem d_Mo_sayNumber_70 : decode b_Mo_sayNumber 70 = .ok (.invokevirtual 870, 3) := by decide +kernel
theorem d_Mo_sayNumber_73 : decode b_Mo_sayNumber 73 = .ok (.goto (-17), 3) := by decide +kernel
theorem d_Mo_sayNumber_76 : decode b_Mo_sayNumber 76 = .ok (.return_, 1) := by decide +kernel
theorem kw_171 : Cond.constantLong R_Mo 873 48 ∈ wA := kinm (show _ ∈ tables_1 from (List.mem_append_right _ (List.mem_append_right _ (List.mem_append_right _ (List.mem_append_right _ (List.mem_append_right _ (List.mem_append_right _ (List.mem_append_right _ (List.mem_append_right _ (List.mem_append_right _ (List.mem_append_right _ (List.mem_append_right _ (List.mem_append_left _ (List.mem_of_getElem? (l := tables_1_12) (i := 198) (by decide +kernel))))))))))))))) (by decide +kernel)
theorem kw_172 : Cond.constantLong R_Mo 875 10 ∈ wA := kinm (show _ ∈ tables_1 from (List.mem_append_right _ (List.mem_append_right _ (List.mem_append_right _ (List.mem_append_right _ (List.mem_append_right _ (List.mem_append_right _ (List.mem_append_right _ (List.mem_append_right _ (List.mem_append_right _ (List.mem_append_right _ (List.mem_append_right _ (List.mem_append_left _ (List.mem_of_getElem? (l := tables_1_12) (i := 199) (by decide +kernel))))))))))))))) (by decide +kernel)
theorem kw_173 : Cond.fieldLink R_Mo 434 "LuaMachineModel" "digits" "[B" ∈ wA := kinm (show _ ∈ tables_1 from (List.mem_append_right _ (List.mem_append_right _ (List.mem_append_right _ (List.mem_append_right _ (List.mem_append_right _ (List.mem_append_right _ (List.mem_append_right _ (List.mem_append_right _ (List.mem_append_right _ (List.mem_append_left _ (List.mem_of_getElem? (l := tables_1_10) (i := 153) (by decide +kernel))))))))))))) (by decide +kernel)
theorem kw_174 : Cond.methodLink R_Mo 877 y_Mth_abs ∈ wA := kinm (show _ ∈ tables_1 from (List.mem_append_right _ (List.mem_append_right _ (List.mem_append_right _ (List.mem_append_right _ (List.mem_append_right _ (List.mem_append_right _ (List.mem_append_right _ (List.mem_append_right _ (List.mem_append_right _ (List.mem_append_right _ (List.mem_append_right _ (List.mem_append_left _ (List.mem_of_getElem? (l := tables_1_12) (i := 200) (by decide +kernel))))))))))))))) (by decide +kernel)
theorem kw_175 : Cond.methodLink R_Mo 870 y_Mo_say ∈ wA := kinm (show _ ∈ tables_1 from (List.mem_append_right _ (List.mem_append_right _ (List.mem_append_right _ (List.mem_append_right _ (List.mem_append_right _ (List.mem_append_right _ (List.mem_append_right _ (List.mem_append_right _ (List.mem_append_right _ (List.mem_append_right _ (List.mem_append_right _ (List.mem_append_left _ (List.mem_of_getElem? (l := tables_1_12) (i := 180) (by decide +kernel))))))))))))))) (by decide +kernel)
theorem kw_176 : Cond.instanceMethod y_Mo_sayNumber ∈ wA := kinm (show _ ∈ tables_1 from (List.mem_append_right _ (List.mem_append_right _ (List.mem_append_right _ (List.mem_append_right _ (List.mem_append_right _ (List.mem_append_right _ (List.mem_append_right _ (List.mem_append_right _ (List.mem_append_right _ (List.mem_append_right _ (List.mem_append_right _ (List.mem_append_left _ (List.mem_of_getElem? (l := tables_1_12) (i := 196) (by decide +kernel))))))))))))))) (by decide +kernel)
theorem kw_177 : Cond.selects R_Mo y_Mo_sayNumber y_Mo_sayNumber ∈ wA := kinp 165 (by decide +kernel) (by decide +kernel)
theorem cv_Mo_sayNumber : CV y_Mo_sayNumber b_Mo_sayNumber 6 none 1 := ⟨kw_176, kw_177, kw_17, k_Mo_sayNumber, by decide +kernel⟩
theorem lp_Mo_sayNumber_L5 {X : Cx} {q : PL} (g : Gd X y_Mo_sayNumber b_Mo_sayNumber 6 none 1 21 R_Mo) (x : Int64 × Int32 × Int64) (s : S1) (o : ((Int64 × Int32 × Int64) ⊕ ((Int64 × Int32))) × S1) (h : M_Mo_sayNumber_L5 x s = some o) (hR : (Sum.elim (fun y : Int64 × Int32 × Int64 => ∀ ls : Array Slot, lv_has ls 6 [(0, .ref (q.1 0 0)), (1, .long y.1), (3, .int y.2.1), (4, .long y.2.2)] → WW X q o.2 5 ls []) (fun y : Int64 × Int32 => ∀ ls : Array Slot, lv_has ls 6 [(0, .ref (q.1 0 0)), (1, .long y.1), (3, .int y.2)] → WW X q o.2 44 ls []) o.1)) : ∀ ls : Array Slot, lv_has ls 6 [(0, .ref (q.1 0 0)), (1, .long x.1), (3, .int x.2.1), (4, .long x.2.2)] → WW X q s 5 ls [] := by
  intro ls hl
  unfold M_Mo_sayNumber_L5 at h
  refine ww_aload_n (pc := 5) g.1 d_Mo_sayNumber_5 rfl (lv_at hl 0 rfl) ?_
  refine ww_gR (pc := 6) g (k := 97) cl_Mo (pz rfl (by decide)) (by decide) (Or.inl kw_173) (f := 97) (t := 89) rfl rfl rfl d_Mo_sayNumber_6 ?_
  refine ww_iload_n (pc := 9) g.1 d_Mo_sayNumber_9 rfl (lv_at hl 2 rfl) ?_
  refine ww_iinc (pc := 10) g.1 (v := x.2.1 + 1) (lv' := [(3, .int (x.2.1 + 1)), (0, .ref (q.1 0 0)), (1, .long x.1), (4, .long x.2.2)]) d_Mo_sayNumber_10 hl (k := 2) rfl (by rfl) (by decide) rfl fun ls hl => ?_
  refine ww_ldc2 (pc := 13) g (v := 48) kw_171 d_Mo_sayNumber_13 ?_
  refine ww_lload (pc := 16) g.1 d_Mo_sayNumber_16 (lv_at hl 3 rfl) ?_
  refine ww_ldc2 (pc := 18) g (v := 10) kw_172 d_Mo_sayNumber_18 ?_
  refine ww_lrem (pc := 21) g.1 d_Mo_sayNumber_21 (by decide) ?_
  obtain ⟨v22, s, hc22, h⟩ := oB_of h
  refine ww_callS (pc := 22) (rest := [.long 48, .int x.2.1, .ref (q.1 89 0)]) g cs_Mth_abs (Or.inl kw_174) (ct_Mth_abs hc22) ⟨by decide, by decide⟩ rfl hl.1 (Nat.le_of_ble_eq_true rfl) d_Mo_sayNumber_22 rfl ?_
  refine ww_st (st' := [.long v22, .long 48, .int x.2.1, .ref (q.1 89 0)]) rfl ?_
  refine ww_ladd (pc := 25) g.1 d_Mo_sayNumber_25 ?_
  refine ww_l2i (pc := 26) g.1 (v := (48 + v22).toInt32) d_Mo_sayNumber_26 rfl ?_
  refine ww_i2b (pc := 27) g.1 (v := ((48 + v22).toInt32).toInt8.toInt32) d_Mo_sayNumber_27 rfl ?_
  refine ww_sb (pc := 28) g (pz rfl (by decide)) rfl rfl d_Mo_sayNumber_28 h fun s hs h => ?_
  refine ww_lload (pc := 29) g.1 d_Mo_sayNumber_29 (lv_at hl 3 rfl) ?_
  refine ww_ldc2 (pc := 31) g (v := 10) kw_172 d_Mo_sayNumber_31 ?_
  refine ww_ldiv (pc := 34) g.1 d_Mo_sayNumber_34 (by decide) ?_
  refine ww_letl h fun l4_35 h => ?_
  refine ww_lstore (pc := 35) (i := 4) g.1 (lv' := [(4, .long l4_35), (3, .int (x.2.1 + 1)), (0, .ref (q.1 0 0)), (1, .long x.1)]) d_Mo_sayNumber_35 hl (by decide) rfl fun ls hl => ?_
  refine ww_lload (pc := 37) g.1 d_Mo_sayNumber_37 (lv_at hl 0 rfl) ?_
  refine ww_lconst (pc := 39) g.1 (v := 0) d_Mo_sayNumber_39 (by decide) ?_
  refine ww_lcmp (pc := 40) g.1 d_Mo_sayNumber_40 ?_
  refine ww_if_ne (pc := 41) (tgt := 5) g.1 d_Mo_sayNumber_41 (by decide) h (fun c h => ?_) (fun c h => ?_)
  · rw [oR_eq h] at hR
    exact hR ls (lv_sub hl [2, 3, 1, 0] rfl)
  · rw [oR_eq h] at hR
    exact hR ls (lv_sub hl [2, 3, 1] rfl)

theorem lp_Mo_sayNumber_L56 {X : Cx} {q : PL} (g : Gd X y_Mo_sayNumber b_Mo_sayNumber 6 none 1 21 R_Mo) (x : Int32) (s : S1) (o : ((Int32) ⊕ ((Unit))) × S1) (h : M_Mo_sayNumber_L56 x s = some o) (hR : (Sum.elim (fun y : Int32 => ∀ ls : Array Slot, lv_has ls 6 [(0, .ref (q.1 0 0)), (3, .int y)] → WW X q o.2 56 ls []) (fun y : Unit => ∀ ls : Array Slot, lv_has ls 6 [] → WW X q o.2 76 ls []) o.1)) : ∀ ls : Array Slot, lv_has ls 6 [(0, .ref (q.1 0 0)), (3, .int x)] → WW X q s 56 ls [] := by
  intro ls hl
  unfold M_Mo_sayNumber_L56 at h
  refine ww_iload_n (pc := 56) g.1 d_Mo_sayNumber_56 rfl (lv_at hl 1 rfl) ?_
  refine ww_if_le (pc := 57) (tgt := 76) g.1 d_Mo_sayNumber_57 (by decide) h (fun c h => ?_) (fun c h => ?_)
  · rw [oR_eq h] at hR
    exact hR ls (lv_sub hl [] rfl)
  · refine ww_aload_n (pc := 60) g.1 d_Mo_sayNumber_60 rfl (lv_at hl 0 rfl) ?_
    refine ww_aload_n (pc := 61) g.1 d_Mo_sayNumber_61 rfl (lv_at hl 0 rfl) ?_
    refine ww_gR (pc := 62) g (k := 97) cl_Mo (pz rfl (by decide)) (by decide) (Or.inl kw_173) (f := 97) (t := 89) rfl rfl rfl d_Mo_sayNumber_62 ?_
    refine ww_iinc (pc := 65) g.1 (v := x + (-1)) (lv' := [(3, .int (x + (-1))), (0, .ref (q.1 0 0))]) d_Mo_sayNumber_65 hl (k := 1) rfl (by rfl) (by decide) rfl fun ls hl => ?_
    refine ww_iload_n (pc := 68) g.1 d_Mo_sayNumber_68 rfl (lv_at hl 0 rfl) ?_
    refine ww_ab (pc := 69) g (pz rfl (by decide)) rfl rfl d_Mo_sayNumber_69 h fun v69 h => ?_
    obtain ⟨v70, s, hc70, h⟩ := oB_of h
    refine ww_callV (pc := 70) (rest := []) g cv_Mo_say (Or.inl kw_175) cl_Mo (pz rfl (by decide)) (ct_Mo_say hc70) ⟨by decide, by decide⟩ rfl hl.1 (Nat.le_of_ble_eq_true rfl) d_Mo_sayNumber_70 rfl ?_
    refine ww_st (st' := []) rfl ?_
    refine ww_goto (pc := 73) (tgt := 56) g.1 d_Mo_sayNumber_73 (by decide) ?_
    rw [oR_eq h] at hR
    exact hR ls (lv_sub hl [1, 0] rfl)

theorem ct_Mo_sayNumber {l : Launch} {P : PP} {q : PL} {s s' : S1} {l1 : Int64} {r : Unit} (h : M_Mo_sayNumber l1 s = some (r, s')) : Ct l y_Mo_sayNumber b_Mo_sayNumber 6 none 1 21 P q s [.ref (q.1 0 0), .long l1] none q s' := by
  refine ct_of (by decide) (Nat.le_of_ble_eq_true rfl) fun X ls eP el g hR hl => ?_
  subst eP
  have hR : Rt X q ((r, s') : Unit × S1).2 none := hR
  have hl : lv_has ls 6 [(0, .ref (q.1 0 0)), (1, .long l1)] := hl
  generalize (r, s') = o at h hR
  unfold M_Mo_sayNumber at h
  refine ww_iconst (pc := 0) g.1 (v := 0) d_Mo_sayNumber_0 (by decide) ?_
  refine ww_istore_n (pc := 1) (i := 3) g.1 (lv' := [(3, .int 0), (0, .ref (q.1 0 0)), (1, .long l1)]) d_Mo_sayNumber_1 rfl hl (by decide) rfl fun ls hl => ?_
  refine ww_lload_n (pc := 2) g.1 d_Mo_sayNumber_2 rfl (lv_at hl 2 rfl) ?_
  refine ww_lstore (pc := 3) (i := 4) g.1 (lv' := [(4, .long l1), (3, .int 0), (0, .ref (q.1 0 0)), (1, .long l1)]) d_Mo_sayNumber_3 hl (by decide) rfl fun ls hl => ?_
  obtain ⟨e5, s1, hw, h⟩ := oB_of h
  refine oW_rule (Wh := fun (x : Int64 × Int32 × Int64) (s : S1) => ∀ ls : Array Slot, lv_has ls 6 [(0, .ref (q.1 0 0)), (1, .long x.1), (3, .int x.2.1), (4, .long x.2.2)] → WW X q s 5 ls []) (We := fun (e : (Int64 × Int32)) (s : S1) => ∀ ls : Array Slot, lv_has ls 6 [(0, .ref (q.1 0 0)), (1, .long e.1), (3, .int e.2)] → WW X q s 44 ls []) (fun x s o hb hc => lp_Mo_sayNumber_L5 (q := q) g x s o hb hc) hw ?_ ls (lv_sub hl [2, 3, 1, 0] rfl)
  clear hw hl
  clear ls
  intro ls hl
  generalize s1 = s at h ⊢
  refine ww_lload_n (pc := 44) g.1 d_Mo_sayNumber_44 rfl (lv_at hl 1 rfl) ?_
  refine ww_lconst (pc := 45) g.1 (v := 0) d_Mo_sayNumber_45 (by decide) ?_
  refine ww_lcmp (pc := 46) g.1 d_Mo_sayNumber_46 ?_
  refine ww_if_ge (pc := 47) (tgt := 56) g.1 d_Mo_sayNumber_47 (by decide) h (fun c h => ?_) (fun c h => ?_)
  · obtain ⟨e56, s1, hw, h⟩ := oB_of h
    refine oW_rule (Wh := fun (x : Int32) (s : S1) => ∀ ls : Array Slot, lv_has ls 6 [(0, .ref (q.1 0 0)), (3, .int x)] → WW X q s 56 ls []) (We := fun (e : (Unit)) (s : S1) => ∀ ls : Array Slot, lv_has ls 6 [] → WW X q s 76 ls []) (fun x s o hb hc => lp_Mo_sayNumber_L56 (q := q) g x s o hb hc) hw ?_ ls (lv_sub hl [0, 2] rfl)
    clear hw hl
    clear ls
    intro ls hl
    generalize s1 = s at h ⊢
    exact ww_vretH (pc := 76) g h hR d_Mo_sayNumber_76
  · refine ww_aload_n (pc := 50) g.1 d_Mo_sayNumber_50 rfl (lv_at hl 0 rfl) ?_
    refine ww_bipush (pc := 51) g.1 (v := 45) d_Mo_sayNumber_51 (by decide) ?_
    obtain ⟨v53, s, hc53, h⟩ := oB_of h
    refine ww_callV (pc := 53) (rest := []) g cv_Mo_say (Or.inl kw_175) cl_Mo (pz rfl (by decide)) (ct_Mo_say hc53) ⟨by decide, by decide⟩ rfl hl.1 (Nat.le_of_ble_eq_true rfl) d_Mo_sayNumber_53 rfl ?_
    refine ww_st (st' := []) rfl ?_
    obtain ⟨e56, s1, hw, h⟩ := oB_of h
    refine oW_rule (Wh := fun (x : Int32) (s : S1) => ∀ ls : Array Slot, lv_has ls 6 [(0, .ref (q.1 0 0)), (3, .int x)] → WW X q s 56 ls []) (We := fun (e : (Unit)) (s : S1) => ∀ ls : Array Slot, lv_has ls 6 [] → WW X q s 76 ls []) (fun x s o hb hc => lp_Mo_sayNumber_L56 (q := q) g x s o hb hc) hw ?_ ls (lv_sub hl [0, 2] rfl)
    clear hw hl
    clear ls
    intro ls hl
    generalize s1 = s at h ⊢
    exact ww_vretH (pc := 76) g h hR d_Mo_sayNumber_76


