abbrev b_He_variableKind : ByteArray := prog_6_method_16_code
def y_He_variableKind : MethodName := ⟨R_He, "variableKind", "(I)I"⟩
abbrev w_He_variableKind : List Cond := .code y_He_variableKind b_He_variableKind 3 (some .int) :: wA
theorem k_He_variableKind : Cond.code y_He_variableKind b_He_variableKind 3 (some .int) ∈ wA := kinm (show _ ∈ tables_1 from (List.mem_append_right _ (List.mem_append_right _ (List.mem_append_right _ (List.mem_append_right _ (List.mem_append_right _ (List.mem_append_right _ (List.mem_append_left _ (List.mem_of_getElem? (l := tables_1_7) (i := 35) (by decide +kernel)))))))))) (by decide +kernel)
theorem d_He_variableKind_0 : decode b_He_variableKind 0 = .ok (.aload_n 0, 1) := by decide +kernel
theorem d_He_variableKind_1 : decode b_He_variableKind 1 = .ok (.getfield 11, 3) := by decide +kernel
theorem d_He_variableKind_4 : decode b_He_variableKind 4 = .ok (.iload_n 1, 1) := by decide +kernel
theorem d_He_variableKind_5 : decode b_He_variableKind 5 = .ok (.aaload, 1) := by decide +kernel
theorem d_He_variableKind_6 : decode b_He_variableKind 6 = .ok (.astore_n 2, 1) := by decide +kernel
theorem d_He_variableKind_7 : decode b_He_variableKind 7 = .ok (.aload_n 2, 1) := by decide +kernel
theorem d_He_variableKind_8 : decode b_He_variableKind 8 = .ok (.getfield 97, 3) := by decide +kernel
theorem d_He_variableKind_11 : decode b_He_variableKind 11 = .ok (.ifCond .ge 10, 3) := by decide +kernel
theorem d_He_variableKind_14 : decode b_He_variableKind 14 = .ok (.aload_n 2, 1) := by decide +kernel
theorem d_He_variableKind_15 : decode b_He_variableKind 15 = .ok (.getfield 100, 3) := by decide +kernel
theorem d_He_variableKind_18 : decode b_He_variableKind 18 = .ok (.goto 20, 3) := by decide +kernel
theorem d_He_variableKind_21 : decode b_He_variableKind 21 = .ok (.aload_n 0, 1) := by decide +kernel
theorem d_He_variableKind_22 : decode b_He_variableKind 22 = .ok (.getfield 29, 3) := by decide +kernel
theorem d_He_variableKind_25 : decode b_He_variableKind 25 = .ok (.aload_n 2, 1) := by decide +kernel
theorem d_He_variableKind_26 : decode b_He_variableKind 26 = .ok (.getfield 97, 3) := by decide +kernel
theorem d_He_variableKind_29 : decode b_He_variableKind 29 = .ok (.aaload, 1) := by decide +kernel
theorem d_He_variableKind_30 : decode b_He_variableKind 30 = .ok (.getfield 178, 3) := by decide +kernel
theorem d_He_variableKind_33 : decode b_He_variableKind 33 = .ok (.aload_n 2, 1) := by decide +kernel
theorem d_He_variableKind_34 : decode b_He_variableKind 34 = .ok (.getfield 119, 3) := by decide +kernel
theorem d_He_variableKind_37 : decode b_He_variableKind 37 = .ok (.baload, 1) := by decide +kernel
theorem d_He_variableKind_38 : decode b_He_variableKind 38 = .ok (.ireturn, 1) := by decide +kernel
theorem kw_890 : Cond.instanceMethod y_He_variableKind ∈ wA := kinm (show _ ∈ tables_1 from (List.mem_append_right _ (List.mem_append_right _ (List.mem_append_right _ (List.mem_append_right _ (List.mem_append_right _ (List.mem_append_right _ (List.mem_append_left _ (List.mem_of_getElem? (l := tables_1_7) (i := 33) (by decide +kernel)))))))))) (by decide +kernel)
theorem kw_891 : Cond.selects R_He y_He_variableKind y_He_variableKind ∈ wA := kinm (show _ ∈ tables_1 from (List.mem_append_right _ (List.mem_append_right _ (List.mem_append_right _ (List.mem_append_right _ (List.mem_append_right _ (List.mem_append_right _ (List.mem_append_left _ (List.mem_of_getElem? (l := tables_1_7) (i := 34) (by decide +kernel)))))))))) (by decide +kernel)
theorem cv_He_variableKind : CV y_He_variableKind b_He_variableKind 3 (some .int) 1 := ⟨kw_890, kw_891, kw_712, k_He_variableKind, by decide +kernel⟩
theorem ct_He_variableKind {l : Launch} {P : PP} {q : PL} {s s' : S1} {l1 : Int32} {r : Int32} (h : M_He_variableKind l1 s = some (r, s')) : Ct l y_He_variableKind b_He_variableKind 3 (some .int) 0 0 P q s [.ref (q.1 111 0), .int l1] (some (.int r)) q s' := by
  refine ct_of (by decide) (Nat.le_of_ble_eq_true rfl) fun X ls eP el g hR hl => ?_
  subst eP
  have hR : Rt X q ((r, s') : Int32 × S1).2 (some (.int ((r, s') : Int32 × S1).1)) := hR
  have hl : lv_has ls 3 [(0, .ref (q.1 111 0)), (1, .int l1)] := hl
  generalize (r, s') = o at h hR
  unfold M_He_variableKind at h
  refine ww_aload_n (pc := 0) g.1 d_He_variableKind_0 rfl (lv_at hl 0 rfl) ?_
  refine ww_gR (pc := 1) g (k := 0) cl_He (pz rfl (by decide)) (by decide) (Or.inl kw_725) (f := 14208) (t := 112) rfl rfl rfl d_He_variableKind_1 ?_
  refine ww_iload_n (pc := 4) g.1 d_He_variableKind_4 rfl (lv_at hl 1 rfl) ?_
  refine ww_a8 (pc := 5) g (t := 145) (n := 4000) (pz rfl (by decide)) rfl rfl rfl rfl d_He_variableKind_5 h fun pa5 h => ?_
  refine ww_astore_n (pc := 6) (i := 2) g.1 (lv' := [(2, .ref (q.1 145 l1)), (0, .ref (q.1 111 0)), (1, .int l1)]) d_He_variableKind_6 rfl hl (by decide) rfl fun ls hl => ?_
  refine ww_aload_n (pc := 7) g.1 d_He_variableKind_7 rfl (lv_at hl 0 rfl) ?_
  refine ww_gI (pc := 8) g (k := 4) cl_Tg pa5 (by decide) (Or.inl kw_759) (f := 18564) rfl rfl d_He_variableKind_8 h fun v8 h => ?_
  refine ww_if_ge (pc := 11) (tgt := 21) g.1 d_He_variableKind_11 (by decide) h (fun c h => ?_) (fun c h => ?_)
  · refine ww_aload_n (pc := 21) g.1 d_He_variableKind_21 rfl (lv_at hl 1 rfl) ?_
    refine ww_gR (pc := 22) g (k := 6) cl_He (pz rfl (by decide)) (by decide) (Or.inl kw_708) (f := 14214) (t := 116) rfl rfl rfl d_He_variableKind_22 ?_
    refine ww_aload_n (pc := 25) g.1 d_He_variableKind_25 rfl (lv_at hl 0 rfl) ?_
    refine ww_gI (pc := 26) g (k := 4) cl_Tg pa5 (by decide) (Or.inl kw_759) (f := 18564) rfl rfl d_He_variableKind_26 h fun v26 h => ?_
    refine ww_a8 (pc := 29) g (t := 148) (n := 32) (pz rfl (by decide)) rfl rfl rfl rfl d_He_variableKind_29 h fun pa29 h => ?_
    refine ww_gR (pc := 30) g (k := 0) cl_Co pa29 (by decide) (Or.inl kw_736) (f := 18944) (t := 149) rfl rfl rfl d_He_variableKind_30 ?_
    refine ww_kd fun kd30 => ?_
    have pk30 : prs s 149 v26 := (kd30 _ pa29).1
    refine ww_aload_n (pc := 33) g.1 d_He_variableKind_33 rfl (lv_at hl 0 rfl) ?_
    refine ww_gI (pc := 34) g (k := 6) cl_Tg pa5 (by decide) (Or.inl kw_762) (f := 18566) rfl rfl d_He_variableKind_34 h fun v34 h => ?_
    refine ww_ab (pc := 37) g pk30 rfl rfl d_He_variableKind_37 h fun v37 h => ?_
    exact ww_iretH (pc := 38) g h hR d_He_variableKind_38
  · refine ww_aload_n (pc := 14) g.1 d_He_variableKind_14 rfl (lv_at hl 0 rfl) ?_
    refine ww_gI (pc := 15) g (k := 7) cl_Tg pa5 (by decide) (Or.inl kw_763) (f := 18567) rfl rfl d_He_variableKind_15 h fun v15 h => ?_
    refine ww_goto (pc := 18) (tgt := 38) g.1 d_He_variableKind_18 (by decide) ?_
    exact ww_iretH (pc := 38) g h hR d_He_variableKind_38

abbrev b_He_variableValue : ByteArray := prog_6_method_17_code
def y_He_variableValue : MethodName := ⟨R_He, "variableValue", "(I)J"⟩
abbrev w_He_variableValue : List Cond := .code y_He_variableValue b_He_variableValue 3 (some .long) :: wA
theorem k_He_variableValue : Cond.code y_He_variableValue b_He_variableValue 3 (some .long) ∈ wA := kinm (show _ ∈ tables_1 from (List.mem_append_right _ (List.mem_append_right _ (List.mem_append_right _ (List.mem_append_right _ (List.mem_append_right _ (List.mem_append_right _ (List.mem_append_left _ (List.mem_of_getElem? (l := tables_1_7) (i := 39) (by decide +kernel)))))))))) (by decide +kernel)
theorem d_He_variableValue_0 : decode b_He_variableValue 0 = .ok (.aload_n 0, 1) := by decide +kernel
theorem d_He_variableValue_1 : decode b_He_variableValue 1 = .ok (.getfield 11, 3) := by decide +kernel
theorem d_He_variableValue_4 : decode b_He_variableValue 4 = .ok (.iload_n 1, 1) := by decide +kernel
theorem d_He_variableValue_5 : decode b_He_variableValue 5 = .ok (.aaload, 1) := by decide +kernel
theorem d_He_variableValue_6 : decode b_He_variableValue 6 = .ok (.astore_n 2, 1) := by decide +kernel
theorem d_He_variableValue_7 : decode b_He_variableValue 7 = .ok (.aload_n 2, 1) := by decide +kernel
theorem d_He_variableValue_8 : decode b_He_variableValue 8 = .ok (.getfield 97, 3) := by decide +kernel
theorem d_He_variableValue_11 : decode b_He_variableValue 11 = .ok (.ifCond .ge 10, 3) := by decide +kernel
theorem d_He_variableValue_14 : decode b_He_variableValue 14 = .ok (.aload_n 2, 1) := by decide +kernel
theorem d_He_variableValue_15 : decode b_He_variableValue 15 = .ok (.getfield 103, 3) := by decide +kernel
theorem d_He_variableValue_18 : decode b_He_variableValue 18 = .ok (.goto 20, 3) := by decide +kernel
theorem d_He_variableValue_21 : decode b_He_variableValue 21 = .ok (.aload_n 0, 1) := by decide +kernel
theorem d_He_variableValue_22 : decode b_He_variableValue 22 = .ok (.getfield 29, 3) := by decide +kernel
theorem d_He_variableValue_25 : decode b_He_variableValue 25 = .ok (.aload_n 2, 1) := by decide +kernel
theorem d_He_variableValue_26 : decode b_He_variableValue 26 = .ok (.getfield 97, 3) := by decide +kernel
theorem d_He_variableValue_29 : decode b_He_variableValue 29 = .ok (.aaload, 1) := by decide +kernel
theorem d_He_variableValue_30 : decode b_He_variableValue 30 = .ok (.getfield 181, 3) := by decide +kernel
theorem d_He_variableValue_33 : decode b_He_variableValue 33 = .ok (.aload_n 2, 1) := by decide +kernel
theorem d_He_variableValue_34 : decode b_He_variableValue 34 = .ok (.getfield 119, 3) := by decide +kernel
theorem d_He_variableValue_37 : decode b_He_variableValue 37 = .ok (.laload, 1) := by decide +kernel
theorem d_He_variableValue_38 : decode b_He_variableValue 38 = .ok (.lreturn, 1) := by decide +kernel
theorem kw_892 : Cond.instanceMethod y_He_variableValue ∈ wA := kinm (show _ ∈ tables_1 from (List.mem_append_right _ (List.mem_append_right _ (List.mem_append_right _ (List.mem_append_right _ (List.mem_append_right _ (List.mem_append_right _ (List.mem_append_left _ (List.mem_of_getElem? (l := tables_1_7) (i := 37) (by decide +kernel)))))))))) (by decide +kernel)
theorem kw_893 : Cond.selects R_He y_He_variableValue y_He_variableValue ∈ wA := kinm (show _ ∈ tables_1 from (List.mem_append_right _ (List.mem_append_right _ (List.mem_append_right _ (List.mem_append_right _ (List.mem_append_right _ (List.mem_append_right _ (List.mem_append_left _ (List.mem_of_getElem? (l := tables_1_7) (i := 38) (by decide +kernel)))))))))) (by decide +kernel)
theorem cv_He_variableValue : CV y_He_variableValue b_He_variableValue 3 (some .long) 1 := ⟨kw_892, kw_893, kw_712, k_He_variableValue, by decide +kernel⟩
theorem ct_He_variableValue {l : Launch} {P : PP} {q : PL} {s s' : S1} {l1 : Int32} {r : Int64} (h : M_He_variableValue l1 s = some (r, s')) : Ct l y_He_variableValue b_He_variableValue 3 (some .long) 0 0 P q s [.ref (q.1 111 0), .int l1] (some (.long r)) q s' := by
  refine ct_of (by decide) (Nat.le_of_ble_eq_true rfl) fun X ls eP el g hR hl => ?_
  subst eP
  have hR : Rt X q ((r, s') : Int64 × S1).2 (some (.long ((r, s') : Int64 × S1).1)) := hR
  have hl : lv_has ls 3 [(0, .ref (q.1 111 0)), (1, .int l1)] := hl
  generalize (r, s') = o at h hR
  unfold M_He_variableValue at h
  refine ww_aload_n (pc := 0) g.1 d_He_variableValue_0 rfl (lv_at hl 0 rfl) ?_
  refine ww_gR (pc := 1) g (k := 0) cl_He (pz rfl (by decide)) (by decide) (Or.inl kw_725) (f := 14208) (t := 112) rfl rfl rfl d_He_variableValue_1 ?_
  refine ww_iload_n (pc := 4) g.1 d_He_variableValue_4 rfl (lv_at hl 1 rfl) ?_
  refine ww_a8 (pc := 5) g (t := 145) (n := 4000) (pz rfl (by decide)) rfl rfl rfl rfl d_He_variableValue_5 h fun pa5 h => ?_
  refine ww_astore_n (pc := 6) (i := 2) g.1 (lv' := [(2, .ref (q.1 145 l1)), (0, .ref (q.1 111 0)), (1, .int l1)]) d_He_variableValue_6 rfl hl (by decide) rfl fun ls hl => ?_
  refine ww_aload_n (pc := 7) g.1 d_He_variableValue_7 rfl (lv_at hl 0 rfl) ?_
  refine ww_gI (pc := 8) g (k := 4) cl_Tg pa5 (by decide) (Or.inl kw_759) (f := 18564) rfl rfl d_He_variableValue_8 h fun v8 h => ?_
  refine ww_if_ge (pc := 11) (tgt := 21) g.1 d_He_variableValue_11 (by decide) h (fun c h => ?_) (fun c h => ?_)
  · refine ww_aload_n (pc := 21) g.1 d_He_variableValue_21 rfl (lv_at hl 1 rfl) ?_
    refine ww_gR (pc := 22) g (k := 6) cl_He (pz rfl (by decide)) (by decide) (Or.inl kw_708) (f := 14214) (t := 116) rfl rfl rfl d_He_variableValue_22 ?_
    refine ww_aload_n (pc := 25) g.1 d_He_variableValue_25 rfl (lv_at hl 0 rfl) ?_
    refine ww_gI (pc := 26) g (k := 4) cl_Tg pa5 (by decide) (Or.inl kw_759) (f := 18564) rfl rfl d_He_variableValue_26 h fun v26 h => ?_
    refine ww_a8 (pc := 29) g (t := 148) (n := 32) (pz rfl (by decide)) rfl rfl rfl rfl d_He_variableValue_29 h fun pa29 h => ?_
    refine ww_gR (pc := 30) g (k := 1) cl_Co pa29 (by decide) (Or.inl kw_737) (f := 18945) (t := 150) rfl rfl rfl d_He_variableValue_30 ?_
    refine ww_kd fun kd30 => ?_
    have pk30 : prs s 150 v26 := (kd30 _ pa29).2.1
    refine ww_aload_n (pc := 33) g.1 d_He_variableValue_33 rfl (lv_at hl 0 rfl) ?_
    refine ww_gI (pc := 34) g (k := 6) cl_Tg pa5 (by decide) (Or.inl kw_762) (f := 18566) rfl rfl d_He_variableValue_34 h fun v34 h => ?_
    refine ww_al (pc := 37) g pk30 rfl rfl d_He_variableValue_37 h fun v37 h => ?_
    exact ww_lretH (pc := 38) g h hR d_He_variableValue_38
  · refine ww_aload_n (pc := 14) g.1 d_He_variableValue_14 rfl (lv_at hl 0 rfl) ?_
    refine ww_gL (pc := 15) g (k := 8) cl_Tg pa5 (by decide) (Or.inl kw_764) (f := 18568) rfl rfl d_He_variableValue_15 h fun v15 h => ?_
    refine ww_goto (pc := 18) (tgt := 38) g.1 d_He_variableValue_18 (by decide) ?_
    exact ww_lretH (pc := 38) g h hR d_He_variableValue_38

abbrev b_St_kindOf : ByteArray := prog_10_method_5_code
def y_St_kindOf : MethodName := ⟨R_St, "kindOf", "(I)I"⟩
abbrev w_St_kindOf : List Cond := .code y_St_kindOf b_St_kindOf 2 (some .int) :: wA
theorem k_St_kindOf : Cond.code y_St_kindOf b_St_kindOf 2 (some .int) ∈ wA := kinm (show _ ∈ tables_1 from (List.mem_append_right _ (List.mem_append_right _ (List.mem_append_right _ (List.mem_append_right _ (List.mem_append_right _ (List.mem_append_right _ (List.mem_append_left _ (List.mem_of_getElem? (l := tables_1_7) (i := 48) (by decide +kernel)))))))))) (by decide +kernel)
theorem d_St_kindOf_0 : decode b_St_kindOf 0 = .ok (.iload_n 1, 1) := by decide +kernel
theorem d_St_kindOf_1 : decode b_St_kindOf 1 = .ok (.sipush 256, 3) := by decide +kernel
theorem d_St_kindOf_4 : decode b_St_kindOf 4 = .ok (.if_icmp .ge 20, 3) := by decide +kernel
theorem d_St_kindOf_7 : decode b_St_kindOf 7 = .ok (.aload_n 0, 1) := by decide +kernel
theorem d_St_kindOf_8 : decode b_St_kindOf 8 = .ok (.getfield 110, 3) := by decide +kernel
theorem d_St_kindOf_11 : decode b_St_kindOf 11 = .ok (.getfield 146, 3) := by decide +kernel
theorem d_St_kindOf_14 : decode b_St_kindOf 14 = .ok (.aload_n 0, 1) := by decide +kernel
theorem d_St_kindOf_15 : decode b_St_kindOf 15 = .ok (.getfield 125, 3) := by decide +kernel
theorem d_St_kindOf_18 : decode b_St_kindOf 18 = .ok (.iload_n 1, 1) := by decide +kernel
theorem d_St_kindOf_19 : decode b_St_kindOf 19 = .ok (.iadd, 1) := by decide +kernel
theorem d_St_kindOf_20 : decode b_St_kindOf 20 = .ok (.baload, 1) := by decide +kernel
theorem d_St_kindOf_21 : decode b_St_kindOf 21 = .ok (.goto 24, 3) := by decide +kernel
theorem d_St_kindOf_24 : decode b_St_kindOf 24 = .ok (.aload_n 0, 1) := by decide +kernel
theorem d_St_kindOf_25 : decode b_St_kindOf 25 = .ok (.getfield 31, 3) := by decide +kernel
theorem d_St_kindOf_28 : decode b_St_kindOf 28 = .ok (.getfield 154, 3) := by decide +kernel
theorem d_St_kindOf_31 : decode b_St_kindOf 31 = .ok (.aload_n 0, 1) := by decide +kernel
theorem d_St_kindOf_32 : decode b_St_kindOf 32 = .ok (.getfield 121, 3) := by decide +kernel
theorem d_St_kindOf_35 : decode b_St_kindOf 35 = .ok (.getfield 157, 3) := by decide +kernel
theorem d_St_kindOf_38 : decode b_St_kindOf 38 = .ok (.iload_n 1, 1) := by decide +kernel
theorem d_St_kindOf_39 : decode b_St_kindOf 39 = .ok (.iadd, 1) := by decide +kernel
theorem d_St_kindOf_40 : decode b_St_kindOf 40 = .ok (.sipush 256, 3) := by decide +kernel
theorem d_St_kindOf_43 : decode b_St_kindOf 43 = .ok (.isub, 1) := by decide +kernel
theorem d_St_kindOf_44 : decode b_St_kindOf 44 = .ok (.baload, 1) := by decide +kernel
theorem d_St_kindOf_45 : decode b_St_kindOf 45 = .ok (.ireturn, 1) := by decide +kernel
theorem kw_894 : Cond.fieldLink R_St 154 "LuaMachine$Chunk" "constantKinds" "[B" ∈ wA := kinm (show _ ∈ tables_1 from (List.mem_append_left _ (List.mem_of_getElem? (l := tables_1_1) (i := 62) (by decide +kernel)))) (by decide +kernel)
theorem kw_895 : Cond.fieldLink R_St 157 "LuaMachine$Prototype" "constantStart" "I" ∈ wA := kinm (show _ ∈ tables_1 from (List.mem_append_right _ (List.mem_append_right _ (List.mem_append_left _ (List.mem_of_getElem? (l := tables_1_3) (i := 144) (by decide +kernel)))))) (by decide +kernel)
theorem kw_896 : Cond.fieldLink R_St 146 "LuaMachine$Coroutine" "kinds" "[B" ∈ wA := kinm (show _ ∈ tables_1 from (List.mem_append_right _ (List.mem_append_right _ (List.mem_append_right _ (List.mem_append_right _ (List.mem_append_right _ (List.mem_append_left _ (List.mem_of_getElem? (l := tables_1_6) (i := 137) (by decide +kernel))))))))) (by decide +kernel)
theorem kw_897 : Cond.instanceMethod y_St_kindOf ∈ wA := kinm (show _ ∈ tables_1 from (List.mem_append_right _ (List.mem_append_right _ (List.mem_append_right _ (List.mem_append_right _ (List.mem_append_right _ (List.mem_append_right _ (List.mem_append_left _ (List.mem_of_getElem? (l := tables_1_7) (i := 47) (by decide +kernel)))))))))) (by decide +kernel)
theorem kw_898 : Cond.selects R_St y_St_kindOf y_St_kindOf ∈ wA := kinp 39 (by decide +kernel) (by decide +kernel)
theorem cv_St_kindOf : CV y_St_kindOf b_St_kindOf 2 (some .int) 1 := ⟨kw_897, kw_898, kw_883, k_St_kindOf, by decide +kernel⟩
theorem ct_St_kindOf {l : Launch} {P : PP} {q : PL} {s s' : S1} {l1 : Int32} {r : Int32} (h : M_St_kindOf l1 s = some (r, s')) : Ct l y_St_kindOf b_St_kindOf 2 (some .int) 0 0 P q s [.ref (q.1 129 0), .int l1] (some (.int r)) q s' := by
  refine ct_of (by decide) (Nat.le_of_ble_eq_true rfl) fun X ls eP el g hR hl => ?_
  subst eP
  have hR : Rt X q ((r, s') : Int32 × S1).2 (some (.int ((r, s') : Int32 × S1).1)) := hR
  have hl : lv_has ls 2 [(0, .ref (q.1 129 0)), (1, .int l1)] := hl
  generalize (r, s') = o at h hR
  unfold M_St_kindOf at h
  refine ww_iload_n (pc := 0) g.1 d_St_kindOf_0 rfl (lv_at hl 1 rfl) ?_
  refine ww_sipush (pc := 1) g.1 (v := 256) d_St_kindOf_1 (by decide) ?_
  refine ww_icmp_ge (pc := 4) (tgt := 24) g.1 d_St_kindOf_4 (by decide) h (fun c h => ?_) (fun c h => ?_)
  · refine ww_aload_n (pc := 24) g.1 d_St_kindOf_24 rfl (lv_at hl 0 rfl) ?_
    refine ww_gR (pc := 25) g (k := 3) cl_St (pz rfl (by decide)) (by decide) (Or.inl kw_872) (f := 16515) (t := 101) rfl rfl rfl d_St_kindOf_25 ?_
    refine ww_gR (pc := 28) g (k := 3) cl_Ch (pz rfl (by decide)) (by decide) (Or.inl kw_894) (f := 12931) (t := 105) rfl rfl rfl d_St_kindOf_28 ?_
    refine ww_aload_n (pc := 31) g.1 d_St_kindOf_31 rfl (lv_at hl 0 rfl) ?_
    refine ww_gV (pc := 32) g (k := 6) cl_St (pz rfl (by decide)) (by decide) (Or.inl kw_869) (f := 16518) (t := 144) rfl rfl rfl d_St_kindOf_32 h fun v32 h => ?_
    refine ww_pr h fun pn32 h => ?_
    refine ww_nnP pn32 ?_
    refine ww_gI (pc := 35) g (k := 6) cl_Pr pn32 (by decide) (Or.inl kw_895) (f := 18438) rfl rfl d_St_kindOf_35 h fun v35 h => ?_
    refine ww_iload_n (pc := 38) g.1 d_St_kindOf_38 rfl (lv_at hl 1 rfl) ?_
    refine ww_iadd (pc := 39) g.1 d_St_kindOf_39 ?_
    refine ww_sipush (pc := 40) g.1 (v := 256) d_St_kindOf_40 (by decide) ?_
    refine ww_isub (pc := 43) g.1 d_St_kindOf_43 ?_
    refine ww_ab (pc := 44) g (pz rfl (by decide)) rfl rfl d_St_kindOf_44 h fun v44 h => ?_
    exact ww_iretH (pc := 45) g h hR d_St_kindOf_45
  · refine ww_aload_n (pc := 7) g.1 d_St_kindOf_7 rfl (lv_at hl 0 rfl) ?_
    refine ww_gV (pc := 8) g (k := 4) cl_St (pz rfl (by decide)) (by decide) (Or.inl kw_865) (f := 16516) (t := 148) rfl rfl rfl d_St_kindOf_8 h fun v8 h => ?_
    refine ww_pr h fun pn8 h => ?_
    refine ww_nnP pn8 ?_
    refine ww_gR (pc := 11) g (k := 0) cl_Co pn8 (by decide) (Or.inl kw_896) (f := 18944) (t := 149) rfl rfl rfl d_St_kindOf_11 ?_
    refine ww_kd fun kd11 => ?_
    have pk11 : prs s 149 v8 := (kd11 _ pn8).1
    refine ww_aload_n (pc := 14) g.1 d_St_kindOf_14 rfl (lv_at hl 0 rfl) ?_
    refine ww_gI (pc := 15) g (k := 7) cl_St (pz rfl (by decide)) (by decide) (Or.inl kw_871) (f := 16519) rfl rfl d_St_kindOf_15 h fun v15 h => ?_
    refine ww_iload_n (pc := 18) g.1 d_St_kindOf_18 rfl (lv_at hl 1 rfl) ?_
    refine ww_iadd (pc := 19) g.1 d_St_kindOf_19 ?_
    refine ww_ab (pc := 20) g pk11 rfl rfl d_St_kindOf_20 h fun v20 h => ?_
    refine ww_goto (pc := 21) (tgt := 45) g.1 d_St_kindOf_21 (by decide) ?_
    exact ww_iretH (pc := 45) g h hR d_St_kindOf_45

abbrev b_St_valueOf : ByteArray := prog_10_method_6_code
def y_St_valueOf : MethodName := ⟨R_St, "valueOf", "(I)J"⟩
abbrev w_St_valueOf : List Cond := .code y_St_valueOf b_St_valueOf 2 (some .long) :: wA
theorem k_St_valueOf : Cond.code y_St_valueOf b_St_valueOf 2 (some .long) ∈ wA := kinm (show _ ∈ tables_1 from (List.mem_append_right _ (List.mem_append_right _ (List.mem_append_right _ (List.mem_append_right _ (List.mem_append_right _ (List.mem_append_right _ (List.mem_append_left _ (List.mem_of_getElem? (l := tables_1_7) (i := 52) (by decide +kernel)))))))))) (by decide +kernel)
theorem d_St_valueOf_0 : decode b_St_valueOf 0 = .ok (.iload_n 1, 1) := by decide +kernel
theorem d_St_valueOf_1 : decode b_St_valueOf 1 = .ok (.sipush 256, 3) := by decide +kernel
theorem d_St_valueOf_4 : decode b_St_valueOf 4 = .ok (.if_icmp .ge 20, 3) := by decide +kernel
theorem d_St_valueOf_7 : decode b_St_valueOf 7 = .ok (.aload_n 0, 1) := by decide +kernel
theorem d_St_valueOf_8 : decode b_St_valueOf 8 = .ok (.getfield 110, 3) := by decide +kernel
theorem d_St_valueOf_11 : decode b_St_valueOf 11 = .ok (.getfield 150, 3) := by decide +kernel
theorem d_St_valueOf_14 : decode b_St_valueOf 14 = .ok (.aload_n 0, 1) := by decide +kernel
theorem d_St_valueOf_15 : decode b_St_valueOf 15 = .ok (.getfield 125, 3) := by decide +kernel
theorem d_St_valueOf_18 : decode b_St_valueOf 18 = .ok (.iload_n 1, 1) := by decide +kernel
theorem d_St_valueOf_19 : decode b_St_valueOf 19 = .ok (.iadd, 1) := by decide +kernel
theorem d_St_valueOf_20 : decode b_St_valueOf 20 = .ok (.laload, 1) := by decide +kernel
theorem d_St_valueOf_21 : decode b_St_valueOf 21 = .ok (.goto 24, 3) := by decide +kernel
theorem d_St_valueOf_24 : decode b_St_valueOf 24 = .ok (.aload_n 0, 1) := by decide +kernel
theorem d_St_valueOf_25 : decode b_St_valueOf 25 = .ok (.getfield 31, 3) := by decide +kernel
theorem d_St_valueOf_28 : decode b_St_valueOf 28 = .ok (.getfield 160, 3) := by decide +kernel
theorem d_St_valueOf_31 : decode b_St_valueOf 31 = .ok (.aload_n 0, 1) := by decide +kernel
theorem d_St_valueOf_32 : decode b_St_valueOf 32 = .ok (.getfield 121, 3) := by decide +kernel
theorem d_St_valueOf_35 : decode b_St_valueOf 35 = .ok (.getfield 157, 3) := by decide +kernel
theorem d_St_valueOf_38 : decode b_St_valueOf 38 = .ok (.iload_n 1, 1) := by decide +kernel
theorem d_St_valueOf_39 : decode b_St_valueOf 39 = .ok (.iadd, 1) := by decide +kernel
theorem d_St_valueOf_40 : decode b_St_valueOf 40 = .ok (.sipush 256, 3) := by decide +kernel
theorem d_St_valueOf_43 : decode b_St_valueOf 43 = .ok (.isub, 1) := by decide +kernel
theorem d_St_valueOf_44 : decode b_St_valueOf 44 = .ok (.laload, 1) := by decide +kernel
theorem d_St_valueOf_45 : decode b_St_valueOf 45 = .ok (.lreturn, 1) := by decide +kernel
theorem kw_899 : Cond.fieldLink R_St 160 "LuaMachine$Chunk" "constantValues" "[J" ∈ wA := kinm (show _ ∈ tables_1 from (List.mem_append_left _ (List.mem_of_getElem? (l := tables_1_1) (i := 65) (by decide +kernel)))) (by decide +kernel)
theorem kw_900 : Cond.fieldLink R_St 150 "LuaMachine$Coroutine" "values" "[J" ∈ wA := kinm (show _ ∈ tables_1 from (List.mem_append_right _ (List.mem_append_right _ (List.mem_append_right _ (List.mem_append_right _ (List.mem_append_right _ (List.mem_append_left _ (List.mem_of_getElem? (l := tables_1_6) (i := 141) (by decide +kernel))))))))) (by decide +kernel)
theorem kw_901 : Cond.instanceMethod y_St_valueOf ∈ wA := kinm (show _ ∈ tables_1 from (List.mem_append_right _ (List.mem_append_right _ (List.mem_append_right _ (List.mem_append_right _ (List.mem_append_right _ (List.mem_append_right _ (List.mem_append_left _ (List.mem_of_getElem? (l := tables_1_7) (i := 51) (by decide +kernel)))))))))) (by decide +kernel)
theorem kw_902 : Cond.selects R_St y_St_valueOf y_St_valueOf ∈ wA := kinp 40 (by decide +kernel) (by decide +kernel)
theorem cv_St_valueOf : CV y_St_valueOf b_St_valueOf 2 (some .long) 1 := ⟨kw_901, kw_902, kw_883, k_St_valueOf, by decide +kernel⟩
theorem ct_St_valueOf {l : Launch} {P : PP} {q : PL} {s s' : S1} {l1 : Int32} {r : Int64} (h : M_St_valueOf l1 s = some (r, s')) : Ct l y_St_valueOf b_St_valueOf 2 (some .long) 0 0 P q s [.ref (q.1 129 0), .int l1] (some (.long r)) q s' := by
  refine ct_of (by decide) (Nat.le_of_ble_eq_true rfl) fun X ls eP el g hR hl => ?_
  subst eP
  have hR : Rt X q ((r, s') : Int64 × S1).2 (some (.long ((r, s') : Int64 × S1).1)) := hR
  have hl : lv_has ls 2 [(0, .ref (q.1 129 0)), (1, .int l1)] := hl
  generalize (r, s') = o at h hR
  unfold M_St_valueOf at h
  refine ww_iload_n (pc := 0) g.1 d_St_valueOf_0 rfl (lv_at hl 1 rfl) ?_
  refine ww_sipush (pc := 1) g.1 (v := 256) d_St_valueOf_1 (by decide) ?_
  refine ww_icmp_ge (pc := 4) (tgt := 24) g.1 d_St_valueOf_4 (by decide) h (fun c h => ?_) (fun c h => ?_)
  · refine ww_aload_n (pc := 24) g.1 d_St_valueOf_24 rfl (lv_at hl 0 rfl) ?_
    refine ww_gR (pc := 25) g (k := 3) cl_St (pz rfl (by decide)) (by decide) (Or.inl kw_872) (f := 16515) (t := 101) rfl rfl rfl d_St_valueOf_25 ?_
    refine ww_gR (pc := 28) g (k := 4) cl_Ch (pz rfl (by decide)) (by decide) (Or.inl kw_899) (f := 12932) (t := 106) rfl rfl rfl d_St_valueOf_28 ?_
    refine ww_aload_n (pc := 31) g.1 d_St_valueOf_31 rfl (lv_at hl 0 rfl) ?_
    refine ww_gV (pc := 32) g (k := 6) cl_St (pz rfl (by decide)) (by decide) (Or.inl kw_869) (f := 16518) (t := 144) rfl rfl rfl d_St_valueOf_32 h fun v32 h => ?_
    refine ww_pr h fun pn32 h => ?_
    refine ww_nnP pn32 ?_
    refine ww_gI (pc := 35) g (k := 6) cl_Pr pn32 (by decide) (Or.inl kw_895) (f := 18438) rfl rfl d_St_valueOf_35 h fun v35 h => ?_
    refine ww_iload_n (pc := 38) g.1 d_St_valueOf_38 rfl (lv_at hl 1 rfl) ?_
    refine ww_iadd (pc := 39) g.1 d_St_valueOf_39 ?_
    refine ww_sipush (pc := 40) g.1 (v := 256) d_St_valueOf_40 (by decide) ?_
    refine ww_isub (pc := 43) g.1 d_St_valueOf_43 ?_
    refine ww_al (pc := 44) g (pz rfl (by decide)) rfl rfl d_St_valueOf_44 h fun v44 h => ?_
    exact ww_lretH (pc := 45) g h hR d_St_valueOf_45
  · refine ww_aload_n (pc := 7) g.1 d_St_valueOf_7 rfl (lv_at hl 0 rfl) ?_
    refine ww_gV (pc := 8) g (k := 4) cl_St (pz rfl (by decide)) (by decide) (Or.inl kw_865) (f := 16516) (t := 148) rfl rfl rfl d_St_valueOf_8 h fun v8 h => ?_
    refine ww_pr h fun pn8 h => ?_
    refine ww_nnP pn8 ?_
    refine ww_gR (pc := 11) g (k := 1) cl_Co pn8 (by decide) (Or.inl kw_900) (f := 18945) (t := 150) rfl rfl rfl d_St_valueOf_11 ?_
    refine ww_kd fun kd11 => ?_
    have pk11 : prs s 150 v8 := (kd11 _ pn8).2.1
    refine ww_aload_n (pc := 14) g.1 d_St_valueOf_14 rfl (lv_at hl 0 rfl) ?_
    refine ww_gI (pc := 15) g (k := 7) cl_St (pz rfl (by decide)) (by decide) (Or.inl kw_871) (f := 16519) rfl rfl d_St_valueOf_15 h fun v15 h => ?_
    refine ww_iload_n (pc := 18) g.1 d_St_valueOf_18 rfl (lv_at hl 1 rfl) ?_
    refine ww_iadd (pc := 19) g.1 d_St_valueOf_19 ?_
    refine ww_al (pc := 20) g pk11 rfl rfl d_St_valueOf_20 h fun v20 h => ?_
    refine ww_goto (pc := 21) (tgt := 45) g.1 d_St_valueOf_21 (by decide) ?_
    exact ww_lretH (pc := 45) g h hR d_St_valueOf_45

abbrev b_Ro_add : ByteArray := prog_9_method_3_code
def y_Ro_add : MethodName := ⟨R_Ro, "add", "(IJ)V"⟩
abbrev w_Ro_add : List Cond := .code y_Ro_add b_Ro_add 4 none :: wA
theorem k_Ro_add : Cond.code y_Ro_add b_Ro_add 4 none ∈ wA := kinm (show _ ∈ tables_1 from (List.mem_append_right _ (List.mem_append_right _ (List.mem_append_right _ (List.mem_append_right _ (List.mem_append_right _ (List.mem_append_right _ (List.mem_append_left _ (List.mem_of_getElem? (l := tables_1_7) (i := 66) (by decide +kernel)))))))))) (by decide +kernel)
theorem d_Ro_add_0 : decode b_Ro_add 0 = .ok (.aload_n 0, 1) := by decide +kernel
theorem d_Ro_add_1 : decode b_Ro_add 1 = .ok (.getfield 19, 3) := by decide +kernel
theorem d_Ro_add_4 : decode b_Ro_add 4 = .ok (.sipush 512, 3) := by decide +kernel
theorem d_Ro_add_7 : decode b_Ro_add 7 = .ok (.if_icmp .ge 34, 3) := by decide +kernel
theorem d_Ro_add_10 : decode b_Ro_add 10 = .ok (.aload_n 0, 1) := by decide +kernel
theorem d_Ro_add_11 : decode b_Ro_add 11 = .ok (.getfield 9, 3) := by decide +kernel
theorem d_Ro_add_14 : decode b_Ro_add 14 = .ok (.aload_n 0, 1) := by decide +kernel
theorem d_Ro_add_15 : decode b_Ro_add 15 = .ok (.getfield 19, 3) := by decide +kernel
theorem d_Ro_add_18 : decode b_Ro_add 18 = .ok (.iload_n 1, 1) := by decide +kernel
theorem d_Ro_add_19 : decode b_Ro_add 19 = .ok (.i2b, 1) := by decide +kernel
theorem d_Ro_add_20 : decode b_Ro_add 20 = .ok (.bastore, 1) := by decide +kernel
theorem d_Ro_add_21 : decode b_Ro_add 21 = .ok (.aload_n 0, 1) := by decide +kernel
theorem d_Ro_add_22 : decode b_Ro_add 22 = .ok (.getfield 15, 3) := by decide +kernel
theorem d_Ro_add_25 : decode b_Ro_add 25 = .ok (.aload_n 0, 1) := by decide +kernel
theorem d_Ro_add_26 : decode b_Ro_add 26 = .ok (.getfield 19, 3) := by decide +kernel
theorem d_Ro_add_29 : decode b_Ro_add 29 = .ok (.lload_n 2, 1) := by decide +kernel
theorem d_Ro_add_30 : decode b_Ro_add 30 = .ok (.lastore, 1) := by decide +kernel
theorem d_Ro_add_31 : decode b_Ro_add 31 = .ok (.aload_n 0, 1) := by decide +kernel
theorem d_Ro_add_32 : decode b_Ro_add 32 = .ok (.dup, 1) := by decide +kernel
theorem d_Ro_add_33 : decode b_Ro_add 33 = .ok (.getfield 19, 3) := by decide +kernel
theorem d_Ro_add_36 : decode b_Ro_add 36 = .ok (.iconst 1, 1) := by decide +kernel
theorem d_Ro_add_37 : decode b_Ro_add 37 = .ok (.iadd, 1) := by decide +kernel
theorem d_Ro_add_38 : decode b_Ro_add 38 = .ok (.putfield 19, 3) := by decide +kernel
theorem d_Ro_add_41 : decode b_Ro_add 41 = .ok (.return_, 1) := by decide +kernel
theorem kw_903 : Cond.fieldLink R_Ro 9 "LuaMachine$Row" "kinds" "[B" ∈ wA := kinm (show _ ∈ tables_1 from (List.mem_append_right _ (List.mem_append_left _ (List.mem_of_getElem? (l := tables_1_2) (i := 24) (by decide +kernel))))) (by decide +kernel)
theorem kw_904 : Cond.fieldLink R_Ro 15 "LuaMachine$Row" "values" "[J" ∈ wA := kinm (show _ ∈ tables_1 from (List.mem_append_right _ (List.mem_append_left _ (List.mem_of_getElem? (l := tables_1_2) (i := 30) (by decide +kernel))))) (by decide +kernel)
theorem kw_905 : Cond.instanceMethod y_Ro_add ∈ wA := kinm (show _ ∈ tables_1 from (List.mem_append_right _ (List.mem_append_right _ (List.mem_append_right _ (List.mem_append_right _ (List.mem_append_right _ (List.mem_append_right _ (List.mem_append_left _ (List.mem_of_getElem? (l := tables_1_7) (i := 64) (by decide +kernel)))))))))) (by decide +kernel)
theorem kw_906 : Cond.selects R_Ro y_Ro_add y_Ro_add ∈ wA := kinm (show _ ∈ tables_1 from (List.mem_append_right _ (List.mem_append_right _ (List.mem_append_right _ (List.mem_append_right _ (List.mem_append_right _ (List.mem_append_right _ (List.mem_append_left _ (List.mem_of_getElem? (l := tables_1_7) (i := 65) (by decide +kernel)))))))))) (by decide +kernel)
theorem cv_Ro_add : CV y_Ro_add b_Ro_add 4 none 2 := ⟨kw_905, kw_906, kw_721, k_Ro_add, by decide +kernel⟩
theorem ct_Ro_add {l : Launch} {P : PP} {q : PL} {s s' : S1} {l0r : Nat} {l0 : Int32} {l1 : Int32} {l2 : Int64} (hp0 : ROK l0r l0) {r : Unit} (h : M_Ro_add l0r l0 l1 l2 s = some (r, s')) : Ct l y_Ro_add b_Ro_add 4 none 0 0 P q s [.ref (q.1 l0r l0), .int l1, .long l2] none q s' := by
  refine ct_of (by decide) (Nat.le_of_ble_eq_true rfl) fun X ls eP el g hR hl => ?_
  subst eP
  have hR : Rt X q ((r, s') : Unit × S1).2 none := hR
  have hl : lv_has ls 4 [(0, .ref (q.1 l0r l0)), (1, .int l1), (2, .long l2)] := hl
  generalize (r, s') = o at h hR
  unfold M_Ro_add at h
  refine ww_aload_n (pc := 0) g.1 d_Ro_add_0 rfl (lv_at hl 0 rfl) ?_
  refine ww_gI (pc := 1) g (k := 2) (cl_Ro hp0) (rok_p hp0).1 (by rw [(rok_f hp0).1.2.2]; decide) (Or.inl kw_718) (f := (128 * l0r + 2)) rfl (rok_f hp0).2.2.2.1 d_Ro_add_1 h fun v1 h => ?_
  refine ww_sipush (pc := 4) g.1 (v := 512) d_Ro_add_4 (by decide) ?_
  refine ww_icmp_ge (pc := 7) (tgt := 41) g.1 d_Ro_add_7 (by decide) h (fun c h => ?_) (fun c h => ?_)
  · exact ww_vretH (pc := 41) g h hR d_Ro_add_41
  · refine ww_aload_n (pc := 10) g.1 d_Ro_add_10 rfl (lv_at hl 0 rfl) ?_
    refine ww_gR (pc := 11) g (k := 0) (cl_Ro hp0) (rok_p hp0).1 (by rw [(rok_f hp0).1.2.2]; decide) (Or.inl kw_903) (f := (128 * l0r + 0)) (t := l0r + 1) rfl (rok_f hp0).2.1.1 (rok_f hp0).2.1.2 d_Ro_add_11 ?_
    refine ww_aload_n (pc := 14) g.1 d_Ro_add_14 rfl (lv_at hl 0 rfl) ?_
    refine ww_gI (pc := 15) g (k := 2) (cl_Ro hp0) (rok_p hp0).1 (by rw [(rok_f hp0).1.2.2]; decide) (Or.inl kw_718) (f := (128 * l0r + 2)) rfl (rok_f hp0).2.2.2.1 d_Ro_add_15 h fun v15 h => ?_
    refine ww_iload_n (pc := 18) g.1 d_Ro_add_18 rfl (lv_at hl 1 rfl) ?_
    refine ww_i2b (pc := 19) g.1 (v := l1.toInt8.toInt32) d_Ro_add_19 rfl ?_
    refine ww_sb (pc := 20) g (rok_p hp0).2.1 (rok_f hp0).2.2.2.2.1 (rok_n hp0).1 d_Ro_add_20 h fun s hs h => ?_
    refine ww_aload_n (pc := 21) g.1 d_Ro_add_21 rfl (lv_at hl 0 rfl) ?_
    refine ww_gR (pc := 22) g (k := 1) (cl_Ro hp0) (rok_p hp0).1 (by rw [(rok_f hp0).1.2.2]; decide) (Or.inl kw_904) (f := (128 * l0r + 1)) (t := l0r + 2) rfl (rok_f hp0).2.2.1.1 (rok_f hp0).2.2.1.2 d_Ro_add_22 ?_
    refine ww_aload_n (pc := 25) g.1 d_Ro_add_25 rfl (lv_at hl 0 rfl) ?_
    refine ww_gI (pc := 26) g (k := 2) (cl_Ro hp0) (rok_p hp0).1 (by rw [(rok_f hp0).1.2.2]; decide) (Or.inl kw_718) (f := (128 * l0r + 2)) rfl (rok_f hp0).2.2.2.1 d_Ro_add_26 h fun v26 h => ?_
    refine ww_lload_n (pc := 29) g.1 d_Ro_add_29 rfl (lv_at hl 2 rfl) ?_
    refine ww_sl (pc := 30) g (rok_p hp0).2.2 (rok_f hp0).2.2.2.2.2 (rok_n hp0).2 d_Ro_add_30 h fun s hs h => ?_
    refine ww_aload_n (pc := 31) g.1 d_Ro_add_31 rfl (lv_at hl 0 rfl) ?_
    refine ww_dup (pc := 32) g.1 d_Ro_add_32 rfl ?_
    refine ww_gI (pc := 33) g (k := 2) (cl_Ro hp0) (rok_p hp0).1 (by rw [(rok_f hp0).1.2.2]; decide) (Or.inl kw_718) (f := (128 * l0r + 2)) rfl (rok_f hp0).2.2.2.1 d_Ro_add_33 h fun v33 h => ?_
    refine ww_iconst (pc := 36) g.1 (v := 1) d_Ro_add_36 (by decide) ?_
    refine ww_iadd (pc := 37) g.1 d_Ro_add_37 ?_
    refine ww_pI (pc := 38) g (k := 2) (cl_Ro hp0) (rok_p hp0).1 (by rw [(rok_f hp0).1.2.2]; decide) (Or.inl kw_718) rfl (f := (128 * l0r + 2)) rfl (rok_f hp0).2.2.2.1 rfl rfl d_Ro_add_38 h fun s hs h => ?_
    exact ww_vretH (pc := 41) g h hR d_Ro_add_41

abbrev b_St_set : ByteArray := prog_10_method_4_code
def y_St_set : MethodName := ⟨R_St, "set", "(IIJ)V"⟩
abbrev w_St_set : List Cond := .code y_St_set b_St_set 5 none :: wA
theorem k_St_set : Cond.code y_St_set b_St_set 5 none ∈ wA := kinm (show _ ∈ tables_1 from (List.mem_append_right _ (List.mem_append_right _ (List.mem_append_right _ (List.mem_append_right _ (List.mem_append_right _ (List.mem_append_right _ (List.mem_append_left _ (List.mem_of_getElem? (l := tables_1_7) (i := 76) (by decide +kernel)))))))))) (by decide +kernel)
theorem d_St_set_0 : decode b_St_set 0 = .ok (.aload_n 0, 1) := by decide +kernel
theorem d_St_set_1 : decode b_St_set 1 = .ok (.getfield 110, 3) := by decide +kernel
theorem d_St_set_4 : decode b_St_set 4 = .ok (.getfield 146, 3) := by decide +kernel
theorem d_St_set_7 : decode b_St_set 7 = .ok (.aload_n 0, 1) := by decide +kernel
theorem d_St_set_8 : decode b_St_set 8 = .ok (.getfield 125, 3) := by decide +kernel
theorem d_St_set_11 : decode b_St_set 11 = .ok (.iload_n 1, 1) := by decide +kernel
theorem d_St_set_12 : decode b_St_set 12 = .ok (.iadd, 1) := by decide +kernel
theorem d_St_set_13 : decode b_St_set 13 = .ok (.iload_n 2, 1) := by decide +kernel
theorem d_St_set_14 : decode b_St_set 14 = .ok (.i2b, 1) := by decide +kernel
theorem d_St_set_15 : decode b_St_set 15 = .ok (.bastore, 1) := by decide +kernel
theorem d_St_set_16 : decode b_St_set 16 = .ok (.aload_n 0, 1) := by decide +kernel
theorem d_St_set_17 : decode b_St_set 17 = .ok (.getfield 110, 3) := by decide +kernel
theorem d_St_set_20 : decode b_St_set 20 = .ok (.getfield 150, 3) := by decide +kernel
theorem d_St_set_23 : decode b_St_set 23 = .ok (.aload_n 0, 1) := by decide +kernel
theorem d_St_set_24 : decode b_St_set 24 = .ok (.getfield 125, 3) := by decide +kernel
theorem d_St_set_27 : decode b_St_set 27 = .ok (.iload_n 1, 1) := by decide +kernel
theorem d_St_set_28 : decode b_St_set 28 = .ok (.iadd, 1) := by decide +kernel
theorem d_St_set_29 : decode b_St_set 29 = .ok (.lload_n 3, 1) := by decide +kernel
theorem d_St_set_30 : decode b_St_set 30 = .ok (.lastore, 1) := by decide +kernel
theorem d_St_set_31 : decode b_St_set 31 = .ok (.return_, 1) := by decide +kernel
theorem kw_907 : Cond.instanceMethod y_St_set ∈ wA := kinm (show _ ∈ tables_1 from (List.mem_append_right _ (List.mem_append_right _ (List.mem_append_right _ (List.mem_append_right _ (List.mem_append_right _ (List.mem_append_right _ (List.mem_append_left _ (List.mem_of_getElem? (l := tables_1_7) (i := 75) (by decide +kernel)))))))))) (by decide +kernel)
theorem kw_908 : Cond.selects R_St y_St_set y_St_set ∈ wA := kinp 42 (by decide +kernel) (by decide +kernel)
theorem cv_St_set : CV y_St_set b_St_set 5 none 3 := ⟨kw_907, kw_908, kw_883, k_St_set, by decide +kernel⟩
theorem ct_St_set {l : Launch} {P : PP} {q : PL} {s s' : S1} {l1 : Int32} {l2 : Int32} {l3 : Int64} {r : Unit} (h : M_St_set l1 l2 l3 s = some (r, s')) : Ct l y_St_set b_St_set 5 none 0 0 P q s [.ref (q.1 129 0), .int l1, .int l2, .long l3] none q s' := by
  refine ct_of (by decide) (Nat.le_of_ble_eq_true rfl) fun X ls eP el g hR hl => ?_
  subst eP
  have hR : Rt X q ((r, s') : Unit × S1).2 none := hR
  have hl : lv_has ls 5 [(0, .ref (q.1 129 0)), (1, .int l1), (2, .int l2), (3, .long l3)] := hl
  generalize (r, s') = o at h hR
  unfold M_St_set at h
  refine ww_aload_n (pc := 0) g.1 d_St_set_0 rfl (lv_at hl 0 rfl) ?_
  refine ww_gV (pc := 1) g (k := 4) cl_St (pz rfl (by decide)) (by decide) (Or.inl kw_865) (f := 16516) (t := 148) rfl rfl rfl d_St_set_1 h fun v1 h => ?_
  refine ww_pr h fun pn1 h => ?_
  refine ww_nnP pn1 ?_
  refine ww_gR (pc := 4) g (k := 0) cl_Co pn1 (by decide) (Or.inl kw_896) (f := 18944) (t := 149) rfl rfl rfl d_St_set_4 ?_
  refine ww_kd fun kd4 => ?_
  have pk4 : prs s 149 v1 := (kd4 _ pn1).1
  refine ww_aload_n (pc := 7) g.1 d_St_set_7 rfl (lv_at hl 0 rfl) ?_
  refine ww_gI (pc := 8) g (k := 7) cl_St (pz rfl (by decide)) (by decide) (Or.inl kw_871) (f := 16519) rfl rfl d_St_set_8 h fun v8 h => ?_
  refine ww_iload_n (pc := 11) g.1 d_St_set_11 rfl (lv_at hl 1 rfl) ?_
  refine ww_iadd (pc := 12) g.1 d_St_set_12 ?_
  refine ww_iload_n (pc := 13) g.1 d_St_set_13 rfl (lv_at hl 2 rfl) ?_
  refine ww_i2b (pc := 14) g.1 (v := l2.toInt8.toInt32) d_St_set_14 rfl ?_
  refine ww_sb (pc := 15) g pk4 rfl rfl d_St_set_15 h fun s hs h => ?_
  refine ww_aload_n (pc := 16) g.1 d_St_set_16 rfl (lv_at hl 0 rfl) ?_
  refine ww_gV (pc := 17) g (k := 4) cl_St (pz rfl (by decide)) (by decide) (Or.inl kw_865) (f := 16516) (t := 148) rfl rfl rfl d_St_set_17 h fun v17 h => ?_
  refine ww_pr h fun pn17 h => ?_
  refine ww_nnP pn17 ?_
  refine ww_gR (pc := 20) g (k := 1) cl_Co pn17 (by decide) (Or.inl kw_900) (f := 18945) (t := 150) rfl rfl rfl d_St_set_20 ?_
  refine ww_kd fun kd20 => ?_
  have pk20 : prs s 150 v17 := (kd20 _ pn17).2.1
  refine ww_aload_n (pc := 23) g.1 d_St_set_23 rfl (lv_at hl 0 rfl) ?_
  refine ww_gI (pc := 24) g (k := 7) cl_St (pz rfl (by decide)) (by decide) (Or.inl kw_871) (f := 16519) rfl rfl d_St_set_24 h fun v24 h => ?_
  refine ww_iload_n (pc := 27) g.1 d_St_set_27 rfl (lv_at hl 1 rfl) ?_
  refine ww_iadd (pc := 28) g.1 d_St_set_28 ?_
  refine ww_lload_n (pc := 29) g.1 d_St_set_29 rfl (lv_at hl 3 rfl) ?_
  refine ww_sl (pc := 30) g pk20 rfl rfl d_St_set_30 h fun s hs h => ?_
  exact ww_vretH (pc := 31) g h hR d_St_set_31

abbrev b_He_setVariable : ByteArray := prog_6_method_18_code
def y_He_setVariable : MethodName := ⟨R_He, "setVariable", "(IIJ)V"⟩
abbrev w_He_setVariable : List Cond := .code y_He_setVariable b_He_setVariable 6 none :: wA
theorem k_He_setVariable : Cond.code y_He_setVariable b_He_setVariable 6 none ∈ wA := kinm (show _ ∈ tables_1 from (List.mem_append_right _ (List.mem_append_right _ (List.mem_append_right _ (List.mem_append_right _ (List.mem_append_right _ (List.mem_append_right _ (List.mem_append_left _ (List.mem_of_getElem? (l := tables_1_7) (i := 102) (by decide +kernel)))))))))) (by decide +kernel)
theorem d_He_setVariable_0 : decode b_He_setVariable 0 = .ok (.aload_n 0, 1) := by decide +kernel
theorem d_He_setVariable_1 : decode b_He_setVariable 1 = .ok (.getfield 11, 3) := by decide +kernel
theorem d_He_setVariable_4 : decode b_He_setVariable 4 = .ok (.iload_n 1, 1) := by decide +kernel
theorem d_He_setVariable_5 : decode b_He_setVariable 5 = .ok (.aaload, 1) := by decide +kernel
theorem d_He_setVariable_6 : decode b_He_setVariable 6 = .ok (.astore 5, 2) := by decide +kernel
theorem d_He_setVariable_8 : decode b_He_setVariable 8 = .ok (.aload 5, 2) := by decide +kernel
theorem d_He_setVariable_10 : decode b_He_setVariable 10 = .ok (.getfield 97, 3) := by decide +kernel
theorem d_He_setVariable_13 : decode b_He_setVariable 13 = .ok (.ifCond .ge 18, 3) := by decide +kernel
theorem d_He_setVariable_16 : decode b_He_setVariable 16 = .ok (.aload 5, 2) := by decide +kernel
theorem d_He_setVariable_18 : decode b_He_setVariable 18 = .ok (.iload_n 2, 1) := by decide +kernel
theorem d_He_setVariable_19 : decode b_He_setVariable 19 = .ok (.putfield 100, 3) := by decide +kernel
theorem d_He_setVariable_22 : decode b_He_setVariable 22 = .ok (.aload 5, 2) := by decide +kernel
theorem d_He_setVariable_24 : decode b_He_setVariable 24 = .ok (.lload_n 3, 1) := by decide +kernel
theorem d_He_setVariable_25 : decode b_He_setVariable 25 = .ok (.putfield 103, 3) := by decide +kernel
theorem d_He_setVariable_28 : decode b_He_setVariable 28 = .ok (.goto 44, 3) := by decide +kernel
theorem d_He_setVariable_31 : decode b_He_setVariable 31 = .ok (.aload_n 0, 1) := by decide +kernel
theorem d_He_setVariable_32 : decode b_He_setVariable 32 = .ok (.getfield 29, 3) := by decide +kernel
theorem d_He_setVariable_35 : decode b_He_setVariable 35 = .ok (.aload 5, 2) := by decide +kernel
theorem d_He_setVariable_37 : decode b_He_setVariable 37 = .ok (.getfield 97, 3) := by decide +kernel
theorem d_He_setVariable_40 : decode b_He_setVariable 40 = .ok (.aaload, 1) := by decide +kernel
theorem d_He_setVariable_41 : decode b_He_setVariable 41 = .ok (.getfield 178, 3) := by decide +kernel
theorem d_He_setVariable_44 : decode b_He_setVariable 44 = .ok (.aload 5, 2) := by decide +kernel
theorem d_He_setVariable_46 : decode b_He_setVariable 46 = .ok (.getfield 119, 3) := by decide +kernel
theorem d_He_setVariable_49 : decode b_He_setVariable 49 = .ok (.iload_n 2, 1) := by decide +kernel
theorem d_He_setVariable_50 : decode b_He_setVariable 50 = .ok (.i2b, 1) := by decide +kernel
theorem d_He_setVariable_51 : decode b_He_setVariable 51 = .ok (.bastore, 1) := by decide +kernel
theorem d_He_setVariable_52 : decode b_He_setVariable 52 = .ok (.aload_n 0, 1) := by decide +kernel
theorem d_He_setVariable_53 : decode b_He_setVariable 53 = .ok (.getfield 29, 3) := by decide +kernel
theorem d_He_setVariable_56 : decode b_He_setVariable 56 = .ok (.aload 5, 2) := by decide +kernel
theorem d_He_setVariable_58 : decode b_He_setVariable 58 = .ok (.getfield 97, 3) := by decide +kernel
theorem d_He_setVariable_61 : decode b_He_setVariable 61 = .ok (.aaload, 1) := by decide +kernel
theorem d_He_setVariable_62 : decode b_He_setVariable 62 = .ok (.getfield 181, 3) := by decide +kernel
theorem d_He_setVariable_65 : decode b_He_setVariable 65 = .ok (.aload 5, 2) := by decide +kernel
theorem d_He_setVariable_67 : decode b_He_setVariable 67 = .ok (.getfield 119, 3) := by decide +kernel
theorem d_He_setVariable_70 : decode b_He_setVariable 70 = .ok (.lload_n 3, 1) := by decide +kernel
theorem d_He_setVariable_71 : decode b_He_setVariable 71 = .ok (.lastore, 1) := by decide +kernel
theorem d_He_setVariable_72 : decode b_He_setVariable 72 = .ok (.return_, 1) := by decide +kernel
theorem kw_909 : Cond.instanceMethod y_He_setVariable ∈ wA := kinm (show _ ∈ tables_1 from (List.mem_append_right _ (List.mem_append_right _ (List.mem_append_right _ (List.mem_append_right _ (List.mem_append_right _ (List.mem_append_right _ (List.mem_append_left _ (List.mem_of_getElem? (l := tables_1_7) (i := 100) (by decide +kernel)))))))))) (by decide +kernel)
theorem kw_910 : Cond.selects R_He y_He_setVariable y_He_setVariable ∈ wA := kinm (show _ ∈ tables_1 from (List.mem_append_right _ (List.mem_append_right _ (List.mem_append_right _ (List.mem_append_right _ (List.mem_append_right _ (List.mem_append_right _ (List.mem_append_left _ (List.mem_of_getElem? (l := tables_1_7) (i := 101) (by decide +kernel)))))))))) (by decide +kernel)
theorem cv_He_setVariable : CV y_He_setVariable b_He_setVariable 6 none 3 := ⟨kw_909, kw_910, kw_712, k_He_setVariable, by decide +kernel⟩
theorem ct_He_setVariable {l : Launch} {P : PP} {q : PL} {s s' : S1} {l1 : Int32} {l2 : Int32} {l3 : Int64} {r : Unit} (h : M_He_setVariable l1 l2 l3 s = some (r, s')) : Ct l y_He_setVariable b_He_setVariable 6 none 0 0 P q s [.ref (q.1 111 0), .int l1, .int l2, .long l3] none q s' := by
  refine ct_of (by decide) (Nat.le_of_ble_eq_true rfl) fun X ls eP el g hR hl => ?_
  subst eP
  have hR : Rt X q ((r, s') : Unit × S1).2 none := hR
  have hl : lv_has ls 6 [(0, .ref (q.1 111 0)), (1, .int l1), (2, .int l2), (3, .long l3)] := hl
  generalize (r, s') = o at h hR
  unfold M_He_setVariable at h
  refine ww_aload_n (pc := 0) g.1 d_He_setVariable_0 rfl (lv_at hl 0 rfl) ?_
  refine ww_gR (pc := 1) g (k := 0) cl_He (pz rfl (by decide)) (by decide) (Or.inl kw_725) (f := 14208) (t := 112) rfl rfl rfl d_He_setVariable_1 ?_
  refine ww_iload_n (pc := 4) g.1 d_He_setVariable_4 rfl (lv_at hl 1 rfl) ?_
  refine ww_a8 (pc := 5) g (t := 145) (n := 4000) (pz rfl (by decide)) rfl rfl rfl rfl d_He_setVariable_5 h fun pa5 h => ?_
  refine ww_astore (pc := 6) (i := 5) g.1 (lv' := [(5, .ref (q.1 145 l1)), (0, .ref (q.1 111 0)), (1, .int l1), (2, .int l2), (3, .long l3)]) d_He_setVariable_6 hl (by decide) rfl fun ls hl => ?_
  refine ww_aload (pc := 8) g.1 d_He_setVariable_8 (lv_at hl 0 rfl) ?_
  refine ww_gI (pc := 10) g (k := 4) cl_Tg pa5 (by decide) (Or.inl kw_759) (f := 18564) rfl rfl d_He_setVariable_10 h fun v10 h => ?_
  refine ww_if_ge (pc := 13) (tgt := 31) g.1 d_He_setVariable_13 (by decide) h (fun c h => ?_) (fun c h => ?_)
  · refine ww_aload_n (pc := 31) g.1 d_He_setVariable_31 rfl (lv_at hl 1 rfl) ?_
    refine ww_gR (pc := 32) g (k := 6) cl_He (pz rfl (by decide)) (by decide) (Or.inl kw_708) (f := 14214) (t := 116) rfl rfl rfl d_He_setVariable_32 ?_
    refine ww_aload (pc := 35) g.1 d_He_setVariable_35 (lv_at hl 0 rfl) ?_
    refine ww_gI (pc := 37) g (k := 4) cl_Tg pa5 (by decide) (Or.inl kw_759) (f := 18564) rfl rfl d_He_setVariable_37 h fun v37 h => ?_
    refine ww_a8 (pc := 40) g (t := 148) (n := 32) (pz rfl (by decide)) rfl rfl rfl rfl d_He_setVariable_40 h fun pa40 h => ?_
    refine ww_gR (pc := 41) g (k := 0) cl_Co pa40 (by decide) (Or.inl kw_736) (f := 18944) (t := 149) rfl rfl rfl d_He_setVariable_41 ?_
    refine ww_kd fun kd41 => ?_
    have pk41 : prs s 149 v37 := (kd41 _ pa40).1
    refine ww_aload (pc := 44) g.1 d_He_setVariable_44 (lv_at hl 0 rfl) ?_
    refine ww_gI (pc := 46) g (k := 6) cl_Tg pa5 (by decide) (Or.inl kw_762) (f := 18566) rfl rfl d_He_setVariable_46 h fun v46 h => ?_
    refine ww_iload_n (pc := 49) g.1 d_He_setVariable_49 rfl (lv_at hl 3 rfl) ?_
    refine ww_i2b (pc := 50) g.1 (v := l2.toInt8.toInt32) d_He_setVariable_50 rfl ?_
    refine ww_sb (pc := 51) g pk41 rfl rfl d_He_setVariable_51 h fun s hs h => ?_
    have pa5 : prs s 145 l1 := hs ▸ pa5
    refine ww_aload_n (pc := 52) g.1 d_He_setVariable_52 rfl (lv_at hl 1 rfl) ?_
    refine ww_gR (pc := 53) g (k := 6) cl_He (pz rfl (by decide)) (by decide) (Or.inl kw_708) (f := 14214) (t := 116) rfl rfl rfl d_He_setVariable_53 ?_
    refine ww_aload (pc := 56) g.1 d_He_setVariable_56 (lv_at hl 0 rfl) ?_
    refine ww_gI (pc := 58) g (k := 4) cl_Tg pa5 (by decide) (Or.inl kw_759) (f := 18564) rfl rfl d_He_setVariable_58 h fun v58 h => ?_
    refine ww_a8 (pc := 61) g (t := 148) (n := 32) (pz rfl (by decide)) rfl rfl rfl rfl d_He_setVariable_61 h fun pa61 h => ?_
    refine ww_gR (pc := 62) g (k := 1) cl_Co pa61 (by decide) (Or.inl kw_737) (f := 18945) (t := 150) rfl rfl rfl d_He_setVariable_62 ?_
    refine ww_kd fun kd62 => ?_
    have pk62 : prs s 150 v58 := (kd62 _ pa61).2.1
    refine ww_aload (pc := 65) g.1 d_He_setVariable_65 (lv_at hl 0 rfl) ?_
    refine ww_gI (pc := 67) g (k := 6) cl_Tg pa5 (by decide) (Or.inl kw_762) (f := 18566) rfl rfl d_He_setVariable_67 h fun v67 h => ?_
    refine ww_lload_n (pc := 70) g.1 d_He_setVariable_70 rfl (lv_at hl 4 rfl) ?_
    refine ww_sl (pc := 71) g pk62 rfl rfl d_He_setVariable_71 h fun s hs h => ?_
    have pa5 : prs s 145 l1 := hs ▸ pa5
    exact ww_vretH (pc := 72) g h hR d_He_setVariable_72
  · refine ww_aload (pc := 16) g.1 d_He_setVariable_16 (lv_at hl 0 rfl) ?_
    refine ww_iload_n (pc := 18) g.1 d_He_setVariable_18 rfl (lv_at hl 3 rfl) ?_
    refine ww_pI (pc := 19) g (k := 7) cl_Tg pa5 (by decide) (Or.inl kw_763) rfl (f := 18567) rfl rfl rfl rfl d_He_setVariable_19 h fun s hs h => ?_
    have pa5 : prs s 145 l1 := prs_kI (r := 145) (k := 7) (by decide) hs pa5
    refine ww_aload (pc := 22) g.1 d_He_setVariable_22 (lv_at hl 0 rfl) ?_
    refine ww_lload_n (pc := 24) g.1 d_He_setVariable_24 rfl (lv_at hl 4 rfl) ?_
    refine ww_pL (pc := 25) g (k := 8) cl_Tg pa5 (by decide) (Or.inl kw_764) rfl (f := 18568) rfl rfl rfl rfl d_He_setVariable_25 h fun s hs h => ?_
    have pa5 : prs s 145 l1 := hs ▸ pa5
    refine ww_goto (pc := 28) (tgt := 72) g.1 d_He_setVariable_28 (by decide) ?_
    exact ww_vretH (pc := 72) g h hR d_He_setVariable_72

abbrev b_St_shifted : ByteArray := prog_10_method_16_code
def y_St_shifted : MethodName := ⟨R_St, "shifted", "(JJ)J"⟩
abbrev w_St_shifted : List Cond := .code y_St_shifted b_St_shifted 4 (some .long) :: wA
theorem k_St_shifted : Cond.code y_St_shifted b_St_shifted 4 (some .long) ∈ wA := kinm (show _ ∈ tables_1 from (List.mem_append_right _ (List.mem_append_right _ (List.mem_append_right _ (List.mem_append_right _ (List.mem_append_right _ (List.mem_append_right _ (List.mem_append_left _ (List.mem_of_getElem? (l := tables_1_7) (i := 123) (by decide +kernel)))))))))) (by decide +kernel)
theorem d_St_shifted_0 : decode b_St_shifted 0 = .ok (.lload_n 2, 1) := by decide +kernel
theorem d_St_shifted_1 : decode b_St_shifted 1 = .ok (.ldc2_w 244, 3) := by decide +kernel
theorem d_St_shifted_4 : decode b_St_shifted 4 = .ok (.lcmp, 1) := by decide +kernel
theorem d_St_shifted_5 : decode b_St_shifted 5 = .ok (.ifCond .le 11, 3) := by decide +kernel
theorem d_St_shifted_8 : decode b_St_shifted 8 = .ok (.lload_n 2, 1) := by decide +kernel
theorem d_St_shifted_9 : decode b_St_shifted 9 = .ok (.ldc2_w 246, 3) := by decide +kernel
theorem d_St_shifted_12 : decode b_St_shifted 12 = .ok (.lcmp, 1) := by decide +kernel
theorem d_St_shifted_13 : decode b_St_shifted 13 = .ok (.ifCond .lt 5, 3) := by decide +kernel
theorem d_St_shifted_16 : decode b_St_shifted 16 = .ok (.lconst 0, 1) := by decide +kernel
theorem d_St_shifted_17 : decode b_St_shifted 17 = .ok (.lreturn, 1) := by decide +kernel
theorem d_St_shifted_18 : decode b_St_shifted 18 = .ok (.lload_n 2, 1) := by decide +kernel
theorem d_St_shifted_19 : decode b_St_shifted 19 = .ok (.lconst 0, 1) := by decide +kernel
theorem d_St_shifted_20 : decode b_St_shifted 20 = .ok (.lcmp, 1) := by decide +kernel
theorem d_St_shifted_21 : decode b_St_shifted 21 = .ok (.ifCond .lt 10, 3) := by decide +kernel
theorem d_St_shifted_24 : decode b_St_shifted 24 = .ok (.lload_n 0, 1) := by decide +kernel
theorem d_St_shifted_25 : decode b_St_shifted 25 = .ok (.lload_n 2, 1) := by decide +kernel
theorem d_St_shifted_26 : decode b_St_shifted 26 = .ok (.l2i, 1) := by decide +kernel
theorem d_St_shifted_27 : decode b_St_shifted 27 = .ok (.lshl, 1) := by decide +kernel
theorem d_St_shifted_28 : decode b_St_shifted 28 = .ok (.goto 8, 3) := by decide +kernel
theorem d_St_shifted_31 : decode b_St_shifted 31 = .ok (.lload_n 0, 1) := by decide +kernel
theorem d_St_shifted_32 : decode b_St_shifted 32 = .ok (.lload_n 2, 1) := by decide +kernel
theorem d_St_shifted_33 : decode b_St_shifted 33 = .ok (.lneg, 1) := by decide +kernel
theorem d_St_shifted_34 : decode b_St_shifted 34 = .ok (.l2i, 1) := by decide +kernel
theorem d_St_shifted_35 : decode b_St_shifted 35 = .ok (.lushr, 1) := by decide +kernel
theorem d_St_shifted_36 : decode b_St_shifted 36 = .ok (.lreturn, 1) := by decide +kernel
theorem kw_911 : Cond.constantLong R_St 244 (-64) ∈ wA := kinm (show _ ∈ tables_1 from (List.mem_append_right _ (List.mem_append_right _ (List.mem_append_right _ (List.mem_append_right _ (List.mem_append_right _ (List.mem_append_right _ (List.mem_append_left _ (List.mem_of_getElem? (l := tables_1_7) (i := 124) (by decide +kernel)))))))))) (by decide +kernel)
theorem kw_912 : Cond.constantLong R_St 246 64 ∈ wA := kinm (show _ ∈ tables_1 from (List.mem_append_right _ (List.mem_append_right _ (List.mem_append_right _ (List.mem_append_right _ (List.mem_append_right _ (List.mem_append_right _ (List.mem_append_left _ (List.mem_of_getElem? (l := tables_1_7) (i := 125) (by decide +kernel)))))))))) (by decide +kernel)
theorem kw_913 : Cond.static y_St_shifted ∈ wA := kinm (show _ ∈ tables_1 from (List.mem_append_right _ (List.mem_append_right _ (List.mem_append_right _ (List.mem_append_right _ (List.mem_append_right _ (List.mem_append_right _ (List.mem_append_left _ (List.mem_of_getElem? (l := tables_1_7) (i := 122) (by decide +kernel)))))))))) (by decide +kernel)
theorem cs_St_shifted : CS y_St_shifted b_St_shifted 4 (some .long) 2 := ⟨kw_913, kw_883, k_St_shifted, by decide +kernel⟩
theorem ct_St_shifted {l : Launch} {P : PP} {q : PL} {s s' : S1} {l0 : Int64} {l2 : Int64} {r : Int64} (h : M_St_shifted l0 l2 s = some (r, s')) : Ct l y_St_shifted b_St_shifted 4 (some .long) 0 0 P q s [.long l0, .long l2] (some (.long r)) q s' := by
  refine ct_of (by decide) (Nat.le_of_ble_eq_true rfl) fun X ls eP el g hR hl => ?_
  subst eP
  have hR : Rt X q ((r, s') : Int64 × S1).2 (some (.long ((r, s') : Int64 × S1).1)) := hR
  have hl : lv_has ls 4 [(0, .long l0), (2, .long l2)] := hl
  generalize (r, s') = o at h hR
  unfold M_St_shifted at h
  refine ww_lload_n (pc := 0) g.1 d_St_shifted_0 rfl (lv_at hl 1 rfl) ?_
  refine ww_ldc2 (pc := 1) g (v := (-64)) kw_911 d_St_shifted_1 ?_
  refine ww_lcmp (pc := 4) g.1 d_St_shifted_4 ?_
  refine ww_if_le (pc := 5) (tgt := 16) g.1 d_St_shifted_5 (by decide) h (fun c h => ?_) (fun c h => ?_)
  · refine ww_lconst (pc := 16) g.1 (v := 0) d_St_shifted_16 (by decide) ?_
    exact ww_lretH (pc := 17) g h hR d_St_shifted_17
  · refine ww_lload_n (pc := 8) g.1 d_St_shifted_8 rfl (lv_at hl 1 rfl) ?_
    refine ww_ldc2 (pc := 9) g (v := 64) kw_912 d_St_shifted_9 ?_
    refine ww_lcmp (pc := 12) g.1 d_St_shifted_12 ?_
    refine ww_if_lt (pc := 13) (tgt := 18) g.1 d_St_shifted_13 (by decide) h (fun c h => ?_) (fun c h => ?_)
    · refine ww_lload_n (pc := 18) g.1 d_St_shifted_18 rfl (lv_at hl 1 rfl) ?_
      refine ww_lconst (pc := 19) g.1 (v := 0) d_St_shifted_19 (by decide) ?_
      refine ww_lcmp (pc := 20) g.1 d_St_shifted_20 ?_
      refine ww_if_lt (pc := 21) (tgt := 31) g.1 d_St_shifted_21 (by decide) h (fun c h => ?_) (fun c h => ?_)
      · refine ww_lload_n (pc := 31) g.1 d_St_shifted_31 rfl (lv_at hl 0 rfl) ?_
        refine ww_lload_n (pc := 32) g.1 d_St_shifted_32 rfl (lv_at hl 1 rfl) ?_
        refine ww_lneg (pc := 33) g.1 d_St_shifted_33 ?_
        refine ww_l2i (pc := 34) g.1 (v := (-l2).toInt32) d_St_shifted_34 rfl ?_
        refine ww_lushr (pc := 35) g.1 (v := lushr l0 ((-l2).toInt32)) d_St_shifted_35 rfl ?_
        exact ww_lretH (pc := 36) g h hR d_St_shifted_36
      · refine ww_lload_n (pc := 24) g.1 d_St_shifted_24 rfl (lv_at hl 0 rfl) ?_
        refine ww_lload_n (pc := 25) g.1 d_St_shifted_25 rfl (lv_at hl 1 rfl) ?_
        refine ww_l2i (pc := 26) g.1 (v := l2.toInt32) d_St_shifted_26 rfl ?_
        refine ww_lshl (pc := 27) g.1 (v := l0 <<< (l2.toInt32.toInt64 &&& 63)) d_St_shifted_27 rfl ?_
        refine ww_goto (pc := 28) (tgt := 36) g.1 d_St_shifted_28 (by decide) ?_
        exact ww_lretH (pc := 36) g h hR d_St_shifted_36
    · refine ww_lconst (pc := 16) g.1 (v := 0) d_St_shifted_16 (by decide) ?_
      exact ww_lretH (pc := 17) g h hR d_St_shifted_17

abbrev b_St_isTrue : ByteArray := prog_10_method_7_code
def y_St_isTrue : MethodName := ⟨R_St, "isTrue", "(I)Z"⟩
abbrev w_St_isTrue : List Cond := .code y_St_isTrue b_St_isTrue 2 (some .boolean) :: wA
theorem k_St_isTrue : Cond.code y_St_isTrue b_St_isTrue 2 (some .boolean) ∈ wA := kinm (show _ ∈ tables_1 from (List.mem_append_right _ (List.mem_append_right _ (List.mem_append_right _ (List.mem_append_right _ (List.mem_append_right _ (List.mem_append_right _ (List.mem_append_left _ (List.mem_of_getElem? (l := tables_1_7) (i := 133) (by decide +kernel)))))))))) (by decide +kernel)
theorem d_St_isTrue_0 : decode b_St_isTrue 0 = .ok (.aload_n 0, 1) := by decide +kernel
theorem d_St_isTrue_1 : decode b_St_isTrue 1 = .ok (.iload_n 1, 1) := by decide +kernel
theorem d_St_isTrue_2 : decode b_St_isTrue 2 = .ok (.invokevirtual 77, 3) := by decide +kernel
theorem d_St_isTrue_5 : decode b_St_isTrue 5 = .ok (.iconst 1, 1) := by decide +kernel
theorem d_St_isTrue_6 : decode b_St_isTrue 6 = .ok (.if_icmp .le 7, 3) := by decide +kernel
theorem d_St_isTrue_9 : decode b_St_isTrue 9 = .ok (.iconst 1, 1) := by decide +kernel
theorem d_St_isTrue_10 : decode b_St_isTrue 10 = .ok (.goto 4, 3) := by decide +kernel
theorem d_St_isTrue_13 : decode b_St_isTrue 13 = .ok (.iconst 0, 1) := by decide +kernel
theorem d_St_isTrue_14 : decode b_St_isTrue 14 = .ok (.ireturn, 1) := by decide +kernel
theorem kw_914 : Cond.methodLink R_St 77 y_St_kindOf ∈ wA := kinm (show _ ∈ tables_1 from (List.mem_append_right _ (List.mem_append_right _ (List.mem_append_right _ (List.mem_append_right _ (List.mem_append_right _ (List.mem_append_right _ (List.mem_append_left _ (List.mem_of_getElem? (l := tables_1_7) (i := 45) (by decide +kernel)))))))))) (by decide +kernel)
theorem kw_915 : Cond.instanceMethod y_St_isTrue ∈ wA := kinm (show _ ∈ tables_1 from (List.mem_append_right _ (List.mem_append_right _ (List.mem_append_right _ (List.mem_append_right _ (List.mem_append_right _ (List.mem_append_right _ (List.mem_append_left _ (List.mem_of_getElem? (l := tables_1_7) (i := 132) (by decide +kernel)))))))))) (by decide +kernel)
theorem kw_916 : Cond.selects R_St y_St_isTrue y_St_isTrue ∈ wA := kinp 51 (by decide +kernel) (by decide +kernel)
theorem cv_St_isTrue : CV y_St_isTrue b_St_isTrue 2 (some .boolean) 1 := ⟨kw_915, kw_916, kw_883, k_St_isTrue, by decide +kernel⟩
theorem ct_St_isTrue {l : Launch} {P : PP} {q : PL} {s s' : S1} {l1 : Int32} {r : Int32} (h : M_St_isTrue l1 s = some (r, s')) : Ct l y_St_isTrue b_St_isTrue 2 (some .boolean) 1 21 P q s [.ref (q.1 129 0), .int l1] (some (.int r)) q s' := by
  refine ct_of (by decide) (Nat.le_of_ble_eq_true rfl) fun X ls eP el g hR hl => ?_
  subst eP
  have hR : Rt X q ((r, s') : Int32 × S1).2 (some (.int ((r, s') : Int32 × S1).1)) := hR
  have hl : lv_has ls 2 [(0, .ref (q.1 129 0)), (1, .int l1)] := hl
  generalize (r, s') = o at h hR
  unfold M_St_isTrue at h
  refine ww_aload_n (pc := 0) g.1 d_St_isTrue_0 rfl (lv_at hl 0 rfl) ?_
  refine ww_iload_n (pc := 1) g.1 d_St_isTrue_1 rfl (lv_at hl 1 rfl) ?_
  obtain ⟨v2, s, hc2, h⟩ := oB_of h
  refine ww_callV (pc := 2) (rest := []) g cv_St_kindOf (Or.inl kw_914) cl_St (pz rfl (by decide)) (ct_St_kindOf hc2) ⟨by decide, by decide⟩ rfl hl.1 (Nat.le_of_ble_eq_true rfl) d_St_isTrue_2 rfl (?_)
  refine ww_st (st' := [.int v2]) rfl ?_
  refine ww_iconst (pc := 5) g.1 (v := 1) d_St_isTrue_5 (by decide) ?_
  refine ww_icmp_le (pc := 6) (tgt := 13) g.1 d_St_isTrue_6 (by decide) h (fun c h => ?_) (fun c h => ?_)
  · refine ww_iconst (pc := 13) g.1 (v := 0) d_St_isTrue_13 (by decide) ?_
    exact ww_zretH (pc := 14) g h hR (Or.inl rfl) d_St_isTrue_14
  · refine ww_iconst (pc := 9) g.1 (v := 1) d_St_isTrue_9 (by decide) ?_
    refine ww_goto (pc := 10) (tgt := 14) g.1 d_St_isTrue_10 (by decide) ?_
    exact ww_zretH (pc := 14) g h hR (Or.inr rfl) d_St_isTrue_14

abbrev b_St_jump : ByteArray := prog_10_method_9_code
def y_St_jump : MethodName := ⟨R_St, "jump", "()V"⟩
abbrev w_St_jump : List Cond := .code y_St_jump b_St_jump 1 none :: wA
theorem k_St_jump : Cond.code y_St_jump b_St_jump 1 none ∈ wA := kinm (show _ ∈ tables_1 from (List.mem_append_right _ (List.mem_append_right _ (List.mem_append_right _ (List.mem_append_right _ (List.mem_append_right _ (List.mem_append_right _ (List.mem_append_left _ (List.mem_of_getElem? (l := tables_1_7) (i := 151) (by decide +kernel)))))))))) (by decide +kernel)
theorem d_St_jump_0 : decode b_St_jump 0 = .ok (.aload_n 0, 1) := by decide +kernel
theorem d_St_jump_1 : decode b_St_jump 1 = .ok (.getfield 113, 3) := by decide +kernel
theorem d_St_jump_4 : decode b_St_jump 4 = .ok (.dup, 1) := by decide +kernel
theorem d_St_jump_5 : decode b_St_jump 5 = .ok (.getfield 46, 3) := by decide +kernel
theorem d_St_jump_8 : decode b_St_jump 8 = .ok (.aload_n 0, 1) := by decide +kernel
theorem d_St_jump_9 : decode b_St_jump 9 = .ok (.getfield 143, 3) := by decide +kernel
theorem d_St_jump_12 : decode b_St_jump 12 = .ok (.ldc 175, 2) := by decide +kernel
theorem d_St_jump_14 : decode b_St_jump 14 = .ok (.isub, 1) := by decide +kernel
theorem d_St_jump_15 : decode b_St_jump 15 = .ok (.iadd, 1) := by decide +kernel
theorem d_St_jump_16 : decode b_St_jump 16 = .ok (.putfield 46, 3) := by decide +kernel
theorem d_St_jump_19 : decode b_St_jump 19 = .ok (.return_, 1) := by decide +kernel
theorem kw_917 : Cond.constant R_St 175 131071 ∈ wA := kinm (show _ ∈ tables_1 from (List.mem_append_right _ (List.mem_append_right _ (List.mem_append_right _ (List.mem_append_right _ (List.mem_append_right _ (List.mem_append_right _ (List.mem_append_left _ (List.mem_of_getElem? (l := tables_1_7) (i := 152) (by decide +kernel)))))))))) (by decide +kernel)
theorem kw_918 : Cond.instanceMethod y_St_jump ∈ wA := kinm (show _ ∈ tables_1 from (List.mem_append_right _ (List.mem_append_right _ (List.mem_append_right _ (List.mem_append_right _ (List.mem_append_right _ (List.mem_append_right _ (List.mem_append_left _ (List.mem_of_getElem? (l := tables_1_7) (i := 150) (by decide +kernel)))))))))) (by decide +kernel)
theorem kw_919 : Cond.selects R_St y_St_jump y_St_jump ∈ wA := kinp 54 (by decide +kernel) (by decide +kernel)
theorem cv_St_jump : CV y_St_jump b_St_jump 1 none 0 := ⟨kw_918, kw_919, kw_883, k_St_jump, by decide +kernel⟩
theorem ct_St_jump {l : Launch} {P : PP} {q : PL} {s s' : S1}  {r : Unit} (h : M_St_jump s = some (r, s')) : Ct l y_St_jump b_St_jump 1 none 0 0 P q s [.ref (q.1 129 0)] none q s' := by
  refine ct_of (by decide) (Nat.le_of_ble_eq_true rfl) fun X ls eP el g hR hl => ?_
  subst eP
  have hR : Rt X q ((r, s') : Unit × S1).2 none := hR
  have hl : lv_has ls 1 [(0, .ref (q.1 129 0))] := hl
  generalize (r, s') = o at h hR
  unfold M_St_jump at h
  refine ww_aload_n (pc := 0) g.1 d_St_jump_0 rfl (lv_at hl 0 rfl) ?_
  refine ww_gV (pc := 1) g (k := 5) cl_St (pz rfl (by decide)) (by decide) (Or.inl kw_867) (f := 16517) (t := 152) rfl rfl rfl d_St_jump_1 h fun v1 h => ?_
  refine ww_pr h fun pn1 h => ?_
  refine ww_nnP pn1 ?_
  refine ww_dup (pc := 4) g.1 d_St_jump_4 rfl ?_
  refine ww_gI (pc := 5) g (k := 5) cl_Fm pn1 (by decide) (Or.inl kw_875) (f := 19461) rfl rfl d_St_jump_5 h fun v5 h => ?_
  refine ww_aload_n (pc := 8) g.1 d_St_jump_8 rfl (lv_at hl 0 rfl) ?_
  refine ww_gI (pc := 9) g (k := 12) cl_St (pz rfl (by decide)) (by decide) (Or.inl kw_880) (f := 16524) rfl rfl d_St_jump_9 h fun v9 h => ?_
  refine ww_ldc (pc := 12) g (v := 131071) kw_917 d_St_jump_12 ?_
  refine ww_isub (pc := 14) g.1 d_St_jump_14 ?_
  refine ww_iadd (pc := 15) g.1 d_St_jump_15 ?_
  refine ww_pI (pc := 16) g (k := 5) cl_Fm pn1 (by decide) (Or.inl kw_875) rfl (f := 19461) rfl rfl rfl rfl d_St_jump_16 h fun s hs h => ?_
  exact ww_vretH (pc := 19) g h hR d_St_jump_19

abbrev b_St_decide : ByteArray := prog_10_method_26_code
def y_St_decide : MethodName := ⟨R_St, "decide", "(Z)V"⟩
abbrev w_St_decide : List Cond := .code y_St_decide b_St_decide 2 none :: wA
theorem k_St_decide : Cond.code y_St_decide b_St_decide 2 none ∈ wA := kinm (show _ ∈ tables_1 from (List.mem_append_right _ (List.mem_append_right _ (List.mem_append_right _ (List.mem_append_right _ (List.mem_append_right _ (List.mem_append_right _ (List.mem_append_left _ (List.mem_of_getElem? (l := tables_1_7) (i := 160) (by decide +kernel)))))))))) (by decide +kernel)
theorem d_St_decide_0 : decode b_St_decide 0 = .ok (.aload_n 0, 1) := by decide +kernel
theorem d_St_decide_1 : decode b_St_decide 1 = .ok (.getfield 113, 3) := by decide +kernel
theorem d_St_decide_4 : decode b_St_decide 4 = .ok (.dup, 1) := by decide +kernel
theorem d_St_decide_5 : decode b_St_decide 5 = .ok (.getfield 46, 3) := by decide +kernel
theorem d_St_decide_8 : decode b_St_decide 8 = .ok (.iload_n 1, 1) := by decide +kernel
theorem d_St_decide_9 : decode b_St_decide 9 = .ok (.aload_n 0, 1) := by decide +kernel
theorem d_St_decide_10 : decode b_St_decide 10 = .ok (.getfield 57, 3) := by decide +kernel
theorem d_St_decide_13 : decode b_St_decide 13 = .ok (.iconst 1, 1) := by decide +kernel
theorem d_St_decide_14 : decode b_St_decide 14 = .ok (.if_icmp .ne 7, 3) := by decide +kernel
theorem d_St_decide_17 : decode b_St_decide 17 = .ok (.iconst 1, 1) := by decide +kernel
theorem d_St_decide_18 : decode b_St_decide 18 = .ok (.goto 4, 3) := by decide +kernel
theorem d_St_decide_21 : decode b_St_decide 21 = .ok (.iconst 0, 1) := by decide +kernel
theorem d_St_decide_22 : decode b_St_decide 22 = .ok (.if_icmp .ne 7, 3) := by decide +kernel
theorem d_St_decide_25 : decode b_St_decide 25 = .ok (.iconst 0, 1) := by decide +kernel
theorem d_St_decide_26 : decode b_St_decide 26 = .ok (.goto 4, 3) := by decide +kernel
theorem d_St_decide_29 : decode b_St_decide 29 = .ok (.iconst 1, 1) := by decide +kernel
theorem d_St_decide_30 : decode b_St_decide 30 = .ok (.iadd, 1) := by decide +kernel
theorem d_St_decide_31 : decode b_St_decide 31 = .ok (.putfield 46, 3) := by decide +kernel
theorem d_St_decide_34 : decode b_St_decide 34 = .ok (.return_, 1) := by decide +kernel
theorem kw_920 : Cond.instanceMethod y_St_decide ∈ wA := kinm (show _ ∈ tables_1 from (List.mem_append_right _ (List.mem_append_right _ (List.mem_append_right _ (List.mem_append_right _ (List.mem_append_right _ (List.mem_append_right _ (List.mem_append_left _ (List.mem_of_getElem? (l := tables_1_7) (i := 159) (by decide +kernel)))))))))) (by decide +kernel)
theorem kw_921 : Cond.selects R_St y_St_decide y_St_decide ∈ wA := kinp 56 (by decide +kernel) (by decide +kernel)
theorem cv_St_decide : CV y_St_decide b_St_decide 2 none 1 := ⟨kw_920, kw_921, kw_883, k_St_decide, by decide +kernel⟩
theorem j_St_decide_j30 {X : Cx} {q : PL} (g : Gd X y_St_decide b_St_decide 2 none 0 0 R_St) {o : (Unit) × S1} (hR : Rt X q o.2 none) (k0 : Int32) (k1 : Int32) (k2 : Int32) (s : S1) (hp0 : prs s 152 k2) (ls : Array Slot) (hl : lv_has ls 2 []) (h : M_St_decide_j30 k0 k1 k2 s = some o) : WW X q s 30 ls [.int k0, .int k1, .ref (q.1 152 k2)] := by
  unfold M_St_decide_j30 at h
  refine ww_iadd (pc := 30) g.1 d_St_decide_30 ?_
  refine ww_pI (pc := 31) g (k := 5) cl_Fm hp0 (by decide) (Or.inl kw_875) rfl (f := 19461) rfl rfl rfl rfl d_St_decide_31 h fun s hs h => ?_
  exact ww_vretH (pc := 34) g h hR d_St_decide_34

theorem j_St_decide_j22 {X : Cx} {q : PL} (g : Gd X y_St_decide b_St_decide 2 none 0 0 R_St) {o : (Unit) × S1} (hR : Rt X q o.2 none) (k0 : Int32) (k1 : Int32) (k2 : Int32) (k3 : Int32) (s : S1) (hp0 : prs s 152 k3) (ls : Array Slot) (hl : lv_has ls 2 []) (h : M_St_decide_j22 k0 k1 k2 k3 s = some o) : WW X q s 22 ls [.int k0, .int k1, .int k2, .ref (q.1 152 k3)] := by
  unfold M_St_decide_j22 at h
  refine ww_icmp_ne (pc := 22) (tgt := 29) g.1 d_St_decide_22 (by decide) h (fun c h => ?_) (fun c h => ?_)
  · refine ww_iconst (pc := 29) g.1 (v := 1) d_St_decide_29 (by decide) ?_
    exact j_St_decide_j30 g hR 1 k2 k3 s hp0 ls (lv_sub hl [] rfl) h
  · refine ww_iconst (pc := 25) g.1 (v := 0) d_St_decide_25 (by decide) ?_
    refine ww_goto (pc := 26) (tgt := 30) g.1 d_St_decide_26 (by decide) ?_
    exact j_St_decide_j30 g hR 0 k2 k3 s hp0 ls (lv_sub hl [] rfl) h

theorem ct_St_decide {l : Launch} {P : PP} {q : PL} {s s' : S1} {l1 : Int32} {r : Unit} (h : M_St_decide l1 s = some (r, s')) : Ct l y_St_decide b_St_decide 2 none 0 0 P q s [.ref (q.1 129 0), .int l1] none q s' := by
  refine ct_of (by decide) (Nat.le_of_ble_eq_true rfl) fun X ls eP el g hR hl => ?_
  subst eP
  have hR : Rt X q ((r, s') : Unit × S1).2 none := hR
  have hl : lv_has ls 2 [(0, .ref (q.1 129 0)), (1, .int l1)] := hl
  generalize (r, s') = o at h hR
  unfold M_St_decide at h
  refine ww_aload_n (pc := 0) g.1 d_St_decide_0 rfl (lv_at hl 0 rfl) ?_
  refine ww_gV (pc := 1) g (k := 5) cl_St (pz rfl (by decide)) (by decide) (Or.inl kw_867) (f := 16517) (t := 152) rfl rfl rfl d_St_decide_1 h fun v1 h => ?_
  refine ww_pr h fun pn1 h => ?_
  refine ww_nnP pn1 ?_
  refine ww_dup (pc := 4) g.1 d_St_decide_4 rfl ?_
  refine ww_gI (pc := 5) g (k := 5) cl_Fm pn1 (by decide) (Or.inl kw_875) (f := 19461) rfl rfl d_St_decide_5 h fun v5 h => ?_
  refine ww_iload_n (pc := 8) g.1 d_St_decide_8 rfl (lv_at hl 1 rfl) ?_
  refine ww_aload_n (pc := 9) g.1 d_St_decide_9 rfl (lv_at hl 0 rfl) ?_
  refine ww_gI (pc := 10) g (k := 9) cl_St (pz rfl (by decide)) (by decide) (Or.inl kw_877) (f := 16521) rfl rfl d_St_decide_10 h fun v10 h => ?_
  refine ww_iconst (pc := 13) g.1 (v := 1) d_St_decide_13 (by decide) ?_
  refine ww_icmp_ne (pc := 14) (tgt := 21) g.1 d_St_decide_14 (by decide) h (fun c h => ?_) (fun c h => ?_)
  · refine ww_iconst (pc := 21) g.1 (v := 0) d_St_decide_21 (by decide) ?_
    exact j_St_decide_j22 g hR 0 l1 v5 v1 s pn1 ls (lv_sub hl [] rfl) h
  · refine ww_iconst (pc := 17) g.1 (v := 1) d_St_decide_17 (by decide) ?_
    refine ww_goto (pc := 18) (tgt := 22) g.1 d_St_decide_18 (by decide) ?_
    exact j_St_decide_j22 g hR 1 l1 v5 v1 s pn1 ls (lv_sub hl [] rfl) h


