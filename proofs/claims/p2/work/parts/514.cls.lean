abbrev b_LM_value : ByteArray := prog_1_method_11_code
def y_LM_value : MethodName := ⟨R_LM, "value", "(I)J"⟩
abbrev w_LM_value : List Cond := .code y_LM_value b_LM_value 5 (some .long) :: wA
theorem k_LM_value : Cond.code y_LM_value b_LM_value 5 (some .long) ∈ wA := kinm (show _ ∈ tables_1 from (List.mem_append_right _ (List.mem_append_right _ (List.mem_append_right _ (List.mem_append_right _ (List.mem_append_right _ (List.mem_append_right _ (List.mem_append_right _ (List.mem_append_right _ (List.mem_append_left _ (List.mem_of_getElem? (l := tables_1_9) (i := 93) (by decide +kernel)))))))))))) (by decide +kernel)
theorem d_LM_value_0 : decode b_LM_value 0 = .ok (.aload_n 0, 1) := by decide +kernel
theorem d_LM_value_1 : decode b_LM_value 1 = .ok (.iload_n 1, 1) := by decide +kernel
theorem d_LM_value_2 : decode b_LM_value 2 = .ok (.invokevirtual 146, 3) := by decide +kernel
theorem d_LM_value_5 : decode b_LM_value 5 = .ok (.ifCond .eq 11, 3) := by decide +kernel
theorem d_LM_value_8 : decode b_LM_value 8 = .ok (.new 149, 3) := by decide +kernel
theorem d_LM_value_11 : decode b_LM_value 11 = .ok (.dup, 1) := by decide +kernel
theorem d_LM_value_12 : decode b_LM_value 12 = .ok (.invokespecial 151, 3) := by decide +kernel
theorem d_LM_value_15 : decode b_LM_value 15 = .ok (.athrow, 1) := by decide +kernel
theorem d_LM_value_16 : decode b_LM_value 16 = .ok (.aload_n 0, 1) := by decide +kernel
theorem d_LM_value_17 : decode b_LM_value 17 = .ok (.getfield 33, 3) := by decide +kernel
theorem d_LM_value_20 : decode b_LM_value 20 = .ok (.getfield 152, 3) := by decide +kernel
theorem d_LM_value_23 : decode b_LM_value 23 = .ok (.getfield 156, 3) := by decide +kernel
theorem d_LM_value_26 : decode b_LM_value 26 = .ok (.iload_n 1, 1) := by decide +kernel
theorem d_LM_value_27 : decode b_LM_value 27 = .ok (.baload, 1) := by decide +kernel
theorem d_LM_value_28 : decode b_LM_value 28 = .ok (.istore_n 2, 1) := by decide +kernel
theorem d_LM_value_29 : decode b_LM_value 29 = .ok (.aload_n 0, 1) := by decide +kernel
theorem d_LM_value_30 : decode b_LM_value 30 = .ok (.getfield 33, 3) := by decide +kernel
theorem d_LM_value_33 : decode b_LM_value 33 = .ok (.getfield 152, 3) := by decide +kernel
theorem d_LM_value_36 : decode b_LM_value 36 = .ok (.getfield 161, 3) := by decide +kernel
theorem d_LM_value_39 : decode b_LM_value 39 = .ok (.iload_n 1, 1) := by decide +kernel
theorem d_LM_value_40 : decode b_LM_value 40 = .ok (.laload, 1) := by decide +kernel
theorem d_LM_value_41 : decode b_LM_value 41 = .ok (.lstore_n 3, 1) := by decide +kernel
theorem d_LM_value_42 : decode b_LM_value 42 = .ok (.iload_n 2, 1) := by decide +kernel
theorem d_LM_value_43 : decode b_LM_value 43 = .ok (.iconst 4, 1) := by decide +kernel
theorem d_LM_value_44 : decode b_LM_value 44 = .ok (.if_icmp .ne 19, 3) := by decide +kernel
theorem d_LM_value_47 : decode b_LM_value 47 = .ok (.aload_n 0, 1) := by decide +kernel
theorem d_LM_value_48 : decode b_LM_value 48 = .ok (.getfield 19, 3) := by decide +kernel
theorem d_LM_value_51 : decode b_LM_value 51 = .ok (.getfield 165, 3) := by decide +kernel
theorem d_LM_value_54 : decode b_LM_value 54 = .ok (.lload_n 3, 1) := by decide +kernel
theorem d_LM_value_55 : decode b_LM_value 55 = .ok (.l2i, 1) := by decide +kernel
theorem d_LM_value_56 : decode b_LM_value 56 = .ok (.aaload, 1) := by decide +kernel
theorem d_LM_value_57 : decode b_LM_value 57 = .ok (.getfield 169, 3) := by decide +kernel
theorem d_LM_value_60 : decode b_LM_value 60 = .ok (.arraylength, 1) := by decide +kernel
theorem d_LM_value_61 : decode b_LM_value 61 = .ok (.i2l, 1) := by decide +kernel
theorem d_LM_value_62 : decode b_LM_value 62 = .ok (.lreturn, 1) := by decide +kernel
theorem d_LM_value_63 : decode b_LM_value 63 = .ok (.iload_n 2, 1) := by decide +kernel
theorem d_LM_value_64 : decode b_LM_value 64 = .ok (.iconst 4, 1) := by decide +kernel
theorem d_LM_value_65 : decode b_LM_value 65 = .ok (.if_icmp .le 14, 3) := by decide +kernel
theorem d_LM_value_68 : decode b_LM_value 68 = .ok (.aload_n 0, 1) := by decide +kernel
theorem d_LM_value_69 : decode b_LM_value 69 = .ok (.getfield 19, 3) := by decide +kernel
theorem d_LM_value_72 : decode b_LM_value 72 = .ok (.lload_n 3, 1) := by decide +kernel
theorem d_LM_value_73 : decode b_LM_value 73 = .ok (.invokevirtual 174, 3) := by decide +kernel
theorem d_LM_value_76 : decode b_LM_value 76 = .ok (.goto 4, 3) := by decide +kernel
theorem d_LM_value_79 : decode b_LM_value 79 = .ok (.lload_n 3, 1) := by decide +kernel
theorem d_LM_value_80 : decode b_LM_value 80 = .ok (.lreturn, 1) := by decide +kernel
theorem kw_1031 : Cond.methodLink R_LM 146 y_LM_hasNoResult ∈ wA := kinm (show _ ∈ tables_1 from (List.mem_append_right _ (List.mem_append_right _ (List.mem_append_right _ (List.mem_append_right _ (List.mem_append_right _ (List.mem_append_right _ (List.mem_append_right _ (List.mem_append_right _ (List.mem_append_left _ (List.mem_of_getElem? (l := tables_1_9) (i := 68) (by decide +kernel)))))))))))) (by decide +kernel)
theorem kw_1032 : Cond.fieldLink R_LM 156 "LuaMachine$Row" "kinds" "[B" ∈ wA := kinm (show _ ∈ tables_1 from (List.mem_append_right _ (List.mem_append_left _ (List.mem_of_getElem? (l := tables_1_2) (i := 25) (by decide +kernel))))) (by decide +kernel)
theorem kw_1033 : Cond.fieldLink R_LM 161 "LuaMachine$Row" "values" "[J" ∈ wA := kinm (show _ ∈ tables_1 from (List.mem_append_right _ (List.mem_append_left _ (List.mem_of_getElem? (l := tables_1_2) (i := 31) (by decide +kernel))))) (by decide +kernel)
theorem kw_1034 : Cond.methodLink R_LM 174 y_He_numberOf ∈ wA := kinm (show _ ∈ tables_1 from (List.mem_append_right _ (List.mem_append_right _ (List.mem_append_right _ (List.mem_append_right _ (List.mem_append_right _ (List.mem_append_right _ (List.mem_append_right _ (List.mem_append_right _ (List.mem_append_left _ (List.mem_of_getElem? (l := tables_1_9) (i := 94) (by decide +kernel)))))))))))) (by decide +kernel)
theorem kw_1035 : Cond.fieldLink R_LM 165 "LuaMachine$Heap" "things" "[LLuaMachine$Thing;" ∈ wA := kinm (show _ ∈ tables_1 from (List.mem_append_left _ (List.mem_of_getElem? (l := tables_1_1) (i := 138) (by decide +kernel)))) (by decide +kernel)
theorem kw_1036 : Cond.fieldLink R_LM 169 "LuaMachine$Thing" "bytes" "[B" ∈ wA := kinm (show _ ∈ tables_1 from (List.mem_append_right _ (List.mem_append_right _ (List.mem_append_right _ (List.mem_append_right _ (List.mem_append_left _ (List.mem_of_getElem? (l := tables_1_5) (i := 187) (by decide +kernel)))))))) (by decide +kernel)
theorem kw_1037 : Cond.instanceMethod y_LM_value ∈ wA := kinm (show _ ∈ tables_1 from (List.mem_append_right _ (List.mem_append_right _ (List.mem_append_right _ (List.mem_append_right _ (List.mem_append_right _ (List.mem_append_right _ (List.mem_append_right _ (List.mem_append_right _ (List.mem_append_left _ (List.mem_of_getElem? (l := tables_1_9) (i := 91) (by decide +kernel)))))))))))) (by decide +kernel)
theorem kw_1038 : Cond.selects R_LM y_LM_value y_LM_value ∈ wA := kinm (show _ ∈ tables_1 from (List.mem_append_right _ (List.mem_append_right _ (List.mem_append_right _ (List.mem_append_right _ (List.mem_append_right _ (List.mem_append_right _ (List.mem_append_right _ (List.mem_append_right _ (List.mem_append_left _ (List.mem_of_getElem? (l := tables_1_9) (i := 92) (by decide +kernel)))))))))))) (by decide +kernel)
theorem cv_LM_value : CV y_LM_value b_LM_value 5 (some .long) 1 := ⟨kw_1037, kw_1038, kw_647, k_LM_value, by decide +kernel⟩
theorem ct_LM_value {l : Launch} {P : PP} {q : PL} {s s' : S1} {l1 : Int32} {r : Int64} (h : M_LM_value l1 s = some (r, s')) : Ct l y_LM_value b_LM_value 5 (some .long) 1 22 P q s [.ref (q.1 100 0), .int l1] (some (.long r)) q s' := by
  refine ct_of (by decide) (Nat.le_of_ble_eq_true rfl) fun X ls eP el g hR hl => ?_
  subst eP
  have hR : Rt X q ((r, s') : Int64 × S1).2 (some (.long ((r, s') : Int64 × S1).1)) := hR
  have hl : lv_has ls 5 [(0, .ref (q.1 100 0)), (1, .int l1)] := hl
  generalize (r, s') = o at h hR
  unfold M_LM_value at h
  refine ww_aload_n (pc := 0) g.1 d_LM_value_0 rfl (lv_at hl 0 rfl) ?_
  refine ww_iload_n (pc := 1) g.1 d_LM_value_1 rfl (lv_at hl 1 rfl) ?_
  obtain ⟨v2, s, hc2, h⟩ := oB_of h
  refine ww_callV (pc := 2) (rest := []) g cv_LM_hasNoResult (Or.inl kw_1031) cl_LM (pz rfl (by decide)) (ct_LM_hasNoResult hc2) ⟨by decide, by decide⟩ rfl hl.1 (Nat.le_of_ble_eq_true rfl) d_LM_value_2 rfl (?_)
  refine ww_st (st' := [.int v2]) rfl ?_
  refine ww_if_eq (pc := 5) (tgt := 16) g.1 d_LM_value_5 (by decide) h (fun c h => ?_) (fun c h => ?_)
  · refine ww_aload_n (pc := 16) g.1 d_LM_value_16 rfl (lv_at hl 0 rfl) ?_
    refine ww_gR (pc := 17) g (k := 4) cl_LM (pz rfl (by decide)) (by decide) (Or.inl kw_635) (f := 12804) (t := 128) rfl rfl rfl d_LM_value_17 ?_
    refine ww_gR (pc := 20) g (k := 7) cl_Ma (pz rfl (by decide)) (by decide) (Or.inl kw_640) (f := 16391) (t := 141) rfl rfl rfl d_LM_value_20 ?_
    refine ww_gR (pc := 23) g (k := 0) (cl_Ro ⟨by decide, rfl⟩) (pz rfl (by decide)) (by decide) (Or.inl kw_1032) (f := 18048) (t := 142) rfl rfl rfl d_LM_value_23 ?_
    refine ww_iload_n (pc := 26) g.1 d_LM_value_26 rfl (lv_at hl 1 rfl) ?_
    refine ww_ab (pc := 27) g (pz rfl (by decide)) rfl rfl d_LM_value_27 h fun v27 h => ?_
    refine ww_istore_n (pc := 28) (i := 2) g.1 (lv' := [(2, .int v27), (0, .ref (q.1 100 0)), (1, .int l1)]) d_LM_value_28 rfl hl (by decide) rfl fun ls hl => ?_
    refine ww_aload_n (pc := 29) g.1 d_LM_value_29 rfl (lv_at hl 1 rfl) ?_
    refine ww_gR (pc := 30) g (k := 4) cl_LM (pz rfl (by decide)) (by decide) (Or.inl kw_635) (f := 12804) (t := 128) rfl rfl rfl d_LM_value_30 ?_
    refine ww_gR (pc := 33) g (k := 7) cl_Ma (pz rfl (by decide)) (by decide) (Or.inl kw_640) (f := 16391) (t := 141) rfl rfl rfl d_LM_value_33 ?_
    refine ww_gR (pc := 36) g (k := 1) (cl_Ro ⟨by decide, rfl⟩) (pz rfl (by decide)) (by decide) (Or.inl kw_1033) (f := 18049) (t := 143) rfl rfl rfl d_LM_value_36 ?_
    refine ww_iload_n (pc := 39) g.1 d_LM_value_39 rfl (lv_at hl 2 rfl) ?_
    refine ww_al (pc := 40) g (pz rfl (by decide)) rfl rfl d_LM_value_40 h fun v40 h => ?_
    refine ww_lstore_n (pc := 41) (i := 3) g.1 (lv' := [(3, .long v40), (2, .int v27), (0, .ref (q.1 100 0)), (1, .int l1)]) d_LM_value_41 rfl hl (by decide) rfl fun ls hl => ?_
    refine ww_iload_n (pc := 42) g.1 d_LM_value_42 rfl (lv_at hl 1 rfl) ?_
    refine ww_iconst (pc := 43) g.1 (v := 4) d_LM_value_43 (by decide) ?_
    refine ww_icmp_ne (pc := 44) (tgt := 63) g.1 d_LM_value_44 (by decide) h (fun c h => ?_) (fun c h => ?_)
    · refine ww_iload_n (pc := 63) g.1 d_LM_value_63 rfl (lv_at hl 1 rfl) ?_
      refine ww_iconst (pc := 64) g.1 (v := 4) d_LM_value_64 (by decide) ?_
      refine ww_icmp_le (pc := 65) (tgt := 79) g.1 d_LM_value_65 (by decide) h (fun c h => ?_) (fun c h => ?_)
      · refine ww_lload_n (pc := 79) g.1 d_LM_value_79 rfl (lv_at hl 0 rfl) ?_
        exact ww_lretH (pc := 80) g h hR d_LM_value_80
      · refine ww_aload_n (pc := 68) g.1 d_LM_value_68 rfl (lv_at hl 2 rfl) ?_
        refine ww_gR (pc := 69) g (k := 3) cl_LM (pz rfl (by decide)) (by decide) (Or.inl kw_642) (f := 12803) (t := 111) rfl rfl rfl d_LM_value_69 ?_
        refine ww_lload_n (pc := 72) g.1 d_LM_value_72 rfl (lv_at hl 0 rfl) ?_
        obtain ⟨v73, s, hc73, h⟩ := oB_of h
        refine ww_callV (pc := 73) (rest := []) g cv_He_numberOf (Or.inl kw_1034) cl_He (pz rfl (by decide)) (ct_He_numberOf hc73) ⟨by decide, by decide⟩ rfl hl.1 (Nat.le_of_ble_eq_true rfl) d_LM_value_73 rfl (?_)
        refine ww_st (st' := [.long v73]) rfl ?_
        refine ww_goto (pc := 76) (tgt := 80) g.1 d_LM_value_76 (by decide) ?_
        exact ww_lretH (pc := 80) g h hR d_LM_value_80
    · refine ww_aload_n (pc := 47) g.1 d_LM_value_47 rfl (lv_at hl 2 rfl) ?_
      refine ww_gR (pc := 48) g (k := 3) cl_LM (pz rfl (by decide)) (by decide) (Or.inl kw_642) (f := 12803) (t := 111) rfl rfl rfl d_LM_value_48 ?_
      refine ww_gR (pc := 51) g (k := 0) cl_He (pz rfl (by decide)) (by decide) (Or.inl kw_1035) (f := 14208) (t := 112) rfl rfl rfl d_LM_value_51 ?_
      refine ww_lload_n (pc := 54) g.1 d_LM_value_54 rfl (lv_at hl 0 rfl) ?_
      refine ww_l2i (pc := 55) g.1 (v := v40.toInt32) d_LM_value_55 rfl ?_
      refine ww_a8 (pc := 56) g (t := 145) (n := 4000) (pz rfl (by decide)) rfl rfl rfl rfl d_LM_value_56 h fun pa56 h => ?_
      refine ww_g5 (pc := 57) g (k := 9) cl_Tg pa56 (by decide) (Or.inl kw_1036) (f := 18569) (t := 146) (f2 := 18815) rfl rfl rfl rfl d_LM_value_57 h fun v57 hv57 h => ?_
      refine ww_ok h fun cv57 h => ?_
      refine ww_dn cv57 ?_
      have pd57 : prs s 146 v40.toInt32 := pdn (hv57 ▸ cv57) pa56.2.1 pa56.2.2
      refine ww_ln pd57 h fun n60 hmn60 hnn60 h => ?_
      refine ww_alen (pc := 60) g (n := n60) pd57 (by decide) hmn60 d_LM_value_60 ?_
      refine ww_i2l (pc := 61) g.1 (v := n60.toInt64) d_LM_value_61 rfl ?_
      exact ww_lretH (pc := 62) g h hR d_LM_value_62
  · exact (oF_no h).elim

abbrev b_LM_byteOf : ByteArray := prog_1_method_12_code
def y_LM_byteOf : MethodName := ⟨R_LM, "byteOf", "(II)I"⟩
abbrev w_LM_byteOf : List Cond := .code y_LM_byteOf b_LM_byteOf 4 (some .int) :: wA
theorem k_LM_byteOf : Cond.code y_LM_byteOf b_LM_byteOf 4 (some .int) ∈ wA := kinm (show _ ∈ tables_1 from (List.mem_append_right _ (List.mem_append_right _ (List.mem_append_right _ (List.mem_append_right _ (List.mem_append_right _ (List.mem_append_right _ (List.mem_append_right _ (List.mem_append_right _ (List.mem_append_left _ (List.mem_of_getElem? (l := tables_1_9) (i := 101) (by decide +kernel)))))))))))) (by decide +kernel)
theorem d_LM_byteOf_0 : decode b_LM_byteOf 0 = .ok (.aload_n 0, 1) := by decide +kernel
theorem d_LM_byteOf_1 : decode b_LM_byteOf 1 = .ok (.iload_n 1, 1) := by decide +kernel
theorem d_LM_byteOf_2 : decode b_LM_byteOf 2 = .ok (.invokevirtual 146, 3) := by decide +kernel
theorem d_LM_byteOf_5 : decode b_LM_byteOf 5 = .ok (.ifCond .eq 11, 3) := by decide +kernel
theorem d_LM_byteOf_8 : decode b_LM_byteOf 8 = .ok (.new 149, 3) := by decide +kernel
theorem d_LM_byteOf_11 : decode b_LM_byteOf 11 = .ok (.dup, 1) := by decide +kernel
theorem d_LM_byteOf_12 : decode b_LM_byteOf 12 = .ok (.invokespecial 151, 3) := by decide +kernel
theorem d_LM_byteOf_15 : decode b_LM_byteOf 15 = .ok (.athrow, 1) := by decide +kernel
theorem d_LM_byteOf_16 : decode b_LM_byteOf 16 = .ok (.aload_n 0, 1) := by decide +kernel
theorem d_LM_byteOf_17 : decode b_LM_byteOf 17 = .ok (.getfield 33, 3) := by decide +kernel
theorem d_LM_byteOf_20 : decode b_LM_byteOf 20 = .ok (.getfield 152, 3) := by decide +kernel
theorem d_LM_byteOf_23 : decode b_LM_byteOf 23 = .ok (.getfield 156, 3) := by decide +kernel
theorem d_LM_byteOf_26 : decode b_LM_byteOf 26 = .ok (.iload_n 1, 1) := by decide +kernel
theorem d_LM_byteOf_27 : decode b_LM_byteOf 27 = .ok (.baload, 1) := by decide +kernel
theorem d_LM_byteOf_28 : decode b_LM_byteOf 28 = .ok (.iconst 4, 1) := by decide +kernel
theorem d_LM_byteOf_29 : decode b_LM_byteOf 29 = .ok (.if_icmp .eq 11, 3) := by decide +kernel
theorem d_LM_byteOf_32 : decode b_LM_byteOf 32 = .ok (.new 74, 3) := by decide +kernel
theorem d_LM_byteOf_35 : decode b_LM_byteOf 35 = .ok (.dup, 1) := by decide +kernel
theorem d_LM_byteOf_36 : decode b_LM_byteOf 36 = .ok (.invokespecial 76, 3) := by decide +kernel
theorem d_LM_byteOf_39 : decode b_LM_byteOf 39 = .ok (.athrow, 1) := by decide +kernel
theorem d_LM_byteOf_40 : decode b_LM_byteOf 40 = .ok (.aload_n 0, 1) := by decide +kernel
theorem d_LM_byteOf_41 : decode b_LM_byteOf 41 = .ok (.getfield 19, 3) := by decide +kernel
theorem d_LM_byteOf_44 : decode b_LM_byteOf 44 = .ok (.getfield 165, 3) := by decide +kernel
theorem d_LM_byteOf_47 : decode b_LM_byteOf 47 = .ok (.aload_n 0, 1) := by decide +kernel
theorem d_LM_byteOf_48 : decode b_LM_byteOf 48 = .ok (.getfield 33, 3) := by decide +kernel
theorem d_LM_byteOf_51 : decode b_LM_byteOf 51 = .ok (.getfield 152, 3) := by decide +kernel
theorem d_LM_byteOf_54 : decode b_LM_byteOf 54 = .ok (.getfield 161, 3) := by decide +kernel
theorem d_LM_byteOf_57 : decode b_LM_byteOf 57 = .ok (.iload_n 1, 1) := by decide +kernel
theorem d_LM_byteOf_58 : decode b_LM_byteOf 58 = .ok (.laload, 1) := by decide +kernel
theorem d_LM_byteOf_59 : decode b_LM_byteOf 59 = .ok (.l2i, 1) := by decide +kernel
theorem d_LM_byteOf_60 : decode b_LM_byteOf 60 = .ok (.aaload, 1) := by decide +kernel
theorem d_LM_byteOf_61 : decode b_LM_byteOf 61 = .ok (.getfield 169, 3) := by decide +kernel
theorem d_LM_byteOf_64 : decode b_LM_byteOf 64 = .ok (.astore_n 3, 1) := by decide +kernel
theorem d_LM_byteOf_65 : decode b_LM_byteOf 65 = .ok (.iload_n 2, 1) := by decide +kernel
theorem d_LM_byteOf_66 : decode b_LM_byteOf 66 = .ok (.ifCond .lt 9, 3) := by decide +kernel
theorem d_LM_byteOf_69 : decode b_LM_byteOf 69 = .ok (.iload_n 2, 1) := by decide +kernel
theorem d_LM_byteOf_70 : decode b_LM_byteOf 70 = .ok (.aload_n 3, 1) := by decide +kernel
theorem d_LM_byteOf_71 : decode b_LM_byteOf 71 = .ok (.arraylength, 1) := by decide +kernel
theorem d_LM_byteOf_72 : decode b_LM_byteOf 72 = .ok (.if_icmp .lt 11, 3) := by decide +kernel
theorem d_LM_byteOf_75 : decode b_LM_byteOf 75 = .ok (.new 74, 3) := by decide +kernel
theorem d_LM_byteOf_78 : decode b_LM_byteOf 78 = .ok (.dup, 1) := by decide +kernel
theorem d_LM_byteOf_79 : decode b_LM_byteOf 79 = .ok (.invokespecial 76, 3) := by decide +kernel
theorem d_LM_byteOf_82 : decode b_LM_byteOf 82 = .ok (.athrow, 1) := by decide +kernel
theorem d_LM_byteOf_83 : decode b_LM_byteOf 83 = .ok (.aload_n 3, 1) := by decide +kernel
theorem d_LM_byteOf_84 : decode b_LM_byteOf 84 = .ok (.iload_n 2, 1) := by decide +kernel
theorem d_LM_byteOf_85 : decode b_LM_byteOf 85 = .ok (.baload, 1) := by decide +kernel
theorem d_LM_byteOf_86 : decode b_LM_byteOf 86 = .ok (.sipush 255, 3) := by decide +kernel
theorem d_LM_byteOf_89 : decode b_LM_byteOf 89 = .ok (.iand, 1) := by decide +kernel
theorem d_LM_byteOf_90 : decode b_LM_byteOf 90 = .ok (.ireturn, 1) := by decide +kernel
theorem kw_1039 : Cond.instanceMethod y_LM_byteOf ∈ wA := kinm (show _ ∈ tables_1 from (List.mem_append_right _ (List.mem_append_right _ (List.mem_append_right _ (List.mem_append_right _ (List.mem_append_right _ (List.mem_append_right _ (List.mem_append_right _ (List.mem_append_right _ (List.mem_append_left _ (List.mem_of_getElem? (l := tables_1_9) (i := 99) (by decide +kernel)))))))))))) (by decide +kernel)
theorem kw_1040 : Cond.selects R_LM y_LM_byteOf y_LM_byteOf ∈ wA := kinm (show _ ∈ tables_1 from (List.mem_append_right _ (List.mem_append_right _ (List.mem_append_right _ (List.mem_append_right _ (List.mem_append_right _ (List.mem_append_right _ (List.mem_append_right _ (List.mem_append_right _ (List.mem_append_left _ (List.mem_of_getElem? (l := tables_1_9) (i := 100) (by decide +kernel)))))))))))) (by decide +kernel)
theorem cv_LM_byteOf : CV y_LM_byteOf b_LM_byteOf 4 (some .int) 2 := ⟨kw_1039, kw_1040, kw_647, k_LM_byteOf, by decide +kernel⟩
theorem ct_LM_byteOf {l : Launch} {P : PP} {q : PL} {s s' : S1} {l1 : Int32} {l2 : Int32} {r : Int32} (h : M_LM_byteOf l1 l2 s = some (r, s')) : Ct l y_LM_byteOf b_LM_byteOf 4 (some .int) 1 21 P q s [.ref (q.1 100 0), .int l1, .int l2] (some (.int r)) q s' := by
  refine ct_of (by decide) (Nat.le_of_ble_eq_true rfl) fun X ls eP el g hR hl => ?_
  subst eP
  have hR : Rt X q ((r, s') : Int32 × S1).2 (some (.int ((r, s') : Int32 × S1).1)) := hR
  have hl : lv_has ls 4 [(0, .ref (q.1 100 0)), (1, .int l1), (2, .int l2)] := hl
  generalize (r, s') = o at h hR
  unfold M_LM_byteOf at h
  refine ww_aload_n (pc := 0) g.1 d_LM_byteOf_0 rfl (lv_at hl 0 rfl) ?_
  refine ww_iload_n (pc := 1) g.1 d_LM_byteOf_1 rfl (lv_at hl 1 rfl) ?_
  obtain ⟨v2, s, hc2, h⟩ := oB_of h
  refine ww_callV (pc := 2) (rest := []) g cv_LM_hasNoResult (Or.inl kw_1031) cl_LM (pz rfl (by decide)) (ct_LM_hasNoResult hc2) ⟨by decide, by decide⟩ rfl hl.1 (Nat.le_of_ble_eq_true rfl) d_LM_byteOf_2 rfl (?_)
  refine ww_st (st' := [.int v2]) rfl ?_
  refine ww_if_eq (pc := 5) (tgt := 16) g.1 d_LM_byteOf_5 (by decide) h (fun c h => ?_) (fun c h => ?_)
  · refine ww_aload_n (pc := 16) g.1 d_LM_byteOf_16 rfl (lv_at hl 0 rfl) ?_
    refine ww_gR (pc := 17) g (k := 4) cl_LM (pz rfl (by decide)) (by decide) (Or.inl kw_635) (f := 12804) (t := 128) rfl rfl rfl d_LM_byteOf_17 ?_
    refine ww_gR (pc := 20) g (k := 7) cl_Ma (pz rfl (by decide)) (by decide) (Or.inl kw_640) (f := 16391) (t := 141) rfl rfl rfl d_LM_byteOf_20 ?_
    refine ww_gR (pc := 23) g (k := 0) (cl_Ro ⟨by decide, rfl⟩) (pz rfl (by decide)) (by decide) (Or.inl kw_1032) (f := 18048) (t := 142) rfl rfl rfl d_LM_byteOf_23 ?_
    refine ww_iload_n (pc := 26) g.1 d_LM_byteOf_26 rfl (lv_at hl 1 rfl) ?_
    refine ww_ab (pc := 27) g (pz rfl (by decide)) rfl rfl d_LM_byteOf_27 h fun v27 h => ?_
    refine ww_iconst (pc := 28) g.1 (v := 4) d_LM_byteOf_28 (by decide) ?_
    refine ww_icmp_eq (pc := 29) (tgt := 40) g.1 d_LM_byteOf_29 (by decide) h (fun c h => ?_) (fun c h => ?_)
    · refine ww_aload_n (pc := 40) g.1 d_LM_byteOf_40 rfl (lv_at hl 0 rfl) ?_
      refine ww_gR (pc := 41) g (k := 3) cl_LM (pz rfl (by decide)) (by decide) (Or.inl kw_642) (f := 12803) (t := 111) rfl rfl rfl d_LM_byteOf_41 ?_
      refine ww_gR (pc := 44) g (k := 0) cl_He (pz rfl (by decide)) (by decide) (Or.inl kw_1035) (f := 14208) (t := 112) rfl rfl rfl d_LM_byteOf_44 ?_
      refine ww_aload_n (pc := 47) g.1 d_LM_byteOf_47 rfl (lv_at hl 0 rfl) ?_
      refine ww_gR (pc := 48) g (k := 4) cl_LM (pz rfl (by decide)) (by decide) (Or.inl kw_635) (f := 12804) (t := 128) rfl rfl rfl d_LM_byteOf_48 ?_
      refine ww_gR (pc := 51) g (k := 7) cl_Ma (pz rfl (by decide)) (by decide) (Or.inl kw_640) (f := 16391) (t := 141) rfl rfl rfl d_LM_byteOf_51 ?_
      refine ww_gR (pc := 54) g (k := 1) (cl_Ro ⟨by decide, rfl⟩) (pz rfl (by decide)) (by decide) (Or.inl kw_1033) (f := 18049) (t := 143) rfl rfl rfl d_LM_byteOf_54 ?_
      refine ww_iload_n (pc := 57) g.1 d_LM_byteOf_57 rfl (lv_at hl 1 rfl) ?_
      refine ww_al (pc := 58) g (pz rfl (by decide)) rfl rfl d_LM_byteOf_58 h fun v58 h => ?_
      refine ww_l2i (pc := 59) g.1 (v := v58.toInt32) d_LM_byteOf_59 rfl ?_
      refine ww_a8 (pc := 60) g (t := 145) (n := 4000) (pz rfl (by decide)) rfl rfl rfl rfl d_LM_byteOf_60 h fun pa60 h => ?_
      refine ww_g5 (pc := 61) g (k := 9) cl_Tg pa60 (by decide) (Or.inl kw_1036) (f := 18569) (t := 146) (f2 := 18815) rfl rfl rfl rfl d_LM_byteOf_61 h fun v61 hv61 h => ?_
      refine ww_ok h fun cv61 h => ?_
      refine ww_dn cv61 ?_
      have pd61 : prs s 146 v58.toInt32 := pdn (hv61 ▸ cv61) pa60.2.1 pa60.2.2
      refine ww_astore_n (pc := 64) (i := 3) g.1 (lv' := [(3, .ref (q.1 146 v58.toInt32)), (0, .ref (q.1 100 0)), (1, .int l1), (2, .int l2)]) d_LM_byteOf_64 rfl hl (by decide) rfl fun ls hl => ?_
      refine ww_iload_n (pc := 65) g.1 d_LM_byteOf_65 rfl (lv_at hl 3 rfl) ?_
      refine ww_if_lt (pc := 66) (tgt := 75) g.1 d_LM_byteOf_66 (by decide) h (fun c h => ?_) (fun c h => ?_)
      · exact (oF_no h).elim
      · refine ww_iload_n (pc := 69) g.1 d_LM_byteOf_69 rfl (lv_at hl 3 rfl) ?_
        refine ww_aload_n (pc := 70) g.1 d_LM_byteOf_70 rfl (lv_at hl 0 rfl) ?_
        refine ww_ln pd61 h fun n71 hmn71 hnn71 h => ?_
        refine ww_alen (pc := 71) g (n := n71) pd61 (by decide) hmn71 d_LM_byteOf_71 ?_
        refine ww_icmp_lt (pc := 72) (tgt := 83) g.1 d_LM_byteOf_72 (by decide) h (fun c h => ?_) (fun c h => ?_)
        · refine ww_aload_n (pc := 83) g.1 d_LM_byteOf_83 rfl (lv_at hl 0 rfl) ?_
          refine ww_iload_n (pc := 84) g.1 d_LM_byteOf_84 rfl (lv_at hl 3 rfl) ?_
          refine ww_ln pd61 h fun n85 hmn85 hnn85 h => ?_
          refine ww_ab (pc := 85) g pd61 rfl hnn85 d_LM_byteOf_85 h fun v85 h => ?_
          refine ww_sipush (pc := 86) g.1 (v := 255) d_LM_byteOf_86 (by decide) ?_
          refine ww_iand (pc := 89) g.1 d_LM_byteOf_89 ?_
          exact ww_iretH (pc := 90) g h hR d_LM_byteOf_90
        · exact (oF_no h).elim
    · exact (oF_no h).elim
  · exact (oF_no h).elim

abbrev b_LM_output : ByteArray := prog_1_method_14_code
def y_LM_output : MethodName := ⟨R_LM, "output", "(I)I"⟩
abbrev w_LM_output : List Cond := .code y_LM_output b_LM_output 2 (some .int) :: wA
theorem k_LM_output : Cond.code y_LM_output b_LM_output 2 (some .int) ∈ wA := kinm (show _ ∈ tables_1 from (List.mem_append_right _ (List.mem_append_right _ (List.mem_append_right _ (List.mem_append_right _ (List.mem_append_right _ (List.mem_append_right _ (List.mem_append_right _ (List.mem_append_right _ (List.mem_append_left _ (List.mem_of_getElem? (l := tables_1_9) (i := 108) (by decide +kernel)))))))))))) (by decide +kernel)
theorem d_LM_output_0 : decode b_LM_output 0 = .ok (.aload_n 0, 1) := by decide +kernel
theorem d_LM_output_1 : decode b_LM_output 1 = .ok (.getfield 77, 3) := by decide +kernel
theorem d_LM_output_4 : decode b_LM_output 4 = .ok (.ifCond .eq 18, 3) := by decide +kernel
theorem d_LM_output_7 : decode b_LM_output 7 = .ok (.iload_n 1, 1) := by decide +kernel
theorem d_LM_output_8 : decode b_LM_output 8 = .ok (.ifCond .lt 14, 3) := by decide +kernel
theorem d_LM_output_11 : decode b_LM_output 11 = .ok (.iload_n 1, 1) := by decide +kernel
theorem d_LM_output_12 : decode b_LM_output 12 = .ok (.aload_n 0, 1) := by decide +kernel
theorem d_LM_output_13 : decode b_LM_output 13 = .ok (.getfield 54, 3) := by decide +kernel
theorem d_LM_output_16 : decode b_LM_output 16 = .ok (.getfield 92, 3) := by decide +kernel
theorem d_LM_output_19 : decode b_LM_output 19 = .ok (.if_icmp .lt 11, 3) := by decide +kernel
theorem d_LM_output_22 : decode b_LM_output 22 = .ok (.new 149, 3) := by decide +kernel
theorem d_LM_output_25 : decode b_LM_output 25 = .ok (.dup, 1) := by decide +kernel
theorem d_LM_output_26 : decode b_LM_output 26 = .ok (.invokespecial 151, 3) := by decide +kernel
theorem d_LM_output_29 : decode b_LM_output 29 = .ok (.athrow, 1) := by decide +kernel
theorem d_LM_output_30 : decode b_LM_output 30 = .ok (.aload_n 0, 1) := by decide +kernel
theorem d_LM_output_31 : decode b_LM_output 31 = .ok (.getfield 54, 3) := by decide +kernel
theorem d_LM_output_34 : decode b_LM_output 34 = .ok (.getfield 181, 3) := by decide +kernel
theorem d_LM_output_37 : decode b_LM_output 37 = .ok (.iload_n 1, 1) := by decide +kernel
theorem d_LM_output_38 : decode b_LM_output 38 = .ok (.baload, 1) := by decide +kernel
theorem d_LM_output_39 : decode b_LM_output 39 = .ok (.sipush 255, 3) := by decide +kernel
theorem d_LM_output_42 : decode b_LM_output 42 = .ok (.iand, 1) := by decide +kernel
theorem d_LM_output_43 : decode b_LM_output 43 = .ok (.ireturn, 1) := by decide +kernel
theorem kw_1041 : Cond.fieldLink R_LM 181 "LuaMachine$BuiltIns" "printed" "[B" ∈ wA := kinm (show _ ∈ tables_1 from (List.mem_append_right _ (List.mem_append_left _ (List.mem_of_getElem? (l := tables_1_2) (i := 187) (by decide +kernel))))) (by decide +kernel)
theorem kw_1042 : Cond.instanceMethod y_LM_output ∈ wA := kinm (show _ ∈ tables_1 from (List.mem_append_right _ (List.mem_append_right _ (List.mem_append_right _ (List.mem_append_right _ (List.mem_append_right _ (List.mem_append_right _ (List.mem_append_right _ (List.mem_append_right _ (List.mem_append_left _ (List.mem_of_getElem? (l := tables_1_9) (i := 106) (by decide +kernel)))))))))))) (by decide +kernel)
theorem kw_1043 : Cond.selects R_LM y_LM_output y_LM_output ∈ wA := kinm (show _ ∈ tables_1 from (List.mem_append_right _ (List.mem_append_right _ (List.mem_append_right _ (List.mem_append_right _ (List.mem_append_right _ (List.mem_append_right _ (List.mem_append_right _ (List.mem_append_right _ (List.mem_append_left _ (List.mem_of_getElem? (l := tables_1_9) (i := 107) (by decide +kernel)))))))))))) (by decide +kernel)
theorem cv_LM_output : CV y_LM_output b_LM_output 2 (some .int) 1 := ⟨kw_1042, kw_1043, kw_647, k_LM_output, by decide +kernel⟩
theorem ct_LM_output {l : Launch} {P : PP} {q : PL} {s s' : S1} {l1 : Int32} {r : Int32} (h : M_LM_output l1 s = some (r, s')) : Ct l y_LM_output b_LM_output 2 (some .int) 0 0 P q s [.ref (q.1 100 0), .int l1] (some (.int r)) q s' := by
  refine ct_of (by decide) (Nat.le_of_ble_eq_true rfl) fun X ls eP el g hR hl => ?_
  subst eP
  have hR : Rt X q ((r, s') : Int32 × S1).2 (some (.int ((r, s') : Int32 × S1).1)) := hR
  have hl : lv_has ls 2 [(0, .ref (q.1 100 0)), (1, .int l1)] := hl
  generalize (r, s') = o at h hR
  unfold M_LM_output at h
  refine ww_aload_n (pc := 0) g.1 d_LM_output_0 rfl (lv_at hl 0 rfl) ?_
  refine ww_gI (pc := 1) g (k := 1) cl_LM (pz rfl (by decide)) (by decide) (Or.inl kw_632) (f := 12801) rfl rfl d_LM_output_1 h fun v1 h => ?_
  refine ww_if_eq (pc := 4) (tgt := 22) g.1 d_LM_output_4 (by decide) h (fun c h => ?_) (fun c h => ?_)
  · exact (oF_no h).elim
  · refine ww_iload_n (pc := 7) g.1 d_LM_output_7 rfl (lv_at hl 1 rfl) ?_
    refine ww_if_lt (pc := 8) (tgt := 22) g.1 d_LM_output_8 (by decide) h (fun c h => ?_) (fun c h => ?_)
    · exact (oF_no h).elim
    · refine ww_iload_n (pc := 11) g.1 d_LM_output_11 rfl (lv_at hl 1 rfl) ?_
      refine ww_aload_n (pc := 12) g.1 d_LM_output_12 rfl (lv_at hl 0 rfl) ?_
      refine ww_gR (pc := 13) g (k := 6) cl_LM (pz rfl (by decide)) (by decide) (Or.inl kw_633) (f := 12806) (t := 130) rfl rfl rfl d_LM_output_13 ?_
      refine ww_gI (pc := 16) g (k := 1) cl_Bu (pz rfl (by decide)) (by decide) (Or.inl kw_634) (f := 16641) rfl rfl d_LM_output_16 h fun v16 h => ?_
      refine ww_icmp_lt (pc := 19) (tgt := 30) g.1 d_LM_output_19 (by decide) h (fun c h => ?_) (fun c h => ?_)
      · refine ww_aload_n (pc := 30) g.1 d_LM_output_30 rfl (lv_at hl 0 rfl) ?_
        refine ww_gR (pc := 31) g (k := 6) cl_LM (pz rfl (by decide)) (by decide) (Or.inl kw_633) (f := 12806) (t := 130) rfl rfl rfl d_LM_output_31 ?_
        refine ww_gR (pc := 34) g (k := 0) cl_Bu (pz rfl (by decide)) (by decide) (Or.inl kw_1041) (f := 16640) (t := 131) rfl rfl rfl d_LM_output_34 ?_
        refine ww_iload_n (pc := 37) g.1 d_LM_output_37 rfl (lv_at hl 1 rfl) ?_
        refine ww_ab (pc := 38) g (pz rfl (by decide)) rfl rfl d_LM_output_38 h fun v38 h => ?_
        refine ww_sipush (pc := 39) g.1 (v := 255) d_LM_output_39 (by decide) ?_
        refine ww_iand (pc := 42) g.1 d_LM_output_42 ?_
        exact ww_iretH (pc := 43) g h hR d_LM_output_43
      · exact (oF_no h).elim

abbrev b_LM_feed : ByteArray := prog_1_method_2_code
def y_LM_feed : MethodName := ⟨R_LM, "feed", "(IIIII)I"⟩
abbrev w_LM_feed : List Cond := .code y_LM_feed b_LM_feed 6 (some .int) :: wA
theorem k_LM_feed : Cond.code y_LM_feed b_LM_feed 6 (some .int) ∈ wA := kinm (show _ ∈ tables_1 from (List.mem_append_right _ (List.mem_append_right _ (List.mem_append_left _ (List.mem_of_getElem? (l := tables_1_3) (i := 3) (by decide +kernel)))))) (by decide +kernel)
theorem d_LM_feed_0 : decode b_LM_feed 0 = .ok (.aload_n 0, 1) := by decide +kernel
theorem d_LM_feed_1 : decode b_LM_feed 1 = .ok (.getfield 58, 3) := by decide +kernel
theorem d_LM_feed_4 : decode b_LM_feed 4 = .ok (.bipush 20, 2) := by decide +kernel
theorem d_LM_feed_6 : decode b_LM_feed 6 = .ok (.iadd, 1) := by decide +kernel
theorem d_LM_feed_7 : decode b_LM_feed 7 = .ok (.ldc 62, 2) := by decide +kernel
theorem d_LM_feed_9 : decode b_LM_feed 9 = .ok (.if_icmp .le 11, 3) := by decide +kernel
theorem d_LM_feed_12 : decode b_LM_feed 12 = .ok (.new 63, 3) := by decide +kernel
theorem d_LM_feed_15 : decode b_LM_feed 15 = .ok (.dup, 1) := by decide +kernel
theorem d_LM_feed_16 : decode b_LM_feed 16 = .ok (.invokespecial 65, 3) := by decide +kernel
theorem d_LM_feed_19 : decode b_LM_feed 19 = .ok (.athrow, 1) := by decide +kernel
theorem d_LM_feed_20 : decode b_LM_feed 20 = .ok (.aload_n 0, 1) := by decide +kernel
theorem d_LM_feed_21 : decode b_LM_feed 21 = .ok (.iload_n 1, 1) := by decide +kernel
theorem d_LM_feed_22 : decode b_LM_feed 22 = .ok (.invokevirtual 66, 3) := by decide +kernel
theorem d_LM_feed_25 : decode b_LM_feed 25 = .ok (.aload_n 0, 1) := by decide +kernel
theorem d_LM_feed_26 : decode b_LM_feed 26 = .ok (.iload_n 2, 1) := by decide +kernel
theorem d_LM_feed_27 : decode b_LM_feed 27 = .ok (.invokevirtual 66, 3) := by decide +kernel
theorem d_LM_feed_30 : decode b_LM_feed 30 = .ok (.aload_n 0, 1) := by decide +kernel
theorem d_LM_feed_31 : decode b_LM_feed 31 = .ok (.iload_n 3, 1) := by decide +kernel
theorem d_LM_feed_32 : decode b_LM_feed 32 = .ok (.invokevirtual 66, 3) := by decide +kernel
theorem d_LM_feed_35 : decode b_LM_feed 35 = .ok (.aload_n 0, 1) := by decide +kernel
theorem d_LM_feed_36 : decode b_LM_feed 36 = .ok (.iload 4, 2) := by decide +kernel
theorem d_LM_feed_38 : decode b_LM_feed 38 = .ok (.invokevirtual 66, 3) := by decide +kernel
theorem d_LM_feed_41 : decode b_LM_feed 41 = .ok (.aload_n 0, 1) := by decide +kernel
theorem d_LM_feed_42 : decode b_LM_feed 42 = .ok (.iload 5, 2) := by decide +kernel
theorem d_LM_feed_44 : decode b_LM_feed 44 = .ok (.invokevirtual 66, 3) := by decide +kernel
theorem d_LM_feed_47 : decode b_LM_feed 47 = .ok (.aload_n 0, 1) := by decide +kernel
theorem d_LM_feed_48 : decode b_LM_feed 48 = .ok (.getfield 58, 3) := by decide +kernel
theorem d_LM_feed_51 : decode b_LM_feed 51 = .ok (.ireturn, 1) := by decide +kernel
theorem kw_1044 : Cond.constant R_LM 62 65536 ∈ wA := kinm (show _ ∈ tables_1 from (List.mem_append_right _ (List.mem_append_right _ (List.mem_append_left _ (List.mem_of_getElem? (l := tables_1_3) (i := 4) (by decide +kernel)))))) (by decide +kernel)
theorem kw_1045 : Cond.methodLink R_LM 66 y_LM_putOnTape ∈ wA := kinm (show _ ∈ tables_1 from (List.mem_append_right _ (List.mem_append_right _ (List.mem_append_left _ (List.mem_of_getElem? (l := tables_1_3) (i := 71) (by decide +kernel)))))) (by decide +kernel)
theorem kw_1046 : Cond.instanceMethod y_LM_feed ∈ wA := kinm (show _ ∈ tables_1 from (List.mem_append_right _ (List.mem_append_right _ (List.mem_append_left _ (List.mem_of_getElem? (l := tables_1_3) (i := 1) (by decide +kernel)))))) (by decide +kernel)
theorem kw_1047 : Cond.selects R_LM y_LM_feed y_LM_feed ∈ wA := kinm (show _ ∈ tables_1 from (List.mem_append_right _ (List.mem_append_right _ (List.mem_append_left _ (List.mem_of_getElem? (l := tables_1_3) (i := 2) (by decide +kernel)))))) (by decide +kernel)
theorem cv_LM_feed : CV y_LM_feed b_LM_feed 6 (some .int) 5 := ⟨kw_1046, kw_1047, kw_647, k_LM_feed, by decide +kernel⟩
theorem ct_LM_feed {l : Launch} {P : PP} {q : PL} {s s' : S1} {l1 : Int32} {l2 : Int32} {l3 : Int32} {l4 : Int32} {l5 : Int32} {r : Int32} (h : M_LM_feed l1 l2 l3 l4 l5 s = some (r, s')) : Ct l y_LM_feed b_LM_feed 6 (some .int) 1 22 P q s [.ref (q.1 100 0), .int l1, .int l2, .int l3, .int l4, .int l5] (some (.int r)) q s' := by
  refine ct_of (by decide) (Nat.le_of_ble_eq_true rfl) fun X ls eP el g hR hl => ?_
  subst eP
  have hR : Rt X q ((r, s') : Int32 × S1).2 (some (.int ((r, s') : Int32 × S1).1)) := hR
  have hl : lv_has ls 6 [(0, .ref (q.1 100 0)), (1, .int l1), (2, .int l2), (3, .int l3), (4, .int l4), (5, .int l5)] := hl
  generalize (r, s') = o at h hR
  unfold M_LM_feed at h
  refine ww_aload_n (pc := 0) g.1 d_LM_feed_0 rfl (lv_at hl 0 rfl) ?_
  refine ww_gI (pc := 1) g (k := 0) cl_LM (pz rfl (by decide)) (by decide) (Or.inl kw_644) (f := 12800) rfl rfl d_LM_feed_1 h fun v1 h => ?_
  refine ww_bipush (pc := 4) g.1 (v := 20) d_LM_feed_4 (by decide) ?_
  refine ww_iadd (pc := 6) g.1 d_LM_feed_6 ?_
  refine ww_ldc (pc := 7) g (v := 65536) kw_1044 d_LM_feed_7 ?_
  refine ww_icmp_le (pc := 9) (tgt := 20) g.1 d_LM_feed_9 (by decide) h (fun c h => ?_) (fun c h => ?_)
  · refine ww_aload_n (pc := 20) g.1 d_LM_feed_20 rfl (lv_at hl 0 rfl) ?_
    refine ww_iload_n (pc := 21) g.1 d_LM_feed_21 rfl (lv_at hl 1 rfl) ?_
    obtain ⟨v22, s, hc22, h⟩ := oB_of h
    refine ww_callV (pc := 22) (rest := []) g cv_LM_putOnTape (Or.inl kw_1045) cl_LM (pz rfl (by decide)) (ct_LM_putOnTape hc22) ⟨by decide, by decide⟩ rfl hl.1 (Nat.le_of_ble_eq_true rfl) d_LM_feed_22 rfl (?_)
    refine ww_st (st' := []) rfl ?_
    refine ww_aload_n (pc := 25) g.1 d_LM_feed_25 rfl (lv_at hl 0 rfl) ?_
    refine ww_iload_n (pc := 26) g.1 d_LM_feed_26 rfl (lv_at hl 2 rfl) ?_
    obtain ⟨v27, s, hc27, h⟩ := oB_of h
    refine ww_callV (pc := 27) (rest := []) g cv_LM_putOnTape (Or.inl kw_1045) cl_LM (pz rfl (by decide)) (ct_LM_putOnTape hc27) ⟨by decide, by decide⟩ rfl hl.1 (Nat.le_of_ble_eq_true rfl) d_LM_feed_27 rfl (?_)
    refine ww_st (st' := []) rfl ?_
    refine ww_aload_n (pc := 30) g.1 d_LM_feed_30 rfl (lv_at hl 0 rfl) ?_
    refine ww_iload_n (pc := 31) g.1 d_LM_feed_31 rfl (lv_at hl 3 rfl) ?_
    obtain ⟨v32, s, hc32, h⟩ := oB_of h
    refine ww_callV (pc := 32) (rest := []) g cv_LM_putOnTape (Or.inl kw_1045) cl_LM (pz rfl (by decide)) (ct_LM_putOnTape hc32) ⟨by decide, by decide⟩ rfl hl.1 (Nat.le_of_ble_eq_true rfl) d_LM_feed_32 rfl (?_)
    refine ww_st (st' := []) rfl ?_
    refine ww_aload_n (pc := 35) g.1 d_LM_feed_35 rfl (lv_at hl 0 rfl) ?_
    refine ww_iload (pc := 36) g.1 d_LM_feed_36 (lv_at hl 4 rfl) ?_
    obtain ⟨v38, s, hc38, h⟩ := oB_of h
    refine ww_callV (pc := 38) (rest := []) g cv_LM_putOnTape (Or.inl kw_1045) cl_LM (pz rfl (by decide)) (ct_LM_putOnTape hc38) ⟨by decide, by decide⟩ rfl hl.1 (Nat.le_of_ble_eq_true rfl) d_LM_feed_38 rfl (?_)
    refine ww_st (st' := []) rfl ?_
    refine ww_aload_n (pc := 41) g.1 d_LM_feed_41 rfl (lv_at hl 0 rfl) ?_
    refine ww_iload (pc := 42) g.1 d_LM_feed_42 (lv_at hl 5 rfl) ?_
    obtain ⟨v44, s, hc44, h⟩ := oB_of h
    refine ww_callV (pc := 44) (rest := []) g cv_LM_putOnTape (Or.inl kw_1045) cl_LM (pz rfl (by decide)) (ct_LM_putOnTape hc44) ⟨by decide, by decide⟩ rfl hl.1 (Nat.le_of_ble_eq_true rfl) d_LM_feed_44 rfl (?_)
    refine ww_st (st' := []) rfl ?_
    refine ww_aload_n (pc := 47) g.1 d_LM_feed_47 rfl (lv_at hl 0 rfl) ?_
    refine ww_gI (pc := 48) g (k := 0) cl_LM (pz rfl (by decide)) (by decide) (Or.inl kw_644) (f := 12800) rfl rfl d_LM_feed_48 h fun v48 h => ?_
    exact ww_iretH (pc := 51) g h hR d_LM_feed_51
  · exact (oF_no h).elim

abbrev b_Ch_readHead : ByteArray := prog_3_method_8_code
def y_Ch_readHead : MethodName := ⟨R_Ch, "readHead", "(LLuaMachine$Prototype;)Z"⟩
abbrev w_Ch_readHead : List Cond := .code y_Ch_readHead b_Ch_readHead 3 (some .boolean) :: wA
set_option maxRecDepth 20000 in
theorem k_Ch_readHead : Cond.code y_Ch_readHead b_Ch_readHead 3 (some .boolean) ∈ wA := kinm (show _ ∈ tables_1 from (List.mem_append_right _ (List.mem_append_right _ (List.mem_append_left _ (List.mem_of_getElem? (l := tables_1_3) (i := 184) rfl))))) rfl
theorem d_Ch_readHead_0 : decode b_Ch_readHead 0 = .ok (.aload_n 1, 1) := by decide +kernel
theorem d_Ch_readHead_1 : decode b_Ch_readHead 1 = .ok (.getfield 88, 3) := by decide +kernel
theorem d_Ch_readHead_4 : decode b_Ch_readHead 4 = .ok (.ifCond .ge 7, 3) := by decide +kernel
theorem d_Ch_readHead_7 : decode b_Ch_readHead 7 = .ok (.iconst 1, 1) := by decide +kernel
theorem d_Ch_readHead_8 : decode b_Ch_readHead 8 = .ok (.goto 4, 3) := by decide +kernel
theorem d_Ch_readHead_11 : decode b_Ch_readHead 11 = .ok (.iconst 0, 1) := by decide +kernel
theorem d_Ch_readHead_12 : decode b_Ch_readHead 12 = .ok (.istore_n 2, 1) := by decide +kernel
theorem d_Ch_readHead_13 : decode b_Ch_readHead 13 = .ok (.aload_n 1, 1) := by decide +kernel
theorem d_Ch_readHead_14 : decode b_Ch_readHead 14 = .ok (.aload_n 0, 1) := by decide +kernel
theorem d_Ch_readHead_15 : decode b_Ch_readHead 15 = .ok (.iconst 1, 1) := by decide +kernel
theorem d_Ch_readHead_16 : decode b_Ch_readHead 16 = .ok (.invokevirtual 104, 3) := by decide +kernel
theorem d_Ch_readHead_19 : decode b_Ch_readHead 19 = .ok (.putfield 107, 3) := by decide +kernel
theorem d_Ch_readHead_22 : decode b_Ch_readHead 22 = .ok (.aload_n 1, 1) := by decide +kernel
theorem d_Ch_readHead_23 : decode b_Ch_readHead 23 = .ok (.getfield 107, 3) := by decide +kernel
theorem d_Ch_readHead_26 : decode b_Ch_readHead 26 = .ok (.ifCond .ge 5, 3) := by decide +kernel
theorem d_Ch_readHead_29 : decode b_Ch_readHead 29 = .ok (.iconst 0, 1) := by decide +kernel
theorem d_Ch_readHead_30 : decode b_Ch_readHead 30 = .ok (.ireturn, 1) := by decide +kernel
theorem d_Ch_readHead_31 : decode b_Ch_readHead 31 = .ok (.aload_n 1, 1) := by decide +kernel
theorem d_Ch_readHead_32 : decode b_Ch_readHead 32 = .ok (.aload_n 0, 1) := by decide +kernel
theorem d_Ch_readHead_33 : decode b_Ch_readHead 33 = .ok (.iconst 1, 1) := by decide +kernel
theorem d_Ch_readHead_34 : decode b_Ch_readHead 34 = .ok (.invokevirtual 104, 3) := by decide +kernel
theorem d_Ch_readHead_37 : decode b_Ch_readHead 37 = .ok (.putfield 110, 3) := by decide +kernel
theorem d_Ch_readHead_40 : decode b_Ch_readHead 40 = .ok (.aload_n 1, 1) := by decide +kernel
theorem d_Ch_readHead_41 : decode b_Ch_readHead 41 = .ok (.getfield 110, 3) := by decide +kernel
theorem d_Ch_readHead_44 : decode b_Ch_readHead 44 = .ok (.ifCond .ge 5, 3) := by decide +kernel
theorem d_Ch_readHead_47 : decode b_Ch_readHead 47 = .ok (.iconst 0, 1) := by decide +kernel
theorem d_Ch_readHead_48 : decode b_Ch_readHead 48 = .ok (.ireturn, 1) := by decide +kernel
theorem d_Ch_readHead_49 : decode b_Ch_readHead 49 = .ok (.aload_n 1, 1) := by decide +kernel
theorem d_Ch_readHead_50 : decode b_Ch_readHead 50 = .ok (.getfield 110, 3) := by decide +kernel
theorem d_Ch_readHead_53 : decode b_Ch_readHead 53 = .ok (.iconst 1, 1) := by decide +kernel
theorem d_Ch_readHead_54 : decode b_Ch_readHead 54 = .ok (.if_icmp .gt 14, 3) := by decide +kernel
theorem d_Ch_readHead_57 : decode b_Ch_readHead 57 = .ok (.iload_n 2, 1) := by decide +kernel
theorem d_Ch_readHead_58 : decode b_Ch_readHead 58 = .ok (.ifCond .eq 22, 3) := by decide +kernel
theorem d_Ch_readHead_61 : decode b_Ch_readHead 61 = .ok (.aload_n 1, 1) := by decide +kernel
theorem d_Ch_readHead_62 : decode b_Ch_readHead 62 = .ok (.getfield 110, 3) := by decide +kernel
theorem d_Ch_readHead_65 : decode b_Ch_readHead 65 = .ok (.ifCond .ne 15, 3) := by decide +kernel
theorem d_Ch_readHead_68 : decode b_Ch_readHead 68 = .ok (.aload_n 0, 1) := by decide +kernel
theorem d_Ch_readHead_69 : decode b_Ch_readHead 69 = .ok (.iconst 2, 1) := by decide +kernel
theorem d_Ch_readHead_70 : decode b_Ch_readHead 70 = .ok (.aload_n 0, 1) := by decide +kernel
theorem d_Ch_readHead_71 : decode b_Ch_readHead 71 = .ok (.getfield 57, 3) := by decide +kernel
theorem d_Ch_readHead_74 : decode b_Ch_readHead 74 = .ok (.iconst 1, 1) := by decide +kernel
theorem d_Ch_readHead_75 : decode b_Ch_readHead 75 = .ok (.isub, 1) := by decide +kernel
theorem d_Ch_readHead_76 : decode b_Ch_readHead 76 = .ok (.invokevirtual 63, 3) := by decide +kernel
theorem d_Ch_readHead_79 : decode b_Ch_readHead 79 = .ok (.ireturn, 1) := by decide +kernel
theorem d_Ch_readHead_80 : decode b_Ch_readHead 80 = .ok (.aload_n 1, 1) := by decide +kernel
theorem d_Ch_readHead_81 : decode b_Ch_readHead 81 = .ok (.aload_n 0, 1) := by decide +kernel
theorem d_Ch_readHead_82 : decode b_Ch_readHead 82 = .ok (.iconst 1, 1) := by decide +kernel
theorem d_Ch_readHead_83 : decode b_Ch_readHead 83 = .ok (.invokevirtual 104, 3) := by decide +kernel
theorem d_Ch_readHead_86 : decode b_Ch_readHead 86 = .ok (.putfield 113, 3) := by decide +kernel
theorem d_Ch_readHead_89 : decode b_Ch_readHead 89 = .ok (.aload_n 1, 1) := by decide +kernel
theorem d_Ch_readHead_90 : decode b_Ch_readHead 90 = .ok (.getfield 113, 3) := by decide +kernel
theorem d_Ch_readHead_93 : decode b_Ch_readHead 93 = .ok (.ifCond .ge 5, 3) := by decide +kernel
theorem d_Ch_readHead_96 : decode b_Ch_readHead 96 = .ok (.iconst 0, 1) := by decide +kernel
theorem d_Ch_readHead_97 : decode b_Ch_readHead 97 = .ok (.ireturn, 1) := by decide +kernel
theorem d_Ch_readHead_98 : decode b_Ch_readHead 98 = .ok (.aload_n 1, 1) := by decide +kernel
theorem d_Ch_readHead_99 : decode b_Ch_readHead 99 = .ok (.getfield 113, 3) := by decide +kernel
theorem d_Ch_readHead_102 : decode b_Ch_readHead 102 = .ok (.iconst 2, 1) := by decide +kernel
theorem d_Ch_readHead_103 : decode b_Ch_readHead 103 = .ok (.if_icmp .lt 24, 3) := by decide +kernel
theorem d_Ch_readHead_106 : decode b_Ch_readHead 106 = .ok (.aload_n 1, 1) := by decide +kernel
theorem d_Ch_readHead_107 : decode b_Ch_readHead 107 = .ok (.getfield 113, 3) := by decide +kernel
theorem d_Ch_readHead_110 : decode b_Ch_readHead 110 = .ok (.sipush 250, 3) := by decide +kernel
theorem d_Ch_readHead_113 : decode b_Ch_readHead 113 = .ok (.if_icmp .gt 14, 3) := by decide +kernel
theorem d_Ch_readHead_116 : decode b_Ch_readHead 116 = .ok (.aload_n 1, 1) := by decide +kernel
theorem d_Ch_readHead_117 : decode b_Ch_readHead 117 = .ok (.getfield 113, 3) := by decide +kernel
theorem d_Ch_readHead_120 : decode b_Ch_readHead 120 = .ok (.aload_n 1, 1) := by decide +kernel
theorem d_Ch_readHead_121 : decode b_Ch_readHead 121 = .ok (.getfield 107, 3) := by decide +kernel
theorem d_Ch_readHead_124 : decode b_Ch_readHead 124 = .ok (.if_icmp .ge 15, 3) := by decide +kernel
theorem d_Ch_readHead_127 : decode b_Ch_readHead 127 = .ok (.aload_n 0, 1) := by decide +kernel
theorem d_Ch_readHead_128 : decode b_Ch_readHead 128 = .ok (.iconst 2, 1) := by decide +kernel
theorem d_Ch_readHead_129 : decode b_Ch_readHead 129 = .ok (.aload_n 0, 1) := by decide +kernel
theorem d_Ch_readHead_130 : decode b_Ch_readHead 130 = .ok (.getfield 57, 3) := by decide +kernel
theorem d_Ch_readHead_133 : decode b_Ch_readHead 133 = .ok (.iconst 1, 1) := by decide +kernel
theorem d_Ch_readHead_134 : decode b_Ch_readHead 134 = .ok (.isub, 1) := by decide +kernel
theorem d_Ch_readHead_135 : decode b_Ch_readHead 135 = .ok (.invokevirtual 63, 3) := by decide +kernel
theorem d_Ch_readHead_138 : decode b_Ch_readHead 138 = .ok (.ireturn, 1) := by decide +kernel
theorem d_Ch_readHead_139 : decode b_Ch_readHead 139 = .ok (.aload_n 1, 1) := by decide +kernel
theorem d_Ch_readHead_140 : decode b_Ch_readHead 140 = .ok (.aload_n 0, 1) := by decide +kernel
theorem d_Ch_readHead_141 : decode b_Ch_readHead 141 = .ok (.iconst 1, 1) := by decide +kernel
theorem d_Ch_readHead_142 : decode b_Ch_readHead 142 = .ok (.invokevirtual 104, 3) := by decide +kernel
theorem d_Ch_readHead_145 : decode b_Ch_readHead 145 = .ok (.putfield 116, 3) := by decide +kernel
theorem d_Ch_readHead_148 : decode b_Ch_readHead 148 = .ok (.aload_n 1, 1) := by decide +kernel
theorem d_Ch_readHead_149 : decode b_Ch_readHead 149 = .ok (.getfield 116, 3) := by decide +kernel
theorem d_Ch_readHead_152 : decode b_Ch_readHead 152 = .ok (.ifCond .ge 5, 3) := by decide +kernel
theorem d_Ch_readHead_155 : decode b_Ch_readHead 155 = .ok (.iconst 0, 1) := by decide +kernel
theorem d_Ch_readHead_156 : decode b_Ch_readHead 156 = .ok (.ireturn, 1) := by decide +kernel
theorem d_Ch_readHead_157 : decode b_Ch_readHead 157 = .ok (.aload_n 1, 1) := by decide +kernel
theorem d_Ch_readHead_158 : decode b_Ch_readHead 158 = .ok (.getfield 116, 3) := by decide +kernel
theorem d_Ch_readHead_161 : decode b_Ch_readHead 161 = .ok (.bipush 60, 2) := by decide +kernel
theorem d_Ch_readHead_163 : decode b_Ch_readHead 163 = .ok (.if_icmp .gt 15, 3) := by decide +kernel
theorem d_Ch_readHead_166 : decode b_Ch_readHead 166 = .ok (.iload_n 2, 1) := by decide +kernel
theorem d_Ch_readHead_167 : decode b_Ch_readHead 167 = .ok (.ifCond .eq 23, 3) := by decide +kernel
theorem d_Ch_readHead_170 : decode b_Ch_readHead 170 = .ok (.aload_n 1, 1) := by decide +kernel
theorem d_Ch_readHead_171 : decode b_Ch_readHead 171 = .ok (.getfield 116, 3) := by decide +kernel
theorem d_Ch_readHead_174 : decode b_Ch_readHead 174 = .ok (.iconst 1, 1) := by decide +kernel
theorem d_Ch_readHead_175 : decode b_Ch_readHead 175 = .ok (.if_icmp .eq 15, 3) := by decide +kernel
theorem d_Ch_readHead_178 : decode b_Ch_readHead 178 = .ok (.aload_n 0, 1) := by decide +kernel
theorem d_Ch_readHead_179 : decode b_Ch_readHead 179 = .ok (.iconst 2, 1) := by decide +kernel
theorem d_Ch_readHead_180 : decode b_Ch_readHead 180 = .ok (.aload_n 0, 1) := by decide +kernel
theorem d_Ch_readHead_181 : decode b_Ch_readHead 181 = .ok (.getfield 57, 3) := by decide +kernel
theorem d_Ch_readHead_184 : decode b_Ch_readHead 184 = .ok (.iconst 1, 1) := by decide +kernel
theorem d_Ch_readHead_185 : decode b_Ch_readHead 185 = .ok (.isub, 1) := by decide +kernel
theorem d_Ch_readHead_186 : decode b_Ch_readHead 186 = .ok (.invokevirtual 63, 3) := by decide +kernel
theorem d_Ch_readHead_189 : decode b_Ch_readHead 189 = .ok (.ireturn, 1) := by decide +kernel
theorem d_Ch_readHead_190 : decode b_Ch_readHead 190 = .ok (.iconst 1, 1) := by decide +kernel
theorem d_Ch_readHead_191 : decode b_Ch_readHead 191 = .ok (.ireturn, 1) := by decide +kernel
theorem kw_1048 : Cond.fieldLink R_Ch 107 "LuaMachine$Prototype" "parameters" "I" ∈ wA := kinm (show _ ∈ tables_1 from (List.mem_append_right _ (List.mem_append_right _ (List.mem_append_left _ (List.mem_of_getElem? (l := tables_1_3) (i := 131) (by decide +kernel)))))) (by decide +kernel)
theorem kw_1049 : Cond.fieldLink R_Ch 110 "LuaMachine$Prototype" "takesMore" "I" ∈ wA := kinm (show _ ∈ tables_1 from (List.mem_append_right _ (List.mem_append_right _ (List.mem_append_left _ (List.mem_of_getElem? (l := tables_1_3) (i := 133) (by decide +kernel)))))) (by decide +kernel)
theorem kw_1050 : Cond.instanceMethod y_Ch_readHead ∈ wA := kinm (show _ ∈ tables_1 from (List.mem_append_right _ (List.mem_append_right _ (List.mem_append_left _ (List.mem_of_getElem? (l := tables_1_3) (i := 183) (by decide +kernel)))))) (by decide +kernel)
theorem kw_1051 : Cond.selects R_Ch y_Ch_readHead y_Ch_readHead ∈ wA := kinp 6 (by decide +kernel) (by decide +kernel)
theorem cv_Ch_readHead : CV y_Ch_readHead b_Ch_readHead 3 (some .boolean) 1 := ⟨kw_1050, kw_1051, kw_664, k_Ch_readHead, by decide +kernel⟩
theorem j_Ch_readHead_j68 {X : Cx} {q : PL} (g : Gd X y_Ch_readHead b_Ch_readHead 3 (some .boolean) 2 45 R_Ch) {o : (Int32) × S1} (hR : Rt X q o.2 (some (.int o.1)))  (s : S1) (ls : Array Slot) (hl : lv_has ls 3 [(0, .ref (q.1 101 0))]) (h : M_Ch_readHead_j68 s = some o) : WW X q s 68 ls [] := by
  unfold M_Ch_readHead_j68 at h
  refine ww_aload_n (pc := 68) g.1 d_Ch_readHead_68 rfl (lv_at hl 0 rfl) ?_
  refine ww_iconst (pc := 69) g.1 (v := 2) d_Ch_readHead_69 (by decide) ?_
  refine ww_aload_n (pc := 70) g.1 d_Ch_readHead_70 rfl (lv_at hl 0 rfl) ?_
  refine ww_gI (pc := 71) g (k := 14) cl_Ch (pz rfl (by decide)) (by decide) (Or.inl kw_655) (f := 12942) rfl rfl d_Ch_readHead_71 h fun v71 h => ?_
  refine ww_iconst (pc := 74) g.1 (v := 1) d_Ch_readHead_74 (by decide) ?_
  refine ww_isub (pc := 75) g.1 d_Ch_readHead_75 ?_
  obtain ⟨v76, s, hc76, h⟩ := oB_of h
  refine ww_callV (pc := 76) (rest := []) g cv_Ch_refuse (Or.inl kw_671) cl_Ch (pz rfl (by decide)) (ct_Ch_refuse hc76) ⟨by decide, by decide⟩ rfl hl.1 (Nat.le_of_ble_eq_true rfl) d_Ch_readHead_76 rfl (?_)
  refine ww_st (st' := [.int v76]) rfl ?_
  refine ww_ok h fun cz h => ?_
  exact ww_zretH (pc := 79) g h hR cz d_Ch_readHead_79

theorem j_Ch_readHead_j127 {X : Cx} {q : PL} (g : Gd X y_Ch_readHead b_Ch_readHead 3 (some .boolean) 2 45 R_Ch) {o : (Int32) × S1} (hR : Rt X q o.2 (some (.int o.1)))  (s : S1) (ls : Array Slot) (hl : lv_has ls 3 [(0, .ref (q.1 101 0))]) (h : M_Ch_readHead_j127 s = some o) : WW X q s 127 ls [] := by
  unfold M_Ch_readHead_j127 at h
  refine ww_aload_n (pc := 127) g.1 d_Ch_readHead_127 rfl (lv_at hl 0 rfl) ?_
  refine ww_iconst (pc := 128) g.1 (v := 2) d_Ch_readHead_128 (by decide) ?_
  refine ww_aload_n (pc := 129) g.1 d_Ch_readHead_129 rfl (lv_at hl 0 rfl) ?_
  refine ww_gI (pc := 130) g (k := 14) cl_Ch (pz rfl (by decide)) (by decide) (Or.inl kw_655) (f := 12942) rfl rfl d_Ch_readHead_130 h fun v130 h => ?_
  refine ww_iconst (pc := 133) g.1 (v := 1) d_Ch_readHead_133 (by decide) ?_
  refine ww_isub (pc := 134) g.1 d_Ch_readHead_134 ?_
  obtain ⟨v135, s, hc135, h⟩ := oB_of h
  refine ww_callV (pc := 135) (rest := []) g cv_Ch_refuse (Or.inl kw_671) cl_Ch (pz rfl (by decide)) (ct_Ch_refuse hc135) ⟨by decide, by decide⟩ rfl hl.1 (Nat.le_of_ble_eq_true rfl) d_Ch_readHead_135 rfl (?_)
  refine ww_st (st' := [.int v135]) rfl ?_
  refine ww_ok h fun cz h => ?_
  exact ww_zretH (pc := 138) g h hR cz d_Ch_readHead_138

theorem j_Ch_readHead_j178 {X : Cx} {q : PL} (g : Gd X y_Ch_readHead b_Ch_readHead 3 (some .boolean) 2 45 R_Ch) {o : (Int32) × S1} (hR : Rt X q o.2 (some (.int o.1)))  (s : S1) (ls : Array Slot) (hl : lv_has ls 3 [(0, .ref (q.1 101 0))]) (h : M_Ch_readHead_j178 s = some o) : WW X q s 178 ls [] := by
  unfold M_Ch_readHead_j178 at h
  refine ww_aload_n (pc := 178) g.1 d_Ch_readHead_178 rfl (lv_at hl 0 rfl) ?_
  refine ww_iconst (pc := 179) g.1 (v := 2) d_Ch_readHead_179 (by decide) ?_
  refine ww_aload_n (pc := 180) g.1 d_Ch_readHead_180 rfl (lv_at hl 0 rfl) ?_
  refine ww_gI (pc := 181) g (k := 14) cl_Ch (pz rfl (by decide)) (by decide) (Or.inl kw_655) (f := 12942) rfl rfl d_Ch_readHead_181 h fun v181 h => ?_
  refine ww_iconst (pc := 184) g.1 (v := 1) d_Ch_readHead_184 (by decide) ?_
  refine ww_isub (pc := 185) g.1 d_Ch_readHead_185 ?_
  obtain ⟨v186, s, hc186, h⟩ := oB_of h
  refine ww_callV (pc := 186) (rest := []) g cv_Ch_refuse (Or.inl kw_671) cl_Ch (pz rfl (by decide)) (ct_Ch_refuse hc186) ⟨by decide, by decide⟩ rfl hl.1 (Nat.le_of_ble_eq_true rfl) d_Ch_readHead_186 rfl (?_)
  refine ww_st (st' := [.int v186]) rfl ?_
  refine ww_ok h fun cz h => ?_
  exact ww_zretH (pc := 189) g h hR cz d_Ch_readHead_189

theorem j_Ch_readHead_j80 {X : Cx} {q : PL} (g : Gd X y_Ch_readHead b_Ch_readHead 3 (some .boolean) 2 45 R_Ch) {o : (Int32) × S1} (hR : Rt X q o.2 (some (.int o.1))) (l1 : Int32) (l2 : Int32) (s : S1) (hp0 : prs s 144 l1) (ls : Array Slot) (hl : lv_has ls 3 [(0, .ref (q.1 101 0)), (1, .ref (q.1 144 l1)), (2, .int l2)]) (h : M_Ch_readHead_j80 l1 l2 s = some o) : WW X q s 80 ls [] := by
  unfold M_Ch_readHead_j80 at h
  refine ww_aload_n (pc := 80) g.1 d_Ch_readHead_80 rfl (lv_at hl 1 rfl) ?_
  refine ww_aload_n (pc := 81) g.1 d_Ch_readHead_81 rfl (lv_at hl 0 rfl) ?_
  refine ww_iconst (pc := 82) g.1 (v := 1) d_Ch_readHead_82 (by decide) ?_
  refine ww_lo fun dlo => ?_
  obtain ⟨v83, s, hc83, h⟩ := oB_of h
  refine ww_callV (pc := 83) (rest := [.ref (q.1 144 l1)]) g cv_Ch_readNumber (Or.inl kw_680) cl_Ch (pz rfl (by decide)) (ct_Ch_readNumber hc83) ⟨by decide, by decide⟩ rfl hl.1 (Nat.le_of_ble_eq_true rfl) d_Ch_readHead_83 rfl (?_)
  refine ww_st (st' := [.int v83, .ref (q.1 144 l1)]) rfl ?_
  refine ww_hi fun dhi => ?_
  have hp0 : prs s 144 l1 := dhi _ _ hp0.2.1 hp0.2.2 (dlo _ _ hp0)
  refine ww_pI (pc := 86) g (k := 2) cl_Pr hp0 (by decide) (Or.inl kw_675) rfl (f := 18434) rfl rfl rfl rfl d_Ch_readHead_86 h fun s hs h => ?_
  have hp0 : prs s 144 l1 := prs_kI (r := 144) (k := 2) (by decide) hs hp0
  refine ww_aload_n (pc := 89) g.1 d_Ch_readHead_89 rfl (lv_at hl 1 rfl) ?_
  refine ww_gI (pc := 90) g (k := 2) cl_Pr hp0 (by decide) (Or.inl kw_675) (f := 18434) rfl rfl d_Ch_readHead_90 h fun v90 h => ?_
  refine ww_if_ge (pc := 93) (tgt := 98) g.1 d_Ch_readHead_93 (by decide) h (fun c h => ?_) (fun c h => ?_)
  · refine ww_aload_n (pc := 98) g.1 d_Ch_readHead_98 rfl (lv_at hl 1 rfl) ?_
    refine ww_gI (pc := 99) g (k := 2) cl_Pr hp0 (by decide) (Or.inl kw_675) (f := 18434) rfl rfl d_Ch_readHead_99 h fun v99 h => ?_
    refine ww_iconst (pc := 102) g.1 (v := 2) d_Ch_readHead_102 (by decide) ?_
    refine ww_icmp_lt (pc := 103) (tgt := 127) g.1 d_Ch_readHead_103 (by decide) h (fun c h => ?_) (fun c h => ?_)
    · exact j_Ch_readHead_j127 g hR s ls (lv_sub hl [0] rfl) h
    · refine ww_aload_n (pc := 106) g.1 d_Ch_readHead_106 rfl (lv_at hl 1 rfl) ?_
      refine ww_gI (pc := 107) g (k := 2) cl_Pr hp0 (by decide) (Or.inl kw_675) (f := 18434) rfl rfl d_Ch_readHead_107 h fun v107 h => ?_
      refine ww_sipush (pc := 110) g.1 (v := 250) d_Ch_readHead_110 (by decide) ?_
      refine ww_icmp_gt (pc := 113) (tgt := 127) g.1 d_Ch_readHead_113 (by decide) h (fun c h => ?_) (fun c h => ?_)
      · exact j_Ch_readHead_j127 g hR s ls (lv_sub hl [0] rfl) h
      · refine ww_aload_n (pc := 116) g.1 d_Ch_readHead_116 rfl (lv_at hl 1 rfl) ?_
        refine ww_gI (pc := 117) g (k := 2) cl_Pr hp0 (by decide) (Or.inl kw_675) (f := 18434) rfl rfl d_Ch_readHead_117 h fun v117 h => ?_
        refine ww_aload_n (pc := 120) g.1 d_Ch_readHead_120 rfl (lv_at hl 1 rfl) ?_
        refine ww_gI (pc := 121) g (k := 0) cl_Pr hp0 (by decide) (Or.inl kw_1048) (f := 18432) rfl rfl d_Ch_readHead_121 h fun v121 h => ?_
        refine ww_icmp_ge (pc := 124) (tgt := 139) g.1 d_Ch_readHead_124 (by decide) h (fun c h => ?_) (fun c h => ?_)
        · refine ww_aload_n (pc := 139) g.1 d_Ch_readHead_139 rfl (lv_at hl 1 rfl) ?_
          refine ww_aload_n (pc := 140) g.1 d_Ch_readHead_140 rfl (lv_at hl 0 rfl) ?_
          refine ww_iconst (pc := 141) g.1 (v := 1) d_Ch_readHead_141 (by decide) ?_
          refine ww_lo fun dlo => ?_
          obtain ⟨v142, s, hc142, h⟩ := oB_of h
          refine ww_callV (pc := 142) (rest := [.ref (q.1 144 l1)]) g cv_Ch_readNumber (Or.inl kw_680) cl_Ch (pz rfl (by decide)) (ct_Ch_readNumber hc142) ⟨by decide, by decide⟩ rfl hl.1 (Nat.le_of_ble_eq_true rfl) d_Ch_readHead_142 rfl (?_)
          refine ww_st (st' := [.int v142, .ref (q.1 144 l1)]) rfl ?_
          refine ww_hi fun dhi => ?_
          have hp0 : prs s 144 l1 := dhi _ _ hp0.2.1 hp0.2.2 (dlo _ _ hp0)
          refine ww_pI (pc := 145) g (k := 3) cl_Pr hp0 (by decide) (Or.inl kw_674) rfl (f := 18435) rfl rfl rfl rfl d_Ch_readHead_145 h fun s hs h => ?_
          have hp0 : prs s 144 l1 := prs_kI (r := 144) (k := 3) (by decide) hs hp0
          refine ww_aload_n (pc := 148) g.1 d_Ch_readHead_148 rfl (lv_at hl 1 rfl) ?_
          refine ww_gI (pc := 149) g (k := 3) cl_Pr hp0 (by decide) (Or.inl kw_674) (f := 18435) rfl rfl d_Ch_readHead_149 h fun v149 h => ?_
          refine ww_if_ge (pc := 152) (tgt := 157) g.1 d_Ch_readHead_152 (by decide) h (fun c h => ?_) (fun c h => ?_)
          · refine ww_aload_n (pc := 157) g.1 d_Ch_readHead_157 rfl (lv_at hl 1 rfl) ?_
            refine ww_gI (pc := 158) g (k := 3) cl_Pr hp0 (by decide) (Or.inl kw_674) (f := 18435) rfl rfl d_Ch_readHead_158 h fun v158 h => ?_
            refine ww_bipush (pc := 161) g.1 (v := 60) d_Ch_readHead_161 (by decide) ?_
            refine ww_icmp_gt (pc := 163) (tgt := 178) g.1 d_Ch_readHead_163 (by decide) h (fun c h => ?_) (fun c h => ?_)
            · exact j_Ch_readHead_j178 g hR s ls (lv_sub hl [0] rfl) h
            · refine ww_iload_n (pc := 166) g.1 d_Ch_readHead_166 rfl (lv_at hl 2 rfl) ?_
              refine ww_if_eq (pc := 167) (tgt := 190) g.1 d_Ch_readHead_167 (by decide) h (fun c h => ?_) (fun c h => ?_)
              · refine ww_iconst (pc := 190) g.1 (v := 1) d_Ch_readHead_190 (by decide) ?_
                exact ww_zretH (pc := 191) g h hR (Or.inr rfl) d_Ch_readHead_191
              · refine ww_aload_n (pc := 170) g.1 d_Ch_readHead_170 rfl (lv_at hl 1 rfl) ?_
                refine ww_gI (pc := 171) g (k := 3) cl_Pr hp0 (by decide) (Or.inl kw_674) (f := 18435) rfl rfl d_Ch_readHead_171 h fun v171 h => ?_
                refine ww_iconst (pc := 174) g.1 (v := 1) d_Ch_readHead_174 (by decide) ?_
                refine ww_icmp_eq (pc := 175) (tgt := 190) g.1 d_Ch_readHead_175 (by decide) h (fun c h => ?_) (fun c h => ?_)
                · refine ww_iconst (pc := 190) g.1 (v := 1) d_Ch_readHead_190 (by decide) ?_
                  exact ww_zretH (pc := 191) g h hR (Or.inr rfl) d_Ch_readHead_191
                · exact j_Ch_readHead_j178 g hR s ls (lv_sub hl [0] rfl) h
          · refine ww_iconst (pc := 155) g.1 (v := 0) d_Ch_readHead_155 (by decide) ?_
            exact ww_zretH (pc := 156) g h hR (Or.inl rfl) d_Ch_readHead_156
        · exact j_Ch_readHead_j127 g hR s ls (lv_sub hl [0] rfl) h
  · refine ww_iconst (pc := 96) g.1 (v := 0) d_Ch_readHead_96 (by decide) ?_
    exact ww_zretH (pc := 97) g h hR (Or.inl rfl) d_Ch_readHead_97

theorem j_Ch_readHead_j12 {X : Cx} {q : PL} (g : Gd X y_Ch_readHead b_Ch_readHead 3 (some .boolean) 2 45 R_Ch) {o : (Int32) × S1} (hR : Rt X q o.2 (some (.int o.1))) (l1 : Int32) (k0 : Int32) (s : S1) (hp0 : prs s 144 l1) (ls : Array Slot) (hl : lv_has ls 3 [(0, .ref (q.1 101 0)), (1, .ref (q.1 144 l1))]) (h : M_Ch_readHead_j12 l1 k0 s = some o) : WW X q s 12 ls [.int k0] := by
  unfold M_Ch_readHead_j12 at h
  refine ww_istore_n (pc := 12) (i := 2) g.1 (lv' := [(2, .int k0), (0, .ref (q.1 101 0)), (1, .ref (q.1 144 l1))]) d_Ch_readHead_12 rfl hl (by decide) rfl fun ls hl => ?_
  refine ww_aload_n (pc := 13) g.1 d_Ch_readHead_13 rfl (lv_at hl 2 rfl) ?_
  refine ww_aload_n (pc := 14) g.1 d_Ch_readHead_14 rfl (lv_at hl 1 rfl) ?_
  refine ww_iconst (pc := 15) g.1 (v := 1) d_Ch_readHead_15 (by decide) ?_
  refine ww_lo fun dlo => ?_
  obtain ⟨v16, s, hc16, h⟩ := oB_of h
  refine ww_callV (pc := 16) (rest := [.ref (q.1 144 l1)]) g cv_Ch_readNumber (Or.inl kw_680) cl_Ch (pz rfl (by decide)) (ct_Ch_readNumber hc16) ⟨by decide, by decide⟩ rfl hl.1 (Nat.le_of_ble_eq_true rfl) d_Ch_readHead_16 rfl (?_)
  refine ww_st (st' := [.int v16, .ref (q.1 144 l1)]) rfl ?_
  refine ww_hi fun dhi => ?_
  have hp0 : prs s 144 l1 := dhi _ _ hp0.2.1 hp0.2.2 (dlo _ _ hp0)
  refine ww_pI (pc := 19) g (k := 0) cl_Pr hp0 (by decide) (Or.inl kw_1048) rfl (f := 18432) rfl rfl rfl rfl d_Ch_readHead_19 h fun s hs h => ?_
  have hp0 : prs s 144 l1 := prs_kI (r := 144) (k := 0) (by decide) hs hp0
  refine ww_aload_n (pc := 22) g.1 d_Ch_readHead_22 rfl (lv_at hl 2 rfl) ?_
  refine ww_gI (pc := 23) g (k := 0) cl_Pr hp0 (by decide) (Or.inl kw_1048) (f := 18432) rfl rfl d_Ch_readHead_23 h fun v23 h => ?_
  refine ww_if_ge (pc := 26) (tgt := 31) g.1 d_Ch_readHead_26 (by decide) h (fun c h => ?_) (fun c h => ?_)
  · refine ww_aload_n (pc := 31) g.1 d_Ch_readHead_31 rfl (lv_at hl 2 rfl) ?_
    refine ww_aload_n (pc := 32) g.1 d_Ch_readHead_32 rfl (lv_at hl 1 rfl) ?_
    refine ww_iconst (pc := 33) g.1 (v := 1) d_Ch_readHead_33 (by decide) ?_
    refine ww_lo fun dlo => ?_
    obtain ⟨v34, s, hc34, h⟩ := oB_of h
    refine ww_callV (pc := 34) (rest := [.ref (q.1 144 l1)]) g cv_Ch_readNumber (Or.inl kw_680) cl_Ch (pz rfl (by decide)) (ct_Ch_readNumber hc34) ⟨by decide, by decide⟩ rfl hl.1 (Nat.le_of_ble_eq_true rfl) d_Ch_readHead_34 rfl (?_)
    refine ww_st (st' := [.int v34, .ref (q.1 144 l1)]) rfl ?_
    refine ww_hi fun dhi => ?_
    have hp0 : prs s 144 l1 := dhi _ _ hp0.2.1 hp0.2.2 (dlo _ _ hp0)
    refine ww_pI (pc := 37) g (k := 1) cl_Pr hp0 (by decide) (Or.inl kw_1049) rfl (f := 18433) rfl rfl rfl rfl d_Ch_readHead_37 h fun s hs h => ?_
    have hp0 : prs s 144 l1 := prs_kI (r := 144) (k := 1) (by decide) hs hp0
    refine ww_aload_n (pc := 40) g.1 d_Ch_readHead_40 rfl (lv_at hl 2 rfl) ?_
    refine ww_gI (pc := 41) g (k := 1) cl_Pr hp0 (by decide) (Or.inl kw_1049) (f := 18433) rfl rfl d_Ch_readHead_41 h fun v41 h => ?_
    refine ww_if_ge (pc := 44) (tgt := 49) g.1 d_Ch_readHead_44 (by decide) h (fun c h => ?_) (fun c h => ?_)
    · refine ww_aload_n (pc := 49) g.1 d_Ch_readHead_49 rfl (lv_at hl 2 rfl) ?_
      refine ww_gI (pc := 50) g (k := 1) cl_Pr hp0 (by decide) (Or.inl kw_1049) (f := 18433) rfl rfl d_Ch_readHead_50 h fun v50 h => ?_
      refine ww_iconst (pc := 53) g.1 (v := 1) d_Ch_readHead_53 (by decide) ?_
      refine ww_icmp_gt (pc := 54) (tgt := 68) g.1 d_Ch_readHead_54 (by decide) h (fun c h => ?_) (fun c h => ?_)
      · exact j_Ch_readHead_j68 g hR s ls (lv_sub hl [1] rfl) h
      · refine ww_iload_n (pc := 57) g.1 d_Ch_readHead_57 rfl (lv_at hl 0 rfl) ?_
        refine ww_if_eq (pc := 58) (tgt := 80) g.1 d_Ch_readHead_58 (by decide) h (fun c h => ?_) (fun c h => ?_)
        · exact j_Ch_readHead_j80 g hR l1 k0 s hp0 ls (lv_sub hl [1, 2, 0] rfl) h
        · refine ww_aload_n (pc := 61) g.1 d_Ch_readHead_61 rfl (lv_at hl 2 rfl) ?_
          refine ww_gI (pc := 62) g (k := 1) cl_Pr hp0 (by decide) (Or.inl kw_1049) (f := 18433) rfl rfl d_Ch_readHead_62 h fun v62 h => ?_
          refine ww_if_ne (pc := 65) (tgt := 80) g.1 d_Ch_readHead_65 (by decide) h (fun c h => ?_) (fun c h => ?_)
          · exact j_Ch_readHead_j80 g hR l1 k0 s hp0 ls (lv_sub hl [1, 2, 0] rfl) h
          · exact j_Ch_readHead_j68 g hR s ls (lv_sub hl [1] rfl) h
    · refine ww_iconst (pc := 47) g.1 (v := 0) d_Ch_readHead_47 (by decide) ?_
      exact ww_zretH (pc := 48) g h hR (Or.inl rfl) d_Ch_readHead_48
  · refine ww_iconst (pc := 29) g.1 (v := 0) d_Ch_readHead_29 (by decide) ?_
    exact ww_zretH (pc := 30) g h hR (Or.inl rfl) d_Ch_readHead_30

theorem ct_Ch_readHead {l : Launch} {P : PP} {q : PL} {s s' : S1} {l1 : Int32} (hp0 : prs s 144 l1) {r : Int32} (h : M_Ch_readHead l1 s = some (r, s')) : Ct l y_Ch_readHead b_Ch_readHead 3 (some .boolean) 2 45 P q s [.ref (q.1 101 0), .ref (q.1 144 l1)] (some (.int r)) q s' := by
  refine ct_of (by decide) (Nat.le_of_ble_eq_true rfl) fun X ls eP el g hR hl => ?_
  subst eP
  have hR : Rt X q ((r, s') : Int32 × S1).2 (some (.int ((r, s') : Int32 × S1).1)) := hR
  have hl : lv_has ls 3 [(0, .ref (q.1 101 0)), (1, .ref (q.1 144 l1))] := hl
  generalize (r, s') = o at h hR
  unfold M_Ch_readHead at h
  refine ww_aload_n (pc := 0) g.1 d_Ch_readHead_0 rfl (lv_at hl 1 rfl) ?_
  refine ww_gI (pc := 1) g (k := 12) cl_Pr hp0 (by decide) (Or.inl kw_692) (f := 18444) rfl rfl d_Ch_readHead_1 h fun v1 h => ?_
  refine ww_if_ge (pc := 4) (tgt := 11) g.1 d_Ch_readHead_4 (by decide) h (fun c h => ?_) (fun c h => ?_)
  · refine ww_iconst (pc := 11) g.1 (v := 0) d_Ch_readHead_11 (by decide) ?_
    exact j_Ch_readHead_j12 g hR l1 0 s hp0 ls (lv_sub hl [0, 1] rfl) h
  · refine ww_iconst (pc := 7) g.1 (v := 1) d_Ch_readHead_7 (by decide) ?_
    refine ww_goto (pc := 8) (tgt := 12) g.1 d_Ch_readHead_8 (by decide) ?_
    exact j_Ch_readHead_j12 g hR l1 1 s hp0 ls (lv_sub hl [0, 1] rfl) h

abbrev b_Ch_readUpvalues : ByteArray := prog_3_method_9_code
def y_Ch_readUpvalues : MethodName := ⟨R_Ch, "readUpvalues", "(LLuaMachine$Prototype;)Z"⟩
abbrev w_Ch_readUpvalues : List Cond := .code y_Ch_readUpvalues b_Ch_readUpvalues 5 (some .boolean) :: wA
theorem k_Ch_readUpvalues : Cond.code y_Ch_readUpvalues b_Ch_readUpvalues 5 (some .boolean) ∈ wA := kinm (show _ ∈ tables_1 from (List.mem_append_right _ (List.mem_append_right _ (List.mem_append_left _ (List.mem_of_getElem? (l := tables_1_3) (i := 192) (by decide +kernel)))))) (by decide +kernel)
theorem d_Ch_readUpvalues_0 : decode b_Ch_readUpvalues 0 = .ok (.aload_n 1, 1) := by decide +kernel
theorem d_Ch_readUpvalues_1 : decode b_Ch_readUpvalues 1 = .ok (.aload_n 0, 1) := by decide +kernel
theorem d_Ch_readUpvalues_2 : decode b_Ch_readUpvalues 2 = .ok (.getfield 84, 3) := by decide +kernel
theorem d_Ch_readUpvalues_5 : decode b_Ch_readUpvalues 5 = .ok (.putfield 118, 3) := by decide +kernel
theorem d_Ch_readUpvalues_8 : decode b_Ch_readUpvalues 8 = .ok (.iconst 0, 1) := by decide +kernel
theorem d_Ch_readUpvalues_9 : decode b_Ch_readUpvalues 9 = .ok (.istore_n 2, 1) := by decide +kernel
theorem d_Ch_readUpvalues_10 : decode b_Ch_readUpvalues 10 = .ok (.iload_n 2, 1) := by decide +kernel
theorem d_Ch_readUpvalues_11 : decode b_Ch_readUpvalues 11 = .ok (.aload_n 1, 1) := by decide +kernel
theorem d_Ch_readUpvalues_12 : decode b_Ch_readUpvalues 12 = .ok (.getfield 116, 3) := by decide +kernel
theorem d_Ch_readUpvalues_15 : decode b_Ch_readUpvalues 15 = .ok (.if_icmp .ge 129, 3) := by decide +kernel
theorem d_Ch_readUpvalues_18 : decode b_Ch_readUpvalues 18 = .ok (.aload_n 0, 1) := by decide +kernel
theorem d_Ch_readUpvalues_19 : decode b_Ch_readUpvalues 19 = .ok (.iconst 1, 1) := by decide +kernel
theorem d_Ch_readUpvalues_20 : decode b_Ch_readUpvalues 20 = .ok (.invokevirtual 104, 3) := by decide +kernel
theorem d_Ch_readUpvalues_23 : decode b_Ch_readUpvalues 23 = .ok (.istore_n 3, 1) := by decide +kernel
theorem d_Ch_readUpvalues_24 : decode b_Ch_readUpvalues 24 = .ok (.iload_n 3, 1) := by decide +kernel
theorem d_Ch_readUpvalues_25 : decode b_Ch_readUpvalues 25 = .ok (.ifCond .ge 5, 3) := by decide +kernel
theorem d_Ch_readUpvalues_28 : decode b_Ch_readUpvalues 28 = .ok (.iconst 0, 1) := by decide +kernel
theorem d_Ch_readUpvalues_29 : decode b_Ch_readUpvalues 29 = .ok (.ireturn, 1) := by decide +kernel
theorem d_Ch_readUpvalues_30 : decode b_Ch_readUpvalues 30 = .ok (.aload_n 1, 1) := by decide +kernel
theorem d_Ch_readUpvalues_31 : decode b_Ch_readUpvalues 31 = .ok (.getfield 88, 3) := by decide +kernel
theorem d_Ch_readUpvalues_34 : decode b_Ch_readUpvalues 34 = .ok (.ifCond .lt 20, 3) := by decide +kernel
theorem d_Ch_readUpvalues_37 : decode b_Ch_readUpvalues 37 = .ok (.iload_n 3, 1) := by decide +kernel
theorem d_Ch_readUpvalues_38 : decode b_Ch_readUpvalues 38 = .ok (.iconst 1, 1) := by decide +kernel
theorem d_Ch_readUpvalues_39 : decode b_Ch_readUpvalues 39 = .ok (.if_icmp .le 15, 3) := by decide +kernel
theorem d_Ch_readUpvalues_42 : decode b_Ch_readUpvalues 42 = .ok (.aload_n 0, 1) := by decide +kernel
theorem d_Ch_readUpvalues_43 : decode b_Ch_readUpvalues 43 = .ok (.iconst 2, 1) := by decide +kernel
theorem d_Ch_readUpvalues_44 : decode b_Ch_readUpvalues 44 = .ok (.aload_n 0, 1) := by decide +kernel
theorem d_Ch_readUpvalues_45 : decode b_Ch_readUpvalues 45 = .ok (.getfield 57, 3) := by decide +kernel
theorem d_Ch_readUpvalues_48 : decode b_Ch_readUpvalues 48 = .ok (.iconst 1, 1) := by decide +kernel
theorem d_Ch_readUpvalues_49 : decode b_Ch_readUpvalues 49 = .ok (.isub, 1) := by decide +kernel
theorem d_Ch_readUpvalues_50 : decode b_Ch_readUpvalues 50 = .ok (.invokevirtual 63, 3) := by decide +kernel
theorem d_Ch_readUpvalues_53 : decode b_Ch_readUpvalues 53 = .ok (.ireturn, 1) := by decide +kernel
theorem d_Ch_readUpvalues_54 : decode b_Ch_readUpvalues 54 = .ok (.aload_n 0, 1) := by decide +kernel
theorem d_Ch_readUpvalues_55 : decode b_Ch_readUpvalues 55 = .ok (.iconst 1, 1) := by decide +kernel
theorem d_Ch_readUpvalues_56 : decode b_Ch_readUpvalues 56 = .ok (.invokevirtual 104, 3) := by decide +kernel
theorem d_Ch_readUpvalues_59 : decode b_Ch_readUpvalues 59 = .ok (.istore 4, 2) := by decide +kernel
theorem d_Ch_readUpvalues_61 : decode b_Ch_readUpvalues 61 = .ok (.iload 4, 2) := by decide +kernel
theorem d_Ch_readUpvalues_63 : decode b_Ch_readUpvalues 63 = .ok (.ifCond .ge 5, 3) := by decide +kernel
theorem d_Ch_readUpvalues_66 : decode b_Ch_readUpvalues 66 = .ok (.iconst 0, 1) := by decide +kernel
theorem d_Ch_readUpvalues_67 : decode b_Ch_readUpvalues 67 = .ok (.ireturn, 1) := by decide +kernel
theorem d_Ch_readUpvalues_68 : decode b_Ch_readUpvalues 68 = .ok (.aload_n 1, 1) := by decide +kernel
theorem d_Ch_readUpvalues_69 : decode b_Ch_readUpvalues 69 = .ok (.getfield 88, 3) := by decide +kernel
theorem d_Ch_readUpvalues_72 : decode b_Ch_readUpvalues 72 = .ok (.ifCond .lt 33, 3) := by decide +kernel
theorem d_Ch_readUpvalues_75 : decode b_Ch_readUpvalues 75 = .ok (.iload 4, 2) := by decide +kernel
theorem d_Ch_readUpvalues_77 : decode b_Ch_readUpvalues 77 = .ok (.aload_n 0, 1) := by decide +kernel
theorem d_Ch_readUpvalues_78 : decode b_Ch_readUpvalues 78 = .ok (.getfield 11, 3) := by decide +kernel
theorem d_Ch_readUpvalues_81 : decode b_Ch_readUpvalues 81 = .ok (.aload_n 1, 1) := by decide +kernel
theorem d_Ch_readUpvalues_82 : decode b_Ch_readUpvalues 82 = .ok (.getfield 88, 3) := by decide +kernel
theorem d_Ch_readUpvalues_85 : decode b_Ch_readUpvalues 85 = .ok (.aaload, 1) := by decide +kernel
theorem d_Ch_readUpvalues_86 : decode b_Ch_readUpvalues 86 = .ok (.iload_n 3, 1) := by decide +kernel
theorem d_Ch_readUpvalues_87 : decode b_Ch_readUpvalues 87 = .ok (.invokestatic 121, 3) := by decide +kernel
theorem d_Ch_readUpvalues_90 : decode b_Ch_readUpvalues 90 = .ok (.if_icmp .lt 15, 3) := by decide +kernel
theorem d_Ch_readUpvalues_93 : decode b_Ch_readUpvalues 93 = .ok (.aload_n 0, 1) := by decide +kernel
theorem d_Ch_readUpvalues_94 : decode b_Ch_readUpvalues 94 = .ok (.iconst 2, 1) := by decide +kernel
theorem d_Ch_readUpvalues_95 : decode b_Ch_readUpvalues 95 = .ok (.aload_n 0, 1) := by decide +kernel
theorem d_Ch_readUpvalues_96 : decode b_Ch_readUpvalues 96 = .ok (.getfield 57, 3) := by decide +kernel
theorem d_Ch_readUpvalues_99 : decode b_Ch_readUpvalues 99 = .ok (.iconst 1, 1) := by decide +kernel
theorem d_Ch_readUpvalues_100 : decode b_Ch_readUpvalues 100 = .ok (.isub, 1) := by decide +kernel
theorem d_Ch_readUpvalues_101 : decode b_Ch_readUpvalues 101 = .ok (.invokevirtual 63, 3) := by decide +kernel
theorem d_Ch_readUpvalues_104 : decode b_Ch_readUpvalues 104 = .ok (.ireturn, 1) := by decide +kernel
theorem d_Ch_readUpvalues_105 : decode b_Ch_readUpvalues 105 = .ok (.aload_n 0, 1) := by decide +kernel
theorem d_Ch_readUpvalues_106 : decode b_Ch_readUpvalues 106 = .ok (.getfield 32, 3) := by decide +kernel
theorem d_Ch_readUpvalues_109 : decode b_Ch_readUpvalues 109 = .ok (.aload_n 0, 1) := by decide +kernel
theorem d_Ch_readUpvalues_110 : decode b_Ch_readUpvalues 110 = .ok (.getfield 84, 3) := by decide +kernel
theorem d_Ch_readUpvalues_113 : decode b_Ch_readUpvalues 113 = .ok (.iload_n 3, 1) := by decide +kernel
theorem d_Ch_readUpvalues_114 : decode b_Ch_readUpvalues 114 = .ok (.iconst 1, 1) := by decide +kernel
theorem d_Ch_readUpvalues_115 : decode b_Ch_readUpvalues 115 = .ok (.if_icmp .ne 8, 3) := by decide +kernel
theorem d_Ch_readUpvalues_118 : decode b_Ch_readUpvalues 118 = .ok (.iload 4, 2) := by decide +kernel
theorem d_Ch_readUpvalues_120 : decode b_Ch_readUpvalues 120 = .ok (.goto 7, 3) := by decide +kernel
theorem d_Ch_readUpvalues_123 : decode b_Ch_readUpvalues 123 = .ok (.iconst (-1), 1) := by decide +kernel
theorem d_Ch_readUpvalues_124 : decode b_Ch_readUpvalues 124 = .ok (.iload 4, 2) := by decide +kernel
theorem d_Ch_readUpvalues_126 : decode b_Ch_readUpvalues 126 = .ok (.isub, 1) := by decide +kernel
theorem d_Ch_readUpvalues_127 : decode b_Ch_readUpvalues 127 = .ok (.iastore, 1) := by decide +kernel
theorem d_Ch_readUpvalues_128 : decode b_Ch_readUpvalues 128 = .ok (.aload_n 0, 1) := by decide +kernel
theorem d_Ch_readUpvalues_129 : decode b_Ch_readUpvalues 129 = .ok (.dup, 1) := by decide +kernel
theorem d_Ch_readUpvalues_130 : decode b_Ch_readUpvalues 130 = .ok (.getfield 84, 3) := by decide +kernel
theorem d_Ch_readUpvalues_133 : decode b_Ch_readUpvalues 133 = .ok (.iconst 1, 1) := by decide +kernel
theorem d_Ch_readUpvalues_134 : decode b_Ch_readUpvalues 134 = .ok (.iadd, 1) := by decide +kernel
theorem d_Ch_readUpvalues_135 : decode b_Ch_readUpvalues 135 = .ok (.putfield 84, 3) := by decide +kernel
theorem d_Ch_readUpvalues_138 : decode b_Ch_readUpvalues 138 = .ok (.iinc 2 1, 3) := by decide +kernel
theorem d_Ch_readUpvalues_141 : decode b_Ch_readUpvalues 141 = .ok (.goto (-131), 3) := by decide +kernel
theorem d_Ch_readUpvalues_144 : decode b_Ch_readUpvalues 144 = .ok (.iconst 1, 1) := by decide +kernel
theorem d_Ch_readUpvalues_145 : decode b_Ch_readUpvalues 145 = .ok (.ireturn, 1) := by decide +kernel
theorem kw_1052 : Cond.fieldLink R_Ch 118 "LuaMachine$Prototype" "upvalueStart" "I" ∈ wA := kinm (show _ ∈ tables_1 from (List.mem_append_right _ (List.mem_append_right _ (List.mem_append_left _ (List.mem_of_getElem? (l := tables_1_3) (i := 141) (by decide +kernel)))))) (by decide +kernel)
theorem kw_1053 : Cond.fieldLink R_Ch 32 "LuaMachine$Chunk" "upvalues" "[I" ∈ wA := kinm (show _ ∈ tables_1 from (List.mem_append_left _ (List.mem_of_getElem? (l := tables_1_1) (i := 66) (by decide +kernel)))) (by decide +kernel)
theorem kw_1054 : Cond.methodLink R_Ch 121 y_Ch_mostOf ∈ wA := kinm (show _ ∈ tables_1 from (List.mem_append_right _ (List.mem_append_right _ (List.mem_append_left _ (List.mem_of_getElem? (l := tables_1_3) (i := 193) (by decide +kernel)))))) (by decide +kernel)
theorem kw_1055 : Cond.instanceMethod y_Ch_readUpvalues ∈ wA := kinm (show _ ∈ tables_1 from (List.mem_append_right _ (List.mem_append_right _ (List.mem_append_left _ (List.mem_of_getElem? (l := tables_1_3) (i := 191) (by decide +kernel)))))) (by decide +kernel)
theorem kw_1056 : Cond.selects R_Ch y_Ch_readUpvalues y_Ch_readUpvalues ∈ wA := kinp 8 (by decide +kernel) (by decide +kernel)
theorem cv_Ch_readUpvalues : CV y_Ch_readUpvalues b_Ch_readUpvalues 5 (some .boolean) 1 := ⟨kw_1055, kw_1056, kw_664, k_Ch_readUpvalues, by decide +kernel⟩
theorem j_Ch_readUpvalues_j127 {X : Cx} {q : PL} (g : Gd X y_Ch_readUpvalues b_Ch_readUpvalues 5 (some .boolean) 2 45 R_Ch) {o : ((Int32 × Int32) ⊕ ((Unit) ⊕ (Unit) ⊕ (Unit) ⊕ (Unit) ⊕ (Unit))) × S1} (hR : (Sum.elim (fun y : Int32 × Int32 => ∀ ls : Array Slot, (prs o.2 144 y.1) → lv_has ls 5 [(0, .ref (q.1 101 0)), (1, .ref (q.1 144 y.1)), (2, .int y.2)] → WW X q o.2 10 ls []) (Sum.elim (fun y : Unit => ∀ ls : Array Slot, lv_has ls 5 [] → WW X q o.2 28 ls []) (Sum.elim (fun y : Unit => ∀ ls : Array Slot, lv_has ls 5 [(0, .ref (q.1 101 0))] → WW X q o.2 42 ls []) (Sum.elim (fun y : Unit => ∀ ls : Array Slot, lv_has ls 5 [] → WW X q o.2 66 ls []) (Sum.elim (fun y : Unit => ∀ ls : Array Slot, lv_has ls 5 [(0, .ref (q.1 101 0))] → WW X q o.2 93 ls []) (fun y : Unit => ∀ ls : Array Slot, lv_has ls 5 [] → WW X q o.2 144 ls []))))) o.1)) (l1 : Int32) (l2 : Int32) (k0 : Int32) (k1 : Int32) (s : S1) (hp0 : prs s 144 l1) (ls : Array Slot) (hl : lv_has ls 5 [(0, .ref (q.1 101 0)), (1, .ref (q.1 144 l1)), (2, .int l2)]) (h : M_Ch_readUpvalues_j127 l1 l2 k0 k1 s = some o) : WW X q s 127 ls [.int k0, .int k1, .ref (q.1 107 0)] := by
  unfold M_Ch_readUpvalues_j127 at h
  refine ww_si (pc := 127) g (pz rfl (by decide)) rfl rfl d_Ch_readUpvalues_127 h fun s hs h => ?_
  have hp0 : prs s 144 l1 := hs ▸ hp0
  refine ww_aload_n (pc := 128) g.1 d_Ch_readUpvalues_128 rfl (lv_at hl 0 rfl) ?_
  refine ww_dup (pc := 129) g.1 d_Ch_readUpvalues_129 rfl ?_
  refine ww_gI (pc := 130) g (k := 12) cl_Ch (pz rfl (by decide)) (by decide) (Or.inl kw_661) (f := 12940) rfl rfl d_Ch_readUpvalues_130 h fun v130 h => ?_
  refine ww_iconst (pc := 133) g.1 (v := 1) d_Ch_readUpvalues_133 (by decide) ?_
  refine ww_iadd (pc := 134) g.1 d_Ch_readUpvalues_134 ?_
  refine ww_pI (pc := 135) g (k := 12) cl_Ch (pz rfl (by decide)) (by decide) (Or.inl kw_661) rfl (f := 12940) rfl rfl rfl rfl d_Ch_readUpvalues_135 h fun s hs h => ?_
  have hp0 : prs s 144 l1 := prs_kI (r := 101) (k := 12) (by decide) hs hp0
  refine ww_iinc (pc := 138) g.1 (v := l2 + 1) (lv' := [(2, .int (l2 + 1)), (0, .ref (q.1 101 0)), (1, .ref (q.1 144 l1))]) d_Ch_readUpvalues_138 hl (k := 2) rfl (by rfl) (by decide) rfl fun ls hl => ?_
  refine ww_goto (pc := 141) (tgt := 10) g.1 d_Ch_readUpvalues_141 (by decide) ?_
  rw [oR_eq h] at hR
  exact hR ls hp0 (lv_sub hl [1, 2, 0] rfl)

theorem j_Ch_readUpvalues_j105 {X : Cx} {q : PL} (g : Gd X y_Ch_readUpvalues b_Ch_readUpvalues 5 (some .boolean) 2 45 R_Ch) {o : ((Int32 × Int32) ⊕ ((Unit) ⊕ (Unit) ⊕ (Unit) ⊕ (Unit) ⊕ (Unit))) × S1} (hR : (Sum.elim (fun y : Int32 × Int32 => ∀ ls : Array Slot, (prs o.2 144 y.1) → lv_has ls 5 [(0, .ref (q.1 101 0)), (1, .ref (q.1 144 y.1)), (2, .int y.2)] → WW X q o.2 10 ls []) (Sum.elim (fun y : Unit => ∀ ls : Array Slot, lv_has ls 5 [] → WW X q o.2 28 ls []) (Sum.elim (fun y : Unit => ∀ ls : Array Slot, lv_has ls 5 [(0, .ref (q.1 101 0))] → WW X q o.2 42 ls []) (Sum.elim (fun y : Unit => ∀ ls : Array Slot, lv_has ls 5 [] → WW X q o.2 66 ls []) (Sum.elim (fun y : Unit => ∀ ls : Array Slot, lv_has ls 5 [(0, .ref (q.1 101 0))] → WW X q o.2 93 ls []) (fun y : Unit => ∀ ls : Array Slot, lv_has ls 5 [] → WW X q o.2 144 ls []))))) o.1)) (l1 : Int32) (l2 : Int32) (l3 : Int32) (l4 : Int32) (s : S1) (hp0 : prs s 144 l1) (ls : Array Slot) (hl : lv_has ls 5 [(0, .ref (q.1 101 0)), (1, .ref (q.1 144 l1)), (2, .int l2), (3, .int l3), (4, .int l4)]) (h : M_Ch_readUpvalues_j105 l1 l2 l3 l4 s = some o) : WW X q s 105 ls [] := by
  unfold M_Ch_readUpvalues_j105 at h
  refine ww_aload_n (pc := 105) g.1 d_Ch_readUpvalues_105 rfl (lv_at hl 0 rfl) ?_
  refine ww_gR (pc := 106) g (k := 5) cl_Ch (pz rfl (by decide)) (by decide) (Or.inl kw_1053) (f := 12933) (t := 107) rfl rfl rfl d_Ch_readUpvalues_106 ?_
  refine ww_aload_n (pc := 109) g.1 d_Ch_readUpvalues_109 rfl (lv_at hl 0 rfl) ?_
  refine ww_gI (pc := 110) g (k := 12) cl_Ch (pz rfl (by decide)) (by decide) (Or.inl kw_661) (f := 12940) rfl rfl d_Ch_readUpvalues_110 h fun v110 h => ?_
  refine ww_iload_n (pc := 113) g.1 d_Ch_readUpvalues_113 rfl (lv_at hl 3 rfl) ?_
  refine ww_iconst (pc := 114) g.1 (v := 1) d_Ch_readUpvalues_114 (by decide) ?_
  refine ww_icmp_ne (pc := 115) (tgt := 123) g.1 d_Ch_readUpvalues_115 (by decide) h (fun c h => ?_) (fun c h => ?_)
  · refine ww_iconst (pc := 123) g.1 (v := (-1)) d_Ch_readUpvalues_123 (by decide) ?_
    refine ww_iload (pc := 124) g.1 d_Ch_readUpvalues_124 (lv_at hl 4 rfl) ?_
    refine ww_isub (pc := 126) g.1 d_Ch_readUpvalues_126 ?_
    exact j_Ch_readUpvalues_j127 g hR l1 l2 ((-1) - l4) v110 s hp0 ls (lv_sub hl [0, 1, 2] rfl) h
  · refine ww_iload (pc := 118) g.1 d_Ch_readUpvalues_118 (lv_at hl 4 rfl) ?_
    refine ww_goto (pc := 120) (tgt := 127) g.1 d_Ch_readUpvalues_120 (by decide) ?_
    exact j_Ch_readUpvalues_j127 g hR l1 l2 l4 v110 s hp0 ls (lv_sub hl [0, 1, 2] rfl) h

theorem j_Ch_readUpvalues_j54 {X : Cx} {q : PL} (g : Gd X y_Ch_readUpvalues b_Ch_readUpvalues 5 (some .boolean) 2 45 R_Ch) {o : ((Int32 × Int32) ⊕ ((Unit) ⊕ (Unit) ⊕ (Unit) ⊕ (Unit) ⊕ (Unit))) × S1} (hR : (Sum.elim (fun y : Int32 × Int32 => ∀ ls : Array Slot, (prs o.2 144 y.1) → lv_has ls 5 [(0, .ref (q.1 101 0)), (1, .ref (q.1 144 y.1)), (2, .int y.2)] → WW X q o.2 10 ls []) (Sum.elim (fun y : Unit => ∀ ls : Array Slot, lv_has ls 5 [] → WW X q o.2 28 ls []) (Sum.elim (fun y : Unit => ∀ ls : Array Slot, lv_has ls 5 [(0, .ref (q.1 101 0))] → WW X q o.2 42 ls []) (Sum.elim (fun y : Unit => ∀ ls : Array Slot, lv_has ls 5 [] → WW X q o.2 66 ls []) (Sum.elim (fun y : Unit => ∀ ls : Array Slot, lv_has ls 5 [(0, .ref (q.1 101 0))] → WW X q o.2 93 ls []) (fun y : Unit => ∀ ls : Array Slot, lv_has ls 5 [] → WW X q o.2 144 ls []))))) o.1)) (l1 : Int32) (l2 : Int32) (l3 : Int32) (s : S1) (hp0 : prs s 144 l1) (ls : Array Slot) (hl : lv_has ls 5 [(0, .ref (q.1 101 0)), (1, .ref (q.1 144 l1)), (2, .int l2), (3, .int l3)]) (h : M_Ch_readUpvalues_j54 l1 l2 l3 s = some o) : WW X q s 54 ls [] := by
  unfold M_Ch_readUpvalues_j54 at h
  refine ww_aload_n (pc := 54) g.1 d_Ch_readUpvalues_54 rfl (lv_at hl 0 rfl) ?_
  refine ww_iconst (pc := 55) g.1 (v := 1) d_Ch_readUpvalues_55 (by decide) ?_
  refine ww_lo fun dlo => ?_
  obtain ⟨v56, s, hc56, h⟩ := oB_of h
  refine ww_callV (pc := 56) (rest := []) g cv_Ch_readNumber (Or.inl kw_680) cl_Ch (pz rfl (by decide)) (ct_Ch_readNumber hc56) ⟨by decide, by decide⟩ rfl hl.1 (Nat.le_of_ble_eq_true rfl) d_Ch_readUpvalues_56 rfl (?_)
  refine ww_st (st' := [.int v56]) rfl ?_
  refine ww_hi fun dhi => ?_
  have hp0 : prs s 144 l1 := dhi _ _ hp0.2.1 hp0.2.2 (dlo _ _ hp0)
  refine ww_istore (pc := 59) (i := 4) g.1 (lv' := [(4, .int v56), (0, .ref (q.1 101 0)), (1, .ref (q.1 144 l1)), (2, .int l2), (3, .int l3)]) d_Ch_readUpvalues_59 hl (by decide) rfl fun ls hl => ?_
  refine ww_iload (pc := 61) g.1 d_Ch_readUpvalues_61 (lv_at hl 0 rfl) ?_
  refine ww_if_ge (pc := 63) (tgt := 68) g.1 d_Ch_readUpvalues_63 (by decide) h (fun c h => ?_) (fun c h => ?_)
  · refine ww_aload_n (pc := 68) g.1 d_Ch_readUpvalues_68 rfl (lv_at hl 2 rfl) ?_
    refine ww_gI (pc := 69) g (k := 12) cl_Pr hp0 (by decide) (Or.inl kw_692) (f := 18444) rfl rfl d_Ch_readUpvalues_69 h fun v69 h => ?_
    refine ww_if_lt (pc := 72) (tgt := 105) g.1 d_Ch_readUpvalues_72 (by decide) h (fun c h => ?_) (fun c h => ?_)
    · exact j_Ch_readUpvalues_j105 g hR l1 l2 l3 v56 s hp0 ls (lv_sub hl [1, 2, 3, 4, 0] rfl) h
    · refine ww_iload (pc := 75) g.1 d_Ch_readUpvalues_75 (lv_at hl 0 rfl) ?_
      refine ww_aload_n (pc := 77) g.1 d_Ch_readUpvalues_77 rfl (lv_at hl 1 rfl) ?_
      refine ww_gR (pc := 78) g (k := 0) cl_Ch (pz rfl (by decide)) (by decide) (Or.inl kw_689) (f := 12928) (t := 102) rfl rfl rfl d_Ch_readUpvalues_78 ?_
      refine ww_aload_n (pc := 81) g.1 d_Ch_readUpvalues_81 rfl (lv_at hl 2 rfl) ?_
      refine ww_gI (pc := 82) g (k := 12) cl_Pr hp0 (by decide) (Or.inl kw_692) (f := 18444) rfl rfl d_Ch_readUpvalues_82 h fun v82 h => ?_
      refine ww_a8 (pc := 85) g (t := 144) (n := 250) (pz rfl (by decide)) rfl rfl rfl rfl d_Ch_readUpvalues_85 h fun pa85 h => ?_
      refine ww_iload_n (pc := 86) g.1 d_Ch_readUpvalues_86 rfl (lv_at hl 4 rfl) ?_
      refine ww_lo fun dlo => ?_
      obtain ⟨v87, s, hc87, h⟩ := oB_of h
      refine ww_callS (pc := 87) (rest := [.int v56]) g cs_Ch_mostOf (Or.inl kw_1054) (ct_Ch_mostOf pa85 hc87) ⟨by decide, by decide⟩ rfl hl.1 (Nat.le_of_ble_eq_true rfl) d_Ch_readUpvalues_87 rfl (?_)
      refine ww_st (st' := [.int v87, .int v56]) rfl ?_
      refine ww_hi fun dhi => ?_
      have hp0 : prs s 144 l1 := dhi _ _ hp0.2.1 hp0.2.2 (dlo _ _ hp0)
      refine ww_icmp_lt (pc := 90) (tgt := 105) g.1 d_Ch_readUpvalues_90 (by decide) h (fun c h => ?_) (fun c h => ?_)
      · exact j_Ch_readUpvalues_j105 g hR l1 l2 l3 v56 s hp0 ls (lv_sub hl [1, 2, 3, 4, 0] rfl) h
      · rw [oR_eq h] at hR
        exact hR ls (lv_sub hl [1] rfl)
  · rw [oR_eq h] at hR
    exact hR ls (lv_sub hl [] rfl)

theorem lp_Ch_readUpvalues_L10 {X : Cx} {q : PL} (g : Gd X y_Ch_readUpvalues b_Ch_readUpvalues 5 (some .boolean) 2 45 R_Ch) (x : Int32 × Int32) (s : S1) (o : ((Int32 × Int32) ⊕ ((Unit) ⊕ (Unit) ⊕ (Unit) ⊕ (Unit) ⊕ (Unit))) × S1) (h : M_Ch_readUpvalues_L10 x s = some o) (hR : (Sum.elim (fun y : Int32 × Int32 => ∀ ls : Array Slot, (prs o.2 144 y.1) → lv_has ls 5 [(0, .ref (q.1 101 0)), (1, .ref (q.1 144 y.1)), (2, .int y.2)] → WW X q o.2 10 ls []) (Sum.elim (fun y : Unit => ∀ ls : Array Slot, lv_has ls 5 [] → WW X q o.2 28 ls []) (Sum.elim (fun y : Unit => ∀ ls : Array Slot, lv_has ls 5 [(0, .ref (q.1 101 0))] → WW X q o.2 42 ls []) (Sum.elim (fun y : Unit => ∀ ls : Array Slot, lv_has ls 5 [] → WW X q o.2 66 ls []) (Sum.elim (fun y : Unit => ∀ ls : Array Slot, lv_has ls 5 [(0, .ref (q.1 101 0))] → WW X q o.2 93 ls []) (fun y : Unit => ∀ ls : Array Slot, lv_has ls 5 [] → WW X q o.2 144 ls []))))) o.1)) : ∀ ls : Array Slot, (prs s 144 x.1) → lv_has ls 5 [(0, .ref (q.1 101 0)), (1, .ref (q.1 144 x.1)), (2, .int x.2)] → WW X q s 10 ls [] := by
  intro ls hp0 hl
  unfold M_Ch_readUpvalues_L10 at h
  refine ww_iload_n (pc := 10) g.1 d_Ch_readUpvalues_10 rfl (lv_at hl 2 rfl) ?_
  refine ww_aload_n (pc := 11) g.1 d_Ch_readUpvalues_11 rfl (lv_at hl 1 rfl) ?_
  refine ww_gI (pc := 12) g (k := 3) cl_Pr hp0 (by decide) (Or.inl kw_674) (f := 18435) rfl rfl d_Ch_readUpvalues_12 h fun v12 h => ?_
  refine ww_icmp_ge (pc := 15) (tgt := 144) g.1 d_Ch_readUpvalues_15 (by decide) h (fun c h => ?_) (fun c h => ?_)
  · rw [oR_eq h] at hR
    exact hR ls (lv_sub hl [] rfl)
  · refine ww_aload_n (pc := 18) g.1 d_Ch_readUpvalues_18 rfl (lv_at hl 0 rfl) ?_
    refine ww_iconst (pc := 19) g.1 (v := 1) d_Ch_readUpvalues_19 (by decide) ?_
    refine ww_lo fun dlo => ?_
    obtain ⟨v20, s, hc20, h⟩ := oB_of h
    refine ww_callV (pc := 20) (rest := []) g cv_Ch_readNumber (Or.inl kw_680) cl_Ch (pz rfl (by decide)) (ct_Ch_readNumber hc20) ⟨by decide, by decide⟩ rfl hl.1 (Nat.le_of_ble_eq_true rfl) d_Ch_readUpvalues_20 rfl (?_)
    refine ww_st (st' := [.int v20]) rfl ?_
    refine ww_hi fun dhi => ?_
    have hp0 : prs s 144 x.1 := dhi _ _ hp0.2.1 hp0.2.2 (dlo _ _ hp0)
    refine ww_istore_n (pc := 23) (i := 3) g.1 (lv' := [(3, .int v20), (0, .ref (q.1 101 0)), (1, .ref (q.1 144 x.1)), (2, .int x.2)]) d_Ch_readUpvalues_23 rfl hl (by decide) rfl fun ls hl => ?_
    refine ww_iload_n (pc := 24) g.1 d_Ch_readUpvalues_24 rfl (lv_at hl 0 rfl) ?_
    refine ww_if_ge (pc := 25) (tgt := 30) g.1 d_Ch_readUpvalues_25 (by decide) h (fun c h => ?_) (fun c h => ?_)
    · refine ww_aload_n (pc := 30) g.1 d_Ch_readUpvalues_30 rfl (lv_at hl 2 rfl) ?_
      refine ww_gI (pc := 31) g (k := 12) cl_Pr hp0 (by decide) (Or.inl kw_692) (f := 18444) rfl rfl d_Ch_readUpvalues_31 h fun v31 h => ?_
      refine ww_if_lt (pc := 34) (tgt := 54) g.1 d_Ch_readUpvalues_34 (by decide) h (fun c h => ?_) (fun c h => ?_)
      · exact j_Ch_readUpvalues_j54 g hR x.1 x.2 v20 s hp0 ls (lv_sub hl [1, 2, 3, 0] rfl) h
      · refine ww_iload_n (pc := 37) g.1 d_Ch_readUpvalues_37 rfl (lv_at hl 0 rfl) ?_
        refine ww_iconst (pc := 38) g.1 (v := 1) d_Ch_readUpvalues_38 (by decide) ?_
        refine ww_icmp_le (pc := 39) (tgt := 54) g.1 d_Ch_readUpvalues_39 (by decide) h (fun c h => ?_) (fun c h => ?_)
        · exact j_Ch_readUpvalues_j54 g hR x.1 x.2 v20 s hp0 ls (lv_sub hl [1, 2, 3, 0] rfl) h
        · rw [oR_eq h] at hR
          exact hR ls (lv_sub hl [1] rfl)
    · rw [oR_eq h] at hR
      exact hR ls (lv_sub hl [] rfl)

theorem ct_Ch_readUpvalues {l : Launch} {P : PP} {q : PL} {s s' : S1} {l1 : Int32} (hp0 : prs s 144 l1) {r : Int32} (h : M_Ch_readUpvalues l1 s = some (r, s')) : Ct l y_Ch_readUpvalues b_Ch_readUpvalues 5 (some .boolean) 2 45 P q s [.ref (q.1 101 0), .ref (q.1 144 l1)] (some (.int r)) q s' := by
  refine ct_of (by decide) (Nat.le_of_ble_eq_true rfl) fun X ls eP el g hR hl => ?_
  subst eP
  have hR : Rt X q ((r, s') : Int32 × S1).2 (some (.int ((r, s') : Int32 × S1).1)) := hR
  have hl : lv_has ls 5 [(0, .ref (q.1 101 0)), (1, .ref (q.1 144 l1))] := hl
  generalize (r, s') = o at h hR
  unfold M_Ch_readUpvalues at h
  refine ww_aload_n (pc := 0) g.1 d_Ch_readUpvalues_0 rfl (lv_at hl 1 rfl) ?_
  refine ww_aload_n (pc := 1) g.1 d_Ch_readUpvalues_1 rfl (lv_at hl 0 rfl) ?_
  refine ww_gI (pc := 2) g (k := 12) cl_Ch (pz rfl (by decide)) (by decide) (Or.inl kw_661) (f := 12940) rfl rfl d_Ch_readUpvalues_2 h fun v2 h => ?_
  refine ww_pI (pc := 5) g (k := 4) cl_Pr hp0 (by decide) (Or.inl kw_1052) rfl (f := 18436) rfl rfl rfl rfl d_Ch_readUpvalues_5 h fun s hs h => ?_
  have hp0 : prs s 144 l1 := prs_kI (r := 144) (k := 4) (by decide) hs hp0
  refine ww_iconst (pc := 8) g.1 (v := 0) d_Ch_readUpvalues_8 (by decide) ?_
  refine ww_istore_n (pc := 9) (i := 2) g.1 (lv' := [(2, .int 0), (0, .ref (q.1 101 0)), (1, .ref (q.1 144 l1))]) d_Ch_readUpvalues_9 rfl hl (by decide) rfl fun ls hl => ?_
  obtain ⟨e10, s1, hw, h⟩ := oB_of h
  refine oW_rule (Wh := fun (x : Int32 × Int32) (s : S1) => ∀ ls : Array Slot, (prs s 144 x.1) → lv_has ls 5 [(0, .ref (q.1 101 0)), (1, .ref (q.1 144 x.1)), (2, .int x.2)] → WW X q s 10 ls []) (We := fun (e : (Unit) ⊕ (Unit) ⊕ (Unit) ⊕ (Unit) ⊕ (Unit)) (s : S1) => (Sum.elim (fun y : Unit => ∀ ls : Array Slot, lv_has ls 5 [] → WW X q s 28 ls []) (Sum.elim (fun y : Unit => ∀ ls : Array Slot, lv_has ls 5 [(0, .ref (q.1 101 0))] → WW X q s 42 ls []) (Sum.elim (fun y : Unit => ∀ ls : Array Slot, lv_has ls 5 [] → WW X q s 66 ls []) (Sum.elim (fun y : Unit => ∀ ls : Array Slot, lv_has ls 5 [(0, .ref (q.1 101 0))] → WW X q s 93 ls []) (fun y : Unit => ∀ ls : Array Slot, lv_has ls 5 [] → WW X q s 144 ls []))))) e) (fun x s o hb hc => lp_Ch_readUpvalues_L10 (q := q) g x s o hb hc) hw ?_ ls hp0 (lv_sub hl [1, 2, 0] rfl)
  clear hw hl
  clear ls
  generalize s1 = s at h ⊢
  rcases e10 with y10_28 | y10_42 | y10_66 | y10_93 | y10_144
  · intro ls hl
    dsimp only [Sum.elim_inl, Sum.elim_inr] at h
    refine ww_iconst (pc := 28) g.1 (v := 0) d_Ch_readUpvalues_28 (by decide) ?_
    exact ww_zretH (pc := 29) g h hR (Or.inl rfl) d_Ch_readUpvalues_29
  · intro ls hl
    dsimp only [Sum.elim_inl, Sum.elim_inr] at h
    refine ww_aload_n (pc := 42) g.1 d_Ch_readUpvalues_42 rfl (lv_at hl 0 rfl) ?_
    refine ww_iconst (pc := 43) g.1 (v := 2) d_Ch_readUpvalues_43 (by decide) ?_
    refine ww_aload_n (pc := 44) g.1 d_Ch_readUpvalues_44 rfl (lv_at hl 0 rfl) ?_
    refine ww_gI (pc := 45) g (k := 14) cl_Ch (pz rfl (by decide)) (by decide) (Or.inl kw_655) (f := 12942) rfl rfl d_Ch_readUpvalues_45 h fun v45 h => ?_
    refine ww_iconst (pc := 48) g.1 (v := 1) d_Ch_readUpvalues_48 (by decide) ?_
    refine ww_isub (pc := 49) g.1 d_Ch_readUpvalues_49 ?_
    obtain ⟨v50, s, hc50, h⟩ := oB_of h
    refine ww_callV (pc := 50) (rest := []) g cv_Ch_refuse (Or.inl kw_671) cl_Ch (pz rfl (by decide)) (ct_Ch_refuse hc50) ⟨by decide, by decide⟩ rfl hl.1 (Nat.le_of_ble_eq_true rfl) d_Ch_readUpvalues_50 rfl (?_)
    refine ww_st (st' := [.int v50]) rfl ?_
    refine ww_ok h fun cz h => ?_
    exact ww_zretH (pc := 53) g h hR cz d_Ch_readUpvalues_53
  · intro ls hl
    dsimp only [Sum.elim_inl, Sum.elim_inr] at h
    refine ww_iconst (pc := 66) g.1 (v := 0) d_Ch_readUpvalues_66 (by decide) ?_
    exact ww_zretH (pc := 67) g h hR (Or.inl rfl) d_Ch_readUpvalues_67
  · intro ls hl
    dsimp only [Sum.elim_inl, Sum.elim_inr] at h
    refine ww_aload_n (pc := 93) g.1 d_Ch_readUpvalues_93 rfl (lv_at hl 0 rfl) ?_
    refine ww_iconst (pc := 94) g.1 (v := 2) d_Ch_readUpvalues_94 (by decide) ?_
    refine ww_aload_n (pc := 95) g.1 d_Ch_readUpvalues_95 rfl (lv_at hl 0 rfl) ?_
    refine ww_gI (pc := 96) g (k := 14) cl_Ch (pz rfl (by decide)) (by decide) (Or.inl kw_655) (f := 12942) rfl rfl d_Ch_readUpvalues_96 h fun v96 h => ?_
    refine ww_iconst (pc := 99) g.1 (v := 1) d_Ch_readUpvalues_99 (by decide) ?_
    refine ww_isub (pc := 100) g.1 d_Ch_readUpvalues_100 ?_
    obtain ⟨v101, s, hc101, h⟩ := oB_of h
    refine ww_callV (pc := 101) (rest := []) g cv_Ch_refuse (Or.inl kw_671) cl_Ch (pz rfl (by decide)) (ct_Ch_refuse hc101) ⟨by decide, by decide⟩ rfl hl.1 (Nat.le_of_ble_eq_true rfl) d_Ch_readUpvalues_101 rfl (?_)
    refine ww_st (st' := [.int v101]) rfl ?_
    refine ww_ok h fun cz h => ?_
    exact ww_zretH (pc := 104) g h hR cz d_Ch_readUpvalues_104
  · intro ls hl
    dsimp only [Sum.elim_inl, Sum.elim_inr] at h
    refine ww_iconst (pc := 144) g.1 (v := 1) d_Ch_readUpvalues_144 (by decide) ?_
    exact ww_zretH (pc := 145) g h hR (Or.inr rfl) d_Ch_readUpvalues_145


