abbrev b_Bu_printByte : ByteArray := prog_2_method_13_code
def y_Bu_printByte : MethodName := ⟨R_Bu, "printByte", "(I)V"⟩
abbrev w_Bu_printByte : List Cond := .code y_Bu_printByte b_Bu_printByte 2 none :: wA
theorem k_Bu_printByte : Cond.code y_Bu_printByte b_Bu_printByte 2 none ∈ wA := kinm (show _ ∈ tables_1 from (List.mem_append_right _ (List.mem_append_right _ (List.mem_append_right _ (List.mem_append_right _ (List.mem_append_right _ (List.mem_append_right _ (List.mem_append_right _ (List.mem_append_left _ (List.mem_of_getElem? (l := tables_1_8) (i := 2) (by decide +kernel))))))))))) (by decide +kernel)
theorem d_Bu_printByte_0 : decode b_Bu_printByte 0 = .ok (.aload_n 0, 1) := by decide +kernel
theorem d_Bu_printByte_1 : decode b_Bu_printByte 1 = .ok (.getfield 190, 3) := by decide +kernel
theorem d_Bu_printByte_4 : decode b_Bu_printByte 4 = .ok (.sipush 20000, 3) := by decide +kernel
theorem d_Bu_printByte_7 : decode b_Bu_printByte 7 = .ok (.if_icmp .ge 24, 3) := by decide +kernel
theorem d_Bu_printByte_10 : decode b_Bu_printByte 10 = .ok (.aload_n 0, 1) := by decide +kernel
theorem d_Bu_printByte_11 : decode b_Bu_printByte 11 = .ok (.getfield 9, 3) := by decide +kernel
theorem d_Bu_printByte_14 : decode b_Bu_printByte 14 = .ok (.aload_n 0, 1) := by decide +kernel
theorem d_Bu_printByte_15 : decode b_Bu_printByte 15 = .ok (.getfield 190, 3) := by decide +kernel
theorem d_Bu_printByte_18 : decode b_Bu_printByte 18 = .ok (.iload_n 1, 1) := by decide +kernel
theorem d_Bu_printByte_19 : decode b_Bu_printByte 19 = .ok (.i2b, 1) := by decide +kernel
theorem d_Bu_printByte_20 : decode b_Bu_printByte 20 = .ok (.bastore, 1) := by decide +kernel
theorem d_Bu_printByte_21 : decode b_Bu_printByte 21 = .ok (.aload_n 0, 1) := by decide +kernel
theorem d_Bu_printByte_22 : decode b_Bu_printByte 22 = .ok (.dup, 1) := by decide +kernel
theorem d_Bu_printByte_23 : decode b_Bu_printByte 23 = .ok (.getfield 190, 3) := by decide +kernel
theorem d_Bu_printByte_26 : decode b_Bu_printByte 26 = .ok (.iconst 1, 1) := by decide +kernel
theorem d_Bu_printByte_27 : decode b_Bu_printByte 27 = .ok (.iadd, 1) := by decide +kernel
theorem d_Bu_printByte_28 : decode b_Bu_printByte 28 = .ok (.putfield 190, 3) := by decide +kernel
theorem d_Bu_printByte_31 : decode b_Bu_printByte 31 = .ok (.return_, 1) := by decide +kernel
theorem kw_946 : Cond.fieldLink R_Bu 190 "LuaMachine$BuiltIns" "outputSize" "I" ∈ wA := kinm (show _ ∈ tables_1 from (List.mem_append_right _ (List.mem_append_left _ (List.mem_of_getElem? (l := tables_1_2) (i := 189) (by decide +kernel))))) (by decide +kernel)
theorem kw_947 : Cond.fieldLink R_Bu 9 "LuaMachine$BuiltIns" "printed" "[B" ∈ wA := kinm (show _ ∈ tables_1 from (List.mem_append_right _ (List.mem_append_left _ (List.mem_of_getElem? (l := tables_1_2) (i := 186) (by decide +kernel))))) (by decide +kernel)
theorem kw_948 : Cond.instanceMethod y_Bu_printByte ∈ wA := kinm (show _ ∈ tables_1 from (List.mem_append_right _ (List.mem_append_right _ (List.mem_append_right _ (List.mem_append_right _ (List.mem_append_right _ (List.mem_append_right _ (List.mem_append_right _ (List.mem_append_left _ (List.mem_of_getElem? (l := tables_1_8) (i := 1) (by decide +kernel))))))))))) (by decide +kernel)
theorem kw_949 : Cond.selects R_Bu y_Bu_printByte y_Bu_printByte ∈ wA := kinp 66 (by decide +kernel) (by decide +kernel)
theorem kw_950 : Cond.initialized R_Bu ∈ wA := kinm (show _ ∈ tables_1 from (List.mem_append_left _ (List.mem_of_getElem? (l := tables_1_1) (i := 8) (by decide +kernel)))) (by decide +kernel)
theorem cv_Bu_printByte : CV y_Bu_printByte b_Bu_printByte 2 none 1 := ⟨kw_948, kw_949, kw_950, k_Bu_printByte, by decide +kernel⟩
theorem ct_Bu_printByte {l : Launch} {P : PP} {q : PL} {s s' : S1} {l1 : Int32} {r : Unit} (h : M_Bu_printByte l1 s = some (r, s')) : Ct l y_Bu_printByte b_Bu_printByte 2 none 0 0 P q s [.ref (q.1 130 0), .int l1] none q s' := by
  refine ct_of (by decide) (Nat.le_of_ble_eq_true rfl) fun X ls eP el g hR hl => ?_
  subst eP
  have hR : Rt X q ((r, s') : Unit × S1).2 none := hR
  have hl : lv_has ls 2 [(0, .ref (q.1 130 0)), (1, .int l1)] := hl
  generalize (r, s') = o at h hR
  unfold M_Bu_printByte at h
  refine ww_aload_n (pc := 0) g.1 d_Bu_printByte_0 rfl (lv_at hl 0 rfl) ?_
  refine ww_gI (pc := 1) g (k := 1) cl_Bu (pz rfl (by decide)) (by decide) (Or.inl kw_946) (f := 16641) rfl rfl d_Bu_printByte_1 h fun v1 h => ?_
  refine ww_sipush (pc := 4) g.1 (v := 20000) d_Bu_printByte_4 (by decide) ?_
  refine ww_icmp_ge (pc := 7) (tgt := 31) g.1 d_Bu_printByte_7 (by decide) h (fun c h => ?_) (fun c h => ?_)
  · exact ww_vretH (pc := 31) g h hR d_Bu_printByte_31
  · refine ww_aload_n (pc := 10) g.1 d_Bu_printByte_10 rfl (lv_at hl 0 rfl) ?_
    refine ww_gR (pc := 11) g (k := 0) cl_Bu (pz rfl (by decide)) (by decide) (Or.inl kw_947) (f := 16640) (t := 131) rfl rfl rfl d_Bu_printByte_11 ?_
    refine ww_aload_n (pc := 14) g.1 d_Bu_printByte_14 rfl (lv_at hl 0 rfl) ?_
    refine ww_gI (pc := 15) g (k := 1) cl_Bu (pz rfl (by decide)) (by decide) (Or.inl kw_946) (f := 16641) rfl rfl d_Bu_printByte_15 h fun v15 h => ?_
    refine ww_iload_n (pc := 18) g.1 d_Bu_printByte_18 rfl (lv_at hl 1 rfl) ?_
    refine ww_i2b (pc := 19) g.1 (v := l1.toInt8.toInt32) d_Bu_printByte_19 rfl ?_
    refine ww_sb (pc := 20) g (pz rfl (by decide)) rfl rfl d_Bu_printByte_20 h fun s hs h => ?_
    refine ww_aload_n (pc := 21) g.1 d_Bu_printByte_21 rfl (lv_at hl 0 rfl) ?_
    refine ww_dup (pc := 22) g.1 d_Bu_printByte_22 rfl ?_
    refine ww_gI (pc := 23) g (k := 1) cl_Bu (pz rfl (by decide)) (by decide) (Or.inl kw_946) (f := 16641) rfl rfl d_Bu_printByte_23 h fun v23 h => ?_
    refine ww_iconst (pc := 26) g.1 (v := 1) d_Bu_printByte_26 (by decide) ?_
    refine ww_iadd (pc := 27) g.1 d_Bu_printByte_27 ?_
    refine ww_pI (pc := 28) g (k := 1) cl_Bu (pz rfl (by decide)) (by decide) (Or.inl kw_946) rfl (f := 16641) rfl rfl rfl rfl d_Bu_printByte_28 h fun s hs h => ?_
    exact ww_vretH (pc := 31) g h hR d_Bu_printByte_31

abbrev b_Bu_printBytes : ByteArray := prog_2_method_14_code
def y_Bu_printBytes : MethodName := ⟨R_Bu, "printBytes", "([BI)V"⟩
abbrev w_Bu_printBytes : List Cond := .code y_Bu_printBytes b_Bu_printBytes 4 none :: wA
theorem k_Bu_printBytes : Cond.code y_Bu_printBytes b_Bu_printBytes 4 none ∈ wA := kinm (show _ ∈ tables_1 from (List.mem_append_right _ (List.mem_append_right _ (List.mem_append_right _ (List.mem_append_right _ (List.mem_append_right _ (List.mem_append_right _ (List.mem_append_right _ (List.mem_append_left _ (List.mem_of_getElem? (l := tables_1_8) (i := 6) (by decide +kernel))))))))))) (by decide +kernel)
theorem d_Bu_printBytes_0 : decode b_Bu_printBytes 0 = .ok (.iload_n 2, 1) := by decide +kernel
theorem d_Bu_printBytes_1 : decode b_Bu_printBytes 1 = .ok (.sipush 20000, 3) := by decide +kernel
theorem d_Bu_printBytes_4 : decode b_Bu_printBytes 4 = .ok (.aload_n 0, 1) := by decide +kernel
theorem d_Bu_printBytes_5 : decode b_Bu_printBytes 5 = .ok (.getfield 190, 3) := by decide +kernel
theorem d_Bu_printBytes_8 : decode b_Bu_printBytes 8 = .ok (.isub, 1) := by decide +kernel
theorem d_Bu_printBytes_9 : decode b_Bu_printBytes 9 = .ok (.invokestatic 193, 3) := by decide +kernel
theorem d_Bu_printBytes_12 : decode b_Bu_printBytes 12 = .ok (.istore_n 3, 1) := by decide +kernel
theorem d_Bu_printBytes_13 : decode b_Bu_printBytes 13 = .ok (.aload_n 1, 1) := by decide +kernel
theorem d_Bu_printBytes_14 : decode b_Bu_printBytes 14 = .ok (.iconst 0, 1) := by decide +kernel
theorem d_Bu_printBytes_15 : decode b_Bu_printBytes 15 = .ok (.aload_n 0, 1) := by decide +kernel
theorem d_Bu_printBytes_16 : decode b_Bu_printBytes 16 = .ok (.getfield 9, 3) := by decide +kernel
theorem d_Bu_printBytes_19 : decode b_Bu_printBytes 19 = .ok (.aload_n 0, 1) := by decide +kernel
theorem d_Bu_printBytes_20 : decode b_Bu_printBytes 20 = .ok (.getfield 190, 3) := by decide +kernel
theorem d_Bu_printBytes_23 : decode b_Bu_printBytes 23 = .ok (.iload_n 3, 1) := by decide +kernel
theorem d_Bu_printBytes_24 : decode b_Bu_printBytes 24 = .ok (.invokestatic 199, 3) := by decide +kernel
theorem d_Bu_printBytes_27 : decode b_Bu_printBytes 27 = .ok (.aload_n 0, 1) := by decide +kernel
theorem d_Bu_printBytes_28 : decode b_Bu_printBytes 28 = .ok (.dup, 1) := by decide +kernel
theorem d_Bu_printBytes_29 : decode b_Bu_printBytes 29 = .ok (.getfield 190, 3) := by decide +kernel
theorem d_Bu_printBytes_32 : decode b_Bu_printBytes 32 = .ok (.iload_n 3, 1) := by decide +kernel
theorem d_Bu_printBytes_33 : decode b_Bu_printBytes 33 = .ok (.iadd, 1) := by decide +kernel
theorem d_Bu_printBytes_34 : decode b_Bu_printBytes 34 = .ok (.putfield 190, 3) := by decide +kernel
theorem d_Bu_printBytes_37 : decode b_Bu_printBytes 37 = .ok (.return_, 1) := by decide +kernel
theorem kw_951 : Cond.methodLink R_Bu 193 y_Mth_min ∈ wA := kinm (show _ ∈ tables_1 from (List.mem_append_right _ (List.mem_append_right _ (List.mem_append_right _ (List.mem_append_right _ (List.mem_append_right _ (List.mem_append_right _ (List.mem_append_right _ (List.mem_append_left _ (List.mem_of_getElem? (l := tables_1_8) (i := 7) (by decide +kernel))))))))))) (by decide +kernel)
theorem kw_952 : Cond.methodLink R_Bu 199 y_ARRCOPY ∈ wA := kinm (show _ ∈ tables_1 from (List.mem_append_right _ (List.mem_append_right _ (List.mem_append_right _ (List.mem_append_right _ (List.mem_append_right _ (List.mem_append_right _ (List.mem_append_right _ (List.mem_append_left _ (List.mem_of_getElem? (l := tables_1_8) (i := 8) (by decide +kernel))))))))))) (by decide +kernel)
theorem kw_953 : Cond.instanceMethod y_Bu_printBytes ∈ wA := kinm (show _ ∈ tables_1 from (List.mem_append_right _ (List.mem_append_right _ (List.mem_append_right _ (List.mem_append_right _ (List.mem_append_right _ (List.mem_append_right _ (List.mem_append_right _ (List.mem_append_left _ (List.mem_of_getElem? (l := tables_1_8) (i := 5) (by decide +kernel))))))))))) (by decide +kernel)
theorem kw_954 : Cond.selects R_Bu y_Bu_printBytes y_Bu_printBytes ∈ wA := kinp 67 (by decide +kernel) (by decide +kernel)
theorem cv_Bu_printBytes : CV y_Bu_printBytes b_Bu_printBytes 4 none 2 := ⟨kw_953, kw_954, kw_950, k_Bu_printBytes, by decide +kernel⟩
theorem ct_Bu_printBytes {l : Launch} {P : PP} {q : PL} {s s' : S1} {l1r : Nat} {l1 : Int32} {l2 : Int32} (hp0 : rkF l1r = 2) (hp1 : l1r ≠ 154) (hp2 : prs s l1r l1) {r : Unit} (h : M_Bu_printBytes l1r l1 l2 s = some (r, s')) : Ct l y_Bu_printBytes b_Bu_printBytes 4 none 1 26 P q s [.ref (q.1 130 0), .ref (q.1 l1r l1), .int l2] none q s' := by
  refine ct_of (by decide) (Nat.le_of_ble_eq_true rfl) fun X ls eP el g hR hl => ?_
  subst eP
  have hR : Rt X q ((r, s') : Unit × S1).2 none := hR
  have hl : lv_has ls 4 [(0, .ref (q.1 130 0)), (1, .ref (q.1 l1r l1)), (2, .int l2)] := hl
  generalize (r, s') = o at h hR
  unfold M_Bu_printBytes at h
  refine ww_iload_n (pc := 0) g.1 d_Bu_printBytes_0 rfl (lv_at hl 2 rfl) ?_
  refine ww_sipush (pc := 1) g.1 (v := 20000) d_Bu_printBytes_1 (by decide) ?_
  refine ww_aload_n (pc := 4) g.1 d_Bu_printBytes_4 rfl (lv_at hl 0 rfl) ?_
  refine ww_gI (pc := 5) g (k := 1) cl_Bu (pz rfl (by decide)) (by decide) (Or.inl kw_946) (f := 16641) rfl rfl d_Bu_printBytes_5 h fun v5 h => ?_
  refine ww_isub (pc := 8) g.1 d_Bu_printBytes_8 ?_
  refine ww_lo fun dlo => ?_
  obtain ⟨v9, s, hc9, h⟩ := oB_of h
  refine ww_callS (pc := 9) (rest := []) g cs_Mth_min (Or.inl kw_951) (ct_Mth_min hc9) ⟨by decide, by decide⟩ rfl hl.1 (Nat.le_of_ble_eq_true rfl) d_Bu_printBytes_9 rfl (?_)
  refine ww_st (st' := [.int v9]) rfl ?_
  refine ww_hi fun dhi => ?_
  have hp2 : prs s l1r l1 := dhi _ _ hp2.2.1 hp2.2.2 (dlo _ _ hp2)
  refine ww_istore_n (pc := 12) (i := 3) g.1 (lv' := [(3, .int v9), (0, .ref (q.1 130 0)), (1, .ref (q.1 l1r l1)), (2, .int l2)]) d_Bu_printBytes_12 rfl hl (by decide) rfl fun ls hl => ?_
  refine ww_aload_n (pc := 13) g.1 d_Bu_printBytes_13 rfl (lv_at hl 2 rfl) ?_
  refine ww_iconst (pc := 14) g.1 (v := 0) d_Bu_printBytes_14 (by decide) ?_
  refine ww_aload_n (pc := 15) g.1 d_Bu_printBytes_15 rfl (lv_at hl 1 rfl) ?_
  refine ww_gR (pc := 16) g (k := 0) cl_Bu (pz rfl (by decide)) (by decide) (Or.inl kw_947) (f := 16640) (t := 131) rfl rfl rfl d_Bu_printBytes_16 ?_
  refine ww_aload_n (pc := 19) g.1 d_Bu_printBytes_19 rfl (lv_at hl 1 rfl) ?_
  refine ww_gI (pc := 20) g (k := 1) cl_Bu (pz rfl (by decide)) (by decide) (Or.inl kw_946) (f := 16641) rfl rfl d_Bu_printBytes_20 h fun v20 h => ?_
  refine ww_iload_n (pc := 23) g.1 d_Bu_printBytes_23 rfl (lv_at hl 0 rfl) ?_
  refine ww_ln hp2 h fun n24a hmn24a hnn24a h => ?_
  refine ww_ci (pc := 24) g hp2 (pz rfl (by decide)) (hp0.trans (rfl : rkF 131 = 2).symm) (Or.inr hp0) hnn24a rfl kw_952 kw_512 kw_513 kw_514 ⟨by decide, by decide⟩ hl.1 (Nat.le_of_ble_eq_true rfl) d_Bu_printBytes_24 h fun s hs h => ?_
  have hp2 : prs s l1r l1 := hs ▸ hp2
  refine ww_aload_n (pc := 27) g.1 d_Bu_printBytes_27 rfl (lv_at hl 1 rfl) ?_
  refine ww_dup (pc := 28) g.1 d_Bu_printBytes_28 rfl ?_
  refine ww_gI (pc := 29) g (k := 1) cl_Bu (pz rfl (by decide)) (by decide) (Or.inl kw_946) (f := 16641) rfl rfl d_Bu_printBytes_29 h fun v29 h => ?_
  refine ww_iload_n (pc := 32) g.1 d_Bu_printBytes_32 rfl (lv_at hl 0 rfl) ?_
  refine ww_iadd (pc := 33) g.1 d_Bu_printBytes_33 ?_
  refine ww_pI (pc := 34) g (k := 1) cl_Bu (pz rfl (by decide)) (by decide) (Or.inl kw_946) rfl (f := 16641) rfl rfl rfl rfl d_Bu_printBytes_34 h fun s hs h => ?_
  have hp2 : prs s l1r l1 := prs_kI (r := 130) (k := 1) (by decide) hs hp2
  exact ww_vretH (pc := 37) g h hR d_Bu_printBytes_37

abbrev b_He_numberOf : ByteArray := prog_6_method_9_code
def y_He_numberOf : MethodName := ⟨R_He, "numberOf", "(J)J"⟩
abbrev w_He_numberOf : List Cond := .code y_He_numberOf b_He_numberOf 3 (some .long) :: wA
theorem k_He_numberOf : Cond.code y_He_numberOf b_He_numberOf 3 (some .long) ∈ wA := kinm (show _ ∈ tables_1 from (List.mem_append_right _ (List.mem_append_right _ (List.mem_append_right _ (List.mem_append_right _ (List.mem_append_right _ (List.mem_append_right _ (List.mem_append_right _ (List.mem_append_left _ (List.mem_of_getElem? (l := tables_1_8) (i := 39) (by decide +kernel))))))))))) (by decide +kernel)
theorem d_He_numberOf_0 : decode b_He_numberOf 0 = .ok (.lload_n 1, 1) := by decide +kernel
theorem d_He_numberOf_1 : decode b_He_numberOf 1 = .ok (.lconst 0, 1) := by decide +kernel
theorem d_He_numberOf_2 : decode b_He_numberOf 2 = .ok (.lcmp, 1) := by decide +kernel
theorem d_He_numberOf_3 : decode b_He_numberOf 3 = .ok (.ifCond .ge 11, 3) := by decide +kernel
theorem d_He_numberOf_6 : decode b_He_numberOf 6 = .ok (.ldc2_w 117, 3) := by decide +kernel
theorem d_He_numberOf_9 : decode b_He_numberOf 9 = .ok (.lload_n 1, 1) := by decide +kernel
theorem d_He_numberOf_10 : decode b_He_numberOf 10 = .ok (.lsub, 1) := by decide +kernel
theorem d_He_numberOf_11 : decode b_He_numberOf 11 = .ok (.goto 14, 3) := by decide +kernel
theorem d_He_numberOf_14 : decode b_He_numberOf 14 = .ok (.aload_n 0, 1) := by decide +kernel
theorem d_He_numberOf_15 : decode b_He_numberOf 15 = .ok (.getfield 11, 3) := by decide +kernel
theorem d_He_numberOf_18 : decode b_He_numberOf 18 = .ok (.lload_n 1, 1) := by decide +kernel
theorem d_He_numberOf_19 : decode b_He_numberOf 19 = .ok (.l2i, 1) := by decide +kernel
theorem d_He_numberOf_20 : decode b_He_numberOf 20 = .ok (.aaload, 1) := by decide +kernel
theorem d_He_numberOf_21 : decode b_He_numberOf 21 = .ok (.getfield 86, 3) := by decide +kernel
theorem d_He_numberOf_24 : decode b_He_numberOf 24 = .ok (.i2l, 1) := by decide +kernel
theorem d_He_numberOf_25 : decode b_He_numberOf 25 = .ok (.lreturn, 1) := by decide +kernel
theorem kw_955 : Cond.constantLong R_He 117 (-1) ∈ wA := kinm (show _ ∈ tables_1 from (List.mem_append_right _ (List.mem_append_right _ (List.mem_append_right _ (List.mem_append_right _ (List.mem_append_right _ (List.mem_append_right _ (List.mem_append_right _ (List.mem_append_left _ (List.mem_of_getElem? (l := tables_1_8) (i := 40) (by decide +kernel))))))))))) (by decide +kernel)
theorem kw_956 : Cond.fieldLink R_He 86 "LuaMachine$Thing" "number" "I" ∈ wA := kinm (show _ ∈ tables_1 from (List.mem_append_right _ (List.mem_append_right _ (List.mem_append_right _ (List.mem_append_right _ (List.mem_append_left _ (List.mem_of_getElem? (l := tables_1_5) (i := 174) (by decide +kernel)))))))) (by decide +kernel)
theorem kw_957 : Cond.instanceMethod y_He_numberOf ∈ wA := kinm (show _ ∈ tables_1 from (List.mem_append_right _ (List.mem_append_right _ (List.mem_append_right _ (List.mem_append_right _ (List.mem_append_right _ (List.mem_append_right _ (List.mem_append_right _ (List.mem_append_left _ (List.mem_of_getElem? (l := tables_1_8) (i := 37) (by decide +kernel))))))))))) (by decide +kernel)
theorem kw_958 : Cond.selects R_He y_He_numberOf y_He_numberOf ∈ wA := kinm (show _ ∈ tables_1 from (List.mem_append_right _ (List.mem_append_right _ (List.mem_append_right _ (List.mem_append_right _ (List.mem_append_right _ (List.mem_append_right _ (List.mem_append_right _ (List.mem_append_left _ (List.mem_of_getElem? (l := tables_1_8) (i := 38) (by decide +kernel))))))))))) (by decide +kernel)
theorem cv_He_numberOf : CV y_He_numberOf b_He_numberOf 3 (some .long) 1 := ⟨kw_957, kw_958, kw_712, k_He_numberOf, by decide +kernel⟩
theorem ct_He_numberOf {l : Launch} {P : PP} {q : PL} {s s' : S1} {l1 : Int64} {r : Int64} (h : M_He_numberOf l1 s = some (r, s')) : Ct l y_He_numberOf b_He_numberOf 3 (some .long) 0 0 P q s [.ref (q.1 111 0), .long l1] (some (.long r)) q s' := by
  refine ct_of (by decide) (Nat.le_of_ble_eq_true rfl) fun X ls eP el g hR hl => ?_
  subst eP
  have hR : Rt X q ((r, s') : Int64 × S1).2 (some (.long ((r, s') : Int64 × S1).1)) := hR
  have hl : lv_has ls 3 [(0, .ref (q.1 111 0)), (1, .long l1)] := hl
  generalize (r, s') = o at h hR
  unfold M_He_numberOf at h
  refine ww_lload_n (pc := 0) g.1 d_He_numberOf_0 rfl (lv_at hl 1 rfl) ?_
  refine ww_lconst (pc := 1) g.1 (v := 0) d_He_numberOf_1 (by decide) ?_
  refine ww_lcmp (pc := 2) g.1 d_He_numberOf_2 ?_
  refine ww_if_ge (pc := 3) (tgt := 14) g.1 d_He_numberOf_3 (by decide) h (fun c h => ?_) (fun c h => ?_)
  · refine ww_aload_n (pc := 14) g.1 d_He_numberOf_14 rfl (lv_at hl 0 rfl) ?_
    refine ww_gR (pc := 15) g (k := 0) cl_He (pz rfl (by decide)) (by decide) (Or.inl kw_725) (f := 14208) (t := 112) rfl rfl rfl d_He_numberOf_15 ?_
    refine ww_lload_n (pc := 18) g.1 d_He_numberOf_18 rfl (lv_at hl 1 rfl) ?_
    refine ww_l2i (pc := 19) g.1 (v := l1.toInt32) d_He_numberOf_19 rfl ?_
    refine ww_a8 (pc := 20) g (t := 145) (n := 4000) (pz rfl (by decide)) rfl rfl rfl rfl d_He_numberOf_20 h fun pa20 h => ?_
    refine ww_gI (pc := 21) g (k := 1) cl_Tg pa20 (by decide) (Or.inl kw_956) (f := 18561) rfl rfl d_He_numberOf_21 h fun v21 h => ?_
    refine ww_i2l (pc := 24) g.1 (v := v21.toInt64) d_He_numberOf_24 rfl ?_
    exact ww_lretH (pc := 25) g h hR d_He_numberOf_25
  · refine ww_ldc2 (pc := 6) g (v := (-1)) kw_955 d_He_numberOf_6 ?_
    refine ww_lload_n (pc := 9) g.1 d_He_numberOf_9 rfl (lv_at hl 1 rfl) ?_
    refine ww_lsub (pc := 10) g.1 d_He_numberOf_10 ?_
    refine ww_goto (pc := 11) (tgt := 25) g.1 d_He_numberOf_11 (by decide) ?_
    exact ww_lretH (pc := 25) g h hR d_He_numberOf_25

abbrev b_Ro_kindAt : ByteArray := prog_9_method_7_code
def y_Ro_kindAt : MethodName := ⟨R_Ro, "kindAt", "(I)I"⟩
abbrev w_Ro_kindAt : List Cond := .code y_Ro_kindAt b_Ro_kindAt 2 (some .int) :: wA
theorem k_Ro_kindAt : Cond.code y_Ro_kindAt b_Ro_kindAt 2 (some .int) ∈ wA := kinm (show _ ∈ tables_1 from (List.mem_append_right _ (List.mem_append_right _ (List.mem_append_right _ (List.mem_append_right _ (List.mem_append_right _ (List.mem_append_right _ (List.mem_append_right _ (List.mem_append_left _ (List.mem_of_getElem? (l := tables_1_8) (i := 48) (by decide +kernel))))))))))) (by decide +kernel)
theorem d_Ro_kindAt_0 : decode b_Ro_kindAt 0 = .ok (.iload_n 1, 1) := by decide +kernel
theorem d_Ro_kindAt_1 : decode b_Ro_kindAt 1 = .ok (.aload_n 0, 1) := by decide +kernel
theorem d_Ro_kindAt_2 : decode b_Ro_kindAt 2 = .ok (.getfield 19, 3) := by decide +kernel
theorem d_Ro_kindAt_5 : decode b_Ro_kindAt 5 = .ok (.if_icmp .ge 12, 3) := by decide +kernel
theorem d_Ro_kindAt_8 : decode b_Ro_kindAt 8 = .ok (.aload_n 0, 1) := by decide +kernel
theorem d_Ro_kindAt_9 : decode b_Ro_kindAt 9 = .ok (.getfield 9, 3) := by decide +kernel
theorem d_Ro_kindAt_12 : decode b_Ro_kindAt 12 = .ok (.iload_n 1, 1) := by decide +kernel
theorem d_Ro_kindAt_13 : decode b_Ro_kindAt 13 = .ok (.baload, 1) := by decide +kernel
theorem d_Ro_kindAt_14 : decode b_Ro_kindAt 14 = .ok (.goto 4, 3) := by decide +kernel
theorem d_Ro_kindAt_17 : decode b_Ro_kindAt 17 = .ok (.iconst 0, 1) := by decide +kernel
theorem d_Ro_kindAt_18 : decode b_Ro_kindAt 18 = .ok (.ireturn, 1) := by decide +kernel
theorem kw_959 : Cond.instanceMethod y_Ro_kindAt ∈ wA := kinm (show _ ∈ tables_1 from (List.mem_append_right _ (List.mem_append_right _ (List.mem_append_right _ (List.mem_append_right _ (List.mem_append_right _ (List.mem_append_right _ (List.mem_append_right _ (List.mem_append_left _ (List.mem_of_getElem? (l := tables_1_8) (i := 46) (by decide +kernel))))))))))) (by decide +kernel)
theorem kw_960 : Cond.selects R_Ro y_Ro_kindAt y_Ro_kindAt ∈ wA := kinm (show _ ∈ tables_1 from (List.mem_append_right _ (List.mem_append_right _ (List.mem_append_right _ (List.mem_append_right _ (List.mem_append_right _ (List.mem_append_right _ (List.mem_append_right _ (List.mem_append_left _ (List.mem_of_getElem? (l := tables_1_8) (i := 47) (by decide +kernel))))))))))) (by decide +kernel)
theorem cv_Ro_kindAt : CV y_Ro_kindAt b_Ro_kindAt 2 (some .int) 1 := ⟨kw_959, kw_960, kw_721, k_Ro_kindAt, by decide +kernel⟩
theorem ct_Ro_kindAt {l : Launch} {P : PP} {q : PL} {s s' : S1} {l0r : Nat} {l0 : Int32} {l1 : Int32} (hp0 : ROK l0r l0) {r : Int32} (h : M_Ro_kindAt l0r l0 l1 s = some (r, s')) : Ct l y_Ro_kindAt b_Ro_kindAt 2 (some .int) 0 0 P q s [.ref (q.1 l0r l0), .int l1] (some (.int r)) q s' := by
  refine ct_of (by decide) (Nat.le_of_ble_eq_true rfl) fun X ls eP el g hR hl => ?_
  subst eP
  have hR : Rt X q ((r, s') : Int32 × S1).2 (some (.int ((r, s') : Int32 × S1).1)) := hR
  have hl : lv_has ls 2 [(0, .ref (q.1 l0r l0)), (1, .int l1)] := hl
  generalize (r, s') = o at h hR
  unfold M_Ro_kindAt at h
  refine ww_iload_n (pc := 0) g.1 d_Ro_kindAt_0 rfl (lv_at hl 1 rfl) ?_
  refine ww_aload_n (pc := 1) g.1 d_Ro_kindAt_1 rfl (lv_at hl 0 rfl) ?_
  refine ww_gI (pc := 2) g (k := 2) (cl_Ro hp0) (rok_p hp0).1 (by rw [(rok_f hp0).1.2.2]; decide) (Or.inl kw_718) (f := (128 * l0r + 2)) rfl (rok_f hp0).2.2.2.1 d_Ro_kindAt_2 h fun v2 h => ?_
  refine ww_icmp_ge (pc := 5) (tgt := 17) g.1 d_Ro_kindAt_5 (by decide) h (fun c h => ?_) (fun c h => ?_)
  · refine ww_iconst (pc := 17) g.1 (v := 0) d_Ro_kindAt_17 (by decide) ?_
    exact ww_iretH (pc := 18) g h hR d_Ro_kindAt_18
  · refine ww_aload_n (pc := 8) g.1 d_Ro_kindAt_8 rfl (lv_at hl 0 rfl) ?_
    refine ww_gR (pc := 9) g (k := 0) (cl_Ro hp0) (rok_p hp0).1 (by rw [(rok_f hp0).1.2.2]; decide) (Or.inl kw_903) (f := (128 * l0r + 0)) (t := l0r + 1) rfl (rok_f hp0).2.1.1 (rok_f hp0).2.1.2 d_Ro_kindAt_9 ?_
    refine ww_iload_n (pc := 12) g.1 d_Ro_kindAt_12 rfl (lv_at hl 1 rfl) ?_
    refine ww_ab (pc := 13) g (rok_p hp0).2.1 (rok_f hp0).2.2.2.2.1 (rok_n hp0).1 d_Ro_kindAt_13 h fun v13 h => ?_
    refine ww_goto (pc := 14) (tgt := 18) g.1 d_Ro_kindAt_14 (by decide) ?_
    exact ww_iretH (pc := 18) g h hR d_Ro_kindAt_18

abbrev b_Ro_valueAt : ByteArray := prog_9_method_8_code
def y_Ro_valueAt : MethodName := ⟨R_Ro, "valueAt", "(I)J"⟩
abbrev w_Ro_valueAt : List Cond := .code y_Ro_valueAt b_Ro_valueAt 2 (some .long) :: wA
theorem k_Ro_valueAt : Cond.code y_Ro_valueAt b_Ro_valueAt 2 (some .long) ∈ wA := kinm (show _ ∈ tables_1 from (List.mem_append_right _ (List.mem_append_right _ (List.mem_append_right _ (List.mem_append_right _ (List.mem_append_right _ (List.mem_append_right _ (List.mem_append_right _ (List.mem_append_left _ (List.mem_of_getElem? (l := tables_1_8) (i := 52) (by decide +kernel))))))))))) (by decide +kernel)
theorem d_Ro_valueAt_0 : decode b_Ro_valueAt 0 = .ok (.iload_n 1, 1) := by decide +kernel
theorem d_Ro_valueAt_1 : decode b_Ro_valueAt 1 = .ok (.aload_n 0, 1) := by decide +kernel
theorem d_Ro_valueAt_2 : decode b_Ro_valueAt 2 = .ok (.getfield 19, 3) := by decide +kernel
theorem d_Ro_valueAt_5 : decode b_Ro_valueAt 5 = .ok (.if_icmp .ge 12, 3) := by decide +kernel
theorem d_Ro_valueAt_8 : decode b_Ro_valueAt 8 = .ok (.aload_n 0, 1) := by decide +kernel
theorem d_Ro_valueAt_9 : decode b_Ro_valueAt 9 = .ok (.getfield 15, 3) := by decide +kernel
theorem d_Ro_valueAt_12 : decode b_Ro_valueAt 12 = .ok (.iload_n 1, 1) := by decide +kernel
theorem d_Ro_valueAt_13 : decode b_Ro_valueAt 13 = .ok (.laload, 1) := by decide +kernel
theorem d_Ro_valueAt_14 : decode b_Ro_valueAt 14 = .ok (.goto 4, 3) := by decide +kernel
theorem d_Ro_valueAt_17 : decode b_Ro_valueAt 17 = .ok (.lconst 0, 1) := by decide +kernel
theorem d_Ro_valueAt_18 : decode b_Ro_valueAt 18 = .ok (.lreturn, 1) := by decide +kernel
theorem kw_961 : Cond.instanceMethod y_Ro_valueAt ∈ wA := kinm (show _ ∈ tables_1 from (List.mem_append_right _ (List.mem_append_right _ (List.mem_append_right _ (List.mem_append_right _ (List.mem_append_right _ (List.mem_append_right _ (List.mem_append_right _ (List.mem_append_left _ (List.mem_of_getElem? (l := tables_1_8) (i := 50) (by decide +kernel))))))))))) (by decide +kernel)
theorem kw_962 : Cond.selects R_Ro y_Ro_valueAt y_Ro_valueAt ∈ wA := kinm (show _ ∈ tables_1 from (List.mem_append_right _ (List.mem_append_right _ (List.mem_append_right _ (List.mem_append_right _ (List.mem_append_right _ (List.mem_append_right _ (List.mem_append_right _ (List.mem_append_left _ (List.mem_of_getElem? (l := tables_1_8) (i := 51) (by decide +kernel))))))))))) (by decide +kernel)
theorem cv_Ro_valueAt : CV y_Ro_valueAt b_Ro_valueAt 2 (some .long) 1 := ⟨kw_961, kw_962, kw_721, k_Ro_valueAt, by decide +kernel⟩
theorem ct_Ro_valueAt {l : Launch} {P : PP} {q : PL} {s s' : S1} {l0r : Nat} {l0 : Int32} {l1 : Int32} (hp0 : ROK l0r l0) {r : Int64} (h : M_Ro_valueAt l0r l0 l1 s = some (r, s')) : Ct l y_Ro_valueAt b_Ro_valueAt 2 (some .long) 0 0 P q s [.ref (q.1 l0r l0), .int l1] (some (.long r)) q s' := by
  refine ct_of (by decide) (Nat.le_of_ble_eq_true rfl) fun X ls eP el g hR hl => ?_
  subst eP
  have hR : Rt X q ((r, s') : Int64 × S1).2 (some (.long ((r, s') : Int64 × S1).1)) := hR
  have hl : lv_has ls 2 [(0, .ref (q.1 l0r l0)), (1, .int l1)] := hl
  generalize (r, s') = o at h hR
  unfold M_Ro_valueAt at h
  refine ww_iload_n (pc := 0) g.1 d_Ro_valueAt_0 rfl (lv_at hl 1 rfl) ?_
  refine ww_aload_n (pc := 1) g.1 d_Ro_valueAt_1 rfl (lv_at hl 0 rfl) ?_
  refine ww_gI (pc := 2) g (k := 2) (cl_Ro hp0) (rok_p hp0).1 (by rw [(rok_f hp0).1.2.2]; decide) (Or.inl kw_718) (f := (128 * l0r + 2)) rfl (rok_f hp0).2.2.2.1 d_Ro_valueAt_2 h fun v2 h => ?_
  refine ww_icmp_ge (pc := 5) (tgt := 17) g.1 d_Ro_valueAt_5 (by decide) h (fun c h => ?_) (fun c h => ?_)
  · refine ww_lconst (pc := 17) g.1 (v := 0) d_Ro_valueAt_17 (by decide) ?_
    exact ww_lretH (pc := 18) g h hR d_Ro_valueAt_18
  · refine ww_aload_n (pc := 8) g.1 d_Ro_valueAt_8 rfl (lv_at hl 0 rfl) ?_
    refine ww_gR (pc := 9) g (k := 1) (cl_Ro hp0) (rok_p hp0).1 (by rw [(rok_f hp0).1.2.2]; decide) (Or.inl kw_904) (f := (128 * l0r + 1)) (t := l0r + 2) rfl (rok_f hp0).2.2.1.1 (rok_f hp0).2.2.1.2 d_Ro_valueAt_9 ?_
    refine ww_iload_n (pc := 12) g.1 d_Ro_valueAt_12 rfl (lv_at hl 1 rfl) ?_
    refine ww_al (pc := 13) g (rok_p hp0).2.2 (rok_f hp0).2.2.2.2.2 (rok_n hp0).2 d_Ro_valueAt_13 h fun v13 h => ?_
    refine ww_goto (pc := 14) (tgt := 18) g.1 d_Ro_valueAt_14 (by decide) ?_
    exact ww_lretH (pc := 18) g h hR d_Ro_valueAt_18

abbrev b_Bu_typeOf : ByteArray := prog_2_method_11_code
def y_Bu_typeOf : MethodName := ⟨R_Bu, "typeOf", "(I)I"⟩
abbrev w_Bu_typeOf : List Cond := .code y_Bu_typeOf b_Bu_typeOf 1 (some .int) :: wA
theorem k_Bu_typeOf : Cond.code y_Bu_typeOf b_Bu_typeOf 1 (some .int) ∈ wA := kinm (show _ ∈ tables_1 from (List.mem_append_right _ (List.mem_append_right _ (List.mem_append_right _ (List.mem_append_right _ (List.mem_append_right _ (List.mem_append_right _ (List.mem_append_right _ (List.mem_append_left _ (List.mem_of_getElem? (l := tables_1_8) (i := 65) (by decide +kernel))))))))))) (by decide +kernel)
theorem d_Bu_typeOf_0 : decode b_Bu_typeOf 0 = .ok (.iload_n 0, 1) := by decide +kernel
theorem d_Bu_typeOf_1 : decode b_Bu_typeOf 1 = .ok (.iconst 1, 1) := by decide +kernel
theorem d_Bu_typeOf_2 : decode b_Bu_typeOf 2 = .ok (.if_icmp .gt 7, 3) := by decide +kernel
theorem d_Bu_typeOf_5 : decode b_Bu_typeOf 5 = .ok (.iload_n 0, 1) := by decide +kernel
theorem d_Bu_typeOf_6 : decode b_Bu_typeOf 6 = .ok (.goto 6, 3) := by decide +kernel
theorem d_Bu_typeOf_9 : decode b_Bu_typeOf 9 = .ok (.iload_n 0, 1) := by decide +kernel
theorem d_Bu_typeOf_10 : decode b_Bu_typeOf 10 = .ok (.iconst 1, 1) := by decide +kernel
theorem d_Bu_typeOf_11 : decode b_Bu_typeOf 11 = .ok (.isub, 1) := by decide +kernel
theorem d_Bu_typeOf_12 : decode b_Bu_typeOf 12 = .ok (.ireturn, 1) := by decide +kernel
theorem kw_963 : Cond.static y_Bu_typeOf ∈ wA := kinm (show _ ∈ tables_1 from (List.mem_append_right _ (List.mem_append_right _ (List.mem_append_right _ (List.mem_append_right _ (List.mem_append_right _ (List.mem_append_right _ (List.mem_append_right _ (List.mem_append_left _ (List.mem_of_getElem? (l := tables_1_8) (i := 64) (by decide +kernel))))))))))) (by decide +kernel)
theorem cs_Bu_typeOf : CS y_Bu_typeOf b_Bu_typeOf 1 (some .int) 1 := ⟨kw_963, kw_950, k_Bu_typeOf, by decide +kernel⟩
theorem ct_Bu_typeOf {l : Launch} {P : PP} {q : PL} {s s' : S1} {l0 : Int32} {r : Int32} (h : M_Bu_typeOf l0 s = some (r, s')) : Ct l y_Bu_typeOf b_Bu_typeOf 1 (some .int) 0 0 P q s [.int l0] (some (.int r)) q s' := by
  refine ct_of (by decide) (Nat.le_of_ble_eq_true rfl) fun X ls eP el g hR hl => ?_
  subst eP
  have hR : Rt X q ((r, s') : Int32 × S1).2 (some (.int ((r, s') : Int32 × S1).1)) := hR
  have hl : lv_has ls 1 [(0, .int l0)] := hl
  generalize (r, s') = o at h hR
  unfold M_Bu_typeOf at h
  refine ww_iload_n (pc := 0) g.1 d_Bu_typeOf_0 rfl (lv_at hl 0 rfl) ?_
  refine ww_iconst (pc := 1) g.1 (v := 1) d_Bu_typeOf_1 (by decide) ?_
  refine ww_icmp_gt (pc := 2) (tgt := 9) g.1 d_Bu_typeOf_2 (by decide) h (fun c h => ?_) (fun c h => ?_)
  · refine ww_iload_n (pc := 9) g.1 d_Bu_typeOf_9 rfl (lv_at hl 0 rfl) ?_
    refine ww_iconst (pc := 10) g.1 (v := 1) d_Bu_typeOf_10 (by decide) ?_
    refine ww_isub (pc := 11) g.1 d_Bu_typeOf_11 ?_
    exact ww_iretH (pc := 12) g h hR d_Bu_typeOf_12
  · refine ww_iload_n (pc := 5) g.1 d_Bu_typeOf_5 rfl (lv_at hl 0 rfl) ?_
    refine ww_goto (pc := 6) (tgt := 12) g.1 d_Bu_typeOf_6 (by decide) ?_
    exact ww_iretH (pc := 12) g h hR d_Bu_typeOf_12

abbrev b_Ro_dropFirst : ByteArray := prog_9_method_5_code
def y_Ro_dropFirst : MethodName := ⟨R_Ro, "dropFirst", "(I)V"⟩
abbrev w_Ro_dropFirst : List Cond := .code y_Ro_dropFirst b_Ro_dropFirst 3 none :: wA
theorem k_Ro_dropFirst : Cond.code y_Ro_dropFirst b_Ro_dropFirst 3 none ∈ wA := kinm (show _ ∈ tables_1 from (List.mem_append_right _ (List.mem_append_right _ (List.mem_append_right _ (List.mem_append_right _ (List.mem_append_right _ (List.mem_append_right _ (List.mem_append_right _ (List.mem_append_left _ (List.mem_of_getElem? (l := tables_1_8) (i := 74) (by decide +kernel))))))))))) (by decide +kernel)
theorem d_Ro_dropFirst_0 : decode b_Ro_dropFirst 0 = .ok (.iconst 0, 1) := by decide +kernel
theorem d_Ro_dropFirst_1 : decode b_Ro_dropFirst 1 = .ok (.aload_n 0, 1) := by decide +kernel
theorem d_Ro_dropFirst_2 : decode b_Ro_dropFirst 2 = .ok (.getfield 19, 3) := by decide +kernel
theorem d_Ro_dropFirst_5 : decode b_Ro_dropFirst 5 = .ok (.iload_n 1, 1) := by decide +kernel
theorem d_Ro_dropFirst_6 : decode b_Ro_dropFirst 6 = .ok (.isub, 1) := by decide +kernel
theorem d_Ro_dropFirst_7 : decode b_Ro_dropFirst 7 = .ok (.invokestatic 29, 3) := by decide +kernel
theorem d_Ro_dropFirst_10 : decode b_Ro_dropFirst 10 = .ok (.istore_n 2, 1) := by decide +kernel
theorem d_Ro_dropFirst_11 : decode b_Ro_dropFirst 11 = .ok (.aload_n 0, 1) := by decide +kernel
theorem d_Ro_dropFirst_12 : decode b_Ro_dropFirst 12 = .ok (.getfield 9, 3) := by decide +kernel
theorem d_Ro_dropFirst_15 : decode b_Ro_dropFirst 15 = .ok (.aload_n 0, 1) := by decide +kernel
theorem d_Ro_dropFirst_16 : decode b_Ro_dropFirst 16 = .ok (.getfield 19, 3) := by decide +kernel
theorem d_Ro_dropFirst_19 : decode b_Ro_dropFirst 19 = .ok (.iload_n 2, 1) := by decide +kernel
theorem d_Ro_dropFirst_20 : decode b_Ro_dropFirst 20 = .ok (.isub, 1) := by decide +kernel
theorem d_Ro_dropFirst_21 : decode b_Ro_dropFirst 21 = .ok (.aload_n 0, 1) := by decide +kernel
theorem d_Ro_dropFirst_22 : decode b_Ro_dropFirst 22 = .ok (.getfield 9, 3) := by decide +kernel
theorem d_Ro_dropFirst_25 : decode b_Ro_dropFirst 25 = .ok (.iconst 0, 1) := by decide +kernel
theorem d_Ro_dropFirst_26 : decode b_Ro_dropFirst 26 = .ok (.iload_n 2, 1) := by decide +kernel
theorem d_Ro_dropFirst_27 : decode b_Ro_dropFirst 27 = .ok (.invokestatic 23, 3) := by decide +kernel
theorem d_Ro_dropFirst_30 : decode b_Ro_dropFirst 30 = .ok (.aload_n 0, 1) := by decide +kernel
theorem d_Ro_dropFirst_31 : decode b_Ro_dropFirst 31 = .ok (.getfield 15, 3) := by decide +kernel
theorem d_Ro_dropFirst_34 : decode b_Ro_dropFirst 34 = .ok (.aload_n 0, 1) := by decide +kernel
theorem d_Ro_dropFirst_35 : decode b_Ro_dropFirst 35 = .ok (.getfield 19, 3) := by decide +kernel
theorem d_Ro_dropFirst_38 : decode b_Ro_dropFirst 38 = .ok (.iload_n 2, 1) := by decide +kernel
theorem d_Ro_dropFirst_39 : decode b_Ro_dropFirst 39 = .ok (.isub, 1) := by decide +kernel
theorem d_Ro_dropFirst_40 : decode b_Ro_dropFirst 40 = .ok (.aload_n 0, 1) := by decide +kernel
theorem d_Ro_dropFirst_41 : decode b_Ro_dropFirst 41 = .ok (.getfield 15, 3) := by decide +kernel
theorem d_Ro_dropFirst_44 : decode b_Ro_dropFirst 44 = .ok (.iconst 0, 1) := by decide +kernel
theorem d_Ro_dropFirst_45 : decode b_Ro_dropFirst 45 = .ok (.iload_n 2, 1) := by decide +kernel
theorem d_Ro_dropFirst_46 : decode b_Ro_dropFirst 46 = .ok (.invokestatic 23, 3) := by decide +kernel
theorem d_Ro_dropFirst_49 : decode b_Ro_dropFirst 49 = .ok (.aload_n 0, 1) := by decide +kernel
theorem d_Ro_dropFirst_50 : decode b_Ro_dropFirst 50 = .ok (.iload_n 2, 1) := by decide +kernel
theorem d_Ro_dropFirst_51 : decode b_Ro_dropFirst 51 = .ok (.putfield 19, 3) := by decide +kernel
theorem d_Ro_dropFirst_54 : decode b_Ro_dropFirst 54 = .ok (.return_, 1) := by decide +kernel
theorem kw_964 : Cond.methodLink R_Ro 29 y_Mth_max ∈ wA := kinm (show _ ∈ tables_1 from (List.mem_append_right _ (List.mem_append_right _ (List.mem_append_right _ (List.mem_append_right _ (List.mem_append_right _ (List.mem_append_right _ (List.mem_append_right _ (List.mem_append_left _ (List.mem_of_getElem? (l := tables_1_8) (i := 75) (by decide +kernel))))))))))) (by decide +kernel)
theorem kw_965 : Cond.instanceMethod y_Ro_dropFirst ∈ wA := kinm (show _ ∈ tables_1 from (List.mem_append_right _ (List.mem_append_right _ (List.mem_append_right _ (List.mem_append_right _ (List.mem_append_right _ (List.mem_append_right _ (List.mem_append_right _ (List.mem_append_left _ (List.mem_of_getElem? (l := tables_1_8) (i := 72) (by decide +kernel))))))))))) (by decide +kernel)
theorem kw_966 : Cond.selects R_Ro y_Ro_dropFirst y_Ro_dropFirst ∈ wA := kinm (show _ ∈ tables_1 from (List.mem_append_right _ (List.mem_append_right _ (List.mem_append_right _ (List.mem_append_right _ (List.mem_append_right _ (List.mem_append_right _ (List.mem_append_right _ (List.mem_append_left _ (List.mem_of_getElem? (l := tables_1_8) (i := 73) (by decide +kernel))))))))))) (by decide +kernel)
theorem cv_Ro_dropFirst : CV y_Ro_dropFirst b_Ro_dropFirst 3 none 1 := ⟨kw_965, kw_966, kw_721, k_Ro_dropFirst, by decide +kernel⟩
theorem ct_Ro_dropFirst {l : Launch} {P : PP} {q : PL} {s s' : S1} {l0r : Nat} {l0 : Int32} {l1 : Int32} (hp0 : ROK l0r l0) {r : Unit} (h : M_Ro_dropFirst l0r l0 l1 s = some (r, s')) : Ct l y_Ro_dropFirst b_Ro_dropFirst 3 none 1 26 P q s [.ref (q.1 l0r l0), .int l1] none q s' := by
  refine ct_of (by decide) (Nat.le_of_ble_eq_true rfl) fun X ls eP el g hR hl => ?_
  subst eP
  have hR : Rt X q ((r, s') : Unit × S1).2 none := hR
  have hl : lv_has ls 3 [(0, .ref (q.1 l0r l0)), (1, .int l1)] := hl
  generalize (r, s') = o at h hR
  unfold M_Ro_dropFirst at h
  refine ww_iconst (pc := 0) g.1 (v := 0) d_Ro_dropFirst_0 (by decide) ?_
  refine ww_aload_n (pc := 1) g.1 d_Ro_dropFirst_1 rfl (lv_at hl 0 rfl) ?_
  refine ww_gI (pc := 2) g (k := 2) (cl_Ro hp0) (rok_p hp0).1 (by rw [(rok_f hp0).1.2.2]; decide) (Or.inl kw_718) (f := (128 * l0r + 2)) rfl (rok_f hp0).2.2.2.1 d_Ro_dropFirst_2 h fun v2 h => ?_
  refine ww_iload_n (pc := 5) g.1 d_Ro_dropFirst_5 rfl (lv_at hl 1 rfl) ?_
  refine ww_isub (pc := 6) g.1 d_Ro_dropFirst_6 ?_
  obtain ⟨v7, s, hc7, h⟩ := oB_of h
  refine ww_callS (pc := 7) (rest := []) g cs_Mth_max (Or.inl kw_964) (ct_Mth_max hc7) ⟨by decide, by decide⟩ rfl hl.1 (Nat.le_of_ble_eq_true rfl) d_Ro_dropFirst_7 rfl (?_)
  refine ww_st (st' := [.int v7]) rfl ?_
  refine ww_istore_n (pc := 10) (i := 2) g.1 (lv' := [(2, .int v7), (0, .ref (q.1 l0r l0)), (1, .int l1)]) d_Ro_dropFirst_10 rfl hl (by decide) rfl fun ls hl => ?_
  refine ww_aload_n (pc := 11) g.1 d_Ro_dropFirst_11 rfl (lv_at hl 1 rfl) ?_
  refine ww_gR (pc := 12) g (k := 0) (cl_Ro hp0) (rok_p hp0).1 (by rw [(rok_f hp0).1.2.2]; decide) (Or.inl kw_903) (f := (128 * l0r + 0)) (t := l0r + 1) rfl (rok_f hp0).2.1.1 (rok_f hp0).2.1.2 d_Ro_dropFirst_12 ?_
  refine ww_aload_n (pc := 15) g.1 d_Ro_dropFirst_15 rfl (lv_at hl 1 rfl) ?_
  refine ww_gI (pc := 16) g (k := 2) (cl_Ro hp0) (rok_p hp0).1 (by rw [(rok_f hp0).1.2.2]; decide) (Or.inl kw_718) (f := (128 * l0r + 2)) rfl (rok_f hp0).2.2.2.1 d_Ro_dropFirst_16 h fun v16 h => ?_
  refine ww_iload_n (pc := 19) g.1 d_Ro_dropFirst_19 rfl (lv_at hl 0 rfl) ?_
  refine ww_isub (pc := 20) g.1 d_Ro_dropFirst_20 ?_
  refine ww_aload_n (pc := 21) g.1 d_Ro_dropFirst_21 rfl (lv_at hl 1 rfl) ?_
  refine ww_gR (pc := 22) g (k := 0) (cl_Ro hp0) (rok_p hp0).1 (by rw [(rok_f hp0).1.2.2]; decide) (Or.inl kw_903) (f := (128 * l0r + 0)) (t := l0r + 1) rfl (rok_f hp0).2.1.1 (rok_f hp0).2.1.2 d_Ro_dropFirst_22 ?_
  refine ww_iconst (pc := 25) g.1 (v := 0) d_Ro_dropFirst_25 (by decide) ?_
  refine ww_iload_n (pc := 26) g.1 d_Ro_dropFirst_26 rfl (lv_at hl 0 rfl) ?_
  refine ww_ci (pc := 27) g (rok_p hp0).2.1 (rok_p hp0).2.1 ((rok_f hp0).2.2.2.2.1.trans (rok_f hp0).2.2.2.2.1.symm) (Or.inr (rok_f hp0).2.2.2.2.1) (rok_n hp0).1 (rok_n hp0).1 kw_935 kw_512 kw_513 kw_514 ⟨by decide, by decide⟩ hl.1 (Nat.le_of_ble_eq_true rfl) d_Ro_dropFirst_27 h fun s hs h => ?_
  refine ww_aload_n (pc := 30) g.1 d_Ro_dropFirst_30 rfl (lv_at hl 1 rfl) ?_
  refine ww_gR (pc := 31) g (k := 1) (cl_Ro hp0) (rok_p hp0).1 (by rw [(rok_f hp0).1.2.2]; decide) (Or.inl kw_904) (f := (128 * l0r + 1)) (t := l0r + 2) rfl (rok_f hp0).2.2.1.1 (rok_f hp0).2.2.1.2 d_Ro_dropFirst_31 ?_
  refine ww_aload_n (pc := 34) g.1 d_Ro_dropFirst_34 rfl (lv_at hl 1 rfl) ?_
  refine ww_gI (pc := 35) g (k := 2) (cl_Ro hp0) (rok_p hp0).1 (by rw [(rok_f hp0).1.2.2]; decide) (Or.inl kw_718) (f := (128 * l0r + 2)) rfl (rok_f hp0).2.2.2.1 d_Ro_dropFirst_35 h fun v35 h => ?_
  refine ww_iload_n (pc := 38) g.1 d_Ro_dropFirst_38 rfl (lv_at hl 0 rfl) ?_
  refine ww_isub (pc := 39) g.1 d_Ro_dropFirst_39 ?_
  refine ww_aload_n (pc := 40) g.1 d_Ro_dropFirst_40 rfl (lv_at hl 1 rfl) ?_
  refine ww_gR (pc := 41) g (k := 1) (cl_Ro hp0) (rok_p hp0).1 (by rw [(rok_f hp0).1.2.2]; decide) (Or.inl kw_904) (f := (128 * l0r + 1)) (t := l0r + 2) rfl (rok_f hp0).2.2.1.1 (rok_f hp0).2.2.1.2 d_Ro_dropFirst_41 ?_
  refine ww_iconst (pc := 44) g.1 (v := 0) d_Ro_dropFirst_44 (by decide) ?_
  refine ww_iload_n (pc := 45) g.1 d_Ro_dropFirst_45 rfl (lv_at hl 0 rfl) ?_
  refine ww_cl (pc := 46) g (rok_p hp0).2.2 (rok_p hp0).2.2 (rok_f hp0).2.2.2.2.2 (rok_f hp0).2.2.2.2.2 (rok_n hp0).2 (rok_n hp0).2 kw_935 kw_512 kw_513 kw_514 ⟨by decide, by decide⟩ hl.1 (Nat.le_of_ble_eq_true rfl) d_Ro_dropFirst_46 h fun s hs h => ?_
  refine ww_aload_n (pc := 49) g.1 d_Ro_dropFirst_49 rfl (lv_at hl 1 rfl) ?_
  refine ww_iload_n (pc := 50) g.1 d_Ro_dropFirst_50 rfl (lv_at hl 0 rfl) ?_
  refine ww_pI (pc := 51) g (k := 2) (cl_Ro hp0) (rok_p hp0).1 (by rw [(rok_f hp0).1.2.2]; decide) (Or.inl kw_718) rfl (f := (128 * l0r + 2)) rfl (rok_f hp0).2.2.2.1 rfl rfl d_Ro_dropFirst_51 h fun s hs h => ?_
  exact ww_vretH (pc := 54) g h hR d_Ro_dropFirst_54

abbrev b_Bu_addEntry : ByteArray := prog_2_method_9_code
def y_Bu_addEntry : MethodName := ⟨R_Bu, "addEntry", "(I)V"⟩
abbrev w_Bu_addEntry : List Cond := .code y_Bu_addEntry b_Bu_addEntry 2 none :: wA
theorem k_Bu_addEntry : Cond.code y_Bu_addEntry b_Bu_addEntry 2 none ∈ wA := kinm (show _ ∈ tables_1 from (List.mem_append_right _ (List.mem_append_right _ (List.mem_append_right _ (List.mem_append_right _ (List.mem_append_right _ (List.mem_append_right _ (List.mem_append_right _ (List.mem_append_left _ (List.mem_of_getElem? (l := tables_1_8) (i := 91) (by decide +kernel))))))))))) (by decide +kernel)
theorem d_Bu_addEntry_0 : decode b_Bu_addEntry 0 = .ok (.aload_n 0, 1) := by decide +kernel
theorem d_Bu_addEntry_1 : decode b_Bu_addEntry 1 = .ok (.getfield 39, 3) := by decide +kernel
theorem d_Bu_addEntry_4 : decode b_Bu_addEntry 4 = .ok (.iload_n 1, 1) := by decide +kernel
theorem d_Bu_addEntry_5 : decode b_Bu_addEntry 5 = .ok (.ifCond .ge 7, 3) := by decide +kernel
theorem d_Bu_addEntry_8 : decode b_Bu_addEntry 8 = .ok (.iconst 0, 1) := by decide +kernel
theorem d_Bu_addEntry_9 : decode b_Bu_addEntry 9 = .ok (.goto 12, 3) := by decide +kernel
theorem d_Bu_addEntry_12 : decode b_Bu_addEntry 12 = .ok (.aload_n 0, 1) := by decide +kernel
theorem d_Bu_addEntry_13 : decode b_Bu_addEntry 13 = .ok (.getfield 30, 3) := by decide +kernel
theorem d_Bu_addEntry_16 : decode b_Bu_addEntry 16 = .ok (.getfield 158, 3) := by decide +kernel
theorem d_Bu_addEntry_19 : decode b_Bu_addEntry 19 = .ok (.iload_n 1, 1) := by decide +kernel
theorem d_Bu_addEntry_20 : decode b_Bu_addEntry 20 = .ok (.baload, 1) := by decide +kernel
theorem d_Bu_addEntry_21 : decode b_Bu_addEntry 21 = .ok (.iload_n 1, 1) := by decide +kernel
theorem d_Bu_addEntry_22 : decode b_Bu_addEntry 22 = .ok (.ifCond .ge 7, 3) := by decide +kernel
theorem d_Bu_addEntry_25 : decode b_Bu_addEntry 25 = .ok (.lconst 0, 1) := by decide +kernel
theorem d_Bu_addEntry_26 : decode b_Bu_addEntry 26 = .ok (.goto 12, 3) := by decide +kernel
theorem d_Bu_addEntry_29 : decode b_Bu_addEntry 29 = .ok (.aload_n 0, 1) := by decide +kernel
theorem d_Bu_addEntry_30 : decode b_Bu_addEntry 30 = .ok (.getfield 30, 3) := by decide +kernel
theorem d_Bu_addEntry_33 : decode b_Bu_addEntry 33 = .ok (.getfield 163, 3) := by decide +kernel
theorem d_Bu_addEntry_36 : decode b_Bu_addEntry 36 = .ok (.iload_n 1, 1) := by decide +kernel
theorem d_Bu_addEntry_37 : decode b_Bu_addEntry 37 = .ok (.laload, 1) := by decide +kernel
theorem d_Bu_addEntry_38 : decode b_Bu_addEntry 38 = .ok (.invokevirtual 74, 3) := by decide +kernel
theorem d_Bu_addEntry_41 : decode b_Bu_addEntry 41 = .ok (.return_, 1) := by decide +kernel
theorem kw_967 : Cond.fieldLink R_Bu 39 "LuaMachine$BuiltIns" "results" "LLuaMachine$Row;" ∈ wA := kinm (show _ ∈ tables_1 from (List.mem_append_right _ (List.mem_append_left _ (List.mem_of_getElem? (l := tables_1_2) (i := 194) (by decide +kernel))))) (by decide +kernel)
theorem kw_968 : Cond.fieldLink R_Bu 30 "LuaMachine$BuiltIns" "tables" "LLuaMachine$Tables;" ∈ wA := kinm (show _ ∈ tables_1 from (List.mem_append_right _ (List.mem_append_left _ (List.mem_of_getElem? (l := tables_1_2) (i := 192) (by decide +kernel))))) (by decide +kernel)
theorem kw_969 : Cond.fieldLink R_Bu 158 "LuaMachine$Tables" "valueKinds" "[B" ∈ wA := kinm (show _ ∈ tables_1 from (List.mem_append_left _ (List.mem_of_getElem? (l := tables_1_1) (i := 219) (by decide +kernel)))) (by decide +kernel)
theorem kw_970 : Cond.fieldLink R_Bu 163 "LuaMachine$Tables" "values" "[J" ∈ wA := kinm (show _ ∈ tables_1 from (List.mem_append_left _ (List.mem_of_getElem? (l := tables_1_1) (i := 224) (by decide +kernel)))) (by decide +kernel)
theorem kw_971 : Cond.methodLink R_Bu 74 y_Ro_add ∈ wA := kinm (show _ ∈ tables_1 from (List.mem_append_right _ (List.mem_append_right _ (List.mem_append_right _ (List.mem_append_right _ (List.mem_append_right _ (List.mem_append_right _ (List.mem_append_right _ (List.mem_append_left _ (List.mem_of_getElem? (l := tables_1_8) (i := 57) (by decide +kernel))))))))))) (by decide +kernel)
theorem kw_972 : Cond.instanceMethod y_Bu_addEntry ∈ wA := kinm (show _ ∈ tables_1 from (List.mem_append_right _ (List.mem_append_right _ (List.mem_append_right _ (List.mem_append_right _ (List.mem_append_right _ (List.mem_append_right _ (List.mem_append_right _ (List.mem_append_left _ (List.mem_of_getElem? (l := tables_1_8) (i := 90) (by decide +kernel))))))))))) (by decide +kernel)
theorem kw_973 : Cond.selects R_Bu y_Bu_addEntry y_Bu_addEntry ∈ wA := kinp 75 (by decide +kernel) (by decide +kernel)
theorem cv_Bu_addEntry : CV y_Bu_addEntry b_Bu_addEntry 2 none 1 := ⟨kw_972, kw_973, kw_950, k_Bu_addEntry, by decide +kernel⟩
theorem j_Bu_addEntry_j38 {X : Cx} {q : PL} (g : Gd X y_Bu_addEntry b_Bu_addEntry 2 none 1 23 R_Bu) {o : (Unit) × S1} (hR : Rt X q o.2 none) (k0 : Int64) (k1 : Int32) (s : S1) (ls : Array Slot) (hl : lv_has ls 2 []) (h : M_Bu_addEntry_j38 k0 k1 s = some o) : WW X q s 38 ls [.long k0, .int k1, .ref (q.1 135 0)] := by
  unfold M_Bu_addEntry_j38 at h
  obtain ⟨v38, s, hc38, h⟩ := oB_of h
  refine ww_callV (pc := 38) (rest := []) g cv_Ro_add (Or.inl kw_971) (cl_Ro ⟨by decide, rfl⟩) (pz rfl (by decide)) (ct_Ro_add ⟨by decide, rfl⟩ hc38) ⟨by decide, by decide⟩ rfl hl.1 (Nat.le_of_ble_eq_true rfl) d_Bu_addEntry_38 rfl (?_)
  refine ww_st (st' := []) rfl ?_
  exact ww_vretH (pc := 41) g h hR d_Bu_addEntry_41

theorem j_Bu_addEntry_j21 {X : Cx} {q : PL} (g : Gd X y_Bu_addEntry b_Bu_addEntry 2 none 1 23 R_Bu) {o : (Unit) × S1} (hR : Rt X q o.2 none) (l1 : Int32) (k0 : Int32) (s : S1) (ls : Array Slot) (hl : lv_has ls 2 [(0, .ref (q.1 130 0)), (1, .int l1)]) (h : M_Bu_addEntry_j21 l1 k0 s = some o) : WW X q s 21 ls [.int k0, .ref (q.1 135 0)] := by
  unfold M_Bu_addEntry_j21 at h
  refine ww_iload_n (pc := 21) g.1 d_Bu_addEntry_21 rfl (lv_at hl 1 rfl) ?_
  refine ww_if_ge (pc := 22) (tgt := 29) g.1 d_Bu_addEntry_22 (by decide) h (fun c h => ?_) (fun c h => ?_)
  · refine ww_aload_n (pc := 29) g.1 d_Bu_addEntry_29 rfl (lv_at hl 0 rfl) ?_
    refine ww_gR (pc := 30) g (k := 4) cl_Bu (pz rfl (by decide)) (by decide) (Or.inl kw_968) (f := 16644) (t := 120) rfl rfl rfl d_Bu_addEntry_30 ?_
    refine ww_gR (pc := 33) g (k := 3) cl_Ta (pz rfl (by decide)) (by decide) (Or.inl kw_970) (f := 15363) (t := 124) rfl rfl rfl d_Bu_addEntry_33 ?_
    refine ww_iload_n (pc := 36) g.1 d_Bu_addEntry_36 rfl (lv_at hl 1 rfl) ?_
    refine ww_al (pc := 37) g (pz rfl (by decide)) rfl rfl d_Bu_addEntry_37 h fun v37 h => ?_
    exact j_Bu_addEntry_j38 g hR v37 k0 s ls (lv_sub hl [] rfl) h
  · refine ww_lconst (pc := 25) g.1 (v := 0) d_Bu_addEntry_25 (by decide) ?_
    refine ww_goto (pc := 26) (tgt := 38) g.1 d_Bu_addEntry_26 (by decide) ?_
    exact j_Bu_addEntry_j38 g hR 0 k0 s ls (lv_sub hl [] rfl) h

theorem ct_Bu_addEntry {l : Launch} {P : PP} {q : PL} {s s' : S1} {l1 : Int32} {r : Unit} (h : M_Bu_addEntry l1 s = some (r, s')) : Ct l y_Bu_addEntry b_Bu_addEntry 2 none 1 23 P q s [.ref (q.1 130 0), .int l1] none q s' := by
  refine ct_of (by decide) (Nat.le_of_ble_eq_true rfl) fun X ls eP el g hR hl => ?_
  subst eP
  have hR : Rt X q ((r, s') : Unit × S1).2 none := hR
  have hl : lv_has ls 2 [(0, .ref (q.1 130 0)), (1, .int l1)] := hl
  generalize (r, s') = o at h hR
  unfold M_Bu_addEntry at h
  refine ww_aload_n (pc := 0) g.1 d_Bu_addEntry_0 rfl (lv_at hl 0 rfl) ?_
  refine ww_gR (pc := 1) g (k := 6) cl_Bu (pz rfl (by decide)) (by decide) (Or.inl kw_967) (f := 16646) (t := 135) rfl rfl rfl d_Bu_addEntry_1 ?_
  refine ww_iload_n (pc := 4) g.1 d_Bu_addEntry_4 rfl (lv_at hl 1 rfl) ?_
  refine ww_if_ge (pc := 5) (tgt := 12) g.1 d_Bu_addEntry_5 (by decide) h (fun c h => ?_) (fun c h => ?_)
  · refine ww_aload_n (pc := 12) g.1 d_Bu_addEntry_12 rfl (lv_at hl 0 rfl) ?_
    refine ww_gR (pc := 13) g (k := 4) cl_Bu (pz rfl (by decide)) (by decide) (Or.inl kw_968) (f := 16644) (t := 120) rfl rfl rfl d_Bu_addEntry_13 ?_
    refine ww_gR (pc := 16) g (k := 2) cl_Ta (pz rfl (by decide)) (by decide) (Or.inl kw_969) (f := 15362) (t := 123) rfl rfl rfl d_Bu_addEntry_16 ?_
    refine ww_iload_n (pc := 19) g.1 d_Bu_addEntry_19 rfl (lv_at hl 1 rfl) ?_
    refine ww_ab (pc := 20) g (pz rfl (by decide)) rfl rfl d_Bu_addEntry_20 h fun v20 h => ?_
    exact j_Bu_addEntry_j21 g hR l1 v20 s ls (lv_sub hl [0, 1] rfl) h
  · refine ww_iconst (pc := 8) g.1 (v := 0) d_Bu_addEntry_8 (by decide) ?_
    refine ww_goto (pc := 9) (tgt := 21) g.1 d_Bu_addEntry_9 (by decide) ?_
    exact j_Bu_addEntry_j21 g hR l1 0 s ls (lv_sub hl [0, 1] rfl) h

abbrev b_Bu_bytesOfFirst : ByteArray := prog_2_method_7_code
def y_Bu_bytesOfFirst : MethodName := ⟨R_Bu, "bytesOfFirst", "()[B"⟩
abbrev w_Bu_bytesOfFirst : List Cond := .code y_Bu_bytesOfFirst b_Bu_bytesOfFirst 1 (some (.array .byte)) :: wA
theorem k_Bu_bytesOfFirst : Cond.code y_Bu_bytesOfFirst b_Bu_bytesOfFirst 1 (some (.array .byte)) ∈ wA := kinm (show _ ∈ tables_1 from (List.mem_append_right _ (List.mem_append_right _ (List.mem_append_right _ (List.mem_append_right _ (List.mem_append_right _ (List.mem_append_right _ (List.mem_append_right _ (List.mem_append_left _ (List.mem_of_getElem? (l := tables_1_8) (i := 109) (by decide +kernel))))))))))) (by decide +kernel)
theorem d_Bu_bytesOfFirst_0 : decode b_Bu_bytesOfFirst 0 = .ok (.aload_n 0, 1) := by decide +kernel
theorem d_Bu_bytesOfFirst_1 : decode b_Bu_bytesOfFirst 1 = .ok (.getfield 25, 3) := by decide +kernel
theorem d_Bu_bytesOfFirst_4 : decode b_Bu_bytesOfFirst 4 = .ok (.getfield 149, 3) := by decide +kernel
theorem d_Bu_bytesOfFirst_7 : decode b_Bu_bytesOfFirst 7 = .ok (.aload_n 0, 1) := by decide +kernel
theorem d_Bu_bytesOfFirst_8 : decode b_Bu_bytesOfFirst 8 = .ok (.getfield 35, 3) := by decide +kernel
theorem d_Bu_bytesOfFirst_11 : decode b_Bu_bytesOfFirst 11 = .ok (.iconst 0, 1) := by decide +kernel
theorem d_Bu_bytesOfFirst_12 : decode b_Bu_bytesOfFirst 12 = .ok (.invokevirtual 78, 3) := by decide +kernel
theorem d_Bu_bytesOfFirst_15 : decode b_Bu_bytesOfFirst 15 = .ok (.l2i, 1) := by decide +kernel
theorem d_Bu_bytesOfFirst_16 : decode b_Bu_bytesOfFirst 16 = .ok (.aaload, 1) := by decide +kernel
theorem d_Bu_bytesOfFirst_17 : decode b_Bu_bytesOfFirst 17 = .ok (.getfield 153, 3) := by decide +kernel
theorem d_Bu_bytesOfFirst_20 : decode b_Bu_bytesOfFirst 20 = .ok (.areturn, 1) := by decide +kernel
theorem kw_974 : Cond.fieldLink R_Bu 25 "LuaMachine$BuiltIns" "heap" "LLuaMachine$Heap;" ∈ wA := kinm (show _ ∈ tables_1 from (List.mem_append_right _ (List.mem_append_left _ (List.mem_of_getElem? (l := tables_1_2) (i := 191) (by decide +kernel))))) (by decide +kernel)
theorem kw_975 : Cond.fieldLink R_Bu 149 "LuaMachine$Heap" "things" "[LLuaMachine$Thing;" ∈ wA := kinm (show _ ∈ tables_1 from (List.mem_append_left _ (List.mem_of_getElem? (l := tables_1_1) (i := 136) (by decide +kernel)))) (by decide +kernel)
theorem kw_976 : Cond.fieldLink R_Bu 35 "LuaMachine$BuiltIns" "args" "LLuaMachine$Row;" ∈ wA := kinm (show _ ∈ tables_1 from (List.mem_append_right _ (List.mem_append_left _ (List.mem_of_getElem? (l := tables_1_2) (i := 193) (by decide +kernel))))) (by decide +kernel)
theorem kw_977 : Cond.methodLink R_Bu 78 y_Ro_valueAt ∈ wA := kinm (show _ ∈ tables_1 from (List.mem_append_right _ (List.mem_append_right _ (List.mem_append_right _ (List.mem_append_right _ (List.mem_append_right _ (List.mem_append_right _ (List.mem_append_right _ (List.mem_append_left _ (List.mem_of_getElem? (l := tables_1_8) (i := 49) (by decide +kernel))))))))))) (by decide +kernel)
theorem kw_978 : Cond.fieldLink R_Bu 153 "LuaMachine$Thing" "bytes" "[B" ∈ wA := kinm (show _ ∈ tables_1 from (List.mem_append_right _ (List.mem_append_right _ (List.mem_append_right _ (List.mem_append_right _ (List.mem_append_left _ (List.mem_of_getElem? (l := tables_1_5) (i := 185) (by decide +kernel)))))))) (by decide +kernel)
theorem kw_979 : Cond.instanceMethod y_Bu_bytesOfFirst ∈ wA := kinm (show _ ∈ tables_1 from (List.mem_append_right _ (List.mem_append_right _ (List.mem_append_right _ (List.mem_append_right _ (List.mem_append_right _ (List.mem_append_right _ (List.mem_append_right _ (List.mem_append_left _ (List.mem_of_getElem? (l := tables_1_8) (i := 108) (by decide +kernel))))))))))) (by decide +kernel)
theorem kw_980 : Cond.selects R_Bu y_Bu_bytesOfFirst y_Bu_bytesOfFirst ∈ wA := kinp 79 (by decide +kernel) (by decide +kernel)
theorem cv_Bu_bytesOfFirst : CV y_Bu_bytesOfFirst b_Bu_bytesOfFirst 1 (some (.array .byte)) 0 := ⟨kw_979, kw_980, kw_950, k_Bu_bytesOfFirst, by decide +kernel⟩
theorem ct_Bu_bytesOfFirst {l : Launch} {P : PP} {q : PL} {s s' : S1}  {r : Int32} (h : M_Bu_bytesOfFirst s = some (r, s')) : Ct l y_Bu_bytesOfFirst b_Bu_bytesOfFirst 1 (some (.array .byte)) 1 21 P q s [.ref (q.1 130 0)] (some (.ref (q.1 146 r))) q s' := by
  refine ct_of (by decide) (Nat.le_of_ble_eq_true rfl) fun X ls eP el g hR hl => ?_
  subst eP
  have hR : Rt X q ((r, s') : Int32 × S1).2 (some (.ref (q.1 146 ((r, s') : Int32 × S1).1))) := hR
  have hl : lv_has ls 1 [(0, .ref (q.1 130 0))] := hl
  generalize (r, s') = o at h hR
  unfold M_Bu_bytesOfFirst at h
  refine ww_aload_n (pc := 0) g.1 d_Bu_bytesOfFirst_0 rfl (lv_at hl 0 rfl) ?_
  refine ww_gR (pc := 1) g (k := 3) cl_Bu (pz rfl (by decide)) (by decide) (Or.inl kw_974) (f := 16643) (t := 111) rfl rfl rfl d_Bu_bytesOfFirst_1 ?_
  refine ww_gR (pc := 4) g (k := 0) cl_He (pz rfl (by decide)) (by decide) (Or.inl kw_975) (f := 14208) (t := 112) rfl rfl rfl d_Bu_bytesOfFirst_4 ?_
  refine ww_aload_n (pc := 7) g.1 d_Bu_bytesOfFirst_7 rfl (lv_at hl 0 rfl) ?_
  refine ww_gR (pc := 8) g (k := 5) cl_Bu (pz rfl (by decide)) (by decide) (Or.inl kw_976) (f := 16645) (t := 132) rfl rfl rfl d_Bu_bytesOfFirst_8 ?_
  refine ww_iconst (pc := 11) g.1 (v := 0) d_Bu_bytesOfFirst_11 (by decide) ?_
  obtain ⟨v12, s, hc12, h⟩ := oB_of h
  refine ww_callV (pc := 12) (rest := [.ref (q.1 112 0)]) g cv_Ro_valueAt (Or.inl kw_977) (cl_Ro ⟨by decide, rfl⟩) (pz rfl (by decide)) (ct_Ro_valueAt ⟨by decide, rfl⟩ hc12) ⟨by decide, by decide⟩ rfl hl.1 (Nat.le_of_ble_eq_true rfl) d_Bu_bytesOfFirst_12 rfl (?_)
  refine ww_st (st' := [.long v12, .ref (q.1 112 0)]) rfl ?_
  refine ww_l2i (pc := 15) g.1 (v := v12.toInt32) d_Bu_bytesOfFirst_15 rfl ?_
  refine ww_a8 (pc := 16) g (t := 145) (n := 4000) (pz rfl (by decide)) rfl rfl rfl rfl d_Bu_bytesOfFirst_16 h fun pa16 h => ?_
  refine ww_g5 (pc := 17) g (k := 9) cl_Tg pa16 (by decide) (Or.inl kw_978) (f := 18569) (t := 146) (f2 := 18815) rfl rfl rfl rfl d_Bu_bytesOfFirst_17 h fun v17 hv17 h => ?_
  refine ww_ok h fun cv17 h => ?_
  refine ww_dn cv17 ?_
  have pd17 : prs s 146 v12.toInt32 := pdn (hv17 ▸ cv17) pa16.2.1 pa16.2.2
  exact ww_aretH (pc := 20) g rfl (by first | exact Or.inl ⟨_, rfl⟩ | exact Or.inr ⟨_, rfl⟩) h hR d_Bu_bytesOfFirst_20

abbrev b_Bu_addTruth : ByteArray := prog_2_method_8_code
def y_Bu_addTruth : MethodName := ⟨R_Bu, "addTruth", "(Z)V"⟩
abbrev w_Bu_addTruth : List Cond := .code y_Bu_addTruth b_Bu_addTruth 2 none :: wA
theorem k_Bu_addTruth : Cond.code y_Bu_addTruth b_Bu_addTruth 2 none ∈ wA := kinm (show _ ∈ tables_1 from (List.mem_append_right _ (List.mem_append_right _ (List.mem_append_right _ (List.mem_append_right _ (List.mem_append_right _ (List.mem_append_right _ (List.mem_append_right _ (List.mem_append_left _ (List.mem_of_getElem? (l := tables_1_8) (i := 118) (by decide +kernel))))))))))) (by decide +kernel)
theorem d_Bu_addTruth_0 : decode b_Bu_addTruth 0 = .ok (.aload_n 0, 1) := by decide +kernel
theorem d_Bu_addTruth_1 : decode b_Bu_addTruth 1 = .ok (.getfield 39, 3) := by decide +kernel
theorem d_Bu_addTruth_4 : decode b_Bu_addTruth 4 = .ok (.iload_n 1, 1) := by decide +kernel
theorem d_Bu_addTruth_5 : decode b_Bu_addTruth 5 = .ok (.ifCond .eq 7, 3) := by decide +kernel
theorem d_Bu_addTruth_8 : decode b_Bu_addTruth 8 = .ok (.iconst 2, 1) := by decide +kernel
theorem d_Bu_addTruth_9 : decode b_Bu_addTruth 9 = .ok (.goto 4, 3) := by decide +kernel
theorem d_Bu_addTruth_12 : decode b_Bu_addTruth 12 = .ok (.iconst 1, 1) := by decide +kernel
theorem d_Bu_addTruth_13 : decode b_Bu_addTruth 13 = .ok (.lconst 0, 1) := by decide +kernel
theorem d_Bu_addTruth_14 : decode b_Bu_addTruth 14 = .ok (.invokevirtual 74, 3) := by decide +kernel
theorem d_Bu_addTruth_17 : decode b_Bu_addTruth 17 = .ok (.return_, 1) := by decide +kernel
theorem kw_981 : Cond.instanceMethod y_Bu_addTruth ∈ wA := kinm (show _ ∈ tables_1 from (List.mem_append_right _ (List.mem_append_right _ (List.mem_append_right _ (List.mem_append_right _ (List.mem_append_right _ (List.mem_append_right _ (List.mem_append_right _ (List.mem_append_left _ (List.mem_of_getElem? (l := tables_1_8) (i := 117) (by decide +kernel))))))))))) (by decide +kernel)
theorem kw_982 : Cond.selects R_Bu y_Bu_addTruth y_Bu_addTruth ∈ wA := kinp 81 (by decide +kernel) (by decide +kernel)
theorem cv_Bu_addTruth : CV y_Bu_addTruth b_Bu_addTruth 2 none 1 := ⟨kw_981, kw_982, kw_950, k_Bu_addTruth, by decide +kernel⟩
theorem j_Bu_addTruth_j13 {X : Cx} {q : PL} (g : Gd X y_Bu_addTruth b_Bu_addTruth 2 none 1 23 R_Bu) {o : (Unit) × S1} (hR : Rt X q o.2 none) (k0 : Int32) (s : S1) (ls : Array Slot) (hl : lv_has ls 2 []) (h : M_Bu_addTruth_j13 k0 s = some o) : WW X q s 13 ls [.int k0, .ref (q.1 135 0)] := by
  unfold M_Bu_addTruth_j13 at h
  refine ww_lconst (pc := 13) g.1 (v := 0) d_Bu_addTruth_13 (by decide) ?_
  obtain ⟨v14, s, hc14, h⟩ := oB_of h
  refine ww_callV (pc := 14) (rest := []) g cv_Ro_add (Or.inl kw_971) (cl_Ro ⟨by decide, rfl⟩) (pz rfl (by decide)) (ct_Ro_add ⟨by decide, rfl⟩ hc14) ⟨by decide, by decide⟩ rfl hl.1 (Nat.le_of_ble_eq_true rfl) d_Bu_addTruth_14 rfl (?_)
  refine ww_st (st' := []) rfl ?_
  exact ww_vretH (pc := 17) g h hR d_Bu_addTruth_17

theorem ct_Bu_addTruth {l : Launch} {P : PP} {q : PL} {s s' : S1} {l1 : Int32} {r : Unit} (h : M_Bu_addTruth l1 s = some (r, s')) : Ct l y_Bu_addTruth b_Bu_addTruth 2 none 1 23 P q s [.ref (q.1 130 0), .int l1] none q s' := by
  refine ct_of (by decide) (Nat.le_of_ble_eq_true rfl) fun X ls eP el g hR hl => ?_
  subst eP
  have hR : Rt X q ((r, s') : Unit × S1).2 none := hR
  have hl : lv_has ls 2 [(0, .ref (q.1 130 0)), (1, .int l1)] := hl
  generalize (r, s') = o at h hR
  unfold M_Bu_addTruth at h
  refine ww_aload_n (pc := 0) g.1 d_Bu_addTruth_0 rfl (lv_at hl 0 rfl) ?_
  refine ww_gR (pc := 1) g (k := 6) cl_Bu (pz rfl (by decide)) (by decide) (Or.inl kw_967) (f := 16646) (t := 135) rfl rfl rfl d_Bu_addTruth_1 ?_
  refine ww_iload_n (pc := 4) g.1 d_Bu_addTruth_4 rfl (lv_at hl 1 rfl) ?_
  refine ww_if_eq (pc := 5) (tgt := 12) g.1 d_Bu_addTruth_5 (by decide) h (fun c h => ?_) (fun c h => ?_)
  · refine ww_iconst (pc := 12) g.1 (v := 1) d_Bu_addTruth_12 (by decide) ?_
    exact j_Bu_addTruth_j13 g hR 1 s ls (lv_sub hl [] rfl) h
  · refine ww_iconst (pc := 8) g.1 (v := 2) d_Bu_addTruth_8 (by decide) ?_
    refine ww_goto (pc := 9) (tgt := 13) g.1 d_Bu_addTruth_9 (by decide) ?_
    exact j_Bu_addTruth_j13 g hR 2 s ls (lv_sub hl [] rfl) h

abbrev b_Bu_isNumberSign : ByteArray := prog_2_method_26_code
def y_Bu_isNumberSign : MethodName := ⟨R_Bu, "isNumberSign", "()Z"⟩
abbrev w_Bu_isNumberSign : List Cond := .code y_Bu_isNumberSign b_Bu_isNumberSign 2 (some .boolean) :: wA
theorem k_Bu_isNumberSign : Cond.code y_Bu_isNumberSign b_Bu_isNumberSign 2 (some .boolean) ∈ wA := kinm (show _ ∈ tables_1 from (List.mem_append_right _ (List.mem_append_right _ (List.mem_append_right _ (List.mem_append_right _ (List.mem_append_right _ (List.mem_append_right _ (List.mem_append_right _ (List.mem_append_left _ (List.mem_of_getElem? (l := tables_1_8) (i := 130) (by decide +kernel))))))))))) (by decide +kernel)
theorem d_Bu_isNumberSign_0 : decode b_Bu_isNumberSign 0 = .ok (.aload_n 0, 1) := by decide +kernel
theorem d_Bu_isNumberSign_1 : decode b_Bu_isNumberSign 1 = .ok (.getfield 35, 3) := by decide +kernel
theorem d_Bu_isNumberSign_4 : decode b_Bu_isNumberSign 4 = .ok (.iconst 0, 1) := by decide +kernel
theorem d_Bu_isNumberSign_5 : decode b_Bu_isNumberSign 5 = .ok (.invokevirtual 67, 3) := by decide +kernel
theorem d_Bu_isNumberSign_8 : decode b_Bu_isNumberSign 8 = .ok (.iconst 4, 1) := by decide +kernel
theorem d_Bu_isNumberSign_9 : decode b_Bu_isNumberSign 9 = .ok (.if_icmp .eq 5, 3) := by decide +kernel
theorem d_Bu_isNumberSign_12 : decode b_Bu_isNumberSign 12 = .ok (.iconst 0, 1) := by decide +kernel
theorem d_Bu_isNumberSign_13 : decode b_Bu_isNumberSign 13 = .ok (.ireturn, 1) := by decide +kernel
theorem d_Bu_isNumberSign_14 : decode b_Bu_isNumberSign 14 = .ok (.aload_n 0, 1) := by decide +kernel
theorem d_Bu_isNumberSign_15 : decode b_Bu_isNumberSign 15 = .ok (.invokevirtual 281, 3) := by decide +kernel
theorem d_Bu_isNumberSign_18 : decode b_Bu_isNumberSign 18 = .ok (.astore_n 1, 1) := by decide +kernel
theorem d_Bu_isNumberSign_19 : decode b_Bu_isNumberSign 19 = .ok (.aload_n 1, 1) := by decide +kernel
theorem d_Bu_isNumberSign_20 : decode b_Bu_isNumberSign 20 = .ok (.arraylength, 1) := by decide +kernel
theorem d_Bu_isNumberSign_21 : decode b_Bu_isNumberSign 21 = .ok (.iconst 1, 1) := by decide +kernel
theorem d_Bu_isNumberSign_22 : decode b_Bu_isNumberSign 22 = .ok (.if_icmp .ne 15, 3) := by decide +kernel
theorem d_Bu_isNumberSign_25 : decode b_Bu_isNumberSign 25 = .ok (.aload_n 1, 1) := by decide +kernel
theorem d_Bu_isNumberSign_26 : decode b_Bu_isNumberSign 26 = .ok (.iconst 0, 1) := by decide +kernel
theorem d_Bu_isNumberSign_27 : decode b_Bu_isNumberSign 27 = .ok (.baload, 1) := by decide +kernel
theorem d_Bu_isNumberSign_28 : decode b_Bu_isNumberSign 28 = .ok (.bipush 35, 2) := by decide +kernel
theorem d_Bu_isNumberSign_30 : decode b_Bu_isNumberSign 30 = .ok (.if_icmp .ne 7, 3) := by decide +kernel
theorem d_Bu_isNumberSign_33 : decode b_Bu_isNumberSign 33 = .ok (.iconst 1, 1) := by decide +kernel
theorem d_Bu_isNumberSign_34 : decode b_Bu_isNumberSign 34 = .ok (.goto 4, 3) := by decide +kernel
theorem d_Bu_isNumberSign_37 : decode b_Bu_isNumberSign 37 = .ok (.iconst 0, 1) := by decide +kernel
theorem d_Bu_isNumberSign_38 : decode b_Bu_isNumberSign 38 = .ok (.ireturn, 1) := by decide +kernel
theorem kw_983 : Cond.methodLink R_Bu 67 y_Ro_kindAt ∈ wA := kinm (show _ ∈ tables_1 from (List.mem_append_right _ (List.mem_append_right _ (List.mem_append_right _ (List.mem_append_right _ (List.mem_append_right _ (List.mem_append_right _ (List.mem_append_right _ (List.mem_append_left _ (List.mem_of_getElem? (l := tables_1_8) (i := 45) (by decide +kernel))))))))))) (by decide +kernel)
theorem kw_984 : Cond.methodLink R_Bu 281 y_Bu_bytesOfFirst ∈ wA := kinm (show _ ∈ tables_1 from (List.mem_append_right _ (List.mem_append_right _ (List.mem_append_right _ (List.mem_append_right _ (List.mem_append_right _ (List.mem_append_right _ (List.mem_append_right _ (List.mem_append_left _ (List.mem_of_getElem? (l := tables_1_8) (i := 106) (by decide +kernel))))))))))) (by decide +kernel)
theorem kw_985 : Cond.instanceMethod y_Bu_isNumberSign ∈ wA := kinm (show _ ∈ tables_1 from (List.mem_append_right _ (List.mem_append_right _ (List.mem_append_right _ (List.mem_append_right _ (List.mem_append_right _ (List.mem_append_right _ (List.mem_append_right _ (List.mem_append_left _ (List.mem_of_getElem? (l := tables_1_8) (i := 129) (by decide +kernel))))))))))) (by decide +kernel)
theorem kw_986 : Cond.selects R_Bu y_Bu_isNumberSign y_Bu_isNumberSign ∈ wA := kinp 84 (by decide +kernel) (by decide +kernel)
theorem cv_Bu_isNumberSign : CV y_Bu_isNumberSign b_Bu_isNumberSign 2 (some .boolean) 0 := ⟨kw_985, kw_986, kw_950, k_Bu_isNumberSign, by decide +kernel⟩
theorem j_Bu_isNumberSign_j37 {X : Cx} {q : PL} (g : Gd X y_Bu_isNumberSign b_Bu_isNumberSign 2 (some .boolean) 2 41 R_Bu) {o : (Int32) × S1} (hR : Rt X q o.2 (some (.int o.1)))  (s : S1) (ls : Array Slot) (hl : lv_has ls 2 []) (h : M_Bu_isNumberSign_j37 s = some o) : WW X q s 37 ls [] := by
  unfold M_Bu_isNumberSign_j37 at h
  refine ww_iconst (pc := 37) g.1 (v := 0) d_Bu_isNumberSign_37 (by decide) ?_
  exact ww_zretH (pc := 38) g h hR (Or.inl rfl) d_Bu_isNumberSign_38

theorem ct_Bu_isNumberSign {l : Launch} {P : PP} {q : PL} {s s' : S1}  {r : Int32} (h : M_Bu_isNumberSign s = some (r, s')) : Ct l y_Bu_isNumberSign b_Bu_isNumberSign 2 (some .boolean) 2 41 P q s [.ref (q.1 130 0)] (some (.int r)) q s' := by
  refine ct_of (by decide) (Nat.le_of_ble_eq_true rfl) fun X ls eP el g hR hl => ?_
  subst eP
  have hR : Rt X q ((r, s') : Int32 × S1).2 (some (.int ((r, s') : Int32 × S1).1)) := hR
  have hl : lv_has ls 2 [(0, .ref (q.1 130 0))] := hl
  generalize (r, s') = o at h hR
  unfold M_Bu_isNumberSign at h
  refine ww_aload_n (pc := 0) g.1 d_Bu_isNumberSign_0 rfl (lv_at hl 0 rfl) ?_
  refine ww_gR (pc := 1) g (k := 5) cl_Bu (pz rfl (by decide)) (by decide) (Or.inl kw_976) (f := 16645) (t := 132) rfl rfl rfl d_Bu_isNumberSign_1 ?_
  refine ww_iconst (pc := 4) g.1 (v := 0) d_Bu_isNumberSign_4 (by decide) ?_
  obtain ⟨v5, s, hc5, h⟩ := oB_of h
  refine ww_callV (pc := 5) (rest := []) g cv_Ro_kindAt (Or.inl kw_983) (cl_Ro ⟨by decide, rfl⟩) (pz rfl (by decide)) (ct_Ro_kindAt ⟨by decide, rfl⟩ hc5) ⟨by decide, by decide⟩ rfl hl.1 (Nat.le_of_ble_eq_true rfl) d_Bu_isNumberSign_5 rfl (?_)
  refine ww_st (st' := [.int v5]) rfl ?_
  refine ww_iconst (pc := 8) g.1 (v := 4) d_Bu_isNumberSign_8 (by decide) ?_
  refine ww_icmp_eq (pc := 9) (tgt := 14) g.1 d_Bu_isNumberSign_9 (by decide) h (fun c h => ?_) (fun c h => ?_)
  · refine ww_aload_n (pc := 14) g.1 d_Bu_isNumberSign_14 rfl (lv_at hl 0 rfl) ?_
    obtain ⟨v15, s, hc15, h⟩ := oB_of h
    refine ww_callV (pc := 15) (rest := []) g cv_Bu_bytesOfFirst (Or.inl kw_984) cl_Bu (pz rfl (by decide)) (ct_Bu_bytesOfFirst hc15) ⟨by decide, by decide⟩ rfl hl.1 (Nat.le_of_ble_eq_true rfl) d_Bu_isNumberSign_15 rfl (?_)
    refine ww_st (st' := [.ref (q.1 146 v15)]) rfl ?_
    refine ww_pr h fun pr15 h => ?_
    refine ww_astore_n (pc := 18) (i := 1) g.1 (lv' := [(1, .ref (q.1 146 v15)), (0, .ref (q.1 130 0))]) d_Bu_isNumberSign_18 rfl hl (by decide) rfl fun ls hl => ?_
    refine ww_aload_n (pc := 19) g.1 d_Bu_isNumberSign_19 rfl (lv_at hl 0 rfl) ?_
    refine ww_ln pr15 h fun n20 hmn20 hnn20 h => ?_
    refine ww_alen (pc := 20) g (n := n20) pr15 (by decide) hmn20 d_Bu_isNumberSign_20 ?_
    refine ww_iconst (pc := 21) g.1 (v := 1) d_Bu_isNumberSign_21 (by decide) ?_
    refine ww_icmp_ne (pc := 22) (tgt := 37) g.1 d_Bu_isNumberSign_22 (by decide) h (fun c h => ?_) (fun c h => ?_)
    · exact j_Bu_isNumberSign_j37 g hR s ls (lv_sub hl [] rfl) h
    · refine ww_aload_n (pc := 25) g.1 d_Bu_isNumberSign_25 rfl (lv_at hl 0 rfl) ?_
      refine ww_iconst (pc := 26) g.1 (v := 0) d_Bu_isNumberSign_26 (by decide) ?_
      refine ww_ln pr15 h fun n27 hmn27 hnn27 h => ?_
      refine ww_ab (pc := 27) g pr15 rfl hnn27 d_Bu_isNumberSign_27 h fun v27 h => ?_
      refine ww_bipush (pc := 28) g.1 (v := 35) d_Bu_isNumberSign_28 (by decide) ?_
      refine ww_icmp_ne (pc := 30) (tgt := 37) g.1 d_Bu_isNumberSign_30 (by decide) h (fun c h => ?_) (fun c h => ?_)
      · exact j_Bu_isNumberSign_j37 g hR s ls (lv_sub hl [] rfl) h
      · refine ww_iconst (pc := 33) g.1 (v := 1) d_Bu_isNumberSign_33 (by decide) ?_
        refine ww_goto (pc := 34) (tgt := 38) g.1 d_Bu_isNumberSign_34 (by decide) ?_
        exact ww_zretH (pc := 38) g h hR (Or.inr rfl) d_Bu_isNumberSign_38
  · refine ww_iconst (pc := 12) g.1 (v := 0) d_Bu_isNumberSign_12 (by decide) ?_
    exact ww_zretH (pc := 13) g h hR (Or.inl rfl) d_Bu_isNumberSign_13


