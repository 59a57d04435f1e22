abbrev b_Bu_select : ByteArray := prog_2_method_25_code
def y_Bu_select : MethodName := ⟨R_Bu, "select", "()V"⟩
abbrev w_Bu_select : List Cond := .code y_Bu_select b_Bu_select 3 none :: wA
theorem k_Bu_select : Cond.code y_Bu_select b_Bu_select 3 none ∈ wA := kinm (show _ ∈ tables_1 from (List.mem_append_right _ (List.mem_append_right _ (List.mem_append_right _ (List.mem_append_right _ (List.mem_append_right _ (List.mem_append_right _ (List.mem_append_right _ (List.mem_append_left _ (List.mem_of_getElem? (l := tables_1_8) (i := 126) (by decide +kernel))))))))))) (by decide +kernel)
theorem d_Bu_select_0 : decode b_Bu_select 0 = .ok (.aload_n 0, 1) := by decide +kernel
theorem d_Bu_select_1 : decode b_Bu_select 1 = .ok (.getfield 35, 3) := by decide +kernel
theorem d_Bu_select_4 : decode b_Bu_select 4 = .ok (.iconst 0, 1) := by decide +kernel
theorem d_Bu_select_5 : decode b_Bu_select 5 = .ok (.invokevirtual 78, 3) := by decide +kernel
theorem d_Bu_select_8 : decode b_Bu_select 8 = .ok (.lstore_n 1, 1) := by decide +kernel
theorem d_Bu_select_9 : decode b_Bu_select 9 = .ok (.aload_n 0, 1) := by decide +kernel
theorem d_Bu_select_10 : decode b_Bu_select 10 = .ok (.invokevirtual 304, 3) := by decide +kernel
theorem d_Bu_select_13 : decode b_Bu_select 13 = .ok (.ifCond .eq 24, 3) := by decide +kernel
theorem d_Bu_select_16 : decode b_Bu_select 16 = .ok (.aload_n 0, 1) := by decide +kernel
theorem d_Bu_select_17 : decode b_Bu_select 17 = .ok (.getfield 39, 3) := by decide +kernel
theorem d_Bu_select_20 : decode b_Bu_select 20 = .ok (.iconst 3, 1) := by decide +kernel
theorem d_Bu_select_21 : decode b_Bu_select 21 = .ok (.aload_n 0, 1) := by decide +kernel
theorem d_Bu_select_22 : decode b_Bu_select 22 = .ok (.getfield 35, 3) := by decide +kernel
theorem d_Bu_select_25 : decode b_Bu_select 25 = .ok (.getfield 167, 3) := by decide +kernel
theorem d_Bu_select_28 : decode b_Bu_select 28 = .ok (.iconst 1, 1) := by decide +kernel
theorem d_Bu_select_29 : decode b_Bu_select 29 = .ok (.isub, 1) := by decide +kernel
theorem d_Bu_select_30 : decode b_Bu_select 30 = .ok (.i2l, 1) := by decide +kernel
theorem d_Bu_select_31 : decode b_Bu_select 31 = .ok (.invokevirtual 74, 3) := by decide +kernel
theorem d_Bu_select_34 : decode b_Bu_select 34 = .ok (.goto 64, 3) := by decide +kernel
theorem d_Bu_select_37 : decode b_Bu_select 37 = .ok (.aload_n 0, 1) := by decide +kernel
theorem d_Bu_select_38 : decode b_Bu_select 38 = .ok (.getfield 35, 3) := by decide +kernel
theorem d_Bu_select_41 : decode b_Bu_select 41 = .ok (.iconst 0, 1) := by decide +kernel
theorem d_Bu_select_42 : decode b_Bu_select 42 = .ok (.invokevirtual 67, 3) := by decide +kernel
theorem d_Bu_select_45 : decode b_Bu_select 45 = .ok (.iconst 3, 1) := by decide +kernel
theorem d_Bu_select_46 : decode b_Bu_select 46 = .ok (.if_icmp .ne 9, 3) := by decide +kernel
theorem d_Bu_select_49 : decode b_Bu_select 49 = .ok (.lload_n 1, 1) := by decide +kernel
theorem d_Bu_select_50 : decode b_Bu_select 50 = .ok (.lconst 0, 1) := by decide +kernel
theorem d_Bu_select_51 : decode b_Bu_select 51 = .ok (.lcmp, 1) := by decide +kernel
theorem d_Bu_select_52 : decode b_Bu_select 52 = .ok (.ifCond .gt 15, 3) := by decide +kernel
theorem d_Bu_select_55 : decode b_Bu_select 55 = .ok (.aload_n 0, 1) := by decide +kernel
theorem d_Bu_select_56 : decode b_Bu_select 56 = .ok (.getfield 15, 3) := by decide +kernel
theorem d_Bu_select_59 : decode b_Bu_select 59 = .ok (.bipush 7, 2) := by decide +kernel
theorem d_Bu_select_61 : decode b_Bu_select 61 = .ok (.invokevirtual 145, 3) := by decide +kernel
theorem d_Bu_select_64 : decode b_Bu_select 64 = .ok (.goto 34, 3) := by decide +kernel
theorem d_Bu_select_67 : decode b_Bu_select 67 = .ok (.aload_n 0, 1) := by decide +kernel
theorem d_Bu_select_68 : decode b_Bu_select 68 = .ok (.getfield 35, 3) := by decide +kernel
theorem d_Bu_select_71 : decode b_Bu_select 71 = .ok (.lload_n 1, 1) := by decide +kernel
theorem d_Bu_select_72 : decode b_Bu_select 72 = .ok (.aload_n 0, 1) := by decide +kernel
theorem d_Bu_select_73 : decode b_Bu_select 73 = .ok (.getfield 35, 3) := by decide +kernel
theorem d_Bu_select_76 : decode b_Bu_select 76 = .ok (.getfield 167, 3) := by decide +kernel
theorem d_Bu_select_79 : decode b_Bu_select 79 = .ok (.i2l, 1) := by decide +kernel
theorem d_Bu_select_80 : decode b_Bu_select 80 = .ok (.invokestatic 307, 3) := by decide +kernel
theorem d_Bu_select_83 : decode b_Bu_select 83 = .ok (.l2i, 1) := by decide +kernel
theorem d_Bu_select_84 : decode b_Bu_select 84 = .ok (.invokevirtual 260, 3) := by decide +kernel
theorem d_Bu_select_87 : decode b_Bu_select 87 = .ok (.aload_n 0, 1) := by decide +kernel
theorem d_Bu_select_88 : decode b_Bu_select 88 = .ok (.getfield 39, 3) := by decide +kernel
theorem d_Bu_select_91 : decode b_Bu_select 91 = .ok (.aload_n 0, 1) := by decide +kernel
theorem d_Bu_select_92 : decode b_Bu_select 92 = .ok (.getfield 35, 3) := by decide +kernel
theorem d_Bu_select_95 : decode b_Bu_select 95 = .ok (.invokevirtual 310, 3) := by decide +kernel
theorem d_Bu_select_98 : decode b_Bu_select 98 = .ok (.return_, 1) := by decide +kernel
theorem kw_1176 : Cond.methodLink R_Bu 304 y_Bu_isNumberSign ∈ wA := kinm (show _ ∈ tables_1 from (List.mem_append_right _ (List.mem_append_right _ (List.mem_append_right _ (List.mem_append_right _ (List.mem_append_right _ (List.mem_append_right _ (List.mem_append_right _ (List.mem_append_left _ (List.mem_of_getElem? (l := tables_1_8) (i := 127) (by decide +kernel))))))))))) (by decide +kernel)
theorem kw_1177 : Cond.fieldLink R_Bu 167 "LuaMachine$Row" "size" "I" ∈ wA := kinm (show _ ∈ tables_1 from (List.mem_append_right _ (List.mem_append_left _ (List.mem_of_getElem? (l := tables_1_2) (i := 37) (by decide +kernel))))) (by decide +kernel)
theorem kw_1178 : Cond.methodLink R_Bu 307 y_Mth_min_ ∈ wA := kinm (show _ ∈ tables_1 from (List.mem_append_right _ (List.mem_append_right _ (List.mem_append_right _ (List.mem_append_right _ (List.mem_append_right _ (List.mem_append_right _ (List.mem_append_right _ (List.mem_append_left _ (List.mem_of_getElem? (l := tables_1_8) (i := 131) (by decide +kernel))))))))))) (by decide +kernel)
theorem kw_1179 : Cond.methodLink R_Bu 310 y_Ro_takeAll ∈ wA := kinm (show _ ∈ tables_1 from (List.mem_append_right _ (List.mem_append_right _ (List.mem_append_right _ (List.mem_append_right _ (List.mem_append_right _ (List.mem_append_right _ (List.mem_append_right _ (List.mem_append_left _ (List.mem_of_getElem? (l := tables_1_8) (i := 134) (by decide +kernel))))))))))) (by decide +kernel)
theorem kw_1180 : Cond.instanceMethod y_Bu_select ∈ wA := kinm (show _ ∈ tables_1 from (List.mem_append_right _ (List.mem_append_right _ (List.mem_append_right _ (List.mem_append_right _ (List.mem_append_right _ (List.mem_append_right _ (List.mem_append_right _ (List.mem_append_left _ (List.mem_of_getElem? (l := tables_1_8) (i := 125) (by decide +kernel))))))))))) (by decide +kernel)
theorem kw_1181 : Cond.selects R_Bu y_Bu_select y_Bu_select ∈ wA := kinp 83 (by decide +kernel) (by decide +kernel)
theorem cv_Bu_select : CV y_Bu_select b_Bu_select 3 none 0 := ⟨kw_1180, kw_1181, kw_950, k_Bu_select, by decide +kernel⟩
theorem j_Bu_select_j55 {X : Cx} {q : PL} (g : Gd X y_Bu_select b_Bu_select 3 none 3 62 R_Bu) {o : (Unit) × S1} (hR : Rt X q o.2 none)  (s : S1) (ls : Array Slot) (hl : lv_has ls 3 [(0, .ref (q.1 130 0))]) (h : M_Bu_select_j55 s = some o) : WW X q s 55 ls [] := by
  unfold M_Bu_select_j55 at h
  refine ww_aload_n (pc := 55) g.1 d_Bu_select_55 rfl (lv_at hl 0 rfl) ?_
  refine ww_gR (pc := 56) g (k := 2) cl_Bu (pz rfl (by decide)) (by decide) (Or.inl kw_995) (f := 16642) (t := 128) rfl rfl rfl d_Bu_select_56 ?_
  refine ww_bipush (pc := 59) g.1 (v := 7) d_Bu_select_59 (by decide) ?_
  obtain ⟨v61, s, hc61, h⟩ := oB_of h
  refine ww_callV (pc := 61) (rest := []) g cv_Ma_fail (Or.inl kw_1144) cl_Ma (pz rfl (by decide)) (ct_Ma_fail hc61) ⟨by decide, by decide⟩ rfl hl.1 (Nat.le_of_ble_eq_true rfl) d_Bu_select_61 rfl (?_)
  refine ww_st (st' := []) rfl ?_
  refine ww_goto (pc := 64) (tgt := 98) g.1 d_Bu_select_64 (by decide) ?_
  exact ww_vretH (pc := 98) g h hR d_Bu_select_98

theorem ct_Bu_select {l : Launch} {P : PP} {q : PL} {s s' : S1}  {r : Unit} (h : M_Bu_select s = some (r, s')) : Ct l y_Bu_select b_Bu_select 3 none 3 62 P q s [.ref (q.1 130 0)] none q s' := by
  refine ct_of (by decide) (Nat.le_of_ble_eq_true rfl) fun X ls eP el g hR hl => ?_
  subst eP
  have hR : Rt X q ((r, s') : Unit × S1).2 none := hR
  have hl : lv_has ls 3 [(0, .ref (q.1 130 0))] := hl
  generalize (r, s') = o at h hR
  unfold M_Bu_select at h
  refine ww_aload_n (pc := 0) g.1 d_Bu_select_0 rfl (lv_at hl 0 rfl) ?_
  refine ww_gR (pc := 1) g (k := 5) cl_Bu (pz rfl (by decide)) (by decide) (Or.inl kw_976) (f := 16645) (t := 132) rfl rfl rfl d_Bu_select_1 ?_
  refine ww_iconst (pc := 4) g.1 (v := 0) d_Bu_select_4 (by decide) ?_
  obtain ⟨v5, s, hc5, h⟩ := oB_of h
  refine ww_callV (pc := 5) (rest := []) g cv_Ro_valueAt (Or.inl kw_977) (cl_Ro ⟨by decide, rfl⟩) (pz rfl (by decide)) (ct_Ro_valueAt ⟨by decide, rfl⟩ hc5) ⟨by decide, by decide⟩ rfl hl.1 (Nat.le_of_ble_eq_true rfl) d_Bu_select_5 rfl (?_)
  refine ww_st (st' := [.long v5]) rfl ?_
  refine ww_lstore_n (pc := 8) (i := 1) g.1 (lv' := [(1, .long v5), (0, .ref (q.1 130 0))]) d_Bu_select_8 rfl hl (by decide) rfl fun ls hl => ?_
  refine ww_aload_n (pc := 9) g.1 d_Bu_select_9 rfl (lv_at hl 1 rfl) ?_
  obtain ⟨v10, s, hc10, h⟩ := oB_of h
  refine ww_callV (pc := 10) (rest := []) g cv_Bu_isNumberSign (Or.inl kw_1176) cl_Bu (pz rfl (by decide)) (ct_Bu_isNumberSign hc10) ⟨by decide, by decide⟩ rfl hl.1 (Nat.le_of_ble_eq_true rfl) d_Bu_select_10 rfl (?_)
  refine ww_st (st' := [.int v10]) rfl ?_
  refine ww_if_eq (pc := 13) (tgt := 37) g.1 d_Bu_select_13 (by decide) h (fun c h => ?_) (fun c h => ?_)
  · refine ww_aload_n (pc := 37) g.1 d_Bu_select_37 rfl (lv_at hl 1 rfl) ?_
    refine ww_gR (pc := 38) g (k := 5) cl_Bu (pz rfl (by decide)) (by decide) (Or.inl kw_976) (f := 16645) (t := 132) rfl rfl rfl d_Bu_select_38 ?_
    refine ww_iconst (pc := 41) g.1 (v := 0) d_Bu_select_41 (by decide) ?_
    obtain ⟨v42, s, hc42, h⟩ := oB_of h
    refine ww_callV (pc := 42) (rest := []) g cv_Ro_kindAt (Or.inl kw_983) (cl_Ro ⟨by decide, rfl⟩) (pz rfl (by decide)) (ct_Ro_kindAt ⟨by decide, rfl⟩ hc42) ⟨by decide, by decide⟩ rfl hl.1 (Nat.le_of_ble_eq_true rfl) d_Bu_select_42 rfl (?_)
    refine ww_st (st' := [.int v42]) rfl ?_
    refine ww_iconst (pc := 45) g.1 (v := 3) d_Bu_select_45 (by decide) ?_
    refine ww_icmp_ne (pc := 46) (tgt := 55) g.1 d_Bu_select_46 (by decide) h (fun c h => ?_) (fun c h => ?_)
    · exact j_Bu_select_j55 g hR s ls (lv_sub hl [1] rfl) h
    · refine ww_lload_n (pc := 49) g.1 d_Bu_select_49 rfl (lv_at hl 0 rfl) ?_
      refine ww_lconst (pc := 50) g.1 (v := 0) d_Bu_select_50 (by decide) ?_
      refine ww_lcmp (pc := 51) g.1 d_Bu_select_51 ?_
      refine ww_if_gt (pc := 52) (tgt := 67) g.1 d_Bu_select_52 (by decide) h (fun c h => ?_) (fun c h => ?_)
      · refine ww_aload_n (pc := 67) g.1 d_Bu_select_67 rfl (lv_at hl 1 rfl) ?_
        refine ww_gR (pc := 68) g (k := 5) cl_Bu (pz rfl (by decide)) (by decide) (Or.inl kw_976) (f := 16645) (t := 132) rfl rfl rfl d_Bu_select_68 ?_
        refine ww_lload_n (pc := 71) g.1 d_Bu_select_71 rfl (lv_at hl 0 rfl) ?_
        refine ww_aload_n (pc := 72) g.1 d_Bu_select_72 rfl (lv_at hl 1 rfl) ?_
        refine ww_gR (pc := 73) g (k := 5) cl_Bu (pz rfl (by decide)) (by decide) (Or.inl kw_976) (f := 16645) (t := 132) rfl rfl rfl d_Bu_select_73 ?_
        refine ww_gI (pc := 76) g (k := 2) (cl_Ro ⟨by decide, rfl⟩) (pz rfl (by decide)) (by decide) (Or.inl kw_1177) (f := 16898) rfl rfl d_Bu_select_76 h fun v76 h => ?_
        refine ww_i2l (pc := 79) g.1 (v := v76.toInt64) d_Bu_select_79 rfl ?_
        obtain ⟨v80, s, hc80, h⟩ := oB_of h
        refine ww_callS (pc := 80) (rest := [.ref (q.1 132 0)]) g cs_Mth_min_ (Or.inl kw_1178) (ct_Mth_min_ hc80) ⟨by decide, by decide⟩ rfl hl.1 (Nat.le_of_ble_eq_true rfl) d_Bu_select_80 rfl (?_)
        refine ww_st (st' := [.long v80, .ref (q.1 132 0)]) rfl ?_
        refine ww_l2i (pc := 83) g.1 (v := v80.toInt32) d_Bu_select_83 rfl ?_
        obtain ⟨v84, s, hc84, h⟩ := oB_of h
        refine ww_callV (pc := 84) (rest := []) g cv_Ro_dropFirst (Or.inl kw_1150) (cl_Ro ⟨by decide, rfl⟩) (pz rfl (by decide)) (ct_Ro_dropFirst ⟨by decide, rfl⟩ hc84) ⟨by decide, by decide⟩ rfl hl.1 (Nat.le_of_ble_eq_true rfl) d_Bu_select_84 rfl (?_)
        refine ww_st (st' := []) rfl ?_
        refine ww_aload_n (pc := 87) g.1 d_Bu_select_87 rfl (lv_at hl 1 rfl) ?_
        refine ww_gR (pc := 88) g (k := 6) cl_Bu (pz rfl (by decide)) (by decide) (Or.inl kw_967) (f := 16646) (t := 135) rfl rfl rfl d_Bu_select_88 ?_
        refine ww_aload_n (pc := 91) g.1 d_Bu_select_91 rfl (lv_at hl 1 rfl) ?_
        refine ww_gR (pc := 92) g (k := 5) cl_Bu (pz rfl (by decide)) (by decide) (Or.inl kw_976) (f := 16645) (t := 132) rfl rfl rfl d_Bu_select_92 ?_
        obtain ⟨v95, s, hc95, h⟩ := oB_of h
        refine ww_callV (pc := 95) (rest := []) g cv_Ro_takeAll (Or.inl kw_1179) (cl_Ro ⟨by decide, rfl⟩) (pz rfl (by decide)) (ct_Ro_takeAll ⟨by decide, rfl⟩ ⟨by decide, rfl⟩ hc95) ⟨by decide, by decide⟩ rfl hl.1 (Nat.le_of_ble_eq_true rfl) d_Bu_select_95 rfl (?_)
        refine ww_st (st' := []) rfl ?_
        exact ww_vretH (pc := 98) g h hR d_Bu_select_98
      · exact j_Bu_select_j55 g hR s ls (lv_sub hl [1] rfl) h
  · refine ww_aload_n (pc := 16) g.1 d_Bu_select_16 rfl (lv_at hl 1 rfl) ?_
    refine ww_gR (pc := 17) g (k := 6) cl_Bu (pz rfl (by decide)) (by decide) (Or.inl kw_967) (f := 16646) (t := 135) rfl rfl rfl d_Bu_select_17 ?_
    refine ww_iconst (pc := 20) g.1 (v := 3) d_Bu_select_20 (by decide) ?_
    refine ww_aload_n (pc := 21) g.1 d_Bu_select_21 rfl (lv_at hl 1 rfl) ?_
    refine ww_gR (pc := 22) g (k := 5) cl_Bu (pz rfl (by decide)) (by decide) (Or.inl kw_976) (f := 16645) (t := 132) rfl rfl rfl d_Bu_select_22 ?_
    refine ww_gI (pc := 25) g (k := 2) (cl_Ro ⟨by decide, rfl⟩) (pz rfl (by decide)) (by decide) (Or.inl kw_1177) (f := 16898) rfl rfl d_Bu_select_25 h fun v25 h => ?_
    refine ww_iconst (pc := 28) g.1 (v := 1) d_Bu_select_28 (by decide) ?_
    refine ww_isub (pc := 29) g.1 d_Bu_select_29 ?_
    refine ww_i2l (pc := 30) g.1 (v := (v25 - 1).toInt64) d_Bu_select_30 rfl ?_
    obtain ⟨v31, s, hc31, h⟩ := oB_of h
    refine ww_callV (pc := 31) (rest := []) g cv_Ro_add (Or.inl kw_971) (cl_Ro ⟨by decide, rfl⟩) (pz rfl (by decide)) (ct_Ro_add ⟨by decide, rfl⟩ hc31) ⟨by decide, by decide⟩ rfl hl.1 (Nat.le_of_ble_eq_true rfl) d_Bu_select_31 rfl (?_)
    refine ww_st (st' := []) rfl ?_
    refine ww_goto (pc := 34) (tgt := 98) g.1 d_Bu_select_34 (by decide) ?_
    exact ww_vretH (pc := 98) g h hR d_Bu_select_98

abbrev b_Bu_hasString : ByteArray := prog_2_method_6_code
def y_Bu_hasString : MethodName := ⟨R_Bu, "hasString", "(I)Z"⟩
abbrev w_Bu_hasString : List Cond := .code y_Bu_hasString b_Bu_hasString 4 (some .boolean) :: wA
theorem k_Bu_hasString : Cond.code y_Bu_hasString b_Bu_hasString 4 (some .boolean) ∈ wA := kinm (show _ ∈ tables_1 from (List.mem_append_right _ (List.mem_append_right _ (List.mem_append_right _ (List.mem_append_right _ (List.mem_append_right _ (List.mem_append_right _ (List.mem_append_right _ (List.mem_append_left _ (List.mem_of_getElem? (l := tables_1_8) (i := 142) (by decide +kernel))))))))))) (by decide +kernel)
theorem d_Bu_hasString_0 : decode b_Bu_hasString 0 = .ok (.aload_n 0, 1) := by decide +kernel
theorem d_Bu_hasString_1 : decode b_Bu_hasString 1 = .ok (.getfield 35, 3) := by decide +kernel
theorem d_Bu_hasString_4 : decode b_Bu_hasString 4 = .ok (.iconst 0, 1) := by decide +kernel
theorem d_Bu_hasString_5 : decode b_Bu_hasString 5 = .ok (.invokevirtual 67, 3) := by decide +kernel
theorem d_Bu_hasString_8 : decode b_Bu_hasString 8 = .ok (.iconst 4, 1) := by decide +kernel
theorem d_Bu_hasString_9 : decode b_Bu_hasString 9 = .ok (.if_icmp .ne 7, 3) := by decide +kernel
theorem d_Bu_hasString_12 : decode b_Bu_hasString 12 = .ok (.iconst 1, 1) := by decide +kernel
theorem d_Bu_hasString_13 : decode b_Bu_hasString 13 = .ok (.goto 4, 3) := by decide +kernel
theorem d_Bu_hasString_16 : decode b_Bu_hasString 16 = .ok (.iconst 0, 1) := by decide +kernel
theorem d_Bu_hasString_17 : decode b_Bu_hasString 17 = .ok (.istore_n 2, 1) := by decide +kernel
theorem d_Bu_hasString_18 : decode b_Bu_hasString 18 = .ok (.iconst 1, 1) := by decide +kernel
theorem d_Bu_hasString_19 : decode b_Bu_hasString 19 = .ok (.istore_n 3, 1) := by decide +kernel
theorem d_Bu_hasString_20 : decode b_Bu_hasString 20 = .ok (.iload_n 3, 1) := by decide +kernel
theorem d_Bu_hasString_21 : decode b_Bu_hasString 21 = .ok (.iload_n 1, 1) := by decide +kernel
theorem d_Bu_hasString_22 : decode b_Bu_hasString 22 = .ok (.if_icmp .gt 42, 3) := by decide +kernel
theorem d_Bu_hasString_25 : decode b_Bu_hasString 25 = .ok (.iload_n 2, 1) := by decide +kernel
theorem d_Bu_hasString_26 : decode b_Bu_hasString 26 = .ok (.ifCond .eq 30, 3) := by decide +kernel
theorem d_Bu_hasString_29 : decode b_Bu_hasString 29 = .ok (.aload_n 0, 1) := by decide +kernel
theorem d_Bu_hasString_30 : decode b_Bu_hasString 30 = .ok (.getfield 35, 3) := by decide +kernel
theorem d_Bu_hasString_33 : decode b_Bu_hasString 33 = .ok (.iload_n 3, 1) := by decide +kernel
theorem d_Bu_hasString_34 : decode b_Bu_hasString 34 = .ok (.invokevirtual 67, 3) := by decide +kernel
theorem d_Bu_hasString_37 : decode b_Bu_hasString 37 = .ok (.ifCond .eq 15, 3) := by decide +kernel
theorem d_Bu_hasString_40 : decode b_Bu_hasString 40 = .ok (.aload_n 0, 1) := by decide +kernel
theorem d_Bu_hasString_41 : decode b_Bu_hasString 41 = .ok (.getfield 35, 3) := by decide +kernel
theorem d_Bu_hasString_44 : decode b_Bu_hasString 44 = .ok (.iload_n 3, 1) := by decide +kernel
theorem d_Bu_hasString_45 : decode b_Bu_hasString 45 = .ok (.invokevirtual 67, 3) := by decide +kernel
theorem d_Bu_hasString_48 : decode b_Bu_hasString 48 = .ok (.iconst 3, 1) := by decide +kernel
theorem d_Bu_hasString_49 : decode b_Bu_hasString 49 = .ok (.if_icmp .ne 7, 3) := by decide +kernel
theorem d_Bu_hasString_52 : decode b_Bu_hasString 52 = .ok (.iconst 1, 1) := by decide +kernel
theorem d_Bu_hasString_53 : decode b_Bu_hasString 53 = .ok (.goto 4, 3) := by decide +kernel
theorem d_Bu_hasString_56 : decode b_Bu_hasString 56 = .ok (.iconst 0, 1) := by decide +kernel
theorem d_Bu_hasString_57 : decode b_Bu_hasString 57 = .ok (.istore_n 2, 1) := by decide +kernel
theorem d_Bu_hasString_58 : decode b_Bu_hasString 58 = .ok (.iinc 3 1, 3) := by decide +kernel
theorem d_Bu_hasString_61 : decode b_Bu_hasString 61 = .ok (.goto (-41), 3) := by decide +kernel
theorem d_Bu_hasString_64 : decode b_Bu_hasString 64 = .ok (.iload_n 2, 1) := by decide +kernel
theorem d_Bu_hasString_65 : decode b_Bu_hasString 65 = .ok (.ifCond .ne 11, 3) := by decide +kernel
theorem d_Bu_hasString_68 : decode b_Bu_hasString 68 = .ok (.aload_n 0, 1) := by decide +kernel
theorem d_Bu_hasString_69 : decode b_Bu_hasString 69 = .ok (.getfield 15, 3) := by decide +kernel
theorem d_Bu_hasString_72 : decode b_Bu_hasString 72 = .ok (.iconst 3, 1) := by decide +kernel
theorem d_Bu_hasString_73 : decode b_Bu_hasString 73 = .ok (.invokevirtual 145, 3) := by decide +kernel
theorem d_Bu_hasString_76 : decode b_Bu_hasString 76 = .ok (.iload_n 2, 1) := by decide +kernel
theorem d_Bu_hasString_77 : decode b_Bu_hasString 77 = .ok (.ireturn, 1) := by decide +kernel
theorem kw_1182 : Cond.instanceMethod y_Bu_hasString ∈ wA := kinm (show _ ∈ tables_1 from (List.mem_append_right _ (List.mem_append_right _ (List.mem_append_right _ (List.mem_append_right _ (List.mem_append_right _ (List.mem_append_right _ (List.mem_append_right _ (List.mem_append_left _ (List.mem_of_getElem? (l := tables_1_8) (i := 141) (by decide +kernel))))))))))) (by decide +kernel)
theorem kw_1183 : Cond.selects R_Bu y_Bu_hasString y_Bu_hasString ∈ wA := kinp 86 (by decide +kernel) (by decide +kernel)
theorem cv_Bu_hasString : CV y_Bu_hasString b_Bu_hasString 4 (some .boolean) 1 := ⟨kw_1182, kw_1183, kw_950, k_Bu_hasString, by decide +kernel⟩
theorem j_Bu_hasString_j57 {X : Cx} {q : PL} (g : Gd X y_Bu_hasString b_Bu_hasString 4 (some .boolean) 2 44 R_Bu) {o : ((Int32 × Int32 × Int32) ⊕ ((Int32))) × S1} (hR : (Sum.elim (fun y : Int32 × Int32 × Int32 => ∀ ls : Array Slot, lv_has ls 4 [(0, .ref (q.1 130 0)), (1, .int y.1), (2, .int y.2.1), (3, .int y.2.2)] → WW X q o.2 20 ls []) (fun y : Int32 => ∀ ls : Array Slot, lv_has ls 4 [(0, .ref (q.1 130 0)), (2, .int y)] → WW X q o.2 64 ls []) o.1)) (l1 : Int32) (l3 : Int32) (k0 : Int32) (s : S1) (ls : Array Slot) (hl : lv_has ls 4 [(0, .ref (q.1 130 0)), (1, .int l1), (3, .int l3)]) (h : M_Bu_hasString_j57 l1 l3 k0 s = some o) : WW X q s 57 ls [.int k0] := by
  unfold M_Bu_hasString_j57 at h
  refine ww_istore_n (pc := 57) (i := 2) g.1 (lv' := [(2, .int k0), (0, .ref (q.1 130 0)), (1, .int l1), (3, .int l3)]) d_Bu_hasString_57 rfl hl (by decide) rfl fun ls hl => ?_
  refine ww_iinc (pc := 58) g.1 (v := l3 + 1) (lv' := [(3, .int (l3 + 1)), (2, .int k0), (0, .ref (q.1 130 0)), (1, .int l1)]) d_Bu_hasString_58 hl (k := 3) rfl (by rfl) (by decide) rfl fun ls hl => ?_
  refine ww_goto (pc := 61) (tgt := 20) g.1 d_Bu_hasString_61 (by decide) ?_
  rw [oR_eq h] at hR
  exact hR ls (lv_sub hl [2, 3, 1, 0] rfl)

theorem j_Bu_hasString_j56 {X : Cx} {q : PL} (g : Gd X y_Bu_hasString b_Bu_hasString 4 (some .boolean) 2 44 R_Bu) {o : ((Int32 × Int32 × Int32) ⊕ ((Int32))) × S1} (hR : (Sum.elim (fun y : Int32 × Int32 × Int32 => ∀ ls : Array Slot, lv_has ls 4 [(0, .ref (q.1 130 0)), (1, .int y.1), (2, .int y.2.1), (3, .int y.2.2)] → WW X q o.2 20 ls []) (fun y : Int32 => ∀ ls : Array Slot, lv_has ls 4 [(0, .ref (q.1 130 0)), (2, .int y)] → WW X q o.2 64 ls []) o.1)) (l1 : Int32) (l3 : Int32) (s : S1) (ls : Array Slot) (hl : lv_has ls 4 [(0, .ref (q.1 130 0)), (1, .int l1), (3, .int l3)]) (h : M_Bu_hasString_j56 l1 l3 s = some o) : WW X q s 56 ls [] := by
  unfold M_Bu_hasString_j56 at h
  refine ww_iconst (pc := 56) g.1 (v := 0) d_Bu_hasString_56 (by decide) ?_
  exact j_Bu_hasString_j57 g hR l1 l3 0 s ls (lv_sub hl [0, 1, 2] rfl) h

theorem j_Bu_hasString_j52 {X : Cx} {q : PL} (g : Gd X y_Bu_hasString b_Bu_hasString 4 (some .boolean) 2 44 R_Bu) {o : ((Int32 × Int32 × Int32) ⊕ ((Int32))) × S1} (hR : (Sum.elim (fun y : Int32 × Int32 × Int32 => ∀ ls : Array Slot, lv_has ls 4 [(0, .ref (q.1 130 0)), (1, .int y.1), (2, .int y.2.1), (3, .int y.2.2)] → WW X q o.2 20 ls []) (fun y : Int32 => ∀ ls : Array Slot, lv_has ls 4 [(0, .ref (q.1 130 0)), (2, .int y)] → WW X q o.2 64 ls []) o.1)) (l1 : Int32) (l3 : Int32) (s : S1) (ls : Array Slot) (hl : lv_has ls 4 [(0, .ref (q.1 130 0)), (1, .int l1), (3, .int l3)]) (h : M_Bu_hasString_j52 l1 l3 s = some o) : WW X q s 52 ls [] := by
  unfold M_Bu_hasString_j52 at h
  refine ww_iconst (pc := 52) g.1 (v := 1) d_Bu_hasString_52 (by decide) ?_
  refine ww_goto (pc := 53) (tgt := 57) g.1 d_Bu_hasString_53 (by decide) ?_
  exact j_Bu_hasString_j57 g hR l1 l3 1 s ls (lv_sub hl [0, 1, 2] rfl) h

theorem lp_Bu_hasString_L20 {X : Cx} {q : PL} (g : Gd X y_Bu_hasString b_Bu_hasString 4 (some .boolean) 2 44 R_Bu) (x : Int32 × Int32 × Int32) (s : S1) (o : ((Int32 × Int32 × Int32) ⊕ ((Int32))) × S1) (h : M_Bu_hasString_L20 x s = some o) (hR : (Sum.elim (fun y : Int32 × Int32 × Int32 => ∀ ls : Array Slot, lv_has ls 4 [(0, .ref (q.1 130 0)), (1, .int y.1), (2, .int y.2.1), (3, .int y.2.2)] → WW X q o.2 20 ls []) (fun y : Int32 => ∀ ls : Array Slot, lv_has ls 4 [(0, .ref (q.1 130 0)), (2, .int y)] → WW X q o.2 64 ls []) o.1)) : ∀ ls : Array Slot, lv_has ls 4 [(0, .ref (q.1 130 0)), (1, .int x.1), (2, .int x.2.1), (3, .int x.2.2)] → WW X q s 20 ls [] := by
  intro ls hl
  unfold M_Bu_hasString_L20 at h
  refine ww_iload_n (pc := 20) g.1 d_Bu_hasString_20 rfl (lv_at hl 3 rfl) ?_
  refine ww_iload_n (pc := 21) g.1 d_Bu_hasString_21 rfl (lv_at hl 1 rfl) ?_
  refine ww_icmp_gt (pc := 22) (tgt := 64) g.1 d_Bu_hasString_22 (by decide) h (fun c h => ?_) (fun c h => ?_)
  · rw [oR_eq h] at hR
    exact hR ls (lv_sub hl [0, 2] rfl)
  · refine ww_iload_n (pc := 25) g.1 d_Bu_hasString_25 rfl (lv_at hl 2 rfl) ?_
    refine ww_if_eq (pc := 26) (tgt := 56) g.1 d_Bu_hasString_26 (by decide) h (fun c h => ?_) (fun c h => ?_)
    · exact j_Bu_hasString_j56 g hR x.1 x.2.2 s ls (lv_sub hl [0, 1, 3] rfl) h
    · refine ww_aload_n (pc := 29) g.1 d_Bu_hasString_29 rfl (lv_at hl 0 rfl) ?_
      refine ww_gR (pc := 30) g (k := 5) cl_Bu (pz rfl (by decide)) (by decide) (Or.inl kw_976) (f := 16645) (t := 132) rfl rfl rfl d_Bu_hasString_30 ?_
      refine ww_iload_n (pc := 33) g.1 d_Bu_hasString_33 rfl (lv_at hl 3 rfl) ?_
      obtain ⟨v34, s, hc34, h⟩ := oB_of h
      refine ww_callV (pc := 34) (rest := []) g cv_Ro_kindAt (Or.inl kw_983) (cl_Ro ⟨by decide, rfl⟩) (pz rfl (by decide)) (ct_Ro_kindAt ⟨by decide, rfl⟩ hc34) ⟨by decide, by decide⟩ rfl hl.1 (Nat.le_of_ble_eq_true rfl) d_Bu_hasString_34 rfl (?_)
      refine ww_st (st' := [.int v34]) rfl ?_
      refine ww_if_eq (pc := 37) (tgt := 52) g.1 d_Bu_hasString_37 (by decide) h (fun c h => ?_) (fun c h => ?_)
      · exact j_Bu_hasString_j52 g hR x.1 x.2.2 s ls (lv_sub hl [0, 1, 3] rfl) h
      · refine ww_aload_n (pc := 40) g.1 d_Bu_hasString_40 rfl (lv_at hl 0 rfl) ?_
        refine ww_gR (pc := 41) g (k := 5) cl_Bu (pz rfl (by decide)) (by decide) (Or.inl kw_976) (f := 16645) (t := 132) rfl rfl rfl d_Bu_hasString_41 ?_
        refine ww_iload_n (pc := 44) g.1 d_Bu_hasString_44 rfl (lv_at hl 3 rfl) ?_
        obtain ⟨v45, s, hc45, h⟩ := oB_of h
        refine ww_callV (pc := 45) (rest := []) g cv_Ro_kindAt (Or.inl kw_983) (cl_Ro ⟨by decide, rfl⟩) (pz rfl (by decide)) (ct_Ro_kindAt ⟨by decide, rfl⟩ hc45) ⟨by decide, by decide⟩ rfl hl.1 (Nat.le_of_ble_eq_true rfl) d_Bu_hasString_45 rfl (?_)
        refine ww_st (st' := [.int v45]) rfl ?_
        refine ww_iconst (pc := 48) g.1 (v := 3) d_Bu_hasString_48 (by decide) ?_
        refine ww_icmp_ne (pc := 49) (tgt := 56) g.1 d_Bu_hasString_49 (by decide) h (fun c h => ?_) (fun c h => ?_)
        · exact j_Bu_hasString_j56 g hR x.1 x.2.2 s ls (lv_sub hl [0, 1, 3] rfl) h
        · exact j_Bu_hasString_j52 g hR x.1 x.2.2 s ls (lv_sub hl [0, 1, 3] rfl) h

theorem j_Bu_hasString_j17 {X : Cx} {q : PL} (g : Gd X y_Bu_hasString b_Bu_hasString 4 (some .boolean) 2 44 R_Bu) {o : (Int32) × S1} (hR : Rt X q o.2 (some (.int o.1))) (l1 : Int32) (k0 : Int32) (s : S1) (ls : Array Slot) (hl : lv_has ls 4 [(0, .ref (q.1 130 0)), (1, .int l1)]) (h : M_Bu_hasString_j17 l1 k0 s = some o) : WW X q s 17 ls [.int k0] := by
  unfold M_Bu_hasString_j17 at h
  refine ww_istore_n (pc := 17) (i := 2) g.1 (lv' := [(2, .int k0), (0, .ref (q.1 130 0)), (1, .int l1)]) d_Bu_hasString_17 rfl hl (by decide) rfl fun ls hl => ?_
  refine ww_iconst (pc := 18) g.1 (v := 1) d_Bu_hasString_18 (by decide) ?_
  refine ww_istore_n (pc := 19) (i := 3) g.1 (lv' := [(3, .int 1), (2, .int k0), (0, .ref (q.1 130 0)), (1, .int l1)]) d_Bu_hasString_19 rfl hl (by decide) rfl fun ls hl => ?_
  obtain ⟨e20, s1, hw, h⟩ := oB_of h
  refine oW_rule (Wh := fun (x : Int32 × Int32 × Int32) (s : S1) => ∀ ls : Array Slot, lv_has ls 4 [(0, .ref (q.1 130 0)), (1, .int x.1), (2, .int x.2.1), (3, .int x.2.2)] → WW X q s 20 ls []) (We := fun (e : (Int32)) (s : S1) => ∀ ls : Array Slot, lv_has ls 4 [(0, .ref (q.1 130 0)), (2, .int e)] → WW X q s 64 ls []) (fun x s o hb hc => lp_Bu_hasString_L20 (q := q) g x s o hb hc) hw ?_ ls (lv_sub hl [2, 3, 1, 0] rfl)
  clear hw hl
  clear ls
  intro ls hl
  generalize s1 = s at h ⊢
  refine ww_iload_n (pc := 64) g.1 d_Bu_hasString_64 rfl (lv_at hl 1 rfl) ?_
  refine ww_if_ne (pc := 65) (tgt := 76) g.1 d_Bu_hasString_65 (by decide) h (fun c h => ?_) (fun c h => ?_)
  · refine ww_iload_n (pc := 76) g.1 d_Bu_hasString_76 rfl (lv_at hl 1 rfl) ?_
    refine ww_ok h fun cz h => ?_
    exact ww_zretH (pc := 77) g h hR cz d_Bu_hasString_77
  · refine ww_aload_n (pc := 68) g.1 d_Bu_hasString_68 rfl (lv_at hl 0 rfl) ?_
    refine ww_gR (pc := 69) g (k := 2) cl_Bu (pz rfl (by decide)) (by decide) (Or.inl kw_995) (f := 16642) (t := 128) rfl rfl rfl d_Bu_hasString_69 ?_
    refine ww_iconst (pc := 72) g.1 (v := 3) d_Bu_hasString_72 (by decide) ?_
    obtain ⟨v73, s, hc73, h⟩ := oB_of h
    refine ww_callV (pc := 73) (rest := []) g cv_Ma_fail (Or.inl kw_1144) cl_Ma (pz rfl (by decide)) (ct_Ma_fail hc73) ⟨by decide, by decide⟩ rfl hl.1 (Nat.le_of_ble_eq_true rfl) d_Bu_hasString_73 rfl (?_)
    refine ww_st (st' := []) rfl ?_
    refine ww_iload_n (pc := 76) g.1 d_Bu_hasString_76 rfl (lv_at hl 1 rfl) ?_
    refine ww_ok h fun cz h => ?_
    exact ww_zretH (pc := 77) g h hR cz d_Bu_hasString_77

theorem ct_Bu_hasString {l : Launch} {P : PP} {q : PL} {s s' : S1} {l1 : Int32} {r : Int32} (h : M_Bu_hasString l1 s = some (r, s')) : Ct l y_Bu_hasString b_Bu_hasString 4 (some .boolean) 2 44 P q s [.ref (q.1 130 0), .int l1] (some (.int r)) q s' := by
  refine ct_of (by decide) (Nat.le_of_ble_eq_true rfl) fun X ls eP el g hR hl => ?_
  subst eP
  have hR : Rt X q ((r, s') : Int32 × S1).2 (some (.int ((r, s') : Int32 × S1).1)) := hR
  have hl : lv_has ls 4 [(0, .ref (q.1 130 0)), (1, .int l1)] := hl
  generalize (r, s') = o at h hR
  unfold M_Bu_hasString at h
  refine ww_aload_n (pc := 0) g.1 d_Bu_hasString_0 rfl (lv_at hl 0 rfl) ?_
  refine ww_gR (pc := 1) g (k := 5) cl_Bu (pz rfl (by decide)) (by decide) (Or.inl kw_976) (f := 16645) (t := 132) rfl rfl rfl d_Bu_hasString_1 ?_
  refine ww_iconst (pc := 4) g.1 (v := 0) d_Bu_hasString_4 (by decide) ?_
  obtain ⟨v5, s, hc5, h⟩ := oB_of h
  refine ww_callV (pc := 5) (rest := []) g cv_Ro_kindAt (Or.inl kw_983) (cl_Ro ⟨by decide, rfl⟩) (pz rfl (by decide)) (ct_Ro_kindAt ⟨by decide, rfl⟩ hc5) ⟨by decide, by decide⟩ rfl hl.1 (Nat.le_of_ble_eq_true rfl) d_Bu_hasString_5 rfl (?_)
  refine ww_st (st' := [.int v5]) rfl ?_
  refine ww_iconst (pc := 8) g.1 (v := 4) d_Bu_hasString_8 (by decide) ?_
  refine ww_icmp_ne (pc := 9) (tgt := 16) g.1 d_Bu_hasString_9 (by decide) h (fun c h => ?_) (fun c h => ?_)
  · refine ww_iconst (pc := 16) g.1 (v := 0) d_Bu_hasString_16 (by decide) ?_
    exact j_Bu_hasString_j17 g hR l1 0 s ls (lv_sub hl [0, 1] rfl) h
  · refine ww_iconst (pc := 12) g.1 (v := 1) d_Bu_hasString_12 (by decide) ?_
    refine ww_goto (pc := 13) (tgt := 17) g.1 d_Bu_hasString_13 (by decide) ?_
    exact j_Bu_hasString_j17 g hR l1 1 s ls (lv_sub hl [0, 1] rfl) h

abbrev b_Bu_tellByte : ByteArray := prog_2_method_29_code
def y_Bu_tellByte : MethodName := ⟨R_Bu, "tellByte", "()V"⟩
abbrev w_Bu_tellByte : List Cond := .code y_Bu_tellByte b_Bu_tellByte 4 none :: wA
theorem k_Bu_tellByte : Cond.code y_Bu_tellByte b_Bu_tellByte 4 none ∈ wA := kinm (show _ ∈ tables_1 from (List.mem_append_right _ (List.mem_append_right _ (List.mem_append_right _ (List.mem_append_right _ (List.mem_append_right _ (List.mem_append_right _ (List.mem_append_right _ (List.mem_append_left _ (List.mem_of_getElem? (l := tables_1_8) (i := 153) (by decide +kernel))))))))))) (by decide +kernel)
theorem d_Bu_tellByte_0 : decode b_Bu_tellByte 0 = .ok (.aload_n 0, 1) := by decide +kernel
theorem d_Bu_tellByte_1 : decode b_Bu_tellByte 1 = .ok (.iconst 1, 1) := by decide +kernel
theorem d_Bu_tellByte_2 : decode b_Bu_tellByte 2 = .ok (.invokevirtual 314, 3) := by decide +kernel
theorem d_Bu_tellByte_5 : decode b_Bu_tellByte 5 = .ok (.ifCond .ne 4, 3) := by decide +kernel
theorem d_Bu_tellByte_8 : decode b_Bu_tellByte 8 = .ok (.return_, 1) := by decide +kernel
theorem d_Bu_tellByte_9 : decode b_Bu_tellByte 9 = .ok (.aload_n 0, 1) := by decide +kernel
theorem d_Bu_tellByte_10 : decode b_Bu_tellByte 10 = .ok (.invokevirtual 281, 3) := by decide +kernel
theorem d_Bu_tellByte_13 : decode b_Bu_tellByte 13 = .ok (.astore_n 1, 1) := by decide +kernel
theorem d_Bu_tellByte_14 : decode b_Bu_tellByte 14 = .ok (.aload_n 0, 1) := by decide +kernel
theorem d_Bu_tellByte_15 : decode b_Bu_tellByte 15 = .ok (.getfield 35, 3) := by decide +kernel
theorem d_Bu_tellByte_18 : decode b_Bu_tellByte 18 = .ok (.iconst 1, 1) := by decide +kernel
theorem d_Bu_tellByte_19 : decode b_Bu_tellByte 19 = .ok (.invokevirtual 67, 3) := by decide +kernel
theorem d_Bu_tellByte_22 : decode b_Bu_tellByte 22 = .ok (.ifCond .ne 7, 3) := by decide +kernel
theorem d_Bu_tellByte_25 : decode b_Bu_tellByte 25 = .ok (.lconst 1, 1) := by decide +kernel
theorem d_Bu_tellByte_26 : decode b_Bu_tellByte 26 = .ok (.goto 16, 3) := by decide +kernel
theorem d_Bu_tellByte_29 : decode b_Bu_tellByte 29 = .ok (.aload_n 0, 1) := by decide +kernel
theorem d_Bu_tellByte_30 : decode b_Bu_tellByte 30 = .ok (.getfield 35, 3) := by decide +kernel
theorem d_Bu_tellByte_33 : decode b_Bu_tellByte 33 = .ok (.iconst 1, 1) := by decide +kernel
theorem d_Bu_tellByte_34 : decode b_Bu_tellByte 34 = .ok (.invokevirtual 78, 3) := by decide +kernel
theorem d_Bu_tellByte_37 : decode b_Bu_tellByte 37 = .ok (.aload_n 1, 1) := by decide +kernel
theorem d_Bu_tellByte_38 : decode b_Bu_tellByte 38 = .ok (.arraylength, 1) := by decide +kernel
theorem d_Bu_tellByte_39 : decode b_Bu_tellByte 39 = .ok (.invokestatic 318, 3) := by decide +kernel
theorem d_Bu_tellByte_42 : decode b_Bu_tellByte 42 = .ok (.lstore_n 2, 1) := by decide +kernel
theorem d_Bu_tellByte_43 : decode b_Bu_tellByte 43 = .ok (.lload_n 2, 1) := by decide +kernel
theorem d_Bu_tellByte_44 : decode b_Bu_tellByte 44 = .ok (.lconst 1, 1) := by decide +kernel
theorem d_Bu_tellByte_45 : decode b_Bu_tellByte 45 = .ok (.lcmp, 1) := by decide +kernel
theorem d_Bu_tellByte_46 : decode b_Bu_tellByte 46 = .ok (.ifCond .lt 11, 3) := by decide +kernel
theorem d_Bu_tellByte_49 : decode b_Bu_tellByte 49 = .ok (.lload_n 2, 1) := by decide +kernel
theorem d_Bu_tellByte_50 : decode b_Bu_tellByte 50 = .ok (.aload_n 1, 1) := by decide +kernel
theorem d_Bu_tellByte_51 : decode b_Bu_tellByte 51 = .ok (.arraylength, 1) := by decide +kernel
theorem d_Bu_tellByte_52 : decode b_Bu_tellByte 52 = .ok (.i2l, 1) := by decide +kernel
theorem d_Bu_tellByte_53 : decode b_Bu_tellByte 53 = .ok (.lcmp, 1) := by decide +kernel
theorem d_Bu_tellByte_54 : decode b_Bu_tellByte 54 = .ok (.ifCond .le 15, 3) := by decide +kernel
theorem d_Bu_tellByte_57 : decode b_Bu_tellByte 57 = .ok (.aload_n 0, 1) := by decide +kernel
theorem d_Bu_tellByte_58 : decode b_Bu_tellByte 58 = .ok (.getfield 39, 3) := by decide +kernel
theorem d_Bu_tellByte_61 : decode b_Bu_tellByte 61 = .ok (.iconst 0, 1) := by decide +kernel
theorem d_Bu_tellByte_62 : decode b_Bu_tellByte 62 = .ok (.lconst 0, 1) := by decide +kernel
theorem d_Bu_tellByte_63 : decode b_Bu_tellByte 63 = .ok (.invokevirtual 74, 3) := by decide +kernel
theorem d_Bu_tellByte_66 : decode b_Bu_tellByte 66 = .ok (.goto 22, 3) := by decide +kernel
theorem d_Bu_tellByte_69 : decode b_Bu_tellByte 69 = .ok (.aload_n 0, 1) := by decide +kernel
theorem d_Bu_tellByte_70 : decode b_Bu_tellByte 70 = .ok (.getfield 39, 3) := by decide +kernel
theorem d_Bu_tellByte_73 : decode b_Bu_tellByte 73 = .ok (.iconst 3, 1) := by decide +kernel
theorem d_Bu_tellByte_74 : decode b_Bu_tellByte 74 = .ok (.aload_n 1, 1) := by decide +kernel
theorem d_Bu_tellByte_75 : decode b_Bu_tellByte 75 = .ok (.lload_n 2, 1) := by decide +kernel
theorem d_Bu_tellByte_76 : decode b_Bu_tellByte 76 = .ok (.l2i, 1) := by decide +kernel
theorem d_Bu_tellByte_77 : decode b_Bu_tellByte 77 = .ok (.iconst 1, 1) := by decide +kernel
theorem d_Bu_tellByte_78 : decode b_Bu_tellByte 78 = .ok (.isub, 1) := by decide +kernel
theorem d_Bu_tellByte_79 : decode b_Bu_tellByte 79 = .ok (.baload, 1) := by decide +kernel
theorem d_Bu_tellByte_80 : decode b_Bu_tellByte 80 = .ok (.sipush 255, 3) := by decide +kernel
theorem d_Bu_tellByte_83 : decode b_Bu_tellByte 83 = .ok (.iand, 1) := by decide +kernel
theorem d_Bu_tellByte_84 : decode b_Bu_tellByte 84 = .ok (.i2l, 1) := by decide +kernel
theorem d_Bu_tellByte_85 : decode b_Bu_tellByte 85 = .ok (.invokevirtual 74, 3) := by decide +kernel
theorem d_Bu_tellByte_88 : decode b_Bu_tellByte 88 = .ok (.return_, 1) := by decide +kernel
theorem kw_1184 : Cond.methodLink R_Bu 314 y_Bu_hasString ∈ wA := kinm (show _ ∈ tables_1 from (List.mem_append_right _ (List.mem_append_right _ (List.mem_append_right _ (List.mem_append_right _ (List.mem_append_right _ (List.mem_append_right _ (List.mem_append_right _ (List.mem_append_left _ (List.mem_of_getElem? (l := tables_1_8) (i := 139) (by decide +kernel))))))))))) (by decide +kernel)
theorem kw_1185 : Cond.methodLink R_Bu 318 y_Bu_fromFront ∈ wA := kinm (show _ ∈ tables_1 from (List.mem_append_right _ (List.mem_append_right _ (List.mem_append_right _ (List.mem_append_right _ (List.mem_append_right _ (List.mem_append_right _ (List.mem_append_right _ (List.mem_append_left _ (List.mem_of_getElem? (l := tables_1_8) (i := 143) (by decide +kernel))))))))))) (by decide +kernel)
theorem kw_1186 : Cond.instanceMethod y_Bu_tellByte ∈ wA := kinm (show _ ∈ tables_1 from (List.mem_append_right _ (List.mem_append_right _ (List.mem_append_right _ (List.mem_append_right _ (List.mem_append_right _ (List.mem_append_right _ (List.mem_append_right _ (List.mem_append_left _ (List.mem_of_getElem? (l := tables_1_8) (i := 152) (by decide +kernel))))))))))) (by decide +kernel)
theorem kw_1187 : Cond.selects R_Bu y_Bu_tellByte y_Bu_tellByte ∈ wA := kinp 87 (by decide +kernel) (by decide +kernel)
theorem cv_Bu_tellByte : CV y_Bu_tellByte b_Bu_tellByte 4 none 0 := ⟨kw_1186, kw_1187, kw_950, k_Bu_tellByte, by decide +kernel⟩
theorem j_Bu_tellByte_j57 {X : Cx} {q : PL} (g : Gd X y_Bu_tellByte b_Bu_tellByte 4 none 3 67 R_Bu) {o : (Unit) × S1} (hR : Rt X q o.2 none)  (s : S1) (ls : Array Slot) (hl : lv_has ls 4 [(0, .ref (q.1 130 0))]) (h : M_Bu_tellByte_j57 s = some o) : WW X q s 57 ls [] := by
  unfold M_Bu_tellByte_j57 at h
  refine ww_aload_n (pc := 57) g.1 d_Bu_tellByte_57 rfl (lv_at hl 0 rfl) ?_
  refine ww_gR (pc := 58) g (k := 6) cl_Bu (pz rfl (by decide)) (by decide) (Or.inl kw_967) (f := 16646) (t := 135) rfl rfl rfl d_Bu_tellByte_58 ?_
  refine ww_iconst (pc := 61) g.1 (v := 0) d_Bu_tellByte_61 (by decide) ?_
  refine ww_lconst (pc := 62) g.1 (v := 0) d_Bu_tellByte_62 (by decide) ?_
  obtain ⟨v63, s, hc63, h⟩ := oB_of h
  refine ww_callV (pc := 63) (rest := []) g cv_Ro_add (Or.inl kw_971) (cl_Ro ⟨by decide, rfl⟩) (pz rfl (by decide)) (ct_Ro_add ⟨by decide, rfl⟩ hc63) ⟨by decide, by decide⟩ rfl hl.1 (Nat.le_of_ble_eq_true rfl) d_Bu_tellByte_63 rfl (?_)
  refine ww_st (st' := []) rfl ?_
  refine ww_goto (pc := 66) (tgt := 88) g.1 d_Bu_tellByte_66 (by decide) ?_
  exact ww_vretH (pc := 88) g h hR d_Bu_tellByte_88

theorem j_Bu_tellByte_j42 {X : Cx} {q : PL} (g : Gd X y_Bu_tellByte b_Bu_tellByte 4 none 3 67 R_Bu) {o : (Unit) × S1} (hR : Rt X q o.2 none) (l1 : Int32) (k0 : Int64) (s : S1) (hp0 : prs s 146 l1) (ls : Array Slot) (hl : lv_has ls 4 [(0, .ref (q.1 130 0)), (1, .ref (q.1 146 l1))]) (h : M_Bu_tellByte_j42 l1 k0 s = some o) : WW X q s 42 ls [.long k0] := by
  unfold M_Bu_tellByte_j42 at h
  refine ww_lstore_n (pc := 42) (i := 2) g.1 (lv' := [(2, .long k0), (0, .ref (q.1 130 0)), (1, .ref (q.1 146 l1))]) d_Bu_tellByte_42 rfl hl (by decide) rfl fun ls hl => ?_
  refine ww_lload_n (pc := 43) g.1 d_Bu_tellByte_43 rfl (lv_at hl 0 rfl) ?_
  refine ww_lconst (pc := 44) g.1 (v := 1) d_Bu_tellByte_44 (by decide) ?_
  refine ww_lcmp (pc := 45) g.1 d_Bu_tellByte_45 ?_
  refine ww_if_lt (pc := 46) (tgt := 57) g.1 d_Bu_tellByte_46 (by decide) h (fun c h => ?_) (fun c h => ?_)
  · exact j_Bu_tellByte_j57 g hR s ls (lv_sub hl [1] rfl) h
  · refine ww_lload_n (pc := 49) g.1 d_Bu_tellByte_49 rfl (lv_at hl 0 rfl) ?_
    refine ww_aload_n (pc := 50) g.1 d_Bu_tellByte_50 rfl (lv_at hl 2 rfl) ?_
    refine ww_ln hp0 h fun n51 hmn51 hnn51 h => ?_
    refine ww_alen (pc := 51) g (n := n51) hp0 (by decide) hmn51 d_Bu_tellByte_51 ?_
    refine ww_i2l (pc := 52) g.1 (v := n51.toInt64) d_Bu_tellByte_52 rfl ?_
    refine ww_lcmp (pc := 53) g.1 d_Bu_tellByte_53 ?_
    refine ww_if_le (pc := 54) (tgt := 69) g.1 d_Bu_tellByte_54 (by decide) h (fun c h => ?_) (fun c h => ?_)
    · refine ww_aload_n (pc := 69) g.1 d_Bu_tellByte_69 rfl (lv_at hl 1 rfl) ?_
      refine ww_gR (pc := 70) g (k := 6) cl_Bu (pz rfl (by decide)) (by decide) (Or.inl kw_967) (f := 16646) (t := 135) rfl rfl rfl d_Bu_tellByte_70 ?_
      refine ww_iconst (pc := 73) g.1 (v := 3) d_Bu_tellByte_73 (by decide) ?_
      refine ww_aload_n (pc := 74) g.1 d_Bu_tellByte_74 rfl (lv_at hl 2 rfl) ?_
      refine ww_lload_n (pc := 75) g.1 d_Bu_tellByte_75 rfl (lv_at hl 0 rfl) ?_
      refine ww_l2i (pc := 76) g.1 (v := k0.toInt32) d_Bu_tellByte_76 rfl ?_
      refine ww_iconst (pc := 77) g.1 (v := 1) d_Bu_tellByte_77 (by decide) ?_
      refine ww_isub (pc := 78) g.1 d_Bu_tellByte_78 ?_
      refine ww_ln hp0 h fun n79 hmn79 hnn79 h => ?_
      refine ww_ab (pc := 79) g hp0 rfl hnn79 d_Bu_tellByte_79 h fun v79 h => ?_
      refine ww_sipush (pc := 80) g.1 (v := 255) d_Bu_tellByte_80 (by decide) ?_
      refine ww_iand (pc := 83) g.1 d_Bu_tellByte_83 ?_
      refine ww_i2l (pc := 84) g.1 (v := (v79 &&& 255).toInt64) d_Bu_tellByte_84 rfl ?_
      refine ww_lo fun dlo => ?_
      obtain ⟨v85, s, hc85, h⟩ := oB_of h
      refine ww_callV (pc := 85) (rest := []) g cv_Ro_add (Or.inl kw_971) (cl_Ro ⟨by decide, rfl⟩) (pz rfl (by decide)) (ct_Ro_add ⟨by decide, rfl⟩ hc85) ⟨by decide, by decide⟩ rfl hl.1 (Nat.le_of_ble_eq_true rfl) d_Bu_tellByte_85 rfl (?_)
      refine ww_st (st' := []) rfl ?_
      refine ww_hi fun dhi => ?_
      have hp0 : prs s 146 l1 := dhi _ _ hp0.2.1 hp0.2.2 (dlo _ _ hp0)
      exact ww_vretH (pc := 88) g h hR d_Bu_tellByte_88
    · exact j_Bu_tellByte_j57 g hR s ls (lv_sub hl [1] rfl) h

theorem ct_Bu_tellByte {l : Launch} {P : PP} {q : PL} {s s' : S1}  {r : Unit} (h : M_Bu_tellByte s = some (r, s')) : Ct l y_Bu_tellByte b_Bu_tellByte 4 none 3 67 P q s [.ref (q.1 130 0)] none q s' := by
  refine ct_of (by decide) (Nat.le_of_ble_eq_true rfl) fun X ls eP el g hR hl => ?_
  subst eP
  have hR : Rt X q ((r, s') : Unit × S1).2 none := hR
  have hl : lv_has ls 4 [(0, .ref (q.1 130 0))] := hl
  generalize (r, s') = o at h hR
  unfold M_Bu_tellByte at h
  refine ww_aload_n (pc := 0) g.1 d_Bu_tellByte_0 rfl (lv_at hl 0 rfl) ?_
  refine ww_iconst (pc := 1) g.1 (v := 1) d_Bu_tellByte_1 (by decide) ?_
  obtain ⟨v2, s, hc2, h⟩ := oB_of h
  refine ww_callV (pc := 2) (rest := []) g cv_Bu_hasString (Or.inl kw_1184) cl_Bu (pz rfl (by decide)) (ct_Bu_hasString hc2) ⟨by decide, by decide⟩ rfl hl.1 (Nat.le_of_ble_eq_true rfl) d_Bu_tellByte_2 rfl (?_)
  refine ww_st (st' := [.int v2]) rfl ?_
  refine ww_if_ne (pc := 5) (tgt := 9) g.1 d_Bu_tellByte_5 (by decide) h (fun c h => ?_) (fun c h => ?_)
  · refine ww_aload_n (pc := 9) g.1 d_Bu_tellByte_9 rfl (lv_at hl 0 rfl) ?_
    obtain ⟨v10, s, hc10, h⟩ := oB_of h
    refine ww_callV (pc := 10) (rest := []) g cv_Bu_bytesOfFirst (Or.inl kw_984) cl_Bu (pz rfl (by decide)) (ct_Bu_bytesOfFirst hc10) ⟨by decide, by decide⟩ rfl hl.1 (Nat.le_of_ble_eq_true rfl) d_Bu_tellByte_10 rfl (?_)
    refine ww_st (st' := [.ref (q.1 146 v10)]) rfl ?_
    refine ww_pr h fun pr10 h => ?_
    refine ww_astore_n (pc := 13) (i := 1) g.1 (lv' := [(1, .ref (q.1 146 v10)), (0, .ref (q.1 130 0))]) d_Bu_tellByte_13 rfl hl (by decide) rfl fun ls hl => ?_
    refine ww_aload_n (pc := 14) g.1 d_Bu_tellByte_14 rfl (lv_at hl 1 rfl) ?_
    refine ww_gR (pc := 15) g (k := 5) cl_Bu (pz rfl (by decide)) (by decide) (Or.inl kw_976) (f := 16645) (t := 132) rfl rfl rfl d_Bu_tellByte_15 ?_
    refine ww_iconst (pc := 18) g.1 (v := 1) d_Bu_tellByte_18 (by decide) ?_
    refine ww_lo fun dlo => ?_
    obtain ⟨v19, s, hc19, h⟩ := oB_of h
    refine ww_callV (pc := 19) (rest := []) g cv_Ro_kindAt (Or.inl kw_983) (cl_Ro ⟨by decide, rfl⟩) (pz rfl (by decide)) (ct_Ro_kindAt ⟨by decide, rfl⟩ hc19) ⟨by decide, by decide⟩ rfl hl.1 (Nat.le_of_ble_eq_true rfl) d_Bu_tellByte_19 rfl (?_)
    refine ww_st (st' := [.int v19]) rfl ?_
    refine ww_hi fun dhi => ?_
    have pr10 : prs s 146 v10 := dhi _ _ pr10.2.1 pr10.2.2 (dlo _ _ pr10)
    refine ww_if_ne (pc := 22) (tgt := 29) g.1 d_Bu_tellByte_22 (by decide) h (fun c h => ?_) (fun c h => ?_)
    · refine ww_aload_n (pc := 29) g.1 d_Bu_tellByte_29 rfl (lv_at hl 1 rfl) ?_
      refine ww_gR (pc := 30) g (k := 5) cl_Bu (pz rfl (by decide)) (by decide) (Or.inl kw_976) (f := 16645) (t := 132) rfl rfl rfl d_Bu_tellByte_30 ?_
      refine ww_iconst (pc := 33) g.1 (v := 1) d_Bu_tellByte_33 (by decide) ?_
      refine ww_lo fun dlo => ?_
      obtain ⟨v34, s, hc34, h⟩ := oB_of h
      refine ww_callV (pc := 34) (rest := []) g cv_Ro_valueAt (Or.inl kw_977) (cl_Ro ⟨by decide, rfl⟩) (pz rfl (by decide)) (ct_Ro_valueAt ⟨by decide, rfl⟩ hc34) ⟨by decide, by decide⟩ rfl hl.1 (Nat.le_of_ble_eq_true rfl) d_Bu_tellByte_34 rfl (?_)
      refine ww_st (st' := [.long v34]) rfl ?_
      refine ww_hi fun dhi => ?_
      have pr10 : prs s 146 v10 := dhi _ _ pr10.2.1 pr10.2.2 (dlo _ _ pr10)
      refine ww_aload_n (pc := 37) g.1 d_Bu_tellByte_37 rfl (lv_at hl 0 rfl) ?_
      refine ww_ln pr10 h fun n38 hmn38 hnn38 h => ?_
      refine ww_alen (pc := 38) g (n := n38) pr10 (by decide) hmn38 d_Bu_tellByte_38 ?_
      refine ww_lo fun dlo => ?_
      obtain ⟨v39, s, hc39, h⟩ := oB_of h
      refine ww_callS (pc := 39) (rest := []) g cs_Bu_fromFront (Or.inl kw_1185) (ct_Bu_fromFront hc39) ⟨by decide, by decide⟩ rfl hl.1 (Nat.le_of_ble_eq_true rfl) d_Bu_tellByte_39 rfl (?_)
      refine ww_st (st' := [.long v39]) rfl ?_
      refine ww_hi fun dhi => ?_
      have pr10 : prs s 146 v10 := dhi _ _ pr10.2.1 pr10.2.2 (dlo _ _ pr10)
      exact j_Bu_tellByte_j42 g hR v10 v39 s pr10 ls (lv_sub hl [1, 0] rfl) h
    · refine ww_lconst (pc := 25) g.1 (v := 1) d_Bu_tellByte_25 (by decide) ?_
      refine ww_goto (pc := 26) (tgt := 42) g.1 d_Bu_tellByte_26 (by decide) ?_
      exact j_Bu_tellByte_j42 g hR v10 1 s pr10 ls (lv_sub hl [1, 0] rfl) h
  · exact ww_vretH (pc := 8) g h hR d_Bu_tellByte_8

abbrev b_Bu_measure : ByteArray := prog_2_method_30_code
def y_Bu_measure : MethodName := ⟨R_Bu, "measure", "()V"⟩
abbrev w_Bu_measure : List Cond := .code y_Bu_measure b_Bu_measure 1 none :: wA
theorem k_Bu_measure : Cond.code y_Bu_measure b_Bu_measure 1 none ∈ wA := kinm (show _ ∈ tables_1 from (List.mem_append_right _ (List.mem_append_right _ (List.mem_append_right _ (List.mem_append_right _ (List.mem_append_right _ (List.mem_append_right _ (List.mem_append_right _ (List.mem_append_left _ (List.mem_of_getElem? (l := tables_1_8) (i := 163) (by decide +kernel))))))))))) (by decide +kernel)
theorem d_Bu_measure_0 : decode b_Bu_measure 0 = .ok (.aload_n 0, 1) := by decide +kernel
theorem d_Bu_measure_1 : decode b_Bu_measure 1 = .ok (.iconst 0, 1) := by decide +kernel
theorem d_Bu_measure_2 : decode b_Bu_measure 2 = .ok (.invokevirtual 314, 3) := by decide +kernel
theorem d_Bu_measure_5 : decode b_Bu_measure 5 = .ok (.ifCond .eq 17, 3) := by decide +kernel
theorem d_Bu_measure_8 : decode b_Bu_measure 8 = .ok (.aload_n 0, 1) := by decide +kernel
theorem d_Bu_measure_9 : decode b_Bu_measure 9 = .ok (.getfield 39, 3) := by decide +kernel
theorem d_Bu_measure_12 : decode b_Bu_measure 12 = .ok (.iconst 3, 1) := by decide +kernel
theorem d_Bu_measure_13 : decode b_Bu_measure 13 = .ok (.aload_n 0, 1) := by decide +kernel
theorem d_Bu_measure_14 : decode b_Bu_measure 14 = .ok (.invokevirtual 281, 3) := by decide +kernel
theorem d_Bu_measure_17 : decode b_Bu_measure 17 = .ok (.arraylength, 1) := by decide +kernel
theorem d_Bu_measure_18 : decode b_Bu_measure 18 = .ok (.i2l, 1) := by decide +kernel
theorem d_Bu_measure_19 : decode b_Bu_measure 19 = .ok (.invokevirtual 74, 3) := by decide +kernel
theorem d_Bu_measure_22 : decode b_Bu_measure 22 = .ok (.return_, 1) := by decide +kernel
theorem kw_1188 : Cond.instanceMethod y_Bu_measure ∈ wA := kinm (show _ ∈ tables_1 from (List.mem_append_right _ (List.mem_append_right _ (List.mem_append_right _ (List.mem_append_right _ (List.mem_append_right _ (List.mem_append_right _ (List.mem_append_right _ (List.mem_append_left _ (List.mem_of_getElem? (l := tables_1_8) (i := 162) (by decide +kernel))))))))))) (by decide +kernel)
theorem kw_1189 : Cond.selects R_Bu y_Bu_measure y_Bu_measure ∈ wA := kinp 89 (by decide +kernel) (by decide +kernel)
theorem cv_Bu_measure : CV y_Bu_measure b_Bu_measure 1 none 0 := ⟨kw_1188, kw_1189, kw_950, k_Bu_measure, by decide +kernel⟩
theorem ct_Bu_measure {l : Launch} {P : PP} {q : PL} {s s' : S1}  {r : Unit} (h : M_Bu_measure s = some (r, s')) : Ct l y_Bu_measure b_Bu_measure 1 none 3 67 P q s [.ref (q.1 130 0)] none q s' := by
  refine ct_of (by decide) (Nat.le_of_ble_eq_true rfl) fun X ls eP el g hR hl => ?_
  subst eP
  have hR : Rt X q ((r, s') : Unit × S1).2 none := hR
  have hl : lv_has ls 1 [(0, .ref (q.1 130 0))] := hl
  generalize (r, s') = o at h hR
  unfold M_Bu_measure at h
  refine ww_aload_n (pc := 0) g.1 d_Bu_measure_0 rfl (lv_at hl 0 rfl) ?_
  refine ww_iconst (pc := 1) g.1 (v := 0) d_Bu_measure_1 (by decide) ?_
  obtain ⟨v2, s, hc2, h⟩ := oB_of h
  refine ww_callV (pc := 2) (rest := []) g cv_Bu_hasString (Or.inl kw_1184) cl_Bu (pz rfl (by decide)) (ct_Bu_hasString hc2) ⟨by decide, by decide⟩ rfl hl.1 (Nat.le_of_ble_eq_true rfl) d_Bu_measure_2 rfl (?_)
  refine ww_st (st' := [.int v2]) rfl ?_
  refine ww_if_eq (pc := 5) (tgt := 22) g.1 d_Bu_measure_5 (by decide) h (fun c h => ?_) (fun c h => ?_)
  · exact ww_vretH (pc := 22) g h hR d_Bu_measure_22
  · refine ww_aload_n (pc := 8) g.1 d_Bu_measure_8 rfl (lv_at hl 0 rfl) ?_
    refine ww_gR (pc := 9) g (k := 6) cl_Bu (pz rfl (by decide)) (by decide) (Or.inl kw_967) (f := 16646) (t := 135) rfl rfl rfl d_Bu_measure_9 ?_
    refine ww_iconst (pc := 12) g.1 (v := 3) d_Bu_measure_12 (by decide) ?_
    refine ww_aload_n (pc := 13) g.1 d_Bu_measure_13 rfl (lv_at hl 0 rfl) ?_
    obtain ⟨v14, s, hc14, h⟩ := oB_of h
    refine ww_callV (pc := 14) (rest := [.int 3, .ref (q.1 135 0)]) g cv_Bu_bytesOfFirst (Or.inl kw_984) cl_Bu (pz rfl (by decide)) (ct_Bu_bytesOfFirst hc14) ⟨by decide, by decide⟩ rfl hl.1 (Nat.le_of_ble_eq_true rfl) d_Bu_measure_14 rfl (?_)
    refine ww_st (st' := [.ref (q.1 146 v14), .int 3, .ref (q.1 135 0)]) rfl ?_
    refine ww_pr h fun pr14 h => ?_
    refine ww_ln pr14 h fun n17 hmn17 hnn17 h => ?_
    refine ww_alen (pc := 17) g (n := n17) pr14 (by decide) hmn17 d_Bu_measure_17 ?_
    refine ww_i2l (pc := 18) g.1 (v := n17.toInt64) d_Bu_measure_18 rfl ?_
    obtain ⟨v19, s, hc19, h⟩ := oB_of h
    refine ww_callV (pc := 19) (rest := []) g cv_Ro_add (Or.inl kw_971) (cl_Ro ⟨by decide, rfl⟩) (pz rfl (by decide)) (ct_Ro_add ⟨by decide, rfl⟩ hc19) ⟨by decide, by decide⟩ rfl hl.1 (Nat.le_of_ble_eq_true rfl) d_Bu_measure_19 rfl (?_)
    refine ww_st (st' := []) rfl ?_
    exact ww_vretH (pc := 22) g h hR d_Bu_measure_22

abbrev b_Bu_hasFunction : ByteArray := prog_2_method_5_code
def y_Bu_hasFunction : MethodName := ⟨R_Bu, "hasFunction", "()Z"⟩
abbrev w_Bu_hasFunction : List Cond := .code y_Bu_hasFunction b_Bu_hasFunction 1 (some .boolean) :: wA
theorem k_Bu_hasFunction : Cond.code y_Bu_hasFunction b_Bu_hasFunction 1 (some .boolean) ∈ wA := kinm (show _ ∈ tables_1 from (List.mem_append_right _ (List.mem_append_right _ (List.mem_append_right _ (List.mem_append_right _ (List.mem_append_right _ (List.mem_append_right _ (List.mem_append_right _ (List.mem_append_left _ (List.mem_of_getElem? (l := tables_1_8) (i := 171) (by decide +kernel))))))))))) (by decide +kernel)
theorem d_Bu_hasFunction_0 : decode b_Bu_hasFunction 0 = .ok (.aload_n 0, 1) := by decide +kernel
theorem d_Bu_hasFunction_1 : decode b_Bu_hasFunction 1 = .ok (.getfield 35, 3) := by decide +kernel
theorem d_Bu_hasFunction_4 : decode b_Bu_hasFunction 4 = .ok (.iconst 0, 1) := by decide +kernel
theorem d_Bu_hasFunction_5 : decode b_Bu_hasFunction 5 = .ok (.invokevirtual 67, 3) := by decide +kernel
theorem d_Bu_hasFunction_8 : decode b_Bu_hasFunction 8 = .ok (.bipush 6, 2) := by decide +kernel
theorem d_Bu_hasFunction_10 : decode b_Bu_hasFunction 10 = .ok (.if_icmp .eq 11, 3) := by decide +kernel
theorem d_Bu_hasFunction_13 : decode b_Bu_hasFunction 13 = .ok (.aload_n 0, 1) := by decide +kernel
theorem d_Bu_hasFunction_14 : decode b_Bu_hasFunction 14 = .ok (.getfield 15, 3) := by decide +kernel
theorem d_Bu_hasFunction_17 : decode b_Bu_hasFunction 17 = .ok (.iconst 1, 1) := by decide +kernel
theorem d_Bu_hasFunction_18 : decode b_Bu_hasFunction 18 = .ok (.invokevirtual 145, 3) := by decide +kernel
theorem d_Bu_hasFunction_21 : decode b_Bu_hasFunction 21 = .ok (.aload_n 0, 1) := by decide +kernel
theorem d_Bu_hasFunction_22 : decode b_Bu_hasFunction 22 = .ok (.getfield 35, 3) := by decide +kernel
theorem d_Bu_hasFunction_25 : decode b_Bu_hasFunction 25 = .ok (.iconst 0, 1) := by decide +kernel
theorem d_Bu_hasFunction_26 : decode b_Bu_hasFunction 26 = .ok (.invokevirtual 67, 3) := by decide +kernel
theorem d_Bu_hasFunction_29 : decode b_Bu_hasFunction 29 = .ok (.bipush 6, 2) := by decide +kernel
theorem d_Bu_hasFunction_31 : decode b_Bu_hasFunction 31 = .ok (.if_icmp .ne 7, 3) := by decide +kernel
theorem d_Bu_hasFunction_34 : decode b_Bu_hasFunction 34 = .ok (.iconst 1, 1) := by decide +kernel
theorem d_Bu_hasFunction_35 : decode b_Bu_hasFunction 35 = .ok (.goto 4, 3) := by decide +kernel
theorem d_Bu_hasFunction_38 : decode b_Bu_hasFunction 38 = .ok (.iconst 0, 1) := by decide +kernel
theorem d_Bu_hasFunction_39 : decode b_Bu_hasFunction 39 = .ok (.ireturn, 1) := by decide +kernel
theorem kw_1190 : Cond.instanceMethod y_Bu_hasFunction ∈ wA := kinm (show _ ∈ tables_1 from (List.mem_append_right _ (List.mem_append_right _ (List.mem_append_right _ (List.mem_append_right _ (List.mem_append_right _ (List.mem_append_right _ (List.mem_append_right _ (List.mem_append_left _ (List.mem_of_getElem? (l := tables_1_8) (i := 170) (by decide +kernel))))))))))) (by decide +kernel)
theorem kw_1191 : Cond.selects R_Bu y_Bu_hasFunction y_Bu_hasFunction ∈ wA := kinp 91 (by decide +kernel) (by decide +kernel)
theorem cv_Bu_hasFunction : CV y_Bu_hasFunction b_Bu_hasFunction 1 (some .boolean) 0 := ⟨kw_1190, kw_1191, kw_950, k_Bu_hasFunction, by decide +kernel⟩
theorem j_Bu_hasFunction_j21 {X : Cx} {q : PL} (g : Gd X y_Bu_hasFunction b_Bu_hasFunction 1 (some .boolean) 2 44 R_Bu) {o : (Int32) × S1} (hR : Rt X q o.2 (some (.int o.1)))  (s : S1) (ls : Array Slot) (hl : lv_has ls 1 [(0, .ref (q.1 130 0))]) (h : M_Bu_hasFunction_j21 s = some o) : WW X q s 21 ls [] := by
  unfold M_Bu_hasFunction_j21 at h
  refine ww_aload_n (pc := 21) g.1 d_Bu_hasFunction_21 rfl (lv_at hl 0 rfl) ?_
  refine ww_gR (pc := 22) g (k := 5) cl_Bu (pz rfl (by decide)) (by decide) (Or.inl kw_976) (f := 16645) (t := 132) rfl rfl rfl d_Bu_hasFunction_22 ?_
  refine ww_iconst (pc := 25) g.1 (v := 0) d_Bu_hasFunction_25 (by decide) ?_
  obtain ⟨v26, s, hc26, h⟩ := oB_of h
  refine ww_callV (pc := 26) (rest := []) g cv_Ro_kindAt (Or.inl kw_983) (cl_Ro ⟨by decide, rfl⟩) (pz rfl (by decide)) (ct_Ro_kindAt ⟨by decide, rfl⟩ hc26) ⟨by decide, by decide⟩ rfl hl.1 (Nat.le_of_ble_eq_true rfl) d_Bu_hasFunction_26 rfl (?_)
  refine ww_st (st' := [.int v26]) rfl ?_
  refine ww_bipush (pc := 29) g.1 (v := 6) d_Bu_hasFunction_29 (by decide) ?_
  refine ww_icmp_ne (pc := 31) (tgt := 38) g.1 d_Bu_hasFunction_31 (by decide) h (fun c h => ?_) (fun c h => ?_)
  · refine ww_iconst (pc := 38) g.1 (v := 0) d_Bu_hasFunction_38 (by decide) ?_
    exact ww_zretH (pc := 39) g h hR (Or.inl rfl) d_Bu_hasFunction_39
  · refine ww_iconst (pc := 34) g.1 (v := 1) d_Bu_hasFunction_34 (by decide) ?_
    refine ww_goto (pc := 35) (tgt := 39) g.1 d_Bu_hasFunction_35 (by decide) ?_
    exact ww_zretH (pc := 39) g h hR (Or.inr rfl) d_Bu_hasFunction_39

theorem ct_Bu_hasFunction {l : Launch} {P : PP} {q : PL} {s s' : S1}  {r : Int32} (h : M_Bu_hasFunction s = some (r, s')) : Ct l y_Bu_hasFunction b_Bu_hasFunction 1 (some .boolean) 2 44 P q s [.ref (q.1 130 0)] (some (.int r)) q s' := by
  refine ct_of (by decide) (Nat.le_of_ble_eq_true rfl) fun X ls eP el g hR hl => ?_
  subst eP
  have hR : Rt X q ((r, s') : Int32 × S1).2 (some (.int ((r, s') : Int32 × S1).1)) := hR
  have hl : lv_has ls 1 [(0, .ref (q.1 130 0))] := hl
  generalize (r, s') = o at h hR
  unfold M_Bu_hasFunction at h
  refine ww_aload_n (pc := 0) g.1 d_Bu_hasFunction_0 rfl (lv_at hl 0 rfl) ?_
  refine ww_gR (pc := 1) g (k := 5) cl_Bu (pz rfl (by decide)) (by decide) (Or.inl kw_976) (f := 16645) (t := 132) rfl rfl rfl d_Bu_hasFunction_1 ?_
  refine ww_iconst (pc := 4) g.1 (v := 0) d_Bu_hasFunction_4 (by decide) ?_
  obtain ⟨v5, s, hc5, h⟩ := oB_of h
  refine ww_callV (pc := 5) (rest := []) g cv_Ro_kindAt (Or.inl kw_983) (cl_Ro ⟨by decide, rfl⟩) (pz rfl (by decide)) (ct_Ro_kindAt ⟨by decide, rfl⟩ hc5) ⟨by decide, by decide⟩ rfl hl.1 (Nat.le_of_ble_eq_true rfl) d_Bu_hasFunction_5 rfl (?_)
  refine ww_st (st' := [.int v5]) rfl ?_
  refine ww_bipush (pc := 8) g.1 (v := 6) d_Bu_hasFunction_8 (by decide) ?_
  refine ww_icmp_eq (pc := 10) (tgt := 21) g.1 d_Bu_hasFunction_10 (by decide) h (fun c h => ?_) (fun c h => ?_)
  · exact j_Bu_hasFunction_j21 g hR s ls (lv_sub hl [0] rfl) h
  · refine ww_aload_n (pc := 13) g.1 d_Bu_hasFunction_13 rfl (lv_at hl 0 rfl) ?_
    refine ww_gR (pc := 14) g (k := 2) cl_Bu (pz rfl (by decide)) (by decide) (Or.inl kw_995) (f := 16642) (t := 128) rfl rfl rfl d_Bu_hasFunction_14 ?_
    refine ww_iconst (pc := 17) g.1 (v := 1) d_Bu_hasFunction_17 (by decide) ?_
    obtain ⟨v18, s, hc18, h⟩ := oB_of h
    refine ww_callV (pc := 18) (rest := []) g cv_Ma_fail (Or.inl kw_1144) cl_Ma (pz rfl (by decide)) (ct_Ma_fail hc18) ⟨by decide, by decide⟩ rfl hl.1 (Nat.le_of_ble_eq_true rfl) d_Bu_hasFunction_18 rfl (?_)
    refine ww_st (st' := []) rfl ?_
    exact j_Bu_hasFunction_j21 g hR s ls (lv_sub hl [0] rfl) h

abbrev b_Bu_hasCoroutine : ByteArray := prog_2_method_4_code
def y_Bu_hasCoroutine : MethodName := ⟨R_Bu, "hasCoroutine", "()Z"⟩
abbrev w_Bu_hasCoroutine : List Cond := .code y_Bu_hasCoroutine b_Bu_hasCoroutine 1 (some .boolean) :: wA
theorem k_Bu_hasCoroutine : Cond.code y_Bu_hasCoroutine b_Bu_hasCoroutine 1 (some .boolean) ∈ wA := kinm (show _ ∈ tables_1 from (List.mem_append_right _ (List.mem_append_right _ (List.mem_append_right _ (List.mem_append_right _ (List.mem_append_right _ (List.mem_append_right _ (List.mem_append_right _ (List.mem_append_left _ (List.mem_of_getElem? (l := tables_1_8) (i := 180) (by decide +kernel))))))))))) (by decide +kernel)
theorem d_Bu_hasCoroutine_0 : decode b_Bu_hasCoroutine 0 = .ok (.aload_n 0, 1) := by decide +kernel
theorem d_Bu_hasCoroutine_1 : decode b_Bu_hasCoroutine 1 = .ok (.getfield 35, 3) := by decide +kernel
theorem d_Bu_hasCoroutine_4 : decode b_Bu_hasCoroutine 4 = .ok (.iconst 0, 1) := by decide +kernel
theorem d_Bu_hasCoroutine_5 : decode b_Bu_hasCoroutine 5 = .ok (.invokevirtual 67, 3) := by decide +kernel
theorem d_Bu_hasCoroutine_8 : decode b_Bu_hasCoroutine 8 = .ok (.bipush 7, 2) := by decide +kernel
theorem d_Bu_hasCoroutine_10 : decode b_Bu_hasCoroutine 10 = .ok (.if_icmp .eq 11, 3) := by decide +kernel
theorem d_Bu_hasCoroutine_13 : decode b_Bu_hasCoroutine 13 = .ok (.aload_n 0, 1) := by decide +kernel
theorem d_Bu_hasCoroutine_14 : decode b_Bu_hasCoroutine 14 = .ok (.getfield 15, 3) := by decide +kernel
theorem d_Bu_hasCoroutine_17 : decode b_Bu_hasCoroutine 17 = .ok (.iconst 2, 1) := by decide +kernel
theorem d_Bu_hasCoroutine_18 : decode b_Bu_hasCoroutine 18 = .ok (.invokevirtual 145, 3) := by decide +kernel
theorem d_Bu_hasCoroutine_21 : decode b_Bu_hasCoroutine 21 = .ok (.aload_n 0, 1) := by decide +kernel
theorem d_Bu_hasCoroutine_22 : decode b_Bu_hasCoroutine 22 = .ok (.getfield 35, 3) := by decide +kernel
theorem d_Bu_hasCoroutine_25 : decode b_Bu_hasCoroutine 25 = .ok (.iconst 0, 1) := by decide +kernel
theorem d_Bu_hasCoroutine_26 : decode b_Bu_hasCoroutine 26 = .ok (.invokevirtual 67, 3) := by decide +kernel
theorem d_Bu_hasCoroutine_29 : decode b_Bu_hasCoroutine 29 = .ok (.bipush 7, 2) := by decide +kernel
theorem d_Bu_hasCoroutine_31 : decode b_Bu_hasCoroutine 31 = .ok (.if_icmp .ne 7, 3) := by decide +kernel
theorem d_Bu_hasCoroutine_34 : decode b_Bu_hasCoroutine 34 = .ok (.iconst 1, 1) := by decide +kernel
theorem d_Bu_hasCoroutine_35 : decode b_Bu_hasCoroutine 35 = .ok (.goto 4, 3) := by decide +kernel
theorem d_Bu_hasCoroutine_38 : decode b_Bu_hasCoroutine 38 = .ok (.iconst 0, 1) := by decide +kernel
theorem d_Bu_hasCoroutine_39 : decode b_Bu_hasCoroutine 39 = .ok (.ireturn, 1) := by decide +kernel
theorem kw_1192 : Cond.instanceMethod y_Bu_hasCoroutine ∈ wA := kinm (show _ ∈ tables_1 from (List.mem_append_right _ (List.mem_append_right _ (List.mem_append_right _ (List.mem_append_right _ (List.mem_append_right _ (List.mem_append_right _ (List.mem_append_right _ (List.mem_append_left _ (List.mem_of_getElem? (l := tables_1_8) (i := 179) (by decide +kernel))))))))))) (by decide +kernel)
theorem kw_1193 : Cond.selects R_Bu y_Bu_hasCoroutine y_Bu_hasCoroutine ∈ wA := kinp 93 (by decide +kernel) (by decide +kernel)
theorem cv_Bu_hasCoroutine : CV y_Bu_hasCoroutine b_Bu_hasCoroutine 1 (some .boolean) 0 := ⟨kw_1192, kw_1193, kw_950, k_Bu_hasCoroutine, by decide +kernel⟩
theorem j_Bu_hasCoroutine_j21 {X : Cx} {q : PL} (g : Gd X y_Bu_hasCoroutine b_Bu_hasCoroutine 1 (some .boolean) 2 44 R_Bu) {o : (Int32) × S1} (hR : Rt X q o.2 (some (.int o.1)))  (s : S1) (ls : Array Slot) (hl : lv_has ls 1 [(0, .ref (q.1 130 0))]) (h : M_Bu_hasCoroutine_j21 s = some o) : WW X q s 21 ls [] := by
  unfold M_Bu_hasCoroutine_j21 at h
  refine ww_aload_n (pc := 21) g.1 d_Bu_hasCoroutine_21 rfl (lv_at hl 0 rfl) ?_
  refine ww_gR (pc := 22) g (k := 5) cl_Bu (pz rfl (by decide)) (by decide) (Or.inl kw_976) (f := 16645) (t := 132) rfl rfl rfl d_Bu_hasCoroutine_22 ?_
  refine ww_iconst (pc := 25) g.1 (v := 0) d_Bu_hasCoroutine_25 (by decide) ?_
  obtain ⟨v26, s, hc26, h⟩ := oB_of h
  refine ww_callV (pc := 26) (rest := []) g cv_Ro_kindAt (Or.inl kw_983) (cl_Ro ⟨by decide, rfl⟩) (pz rfl (by decide)) (ct_Ro_kindAt ⟨by decide, rfl⟩ hc26) ⟨by decide, by decide⟩ rfl hl.1 (Nat.le_of_ble_eq_true rfl) d_Bu_hasCoroutine_26 rfl (?_)
  refine ww_st (st' := [.int v26]) rfl ?_
  refine ww_bipush (pc := 29) g.1 (v := 7) d_Bu_hasCoroutine_29 (by decide) ?_
  refine ww_icmp_ne (pc := 31) (tgt := 38) g.1 d_Bu_hasCoroutine_31 (by decide) h (fun c h => ?_) (fun c h => ?_)
  · refine ww_iconst (pc := 38) g.1 (v := 0) d_Bu_hasCoroutine_38 (by decide) ?_
    exact ww_zretH (pc := 39) g h hR (Or.inl rfl) d_Bu_hasCoroutine_39
  · refine ww_iconst (pc := 34) g.1 (v := 1) d_Bu_hasCoroutine_34 (by decide) ?_
    refine ww_goto (pc := 35) (tgt := 39) g.1 d_Bu_hasCoroutine_35 (by decide) ?_
    exact ww_zretH (pc := 39) g h hR (Or.inr rfl) d_Bu_hasCoroutine_39

theorem ct_Bu_hasCoroutine {l : Launch} {P : PP} {q : PL} {s s' : S1}  {r : Int32} (h : M_Bu_hasCoroutine s = some (r, s')) : Ct l y_Bu_hasCoroutine b_Bu_hasCoroutine 1 (some .boolean) 2 44 P q s [.ref (q.1 130 0)] (some (.int r)) q s' := by
  refine ct_of (by decide) (Nat.le_of_ble_eq_true rfl) fun X ls eP el g hR hl => ?_
  subst eP
  have hR : Rt X q ((r, s') : Int32 × S1).2 (some (.int ((r, s') : Int32 × S1).1)) := hR
  have hl : lv_has ls 1 [(0, .ref (q.1 130 0))] := hl
  generalize (r, s') = o at h hR
  unfold M_Bu_hasCoroutine at h
  refine ww_aload_n (pc := 0) g.1 d_Bu_hasCoroutine_0 rfl (lv_at hl 0 rfl) ?_
  refine ww_gR (pc := 1) g (k := 5) cl_Bu (pz rfl (by decide)) (by decide) (Or.inl kw_976) (f := 16645) (t := 132) rfl rfl rfl d_Bu_hasCoroutine_1 ?_
  refine ww_iconst (pc := 4) g.1 (v := 0) d_Bu_hasCoroutine_4 (by decide) ?_
  obtain ⟨v5, s, hc5, h⟩ := oB_of h
  refine ww_callV (pc := 5) (rest := []) g cv_Ro_kindAt (Or.inl kw_983) (cl_Ro ⟨by decide, rfl⟩) (pz rfl (by decide)) (ct_Ro_kindAt ⟨by decide, rfl⟩ hc5) ⟨by decide, by decide⟩ rfl hl.1 (Nat.le_of_ble_eq_true rfl) d_Bu_hasCoroutine_5 rfl (?_)
  refine ww_st (st' := [.int v5]) rfl ?_
  refine ww_bipush (pc := 8) g.1 (v := 7) d_Bu_hasCoroutine_8 (by decide) ?_
  refine ww_icmp_eq (pc := 10) (tgt := 21) g.1 d_Bu_hasCoroutine_10 (by decide) h (fun c h => ?_) (fun c h => ?_)
  · exact j_Bu_hasCoroutine_j21 g hR s ls (lv_sub hl [0] rfl) h
  · refine ww_aload_n (pc := 13) g.1 d_Bu_hasCoroutine_13 rfl (lv_at hl 0 rfl) ?_
    refine ww_gR (pc := 14) g (k := 2) cl_Bu (pz rfl (by decide)) (by decide) (Or.inl kw_995) (f := 16642) (t := 128) rfl rfl rfl d_Bu_hasCoroutine_14 ?_
    refine ww_iconst (pc := 17) g.1 (v := 2) d_Bu_hasCoroutine_17 (by decide) ?_
    obtain ⟨v18, s, hc18, h⟩ := oB_of h
    refine ww_callV (pc := 18) (rest := []) g cv_Ma_fail (Or.inl kw_1144) cl_Ma (pz rfl (by decide)) (ct_Ma_fail hc18) ⟨by decide, by decide⟩ rfl hl.1 (Nat.le_of_ble_eq_true rfl) d_Bu_hasCoroutine_18 rfl (?_)
    refine ww_st (st' := []) rfl ?_
    exact j_Bu_hasCoroutine_j21 g hR s ls (lv_sub hl [0] rfl) h

abbrev b_Ma_giveWithTrue : ByteArray := prog_7_method_19_code
def y_Ma_giveWithTrue : MethodName := ⟨R_Ma, "giveWithTrue", "()V"⟩
abbrev w_Ma_giveWithTrue : List Cond := .code y_Ma_giveWithTrue b_Ma_giveWithTrue 1 none :: wA
theorem k_Ma_giveWithTrue : Cond.code y_Ma_giveWithTrue b_Ma_giveWithTrue 1 none ∈ wA := kinm (show _ ∈ tables_1 from (List.mem_append_right _ (List.mem_append_right _ (List.mem_append_right _ (List.mem_append_right _ (List.mem_append_right _ (List.mem_append_right _ (List.mem_append_right _ (List.mem_append_left _ (List.mem_of_getElem? (l := tables_1_8) (i := 199) (by decide +kernel))))))))))) (by decide +kernel)
theorem d_Ma_giveWithTrue_0 : decode b_Ma_giveWithTrue 0 = .ok (.aload_n 0, 1) := by decide +kernel
theorem d_Ma_giveWithTrue_1 : decode b_Ma_giveWithTrue 1 = .ok (.getfield 18, 3) := by decide +kernel
theorem d_Ma_giveWithTrue_4 : decode b_Ma_giveWithTrue 4 = .ok (.iconst 2, 1) := by decide +kernel
theorem d_Ma_giveWithTrue_5 : decode b_Ma_giveWithTrue 5 = .ok (.lconst 0, 1) := by decide +kernel
theorem d_Ma_giveWithTrue_6 : decode b_Ma_giveWithTrue 6 = .ok (.invokevirtual 232, 3) := by decide +kernel
theorem d_Ma_giveWithTrue_9 : decode b_Ma_giveWithTrue 9 = .ok (.aload_n 0, 1) := by decide +kernel
theorem d_Ma_giveWithTrue_10 : decode b_Ma_giveWithTrue 10 = .ok (.getfield 18, 3) := by decide +kernel
theorem d_Ma_giveWithTrue_13 : decode b_Ma_giveWithTrue 13 = .ok (.getfield 235, 3) := by decide +kernel
theorem d_Ma_giveWithTrue_16 : decode b_Ma_giveWithTrue 16 = .ok (.sipush 250, 3) := by decide +kernel
theorem d_Ma_giveWithTrue_19 : decode b_Ma_giveWithTrue 19 = .ok (.if_icmp .le 12, 3) := by decide +kernel
theorem d_Ma_giveWithTrue_22 : decode b_Ma_giveWithTrue 22 = .ok (.aload_n 0, 1) := by decide +kernel
theorem d_Ma_giveWithTrue_23 : decode b_Ma_giveWithTrue 23 = .ok (.bipush 7, 2) := by decide +kernel
theorem d_Ma_giveWithTrue_25 : decode b_Ma_giveWithTrue 25 = .ok (.invokevirtual 229, 3) := by decide +kernel
theorem d_Ma_giveWithTrue_28 : decode b_Ma_giveWithTrue 28 = .ok (.goto 8, 3) := by decide +kernel
theorem d_Ma_giveWithTrue_31 : decode b_Ma_giveWithTrue 31 = .ok (.aload_n 0, 1) := by decide +kernel
theorem d_Ma_giveWithTrue_32 : decode b_Ma_giveWithTrue 32 = .ok (.iconst 3, 1) := by decide +kernel
theorem d_Ma_giveWithTrue_33 : decode b_Ma_giveWithTrue 33 = .ok (.putfield 61, 3) := by decide +kernel
theorem d_Ma_giveWithTrue_36 : decode b_Ma_giveWithTrue 36 = .ok (.return_, 1) := by decide +kernel
theorem kw_1194 : Cond.methodLink R_Ma 232 y_Ro_addFirst ∈ wA := kinm (show _ ∈ tables_1 from (List.mem_append_right _ (List.mem_append_right _ (List.mem_append_right _ (List.mem_append_right _ (List.mem_append_right _ (List.mem_append_right _ (List.mem_append_left _ (List.mem_of_getElem? (l := tables_1_7) (i := 208) (by decide +kernel)))))))))) (by decide +kernel)
theorem kw_1195 : Cond.fieldLink R_Ma 235 "LuaMachine$Row" "size" "I" ∈ wA := kinm (show _ ∈ tables_1 from (List.mem_append_right _ (List.mem_append_left _ (List.mem_of_getElem? (l := tables_1_2) (i := 38) (by decide +kernel))))) (by decide +kernel)
theorem kw_1196 : Cond.methodLink R_Ma 229 y_Ma_fail ∈ wA := kinm (show _ ∈ tables_1 from (List.mem_append_right _ (List.mem_append_right _ (List.mem_append_right _ (List.mem_append_right _ (List.mem_append_right _ (List.mem_append_left _ (List.mem_of_getElem? (l := tables_1_6) (i := 217) (by decide +kernel))))))))) (by decide +kernel)
theorem kw_1197 : Cond.instanceMethod y_Ma_giveWithTrue ∈ wA := kinm (show _ ∈ tables_1 from (List.mem_append_right _ (List.mem_append_right _ (List.mem_append_right _ (List.mem_append_right _ (List.mem_append_right _ (List.mem_append_right _ (List.mem_append_right _ (List.mem_append_left _ (List.mem_of_getElem? (l := tables_1_8) (i := 198) (by decide +kernel))))))))))) (by decide +kernel)
theorem kw_1198 : Cond.selects R_Ma y_Ma_giveWithTrue y_Ma_giveWithTrue ∈ wA := kinp 96 (by decide +kernel) (by decide +kernel)
theorem cv_Ma_giveWithTrue : CV y_Ma_giveWithTrue b_Ma_giveWithTrue 1 none 0 := ⟨kw_1197, kw_1198, kw_838, k_Ma_giveWithTrue, by decide +kernel⟩
theorem ct_Ma_giveWithTrue {l : Launch} {P : PP} {q : PL} {s s' : S1}  {r : Unit} (h : M_Ma_giveWithTrue s = some (r, s')) : Ct l y_Ma_giveWithTrue b_Ma_giveWithTrue 1 none 2 49 P q s [.ref (q.1 128 0)] none q s' := by
  refine ct_of (by decide) (Nat.le_of_ble_eq_true rfl) fun X ls eP el g hR hl => ?_
  subst eP
  have hR : Rt X q ((r, s') : Unit × S1).2 none := hR
  have hl : lv_has ls 1 [(0, .ref (q.1 128 0))] := hl
  generalize (r, s') = o at h hR
  unfold M_Ma_giveWithTrue at h
  refine ww_aload_n (pc := 0) g.1 d_Ma_giveWithTrue_0 rfl (lv_at hl 0 rfl) ?_
  refine ww_gR (pc := 1) g (k := 4) cl_Ma (pz rfl (by decide)) (by decide) (Or.inl kw_1002) (f := 16388) (t := 135) rfl rfl rfl d_Ma_giveWithTrue_1 ?_
  refine ww_iconst (pc := 4) g.1 (v := 2) d_Ma_giveWithTrue_4 (by decide) ?_
  refine ww_lconst (pc := 5) g.1 (v := 0) d_Ma_giveWithTrue_5 (by decide) ?_
  obtain ⟨v6, s, hc6, h⟩ := oB_of h
  refine ww_callV (pc := 6) (rest := []) g cv_Ro_addFirst (Or.inl kw_1194) (cl_Ro ⟨by decide, rfl⟩) (pz rfl (by decide)) (ct_Ro_addFirst ⟨by decide, rfl⟩ hc6) ⟨by decide, by decide⟩ rfl hl.1 (Nat.le_of_ble_eq_true rfl) d_Ma_giveWithTrue_6 rfl (?_)
  refine ww_st (st' := []) rfl ?_
  refine ww_aload_n (pc := 9) g.1 d_Ma_giveWithTrue_9 rfl (lv_at hl 0 rfl) ?_
  refine ww_gR (pc := 10) g (k := 4) cl_Ma (pz rfl (by decide)) (by decide) (Or.inl kw_1002) (f := 16388) (t := 135) rfl rfl rfl d_Ma_giveWithTrue_10 ?_
  refine ww_gI (pc := 13) g (k := 2) (cl_Ro ⟨by decide, rfl⟩) (pz rfl (by decide)) (by decide) (Or.inl kw_1195) (f := 17282) rfl rfl d_Ma_giveWithTrue_13 h fun v13 h => ?_
  refine ww_sipush (pc := 16) g.1 (v := 250) d_Ma_giveWithTrue_16 (by decide) ?_
  refine ww_icmp_le (pc := 19) (tgt := 31) g.1 d_Ma_giveWithTrue_19 (by decide) h (fun c h => ?_) (fun c h => ?_)
  · refine ww_aload_n (pc := 31) g.1 d_Ma_giveWithTrue_31 rfl (lv_at hl 0 rfl) ?_
    refine ww_iconst (pc := 32) g.1 (v := 3) d_Ma_giveWithTrue_32 (by decide) ?_
    refine ww_pI (pc := 33) g (k := 12) cl_Ma (pz rfl (by decide)) (by decide) (Or.inl kw_851) rfl (f := 16396) rfl rfl rfl rfl d_Ma_giveWithTrue_33 h fun s hs h => ?_
    exact ww_vretH (pc := 36) g h hR d_Ma_giveWithTrue_36
  · refine ww_aload_n (pc := 22) g.1 d_Ma_giveWithTrue_22 rfl (lv_at hl 0 rfl) ?_
    refine ww_bipush (pc := 23) g.1 (v := 7) d_Ma_giveWithTrue_23 (by decide) ?_
    obtain ⟨v25, s, hc25, h⟩ := oB_of h
    refine ww_callV (pc := 25) (rest := []) g cv_Ma_fail (Or.inl kw_1196) cl_Ma (pz rfl (by decide)) (ct_Ma_fail hc25) ⟨by decide, by decide⟩ rfl hl.1 (Nat.le_of_ble_eq_true rfl) d_Ma_giveWithTrue_25 rfl (?_)
    refine ww_st (st' := []) rfl ?_
    refine ww_goto (pc := 28) (tgt := 36) g.1 d_Ma_giveWithTrue_28 (by decide) ?_
    exact ww_vretH (pc := 36) g h hR d_Ma_giveWithTrue_36


