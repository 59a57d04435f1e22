abbrev b_St_measure : ByteArray := prog_10_method_19_code
def y_St_measure : MethodName := ⟨R_St, "measure", "()V"⟩
abbrev w_St_measure : List Cond := .code y_St_measure b_St_measure 5 none :: wA
theorem k_St_measure : Cond.code y_St_measure b_St_measure 5 none ∈ wA := kinm (show _ ∈ tables_1 from (List.mem_append_right _ (List.mem_append_right _ (List.mem_append_right _ (List.mem_append_right _ (List.mem_append_right _ (List.mem_append_right _ (List.mem_append_left _ (List.mem_of_getElem? (l := tables_1_7) (i := 137) (by decide +kernel)))))))))) (by decide +kernel)
theorem d_St_measure_0 : decode b_St_measure 0 = .ok (.aload_n 0, 1) := by decide +kernel
theorem d_St_measure_1 : decode b_St_measure 1 = .ok (.aload_n 0, 1) := by decide +kernel
theorem d_St_measure_2 : decode b_St_measure 2 = .ok (.getfield 137, 3) := by decide +kernel
theorem d_St_measure_5 : decode b_St_measure 5 = .ok (.invokevirtual 77, 3) := by decide +kernel
theorem d_St_measure_8 : decode b_St_measure 8 = .ok (.istore_n 1, 1) := by decide +kernel
theorem d_St_measure_9 : decode b_St_measure 9 = .ok (.aload_n 0, 1) := by decide +kernel
theorem d_St_measure_10 : decode b_St_measure 10 = .ok (.aload_n 0, 1) := by decide +kernel
theorem d_St_measure_11 : decode b_St_measure 11 = .ok (.getfield 137, 3) := by decide +kernel
theorem d_St_measure_14 : decode b_St_measure 14 = .ok (.invokevirtual 80, 3) := by decide +kernel
theorem d_St_measure_17 : decode b_St_measure 17 = .ok (.lstore_n 2, 1) := by decide +kernel
theorem d_St_measure_18 : decode b_St_measure 18 = .ok (.aload_n 0, 1) := by decide +kernel
theorem d_St_measure_19 : decode b_St_measure 19 = .ok (.getfield 26, 3) := by decide +kernel
theorem d_St_measure_22 : decode b_St_measure 22 = .ok (.iload_n 1, 1) := by decide +kernel
theorem d_St_measure_23 : decode b_St_measure 23 = .ok (.lload_n 2, 1) := by decide +kernel
theorem d_St_measure_24 : decode b_St_measure 24 = .ok (.bipush 16, 2) := by decide +kernel
theorem d_St_measure_26 : decode b_St_measure 26 = .ok (.invokevirtual 205, 3) := by decide +kernel
theorem d_St_measure_29 : decode b_St_measure 29 = .ok (.istore 4, 2) := by decide +kernel
theorem d_St_measure_31 : decode b_St_measure 31 = .ok (.iload_n 1, 1) := by decide +kernel
theorem d_St_measure_32 : decode b_St_measure 32 = .ok (.iconst 4, 1) := by decide +kernel
theorem d_St_measure_33 : decode b_St_measure 33 = .ok (.if_icmp .ne 30, 3) := by decide +kernel
theorem d_St_measure_36 : decode b_St_measure 36 = .ok (.aload_n 0, 1) := by decide +kernel
theorem d_St_measure_37 : decode b_St_measure 37 = .ok (.aload_n 0, 1) := by decide +kernel
theorem d_St_measure_38 : decode b_St_measure 38 = .ok (.getfield 57, 3) := by decide +kernel
theorem d_St_measure_41 : decode b_St_measure 41 = .ok (.iconst 3, 1) := by decide +kernel
theorem d_St_measure_42 : decode b_St_measure 42 = .ok (.aload_n 0, 1) := by decide +kernel
theorem d_St_measure_43 : decode b_St_measure 43 = .ok (.getfield 21, 3) := by decide +kernel
theorem d_St_measure_46 : decode b_St_measure 46 = .ok (.getfield 163, 3) := by decide +kernel
theorem d_St_measure_49 : decode b_St_measure 49 = .ok (.lload_n 2, 1) := by decide +kernel
theorem d_St_measure_50 : decode b_St_measure 50 = .ok (.l2i, 1) := by decide +kernel
theorem d_St_measure_51 : decode b_St_measure 51 = .ok (.aaload, 1) := by decide +kernel
theorem d_St_measure_52 : decode b_St_measure 52 = .ok (.getfield 270, 3) := by decide +kernel
theorem d_St_measure_55 : decode b_St_measure 55 = .ok (.arraylength, 1) := by decide +kernel
theorem d_St_measure_56 : decode b_St_measure 56 = .ok (.i2l, 1) := by decide +kernel
theorem d_St_measure_57 : decode b_St_measure 57 = .ok (.invokevirtual 176, 3) := by decide +kernel
theorem d_St_measure_60 : decode b_St_measure 60 = .ok (.goto 70, 3) := by decide +kernel
theorem d_St_measure_63 : decode b_St_measure 63 = .ok (.iload_n 1, 1) := by decide +kernel
theorem d_St_measure_64 : decode b_St_measure 64 = .ok (.iconst 5, 1) := by decide +kernel
theorem d_St_measure_65 : decode b_St_measure 65 = .ok (.if_icmp .eq 14, 3) := by decide +kernel
theorem d_St_measure_68 : decode b_St_measure 68 = .ok (.aload_n 0, 1) := by decide +kernel
theorem d_St_measure_69 : decode b_St_measure 69 = .ok (.getfield 9, 3) := by decide +kernel
theorem d_St_measure_72 : decode b_St_measure 72 = .ok (.iconst 2, 1) := by decide +kernel
theorem d_St_measure_73 : decode b_St_measure 73 = .ok (.invokevirtual 193, 3) := by decide +kernel
theorem d_St_measure_76 : decode b_St_measure 76 = .ok (.goto 54, 3) := by decide +kernel
theorem d_St_measure_79 : decode b_St_measure 79 = .ok (.iload 4, 2) := by decide +kernel
theorem d_St_measure_81 : decode b_St_measure 81 = .ok (.ifCond .ge 25, 3) := by decide +kernel
theorem d_St_measure_84 : decode b_St_measure 84 = .ok (.aload_n 0, 1) := by decide +kernel
theorem d_St_measure_85 : decode b_St_measure 85 = .ok (.aload_n 0, 1) := by decide +kernel
theorem d_St_measure_86 : decode b_St_measure 86 = .ok (.getfield 57, 3) := by decide +kernel
theorem d_St_measure_89 : decode b_St_measure 89 = .ok (.iconst 3, 1) := by decide +kernel
theorem d_St_measure_90 : decode b_St_measure 90 = .ok (.aload_n 0, 1) := by decide +kernel
theorem d_St_measure_91 : decode b_St_measure 91 = .ok (.getfield 26, 3) := by decide +kernel
theorem d_St_measure_94 : decode b_St_measure 94 = .ok (.lload_n 2, 1) := by decide +kernel
theorem d_St_measure_95 : decode b_St_measure 95 = .ok (.l2i, 1) := by decide +kernel
theorem d_St_measure_96 : decode b_St_measure 96 = .ok (.invokevirtual 273, 3) := by decide +kernel
theorem d_St_measure_99 : decode b_St_measure 99 = .ok (.i2l, 1) := by decide +kernel
theorem d_St_measure_100 : decode b_St_measure 100 = .ok (.invokevirtual 176, 3) := by decide +kernel
theorem d_St_measure_103 : decode b_St_measure 103 = .ok (.goto 27, 3) := by decide +kernel
theorem d_St_measure_106 : decode b_St_measure 106 = .ok (.aload_n 0, 1) := by decide +kernel
theorem d_St_measure_107 : decode b_St_measure 107 = .ok (.getfield 9, 3) := by decide +kernel
theorem d_St_measure_110 : decode b_St_measure 110 = .ok (.iload 4, 2) := by decide +kernel
theorem d_St_measure_112 : decode b_St_measure 112 = .ok (.iload_n 1, 1) := by decide +kernel
theorem d_St_measure_113 : decode b_St_measure 113 = .ok (.lload_n 2, 1) := by decide +kernel
theorem d_St_measure_114 : decode b_St_measure 114 = .ok (.iconst 0, 1) := by decide +kernel
theorem d_St_measure_115 : decode b_St_measure 115 = .ok (.lconst 0, 1) := by decide +kernel
theorem d_St_measure_116 : decode b_St_measure 116 = .ok (.invokevirtual 209, 3) := by decide +kernel
theorem d_St_measure_119 : decode b_St_measure 119 = .ok (.aload_n 0, 1) := by decide +kernel
theorem d_St_measure_120 : decode b_St_measure 120 = .ok (.getfield 9, 3) := by decide +kernel
theorem d_St_measure_123 : decode b_St_measure 123 = .ok (.getfield 216, 3) := by decide +kernel
theorem d_St_measure_126 : decode b_St_measure 126 = .ok (.iconst 1, 1) := by decide +kernel
theorem d_St_measure_127 : decode b_St_measure 127 = .ok (.putfield 276, 3) := by decide +kernel
theorem d_St_measure_130 : decode b_St_measure 130 = .ok (.return_, 1) := by decide +kernel
theorem kw_1286 : Cond.fieldLink R_St 216 "LuaMachine$Machine" "args" "LLuaMachine$Row;" ∈ wA := kinm (show _ ∈ tables_1 from (List.mem_append_right _ (List.mem_append_left _ (List.mem_of_getElem? (l := tables_1_2) (i := 60) (by decide +kernel))))) (by decide +kernel)
theorem kw_1287 : Cond.methodLink R_St 273 y_Ta_border ∈ wA := kinm (show _ ∈ tables_1 from (List.mem_append_right _ (List.mem_append_right _ (List.mem_append_right _ (List.mem_append_right _ (List.mem_append_right _ (List.mem_append_right _ (List.mem_append_left _ (List.mem_of_getElem? (l := tables_1_7) (i := 138) (by decide +kernel)))))))))) (by decide +kernel)
theorem kw_1288 : Cond.instanceMethod y_St_measure ∈ wA := kinm (show _ ∈ tables_1 from (List.mem_append_right _ (List.mem_append_right _ (List.mem_append_right _ (List.mem_append_right _ (List.mem_append_right _ (List.mem_append_right _ (List.mem_append_left _ (List.mem_of_getElem? (l := tables_1_7) (i := 136) (by decide +kernel)))))))))) (by decide +kernel)
theorem kw_1289 : Cond.selects R_St y_St_measure y_St_measure ∈ wA := kinp 52 (by decide +kernel) (by decide +kernel)
theorem cv_St_measure : CV y_St_measure b_St_measure 5 none 0 := ⟨kw_1288, kw_1289, kw_883, k_St_measure, by decide +kernel⟩
theorem ct_St_measure {l : Launch} {P : PP} {q : PL} {s s' : S1}  {r : Unit} (h : M_St_measure s = some (r, s')) : Ct l y_St_measure b_St_measure 5 none 3 77 P q s [.ref (q.1 129 0)] none q s' := by
  refine ct_of (by decide) (Nat.le_of_ble_eq_true rfl) fun X ls eP el g hR hl => ?_
  subst eP
  have hR : Rt X q ((r, s') : Unit × S1).2 none := hR
  have hl : lv_has ls 5 [(0, .ref (q.1 129 0))] := hl
  generalize (r, s') = o at h hR
  unfold M_St_measure at h
  refine ww_aload_n (pc := 0) g.1 d_St_measure_0 rfl (lv_at hl 0 rfl) ?_
  refine ww_aload_n (pc := 1) g.1 d_St_measure_1 rfl (lv_at hl 0 rfl) ?_
  refine ww_gI (pc := 2) g (k := 10) cl_St (pz rfl (by decide)) (by decide) (Or.inl kw_878) (f := 16522) rfl rfl d_St_measure_2 h fun v2 h => ?_
  obtain ⟨v5, s, hc5, h⟩ := oB_of h
  refine ww_callV (pc := 5) (rest := []) g cv_St_kindOf (Or.inl kw_914) cl_St (pz rfl (by decide)) (ct_St_kindOf hc5) ⟨by decide, by decide⟩ rfl hl.1 (Nat.le_of_ble_eq_true rfl) d_St_measure_5 rfl (?_)
  refine ww_st (st' := [.int v5]) rfl ?_
  refine ww_istore_n (pc := 8) (i := 1) g.1 (lv' := [(1, .int v5), (0, .ref (q.1 129 0))]) d_St_measure_8 rfl hl (by decide) rfl fun ls hl => ?_
  refine ww_aload_n (pc := 9) g.1 d_St_measure_9 rfl (lv_at hl 1 rfl) ?_
  refine ww_aload_n (pc := 10) g.1 d_St_measure_10 rfl (lv_at hl 1 rfl) ?_
  refine ww_gI (pc := 11) g (k := 10) cl_St (pz rfl (by decide)) (by decide) (Or.inl kw_878) (f := 16522) rfl rfl d_St_measure_11 h fun v11 h => ?_
  obtain ⟨v14, s, hc14, h⟩ := oB_of h
  refine ww_callV (pc := 14) (rest := []) g cv_St_valueOf (Or.inl kw_1120) cl_St (pz rfl (by decide)) (ct_St_valueOf hc14) ⟨by decide, by decide⟩ rfl hl.1 (Nat.le_of_ble_eq_true rfl) d_St_measure_14 rfl (?_)
  refine ww_st (st' := [.long v14]) rfl ?_
  refine ww_lstore_n (pc := 17) (i := 2) g.1 (lv' := [(2, .long v14), (1, .int v5), (0, .ref (q.1 129 0))]) d_St_measure_17 rfl hl (by decide) rfl fun ls hl => ?_
  refine ww_aload_n (pc := 18) g.1 d_St_measure_18 rfl (lv_at hl 2 rfl) ?_
  refine ww_gR (pc := 19) g (k := 2) cl_St (pz rfl (by decide)) (by decide) (Or.inl kw_1101) (f := 16514) (t := 120) rfl rfl rfl d_St_measure_19 ?_
  refine ww_iload_n (pc := 22) g.1 d_St_measure_22 rfl (lv_at hl 1 rfl) ?_
  refine ww_lload_n (pc := 23) g.1 d_St_measure_23 rfl (lv_at hl 0 rfl) ?_
  refine ww_bipush (pc := 24) g.1 (v := 16) d_St_measure_24 (by decide) ?_
  obtain ⟨v26, s, hc26, h⟩ := oB_of h
  refine ww_callV (pc := 26) (rest := []) g cv_Ta_findEvent (Or.inl kw_1103) cl_Ta (pz rfl (by decide)) (ct_Ta_findEvent hc26) ⟨by decide, by decide⟩ rfl hl.1 (Nat.le_of_ble_eq_true rfl) d_St_measure_26 rfl (?_)
  refine ww_st (st' := [.int v26]) rfl ?_
  refine ww_istore (pc := 29) (i := 4) g.1 (lv' := [(4, .int v26), (2, .long v14), (1, .int v5), (0, .ref (q.1 129 0))]) d_St_measure_29 hl (by decide) rfl fun ls hl => ?_
  refine ww_iload_n (pc := 31) g.1 d_St_measure_31 rfl (lv_at hl 2 rfl) ?_
  refine ww_iconst (pc := 32) g.1 (v := 4) d_St_measure_32 (by decide) ?_
  refine ww_icmp_ne (pc := 33) (tgt := 63) g.1 d_St_measure_33 (by decide) h (fun c h => ?_) (fun c h => ?_)
  · refine ww_iload_n (pc := 63) g.1 d_St_measure_63 rfl (lv_at hl 2 rfl) ?_
    refine ww_iconst (pc := 64) g.1 (v := 5) d_St_measure_64 (by decide) ?_
    refine ww_icmp_eq (pc := 65) (tgt := 79) g.1 d_St_measure_65 (by decide) h (fun c h => ?_) (fun c h => ?_)
    · refine ww_iload (pc := 79) g.1 d_St_measure_79 (lv_at hl 0 rfl) ?_
      refine ww_if_ge (pc := 81) (tgt := 106) g.1 d_St_measure_81 (by decide) h (fun c h => ?_) (fun c h => ?_)
      · refine ww_aload_n (pc := 106) g.1 d_St_measure_106 rfl (lv_at hl 3 rfl) ?_
        refine ww_gR (pc := 107) g (k := 0) cl_St (pz rfl (by decide)) (by decide) (Or.inl kw_863) (f := 16512) (t := 128) rfl rfl rfl d_St_measure_107 ?_
        refine ww_iload (pc := 110) g.1 d_St_measure_110 (lv_at hl 0 rfl) ?_
        refine ww_iload_n (pc := 112) g.1 d_St_measure_112 rfl (lv_at hl 2 rfl) ?_
        refine ww_lload_n (pc := 113) g.1 d_St_measure_113 rfl (lv_at hl 1 rfl) ?_
        refine ww_iconst (pc := 114) g.1 (v := 0) d_St_measure_114 (by decide) ?_
        refine ww_lconst (pc := 115) g.1 (v := 0) d_St_measure_115 (by decide) ?_
        obtain ⟨v116, s, hc116, h⟩ := oB_of h
        refine ww_callV (pc := 116) (rest := []) g cv_Ma_callEntry (Or.inl kw_1107) cl_Ma (pz rfl (by decide)) (ct_Ma_callEntry hc116) ⟨by decide, by decide⟩ rfl hl.1 (Nat.le_of_ble_eq_true rfl) d_St_measure_116 rfl (?_)
        refine ww_st (st' := []) rfl ?_
        refine ww_aload_n (pc := 119) g.1 d_St_measure_119 rfl (lv_at hl 3 rfl) ?_
        refine ww_gR (pc := 120) g (k := 0) cl_St (pz rfl (by decide)) (by decide) (Or.inl kw_863) (f := 16512) (t := 128) rfl rfl rfl d_St_measure_120 ?_
        refine ww_gR (pc := 123) g (k := 3) cl_Ma (pz rfl (by decide)) (by decide) (Or.inl kw_1286) (f := 16387) (t := 132) rfl rfl rfl d_St_measure_123 ?_
        refine ww_iconst (pc := 126) g.1 (v := 1) d_St_measure_126 (by decide) ?_
        refine ww_pI (pc := 127) g (k := 2) (cl_Ro ⟨by decide, rfl⟩) (pz rfl (by decide)) (by decide) (Or.inl kw_1131) rfl (f := 16898) rfl rfl rfl rfl d_St_measure_127 h fun s hs h => ?_
        exact ww_vretH (pc := 130) g h hR d_St_measure_130
      · refine ww_aload_n (pc := 84) g.1 d_St_measure_84 rfl (lv_at hl 3 rfl) ?_
        refine ww_aload_n (pc := 85) g.1 d_St_measure_85 rfl (lv_at hl 3 rfl) ?_
        refine ww_gI (pc := 86) g (k := 9) cl_St (pz rfl (by decide)) (by decide) (Or.inl kw_877) (f := 16521) rfl rfl d_St_measure_86 h fun v86 h => ?_
        refine ww_iconst (pc := 89) g.1 (v := 3) d_St_measure_89 (by decide) ?_
        refine ww_aload_n (pc := 90) g.1 d_St_measure_90 rfl (lv_at hl 3 rfl) ?_
        refine ww_gR (pc := 91) g (k := 2) cl_St (pz rfl (by decide)) (by decide) (Or.inl kw_1101) (f := 16514) (t := 120) rfl rfl rfl d_St_measure_91 ?_
        refine ww_lload_n (pc := 94) g.1 d_St_measure_94 rfl (lv_at hl 1 rfl) ?_
        refine ww_l2i (pc := 95) g.1 (v := v14.toInt32) d_St_measure_95 rfl ?_
        obtain ⟨v96, s, hc96, h⟩ := oB_of h
        refine ww_callV (pc := 96) (rest := [.int 3, .int v86, .ref (q.1 129 0)]) g cv_Ta_border (Or.inl kw_1287) cl_Ta (pz rfl (by decide)) (ct_Ta_border hc96) ⟨by decide, by decide⟩ rfl hl.1 (Nat.le_of_ble_eq_true rfl) d_St_measure_96 rfl (?_)
        refine ww_st (st' := [.int v96, .int 3, .int v86, .ref (q.1 129 0)]) rfl ?_
        refine ww_i2l (pc := 99) g.1 (v := v96.toInt64) d_St_measure_99 rfl ?_
        obtain ⟨v100, s, hc100, h⟩ := oB_of h
        refine ww_callV (pc := 100) (rest := []) g cv_St_set (Or.inl kw_928) cl_St (pz rfl (by decide)) (ct_St_set hc100) ⟨by decide, by decide⟩ rfl hl.1 (Nat.le_of_ble_eq_true rfl) d_St_measure_100 rfl (?_)
        refine ww_st (st' := []) rfl ?_
        refine ww_goto (pc := 103) (tgt := 130) g.1 d_St_measure_103 (by decide) ?_
        exact ww_vretH (pc := 130) g h hR d_St_measure_130
    · refine ww_aload_n (pc := 68) g.1 d_St_measure_68 rfl (lv_at hl 3 rfl) ?_
      refine ww_gR (pc := 69) g (k := 0) cl_St (pz rfl (by decide)) (by decide) (Or.inl kw_863) (f := 16512) (t := 128) rfl rfl rfl d_St_measure_69 ?_
      refine ww_iconst (pc := 72) g.1 (v := 2) d_St_measure_72 (by decide) ?_
      obtain ⟨v73, s, hc73, h⟩ := oB_of h
      refine ww_callV (pc := 73) (rest := []) g cv_Ma_fail (Or.inl kw_1106) cl_Ma (pz rfl (by decide)) (ct_Ma_fail hc73) ⟨by decide, by decide⟩ rfl hl.1 (Nat.le_of_ble_eq_true rfl) d_St_measure_73 rfl (?_)
      refine ww_st (st' := []) rfl ?_
      refine ww_goto (pc := 76) (tgt := 130) g.1 d_St_measure_76 (by decide) ?_
      exact ww_vretH (pc := 130) g h hR d_St_measure_130
  · refine ww_aload_n (pc := 36) g.1 d_St_measure_36 rfl (lv_at hl 3 rfl) ?_
    refine ww_aload_n (pc := 37) g.1 d_St_measure_37 rfl (lv_at hl 3 rfl) ?_
    refine ww_gI (pc := 38) g (k := 9) cl_St (pz rfl (by decide)) (by decide) (Or.inl kw_877) (f := 16521) rfl rfl d_St_measure_38 h fun v38 h => ?_
    refine ww_iconst (pc := 41) g.1 (v := 3) d_St_measure_41 (by decide) ?_
    refine ww_aload_n (pc := 42) g.1 d_St_measure_42 rfl (lv_at hl 3 rfl) ?_
    refine ww_gR (pc := 43) g (k := 1) cl_St (pz rfl (by decide)) (by decide) (Or.inl kw_884) (f := 16513) (t := 111) rfl rfl rfl d_St_measure_43 ?_
    refine ww_gR (pc := 46) g (k := 0) cl_He (pz rfl (by decide)) (by decide) (Or.inl kw_885) (f := 14208) (t := 112) rfl rfl rfl d_St_measure_46 ?_
    refine ww_lload_n (pc := 49) g.1 d_St_measure_49 rfl (lv_at hl 1 rfl) ?_
    refine ww_l2i (pc := 50) g.1 (v := v14.toInt32) d_St_measure_50 rfl ?_
    refine ww_a8 (pc := 51) g (t := 145) (n := 4000) (pz rfl (by decide)) rfl rfl rfl rfl d_St_measure_51 h fun pa51 h => ?_
    refine ww_g5 (pc := 52) g (k := 9) cl_Tg pa51 (by decide) (Or.inl kw_1125) (f := 18569) (t := 146) (f2 := 18815) rfl rfl rfl rfl d_St_measure_52 h fun v52 hv52 h => ?_
    refine ww_ok h fun cv52 h => ?_
    refine ww_dn cv52 ?_
    have pd52 : prs s 146 v14.toInt32 := pdn (hv52 ▸ cv52) pa51.2.1 pa51.2.2
    refine ww_ln pd52 h fun n55 hmn55 hnn55 h => ?_
    refine ww_alen (pc := 55) g (n := n55) pd52 (by decide) hmn55 d_St_measure_55 ?_
    refine ww_i2l (pc := 56) g.1 (v := n55.toInt64) d_St_measure_56 rfl ?_
    obtain ⟨v57, s, hc57, h⟩ := oB_of h
    refine ww_callV (pc := 57) (rest := []) g cv_St_set (Or.inl kw_928) cl_St (pz rfl (by decide)) (ct_St_set hc57) ⟨by decide, by decide⟩ rfl hl.1 (Nat.le_of_ble_eq_true rfl) d_St_measure_57 rfl (?_)
    refine ww_st (st' := []) rfl ?_
    refine ww_goto (pc := 60) (tgt := 130) g.1 d_St_measure_60 (by decide) ?_
    exact ww_vretH (pc := 130) g h hR d_St_measure_130

abbrev b_St_branch : ByteArray := prog_10_method_25_code
def y_St_branch : MethodName := ⟨R_St, "branch", "()V"⟩
abbrev w_St_branch : List Cond := .code y_St_branch b_St_branch 1 none :: wA
set_option maxRecDepth 20000 in
theorem k_St_branch : Cond.code y_St_branch b_St_branch 1 none ∈ wA := kinm (show _ ∈ tables_1 from (List.mem_append_right _ (List.mem_append_right _ (List.mem_append_right _ (List.mem_append_right _ (List.mem_append_right _ (List.mem_append_right _ (List.mem_append_left _ (List.mem_of_getElem? (l := tables_1_7) (i := 146) rfl))))))))) rfl
theorem d_St_branch_0 : decode b_St_branch 0 = .ok (.aload_n 0, 1) := by decide +kernel
theorem d_St_branch_1 : decode b_St_branch 1 = .ok (.getfield 54, 3) := by decide +kernel
theorem d_St_branch_4 : decode b_St_branch 4 = .ok (.tableswitch 193 30 35 #[40, 76, 193, 193, 83, 126], 40) := by decide +kernel
theorem d_St_branch_44 : decode b_St_branch 44 = .ok (.aload_n 0, 1) := by decide +kernel
theorem d_St_branch_45 : decode b_St_branch 45 = .ok (.getfield 57, 3) := by decide +kernel
theorem d_St_branch_48 : decode b_St_branch 48 = .ok (.ifCond .eq 25, 3) := by decide +kernel
theorem d_St_branch_51 : decode b_St_branch 51 = .ok (.aload_n 0, 1) := by decide +kernel
theorem d_St_branch_52 : decode b_St_branch 52 = .ok (.getfield 21, 3) := by decide +kernel
theorem d_St_branch_55 : decode b_St_branch 55 = .ok (.aload_n 0, 1) := by decide +kernel
theorem d_St_branch_56 : decode b_St_branch 56 = .ok (.getfield 110, 3) := by decide +kernel
theorem d_St_branch_59 : decode b_St_branch 59 = .ok (.aload_n 0, 1) := by decide +kernel
theorem d_St_branch_60 : decode b_St_branch 60 = .ok (.getfield 125, 3) := by decide +kernel
theorem d_St_branch_63 : decode b_St_branch 63 = .ok (.aload_n 0, 1) := by decide +kernel
theorem d_St_branch_64 : decode b_St_branch 64 = .ok (.getfield 57, 3) := by decide +kernel
theorem d_St_branch_67 : decode b_St_branch 67 = .ok (.iadd, 1) := by decide +kernel
theorem d_St_branch_68 : decode b_St_branch 68 = .ok (.iconst 1, 1) := by decide +kernel
theorem d_St_branch_69 : decode b_St_branch 69 = .ok (.isub, 1) := by decide +kernel
theorem d_St_branch_70 : decode b_St_branch 70 = .ok (.invokevirtual 310, 3) := by decide +kernel
theorem d_St_branch_73 : decode b_St_branch 73 = .ok (.aload_n 0, 1) := by decide +kernel
theorem d_St_branch_74 : decode b_St_branch 74 = .ok (.invokevirtual 314, 3) := by decide +kernel
theorem d_St_branch_77 : decode b_St_branch 77 = .ok (.goto 124, 3) := by decide +kernel
theorem d_St_branch_80 : decode b_St_branch 80 = .ok (.aload_n 0, 1) := by decide +kernel
theorem d_St_branch_81 : decode b_St_branch 81 = .ok (.invokevirtual 317, 3) := by decide +kernel
theorem d_St_branch_84 : decode b_St_branch 84 = .ok (.goto 117, 3) := by decide +kernel
theorem d_St_branch_87 : decode b_St_branch 87 = .ok (.aload_n 0, 1) := by decide +kernel
theorem d_St_branch_88 : decode b_St_branch 88 = .ok (.getfield 113, 3) := by decide +kernel
theorem d_St_branch_91 : decode b_St_branch 91 = .ok (.dup, 1) := by decide +kernel
theorem d_St_branch_92 : decode b_St_branch 92 = .ok (.getfield 46, 3) := by decide +kernel
theorem d_St_branch_95 : decode b_St_branch 95 = .ok (.aload_n 0, 1) := by decide +kernel
theorem d_St_branch_96 : decode b_St_branch 96 = .ok (.aload_n 0, 1) := by decide +kernel
theorem d_St_branch_97 : decode b_St_branch 97 = .ok (.getfield 57, 3) := by decide +kernel
theorem d_St_branch_100 : decode b_St_branch 100 = .ok (.invokevirtual 248, 3) := by decide +kernel
theorem d_St_branch_103 : decode b_St_branch 103 = .ok (.aload_n 0, 1) := by decide +kernel
theorem d_St_branch_104 : decode b_St_branch 104 = .ok (.getfield 140, 3) := by decide +kernel
theorem d_St_branch_107 : decode b_St_branch 107 = .ok (.ifCond .ne 7, 3) := by decide +kernel
theorem d_St_branch_110 : decode b_St_branch 110 = .ok (.iconst 1, 1) := by decide +kernel
theorem d_St_branch_111 : decode b_St_branch 111 = .ok (.goto 4, 3) := by decide +kernel
theorem d_St_branch_114 : decode b_St_branch 114 = .ok (.iconst 0, 1) := by decide +kernel
theorem d_St_branch_115 : decode b_St_branch 115 = .ok (.if_icmp .ne 7, 3) := by decide +kernel
theorem d_St_branch_118 : decode b_St_branch 118 = .ok (.iconst 1, 1) := by decide +kernel
theorem d_St_branch_119 : decode b_St_branch 119 = .ok (.goto 4, 3) := by decide +kernel
theorem d_St_branch_122 : decode b_St_branch 122 = .ok (.iconst 0, 1) := by decide +kernel
theorem d_St_branch_123 : decode b_St_branch 123 = .ok (.iadd, 1) := by decide +kernel
theorem d_St_branch_124 : decode b_St_branch 124 = .ok (.putfield 46, 3) := by decide +kernel
theorem d_St_branch_127 : decode b_St_branch 127 = .ok (.goto 74, 3) := by decide +kernel
theorem d_St_branch_130 : decode b_St_branch 130 = .ok (.aload_n 0, 1) := by decide +kernel
theorem d_St_branch_131 : decode b_St_branch 131 = .ok (.aload_n 0, 1) := by decide +kernel
theorem d_St_branch_132 : decode b_St_branch 132 = .ok (.getfield 137, 3) := by decide +kernel
theorem d_St_branch_135 : decode b_St_branch 135 = .ok (.invokevirtual 248, 3) := by decide +kernel
theorem d_St_branch_138 : decode b_St_branch 138 = .ok (.aload_n 0, 1) := by decide +kernel
theorem d_St_branch_139 : decode b_St_branch 139 = .ok (.getfield 140, 3) := by decide +kernel
theorem d_St_branch_142 : decode b_St_branch 142 = .ok (.iconst 1, 1) := by decide +kernel
theorem d_St_branch_143 : decode b_St_branch 143 = .ok (.if_icmp .ne 7, 3) := by decide +kernel
theorem d_St_branch_146 : decode b_St_branch 146 = .ok (.iconst 1, 1) := by decide +kernel
theorem d_St_branch_147 : decode b_St_branch 147 = .ok (.goto 4, 3) := by decide +kernel
theorem d_St_branch_150 : decode b_St_branch 150 = .ok (.iconst 0, 1) := by decide +kernel
theorem d_St_branch_151 : decode b_St_branch 151 = .ok (.if_icmp .ne 30, 3) := by decide +kernel
theorem d_St_branch_154 : decode b_St_branch 154 = .ok (.aload_n 0, 1) := by decide +kernel
theorem d_St_branch_155 : decode b_St_branch 155 = .ok (.aload_n 0, 1) := by decide +kernel
theorem d_St_branch_156 : decode b_St_branch 156 = .ok (.getfield 57, 3) := by decide +kernel
theorem d_St_branch_159 : decode b_St_branch 159 = .ok (.aload_n 0, 1) := by decide +kernel
theorem d_St_branch_160 : decode b_St_branch 160 = .ok (.aload_n 0, 1) := by decide +kernel
theorem d_St_branch_161 : decode b_St_branch 161 = .ok (.getfield 137, 3) := by decide +kernel
theorem d_St_branch_164 : decode b_St_branch 164 = .ok (.invokevirtual 77, 3) := by decide +kernel
theorem d_St_branch_167 : decode b_St_branch 167 = .ok (.aload_n 0, 1) := by decide +kernel
theorem d_St_branch_168 : decode b_St_branch 168 = .ok (.aload_n 0, 1) := by decide +kernel
theorem d_St_branch_169 : decode b_St_branch 169 = .ok (.getfield 137, 3) := by decide +kernel
theorem d_St_branch_172 : decode b_St_branch 172 = .ok (.invokevirtual 80, 3) := by decide +kernel
theorem d_St_branch_175 : decode b_St_branch 175 = .ok (.invokevirtual 176, 3) := by decide +kernel
theorem d_St_branch_178 : decode b_St_branch 178 = .ok (.goto 23, 3) := by decide +kernel
theorem d_St_branch_181 : decode b_St_branch 181 = .ok (.aload_n 0, 1) := by decide +kernel
theorem d_St_branch_182 : decode b_St_branch 182 = .ok (.getfield 113, 3) := by decide +kernel
theorem d_St_branch_185 : decode b_St_branch 185 = .ok (.dup, 1) := by decide +kernel
theorem d_St_branch_186 : decode b_St_branch 186 = .ok (.getfield 46, 3) := by decide +kernel
theorem d_St_branch_189 : decode b_St_branch 189 = .ok (.iconst 1, 1) := by decide +kernel
theorem d_St_branch_190 : decode b_St_branch 190 = .ok (.iadd, 1) := by decide +kernel
theorem d_St_branch_191 : decode b_St_branch 191 = .ok (.putfield 46, 3) := by decide +kernel
theorem d_St_branch_194 : decode b_St_branch 194 = .ok (.goto 7, 3) := by decide +kernel
theorem d_St_branch_197 : decode b_St_branch 197 = .ok (.aload_n 0, 1) := by decide +kernel
theorem d_St_branch_198 : decode b_St_branch 198 = .ok (.invokevirtual 320, 3) := by decide +kernel
theorem d_St_branch_201 : decode b_St_branch 201 = .ok (.return_, 1) := by decide +kernel
theorem kw_1290 : Cond.methodLink R_St 314 y_St_jump ∈ wA := kinm (show _ ∈ tables_1 from (List.mem_append_right _ (List.mem_append_right _ (List.mem_append_right _ (List.mem_append_right _ (List.mem_append_right _ (List.mem_append_right _ (List.mem_append_left _ (List.mem_of_getElem? (l := tables_1_7) (i := 148) (by decide +kernel)))))))))) (by decide +kernel)
theorem kw_1291 : Cond.methodLink R_St 310 y_He_closeFrom ∈ wA := kinm (show _ ∈ tables_1 from (List.mem_append_right _ (List.mem_append_right _ (List.mem_append_right _ (List.mem_append_right _ (List.mem_append_right _ (List.mem_append_right _ (List.mem_append_left _ (List.mem_of_getElem? (l := tables_1_7) (i := 147) (by decide +kernel)))))))))) (by decide +kernel)
theorem kw_1292 : Cond.methodLink R_St 317 y_St_equal ∈ wA := kinm (show _ ∈ tables_1 from (List.mem_append_right _ (List.mem_append_right _ (List.mem_append_right _ (List.mem_append_right _ (List.mem_append_right _ (List.mem_append_right _ (List.mem_append_left _ (List.mem_of_getElem? (l := tables_1_7) (i := 153) (by decide +kernel)))))))))) (by decide +kernel)
theorem kw_1293 : Cond.methodLink R_St 248 y_St_isTrue ∈ wA := kinm (show _ ∈ tables_1 from (List.mem_append_right _ (List.mem_append_right _ (List.mem_append_right _ (List.mem_append_right _ (List.mem_append_right _ (List.mem_append_right _ (List.mem_append_left _ (List.mem_of_getElem? (l := tables_1_7) (i := 130) (by decide +kernel)))))))))) (by decide +kernel)
theorem kw_1294 : Cond.methodLink R_St 320 y_St_order ∈ wA := kinm (show _ ∈ tables_1 from (List.mem_append_right _ (List.mem_append_right _ (List.mem_append_right _ (List.mem_append_right _ (List.mem_append_right _ (List.mem_append_right _ (List.mem_append_left _ (List.mem_of_getElem? (l := tables_1_7) (i := 161) (by decide +kernel)))))))))) (by decide +kernel)
theorem kw_1295 : Cond.instanceMethod y_St_branch ∈ wA := kinm (show _ ∈ tables_1 from (List.mem_append_right _ (List.mem_append_right _ (List.mem_append_right _ (List.mem_append_right _ (List.mem_append_right _ (List.mem_append_right _ (List.mem_append_left _ (List.mem_of_getElem? (l := tables_1_7) (i := 145) (by decide +kernel)))))))))) (by decide +kernel)
theorem kw_1296 : Cond.selects R_St y_St_branch y_St_branch ∈ wA := kinp 53 (by decide +kernel) (by decide +kernel)
theorem cv_St_branch : CV y_St_branch b_St_branch 1 none 0 := ⟨kw_1295, kw_1296, kw_883, k_St_branch, by decide +kernel⟩
theorem j_St_branch_j73 {X : Cx} {q : PL} (g : Gd X y_St_branch b_St_branch 1 none 5 132 R_St) {o : (Unit) × S1} (hR : Rt X q o.2 none)  (s : S1) (ls : Array Slot) (hl : lv_has ls 1 [(0, .ref (q.1 129 0))]) (h : M_St_branch_j73 s = some o) : WW X q s 73 ls [] := by
  unfold M_St_branch_j73 at h
  refine ww_aload_n (pc := 73) g.1 d_St_branch_73 rfl (lv_at hl 0 rfl) ?_
  obtain ⟨v74, s, hc74, h⟩ := oB_of h
  refine ww_callV (pc := 74) (rest := []) g cv_St_jump (Or.inl kw_1290) cl_St (pz rfl (by decide)) (ct_St_jump hc74) ⟨by decide, by decide⟩ rfl hl.1 (Nat.le_of_ble_eq_true rfl) d_St_branch_74 rfl (?_)
  refine ww_st (st' := []) rfl ?_
  refine ww_goto (pc := 77) (tgt := 201) g.1 d_St_branch_77 (by decide) ?_
  exact ww_vretH (pc := 201) g h hR d_St_branch_201

theorem j_St_branch_j123 {X : Cx} {q : PL} (g : Gd X y_St_branch b_St_branch 1 none 5 132 R_St) {o : (Unit) × S1} (hR : Rt X q o.2 none) (k0 : Int32) (k1 : Int32) (k2 : Int32) (s : S1) (hp0 : prs s 152 k2) (ls : Array Slot) (hl : lv_has ls 1 []) (h : M_St_branch_j123 k0 k1 k2 s = some o) : WW X q s 123 ls [.int k0, .int k1, .ref (q.1 152 k2)] := by
  unfold M_St_branch_j123 at h
  refine ww_iadd (pc := 123) g.1 d_St_branch_123 ?_
  refine ww_pI (pc := 124) g (k := 5) cl_Fm hp0 (by decide) (Or.inl kw_875) rfl (f := 19461) rfl rfl rfl rfl d_St_branch_124 h fun s hs h => ?_
  refine ww_goto (pc := 127) (tgt := 201) g.1 d_St_branch_127 (by decide) ?_
  exact ww_vretH (pc := 201) g h hR d_St_branch_201

theorem j_St_branch_j115 {X : Cx} {q : PL} (g : Gd X y_St_branch b_St_branch 1 none 5 132 R_St) {o : (Unit) × S1} (hR : Rt X q o.2 none) (k0 : Int32) (k1 : Int32) (k2 : Int32) (k3 : Int32) (s : S1) (hp0 : prs s 152 k3) (ls : Array Slot) (hl : lv_has ls 1 []) (h : M_St_branch_j115 k0 k1 k2 k3 s = some o) : WW X q s 115 ls [.int k0, .int k1, .int k2, .ref (q.1 152 k3)] := by
  unfold M_St_branch_j115 at h
  refine ww_icmp_ne (pc := 115) (tgt := 122) g.1 d_St_branch_115 (by decide) h (fun c h => ?_) (fun c h => ?_)
  · refine ww_iconst (pc := 122) g.1 (v := 0) d_St_branch_122 (by decide) ?_
    exact j_St_branch_j123 g hR 0 k2 k3 s hp0 ls (lv_sub hl [] rfl) h
  · refine ww_iconst (pc := 118) g.1 (v := 1) d_St_branch_118 (by decide) ?_
    refine ww_goto (pc := 119) (tgt := 123) g.1 d_St_branch_119 (by decide) ?_
    exact j_St_branch_j123 g hR 1 k2 k3 s hp0 ls (lv_sub hl [] rfl) h

theorem j_St_branch_j151 {X : Cx} {q : PL} (g : Gd X y_St_branch b_St_branch 1 none 5 132 R_St) {o : (Unit) × S1} (hR : Rt X q o.2 none) (k0 : Int32) (k1 : Int32) (s : S1) (ls : Array Slot) (hl : lv_has ls 1 [(0, .ref (q.1 129 0))]) (h : M_St_branch_j151 k0 k1 s = some o) : WW X q s 151 ls [.int k0, .int k1] := by
  unfold M_St_branch_j151 at h
  refine ww_icmp_ne (pc := 151) (tgt := 181) g.1 d_St_branch_151 (by decide) h (fun c h => ?_) (fun c h => ?_)
  · refine ww_aload_n (pc := 181) g.1 d_St_branch_181 rfl (lv_at hl 0 rfl) ?_
    refine ww_gV (pc := 182) g (k := 5) cl_St (pz rfl (by decide)) (by decide) (Or.inl kw_867) (f := 16517) (t := 152) rfl rfl rfl d_St_branch_182 h fun v182 h => ?_
    refine ww_pr h fun pn182 h => ?_
    refine ww_nnP pn182 ?_
    refine ww_dup (pc := 185) g.1 d_St_branch_185 rfl ?_
    refine ww_gI (pc := 186) g (k := 5) cl_Fm pn182 (by decide) (Or.inl kw_875) (f := 19461) rfl rfl d_St_branch_186 h fun v186 h => ?_
    refine ww_iconst (pc := 189) g.1 (v := 1) d_St_branch_189 (by decide) ?_
    refine ww_iadd (pc := 190) g.1 d_St_branch_190 ?_
    refine ww_pI (pc := 191) g (k := 5) cl_Fm pn182 (by decide) (Or.inl kw_875) rfl (f := 19461) rfl rfl rfl rfl d_St_branch_191 h fun s hs h => ?_
    refine ww_goto (pc := 194) (tgt := 201) g.1 d_St_branch_194 (by decide) ?_
    exact ww_vretH (pc := 201) g h hR d_St_branch_201
  · refine ww_aload_n (pc := 154) g.1 d_St_branch_154 rfl (lv_at hl 0 rfl) ?_
    refine ww_aload_n (pc := 155) g.1 d_St_branch_155 rfl (lv_at hl 0 rfl) ?_
    refine ww_gI (pc := 156) g (k := 9) cl_St (pz rfl (by decide)) (by decide) (Or.inl kw_877) (f := 16521) rfl rfl d_St_branch_156 h fun v156 h => ?_
    refine ww_aload_n (pc := 159) g.1 d_St_branch_159 rfl (lv_at hl 0 rfl) ?_
    refine ww_aload_n (pc := 160) g.1 d_St_branch_160 rfl (lv_at hl 0 rfl) ?_
    refine ww_gI (pc := 161) g (k := 10) cl_St (pz rfl (by decide)) (by decide) (Or.inl kw_878) (f := 16522) rfl rfl d_St_branch_161 h fun v161 h => ?_
    obtain ⟨v164, s, hc164, h⟩ := oB_of h
    refine ww_callV (pc := 164) (rest := [.int v156, .ref (q.1 129 0)]) g cv_St_kindOf (Or.inl kw_914) cl_St (pz rfl (by decide)) (ct_St_kindOf hc164) ⟨by decide, by decide⟩ rfl hl.1 (Nat.le_of_ble_eq_true rfl) d_St_branch_164 rfl (?_)
    refine ww_st (st' := [.int v164, .int v156, .ref (q.1 129 0)]) rfl ?_
    refine ww_aload_n (pc := 167) g.1 d_St_branch_167 rfl (lv_at hl 0 rfl) ?_
    refine ww_aload_n (pc := 168) g.1 d_St_branch_168 rfl (lv_at hl 0 rfl) ?_
    refine ww_gI (pc := 169) g (k := 10) cl_St (pz rfl (by decide)) (by decide) (Or.inl kw_878) (f := 16522) rfl rfl d_St_branch_169 h fun v169 h => ?_
    obtain ⟨v172, s, hc172, h⟩ := oB_of h
    refine ww_callV (pc := 172) (rest := [.int v164, .int v156, .ref (q.1 129 0)]) g cv_St_valueOf (Or.inl kw_1120) cl_St (pz rfl (by decide)) (ct_St_valueOf hc172) ⟨by decide, by decide⟩ rfl hl.1 (Nat.le_of_ble_eq_true rfl) d_St_branch_172 rfl (?_)
    refine ww_st (st' := [.long v172, .int v164, .int v156, .ref (q.1 129 0)]) rfl ?_
    obtain ⟨v175, s, hc175, h⟩ := oB_of h
    refine ww_callV (pc := 175) (rest := []) g cv_St_set (Or.inl kw_928) cl_St (pz rfl (by decide)) (ct_St_set hc175) ⟨by decide, by decide⟩ rfl hl.1 (Nat.le_of_ble_eq_true rfl) d_St_branch_175 rfl (?_)
    refine ww_st (st' := []) rfl ?_
    refine ww_goto (pc := 178) (tgt := 201) g.1 d_St_branch_178 (by decide) ?_
    exact ww_vretH (pc := 201) g h hR d_St_branch_201

theorem ct_St_branch {l : Launch} {P : PP} {q : PL} {s s' : S1}  {r : Unit} (h : M_St_branch s = some (r, s')) : Ct l y_St_branch b_St_branch 1 none 5 132 P q s [.ref (q.1 129 0)] none q s' := by
  refine ct_of (by decide) (Nat.le_of_ble_eq_true rfl) fun X ls eP el g hR hl => ?_
  subst eP
  have hR : Rt X q ((r, s') : Unit × S1).2 none := hR
  have hl : lv_has ls 1 [(0, .ref (q.1 129 0))] := hl
  generalize (r, s') = o at h hR
  unfold M_St_branch at h
  refine ww_aload_n (pc := 0) g.1 d_St_branch_0 rfl (lv_at hl 0 rfl) ?_
  refine ww_gI (pc := 1) g (k := 8) cl_St (pz rfl (by decide)) (by decide) (Or.inl kw_876) (f := 16520) rfl rfl d_St_branch_1 h fun v1 h => ?_
  by_cases c4_44 : v1 = 30
  · have h := oC_pos c4_44 h
    have c := c4_44
    refine ww_tableIn (pc := 4) (tgt := 44) g.1 d_St_branch_4 (by rw [c]; decide) (by rw [c]; decide) (by rw [c] <;> rfl) (by decide) ?_
    refine ww_aload_n (pc := 44) g.1 d_St_branch_44 rfl (lv_at hl 0 rfl) ?_
    refine ww_gI (pc := 45) g (k := 9) cl_St (pz rfl (by decide)) (by decide) (Or.inl kw_877) (f := 16521) rfl rfl d_St_branch_45 h fun v45 h => ?_
    refine ww_if_eq (pc := 48) (tgt := 73) g.1 d_St_branch_48 (by decide) h (fun c h => ?_) (fun c h => ?_)
    · exact j_St_branch_j73 g hR s ls (lv_sub hl [0] rfl) h
    · refine ww_aload_n (pc := 51) g.1 d_St_branch_51 rfl (lv_at hl 0 rfl) ?_
      refine ww_gR (pc := 52) g (k := 1) cl_St (pz rfl (by decide)) (by decide) (Or.inl kw_884) (f := 16513) (t := 111) rfl rfl rfl d_St_branch_52 ?_
      refine ww_aload_n (pc := 55) g.1 d_St_branch_55 rfl (lv_at hl 0 rfl) ?_
      refine ww_gV (pc := 56) g (k := 4) cl_St (pz rfl (by decide)) (by decide) (Or.inl kw_865) (f := 16516) (t := 148) rfl rfl rfl d_St_branch_56 h fun v56 h => ?_
      refine ww_pr h fun pn56 h => ?_
      refine ww_nnP pn56 ?_
      refine ww_aload_n (pc := 59) g.1 d_St_branch_59 rfl (lv_at hl 0 rfl) ?_
      refine ww_gI (pc := 60) g (k := 7) cl_St (pz rfl (by decide)) (by decide) (Or.inl kw_871) (f := 16519) rfl rfl d_St_branch_60 h fun v60 h => ?_
      refine ww_aload_n (pc := 63) g.1 d_St_branch_63 rfl (lv_at hl 0 rfl) ?_
      refine ww_gI (pc := 64) g (k := 9) cl_St (pz rfl (by decide)) (by decide) (Or.inl kw_877) (f := 16521) rfl rfl d_St_branch_64 h fun v64 h => ?_
      refine ww_iadd (pc := 67) g.1 d_St_branch_67 ?_
      refine ww_iconst (pc := 68) g.1 (v := 1) d_St_branch_68 (by decide) ?_
      refine ww_isub (pc := 69) g.1 d_St_branch_69 ?_
      obtain ⟨v70, s, hc70, h⟩ := oB_of h
      refine ww_callV (pc := 70) (rest := []) g cv_He_closeFrom (Or.inl kw_1291) cl_He (pz rfl (by decide)) (ct_He_closeFrom pn56 hc70) ⟨by decide, by decide⟩ rfl hl.1 (Nat.le_of_ble_eq_true rfl) d_St_branch_70 rfl (?_)
      refine ww_st (st' := []) rfl ?_
      exact j_St_branch_j73 g hR s ls (lv_sub hl [0] rfl) h
  have h := oC_neg c4_44 h
  by_cases c4_80 : v1 = 31
  · have h := oC_pos c4_80 h
    have c := c4_80
    refine ww_tableIn (pc := 4) (tgt := 80) g.1 d_St_branch_4 (by rw [c]; decide) (by rw [c]; decide) (by rw [c] <;> rfl) (by decide) ?_
    refine ww_aload_n (pc := 80) g.1 d_St_branch_80 rfl (lv_at hl 0 rfl) ?_
    obtain ⟨v81, s, hc81, h⟩ := oB_of h
    refine ww_callV (pc := 81) (rest := []) g cv_St_equal (Or.inl kw_1292) cl_St (pz rfl (by decide)) (ct_St_equal hc81) ⟨by decide, by decide⟩ rfl hl.1 (Nat.le_of_ble_eq_true rfl) d_St_branch_81 rfl (?_)
    refine ww_st (st' := []) rfl ?_
    refine ww_goto (pc := 84) (tgt := 201) g.1 d_St_branch_84 (by decide) ?_
    exact ww_vretH (pc := 201) g h hR d_St_branch_201
  have h := oC_neg c4_80 h
  by_cases c4_87 : v1 = 34
  · have h := oC_pos c4_87 h
    have c := c4_87
    refine ww_tableIn (pc := 4) (tgt := 87) g.1 d_St_branch_4 (by rw [c]; decide) (by rw [c]; decide) (by rw [c] <;> rfl) (by decide) ?_
    refine ww_aload_n (pc := 87) g.1 d_St_branch_87 rfl (lv_at hl 0 rfl) ?_
    refine ww_gV (pc := 88) g (k := 5) cl_St (pz rfl (by decide)) (by decide) (Or.inl kw_867) (f := 16517) (t := 152) rfl rfl rfl d_St_branch_88 h fun v88 h => ?_
    refine ww_pr h fun pn88 h => ?_
    refine ww_nnP pn88 ?_
    refine ww_dup (pc := 91) g.1 d_St_branch_91 rfl ?_
    refine ww_gI (pc := 92) g (k := 5) cl_Fm pn88 (by decide) (Or.inl kw_875) (f := 19461) rfl rfl d_St_branch_92 h fun v92 h => ?_
    refine ww_aload_n (pc := 95) g.1 d_St_branch_95 rfl (lv_at hl 0 rfl) ?_
    refine ww_aload_n (pc := 96) g.1 d_St_branch_96 rfl (lv_at hl 0 rfl) ?_
    refine ww_gI (pc := 97) g (k := 9) cl_St (pz rfl (by decide)) (by decide) (Or.inl kw_877) (f := 16521) rfl rfl d_St_branch_97 h fun v97 h => ?_
    refine ww_lo fun dlo => ?_
    obtain ⟨v100, s, hc100, h⟩ := oB_of h
    refine ww_callV (pc := 100) (rest := [.int v92, .ref (q.1 152 v88)]) g cv_St_isTrue (Or.inl kw_1293) cl_St (pz rfl (by decide)) (ct_St_isTrue hc100) ⟨by decide, by decide⟩ rfl hl.1 (Nat.le_of_ble_eq_true rfl) d_St_branch_100 rfl (?_)
    refine ww_st (st' := [.int v100, .int v92, .ref (q.1 152 v88)]) rfl ?_
    refine ww_hi fun dhi => ?_
    have pn88 : prs s 152 v88 := dhi _ _ pn88.2.1 pn88.2.2 (dlo _ _ pn88)
    refine ww_aload_n (pc := 103) g.1 d_St_branch_103 rfl (lv_at hl 0 rfl) ?_
    refine ww_gI (pc := 104) g (k := 11) cl_St (pz rfl (by decide)) (by decide) (Or.inl kw_879) (f := 16523) rfl rfl d_St_branch_104 h fun v104 h => ?_
    refine ww_if_ne (pc := 107) (tgt := 114) g.1 d_St_branch_107 (by decide) h (fun c h => ?_) (fun c h => ?_)
    · refine ww_iconst (pc := 114) g.1 (v := 0) d_St_branch_114 (by decide) ?_
      exact j_St_branch_j115 g hR 0 v100 v92 v88 s pn88 ls (lv_sub hl [] rfl) h
    · refine ww_iconst (pc := 110) g.1 (v := 1) d_St_branch_110 (by decide) ?_
      refine ww_goto (pc := 111) (tgt := 115) g.1 d_St_branch_111 (by decide) ?_
      exact j_St_branch_j115 g hR 1 v100 v92 v88 s pn88 ls (lv_sub hl [] rfl) h
  have h := oC_neg c4_87 h
  by_cases c4_130 : v1 = 35
  · have h := oC_pos c4_130 h
    have c := c4_130
    refine ww_tableIn (pc := 4) (tgt := 130) g.1 d_St_branch_4 (by rw [c]; decide) (by rw [c]; decide) (by rw [c] <;> rfl) (by decide) ?_
    refine ww_aload_n (pc := 130) g.1 d_St_branch_130 rfl (lv_at hl 0 rfl) ?_
    refine ww_aload_n (pc := 131) g.1 d_St_branch_131 rfl (lv_at hl 0 rfl) ?_
    refine ww_gI (pc := 132) g (k := 10) cl_St (pz rfl (by decide)) (by decide) (Or.inl kw_878) (f := 16522) rfl rfl d_St_branch_132 h fun v132 h => ?_
    obtain ⟨v135, s, hc135, h⟩ := oB_of h
    refine ww_callV (pc := 135) (rest := []) g cv_St_isTrue (Or.inl kw_1293) cl_St (pz rfl (by decide)) (ct_St_isTrue hc135) ⟨by decide, by decide⟩ rfl hl.1 (Nat.le_of_ble_eq_true rfl) d_St_branch_135 rfl (?_)
    refine ww_st (st' := [.int v135]) rfl ?_
    refine ww_aload_n (pc := 138) g.1 d_St_branch_138 rfl (lv_at hl 0 rfl) ?_
    refine ww_gI (pc := 139) g (k := 11) cl_St (pz rfl (by decide)) (by decide) (Or.inl kw_879) (f := 16523) rfl rfl d_St_branch_139 h fun v139 h => ?_
    refine ww_iconst (pc := 142) g.1 (v := 1) d_St_branch_142 (by decide) ?_
    refine ww_icmp_ne (pc := 143) (tgt := 150) g.1 d_St_branch_143 (by decide) h (fun c h => ?_) (fun c h => ?_)
    · refine ww_iconst (pc := 150) g.1 (v := 0) d_St_branch_150 (by decide) ?_
      exact j_St_branch_j151 g hR 0 v135 s ls (lv_sub hl [0] rfl) h
    · refine ww_iconst (pc := 146) g.1 (v := 1) d_St_branch_146 (by decide) ?_
      refine ww_goto (pc := 147) (tgt := 151) g.1 d_St_branch_147 (by decide) ?_
      exact j_St_branch_j151 g hR 1 v135 s ls (lv_sub hl [0] rfl) h
  have h := oC_neg c4_130 h
  have n_30 : ¬ v1.toInt = 30 := lv_neT (fun e => c4_44 e) rfl
  have n_31 : ¬ v1.toInt = 31 := lv_neT (fun e => c4_80 e) rfl
  have n_34 : ¬ v1.toInt = 34 := lv_neT (fun e => c4_87 e) rfl
  have n_35 : ¬ v1.toInt = 35 := lv_neT (fun e => c4_130 e) rfl
  by_cases hr : v1.toInt < 30 ∨ 35 < v1.toInt
  · refine ww_tableOut (pc := 4) (tgt := 197) g.1 d_St_branch_4 hr (by decide) ?_
    refine ww_aload_n (pc := 197) g.1 d_St_branch_197 rfl (lv_at hl 0 rfl) ?_
    obtain ⟨v198, s, hc198, h⟩ := oB_of h
    refine ww_callV (pc := 198) (rest := []) g cv_St_order (Or.inl kw_1294) cl_St (pz rfl (by decide)) (ct_St_order hc198) ⟨by decide, by decide⟩ rfl hl.1 (Nat.le_of_ble_eq_true rfl) d_St_branch_198 rfl (?_)
    refine ww_st (st' := []) rfl ?_
    exact ww_vretH (pc := 201) g h hR d_St_branch_201
  have hh : v1.toInt = 32 ∨ v1.toInt = 33 := by omega
  rcases hh with c | c
  · refine ww_tableIn (pc := 4) (tgt := 197) g.1 d_St_branch_4 (by rw [c]; decide) (by rw [c]; decide) (by rw [c] <;> rfl) (by decide) ?_
    refine ww_aload_n (pc := 197) g.1 d_St_branch_197 rfl (lv_at hl 0 rfl) ?_
    obtain ⟨v198, s, hc198, h⟩ := oB_of h
    refine ww_callV (pc := 198) (rest := []) g cv_St_order (Or.inl kw_1294) cl_St (pz rfl (by decide)) (ct_St_order hc198) ⟨by decide, by decide⟩ rfl hl.1 (Nat.le_of_ble_eq_true rfl) d_St_branch_198 rfl (?_)
    refine ww_st (st' := []) rfl ?_
    exact ww_vretH (pc := 201) g h hR d_St_branch_201
  · refine ww_tableIn (pc := 4) (tgt := 197) g.1 d_St_branch_4 (by rw [c]; decide) (by rw [c]; decide) (by rw [c] <;> rfl) (by decide) ?_
    refine ww_aload_n (pc := 197) g.1 d_St_branch_197 rfl (lv_at hl 0 rfl) ?_
    obtain ⟨v198, s, hc198, h⟩ := oB_of h
    refine ww_callV (pc := 198) (rest := []) g cv_St_order (Or.inl kw_1294) cl_St (pz rfl (by decide)) (ct_St_order hc198) ⟨by decide, by decide⟩ rfl hl.1 (Nat.le_of_ble_eq_true rfl) d_St_branch_198 rfl (?_)
    refine ww_st (st' := []) rfl ?_
    exact ww_vretH (pc := 201) g h hR d_St_branch_201

abbrev b_St_callOrReturn : ByteArray := prog_10_method_30_code
def y_St_callOrReturn : MethodName := ⟨R_St, "callOrReturn", "()V"⟩
abbrev w_St_callOrReturn : List Cond := .code y_St_callOrReturn b_St_callOrReturn 1 none :: wA
theorem k_St_callOrReturn : Cond.code y_St_callOrReturn b_St_callOrReturn 1 none ∈ wA := kinm (show _ ∈ tables_1 from (List.mem_append_right _ (List.mem_append_right _ (List.mem_append_right _ (List.mem_append_right _ (List.mem_append_right _ (List.mem_append_right _ (List.mem_append_left _ (List.mem_of_getElem? (l := tables_1_7) (i := 172) (by decide +kernel)))))))))) (by decide +kernel)
theorem d_St_callOrReturn_0 : decode b_St_callOrReturn 0 = .ok (.aload_n 0, 1) := by decide +kernel
theorem d_St_callOrReturn_1 : decode b_St_callOrReturn 1 = .ok (.getfield 54, 3) := by decide +kernel
theorem d_St_callOrReturn_4 : decode b_St_callOrReturn 4 = .ok (.bipush 38, 2) := by decide +kernel
theorem d_St_callOrReturn_6 : decode b_St_callOrReturn 6 = .ok (.if_icmp .ne 43, 3) := by decide +kernel
theorem d_St_callOrReturn_9 : decode b_St_callOrReturn 9 = .ok (.aload_n 0, 1) := by decide +kernel
theorem d_St_callOrReturn_10 : decode b_St_callOrReturn 10 = .ok (.aload_n 0, 1) := by decide +kernel
theorem d_St_callOrReturn_11 : decode b_St_callOrReturn 11 = .ok (.getfield 9, 3) := by decide +kernel
theorem d_St_callOrReturn_14 : decode b_St_callOrReturn 14 = .ok (.getfield 335, 3) := by decide +kernel
theorem d_St_callOrReturn_17 : decode b_St_callOrReturn 17 = .ok (.aload_n 0, 1) := by decide +kernel
theorem d_St_callOrReturn_18 : decode b_St_callOrReturn 18 = .ok (.getfield 57, 3) := by decide +kernel
theorem d_St_callOrReturn_21 : decode b_St_callOrReturn 21 = .ok (.aload_n 0, 1) := by decide +kernel
theorem d_St_callOrReturn_22 : decode b_St_callOrReturn 22 = .ok (.getfield 137, 3) := by decide +kernel
theorem d_St_callOrReturn_25 : decode b_St_callOrReturn 25 = .ok (.iconst 1, 1) := by decide +kernel
theorem d_St_callOrReturn_26 : decode b_St_callOrReturn 26 = .ok (.isub, 1) := by decide +kernel
theorem d_St_callOrReturn_27 : decode b_St_callOrReturn 27 = .ok (.invokevirtual 338, 3) := by decide +kernel
theorem d_St_callOrReturn_30 : decode b_St_callOrReturn 30 = .ok (.ifCond .eq 18, 3) := by decide +kernel
theorem d_St_callOrReturn_33 : decode b_St_callOrReturn 33 = .ok (.aload_n 0, 1) := by decide +kernel
theorem d_St_callOrReturn_34 : decode b_St_callOrReturn 34 = .ok (.getfield 9, 3) := by decide +kernel
theorem d_St_callOrReturn_37 : decode b_St_callOrReturn 37 = .ok (.invokevirtual 342, 3) := by decide +kernel
theorem d_St_callOrReturn_40 : decode b_St_callOrReturn 40 = .ok (.aload_n 0, 1) := by decide +kernel
theorem d_St_callOrReturn_41 : decode b_St_callOrReturn 41 = .ok (.getfield 9, 3) := by decide +kernel
theorem d_St_callOrReturn_44 : decode b_St_callOrReturn 44 = .ok (.iconst 3, 1) := by decide +kernel
theorem d_St_callOrReturn_45 : decode b_St_callOrReturn 45 = .ok (.putfield 265, 3) := by decide +kernel
theorem d_St_callOrReturn_48 : decode b_St_callOrReturn 48 = .ok (.return_, 1) := by decide +kernel
theorem d_St_callOrReturn_49 : decode b_St_callOrReturn 49 = .ok (.aload_n 0, 1) := by decide +kernel
theorem d_St_callOrReturn_50 : decode b_St_callOrReturn 50 = .ok (.aload_n 0, 1) := by decide +kernel
theorem d_St_callOrReturn_51 : decode b_St_callOrReturn 51 = .ok (.getfield 9, 3) := by decide +kernel
theorem d_St_callOrReturn_54 : decode b_St_callOrReturn 54 = .ok (.getfield 216, 3) := by decide +kernel
theorem d_St_callOrReturn_57 : decode b_St_callOrReturn 57 = .ok (.aload_n 0, 1) := by decide +kernel
theorem d_St_callOrReturn_58 : decode b_St_callOrReturn 58 = .ok (.getfield 57, 3) := by decide +kernel
theorem d_St_callOrReturn_61 : decode b_St_callOrReturn 61 = .ok (.iconst 1, 1) := by decide +kernel
theorem d_St_callOrReturn_62 : decode b_St_callOrReturn 62 = .ok (.iadd, 1) := by decide +kernel
theorem d_St_callOrReturn_63 : decode b_St_callOrReturn 63 = .ok (.aload_n 0, 1) := by decide +kernel
theorem d_St_callOrReturn_64 : decode b_St_callOrReturn 64 = .ok (.getfield 54, 3) := by decide +kernel
theorem d_St_callOrReturn_67 : decode b_St_callOrReturn 67 = .ok (.bipush 41, 2) := by decide +kernel
theorem d_St_callOrReturn_69 : decode b_St_callOrReturn 69 = .ok (.if_icmp .ne 7, 3) := by decide +kernel
theorem d_St_callOrReturn_72 : decode b_St_callOrReturn 72 = .ok (.iconst 2, 1) := by decide +kernel
theorem d_St_callOrReturn_73 : decode b_St_callOrReturn 73 = .ok (.goto 9, 3) := by decide +kernel
theorem d_St_callOrReturn_76 : decode b_St_callOrReturn 76 = .ok (.aload_n 0, 1) := by decide +kernel
theorem d_St_callOrReturn_77 : decode b_St_callOrReturn 77 = .ok (.getfield 137, 3) := by decide +kernel
theorem d_St_callOrReturn_80 : decode b_St_callOrReturn 80 = .ok (.iconst 1, 1) := by decide +kernel
theorem d_St_callOrReturn_81 : decode b_St_callOrReturn 81 = .ok (.isub, 1) := by decide +kernel
theorem d_St_callOrReturn_82 : decode b_St_callOrReturn 82 = .ok (.invokevirtual 338, 3) := by decide +kernel
theorem d_St_callOrReturn_85 : decode b_St_callOrReturn 85 = .ok (.ifCond .ne 4, 3) := by decide +kernel
theorem d_St_callOrReturn_88 : decode b_St_callOrReturn 88 = .ok (.return_, 1) := by decide +kernel
theorem d_St_callOrReturn_89 : decode b_St_callOrReturn 89 = .ok (.aload_n 0, 1) := by decide +kernel
theorem d_St_callOrReturn_90 : decode b_St_callOrReturn 90 = .ok (.getfield 9, 3) := by decide +kernel
theorem d_St_callOrReturn_93 : decode b_St_callOrReturn 93 = .ok (.aload_n 0, 1) := by decide +kernel
theorem d_St_callOrReturn_94 : decode b_St_callOrReturn 94 = .ok (.aload_n 0, 1) := by decide +kernel
theorem d_St_callOrReturn_95 : decode b_St_callOrReturn 95 = .ok (.getfield 57, 3) := by decide +kernel
theorem d_St_callOrReturn_98 : decode b_St_callOrReturn 98 = .ok (.invokevirtual 77, 3) := by decide +kernel
theorem d_St_callOrReturn_101 : decode b_St_callOrReturn 101 = .ok (.putfield 345, 3) := by decide +kernel
theorem d_St_callOrReturn_104 : decode b_St_callOrReturn 104 = .ok (.aload_n 0, 1) := by decide +kernel
theorem d_St_callOrReturn_105 : decode b_St_callOrReturn 105 = .ok (.getfield 9, 3) := by decide +kernel
theorem d_St_callOrReturn_108 : decode b_St_callOrReturn 108 = .ok (.aload_n 0, 1) := by decide +kernel
theorem d_St_callOrReturn_109 : decode b_St_callOrReturn 109 = .ok (.aload_n 0, 1) := by decide +kernel
theorem d_St_callOrReturn_110 : decode b_St_callOrReturn 110 = .ok (.getfield 57, 3) := by decide +kernel
theorem d_St_callOrReturn_113 : decode b_St_callOrReturn 113 = .ok (.invokevirtual 80, 3) := by decide +kernel
theorem d_St_callOrReturn_116 : decode b_St_callOrReturn 116 = .ok (.putfield 348, 3) := by decide +kernel
theorem d_St_callOrReturn_119 : decode b_St_callOrReturn 119 = .ok (.aload_n 0, 1) := by decide +kernel
theorem d_St_callOrReturn_120 : decode b_St_callOrReturn 120 = .ok (.getfield 9, 3) := by decide +kernel
theorem d_St_callOrReturn_123 : decode b_St_callOrReturn 123 = .ok (.iconst 1, 1) := by decide +kernel
theorem d_St_callOrReturn_124 : decode b_St_callOrReturn 124 = .ok (.putfield 265, 3) := by decide +kernel
theorem d_St_callOrReturn_127 : decode b_St_callOrReturn 127 = .ok (.aload_n 0, 1) := by decide +kernel
theorem d_St_callOrReturn_128 : decode b_St_callOrReturn 128 = .ok (.getfield 54, 3) := by decide +kernel
theorem d_St_callOrReturn_131 : decode b_St_callOrReturn 131 = .ok (.bipush 37, 2) := by decide +kernel
theorem d_St_callOrReturn_133 : decode b_St_callOrReturn 133 = .ok (.if_icmp .ne 10, 3) := by decide +kernel
theorem d_St_callOrReturn_136 : decode b_St_callOrReturn 136 = .ok (.aload_n 0, 1) := by decide +kernel
theorem d_St_callOrReturn_137 : decode b_St_callOrReturn 137 = .ok (.getfield 9, 3) := by decide +kernel
theorem d_St_callOrReturn_140 : decode b_St_callOrReturn 140 = .ok (.invokevirtual 342, 3) := by decide +kernel
theorem d_St_callOrReturn_143 : decode b_St_callOrReturn 143 = .ok (.return_, 1) := by decide +kernel
theorem kw_1297 : Cond.methodLink R_St 338 y_St_gather ∈ wA := kinm (show _ ∈ tables_1 from (List.mem_append_right _ (List.mem_append_right _ (List.mem_append_right _ (List.mem_append_right _ (List.mem_append_right _ (List.mem_append_right _ (List.mem_append_left _ (List.mem_of_getElem? (l := tables_1_7) (i := 173) (by decide +kernel)))))))))) (by decide +kernel)
theorem kw_1298 : Cond.fieldLink R_St 345 "LuaMachine$Machine" "calleeKind" "I" ∈ wA := kinm (show _ ∈ tables_1 from (List.mem_append_right _ (List.mem_append_left _ (List.mem_of_getElem? (l := tables_1_2) (i := 90) (by decide +kernel))))) (by decide +kernel)
theorem kw_1299 : Cond.fieldLink R_St 348 "LuaMachine$Machine" "calleeValue" "J" ∈ wA := kinm (show _ ∈ tables_1 from (List.mem_append_right _ (List.mem_append_left _ (List.mem_of_getElem? (l := tables_1_2) (i := 93) (by decide +kernel))))) (by decide +kernel)
theorem kw_1300 : Cond.methodLink R_St 342 y_Ma_leave ∈ wA := kinm (show _ ∈ tables_1 from (List.mem_append_right _ (List.mem_append_right _ (List.mem_append_right _ (List.mem_append_right _ (List.mem_append_right _ (List.mem_append_right _ (List.mem_append_left _ (List.mem_of_getElem? (l := tables_1_7) (i := 177) (by decide +kernel)))))))))) (by decide +kernel)
theorem kw_1301 : Cond.instanceMethod y_St_callOrReturn ∈ wA := kinm (show _ ∈ tables_1 from (List.mem_append_right _ (List.mem_append_right _ (List.mem_append_right _ (List.mem_append_right _ (List.mem_append_right _ (List.mem_append_right _ (List.mem_append_left _ (List.mem_of_getElem? (l := tables_1_7) (i := 171) (by decide +kernel)))))))))) (by decide +kernel)
theorem kw_1302 : Cond.selects R_St y_St_callOrReturn y_St_callOrReturn ∈ wA := kinp 58 (by decide +kernel) (by decide +kernel)
theorem cv_St_callOrReturn : CV y_St_callOrReturn b_St_callOrReturn 1 none 0 := ⟨kw_1301, kw_1302, kw_883, k_St_callOrReturn, by decide +kernel⟩
theorem j_St_callOrReturn_j82 {X : Cx} {q : PL} (g : Gd X y_St_callOrReturn b_St_callOrReturn 1 none 3 70 R_St) {o : (Unit) × S1} (hR : Rt X q o.2 none) (k0 : Int32) (k1 : Int32) (s : S1) (ls : Array Slot) (hl : lv_has ls 1 [(0, .ref (q.1 129 0))]) (h : M_St_callOrReturn_j82 k0 k1 s = some o) : WW X q s 82 ls [.int k0, .int k1, .ref (q.1 132 0), .ref (q.1 129 0)] := by
  unfold M_St_callOrReturn_j82 at h
  obtain ⟨v82, s, hc82, h⟩ := oB_of h
  refine ww_callV (pc := 82) (rest := []) g cv_St_gather (Or.inl kw_1297) cl_St (pz rfl (by decide)) (ct_St_gather ⟨by decide, rfl⟩ hc82) ⟨by decide, by decide⟩ rfl hl.1 (Nat.le_of_ble_eq_true rfl) d_St_callOrReturn_82 rfl (?_)
  refine ww_st (st' := [.int v82]) rfl ?_
  refine ww_if_ne (pc := 85) (tgt := 89) g.1 d_St_callOrReturn_85 (by decide) h (fun c h => ?_) (fun c h => ?_)
  · refine ww_aload_n (pc := 89) g.1 d_St_callOrReturn_89 rfl (lv_at hl 0 rfl) ?_
    refine ww_gR (pc := 90) g (k := 0) cl_St (pz rfl (by decide)) (by decide) (Or.inl kw_863) (f := 16512) (t := 128) rfl rfl rfl d_St_callOrReturn_90 ?_
    refine ww_aload_n (pc := 93) g.1 d_St_callOrReturn_93 rfl (lv_at hl 0 rfl) ?_
    refine ww_aload_n (pc := 94) g.1 d_St_callOrReturn_94 rfl (lv_at hl 0 rfl) ?_
    refine ww_gI (pc := 95) g (k := 9) cl_St (pz rfl (by decide)) (by decide) (Or.inl kw_877) (f := 16521) rfl rfl d_St_callOrReturn_95 h fun v95 h => ?_
    obtain ⟨v98, s, hc98, h⟩ := oB_of h
    refine ww_callV (pc := 98) (rest := [.ref (q.1 128 0)]) g cv_St_kindOf (Or.inl kw_914) cl_St (pz rfl (by decide)) (ct_St_kindOf hc98) ⟨by decide, by decide⟩ rfl hl.1 (Nat.le_of_ble_eq_true rfl) d_St_callOrReturn_98 rfl (?_)
    refine ww_st (st' := [.int v98, .ref (q.1 128 0)]) rfl ?_
    refine ww_pI (pc := 101) g (k := 13) cl_Ma (pz rfl (by decide)) (by decide) (Or.inl kw_1298) rfl (f := 16397) rfl rfl rfl rfl d_St_callOrReturn_101 h fun s hs h => ?_
    refine ww_aload_n (pc := 104) g.1 d_St_callOrReturn_104 rfl (lv_at hl 0 rfl) ?_
    refine ww_gR (pc := 105) g (k := 0) cl_St (pz rfl (by decide)) (by decide) (Or.inl kw_863) (f := 16512) (t := 128) rfl rfl rfl d_St_callOrReturn_105 ?_
    refine ww_aload_n (pc := 108) g.1 d_St_callOrReturn_108 rfl (lv_at hl 0 rfl) ?_
    refine ww_aload_n (pc := 109) g.1 d_St_callOrReturn_109 rfl (lv_at hl 0 rfl) ?_
    refine ww_gI (pc := 110) g (k := 9) cl_St (pz rfl (by decide)) (by decide) (Or.inl kw_877) (f := 16521) rfl rfl d_St_callOrReturn_110 h fun v110 h => ?_
    obtain ⟨v113, s, hc113, h⟩ := oB_of h
    refine ww_callV (pc := 113) (rest := [.ref (q.1 128 0)]) g cv_St_valueOf (Or.inl kw_1120) cl_St (pz rfl (by decide)) (ct_St_valueOf hc113) ⟨by decide, by decide⟩ rfl hl.1 (Nat.le_of_ble_eq_true rfl) d_St_callOrReturn_113 rfl (?_)
    refine ww_st (st' := [.long v113, .ref (q.1 128 0)]) rfl ?_
    refine ww_pL (pc := 116) g (k := 14) cl_Ma (pz rfl (by decide)) (by decide) (Or.inl kw_1299) rfl (f := 16398) rfl rfl rfl rfl d_St_callOrReturn_116 h fun s hs h => ?_
    refine ww_aload_n (pc := 119) g.1 d_St_callOrReturn_119 rfl (lv_at hl 0 rfl) ?_
    refine ww_gR (pc := 120) g (k := 0) cl_St (pz rfl (by decide)) (by decide) (Or.inl kw_863) (f := 16512) (t := 128) rfl rfl rfl d_St_callOrReturn_120 ?_
    refine ww_iconst (pc := 123) g.1 (v := 1) d_St_callOrReturn_123 (by decide) ?_
    refine ww_pI (pc := 124) g (k := 12) cl_Ma (pz rfl (by decide)) (by decide) (Or.inl kw_1206) rfl (f := 16396) rfl rfl rfl rfl d_St_callOrReturn_124 h fun s hs h => ?_
    refine ww_aload_n (pc := 127) g.1 d_St_callOrReturn_127 rfl (lv_at hl 0 rfl) ?_
    refine ww_gI (pc := 128) g (k := 8) cl_St (pz rfl (by decide)) (by decide) (Or.inl kw_876) (f := 16520) rfl rfl d_St_callOrReturn_128 h fun v128 h => ?_
    refine ww_bipush (pc := 131) g.1 (v := 37) d_St_callOrReturn_131 (by decide) ?_
    refine ww_icmp_ne (pc := 133) (tgt := 143) g.1 d_St_callOrReturn_133 (by decide) h (fun c h => ?_) (fun c h => ?_)
    · exact ww_vretH (pc := 143) g h hR d_St_callOrReturn_143
    · refine ww_aload_n (pc := 136) g.1 d_St_callOrReturn_136 rfl (lv_at hl 0 rfl) ?_
      refine ww_gR (pc := 137) g (k := 0) cl_St (pz rfl (by decide)) (by decide) (Or.inl kw_863) (f := 16512) (t := 128) rfl rfl rfl d_St_callOrReturn_137 ?_
      obtain ⟨v140, s, hc140, h⟩ := oB_of h
      refine ww_callV (pc := 140) (rest := []) g cv_Ma_leave (Or.inl kw_1300) cl_Ma (pz rfl (by decide)) (ct_Ma_leave hc140) ⟨by decide, by decide⟩ rfl hl.1 (Nat.le_of_ble_eq_true rfl) d_St_callOrReturn_140 rfl (?_)
      refine ww_st (st' := []) rfl ?_
      exact ww_vretH (pc := 143) g h hR d_St_callOrReturn_143
  · exact ww_vretH (pc := 88) g h hR d_St_callOrReturn_88

theorem ct_St_callOrReturn {l : Launch} {P : PP} {q : PL} {s s' : S1}  {r : Unit} (h : M_St_callOrReturn s = some (r, s')) : Ct l y_St_callOrReturn b_St_callOrReturn 1 none 3 70 P q s [.ref (q.1 129 0)] none q s' := by
  refine ct_of (by decide) (Nat.le_of_ble_eq_true rfl) fun X ls eP el g hR hl => ?_
  subst eP
  have hR : Rt X q ((r, s') : Unit × S1).2 none := hR
  have hl : lv_has ls 1 [(0, .ref (q.1 129 0))] := hl
  generalize (r, s') = o at h hR
  unfold M_St_callOrReturn at h
  refine ww_aload_n (pc := 0) g.1 d_St_callOrReturn_0 rfl (lv_at hl 0 rfl) ?_
  refine ww_gI (pc := 1) g (k := 8) cl_St (pz rfl (by decide)) (by decide) (Or.inl kw_876) (f := 16520) rfl rfl d_St_callOrReturn_1 h fun v1 h => ?_
  refine ww_bipush (pc := 4) g.1 (v := 38) d_St_callOrReturn_4 (by decide) ?_
  refine ww_icmp_ne (pc := 6) (tgt := 49) g.1 d_St_callOrReturn_6 (by decide) h (fun c h => ?_) (fun c h => ?_)
  · refine ww_aload_n (pc := 49) g.1 d_St_callOrReturn_49 rfl (lv_at hl 0 rfl) ?_
    refine ww_aload_n (pc := 50) g.1 d_St_callOrReturn_50 rfl (lv_at hl 0 rfl) ?_
    refine ww_gR (pc := 51) g (k := 0) cl_St (pz rfl (by decide)) (by decide) (Or.inl kw_863) (f := 16512) (t := 128) rfl rfl rfl d_St_callOrReturn_51 ?_
    refine ww_gR (pc := 54) g (k := 3) cl_Ma (pz rfl (by decide)) (by decide) (Or.inl kw_1286) (f := 16387) (t := 132) rfl rfl rfl d_St_callOrReturn_54 ?_
    refine ww_aload_n (pc := 57) g.1 d_St_callOrReturn_57 rfl (lv_at hl 0 rfl) ?_
    refine ww_gI (pc := 58) g (k := 9) cl_St (pz rfl (by decide)) (by decide) (Or.inl kw_877) (f := 16521) rfl rfl d_St_callOrReturn_58 h fun v58 h => ?_
    refine ww_iconst (pc := 61) g.1 (v := 1) d_St_callOrReturn_61 (by decide) ?_
    refine ww_iadd (pc := 62) g.1 d_St_callOrReturn_62 ?_
    refine ww_aload_n (pc := 63) g.1 d_St_callOrReturn_63 rfl (lv_at hl 0 rfl) ?_
    refine ww_gI (pc := 64) g (k := 8) cl_St (pz rfl (by decide)) (by decide) (Or.inl kw_876) (f := 16520) rfl rfl d_St_callOrReturn_64 h fun v64 h => ?_
    refine ww_bipush (pc := 67) g.1 (v := 41) d_St_callOrReturn_67 (by decide) ?_
    refine ww_icmp_ne (pc := 69) (tgt := 76) g.1 d_St_callOrReturn_69 (by decide) h (fun c h => ?_) (fun c h => ?_)
    · refine ww_aload_n (pc := 76) g.1 d_St_callOrReturn_76 rfl (lv_at hl 0 rfl) ?_
      refine ww_gI (pc := 77) g (k := 10) cl_St (pz rfl (by decide)) (by decide) (Or.inl kw_878) (f := 16522) rfl rfl d_St_callOrReturn_77 h fun v77 h => ?_
      refine ww_iconst (pc := 80) g.1 (v := 1) d_St_callOrReturn_80 (by decide) ?_
      refine ww_isub (pc := 81) g.1 d_St_callOrReturn_81 ?_
      exact j_St_callOrReturn_j82 g hR (v77 - 1) (v58 + 1) s ls (lv_sub hl [0] rfl) h
    · refine ww_iconst (pc := 72) g.1 (v := 2) d_St_callOrReturn_72 (by decide) ?_
      refine ww_goto (pc := 73) (tgt := 82) g.1 d_St_callOrReturn_73 (by decide) ?_
      exact j_St_callOrReturn_j82 g hR 2 (v58 + 1) s ls (lv_sub hl [0] rfl) h
  · refine ww_aload_n (pc := 9) g.1 d_St_callOrReturn_9 rfl (lv_at hl 0 rfl) ?_
    refine ww_aload_n (pc := 10) g.1 d_St_callOrReturn_10 rfl (lv_at hl 0 rfl) ?_
    refine ww_gR (pc := 11) g (k := 0) cl_St (pz rfl (by decide)) (by decide) (Or.inl kw_863) (f := 16512) (t := 128) rfl rfl rfl d_St_callOrReturn_11 ?_
    refine ww_gR (pc := 14) g (k := 4) cl_Ma (pz rfl (by decide)) (by decide) (Or.inl kw_1007) (f := 16388) (t := 135) rfl rfl rfl d_St_callOrReturn_14 ?_
    refine ww_aload_n (pc := 17) g.1 d_St_callOrReturn_17 rfl (lv_at hl 0 rfl) ?_
    refine ww_gI (pc := 18) g (k := 9) cl_St (pz rfl (by decide)) (by decide) (Or.inl kw_877) (f := 16521) rfl rfl d_St_callOrReturn_18 h fun v18 h => ?_
    refine ww_aload_n (pc := 21) g.1 d_St_callOrReturn_21 rfl (lv_at hl 0 rfl) ?_
    refine ww_gI (pc := 22) g (k := 10) cl_St (pz rfl (by decide)) (by decide) (Or.inl kw_878) (f := 16522) rfl rfl d_St_callOrReturn_22 h fun v22 h => ?_
    refine ww_iconst (pc := 25) g.1 (v := 1) d_St_callOrReturn_25 (by decide) ?_
    refine ww_isub (pc := 26) g.1 d_St_callOrReturn_26 ?_
    obtain ⟨v27, s, hc27, h⟩ := oB_of h
    refine ww_callV (pc := 27) (rest := []) g cv_St_gather (Or.inl kw_1297) cl_St (pz rfl (by decide)) (ct_St_gather ⟨by decide, rfl⟩ hc27) ⟨by decide, by decide⟩ rfl hl.1 (Nat.le_of_ble_eq_true rfl) d_St_callOrReturn_27 rfl (?_)
    refine ww_st (st' := [.int v27]) rfl ?_
    refine ww_if_eq (pc := 30) (tgt := 48) g.1 d_St_callOrReturn_30 (by decide) h (fun c h => ?_) (fun c h => ?_)
    · exact ww_vretH (pc := 48) g h hR d_St_callOrReturn_48
    · refine ww_aload_n (pc := 33) g.1 d_St_callOrReturn_33 rfl (lv_at hl 0 rfl) ?_
      refine ww_gR (pc := 34) g (k := 0) cl_St (pz rfl (by decide)) (by decide) (Or.inl kw_863) (f := 16512) (t := 128) rfl rfl rfl d_St_callOrReturn_34 ?_
      obtain ⟨v37, s, hc37, h⟩ := oB_of h
      refine ww_callV (pc := 37) (rest := []) g cv_Ma_leave (Or.inl kw_1300) cl_Ma (pz rfl (by decide)) (ct_Ma_leave hc37) ⟨by decide, by decide⟩ rfl hl.1 (Nat.le_of_ble_eq_true rfl) d_St_callOrReturn_37 rfl (?_)
      refine ww_st (st' := []) rfl ?_
      refine ww_aload_n (pc := 40) g.1 d_St_callOrReturn_40 rfl (lv_at hl 0 rfl) ?_
      refine ww_gR (pc := 41) g (k := 0) cl_St (pz rfl (by decide)) (by decide) (Or.inl kw_863) (f := 16512) (t := 128) rfl rfl rfl d_St_callOrReturn_41 ?_
      refine ww_iconst (pc := 44) g.1 (v := 3) d_St_callOrReturn_44 (by decide) ?_
      refine ww_pI (pc := 45) g (k := 12) cl_Ma (pz rfl (by decide)) (by decide) (Or.inl kw_1206) rfl (f := 16396) rfl rfl rfl rfl d_St_callOrReturn_45 h fun s hs h => ?_
      exact ww_vretH (pc := 48) g h hR d_St_callOrReturn_48

abbrev b_St_loop : ByteArray := prog_10_method_36_code
def y_St_loop : MethodName := ⟨R_St, "loop", "()V"⟩
abbrev w_St_loop : List Cond := .code y_St_loop b_St_loop 7 none :: wA
theorem k_St_loop : Cond.code y_St_loop b_St_loop 7 none ∈ wA := kinm (show _ ∈ tables_1 from (List.mem_append_right _ (List.mem_append_right _ (List.mem_append_right _ (List.mem_append_right _ (List.mem_append_right _ (List.mem_append_right _ (List.mem_append_left _ (List.mem_of_getElem? (l := tables_1_7) (i := 193) (by decide +kernel)))))))))) (by decide +kernel)
theorem d_St_loop_0 : decode b_St_loop 0 = .ok (.aload_n 0, 1) := by decide +kernel
theorem d_St_loop_1 : decode b_St_loop 1 = .ok (.invokevirtual 379, 3) := by decide +kernel
theorem d_St_loop_4 : decode b_St_loop 4 = .ok (.ifCond .ne 4, 3) := by decide +kernel
theorem d_St_loop_7 : decode b_St_loop 7 = .ok (.return_, 1) := by decide +kernel
theorem d_St_loop_8 : decode b_St_loop 8 = .ok (.aload_n 0, 1) := by decide +kernel
theorem d_St_loop_9 : decode b_St_loop 9 = .ok (.aload_n 0, 1) := by decide +kernel
theorem d_St_loop_10 : decode b_St_loop 10 = .ok (.getfield 57, 3) := by decide +kernel
theorem d_St_loop_13 : decode b_St_loop 13 = .ok (.iconst 2, 1) := by decide +kernel
theorem d_St_loop_14 : decode b_St_loop 14 = .ok (.iadd, 1) := by decide +kernel
theorem d_St_loop_15 : decode b_St_loop 15 = .ok (.invokevirtual 80, 3) := by decide +kernel
theorem d_St_loop_18 : decode b_St_loop 18 = .ok (.lstore_n 1, 1) := by decide +kernel
theorem d_St_loop_19 : decode b_St_loop 19 = .ok (.aload_n 0, 1) := by decide +kernel
theorem d_St_loop_20 : decode b_St_loop 20 = .ok (.aload_n 0, 1) := by decide +kernel
theorem d_St_loop_21 : decode b_St_loop 21 = .ok (.getfield 57, 3) := by decide +kernel
theorem d_St_loop_24 : decode b_St_loop 24 = .ok (.invokevirtual 80, 3) := by decide +kernel
theorem d_St_loop_27 : decode b_St_loop 27 = .ok (.lload_n 1, 1) := by decide +kernel
theorem d_St_loop_28 : decode b_St_loop 28 = .ok (.ladd, 1) := by decide +kernel
theorem d_St_loop_29 : decode b_St_loop 29 = .ok (.lstore_n 3, 1) := by decide +kernel
theorem d_St_loop_30 : decode b_St_loop 30 = .ok (.aload_n 0, 1) := by decide +kernel
theorem d_St_loop_31 : decode b_St_loop 31 = .ok (.aload_n 0, 1) := by decide +kernel
theorem d_St_loop_32 : decode b_St_loop 32 = .ok (.getfield 57, 3) := by decide +kernel
theorem d_St_loop_35 : decode b_St_loop 35 = .ok (.iconst 1, 1) := by decide +kernel
theorem d_St_loop_36 : decode b_St_loop 36 = .ok (.iadd, 1) := by decide +kernel
theorem d_St_loop_37 : decode b_St_loop 37 = .ok (.invokevirtual 80, 3) := by decide +kernel
theorem d_St_loop_40 : decode b_St_loop 40 = .ok (.lstore 5, 2) := by decide +kernel
theorem d_St_loop_42 : decode b_St_loop 42 = .ok (.aload_n 0, 1) := by decide +kernel
theorem d_St_loop_43 : decode b_St_loop 43 = .ok (.aload_n 0, 1) := by decide +kernel
theorem d_St_loop_44 : decode b_St_loop 44 = .ok (.getfield 57, 3) := by decide +kernel
theorem d_St_loop_47 : decode b_St_loop 47 = .ok (.iconst 3, 1) := by decide +kernel
theorem d_St_loop_48 : decode b_St_loop 48 = .ok (.lload_n 3, 1) := by decide +kernel
theorem d_St_loop_49 : decode b_St_loop 49 = .ok (.invokevirtual 176, 3) := by decide +kernel
theorem d_St_loop_52 : decode b_St_loop 52 = .ok (.lload_n 1, 1) := by decide +kernel
theorem d_St_loop_53 : decode b_St_loop 53 = .ok (.lconst 0, 1) := by decide +kernel
theorem d_St_loop_54 : decode b_St_loop 54 = .ok (.lcmp, 1) := by decide +kernel
theorem d_St_loop_55 : decode b_St_loop 55 = .ok (.ifCond .le 13, 3) := by decide +kernel
theorem d_St_loop_58 : decode b_St_loop 58 = .ok (.lload_n 3, 1) := by decide +kernel
theorem d_St_loop_59 : decode b_St_loop 59 = .ok (.lload 5, 2) := by decide +kernel
theorem d_St_loop_61 : decode b_St_loop 61 = .ok (.lcmp, 1) := by decide +kernel
theorem d_St_loop_62 : decode b_St_loop 62 = .ok (.ifCond .gt 29, 3) := by decide +kernel
theorem d_St_loop_65 : decode b_St_loop 65 = .ok (.goto 10, 3) := by decide +kernel
theorem d_St_loop_68 : decode b_St_loop 68 = .ok (.lload_n 3, 1) := by decide +kernel
theorem d_St_loop_69 : decode b_St_loop 69 = .ok (.lload 5, 2) := by decide +kernel
theorem d_St_loop_71 : decode b_St_loop 71 = .ok (.lcmp, 1) := by decide +kernel
theorem d_St_loop_72 : decode b_St_loop 72 = .ok (.ifCond .lt 19, 3) := by decide +kernel
theorem d_St_loop_75 : decode b_St_loop 75 = .ok (.aload_n 0, 1) := by decide +kernel
theorem d_St_loop_76 : decode b_St_loop 76 = .ok (.invokevirtual 314, 3) := by decide +kernel
theorem d_St_loop_79 : decode b_St_loop 79 = .ok (.aload_n 0, 1) := by decide +kernel
theorem d_St_loop_80 : decode b_St_loop 80 = .ok (.aload_n 0, 1) := by decide +kernel
theorem d_St_loop_81 : decode b_St_loop 81 = .ok (.getfield 57, 3) := by decide +kernel
theorem d_St_loop_84 : decode b_St_loop 84 = .ok (.iconst 3, 1) := by decide +kernel
theorem d_St_loop_85 : decode b_St_loop 85 = .ok (.iadd, 1) := by decide +kernel
theorem d_St_loop_86 : decode b_St_loop 86 = .ok (.iconst 3, 1) := by decide +kernel
theorem d_St_loop_87 : decode b_St_loop 87 = .ok (.lload_n 3, 1) := by decide +kernel
theorem d_St_loop_88 : decode b_St_loop 88 = .ok (.invokevirtual 176, 3) := by decide +kernel
theorem d_St_loop_91 : decode b_St_loop 91 = .ok (.return_, 1) := by decide +kernel
theorem kw_1303 : Cond.methodLink R_St 379 y_St_hasLoopNumbers ∈ wA := kinm (show _ ∈ tables_1 from (List.mem_append_right _ (List.mem_append_right _ (List.mem_append_right _ (List.mem_append_right _ (List.mem_append_right _ (List.mem_append_right _ (List.mem_append_left _ (List.mem_of_getElem? (l := tables_1_7) (i := 194) (by decide +kernel)))))))))) (by decide +kernel)
theorem kw_1304 : Cond.instanceMethod y_St_loop ∈ wA := kinm (show _ ∈ tables_1 from (List.mem_append_right _ (List.mem_append_right _ (List.mem_append_right _ (List.mem_append_right _ (List.mem_append_right _ (List.mem_append_right _ (List.mem_append_left _ (List.mem_of_getElem? (l := tables_1_7) (i := 192) (by decide +kernel)))))))))) (by decide +kernel)
theorem kw_1305 : Cond.selects R_St y_St_loop y_St_loop ∈ wA := kinp 61 (by decide +kernel) (by decide +kernel)
theorem cv_St_loop : CV y_St_loop b_St_loop 7 none 0 := ⟨kw_1304, kw_1305, kw_883, k_St_loop, by decide +kernel⟩
theorem j_St_loop_j75 {X : Cx} {q : PL} (g : Gd X y_St_loop b_St_loop 7 none 3 64 R_St) {o : (Unit) × S1} (hR : Rt X q o.2 none) (l3 : Int64) (s : S1) (ls : Array Slot) (hl : lv_has ls 7 [(0, .ref (q.1 129 0)), (3, .long l3)]) (h : M_St_loop_j75 l3 s = some o) : WW X q s 75 ls [] := by
  unfold M_St_loop_j75 at h
  refine ww_aload_n (pc := 75) g.1 d_St_loop_75 rfl (lv_at hl 0 rfl) ?_
  obtain ⟨v76, s, hc76, h⟩ := oB_of h
  refine ww_callV (pc := 76) (rest := []) g cv_St_jump (Or.inl kw_1290) cl_St (pz rfl (by decide)) (ct_St_jump hc76) ⟨by decide, by decide⟩ rfl hl.1 (Nat.le_of_ble_eq_true rfl) d_St_loop_76 rfl (?_)
  refine ww_st (st' := []) rfl ?_
  refine ww_aload_n (pc := 79) g.1 d_St_loop_79 rfl (lv_at hl 0 rfl) ?_
  refine ww_aload_n (pc := 80) g.1 d_St_loop_80 rfl (lv_at hl 0 rfl) ?_
  refine ww_gI (pc := 81) g (k := 9) cl_St (pz rfl (by decide)) (by decide) (Or.inl kw_877) (f := 16521) rfl rfl d_St_loop_81 h fun v81 h => ?_
  refine ww_iconst (pc := 84) g.1 (v := 3) d_St_loop_84 (by decide) ?_
  refine ww_iadd (pc := 85) g.1 d_St_loop_85 ?_
  refine ww_iconst (pc := 86) g.1 (v := 3) d_St_loop_86 (by decide) ?_
  refine ww_lload_n (pc := 87) g.1 d_St_loop_87 rfl (lv_at hl 1 rfl) ?_
  obtain ⟨v88, s, hc88, h⟩ := oB_of h
  refine ww_callV (pc := 88) (rest := []) g cv_St_set (Or.inl kw_928) cl_St (pz rfl (by decide)) (ct_St_set hc88) ⟨by decide, by decide⟩ rfl hl.1 (Nat.le_of_ble_eq_true rfl) d_St_loop_88 rfl (?_)
  refine ww_st (st' := []) rfl ?_
  exact ww_vretH (pc := 91) g h hR d_St_loop_91

theorem ct_St_loop {l : Launch} {P : PP} {q : PL} {s s' : S1}  {r : Unit} (h : M_St_loop s = some (r, s')) : Ct l y_St_loop b_St_loop 7 none 3 64 P q s [.ref (q.1 129 0)] none q s' := by
  refine ct_of (by decide) (Nat.le_of_ble_eq_true rfl) fun X ls eP el g hR hl => ?_
  subst eP
  have hR : Rt X q ((r, s') : Unit × S1).2 none := hR
  have hl : lv_has ls 7 [(0, .ref (q.1 129 0))] := hl
  generalize (r, s') = o at h hR
  unfold M_St_loop at h
  refine ww_aload_n (pc := 0) g.1 d_St_loop_0 rfl (lv_at hl 0 rfl) ?_
  obtain ⟨v1, s, hc1, h⟩ := oB_of h
  refine ww_callV (pc := 1) (rest := []) g cv_St_hasLoopNumbers (Or.inl kw_1303) cl_St (pz rfl (by decide)) (ct_St_hasLoopNumbers hc1) ⟨by decide, by decide⟩ rfl hl.1 (Nat.le_of_ble_eq_true rfl) d_St_loop_1 rfl (?_)
  refine ww_st (st' := [.int v1]) rfl ?_
  refine ww_if_ne (pc := 4) (tgt := 8) g.1 d_St_loop_4 (by decide) h (fun c h => ?_) (fun c h => ?_)
  · refine ww_aload_n (pc := 8) g.1 d_St_loop_8 rfl (lv_at hl 0 rfl) ?_
    refine ww_aload_n (pc := 9) g.1 d_St_loop_9 rfl (lv_at hl 0 rfl) ?_
    refine ww_gI (pc := 10) g (k := 9) cl_St (pz rfl (by decide)) (by decide) (Or.inl kw_877) (f := 16521) rfl rfl d_St_loop_10 h fun v10 h => ?_
    refine ww_iconst (pc := 13) g.1 (v := 2) d_St_loop_13 (by decide) ?_
    refine ww_iadd (pc := 14) g.1 d_St_loop_14 ?_
    obtain ⟨v15, s, hc15, h⟩ := oB_of h
    refine ww_callV (pc := 15) (rest := []) g cv_St_valueOf (Or.inl kw_1120) cl_St (pz rfl (by decide)) (ct_St_valueOf hc15) ⟨by decide, by decide⟩ rfl hl.1 (Nat.le_of_ble_eq_true rfl) d_St_loop_15 rfl (?_)
    refine ww_st (st' := [.long v15]) rfl ?_
    refine ww_lstore_n (pc := 18) (i := 1) g.1 (lv' := [(1, .long v15), (0, .ref (q.1 129 0))]) d_St_loop_18 rfl hl (by decide) rfl fun ls hl => ?_
    refine ww_aload_n (pc := 19) g.1 d_St_loop_19 rfl (lv_at hl 1 rfl) ?_
    refine ww_aload_n (pc := 20) g.1 d_St_loop_20 rfl (lv_at hl 1 rfl) ?_
    refine ww_gI (pc := 21) g (k := 9) cl_St (pz rfl (by decide)) (by decide) (Or.inl kw_877) (f := 16521) rfl rfl d_St_loop_21 h fun v21 h => ?_
    obtain ⟨v24, s, hc24, h⟩ := oB_of h
    refine ww_callV (pc := 24) (rest := []) g cv_St_valueOf (Or.inl kw_1120) cl_St (pz rfl (by decide)) (ct_St_valueOf hc24) ⟨by decide, by decide⟩ rfl hl.1 (Nat.le_of_ble_eq_true rfl) d_St_loop_24 rfl (?_)
    refine ww_st (st' := [.long v24]) rfl ?_
    refine ww_lload_n (pc := 27) g.1 d_St_loop_27 rfl (lv_at hl 0 rfl) ?_
    refine ww_ladd (pc := 28) g.1 d_St_loop_28 ?_
    refine ww_letl h fun l3_29 h => ?_
    refine ww_lstore_n (pc := 29) (i := 3) g.1 (lv' := [(3, .long l3_29), (1, .long v15), (0, .ref (q.1 129 0))]) d_St_loop_29 rfl hl (by decide) rfl fun ls hl => ?_
    refine ww_aload_n (pc := 30) g.1 d_St_loop_30 rfl (lv_at hl 2 rfl) ?_
    refine ww_aload_n (pc := 31) g.1 d_St_loop_31 rfl (lv_at hl 2 rfl) ?_
    refine ww_gI (pc := 32) g (k := 9) cl_St (pz rfl (by decide)) (by decide) (Or.inl kw_877) (f := 16521) rfl rfl d_St_loop_32 h fun v32 h => ?_
    refine ww_iconst (pc := 35) g.1 (v := 1) d_St_loop_35 (by decide) ?_
    refine ww_iadd (pc := 36) g.1 d_St_loop_36 ?_
    obtain ⟨v37, s, hc37, h⟩ := oB_of h
    refine ww_callV (pc := 37) (rest := []) g cv_St_valueOf (Or.inl kw_1120) cl_St (pz rfl (by decide)) (ct_St_valueOf hc37) ⟨by decide, by decide⟩ rfl hl.1 (Nat.le_of_ble_eq_true rfl) d_St_loop_37 rfl (?_)
    refine ww_st (st' := [.long v37]) rfl ?_
    refine ww_lstore (pc := 40) (i := 5) g.1 (lv' := [(5, .long v37), (3, .long l3_29), (1, .long v15), (0, .ref (q.1 129 0))]) d_St_loop_40 hl (by decide) rfl fun ls hl => ?_
    refine ww_aload_n (pc := 42) g.1 d_St_loop_42 rfl (lv_at hl 3 rfl) ?_
    refine ww_aload_n (pc := 43) g.1 d_St_loop_43 rfl (lv_at hl 3 rfl) ?_
    refine ww_gI (pc := 44) g (k := 9) cl_St (pz rfl (by decide)) (by decide) (Or.inl kw_877) (f := 16521) rfl rfl d_St_loop_44 h fun v44 h => ?_
    refine ww_iconst (pc := 47) g.1 (v := 3) d_St_loop_47 (by decide) ?_
    refine ww_lload_n (pc := 48) g.1 d_St_loop_48 rfl (lv_at hl 1 rfl) ?_
    obtain ⟨v49, s, hc49, h⟩ := oB_of h
    refine ww_callV (pc := 49) (rest := []) g cv_St_set (Or.inl kw_928) cl_St (pz rfl (by decide)) (ct_St_set hc49) ⟨by decide, by decide⟩ rfl hl.1 (Nat.le_of_ble_eq_true rfl) d_St_loop_49 rfl (?_)
    refine ww_st (st' := []) rfl ?_
    refine ww_lload_n (pc := 52) g.1 d_St_loop_52 rfl (lv_at hl 2 rfl) ?_
    refine ww_lconst (pc := 53) g.1 (v := 0) d_St_loop_53 (by decide) ?_
    refine ww_lcmp (pc := 54) g.1 d_St_loop_54 ?_
    refine ww_if_le (pc := 55) (tgt := 68) g.1 d_St_loop_55 (by decide) h (fun c h => ?_) (fun c h => ?_)
    · refine ww_lload_n (pc := 68) g.1 d_St_loop_68 rfl (lv_at hl 1 rfl) ?_
      refine ww_lload (pc := 69) g.1 d_St_loop_69 (lv_at hl 0 rfl) ?_
      refine ww_lcmp (pc := 71) g.1 d_St_loop_71 ?_
      refine ww_if_lt (pc := 72) (tgt := 91) g.1 d_St_loop_72 (by decide) h (fun c h => ?_) (fun c h => ?_)
      · exact ww_vretH (pc := 91) g h hR d_St_loop_91
      · exact j_St_loop_j75 g hR l3_29 s ls (lv_sub hl [3, 1] rfl) h
    · refine ww_lload_n (pc := 58) g.1 d_St_loop_58 rfl (lv_at hl 1 rfl) ?_
      refine ww_lload (pc := 59) g.1 d_St_loop_59 (lv_at hl 0 rfl) ?_
      refine ww_lcmp (pc := 61) g.1 d_St_loop_61 ?_
      refine ww_if_gt (pc := 62) (tgt := 91) g.1 d_St_loop_62 (by decide) h (fun c h => ?_) (fun c h => ?_)
      · exact ww_vretH (pc := 91) g h hR d_St_loop_91
      · refine ww_goto (pc := 65) (tgt := 75) g.1 d_St_loop_65 (by decide) ?_
        exact j_St_loop_j75 g hR l3_29 s ls (lv_sub hl [3, 1] rfl) h
  · exact ww_vretH (pc := 7) g h hR d_St_loop_7


