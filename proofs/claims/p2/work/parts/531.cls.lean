abbrev b_St_loopOrTake : ByteArray := prog_10_method_34_code
def y_St_loopOrTake : MethodName := ⟨R_St, "loopOrTake", "()V"⟩
abbrev w_St_loopOrTake : List Cond := .code y_St_loopOrTake b_St_loopOrTake 1 none :: wA
theorem k_St_loopOrTake : Cond.code y_St_loopOrTake b_St_loopOrTake 1 none ∈ wA := kinm (show _ ∈ tables_1 from (List.mem_append_right _ (List.mem_append_right _ (List.mem_append_right _ (List.mem_append_right _ (List.mem_append_right _ (List.mem_append_right _ (List.mem_append_left _ (List.mem_of_getElem? (l := tables_1_7) (i := 189) (by decide +kernel)))))))))) (by decide +kernel)
theorem d_St_loopOrTake_0 : decode b_St_loopOrTake 0 = .ok (.aload_n 0, 1) := by decide +kernel
theorem d_St_loopOrTake_1 : decode b_St_loopOrTake 1 = .ok (.getfield 54, 3) := by decide +kernel
theorem d_St_loopOrTake_4 : decode b_St_loopOrTake 4 = .ok (.tableswitch 129 39 42 #[32, 39, 129, 81], 32) := by decide +kernel
theorem d_St_loopOrTake_36 : decode b_St_loopOrTake 36 = .ok (.aload_n 0, 1) := by decide +kernel
theorem d_St_loopOrTake_37 : decode b_St_loopOrTake 37 = .ok (.invokevirtual 376, 3) := by decide +kernel
theorem d_St_loopOrTake_40 : decode b_St_loopOrTake 40 = .ok (.goto 97, 3) := by decide +kernel
theorem d_St_loopOrTake_43 : decode b_St_loopOrTake 43 = .ok (.aload_n 0, 1) := by decide +kernel
theorem d_St_loopOrTake_44 : decode b_St_loopOrTake 44 = .ok (.invokevirtual 379, 3) := by decide +kernel
theorem d_St_loopOrTake_47 : decode b_St_loopOrTake 47 = .ok (.ifCond .eq 90, 3) := by decide +kernel
theorem d_St_loopOrTake_50 : decode b_St_loopOrTake 50 = .ok (.aload_n 0, 1) := by decide +kernel
theorem d_St_loopOrTake_51 : decode b_St_loopOrTake 51 = .ok (.aload_n 0, 1) := by decide +kernel
theorem d_St_loopOrTake_52 : decode b_St_loopOrTake 52 = .ok (.getfield 57, 3) := by decide +kernel
theorem d_St_loopOrTake_55 : decode b_St_loopOrTake 55 = .ok (.iconst 3, 1) := by decide +kernel
theorem d_St_loopOrTake_56 : decode b_St_loopOrTake 56 = .ok (.aload_n 0, 1) := by decide +kernel
theorem d_St_loopOrTake_57 : decode b_St_loopOrTake 57 = .ok (.aload_n 0, 1) := by decide +kernel
theorem d_St_loopOrTake_58 : decode b_St_loopOrTake 58 = .ok (.getfield 57, 3) := by decide +kernel
theorem d_St_loopOrTake_61 : decode b_St_loopOrTake 61 = .ok (.invokevirtual 80, 3) := by decide +kernel
theorem d_St_loopOrTake_64 : decode b_St_loopOrTake 64 = .ok (.aload_n 0, 1) := by decide +kernel
theorem d_St_loopOrTake_65 : decode b_St_loopOrTake 65 = .ok (.aload_n 0, 1) := by decide +kernel
theorem d_St_loopOrTake_66 : decode b_St_loopOrTake 66 = .ok (.getfield 57, 3) := by decide +kernel
theorem d_St_loopOrTake_69 : decode b_St_loopOrTake 69 = .ok (.iconst 2, 1) := by decide +kernel
theorem d_St_loopOrTake_70 : decode b_St_loopOrTake 70 = .ok (.iadd, 1) := by decide +kernel
theorem d_St_loopOrTake_71 : decode b_St_loopOrTake 71 = .ok (.invokevirtual 80, 3) := by decide +kernel
theorem d_St_loopOrTake_74 : decode b_St_loopOrTake 74 = .ok (.lsub, 1) := by decide +kernel
theorem d_St_loopOrTake_75 : decode b_St_loopOrTake 75 = .ok (.invokevirtual 176, 3) := by decide +kernel
theorem d_St_loopOrTake_78 : decode b_St_loopOrTake 78 = .ok (.aload_n 0, 1) := by decide +kernel
theorem d_St_loopOrTake_79 : decode b_St_loopOrTake 79 = .ok (.invokevirtual 314, 3) := by decide +kernel
theorem d_St_loopOrTake_82 : decode b_St_loopOrTake 82 = .ok (.goto 55, 3) := by decide +kernel
theorem d_St_loopOrTake_85 : decode b_St_loopOrTake 85 = .ok (.aload_n 0, 1) := by decide +kernel
theorem d_St_loopOrTake_86 : decode b_St_loopOrTake 86 = .ok (.aload_n 0, 1) := by decide +kernel
theorem d_St_loopOrTake_87 : decode b_St_loopOrTake 87 = .ok (.getfield 57, 3) := by decide +kernel
theorem d_St_loopOrTake_90 : decode b_St_loopOrTake 90 = .ok (.iconst 1, 1) := by decide +kernel
theorem d_St_loopOrTake_91 : decode b_St_loopOrTake 91 = .ok (.iadd, 1) := by decide +kernel
theorem d_St_loopOrTake_92 : decode b_St_loopOrTake 92 = .ok (.invokevirtual 77, 3) := by decide +kernel
theorem d_St_loopOrTake_95 : decode b_St_loopOrTake 95 = .ok (.ifCond .eq 42, 3) := by decide +kernel
theorem d_St_loopOrTake_98 : decode b_St_loopOrTake 98 = .ok (.aload_n 0, 1) := by decide +kernel
theorem d_St_loopOrTake_99 : decode b_St_loopOrTake 99 = .ok (.aload_n 0, 1) := by decide +kernel
theorem d_St_loopOrTake_100 : decode b_St_loopOrTake 100 = .ok (.getfield 57, 3) := by decide +kernel
theorem d_St_loopOrTake_103 : decode b_St_loopOrTake 103 = .ok (.aload_n 0, 1) := by decide +kernel
theorem d_St_loopOrTake_104 : decode b_St_loopOrTake 104 = .ok (.aload_n 0, 1) := by decide +kernel
theorem d_St_loopOrTake_105 : decode b_St_loopOrTake 105 = .ok (.getfield 57, 3) := by decide +kernel
theorem d_St_loopOrTake_108 : decode b_St_loopOrTake 108 = .ok (.iconst 1, 1) := by decide +kernel
theorem d_St_loopOrTake_109 : decode b_St_loopOrTake 109 = .ok (.iadd, 1) := by decide +kernel
theorem d_St_loopOrTake_110 : decode b_St_loopOrTake 110 = .ok (.invokevirtual 77, 3) := by decide +kernel
theorem d_St_loopOrTake_113 : decode b_St_loopOrTake 113 = .ok (.aload_n 0, 1) := by decide +kernel
theorem d_St_loopOrTake_114 : decode b_St_loopOrTake 114 = .ok (.aload_n 0, 1) := by decide +kernel
theorem d_St_loopOrTake_115 : decode b_St_loopOrTake 115 = .ok (.getfield 57, 3) := by decide +kernel
theorem d_St_loopOrTake_118 : decode b_St_loopOrTake 118 = .ok (.iconst 1, 1) := by decide +kernel
theorem d_St_loopOrTake_119 : decode b_St_loopOrTake 119 = .ok (.iadd, 1) := by decide +kernel
theorem d_St_loopOrTake_120 : decode b_St_loopOrTake 120 = .ok (.invokevirtual 80, 3) := by decide +kernel
theorem d_St_loopOrTake_123 : decode b_St_loopOrTake 123 = .ok (.invokevirtual 176, 3) := by decide +kernel
theorem d_St_loopOrTake_126 : decode b_St_loopOrTake 126 = .ok (.aload_n 0, 1) := by decide +kernel
theorem d_St_loopOrTake_127 : decode b_St_loopOrTake 127 = .ok (.invokevirtual 314, 3) := by decide +kernel
theorem d_St_loopOrTake_130 : decode b_St_loopOrTake 130 = .ok (.goto 7, 3) := by decide +kernel
theorem d_St_loopOrTake_133 : decode b_St_loopOrTake 133 = .ok (.aload_n 0, 1) := by decide +kernel
theorem d_St_loopOrTake_134 : decode b_St_loopOrTake 134 = .ok (.invokevirtual 383, 3) := by decide +kernel
theorem d_St_loopOrTake_137 : decode b_St_loopOrTake 137 = .ok (.return_, 1) := by decide +kernel
theorem kw_1384 : Cond.methodLink R_St 376 y_St_loop ∈ wA := kinm (show _ ∈ tables_1 from (List.mem_append_right _ (List.mem_append_right _ (List.mem_append_right _ (List.mem_append_right _ (List.mem_append_right _ (List.mem_append_right _ (List.mem_append_left _ (List.mem_of_getElem? (l := tables_1_7) (i := 190) (by decide +kernel)))))))))) (by decide +kernel)
theorem kw_1385 : Cond.methodLink R_St 383 y_St_takeFurther ∈ wA := kinm (show _ ∈ tables_1 from (List.mem_append_right _ (List.mem_append_right _ (List.mem_append_right _ (List.mem_append_right _ (List.mem_append_right _ (List.mem_append_right _ (List.mem_append_left _ (List.mem_of_getElem? (l := tables_1_7) (i := 198) (by decide +kernel)))))))))) (by decide +kernel)
theorem kw_1386 : Cond.instanceMethod y_St_loopOrTake ∈ wA := kinm (show _ ∈ tables_1 from (List.mem_append_right _ (List.mem_append_right _ (List.mem_append_right _ (List.mem_append_right _ (List.mem_append_right _ (List.mem_append_right _ (List.mem_append_left _ (List.mem_of_getElem? (l := tables_1_7) (i := 188) (by decide +kernel)))))))))) (by decide +kernel)
theorem kw_1387 : Cond.selects R_St y_St_loopOrTake y_St_loopOrTake ∈ wA := kinp 60 (by decide +kernel) (by decide +kernel)
theorem cv_St_loopOrTake : CV y_St_loopOrTake b_St_loopOrTake 1 none 0 := ⟨kw_1386, kw_1387, kw_883, k_St_loopOrTake, by decide +kernel⟩
theorem ct_St_loopOrTake {l : Launch} {P : PP} {q : PL} {s s' : S1}  {r : Unit} (h : M_St_loopOrTake s = some (r, s')) : Ct l y_St_loopOrTake b_St_loopOrTake 1 none 4 90 P q s [.ref (q.1 129 0)] none q s' := by
  refine ct_of (by decide) (Nat.le_of_ble_eq_true rfl) fun X ls eP el g hR hl => ?_
  subst eP
  have hR : Rt X q ((r, s') : Unit × S1).2 none := hR
  have hl : lv_has ls 1 [(0, .ref (q.1 129 0))] := hl
  generalize (r, s') = o at h hR
  unfold M_St_loopOrTake at h
  refine ww_aload_n (pc := 0) g.1 d_St_loopOrTake_0 rfl (lv_at hl 0 rfl) ?_
  refine ww_gI (pc := 1) g (k := 8) cl_St (pz rfl (by decide)) (by decide) (Or.inl kw_876) (f := 16520) rfl rfl d_St_loopOrTake_1 h fun v1 h => ?_
  by_cases c4_36 : v1 = 39
  · have h := oC_pos c4_36 h
    have c := c4_36
    refine ww_tableIn (pc := 4) (tgt := 36) g.1 d_St_loopOrTake_4 (by rw [c]; decide) (by rw [c]; decide) (by rw [c] <;> rfl) (by decide) ?_
    refine ww_aload_n (pc := 36) g.1 d_St_loopOrTake_36 rfl (lv_at hl 0 rfl) ?_
    obtain ⟨v37, s, hc37, h⟩ := oB_of h
    refine ww_callV (pc := 37) (rest := []) g cv_St_loop (Or.inl kw_1384) cl_St (pz rfl (by decide)) (ct_St_loop hc37) ⟨by decide, by decide⟩ rfl hl.1 (Nat.le_of_ble_eq_true rfl) d_St_loopOrTake_37 rfl (?_)
    refine ww_st (st' := []) rfl ?_
    refine ww_goto (pc := 40) (tgt := 137) g.1 d_St_loopOrTake_40 (by decide) ?_
    exact ww_vretH (pc := 137) g h hR d_St_loopOrTake_137
  have h := oC_neg c4_36 h
  by_cases c4_43 : v1 = 40
  · have h := oC_pos c4_43 h
    have c := c4_43
    refine ww_tableIn (pc := 4) (tgt := 43) g.1 d_St_loopOrTake_4 (by rw [c]; decide) (by rw [c]; decide) (by rw [c] <;> rfl) (by decide) ?_
    refine ww_aload_n (pc := 43) g.1 d_St_loopOrTake_43 rfl (lv_at hl 0 rfl) ?_
    obtain ⟨v44, s, hc44, h⟩ := oB_of h
    refine ww_callV (pc := 44) (rest := []) g cv_St_hasLoopNumbers (Or.inl kw_1303) cl_St (pz rfl (by decide)) (ct_St_hasLoopNumbers hc44) ⟨by decide, by decide⟩ rfl hl.1 (Nat.le_of_ble_eq_true rfl) d_St_loopOrTake_44 rfl (?_)
    refine ww_st (st' := [.int v44]) rfl ?_
    refine ww_if_eq (pc := 47) (tgt := 137) g.1 d_St_loopOrTake_47 (by decide) h (fun c h => ?_) (fun c h => ?_)
    · exact ww_vretH (pc := 137) g h hR d_St_loopOrTake_137
    · refine ww_aload_n (pc := 50) g.1 d_St_loopOrTake_50 rfl (lv_at hl 0 rfl) ?_
      refine ww_aload_n (pc := 51) g.1 d_St_loopOrTake_51 rfl (lv_at hl 0 rfl) ?_
      refine ww_gI (pc := 52) g (k := 9) cl_St (pz rfl (by decide)) (by decide) (Or.inl kw_877) (f := 16521) rfl rfl d_St_loopOrTake_52 h fun v52 h => ?_
      refine ww_iconst (pc := 55) g.1 (v := 3) d_St_loopOrTake_55 (by decide) ?_
      refine ww_aload_n (pc := 56) g.1 d_St_loopOrTake_56 rfl (lv_at hl 0 rfl) ?_
      refine ww_aload_n (pc := 57) g.1 d_St_loopOrTake_57 rfl (lv_at hl 0 rfl) ?_
      refine ww_gI (pc := 58) g (k := 9) cl_St (pz rfl (by decide)) (by decide) (Or.inl kw_877) (f := 16521) rfl rfl d_St_loopOrTake_58 h fun v58 h => ?_
      obtain ⟨v61, s, hc61, h⟩ := oB_of h
      refine ww_callV (pc := 61) (rest := [.int 3, .int v52, .ref (q.1 129 0)]) g cv_St_valueOf (Or.inl kw_1120) cl_St (pz rfl (by decide)) (ct_St_valueOf hc61) ⟨by decide, by decide⟩ rfl hl.1 (Nat.le_of_ble_eq_true rfl) d_St_loopOrTake_61 rfl (?_)
      refine ww_st (st' := [.long v61, .int 3, .int v52, .ref (q.1 129 0)]) rfl ?_
      refine ww_aload_n (pc := 64) g.1 d_St_loopOrTake_64 rfl (lv_at hl 0 rfl) ?_
      refine ww_aload_n (pc := 65) g.1 d_St_loopOrTake_65 rfl (lv_at hl 0 rfl) ?_
      refine ww_gI (pc := 66) g (k := 9) cl_St (pz rfl (by decide)) (by decide) (Or.inl kw_877) (f := 16521) rfl rfl d_St_loopOrTake_66 h fun v66 h => ?_
      refine ww_iconst (pc := 69) g.1 (v := 2) d_St_loopOrTake_69 (by decide) ?_
      refine ww_iadd (pc := 70) g.1 d_St_loopOrTake_70 ?_
      obtain ⟨v71, s, hc71, h⟩ := oB_of h
      refine ww_callV (pc := 71) (rest := [.long v61, .int 3, .int v52, .ref (q.1 129 0)]) g cv_St_valueOf (Or.inl kw_1120) cl_St (pz rfl (by decide)) (ct_St_valueOf hc71) ⟨by decide, by decide⟩ rfl hl.1 (Nat.le_of_ble_eq_true rfl) d_St_loopOrTake_71 rfl (?_)
      refine ww_st (st' := [.long v71, .long v61, .int 3, .int v52, .ref (q.1 129 0)]) rfl ?_
      refine ww_lsub (pc := 74) g.1 d_St_loopOrTake_74 ?_
      obtain ⟨v75, s, hc75, h⟩ := oB_of h
      refine ww_callV (pc := 75) (rest := []) g cv_St_set (Or.inl kw_928) cl_St (pz rfl (by decide)) (ct_St_set hc75) ⟨by decide, by decide⟩ rfl hl.1 (Nat.le_of_ble_eq_true rfl) d_St_loopOrTake_75 rfl (?_)
      refine ww_st (st' := []) rfl ?_
      refine ww_aload_n (pc := 78) g.1 d_St_loopOrTake_78 rfl (lv_at hl 0 rfl) ?_
      obtain ⟨v79, s, hc79, h⟩ := oB_of h
      refine ww_callV (pc := 79) (rest := []) g cv_St_jump (Or.inl kw_1290) cl_St (pz rfl (by decide)) (ct_St_jump hc79) ⟨by decide, by decide⟩ rfl hl.1 (Nat.le_of_ble_eq_true rfl) d_St_loopOrTake_79 rfl (?_)
      refine ww_st (st' := []) rfl ?_
      refine ww_goto (pc := 82) (tgt := 137) g.1 d_St_loopOrTake_82 (by decide) ?_
      exact ww_vretH (pc := 137) g h hR d_St_loopOrTake_137
  have h := oC_neg c4_43 h
  by_cases c4_85 : v1 = 42
  · have h := oC_pos c4_85 h
    have c := c4_85
    refine ww_tableIn (pc := 4) (tgt := 85) g.1 d_St_loopOrTake_4 (by rw [c]; decide) (by rw [c]; decide) (by rw [c] <;> rfl) (by decide) ?_
    refine ww_aload_n (pc := 85) g.1 d_St_loopOrTake_85 rfl (lv_at hl 0 rfl) ?_
    refine ww_aload_n (pc := 86) g.1 d_St_loopOrTake_86 rfl (lv_at hl 0 rfl) ?_
    refine ww_gI (pc := 87) g (k := 9) cl_St (pz rfl (by decide)) (by decide) (Or.inl kw_877) (f := 16521) rfl rfl d_St_loopOrTake_87 h fun v87 h => ?_
    refine ww_iconst (pc := 90) g.1 (v := 1) d_St_loopOrTake_90 (by decide) ?_
    refine ww_iadd (pc := 91) g.1 d_St_loopOrTake_91 ?_
    obtain ⟨v92, s, hc92, h⟩ := oB_of h
    refine ww_callV (pc := 92) (rest := []) g cv_St_kindOf (Or.inl kw_914) cl_St (pz rfl (by decide)) (ct_St_kindOf hc92) ⟨by decide, by decide⟩ rfl hl.1 (Nat.le_of_ble_eq_true rfl) d_St_loopOrTake_92 rfl (?_)
    refine ww_st (st' := [.int v92]) rfl ?_
    refine ww_if_eq (pc := 95) (tgt := 137) g.1 d_St_loopOrTake_95 (by decide) h (fun c h => ?_) (fun c h => ?_)
    · exact ww_vretH (pc := 137) g h hR d_St_loopOrTake_137
    · refine ww_aload_n (pc := 98) g.1 d_St_loopOrTake_98 rfl (lv_at hl 0 rfl) ?_
      refine ww_aload_n (pc := 99) g.1 d_St_loopOrTake_99 rfl (lv_at hl 0 rfl) ?_
      refine ww_gI (pc := 100) g (k := 9) cl_St (pz rfl (by decide)) (by decide) (Or.inl kw_877) (f := 16521) rfl rfl d_St_loopOrTake_100 h fun v100 h => ?_
      refine ww_aload_n (pc := 103) g.1 d_St_loopOrTake_103 rfl (lv_at hl 0 rfl) ?_
      refine ww_aload_n (pc := 104) g.1 d_St_loopOrTake_104 rfl (lv_at hl 0 rfl) ?_
      refine ww_gI (pc := 105) g (k := 9) cl_St (pz rfl (by decide)) (by decide) (Or.inl kw_877) (f := 16521) rfl rfl d_St_loopOrTake_105 h fun v105 h => ?_
      refine ww_iconst (pc := 108) g.1 (v := 1) d_St_loopOrTake_108 (by decide) ?_
      refine ww_iadd (pc := 109) g.1 d_St_loopOrTake_109 ?_
      obtain ⟨v110, s, hc110, h⟩ := oB_of h
      refine ww_callV (pc := 110) (rest := [.int v100, .ref (q.1 129 0)]) g cv_St_kindOf (Or.inl kw_914) cl_St (pz rfl (by decide)) (ct_St_kindOf hc110) ⟨by decide, by decide⟩ rfl hl.1 (Nat.le_of_ble_eq_true rfl) d_St_loopOrTake_110 rfl (?_)
      refine ww_st (st' := [.int v110, .int v100, .ref (q.1 129 0)]) rfl ?_
      refine ww_aload_n (pc := 113) g.1 d_St_loopOrTake_113 rfl (lv_at hl 0 rfl) ?_
      refine ww_aload_n (pc := 114) g.1 d_St_loopOrTake_114 rfl (lv_at hl 0 rfl) ?_
      refine ww_gI (pc := 115) g (k := 9) cl_St (pz rfl (by decide)) (by decide) (Or.inl kw_877) (f := 16521) rfl rfl d_St_loopOrTake_115 h fun v115 h => ?_
      refine ww_iconst (pc := 118) g.1 (v := 1) d_St_loopOrTake_118 (by decide) ?_
      refine ww_iadd (pc := 119) g.1 d_St_loopOrTake_119 ?_
      obtain ⟨v120, s, hc120, h⟩ := oB_of h
      refine ww_callV (pc := 120) (rest := [.int v110, .int v100, .ref (q.1 129 0)]) g cv_St_valueOf (Or.inl kw_1120) cl_St (pz rfl (by decide)) (ct_St_valueOf hc120) ⟨by decide, by decide⟩ rfl hl.1 (Nat.le_of_ble_eq_true rfl) d_St_loopOrTake_120 rfl (?_)
      refine ww_st (st' := [.long v120, .int v110, .int v100, .ref (q.1 129 0)]) rfl ?_
      obtain ⟨v123, s, hc123, h⟩ := oB_of h
      refine ww_callV (pc := 123) (rest := []) g cv_St_set (Or.inl kw_928) cl_St (pz rfl (by decide)) (ct_St_set hc123) ⟨by decide, by decide⟩ rfl hl.1 (Nat.le_of_ble_eq_true rfl) d_St_loopOrTake_123 rfl (?_)
      refine ww_st (st' := []) rfl ?_
      refine ww_aload_n (pc := 126) g.1 d_St_loopOrTake_126 rfl (lv_at hl 0 rfl) ?_
      obtain ⟨v127, s, hc127, h⟩ := oB_of h
      refine ww_callV (pc := 127) (rest := []) g cv_St_jump (Or.inl kw_1290) cl_St (pz rfl (by decide)) (ct_St_jump hc127) ⟨by decide, by decide⟩ rfl hl.1 (Nat.le_of_ble_eq_true rfl) d_St_loopOrTake_127 rfl (?_)
      refine ww_st (st' := []) rfl ?_
      refine ww_goto (pc := 130) (tgt := 137) g.1 d_St_loopOrTake_130 (by decide) ?_
      exact ww_vretH (pc := 137) g h hR d_St_loopOrTake_137
  have h := oC_neg c4_85 h
  have n_39 : ¬ v1.toInt = 39 := lv_neT (fun e => c4_36 e) rfl
  have n_40 : ¬ v1.toInt = 40 := lv_neT (fun e => c4_43 e) rfl
  have n_42 : ¬ v1.toInt = 42 := lv_neT (fun e => c4_85 e) rfl
  by_cases hr : v1.toInt < 39 ∨ 42 < v1.toInt
  · refine ww_tableOut (pc := 4) (tgt := 133) g.1 d_St_loopOrTake_4 hr (by decide) ?_
    refine ww_aload_n (pc := 133) g.1 d_St_loopOrTake_133 rfl (lv_at hl 0 rfl) ?_
    obtain ⟨v134, s, hc134, h⟩ := oB_of h
    refine ww_callV (pc := 134) (rest := []) g cv_St_takeFurther (Or.inl kw_1385) cl_St (pz rfl (by decide)) (ct_St_takeFurther hc134) ⟨by decide, by decide⟩ rfl hl.1 (Nat.le_of_ble_eq_true rfl) d_St_loopOrTake_134 rfl (?_)
    refine ww_st (st' := []) rfl ?_
    exact ww_vretH (pc := 137) g h hR d_St_loopOrTake_137
  have hh : v1.toInt = 41 := by omega
  have c := hh
  refine ww_tableIn (pc := 4) (tgt := 133) g.1 d_St_loopOrTake_4 (by rw [c]; decide) (by rw [c]; decide) (by rw [c] <;> rfl) (by decide) ?_
  refine ww_aload_n (pc := 133) g.1 d_St_loopOrTake_133 rfl (lv_at hl 0 rfl) ?_
  obtain ⟨v134, s, hc134, h⟩ := oB_of h
  refine ww_callV (pc := 134) (rest := []) g cv_St_takeFurther (Or.inl kw_1385) cl_St (pz rfl (by decide)) (ct_St_takeFurther hc134) ⟨by decide, by decide⟩ rfl hl.1 (Nat.le_of_ble_eq_true rfl) d_St_loopOrTake_134 rfl (?_)
  refine ww_st (st' := []) rfl ?_
  exact ww_vretH (pc := 137) g h hR d_St_loopOrTake_137

abbrev b_Ma_enter : ByteArray := prog_7_method_12_code
def y_Ma_enter : MethodName := ⟨R_Ma, "enter", "()V"⟩
abbrev w_Ma_enter : List Cond := .code y_Ma_enter b_Ma_enter 3 none :: wA
set_option maxRecDepth 20000 in
theorem k_Ma_enter : Cond.code y_Ma_enter b_Ma_enter 3 none ∈ wA := kinm (show _ ∈ tables_1 from (List.mem_append_right _ (List.mem_append_right _ (List.mem_append_right _ (List.mem_append_right _ (List.mem_append_right _ (List.mem_append_right _ (List.mem_append_left _ (List.mem_of_getElem? (l := tables_1_7) (i := 206) rfl))))))))) rfl
theorem d_Ma_enter_0 : decode b_Ma_enter 0 = .ok (.iconst 1, 1) := by decide +kernel
theorem d_Ma_enter_1 : decode b_Ma_enter 1 = .ok (.istore_n 1, 1) := by decide +kernel
theorem d_Ma_enter_2 : decode b_Ma_enter 2 = .ok (.iload_n 1, 1) := by decide +kernel
theorem d_Ma_enter_3 : decode b_Ma_enter 3 = .ok (.bipush 100, 2) := by decide +kernel
theorem d_Ma_enter_5 : decode b_Ma_enter 5 = .ok (.if_icmp .gt 98, 3) := by decide +kernel
theorem d_Ma_enter_8 : decode b_Ma_enter 8 = .ok (.aload_n 0, 1) := by decide +kernel
theorem d_Ma_enter_9 : decode b_Ma_enter 9 = .ok (.getfield 216, 3) := by decide +kernel
theorem d_Ma_enter_12 : decode b_Ma_enter 12 = .ok (.bipush 6, 2) := by decide +kernel
theorem d_Ma_enter_14 : decode b_Ma_enter 14 = .ok (.if_icmp .eq 89, 3) := by decide +kernel
theorem d_Ma_enter_17 : decode b_Ma_enter 17 = .ok (.aload_n 0, 1) := by decide +kernel
theorem d_Ma_enter_18 : decode b_Ma_enter 18 = .ok (.getfield 35, 3) := by decide +kernel
theorem d_Ma_enter_21 : decode b_Ma_enter 21 = .ok (.aload_n 0, 1) := by decide +kernel
theorem d_Ma_enter_22 : decode b_Ma_enter 22 = .ok (.getfield 216, 3) := by decide +kernel
theorem d_Ma_enter_25 : decode b_Ma_enter 25 = .ok (.aload_n 0, 1) := by decide +kernel
theorem d_Ma_enter_26 : decode b_Ma_enter 26 = .ok (.getfield 222, 3) := by decide +kernel
theorem d_Ma_enter_29 : decode b_Ma_enter 29 = .ok (.iconst 2, 1) := by decide +kernel
theorem d_Ma_enter_30 : decode b_Ma_enter 30 = .ok (.invokevirtual 225, 3) := by decide +kernel
theorem d_Ma_enter_33 : decode b_Ma_enter 33 = .ok (.istore_n 2, 1) := by decide +kernel
theorem d_Ma_enter_34 : decode b_Ma_enter 34 = .ok (.iload_n 2, 1) := by decide +kernel
theorem d_Ma_enter_35 : decode b_Ma_enter 35 = .ok (.ifCond .ge 9, 3) := by decide +kernel
theorem d_Ma_enter_38 : decode b_Ma_enter 38 = .ok (.aload_n 0, 1) := by decide +kernel
theorem d_Ma_enter_39 : decode b_Ma_enter 39 = .ok (.iconst 1, 1) := by decide +kernel
theorem d_Ma_enter_40 : decode b_Ma_enter 40 = .ok (.invokevirtual 229, 3) := by decide +kernel
theorem d_Ma_enter_43 : decode b_Ma_enter 43 = .ok (.return_, 1) := by decide +kernel
theorem d_Ma_enter_44 : decode b_Ma_enter 44 = .ok (.iload_n 1, 1) := by decide +kernel
theorem d_Ma_enter_45 : decode b_Ma_enter 45 = .ok (.bipush 100, 2) := by decide +kernel
theorem d_Ma_enter_47 : decode b_Ma_enter 47 = .ok (.if_icmp .ne 9, 3) := by decide +kernel
theorem d_Ma_enter_50 : decode b_Ma_enter 50 = .ok (.aload_n 0, 1) := by decide +kernel
theorem d_Ma_enter_51 : decode b_Ma_enter 51 = .ok (.iconst 4, 1) := by decide +kernel
theorem d_Ma_enter_52 : decode b_Ma_enter 52 = .ok (.invokevirtual 229, 3) := by decide +kernel
theorem d_Ma_enter_55 : decode b_Ma_enter 55 = .ok (.return_, 1) := by decide +kernel
theorem d_Ma_enter_56 : decode b_Ma_enter 56 = .ok (.aload_n 0, 1) := by decide +kernel
theorem d_Ma_enter_57 : decode b_Ma_enter 57 = .ok (.getfield 12, 3) := by decide +kernel
theorem d_Ma_enter_60 : decode b_Ma_enter 60 = .ok (.aload_n 0, 1) := by decide +kernel
theorem d_Ma_enter_61 : decode b_Ma_enter 61 = .ok (.getfield 216, 3) := by decide +kernel
theorem d_Ma_enter_64 : decode b_Ma_enter 64 = .ok (.aload_n 0, 1) := by decide +kernel
theorem d_Ma_enter_65 : decode b_Ma_enter 65 = .ok (.getfield 222, 3) := by decide +kernel
theorem d_Ma_enter_68 : decode b_Ma_enter 68 = .ok (.invokevirtual 232, 3) := by decide +kernel
theorem d_Ma_enter_71 : decode b_Ma_enter 71 = .ok (.aload_n 0, 1) := by decide +kernel
theorem d_Ma_enter_72 : decode b_Ma_enter 72 = .ok (.aload_n 0, 1) := by decide +kernel
theorem d_Ma_enter_73 : decode b_Ma_enter 73 = .ok (.getfield 35, 3) := by decide +kernel
theorem d_Ma_enter_76 : decode b_Ma_enter 76 = .ok (.getfield 213, 3) := by decide +kernel
theorem d_Ma_enter_79 : decode b_Ma_enter 79 = .ok (.iload_n 2, 1) := by decide +kernel
theorem d_Ma_enter_80 : decode b_Ma_enter 80 = .ok (.baload, 1) := by decide +kernel
theorem d_Ma_enter_81 : decode b_Ma_enter 81 = .ok (.putfield 216, 3) := by decide +kernel
theorem d_Ma_enter_84 : decode b_Ma_enter 84 = .ok (.aload_n 0, 1) := by decide +kernel
theorem d_Ma_enter_85 : decode b_Ma_enter 85 = .ok (.aload_n 0, 1) := by decide +kernel
theorem d_Ma_enter_86 : decode b_Ma_enter 86 = .ok (.getfield 35, 3) := by decide +kernel
theorem d_Ma_enter_89 : decode b_Ma_enter 89 = .ok (.getfield 219, 3) := by decide +kernel
theorem d_Ma_enter_92 : decode b_Ma_enter 92 = .ok (.iload_n 2, 1) := by decide +kernel
theorem d_Ma_enter_93 : decode b_Ma_enter 93 = .ok (.laload, 1) := by decide +kernel
theorem d_Ma_enter_94 : decode b_Ma_enter 94 = .ok (.putfield 222, 3) := by decide +kernel
theorem d_Ma_enter_97 : decode b_Ma_enter 97 = .ok (.iinc 1 1, 3) := by decide +kernel
theorem d_Ma_enter_100 : decode b_Ma_enter 100 = .ok (.goto (-98), 3) := by decide +kernel
theorem d_Ma_enter_103 : decode b_Ma_enter 103 = .ok (.aload_n 0, 1) := by decide +kernel
theorem d_Ma_enter_104 : decode b_Ma_enter 104 = .ok (.getfield 12, 3) := by decide +kernel
theorem d_Ma_enter_107 : decode b_Ma_enter 107 = .ok (.getfield 235, 3) := by decide +kernel
theorem d_Ma_enter_110 : decode b_Ma_enter 110 = .ok (.sipush 250, 3) := by decide +kernel
theorem d_Ma_enter_113 : decode b_Ma_enter 113 = .ok (.if_icmp .le 12, 3) := by decide +kernel
theorem d_Ma_enter_116 : decode b_Ma_enter 116 = .ok (.aload_n 0, 1) := by decide +kernel
theorem d_Ma_enter_117 : decode b_Ma_enter 117 = .ok (.bipush 7, 2) := by decide +kernel
theorem d_Ma_enter_119 : decode b_Ma_enter 119 = .ok (.invokevirtual 229, 3) := by decide +kernel
theorem d_Ma_enter_122 : decode b_Ma_enter 122 = .ok (.goto 62, 3) := by decide +kernel
theorem d_Ma_enter_125 : decode b_Ma_enter 125 = .ok (.aload_n 0, 1) := by decide +kernel
theorem d_Ma_enter_126 : decode b_Ma_enter 126 = .ok (.getfield 222, 3) := by decide +kernel
theorem d_Ma_enter_129 : decode b_Ma_enter 129 = .ok (.lconst 0, 1) := by decide +kernel
theorem d_Ma_enter_130 : decode b_Ma_enter 130 = .ok (.lcmp, 1) := by decide +kernel
theorem d_Ma_enter_131 : decode b_Ma_enter 131 = .ok (.ifCond .ge 11, 3) := by decide +kernel
theorem d_Ma_enter_134 : decode b_Ma_enter 134 = .ok (.aload_n 0, 1) := by decide +kernel
theorem d_Ma_enter_135 : decode b_Ma_enter 135 = .ok (.iconst 2, 1) := by decide +kernel
theorem d_Ma_enter_136 : decode b_Ma_enter 136 = .ok (.putfield 61, 3) := by decide +kernel
theorem d_Ma_enter_139 : decode b_Ma_enter 139 = .ok (.goto 45, 3) := by decide +kernel
theorem d_Ma_enter_142 : decode b_Ma_enter 142 = .ok (.aload_n 0, 1) := by decide +kernel
theorem d_Ma_enter_143 : decode b_Ma_enter 143 = .ok (.getfield 31, 3) := by decide +kernel
theorem d_Ma_enter_146 : decode b_Ma_enter 146 = .ok (.getfield 120, 3) := by decide +kernel
theorem d_Ma_enter_149 : decode b_Ma_enter 149 = .ok (.aload_n 0, 1) := by decide +kernel
theorem d_Ma_enter_150 : decode b_Ma_enter 150 = .ok (.getfield 222, 3) := by decide +kernel
theorem d_Ma_enter_153 : decode b_Ma_enter 153 = .ok (.l2i, 1) := by decide +kernel
theorem d_Ma_enter_154 : decode b_Ma_enter 154 = .ok (.aaload, 1) := by decide +kernel
theorem d_Ma_enter_155 : decode b_Ma_enter 155 = .ok (.getfield 238, 3) := by decide +kernel
theorem d_Ma_enter_158 : decode b_Ma_enter 158 = .ok (.bipush 9, 2) := by decide +kernel
theorem d_Ma_enter_160 : decode b_Ma_enter 160 = .ok (.if_icmp .ne 15, 3) := by decide +kernel
theorem d_Ma_enter_163 : decode b_Ma_enter 163 = .ok (.aload_n 0, 1) := by decide +kernel
theorem d_Ma_enter_164 : decode b_Ma_enter 164 = .ok (.aload_n 0, 1) := by decide +kernel
theorem d_Ma_enter_165 : decode b_Ma_enter 165 = .ok (.getfield 222, 3) := by decide +kernel
theorem d_Ma_enter_168 : decode b_Ma_enter 168 = .ok (.l2i, 1) := by decide +kernel
theorem d_Ma_enter_169 : decode b_Ma_enter 169 = .ok (.invokevirtual 241, 3) := by decide +kernel
theorem d_Ma_enter_172 : decode b_Ma_enter 172 = .ok (.goto 12, 3) := by decide +kernel
theorem d_Ma_enter_175 : decode b_Ma_enter 175 = .ok (.aload_n 0, 1) := by decide +kernel
theorem d_Ma_enter_176 : decode b_Ma_enter 176 = .ok (.aload_n 0, 1) := by decide +kernel
theorem d_Ma_enter_177 : decode b_Ma_enter 177 = .ok (.getfield 222, 3) := by decide +kernel
theorem d_Ma_enter_180 : decode b_Ma_enter 180 = .ok (.l2i, 1) := by decide +kernel
theorem d_Ma_enter_181 : decode b_Ma_enter 181 = .ok (.invokevirtual 180, 3) := by decide +kernel
theorem d_Ma_enter_184 : decode b_Ma_enter 184 = .ok (.return_, 1) := by decide +kernel
theorem kw_1388 : Cond.methodLink R_Ma 225 y_Ta_findEvent ∈ wA := kinm (show _ ∈ tables_1 from (List.mem_append_right _ (List.mem_append_right _ (List.mem_append_right _ (List.mem_append_right _ (List.mem_append_right _ (List.mem_append_right _ (List.mem_append_left _ (List.mem_of_getElem? (l := tables_1_7) (i := 207) (by decide +kernel)))))))))) (by decide +kernel)
theorem kw_1389 : Cond.fieldLink R_Ma 238 "LuaMachine$Thing" "type" "I" ∈ wA := kinm (show _ ∈ tables_1 from (List.mem_append_right _ (List.mem_append_right _ (List.mem_append_right _ (List.mem_append_right _ (List.mem_append_left _ (List.mem_of_getElem? (l := tables_1_5) (i := 173) (by decide +kernel)))))))) (by decide +kernel)
theorem kw_1390 : Cond.methodLink R_Ma 180 y_Ma_enterClosure ∈ wA := kinm (show _ ∈ tables_1 from (List.mem_append_right _ (List.mem_append_right _ (List.mem_append_right _ (List.mem_append_right _ (List.mem_append_right _ (List.mem_append_left _ (List.mem_of_getElem? (l := tables_1_6) (i := 208) (by decide +kernel))))))))) (by decide +kernel)
theorem kw_1391 : Cond.methodLink R_Ma 241 y_Ma_callWrapper ∈ wA := kinm (show _ ∈ tables_1 from (List.mem_append_right _ (List.mem_append_right _ (List.mem_append_right _ (List.mem_append_right _ (List.mem_append_right _ (List.mem_append_right _ (List.mem_append_left _ (List.mem_of_getElem? (l := tables_1_7) (i := 213) (by decide +kernel)))))))))) (by decide +kernel)
theorem kw_1392 : Cond.instanceMethod y_Ma_enter ∈ wA := kinm (show _ ∈ tables_1 from (List.mem_append_right _ (List.mem_append_right _ (List.mem_append_right _ (List.mem_append_right _ (List.mem_append_right _ (List.mem_append_right _ (List.mem_append_left _ (List.mem_of_getElem? (l := tables_1_7) (i := 204) (by decide +kernel)))))))))) (by decide +kernel)
theorem kw_1393 : Cond.selects R_Ma y_Ma_enter y_Ma_enter ∈ wA := kinm (show _ ∈ tables_1 from (List.mem_append_right _ (List.mem_append_right _ (List.mem_append_right _ (List.mem_append_right _ (List.mem_append_right _ (List.mem_append_right _ (List.mem_append_left _ (List.mem_of_getElem? (l := tables_1_7) (i := 205) (by decide +kernel)))))))))) (by decide +kernel)
theorem cv_Ma_enter : CV y_Ma_enter b_Ma_enter 3 none 0 := ⟨kw_1392, kw_1393, kw_838, k_Ma_enter, by decide +kernel⟩
theorem lp_Ma_enter_L2 {X : Cx} {q : PL} (g : Gd X y_Ma_enter b_Ma_enter 3 none 4 90 R_Ma) (x : Int32) (s : S1) (o : ((Int32) ⊕ ((Unit) ⊕ (Unit) ⊕ (Unit))) × S1) (h : M_Ma_enter_L2 x s = some o) (hR : (Sum.elim (fun y : Int32 => ∀ ls : Array Slot, lv_has ls 3 [(0, .ref (q.1 128 0)), (1, .int y)] → WW X q o.2 2 ls []) (Sum.elim (fun y : Unit => ∀ ls : Array Slot, lv_has ls 3 [(0, .ref (q.1 128 0))] → WW X q o.2 38 ls []) (Sum.elim (fun y : Unit => ∀ ls : Array Slot, lv_has ls 3 [(0, .ref (q.1 128 0))] → WW X q o.2 50 ls []) (fun y : Unit => ∀ ls : Array Slot, lv_has ls 3 [(0, .ref (q.1 128 0))] → WW X q o.2 103 ls []))) o.1)) : ∀ ls : Array Slot, lv_has ls 3 [(0, .ref (q.1 128 0)), (1, .int x)] → WW X q s 2 ls [] := by
  intro ls hl
  unfold M_Ma_enter_L2 at h
  refine ww_iload_n (pc := 2) g.1 d_Ma_enter_2 rfl (lv_at hl 1 rfl) ?_
  refine ww_bipush (pc := 3) g.1 (v := 100) d_Ma_enter_3 (by decide) ?_
  refine ww_icmp_gt (pc := 5) (tgt := 103) g.1 d_Ma_enter_5 (by decide) h (fun c h => ?_) (fun c h => ?_)
  · rw [oR_eq h] at hR
    exact hR ls (lv_sub hl [0] rfl)
  · refine ww_aload_n (pc := 8) g.1 d_Ma_enter_8 rfl (lv_at hl 0 rfl) ?_
    refine ww_gI (pc := 9) g (k := 13) cl_Ma (pz rfl (by decide)) (by decide) (Or.inl kw_1095) (f := 16397) rfl rfl d_Ma_enter_9 h fun v9 h => ?_
    refine ww_bipush (pc := 12) g.1 (v := 6) d_Ma_enter_12 (by decide) ?_
    refine ww_icmp_eq (pc := 14) (tgt := 103) g.1 d_Ma_enter_14 (by decide) h (fun c h => ?_) (fun c h => ?_)
    · rw [oR_eq h] at hR
      exact hR ls (lv_sub hl [0] rfl)
    · refine ww_aload_n (pc := 17) g.1 d_Ma_enter_17 rfl (lv_at hl 0 rfl) ?_
      refine ww_gR (pc := 18) g (k := 2) cl_Ma (pz rfl (by decide)) (by decide) (Or.inl kw_1093) (f := 16386) (t := 120) rfl rfl rfl d_Ma_enter_18 ?_
      refine ww_aload_n (pc := 21) g.1 d_Ma_enter_21 rfl (lv_at hl 0 rfl) ?_
      refine ww_gI (pc := 22) g (k := 13) cl_Ma (pz rfl (by decide)) (by decide) (Or.inl kw_1095) (f := 16397) rfl rfl d_Ma_enter_22 h fun v22 h => ?_
      refine ww_aload_n (pc := 25) g.1 d_Ma_enter_25 rfl (lv_at hl 0 rfl) ?_
      refine ww_gL (pc := 26) g (k := 14) cl_Ma (pz rfl (by decide)) (by decide) (Or.inl kw_1097) (f := 16398) rfl rfl d_Ma_enter_26 h fun v26 h => ?_
      refine ww_iconst (pc := 29) g.1 (v := 2) d_Ma_enter_29 (by decide) ?_
      obtain ⟨v30, s, hc30, h⟩ := oB_of h
      refine ww_callV (pc := 30) (rest := []) g cv_Ta_findEvent (Or.inl kw_1388) cl_Ta (pz rfl (by decide)) (ct_Ta_findEvent hc30) ⟨by decide, by decide⟩ rfl hl.1 (Nat.le_of_ble_eq_true rfl) d_Ma_enter_30 rfl (?_)
      refine ww_st (st' := [.int v30]) rfl ?_
      refine ww_istore_n (pc := 33) (i := 2) g.1 (lv' := [(2, .int v30), (0, .ref (q.1 128 0)), (1, .int x)]) d_Ma_enter_33 rfl hl (by decide) rfl fun ls hl => ?_
      refine ww_iload_n (pc := 34) g.1 d_Ma_enter_34 rfl (lv_at hl 0 rfl) ?_
      refine ww_if_ge (pc := 35) (tgt := 44) g.1 d_Ma_enter_35 (by decide) h (fun c h => ?_) (fun c h => ?_)
      · refine ww_iload_n (pc := 44) g.1 d_Ma_enter_44 rfl (lv_at hl 2 rfl) ?_
        refine ww_bipush (pc := 45) g.1 (v := 100) d_Ma_enter_45 (by decide) ?_
        refine ww_icmp_ne (pc := 47) (tgt := 56) g.1 d_Ma_enter_47 (by decide) h (fun c h => ?_) (fun c h => ?_)
        · refine ww_aload_n (pc := 56) g.1 d_Ma_enter_56 rfl (lv_at hl 1 rfl) ?_
          refine ww_gR (pc := 57) g (k := 3) cl_Ma (pz rfl (by decide)) (by decide) (Or.inl kw_1098) (f := 16387) (t := 132) rfl rfl rfl d_Ma_enter_57 ?_
          refine ww_aload_n (pc := 60) g.1 d_Ma_enter_60 rfl (lv_at hl 1 rfl) ?_
          refine ww_gI (pc := 61) g (k := 13) cl_Ma (pz rfl (by decide)) (by decide) (Or.inl kw_1095) (f := 16397) rfl rfl d_Ma_enter_61 h fun v61 h => ?_
          refine ww_aload_n (pc := 64) g.1 d_Ma_enter_64 rfl (lv_at hl 1 rfl) ?_
          refine ww_gL (pc := 65) g (k := 14) cl_Ma (pz rfl (by decide)) (by decide) (Or.inl kw_1097) (f := 16398) rfl rfl d_Ma_enter_65 h fun v65 h => ?_
          obtain ⟨v68, s, hc68, h⟩ := oB_of h
          refine ww_callV (pc := 68) (rest := []) g cv_Ro_addFirst (Or.inl kw_1194) (cl_Ro ⟨by decide, rfl⟩) (pz rfl (by decide)) (ct_Ro_addFirst ⟨by decide, rfl⟩ hc68) ⟨by decide, by decide⟩ rfl hl.1 (Nat.le_of_ble_eq_true rfl) d_Ma_enter_68 rfl (?_)
          refine ww_st (st' := []) rfl ?_
          refine ww_aload_n (pc := 71) g.1 d_Ma_enter_71 rfl (lv_at hl 1 rfl) ?_
          refine ww_aload_n (pc := 72) g.1 d_Ma_enter_72 rfl (lv_at hl 1 rfl) ?_
          refine ww_gR (pc := 73) g (k := 2) cl_Ma (pz rfl (by decide)) (by decide) (Or.inl kw_1093) (f := 16386) (t := 120) rfl rfl rfl d_Ma_enter_73 ?_
          refine ww_gR (pc := 76) g (k := 2) cl_Ta (pz rfl (by decide)) (by decide) (Or.inl kw_1094) (f := 15362) (t := 123) rfl rfl rfl d_Ma_enter_76 ?_
          refine ww_iload_n (pc := 79) g.1 d_Ma_enter_79 rfl (lv_at hl 0 rfl) ?_
          refine ww_ab (pc := 80) g (pz rfl (by decide)) rfl rfl d_Ma_enter_80 h fun v80 h => ?_
          refine ww_pI (pc := 81) g (k := 13) cl_Ma (pz rfl (by decide)) (by decide) (Or.inl kw_1095) rfl (f := 16397) rfl rfl rfl rfl d_Ma_enter_81 h fun s hs h => ?_
          refine ww_aload_n (pc := 84) g.1 d_Ma_enter_84 rfl (lv_at hl 1 rfl) ?_
          refine ww_aload_n (pc := 85) g.1 d_Ma_enter_85 rfl (lv_at hl 1 rfl) ?_
          refine ww_gR (pc := 86) g (k := 2) cl_Ma (pz rfl (by decide)) (by decide) (Or.inl kw_1093) (f := 16386) (t := 120) rfl rfl rfl d_Ma_enter_86 ?_
          refine ww_gR (pc := 89) g (k := 3) cl_Ta (pz rfl (by decide)) (by decide) (Or.inl kw_1096) (f := 15363) (t := 124) rfl rfl rfl d_Ma_enter_89 ?_
          refine ww_iload_n (pc := 92) g.1 d_Ma_enter_92 rfl (lv_at hl 0 rfl) ?_
          refine ww_al (pc := 93) g (pz rfl (by decide)) rfl rfl d_Ma_enter_93 h fun v93 h => ?_
          refine ww_pL (pc := 94) g (k := 14) cl_Ma (pz rfl (by decide)) (by decide) (Or.inl kw_1097) rfl (f := 16398) rfl rfl rfl rfl d_Ma_enter_94 h fun s hs h => ?_
          refine ww_iinc (pc := 97) g.1 (v := x + 1) (lv' := [(1, .int (x + 1)), (2, .int v30), (0, .ref (q.1 128 0))]) d_Ma_enter_97 hl (k := 2) rfl (by rfl) (by decide) rfl fun ls hl => ?_
          refine ww_goto (pc := 100) (tgt := 2) g.1 d_Ma_enter_100 (by decide) ?_
          rw [oR_eq h] at hR
          exact hR ls (lv_sub hl [2, 0] rfl)
        · rw [oR_eq h] at hR
          exact hR ls (lv_sub hl [1] rfl)
      · rw [oR_eq h] at hR
        exact hR ls (lv_sub hl [1] rfl)

theorem j_Ma_enter_j103 {X : Cx} {q : PL} (g : Gd X y_Ma_enter b_Ma_enter 3 none 4 90 R_Ma) {o : (Unit) × S1} (hR : Rt X q o.2 none)  (s : S1) (ls : Array Slot) (hl : lv_has ls 3 [(0, .ref (q.1 128 0))]) (h : M_Ma_enter_j103 s = some o) : WW X q s 103 ls [] := by
  unfold M_Ma_enter_j103 at h
  refine ww_aload_n (pc := 103) g.1 d_Ma_enter_103 rfl (lv_at hl 0 rfl) ?_
  refine ww_gR (pc := 104) g (k := 3) cl_Ma (pz rfl (by decide)) (by decide) (Or.inl kw_1098) (f := 16387) (t := 132) rfl rfl rfl d_Ma_enter_104 ?_
  refine ww_gI (pc := 107) g (k := 2) (cl_Ro ⟨by decide, rfl⟩) (pz rfl (by decide)) (by decide) (Or.inl kw_1195) (f := 16898) rfl rfl d_Ma_enter_107 h fun v107 h => ?_
  refine ww_sipush (pc := 110) g.1 (v := 250) d_Ma_enter_110 (by decide) ?_
  refine ww_icmp_le (pc := 113) (tgt := 125) g.1 d_Ma_enter_113 (by decide) h (fun c h => ?_) (fun c h => ?_)
  · refine ww_aload_n (pc := 125) g.1 d_Ma_enter_125 rfl (lv_at hl 0 rfl) ?_
    refine ww_gL (pc := 126) g (k := 14) cl_Ma (pz rfl (by decide)) (by decide) (Or.inl kw_1097) (f := 16398) rfl rfl d_Ma_enter_126 h fun v126 h => ?_
    refine ww_lconst (pc := 129) g.1 (v := 0) d_Ma_enter_129 (by decide) ?_
    refine ww_lcmp (pc := 130) g.1 d_Ma_enter_130 ?_
    refine ww_if_ge (pc := 131) (tgt := 142) g.1 d_Ma_enter_131 (by decide) h (fun c h => ?_) (fun c h => ?_)
    · refine ww_aload_n (pc := 142) g.1 d_Ma_enter_142 rfl (lv_at hl 0 rfl) ?_
      refine ww_gR (pc := 143) g (k := 1) cl_Ma (pz rfl (by decide)) (by decide) (Or.inl kw_938) (f := 16385) (t := 111) rfl rfl rfl d_Ma_enter_143 ?_
      refine ww_gR (pc := 146) g (k := 0) cl_He (pz rfl (by decide)) (by decide) (Or.inl kw_940) (f := 14208) (t := 112) rfl rfl rfl d_Ma_enter_146 ?_
      refine ww_aload_n (pc := 149) g.1 d_Ma_enter_149 rfl (lv_at hl 0 rfl) ?_
      refine ww_gL (pc := 150) g (k := 14) cl_Ma (pz rfl (by decide)) (by decide) (Or.inl kw_1097) (f := 16398) rfl rfl d_Ma_enter_150 h fun v150 h => ?_
      refine ww_l2i (pc := 153) g.1 (v := v150.toInt32) d_Ma_enter_153 rfl ?_
      refine ww_a8 (pc := 154) g (t := 145) (n := 4000) (pz rfl (by decide)) rfl rfl rfl rfl d_Ma_enter_154 h fun pa154 h => ?_
      refine ww_gI (pc := 155) g (k := 0) cl_Tg pa154 (by decide) (Or.inl kw_1389) (f := 18560) rfl rfl d_Ma_enter_155 h fun v155 h => ?_
      refine ww_bipush (pc := 158) g.1 (v := 9) d_Ma_enter_158 (by decide) ?_
      refine ww_icmp_ne (pc := 160) (tgt := 175) g.1 d_Ma_enter_160 (by decide) h (fun c h => ?_) (fun c h => ?_)
      · refine ww_aload_n (pc := 175) g.1 d_Ma_enter_175 rfl (lv_at hl 0 rfl) ?_
        refine ww_aload_n (pc := 176) g.1 d_Ma_enter_176 rfl (lv_at hl 0 rfl) ?_
        refine ww_gL (pc := 177) g (k := 14) cl_Ma (pz rfl (by decide)) (by decide) (Or.inl kw_1097) (f := 16398) rfl rfl d_Ma_enter_177 h fun v177 h => ?_
        refine ww_l2i (pc := 180) g.1 (v := v177.toInt32) d_Ma_enter_180 rfl ?_
        obtain ⟨v181, s, hc181, h⟩ := oB_of h
        refine ww_callV (pc := 181) (rest := []) g cv_Ma_enterClosure (Or.inl kw_1390) cl_Ma (pz rfl (by decide)) (ct_Ma_enterClosure hc181) ⟨by decide, by decide⟩ rfl hl.1 (Nat.le_of_ble_eq_true rfl) d_Ma_enter_181 rfl (?_)
        refine ww_st (st' := []) rfl ?_
        exact ww_vretH (pc := 184) g h hR d_Ma_enter_184
      · refine ww_aload_n (pc := 163) g.1 d_Ma_enter_163 rfl (lv_at hl 0 rfl) ?_
        refine ww_aload_n (pc := 164) g.1 d_Ma_enter_164 rfl (lv_at hl 0 rfl) ?_
        refine ww_gL (pc := 165) g (k := 14) cl_Ma (pz rfl (by decide)) (by decide) (Or.inl kw_1097) (f := 16398) rfl rfl d_Ma_enter_165 h fun v165 h => ?_
        refine ww_l2i (pc := 168) g.1 (v := v165.toInt32) d_Ma_enter_168 rfl ?_
        obtain ⟨v169, s, hc169, h⟩ := oB_of h
        refine ww_callV (pc := 169) (rest := []) g cv_Ma_callWrapper (Or.inl kw_1391) cl_Ma (pz rfl (by decide)) (ct_Ma_callWrapper hc169) ⟨by decide, by decide⟩ rfl hl.1 (Nat.le_of_ble_eq_true rfl) d_Ma_enter_169 rfl (?_)
        refine ww_st (st' := []) rfl ?_
        refine ww_goto (pc := 172) (tgt := 184) g.1 d_Ma_enter_172 (by decide) ?_
        exact ww_vretH (pc := 184) g h hR d_Ma_enter_184
    · refine ww_aload_n (pc := 134) g.1 d_Ma_enter_134 rfl (lv_at hl 0 rfl) ?_
      refine ww_iconst (pc := 135) g.1 (v := 2) d_Ma_enter_135 (by decide) ?_
      refine ww_pI (pc := 136) g (k := 12) cl_Ma (pz rfl (by decide)) (by decide) (Or.inl kw_851) rfl (f := 16396) rfl rfl rfl rfl d_Ma_enter_136 h fun s hs h => ?_
      refine ww_goto (pc := 139) (tgt := 184) g.1 d_Ma_enter_139 (by decide) ?_
      exact ww_vretH (pc := 184) g h hR d_Ma_enter_184
  · refine ww_aload_n (pc := 116) g.1 d_Ma_enter_116 rfl (lv_at hl 0 rfl) ?_
    refine ww_bipush (pc := 117) g.1 (v := 7) d_Ma_enter_117 (by decide) ?_
    obtain ⟨v119, s, hc119, h⟩ := oB_of h
    refine ww_callV (pc := 119) (rest := []) g cv_Ma_fail (Or.inl kw_1196) cl_Ma (pz rfl (by decide)) (ct_Ma_fail hc119) ⟨by decide, by decide⟩ rfl hl.1 (Nat.le_of_ble_eq_true rfl) d_Ma_enter_119 rfl (?_)
    refine ww_st (st' := []) rfl ?_
    refine ww_goto (pc := 122) (tgt := 184) g.1 d_Ma_enter_122 (by decide) ?_
    exact ww_vretH (pc := 184) g h hR d_Ma_enter_184

theorem ct_Ma_enter {l : Launch} {P : PP} {q : PL} {s s' : S1}  {r : Unit} (h : M_Ma_enter s = some (r, s')) : Ct l y_Ma_enter b_Ma_enter 3 none 4 90 P q s [.ref (q.1 128 0)] none q s' := by
  refine ct_of (by decide) (Nat.le_of_ble_eq_true rfl) fun X ls eP el g hR hl => ?_
  subst eP
  have hR : Rt X q ((r, s') : Unit × S1).2 none := hR
  have hl : lv_has ls 3 [(0, .ref (q.1 128 0))] := hl
  generalize (r, s') = o at h hR
  unfold M_Ma_enter at h
  refine ww_iconst (pc := 0) g.1 (v := 1) d_Ma_enter_0 (by decide) ?_
  refine ww_istore_n (pc := 1) (i := 1) g.1 (lv' := [(1, .int 1), (0, .ref (q.1 128 0))]) d_Ma_enter_1 rfl hl (by decide) rfl fun ls hl => ?_
  obtain ⟨e2, s1, hw, h⟩ := oB_of h
  refine oW_rule (Wh := fun (x : Int32) (s : S1) => ∀ ls : Array Slot, lv_has ls 3 [(0, .ref (q.1 128 0)), (1, .int x)] → WW X q s 2 ls []) (We := fun (e : (Unit) ⊕ (Unit) ⊕ (Unit)) (s : S1) => (Sum.elim (fun y : Unit => ∀ ls : Array Slot, lv_has ls 3 [(0, .ref (q.1 128 0))] → WW X q s 38 ls []) (Sum.elim (fun y : Unit => ∀ ls : Array Slot, lv_has ls 3 [(0, .ref (q.1 128 0))] → WW X q s 50 ls []) (fun y : Unit => ∀ ls : Array Slot, lv_has ls 3 [(0, .ref (q.1 128 0))] → WW X q s 103 ls []))) e) (fun x s o hb hc => lp_Ma_enter_L2 (q := q) g x s o hb hc) hw ?_ ls (lv_sub hl [1, 0] rfl)
  clear hw hl
  clear ls
  generalize s1 = s at h ⊢
  rcases e2 with y2_38 | y2_50 | y2_103
  · intro ls hl
    dsimp only [Sum.elim_inl, Sum.elim_inr] at h
    refine ww_aload_n (pc := 38) g.1 d_Ma_enter_38 rfl (lv_at hl 0 rfl) ?_
    refine ww_iconst (pc := 39) g.1 (v := 1) d_Ma_enter_39 (by decide) ?_
    obtain ⟨v40, s, hc40, h⟩ := oB_of h
    refine ww_callV (pc := 40) (rest := []) g cv_Ma_fail (Or.inl kw_1196) cl_Ma (pz rfl (by decide)) (ct_Ma_fail hc40) ⟨by decide, by decide⟩ rfl hl.1 (Nat.le_of_ble_eq_true rfl) d_Ma_enter_40 rfl (?_)
    refine ww_st (st' := []) rfl ?_
    exact ww_vretH (pc := 43) g h hR d_Ma_enter_43
  · intro ls hl
    dsimp only [Sum.elim_inl, Sum.elim_inr] at h
    refine ww_aload_n (pc := 50) g.1 d_Ma_enter_50 rfl (lv_at hl 0 rfl) ?_
    refine ww_iconst (pc := 51) g.1 (v := 4) d_Ma_enter_51 (by decide) ?_
    obtain ⟨v52, s, hc52, h⟩ := oB_of h
    refine ww_callV (pc := 52) (rest := []) g cv_Ma_fail (Or.inl kw_1196) cl_Ma (pz rfl (by decide)) (ct_Ma_fail hc52) ⟨by decide, by decide⟩ rfl hl.1 (Nat.le_of_ble_eq_true rfl) d_Ma_enter_52 rfl (?_)
    refine ww_st (st' := []) rfl ?_
    exact ww_vretH (pc := 55) g h hR d_Ma_enter_55
  · intro ls hl
    dsimp only [Sum.elim_inl, Sum.elim_inr] at h
    exact j_Ma_enter_j103 g hR s ls (lv_sub hl [0] rfl) h

abbrev b_Bu_writeRaw : ByteArray := prog_2_method_21_code
def y_Bu_writeRaw : MethodName := ⟨R_Bu, "writeRaw", "()V"⟩
abbrev w_Bu_writeRaw : List Cond := .code y_Bu_writeRaw b_Bu_writeRaw 3 none :: wA
theorem k_Bu_writeRaw : Cond.code y_Bu_writeRaw b_Bu_writeRaw 3 none ∈ wA := kinm (show _ ∈ tables_1 from (List.mem_append_right _ (List.mem_append_right _ (List.mem_append_right _ (List.mem_append_right _ (List.mem_append_right _ (List.mem_append_right _ (List.mem_append_right _ (List.mem_append_left _ (List.mem_of_getElem? (l := tables_1_8) (i := 100) (by decide +kernel))))))))))) (by decide +kernel)
theorem d_Bu_writeRaw_0 : decode b_Bu_writeRaw 0 = .ok (.aload_n 0, 1) := by decide +kernel
theorem d_Bu_writeRaw_1 : decode b_Bu_writeRaw 1 = .ok (.invokevirtual 263, 3) := by decide +kernel
theorem d_Bu_writeRaw_4 : decode b_Bu_writeRaw 4 = .ok (.ifCond .ne 4, 3) := by decide +kernel
theorem d_Bu_writeRaw_7 : decode b_Bu_writeRaw 7 = .ok (.return_, 1) := by decide +kernel
theorem d_Bu_writeRaw_8 : decode b_Bu_writeRaw 8 = .ok (.aload_n 0, 1) := by decide +kernel
theorem d_Bu_writeRaw_9 : decode b_Bu_writeRaw 9 = .ok (.getfield 35, 3) := by decide +kernel
theorem d_Bu_writeRaw_12 : decode b_Bu_writeRaw 12 = .ok (.iconst 0, 1) := by decide +kernel
theorem d_Bu_writeRaw_13 : decode b_Bu_writeRaw 13 = .ok (.invokevirtual 78, 3) := by decide +kernel
theorem d_Bu_writeRaw_16 : decode b_Bu_writeRaw 16 = .ok (.l2i, 1) := by decide +kernel
theorem d_Bu_writeRaw_17 : decode b_Bu_writeRaw 17 = .ok (.istore_n 1, 1) := by decide +kernel
theorem d_Bu_writeRaw_18 : decode b_Bu_writeRaw 18 = .ok (.aload_n 0, 1) := by decide +kernel
theorem d_Bu_writeRaw_19 : decode b_Bu_writeRaw 19 = .ok (.getfield 30, 3) := by decide +kernel
theorem d_Bu_writeRaw_22 : decode b_Bu_writeRaw 22 = .ok (.iload_n 1, 1) := by decide +kernel
theorem d_Bu_writeRaw_23 : decode b_Bu_writeRaw 23 = .ok (.aload_n 0, 1) := by decide +kernel
theorem d_Bu_writeRaw_24 : decode b_Bu_writeRaw 24 = .ok (.getfield 35, 3) := by decide +kernel
theorem d_Bu_writeRaw_27 : decode b_Bu_writeRaw 27 = .ok (.iconst 1, 1) := by decide +kernel
theorem d_Bu_writeRaw_28 : decode b_Bu_writeRaw 28 = .ok (.invokevirtual 67, 3) := by decide +kernel
theorem d_Bu_writeRaw_31 : decode b_Bu_writeRaw 31 = .ok (.aload_n 0, 1) := by decide +kernel
theorem d_Bu_writeRaw_32 : decode b_Bu_writeRaw 32 = .ok (.getfield 35, 3) := by decide +kernel
theorem d_Bu_writeRaw_35 : decode b_Bu_writeRaw 35 = .ok (.iconst 1, 1) := by decide +kernel
theorem d_Bu_writeRaw_36 : decode b_Bu_writeRaw 36 = .ok (.invokevirtual 78, 3) := by decide +kernel
theorem d_Bu_writeRaw_39 : decode b_Bu_writeRaw 39 = .ok (.aload_n 0, 1) := by decide +kernel
theorem d_Bu_writeRaw_40 : decode b_Bu_writeRaw 40 = .ok (.getfield 35, 3) := by decide +kernel
theorem d_Bu_writeRaw_43 : decode b_Bu_writeRaw 43 = .ok (.iconst 2, 1) := by decide +kernel
theorem d_Bu_writeRaw_44 : decode b_Bu_writeRaw 44 = .ok (.invokevirtual 67, 3) := by decide +kernel
theorem d_Bu_writeRaw_47 : decode b_Bu_writeRaw 47 = .ok (.aload_n 0, 1) := by decide +kernel
theorem d_Bu_writeRaw_48 : decode b_Bu_writeRaw 48 = .ok (.getfield 35, 3) := by decide +kernel
theorem d_Bu_writeRaw_51 : decode b_Bu_writeRaw 51 = .ok (.iconst 2, 1) := by decide +kernel
theorem d_Bu_writeRaw_52 : decode b_Bu_writeRaw 52 = .ok (.invokevirtual 78, 3) := by decide +kernel
theorem d_Bu_writeRaw_55 : decode b_Bu_writeRaw 55 = .ok (.invokevirtual 277, 3) := by decide +kernel
theorem d_Bu_writeRaw_58 : decode b_Bu_writeRaw 58 = .ok (.istore_n 2, 1) := by decide +kernel
theorem d_Bu_writeRaw_59 : decode b_Bu_writeRaw 59 = .ok (.iload_n 2, 1) := by decide +kernel
theorem d_Bu_writeRaw_60 : decode b_Bu_writeRaw 60 = .ok (.ifCond .eq 14, 3) := by decide +kernel
theorem d_Bu_writeRaw_63 : decode b_Bu_writeRaw 63 = .ok (.aload_n 0, 1) := by decide +kernel
theorem d_Bu_writeRaw_64 : decode b_Bu_writeRaw 64 = .ok (.getfield 15, 3) := by decide +kernel
theorem d_Bu_writeRaw_67 : decode b_Bu_writeRaw 67 = .ok (.iload_n 2, 1) := by decide +kernel
theorem d_Bu_writeRaw_68 : decode b_Bu_writeRaw 68 = .ok (.invokevirtual 145, 3) := by decide +kernel
theorem d_Bu_writeRaw_71 : decode b_Bu_writeRaw 71 = .ok (.goto 13, 3) := by decide +kernel
theorem d_Bu_writeRaw_74 : decode b_Bu_writeRaw 74 = .ok (.aload_n 0, 1) := by decide +kernel
theorem d_Bu_writeRaw_75 : decode b_Bu_writeRaw 75 = .ok (.getfield 39, 3) := by decide +kernel
theorem d_Bu_writeRaw_78 : decode b_Bu_writeRaw 78 = .ok (.iconst 5, 1) := by decide +kernel
theorem d_Bu_writeRaw_79 : decode b_Bu_writeRaw 79 = .ok (.iload_n 1, 1) := by decide +kernel
theorem d_Bu_writeRaw_80 : decode b_Bu_writeRaw 80 = .ok (.i2l, 1) := by decide +kernel
theorem d_Bu_writeRaw_81 : decode b_Bu_writeRaw 81 = .ok (.invokevirtual 74, 3) := by decide +kernel
theorem d_Bu_writeRaw_84 : decode b_Bu_writeRaw 84 = .ok (.return_, 1) := by decide +kernel
theorem kw_1394 : Cond.methodLink R_Bu 277 y_Ta_write ∈ wA := kinm (show _ ∈ tables_1 from (List.mem_append_right _ (List.mem_append_right _ (List.mem_append_right _ (List.mem_append_right _ (List.mem_append_right _ (List.mem_append_right _ (List.mem_append_right _ (List.mem_append_left _ (List.mem_of_getElem? (l := tables_1_8) (i := 101) (by decide +kernel))))))))))) (by decide +kernel)
theorem kw_1395 : Cond.instanceMethod y_Bu_writeRaw ∈ wA := kinm (show _ ∈ tables_1 from (List.mem_append_right _ (List.mem_append_right _ (List.mem_append_right _ (List.mem_append_right _ (List.mem_append_right _ (List.mem_append_right _ (List.mem_append_right _ (List.mem_append_left _ (List.mem_of_getElem? (l := tables_1_8) (i := 99) (by decide +kernel))))))))))) (by decide +kernel)
theorem kw_1396 : Cond.selects R_Bu y_Bu_writeRaw y_Bu_writeRaw ∈ wA := kinp 77 (by decide +kernel) (by decide +kernel)
theorem cv_Bu_writeRaw : CV y_Bu_writeRaw b_Bu_writeRaw 3 none 0 := ⟨kw_1395, kw_1396, kw_950, k_Bu_writeRaw, by decide +kernel⟩
theorem ct_Bu_writeRaw {l : Launch} {P : PP} {q : PL} {s s' : S1}  {r : Unit} (h : M_Bu_writeRaw s = some (r, s')) : Ct l y_Bu_writeRaw b_Bu_writeRaw 3 none 5 132 P q s [.ref (q.1 130 0)] none q s' := by
  refine ct_of (by decide) (Nat.le_of_ble_eq_true rfl) fun X ls eP el g hR hl => ?_
  subst eP
  have hR : Rt X q ((r, s') : Unit × S1).2 none := hR
  have hl : lv_has ls 3 [(0, .ref (q.1 130 0))] := hl
  generalize (r, s') = o at h hR
  unfold M_Bu_writeRaw at h
  refine ww_aload_n (pc := 0) g.1 d_Bu_writeRaw_0 rfl (lv_at hl 0 rfl) ?_
  obtain ⟨v1, s, hc1, h⟩ := oB_of h
  refine ww_callV (pc := 1) (rest := []) g cv_Bu_hasTable (Or.inl kw_1161) cl_Bu (pz rfl (by decide)) (ct_Bu_hasTable hc1) ⟨by decide, by decide⟩ rfl hl.1 (Nat.le_of_ble_eq_true rfl) d_Bu_writeRaw_1 rfl (?_)
  refine ww_st (st' := [.int v1]) rfl ?_
  refine ww_if_ne (pc := 4) (tgt := 8) g.1 d_Bu_writeRaw_4 (by decide) h (fun c h => ?_) (fun c h => ?_)
  · refine ww_aload_n (pc := 8) g.1 d_Bu_writeRaw_8 rfl (lv_at hl 0 rfl) ?_
    refine ww_gR (pc := 9) g (k := 5) cl_Bu (pz rfl (by decide)) (by decide) (Or.inl kw_976) (f := 16645) (t := 132) rfl rfl rfl d_Bu_writeRaw_9 ?_
    refine ww_iconst (pc := 12) g.1 (v := 0) d_Bu_writeRaw_12 (by decide) ?_
    obtain ⟨v13, s, hc13, h⟩ := oB_of h
    refine ww_callV (pc := 13) (rest := []) g cv_Ro_valueAt (Or.inl kw_977) (cl_Ro ⟨by decide, rfl⟩) (pz rfl (by decide)) (ct_Ro_valueAt ⟨by decide, rfl⟩ hc13) ⟨by decide, by decide⟩ rfl hl.1 (Nat.le_of_ble_eq_true rfl) d_Bu_writeRaw_13 rfl (?_)
    refine ww_st (st' := [.long v13]) rfl ?_
    refine ww_l2i (pc := 16) g.1 (v := v13.toInt32) d_Bu_writeRaw_16 rfl ?_
    refine ww_istore_n (pc := 17) (i := 1) g.1 (lv' := [(1, .int v13.toInt32), (0, .ref (q.1 130 0))]) d_Bu_writeRaw_17 rfl hl (by decide) rfl fun ls hl => ?_
    refine ww_aload_n (pc := 18) g.1 d_Bu_writeRaw_18 rfl (lv_at hl 1 rfl) ?_
    refine ww_gR (pc := 19) g (k := 4) cl_Bu (pz rfl (by decide)) (by decide) (Or.inl kw_968) (f := 16644) (t := 120) rfl rfl rfl d_Bu_writeRaw_19 ?_
    refine ww_iload_n (pc := 22) g.1 d_Bu_writeRaw_22 rfl (lv_at hl 0 rfl) ?_
    refine ww_aload_n (pc := 23) g.1 d_Bu_writeRaw_23 rfl (lv_at hl 1 rfl) ?_
    refine ww_gR (pc := 24) g (k := 5) cl_Bu (pz rfl (by decide)) (by decide) (Or.inl kw_976) (f := 16645) (t := 132) rfl rfl rfl d_Bu_writeRaw_24 ?_
    refine ww_iconst (pc := 27) g.1 (v := 1) d_Bu_writeRaw_27 (by decide) ?_
    obtain ⟨v28, s, hc28, h⟩ := oB_of h
    refine ww_callV (pc := 28) (rest := [.int v13.toInt32, .ref (q.1 120 0)]) g cv_Ro_kindAt (Or.inl kw_983) (cl_Ro ⟨by decide, rfl⟩) (pz rfl (by decide)) (ct_Ro_kindAt ⟨by decide, rfl⟩ hc28) ⟨by decide, by decide⟩ rfl hl.1 (Nat.le_of_ble_eq_true rfl) d_Bu_writeRaw_28 rfl (?_)
    refine ww_st (st' := [.int v28, .int v13.toInt32, .ref (q.1 120 0)]) rfl ?_
    refine ww_aload_n (pc := 31) g.1 d_Bu_writeRaw_31 rfl (lv_at hl 1 rfl) ?_
    refine ww_gR (pc := 32) g (k := 5) cl_Bu (pz rfl (by decide)) (by decide) (Or.inl kw_976) (f := 16645) (t := 132) rfl rfl rfl d_Bu_writeRaw_32 ?_
    refine ww_iconst (pc := 35) g.1 (v := 1) d_Bu_writeRaw_35 (by decide) ?_
    obtain ⟨v36, s, hc36, h⟩ := oB_of h
    refine ww_callV (pc := 36) (rest := [.int v28, .int v13.toInt32, .ref (q.1 120 0)]) g cv_Ro_valueAt (Or.inl kw_977) (cl_Ro ⟨by decide, rfl⟩) (pz rfl (by decide)) (ct_Ro_valueAt ⟨by decide, rfl⟩ hc36) ⟨by decide, by decide⟩ rfl hl.1 (Nat.le_of_ble_eq_true rfl) d_Bu_writeRaw_36 rfl (?_)
    refine ww_st (st' := [.long v36, .int v28, .int v13.toInt32, .ref (q.1 120 0)]) rfl ?_
    refine ww_aload_n (pc := 39) g.1 d_Bu_writeRaw_39 rfl (lv_at hl 1 rfl) ?_
    refine ww_gR (pc := 40) g (k := 5) cl_Bu (pz rfl (by decide)) (by decide) (Or.inl kw_976) (f := 16645) (t := 132) rfl rfl rfl d_Bu_writeRaw_40 ?_
    refine ww_iconst (pc := 43) g.1 (v := 2) d_Bu_writeRaw_43 (by decide) ?_
    obtain ⟨v44, s, hc44, h⟩ := oB_of h
    refine ww_callV (pc := 44) (rest := [.long v36, .int v28, .int v13.toInt32, .ref (q.1 120 0)]) g cv_Ro_kindAt (Or.inl kw_983) (cl_Ro ⟨by decide, rfl⟩) (pz rfl (by decide)) (ct_Ro_kindAt ⟨by decide, rfl⟩ hc44) ⟨by decide, by decide⟩ rfl hl.1 (Nat.le_of_ble_eq_true rfl) d_Bu_writeRaw_44 rfl (?_)
    refine ww_st (st' := [.int v44, .long v36, .int v28, .int v13.toInt32, .ref (q.1 120 0)]) rfl ?_
    refine ww_aload_n (pc := 47) g.1 d_Bu_writeRaw_47 rfl (lv_at hl 1 rfl) ?_
    refine ww_gR (pc := 48) g (k := 5) cl_Bu (pz rfl (by decide)) (by decide) (Or.inl kw_976) (f := 16645) (t := 132) rfl rfl rfl d_Bu_writeRaw_48 ?_
    refine ww_iconst (pc := 51) g.1 (v := 2) d_Bu_writeRaw_51 (by decide) ?_
    obtain ⟨v52, s, hc52, h⟩ := oB_of h
    refine ww_callV (pc := 52) (rest := [.int v44, .long v36, .int v28, .int v13.toInt32, .ref (q.1 120 0)]) g cv_Ro_valueAt (Or.inl kw_977) (cl_Ro ⟨by decide, rfl⟩) (pz rfl (by decide)) (ct_Ro_valueAt ⟨by decide, rfl⟩ hc52) ⟨by decide, by decide⟩ rfl hl.1 (Nat.le_of_ble_eq_true rfl) d_Bu_writeRaw_52 rfl (?_)
    refine ww_st (st' := [.long v52, .int v44, .long v36, .int v28, .int v13.toInt32, .ref (q.1 120 0)]) rfl ?_
    obtain ⟨v55, s, hc55, h⟩ := oB_of h
    refine ww_callV (pc := 55) (rest := []) g cv_Ta_write (Or.inl kw_1394) cl_Ta (pz rfl (by decide)) (ct_Ta_write hc55) ⟨by decide, by decide⟩ rfl hl.1 (Nat.le_of_ble_eq_true rfl) d_Bu_writeRaw_55 rfl (?_)
    refine ww_st (st' := [.int v55]) rfl ?_
    refine ww_istore_n (pc := 58) (i := 2) g.1 (lv' := [(2, .int v55), (1, .int v13.toInt32), (0, .ref (q.1 130 0))]) d_Bu_writeRaw_58 rfl hl (by decide) rfl fun ls hl => ?_
    refine ww_iload_n (pc := 59) g.1 d_Bu_writeRaw_59 rfl (lv_at hl 0 rfl) ?_
    refine ww_if_eq (pc := 60) (tgt := 74) g.1 d_Bu_writeRaw_60 (by decide) h (fun c h => ?_) (fun c h => ?_)
    · refine ww_aload_n (pc := 74) g.1 d_Bu_writeRaw_74 rfl (lv_at hl 2 rfl) ?_
      refine ww_gR (pc := 75) g (k := 6) cl_Bu (pz rfl (by decide)) (by decide) (Or.inl kw_967) (f := 16646) (t := 135) rfl rfl rfl d_Bu_writeRaw_75 ?_
      refine ww_iconst (pc := 78) g.1 (v := 5) d_Bu_writeRaw_78 (by decide) ?_
      refine ww_iload_n (pc := 79) g.1 d_Bu_writeRaw_79 rfl (lv_at hl 1 rfl) ?_
      refine ww_i2l (pc := 80) g.1 (v := v13.toInt32.toInt64) d_Bu_writeRaw_80 rfl ?_
      obtain ⟨v81, s, hc81, h⟩ := oB_of h
      refine ww_callV (pc := 81) (rest := []) g cv_Ro_add (Or.inl kw_971) (cl_Ro ⟨by decide, rfl⟩) (pz rfl (by decide)) (ct_Ro_add ⟨by decide, rfl⟩ hc81) ⟨by decide, by decide⟩ rfl hl.1 (Nat.le_of_ble_eq_true rfl) d_Bu_writeRaw_81 rfl (?_)
      refine ww_st (st' := []) rfl ?_
      exact ww_vretH (pc := 84) g h hR d_Bu_writeRaw_84
    · refine ww_aload_n (pc := 63) g.1 d_Bu_writeRaw_63 rfl (lv_at hl 2 rfl) ?_
      refine ww_gR (pc := 64) g (k := 2) cl_Bu (pz rfl (by decide)) (by decide) (Or.inl kw_995) (f := 16642) (t := 128) rfl rfl rfl d_Bu_writeRaw_64 ?_
      refine ww_iload_n (pc := 67) g.1 d_Bu_writeRaw_67 rfl (lv_at hl 0 rfl) ?_
      obtain ⟨v68, s, hc68, h⟩ := oB_of h
      refine ww_callV (pc := 68) (rest := []) g cv_Ma_fail (Or.inl kw_1144) cl_Ma (pz rfl (by decide)) (ct_Ma_fail hc68) ⟨by decide, by decide⟩ rfl hl.1 (Nat.le_of_ble_eq_true rfl) d_Bu_writeRaw_68 rfl (?_)
      refine ww_st (st' := []) rfl ?_
      refine ww_goto (pc := 71) (tgt := 84) g.1 d_Bu_writeRaw_71 (by decide) ?_
      exact ww_vretH (pc := 84) g h hR d_Bu_writeRaw_84
  · exact ww_vretH (pc := 7) g h hR d_Bu_writeRaw_7

abbrev b_Bu_create : ByteArray := prog_2_method_32_code
def y_Bu_create : MethodName := ⟨R_Bu, "create", "()V"⟩
abbrev w_Bu_create : List Cond := .code y_Bu_create b_Bu_create 1 none :: wA
theorem k_Bu_create : Cond.code y_Bu_create b_Bu_create 1 none ∈ wA := kinm (show _ ∈ tables_1 from (List.mem_append_right _ (List.mem_append_right _ (List.mem_append_right _ (List.mem_append_right _ (List.mem_append_right _ (List.mem_append_right _ (List.mem_append_right _ (List.mem_append_left _ (List.mem_of_getElem? (l := tables_1_8) (i := 167) (by decide +kernel))))))))))) (by decide +kernel)
theorem d_Bu_create_0 : decode b_Bu_create 0 = .ok (.aload_n 0, 1) := by decide +kernel
theorem d_Bu_create_1 : decode b_Bu_create 1 = .ok (.invokevirtual 332, 3) := by decide +kernel
theorem d_Bu_create_4 : decode b_Bu_create 4 = .ok (.ifCond .eq 24, 3) := by decide +kernel
theorem d_Bu_create_7 : decode b_Bu_create 7 = .ok (.aload_n 0, 1) := by decide +kernel
theorem d_Bu_create_8 : decode b_Bu_create 8 = .ok (.bipush 7, 2) := by decide +kernel
theorem d_Bu_create_10 : decode b_Bu_create 10 = .ok (.aload_n 0, 1) := by decide +kernel
theorem d_Bu_create_11 : decode b_Bu_create 11 = .ok (.getfield 25, 3) := by decide +kernel
theorem d_Bu_create_14 : decode b_Bu_create 14 = .ok (.aload_n 0, 1) := by decide +kernel
theorem d_Bu_create_15 : decode b_Bu_create 15 = .ok (.getfield 35, 3) := by decide +kernel
theorem d_Bu_create_18 : decode b_Bu_create 18 = .ok (.iconst 0, 1) := by decide +kernel
theorem d_Bu_create_19 : decode b_Bu_create 19 = .ok (.invokevirtual 78, 3) := by decide +kernel
theorem d_Bu_create_22 : decode b_Bu_create 22 = .ok (.invokevirtual 335, 3) := by decide +kernel
theorem d_Bu_create_25 : decode b_Bu_create 25 = .ok (.invokevirtual 253, 3) := by decide +kernel
theorem d_Bu_create_28 : decode b_Bu_create 28 = .ok (.return_, 1) := by decide +kernel
theorem kw_1397 : Cond.methodLink R_Bu 332 y_Bu_hasFunction ∈ wA := kinm (show _ ∈ tables_1 from (List.mem_append_right _ (List.mem_append_right _ (List.mem_append_right _ (List.mem_append_right _ (List.mem_append_right _ (List.mem_append_right _ (List.mem_append_right _ (List.mem_append_left _ (List.mem_of_getElem? (l := tables_1_8) (i := 168) (by decide +kernel))))))))))) (by decide +kernel)
theorem kw_1398 : Cond.methodLink R_Bu 335 y_He_makeCoroutine ∈ wA := kinm (show _ ∈ tables_1 from (List.mem_append_right _ (List.mem_append_right _ (List.mem_append_right _ (List.mem_append_right _ (List.mem_append_right _ (List.mem_append_right _ (List.mem_append_right _ (List.mem_append_left _ (List.mem_of_getElem? (l := tables_1_8) (i := 172) (by decide +kernel))))))))))) (by decide +kernel)
theorem kw_1399 : Cond.methodLink R_Bu 253 y_Bu_addMade ∈ wA := kinm (show _ ∈ tables_1 from (List.mem_append_right _ (List.mem_append_right _ (List.mem_append_right _ (List.mem_append_right _ (List.mem_append_right _ (List.mem_append_right _ (List.mem_append_right _ (List.mem_append_left _ (List.mem_of_getElem? (l := tables_1_8) (i := 59) (by decide +kernel))))))))))) (by decide +kernel)
theorem kw_1400 : Cond.instanceMethod y_Bu_create ∈ wA := kinm (show _ ∈ tables_1 from (List.mem_append_right _ (List.mem_append_right _ (List.mem_append_right _ (List.mem_append_right _ (List.mem_append_right _ (List.mem_append_right _ (List.mem_append_right _ (List.mem_append_left _ (List.mem_of_getElem? (l := tables_1_8) (i := 166) (by decide +kernel))))))))))) (by decide +kernel)
theorem kw_1401 : Cond.selects R_Bu y_Bu_create y_Bu_create ∈ wA := kinp 90 (by decide +kernel) (by decide +kernel)
theorem cv_Bu_create : CV y_Bu_create b_Bu_create 1 none 0 := ⟨kw_1400, kw_1401, kw_950, k_Bu_create, by decide +kernel⟩
theorem ct_Bu_create {l : Launch} {P : PP} {q : PL} {s s' : S1} {n0 n1 : Nat × Nat}  {r : Unit} (hm : Rmq P q n0) (h : M_Bu_create n0 s = some ((r, n1), s')) : CtX l y_Bu_create b_Bu_create 1 none 5 121 P [149, 150, 151, 153] q s [.ref (q.1 130 0)] (fun _ => none) n1 s' := by
  refine ctX_of (by decide) (Nat.le_of_ble_eq_true rfl) fun X ls eP el g hR hl => ?_
  subst eP
  obtain ⟨q0, hq0⟩ : ∃ q0 : PL, q0 = q := ⟨q, rfl⟩
  have hx0 : Exq (xP X) [149, 150, 151, 153] q0 q := hq0 ▸ Exq.rf
  rw [← hq0] at hR
  have hR : RtX X [149, 150, 151, 153] q0 (((r, n1), s') : (Unit × (Nat × Nat)) × S1).1.2 (((r, n1), s') : (Unit × (Nat × Nat)) × S1).2 (fun _ => none) := hR
  have hl : lv_has ls 1 [(0, .ref (q.1 130 0))] := hl
  generalize ((r, n1), s') = o at h hR
  unfold M_Bu_create at h
  refine ww_aload_n (pc := 0) g.1 d_Bu_create_0 rfl (lv_at hl 0 rfl) ?_
  obtain ⟨v1, s, hc1, h⟩ := oB_of h
  refine ww_callV (pc := 1) (rest := []) g cv_Bu_hasFunction (Or.inl kw_1397) cl_Bu (pz rfl (by decide)) (ct_Bu_hasFunction hc1) ⟨by decide, by decide⟩ rfl hl.1 (Nat.le_of_ble_eq_true rfl) d_Bu_create_1 rfl (?_)
  refine ww_st (st' := [.int v1]) rfl ?_
  refine ww_if_eq (pc := 4) (tgt := 28) g.1 d_Bu_create_4 (by decide) h (fun c h => ?_) (fun c h => ?_)
  · exact ww_vretX (pc := 28) g h hR hx0 hm d_Bu_create_28
  · refine ww_aload_n (pc := 7) g.1 d_Bu_create_7 rfl (lv_at hl 0 rfl) ?_
    refine ww_bipush (pc := 8) g.1 (v := 7) d_Bu_create_8 (by decide) ?_
    refine ww_aload_n (pc := 10) g.1 d_Bu_create_10 rfl (lv_at hl 0 rfl) ?_
    refine ww_gR (pc := 11) g (k := 3) cl_Bu (pz rfl (by decide)) (by decide) (Or.inl kw_974) (f := 16643) (t := 111) rfl rfl rfl d_Bu_create_11 ?_
    refine ww_aload_n (pc := 14) g.1 d_Bu_create_14 rfl (lv_at hl 0 rfl) ?_
    refine ww_gR (pc := 15) g (k := 5) cl_Bu (pz rfl (by decide)) (by decide) (Or.inl kw_976) (f := 16645) (t := 132) rfl rfl rfl d_Bu_create_15 ?_
    refine ww_iconst (pc := 18) g.1 (v := 0) d_Bu_create_18 (by decide) ?_
    obtain ⟨v19, s, hc19, h⟩ := oB_of h
    refine ww_callV (pc := 19) (rest := [.ref (q.1 111 0), .int 7, .ref (q.1 130 0)]) g cv_Ro_valueAt (Or.inl kw_977) (cl_Ro ⟨by decide, rfl⟩) (pz rfl (by decide)) (ct_Ro_valueAt ⟨by decide, rfl⟩ hc19) ⟨by decide, by decide⟩ rfl hl.1 (Nat.le_of_ble_eq_true rfl) d_Bu_create_19 rfl (?_)
    refine ww_st (st' := [.long v19, .ref (q.1 111 0), .int 7, .ref (q.1 130 0)]) rfl ?_
    refine ww_lo fun dlo => ?_
    obtain ⟨v22, s, hc22, h⟩ := oB_of h
    refine ww_callVX (pc := 22) (rest := [.int 7, .ref (q.1 130 0)]) g cv_He_makeCoroutine (Or.inl kw_1398) cl_He (pz rfl (by decide)) (ct_He_makeCoroutine hm hc22) ⟨by decide, by decide⟩ rfl hl.1 (Nat.le_of_ble_eq_true rfl) d_Bu_create_22 rfl (fun q22 hE hm => ?_)
    have hl : lv_has ls 1 [] := lv_sub hl [] rfl
    have ex22_0 : q22.1 130 0 = q.1 130 0 := hE _ _ (by decide) (dlo _ _ (pz rfl (by decide)))
    refine ww_st (st' := [.int v22.1, .int 7, .ref (q22.1 130 0)]) (by first | (rw [ex22_0]; done) | (rw [ex22_0]; rfl)) ?_
    have hx0 : Exq (xP X) [149, 150, 151, 153] _ q22 := hx0.tr (hE.sub (by decide))
    obtain ⟨v25, s, hc25, h⟩ := oB_of h
    refine ww_callV (pc := 25) (rest := []) g cv_Bu_addMade (Or.inl kw_1399) cl_Bu (pz rfl (by decide)) (ct_Bu_addMade hc25) ⟨by decide, by decide⟩ rfl hl.1 (Nat.le_of_ble_eq_true rfl) d_Bu_create_25 rfl (?_)
    refine ww_st (st' := []) rfl ?_
    exact ww_vretX (pc := 28) g h hR hx0 hm d_Bu_create_28

abbrev b_Bu_giveWay : ByteArray := prog_2_method_35_code
def y_Bu_giveWay : MethodName := ⟨R_Bu, "giveWay", "()V"⟩
abbrev w_Bu_giveWay : List Cond := .code y_Bu_giveWay b_Bu_giveWay 1 none :: wA
theorem k_Bu_giveWay : Cond.code y_Bu_giveWay b_Bu_giveWay 1 none ∈ wA := kinm (show _ ∈ tables_1 from (List.mem_append_right _ (List.mem_append_right _ (List.mem_append_right _ (List.mem_append_right _ (List.mem_append_right _ (List.mem_append_right _ (List.mem_append_right _ (List.mem_append_left _ (List.mem_of_getElem? (l := tables_1_8) (i := 187) (by decide +kernel))))))))))) (by decide +kernel)
theorem d_Bu_giveWay_0 : decode b_Bu_giveWay 0 = .ok (.aload_n 0, 1) := by decide +kernel
theorem d_Bu_giveWay_1 : decode b_Bu_giveWay 1 = .ok (.getfield 15, 3) := by decide +kernel
theorem d_Bu_giveWay_4 : decode b_Bu_giveWay 4 = .ok (.getfield 235, 3) := by decide +kernel
theorem d_Bu_giveWay_7 : decode b_Bu_giveWay 7 = .ok (.getfield 365, 3) := by decide +kernel
theorem d_Bu_giveWay_10 : decode b_Bu_giveWay 10 = .ok (.ifCond .ge 15, 3) := by decide +kernel
theorem d_Bu_giveWay_13 : decode b_Bu_giveWay 13 = .ok (.aload_n 0, 1) := by decide +kernel
theorem d_Bu_giveWay_14 : decode b_Bu_giveWay 14 = .ok (.getfield 15, 3) := by decide +kernel
theorem d_Bu_giveWay_17 : decode b_Bu_giveWay 17 = .ok (.bipush 9, 2) := by decide +kernel
theorem d_Bu_giveWay_19 : decode b_Bu_giveWay 19 = .ok (.invokevirtual 145, 3) := by decide +kernel
theorem d_Bu_giveWay_22 : decode b_Bu_giveWay 22 = .ok (.goto 22, 3) := by decide +kernel
theorem d_Bu_giveWay_25 : decode b_Bu_giveWay 25 = .ok (.aload_n 0, 1) := by decide +kernel
theorem d_Bu_giveWay_26 : decode b_Bu_giveWay 26 = .ok (.getfield 39, 3) := by decide +kernel
theorem d_Bu_giveWay_29 : decode b_Bu_giveWay 29 = .ok (.aload_n 0, 1) := by decide +kernel
theorem d_Bu_giveWay_30 : decode b_Bu_giveWay 30 = .ok (.getfield 35, 3) := by decide +kernel
theorem d_Bu_giveWay_33 : decode b_Bu_giveWay 33 = .ok (.invokevirtual 310, 3) := by decide +kernel
theorem d_Bu_giveWay_36 : decode b_Bu_giveWay 36 = .ok (.aload_n 0, 1) := by decide +kernel
theorem d_Bu_giveWay_37 : decode b_Bu_giveWay 37 = .ok (.getfield 15, 3) := by decide +kernel
theorem d_Bu_giveWay_40 : decode b_Bu_giveWay 40 = .ok (.iconst 0, 1) := by decide +kernel
theorem d_Bu_giveWay_41 : decode b_Bu_giveWay 41 = .ok (.invokevirtual 368, 3) := by decide +kernel
theorem d_Bu_giveWay_44 : decode b_Bu_giveWay 44 = .ok (.return_, 1) := by decide +kernel
theorem kw_1402 : Cond.methodLink R_Bu 368 y_Ma_handOver ∈ wA := kinm (show _ ∈ tables_1 from (List.mem_append_right _ (List.mem_append_right _ (List.mem_append_right _ (List.mem_append_right _ (List.mem_append_right _ (List.mem_append_right _ (List.mem_append_right _ (List.mem_append_left _ (List.mem_of_getElem? (l := tables_1_8) (i := 188) (by decide +kernel))))))))))) (by decide +kernel)
theorem kw_1403 : Cond.instanceMethod y_Bu_giveWay ∈ wA := kinm (show _ ∈ tables_1 from (List.mem_append_right _ (List.mem_append_right _ (List.mem_append_right _ (List.mem_append_right _ (List.mem_append_right _ (List.mem_append_right _ (List.mem_append_right _ (List.mem_append_left _ (List.mem_of_getElem? (l := tables_1_8) (i := 186) (by decide +kernel))))))))))) (by decide +kernel)
theorem kw_1404 : Cond.selects R_Bu y_Bu_giveWay y_Bu_giveWay ∈ wA := kinp 94 (by decide +kernel) (by decide +kernel)
theorem cv_Bu_giveWay : CV y_Bu_giveWay b_Bu_giveWay 1 none 0 := ⟨kw_1403, kw_1404, kw_950, k_Bu_giveWay, by decide +kernel⟩
theorem ct_Bu_giveWay {l : Launch} {P : PP} {q : PL} {s s' : S1}  {r : Unit} (h : M_Bu_giveWay s = some (r, s')) : Ct l y_Bu_giveWay b_Bu_giveWay 1 none 4 90 P q s [.ref (q.1 130 0)] none q s' := by
  refine ct_of (by decide) (Nat.le_of_ble_eq_true rfl) fun X ls eP el g hR hl => ?_
  subst eP
  have hR : Rt X q ((r, s') : Unit × S1).2 none := hR
  have hl : lv_has ls 1 [(0, .ref (q.1 130 0))] := hl
  generalize (r, s') = o at h hR
  unfold M_Bu_giveWay at h
  refine ww_aload_n (pc := 0) g.1 d_Bu_giveWay_0 rfl (lv_at hl 0 rfl) ?_
  refine ww_gR (pc := 1) g (k := 2) cl_Bu (pz rfl (by decide)) (by decide) (Or.inl kw_995) (f := 16642) (t := 128) rfl rfl rfl d_Bu_giveWay_1 ?_
  refine ww_gV (pc := 4) g (k := 11) cl_Ma (pz rfl (by decide)) (by decide) (Or.inl kw_996) (f := 16395) (t := 148) rfl rfl rfl d_Bu_giveWay_4 h fun v4 h => ?_
  refine ww_pr h fun pn4 h => ?_
  refine ww_nnP pn4 ?_
  refine ww_gI (pc := 7) g (k := 11) cl_Co pn4 (by decide) (Or.inl kw_998) (f := 18955) rfl rfl d_Bu_giveWay_7 h fun v7 h => ?_
  refine ww_if_ge (pc := 10) (tgt := 25) g.1 d_Bu_giveWay_10 (by decide) h (fun c h => ?_) (fun c h => ?_)
  · refine ww_aload_n (pc := 25) g.1 d_Bu_giveWay_25 rfl (lv_at hl 0 rfl) ?_
    refine ww_gR (pc := 26) g (k := 6) cl_Bu (pz rfl (by decide)) (by decide) (Or.inl kw_967) (f := 16646) (t := 135) rfl rfl rfl d_Bu_giveWay_26 ?_
    refine ww_aload_n (pc := 29) g.1 d_Bu_giveWay_29 rfl (lv_at hl 0 rfl) ?_
    refine ww_gR (pc := 30) g (k := 5) cl_Bu (pz rfl (by decide)) (by decide) (Or.inl kw_976) (f := 16645) (t := 132) rfl rfl rfl d_Bu_giveWay_30 ?_
    obtain ⟨v33, s, hc33, h⟩ := oB_of h
    refine ww_callV (pc := 33) (rest := []) g cv_Ro_takeAll (Or.inl kw_1179) (cl_Ro ⟨by decide, rfl⟩) (pz rfl (by decide)) (ct_Ro_takeAll ⟨by decide, rfl⟩ ⟨by decide, rfl⟩ hc33) ⟨by decide, by decide⟩ rfl hl.1 (Nat.le_of_ble_eq_true rfl) d_Bu_giveWay_33 rfl (?_)
    refine ww_st (st' := []) rfl ?_
    refine ww_aload_n (pc := 36) g.1 d_Bu_giveWay_36 rfl (lv_at hl 0 rfl) ?_
    refine ww_gR (pc := 37) g (k := 2) cl_Bu (pz rfl (by decide)) (by decide) (Or.inl kw_995) (f := 16642) (t := 128) rfl rfl rfl d_Bu_giveWay_37 ?_
    refine ww_iconst (pc := 40) g.1 (v := 0) d_Bu_giveWay_40 (by decide) ?_
    obtain ⟨v41, s, hc41, h⟩ := oB_of h
    refine ww_callV (pc := 41) (rest := []) g cv_Ma_handOver (Or.inl kw_1402) cl_Ma (pz rfl (by decide)) (ct_Ma_handOver hc41) ⟨by decide, by decide⟩ rfl hl.1 (Nat.le_of_ble_eq_true rfl) d_Bu_giveWay_41 rfl (?_)
    refine ww_st (st' := []) rfl ?_
    exact ww_vretH (pc := 44) g h hR d_Bu_giveWay_44
  · refine ww_aload_n (pc := 13) g.1 d_Bu_giveWay_13 rfl (lv_at hl 0 rfl) ?_
    refine ww_gR (pc := 14) g (k := 2) cl_Bu (pz rfl (by decide)) (by decide) (Or.inl kw_995) (f := 16642) (t := 128) rfl rfl rfl d_Bu_giveWay_14 ?_
    refine ww_bipush (pc := 17) g.1 (v := 9) d_Bu_giveWay_17 (by decide) ?_
    obtain ⟨v19, s, hc19, h⟩ := oB_of h
    refine ww_callV (pc := 19) (rest := []) g cv_Ma_fail (Or.inl kw_1144) cl_Ma (pz rfl (by decide)) (ct_Ma_fail hc19) ⟨by decide, by decide⟩ rfl hl.1 (Nat.le_of_ble_eq_true rfl) d_Bu_giveWay_19 rfl (?_)
    refine ww_st (st' := []) rfl ?_
    refine ww_goto (pc := 22) (tgt := 44) g.1 d_Bu_giveWay_22 (by decide) ?_
    exact ww_vretH (pc := 44) g h hR d_Bu_giveWay_44


