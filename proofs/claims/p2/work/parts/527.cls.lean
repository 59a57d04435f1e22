abbrev b_Ma_callWrapper : ByteArray := prog_7_method_14_code
def y_Ma_callWrapper : MethodName := ⟨R_Ma, "callWrapper", "(I)V"⟩
abbrev w_Ma_callWrapper : List Cond := .code y_Ma_callWrapper b_Ma_callWrapper 3 none :: wA
theorem k_Ma_callWrapper : Cond.code y_Ma_callWrapper b_Ma_callWrapper 3 none ∈ wA := kinm (show _ ∈ tables_1 from (List.mem_append_right _ (List.mem_append_right _ (List.mem_append_right _ (List.mem_append_right _ (List.mem_append_right _ (List.mem_append_right _ (List.mem_append_left _ (List.mem_of_getElem? (l := tables_1_7) (i := 216) (by decide +kernel)))))))))) (by decide +kernel)
theorem d_Ma_callWrapper_0 : decode b_Ma_callWrapper 0 = .ok (.aload_n 0, 1) := by decide +kernel
theorem d_Ma_callWrapper_1 : decode b_Ma_callWrapper 1 = .ok (.aload_n 0, 1) := by decide +kernel
theorem d_Ma_callWrapper_2 : decode b_Ma_callWrapper 2 = .ok (.getfield 31, 3) := by decide +kernel
theorem d_Ma_callWrapper_5 : decode b_Ma_callWrapper 5 = .ok (.getfield 120, 3) := by decide +kernel
theorem d_Ma_callWrapper_8 : decode b_Ma_callWrapper 8 = .ok (.iload_n 1, 1) := by decide +kernel
theorem d_Ma_callWrapper_9 : decode b_Ma_callWrapper 9 = .ok (.aaload, 1) := by decide +kernel
theorem d_Ma_callWrapper_10 : decode b_Ma_callWrapper 10 = .ok (.getfield 169, 3) := by decide +kernel
theorem d_Ma_callWrapper_13 : decode b_Ma_callWrapper 13 = .ok (.invokevirtual 308, 3) := by decide +kernel
theorem d_Ma_callWrapper_16 : decode b_Ma_callWrapper 16 = .ok (.astore_n 2, 1) := by decide +kernel
theorem d_Ma_callWrapper_17 : decode b_Ma_callWrapper 17 = .ok (.aload_n 2, 1) := by decide +kernel
theorem d_Ma_callWrapper_18 : decode b_Ma_callWrapper 18 = .ok (.getfield 183, 3) := by decide +kernel
theorem d_Ma_callWrapper_21 : decode b_Ma_callWrapper 21 = .ok (.ifCond .eq 12, 3) := by decide +kernel
theorem d_Ma_callWrapper_24 : decode b_Ma_callWrapper 24 = .ok (.aload_n 0, 1) := by decide +kernel
theorem d_Ma_callWrapper_25 : decode b_Ma_callWrapper 25 = .ok (.bipush 9, 2) := by decide +kernel
theorem d_Ma_callWrapper_27 : decode b_Ma_callWrapper 27 = .ok (.invokevirtual 229, 3) := by decide +kernel
theorem d_Ma_callWrapper_30 : decode b_Ma_callWrapper 30 = .ok (.goto 29, 3) := by decide +kernel
theorem d_Ma_callWrapper_33 : decode b_Ma_callWrapper 33 = .ok (.aload_n 0, 1) := by decide +kernel
theorem d_Ma_callWrapper_34 : decode b_Ma_callWrapper 34 = .ok (.getfield 172, 3) := by decide +kernel
theorem d_Ma_callWrapper_37 : decode b_Ma_callWrapper 37 = .ok (.iconst 3, 1) := by decide +kernel
theorem d_Ma_callWrapper_38 : decode b_Ma_callWrapper 38 = .ok (.iload_n 1, 1) := by decide +kernel
theorem d_Ma_callWrapper_39 : decode b_Ma_callWrapper 39 = .ok (.iconst 0, 1) := by decide +kernel
theorem d_Ma_callWrapper_40 : decode b_Ma_callWrapper 40 = .ok (.invokevirtual 264, 3) := by decide +kernel
theorem d_Ma_callWrapper_43 : decode b_Ma_callWrapper 43 = .ok (.ifCond .ne 11, 3) := by decide +kernel
theorem d_Ma_callWrapper_46 : decode b_Ma_callWrapper 46 = .ok (.aload_n 0, 1) := by decide +kernel
theorem d_Ma_callWrapper_47 : decode b_Ma_callWrapper 47 = .ok (.iconst 4, 1) := by decide +kernel
theorem d_Ma_callWrapper_48 : decode b_Ma_callWrapper 48 = .ok (.invokevirtual 229, 3) := by decide +kernel
theorem d_Ma_callWrapper_51 : decode b_Ma_callWrapper 51 = .ok (.goto 8, 3) := by decide +kernel
theorem d_Ma_callWrapper_54 : decode b_Ma_callWrapper 54 = .ok (.aload_n 0, 1) := by decide +kernel
theorem d_Ma_callWrapper_55 : decode b_Ma_callWrapper 55 = .ok (.aload_n 2, 1) := by decide +kernel
theorem d_Ma_callWrapper_56 : decode b_Ma_callWrapper 56 = .ok (.invokevirtual 312, 3) := by decide +kernel
theorem d_Ma_callWrapper_59 : decode b_Ma_callWrapper 59 = .ok (.return_, 1) := by decide +kernel
theorem kw_1306 : Cond.methodLink R_Ma 308 y_Ma_coroutineOf ∈ wA := kinm (show _ ∈ tables_1 from (List.mem_append_right _ (List.mem_append_right _ (List.mem_append_right _ (List.mem_append_right _ (List.mem_append_right _ (List.mem_append_right _ (List.mem_append_left _ (List.mem_of_getElem? (l := tables_1_7) (i := 217) (by decide +kernel)))))))))) (by decide +kernel)
theorem kw_1307 : Cond.methodLink R_Ma 312 y_Ma_goOnWith ∈ wA := kinm (show _ ∈ tables_1 from (List.mem_append_right _ (List.mem_append_right _ (List.mem_append_right _ (List.mem_append_right _ (List.mem_append_right _ (List.mem_append_right _ (List.mem_append_left _ (List.mem_of_getElem? (l := tables_1_7) (i := 221) (by decide +kernel)))))))))) (by decide +kernel)
theorem kw_1308 : Cond.instanceMethod y_Ma_callWrapper ∈ wA := kinm (show _ ∈ tables_1 from (List.mem_append_right _ (List.mem_append_right _ (List.mem_append_right _ (List.mem_append_right _ (List.mem_append_right _ (List.mem_append_right _ (List.mem_append_left _ (List.mem_of_getElem? (l := tables_1_7) (i := 215) (by decide +kernel)))))))))) (by decide +kernel)
theorem kw_1309 : Cond.selects R_Ma y_Ma_callWrapper y_Ma_callWrapper ∈ wA := kinp 64 (by decide +kernel) (by decide +kernel)
theorem cv_Ma_callWrapper : CV y_Ma_callWrapper b_Ma_callWrapper 3 none 1 := ⟨kw_1308, kw_1309, kw_838, k_Ma_callWrapper, by decide +kernel⟩
theorem ct_Ma_callWrapper {l : Launch} {P : PP} {q : PL} {s s' : S1} {l1 : Int32} {r : Unit} (h : M_Ma_callWrapper l1 s = some (r, s')) : Ct l y_Ma_callWrapper b_Ma_callWrapper 3 none 3 68 P q s [.ref (q.1 128 0), .int l1] none q s' := by
  refine ct_of (by decide) (Nat.le_of_ble_eq_true rfl) fun X ls eP el g hR hl => ?_
  subst eP
  have hR : Rt X q ((r, s') : Unit × S1).2 none := hR
  have hl : lv_has ls 3 [(0, .ref (q.1 128 0)), (1, .int l1)] := hl
  generalize (r, s') = o at h hR
  unfold M_Ma_callWrapper at h
  refine ww_aload_n (pc := 0) g.1 d_Ma_callWrapper_0 rfl (lv_at hl 0 rfl) ?_
  refine ww_aload_n (pc := 1) g.1 d_Ma_callWrapper_1 rfl (lv_at hl 0 rfl) ?_
  refine ww_gR (pc := 2) g (k := 1) cl_Ma (pz rfl (by decide)) (by decide) (Or.inl kw_938) (f := 16385) (t := 111) rfl rfl rfl d_Ma_callWrapper_2 ?_
  refine ww_gR (pc := 5) g (k := 0) cl_He (pz rfl (by decide)) (by decide) (Or.inl kw_940) (f := 14208) (t := 112) rfl rfl rfl d_Ma_callWrapper_5 ?_
  refine ww_iload_n (pc := 8) g.1 d_Ma_callWrapper_8 rfl (lv_at hl 1 rfl) ?_
  refine ww_a8 (pc := 9) g (t := 145) (n := 4000) (pz rfl (by decide)) rfl rfl rfl rfl d_Ma_callWrapper_9 h fun pa9 h => ?_
  refine ww_gI (pc := 10) g (k := 4) cl_Tg pa9 (by decide) (Or.inl kw_941) (f := 18564) rfl rfl d_Ma_callWrapper_10 h fun v10 h => ?_
  obtain ⟨v13, s, hc13, h⟩ := oB_of h
  refine ww_callV (pc := 13) (rest := []) g cv_Ma_coroutineOf (Or.inl kw_1306) cl_Ma (pz rfl (by decide)) (ct_Ma_coroutineOf hc13) ⟨by decide, by decide⟩ rfl hl.1 (Nat.le_of_ble_eq_true rfl) d_Ma_callWrapper_13 rfl (?_)
  refine ww_st (st' := [.ref (q.1 148 v13)]) rfl ?_
  refine ww_pr h fun pr13 h => ?_
  refine ww_astore_n (pc := 16) (i := 2) g.1 (lv' := [(2, .ref (q.1 148 v13)), (0, .ref (q.1 128 0)), (1, .int l1)]) d_Ma_callWrapper_16 rfl hl (by decide) rfl fun ls hl => ?_
  refine ww_aload_n (pc := 17) g.1 d_Ma_callWrapper_17 rfl (lv_at hl 0 rfl) ?_
  refine ww_gI (pc := 18) g (k := 7) cl_Co pr13 (by decide) (Or.inl kw_833) (f := 18951) rfl rfl d_Ma_callWrapper_18 h fun v18 h => ?_
  refine ww_if_eq (pc := 21) (tgt := 33) g.1 d_Ma_callWrapper_21 (by decide) h (fun c h => ?_) (fun c h => ?_)
  · refine ww_aload_n (pc := 33) g.1 d_Ma_callWrapper_33 rfl (lv_at hl 1 rfl) ?_
    refine ww_gV (pc := 34) g (k := 11) cl_Ma (pz rfl (by decide)) (by decide) (Or.inl kw_988) (f := 16395) (t := 148) rfl rfl rfl d_Ma_callWrapper_34 h fun v34 h => ?_
    refine ww_pr h fun pn34 h => ?_
    refine ww_nnP pn34 ?_
    refine ww_iconst (pc := 37) g.1 (v := 3) d_Ma_callWrapper_37 (by decide) ?_
    refine ww_iload_n (pc := 38) g.1 d_Ma_callWrapper_38 rfl (lv_at hl 2 rfl) ?_
    refine ww_iconst (pc := 39) g.1 (v := 0) d_Ma_callWrapper_39 (by decide) ?_
    refine ww_lo fun dlo => ?_
    obtain ⟨v40, s, hc40, h⟩ := oB_of h
    refine ww_callV (pc := 40) (rest := []) g cv_Co_push (Or.inl kw_1261) cl_Co pn34 (ct_Co_push pn34 hc40) ⟨by decide, by decide⟩ rfl hl.1 (Nat.le_of_ble_eq_true rfl) d_Ma_callWrapper_40 rfl (?_)
    refine ww_st (st' := [.int v40]) rfl ?_
    refine ww_hi fun dhi => ?_
    have pr13 : prs s 148 v13 := dhi _ _ pr13.2.1 pr13.2.2 (dlo _ _ pr13)
    refine ww_if_ne (pc := 43) (tgt := 54) g.1 d_Ma_callWrapper_43 (by decide) h (fun c h => ?_) (fun c h => ?_)
    · refine ww_aload_n (pc := 54) g.1 d_Ma_callWrapper_54 rfl (lv_at hl 1 rfl) ?_
      refine ww_aload_n (pc := 55) g.1 d_Ma_callWrapper_55 rfl (lv_at hl 0 rfl) ?_
      refine ww_lo fun dlo => ?_
      obtain ⟨v56, s, hc56, h⟩ := oB_of h
      refine ww_callV (pc := 56) (rest := []) g cv_Ma_goOnWith (Or.inl kw_1307) cl_Ma (pz rfl (by decide)) (ct_Ma_goOnWith pr13 hc56) ⟨by decide, by decide⟩ rfl hl.1 (Nat.le_of_ble_eq_true rfl) d_Ma_callWrapper_56 rfl (?_)
      refine ww_st (st' := []) rfl ?_
      refine ww_hi fun dhi => ?_
      have pr13 : prs s 148 v13 := dhi _ _ pr13.2.1 pr13.2.2 (dlo _ _ pr13)
      exact ww_vretH (pc := 59) g h hR d_Ma_callWrapper_59
    · refine ww_aload_n (pc := 46) g.1 d_Ma_callWrapper_46 rfl (lv_at hl 1 rfl) ?_
      refine ww_iconst (pc := 47) g.1 (v := 4) d_Ma_callWrapper_47 (by decide) ?_
      refine ww_lo fun dlo => ?_
      obtain ⟨v48, s, hc48, h⟩ := oB_of h
      refine ww_callV (pc := 48) (rest := []) g cv_Ma_fail (Or.inl kw_1196) cl_Ma (pz rfl (by decide)) (ct_Ma_fail hc48) ⟨by decide, by decide⟩ rfl hl.1 (Nat.le_of_ble_eq_true rfl) d_Ma_callWrapper_48 rfl (?_)
      refine ww_st (st' := []) rfl ?_
      refine ww_hi fun dhi => ?_
      have pr13 : prs s 148 v13 := dhi _ _ pr13.2.1 pr13.2.2 (dlo _ _ pr13)
      refine ww_goto (pc := 51) (tgt := 59) g.1 d_Ma_callWrapper_51 (by decide) ?_
      exact ww_vretH (pc := 59) g h hR d_Ma_callWrapper_59
  · refine ww_aload_n (pc := 24) g.1 d_Ma_callWrapper_24 rfl (lv_at hl 1 rfl) ?_
    refine ww_bipush (pc := 25) g.1 (v := 9) d_Ma_callWrapper_25 (by decide) ?_
    refine ww_lo fun dlo => ?_
    obtain ⟨v27, s, hc27, h⟩ := oB_of h
    refine ww_callV (pc := 27) (rest := []) g cv_Ma_fail (Or.inl kw_1196) cl_Ma (pz rfl (by decide)) (ct_Ma_fail hc27) ⟨by decide, by decide⟩ rfl hl.1 (Nat.le_of_ble_eq_true rfl) d_Ma_callWrapper_27 rfl (?_)
    refine ww_st (st' := []) rfl ?_
    refine ww_hi fun dhi => ?_
    have pr13 : prs s 148 v13 := dhi _ _ pr13.2.1 pr13.2.2 (dlo _ _ pr13)
    refine ww_goto (pc := 30) (tgt := 59) g.1 d_Ma_callWrapper_30 (by decide) ?_
    exact ww_vretH (pc := 59) g h hR d_Ma_callWrapper_59

abbrev b_Bu_setMetatable : ByteArray := prog_2_method_18_code
def y_Bu_setMetatable : MethodName := ⟨R_Bu, "setMetatable", "()V"⟩
abbrev w_Bu_setMetatable : List Cond := .code y_Bu_setMetatable b_Bu_setMetatable 2 none :: wA
theorem k_Bu_setMetatable : Cond.code y_Bu_setMetatable b_Bu_setMetatable 2 none ∈ wA := kinm (show _ ∈ tables_1 from (List.mem_append_right _ (List.mem_append_right _ (List.mem_append_right _ (List.mem_append_right _ (List.mem_append_right _ (List.mem_append_right _ (List.mem_append_right _ (List.mem_append_left _ (List.mem_of_getElem? (l := tables_1_8) (i := 79) (by decide +kernel))))))))))) (by decide +kernel)
theorem d_Bu_setMetatable_0 : decode b_Bu_setMetatable 0 = .ok (.aload_n 0, 1) := by decide +kernel
theorem d_Bu_setMetatable_1 : decode b_Bu_setMetatable 1 = .ok (.invokevirtual 263, 3) := by decide +kernel
theorem d_Bu_setMetatable_4 : decode b_Bu_setMetatable 4 = .ok (.ifCond .ne 4, 3) := by decide +kernel
theorem d_Bu_setMetatable_7 : decode b_Bu_setMetatable 7 = .ok (.return_, 1) := by decide +kernel
theorem d_Bu_setMetatable_8 : decode b_Bu_setMetatable 8 = .ok (.aload_n 0, 1) := by decide +kernel
theorem d_Bu_setMetatable_9 : decode b_Bu_setMetatable 9 = .ok (.getfield 35, 3) := by decide +kernel
theorem d_Bu_setMetatable_12 : decode b_Bu_setMetatable 12 = .ok (.iconst 0, 1) := by decide +kernel
theorem d_Bu_setMetatable_13 : decode b_Bu_setMetatable 13 = .ok (.invokevirtual 78, 3) := by decide +kernel
theorem d_Bu_setMetatable_16 : decode b_Bu_setMetatable 16 = .ok (.l2i, 1) := by decide +kernel
theorem d_Bu_setMetatable_17 : decode b_Bu_setMetatable 17 = .ok (.istore_n 1, 1) := by decide +kernel
theorem d_Bu_setMetatable_18 : decode b_Bu_setMetatable 18 = .ok (.aload_n 0, 1) := by decide +kernel
theorem d_Bu_setMetatable_19 : decode b_Bu_setMetatable 19 = .ok (.getfield 35, 3) := by decide +kernel
theorem d_Bu_setMetatable_22 : decode b_Bu_setMetatable 22 = .ok (.iconst 1, 1) := by decide +kernel
theorem d_Bu_setMetatable_23 : decode b_Bu_setMetatable 23 = .ok (.invokevirtual 67, 3) := by decide +kernel
theorem d_Bu_setMetatable_26 : decode b_Bu_setMetatable 26 = .ok (.iconst 5, 1) := by decide +kernel
theorem d_Bu_setMetatable_27 : decode b_Bu_setMetatable 27 = .ok (.if_icmp .eq 25, 3) := by decide +kernel
theorem d_Bu_setMetatable_30 : decode b_Bu_setMetatable 30 = .ok (.aload_n 0, 1) := by decide +kernel
theorem d_Bu_setMetatable_31 : decode b_Bu_setMetatable 31 = .ok (.getfield 35, 3) := by decide +kernel
theorem d_Bu_setMetatable_34 : decode b_Bu_setMetatable 34 = .ok (.iconst 1, 1) := by decide +kernel
theorem d_Bu_setMetatable_35 : decode b_Bu_setMetatable 35 = .ok (.invokevirtual 67, 3) := by decide +kernel
theorem d_Bu_setMetatable_38 : decode b_Bu_setMetatable 38 = .ok (.ifCond .eq 14, 3) := by decide +kernel
theorem d_Bu_setMetatable_41 : decode b_Bu_setMetatable 41 = .ok (.aload_n 0, 1) := by decide +kernel
theorem d_Bu_setMetatable_42 : decode b_Bu_setMetatable 42 = .ok (.getfield 15, 3) := by decide +kernel
theorem d_Bu_setMetatable_45 : decode b_Bu_setMetatable 45 = .ok (.iconst 2, 1) := by decide +kernel
theorem d_Bu_setMetatable_46 : decode b_Bu_setMetatable 46 = .ok (.invokevirtual 145, 3) := by decide +kernel
theorem d_Bu_setMetatable_49 : decode b_Bu_setMetatable 49 = .ok (.goto 76, 3) := by decide +kernel
theorem d_Bu_setMetatable_52 : decode b_Bu_setMetatable 52 = .ok (.aload_n 0, 1) := by decide +kernel
theorem d_Bu_setMetatable_53 : decode b_Bu_setMetatable 53 = .ok (.getfield 30, 3) := by decide +kernel
theorem d_Bu_setMetatable_56 : decode b_Bu_setMetatable 56 = .ok (.iconst 5, 1) := by decide +kernel
theorem d_Bu_setMetatable_57 : decode b_Bu_setMetatable 57 = .ok (.iload_n 1, 1) := by decide +kernel
theorem d_Bu_setMetatable_58 : decode b_Bu_setMetatable 58 = .ok (.i2l, 1) := by decide +kernel
theorem d_Bu_setMetatable_59 : decode b_Bu_setMetatable 59 = .ok (.bipush 21, 2) := by decide +kernel
theorem d_Bu_setMetatable_61 : decode b_Bu_setMetatable 61 = .ok (.invokevirtual 231, 3) := by decide +kernel
theorem d_Bu_setMetatable_64 : decode b_Bu_setMetatable 64 = .ok (.ifCond .lt 15, 3) := by decide +kernel
theorem d_Bu_setMetatable_67 : decode b_Bu_setMetatable 67 = .ok (.aload_n 0, 1) := by decide +kernel
theorem d_Bu_setMetatable_68 : decode b_Bu_setMetatable 68 = .ok (.getfield 15, 3) := by decide +kernel
theorem d_Bu_setMetatable_71 : decode b_Bu_setMetatable 71 = .ok (.bipush 8, 2) := by decide +kernel
theorem d_Bu_setMetatable_73 : decode b_Bu_setMetatable 73 = .ok (.invokevirtual 145, 3) := by decide +kernel
theorem d_Bu_setMetatable_76 : decode b_Bu_setMetatable 76 = .ok (.goto 49, 3) := by decide +kernel
theorem d_Bu_setMetatable_79 : decode b_Bu_setMetatable 79 = .ok (.aload_n 0, 1) := by decide +kernel
theorem d_Bu_setMetatable_80 : decode b_Bu_setMetatable 80 = .ok (.getfield 25, 3) := by decide +kernel
theorem d_Bu_setMetatable_83 : decode b_Bu_setMetatable 83 = .ok (.getfield 149, 3) := by decide +kernel
theorem d_Bu_setMetatable_86 : decode b_Bu_setMetatable 86 = .ok (.iload_n 1, 1) := by decide +kernel
theorem d_Bu_setMetatable_87 : decode b_Bu_setMetatable 87 = .ok (.aaload, 1) := by decide +kernel
theorem d_Bu_setMetatable_88 : decode b_Bu_setMetatable 88 = .ok (.aload_n 0, 1) := by decide +kernel
theorem d_Bu_setMetatable_89 : decode b_Bu_setMetatable 89 = .ok (.getfield 35, 3) := by decide +kernel
theorem d_Bu_setMetatable_92 : decode b_Bu_setMetatable 92 = .ok (.iconst 1, 1) := by decide +kernel
theorem d_Bu_setMetatable_93 : decode b_Bu_setMetatable 93 = .ok (.invokevirtual 67, 3) := by decide +kernel
theorem d_Bu_setMetatable_96 : decode b_Bu_setMetatable 96 = .ok (.ifCond .ne 7, 3) := by decide +kernel
theorem d_Bu_setMetatable_99 : decode b_Bu_setMetatable 99 = .ok (.iconst (-1), 1) := by decide +kernel
theorem d_Bu_setMetatable_100 : decode b_Bu_setMetatable 100 = .ok (.goto 12, 3) := by decide +kernel
theorem d_Bu_setMetatable_103 : decode b_Bu_setMetatable 103 = .ok (.aload_n 0, 1) := by decide +kernel
theorem d_Bu_setMetatable_104 : decode b_Bu_setMetatable 104 = .ok (.getfield 35, 3) := by decide +kernel
theorem d_Bu_setMetatable_107 : decode b_Bu_setMetatable 107 = .ok (.iconst 1, 1) := by decide +kernel
theorem d_Bu_setMetatable_108 : decode b_Bu_setMetatable 108 = .ok (.invokevirtual 78, 3) := by decide +kernel
theorem d_Bu_setMetatable_111 : decode b_Bu_setMetatable 111 = .ok (.l2i, 1) := by decide +kernel
theorem d_Bu_setMetatable_112 : decode b_Bu_setMetatable 112 = .ok (.putfield 267, 3) := by decide +kernel
theorem d_Bu_setMetatable_115 : decode b_Bu_setMetatable 115 = .ok (.aload_n 0, 1) := by decide +kernel
theorem d_Bu_setMetatable_116 : decode b_Bu_setMetatable 116 = .ok (.getfield 39, 3) := by decide +kernel
theorem d_Bu_setMetatable_119 : decode b_Bu_setMetatable 119 = .ok (.iconst 5, 1) := by decide +kernel
theorem d_Bu_setMetatable_120 : decode b_Bu_setMetatable 120 = .ok (.iload_n 1, 1) := by decide +kernel
theorem d_Bu_setMetatable_121 : decode b_Bu_setMetatable 121 = .ok (.i2l, 1) := by decide +kernel
theorem d_Bu_setMetatable_122 : decode b_Bu_setMetatable 122 = .ok (.invokevirtual 74, 3) := by decide +kernel
theorem d_Bu_setMetatable_125 : decode b_Bu_setMetatable 125 = .ok (.return_, 1) := by decide +kernel
theorem kw_1310 : Cond.instanceMethod y_Bu_setMetatable ∈ wA := kinm (show _ ∈ tables_1 from (List.mem_append_right _ (List.mem_append_right _ (List.mem_append_right _ (List.mem_append_right _ (List.mem_append_right _ (List.mem_append_right _ (List.mem_append_right _ (List.mem_append_left _ (List.mem_of_getElem? (l := tables_1_8) (i := 78) (by decide +kernel))))))))))) (by decide +kernel)
theorem kw_1311 : Cond.selects R_Bu y_Bu_setMetatable y_Bu_setMetatable ∈ wA := kinp 72 (by decide +kernel) (by decide +kernel)
theorem cv_Bu_setMetatable : CV y_Bu_setMetatable b_Bu_setMetatable 2 none 0 := ⟨kw_1310, kw_1311, kw_950, k_Bu_setMetatable, by decide +kernel⟩
theorem j_Bu_setMetatable_j112 {X : Cx} {q : PL} (g : Gd X y_Bu_setMetatable b_Bu_setMetatable 2 none 3 77 R_Bu) {o : (Unit) × S1} (hR : Rt X q o.2 none) (l1 : Int32) (k0 : Int32) (k1 : Int32) (s : S1) (hp0 : prs s 145 k1) (ls : Array Slot) (hl : lv_has ls 2 [(0, .ref (q.1 130 0)), (1, .int l1)]) (h : M_Bu_setMetatable_j112 l1 k0 k1 s = some o) : WW X q s 112 ls [.int k0, .ref (q.1 145 k1)] := by
  unfold M_Bu_setMetatable_j112 at h
  refine ww_pI (pc := 112) g (k := 14) cl_Tg hp0 (by decide) (Or.inl kw_1158) rfl (f := 18574) rfl rfl rfl rfl d_Bu_setMetatable_112 h fun s hs h => ?_
  refine ww_aload_n (pc := 115) g.1 d_Bu_setMetatable_115 rfl (lv_at hl 0 rfl) ?_
  refine ww_gR (pc := 116) g (k := 6) cl_Bu (pz rfl (by decide)) (by decide) (Or.inl kw_967) (f := 16646) (t := 135) rfl rfl rfl d_Bu_setMetatable_116 ?_
  refine ww_iconst (pc := 119) g.1 (v := 5) d_Bu_setMetatable_119 (by decide) ?_
  refine ww_iload_n (pc := 120) g.1 d_Bu_setMetatable_120 rfl (lv_at hl 1 rfl) ?_
  refine ww_i2l (pc := 121) g.1 (v := l1.toInt64) d_Bu_setMetatable_121 rfl ?_
  obtain ⟨v122, s, hc122, h⟩ := oB_of h
  refine ww_callV (pc := 122) (rest := []) g cv_Ro_add (Or.inl kw_971) (cl_Ro ⟨by decide, rfl⟩) (pz rfl (by decide)) (ct_Ro_add ⟨by decide, rfl⟩ hc122) ⟨by decide, by decide⟩ rfl hl.1 (Nat.le_of_ble_eq_true rfl) d_Bu_setMetatable_122 rfl (?_)
  refine ww_st (st' := []) rfl ?_
  exact ww_vretH (pc := 125) g h hR d_Bu_setMetatable_125

theorem j_Bu_setMetatable_j52 {X : Cx} {q : PL} (g : Gd X y_Bu_setMetatable b_Bu_setMetatable 2 none 3 77 R_Bu) {o : (Unit) × S1} (hR : Rt X q o.2 none) (l1 : Int32) (s : S1) (ls : Array Slot) (hl : lv_has ls 2 [(0, .ref (q.1 130 0)), (1, .int l1)]) (h : M_Bu_setMetatable_j52 l1 s = some o) : WW X q s 52 ls [] := by
  unfold M_Bu_setMetatable_j52 at h
  refine ww_aload_n (pc := 52) g.1 d_Bu_setMetatable_52 rfl (lv_at hl 0 rfl) ?_
  refine ww_gR (pc := 53) g (k := 4) cl_Bu (pz rfl (by decide)) (by decide) (Or.inl kw_968) (f := 16644) (t := 120) rfl rfl rfl d_Bu_setMetatable_53 ?_
  refine ww_iconst (pc := 56) g.1 (v := 5) d_Bu_setMetatable_56 (by decide) ?_
  refine ww_iload_n (pc := 57) g.1 d_Bu_setMetatable_57 rfl (lv_at hl 1 rfl) ?_
  refine ww_i2l (pc := 58) g.1 (v := l1.toInt64) d_Bu_setMetatable_58 rfl ?_
  refine ww_bipush (pc := 59) g.1 (v := 21) d_Bu_setMetatable_59 (by decide) ?_
  obtain ⟨v61, s, hc61, h⟩ := oB_of h
  refine ww_callV (pc := 61) (rest := []) g cv_Ta_findEvent (Or.inl kw_1156) cl_Ta (pz rfl (by decide)) (ct_Ta_findEvent hc61) ⟨by decide, by decide⟩ rfl hl.1 (Nat.le_of_ble_eq_true rfl) d_Bu_setMetatable_61 rfl (?_)
  refine ww_st (st' := [.int v61]) rfl ?_
  refine ww_if_lt (pc := 64) (tgt := 79) g.1 d_Bu_setMetatable_64 (by decide) h (fun c h => ?_) (fun c h => ?_)
  · refine ww_aload_n (pc := 79) g.1 d_Bu_setMetatable_79 rfl (lv_at hl 0 rfl) ?_
    refine ww_gR (pc := 80) g (k := 3) cl_Bu (pz rfl (by decide)) (by decide) (Or.inl kw_974) (f := 16643) (t := 111) rfl rfl rfl d_Bu_setMetatable_80 ?_
    refine ww_gR (pc := 83) g (k := 0) cl_He (pz rfl (by decide)) (by decide) (Or.inl kw_975) (f := 14208) (t := 112) rfl rfl rfl d_Bu_setMetatable_83 ?_
    refine ww_iload_n (pc := 86) g.1 d_Bu_setMetatable_86 rfl (lv_at hl 1 rfl) ?_
    refine ww_a8 (pc := 87) g (t := 145) (n := 4000) (pz rfl (by decide)) rfl rfl rfl rfl d_Bu_setMetatable_87 h fun pa87 h => ?_
    refine ww_aload_n (pc := 88) g.1 d_Bu_setMetatable_88 rfl (lv_at hl 0 rfl) ?_
    refine ww_gR (pc := 89) g (k := 5) cl_Bu (pz rfl (by decide)) (by decide) (Or.inl kw_976) (f := 16645) (t := 132) rfl rfl rfl d_Bu_setMetatable_89 ?_
    refine ww_iconst (pc := 92) g.1 (v := 1) d_Bu_setMetatable_92 (by decide) ?_
    refine ww_lo fun dlo => ?_
    obtain ⟨v93, s, hc93, h⟩ := oB_of h
    refine ww_callV (pc := 93) (rest := [.ref (q.1 145 l1)]) g cv_Ro_kindAt (Or.inl kw_983) (cl_Ro ⟨by decide, rfl⟩) (pz rfl (by decide)) (ct_Ro_kindAt ⟨by decide, rfl⟩ hc93) ⟨by decide, by decide⟩ rfl hl.1 (Nat.le_of_ble_eq_true rfl) d_Bu_setMetatable_93 rfl (?_)
    refine ww_st (st' := [.int v93, .ref (q.1 145 l1)]) rfl ?_
    refine ww_hi fun dhi => ?_
    have pa87 : prs s 145 l1 := dhi _ _ pa87.2.1 pa87.2.2 (dlo _ _ pa87)
    refine ww_if_ne (pc := 96) (tgt := 103) g.1 d_Bu_setMetatable_96 (by decide) h (fun c h => ?_) (fun c h => ?_)
    · refine ww_aload_n (pc := 103) g.1 d_Bu_setMetatable_103 rfl (lv_at hl 0 rfl) ?_
      refine ww_gR (pc := 104) g (k := 5) cl_Bu (pz rfl (by decide)) (by decide) (Or.inl kw_976) (f := 16645) (t := 132) rfl rfl rfl d_Bu_setMetatable_104 ?_
      refine ww_iconst (pc := 107) g.1 (v := 1) d_Bu_setMetatable_107 (by decide) ?_
      refine ww_lo fun dlo => ?_
      obtain ⟨v108, s, hc108, h⟩ := oB_of h
      refine ww_callV (pc := 108) (rest := [.ref (q.1 145 l1)]) g cv_Ro_valueAt (Or.inl kw_977) (cl_Ro ⟨by decide, rfl⟩) (pz rfl (by decide)) (ct_Ro_valueAt ⟨by decide, rfl⟩ hc108) ⟨by decide, by decide⟩ rfl hl.1 (Nat.le_of_ble_eq_true rfl) d_Bu_setMetatable_108 rfl (?_)
      refine ww_st (st' := [.long v108, .ref (q.1 145 l1)]) rfl ?_
      refine ww_hi fun dhi => ?_
      have pa87 : prs s 145 l1 := dhi _ _ pa87.2.1 pa87.2.2 (dlo _ _ pa87)
      refine ww_l2i (pc := 111) g.1 (v := v108.toInt32) d_Bu_setMetatable_111 rfl ?_
      exact j_Bu_setMetatable_j112 g hR l1 v108.toInt32 l1 s pa87 ls (lv_sub hl [0, 1] rfl) h
    · refine ww_iconst (pc := 99) g.1 (v := (-1)) d_Bu_setMetatable_99 (by decide) ?_
      refine ww_goto (pc := 100) (tgt := 112) g.1 d_Bu_setMetatable_100 (by decide) ?_
      exact j_Bu_setMetatable_j112 g hR l1 (-1) l1 s pa87 ls (lv_sub hl [0, 1] rfl) h
  · refine ww_aload_n (pc := 67) g.1 d_Bu_setMetatable_67 rfl (lv_at hl 0 rfl) ?_
    refine ww_gR (pc := 68) g (k := 2) cl_Bu (pz rfl (by decide)) (by decide) (Or.inl kw_995) (f := 16642) (t := 128) rfl rfl rfl d_Bu_setMetatable_68 ?_
    refine ww_bipush (pc := 71) g.1 (v := 8) d_Bu_setMetatable_71 (by decide) ?_
    obtain ⟨v73, s, hc73, h⟩ := oB_of h
    refine ww_callV (pc := 73) (rest := []) g cv_Ma_fail (Or.inl kw_1144) cl_Ma (pz rfl (by decide)) (ct_Ma_fail hc73) ⟨by decide, by decide⟩ rfl hl.1 (Nat.le_of_ble_eq_true rfl) d_Bu_setMetatable_73 rfl (?_)
    refine ww_st (st' := []) rfl ?_
    refine ww_goto (pc := 76) (tgt := 125) g.1 d_Bu_setMetatable_76 (by decide) ?_
    exact ww_vretH (pc := 125) g h hR d_Bu_setMetatable_125

theorem ct_Bu_setMetatable {l : Launch} {P : PP} {q : PL} {s s' : S1}  {r : Unit} (h : M_Bu_setMetatable s = some (r, s')) : Ct l y_Bu_setMetatable b_Bu_setMetatable 2 none 3 77 P q s [.ref (q.1 130 0)] none q s' := by
  refine ct_of (by decide) (Nat.le_of_ble_eq_true rfl) fun X ls eP el g hR hl => ?_
  subst eP
  have hR : Rt X q ((r, s') : Unit × S1).2 none := hR
  have hl : lv_has ls 2 [(0, .ref (q.1 130 0))] := hl
  generalize (r, s') = o at h hR
  unfold M_Bu_setMetatable at h
  refine ww_aload_n (pc := 0) g.1 d_Bu_setMetatable_0 rfl (lv_at hl 0 rfl) ?_
  obtain ⟨v1, s, hc1, h⟩ := oB_of h
  refine ww_callV (pc := 1) (rest := []) g cv_Bu_hasTable (Or.inl kw_1161) cl_Bu (pz rfl (by decide)) (ct_Bu_hasTable hc1) ⟨by decide, by decide⟩ rfl hl.1 (Nat.le_of_ble_eq_true rfl) d_Bu_setMetatable_1 rfl (?_)
  refine ww_st (st' := [.int v1]) rfl ?_
  refine ww_if_ne (pc := 4) (tgt := 8) g.1 d_Bu_setMetatable_4 (by decide) h (fun c h => ?_) (fun c h => ?_)
  · refine ww_aload_n (pc := 8) g.1 d_Bu_setMetatable_8 rfl (lv_at hl 0 rfl) ?_
    refine ww_gR (pc := 9) g (k := 5) cl_Bu (pz rfl (by decide)) (by decide) (Or.inl kw_976) (f := 16645) (t := 132) rfl rfl rfl d_Bu_setMetatable_9 ?_
    refine ww_iconst (pc := 12) g.1 (v := 0) d_Bu_setMetatable_12 (by decide) ?_
    obtain ⟨v13, s, hc13, h⟩ := oB_of h
    refine ww_callV (pc := 13) (rest := []) g cv_Ro_valueAt (Or.inl kw_977) (cl_Ro ⟨by decide, rfl⟩) (pz rfl (by decide)) (ct_Ro_valueAt ⟨by decide, rfl⟩ hc13) ⟨by decide, by decide⟩ rfl hl.1 (Nat.le_of_ble_eq_true rfl) d_Bu_setMetatable_13 rfl (?_)
    refine ww_st (st' := [.long v13]) rfl ?_
    refine ww_l2i (pc := 16) g.1 (v := v13.toInt32) d_Bu_setMetatable_16 rfl ?_
    refine ww_istore_n (pc := 17) (i := 1) g.1 (lv' := [(1, .int v13.toInt32), (0, .ref (q.1 130 0))]) d_Bu_setMetatable_17 rfl hl (by decide) rfl fun ls hl => ?_
    refine ww_aload_n (pc := 18) g.1 d_Bu_setMetatable_18 rfl (lv_at hl 1 rfl) ?_
    refine ww_gR (pc := 19) g (k := 5) cl_Bu (pz rfl (by decide)) (by decide) (Or.inl kw_976) (f := 16645) (t := 132) rfl rfl rfl d_Bu_setMetatable_19 ?_
    refine ww_iconst (pc := 22) g.1 (v := 1) d_Bu_setMetatable_22 (by decide) ?_
    obtain ⟨v23, s, hc23, h⟩ := oB_of h
    refine ww_callV (pc := 23) (rest := []) g cv_Ro_kindAt (Or.inl kw_983) (cl_Ro ⟨by decide, rfl⟩) (pz rfl (by decide)) (ct_Ro_kindAt ⟨by decide, rfl⟩ hc23) ⟨by decide, by decide⟩ rfl hl.1 (Nat.le_of_ble_eq_true rfl) d_Bu_setMetatable_23 rfl (?_)
    refine ww_st (st' := [.int v23]) rfl ?_
    refine ww_iconst (pc := 26) g.1 (v := 5) d_Bu_setMetatable_26 (by decide) ?_
    refine ww_icmp_eq (pc := 27) (tgt := 52) g.1 d_Bu_setMetatable_27 (by decide) h (fun c h => ?_) (fun c h => ?_)
    · exact j_Bu_setMetatable_j52 g hR v13.toInt32 s ls (lv_sub hl [1, 0] rfl) h
    · refine ww_aload_n (pc := 30) g.1 d_Bu_setMetatable_30 rfl (lv_at hl 1 rfl) ?_
      refine ww_gR (pc := 31) g (k := 5) cl_Bu (pz rfl (by decide)) (by decide) (Or.inl kw_976) (f := 16645) (t := 132) rfl rfl rfl d_Bu_setMetatable_31 ?_
      refine ww_iconst (pc := 34) g.1 (v := 1) d_Bu_setMetatable_34 (by decide) ?_
      obtain ⟨v35, s, hc35, h⟩ := oB_of h
      refine ww_callV (pc := 35) (rest := []) g cv_Ro_kindAt (Or.inl kw_983) (cl_Ro ⟨by decide, rfl⟩) (pz rfl (by decide)) (ct_Ro_kindAt ⟨by decide, rfl⟩ hc35) ⟨by decide, by decide⟩ rfl hl.1 (Nat.le_of_ble_eq_true rfl) d_Bu_setMetatable_35 rfl (?_)
      refine ww_st (st' := [.int v35]) rfl ?_
      refine ww_if_eq (pc := 38) (tgt := 52) g.1 d_Bu_setMetatable_38 (by decide) h (fun c h => ?_) (fun c h => ?_)
      · exact j_Bu_setMetatable_j52 g hR v13.toInt32 s ls (lv_sub hl [1, 0] rfl) h
      · refine ww_aload_n (pc := 41) g.1 d_Bu_setMetatable_41 rfl (lv_at hl 1 rfl) ?_
        refine ww_gR (pc := 42) g (k := 2) cl_Bu (pz rfl (by decide)) (by decide) (Or.inl kw_995) (f := 16642) (t := 128) rfl rfl rfl d_Bu_setMetatable_42 ?_
        refine ww_iconst (pc := 45) g.1 (v := 2) d_Bu_setMetatable_45 (by decide) ?_
        obtain ⟨v46, s, hc46, h⟩ := oB_of h
        refine ww_callV (pc := 46) (rest := []) g cv_Ma_fail (Or.inl kw_1144) cl_Ma (pz rfl (by decide)) (ct_Ma_fail hc46) ⟨by decide, by decide⟩ rfl hl.1 (Nat.le_of_ble_eq_true rfl) d_Bu_setMetatable_46 rfl (?_)
        refine ww_st (st' := []) rfl ?_
        refine ww_goto (pc := 49) (tgt := 125) g.1 d_Bu_setMetatable_49 (by decide) ?_
        exact ww_vretH (pc := 125) g h hR d_Bu_setMetatable_125
  · exact ww_vretH (pc := 7) g h hR d_Bu_setMetatable_7

abbrev b_Bu_resume : ByteArray := prog_2_method_34_code
def y_Bu_resume : MethodName := ⟨R_Bu, "resume", "()V"⟩
abbrev w_Bu_resume : List Cond := .code y_Bu_resume b_Bu_resume 2 none :: wA
theorem k_Bu_resume : Cond.code y_Bu_resume b_Bu_resume 2 none ∈ wA := kinm (show _ ∈ tables_1 from (List.mem_append_right _ (List.mem_append_right _ (List.mem_append_right _ (List.mem_append_right _ (List.mem_append_right _ (List.mem_append_right _ (List.mem_append_right _ (List.mem_append_left _ (List.mem_of_getElem? (l := tables_1_8) (i := 176) (by decide +kernel))))))))))) (by decide +kernel)
theorem d_Bu_resume_0 : decode b_Bu_resume 0 = .ok (.aload_n 0, 1) := by decide +kernel
theorem d_Bu_resume_1 : decode b_Bu_resume 1 = .ok (.invokevirtual 349, 3) := by decide +kernel
theorem d_Bu_resume_4 : decode b_Bu_resume 4 = .ok (.ifCond .ne 4, 3) := by decide +kernel
theorem d_Bu_resume_7 : decode b_Bu_resume 7 = .ok (.return_, 1) := by decide +kernel
theorem d_Bu_resume_8 : decode b_Bu_resume 8 = .ok (.aload_n 0, 1) := by decide +kernel
theorem d_Bu_resume_9 : decode b_Bu_resume 9 = .ok (.getfield 15, 3) := by decide +kernel
theorem d_Bu_resume_12 : decode b_Bu_resume 12 = .ok (.aload_n 0, 1) := by decide +kernel
theorem d_Bu_resume_13 : decode b_Bu_resume 13 = .ok (.getfield 35, 3) := by decide +kernel
theorem d_Bu_resume_16 : decode b_Bu_resume 16 = .ok (.iconst 0, 1) := by decide +kernel
theorem d_Bu_resume_17 : decode b_Bu_resume 17 = .ok (.invokevirtual 78, 3) := by decide +kernel
theorem d_Bu_resume_20 : decode b_Bu_resume 20 = .ok (.l2i, 1) := by decide +kernel
theorem d_Bu_resume_21 : decode b_Bu_resume 21 = .ok (.invokevirtual 352, 3) := by decide +kernel
theorem d_Bu_resume_24 : decode b_Bu_resume 24 = .ok (.astore_n 1, 1) := by decide +kernel
theorem d_Bu_resume_25 : decode b_Bu_resume 25 = .ok (.aload_n 1, 1) := by decide +kernel
theorem d_Bu_resume_26 : decode b_Bu_resume 26 = .ok (.getfield 356, 3) := by decide +kernel
theorem d_Bu_resume_29 : decode b_Bu_resume 29 = .ok (.ifCond .eq 26, 3) := by decide +kernel
theorem d_Bu_resume_32 : decode b_Bu_resume 32 = .ok (.aload_n 0, 1) := by decide +kernel
theorem d_Bu_resume_33 : decode b_Bu_resume 33 = .ok (.getfield 39, 3) := by decide +kernel
theorem d_Bu_resume_36 : decode b_Bu_resume 36 = .ok (.iconst 1, 1) := by decide +kernel
theorem d_Bu_resume_37 : decode b_Bu_resume 37 = .ok (.lconst 0, 1) := by decide +kernel
theorem d_Bu_resume_38 : decode b_Bu_resume 38 = .ok (.invokevirtual 74, 3) := by decide +kernel
theorem d_Bu_resume_41 : decode b_Bu_resume 41 = .ok (.aload_n 0, 1) := by decide +kernel
theorem d_Bu_resume_42 : decode b_Bu_resume 42 = .ok (.getfield 39, 3) := by decide +kernel
theorem d_Bu_resume_45 : decode b_Bu_resume 45 = .ok (.iconst 3, 1) := by decide +kernel
theorem d_Bu_resume_46 : decode b_Bu_resume 46 = .ok (.ldc2_w 359, 3) := by decide +kernel
theorem d_Bu_resume_49 : decode b_Bu_resume 49 = .ok (.invokevirtual 74, 3) := by decide +kernel
theorem d_Bu_resume_52 : decode b_Bu_resume 52 = .ok (.goto 46, 3) := by decide +kernel
theorem d_Bu_resume_55 : decode b_Bu_resume 55 = .ok (.aload_n 0, 1) := by decide +kernel
theorem d_Bu_resume_56 : decode b_Bu_resume 56 = .ok (.getfield 15, 3) := by decide +kernel
theorem d_Bu_resume_59 : decode b_Bu_resume 59 = .ok (.getfield 235, 3) := by decide +kernel
theorem d_Bu_resume_62 : decode b_Bu_resume 62 = .ok (.iconst 2, 1) := by decide +kernel
theorem d_Bu_resume_63 : decode b_Bu_resume 63 = .ok (.iconst (-1), 1) := by decide +kernel
theorem d_Bu_resume_64 : decode b_Bu_resume 64 = .ok (.iconst 0, 1) := by decide +kernel
theorem d_Bu_resume_65 : decode b_Bu_resume 65 = .ok (.invokevirtual 239, 3) := by decide +kernel
theorem d_Bu_resume_68 : decode b_Bu_resume 68 = .ok (.ifCond .ne 14, 3) := by decide +kernel
theorem d_Bu_resume_71 : decode b_Bu_resume 71 = .ok (.aload_n 0, 1) := by decide +kernel
theorem d_Bu_resume_72 : decode b_Bu_resume 72 = .ok (.getfield 15, 3) := by decide +kernel
theorem d_Bu_resume_75 : decode b_Bu_resume 75 = .ok (.iconst 4, 1) := by decide +kernel
theorem d_Bu_resume_76 : decode b_Bu_resume 76 = .ok (.invokevirtual 145, 3) := by decide +kernel
theorem d_Bu_resume_79 : decode b_Bu_resume 79 = .ok (.goto 19, 3) := by decide +kernel
theorem d_Bu_resume_82 : decode b_Bu_resume 82 = .ok (.aload_n 0, 1) := by decide +kernel
theorem d_Bu_resume_83 : decode b_Bu_resume 83 = .ok (.getfield 35, 3) := by decide +kernel
theorem d_Bu_resume_86 : decode b_Bu_resume 86 = .ok (.iconst 1, 1) := by decide +kernel
theorem d_Bu_resume_87 : decode b_Bu_resume 87 = .ok (.invokevirtual 260, 3) := by decide +kernel
theorem d_Bu_resume_90 : decode b_Bu_resume 90 = .ok (.aload_n 0, 1) := by decide +kernel
theorem d_Bu_resume_91 : decode b_Bu_resume 91 = .ok (.getfield 15, 3) := by decide +kernel
theorem d_Bu_resume_94 : decode b_Bu_resume 94 = .ok (.aload_n 1, 1) := by decide +kernel
theorem d_Bu_resume_95 : decode b_Bu_resume 95 = .ok (.invokevirtual 361, 3) := by decide +kernel
theorem d_Bu_resume_98 : decode b_Bu_resume 98 = .ok (.return_, 1) := by decide +kernel
theorem kw_1312 : Cond.constantLong R_Bu 359 9 ∈ wA := kinm (show _ ∈ tables_1 from (List.mem_append_right _ (List.mem_append_right _ (List.mem_append_right _ (List.mem_append_right _ (List.mem_append_right _ (List.mem_append_right _ (List.mem_append_right _ (List.mem_append_left _ (List.mem_of_getElem? (l := tables_1_8) (i := 182) (by decide +kernel))))))))))) (by decide +kernel)
theorem kw_1313 : Cond.methodLink R_Bu 361 y_Ma_goOnWith ∈ wA := kinm (show _ ∈ tables_1 from (List.mem_append_right _ (List.mem_append_right _ (List.mem_append_right _ (List.mem_append_right _ (List.mem_append_right _ (List.mem_append_right _ (List.mem_append_right _ (List.mem_append_left _ (List.mem_of_getElem? (l := tables_1_8) (i := 183) (by decide +kernel))))))))))) (by decide +kernel)
theorem kw_1314 : Cond.instanceMethod y_Bu_resume ∈ wA := kinm (show _ ∈ tables_1 from (List.mem_append_right _ (List.mem_append_right _ (List.mem_append_right _ (List.mem_append_right _ (List.mem_append_right _ (List.mem_append_right _ (List.mem_append_right _ (List.mem_append_left _ (List.mem_of_getElem? (l := tables_1_8) (i := 175) (by decide +kernel))))))))))) (by decide +kernel)
theorem kw_1315 : Cond.selects R_Bu y_Bu_resume y_Bu_resume ∈ wA := kinp 92 (by decide +kernel) (by decide +kernel)
theorem cv_Bu_resume : CV y_Bu_resume b_Bu_resume 2 none 0 := ⟨kw_1314, kw_1315, kw_950, k_Bu_resume, by decide +kernel⟩
theorem ct_Bu_resume {l : Launch} {P : PP} {q : PL} {s s' : S1}  {r : Unit} (h : M_Bu_resume s = some (r, s')) : Ct l y_Bu_resume b_Bu_resume 2 none 3 68 P q s [.ref (q.1 130 0)] none q s' := by
  refine ct_of (by decide) (Nat.le_of_ble_eq_true rfl) fun X ls eP el g hR hl => ?_
  subst eP
  have hR : Rt X q ((r, s') : Unit × S1).2 none := hR
  have hl : lv_has ls 2 [(0, .ref (q.1 130 0))] := hl
  generalize (r, s') = o at h hR
  unfold M_Bu_resume at h
  refine ww_aload_n (pc := 0) g.1 d_Bu_resume_0 rfl (lv_at hl 0 rfl) ?_
  obtain ⟨v1, s, hc1, h⟩ := oB_of h
  refine ww_callV (pc := 1) (rest := []) g cv_Bu_hasCoroutine (Or.inl kw_1199) cl_Bu (pz rfl (by decide)) (ct_Bu_hasCoroutine hc1) ⟨by decide, by decide⟩ rfl hl.1 (Nat.le_of_ble_eq_true rfl) d_Bu_resume_1 rfl (?_)
  refine ww_st (st' := [.int v1]) rfl ?_
  refine ww_if_ne (pc := 4) (tgt := 8) g.1 d_Bu_resume_4 (by decide) h (fun c h => ?_) (fun c h => ?_)
  · refine ww_aload_n (pc := 8) g.1 d_Bu_resume_8 rfl (lv_at hl 0 rfl) ?_
    refine ww_gR (pc := 9) g (k := 2) cl_Bu (pz rfl (by decide)) (by decide) (Or.inl kw_995) (f := 16642) (t := 128) rfl rfl rfl d_Bu_resume_9 ?_
    refine ww_aload_n (pc := 12) g.1 d_Bu_resume_12 rfl (lv_at hl 0 rfl) ?_
    refine ww_gR (pc := 13) g (k := 5) cl_Bu (pz rfl (by decide)) (by decide) (Or.inl kw_976) (f := 16645) (t := 132) rfl rfl rfl d_Bu_resume_13 ?_
    refine ww_iconst (pc := 16) g.1 (v := 0) d_Bu_resume_16 (by decide) ?_
    obtain ⟨v17, s, hc17, h⟩ := oB_of h
    refine ww_callV (pc := 17) (rest := [.ref (q.1 128 0)]) g cv_Ro_valueAt (Or.inl kw_977) (cl_Ro ⟨by decide, rfl⟩) (pz rfl (by decide)) (ct_Ro_valueAt ⟨by decide, rfl⟩ hc17) ⟨by decide, by decide⟩ rfl hl.1 (Nat.le_of_ble_eq_true rfl) d_Bu_resume_17 rfl (?_)
    refine ww_st (st' := [.long v17, .ref (q.1 128 0)]) rfl ?_
    refine ww_l2i (pc := 20) g.1 (v := v17.toInt32) d_Bu_resume_20 rfl ?_
    obtain ⟨v21, s, hc21, h⟩ := oB_of h
    refine ww_callV (pc := 21) (rest := []) g cv_Ma_coroutineOf (Or.inl kw_1200) cl_Ma (pz rfl (by decide)) (ct_Ma_coroutineOf hc21) ⟨by decide, by decide⟩ rfl hl.1 (Nat.le_of_ble_eq_true rfl) d_Bu_resume_21 rfl (?_)
    refine ww_st (st' := [.ref (q.1 148 v21)]) rfl ?_
    refine ww_pr h fun pr21 h => ?_
    refine ww_astore_n (pc := 24) (i := 1) g.1 (lv' := [(1, .ref (q.1 148 v21)), (0, .ref (q.1 130 0))]) d_Bu_resume_24 rfl hl (by decide) rfl fun ls hl => ?_
    refine ww_aload_n (pc := 25) g.1 d_Bu_resume_25 rfl (lv_at hl 0 rfl) ?_
    refine ww_gI (pc := 26) g (k := 7) cl_Co pr21 (by decide) (Or.inl kw_1202) (f := 18951) rfl rfl d_Bu_resume_26 h fun v26 h => ?_
    refine ww_if_eq (pc := 29) (tgt := 55) g.1 d_Bu_resume_29 (by decide) h (fun c h => ?_) (fun c h => ?_)
    · refine ww_aload_n (pc := 55) g.1 d_Bu_resume_55 rfl (lv_at hl 1 rfl) ?_
      refine ww_gR (pc := 56) g (k := 2) cl_Bu (pz rfl (by decide)) (by decide) (Or.inl kw_995) (f := 16642) (t := 128) rfl rfl rfl d_Bu_resume_56 ?_
      refine ww_gV (pc := 59) g (k := 11) cl_Ma (pz rfl (by decide)) (by decide) (Or.inl kw_996) (f := 16395) (t := 148) rfl rfl rfl d_Bu_resume_59 h fun v59 h => ?_
      refine ww_pr h fun pn59 h => ?_
      refine ww_nnP pn59 ?_
      refine ww_iconst (pc := 62) g.1 (v := 2) d_Bu_resume_62 (by decide) ?_
      refine ww_iconst (pc := 63) g.1 (v := (-1)) d_Bu_resume_63 (by decide) ?_
      refine ww_iconst (pc := 64) g.1 (v := 0) d_Bu_resume_64 (by decide) ?_
      refine ww_lo fun dlo => ?_
      obtain ⟨v65, s, hc65, h⟩ := oB_of h
      refine ww_callV (pc := 65) (rest := []) g cv_Co_push (Or.inl kw_1147) cl_Co pn59 (ct_Co_push pn59 hc65) ⟨by decide, by decide⟩ rfl hl.1 (Nat.le_of_ble_eq_true rfl) d_Bu_resume_65 rfl (?_)
      refine ww_st (st' := [.int v65]) rfl ?_
      refine ww_hi fun dhi => ?_
      have pr21 : prs s 148 v21 := dhi _ _ pr21.2.1 pr21.2.2 (dlo _ _ pr21)
      refine ww_if_ne (pc := 68) (tgt := 82) g.1 d_Bu_resume_68 (by decide) h (fun c h => ?_) (fun c h => ?_)
      · refine ww_aload_n (pc := 82) g.1 d_Bu_resume_82 rfl (lv_at hl 1 rfl) ?_
        refine ww_gR (pc := 83) g (k := 5) cl_Bu (pz rfl (by decide)) (by decide) (Or.inl kw_976) (f := 16645) (t := 132) rfl rfl rfl d_Bu_resume_83 ?_
        refine ww_iconst (pc := 86) g.1 (v := 1) d_Bu_resume_86 (by decide) ?_
        refine ww_lo fun dlo => ?_
        obtain ⟨v87, s, hc87, h⟩ := oB_of h
        refine ww_callV (pc := 87) (rest := []) g cv_Ro_dropFirst (Or.inl kw_1150) (cl_Ro ⟨by decide, rfl⟩) (pz rfl (by decide)) (ct_Ro_dropFirst ⟨by decide, rfl⟩ hc87) ⟨by decide, by decide⟩ rfl hl.1 (Nat.le_of_ble_eq_true rfl) d_Bu_resume_87 rfl (?_)
        refine ww_st (st' := []) rfl ?_
        refine ww_hi fun dhi => ?_
        have pr21 : prs s 148 v21 := dhi _ _ pr21.2.1 pr21.2.2 (dlo _ _ pr21)
        refine ww_aload_n (pc := 90) g.1 d_Bu_resume_90 rfl (lv_at hl 1 rfl) ?_
        refine ww_gR (pc := 91) g (k := 2) cl_Bu (pz rfl (by decide)) (by decide) (Or.inl kw_995) (f := 16642) (t := 128) rfl rfl rfl d_Bu_resume_91 ?_
        refine ww_aload_n (pc := 94) g.1 d_Bu_resume_94 rfl (lv_at hl 0 rfl) ?_
        refine ww_lo fun dlo => ?_
        obtain ⟨v95, s, hc95, h⟩ := oB_of h
        refine ww_callV (pc := 95) (rest := []) g cv_Ma_goOnWith (Or.inl kw_1313) cl_Ma (pz rfl (by decide)) (ct_Ma_goOnWith pr21 hc95) ⟨by decide, by decide⟩ rfl hl.1 (Nat.le_of_ble_eq_true rfl) d_Bu_resume_95 rfl (?_)
        refine ww_st (st' := []) rfl ?_
        refine ww_hi fun dhi => ?_
        have pr21 : prs s 148 v21 := dhi _ _ pr21.2.1 pr21.2.2 (dlo _ _ pr21)
        exact ww_vretH (pc := 98) g h hR d_Bu_resume_98
      · refine ww_aload_n (pc := 71) g.1 d_Bu_resume_71 rfl (lv_at hl 1 rfl) ?_
        refine ww_gR (pc := 72) g (k := 2) cl_Bu (pz rfl (by decide)) (by decide) (Or.inl kw_995) (f := 16642) (t := 128) rfl rfl rfl d_Bu_resume_72 ?_
        refine ww_iconst (pc := 75) g.1 (v := 4) d_Bu_resume_75 (by decide) ?_
        refine ww_lo fun dlo => ?_
        obtain ⟨v76, s, hc76, h⟩ := oB_of h
        refine ww_callV (pc := 76) (rest := []) g cv_Ma_fail (Or.inl kw_1144) cl_Ma (pz rfl (by decide)) (ct_Ma_fail hc76) ⟨by decide, by decide⟩ rfl hl.1 (Nat.le_of_ble_eq_true rfl) d_Bu_resume_76 rfl (?_)
        refine ww_st (st' := []) rfl ?_
        refine ww_hi fun dhi => ?_
        have pr21 : prs s 148 v21 := dhi _ _ pr21.2.1 pr21.2.2 (dlo _ _ pr21)
        refine ww_goto (pc := 79) (tgt := 98) g.1 d_Bu_resume_79 (by decide) ?_
        exact ww_vretH (pc := 98) g h hR d_Bu_resume_98
    · refine ww_aload_n (pc := 32) g.1 d_Bu_resume_32 rfl (lv_at hl 1 rfl) ?_
      refine ww_gR (pc := 33) g (k := 6) cl_Bu (pz rfl (by decide)) (by decide) (Or.inl kw_967) (f := 16646) (t := 135) rfl rfl rfl d_Bu_resume_33 ?_
      refine ww_iconst (pc := 36) g.1 (v := 1) d_Bu_resume_36 (by decide) ?_
      refine ww_lconst (pc := 37) g.1 (v := 0) d_Bu_resume_37 (by decide) ?_
      refine ww_lo fun dlo => ?_
      obtain ⟨v38, s, hc38, h⟩ := oB_of h
      refine ww_callV (pc := 38) (rest := []) g cv_Ro_add (Or.inl kw_971) (cl_Ro ⟨by decide, rfl⟩) (pz rfl (by decide)) (ct_Ro_add ⟨by decide, rfl⟩ hc38) ⟨by decide, by decide⟩ rfl hl.1 (Nat.le_of_ble_eq_true rfl) d_Bu_resume_38 rfl (?_)
      refine ww_st (st' := []) rfl ?_
      refine ww_hi fun dhi => ?_
      have pr21 : prs s 148 v21 := dhi _ _ pr21.2.1 pr21.2.2 (dlo _ _ pr21)
      refine ww_aload_n (pc := 41) g.1 d_Bu_resume_41 rfl (lv_at hl 1 rfl) ?_
      refine ww_gR (pc := 42) g (k := 6) cl_Bu (pz rfl (by decide)) (by decide) (Or.inl kw_967) (f := 16646) (t := 135) rfl rfl rfl d_Bu_resume_42 ?_
      refine ww_iconst (pc := 45) g.1 (v := 3) d_Bu_resume_45 (by decide) ?_
      refine ww_ldc2 (pc := 46) g (v := 9) kw_1312 d_Bu_resume_46 ?_
      refine ww_lo fun dlo => ?_
      obtain ⟨v49, s, hc49, h⟩ := oB_of h
      refine ww_callV (pc := 49) (rest := []) g cv_Ro_add (Or.inl kw_971) (cl_Ro ⟨by decide, rfl⟩) (pz rfl (by decide)) (ct_Ro_add ⟨by decide, rfl⟩ hc49) ⟨by decide, by decide⟩ rfl hl.1 (Nat.le_of_ble_eq_true rfl) d_Bu_resume_49 rfl (?_)
      refine ww_st (st' := []) rfl ?_
      refine ww_hi fun dhi => ?_
      have pr21 : prs s 148 v21 := dhi _ _ pr21.2.1 pr21.2.2 (dlo _ _ pr21)
      refine ww_goto (pc := 52) (tgt := 98) g.1 d_Bu_resume_52 (by decide) ?_
      exact ww_vretH (pc := 98) g h hR d_Bu_resume_98
  · exact ww_vretH (pc := 7) g h hR d_Bu_resume_7

abbrev b_Ma_handOver : ByteArray := prog_7_method_21_code
def y_Ma_handOver : MethodName := ⟨R_Ma, "handOver", "(I)V"⟩
abbrev w_Ma_handOver : List Cond := .code y_Ma_handOver b_Ma_handOver 2 none :: wA
theorem k_Ma_handOver : Cond.code y_Ma_handOver b_Ma_handOver 2 none ∈ wA := kinm (show _ ∈ tables_1 from (List.mem_append_right _ (List.mem_append_right _ (List.mem_append_right _ (List.mem_append_right _ (List.mem_append_right _ (List.mem_append_right _ (List.mem_append_right _ (List.mem_append_left _ (List.mem_of_getElem? (l := tables_1_8) (i := 191) (by decide +kernel))))))))))) (by decide +kernel)
theorem d_Ma_handOver_0 : decode b_Ma_handOver 0 = .ok (.aload_n 0, 1) := by decide +kernel
theorem d_Ma_handOver_1 : decode b_Ma_handOver 1 = .ok (.iload_n 1, 1) := by decide +kernel
theorem d_Ma_handOver_2 : decode b_Ma_handOver 2 = .ok (.invokevirtual 358, 3) := by decide +kernel
theorem d_Ma_handOver_5 : decode b_Ma_handOver 5 = .ok (.iconst 2, 1) := by decide +kernel
theorem d_Ma_handOver_6 : decode b_Ma_handOver 6 = .ok (.if_icmp .ne 10, 3) := by decide +kernel
theorem d_Ma_handOver_9 : decode b_Ma_handOver 9 = .ok (.aload_n 0, 1) := by decide +kernel
theorem d_Ma_handOver_10 : decode b_Ma_handOver 10 = .ok (.invokevirtual 341, 3) := by decide +kernel
theorem d_Ma_handOver_13 : decode b_Ma_handOver 13 = .ok (.goto 8, 3) := by decide +kernel
theorem d_Ma_handOver_16 : decode b_Ma_handOver 16 = .ok (.aload_n 0, 1) := by decide +kernel
theorem d_Ma_handOver_17 : decode b_Ma_handOver 17 = .ok (.iconst 3, 1) := by decide +kernel
theorem d_Ma_handOver_18 : decode b_Ma_handOver 18 = .ok (.putfield 61, 3) := by decide +kernel
theorem d_Ma_handOver_21 : decode b_Ma_handOver 21 = .ok (.return_, 1) := by decide +kernel
theorem kw_1316 : Cond.methodLink R_Ma 358 y_Ma_backToResumer ∈ wA := kinm (show _ ∈ tables_1 from (List.mem_append_right _ (List.mem_append_right _ (List.mem_append_right _ (List.mem_append_right _ (List.mem_append_right _ (List.mem_append_right _ (List.mem_append_right _ (List.mem_append_left _ (List.mem_of_getElem? (l := tables_1_8) (i := 192) (by decide +kernel))))))))))) (by decide +kernel)
theorem kw_1317 : Cond.methodLink R_Ma 341 y_Ma_giveWithTrue ∈ wA := kinm (show _ ∈ tables_1 from (List.mem_append_right _ (List.mem_append_right _ (List.mem_append_right _ (List.mem_append_right _ (List.mem_append_right _ (List.mem_append_right _ (List.mem_append_right _ (List.mem_append_left _ (List.mem_of_getElem? (l := tables_1_8) (i := 196) (by decide +kernel))))))))))) (by decide +kernel)
theorem kw_1318 : Cond.instanceMethod y_Ma_handOver ∈ wA := kinm (show _ ∈ tables_1 from (List.mem_append_right _ (List.mem_append_right _ (List.mem_append_right _ (List.mem_append_right _ (List.mem_append_right _ (List.mem_append_right _ (List.mem_append_right _ (List.mem_append_left _ (List.mem_of_getElem? (l := tables_1_8) (i := 189) (by decide +kernel))))))))))) (by decide +kernel)
theorem kw_1319 : Cond.selects R_Ma y_Ma_handOver y_Ma_handOver ∈ wA := kinm (show _ ∈ tables_1 from (List.mem_append_right _ (List.mem_append_right _ (List.mem_append_right _ (List.mem_append_right _ (List.mem_append_right _ (List.mem_append_right _ (List.mem_append_right _ (List.mem_append_left _ (List.mem_of_getElem? (l := tables_1_8) (i := 190) (by decide +kernel))))))))))) (by decide +kernel)
theorem cv_Ma_handOver : CV y_Ma_handOver b_Ma_handOver 2 none 1 := ⟨kw_1318, kw_1319, kw_838, k_Ma_handOver, by decide +kernel⟩
theorem ct_Ma_handOver {l : Launch} {P : PP} {q : PL} {s s' : S1} {l1 : Int32} {r : Unit} (h : M_Ma_handOver l1 s = some (r, s')) : Ct l y_Ma_handOver b_Ma_handOver 2 none 3 69 P q s [.ref (q.1 128 0), .int l1] none q s' := by
  refine ct_of (by decide) (Nat.le_of_ble_eq_true rfl) fun X ls eP el g hR hl => ?_
  subst eP
  have hR : Rt X q ((r, s') : Unit × S1).2 none := hR
  have hl : lv_has ls 2 [(0, .ref (q.1 128 0)), (1, .int l1)] := hl
  generalize (r, s') = o at h hR
  unfold M_Ma_handOver at h
  refine ww_aload_n (pc := 0) g.1 d_Ma_handOver_0 rfl (lv_at hl 0 rfl) ?_
  refine ww_iload_n (pc := 1) g.1 d_Ma_handOver_1 rfl (lv_at hl 1 rfl) ?_
  obtain ⟨v2, s, hc2, h⟩ := oB_of h
  refine ww_callV (pc := 2) (rest := []) g cv_Ma_backToResumer (Or.inl kw_1316) cl_Ma (pz rfl (by decide)) (ct_Ma_backToResumer hc2) ⟨by decide, by decide⟩ rfl hl.1 (Nat.le_of_ble_eq_true rfl) d_Ma_handOver_2 rfl (?_)
  refine ww_st (st' := [.int v2]) rfl ?_
  refine ww_iconst (pc := 5) g.1 (v := 2) d_Ma_handOver_5 (by decide) ?_
  refine ww_icmp_ne (pc := 6) (tgt := 16) g.1 d_Ma_handOver_6 (by decide) h (fun c h => ?_) (fun c h => ?_)
  · refine ww_aload_n (pc := 16) g.1 d_Ma_handOver_16 rfl (lv_at hl 0 rfl) ?_
    refine ww_iconst (pc := 17) g.1 (v := 3) d_Ma_handOver_17 (by decide) ?_
    refine ww_pI (pc := 18) g (k := 12) cl_Ma (pz rfl (by decide)) (by decide) (Or.inl kw_851) rfl (f := 16396) rfl rfl rfl rfl d_Ma_handOver_18 h fun s hs h => ?_
    exact ww_vretH (pc := 21) g h hR d_Ma_handOver_21
  · refine ww_aload_n (pc := 9) g.1 d_Ma_handOver_9 rfl (lv_at hl 0 rfl) ?_
    obtain ⟨v10, s, hc10, h⟩ := oB_of h
    refine ww_callV (pc := 10) (rest := []) g cv_Ma_giveWithTrue (Or.inl kw_1317) cl_Ma (pz rfl (by decide)) (ct_Ma_giveWithTrue hc10) ⟨by decide, by decide⟩ rfl hl.1 (Nat.le_of_ble_eq_true rfl) d_Ma_handOver_10 rfl (?_)
    refine ww_st (st' := []) rfl ?_
    refine ww_goto (pc := 13) (tgt := 21) g.1 d_Ma_handOver_13 (by decide) ?_
    exact ww_vretH (pc := 21) g h hR d_Ma_handOver_21

abbrev b_Bu_cleanUp : ByteArray := prog_2_method_38_code
def y_Bu_cleanUp : MethodName := ⟨R_Bu, "cleanUp", "()V"⟩
abbrev w_Bu_cleanUp : List Cond := .code y_Bu_cleanUp b_Bu_cleanUp 1 none :: wA
theorem k_Bu_cleanUp : Cond.code y_Bu_cleanUp b_Bu_cleanUp 1 none ∈ wA := kinm (show _ ∈ tables_1 from (List.mem_append_right _ (List.mem_append_right _ (List.mem_append_right _ (List.mem_append_right _ (List.mem_append_right _ (List.mem_append_right _ (List.mem_append_right _ (List.mem_append_left _ (List.mem_of_getElem? (l := tables_1_8) (i := 217) (by decide +kernel))))))))))) (by decide +kernel)
theorem d_Bu_cleanUp_0 : decode b_Bu_cleanUp 0 = .ok (.aload_n 0, 1) := by decide +kernel
theorem d_Bu_cleanUp_1 : decode b_Bu_cleanUp 1 = .ok (.getfield 35, 3) := by decide +kernel
theorem d_Bu_cleanUp_4 : decode b_Bu_cleanUp 4 = .ok (.invokevirtual 40, 3) := by decide +kernel
theorem d_Bu_cleanUp_7 : decode b_Bu_cleanUp 7 = .ok (.aload_n 0, 1) := by decide +kernel
theorem d_Bu_cleanUp_8 : decode b_Bu_cleanUp 8 = .ok (.getfield 25, 3) := by decide +kernel
theorem d_Bu_cleanUp_11 : decode b_Bu_cleanUp 11 = .ok (.invokevirtual 374, 3) := by decide +kernel
theorem d_Bu_cleanUp_14 : decode b_Bu_cleanUp 14 = .ok (.aload_n 0, 1) := by decide +kernel
theorem d_Bu_cleanUp_15 : decode b_Bu_cleanUp 15 = .ok (.getfield 39, 3) := by decide +kernel
theorem d_Bu_cleanUp_18 : decode b_Bu_cleanUp 18 = .ok (.iconst 3, 1) := by decide +kernel
theorem d_Bu_cleanUp_19 : decode b_Bu_cleanUp 19 = .ok (.aload_n 0, 1) := by decide +kernel
theorem d_Bu_cleanUp_20 : decode b_Bu_cleanUp 20 = .ok (.getfield 25, 3) := by decide +kernel
theorem d_Bu_cleanUp_23 : decode b_Bu_cleanUp 23 = .ok (.getfield 377, 3) := by decide +kernel
theorem d_Bu_cleanUp_26 : decode b_Bu_cleanUp 26 = .ok (.iconst 3, 1) := by decide +kernel
theorem d_Bu_cleanUp_27 : decode b_Bu_cleanUp 27 = .ok (.iaload, 1) := by decide +kernel
theorem d_Bu_cleanUp_28 : decode b_Bu_cleanUp 28 = .ok (.i2l, 1) := by decide +kernel
theorem d_Bu_cleanUp_29 : decode b_Bu_cleanUp 29 = .ok (.invokevirtual 74, 3) := by decide +kernel
theorem d_Bu_cleanUp_32 : decode b_Bu_cleanUp 32 = .ok (.return_, 1) := by decide +kernel
theorem kw_1320 : Cond.methodLink R_Bu 40 y_Ro_clear ∈ wA := kinm (show _ ∈ tables_1 from (List.mem_append_right _ (List.mem_append_right _ (List.mem_append_right _ (List.mem_append_right _ (List.mem_append_right _ (List.mem_append_right _ (List.mem_append_left _ (List.mem_of_getElem? (l := tables_1_7) (i := 233) (by decide +kernel)))))))))) (by decide +kernel)
theorem kw_1321 : Cond.methodLink R_Bu 374 y_He_clean ∈ wA := kinm (show _ ∈ tables_1 from (List.mem_append_right _ (List.mem_append_right _ (List.mem_append_right _ (List.mem_append_right _ (List.mem_append_right _ (List.mem_append_right _ (List.mem_append_right _ (List.mem_append_left _ (List.mem_of_getElem? (l := tables_1_8) (i := 218) (by decide +kernel))))))))))) (by decide +kernel)
theorem kw_1322 : Cond.fieldLink R_Bu 377 "LuaMachine$Heap" "tally" "[I" ∈ wA := kinm (show _ ∈ tables_1 from (List.mem_append_left _ (List.mem_of_getElem? (l := tables_1_1) (i := 145) (by decide +kernel)))) (by decide +kernel)
theorem kw_1323 : Cond.instanceMethod y_Bu_cleanUp ∈ wA := kinm (show _ ∈ tables_1 from (List.mem_append_right _ (List.mem_append_right _ (List.mem_append_right _ (List.mem_append_right _ (List.mem_append_right _ (List.mem_append_right _ (List.mem_append_right _ (List.mem_append_left _ (List.mem_of_getElem? (l := tables_1_8) (i := 216) (by decide +kernel))))))))))) (by decide +kernel)
theorem kw_1324 : Cond.selects R_Bu y_Bu_cleanUp y_Bu_cleanUp ∈ wA := kinp 100 (by decide +kernel) (by decide +kernel)
theorem cv_Bu_cleanUp : CV y_Bu_cleanUp b_Bu_cleanUp 1 none 0 := ⟨kw_1323, kw_1324, kw_950, k_Bu_cleanUp, by decide +kernel⟩
theorem ct_Bu_cleanUp {l : Launch} {P : PP} {q : PL} {s s' : S1}  {r : Unit} (h : M_Bu_cleanUp s = some (r, s')) : Ct l y_Bu_cleanUp b_Bu_cleanUp 1 none 3 72 P q s [.ref (q.1 130 0)] none q s' := by
  refine ct_of (by decide) (Nat.le_of_ble_eq_true rfl) fun X ls eP el g hR hl => ?_
  subst eP
  have hR : Rt X q ((r, s') : Unit × S1).2 none := hR
  have hl : lv_has ls 1 [(0, .ref (q.1 130 0))] := hl
  generalize (r, s') = o at h hR
  unfold M_Bu_cleanUp at h
  refine ww_aload_n (pc := 0) g.1 d_Bu_cleanUp_0 rfl (lv_at hl 0 rfl) ?_
  refine ww_gR (pc := 1) g (k := 5) cl_Bu (pz rfl (by decide)) (by decide) (Or.inl kw_976) (f := 16645) (t := 132) rfl rfl rfl d_Bu_cleanUp_1 ?_
  obtain ⟨v4, s, hc4, h⟩ := oB_of h
  refine ww_callV (pc := 4) (rest := []) g cv_Ro_clear (Or.inl kw_1320) (cl_Ro ⟨by decide, rfl⟩) (pz rfl (by decide)) (ct_Ro_clear ⟨by decide, rfl⟩ hc4) ⟨by decide, by decide⟩ rfl hl.1 (Nat.le_of_ble_eq_true rfl) d_Bu_cleanUp_4 rfl (?_)
  refine ww_st (st' := []) rfl ?_
  refine ww_aload_n (pc := 7) g.1 d_Bu_cleanUp_7 rfl (lv_at hl 0 rfl) ?_
  refine ww_gR (pc := 8) g (k := 3) cl_Bu (pz rfl (by decide)) (by decide) (Or.inl kw_974) (f := 16643) (t := 111) rfl rfl rfl d_Bu_cleanUp_8 ?_
  obtain ⟨v11, s, hc11, h⟩ := oB_of h
  refine ww_callV (pc := 11) (rest := []) g cv_He_clean (Or.inl kw_1321) cl_He (pz rfl (by decide)) (ct_He_clean hc11) ⟨by decide, by decide⟩ rfl hl.1 (Nat.le_of_ble_eq_true rfl) d_Bu_cleanUp_11 rfl (?_)
  refine ww_st (st' := []) rfl ?_
  refine ww_aload_n (pc := 14) g.1 d_Bu_cleanUp_14 rfl (lv_at hl 0 rfl) ?_
  refine ww_gR (pc := 15) g (k := 6) cl_Bu (pz rfl (by decide)) (by decide) (Or.inl kw_967) (f := 16646) (t := 135) rfl rfl rfl d_Bu_cleanUp_15 ?_
  refine ww_iconst (pc := 18) g.1 (v := 3) d_Bu_cleanUp_18 (by decide) ?_
  refine ww_aload_n (pc := 19) g.1 d_Bu_cleanUp_19 rfl (lv_at hl 0 rfl) ?_
  refine ww_gR (pc := 20) g (k := 3) cl_Bu (pz rfl (by decide)) (by decide) (Or.inl kw_974) (f := 16643) (t := 111) rfl rfl rfl d_Bu_cleanUp_20 ?_
  refine ww_gR (pc := 23) g (k := 4) cl_He (pz rfl (by decide)) (by decide) (Or.inl kw_1322) (f := 14212) (t := 114) rfl rfl rfl d_Bu_cleanUp_23 ?_
  refine ww_iconst (pc := 26) g.1 (v := 3) d_Bu_cleanUp_26 (by decide) ?_
  refine ww_ai (pc := 27) g (pz rfl (by decide)) rfl rfl d_Bu_cleanUp_27 h fun v27 h => ?_
  refine ww_i2l (pc := 28) g.1 (v := v27.toInt64) d_Bu_cleanUp_28 rfl ?_
  obtain ⟨v29, s, hc29, h⟩ := oB_of h
  refine ww_callV (pc := 29) (rest := []) g cv_Ro_add (Or.inl kw_971) (cl_Ro ⟨by decide, rfl⟩) (pz rfl (by decide)) (ct_Ro_add ⟨by decide, rfl⟩ hc29) ⟨by decide, by decide⟩ rfl hl.1 (Nat.le_of_ble_eq_true rfl) d_Bu_cleanUp_29 rfl (?_)
  refine ww_st (st' := []) rfl ?_
  exact ww_vretH (pc := 32) g h hR d_Bu_cleanUp_32

abbrev b_Ma_endWithResults : ByteArray := prog_7_method_20_code
def y_Ma_endWithResults : MethodName := ⟨R_Ma, "endWithResults", "()V"⟩
abbrev w_Ma_endWithResults : List Cond := .code y_Ma_endWithResults b_Ma_endWithResults 1 none :: wA
theorem k_Ma_endWithResults : Cond.code y_Ma_endWithResults b_Ma_endWithResults 1 none ∈ wA := kinm (show _ ∈ tables_1 from (List.mem_append_right _ (List.mem_append_right _ (List.mem_append_right _ (List.mem_append_right _ (List.mem_append_right _ (List.mem_append_right _ (List.mem_append_right _ (List.mem_append_left _ (List.mem_of_getElem? (l := tables_1_8) (i := 226) (by decide +kernel))))))))))) (by decide +kernel)
theorem d_Ma_endWithResults_0 : decode b_Ma_endWithResults 0 = .ok (.aload_n 0, 1) := by decide +kernel
theorem d_Ma_endWithResults_1 : decode b_Ma_endWithResults 1 = .ok (.getfield 172, 3) := by decide +kernel
theorem d_Ma_endWithResults_4 : decode b_Ma_endWithResults 4 = .ok (.getfield 318, 3) := by decide +kernel
theorem d_Ma_endWithResults_7 : decode b_Ma_endWithResults 7 = .ok (.ifCond .ge 35, 3) := by decide +kernel
theorem d_Ma_endWithResults_10 : decode b_Ma_endWithResults 10 = .ok (.aload_n 0, 1) := by decide +kernel
theorem d_Ma_endWithResults_11 : decode b_Ma_endWithResults 11 = .ok (.getfield 172, 3) := by decide +kernel
theorem d_Ma_endWithResults_14 : decode b_Ma_endWithResults 14 = .ok (.iconst 3, 1) := by decide +kernel
theorem d_Ma_endWithResults_15 : decode b_Ma_endWithResults 15 = .ok (.putfield 183, 3) := by decide +kernel
theorem d_Ma_endWithResults_18 : decode b_Ma_endWithResults 18 = .ok (.aload_n 0, 1) := by decide +kernel
theorem d_Ma_endWithResults_19 : decode b_Ma_endWithResults 19 = .ok (.getfield 24, 3) := by decide +kernel
theorem d_Ma_endWithResults_22 : decode b_Ma_endWithResults 22 = .ok (.aload_n 0, 1) := by decide +kernel
theorem d_Ma_endWithResults_23 : decode b_Ma_endWithResults 23 = .ok (.getfield 18, 3) := by decide +kernel
theorem d_Ma_endWithResults_26 : decode b_Ma_endWithResults 26 = .ok (.invokevirtual 321, 3) := by decide +kernel
theorem d_Ma_endWithResults_29 : decode b_Ma_endWithResults 29 = .ok (.aload_n 0, 1) := by decide +kernel
theorem d_Ma_endWithResults_30 : decode b_Ma_endWithResults 30 = .ok (.iconst 1, 1) := by decide +kernel
theorem d_Ma_endWithResults_31 : decode b_Ma_endWithResults 31 = .ok (.putfield 54, 3) := by decide +kernel
theorem d_Ma_endWithResults_34 : decode b_Ma_endWithResults 34 = .ok (.aload_n 0, 1) := by decide +kernel
theorem d_Ma_endWithResults_35 : decode b_Ma_endWithResults 35 = .ok (.iconst 0, 1) := by decide +kernel
theorem d_Ma_endWithResults_36 : decode b_Ma_endWithResults 36 = .ok (.putfield 61, 3) := by decide +kernel
theorem d_Ma_endWithResults_39 : decode b_Ma_endWithResults 39 = .ok (.goto 8, 3) := by decide +kernel
theorem d_Ma_endWithResults_42 : decode b_Ma_endWithResults 42 = .ok (.aload_n 0, 1) := by decide +kernel
theorem d_Ma_endWithResults_43 : decode b_Ma_endWithResults 43 = .ok (.iconst 3, 1) := by decide +kernel
theorem d_Ma_endWithResults_44 : decode b_Ma_endWithResults 44 = .ok (.invokevirtual 355, 3) := by decide +kernel
theorem d_Ma_endWithResults_47 : decode b_Ma_endWithResults 47 = .ok (.return_, 1) := by decide +kernel
theorem kw_1325 : Cond.methodLink R_Ma 355 y_Ma_handOver ∈ wA := kinm (show _ ∈ tables_1 from (List.mem_append_right _ (List.mem_append_right _ (List.mem_append_right _ (List.mem_append_right _ (List.mem_append_right _ (List.mem_append_right _ (List.mem_append_right _ (List.mem_append_left _ (List.mem_of_getElem? (l := tables_1_8) (i := 227) (by decide +kernel))))))))))) (by decide +kernel)
theorem kw_1326 : Cond.instanceMethod y_Ma_endWithResults ∈ wA := kinm (show _ ∈ tables_1 from (List.mem_append_right _ (List.mem_append_right _ (List.mem_append_right _ (List.mem_append_right _ (List.mem_append_right _ (List.mem_append_right _ (List.mem_append_right _ (List.mem_append_left _ (List.mem_of_getElem? (l := tables_1_8) (i := 225) (by decide +kernel))))))))))) (by decide +kernel)
theorem kw_1327 : Cond.selects R_Ma y_Ma_endWithResults y_Ma_endWithResults ∈ wA := kinp 101 (by decide +kernel) (by decide +kernel)
theorem cv_Ma_endWithResults : CV y_Ma_endWithResults b_Ma_endWithResults 1 none 0 := ⟨kw_1326, kw_1327, kw_838, k_Ma_endWithResults, by decide +kernel⟩
theorem ct_Ma_endWithResults {l : Launch} {P : PP} {q : PL} {s s' : S1}  {r : Unit} (h : M_Ma_endWithResults s = some (r, s')) : Ct l y_Ma_endWithResults b_Ma_endWithResults 1 none 4 90 P q s [.ref (q.1 128 0)] none q s' := by
  refine ct_of (by decide) (Nat.le_of_ble_eq_true rfl) fun X ls eP el g hR hl => ?_
  subst eP
  have hR : Rt X q ((r, s') : Unit × S1).2 none := hR
  have hl : lv_has ls 1 [(0, .ref (q.1 128 0))] := hl
  generalize (r, s') = o at h hR
  unfold M_Ma_endWithResults at h
  refine ww_aload_n (pc := 0) g.1 d_Ma_endWithResults_0 rfl (lv_at hl 0 rfl) ?_
  refine ww_gV (pc := 1) g (k := 11) cl_Ma (pz rfl (by decide)) (by decide) (Or.inl kw_988) (f := 16395) (t := 148) rfl rfl rfl d_Ma_endWithResults_1 h fun v1 h => ?_
  refine ww_pr h fun pn1 h => ?_
  refine ww_nnP pn1 ?_
  refine ww_gI (pc := 4) g (k := 11) cl_Co pn1 (by decide) (Or.inl kw_989) (f := 18955) rfl rfl d_Ma_endWithResults_4 h fun v4 h => ?_
  refine ww_if_ge (pc := 7) (tgt := 42) g.1 d_Ma_endWithResults_7 (by decide) h (fun c h => ?_) (fun c h => ?_)
  · refine ww_aload_n (pc := 42) g.1 d_Ma_endWithResults_42 rfl (lv_at hl 0 rfl) ?_
    refine ww_iconst (pc := 43) g.1 (v := 3) d_Ma_endWithResults_43 (by decide) ?_
    obtain ⟨v44, s, hc44, h⟩ := oB_of h
    refine ww_callV (pc := 44) (rest := []) g cv_Ma_handOver (Or.inl kw_1325) cl_Ma (pz rfl (by decide)) (ct_Ma_handOver hc44) ⟨by decide, by decide⟩ rfl hl.1 (Nat.le_of_ble_eq_true rfl) d_Ma_endWithResults_44 rfl (?_)
    refine ww_st (st' := []) rfl ?_
    exact ww_vretH (pc := 47) g h hR d_Ma_endWithResults_47
  · refine ww_aload_n (pc := 10) g.1 d_Ma_endWithResults_10 rfl (lv_at hl 0 rfl) ?_
    refine ww_gV (pc := 11) g (k := 11) cl_Ma (pz rfl (by decide)) (by decide) (Or.inl kw_988) (f := 16395) (t := 148) rfl rfl rfl d_Ma_endWithResults_11 h fun v11 h => ?_
    refine ww_pr h fun pn11 h => ?_
    refine ww_nnP pn11 ?_
    refine ww_iconst (pc := 14) g.1 (v := 3) d_Ma_endWithResults_14 (by decide) ?_
    refine ww_pI (pc := 15) g (k := 7) cl_Co pn11 (by decide) (Or.inl kw_833) rfl (f := 18951) rfl rfl rfl rfl d_Ma_endWithResults_15 h fun s hs h => ?_
    refine ww_aload_n (pc := 18) g.1 d_Ma_endWithResults_18 rfl (lv_at hl 0 rfl) ?_
    refine ww_gR (pc := 19) g (k := 7) cl_Ma (pz rfl (by decide)) (by decide) (Or.inl kw_1022) (f := 16391) (t := 141) rfl rfl rfl d_Ma_endWithResults_19 ?_
    refine ww_aload_n (pc := 22) g.1 d_Ma_endWithResults_22 rfl (lv_at hl 0 rfl) ?_
    refine ww_gR (pc := 23) g (k := 4) cl_Ma (pz rfl (by decide)) (by decide) (Or.inl kw_1002) (f := 16388) (t := 135) rfl rfl rfl d_Ma_endWithResults_23 ?_
    obtain ⟨v26, s, hc26, h⟩ := oB_of h
    refine ww_callV (pc := 26) (rest := []) g cv_Ro_takeAll (Or.inl kw_1141) (cl_Ro ⟨by decide, rfl⟩) (pz rfl (by decide)) (ct_Ro_takeAll ⟨by decide, rfl⟩ ⟨by decide, rfl⟩ hc26) ⟨by decide, by decide⟩ rfl hl.1 (Nat.le_of_ble_eq_true rfl) d_Ma_endWithResults_26 rfl (?_)
    refine ww_st (st' := []) rfl ?_
    refine ww_aload_n (pc := 29) g.1 d_Ma_endWithResults_29 rfl (lv_at hl 0 rfl) ?_
    refine ww_iconst (pc := 30) g.1 (v := 1) d_Ma_endWithResults_30 (by decide) ?_
    refine ww_pI (pc := 31) g (k := 8) cl_Ma (pz rfl (by decide)) (by decide) (Or.inl kw_1023) rfl (f := 16392) rfl rfl rfl rfl d_Ma_endWithResults_31 h fun s hs h => ?_
    refine ww_aload_n (pc := 34) g.1 d_Ma_endWithResults_34 rfl (lv_at hl 0 rfl) ?_
    refine ww_iconst (pc := 35) g.1 (v := 0) d_Ma_endWithResults_35 (by decide) ?_
    refine ww_pI (pc := 36) g (k := 12) cl_Ma (pz rfl (by decide)) (by decide) (Or.inl kw_851) rfl (f := 16396) rfl rfl rfl rfl d_Ma_endWithResults_36 h fun s hs h => ?_
    refine ww_goto (pc := 39) (tgt := 47) g.1 d_Ma_endWithResults_39 (by decide) ?_
    exact ww_vretH (pc := 47) g h hR d_Ma_endWithResults_47

abbrev b_Ma_unwind : ByteArray := prog_7_method_23_code
def y_Ma_unwind : MethodName := ⟨R_Ma, "unwind", "()V"⟩
abbrev w_Ma_unwind : List Cond := .code y_Ma_unwind b_Ma_unwind 3 none :: wA
theorem k_Ma_unwind : Cond.code y_Ma_unwind b_Ma_unwind 3 none ∈ wA := kinm (show _ ∈ tables_1 from (List.mem_append_right _ (List.mem_append_right _ (List.mem_append_right _ (List.mem_append_right _ (List.mem_append_right _ (List.mem_append_right _ (List.mem_append_right _ (List.mem_append_right _ (List.mem_append_left _ (List.mem_of_getElem? (l := tables_1_9) (i := 35) (by decide +kernel)))))))))))) (by decide +kernel)
theorem d_Ma_unwind_0 : decode b_Ma_unwind 0 = .ok (.aload_n 0, 1) := by decide +kernel
theorem d_Ma_unwind_1 : decode b_Ma_unwind 1 = .ok (.getfield 12, 3) := by decide +kernel
theorem d_Ma_unwind_4 : decode b_Ma_unwind 4 = .ok (.invokevirtual 51, 3) := by decide +kernel
theorem d_Ma_unwind_7 : decode b_Ma_unwind 7 = .ok (.aload_n 0, 1) := by decide +kernel
theorem d_Ma_unwind_8 : decode b_Ma_unwind 8 = .ok (.getfield 21, 3) := by decide +kernel
theorem d_Ma_unwind_11 : decode b_Ma_unwind 11 = .ok (.invokevirtual 51, 3) := by decide +kernel
theorem d_Ma_unwind_14 : decode b_Ma_unwind 14 = .ok (.aload_n 0, 1) := by decide +kernel
theorem d_Ma_unwind_15 : decode b_Ma_unwind 15 = .ok (.getfield 201, 3) := by decide +kernel
theorem d_Ma_unwind_18 : decode b_Ma_unwind 18 = .ok (.ifCond .eq 8, 3) := by decide +kernel
theorem d_Ma_unwind_21 : decode b_Ma_unwind 21 = .ok (.aload_n 0, 1) := by decide +kernel
theorem d_Ma_unwind_22 : decode b_Ma_unwind 22 = .ok (.invokevirtual 361, 3) := by decide +kernel
theorem d_Ma_unwind_25 : decode b_Ma_unwind 25 = .ok (.return_, 1) := by decide +kernel
theorem d_Ma_unwind_26 : decode b_Ma_unwind 26 = .ok (.aload_n 0, 1) := by decide +kernel
theorem d_Ma_unwind_27 : decode b_Ma_unwind 27 = .ok (.getfield 172, 3) := by decide +kernel
theorem d_Ma_unwind_30 : decode b_Ma_unwind 30 = .ok (.astore_n 1, 1) := by decide +kernel
theorem d_Ma_unwind_31 : decode b_Ma_unwind 31 = .ok (.aload_n 1, 1) := by decide +kernel
theorem d_Ma_unwind_32 : decode b_Ma_unwind 32 = .ok (.getfield 332, 3) := by decide +kernel
theorem d_Ma_unwind_35 : decode b_Ma_unwind 35 = .ok (.istore_n 2, 1) := by decide +kernel
theorem d_Ma_unwind_36 : decode b_Ma_unwind 36 = .ok (.iload_n 2, 1) := by decide +kernel
theorem d_Ma_unwind_37 : decode b_Ma_unwind 37 = .ok (.ifCond .le 24, 3) := by decide +kernel
theorem d_Ma_unwind_40 : decode b_Ma_unwind 40 = .ok (.aload_n 1, 1) := by decide +kernel
theorem d_Ma_unwind_41 : decode b_Ma_unwind 41 = .ok (.getfield 364, 3) := by decide +kernel
theorem d_Ma_unwind_44 : decode b_Ma_unwind 44 = .ok (.iload_n 2, 1) := by decide +kernel
theorem d_Ma_unwind_45 : decode b_Ma_unwind 45 = .ok (.iconst 1, 1) := by decide +kernel
theorem d_Ma_unwind_46 : decode b_Ma_unwind 46 = .ok (.isub, 1) := by decide +kernel
theorem d_Ma_unwind_47 : decode b_Ma_unwind 47 = .ok (.aaload, 1) := by decide +kernel
theorem d_Ma_unwind_48 : decode b_Ma_unwind 48 = .ok (.getfield 338, 3) := by decide +kernel
theorem d_Ma_unwind_51 : decode b_Ma_unwind 51 = .ok (.iconst 1, 1) := by decide +kernel
theorem d_Ma_unwind_52 : decode b_Ma_unwind 52 = .ok (.if_icmp .eq 9, 3) := by decide +kernel
theorem d_Ma_unwind_55 : decode b_Ma_unwind 55 = .ok (.iinc 2 (-1), 3) := by decide +kernel
theorem d_Ma_unwind_58 : decode b_Ma_unwind 58 = .ok (.goto (-22), 3) := by decide +kernel
theorem d_Ma_unwind_61 : decode b_Ma_unwind 61 = .ok (.iload_n 2, 1) := by decide +kernel
theorem d_Ma_unwind_62 : decode b_Ma_unwind 62 = .ok (.ifCond .le 36, 3) := by decide +kernel
theorem d_Ma_unwind_65 : decode b_Ma_unwind 65 = .ok (.aload_n 0, 1) := by decide +kernel
theorem d_Ma_unwind_66 : decode b_Ma_unwind 66 = .ok (.getfield 31, 3) := by decide +kernel
theorem d_Ma_unwind_69 : decode b_Ma_unwind 69 = .ok (.aload_n 1, 1) := by decide +kernel
theorem d_Ma_unwind_70 : decode b_Ma_unwind 70 = .ok (.aload_n 1, 1) := by decide +kernel
theorem d_Ma_unwind_71 : decode b_Ma_unwind 71 = .ok (.getfield 364, 3) := by decide +kernel
theorem d_Ma_unwind_74 : decode b_Ma_unwind 74 = .ok (.iload_n 2, 1) := by decide +kernel
theorem d_Ma_unwind_75 : decode b_Ma_unwind 75 = .ok (.iconst 1, 1) := by decide +kernel
theorem d_Ma_unwind_76 : decode b_Ma_unwind 76 = .ok (.isub, 1) := by decide +kernel
theorem d_Ma_unwind_77 : decode b_Ma_unwind 77 = .ok (.aaload, 1) := by decide +kernel
theorem d_Ma_unwind_78 : decode b_Ma_unwind 78 = .ok (.getfield 288, 3) := by decide +kernel
theorem d_Ma_unwind_81 : decode b_Ma_unwind 81 = .ok (.invokevirtual 325, 3) := by decide +kernel
theorem d_Ma_unwind_84 : decode b_Ma_unwind 84 = .ok (.aload_n 1, 1) := by decide +kernel
theorem d_Ma_unwind_85 : decode b_Ma_unwind 85 = .ok (.iload_n 2, 1) := by decide +kernel
theorem d_Ma_unwind_86 : decode b_Ma_unwind 86 = .ok (.putfield 332, 3) := by decide +kernel
theorem d_Ma_unwind_89 : decode b_Ma_unwind 89 = .ok (.aload_n 1, 1) := by decide +kernel
theorem d_Ma_unwind_90 : decode b_Ma_unwind 90 = .ok (.invokevirtual 329, 3) := by decide +kernel
theorem d_Ma_unwind_93 : decode b_Ma_unwind 93 = .ok (.aload_n 0, 1) := by decide +kernel
theorem d_Ma_unwind_94 : decode b_Ma_unwind 94 = .ok (.invokevirtual 368, 3) := by decide +kernel
theorem d_Ma_unwind_97 : decode b_Ma_unwind 97 = .ok (.return_, 1) := by decide +kernel
theorem d_Ma_unwind_98 : decode b_Ma_unwind 98 = .ok (.aload_n 0, 1) := by decide +kernel
theorem d_Ma_unwind_99 : decode b_Ma_unwind 99 = .ok (.aload_n 1, 1) := by decide +kernel
theorem d_Ma_unwind_100 : decode b_Ma_unwind 100 = .ok (.invokevirtual 371, 3) := by decide +kernel
theorem d_Ma_unwind_103 : decode b_Ma_unwind 103 = .ok (.aload_n 1, 1) := by decide +kernel
theorem d_Ma_unwind_104 : decode b_Ma_unwind 104 = .ok (.getfield 318, 3) := by decide +kernel
theorem d_Ma_unwind_107 : decode b_Ma_unwind 107 = .ok (.ifCond .ge 10, 3) := by decide +kernel
theorem d_Ma_unwind_110 : decode b_Ma_unwind 110 = .ok (.aload_n 0, 1) := by decide +kernel
theorem d_Ma_unwind_111 : decode b_Ma_unwind 111 = .ok (.invokevirtual 374, 3) := by decide +kernel
theorem d_Ma_unwind_114 : decode b_Ma_unwind 114 = .ok (.goto 16, 3) := by decide +kernel
theorem d_Ma_unwind_117 : decode b_Ma_unwind 117 = .ok (.aload_n 0, 1) := by decide +kernel
theorem d_Ma_unwind_118 : decode b_Ma_unwind 118 = .ok (.iconst 3, 1) := by decide +kernel
theorem d_Ma_unwind_119 : decode b_Ma_unwind 119 = .ok (.invokevirtual 358, 3) := by decide +kernel
theorem d_Ma_unwind_122 : decode b_Ma_unwind 122 = .ok (.iconst 2, 1) := by decide +kernel
theorem d_Ma_unwind_123 : decode b_Ma_unwind 123 = .ok (.if_icmp .ne 7, 3) := by decide +kernel
theorem d_Ma_unwind_126 : decode b_Ma_unwind 126 = .ok (.aload_n 0, 1) := by decide +kernel
theorem d_Ma_unwind_127 : decode b_Ma_unwind 127 = .ok (.invokevirtual 368, 3) := by decide +kernel
theorem d_Ma_unwind_130 : decode b_Ma_unwind 130 = .ok (.return_, 1) := by decide +kernel
theorem kw_1328 : Cond.fieldLink R_Ma 21 "LuaMachine$Machine" "open" "LLuaMachine$Row;" ∈ wA := kinm (show _ ∈ tables_1 from (List.mem_append_right _ (List.mem_append_left _ (List.mem_of_getElem? (l := tables_1_2) (i := 65) (by decide +kernel))))) (by decide +kernel)
theorem kw_1329 : Cond.fieldLink R_Ma 364 "LuaMachine$Coroutine" "frames" "[LLuaMachine$Frame;" ∈ wA := kinm (show _ ∈ tables_1 from (List.mem_append_right _ (List.mem_append_right _ (List.mem_append_right _ (List.mem_append_right _ (List.mem_append_right _ (List.mem_append_left _ (List.mem_of_getElem? (l := tables_1_6) (i := 145) (by decide +kernel))))))))) (by decide +kernel)
theorem kw_1330 : Cond.methodLink R_Ma 368 y_Ma_giveError ∈ wA := kinm (show _ ∈ tables_1 from (List.mem_append_right _ (List.mem_append_right _ (List.mem_append_right _ (List.mem_append_right _ (List.mem_append_right _ (List.mem_append_right _ (List.mem_append_right _ (List.mem_append_right _ (List.mem_append_left _ (List.mem_of_getElem? (l := tables_1_9) (i := 48) (by decide +kernel)))))))))))) (by decide +kernel)
theorem kw_1331 : Cond.methodLink R_Ma 361 y_Ma_endAll ∈ wA := kinm (show _ ∈ tables_1 from (List.mem_append_right _ (List.mem_append_right _ (List.mem_append_right _ (List.mem_append_right _ (List.mem_append_right _ (List.mem_append_right _ (List.mem_append_right _ (List.mem_append_right _ (List.mem_append_left _ (List.mem_of_getElem? (l := tables_1_9) (i := 36) (by decide +kernel)))))))))))) (by decide +kernel)
theorem kw_1332 : Cond.instanceMethod y_Ma_unwind ∈ wA := kinm (show _ ∈ tables_1 from (List.mem_append_right _ (List.mem_append_right _ (List.mem_append_right _ (List.mem_append_right _ (List.mem_append_right _ (List.mem_append_right _ (List.mem_append_right _ (List.mem_append_right _ (List.mem_append_left _ (List.mem_of_getElem? (l := tables_1_9) (i := 33) (by decide +kernel)))))))))))) (by decide +kernel)
theorem kw_1333 : Cond.selects R_Ma y_Ma_unwind y_Ma_unwind ∈ wA := kinm (show _ ∈ tables_1 from (List.mem_append_right _ (List.mem_append_right _ (List.mem_append_right _ (List.mem_append_right _ (List.mem_append_right _ (List.mem_append_right _ (List.mem_append_right _ (List.mem_append_right _ (List.mem_append_left _ (List.mem_of_getElem? (l := tables_1_9) (i := 34) (by decide +kernel)))))))))))) (by decide +kernel)
theorem cv_Ma_unwind : CV y_Ma_unwind b_Ma_unwind 3 none 0 := ⟨kw_1332, kw_1333, kw_838, k_Ma_unwind, by decide +kernel⟩
theorem lp_Ma_unwind_L36 {X : Cx} {q : PL} (g : Gd X y_Ma_unwind b_Ma_unwind 3 none 3 68 R_Ma) (x : Int32 × Int32) (s : S1) (o : ((Int32 × Int32) ⊕ ((Int32 × Int32))) × S1) (h : M_Ma_unwind_L36 x s = some o) (hR : (Sum.elim (fun y : Int32 × Int32 => ∀ ls : Array Slot, (prs o.2 148 y.1) → lv_has ls 3 [(0, .ref (q.1 128 0)), (1, .ref (q.1 148 y.1)), (2, .int y.2)] → WW X q o.2 36 ls []) (fun y : Int32 × Int32 => ∀ ls : Array Slot, (prs o.2 148 y.1) → lv_has ls 3 [(0, .ref (q.1 128 0)), (1, .ref (q.1 148 y.1)), (2, .int y.2)] → WW X q o.2 61 ls []) o.1)) : ∀ ls : Array Slot, (prs s 148 x.1) → lv_has ls 3 [(0, .ref (q.1 128 0)), (1, .ref (q.1 148 x.1)), (2, .int x.2)] → WW X q s 36 ls [] := by
  intro ls hp0 hl
  unfold M_Ma_unwind_L36 at h
  refine ww_iload_n (pc := 36) g.1 d_Ma_unwind_36 rfl (lv_at hl 2 rfl) ?_
  refine ww_if_le (pc := 37) (tgt := 61) g.1 d_Ma_unwind_37 (by decide) h (fun c h => ?_) (fun c h => ?_)
  · rw [oR_eq h] at hR
    exact hR ls hp0 (lv_sub hl [0, 1, 2] rfl)
  · refine ww_aload_n (pc := 40) g.1 d_Ma_unwind_40 rfl (lv_at hl 1 rfl) ?_
    refine ww_gR (pc := 41) g (k := 2) cl_Co hp0 (by decide) (Or.inl kw_1329) (f := 18946) (t := 151) rfl rfl rfl d_Ma_unwind_41 ?_
    refine ww_kd fun kd41 => ?_
    have pk41 : prs s 151 x.1 := (kd41 _ hp0).2.2.1
    refine ww_iload_n (pc := 44) g.1 d_Ma_unwind_44 rfl (lv_at hl 2 rfl) ?_
    refine ww_iconst (pc := 45) g.1 (v := 1) d_Ma_unwind_45 (by decide) ?_
    refine ww_isub (pc := 46) g.1 d_Ma_unwind_46 ?_
    refine ww_a9 (pc := 47) g (j := (x.2 - 1)) hp0 d_Ma_unwind_47 h fun pa47 h => ?_
    refine ww_gI (pc := 48) g (k := 0) cl_Fm pa47 (by decide) (Or.inl kw_991) (f := 19456) rfl rfl d_Ma_unwind_48 h fun v48 h => ?_
    refine ww_iconst (pc := 51) g.1 (v := 1) d_Ma_unwind_51 (by decide) ?_
    refine ww_icmp_eq (pc := 52) (tgt := 61) g.1 d_Ma_unwind_52 (by decide) h (fun c h => ?_) (fun c h => ?_)
    · rw [oR_eq h] at hR
      exact hR ls hp0 (lv_sub hl [0, 1, 2] rfl)
    · refine ww_iinc (pc := 55) g.1 (v := x.2 + (-1)) (lv' := [(2, .int (x.2 + (-1))), (0, .ref (q.1 128 0)), (1, .ref (q.1 148 x.1))]) d_Ma_unwind_55 hl (k := 2) rfl (by rfl) (by decide) rfl fun ls hl => ?_
      refine ww_goto (pc := 58) (tgt := 36) g.1 d_Ma_unwind_58 (by decide) ?_
      rw [oR_eq h] at hR
      exact hR ls hp0 (lv_sub hl [1, 2, 0] rfl)

theorem j_Ma_unwind_j61 {X : Cx} {q : PL} (g : Gd X y_Ma_unwind b_Ma_unwind 3 none 3 68 R_Ma) {o : (Unit) × S1} (hR : Rt X q o.2 none) (l1 : Int32) (l2 : Int32) (s : S1) (hp0 : prs s 148 l1) (ls : Array Slot) (hl : lv_has ls 3 [(0, .ref (q.1 128 0)), (1, .ref (q.1 148 l1)), (2, .int l2)]) (h : M_Ma_unwind_j61 l1 l2 s = some o) : WW X q s 61 ls [] := by
  unfold M_Ma_unwind_j61 at h
  refine ww_iload_n (pc := 61) g.1 d_Ma_unwind_61 rfl (lv_at hl 2 rfl) ?_
  refine ww_if_le (pc := 62) (tgt := 98) g.1 d_Ma_unwind_62 (by decide) h (fun c h => ?_) (fun c h => ?_)
  · refine ww_aload_n (pc := 98) g.1 d_Ma_unwind_98 rfl (lv_at hl 0 rfl) ?_
    refine ww_aload_n (pc := 99) g.1 d_Ma_unwind_99 rfl (lv_at hl 1 rfl) ?_
    refine ww_lo fun dlo => ?_
    obtain ⟨v100, s, hc100, h⟩ := oB_of h
    refine ww_callV (pc := 100) (rest := []) g cv_Ma_empty (Or.inl kw_1211) cl_Ma (pz rfl (by decide)) (ct_Ma_empty hp0 hc100) ⟨by decide, by decide⟩ rfl hl.1 (Nat.le_of_ble_eq_true rfl) d_Ma_unwind_100 rfl (?_)
    refine ww_st (st' := []) rfl ?_
    refine ww_hi fun dhi => ?_
    have hp0 : prs s 148 l1 := dhi _ _ hp0.2.1 hp0.2.2 (dlo _ _ hp0)
    refine ww_aload_n (pc := 103) g.1 d_Ma_unwind_103 rfl (lv_at hl 1 rfl) ?_
    refine ww_gI (pc := 104) g (k := 11) cl_Co hp0 (by decide) (Or.inl kw_989) (f := 18955) rfl rfl d_Ma_unwind_104 h fun v104 h => ?_
    refine ww_if_ge (pc := 107) (tgt := 117) g.1 d_Ma_unwind_107 (by decide) h (fun c h => ?_) (fun c h => ?_)
    · refine ww_aload_n (pc := 117) g.1 d_Ma_unwind_117 rfl (lv_at hl 0 rfl) ?_
      refine ww_iconst (pc := 118) g.1 (v := 3) d_Ma_unwind_118 (by decide) ?_
      refine ww_lo fun dlo => ?_
      obtain ⟨v119, s, hc119, h⟩ := oB_of h
      refine ww_callV (pc := 119) (rest := []) g cv_Ma_backToResumer (Or.inl kw_1316) cl_Ma (pz rfl (by decide)) (ct_Ma_backToResumer hc119) ⟨by decide, by decide⟩ rfl hl.1 (Nat.le_of_ble_eq_true rfl) d_Ma_unwind_119 rfl (?_)
      refine ww_st (st' := [.int v119]) rfl ?_
      refine ww_hi fun dhi => ?_
      have hp0 : prs s 148 l1 := dhi _ _ hp0.2.1 hp0.2.2 (dlo _ _ hp0)
      refine ww_iconst (pc := 122) g.1 (v := 2) d_Ma_unwind_122 (by decide) ?_
      refine ww_icmp_ne (pc := 123) (tgt := 130) g.1 d_Ma_unwind_123 (by decide) h (fun c h => ?_) (fun c h => ?_)
      · exact ww_vretH (pc := 130) g h hR d_Ma_unwind_130
      · refine ww_aload_n (pc := 126) g.1 d_Ma_unwind_126 rfl (lv_at hl 0 rfl) ?_
        refine ww_lo fun dlo => ?_
        obtain ⟨v127, s, hc127, h⟩ := oB_of h
        refine ww_callV (pc := 127) (rest := []) g cv_Ma_giveError (Or.inl kw_1330) cl_Ma (pz rfl (by decide)) (ct_Ma_giveError hc127) ⟨by decide, by decide⟩ rfl hl.1 (Nat.le_of_ble_eq_true rfl) d_Ma_unwind_127 rfl (?_)
        refine ww_st (st' := []) rfl ?_
        refine ww_hi fun dhi => ?_
        have hp0 : prs s 148 l1 := dhi _ _ hp0.2.1 hp0.2.2 (dlo _ _ hp0)
        exact ww_vretH (pc := 130) g h hR d_Ma_unwind_130
    · refine ww_aload_n (pc := 110) g.1 d_Ma_unwind_110 rfl (lv_at hl 0 rfl) ?_
      refine ww_lo fun dlo => ?_
      obtain ⟨v111, s, hc111, h⟩ := oB_of h
      refine ww_callV (pc := 111) (rest := []) g cv_Ma_endWithError (Or.inl kw_1212) cl_Ma (pz rfl (by decide)) (ct_Ma_endWithError hc111) ⟨by decide, by decide⟩ rfl hl.1 (Nat.le_of_ble_eq_true rfl) d_Ma_unwind_111 rfl (?_)
      refine ww_st (st' := []) rfl ?_
      refine ww_hi fun dhi => ?_
      have hp0 : prs s 148 l1 := dhi _ _ hp0.2.1 hp0.2.2 (dlo _ _ hp0)
      refine ww_goto (pc := 114) (tgt := 130) g.1 d_Ma_unwind_114 (by decide) ?_
      exact ww_vretH (pc := 130) g h hR d_Ma_unwind_130
  · refine ww_aload_n (pc := 65) g.1 d_Ma_unwind_65 rfl (lv_at hl 0 rfl) ?_
    refine ww_gR (pc := 66) g (k := 1) cl_Ma (pz rfl (by decide)) (by decide) (Or.inl kw_938) (f := 16385) (t := 111) rfl rfl rfl d_Ma_unwind_66 ?_
    refine ww_aload_n (pc := 69) g.1 d_Ma_unwind_69 rfl (lv_at hl 1 rfl) ?_
    refine ww_aload_n (pc := 70) g.1 d_Ma_unwind_70 rfl (lv_at hl 1 rfl) ?_
    refine ww_gR (pc := 71) g (k := 2) cl_Co hp0 (by decide) (Or.inl kw_1329) (f := 18946) (t := 151) rfl rfl rfl d_Ma_unwind_71 ?_
    refine ww_kd fun kd71 => ?_
    have pk71 : prs s 151 l1 := (kd71 _ hp0).2.2.1
    refine ww_iload_n (pc := 74) g.1 d_Ma_unwind_74 rfl (lv_at hl 2 rfl) ?_
    refine ww_iconst (pc := 75) g.1 (v := 1) d_Ma_unwind_75 (by decide) ?_
    refine ww_isub (pc := 76) g.1 d_Ma_unwind_76 ?_
    refine ww_a9 (pc := 77) g (j := (l2 - 1)) hp0 d_Ma_unwind_77 h fun pa77 h => ?_
    refine ww_gI (pc := 78) g (k := 3) cl_Fm pa77 (by decide) (Or.inl kw_1134) (f := 19459) rfl rfl d_Ma_unwind_78 h fun v78 h => ?_
    refine ww_lo fun dlo => ?_
    obtain ⟨v81, s, hc81, h⟩ := oB_of h
    refine ww_callV (pc := 81) (rest := []) g cv_He_closeFrom (Or.inl kw_1017) cl_He (pz rfl (by decide)) (ct_He_closeFrom hp0 hc81) ⟨by decide, by decide⟩ rfl hl.1 (Nat.le_of_ble_eq_true rfl) d_Ma_unwind_81 rfl (?_)
    refine ww_st (st' := []) rfl ?_
    refine ww_hi fun dhi => ?_
    have hp0 : prs s 148 l1 := dhi _ _ hp0.2.1 hp0.2.2 (dlo _ _ hp0)
    refine ww_aload_n (pc := 84) g.1 d_Ma_unwind_84 rfl (lv_at hl 1 rfl) ?_
    refine ww_iload_n (pc := 85) g.1 d_Ma_unwind_85 rfl (lv_at hl 2 rfl) ?_
    refine ww_pI (pc := 86) g (k := 4) cl_Co hp0 (by decide) (Or.inl kw_1018) rfl (f := 18948) rfl rfl rfl rfl d_Ma_unwind_86 h fun s hs h => ?_
    have hp0 : prs s 148 l1 := prs_kI (r := 148) (k := 4) (by decide) hs hp0
    refine ww_aload_n (pc := 89) g.1 d_Ma_unwind_89 rfl (lv_at hl 1 rfl) ?_
    refine ww_lo fun dlo => ?_
    obtain ⟨v90, s, hc90, h⟩ := oB_of h
    refine ww_callV (pc := 90) (rest := []) g cv_Co_pop (Or.inl kw_992) cl_Co hp0 (ct_Co_pop hp0 hc90) ⟨by decide, by decide⟩ rfl hl.1 (Nat.le_of_ble_eq_true rfl) d_Ma_unwind_90 rfl (?_)
    refine ww_st (st' := []) rfl ?_
    refine ww_hi fun dhi => ?_
    have hp0 : prs s 148 l1 := dhi _ _ hp0.2.1 hp0.2.2 (dlo _ _ hp0)
    refine ww_aload_n (pc := 93) g.1 d_Ma_unwind_93 rfl (lv_at hl 0 rfl) ?_
    refine ww_lo fun dlo => ?_
    obtain ⟨v94, s, hc94, h⟩ := oB_of h
    refine ww_callV (pc := 94) (rest := []) g cv_Ma_giveError (Or.inl kw_1330) cl_Ma (pz rfl (by decide)) (ct_Ma_giveError hc94) ⟨by decide, by decide⟩ rfl hl.1 (Nat.le_of_ble_eq_true rfl) d_Ma_unwind_94 rfl (?_)
    refine ww_st (st' := []) rfl ?_
    refine ww_hi fun dhi => ?_
    have hp0 : prs s 148 l1 := dhi _ _ hp0.2.1 hp0.2.2 (dlo _ _ hp0)
    exact ww_vretH (pc := 97) g h hR d_Ma_unwind_97

theorem ct_Ma_unwind {l : Launch} {P : PP} {q : PL} {s s' : S1}  {r : Unit} (h : M_Ma_unwind s = some (r, s')) : Ct l y_Ma_unwind b_Ma_unwind 3 none 3 68 P q s [.ref (q.1 128 0)] none q s' := by
  refine ct_of (by decide) (Nat.le_of_ble_eq_true rfl) fun X ls eP el g hR hl => ?_
  subst eP
  have hR : Rt X q ((r, s') : Unit × S1).2 none := hR
  have hl : lv_has ls 3 [(0, .ref (q.1 128 0))] := hl
  generalize (r, s') = o at h hR
  unfold M_Ma_unwind at h
  refine ww_aload_n (pc := 0) g.1 d_Ma_unwind_0 rfl (lv_at hl 0 rfl) ?_
  refine ww_gR (pc := 1) g (k := 3) cl_Ma (pz rfl (by decide)) (by decide) (Or.inl kw_1098) (f := 16387) (t := 132) rfl rfl rfl d_Ma_unwind_1 ?_
  obtain ⟨v4, s, hc4, h⟩ := oB_of h
  refine ww_callV (pc := 4) (rest := []) g cv_Ro_clear (Or.inl kw_1003) (cl_Ro ⟨by decide, rfl⟩) (pz rfl (by decide)) (ct_Ro_clear ⟨by decide, rfl⟩ hc4) ⟨by decide, by decide⟩ rfl hl.1 (Nat.le_of_ble_eq_true rfl) d_Ma_unwind_4 rfl (?_)
  refine ww_st (st' := []) rfl ?_
  refine ww_aload_n (pc := 7) g.1 d_Ma_unwind_7 rfl (lv_at hl 0 rfl) ?_
  refine ww_gR (pc := 8) g (k := 5) cl_Ma (pz rfl (by decide)) (by decide) (Or.inl kw_1328) (f := 16389) (t := 138) rfl rfl rfl d_Ma_unwind_8 ?_
  obtain ⟨v11, s, hc11, h⟩ := oB_of h
  refine ww_callV (pc := 11) (rest := []) g cv_Ro_clear (Or.inl kw_1003) (cl_Ro ⟨by decide, rfl⟩) (pz rfl (by decide)) (ct_Ro_clear ⟨by decide, rfl⟩ hc11) ⟨by decide, by decide⟩ rfl hl.1 (Nat.le_of_ble_eq_true rfl) d_Ma_unwind_11 rfl (?_)
  refine ww_st (st' := []) rfl ?_
  refine ww_aload_n (pc := 14) g.1 d_Ma_unwind_14 rfl (lv_at hl 0 rfl) ?_
  refine ww_gI (pc := 15) g (k := 17) cl_Ma (pz rfl (by decide)) (by decide) (Or.inl kw_850) (f := 16401) rfl rfl d_Ma_unwind_15 h fun v15 h => ?_
  refine ww_if_eq (pc := 18) (tgt := 26) g.1 d_Ma_unwind_18 (by decide) h (fun c h => ?_) (fun c h => ?_)
  · refine ww_aload_n (pc := 26) g.1 d_Ma_unwind_26 rfl (lv_at hl 0 rfl) ?_
    refine ww_gV (pc := 27) g (k := 11) cl_Ma (pz rfl (by decide)) (by decide) (Or.inl kw_988) (f := 16395) (t := 148) rfl rfl rfl d_Ma_unwind_27 h fun v27 h => ?_
    refine ww_pr h fun pn27 h => ?_
    refine ww_nnP pn27 ?_
    refine ww_astore_n (pc := 30) (i := 1) g.1 (lv' := [(1, .ref (q.1 148 v27)), (0, .ref (q.1 128 0))]) d_Ma_unwind_30 rfl hl (by decide) rfl fun ls hl => ?_
    refine ww_aload_n (pc := 31) g.1 d_Ma_unwind_31 rfl (lv_at hl 0 rfl) ?_
    refine ww_gI (pc := 32) g (k := 4) cl_Co pn27 (by decide) (Or.inl kw_1018) (f := 18948) rfl rfl d_Ma_unwind_32 h fun v32 h => ?_
    refine ww_istore_n (pc := 35) (i := 2) g.1 (lv' := [(2, .int v32), (1, .ref (q.1 148 v27)), (0, .ref (q.1 128 0))]) d_Ma_unwind_35 rfl hl (by decide) rfl fun ls hl => ?_
    obtain ⟨e36, s1, hw, h⟩ := oB_of h
    refine oW_rule (Wh := fun (x : Int32 × Int32) (s : S1) => ∀ ls : Array Slot, (prs s 148 x.1) → lv_has ls 3 [(0, .ref (q.1 128 0)), (1, .ref (q.1 148 x.1)), (2, .int x.2)] → WW X q s 36 ls []) (We := fun (e : (Int32 × Int32)) (s : S1) => ∀ ls : Array Slot, (prs s 148 e.1) → lv_has ls 3 [(0, .ref (q.1 128 0)), (1, .ref (q.1 148 e.1)), (2, .int e.2)] → WW X q s 61 ls []) (fun x s o hb hc => lp_Ma_unwind_L36 (q := q) g x s o hb hc) hw ?_ ls pn27 (lv_sub hl [2, 1, 0] rfl)
    clear hw hl
    clear ls
    generalize s1 = s at h ⊢
    intro ls hq36_0 hl
    exact j_Ma_unwind_j61 g hR e36.1 e36.2 s hq36_0 ls (lv_sub hl [0, 1, 2] rfl) h
  · refine ww_aload_n (pc := 21) g.1 d_Ma_unwind_21 rfl (lv_at hl 0 rfl) ?_
    obtain ⟨v22, s, hc22, h⟩ := oB_of h
    refine ww_callV (pc := 22) (rest := []) g cv_Ma_endAll (Or.inl kw_1331) cl_Ma (pz rfl (by decide)) (ct_Ma_endAll hc22) ⟨by decide, by decide⟩ rfl hl.1 (Nat.le_of_ble_eq_true rfl) d_Ma_unwind_22 rfl (?_)
    refine ww_st (st' := []) rfl ?_
    exact ww_vretH (pc := 25) g h hR d_Ma_unwind_25


