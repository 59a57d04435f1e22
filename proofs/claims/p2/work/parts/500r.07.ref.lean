abbrev b_Mo_expect : ByteArray := prog_14_method_65_code
def y_Mo_expect : MethodName := ⟨R_Mo, "expect", "(III)V"⟩
abbrev w_Mo_expect : List Cond := .code y_Mo_expect b_Mo_expect 5 none :: wA
theorem k_Mo_expect : Cond.code y_Mo_expect b_Mo_expect 5 none ∈ wA := kinm (show _ ∈ tables_1 from (List.mem_append_right _ (List.mem_append_right _ (List.mem_append_right _ (List.mem_append_right _ (List.mem_append_right _ (List.mem_append_right _ (List.mem_append_right _ (List.mem_append_right _ (List.mem_append_right _ (List.mem_append_right _ (List.mem_append_right _ (List.mem_append_right _ (List.mem_append_left _ (List.mem_of_getElem? (l := tables_1_13) (i := 102) (by decide +kernel)))))))))))))))) (by decide +kernel)
theorem d_Mo_expect_0 : decode b_Mo_expect 0 = .ok (.aload_n 0, 1) := by decide +kernel
theorem d_Mo_expect_1 : decode b_Mo_expect 1 = .ok (.getfield 243, 3) := by decide +kernel
theorem d_Mo_expect_4 : decode b_Mo_expect 4 = .ok (.invokevirtual 703, 3) := by decide +kernel
theorem d_Mo_expect_7 : decode b_Mo_expect 7 = .ok (.istore 4, 2) := by decide +kernel
theorem d_Mo_expect_9 : decode b_Mo_expect 9 = .ok (.aload_n 0, 1) := by decide +kernel
theorem d_Mo_expect_10 : decode b_Mo_expect 10 = .ok (.getfield 243, 3) := by decide +kernel
theorem d_Mo_expect_13 : decode b_Mo_expect 13 = .ok (.getfield 706, 3) := by decide +kernel
theorem d_Mo_expect_16 : decode b_Mo_expect 16 = .ok (.iload 4, 2) := by decide +kernel
theorem d_Mo_expect_18 : decode b_Mo_expect 18 = .ok (.iload_n 1, 1) := by decide +kernel
theorem d_Mo_expect_19 : decode b_Mo_expect 19 = .ok (.iastore, 1) := by decide +kernel
theorem d_Mo_expect_20 : decode b_Mo_expect 20 = .ok (.aload_n 0, 1) := by decide +kernel
theorem d_Mo_expect_21 : decode b_Mo_expect 21 = .ok (.getfield 243, 3) := by decide +kernel
theorem d_Mo_expect_24 : decode b_Mo_expect 24 = .ok (.getfield 709, 3) := by decide +kernel
theorem d_Mo_expect_27 : decode b_Mo_expect 27 = .ok (.iload 4, 2) := by decide +kernel
theorem d_Mo_expect_29 : decode b_Mo_expect 29 = .ok (.iload_n 2, 1) := by decide +kernel
theorem d_Mo_expect_30 : decode b_Mo_expect 30 = .ok (.iastore, 1) := by decide +kernel
theorem d_Mo_expect_31 : decode b_Mo_expect 31 = .ok (.aload_n 0, 1) := by decide +kernel
theorem d_Mo_expect_32 : decode b_Mo_expect 32 = .ok (.getfield 243, 3) := by decide +kernel
theorem d_Mo_expect_35 : decode b_Mo_expect 35 = .ok (.getfield 712, 3) := by decide +kernel
theorem d_Mo_expect_38 : decode b_Mo_expect 38 = .ok (.iload 4, 2) := by decide +kernel
theorem d_Mo_expect_40 : decode b_Mo_expect 40 = .ok (.iload_n 3, 1) := by decide +kernel
theorem d_Mo_expect_41 : decode b_Mo_expect 41 = .ok (.iastore, 1) := by decide +kernel
theorem d_Mo_expect_42 : decode b_Mo_expect 42 = .ok (.return_, 1) := by decide +kernel
theorem kw_236 : Cond.methodLink R_Mo 703 y_Th_top ∈ wA := kinm (show _ ∈ tables_1 from (List.mem_append_right _ (List.mem_append_right _ (List.mem_append_right _ (List.mem_append_right _ (List.mem_append_right _ (List.mem_append_right _ (List.mem_append_right _ (List.mem_append_right _ (List.mem_append_right _ (List.mem_append_right _ (List.mem_append_right _ (List.mem_append_left _ (List.mem_of_getElem? (l := tables_1_12) (i := 134) (by decide +kernel))))))))))))))) (by decide +kernel)
theorem kw_237 : Cond.fieldLink R_Mo 709 "LuaMachineModel$Thread_" "into" "[I" ∈ wA := kinm (show _ ∈ tables_1 from (List.mem_append_right _ (List.mem_append_right _ (List.mem_append_right _ (List.mem_append_right _ (List.mem_append_right _ (List.mem_append_right _ (List.mem_append_right _ (List.mem_append_right _ (List.mem_append_right _ (List.mem_append_left _ (List.mem_of_getElem? (l := tables_1_10) (i := 3) (by decide +kernel))))))))))))) (by decide +kernel)
theorem kw_238 : Cond.fieldLink R_Mo 712 "LuaMachineModel$Thread_" "want" "[I" ∈ wA := kinm (show _ ∈ tables_1 from (List.mem_append_right _ (List.mem_append_right _ (List.mem_append_right _ (List.mem_append_right _ (List.mem_append_right _ (List.mem_append_right _ (List.mem_append_right _ (List.mem_append_right _ (List.mem_append_right _ (List.mem_append_left _ (List.mem_of_getElem? (l := tables_1_10) (i := 5) (by decide +kernel))))))))))))) (by decide +kernel)
theorem kw_239 : Cond.instanceMethod y_Mo_expect ∈ wA := kinm (show _ ∈ tables_1 from (List.mem_append_right _ (List.mem_append_right _ (List.mem_append_right _ (List.mem_append_right _ (List.mem_append_right _ (List.mem_append_right _ (List.mem_append_right _ (List.mem_append_right _ (List.mem_append_right _ (List.mem_append_right _ (List.mem_append_right _ (List.mem_append_right _ (List.mem_append_left _ (List.mem_of_getElem? (l := tables_1_13) (i := 101) (by decide +kernel)))))))))))))))) (by decide +kernel)
theorem kw_240 : Cond.selects R_Mo y_Mo_expect y_Mo_expect ∈ wA := kinp 196 (by decide +kernel) (by decide +kernel)
theorem cv_Mo_expect : CV y_Mo_expect b_Mo_expect 5 none 3 := ⟨kw_239, kw_240, kw_17, k_Mo_expect, by decide +kernel⟩
theorem ct_Mo_expect {l : Launch} {P : PP} {q : PL} {s s' : S1} {l1 : Int32} {l2 : Int32} {l3 : Int32} {r : Unit} (h : M_Mo_expect l1 l2 l3 s = some (r, s')) : Ct l y_Mo_expect b_Mo_expect 5 none 1 20 P q s [.ref (q.1 0 0), .int l1, .int l2, .int l3] none q s' := by
  refine ct_of (by decide) (Nat.le_of_ble_eq_true rfl) fun X ls eP el g hR hl => ?_
  subst eP
  have hR : Rt X q ((r, s') : Unit × S1).2 none := hR
  have hl : lv_has ls 5 [(0, .ref (q.1 0 0)), (1, .int l1), (2, .int l2), (3, .int l3)] := hl
  generalize (r, s') = o at h hR
  unfold M_Mo_expect at h
  refine ww_aload_n (pc := 0) g.1 d_Mo_expect_0 rfl (lv_at hl 0 rfl) ?_
  refine ww_gV (pc := 1) g (k := 72) cl_Mo (pz rfl (by decide)) (by decide) (Or.inl kw_150) (f := 72) (t := 28) rfl rfl rfl d_Mo_expect_1 h fun v1 h => ?_
  refine ww_ok h fun cn1 h => ?_
  refine ww_nn cn1 ?_
  obtain ⟨v4, s, hc4, h⟩ := oB_of h
  refine ww_callV (pc := 4) (rest := []) g cv_Th_top (Or.inl kw_236) cl_Th (pt rfl rfl cn1) (ct_Th_top cn1 hc4) ⟨by decide, by decide⟩ rfl hl.1 (Nat.le_of_ble_eq_true rfl) d_Mo_expect_4 rfl ?_
  refine ww_st (st' := [.int v4]) rfl ?_
  refine ww_istore (pc := 7) (i := 4) g.1 (lv' := [(4, .int v4), (0, .ref (q.1 0 0)), (1, .int l1), (2, .int l2), (3, .int l3)]) d_Mo_expect_7 hl (by decide) rfl fun ls hl => ?_
  refine ww_aload_n (pc := 9) g.1 d_Mo_expect_9 rfl (lv_at hl 1 rfl) ?_
  refine ww_gV (pc := 10) g (k := 72) cl_Mo (pz rfl (by decide)) (by decide) (Or.inl kw_150) (f := 72) (t := 28) rfl rfl rfl d_Mo_expect_10 h fun v10 h => ?_
  refine ww_ok h fun cn10 h => ?_
  refine ww_nn cn10 ?_
  refine ww_gR (pc := 13) g (k := 18) cl_Th (pt rfl rfl cn10) (by decide) (Or.inl kw_156) (f := 3602) (t := 37) rfl rfl rfl d_Mo_expect_13 ?_
  refine ww_iload (pc := 16) g.1 d_Mo_expect_16 (lv_at hl 0 rfl) ?_
  refine ww_iload_n (pc := 18) g.1 d_Mo_expect_18 rfl (lv_at hl 2 rfl) ?_
  refine ww_si (pc := 19) g (pt rfl rfl cn10) rfl rfl d_Mo_expect_19 h fun s hs h => ?_
  refine ww_aload_n (pc := 20) g.1 d_Mo_expect_20 rfl (lv_at hl 1 rfl) ?_
  refine ww_gV (pc := 21) g (k := 72) cl_Mo (pz rfl (by decide)) (by decide) (Or.inl kw_150) (f := 72) (t := 28) rfl rfl rfl d_Mo_expect_21 h fun v21 h => ?_
  refine ww_ok h fun cn21 h => ?_
  refine ww_nn cn21 ?_
  refine ww_gR (pc := 24) g (k := 19) cl_Th (pt rfl rfl cn21) (by decide) (Or.inl kw_237) (f := 3603) (t := 38) rfl rfl rfl d_Mo_expect_24 ?_
  refine ww_iload (pc := 27) g.1 d_Mo_expect_27 (lv_at hl 0 rfl) ?_
  refine ww_iload_n (pc := 29) g.1 d_Mo_expect_29 rfl (lv_at hl 3 rfl) ?_
  refine ww_si (pc := 30) g (pt rfl rfl cn21) rfl rfl d_Mo_expect_30 h fun s hs h => ?_
  refine ww_aload_n (pc := 31) g.1 d_Mo_expect_31 rfl (lv_at hl 1 rfl) ?_
  refine ww_gV (pc := 32) g (k := 72) cl_Mo (pz rfl (by decide)) (by decide) (Or.inl kw_150) (f := 72) (t := 28) rfl rfl rfl d_Mo_expect_32 h fun v32 h => ?_
  refine ww_ok h fun cn32 h => ?_
  refine ww_nn cn32 ?_
  refine ww_gR (pc := 35) g (k := 20) cl_Th (pt rfl rfl cn32) (by decide) (Or.inl kw_238) (f := 3604) (t := 39) rfl rfl rfl d_Mo_expect_35 ?_
  refine ww_iload (pc := 38) g.1 d_Mo_expect_38 (lv_at hl 0 rfl) ?_
  refine ww_iload_n (pc := 40) g.1 d_Mo_expect_40 rfl (lv_at hl 4 rfl) ?_
  refine ww_si (pc := 41) g (pt rfl rfl cn32) rfl rfl d_Mo_expect_41 h fun s hs h => ?_
  exact ww_vretH (pc := 42) g h hR d_Mo_expect_42

abbrev b_Mo_arguments : ByteArray := prog_14_method_66_code
def y_Mo_arguments : MethodName := ⟨R_Mo, "arguments", "(IJIJ)V"⟩
abbrev w_Mo_arguments : List Cond := .code y_Mo_arguments b_Mo_arguments 7 none :: wA
theorem k_Mo_arguments : Cond.code y_Mo_arguments b_Mo_arguments 7 none ∈ wA := kinm (show _ ∈ tables_1 from (List.mem_append_right _ (List.mem_append_right _ (List.mem_append_right _ (List.mem_append_right _ (List.mem_append_right _ (List.mem_append_right _ (List.mem_append_right _ (List.mem_append_right _ (List.mem_append_right _ (List.mem_append_right _ (List.mem_append_right _ (List.mem_append_right _ (List.mem_append_left _ (List.mem_of_getElem? (l := tables_1_13) (i := 110) (by decide +kernel)))))))))))))))) (by decide +kernel)
theorem d_Mo_arguments_0 : decode b_Mo_arguments 0 = .ok (.aload_n 0, 1) := by decide +kernel
theorem d_Mo_arguments_1 : decode b_Mo_arguments 1 = .ok (.getfield 259, 3) := by decide +kernel
theorem d_Mo_arguments_4 : decode b_Mo_arguments 4 = .ok (.iconst 0, 1) := by decide +kernel
theorem d_Mo_arguments_5 : decode b_Mo_arguments 5 = .ok (.putfield 569, 3) := by decide +kernel
theorem d_Mo_arguments_8 : decode b_Mo_arguments 8 = .ok (.aload_n 0, 1) := by decide +kernel
theorem d_Mo_arguments_9 : decode b_Mo_arguments 9 = .ok (.getfield 259, 3) := by decide +kernel
theorem d_Mo_arguments_12 : decode b_Mo_arguments 12 = .ok (.iload_n 1, 1) := by decide +kernel
theorem d_Mo_arguments_13 : decode b_Mo_arguments 13 = .ok (.lload_n 2, 1) := by decide +kernel
theorem d_Mo_arguments_14 : decode b_Mo_arguments 14 = .ok (.invokevirtual 572, 3) := by decide +kernel
theorem d_Mo_arguments_17 : decode b_Mo_arguments 17 = .ok (.aload_n 0, 1) := by decide +kernel
theorem d_Mo_arguments_18 : decode b_Mo_arguments 18 = .ok (.getfield 259, 3) := by decide +kernel
theorem d_Mo_arguments_21 : decode b_Mo_arguments 21 = .ok (.iload 4, 2) := by decide +kernel
theorem d_Mo_arguments_23 : decode b_Mo_arguments 23 = .ok (.lload 5, 2) := by decide +kernel
theorem d_Mo_arguments_25 : decode b_Mo_arguments 25 = .ok (.invokevirtual 572, 3) := by decide +kernel
theorem d_Mo_arguments_28 : decode b_Mo_arguments 28 = .ok (.return_, 1) := by decide +kernel
theorem kw_241 : Cond.instanceMethod y_Mo_arguments ∈ wA := kinm (show _ ∈ tables_1 from (List.mem_append_right _ (List.mem_append_right _ (List.mem_append_right _ (List.mem_append_right _ (List.mem_append_right _ (List.mem_append_right _ (List.mem_append_right _ (List.mem_append_right _ (List.mem_append_right _ (List.mem_append_right _ (List.mem_append_right _ (List.mem_append_right _ (List.mem_append_left _ (List.mem_of_getElem? (l := tables_1_13) (i := 109) (by decide +kernel)))))))))))))))) (by decide +kernel)
theorem kw_242 : Cond.selects R_Mo y_Mo_arguments y_Mo_arguments ∈ wA := kinp 198 (by decide +kernel) (by decide +kernel)
theorem cv_Mo_arguments : CV y_Mo_arguments b_Mo_arguments 7 none 4 := ⟨kw_241, kw_242, kw_17, k_Mo_arguments, by decide +kernel⟩
theorem ct_Mo_arguments {l : Launch} {P : PP} {q : PL} {s s' : S1} {l1 : Int32} {l2 : Int64} {l4 : Int32} {l5 : Int64} {r : Unit} (h : M_Mo_arguments l1 l2 l4 l5 s = some (r, s')) : Ct l y_Mo_arguments b_Mo_arguments 7 none 1 23 P q s [.ref (q.1 0 0), .int l1, .long l2, .int l4, .long l5] none q s' := by
  refine ct_of (by decide) (Nat.le_of_ble_eq_true rfl) fun X ls eP el g hR hl => ?_
  subst eP
  have hR : Rt X q ((r, s') : Unit × S1).2 none := hR
  have hl : lv_has ls 7 [(0, .ref (q.1 0 0)), (1, .int l1), (2, .long l2), (4, .int l4), (5, .long l5)] := hl
  generalize (r, s') = o at h hR
  unfold M_Mo_arguments at h
  refine ww_aload_n (pc := 0) g.1 d_Mo_arguments_0 rfl (lv_at hl 0 rfl) ?_
  refine ww_gR (pc := 1) g (k := 77) cl_Mo (pz rfl (by decide)) (by decide) (Or.inl kw_182) (f := 77) (t := 7) rfl rfl rfl d_Mo_arguments_1 ?_
  refine ww_iconst (pc := 4) g.1 (v := 0) d_Mo_arguments_4 (by decide) ?_
  refine ww_pI (pc := 5) g (k := 2) (cl_Va (Or.inl ⟨by decide, rfl⟩)) (pz rfl (by decide)) (by decide) (Or.inl kw_179) rfl (f := 898) rfl rfl rfl rfl d_Mo_arguments_5 h fun s hs h => ?_
  refine ww_aload_n (pc := 8) g.1 d_Mo_arguments_8 rfl (lv_at hl 0 rfl) ?_
  refine ww_gR (pc := 9) g (k := 77) cl_Mo (pz rfl (by decide)) (by decide) (Or.inl kw_182) (f := 77) (t := 7) rfl rfl rfl d_Mo_arguments_9 ?_
  refine ww_iload_n (pc := 12) g.1 d_Mo_arguments_12 rfl (lv_at hl 1 rfl) ?_
  refine ww_lload_n (pc := 13) g.1 d_Mo_arguments_13 rfl (lv_at hl 2 rfl) ?_
  obtain ⟨v14, s, hc14, h⟩ := oB_of h
  refine ww_callV (pc := 14) (rest := []) g cv_Va_add (Or.inl kw_187) (cl_Va (Or.inl ⟨by decide, rfl⟩)) (pz rfl (by decide)) (ct_Va_add (Or.inl ⟨by decide, rfl⟩) hc14) ⟨by decide, by decide⟩ rfl hl.1 (Nat.le_of_ble_eq_true rfl) d_Mo_arguments_14 rfl ?_
  refine ww_st (st' := []) rfl ?_
  refine ww_aload_n (pc := 17) g.1 d_Mo_arguments_17 rfl (lv_at hl 0 rfl) ?_
  refine ww_gR (pc := 18) g (k := 77) cl_Mo (pz rfl (by decide)) (by decide) (Or.inl kw_182) (f := 77) (t := 7) rfl rfl rfl d_Mo_arguments_18 ?_
  refine ww_iload (pc := 21) g.1 d_Mo_arguments_21 (lv_at hl 3 rfl) ?_
  refine ww_lload (pc := 23) g.1 d_Mo_arguments_23 (lv_at hl 4 rfl) ?_
  obtain ⟨v25, s, hc25, h⟩ := oB_of h
  refine ww_callV (pc := 25) (rest := []) g cv_Va_add (Or.inl kw_187) (cl_Va (Or.inl ⟨by decide, rfl⟩)) (pz rfl (by decide)) (ct_Va_add (Or.inl ⟨by decide, rfl⟩) hc25) ⟨by decide, by decide⟩ rfl hl.1 (Nat.le_of_ble_eq_true rfl) d_Mo_arguments_25 rfl ?_
  refine ww_st (st' := []) rfl ?_
  exact ww_vretH (pc := 28) g h hR d_Mo_arguments_28

abbrev b_Mo_close : ByteArray := prog_14_method_43_code
def y_Mo_close : MethodName := ⟨R_Mo, "close", "(LLuaMachineModel$Thread_;I)V"⟩
abbrev w_Mo_close : List Cond := .code y_Mo_close b_Mo_close 6 none :: wA
theorem k_Mo_close : Cond.code y_Mo_close b_Mo_close 6 none ∈ wA := kinm (show _ ∈ tables_1 from (List.mem_append_right _ (List.mem_append_right _ (List.mem_append_right _ (List.mem_append_right _ (List.mem_append_right _ (List.mem_append_right _ (List.mem_append_right _ (List.mem_append_right _ (List.mem_append_right _ (List.mem_append_right _ (List.mem_append_right _ (List.mem_append_right _ (List.mem_append_left _ (List.mem_of_getElem? (l := tables_1_13) (i := 122) (by decide +kernel)))))))))))))))) (by decide +kernel)
theorem d_Mo_close_0 : decode b_Mo_close 0 = .ok (.iconst 0, 1) := by decide +kernel
theorem d_Mo_close_1 : decode b_Mo_close 1 = .ok (.istore_n 3, 1) := by decide +kernel
theorem d_Mo_close_2 : decode b_Mo_close 2 = .ok (.iconst 0, 1) := by decide +kernel
theorem d_Mo_close_3 : decode b_Mo_close 3 = .ok (.istore 4, 2) := by decide +kernel
theorem d_Mo_close_5 : decode b_Mo_close 5 = .ok (.iload 4, 2) := by decide +kernel
theorem d_Mo_close_7 : decode b_Mo_close 7 = .ok (.aload_n 1, 1) := by decide +kernel
theorem d_Mo_close_8 : decode b_Mo_close 8 = .ok (.getfield 597, 3) := by decide +kernel
theorem d_Mo_close_11 : decode b_Mo_close 11 = .ok (.if_icmp .ge 49, 3) := by decide +kernel
theorem d_Mo_close_14 : decode b_Mo_close 14 = .ok (.aload_n 1, 1) := by decide +kernel
theorem d_Mo_close_15 : decode b_Mo_close 15 = .ok (.getfield 600, 3) := by decide +kernel
theorem d_Mo_close_18 : decode b_Mo_close 18 = .ok (.iload 4, 2) := by decide +kernel
theorem d_Mo_close_20 : decode b_Mo_close 20 = .ok (.iaload, 1) := by decide +kernel
theorem d_Mo_close_21 : decode b_Mo_close 21 = .ok (.istore 5, 2) := by decide +kernel
theorem d_Mo_close_23 : decode b_Mo_close 23 = .ok (.aload_n 0, 1) := by decide +kernel
theorem d_Mo_close_24 : decode b_Mo_close 24 = .ok (.getfield 171, 3) := by decide +kernel
theorem d_Mo_close_27 : decode b_Mo_close 27 = .ok (.iload 5, 2) := by decide +kernel
theorem d_Mo_close_29 : decode b_Mo_close 29 = .ok (.iaload, 1) := by decide +kernel
theorem d_Mo_close_30 : decode b_Mo_close 30 = .ok (.iload_n 2, 1) := by decide +kernel
theorem d_Mo_close_31 : decode b_Mo_close 31 = .ok (.if_icmp .lt 12, 3) := by decide +kernel
theorem d_Mo_close_34 : decode b_Mo_close 34 = .ok (.aload_n 0, 1) := by decide +kernel
theorem d_Mo_close_35 : decode b_Mo_close 35 = .ok (.iload 5, 2) := by decide +kernel
theorem d_Mo_close_37 : decode b_Mo_close 37 = .ok (.invokevirtual 603, 3) := by decide +kernel
theorem d_Mo_close_40 : decode b_Mo_close 40 = .ok (.goto 14, 3) := by decide +kernel
theorem d_Mo_close_43 : decode b_Mo_close 43 = .ok (.aload_n 1, 1) := by decide +kernel
theorem d_Mo_close_44 : decode b_Mo_close 44 = .ok (.getfield 600, 3) := by decide +kernel
theorem d_Mo_close_47 : decode b_Mo_close 47 = .ok (.iload_n 3, 1) := by decide +kernel
theorem d_Mo_close_48 : decode b_Mo_close 48 = .ok (.iinc 3 1, 3) := by decide +kernel
theorem d_Mo_close_51 : decode b_Mo_close 51 = .ok (.iload 5, 2) := by decide +kernel
theorem d_Mo_close_53 : decode b_Mo_close 53 = .ok (.iastore, 1) := by decide +kernel
theorem d_Mo_close_54 : decode b_Mo_close 54 = .ok (.iinc 4 1, 3) := by decide +kernel
theorem d_Mo_close_57 : decode b_Mo_close 57 = .ok (.goto (-52), 3) := by decide +kernel
theorem d_Mo_close_60 : decode b_Mo_close 60 = .ok (.aload_n 1, 1) := by decide +kernel
theorem d_Mo_close_61 : decode b_Mo_close 61 = .ok (.iload_n 3, 1) := by decide +kernel
theorem d_Mo_close_62 : decode b_Mo_close 62 = .ok (.putfield 597, 3) := by decide +kernel
theorem d_Mo_close_65 : decode b_Mo_close 65 = .ok (.return_, 1) := by decide +kernel
theorem kw_243 : Cond.methodLink R_Mo 603 y_Mo_closeVariable ∈ wA := kinm (show _ ∈ tables_1 from (List.mem_append_right _ (List.mem_append_right _ (List.mem_append_right _ (List.mem_append_right _ (List.mem_append_right _ (List.mem_append_right _ (List.mem_append_right _ (List.mem_append_right _ (List.mem_append_right _ (List.mem_append_right _ (List.mem_append_right _ (List.mem_append_left _ (List.mem_of_getElem? (l := tables_1_12) (i := 42) (by decide +kernel))))))))))))))) (by decide +kernel)
theorem kw_244 : Cond.instanceMethod y_Mo_close ∈ wA := kinm (show _ ∈ tables_1 from (List.mem_append_right _ (List.mem_append_right _ (List.mem_append_right _ (List.mem_append_right _ (List.mem_append_right _ (List.mem_append_right _ (List.mem_append_right _ (List.mem_append_right _ (List.mem_append_right _ (List.mem_append_right _ (List.mem_append_right _ (List.mem_append_right _ (List.mem_append_left _ (List.mem_of_getElem? (l := tables_1_13) (i := 121) (by decide +kernel)))))))))))))))) (by decide +kernel)
theorem kw_245 : Cond.selects R_Mo y_Mo_close y_Mo_close ∈ wA := kinp 201 (by decide +kernel) (by decide +kernel)
theorem cv_Mo_close : CV y_Mo_close b_Mo_close 6 none 2 := ⟨kw_244, kw_245, kw_17, k_Mo_close, by decide +kernel⟩
theorem j_Mo_close_j54 {X : Cx} {q : PL} (g : Gd X y_Mo_close b_Mo_close 6 none 2 45 R_Mo) {o : ((Int32 × Int32 × Int32 × Int32) ⊕ ((Int32 × Int32))) × S1} (hR : (Sum.elim (fun y : Int32 × Int32 × Int32 × Int32 => ∀ ls : Array Slot, (0 ≤ y.1 ∧ y.1 < 33) → lv_has ls 6 [(0, .ref (q.1 0 0)), (1, .ref (q.1 28 y.1)), (2, .int y.2.1), (3, .int y.2.2.1), (4, .int y.2.2.2)] → WW X q o.2 5 ls []) (fun y : Int32 × Int32 => ∀ ls : Array Slot, (0 ≤ y.1 ∧ y.1 < 33) → lv_has ls 6 [(1, .ref (q.1 28 y.1)), (3, .int y.2)] → WW X q o.2 60 ls []) o.1)) (l1 : Int32) (l2 : Int32) (l3 : Int32) (l4 : Int32) (s : S1) (hp0 : 0 ≤ l1 ∧ l1 < 33) (ls : Array Slot) (hl : lv_has ls 6 [(0, .ref (q.1 0 0)), (1, .ref (q.1 28 l1)), (2, .int l2), (3, .int l3), (4, .int l4)]) (h : M_Mo_close_j54 l1 l2 l3 l4 s = some o) : WW X q s 54 ls [] := by
  unfold M_Mo_close_j54 at h
  refine ww_iinc (pc := 54) g.1 (v := l4 + 1) (lv' := [(4, .int (l4 + 1)), (0, .ref (q.1 0 0)), (1, .ref (q.1 28 l1)), (2, .int l2), (3, .int l3)]) d_Mo_close_54 hl (k := 4) rfl (by rfl) (by decide) rfl fun ls hl => ?_
  refine ww_goto (pc := 57) (tgt := 5) g.1 d_Mo_close_57 (by decide) ?_
  rw [oR_eq h] at hR
  exact hR ls hp0 (lv_sub hl [1, 2, 3, 4, 0] rfl)

theorem lp_Mo_close_L5 {X : Cx} {q : PL} (g : Gd X y_Mo_close b_Mo_close 6 none 2 45 R_Mo) (x : Int32 × Int32 × Int32 × Int32) (s : S1) (o : ((Int32 × Int32 × Int32 × Int32) ⊕ ((Int32 × Int32))) × S1) (h : M_Mo_close_L5 x s = some o) (hR : (Sum.elim (fun y : Int32 × Int32 × Int32 × Int32 => ∀ ls : Array Slot, (0 ≤ y.1 ∧ y.1 < 33) → lv_has ls 6 [(0, .ref (q.1 0 0)), (1, .ref (q.1 28 y.1)), (2, .int y.2.1), (3, .int y.2.2.1), (4, .int y.2.2.2)] → WW X q o.2 5 ls []) (fun y : Int32 × Int32 => ∀ ls : Array Slot, (0 ≤ y.1 ∧ y.1 < 33) → lv_has ls 6 [(1, .ref (q.1 28 y.1)), (3, .int y.2)] → WW X q o.2 60 ls []) o.1)) : ∀ ls : Array Slot, (0 ≤ x.1 ∧ x.1 < 33) → lv_has ls 6 [(0, .ref (q.1 0 0)), (1, .ref (q.1 28 x.1)), (2, .int x.2.1), (3, .int x.2.2.1), (4, .int x.2.2.2)] → WW X q s 5 ls [] := by
  intro ls hp0 hl
  unfold M_Mo_close_L5 at h
  refine ww_iload (pc := 5) g.1 d_Mo_close_5 (lv_at hl 4 rfl) ?_
  refine ww_aload_n (pc := 7) g.1 d_Mo_close_7 rfl (lv_at hl 1 rfl) ?_
  refine ww_gI (pc := 8) g (k := 3) cl_Th (pt rfl rfl hp0) (by decide) (Or.inl kw_104) (f := 3587) rfl rfl d_Mo_close_8 h fun v8 h => ?_
  refine ww_icmp_ge (pc := 11) (tgt := 60) g.1 d_Mo_close_11 (by decide) h (fun c h => ?_) (fun c h => ?_)
  · rw [oR_eq h] at hR
    exact hR ls hp0 (lv_sub hl [1, 3] rfl)
  · refine ww_aload_n (pc := 14) g.1 d_Mo_close_14 rfl (lv_at hl 1 rfl) ?_
    refine ww_gR (pc := 15) g (k := 10) cl_Th (pt rfl rfl hp0) (by decide) (Or.inl kw_105) (f := 3594) (t := 29) rfl rfl rfl d_Mo_close_15 ?_
    refine ww_iload (pc := 18) g.1 d_Mo_close_18 (lv_at hl 4 rfl) ?_
    refine ww_ai (pc := 20) g (pt rfl rfl hp0) rfl rfl d_Mo_close_20 h fun v20 h => ?_
    refine ww_istore (pc := 21) (i := 5) g.1 (lv' := [(5, .int v20), (0, .ref (q.1 0 0)), (1, .ref (q.1 28 x.1)), (2, .int x.2.1), (3, .int x.2.2.1), (4, .int x.2.2.2)]) d_Mo_close_21 hl (by decide) rfl fun ls hl => ?_
    refine ww_aload_n (pc := 23) g.1 d_Mo_close_23 rfl (lv_at hl 1 rfl) ?_
    refine ww_gR (pc := 24) g (k := 50) cl_Mo (pz rfl (by decide)) (by decide) (Or.inl kw_91) (f := 50) (t := 63) rfl rfl rfl d_Mo_close_24 ?_
    refine ww_iload (pc := 27) g.1 d_Mo_close_27 (lv_at hl 0 rfl) ?_
    refine ww_ai (pc := 29) g (pz rfl (by decide)) rfl rfl d_Mo_close_29 h fun v29 h => ?_
    refine ww_iload_n (pc := 30) g.1 d_Mo_close_30 rfl (lv_at hl 3 rfl) ?_
    refine ww_icmp_lt (pc := 31) (tgt := 43) g.1 d_Mo_close_31 (by decide) h (fun c h => ?_) (fun c h => ?_)
    · refine ww_aload_n (pc := 43) g.1 d_Mo_close_43 rfl (lv_at hl 2 rfl) ?_
      refine ww_gR (pc := 44) g (k := 10) cl_Th (pt rfl rfl hp0) (by decide) (Or.inl kw_105) (f := 3594) (t := 29) rfl rfl rfl d_Mo_close_44 ?_
      refine ww_iload_n (pc := 47) g.1 d_Mo_close_47 rfl (lv_at hl 4 rfl) ?_
      refine ww_iinc (pc := 48) g.1 (v := x.2.2.1 + 1) (lv' := [(3, .int (x.2.2.1 + 1)), (5, .int v20), (0, .ref (q.1 0 0)), (1, .ref (q.1 28 x.1)), (2, .int x.2.1), (4, .int x.2.2.2)]) d_Mo_close_48 hl (k := 4) rfl (by rfl) (by decide) rfl fun ls hl => ?_
      refine ww_iload (pc := 51) g.1 d_Mo_close_51 (lv_at hl 1 rfl) ?_
      refine ww_si (pc := 53) g (pt rfl rfl hp0) rfl rfl d_Mo_close_53 h fun s hs h => ?_
      exact j_Mo_close_j54 g hR x.1 x.2.1 (x.2.2.1 + 1) x.2.2.2 s hp0 ls (lv_sub hl [2, 3, 4, 0, 5] rfl) h
    · refine ww_aload_n (pc := 34) g.1 d_Mo_close_34 rfl (lv_at hl 1 rfl) ?_
      refine ww_iload (pc := 35) g.1 d_Mo_close_35 (lv_at hl 0 rfl) ?_
      obtain ⟨v37, s, hc37, h⟩ := oB_of h
      refine ww_callV (pc := 37) (rest := []) g cv_Mo_closeVariable (Or.inl kw_243) cl_Mo (pz rfl (by decide)) (ct_Mo_closeVariable hc37) ⟨by decide, by decide⟩ rfl hl.1 (Nat.le_of_ble_eq_true rfl) d_Mo_close_37 rfl ?_
      refine ww_st (st' := []) rfl ?_
      refine ww_goto (pc := 40) (tgt := 54) g.1 d_Mo_close_40 (by decide) ?_
      exact j_Mo_close_j54 g hR x.1 x.2.1 x.2.2.1 x.2.2.2 s hp0 ls (lv_sub hl [1, 2, 3, 4, 5] rfl) h

theorem ct_Mo_close {l : Launch} {P : PP} {q : PL} {s s' : S1} {l1 : Int32} {l2 : Int32} (hp0 : 0 ≤ l1 ∧ l1 < 33) {r : Unit} (h : M_Mo_close l1 l2 s = some (r, s')) : Ct l y_Mo_close b_Mo_close 6 none 2 45 P q s [.ref (q.1 0 0), .ref (q.1 28 l1), .int l2] none q s' := by
  refine ct_of (by decide) (Nat.le_of_ble_eq_true rfl) fun X ls eP el g hR hl => ?_
  subst eP
  have hR : Rt X q ((r, s') : Unit × S1).2 none := hR
  have hl : lv_has ls 6 [(0, .ref (q.1 0 0)), (1, .ref (q.1 28 l1)), (2, .int l2)] := hl
  generalize (r, s') = o at h hR
  unfold M_Mo_close at h
  refine ww_iconst (pc := 0) g.1 (v := 0) d_Mo_close_0 (by decide) ?_
  refine ww_istore_n (pc := 1) (i := 3) g.1 (lv' := [(3, .int 0), (0, .ref (q.1 0 0)), (1, .ref (q.1 28 l1)), (2, .int l2)]) d_Mo_close_1 rfl hl (by decide) rfl fun ls hl => ?_
  refine ww_iconst (pc := 2) g.1 (v := 0) d_Mo_close_2 (by decide) ?_
  refine ww_istore (pc := 3) (i := 4) g.1 (lv' := [(4, .int 0), (3, .int 0), (0, .ref (q.1 0 0)), (1, .ref (q.1 28 l1)), (2, .int l2)]) d_Mo_close_3 hl (by decide) rfl fun ls hl => ?_
  obtain ⟨e5, s1, hw, h⟩ := oB_of h
  refine oW_rule (Wh := fun (x : Int32 × Int32 × Int32 × Int32) (s : S1) => ∀ ls : Array Slot, (0 ≤ x.1 ∧ x.1 < 33) → lv_has ls 6 [(0, .ref (q.1 0 0)), (1, .ref (q.1 28 x.1)), (2, .int x.2.1), (3, .int x.2.2.1), (4, .int x.2.2.2)] → WW X q s 5 ls []) (We := fun (e : (Int32 × Int32)) (s : S1) => ∀ ls : Array Slot, (0 ≤ e.1 ∧ e.1 < 33) → lv_has ls 6 [(1, .ref (q.1 28 e.1)), (3, .int e.2)] → WW X q s 60 ls []) (fun x s o hb hc => lp_Mo_close_L5 (q := q) g x s o hb hc) hw ?_ ls hp0 (lv_sub hl [2, 3, 4, 1, 0] rfl)
  clear hw hl
  clear ls
  intro ls hq5_0 hl
  generalize s1 = s at h ⊢
  refine ww_aload_n (pc := 60) g.1 d_Mo_close_60 rfl (lv_at hl 0 rfl) ?_
  refine ww_iload_n (pc := 61) g.1 d_Mo_close_61 rfl (lv_at hl 1 rfl) ?_
  refine ww_pI (pc := 62) g (k := 3) cl_Th (pt rfl rfl hq5_0) (by decide) (Or.inl kw_104) rfl (f := 3587) rfl rfl rfl rfl d_Mo_close_62 h fun s hs h => ?_
  exact ww_vretH (pc := 65) g h hR d_Mo_close_65

abbrev b_Mo_constant : ByteArray := prog_14_method_109_code
def y_Mo_constant : MethodName := ⟨R_Mo, "constant", "(II)V"⟩
abbrev w_Mo_constant : List Cond := .code y_Mo_constant b_Mo_constant 4 none :: wA
theorem k_Mo_constant : Cond.code y_Mo_constant b_Mo_constant 4 none ∈ wA := kinm (show _ ∈ tables_1 from (List.mem_append_right _ (List.mem_append_right _ (List.mem_append_right _ (List.mem_append_right _ (List.mem_append_right _ (List.mem_append_right _ (List.mem_append_right _ (List.mem_append_right _ (List.mem_append_right _ (List.mem_append_right _ (List.mem_append_right _ (List.mem_append_right _ (List.mem_append_left _ (List.mem_of_getElem? (l := tables_1_13) (i := 138) (by decide +kernel)))))))))))))))) (by decide +kernel)
theorem d_Mo_constant_0 : decode b_Mo_constant 0 = .ok (.aload_n 0, 1) := by decide +kernel
theorem d_Mo_constant_1 : decode b_Mo_constant 1 = .ok (.getfield 47, 3) := by decide +kernel
theorem d_Mo_constant_4 : decode b_Mo_constant 4 = .ok (.iload_n 1, 1) := by decide +kernel
theorem d_Mo_constant_5 : decode b_Mo_constant 5 = .ok (.iaload, 1) := by decide +kernel
theorem d_Mo_constant_6 : decode b_Mo_constant 6 = .ok (.iload_n 2, 1) := by decide +kernel
theorem d_Mo_constant_7 : decode b_Mo_constant 7 = .ok (.iadd, 1) := by decide +kernel
theorem d_Mo_constant_8 : decode b_Mo_constant 8 = .ok (.istore_n 3, 1) := by decide +kernel
theorem d_Mo_constant_9 : decode b_Mo_constant 9 = .ok (.aload_n 0, 1) := by decide +kernel
theorem d_Mo_constant_10 : decode b_Mo_constant 10 = .ok (.aload_n 0, 1) := by decide +kernel
theorem d_Mo_constant_11 : decode b_Mo_constant 11 = .ok (.getfield 82, 3) := by decide +kernel
theorem d_Mo_constant_14 : decode b_Mo_constant 14 = .ok (.getfield 585, 3) := by decide +kernel
theorem d_Mo_constant_17 : decode b_Mo_constant 17 = .ok (.iload_n 3, 1) := by decide +kernel
theorem d_Mo_constant_18 : decode b_Mo_constant 18 = .ok (.baload, 1) := by decide +kernel
theorem d_Mo_constant_19 : decode b_Mo_constant 19 = .ok (.putfield 437, 3) := by decide +kernel
theorem d_Mo_constant_22 : decode b_Mo_constant 22 = .ok (.aload_n 0, 1) := by decide +kernel
theorem d_Mo_constant_23 : decode b_Mo_constant 23 = .ok (.aload_n 0, 1) := by decide +kernel
theorem d_Mo_constant_24 : decode b_Mo_constant 24 = .ok (.getfield 82, 3) := by decide +kernel
theorem d_Mo_constant_27 : decode b_Mo_constant 27 = .ok (.getfield 588, 3) := by decide +kernel
theorem d_Mo_constant_30 : decode b_Mo_constant 30 = .ok (.iload_n 3, 1) := by decide +kernel
theorem d_Mo_constant_31 : decode b_Mo_constant 31 = .ok (.laload, 1) := by decide +kernel
theorem d_Mo_constant_32 : decode b_Mo_constant 32 = .ok (.putfield 440, 3) := by decide +kernel
theorem d_Mo_constant_35 : decode b_Mo_constant 35 = .ok (.return_, 1) := by decide +kernel
theorem kw_246 : Cond.fieldLink R_Mo 47 "LuaMachineModel" "constAt" "[I" ∈ wA := kinm (show _ ∈ tables_1 from (List.mem_append_right _ (List.mem_append_right _ (List.mem_append_right _ (List.mem_append_right _ (List.mem_append_right _ (List.mem_append_right _ (List.mem_append_right _ (List.mem_append_right _ (List.mem_append_right _ (List.mem_append_left _ (List.mem_of_getElem? (l := tables_1_10) (i := 66) (by decide +kernel))))))))))))) (by decide +kernel)
theorem kw_247 : Cond.fieldLink R_Mo 82 "LuaMachineModel" "constants" "LLuaMachineModel$Values;" ∈ wA := kinm (show _ ∈ tables_1 from (List.mem_append_right _ (List.mem_append_right _ (List.mem_append_right _ (List.mem_append_right _ (List.mem_append_right _ (List.mem_append_right _ (List.mem_append_right _ (List.mem_append_right _ (List.mem_append_right _ (List.mem_append_left _ (List.mem_of_getElem? (l := tables_1_10) (i := 76) (by decide +kernel))))))))))))) (by decide +kernel)
theorem kw_248 : Cond.fieldLink R_Mo 437 "LuaMachineModel" "rkKind" "I" ∈ wA := kinm (show _ ∈ tables_1 from (List.mem_append_right _ (List.mem_append_right _ (List.mem_append_right _ (List.mem_append_right _ (List.mem_append_right _ (List.mem_append_right _ (List.mem_append_right _ (List.mem_append_right _ (List.mem_append_right _ (List.mem_append_left _ (List.mem_of_getElem? (l := tables_1_10) (i := 154) (by decide +kernel))))))))))))) (by decide +kernel)
theorem kw_249 : Cond.fieldLink R_Mo 440 "LuaMachineModel" "rk" "J" ∈ wA := kinm (show _ ∈ tables_1 from (List.mem_append_right _ (List.mem_append_right _ (List.mem_append_right _ (List.mem_append_right _ (List.mem_append_right _ (List.mem_append_right _ (List.mem_append_right _ (List.mem_append_right _ (List.mem_append_right _ (List.mem_append_left _ (List.mem_of_getElem? (l := tables_1_10) (i := 155) (by decide +kernel))))))))))))) (by decide +kernel)
theorem kw_250 : Cond.instanceMethod y_Mo_constant ∈ wA := kinm (show _ ∈ tables_1 from (List.mem_append_right _ (List.mem_append_right _ (List.mem_append_right _ (List.mem_append_right _ (List.mem_append_right _ (List.mem_append_right _ (List.mem_append_right _ (List.mem_append_right _ (List.mem_append_right _ (List.mem_append_right _ (List.mem_append_right _ (List.mem_append_right _ (List.mem_append_left _ (List.mem_of_getElem? (l := tables_1_13) (i := 137) (by decide +kernel)))))))))))))))) (by decide +kernel)
theorem kw_251 : Cond.selects R_Mo y_Mo_constant y_Mo_constant ∈ wA := kinp 205 (by decide +kernel) (by decide +kernel)
theorem cv_Mo_constant : CV y_Mo_constant b_Mo_constant 4 none 2 := ⟨kw_250, kw_251, kw_17, k_Mo_constant, by decide +kernel⟩
theorem ct_Mo_constant {l : Launch} {P : PP} {q : PL} {s s' : S1} {l1 : Int32} {l2 : Int32} {r : Unit} (h : M_Mo_constant l1 l2 s = some (r, s')) : Ct l y_Mo_constant b_Mo_constant 4 none 0 0 P q s [.ref (q.1 0 0), .int l1, .int l2] none q s' := by
  refine ct_of (by decide) (Nat.le_of_ble_eq_true rfl) fun X ls eP el g hR hl => ?_
  subst eP
  have hR : Rt X q ((r, s') : Unit × S1).2 none := hR
  have hl : lv_has ls 4 [(0, .ref (q.1 0 0)), (1, .int l1), (2, .int l2)] := hl
  generalize (r, s') = o at h hR
  unfold M_Mo_constant at h
  refine ww_aload_n (pc := 0) g.1 d_Mo_constant_0 rfl (lv_at hl 0 rfl) ?_
  refine ww_gR (pc := 1) g (k := 11) cl_Mo (pz rfl (by decide)) (by decide) (Or.inl kw_246) (f := 11) (t := 47) rfl rfl rfl d_Mo_constant_1 ?_
  refine ww_iload_n (pc := 4) g.1 d_Mo_constant_4 rfl (lv_at hl 1 rfl) ?_
  refine ww_ai (pc := 5) g (pz rfl (by decide)) rfl rfl d_Mo_constant_5 h fun v5 h => ?_
  refine ww_iload_n (pc := 6) g.1 d_Mo_constant_6 rfl (lv_at hl 2 rfl) ?_
  refine ww_iadd (pc := 7) g.1 d_Mo_constant_7 ?_
  refine ww_leti h fun l3_8 h => ?_
  refine ww_istore_n (pc := 8) (i := 3) g.1 (lv' := [(3, .int l3_8), (0, .ref (q.1 0 0)), (1, .int l1), (2, .int l2)]) d_Mo_constant_8 rfl hl (by decide) rfl fun ls hl => ?_
  refine ww_aload_n (pc := 9) g.1 d_Mo_constant_9 rfl (lv_at hl 1 rfl) ?_
  refine ww_aload_n (pc := 10) g.1 d_Mo_constant_10 rfl (lv_at hl 1 rfl) ?_
  refine ww_gR (pc := 11) g (k := 21) cl_Mo (pz rfl (by decide)) (by decide) (Or.inl kw_247) (f := 21) (t := 1) rfl rfl rfl d_Mo_constant_11 ?_
  refine ww_gR (pc := 14) g (k := 0) (cl_Va (Or.inl ⟨by decide, rfl⟩)) (pz rfl (by decide)) (by decide) (Or.inl kw_90) (f := 128) (t := 2) rfl rfl rfl d_Mo_constant_14 ?_
  refine ww_iload_n (pc := 17) g.1 d_Mo_constant_17 rfl (lv_at hl 0 rfl) ?_
  refine ww_ab (pc := 18) g (pz rfl (by decide)) rfl rfl d_Mo_constant_18 h fun v18 h => ?_
  refine ww_pI (pc := 19) g (k := 98) cl_Mo (pz rfl (by decide)) (by decide) (Or.inl kw_248) rfl (f := 98) rfl rfl rfl rfl d_Mo_constant_19 h fun s hs h => ?_
  refine ww_aload_n (pc := 22) g.1 d_Mo_constant_22 rfl (lv_at hl 1 rfl) ?_
  refine ww_aload_n (pc := 23) g.1 d_Mo_constant_23 rfl (lv_at hl 1 rfl) ?_
  refine ww_gR (pc := 24) g (k := 21) cl_Mo (pz rfl (by decide)) (by decide) (Or.inl kw_247) (f := 21) (t := 1) rfl rfl rfl d_Mo_constant_24 ?_
  refine ww_gR (pc := 27) g (k := 1) (cl_Va (Or.inl ⟨by decide, rfl⟩)) (pz rfl (by decide)) (by decide) (Or.inl kw_93) (f := 129) (t := 3) rfl rfl rfl d_Mo_constant_27 ?_
  refine ww_iload_n (pc := 30) g.1 d_Mo_constant_30 rfl (lv_at hl 0 rfl) ?_
  refine ww_al (pc := 31) g (pz rfl (by decide)) rfl rfl d_Mo_constant_31 h fun v31 h => ?_
  refine ww_pL (pc := 32) g (k := 99) cl_Mo (pz rfl (by decide)) (by decide) (Or.inl kw_249) rfl (f := 99) rfl rfl rfl rfl d_Mo_constant_32 h fun s hs h => ?_
  exact ww_vretH (pc := 35) g h hR d_Mo_constant_35

abbrev b_Mo_up : ByteArray := prog_14_method_113_code
def y_Mo_up : MethodName := ⟨R_Mo, "up", "(LLuaMachineModel$Thread_;II)I"⟩
abbrev w_Mo_up : List Cond := .code y_Mo_up b_Mo_up 4 (some .int) :: wA
theorem k_Mo_up : Cond.code y_Mo_up b_Mo_up 4 (some .int) ∈ wA := kinm (show _ ∈ tables_1 from (List.mem_append_right _ (List.mem_append_right _ (List.mem_append_right _ (List.mem_append_right _ (List.mem_append_right _ (List.mem_append_right _ (List.mem_append_right _ (List.mem_append_right _ (List.mem_append_right _ (List.mem_append_right _ (List.mem_append_right _ (List.mem_append_right _ (List.mem_append_left _ (List.mem_of_getElem? (l := tables_1_13) (i := 142) (by decide +kernel)))))))))))))))) (by decide +kernel)
theorem d_Mo_up_0 : decode b_Mo_up 0 = .ok (.aload_n 0, 1) := by decide +kernel
theorem d_Mo_up_1 : decode b_Mo_up 1 = .ok (.getfield 206, 3) := by decide +kernel
theorem d_Mo_up_4 : decode b_Mo_up 4 = .ok (.aload_n 0, 1) := by decide +kernel
theorem d_Mo_up_5 : decode b_Mo_up 5 = .ok (.getfield 171, 3) := by decide +kernel
theorem d_Mo_up_8 : decode b_Mo_up 8 = .ok (.aload_n 1, 1) := by decide +kernel
theorem d_Mo_up_9 : decode b_Mo_up 9 = .ok (.getfield 736, 3) := by decide +kernel
theorem d_Mo_up_12 : decode b_Mo_up 12 = .ok (.iload_n 2, 1) := by decide +kernel
theorem d_Mo_up_13 : decode b_Mo_up 13 = .ok (.iaload, 1) := by decide +kernel
theorem d_Mo_up_14 : decode b_Mo_up 14 = .ok (.iaload, 1) := by decide +kernel
theorem d_Mo_up_15 : decode b_Mo_up 15 = .ok (.iload_n 3, 1) := by decide +kernel
theorem d_Mo_up_16 : decode b_Mo_up 16 = .ok (.iadd, 1) := by decide +kernel
theorem d_Mo_up_17 : decode b_Mo_up 17 = .ok (.iaload, 1) := by decide +kernel
theorem d_Mo_up_18 : decode b_Mo_up 18 = .ok (.ireturn, 1) := by decide +kernel
theorem kw_252 : Cond.instanceMethod y_Mo_up ∈ wA := kinm (show _ ∈ tables_1 from (List.mem_append_right _ (List.mem_append_right _ (List.mem_append_right _ (List.mem_append_right _ (List.mem_append_right _ (List.mem_append_right _ (List.mem_append_right _ (List.mem_append_right _ (List.mem_append_right _ (List.mem_append_right _ (List.mem_append_right _ (List.mem_append_right _ (List.mem_append_left _ (List.mem_of_getElem? (l := tables_1_13) (i := 141) (by decide +kernel)))))))))))))))) (by decide +kernel)
theorem kw_253 : Cond.selects R_Mo y_Mo_up y_Mo_up ∈ wA := kinp 206 (by decide +kernel) (by decide +kernel)
theorem cv_Mo_up : CV y_Mo_up b_Mo_up 4 (some .int) 3 := ⟨kw_252, kw_253, kw_17, k_Mo_up, by decide +kernel⟩
theorem ct_Mo_up {l : Launch} {P : PP} {q : PL} {s s' : S1} {l1 : Int32} {l2 : Int32} {l3 : Int32} (hp0 : 0 ≤ l1 ∧ l1 < 33) {r : Int32} (h : M_Mo_up l1 l2 l3 s = some (r, s')) : Ct l y_Mo_up b_Mo_up 4 (some .int) 0 0 P q s [.ref (q.1 0 0), .ref (q.1 28 l1), .int l2, .int l3] (some (.int r)) q s' := by
  refine ct_of (by decide) (Nat.le_of_ble_eq_true rfl) fun X ls eP el g hR hl => ?_
  subst eP
  have hR : Rt X q ((r, s') : Int32 × S1).2 (some (.int ((r, s') : Int32 × S1).1)) := hR
  have hl : lv_has ls 4 [(0, .ref (q.1 0 0)), (1, .ref (q.1 28 l1)), (2, .int l2), (3, .int l3)] := hl
  generalize (r, s') = o at h hR
  unfold M_Mo_up at h
  refine ww_aload_n (pc := 0) g.1 d_Mo_up_0 rfl (lv_at hl 0 rfl) ?_
  refine ww_g5 (pc := 1) g (k := 61) cl_Mo (pz rfl (by decide)) (by decide) (Or.inl kw_129) (f := 61) (t := 73) (f2 := 9471) rfl rfl rfl rfl d_Mo_up_1 h fun v1 hv1 h => ?_
  refine ww_ok h fun cv1 h => ?_
  refine ww_dn cv1 ?_
  have pd1 : prs s 73 0 := pd (f := 9471) rfl (by decide) hv1 cv1
  refine ww_aload_n (pc := 4) g.1 d_Mo_up_4 rfl (lv_at hl 0 rfl) ?_
  refine ww_gR (pc := 5) g (k := 50) cl_Mo (pz rfl (by decide)) (by decide) (Or.inl kw_91) (f := 50) (t := 63) rfl rfl rfl d_Mo_up_5 ?_
  refine ww_aload_n (pc := 8) g.1 d_Mo_up_8 rfl (lv_at hl 1 rfl) ?_
  refine ww_gR (pc := 9) g (k := 12) cl_Th (pt rfl rfl hp0) (by decide) (Or.inl kw_153) (f := 3596) (t := 31) rfl rfl rfl d_Mo_up_9 ?_
  refine ww_iload_n (pc := 12) g.1 d_Mo_up_12 rfl (lv_at hl 2 rfl) ?_
  refine ww_ai (pc := 13) g (pt rfl rfl hp0) rfl rfl d_Mo_up_13 h fun v13 h => ?_
  refine ww_ai (pc := 14) g (pz rfl (by decide)) rfl rfl d_Mo_up_14 h fun v14 h => ?_
  refine ww_iload_n (pc := 15) g.1 d_Mo_up_15 rfl (lv_at hl 3 rfl) ?_
  refine ww_iadd (pc := 16) g.1 d_Mo_up_16 ?_
  refine ww_ai (pc := 17) g pd1 rfl rfl d_Mo_up_17 h fun v17 h => ?_
  exact ww_iretH (pc := 18) g h hR d_Mo_up_18

abbrev b_Mo_rk_ : ByteArray := prog_14_method_110_code
def y_Mo_rk_ : MethodName := ⟨R_Mo, "rk", "(LLuaMachineModel$Thread_;III)V"⟩
abbrev w_Mo_rk_ : List Cond := .code y_Mo_rk_ b_Mo_rk_ 5 none :: wA
theorem k_Mo_rk_ : Cond.code y_Mo_rk_ b_Mo_rk_ 5 none ∈ wA := kinm (show _ ∈ tables_1 from (List.mem_append_right _ (List.mem_append_right _ (List.mem_append_right _ (List.mem_append_right _ (List.mem_append_right _ (List.mem_append_right _ (List.mem_append_right _ (List.mem_append_right _ (List.mem_append_right _ (List.mem_append_right _ (List.mem_append_right _ (List.mem_append_right _ (List.mem_append_left _ (List.mem_of_getElem? (l := tables_1_13) (i := 146) (by decide +kernel)))))))))))))))) (by decide +kernel)
theorem d_Mo_rk__0 : decode b_Mo_rk_ 0 = .ok (.iload 4, 2) := by decide +kernel
theorem d_Mo_rk__2 : decode b_Mo_rk_ 2 = .ok (.sipush 255, 3) := by decide +kernel
theorem d_Mo_rk__5 : decode b_Mo_rk_ 5 = .ok (.if_icmp .le 15, 3) := by decide +kernel
theorem d_Mo_rk__8 : decode b_Mo_rk_ 8 = .ok (.aload_n 0, 1) := by decide +kernel
theorem d_Mo_rk__9 : decode b_Mo_rk_ 9 = .ok (.iload_n 3, 1) := by decide +kernel
theorem d_Mo_rk__10 : decode b_Mo_rk_ 10 = .ok (.iload 4, 2) := by decide +kernel
theorem d_Mo_rk__12 : decode b_Mo_rk_ 12 = .ok (.sipush 256, 3) := by decide +kernel
theorem d_Mo_rk__15 : decode b_Mo_rk_ 15 = .ok (.isub, 1) := by decide +kernel
theorem d_Mo_rk__16 : decode b_Mo_rk_ 16 = .ok (.invokevirtual 905, 3) := by decide +kernel
theorem d_Mo_rk__19 : decode b_Mo_rk_ 19 = .ok (.return_, 1) := by decide +kernel
theorem d_Mo_rk__20 : decode b_Mo_rk_ 20 = .ok (.aload_n 0, 1) := by decide +kernel
theorem d_Mo_rk__21 : decode b_Mo_rk_ 21 = .ok (.aload_n 1, 1) := by decide +kernel
theorem d_Mo_rk__22 : decode b_Mo_rk_ 22 = .ok (.getfield 591, 3) := by decide +kernel
theorem d_Mo_rk__25 : decode b_Mo_rk_ 25 = .ok (.getfield 585, 3) := by decide +kernel
theorem d_Mo_rk__28 : decode b_Mo_rk_ 28 = .ok (.aload_n 1, 1) := by decide +kernel
theorem d_Mo_rk__29 : decode b_Mo_rk_ 29 = .ok (.getfield 744, 3) := by decide +kernel
theorem d_Mo_rk__32 : decode b_Mo_rk_ 32 = .ok (.iload_n 2, 1) := by decide +kernel
theorem d_Mo_rk__33 : decode b_Mo_rk_ 33 = .ok (.iaload, 1) := by decide +kernel
theorem d_Mo_rk__34 : decode b_Mo_rk_ 34 = .ok (.iload 4, 2) := by decide +kernel
theorem d_Mo_rk__36 : decode b_Mo_rk_ 36 = .ok (.iadd, 1) := by decide +kernel
theorem d_Mo_rk__37 : decode b_Mo_rk_ 37 = .ok (.baload, 1) := by decide +kernel
theorem d_Mo_rk__38 : decode b_Mo_rk_ 38 = .ok (.putfield 437, 3) := by decide +kernel
theorem d_Mo_rk__41 : decode b_Mo_rk_ 41 = .ok (.aload_n 0, 1) := by decide +kernel
theorem d_Mo_rk__42 : decode b_Mo_rk_ 42 = .ok (.aload_n 1, 1) := by decide +kernel
theorem d_Mo_rk__43 : decode b_Mo_rk_ 43 = .ok (.getfield 591, 3) := by decide +kernel
theorem d_Mo_rk__46 : decode b_Mo_rk_ 46 = .ok (.getfield 588, 3) := by decide +kernel
theorem d_Mo_rk__49 : decode b_Mo_rk_ 49 = .ok (.aload_n 1, 1) := by decide +kernel
theorem d_Mo_rk__50 : decode b_Mo_rk_ 50 = .ok (.getfield 744, 3) := by decide +kernel
theorem d_Mo_rk__53 : decode b_Mo_rk_ 53 = .ok (.iload_n 2, 1) := by decide +kernel
theorem d_Mo_rk__54 : decode b_Mo_rk_ 54 = .ok (.iaload, 1) := by decide +kernel
theorem d_Mo_rk__55 : decode b_Mo_rk_ 55 = .ok (.iload 4, 2) := by decide +kernel
theorem d_Mo_rk__57 : decode b_Mo_rk_ 57 = .ok (.iadd, 1) := by decide +kernel
theorem d_Mo_rk__58 : decode b_Mo_rk_ 58 = .ok (.laload, 1) := by decide +kernel
theorem d_Mo_rk__59 : decode b_Mo_rk_ 59 = .ok (.putfield 440, 3) := by decide +kernel
theorem d_Mo_rk__62 : decode b_Mo_rk_ 62 = .ok (.return_, 1) := by decide +kernel
theorem kw_254 : Cond.fieldLink R_Mo 744 "LuaMachineModel$Thread_" "base" "[I" ∈ wA := kinm (show _ ∈ tables_1 from (List.mem_append_right _ (List.mem_append_right _ (List.mem_append_right _ (List.mem_append_right _ (List.mem_append_right _ (List.mem_append_right _ (List.mem_append_right _ (List.mem_append_right _ (List.mem_append_left _ (List.mem_of_getElem? (l := tables_1_9) (i := 233) (by decide +kernel)))))))))))) (by decide +kernel)
theorem kw_255 : Cond.methodLink R_Mo 905 y_Mo_constant ∈ wA := kinm (show _ ∈ tables_1 from (List.mem_append_right _ (List.mem_append_right _ (List.mem_append_right _ (List.mem_append_right _ (List.mem_append_right _ (List.mem_append_right _ (List.mem_append_right _ (List.mem_append_right _ (List.mem_append_right _ (List.mem_append_right _ (List.mem_append_right _ (List.mem_append_right _ (List.mem_append_left _ (List.mem_of_getElem? (l := tables_1_13) (i := 135) (by decide +kernel)))))))))))))))) (by decide +kernel)
theorem kw_256 : Cond.instanceMethod y_Mo_rk_ ∈ wA := kinm (show _ ∈ tables_1 from (List.mem_append_right _ (List.mem_append_right _ (List.mem_append_right _ (List.mem_append_right _ (List.mem_append_right _ (List.mem_append_right _ (List.mem_append_right _ (List.mem_append_right _ (List.mem_append_right _ (List.mem_append_right _ (List.mem_append_right _ (List.mem_append_right _ (List.mem_append_left _ (List.mem_of_getElem? (l := tables_1_13) (i := 145) (by decide +kernel)))))))))))))))) (by decide +kernel)
theorem kw_257 : Cond.selects R_Mo y_Mo_rk_ y_Mo_rk_ ∈ wA := kinp 207 (by decide +kernel) (by decide +kernel)
theorem cv_Mo_rk_ : CV y_Mo_rk_ b_Mo_rk_ 5 none 4 := ⟨kw_256, kw_257, kw_17, k_Mo_rk_, by decide +kernel⟩
theorem ct_Mo_rk_ {l : Launch} {P : PP} {q : PL} {s s' : S1} {l1 : Int32} {l2 : Int32} {l3 : Int32} {l4 : Int32} (hp0 : 0 ≤ l1 ∧ l1 < 33) {r : Unit} (h : M_Mo_rk_ l1 l2 l3 l4 s = some (r, s')) : Ct l y_Mo_rk_ b_Mo_rk_ 5 none 1 23 P q s [.ref (q.1 0 0), .ref (q.1 28 l1), .int l2, .int l3, .int l4] none q s' := by
  refine ct_of (by decide) (Nat.le_of_ble_eq_true rfl) fun X ls eP el g hR hl => ?_
  subst eP
  have hR : Rt X q ((r, s') : Unit × S1).2 none := hR
  have hl : lv_has ls 5 [(0, .ref (q.1 0 0)), (1, .ref (q.1 28 l1)), (2, .int l2), (3, .int l3), (4, .int l4)] := hl
  generalize (r, s') = o at h hR
  unfold M_Mo_rk_ at h
  refine ww_iload (pc := 0) g.1 d_Mo_rk__0 (lv_at hl 4 rfl) ?_
  refine ww_sipush (pc := 2) g.1 (v := 255) d_Mo_rk__2 (by decide) ?_
  refine ww_icmp_le (pc := 5) (tgt := 20) g.1 d_Mo_rk__5 (by decide) h (fun c h => ?_) (fun c h => ?_)
  · refine ww_aload_n (pc := 20) g.1 d_Mo_rk__20 rfl (lv_at hl 0 rfl) ?_
    refine ww_aload_n (pc := 21) g.1 d_Mo_rk__21 rfl (lv_at hl 1 rfl) ?_
    refine ww_gR (pc := 22) g (k := 7) cl_Th (pt rfl rfl hp0) (by decide) (Or.inl kw_89) (f := 3591) (t := 19) rfl rfl rfl d_Mo_rk__22 ?_
    refine ww_gR (pc := 25) g (k := 0) (cl_Va (Or.inr ⟨by decide, hp0⟩)) (pt rfl rfl hp0) (by decide) (Or.inl kw_90) (f := 2432) (t := 20) rfl rfl rfl d_Mo_rk__25 ?_
    refine ww_aload_n (pc := 28) g.1 d_Mo_rk__28 rfl (lv_at hl 1 rfl) ?_
    refine ww_gR (pc := 29) g (k := 14) cl_Th (pt rfl rfl hp0) (by decide) (Or.inl kw_254) (f := 3598) (t := 33) rfl rfl rfl d_Mo_rk__29 ?_
    refine ww_iload_n (pc := 32) g.1 d_Mo_rk__32 rfl (lv_at hl 2 rfl) ?_
    refine ww_ai (pc := 33) g (pt rfl rfl hp0) rfl rfl d_Mo_rk__33 h fun v33 h => ?_
    refine ww_iload (pc := 34) g.1 d_Mo_rk__34 (lv_at hl 4 rfl) ?_
    refine ww_iadd (pc := 36) g.1 d_Mo_rk__36 ?_
    refine ww_ab (pc := 37) g (pt rfl rfl hp0) rfl rfl d_Mo_rk__37 h fun v37 h => ?_
    refine ww_pI (pc := 38) g (k := 98) cl_Mo (pz rfl (by decide)) (by decide) (Or.inl kw_248) rfl (f := 98) rfl rfl rfl rfl d_Mo_rk__38 h fun s hs h => ?_
    refine ww_aload_n (pc := 41) g.1 d_Mo_rk__41 rfl (lv_at hl 0 rfl) ?_
    refine ww_aload_n (pc := 42) g.1 d_Mo_rk__42 rfl (lv_at hl 1 rfl) ?_
    refine ww_gR (pc := 43) g (k := 7) cl_Th (pt rfl rfl hp0) (by decide) (Or.inl kw_89) (f := 3591) (t := 19) rfl rfl rfl d_Mo_rk__43 ?_
    refine ww_gR (pc := 46) g (k := 1) (cl_Va (Or.inr ⟨by decide, hp0⟩)) (pt rfl rfl hp0) (by decide) (Or.inl kw_93) (f := 2433) (t := 21) rfl rfl rfl d_Mo_rk__46 ?_
    refine ww_aload_n (pc := 49) g.1 d_Mo_rk__49 rfl (lv_at hl 1 rfl) ?_
    refine ww_gR (pc := 50) g (k := 14) cl_Th (pt rfl rfl hp0) (by decide) (Or.inl kw_254) (f := 3598) (t := 33) rfl rfl rfl d_Mo_rk__50 ?_
    refine ww_iload_n (pc := 53) g.1 d_Mo_rk__53 rfl (lv_at hl 2 rfl) ?_
    refine ww_ai (pc := 54) g (pt rfl rfl hp0) rfl rfl d_Mo_rk__54 h fun v54 h => ?_
    refine ww_iload (pc := 55) g.1 d_Mo_rk__55 (lv_at hl 4 rfl) ?_
    refine ww_iadd (pc := 57) g.1 d_Mo_rk__57 ?_
    refine ww_al (pc := 58) g (pt rfl rfl hp0) rfl rfl d_Mo_rk__58 h fun v58 h => ?_
    refine ww_pL (pc := 59) g (k := 99) cl_Mo (pz rfl (by decide)) (by decide) (Or.inl kw_249) rfl (f := 99) rfl rfl rfl rfl d_Mo_rk__59 h fun s hs h => ?_
    exact ww_vretH (pc := 62) g h hR d_Mo_rk__62
  · refine ww_aload_n (pc := 8) g.1 d_Mo_rk__8 rfl (lv_at hl 0 rfl) ?_
    refine ww_iload_n (pc := 9) g.1 d_Mo_rk__9 rfl (lv_at hl 3 rfl) ?_
    refine ww_iload (pc := 10) g.1 d_Mo_rk__10 (lv_at hl 4 rfl) ?_
    refine ww_sipush (pc := 12) g.1 (v := 256) d_Mo_rk__12 (by decide) ?_
    refine ww_isub (pc := 15) g.1 d_Mo_rk__15 ?_
    obtain ⟨v16, s, hc16, h⟩ := oB_of h
    refine ww_callV (pc := 16) (rest := []) g cv_Mo_constant (Or.inl kw_255) cl_Mo (pz rfl (by decide)) (ct_Mo_constant hc16) ⟨by decide, by decide⟩ rfl hl.1 (Nat.le_of_ble_eq_true rfl) d_Mo_rk__16 rfl ?_
    refine ww_st (st' := []) rfl ?_
    exact ww_vretH (pc := 19) g h hR d_Mo_rk__19

abbrev b_Mo_callGot : ByteArray := prog_14_method_64_code
def y_Mo_callGot : MethodName := ⟨R_Mo, "callGot", "()V"⟩
abbrev w_Mo_callGot : List Cond := .code y_Mo_callGot b_Mo_callGot 1 none :: wA
theorem k_Mo_callGot : Cond.code y_Mo_callGot b_Mo_callGot 1 none ∈ wA := kinm (show _ ∈ tables_1 from (List.mem_append_right _ (List.mem_append_right _ (List.mem_append_right _ (List.mem_append_right _ (List.mem_append_right _ (List.mem_append_right _ (List.mem_append_right _ (List.mem_append_right _ (List.mem_append_right _ (List.mem_append_right _ (List.mem_append_right _ (List.mem_append_right _ (List.mem_append_left _ (List.mem_of_getElem? (l := tables_1_13) (i := 154) (by decide +kernel)))))))))))))))) (by decide +kernel)
theorem d_Mo_callGot_0 : decode b_Mo_callGot 0 = .ok (.aload_n 0, 1) := by decide +kernel
theorem d_Mo_callGot_1 : decode b_Mo_callGot 1 = .ok (.aload_n 0, 1) := by decide +kernel
theorem d_Mo_callGot_2 : decode b_Mo_callGot 2 = .ok (.getfield 222, 3) := by decide +kernel
theorem d_Mo_callGot_5 : decode b_Mo_callGot 5 = .ok (.putfield 253, 3) := by decide +kernel
theorem d_Mo_callGot_8 : decode b_Mo_callGot 8 = .ok (.aload_n 0, 1) := by decide +kernel
theorem d_Mo_callGot_9 : decode b_Mo_callGot 9 = .ok (.aload_n 0, 1) := by decide +kernel
theorem d_Mo_callGot_10 : decode b_Mo_callGot 10 = .ok (.getfield 225, 3) := by decide +kernel
theorem d_Mo_callGot_13 : decode b_Mo_callGot 13 = .ok (.putfield 256, 3) := by decide +kernel
theorem d_Mo_callGot_16 : decode b_Mo_callGot 16 = .ok (.aload_n 0, 1) := by decide +kernel
theorem d_Mo_callGot_17 : decode b_Mo_callGot 17 = .ok (.iconst 1, 1) := by decide +kernel
theorem d_Mo_callGot_18 : decode b_Mo_callGot 18 = .ok (.putfield 247, 3) := by decide +kernel
theorem d_Mo_callGot_21 : decode b_Mo_callGot 21 = .ok (.return_, 1) := by decide +kernel
theorem kw_258 : Cond.instanceMethod y_Mo_callGot ∈ wA := kinm (show _ ∈ tables_1 from (List.mem_append_right _ (List.mem_append_right _ (List.mem_append_right _ (List.mem_append_right _ (List.mem_append_right _ (List.mem_append_right _ (List.mem_append_right _ (List.mem_append_right _ (List.mem_append_right _ (List.mem_append_right _ (List.mem_append_right _ (List.mem_append_right _ (List.mem_append_left _ (List.mem_of_getElem? (l := tables_1_13) (i := 153) (by decide +kernel)))))))))))))))) (by decide +kernel)
theorem kw_259 : Cond.selects R_Mo y_Mo_callGot y_Mo_callGot ∈ wA := kinp 209 (by decide +kernel) (by decide +kernel)
theorem cv_Mo_callGot : CV y_Mo_callGot b_Mo_callGot 1 none 0 := ⟨kw_258, kw_259, kw_17, k_Mo_callGot, by decide +kernel⟩
theorem ct_Mo_callGot {l : Launch} {P : PP} {q : PL} {s s' : S1}  {r : Unit} (h : M_Mo_callGot s = some (r, s')) : Ct l y_Mo_callGot b_Mo_callGot 1 none 0 0 P q s [.ref (q.1 0 0)] none q s' := by
  refine ct_of (by decide) (Nat.le_of_ble_eq_true rfl) fun X ls eP el g hR hl => ?_
  subst eP
  have hR : Rt X q ((r, s') : Unit × S1).2 none := hR
  have hl : lv_has ls 1 [(0, .ref (q.1 0 0))] := hl
  generalize (r, s') = o at h hR
  unfold M_Mo_callGot at h
  refine ww_aload_n (pc := 0) g.1 d_Mo_callGot_0 rfl (lv_at hl 0 rfl) ?_
  refine ww_aload_n (pc := 1) g.1 d_Mo_callGot_1 rfl (lv_at hl 0 rfl) ?_
  refine ww_gI (pc := 2) g (k := 66) cl_Mo (pz rfl (by decide)) (by decide) (Or.inl kw_92) (f := 66) rfl rfl d_Mo_callGot_2 h fun v2 h => ?_
  refine ww_pI (pc := 5) g (k := 75) cl_Mo (pz rfl (by decide)) (by decide) (Or.inl kw_192) rfl (f := 75) rfl rfl rfl rfl d_Mo_callGot_5 h fun s hs h => ?_
  refine ww_aload_n (pc := 8) g.1 d_Mo_callGot_8 rfl (lv_at hl 0 rfl) ?_
  refine ww_aload_n (pc := 9) g.1 d_Mo_callGot_9 rfl (lv_at hl 0 rfl) ?_
  refine ww_gL (pc := 10) g (k := 67) cl_Mo (pz rfl (by decide)) (by decide) (Or.inl kw_94) (f := 67) rfl rfl d_Mo_callGot_10 h fun v10 h => ?_
  refine ww_pL (pc := 13) g (k := 76) cl_Mo (pz rfl (by decide)) (by decide) (Or.inl kw_194) rfl (f := 76) rfl rfl rfl rfl d_Mo_callGot_13 h fun s hs h => ?_
  refine ww_aload_n (pc := 16) g.1 d_Mo_callGot_16 rfl (lv_at hl 0 rfl) ?_
  refine ww_iconst (pc := 17) g.1 (v := 1) d_Mo_callGot_17 (by decide) ?_
  refine ww_pI (pc := 18) g (k := 73) cl_Mo (pz rfl (by decide)) (by decide) (Or.inl kw_75) rfl (f := 73) rfl rfl rfl rfl d_Mo_callGot_18 h fun s hs h => ?_
  exact ww_vretH (pc := 21) g h hR d_Mo_callGot_21

abbrev b_Mo_store : ByteArray := prog_14_method_41_code
def y_Mo_store : MethodName := ⟨R_Mo, "store", "(IIJ)V"⟩
abbrev w_Mo_store : List Cond := .code y_Mo_store b_Mo_store 5 none :: wA
theorem k_Mo_store : Cond.code y_Mo_store b_Mo_store 5 none ∈ wA := kinm (show _ ∈ tables_1 from (List.mem_append_right _ (List.mem_append_right _ (List.mem_append_right _ (List.mem_append_right _ (List.mem_append_right _ (List.mem_append_right _ (List.mem_append_right _ (List.mem_append_right _ (List.mem_append_right _ (List.mem_append_right _ (List.mem_append_right _ (List.mem_append_right _ (List.mem_append_left _ (List.mem_of_getElem? (l := tables_1_13) (i := 162) (by decide +kernel)))))))))))))))) (by decide +kernel)
theorem d_Mo_store_0 : decode b_Mo_store 0 = .ok (.aload_n 0, 1) := by decide +kernel
theorem d_Mo_store_1 : decode b_Mo_store 1 = .ok (.getfield 168, 3) := by decide +kernel
theorem d_Mo_store_4 : decode b_Mo_store 4 = .ok (.iload_n 1, 1) := by decide +kernel
theorem d_Mo_store_5 : decode b_Mo_store 5 = .ok (.iaload, 1) := by decide +kernel
theorem d_Mo_store_6 : decode b_Mo_store 6 = .ok (.ifCond .ge 16, 3) := by decide +kernel
theorem d_Mo_store_9 : decode b_Mo_store 9 = .ok (.aload_n 0, 1) := by decide +kernel
theorem d_Mo_store_10 : decode b_Mo_store 10 = .ok (.getfield 212, 3) := by decide +kernel
theorem d_Mo_store_13 : decode b_Mo_store 13 = .ok (.iload_n 1, 1) := by decide +kernel
theorem d_Mo_store_14 : decode b_Mo_store 14 = .ok (.iload_n 2, 1) := by decide +kernel
theorem d_Mo_store_15 : decode b_Mo_store 15 = .ok (.lload_n 3, 1) := by decide +kernel
theorem d_Mo_store_16 : decode b_Mo_store 16 = .ok (.invokevirtual 470, 3) := by decide +kernel
theorem d_Mo_store_19 : decode b_Mo_store 19 = .ok (.goto 28, 3) := by decide +kernel
theorem d_Mo_store_22 : decode b_Mo_store 22 = .ok (.aload_n 0, 1) := by decide +kernel
theorem d_Mo_store_23 : decode b_Mo_store 23 = .ok (.getfield 239, 3) := by decide +kernel
theorem d_Mo_store_26 : decode b_Mo_store 26 = .ok (.aload_n 0, 1) := by decide +kernel
theorem d_Mo_store_27 : decode b_Mo_store 27 = .ok (.getfield 168, 3) := by decide +kernel
theorem d_Mo_store_30 : decode b_Mo_store 30 = .ok (.iload_n 1, 1) := by decide +kernel
theorem d_Mo_store_31 : decode b_Mo_store 31 = .ok (.iaload, 1) := by decide +kernel
theorem d_Mo_store_32 : decode b_Mo_store 32 = .ok (.aaload, 1) := by decide +kernel
theorem d_Mo_store_33 : decode b_Mo_store 33 = .ok (.getfield 591, 3) := by decide +kernel
theorem d_Mo_store_36 : decode b_Mo_store 36 = .ok (.aload_n 0, 1) := by decide +kernel
theorem d_Mo_store_37 : decode b_Mo_store 37 = .ok (.getfield 171, 3) := by decide +kernel
theorem d_Mo_store_40 : decode b_Mo_store 40 = .ok (.iload_n 1, 1) := by decide +kernel
theorem d_Mo_store_41 : decode b_Mo_store 41 = .ok (.iaload, 1) := by decide +kernel
theorem d_Mo_store_42 : decode b_Mo_store 42 = .ok (.iload_n 2, 1) := by decide +kernel
theorem d_Mo_store_43 : decode b_Mo_store 43 = .ok (.lload_n 3, 1) := by decide +kernel
theorem d_Mo_store_44 : decode b_Mo_store 44 = .ok (.invokevirtual 470, 3) := by decide +kernel
theorem d_Mo_store_47 : decode b_Mo_store 47 = .ok (.return_, 1) := by decide +kernel
theorem kw_260 : Cond.instanceMethod y_Mo_store ∈ wA := kinm (show _ ∈ tables_1 from (List.mem_append_right _ (List.mem_append_right _ (List.mem_append_right _ (List.mem_append_right _ (List.mem_append_right _ (List.mem_append_right _ (List.mem_append_right _ (List.mem_append_right _ (List.mem_append_right _ (List.mem_append_right _ (List.mem_append_right _ (List.mem_append_right _ (List.mem_append_left _ (List.mem_of_getElem? (l := tables_1_13) (i := 161) (by decide +kernel)))))))))))))))) (by decide +kernel)
theorem kw_261 : Cond.selects R_Mo y_Mo_store y_Mo_store ∈ wA := kinp 211 (by decide +kernel) (by decide +kernel)
theorem cv_Mo_store : CV y_Mo_store b_Mo_store 5 none 3 := ⟨kw_260, kw_261, kw_17, k_Mo_store, by decide +kernel⟩
theorem ct_Mo_store {l : Launch} {P : PP} {q : PL} {s s' : S1} {l1 : Int32} {l2 : Int32} {l3 : Int64} {r : Unit} (h : M_Mo_store l1 l2 l3 s = some (r, s')) : Ct l y_Mo_store b_Mo_store 5 none 1 24 P q s [.ref (q.1 0 0), .int l1, .int l2, .long l3] none q s' := by
  refine ct_of (by decide) (Nat.le_of_ble_eq_true rfl) fun X ls eP el g hR hl => ?_
  subst eP
  have hR : Rt X q ((r, s') : Unit × S1).2 none := hR
  have hl : lv_has ls 5 [(0, .ref (q.1 0 0)), (1, .int l1), (2, .int l2), (3, .long l3)] := hl
  generalize (r, s') = o at h hR
  unfold M_Mo_store at h
  refine ww_aload_n (pc := 0) g.1 d_Mo_store_0 rfl (lv_at hl 0 rfl) ?_
  refine ww_gR (pc := 1) g (k := 49) cl_Mo (pz rfl (by decide)) (by decide) (Or.inl kw_87) (f := 49) (t := 62) rfl rfl rfl d_Mo_store_1 ?_
  refine ww_iload_n (pc := 4) g.1 d_Mo_store_4 rfl (lv_at hl 1 rfl) ?_
  refine ww_ai (pc := 5) g (pz rfl (by decide)) rfl rfl d_Mo_store_5 h fun v5 h => ?_
  refine ww_if_ge (pc := 6) (tgt := 22) g.1 d_Mo_store_6 (by decide) h (fun c h => ?_) (fun c h => ?_)
  · refine ww_aload_n (pc := 22) g.1 d_Mo_store_22 rfl (lv_at hl 0 rfl) ?_
    refine ww_gR (pc := 23) g (k := 71) cl_Mo (pz rfl (by decide)) (by decide) (Or.inl kw_88) (f := 71) (t := 76) rfl rfl rfl d_Mo_store_23 ?_
    refine ww_aload_n (pc := 26) g.1 d_Mo_store_26 rfl (lv_at hl 0 rfl) ?_
    refine ww_gR (pc := 27) g (k := 49) cl_Mo (pz rfl (by decide)) (by decide) (Or.inl kw_87) (f := 49) (t := 62) rfl rfl rfl d_Mo_store_27 ?_
    refine ww_iload_n (pc := 30) g.1 d_Mo_store_30 rfl (lv_at hl 1 rfl) ?_
    refine ww_ai (pc := 31) g (pz rfl (by decide)) rfl rfl d_Mo_store_31 h fun v31 h => ?_
    refine ww_at (pc := 32) g (t := 28) (pz rfl (by decide)) rfl rfl rfl d_Mo_store_32 h fun ca32 h => ?_
    refine ww_gR (pc := 33) g (k := 7) cl_Th (pt rfl rfl ca32) (by decide) (Or.inl kw_89) (f := 3591) (t := 19) rfl rfl rfl d_Mo_store_33 ?_
    refine ww_aload_n (pc := 36) g.1 d_Mo_store_36 rfl (lv_at hl 0 rfl) ?_
    refine ww_gR (pc := 37) g (k := 50) cl_Mo (pz rfl (by decide)) (by decide) (Or.inl kw_91) (f := 50) (t := 63) rfl rfl rfl d_Mo_store_37 ?_
    refine ww_iload_n (pc := 40) g.1 d_Mo_store_40 rfl (lv_at hl 1 rfl) ?_
    refine ww_ai (pc := 41) g (pz rfl (by decide)) rfl rfl d_Mo_store_41 h fun v41 h => ?_
    refine ww_iload_n (pc := 42) g.1 d_Mo_store_42 rfl (lv_at hl 2 rfl) ?_
    refine ww_lload_n (pc := 43) g.1 d_Mo_store_43 rfl (lv_at hl 3 rfl) ?_
    obtain ⟨v44, s, hc44, h⟩ := oB_of h
    refine ww_callV (pc := 44) (rest := []) g cv_Va_set (Or.inl kw_99) (cl_Va (Or.inr ⟨by decide, ca32⟩)) (pt rfl rfl ca32) (ct_Va_set (Or.inr ⟨by decide, ca32⟩) hc44) ⟨by decide, by decide⟩ rfl hl.1 (Nat.le_of_ble_eq_true rfl) d_Mo_store_44 rfl ?_
    refine ww_st (st' := []) rfl ?_
    exact ww_vretH (pc := 47) g h hR d_Mo_store_47
  · refine ww_aload_n (pc := 9) g.1 d_Mo_store_9 rfl (lv_at hl 0 rfl) ?_
    refine ww_gR (pc := 10) g (k := 63) cl_Mo (pz rfl (by decide)) (by decide) (Or.inl kw_95) (f := 63) (t := 4) rfl rfl rfl d_Mo_store_10 ?_
    refine ww_iload_n (pc := 13) g.1 d_Mo_store_13 rfl (lv_at hl 1 rfl) ?_
    refine ww_iload_n (pc := 14) g.1 d_Mo_store_14 rfl (lv_at hl 2 rfl) ?_
    refine ww_lload_n (pc := 15) g.1 d_Mo_store_15 rfl (lv_at hl 3 rfl) ?_
    obtain ⟨v16, s, hc16, h⟩ := oB_of h
    refine ww_callV (pc := 16) (rest := []) g cv_Va_set (Or.inl kw_99) (cl_Va (Or.inl ⟨by decide, rfl⟩)) (pz rfl (by decide)) (ct_Va_set (Or.inl ⟨by decide, rfl⟩) hc16) ⟨by decide, by decide⟩ rfl hl.1 (Nat.le_of_ble_eq_true rfl) d_Mo_store_16 rfl ?_
    refine ww_st (st' := []) rfl ?_
    refine ww_goto (pc := 19) (tgt := 47) g.1 d_Mo_store_19 (by decide) ?_
    exact ww_vretH (pc := 47) g h hR d_Mo_store_47

abbrev b_Mo_eventOf : ByteArray := prog_14_method_118_code
def y_Mo_eventOf : MethodName := ⟨R_Mo, "eventOf", "(I)I"⟩
abbrev w_Mo_eventOf : List Cond := .code y_Mo_eventOf b_Mo_eventOf 1 (some .int) :: wA
theorem k_Mo_eventOf : Cond.code y_Mo_eventOf b_Mo_eventOf 1 (some .int) ∈ wA := kinm (show _ ∈ tables_1 from (List.mem_append_right _ (List.mem_append_right _ (List.mem_append_right _ (List.mem_append_right _ (List.mem_append_right _ (List.mem_append_right _ (List.mem_append_right _ (List.mem_append_right _ (List.mem_append_right _ (List.mem_append_right _ (List.mem_append_right _ (List.mem_append_right _ (List.mem_append_left _ (List.mem_of_getElem? (l := tables_1_13) (i := 173) (by decide +kernel)))))))))))))))) (by decide +kernel)
theorem d_Mo_eventOf_0 : decode b_Mo_eventOf 0 = .ok (.iload_n 0, 1) := by decide +kernel
theorem d_Mo_eventOf_1 : decode b_Mo_eventOf 1 = .ok (.bipush 17, 2) := by decide +kernel
theorem d_Mo_eventOf_3 : decode b_Mo_eventOf 3 = .ok (.if_icmp .ge 10, 3) := by decide +kernel
theorem d_Mo_eventOf_6 : decode b_Mo_eventOf 6 = .ok (.iload_n 0, 1) := by decide +kernel
theorem d_Mo_eventOf_7 : decode b_Mo_eventOf 7 = .ok (.bipush 10, 2) := by decide +kernel
theorem d_Mo_eventOf_9 : decode b_Mo_eventOf 9 = .ok (.isub, 1) := by decide +kernel
theorem d_Mo_eventOf_10 : decode b_Mo_eventOf 10 = .ok (.goto 20, 3) := by decide +kernel
theorem d_Mo_eventOf_13 : decode b_Mo_eventOf 13 = .ok (.iload_n 0, 1) := by decide +kernel
theorem d_Mo_eventOf_14 : decode b_Mo_eventOf 14 = .ok (.bipush 25, 2) := by decide +kernel
theorem d_Mo_eventOf_16 : decode b_Mo_eventOf 16 = .ok (.if_icmp .ge 10, 3) := by decide +kernel
theorem d_Mo_eventOf_19 : decode b_Mo_eventOf 19 = .ok (.iload_n 0, 1) := by decide +kernel
theorem d_Mo_eventOf_20 : decode b_Mo_eventOf 20 = .ok (.bipush 12, 2) := by decide +kernel
theorem d_Mo_eventOf_22 : decode b_Mo_eventOf 22 = .ok (.isub, 1) := by decide +kernel
theorem d_Mo_eventOf_23 : decode b_Mo_eventOf 23 = .ok (.goto 7, 3) := by decide +kernel
theorem d_Mo_eventOf_26 : decode b_Mo_eventOf 26 = .ok (.iload_n 0, 1) := by decide +kernel
theorem d_Mo_eventOf_27 : decode b_Mo_eventOf 27 = .ok (.bipush 12, 2) := by decide +kernel
theorem d_Mo_eventOf_29 : decode b_Mo_eventOf 29 = .ok (.isub, 1) := by decide +kernel
theorem d_Mo_eventOf_30 : decode b_Mo_eventOf 30 = .ok (.ireturn, 1) := by decide +kernel
theorem kw_262 : Cond.static y_Mo_eventOf ∈ wA := kinm (show _ ∈ tables_1 from (List.mem_append_right _ (List.mem_append_right _ (List.mem_append_right _ (List.mem_append_right _ (List.mem_append_right _ (List.mem_append_right _ (List.mem_append_right _ (List.mem_append_right _ (List.mem_append_right _ (List.mem_append_right _ (List.mem_append_right _ (List.mem_append_right _ (List.mem_append_left _ (List.mem_of_getElem? (l := tables_1_13) (i := 172) (by decide +kernel)))))))))))))))) (by decide +kernel)
theorem cs_Mo_eventOf : CS y_Mo_eventOf b_Mo_eventOf 1 (some .int) 1 := ⟨kw_262, kw_17, k_Mo_eventOf, by decide +kernel⟩
theorem ct_Mo_eventOf {l : Launch} {P : PP} {q : PL} {s s' : S1} {l0 : Int32} {r : Int32} (h : M_Mo_eventOf l0 s = some (r, s')) : Ct l y_Mo_eventOf b_Mo_eventOf 1 (some .int) 0 0 P q s [.int l0] (some (.int r)) q s' := by
  refine ct_of (by decide) (Nat.le_of_ble_eq_true rfl) fun X ls eP el g hR hl => ?_
  subst eP
  have hR : Rt X q ((r, s') : Int32 × S1).2 (some (.int ((r, s') : Int32 × S1).1)) := hR
  have hl : lv_has ls 1 [(0, .int l0)] := hl
  generalize (r, s') = o at h hR
  unfold M_Mo_eventOf at h
  refine ww_iload_n (pc := 0) g.1 d_Mo_eventOf_0 rfl (lv_at hl 0 rfl) ?_
  refine ww_bipush (pc := 1) g.1 (v := 17) d_Mo_eventOf_1 (by decide) ?_
  refine ww_icmp_ge (pc := 3) (tgt := 13) g.1 d_Mo_eventOf_3 (by decide) h (fun c h => ?_) (fun c h => ?_)
  · refine ww_iload_n (pc := 13) g.1 d_Mo_eventOf_13 rfl (lv_at hl 0 rfl) ?_
    refine ww_bipush (pc := 14) g.1 (v := 25) d_Mo_eventOf_14 (by decide) ?_
    refine ww_icmp_ge (pc := 16) (tgt := 26) g.1 d_Mo_eventOf_16 (by decide) h (fun c h => ?_) (fun c h => ?_)
    · refine ww_iload_n (pc := 26) g.1 d_Mo_eventOf_26 rfl (lv_at hl 0 rfl) ?_
      refine ww_bipush (pc := 27) g.1 (v := 12) d_Mo_eventOf_27 (by decide) ?_
      refine ww_isub (pc := 29) g.1 d_Mo_eventOf_29 ?_
      exact ww_iretH (pc := 30) g h hR d_Mo_eventOf_30
    · refine ww_iload_n (pc := 19) g.1 d_Mo_eventOf_19 rfl (lv_at hl 0 rfl) ?_
      refine ww_bipush (pc := 20) g.1 (v := 12) d_Mo_eventOf_20 (by decide) ?_
      refine ww_isub (pc := 22) g.1 d_Mo_eventOf_22 ?_
      refine ww_goto (pc := 23) (tgt := 30) g.1 d_Mo_eventOf_23 (by decide) ?_
      exact ww_iretH (pc := 30) g h hR d_Mo_eventOf_30
  · refine ww_iload_n (pc := 6) g.1 d_Mo_eventOf_6 rfl (lv_at hl 0 rfl) ?_
    refine ww_bipush (pc := 7) g.1 (v := 10) d_Mo_eventOf_7 (by decide) ?_
    refine ww_isub (pc := 9) g.1 d_Mo_eventOf_9 ?_
    refine ww_goto (pc := 10) (tgt := 30) g.1 d_Mo_eventOf_10 (by decide) ?_
    exact ww_iretH (pc := 30) g h hR d_Mo_eventOf_30

abbrev b_Mo_shifted : ByteArray := prog_14_method_121_code
def y_Mo_shifted : MethodName := ⟨R_Mo, "shifted", "(JJ)J"⟩
abbrev w_Mo_shifted : List Cond := .code y_Mo_shifted b_Mo_shifted 4 (some .long) :: wA
theorem k_Mo_shifted : Cond.code y_Mo_shifted b_Mo_shifted 4 (some .long) ∈ wA := kinm (show _ ∈ tables_1 from (List.mem_append_right _ (List.mem_append_right _ (List.mem_append_right _ (List.mem_append_right _ (List.mem_append_right _ (List.mem_append_right _ (List.mem_append_right _ (List.mem_append_right _ (List.mem_append_right _ (List.mem_append_right _ (List.mem_append_right _ (List.mem_append_right _ (List.mem_append_left _ (List.mem_of_getElem? (l := tables_1_13) (i := 180) (by decide +kernel)))))))))))))))) (by decide +kernel)
theorem d_Mo_shifted_0 : decode b_Mo_shifted 0 = .ok (.lload_n 2, 1) := by decide +kernel
theorem d_Mo_shifted_1 : decode b_Mo_shifted 1 = .ok (.ldc2_w 973, 3) := by decide +kernel
theorem d_Mo_shifted_4 : decode b_Mo_shifted 4 = .ok (.lcmp, 1) := by decide +kernel
theorem d_Mo_shifted_5 : decode b_Mo_shifted 5 = .ok (.ifCond .le 11, 3) := by decide +kernel
theorem d_Mo_shifted_8 : decode b_Mo_shifted 8 = .ok (.lload_n 2, 1) := by decide +kernel
theorem d_Mo_shifted_9 : decode b_Mo_shifted 9 = .ok (.ldc2_w 975, 3) := by decide +kernel
theorem d_Mo_shifted_12 : decode b_Mo_shifted 12 = .ok (.lcmp, 1) := by decide +kernel
theorem d_Mo_shifted_13 : decode b_Mo_shifted 13 = .ok (.ifCond .lt 5, 3) := by decide +kernel
theorem d_Mo_shifted_16 : decode b_Mo_shifted 16 = .ok (.lconst 0, 1) := by decide +kernel
theorem d_Mo_shifted_17 : decode b_Mo_shifted 17 = .ok (.lreturn, 1) := by decide +kernel
theorem d_Mo_shifted_18 : decode b_Mo_shifted 18 = .ok (.lload_n 2, 1) := by decide +kernel
theorem d_Mo_shifted_19 : decode b_Mo_shifted 19 = .ok (.lconst 0, 1) := by decide +kernel
theorem d_Mo_shifted_20 : decode b_Mo_shifted 20 = .ok (.lcmp, 1) := by decide +kernel
theorem d_Mo_shifted_21 : decode b_Mo_shifted 21 = .ok (.ifCond .lt 10, 3) := by decide +kernel
theorem d_Mo_shifted_24 : decode b_Mo_shifted 24 = .ok (.lload_n 0, 1) := by decide +kernel
theorem d_Mo_shifted_25 : decode b_Mo_shifted 25 = .ok (.lload_n 2, 1) := by decide +kernel
theorem d_Mo_shifted_26 : decode b_Mo_shifted 26 = .ok (.l2i, 1) := by decide +kernel
theorem d_Mo_shifted_27 : decode b_Mo_shifted 27 = .ok (.lshl, 1) := by decide +kernel
theorem d_Mo_shifted_28 : decode b_Mo_shifted 28 = .ok (.goto 8, 3) := by decide +kernel
theorem d_Mo_shifted_31 : decode b_Mo_shifted 31 = .ok (.lload_n 0, 1) := by decide +kernel
theorem d_Mo_shifted_32 : decode b_Mo_shifted 32 = .ok (.lload_n 2, 1) := by decide +kernel
theorem d_Mo_shifted_33 : decode b_Mo_shifted 33 = .ok (.lneg, 1) := by decide +kernel
theorem d_Mo_shifted_34 : decode b_Mo_shifted 34 = .ok (.l2i, 1) := by decide +kernel
theorem d_Mo_shifted_35 : decode b_Mo_shifted 35 = .ok (.lushr, 1) := by decide +kernel
theorem d_Mo_shifted_36 : decode b_Mo_shifted 36 = .ok (.lreturn, 1) := by decide +kernel
theorem kw_263 : Cond.constantLong R_Mo 973 (-64) ∈ wA := kinm (show _ ∈ tables_1 from (List.mem_append_right _ (List.mem_append_right _ (List.mem_append_right _ (List.mem_append_right _ (List.mem_append_right _ (List.mem_append_right _ (List.mem_append_right _ (List.mem_append_right _ (List.mem_append_right _ (List.mem_append_right _ (List.mem_append_right _ (List.mem_append_right _ (List.mem_append_left _ (List.mem_of_getElem? (l := tables_1_13) (i := 181) (by decide +kernel)))))))))))))))) (by decide +kernel)
theorem kw_264 : Cond.constantLong R_Mo 975 64 ∈ wA := kinm (show _ ∈ tables_1 from (List.mem_append_right _ (List.mem_append_right _ (List.mem_append_right _ (List.mem_append_right _ (List.mem_append_right _ (List.mem_append_right _ (List.mem_append_right _ (List.mem_append_right _ (List.mem_append_right _ (List.mem_append_right _ (List.mem_append_right _ (List.mem_append_right _ (List.mem_append_left _ (List.mem_of_getElem? (l := tables_1_13) (i := 182) (by decide +kernel)))))))))))))))) (by decide +kernel)
theorem kw_265 : Cond.static y_Mo_shifted ∈ wA := kinm (show _ ∈ tables_1 from (List.mem_append_right _ (List.mem_append_right _ (List.mem_append_right _ (List.mem_append_right _ (List.mem_append_right _ (List.mem_append_right _ (List.mem_append_right _ (List.mem_append_right _ (List.mem_append_right _ (List.mem_append_right _ (List.mem_append_right _ (List.mem_append_right _ (List.mem_append_left _ (List.mem_of_getElem? (l := tables_1_13) (i := 179) (by decide +kernel)))))))))))))))) (by decide +kernel)
theorem cs_Mo_shifted : CS y_Mo_shifted b_Mo_shifted 4 (some .long) 2 := ⟨kw_265, kw_17, k_Mo_shifted, by decide +kernel⟩
theorem ct_Mo_shifted {l : Launch} {P : PP} {q : PL} {s s' : S1} {l0 : Int64} {l2 : Int64} {r : Int64} (h : M_Mo_shifted l0 l2 s = some (r, s')) : Ct l y_Mo_shifted b_Mo_shifted 4 (some .long) 0 0 P q s [.long l0, .long l2] (some (.long r)) q s' := by
  refine ct_of (by decide) (Nat.le_of_ble_eq_true rfl) fun X ls eP el g hR hl => ?_
  subst eP
  have hR : Rt X q ((r, s') : Int64 × S1).2 (some (.long ((r, s') : Int64 × S1).1)) := hR
  have hl : lv_has ls 4 [(0, .long l0), (2, .long l2)] := hl
  generalize (r, s') = o at h hR
  unfold M_Mo_shifted at h
  refine ww_lload_n (pc := 0) g.1 d_Mo_shifted_0 rfl (lv_at hl 1 rfl) ?_
  refine ww_ldc2 (pc := 1) g (v := (-64)) kw_263 d_Mo_shifted_1 ?_
  refine ww_lcmp (pc := 4) g.1 d_Mo_shifted_4 ?_
  refine ww_if_le (pc := 5) (tgt := 16) g.1 d_Mo_shifted_5 (by decide) h (fun c h => ?_) (fun c h => ?_)
  · refine ww_lconst (pc := 16) g.1 (v := 0) d_Mo_shifted_16 (by decide) ?_
    exact ww_lretH (pc := 17) g h hR d_Mo_shifted_17
  · refine ww_lload_n (pc := 8) g.1 d_Mo_shifted_8 rfl (lv_at hl 1 rfl) ?_
    refine ww_ldc2 (pc := 9) g (v := 64) kw_264 d_Mo_shifted_9 ?_
    refine ww_lcmp (pc := 12) g.1 d_Mo_shifted_12 ?_
    refine ww_if_lt (pc := 13) (tgt := 18) g.1 d_Mo_shifted_13 (by decide) h (fun c h => ?_) (fun c h => ?_)
    · refine ww_lload_n (pc := 18) g.1 d_Mo_shifted_18 rfl (lv_at hl 1 rfl) ?_
      refine ww_lconst (pc := 19) g.1 (v := 0) d_Mo_shifted_19 (by decide) ?_
      refine ww_lcmp (pc := 20) g.1 d_Mo_shifted_20 ?_
      refine ww_if_lt (pc := 21) (tgt := 31) g.1 d_Mo_shifted_21 (by decide) h (fun c h => ?_) (fun c h => ?_)
      · refine ww_lload_n (pc := 31) g.1 d_Mo_shifted_31 rfl (lv_at hl 0 rfl) ?_
        refine ww_lload_n (pc := 32) g.1 d_Mo_shifted_32 rfl (lv_at hl 1 rfl) ?_
        refine ww_lneg (pc := 33) g.1 d_Mo_shifted_33 ?_
        refine ww_l2i (pc := 34) g.1 (v := (-l2).toInt32) d_Mo_shifted_34 rfl ?_
        refine ww_lushr (pc := 35) g.1 (v := lushr l0 ((-l2).toInt32)) d_Mo_shifted_35 rfl ?_
        exact ww_lretH (pc := 36) g h hR d_Mo_shifted_36
      · refine ww_lload_n (pc := 24) g.1 d_Mo_shifted_24 rfl (lv_at hl 0 rfl) ?_
        refine ww_lload_n (pc := 25) g.1 d_Mo_shifted_25 rfl (lv_at hl 1 rfl) ?_
        refine ww_l2i (pc := 26) g.1 (v := l2.toInt32) d_Mo_shifted_26 rfl ?_
        refine ww_lshl (pc := 27) g.1 (v := l0 <<< (l2.toInt32.toInt64 &&& 63)) d_Mo_shifted_27 rfl ?_
        refine ww_goto (pc := 28) (tgt := 36) g.1 d_Mo_shifted_28 (by decide) ?_
        exact ww_lretH (pc := 36) g h hR d_Mo_shifted_36
    · refine ww_lconst (pc := 16) g.1 (v := 0) d_Mo_shifted_16 (by decide) ?_
      exact ww_lretH (pc := 17) g h hR d_Mo_shifted_17


