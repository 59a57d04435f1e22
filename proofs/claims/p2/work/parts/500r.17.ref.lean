abbrev b_Mo_self : ByteArray := prog_14_method_114_code
def y_Mo_self : MethodName := ⟨R_Mo, "self", "(LLuaMachineModel$Thread_;IIILLuaMachineModel$Values;I)V"⟩
abbrev w_Mo_self : List Cond := .code y_Mo_self b_Mo_self 10 none :: wA
theorem k_Mo_self : Cond.code y_Mo_self b_Mo_self 10 none ∈ wA := kinm (show _ ∈ tables_1 from (List.mem_append_right _ (List.mem_append_right _ (List.mem_append_right _ (List.mem_append_right _ (List.mem_append_right _ (List.mem_append_right _ (List.mem_append_right _ (List.mem_append_right _ (List.mem_append_right _ (List.mem_append_right _ (List.mem_append_right _ (List.mem_append_right _ (List.mem_append_left _ (List.mem_of_getElem? (l := tables_1_13) (i := 166) (by decide +kernel)))))))))))))))) (by decide +kernel)
theorem d_Mo_self_0 : decode b_Mo_self 0 = .ok (.aload 5, 2) := by decide +kernel
theorem d_Mo_self_2 : decode b_Mo_self 2 = .ok (.getfield 585, 3) := by decide +kernel
theorem d_Mo_self_5 : decode b_Mo_self 5 = .ok (.aload_n 1, 1) := by decide +kernel
theorem d_Mo_self_6 : decode b_Mo_self 6 = .ok (.getfield 744, 3) := by decide +kernel
theorem d_Mo_self_9 : decode b_Mo_self 9 = .ok (.iload_n 2, 1) := by decide +kernel
theorem d_Mo_self_10 : decode b_Mo_self 10 = .ok (.iaload, 1) := by decide +kernel
theorem d_Mo_self_11 : decode b_Mo_self 11 = .ok (.iload 4, 2) := by decide +kernel
theorem d_Mo_self_13 : decode b_Mo_self 13 = .ok (.invokestatic 482, 3) := by decide +kernel
theorem d_Mo_self_16 : decode b_Mo_self 16 = .ok (.iadd, 1) := by decide +kernel
theorem d_Mo_self_17 : decode b_Mo_self 17 = .ok (.baload, 1) := by decide +kernel
theorem d_Mo_self_18 : decode b_Mo_self 18 = .ok (.istore 7, 2) := by decide +kernel
theorem d_Mo_self_20 : decode b_Mo_self 20 = .ok (.aload 5, 2) := by decide +kernel
theorem d_Mo_self_22 : decode b_Mo_self 22 = .ok (.getfield 588, 3) := by decide +kernel
theorem d_Mo_self_25 : decode b_Mo_self 25 = .ok (.aload_n 1, 1) := by decide +kernel
theorem d_Mo_self_26 : decode b_Mo_self 26 = .ok (.getfield 744, 3) := by decide +kernel
theorem d_Mo_self_29 : decode b_Mo_self 29 = .ok (.iload_n 2, 1) := by decide +kernel
theorem d_Mo_self_30 : decode b_Mo_self 30 = .ok (.iaload, 1) := by decide +kernel
theorem d_Mo_self_31 : decode b_Mo_self 31 = .ok (.iload 4, 2) := by decide +kernel
theorem d_Mo_self_33 : decode b_Mo_self 33 = .ok (.invokestatic 482, 3) := by decide +kernel
theorem d_Mo_self_36 : decode b_Mo_self 36 = .ok (.iadd, 1) := by decide +kernel
theorem d_Mo_self_37 : decode b_Mo_self 37 = .ok (.laload, 1) := by decide +kernel
theorem d_Mo_self_38 : decode b_Mo_self 38 = .ok (.lstore 8, 2) := by decide +kernel
theorem d_Mo_self_40 : decode b_Mo_self 40 = .ok (.aload 5, 2) := by decide +kernel
theorem d_Mo_self_42 : decode b_Mo_self 42 = .ok (.iload 6, 2) := by decide +kernel
theorem d_Mo_self_44 : decode b_Mo_self 44 = .ok (.iconst 1, 1) := by decide +kernel
theorem d_Mo_self_45 : decode b_Mo_self 45 = .ok (.iadd, 1) := by decide +kernel
theorem d_Mo_self_46 : decode b_Mo_self 46 = .ok (.iload 7, 2) := by decide +kernel
theorem d_Mo_self_48 : decode b_Mo_self 48 = .ok (.lload 8, 2) := by decide +kernel
theorem d_Mo_self_50 : decode b_Mo_self 50 = .ok (.invokevirtual 470, 3) := by decide +kernel
theorem d_Mo_self_53 : decode b_Mo_self 53 = .ok (.aload_n 0, 1) := by decide +kernel
theorem d_Mo_self_54 : decode b_Mo_self 54 = .ok (.aload_n 1, 1) := by decide +kernel
theorem d_Mo_self_55 : decode b_Mo_self 55 = .ok (.iload_n 2, 1) := by decide +kernel
theorem d_Mo_self_56 : decode b_Mo_self 56 = .ok (.iload_n 3, 1) := by decide +kernel
theorem d_Mo_self_57 : decode b_Mo_self 57 = .ok (.iload 4, 2) := by decide +kernel
theorem d_Mo_self_59 : decode b_Mo_self 59 = .ok (.invokestatic 479, 3) := by decide +kernel
theorem d_Mo_self_62 : decode b_Mo_self 62 = .ok (.invokevirtual 929, 3) := by decide +kernel
theorem d_Mo_self_65 : decode b_Mo_self 65 = .ok (.aload_n 0, 1) := by decide +kernel
theorem d_Mo_self_66 : decode b_Mo_self 66 = .ok (.iload 7, 2) := by decide +kernel
theorem d_Mo_self_68 : decode b_Mo_self 68 = .ok (.lload 8, 2) := by decide +kernel
theorem d_Mo_self_70 : decode b_Mo_self 70 = .ok (.aload_n 0, 1) := by decide +kernel
theorem d_Mo_self_71 : decode b_Mo_self 71 = .ok (.getfield 437, 3) := by decide +kernel
theorem d_Mo_self_74 : decode b_Mo_self 74 = .ok (.aload_n 0, 1) := by decide +kernel
theorem d_Mo_self_75 : decode b_Mo_self 75 = .ok (.getfield 440, 3) := by decide +kernel
theorem d_Mo_self_78 : decode b_Mo_self 78 = .ok (.iload 4, 2) := by decide +kernel
theorem d_Mo_self_80 : decode b_Mo_self 80 = .ok (.invokestatic 495, 3) := by decide +kernel
theorem d_Mo_self_83 : decode b_Mo_self 83 = .ok (.invokevirtual 932, 3) := by decide +kernel
theorem d_Mo_self_86 : decode b_Mo_self 86 = .ok (.return_, 1) := by decide +kernel
theorem kw_419 : Cond.methodLink R_Mo 929 y_Mo_rk_ ∈ wA := kinm (show _ ∈ tables_1 from (List.mem_append_right _ (List.mem_append_right _ (List.mem_append_right _ (List.mem_append_right _ (List.mem_append_right _ (List.mem_append_right _ (List.mem_append_right _ (List.mem_append_right _ (List.mem_append_right _ (List.mem_append_right _ (List.mem_append_right _ (List.mem_append_right _ (List.mem_append_left _ (List.mem_of_getElem? (l := tables_1_13) (i := 143) (by decide +kernel)))))))))))))))) (by decide +kernel)
theorem kw_420 : Cond.methodLink R_Mo 932 y_Mo_index ∈ wA := kinm (show _ ∈ tables_1 from (List.mem_append_right _ (List.mem_append_right _ (List.mem_append_right _ (List.mem_append_right _ (List.mem_append_right _ (List.mem_append_right _ (List.mem_append_right _ (List.mem_append_right _ (List.mem_append_right _ (List.mem_append_right _ (List.mem_append_right _ (List.mem_append_right _ (List.mem_append_left _ (List.mem_of_getElem? (l := tables_1_13) (i := 147) (by decide +kernel)))))))))))))))) (by decide +kernel)
theorem kw_421 : Cond.instanceMethod y_Mo_self ∈ wA := kinm (show _ ∈ tables_1 from (List.mem_append_right _ (List.mem_append_right _ (List.mem_append_right _ (List.mem_append_right _ (List.mem_append_right _ (List.mem_append_right _ (List.mem_append_right _ (List.mem_append_right _ (List.mem_append_right _ (List.mem_append_right _ (List.mem_append_right _ (List.mem_append_right _ (List.mem_append_left _ (List.mem_of_getElem? (l := tables_1_13) (i := 165) (by decide +kernel)))))))))))))))) (by decide +kernel)
theorem kw_422 : Cond.selects R_Mo y_Mo_self y_Mo_self ∈ wA := kinp 212 (by decide +kernel) (by decide +kernel)
theorem cv_Mo_self : CV y_Mo_self b_Mo_self 10 none 6 := ⟨kw_421, kw_422, kw_17, k_Mo_self, by decide +kernel⟩
theorem ct_Mo_self {l : Launch} {P : PP} {q : PL} {s s' : S1} {l1 : Int32} {l2 : Int32} {l3 : Int32} {l4 : Int32} {l5r : Nat} {l5 : Int32} {l6 : Int32} (hp0 : 0 ≤ l1 ∧ l1 < 33) (hp1 : VOK l5r l5) {r : Unit} (h : M_Mo_self l1 l2 l3 l4 l5r l5 l6 s = some (r, s')) : Ct l y_Mo_self b_Mo_self 10 none 6 159 P q s [.ref (q.1 0 0), .ref (q.1 28 l1), .int l2, .int l3, .int l4, .ref (q.1 l5r l5), .int l6] none q s' := by
  refine ct_of (by decide) (Nat.le_of_ble_eq_true rfl) fun X ls eP el g hR hl => ?_
  subst eP
  have hR : Rt X q ((r, s') : Unit × S1).2 none := hR
  have hl : lv_has ls 10 [(0, .ref (q.1 0 0)), (1, .ref (q.1 28 l1)), (2, .int l2), (3, .int l3), (4, .int l4), (5, .ref (q.1 l5r l5)), (6, .int l6)] := hl
  generalize (r, s') = o at h hR
  unfold M_Mo_self at h
  refine ww_aload (pc := 0) g.1 d_Mo_self_0 (lv_at hl 5 rfl) ?_
  refine ww_gR (pc := 2) g (k := 0) (cl_Va hp1) (vok_p hp1).1 (by rw [(vok_f hp1).1.2.2]; decide) (Or.inl kw_90) (f := (128 * l5r + 0)) (t := l5r + 1) rfl (vok_f hp1).2.1.1 (vok_f hp1).2.1.2 d_Mo_self_2 ?_
  refine ww_aload_n (pc := 5) g.1 d_Mo_self_5 rfl (lv_at hl 1 rfl) ?_
  refine ww_gR (pc := 6) g (k := 14) cl_Th (pt rfl rfl hp0) (by decide) (Or.inl kw_254) (f := 3598) (t := 33) rfl rfl rfl d_Mo_self_6 ?_
  refine ww_iload_n (pc := 9) g.1 d_Mo_self_9 rfl (lv_at hl 2 rfl) ?_
  refine ww_ai (pc := 10) g (pt rfl rfl hp0) rfl rfl d_Mo_self_10 h fun v10 h => ?_
  refine ww_iload (pc := 11) g.1 d_Mo_self_11 (lv_at hl 4 rfl) ?_
  obtain ⟨v13, s, hc13, h⟩ := oB_of h
  refine ww_callS (pc := 13) (rest := [.int v10, .ref (q.1 (l5r + 1) l5)]) g cs_Mo_b (Or.inl kw_54) (ct_Mo_b hc13) ⟨by decide, by decide⟩ rfl hl.1 (Nat.le_of_ble_eq_true rfl) d_Mo_self_13 rfl ?_
  refine ww_st (st' := [.int v13, .int v10, .ref (q.1 (l5r + 1) l5)]) rfl ?_
  refine ww_iadd (pc := 16) g.1 d_Mo_self_16 ?_
  refine ww_ab (pc := 17) g (vok_p hp1).2.1 (vok_f hp1).2.2.2.2.1 (vok_n hp1).1 d_Mo_self_17 h fun v17 h => ?_
  refine ww_istore (pc := 18) (i := 7) g.1 (lv' := [(7, .int v17), (0, .ref (q.1 0 0)), (1, .ref (q.1 28 l1)), (2, .int l2), (3, .int l3), (4, .int l4), (5, .ref (q.1 l5r l5)), (6, .int l6)]) d_Mo_self_18 hl (by decide) rfl fun ls hl => ?_
  refine ww_aload (pc := 20) g.1 d_Mo_self_20 (lv_at hl 6 rfl) ?_
  refine ww_gR (pc := 22) g (k := 1) (cl_Va hp1) (vok_p hp1).1 (by rw [(vok_f hp1).1.2.2]; decide) (Or.inl kw_93) (f := (128 * l5r + 1)) (t := l5r + 2) rfl (vok_f hp1).2.2.1.1 (vok_f hp1).2.2.1.2 d_Mo_self_22 ?_
  refine ww_aload_n (pc := 25) g.1 d_Mo_self_25 rfl (lv_at hl 2 rfl) ?_
  refine ww_gR (pc := 26) g (k := 14) cl_Th (pt rfl rfl hp0) (by decide) (Or.inl kw_254) (f := 3598) (t := 33) rfl rfl rfl d_Mo_self_26 ?_
  refine ww_iload_n (pc := 29) g.1 d_Mo_self_29 rfl (lv_at hl 3 rfl) ?_
  refine ww_ai (pc := 30) g (pt rfl rfl hp0) rfl rfl d_Mo_self_30 h fun v30 h => ?_
  refine ww_iload (pc := 31) g.1 d_Mo_self_31 (lv_at hl 5 rfl) ?_
  obtain ⟨v33, s, hc33, h⟩ := oB_of h
  refine ww_callS (pc := 33) (rest := [.int v30, .ref (q.1 (l5r + 2) l5)]) g cs_Mo_b (Or.inl kw_54) (ct_Mo_b hc33) ⟨by decide, by decide⟩ rfl hl.1 (Nat.le_of_ble_eq_true rfl) d_Mo_self_33 rfl ?_
  refine ww_st (st' := [.int v33, .int v30, .ref (q.1 (l5r + 2) l5)]) rfl ?_
  refine ww_iadd (pc := 36) g.1 d_Mo_self_36 ?_
  refine ww_al (pc := 37) g (vok_p hp1).2.2 (vok_f hp1).2.2.2.2.2 (vok_n hp1).2 d_Mo_self_37 h fun v37 h => ?_
  refine ww_lstore (pc := 38) (i := 8) g.1 (lv' := [(8, .long v37), (7, .int v17), (0, .ref (q.1 0 0)), (1, .ref (q.1 28 l1)), (2, .int l2), (3, .int l3), (4, .int l4), (5, .ref (q.1 l5r l5)), (6, .int l6)]) d_Mo_self_38 hl (by decide) rfl fun ls hl => ?_
  refine ww_aload (pc := 40) g.1 d_Mo_self_40 (lv_at hl 7 rfl) ?_
  refine ww_iload (pc := 42) g.1 d_Mo_self_42 (lv_at hl 8 rfl) ?_
  refine ww_iconst (pc := 44) g.1 (v := 1) d_Mo_self_44 (by decide) ?_
  refine ww_iadd (pc := 45) g.1 d_Mo_self_45 ?_
  refine ww_iload (pc := 46) g.1 d_Mo_self_46 (lv_at hl 1 rfl) ?_
  refine ww_lload (pc := 48) g.1 d_Mo_self_48 (lv_at hl 0 rfl) ?_
  obtain ⟨v50, s, hc50, h⟩ := oB_of h
  refine ww_callV (pc := 50) (rest := []) g cv_Va_set (Or.inl kw_99) (cl_Va hp1) (vok_p hp1).1 (ct_Va_set hp1 hc50) ⟨by decide, by decide⟩ rfl hl.1 (Nat.le_of_ble_eq_true rfl) d_Mo_self_50 rfl ?_
  refine ww_st (st' := []) rfl ?_
  refine ww_aload_n (pc := 53) g.1 d_Mo_self_53 rfl (lv_at hl 2 rfl) ?_
  refine ww_aload_n (pc := 54) g.1 d_Mo_self_54 rfl (lv_at hl 3 rfl) ?_
  refine ww_iload_n (pc := 55) g.1 d_Mo_self_55 rfl (lv_at hl 4 rfl) ?_
  refine ww_iload_n (pc := 56) g.1 d_Mo_self_56 rfl (lv_at hl 5 rfl) ?_
  refine ww_iload (pc := 57) g.1 d_Mo_self_57 (lv_at hl 6 rfl) ?_
  obtain ⟨v59, s, hc59, h⟩ := oB_of h
  refine ww_callS (pc := 59) (rest := [.int l3, .int l2, .ref (q.1 28 l1), .ref (q.1 0 0)]) g cs_Mo_c (Or.inl kw_311) (ct_Mo_c hc59) ⟨by decide, by decide⟩ rfl hl.1 (Nat.le_of_ble_eq_true rfl) d_Mo_self_59 rfl ?_
  refine ww_st (st' := [.int v59, .int l3, .int l2, .ref (q.1 28 l1), .ref (q.1 0 0)]) rfl ?_
  obtain ⟨v62, s, hc62, h⟩ := oB_of h
  refine ww_callV (pc := 62) (rest := []) g cv_Mo_rk_ (Or.inl kw_419) cl_Mo (pz rfl (by decide)) (ct_Mo_rk_ hp0 hc62) ⟨by decide, by decide⟩ rfl hl.1 (Nat.le_of_ble_eq_true rfl) d_Mo_self_62 rfl ?_
  refine ww_st (st' := []) rfl ?_
  refine ww_aload_n (pc := 65) g.1 d_Mo_self_65 rfl (lv_at hl 2 rfl) ?_
  refine ww_iload (pc := 66) g.1 d_Mo_self_66 (lv_at hl 1 rfl) ?_
  refine ww_lload (pc := 68) g.1 d_Mo_self_68 (lv_at hl 0 rfl) ?_
  refine ww_aload_n (pc := 70) g.1 d_Mo_self_70 rfl (lv_at hl 2 rfl) ?_
  refine ww_gI (pc := 71) g (k := 98) cl_Mo (pz rfl (by decide)) (by decide) (Or.inl kw_248) (f := 98) rfl rfl d_Mo_self_71 h fun v71 h => ?_
  refine ww_aload_n (pc := 74) g.1 d_Mo_self_74 rfl (lv_at hl 2 rfl) ?_
  refine ww_gL (pc := 75) g (k := 99) cl_Mo (pz rfl (by decide)) (by decide) (Or.inl kw_249) (f := 99) rfl rfl d_Mo_self_75 h fun v75 h => ?_
  refine ww_iload (pc := 78) g.1 d_Mo_self_78 (lv_at hl 6 rfl) ?_
  obtain ⟨v80, s, hc80, h⟩ := oB_of h
  refine ww_callS (pc := 80) (rest := [.long v75, .int v71, .long v37, .int v17, .ref (q.1 0 0)]) g cs_Mo_a (Or.inl kw_280) (ct_Mo_a hc80) ⟨by decide, by decide⟩ rfl hl.1 (Nat.le_of_ble_eq_true rfl) d_Mo_self_80 rfl ?_
  refine ww_st (st' := [.int v80, .long v75, .int v71, .long v37, .int v17, .ref (q.1 0 0)]) rfl ?_
  obtain ⟨v83, s, hc83, h⟩ := oB_of h
  refine ww_callV (pc := 83) (rest := []) g cv_Mo_index (Or.inl kw_420) cl_Mo (pz rfl (by decide)) (ct_Mo_index hc83) ⟨by decide, by decide⟩ rfl hl.1 (Nat.le_of_ble_eq_true rfl) d_Mo_self_83 rfl ?_
  refine ww_st (st' := []) rfl ?_
  exact ww_vretH (pc := 86) g h hR d_Mo_self_86

abbrev b_Mo_arithmetic : ByteArray := prog_14_method_119_code
def y_Mo_arithmetic : MethodName := ⟨R_Mo, "arithmetic", "(LLuaMachineModel$Thread_;IIIILLuaMachineModel$Values;I)V"⟩
abbrev w_Mo_arithmetic : List Cond := .code y_Mo_arithmetic b_Mo_arithmetic 14 none :: wA
set_option maxRecDepth 20000 in
theorem k_Mo_arithmetic : Cond.code y_Mo_arithmetic b_Mo_arithmetic 14 none ∈ wA := kinm (show _ ∈ tables_1 from (List.mem_append_right _ (List.mem_append_right _ (List.mem_append_right _ (List.mem_append_right _ (List.mem_append_right _ (List.mem_append_right _ (List.mem_append_right _ (List.mem_append_right _ (List.mem_append_right _ (List.mem_append_right _ (List.mem_append_right _ (List.mem_append_right _ (List.mem_append_left _ (List.mem_of_getElem? (l := tables_1_13) (i := 170) rfl))))))))))))))) rfl
theorem d_Mo_arithmetic_0 : decode b_Mo_arithmetic 0 = .ok (.iload 5, 2) := by decide +kernel
theorem d_Mo_arithmetic_2 : decode b_Mo_arithmetic 2 = .ok (.bipush 24, 2) := by decide +kernel
theorem d_Mo_arithmetic_4 : decode b_Mo_arithmetic 4 = .ok (.if_icmp .le 54, 3) := by decide +kernel
theorem d_Mo_arithmetic_7 : decode b_Mo_arithmetic 7 = .ok (.aload 6, 2) := by decide +kernel
theorem d_Mo_arithmetic_9 : decode b_Mo_arithmetic 9 = .ok (.getfield 585, 3) := by decide +kernel
theorem d_Mo_arithmetic_12 : decode b_Mo_arithmetic 12 = .ok (.aload_n 1, 1) := by decide +kernel
theorem d_Mo_arithmetic_13 : decode b_Mo_arithmetic 13 = .ok (.getfield 744, 3) := by decide +kernel
theorem d_Mo_arithmetic_16 : decode b_Mo_arithmetic 16 = .ok (.iload_n 2, 1) := by decide +kernel
theorem d_Mo_arithmetic_17 : decode b_Mo_arithmetic 17 = .ok (.iaload, 1) := by decide +kernel
theorem d_Mo_arithmetic_18 : decode b_Mo_arithmetic 18 = .ok (.iload 4, 2) := by decide +kernel
theorem d_Mo_arithmetic_20 : decode b_Mo_arithmetic 20 = .ok (.invokestatic 482, 3) := by decide +kernel
theorem d_Mo_arithmetic_23 : decode b_Mo_arithmetic 23 = .ok (.iadd, 1) := by decide +kernel
theorem d_Mo_arithmetic_24 : decode b_Mo_arithmetic 24 = .ok (.baload, 1) := by decide +kernel
theorem d_Mo_arithmetic_25 : decode b_Mo_arithmetic 25 = .ok (.istore 8, 2) := by decide +kernel
theorem d_Mo_arithmetic_27 : decode b_Mo_arithmetic 27 = .ok (.aload 6, 2) := by decide +kernel
theorem d_Mo_arithmetic_29 : decode b_Mo_arithmetic 29 = .ok (.getfield 588, 3) := by decide +kernel
theorem d_Mo_arithmetic_32 : decode b_Mo_arithmetic 32 = .ok (.aload_n 1, 1) := by decide +kernel
theorem d_Mo_arithmetic_33 : decode b_Mo_arithmetic 33 = .ok (.getfield 744, 3) := by decide +kernel
theorem d_Mo_arithmetic_36 : decode b_Mo_arithmetic 36 = .ok (.iload_n 2, 1) := by decide +kernel
theorem d_Mo_arithmetic_37 : decode b_Mo_arithmetic 37 = .ok (.iaload, 1) := by decide +kernel
theorem d_Mo_arithmetic_38 : decode b_Mo_arithmetic 38 = .ok (.iload 4, 2) := by decide +kernel
theorem d_Mo_arithmetic_40 : decode b_Mo_arithmetic 40 = .ok (.invokestatic 482, 3) := by decide +kernel
theorem d_Mo_arithmetic_43 : decode b_Mo_arithmetic 43 = .ok (.iadd, 1) := by decide +kernel
theorem d_Mo_arithmetic_44 : decode b_Mo_arithmetic 44 = .ok (.laload, 1) := by decide +kernel
theorem d_Mo_arithmetic_45 : decode b_Mo_arithmetic 45 = .ok (.lstore 9, 2) := by decide +kernel
theorem d_Mo_arithmetic_47 : decode b_Mo_arithmetic 47 = .ok (.iload 8, 2) := by decide +kernel
theorem d_Mo_arithmetic_49 : decode b_Mo_arithmetic 49 = .ok (.istore 11, 2) := by decide +kernel
theorem d_Mo_arithmetic_51 : decode b_Mo_arithmetic 51 = .ok (.lload 9, 2) := by decide +kernel
theorem d_Mo_arithmetic_53 : decode b_Mo_arithmetic 53 = .ok (.lstore 12, 2) := by decide +kernel
theorem d_Mo_arithmetic_55 : decode b_Mo_arithmetic 55 = .ok (.goto 51, 3) := by decide +kernel
theorem d_Mo_arithmetic_58 : decode b_Mo_arithmetic 58 = .ok (.aload_n 0, 1) := by decide +kernel
theorem d_Mo_arithmetic_59 : decode b_Mo_arithmetic 59 = .ok (.aload_n 1, 1) := by decide +kernel
theorem d_Mo_arithmetic_60 : decode b_Mo_arithmetic 60 = .ok (.iload_n 2, 1) := by decide +kernel
theorem d_Mo_arithmetic_61 : decode b_Mo_arithmetic 61 = .ok (.iload_n 3, 1) := by decide +kernel
theorem d_Mo_arithmetic_62 : decode b_Mo_arithmetic 62 = .ok (.iload 4, 2) := by decide +kernel
theorem d_Mo_arithmetic_64 : decode b_Mo_arithmetic 64 = .ok (.invokestatic 482, 3) := by decide +kernel
theorem d_Mo_arithmetic_67 : decode b_Mo_arithmetic 67 = .ok (.invokevirtual 929, 3) := by decide +kernel
theorem d_Mo_arithmetic_70 : decode b_Mo_arithmetic 70 = .ok (.aload_n 0, 1) := by decide +kernel
theorem d_Mo_arithmetic_71 : decode b_Mo_arithmetic 71 = .ok (.getfield 437, 3) := by decide +kernel
theorem d_Mo_arithmetic_74 : decode b_Mo_arithmetic 74 = .ok (.istore 8, 2) := by decide +kernel
theorem d_Mo_arithmetic_76 : decode b_Mo_arithmetic 76 = .ok (.aload_n 0, 1) := by decide +kernel
theorem d_Mo_arithmetic_77 : decode b_Mo_arithmetic 77 = .ok (.getfield 440, 3) := by decide +kernel
theorem d_Mo_arithmetic_80 : decode b_Mo_arithmetic 80 = .ok (.lstore 9, 2) := by decide +kernel
theorem d_Mo_arithmetic_82 : decode b_Mo_arithmetic 82 = .ok (.aload_n 0, 1) := by decide +kernel
theorem d_Mo_arithmetic_83 : decode b_Mo_arithmetic 83 = .ok (.aload_n 1, 1) := by decide +kernel
theorem d_Mo_arithmetic_84 : decode b_Mo_arithmetic 84 = .ok (.iload_n 2, 1) := by decide +kernel
theorem d_Mo_arithmetic_85 : decode b_Mo_arithmetic 85 = .ok (.iload_n 3, 1) := by decide +kernel
theorem d_Mo_arithmetic_86 : decode b_Mo_arithmetic 86 = .ok (.iload 4, 2) := by decide +kernel
theorem d_Mo_arithmetic_88 : decode b_Mo_arithmetic 88 = .ok (.invokestatic 479, 3) := by decide +kernel
theorem d_Mo_arithmetic_91 : decode b_Mo_arithmetic 91 = .ok (.invokevirtual 929, 3) := by decide +kernel
theorem d_Mo_arithmetic_94 : decode b_Mo_arithmetic 94 = .ok (.aload_n 0, 1) := by decide +kernel
theorem d_Mo_arithmetic_95 : decode b_Mo_arithmetic 95 = .ok (.getfield 437, 3) := by decide +kernel
theorem d_Mo_arithmetic_98 : decode b_Mo_arithmetic 98 = .ok (.istore 11, 2) := by decide +kernel
theorem d_Mo_arithmetic_100 : decode b_Mo_arithmetic 100 = .ok (.aload_n 0, 1) := by decide +kernel
theorem d_Mo_arithmetic_101 : decode b_Mo_arithmetic 101 = .ok (.getfield 440, 3) := by decide +kernel
theorem d_Mo_arithmetic_104 : decode b_Mo_arithmetic 104 = .ok (.lstore 12, 2) := by decide +kernel
theorem d_Mo_arithmetic_106 : decode b_Mo_arithmetic 106 = .ok (.iload 8, 2) := by decide +kernel
theorem d_Mo_arithmetic_108 : decode b_Mo_arithmetic 108 = .ok (.iconst 3, 1) := by decide +kernel
theorem d_Mo_arithmetic_109 : decode b_Mo_arithmetic 109 = .ok (.if_icmp .ne 9, 3) := by decide +kernel
theorem d_Mo_arithmetic_112 : decode b_Mo_arithmetic 112 = .ok (.iload 11, 2) := by decide +kernel
theorem d_Mo_arithmetic_114 : decode b_Mo_arithmetic 114 = .ok (.iconst 3, 1) := by decide +kernel
theorem d_Mo_arithmetic_115 : decode b_Mo_arithmetic 115 = .ok (.if_icmp .eq 43, 3) := by decide +kernel
theorem d_Mo_arithmetic_118 : decode b_Mo_arithmetic 118 = .ok (.aload_n 0, 1) := by decide +kernel
theorem d_Mo_arithmetic_119 : decode b_Mo_arithmetic 119 = .ok (.iconst 1, 1) := by decide +kernel
theorem d_Mo_arithmetic_120 : decode b_Mo_arithmetic 120 = .ok (.iload 4, 2) := by decide +kernel
theorem d_Mo_arithmetic_122 : decode b_Mo_arithmetic 122 = .ok (.invokestatic 495, 3) := by decide +kernel
theorem d_Mo_arithmetic_125 : decode b_Mo_arithmetic 125 = .ok (.iconst 1, 1) := by decide +kernel
theorem d_Mo_arithmetic_126 : decode b_Mo_arithmetic 126 = .ok (.invokevirtual 947, 3) := by decide +kernel
theorem d_Mo_arithmetic_129 : decode b_Mo_arithmetic 129 = .ok (.aload_n 0, 1) := by decide +kernel
theorem d_Mo_arithmetic_130 : decode b_Mo_arithmetic 130 = .ok (.iload 5, 2) := by decide +kernel
theorem d_Mo_arithmetic_132 : decode b_Mo_arithmetic 132 = .ok (.invokestatic 953, 3) := by decide +kernel
theorem d_Mo_arithmetic_135 : decode b_Mo_arithmetic 135 = .ok (.iload 8, 2) := by decide +kernel
theorem d_Mo_arithmetic_137 : decode b_Mo_arithmetic 137 = .ok (.lload 9, 2) := by decide +kernel
theorem d_Mo_arithmetic_139 : decode b_Mo_arithmetic 139 = .ok (.iload 11, 2) := by decide +kernel
theorem d_Mo_arithmetic_141 : decode b_Mo_arithmetic 141 = .ok (.lload 12, 2) := by decide +kernel
theorem d_Mo_arithmetic_143 : decode b_Mo_arithmetic 143 = .ok (.invokevirtual 956, 3) := by decide +kernel
theorem d_Mo_arithmetic_146 : decode b_Mo_arithmetic 146 = .ok (.ifCond .ne 59, 3) := by decide +kernel
theorem d_Mo_arithmetic_149 : decode b_Mo_arithmetic 149 = .ok (.aload_n 0, 1) := by decide +kernel
theorem d_Mo_arithmetic_150 : decode b_Mo_arithmetic 150 = .ok (.iconst 3, 1) := by decide +kernel
theorem d_Mo_arithmetic_151 : decode b_Mo_arithmetic 151 = .ok (.invokevirtual 517, 3) := by decide +kernel
theorem d_Mo_arithmetic_154 : decode b_Mo_arithmetic 154 = .ok (.pop, 1) := by decide +kernel
theorem d_Mo_arithmetic_155 : decode b_Mo_arithmetic 155 = .ok (.goto 50, 3) := by decide +kernel
theorem d_Mo_arithmetic_158 : decode b_Mo_arithmetic 158 = .ok (.iload 5, 2) := by decide +kernel
theorem d_Mo_arithmetic_160 : decode b_Mo_arithmetic 160 = .ok (.bipush 16, 2) := by decide +kernel
theorem d_Mo_arithmetic_162 : decode b_Mo_arithmetic 162 = .ok (.if_icmp .eq 10, 3) := by decide +kernel
theorem d_Mo_arithmetic_165 : decode b_Mo_arithmetic 165 = .ok (.iload 5, 2) := by decide +kernel
theorem d_Mo_arithmetic_167 : decode b_Mo_arithmetic 167 = .ok (.bipush 19, 2) := by decide +kernel
theorem d_Mo_arithmetic_169 : decode b_Mo_arithmetic 169 = .ok (.if_icmp .ne 19, 3) := by decide +kernel
theorem d_Mo_arithmetic_172 : decode b_Mo_arithmetic 172 = .ok (.lload 12, 2) := by decide +kernel
theorem d_Mo_arithmetic_174 : decode b_Mo_arithmetic 174 = .ok (.lconst 0, 1) := by decide +kernel
theorem d_Mo_arithmetic_175 : decode b_Mo_arithmetic 175 = .ok (.lcmp, 1) := by decide +kernel
theorem d_Mo_arithmetic_176 : decode b_Mo_arithmetic 176 = .ok (.ifCond .ne 12, 3) := by decide +kernel
theorem d_Mo_arithmetic_179 : decode b_Mo_arithmetic 179 = .ok (.aload_n 0, 1) := by decide +kernel
theorem d_Mo_arithmetic_180 : decode b_Mo_arithmetic 180 = .ok (.iconst 5, 1) := by decide +kernel
theorem d_Mo_arithmetic_181 : decode b_Mo_arithmetic 181 = .ok (.invokevirtual 517, 3) := by decide +kernel
theorem d_Mo_arithmetic_184 : decode b_Mo_arithmetic 184 = .ok (.pop, 1) := by decide +kernel
theorem d_Mo_arithmetic_185 : decode b_Mo_arithmetic 185 = .ok (.goto 20, 3) := by decide +kernel
theorem d_Mo_arithmetic_188 : decode b_Mo_arithmetic 188 = .ok (.aload 6, 2) := by decide +kernel
theorem d_Mo_arithmetic_190 : decode b_Mo_arithmetic 190 = .ok (.iload 7, 2) := by decide +kernel
theorem d_Mo_arithmetic_192 : decode b_Mo_arithmetic 192 = .ok (.iconst 3, 1) := by decide +kernel
theorem d_Mo_arithmetic_193 : decode b_Mo_arithmetic 193 = .ok (.iload 5, 2) := by decide +kernel
theorem d_Mo_arithmetic_195 : decode b_Mo_arithmetic 195 = .ok (.lload 9, 2) := by decide +kernel
theorem d_Mo_arithmetic_197 : decode b_Mo_arithmetic 197 = .ok (.lload 12, 2) := by decide +kernel
theorem d_Mo_arithmetic_199 : decode b_Mo_arithmetic 199 = .ok (.invokestatic 959, 3) := by decide +kernel
theorem d_Mo_arithmetic_202 : decode b_Mo_arithmetic 202 = .ok (.invokevirtual 470, 3) := by decide +kernel
theorem d_Mo_arithmetic_205 : decode b_Mo_arithmetic 205 = .ok (.return_, 1) := by decide +kernel
theorem kw_423 : Cond.methodLink R_Mo 953 y_Mo_eventOf ∈ wA := kinm (show _ ∈ tables_1 from (List.mem_append_right _ (List.mem_append_right _ (List.mem_append_right _ (List.mem_append_right _ (List.mem_append_right _ (List.mem_append_right _ (List.mem_append_right _ (List.mem_append_right _ (List.mem_append_right _ (List.mem_append_right _ (List.mem_append_right _ (List.mem_append_right _ (List.mem_append_left _ (List.mem_of_getElem? (l := tables_1_13) (i := 171) (by decide +kernel)))))))))))))))) (by decide +kernel)
theorem kw_424 : Cond.methodLink R_Mo 956 y_Mo_either ∈ wA := kinm (show _ ∈ tables_1 from (List.mem_append_right _ (List.mem_append_right _ (List.mem_append_right _ (List.mem_append_right _ (List.mem_append_right _ (List.mem_append_right _ (List.mem_append_right _ (List.mem_append_right _ (List.mem_append_right _ (List.mem_append_right _ (List.mem_append_right _ (List.mem_append_right _ (List.mem_append_left _ (List.mem_of_getElem? (l := tables_1_13) (i := 103) (by decide +kernel)))))))))))))))) (by decide +kernel)
theorem kw_425 : Cond.methodLink R_Mo 959 y_Mo_reckon ∈ wA := kinm (show _ ∈ tables_1 from (List.mem_append_right _ (List.mem_append_right _ (List.mem_append_right _ (List.mem_append_right _ (List.mem_append_right _ (List.mem_append_right _ (List.mem_append_right _ (List.mem_append_right _ (List.mem_append_right _ (List.mem_append_right _ (List.mem_append_right _ (List.mem_append_right _ (List.mem_append_left _ (List.mem_of_getElem? (l := tables_1_13) (i := 174) (by decide +kernel)))))))))))))))) (by decide +kernel)
theorem kw_426 : Cond.instanceMethod y_Mo_arithmetic ∈ wA := kinm (show _ ∈ tables_1 from (List.mem_append_right _ (List.mem_append_right _ (List.mem_append_right _ (List.mem_append_right _ (List.mem_append_right _ (List.mem_append_right _ (List.mem_append_right _ (List.mem_append_right _ (List.mem_append_right _ (List.mem_append_right _ (List.mem_append_right _ (List.mem_append_right _ (List.mem_append_left _ (List.mem_of_getElem? (l := tables_1_13) (i := 169) (by decide +kernel)))))))))))))))) (by decide +kernel)
theorem kw_427 : Cond.selects R_Mo y_Mo_arithmetic y_Mo_arithmetic ∈ wA := kinp 213 (by decide +kernel) (by decide +kernel)
theorem cv_Mo_arithmetic : CV y_Mo_arithmetic b_Mo_arithmetic 14 none 7 := ⟨kw_426, kw_427, kw_17, k_Mo_arithmetic, by decide +kernel⟩
theorem j_Mo_arithmetic_j118 {X : Cx} {q : PL} (g : Gd X y_Mo_arithmetic b_Mo_arithmetic 14 none 6 153 R_Mo) {o : (Unit) × S1} (hR : Rt X q o.2 none) (l4 : Int32) (l5 : Int32) (l8 : Int32) (l9 : Int64) (l11 : Int32) (l12 : Int64) (s : S1) (ls : Array Slot) (hl : lv_has ls 14 [(0, .ref (q.1 0 0)), (4, .int l4), (5, .int l5), (8, .int l8), (9, .long l9), (11, .int l11), (12, .long l12)]) (h : M_Mo_arithmetic_j118 l4 l5 l8 l9 l11 l12 s = some o) : WW X q s 118 ls [] := by
  unfold M_Mo_arithmetic_j118 at h
  refine ww_aload_n (pc := 118) g.1 d_Mo_arithmetic_118 rfl (lv_at hl 0 rfl) ?_
  refine ww_iconst (pc := 119) g.1 (v := 1) d_Mo_arithmetic_119 (by decide) ?_
  refine ww_iload (pc := 120) g.1 d_Mo_arithmetic_120 (lv_at hl 1 rfl) ?_
  obtain ⟨v122, s, hc122, h⟩ := oB_of h
  refine ww_callS (pc := 122) (rest := [.int 1, .ref (q.1 0 0)]) g cs_Mo_a (Or.inl kw_280) (ct_Mo_a hc122) ⟨by decide, by decide⟩ rfl hl.1 (Nat.le_of_ble_eq_true rfl) d_Mo_arithmetic_122 rfl ?_
  refine ww_st (st' := [.int v122, .int 1, .ref (q.1 0 0)]) rfl ?_
  refine ww_iconst (pc := 125) g.1 (v := 1) d_Mo_arithmetic_125 (by decide) ?_
  obtain ⟨v126, s, hc126, h⟩ := oB_of h
  refine ww_callV (pc := 126) (rest := []) g cv_Mo_expect (Or.inl kw_415) cl_Mo (pz rfl (by decide)) (ct_Mo_expect hc126) ⟨by decide, by decide⟩ rfl hl.1 (Nat.le_of_ble_eq_true rfl) d_Mo_arithmetic_126 rfl ?_
  refine ww_st (st' := []) rfl ?_
  refine ww_aload_n (pc := 129) g.1 d_Mo_arithmetic_129 rfl (lv_at hl 0 rfl) ?_
  refine ww_iload (pc := 130) g.1 d_Mo_arithmetic_130 (lv_at hl 2 rfl) ?_
  obtain ⟨v132, s, hc132, h⟩ := oB_of h
  refine ww_callS (pc := 132) (rest := [.ref (q.1 0 0)]) g cs_Mo_eventOf (Or.inl kw_423) (ct_Mo_eventOf hc132) ⟨by decide, by decide⟩ rfl hl.1 (Nat.le_of_ble_eq_true rfl) d_Mo_arithmetic_132 rfl ?_
  refine ww_st (st' := [.int v132, .ref (q.1 0 0)]) rfl ?_
  refine ww_iload (pc := 135) g.1 d_Mo_arithmetic_135 (lv_at hl 3 rfl) ?_
  refine ww_lload (pc := 137) g.1 d_Mo_arithmetic_137 (lv_at hl 4 rfl) ?_
  refine ww_iload (pc := 139) g.1 d_Mo_arithmetic_139 (lv_at hl 5 rfl) ?_
  refine ww_lload (pc := 141) g.1 d_Mo_arithmetic_141 (lv_at hl 6 rfl) ?_
  obtain ⟨v143, s, hc143, h⟩ := oB_of h
  refine ww_callV (pc := 143) (rest := []) g cv_Mo_either (Or.inl kw_424) cl_Mo (pz rfl (by decide)) (ct_Mo_either hc143) ⟨by decide, by decide⟩ rfl hl.1 (Nat.le_of_ble_eq_true rfl) d_Mo_arithmetic_143 rfl ?_
  refine ww_st (st' := [.int v143]) rfl ?_
  refine ww_if_ne (pc := 146) (tgt := 205) g.1 d_Mo_arithmetic_146 (by decide) h (fun c h => ?_) (fun c h => ?_)
  · exact ww_vretH (pc := 205) g h hR d_Mo_arithmetic_205
  · refine ww_aload_n (pc := 149) g.1 d_Mo_arithmetic_149 rfl (lv_at hl 0 rfl) ?_
    refine ww_iconst (pc := 150) g.1 (v := 3) d_Mo_arithmetic_150 (by decide) ?_
    obtain ⟨v151, s, hc151, h⟩ := oB_of h
    refine ww_callV (pc := 151) (rest := []) g cv_Mo_raise (Or.inl kw_157) cl_Mo (pz rfl (by decide)) (ct_Mo_raise hc151) ⟨by decide, by decide⟩ rfl hl.1 (Nat.le_of_ble_eq_true rfl) d_Mo_arithmetic_151 rfl ?_
    refine ww_st (st' := [.int v151]) rfl ?_
    refine ww_pop (pc := 154) g.1 d_Mo_arithmetic_154 rfl ?_
    refine ww_goto (pc := 155) (tgt := 205) g.1 d_Mo_arithmetic_155 (by decide) ?_
    exact ww_vretH (pc := 205) g h hR d_Mo_arithmetic_205

theorem j_Mo_arithmetic_j188 {X : Cx} {q : PL} (g : Gd X y_Mo_arithmetic b_Mo_arithmetic 14 none 6 153 R_Mo) {o : (Unit) × S1} (hR : Rt X q o.2 none) (l5 : Int32) (l6r : Nat) (l6 : Int32) (l7 : Int32) (l9 : Int64) (l12 : Int64) (s : S1) (hp0 : VOK l6r l6) (ls : Array Slot) (hl : lv_has ls 14 [(5, .int l5), (6, .ref (q.1 l6r l6)), (7, .int l7), (9, .long l9), (12, .long l12)]) (h : M_Mo_arithmetic_j188 l5 l6r l6 l7 l9 l12 s = some o) : WW X q s 188 ls [] := by
  unfold M_Mo_arithmetic_j188 at h
  refine ww_aload (pc := 188) g.1 d_Mo_arithmetic_188 (lv_at hl 1 rfl) ?_
  refine ww_iload (pc := 190) g.1 d_Mo_arithmetic_190 (lv_at hl 2 rfl) ?_
  refine ww_iconst (pc := 192) g.1 (v := 3) d_Mo_arithmetic_192 (by decide) ?_
  refine ww_iload (pc := 193) g.1 d_Mo_arithmetic_193 (lv_at hl 0 rfl) ?_
  refine ww_lload (pc := 195) g.1 d_Mo_arithmetic_195 (lv_at hl 3 rfl) ?_
  refine ww_lload (pc := 197) g.1 d_Mo_arithmetic_197 (lv_at hl 4 rfl) ?_
  obtain ⟨v199, s, hc199, h⟩ := oB_of h
  refine ww_callS (pc := 199) (rest := [.int 3, .int l7, .ref (q.1 l6r l6)]) g cs_Mo_reckon (Or.inl kw_425) (ct_Mo_reckon hc199) ⟨by decide, by decide⟩ rfl hl.1 (Nat.le_of_ble_eq_true rfl) d_Mo_arithmetic_199 rfl ?_
  refine ww_st (st' := [.long v199, .int 3, .int l7, .ref (q.1 l6r l6)]) rfl ?_
  obtain ⟨v202, s, hc202, h⟩ := oB_of h
  refine ww_callV (pc := 202) (rest := []) g cv_Va_set (Or.inl kw_99) (cl_Va hp0) (vok_p hp0).1 (ct_Va_set hp0 hc202) ⟨by decide, by decide⟩ rfl hl.1 (Nat.le_of_ble_eq_true rfl) d_Mo_arithmetic_202 rfl ?_
  refine ww_st (st' := []) rfl ?_
  exact ww_vretH (pc := 205) g h hR d_Mo_arithmetic_205

theorem j_Mo_arithmetic_j172 {X : Cx} {q : PL} (g : Gd X y_Mo_arithmetic b_Mo_arithmetic 14 none 6 153 R_Mo) {o : (Unit) × S1} (hR : Rt X q o.2 none) (l5 : Int32) (l6r : Nat) (l6 : Int32) (l7 : Int32) (l9 : Int64) (l12 : Int64) (s : S1) (hp0 : VOK l6r l6) (ls : Array Slot) (hl : lv_has ls 14 [(0, .ref (q.1 0 0)), (5, .int l5), (6, .ref (q.1 l6r l6)), (7, .int l7), (9, .long l9), (12, .long l12)]) (h : M_Mo_arithmetic_j172 l5 l6r l6 l7 l9 l12 s = some o) : WW X q s 172 ls [] := by
  unfold M_Mo_arithmetic_j172 at h
  refine ww_lload (pc := 172) g.1 d_Mo_arithmetic_172 (lv_at hl 5 rfl) ?_
  refine ww_lconst (pc := 174) g.1 (v := 0) d_Mo_arithmetic_174 (by decide) ?_
  refine ww_lcmp (pc := 175) g.1 d_Mo_arithmetic_175 ?_
  refine ww_if_ne (pc := 176) (tgt := 188) g.1 d_Mo_arithmetic_176 (by decide) h (fun c h => ?_) (fun c h => ?_)
  · exact j_Mo_arithmetic_j188 g hR l5 l6r l6 l7 l9 l12 s hp0 ls (lv_sub hl [1, 2, 3, 4, 5] rfl) h
  · refine ww_aload_n (pc := 179) g.1 d_Mo_arithmetic_179 rfl (lv_at hl 0 rfl) ?_
    refine ww_iconst (pc := 180) g.1 (v := 5) d_Mo_arithmetic_180 (by decide) ?_
    obtain ⟨v181, s, hc181, h⟩ := oB_of h
    refine ww_callV (pc := 181) (rest := []) g cv_Mo_raise (Or.inl kw_157) cl_Mo (pz rfl (by decide)) (ct_Mo_raise hc181) ⟨by decide, by decide⟩ rfl hl.1 (Nat.le_of_ble_eq_true rfl) d_Mo_arithmetic_181 rfl ?_
    refine ww_st (st' := [.int v181]) rfl ?_
    refine ww_pop (pc := 184) g.1 d_Mo_arithmetic_184 rfl ?_
    refine ww_goto (pc := 185) (tgt := 205) g.1 d_Mo_arithmetic_185 (by decide) ?_
    exact ww_vretH (pc := 205) g h hR d_Mo_arithmetic_205

theorem j_Mo_arithmetic_j106 {X : Cx} {q : PL} (g : Gd X y_Mo_arithmetic b_Mo_arithmetic 14 none 6 153 R_Mo) {o : (Unit) × S1} (hR : Rt X q o.2 none) (l4 : Int32) (l5 : Int32) (l6r : Nat) (l6 : Int32) (l7 : Int32) (l8 : Int32) (l9 : Int64) (l11 : Int32) (l12 : Int64) (s : S1) (hp0 : VOK l6r l6) (ls : Array Slot) (hl : lv_has ls 14 [(0, .ref (q.1 0 0)), (4, .int l4), (5, .int l5), (6, .ref (q.1 l6r l6)), (7, .int l7), (8, .int l8), (9, .long l9), (11, .int l11), (12, .long l12)]) (h : M_Mo_arithmetic_j106 l4 l5 l6r l6 l7 l8 l9 l11 l12 s = some o) : WW X q s 106 ls [] := by
  unfold M_Mo_arithmetic_j106 at h
  refine ww_iload (pc := 106) g.1 d_Mo_arithmetic_106 (lv_at hl 5 rfl) ?_
  refine ww_iconst (pc := 108) g.1 (v := 3) d_Mo_arithmetic_108 (by decide) ?_
  refine ww_icmp_ne (pc := 109) (tgt := 118) g.1 d_Mo_arithmetic_109 (by decide) h (fun c h => ?_) (fun c h => ?_)
  · exact j_Mo_arithmetic_j118 g hR l4 l5 l8 l9 l11 l12 s ls (lv_sub hl [0, 1, 2, 5, 6, 7, 8] rfl) h
  · refine ww_iload (pc := 112) g.1 d_Mo_arithmetic_112 (lv_at hl 7 rfl) ?_
    refine ww_iconst (pc := 114) g.1 (v := 3) d_Mo_arithmetic_114 (by decide) ?_
    refine ww_icmp_eq (pc := 115) (tgt := 158) g.1 d_Mo_arithmetic_115 (by decide) h (fun c h => ?_) (fun c h => ?_)
    · refine ww_iload (pc := 158) g.1 d_Mo_arithmetic_158 (lv_at hl 2 rfl) ?_
      refine ww_bipush (pc := 160) g.1 (v := 16) d_Mo_arithmetic_160 (by decide) ?_
      refine ww_icmp_eq (pc := 162) (tgt := 172) g.1 d_Mo_arithmetic_162 (by decide) h (fun c h => ?_) (fun c h => ?_)
      · exact j_Mo_arithmetic_j172 g hR l5 l6r l6 l7 l9 l12 s hp0 ls (lv_sub hl [0, 2, 3, 4, 6, 8] rfl) h
      · refine ww_iload (pc := 165) g.1 d_Mo_arithmetic_165 (lv_at hl 2 rfl) ?_
        refine ww_bipush (pc := 167) g.1 (v := 19) d_Mo_arithmetic_167 (by decide) ?_
        refine ww_icmp_ne (pc := 169) (tgt := 188) g.1 d_Mo_arithmetic_169 (by decide) h (fun c h => ?_) (fun c h => ?_)
        · exact j_Mo_arithmetic_j188 g hR l5 l6r l6 l7 l9 l12 s hp0 ls (lv_sub hl [2, 3, 4, 6, 8] rfl) h
        · exact j_Mo_arithmetic_j172 g hR l5 l6r l6 l7 l9 l12 s hp0 ls (lv_sub hl [0, 2, 3, 4, 6, 8] rfl) h
    · exact j_Mo_arithmetic_j118 g hR l4 l5 l8 l9 l11 l12 s ls (lv_sub hl [0, 1, 2, 5, 6, 7, 8] rfl) h

theorem ct_Mo_arithmetic {l : Launch} {P : PP} {q : PL} {s s' : S1} {l1 : Int32} {l2 : Int32} {l3 : Int32} {l4 : Int32} {l5 : Int32} {l6r : Nat} {l6 : Int32} {l7 : Int32} (hp0 : 0 ≤ l1 ∧ l1 < 33) (hp1 : VOK l6r l6) {r : Unit} (h : M_Mo_arithmetic l1 l2 l3 l4 l5 l6r l6 l7 s = some (r, s')) : Ct l y_Mo_arithmetic b_Mo_arithmetic 14 none 6 153 P q s [.ref (q.1 0 0), .ref (q.1 28 l1), .int l2, .int l3, .int l4, .int l5, .ref (q.1 l6r l6), .int l7] none q s' := by
  refine ct_of (by decide) (Nat.le_of_ble_eq_true rfl) fun X ls eP el g hR hl => ?_
  subst eP
  have hR : Rt X q ((r, s') : Unit × S1).2 none := hR
  have hl : lv_has ls 14 [(0, .ref (q.1 0 0)), (1, .ref (q.1 28 l1)), (2, .int l2), (3, .int l3), (4, .int l4), (5, .int l5), (6, .ref (q.1 l6r l6)), (7, .int l7)] := hl
  generalize (r, s') = o at h hR
  unfold M_Mo_arithmetic at h
  refine ww_iload (pc := 0) g.1 d_Mo_arithmetic_0 (lv_at hl 5 rfl) ?_
  refine ww_bipush (pc := 2) g.1 (v := 24) d_Mo_arithmetic_2 (by decide) ?_
  refine ww_icmp_le (pc := 4) (tgt := 58) g.1 d_Mo_arithmetic_4 (by decide) h (fun c h => ?_) (fun c h => ?_)
  · refine ww_aload_n (pc := 58) g.1 d_Mo_arithmetic_58 rfl (lv_at hl 0 rfl) ?_
    refine ww_aload_n (pc := 59) g.1 d_Mo_arithmetic_59 rfl (lv_at hl 1 rfl) ?_
    refine ww_iload_n (pc := 60) g.1 d_Mo_arithmetic_60 rfl (lv_at hl 2 rfl) ?_
    refine ww_iload_n (pc := 61) g.1 d_Mo_arithmetic_61 rfl (lv_at hl 3 rfl) ?_
    refine ww_iload (pc := 62) g.1 d_Mo_arithmetic_62 (lv_at hl 4 rfl) ?_
    obtain ⟨v64, s, hc64, h⟩ := oB_of h
    refine ww_callS (pc := 64) (rest := [.int l3, .int l2, .ref (q.1 28 l1), .ref (q.1 0 0)]) g cs_Mo_b (Or.inl kw_54) (ct_Mo_b hc64) ⟨by decide, by decide⟩ rfl hl.1 (Nat.le_of_ble_eq_true rfl) d_Mo_arithmetic_64 rfl ?_
    refine ww_st (st' := [.int v64, .int l3, .int l2, .ref (q.1 28 l1), .ref (q.1 0 0)]) rfl ?_
    obtain ⟨v67, s, hc67, h⟩ := oB_of h
    refine ww_callV (pc := 67) (rest := []) g cv_Mo_rk_ (Or.inl kw_419) cl_Mo (pz rfl (by decide)) (ct_Mo_rk_ hp0 hc67) ⟨by decide, by decide⟩ rfl hl.1 (Nat.le_of_ble_eq_true rfl) d_Mo_arithmetic_67 rfl ?_
    refine ww_st (st' := []) rfl ?_
    refine ww_aload_n (pc := 70) g.1 d_Mo_arithmetic_70 rfl (lv_at hl 0 rfl) ?_
    refine ww_gI (pc := 71) g (k := 98) cl_Mo (pz rfl (by decide)) (by decide) (Or.inl kw_248) (f := 98) rfl rfl d_Mo_arithmetic_71 h fun v71 h => ?_
    refine ww_istore (pc := 74) (i := 8) g.1 (lv' := [(8, .int v71), (0, .ref (q.1 0 0)), (1, .ref (q.1 28 l1)), (2, .int l2), (3, .int l3), (4, .int l4), (5, .int l5), (6, .ref (q.1 l6r l6)), (7, .int l7)]) d_Mo_arithmetic_74 hl (by decide) rfl fun ls hl => ?_
    refine ww_aload_n (pc := 76) g.1 d_Mo_arithmetic_76 rfl (lv_at hl 1 rfl) ?_
    refine ww_gL (pc := 77) g (k := 99) cl_Mo (pz rfl (by decide)) (by decide) (Or.inl kw_249) (f := 99) rfl rfl d_Mo_arithmetic_77 h fun v77 h => ?_
    refine ww_lstore (pc := 80) (i := 9) g.1 (lv' := [(9, .long v77), (8, .int v71), (0, .ref (q.1 0 0)), (1, .ref (q.1 28 l1)), (2, .int l2), (3, .int l3), (4, .int l4), (5, .int l5), (6, .ref (q.1 l6r l6)), (7, .int l7)]) d_Mo_arithmetic_80 hl (by decide) rfl fun ls hl => ?_
    refine ww_aload_n (pc := 82) g.1 d_Mo_arithmetic_82 rfl (lv_at hl 2 rfl) ?_
    refine ww_aload_n (pc := 83) g.1 d_Mo_arithmetic_83 rfl (lv_at hl 3 rfl) ?_
    refine ww_iload_n (pc := 84) g.1 d_Mo_arithmetic_84 rfl (lv_at hl 4 rfl) ?_
    refine ww_iload_n (pc := 85) g.1 d_Mo_arithmetic_85 rfl (lv_at hl 5 rfl) ?_
    refine ww_iload (pc := 86) g.1 d_Mo_arithmetic_86 (lv_at hl 6 rfl) ?_
    obtain ⟨v88, s, hc88, h⟩ := oB_of h
    refine ww_callS (pc := 88) (rest := [.int l3, .int l2, .ref (q.1 28 l1), .ref (q.1 0 0)]) g cs_Mo_c (Or.inl kw_311) (ct_Mo_c hc88) ⟨by decide, by decide⟩ rfl hl.1 (Nat.le_of_ble_eq_true rfl) d_Mo_arithmetic_88 rfl ?_
    refine ww_st (st' := [.int v88, .int l3, .int l2, .ref (q.1 28 l1), .ref (q.1 0 0)]) rfl ?_
    obtain ⟨v91, s, hc91, h⟩ := oB_of h
    refine ww_callV (pc := 91) (rest := []) g cv_Mo_rk_ (Or.inl kw_419) cl_Mo (pz rfl (by decide)) (ct_Mo_rk_ hp0 hc91) ⟨by decide, by decide⟩ rfl hl.1 (Nat.le_of_ble_eq_true rfl) d_Mo_arithmetic_91 rfl ?_
    refine ww_st (st' := []) rfl ?_
    refine ww_aload_n (pc := 94) g.1 d_Mo_arithmetic_94 rfl (lv_at hl 2 rfl) ?_
    refine ww_gI (pc := 95) g (k := 98) cl_Mo (pz rfl (by decide)) (by decide) (Or.inl kw_248) (f := 98) rfl rfl d_Mo_arithmetic_95 h fun v95 h => ?_
    refine ww_istore (pc := 98) (i := 11) g.1 (lv' := [(11, .int v95), (9, .long v77), (8, .int v71), (0, .ref (q.1 0 0)), (1, .ref (q.1 28 l1)), (2, .int l2), (3, .int l3), (4, .int l4), (5, .int l5), (6, .ref (q.1 l6r l6)), (7, .int l7)]) d_Mo_arithmetic_98 hl (by decide) rfl fun ls hl => ?_
    refine ww_aload_n (pc := 100) g.1 d_Mo_arithmetic_100 rfl (lv_at hl 3 rfl) ?_
    refine ww_gL (pc := 101) g (k := 99) cl_Mo (pz rfl (by decide)) (by decide) (Or.inl kw_249) (f := 99) rfl rfl d_Mo_arithmetic_101 h fun v101 h => ?_
    refine ww_lstore (pc := 104) (i := 12) g.1 (lv' := [(12, .long v101), (11, .int v95), (9, .long v77), (8, .int v71), (0, .ref (q.1 0 0)), (1, .ref (q.1 28 l1)), (2, .int l2), (3, .int l3), (4, .int l4), (5, .int l5), (6, .ref (q.1 l6r l6)), (7, .int l7)]) d_Mo_arithmetic_104 hl (by decide) rfl fun ls hl => ?_
    exact j_Mo_arithmetic_j106 g hR l4 l5 l6r l6 l7 v71 v77 v95 v101 s hp1 ls (lv_sub hl [4, 8, 9, 10, 11, 3, 2, 1, 0] rfl) h
  · refine ww_aload (pc := 7) g.1 d_Mo_arithmetic_7 (lv_at hl 6 rfl) ?_
    refine ww_gR (pc := 9) g (k := 0) (cl_Va hp1) (vok_p hp1).1 (by rw [(vok_f hp1).1.2.2]; decide) (Or.inl kw_90) (f := (128 * l6r + 0)) (t := l6r + 1) rfl (vok_f hp1).2.1.1 (vok_f hp1).2.1.2 d_Mo_arithmetic_9 ?_
    refine ww_aload_n (pc := 12) g.1 d_Mo_arithmetic_12 rfl (lv_at hl 1 rfl) ?_
    refine ww_gR (pc := 13) g (k := 14) cl_Th (pt rfl rfl hp0) (by decide) (Or.inl kw_254) (f := 3598) (t := 33) rfl rfl rfl d_Mo_arithmetic_13 ?_
    refine ww_iload_n (pc := 16) g.1 d_Mo_arithmetic_16 rfl (lv_at hl 2 rfl) ?_
    refine ww_ai (pc := 17) g (pt rfl rfl hp0) rfl rfl d_Mo_arithmetic_17 h fun v17 h => ?_
    refine ww_iload (pc := 18) g.1 d_Mo_arithmetic_18 (lv_at hl 4 rfl) ?_
    obtain ⟨v20, s, hc20, h⟩ := oB_of h
    refine ww_callS (pc := 20) (rest := [.int v17, .ref (q.1 (l6r + 1) l6)]) g cs_Mo_b (Or.inl kw_54) (ct_Mo_b hc20) ⟨by decide, by decide⟩ rfl hl.1 (Nat.le_of_ble_eq_true rfl) d_Mo_arithmetic_20 rfl ?_
    refine ww_st (st' := [.int v20, .int v17, .ref (q.1 (l6r + 1) l6)]) rfl ?_
    refine ww_iadd (pc := 23) g.1 d_Mo_arithmetic_23 ?_
    refine ww_ab (pc := 24) g (vok_p hp1).2.1 (vok_f hp1).2.2.2.2.1 (vok_n hp1).1 d_Mo_arithmetic_24 h fun v24 h => ?_
    refine ww_istore (pc := 25) (i := 8) g.1 (lv' := [(8, .int v24), (0, .ref (q.1 0 0)), (1, .ref (q.1 28 l1)), (2, .int l2), (3, .int l3), (4, .int l4), (5, .int l5), (6, .ref (q.1 l6r l6)), (7, .int l7)]) d_Mo_arithmetic_25 hl (by decide) rfl fun ls hl => ?_
    refine ww_aload (pc := 27) g.1 d_Mo_arithmetic_27 (lv_at hl 7 rfl) ?_
    refine ww_gR (pc := 29) g (k := 1) (cl_Va hp1) (vok_p hp1).1 (by rw [(vok_f hp1).1.2.2]; decide) (Or.inl kw_93) (f := (128 * l6r + 1)) (t := l6r + 2) rfl (vok_f hp1).2.2.1.1 (vok_f hp1).2.2.1.2 d_Mo_arithmetic_29 ?_
    refine ww_aload_n (pc := 32) g.1 d_Mo_arithmetic_32 rfl (lv_at hl 2 rfl) ?_
    refine ww_gR (pc := 33) g (k := 14) cl_Th (pt rfl rfl hp0) (by decide) (Or.inl kw_254) (f := 3598) (t := 33) rfl rfl rfl d_Mo_arithmetic_33 ?_
    refine ww_iload_n (pc := 36) g.1 d_Mo_arithmetic_36 rfl (lv_at hl 3 rfl) ?_
    refine ww_ai (pc := 37) g (pt rfl rfl hp0) rfl rfl d_Mo_arithmetic_37 h fun v37 h => ?_
    refine ww_iload (pc := 38) g.1 d_Mo_arithmetic_38 (lv_at hl 5 rfl) ?_
    obtain ⟨v40, s, hc40, h⟩ := oB_of h
    refine ww_callS (pc := 40) (rest := [.int v37, .ref (q.1 (l6r + 2) l6)]) g cs_Mo_b (Or.inl kw_54) (ct_Mo_b hc40) ⟨by decide, by decide⟩ rfl hl.1 (Nat.le_of_ble_eq_true rfl) d_Mo_arithmetic_40 rfl ?_
    refine ww_st (st' := [.int v40, .int v37, .ref (q.1 (l6r + 2) l6)]) rfl ?_
    refine ww_iadd (pc := 43) g.1 d_Mo_arithmetic_43 ?_
    refine ww_al (pc := 44) g (vok_p hp1).2.2 (vok_f hp1).2.2.2.2.2 (vok_n hp1).2 d_Mo_arithmetic_44 h fun v44 h => ?_
    refine ww_lstore (pc := 45) (i := 9) g.1 (lv' := [(9, .long v44), (8, .int v24), (0, .ref (q.1 0 0)), (1, .ref (q.1 28 l1)), (2, .int l2), (3, .int l3), (4, .int l4), (5, .int l5), (6, .ref (q.1 l6r l6)), (7, .int l7)]) d_Mo_arithmetic_45 hl (by decide) rfl fun ls hl => ?_
    refine ww_iload (pc := 47) g.1 d_Mo_arithmetic_47 (lv_at hl 1 rfl) ?_
    refine ww_istore (pc := 49) (i := 11) g.1 (lv' := [(11, .int v24), (9, .long v44), (8, .int v24), (0, .ref (q.1 0 0)), (1, .ref (q.1 28 l1)), (2, .int l2), (3, .int l3), (4, .int l4), (5, .int l5), (6, .ref (q.1 l6r l6)), (7, .int l7)]) d_Mo_arithmetic_49 hl (by decide) rfl fun ls hl => ?_
    refine ww_lload (pc := 51) g.1 d_Mo_arithmetic_51 (lv_at hl 1 rfl) ?_
    refine ww_lstore (pc := 53) (i := 12) g.1 (lv' := [(12, .long v44), (11, .int v24), (9, .long v44), (8, .int v24), (0, .ref (q.1 0 0)), (1, .ref (q.1 28 l1)), (2, .int l2), (3, .int l3), (4, .int l4), (5, .int l5), (6, .ref (q.1 l6r l6)), (7, .int l7)]) d_Mo_arithmetic_53 hl (by decide) rfl fun ls hl => ?_
    refine ww_goto (pc := 55) (tgt := 106) g.1 d_Mo_arithmetic_55 (by decide) ?_
    exact j_Mo_arithmetic_j106 g hR l4 l5 l6r l6 l7 v24 v44 v24 v44 s hp1 ls (lv_sub hl [4, 8, 9, 10, 11, 3, 2, 1, 0] rfl) h

abbrev b_Mo_length : ByteArray := prog_14_method_124_code
def y_Mo_length : MethodName := ⟨R_Mo, "length", "(IIJLLuaMachineModel$Values;I)V"⟩
abbrev w_Mo_length : List Cond := .code y_Mo_length b_Mo_length 10 none :: wA
theorem k_Mo_length : Cond.code y_Mo_length b_Mo_length 10 none ∈ wA := kinm (show _ ∈ tables_1 from (List.mem_append_right _ (List.mem_append_right _ (List.mem_append_right _ (List.mem_append_right _ (List.mem_append_right _ (List.mem_append_right _ (List.mem_append_right _ (List.mem_append_right _ (List.mem_append_right _ (List.mem_append_right _ (List.mem_append_right _ (List.mem_append_right _ (List.mem_append_left _ (List.mem_of_getElem? (l := tables_1_13) (i := 194) (by decide +kernel)))))))))))))))) (by decide +kernel)
theorem d_Mo_length_0 : decode b_Mo_length 0 = .ok (.iload_n 2, 1) := by decide +kernel
theorem d_Mo_length_1 : decode b_Mo_length 1 = .ok (.iconst 4, 1) := by decide +kernel
theorem d_Mo_length_2 : decode b_Mo_length 2 = .ok (.if_icmp .ne 22, 3) := by decide +kernel
theorem d_Mo_length_5 : decode b_Mo_length 5 = .ok (.aload 5, 2) := by decide +kernel
theorem d_Mo_length_7 : decode b_Mo_length 7 = .ok (.iload 6, 2) := by decide +kernel
theorem d_Mo_length_9 : decode b_Mo_length 9 = .ok (.iconst 3, 1) := by decide +kernel
theorem d_Mo_length_10 : decode b_Mo_length 10 = .ok (.aload_n 0, 1) := by decide +kernel
theorem d_Mo_length_11 : decode b_Mo_length 11 = .ok (.getfield 171, 3) := by decide +kernel
theorem d_Mo_length_14 : decode b_Mo_length 14 = .ok (.lload_n 3, 1) := by decide +kernel
theorem d_Mo_length_15 : decode b_Mo_length 15 = .ok (.l2i, 1) := by decide +kernel
theorem d_Mo_length_16 : decode b_Mo_length 16 = .ok (.iaload, 1) := by decide +kernel
theorem d_Mo_length_17 : decode b_Mo_length 17 = .ok (.i2l, 1) := by decide +kernel
theorem d_Mo_length_18 : decode b_Mo_length 18 = .ok (.invokevirtual 470, 3) := by decide +kernel
theorem d_Mo_length_21 : decode b_Mo_length 21 = .ok (.goto 98, 3) := by decide +kernel
theorem d_Mo_length_24 : decode b_Mo_length 24 = .ok (.iload_n 2, 1) := by decide +kernel
theorem d_Mo_length_25 : decode b_Mo_length 25 = .ok (.iconst 5, 1) := by decide +kernel
theorem d_Mo_length_26 : decode b_Mo_length 26 = .ok (.if_icmp .eq 12, 3) := by decide +kernel
theorem d_Mo_length_29 : decode b_Mo_length 29 = .ok (.aload_n 0, 1) := by decide +kernel
theorem d_Mo_length_30 : decode b_Mo_length 30 = .ok (.iconst 2, 1) := by decide +kernel
theorem d_Mo_length_31 : decode b_Mo_length 31 = .ok (.invokevirtual 517, 3) := by decide +kernel
theorem d_Mo_length_34 : decode b_Mo_length 34 = .ok (.pop, 1) := by decide +kernel
theorem d_Mo_length_35 : decode b_Mo_length 35 = .ok (.goto 84, 3) := by decide +kernel
theorem d_Mo_length_38 : decode b_Mo_length 38 = .ok (.aload_n 0, 1) := by decide +kernel
theorem d_Mo_length_39 : decode b_Mo_length 39 = .ok (.iload_n 2, 1) := by decide +kernel
theorem d_Mo_length_40 : decode b_Mo_length 40 = .ok (.lload_n 3, 1) := by decide +kernel
theorem d_Mo_length_41 : decode b_Mo_length 41 = .ok (.bipush 16, 2) := by decide +kernel
theorem d_Mo_length_43 : decode b_Mo_length 43 = .ok (.invokevirtual 715, 3) := by decide +kernel
theorem d_Mo_length_46 : decode b_Mo_length 46 = .ok (.ifCond .eq 59, 3) := by decide +kernel
theorem d_Mo_length_49 : decode b_Mo_length 49 = .ok (.aload_n 0, 1) := by decide +kernel
theorem d_Mo_length_50 : decode b_Mo_length 50 = .ok (.getfield 222, 3) := by decide +kernel
theorem d_Mo_length_53 : decode b_Mo_length 53 = .ok (.istore 7, 2) := by decide +kernel
theorem d_Mo_length_55 : decode b_Mo_length 55 = .ok (.aload_n 0, 1) := by decide +kernel
theorem d_Mo_length_56 : decode b_Mo_length 56 = .ok (.getfield 225, 3) := by decide +kernel
theorem d_Mo_length_59 : decode b_Mo_length 59 = .ok (.lstore 8, 2) := by decide +kernel
theorem d_Mo_length_61 : decode b_Mo_length 61 = .ok (.aload_n 0, 1) := by decide +kernel
theorem d_Mo_length_62 : decode b_Mo_length 62 = .ok (.getfield 259, 3) := by decide +kernel
theorem d_Mo_length_65 : decode b_Mo_length 65 = .ok (.iconst 0, 1) := by decide +kernel
theorem d_Mo_length_66 : decode b_Mo_length 66 = .ok (.putfield 569, 3) := by decide +kernel
theorem d_Mo_length_69 : decode b_Mo_length 69 = .ok (.aload_n 0, 1) := by decide +kernel
theorem d_Mo_length_70 : decode b_Mo_length 70 = .ok (.getfield 259, 3) := by decide +kernel
theorem d_Mo_length_73 : decode b_Mo_length 73 = .ok (.iload_n 2, 1) := by decide +kernel
theorem d_Mo_length_74 : decode b_Mo_length 74 = .ok (.lload_n 3, 1) := by decide +kernel
theorem d_Mo_length_75 : decode b_Mo_length 75 = .ok (.invokevirtual 572, 3) := by decide +kernel
theorem d_Mo_length_78 : decode b_Mo_length 78 = .ok (.aload_n 0, 1) := by decide +kernel
theorem d_Mo_length_79 : decode b_Mo_length 79 = .ok (.iconst 1, 1) := by decide +kernel
theorem d_Mo_length_80 : decode b_Mo_length 80 = .ok (.iload_n 1, 1) := by decide +kernel
theorem d_Mo_length_81 : decode b_Mo_length 81 = .ok (.iconst 1, 1) := by decide +kernel
theorem d_Mo_length_82 : decode b_Mo_length 82 = .ok (.invokevirtual 947, 3) := by decide +kernel
theorem d_Mo_length_85 : decode b_Mo_length 85 = .ok (.aload_n 0, 1) := by decide +kernel
theorem d_Mo_length_86 : decode b_Mo_length 86 = .ok (.iload 7, 2) := by decide +kernel
theorem d_Mo_length_88 : decode b_Mo_length 88 = .ok (.putfield 253, 3) := by decide +kernel
theorem d_Mo_length_91 : decode b_Mo_length 91 = .ok (.aload_n 0, 1) := by decide +kernel
theorem d_Mo_length_92 : decode b_Mo_length 92 = .ok (.lload 8, 2) := by decide +kernel
theorem d_Mo_length_94 : decode b_Mo_length 94 = .ok (.putfield 256, 3) := by decide +kernel
theorem d_Mo_length_97 : decode b_Mo_length 97 = .ok (.aload_n 0, 1) := by decide +kernel
theorem d_Mo_length_98 : decode b_Mo_length 98 = .ok (.iconst 1, 1) := by decide +kernel
theorem d_Mo_length_99 : decode b_Mo_length 99 = .ok (.putfield 247, 3) := by decide +kernel
theorem d_Mo_length_102 : decode b_Mo_length 102 = .ok (.goto 17, 3) := by decide +kernel
theorem d_Mo_length_105 : decode b_Mo_length 105 = .ok (.aload 5, 2) := by decide +kernel
theorem d_Mo_length_107 : decode b_Mo_length 107 = .ok (.iload 6, 2) := by decide +kernel
theorem d_Mo_length_109 : decode b_Mo_length 109 = .ok (.iconst 3, 1) := by decide +kernel
theorem d_Mo_length_110 : decode b_Mo_length 110 = .ok (.aload_n 0, 1) := by decide +kernel
theorem d_Mo_length_111 : decode b_Mo_length 111 = .ok (.lload_n 3, 1) := by decide +kernel
theorem d_Mo_length_112 : decode b_Mo_length 112 = .ok (.l2i, 1) := by decide +kernel
theorem d_Mo_length_113 : decode b_Mo_length 113 = .ok (.invokevirtual 847, 3) := by decide +kernel
theorem d_Mo_length_116 : decode b_Mo_length 116 = .ok (.invokevirtual 470, 3) := by decide +kernel
theorem d_Mo_length_119 : decode b_Mo_length 119 = .ok (.return_, 1) := by decide +kernel
theorem kw_428 : Cond.methodLink R_Mo 847 y_Mo_border ∈ wA := kinm (show _ ∈ tables_1 from (List.mem_append_right _ (List.mem_append_right _ (List.mem_append_right _ (List.mem_append_right _ (List.mem_append_right _ (List.mem_append_right _ (List.mem_append_right _ (List.mem_append_right _ (List.mem_append_right _ (List.mem_append_right _ (List.mem_append_right _ (List.mem_append_right _ (List.mem_append_left _ (List.mem_of_getElem? (l := tables_1_13) (i := 9) (by decide +kernel)))))))))))))))) (by decide +kernel)
theorem kw_429 : Cond.instanceMethod y_Mo_length ∈ wA := kinm (show _ ∈ tables_1 from (List.mem_append_right _ (List.mem_append_right _ (List.mem_append_right _ (List.mem_append_right _ (List.mem_append_right _ (List.mem_append_right _ (List.mem_append_right _ (List.mem_append_right _ (List.mem_append_right _ (List.mem_append_right _ (List.mem_append_right _ (List.mem_append_right _ (List.mem_append_left _ (List.mem_of_getElem? (l := tables_1_13) (i := 193) (by decide +kernel)))))))))))))))) (by decide +kernel)
theorem kw_430 : Cond.selects R_Mo y_Mo_length y_Mo_length ∈ wA := kinp 215 (by decide +kernel) (by decide +kernel)
theorem cv_Mo_length : CV y_Mo_length b_Mo_length 10 none 5 := ⟨kw_429, kw_430, kw_17, k_Mo_length, by decide +kernel⟩
theorem ct_Mo_length {l : Launch} {P : PP} {q : PL} {s s' : S1} {l1 : Int32} {l2 : Int32} {l3 : Int64} {l5r : Nat} {l5 : Int32} {l6 : Int32} (hp0 : VOK l5r l5) {r : Unit} (h : M_Mo_length l1 l2 l3 l5r l5 l6 s = some (r, s')) : Ct l y_Mo_length b_Mo_length 10 none 5 123 P q s [.ref (q.1 0 0), .int l1, .int l2, .long l3, .ref (q.1 l5r l5), .int l6] none q s' := by
  refine ct_of (by decide) (Nat.le_of_ble_eq_true rfl) fun X ls eP el g hR hl => ?_
  subst eP
  have hR : Rt X q ((r, s') : Unit × S1).2 none := hR
  have hl : lv_has ls 10 [(0, .ref (q.1 0 0)), (1, .int l1), (2, .int l2), (3, .long l3), (5, .ref (q.1 l5r l5)), (6, .int l6)] := hl
  generalize (r, s') = o at h hR
  unfold M_Mo_length at h
  refine ww_iload_n (pc := 0) g.1 d_Mo_length_0 rfl (lv_at hl 2 rfl) ?_
  refine ww_iconst (pc := 1) g.1 (v := 4) d_Mo_length_1 (by decide) ?_
  refine ww_icmp_ne (pc := 2) (tgt := 24) g.1 d_Mo_length_2 (by decide) h (fun c h => ?_) (fun c h => ?_)
  · refine ww_iload_n (pc := 24) g.1 d_Mo_length_24 rfl (lv_at hl 2 rfl) ?_
    refine ww_iconst (pc := 25) g.1 (v := 5) d_Mo_length_25 (by decide) ?_
    refine ww_icmp_eq (pc := 26) (tgt := 38) g.1 d_Mo_length_26 (by decide) h (fun c h => ?_) (fun c h => ?_)
    · refine ww_aload_n (pc := 38) g.1 d_Mo_length_38 rfl (lv_at hl 0 rfl) ?_
      refine ww_iload_n (pc := 39) g.1 d_Mo_length_39 rfl (lv_at hl 2 rfl) ?_
      refine ww_lload_n (pc := 40) g.1 d_Mo_length_40 rfl (lv_at hl 3 rfl) ?_
      refine ww_bipush (pc := 41) g.1 (v := 16) d_Mo_length_41 (by decide) ?_
      obtain ⟨v43, s, hc43, h⟩ := oB_of h
      refine ww_callV (pc := 43) (rest := []) g cv_Mo_meta (Or.inl kw_409) cl_Mo (pz rfl (by decide)) (ct_Mo_meta hc43) ⟨by decide, by decide⟩ rfl hl.1 (Nat.le_of_ble_eq_true rfl) d_Mo_length_43 rfl ?_
      refine ww_st (st' := [.int v43]) rfl ?_
      refine ww_if_eq (pc := 46) (tgt := 105) g.1 d_Mo_length_46 (by decide) h (fun c h => ?_) (fun c h => ?_)
      · refine ww_aload (pc := 105) g.1 d_Mo_length_105 (lv_at hl 4 rfl) ?_
        refine ww_iload (pc := 107) g.1 d_Mo_length_107 (lv_at hl 5 rfl) ?_
        refine ww_iconst (pc := 109) g.1 (v := 3) d_Mo_length_109 (by decide) ?_
        refine ww_aload_n (pc := 110) g.1 d_Mo_length_110 rfl (lv_at hl 0 rfl) ?_
        refine ww_lload_n (pc := 111) g.1 d_Mo_length_111 rfl (lv_at hl 3 rfl) ?_
        refine ww_l2i (pc := 112) g.1 (v := l3.toInt32) d_Mo_length_112 rfl ?_
        obtain ⟨v113, s, hc113, h⟩ := oB_of h
        refine ww_callV (pc := 113) (rest := [.int 3, .int l6, .ref (q.1 l5r l5)]) g cv_Mo_border (Or.inl kw_428) cl_Mo (pz rfl (by decide)) (ct_Mo_border hc113) ⟨by decide, by decide⟩ rfl hl.1 (Nat.le_of_ble_eq_true rfl) d_Mo_length_113 rfl ?_
        refine ww_st (st' := [.long v113, .int 3, .int l6, .ref (q.1 l5r l5)]) rfl ?_
        obtain ⟨v116, s, hc116, h⟩ := oB_of h
        refine ww_callV (pc := 116) (rest := []) g cv_Va_set (Or.inl kw_99) (cl_Va hp0) (vok_p hp0).1 (ct_Va_set hp0 hc116) ⟨by decide, by decide⟩ rfl hl.1 (Nat.le_of_ble_eq_true rfl) d_Mo_length_116 rfl ?_
        refine ww_st (st' := []) rfl ?_
        exact ww_vretH (pc := 119) g h hR d_Mo_length_119
      · refine ww_aload_n (pc := 49) g.1 d_Mo_length_49 rfl (lv_at hl 0 rfl) ?_
        refine ww_gI (pc := 50) g (k := 66) cl_Mo (pz rfl (by decide)) (by decide) (Or.inl kw_92) (f := 66) rfl rfl d_Mo_length_50 h fun v50 h => ?_
        refine ww_istore (pc := 53) (i := 7) g.1 (lv' := [(7, .int v50), (0, .ref (q.1 0 0)), (1, .int l1), (2, .int l2), (3, .long l3), (5, .ref (q.1 l5r l5)), (6, .int l6)]) d_Mo_length_53 hl (by decide) rfl fun ls hl => ?_
        refine ww_aload_n (pc := 55) g.1 d_Mo_length_55 rfl (lv_at hl 1 rfl) ?_
        refine ww_gL (pc := 56) g (k := 67) cl_Mo (pz rfl (by decide)) (by decide) (Or.inl kw_94) (f := 67) rfl rfl d_Mo_length_56 h fun v56 h => ?_
        refine ww_lstore (pc := 59) (i := 8) g.1 (lv' := [(8, .long v56), (7, .int v50), (0, .ref (q.1 0 0)), (1, .int l1), (2, .int l2), (3, .long l3), (5, .ref (q.1 l5r l5)), (6, .int l6)]) d_Mo_length_59 hl (by decide) rfl fun ls hl => ?_
        refine ww_aload_n (pc := 61) g.1 d_Mo_length_61 rfl (lv_at hl 2 rfl) ?_
        refine ww_gR (pc := 62) g (k := 77) cl_Mo (pz rfl (by decide)) (by decide) (Or.inl kw_182) (f := 77) (t := 7) rfl rfl rfl d_Mo_length_62 ?_
        refine ww_iconst (pc := 65) g.1 (v := 0) d_Mo_length_65 (by decide) ?_
        refine ww_pI (pc := 66) g (k := 2) (cl_Va (Or.inl ⟨by decide, rfl⟩)) (pz rfl (by decide)) (by decide) (Or.inl kw_179) rfl (f := 898) rfl rfl rfl rfl d_Mo_length_66 h fun s hs h => ?_
        refine ww_aload_n (pc := 69) g.1 d_Mo_length_69 rfl (lv_at hl 2 rfl) ?_
        refine ww_gR (pc := 70) g (k := 77) cl_Mo (pz rfl (by decide)) (by decide) (Or.inl kw_182) (f := 77) (t := 7) rfl rfl rfl d_Mo_length_70 ?_
        refine ww_iload_n (pc := 73) g.1 d_Mo_length_73 rfl (lv_at hl 4 rfl) ?_
        refine ww_lload_n (pc := 74) g.1 d_Mo_length_74 rfl (lv_at hl 5 rfl) ?_
        obtain ⟨v75, s, hc75, h⟩ := oB_of h
        refine ww_callV (pc := 75) (rest := []) g cv_Va_add (Or.inl kw_187) (cl_Va (Or.inl ⟨by decide, rfl⟩)) (pz rfl (by decide)) (ct_Va_add (Or.inl ⟨by decide, rfl⟩) hc75) ⟨by decide, by decide⟩ rfl hl.1 (Nat.le_of_ble_eq_true rfl) d_Mo_length_75 rfl ?_
        refine ww_st (st' := []) rfl ?_
        refine ww_aload_n (pc := 78) g.1 d_Mo_length_78 rfl (lv_at hl 2 rfl) ?_
        refine ww_iconst (pc := 79) g.1 (v := 1) d_Mo_length_79 (by decide) ?_
        refine ww_iload_n (pc := 80) g.1 d_Mo_length_80 rfl (lv_at hl 3 rfl) ?_
        refine ww_iconst (pc := 81) g.1 (v := 1) d_Mo_length_81 (by decide) ?_
        obtain ⟨v82, s, hc82, h⟩ := oB_of h
        refine ww_callV (pc := 82) (rest := []) g cv_Mo_expect (Or.inl kw_415) cl_Mo (pz rfl (by decide)) (ct_Mo_expect hc82) ⟨by decide, by decide⟩ rfl hl.1 (Nat.le_of_ble_eq_true rfl) d_Mo_length_82 rfl ?_
        refine ww_st (st' := []) rfl ?_
        refine ww_aload_n (pc := 85) g.1 d_Mo_length_85 rfl (lv_at hl 2 rfl) ?_
        refine ww_iload (pc := 86) g.1 d_Mo_length_86 (lv_at hl 1 rfl) ?_
        refine ww_pI (pc := 88) g (k := 75) cl_Mo (pz rfl (by decide)) (by decide) (Or.inl kw_192) rfl (f := 75) rfl rfl rfl rfl d_Mo_length_88 h fun s hs h => ?_
        refine ww_aload_n (pc := 91) g.1 d_Mo_length_91 rfl (lv_at hl 2 rfl) ?_
        refine ww_lload (pc := 92) g.1 d_Mo_length_92 (lv_at hl 0 rfl) ?_
        refine ww_pL (pc := 94) g (k := 76) cl_Mo (pz rfl (by decide)) (by decide) (Or.inl kw_194) rfl (f := 76) rfl rfl rfl rfl d_Mo_length_94 h fun s hs h => ?_
        refine ww_aload_n (pc := 97) g.1 d_Mo_length_97 rfl (lv_at hl 2 rfl) ?_
        refine ww_iconst (pc := 98) g.1 (v := 1) d_Mo_length_98 (by decide) ?_
        refine ww_pI (pc := 99) g (k := 73) cl_Mo (pz rfl (by decide)) (by decide) (Or.inl kw_75) rfl (f := 73) rfl rfl rfl rfl d_Mo_length_99 h fun s hs h => ?_
        refine ww_goto (pc := 102) (tgt := 119) g.1 d_Mo_length_102 (by decide) ?_
        exact ww_vretH (pc := 119) g h hR d_Mo_length_119
    · refine ww_aload_n (pc := 29) g.1 d_Mo_length_29 rfl (lv_at hl 0 rfl) ?_
      refine ww_iconst (pc := 30) g.1 (v := 2) d_Mo_length_30 (by decide) ?_
      obtain ⟨v31, s, hc31, h⟩ := oB_of h
      refine ww_callV (pc := 31) (rest := []) g cv_Mo_raise (Or.inl kw_157) cl_Mo (pz rfl (by decide)) (ct_Mo_raise hc31) ⟨by decide, by decide⟩ rfl hl.1 (Nat.le_of_ble_eq_true rfl) d_Mo_length_31 rfl ?_
      refine ww_st (st' := [.int v31]) rfl ?_
      refine ww_pop (pc := 34) g.1 d_Mo_length_34 rfl ?_
      refine ww_goto (pc := 35) (tgt := 119) g.1 d_Mo_length_35 (by decide) ?_
      exact ww_vretH (pc := 119) g h hR d_Mo_length_119
  · refine ww_aload (pc := 5) g.1 d_Mo_length_5 (lv_at hl 4 rfl) ?_
    refine ww_iload (pc := 7) g.1 d_Mo_length_7 (lv_at hl 5 rfl) ?_
    refine ww_iconst (pc := 9) g.1 (v := 3) d_Mo_length_9 (by decide) ?_
    refine ww_aload_n (pc := 10) g.1 d_Mo_length_10 rfl (lv_at hl 0 rfl) ?_
    refine ww_gR (pc := 11) g (k := 50) cl_Mo (pz rfl (by decide)) (by decide) (Or.inl kw_91) (f := 50) (t := 63) rfl rfl rfl d_Mo_length_11 ?_
    refine ww_lload_n (pc := 14) g.1 d_Mo_length_14 rfl (lv_at hl 3 rfl) ?_
    refine ww_l2i (pc := 15) g.1 (v := l3.toInt32) d_Mo_length_15 rfl ?_
    refine ww_ai (pc := 16) g (pz rfl (by decide)) rfl rfl d_Mo_length_16 h fun v16 h => ?_
    refine ww_i2l (pc := 17) g.1 (v := v16.toInt64) d_Mo_length_17 rfl ?_
    obtain ⟨v18, s, hc18, h⟩ := oB_of h
    refine ww_callV (pc := 18) (rest := []) g cv_Va_set (Or.inl kw_99) (cl_Va hp0) (vok_p hp0).1 (ct_Va_set hp0 hc18) ⟨by decide, by decide⟩ rfl hl.1 (Nat.le_of_ble_eq_true rfl) d_Mo_length_18 rfl ?_
    refine ww_st (st' := []) rfl ?_
    refine ww_goto (pc := 21) (tgt := 119) g.1 d_Mo_length_21 (by decide) ?_
    exact ww_vretH (pc := 119) g h hR d_Mo_length_119

abbrev b_Mo_compare : ByteArray := prog_14_method_126_code
def y_Mo_compare : MethodName := ⟨R_Mo, "compare", "(LLuaMachineModel$Thread_;IIII)V"⟩
abbrev w_Mo_compare : List Cond := .code y_Mo_compare b_Mo_compare 14 none :: wA
set_option maxRecDepth 20000 in
theorem k_Mo_compare : Cond.code y_Mo_compare b_Mo_compare 14 none ∈ wA := kinm (show _ ∈ tables_1 from (List.mem_append_right _ (List.mem_append_right _ (List.mem_append_right _ (List.mem_append_right _ (List.mem_append_right _ (List.mem_append_right _ (List.mem_append_right _ (List.mem_append_right _ (List.mem_append_right _ (List.mem_append_right _ (List.mem_append_right _ (List.mem_append_right _ (List.mem_append_left _ (List.mem_of_getElem? (l := tables_1_13) (i := 198) rfl))))))))))))))) rfl
theorem d_Mo_compare_0 : decode b_Mo_compare 0 = .ok (.aload_n 0, 1) := by decide +kernel
theorem d_Mo_compare_1 : decode b_Mo_compare 1 = .ok (.aload_n 1, 1) := by decide +kernel
theorem d_Mo_compare_2 : decode b_Mo_compare 2 = .ok (.iload_n 2, 1) := by decide +kernel
theorem d_Mo_compare_3 : decode b_Mo_compare 3 = .ok (.iload_n 3, 1) := by decide +kernel
theorem d_Mo_compare_4 : decode b_Mo_compare 4 = .ok (.iload 4, 2) := by decide +kernel
theorem d_Mo_compare_6 : decode b_Mo_compare 6 = .ok (.invokestatic 482, 3) := by decide +kernel
theorem d_Mo_compare_9 : decode b_Mo_compare 9 = .ok (.invokevirtual 929, 3) := by decide +kernel
theorem d_Mo_compare_12 : decode b_Mo_compare 12 = .ok (.aload_n 0, 1) := by decide +kernel
theorem d_Mo_compare_13 : decode b_Mo_compare 13 = .ok (.getfield 437, 3) := by decide +kernel
theorem d_Mo_compare_16 : decode b_Mo_compare 16 = .ok (.istore 6, 2) := by decide +kernel
theorem d_Mo_compare_18 : decode b_Mo_compare 18 = .ok (.aload_n 0, 1) := by decide +kernel
theorem d_Mo_compare_19 : decode b_Mo_compare 19 = .ok (.getfield 440, 3) := by decide +kernel
theorem d_Mo_compare_22 : decode b_Mo_compare 22 = .ok (.lstore 7, 2) := by decide +kernel
theorem d_Mo_compare_24 : decode b_Mo_compare 24 = .ok (.aload_n 0, 1) := by decide +kernel
theorem d_Mo_compare_25 : decode b_Mo_compare 25 = .ok (.aload_n 1, 1) := by decide +kernel
theorem d_Mo_compare_26 : decode b_Mo_compare 26 = .ok (.iload_n 2, 1) := by decide +kernel
theorem d_Mo_compare_27 : decode b_Mo_compare 27 = .ok (.iload_n 3, 1) := by decide +kernel
theorem d_Mo_compare_28 : decode b_Mo_compare 28 = .ok (.iload 4, 2) := by decide +kernel
theorem d_Mo_compare_30 : decode b_Mo_compare 30 = .ok (.invokestatic 479, 3) := by decide +kernel
theorem d_Mo_compare_33 : decode b_Mo_compare 33 = .ok (.invokevirtual 929, 3) := by decide +kernel
theorem d_Mo_compare_36 : decode b_Mo_compare 36 = .ok (.aload_n 0, 1) := by decide +kernel
theorem d_Mo_compare_37 : decode b_Mo_compare 37 = .ok (.getfield 437, 3) := by decide +kernel
theorem d_Mo_compare_40 : decode b_Mo_compare 40 = .ok (.istore 9, 2) := by decide +kernel
theorem d_Mo_compare_42 : decode b_Mo_compare 42 = .ok (.aload_n 0, 1) := by decide +kernel
theorem d_Mo_compare_43 : decode b_Mo_compare 43 = .ok (.getfield 440, 3) := by decide +kernel
theorem d_Mo_compare_46 : decode b_Mo_compare 46 = .ok (.lstore 10, 2) := by decide +kernel
theorem d_Mo_compare_48 : decode b_Mo_compare 48 = .ok (.iload 5, 2) := by decide +kernel
theorem d_Mo_compare_50 : decode b_Mo_compare 50 = .ok (.bipush 31, 2) := by decide +kernel
theorem d_Mo_compare_52 : decode b_Mo_compare 52 = .ok (.if_icmp .ne 71, 3) := by decide +kernel
theorem d_Mo_compare_55 : decode b_Mo_compare 55 = .ok (.iload 6, 2) := by decide +kernel
theorem d_Mo_compare_57 : decode b_Mo_compare 57 = .ok (.iload 9, 2) := by decide +kernel
theorem d_Mo_compare_59 : decode b_Mo_compare 59 = .ok (.if_icmp .ne 15, 3) := by decide +kernel
theorem d_Mo_compare_62 : decode b_Mo_compare 62 = .ok (.lload 7, 2) := by decide +kernel
theorem d_Mo_compare_64 : decode b_Mo_compare 64 = .ok (.lload 10, 2) := by decide +kernel
theorem d_Mo_compare_66 : decode b_Mo_compare 66 = .ok (.lcmp, 1) := by decide +kernel
theorem d_Mo_compare_67 : decode b_Mo_compare 67 = .ok (.ifCond .ne 7, 3) := by decide +kernel
theorem d_Mo_compare_70 : decode b_Mo_compare 70 = .ok (.iconst 1, 1) := by decide +kernel
theorem d_Mo_compare_71 : decode b_Mo_compare 71 = .ok (.goto 4, 3) := by decide +kernel
theorem d_Mo_compare_74 : decode b_Mo_compare 74 = .ok (.iconst 0, 1) := by decide +kernel
theorem d_Mo_compare_75 : decode b_Mo_compare 75 = .ok (.istore 12, 2) := by decide +kernel
theorem d_Mo_compare_77 : decode b_Mo_compare 77 = .ok (.iload 12, 2) := by decide +kernel
theorem d_Mo_compare_79 : decode b_Mo_compare 79 = .ok (.ifCond .ne 203, 3) := by decide +kernel
theorem d_Mo_compare_82 : decode b_Mo_compare 82 = .ok (.iload 6, 2) := by decide +kernel
theorem d_Mo_compare_84 : decode b_Mo_compare 84 = .ok (.iconst 5, 1) := by decide +kernel
theorem d_Mo_compare_85 : decode b_Mo_compare 85 = .ok (.if_icmp .ne 197, 3) := by decide +kernel
theorem d_Mo_compare_88 : decode b_Mo_compare 88 = .ok (.iload 9, 2) := by decide +kernel
theorem d_Mo_compare_90 : decode b_Mo_compare 90 = .ok (.iconst 5, 1) := by decide +kernel
theorem d_Mo_compare_91 : decode b_Mo_compare 91 = .ok (.if_icmp .ne 191, 3) := by decide +kernel
theorem d_Mo_compare_94 : decode b_Mo_compare 94 = .ok (.aload_n 0, 1) := by decide +kernel
theorem d_Mo_compare_95 : decode b_Mo_compare 95 = .ok (.iconst 2, 1) := by decide +kernel
theorem d_Mo_compare_96 : decode b_Mo_compare 96 = .ok (.iload 4, 2) := by decide +kernel
theorem d_Mo_compare_98 : decode b_Mo_compare 98 = .ok (.invokestatic 495, 3) := by decide +kernel
theorem d_Mo_compare_101 : decode b_Mo_compare 101 = .ok (.iconst 1, 1) := by decide +kernel
theorem d_Mo_compare_102 : decode b_Mo_compare 102 = .ok (.invokevirtual 947, 3) := by decide +kernel
theorem d_Mo_compare_105 : decode b_Mo_compare 105 = .ok (.aload_n 0, 1) := by decide +kernel
theorem d_Mo_compare_106 : decode b_Mo_compare 106 = .ok (.bipush 17, 2) := by decide +kernel
theorem d_Mo_compare_108 : decode b_Mo_compare 108 = .ok (.iload 6, 2) := by decide +kernel
theorem d_Mo_compare_110 : decode b_Mo_compare 110 = .ok (.lload 7, 2) := by decide +kernel
theorem d_Mo_compare_112 : decode b_Mo_compare 112 = .ok (.iload 9, 2) := by decide +kernel
theorem d_Mo_compare_114 : decode b_Mo_compare 114 = .ok (.lload 10, 2) := by decide +kernel
theorem d_Mo_compare_116 : decode b_Mo_compare 116 = .ok (.invokevirtual 956, 3) := by decide +kernel
theorem d_Mo_compare_119 : decode b_Mo_compare 119 = .ok (.ifCond .eq 163, 3) := by decide +kernel
theorem d_Mo_compare_122 : decode b_Mo_compare 122 = .ok (.return_, 1) := by decide +kernel
theorem d_Mo_compare_123 : decode b_Mo_compare 123 = .ok (.iload 6, 2) := by decide +kernel
theorem d_Mo_compare_125 : decode b_Mo_compare 125 = .ok (.iconst 3, 1) := by decide +kernel
theorem d_Mo_compare_126 : decode b_Mo_compare 126 = .ok (.if_icmp .ne 50, 3) := by decide +kernel
theorem d_Mo_compare_129 : decode b_Mo_compare 129 = .ok (.iload 9, 2) := by decide +kernel
theorem d_Mo_compare_131 : decode b_Mo_compare 131 = .ok (.iconst 3, 1) := by decide +kernel
theorem d_Mo_compare_132 : decode b_Mo_compare 132 = .ok (.if_icmp .ne 44, 3) := by decide +kernel
theorem d_Mo_compare_135 : decode b_Mo_compare 135 = .ok (.iload 5, 2) := by decide +kernel
theorem d_Mo_compare_137 : decode b_Mo_compare 137 = .ok (.bipush 32, 2) := by decide +kernel
theorem d_Mo_compare_139 : decode b_Mo_compare 139 = .ok (.if_icmp .ne 19, 3) := by decide +kernel
theorem d_Mo_compare_142 : decode b_Mo_compare 142 = .ok (.lload 7, 2) := by decide +kernel
theorem d_Mo_compare_144 : decode b_Mo_compare 144 = .ok (.lload 10, 2) := by decide +kernel
theorem d_Mo_compare_146 : decode b_Mo_compare 146 = .ok (.lcmp, 1) := by decide +kernel
theorem d_Mo_compare_147 : decode b_Mo_compare 147 = .ok (.ifCond .ge 7, 3) := by decide +kernel
theorem d_Mo_compare_150 : decode b_Mo_compare 150 = .ok (.iconst 1, 1) := by decide +kernel
theorem d_Mo_compare_151 : decode b_Mo_compare 151 = .ok (.goto 20, 3) := by decide +kernel
theorem d_Mo_compare_154 : decode b_Mo_compare 154 = .ok (.iconst 0, 1) := by decide +kernel
theorem d_Mo_compare_155 : decode b_Mo_compare 155 = .ok (.goto 16, 3) := by decide +kernel
theorem d_Mo_compare_158 : decode b_Mo_compare 158 = .ok (.lload 7, 2) := by decide +kernel
theorem d_Mo_compare_160 : decode b_Mo_compare 160 = .ok (.lload 10, 2) := by decide +kernel
theorem d_Mo_compare_162 : decode b_Mo_compare 162 = .ok (.lcmp, 1) := by decide +kernel
theorem d_Mo_compare_163 : decode b_Mo_compare 163 = .ok (.ifCond .gt 7, 3) := by decide +kernel
theorem d_Mo_compare_166 : decode b_Mo_compare 166 = .ok (.iconst 1, 1) := by decide +kernel
theorem d_Mo_compare_167 : decode b_Mo_compare 167 = .ok (.goto 4, 3) := by decide +kernel
theorem d_Mo_compare_170 : decode b_Mo_compare 170 = .ok (.iconst 0, 1) := by decide +kernel
theorem d_Mo_compare_171 : decode b_Mo_compare 171 = .ok (.istore 12, 2) := by decide +kernel
theorem d_Mo_compare_173 : decode b_Mo_compare 173 = .ok (.goto 109, 3) := by decide +kernel
theorem d_Mo_compare_176 : decode b_Mo_compare 176 = .ok (.iload 6, 2) := by decide +kernel
theorem d_Mo_compare_178 : decode b_Mo_compare 178 = .ok (.iconst 4, 1) := by decide +kernel
theorem d_Mo_compare_179 : decode b_Mo_compare 179 = .ok (.if_icmp .ne 56, 3) := by decide +kernel
theorem d_Mo_compare_182 : decode b_Mo_compare 182 = .ok (.iload 9, 2) := by decide +kernel
theorem d_Mo_compare_184 : decode b_Mo_compare 184 = .ok (.iconst 4, 1) := by decide +kernel
theorem d_Mo_compare_185 : decode b_Mo_compare 185 = .ok (.if_icmp .ne 50, 3) := by decide +kernel
theorem d_Mo_compare_188 : decode b_Mo_compare 188 = .ok (.aload_n 0, 1) := by decide +kernel
theorem d_Mo_compare_189 : decode b_Mo_compare 189 = .ok (.lload 7, 2) := by decide +kernel
theorem d_Mo_compare_191 : decode b_Mo_compare 191 = .ok (.l2i, 1) := by decide +kernel
theorem d_Mo_compare_192 : decode b_Mo_compare 192 = .ok (.lload 10, 2) := by decide +kernel
theorem d_Mo_compare_194 : decode b_Mo_compare 194 = .ok (.l2i, 1) := by decide +kernel
theorem d_Mo_compare_195 : decode b_Mo_compare 195 = .ok (.invokevirtual 988, 3) := by decide +kernel
theorem d_Mo_compare_198 : decode b_Mo_compare 198 = .ok (.istore 13, 2) := by decide +kernel
theorem d_Mo_compare_200 : decode b_Mo_compare 200 = .ok (.iload 5, 2) := by decide +kernel
theorem d_Mo_compare_202 : decode b_Mo_compare 202 = .ok (.bipush 32, 2) := by decide +kernel
theorem d_Mo_compare_204 : decode b_Mo_compare 204 = .ok (.if_icmp .ne 16, 3) := by decide +kernel
theorem d_Mo_compare_207 : decode b_Mo_compare 207 = .ok (.iload 13, 2) := by decide +kernel
theorem d_Mo_compare_209 : decode b_Mo_compare 209 = .ok (.ifCond .ge 7, 3) := by decide +kernel
theorem d_Mo_compare_212 : decode b_Mo_compare 212 = .ok (.iconst 1, 1) := by decide +kernel
theorem d_Mo_compare_213 : decode b_Mo_compare 213 = .ok (.goto 17, 3) := by decide +kernel
theorem d_Mo_compare_216 : decode b_Mo_compare 216 = .ok (.iconst 0, 1) := by decide +kernel
theorem d_Mo_compare_217 : decode b_Mo_compare 217 = .ok (.goto 13, 3) := by decide +kernel
theorem d_Mo_compare_220 : decode b_Mo_compare 220 = .ok (.iload 13, 2) := by decide +kernel
theorem d_Mo_compare_222 : decode b_Mo_compare 222 = .ok (.ifCond .gt 7, 3) := by decide +kernel
theorem d_Mo_compare_225 : decode b_Mo_compare 225 = .ok (.iconst 1, 1) := by decide +kernel
theorem d_Mo_compare_226 : decode b_Mo_compare 226 = .ok (.goto 4, 3) := by decide +kernel
theorem d_Mo_compare_229 : decode b_Mo_compare 229 = .ok (.iconst 0, 1) := by decide +kernel
theorem d_Mo_compare_230 : decode b_Mo_compare 230 = .ok (.istore 12, 2) := by decide +kernel
theorem d_Mo_compare_232 : decode b_Mo_compare 232 = .ok (.goto 50, 3) := by decide +kernel
theorem d_Mo_compare_235 : decode b_Mo_compare 235 = .ok (.aload_n 0, 1) := by decide +kernel
theorem d_Mo_compare_236 : decode b_Mo_compare 236 = .ok (.iconst 2, 1) := by decide +kernel
theorem d_Mo_compare_237 : decode b_Mo_compare 237 = .ok (.iload 4, 2) := by decide +kernel
theorem d_Mo_compare_239 : decode b_Mo_compare 239 = .ok (.invokestatic 495, 3) := by decide +kernel
theorem d_Mo_compare_242 : decode b_Mo_compare 242 = .ok (.iconst 1, 1) := by decide +kernel
theorem d_Mo_compare_243 : decode b_Mo_compare 243 = .ok (.invokevirtual 947, 3) := by decide +kernel
theorem d_Mo_compare_246 : decode b_Mo_compare 246 = .ok (.aload_n 0, 1) := by decide +kernel
theorem d_Mo_compare_247 : decode b_Mo_compare 247 = .ok (.iload 5, 2) := by decide +kernel
theorem d_Mo_compare_249 : decode b_Mo_compare 249 = .ok (.bipush 32, 2) := by decide +kernel
theorem d_Mo_compare_251 : decode b_Mo_compare 251 = .ok (.if_icmp .ne 8, 3) := by decide +kernel
theorem d_Mo_compare_254 : decode b_Mo_compare 254 = .ok (.bipush 18, 2) := by decide +kernel
theorem d_Mo_compare_256 : decode b_Mo_compare 256 = .ok (.goto 5, 3) := by decide +kernel
theorem d_Mo_compare_259 : decode b_Mo_compare 259 = .ok (.bipush 19, 2) := by decide +kernel
theorem d_Mo_compare_261 : decode b_Mo_compare 261 = .ok (.iload 6, 2) := by decide +kernel
theorem d_Mo_compare_263 : decode b_Mo_compare 263 = .ok (.lload 7, 2) := by decide +kernel
theorem d_Mo_compare_265 : decode b_Mo_compare 265 = .ok (.iload 9, 2) := by decide +kernel
theorem d_Mo_compare_267 : decode b_Mo_compare 267 = .ok (.lload 10, 2) := by decide +kernel
theorem d_Mo_compare_269 : decode b_Mo_compare 269 = .ok (.invokevirtual 956, 3) := by decide +kernel
theorem d_Mo_compare_272 : decode b_Mo_compare 272 = .ok (.ifCond .ne 9, 3) := by decide +kernel
theorem d_Mo_compare_275 : decode b_Mo_compare 275 = .ok (.aload_n 0, 1) := by decide +kernel
theorem d_Mo_compare_276 : decode b_Mo_compare 276 = .ok (.iconst 3, 1) := by decide +kernel
theorem d_Mo_compare_277 : decode b_Mo_compare 277 = .ok (.invokevirtual 517, 3) := by decide +kernel
theorem d_Mo_compare_280 : decode b_Mo_compare 280 = .ok (.pop, 1) := by decide +kernel
theorem d_Mo_compare_281 : decode b_Mo_compare 281 = .ok (.return_, 1) := by decide +kernel
theorem d_Mo_compare_282 : decode b_Mo_compare 282 = .ok (.iload 12, 2) := by decide +kernel
theorem d_Mo_compare_284 : decode b_Mo_compare 284 = .ok (.iload 4, 2) := by decide +kernel
theorem d_Mo_compare_286 : decode b_Mo_compare 286 = .ok (.invokestatic 495, 3) := by decide +kernel
theorem d_Mo_compare_289 : decode b_Mo_compare 289 = .ok (.iconst 1, 1) := by decide +kernel
theorem d_Mo_compare_290 : decode b_Mo_compare 290 = .ok (.if_icmp .ne 7, 3) := by decide +kernel
theorem d_Mo_compare_293 : decode b_Mo_compare 293 = .ok (.iconst 1, 1) := by decide +kernel
theorem d_Mo_compare_294 : decode b_Mo_compare 294 = .ok (.goto 4, 3) := by decide +kernel
theorem d_Mo_compare_297 : decode b_Mo_compare 297 = .ok (.iconst 0, 1) := by decide +kernel
theorem d_Mo_compare_298 : decode b_Mo_compare 298 = .ok (.if_icmp .eq 13, 3) := by decide +kernel
theorem d_Mo_compare_301 : decode b_Mo_compare 301 = .ok (.aload_n 1, 1) := by decide +kernel
theorem d_Mo_compare_302 : decode b_Mo_compare 302 = .ok (.getfield 758, 3) := by decide +kernel
theorem d_Mo_compare_305 : decode b_Mo_compare 305 = .ok (.iload_n 2, 1) := by decide +kernel
theorem d_Mo_compare_306 : decode b_Mo_compare 306 = .ok (.dup2, 1) := by decide +kernel
theorem d_Mo_compare_307 : decode b_Mo_compare 307 = .ok (.iaload, 1) := by decide +kernel
theorem d_Mo_compare_308 : decode b_Mo_compare 308 = .ok (.iconst 1, 1) := by decide +kernel
theorem d_Mo_compare_309 : decode b_Mo_compare 309 = .ok (.iadd, 1) := by decide +kernel
theorem d_Mo_compare_310 : decode b_Mo_compare 310 = .ok (.iastore, 1) := by decide +kernel
theorem d_Mo_compare_311 : decode b_Mo_compare 311 = .ok (.return_, 1) := by decide +kernel
theorem kw_431 : Cond.methodLink R_Mo 988 y_Mo_order ∈ wA := kinm (show _ ∈ tables_1 from (List.mem_append_right _ (List.mem_append_right _ (List.mem_append_right _ (List.mem_append_right _ (List.mem_append_right _ (List.mem_append_right _ (List.mem_append_right _ (List.mem_append_right _ (List.mem_append_right _ (List.mem_append_right _ (List.mem_append_right _ (List.mem_append_right _ (List.mem_append_left _ (List.mem_of_getElem? (l := tables_1_13) (i := 199) (by decide +kernel)))))))))))))))) (by decide +kernel)
theorem kw_432 : Cond.instanceMethod y_Mo_compare ∈ wA := kinm (show _ ∈ tables_1 from (List.mem_append_right _ (List.mem_append_right _ (List.mem_append_right _ (List.mem_append_right _ (List.mem_append_right _ (List.mem_append_right _ (List.mem_append_right _ (List.mem_append_right _ (List.mem_append_right _ (List.mem_append_right _ (List.mem_append_right _ (List.mem_append_right _ (List.mem_append_left _ (List.mem_of_getElem? (l := tables_1_13) (i := 197) (by decide +kernel)))))))))))))))) (by decide +kernel)
theorem kw_433 : Cond.selects R_Mo y_Mo_compare y_Mo_compare ∈ wA := kinp 216 (by decide +kernel) (by decide +kernel)
theorem cv_Mo_compare : CV y_Mo_compare b_Mo_compare 14 none 5 := ⟨kw_432, kw_433, kw_17, k_Mo_compare, by decide +kernel⟩
theorem j_Mo_compare_j261 {X : Cx} {q : PL} (g : Gd X y_Mo_compare b_Mo_compare 14 none 6 153 R_Mo) {o : (Unit) × S1} (hR : Rt X q o.2 none) (l6 : Int32) (l7 : Int64) (l9 : Int32) (l10 : Int64) (k0 : Int32) (s : S1) (ls : Array Slot) (hl : lv_has ls 14 [(0, .ref (q.1 0 0)), (6, .int l6), (7, .long l7), (9, .int l9), (10, .long l10)]) (h : M_Mo_compare_j261 l6 l7 l9 l10 k0 s = some o) : WW X q s 261 ls [.int k0, .ref (q.1 0 0)] := by
  unfold M_Mo_compare_j261 at h
  refine ww_iload (pc := 261) g.1 d_Mo_compare_261 (lv_at hl 1 rfl) ?_
  refine ww_lload (pc := 263) g.1 d_Mo_compare_263 (lv_at hl 2 rfl) ?_
  refine ww_iload (pc := 265) g.1 d_Mo_compare_265 (lv_at hl 3 rfl) ?_
  refine ww_lload (pc := 267) g.1 d_Mo_compare_267 (lv_at hl 4 rfl) ?_
  obtain ⟨v269, s, hc269, h⟩ := oB_of h
  refine ww_callV (pc := 269) (rest := []) g cv_Mo_either (Or.inl kw_424) cl_Mo (pz rfl (by decide)) (ct_Mo_either hc269) ⟨by decide, by decide⟩ rfl hl.1 (Nat.le_of_ble_eq_true rfl) d_Mo_compare_269 rfl ?_
  refine ww_st (st' := [.int v269]) rfl ?_
  refine ww_if_ne (pc := 272) (tgt := 281) g.1 d_Mo_compare_272 (by decide) h (fun c h => ?_) (fun c h => ?_)
  · exact ww_vretH (pc := 281) g h hR d_Mo_compare_281
  · refine ww_aload_n (pc := 275) g.1 d_Mo_compare_275 rfl (lv_at hl 0 rfl) ?_
    refine ww_iconst (pc := 276) g.1 (v := 3) d_Mo_compare_276 (by decide) ?_
    obtain ⟨v277, s, hc277, h⟩ := oB_of h
    refine ww_callV (pc := 277) (rest := []) g cv_Mo_raise (Or.inl kw_157) cl_Mo (pz rfl (by decide)) (ct_Mo_raise hc277) ⟨by decide, by decide⟩ rfl hl.1 (Nat.le_of_ble_eq_true rfl) d_Mo_compare_277 rfl ?_
    refine ww_st (st' := [.int v277]) rfl ?_
    refine ww_pop (pc := 280) g.1 d_Mo_compare_280 rfl ?_
    exact ww_vretH (pc := 281) g h hR d_Mo_compare_281

theorem j_Mo_compare_j235 {X : Cx} {q : PL} (g : Gd X y_Mo_compare b_Mo_compare 14 none 6 153 R_Mo) {o : (Unit) × S1} (hR : Rt X q o.2 none) (l4 : Int32) (l5 : Int32) (l6 : Int32) (l7 : Int64) (l9 : Int32) (l10 : Int64) (s : S1) (ls : Array Slot) (hl : lv_has ls 14 [(0, .ref (q.1 0 0)), (4, .int l4), (5, .int l5), (6, .int l6), (7, .long l7), (9, .int l9), (10, .long l10)]) (h : M_Mo_compare_j235 l4 l5 l6 l7 l9 l10 s = some o) : WW X q s 235 ls [] := by
  unfold M_Mo_compare_j235 at h
  refine ww_aload_n (pc := 235) g.1 d_Mo_compare_235 rfl (lv_at hl 0 rfl) ?_
  refine ww_iconst (pc := 236) g.1 (v := 2) d_Mo_compare_236 (by decide) ?_
  refine ww_iload (pc := 237) g.1 d_Mo_compare_237 (lv_at hl 1 rfl) ?_
  obtain ⟨v239, s, hc239, h⟩ := oB_of h
  refine ww_callS (pc := 239) (rest := [.int 2, .ref (q.1 0 0)]) g cs_Mo_a (Or.inl kw_280) (ct_Mo_a hc239) ⟨by decide, by decide⟩ rfl hl.1 (Nat.le_of_ble_eq_true rfl) d_Mo_compare_239 rfl ?_
  refine ww_st (st' := [.int v239, .int 2, .ref (q.1 0 0)]) rfl ?_
  refine ww_iconst (pc := 242) g.1 (v := 1) d_Mo_compare_242 (by decide) ?_
  obtain ⟨v243, s, hc243, h⟩ := oB_of h
  refine ww_callV (pc := 243) (rest := []) g cv_Mo_expect (Or.inl kw_415) cl_Mo (pz rfl (by decide)) (ct_Mo_expect hc243) ⟨by decide, by decide⟩ rfl hl.1 (Nat.le_of_ble_eq_true rfl) d_Mo_compare_243 rfl ?_
  refine ww_st (st' := []) rfl ?_
  refine ww_aload_n (pc := 246) g.1 d_Mo_compare_246 rfl (lv_at hl 0 rfl) ?_
  refine ww_iload (pc := 247) g.1 d_Mo_compare_247 (lv_at hl 2 rfl) ?_
  refine ww_bipush (pc := 249) g.1 (v := 32) d_Mo_compare_249 (by decide) ?_
  refine ww_icmp_ne (pc := 251) (tgt := 259) g.1 d_Mo_compare_251 (by decide) h (fun c h => ?_) (fun c h => ?_)
  · refine ww_bipush (pc := 259) g.1 (v := 19) d_Mo_compare_259 (by decide) ?_
    exact j_Mo_compare_j261 g hR l6 l7 l9 l10 19 s ls (lv_sub hl [0, 3, 4, 5, 6] rfl) h
  · refine ww_bipush (pc := 254) g.1 (v := 18) d_Mo_compare_254 (by decide) ?_
    refine ww_goto (pc := 256) (tgt := 261) g.1 d_Mo_compare_256 (by decide) ?_
    exact j_Mo_compare_j261 g hR l6 l7 l9 l10 18 s ls (lv_sub hl [0, 3, 4, 5, 6] rfl) h

theorem j_Mo_compare_j298 {X : Cx} {q : PL} (g : Gd X y_Mo_compare b_Mo_compare 14 none 6 153 R_Mo) {o : (Unit) × S1} (hR : Rt X q o.2 none) (l1 : Int32) (l2 : Int32) (k0 : Int32) (k1 : Int32) (s : S1) (hp0 : 0 ≤ l1 ∧ l1 < 33) (ls : Array Slot) (hl : lv_has ls 14 [(1, .ref (q.1 28 l1)), (2, .int l2)]) (h : M_Mo_compare_j298 l1 l2 k0 k1 s = some o) : WW X q s 298 ls [.int k0, .int k1] := by
  unfold M_Mo_compare_j298 at h
  refine ww_icmp_eq (pc := 298) (tgt := 311) g.1 d_Mo_compare_298 (by decide) h (fun c h => ?_) (fun c h => ?_)
  · exact ww_vretH (pc := 311) g h hR d_Mo_compare_311
  · refine ww_aload_n (pc := 301) g.1 d_Mo_compare_301 rfl (lv_at hl 0 rfl) ?_
    refine ww_gR (pc := 302) g (k := 13) cl_Th (pt rfl rfl hp0) (by decide) (Or.inl kw_274) (f := 3597) (t := 32) rfl rfl rfl d_Mo_compare_302 ?_
    refine ww_iload_n (pc := 305) g.1 d_Mo_compare_305 rfl (lv_at hl 1 rfl) ?_
    refine ww_dup2_11 (pc := 306) g.1 d_Mo_compare_306 rfl rfl ?_
    refine ww_ai (pc := 307) g (pt rfl rfl hp0) rfl rfl d_Mo_compare_307 h fun v307 h => ?_
    refine ww_iconst (pc := 308) g.1 (v := 1) d_Mo_compare_308 (by decide) ?_
    refine ww_iadd (pc := 309) g.1 d_Mo_compare_309 ?_
    refine ww_si (pc := 310) g (pt rfl rfl hp0) rfl rfl d_Mo_compare_310 h fun s hs h => ?_
    exact ww_vretH (pc := 311) g h hR d_Mo_compare_311

theorem j_Mo_compare_j282 {X : Cx} {q : PL} (g : Gd X y_Mo_compare b_Mo_compare 14 none 6 153 R_Mo) {o : (Unit) × S1} (hR : Rt X q o.2 none) (l1 : Int32) (l2 : Int32) (l4 : Int32) (l12 : Int32) (s : S1) (hp0 : 0 ≤ l1 ∧ l1 < 33) (ls : Array Slot) (hl : lv_has ls 14 [(1, .ref (q.1 28 l1)), (2, .int l2), (4, .int l4), (12, .int l12)]) (h : M_Mo_compare_j282 l1 l2 l4 l12 s = some o) : WW X q s 282 ls [] := by
  unfold M_Mo_compare_j282 at h
  refine ww_iload (pc := 282) g.1 d_Mo_compare_282 (lv_at hl 3 rfl) ?_
  refine ww_iload (pc := 284) g.1 d_Mo_compare_284 (lv_at hl 2 rfl) ?_
  obtain ⟨v286, s, hc286, h⟩ := oB_of h
  refine ww_callS (pc := 286) (rest := [.int l12]) g cs_Mo_a (Or.inl kw_280) (ct_Mo_a hc286) ⟨by decide, by decide⟩ rfl hl.1 (Nat.le_of_ble_eq_true rfl) d_Mo_compare_286 rfl ?_
  refine ww_st (st' := [.int v286, .int l12]) rfl ?_
  refine ww_iconst (pc := 289) g.1 (v := 1) d_Mo_compare_289 (by decide) ?_
  refine ww_icmp_ne (pc := 290) (tgt := 297) g.1 d_Mo_compare_290 (by decide) h (fun c h => ?_) (fun c h => ?_)
  · refine ww_iconst (pc := 297) g.1 (v := 0) d_Mo_compare_297 (by decide) ?_
    exact j_Mo_compare_j298 g hR l1 l2 0 l12 s hp0 ls (lv_sub hl [0, 1] rfl) h
  · refine ww_iconst (pc := 293) g.1 (v := 1) d_Mo_compare_293 (by decide) ?_
    refine ww_goto (pc := 294) (tgt := 298) g.1 d_Mo_compare_294 (by decide) ?_
    exact j_Mo_compare_j298 g hR l1 l2 1 l12 s hp0 ls (lv_sub hl [0, 1] rfl) h

theorem j_Mo_compare_j230 {X : Cx} {q : PL} (g : Gd X y_Mo_compare b_Mo_compare 14 none 6 153 R_Mo) {o : (Unit) × S1} (hR : Rt X q o.2 none) (l1 : Int32) (l2 : Int32) (l4 : Int32) (k0 : Int32) (s : S1) (hp0 : 0 ≤ l1 ∧ l1 < 33) (ls : Array Slot) (hl : lv_has ls 14 [(1, .ref (q.1 28 l1)), (2, .int l2), (4, .int l4)]) (h : M_Mo_compare_j230 l1 l2 l4 k0 s = some o) : WW X q s 230 ls [.int k0] := by
  unfold M_Mo_compare_j230 at h
  refine ww_istore (pc := 230) (i := 12) g.1 (lv' := [(12, .int k0), (1, .ref (q.1 28 l1)), (2, .int l2), (4, .int l4)]) d_Mo_compare_230 hl (by decide) rfl fun ls hl => ?_
  refine ww_goto (pc := 232) (tgt := 282) g.1 d_Mo_compare_232 (by decide) ?_
  exact j_Mo_compare_j282 g hR l1 l2 l4 k0 s hp0 ls (lv_sub hl [1, 2, 3, 0] rfl) h

theorem j_Mo_compare_j176 {X : Cx} {q : PL} (g : Gd X y_Mo_compare b_Mo_compare 14 none 6 153 R_Mo) {o : (Unit) × S1} (hR : Rt X q o.2 none) (l1 : Int32) (l2 : Int32) (l4 : Int32) (l5 : Int32) (l6 : Int32) (l7 : Int64) (l9 : Int32) (l10 : Int64) (s : S1) (hp0 : 0 ≤ l1 ∧ l1 < 33) (ls : Array Slot) (hl : lv_has ls 14 [(0, .ref (q.1 0 0)), (1, .ref (q.1 28 l1)), (2, .int l2), (4, .int l4), (5, .int l5), (6, .int l6), (7, .long l7), (9, .int l9), (10, .long l10)]) (h : M_Mo_compare_j176 l1 l2 l4 l5 l6 l7 l9 l10 s = some o) : WW X q s 176 ls [] := by
  unfold M_Mo_compare_j176 at h
  refine ww_iload (pc := 176) g.1 d_Mo_compare_176 (lv_at hl 5 rfl) ?_
  refine ww_iconst (pc := 178) g.1 (v := 4) d_Mo_compare_178 (by decide) ?_
  refine ww_icmp_ne (pc := 179) (tgt := 235) g.1 d_Mo_compare_179 (by decide) h (fun c h => ?_) (fun c h => ?_)
  · exact j_Mo_compare_j235 g hR l4 l5 l6 l7 l9 l10 s ls (lv_sub hl [0, 3, 4, 5, 6, 7, 8] rfl) h
  · refine ww_iload (pc := 182) g.1 d_Mo_compare_182 (lv_at hl 7 rfl) ?_
    refine ww_iconst (pc := 184) g.1 (v := 4) d_Mo_compare_184 (by decide) ?_
    refine ww_icmp_ne (pc := 185) (tgt := 235) g.1 d_Mo_compare_185 (by decide) h (fun c h => ?_) (fun c h => ?_)
    · exact j_Mo_compare_j235 g hR l4 l5 l6 l7 l9 l10 s ls (lv_sub hl [0, 3, 4, 5, 6, 7, 8] rfl) h
    · refine ww_aload_n (pc := 188) g.1 d_Mo_compare_188 rfl (lv_at hl 0 rfl) ?_
      refine ww_lload (pc := 189) g.1 d_Mo_compare_189 (lv_at hl 6 rfl) ?_
      refine ww_l2i (pc := 191) g.1 (v := l7.toInt32) d_Mo_compare_191 rfl ?_
      refine ww_lload (pc := 192) g.1 d_Mo_compare_192 (lv_at hl 8 rfl) ?_
      refine ww_l2i (pc := 194) g.1 (v := l10.toInt32) d_Mo_compare_194 rfl ?_
      obtain ⟨v195, s, hc195, h⟩ := oB_of h
      refine ww_callV (pc := 195) (rest := []) g cv_Mo_order (Or.inl kw_431) cl_Mo (pz rfl (by decide)) (ct_Mo_order hc195) ⟨by decide, by decide⟩ rfl hl.1 (Nat.le_of_ble_eq_true rfl) d_Mo_compare_195 rfl ?_
      refine ww_st (st' := [.int v195]) rfl ?_
      refine ww_istore (pc := 198) (i := 13) g.1 (lv' := [(13, .int v195), (0, .ref (q.1 0 0)), (1, .ref (q.1 28 l1)), (2, .int l2), (4, .int l4), (5, .int l5), (6, .int l6), (7, .long l7), (9, .int l9), (10, .long l10)]) d_Mo_compare_198 hl (by decide) rfl fun ls hl => ?_
      refine ww_iload (pc := 200) g.1 d_Mo_compare_200 (lv_at hl 5 rfl) ?_
      refine ww_bipush (pc := 202) g.1 (v := 32) d_Mo_compare_202 (by decide) ?_
      refine ww_icmp_ne (pc := 204) (tgt := 220) g.1 d_Mo_compare_204 (by decide) h (fun c h => ?_) (fun c h => ?_)
      · refine ww_iload (pc := 220) g.1 d_Mo_compare_220 (lv_at hl 0 rfl) ?_
        refine ww_if_gt (pc := 222) (tgt := 229) g.1 d_Mo_compare_222 (by decide) h (fun c h => ?_) (fun c h => ?_)
        · refine ww_iconst (pc := 229) g.1 (v := 0) d_Mo_compare_229 (by decide) ?_
          exact j_Mo_compare_j230 g hR l1 l2 l4 0 s hp0 ls (lv_sub hl [2, 3, 4] rfl) h
        · refine ww_iconst (pc := 225) g.1 (v := 1) d_Mo_compare_225 (by decide) ?_
          refine ww_goto (pc := 226) (tgt := 230) g.1 d_Mo_compare_226 (by decide) ?_
          exact j_Mo_compare_j230 g hR l1 l2 l4 1 s hp0 ls (lv_sub hl [2, 3, 4] rfl) h
      · refine ww_iload (pc := 207) g.1 d_Mo_compare_207 (lv_at hl 0 rfl) ?_
        refine ww_if_ge (pc := 209) (tgt := 216) g.1 d_Mo_compare_209 (by decide) h (fun c h => ?_) (fun c h => ?_)
        · refine ww_iconst (pc := 216) g.1 (v := 0) d_Mo_compare_216 (by decide) ?_
          refine ww_goto (pc := 217) (tgt := 230) g.1 d_Mo_compare_217 (by decide) ?_
          exact j_Mo_compare_j230 g hR l1 l2 l4 0 s hp0 ls (lv_sub hl [2, 3, 4] rfl) h
        · refine ww_iconst (pc := 212) g.1 (v := 1) d_Mo_compare_212 (by decide) ?_
          refine ww_goto (pc := 213) (tgt := 230) g.1 d_Mo_compare_213 (by decide) ?_
          exact j_Mo_compare_j230 g hR l1 l2 l4 1 s hp0 ls (lv_sub hl [2, 3, 4] rfl) h

theorem j_Mo_compare_j171 {X : Cx} {q : PL} (g : Gd X y_Mo_compare b_Mo_compare 14 none 6 153 R_Mo) {o : (Unit) × S1} (hR : Rt X q o.2 none) (l1 : Int32) (l2 : Int32) (l4 : Int32) (k0 : Int32) (s : S1) (hp0 : 0 ≤ l1 ∧ l1 < 33) (ls : Array Slot) (hl : lv_has ls 14 [(1, .ref (q.1 28 l1)), (2, .int l2), (4, .int l4)]) (h : M_Mo_compare_j171 l1 l2 l4 k0 s = some o) : WW X q s 171 ls [.int k0] := by
  unfold M_Mo_compare_j171 at h
  refine ww_istore (pc := 171) (i := 12) g.1 (lv' := [(12, .int k0), (1, .ref (q.1 28 l1)), (2, .int l2), (4, .int l4)]) d_Mo_compare_171 hl (by decide) rfl fun ls hl => ?_
  refine ww_goto (pc := 173) (tgt := 282) g.1 d_Mo_compare_173 (by decide) ?_
  exact j_Mo_compare_j282 g hR l1 l2 l4 k0 s hp0 ls (lv_sub hl [1, 2, 3, 0] rfl) h

theorem j_Mo_compare_j75 {X : Cx} {q : PL} (g : Gd X y_Mo_compare b_Mo_compare 14 none 6 153 R_Mo) {o : (Unit) × S1} (hR : Rt X q o.2 none) (l1 : Int32) (l2 : Int32) (l4 : Int32) (l6 : Int32) (l7 : Int64) (l9 : Int32) (l10 : Int64) (k0 : Int32) (s : S1) (hp0 : 0 ≤ l1 ∧ l1 < 33) (ls : Array Slot) (hl : lv_has ls 14 [(0, .ref (q.1 0 0)), (1, .ref (q.1 28 l1)), (2, .int l2), (4, .int l4), (6, .int l6), (7, .long l7), (9, .int l9), (10, .long l10)]) (h : M_Mo_compare_j75 l1 l2 l4 l6 l7 l9 l10 k0 s = some o) : WW X q s 75 ls [.int k0] := by
  unfold M_Mo_compare_j75 at h
  refine ww_istore (pc := 75) (i := 12) g.1 (lv' := [(12, .int k0), (0, .ref (q.1 0 0)), (1, .ref (q.1 28 l1)), (2, .int l2), (4, .int l4), (6, .int l6), (7, .long l7), (9, .int l9), (10, .long l10)]) d_Mo_compare_75 hl (by decide) rfl fun ls hl => ?_
  refine ww_iload (pc := 77) g.1 d_Mo_compare_77 (lv_at hl 0 rfl) ?_
  refine ww_if_ne (pc := 79) (tgt := 282) g.1 d_Mo_compare_79 (by decide) h (fun c h => ?_) (fun c h => ?_)
  · exact j_Mo_compare_j282 g hR l1 l2 l4 k0 s hp0 ls (lv_sub hl [2, 3, 4, 0] rfl) h
  · refine ww_iload (pc := 82) g.1 d_Mo_compare_82 (lv_at hl 5 rfl) ?_
    refine ww_iconst (pc := 84) g.1 (v := 5) d_Mo_compare_84 (by decide) ?_
    refine ww_icmp_ne (pc := 85) (tgt := 282) g.1 d_Mo_compare_85 (by decide) h (fun c h => ?_) (fun c h => ?_)
    · exact j_Mo_compare_j282 g hR l1 l2 l4 k0 s hp0 ls (lv_sub hl [2, 3, 4, 0] rfl) h
    · refine ww_iload (pc := 88) g.1 d_Mo_compare_88 (lv_at hl 7 rfl) ?_
      refine ww_iconst (pc := 90) g.1 (v := 5) d_Mo_compare_90 (by decide) ?_
      refine ww_icmp_ne (pc := 91) (tgt := 282) g.1 d_Mo_compare_91 (by decide) h (fun c h => ?_) (fun c h => ?_)
      · exact j_Mo_compare_j282 g hR l1 l2 l4 k0 s hp0 ls (lv_sub hl [2, 3, 4, 0] rfl) h
      · refine ww_aload_n (pc := 94) g.1 d_Mo_compare_94 rfl (lv_at hl 1 rfl) ?_
        refine ww_iconst (pc := 95) g.1 (v := 2) d_Mo_compare_95 (by decide) ?_
        refine ww_iload (pc := 96) g.1 d_Mo_compare_96 (lv_at hl 4 rfl) ?_
        obtain ⟨v98, s, hc98, h⟩ := oB_of h
        refine ww_callS (pc := 98) (rest := [.int 2, .ref (q.1 0 0)]) g cs_Mo_a (Or.inl kw_280) (ct_Mo_a hc98) ⟨by decide, by decide⟩ rfl hl.1 (Nat.le_of_ble_eq_true rfl) d_Mo_compare_98 rfl ?_
        refine ww_st (st' := [.int v98, .int 2, .ref (q.1 0 0)]) rfl ?_
        refine ww_iconst (pc := 101) g.1 (v := 1) d_Mo_compare_101 (by decide) ?_
        obtain ⟨v102, s, hc102, h⟩ := oB_of h
        refine ww_callV (pc := 102) (rest := []) g cv_Mo_expect (Or.inl kw_415) cl_Mo (pz rfl (by decide)) (ct_Mo_expect hc102) ⟨by decide, by decide⟩ rfl hl.1 (Nat.le_of_ble_eq_true rfl) d_Mo_compare_102 rfl ?_
        refine ww_st (st' := []) rfl ?_
        refine ww_aload_n (pc := 105) g.1 d_Mo_compare_105 rfl (lv_at hl 1 rfl) ?_
        refine ww_bipush (pc := 106) g.1 (v := 17) d_Mo_compare_106 (by decide) ?_
        refine ww_iload (pc := 108) g.1 d_Mo_compare_108 (lv_at hl 5 rfl) ?_
        refine ww_lload (pc := 110) g.1 d_Mo_compare_110 (lv_at hl 6 rfl) ?_
        refine ww_iload (pc := 112) g.1 d_Mo_compare_112 (lv_at hl 7 rfl) ?_
        refine ww_lload (pc := 114) g.1 d_Mo_compare_114 (lv_at hl 8 rfl) ?_
        obtain ⟨v116, s, hc116, h⟩ := oB_of h
        refine ww_callV (pc := 116) (rest := []) g cv_Mo_either (Or.inl kw_424) cl_Mo (pz rfl (by decide)) (ct_Mo_either hc116) ⟨by decide, by decide⟩ rfl hl.1 (Nat.le_of_ble_eq_true rfl) d_Mo_compare_116 rfl ?_
        refine ww_st (st' := [.int v116]) rfl ?_
        refine ww_if_eq (pc := 119) (tgt := 282) g.1 d_Mo_compare_119 (by decide) h (fun c h => ?_) (fun c h => ?_)
        · exact j_Mo_compare_j282 g hR l1 l2 l4 k0 s hp0 ls (lv_sub hl [2, 3, 4, 0] rfl) h
        · exact ww_vretH (pc := 122) g h hR d_Mo_compare_122

theorem j_Mo_compare_j74 {X : Cx} {q : PL} (g : Gd X y_Mo_compare b_Mo_compare 14 none 6 153 R_Mo) {o : (Unit) × S1} (hR : Rt X q o.2 none) (l1 : Int32) (l2 : Int32) (l4 : Int32) (l6 : Int32) (l7 : Int64) (l9 : Int32) (l10 : Int64) (s : S1) (hp0 : 0 ≤ l1 ∧ l1 < 33) (ls : Array Slot) (hl : lv_has ls 14 [(0, .ref (q.1 0 0)), (1, .ref (q.1 28 l1)), (2, .int l2), (4, .int l4), (6, .int l6), (7, .long l7), (9, .int l9), (10, .long l10)]) (h : M_Mo_compare_j74 l1 l2 l4 l6 l7 l9 l10 s = some o) : WW X q s 74 ls [] := by
  unfold M_Mo_compare_j74 at h
  refine ww_iconst (pc := 74) g.1 (v := 0) d_Mo_compare_74 (by decide) ?_
  exact j_Mo_compare_j75 g hR l1 l2 l4 l6 l7 l9 l10 0 s hp0 ls (lv_sub hl [0, 1, 2, 3, 4, 5, 6, 7] rfl) h

theorem ct_Mo_compare {l : Launch} {P : PP} {q : PL} {s s' : S1} {l1 : Int32} {l2 : Int32} {l3 : Int32} {l4 : Int32} {l5 : Int32} (hp0 : 0 ≤ l1 ∧ l1 < 33) {r : Unit} (h : M_Mo_compare l1 l2 l3 l4 l5 s = some (r, s')) : Ct l y_Mo_compare b_Mo_compare 14 none 6 153 P q s [.ref (q.1 0 0), .ref (q.1 28 l1), .int l2, .int l3, .int l4, .int l5] none q s' := by
  refine ct_of (by decide) (Nat.le_of_ble_eq_true rfl) fun X ls eP el g hR hl => ?_
  subst eP
  have hR : Rt X q ((r, s') : Unit × S1).2 none := hR
  have hl : lv_has ls 14 [(0, .ref (q.1 0 0)), (1, .ref (q.1 28 l1)), (2, .int l2), (3, .int l3), (4, .int l4), (5, .int l5)] := hl
  generalize (r, s') = o at h hR
  unfold M_Mo_compare at h
  refine ww_aload_n (pc := 0) g.1 d_Mo_compare_0 rfl (lv_at hl 0 rfl) ?_
  refine ww_aload_n (pc := 1) g.1 d_Mo_compare_1 rfl (lv_at hl 1 rfl) ?_
  refine ww_iload_n (pc := 2) g.1 d_Mo_compare_2 rfl (lv_at hl 2 rfl) ?_
  refine ww_iload_n (pc := 3) g.1 d_Mo_compare_3 rfl (lv_at hl 3 rfl) ?_
  refine ww_iload (pc := 4) g.1 d_Mo_compare_4 (lv_at hl 4 rfl) ?_
  obtain ⟨v6, s, hc6, h⟩ := oB_of h
  refine ww_callS (pc := 6) (rest := [.int l3, .int l2, .ref (q.1 28 l1), .ref (q.1 0 0)]) g cs_Mo_b (Or.inl kw_54) (ct_Mo_b hc6) ⟨by decide, by decide⟩ rfl hl.1 (Nat.le_of_ble_eq_true rfl) d_Mo_compare_6 rfl ?_
  refine ww_st (st' := [.int v6, .int l3, .int l2, .ref (q.1 28 l1), .ref (q.1 0 0)]) rfl ?_
  obtain ⟨v9, s, hc9, h⟩ := oB_of h
  refine ww_callV (pc := 9) (rest := []) g cv_Mo_rk_ (Or.inl kw_419) cl_Mo (pz rfl (by decide)) (ct_Mo_rk_ hp0 hc9) ⟨by decide, by decide⟩ rfl hl.1 (Nat.le_of_ble_eq_true rfl) d_Mo_compare_9 rfl ?_
  refine ww_st (st' := []) rfl ?_
  refine ww_aload_n (pc := 12) g.1 d_Mo_compare_12 rfl (lv_at hl 0 rfl) ?_
  refine ww_gI (pc := 13) g (k := 98) cl_Mo (pz rfl (by decide)) (by decide) (Or.inl kw_248) (f := 98) rfl rfl d_Mo_compare_13 h fun v13 h => ?_
  refine ww_istore (pc := 16) (i := 6) g.1 (lv' := [(6, .int v13), (0, .ref (q.1 0 0)), (1, .ref (q.1 28 l1)), (2, .int l2), (3, .int l3), (4, .int l4), (5, .int l5)]) d_Mo_compare_16 hl (by decide) rfl fun ls hl => ?_
  refine ww_aload_n (pc := 18) g.1 d_Mo_compare_18 rfl (lv_at hl 1 rfl) ?_
  refine ww_gL (pc := 19) g (k := 99) cl_Mo (pz rfl (by decide)) (by decide) (Or.inl kw_249) (f := 99) rfl rfl d_Mo_compare_19 h fun v19 h => ?_
  refine ww_lstore (pc := 22) (i := 7) g.1 (lv' := [(7, .long v19), (6, .int v13), (0, .ref (q.1 0 0)), (1, .ref (q.1 28 l1)), (2, .int l2), (3, .int l3), (4, .int l4), (5, .int l5)]) d_Mo_compare_22 hl (by decide) rfl fun ls hl => ?_
  refine ww_aload_n (pc := 24) g.1 d_Mo_compare_24 rfl (lv_at hl 2 rfl) ?_
  refine ww_aload_n (pc := 25) g.1 d_Mo_compare_25 rfl (lv_at hl 3 rfl) ?_
  refine ww_iload_n (pc := 26) g.1 d_Mo_compare_26 rfl (lv_at hl 4 rfl) ?_
  refine ww_iload_n (pc := 27) g.1 d_Mo_compare_27 rfl (lv_at hl 5 rfl) ?_
  refine ww_iload (pc := 28) g.1 d_Mo_compare_28 (lv_at hl 6 rfl) ?_
  obtain ⟨v30, s, hc30, h⟩ := oB_of h
  refine ww_callS (pc := 30) (rest := [.int l3, .int l2, .ref (q.1 28 l1), .ref (q.1 0 0)]) g cs_Mo_c (Or.inl kw_311) (ct_Mo_c hc30) ⟨by decide, by decide⟩ rfl hl.1 (Nat.le_of_ble_eq_true rfl) d_Mo_compare_30 rfl ?_
  refine ww_st (st' := [.int v30, .int l3, .int l2, .ref (q.1 28 l1), .ref (q.1 0 0)]) rfl ?_
  obtain ⟨v33, s, hc33, h⟩ := oB_of h
  refine ww_callV (pc := 33) (rest := []) g cv_Mo_rk_ (Or.inl kw_419) cl_Mo (pz rfl (by decide)) (ct_Mo_rk_ hp0 hc33) ⟨by decide, by decide⟩ rfl hl.1 (Nat.le_of_ble_eq_true rfl) d_Mo_compare_33 rfl ?_
  refine ww_st (st' := []) rfl ?_
  refine ww_aload_n (pc := 36) g.1 d_Mo_compare_36 rfl (lv_at hl 2 rfl) ?_
  refine ww_gI (pc := 37) g (k := 98) cl_Mo (pz rfl (by decide)) (by decide) (Or.inl kw_248) (f := 98) rfl rfl d_Mo_compare_37 h fun v37 h => ?_
  refine ww_istore (pc := 40) (i := 9) g.1 (lv' := [(9, .int v37), (7, .long v19), (6, .int v13), (0, .ref (q.1 0 0)), (1, .ref (q.1 28 l1)), (2, .int l2), (3, .int l3), (4, .int l4), (5, .int l5)]) d_Mo_compare_40 hl (by decide) rfl fun ls hl => ?_
  refine ww_aload_n (pc := 42) g.1 d_Mo_compare_42 rfl (lv_at hl 3 rfl) ?_
  refine ww_gL (pc := 43) g (k := 99) cl_Mo (pz rfl (by decide)) (by decide) (Or.inl kw_249) (f := 99) rfl rfl d_Mo_compare_43 h fun v43 h => ?_
  refine ww_lstore (pc := 46) (i := 10) g.1 (lv' := [(10, .long v43), (9, .int v37), (7, .long v19), (6, .int v13), (0, .ref (q.1 0 0)), (1, .ref (q.1 28 l1)), (2, .int l2), (3, .int l3), (4, .int l4), (5, .int l5)]) d_Mo_compare_46 hl (by decide) rfl fun ls hl => ?_
  refine ww_iload (pc := 48) g.1 d_Mo_compare_48 (lv_at hl 9 rfl) ?_
  refine ww_bipush (pc := 50) g.1 (v := 31) d_Mo_compare_50 (by decide) ?_
  refine ww_icmp_ne (pc := 52) (tgt := 123) g.1 d_Mo_compare_52 (by decide) h (fun c h => ?_) (fun c h => ?_)
  · refine ww_iload (pc := 123) g.1 d_Mo_compare_123 (lv_at hl 3 rfl) ?_
    refine ww_iconst (pc := 125) g.1 (v := 3) d_Mo_compare_125 (by decide) ?_
    refine ww_icmp_ne (pc := 126) (tgt := 176) g.1 d_Mo_compare_126 (by decide) h (fun c h => ?_) (fun c h => ?_)
    · exact j_Mo_compare_j176 g hR l1 l2 l4 l5 v13 v19 v37 v43 s hp0 ls (lv_sub hl [4, 5, 6, 8, 9, 3, 2, 1, 0] rfl) h
    · refine ww_iload (pc := 129) g.1 d_Mo_compare_129 (lv_at hl 1 rfl) ?_
      refine ww_iconst (pc := 131) g.1 (v := 3) d_Mo_compare_131 (by decide) ?_
      refine ww_icmp_ne (pc := 132) (tgt := 176) g.1 d_Mo_compare_132 (by decide) h (fun c h => ?_) (fun c h => ?_)
      · exact j_Mo_compare_j176 g hR l1 l2 l4 l5 v13 v19 v37 v43 s hp0 ls (lv_sub hl [4, 5, 6, 8, 9, 3, 2, 1, 0] rfl) h
      · refine ww_iload (pc := 135) g.1 d_Mo_compare_135 (lv_at hl 9 rfl) ?_
        refine ww_bipush (pc := 137) g.1 (v := 32) d_Mo_compare_137 (by decide) ?_
        refine ww_icmp_ne (pc := 139) (tgt := 158) g.1 d_Mo_compare_139 (by decide) h (fun c h => ?_) (fun c h => ?_)
        · refine ww_lload (pc := 158) g.1 d_Mo_compare_158 (lv_at hl 2 rfl) ?_
          refine ww_lload (pc := 160) g.1 d_Mo_compare_160 (lv_at hl 0 rfl) ?_
          refine ww_lcmp (pc := 162) g.1 d_Mo_compare_162 ?_
          refine ww_if_gt (pc := 163) (tgt := 170) g.1 d_Mo_compare_163 (by decide) h (fun c h => ?_) (fun c h => ?_)
          · refine ww_iconst (pc := 170) g.1 (v := 0) d_Mo_compare_170 (by decide) ?_
            exact j_Mo_compare_j171 g hR l1 l2 l4 0 s hp0 ls (lv_sub hl [5, 6, 8] rfl) h
          · refine ww_iconst (pc := 166) g.1 (v := 1) d_Mo_compare_166 (by decide) ?_
            refine ww_goto (pc := 167) (tgt := 171) g.1 d_Mo_compare_167 (by decide) ?_
            exact j_Mo_compare_j171 g hR l1 l2 l4 1 s hp0 ls (lv_sub hl [5, 6, 8] rfl) h
        · refine ww_lload (pc := 142) g.1 d_Mo_compare_142 (lv_at hl 2 rfl) ?_
          refine ww_lload (pc := 144) g.1 d_Mo_compare_144 (lv_at hl 0 rfl) ?_
          refine ww_lcmp (pc := 146) g.1 d_Mo_compare_146 ?_
          refine ww_if_ge (pc := 147) (tgt := 154) g.1 d_Mo_compare_147 (by decide) h (fun c h => ?_) (fun c h => ?_)
          · refine ww_iconst (pc := 154) g.1 (v := 0) d_Mo_compare_154 (by decide) ?_
            refine ww_goto (pc := 155) (tgt := 171) g.1 d_Mo_compare_155 (by decide) ?_
            exact j_Mo_compare_j171 g hR l1 l2 l4 0 s hp0 ls (lv_sub hl [5, 6, 8] rfl) h
          · refine ww_iconst (pc := 150) g.1 (v := 1) d_Mo_compare_150 (by decide) ?_
            refine ww_goto (pc := 151) (tgt := 171) g.1 d_Mo_compare_151 (by decide) ?_
            exact j_Mo_compare_j171 g hR l1 l2 l4 1 s hp0 ls (lv_sub hl [5, 6, 8] rfl) h
  · refine ww_iload (pc := 55) g.1 d_Mo_compare_55 (lv_at hl 3 rfl) ?_
    refine ww_iload (pc := 57) g.1 d_Mo_compare_57 (lv_at hl 1 rfl) ?_
    refine ww_icmp_ne (pc := 59) (tgt := 74) g.1 d_Mo_compare_59 (by decide) h (fun c h => ?_) (fun c h => ?_)
    · exact j_Mo_compare_j74 g hR l1 l2 l4 v13 v19 v37 v43 s hp0 ls (lv_sub hl [4, 5, 6, 8, 3, 2, 1, 0] rfl) h
    · refine ww_lload (pc := 62) g.1 d_Mo_compare_62 (lv_at hl 2 rfl) ?_
      refine ww_lload (pc := 64) g.1 d_Mo_compare_64 (lv_at hl 0 rfl) ?_
      refine ww_lcmp (pc := 66) g.1 d_Mo_compare_66 ?_
      refine ww_if_ne (pc := 67) (tgt := 74) g.1 d_Mo_compare_67 (by decide) h (fun c h => ?_) (fun c h => ?_)
      · exact j_Mo_compare_j74 g hR l1 l2 l4 v13 v19 v37 v43 s hp0 ls (lv_sub hl [4, 5, 6, 8, 3, 2, 1, 0] rfl) h
      · refine ww_iconst (pc := 70) g.1 (v := 1) d_Mo_compare_70 (by decide) ?_
        refine ww_goto (pc := 71) (tgt := 75) g.1 d_Mo_compare_71 (by decide) ?_
        exact j_Mo_compare_j75 g hR l1 l2 l4 v13 v19 v37 v43 1 s hp0 ls (lv_sub hl [4, 5, 6, 8, 3, 2, 1, 0] rfl) h


