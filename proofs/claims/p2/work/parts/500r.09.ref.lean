abbrev b_Mo_none : ByteArray := prog_14_method_139_code
def y_Mo_none : MethodName := ⟨R_Mo, "none", "(I)Z"⟩
abbrev w_Mo_none : List Cond := .code y_Mo_none b_Mo_none 2 (some .boolean) :: wA
theorem k_Mo_none : Cond.code y_Mo_none b_Mo_none 2 (some .boolean) ∈ wA := kinm (show _ ∈ tables_1 from (List.mem_append_right _ (List.mem_append_right _ (List.mem_append_right _ (List.mem_append_right _ (List.mem_append_right _ (List.mem_append_right _ (List.mem_append_right _ (List.mem_append_right _ (List.mem_append_right _ (List.mem_append_right _ (List.mem_append_right _ (List.mem_append_right _ (List.mem_append_right _ (List.mem_of_getElem? (l := tables_1_14) (i := 11) (by decide +kernel)))))))))))))))) (by decide +kernel)
theorem d_Mo_none_0 : decode b_Mo_none 0 = .ok (.aload_n 0, 1) := by decide +kernel
theorem d_Mo_none_1 : decode b_Mo_none 1 = .ok (.iconst 0, 1) := by decide +kernel
theorem d_Mo_none_2 : decode b_Mo_none 2 = .ok (.putfield 18, 3) := by decide +kernel
theorem d_Mo_none_5 : decode b_Mo_none 5 = .ok (.aload_n 0, 1) := by decide +kernel
theorem d_Mo_none_6 : decode b_Mo_none 6 = .ok (.iconst 1, 1) := by decide +kernel
theorem d_Mo_none_7 : decode b_Mo_none 7 = .ok (.aload_n 0, 1) := by decide +kernel
theorem d_Mo_none_8 : decode b_Mo_none 8 = .ok (.getfield 27, 3) := by decide +kernel
theorem d_Mo_none_11 : decode b_Mo_none 11 = .ok (.ifCond .eq 18, 3) := by decide +kernel
theorem d_Mo_none_14 : decode b_Mo_none 14 = .ok (.iload_n 1, 1) := by decide +kernel
theorem d_Mo_none_15 : decode b_Mo_none 15 = .ok (.ifCond .lt 14, 3) := by decide +kernel
theorem d_Mo_none_18 : decode b_Mo_none 18 = .ok (.iload_n 1, 1) := by decide +kernel
theorem d_Mo_none_19 : decode b_Mo_none 19 = .ok (.aload_n 0, 1) := by decide +kernel
theorem d_Mo_none_20 : decode b_Mo_none 20 = .ok (.getfield 265, 3) := by decide +kernel
theorem d_Mo_none_23 : decode b_Mo_none 23 = .ok (.getfield 569, 3) := by decide +kernel
theorem d_Mo_none_26 : decode b_Mo_none 26 = .ok (.if_icmp .lt 7, 3) := by decide +kernel
theorem d_Mo_none_29 : decode b_Mo_none 29 = .ok (.iconst 1, 1) := by decide +kernel
theorem d_Mo_none_30 : decode b_Mo_none 30 = .ok (.goto 4, 3) := by decide +kernel
theorem d_Mo_none_33 : decode b_Mo_none 33 = .ok (.iconst 0, 1) := by decide +kernel
theorem d_Mo_none_34 : decode b_Mo_none 34 = .ok (.invokevirtual 445, 3) := by decide +kernel
theorem d_Mo_none_37 : decode b_Mo_none 37 = .ok (.ireturn, 1) := by decide +kernel
theorem kw_283 : Cond.fieldLink R_Mo 27 "LuaMachineModel" "chunk" "Z" ∈ wA := kinm (show _ ∈ tables_1 from (List.mem_append_right _ (List.mem_append_right _ (List.mem_append_right _ (List.mem_append_right _ (List.mem_append_right _ (List.mem_append_right _ (List.mem_append_right _ (List.mem_append_right _ (List.mem_append_right _ (List.mem_append_left _ (List.mem_of_getElem? (l := tables_1_10) (i := 59) (by decide +kernel))))))))))))) (by decide +kernel)
theorem kw_284 : Cond.instanceMethod y_Mo_none ∈ wA := kinm (show _ ∈ tables_1 from (List.mem_append_right _ (List.mem_append_right _ (List.mem_append_right _ (List.mem_append_right _ (List.mem_append_right _ (List.mem_append_right _ (List.mem_append_right _ (List.mem_append_right _ (List.mem_append_right _ (List.mem_append_right _ (List.mem_append_right _ (List.mem_append_right _ (List.mem_append_right _ (List.mem_of_getElem? (l := tables_1_14) (i := 10) (by decide +kernel)))))))))))))))) (by decide +kernel)
theorem kw_285 : Cond.selects R_Mo y_Mo_none y_Mo_none ∈ wA := kinp 227 (by decide +kernel) (by decide +kernel)
theorem cv_Mo_none : CV y_Mo_none b_Mo_none 2 (some .boolean) 1 := ⟨kw_284, kw_285, kw_17, k_Mo_none, by decide +kernel⟩
theorem j_Mo_none_j34 {X : Cx} {q : PL} (g : Gd X y_Mo_none b_Mo_none 2 (some .boolean) 1 22 R_Mo) {o : (Int32) × S1} (hR : Rt X q o.2 (some (.int o.1))) (k0 : Int32) (k1 : Int32) (s : S1) (ls : Array Slot) (hl : lv_has ls 2 []) (h : M_Mo_none_j34 k0 k1 s = some o) : WW X q s 34 ls [.int k0, .int k1, .ref (q.1 0 0)] := by
  unfold M_Mo_none_j34 at h
  obtain ⟨v34, s, hc34, h⟩ := oB_of h
  refine ww_callV (pc := 34) (rest := []) g cv_Mo_refuse (Or.inl kw_20) cl_Mo (pz rfl (by decide)) (ct_Mo_refuse hc34) ⟨by decide, by decide⟩ rfl hl.1 (Nat.le_of_ble_eq_true rfl) d_Mo_none_34 rfl ?_
  refine ww_st (st' := [.int v34]) rfl ?_
  refine ww_ok h fun cz h => ?_
  exact ww_zretH (pc := 37) g h hR cz d_Mo_none_37

theorem j_Mo_none_j29 {X : Cx} {q : PL} (g : Gd X y_Mo_none b_Mo_none 2 (some .boolean) 1 22 R_Mo) {o : (Int32) × S1} (hR : Rt X q o.2 (some (.int o.1))) (k0 : Int32) (s : S1) (ls : Array Slot) (hl : lv_has ls 2 []) (h : M_Mo_none_j29 k0 s = some o) : WW X q s 29 ls [.int k0, .ref (q.1 0 0)] := by
  unfold M_Mo_none_j29 at h
  refine ww_iconst (pc := 29) g.1 (v := 1) d_Mo_none_29 (by decide) ?_
  refine ww_goto (pc := 30) (tgt := 34) g.1 d_Mo_none_30 (by decide) ?_
  exact j_Mo_none_j34 g hR 1 k0 s ls (lv_sub hl [] rfl) h

theorem ct_Mo_none {l : Launch} {P : PP} {q : PL} {s s' : S1} {l1 : Int32} {r : Int32} (h : M_Mo_none l1 s = some (r, s')) : Ct l y_Mo_none b_Mo_none 2 (some .boolean) 1 22 P q s [.ref (q.1 0 0), .int l1] (some (.int r)) q s' := by
  refine ct_of (by decide) (Nat.le_of_ble_eq_true rfl) fun X ls eP el g hR hl => ?_
  subst eP
  have hR : Rt X q ((r, s') : Int32 × S1).2 (some (.int ((r, s') : Int32 × S1).1)) := hR
  have hl : lv_has ls 2 [(0, .ref (q.1 0 0)), (1, .int l1)] := hl
  generalize (r, s') = o at h hR
  unfold M_Mo_none at h
  refine ww_aload_n (pc := 0) g.1 d_Mo_none_0 rfl (lv_at hl 0 rfl) ?_
  refine ww_iconst (pc := 1) g.1 (v := 0) d_Mo_none_1 (by decide) ?_
  refine ww_pI (pc := 2) g (k := 2) cl_Mo (pz rfl (by decide)) (by decide) (Or.inl kw_14) rfl (f := 2) rfl rfl rfl rfl d_Mo_none_2 h fun s hs h => ?_
  refine ww_aload_n (pc := 5) g.1 d_Mo_none_5 rfl (lv_at hl 0 rfl) ?_
  refine ww_iconst (pc := 6) g.1 (v := 1) d_Mo_none_6 (by decide) ?_
  refine ww_aload_n (pc := 7) g.1 d_Mo_none_7 rfl (lv_at hl 0 rfl) ?_
  refine ww_gI (pc := 8) g (k := 5) cl_Mo (pz rfl (by decide)) (by decide) (Or.inl kw_283) (f := 5) rfl rfl d_Mo_none_8 h fun v8 h => ?_
  refine ww_if_eq (pc := 11) (tgt := 29) g.1 d_Mo_none_11 (by decide) h (fun c h => ?_) (fun c h => ?_)
  · exact j_Mo_none_j29 g hR 1 s ls (lv_sub hl [] rfl) h
  · refine ww_iload_n (pc := 14) g.1 d_Mo_none_14 rfl (lv_at hl 1 rfl) ?_
    refine ww_if_lt (pc := 15) (tgt := 29) g.1 d_Mo_none_15 (by decide) h (fun c h => ?_) (fun c h => ?_)
    · exact j_Mo_none_j29 g hR 1 s ls (lv_sub hl [] rfl) h
    · refine ww_iload_n (pc := 18) g.1 d_Mo_none_18 rfl (lv_at hl 1 rfl) ?_
      refine ww_aload_n (pc := 19) g.1 d_Mo_none_19 rfl (lv_at hl 0 rfl) ?_
      refine ww_gR (pc := 20) g (k := 79) cl_Mo (pz rfl (by decide)) (by decide) (Or.inl kw_233) (f := 79) (t := 13) rfl rfl rfl d_Mo_none_20 ?_
      refine ww_gI (pc := 23) g (k := 2) (cl_Va (Or.inl ⟨by decide, rfl⟩)) (pz rfl (by decide)) (by decide) (Or.inl kw_179) (f := 1666) rfl rfl d_Mo_none_23 h fun v23 h => ?_
      refine ww_icmp_lt (pc := 26) (tgt := 33) g.1 d_Mo_none_26 (by decide) h (fun c h => ?_) (fun c h => ?_)
      · refine ww_iconst (pc := 33) g.1 (v := 0) d_Mo_none_33 (by decide) ?_
        exact j_Mo_none_j34 g hR 0 1 s ls (lv_sub hl [] rfl) h
      · exact j_Mo_none_j29 g hR 1 s ls (lv_sub hl [] rfl) h

abbrev b_Mo_value : ByteArray := prog_14_method_141_code
def y_Mo_value : MethodName := ⟨R_Mo, "value", "(I)J"⟩
abbrev w_Mo_value : List Cond := .code y_Mo_value b_Mo_value 5 (some .long) :: wA
theorem k_Mo_value : Cond.code y_Mo_value b_Mo_value 5 (some .long) ∈ wA := kinm (show _ ∈ tables_1 from (List.mem_append_right _ (List.mem_append_right _ (List.mem_append_right _ (List.mem_append_right _ (List.mem_append_right _ (List.mem_append_right _ (List.mem_append_right _ (List.mem_append_right _ (List.mem_append_right _ (List.mem_append_right _ (List.mem_append_right _ (List.mem_append_right _ (List.mem_append_right _ (List.mem_of_getElem? (l := tables_1_14) (i := 15) (by decide +kernel)))))))))))))))) (by decide +kernel)
theorem d_Mo_value_0 : decode b_Mo_value 0 = .ok (.aload_n 0, 1) := by decide +kernel
theorem d_Mo_value_1 : decode b_Mo_value 1 = .ok (.iload_n 1, 1) := by decide +kernel
theorem d_Mo_value_2 : decode b_Mo_value 2 = .ok (.invokevirtual 1033, 3) := by decide +kernel
theorem d_Mo_value_5 : decode b_Mo_value 5 = .ok (.ifCond .eq 5, 3) := by decide +kernel
theorem d_Mo_value_8 : decode b_Mo_value 8 = .ok (.lconst 0, 1) := by decide +kernel
theorem d_Mo_value_9 : decode b_Mo_value 9 = .ok (.lreturn, 1) := by decide +kernel
theorem d_Mo_value_10 : decode b_Mo_value 10 = .ok (.aload_n 0, 1) := by decide +kernel
theorem d_Mo_value_11 : decode b_Mo_value 11 = .ok (.getfield 265, 3) := by decide +kernel
theorem d_Mo_value_14 : decode b_Mo_value 14 = .ok (.getfield 585, 3) := by decide +kernel
theorem d_Mo_value_17 : decode b_Mo_value 17 = .ok (.iload_n 1, 1) := by decide +kernel
theorem d_Mo_value_18 : decode b_Mo_value 18 = .ok (.baload, 1) := by decide +kernel
theorem d_Mo_value_19 : decode b_Mo_value 19 = .ok (.istore_n 2, 1) := by decide +kernel
theorem d_Mo_value_20 : decode b_Mo_value 20 = .ok (.aload_n 0, 1) := by decide +kernel
theorem d_Mo_value_21 : decode b_Mo_value 21 = .ok (.getfield 265, 3) := by decide +kernel
theorem d_Mo_value_24 : decode b_Mo_value 24 = .ok (.getfield 588, 3) := by decide +kernel
theorem d_Mo_value_27 : decode b_Mo_value 27 = .ok (.iload_n 1, 1) := by decide +kernel
theorem d_Mo_value_28 : decode b_Mo_value 28 = .ok (.laload, 1) := by decide +kernel
theorem d_Mo_value_29 : decode b_Mo_value 29 = .ok (.lstore_n 3, 1) := by decide +kernel
theorem d_Mo_value_30 : decode b_Mo_value 30 = .ok (.iload_n 2, 1) := by decide +kernel
theorem d_Mo_value_31 : decode b_Mo_value 31 = .ok (.iconst 3, 1) := by decide +kernel
theorem d_Mo_value_32 : decode b_Mo_value 32 = .ok (.if_icmp .ge 5, 3) := by decide +kernel
theorem d_Mo_value_35 : decode b_Mo_value 35 = .ok (.lconst 0, 1) := by decide +kernel
theorem d_Mo_value_36 : decode b_Mo_value 36 = .ok (.lreturn, 1) := by decide +kernel
theorem d_Mo_value_37 : decode b_Mo_value 37 = .ok (.iload_n 2, 1) := by decide +kernel
theorem d_Mo_value_38 : decode b_Mo_value 38 = .ok (.iconst 3, 1) := by decide +kernel
theorem d_Mo_value_39 : decode b_Mo_value 39 = .ok (.if_icmp .ne 5, 3) := by decide +kernel
theorem d_Mo_value_42 : decode b_Mo_value 42 = .ok (.lload_n 3, 1) := by decide +kernel
theorem d_Mo_value_43 : decode b_Mo_value 43 = .ok (.lreturn, 1) := by decide +kernel
theorem d_Mo_value_44 : decode b_Mo_value 44 = .ok (.iload_n 2, 1) := by decide +kernel
theorem d_Mo_value_45 : decode b_Mo_value 45 = .ok (.iconst 4, 1) := by decide +kernel
theorem d_Mo_value_46 : decode b_Mo_value 46 = .ok (.if_icmp .ne 12, 3) := by decide +kernel
theorem d_Mo_value_49 : decode b_Mo_value 49 = .ok (.aload_n 0, 1) := by decide +kernel
theorem d_Mo_value_50 : decode b_Mo_value 50 = .ok (.getfield 171, 3) := by decide +kernel
theorem d_Mo_value_53 : decode b_Mo_value 53 = .ok (.lload_n 3, 1) := by decide +kernel
theorem d_Mo_value_54 : decode b_Mo_value 54 = .ok (.l2i, 1) := by decide +kernel
theorem d_Mo_value_55 : decode b_Mo_value 55 = .ok (.iaload, 1) := by decide +kernel
theorem d_Mo_value_56 : decode b_Mo_value 56 = .ok (.i2l, 1) := by decide +kernel
theorem d_Mo_value_57 : decode b_Mo_value 57 = .ok (.lreturn, 1) := by decide +kernel
theorem d_Mo_value_58 : decode b_Mo_value 58 = .ok (.lload_n 3, 1) := by decide +kernel
theorem d_Mo_value_59 : decode b_Mo_value 59 = .ok (.lconst 0, 1) := by decide +kernel
theorem d_Mo_value_60 : decode b_Mo_value 60 = .ok (.lcmp, 1) := by decide +kernel
theorem d_Mo_value_61 : decode b_Mo_value 61 = .ok (.ifCond .ge 11, 3) := by decide +kernel
theorem d_Mo_value_64 : decode b_Mo_value 64 = .ok (.ldc2_w 722, 3) := by decide +kernel
theorem d_Mo_value_67 : decode b_Mo_value 67 = .ok (.lload_n 3, 1) := by decide +kernel
theorem d_Mo_value_68 : decode b_Mo_value 68 = .ok (.lsub, 1) := by decide +kernel
theorem d_Mo_value_69 : decode b_Mo_value 69 = .ok (.goto 11, 3) := by decide +kernel
theorem d_Mo_value_72 : decode b_Mo_value 72 = .ok (.aload_n 0, 1) := by decide +kernel
theorem d_Mo_value_73 : decode b_Mo_value 73 = .ok (.getfield 165, 3) := by decide +kernel
theorem d_Mo_value_76 : decode b_Mo_value 76 = .ok (.lload_n 3, 1) := by decide +kernel
theorem d_Mo_value_77 : decode b_Mo_value 77 = .ok (.l2i, 1) := by decide +kernel
theorem d_Mo_value_78 : decode b_Mo_value 78 = .ok (.iaload, 1) := by decide +kernel
theorem d_Mo_value_79 : decode b_Mo_value 79 = .ok (.i2l, 1) := by decide +kernel
theorem d_Mo_value_80 : decode b_Mo_value 80 = .ok (.lreturn, 1) := by decide +kernel
theorem kw_286 : Cond.constantLong R_Mo 722 (-1) ∈ wA := kinm (show _ ∈ tables_1 from (List.mem_append_right _ (List.mem_append_right _ (List.mem_append_right _ (List.mem_append_right _ (List.mem_append_right _ (List.mem_append_right _ (List.mem_append_right _ (List.mem_append_right _ (List.mem_append_right _ (List.mem_append_right _ (List.mem_append_right _ (List.mem_append_left _ (List.mem_of_getElem? (l := tables_1_12) (i := 171) (by decide +kernel))))))))))))))) (by decide +kernel)
theorem kw_287 : Cond.methodLink R_Mo 1033 y_Mo_none ∈ wA := kinm (show _ ∈ tables_1 from (List.mem_append_right _ (List.mem_append_right _ (List.mem_append_right _ (List.mem_append_right _ (List.mem_append_right _ (List.mem_append_right _ (List.mem_append_right _ (List.mem_append_right _ (List.mem_append_right _ (List.mem_append_right _ (List.mem_append_right _ (List.mem_append_right _ (List.mem_append_right _ (List.mem_of_getElem? (l := tables_1_14) (i := 8) (by decide +kernel)))))))))))))))) (by decide +kernel)
theorem kw_288 : Cond.instanceMethod y_Mo_value ∈ wA := kinm (show _ ∈ tables_1 from (List.mem_append_right _ (List.mem_append_right _ (List.mem_append_right _ (List.mem_append_right _ (List.mem_append_right _ (List.mem_append_right _ (List.mem_append_right _ (List.mem_append_right _ (List.mem_append_right _ (List.mem_append_right _ (List.mem_append_right _ (List.mem_append_right _ (List.mem_append_right _ (List.mem_of_getElem? (l := tables_1_14) (i := 13) (by decide +kernel)))))))))))))))) (by decide +kernel)
theorem kw_289 : Cond.selects R_Mo y_Mo_value y_Mo_value ∈ wA := kinm (show _ ∈ tables_1 from (List.mem_append_right _ (List.mem_append_right _ (List.mem_append_right _ (List.mem_append_right _ (List.mem_append_right _ (List.mem_append_right _ (List.mem_append_right _ (List.mem_append_right _ (List.mem_append_right _ (List.mem_append_right _ (List.mem_append_right _ (List.mem_append_right _ (List.mem_append_right _ (List.mem_of_getElem? (l := tables_1_14) (i := 14) (by decide +kernel)))))))))))))))) (by decide +kernel)
theorem cv_Mo_value : CV y_Mo_value b_Mo_value 5 (some .long) 1 := ⟨kw_288, kw_289, kw_17, k_Mo_value, by decide +kernel⟩
theorem ct_Mo_value {l : Launch} {P : PP} {q : PL} {s s' : S1} {l1 : Int32} {r : Int64} (h : M_Mo_value l1 s = some (r, s')) : Ct l y_Mo_value b_Mo_value 5 (some .long) 2 43 P q s [.ref (q.1 0 0), .int l1] (some (.long r)) q s' := by
  refine ct_of (by decide) (Nat.le_of_ble_eq_true rfl) fun X ls eP el g hR hl => ?_
  subst eP
  have hR : Rt X q ((r, s') : Int64 × S1).2 (some (.long ((r, s') : Int64 × S1).1)) := hR
  have hl : lv_has ls 5 [(0, .ref (q.1 0 0)), (1, .int l1)] := hl
  generalize (r, s') = o at h hR
  unfold M_Mo_value at h
  refine ww_aload_n (pc := 0) g.1 d_Mo_value_0 rfl (lv_at hl 0 rfl) ?_
  refine ww_iload_n (pc := 1) g.1 d_Mo_value_1 rfl (lv_at hl 1 rfl) ?_
  obtain ⟨v2, s, hc2, h⟩ := oB_of h
  refine ww_callV (pc := 2) (rest := []) g cv_Mo_none (Or.inl kw_287) cl_Mo (pz rfl (by decide)) (ct_Mo_none hc2) ⟨by decide, by decide⟩ rfl hl.1 (Nat.le_of_ble_eq_true rfl) d_Mo_value_2 rfl ?_
  refine ww_st (st' := [.int v2]) rfl ?_
  refine ww_if_eq (pc := 5) (tgt := 10) g.1 d_Mo_value_5 (by decide) h (fun c h => ?_) (fun c h => ?_)
  · refine ww_aload_n (pc := 10) g.1 d_Mo_value_10 rfl (lv_at hl 0 rfl) ?_
    refine ww_gR (pc := 11) g (k := 79) cl_Mo (pz rfl (by decide)) (by decide) (Or.inl kw_233) (f := 79) (t := 13) rfl rfl rfl d_Mo_value_11 ?_
    refine ww_gR (pc := 14) g (k := 0) (cl_Va (Or.inl ⟨by decide, rfl⟩)) (pz rfl (by decide)) (by decide) (Or.inl kw_90) (f := 1664) (t := 14) rfl rfl rfl d_Mo_value_14 ?_
    refine ww_iload_n (pc := 17) g.1 d_Mo_value_17 rfl (lv_at hl 1 rfl) ?_
    refine ww_ab (pc := 18) g (pz rfl (by decide)) rfl rfl d_Mo_value_18 h fun v18 h => ?_
    refine ww_istore_n (pc := 19) (i := 2) g.1 (lv' := [(2, .int v18), (0, .ref (q.1 0 0)), (1, .int l1)]) d_Mo_value_19 rfl hl (by decide) rfl fun ls hl => ?_
    refine ww_aload_n (pc := 20) g.1 d_Mo_value_20 rfl (lv_at hl 1 rfl) ?_
    refine ww_gR (pc := 21) g (k := 79) cl_Mo (pz rfl (by decide)) (by decide) (Or.inl kw_233) (f := 79) (t := 13) rfl rfl rfl d_Mo_value_21 ?_
    refine ww_gR (pc := 24) g (k := 1) (cl_Va (Or.inl ⟨by decide, rfl⟩)) (pz rfl (by decide)) (by decide) (Or.inl kw_93) (f := 1665) (t := 15) rfl rfl rfl d_Mo_value_24 ?_
    refine ww_iload_n (pc := 27) g.1 d_Mo_value_27 rfl (lv_at hl 2 rfl) ?_
    refine ww_al (pc := 28) g (pz rfl (by decide)) rfl rfl d_Mo_value_28 h fun v28 h => ?_
    refine ww_lstore_n (pc := 29) (i := 3) g.1 (lv' := [(3, .long v28), (2, .int v18), (0, .ref (q.1 0 0)), (1, .int l1)]) d_Mo_value_29 rfl hl (by decide) rfl fun ls hl => ?_
    refine ww_iload_n (pc := 30) g.1 d_Mo_value_30 rfl (lv_at hl 1 rfl) ?_
    refine ww_iconst (pc := 31) g.1 (v := 3) d_Mo_value_31 (by decide) ?_
    refine ww_icmp_ge (pc := 32) (tgt := 37) g.1 d_Mo_value_32 (by decide) h (fun c h => ?_) (fun c h => ?_)
    · refine ww_iload_n (pc := 37) g.1 d_Mo_value_37 rfl (lv_at hl 1 rfl) ?_
      refine ww_iconst (pc := 38) g.1 (v := 3) d_Mo_value_38 (by decide) ?_
      refine ww_icmp_ne (pc := 39) (tgt := 44) g.1 d_Mo_value_39 (by decide) h (fun c h => ?_) (fun c h => ?_)
      · refine ww_iload_n (pc := 44) g.1 d_Mo_value_44 rfl (lv_at hl 1 rfl) ?_
        refine ww_iconst (pc := 45) g.1 (v := 4) d_Mo_value_45 (by decide) ?_
        refine ww_icmp_ne (pc := 46) (tgt := 58) g.1 d_Mo_value_46 (by decide) h (fun c h => ?_) (fun c h => ?_)
        · refine ww_lload_n (pc := 58) g.1 d_Mo_value_58 rfl (lv_at hl 0 rfl) ?_
          refine ww_lconst (pc := 59) g.1 (v := 0) d_Mo_value_59 (by decide) ?_
          refine ww_lcmp (pc := 60) g.1 d_Mo_value_60 ?_
          refine ww_if_ge (pc := 61) (tgt := 72) g.1 d_Mo_value_61 (by decide) h (fun c h => ?_) (fun c h => ?_)
          · refine ww_aload_n (pc := 72) g.1 d_Mo_value_72 rfl (lv_at hl 2 rfl) ?_
            refine ww_gR (pc := 73) g (k := 48) cl_Mo (pz rfl (by decide)) (by decide) (Or.inl kw_112) (f := 48) (t := 61) rfl rfl rfl d_Mo_value_73 ?_
            refine ww_lload_n (pc := 76) g.1 d_Mo_value_76 rfl (lv_at hl 0 rfl) ?_
            refine ww_l2i (pc := 77) g.1 (v := v28.toInt32) d_Mo_value_77 rfl ?_
            refine ww_ai (pc := 78) g (pz rfl (by decide)) rfl rfl d_Mo_value_78 h fun v78 h => ?_
            refine ww_i2l (pc := 79) g.1 (v := v78.toInt64) d_Mo_value_79 rfl ?_
            exact ww_lretH (pc := 80) g h hR d_Mo_value_80
          · refine ww_ldc2 (pc := 64) g (v := (-1)) kw_286 d_Mo_value_64 ?_
            refine ww_lload_n (pc := 67) g.1 d_Mo_value_67 rfl (lv_at hl 0 rfl) ?_
            refine ww_lsub (pc := 68) g.1 d_Mo_value_68 ?_
            refine ww_goto (pc := 69) (tgt := 80) g.1 d_Mo_value_69 (by decide) ?_
            exact ww_lretH (pc := 80) g h hR d_Mo_value_80
        · refine ww_aload_n (pc := 49) g.1 d_Mo_value_49 rfl (lv_at hl 2 rfl) ?_
          refine ww_gR (pc := 50) g (k := 50) cl_Mo (pz rfl (by decide)) (by decide) (Or.inl kw_91) (f := 50) (t := 63) rfl rfl rfl d_Mo_value_50 ?_
          refine ww_lload_n (pc := 53) g.1 d_Mo_value_53 rfl (lv_at hl 0 rfl) ?_
          refine ww_l2i (pc := 54) g.1 (v := v28.toInt32) d_Mo_value_54 rfl ?_
          refine ww_ai (pc := 55) g (pz rfl (by decide)) rfl rfl d_Mo_value_55 h fun v55 h => ?_
          refine ww_i2l (pc := 56) g.1 (v := v55.toInt64) d_Mo_value_56 rfl ?_
          exact ww_lretH (pc := 57) g h hR d_Mo_value_57
      · refine ww_lload_n (pc := 42) g.1 d_Mo_value_42 rfl (lv_at hl 0 rfl) ?_
        exact ww_lretH (pc := 43) g h hR d_Mo_value_43
    · refine ww_lconst (pc := 35) g.1 (v := 0) d_Mo_value_35 (by decide) ?_
      exact ww_lretH (pc := 36) g h hR d_Mo_value_36
  · refine ww_lconst (pc := 8) g.1 (v := 0) d_Mo_value_8 (by decide) ?_
    exact ww_lretH (pc := 9) g h hR d_Mo_value_9

abbrev b_Mo_byteOf_ : ByteArray := prog_14_method_142_code
def y_Mo_byteOf_ : MethodName := ⟨R_Mo, "byteOf", "(II)I"⟩
abbrev w_Mo_byteOf_ : List Cond := .code y_Mo_byteOf_ b_Mo_byteOf_ 3 (some .int) :: wA
theorem k_Mo_byteOf_ : Cond.code y_Mo_byteOf_ b_Mo_byteOf_ 3 (some .int) ∈ wA := kinm (show _ ∈ tables_1 from (List.mem_append_right _ (List.mem_append_right _ (List.mem_append_right _ (List.mem_append_right _ (List.mem_append_right _ (List.mem_append_right _ (List.mem_append_right _ (List.mem_append_right _ (List.mem_append_right _ (List.mem_append_right _ (List.mem_append_right _ (List.mem_append_right _ (List.mem_append_right _ (List.mem_of_getElem? (l := tables_1_14) (i := 19) (by decide +kernel)))))))))))))))) (by decide +kernel)
theorem d_Mo_byteOf__0 : decode b_Mo_byteOf_ 0 = .ok (.aload_n 0, 1) := by decide +kernel
theorem d_Mo_byteOf__1 : decode b_Mo_byteOf_ 1 = .ok (.iload_n 1, 1) := by decide +kernel
theorem d_Mo_byteOf__2 : decode b_Mo_byteOf_ 2 = .ok (.invokevirtual 1033, 3) := by decide +kernel
theorem d_Mo_byteOf__5 : decode b_Mo_byteOf_ 5 = .ok (.ifCond .eq 5, 3) := by decide +kernel
theorem d_Mo_byteOf__8 : decode b_Mo_byteOf_ 8 = .ok (.iconst 0, 1) := by decide +kernel
theorem d_Mo_byteOf__9 : decode b_Mo_byteOf_ 9 = .ok (.ireturn, 1) := by decide +kernel
theorem d_Mo_byteOf__10 : decode b_Mo_byteOf_ 10 = .ok (.aload_n 0, 1) := by decide +kernel
theorem d_Mo_byteOf__11 : decode b_Mo_byteOf_ 11 = .ok (.iconst 2, 1) := by decide +kernel
theorem d_Mo_byteOf__12 : decode b_Mo_byteOf_ 12 = .ok (.aload_n 0, 1) := by decide +kernel
theorem d_Mo_byteOf__13 : decode b_Mo_byteOf_ 13 = .ok (.getfield 265, 3) := by decide +kernel
theorem d_Mo_byteOf__16 : decode b_Mo_byteOf_ 16 = .ok (.getfield 585, 3) := by decide +kernel
theorem d_Mo_byteOf__19 : decode b_Mo_byteOf_ 19 = .ok (.iload_n 1, 1) := by decide +kernel
theorem d_Mo_byteOf__20 : decode b_Mo_byteOf_ 20 = .ok (.baload, 1) := by decide +kernel
theorem d_Mo_byteOf__21 : decode b_Mo_byteOf_ 21 = .ok (.iconst 4, 1) := by decide +kernel
theorem d_Mo_byteOf__22 : decode b_Mo_byteOf_ 22 = .ok (.if_icmp .ne 26, 3) := by decide +kernel
theorem d_Mo_byteOf__25 : decode b_Mo_byteOf_ 25 = .ok (.iload_n 2, 1) := by decide +kernel
theorem d_Mo_byteOf__26 : decode b_Mo_byteOf_ 26 = .ok (.ifCond .lt 22, 3) := by decide +kernel
theorem d_Mo_byteOf__29 : decode b_Mo_byteOf_ 29 = .ok (.iload_n 2, 1) := by decide +kernel
theorem d_Mo_byteOf__30 : decode b_Mo_byteOf_ 30 = .ok (.aload_n 0, 1) := by decide +kernel
theorem d_Mo_byteOf__31 : decode b_Mo_byteOf_ 31 = .ok (.getfield 171, 3) := by decide +kernel
theorem d_Mo_byteOf__34 : decode b_Mo_byteOf_ 34 = .ok (.aload_n 0, 1) := by decide +kernel
theorem d_Mo_byteOf__35 : decode b_Mo_byteOf_ 35 = .ok (.getfield 265, 3) := by decide +kernel
theorem d_Mo_byteOf__38 : decode b_Mo_byteOf_ 38 = .ok (.getfield 588, 3) := by decide +kernel
theorem d_Mo_byteOf__41 : decode b_Mo_byteOf_ 41 = .ok (.iload_n 1, 1) := by decide +kernel
theorem d_Mo_byteOf__42 : decode b_Mo_byteOf_ 42 = .ok (.laload, 1) := by decide +kernel
theorem d_Mo_byteOf__43 : decode b_Mo_byteOf_ 43 = .ok (.l2i, 1) := by decide +kernel
theorem d_Mo_byteOf__44 : decode b_Mo_byteOf_ 44 = .ok (.iaload, 1) := by decide +kernel
theorem d_Mo_byteOf__45 : decode b_Mo_byteOf_ 45 = .ok (.if_icmp .lt 7, 3) := by decide +kernel
theorem d_Mo_byteOf__48 : decode b_Mo_byteOf_ 48 = .ok (.iconst 1, 1) := by decide +kernel
theorem d_Mo_byteOf__49 : decode b_Mo_byteOf_ 49 = .ok (.goto 4, 3) := by decide +kernel
theorem d_Mo_byteOf__52 : decode b_Mo_byteOf_ 52 = .ok (.iconst 0, 1) := by decide +kernel
theorem d_Mo_byteOf__53 : decode b_Mo_byteOf_ 53 = .ok (.invokevirtual 445, 3) := by decide +kernel
theorem d_Mo_byteOf__56 : decode b_Mo_byteOf_ 56 = .ok (.ifCond .eq 5, 3) := by decide +kernel
theorem d_Mo_byteOf__59 : decode b_Mo_byteOf_ 59 = .ok (.iconst 0, 1) := by decide +kernel
theorem d_Mo_byteOf__60 : decode b_Mo_byteOf_ 60 = .ok (.ireturn, 1) := by decide +kernel
theorem d_Mo_byteOf__61 : decode b_Mo_byteOf_ 61 = .ok (.aload_n 0, 1) := by decide +kernel
theorem d_Mo_byteOf__62 : decode b_Mo_byteOf_ 62 = .ok (.getfield 187, 3) := by decide +kernel
theorem d_Mo_byteOf__65 : decode b_Mo_byteOf_ 65 = .ok (.aload_n 0, 1) := by decide +kernel
theorem d_Mo_byteOf__66 : decode b_Mo_byteOf_ 66 = .ok (.getfield 168, 3) := by decide +kernel
theorem d_Mo_byteOf__69 : decode b_Mo_byteOf_ 69 = .ok (.aload_n 0, 1) := by decide +kernel
theorem d_Mo_byteOf__70 : decode b_Mo_byteOf_ 70 = .ok (.getfield 265, 3) := by decide +kernel
theorem d_Mo_byteOf__73 : decode b_Mo_byteOf_ 73 = .ok (.getfield 588, 3) := by decide +kernel
theorem d_Mo_byteOf__76 : decode b_Mo_byteOf_ 76 = .ok (.iload_n 1, 1) := by decide +kernel
theorem d_Mo_byteOf__77 : decode b_Mo_byteOf_ 77 = .ok (.laload, 1) := by decide +kernel
theorem d_Mo_byteOf__78 : decode b_Mo_byteOf_ 78 = .ok (.l2i, 1) := by decide +kernel
theorem d_Mo_byteOf__79 : decode b_Mo_byteOf_ 79 = .ok (.iaload, 1) := by decide +kernel
theorem d_Mo_byteOf__80 : decode b_Mo_byteOf_ 80 = .ok (.iload_n 2, 1) := by decide +kernel
theorem d_Mo_byteOf__81 : decode b_Mo_byteOf_ 81 = .ok (.iadd, 1) := by decide +kernel
theorem d_Mo_byteOf__82 : decode b_Mo_byteOf_ 82 = .ok (.baload, 1) := by decide +kernel
theorem d_Mo_byteOf__83 : decode b_Mo_byteOf_ 83 = .ok (.sipush 255, 3) := by decide +kernel
theorem d_Mo_byteOf__86 : decode b_Mo_byteOf_ 86 = .ok (.iand, 1) := by decide +kernel
theorem d_Mo_byteOf__87 : decode b_Mo_byteOf_ 87 = .ok (.ireturn, 1) := by decide +kernel
theorem kw_290 : Cond.instanceMethod y_Mo_byteOf_ ∈ wA := kinm (show _ ∈ tables_1 from (List.mem_append_right _ (List.mem_append_right _ (List.mem_append_right _ (List.mem_append_right _ (List.mem_append_right _ (List.mem_append_right _ (List.mem_append_right _ (List.mem_append_right _ (List.mem_append_right _ (List.mem_append_right _ (List.mem_append_right _ (List.mem_append_right _ (List.mem_append_right _ (List.mem_of_getElem? (l := tables_1_14) (i := 17) (by decide +kernel)))))))))))))))) (by decide +kernel)
theorem kw_291 : Cond.selects R_Mo y_Mo_byteOf_ y_Mo_byteOf_ ∈ wA := kinm (show _ ∈ tables_1 from (List.mem_append_right _ (List.mem_append_right _ (List.mem_append_right _ (List.mem_append_right _ (List.mem_append_right _ (List.mem_append_right _ (List.mem_append_right _ (List.mem_append_right _ (List.mem_append_right _ (List.mem_append_right _ (List.mem_append_right _ (List.mem_append_right _ (List.mem_append_right _ (List.mem_of_getElem? (l := tables_1_14) (i := 18) (by decide +kernel)))))))))))))))) (by decide +kernel)
theorem cv_Mo_byteOf_ : CV y_Mo_byteOf_ b_Mo_byteOf_ 3 (some .int) 2 := ⟨kw_290, kw_291, kw_17, k_Mo_byteOf_, by decide +kernel⟩
theorem j_Mo_byteOf__j53 {X : Cx} {q : PL} (g : Gd X y_Mo_byteOf_ b_Mo_byteOf_ 3 (some .int) 2 43 R_Mo) {o : (Int32) × S1} (hR : Rt X q o.2 (some (.int o.1))) (l1 : Int32) (l2 : Int32) (k0 : Int32) (k1 : Int32) (s : S1) (ls : Array Slot) (hl : lv_has ls 3 [(0, .ref (q.1 0 0)), (1, .int l1), (2, .int l2)]) (h : M_Mo_byteOf__j53 l1 l2 k0 k1 s = some o) : WW X q s 53 ls [.int k0, .int k1, .ref (q.1 0 0)] := by
  unfold M_Mo_byteOf__j53 at h
  obtain ⟨v53, s, hc53, h⟩ := oB_of h
  refine ww_callV (pc := 53) (rest := []) g cv_Mo_refuse (Or.inl kw_20) cl_Mo (pz rfl (by decide)) (ct_Mo_refuse hc53) ⟨by decide, by decide⟩ rfl hl.1 (Nat.le_of_ble_eq_true rfl) d_Mo_byteOf__53 rfl ?_
  refine ww_st (st' := [.int v53]) rfl ?_
  refine ww_if_eq (pc := 56) (tgt := 61) g.1 d_Mo_byteOf__56 (by decide) h (fun c h => ?_) (fun c h => ?_)
  · refine ww_aload_n (pc := 61) g.1 d_Mo_byteOf__61 rfl (lv_at hl 0 rfl) ?_
    refine ww_gR (pc := 62) g (k := 55) cl_Mo (pz rfl (by decide)) (by decide) (Or.inl kw_200) (f := 55) (t := 67) rfl rfl rfl d_Mo_byteOf__62 ?_
    refine ww_aload_n (pc := 65) g.1 d_Mo_byteOf__65 rfl (lv_at hl 0 rfl) ?_
    refine ww_gR (pc := 66) g (k := 49) cl_Mo (pz rfl (by decide)) (by decide) (Or.inl kw_87) (f := 49) (t := 62) rfl rfl rfl d_Mo_byteOf__66 ?_
    refine ww_aload_n (pc := 69) g.1 d_Mo_byteOf__69 rfl (lv_at hl 0 rfl) ?_
    refine ww_gR (pc := 70) g (k := 79) cl_Mo (pz rfl (by decide)) (by decide) (Or.inl kw_233) (f := 79) (t := 13) rfl rfl rfl d_Mo_byteOf__70 ?_
    refine ww_gR (pc := 73) g (k := 1) (cl_Va (Or.inl ⟨by decide, rfl⟩)) (pz rfl (by decide)) (by decide) (Or.inl kw_93) (f := 1665) (t := 15) rfl rfl rfl d_Mo_byteOf__73 ?_
    refine ww_iload_n (pc := 76) g.1 d_Mo_byteOf__76 rfl (lv_at hl 1 rfl) ?_
    refine ww_al (pc := 77) g (pz rfl (by decide)) rfl rfl d_Mo_byteOf__77 h fun v77 h => ?_
    refine ww_l2i (pc := 78) g.1 (v := v77.toInt32) d_Mo_byteOf__78 rfl ?_
    refine ww_ai (pc := 79) g (pz rfl (by decide)) rfl rfl d_Mo_byteOf__79 h fun v79 h => ?_
    refine ww_iload_n (pc := 80) g.1 d_Mo_byteOf__80 rfl (lv_at hl 2 rfl) ?_
    refine ww_iadd (pc := 81) g.1 d_Mo_byteOf__81 ?_
    refine ww_ab (pc := 82) g (pz rfl (by decide)) rfl rfl d_Mo_byteOf__82 h fun v82 h => ?_
    refine ww_sipush (pc := 83) g.1 (v := 255) d_Mo_byteOf__83 (by decide) ?_
    refine ww_iand (pc := 86) g.1 d_Mo_byteOf__86 ?_
    exact ww_iretH (pc := 87) g h hR d_Mo_byteOf__87
  · refine ww_iconst (pc := 59) g.1 (v := 0) d_Mo_byteOf__59 (by decide) ?_
    exact ww_iretH (pc := 60) g h hR d_Mo_byteOf__60

theorem j_Mo_byteOf__j48 {X : Cx} {q : PL} (g : Gd X y_Mo_byteOf_ b_Mo_byteOf_ 3 (some .int) 2 43 R_Mo) {o : (Int32) × S1} (hR : Rt X q o.2 (some (.int o.1))) (l1 : Int32) (l2 : Int32) (k0 : Int32) (s : S1) (ls : Array Slot) (hl : lv_has ls 3 [(0, .ref (q.1 0 0)), (1, .int l1), (2, .int l2)]) (h : M_Mo_byteOf__j48 l1 l2 k0 s = some o) : WW X q s 48 ls [.int k0, .ref (q.1 0 0)] := by
  unfold M_Mo_byteOf__j48 at h
  refine ww_iconst (pc := 48) g.1 (v := 1) d_Mo_byteOf__48 (by decide) ?_
  refine ww_goto (pc := 49) (tgt := 53) g.1 d_Mo_byteOf__49 (by decide) ?_
  exact j_Mo_byteOf__j53 g hR l1 l2 1 k0 s ls (lv_sub hl [0, 1, 2] rfl) h

theorem ct_Mo_byteOf_ {l : Launch} {P : PP} {q : PL} {s s' : S1} {l1 : Int32} {l2 : Int32} {r : Int32} (h : M_Mo_byteOf_ l1 l2 s = some (r, s')) : Ct l y_Mo_byteOf_ b_Mo_byteOf_ 3 (some .int) 2 43 P q s [.ref (q.1 0 0), .int l1, .int l2] (some (.int r)) q s' := by
  refine ct_of (by decide) (Nat.le_of_ble_eq_true rfl) fun X ls eP el g hR hl => ?_
  subst eP
  have hR : Rt X q ((r, s') : Int32 × S1).2 (some (.int ((r, s') : Int32 × S1).1)) := hR
  have hl : lv_has ls 3 [(0, .ref (q.1 0 0)), (1, .int l1), (2, .int l2)] := hl
  generalize (r, s') = o at h hR
  unfold M_Mo_byteOf_ at h
  refine ww_aload_n (pc := 0) g.1 d_Mo_byteOf__0 rfl (lv_at hl 0 rfl) ?_
  refine ww_iload_n (pc := 1) g.1 d_Mo_byteOf__1 rfl (lv_at hl 1 rfl) ?_
  obtain ⟨v2, s, hc2, h⟩ := oB_of h
  refine ww_callV (pc := 2) (rest := []) g cv_Mo_none (Or.inl kw_287) cl_Mo (pz rfl (by decide)) (ct_Mo_none hc2) ⟨by decide, by decide⟩ rfl hl.1 (Nat.le_of_ble_eq_true rfl) d_Mo_byteOf__2 rfl ?_
  refine ww_st (st' := [.int v2]) rfl ?_
  refine ww_if_eq (pc := 5) (tgt := 10) g.1 d_Mo_byteOf__5 (by decide) h (fun c h => ?_) (fun c h => ?_)
  · refine ww_aload_n (pc := 10) g.1 d_Mo_byteOf__10 rfl (lv_at hl 0 rfl) ?_
    refine ww_iconst (pc := 11) g.1 (v := 2) d_Mo_byteOf__11 (by decide) ?_
    refine ww_aload_n (pc := 12) g.1 d_Mo_byteOf__12 rfl (lv_at hl 0 rfl) ?_
    refine ww_gR (pc := 13) g (k := 79) cl_Mo (pz rfl (by decide)) (by decide) (Or.inl kw_233) (f := 79) (t := 13) rfl rfl rfl d_Mo_byteOf__13 ?_
    refine ww_gR (pc := 16) g (k := 0) (cl_Va (Or.inl ⟨by decide, rfl⟩)) (pz rfl (by decide)) (by decide) (Or.inl kw_90) (f := 1664) (t := 14) rfl rfl rfl d_Mo_byteOf__16 ?_
    refine ww_iload_n (pc := 19) g.1 d_Mo_byteOf__19 rfl (lv_at hl 1 rfl) ?_
    refine ww_ab (pc := 20) g (pz rfl (by decide)) rfl rfl d_Mo_byteOf__20 h fun v20 h => ?_
    refine ww_iconst (pc := 21) g.1 (v := 4) d_Mo_byteOf__21 (by decide) ?_
    refine ww_icmp_ne (pc := 22) (tgt := 48) g.1 d_Mo_byteOf__22 (by decide) h (fun c h => ?_) (fun c h => ?_)
    · exact j_Mo_byteOf__j48 g hR l1 l2 2 s ls (lv_sub hl [0, 1, 2] rfl) h
    · refine ww_iload_n (pc := 25) g.1 d_Mo_byteOf__25 rfl (lv_at hl 2 rfl) ?_
      refine ww_if_lt (pc := 26) (tgt := 48) g.1 d_Mo_byteOf__26 (by decide) h (fun c h => ?_) (fun c h => ?_)
      · exact j_Mo_byteOf__j48 g hR l1 l2 2 s ls (lv_sub hl [0, 1, 2] rfl) h
      · refine ww_iload_n (pc := 29) g.1 d_Mo_byteOf__29 rfl (lv_at hl 2 rfl) ?_
        refine ww_aload_n (pc := 30) g.1 d_Mo_byteOf__30 rfl (lv_at hl 0 rfl) ?_
        refine ww_gR (pc := 31) g (k := 50) cl_Mo (pz rfl (by decide)) (by decide) (Or.inl kw_91) (f := 50) (t := 63) rfl rfl rfl d_Mo_byteOf__31 ?_
        refine ww_aload_n (pc := 34) g.1 d_Mo_byteOf__34 rfl (lv_at hl 0 rfl) ?_
        refine ww_gR (pc := 35) g (k := 79) cl_Mo (pz rfl (by decide)) (by decide) (Or.inl kw_233) (f := 79) (t := 13) rfl rfl rfl d_Mo_byteOf__35 ?_
        refine ww_gR (pc := 38) g (k := 1) (cl_Va (Or.inl ⟨by decide, rfl⟩)) (pz rfl (by decide)) (by decide) (Or.inl kw_93) (f := 1665) (t := 15) rfl rfl rfl d_Mo_byteOf__38 ?_
        refine ww_iload_n (pc := 41) g.1 d_Mo_byteOf__41 rfl (lv_at hl 1 rfl) ?_
        refine ww_al (pc := 42) g (pz rfl (by decide)) rfl rfl d_Mo_byteOf__42 h fun v42 h => ?_
        refine ww_l2i (pc := 43) g.1 (v := v42.toInt32) d_Mo_byteOf__43 rfl ?_
        refine ww_ai (pc := 44) g (pz rfl (by decide)) rfl rfl d_Mo_byteOf__44 h fun v44 h => ?_
        refine ww_icmp_lt (pc := 45) (tgt := 52) g.1 d_Mo_byteOf__45 (by decide) h (fun c h => ?_) (fun c h => ?_)
        · refine ww_iconst (pc := 52) g.1 (v := 0) d_Mo_byteOf__52 (by decide) ?_
          exact j_Mo_byteOf__j53 g hR l1 l2 0 2 s ls (lv_sub hl [0, 1, 2] rfl) h
        · exact j_Mo_byteOf__j48 g hR l1 l2 2 s ls (lv_sub hl [0, 1, 2] rfl) h
  · refine ww_iconst (pc := 8) g.1 (v := 0) d_Mo_byteOf__8 (by decide) ?_
    exact ww_iretH (pc := 9) g h hR d_Mo_byteOf__9

abbrev b_Mo_output : ByteArray := prog_14_method_143_code
def y_Mo_output : MethodName := ⟨R_Mo, "output", "(I)I"⟩
abbrev w_Mo_output : List Cond := .code y_Mo_output b_Mo_output 2 (some .int) :: wA
theorem k_Mo_output : Cond.code y_Mo_output b_Mo_output 2 (some .int) ∈ wA := kinm (show _ ∈ tables_1 from (List.mem_append_right _ (List.mem_append_right _ (List.mem_append_right _ (List.mem_append_right _ (List.mem_append_right _ (List.mem_append_right _ (List.mem_append_right _ (List.mem_append_right _ (List.mem_append_right _ (List.mem_append_right _ (List.mem_append_right _ (List.mem_append_right _ (List.mem_append_right _ (List.mem_of_getElem? (l := tables_1_14) (i := 23) (by decide +kernel)))))))))))))))) (by decide +kernel)
theorem d_Mo_output_0 : decode b_Mo_output 0 = .ok (.aload_n 0, 1) := by decide +kernel
theorem d_Mo_output_1 : decode b_Mo_output 1 = .ok (.iconst 0, 1) := by decide +kernel
theorem d_Mo_output_2 : decode b_Mo_output 2 = .ok (.putfield 18, 3) := by decide +kernel
theorem d_Mo_output_5 : decode b_Mo_output 5 = .ok (.aload_n 0, 1) := by decide +kernel
theorem d_Mo_output_6 : decode b_Mo_output 6 = .ok (.iconst 1, 1) := by decide +kernel
theorem d_Mo_output_7 : decode b_Mo_output 7 = .ok (.aload_n 0, 1) := by decide +kernel
theorem d_Mo_output_8 : decode b_Mo_output 8 = .ok (.getfield 27, 3) := by decide +kernel
theorem d_Mo_output_11 : decode b_Mo_output 11 = .ok (.ifCond .eq 15, 3) := by decide +kernel
theorem d_Mo_output_14 : decode b_Mo_output 14 = .ok (.iload_n 1, 1) := by decide +kernel
theorem d_Mo_output_15 : decode b_Mo_output 15 = .ok (.ifCond .lt 11, 3) := by decide +kernel
theorem d_Mo_output_18 : decode b_Mo_output 18 = .ok (.iload_n 1, 1) := by decide +kernel
theorem d_Mo_output_19 : decode b_Mo_output 19 = .ok (.aload_n 0, 1) := by decide +kernel
theorem d_Mo_output_20 : decode b_Mo_output 20 = .ok (.getfield 428, 3) := by decide +kernel
theorem d_Mo_output_23 : decode b_Mo_output 23 = .ok (.if_icmp .lt 7, 3) := by decide +kernel
theorem d_Mo_output_26 : decode b_Mo_output 26 = .ok (.iconst 1, 1) := by decide +kernel
theorem d_Mo_output_27 : decode b_Mo_output 27 = .ok (.goto 4, 3) := by decide +kernel
theorem d_Mo_output_30 : decode b_Mo_output 30 = .ok (.iconst 0, 1) := by decide +kernel
theorem d_Mo_output_31 : decode b_Mo_output 31 = .ok (.invokevirtual 445, 3) := by decide +kernel
theorem d_Mo_output_34 : decode b_Mo_output 34 = .ok (.ifCond .eq 5, 3) := by decide +kernel
theorem d_Mo_output_37 : decode b_Mo_output 37 = .ok (.iconst 0, 1) := by decide +kernel
theorem d_Mo_output_38 : decode b_Mo_output 38 = .ok (.ireturn, 1) := by decide +kernel
theorem d_Mo_output_39 : decode b_Mo_output 39 = .ok (.aload_n 0, 1) := by decide +kernel
theorem d_Mo_output_40 : decode b_Mo_output 40 = .ok (.getfield 425, 3) := by decide +kernel
theorem d_Mo_output_43 : decode b_Mo_output 43 = .ok (.iload_n 1, 1) := by decide +kernel
theorem d_Mo_output_44 : decode b_Mo_output 44 = .ok (.baload, 1) := by decide +kernel
theorem d_Mo_output_45 : decode b_Mo_output 45 = .ok (.sipush 255, 3) := by decide +kernel
theorem d_Mo_output_48 : decode b_Mo_output 48 = .ok (.iand, 1) := by decide +kernel
theorem d_Mo_output_49 : decode b_Mo_output 49 = .ok (.ireturn, 1) := by decide +kernel
theorem kw_292 : Cond.fieldLink R_Mo 425 "LuaMachineModel" "output" "[B" ∈ wA := kinm (show _ ∈ tables_1 from (List.mem_append_right _ (List.mem_append_right _ (List.mem_append_right _ (List.mem_append_right _ (List.mem_append_right _ (List.mem_append_right _ (List.mem_append_right _ (List.mem_append_right _ (List.mem_append_right _ (List.mem_append_left _ (List.mem_of_getElem? (l := tables_1_10) (i := 150) (by decide +kernel))))))))))))) (by decide +kernel)
theorem kw_293 : Cond.fieldLink R_Mo 428 "LuaMachineModel" "outputs" "I" ∈ wA := kinm (show _ ∈ tables_1 from (List.mem_append_right _ (List.mem_append_right _ (List.mem_append_right _ (List.mem_append_right _ (List.mem_append_right _ (List.mem_append_right _ (List.mem_append_right _ (List.mem_append_right _ (List.mem_append_right _ (List.mem_append_left _ (List.mem_of_getElem? (l := tables_1_10) (i := 151) (by decide +kernel))))))))))))) (by decide +kernel)
theorem kw_294 : Cond.instanceMethod y_Mo_output ∈ wA := kinm (show _ ∈ tables_1 from (List.mem_append_right _ (List.mem_append_right _ (List.mem_append_right _ (List.mem_append_right _ (List.mem_append_right _ (List.mem_append_right _ (List.mem_append_right _ (List.mem_append_right _ (List.mem_append_right _ (List.mem_append_right _ (List.mem_append_right _ (List.mem_append_right _ (List.mem_append_right _ (List.mem_of_getElem? (l := tables_1_14) (i := 21) (by decide +kernel)))))))))))))))) (by decide +kernel)
theorem kw_295 : Cond.selects R_Mo y_Mo_output y_Mo_output ∈ wA := kinm (show _ ∈ tables_1 from (List.mem_append_right _ (List.mem_append_right _ (List.mem_append_right _ (List.mem_append_right _ (List.mem_append_right _ (List.mem_append_right _ (List.mem_append_right _ (List.mem_append_right _ (List.mem_append_right _ (List.mem_append_right _ (List.mem_append_right _ (List.mem_append_right _ (List.mem_append_right _ (List.mem_of_getElem? (l := tables_1_14) (i := 22) (by decide +kernel)))))))))))))))) (by decide +kernel)
theorem cv_Mo_output : CV y_Mo_output b_Mo_output 2 (some .int) 1 := ⟨kw_294, kw_295, kw_17, k_Mo_output, by decide +kernel⟩
theorem j_Mo_output_j31 {X : Cx} {q : PL} (g : Gd X y_Mo_output b_Mo_output 2 (some .int) 1 22 R_Mo) {o : (Int32) × S1} (hR : Rt X q o.2 (some (.int o.1))) (l1 : Int32) (k0 : Int32) (k1 : Int32) (s : S1) (ls : Array Slot) (hl : lv_has ls 2 [(0, .ref (q.1 0 0)), (1, .int l1)]) (h : M_Mo_output_j31 l1 k0 k1 s = some o) : WW X q s 31 ls [.int k0, .int k1, .ref (q.1 0 0)] := by
  unfold M_Mo_output_j31 at h
  obtain ⟨v31, s, hc31, h⟩ := oB_of h
  refine ww_callV (pc := 31) (rest := []) g cv_Mo_refuse (Or.inl kw_20) cl_Mo (pz rfl (by decide)) (ct_Mo_refuse hc31) ⟨by decide, by decide⟩ rfl hl.1 (Nat.le_of_ble_eq_true rfl) d_Mo_output_31 rfl ?_
  refine ww_st (st' := [.int v31]) rfl ?_
  refine ww_if_eq (pc := 34) (tgt := 39) g.1 d_Mo_output_34 (by decide) h (fun c h => ?_) (fun c h => ?_)
  · refine ww_aload_n (pc := 39) g.1 d_Mo_output_39 rfl (lv_at hl 0 rfl) ?_
    refine ww_gR (pc := 40) g (k := 94) cl_Mo (pz rfl (by decide)) (by decide) (Or.inl kw_292) (f := 94) (t := 88) rfl rfl rfl d_Mo_output_40 ?_
    refine ww_iload_n (pc := 43) g.1 d_Mo_output_43 rfl (lv_at hl 1 rfl) ?_
    refine ww_ab (pc := 44) g (pz rfl (by decide)) rfl rfl d_Mo_output_44 h fun v44 h => ?_
    refine ww_sipush (pc := 45) g.1 (v := 255) d_Mo_output_45 (by decide) ?_
    refine ww_iand (pc := 48) g.1 d_Mo_output_48 ?_
    exact ww_iretH (pc := 49) g h hR d_Mo_output_49
  · refine ww_iconst (pc := 37) g.1 (v := 0) d_Mo_output_37 (by decide) ?_
    exact ww_iretH (pc := 38) g h hR d_Mo_output_38

theorem j_Mo_output_j26 {X : Cx} {q : PL} (g : Gd X y_Mo_output b_Mo_output 2 (some .int) 1 22 R_Mo) {o : (Int32) × S1} (hR : Rt X q o.2 (some (.int o.1))) (l1 : Int32) (k0 : Int32) (s : S1) (ls : Array Slot) (hl : lv_has ls 2 [(0, .ref (q.1 0 0)), (1, .int l1)]) (h : M_Mo_output_j26 l1 k0 s = some o) : WW X q s 26 ls [.int k0, .ref (q.1 0 0)] := by
  unfold M_Mo_output_j26 at h
  refine ww_iconst (pc := 26) g.1 (v := 1) d_Mo_output_26 (by decide) ?_
  refine ww_goto (pc := 27) (tgt := 31) g.1 d_Mo_output_27 (by decide) ?_
  exact j_Mo_output_j31 g hR l1 1 k0 s ls (lv_sub hl [0, 1] rfl) h

theorem ct_Mo_output {l : Launch} {P : PP} {q : PL} {s s' : S1} {l1 : Int32} {r : Int32} (h : M_Mo_output l1 s = some (r, s')) : Ct l y_Mo_output b_Mo_output 2 (some .int) 1 22 P q s [.ref (q.1 0 0), .int l1] (some (.int r)) q s' := by
  refine ct_of (by decide) (Nat.le_of_ble_eq_true rfl) fun X ls eP el g hR hl => ?_
  subst eP
  have hR : Rt X q ((r, s') : Int32 × S1).2 (some (.int ((r, s') : Int32 × S1).1)) := hR
  have hl : lv_has ls 2 [(0, .ref (q.1 0 0)), (1, .int l1)] := hl
  generalize (r, s') = o at h hR
  unfold M_Mo_output at h
  refine ww_aload_n (pc := 0) g.1 d_Mo_output_0 rfl (lv_at hl 0 rfl) ?_
  refine ww_iconst (pc := 1) g.1 (v := 0) d_Mo_output_1 (by decide) ?_
  refine ww_pI (pc := 2) g (k := 2) cl_Mo (pz rfl (by decide)) (by decide) (Or.inl kw_14) rfl (f := 2) rfl rfl rfl rfl d_Mo_output_2 h fun s hs h => ?_
  refine ww_aload_n (pc := 5) g.1 d_Mo_output_5 rfl (lv_at hl 0 rfl) ?_
  refine ww_iconst (pc := 6) g.1 (v := 1) d_Mo_output_6 (by decide) ?_
  refine ww_aload_n (pc := 7) g.1 d_Mo_output_7 rfl (lv_at hl 0 rfl) ?_
  refine ww_gI (pc := 8) g (k := 5) cl_Mo (pz rfl (by decide)) (by decide) (Or.inl kw_283) (f := 5) rfl rfl d_Mo_output_8 h fun v8 h => ?_
  refine ww_if_eq (pc := 11) (tgt := 26) g.1 d_Mo_output_11 (by decide) h (fun c h => ?_) (fun c h => ?_)
  · exact j_Mo_output_j26 g hR l1 1 s ls (lv_sub hl [0, 1] rfl) h
  · refine ww_iload_n (pc := 14) g.1 d_Mo_output_14 rfl (lv_at hl 1 rfl) ?_
    refine ww_if_lt (pc := 15) (tgt := 26) g.1 d_Mo_output_15 (by decide) h (fun c h => ?_) (fun c h => ?_)
    · exact j_Mo_output_j26 g hR l1 1 s ls (lv_sub hl [0, 1] rfl) h
    · refine ww_iload_n (pc := 18) g.1 d_Mo_output_18 rfl (lv_at hl 1 rfl) ?_
      refine ww_aload_n (pc := 19) g.1 d_Mo_output_19 rfl (lv_at hl 0 rfl) ?_
      refine ww_gI (pc := 20) g (k := 95) cl_Mo (pz rfl (by decide)) (by decide) (Or.inl kw_293) (f := 95) rfl rfl d_Mo_output_20 h fun v20 h => ?_
      refine ww_icmp_lt (pc := 23) (tgt := 30) g.1 d_Mo_output_23 (by decide) h (fun c h => ?_) (fun c h => ?_)
      · refine ww_iconst (pc := 30) g.1 (v := 0) d_Mo_output_30 (by decide) ?_
        exact j_Mo_output_j31 g hR l1 0 1 s ls (lv_sub hl [0, 1] rfl) h
      · exact j_Mo_output_j26 g hR l1 1 s ls (lv_sub hl [0, 1] rfl) h

abbrev b_Mo_count : ByteArray := prog_14_method_144_code
def y_Mo_count : MethodName := ⟨R_Mo, "count", "(I)I"⟩
abbrev w_Mo_count : List Cond := .code y_Mo_count b_Mo_count 2 (some .int) :: wA
set_option maxRecDepth 20000 in
theorem k_Mo_count : Cond.code y_Mo_count b_Mo_count 2 (some .int) ∈ wA := kinm (show _ ∈ tables_1 from (List.mem_append_right _ (List.mem_append_right _ (List.mem_append_right _ (List.mem_append_right _ (List.mem_append_right _ (List.mem_append_right _ (List.mem_append_right _ (List.mem_append_right _ (List.mem_append_right _ (List.mem_append_right _ (List.mem_append_right _ (List.mem_append_right _ (List.mem_append_right _ (List.mem_of_getElem? (l := tables_1_14) (i := 27) rfl))))))))))))))) rfl
theorem d_Mo_count_0 : decode b_Mo_count 0 = .ok (.aload_n 0, 1) := by decide +kernel
theorem d_Mo_count_1 : decode b_Mo_count 1 = .ok (.iconst 0, 1) := by decide +kernel
theorem d_Mo_count_2 : decode b_Mo_count 2 = .ok (.putfield 18, 3) := by decide +kernel
theorem d_Mo_count_5 : decode b_Mo_count 5 = .ok (.iload_n 1, 1) := by decide +kernel
theorem d_Mo_count_6 : decode b_Mo_count 6 = .ok (.ifCond .ne 8, 3) := by decide +kernel
theorem d_Mo_count_9 : decode b_Mo_count 9 = .ok (.aload_n 0, 1) := by decide +kernel
theorem d_Mo_count_10 : decode b_Mo_count 10 = .ok (.getfield 14, 3) := by decide +kernel
theorem d_Mo_count_13 : decode b_Mo_count 13 = .ok (.ireturn, 1) := by decide +kernel
theorem d_Mo_count_14 : decode b_Mo_count 14 = .ok (.iload_n 1, 1) := by decide +kernel
theorem d_Mo_count_15 : decode b_Mo_count 15 = .ok (.iconst 1, 1) := by decide +kernel
theorem d_Mo_count_16 : decode b_Mo_count 16 = .ok (.if_icmp .lt 9, 3) := by decide +kernel
theorem d_Mo_count_19 : decode b_Mo_count 19 = .ok (.iload_n 1, 1) := by decide +kernel
theorem d_Mo_count_20 : decode b_Mo_count 20 = .ok (.bipush 11, 2) := by decide +kernel
theorem d_Mo_count_22 : decode b_Mo_count 22 = .ok (.if_icmp .le 5, 3) := by decide +kernel
theorem d_Mo_count_25 : decode b_Mo_count 25 = .ok (.iconst (-1), 1) := by decide +kernel
theorem d_Mo_count_26 : decode b_Mo_count 26 = .ok (.ireturn, 1) := by decide +kernel
theorem d_Mo_count_27 : decode b_Mo_count 27 = .ok (.aload_n 0, 1) := by decide +kernel
theorem d_Mo_count_28 : decode b_Mo_count 28 = .ok (.getfield 27, 3) := by decide +kernel
theorem d_Mo_count_31 : decode b_Mo_count 31 = .ok (.ifCond .ne 5, 3) := by decide +kernel
theorem d_Mo_count_34 : decode b_Mo_count 34 = .ok (.iconst 0, 1) := by decide +kernel
theorem d_Mo_count_35 : decode b_Mo_count 35 = .ok (.ireturn, 1) := by decide +kernel
theorem d_Mo_count_36 : decode b_Mo_count 36 = .ok (.iload_n 1, 1) := by decide +kernel
theorem d_Mo_count_37 : decode b_Mo_count 37 = .ok (.tableswitch 116 1 10 #[55, 60, 70, 75, 80, 85, 90, 95, 100, 108], 55) := by decide +kernel
theorem d_Mo_count_92 : decode b_Mo_count 92 = .ok (.aload_n 0, 1) := by decide +kernel
theorem d_Mo_count_93 : decode b_Mo_count 93 = .ok (.getfield 428, 3) := by decide +kernel
theorem d_Mo_count_96 : decode b_Mo_count 96 = .ok (.ireturn, 1) := by decide +kernel
theorem d_Mo_count_97 : decode b_Mo_count 97 = .ok (.aload_n 0, 1) := by decide +kernel
theorem d_Mo_count_98 : decode b_Mo_count 98 = .ok (.getfield 271, 3) := by decide +kernel
theorem d_Mo_count_101 : decode b_Mo_count 101 = .ok (.ldc2_w 1036, 3) := by decide +kernel
theorem d_Mo_count_104 : decode b_Mo_count 104 = .ok (.land, 1) := by decide +kernel
theorem d_Mo_count_105 : decode b_Mo_count 105 = .ok (.l2i, 1) := by decide +kernel
theorem d_Mo_count_106 : decode b_Mo_count 106 = .ok (.ireturn, 1) := by decide +kernel
theorem d_Mo_count_107 : decode b_Mo_count 107 = .ok (.aload_n 0, 1) := by decide +kernel
theorem d_Mo_count_108 : decode b_Mo_count 108 = .ok (.getfield 122, 3) := by decide +kernel
theorem d_Mo_count_111 : decode b_Mo_count 111 = .ok (.ireturn, 1) := by decide +kernel
theorem d_Mo_count_112 : decode b_Mo_count 112 = .ok (.aload_n 0, 1) := by decide +kernel
theorem d_Mo_count_113 : decode b_Mo_count 113 = .ok (.getfield 119, 3) := by decide +kernel
theorem d_Mo_count_116 : decode b_Mo_count 116 = .ok (.ireturn, 1) := by decide +kernel
theorem d_Mo_count_117 : decode b_Mo_count 117 = .ok (.aload_n 0, 1) := by decide +kernel
theorem d_Mo_count_118 : decode b_Mo_count 118 = .ok (.getfield 125, 3) := by decide +kernel
theorem d_Mo_count_121 : decode b_Mo_count 121 = .ok (.ireturn, 1) := by decide +kernel
theorem d_Mo_count_122 : decode b_Mo_count 122 = .ok (.aload_n 0, 1) := by decide +kernel
theorem d_Mo_count_123 : decode b_Mo_count 123 = .ok (.getfield 128, 3) := by decide +kernel
theorem d_Mo_count_126 : decode b_Mo_count 126 = .ok (.ireturn, 1) := by decide +kernel
theorem d_Mo_count_127 : decode b_Mo_count 127 = .ok (.aload_n 0, 1) := by decide +kernel
theorem d_Mo_count_128 : decode b_Mo_count 128 = .ok (.getfield 131, 3) := by decide +kernel
theorem d_Mo_count_131 : decode b_Mo_count 131 = .ok (.ireturn, 1) := by decide +kernel
theorem d_Mo_count_132 : decode b_Mo_count 132 = .ok (.aload_n 0, 1) := by decide +kernel
theorem d_Mo_count_133 : decode b_Mo_count 133 = .ok (.getfield 134, 3) := by decide +kernel
theorem d_Mo_count_136 : decode b_Mo_count 136 = .ok (.ireturn, 1) := by decide +kernel
theorem d_Mo_count_137 : decode b_Mo_count 137 = .ok (.aload_n 0, 1) := by decide +kernel
theorem d_Mo_count_138 : decode b_Mo_count 138 = .ok (.getfield 243, 3) := by decide +kernel
theorem d_Mo_count_141 : decode b_Mo_count 141 = .ok (.getfield 730, 3) := by decide +kernel
theorem d_Mo_count_144 : decode b_Mo_count 144 = .ok (.ireturn, 1) := by decide +kernel
theorem d_Mo_count_145 : decode b_Mo_count 145 = .ok (.aload_n 0, 1) := by decide +kernel
theorem d_Mo_count_146 : decode b_Mo_count 146 = .ok (.getfield 265, 3) := by decide +kernel
theorem d_Mo_count_149 : decode b_Mo_count 149 = .ok (.getfield 569, 3) := by decide +kernel
theorem d_Mo_count_152 : decode b_Mo_count 152 = .ok (.ireturn, 1) := by decide +kernel
theorem d_Mo_count_153 : decode b_Mo_count 153 = .ok (.aload_n 0, 1) := by decide +kernel
theorem d_Mo_count_154 : decode b_Mo_count 154 = .ok (.getfield 137, 3) := by decide +kernel
theorem d_Mo_count_157 : decode b_Mo_count 157 = .ok (.ireturn, 1) := by decide +kernel
theorem kw_296 : Cond.constantLong R_Mo 1036 2147483647 ∈ wA := kinm (show _ ∈ tables_1 from (List.mem_append_right _ (List.mem_append_right _ (List.mem_append_right _ (List.mem_append_right _ (List.mem_append_right _ (List.mem_append_right _ (List.mem_append_right _ (List.mem_append_right _ (List.mem_append_right _ (List.mem_append_right _ (List.mem_append_right _ (List.mem_append_right _ (List.mem_append_right _ (List.mem_of_getElem? (l := tables_1_14) (i := 28) (by decide +kernel)))))))))))))))) (by decide +kernel)
theorem kw_297 : Cond.fieldLink R_Mo 271 "LuaMachineModel" "steps" "J" ∈ wA := kinm (show _ ∈ tables_1 from (List.mem_append_right _ (List.mem_append_right _ (List.mem_append_right _ (List.mem_append_right _ (List.mem_append_right _ (List.mem_append_right _ (List.mem_append_right _ (List.mem_append_right _ (List.mem_append_right _ (List.mem_append_left _ (List.mem_of_getElem? (l := tables_1_10) (i := 137) (by decide +kernel))))))))))))) (by decide +kernel)
theorem kw_298 : Cond.fieldLink R_Mo 125 "LuaMachineModel" "collections" "I" ∈ wA := kinm (show _ ∈ tables_1 from (List.mem_append_right _ (List.mem_append_right _ (List.mem_append_right _ (List.mem_append_right _ (List.mem_append_right _ (List.mem_append_right _ (List.mem_append_right _ (List.mem_append_right _ (List.mem_append_right _ (List.mem_append_left _ (List.mem_of_getElem? (l := tables_1_10) (i := 90) (by decide +kernel))))))))))))) (by decide +kernel)
theorem kw_299 : Cond.fieldLink R_Mo 128 "LuaMachineModel" "rooms" "I" ∈ wA := kinm (show _ ∈ tables_1 from (List.mem_append_right _ (List.mem_append_right _ (List.mem_append_right _ (List.mem_append_right _ (List.mem_append_right _ (List.mem_append_right _ (List.mem_append_right _ (List.mem_append_right _ (List.mem_append_right _ (List.mem_append_left _ (List.mem_of_getElem? (l := tables_1_10) (i := 91) (by decide +kernel))))))))))))) (by decide +kernel)
theorem kw_300 : Cond.fieldLink R_Mo 131 "LuaMachineModel" "roomMade" "I" ∈ wA := kinm (show _ ∈ tables_1 from (List.mem_append_right _ (List.mem_append_right _ (List.mem_append_right _ (List.mem_append_right _ (List.mem_append_right _ (List.mem_append_right _ (List.mem_append_right _ (List.mem_append_right _ (List.mem_append_right _ (List.mem_append_left _ (List.mem_of_getElem? (l := tables_1_10) (i := 92) (by decide +kernel))))))))))))) (by decide +kernel)
theorem kw_301 : Cond.fieldLink R_Mo 134 "LuaMachineModel" "textMade" "I" ∈ wA := kinm (show _ ∈ tables_1 from (List.mem_append_right _ (List.mem_append_right _ (List.mem_append_right _ (List.mem_append_right _ (List.mem_append_right _ (List.mem_append_right _ (List.mem_append_right _ (List.mem_append_right _ (List.mem_append_right _ (List.mem_append_left _ (List.mem_of_getElem? (l := tables_1_10) (i := 93) (by decide +kernel))))))))))))) (by decide +kernel)
theorem kw_302 : Cond.fieldLink R_Mo 137 "LuaMachineModel" "coroutines" "I" ∈ wA := kinm (show _ ∈ tables_1 from (List.mem_append_right _ (List.mem_append_right _ (List.mem_append_right _ (List.mem_append_right _ (List.mem_append_right _ (List.mem_append_right _ (List.mem_append_right _ (List.mem_append_right _ (List.mem_append_right _ (List.mem_append_left _ (List.mem_of_getElem? (l := tables_1_10) (i := 94) (by decide +kernel))))))))))))) (by decide +kernel)
theorem kw_303 : Cond.instanceMethod y_Mo_count ∈ wA := kinm (show _ ∈ tables_1 from (List.mem_append_right _ (List.mem_append_right _ (List.mem_append_right _ (List.mem_append_right _ (List.mem_append_right _ (List.mem_append_right _ (List.mem_append_right _ (List.mem_append_right _ (List.mem_append_right _ (List.mem_append_right _ (List.mem_append_right _ (List.mem_append_right _ (List.mem_append_right _ (List.mem_of_getElem? (l := tables_1_14) (i := 25) (by decide +kernel)))))))))))))))) (by decide +kernel)
theorem kw_304 : Cond.selects R_Mo y_Mo_count y_Mo_count ∈ wA := kinm (show _ ∈ tables_1 from (List.mem_append_right _ (List.mem_append_right _ (List.mem_append_right _ (List.mem_append_right _ (List.mem_append_right _ (List.mem_append_right _ (List.mem_append_right _ (List.mem_append_right _ (List.mem_append_right _ (List.mem_append_right _ (List.mem_append_right _ (List.mem_append_right _ (List.mem_append_right _ (List.mem_of_getElem? (l := tables_1_14) (i := 26) (by decide +kernel)))))))))))))))) (by decide +kernel)
theorem cv_Mo_count : CV y_Mo_count b_Mo_count 2 (some .int) 1 := ⟨kw_303, kw_304, kw_17, k_Mo_count, by decide +kernel⟩
theorem ct_Mo_count {l : Launch} {P : PP} {q : PL} {s s' : S1} {l1 : Int32} {r : Int32} (h : M_Mo_count l1 s = some (r, s')) : Ct l y_Mo_count b_Mo_count 2 (some .int) 0 0 P q s [.ref (q.1 0 0), .int l1] (some (.int r)) q s' := by
  refine ct_of (by decide) (Nat.le_of_ble_eq_true rfl) fun X ls eP el g hR hl => ?_
  subst eP
  have hR : Rt X q ((r, s') : Int32 × S1).2 (some (.int ((r, s') : Int32 × S1).1)) := hR
  have hl : lv_has ls 2 [(0, .ref (q.1 0 0)), (1, .int l1)] := hl
  generalize (r, s') = o at h hR
  unfold M_Mo_count at h
  refine ww_aload_n (pc := 0) g.1 d_Mo_count_0 rfl (lv_at hl 0 rfl) ?_
  refine ww_iconst (pc := 1) g.1 (v := 0) d_Mo_count_1 (by decide) ?_
  refine ww_pI (pc := 2) g (k := 2) cl_Mo (pz rfl (by decide)) (by decide) (Or.inl kw_14) rfl (f := 2) rfl rfl rfl rfl d_Mo_count_2 h fun s hs h => ?_
  refine ww_iload_n (pc := 5) g.1 d_Mo_count_5 rfl (lv_at hl 1 rfl) ?_
  refine ww_if_ne (pc := 6) (tgt := 14) g.1 d_Mo_count_6 (by decide) h (fun c h => ?_) (fun c h => ?_)
  · refine ww_iload_n (pc := 14) g.1 d_Mo_count_14 rfl (lv_at hl 1 rfl) ?_
    refine ww_iconst (pc := 15) g.1 (v := 1) d_Mo_count_15 (by decide) ?_
    refine ww_icmp_lt (pc := 16) (tgt := 25) g.1 d_Mo_count_16 (by decide) h (fun c h => ?_) (fun c h => ?_)
    · refine ww_iconst (pc := 25) g.1 (v := (-1)) d_Mo_count_25 (by decide) ?_
      exact ww_iretH (pc := 26) g h hR d_Mo_count_26
    · refine ww_iload_n (pc := 19) g.1 d_Mo_count_19 rfl (lv_at hl 1 rfl) ?_
      refine ww_bipush (pc := 20) g.1 (v := 11) d_Mo_count_20 (by decide) ?_
      refine ww_icmp_le (pc := 22) (tgt := 27) g.1 d_Mo_count_22 (by decide) h (fun c h => ?_) (fun c h => ?_)
      · refine ww_aload_n (pc := 27) g.1 d_Mo_count_27 rfl (lv_at hl 0 rfl) ?_
        refine ww_gI (pc := 28) g (k := 5) cl_Mo (pz rfl (by decide)) (by decide) (Or.inl kw_283) (f := 5) rfl rfl d_Mo_count_28 h fun v28 h => ?_
        refine ww_if_ne (pc := 31) (tgt := 36) g.1 d_Mo_count_31 (by decide) h (fun c h => ?_) (fun c h => ?_)
        · refine ww_iload_n (pc := 36) g.1 d_Mo_count_36 rfl (lv_at hl 1 rfl) ?_
          by_cases c37_92 : l1 = 1
          · have h := oC_pos c37_92 h
            have c := c37_92
            refine ww_tableIn (pc := 37) (tgt := 92) g.1 d_Mo_count_37 (by rw [c]; decide) (by rw [c]; decide) (by rw [c]; rfl) (by decide) ?_
            refine ww_aload_n (pc := 92) g.1 d_Mo_count_92 rfl (lv_at hl 0 rfl) ?_
            refine ww_gI (pc := 93) g (k := 95) cl_Mo (pz rfl (by decide)) (by decide) (Or.inl kw_293) (f := 95) rfl rfl d_Mo_count_93 h fun v93 h => ?_
            exact ww_iretH (pc := 96) g h hR d_Mo_count_96
          have h := oC_neg c37_92 h
          by_cases c37_97 : l1 = 2
          · have h := oC_pos c37_97 h
            have c := c37_97
            refine ww_tableIn (pc := 37) (tgt := 97) g.1 d_Mo_count_37 (by rw [c]; decide) (by rw [c]; decide) (by rw [c]; rfl) (by decide) ?_
            refine ww_aload_n (pc := 97) g.1 d_Mo_count_97 rfl (lv_at hl 0 rfl) ?_
            refine ww_gL (pc := 98) g (k := 81) cl_Mo (pz rfl (by decide)) (by decide) (Or.inl kw_297) (f := 81) rfl rfl d_Mo_count_98 h fun v98 h => ?_
            refine ww_ldc2 (pc := 101) g (v := 2147483647) kw_296 d_Mo_count_101 ?_
            refine ww_land (pc := 104) g.1 d_Mo_count_104 ?_
            refine ww_l2i (pc := 105) g.1 (v := (v98 &&& 2147483647).toInt32) d_Mo_count_105 rfl ?_
            exact ww_iretH (pc := 106) g h hR d_Mo_count_106
          have h := oC_neg c37_97 h
          by_cases c37_107 : l1 = 3
          · have h := oC_pos c37_107 h
            have c := c37_107
            refine ww_tableIn (pc := 37) (tgt := 107) g.1 d_Mo_count_37 (by rw [c]; decide) (by rw [c]; decide) (by rw [c]; rfl) (by decide) ?_
            refine ww_aload_n (pc := 107) g.1 d_Mo_count_107 rfl (lv_at hl 0 rfl) ?_
            refine ww_gI (pc := 108) g (k := 34) cl_Mo (pz rfl (by decide)) (by decide) (Or.inl kw_115) (f := 34) rfl rfl d_Mo_count_108 h fun v108 h => ?_
            exact ww_iretH (pc := 111) g h hR d_Mo_count_111
          have h := oC_neg c37_107 h
          by_cases c37_112 : l1 = 4
          · have h := oC_pos c37_112 h
            have c := c37_112
            refine ww_tableIn (pc := 37) (tgt := 112) g.1 d_Mo_count_37 (by rw [c]; decide) (by rw [c]; decide) (by rw [c]; rfl) (by decide) ?_
            refine ww_aload_n (pc := 112) g.1 d_Mo_count_112 rfl (lv_at hl 0 rfl) ?_
            refine ww_gI (pc := 113) g (k := 33) cl_Mo (pz rfl (by decide)) (by decide) (Or.inl kw_113) (f := 33) rfl rfl d_Mo_count_113 h fun v113 h => ?_
            exact ww_iretH (pc := 116) g h hR d_Mo_count_116
          have h := oC_neg c37_112 h
          by_cases c37_117 : l1 = 5
          · have h := oC_pos c37_117 h
            have c := c37_117
            refine ww_tableIn (pc := 37) (tgt := 117) g.1 d_Mo_count_37 (by rw [c]; decide) (by rw [c]; decide) (by rw [c]; rfl) (by decide) ?_
            refine ww_aload_n (pc := 117) g.1 d_Mo_count_117 rfl (lv_at hl 0 rfl) ?_
            refine ww_gI (pc := 118) g (k := 35) cl_Mo (pz rfl (by decide)) (by decide) (Or.inl kw_298) (f := 35) rfl rfl d_Mo_count_118 h fun v118 h => ?_
            exact ww_iretH (pc := 121) g h hR d_Mo_count_121
          have h := oC_neg c37_117 h
          by_cases c37_122 : l1 = 6
          · have h := oC_pos c37_122 h
            have c := c37_122
            refine ww_tableIn (pc := 37) (tgt := 122) g.1 d_Mo_count_37 (by rw [c]; decide) (by rw [c]; decide) (by rw [c]; rfl) (by decide) ?_
            refine ww_aload_n (pc := 122) g.1 d_Mo_count_122 rfl (lv_at hl 0 rfl) ?_
            refine ww_gI (pc := 123) g (k := 36) cl_Mo (pz rfl (by decide)) (by decide) (Or.inl kw_299) (f := 36) rfl rfl d_Mo_count_123 h fun v123 h => ?_
            exact ww_iretH (pc := 126) g h hR d_Mo_count_126
          have h := oC_neg c37_122 h
          by_cases c37_127 : l1 = 7
          · have h := oC_pos c37_127 h
            have c := c37_127
            refine ww_tableIn (pc := 37) (tgt := 127) g.1 d_Mo_count_37 (by rw [c]; decide) (by rw [c]; decide) (by rw [c]; rfl) (by decide) ?_
            refine ww_aload_n (pc := 127) g.1 d_Mo_count_127 rfl (lv_at hl 0 rfl) ?_
            refine ww_gI (pc := 128) g (k := 37) cl_Mo (pz rfl (by decide)) (by decide) (Or.inl kw_300) (f := 37) rfl rfl d_Mo_count_128 h fun v128 h => ?_
            exact ww_iretH (pc := 131) g h hR d_Mo_count_131
          have h := oC_neg c37_127 h
          by_cases c37_132 : l1 = 8
          · have h := oC_pos c37_132 h
            have c := c37_132
            refine ww_tableIn (pc := 37) (tgt := 132) g.1 d_Mo_count_37 (by rw [c]; decide) (by rw [c]; decide) (by rw [c]; rfl) (by decide) ?_
            refine ww_aload_n (pc := 132) g.1 d_Mo_count_132 rfl (lv_at hl 0 rfl) ?_
            refine ww_gI (pc := 133) g (k := 38) cl_Mo (pz rfl (by decide)) (by decide) (Or.inl kw_301) (f := 38) rfl rfl d_Mo_count_133 h fun v133 h => ?_
            exact ww_iretH (pc := 136) g h hR d_Mo_count_136
          have h := oC_neg c37_132 h
          by_cases c37_137 : l1 = 9
          · have h := oC_pos c37_137 h
            have c := c37_137
            refine ww_tableIn (pc := 37) (tgt := 137) g.1 d_Mo_count_37 (by rw [c]; decide) (by rw [c]; decide) (by rw [c]; rfl) (by decide) ?_
            refine ww_aload_n (pc := 137) g.1 d_Mo_count_137 rfl (lv_at hl 0 rfl) ?_
            refine ww_gV (pc := 138) g (k := 72) cl_Mo (pz rfl (by decide)) (by decide) (Or.inl kw_150) (f := 72) (t := 28) rfl rfl rfl d_Mo_count_138 h fun v138 h => ?_
            refine ww_ok h fun cn138 h => ?_
            refine ww_nn cn138 ?_
            refine ww_gI (pc := 141) g (k := 2) cl_Th (pt rfl rfl cn138) (by decide) (Or.inl kw_151) (f := 3586) rfl rfl d_Mo_count_141 h fun v141 h => ?_
            exact ww_iretH (pc := 144) g h hR d_Mo_count_144
          have h := oC_neg c37_137 h
          by_cases c37_145 : l1 = 10
          · have h := oC_pos c37_145 h
            have c := c37_145
            refine ww_tableIn (pc := 37) (tgt := 145) g.1 d_Mo_count_37 (by rw [c]; decide) (by rw [c]; decide) (by rw [c]; rfl) (by decide) ?_
            refine ww_aload_n (pc := 145) g.1 d_Mo_count_145 rfl (lv_at hl 0 rfl) ?_
            refine ww_gR (pc := 146) g (k := 79) cl_Mo (pz rfl (by decide)) (by decide) (Or.inl kw_233) (f := 79) (t := 13) rfl rfl rfl d_Mo_count_146 ?_
            refine ww_gI (pc := 149) g (k := 2) (cl_Va (Or.inl ⟨by decide, rfl⟩)) (pz rfl (by decide)) (by decide) (Or.inl kw_179) (f := 1666) rfl rfl d_Mo_count_149 h fun v149 h => ?_
            exact ww_iretH (pc := 152) g h hR d_Mo_count_152
          have h := oC_neg c37_145 h
          have n_1 : ¬ l1.toInt = 1 := lv_neT (fun e => c37_92 e) rfl
          have n_2 : ¬ l1.toInt = 2 := lv_neT (fun e => c37_97 e) rfl
          have n_3 : ¬ l1.toInt = 3 := lv_neT (fun e => c37_107 e) rfl
          have n_4 : ¬ l1.toInt = 4 := lv_neT (fun e => c37_112 e) rfl
          have n_5 : ¬ l1.toInt = 5 := lv_neT (fun e => c37_117 e) rfl
          have n_6 : ¬ l1.toInt = 6 := lv_neT (fun e => c37_122 e) rfl
          have n_7 : ¬ l1.toInt = 7 := lv_neT (fun e => c37_127 e) rfl
          have n_8 : ¬ l1.toInt = 8 := lv_neT (fun e => c37_132 e) rfl
          have n_9 : ¬ l1.toInt = 9 := lv_neT (fun e => c37_137 e) rfl
          have n_10 : ¬ l1.toInt = 10 := lv_neT (fun e => c37_145 e) rfl
          by_cases hr : l1.toInt < 1 ∨ 10 < l1.toInt
          · refine ww_tableOut (pc := 37) (tgt := 153) g.1 d_Mo_count_37 hr (by decide) ?_
            refine ww_aload_n (pc := 153) g.1 d_Mo_count_153 rfl (lv_at hl 0 rfl) ?_
            refine ww_gI (pc := 154) g (k := 39) cl_Mo (pz rfl (by decide)) (by decide) (Or.inl kw_302) (f := 39) rfl rfl d_Mo_count_154 h fun v154 h => ?_
            exact ww_iretH (pc := 157) g h hR d_Mo_count_157
          exact absurd hr (by omega)
        · refine ww_iconst (pc := 34) g.1 (v := 0) d_Mo_count_34 (by decide) ?_
          exact ww_iretH (pc := 35) g h hR d_Mo_count_35
      · refine ww_iconst (pc := 25) g.1 (v := (-1)) d_Mo_count_25 (by decide) ?_
        exact ww_iretH (pc := 26) g h hR d_Mo_count_26
  · refine ww_aload_n (pc := 9) g.1 d_Mo_count_9 rfl (lv_at hl 0 rfl) ?_
    refine ww_gI (pc := 10) g (k := 1) cl_Mo (pz rfl (by decide)) (by decide) (Or.inl kw_21) (f := 1) rfl rfl d_Mo_count_10 h fun v10 h => ?_
    exact ww_iretH (pc := 13) g h hR d_Mo_count_13

abbrev b_Arr_fill_____ : ByteArray := prog_34_method_104_code
def y_Arr_fill_____ : MethodName := ⟨R_Arr, "fill", "([IIII)V"⟩
abbrev w_Arr_fill_____ : List Cond := .code y_Arr_fill_____ b_Arr_fill_____ 5 none :: wA
theorem k_Arr_fill_____ : Cond.code y_Arr_fill_____ b_Arr_fill_____ 5 none ∈ wA := kinm (show _ ∈ tables_1 from (List.mem_append_right _ (List.mem_append_right _ (List.mem_append_right _ (List.mem_append_left _ (List.mem_of_getElem? (l := tables_1_4) (i := 80) (by decide +kernel))))))) (by decide +kernel)
theorem d_Arr_fill______0 : decode b_Arr_fill_____ 0 = .ok (.aload_n 0, 1) := by decide +kernel
theorem d_Arr_fill______1 : decode b_Arr_fill_____ 1 = .ok (.arraylength, 1) := by decide +kernel
theorem d_Arr_fill______2 : decode b_Arr_fill_____ 2 = .ok (.iload_n 1, 1) := by decide +kernel
theorem d_Arr_fill______3 : decode b_Arr_fill_____ 3 = .ok (.iload_n 2, 1) := by decide +kernel
theorem d_Arr_fill______4 : decode b_Arr_fill_____ 4 = .ok (.invokestatic 13, 3) := by decide +kernel
theorem d_Arr_fill______7 : decode b_Arr_fill_____ 7 = .ok (.iload_n 1, 1) := by decide +kernel
theorem d_Arr_fill______8 : decode b_Arr_fill_____ 8 = .ok (.istore 4, 2) := by decide +kernel
theorem d_Arr_fill______10 : decode b_Arr_fill_____ 10 = .ok (.iload 4, 2) := by decide +kernel
theorem d_Arr_fill______12 : decode b_Arr_fill_____ 12 = .ok (.iload_n 2, 1) := by decide +kernel
theorem d_Arr_fill______13 : decode b_Arr_fill_____ 13 = .ok (.if_icmp .ge 14, 3) := by decide +kernel
theorem d_Arr_fill______16 : decode b_Arr_fill_____ 16 = .ok (.aload_n 0, 1) := by decide +kernel
theorem d_Arr_fill______17 : decode b_Arr_fill_____ 17 = .ok (.iload 4, 2) := by decide +kernel
theorem d_Arr_fill______19 : decode b_Arr_fill_____ 19 = .ok (.iload_n 3, 1) := by decide +kernel
theorem d_Arr_fill______20 : decode b_Arr_fill_____ 20 = .ok (.iastore, 1) := by decide +kernel
theorem d_Arr_fill______21 : decode b_Arr_fill_____ 21 = .ok (.iinc 4 1, 3) := by decide +kernel
theorem d_Arr_fill______24 : decode b_Arr_fill_____ 24 = .ok (.goto (-14), 3) := by decide +kernel
theorem d_Arr_fill______27 : decode b_Arr_fill_____ 27 = .ok (.return_, 1) := by decide +kernel
theorem kw_305 : Cond.static y_Arr_fill_____ ∈ wA := kinm (show _ ∈ tables_1 from (List.mem_append_right _ (List.mem_append_right _ (List.mem_append_right _ (List.mem_append_left _ (List.mem_of_getElem? (l := tables_1_4) (i := 79) (by decide +kernel))))))) (by decide +kernel)
theorem cs_Arr_fill_____ : CS y_Arr_fill_____ b_Arr_fill_____ 5 none 4 := ⟨kw_305, kw_3, k_Arr_fill_____, by decide +kernel⟩
theorem lp_Arr_fill______L10 {X : Cx} {q : PL} (g : Gd X y_Arr_fill_____ b_Arr_fill_____ 5 none 1 22 R_Arr) (x : Nat × Int32 × Int32 × Int32 × Int32) (s : S1) (o : ((Nat × Int32 × Int32 × Int32 × Int32) ⊕ ((Unit))) × S1) (h : M_Arr_fill______L10 x s = some o) (hR : (Sum.elim (fun y : Nat × Int32 × Int32 × Int32 × Int32 => ∀ ls : Array Slot, (AK 1 y.1) → (prs o.2 y.1 y.2.1) → lv_has ls 5 [(0, .ref (q.1 y.1 y.2.1)), (2, .int y.2.2.1), (3, .int y.2.2.2.1), (4, .int y.2.2.2.2)] → WW X q o.2 10 ls []) (fun y : Unit => ∀ ls : Array Slot, lv_has ls 5 [] → WW X q o.2 27 ls []) o.1)) : ∀ ls : Array Slot, (AK 1 x.1) → (prs s x.1 x.2.1) → lv_has ls 5 [(0, .ref (q.1 x.1 x.2.1)), (2, .int x.2.2.1), (3, .int x.2.2.2.1), (4, .int x.2.2.2.2)] → WW X q s 10 ls [] := by
  intro ls hp0 hp1 hl
  unfold M_Arr_fill______L10 at h
  refine ww_iload (pc := 10) g.1 d_Arr_fill______10 (lv_at hl 3 rfl) ?_
  refine ww_iload_n (pc := 12) g.1 d_Arr_fill______12 rfl (lv_at hl 1 rfl) ?_
  refine ww_icmp_ge (pc := 13) (tgt := 27) g.1 d_Arr_fill______13 (by decide) h (fun c h => ?_) (fun c h => ?_)
  · rw [oR_eq h] at hR
    exact hR ls (lv_sub hl [] rfl)
  · refine ww_aload_n (pc := 16) g.1 d_Arr_fill______16 rfl (lv_at hl 0 rfl) ?_
    refine ww_iload (pc := 17) g.1 d_Arr_fill______17 (lv_at hl 3 rfl) ?_
    refine ww_iload_n (pc := 19) g.1 d_Arr_fill______19 rfl (lv_at hl 2 rfl) ?_
    refine ww_si (pc := 20) g hp1 hp0.1 (ak_n hp0) d_Arr_fill______20 h fun s hs h => ?_
    have hp1 : prs s x.1 x.2.1 := hs ▸ hp1
    refine ww_iinc (pc := 21) g.1 (v := x.2.2.2.2 + 1) (lv' := [(4, .int (x.2.2.2.2 + 1)), (0, .ref (q.1 x.1 x.2.1)), (2, .int x.2.2.1), (3, .int x.2.2.2.1)]) d_Arr_fill______21 hl (k := 3) rfl (by rfl) (by decide) rfl fun ls hl => ?_
    refine ww_goto (pc := 24) (tgt := 10) g.1 d_Arr_fill______24 (by decide) ?_
    rw [oR_eq h] at hR
    exact hR ls hp0 hp1 (lv_sub hl [1, 2, 3, 0] rfl)

theorem ct_Arr_fill_____ {l : Launch} {P : PP} {q : PL} {s s' : S1} {l0r : Nat} {l0 : Int32} {l1 : Int32} {l2 : Int32} {l3 : Int32} (hp0 : AK 1 l0r) (hp1 : prs s l0r l0) {r : Unit} (h : M_Arr_fill_____ l0r l0 l1 l2 l3 s = some (r, s')) : Ct l y_Arr_fill_____ b_Arr_fill_____ 5 none 1 22 P q s [.ref (q.1 l0r l0), .int l1, .int l2, .int l3] none q s' := by
  refine ct_ofF (by decide +kernel) (Nat.le_of_ble_eq_true rfl) fun X ls eP el g hR hl => ?_
  subst eP
  have hR : Rt X q ((r, s') : Unit × S1).2 none := hR
  have hl : lv_has ls 5 [(0, .ref (q.1 l0r l0)), (1, .int l1), (2, .int l2), (3, .int l3)] := hl
  generalize (r, s') = o at h hR
  unfold M_Arr_fill_____ at h
  refine ww_aload_n (pc := 0) g.1 d_Arr_fill______0 rfl (lv_at hl 0 rfl) ?_
  refine ww_alen (pc := 1) g (n := lnI l0r) hp1 (ak_k hp0) (ak_m hp0) d_Arr_fill______1 ?_
  refine ww_iload_n (pc := 2) g.1 d_Arr_fill______2 rfl (lv_at hl 1 rfl) ?_
  refine ww_iload_n (pc := 3) g.1 d_Arr_fill______3 rfl (lv_at hl 2 rfl) ?_
  obtain ⟨v4, s, hc4, h⟩ := oB_of h
  refine ww_callS (pc := 4) (rest := []) g cs_Arr_rangeCheck (Or.inl kw_6) (ct_Arr_rangeCheck hc4) ⟨by decide, by decide⟩ rfl hl.1 (Nat.le_of_ble_eq_true rfl) d_Arr_fill______4 rfl ?_
  refine ww_st (st' := []) rfl ?_
  refine ww_pr h fun hp1 h => ?_
  refine ww_iload_n (pc := 7) g.1 d_Arr_fill______7 rfl (lv_at hl 1 rfl) ?_
  refine ww_istore (pc := 8) (i := 4) g.1 (lv' := [(4, .int l1), (0, .ref (q.1 l0r l0)), (1, .int l1), (2, .int l2), (3, .int l3)]) d_Arr_fill______8 hl (by decide) rfl fun ls hl => ?_
  obtain ⟨e10, s1, hw, h⟩ := oB_of h
  refine oW_rule (Wh := fun (x : Nat × Int32 × Int32 × Int32 × Int32) (s : S1) => ∀ ls : Array Slot, (AK 1 x.1) → (prs s x.1 x.2.1) → lv_has ls 5 [(0, .ref (q.1 x.1 x.2.1)), (2, .int x.2.2.1), (3, .int x.2.2.2.1), (4, .int x.2.2.2.2)] → WW X q s 10 ls []) (We := fun (e : (Unit)) (s : S1) => ∀ ls : Array Slot, lv_has ls 5 [] → WW X q s 27 ls []) (fun x s o hb hc => lp_Arr_fill______L10 (q := q) g x s o hb hc) hw ?_ ls hp0 hp1 (lv_sub hl [1, 3, 4, 0] rfl)
  clear hw hl
  clear ls
  intro ls hl
  generalize s1 = s at h ⊢
  exact ww_vretH (pc := 27) g h hR d_Arr_fill______27


