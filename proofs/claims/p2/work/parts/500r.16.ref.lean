abbrev b_Mo_meta : ByteArray := prog_14_method_63_code
def y_Mo_meta : MethodName := ⟨R_Mo, "meta", "(IJI)Z"⟩
abbrev w_Mo_meta : List Cond := .code y_Mo_meta b_Mo_meta 5 (some .boolean) :: wA
theorem k_Mo_meta : Cond.code y_Mo_meta b_Mo_meta 5 (some .boolean) ∈ wA := kinm (show _ ∈ tables_1 from (List.mem_append_right _ (List.mem_append_right _ (List.mem_append_right _ (List.mem_append_right _ (List.mem_append_right _ (List.mem_append_right _ (List.mem_append_right _ (List.mem_append_right _ (List.mem_append_right _ (List.mem_append_right _ (List.mem_append_right _ (List.mem_append_left _ (List.mem_of_getElem? (l := tables_1_12) (i := 166) (by decide +kernel))))))))))))))) (by decide +kernel)
theorem d_Mo_meta_0 : decode b_Mo_meta 0 = .ok (.aload_n 0, 1) := by decide +kernel
theorem d_Mo_meta_1 : decode b_Mo_meta 1 = .ok (.iconst 0, 1) := by decide +kernel
theorem d_Mo_meta_2 : decode b_Mo_meta 2 = .ok (.putfield 222, 3) := by decide +kernel
theorem d_Mo_meta_5 : decode b_Mo_meta 5 = .ok (.iload_n 1, 1) := by decide +kernel
theorem d_Mo_meta_6 : decode b_Mo_meta 6 = .ok (.iconst 5, 1) := by decide +kernel
theorem d_Mo_meta_7 : decode b_Mo_meta 7 = .ok (.if_icmp .ne 13, 3) := by decide +kernel
theorem d_Mo_meta_10 : decode b_Mo_meta 10 = .ok (.aload_n 0, 1) := by decide +kernel
theorem d_Mo_meta_11 : decode b_Mo_meta 11 = .ok (.getfield 177, 3) := by decide +kernel
theorem d_Mo_meta_14 : decode b_Mo_meta 14 = .ok (.lload_n 2, 1) := by decide +kernel
theorem d_Mo_meta_15 : decode b_Mo_meta 15 = .ok (.l2i, 1) := by decide +kernel
theorem d_Mo_meta_16 : decode b_Mo_meta 16 = .ok (.iaload, 1) := by decide +kernel
theorem d_Mo_meta_17 : decode b_Mo_meta 17 = .ok (.ifCond .ge 5, 3) := by decide +kernel
theorem d_Mo_meta_20 : decode b_Mo_meta 20 = .ok (.iconst 0, 1) := by decide +kernel
theorem d_Mo_meta_21 : decode b_Mo_meta 21 = .ok (.ireturn, 1) := by decide +kernel
theorem d_Mo_meta_22 : decode b_Mo_meta 22 = .ok (.aload_n 0, 1) := by decide +kernel
theorem d_Mo_meta_23 : decode b_Mo_meta 23 = .ok (.aload_n 0, 1) := by decide +kernel
theorem d_Mo_meta_24 : decode b_Mo_meta 24 = .ok (.getfield 177, 3) := by decide +kernel
theorem d_Mo_meta_27 : decode b_Mo_meta 27 = .ok (.lload_n 2, 1) := by decide +kernel
theorem d_Mo_meta_28 : decode b_Mo_meta 28 = .ok (.l2i, 1) := by decide +kernel
theorem d_Mo_meta_29 : decode b_Mo_meta 29 = .ok (.iaload, 1) := by decide +kernel
theorem d_Mo_meta_30 : decode b_Mo_meta 30 = .ok (.iconst 4, 1) := by decide +kernel
theorem d_Mo_meta_31 : decode b_Mo_meta 31 = .ok (.aload_n 0, 1) := by decide +kernel
theorem d_Mo_meta_32 : decode b_Mo_meta 32 = .ok (.getfield 403, 3) := by decide +kernel
theorem d_Mo_meta_35 : decode b_Mo_meta 35 = .ok (.iload 4, 2) := by decide +kernel
theorem d_Mo_meta_37 : decode b_Mo_meta 37 = .ok (.iaload, 1) := by decide +kernel
theorem d_Mo_meta_38 : decode b_Mo_meta 38 = .ok (.i2l, 1) := by decide +kernel
theorem d_Mo_meta_39 : decode b_Mo_meta 39 = .ok (.invokevirtual 581, 3) := by decide +kernel
theorem d_Mo_meta_42 : decode b_Mo_meta 42 = .ok (.ireturn, 1) := by decide +kernel
theorem kw_407 : Cond.instanceMethod y_Mo_meta ∈ wA := kinm (show _ ∈ tables_1 from (List.mem_append_right _ (List.mem_append_right _ (List.mem_append_right _ (List.mem_append_right _ (List.mem_append_right _ (List.mem_append_right _ (List.mem_append_right _ (List.mem_append_right _ (List.mem_append_right _ (List.mem_append_right _ (List.mem_append_right _ (List.mem_append_left _ (List.mem_of_getElem? (l := tables_1_12) (i := 165) (by decide +kernel))))))))))))))) (by decide +kernel)
theorem kw_408 : Cond.selects R_Mo y_Mo_meta y_Mo_meta ∈ wA := kinp 158 (by decide +kernel) (by decide +kernel)
theorem cv_Mo_meta : CV y_Mo_meta b_Mo_meta 5 (some .boolean) 3 := ⟨kw_407, kw_408, kw_17, k_Mo_meta, by decide +kernel⟩
theorem ct_Mo_meta {l : Launch} {P : PP} {q : PL} {s s' : S1} {l1 : Int32} {l2 : Int64} {l4 : Int32} {r : Int32} (h : M_Mo_meta l1 l2 l4 s = some (r, s')) : Ct l y_Mo_meta b_Mo_meta 5 (some .boolean) 4 99 P q s [.ref (q.1 0 0), .int l1, .long l2, .int l4] (some (.int r)) q s' := by
  refine ct_of (by decide) (Nat.le_of_ble_eq_true rfl) fun X ls eP el g hR hl => ?_
  subst eP
  have hR : Rt X q ((r, s') : Int32 × S1).2 (some (.int ((r, s') : Int32 × S1).1)) := hR
  have hl : lv_has ls 5 [(0, .ref (q.1 0 0)), (1, .int l1), (2, .long l2), (4, .int l4)] := hl
  generalize (r, s') = o at h hR
  unfold M_Mo_meta at h
  refine ww_aload_n (pc := 0) g.1 d_Mo_meta_0 rfl (lv_at hl 0 rfl) ?_
  refine ww_iconst (pc := 1) g.1 (v := 0) d_Mo_meta_1 (by decide) ?_
  refine ww_pI (pc := 2) g (k := 66) cl_Mo (pz rfl (by decide)) (by decide) (Or.inl kw_92) rfl (f := 66) rfl rfl rfl rfl d_Mo_meta_2 h fun s hs h => ?_
  refine ww_iload_n (pc := 5) g.1 d_Mo_meta_5 rfl (lv_at hl 1 rfl) ?_
  refine ww_iconst (pc := 6) g.1 (v := 5) d_Mo_meta_6 (by decide) ?_
  refine ww_icmp_ne (pc := 7) (tgt := 20) g.1 d_Mo_meta_7 (by decide) h (fun c h => ?_) (fun c h => ?_)
  · refine ww_iconst (pc := 20) g.1 (v := 0) d_Mo_meta_20 (by decide) ?_
    exact ww_zretH (pc := 21) g h hR (Or.inl rfl) d_Mo_meta_21
  · refine ww_aload_n (pc := 10) g.1 d_Mo_meta_10 rfl (lv_at hl 0 rfl) ?_
    refine ww_gR (pc := 11) g (k := 52) cl_Mo (pz rfl (by decide)) (by decide) (Or.inl kw_341) (f := 52) (t := 65) rfl rfl rfl d_Mo_meta_11 ?_
    refine ww_lload_n (pc := 14) g.1 d_Mo_meta_14 rfl (lv_at hl 2 rfl) ?_
    refine ww_l2i (pc := 15) g.1 (v := l2.toInt32) d_Mo_meta_15 rfl ?_
    refine ww_ai (pc := 16) g (pz rfl (by decide)) rfl rfl d_Mo_meta_16 h fun v16 h => ?_
    refine ww_if_ge (pc := 17) (tgt := 22) g.1 d_Mo_meta_17 (by decide) h (fun c h => ?_) (fun c h => ?_)
    · refine ww_aload_n (pc := 22) g.1 d_Mo_meta_22 rfl (lv_at hl 0 rfl) ?_
      refine ww_aload_n (pc := 23) g.1 d_Mo_meta_23 rfl (lv_at hl 0 rfl) ?_
      refine ww_gR (pc := 24) g (k := 52) cl_Mo (pz rfl (by decide)) (by decide) (Or.inl kw_341) (f := 52) (t := 65) rfl rfl rfl d_Mo_meta_24 ?_
      refine ww_lload_n (pc := 27) g.1 d_Mo_meta_27 rfl (lv_at hl 2 rfl) ?_
      refine ww_l2i (pc := 28) g.1 (v := l2.toInt32) d_Mo_meta_28 rfl ?_
      refine ww_ai (pc := 29) g (pz rfl (by decide)) rfl rfl d_Mo_meta_29 h fun v29 h => ?_
      refine ww_iconst (pc := 30) g.1 (v := 4) d_Mo_meta_30 (by decide) ?_
      refine ww_aload_n (pc := 31) g.1 d_Mo_meta_31 rfl (lv_at hl 0 rfl) ?_
      refine ww_gR (pc := 32) g (k := 87) cl_Mo (pz rfl (by decide)) (by decide) (Or.inl kw_355) (f := 87) (t := 82) rfl rfl rfl d_Mo_meta_32 ?_
      refine ww_iload (pc := 35) g.1 d_Mo_meta_35 (lv_at hl 3 rfl) ?_
      refine ww_ai (pc := 37) g (pz rfl (by decide)) rfl rfl d_Mo_meta_37 h fun v37 h => ?_
      refine ww_i2l (pc := 38) g.1 (v := v37.toInt64) d_Mo_meta_38 rfl ?_
      obtain ⟨v39, s, hc39, h⟩ := oB_of h
      refine ww_callV (pc := 39) (rest := []) g cv_Mo_raw (Or.inl kw_356) cl_Mo (pz rfl (by decide)) (ct_Mo_raw hc39) ⟨by decide, by decide⟩ rfl hl.1 (Nat.le_of_ble_eq_true rfl) d_Mo_meta_39 rfl ?_
      refine ww_st (st' := [.int v39]) rfl ?_
      refine ww_ok h fun cz h => ?_
      exact ww_zretH (pc := 42) g h hR cz d_Mo_meta_42
    · refine ww_iconst (pc := 20) g.1 (v := 0) d_Mo_meta_20 (by decide) ?_
      exact ww_zretH (pc := 21) g h hR (Or.inl rfl) d_Mo_meta_21

abbrev b_Mo_either : ByteArray := prog_14_method_117_code
def y_Mo_either : MethodName := ⟨R_Mo, "either", "(IIJIJ)Z"⟩
abbrev w_Mo_either : List Cond := .code y_Mo_either b_Mo_either 11 (some .boolean) :: wA
theorem k_Mo_either : Cond.code y_Mo_either b_Mo_either 11 (some .boolean) ∈ wA := kinm (show _ ∈ tables_1 from (List.mem_append_right _ (List.mem_append_right _ (List.mem_append_right _ (List.mem_append_right _ (List.mem_append_right _ (List.mem_append_right _ (List.mem_append_right _ (List.mem_append_right _ (List.mem_append_right _ (List.mem_append_right _ (List.mem_append_right _ (List.mem_append_right _ (List.mem_append_left _ (List.mem_of_getElem? (l := tables_1_13) (i := 106) (by decide +kernel)))))))))))))))) (by decide +kernel)
theorem d_Mo_either_0 : decode b_Mo_either 0 = .ok (.aload_n 0, 1) := by decide +kernel
theorem d_Mo_either_1 : decode b_Mo_either 1 = .ok (.iload_n 2, 1) := by decide +kernel
theorem d_Mo_either_2 : decode b_Mo_either 2 = .ok (.lload_n 3, 1) := by decide +kernel
theorem d_Mo_either_3 : decode b_Mo_either 3 = .ok (.iload_n 1, 1) := by decide +kernel
theorem d_Mo_either_4 : decode b_Mo_either 4 = .ok (.invokevirtual 715, 3) := by decide +kernel
theorem d_Mo_either_7 : decode b_Mo_either 7 = .ok (.ifCond .ne 17, 3) := by decide +kernel
theorem d_Mo_either_10 : decode b_Mo_either 10 = .ok (.aload_n 0, 1) := by decide +kernel
theorem d_Mo_either_11 : decode b_Mo_either 11 = .ok (.iload 5, 2) := by decide +kernel
theorem d_Mo_either_13 : decode b_Mo_either 13 = .ok (.lload 6, 2) := by decide +kernel
theorem d_Mo_either_15 : decode b_Mo_either 15 = .ok (.iload_n 1, 1) := by decide +kernel
theorem d_Mo_either_16 : decode b_Mo_either 16 = .ok (.invokevirtual 715, 3) := by decide +kernel
theorem d_Mo_either_19 : decode b_Mo_either 19 = .ok (.ifCond .ne 5, 3) := by decide +kernel
theorem d_Mo_either_22 : decode b_Mo_either 22 = .ok (.iconst 0, 1) := by decide +kernel
theorem d_Mo_either_23 : decode b_Mo_either 23 = .ok (.ireturn, 1) := by decide +kernel
theorem d_Mo_either_24 : decode b_Mo_either 24 = .ok (.aload_n 0, 1) := by decide +kernel
theorem d_Mo_either_25 : decode b_Mo_either 25 = .ok (.getfield 222, 3) := by decide +kernel
theorem d_Mo_either_28 : decode b_Mo_either 28 = .ok (.istore 8, 2) := by decide +kernel
theorem d_Mo_either_30 : decode b_Mo_either 30 = .ok (.aload_n 0, 1) := by decide +kernel
theorem d_Mo_either_31 : decode b_Mo_either 31 = .ok (.getfield 225, 3) := by decide +kernel
theorem d_Mo_either_34 : decode b_Mo_either 34 = .ok (.lstore 9, 2) := by decide +kernel
theorem d_Mo_either_36 : decode b_Mo_either 36 = .ok (.aload_n 0, 1) := by decide +kernel
theorem d_Mo_either_37 : decode b_Mo_either 37 = .ok (.iload_n 2, 1) := by decide +kernel
theorem d_Mo_either_38 : decode b_Mo_either 38 = .ok (.lload_n 3, 1) := by decide +kernel
theorem d_Mo_either_39 : decode b_Mo_either 39 = .ok (.iload 5, 2) := by decide +kernel
theorem d_Mo_either_41 : decode b_Mo_either 41 = .ok (.lload 6, 2) := by decide +kernel
theorem d_Mo_either_43 : decode b_Mo_either 43 = .ok (.invokevirtual 943, 3) := by decide +kernel
theorem d_Mo_either_46 : decode b_Mo_either 46 = .ok (.aload_n 0, 1) := by decide +kernel
theorem d_Mo_either_47 : decode b_Mo_either 47 = .ok (.iload 8, 2) := by decide +kernel
theorem d_Mo_either_49 : decode b_Mo_either 49 = .ok (.putfield 253, 3) := by decide +kernel
theorem d_Mo_either_52 : decode b_Mo_either 52 = .ok (.aload_n 0, 1) := by decide +kernel
theorem d_Mo_either_53 : decode b_Mo_either 53 = .ok (.lload 9, 2) := by decide +kernel
theorem d_Mo_either_55 : decode b_Mo_either 55 = .ok (.putfield 256, 3) := by decide +kernel
theorem d_Mo_either_58 : decode b_Mo_either 58 = .ok (.aload_n 0, 1) := by decide +kernel
theorem d_Mo_either_59 : decode b_Mo_either 59 = .ok (.iconst 1, 1) := by decide +kernel
theorem d_Mo_either_60 : decode b_Mo_either 60 = .ok (.putfield 247, 3) := by decide +kernel
theorem d_Mo_either_63 : decode b_Mo_either 63 = .ok (.iconst 1, 1) := by decide +kernel
theorem d_Mo_either_64 : decode b_Mo_either 64 = .ok (.ireturn, 1) := by decide +kernel
theorem kw_409 : Cond.methodLink R_Mo 715 y_Mo_meta ∈ wA := kinm (show _ ∈ tables_1 from (List.mem_append_right _ (List.mem_append_right _ (List.mem_append_right _ (List.mem_append_right _ (List.mem_append_right _ (List.mem_append_right _ (List.mem_append_right _ (List.mem_append_right _ (List.mem_append_right _ (List.mem_append_right _ (List.mem_append_right _ (List.mem_append_left _ (List.mem_of_getElem? (l := tables_1_12) (i := 163) (by decide +kernel))))))))))))))) (by decide +kernel)
theorem kw_410 : Cond.methodLink R_Mo 943 y_Mo_arguments ∈ wA := kinm (show _ ∈ tables_1 from (List.mem_append_right _ (List.mem_append_right _ (List.mem_append_right _ (List.mem_append_right _ (List.mem_append_right _ (List.mem_append_right _ (List.mem_append_right _ (List.mem_append_right _ (List.mem_append_right _ (List.mem_append_right _ (List.mem_append_right _ (List.mem_append_right _ (List.mem_append_left _ (List.mem_of_getElem? (l := tables_1_13) (i := 107) (by decide +kernel)))))))))))))))) (by decide +kernel)
theorem kw_411 : Cond.instanceMethod y_Mo_either ∈ wA := kinm (show _ ∈ tables_1 from (List.mem_append_right _ (List.mem_append_right _ (List.mem_append_right _ (List.mem_append_right _ (List.mem_append_right _ (List.mem_append_right _ (List.mem_append_right _ (List.mem_append_right _ (List.mem_append_right _ (List.mem_append_right _ (List.mem_append_right _ (List.mem_append_right _ (List.mem_append_left _ (List.mem_of_getElem? (l := tables_1_13) (i := 105) (by decide +kernel)))))))))))))))) (by decide +kernel)
theorem kw_412 : Cond.selects R_Mo y_Mo_either y_Mo_either ∈ wA := kinp 197 (by decide +kernel) (by decide +kernel)
theorem cv_Mo_either : CV y_Mo_either b_Mo_either 11 (some .boolean) 5 := ⟨kw_411, kw_412, kw_17, k_Mo_either, by decide +kernel⟩
theorem j_Mo_either_j24 {X : Cx} {q : PL} (g : Gd X y_Mo_either b_Mo_either 11 (some .boolean) 5 123 R_Mo) {o : (Int32) × S1} (hR : Rt X q o.2 (some (.int o.1))) (l2 : Int32) (l3 : Int64) (l5 : Int32) (l6 : Int64) (s : S1) (ls : Array Slot) (hl : lv_has ls 11 [(0, .ref (q.1 0 0)), (2, .int l2), (3, .long l3), (5, .int l5), (6, .long l6)]) (h : M_Mo_either_j24 l2 l3 l5 l6 s = some o) : WW X q s 24 ls [] := by
  unfold M_Mo_either_j24 at h
  refine ww_aload_n (pc := 24) g.1 d_Mo_either_24 rfl (lv_at hl 0 rfl) ?_
  refine ww_gI (pc := 25) g (k := 66) cl_Mo (pz rfl (by decide)) (by decide) (Or.inl kw_92) (f := 66) rfl rfl d_Mo_either_25 h fun v25 h => ?_
  refine ww_istore (pc := 28) (i := 8) g.1 (lv' := [(8, .int v25), (0, .ref (q.1 0 0)), (2, .int l2), (3, .long l3), (5, .int l5), (6, .long l6)]) d_Mo_either_28 hl (by decide) rfl fun ls hl => ?_
  refine ww_aload_n (pc := 30) g.1 d_Mo_either_30 rfl (lv_at hl 1 rfl) ?_
  refine ww_gL (pc := 31) g (k := 67) cl_Mo (pz rfl (by decide)) (by decide) (Or.inl kw_94) (f := 67) rfl rfl d_Mo_either_31 h fun v31 h => ?_
  refine ww_lstore (pc := 34) (i := 9) g.1 (lv' := [(9, .long v31), (8, .int v25), (0, .ref (q.1 0 0)), (2, .int l2), (3, .long l3), (5, .int l5), (6, .long l6)]) d_Mo_either_34 hl (by decide) rfl fun ls hl => ?_
  refine ww_aload_n (pc := 36) g.1 d_Mo_either_36 rfl (lv_at hl 2 rfl) ?_
  refine ww_iload_n (pc := 37) g.1 d_Mo_either_37 rfl (lv_at hl 3 rfl) ?_
  refine ww_lload_n (pc := 38) g.1 d_Mo_either_38 rfl (lv_at hl 4 rfl) ?_
  refine ww_iload (pc := 39) g.1 d_Mo_either_39 (lv_at hl 5 rfl) ?_
  refine ww_lload (pc := 41) g.1 d_Mo_either_41 (lv_at hl 6 rfl) ?_
  obtain ⟨v43, s, hc43, h⟩ := oB_of h
  refine ww_callV (pc := 43) (rest := []) g cv_Mo_arguments (Or.inl kw_410) cl_Mo (pz rfl (by decide)) (ct_Mo_arguments hc43) ⟨by decide, by decide⟩ rfl hl.1 (Nat.le_of_ble_eq_true rfl) d_Mo_either_43 rfl ?_
  refine ww_st (st' := []) rfl ?_
  refine ww_aload_n (pc := 46) g.1 d_Mo_either_46 rfl (lv_at hl 2 rfl) ?_
  refine ww_iload (pc := 47) g.1 d_Mo_either_47 (lv_at hl 1 rfl) ?_
  refine ww_pI (pc := 49) g (k := 75) cl_Mo (pz rfl (by decide)) (by decide) (Or.inl kw_192) rfl (f := 75) rfl rfl rfl rfl d_Mo_either_49 h fun s hs h => ?_
  refine ww_aload_n (pc := 52) g.1 d_Mo_either_52 rfl (lv_at hl 2 rfl) ?_
  refine ww_lload (pc := 53) g.1 d_Mo_either_53 (lv_at hl 0 rfl) ?_
  refine ww_pL (pc := 55) g (k := 76) cl_Mo (pz rfl (by decide)) (by decide) (Or.inl kw_194) rfl (f := 76) rfl rfl rfl rfl d_Mo_either_55 h fun s hs h => ?_
  refine ww_aload_n (pc := 58) g.1 d_Mo_either_58 rfl (lv_at hl 2 rfl) ?_
  refine ww_iconst (pc := 59) g.1 (v := 1) d_Mo_either_59 (by decide) ?_
  refine ww_pI (pc := 60) g (k := 73) cl_Mo (pz rfl (by decide)) (by decide) (Or.inl kw_75) rfl (f := 73) rfl rfl rfl rfl d_Mo_either_60 h fun s hs h => ?_
  refine ww_iconst (pc := 63) g.1 (v := 1) d_Mo_either_63 (by decide) ?_
  exact ww_zretH (pc := 64) g h hR (Or.inr rfl) d_Mo_either_64

theorem ct_Mo_either {l : Launch} {P : PP} {q : PL} {s s' : S1} {l1 : Int32} {l2 : Int32} {l3 : Int64} {l5 : Int32} {l6 : Int64} {r : Int32} (h : M_Mo_either l1 l2 l3 l5 l6 s = some (r, s')) : Ct l y_Mo_either b_Mo_either 11 (some .boolean) 5 123 P q s [.ref (q.1 0 0), .int l1, .int l2, .long l3, .int l5, .long l6] (some (.int r)) q s' := by
  refine ct_of (by decide) (Nat.le_of_ble_eq_true rfl) fun X ls eP el g hR hl => ?_
  subst eP
  have hR : Rt X q ((r, s') : Int32 × S1).2 (some (.int ((r, s') : Int32 × S1).1)) := hR
  have hl : lv_has ls 11 [(0, .ref (q.1 0 0)), (1, .int l1), (2, .int l2), (3, .long l3), (5, .int l5), (6, .long l6)] := hl
  generalize (r, s') = o at h hR
  unfold M_Mo_either at h
  refine ww_aload_n (pc := 0) g.1 d_Mo_either_0 rfl (lv_at hl 0 rfl) ?_
  refine ww_iload_n (pc := 1) g.1 d_Mo_either_1 rfl (lv_at hl 2 rfl) ?_
  refine ww_lload_n (pc := 2) g.1 d_Mo_either_2 rfl (lv_at hl 3 rfl) ?_
  refine ww_iload_n (pc := 3) g.1 d_Mo_either_3 rfl (lv_at hl 1 rfl) ?_
  obtain ⟨v4, s, hc4, h⟩ := oB_of h
  refine ww_callV (pc := 4) (rest := []) g cv_Mo_meta (Or.inl kw_409) cl_Mo (pz rfl (by decide)) (ct_Mo_meta hc4) ⟨by decide, by decide⟩ rfl hl.1 (Nat.le_of_ble_eq_true rfl) d_Mo_either_4 rfl ?_
  refine ww_st (st' := [.int v4]) rfl ?_
  refine ww_if_ne (pc := 7) (tgt := 24) g.1 d_Mo_either_7 (by decide) h (fun c h => ?_) (fun c h => ?_)
  · exact j_Mo_either_j24 g hR l2 l3 l5 l6 s ls (lv_sub hl [0, 2, 3, 4, 5] rfl) h
  · refine ww_aload_n (pc := 10) g.1 d_Mo_either_10 rfl (lv_at hl 0 rfl) ?_
    refine ww_iload (pc := 11) g.1 d_Mo_either_11 (lv_at hl 4 rfl) ?_
    refine ww_lload (pc := 13) g.1 d_Mo_either_13 (lv_at hl 5 rfl) ?_
    refine ww_iload_n (pc := 15) g.1 d_Mo_either_15 rfl (lv_at hl 1 rfl) ?_
    obtain ⟨v16, s, hc16, h⟩ := oB_of h
    refine ww_callV (pc := 16) (rest := []) g cv_Mo_meta (Or.inl kw_409) cl_Mo (pz rfl (by decide)) (ct_Mo_meta hc16) ⟨by decide, by decide⟩ rfl hl.1 (Nat.le_of_ble_eq_true rfl) d_Mo_either_16 rfl ?_
    refine ww_st (st' := [.int v16]) rfl ?_
    refine ww_if_ne (pc := 19) (tgt := 24) g.1 d_Mo_either_19 (by decide) h (fun c h => ?_) (fun c h => ?_)
    · exact j_Mo_either_j24 g hR l2 l3 l5 l6 s ls (lv_sub hl [0, 2, 3, 4, 5] rfl) h
    · refine ww_iconst (pc := 22) g.1 (v := 0) d_Mo_either_22 (by decide) ?_
      exact ww_zretH (pc := 23) g h hR (Or.inl rfl) d_Mo_either_23

abbrev b_Mo_error : ByteArray := prog_14_method_77_code
def y_Mo_error : MethodName := ⟨R_Mo, "error", "()V"⟩
abbrev w_Mo_error : List Cond := .code y_Mo_error b_Mo_error 5 none :: wA
set_option maxRecDepth 20000 in
theorem k_Mo_error : Cond.code y_Mo_error b_Mo_error 5 none ∈ wA := kinm (show _ ∈ tables_1 from (List.mem_append_right _ (List.mem_append_right _ (List.mem_append_right _ (List.mem_append_right _ (List.mem_append_right _ (List.mem_append_right _ (List.mem_append_right _ (List.mem_append_right _ (List.mem_append_right _ (List.mem_append_right _ (List.mem_append_right _ (List.mem_append_right _ (List.mem_append_left _ (List.mem_of_getElem? (l := tables_1_13) (i := 114) rfl))))))))))))))) rfl
theorem d_Mo_error_0 : decode b_Mo_error 0 = .ok (.aload_n 0, 1) := by decide +kernel
theorem d_Mo_error_1 : decode b_Mo_error 1 = .ok (.iconst 0, 1) := by decide +kernel
theorem d_Mo_error_2 : decode b_Mo_error 2 = .ok (.putfield 247, 3) := by decide +kernel
theorem d_Mo_error_5 : decode b_Mo_error 5 = .ok (.aload_n 0, 1) := by decide +kernel
theorem d_Mo_error_6 : decode b_Mo_error 6 = .ok (.getfield 259, 3) := by decide +kernel
theorem d_Mo_error_9 : decode b_Mo_error 9 = .ok (.iconst 0, 1) := by decide +kernel
theorem d_Mo_error_10 : decode b_Mo_error 10 = .ok (.putfield 569, 3) := by decide +kernel
theorem d_Mo_error_13 : decode b_Mo_error 13 = .ok (.aload_n 0, 1) := by decide +kernel
theorem d_Mo_error_14 : decode b_Mo_error 14 = .ok (.getfield 262, 3) := by decide +kernel
theorem d_Mo_error_17 : decode b_Mo_error 17 = .ok (.iconst 0, 1) := by decide +kernel
theorem d_Mo_error_18 : decode b_Mo_error 18 = .ok (.putfield 569, 3) := by decide +kernel
theorem d_Mo_error_21 : decode b_Mo_error 21 = .ok (.aload_n 0, 1) := by decide +kernel
theorem d_Mo_error_22 : decode b_Mo_error 22 = .ok (.getfield 243, 3) := by decide +kernel
theorem d_Mo_error_25 : decode b_Mo_error 25 = .ok (.astore_n 1, 1) := by decide +kernel
theorem d_Mo_error_26 : decode b_Mo_error 26 = .ok (.aload_n 1, 1) := by decide +kernel
theorem d_Mo_error_27 : decode b_Mo_error 27 = .ok (.invokevirtual 703, 3) := by decide +kernel
theorem d_Mo_error_30 : decode b_Mo_error 30 = .ok (.istore_n 2, 1) := by decide +kernel
theorem d_Mo_error_31 : decode b_Mo_error 31 = .ok (.iload_n 2, 1) := by decide +kernel
theorem d_Mo_error_32 : decode b_Mo_error 32 = .ok (.ifCond .lt 19, 3) := by decide +kernel
theorem d_Mo_error_35 : decode b_Mo_error 35 = .ok (.aload_n 1, 1) := by decide +kernel
theorem d_Mo_error_36 : decode b_Mo_error 36 = .ok (.getfield 733, 3) := by decide +kernel
theorem d_Mo_error_39 : decode b_Mo_error 39 = .ok (.iload_n 2, 1) := by decide +kernel
theorem d_Mo_error_40 : decode b_Mo_error 40 = .ok (.iaload, 1) := by decide +kernel
theorem d_Mo_error_41 : decode b_Mo_error 41 = .ok (.iconst 1, 1) := by decide +kernel
theorem d_Mo_error_42 : decode b_Mo_error 42 = .ok (.if_icmp .eq 9, 3) := by decide +kernel
theorem d_Mo_error_45 : decode b_Mo_error 45 = .ok (.iinc 2 (-1), 3) := by decide +kernel
theorem d_Mo_error_48 : decode b_Mo_error 48 = .ok (.goto (-17), 3) := by decide +kernel
theorem d_Mo_error_51 : decode b_Mo_error 51 = .ok (.iload_n 2, 1) := by decide +kernel
theorem d_Mo_error_52 : decode b_Mo_error 52 = .ok (.ifCond .lt 51, 3) := by decide +kernel
theorem d_Mo_error_55 : decode b_Mo_error 55 = .ok (.aload_n 0, 1) := by decide +kernel
theorem d_Mo_error_56 : decode b_Mo_error 56 = .ok (.aload_n 1, 1) := by decide +kernel
theorem d_Mo_error_57 : decode b_Mo_error 57 = .ok (.iload_n 2, 1) := by decide +kernel
theorem d_Mo_error_58 : decode b_Mo_error 58 = .ok (.iconst 1, 1) := by decide +kernel
theorem d_Mo_error_59 : decode b_Mo_error 59 = .ok (.iadd, 1) := by decide +kernel
theorem d_Mo_error_60 : decode b_Mo_error 60 = .ok (.invokevirtual 786, 3) := by decide +kernel
theorem d_Mo_error_63 : decode b_Mo_error 63 = .ok (.aload_n 1, 1) := by decide +kernel
theorem d_Mo_error_64 : decode b_Mo_error 64 = .ok (.iload_n 2, 1) := by decide +kernel
theorem d_Mo_error_65 : decode b_Mo_error 65 = .ok (.putfield 730, 3) := by decide +kernel
theorem d_Mo_error_68 : decode b_Mo_error 68 = .ok (.aload_n 0, 1) := by decide +kernel
theorem d_Mo_error_69 : decode b_Mo_error 69 = .ok (.getfield 262, 3) := by decide +kernel
theorem d_Mo_error_72 : decode b_Mo_error 72 = .ok (.iconst 1, 1) := by decide +kernel
theorem d_Mo_error_73 : decode b_Mo_error 73 = .ok (.lconst 0, 1) := by decide +kernel
theorem d_Mo_error_74 : decode b_Mo_error 74 = .ok (.invokevirtual 572, 3) := by decide +kernel
theorem d_Mo_error_77 : decode b_Mo_error 77 = .ok (.aload_n 0, 1) := by decide +kernel
theorem d_Mo_error_78 : decode b_Mo_error 78 = .ok (.getfield 262, 3) := by decide +kernel
theorem d_Mo_error_81 : decode b_Mo_error 81 = .ok (.aload_n 0, 1) := by decide +kernel
theorem d_Mo_error_82 : decode b_Mo_error 82 = .ok (.getfield 215, 3) := by decide +kernel
theorem d_Mo_error_85 : decode b_Mo_error 85 = .ok (.aload_n 0, 1) := by decide +kernel
theorem d_Mo_error_86 : decode b_Mo_error 86 = .ok (.getfield 218, 3) := by decide +kernel
theorem d_Mo_error_89 : decode b_Mo_error 89 = .ok (.invokevirtual 572, 3) := by decide +kernel
theorem d_Mo_error_92 : decode b_Mo_error 92 = .ok (.aload_n 0, 1) := by decide +kernel
theorem d_Mo_error_93 : decode b_Mo_error 93 = .ok (.iconst 0, 1) := by decide +kernel
theorem d_Mo_error_94 : decode b_Mo_error 94 = .ok (.putfield 215, 3) := by decide +kernel
theorem d_Mo_error_97 : decode b_Mo_error 97 = .ok (.aload_n 0, 1) := by decide +kernel
theorem d_Mo_error_98 : decode b_Mo_error 98 = .ok (.iconst 2, 1) := by decide +kernel
theorem d_Mo_error_99 : decode b_Mo_error 99 = .ok (.putfield 247, 3) := by decide +kernel
theorem d_Mo_error_102 : decode b_Mo_error 102 = .ok (.return_, 1) := by decide +kernel
theorem d_Mo_error_103 : decode b_Mo_error 103 = .ok (.aload_n 0, 1) := by decide +kernel
theorem d_Mo_error_104 : decode b_Mo_error 104 = .ok (.aload_n 1, 1) := by decide +kernel
theorem d_Mo_error_105 : decode b_Mo_error 105 = .ok (.iconst 0, 1) := by decide +kernel
theorem d_Mo_error_106 : decode b_Mo_error 106 = .ok (.invokevirtual 786, 3) := by decide +kernel
theorem d_Mo_error_109 : decode b_Mo_error 109 = .ok (.aload_n 1, 1) := by decide +kernel
theorem d_Mo_error_110 : decode b_Mo_error 110 = .ok (.iconst 0, 1) := by decide +kernel
theorem d_Mo_error_111 : decode b_Mo_error 111 = .ok (.putfield 730, 3) := by decide +kernel
theorem d_Mo_error_114 : decode b_Mo_error 114 = .ok (.aload_n 1, 1) := by decide +kernel
theorem d_Mo_error_115 : decode b_Mo_error 115 = .ok (.iconst 3, 1) := by decide +kernel
theorem d_Mo_error_116 : decode b_Mo_error 116 = .ok (.putfield 694, 3) := by decide +kernel
theorem d_Mo_error_119 : decode b_Mo_error 119 = .ok (.aload_n 1, 1) := by decide +kernel
theorem d_Mo_error_120 : decode b_Mo_error 120 = .ok (.aload_n 0, 1) := by decide +kernel
theorem d_Mo_error_121 : decode b_Mo_error 121 = .ok (.getfield 239, 3) := by decide +kernel
theorem d_Mo_error_124 : decode b_Mo_error 124 = .ok (.iconst 0, 1) := by decide +kernel
theorem d_Mo_error_125 : decode b_Mo_error 125 = .ok (.aaload, 1) := by decide +kernel
theorem d_Mo_error_126 : decode b_Mo_error 126 = .ok (.if_acmp .ne 37, 3) := by decide +kernel
theorem d_Mo_error_129 : decode b_Mo_error 129 = .ok (.aload_n 0, 1) := by decide +kernel
theorem d_Mo_error_130 : decode b_Mo_error 130 = .ok (.iconst 2, 1) := by decide +kernel
theorem d_Mo_error_131 : decode b_Mo_error 131 = .ok (.putfield 268, 3) := by decide +kernel
theorem d_Mo_error_134 : decode b_Mo_error 134 = .ok (.aload_n 0, 1) := by decide +kernel
theorem d_Mo_error_135 : decode b_Mo_error 135 = .ok (.getfield 265, 3) := by decide +kernel
theorem d_Mo_error_138 : decode b_Mo_error 138 = .ok (.iconst 0, 1) := by decide +kernel
theorem d_Mo_error_139 : decode b_Mo_error 139 = .ok (.putfield 569, 3) := by decide +kernel
theorem d_Mo_error_142 : decode b_Mo_error 142 = .ok (.aload_n 0, 1) := by decide +kernel
theorem d_Mo_error_143 : decode b_Mo_error 143 = .ok (.getfield 265, 3) := by decide +kernel
theorem d_Mo_error_146 : decode b_Mo_error 146 = .ok (.aload_n 0, 1) := by decide +kernel
theorem d_Mo_error_147 : decode b_Mo_error 147 = .ok (.getfield 215, 3) := by decide +kernel
theorem d_Mo_error_150 : decode b_Mo_error 150 = .ok (.aload_n 0, 1) := by decide +kernel
theorem d_Mo_error_151 : decode b_Mo_error 151 = .ok (.getfield 218, 3) := by decide +kernel
theorem d_Mo_error_154 : decode b_Mo_error 154 = .ok (.invokevirtual 572, 3) := by decide +kernel
theorem d_Mo_error_157 : decode b_Mo_error 157 = .ok (.aload_n 0, 1) := by decide +kernel
theorem d_Mo_error_158 : decode b_Mo_error 158 = .ok (.iconst 0, 1) := by decide +kernel
theorem d_Mo_error_159 : decode b_Mo_error 159 = .ok (.putfield 215, 3) := by decide +kernel
theorem d_Mo_error_162 : decode b_Mo_error 162 = .ok (.return_, 1) := by decide +kernel
theorem d_Mo_error_163 : decode b_Mo_error 163 = .ok (.aload_n 0, 1) := by decide +kernel
theorem d_Mo_error_164 : decode b_Mo_error 164 = .ok (.aload_n 1, 1) := by decide +kernel
theorem d_Mo_error_165 : decode b_Mo_error 165 = .ok (.invokevirtual 783, 3) := by decide +kernel
theorem d_Mo_error_168 : decode b_Mo_error 168 = .ok (.aload_n 0, 1) := by decide +kernel
theorem d_Mo_error_169 : decode b_Mo_error 169 = .ok (.getfield 243, 3) := by decide +kernel
theorem d_Mo_error_172 : decode b_Mo_error 172 = .ok (.invokevirtual 703, 3) := by decide +kernel
theorem d_Mo_error_175 : decode b_Mo_error 175 = .ok (.istore_n 3, 1) := by decide +kernel
theorem d_Mo_error_176 : decode b_Mo_error 176 = .ok (.aload_n 0, 1) := by decide +kernel
theorem d_Mo_error_177 : decode b_Mo_error 177 = .ok (.getfield 243, 3) := by decide +kernel
theorem d_Mo_error_180 : decode b_Mo_error 180 = .ok (.getfield 733, 3) := by decide +kernel
theorem d_Mo_error_183 : decode b_Mo_error 183 = .ok (.iload_n 3, 1) := by decide +kernel
theorem d_Mo_error_184 : decode b_Mo_error 184 = .ok (.iaload, 1) := by decide +kernel
theorem d_Mo_error_185 : decode b_Mo_error 185 = .ok (.iconst 3, 1) := by decide +kernel
theorem d_Mo_error_186 : decode b_Mo_error 186 = .ok (.if_icmp .ne 7, 3) := by decide +kernel
theorem d_Mo_error_189 : decode b_Mo_error 189 = .ok (.iconst 1, 1) := by decide +kernel
theorem d_Mo_error_190 : decode b_Mo_error 190 = .ok (.goto 4, 3) := by decide +kernel
theorem d_Mo_error_193 : decode b_Mo_error 193 = .ok (.iconst 0, 1) := by decide +kernel
theorem d_Mo_error_194 : decode b_Mo_error 194 = .ok (.istore 4, 2) := by decide +kernel
theorem d_Mo_error_196 : decode b_Mo_error 196 = .ok (.aload_n 0, 1) := by decide +kernel
theorem d_Mo_error_197 : decode b_Mo_error 197 = .ok (.getfield 243, 3) := by decide +kernel
theorem d_Mo_error_200 : decode b_Mo_error 200 = .ok (.dup, 1) := by decide +kernel
theorem d_Mo_error_201 : decode b_Mo_error 201 = .ok (.getfield 730, 3) := by decide +kernel
theorem d_Mo_error_204 : decode b_Mo_error 204 = .ok (.iconst 1, 1) := by decide +kernel
theorem d_Mo_error_205 : decode b_Mo_error 205 = .ok (.isub, 1) := by decide +kernel
theorem d_Mo_error_206 : decode b_Mo_error 206 = .ok (.putfield 730, 3) := by decide +kernel
theorem d_Mo_error_209 : decode b_Mo_error 209 = .ok (.iload 4, 2) := by decide +kernel
theorem d_Mo_error_211 : decode b_Mo_error 211 = .ok (.ifCond .eq 9, 3) := by decide +kernel
theorem d_Mo_error_214 : decode b_Mo_error 214 = .ok (.aload_n 0, 1) := by decide +kernel
theorem d_Mo_error_215 : decode b_Mo_error 215 = .ok (.iconst 3, 1) := by decide +kernel
theorem d_Mo_error_216 : decode b_Mo_error 216 = .ok (.putfield 247, 3) := by decide +kernel
theorem d_Mo_error_219 : decode b_Mo_error 219 = .ok (.return_, 1) := by decide +kernel
theorem d_Mo_error_220 : decode b_Mo_error 220 = .ok (.aload_n 0, 1) := by decide +kernel
theorem d_Mo_error_221 : decode b_Mo_error 221 = .ok (.getfield 262, 3) := by decide +kernel
theorem d_Mo_error_224 : decode b_Mo_error 224 = .ok (.iconst 1, 1) := by decide +kernel
theorem d_Mo_error_225 : decode b_Mo_error 225 = .ok (.lconst 0, 1) := by decide +kernel
theorem d_Mo_error_226 : decode b_Mo_error 226 = .ok (.invokevirtual 572, 3) := by decide +kernel
theorem d_Mo_error_229 : decode b_Mo_error 229 = .ok (.aload_n 0, 1) := by decide +kernel
theorem d_Mo_error_230 : decode b_Mo_error 230 = .ok (.getfield 262, 3) := by decide +kernel
theorem d_Mo_error_233 : decode b_Mo_error 233 = .ok (.aload_n 0, 1) := by decide +kernel
theorem d_Mo_error_234 : decode b_Mo_error 234 = .ok (.getfield 215, 3) := by decide +kernel
theorem d_Mo_error_237 : decode b_Mo_error 237 = .ok (.aload_n 0, 1) := by decide +kernel
theorem d_Mo_error_238 : decode b_Mo_error 238 = .ok (.getfield 218, 3) := by decide +kernel
theorem d_Mo_error_241 : decode b_Mo_error 241 = .ok (.invokevirtual 572, 3) := by decide +kernel
theorem d_Mo_error_244 : decode b_Mo_error 244 = .ok (.aload_n 0, 1) := by decide +kernel
theorem d_Mo_error_245 : decode b_Mo_error 245 = .ok (.iconst 0, 1) := by decide +kernel
theorem d_Mo_error_246 : decode b_Mo_error 246 = .ok (.putfield 215, 3) := by decide +kernel
theorem d_Mo_error_249 : decode b_Mo_error 249 = .ok (.aload_n 0, 1) := by decide +kernel
theorem d_Mo_error_250 : decode b_Mo_error 250 = .ok (.iconst 2, 1) := by decide +kernel
theorem d_Mo_error_251 : decode b_Mo_error 251 = .ok (.putfield 247, 3) := by decide +kernel
theorem d_Mo_error_254 : decode b_Mo_error 254 = .ok (.return_, 1) := by decide +kernel
theorem kw_413 : Cond.instanceMethod y_Mo_error ∈ wA := kinm (show _ ∈ tables_1 from (List.mem_append_right _ (List.mem_append_right _ (List.mem_append_right _ (List.mem_append_right _ (List.mem_append_right _ (List.mem_append_right _ (List.mem_append_right _ (List.mem_append_right _ (List.mem_append_right _ (List.mem_append_right _ (List.mem_append_right _ (List.mem_append_right _ (List.mem_append_left _ (List.mem_of_getElem? (l := tables_1_13) (i := 113) (by decide +kernel)))))))))))))))) (by decide +kernel)
theorem kw_414 : Cond.selects R_Mo y_Mo_error y_Mo_error ∈ wA := kinp 199 (by decide +kernel) (by decide +kernel)
theorem cv_Mo_error : CV y_Mo_error b_Mo_error 5 none 0 := ⟨kw_413, kw_414, kw_17, k_Mo_error, by decide +kernel⟩
theorem lp_Mo_error_L31 {X : Cx} {q : PL} (g : Gd X y_Mo_error b_Mo_error 5 none 4 93 R_Mo) (x : Int32 × Int32) (s : S1) (o : ((Int32 × Int32) ⊕ ((Int32 × Int32))) × S1) (h : M_Mo_error_L31 x s = some o) (hR : (Sum.elim (fun y : Int32 × Int32 => ∀ ls : Array Slot, lv_has ls 5 [(0, .ref (q.1 0 0)), (1, vr q 28 y.1), (2, .int y.2)] → WW X q o.2 31 ls []) (fun y : Int32 × Int32 => ∀ ls : Array Slot, lv_has ls 5 [(0, .ref (q.1 0 0)), (1, vr q 28 y.1), (2, .int y.2)] → WW X q o.2 51 ls []) o.1)) : ∀ ls : Array Slot, lv_has ls 5 [(0, .ref (q.1 0 0)), (1, vr q 28 x.1), (2, .int x.2)] → WW X q s 31 ls [] := by
  intro ls hl
  unfold M_Mo_error_L31 at h
  refine ww_iload_n (pc := 31) g.1 d_Mo_error_31 rfl (lv_at hl 2 rfl) ?_
  refine ww_if_lt (pc := 32) (tgt := 51) g.1 d_Mo_error_32 (by decide) h (fun c h => ?_) (fun c h => ?_)
  · rw [oR_eq h] at hR
    exact hR ls (lv_sub hl [0, 1, 2] rfl)
  · refine ww_aload_nV (pc := 35) g.1 vr_cases d_Mo_error_35 rfl (lv_at hl 1 rfl) ?_
    refine ww_ok h fun cn35 h => ?_
    refine ww_nn cn35 ?_
    refine ww_gR (pc := 36) g (k := 11) cl_Th (pt rfl rfl cn35) (by decide) (Or.inl kw_152) (f := 3595) (t := 30) rfl rfl rfl d_Mo_error_36 ?_
    refine ww_iload_n (pc := 39) g.1 d_Mo_error_39 rfl (lv_at hl 2 rfl) ?_
    refine ww_ai (pc := 40) g (pt rfl rfl cn35) rfl rfl d_Mo_error_40 h fun v40 h => ?_
    refine ww_iconst (pc := 41) g.1 (v := 1) d_Mo_error_41 (by decide) ?_
    refine ww_icmp_eq (pc := 42) (tgt := 51) g.1 d_Mo_error_42 (by decide) h (fun c h => ?_) (fun c h => ?_)
    · rw [oR_eq h] at hR
      exact hR ls (lv_sub hl [0, 1, 2] rfl)
    · refine ww_iinc (pc := 45) g.1 (v := x.2 + (-1)) (lv' := [(2, .int (x.2 + (-1))), (0, .ref (q.1 0 0)), (1, vr q 28 x.1)]) d_Mo_error_45 hl (k := 2) rfl (by rfl) (by decide) (by simp [vr_cat]) fun ls hl => ?_
      refine ww_goto (pc := 48) (tgt := 31) g.1 d_Mo_error_48 (by decide) ?_
      rw [oR_eq h] at hR
      exact hR ls (lv_sub hl [1, 2, 0] rfl)

theorem j_Mo_error_j194 {X : Cx} {q : PL} (g : Gd X y_Mo_error b_Mo_error 5 none 4 93 R_Mo) {o : (Unit) × S1} (hR : Rt X q o.2 none) (k0 : Int32) (s : S1) (ls : Array Slot) (hl : lv_has ls 5 [(0, .ref (q.1 0 0))]) (h : M_Mo_error_j194 k0 s = some o) : WW X q s 194 ls [.int k0] := by
  unfold M_Mo_error_j194 at h
  refine ww_istore (pc := 194) (i := 4) g.1 (lv' := [(4, .int k0), (0, .ref (q.1 0 0))]) d_Mo_error_194 hl (by decide) rfl fun ls hl => ?_
  refine ww_aload_n (pc := 196) g.1 d_Mo_error_196 rfl (lv_at hl 1 rfl) ?_
  refine ww_gV (pc := 197) g (k := 72) cl_Mo (pz rfl (by decide)) (by decide) (Or.inl kw_150) (f := 72) (t := 28) rfl rfl rfl d_Mo_error_197 h fun v197 h => ?_
  refine ww_ok h fun cn197 h => ?_
  refine ww_nn cn197 ?_
  refine ww_dup (pc := 200) g.1 d_Mo_error_200 rfl ?_
  refine ww_gI (pc := 201) g (k := 2) cl_Th (pt rfl rfl cn197) (by decide) (Or.inl kw_151) (f := 3586) rfl rfl d_Mo_error_201 h fun v201 h => ?_
  refine ww_iconst (pc := 204) g.1 (v := 1) d_Mo_error_204 (by decide) ?_
  refine ww_isub (pc := 205) g.1 d_Mo_error_205 ?_
  refine ww_pI (pc := 206) g (k := 2) cl_Th (pt rfl rfl cn197) (by decide) (Or.inl kw_151) rfl (f := 3586) rfl rfl rfl rfl d_Mo_error_206 h fun s hs h => ?_
  refine ww_iload (pc := 209) g.1 d_Mo_error_209 (lv_at hl 0 rfl) ?_
  refine ww_if_eq (pc := 211) (tgt := 220) g.1 d_Mo_error_211 (by decide) h (fun c h => ?_) (fun c h => ?_)
  · refine ww_aload_n (pc := 220) g.1 d_Mo_error_220 rfl (lv_at hl 1 rfl) ?_
    refine ww_gR (pc := 221) g (k := 78) cl_Mo (pz rfl (by decide)) (by decide) (Or.inl kw_178) (f := 78) (t := 10) rfl rfl rfl d_Mo_error_221 ?_
    refine ww_iconst (pc := 224) g.1 (v := 1) d_Mo_error_224 (by decide) ?_
    refine ww_lconst (pc := 225) g.1 (v := 0) d_Mo_error_225 (by decide) ?_
    obtain ⟨v226, s, hc226, h⟩ := oB_of h
    refine ww_callV (pc := 226) (rest := []) g cv_Va_add (Or.inl kw_187) (cl_Va (Or.inl ⟨by decide, rfl⟩)) (pz rfl (by decide)) (ct_Va_add (Or.inl ⟨by decide, rfl⟩) hc226) ⟨by decide, by decide⟩ rfl hl.1 (Nat.le_of_ble_eq_true rfl) d_Mo_error_226 rfl ?_
    refine ww_st (st' := []) rfl ?_
    refine ww_aload_n (pc := 229) g.1 d_Mo_error_229 rfl (lv_at hl 1 rfl) ?_
    refine ww_gR (pc := 230) g (k := 78) cl_Mo (pz rfl (by decide)) (by decide) (Or.inl kw_178) (f := 78) (t := 10) rfl rfl rfl d_Mo_error_230 ?_
    refine ww_aload_n (pc := 233) g.1 d_Mo_error_233 rfl (lv_at hl 1 rfl) ?_
    refine ww_gI (pc := 234) g (k := 64) cl_Mo (pz rfl (by decide)) (by decide) (Or.inl kw_73) (f := 64) rfl rfl d_Mo_error_234 h fun v234 h => ?_
    refine ww_aload_n (pc := 237) g.1 d_Mo_error_237 rfl (lv_at hl 1 rfl) ?_
    refine ww_gL (pc := 238) g (k := 65) cl_Mo (pz rfl (by decide)) (by decide) (Or.inl kw_74) (f := 65) rfl rfl d_Mo_error_238 h fun v238 h => ?_
    obtain ⟨v241, s, hc241, h⟩ := oB_of h
    refine ww_callV (pc := 241) (rest := []) g cv_Va_add (Or.inl kw_187) (cl_Va (Or.inl ⟨by decide, rfl⟩)) (pz rfl (by decide)) (ct_Va_add (Or.inl ⟨by decide, rfl⟩) hc241) ⟨by decide, by decide⟩ rfl hl.1 (Nat.le_of_ble_eq_true rfl) d_Mo_error_241 rfl ?_
    refine ww_st (st' := []) rfl ?_
    refine ww_aload_n (pc := 244) g.1 d_Mo_error_244 rfl (lv_at hl 1 rfl) ?_
    refine ww_iconst (pc := 245) g.1 (v := 0) d_Mo_error_245 (by decide) ?_
    refine ww_pI (pc := 246) g (k := 64) cl_Mo (pz rfl (by decide)) (by decide) (Or.inl kw_73) rfl (f := 64) rfl rfl rfl rfl d_Mo_error_246 h fun s hs h => ?_
    refine ww_aload_n (pc := 249) g.1 d_Mo_error_249 rfl (lv_at hl 1 rfl) ?_
    refine ww_iconst (pc := 250) g.1 (v := 2) d_Mo_error_250 (by decide) ?_
    refine ww_pI (pc := 251) g (k := 73) cl_Mo (pz rfl (by decide)) (by decide) (Or.inl kw_75) rfl (f := 73) rfl rfl rfl rfl d_Mo_error_251 h fun s hs h => ?_
    exact ww_vretH (pc := 254) g h hR d_Mo_error_254
  · refine ww_aload_n (pc := 214) g.1 d_Mo_error_214 rfl (lv_at hl 1 rfl) ?_
    refine ww_iconst (pc := 215) g.1 (v := 3) d_Mo_error_215 (by decide) ?_
    refine ww_pI (pc := 216) g (k := 73) cl_Mo (pz rfl (by decide)) (by decide) (Or.inl kw_75) rfl (f := 73) rfl rfl rfl rfl d_Mo_error_216 h fun s hs h => ?_
    exact ww_vretH (pc := 219) g h hR d_Mo_error_219

theorem j_Mo_error_j51 {X : Cx} {q : PL} (g : Gd X y_Mo_error b_Mo_error 5 none 4 93 R_Mo) {o : (Unit) × S1} (hR : Rt X q o.2 none) (l1 : Int32) (l2 : Int32) (s : S1) (ls : Array Slot) (hl : lv_has ls 5 [(0, .ref (q.1 0 0)), (1, vr q 28 l1), (2, .int l2)]) (h : M_Mo_error_j51 l1 l2 s = some o) : WW X q s 51 ls [] := by
  unfold M_Mo_error_j51 at h
  refine ww_iload_n (pc := 51) g.1 d_Mo_error_51 rfl (lv_at hl 2 rfl) ?_
  refine ww_if_lt (pc := 52) (tgt := 103) g.1 d_Mo_error_52 (by decide) h (fun c h => ?_) (fun c h => ?_)
  · refine ww_aload_n (pc := 103) g.1 d_Mo_error_103 rfl (lv_at hl 0 rfl) ?_
    refine ww_aload_nV (pc := 104) g.1 vr_cases d_Mo_error_104 rfl (lv_at hl 1 rfl) ?_
    refine ww_ok h fun cn104 h => ?_
    refine ww_nn cn104 ?_
    refine ww_iconst (pc := 105) g.1 (v := 0) d_Mo_error_105 (by decide) ?_
    obtain ⟨v106, s, hc106, h⟩ := oB_of h
    refine ww_callV (pc := 106) (rest := []) g cv_Mo_leave (Or.inl kw_377) cl_Mo (pz rfl (by decide)) (ct_Mo_leave cn104 hc106) ⟨by decide, by decide⟩ rfl hl.1 (Nat.le_of_ble_eq_true rfl) d_Mo_error_106 rfl ?_
    refine ww_st (st' := []) rfl ?_
    refine ww_aload_nV (pc := 109) g.1 vr_cases d_Mo_error_109 rfl (lv_at hl 1 rfl) ?_
    refine ww_ok h fun cn109 h => ?_
    refine ww_nn cn109 ?_
    refine ww_iconst (pc := 110) g.1 (v := 0) d_Mo_error_110 (by decide) ?_
    refine ww_pI (pc := 111) g (k := 2) cl_Th (pt rfl rfl cn109) (by decide) (Or.inl kw_151) rfl (f := 3586) rfl rfl rfl rfl d_Mo_error_111 h fun s hs h => ?_
    refine ww_aload_nV (pc := 114) g.1 vr_cases d_Mo_error_114 rfl (lv_at hl 1 rfl) ?_
    refine ww_ok h fun cn114 h => ?_
    refine ww_nn cn114 ?_
    refine ww_iconst (pc := 115) g.1 (v := 3) d_Mo_error_115 (by decide) ?_
    refine ww_pI (pc := 116) g (k := 1) cl_Th (pt rfl rfl cn114) (by decide) (Or.inl kw_217) rfl (f := 3585) rfl rfl rfl rfl d_Mo_error_116 h fun s hs h => ?_
    refine ww_aload_nV (pc := 119) g.1 vr_cases d_Mo_error_119 rfl (lv_at hl 1 rfl) ?_
    refine ww_ok h fun cn119 h => ?_
    refine ww_nn cn119 ?_
    refine ww_aload_n (pc := 120) g.1 d_Mo_error_120 rfl (lv_at hl 0 rfl) ?_
    refine ww_gR (pc := 121) g (k := 71) cl_Mo (pz rfl (by decide)) (by decide) (Or.inl kw_88) (f := 71) (t := 76) rfl rfl rfl d_Mo_error_121 ?_
    refine ww_iconst (pc := 124) g.1 (v := 0) d_Mo_error_124 (by decide) ?_
    refine ww_at (pc := 125) g (t := 28) (pz rfl (by decide)) rfl rfl rfl d_Mo_error_125 h fun ca125 h => ?_
    refine ww_acmp_ne (pc := 126) (tgt := 163) g.1 (pt rfl rfl cn119) (pt rfl rfl ca125) d_Mo_error_126 (by decide) h (fun c h => ?_) (fun c h => ?_)
    · refine ww_aload_n (pc := 163) g.1 d_Mo_error_163 rfl (lv_at hl 0 rfl) ?_
      refine ww_aload_nV (pc := 164) g.1 vr_cases d_Mo_error_164 rfl (lv_at hl 1 rfl) ?_
      refine ww_ok h fun cn164 h => ?_
      refine ww_nn cn164 ?_
      obtain ⟨v165, s, hc165, h⟩ := oB_of h
      refine ww_callV (pc := 165) (rest := []) g cv_Mo_back (Or.inl kw_231) cl_Mo (pz rfl (by decide)) (ct_Mo_back cn164 hc165) ⟨by decide, by decide⟩ rfl hl.1 (Nat.le_of_ble_eq_true rfl) d_Mo_error_165 rfl ?_
      refine ww_st (st' := []) rfl ?_
      refine ww_aload_n (pc := 168) g.1 d_Mo_error_168 rfl (lv_at hl 0 rfl) ?_
      refine ww_gV (pc := 169) g (k := 72) cl_Mo (pz rfl (by decide)) (by decide) (Or.inl kw_150) (f := 72) (t := 28) rfl rfl rfl d_Mo_error_169 h fun v169 h => ?_
      refine ww_ok h fun cn169 h => ?_
      refine ww_nn cn169 ?_
      obtain ⟨v172, s, hc172, h⟩ := oB_of h
      refine ww_callV (pc := 172) (rest := []) g cv_Th_top (Or.inl kw_236) cl_Th (pt rfl rfl cn169) (ct_Th_top cn169 hc172) ⟨by decide, by decide⟩ rfl hl.1 (Nat.le_of_ble_eq_true rfl) d_Mo_error_172 rfl ?_
      refine ww_st (st' := [.int v172]) rfl ?_
      refine ww_istore_n (pc := 175) (i := 3) g.1 (lv' := [(3, .int v172), (0, .ref (q.1 0 0)), (1, vr q 28 l1), (2, .int l2)]) d_Mo_error_175 rfl hl (by decide) rfl fun ls hl => ?_
      refine ww_aload_n (pc := 176) g.1 d_Mo_error_176 rfl (lv_at hl 1 rfl) ?_
      refine ww_gV (pc := 177) g (k := 72) cl_Mo (pz rfl (by decide)) (by decide) (Or.inl kw_150) (f := 72) (t := 28) rfl rfl rfl d_Mo_error_177 h fun v177 h => ?_
      refine ww_ok h fun cn177 h => ?_
      refine ww_nn cn177 ?_
      refine ww_gR (pc := 180) g (k := 11) cl_Th (pt rfl rfl cn177) (by decide) (Or.inl kw_152) (f := 3595) (t := 30) rfl rfl rfl d_Mo_error_180 ?_
      refine ww_iload_n (pc := 183) g.1 d_Mo_error_183 rfl (lv_at hl 0 rfl) ?_
      refine ww_ai (pc := 184) g (pt rfl rfl cn177) rfl rfl d_Mo_error_184 h fun v184 h => ?_
      refine ww_iconst (pc := 185) g.1 (v := 3) d_Mo_error_185 (by decide) ?_
      refine ww_icmp_ne (pc := 186) (tgt := 193) g.1 d_Mo_error_186 (by decide) h (fun c h => ?_) (fun c h => ?_)
      · refine ww_iconst (pc := 193) g.1 (v := 0) d_Mo_error_193 (by decide) ?_
        exact j_Mo_error_j194 g hR 0 s ls (lv_sub hl [1] rfl) h
      · refine ww_iconst (pc := 189) g.1 (v := 1) d_Mo_error_189 (by decide) ?_
        refine ww_goto (pc := 190) (tgt := 194) g.1 d_Mo_error_190 (by decide) ?_
        exact j_Mo_error_j194 g hR 1 s ls (lv_sub hl [1] rfl) h
    · refine ww_aload_n (pc := 129) g.1 d_Mo_error_129 rfl (lv_at hl 0 rfl) ?_
      refine ww_iconst (pc := 130) g.1 (v := 2) d_Mo_error_130 (by decide) ?_
      refine ww_pI (pc := 131) g (k := 80) cl_Mo (pz rfl (by decide)) (by decide) (Or.inl kw_232) rfl (f := 80) rfl rfl rfl rfl d_Mo_error_131 h fun s hs h => ?_
      refine ww_aload_n (pc := 134) g.1 d_Mo_error_134 rfl (lv_at hl 0 rfl) ?_
      refine ww_gR (pc := 135) g (k := 79) cl_Mo (pz rfl (by decide)) (by decide) (Or.inl kw_233) (f := 79) (t := 13) rfl rfl rfl d_Mo_error_135 ?_
      refine ww_iconst (pc := 138) g.1 (v := 0) d_Mo_error_138 (by decide) ?_
      refine ww_pI (pc := 139) g (k := 2) (cl_Va (Or.inl ⟨by decide, rfl⟩)) (pz rfl (by decide)) (by decide) (Or.inl kw_179) rfl (f := 1666) rfl rfl rfl rfl d_Mo_error_139 h fun s hs h => ?_
      refine ww_aload_n (pc := 142) g.1 d_Mo_error_142 rfl (lv_at hl 0 rfl) ?_
      refine ww_gR (pc := 143) g (k := 79) cl_Mo (pz rfl (by decide)) (by decide) (Or.inl kw_233) (f := 79) (t := 13) rfl rfl rfl d_Mo_error_143 ?_
      refine ww_aload_n (pc := 146) g.1 d_Mo_error_146 rfl (lv_at hl 0 rfl) ?_
      refine ww_gI (pc := 147) g (k := 64) cl_Mo (pz rfl (by decide)) (by decide) (Or.inl kw_73) (f := 64) rfl rfl d_Mo_error_147 h fun v147 h => ?_
      refine ww_aload_n (pc := 150) g.1 d_Mo_error_150 rfl (lv_at hl 0 rfl) ?_
      refine ww_gL (pc := 151) g (k := 65) cl_Mo (pz rfl (by decide)) (by decide) (Or.inl kw_74) (f := 65) rfl rfl d_Mo_error_151 h fun v151 h => ?_
      obtain ⟨v154, s, hc154, h⟩ := oB_of h
      refine ww_callV (pc := 154) (rest := []) g cv_Va_add (Or.inl kw_187) (cl_Va (Or.inl ⟨by decide, rfl⟩)) (pz rfl (by decide)) (ct_Va_add (Or.inl ⟨by decide, rfl⟩) hc154) ⟨by decide, by decide⟩ rfl hl.1 (Nat.le_of_ble_eq_true rfl) d_Mo_error_154 rfl ?_
      refine ww_st (st' := []) rfl ?_
      refine ww_aload_n (pc := 157) g.1 d_Mo_error_157 rfl (lv_at hl 0 rfl) ?_
      refine ww_iconst (pc := 158) g.1 (v := 0) d_Mo_error_158 (by decide) ?_
      refine ww_pI (pc := 159) g (k := 64) cl_Mo (pz rfl (by decide)) (by decide) (Or.inl kw_73) rfl (f := 64) rfl rfl rfl rfl d_Mo_error_159 h fun s hs h => ?_
      exact ww_vretH (pc := 162) g h hR d_Mo_error_162
  · refine ww_aload_n (pc := 55) g.1 d_Mo_error_55 rfl (lv_at hl 0 rfl) ?_
    refine ww_aload_nV (pc := 56) g.1 vr_cases d_Mo_error_56 rfl (lv_at hl 1 rfl) ?_
    refine ww_ok h fun cn56 h => ?_
    refine ww_nn cn56 ?_
    refine ww_iload_n (pc := 57) g.1 d_Mo_error_57 rfl (lv_at hl 2 rfl) ?_
    refine ww_iconst (pc := 58) g.1 (v := 1) d_Mo_error_58 (by decide) ?_
    refine ww_iadd (pc := 59) g.1 d_Mo_error_59 ?_
    obtain ⟨v60, s, hc60, h⟩ := oB_of h
    refine ww_callV (pc := 60) (rest := []) g cv_Mo_leave (Or.inl kw_377) cl_Mo (pz rfl (by decide)) (ct_Mo_leave cn56 hc60) ⟨by decide, by decide⟩ rfl hl.1 (Nat.le_of_ble_eq_true rfl) d_Mo_error_60 rfl ?_
    refine ww_st (st' := []) rfl ?_
    refine ww_aload_nV (pc := 63) g.1 vr_cases d_Mo_error_63 rfl (lv_at hl 1 rfl) ?_
    refine ww_ok h fun cn63 h => ?_
    refine ww_nn cn63 ?_
    refine ww_iload_n (pc := 64) g.1 d_Mo_error_64 rfl (lv_at hl 2 rfl) ?_
    refine ww_pI (pc := 65) g (k := 2) cl_Th (pt rfl rfl cn63) (by decide) (Or.inl kw_151) rfl (f := 3586) rfl rfl rfl rfl d_Mo_error_65 h fun s hs h => ?_
    refine ww_aload_n (pc := 68) g.1 d_Mo_error_68 rfl (lv_at hl 0 rfl) ?_
    refine ww_gR (pc := 69) g (k := 78) cl_Mo (pz rfl (by decide)) (by decide) (Or.inl kw_178) (f := 78) (t := 10) rfl rfl rfl d_Mo_error_69 ?_
    refine ww_iconst (pc := 72) g.1 (v := 1) d_Mo_error_72 (by decide) ?_
    refine ww_lconst (pc := 73) g.1 (v := 0) d_Mo_error_73 (by decide) ?_
    obtain ⟨v74, s, hc74, h⟩ := oB_of h
    refine ww_callV (pc := 74) (rest := []) g cv_Va_add (Or.inl kw_187) (cl_Va (Or.inl ⟨by decide, rfl⟩)) (pz rfl (by decide)) (ct_Va_add (Or.inl ⟨by decide, rfl⟩) hc74) ⟨by decide, by decide⟩ rfl hl.1 (Nat.le_of_ble_eq_true rfl) d_Mo_error_74 rfl ?_
    refine ww_st (st' := []) rfl ?_
    refine ww_aload_n (pc := 77) g.1 d_Mo_error_77 rfl (lv_at hl 0 rfl) ?_
    refine ww_gR (pc := 78) g (k := 78) cl_Mo (pz rfl (by decide)) (by decide) (Or.inl kw_178) (f := 78) (t := 10) rfl rfl rfl d_Mo_error_78 ?_
    refine ww_aload_n (pc := 81) g.1 d_Mo_error_81 rfl (lv_at hl 0 rfl) ?_
    refine ww_gI (pc := 82) g (k := 64) cl_Mo (pz rfl (by decide)) (by decide) (Or.inl kw_73) (f := 64) rfl rfl d_Mo_error_82 h fun v82 h => ?_
    refine ww_aload_n (pc := 85) g.1 d_Mo_error_85 rfl (lv_at hl 0 rfl) ?_
    refine ww_gL (pc := 86) g (k := 65) cl_Mo (pz rfl (by decide)) (by decide) (Or.inl kw_74) (f := 65) rfl rfl d_Mo_error_86 h fun v86 h => ?_
    obtain ⟨v89, s, hc89, h⟩ := oB_of h
    refine ww_callV (pc := 89) (rest := []) g cv_Va_add (Or.inl kw_187) (cl_Va (Or.inl ⟨by decide, rfl⟩)) (pz rfl (by decide)) (ct_Va_add (Or.inl ⟨by decide, rfl⟩) hc89) ⟨by decide, by decide⟩ rfl hl.1 (Nat.le_of_ble_eq_true rfl) d_Mo_error_89 rfl ?_
    refine ww_st (st' := []) rfl ?_
    refine ww_aload_n (pc := 92) g.1 d_Mo_error_92 rfl (lv_at hl 0 rfl) ?_
    refine ww_iconst (pc := 93) g.1 (v := 0) d_Mo_error_93 (by decide) ?_
    refine ww_pI (pc := 94) g (k := 64) cl_Mo (pz rfl (by decide)) (by decide) (Or.inl kw_73) rfl (f := 64) rfl rfl rfl rfl d_Mo_error_94 h fun s hs h => ?_
    refine ww_aload_n (pc := 97) g.1 d_Mo_error_97 rfl (lv_at hl 0 rfl) ?_
    refine ww_iconst (pc := 98) g.1 (v := 2) d_Mo_error_98 (by decide) ?_
    refine ww_pI (pc := 99) g (k := 73) cl_Mo (pz rfl (by decide)) (by decide) (Or.inl kw_75) rfl (f := 73) rfl rfl rfl rfl d_Mo_error_99 h fun s hs h => ?_
    exact ww_vretH (pc := 102) g h hR d_Mo_error_102

theorem ct_Mo_error {l : Launch} {P : PP} {q : PL} {s s' : S1}  {r : Unit} (h : M_Mo_error s = some (r, s')) : Ct l y_Mo_error b_Mo_error 5 none 4 93 P q s [.ref (q.1 0 0)] none q s' := by
  refine ct_of (by decide) (Nat.le_of_ble_eq_true rfl) fun X ls eP el g hR hl => ?_
  subst eP
  have hR : Rt X q ((r, s') : Unit × S1).2 none := hR
  have hl : lv_has ls 5 [(0, .ref (q.1 0 0))] := hl
  generalize (r, s') = o at h hR
  unfold M_Mo_error at h
  refine ww_aload_n (pc := 0) g.1 d_Mo_error_0 rfl (lv_at hl 0 rfl) ?_
  refine ww_iconst (pc := 1) g.1 (v := 0) d_Mo_error_1 (by decide) ?_
  refine ww_pI (pc := 2) g (k := 73) cl_Mo (pz rfl (by decide)) (by decide) (Or.inl kw_75) rfl (f := 73) rfl rfl rfl rfl d_Mo_error_2 h fun s hs h => ?_
  refine ww_aload_n (pc := 5) g.1 d_Mo_error_5 rfl (lv_at hl 0 rfl) ?_
  refine ww_gR (pc := 6) g (k := 77) cl_Mo (pz rfl (by decide)) (by decide) (Or.inl kw_182) (f := 77) (t := 7) rfl rfl rfl d_Mo_error_6 ?_
  refine ww_iconst (pc := 9) g.1 (v := 0) d_Mo_error_9 (by decide) ?_
  refine ww_pI (pc := 10) g (k := 2) (cl_Va (Or.inl ⟨by decide, rfl⟩)) (pz rfl (by decide)) (by decide) (Or.inl kw_179) rfl (f := 898) rfl rfl rfl rfl d_Mo_error_10 h fun s hs h => ?_
  refine ww_aload_n (pc := 13) g.1 d_Mo_error_13 rfl (lv_at hl 0 rfl) ?_
  refine ww_gR (pc := 14) g (k := 78) cl_Mo (pz rfl (by decide)) (by decide) (Or.inl kw_178) (f := 78) (t := 10) rfl rfl rfl d_Mo_error_14 ?_
  refine ww_iconst (pc := 17) g.1 (v := 0) d_Mo_error_17 (by decide) ?_
  refine ww_pI (pc := 18) g (k := 2) (cl_Va (Or.inl ⟨by decide, rfl⟩)) (pz rfl (by decide)) (by decide) (Or.inl kw_179) rfl (f := 1282) rfl rfl rfl rfl d_Mo_error_18 h fun s hs h => ?_
  refine ww_aload_n (pc := 21) g.1 d_Mo_error_21 rfl (lv_at hl 0 rfl) ?_
  refine ww_gV (pc := 22) g (k := 72) cl_Mo (pz rfl (by decide)) (by decide) (Or.inl kw_150) (f := 72) (t := 28) rfl rfl rfl d_Mo_error_22 h fun v22 h => ?_
  refine ww_astore_nV (pc := 25) (i := 1) g.1 vr_cases (lv' := [(1, vr q 28 v22), (0, .ref (q.1 0 0))]) d_Mo_error_25 rfl hl (by decide) rfl fun ls hl => ?_
  refine ww_aload_nV (pc := 26) g.1 vr_cases d_Mo_error_26 rfl (lv_at hl 0 rfl) ?_
  refine ww_ok h fun cn26 h => ?_
  refine ww_nn cn26 ?_
  obtain ⟨v27, s, hc27, h⟩ := oB_of h
  refine ww_callV (pc := 27) (rest := []) g cv_Th_top (Or.inl kw_236) cl_Th (pt rfl rfl cn26) (ct_Th_top cn26 hc27) ⟨by decide, by decide⟩ rfl hl.1 (Nat.le_of_ble_eq_true rfl) d_Mo_error_27 rfl ?_
  refine ww_st (st' := [.int v27]) rfl ?_
  refine ww_istore_n (pc := 30) (i := 2) g.1 (lv' := [(2, .int v27), (1, vr q 28 v22), (0, .ref (q.1 0 0))]) d_Mo_error_30 rfl hl (by decide) (by simp [vr_cat]) fun ls hl => ?_
  obtain ⟨e31, s1, hw, h⟩ := oB_of h
  refine oW_rule (Wh := fun (x : Int32 × Int32) (s : S1) => ∀ ls : Array Slot, lv_has ls 5 [(0, .ref (q.1 0 0)), (1, vr q 28 x.1), (2, .int x.2)] → WW X q s 31 ls []) (We := fun (e : (Int32 × Int32)) (s : S1) => ∀ ls : Array Slot, lv_has ls 5 [(0, .ref (q.1 0 0)), (1, vr q 28 e.1), (2, .int e.2)] → WW X q s 51 ls []) (fun x s o hb hc => lp_Mo_error_L31 (q := q) g x s o hb hc) hw ?_ ls (lv_sub hl [2, 1, 0] rfl)
  clear hw hl
  clear ls
  intro ls hl
  generalize s1 = s at h ⊢
  exact j_Mo_error_j51 g hR e31.1 e31.2 s ls (lv_sub hl [0, 1, 2] rfl) h

abbrev b_Mo_index : ByteArray := prog_14_method_115_code
def y_Mo_index : MethodName := ⟨R_Mo, "index", "(IJIJI)V"⟩
abbrev w_Mo_index : List Cond := .code y_Mo_index b_Mo_index 17 none :: wA
set_option maxRecDepth 20000 in
theorem k_Mo_index : Cond.code y_Mo_index b_Mo_index 17 none ∈ wA := kinm (show _ ∈ tables_1 from (List.mem_append_right _ (List.mem_append_right _ (List.mem_append_right _ (List.mem_append_right _ (List.mem_append_right _ (List.mem_append_right _ (List.mem_append_right _ (List.mem_append_right _ (List.mem_append_right _ (List.mem_append_right _ (List.mem_append_right _ (List.mem_append_right _ (List.mem_append_left _ (List.mem_of_getElem? (l := tables_1_13) (i := 150) rfl))))))))))))))) rfl
theorem d_Mo_index_0 : decode b_Mo_index 0 = .ok (.iload_n 1, 1) := by decide +kernel
theorem d_Mo_index_1 : decode b_Mo_index 1 = .ok (.istore 8, 2) := by decide +kernel
theorem d_Mo_index_3 : decode b_Mo_index 3 = .ok (.lload_n 2, 1) := by decide +kernel
theorem d_Mo_index_4 : decode b_Mo_index 4 = .ok (.lstore 9, 2) := by decide +kernel
theorem d_Mo_index_6 : decode b_Mo_index 6 = .ok (.iconst 1, 1) := by decide +kernel
theorem d_Mo_index_7 : decode b_Mo_index 7 = .ok (.istore 11, 2) := by decide +kernel
theorem d_Mo_index_9 : decode b_Mo_index 9 = .ok (.iload 8, 2) := by decide +kernel
theorem d_Mo_index_11 : decode b_Mo_index 11 = .ok (.iconst 5, 1) := by decide +kernel
theorem d_Mo_index_12 : decode b_Mo_index 12 = .ok (.if_icmp .eq 10, 3) := by decide +kernel
theorem d_Mo_index_15 : decode b_Mo_index 15 = .ok (.aload_n 0, 1) := by decide +kernel
theorem d_Mo_index_16 : decode b_Mo_index 16 = .ok (.iconst 2, 1) := by decide +kernel
theorem d_Mo_index_17 : decode b_Mo_index 17 = .ok (.invokevirtual 517, 3) := by decide +kernel
theorem d_Mo_index_20 : decode b_Mo_index 20 = .ok (.pop, 1) := by decide +kernel
theorem d_Mo_index_21 : decode b_Mo_index 21 = .ok (.return_, 1) := by decide +kernel
theorem d_Mo_index_22 : decode b_Mo_index 22 = .ok (.aload_n 0, 1) := by decide +kernel
theorem d_Mo_index_23 : decode b_Mo_index 23 = .ok (.lload 9, 2) := by decide +kernel
theorem d_Mo_index_25 : decode b_Mo_index 25 = .ok (.l2i, 1) := by decide +kernel
theorem d_Mo_index_26 : decode b_Mo_index 26 = .ok (.iload 4, 2) := by decide +kernel
theorem d_Mo_index_28 : decode b_Mo_index 28 = .ok (.lload 5, 2) := by decide +kernel
theorem d_Mo_index_30 : decode b_Mo_index 30 = .ok (.invokevirtual 581, 3) := by decide +kernel
theorem d_Mo_index_33 : decode b_Mo_index 33 = .ok (.istore 12, 2) := by decide +kernel
theorem d_Mo_index_35 : decode b_Mo_index 35 = .ok (.aload_n 0, 1) := by decide +kernel
theorem d_Mo_index_36 : decode b_Mo_index 36 = .ok (.getfield 222, 3) := by decide +kernel
theorem d_Mo_index_39 : decode b_Mo_index 39 = .ok (.istore 13, 2) := by decide +kernel
theorem d_Mo_index_41 : decode b_Mo_index 41 = .ok (.aload_n 0, 1) := by decide +kernel
theorem d_Mo_index_42 : decode b_Mo_index 42 = .ok (.getfield 225, 3) := by decide +kernel
theorem d_Mo_index_45 : decode b_Mo_index 45 = .ok (.lstore 14, 2) := by decide +kernel
theorem d_Mo_index_47 : decode b_Mo_index 47 = .ok (.iload 12, 2) := by decide +kernel
theorem d_Mo_index_49 : decode b_Mo_index 49 = .ok (.ifCond .ne 15, 3) := by decide +kernel
theorem d_Mo_index_52 : decode b_Mo_index 52 = .ok (.aload_n 0, 1) := by decide +kernel
theorem d_Mo_index_53 : decode b_Mo_index 53 = .ok (.iload 8, 2) := by decide +kernel
theorem d_Mo_index_55 : decode b_Mo_index 55 = .ok (.lload 9, 2) := by decide +kernel
theorem d_Mo_index_57 : decode b_Mo_index 57 = .ok (.iconst 0, 1) := by decide +kernel
theorem d_Mo_index_58 : decode b_Mo_index 58 = .ok (.invokevirtual 715, 3) := by decide +kernel
theorem d_Mo_index_61 : decode b_Mo_index 61 = .ok (.ifCond .ne 40, 3) := by decide +kernel
theorem d_Mo_index_64 : decode b_Mo_index 64 = .ok (.aload_n 0, 1) := by decide +kernel
theorem d_Mo_index_65 : decode b_Mo_index 65 = .ok (.getfield 243, 3) := by decide +kernel
theorem d_Mo_index_68 : decode b_Mo_index 68 = .ok (.invokevirtual 703, 3) := by decide +kernel
theorem d_Mo_index_71 : decode b_Mo_index 71 = .ok (.istore 16, 2) := by decide +kernel
theorem d_Mo_index_73 : decode b_Mo_index 73 = .ok (.aload_n 0, 1) := by decide +kernel
theorem d_Mo_index_74 : decode b_Mo_index 74 = .ok (.getfield 243, 3) := by decide +kernel
theorem d_Mo_index_77 : decode b_Mo_index 77 = .ok (.getfield 591, 3) := by decide +kernel
theorem d_Mo_index_80 : decode b_Mo_index 80 = .ok (.aload_n 0, 1) := by decide +kernel
theorem d_Mo_index_81 : decode b_Mo_index 81 = .ok (.getfield 243, 3) := by decide +kernel
theorem d_Mo_index_84 : decode b_Mo_index 84 = .ok (.getfield 744, 3) := by decide +kernel
theorem d_Mo_index_87 : decode b_Mo_index 87 = .ok (.iload 16, 2) := by decide +kernel
theorem d_Mo_index_89 : decode b_Mo_index 89 = .ok (.iaload, 1) := by decide +kernel
theorem d_Mo_index_90 : decode b_Mo_index 90 = .ok (.iload 7, 2) := by decide +kernel
theorem d_Mo_index_92 : decode b_Mo_index 92 = .ok (.iadd, 1) := by decide +kernel
theorem d_Mo_index_93 : decode b_Mo_index 93 = .ok (.iload 13, 2) := by decide +kernel
theorem d_Mo_index_95 : decode b_Mo_index 95 = .ok (.lload 14, 2) := by decide +kernel
theorem d_Mo_index_97 : decode b_Mo_index 97 = .ok (.invokevirtual 470, 3) := by decide +kernel
theorem d_Mo_index_100 : decode b_Mo_index 100 = .ok (.return_, 1) := by decide +kernel
theorem d_Mo_index_101 : decode b_Mo_index 101 = .ok (.aload_n 0, 1) := by decide +kernel
theorem d_Mo_index_102 : decode b_Mo_index 102 = .ok (.getfield 222, 3) := by decide +kernel
theorem d_Mo_index_105 : decode b_Mo_index 105 = .ok (.bipush 6, 2) := by decide +kernel
theorem d_Mo_index_107 : decode b_Mo_index 107 = .ok (.if_icmp .ne 28, 3) := by decide +kernel
theorem d_Mo_index_110 : decode b_Mo_index 110 = .ok (.aload_n 0, 1) := by decide +kernel
theorem d_Mo_index_111 : decode b_Mo_index 111 = .ok (.iload 8, 2) := by decide +kernel
theorem d_Mo_index_113 : decode b_Mo_index 113 = .ok (.lload 9, 2) := by decide +kernel
theorem d_Mo_index_115 : decode b_Mo_index 115 = .ok (.iload 4, 2) := by decide +kernel
theorem d_Mo_index_117 : decode b_Mo_index 117 = .ok (.lload 5, 2) := by decide +kernel
theorem d_Mo_index_119 : decode b_Mo_index 119 = .ok (.invokevirtual 943, 3) := by decide +kernel
theorem d_Mo_index_122 : decode b_Mo_index 122 = .ok (.aload_n 0, 1) := by decide +kernel
theorem d_Mo_index_123 : decode b_Mo_index 123 = .ok (.iconst 1, 1) := by decide +kernel
theorem d_Mo_index_124 : decode b_Mo_index 124 = .ok (.iload 7, 2) := by decide +kernel
theorem d_Mo_index_126 : decode b_Mo_index 126 = .ok (.iconst 1, 1) := by decide +kernel
theorem d_Mo_index_127 : decode b_Mo_index 127 = .ok (.invokevirtual 947, 3) := by decide +kernel
theorem d_Mo_index_130 : decode b_Mo_index 130 = .ok (.aload_n 0, 1) := by decide +kernel
theorem d_Mo_index_131 : decode b_Mo_index 131 = .ok (.invokevirtual 950, 3) := by decide +kernel
theorem d_Mo_index_134 : decode b_Mo_index 134 = .ok (.return_, 1) := by decide +kernel
theorem d_Mo_index_135 : decode b_Mo_index 135 = .ok (.iload 11, 2) := by decide +kernel
theorem d_Mo_index_137 : decode b_Mo_index 137 = .ok (.bipush 100, 2) := by decide +kernel
theorem d_Mo_index_139 : decode b_Mo_index 139 = .ok (.if_icmp .ne 10, 3) := by decide +kernel
theorem d_Mo_index_142 : decode b_Mo_index 142 = .ok (.aload_n 0, 1) := by decide +kernel
theorem d_Mo_index_143 : decode b_Mo_index 143 = .ok (.iconst 4, 1) := by decide +kernel
theorem d_Mo_index_144 : decode b_Mo_index 144 = .ok (.invokevirtual 517, 3) := by decide +kernel
theorem d_Mo_index_147 : decode b_Mo_index 147 = .ok (.pop, 1) := by decide +kernel
theorem d_Mo_index_148 : decode b_Mo_index 148 = .ok (.return_, 1) := by decide +kernel
theorem d_Mo_index_149 : decode b_Mo_index 149 = .ok (.aload_n 0, 1) := by decide +kernel
theorem d_Mo_index_150 : decode b_Mo_index 150 = .ok (.getfield 222, 3) := by decide +kernel
theorem d_Mo_index_153 : decode b_Mo_index 153 = .ok (.istore 8, 2) := by decide +kernel
theorem d_Mo_index_155 : decode b_Mo_index 155 = .ok (.aload_n 0, 1) := by decide +kernel
theorem d_Mo_index_156 : decode b_Mo_index 156 = .ok (.getfield 225, 3) := by decide +kernel
theorem d_Mo_index_159 : decode b_Mo_index 159 = .ok (.lstore 9, 2) := by decide +kernel
theorem d_Mo_index_161 : decode b_Mo_index 161 = .ok (.iinc 11 1, 3) := by decide +kernel
theorem d_Mo_index_164 : decode b_Mo_index 164 = .ok (.goto (-155), 3) := by decide +kernel
theorem kw_415 : Cond.methodLink R_Mo 947 y_Mo_expect ∈ wA := kinm (show _ ∈ tables_1 from (List.mem_append_right _ (List.mem_append_right _ (List.mem_append_right _ (List.mem_append_right _ (List.mem_append_right _ (List.mem_append_right _ (List.mem_append_right _ (List.mem_append_right _ (List.mem_append_right _ (List.mem_append_right _ (List.mem_append_right _ (List.mem_append_right _ (List.mem_append_left _ (List.mem_of_getElem? (l := tables_1_13) (i := 99) (by decide +kernel)))))))))))))))) (by decide +kernel)
theorem kw_416 : Cond.methodLink R_Mo 950 y_Mo_callGot ∈ wA := kinm (show _ ∈ tables_1 from (List.mem_append_right _ (List.mem_append_right _ (List.mem_append_right _ (List.mem_append_right _ (List.mem_append_right _ (List.mem_append_right _ (List.mem_append_right _ (List.mem_append_right _ (List.mem_append_right _ (List.mem_append_right _ (List.mem_append_right _ (List.mem_append_right _ (List.mem_append_left _ (List.mem_of_getElem? (l := tables_1_13) (i := 151) (by decide +kernel)))))))))))))))) (by decide +kernel)
theorem kw_417 : Cond.instanceMethod y_Mo_index ∈ wA := kinm (show _ ∈ tables_1 from (List.mem_append_right _ (List.mem_append_right _ (List.mem_append_right _ (List.mem_append_right _ (List.mem_append_right _ (List.mem_append_right _ (List.mem_append_right _ (List.mem_append_right _ (List.mem_append_right _ (List.mem_append_right _ (List.mem_append_right _ (List.mem_append_right _ (List.mem_append_left _ (List.mem_of_getElem? (l := tables_1_13) (i := 149) (by decide +kernel)))))))))))))))) (by decide +kernel)
theorem kw_418 : Cond.selects R_Mo y_Mo_index y_Mo_index ∈ wA := kinp 208 (by decide +kernel) (by decide +kernel)
theorem cv_Mo_index : CV y_Mo_index b_Mo_index 17 none 5 := ⟨kw_417, kw_418, kw_17, k_Mo_index, by decide +kernel⟩
theorem lp_Mo_index_L9 {X : Cx} {q : PL} (g : Gd X y_Mo_index b_Mo_index 17 none 5 123 R_Mo) (x : Int32 × Int64 × Int32 × Int32 × Int64 × Int32) (s : S1) (o : ((Int32 × Int64 × Int32 × Int32 × Int64 × Int32) ⊕ ((Unit) ⊕ (Int32 × Int32 × Int64) ⊕ (Int32 × Int64 × Int32 × Int32 × Int64) ⊕ (Unit))) × S1) (h : M_Mo_index_L9 x s = some o) (hR : (Sum.elim (fun y : Int32 × Int64 × Int32 × Int32 × Int64 × Int32 => ∀ ls : Array Slot, lv_has ls 17 [(0, .ref (q.1 0 0)), (4, .int y.1), (5, .long y.2.1), (7, .int y.2.2.1), (8, .int y.2.2.2.1), (9, .long y.2.2.2.2.1), (11, .int y.2.2.2.2.2)] → WW X q o.2 9 ls []) (Sum.elim (fun y : Unit => ∀ ls : Array Slot, lv_has ls 17 [(0, .ref (q.1 0 0))] → WW X q o.2 15 ls []) (Sum.elim (fun y : Int32 × Int32 × Int64 => ∀ ls : Array Slot, lv_has ls 17 [(0, .ref (q.1 0 0)), (7, .int y.1), (13, .int y.2.1), (14, .long y.2.2)] → WW X q o.2 64 ls []) (Sum.elim (fun y : Int32 × Int64 × Int32 × Int32 × Int64 => ∀ ls : Array Slot, lv_has ls 17 [(0, .ref (q.1 0 0)), (4, .int y.1), (5, .long y.2.1), (7, .int y.2.2.1), (8, .int y.2.2.2.1), (9, .long y.2.2.2.2)] → WW X q o.2 110 ls []) (fun y : Unit => ∀ ls : Array Slot, lv_has ls 17 [(0, .ref (q.1 0 0))] → WW X q o.2 142 ls [])))) o.1)) : ∀ ls : Array Slot, lv_has ls 17 [(0, .ref (q.1 0 0)), (4, .int x.1), (5, .long x.2.1), (7, .int x.2.2.1), (8, .int x.2.2.2.1), (9, .long x.2.2.2.2.1), (11, .int x.2.2.2.2.2)] → WW X q s 9 ls [] := by
  intro ls hl
  unfold M_Mo_index_L9 at h
  refine ww_iload (pc := 9) g.1 d_Mo_index_9 (lv_at hl 4 rfl) ?_
  refine ww_iconst (pc := 11) g.1 (v := 5) d_Mo_index_11 (by decide) ?_
  refine ww_icmp_eq (pc := 12) (tgt := 22) g.1 d_Mo_index_12 (by decide) h (fun c h => ?_) (fun c h => ?_)
  · refine ww_aload_n (pc := 22) g.1 d_Mo_index_22 rfl (lv_at hl 0 rfl) ?_
    refine ww_lload (pc := 23) g.1 d_Mo_index_23 (lv_at hl 5 rfl) ?_
    refine ww_l2i (pc := 25) g.1 (v := x.2.2.2.2.1.toInt32) d_Mo_index_25 rfl ?_
    refine ww_iload (pc := 26) g.1 d_Mo_index_26 (lv_at hl 1 rfl) ?_
    refine ww_lload (pc := 28) g.1 d_Mo_index_28 (lv_at hl 2 rfl) ?_
    obtain ⟨v30, s, hc30, h⟩ := oB_of h
    refine ww_callV (pc := 30) (rest := []) g cv_Mo_raw (Or.inl kw_356) cl_Mo (pz rfl (by decide)) (ct_Mo_raw hc30) ⟨by decide, by decide⟩ rfl hl.1 (Nat.le_of_ble_eq_true rfl) d_Mo_index_30 rfl ?_
    refine ww_st (st' := [.int v30]) rfl ?_
    refine ww_istore (pc := 33) (i := 12) g.1 (lv' := [(12, .int v30), (0, .ref (q.1 0 0)), (4, .int x.1), (5, .long x.2.1), (7, .int x.2.2.1), (8, .int x.2.2.2.1), (9, .long x.2.2.2.2.1), (11, .int x.2.2.2.2.2)]) d_Mo_index_33 hl (by decide) rfl fun ls hl => ?_
    refine ww_aload_n (pc := 35) g.1 d_Mo_index_35 rfl (lv_at hl 1 rfl) ?_
    refine ww_gI (pc := 36) g (k := 66) cl_Mo (pz rfl (by decide)) (by decide) (Or.inl kw_92) (f := 66) rfl rfl d_Mo_index_36 h fun v36 h => ?_
    refine ww_istore (pc := 39) (i := 13) g.1 (lv' := [(13, .int v36), (12, .int v30), (0, .ref (q.1 0 0)), (4, .int x.1), (5, .long x.2.1), (7, .int x.2.2.1), (8, .int x.2.2.2.1), (9, .long x.2.2.2.2.1), (11, .int x.2.2.2.2.2)]) d_Mo_index_39 hl (by decide) rfl fun ls hl => ?_
    refine ww_aload_n (pc := 41) g.1 d_Mo_index_41 rfl (lv_at hl 2 rfl) ?_
    refine ww_gL (pc := 42) g (k := 67) cl_Mo (pz rfl (by decide)) (by decide) (Or.inl kw_94) (f := 67) rfl rfl d_Mo_index_42 h fun v42 h => ?_
    refine ww_lstore (pc := 45) (i := 14) g.1 (lv' := [(14, .long v42), (13, .int v36), (12, .int v30), (0, .ref (q.1 0 0)), (4, .int x.1), (5, .long x.2.1), (7, .int x.2.2.1), (8, .int x.2.2.2.1), (9, .long x.2.2.2.2.1), (11, .int x.2.2.2.2.2)]) d_Mo_index_45 hl (by decide) rfl fun ls hl => ?_
    refine ww_iload (pc := 47) g.1 d_Mo_index_47 (lv_at hl 2 rfl) ?_
    refine ww_if_ne (pc := 49) (tgt := 64) g.1 d_Mo_index_49 (by decide) h (fun c h => ?_) (fun c h => ?_)
    · rw [oR_eq h] at hR
      exact hR ls (lv_sub hl [3, 6, 1, 0] rfl)
    · refine ww_aload_n (pc := 52) g.1 d_Mo_index_52 rfl (lv_at hl 3 rfl) ?_
      refine ww_iload (pc := 53) g.1 d_Mo_index_53 (lv_at hl 7 rfl) ?_
      refine ww_lload (pc := 55) g.1 d_Mo_index_55 (lv_at hl 8 rfl) ?_
      refine ww_iconst (pc := 57) g.1 (v := 0) d_Mo_index_57 (by decide) ?_
      obtain ⟨v58, s, hc58, h⟩ := oB_of h
      refine ww_callV (pc := 58) (rest := []) g cv_Mo_meta (Or.inl kw_409) cl_Mo (pz rfl (by decide)) (ct_Mo_meta hc58) ⟨by decide, by decide⟩ rfl hl.1 (Nat.le_of_ble_eq_true rfl) d_Mo_index_58 rfl ?_
      refine ww_st (st' := [.int v58]) rfl ?_
      refine ww_if_ne (pc := 61) (tgt := 101) g.1 d_Mo_index_61 (by decide) h (fun c h => ?_) (fun c h => ?_)
      · refine ww_aload_n (pc := 101) g.1 d_Mo_index_101 rfl (lv_at hl 3 rfl) ?_
        refine ww_gI (pc := 102) g (k := 66) cl_Mo (pz rfl (by decide)) (by decide) (Or.inl kw_92) (f := 66) rfl rfl d_Mo_index_102 h fun v102 h => ?_
        refine ww_bipush (pc := 105) g.1 (v := 6) d_Mo_index_105 (by decide) ?_
        refine ww_icmp_ne (pc := 107) (tgt := 135) g.1 d_Mo_index_107 (by decide) h (fun c h => ?_) (fun c h => ?_)
        · refine ww_iload (pc := 135) g.1 d_Mo_index_135 (lv_at hl 9 rfl) ?_
          refine ww_bipush (pc := 137) g.1 (v := 100) d_Mo_index_137 (by decide) ?_
          refine ww_icmp_ne (pc := 139) (tgt := 149) g.1 d_Mo_index_139 (by decide) h (fun c h => ?_) (fun c h => ?_)
          · refine ww_aload_n (pc := 149) g.1 d_Mo_index_149 rfl (lv_at hl 3 rfl) ?_
            refine ww_gI (pc := 150) g (k := 66) cl_Mo (pz rfl (by decide)) (by decide) (Or.inl kw_92) (f := 66) rfl rfl d_Mo_index_150 h fun v150 h => ?_
            refine ww_istore (pc := 153) (i := 8) g.1 (lv' := [(8, .int v150), (14, .long v42), (13, .int v36), (12, .int v30), (0, .ref (q.1 0 0)), (4, .int x.1), (5, .long x.2.1), (7, .int x.2.2.1), (9, .long x.2.2.2.2.1), (11, .int x.2.2.2.2.2)]) d_Mo_index_153 hl (by decide) rfl fun ls hl => ?_
            refine ww_aload_n (pc := 155) g.1 d_Mo_index_155 rfl (lv_at hl 4 rfl) ?_
            refine ww_gL (pc := 156) g (k := 67) cl_Mo (pz rfl (by decide)) (by decide) (Or.inl kw_94) (f := 67) rfl rfl d_Mo_index_156 h fun v156 h => ?_
            refine ww_lstore (pc := 159) (i := 9) g.1 (lv' := [(9, .long v156), (8, .int v150), (14, .long v42), (13, .int v36), (12, .int v30), (0, .ref (q.1 0 0)), (4, .int x.1), (5, .long x.2.1), (7, .int x.2.2.1), (11, .int x.2.2.2.2.2)]) d_Mo_index_159 hl (by decide) rfl fun ls hl => ?_
            refine ww_iinc (pc := 161) g.1 (v := x.2.2.2.2.2 + 1) (lv' := [(11, .int (x.2.2.2.2.2 + 1)), (9, .long v156), (8, .int v150), (14, .long v42), (13, .int v36), (12, .int v30), (0, .ref (q.1 0 0)), (4, .int x.1), (5, .long x.2.1), (7, .int x.2.2.1)]) d_Mo_index_161 hl (k := 9) rfl (by rfl) (by decide) rfl fun ls hl => ?_
            refine ww_goto (pc := 164) (tgt := 9) g.1 d_Mo_index_164 (by decide) ?_
            rw [oR_eq h] at hR
            exact hR ls (lv_sub hl [6, 7, 8, 9, 2, 1, 0] rfl)
          · rw [oR_eq h] at hR
            exact hR ls (lv_sub hl [3] rfl)
        · rw [oR_eq h] at hR
          exact hR ls (lv_sub hl [3, 4, 5, 6, 7, 8] rfl)
      · rw [oR_eq h] at hR
        exact hR ls (lv_sub hl [3, 6, 1, 0] rfl)
  · rw [oR_eq h] at hR
    exact hR ls (lv_sub hl [0] rfl)

theorem j_Mo_index_j64 {X : Cx} {q : PL} (g : Gd X y_Mo_index b_Mo_index 17 none 5 123 R_Mo) {o : (Unit) × S1} (hR : Rt X q o.2 none) (l7 : Int32) (l13 : Int32) (l14 : Int64) (s : S1) (ls : Array Slot) (hl : lv_has ls 17 [(0, .ref (q.1 0 0)), (7, .int l7), (13, .int l13), (14, .long l14)]) (h : M_Mo_index_j64 l7 l13 l14 s = some o) : WW X q s 64 ls [] := by
  unfold M_Mo_index_j64 at h
  refine ww_aload_n (pc := 64) g.1 d_Mo_index_64 rfl (lv_at hl 0 rfl) ?_
  refine ww_gV (pc := 65) g (k := 72) cl_Mo (pz rfl (by decide)) (by decide) (Or.inl kw_150) (f := 72) (t := 28) rfl rfl rfl d_Mo_index_65 h fun v65 h => ?_
  refine ww_ok h fun cn65 h => ?_
  refine ww_nn cn65 ?_
  obtain ⟨v68, s, hc68, h⟩ := oB_of h
  refine ww_callV (pc := 68) (rest := []) g cv_Th_top (Or.inl kw_236) cl_Th (pt rfl rfl cn65) (ct_Th_top cn65 hc68) ⟨by decide, by decide⟩ rfl hl.1 (Nat.le_of_ble_eq_true rfl) d_Mo_index_68 rfl ?_
  refine ww_st (st' := [.int v68]) rfl ?_
  refine ww_istore (pc := 71) (i := 16) g.1 (lv' := [(16, .int v68), (0, .ref (q.1 0 0)), (7, .int l7), (13, .int l13), (14, .long l14)]) d_Mo_index_71 hl (by decide) rfl fun ls hl => ?_
  refine ww_aload_n (pc := 73) g.1 d_Mo_index_73 rfl (lv_at hl 1 rfl) ?_
  refine ww_gV (pc := 74) g (k := 72) cl_Mo (pz rfl (by decide)) (by decide) (Or.inl kw_150) (f := 72) (t := 28) rfl rfl rfl d_Mo_index_74 h fun v74 h => ?_
  refine ww_ok h fun cn74 h => ?_
  refine ww_nn cn74 ?_
  refine ww_gR (pc := 77) g (k := 7) cl_Th (pt rfl rfl cn74) (by decide) (Or.inl kw_89) (f := 3591) (t := 19) rfl rfl rfl d_Mo_index_77 ?_
  refine ww_aload_n (pc := 80) g.1 d_Mo_index_80 rfl (lv_at hl 1 rfl) ?_
  refine ww_gV (pc := 81) g (k := 72) cl_Mo (pz rfl (by decide)) (by decide) (Or.inl kw_150) (f := 72) (t := 28) rfl rfl rfl d_Mo_index_81 h fun v81 h => ?_
  refine ww_ok h fun cn81 h => ?_
  refine ww_nn cn81 ?_
  refine ww_gR (pc := 84) g (k := 14) cl_Th (pt rfl rfl cn81) (by decide) (Or.inl kw_254) (f := 3598) (t := 33) rfl rfl rfl d_Mo_index_84 ?_
  refine ww_iload (pc := 87) g.1 d_Mo_index_87 (lv_at hl 0 rfl) ?_
  refine ww_ai (pc := 89) g (pt rfl rfl cn81) rfl rfl d_Mo_index_89 h fun v89 h => ?_
  refine ww_iload (pc := 90) g.1 d_Mo_index_90 (lv_at hl 2 rfl) ?_
  refine ww_iadd (pc := 92) g.1 d_Mo_index_92 ?_
  refine ww_iload (pc := 93) g.1 d_Mo_index_93 (lv_at hl 3 rfl) ?_
  refine ww_lload (pc := 95) g.1 d_Mo_index_95 (lv_at hl 4 rfl) ?_
  obtain ⟨v97, s, hc97, h⟩ := oB_of h
  refine ww_callV (pc := 97) (rest := []) g cv_Va_set (Or.inl kw_99) (cl_Va (Or.inr ⟨by decide, cn74⟩)) (pt rfl rfl cn74) (ct_Va_set (Or.inr ⟨by decide, cn74⟩) hc97) ⟨by decide, by decide⟩ rfl hl.1 (Nat.le_of_ble_eq_true rfl) d_Mo_index_97 rfl ?_
  refine ww_st (st' := []) rfl ?_
  exact ww_vretH (pc := 100) g h hR d_Mo_index_100

theorem ct_Mo_index {l : Launch} {P : PP} {q : PL} {s s' : S1} {l1 : Int32} {l2 : Int64} {l4 : Int32} {l5 : Int64} {l7 : Int32} {r : Unit} (h : M_Mo_index l1 l2 l4 l5 l7 s = some (r, s')) : Ct l y_Mo_index b_Mo_index 17 none 5 123 P q s [.ref (q.1 0 0), .int l1, .long l2, .int l4, .long l5, .int l7] none q s' := by
  refine ct_of (by decide) (Nat.le_of_ble_eq_true rfl) fun X ls eP el g hR hl => ?_
  subst eP
  have hR : Rt X q ((r, s') : Unit × S1).2 none := hR
  have hl : lv_has ls 17 [(0, .ref (q.1 0 0)), (1, .int l1), (2, .long l2), (4, .int l4), (5, .long l5), (7, .int l7)] := hl
  generalize (r, s') = o at h hR
  unfold M_Mo_index at h
  refine ww_iload_n (pc := 0) g.1 d_Mo_index_0 rfl (lv_at hl 1 rfl) ?_
  refine ww_istore (pc := 1) (i := 8) g.1 (lv' := [(8, .int l1), (0, .ref (q.1 0 0)), (1, .int l1), (2, .long l2), (4, .int l4), (5, .long l5), (7, .int l7)]) d_Mo_index_1 hl (by decide) rfl fun ls hl => ?_
  refine ww_lload_n (pc := 3) g.1 d_Mo_index_3 rfl (lv_at hl 3 rfl) ?_
  refine ww_lstore (pc := 4) (i := 9) g.1 (lv' := [(9, .long l2), (8, .int l1), (0, .ref (q.1 0 0)), (1, .int l1), (2, .long l2), (4, .int l4), (5, .long l5), (7, .int l7)]) d_Mo_index_4 hl (by decide) rfl fun ls hl => ?_
  refine ww_iconst (pc := 6) g.1 (v := 1) d_Mo_index_6 (by decide) ?_
  refine ww_istore (pc := 7) (i := 11) g.1 (lv' := [(11, .int 1), (9, .long l2), (8, .int l1), (0, .ref (q.1 0 0)), (1, .int l1), (2, .long l2), (4, .int l4), (5, .long l5), (7, .int l7)]) d_Mo_index_7 hl (by decide) rfl fun ls hl => ?_
  obtain ⟨e9, s1, hw, h⟩ := oB_of h
  refine oW_rule (Wh := fun (x : Int32 × Int64 × Int32 × Int32 × Int64 × Int32) (s : S1) => ∀ ls : Array Slot, lv_has ls 17 [(0, .ref (q.1 0 0)), (4, .int x.1), (5, .long x.2.1), (7, .int x.2.2.1), (8, .int x.2.2.2.1), (9, .long x.2.2.2.2.1), (11, .int x.2.2.2.2.2)] → WW X q s 9 ls []) (We := fun (e : (Unit) ⊕ (Int32 × Int32 × Int64) ⊕ (Int32 × Int64 × Int32 × Int32 × Int64) ⊕ (Unit)) (s : S1) => (Sum.elim (fun y : Unit => ∀ ls : Array Slot, lv_has ls 17 [(0, .ref (q.1 0 0))] → WW X q s 15 ls []) (Sum.elim (fun y : Int32 × Int32 × Int64 => ∀ ls : Array Slot, lv_has ls 17 [(0, .ref (q.1 0 0)), (7, .int y.1), (13, .int y.2.1), (14, .long y.2.2)] → WW X q s 64 ls []) (Sum.elim (fun y : Int32 × Int64 × Int32 × Int32 × Int64 => ∀ ls : Array Slot, lv_has ls 17 [(0, .ref (q.1 0 0)), (4, .int y.1), (5, .long y.2.1), (7, .int y.2.2.1), (8, .int y.2.2.2.1), (9, .long y.2.2.2.2)] → WW X q s 110 ls []) (fun y : Unit => ∀ ls : Array Slot, lv_has ls 17 [(0, .ref (q.1 0 0))] → WW X q s 142 ls [])))) e) (fun x s o hb hc => lp_Mo_index_L9 (q := q) g x s o hb hc) hw ?_ ls (lv_sub hl [3, 6, 7, 8, 2, 1, 0] rfl)
  clear hw hl
  clear ls
  generalize s1 = s at h ⊢
  rcases e9 with y9_15 | y9_64 | y9_110 | y9_142
  · intro ls hl
    dsimp only [Sum.elim_inl, Sum.elim_inr] at h
    refine ww_aload_n (pc := 15) g.1 d_Mo_index_15 rfl (lv_at hl 0 rfl) ?_
    refine ww_iconst (pc := 16) g.1 (v := 2) d_Mo_index_16 (by decide) ?_
    obtain ⟨v17, s, hc17, h⟩ := oB_of h
    refine ww_callV (pc := 17) (rest := []) g cv_Mo_raise (Or.inl kw_157) cl_Mo (pz rfl (by decide)) (ct_Mo_raise hc17) ⟨by decide, by decide⟩ rfl hl.1 (Nat.le_of_ble_eq_true rfl) d_Mo_index_17 rfl ?_
    refine ww_st (st' := [.int v17]) rfl ?_
    refine ww_pop (pc := 20) g.1 d_Mo_index_20 rfl ?_
    exact ww_vretH (pc := 21) g h hR d_Mo_index_21
  · intro ls hl
    dsimp only [Sum.elim_inl, Sum.elim_inr] at h
    exact j_Mo_index_j64 g hR y9_64.1 y9_64.2.1 y9_64.2.2 s ls (lv_sub hl [0, 1, 2, 3] rfl) h
  · intro ls hl
    dsimp only [Sum.elim_inl, Sum.elim_inr] at h
    refine ww_aload_n (pc := 110) g.1 d_Mo_index_110 rfl (lv_at hl 0 rfl) ?_
    refine ww_iload (pc := 111) g.1 d_Mo_index_111 (lv_at hl 4 rfl) ?_
    refine ww_lload (pc := 113) g.1 d_Mo_index_113 (lv_at hl 5 rfl) ?_
    refine ww_iload (pc := 115) g.1 d_Mo_index_115 (lv_at hl 1 rfl) ?_
    refine ww_lload (pc := 117) g.1 d_Mo_index_117 (lv_at hl 2 rfl) ?_
    obtain ⟨v119, s, hc119, h⟩ := oB_of h
    refine ww_callV (pc := 119) (rest := []) g cv_Mo_arguments (Or.inl kw_410) cl_Mo (pz rfl (by decide)) (ct_Mo_arguments hc119) ⟨by decide, by decide⟩ rfl hl.1 (Nat.le_of_ble_eq_true rfl) d_Mo_index_119 rfl ?_
    refine ww_st (st' := []) rfl ?_
    refine ww_aload_n (pc := 122) g.1 d_Mo_index_122 rfl (lv_at hl 0 rfl) ?_
    refine ww_iconst (pc := 123) g.1 (v := 1) d_Mo_index_123 (by decide) ?_
    refine ww_iload (pc := 124) g.1 d_Mo_index_124 (lv_at hl 3 rfl) ?_
    refine ww_iconst (pc := 126) g.1 (v := 1) d_Mo_index_126 (by decide) ?_
    obtain ⟨v127, s, hc127, h⟩ := oB_of h
    refine ww_callV (pc := 127) (rest := []) g cv_Mo_expect (Or.inl kw_415) cl_Mo (pz rfl (by decide)) (ct_Mo_expect hc127) ⟨by decide, by decide⟩ rfl hl.1 (Nat.le_of_ble_eq_true rfl) d_Mo_index_127 rfl ?_
    refine ww_st (st' := []) rfl ?_
    refine ww_aload_n (pc := 130) g.1 d_Mo_index_130 rfl (lv_at hl 0 rfl) ?_
    obtain ⟨v131, s, hc131, h⟩ := oB_of h
    refine ww_callV (pc := 131) (rest := []) g cv_Mo_callGot (Or.inl kw_416) cl_Mo (pz rfl (by decide)) (ct_Mo_callGot hc131) ⟨by decide, by decide⟩ rfl hl.1 (Nat.le_of_ble_eq_true rfl) d_Mo_index_131 rfl ?_
    refine ww_st (st' := []) rfl ?_
    exact ww_vretH (pc := 134) g h hR d_Mo_index_134
  · intro ls hl
    dsimp only [Sum.elim_inl, Sum.elim_inr] at h
    refine ww_aload_n (pc := 142) g.1 d_Mo_index_142 rfl (lv_at hl 0 rfl) ?_
    refine ww_iconst (pc := 143) g.1 (v := 4) d_Mo_index_143 (by decide) ?_
    obtain ⟨v144, s, hc144, h⟩ := oB_of h
    refine ww_callV (pc := 144) (rest := []) g cv_Mo_raise (Or.inl kw_157) cl_Mo (pz rfl (by decide)) (ct_Mo_raise hc144) ⟨by decide, by decide⟩ rfl hl.1 (Nat.le_of_ble_eq_true rfl) d_Mo_index_144 rfl ?_
    refine ww_st (st' := [.int v144]) rfl ?_
    refine ww_pop (pc := 147) g.1 d_Mo_index_147 rfl ?_
    exact ww_vretH (pc := 148) g h hR d_Mo_index_148


