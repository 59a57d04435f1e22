abbrev b_Mo_collect : ByteArray := prog_14_method_138_code
def y_Mo_collect : MethodName := ⟨R_Mo, "collect", "()I"⟩
abbrev w_Mo_collect : List Cond := .code y_Mo_collect b_Mo_collect 1 (some .int) :: wA
theorem k_Mo_collect : Cond.code y_Mo_collect b_Mo_collect 1 (some .int) ∈ wA := kinm (show _ ∈ tables_1 from (List.mem_append_right _ (List.mem_append_right _ (List.mem_append_right _ (List.mem_append_right _ (List.mem_append_right _ (List.mem_append_right _ (List.mem_append_right _ (List.mem_append_right _ (List.mem_append_right _ (List.mem_append_right _ (List.mem_append_right _ (List.mem_append_right _ (List.mem_append_right _ (List.mem_of_getElem? (l := tables_1_14) (i := 3) (by decide +kernel)))))))))))))))) (by decide +kernel)
theorem d_Mo_collect_0 : decode b_Mo_collect 0 = .ok (.aload_n 0, 1) := by decide +kernel
theorem d_Mo_collect_1 : decode b_Mo_collect 1 = .ok (.iconst 0, 1) := by decide +kernel
theorem d_Mo_collect_2 : decode b_Mo_collect 2 = .ok (.putfield 18, 3) := by decide +kernel
theorem d_Mo_collect_5 : decode b_Mo_collect 5 = .ok (.aload_n 0, 1) := by decide +kernel
theorem d_Mo_collect_6 : decode b_Mo_collect 6 = .ok (.iconst 1, 1) := by decide +kernel
theorem d_Mo_collect_7 : decode b_Mo_collect 7 = .ok (.aload_n 0, 1) := by decide +kernel
theorem d_Mo_collect_8 : decode b_Mo_collect 8 = .ok (.getfield 27, 3) := by decide +kernel
theorem d_Mo_collect_11 : decode b_Mo_collect 11 = .ok (.ifCond .ne 7, 3) := by decide +kernel
theorem d_Mo_collect_14 : decode b_Mo_collect 14 = .ok (.iconst 1, 1) := by decide +kernel
theorem d_Mo_collect_15 : decode b_Mo_collect 15 = .ok (.goto 4, 3) := by decide +kernel
theorem d_Mo_collect_18 : decode b_Mo_collect 18 = .ok (.iconst 0, 1) := by decide +kernel
theorem d_Mo_collect_19 : decode b_Mo_collect 19 = .ok (.invokevirtual 445, 3) := by decide +kernel
theorem d_Mo_collect_22 : decode b_Mo_collect 22 = .ok (.ifCond .eq 5, 3) := by decide +kernel
theorem d_Mo_collect_25 : decode b_Mo_collect 25 = .ok (.iconst 0, 1) := by decide +kernel
theorem d_Mo_collect_26 : decode b_Mo_collect 26 = .ok (.ireturn, 1) := by decide +kernel
theorem d_Mo_collect_27 : decode b_Mo_collect 27 = .ok (.aload_n 0, 1) := by decide +kernel
theorem d_Mo_collect_28 : decode b_Mo_collect 28 = .ok (.invokevirtual 520, 3) := by decide +kernel
theorem d_Mo_collect_31 : decode b_Mo_collect 31 = .ok (.aload_n 0, 1) := by decide +kernel
theorem d_Mo_collect_32 : decode b_Mo_collect 32 = .ok (.getfield 122, 3) := by decide +kernel
theorem d_Mo_collect_35 : decode b_Mo_collect 35 = .ok (.ireturn, 1) := by decide +kernel
theorem kw_455 : Cond.instanceMethod y_Mo_collect ∈ wA := kinm (show _ ∈ tables_1 from (List.mem_append_right _ (List.mem_append_right _ (List.mem_append_right _ (List.mem_append_right _ (List.mem_append_right _ (List.mem_append_right _ (List.mem_append_right _ (List.mem_append_right _ (List.mem_append_right _ (List.mem_append_right _ (List.mem_append_right _ (List.mem_append_right _ (List.mem_append_right _ (List.mem_of_getElem? (l := tables_1_14) (i := 1) (by decide +kernel)))))))))))))))) (by decide +kernel)
theorem kw_456 : Cond.selects R_Mo y_Mo_collect y_Mo_collect ∈ wA := kinm (show _ ∈ tables_1 from (List.mem_append_right _ (List.mem_append_right _ (List.mem_append_right _ (List.mem_append_right _ (List.mem_append_right _ (List.mem_append_right _ (List.mem_append_right _ (List.mem_append_right _ (List.mem_append_right _ (List.mem_append_right _ (List.mem_append_right _ (List.mem_append_right _ (List.mem_append_right _ (List.mem_of_getElem? (l := tables_1_14) (i := 2) (by decide +kernel)))))))))))))))) (by decide +kernel)
theorem cv_Mo_collect : CV y_Mo_collect b_Mo_collect 1 (some .int) 0 := ⟨kw_455, kw_456, kw_17, k_Mo_collect, by decide +kernel⟩
theorem j_Mo_collect_j19 {X : Cx} {q : PL} (g : Gd X y_Mo_collect b_Mo_collect 1 (some .int) 6 133 R_Mo) {o : (Int32) × S1} (hR : Rt X q o.2 (some (.int o.1))) (k0 : Int32) (k1 : Int32) (s : S1) (ls : Array Slot) (hl : lv_has ls 1 [(0, .ref (q.1 0 0))]) (h : M_Mo_collect_j19 k0 k1 s = some o) : WW X q s 19 ls [.int k0, .int k1, .ref (q.1 0 0)] := by
  unfold M_Mo_collect_j19 at h
  obtain ⟨v19, s, hc19, h⟩ := oB_of h
  refine ww_callV (pc := 19) (rest := []) g cv_Mo_refuse (Or.inl kw_20) cl_Mo (pz rfl (by decide)) (ct_Mo_refuse hc19) ⟨by decide, by decide⟩ rfl hl.1 (Nat.le_of_ble_eq_true rfl) d_Mo_collect_19 rfl ?_
  refine ww_st (st' := [.int v19]) rfl ?_
  refine ww_if_eq (pc := 22) (tgt := 27) g.1 d_Mo_collect_22 (by decide) h (fun c h => ?_) (fun c h => ?_)
  · refine ww_aload_n (pc := 27) g.1 d_Mo_collect_27 rfl (lv_at hl 0 rfl) ?_
    obtain ⟨v28, s, hc28, h⟩ := oB_of h
    refine ww_callV (pc := 28) (rest := []) g cv_Mo_collection (Or.inl kw_452) cl_Mo (pz rfl (by decide)) (ct_Mo_collection hc28) ⟨by decide, by decide⟩ rfl hl.1 (Nat.le_of_ble_eq_true rfl) d_Mo_collect_28 rfl ?_
    refine ww_st (st' := []) rfl ?_
    refine ww_aload_n (pc := 31) g.1 d_Mo_collect_31 rfl (lv_at hl 0 rfl) ?_
    refine ww_gI (pc := 32) g (k := 34) cl_Mo (pz rfl (by decide)) (by decide) (Or.inl kw_115) (f := 34) rfl rfl d_Mo_collect_32 h fun v32 h => ?_
    exact ww_iretH (pc := 35) g h hR d_Mo_collect_35
  · refine ww_iconst (pc := 25) g.1 (v := 0) d_Mo_collect_25 (by decide) ?_
    exact ww_iretH (pc := 26) g h hR d_Mo_collect_26

theorem ct_Mo_collect {l : Launch} {P : PP} {q : PL} {s s' : S1}  {r : Int32} (h : M_Mo_collect s = some (r, s')) : Ct l y_Mo_collect b_Mo_collect 1 (some .int) 6 133 P q s [.ref (q.1 0 0)] (some (.int r)) q s' := by
  refine ct_of (by decide) (Nat.le_of_ble_eq_true rfl) fun X ls eP el g hR hl => ?_
  subst eP
  have hR : Rt X q ((r, s') : Int32 × S1).2 (some (.int ((r, s') : Int32 × S1).1)) := hR
  have hl : lv_has ls 1 [(0, .ref (q.1 0 0))] := hl
  generalize (r, s') = o at h hR
  unfold M_Mo_collect at h
  refine ww_aload_n (pc := 0) g.1 d_Mo_collect_0 rfl (lv_at hl 0 rfl) ?_
  refine ww_iconst (pc := 1) g.1 (v := 0) d_Mo_collect_1 (by decide) ?_
  refine ww_pI (pc := 2) g (k := 2) cl_Mo (pz rfl (by decide)) (by decide) (Or.inl kw_14) rfl (f := 2) rfl rfl rfl rfl d_Mo_collect_2 h fun s hs h => ?_
  refine ww_aload_n (pc := 5) g.1 d_Mo_collect_5 rfl (lv_at hl 0 rfl) ?_
  refine ww_iconst (pc := 6) g.1 (v := 1) d_Mo_collect_6 (by decide) ?_
  refine ww_aload_n (pc := 7) g.1 d_Mo_collect_7 rfl (lv_at hl 0 rfl) ?_
  refine ww_gI (pc := 8) g (k := 5) cl_Mo (pz rfl (by decide)) (by decide) (Or.inl kw_283) (f := 5) rfl rfl d_Mo_collect_8 h fun v8 h => ?_
  refine ww_if_ne (pc := 11) (tgt := 18) g.1 d_Mo_collect_11 (by decide) h (fun c h => ?_) (fun c h => ?_)
  · refine ww_iconst (pc := 18) g.1 (v := 0) d_Mo_collect_18 (by decide) ?_
    exact j_Mo_collect_j19 g hR 0 1 s ls (lv_sub hl [0] rfl) h
  · refine ww_iconst (pc := 14) g.1 (v := 1) d_Mo_collect_14 (by decide) ?_
    refine ww_goto (pc := 15) (tgt := 19) g.1 d_Mo_collect_15 (by decide) ?_
    exact j_Mo_collect_j19 g hR 1 1 s ls (lv_sub hl [0] rfl) h

abbrev b_Mo_may : ByteArray := prog_14_method_27_code
def y_Mo_may : MethodName := ⟨R_Mo, "may", "(Z)Z"⟩
abbrev w_Mo_may : List Cond := .code y_Mo_may b_Mo_may 2 (some .boolean) :: wA
theorem k_Mo_may : Cond.code y_Mo_may b_Mo_may 2 (some .boolean) ∈ wA := kinm (show _ ∈ tables_1 from (List.mem_append_right _ (List.mem_append_right _ (List.mem_append_right _ (List.mem_append_right _ (List.mem_append_right _ (List.mem_append_right _ (List.mem_append_right _ (List.mem_append_right _ (List.mem_append_right _ (List.mem_append_right _ (List.mem_append_left _ (List.mem_of_getElem? (l := tables_1_11) (i := 235) (by decide +kernel)))))))))))))) (by decide +kernel)
theorem d_Mo_may_0 : decode b_Mo_may 0 = .ok (.aload_n 0, 1) := by decide +kernel
theorem d_Mo_may_1 : decode b_Mo_may 1 = .ok (.getfield 146, 3) := by decide +kernel
theorem d_Mo_may_4 : decode b_Mo_may 4 = .ok (.ldc_w 516, 3) := by decide +kernel
theorem d_Mo_may_7 : decode b_Mo_may 7 = .ok (.if_icmp .ne 12, 3) := by decide +kernel
theorem d_Mo_may_10 : decode b_Mo_may 10 = .ok (.aload_n 0, 1) := by decide +kernel
theorem d_Mo_may_11 : decode b_Mo_may 11 = .ok (.bipush 11, 2) := by decide +kernel
theorem d_Mo_may_13 : decode b_Mo_may 13 = .ok (.invokevirtual 517, 3) := by decide +kernel
theorem d_Mo_may_16 : decode b_Mo_may 16 = .ok (.pop, 1) := by decide +kernel
theorem d_Mo_may_17 : decode b_Mo_may 17 = .ok (.iconst 0, 1) := by decide +kernel
theorem d_Mo_may_18 : decode b_Mo_may 18 = .ok (.ireturn, 1) := by decide +kernel
theorem d_Mo_may_19 : decode b_Mo_may 19 = .ok (.aload_n 0, 1) := by decide +kernel
theorem d_Mo_may_20 : decode b_Mo_may 20 = .ok (.getfield 122, 3) := by decide +kernel
theorem d_Mo_may_23 : decode b_Mo_may 23 = .ok (.aload_n 0, 1) := by decide +kernel
theorem d_Mo_may_24 : decode b_Mo_may 24 = .ok (.getfield 116, 3) := by decide +kernel
theorem d_Mo_may_27 : decode b_Mo_may 27 = .ok (.if_icmp .ge 18, 3) := by decide +kernel
theorem d_Mo_may_30 : decode b_Mo_may 30 = .ok (.iload_n 1, 1) := by decide +kernel
theorem d_Mo_may_31 : decode b_Mo_may 31 = .ok (.ifCond .eq 12, 3) := by decide +kernel
theorem d_Mo_may_34 : decode b_Mo_may 34 = .ok (.aload_n 0, 1) := by decide +kernel
theorem d_Mo_may_35 : decode b_Mo_may 35 = .ok (.getfield 137, 3) := by decide +kernel
theorem d_Mo_may_38 : decode b_Mo_may 38 = .ok (.bipush 32, 2) := by decide +kernel
theorem d_Mo_may_40 : decode b_Mo_may 40 = .ok (.if_icmp .ge 5, 3) := by decide +kernel
theorem d_Mo_may_43 : decode b_Mo_may 43 = .ok (.iconst 1, 1) := by decide +kernel
theorem d_Mo_may_44 : decode b_Mo_may 44 = .ok (.ireturn, 1) := by decide +kernel
theorem d_Mo_may_45 : decode b_Mo_may 45 = .ok (.aload_n 0, 1) := by decide +kernel
theorem d_Mo_may_46 : decode b_Mo_may 46 = .ok (.getfield 418, 3) := by decide +kernel
theorem d_Mo_may_49 : decode b_Mo_may 49 = .ok (.ifCond .ne 7, 3) := by decide +kernel
theorem d_Mo_may_52 : decode b_Mo_may 52 = .ok (.aload_n 0, 1) := by decide +kernel
theorem d_Mo_may_53 : decode b_Mo_may 53 = .ok (.invokevirtual 520, 3) := by decide +kernel
theorem d_Mo_may_56 : decode b_Mo_may 56 = .ok (.aload_n 0, 1) := by decide +kernel
theorem d_Mo_may_57 : decode b_Mo_may 57 = .ok (.getfield 122, 3) := by decide +kernel
theorem d_Mo_may_60 : decode b_Mo_may 60 = .ok (.aload_n 0, 1) := by decide +kernel
theorem d_Mo_may_61 : decode b_Mo_may 61 = .ok (.getfield 116, 3) := by decide +kernel
theorem d_Mo_may_64 : decode b_Mo_may 64 = .ok (.if_icmp .ge 18, 3) := by decide +kernel
theorem d_Mo_may_67 : decode b_Mo_may 67 = .ok (.iload_n 1, 1) := by decide +kernel
theorem d_Mo_may_68 : decode b_Mo_may 68 = .ok (.ifCond .eq 12, 3) := by decide +kernel
theorem d_Mo_may_71 : decode b_Mo_may 71 = .ok (.aload_n 0, 1) := by decide +kernel
theorem d_Mo_may_72 : decode b_Mo_may 72 = .ok (.getfield 137, 3) := by decide +kernel
theorem d_Mo_may_75 : decode b_Mo_may 75 = .ok (.bipush 32, 2) := by decide +kernel
theorem d_Mo_may_77 : decode b_Mo_may 77 = .ok (.if_icmp .ge 5, 3) := by decide +kernel
theorem d_Mo_may_80 : decode b_Mo_may 80 = .ok (.iconst 1, 1) := by decide +kernel
theorem d_Mo_may_81 : decode b_Mo_may 81 = .ok (.ireturn, 1) := by decide +kernel
theorem d_Mo_may_82 : decode b_Mo_may 82 = .ok (.aload_n 0, 1) := by decide +kernel
theorem d_Mo_may_83 : decode b_Mo_may 83 = .ok (.bipush 10, 2) := by decide +kernel
theorem d_Mo_may_85 : decode b_Mo_may 85 = .ok (.invokevirtual 517, 3) := by decide +kernel
theorem d_Mo_may_88 : decode b_Mo_may 88 = .ok (.pop, 1) := by decide +kernel
theorem d_Mo_may_89 : decode b_Mo_may 89 = .ok (.iconst 0, 1) := by decide +kernel
theorem d_Mo_may_90 : decode b_Mo_may 90 = .ok (.ireturn, 1) := by decide +kernel
theorem kw_457 : Cond.constant R_Mo 516 60000 ∈ wA := kinm (show _ ∈ tables_1 from (List.mem_append_right _ (List.mem_append_right _ (List.mem_append_right _ (List.mem_append_right _ (List.mem_append_right _ (List.mem_append_right _ (List.mem_append_right _ (List.mem_append_right _ (List.mem_append_right _ (List.mem_append_right _ (List.mem_append_left _ (List.mem_of_getElem? (l := tables_1_11) (i := 236) (by decide +kernel)))))))))))))) (by decide +kernel)
theorem kw_458 : Cond.fieldLink R_Mo 418 "LuaMachineModel" "noCollection" "Z" ∈ wA := kinm (show _ ∈ tables_1 from (List.mem_append_right _ (List.mem_append_right _ (List.mem_append_right _ (List.mem_append_right _ (List.mem_append_right _ (List.mem_append_right _ (List.mem_append_right _ (List.mem_append_right _ (List.mem_append_right _ (List.mem_append_left _ (List.mem_of_getElem? (l := tables_1_10) (i := 148) (by decide +kernel))))))))))))) (by decide +kernel)
theorem kw_459 : Cond.instanceMethod y_Mo_may ∈ wA := kinm (show _ ∈ tables_1 from (List.mem_append_right _ (List.mem_append_right _ (List.mem_append_right _ (List.mem_append_right _ (List.mem_append_right _ (List.mem_append_right _ (List.mem_append_right _ (List.mem_append_right _ (List.mem_append_right _ (List.mem_append_right _ (List.mem_append_left _ (List.mem_of_getElem? (l := tables_1_11) (i := 234) (by decide +kernel)))))))))))))) (by decide +kernel)
theorem kw_460 : Cond.selects R_Mo y_Mo_may y_Mo_may ∈ wA := kinp 127 (by decide +kernel) (by decide +kernel)
theorem cv_Mo_may : CV y_Mo_may b_Mo_may 2 (some .boolean) 1 := ⟨kw_459, kw_460, kw_17, k_Mo_may, by decide +kernel⟩
theorem j_Mo_may_j82 {X : Cx} {q : PL} (g : Gd X y_Mo_may b_Mo_may 2 (some .boolean) 6 133 R_Mo) {o : (Int32) × S1} (hR : Rt X q o.2 (some (.int o.1)))  (s : S1) (ls : Array Slot) (hl : lv_has ls 2 [(0, .ref (q.1 0 0))]) (h : M_Mo_may_j82 s = some o) : WW X q s 82 ls [] := by
  unfold M_Mo_may_j82 at h
  refine ww_aload_n (pc := 82) g.1 d_Mo_may_82 rfl (lv_at hl 0 rfl) ?_
  refine ww_bipush (pc := 83) g.1 (v := 10) d_Mo_may_83 (by decide) ?_
  obtain ⟨v85, s, hc85, h⟩ := oB_of h
  refine ww_callV (pc := 85) (rest := []) g cv_Mo_raise (Or.inl kw_157) cl_Mo (pz rfl (by decide)) (ct_Mo_raise hc85) ⟨by decide, by decide⟩ rfl hl.1 (Nat.le_of_ble_eq_true rfl) d_Mo_may_85 rfl ?_
  refine ww_st (st' := [.int v85]) rfl ?_
  refine ww_pop (pc := 88) g.1 d_Mo_may_88 rfl ?_
  refine ww_iconst (pc := 89) g.1 (v := 0) d_Mo_may_89 (by decide) ?_
  exact ww_zretH (pc := 90) g h hR (Or.inl rfl) d_Mo_may_90

theorem j_Mo_may_j56 {X : Cx} {q : PL} (g : Gd X y_Mo_may b_Mo_may 2 (some .boolean) 6 133 R_Mo) {o : (Int32) × S1} (hR : Rt X q o.2 (some (.int o.1))) (l1 : Int32) (s : S1) (ls : Array Slot) (hl : lv_has ls 2 [(0, .ref (q.1 0 0)), (1, .int l1)]) (h : M_Mo_may_j56 l1 s = some o) : WW X q s 56 ls [] := by
  unfold M_Mo_may_j56 at h
  refine ww_aload_n (pc := 56) g.1 d_Mo_may_56 rfl (lv_at hl 0 rfl) ?_
  refine ww_gI (pc := 57) g (k := 34) cl_Mo (pz rfl (by decide)) (by decide) (Or.inl kw_115) (f := 34) rfl rfl d_Mo_may_57 h fun v57 h => ?_
  refine ww_aload_n (pc := 60) g.1 d_Mo_may_60 rfl (lv_at hl 0 rfl) ?_
  refine ww_gI (pc := 61) g (k := 32) cl_Mo (pz rfl (by decide)) (by decide) (Or.inl kw_164) (f := 32) rfl rfl d_Mo_may_61 h fun v61 h => ?_
  refine ww_icmp_ge (pc := 64) (tgt := 82) g.1 d_Mo_may_64 (by decide) h (fun c h => ?_) (fun c h => ?_)
  · exact j_Mo_may_j82 g hR s ls (lv_sub hl [0] rfl) h
  · refine ww_iload_n (pc := 67) g.1 d_Mo_may_67 rfl (lv_at hl 1 rfl) ?_
    refine ww_if_eq (pc := 68) (tgt := 80) g.1 d_Mo_may_68 (by decide) h (fun c h => ?_) (fun c h => ?_)
    · refine ww_iconst (pc := 80) g.1 (v := 1) d_Mo_may_80 (by decide) ?_
      exact ww_zretH (pc := 81) g h hR (Or.inr rfl) d_Mo_may_81
    · refine ww_aload_n (pc := 71) g.1 d_Mo_may_71 rfl (lv_at hl 0 rfl) ?_
      refine ww_gI (pc := 72) g (k := 39) cl_Mo (pz rfl (by decide)) (by decide) (Or.inl kw_302) (f := 39) rfl rfl d_Mo_may_72 h fun v72 h => ?_
      refine ww_bipush (pc := 75) g.1 (v := 32) d_Mo_may_75 (by decide) ?_
      refine ww_icmp_ge (pc := 77) (tgt := 82) g.1 d_Mo_may_77 (by decide) h (fun c h => ?_) (fun c h => ?_)
      · exact j_Mo_may_j82 g hR s ls (lv_sub hl [0] rfl) h
      · refine ww_iconst (pc := 80) g.1 (v := 1) d_Mo_may_80 (by decide) ?_
        exact ww_zretH (pc := 81) g h hR (Or.inr rfl) d_Mo_may_81

theorem j_Mo_may_j45 {X : Cx} {q : PL} (g : Gd X y_Mo_may b_Mo_may 2 (some .boolean) 6 133 R_Mo) {o : (Int32) × S1} (hR : Rt X q o.2 (some (.int o.1))) (l1 : Int32) (s : S1) (ls : Array Slot) (hl : lv_has ls 2 [(0, .ref (q.1 0 0)), (1, .int l1)]) (h : M_Mo_may_j45 l1 s = some o) : WW X q s 45 ls [] := by
  unfold M_Mo_may_j45 at h
  refine ww_aload_n (pc := 45) g.1 d_Mo_may_45 rfl (lv_at hl 0 rfl) ?_
  refine ww_gI (pc := 46) g (k := 92) cl_Mo (pz rfl (by decide)) (by decide) (Or.inl kw_458) (f := 92) rfl rfl d_Mo_may_46 h fun v46 h => ?_
  refine ww_if_ne (pc := 49) (tgt := 56) g.1 d_Mo_may_49 (by decide) h (fun c h => ?_) (fun c h => ?_)
  · exact j_Mo_may_j56 g hR l1 s ls (lv_sub hl [0, 1] rfl) h
  · refine ww_aload_n (pc := 52) g.1 d_Mo_may_52 rfl (lv_at hl 0 rfl) ?_
    obtain ⟨v53, s, hc53, h⟩ := oB_of h
    refine ww_callV (pc := 53) (rest := []) g cv_Mo_collection (Or.inl kw_452) cl_Mo (pz rfl (by decide)) (ct_Mo_collection hc53) ⟨by decide, by decide⟩ rfl hl.1 (Nat.le_of_ble_eq_true rfl) d_Mo_may_53 rfl ?_
    refine ww_st (st' := []) rfl ?_
    exact j_Mo_may_j56 g hR l1 s ls (lv_sub hl [0, 1] rfl) h

theorem ct_Mo_may {l : Launch} {P : PP} {q : PL} {s s' : S1} {l1 : Int32} {r : Int32} (h : M_Mo_may l1 s = some (r, s')) : Ct l y_Mo_may b_Mo_may 2 (some .boolean) 6 133 P q s [.ref (q.1 0 0), .int l1] (some (.int r)) q s' := by
  refine ct_of (by decide) (Nat.le_of_ble_eq_true rfl) fun X ls eP el g hR hl => ?_
  subst eP
  have hR : Rt X q ((r, s') : Int32 × S1).2 (some (.int ((r, s') : Int32 × S1).1)) := hR
  have hl : lv_has ls 2 [(0, .ref (q.1 0 0)), (1, .int l1)] := hl
  generalize (r, s') = o at h hR
  unfold M_Mo_may at h
  refine ww_aload_n (pc := 0) g.1 d_Mo_may_0 rfl (lv_at hl 0 rfl) ?_
  refine ww_gI (pc := 1) g (k := 42) cl_Mo (pz rfl (by decide)) (by decide) (Or.inl kw_114) (f := 42) rfl rfl d_Mo_may_1 h fun v1 h => ?_
  refine ww_ldcw (pc := 4) g (v := 60000) kw_457 d_Mo_may_4 ?_
  refine ww_icmp_ne (pc := 7) (tgt := 19) g.1 d_Mo_may_7 (by decide) h (fun c h => ?_) (fun c h => ?_)
  · refine ww_aload_n (pc := 19) g.1 d_Mo_may_19 rfl (lv_at hl 0 rfl) ?_
    refine ww_gI (pc := 20) g (k := 34) cl_Mo (pz rfl (by decide)) (by decide) (Or.inl kw_115) (f := 34) rfl rfl d_Mo_may_20 h fun v20 h => ?_
    refine ww_aload_n (pc := 23) g.1 d_Mo_may_23 rfl (lv_at hl 0 rfl) ?_
    refine ww_gI (pc := 24) g (k := 32) cl_Mo (pz rfl (by decide)) (by decide) (Or.inl kw_164) (f := 32) rfl rfl d_Mo_may_24 h fun v24 h => ?_
    refine ww_icmp_ge (pc := 27) (tgt := 45) g.1 d_Mo_may_27 (by decide) h (fun c h => ?_) (fun c h => ?_)
    · exact j_Mo_may_j45 g hR l1 s ls (lv_sub hl [0, 1] rfl) h
    · refine ww_iload_n (pc := 30) g.1 d_Mo_may_30 rfl (lv_at hl 1 rfl) ?_
      refine ww_if_eq (pc := 31) (tgt := 43) g.1 d_Mo_may_31 (by decide) h (fun c h => ?_) (fun c h => ?_)
      · refine ww_iconst (pc := 43) g.1 (v := 1) d_Mo_may_43 (by decide) ?_
        exact ww_zretH (pc := 44) g h hR (Or.inr rfl) d_Mo_may_44
      · refine ww_aload_n (pc := 34) g.1 d_Mo_may_34 rfl (lv_at hl 0 rfl) ?_
        refine ww_gI (pc := 35) g (k := 39) cl_Mo (pz rfl (by decide)) (by decide) (Or.inl kw_302) (f := 39) rfl rfl d_Mo_may_35 h fun v35 h => ?_
        refine ww_bipush (pc := 38) g.1 (v := 32) d_Mo_may_38 (by decide) ?_
        refine ww_icmp_ge (pc := 40) (tgt := 45) g.1 d_Mo_may_40 (by decide) h (fun c h => ?_) (fun c h => ?_)
        · exact j_Mo_may_j45 g hR l1 s ls (lv_sub hl [0, 1] rfl) h
        · refine ww_iconst (pc := 43) g.1 (v := 1) d_Mo_may_43 (by decide) ?_
          exact ww_zretH (pc := 44) g h hR (Or.inr rfl) d_Mo_may_44
  · refine ww_aload_n (pc := 10) g.1 d_Mo_may_10 rfl (lv_at hl 0 rfl) ?_
    refine ww_bipush (pc := 11) g.1 (v := 11) d_Mo_may_11 (by decide) ?_
    obtain ⟨v13, s, hc13, h⟩ := oB_of h
    refine ww_callV (pc := 13) (rest := []) g cv_Mo_raise (Or.inl kw_157) cl_Mo (pz rfl (by decide)) (ct_Mo_raise hc13) ⟨by decide, by decide⟩ rfl hl.1 (Nat.le_of_ble_eq_true rfl) d_Mo_may_13 rfl ?_
    refine ww_st (st' := [.int v13]) rfl ?_
    refine ww_pop (pc := 16) g.1 d_Mo_may_16 rfl ?_
    refine ww_iconst (pc := 17) g.1 (v := 0) d_Mo_may_17 (by decide) ?_
    exact ww_zretH (pc := 18) g h hR (Or.inl rfl) d_Mo_may_18

abbrev b_Mo_newVariable : ByteArray := prog_14_method_55_code
def y_Mo_newVariable : MethodName := ⟨R_Mo, "newVariable", "()I"⟩
abbrev w_Mo_newVariable : List Cond := .code y_Mo_newVariable b_Mo_newVariable 2 (some .int) :: wA
theorem k_Mo_newVariable : Cond.code y_Mo_newVariable b_Mo_newVariable 2 (some .int) ∈ wA := kinm (show _ ∈ tables_1 from (List.mem_append_right _ (List.mem_append_right _ (List.mem_append_right _ (List.mem_append_right _ (List.mem_append_right _ (List.mem_append_right _ (List.mem_append_right _ (List.mem_append_right _ (List.mem_append_right _ (List.mem_append_right _ (List.mem_append_right _ (List.mem_append_left _ (List.mem_of_getElem? (l := tables_1_12) (i := 80) (by decide +kernel))))))))))))))) (by decide +kernel)
theorem d_Mo_newVariable_0 : decode b_Mo_newVariable 0 = .ok (.aload_n 0, 1) := by decide +kernel
theorem d_Mo_newVariable_1 : decode b_Mo_newVariable 1 = .ok (.iconst 0, 1) := by decide +kernel
theorem d_Mo_newVariable_2 : decode b_Mo_newVariable 2 = .ok (.invokevirtual 527, 3) := by decide +kernel
theorem d_Mo_newVariable_5 : decode b_Mo_newVariable 5 = .ok (.ifCond .ne 5, 3) := by decide +kernel
theorem d_Mo_newVariable_8 : decode b_Mo_newVariable 8 = .ok (.iconst (-1), 1) := by decide +kernel
theorem d_Mo_newVariable_9 : decode b_Mo_newVariable 9 = .ok (.ireturn, 1) := by decide +kernel
theorem d_Mo_newVariable_10 : decode b_Mo_newVariable 10 = .ok (.aload_n 0, 1) := by decide +kernel
theorem d_Mo_newVariable_11 : decode b_Mo_newVariable 11 = .ok (.bipush 8, 2) := by decide +kernel
theorem d_Mo_newVariable_13 : decode b_Mo_newVariable 13 = .ok (.invokevirtual 531, 3) := by decide +kernel
theorem d_Mo_newVariable_16 : decode b_Mo_newVariable 16 = .ok (.istore_n 1, 1) := by decide +kernel
theorem d_Mo_newVariable_17 : decode b_Mo_newVariable 17 = .ok (.aload_n 0, 1) := by decide +kernel
theorem d_Mo_newVariable_18 : decode b_Mo_newVariable 18 = .ok (.getfield 168, 3) := by decide +kernel
theorem d_Mo_newVariable_21 : decode b_Mo_newVariable 21 = .ok (.iload_n 1, 1) := by decide +kernel
theorem d_Mo_newVariable_22 : decode b_Mo_newVariable 22 = .ok (.iconst (-1), 1) := by decide +kernel
theorem d_Mo_newVariable_23 : decode b_Mo_newVariable 23 = .ok (.iastore, 1) := by decide +kernel
theorem d_Mo_newVariable_24 : decode b_Mo_newVariable 24 = .ok (.aload_n 0, 1) := by decide +kernel
theorem d_Mo_newVariable_25 : decode b_Mo_newVariable 25 = .ok (.getfield 212, 3) := by decide +kernel
theorem d_Mo_newVariable_28 : decode b_Mo_newVariable 28 = .ok (.iload_n 1, 1) := by decide +kernel
theorem d_Mo_newVariable_29 : decode b_Mo_newVariable 29 = .ok (.iconst 0, 1) := by decide +kernel
theorem d_Mo_newVariable_30 : decode b_Mo_newVariable 30 = .ok (.lconst 0, 1) := by decide +kernel
theorem d_Mo_newVariable_31 : decode b_Mo_newVariable 31 = .ok (.invokevirtual 470, 3) := by decide +kernel
theorem d_Mo_newVariable_34 : decode b_Mo_newVariable 34 = .ok (.iload_n 1, 1) := by decide +kernel
theorem d_Mo_newVariable_35 : decode b_Mo_newVariable 35 = .ok (.ireturn, 1) := by decide +kernel
theorem kw_461 : Cond.methodLink R_Mo 527 y_Mo_may ∈ wA := kinm (show _ ∈ tables_1 from (List.mem_append_right _ (List.mem_append_right _ (List.mem_append_right _ (List.mem_append_right _ (List.mem_append_right _ (List.mem_append_right _ (List.mem_append_right _ (List.mem_append_right _ (List.mem_append_right _ (List.mem_append_right _ (List.mem_append_left _ (List.mem_of_getElem? (l := tables_1_11) (i := 232) (by decide +kernel)))))))))))))) (by decide +kernel)
theorem kw_462 : Cond.methodLink R_Mo 531 y_Mo_object ∈ wA := kinm (show _ ∈ tables_1 from (List.mem_append_right _ (List.mem_append_right _ (List.mem_append_right _ (List.mem_append_right _ (List.mem_append_right _ (List.mem_append_right _ (List.mem_append_right _ (List.mem_append_right _ (List.mem_append_right _ (List.mem_append_right _ (List.mem_append_right _ (List.mem_append_left _ (List.mem_of_getElem? (l := tables_1_12) (i := 58) (by decide +kernel))))))))))))))) (by decide +kernel)
theorem kw_463 : Cond.instanceMethod y_Mo_newVariable ∈ wA := kinm (show _ ∈ tables_1 from (List.mem_append_right _ (List.mem_append_right _ (List.mem_append_right _ (List.mem_append_right _ (List.mem_append_right _ (List.mem_append_right _ (List.mem_append_right _ (List.mem_append_right _ (List.mem_append_right _ (List.mem_append_right _ (List.mem_append_right _ (List.mem_append_left _ (List.mem_of_getElem? (l := tables_1_12) (i := 79) (by decide +kernel))))))))))))))) (by decide +kernel)
theorem kw_464 : Cond.selects R_Mo y_Mo_newVariable y_Mo_newVariable ∈ wA := kinp 145 (by decide +kernel) (by decide +kernel)
theorem cv_Mo_newVariable : CV y_Mo_newVariable b_Mo_newVariable 2 (some .int) 0 := ⟨kw_463, kw_464, kw_17, k_Mo_newVariable, by decide +kernel⟩
theorem ct_Mo_newVariable {l : Launch} {P : PP} {q : PL} {s s' : S1}  {r : Int32} (h : M_Mo_newVariable s = some (r, s')) : Ct l y_Mo_newVariable b_Mo_newVariable 2 (some .int) 7 154 P q s [.ref (q.1 0 0)] (some (.int r)) q s' := by
  refine ct_of (by decide) (Nat.le_of_ble_eq_true rfl) fun X ls eP el g hR hl => ?_
  subst eP
  have hR : Rt X q ((r, s') : Int32 × S1).2 (some (.int ((r, s') : Int32 × S1).1)) := hR
  have hl : lv_has ls 2 [(0, .ref (q.1 0 0))] := hl
  generalize (r, s') = o at h hR
  unfold M_Mo_newVariable at h
  refine ww_aload_n (pc := 0) g.1 d_Mo_newVariable_0 rfl (lv_at hl 0 rfl) ?_
  refine ww_iconst (pc := 1) g.1 (v := 0) d_Mo_newVariable_1 (by decide) ?_
  obtain ⟨v2, s, hc2, h⟩ := oB_of h
  refine ww_callV (pc := 2) (rest := []) g cv_Mo_may (Or.inl kw_461) cl_Mo (pz rfl (by decide)) (ct_Mo_may hc2) ⟨by decide, by decide⟩ rfl hl.1 (Nat.le_of_ble_eq_true rfl) d_Mo_newVariable_2 rfl ?_
  refine ww_st (st' := [.int v2]) rfl ?_
  refine ww_if_ne (pc := 5) (tgt := 10) g.1 d_Mo_newVariable_5 (by decide) h (fun c h => ?_) (fun c h => ?_)
  · refine ww_aload_n (pc := 10) g.1 d_Mo_newVariable_10 rfl (lv_at hl 0 rfl) ?_
    refine ww_bipush (pc := 11) g.1 (v := 8) d_Mo_newVariable_11 (by decide) ?_
    obtain ⟨v13, s, hc13, h⟩ := oB_of h
    refine ww_callV (pc := 13) (rest := []) g cv_Mo_object (Or.inl kw_462) cl_Mo (pz rfl (by decide)) (ct_Mo_object hc13) ⟨by decide, by decide⟩ rfl hl.1 (Nat.le_of_ble_eq_true rfl) d_Mo_newVariable_13 rfl ?_
    refine ww_st (st' := [.int v13]) rfl ?_
    refine ww_istore_n (pc := 16) (i := 1) g.1 (lv' := [(1, .int v13), (0, .ref (q.1 0 0))]) d_Mo_newVariable_16 rfl hl (by decide) rfl fun ls hl => ?_
    refine ww_aload_n (pc := 17) g.1 d_Mo_newVariable_17 rfl (lv_at hl 1 rfl) ?_
    refine ww_gR (pc := 18) g (k := 49) cl_Mo (pz rfl (by decide)) (by decide) (Or.inl kw_87) (f := 49) (t := 62) rfl rfl rfl d_Mo_newVariable_18 ?_
    refine ww_iload_n (pc := 21) g.1 d_Mo_newVariable_21 rfl (lv_at hl 0 rfl) ?_
    refine ww_iconst (pc := 22) g.1 (v := (-1)) d_Mo_newVariable_22 (by decide) ?_
    refine ww_si (pc := 23) g (pz rfl (by decide)) rfl rfl d_Mo_newVariable_23 h fun s hs h => ?_
    refine ww_aload_n (pc := 24) g.1 d_Mo_newVariable_24 rfl (lv_at hl 1 rfl) ?_
    refine ww_gR (pc := 25) g (k := 63) cl_Mo (pz rfl (by decide)) (by decide) (Or.inl kw_95) (f := 63) (t := 4) rfl rfl rfl d_Mo_newVariable_25 ?_
    refine ww_iload_n (pc := 28) g.1 d_Mo_newVariable_28 rfl (lv_at hl 0 rfl) ?_
    refine ww_iconst (pc := 29) g.1 (v := 0) d_Mo_newVariable_29 (by decide) ?_
    refine ww_lconst (pc := 30) g.1 (v := 0) d_Mo_newVariable_30 (by decide) ?_
    obtain ⟨v31, s, hc31, h⟩ := oB_of h
    refine ww_callV (pc := 31) (rest := []) g cv_Va_set (Or.inl kw_99) (cl_Va (Or.inl ⟨by decide, rfl⟩)) (pz rfl (by decide)) (ct_Va_set (Or.inl ⟨by decide, rfl⟩) hc31) ⟨by decide, by decide⟩ rfl hl.1 (Nat.le_of_ble_eq_true rfl) d_Mo_newVariable_31 rfl ?_
    refine ww_st (st' := []) rfl ?_
    refine ww_iload_n (pc := 34) g.1 d_Mo_newVariable_34 rfl (lv_at hl 0 rfl) ?_
    exact ww_iretH (pc := 35) g h hR d_Mo_newVariable_35
  · refine ww_iconst (pc := 8) g.1 (v := (-1)) d_Mo_newVariable_8 (by decide) ?_
    exact ww_iretH (pc := 9) g h hR d_Mo_newVariable_9

abbrev b_Mo_put : ByteArray := prog_14_method_37_code
def y_Mo_put : MethodName := ⟨R_Mo, "put", "(IIJIJ)Z"⟩
abbrev w_Mo_put : List Cond := .code y_Mo_put b_Mo_put 11 (some .boolean) :: wA
set_option maxRecDepth 20000 in
theorem k_Mo_put : Cond.code y_Mo_put b_Mo_put 11 (some .boolean) ∈ wA := kinm (show _ ∈ tables_1 from (List.mem_append_right _ (List.mem_append_right _ (List.mem_append_right _ (List.mem_append_right _ (List.mem_append_right _ (List.mem_append_right _ (List.mem_append_right _ (List.mem_append_right _ (List.mem_append_right _ (List.mem_append_right _ (List.mem_append_right _ (List.mem_append_left _ (List.mem_of_getElem? (l := tables_1_12) (i := 84) rfl)))))))))))))) rfl
theorem d_Mo_put_0 : decode b_Mo_put 0 = .ok (.iload_n 2, 1) := by decide +kernel
theorem d_Mo_put_1 : decode b_Mo_put 1 = .ok (.ifCond .ne 12, 3) := by decide +kernel
theorem d_Mo_put_4 : decode b_Mo_put 4 = .ok (.aload_n 0, 1) := by decide +kernel
theorem d_Mo_put_5 : decode b_Mo_put 5 = .ok (.bipush 6, 2) := by decide +kernel
theorem d_Mo_put_7 : decode b_Mo_put 7 = .ok (.invokevirtual 517, 3) := by decide +kernel
theorem d_Mo_put_10 : decode b_Mo_put 10 = .ok (.pop, 1) := by decide +kernel
theorem d_Mo_put_11 : decode b_Mo_put 11 = .ok (.iconst 0, 1) := by decide +kernel
theorem d_Mo_put_12 : decode b_Mo_put 12 = .ok (.ireturn, 1) := by decide +kernel
theorem d_Mo_put_13 : decode b_Mo_put 13 = .ok (.aload_n 0, 1) := by decide +kernel
theorem d_Mo_put_14 : decode b_Mo_put 14 = .ok (.iload_n 1, 1) := by decide +kernel
theorem d_Mo_put_15 : decode b_Mo_put 15 = .ok (.iload_n 2, 1) := by decide +kernel
theorem d_Mo_put_16 : decode b_Mo_put 16 = .ok (.lload_n 3, 1) := by decide +kernel
theorem d_Mo_put_17 : decode b_Mo_put 17 = .ok (.invokevirtual 552, 3) := by decide +kernel
theorem d_Mo_put_20 : decode b_Mo_put 20 = .ok (.istore 8, 2) := by decide +kernel
theorem d_Mo_put_22 : decode b_Mo_put 22 = .ok (.iload 8, 2) := by decide +kernel
theorem d_Mo_put_24 : decode b_Mo_put 24 = .ok (.ifCond .lt 24, 3) := by decide +kernel
theorem d_Mo_put_27 : decode b_Mo_put 27 = .ok (.aload_n 0, 1) := by decide +kernel
theorem d_Mo_put_28 : decode b_Mo_put 28 = .ok (.getfield 196, 3) := by decide +kernel
theorem d_Mo_put_31 : decode b_Mo_put 31 = .ok (.iload 8, 2) := by decide +kernel
theorem d_Mo_put_33 : decode b_Mo_put 33 = .ok (.iload 5, 2) := by decide +kernel
theorem d_Mo_put_35 : decode b_Mo_put 35 = .ok (.i2b, 1) := by decide +kernel
theorem d_Mo_put_36 : decode b_Mo_put 36 = .ok (.bastore, 1) := by decide +kernel
theorem d_Mo_put_37 : decode b_Mo_put 37 = .ok (.aload_n 0, 1) := by decide +kernel
theorem d_Mo_put_38 : decode b_Mo_put 38 = .ok (.getfield 203, 3) := by decide +kernel
theorem d_Mo_put_41 : decode b_Mo_put 41 = .ok (.iload 8, 2) := by decide +kernel
theorem d_Mo_put_43 : decode b_Mo_put 43 = .ok (.lload 6, 2) := by decide +kernel
theorem d_Mo_put_45 : decode b_Mo_put 45 = .ok (.lastore, 1) := by decide +kernel
theorem d_Mo_put_46 : decode b_Mo_put 46 = .ok (.iconst 1, 1) := by decide +kernel
theorem d_Mo_put_47 : decode b_Mo_put 47 = .ok (.ireturn, 1) := by decide +kernel
theorem d_Mo_put_48 : decode b_Mo_put 48 = .ok (.iload 5, 2) := by decide +kernel
theorem d_Mo_put_50 : decode b_Mo_put 50 = .ok (.ifCond .ne 5, 3) := by decide +kernel
theorem d_Mo_put_53 : decode b_Mo_put 53 = .ok (.iconst 1, 1) := by decide +kernel
theorem d_Mo_put_54 : decode b_Mo_put 54 = .ok (.ireturn, 1) := by decide +kernel
theorem d_Mo_put_55 : decode b_Mo_put 55 = .ok (.aload_n 0, 1) := by decide +kernel
theorem d_Mo_put_56 : decode b_Mo_put 56 = .ok (.getfield 174, 3) := by decide +kernel
theorem d_Mo_put_59 : decode b_Mo_put 59 = .ok (.iload_n 1, 1) := by decide +kernel
theorem d_Mo_put_60 : decode b_Mo_put 60 = .ok (.iaload, 1) := by decide +kernel
theorem d_Mo_put_61 : decode b_Mo_put 61 = .ok (.aload_n 0, 1) := by decide +kernel
theorem d_Mo_put_62 : decode b_Mo_put 62 = .ok (.getfield 171, 3) := by decide +kernel
theorem d_Mo_put_65 : decode b_Mo_put 65 = .ok (.iload_n 1, 1) := by decide +kernel
theorem d_Mo_put_66 : decode b_Mo_put 66 = .ok (.iaload, 1) := by decide +kernel
theorem d_Mo_put_67 : decode b_Mo_put 67 = .ok (.if_icmp .ne 125, 3) := by decide +kernel
theorem d_Mo_put_70 : decode b_Mo_put 70 = .ok (.aload_n 0, 1) := by decide +kernel
theorem d_Mo_put_71 : decode b_Mo_put 71 = .ok (.getfield 171, 3) := by decide +kernel
theorem d_Mo_put_74 : decode b_Mo_put 74 = .ok (.iload_n 1, 1) := by decide +kernel
theorem d_Mo_put_75 : decode b_Mo_put 75 = .ok (.iaload, 1) := by decide +kernel
theorem d_Mo_put_76 : decode b_Mo_put 76 = .ok (.ifCond .le 20, 3) := by decide +kernel
theorem d_Mo_put_79 : decode b_Mo_put 79 = .ok (.aload_n 0, 1) := by decide +kernel
theorem d_Mo_put_80 : decode b_Mo_put 80 = .ok (.iload_n 1, 1) := by decide +kernel
theorem d_Mo_put_81 : decode b_Mo_put 81 = .ok (.aload_n 0, 1) := by decide +kernel
theorem d_Mo_put_82 : decode b_Mo_put 82 = .ok (.getfield 168, 3) := by decide +kernel
theorem d_Mo_put_85 : decode b_Mo_put 85 = .ok (.iload_n 1, 1) := by decide +kernel
theorem d_Mo_put_86 : decode b_Mo_put 86 = .ok (.iaload, 1) := by decide +kernel
theorem d_Mo_put_87 : decode b_Mo_put 87 = .ok (.aload_n 0, 1) := by decide +kernel
theorem d_Mo_put_88 : decode b_Mo_put 88 = .ok (.getfield 171, 3) := by decide +kernel
theorem d_Mo_put_91 : decode b_Mo_put 91 = .ok (.iload_n 1, 1) := by decide +kernel
theorem d_Mo_put_92 : decode b_Mo_put 92 = .ok (.iaload, 1) := by decide +kernel
theorem d_Mo_put_93 : decode b_Mo_put 93 = .ok (.invokevirtual 565, 3) := by decide +kernel
theorem d_Mo_put_96 : decode b_Mo_put 96 = .ok (.aload_n 0, 1) := by decide +kernel
theorem d_Mo_put_97 : decode b_Mo_put 97 = .ok (.getfield 234, 3) := by decide +kernel
theorem d_Mo_put_100 : decode b_Mo_put 100 = .ok (.getfield 569, 3) := by decide +kernel
theorem d_Mo_put_103 : decode b_Mo_put 103 = .ok (.istore 9, 2) := by decide +kernel
theorem d_Mo_put_105 : decode b_Mo_put 105 = .ok (.aload_n 0, 1) := by decide +kernel
theorem d_Mo_put_106 : decode b_Mo_put 106 = .ok (.getfield 234, 3) := by decide +kernel
theorem d_Mo_put_109 : decode b_Mo_put 109 = .ok (.iconst 5, 1) := by decide +kernel
theorem d_Mo_put_110 : decode b_Mo_put 110 = .ok (.iload_n 1, 1) := by decide +kernel
theorem d_Mo_put_111 : decode b_Mo_put 111 = .ok (.i2l, 1) := by decide +kernel
theorem d_Mo_put_112 : decode b_Mo_put 112 = .ok (.invokevirtual 572, 3) := by decide +kernel
theorem d_Mo_put_115 : decode b_Mo_put 115 = .ok (.aload_n 0, 1) := by decide +kernel
theorem d_Mo_put_116 : decode b_Mo_put 116 = .ok (.getfield 234, 3) := by decide +kernel
theorem d_Mo_put_119 : decode b_Mo_put 119 = .ok (.iload_n 2, 1) := by decide +kernel
theorem d_Mo_put_120 : decode b_Mo_put 120 = .ok (.lload_n 3, 1) := by decide +kernel
theorem d_Mo_put_121 : decode b_Mo_put 121 = .ok (.invokevirtual 572, 3) := by decide +kernel
theorem d_Mo_put_124 : decode b_Mo_put 124 = .ok (.aload_n 0, 1) := by decide +kernel
theorem d_Mo_put_125 : decode b_Mo_put 125 = .ok (.getfield 234, 3) := by decide +kernel
theorem d_Mo_put_128 : decode b_Mo_put 128 = .ok (.iload 5, 2) := by decide +kernel
theorem d_Mo_put_130 : decode b_Mo_put 130 = .ok (.lload 6, 2) := by decide +kernel
theorem d_Mo_put_132 : decode b_Mo_put 132 = .ok (.invokevirtual 572, 3) := by decide +kernel
theorem d_Mo_put_135 : decode b_Mo_put 135 = .ok (.iconst 2, 1) := by decide +kernel
theorem d_Mo_put_136 : decode b_Mo_put 136 = .ok (.aload_n 0, 1) := by decide +kernel
theorem d_Mo_put_137 : decode b_Mo_put 137 = .ok (.getfield 174, 3) := by decide +kernel
theorem d_Mo_put_140 : decode b_Mo_put 140 = .ok (.iload_n 1, 1) := by decide +kernel
theorem d_Mo_put_141 : decode b_Mo_put 141 = .ok (.iaload, 1) := by decide +kernel
theorem d_Mo_put_142 : decode b_Mo_put 142 = .ok (.imul, 1) := by decide +kernel
theorem d_Mo_put_143 : decode b_Mo_put 143 = .ok (.aload_n 0, 1) := by decide +kernel
theorem d_Mo_put_144 : decode b_Mo_put 144 = .ok (.getfield 171, 3) := by decide +kernel
theorem d_Mo_put_147 : decode b_Mo_put 147 = .ok (.iload_n 1, 1) := by decide +kernel
theorem d_Mo_put_148 : decode b_Mo_put 148 = .ok (.iaload, 1) := by decide +kernel
theorem d_Mo_put_149 : decode b_Mo_put 149 = .ok (.if_icmp .gt 12, 3) := by decide +kernel
theorem d_Mo_put_152 : decode b_Mo_put 152 = .ok (.aload_n 0, 1) := by decide +kernel
theorem d_Mo_put_153 : decode b_Mo_put 153 = .ok (.getfield 171, 3) := by decide +kernel
theorem d_Mo_put_156 : decode b_Mo_put 156 = .ok (.iload_n 1, 1) := by decide +kernel
theorem d_Mo_put_157 : decode b_Mo_put 157 = .ok (.iaload, 1) := by decide +kernel
theorem d_Mo_put_158 : decode b_Mo_put 158 = .ok (.ifCond .gt 11, 3) := by decide +kernel
theorem d_Mo_put_161 : decode b_Mo_put 161 = .ok (.aload_n 0, 1) := by decide +kernel
theorem d_Mo_put_162 : decode b_Mo_put 162 = .ok (.iload_n 1, 1) := by decide +kernel
theorem d_Mo_put_163 : decode b_Mo_put 163 = .ok (.invokevirtual 576, 3) := by decide +kernel
theorem d_Mo_put_166 : decode b_Mo_put 166 = .ok (.ifCond .eq 7, 3) := by decide +kernel
theorem d_Mo_put_169 : decode b_Mo_put 169 = .ok (.iconst 1, 1) := by decide +kernel
theorem d_Mo_put_170 : decode b_Mo_put 170 = .ok (.goto 4, 3) := by decide +kernel
theorem d_Mo_put_173 : decode b_Mo_put 173 = .ok (.iconst 0, 1) := by decide +kernel
theorem d_Mo_put_174 : decode b_Mo_put 174 = .ok (.istore 10, 2) := by decide +kernel
theorem d_Mo_put_176 : decode b_Mo_put 176 = .ok (.aload_n 0, 1) := by decide +kernel
theorem d_Mo_put_177 : decode b_Mo_put 177 = .ok (.getfield 234, 3) := by decide +kernel
theorem d_Mo_put_180 : decode b_Mo_put 180 = .ok (.iload 9, 2) := by decide +kernel
theorem d_Mo_put_182 : decode b_Mo_put 182 = .ok (.putfield 569, 3) := by decide +kernel
theorem d_Mo_put_185 : decode b_Mo_put 185 = .ok (.iload 10, 2) := by decide +kernel
theorem d_Mo_put_187 : decode b_Mo_put 187 = .ok (.ifCond .ne 5, 3) := by decide +kernel
theorem d_Mo_put_190 : decode b_Mo_put 190 = .ok (.iconst 0, 1) := by decide +kernel
theorem d_Mo_put_191 : decode b_Mo_put 191 = .ok (.ireturn, 1) := by decide +kernel
theorem d_Mo_put_192 : decode b_Mo_put 192 = .ok (.aload_n 0, 1) := by decide +kernel
theorem d_Mo_put_193 : decode b_Mo_put 193 = .ok (.iload_n 1, 1) := by decide +kernel
theorem d_Mo_put_194 : decode b_Mo_put 194 = .ok (.iload_n 2, 1) := by decide +kernel
theorem d_Mo_put_195 : decode b_Mo_put 195 = .ok (.lload_n 3, 1) := by decide +kernel
theorem d_Mo_put_196 : decode b_Mo_put 196 = .ok (.iload 5, 2) := by decide +kernel
theorem d_Mo_put_198 : decode b_Mo_put 198 = .ok (.lload 6, 2) := by decide +kernel
theorem d_Mo_put_200 : decode b_Mo_put 200 = .ok (.invokevirtual 561, 3) := by decide +kernel
theorem d_Mo_put_203 : decode b_Mo_put 203 = .ok (.iconst 1, 1) := by decide +kernel
theorem d_Mo_put_204 : decode b_Mo_put 204 = .ok (.ireturn, 1) := by decide +kernel
theorem kw_465 : Cond.methodLink R_Mo 576 y_Mo_grow ∈ wA := kinm (show _ ∈ tables_1 from (List.mem_append_right _ (List.mem_append_right _ (List.mem_append_right _ (List.mem_append_right _ (List.mem_append_right _ (List.mem_append_right _ (List.mem_append_right _ (List.mem_append_right _ (List.mem_append_right _ (List.mem_append_right _ (List.mem_append_right _ (List.mem_append_left _ (List.mem_of_getElem? (l := tables_1_12) (i := 108) (by decide +kernel))))))))))))))) (by decide +kernel)
theorem kw_466 : Cond.instanceMethod y_Mo_put ∈ wA := kinm (show _ ∈ tables_1 from (List.mem_append_right _ (List.mem_append_right _ (List.mem_append_right _ (List.mem_append_right _ (List.mem_append_right _ (List.mem_append_right _ (List.mem_append_right _ (List.mem_append_right _ (List.mem_append_right _ (List.mem_append_right _ (List.mem_append_right _ (List.mem_append_left _ (List.mem_of_getElem? (l := tables_1_12) (i := 83) (by decide +kernel))))))))))))))) (by decide +kernel)
theorem kw_467 : Cond.selects R_Mo y_Mo_put y_Mo_put ∈ wA := kinp 146 (by decide +kernel) (by decide +kernel)
theorem cv_Mo_put : CV y_Mo_put b_Mo_put 11 (some .boolean) 5 := ⟨kw_466, kw_467, kw_17, k_Mo_put, by decide +kernel⟩
theorem j_Mo_put_j192 {X : Cx} {q : PL} (g : Gd X y_Mo_put b_Mo_put 11 (some .boolean) 7 156 R_Mo) {o : (Int32) × S1} (hR : Rt X q o.2 (some (.int o.1))) (l1 : Int32) (l2 : Int32) (l3 : Int64) (l5 : Int32) (l6 : Int64) (s : S1) (ls : Array Slot) (hl : lv_has ls 11 [(0, .ref (q.1 0 0)), (1, .int l1), (2, .int l2), (3, .long l3), (5, .int l5), (6, .long l6)]) (h : M_Mo_put_j192 l1 l2 l3 l5 l6 s = some o) : WW X q s 192 ls [] := by
  unfold M_Mo_put_j192 at h
  refine ww_aload_n (pc := 192) g.1 d_Mo_put_192 rfl (lv_at hl 0 rfl) ?_
  refine ww_iload_n (pc := 193) g.1 d_Mo_put_193 rfl (lv_at hl 1 rfl) ?_
  refine ww_iload_n (pc := 194) g.1 d_Mo_put_194 rfl (lv_at hl 2 rfl) ?_
  refine ww_lload_n (pc := 195) g.1 d_Mo_put_195 rfl (lv_at hl 3 rfl) ?_
  refine ww_iload (pc := 196) g.1 d_Mo_put_196 (lv_at hl 4 rfl) ?_
  refine ww_lload (pc := 198) g.1 d_Mo_put_198 (lv_at hl 5 rfl) ?_
  obtain ⟨v200, s, hc200, h⟩ := oB_of h
  refine ww_callV (pc := 200) (rest := []) g cv_Mo_append (Or.inl kw_347) cl_Mo (pz rfl (by decide)) (ct_Mo_append hc200) ⟨by decide, by decide⟩ rfl hl.1 (Nat.le_of_ble_eq_true rfl) d_Mo_put_200 rfl ?_
  refine ww_st (st' := []) rfl ?_
  refine ww_iconst (pc := 203) g.1 (v := 1) d_Mo_put_203 (by decide) ?_
  exact ww_zretH (pc := 204) g h hR (Or.inr rfl) d_Mo_put_204

theorem j_Mo_put_j174 {X : Cx} {q : PL} (g : Gd X y_Mo_put b_Mo_put 11 (some .boolean) 7 156 R_Mo) {o : (Int32) × S1} (hR : Rt X q o.2 (some (.int o.1))) (l1 : Int32) (l2 : Int32) (l3 : Int64) (l5 : Int32) (l6 : Int64) (l9 : Int32) (k0 : Int32) (s : S1) (ls : Array Slot) (hl : lv_has ls 11 [(0, .ref (q.1 0 0)), (1, .int l1), (2, .int l2), (3, .long l3), (5, .int l5), (6, .long l6), (9, .int l9)]) (h : M_Mo_put_j174 l1 l2 l3 l5 l6 l9 k0 s = some o) : WW X q s 174 ls [.int k0] := by
  unfold M_Mo_put_j174 at h
  refine ww_istore (pc := 174) (i := 10) g.1 (lv' := [(10, .int k0), (0, .ref (q.1 0 0)), (1, .int l1), (2, .int l2), (3, .long l3), (5, .int l5), (6, .long l6), (9, .int l9)]) d_Mo_put_174 hl (by decide) rfl fun ls hl => ?_
  refine ww_aload_n (pc := 176) g.1 d_Mo_put_176 rfl (lv_at hl 1 rfl) ?_
  refine ww_gR (pc := 177) g (k := 70) cl_Mo (pz rfl (by decide)) (by decide) (Or.inl kw_441) (f := 70) (t := 16) rfl rfl rfl d_Mo_put_177 ?_
  refine ww_iload (pc := 180) g.1 d_Mo_put_180 (lv_at hl 7 rfl) ?_
  refine ww_pI (pc := 182) g (k := 2) (cl_Va (Or.inl ⟨by decide, rfl⟩)) (pz rfl (by decide)) (by decide) (Or.inl kw_179) rfl (f := 2050) rfl rfl rfl rfl d_Mo_put_182 h fun s hs h => ?_
  refine ww_iload (pc := 185) g.1 d_Mo_put_185 (lv_at hl 0 rfl) ?_
  refine ww_if_ne (pc := 187) (tgt := 192) g.1 d_Mo_put_187 (by decide) h (fun c h => ?_) (fun c h => ?_)
  · exact j_Mo_put_j192 g hR l1 l2 l3 l5 l6 s ls (lv_sub hl [1, 2, 3, 4, 5, 6] rfl) h
  · refine ww_iconst (pc := 190) g.1 (v := 0) d_Mo_put_190 (by decide) ?_
    exact ww_zretH (pc := 191) g h hR (Or.inl rfl) d_Mo_put_191

theorem j_Mo_put_j169 {X : Cx} {q : PL} (g : Gd X y_Mo_put b_Mo_put 11 (some .boolean) 7 156 R_Mo) {o : (Int32) × S1} (hR : Rt X q o.2 (some (.int o.1))) (l1 : Int32) (l2 : Int32) (l3 : Int64) (l5 : Int32) (l6 : Int64) (l9 : Int32) (s : S1) (ls : Array Slot) (hl : lv_has ls 11 [(0, .ref (q.1 0 0)), (1, .int l1), (2, .int l2), (3, .long l3), (5, .int l5), (6, .long l6), (9, .int l9)]) (h : M_Mo_put_j169 l1 l2 l3 l5 l6 l9 s = some o) : WW X q s 169 ls [] := by
  unfold M_Mo_put_j169 at h
  refine ww_iconst (pc := 169) g.1 (v := 1) d_Mo_put_169 (by decide) ?_
  refine ww_goto (pc := 170) (tgt := 174) g.1 d_Mo_put_170 (by decide) ?_
  exact j_Mo_put_j174 g hR l1 l2 l3 l5 l6 l9 1 s ls (lv_sub hl [0, 1, 2, 3, 4, 5, 6] rfl) h

theorem j_Mo_put_j161 {X : Cx} {q : PL} (g : Gd X y_Mo_put b_Mo_put 11 (some .boolean) 7 156 R_Mo) {o : (Int32) × S1} (hR : Rt X q o.2 (some (.int o.1))) (l1 : Int32) (l2 : Int32) (l3 : Int64) (l5 : Int32) (l6 : Int64) (l9 : Int32) (s : S1) (ls : Array Slot) (hl : lv_has ls 11 [(0, .ref (q.1 0 0)), (1, .int l1), (2, .int l2), (3, .long l3), (5, .int l5), (6, .long l6), (9, .int l9)]) (h : M_Mo_put_j161 l1 l2 l3 l5 l6 l9 s = some o) : WW X q s 161 ls [] := by
  unfold M_Mo_put_j161 at h
  refine ww_aload_n (pc := 161) g.1 d_Mo_put_161 rfl (lv_at hl 0 rfl) ?_
  refine ww_iload_n (pc := 162) g.1 d_Mo_put_162 rfl (lv_at hl 1 rfl) ?_
  obtain ⟨v163, s, hc163, h⟩ := oB_of h
  refine ww_callV (pc := 163) (rest := []) g cv_Mo_grow (Or.inl kw_465) cl_Mo (pz rfl (by decide)) (ct_Mo_grow hc163) ⟨by decide, by decide⟩ rfl hl.1 (Nat.le_of_ble_eq_true rfl) d_Mo_put_163 rfl ?_
  refine ww_st (st' := [.int v163]) rfl ?_
  refine ww_if_eq (pc := 166) (tgt := 173) g.1 d_Mo_put_166 (by decide) h (fun c h => ?_) (fun c h => ?_)
  · refine ww_iconst (pc := 173) g.1 (v := 0) d_Mo_put_173 (by decide) ?_
    exact j_Mo_put_j174 g hR l1 l2 l3 l5 l6 l9 0 s ls (lv_sub hl [0, 1, 2, 3, 4, 5, 6] rfl) h
  · exact j_Mo_put_j169 g hR l1 l2 l3 l5 l6 l9 s ls (lv_sub hl [0, 1, 2, 3, 4, 5, 6] rfl) h

theorem j_Mo_put_j96 {X : Cx} {q : PL} (g : Gd X y_Mo_put b_Mo_put 11 (some .boolean) 7 156 R_Mo) {o : (Int32) × S1} (hR : Rt X q o.2 (some (.int o.1))) (l1 : Int32) (l2 : Int32) (l3 : Int64) (l5 : Int32) (l6 : Int64) (s : S1) (ls : Array Slot) (hl : lv_has ls 11 [(0, .ref (q.1 0 0)), (1, .int l1), (2, .int l2), (3, .long l3), (5, .int l5), (6, .long l6)]) (h : M_Mo_put_j96 l1 l2 l3 l5 l6 s = some o) : WW X q s 96 ls [] := by
  unfold M_Mo_put_j96 at h
  refine ww_aload_n (pc := 96) g.1 d_Mo_put_96 rfl (lv_at hl 0 rfl) ?_
  refine ww_gR (pc := 97) g (k := 70) cl_Mo (pz rfl (by decide)) (by decide) (Or.inl kw_441) (f := 70) (t := 16) rfl rfl rfl d_Mo_put_97 ?_
  refine ww_gI (pc := 100) g (k := 2) (cl_Va (Or.inl ⟨by decide, rfl⟩)) (pz rfl (by decide)) (by decide) (Or.inl kw_179) (f := 2050) rfl rfl d_Mo_put_100 h fun v100 h => ?_
  refine ww_istore (pc := 103) (i := 9) g.1 (lv' := [(9, .int v100), (0, .ref (q.1 0 0)), (1, .int l1), (2, .int l2), (3, .long l3), (5, .int l5), (6, .long l6)]) d_Mo_put_103 hl (by decide) rfl fun ls hl => ?_
  refine ww_aload_n (pc := 105) g.1 d_Mo_put_105 rfl (lv_at hl 1 rfl) ?_
  refine ww_gR (pc := 106) g (k := 70) cl_Mo (pz rfl (by decide)) (by decide) (Or.inl kw_441) (f := 70) (t := 16) rfl rfl rfl d_Mo_put_106 ?_
  refine ww_iconst (pc := 109) g.1 (v := 5) d_Mo_put_109 (by decide) ?_
  refine ww_iload_n (pc := 110) g.1 d_Mo_put_110 rfl (lv_at hl 2 rfl) ?_
  refine ww_i2l (pc := 111) g.1 (v := l1.toInt64) d_Mo_put_111 rfl ?_
  obtain ⟨v112, s, hc112, h⟩ := oB_of h
  refine ww_callV (pc := 112) (rest := []) g cv_Va_add (Or.inl kw_187) (cl_Va (Or.inl ⟨by decide, rfl⟩)) (pz rfl (by decide)) (ct_Va_add (Or.inl ⟨by decide, rfl⟩) hc112) ⟨by decide, by decide⟩ rfl hl.1 (Nat.le_of_ble_eq_true rfl) d_Mo_put_112 rfl ?_
  refine ww_st (st' := []) rfl ?_
  refine ww_aload_n (pc := 115) g.1 d_Mo_put_115 rfl (lv_at hl 1 rfl) ?_
  refine ww_gR (pc := 116) g (k := 70) cl_Mo (pz rfl (by decide)) (by decide) (Or.inl kw_441) (f := 70) (t := 16) rfl rfl rfl d_Mo_put_116 ?_
  refine ww_iload_n (pc := 119) g.1 d_Mo_put_119 rfl (lv_at hl 3 rfl) ?_
  refine ww_lload_n (pc := 120) g.1 d_Mo_put_120 rfl (lv_at hl 4 rfl) ?_
  obtain ⟨v121, s, hc121, h⟩ := oB_of h
  refine ww_callV (pc := 121) (rest := []) g cv_Va_add (Or.inl kw_187) (cl_Va (Or.inl ⟨by decide, rfl⟩)) (pz rfl (by decide)) (ct_Va_add (Or.inl ⟨by decide, rfl⟩) hc121) ⟨by decide, by decide⟩ rfl hl.1 (Nat.le_of_ble_eq_true rfl) d_Mo_put_121 rfl ?_
  refine ww_st (st' := []) rfl ?_
  refine ww_aload_n (pc := 124) g.1 d_Mo_put_124 rfl (lv_at hl 1 rfl) ?_
  refine ww_gR (pc := 125) g (k := 70) cl_Mo (pz rfl (by decide)) (by decide) (Or.inl kw_441) (f := 70) (t := 16) rfl rfl rfl d_Mo_put_125 ?_
  refine ww_iload (pc := 128) g.1 d_Mo_put_128 (lv_at hl 5 rfl) ?_
  refine ww_lload (pc := 130) g.1 d_Mo_put_130 (lv_at hl 6 rfl) ?_
  obtain ⟨v132, s, hc132, h⟩ := oB_of h
  refine ww_callV (pc := 132) (rest := []) g cv_Va_add (Or.inl kw_187) (cl_Va (Or.inl ⟨by decide, rfl⟩)) (pz rfl (by decide)) (ct_Va_add (Or.inl ⟨by decide, rfl⟩) hc132) ⟨by decide, by decide⟩ rfl hl.1 (Nat.le_of_ble_eq_true rfl) d_Mo_put_132 rfl ?_
  refine ww_st (st' := []) rfl ?_
  refine ww_iconst (pc := 135) g.1 (v := 2) d_Mo_put_135 (by decide) ?_
  refine ww_aload_n (pc := 136) g.1 d_Mo_put_136 rfl (lv_at hl 1 rfl) ?_
  refine ww_gR (pc := 137) g (k := 51) cl_Mo (pz rfl (by decide)) (by decide) (Or.inl kw_123) (f := 51) (t := 64) rfl rfl rfl d_Mo_put_137 ?_
  refine ww_iload_n (pc := 140) g.1 d_Mo_put_140 rfl (lv_at hl 2 rfl) ?_
  refine ww_ai (pc := 141) g (pz rfl (by decide)) rfl rfl d_Mo_put_141 h fun v141 h => ?_
  refine ww_imul (pc := 142) g.1 d_Mo_put_142 ?_
  refine ww_aload_n (pc := 143) g.1 d_Mo_put_143 rfl (lv_at hl 1 rfl) ?_
  refine ww_gR (pc := 144) g (k := 50) cl_Mo (pz rfl (by decide)) (by decide) (Or.inl kw_91) (f := 50) (t := 63) rfl rfl rfl d_Mo_put_144 ?_
  refine ww_iload_n (pc := 147) g.1 d_Mo_put_147 rfl (lv_at hl 2 rfl) ?_
  refine ww_ai (pc := 148) g (pz rfl (by decide)) rfl rfl d_Mo_put_148 h fun v148 h => ?_
  refine ww_icmp_gt (pc := 149) (tgt := 161) g.1 d_Mo_put_149 (by decide) h (fun c h => ?_) (fun c h => ?_)
  · exact j_Mo_put_j161 g hR l1 l2 l3 l5 l6 v100 s ls (lv_sub hl [1, 2, 3, 4, 5, 6, 0] rfl) h
  · refine ww_aload_n (pc := 152) g.1 d_Mo_put_152 rfl (lv_at hl 1 rfl) ?_
    refine ww_gR (pc := 153) g (k := 50) cl_Mo (pz rfl (by decide)) (by decide) (Or.inl kw_91) (f := 50) (t := 63) rfl rfl rfl d_Mo_put_153 ?_
    refine ww_iload_n (pc := 156) g.1 d_Mo_put_156 rfl (lv_at hl 2 rfl) ?_
    refine ww_ai (pc := 157) g (pz rfl (by decide)) rfl rfl d_Mo_put_157 h fun v157 h => ?_
    refine ww_if_gt (pc := 158) (tgt := 169) g.1 d_Mo_put_158 (by decide) h (fun c h => ?_) (fun c h => ?_)
    · exact j_Mo_put_j169 g hR l1 l2 l3 l5 l6 v100 s ls (lv_sub hl [1, 2, 3, 4, 5, 6, 0] rfl) h
    · exact j_Mo_put_j161 g hR l1 l2 l3 l5 l6 v100 s ls (lv_sub hl [1, 2, 3, 4, 5, 6, 0] rfl) h

theorem ct_Mo_put {l : Launch} {P : PP} {q : PL} {s s' : S1} {l1 : Int32} {l2 : Int32} {l3 : Int64} {l5 : Int32} {l6 : Int64} {r : Int32} (h : M_Mo_put l1 l2 l3 l5 l6 s = some (r, s')) : Ct l y_Mo_put b_Mo_put 11 (some .boolean) 7 156 P q s [.ref (q.1 0 0), .int l1, .int l2, .long l3, .int l5, .long l6] (some (.int r)) q s' := by
  refine ct_of (by decide) (Nat.le_of_ble_eq_true rfl) fun X ls eP el g hR hl => ?_
  subst eP
  have hR : Rt X q ((r, s') : Int32 × S1).2 (some (.int ((r, s') : Int32 × S1).1)) := hR
  have hl : lv_has ls 11 [(0, .ref (q.1 0 0)), (1, .int l1), (2, .int l2), (3, .long l3), (5, .int l5), (6, .long l6)] := hl
  generalize (r, s') = o at h hR
  unfold M_Mo_put at h
  refine ww_iload_n (pc := 0) g.1 d_Mo_put_0 rfl (lv_at hl 2 rfl) ?_
  refine ww_if_ne (pc := 1) (tgt := 13) g.1 d_Mo_put_1 (by decide) h (fun c h => ?_) (fun c h => ?_)
  · refine ww_aload_n (pc := 13) g.1 d_Mo_put_13 rfl (lv_at hl 0 rfl) ?_
    refine ww_iload_n (pc := 14) g.1 d_Mo_put_14 rfl (lv_at hl 1 rfl) ?_
    refine ww_iload_n (pc := 15) g.1 d_Mo_put_15 rfl (lv_at hl 2 rfl) ?_
    refine ww_lload_n (pc := 16) g.1 d_Mo_put_16 rfl (lv_at hl 3 rfl) ?_
    obtain ⟨v17, s, hc17, h⟩ := oB_of h
    refine ww_callV (pc := 17) (rest := []) g cv_Mo_entry (Or.inl kw_352) cl_Mo (pz rfl (by decide)) (ct_Mo_entry hc17) ⟨by decide, by decide⟩ rfl hl.1 (Nat.le_of_ble_eq_true rfl) d_Mo_put_17 rfl ?_
    refine ww_st (st' := [.int v17]) rfl ?_
    refine ww_istore (pc := 20) (i := 8) g.1 (lv' := [(8, .int v17), (0, .ref (q.1 0 0)), (1, .int l1), (2, .int l2), (3, .long l3), (5, .int l5), (6, .long l6)]) d_Mo_put_20 hl (by decide) rfl fun ls hl => ?_
    refine ww_iload (pc := 22) g.1 d_Mo_put_22 (lv_at hl 0 rfl) ?_
    refine ww_if_lt (pc := 24) (tgt := 48) g.1 d_Mo_put_24 (by decide) h (fun c h => ?_) (fun c h => ?_)
    · refine ww_iload (pc := 48) g.1 d_Mo_put_48 (lv_at hl 5 rfl) ?_
      refine ww_if_ne (pc := 50) (tgt := 55) g.1 d_Mo_put_50 (by decide) h (fun c h => ?_) (fun c h => ?_)
      · refine ww_aload_n (pc := 55) g.1 d_Mo_put_55 rfl (lv_at hl 1 rfl) ?_
        refine ww_gR (pc := 56) g (k := 51) cl_Mo (pz rfl (by decide)) (by decide) (Or.inl kw_123) (f := 51) (t := 64) rfl rfl rfl d_Mo_put_56 ?_
        refine ww_iload_n (pc := 59) g.1 d_Mo_put_59 rfl (lv_at hl 2 rfl) ?_
        refine ww_ai (pc := 60) g (pz rfl (by decide)) rfl rfl d_Mo_put_60 h fun v60 h => ?_
        refine ww_aload_n (pc := 61) g.1 d_Mo_put_61 rfl (lv_at hl 1 rfl) ?_
        refine ww_gR (pc := 62) g (k := 50) cl_Mo (pz rfl (by decide)) (by decide) (Or.inl kw_91) (f := 50) (t := 63) rfl rfl rfl d_Mo_put_62 ?_
        refine ww_iload_n (pc := 65) g.1 d_Mo_put_65 rfl (lv_at hl 2 rfl) ?_
        refine ww_ai (pc := 66) g (pz rfl (by decide)) rfl rfl d_Mo_put_66 h fun v66 h => ?_
        refine ww_icmp_ne (pc := 67) (tgt := 192) g.1 d_Mo_put_67 (by decide) h (fun c h => ?_) (fun c h => ?_)
        · exact j_Mo_put_j192 g hR l1 l2 l3 l5 l6 s ls (lv_sub hl [1, 2, 3, 4, 5, 6] rfl) h
        · refine ww_aload_n (pc := 70) g.1 d_Mo_put_70 rfl (lv_at hl 1 rfl) ?_
          refine ww_gR (pc := 71) g (k := 50) cl_Mo (pz rfl (by decide)) (by decide) (Or.inl kw_91) (f := 50) (t := 63) rfl rfl rfl d_Mo_put_71 ?_
          refine ww_iload_n (pc := 74) g.1 d_Mo_put_74 rfl (lv_at hl 2 rfl) ?_
          refine ww_ai (pc := 75) g (pz rfl (by decide)) rfl rfl d_Mo_put_75 h fun v75 h => ?_
          refine ww_if_le (pc := 76) (tgt := 96) g.1 d_Mo_put_76 (by decide) h (fun c h => ?_) (fun c h => ?_)
          · exact j_Mo_put_j96 g hR l1 l2 l3 l5 l6 s ls (lv_sub hl [1, 2, 3, 4, 5, 6] rfl) h
          · refine ww_aload_n (pc := 79) g.1 d_Mo_put_79 rfl (lv_at hl 1 rfl) ?_
            refine ww_iload_n (pc := 80) g.1 d_Mo_put_80 rfl (lv_at hl 2 rfl) ?_
            refine ww_aload_n (pc := 81) g.1 d_Mo_put_81 rfl (lv_at hl 1 rfl) ?_
            refine ww_gR (pc := 82) g (k := 49) cl_Mo (pz rfl (by decide)) (by decide) (Or.inl kw_87) (f := 49) (t := 62) rfl rfl rfl d_Mo_put_82 ?_
            refine ww_iload_n (pc := 85) g.1 d_Mo_put_85 rfl (lv_at hl 2 rfl) ?_
            refine ww_ai (pc := 86) g (pz rfl (by decide)) rfl rfl d_Mo_put_86 h fun v86 h => ?_
            refine ww_aload_n (pc := 87) g.1 d_Mo_put_87 rfl (lv_at hl 1 rfl) ?_
            refine ww_gR (pc := 88) g (k := 50) cl_Mo (pz rfl (by decide)) (by decide) (Or.inl kw_91) (f := 50) (t := 63) rfl rfl rfl d_Mo_put_88 ?_
            refine ww_iload_n (pc := 91) g.1 d_Mo_put_91 rfl (lv_at hl 2 rfl) ?_
            refine ww_ai (pc := 92) g (pz rfl (by decide)) rfl rfl d_Mo_put_92 h fun v92 h => ?_
            obtain ⟨v93, s, hc93, h⟩ := oB_of h
            refine ww_callV (pc := 93) (rest := []) g cv_Mo_move (Or.inl kw_451) cl_Mo (pz rfl (by decide)) (ct_Mo_move hc93) ⟨by decide, by decide⟩ rfl hl.1 (Nat.le_of_ble_eq_true rfl) d_Mo_put_93 rfl ?_
            refine ww_st (st' := []) rfl ?_
            exact j_Mo_put_j96 g hR l1 l2 l3 l5 l6 s ls (lv_sub hl [1, 2, 3, 4, 5, 6] rfl) h
      · refine ww_iconst (pc := 53) g.1 (v := 1) d_Mo_put_53 (by decide) ?_
        exact ww_zretH (pc := 54) g h hR (Or.inr rfl) d_Mo_put_54
    · refine ww_aload_n (pc := 27) g.1 d_Mo_put_27 rfl (lv_at hl 1 rfl) ?_
      refine ww_g5 (pc := 28) g (k := 58) cl_Mo (pz rfl (by decide)) (by decide) (Or.inl kw_126) (f := 58) (t := 70) (f2 := 9087) rfl rfl rfl rfl d_Mo_put_28 h fun v28 hv28 h => ?_
      refine ww_ok h fun cv28 h => ?_
      refine ww_dn cv28 ?_
      have pd28 : prs s 70 0 := pd (f := 9087) rfl (by decide) hv28 cv28
      refine ww_iload (pc := 31) g.1 d_Mo_put_31 (lv_at hl 0 rfl) ?_
      refine ww_iload (pc := 33) g.1 d_Mo_put_33 (lv_at hl 5 rfl) ?_
      refine ww_i2b (pc := 35) g.1 (v := l5.toInt8.toInt32) d_Mo_put_35 rfl ?_
      refine ww_sb (pc := 36) g pd28 rfl rfl d_Mo_put_36 h fun s hs h => ?_
      refine ww_aload_n (pc := 37) g.1 d_Mo_put_37 rfl (lv_at hl 1 rfl) ?_
      refine ww_g5 (pc := 38) g (k := 60) cl_Mo (pz rfl (by decide)) (by decide) (Or.inl kw_127) (f := 60) (t := 72) (f2 := 9343) rfl rfl rfl rfl d_Mo_put_38 h fun v38 hv38 h => ?_
      refine ww_ok h fun cv38 h => ?_
      refine ww_dn cv38 ?_
      have pd38 : prs s 72 0 := pd (f := 9343) rfl (by decide) hv38 cv38
      refine ww_iload (pc := 41) g.1 d_Mo_put_41 (lv_at hl 0 rfl) ?_
      refine ww_lload (pc := 43) g.1 d_Mo_put_43 (lv_at hl 6 rfl) ?_
      refine ww_sl (pc := 45) g pd38 rfl rfl d_Mo_put_45 h fun s hs h => ?_
      refine ww_iconst (pc := 46) g.1 (v := 1) d_Mo_put_46 (by decide) ?_
      exact ww_zretH (pc := 47) g h hR (Or.inr rfl) d_Mo_put_47
  · refine ww_aload_n (pc := 4) g.1 d_Mo_put_4 rfl (lv_at hl 0 rfl) ?_
    refine ww_bipush (pc := 5) g.1 (v := 6) d_Mo_put_5 (by decide) ?_
    obtain ⟨v7, s, hc7, h⟩ := oB_of h
    refine ww_callV (pc := 7) (rest := []) g cv_Mo_raise (Or.inl kw_157) cl_Mo (pz rfl (by decide)) (ct_Mo_raise hc7) ⟨by decide, by decide⟩ rfl hl.1 (Nat.le_of_ble_eq_true rfl) d_Mo_put_7 rfl ?_
    refine ww_st (st' := [.int v7]) rfl ?_
    refine ww_pop (pc := 10) g.1 d_Mo_put_10 rfl ?_
    refine ww_iconst (pc := 11) g.1 (v := 0) d_Mo_put_11 (by decide) ?_
    exact ww_zretH (pc := 12) g h hR (Or.inl rfl) d_Mo_put_12

abbrev b_Mo_closure : ByteArray := prog_14_method_54_code
def y_Mo_closure : MethodName := ⟨R_Mo, "closure", "(III)I"⟩
abbrev w_Mo_closure : List Cond := .code y_Mo_closure b_Mo_closure 6 (some .int) :: wA
theorem k_Mo_closure : Cond.code y_Mo_closure b_Mo_closure 6 (some .int) ∈ wA := kinm (show _ ∈ tables_1 from (List.mem_append_right _ (List.mem_append_right _ (List.mem_append_right _ (List.mem_append_right _ (List.mem_append_right _ (List.mem_append_right _ (List.mem_append_right _ (List.mem_append_right _ (List.mem_append_right _ (List.mem_append_right _ (List.mem_append_right _ (List.mem_append_left _ (List.mem_of_getElem? (l := tables_1_12) (i := 116) (by decide +kernel))))))))))))))) (by decide +kernel)
theorem d_Mo_closure_0 : decode b_Mo_closure 0 = .ok (.aload_n 0, 1) := by decide +kernel
theorem d_Mo_closure_1 : decode b_Mo_closure 1 = .ok (.getfield 149, 3) := by decide +kernel
theorem d_Mo_closure_4 : decode b_Mo_closure 4 = .ok (.iload_n 3, 1) := by decide +kernel
theorem d_Mo_closure_5 : decode b_Mo_closure 5 = .ok (.iadd, 1) := by decide +kernel
theorem d_Mo_closure_6 : decode b_Mo_closure 6 = .ok (.ldc_w 579, 3) := by decide +kernel
theorem d_Mo_closure_9 : decode b_Mo_closure 9 = .ok (.if_icmp .le 10, 3) := by decide +kernel
theorem d_Mo_closure_12 : decode b_Mo_closure 12 = .ok (.aload_n 0, 1) := by decide +kernel
theorem d_Mo_closure_13 : decode b_Mo_closure 13 = .ok (.bipush 11, 2) := by decide +kernel
theorem d_Mo_closure_15 : decode b_Mo_closure 15 = .ok (.invokevirtual 517, 3) := by decide +kernel
theorem d_Mo_closure_18 : decode b_Mo_closure 18 = .ok (.ireturn, 1) := by decide +kernel
theorem d_Mo_closure_19 : decode b_Mo_closure 19 = .ok (.aload_n 0, 1) := by decide +kernel
theorem d_Mo_closure_20 : decode b_Mo_closure 20 = .ok (.iconst 0, 1) := by decide +kernel
theorem d_Mo_closure_21 : decode b_Mo_closure 21 = .ok (.invokevirtual 527, 3) := by decide +kernel
theorem d_Mo_closure_24 : decode b_Mo_closure 24 = .ok (.ifCond .ne 5, 3) := by decide +kernel
theorem d_Mo_closure_27 : decode b_Mo_closure 27 = .ok (.iconst (-1), 1) := by decide +kernel
theorem d_Mo_closure_28 : decode b_Mo_closure 28 = .ok (.ireturn, 1) := by decide +kernel
theorem d_Mo_closure_29 : decode b_Mo_closure 29 = .ok (.aload_n 0, 1) := by decide +kernel
theorem d_Mo_closure_30 : decode b_Mo_closure 30 = .ok (.bipush 6, 2) := by decide +kernel
theorem d_Mo_closure_32 : decode b_Mo_closure 32 = .ok (.invokevirtual 531, 3) := by decide +kernel
theorem d_Mo_closure_35 : decode b_Mo_closure 35 = .ok (.istore 4, 2) := by decide +kernel
theorem d_Mo_closure_37 : decode b_Mo_closure 37 = .ok (.aload_n 0, 1) := by decide +kernel
theorem d_Mo_closure_38 : decode b_Mo_closure 38 = .ok (.dup, 1) := by decide +kernel
theorem d_Mo_closure_39 : decode b_Mo_closure 39 = .ok (.getfield 131, 3) := by decide +kernel
theorem d_Mo_closure_42 : decode b_Mo_closure 42 = .ok (.iload_n 3, 1) := by decide +kernel
theorem d_Mo_closure_43 : decode b_Mo_closure 43 = .ok (.iadd, 1) := by decide +kernel
theorem d_Mo_closure_44 : decode b_Mo_closure 44 = .ok (.putfield 131, 3) := by decide +kernel
theorem d_Mo_closure_47 : decode b_Mo_closure 47 = .ok (.aload_n 0, 1) := by decide +kernel
theorem d_Mo_closure_48 : decode b_Mo_closure 48 = .ok (.dup, 1) := by decide +kernel
theorem d_Mo_closure_49 : decode b_Mo_closure 49 = .ok (.getfield 149, 3) := by decide +kernel
theorem d_Mo_closure_52 : decode b_Mo_closure 52 = .ok (.iload_n 3, 1) := by decide +kernel
theorem d_Mo_closure_53 : decode b_Mo_closure 53 = .ok (.iadd, 1) := by decide +kernel
theorem d_Mo_closure_54 : decode b_Mo_closure 54 = .ok (.putfield 149, 3) := by decide +kernel
theorem d_Mo_closure_57 : decode b_Mo_closure 57 = .ok (.aload_n 0, 1) := by decide +kernel
theorem d_Mo_closure_58 : decode b_Mo_closure 58 = .ok (.getfield 168, 3) := by decide +kernel
theorem d_Mo_closure_61 : decode b_Mo_closure 61 = .ok (.iload 4, 2) := by decide +kernel
theorem d_Mo_closure_63 : decode b_Mo_closure 63 = .ok (.iload_n 1, 1) := by decide +kernel
theorem d_Mo_closure_64 : decode b_Mo_closure 64 = .ok (.iastore, 1) := by decide +kernel
theorem d_Mo_closure_65 : decode b_Mo_closure 65 = .ok (.aload_n 0, 1) := by decide +kernel
theorem d_Mo_closure_66 : decode b_Mo_closure 66 = .ok (.getfield 171, 3) := by decide +kernel
theorem d_Mo_closure_69 : decode b_Mo_closure 69 = .ok (.iload 4, 2) := by decide +kernel
theorem d_Mo_closure_71 : decode b_Mo_closure 71 = .ok (.iload_n 1, 1) := by decide +kernel
theorem d_Mo_closure_72 : decode b_Mo_closure 72 = .ok (.ifCond .ge 7, 3) := by decide +kernel
theorem d_Mo_closure_75 : decode b_Mo_closure 75 = .ok (.iload_n 2, 1) := by decide +kernel
theorem d_Mo_closure_76 : decode b_Mo_closure 76 = .ok (.goto 7, 3) := by decide +kernel
theorem d_Mo_closure_79 : decode b_Mo_closure 79 = .ok (.aload_n 0, 1) := by decide +kernel
theorem d_Mo_closure_80 : decode b_Mo_closure 80 = .ok (.getfield 143, 3) := by decide +kernel
theorem d_Mo_closure_83 : decode b_Mo_closure 83 = .ok (.iastore, 1) := by decide +kernel
theorem d_Mo_closure_84 : decode b_Mo_closure 84 = .ok (.aload_n 0, 1) := by decide +kernel
theorem d_Mo_closure_85 : decode b_Mo_closure 85 = .ok (.getfield 174, 3) := by decide +kernel
theorem d_Mo_closure_88 : decode b_Mo_closure 88 = .ok (.iload 4, 2) := by decide +kernel
theorem d_Mo_closure_90 : decode b_Mo_closure 90 = .ok (.iload_n 3, 1) := by decide +kernel
theorem d_Mo_closure_91 : decode b_Mo_closure 91 = .ok (.iastore, 1) := by decide +kernel
theorem d_Mo_closure_92 : decode b_Mo_closure 92 = .ok (.iconst 0, 1) := by decide +kernel
theorem d_Mo_closure_93 : decode b_Mo_closure 93 = .ok (.istore 5, 2) := by decide +kernel
theorem d_Mo_closure_95 : decode b_Mo_closure 95 = .ok (.iload 5, 2) := by decide +kernel
theorem d_Mo_closure_97 : decode b_Mo_closure 97 = .ok (.iload_n 3, 1) := by decide +kernel
theorem d_Mo_closure_98 : decode b_Mo_closure 98 = .ok (.if_icmp .ge 28, 3) := by decide +kernel
theorem d_Mo_closure_101 : decode b_Mo_closure 101 = .ok (.aload_n 0, 1) := by decide +kernel
theorem d_Mo_closure_102 : decode b_Mo_closure 102 = .ok (.getfield 206, 3) := by decide +kernel
theorem d_Mo_closure_105 : decode b_Mo_closure 105 = .ok (.aload_n 0, 1) := by decide +kernel
theorem d_Mo_closure_106 : decode b_Mo_closure 106 = .ok (.getfield 143, 3) := by decide +kernel
theorem d_Mo_closure_109 : decode b_Mo_closure 109 = .ok (.iload 5, 2) := by decide +kernel
theorem d_Mo_closure_111 : decode b_Mo_closure 111 = .ok (.iadd, 1) := by decide +kernel
theorem d_Mo_closure_112 : decode b_Mo_closure 112 = .ok (.aload_n 0, 1) := by decide +kernel
theorem d_Mo_closure_113 : decode b_Mo_closure 113 = .ok (.getfield 274, 3) := by decide +kernel
theorem d_Mo_closure_116 : decode b_Mo_closure 116 = .ok (.iload 5, 2) := by decide +kernel
theorem d_Mo_closure_118 : decode b_Mo_closure 118 = .ok (.iaload, 1) := by decide +kernel
theorem d_Mo_closure_119 : decode b_Mo_closure 119 = .ok (.iastore, 1) := by decide +kernel
theorem d_Mo_closure_120 : decode b_Mo_closure 120 = .ok (.iinc 5 1, 3) := by decide +kernel
theorem d_Mo_closure_123 : decode b_Mo_closure 123 = .ok (.goto (-28), 3) := by decide +kernel
theorem d_Mo_closure_126 : decode b_Mo_closure 126 = .ok (.aload_n 0, 1) := by decide +kernel
theorem d_Mo_closure_127 : decode b_Mo_closure 127 = .ok (.dup, 1) := by decide +kernel
theorem d_Mo_closure_128 : decode b_Mo_closure 128 = .ok (.getfield 143, 3) := by decide +kernel
theorem d_Mo_closure_131 : decode b_Mo_closure 131 = .ok (.iload_n 3, 1) := by decide +kernel
theorem d_Mo_closure_132 : decode b_Mo_closure 132 = .ok (.iadd, 1) := by decide +kernel
theorem d_Mo_closure_133 : decode b_Mo_closure 133 = .ok (.putfield 143, 3) := by decide +kernel
theorem d_Mo_closure_136 : decode b_Mo_closure 136 = .ok (.iload 4, 2) := by decide +kernel
theorem d_Mo_closure_138 : decode b_Mo_closure 138 = .ok (.ireturn, 1) := by decide +kernel
theorem kw_468 : Cond.fieldLink R_Mo 274 "LuaMachineModel" "capture" "[I" ∈ wA := kinm (show _ ∈ tables_1 from (List.mem_append_right _ (List.mem_append_right _ (List.mem_append_right _ (List.mem_append_right _ (List.mem_append_right _ (List.mem_append_right _ (List.mem_append_right _ (List.mem_append_right _ (List.mem_append_right _ (List.mem_append_left _ (List.mem_of_getElem? (l := tables_1_10) (i := 138) (by decide +kernel))))))))))))) (by decide +kernel)
theorem kw_469 : Cond.instanceMethod y_Mo_closure ∈ wA := kinm (show _ ∈ tables_1 from (List.mem_append_right _ (List.mem_append_right _ (List.mem_append_right _ (List.mem_append_right _ (List.mem_append_right _ (List.mem_append_right _ (List.mem_append_right _ (List.mem_append_right _ (List.mem_append_right _ (List.mem_append_right _ (List.mem_append_right _ (List.mem_append_left _ (List.mem_of_getElem? (l := tables_1_12) (i := 115) (by decide +kernel))))))))))))))) (by decide +kernel)
theorem kw_470 : Cond.selects R_Mo y_Mo_closure y_Mo_closure ∈ wA := kinp 152 (by decide +kernel) (by decide +kernel)
theorem cv_Mo_closure : CV y_Mo_closure b_Mo_closure 6 (some .int) 3 := ⟨kw_469, kw_470, kw_17, k_Mo_closure, by decide +kernel⟩
theorem lp_Mo_closure_L95 {X : Cx} {q : PL} (g : Gd X y_Mo_closure b_Mo_closure 6 (some .int) 7 154 R_Mo) (x : Int32 × Int32 × Int32) (s : S1) (o : ((Int32 × Int32 × Int32) ⊕ ((Int32 × Int32))) × S1) (h : M_Mo_closure_L95 x s = some o) (hR : (Sum.elim (fun y : Int32 × Int32 × Int32 => ∀ ls : Array Slot, lv_has ls 6 [(0, .ref (q.1 0 0)), (3, .int y.1), (4, .int y.2.1), (5, .int y.2.2)] → WW X q o.2 95 ls []) (fun y : Int32 × Int32 => ∀ ls : Array Slot, lv_has ls 6 [(0, .ref (q.1 0 0)), (3, .int y.1), (4, .int y.2)] → WW X q o.2 126 ls []) o.1)) : ∀ ls : Array Slot, lv_has ls 6 [(0, .ref (q.1 0 0)), (3, .int x.1), (4, .int x.2.1), (5, .int x.2.2)] → WW X q s 95 ls [] := by
  intro ls hl
  unfold M_Mo_closure_L95 at h
  refine ww_iload (pc := 95) g.1 d_Mo_closure_95 (lv_at hl 3 rfl) ?_
  refine ww_iload_n (pc := 97) g.1 d_Mo_closure_97 rfl (lv_at hl 1 rfl) ?_
  refine ww_icmp_ge (pc := 98) (tgt := 126) g.1 d_Mo_closure_98 (by decide) h (fun c h => ?_) (fun c h => ?_)
  · rw [oR_eq h] at hR
    exact hR ls (lv_sub hl [0, 1, 2] rfl)
  · refine ww_aload_n (pc := 101) g.1 d_Mo_closure_101 rfl (lv_at hl 0 rfl) ?_
    refine ww_g5 (pc := 102) g (k := 61) cl_Mo (pz rfl (by decide)) (by decide) (Or.inl kw_129) (f := 61) (t := 73) (f2 := 9471) rfl rfl rfl rfl d_Mo_closure_102 h fun v102 hv102 h => ?_
    refine ww_ok h fun cv102 h => ?_
    refine ww_dn cv102 ?_
    have pd102 : prs s 73 0 := pd (f := 9471) rfl (by decide) hv102 cv102
    refine ww_aload_n (pc := 105) g.1 d_Mo_closure_105 rfl (lv_at hl 0 rfl) ?_
    refine ww_gI (pc := 106) g (k := 41) cl_Mo (pz rfl (by decide)) (by decide) (Or.inl kw_450) (f := 41) rfl rfl d_Mo_closure_106 h fun v106 h => ?_
    refine ww_iload (pc := 109) g.1 d_Mo_closure_109 (lv_at hl 3 rfl) ?_
    refine ww_iadd (pc := 111) g.1 d_Mo_closure_111 ?_
    refine ww_aload_n (pc := 112) g.1 d_Mo_closure_112 rfl (lv_at hl 0 rfl) ?_
    refine ww_gR (pc := 113) g (k := 82) cl_Mo (pz rfl (by decide)) (by decide) (Or.inl kw_468) (f := 82) (t := 77) rfl rfl rfl d_Mo_closure_113 ?_
    refine ww_iload (pc := 116) g.1 d_Mo_closure_116 (lv_at hl 3 rfl) ?_
    refine ww_ai (pc := 118) g (pz rfl (by decide)) rfl rfl d_Mo_closure_118 h fun v118 h => ?_
    refine ww_si (pc := 119) g pd102 rfl rfl d_Mo_closure_119 h fun s hs h => ?_
    refine ww_iinc (pc := 120) g.1 (v := x.2.2 + 1) (lv' := [(5, .int (x.2.2 + 1)), (0, .ref (q.1 0 0)), (3, .int x.1), (4, .int x.2.1)]) d_Mo_closure_120 hl (k := 3) rfl (by rfl) (by decide) rfl fun ls hl => ?_
    refine ww_goto (pc := 123) (tgt := 95) g.1 d_Mo_closure_123 (by decide) ?_
    rw [oR_eq h] at hR
    exact hR ls (lv_sub hl [1, 2, 3, 0] rfl)

theorem j_Mo_closure_j83 {X : Cx} {q : PL} (g : Gd X y_Mo_closure b_Mo_closure 6 (some .int) 7 154 R_Mo) {o : (Int32) × S1} (hR : Rt X q o.2 (some (.int o.1))) (l3 : Int32) (l4 : Int32) (k0 : Int32) (k1 : Int32) (s : S1) (ls : Array Slot) (hl : lv_has ls 6 [(0, .ref (q.1 0 0)), (3, .int l3), (4, .int l4)]) (h : M_Mo_closure_j83 l3 l4 k0 k1 s = some o) : WW X q s 83 ls [.int k0, .int k1, .ref (q.1 63 0)] := by
  unfold M_Mo_closure_j83 at h
  refine ww_si (pc := 83) g (pz rfl (by decide)) rfl rfl d_Mo_closure_83 h fun s hs h => ?_
  refine ww_aload_n (pc := 84) g.1 d_Mo_closure_84 rfl (lv_at hl 0 rfl) ?_
  refine ww_gR (pc := 85) g (k := 51) cl_Mo (pz rfl (by decide)) (by decide) (Or.inl kw_123) (f := 51) (t := 64) rfl rfl rfl d_Mo_closure_85 ?_
  refine ww_iload (pc := 88) g.1 d_Mo_closure_88 (lv_at hl 2 rfl) ?_
  refine ww_iload_n (pc := 90) g.1 d_Mo_closure_90 rfl (lv_at hl 1 rfl) ?_
  refine ww_si (pc := 91) g (pz rfl (by decide)) rfl rfl d_Mo_closure_91 h fun s hs h => ?_
  refine ww_iconst (pc := 92) g.1 (v := 0) d_Mo_closure_92 (by decide) ?_
  refine ww_istore (pc := 93) (i := 5) g.1 (lv' := [(5, .int 0), (0, .ref (q.1 0 0)), (3, .int l3), (4, .int l4)]) d_Mo_closure_93 hl (by decide) rfl fun ls hl => ?_
  obtain ⟨e95, s1, hw, h⟩ := oB_of h
  refine oW_rule (Wh := fun (x : Int32 × Int32 × Int32) (s : S1) => ∀ ls : Array Slot, lv_has ls 6 [(0, .ref (q.1 0 0)), (3, .int x.1), (4, .int x.2.1), (5, .int x.2.2)] → WW X q s 95 ls []) (We := fun (e : (Int32 × Int32)) (s : S1) => ∀ ls : Array Slot, lv_has ls 6 [(0, .ref (q.1 0 0)), (3, .int e.1), (4, .int e.2)] → WW X q s 126 ls []) (fun x s o hb hc => lp_Mo_closure_L95 (q := q) g x s o hb hc) hw ?_ ls (lv_sub hl [1, 2, 3, 0] rfl)
  clear hw hl
  clear ls
  intro ls hl
  generalize s1 = s at h ⊢
  refine ww_aload_n (pc := 126) g.1 d_Mo_closure_126 rfl (lv_at hl 0 rfl) ?_
  refine ww_dup (pc := 127) g.1 d_Mo_closure_127 rfl ?_
  refine ww_gI (pc := 128) g (k := 41) cl_Mo (pz rfl (by decide)) (by decide) (Or.inl kw_450) (f := 41) rfl rfl d_Mo_closure_128 h fun v128 h => ?_
  refine ww_iload_n (pc := 131) g.1 d_Mo_closure_131 rfl (lv_at hl 1 rfl) ?_
  refine ww_iadd (pc := 132) g.1 d_Mo_closure_132 ?_
  refine ww_pI (pc := 133) g (k := 41) cl_Mo (pz rfl (by decide)) (by decide) (Or.inl kw_450) rfl (f := 41) rfl rfl rfl rfl d_Mo_closure_133 h fun s hs h => ?_
  refine ww_iload (pc := 136) g.1 d_Mo_closure_136 (lv_at hl 2 rfl) ?_
  exact ww_iretH (pc := 138) g h hR d_Mo_closure_138

theorem ct_Mo_closure {l : Launch} {P : PP} {q : PL} {s s' : S1} {l1 : Int32} {l2 : Int32} {l3 : Int32} {r : Int32} (h : M_Mo_closure l1 l2 l3 s = some (r, s')) : Ct l y_Mo_closure b_Mo_closure 6 (some .int) 7 154 P q s [.ref (q.1 0 0), .int l1, .int l2, .int l3] (some (.int r)) q s' := by
  refine ct_of (by decide) (Nat.le_of_ble_eq_true rfl) fun X ls eP el g hR hl => ?_
  subst eP
  have hR : Rt X q ((r, s') : Int32 × S1).2 (some (.int ((r, s') : Int32 × S1).1)) := hR
  have hl : lv_has ls 6 [(0, .ref (q.1 0 0)), (1, .int l1), (2, .int l2), (3, .int l3)] := hl
  generalize (r, s') = o at h hR
  unfold M_Mo_closure at h
  refine ww_aload_n (pc := 0) g.1 d_Mo_closure_0 rfl (lv_at hl 0 rfl) ?_
  refine ww_gI (pc := 1) g (k := 43) cl_Mo (pz rfl (by decide)) (by decide) (Or.inl kw_449) (f := 43) rfl rfl d_Mo_closure_1 h fun v1 h => ?_
  refine ww_iload_n (pc := 4) g.1 d_Mo_closure_4 rfl (lv_at hl 3 rfl) ?_
  refine ww_iadd (pc := 5) g.1 d_Mo_closure_5 ?_
  refine ww_ldcw (pc := 6) g (v := 300000) kw_447 d_Mo_closure_6 ?_
  refine ww_icmp_le (pc := 9) (tgt := 19) g.1 d_Mo_closure_9 (by decide) h (fun c h => ?_) (fun c h => ?_)
  · refine ww_aload_n (pc := 19) g.1 d_Mo_closure_19 rfl (lv_at hl 0 rfl) ?_
    refine ww_iconst (pc := 20) g.1 (v := 0) d_Mo_closure_20 (by decide) ?_
    obtain ⟨v21, s, hc21, h⟩ := oB_of h
    refine ww_callV (pc := 21) (rest := []) g cv_Mo_may (Or.inl kw_461) cl_Mo (pz rfl (by decide)) (ct_Mo_may hc21) ⟨by decide, by decide⟩ rfl hl.1 (Nat.le_of_ble_eq_true rfl) d_Mo_closure_21 rfl ?_
    refine ww_st (st' := [.int v21]) rfl ?_
    refine ww_if_ne (pc := 24) (tgt := 29) g.1 d_Mo_closure_24 (by decide) h (fun c h => ?_) (fun c h => ?_)
    · refine ww_aload_n (pc := 29) g.1 d_Mo_closure_29 rfl (lv_at hl 0 rfl) ?_
      refine ww_bipush (pc := 30) g.1 (v := 6) d_Mo_closure_30 (by decide) ?_
      obtain ⟨v32, s, hc32, h⟩ := oB_of h
      refine ww_callV (pc := 32) (rest := []) g cv_Mo_object (Or.inl kw_462) cl_Mo (pz rfl (by decide)) (ct_Mo_object hc32) ⟨by decide, by decide⟩ rfl hl.1 (Nat.le_of_ble_eq_true rfl) d_Mo_closure_32 rfl ?_
      refine ww_st (st' := [.int v32]) rfl ?_
      refine ww_istore (pc := 35) (i := 4) g.1 (lv' := [(4, .int v32), (0, .ref (q.1 0 0)), (1, .int l1), (2, .int l2), (3, .int l3)]) d_Mo_closure_35 hl (by decide) rfl fun ls hl => ?_
      refine ww_aload_n (pc := 37) g.1 d_Mo_closure_37 rfl (lv_at hl 1 rfl) ?_
      refine ww_dup (pc := 38) g.1 d_Mo_closure_38 rfl ?_
      refine ww_gI (pc := 39) g (k := 37) cl_Mo (pz rfl (by decide)) (by decide) (Or.inl kw_300) (f := 37) rfl rfl d_Mo_closure_39 h fun v39 h => ?_
      refine ww_iload_n (pc := 42) g.1 d_Mo_closure_42 rfl (lv_at hl 4 rfl) ?_
      refine ww_iadd (pc := 43) g.1 d_Mo_closure_43 ?_
      refine ww_pI (pc := 44) g (k := 37) cl_Mo (pz rfl (by decide)) (by decide) (Or.inl kw_300) rfl (f := 37) rfl rfl rfl rfl d_Mo_closure_44 h fun s hs h => ?_
      refine ww_aload_n (pc := 47) g.1 d_Mo_closure_47 rfl (lv_at hl 1 rfl) ?_
      refine ww_dup (pc := 48) g.1 d_Mo_closure_48 rfl ?_
      refine ww_gI (pc := 49) g (k := 43) cl_Mo (pz rfl (by decide)) (by decide) (Or.inl kw_449) (f := 43) rfl rfl d_Mo_closure_49 h fun v49 h => ?_
      refine ww_iload_n (pc := 52) g.1 d_Mo_closure_52 rfl (lv_at hl 4 rfl) ?_
      refine ww_iadd (pc := 53) g.1 d_Mo_closure_53 ?_
      refine ww_pI (pc := 54) g (k := 43) cl_Mo (pz rfl (by decide)) (by decide) (Or.inl kw_449) rfl (f := 43) rfl rfl rfl rfl d_Mo_closure_54 h fun s hs h => ?_
      refine ww_aload_n (pc := 57) g.1 d_Mo_closure_57 rfl (lv_at hl 1 rfl) ?_
      refine ww_gR (pc := 58) g (k := 49) cl_Mo (pz rfl (by decide)) (by decide) (Or.inl kw_87) (f := 49) (t := 62) rfl rfl rfl d_Mo_closure_58 ?_
      refine ww_iload (pc := 61) g.1 d_Mo_closure_61 (lv_at hl 0 rfl) ?_
      refine ww_iload_n (pc := 63) g.1 d_Mo_closure_63 rfl (lv_at hl 2 rfl) ?_
      refine ww_si (pc := 64) g (pz rfl (by decide)) rfl rfl d_Mo_closure_64 h fun s hs h => ?_
      refine ww_aload_n (pc := 65) g.1 d_Mo_closure_65 rfl (lv_at hl 1 rfl) ?_
      refine ww_gR (pc := 66) g (k := 50) cl_Mo (pz rfl (by decide)) (by decide) (Or.inl kw_91) (f := 50) (t := 63) rfl rfl rfl d_Mo_closure_66 ?_
      refine ww_iload (pc := 69) g.1 d_Mo_closure_69 (lv_at hl 0 rfl) ?_
      refine ww_iload_n (pc := 71) g.1 d_Mo_closure_71 rfl (lv_at hl 2 rfl) ?_
      refine ww_if_ge (pc := 72) (tgt := 79) g.1 d_Mo_closure_72 (by decide) h (fun c h => ?_) (fun c h => ?_)
      · refine ww_aload_n (pc := 79) g.1 d_Mo_closure_79 rfl (lv_at hl 1 rfl) ?_
        refine ww_gI (pc := 80) g (k := 41) cl_Mo (pz rfl (by decide)) (by decide) (Or.inl kw_450) (f := 41) rfl rfl d_Mo_closure_80 h fun v80 h => ?_
        exact j_Mo_closure_j83 g hR l3 v32 v80 v32 s ls (lv_sub hl [1, 4, 0] rfl) h
      · refine ww_iload_n (pc := 75) g.1 d_Mo_closure_75 rfl (lv_at hl 3 rfl) ?_
        refine ww_goto (pc := 76) (tgt := 83) g.1 d_Mo_closure_76 (by decide) ?_
        exact j_Mo_closure_j83 g hR l3 v32 l2 v32 s ls (lv_sub hl [1, 4, 0] rfl) h
    · refine ww_iconst (pc := 27) g.1 (v := (-1)) d_Mo_closure_27 (by decide) ?_
      exact ww_iretH (pc := 28) g h hR d_Mo_closure_28
  · refine ww_aload_n (pc := 12) g.1 d_Mo_closure_12 rfl (lv_at hl 0 rfl) ?_
    refine ww_bipush (pc := 13) g.1 (v := 11) d_Mo_closure_13 (by decide) ?_
    obtain ⟨v15, s, hc15, h⟩ := oB_of h
    refine ww_callV (pc := 15) (rest := []) g cv_Mo_raise (Or.inl kw_157) cl_Mo (pz rfl (by decide)) (ct_Mo_raise hc15) ⟨by decide, by decide⟩ rfl hl.1 (Nat.le_of_ble_eq_true rfl) d_Mo_closure_15 rfl ?_
    refine ww_st (st' := [.int v15]) rfl ?_
    exact ww_iretH (pc := 18) g h hR d_Mo_closure_18


