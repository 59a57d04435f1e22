abbrev b_Mo_giveNone : ByteArray := prog_14_method_72_code
def y_Mo_giveNone : MethodName := ⟨R_Mo, "giveNone", "()V"⟩
abbrev w_Mo_giveNone : List Cond := .code y_Mo_giveNone b_Mo_giveNone 1 none :: wA
theorem k_Mo_giveNone : Cond.code y_Mo_giveNone b_Mo_giveNone 1 none ∈ wA := kinm (show _ ∈ tables_1 from (List.mem_append_right _ (List.mem_append_right _ (List.mem_append_right _ (List.mem_append_right _ (List.mem_append_right _ (List.mem_append_right _ (List.mem_append_right _ (List.mem_append_right _ (List.mem_append_right _ (List.mem_append_right _ (List.mem_append_right _ (List.mem_append_left _ (List.mem_of_getElem? (l := tables_1_12) (i := 212) (by decide +kernel))))))))))))))) (by decide +kernel)
theorem d_Mo_giveNone_0 : decode b_Mo_giveNone 0 = .ok (.aload_n 0, 1) := by decide +kernel
theorem d_Mo_giveNone_1 : decode b_Mo_giveNone 1 = .ok (.getfield 262, 3) := by decide +kernel
theorem d_Mo_giveNone_4 : decode b_Mo_giveNone 4 = .ok (.iconst 0, 1) := by decide +kernel
theorem d_Mo_giveNone_5 : decode b_Mo_giveNone 5 = .ok (.putfield 569, 3) := by decide +kernel
theorem d_Mo_giveNone_8 : decode b_Mo_giveNone 8 = .ok (.aload_n 0, 1) := by decide +kernel
theorem d_Mo_giveNone_9 : decode b_Mo_giveNone 9 = .ok (.iconst 2, 1) := by decide +kernel
theorem d_Mo_giveNone_10 : decode b_Mo_giveNone 10 = .ok (.putfield 247, 3) := by decide +kernel
theorem d_Mo_giveNone_13 : decode b_Mo_giveNone 13 = .ok (.return_, 1) := by decide +kernel
theorem kw_178 : Cond.fieldLink R_Mo 262 "LuaMachineModel" "results" "LLuaMachineModel$Values;" ∈ wA := kinm (show _ ∈ tables_1 from (List.mem_append_right _ (List.mem_append_right _ (List.mem_append_right _ (List.mem_append_right _ (List.mem_append_right _ (List.mem_append_right _ (List.mem_append_right _ (List.mem_append_right _ (List.mem_append_right _ (List.mem_append_left _ (List.mem_of_getElem? (l := tables_1_10) (i := 134) (by decide +kernel))))))))))))) (by decide +kernel)
theorem kw_179 : Cond.fieldLink R_Mo 569 "LuaMachineModel$Values" "n" "I" ∈ wA := kinm (show _ ∈ tables_1 from (List.mem_append_right _ (List.mem_append_right _ (List.mem_append_right _ (List.mem_append_right _ (List.mem_append_right _ (List.mem_append_right _ (List.mem_append_right _ (List.mem_append_right _ (List.mem_append_left _ (List.mem_of_getElem? (l := tables_1_9) (i := 128) (by decide +kernel)))))))))))) (by decide +kernel)
theorem kw_180 : Cond.instanceMethod y_Mo_giveNone ∈ wA := kinm (show _ ∈ tables_1 from (List.mem_append_right _ (List.mem_append_right _ (List.mem_append_right _ (List.mem_append_right _ (List.mem_append_right _ (List.mem_append_right _ (List.mem_append_right _ (List.mem_append_right _ (List.mem_append_right _ (List.mem_append_right _ (List.mem_append_right _ (List.mem_append_left _ (List.mem_of_getElem? (l := tables_1_12) (i := 211) (by decide +kernel))))))))))))))) (by decide +kernel)
theorem kw_181 : Cond.selects R_Mo y_Mo_giveNone y_Mo_giveNone ∈ wA := kinp 167 (by decide +kernel) (by decide +kernel)
theorem cv_Mo_giveNone : CV y_Mo_giveNone b_Mo_giveNone 1 none 0 := ⟨kw_180, kw_181, kw_17, k_Mo_giveNone, by decide +kernel⟩
theorem ct_Mo_giveNone {l : Launch} {P : PP} {q : PL} {s s' : S1}  {r : Unit} (h : M_Mo_giveNone s = some (r, s')) : Ct l y_Mo_giveNone b_Mo_giveNone 1 none 0 0 P q s [.ref (q.1 0 0)] none q s' := by
  refine ct_of (by decide) (Nat.le_of_ble_eq_true rfl) fun X ls eP el g hR hl => ?_
  subst eP
  have hR : Rt X q ((r, s') : Unit × S1).2 none := hR
  have hl : lv_has ls 1 [(0, .ref (q.1 0 0))] := hl
  generalize (r, s') = o at h hR
  unfold M_Mo_giveNone at h
  refine ww_aload_n (pc := 0) g.1 d_Mo_giveNone_0 rfl (lv_at hl 0 rfl) ?_
  refine ww_gR (pc := 1) g (k := 78) cl_Mo (pz rfl (by decide)) (by decide) (Or.inl kw_178) (f := 78) (t := 10) rfl rfl rfl d_Mo_giveNone_1 ?_
  refine ww_iconst (pc := 4) g.1 (v := 0) d_Mo_giveNone_4 (by decide) ?_
  refine ww_pI (pc := 5) g (k := 2) (cl_Va (Or.inl ⟨by decide, rfl⟩)) (pz rfl (by decide)) (by decide) (Or.inl kw_179) rfl (f := 1282) rfl rfl rfl rfl d_Mo_giveNone_5 h fun s hs h => ?_
  refine ww_aload_n (pc := 8) g.1 d_Mo_giveNone_8 rfl (lv_at hl 0 rfl) ?_
  refine ww_iconst (pc := 9) g.1 (v := 2) d_Mo_giveNone_9 (by decide) ?_
  refine ww_pI (pc := 10) g (k := 73) cl_Mo (pz rfl (by decide)) (by decide) (Or.inl kw_75) rfl (f := 73) rfl rfl rfl rfl d_Mo_giveNone_10 h fun s hs h => ?_
  exact ww_vretH (pc := 13) g h hR d_Mo_giveNone_13

abbrev b_Mo_ak : ByteArray := prog_14_method_82_code
def y_Mo_ak : MethodName := ⟨R_Mo, "ak", "(I)I"⟩
abbrev w_Mo_ak : List Cond := .code y_Mo_ak b_Mo_ak 2 (some .int) :: wA
theorem k_Mo_ak : Cond.code y_Mo_ak b_Mo_ak 2 (some .int) ∈ wA := kinm (show _ ∈ tables_1 from (List.mem_append_right _ (List.mem_append_right _ (List.mem_append_right _ (List.mem_append_right _ (List.mem_append_right _ (List.mem_append_right _ (List.mem_append_right _ (List.mem_append_right _ (List.mem_append_right _ (List.mem_append_right _ (List.mem_append_right _ (List.mem_append_left _ (List.mem_of_getElem? (l := tables_1_12) (i := 220) (by decide +kernel))))))))))))))) (by decide +kernel)
theorem d_Mo_ak_0 : decode b_Mo_ak 0 = .ok (.iload_n 1, 1) := by decide +kernel
theorem d_Mo_ak_1 : decode b_Mo_ak 1 = .ok (.aload_n 0, 1) := by decide +kernel
theorem d_Mo_ak_2 : decode b_Mo_ak 2 = .ok (.getfield 259, 3) := by decide +kernel
theorem d_Mo_ak_5 : decode b_Mo_ak 5 = .ok (.getfield 569, 3) := by decide +kernel
theorem d_Mo_ak_8 : decode b_Mo_ak 8 = .ok (.if_icmp .ge 15, 3) := by decide +kernel
theorem d_Mo_ak_11 : decode b_Mo_ak 11 = .ok (.aload_n 0, 1) := by decide +kernel
theorem d_Mo_ak_12 : decode b_Mo_ak 12 = .ok (.getfield 259, 3) := by decide +kernel
theorem d_Mo_ak_15 : decode b_Mo_ak 15 = .ok (.getfield 585, 3) := by decide +kernel
theorem d_Mo_ak_18 : decode b_Mo_ak 18 = .ok (.iload_n 1, 1) := by decide +kernel
theorem d_Mo_ak_19 : decode b_Mo_ak 19 = .ok (.baload, 1) := by decide +kernel
theorem d_Mo_ak_20 : decode b_Mo_ak 20 = .ok (.goto 4, 3) := by decide +kernel
theorem d_Mo_ak_23 : decode b_Mo_ak 23 = .ok (.iconst 0, 1) := by decide +kernel
theorem d_Mo_ak_24 : decode b_Mo_ak 24 = .ok (.ireturn, 1) := by decide +kernel
theorem kw_182 : Cond.fieldLink R_Mo 259 "LuaMachineModel" "args" "LLuaMachineModel$Values;" ∈ wA := kinm (show _ ∈ tables_1 from (List.mem_append_right _ (List.mem_append_right _ (List.mem_append_right _ (List.mem_append_right _ (List.mem_append_right _ (List.mem_append_right _ (List.mem_append_right _ (List.mem_append_right _ (List.mem_append_right _ (List.mem_append_left _ (List.mem_of_getElem? (l := tables_1_10) (i := 133) (by decide +kernel))))))))))))) (by decide +kernel)
theorem kw_183 : Cond.instanceMethod y_Mo_ak ∈ wA := kinm (show _ ∈ tables_1 from (List.mem_append_right _ (List.mem_append_right _ (List.mem_append_right _ (List.mem_append_right _ (List.mem_append_right _ (List.mem_append_right _ (List.mem_append_right _ (List.mem_append_right _ (List.mem_append_right _ (List.mem_append_right _ (List.mem_append_right _ (List.mem_append_left _ (List.mem_of_getElem? (l := tables_1_12) (i := 219) (by decide +kernel))))))))))))))) (by decide +kernel)
theorem kw_184 : Cond.selects R_Mo y_Mo_ak y_Mo_ak ∈ wA := kinp 169 (by decide +kernel) (by decide +kernel)
theorem cv_Mo_ak : CV y_Mo_ak b_Mo_ak 2 (some .int) 1 := ⟨kw_183, kw_184, kw_17, k_Mo_ak, by decide +kernel⟩
theorem ct_Mo_ak {l : Launch} {P : PP} {q : PL} {s s' : S1} {l1 : Int32} {r : Int32} (h : M_Mo_ak l1 s = some (r, s')) : Ct l y_Mo_ak b_Mo_ak 2 (some .int) 0 0 P q s [.ref (q.1 0 0), .int l1] (some (.int r)) q s' := by
  refine ct_of (by decide) (Nat.le_of_ble_eq_true rfl) fun X ls eP el g hR hl => ?_
  subst eP
  have hR : Rt X q ((r, s') : Int32 × S1).2 (some (.int ((r, s') : Int32 × S1).1)) := hR
  have hl : lv_has ls 2 [(0, .ref (q.1 0 0)), (1, .int l1)] := hl
  generalize (r, s') = o at h hR
  unfold M_Mo_ak at h
  refine ww_iload_n (pc := 0) g.1 d_Mo_ak_0 rfl (lv_at hl 1 rfl) ?_
  refine ww_aload_n (pc := 1) g.1 d_Mo_ak_1 rfl (lv_at hl 0 rfl) ?_
  refine ww_gR (pc := 2) g (k := 77) cl_Mo (pz rfl (by decide)) (by decide) (Or.inl kw_182) (f := 77) (t := 7) rfl rfl rfl d_Mo_ak_2 ?_
  refine ww_gI (pc := 5) g (k := 2) (cl_Va (Or.inl ⟨by decide, rfl⟩)) (pz rfl (by decide)) (by decide) (Or.inl kw_179) (f := 898) rfl rfl d_Mo_ak_5 h fun v5 h => ?_
  refine ww_icmp_ge (pc := 8) (tgt := 23) g.1 d_Mo_ak_8 (by decide) h (fun c h => ?_) (fun c h => ?_)
  · refine ww_iconst (pc := 23) g.1 (v := 0) d_Mo_ak_23 (by decide) ?_
    exact ww_iretH (pc := 24) g h hR d_Mo_ak_24
  · refine ww_aload_n (pc := 11) g.1 d_Mo_ak_11 rfl (lv_at hl 0 rfl) ?_
    refine ww_gR (pc := 12) g (k := 77) cl_Mo (pz rfl (by decide)) (by decide) (Or.inl kw_182) (f := 77) (t := 7) rfl rfl rfl d_Mo_ak_12 ?_
    refine ww_gR (pc := 15) g (k := 0) (cl_Va (Or.inl ⟨by decide, rfl⟩)) (pz rfl (by decide)) (by decide) (Or.inl kw_90) (f := 896) (t := 8) rfl rfl rfl d_Mo_ak_15 ?_
    refine ww_iload_n (pc := 18) g.1 d_Mo_ak_18 rfl (lv_at hl 1 rfl) ?_
    refine ww_ab (pc := 19) g (pz rfl (by decide)) rfl rfl d_Mo_ak_19 h fun v19 h => ?_
    refine ww_goto (pc := 20) (tgt := 24) g.1 d_Mo_ak_20 (by decide) ?_
    exact ww_iretH (pc := 24) g h hR d_Mo_ak_24

abbrev b_Mo_av : ByteArray := prog_14_method_83_code
def y_Mo_av : MethodName := ⟨R_Mo, "av", "(I)J"⟩
abbrev w_Mo_av : List Cond := .code y_Mo_av b_Mo_av 2 (some .long) :: wA
theorem k_Mo_av : Cond.code y_Mo_av b_Mo_av 2 (some .long) ∈ wA := kinm (show _ ∈ tables_1 from (List.mem_append_right _ (List.mem_append_right _ (List.mem_append_right _ (List.mem_append_right _ (List.mem_append_right _ (List.mem_append_right _ (List.mem_append_right _ (List.mem_append_right _ (List.mem_append_right _ (List.mem_append_right _ (List.mem_append_right _ (List.mem_append_left _ (List.mem_of_getElem? (l := tables_1_12) (i := 224) (by decide +kernel))))))))))))))) (by decide +kernel)
theorem d_Mo_av_0 : decode b_Mo_av 0 = .ok (.iload_n 1, 1) := by decide +kernel
theorem d_Mo_av_1 : decode b_Mo_av 1 = .ok (.aload_n 0, 1) := by decide +kernel
theorem d_Mo_av_2 : decode b_Mo_av 2 = .ok (.getfield 259, 3) := by decide +kernel
theorem d_Mo_av_5 : decode b_Mo_av 5 = .ok (.getfield 569, 3) := by decide +kernel
theorem d_Mo_av_8 : decode b_Mo_av 8 = .ok (.if_icmp .ge 15, 3) := by decide +kernel
theorem d_Mo_av_11 : decode b_Mo_av 11 = .ok (.aload_n 0, 1) := by decide +kernel
theorem d_Mo_av_12 : decode b_Mo_av 12 = .ok (.getfield 259, 3) := by decide +kernel
theorem d_Mo_av_15 : decode b_Mo_av 15 = .ok (.getfield 588, 3) := by decide +kernel
theorem d_Mo_av_18 : decode b_Mo_av 18 = .ok (.iload_n 1, 1) := by decide +kernel
theorem d_Mo_av_19 : decode b_Mo_av 19 = .ok (.laload, 1) := by decide +kernel
theorem d_Mo_av_20 : decode b_Mo_av 20 = .ok (.goto 4, 3) := by decide +kernel
theorem d_Mo_av_23 : decode b_Mo_av 23 = .ok (.lconst 0, 1) := by decide +kernel
theorem d_Mo_av_24 : decode b_Mo_av 24 = .ok (.lreturn, 1) := by decide +kernel
theorem kw_185 : Cond.instanceMethod y_Mo_av ∈ wA := kinm (show _ ∈ tables_1 from (List.mem_append_right _ (List.mem_append_right _ (List.mem_append_right _ (List.mem_append_right _ (List.mem_append_right _ (List.mem_append_right _ (List.mem_append_right _ (List.mem_append_right _ (List.mem_append_right _ (List.mem_append_right _ (List.mem_append_right _ (List.mem_append_left _ (List.mem_of_getElem? (l := tables_1_12) (i := 223) (by decide +kernel))))))))))))))) (by decide +kernel)
theorem kw_186 : Cond.selects R_Mo y_Mo_av y_Mo_av ∈ wA := kinp 170 (by decide +kernel) (by decide +kernel)
theorem cv_Mo_av : CV y_Mo_av b_Mo_av 2 (some .long) 1 := ⟨kw_185, kw_186, kw_17, k_Mo_av, by decide +kernel⟩
theorem ct_Mo_av {l : Launch} {P : PP} {q : PL} {s s' : S1} {l1 : Int32} {r : Int64} (h : M_Mo_av l1 s = some (r, s')) : Ct l y_Mo_av b_Mo_av 2 (some .long) 0 0 P q s [.ref (q.1 0 0), .int l1] (some (.long r)) q s' := by
  refine ct_of (by decide) (Nat.le_of_ble_eq_true rfl) fun X ls eP el g hR hl => ?_
  subst eP
  have hR : Rt X q ((r, s') : Int64 × S1).2 (some (.long ((r, s') : Int64 × S1).1)) := hR
  have hl : lv_has ls 2 [(0, .ref (q.1 0 0)), (1, .int l1)] := hl
  generalize (r, s') = o at h hR
  unfold M_Mo_av at h
  refine ww_iload_n (pc := 0) g.1 d_Mo_av_0 rfl (lv_at hl 1 rfl) ?_
  refine ww_aload_n (pc := 1) g.1 d_Mo_av_1 rfl (lv_at hl 0 rfl) ?_
  refine ww_gR (pc := 2) g (k := 77) cl_Mo (pz rfl (by decide)) (by decide) (Or.inl kw_182) (f := 77) (t := 7) rfl rfl rfl d_Mo_av_2 ?_
  refine ww_gI (pc := 5) g (k := 2) (cl_Va (Or.inl ⟨by decide, rfl⟩)) (pz rfl (by decide)) (by decide) (Or.inl kw_179) (f := 898) rfl rfl d_Mo_av_5 h fun v5 h => ?_
  refine ww_icmp_ge (pc := 8) (tgt := 23) g.1 d_Mo_av_8 (by decide) h (fun c h => ?_) (fun c h => ?_)
  · refine ww_lconst (pc := 23) g.1 (v := 0) d_Mo_av_23 (by decide) ?_
    exact ww_lretH (pc := 24) g h hR d_Mo_av_24
  · refine ww_aload_n (pc := 11) g.1 d_Mo_av_11 rfl (lv_at hl 0 rfl) ?_
    refine ww_gR (pc := 12) g (k := 77) cl_Mo (pz rfl (by decide)) (by decide) (Or.inl kw_182) (f := 77) (t := 7) rfl rfl rfl d_Mo_av_12 ?_
    refine ww_gR (pc := 15) g (k := 1) (cl_Va (Or.inl ⟨by decide, rfl⟩)) (pz rfl (by decide)) (by decide) (Or.inl kw_93) (f := 897) (t := 9) rfl rfl rfl d_Mo_av_15 ?_
    refine ww_iload_n (pc := 18) g.1 d_Mo_av_18 rfl (lv_at hl 1 rfl) ?_
    refine ww_al (pc := 19) g (pz rfl (by decide)) rfl rfl d_Mo_av_19 h fun v19 h => ?_
    refine ww_goto (pc := 20) (tgt := 24) g.1 d_Mo_av_20 (by decide) ?_
    exact ww_lretH (pc := 24) g h hR d_Mo_av_24

abbrev b_Mo_give : ByteArray := prog_14_method_71_code
def y_Mo_give : MethodName := ⟨R_Mo, "give", "(IJ)V"⟩
abbrev w_Mo_give : List Cond := .code y_Mo_give b_Mo_give 4 none :: wA
theorem k_Mo_give : Cond.code y_Mo_give b_Mo_give 4 none ∈ wA := kinm (show _ ∈ tables_1 from (List.mem_append_right _ (List.mem_append_right _ (List.mem_append_right _ (List.mem_append_right _ (List.mem_append_right _ (List.mem_append_right _ (List.mem_append_right _ (List.mem_append_right _ (List.mem_append_right _ (List.mem_append_right _ (List.mem_append_right _ (List.mem_append_left _ (List.mem_of_getElem? (l := tables_1_12) (i := 228) (by decide +kernel))))))))))))))) (by decide +kernel)
theorem d_Mo_give_0 : decode b_Mo_give 0 = .ok (.aload_n 0, 1) := by decide +kernel
theorem d_Mo_give_1 : decode b_Mo_give 1 = .ok (.getfield 262, 3) := by decide +kernel
theorem d_Mo_give_4 : decode b_Mo_give 4 = .ok (.iconst 0, 1) := by decide +kernel
theorem d_Mo_give_5 : decode b_Mo_give 5 = .ok (.putfield 569, 3) := by decide +kernel
theorem d_Mo_give_8 : decode b_Mo_give 8 = .ok (.aload_n 0, 1) := by decide +kernel
theorem d_Mo_give_9 : decode b_Mo_give 9 = .ok (.getfield 262, 3) := by decide +kernel
theorem d_Mo_give_12 : decode b_Mo_give 12 = .ok (.iload_n 1, 1) := by decide +kernel
theorem d_Mo_give_13 : decode b_Mo_give 13 = .ok (.lload_n 2, 1) := by decide +kernel
theorem d_Mo_give_14 : decode b_Mo_give 14 = .ok (.invokevirtual 572, 3) := by decide +kernel
theorem d_Mo_give_17 : decode b_Mo_give 17 = .ok (.aload_n 0, 1) := by decide +kernel
theorem d_Mo_give_18 : decode b_Mo_give 18 = .ok (.iconst 2, 1) := by decide +kernel
theorem d_Mo_give_19 : decode b_Mo_give 19 = .ok (.putfield 247, 3) := by decide +kernel
theorem d_Mo_give_22 : decode b_Mo_give 22 = .ok (.return_, 1) := by decide +kernel
theorem kw_187 : Cond.methodLink R_Mo 572 y_Va_add ∈ wA := kinm (show _ ∈ tables_1 from (List.mem_append_right _ (List.mem_append_right _ (List.mem_append_right _ (List.mem_append_right _ (List.mem_append_right _ (List.mem_append_right _ (List.mem_append_right _ (List.mem_append_right _ (List.mem_append_right _ (List.mem_append_right _ (List.mem_append_right _ (List.mem_append_left _ (List.mem_of_getElem? (l := tables_1_12) (i := 104) (by decide +kernel))))))))))))))) (by decide +kernel)
theorem kw_188 : Cond.instanceMethod y_Mo_give ∈ wA := kinm (show _ ∈ tables_1 from (List.mem_append_right _ (List.mem_append_right _ (List.mem_append_right _ (List.mem_append_right _ (List.mem_append_right _ (List.mem_append_right _ (List.mem_append_right _ (List.mem_append_right _ (List.mem_append_right _ (List.mem_append_right _ (List.mem_append_right _ (List.mem_append_left _ (List.mem_of_getElem? (l := tables_1_12) (i := 227) (by decide +kernel))))))))))))))) (by decide +kernel)
theorem kw_189 : Cond.selects R_Mo y_Mo_give y_Mo_give ∈ wA := kinp 171 (by decide +kernel) (by decide +kernel)
theorem cv_Mo_give : CV y_Mo_give b_Mo_give 4 none 2 := ⟨kw_188, kw_189, kw_17, k_Mo_give, by decide +kernel⟩
theorem ct_Mo_give {l : Launch} {P : PP} {q : PL} {s s' : S1} {l1 : Int32} {l2 : Int64} {r : Unit} (h : M_Mo_give l1 l2 s = some (r, s')) : Ct l y_Mo_give b_Mo_give 4 none 1 23 P q s [.ref (q.1 0 0), .int l1, .long l2] none q s' := by
  refine ct_of (by decide) (Nat.le_of_ble_eq_true rfl) fun X ls eP el g hR hl => ?_
  subst eP
  have hR : Rt X q ((r, s') : Unit × S1).2 none := hR
  have hl : lv_has ls 4 [(0, .ref (q.1 0 0)), (1, .int l1), (2, .long l2)] := hl
  generalize (r, s') = o at h hR
  unfold M_Mo_give at h
  refine ww_aload_n (pc := 0) g.1 d_Mo_give_0 rfl (lv_at hl 0 rfl) ?_
  refine ww_gR (pc := 1) g (k := 78) cl_Mo (pz rfl (by decide)) (by decide) (Or.inl kw_178) (f := 78) (t := 10) rfl rfl rfl d_Mo_give_1 ?_
  refine ww_iconst (pc := 4) g.1 (v := 0) d_Mo_give_4 (by decide) ?_
  refine ww_pI (pc := 5) g (k := 2) (cl_Va (Or.inl ⟨by decide, rfl⟩)) (pz rfl (by decide)) (by decide) (Or.inl kw_179) rfl (f := 1282) rfl rfl rfl rfl d_Mo_give_5 h fun s hs h => ?_
  refine ww_aload_n (pc := 8) g.1 d_Mo_give_8 rfl (lv_at hl 0 rfl) ?_
  refine ww_gR (pc := 9) g (k := 78) cl_Mo (pz rfl (by decide)) (by decide) (Or.inl kw_178) (f := 78) (t := 10) rfl rfl rfl d_Mo_give_9 ?_
  refine ww_iload_n (pc := 12) g.1 d_Mo_give_12 rfl (lv_at hl 1 rfl) ?_
  refine ww_lload_n (pc := 13) g.1 d_Mo_give_13 rfl (lv_at hl 2 rfl) ?_
  obtain ⟨v14, s, hc14, h⟩ := oB_of h
  refine ww_callV (pc := 14) (rest := []) g cv_Va_add (Or.inl kw_187) (cl_Va (Or.inl ⟨by decide, rfl⟩)) (pz rfl (by decide)) (ct_Va_add (Or.inl ⟨by decide, rfl⟩) hc14) ⟨by decide, by decide⟩ rfl hl.1 (Nat.le_of_ble_eq_true rfl) d_Mo_give_14 rfl ?_
  refine ww_st (st' := []) rfl ?_
  refine ww_aload_n (pc := 17) g.1 d_Mo_give_17 rfl (lv_at hl 0 rfl) ?_
  refine ww_iconst (pc := 18) g.1 (v := 2) d_Mo_give_18 (by decide) ?_
  refine ww_pI (pc := 19) g (k := 73) cl_Mo (pz rfl (by decide)) (by decide) (Or.inl kw_75) rfl (f := 73) rfl rfl rfl rfl d_Mo_give_19 h fun s hs h => ?_
  exact ww_vretH (pc := 22) g h hR d_Mo_give_22

abbrev b_Mo_pcall : ByteArray := prog_14_method_86_code
def y_Mo_pcall : MethodName := ⟨R_Mo, "pcall", "()V"⟩
abbrev w_Mo_pcall : List Cond := .code y_Mo_pcall b_Mo_pcall 2 none :: wA
theorem k_Mo_pcall : Cond.code y_Mo_pcall b_Mo_pcall 2 none ∈ wA := kinm (show _ ∈ tables_1 from (List.mem_append_right _ (List.mem_append_right _ (List.mem_append_right _ (List.mem_append_right _ (List.mem_append_right _ (List.mem_append_right _ (List.mem_append_right _ (List.mem_append_right _ (List.mem_append_right _ (List.mem_append_right _ (List.mem_append_right _ (List.mem_append_left _ (List.mem_of_getElem? (l := tables_1_12) (i := 232) (by decide +kernel))))))))))))))) (by decide +kernel)
theorem d_Mo_pcall_0 : decode b_Mo_pcall 0 = .ok (.aload_n 0, 1) := by decide +kernel
theorem d_Mo_pcall_1 : decode b_Mo_pcall 1 = .ok (.iconst 1, 1) := by decide +kernel
theorem d_Mo_pcall_2 : decode b_Mo_pcall 2 = .ok (.iconst (-1), 1) := by decide +kernel
theorem d_Mo_pcall_3 : decode b_Mo_pcall 3 = .ok (.invokevirtual 755, 3) := by decide +kernel
theorem d_Mo_pcall_6 : decode b_Mo_pcall 6 = .ok (.ifCond .ne 12, 3) := by decide +kernel
theorem d_Mo_pcall_9 : decode b_Mo_pcall 9 = .ok (.aload_n 0, 1) := by decide +kernel
theorem d_Mo_pcall_10 : decode b_Mo_pcall 10 = .ok (.getfield 259, 3) := by decide +kernel
theorem d_Mo_pcall_13 : decode b_Mo_pcall 13 = .ok (.iconst 0, 1) := by decide +kernel
theorem d_Mo_pcall_14 : decode b_Mo_pcall 14 = .ok (.putfield 569, 3) := by decide +kernel
theorem d_Mo_pcall_17 : decode b_Mo_pcall 17 = .ok (.return_, 1) := by decide +kernel
theorem d_Mo_pcall_18 : decode b_Mo_pcall 18 = .ok (.aload_n 0, 1) := by decide +kernel
theorem d_Mo_pcall_19 : decode b_Mo_pcall 19 = .ok (.aload_n 0, 1) := by decide +kernel
theorem d_Mo_pcall_20 : decode b_Mo_pcall 20 = .ok (.iconst 0, 1) := by decide +kernel
theorem d_Mo_pcall_21 : decode b_Mo_pcall 21 = .ok (.invokevirtual 797, 3) := by decide +kernel
theorem d_Mo_pcall_24 : decode b_Mo_pcall 24 = .ok (.putfield 253, 3) := by decide +kernel
theorem d_Mo_pcall_27 : decode b_Mo_pcall 27 = .ok (.aload_n 0, 1) := by decide +kernel
theorem d_Mo_pcall_28 : decode b_Mo_pcall 28 = .ok (.aload_n 0, 1) := by decide +kernel
theorem d_Mo_pcall_29 : decode b_Mo_pcall 29 = .ok (.iconst 0, 1) := by decide +kernel
theorem d_Mo_pcall_30 : decode b_Mo_pcall 30 = .ok (.invokevirtual 807, 3) := by decide +kernel
theorem d_Mo_pcall_33 : decode b_Mo_pcall 33 = .ok (.putfield 256, 3) := by decide +kernel
theorem d_Mo_pcall_36 : decode b_Mo_pcall 36 = .ok (.iconst 1, 1) := by decide +kernel
theorem d_Mo_pcall_37 : decode b_Mo_pcall 37 = .ok (.istore_n 1, 1) := by decide +kernel
theorem d_Mo_pcall_38 : decode b_Mo_pcall 38 = .ok (.iload_n 1, 1) := by decide +kernel
theorem d_Mo_pcall_39 : decode b_Mo_pcall 39 = .ok (.aload_n 0, 1) := by decide +kernel
theorem d_Mo_pcall_40 : decode b_Mo_pcall 40 = .ok (.getfield 259, 3) := by decide +kernel
theorem d_Mo_pcall_43 : decode b_Mo_pcall 43 = .ok (.getfield 569, 3) := by decide +kernel
theorem d_Mo_pcall_46 : decode b_Mo_pcall 46 = .ok (.if_icmp .ge 24, 3) := by decide +kernel
theorem d_Mo_pcall_49 : decode b_Mo_pcall 49 = .ok (.aload_n 0, 1) := by decide +kernel
theorem d_Mo_pcall_50 : decode b_Mo_pcall 50 = .ok (.getfield 259, 3) := by decide +kernel
theorem d_Mo_pcall_53 : decode b_Mo_pcall 53 = .ok (.iload_n 1, 1) := by decide +kernel
theorem d_Mo_pcall_54 : decode b_Mo_pcall 54 = .ok (.iconst 1, 1) := by decide +kernel
theorem d_Mo_pcall_55 : decode b_Mo_pcall 55 = .ok (.isub, 1) := by decide +kernel
theorem d_Mo_pcall_56 : decode b_Mo_pcall 56 = .ok (.aload_n 0, 1) := by decide +kernel
theorem d_Mo_pcall_57 : decode b_Mo_pcall 57 = .ok (.getfield 259, 3) := by decide +kernel
theorem d_Mo_pcall_60 : decode b_Mo_pcall 60 = .ok (.iload_n 1, 1) := by decide +kernel
theorem d_Mo_pcall_61 : decode b_Mo_pcall 61 = .ok (.invokevirtual 719, 3) := by decide +kernel
theorem d_Mo_pcall_64 : decode b_Mo_pcall 64 = .ok (.iinc 1 1, 3) := by decide +kernel
theorem d_Mo_pcall_67 : decode b_Mo_pcall 67 = .ok (.goto (-29), 3) := by decide +kernel
theorem d_Mo_pcall_70 : decode b_Mo_pcall 70 = .ok (.aload_n 0, 1) := by decide +kernel
theorem d_Mo_pcall_71 : decode b_Mo_pcall 71 = .ok (.getfield 259, 3) := by decide +kernel
theorem d_Mo_pcall_74 : decode b_Mo_pcall 74 = .ok (.getfield 569, 3) := by decide +kernel
theorem d_Mo_pcall_77 : decode b_Mo_pcall 77 = .ok (.ifCond .le 16, 3) := by decide +kernel
theorem d_Mo_pcall_80 : decode b_Mo_pcall 80 = .ok (.aload_n 0, 1) := by decide +kernel
theorem d_Mo_pcall_81 : decode b_Mo_pcall 81 = .ok (.getfield 259, 3) := by decide +kernel
theorem d_Mo_pcall_84 : decode b_Mo_pcall 84 = .ok (.dup, 1) := by decide +kernel
theorem d_Mo_pcall_85 : decode b_Mo_pcall 85 = .ok (.getfield 569, 3) := by decide +kernel
theorem d_Mo_pcall_88 : decode b_Mo_pcall 88 = .ok (.iconst 1, 1) := by decide +kernel
theorem d_Mo_pcall_89 : decode b_Mo_pcall 89 = .ok (.isub, 1) := by decide +kernel
theorem d_Mo_pcall_90 : decode b_Mo_pcall 90 = .ok (.putfield 569, 3) := by decide +kernel
theorem d_Mo_pcall_93 : decode b_Mo_pcall 93 = .ok (.aload_n 0, 1) := by decide +kernel
theorem d_Mo_pcall_94 : decode b_Mo_pcall 94 = .ok (.iconst 1, 1) := by decide +kernel
theorem d_Mo_pcall_95 : decode b_Mo_pcall 95 = .ok (.putfield 247, 3) := by decide +kernel
theorem d_Mo_pcall_98 : decode b_Mo_pcall 98 = .ok (.return_, 1) := by decide +kernel
theorem kw_190 : Cond.methodLink R_Mo 755 y_Mo_push ∈ wA := kinm (show _ ∈ tables_1 from (List.mem_append_right _ (List.mem_append_right _ (List.mem_append_right _ (List.mem_append_right _ (List.mem_append_right _ (List.mem_append_right _ (List.mem_append_right _ (List.mem_append_right _ (List.mem_append_right _ (List.mem_append_right _ (List.mem_append_right _ (List.mem_append_left _ (List.mem_of_getElem? (l := tables_1_12) (i := 138) (by decide +kernel))))))))))))))) (by decide +kernel)
theorem kw_191 : Cond.methodLink R_Mo 797 y_Mo_ak ∈ wA := kinm (show _ ∈ tables_1 from (List.mem_append_right _ (List.mem_append_right _ (List.mem_append_right _ (List.mem_append_right _ (List.mem_append_right _ (List.mem_append_right _ (List.mem_append_right _ (List.mem_append_right _ (List.mem_append_right _ (List.mem_append_right _ (List.mem_append_right _ (List.mem_append_left _ (List.mem_of_getElem? (l := tables_1_12) (i := 217) (by decide +kernel))))))))))))))) (by decide +kernel)
theorem kw_192 : Cond.fieldLink R_Mo 253 "LuaMachineModel" "calledKind" "I" ∈ wA := kinm (show _ ∈ tables_1 from (List.mem_append_right _ (List.mem_append_right _ (List.mem_append_right _ (List.mem_append_right _ (List.mem_append_right _ (List.mem_append_right _ (List.mem_append_right _ (List.mem_append_right _ (List.mem_append_right _ (List.mem_append_left _ (List.mem_of_getElem? (l := tables_1_10) (i := 131) (by decide +kernel))))))))))))) (by decide +kernel)
theorem kw_193 : Cond.methodLink R_Mo 807 y_Mo_av ∈ wA := kinm (show _ ∈ tables_1 from (List.mem_append_right _ (List.mem_append_right _ (List.mem_append_right _ (List.mem_append_right _ (List.mem_append_right _ (List.mem_append_right _ (List.mem_append_right _ (List.mem_append_right _ (List.mem_append_right _ (List.mem_append_right _ (List.mem_append_right _ (List.mem_append_left _ (List.mem_of_getElem? (l := tables_1_12) (i := 221) (by decide +kernel))))))))))))))) (by decide +kernel)
theorem kw_194 : Cond.fieldLink R_Mo 256 "LuaMachineModel" "called" "J" ∈ wA := kinm (show _ ∈ tables_1 from (List.mem_append_right _ (List.mem_append_right _ (List.mem_append_right _ (List.mem_append_right _ (List.mem_append_right _ (List.mem_append_right _ (List.mem_append_right _ (List.mem_append_right _ (List.mem_append_right _ (List.mem_append_left _ (List.mem_of_getElem? (l := tables_1_10) (i := 132) (by decide +kernel))))))))))))) (by decide +kernel)
theorem kw_195 : Cond.methodLink R_Mo 719 y_Va_set_ ∈ wA := kinm (show _ ∈ tables_1 from (List.mem_append_right _ (List.mem_append_right _ (List.mem_append_right _ (List.mem_append_right _ (List.mem_append_right _ (List.mem_append_right _ (List.mem_append_right _ (List.mem_append_right _ (List.mem_append_right _ (List.mem_append_right _ (List.mem_append_right _ (List.mem_append_left _ (List.mem_of_getElem? (l := tables_1_12) (i := 142) (by decide +kernel))))))))))))))) (by decide +kernel)
theorem kw_196 : Cond.instanceMethod y_Mo_pcall ∈ wA := kinm (show _ ∈ tables_1 from (List.mem_append_right _ (List.mem_append_right _ (List.mem_append_right _ (List.mem_append_right _ (List.mem_append_right _ (List.mem_append_right _ (List.mem_append_right _ (List.mem_append_right _ (List.mem_append_right _ (List.mem_append_right _ (List.mem_append_right _ (List.mem_append_left _ (List.mem_of_getElem? (l := tables_1_12) (i := 231) (by decide +kernel))))))))))))))) (by decide +kernel)
theorem kw_197 : Cond.selects R_Mo y_Mo_pcall y_Mo_pcall ∈ wA := kinp 172 (by decide +kernel) (by decide +kernel)
theorem cv_Mo_pcall : CV y_Mo_pcall b_Mo_pcall 2 none 0 := ⟨kw_196, kw_197, kw_17, k_Mo_pcall, by decide +kernel⟩
theorem lp_Mo_pcall_L38 {X : Cx} {q : PL} (g : Gd X y_Mo_pcall b_Mo_pcall 2 none 2 45 R_Mo) (x : Int32) (s : S1) (o : ((Int32) ⊕ ((Unit))) × S1) (h : M_Mo_pcall_L38 x s = some o) (hR : (Sum.elim (fun y : Int32 => ∀ ls : Array Slot, lv_has ls 2 [(0, .ref (q.1 0 0)), (1, .int y)] → WW X q o.2 38 ls []) (fun y : Unit => ∀ ls : Array Slot, lv_has ls 2 [(0, .ref (q.1 0 0))] → WW X q o.2 70 ls []) o.1)) : ∀ ls : Array Slot, lv_has ls 2 [(0, .ref (q.1 0 0)), (1, .int x)] → WW X q s 38 ls [] := by
  intro ls hl
  unfold M_Mo_pcall_L38 at h
  refine ww_iload_n (pc := 38) g.1 d_Mo_pcall_38 rfl (lv_at hl 1 rfl) ?_
  refine ww_aload_n (pc := 39) g.1 d_Mo_pcall_39 rfl (lv_at hl 0 rfl) ?_
  refine ww_gR (pc := 40) g (k := 77) cl_Mo (pz rfl (by decide)) (by decide) (Or.inl kw_182) (f := 77) (t := 7) rfl rfl rfl d_Mo_pcall_40 ?_
  refine ww_gI (pc := 43) g (k := 2) (cl_Va (Or.inl ⟨by decide, rfl⟩)) (pz rfl (by decide)) (by decide) (Or.inl kw_179) (f := 898) rfl rfl d_Mo_pcall_43 h fun v43 h => ?_
  refine ww_icmp_ge (pc := 46) (tgt := 70) g.1 d_Mo_pcall_46 (by decide) h (fun c h => ?_) (fun c h => ?_)
  · rw [oR_eq h] at hR
    exact hR ls (lv_sub hl [0] rfl)
  · refine ww_aload_n (pc := 49) g.1 d_Mo_pcall_49 rfl (lv_at hl 0 rfl) ?_
    refine ww_gR (pc := 50) g (k := 77) cl_Mo (pz rfl (by decide)) (by decide) (Or.inl kw_182) (f := 77) (t := 7) rfl rfl rfl d_Mo_pcall_50 ?_
    refine ww_iload_n (pc := 53) g.1 d_Mo_pcall_53 rfl (lv_at hl 1 rfl) ?_
    refine ww_iconst (pc := 54) g.1 (v := 1) d_Mo_pcall_54 (by decide) ?_
    refine ww_isub (pc := 55) g.1 d_Mo_pcall_55 ?_
    refine ww_aload_n (pc := 56) g.1 d_Mo_pcall_56 rfl (lv_at hl 0 rfl) ?_
    refine ww_gR (pc := 57) g (k := 77) cl_Mo (pz rfl (by decide)) (by decide) (Or.inl kw_182) (f := 77) (t := 7) rfl rfl rfl d_Mo_pcall_57 ?_
    refine ww_iload_n (pc := 60) g.1 d_Mo_pcall_60 rfl (lv_at hl 1 rfl) ?_
    obtain ⟨v61, s, hc61, h⟩ := oB_of h
    refine ww_callV (pc := 61) (rest := []) g cv_Va_set_ (Or.inl kw_195) (cl_Va (Or.inl ⟨by decide, rfl⟩)) (pz rfl (by decide)) (ct_Va_set_ (Or.inl ⟨by decide, rfl⟩) (Or.inl ⟨by decide, rfl⟩) hc61) ⟨by decide, by decide⟩ rfl hl.1 (Nat.le_of_ble_eq_true rfl) d_Mo_pcall_61 rfl ?_
    refine ww_st (st' := []) rfl ?_
    refine ww_iinc (pc := 64) g.1 (v := x + 1) (lv' := [(1, .int (x + 1)), (0, .ref (q.1 0 0))]) d_Mo_pcall_64 hl (k := 1) rfl (by rfl) (by decide) rfl fun ls hl => ?_
    refine ww_goto (pc := 67) (tgt := 38) g.1 d_Mo_pcall_67 (by decide) ?_
    rw [oR_eq h] at hR
    exact hR ls (lv_sub hl [1, 0] rfl)

theorem j_Mo_pcall_j93 {X : Cx} {q : PL} (g : Gd X y_Mo_pcall b_Mo_pcall 2 none 2 45 R_Mo) {o : (Unit) × S1} (hR : Rt X q o.2 none)  (s : S1) (ls : Array Slot) (hl : lv_has ls 2 [(0, .ref (q.1 0 0))]) (h : M_Mo_pcall_j93 s = some o) : WW X q s 93 ls [] := by
  unfold M_Mo_pcall_j93 at h
  refine ww_aload_n (pc := 93) g.1 d_Mo_pcall_93 rfl (lv_at hl 0 rfl) ?_
  refine ww_iconst (pc := 94) g.1 (v := 1) d_Mo_pcall_94 (by decide) ?_
  refine ww_pI (pc := 95) g (k := 73) cl_Mo (pz rfl (by decide)) (by decide) (Or.inl kw_75) rfl (f := 73) rfl rfl rfl rfl d_Mo_pcall_95 h fun s hs h => ?_
  exact ww_vretH (pc := 98) g h hR d_Mo_pcall_98

theorem ct_Mo_pcall {l : Launch} {P : PP} {q : PL} {s s' : S1}  {r : Unit} (h : M_Mo_pcall s = some (r, s')) : Ct l y_Mo_pcall b_Mo_pcall 2 none 2 45 P q s [.ref (q.1 0 0)] none q s' := by
  refine ct_of (by decide) (Nat.le_of_ble_eq_true rfl) fun X ls eP el g hR hl => ?_
  subst eP
  have hR : Rt X q ((r, s') : Unit × S1).2 none := hR
  have hl : lv_has ls 2 [(0, .ref (q.1 0 0))] := hl
  generalize (r, s') = o at h hR
  unfold M_Mo_pcall at h
  refine ww_aload_n (pc := 0) g.1 d_Mo_pcall_0 rfl (lv_at hl 0 rfl) ?_
  refine ww_iconst (pc := 1) g.1 (v := 1) d_Mo_pcall_1 (by decide) ?_
  refine ww_iconst (pc := 2) g.1 (v := (-1)) d_Mo_pcall_2 (by decide) ?_
  obtain ⟨v3, s, hc3, h⟩ := oB_of h
  refine ww_callV (pc := 3) (rest := []) g cv_Mo_push (Or.inl kw_190) cl_Mo (pz rfl (by decide)) (ct_Mo_push hc3) ⟨by decide, by decide⟩ rfl hl.1 (Nat.le_of_ble_eq_true rfl) d_Mo_pcall_3 rfl ?_
  refine ww_st (st' := [.int v3]) rfl ?_
  refine ww_if_ne (pc := 6) (tgt := 18) g.1 d_Mo_pcall_6 (by decide) h (fun c h => ?_) (fun c h => ?_)
  · refine ww_aload_n (pc := 18) g.1 d_Mo_pcall_18 rfl (lv_at hl 0 rfl) ?_
    refine ww_aload_n (pc := 19) g.1 d_Mo_pcall_19 rfl (lv_at hl 0 rfl) ?_
    refine ww_iconst (pc := 20) g.1 (v := 0) d_Mo_pcall_20 (by decide) ?_
    obtain ⟨v21, s, hc21, h⟩ := oB_of h
    refine ww_callV (pc := 21) (rest := [.ref (q.1 0 0)]) g cv_Mo_ak (Or.inl kw_191) cl_Mo (pz rfl (by decide)) (ct_Mo_ak hc21) ⟨by decide, by decide⟩ rfl hl.1 (Nat.le_of_ble_eq_true rfl) d_Mo_pcall_21 rfl ?_
    refine ww_st (st' := [.int v21, .ref (q.1 0 0)]) rfl ?_
    refine ww_pI (pc := 24) g (k := 75) cl_Mo (pz rfl (by decide)) (by decide) (Or.inl kw_192) rfl (f := 75) rfl rfl rfl rfl d_Mo_pcall_24 h fun s hs h => ?_
    refine ww_aload_n (pc := 27) g.1 d_Mo_pcall_27 rfl (lv_at hl 0 rfl) ?_
    refine ww_aload_n (pc := 28) g.1 d_Mo_pcall_28 rfl (lv_at hl 0 rfl) ?_
    refine ww_iconst (pc := 29) g.1 (v := 0) d_Mo_pcall_29 (by decide) ?_
    obtain ⟨v30, s, hc30, h⟩ := oB_of h
    refine ww_callV (pc := 30) (rest := [.ref (q.1 0 0)]) g cv_Mo_av (Or.inl kw_193) cl_Mo (pz rfl (by decide)) (ct_Mo_av hc30) ⟨by decide, by decide⟩ rfl hl.1 (Nat.le_of_ble_eq_true rfl) d_Mo_pcall_30 rfl ?_
    refine ww_st (st' := [.long v30, .ref (q.1 0 0)]) rfl ?_
    refine ww_pL (pc := 33) g (k := 76) cl_Mo (pz rfl (by decide)) (by decide) (Or.inl kw_194) rfl (f := 76) rfl rfl rfl rfl d_Mo_pcall_33 h fun s hs h => ?_
    refine ww_iconst (pc := 36) g.1 (v := 1) d_Mo_pcall_36 (by decide) ?_
    refine ww_istore_n (pc := 37) (i := 1) g.1 (lv' := [(1, .int 1), (0, .ref (q.1 0 0))]) d_Mo_pcall_37 rfl hl (by decide) rfl fun ls hl => ?_
    obtain ⟨e38, s1, hw, h⟩ := oB_of h
    refine oW_rule (Wh := fun (x : Int32) (s : S1) => ∀ ls : Array Slot, lv_has ls 2 [(0, .ref (q.1 0 0)), (1, .int x)] → WW X q s 38 ls []) (We := fun (e : (Unit)) (s : S1) => ∀ ls : Array Slot, lv_has ls 2 [(0, .ref (q.1 0 0))] → WW X q s 70 ls []) (fun x s o hb hc => lp_Mo_pcall_L38 (q := q) g x s o hb hc) hw ?_ ls (lv_sub hl [1, 0] rfl)
    clear hw hl
    clear ls
    intro ls hl
    generalize s1 = s at h ⊢
    refine ww_aload_n (pc := 70) g.1 d_Mo_pcall_70 rfl (lv_at hl 0 rfl) ?_
    refine ww_gR (pc := 71) g (k := 77) cl_Mo (pz rfl (by decide)) (by decide) (Or.inl kw_182) (f := 77) (t := 7) rfl rfl rfl d_Mo_pcall_71 ?_
    refine ww_gI (pc := 74) g (k := 2) (cl_Va (Or.inl ⟨by decide, rfl⟩)) (pz rfl (by decide)) (by decide) (Or.inl kw_179) (f := 898) rfl rfl d_Mo_pcall_74 h fun v74 h => ?_
    refine ww_if_le (pc := 77) (tgt := 93) g.1 d_Mo_pcall_77 (by decide) h (fun c h => ?_) (fun c h => ?_)
    · exact j_Mo_pcall_j93 g hR s ls (lv_sub hl [0] rfl) h
    · refine ww_aload_n (pc := 80) g.1 d_Mo_pcall_80 rfl (lv_at hl 0 rfl) ?_
      refine ww_gR (pc := 81) g (k := 77) cl_Mo (pz rfl (by decide)) (by decide) (Or.inl kw_182) (f := 77) (t := 7) rfl rfl rfl d_Mo_pcall_81 ?_
      refine ww_dup (pc := 84) g.1 d_Mo_pcall_84 rfl ?_
      refine ww_gI (pc := 85) g (k := 2) (cl_Va (Or.inl ⟨by decide, rfl⟩)) (pz rfl (by decide)) (by decide) (Or.inl kw_179) (f := 898) rfl rfl d_Mo_pcall_85 h fun v85 h => ?_
      refine ww_iconst (pc := 88) g.1 (v := 1) d_Mo_pcall_88 (by decide) ?_
      refine ww_isub (pc := 89) g.1 d_Mo_pcall_89 ?_
      refine ww_pI (pc := 90) g (k := 2) (cl_Va (Or.inl ⟨by decide, rfl⟩)) (pz rfl (by decide)) (by decide) (Or.inl kw_179) rfl (f := 898) rfl rfl rfl rfl d_Mo_pcall_90 h fun s hs h => ?_
      exact j_Mo_pcall_j93 g hR s ls (lv_sub hl [0] rfl) h
  · refine ww_aload_n (pc := 9) g.1 d_Mo_pcall_9 rfl (lv_at hl 0 rfl) ?_
    refine ww_gR (pc := 10) g (k := 77) cl_Mo (pz rfl (by decide)) (by decide) (Or.inl kw_182) (f := 77) (t := 7) rfl rfl rfl d_Mo_pcall_10 ?_
    refine ww_iconst (pc := 13) g.1 (v := 0) d_Mo_pcall_13 (by decide) ?_
    refine ww_pI (pc := 14) g (k := 2) (cl_Va (Or.inl ⟨by decide, rfl⟩)) (pz rfl (by decide)) (by decide) (Or.inl kw_179) rfl (f := 898) rfl rfl rfl rfl d_Mo_pcall_14 h fun s hs h => ?_
    exact ww_vretH (pc := 17) g h hR d_Mo_pcall_17

abbrev b_Mo_is : ByteArray := prog_14_method_84_code
def y_Mo_is : MethodName := ⟨R_Mo, "is", "(II)Z"⟩
abbrev w_Mo_is : List Cond := .code y_Mo_is b_Mo_is 3 (some .boolean) :: wA
theorem k_Mo_is : Cond.code y_Mo_is b_Mo_is 3 (some .boolean) ∈ wA := kinm (show _ ∈ tables_1 from (List.mem_append_right _ (List.mem_append_right _ (List.mem_append_right _ (List.mem_append_right _ (List.mem_append_right _ (List.mem_append_right _ (List.mem_append_right _ (List.mem_append_right _ (List.mem_append_right _ (List.mem_append_right _ (List.mem_append_right _ (List.mem_append_right _ (List.mem_append_left _ (List.mem_of_getElem? (l := tables_1_13) (i := 0) (by decide +kernel)))))))))))))))) (by decide +kernel)
theorem d_Mo_is_0 : decode b_Mo_is 0 = .ok (.aload_n 0, 1) := by decide +kernel
theorem d_Mo_is_1 : decode b_Mo_is 1 = .ok (.iload_n 1, 1) := by decide +kernel
theorem d_Mo_is_2 : decode b_Mo_is 2 = .ok (.invokevirtual 797, 3) := by decide +kernel
theorem d_Mo_is_5 : decode b_Mo_is 5 = .ok (.iload_n 2, 1) := by decide +kernel
theorem d_Mo_is_6 : decode b_Mo_is 6 = .ok (.if_icmp .ne 7, 3) := by decide +kernel
theorem d_Mo_is_9 : decode b_Mo_is 9 = .ok (.iconst 1, 1) := by decide +kernel
theorem d_Mo_is_10 : decode b_Mo_is 10 = .ok (.goto 4, 3) := by decide +kernel
theorem d_Mo_is_13 : decode b_Mo_is 13 = .ok (.iconst 0, 1) := by decide +kernel
theorem d_Mo_is_14 : decode b_Mo_is 14 = .ok (.ireturn, 1) := by decide +kernel
theorem kw_198 : Cond.instanceMethod y_Mo_is ∈ wA := kinm (show _ ∈ tables_1 from (List.mem_append_right _ (List.mem_append_right _ (List.mem_append_right _ (List.mem_append_right _ (List.mem_append_right _ (List.mem_append_right _ (List.mem_append_right _ (List.mem_append_right _ (List.mem_append_right _ (List.mem_append_right _ (List.mem_append_right _ (List.mem_append_left _ (List.mem_of_getElem? (l := tables_1_12) (i := 239) (by decide +kernel))))))))))))))) (by decide +kernel)
theorem kw_199 : Cond.selects R_Mo y_Mo_is y_Mo_is ∈ wA := kinp 174 (by decide +kernel) (by decide +kernel)
theorem cv_Mo_is : CV y_Mo_is b_Mo_is 3 (some .boolean) 2 := ⟨kw_198, kw_199, kw_17, k_Mo_is, by decide +kernel⟩
theorem ct_Mo_is {l : Launch} {P : PP} {q : PL} {s s' : S1} {l1 : Int32} {l2 : Int32} {r : Int32} (h : M_Mo_is l1 l2 s = some (r, s')) : Ct l y_Mo_is b_Mo_is 3 (some .boolean) 1 21 P q s [.ref (q.1 0 0), .int l1, .int l2] (some (.int r)) q s' := by
  refine ct_of (by decide) (Nat.le_of_ble_eq_true rfl) fun X ls eP el g hR hl => ?_
  subst eP
  have hR : Rt X q ((r, s') : Int32 × S1).2 (some (.int ((r, s') : Int32 × S1).1)) := hR
  have hl : lv_has ls 3 [(0, .ref (q.1 0 0)), (1, .int l1), (2, .int l2)] := hl
  generalize (r, s') = o at h hR
  unfold M_Mo_is at h
  refine ww_aload_n (pc := 0) g.1 d_Mo_is_0 rfl (lv_at hl 0 rfl) ?_
  refine ww_iload_n (pc := 1) g.1 d_Mo_is_1 rfl (lv_at hl 1 rfl) ?_
  obtain ⟨v2, s, hc2, h⟩ := oB_of h
  refine ww_callV (pc := 2) (rest := []) g cv_Mo_ak (Or.inl kw_191) cl_Mo (pz rfl (by decide)) (ct_Mo_ak hc2) ⟨by decide, by decide⟩ rfl hl.1 (Nat.le_of_ble_eq_true rfl) d_Mo_is_2 rfl ?_
  refine ww_st (st' := [.int v2]) rfl ?_
  refine ww_iload_n (pc := 5) g.1 d_Mo_is_5 rfl (lv_at hl 2 rfl) ?_
  refine ww_icmp_ne (pc := 6) (tgt := 13) g.1 d_Mo_is_6 (by decide) h (fun c h => ?_) (fun c h => ?_)
  · refine ww_iconst (pc := 13) g.1 (v := 0) d_Mo_is_13 (by decide) ?_
    exact ww_zretH (pc := 14) g h hR (Or.inl rfl) d_Mo_is_14
  · refine ww_iconst (pc := 9) g.1 (v := 1) d_Mo_is_9 (by decide) ?_
    refine ww_goto (pc := 10) (tgt := 14) g.1 d_Mo_is_10 (by decide) ?_
    exact ww_zretH (pc := 14) g h hR (Or.inr rfl) d_Mo_is_14

abbrev b_Mo_isMark : ByteArray := prog_14_method_92_code
def y_Mo_isMark : MethodName := ⟨R_Mo, "isMark", "(I)Z"⟩
abbrev w_Mo_isMark : List Cond := .code y_Mo_isMark b_Mo_isMark 2 (some .boolean) :: wA
theorem k_Mo_isMark : Cond.code y_Mo_isMark b_Mo_isMark 2 (some .boolean) ∈ wA := kinm (show _ ∈ tables_1 from (List.mem_append_right _ (List.mem_append_right _ (List.mem_append_right _ (List.mem_append_right _ (List.mem_append_right _ (List.mem_append_right _ (List.mem_append_right _ (List.mem_append_right _ (List.mem_append_right _ (List.mem_append_right _ (List.mem_append_right _ (List.mem_append_right _ (List.mem_append_left _ (List.mem_of_getElem? (l := tables_1_13) (i := 24) (by decide +kernel)))))))))))))))) (by decide +kernel)
theorem d_Mo_isMark_0 : decode b_Mo_isMark 0 = .ok (.aload_n 0, 1) := by decide +kernel
theorem d_Mo_isMark_1 : decode b_Mo_isMark 1 = .ok (.getfield 171, 3) := by decide +kernel
theorem d_Mo_isMark_4 : decode b_Mo_isMark 4 = .ok (.iload_n 1, 1) := by decide +kernel
theorem d_Mo_isMark_5 : decode b_Mo_isMark 5 = .ok (.iaload, 1) := by decide +kernel
theorem d_Mo_isMark_6 : decode b_Mo_isMark 6 = .ok (.iconst 1, 1) := by decide +kernel
theorem d_Mo_isMark_7 : decode b_Mo_isMark 7 = .ok (.if_icmp .ne 23, 3) := by decide +kernel
theorem d_Mo_isMark_10 : decode b_Mo_isMark 10 = .ok (.aload_n 0, 1) := by decide +kernel
theorem d_Mo_isMark_11 : decode b_Mo_isMark 11 = .ok (.getfield 187, 3) := by decide +kernel
theorem d_Mo_isMark_14 : decode b_Mo_isMark 14 = .ok (.aload_n 0, 1) := by decide +kernel
theorem d_Mo_isMark_15 : decode b_Mo_isMark 15 = .ok (.getfield 168, 3) := by decide +kernel
theorem d_Mo_isMark_18 : decode b_Mo_isMark 18 = .ok (.iload_n 1, 1) := by decide +kernel
theorem d_Mo_isMark_19 : decode b_Mo_isMark 19 = .ok (.iaload, 1) := by decide +kernel
theorem d_Mo_isMark_20 : decode b_Mo_isMark 20 = .ok (.baload, 1) := by decide +kernel
theorem d_Mo_isMark_21 : decode b_Mo_isMark 21 = .ok (.bipush 35, 2) := by decide +kernel
theorem d_Mo_isMark_23 : decode b_Mo_isMark 23 = .ok (.if_icmp .ne 7, 3) := by decide +kernel
theorem d_Mo_isMark_26 : decode b_Mo_isMark 26 = .ok (.iconst 1, 1) := by decide +kernel
theorem d_Mo_isMark_27 : decode b_Mo_isMark 27 = .ok (.goto 4, 3) := by decide +kernel
theorem d_Mo_isMark_30 : decode b_Mo_isMark 30 = .ok (.iconst 0, 1) := by decide +kernel
theorem d_Mo_isMark_31 : decode b_Mo_isMark 31 = .ok (.ireturn, 1) := by decide +kernel
theorem kw_200 : Cond.fieldLink R_Mo 187 "LuaMachineModel" "text" "[B" ∈ wA := kinm (show _ ∈ tables_1 from (List.mem_append_right _ (List.mem_append_right _ (List.mem_append_right _ (List.mem_append_right _ (List.mem_append_right _ (List.mem_append_right _ (List.mem_append_right _ (List.mem_append_right _ (List.mem_append_right _ (List.mem_append_left _ (List.mem_of_getElem? (l := tables_1_10) (i := 111) (by decide +kernel))))))))))))) (by decide +kernel)
theorem kw_201 : Cond.instanceMethod y_Mo_isMark ∈ wA := kinm (show _ ∈ tables_1 from (List.mem_append_right _ (List.mem_append_right _ (List.mem_append_right _ (List.mem_append_right _ (List.mem_append_right _ (List.mem_append_right _ (List.mem_append_right _ (List.mem_append_right _ (List.mem_append_right _ (List.mem_append_right _ (List.mem_append_right _ (List.mem_append_right _ (List.mem_append_left _ (List.mem_of_getElem? (l := tables_1_13) (i := 23) (by decide +kernel)))))))))))))))) (by decide +kernel)
theorem kw_202 : Cond.selects R_Mo y_Mo_isMark y_Mo_isMark ∈ wA := kinp 180 (by decide +kernel) (by decide +kernel)
theorem cv_Mo_isMark : CV y_Mo_isMark b_Mo_isMark 2 (some .boolean) 1 := ⟨kw_201, kw_202, kw_17, k_Mo_isMark, by decide +kernel⟩
theorem j_Mo_isMark_j30 {X : Cx} {q : PL} (g : Gd X y_Mo_isMark b_Mo_isMark 2 (some .boolean) 0 0 R_Mo) {o : (Int32) × S1} (hR : Rt X q o.2 (some (.int o.1)))  (s : S1) (ls : Array Slot) (hl : lv_has ls 2 []) (h : M_Mo_isMark_j30 s = some o) : WW X q s 30 ls [] := by
  unfold M_Mo_isMark_j30 at h
  refine ww_iconst (pc := 30) g.1 (v := 0) d_Mo_isMark_30 (by decide) ?_
  exact ww_zretH (pc := 31) g h hR (Or.inl rfl) d_Mo_isMark_31

theorem ct_Mo_isMark {l : Launch} {P : PP} {q : PL} {s s' : S1} {l1 : Int32} {r : Int32} (h : M_Mo_isMark l1 s = some (r, s')) : Ct l y_Mo_isMark b_Mo_isMark 2 (some .boolean) 0 0 P q s [.ref (q.1 0 0), .int l1] (some (.int r)) q s' := by
  refine ct_of (by decide) (Nat.le_of_ble_eq_true rfl) fun X ls eP el g hR hl => ?_
  subst eP
  have hR : Rt X q ((r, s') : Int32 × S1).2 (some (.int ((r, s') : Int32 × S1).1)) := hR
  have hl : lv_has ls 2 [(0, .ref (q.1 0 0)), (1, .int l1)] := hl
  generalize (r, s') = o at h hR
  unfold M_Mo_isMark at h
  refine ww_aload_n (pc := 0) g.1 d_Mo_isMark_0 rfl (lv_at hl 0 rfl) ?_
  refine ww_gR (pc := 1) g (k := 50) cl_Mo (pz rfl (by decide)) (by decide) (Or.inl kw_91) (f := 50) (t := 63) rfl rfl rfl d_Mo_isMark_1 ?_
  refine ww_iload_n (pc := 4) g.1 d_Mo_isMark_4 rfl (lv_at hl 1 rfl) ?_
  refine ww_ai (pc := 5) g (pz rfl (by decide)) rfl rfl d_Mo_isMark_5 h fun v5 h => ?_
  refine ww_iconst (pc := 6) g.1 (v := 1) d_Mo_isMark_6 (by decide) ?_
  refine ww_icmp_ne (pc := 7) (tgt := 30) g.1 d_Mo_isMark_7 (by decide) h (fun c h => ?_) (fun c h => ?_)
  · exact j_Mo_isMark_j30 g hR s ls (lv_sub hl [] rfl) h
  · refine ww_aload_n (pc := 10) g.1 d_Mo_isMark_10 rfl (lv_at hl 0 rfl) ?_
    refine ww_gR (pc := 11) g (k := 55) cl_Mo (pz rfl (by decide)) (by decide) (Or.inl kw_200) (f := 55) (t := 67) rfl rfl rfl d_Mo_isMark_11 ?_
    refine ww_aload_n (pc := 14) g.1 d_Mo_isMark_14 rfl (lv_at hl 0 rfl) ?_
    refine ww_gR (pc := 15) g (k := 49) cl_Mo (pz rfl (by decide)) (by decide) (Or.inl kw_87) (f := 49) (t := 62) rfl rfl rfl d_Mo_isMark_15 ?_
    refine ww_iload_n (pc := 18) g.1 d_Mo_isMark_18 rfl (lv_at hl 1 rfl) ?_
    refine ww_ai (pc := 19) g (pz rfl (by decide)) rfl rfl d_Mo_isMark_19 h fun v19 h => ?_
    refine ww_ab (pc := 20) g (pz rfl (by decide)) rfl rfl d_Mo_isMark_20 h fun v20 h => ?_
    refine ww_bipush (pc := 21) g.1 (v := 35) d_Mo_isMark_21 (by decide) ?_
    refine ww_icmp_ne (pc := 23) (tgt := 30) g.1 d_Mo_isMark_23 (by decide) h (fun c h => ?_) (fun c h => ?_)
    · exact j_Mo_isMark_j30 g hR s ls (lv_sub hl [] rfl) h
    · refine ww_iconst (pc := 26) g.1 (v := 1) d_Mo_isMark_26 (by decide) ?_
      refine ww_goto (pc := 27) (tgt := 31) g.1 d_Mo_isMark_27 (by decide) ?_
      exact ww_zretH (pc := 31) g h hR (Or.inr rfl) d_Mo_isMark_31

abbrev b_Va_add_ : ByteArray := prog_16_method_5_code
def y_Va_add_ : MethodName := ⟨R_Va, "add", "(LLuaMachineModel$Values;I)V"⟩
abbrev w_Va_add_ : List Cond := .code y_Va_add_ b_Va_add_ 3 none :: wA
theorem k_Va_add_ : Cond.code y_Va_add_ b_Va_add_ 3 none ∈ wA := kinm (show _ ∈ tables_1 from (List.mem_append_right _ (List.mem_append_right _ (List.mem_append_right _ (List.mem_append_right _ (List.mem_append_right _ (List.mem_append_right _ (List.mem_append_right _ (List.mem_append_right _ (List.mem_append_right _ (List.mem_append_right _ (List.mem_append_right _ (List.mem_append_right _ (List.mem_append_left _ (List.mem_of_getElem? (l := tables_1_13) (i := 28) (by decide +kernel)))))))))))))))) (by decide +kernel)
theorem d_Va_add__0 : decode b_Va_add_ 0 = .ok (.aload_n 0, 1) := by decide +kernel
theorem d_Va_add__1 : decode b_Va_add_ 1 = .ok (.aload_n 1, 1) := by decide +kernel
theorem d_Va_add__2 : decode b_Va_add_ 2 = .ok (.getfield 13, 3) := by decide +kernel
theorem d_Va_add__5 : decode b_Va_add_ 5 = .ok (.iload_n 2, 1) := by decide +kernel
theorem d_Va_add__6 : decode b_Va_add_ 6 = .ok (.baload, 1) := by decide +kernel
theorem d_Va_add__7 : decode b_Va_add_ 7 = .ok (.aload_n 1, 1) := by decide +kernel
theorem d_Va_add__8 : decode b_Va_add_ 8 = .ok (.getfield 17, 3) := by decide +kernel
theorem d_Va_add__11 : decode b_Va_add_ 11 = .ok (.iload_n 2, 1) := by decide +kernel
theorem d_Va_add__12 : decode b_Va_add_ 12 = .ok (.laload, 1) := by decide +kernel
theorem d_Va_add__13 : decode b_Va_add_ 13 = .ok (.invokevirtual 21, 3) := by decide +kernel
theorem d_Va_add__16 : decode b_Va_add_ 16 = .ok (.return_, 1) := by decide +kernel
theorem kw_203 : Cond.methodLink R_Va 21 y_Va_add ∈ wA := kinm (show _ ∈ tables_1 from (List.mem_append_right _ (List.mem_append_right _ (List.mem_append_right _ (List.mem_append_right _ (List.mem_append_right _ (List.mem_append_right _ (List.mem_append_right _ (List.mem_append_right _ (List.mem_append_right _ (List.mem_append_right _ (List.mem_append_right _ (List.mem_append_right _ (List.mem_append_left _ (List.mem_of_getElem? (l := tables_1_13) (i := 29) (by decide +kernel)))))))))))))))) (by decide +kernel)
theorem kw_204 : Cond.instanceMethod y_Va_add_ ∈ wA := kinm (show _ ∈ tables_1 from (List.mem_append_right _ (List.mem_append_right _ (List.mem_append_right _ (List.mem_append_right _ (List.mem_append_right _ (List.mem_append_right _ (List.mem_append_right _ (List.mem_append_right _ (List.mem_append_right _ (List.mem_append_right _ (List.mem_append_right _ (List.mem_append_right _ (List.mem_append_left _ (List.mem_of_getElem? (l := tables_1_13) (i := 26) (by decide +kernel)))))))))))))))) (by decide +kernel)
theorem kw_205 : Cond.selects R_Va y_Va_add_ y_Va_add_ ∈ wA := kinm (show _ ∈ tables_1 from (List.mem_append_right _ (List.mem_append_right _ (List.mem_append_right _ (List.mem_append_right _ (List.mem_append_right _ (List.mem_append_right _ (List.mem_append_right _ (List.mem_append_right _ (List.mem_append_right _ (List.mem_append_right _ (List.mem_append_right _ (List.mem_append_right _ (List.mem_append_left _ (List.mem_of_getElem? (l := tables_1_13) (i := 27) (by decide +kernel)))))))))))))))) (by decide +kernel)
theorem cv_Va_add_ : CV y_Va_add_ b_Va_add_ 3 none 2 := ⟨kw_204, kw_205, kw_48, k_Va_add_, by decide +kernel⟩
theorem ct_Va_add_ {l : Launch} {P : PP} {q : PL} {s s' : S1} {l0r : Nat} {l0 : Int32} {l1r : Nat} {l1 : Int32} {l2 : Int32} (hp0 : VOK l0r l0) (hp1 : VOK l1r l1) {r : Unit} (h : M_Va_add_ l0r l0 l1r l1 l2 s = some (r, s')) : Ct l y_Va_add_ b_Va_add_ 3 none 1 23 P q s [.ref (q.1 l0r l0), .ref (q.1 l1r l1), .int l2] none q s' := by
  refine ct_of (by decide) (Nat.le_of_ble_eq_true rfl) fun X ls eP el g hR hl => ?_
  subst eP
  have hR : Rt X q ((r, s') : Unit × S1).2 none := hR
  have hl : lv_has ls 3 [(0, .ref (q.1 l0r l0)), (1, .ref (q.1 l1r l1)), (2, .int l2)] := hl
  generalize (r, s') = o at h hR
  unfold M_Va_add_ at h
  refine ww_aload_n (pc := 0) g.1 d_Va_add__0 rfl (lv_at hl 0 rfl) ?_
  refine ww_aload_n (pc := 1) g.1 d_Va_add__1 rfl (lv_at hl 1 rfl) ?_
  refine ww_gR (pc := 2) g (k := 0) (cl_Va hp1) (vok_p hp1).1 (by rw [(vok_f hp1).1.2.2]; decide) (Or.inl kw_44) (f := (128 * l1r + 0)) (t := l1r + 1) rfl (vok_f hp1).2.1.1 (vok_f hp1).2.1.2 d_Va_add__2 ?_
  refine ww_iload_n (pc := 5) g.1 d_Va_add__5 rfl (lv_at hl 2 rfl) ?_
  refine ww_ab (pc := 6) g (vok_p hp1).2.1 (vok_f hp1).2.2.2.2.1 (vok_n hp1).1 d_Va_add__6 h fun v6 h => ?_
  refine ww_aload_n (pc := 7) g.1 d_Va_add__7 rfl (lv_at hl 1 rfl) ?_
  refine ww_gR (pc := 8) g (k := 1) (cl_Va hp1) (vok_p hp1).1 (by rw [(vok_f hp1).1.2.2]; decide) (Or.inl kw_45) (f := (128 * l1r + 1)) (t := l1r + 2) rfl (vok_f hp1).2.2.1.1 (vok_f hp1).2.2.1.2 d_Va_add__8 ?_
  refine ww_iload_n (pc := 11) g.1 d_Va_add__11 rfl (lv_at hl 2 rfl) ?_
  refine ww_al (pc := 12) g (vok_p hp1).2.2 (vok_f hp1).2.2.2.2.2 (vok_n hp1).2 d_Va_add__12 h fun v12 h => ?_
  obtain ⟨v13, s, hc13, h⟩ := oB_of h
  refine ww_callV (pc := 13) (rest := []) g cv_Va_add (Or.inl kw_203) (cl_Va hp0) (vok_p hp0).1 (ct_Va_add hp0 hc13) ⟨by decide, by decide⟩ rfl hl.1 (Nat.le_of_ble_eq_true rfl) d_Va_add__13 rfl ?_
  refine ww_st (st' := []) rfl ?_
  exact ww_vretH (pc := 16) g h hR d_Va_add__16

abbrev b_Mo_integer : ByteArray := prog_14_method_95_code
def y_Mo_integer : MethodName := ⟨R_Mo, "integer", "(I)Z"⟩
abbrev w_Mo_integer : List Cond := .code y_Mo_integer b_Mo_integer 2 (some .boolean) :: wA
theorem k_Mo_integer : Cond.code y_Mo_integer b_Mo_integer 2 (some .boolean) ∈ wA := kinm (show _ ∈ tables_1 from (List.mem_append_right _ (List.mem_append_right _ (List.mem_append_right _ (List.mem_append_right _ (List.mem_append_right _ (List.mem_append_right _ (List.mem_append_right _ (List.mem_append_right _ (List.mem_append_right _ (List.mem_append_right _ (List.mem_append_right _ (List.mem_append_right _ (List.mem_append_left _ (List.mem_of_getElem? (l := tables_1_13) (i := 37) (by decide +kernel)))))))))))))))) (by decide +kernel)
theorem d_Mo_integer_0 : decode b_Mo_integer 0 = .ok (.aload_n 0, 1) := by decide +kernel
theorem d_Mo_integer_1 : decode b_Mo_integer 1 = .ok (.iload_n 1, 1) := by decide +kernel
theorem d_Mo_integer_2 : decode b_Mo_integer 2 = .ok (.iconst 3, 1) := by decide +kernel
theorem d_Mo_integer_3 : decode b_Mo_integer 3 = .ok (.invokevirtual 833, 3) := by decide +kernel
theorem d_Mo_integer_6 : decode b_Mo_integer 6 = .ok (.ifCond .ne 12, 3) := by decide +kernel
theorem d_Mo_integer_9 : decode b_Mo_integer 9 = .ok (.aload_n 0, 1) := by decide +kernel
theorem d_Mo_integer_10 : decode b_Mo_integer 10 = .ok (.iload_n 1, 1) := by decide +kernel
theorem d_Mo_integer_11 : decode b_Mo_integer 11 = .ok (.iconst 0, 1) := by decide +kernel
theorem d_Mo_integer_12 : decode b_Mo_integer 12 = .ok (.invokevirtual 833, 3) := by decide +kernel
theorem d_Mo_integer_15 : decode b_Mo_integer 15 = .ok (.ifCond .eq 7, 3) := by decide +kernel
theorem d_Mo_integer_18 : decode b_Mo_integer 18 = .ok (.iconst 1, 1) := by decide +kernel
theorem d_Mo_integer_19 : decode b_Mo_integer 19 = .ok (.goto 4, 3) := by decide +kernel
theorem d_Mo_integer_22 : decode b_Mo_integer 22 = .ok (.iconst 0, 1) := by decide +kernel
theorem d_Mo_integer_23 : decode b_Mo_integer 23 = .ok (.ireturn, 1) := by decide +kernel
theorem kw_206 : Cond.methodLink R_Mo 833 y_Mo_is ∈ wA := kinm (show _ ∈ tables_1 from (List.mem_append_right _ (List.mem_append_right _ (List.mem_append_right _ (List.mem_append_right _ (List.mem_append_right _ (List.mem_append_right _ (List.mem_append_right _ (List.mem_append_right _ (List.mem_append_right _ (List.mem_append_right _ (List.mem_append_right _ (List.mem_append_left _ (List.mem_of_getElem? (l := tables_1_12) (i := 237) (by decide +kernel))))))))))))))) (by decide +kernel)
theorem kw_207 : Cond.instanceMethod y_Mo_integer ∈ wA := kinm (show _ ∈ tables_1 from (List.mem_append_right _ (List.mem_append_right _ (List.mem_append_right _ (List.mem_append_right _ (List.mem_append_right _ (List.mem_append_right _ (List.mem_append_right _ (List.mem_append_right _ (List.mem_append_right _ (List.mem_append_right _ (List.mem_append_right _ (List.mem_append_right _ (List.mem_append_left _ (List.mem_of_getElem? (l := tables_1_13) (i := 36) (by decide +kernel)))))))))))))))) (by decide +kernel)
theorem kw_208 : Cond.selects R_Mo y_Mo_integer y_Mo_integer ∈ wA := kinp 182 (by decide +kernel) (by decide +kernel)
theorem cv_Mo_integer : CV y_Mo_integer b_Mo_integer 2 (some .boolean) 1 := ⟨kw_207, kw_208, kw_17, k_Mo_integer, by decide +kernel⟩
theorem j_Mo_integer_j18 {X : Cx} {q : PL} (g : Gd X y_Mo_integer b_Mo_integer 2 (some .boolean) 2 43 R_Mo) {o : (Int32) × S1} (hR : Rt X q o.2 (some (.int o.1)))  (s : S1) (ls : Array Slot) (hl : lv_has ls 2 []) (h : M_Mo_integer_j18 s = some o) : WW X q s 18 ls [] := by
  unfold M_Mo_integer_j18 at h
  refine ww_iconst (pc := 18) g.1 (v := 1) d_Mo_integer_18 (by decide) ?_
  refine ww_goto (pc := 19) (tgt := 23) g.1 d_Mo_integer_19 (by decide) ?_
  exact ww_zretH (pc := 23) g h hR (Or.inr rfl) d_Mo_integer_23

theorem ct_Mo_integer {l : Launch} {P : PP} {q : PL} {s s' : S1} {l1 : Int32} {r : Int32} (h : M_Mo_integer l1 s = some (r, s')) : Ct l y_Mo_integer b_Mo_integer 2 (some .boolean) 2 43 P q s [.ref (q.1 0 0), .int l1] (some (.int r)) q s' := by
  refine ct_of (by decide) (Nat.le_of_ble_eq_true rfl) fun X ls eP el g hR hl => ?_
  subst eP
  have hR : Rt X q ((r, s') : Int32 × S1).2 (some (.int ((r, s') : Int32 × S1).1)) := hR
  have hl : lv_has ls 2 [(0, .ref (q.1 0 0)), (1, .int l1)] := hl
  generalize (r, s') = o at h hR
  unfold M_Mo_integer at h
  refine ww_aload_n (pc := 0) g.1 d_Mo_integer_0 rfl (lv_at hl 0 rfl) ?_
  refine ww_iload_n (pc := 1) g.1 d_Mo_integer_1 rfl (lv_at hl 1 rfl) ?_
  refine ww_iconst (pc := 2) g.1 (v := 3) d_Mo_integer_2 (by decide) ?_
  obtain ⟨v3, s, hc3, h⟩ := oB_of h
  refine ww_callV (pc := 3) (rest := []) g cv_Mo_is (Or.inl kw_206) cl_Mo (pz rfl (by decide)) (ct_Mo_is hc3) ⟨by decide, by decide⟩ rfl hl.1 (Nat.le_of_ble_eq_true rfl) d_Mo_integer_3 rfl ?_
  refine ww_st (st' := [.int v3]) rfl ?_
  refine ww_if_ne (pc := 6) (tgt := 18) g.1 d_Mo_integer_6 (by decide) h (fun c h => ?_) (fun c h => ?_)
  · exact j_Mo_integer_j18 g hR s ls (lv_sub hl [] rfl) h
  · refine ww_aload_n (pc := 9) g.1 d_Mo_integer_9 rfl (lv_at hl 0 rfl) ?_
    refine ww_iload_n (pc := 10) g.1 d_Mo_integer_10 rfl (lv_at hl 1 rfl) ?_
    refine ww_iconst (pc := 11) g.1 (v := 0) d_Mo_integer_11 (by decide) ?_
    obtain ⟨v12, s, hc12, h⟩ := oB_of h
    refine ww_callV (pc := 12) (rest := []) g cv_Mo_is (Or.inl kw_206) cl_Mo (pz rfl (by decide)) (ct_Mo_is hc12) ⟨by decide, by decide⟩ rfl hl.1 (Nat.le_of_ble_eq_true rfl) d_Mo_integer_12 rfl ?_
    refine ww_st (st' := [.int v12]) rfl ?_
    refine ww_if_eq (pc := 15) (tgt := 22) g.1 d_Mo_integer_15 (by decide) h (fun c h => ?_) (fun c h => ?_)
    · refine ww_iconst (pc := 22) g.1 (v := 0) d_Mo_integer_22 (by decide) ?_
      exact ww_zretH (pc := 23) g h hR (Or.inl rfl) d_Mo_integer_23
    · exact j_Mo_integer_j18 g hR s ls (lv_sub hl [] rfl) h

abbrev b_Mo_from : ByteArray := prog_14_method_94_code
def y_Mo_from : MethodName := ⟨R_Mo, "from", "(JI)J"⟩
abbrev w_Mo_from : List Cond := .code y_Mo_from b_Mo_from 3 (some .long) :: wA
theorem k_Mo_from : Cond.code y_Mo_from b_Mo_from 3 (some .long) ∈ wA := kinm (show _ ∈ tables_1 from (List.mem_append_right _ (List.mem_append_right _ (List.mem_append_right _ (List.mem_append_right _ (List.mem_append_right _ (List.mem_append_right _ (List.mem_append_right _ (List.mem_append_right _ (List.mem_append_right _ (List.mem_append_right _ (List.mem_append_right _ (List.mem_append_right _ (List.mem_append_left _ (List.mem_of_getElem? (l := tables_1_13) (i := 40) (by decide +kernel)))))))))))))))) (by decide +kernel)
theorem d_Mo_from_0 : decode b_Mo_from 0 = .ok (.lload_n 0, 1) := by decide +kernel
theorem d_Mo_from_1 : decode b_Mo_from 1 = .ok (.lconst 0, 1) := by decide +kernel
theorem d_Mo_from_2 : decode b_Mo_from 2 = .ok (.lcmp, 1) := by decide +kernel
theorem d_Mo_from_3 : decode b_Mo_from 3 = .ok (.ifCond .lt 7, 3) := by decide +kernel
theorem d_Mo_from_6 : decode b_Mo_from 6 = .ok (.lload_n 0, 1) := by decide +kernel
theorem d_Mo_from_7 : decode b_Mo_from 7 = .ok (.goto 21, 3) := by decide +kernel
theorem d_Mo_from_10 : decode b_Mo_from 10 = .ok (.lload_n 0, 1) := by decide +kernel
theorem d_Mo_from_11 : decode b_Mo_from 11 = .ok (.iload_n 2, 1) := by decide +kernel
theorem d_Mo_from_12 : decode b_Mo_from 12 = .ok (.i2l, 1) := by decide +kernel
theorem d_Mo_from_13 : decode b_Mo_from 13 = .ok (.lneg, 1) := by decide +kernel
theorem d_Mo_from_14 : decode b_Mo_from 14 = .ok (.lcmp, 1) := by decide +kernel
theorem d_Mo_from_15 : decode b_Mo_from 15 = .ok (.ifCond .ge 7, 3) := by decide +kernel
theorem d_Mo_from_18 : decode b_Mo_from 18 = .ok (.lconst 0, 1) := by decide +kernel
theorem d_Mo_from_19 : decode b_Mo_from 19 = .ok (.goto 9, 3) := by decide +kernel
theorem d_Mo_from_22 : decode b_Mo_from 22 = .ok (.iload_n 2, 1) := by decide +kernel
theorem d_Mo_from_23 : decode b_Mo_from 23 = .ok (.i2l, 1) := by decide +kernel
theorem d_Mo_from_24 : decode b_Mo_from 24 = .ok (.lload_n 0, 1) := by decide +kernel
theorem d_Mo_from_25 : decode b_Mo_from 25 = .ok (.ladd, 1) := by decide +kernel
theorem d_Mo_from_26 : decode b_Mo_from 26 = .ok (.lconst 1, 1) := by decide +kernel
theorem d_Mo_from_27 : decode b_Mo_from 27 = .ok (.ladd, 1) := by decide +kernel
theorem d_Mo_from_28 : decode b_Mo_from 28 = .ok (.lreturn, 1) := by decide +kernel
theorem kw_209 : Cond.static y_Mo_from ∈ wA := kinm (show _ ∈ tables_1 from (List.mem_append_right _ (List.mem_append_right _ (List.mem_append_right _ (List.mem_append_right _ (List.mem_append_right _ (List.mem_append_right _ (List.mem_append_right _ (List.mem_append_right _ (List.mem_append_right _ (List.mem_append_right _ (List.mem_append_right _ (List.mem_append_right _ (List.mem_append_left _ (List.mem_of_getElem? (l := tables_1_13) (i := 39) (by decide +kernel)))))))))))))))) (by decide +kernel)
theorem cs_Mo_from : CS y_Mo_from b_Mo_from 3 (some .long) 2 := ⟨kw_209, kw_17, k_Mo_from, by decide +kernel⟩
theorem ct_Mo_from {l : Launch} {P : PP} {q : PL} {s s' : S1} {l0 : Int64} {l2 : Int32} {r : Int64} (h : M_Mo_from l0 l2 s = some (r, s')) : Ct l y_Mo_from b_Mo_from 3 (some .long) 0 0 P q s [.long l0, .int l2] (some (.long r)) q s' := by
  refine ct_of (by decide) (Nat.le_of_ble_eq_true rfl) fun X ls eP el g hR hl => ?_
  subst eP
  have hR : Rt X q ((r, s') : Int64 × S1).2 (some (.long ((r, s') : Int64 × S1).1)) := hR
  have hl : lv_has ls 3 [(0, .long l0), (2, .int l2)] := hl
  generalize (r, s') = o at h hR
  unfold M_Mo_from at h
  refine ww_lload_n (pc := 0) g.1 d_Mo_from_0 rfl (lv_at hl 0 rfl) ?_
  refine ww_lconst (pc := 1) g.1 (v := 0) d_Mo_from_1 (by decide) ?_
  refine ww_lcmp (pc := 2) g.1 d_Mo_from_2 ?_
  refine ww_if_lt (pc := 3) (tgt := 10) g.1 d_Mo_from_3 (by decide) h (fun c h => ?_) (fun c h => ?_)
  · refine ww_lload_n (pc := 10) g.1 d_Mo_from_10 rfl (lv_at hl 0 rfl) ?_
    refine ww_iload_n (pc := 11) g.1 d_Mo_from_11 rfl (lv_at hl 1 rfl) ?_
    refine ww_i2l (pc := 12) g.1 (v := l2.toInt64) d_Mo_from_12 rfl ?_
    refine ww_lneg (pc := 13) g.1 d_Mo_from_13 ?_
    refine ww_lcmp (pc := 14) g.1 d_Mo_from_14 ?_
    refine ww_if_ge (pc := 15) (tgt := 22) g.1 d_Mo_from_15 (by decide) h (fun c h => ?_) (fun c h => ?_)
    · refine ww_iload_n (pc := 22) g.1 d_Mo_from_22 rfl (lv_at hl 1 rfl) ?_
      refine ww_i2l (pc := 23) g.1 (v := l2.toInt64) d_Mo_from_23 rfl ?_
      refine ww_lload_n (pc := 24) g.1 d_Mo_from_24 rfl (lv_at hl 0 rfl) ?_
      refine ww_ladd (pc := 25) g.1 d_Mo_from_25 ?_
      refine ww_lconst (pc := 26) g.1 (v := 1) d_Mo_from_26 (by decide) ?_
      refine ww_ladd (pc := 27) g.1 d_Mo_from_27 ?_
      exact ww_lretH (pc := 28) g h hR d_Mo_from_28
    · refine ww_lconst (pc := 18) g.1 (v := 0) d_Mo_from_18 (by decide) ?_
      refine ww_goto (pc := 19) (tgt := 28) g.1 d_Mo_from_19 (by decide) ?_
      exact ww_lretH (pc := 28) g h hR d_Mo_from_28
  · refine ww_lload_n (pc := 6) g.1 d_Mo_from_6 rfl (lv_at hl 0 rfl) ?_
    refine ww_goto (pc := 7) (tgt := 28) g.1 d_Mo_from_7 (by decide) ?_
    exact ww_lretH (pc := 28) g h hR d_Mo_from_28

abbrev b_Mo_byteOf : ByteArray := prog_14_method_97_code
def y_Mo_byteOf : MethodName := ⟨R_Mo, "byteOf", "()V"⟩
abbrev w_Mo_byteOf : List Cond := .code y_Mo_byteOf b_Mo_byteOf 4 none :: wA
theorem k_Mo_byteOf : Cond.code y_Mo_byteOf b_Mo_byteOf 4 none ∈ wA := kinm (show _ ∈ tables_1 from (List.mem_append_right _ (List.mem_append_right _ (List.mem_append_right _ (List.mem_append_right _ (List.mem_append_right _ (List.mem_append_right _ (List.mem_append_right _ (List.mem_append_right _ (List.mem_append_right _ (List.mem_append_right _ (List.mem_append_right _ (List.mem_append_right _ (List.mem_append_left _ (List.mem_of_getElem? (l := tables_1_13) (i := 46) (by decide +kernel)))))))))))))))) (by decide +kernel)
theorem d_Mo_byteOf_0 : decode b_Mo_byteOf 0 = .ok (.aload_n 0, 1) := by decide +kernel
theorem d_Mo_byteOf_1 : decode b_Mo_byteOf 1 = .ok (.iconst 0, 1) := by decide +kernel
theorem d_Mo_byteOf_2 : decode b_Mo_byteOf 2 = .ok (.iconst 4, 1) := by decide +kernel
theorem d_Mo_byteOf_3 : decode b_Mo_byteOf 3 = .ok (.invokevirtual 833, 3) := by decide +kernel
theorem d_Mo_byteOf_6 : decode b_Mo_byteOf 6 = .ok (.ifCond .eq 11, 3) := by decide +kernel
theorem d_Mo_byteOf_9 : decode b_Mo_byteOf 9 = .ok (.aload_n 0, 1) := by decide +kernel
theorem d_Mo_byteOf_10 : decode b_Mo_byteOf 10 = .ok (.iconst 1, 1) := by decide +kernel
theorem d_Mo_byteOf_11 : decode b_Mo_byteOf 11 = .ok (.invokevirtual 856, 3) := by decide +kernel
theorem d_Mo_byteOf_14 : decode b_Mo_byteOf 14 = .ok (.ifCond .ne 10, 3) := by decide +kernel
theorem d_Mo_byteOf_17 : decode b_Mo_byteOf 17 = .ok (.aload_n 0, 1) := by decide +kernel
theorem d_Mo_byteOf_18 : decode b_Mo_byteOf 18 = .ok (.iconst 3, 1) := by decide +kernel
theorem d_Mo_byteOf_19 : decode b_Mo_byteOf 19 = .ok (.invokevirtual 517, 3) := by decide +kernel
theorem d_Mo_byteOf_22 : decode b_Mo_byteOf 22 = .ok (.pop, 1) := by decide +kernel
theorem d_Mo_byteOf_23 : decode b_Mo_byteOf 23 = .ok (.return_, 1) := by decide +kernel
theorem d_Mo_byteOf_24 : decode b_Mo_byteOf 24 = .ok (.aload_n 0, 1) := by decide +kernel
theorem d_Mo_byteOf_25 : decode b_Mo_byteOf 25 = .ok (.iconst 0, 1) := by decide +kernel
theorem d_Mo_byteOf_26 : decode b_Mo_byteOf 26 = .ok (.invokevirtual 807, 3) := by decide +kernel
theorem d_Mo_byteOf_29 : decode b_Mo_byteOf 29 = .ok (.l2i, 1) := by decide +kernel
theorem d_Mo_byteOf_30 : decode b_Mo_byteOf 30 = .ok (.istore_n 1, 1) := by decide +kernel
theorem d_Mo_byteOf_31 : decode b_Mo_byteOf 31 = .ok (.aload_n 0, 1) := by decide +kernel
theorem d_Mo_byteOf_32 : decode b_Mo_byteOf 32 = .ok (.iconst 1, 1) := by decide +kernel
theorem d_Mo_byteOf_33 : decode b_Mo_byteOf 33 = .ok (.iconst 0, 1) := by decide +kernel
theorem d_Mo_byteOf_34 : decode b_Mo_byteOf 34 = .ok (.invokevirtual 833, 3) := by decide +kernel
theorem d_Mo_byteOf_37 : decode b_Mo_byteOf 37 = .ok (.ifCond .eq 7, 3) := by decide +kernel
theorem d_Mo_byteOf_40 : decode b_Mo_byteOf 40 = .ok (.lconst 1, 1) := by decide +kernel
theorem d_Mo_byteOf_41 : decode b_Mo_byteOf 41 = .ok (.goto 8, 3) := by decide +kernel
theorem d_Mo_byteOf_44 : decode b_Mo_byteOf 44 = .ok (.aload_n 0, 1) := by decide +kernel
theorem d_Mo_byteOf_45 : decode b_Mo_byteOf 45 = .ok (.iconst 1, 1) := by decide +kernel
theorem d_Mo_byteOf_46 : decode b_Mo_byteOf 46 = .ok (.invokevirtual 807, 3) := by decide +kernel
theorem d_Mo_byteOf_49 : decode b_Mo_byteOf 49 = .ok (.aload_n 0, 1) := by decide +kernel
theorem d_Mo_byteOf_50 : decode b_Mo_byteOf 50 = .ok (.getfield 171, 3) := by decide +kernel
theorem d_Mo_byteOf_53 : decode b_Mo_byteOf 53 = .ok (.iload_n 1, 1) := by decide +kernel
theorem d_Mo_byteOf_54 : decode b_Mo_byteOf 54 = .ok (.iaload, 1) := by decide +kernel
theorem d_Mo_byteOf_55 : decode b_Mo_byteOf 55 = .ok (.invokestatic 859, 3) := by decide +kernel
theorem d_Mo_byteOf_58 : decode b_Mo_byteOf 58 = .ok (.lstore_n 2, 1) := by decide +kernel
theorem d_Mo_byteOf_59 : decode b_Mo_byteOf 59 = .ok (.lload_n 2, 1) := by decide +kernel
theorem d_Mo_byteOf_60 : decode b_Mo_byteOf 60 = .ok (.lconst 1, 1) := by decide +kernel
theorem d_Mo_byteOf_61 : decode b_Mo_byteOf 61 = .ok (.lcmp, 1) := by decide +kernel
theorem d_Mo_byteOf_62 : decode b_Mo_byteOf 62 = .ok (.ifCond .lt 15, 3) := by decide +kernel
theorem d_Mo_byteOf_65 : decode b_Mo_byteOf 65 = .ok (.lload_n 2, 1) := by decide +kernel
theorem d_Mo_byteOf_66 : decode b_Mo_byteOf 66 = .ok (.aload_n 0, 1) := by decide +kernel
theorem d_Mo_byteOf_67 : decode b_Mo_byteOf 67 = .ok (.getfield 171, 3) := by decide +kernel
theorem d_Mo_byteOf_70 : decode b_Mo_byteOf 70 = .ok (.iload_n 1, 1) := by decide +kernel
theorem d_Mo_byteOf_71 : decode b_Mo_byteOf 71 = .ok (.iaload, 1) := by decide +kernel
theorem d_Mo_byteOf_72 : decode b_Mo_byteOf 72 = .ok (.i2l, 1) := by decide +kernel
theorem d_Mo_byteOf_73 : decode b_Mo_byteOf 73 = .ok (.lcmp, 1) := by decide +kernel
theorem d_Mo_byteOf_74 : decode b_Mo_byteOf 74 = .ok (.ifCond .le 12, 3) := by decide +kernel
theorem d_Mo_byteOf_77 : decode b_Mo_byteOf 77 = .ok (.aload_n 0, 1) := by decide +kernel
theorem d_Mo_byteOf_78 : decode b_Mo_byteOf 78 = .ok (.iconst 0, 1) := by decide +kernel
theorem d_Mo_byteOf_79 : decode b_Mo_byteOf 79 = .ok (.lconst 0, 1) := by decide +kernel
theorem d_Mo_byteOf_80 : decode b_Mo_byteOf 80 = .ok (.invokevirtual 804, 3) := by decide +kernel
theorem d_Mo_byteOf_83 : decode b_Mo_byteOf 83 = .ok (.goto 29, 3) := by decide +kernel
theorem d_Mo_byteOf_86 : decode b_Mo_byteOf 86 = .ok (.aload_n 0, 1) := by decide +kernel
theorem d_Mo_byteOf_87 : decode b_Mo_byteOf 87 = .ok (.iconst 3, 1) := by decide +kernel
theorem d_Mo_byteOf_88 : decode b_Mo_byteOf 88 = .ok (.aload_n 0, 1) := by decide +kernel
theorem d_Mo_byteOf_89 : decode b_Mo_byteOf 89 = .ok (.getfield 187, 3) := by decide +kernel
theorem d_Mo_byteOf_92 : decode b_Mo_byteOf 92 = .ok (.aload_n 0, 1) := by decide +kernel
theorem d_Mo_byteOf_93 : decode b_Mo_byteOf 93 = .ok (.getfield 168, 3) := by decide +kernel
theorem d_Mo_byteOf_96 : decode b_Mo_byteOf 96 = .ok (.iload_n 1, 1) := by decide +kernel
theorem d_Mo_byteOf_97 : decode b_Mo_byteOf 97 = .ok (.iaload, 1) := by decide +kernel
theorem d_Mo_byteOf_98 : decode b_Mo_byteOf 98 = .ok (.lload_n 2, 1) := by decide +kernel
theorem d_Mo_byteOf_99 : decode b_Mo_byteOf 99 = .ok (.l2i, 1) := by decide +kernel
theorem d_Mo_byteOf_100 : decode b_Mo_byteOf 100 = .ok (.iadd, 1) := by decide +kernel
theorem d_Mo_byteOf_101 : decode b_Mo_byteOf 101 = .ok (.iconst 1, 1) := by decide +kernel
theorem d_Mo_byteOf_102 : decode b_Mo_byteOf 102 = .ok (.isub, 1) := by decide +kernel
theorem d_Mo_byteOf_103 : decode b_Mo_byteOf 103 = .ok (.baload, 1) := by decide +kernel
theorem d_Mo_byteOf_104 : decode b_Mo_byteOf 104 = .ok (.sipush 255, 3) := by decide +kernel
theorem d_Mo_byteOf_107 : decode b_Mo_byteOf 107 = .ok (.iand, 1) := by decide +kernel
theorem d_Mo_byteOf_108 : decode b_Mo_byteOf 108 = .ok (.i2l, 1) := by decide +kernel
theorem d_Mo_byteOf_109 : decode b_Mo_byteOf 109 = .ok (.invokevirtual 804, 3) := by decide +kernel
theorem d_Mo_byteOf_112 : decode b_Mo_byteOf 112 = .ok (.return_, 1) := by decide +kernel
theorem kw_210 : Cond.methodLink R_Mo 856 y_Mo_integer ∈ wA := kinm (show _ ∈ tables_1 from (List.mem_append_right _ (List.mem_append_right _ (List.mem_append_right _ (List.mem_append_right _ (List.mem_append_right _ (List.mem_append_right _ (List.mem_append_right _ (List.mem_append_right _ (List.mem_append_right _ (List.mem_append_right _ (List.mem_append_right _ (List.mem_append_right _ (List.mem_append_left _ (List.mem_of_getElem? (l := tables_1_13) (i := 34) (by decide +kernel)))))))))))))))) (by decide +kernel)
theorem kw_211 : Cond.methodLink R_Mo 859 y_Mo_from ∈ wA := kinm (show _ ∈ tables_1 from (List.mem_append_right _ (List.mem_append_right _ (List.mem_append_right _ (List.mem_append_right _ (List.mem_append_right _ (List.mem_append_right _ (List.mem_append_right _ (List.mem_append_right _ (List.mem_append_right _ (List.mem_append_right _ (List.mem_append_right _ (List.mem_append_right _ (List.mem_append_left _ (List.mem_of_getElem? (l := tables_1_13) (i := 38) (by decide +kernel)))))))))))))))) (by decide +kernel)
theorem kw_212 : Cond.methodLink R_Mo 804 y_Mo_give ∈ wA := kinm (show _ ∈ tables_1 from (List.mem_append_right _ (List.mem_append_right _ (List.mem_append_right _ (List.mem_append_right _ (List.mem_append_right _ (List.mem_append_right _ (List.mem_append_right _ (List.mem_append_right _ (List.mem_append_right _ (List.mem_append_right _ (List.mem_append_right _ (List.mem_append_left _ (List.mem_of_getElem? (l := tables_1_12) (i := 225) (by decide +kernel))))))))))))))) (by decide +kernel)
theorem kw_213 : Cond.instanceMethod y_Mo_byteOf ∈ wA := kinm (show _ ∈ tables_1 from (List.mem_append_right _ (List.mem_append_right _ (List.mem_append_right _ (List.mem_append_right _ (List.mem_append_right _ (List.mem_append_right _ (List.mem_append_right _ (List.mem_append_right _ (List.mem_append_right _ (List.mem_append_right _ (List.mem_append_right _ (List.mem_append_right _ (List.mem_append_left _ (List.mem_of_getElem? (l := tables_1_13) (i := 45) (by decide +kernel)))))))))))))))) (by decide +kernel)
theorem kw_214 : Cond.selects R_Mo y_Mo_byteOf y_Mo_byteOf ∈ wA := kinp 183 (by decide +kernel) (by decide +kernel)
theorem cv_Mo_byteOf : CV y_Mo_byteOf b_Mo_byteOf 4 none 0 := ⟨kw_213, kw_214, kw_17, k_Mo_byteOf, by decide +kernel⟩
theorem j_Mo_byteOf_j17 {X : Cx} {q : PL} (g : Gd X y_Mo_byteOf b_Mo_byteOf 4 none 3 64 R_Mo) {o : (Unit) × S1} (hR : Rt X q o.2 none)  (s : S1) (ls : Array Slot) (hl : lv_has ls 4 [(0, .ref (q.1 0 0))]) (h : M_Mo_byteOf_j17 s = some o) : WW X q s 17 ls [] := by
  unfold M_Mo_byteOf_j17 at h
  refine ww_aload_n (pc := 17) g.1 d_Mo_byteOf_17 rfl (lv_at hl 0 rfl) ?_
  refine ww_iconst (pc := 18) g.1 (v := 3) d_Mo_byteOf_18 (by decide) ?_
  obtain ⟨v19, s, hc19, h⟩ := oB_of h
  refine ww_callV (pc := 19) (rest := []) g cv_Mo_raise (Or.inl kw_157) cl_Mo (pz rfl (by decide)) (ct_Mo_raise hc19) ⟨by decide, by decide⟩ rfl hl.1 (Nat.le_of_ble_eq_true rfl) d_Mo_byteOf_19 rfl ?_
  refine ww_st (st' := [.int v19]) rfl ?_
  refine ww_pop (pc := 22) g.1 d_Mo_byteOf_22 rfl ?_
  exact ww_vretH (pc := 23) g h hR d_Mo_byteOf_23

theorem j_Mo_byteOf_j77 {X : Cx} {q : PL} (g : Gd X y_Mo_byteOf b_Mo_byteOf 4 none 3 64 R_Mo) {o : (Unit) × S1} (hR : Rt X q o.2 none)  (s : S1) (ls : Array Slot) (hl : lv_has ls 4 [(0, .ref (q.1 0 0))]) (h : M_Mo_byteOf_j77 s = some o) : WW X q s 77 ls [] := by
  unfold M_Mo_byteOf_j77 at h
  refine ww_aload_n (pc := 77) g.1 d_Mo_byteOf_77 rfl (lv_at hl 0 rfl) ?_
  refine ww_iconst (pc := 78) g.1 (v := 0) d_Mo_byteOf_78 (by decide) ?_
  refine ww_lconst (pc := 79) g.1 (v := 0) d_Mo_byteOf_79 (by decide) ?_
  obtain ⟨v80, s, hc80, h⟩ := oB_of h
  refine ww_callV (pc := 80) (rest := []) g cv_Mo_give (Or.inl kw_212) cl_Mo (pz rfl (by decide)) (ct_Mo_give hc80) ⟨by decide, by decide⟩ rfl hl.1 (Nat.le_of_ble_eq_true rfl) d_Mo_byteOf_80 rfl ?_
  refine ww_st (st' := []) rfl ?_
  refine ww_goto (pc := 83) (tgt := 112) g.1 d_Mo_byteOf_83 (by decide) ?_
  exact ww_vretH (pc := 112) g h hR d_Mo_byteOf_112

theorem j_Mo_byteOf_j49 {X : Cx} {q : PL} (g : Gd X y_Mo_byteOf b_Mo_byteOf 4 none 3 64 R_Mo) {o : (Unit) × S1} (hR : Rt X q o.2 none) (l1 : Int32) (k0 : Int64) (s : S1) (ls : Array Slot) (hl : lv_has ls 4 [(0, .ref (q.1 0 0)), (1, .int l1)]) (h : M_Mo_byteOf_j49 l1 k0 s = some o) : WW X q s 49 ls [.long k0] := by
  unfold M_Mo_byteOf_j49 at h
  refine ww_aload_n (pc := 49) g.1 d_Mo_byteOf_49 rfl (lv_at hl 0 rfl) ?_
  refine ww_gR (pc := 50) g (k := 50) cl_Mo (pz rfl (by decide)) (by decide) (Or.inl kw_91) (f := 50) (t := 63) rfl rfl rfl d_Mo_byteOf_50 ?_
  refine ww_iload_n (pc := 53) g.1 d_Mo_byteOf_53 rfl (lv_at hl 1 rfl) ?_
  refine ww_ai (pc := 54) g (pz rfl (by decide)) rfl rfl d_Mo_byteOf_54 h fun v54 h => ?_
  obtain ⟨v55, s, hc55, h⟩ := oB_of h
  refine ww_callS (pc := 55) (rest := []) g cs_Mo_from (Or.inl kw_211) (ct_Mo_from hc55) ⟨by decide, by decide⟩ rfl hl.1 (Nat.le_of_ble_eq_true rfl) d_Mo_byteOf_55 rfl ?_
  refine ww_st (st' := [.long v55]) rfl ?_
  refine ww_lstore_n (pc := 58) (i := 2) g.1 (lv' := [(2, .long v55), (0, .ref (q.1 0 0)), (1, .int l1)]) d_Mo_byteOf_58 rfl hl (by decide) rfl fun ls hl => ?_
  refine ww_lload_n (pc := 59) g.1 d_Mo_byteOf_59 rfl (lv_at hl 0 rfl) ?_
  refine ww_lconst (pc := 60) g.1 (v := 1) d_Mo_byteOf_60 (by decide) ?_
  refine ww_lcmp (pc := 61) g.1 d_Mo_byteOf_61 ?_
  refine ww_if_lt (pc := 62) (tgt := 77) g.1 d_Mo_byteOf_62 (by decide) h (fun c h => ?_) (fun c h => ?_)
  · exact j_Mo_byteOf_j77 g hR s ls (lv_sub hl [1] rfl) h
  · refine ww_lload_n (pc := 65) g.1 d_Mo_byteOf_65 rfl (lv_at hl 0 rfl) ?_
    refine ww_aload_n (pc := 66) g.1 d_Mo_byteOf_66 rfl (lv_at hl 1 rfl) ?_
    refine ww_gR (pc := 67) g (k := 50) cl_Mo (pz rfl (by decide)) (by decide) (Or.inl kw_91) (f := 50) (t := 63) rfl rfl rfl d_Mo_byteOf_67 ?_
    refine ww_iload_n (pc := 70) g.1 d_Mo_byteOf_70 rfl (lv_at hl 2 rfl) ?_
    refine ww_ai (pc := 71) g (pz rfl (by decide)) rfl rfl d_Mo_byteOf_71 h fun v71 h => ?_
    refine ww_i2l (pc := 72) g.1 (v := v71.toInt64) d_Mo_byteOf_72 rfl ?_
    refine ww_lcmp (pc := 73) g.1 d_Mo_byteOf_73 ?_
    refine ww_if_le (pc := 74) (tgt := 86) g.1 d_Mo_byteOf_74 (by decide) h (fun c h => ?_) (fun c h => ?_)
    · refine ww_aload_n (pc := 86) g.1 d_Mo_byteOf_86 rfl (lv_at hl 1 rfl) ?_
      refine ww_iconst (pc := 87) g.1 (v := 3) d_Mo_byteOf_87 (by decide) ?_
      refine ww_aload_n (pc := 88) g.1 d_Mo_byteOf_88 rfl (lv_at hl 1 rfl) ?_
      refine ww_gR (pc := 89) g (k := 55) cl_Mo (pz rfl (by decide)) (by decide) (Or.inl kw_200) (f := 55) (t := 67) rfl rfl rfl d_Mo_byteOf_89 ?_
      refine ww_aload_n (pc := 92) g.1 d_Mo_byteOf_92 rfl (lv_at hl 1 rfl) ?_
      refine ww_gR (pc := 93) g (k := 49) cl_Mo (pz rfl (by decide)) (by decide) (Or.inl kw_87) (f := 49) (t := 62) rfl rfl rfl d_Mo_byteOf_93 ?_
      refine ww_iload_n (pc := 96) g.1 d_Mo_byteOf_96 rfl (lv_at hl 2 rfl) ?_
      refine ww_ai (pc := 97) g (pz rfl (by decide)) rfl rfl d_Mo_byteOf_97 h fun v97 h => ?_
      refine ww_lload_n (pc := 98) g.1 d_Mo_byteOf_98 rfl (lv_at hl 0 rfl) ?_
      refine ww_l2i (pc := 99) g.1 (v := v55.toInt32) d_Mo_byteOf_99 rfl ?_
      refine ww_iadd (pc := 100) g.1 d_Mo_byteOf_100 ?_
      refine ww_iconst (pc := 101) g.1 (v := 1) d_Mo_byteOf_101 (by decide) ?_
      refine ww_isub (pc := 102) g.1 d_Mo_byteOf_102 ?_
      refine ww_ab (pc := 103) g (pz rfl (by decide)) rfl rfl d_Mo_byteOf_103 h fun v103 h => ?_
      refine ww_sipush (pc := 104) g.1 (v := 255) d_Mo_byteOf_104 (by decide) ?_
      refine ww_iand (pc := 107) g.1 d_Mo_byteOf_107 ?_
      refine ww_i2l (pc := 108) g.1 (v := (v103 &&& 255).toInt64) d_Mo_byteOf_108 rfl ?_
      obtain ⟨v109, s, hc109, h⟩ := oB_of h
      refine ww_callV (pc := 109) (rest := []) g cv_Mo_give (Or.inl kw_212) cl_Mo (pz rfl (by decide)) (ct_Mo_give hc109) ⟨by decide, by decide⟩ rfl hl.1 (Nat.le_of_ble_eq_true rfl) d_Mo_byteOf_109 rfl ?_
      refine ww_st (st' := []) rfl ?_
      exact ww_vretH (pc := 112) g h hR d_Mo_byteOf_112
    · exact j_Mo_byteOf_j77 g hR s ls (lv_sub hl [1] rfl) h

theorem ct_Mo_byteOf {l : Launch} {P : PP} {q : PL} {s s' : S1}  {r : Unit} (h : M_Mo_byteOf s = some (r, s')) : Ct l y_Mo_byteOf b_Mo_byteOf 4 none 3 64 P q s [.ref (q.1 0 0)] none q s' := by
  refine ct_of (by decide) (Nat.le_of_ble_eq_true rfl) fun X ls eP el g hR hl => ?_
  subst eP
  have hR : Rt X q ((r, s') : Unit × S1).2 none := hR
  have hl : lv_has ls 4 [(0, .ref (q.1 0 0))] := hl
  generalize (r, s') = o at h hR
  unfold M_Mo_byteOf at h
  refine ww_aload_n (pc := 0) g.1 d_Mo_byteOf_0 rfl (lv_at hl 0 rfl) ?_
  refine ww_iconst (pc := 1) g.1 (v := 0) d_Mo_byteOf_1 (by decide) ?_
  refine ww_iconst (pc := 2) g.1 (v := 4) d_Mo_byteOf_2 (by decide) ?_
  obtain ⟨v3, s, hc3, h⟩ := oB_of h
  refine ww_callV (pc := 3) (rest := []) g cv_Mo_is (Or.inl kw_206) cl_Mo (pz rfl (by decide)) (ct_Mo_is hc3) ⟨by decide, by decide⟩ rfl hl.1 (Nat.le_of_ble_eq_true rfl) d_Mo_byteOf_3 rfl ?_
  refine ww_st (st' := [.int v3]) rfl ?_
  refine ww_if_eq (pc := 6) (tgt := 17) g.1 d_Mo_byteOf_6 (by decide) h (fun c h => ?_) (fun c h => ?_)
  · exact j_Mo_byteOf_j17 g hR s ls (lv_sub hl [0] rfl) h
  · refine ww_aload_n (pc := 9) g.1 d_Mo_byteOf_9 rfl (lv_at hl 0 rfl) ?_
    refine ww_iconst (pc := 10) g.1 (v := 1) d_Mo_byteOf_10 (by decide) ?_
    obtain ⟨v11, s, hc11, h⟩ := oB_of h
    refine ww_callV (pc := 11) (rest := []) g cv_Mo_integer (Or.inl kw_210) cl_Mo (pz rfl (by decide)) (ct_Mo_integer hc11) ⟨by decide, by decide⟩ rfl hl.1 (Nat.le_of_ble_eq_true rfl) d_Mo_byteOf_11 rfl ?_
    refine ww_st (st' := [.int v11]) rfl ?_
    refine ww_if_ne (pc := 14) (tgt := 24) g.1 d_Mo_byteOf_14 (by decide) h (fun c h => ?_) (fun c h => ?_)
    · refine ww_aload_n (pc := 24) g.1 d_Mo_byteOf_24 rfl (lv_at hl 0 rfl) ?_
      refine ww_iconst (pc := 25) g.1 (v := 0) d_Mo_byteOf_25 (by decide) ?_
      obtain ⟨v26, s, hc26, h⟩ := oB_of h
      refine ww_callV (pc := 26) (rest := []) g cv_Mo_av (Or.inl kw_193) cl_Mo (pz rfl (by decide)) (ct_Mo_av hc26) ⟨by decide, by decide⟩ rfl hl.1 (Nat.le_of_ble_eq_true rfl) d_Mo_byteOf_26 rfl ?_
      refine ww_st (st' := [.long v26]) rfl ?_
      refine ww_l2i (pc := 29) g.1 (v := v26.toInt32) d_Mo_byteOf_29 rfl ?_
      refine ww_istore_n (pc := 30) (i := 1) g.1 (lv' := [(1, .int v26.toInt32), (0, .ref (q.1 0 0))]) d_Mo_byteOf_30 rfl hl (by decide) rfl fun ls hl => ?_
      refine ww_aload_n (pc := 31) g.1 d_Mo_byteOf_31 rfl (lv_at hl 1 rfl) ?_
      refine ww_iconst (pc := 32) g.1 (v := 1) d_Mo_byteOf_32 (by decide) ?_
      refine ww_iconst (pc := 33) g.1 (v := 0) d_Mo_byteOf_33 (by decide) ?_
      obtain ⟨v34, s, hc34, h⟩ := oB_of h
      refine ww_callV (pc := 34) (rest := []) g cv_Mo_is (Or.inl kw_206) cl_Mo (pz rfl (by decide)) (ct_Mo_is hc34) ⟨by decide, by decide⟩ rfl hl.1 (Nat.le_of_ble_eq_true rfl) d_Mo_byteOf_34 rfl ?_
      refine ww_st (st' := [.int v34]) rfl ?_
      refine ww_if_eq (pc := 37) (tgt := 44) g.1 d_Mo_byteOf_37 (by decide) h (fun c h => ?_) (fun c h => ?_)
      · refine ww_aload_n (pc := 44) g.1 d_Mo_byteOf_44 rfl (lv_at hl 1 rfl) ?_
        refine ww_iconst (pc := 45) g.1 (v := 1) d_Mo_byteOf_45 (by decide) ?_
        obtain ⟨v46, s, hc46, h⟩ := oB_of h
        refine ww_callV (pc := 46) (rest := []) g cv_Mo_av (Or.inl kw_193) cl_Mo (pz rfl (by decide)) (ct_Mo_av hc46) ⟨by decide, by decide⟩ rfl hl.1 (Nat.le_of_ble_eq_true rfl) d_Mo_byteOf_46 rfl ?_
        refine ww_st (st' := [.long v46]) rfl ?_
        exact j_Mo_byteOf_j49 g hR v26.toInt32 v46 s ls (lv_sub hl [1, 0] rfl) h
      · refine ww_lconst (pc := 40) g.1 (v := 1) d_Mo_byteOf_40 (by decide) ?_
        refine ww_goto (pc := 41) (tgt := 49) g.1 d_Mo_byteOf_41 (by decide) ?_
        exact j_Mo_byteOf_j49 g hR v26.toInt32 1 s ls (lv_sub hl [1, 0] rfl) h
    · exact j_Mo_byteOf_j17 g hR s ls (lv_sub hl [0] rfl) h


