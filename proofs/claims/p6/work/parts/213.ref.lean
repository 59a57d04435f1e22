abbrev b_Mo_up : ByteArray := prog_14_method_113_code
def y_Mo_up : MethodName := ⟨R_Mo, "up", "(LLuaMachineModel$Thread_;II)I"⟩
abbrev w_Mo_up : List Cond := .code y_Mo_up b_Mo_up 4 (some .int) :: wA
theorem k_Mo_up : Cond.code y_Mo_up b_Mo_up 4 (some .int) ∈ wA := kinm (show _ ∈ tables_1 from (List.mem_append_right _ (List.mem_append_right _ (List.mem_append_right _ (List.mem_append_right _ (List.mem_append_right _ (List.mem_append_right _ (List.mem_append_right _ (List.mem_append_right _ (List.mem_append_right _ (List.mem_append_right _ (List.mem_append_right _ (List.mem_append_right _ (List.mem_append_left _ (List.mem_of_getElem? (l := tables_1_13) (i := 142) (by decide +kernel)))))))))))))))) (by decide +kernel)
theorem d_Mo_up_0 : decode b_Mo_up 0 = .ok (.aload_n 0, 1) := by decide +kernel
theorem d_Mo_up_1 : decode b_Mo_up 1 = .ok (.getfield 206, 3) := by decide +kernel
theorem d_Mo_up_4 : decode b_Mo_up 4 = .ok (.aload_n 0, 1) := by decide +kernel
theorem d_Mo_up_5 : decode b_Mo_up 5 = .ok (.getfield 171, 3) := by decide +kernel
theorem d_Mo_up_8 : decode b_Mo_up 8 = .ok (.aload_n 1, 1) := by decide +kernel
theorem d_Mo_up_9 : decode b_Mo_up 9 = .ok (.getfield 736, 3) := by decide +kernel
theorem d_Mo_up_12 : decode b_Mo_up 12 = .ok (.iload_n 2, 1) := by decide +kernel
theorem d_Mo_up_13 : decode b_Mo_up 13 = .ok (.iaload, 1) := by decide +kernel
theorem d_Mo_up_14 : decode b_Mo_up 14 = .ok (.iaload, 1) := by decide +kernel
theorem d_Mo_up_15 : decode b_Mo_up 15 = .ok (.iload_n 3, 1) := by decide +kernel
theorem d_Mo_up_16 : decode b_Mo_up 16 = .ok (.iadd, 1) := by decide +kernel
theorem d_Mo_up_17 : decode b_Mo_up 17 = .ok (.iaload, 1) := by decide +kernel
theorem d_Mo_up_18 : decode b_Mo_up 18 = .ok (.ireturn, 1) := by decide +kernel
theorem kw_258 : Cond.instanceMethod y_Mo_up ∈ wA := kinm (show _ ∈ tables_1 from (List.mem_append_right _ (List.mem_append_right _ (List.mem_append_right _ (List.mem_append_right _ (List.mem_append_right _ (List.mem_append_right _ (List.mem_append_right _ (List.mem_append_right _ (List.mem_append_right _ (List.mem_append_right _ (List.mem_append_right _ (List.mem_append_right _ (List.mem_append_left _ (List.mem_of_getElem? (l := tables_1_13) (i := 141) (by decide +kernel)))))))))))))))) (by decide +kernel)
theorem kw_259 : Cond.selects R_Mo y_Mo_up y_Mo_up ∈ wA := kinp 206 (by decide +kernel) (by decide +kernel)
def M_Mo_up (l1 : Int32) (l2 : Int32) (l3 : Int32) : M (Int32) :=
  oB (oGI 9471 0) fun v1 =>
  oB (oK (v1 = 1)) fun _ =>
  oB (oAI 31 201 l1 l2) fun v13 =>
  oB (oAI 63 4100 0 v13) fun v14 =>
  oB (oAI 73 300000 0 (v14 + l3)) fun v17 =>
  oR v17

theorem cv_Mo_up : CV y_Mo_up b_Mo_up 4 (some .int) 3 := ⟨kw_258, kw_259, kw_17, k_Mo_up, by decide +kernel⟩
theorem ct_Mo_up {l : Launch} {P : PP} {q : PL} {s s' : S1} {l1 : Int32} {l2 : Int32} {l3 : Int32} (hp0 : 0 ≤ l1 ∧ l1 < 33) {r : Int32} (h : M_Mo_up l1 l2 l3 s = some (r, s')) : Ct l y_Mo_up b_Mo_up 4 (some .int) 0 0 P q s [.ref (q.1 0 0), .ref (q.1 28 l1), .int l2, .int l3] (some (.int r)) q s' := by
  refine ct_of (by decide) (Nat.le_of_ble_eq_true rfl) fun X ls eP el g hR hl => ?_
  have hR : Rt X q ((r, s') : Int32 × S1).2 (some (.int ((r, s') : Int32 × S1).1)) := hR
  have hl : lv_has ls 4 [(0, .ref (q.1 0 0)), (1, .ref (q.1 28 l1)), (2, .int l2), (3, .int l3)] := hl
  generalize (r, s') = o at h hR
  unfold M_Mo_up at h
  refine ww_aload_n (pc := 0) g.1 d_Mo_up_0 rfl (lv_at hl 0 rfl) ?_
  refine ww_g5 (pc := 1) g (k := 61) cl_Mo (pz rfl (by decide)) (by decide) (Or.inl kw_132) (f := 61) (t := 73) (f2 := 9471) rfl rfl rfl rfl d_Mo_up_1 h fun v1 hv1 h => ?_
  refine ww_ok h fun cv1 h => ?_
  refine ww_dn cv1 ?_
  have pd1 : prs s 73 0 := pd (f := 9471) rfl (by decide) hv1 cv1
  refine ww_aload_n (pc := 4) g.1 d_Mo_up_4 rfl (lv_at hl 0 rfl) ?_
  refine ww_gR (pc := 5) g (k := 50) cl_Mo (pz rfl (by decide)) (by decide) (Or.inl kw_93) (f := 50) (t := 63) rfl rfl rfl d_Mo_up_5 ?_
  refine ww_aload_n (pc := 8) g.1 d_Mo_up_8 rfl (lv_at hl 1 rfl) ?_
  refine ww_gR (pc := 9) g (k := 12) cl_Th (pt rfl rfl hp0) (by decide) (Or.inl kw_158) (f := 3596) (t := 31) rfl rfl rfl d_Mo_up_9 ?_
  refine ww_iload_n (pc := 12) g.1 d_Mo_up_12 rfl (lv_at hl 2 rfl) ?_
  refine ww_ai (pc := 13) g (pt rfl rfl hp0) rfl rfl d_Mo_up_13 h fun v13 h => ?_
  refine ww_ai (pc := 14) g (pz rfl (by decide)) rfl rfl d_Mo_up_14 h fun v14 h => ?_
  refine ww_iload_n (pc := 15) g.1 d_Mo_up_15 rfl (lv_at hl 3 rfl) ?_
  refine ww_iadd (pc := 16) g.1 d_Mo_up_16 ?_
  refine ww_ai (pc := 17) g pd1 rfl rfl d_Mo_up_17 h fun v17 h => ?_
  exact ww_iretH (pc := 18) g h hR d_Mo_up_18

abbrev b_Mo_rk_ : ByteArray := prog_14_method_110_code
def y_Mo_rk_ : MethodName := ⟨R_Mo, "rk", "(LLuaMachineModel$Thread_;III)V"⟩
abbrev w_Mo_rk_ : List Cond := .code y_Mo_rk_ b_Mo_rk_ 5 none :: wA
theorem k_Mo_rk_ : Cond.code y_Mo_rk_ b_Mo_rk_ 5 none ∈ wA := kinm (show _ ∈ tables_1 from (List.mem_append_right _ (List.mem_append_right _ (List.mem_append_right _ (List.mem_append_right _ (List.mem_append_right _ (List.mem_append_right _ (List.mem_append_right _ (List.mem_append_right _ (List.mem_append_right _ (List.mem_append_right _ (List.mem_append_right _ (List.mem_append_right _ (List.mem_append_left _ (List.mem_of_getElem? (l := tables_1_13) (i := 146) (by decide +kernel)))))))))))))))) (by decide +kernel)
theorem d_Mo_rk__0 : decode b_Mo_rk_ 0 = .ok (.iload 4, 2) := by decide +kernel
theorem d_Mo_rk__2 : decode b_Mo_rk_ 2 = .ok (.sipush 255, 3) := by decide +kernel
theorem d_Mo_rk__5 : decode b_Mo_rk_ 5 = .ok (.if_icmp .le 15, 3) := by decide +kernel
theorem d_Mo_rk__8 : decode b_Mo_rk_ 8 = .ok (.aload_n 0, 1) := by decide +kernel
theorem d_Mo_rk__9 : decode b_Mo_rk_ 9 = .ok (.iload_n 3, 1) := by decide +kernel
theorem d_Mo_rk__10 : decode b_Mo_rk_ 10 = .ok (.iload 4, 2) := by decide +kernel
theorem d_Mo_rk__12 : decode b_Mo_rk_ 12 = .ok (.sipush 256, 3) := by decide +kernel
theorem d_Mo_rk__15 : decode b_Mo_rk_ 15 = .ok (.isub, 1) := by decide +kernel
theorem d_Mo_rk__16 : decode b_Mo_rk_ 16 = .ok (.invokevirtual 905, 3) := by decide +kernel
theorem d_Mo_rk__19 : decode b_Mo_rk_ 19 = .ok (.return_, 1) := by decide +kernel
theorem d_Mo_rk__20 : decode b_Mo_rk_ 20 = .ok (.aload_n 0, 1) := by decide +kernel
theorem d_Mo_rk__21 : decode b_Mo_rk_ 21 = .ok (.aload_n 1, 1) := by decide +kernel
theorem d_Mo_rk__22 : decode b_Mo_rk_ 22 = .ok (.getfield 591, 3) := by decide +kernel
theorem d_Mo_rk__25 : decode b_Mo_rk_ 25 = .ok (.getfield 585, 3) := by decide +kernel
theorem d_Mo_rk__28 : decode b_Mo_rk_ 28 = .ok (.aload_n 1, 1) := by decide +kernel
theorem d_Mo_rk__29 : decode b_Mo_rk_ 29 = .ok (.getfield 744, 3) := by decide +kernel
theorem d_Mo_rk__32 : decode b_Mo_rk_ 32 = .ok (.iload_n 2, 1) := by decide +kernel
theorem d_Mo_rk__33 : decode b_Mo_rk_ 33 = .ok (.iaload, 1) := by decide +kernel
theorem d_Mo_rk__34 : decode b_Mo_rk_ 34 = .ok (.iload 4, 2) := by decide +kernel
theorem d_Mo_rk__36 : decode b_Mo_rk_ 36 = .ok (.iadd, 1) := by decide +kernel
theorem d_Mo_rk__37 : decode b_Mo_rk_ 37 = .ok (.baload, 1) := by decide +kernel
theorem d_Mo_rk__38 : decode b_Mo_rk_ 38 = .ok (.putfield 437, 3) := by decide +kernel
theorem d_Mo_rk__41 : decode b_Mo_rk_ 41 = .ok (.aload_n 0, 1) := by decide +kernel
theorem d_Mo_rk__42 : decode b_Mo_rk_ 42 = .ok (.aload_n 1, 1) := by decide +kernel
theorem d_Mo_rk__43 : decode b_Mo_rk_ 43 = .ok (.getfield 591, 3) := by decide +kernel
theorem d_Mo_rk__46 : decode b_Mo_rk_ 46 = .ok (.getfield 588, 3) := by decide +kernel
theorem d_Mo_rk__49 : decode b_Mo_rk_ 49 = .ok (.aload_n 1, 1) := by decide +kernel
theorem d_Mo_rk__50 : decode b_Mo_rk_ 50 = .ok (.getfield 744, 3) := by decide +kernel
theorem d_Mo_rk__53 : decode b_Mo_rk_ 53 = .ok (.iload_n 2, 1) := by decide +kernel
theorem d_Mo_rk__54 : decode b_Mo_rk_ 54 = .ok (.iaload, 1) := by decide +kernel
theorem d_Mo_rk__55 : decode b_Mo_rk_ 55 = .ok (.iload 4, 2) := by decide +kernel
theorem d_Mo_rk__57 : decode b_Mo_rk_ 57 = .ok (.iadd, 1) := by decide +kernel
theorem d_Mo_rk__58 : decode b_Mo_rk_ 58 = .ok (.laload, 1) := by decide +kernel
theorem d_Mo_rk__59 : decode b_Mo_rk_ 59 = .ok (.putfield 440, 3) := by decide +kernel
theorem d_Mo_rk__62 : decode b_Mo_rk_ 62 = .ok (.return_, 1) := by decide +kernel
theorem kw_260 : Cond.fieldLink R_Mo 744 "LuaMachineModel$Thread_" "base" "[I" ∈ wA := kinm (show _ ∈ tables_1 from (List.mem_append_right _ (List.mem_append_right _ (List.mem_append_right _ (List.mem_append_right _ (List.mem_append_right _ (List.mem_append_right _ (List.mem_append_right _ (List.mem_append_right _ (List.mem_append_left _ (List.mem_of_getElem? (l := tables_1_9) (i := 233) (by decide +kernel)))))))))))) (by decide +kernel)
theorem kw_261 : Cond.methodLink R_Mo 905 y_Mo_constant ∈ wA := kinm (show _ ∈ tables_1 from (List.mem_append_right _ (List.mem_append_right _ (List.mem_append_right _ (List.mem_append_right _ (List.mem_append_right _ (List.mem_append_right _ (List.mem_append_right _ (List.mem_append_right _ (List.mem_append_right _ (List.mem_append_right _ (List.mem_append_right _ (List.mem_append_right _ (List.mem_append_left _ (List.mem_of_getElem? (l := tables_1_13) (i := 135) (by decide +kernel)))))))))))))))) (by decide +kernel)
theorem kw_262 : Cond.instanceMethod y_Mo_rk_ ∈ wA := kinm (show _ ∈ tables_1 from (List.mem_append_right _ (List.mem_append_right _ (List.mem_append_right _ (List.mem_append_right _ (List.mem_append_right _ (List.mem_append_right _ (List.mem_append_right _ (List.mem_append_right _ (List.mem_append_right _ (List.mem_append_right _ (List.mem_append_right _ (List.mem_append_right _ (List.mem_append_left _ (List.mem_of_getElem? (l := tables_1_13) (i := 145) (by decide +kernel)))))))))))))))) (by decide +kernel)
theorem kw_263 : Cond.selects R_Mo y_Mo_rk_ y_Mo_rk_ ∈ wA := kinp 207 (by decide +kernel) (by decide +kernel)
def M_Mo_rk_ (l1 : Int32) (l2 : Int32) (l3 : Int32) (l4 : Int32) : M (Unit) :=
  oC (l4 ≤ 255)
    (oB (oAI 33 201 l1 l2) fun v33 =>
    oB (oAI 20 4300 l1 (v33 + l4)) fun v37 =>
    oB (oPI 98 0 v37) fun _ =>
    oB (oAI 33 201 l1 l2) fun v54 =>
    oB (oAL 21 4300 l1 (v54 + l4)) fun v58 =>
    oB (oPL 99 0 v58) fun _ =>
    oR ())
    (oB (M_Mo_constant l3 (l4 - 256)) fun _ =>
    oR ())

theorem cv_Mo_rk_ : CV y_Mo_rk_ b_Mo_rk_ 5 none 4 := ⟨kw_262, kw_263, kw_17, k_Mo_rk_, by decide +kernel⟩
theorem ct_Mo_rk_ {l : Launch} {P : PP} {q : PL} {s s' : S1} {l1 : Int32} {l2 : Int32} {l3 : Int32} {l4 : Int32} (hp0 : 0 ≤ l1 ∧ l1 < 33) {r : Unit} (h : M_Mo_rk_ l1 l2 l3 l4 s = some (r, s')) : Ct l y_Mo_rk_ b_Mo_rk_ 5 none 1 23 P q s [.ref (q.1 0 0), .ref (q.1 28 l1), .int l2, .int l3, .int l4] none q s' := by
  refine ct_of (by decide) (Nat.le_of_ble_eq_true rfl) fun X ls eP el g hR hl => ?_
  have hR : Rt X q ((r, s') : Unit × S1).2 none := hR
  have hl : lv_has ls 5 [(0, .ref (q.1 0 0)), (1, .ref (q.1 28 l1)), (2, .int l2), (3, .int l3), (4, .int l4)] := hl
  generalize (r, s') = o at h hR
  unfold M_Mo_rk_ at h
  refine ww_iload (pc := 0) g.1 d_Mo_rk__0 (lv_at hl 4 rfl) ?_
  refine ww_sipush (pc := 2) g.1 (v := 255) d_Mo_rk__2 (by decide) ?_
  refine ww_icmp_le (pc := 5) (tgt := 20) g.1 d_Mo_rk__5 (by decide) h (fun c h => ?_) (fun c h => ?_)
  · refine ww_aload_n (pc := 20) g.1 d_Mo_rk__20 rfl (lv_at hl 0 rfl) ?_
    refine ww_aload_n (pc := 21) g.1 d_Mo_rk__21 rfl (lv_at hl 1 rfl) ?_
    refine ww_gR (pc := 22) g (k := 7) cl_Th (pt rfl rfl hp0) (by decide) (Or.inl kw_91) (f := 3591) (t := 19) rfl rfl rfl d_Mo_rk__22 ?_
    refine ww_gR (pc := 25) g (k := 0) (cl_Va (Or.inr ⟨by decide, hp0⟩)) (pt rfl rfl hp0) (by decide) (Or.inl kw_92) (f := 2432) (t := 20) rfl rfl rfl d_Mo_rk__25 ?_
    refine ww_aload_n (pc := 28) g.1 d_Mo_rk__28 rfl (lv_at hl 1 rfl) ?_
    refine ww_gR (pc := 29) g (k := 14) cl_Th (pt rfl rfl hp0) (by decide) (Or.inl kw_260) (f := 3598) (t := 33) rfl rfl rfl d_Mo_rk__29 ?_
    refine ww_iload_n (pc := 32) g.1 d_Mo_rk__32 rfl (lv_at hl 2 rfl) ?_
    refine ww_ai (pc := 33) g (pt rfl rfl hp0) rfl rfl d_Mo_rk__33 h fun v33 h => ?_
    refine ww_iload (pc := 34) g.1 d_Mo_rk__34 (lv_at hl 4 rfl) ?_
    refine ww_iadd (pc := 36) g.1 d_Mo_rk__36 ?_
    refine ww_ab (pc := 37) g (pt rfl rfl hp0) rfl rfl d_Mo_rk__37 h fun v37 h => ?_
    refine ww_pI (pc := 38) g (k := 98) cl_Mo (pz rfl (by decide)) (by decide) (Or.inl kw_254) rfl (f := 98) rfl rfl rfl rfl d_Mo_rk__38 h fun s hs h => ?_
    refine ww_aload_n (pc := 41) g.1 d_Mo_rk__41 rfl (lv_at hl 0 rfl) ?_
    refine ww_aload_n (pc := 42) g.1 d_Mo_rk__42 rfl (lv_at hl 1 rfl) ?_
    refine ww_gR (pc := 43) g (k := 7) cl_Th (pt rfl rfl hp0) (by decide) (Or.inl kw_91) (f := 3591) (t := 19) rfl rfl rfl d_Mo_rk__43 ?_
    refine ww_gR (pc := 46) g (k := 1) (cl_Va (Or.inr ⟨by decide, hp0⟩)) (pt rfl rfl hp0) (by decide) (Or.inl kw_95) (f := 2433) (t := 21) rfl rfl rfl d_Mo_rk__46 ?_
    refine ww_aload_n (pc := 49) g.1 d_Mo_rk__49 rfl (lv_at hl 1 rfl) ?_
    refine ww_gR (pc := 50) g (k := 14) cl_Th (pt rfl rfl hp0) (by decide) (Or.inl kw_260) (f := 3598) (t := 33) rfl rfl rfl d_Mo_rk__50 ?_
    refine ww_iload_n (pc := 53) g.1 d_Mo_rk__53 rfl (lv_at hl 2 rfl) ?_
    refine ww_ai (pc := 54) g (pt rfl rfl hp0) rfl rfl d_Mo_rk__54 h fun v54 h => ?_
    refine ww_iload (pc := 55) g.1 d_Mo_rk__55 (lv_at hl 4 rfl) ?_
    refine ww_iadd (pc := 57) g.1 d_Mo_rk__57 ?_
    refine ww_al (pc := 58) g (pt rfl rfl hp0) rfl rfl d_Mo_rk__58 h fun v58 h => ?_
    refine ww_pL (pc := 59) g (k := 99) cl_Mo (pz rfl (by decide)) (by decide) (Or.inl kw_255) rfl (f := 99) rfl rfl rfl rfl d_Mo_rk__59 h fun s hs h => ?_
    exact ww_vretH (pc := 62) g h hR d_Mo_rk__62
  · refine ww_aload_n (pc := 8) g.1 d_Mo_rk__8 rfl (lv_at hl 0 rfl) ?_
    refine ww_iload_n (pc := 9) g.1 d_Mo_rk__9 rfl (lv_at hl 3 rfl) ?_
    refine ww_iload (pc := 10) g.1 d_Mo_rk__10 (lv_at hl 4 rfl) ?_
    refine ww_sipush (pc := 12) g.1 (v := 256) d_Mo_rk__12 (by decide) ?_
    refine ww_isub (pc := 15) g.1 d_Mo_rk__15 ?_
    obtain ⟨v16, s, hc16, h⟩ := oB_of h
    refine ww_callV (pc := 16) (rest := []) g cv_Mo_constant (Or.inl kw_261) cl_Mo (pz rfl (by decide)) (ct_Mo_constant hc16) ⟨by decide, by decide⟩ rfl hl.1 (Nat.le_of_ble_eq_true rfl) d_Mo_rk__16 rfl ?_
    refine ww_st (st' := []) rfl ?_
    exact ww_vretH (pc := 19) g h hR d_Mo_rk__19

abbrev b_Mo_index : ByteArray := prog_14_method_115_code
def y_Mo_index : MethodName := ⟨R_Mo, "index", "(IJIJI)V"⟩
abbrev w_Mo_index : List Cond := .code y_Mo_index b_Mo_index 17 none :: wA
set_option maxRecDepth 20000 in
theorem k_Mo_index : Cond.code y_Mo_index b_Mo_index 17 none ∈ wA := kinm (show _ ∈ tables_1 from (List.mem_append_right _ (List.mem_append_right _ (List.mem_append_right _ (List.mem_append_right _ (List.mem_append_right _ (List.mem_append_right _ (List.mem_append_right _ (List.mem_append_right _ (List.mem_append_right _ (List.mem_append_right _ (List.mem_append_right _ (List.mem_append_right _ (List.mem_append_left _ (List.mem_of_getElem? (l := tables_1_13) (i := 150) rfl))))))))))))))) rfl
theorem d_Mo_index_0 : decode b_Mo_index 0 = .ok (.iload_n 1, 1) := by decide +kernel
theorem d_Mo_index_1 : decode b_Mo_index 1 = .ok (.istore 8, 2) := by decide +kernel
theorem d_Mo_index_3 : decode b_Mo_index 3 = .ok (.lload_n 2, 1) := by decide +kernel
theorem d_Mo_index_4 : decode b_Mo_index 4 = .ok (.lstore 9, 2) := by decide +kernel
theorem d_Mo_index_6 : decode b_Mo_index 6 = .ok (.iconst 1, 1) := by decide +kernel
theorem d_Mo_index_7 : decode b_Mo_index 7 = .ok (.istore 11, 2) := by decide +kernel
theorem d_Mo_index_9 : decode b_Mo_index 9 = .ok (.iload 8, 2) := by decide +kernel
theorem d_Mo_index_11 : decode b_Mo_index 11 = .ok (.iconst 5, 1) := by decide +kernel
theorem d_Mo_index_12 : decode b_Mo_index 12 = .ok (.if_icmp .eq 10, 3) := by decide +kernel
theorem d_Mo_index_15 : decode b_Mo_index 15 = .ok (.aload_n 0, 1) := by decide +kernel
theorem d_Mo_index_16 : decode b_Mo_index 16 = .ok (.iconst 2, 1) := by decide +kernel
theorem d_Mo_index_17 : decode b_Mo_index 17 = .ok (.invokevirtual 517, 3) := by decide +kernel
theorem d_Mo_index_20 : decode b_Mo_index 20 = .ok (.pop, 1) := by decide +kernel
theorem d_Mo_index_21 : decode b_Mo_index 21 = .ok (.return_, 1) := by decide +kernel
theorem d_Mo_index_22 : decode b_Mo_index 22 = .ok (.aload_n 0, 1) := by decide +kernel
theorem d_Mo_index_23 : decode b_Mo_index 23 = .ok (.lload 9, 2) := by decide +kernel
theorem d_Mo_index_25 : decode b_Mo_index 25 = .ok (.l2i, 1) := by decide +kernel
theorem d_Mo_index_26 : decode b_Mo_index 26 = .ok (.iload 4, 2) := by decide +kernel
theorem d_Mo_index_28 : decode b_Mo_index 28 = .ok (.lload 5, 2) := by decide +kernel
theorem d_Mo_index_30 : decode b_Mo_index 30 = .ok (.invokevirtual 581, 3) := by decide +kernel
theorem d_Mo_index_33 : decode b_Mo_index 33 = .ok (.istore 12, 2) := by decide +kernel
theorem d_Mo_index_35 : decode b_Mo_index 35 = .ok (.aload_n 0, 1) := by decide +kernel
theorem d_Mo_index_36 : decode b_Mo_index 36 = .ok (.getfield 222, 3) := by decide +kernel
theorem d_Mo_index_39 : decode b_Mo_index 39 = .ok (.istore 13, 2) := by decide +kernel
theorem d_Mo_index_41 : decode b_Mo_index 41 = .ok (.aload_n 0, 1) := by decide +kernel
theorem d_Mo_index_42 : decode b_Mo_index 42 = .ok (.getfield 225, 3) := by decide +kernel
theorem d_Mo_index_45 : decode b_Mo_index 45 = .ok (.lstore 14, 2) := by decide +kernel
theorem d_Mo_index_47 : decode b_Mo_index 47 = .ok (.iload 12, 2) := by decide +kernel
theorem d_Mo_index_49 : decode b_Mo_index 49 = .ok (.ifCond .ne 15, 3) := by decide +kernel
theorem d_Mo_index_52 : decode b_Mo_index 52 = .ok (.aload_n 0, 1) := by decide +kernel
theorem d_Mo_index_53 : decode b_Mo_index 53 = .ok (.iload 8, 2) := by decide +kernel
theorem d_Mo_index_55 : decode b_Mo_index 55 = .ok (.lload 9, 2) := by decide +kernel
theorem d_Mo_index_57 : decode b_Mo_index 57 = .ok (.iconst 0, 1) := by decide +kernel
theorem d_Mo_index_58 : decode b_Mo_index 58 = .ok (.invokevirtual 715, 3) := by decide +kernel
theorem d_Mo_index_61 : decode b_Mo_index 61 = .ok (.ifCond .ne 40, 3) := by decide +kernel
theorem d_Mo_index_64 : decode b_Mo_index 64 = .ok (.aload_n 0, 1) := by decide +kernel
theorem d_Mo_index_65 : decode b_Mo_index 65 = .ok (.getfield 243, 3) := by decide +kernel
theorem d_Mo_index_68 : decode b_Mo_index 68 = .ok (.invokevirtual 703, 3) := by decide +kernel
theorem d_Mo_index_71 : decode b_Mo_index 71 = .ok (.istore 16, 2) := by decide +kernel
theorem d_Mo_index_73 : decode b_Mo_index 73 = .ok (.aload_n 0, 1) := by decide +kernel
theorem d_Mo_index_74 : decode b_Mo_index 74 = .ok (.getfield 243, 3) := by decide +kernel
theorem d_Mo_index_77 : decode b_Mo_index 77 = .ok (.getfield 591, 3) := by decide +kernel
theorem d_Mo_index_80 : decode b_Mo_index 80 = .ok (.aload_n 0, 1) := by decide +kernel
theorem d_Mo_index_81 : decode b_Mo_index 81 = .ok (.getfield 243, 3) := by decide +kernel
theorem d_Mo_index_84 : decode b_Mo_index 84 = .ok (.getfield 744, 3) := by decide +kernel
theorem d_Mo_index_87 : decode b_Mo_index 87 = .ok (.iload 16, 2) := by decide +kernel
theorem d_Mo_index_89 : decode b_Mo_index 89 = .ok (.iaload, 1) := by decide +kernel
theorem d_Mo_index_90 : decode b_Mo_index 90 = .ok (.iload 7, 2) := by decide +kernel
theorem d_Mo_index_92 : decode b_Mo_index 92 = .ok (.iadd, 1) := by decide +kernel
theorem d_Mo_index_93 : decode b_Mo_index 93 = .ok (.iload 13, 2) := by decide +kernel
theorem d_Mo_index_95 : decode b_Mo_index 95 = .ok (.lload 14, 2) := by decide +kernel
theorem d_Mo_index_97 : decode b_Mo_index 97 = .ok (.invokevirtual 470, 3) := by decide +kernel
theorem d_Mo_index_100 : decode b_Mo_index 100 = .ok (.return_, 1) := by decide +kernel
theorem d_Mo_index_101 : decode b_Mo_index 101 = .ok (.aload_n 0, 1) := by decide +kernel
theorem d_Mo_index_102 : decode b_Mo_index 102 = .ok (.getfield 222, 3) := by decide +kernel
theorem d_Mo_index_105 : decode b_Mo_index 105 = .ok (.bipush 6, 2) := by decide +kernel
theorem d_Mo_index_107 : decode b_Mo_index 107 = .ok (.if_icmp .ne 28, 3) := by decide +kernel
theorem d_Mo_index_110 : decode b_Mo_index 110 = .ok (.aload_n 0, 1) := by decide +kernel
theorem d_Mo_index_111 : decode b_Mo_index 111 = .ok (.iload 8, 2) := by decide +kernel
theorem d_Mo_index_113 : decode b_Mo_index 113 = .ok (.lload 9, 2) := by decide +kernel
theorem d_Mo_index_115 : decode b_Mo_index 115 = .ok (.iload 4, 2) := by decide +kernel
theorem d_Mo_index_117 : decode b_Mo_index 117 = .ok (.lload 5, 2) := by decide +kernel
theorem d_Mo_index_119 : decode b_Mo_index 119 = .ok (.invokevirtual 943, 3) := by decide +kernel
theorem d_Mo_index_122 : decode b_Mo_index 122 = .ok (.aload_n 0, 1) := by decide +kernel
theorem d_Mo_index_123 : decode b_Mo_index 123 = .ok (.iconst 1, 1) := by decide +kernel
theorem d_Mo_index_124 : decode b_Mo_index 124 = .ok (.iload 7, 2) := by decide +kernel
theorem d_Mo_index_126 : decode b_Mo_index 126 = .ok (.iconst 1, 1) := by decide +kernel
theorem d_Mo_index_127 : decode b_Mo_index 127 = .ok (.invokevirtual 947, 3) := by decide +kernel
theorem d_Mo_index_130 : decode b_Mo_index 130 = .ok (.aload_n 0, 1) := by decide +kernel
theorem d_Mo_index_131 : decode b_Mo_index 131 = .ok (.invokevirtual 950, 3) := by decide +kernel
theorem d_Mo_index_134 : decode b_Mo_index 134 = .ok (.return_, 1) := by decide +kernel
theorem d_Mo_index_135 : decode b_Mo_index 135 = .ok (.iload 11, 2) := by decide +kernel
theorem d_Mo_index_137 : decode b_Mo_index 137 = .ok (.bipush 100, 2) := by decide +kernel
theorem d_Mo_index_139 : decode b_Mo_index 139 = .ok (.if_icmp .ne 10, 3) := by decide +kernel
theorem d_Mo_index_142 : decode b_Mo_index 142 = .ok (.aload_n 0, 1) := by decide +kernel
theorem d_Mo_index_143 : decode b_Mo_index 143 = .ok (.iconst 4, 1) := by decide +kernel
theorem d_Mo_index_144 : decode b_Mo_index 144 = .ok (.invokevirtual 517, 3) := by decide +kernel
theorem d_Mo_index_147 : decode b_Mo_index 147 = .ok (.pop, 1) := by decide +kernel
theorem d_Mo_index_148 : decode b_Mo_index 148 = .ok (.return_, 1) := by decide +kernel
theorem d_Mo_index_149 : decode b_Mo_index 149 = .ok (.aload_n 0, 1) := by decide +kernel
theorem d_Mo_index_150 : decode b_Mo_index 150 = .ok (.getfield 222, 3) := by decide +kernel
theorem d_Mo_index_153 : decode b_Mo_index 153 = .ok (.istore 8, 2) := by decide +kernel
theorem d_Mo_index_155 : decode b_Mo_index 155 = .ok (.aload_n 0, 1) := by decide +kernel
theorem d_Mo_index_156 : decode b_Mo_index 156 = .ok (.getfield 225, 3) := by decide +kernel
theorem d_Mo_index_159 : decode b_Mo_index 159 = .ok (.lstore 9, 2) := by decide +kernel
theorem d_Mo_index_161 : decode b_Mo_index 161 = .ok (.iinc 11 1, 3) := by decide +kernel
theorem d_Mo_index_164 : decode b_Mo_index 164 = .ok (.goto (-155), 3) := by decide +kernel
abbrev b_Mo_callGot : ByteArray := prog_14_method_64_code
def y_Mo_callGot : MethodName := ⟨R_Mo, "callGot", "()V"⟩
abbrev w_Mo_callGot : List Cond := .code y_Mo_callGot b_Mo_callGot 1 none :: wA
theorem k_Mo_callGot : Cond.code y_Mo_callGot b_Mo_callGot 1 none ∈ wA := kinm (show _ ∈ tables_1 from (List.mem_append_right _ (List.mem_append_right _ (List.mem_append_right _ (List.mem_append_right _ (List.mem_append_right _ (List.mem_append_right _ (List.mem_append_right _ (List.mem_append_right _ (List.mem_append_right _ (List.mem_append_right _ (List.mem_append_right _ (List.mem_append_right _ (List.mem_append_left _ (List.mem_of_getElem? (l := tables_1_13) (i := 154) (by decide +kernel)))))))))))))))) (by decide +kernel)
theorem d_Mo_callGot_0 : decode b_Mo_callGot 0 = .ok (.aload_n 0, 1) := by decide +kernel
theorem d_Mo_callGot_1 : decode b_Mo_callGot 1 = .ok (.aload_n 0, 1) := by decide +kernel
theorem d_Mo_callGot_2 : decode b_Mo_callGot 2 = .ok (.getfield 222, 3) := by decide +kernel
theorem d_Mo_callGot_5 : decode b_Mo_callGot 5 = .ok (.putfield 253, 3) := by decide +kernel
theorem d_Mo_callGot_8 : decode b_Mo_callGot 8 = .ok (.aload_n 0, 1) := by decide +kernel
theorem d_Mo_callGot_9 : decode b_Mo_callGot 9 = .ok (.aload_n 0, 1) := by decide +kernel
theorem d_Mo_callGot_10 : decode b_Mo_callGot 10 = .ok (.getfield 225, 3) := by decide +kernel
theorem d_Mo_callGot_13 : decode b_Mo_callGot 13 = .ok (.putfield 256, 3) := by decide +kernel
theorem d_Mo_callGot_16 : decode b_Mo_callGot 16 = .ok (.aload_n 0, 1) := by decide +kernel
theorem d_Mo_callGot_17 : decode b_Mo_callGot 17 = .ok (.iconst 1, 1) := by decide +kernel
theorem d_Mo_callGot_18 : decode b_Mo_callGot 18 = .ok (.putfield 247, 3) := by decide +kernel
theorem d_Mo_callGot_21 : decode b_Mo_callGot 21 = .ok (.return_, 1) := by decide +kernel
theorem kw_264 : Cond.instanceMethod y_Mo_callGot ∈ wA := kinm (show _ ∈ tables_1 from (List.mem_append_right _ (List.mem_append_right _ (List.mem_append_right _ (List.mem_append_right _ (List.mem_append_right _ (List.mem_append_right _ (List.mem_append_right _ (List.mem_append_right _ (List.mem_append_right _ (List.mem_append_right _ (List.mem_append_right _ (List.mem_append_right _ (List.mem_append_left _ (List.mem_of_getElem? (l := tables_1_13) (i := 153) (by decide +kernel)))))))))))))))) (by decide +kernel)
theorem kw_265 : Cond.selects R_Mo y_Mo_callGot y_Mo_callGot ∈ wA := kinp 209 (by decide +kernel) (by decide +kernel)
def M_Mo_callGot  : M (Unit) :=
  oB (oGI 66 0) fun v2 =>
  oB (oPI 75 0 v2) fun _ =>
  oB (oGL 67 0) fun v10 =>
  oB (oPL 76 0 v10) fun _ =>
  oB (oPI 73 0 1) fun _ =>
  oR ()

theorem cv_Mo_callGot : CV y_Mo_callGot b_Mo_callGot 1 none 0 := ⟨kw_264, kw_265, kw_17, k_Mo_callGot, by decide +kernel⟩
theorem ct_Mo_callGot {l : Launch} {P : PP} {q : PL} {s s' : S1}  {r : Unit} (h : M_Mo_callGot s = some (r, s')) : Ct l y_Mo_callGot b_Mo_callGot 1 none 0 0 P q s [.ref (q.1 0 0)] none q s' := by
  refine ct_of (by decide) (Nat.le_of_ble_eq_true rfl) fun X ls eP el g hR hl => ?_
  have hR : Rt X q ((r, s') : Unit × S1).2 none := hR
  have hl : lv_has ls 1 [(0, .ref (q.1 0 0))] := hl
  generalize (r, s') = o at h hR
  unfold M_Mo_callGot at h
  refine ww_aload_n (pc := 0) g.1 d_Mo_callGot_0 rfl (lv_at hl 0 rfl) ?_
  refine ww_aload_n (pc := 1) g.1 d_Mo_callGot_1 rfl (lv_at hl 0 rfl) ?_
  refine ww_gI (pc := 2) g (k := 66) cl_Mo (pz rfl (by decide)) (by decide) (Or.inl kw_94) (f := 66) rfl rfl d_Mo_callGot_2 h fun v2 h => ?_
  refine ww_pI (pc := 5) g (k := 75) cl_Mo (pz rfl (by decide)) (by decide) (Or.inl kw_198) rfl (f := 75) rfl rfl rfl rfl d_Mo_callGot_5 h fun s hs h => ?_
  refine ww_aload_n (pc := 8) g.1 d_Mo_callGot_8 rfl (lv_at hl 0 rfl) ?_
  refine ww_aload_n (pc := 9) g.1 d_Mo_callGot_9 rfl (lv_at hl 0 rfl) ?_
  refine ww_gL (pc := 10) g (k := 67) cl_Mo (pz rfl (by decide)) (by decide) (Or.inl kw_96) (f := 67) rfl rfl d_Mo_callGot_10 h fun v10 h => ?_
  refine ww_pL (pc := 13) g (k := 76) cl_Mo (pz rfl (by decide)) (by decide) (Or.inl kw_200) rfl (f := 76) rfl rfl rfl rfl d_Mo_callGot_13 h fun s hs h => ?_
  refine ww_aload_n (pc := 16) g.1 d_Mo_callGot_16 rfl (lv_at hl 0 rfl) ?_
  refine ww_iconst (pc := 17) g.1 (v := 1) d_Mo_callGot_17 (by decide) ?_
  refine ww_pI (pc := 18) g (k := 73) cl_Mo (pz rfl (by decide)) (by decide) (Or.inl kw_77) rfl (f := 73) rfl rfl rfl rfl d_Mo_callGot_18 h fun s hs h => ?_
  exact ww_vretH (pc := 21) g h hR d_Mo_callGot_21

abbrev b_Mo_write : ByteArray := prog_14_method_116_code
def y_Mo_write : MethodName := ⟨R_Mo, "write", "(IJIJIJ)V"⟩
abbrev w_Mo_write : List Cond := .code y_Mo_write b_Mo_write 14 none :: wA
theorem k_Mo_write : Cond.code y_Mo_write b_Mo_write 14 none ∈ wA := kinm (show _ ∈ tables_1 from (List.mem_append_right _ (List.mem_append_right _ (List.mem_append_right _ (List.mem_append_right _ (List.mem_append_right _ (List.mem_append_right _ (List.mem_append_right _ (List.mem_append_right _ (List.mem_append_right _ (List.mem_append_right _ (List.mem_append_right _ (List.mem_append_right _ (List.mem_append_left _ (List.mem_of_getElem? (l := tables_1_13) (i := 158) (by decide +kernel)))))))))))))))) (by decide +kernel)
theorem d_Mo_write_0 : decode b_Mo_write 0 = .ok (.iload_n 1, 1) := by decide +kernel
theorem d_Mo_write_1 : decode b_Mo_write 1 = .ok (.istore 10, 2) := by decide +kernel
theorem d_Mo_write_3 : decode b_Mo_write 3 = .ok (.lload_n 2, 1) := by decide +kernel
theorem d_Mo_write_4 : decode b_Mo_write 4 = .ok (.lstore 11, 2) := by decide +kernel
theorem d_Mo_write_6 : decode b_Mo_write 6 = .ok (.iconst 1, 1) := by decide +kernel
theorem d_Mo_write_7 : decode b_Mo_write 7 = .ok (.istore 13, 2) := by decide +kernel
theorem d_Mo_write_9 : decode b_Mo_write 9 = .ok (.iload 10, 2) := by decide +kernel
theorem d_Mo_write_11 : decode b_Mo_write 11 = .ok (.iconst 5, 1) := by decide +kernel
theorem d_Mo_write_12 : decode b_Mo_write 12 = .ok (.if_icmp .eq 10, 3) := by decide +kernel
theorem d_Mo_write_15 : decode b_Mo_write 15 = .ok (.aload_n 0, 1) := by decide +kernel
theorem d_Mo_write_16 : decode b_Mo_write 16 = .ok (.iconst 2, 1) := by decide +kernel
theorem d_Mo_write_17 : decode b_Mo_write 17 = .ok (.invokevirtual 517, 3) := by decide +kernel
theorem d_Mo_write_20 : decode b_Mo_write 20 = .ok (.pop, 1) := by decide +kernel
theorem d_Mo_write_21 : decode b_Mo_write 21 = .ok (.return_, 1) := by decide +kernel
theorem d_Mo_write_22 : decode b_Mo_write 22 = .ok (.aload_n 0, 1) := by decide +kernel
theorem d_Mo_write_23 : decode b_Mo_write 23 = .ok (.lload 11, 2) := by decide +kernel
theorem d_Mo_write_25 : decode b_Mo_write 25 = .ok (.l2i, 1) := by decide +kernel
theorem d_Mo_write_26 : decode b_Mo_write 26 = .ok (.iload 4, 2) := by decide +kernel
theorem d_Mo_write_28 : decode b_Mo_write 28 = .ok (.lload 5, 2) := by decide +kernel
theorem d_Mo_write_30 : decode b_Mo_write 30 = .ok (.invokevirtual 581, 3) := by decide +kernel
theorem d_Mo_write_33 : decode b_Mo_write 33 = .ok (.ifCond .ne 15, 3) := by decide +kernel
theorem d_Mo_write_36 : decode b_Mo_write 36 = .ok (.aload_n 0, 1) := by decide +kernel
theorem d_Mo_write_37 : decode b_Mo_write 37 = .ok (.iload 10, 2) := by decide +kernel
theorem d_Mo_write_39 : decode b_Mo_write 39 = .ok (.lload 11, 2) := by decide +kernel
theorem d_Mo_write_41 : decode b_Mo_write 41 = .ok (.iconst 1, 1) := by decide +kernel
theorem d_Mo_write_42 : decode b_Mo_write 42 = .ok (.invokevirtual 715, 3) := by decide +kernel
theorem d_Mo_write_45 : decode b_Mo_write 45 = .ok (.ifCond .ne 20, 3) := by decide +kernel
theorem d_Mo_write_48 : decode b_Mo_write 48 = .ok (.aload_n 0, 1) := by decide +kernel
theorem d_Mo_write_49 : decode b_Mo_write 49 = .ok (.lload 11, 2) := by decide +kernel
theorem d_Mo_write_51 : decode b_Mo_write 51 = .ok (.l2i, 1) := by decide +kernel
theorem d_Mo_write_52 : decode b_Mo_write 52 = .ok (.iload 4, 2) := by decide +kernel
theorem d_Mo_write_54 : decode b_Mo_write 54 = .ok (.lload 5, 2) := by decide +kernel
theorem d_Mo_write_56 : decode b_Mo_write 56 = .ok (.iload 7, 2) := by decide +kernel
theorem d_Mo_write_58 : decode b_Mo_write 58 = .ok (.lload 8, 2) := by decide +kernel
theorem d_Mo_write_60 : decode b_Mo_write 60 = .ok (.invokevirtual 684, 3) := by decide +kernel
theorem d_Mo_write_63 : decode b_Mo_write 63 = .ok (.pop, 1) := by decide +kernel
theorem d_Mo_write_64 : decode b_Mo_write 64 = .ok (.return_, 1) := by decide +kernel
theorem d_Mo_write_65 : decode b_Mo_write 65 = .ok (.aload_n 0, 1) := by decide +kernel
theorem d_Mo_write_66 : decode b_Mo_write 66 = .ok (.getfield 222, 3) := by decide +kernel
theorem d_Mo_write_69 : decode b_Mo_write 69 = .ok (.bipush 6, 2) := by decide +kernel
theorem d_Mo_write_71 : decode b_Mo_write 71 = .ok (.if_icmp .ne 38, 3) := by decide +kernel
theorem d_Mo_write_74 : decode b_Mo_write 74 = .ok (.aload_n 0, 1) := by decide +kernel
theorem d_Mo_write_75 : decode b_Mo_write 75 = .ok (.iload 10, 2) := by decide +kernel
theorem d_Mo_write_77 : decode b_Mo_write 77 = .ok (.lload 11, 2) := by decide +kernel
theorem d_Mo_write_79 : decode b_Mo_write 79 = .ok (.iload 4, 2) := by decide +kernel
theorem d_Mo_write_81 : decode b_Mo_write 81 = .ok (.lload 5, 2) := by decide +kernel
theorem d_Mo_write_83 : decode b_Mo_write 83 = .ok (.invokevirtual 943, 3) := by decide +kernel
theorem d_Mo_write_86 : decode b_Mo_write 86 = .ok (.aload_n 0, 1) := by decide +kernel
theorem d_Mo_write_87 : decode b_Mo_write 87 = .ok (.getfield 259, 3) := by decide +kernel
theorem d_Mo_write_90 : decode b_Mo_write 90 = .ok (.iload 7, 2) := by decide +kernel
theorem d_Mo_write_92 : decode b_Mo_write 92 = .ok (.lload 8, 2) := by decide +kernel
theorem d_Mo_write_94 : decode b_Mo_write 94 = .ok (.invokevirtual 572, 3) := by decide +kernel
theorem d_Mo_write_97 : decode b_Mo_write 97 = .ok (.aload_n 0, 1) := by decide +kernel
theorem d_Mo_write_98 : decode b_Mo_write 98 = .ok (.iconst 3, 1) := by decide +kernel
theorem d_Mo_write_99 : decode b_Mo_write 99 = .ok (.iconst 0, 1) := by decide +kernel
theorem d_Mo_write_100 : decode b_Mo_write 100 = .ok (.iconst 0, 1) := by decide +kernel
theorem d_Mo_write_101 : decode b_Mo_write 101 = .ok (.invokevirtual 947, 3) := by decide +kernel
theorem d_Mo_write_104 : decode b_Mo_write 104 = .ok (.aload_n 0, 1) := by decide +kernel
theorem d_Mo_write_105 : decode b_Mo_write 105 = .ok (.invokevirtual 950, 3) := by decide +kernel
theorem d_Mo_write_108 : decode b_Mo_write 108 = .ok (.return_, 1) := by decide +kernel
theorem d_Mo_write_109 : decode b_Mo_write 109 = .ok (.iload 13, 2) := by decide +kernel
theorem d_Mo_write_111 : decode b_Mo_write 111 = .ok (.bipush 100, 2) := by decide +kernel
theorem d_Mo_write_113 : decode b_Mo_write 113 = .ok (.if_icmp .ne 10, 3) := by decide +kernel
theorem d_Mo_write_116 : decode b_Mo_write 116 = .ok (.aload_n 0, 1) := by decide +kernel
theorem d_Mo_write_117 : decode b_Mo_write 117 = .ok (.iconst 4, 1) := by decide +kernel
theorem d_Mo_write_118 : decode b_Mo_write 118 = .ok (.invokevirtual 517, 3) := by decide +kernel
theorem d_Mo_write_121 : decode b_Mo_write 121 = .ok (.pop, 1) := by decide +kernel
theorem d_Mo_write_122 : decode b_Mo_write 122 = .ok (.return_, 1) := by decide +kernel
theorem d_Mo_write_123 : decode b_Mo_write 123 = .ok (.aload_n 0, 1) := by decide +kernel
theorem d_Mo_write_124 : decode b_Mo_write 124 = .ok (.getfield 222, 3) := by decide +kernel
theorem d_Mo_write_127 : decode b_Mo_write 127 = .ok (.istore 10, 2) := by decide +kernel
theorem d_Mo_write_129 : decode b_Mo_write 129 = .ok (.aload_n 0, 1) := by decide +kernel
theorem d_Mo_write_130 : decode b_Mo_write 130 = .ok (.getfield 225, 3) := by decide +kernel
theorem d_Mo_write_133 : decode b_Mo_write 133 = .ok (.lstore 11, 2) := by decide +kernel
theorem d_Mo_write_135 : decode b_Mo_write 135 = .ok (.iinc 13 1, 3) := by decide +kernel
theorem d_Mo_write_138 : decode b_Mo_write 138 = .ok (.goto (-129), 3) := by decide +kernel
abbrev b_Mo_store : ByteArray := prog_14_method_41_code
def y_Mo_store : MethodName := ⟨R_Mo, "store", "(IIJ)V"⟩
abbrev w_Mo_store : List Cond := .code y_Mo_store b_Mo_store 5 none :: wA
theorem k_Mo_store : Cond.code y_Mo_store b_Mo_store 5 none ∈ wA := kinm (show _ ∈ tables_1 from (List.mem_append_right _ (List.mem_append_right _ (List.mem_append_right _ (List.mem_append_right _ (List.mem_append_right _ (List.mem_append_right _ (List.mem_append_right _ (List.mem_append_right _ (List.mem_append_right _ (List.mem_append_right _ (List.mem_append_right _ (List.mem_append_right _ (List.mem_append_left _ (List.mem_of_getElem? (l := tables_1_13) (i := 162) (by decide +kernel)))))))))))))))) (by decide +kernel)
theorem d_Mo_store_0 : decode b_Mo_store 0 = .ok (.aload_n 0, 1) := by decide +kernel
theorem d_Mo_store_1 : decode b_Mo_store 1 = .ok (.getfield 168, 3) := by decide +kernel
theorem d_Mo_store_4 : decode b_Mo_store 4 = .ok (.iload_n 1, 1) := by decide +kernel
theorem d_Mo_store_5 : decode b_Mo_store 5 = .ok (.iaload, 1) := by decide +kernel
theorem d_Mo_store_6 : decode b_Mo_store 6 = .ok (.ifCond .ge 16, 3) := by decide +kernel
theorem d_Mo_store_9 : decode b_Mo_store 9 = .ok (.aload_n 0, 1) := by decide +kernel
theorem d_Mo_store_10 : decode b_Mo_store 10 = .ok (.getfield 212, 3) := by decide +kernel
theorem d_Mo_store_13 : decode b_Mo_store 13 = .ok (.iload_n 1, 1) := by decide +kernel
theorem d_Mo_store_14 : decode b_Mo_store 14 = .ok (.iload_n 2, 1) := by decide +kernel
theorem d_Mo_store_15 : decode b_Mo_store 15 = .ok (.lload_n 3, 1) := by decide +kernel
theorem d_Mo_store_16 : decode b_Mo_store 16 = .ok (.invokevirtual 470, 3) := by decide +kernel
theorem d_Mo_store_19 : decode b_Mo_store 19 = .ok (.goto 28, 3) := by decide +kernel
theorem d_Mo_store_22 : decode b_Mo_store 22 = .ok (.aload_n 0, 1) := by decide +kernel
theorem d_Mo_store_23 : decode b_Mo_store 23 = .ok (.getfield 239, 3) := by decide +kernel
theorem d_Mo_store_26 : decode b_Mo_store 26 = .ok (.aload_n 0, 1) := by decide +kernel
theorem d_Mo_store_27 : decode b_Mo_store 27 = .ok (.getfield 168, 3) := by decide +kernel
theorem d_Mo_store_30 : decode b_Mo_store 30 = .ok (.iload_n 1, 1) := by decide +kernel
theorem d_Mo_store_31 : decode b_Mo_store 31 = .ok (.iaload, 1) := by decide +kernel
theorem d_Mo_store_32 : decode b_Mo_store 32 = .ok (.aaload, 1) := by decide +kernel
theorem d_Mo_store_33 : decode b_Mo_store 33 = .ok (.getfield 591, 3) := by decide +kernel
theorem d_Mo_store_36 : decode b_Mo_store 36 = .ok (.aload_n 0, 1) := by decide +kernel
theorem d_Mo_store_37 : decode b_Mo_store 37 = .ok (.getfield 171, 3) := by decide +kernel
theorem d_Mo_store_40 : decode b_Mo_store 40 = .ok (.iload_n 1, 1) := by decide +kernel
theorem d_Mo_store_41 : decode b_Mo_store 41 = .ok (.iaload, 1) := by decide +kernel
theorem d_Mo_store_42 : decode b_Mo_store 42 = .ok (.iload_n 2, 1) := by decide +kernel
theorem d_Mo_store_43 : decode b_Mo_store 43 = .ok (.lload_n 3, 1) := by decide +kernel
theorem d_Mo_store_44 : decode b_Mo_store 44 = .ok (.invokevirtual 470, 3) := by decide +kernel
theorem d_Mo_store_47 : decode b_Mo_store 47 = .ok (.return_, 1) := by decide +kernel
theorem kw_266 : Cond.instanceMethod y_Mo_store ∈ wA := kinm (show _ ∈ tables_1 from (List.mem_append_right _ (List.mem_append_right _ (List.mem_append_right _ (List.mem_append_right _ (List.mem_append_right _ (List.mem_append_right _ (List.mem_append_right _ (List.mem_append_right _ (List.mem_append_right _ (List.mem_append_right _ (List.mem_append_right _ (List.mem_append_right _ (List.mem_append_left _ (List.mem_of_getElem? (l := tables_1_13) (i := 161) (by decide +kernel)))))))))))))))) (by decide +kernel)
theorem kw_267 : Cond.selects R_Mo y_Mo_store y_Mo_store ∈ wA := kinp 211 (by decide +kernel) (by decide +kernel)
def M_Mo_store (l1 : Int32) (l2 : Int32) (l3 : Int64) : M (Unit) :=
  oB (oAI 62 4100 0 l1) fun v5 =>
  oC (0 ≤ v5)
    (oB (oAI 62 4100 0 l1) fun v31 =>
    oB (oK ((0 : Int32) ≤ v31 ∧ v31 < 33)) fun _ =>
    oB (oAI 63 4100 0 l1) fun v41 =>
    oB (M_Va_set 19 v31 v41 l2 l3) fun _ =>
    oR ())
    (oB (M_Va_set 4 0 l1 l2 l3) fun _ =>
    oR ())

theorem cv_Mo_store : CV y_Mo_store b_Mo_store 5 none 3 := ⟨kw_266, kw_267, kw_17, k_Mo_store, by decide +kernel⟩
theorem ct_Mo_store {l : Launch} {P : PP} {q : PL} {s s' : S1} {l1 : Int32} {l2 : Int32} {l3 : Int64} {r : Unit} (h : M_Mo_store l1 l2 l3 s = some (r, s')) : Ct l y_Mo_store b_Mo_store 5 none 1 24 P q s [.ref (q.1 0 0), .int l1, .int l2, .long l3] none q s' := by
  refine ct_of (by decide) (Nat.le_of_ble_eq_true rfl) fun X ls eP el g hR hl => ?_
  have hR : Rt X q ((r, s') : Unit × S1).2 none := hR
  have hl : lv_has ls 5 [(0, .ref (q.1 0 0)), (1, .int l1), (2, .int l2), (3, .long l3)] := hl
  generalize (r, s') = o at h hR
  unfold M_Mo_store at h
  refine ww_aload_n (pc := 0) g.1 d_Mo_store_0 rfl (lv_at hl 0 rfl) ?_
  refine ww_gR (pc := 1) g (k := 49) cl_Mo (pz rfl (by decide)) (by decide) (Or.inl kw_89) (f := 49) (t := 62) rfl rfl rfl d_Mo_store_1 ?_
  refine ww_iload_n (pc := 4) g.1 d_Mo_store_4 rfl (lv_at hl 1 rfl) ?_
  refine ww_ai (pc := 5) g (pz rfl (by decide)) rfl rfl d_Mo_store_5 h fun v5 h => ?_
  refine ww_if_ge (pc := 6) (tgt := 22) g.1 d_Mo_store_6 (by decide) h (fun c h => ?_) (fun c h => ?_)
  · refine ww_aload_n (pc := 22) g.1 d_Mo_store_22 rfl (lv_at hl 0 rfl) ?_
    refine ww_gR (pc := 23) g (k := 71) cl_Mo (pz rfl (by decide)) (by decide) (Or.inl kw_90) (f := 71) (t := 76) rfl rfl rfl d_Mo_store_23 ?_
    refine ww_aload_n (pc := 26) g.1 d_Mo_store_26 rfl (lv_at hl 0 rfl) ?_
    refine ww_gR (pc := 27) g (k := 49) cl_Mo (pz rfl (by decide)) (by decide) (Or.inl kw_89) (f := 49) (t := 62) rfl rfl rfl d_Mo_store_27 ?_
    refine ww_iload_n (pc := 30) g.1 d_Mo_store_30 rfl (lv_at hl 1 rfl) ?_
    refine ww_ai (pc := 31) g (pz rfl (by decide)) rfl rfl d_Mo_store_31 h fun v31 h => ?_
    refine ww_at (pc := 32) g (t := 28) (pz rfl (by decide)) rfl rfl rfl d_Mo_store_32 h fun ca32 h => ?_
    refine ww_gR (pc := 33) g (k := 7) cl_Th (pt rfl rfl ca32) (by decide) (Or.inl kw_91) (f := 3591) (t := 19) rfl rfl rfl d_Mo_store_33 ?_
    refine ww_aload_n (pc := 36) g.1 d_Mo_store_36 rfl (lv_at hl 0 rfl) ?_
    refine ww_gR (pc := 37) g (k := 50) cl_Mo (pz rfl (by decide)) (by decide) (Or.inl kw_93) (f := 50) (t := 63) rfl rfl rfl d_Mo_store_37 ?_
    refine ww_iload_n (pc := 40) g.1 d_Mo_store_40 rfl (lv_at hl 1 rfl) ?_
    refine ww_ai (pc := 41) g (pz rfl (by decide)) rfl rfl d_Mo_store_41 h fun v41 h => ?_
    refine ww_iload_n (pc := 42) g.1 d_Mo_store_42 rfl (lv_at hl 2 rfl) ?_
    refine ww_lload_n (pc := 43) g.1 d_Mo_store_43 rfl (lv_at hl 3 rfl) ?_
    obtain ⟨v44, s, hc44, h⟩ := oB_of h
    refine ww_callV (pc := 44) (rest := []) g cv_Va_set (Or.inl kw_101) (cl_Va (Or.inr ⟨by decide, ca32⟩)) (pt rfl rfl ca32) (ct_Va_set (Or.inr ⟨by decide, ca32⟩) hc44) ⟨by decide, by decide⟩ rfl hl.1 (Nat.le_of_ble_eq_true rfl) d_Mo_store_44 rfl ?_
    refine ww_st (st' := []) rfl ?_
    exact ww_vretH (pc := 47) g h hR d_Mo_store_47
  · refine ww_aload_n (pc := 9) g.1 d_Mo_store_9 rfl (lv_at hl 0 rfl) ?_
    refine ww_gR (pc := 10) g (k := 63) cl_Mo (pz rfl (by decide)) (by decide) (Or.inl kw_97) (f := 63) (t := 4) rfl rfl rfl d_Mo_store_10 ?_
    refine ww_iload_n (pc := 13) g.1 d_Mo_store_13 rfl (lv_at hl 1 rfl) ?_
    refine ww_iload_n (pc := 14) g.1 d_Mo_store_14 rfl (lv_at hl 2 rfl) ?_
    refine ww_lload_n (pc := 15) g.1 d_Mo_store_15 rfl (lv_at hl 3 rfl) ?_
    obtain ⟨v16, s, hc16, h⟩ := oB_of h
    refine ww_callV (pc := 16) (rest := []) g cv_Va_set (Or.inl kw_101) (cl_Va (Or.inl ⟨by decide, rfl⟩)) (pz rfl (by decide)) (ct_Va_set (Or.inl ⟨by decide, rfl⟩) hc16) ⟨by decide, by decide⟩ rfl hl.1 (Nat.le_of_ble_eq_true rfl) d_Mo_store_16 rfl ?_
    refine ww_st (st' := []) rfl ?_
    refine ww_goto (pc := 19) (tgt := 47) g.1 d_Mo_store_19 (by decide) ?_
    exact ww_vretH (pc := 47) g h hR d_Mo_store_47

abbrev b_Mo_self : ByteArray := prog_14_method_114_code
def y_Mo_self : MethodName := ⟨R_Mo, "self", "(LLuaMachineModel$Thread_;IIILLuaMachineModel$Values;I)V"⟩
abbrev w_Mo_self : List Cond := .code y_Mo_self b_Mo_self 10 none :: wA
theorem k_Mo_self : Cond.code y_Mo_self b_Mo_self 10 none ∈ wA := kinm (show _ ∈ tables_1 from (List.mem_append_right _ (List.mem_append_right _ (List.mem_append_right _ (List.mem_append_right _ (List.mem_append_right _ (List.mem_append_right _ (List.mem_append_right _ (List.mem_append_right _ (List.mem_append_right _ (List.mem_append_right _ (List.mem_append_right _ (List.mem_append_right _ (List.mem_append_left _ (List.mem_of_getElem? (l := tables_1_13) (i := 166) (by decide +kernel)))))))))))))))) (by decide +kernel)
theorem d_Mo_self_0 : decode b_Mo_self 0 = .ok (.aload 5, 2) := by decide +kernel
theorem d_Mo_self_2 : decode b_Mo_self 2 = .ok (.getfield 585, 3) := by decide +kernel
theorem d_Mo_self_5 : decode b_Mo_self 5 = .ok (.aload_n 1, 1) := by decide +kernel
theorem d_Mo_self_6 : decode b_Mo_self 6 = .ok (.getfield 744, 3) := by decide +kernel
theorem d_Mo_self_9 : decode b_Mo_self 9 = .ok (.iload_n 2, 1) := by decide +kernel
theorem d_Mo_self_10 : decode b_Mo_self 10 = .ok (.iaload, 1) := by decide +kernel
theorem d_Mo_self_11 : decode b_Mo_self 11 = .ok (.iload 4, 2) := by decide +kernel
theorem d_Mo_self_13 : decode b_Mo_self 13 = .ok (.invokestatic 482, 3) := by decide +kernel
theorem d_Mo_self_16 : decode b_Mo_self 16 = .ok (.iadd, 1) := by decide +kernel
theorem d_Mo_self_17 : decode b_Mo_self 17 = .ok (.baload, 1) := by decide +kernel
theorem d_Mo_self_18 : decode b_Mo_self 18 = .ok (.istore 7, 2) := by decide +kernel
theorem d_Mo_self_20 : decode b_Mo_self 20 = .ok (.aload 5, 2) := by decide +kernel
theorem d_Mo_self_22 : decode b_Mo_self 22 = .ok (.getfield 588, 3) := by decide +kernel
theorem d_Mo_self_25 : decode b_Mo_self 25 = .ok (.aload_n 1, 1) := by decide +kernel
theorem d_Mo_self_26 : decode b_Mo_self 26 = .ok (.getfield 744, 3) := by decide +kernel
theorem d_Mo_self_29 : decode b_Mo_self 29 = .ok (.iload_n 2, 1) := by decide +kernel
theorem d_Mo_self_30 : decode b_Mo_self 30 = .ok (.iaload, 1) := by decide +kernel
theorem d_Mo_self_31 : decode b_Mo_self 31 = .ok (.iload 4, 2) := by decide +kernel
theorem d_Mo_self_33 : decode b_Mo_self 33 = .ok (.invokestatic 482, 3) := by decide +kernel
theorem d_Mo_self_36 : decode b_Mo_self 36 = .ok (.iadd, 1) := by decide +kernel
theorem d_Mo_self_37 : decode b_Mo_self 37 = .ok (.laload, 1) := by decide +kernel
theorem d_Mo_self_38 : decode b_Mo_self 38 = .ok (.lstore 8, 2) := by decide +kernel
theorem d_Mo_self_40 : decode b_Mo_self 40 = .ok (.aload 5, 2) := by decide +kernel
theorem d_Mo_self_42 : decode b_Mo_self 42 = .ok (.iload 6, 2) := by decide +kernel
theorem d_Mo_self_44 : decode b_Mo_self 44 = .ok (.iconst 1, 1) := by decide +kernel
theorem d_Mo_self_45 : decode b_Mo_self 45 = .ok (.iadd, 1) := by decide +kernel
theorem d_Mo_self_46 : decode b_Mo_self 46 = .ok (.iload 7, 2) := by decide +kernel
theorem d_Mo_self_48 : decode b_Mo_self 48 = .ok (.lload 8, 2) := by decide +kernel
theorem d_Mo_self_50 : decode b_Mo_self 50 = .ok (.invokevirtual 470, 3) := by decide +kernel
theorem d_Mo_self_53 : decode b_Mo_self 53 = .ok (.aload_n 0, 1) := by decide +kernel
theorem d_Mo_self_54 : decode b_Mo_self 54 = .ok (.aload_n 1, 1) := by decide +kernel
theorem d_Mo_self_55 : decode b_Mo_self 55 = .ok (.iload_n 2, 1) := by decide +kernel
theorem d_Mo_self_56 : decode b_Mo_self 56 = .ok (.iload_n 3, 1) := by decide +kernel
theorem d_Mo_self_57 : decode b_Mo_self 57 = .ok (.iload 4, 2) := by decide +kernel
theorem d_Mo_self_59 : decode b_Mo_self 59 = .ok (.invokestatic 479, 3) := by decide +kernel
theorem d_Mo_self_62 : decode b_Mo_self 62 = .ok (.invokevirtual 929, 3) := by decide +kernel
theorem d_Mo_self_65 : decode b_Mo_self 65 = .ok (.aload_n 0, 1) := by decide +kernel
theorem d_Mo_self_66 : decode b_Mo_self 66 = .ok (.iload 7, 2) := by decide +kernel
theorem d_Mo_self_68 : decode b_Mo_self 68 = .ok (.lload 8, 2) := by decide +kernel
theorem d_Mo_self_70 : decode b_Mo_self 70 = .ok (.aload_n 0, 1) := by decide +kernel
theorem d_Mo_self_71 : decode b_Mo_self 71 = .ok (.getfield 437, 3) := by decide +kernel
theorem d_Mo_self_74 : decode b_Mo_self 74 = .ok (.aload_n 0, 1) := by decide +kernel
theorem d_Mo_self_75 : decode b_Mo_self 75 = .ok (.getfield 440, 3) := by decide +kernel
theorem d_Mo_self_78 : decode b_Mo_self 78 = .ok (.iload 4, 2) := by decide +kernel
theorem d_Mo_self_80 : decode b_Mo_self 80 = .ok (.invokestatic 495, 3) := by decide +kernel
theorem d_Mo_self_83 : decode b_Mo_self 83 = .ok (.invokevirtual 932, 3) := by decide +kernel
theorem d_Mo_self_86 : decode b_Mo_self 86 = .ok (.return_, 1) := by decide +kernel
abbrev b_Mo_arithmetic : ByteArray := prog_14_method_119_code
def y_Mo_arithmetic : MethodName := ⟨R_Mo, "arithmetic", "(LLuaMachineModel$Thread_;IIIILLuaMachineModel$Values;I)V"⟩
abbrev w_Mo_arithmetic : List Cond := .code y_Mo_arithmetic b_Mo_arithmetic 14 none :: wA
set_option maxRecDepth 20000 in
theorem k_Mo_arithmetic : Cond.code y_Mo_arithmetic b_Mo_arithmetic 14 none ∈ wA := kinm (show _ ∈ tables_1 from (List.mem_append_right _ (List.mem_append_right _ (List.mem_append_right _ (List.mem_append_right _ (List.mem_append_right _ (List.mem_append_right _ (List.mem_append_right _ (List.mem_append_right _ (List.mem_append_right _ (List.mem_append_right _ (List.mem_append_right _ (List.mem_append_right _ (List.mem_append_left _ (List.mem_of_getElem? (l := tables_1_13) (i := 170) rfl))))))))))))))) rfl
theorem d_Mo_arithmetic_0 : decode b_Mo_arithmetic 0 = .ok (.iload 5, 2) := by decide +kernel
theorem d_Mo_arithmetic_2 : decode b_Mo_arithmetic 2 = .ok (.bipush 24, 2) := by decide +kernel
theorem d_Mo_arithmetic_4 : decode b_Mo_arithmetic 4 = .ok (.if_icmp .le 54, 3) := by decide +kernel
theorem d_Mo_arithmetic_7 : decode b_Mo_arithmetic 7 = .ok (.aload 6, 2) := by decide +kernel
theorem d_Mo_arithmetic_9 : decode b_Mo_arithmetic 9 = .ok (.getfield 585, 3) := by decide +kernel
theorem d_Mo_arithmetic_12 : decode b_Mo_arithmetic 12 = .ok (.aload_n 1, 1) := by decide +kernel
theorem d_Mo_arithmetic_13 : decode b_Mo_arithmetic 13 = .ok (.getfield 744, 3) := by decide +kernel
theorem d_Mo_arithmetic_16 : decode b_Mo_arithmetic 16 = .ok (.iload_n 2, 1) := by decide +kernel
theorem d_Mo_arithmetic_17 : decode b_Mo_arithmetic 17 = .ok (.iaload, 1) := by decide +kernel
theorem d_Mo_arithmetic_18 : decode b_Mo_arithmetic 18 = .ok (.iload 4, 2) := by decide +kernel
theorem d_Mo_arithmetic_20 : decode b_Mo_arithmetic 20 = .ok (.invokestatic 482, 3) := by decide +kernel
theorem d_Mo_arithmetic_23 : decode b_Mo_arithmetic 23 = .ok (.iadd, 1) := by decide +kernel
theorem d_Mo_arithmetic_24 : decode b_Mo_arithmetic 24 = .ok (.baload, 1) := by decide +kernel
theorem d_Mo_arithmetic_25 : decode b_Mo_arithmetic 25 = .ok (.istore 8, 2) := by decide +kernel
theorem d_Mo_arithmetic_27 : decode b_Mo_arithmetic 27 = .ok (.aload 6, 2) := by decide +kernel
theorem d_Mo_arithmetic_29 : decode b_Mo_arithmetic 29 = .ok (.getfield 588, 3) := by decide +kernel
theorem d_Mo_arithmetic_32 : decode b_Mo_arithmetic 32 = .ok (.aload_n 1, 1) := by decide +kernel
theorem d_Mo_arithmetic_33 : decode b_Mo_arithmetic 33 = .ok (.getfield 744, 3) := by decide +kernel
theorem d_Mo_arithmetic_36 : decode b_Mo_arithmetic 36 = .ok (.iload_n 2, 1) := by decide +kernel
theorem d_Mo_arithmetic_37 : decode b_Mo_arithmetic 37 = .ok (.iaload, 1) := by decide +kernel
theorem d_Mo_arithmetic_38 : decode b_Mo_arithmetic 38 = .ok (.iload 4, 2) := by decide +kernel
theorem d_Mo_arithmetic_40 : decode b_Mo_arithmetic 40 = .ok (.invokestatic 482, 3) := by decide +kernel
theorem d_Mo_arithmetic_43 : decode b_Mo_arithmetic 43 = .ok (.iadd, 1) := by decide +kernel
theorem d_Mo_arithmetic_44 : decode b_Mo_arithmetic 44 = .ok (.laload, 1) := by decide +kernel
theorem d_Mo_arithmetic_45 : decode b_Mo_arithmetic 45 = .ok (.lstore 9, 2) := by decide +kernel
theorem d_Mo_arithmetic_47 : decode b_Mo_arithmetic 47 = .ok (.iload 8, 2) := by decide +kernel
theorem d_Mo_arithmetic_49 : decode b_Mo_arithmetic 49 = .ok (.istore 11, 2) := by decide +kernel
theorem d_Mo_arithmetic_51 : decode b_Mo_arithmetic 51 = .ok (.lload 9, 2) := by decide +kernel
theorem d_Mo_arithmetic_53 : decode b_Mo_arithmetic 53 = .ok (.lstore 12, 2) := by decide +kernel
theorem d_Mo_arithmetic_55 : decode b_Mo_arithmetic 55 = .ok (.goto 51, 3) := by decide +kernel
theorem d_Mo_arithmetic_58 : decode b_Mo_arithmetic 58 = .ok (.aload_n 0, 1) := by decide +kernel
theorem d_Mo_arithmetic_59 : decode b_Mo_arithmetic 59 = .ok (.aload_n 1, 1) := by decide +kernel
theorem d_Mo_arithmetic_60 : decode b_Mo_arithmetic 60 = .ok (.iload_n 2, 1) := by decide +kernel
theorem d_Mo_arithmetic_61 : decode b_Mo_arithmetic 61 = .ok (.iload_n 3, 1) := by decide +kernel
theorem d_Mo_arithmetic_62 : decode b_Mo_arithmetic 62 = .ok (.iload 4, 2) := by decide +kernel
theorem d_Mo_arithmetic_64 : decode b_Mo_arithmetic 64 = .ok (.invokestatic 482, 3) := by decide +kernel
theorem d_Mo_arithmetic_67 : decode b_Mo_arithmetic 67 = .ok (.invokevirtual 929, 3) := by decide +kernel
theorem d_Mo_arithmetic_70 : decode b_Mo_arithmetic 70 = .ok (.aload_n 0, 1) := by decide +kernel
theorem d_Mo_arithmetic_71 : decode b_Mo_arithmetic 71 = .ok (.getfield 437, 3) := by decide +kernel
theorem d_Mo_arithmetic_74 : decode b_Mo_arithmetic 74 = .ok (.istore 8, 2) := by decide +kernel
theorem d_Mo_arithmetic_76 : decode b_Mo_arithmetic 76 = .ok (.aload_n 0, 1) := by decide +kernel
theorem d_Mo_arithmetic_77 : decode b_Mo_arithmetic 77 = .ok (.getfield 440, 3) := by decide +kernel
theorem d_Mo_arithmetic_80 : decode b_Mo_arithmetic 80 = .ok (.lstore 9, 2) := by decide +kernel
theorem d_Mo_arithmetic_82 : decode b_Mo_arithmetic 82 = .ok (.aload_n 0, 1) := by decide +kernel
theorem d_Mo_arithmetic_83 : decode b_Mo_arithmetic 83 = .ok (.aload_n 1, 1) := by decide +kernel
theorem d_Mo_arithmetic_84 : decode b_Mo_arithmetic 84 = .ok (.iload_n 2, 1) := by decide +kernel
theorem d_Mo_arithmetic_85 : decode b_Mo_arithmetic 85 = .ok (.iload_n 3, 1) := by decide +kernel
theorem d_Mo_arithmetic_86 : decode b_Mo_arithmetic 86 = .ok (.iload 4, 2) := by decide +kernel
theorem d_Mo_arithmetic_88 : decode b_Mo_arithmetic 88 = .ok (.invokestatic 479, 3) := by decide +kernel
theorem d_Mo_arithmetic_91 : decode b_Mo_arithmetic 91 = .ok (.invokevirtual 929, 3) := by decide +kernel
theorem d_Mo_arithmetic_94 : decode b_Mo_arithmetic 94 = .ok (.aload_n 0, 1) := by decide +kernel
theorem d_Mo_arithmetic_95 : decode b_Mo_arithmetic 95 = .ok (.getfield 437, 3) := by decide +kernel
theorem d_Mo_arithmetic_98 : decode b_Mo_arithmetic 98 = .ok (.istore 11, 2) := by decide +kernel
theorem d_Mo_arithmetic_100 : decode b_Mo_arithmetic 100 = .ok (.aload_n 0, 1) := by decide +kernel
theorem d_Mo_arithmetic_101 : decode b_Mo_arithmetic 101 = .ok (.getfield 440, 3) := by decide +kernel
theorem d_Mo_arithmetic_104 : decode b_Mo_arithmetic 104 = .ok (.lstore 12, 2) := by decide +kernel
theorem d_Mo_arithmetic_106 : decode b_Mo_arithmetic 106 = .ok (.iload 8, 2) := by decide +kernel
theorem d_Mo_arithmetic_108 : decode b_Mo_arithmetic 108 = .ok (.iconst 3, 1) := by decide +kernel
theorem d_Mo_arithmetic_109 : decode b_Mo_arithmetic 109 = .ok (.if_icmp .ne 9, 3) := by decide +kernel
theorem d_Mo_arithmetic_112 : decode b_Mo_arithmetic 112 = .ok (.iload 11, 2) := by decide +kernel
theorem d_Mo_arithmetic_114 : decode b_Mo_arithmetic 114 = .ok (.iconst 3, 1) := by decide +kernel
theorem d_Mo_arithmetic_115 : decode b_Mo_arithmetic 115 = .ok (.if_icmp .eq 43, 3) := by decide +kernel
theorem d_Mo_arithmetic_118 : decode b_Mo_arithmetic 118 = .ok (.aload_n 0, 1) := by decide +kernel
theorem d_Mo_arithmetic_119 : decode b_Mo_arithmetic 119 = .ok (.iconst 1, 1) := by decide +kernel
theorem d_Mo_arithmetic_120 : decode b_Mo_arithmetic 120 = .ok (.iload 4, 2) := by decide +kernel
theorem d_Mo_arithmetic_122 : decode b_Mo_arithmetic 122 = .ok (.invokestatic 495, 3) := by decide +kernel
theorem d_Mo_arithmetic_125 : decode b_Mo_arithmetic 125 = .ok (.iconst 1, 1) := by decide +kernel
theorem d_Mo_arithmetic_126 : decode b_Mo_arithmetic 126 = .ok (.invokevirtual 947, 3) := by decide +kernel
theorem d_Mo_arithmetic_129 : decode b_Mo_arithmetic 129 = .ok (.aload_n 0, 1) := by decide +kernel
theorem d_Mo_arithmetic_130 : decode b_Mo_arithmetic 130 = .ok (.iload 5, 2) := by decide +kernel
theorem d_Mo_arithmetic_132 : decode b_Mo_arithmetic 132 = .ok (.invokestatic 953, 3) := by decide +kernel
theorem d_Mo_arithmetic_135 : decode b_Mo_arithmetic 135 = .ok (.iload 8, 2) := by decide +kernel
theorem d_Mo_arithmetic_137 : decode b_Mo_arithmetic 137 = .ok (.lload 9, 2) := by decide +kernel
theorem d_Mo_arithmetic_139 : decode b_Mo_arithmetic 139 = .ok (.iload 11, 2) := by decide +kernel
theorem d_Mo_arithmetic_141 : decode b_Mo_arithmetic 141 = .ok (.lload 12, 2) := by decide +kernel
theorem d_Mo_arithmetic_143 : decode b_Mo_arithmetic 143 = .ok (.invokevirtual 956, 3) := by decide +kernel
theorem d_Mo_arithmetic_146 : decode b_Mo_arithmetic 146 = .ok (.ifCond .ne 59, 3) := by decide +kernel
theorem d_Mo_arithmetic_149 : decode b_Mo_arithmetic 149 = .ok (.aload_n 0, 1) := by decide +kernel
theorem d_Mo_arithmetic_150 : decode b_Mo_arithmetic 150 = .ok (.iconst 3, 1) := by decide +kernel
theorem d_Mo_arithmetic_151 : decode b_Mo_arithmetic 151 = .ok (.invokevirtual 517, 3) := by decide +kernel
theorem d_Mo_arithmetic_154 : decode b_Mo_arithmetic 154 = .ok (.pop, 1) := by decide +kernel
theorem d_Mo_arithmetic_155 : decode b_Mo_arithmetic 155 = .ok (.goto 50, 3) := by decide +kernel
theorem d_Mo_arithmetic_158 : decode b_Mo_arithmetic 158 = .ok (.iload 5, 2) := by decide +kernel
theorem d_Mo_arithmetic_160 : decode b_Mo_arithmetic 160 = .ok (.bipush 16, 2) := by decide +kernel
theorem d_Mo_arithmetic_162 : decode b_Mo_arithmetic 162 = .ok (.if_icmp .eq 10, 3) := by decide +kernel
theorem d_Mo_arithmetic_165 : decode b_Mo_arithmetic 165 = .ok (.iload 5, 2) := by decide +kernel
theorem d_Mo_arithmetic_167 : decode b_Mo_arithmetic 167 = .ok (.bipush 19, 2) := by decide +kernel
theorem d_Mo_arithmetic_169 : decode b_Mo_arithmetic 169 = .ok (.if_icmp .ne 19, 3) := by decide +kernel
theorem d_Mo_arithmetic_172 : decode b_Mo_arithmetic 172 = .ok (.lload 12, 2) := by decide +kernel
theorem d_Mo_arithmetic_174 : decode b_Mo_arithmetic 174 = .ok (.lconst 0, 1) := by decide +kernel
theorem d_Mo_arithmetic_175 : decode b_Mo_arithmetic 175 = .ok (.lcmp, 1) := by decide +kernel
theorem d_Mo_arithmetic_176 : decode b_Mo_arithmetic 176 = .ok (.ifCond .ne 12, 3) := by decide +kernel
theorem d_Mo_arithmetic_179 : decode b_Mo_arithmetic 179 = .ok (.aload_n 0, 1) := by decide +kernel
theorem d_Mo_arithmetic_180 : decode b_Mo_arithmetic 180 = .ok (.iconst 5, 1) := by decide +kernel
theorem d_Mo_arithmetic_181 : decode b_Mo_arithmetic 181 = .ok (.invokevirtual 517, 3) := by decide +kernel
theorem d_Mo_arithmetic_184 : decode b_Mo_arithmetic 184 = .ok (.pop, 1) := by decide +kernel
theorem d_Mo_arithmetic_185 : decode b_Mo_arithmetic 185 = .ok (.goto 20, 3) := by decide +kernel
theorem d_Mo_arithmetic_188 : decode b_Mo_arithmetic 188 = .ok (.aload 6, 2) := by decide +kernel
theorem d_Mo_arithmetic_190 : decode b_Mo_arithmetic 190 = .ok (.iload 7, 2) := by decide +kernel
theorem d_Mo_arithmetic_192 : decode b_Mo_arithmetic 192 = .ok (.iconst 3, 1) := by decide +kernel
theorem d_Mo_arithmetic_193 : decode b_Mo_arithmetic 193 = .ok (.iload 5, 2) := by decide +kernel
theorem d_Mo_arithmetic_195 : decode b_Mo_arithmetic 195 = .ok (.lload 9, 2) := by decide +kernel
theorem d_Mo_arithmetic_197 : decode b_Mo_arithmetic 197 = .ok (.lload 12, 2) := by decide +kernel
theorem d_Mo_arithmetic_199 : decode b_Mo_arithmetic 199 = .ok (.invokestatic 959, 3) := by decide +kernel
theorem d_Mo_arithmetic_202 : decode b_Mo_arithmetic 202 = .ok (.invokevirtual 470, 3) := by decide +kernel
theorem d_Mo_arithmetic_205 : decode b_Mo_arithmetic 205 = .ok (.return_, 1) := by decide +kernel
abbrev b_Mo_eventOf : ByteArray := prog_14_method_118_code
def y_Mo_eventOf : MethodName := ⟨R_Mo, "eventOf", "(I)I"⟩
abbrev w_Mo_eventOf : List Cond := .code y_Mo_eventOf b_Mo_eventOf 1 (some .int) :: wA
theorem k_Mo_eventOf : Cond.code y_Mo_eventOf b_Mo_eventOf 1 (some .int) ∈ wA := kinm (show _ ∈ tables_1 from (List.mem_append_right _ (List.mem_append_right _ (List.mem_append_right _ (List.mem_append_right _ (List.mem_append_right _ (List.mem_append_right _ (List.mem_append_right _ (List.mem_append_right _ (List.mem_append_right _ (List.mem_append_right _ (List.mem_append_right _ (List.mem_append_right _ (List.mem_append_left _ (List.mem_of_getElem? (l := tables_1_13) (i := 173) (by decide +kernel)))))))))))))))) (by decide +kernel)
theorem d_Mo_eventOf_0 : decode b_Mo_eventOf 0 = .ok (.iload_n 0, 1) := by decide +kernel
theorem d_Mo_eventOf_1 : decode b_Mo_eventOf 1 = .ok (.bipush 17, 2) := by decide +kernel
theorem d_Mo_eventOf_3 : decode b_Mo_eventOf 3 = .ok (.if_icmp .ge 10, 3) := by decide +kernel
theorem d_Mo_eventOf_6 : decode b_Mo_eventOf 6 = .ok (.iload_n 0, 1) := by decide +kernel
theorem d_Mo_eventOf_7 : decode b_Mo_eventOf 7 = .ok (.bipush 10, 2) := by decide +kernel
theorem d_Mo_eventOf_9 : decode b_Mo_eventOf 9 = .ok (.isub, 1) := by decide +kernel
theorem d_Mo_eventOf_10 : decode b_Mo_eventOf 10 = .ok (.goto 20, 3) := by decide +kernel
theorem d_Mo_eventOf_13 : decode b_Mo_eventOf 13 = .ok (.iload_n 0, 1) := by decide +kernel
theorem d_Mo_eventOf_14 : decode b_Mo_eventOf 14 = .ok (.bipush 25, 2) := by decide +kernel
theorem d_Mo_eventOf_16 : decode b_Mo_eventOf 16 = .ok (.if_icmp .ge 10, 3) := by decide +kernel
theorem d_Mo_eventOf_19 : decode b_Mo_eventOf 19 = .ok (.iload_n 0, 1) := by decide +kernel
theorem d_Mo_eventOf_20 : decode b_Mo_eventOf 20 = .ok (.bipush 12, 2) := by decide +kernel
theorem d_Mo_eventOf_22 : decode b_Mo_eventOf 22 = .ok (.isub, 1) := by decide +kernel
theorem d_Mo_eventOf_23 : decode b_Mo_eventOf 23 = .ok (.goto 7, 3) := by decide +kernel
theorem d_Mo_eventOf_26 : decode b_Mo_eventOf 26 = .ok (.iload_n 0, 1) := by decide +kernel
theorem d_Mo_eventOf_27 : decode b_Mo_eventOf 27 = .ok (.bipush 12, 2) := by decide +kernel
theorem d_Mo_eventOf_29 : decode b_Mo_eventOf 29 = .ok (.isub, 1) := by decide +kernel
theorem d_Mo_eventOf_30 : decode b_Mo_eventOf 30 = .ok (.ireturn, 1) := by decide +kernel
theorem kw_268 : Cond.static y_Mo_eventOf ∈ wA := kinm (show _ ∈ tables_1 from (List.mem_append_right _ (List.mem_append_right _ (List.mem_append_right _ (List.mem_append_right _ (List.mem_append_right _ (List.mem_append_right _ (List.mem_append_right _ (List.mem_append_right _ (List.mem_append_right _ (List.mem_append_right _ (List.mem_append_right _ (List.mem_append_right _ (List.mem_append_left _ (List.mem_of_getElem? (l := tables_1_13) (i := 172) (by decide +kernel)))))))))))))))) (by decide +kernel)
def M_Mo_eventOf (l0 : Int32) : M (Int32) :=
  oC (17 ≤ l0)
    (oC (25 ≤ l0)
      (oR (l0 - 12))
      (oR (l0 - 12)))
    (oR (l0 - 10))

theorem cs_Mo_eventOf : CS y_Mo_eventOf b_Mo_eventOf 1 (some .int) 1 := ⟨kw_268, kw_17, k_Mo_eventOf, by decide +kernel⟩
theorem ct_Mo_eventOf {l : Launch} {P : PP} {q : PL} {s s' : S1} {l0 : Int32} {r : Int32} (h : M_Mo_eventOf l0 s = some (r, s')) : Ct l y_Mo_eventOf b_Mo_eventOf 1 (some .int) 0 0 P q s [.int l0] (some (.int r)) q s' := by
  refine ct_of (by decide) (Nat.le_of_ble_eq_true rfl) fun X ls eP el g hR hl => ?_
  have hR : Rt X q ((r, s') : Int32 × S1).2 (some (.int ((r, s') : Int32 × S1).1)) := hR
  have hl : lv_has ls 1 [(0, .int l0)] := hl
  generalize (r, s') = o at h hR
  unfold M_Mo_eventOf at h
  refine ww_iload_n (pc := 0) g.1 d_Mo_eventOf_0 rfl (lv_at hl 0 rfl) ?_
  refine ww_bipush (pc := 1) g.1 (v := 17) d_Mo_eventOf_1 (by decide) ?_
  refine ww_icmp_ge (pc := 3) (tgt := 13) g.1 d_Mo_eventOf_3 (by decide) h (fun c h => ?_) (fun c h => ?_)
  · refine ww_iload_n (pc := 13) g.1 d_Mo_eventOf_13 rfl (lv_at hl 0 rfl) ?_
    refine ww_bipush (pc := 14) g.1 (v := 25) d_Mo_eventOf_14 (by decide) ?_
    refine ww_icmp_ge (pc := 16) (tgt := 26) g.1 d_Mo_eventOf_16 (by decide) h (fun c h => ?_) (fun c h => ?_)
    · refine ww_iload_n (pc := 26) g.1 d_Mo_eventOf_26 rfl (lv_at hl 0 rfl) ?_
      refine ww_bipush (pc := 27) g.1 (v := 12) d_Mo_eventOf_27 (by decide) ?_
      refine ww_isub (pc := 29) g.1 d_Mo_eventOf_29 ?_
      exact ww_iretH (pc := 30) g h hR d_Mo_eventOf_30
    · refine ww_iload_n (pc := 19) g.1 d_Mo_eventOf_19 rfl (lv_at hl 0 rfl) ?_
      refine ww_bipush (pc := 20) g.1 (v := 12) d_Mo_eventOf_20 (by decide) ?_
      refine ww_isub (pc := 22) g.1 d_Mo_eventOf_22 ?_
      refine ww_goto (pc := 23) (tgt := 30) g.1 d_Mo_eventOf_23 (by decide) ?_
      exact ww_iretH (pc := 30) g h hR d_Mo_eventOf_30
  · refine ww_iload_n (pc := 6) g.1 d_Mo_eventOf_6 rfl (lv_at hl 0 rfl) ?_
    refine ww_bipush (pc := 7) g.1 (v := 10) d_Mo_eventOf_7 (by decide) ?_
    refine ww_isub (pc := 9) g.1 d_Mo_eventOf_9 ?_
    refine ww_goto (pc := 10) (tgt := 30) g.1 d_Mo_eventOf_10 (by decide) ?_
    exact ww_iretH (pc := 30) g h hR d_Mo_eventOf_30

abbrev b_Mo_reckon : ByteArray := prog_14_method_120_code
def y_Mo_reckon : MethodName := ⟨R_Mo, "reckon", "(IJJ)J"⟩
abbrev w_Mo_reckon : List Cond := .code y_Mo_reckon b_Mo_reckon 5 (some .long) :: wA
theorem k_Mo_reckon : Cond.code y_Mo_reckon b_Mo_reckon 5 (some .long) ∈ wA := kinm (show _ ∈ tables_1 from (List.mem_append_right _ (List.mem_append_right _ (List.mem_append_right _ (List.mem_append_right _ (List.mem_append_right _ (List.mem_append_right _ (List.mem_append_right _ (List.mem_append_right _ (List.mem_append_right _ (List.mem_append_right _ (List.mem_append_right _ (List.mem_append_right _ (List.mem_append_left _ (List.mem_of_getElem? (l := tables_1_13) (i := 176) (by decide +kernel)))))))))))))))) (by decide +kernel)
theorem d_Mo_reckon_0 : decode b_Mo_reckon 0 = .ok (.iload_n 0, 1) := by decide +kernel
theorem d_Mo_reckon_1 : decode b_Mo_reckon 1 = .ok (.tableswitch 131 13 25 #[67, 71, 75, 79, 131, 131, 85, 91, 95, 99, 103, 109, 128], 67) := by decide +kernel
theorem d_Mo_reckon_68 : decode b_Mo_reckon 68 = .ok (.lload_n 1, 1) := by decide +kernel
theorem d_Mo_reckon_69 : decode b_Mo_reckon 69 = .ok (.lload_n 3, 1) := by decide +kernel
theorem d_Mo_reckon_70 : decode b_Mo_reckon 70 = .ok (.ladd, 1) := by decide +kernel
theorem d_Mo_reckon_71 : decode b_Mo_reckon 71 = .ok (.lreturn, 1) := by decide +kernel
theorem d_Mo_reckon_72 : decode b_Mo_reckon 72 = .ok (.lload_n 1, 1) := by decide +kernel
theorem d_Mo_reckon_73 : decode b_Mo_reckon 73 = .ok (.lload_n 3, 1) := by decide +kernel
theorem d_Mo_reckon_74 : decode b_Mo_reckon 74 = .ok (.lsub, 1) := by decide +kernel
theorem d_Mo_reckon_75 : decode b_Mo_reckon 75 = .ok (.lreturn, 1) := by decide +kernel
theorem d_Mo_reckon_76 : decode b_Mo_reckon 76 = .ok (.lload_n 1, 1) := by decide +kernel
theorem d_Mo_reckon_77 : decode b_Mo_reckon 77 = .ok (.lload_n 3, 1) := by decide +kernel
theorem d_Mo_reckon_78 : decode b_Mo_reckon 78 = .ok (.lmul, 1) := by decide +kernel
theorem d_Mo_reckon_79 : decode b_Mo_reckon 79 = .ok (.lreturn, 1) := by decide +kernel
theorem d_Mo_reckon_80 : decode b_Mo_reckon 80 = .ok (.lload_n 1, 1) := by decide +kernel
theorem d_Mo_reckon_81 : decode b_Mo_reckon 81 = .ok (.lload_n 3, 1) := by decide +kernel
theorem d_Mo_reckon_82 : decode b_Mo_reckon 82 = .ok (.invokestatic 542, 3) := by decide +kernel
theorem d_Mo_reckon_85 : decode b_Mo_reckon 85 = .ok (.lreturn, 1) := by decide +kernel
theorem d_Mo_reckon_86 : decode b_Mo_reckon 86 = .ok (.lload_n 1, 1) := by decide +kernel
theorem d_Mo_reckon_87 : decode b_Mo_reckon 87 = .ok (.lload_n 3, 1) := by decide +kernel
theorem d_Mo_reckon_88 : decode b_Mo_reckon 88 = .ok (.invokestatic 963, 3) := by decide +kernel
theorem d_Mo_reckon_91 : decode b_Mo_reckon 91 = .ok (.lreturn, 1) := by decide +kernel
theorem d_Mo_reckon_92 : decode b_Mo_reckon 92 = .ok (.lload_n 1, 1) := by decide +kernel
theorem d_Mo_reckon_93 : decode b_Mo_reckon 93 = .ok (.lload_n 3, 1) := by decide +kernel
theorem d_Mo_reckon_94 : decode b_Mo_reckon 94 = .ok (.land, 1) := by decide +kernel
theorem d_Mo_reckon_95 : decode b_Mo_reckon 95 = .ok (.lreturn, 1) := by decide +kernel
theorem d_Mo_reckon_96 : decode b_Mo_reckon 96 = .ok (.lload_n 1, 1) := by decide +kernel
theorem d_Mo_reckon_97 : decode b_Mo_reckon 97 = .ok (.lload_n 3, 1) := by decide +kernel
theorem d_Mo_reckon_98 : decode b_Mo_reckon 98 = .ok (.lor, 1) := by decide +kernel
theorem d_Mo_reckon_99 : decode b_Mo_reckon 99 = .ok (.lreturn, 1) := by decide +kernel
theorem d_Mo_reckon_100 : decode b_Mo_reckon 100 = .ok (.lload_n 1, 1) := by decide +kernel
theorem d_Mo_reckon_101 : decode b_Mo_reckon 101 = .ok (.lload_n 3, 1) := by decide +kernel
theorem d_Mo_reckon_102 : decode b_Mo_reckon 102 = .ok (.lxor, 1) := by decide +kernel
theorem d_Mo_reckon_103 : decode b_Mo_reckon 103 = .ok (.lreturn, 1) := by decide +kernel
theorem d_Mo_reckon_104 : decode b_Mo_reckon 104 = .ok (.lload_n 1, 1) := by decide +kernel
theorem d_Mo_reckon_105 : decode b_Mo_reckon 105 = .ok (.lload_n 3, 1) := by decide +kernel
theorem d_Mo_reckon_106 : decode b_Mo_reckon 106 = .ok (.invokestatic 966, 3) := by decide +kernel
theorem d_Mo_reckon_109 : decode b_Mo_reckon 109 = .ok (.lreturn, 1) := by decide +kernel
theorem d_Mo_reckon_110 : decode b_Mo_reckon 110 = .ok (.lload_n 3, 1) := by decide +kernel
theorem d_Mo_reckon_111 : decode b_Mo_reckon 111 = .ok (.ldc2_w 971, 3) := by decide +kernel
theorem d_Mo_reckon_114 : decode b_Mo_reckon 114 = .ok (.lcmp, 1) := by decide +kernel
theorem d_Mo_reckon_115 : decode b_Mo_reckon 115 = .ok (.ifCond .ne 7, 3) := by decide +kernel
theorem d_Mo_reckon_118 : decode b_Mo_reckon 118 = .ok (.lconst 0, 1) := by decide +kernel
theorem d_Mo_reckon_119 : decode b_Mo_reckon 119 = .ok (.goto 9, 3) := by decide +kernel
theorem d_Mo_reckon_122 : decode b_Mo_reckon 122 = .ok (.lload_n 1, 1) := by decide +kernel
theorem d_Mo_reckon_123 : decode b_Mo_reckon 123 = .ok (.lload_n 3, 1) := by decide +kernel
theorem d_Mo_reckon_124 : decode b_Mo_reckon 124 = .ok (.lneg, 1) := by decide +kernel
theorem d_Mo_reckon_125 : decode b_Mo_reckon 125 = .ok (.invokestatic 966, 3) := by decide +kernel
theorem d_Mo_reckon_128 : decode b_Mo_reckon 128 = .ok (.lreturn, 1) := by decide +kernel
theorem d_Mo_reckon_129 : decode b_Mo_reckon 129 = .ok (.lload_n 1, 1) := by decide +kernel
theorem d_Mo_reckon_130 : decode b_Mo_reckon 130 = .ok (.lneg, 1) := by decide +kernel
theorem d_Mo_reckon_131 : decode b_Mo_reckon 131 = .ok (.lreturn, 1) := by decide +kernel
theorem d_Mo_reckon_132 : decode b_Mo_reckon 132 = .ok (.lload_n 1, 1) := by decide +kernel
theorem d_Mo_reckon_133 : decode b_Mo_reckon 133 = .ok (.ldc2_w 722, 3) := by decide +kernel
theorem d_Mo_reckon_136 : decode b_Mo_reckon 136 = .ok (.lxor, 1) := by decide +kernel
theorem d_Mo_reckon_137 : decode b_Mo_reckon 137 = .ok (.lreturn, 1) := by decide +kernel
theorem kw_269 : Cond.constantLong R_Mo 722 (-1) ∈ wA := kinm (show _ ∈ tables_1 from (List.mem_append_right _ (List.mem_append_right _ (List.mem_append_right _ (List.mem_append_right _ (List.mem_append_right _ (List.mem_append_right _ (List.mem_append_right _ (List.mem_append_right _ (List.mem_append_right _ (List.mem_append_right _ (List.mem_append_right _ (List.mem_append_left _ (List.mem_of_getElem? (l := tables_1_12) (i := 171) (by decide +kernel))))))))))))))) (by decide +kernel)
abbrev b_Mo_shifted : ByteArray := prog_14_method_121_code
def y_Mo_shifted : MethodName := ⟨R_Mo, "shifted", "(JJ)J"⟩
abbrev w_Mo_shifted : List Cond := .code y_Mo_shifted b_Mo_shifted 4 (some .long) :: wA
theorem k_Mo_shifted : Cond.code y_Mo_shifted b_Mo_shifted 4 (some .long) ∈ wA := kinm (show _ ∈ tables_1 from (List.mem_append_right _ (List.mem_append_right _ (List.mem_append_right _ (List.mem_append_right _ (List.mem_append_right _ (List.mem_append_right _ (List.mem_append_right _ (List.mem_append_right _ (List.mem_append_right _ (List.mem_append_right _ (List.mem_append_right _ (List.mem_append_right _ (List.mem_append_left _ (List.mem_of_getElem? (l := tables_1_13) (i := 180) (by decide +kernel)))))))))))))))) (by decide +kernel)
theorem d_Mo_shifted_0 : decode b_Mo_shifted 0 = .ok (.lload_n 2, 1) := by decide +kernel
theorem d_Mo_shifted_1 : decode b_Mo_shifted 1 = .ok (.ldc2_w 973, 3) := by decide +kernel
theorem d_Mo_shifted_4 : decode b_Mo_shifted 4 = .ok (.lcmp, 1) := by decide +kernel
theorem d_Mo_shifted_5 : decode b_Mo_shifted 5 = .ok (.ifCond .le 11, 3) := by decide +kernel
theorem d_Mo_shifted_8 : decode b_Mo_shifted 8 = .ok (.lload_n 2, 1) := by decide +kernel
theorem d_Mo_shifted_9 : decode b_Mo_shifted 9 = .ok (.ldc2_w 975, 3) := by decide +kernel
theorem d_Mo_shifted_12 : decode b_Mo_shifted 12 = .ok (.lcmp, 1) := by decide +kernel
theorem d_Mo_shifted_13 : decode b_Mo_shifted 13 = .ok (.ifCond .lt 5, 3) := by decide +kernel
theorem d_Mo_shifted_16 : decode b_Mo_shifted 16 = .ok (.lconst 0, 1) := by decide +kernel
theorem d_Mo_shifted_17 : decode b_Mo_shifted 17 = .ok (.lreturn, 1) := by decide +kernel
theorem d_Mo_shifted_18 : decode b_Mo_shifted 18 = .ok (.lload_n 2, 1) := by decide +kernel
theorem d_Mo_shifted_19 : decode b_Mo_shifted 19 = .ok (.lconst 0, 1) := by decide +kernel
theorem d_Mo_shifted_20 : decode b_Mo_shifted 20 = .ok (.lcmp, 1) := by decide +kernel
theorem d_Mo_shifted_21 : decode b_Mo_shifted 21 = .ok (.ifCond .lt 10, 3) := by decide +kernel
theorem d_Mo_shifted_24 : decode b_Mo_shifted 24 = .ok (.lload_n 0, 1) := by decide +kernel
theorem d_Mo_shifted_25 : decode b_Mo_shifted 25 = .ok (.lload_n 2, 1) := by decide +kernel
theorem d_Mo_shifted_26 : decode b_Mo_shifted 26 = .ok (.l2i, 1) := by decide +kernel
theorem d_Mo_shifted_27 : decode b_Mo_shifted 27 = .ok (.lshl, 1) := by decide +kernel
theorem d_Mo_shifted_28 : decode b_Mo_shifted 28 = .ok (.goto 8, 3) := by decide +kernel
theorem d_Mo_shifted_31 : decode b_Mo_shifted 31 = .ok (.lload_n 0, 1) := by decide +kernel
theorem d_Mo_shifted_32 : decode b_Mo_shifted 32 = .ok (.lload_n 2, 1) := by decide +kernel
theorem d_Mo_shifted_33 : decode b_Mo_shifted 33 = .ok (.lneg, 1) := by decide +kernel
theorem d_Mo_shifted_34 : decode b_Mo_shifted 34 = .ok (.l2i, 1) := by decide +kernel
theorem d_Mo_shifted_35 : decode b_Mo_shifted 35 = .ok (.lushr, 1) := by decide +kernel
theorem d_Mo_shifted_36 : decode b_Mo_shifted 36 = .ok (.lreturn, 1) := by decide +kernel
theorem kw_270 : Cond.constantLong R_Mo 973 (-64) ∈ wA := kinm (show _ ∈ tables_1 from (List.mem_append_right _ (List.mem_append_right _ (List.mem_append_right _ (List.mem_append_right _ (List.mem_append_right _ (List.mem_append_right _ (List.mem_append_right _ (List.mem_append_right _ (List.mem_append_right _ (List.mem_append_right _ (List.mem_append_right _ (List.mem_append_right _ (List.mem_append_left _ (List.mem_of_getElem? (l := tables_1_13) (i := 181) (by decide +kernel)))))))))))))))) (by decide +kernel)
theorem kw_271 : Cond.constantLong R_Mo 975 64 ∈ wA := kinm (show _ ∈ tables_1 from (List.mem_append_right _ (List.mem_append_right _ (List.mem_append_right _ (List.mem_append_right _ (List.mem_append_right _ (List.mem_append_right _ (List.mem_append_right _ (List.mem_append_right _ (List.mem_append_right _ (List.mem_append_right _ (List.mem_append_right _ (List.mem_append_right _ (List.mem_append_left _ (List.mem_of_getElem? (l := tables_1_13) (i := 182) (by decide +kernel)))))))))))))))) (by decide +kernel)
theorem kw_272 : Cond.static y_Mo_shifted ∈ wA := kinm (show _ ∈ tables_1 from (List.mem_append_right _ (List.mem_append_right _ (List.mem_append_right _ (List.mem_append_right _ (List.mem_append_right _ (List.mem_append_right _ (List.mem_append_right _ (List.mem_append_right _ (List.mem_append_right _ (List.mem_append_right _ (List.mem_append_right _ (List.mem_append_right _ (List.mem_append_left _ (List.mem_of_getElem? (l := tables_1_13) (i := 179) (by decide +kernel)))))))))))))))) (by decide +kernel)
def M_Mo_shifted (l0 : Int64) (l2 : Int64) : M (Int64) :=
  oC ((lg_cmp l2 (-64)) ≤ 0)
    (oR 0)
    (oC ((lg_cmp l2 64) < 0)
      (oC ((lg_cmp l2 0) < 0)
        (oR (lushr l0 ((-l2).toInt32)))
        (oR (l0 <<< (l2.toInt32.toInt64 &&& 63))))
      (oR 0))

theorem cs_Mo_shifted : CS y_Mo_shifted b_Mo_shifted 4 (some .long) 2 := ⟨kw_272, kw_17, k_Mo_shifted, by decide +kernel⟩
theorem ct_Mo_shifted {l : Launch} {P : PP} {q : PL} {s s' : S1} {l0 : Int64} {l2 : Int64} {r : Int64} (h : M_Mo_shifted l0 l2 s = some (r, s')) : Ct l y_Mo_shifted b_Mo_shifted 4 (some .long) 0 0 P q s [.long l0, .long l2] (some (.long r)) q s' := by
  refine ct_of (by decide) (Nat.le_of_ble_eq_true rfl) fun X ls eP el g hR hl => ?_
  have hR : Rt X q ((r, s') : Int64 × S1).2 (some (.long ((r, s') : Int64 × S1).1)) := hR
  have hl : lv_has ls 4 [(0, .long l0), (2, .long l2)] := hl
  generalize (r, s') = o at h hR
  unfold M_Mo_shifted at h
  refine ww_lload_n (pc := 0) g.1 d_Mo_shifted_0 rfl (lv_at hl 1 rfl) ?_
  refine ww_ldc2 (pc := 1) g (v := (-64)) kw_270 d_Mo_shifted_1 ?_
  refine ww_lcmp (pc := 4) g.1 d_Mo_shifted_4 ?_
  refine ww_if_le (pc := 5) (tgt := 16) g.1 d_Mo_shifted_5 (by decide) h (fun c h => ?_) (fun c h => ?_)
  · refine ww_lconst (pc := 16) g.1 (v := 0) d_Mo_shifted_16 (by decide) ?_
    exact ww_lretH (pc := 17) g h hR d_Mo_shifted_17
  · refine ww_lload_n (pc := 8) g.1 d_Mo_shifted_8 rfl (lv_at hl 1 rfl) ?_
    refine ww_ldc2 (pc := 9) g (v := 64) kw_271 d_Mo_shifted_9 ?_
    refine ww_lcmp (pc := 12) g.1 d_Mo_shifted_12 ?_
    refine ww_if_lt (pc := 13) (tgt := 18) g.1 d_Mo_shifted_13 (by decide) h (fun c h => ?_) (fun c h => ?_)
    · refine ww_lload_n (pc := 18) g.1 d_Mo_shifted_18 rfl (lv_at hl 1 rfl) ?_
      refine ww_lconst (pc := 19) g.1 (v := 0) d_Mo_shifted_19 (by decide) ?_
      refine ww_lcmp (pc := 20) g.1 d_Mo_shifted_20 ?_
      refine ww_if_lt (pc := 21) (tgt := 31) g.1 d_Mo_shifted_21 (by decide) h (fun c h => ?_) (fun c h => ?_)
      · refine ww_lload_n (pc := 31) g.1 d_Mo_shifted_31 rfl (lv_at hl 0 rfl) ?_
        refine ww_lload_n (pc := 32) g.1 d_Mo_shifted_32 rfl (lv_at hl 1 rfl) ?_
        refine ww_lneg (pc := 33) g.1 d_Mo_shifted_33 ?_
        refine ww_l2i (pc := 34) g.1 (v := (-l2).toInt32) d_Mo_shifted_34 rfl ?_
        refine ww_lushr (pc := 35) g.1 (v := lushr l0 ((-l2).toInt32)) d_Mo_shifted_35 rfl ?_
        exact ww_lretH (pc := 36) g h hR d_Mo_shifted_36
      · refine ww_lload_n (pc := 24) g.1 d_Mo_shifted_24 rfl (lv_at hl 0 rfl) ?_
        refine ww_lload_n (pc := 25) g.1 d_Mo_shifted_25 rfl (lv_at hl 1 rfl) ?_
        refine ww_l2i (pc := 26) g.1 (v := l2.toInt32) d_Mo_shifted_26 rfl ?_
        refine ww_lshl (pc := 27) g.1 (v := l0 <<< (l2.toInt32.toInt64 &&& 63)) d_Mo_shifted_27 rfl ?_
        refine ww_goto (pc := 28) (tgt := 36) g.1 d_Mo_shifted_28 (by decide) ?_
        exact ww_lretH (pc := 36) g h hR d_Mo_shifted_36
    · refine ww_lconst (pc := 16) g.1 (v := 0) d_Mo_shifted_16 (by decide) ?_
      exact ww_lretH (pc := 17) g h hR d_Mo_shifted_17

