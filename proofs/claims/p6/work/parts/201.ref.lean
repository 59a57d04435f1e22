abbrev b_Mo_need : ByteArray := prog_14_method_8_code
def y_Mo_need : MethodName := ⟨R_Mo, "need", "(Z)V"⟩
abbrev w_Mo_need : List Cond := .code y_Mo_need b_Mo_need 2 none :: wA
theorem k_Mo_need : Cond.code y_Mo_need b_Mo_need 2 none ∈ wA := kinm (show _ ∈ tables_1 from (List.mem_append_right _ (List.mem_append_right _ (List.mem_append_right _ (List.mem_append_right _ (List.mem_append_right _ (List.mem_append_right _ (List.mem_append_right _ (List.mem_append_right _ (List.mem_append_right _ (List.mem_append_right _ (List.mem_append_left _ (List.mem_of_getElem? (l := tables_1_11) (i := 153) (by decide +kernel)))))))))))))) (by decide +kernel)
theorem d_Mo_need_0 : decode b_Mo_need 0 = .ok (.iload_n 1, 1) := by decide +kernel
theorem d_Mo_need_1 : decode b_Mo_need 1 = .ok (.ifCond .ne 13, 3) := by decide +kernel
theorem d_Mo_need_4 : decode b_Mo_need 4 = .ok (.aload_n 0, 1) := by decide +kernel
theorem d_Mo_need_5 : decode b_Mo_need 5 = .ok (.iconst 2, 1) := by decide +kernel
theorem d_Mo_need_6 : decode b_Mo_need 6 = .ok (.aload_n 0, 1) := by decide +kernel
theorem d_Mo_need_7 : decode b_Mo_need 7 = .ok (.getfield 107, 3) := by decide +kernel
theorem d_Mo_need_10 : decode b_Mo_need 10 = .ok (.invokevirtual 449, 3) := by decide +kernel
theorem d_Mo_need_13 : decode b_Mo_need 13 = .ok (.pop, 1) := by decide +kernel
theorem d_Mo_need_14 : decode b_Mo_need 14 = .ok (.return_, 1) := by decide +kernel
theorem kw_21 : Cond.instanceMethod y_Mo_need ∈ wA := kinm (show _ ∈ tables_1 from (List.mem_append_right _ (List.mem_append_right _ (List.mem_append_right _ (List.mem_append_right _ (List.mem_append_right _ (List.mem_append_right _ (List.mem_append_right _ (List.mem_append_right _ (List.mem_append_right _ (List.mem_append_right _ (List.mem_append_left _ (List.mem_of_getElem? (l := tables_1_11) (i := 152) (by decide +kernel)))))))))))))) (by decide +kernel)
theorem kw_22 : Cond.selects R_Mo y_Mo_need y_Mo_need ∈ wA := kinp 115 (by decide +kernel) (by decide +kernel)
def M_Mo_need (l1 : Int32) : M (Unit) :=
  oC (l1 = 0)
    (oB (oGI 29 0) fun v7 =>
    oB (M_Mo_bad 2 v7) fun v10 =>
    oR ())
    (oR ())

theorem cv_Mo_need : CV y_Mo_need b_Mo_need 2 none 1 := ⟨kw_21, kw_22, kw_3, k_Mo_need, by decide +kernel⟩
theorem ct_Mo_need {l : Launch} {P : PP} {q : PL} {s s' : S1} {l1 : Int32} {r : Unit} (h : M_Mo_need l1 s = some (r, s')) : Ct l y_Mo_need b_Mo_need 2 none 1 22 P q s [.ref (q.1 0 0), .int l1] none q s' := by
  refine ct_of (by decide) (Nat.le_of_ble_eq_true rfl) fun X ls eP el g hR hl => ?_
  have hR : Rt X q ((r, s') : Unit × S1).2 none := hR
  have hl : lv_has ls 2 [(0, .ref (q.1 0 0)), (1, .int l1)] := hl
  generalize (r, s') = o at h hR
  unfold M_Mo_need at h
  refine ww_iload_n (pc := 0) g.1 d_Mo_need_0 rfl (lv_at hl 1 rfl) ?_
  refine ww_if_ne (pc := 1) (tgt := 14) g.1 d_Mo_need_1 (by decide) h (fun c h => ?_) (fun c h => ?_)
  · exact ww_vretH (pc := 14) g h hR d_Mo_need_14
  · refine ww_aload_n (pc := 4) g.1 d_Mo_need_4 rfl (lv_at hl 0 rfl) ?_
    refine ww_iconst (pc := 5) g.1 (v := 2) d_Mo_need_5 (by decide) ?_
    refine ww_aload_n (pc := 6) g.1 d_Mo_need_6 rfl (lv_at hl 0 rfl) ?_
    refine ww_gI (pc := 7) g (k := 29) cl_Mo (pz rfl (by decide)) (by decide) (Or.inl kw_16) (f := 29) rfl rfl d_Mo_need_7 h fun v7 h => ?_
    obtain ⟨v10, s, hc10, h⟩ := oB_of h
    refine ww_callV (pc := 10) (rest := []) g cv_Mo_bad (Or.inl kw_18) cl_Mo (pz rfl (by decide)) (ct_Mo_bad hc10) ⟨by decide, by decide⟩ rfl hl.1 (Nat.le_of_ble_eq_true rfl) d_Mo_need_10 rfl ?_
    refine ww_st (st' := [.int v10]) rfl ?_
    refine ww_pop (pc := 13) g.1 d_Mo_need_13 rfl ?_
    exact ww_vretH (pc := 14) g h hR d_Mo_need_14

abbrev b_Mo_upvalue : ByteArray := prog_14_method_10_code
def y_Mo_upvalue : MethodName := ⟨R_Mo, "upvalue", "(I)V"⟩
abbrev w_Mo_upvalue : List Cond := .code y_Mo_upvalue b_Mo_upvalue 4 none :: wA
theorem k_Mo_upvalue : Cond.code y_Mo_upvalue b_Mo_upvalue 4 none ∈ wA := kinm (show _ ∈ tables_1 from (List.mem_append_right _ (List.mem_append_right _ (List.mem_append_right _ (List.mem_append_right _ (List.mem_append_right _ (List.mem_append_right _ (List.mem_append_right _ (List.mem_append_right _ (List.mem_append_right _ (List.mem_append_right _ (List.mem_append_left _ (List.mem_of_getElem? (l := tables_1_11) (i := 157) (by decide +kernel)))))))))))))) (by decide +kernel)
theorem d_Mo_upvalue_0 : decode b_Mo_upvalue 0 = .ok (.aload_n 0, 1) := by decide +kernel
theorem d_Mo_upvalue_1 : decode b_Mo_upvalue 1 = .ok (.iconst 1, 1) := by decide +kernel
theorem d_Mo_upvalue_2 : decode b_Mo_upvalue 2 = .ok (.invokevirtual 453, 3) := by decide +kernel
theorem d_Mo_upvalue_5 : decode b_Mo_upvalue 5 = .ok (.l2i, 1) := by decide +kernel
theorem d_Mo_upvalue_6 : decode b_Mo_upvalue 6 = .ok (.istore_n 2, 1) := by decide +kernel
theorem d_Mo_upvalue_7 : decode b_Mo_upvalue 7 = .ok (.iload_n 1, 1) := by decide +kernel
theorem d_Mo_upvalue_8 : decode b_Mo_upvalue 8 = .ok (.ifCond .lt 17, 3) := by decide +kernel
theorem d_Mo_upvalue_11 : decode b_Mo_upvalue 11 = .ok (.aload_n 0, 1) := by decide +kernel
theorem d_Mo_upvalue_12 : decode b_Mo_upvalue 12 = .ok (.iload_n 2, 1) := by decide +kernel
theorem d_Mo_upvalue_13 : decode b_Mo_upvalue 13 = .ok (.iconst 2, 1) := by decide +kernel
theorem d_Mo_upvalue_14 : decode b_Mo_upvalue 14 = .ok (.if_icmp .ge 7, 3) := by decide +kernel
theorem d_Mo_upvalue_17 : decode b_Mo_upvalue 17 = .ok (.iconst 1, 1) := by decide +kernel
theorem d_Mo_upvalue_18 : decode b_Mo_upvalue 18 = .ok (.goto 4, 3) := by decide +kernel
theorem d_Mo_upvalue_21 : decode b_Mo_upvalue 21 = .ok (.iconst 0, 1) := by decide +kernel
theorem d_Mo_upvalue_22 : decode b_Mo_upvalue 22 = .ok (.invokevirtual 456, 3) := by decide +kernel
theorem d_Mo_upvalue_25 : decode b_Mo_upvalue 25 = .ok (.aload_n 0, 1) := by decide +kernel
theorem d_Mo_upvalue_26 : decode b_Mo_upvalue 26 = .ok (.iconst 1, 1) := by decide +kernel
theorem d_Mo_upvalue_27 : decode b_Mo_upvalue 27 = .ok (.invokevirtual 453, 3) := by decide +kernel
theorem d_Mo_upvalue_30 : decode b_Mo_upvalue 30 = .ok (.l2i, 1) := by decide +kernel
theorem d_Mo_upvalue_31 : decode b_Mo_upvalue 31 = .ok (.istore_n 3, 1) := by decide +kernel
theorem d_Mo_upvalue_32 : decode b_Mo_upvalue 32 = .ok (.iload_n 1, 1) := by decide +kernel
theorem d_Mo_upvalue_33 : decode b_Mo_upvalue 33 = .ok (.ifCond .lt 43, 3) := by decide +kernel
theorem d_Mo_upvalue_36 : decode b_Mo_upvalue 36 = .ok (.aload_n 0, 1) := by decide +kernel
theorem d_Mo_upvalue_37 : decode b_Mo_upvalue 37 = .ok (.getfield 21, 3) := by decide +kernel
theorem d_Mo_upvalue_40 : decode b_Mo_upvalue 40 = .ok (.ifCond .ne 36, 3) := by decide +kernel
theorem d_Mo_upvalue_43 : decode b_Mo_upvalue 43 = .ok (.aload_n 0, 1) := by decide +kernel
theorem d_Mo_upvalue_44 : decode b_Mo_upvalue 44 = .ok (.iload_n 3, 1) := by decide +kernel
theorem d_Mo_upvalue_45 : decode b_Mo_upvalue 45 = .ok (.iload_n 2, 1) := by decide +kernel
theorem d_Mo_upvalue_46 : decode b_Mo_upvalue 46 = .ok (.iconst 1, 1) := by decide +kernel
theorem d_Mo_upvalue_47 : decode b_Mo_upvalue 47 = .ok (.if_icmp .ne 12, 3) := by decide +kernel
theorem d_Mo_upvalue_50 : decode b_Mo_upvalue 50 = .ok (.aload_n 0, 1) := by decide +kernel
theorem d_Mo_upvalue_51 : decode b_Mo_upvalue 51 = .ok (.getfield 38, 3) := by decide +kernel
theorem d_Mo_upvalue_54 : decode b_Mo_upvalue 54 = .ok (.iload_n 1, 1) := by decide +kernel
theorem d_Mo_upvalue_55 : decode b_Mo_upvalue 55 = .ok (.iaload, 1) := by decide +kernel
theorem d_Mo_upvalue_56 : decode b_Mo_upvalue 56 = .ok (.goto 9, 3) := by decide +kernel
theorem d_Mo_upvalue_59 : decode b_Mo_upvalue 59 = .ok (.aload_n 0, 1) := by decide +kernel
theorem d_Mo_upvalue_60 : decode b_Mo_upvalue 60 = .ok (.getfield 41, 3) := by decide +kernel
theorem d_Mo_upvalue_63 : decode b_Mo_upvalue 63 = .ok (.iload_n 1, 1) := by decide +kernel
theorem d_Mo_upvalue_64 : decode b_Mo_upvalue 64 = .ok (.iaload, 1) := by decide +kernel
theorem d_Mo_upvalue_65 : decode b_Mo_upvalue 65 = .ok (.if_icmp .ge 7, 3) := by decide +kernel
theorem d_Mo_upvalue_68 : decode b_Mo_upvalue 68 = .ok (.iconst 1, 1) := by decide +kernel
theorem d_Mo_upvalue_69 : decode b_Mo_upvalue 69 = .ok (.goto 4, 3) := by decide +kernel
theorem d_Mo_upvalue_72 : decode b_Mo_upvalue 72 = .ok (.iconst 0, 1) := by decide +kernel
theorem d_Mo_upvalue_73 : decode b_Mo_upvalue 73 = .ok (.invokevirtual 456, 3) := by decide +kernel
theorem d_Mo_upvalue_76 : decode b_Mo_upvalue 76 = .ok (.aload_n 0, 1) := by decide +kernel
theorem d_Mo_upvalue_77 : decode b_Mo_upvalue 77 = .ok (.getfield 21, 3) := by decide +kernel
theorem d_Mo_upvalue_80 : decode b_Mo_upvalue 80 = .ok (.ifCond .eq 4, 3) := by decide +kernel
theorem d_Mo_upvalue_83 : decode b_Mo_upvalue 83 = .ok (.return_, 1) := by decide +kernel
theorem d_Mo_upvalue_84 : decode b_Mo_upvalue 84 = .ok (.aload_n 0, 1) := by decide +kernel
theorem d_Mo_upvalue_85 : decode b_Mo_upvalue 85 = .ok (.getfield 65, 3) := by decide +kernel
theorem d_Mo_upvalue_88 : decode b_Mo_upvalue 88 = .ok (.aload_n 0, 1) := by decide +kernel
theorem d_Mo_upvalue_89 : decode b_Mo_upvalue 89 = .ok (.dup, 1) := by decide +kernel
theorem d_Mo_upvalue_90 : decode b_Mo_upvalue 90 = .ok (.getfield 92, 3) := by decide +kernel
theorem d_Mo_upvalue_93 : decode b_Mo_upvalue 93 = .ok (.dup_x1, 1) := by decide +kernel
theorem d_Mo_upvalue_94 : decode b_Mo_upvalue 94 = .ok (.iconst 1, 1) := by decide +kernel
theorem d_Mo_upvalue_95 : decode b_Mo_upvalue 95 = .ok (.iadd, 1) := by decide +kernel
theorem d_Mo_upvalue_96 : decode b_Mo_upvalue 96 = .ok (.putfield 92, 3) := by decide +kernel
theorem d_Mo_upvalue_99 : decode b_Mo_upvalue 99 = .ok (.sipush 256, 3) := by decide +kernel
theorem d_Mo_upvalue_102 : decode b_Mo_upvalue 102 = .ok (.iload_n 2, 1) := by decide +kernel
theorem d_Mo_upvalue_103 : decode b_Mo_upvalue 103 = .ok (.imul, 1) := by decide +kernel
theorem d_Mo_upvalue_104 : decode b_Mo_upvalue 104 = .ok (.iload_n 3, 1) := by decide +kernel
theorem d_Mo_upvalue_105 : decode b_Mo_upvalue 105 = .ok (.iadd, 1) := by decide +kernel
theorem d_Mo_upvalue_106 : decode b_Mo_upvalue 106 = .ok (.iastore, 1) := by decide +kernel
theorem d_Mo_upvalue_107 : decode b_Mo_upvalue 107 = .ok (.return_, 1) := by decide +kernel
theorem kw_23 : Cond.methodLink R_Mo 453 y_Mo_number ∈ wA := kinm (show _ ∈ tables_1 from (List.mem_append_right _ (List.mem_append_right _ (List.mem_append_right _ (List.mem_append_right _ (List.mem_append_right _ (List.mem_append_right _ (List.mem_append_right _ (List.mem_append_right _ (List.mem_append_right _ (List.mem_append_right _ (List.mem_append_left _ (List.mem_of_getElem? (l := tables_1_11) (i := 146) (by decide +kernel)))))))))))))) (by decide +kernel)
theorem kw_24 : Cond.fieldLink R_Mo 65 "LuaMachineModel" "ups" "[I" ∈ wA := kinm (show _ ∈ tables_1 from (List.mem_append_right _ (List.mem_append_right _ (List.mem_append_right _ (List.mem_append_right _ (List.mem_append_right _ (List.mem_append_right _ (List.mem_append_right _ (List.mem_append_right _ (List.mem_append_right _ (List.mem_append_left _ (List.mem_of_getElem? (l := tables_1_10) (i := 72) (by decide +kernel))))))))))))) (by decide +kernel)
theorem kw_25 : Cond.fieldLink R_Mo 92 "LuaMachineModel" "upCount" "I" ∈ wA := kinm (show _ ∈ tables_1 from (List.mem_append_right _ (List.mem_append_right _ (List.mem_append_right _ (List.mem_append_right _ (List.mem_append_right _ (List.mem_append_right _ (List.mem_append_right _ (List.mem_append_right _ (List.mem_append_right _ (List.mem_append_left _ (List.mem_of_getElem? (l := tables_1_10) (i := 79) (by decide +kernel))))))))))))) (by decide +kernel)
theorem kw_26 : Cond.fieldLink R_Mo 41 "LuaMachineModel" "upvalues" "[I" ∈ wA := kinm (show _ ∈ tables_1 from (List.mem_append_right _ (List.mem_append_right _ (List.mem_append_right _ (List.mem_append_right _ (List.mem_append_right _ (List.mem_append_right _ (List.mem_append_right _ (List.mem_append_right _ (List.mem_append_right _ (List.mem_append_left _ (List.mem_of_getElem? (l := tables_1_10) (i := 64) (by decide +kernel))))))))))))) (by decide +kernel)
theorem kw_27 : Cond.methodLink R_Mo 456 y_Mo_need ∈ wA := kinm (show _ ∈ tables_1 from (List.mem_append_right _ (List.mem_append_right _ (List.mem_append_right _ (List.mem_append_right _ (List.mem_append_right _ (List.mem_append_right _ (List.mem_append_right _ (List.mem_append_right _ (List.mem_append_right _ (List.mem_append_right _ (List.mem_append_left _ (List.mem_of_getElem? (l := tables_1_11) (i := 150) (by decide +kernel)))))))))))))) (by decide +kernel)
theorem kw_28 : Cond.fieldLink R_Mo 38 "LuaMachineModel" "registers" "[I" ∈ wA := kinm (show _ ∈ tables_1 from (List.mem_append_right _ (List.mem_append_right _ (List.mem_append_right _ (List.mem_append_right _ (List.mem_append_right _ (List.mem_append_right _ (List.mem_append_right _ (List.mem_append_right _ (List.mem_append_right _ (List.mem_append_left _ (List.mem_of_getElem? (l := tables_1_10) (i := 62) (by decide +kernel))))))))))))) (by decide +kernel)
theorem kw_29 : Cond.instanceMethod y_Mo_upvalue ∈ wA := kinm (show _ ∈ tables_1 from (List.mem_append_right _ (List.mem_append_right _ (List.mem_append_right _ (List.mem_append_right _ (List.mem_append_right _ (List.mem_append_right _ (List.mem_append_right _ (List.mem_append_right _ (List.mem_append_right _ (List.mem_append_right _ (List.mem_append_left _ (List.mem_of_getElem? (l := tables_1_11) (i := 156) (by decide +kernel)))))))))))))) (by decide +kernel)
theorem kw_30 : Cond.selects R_Mo y_Mo_upvalue y_Mo_upvalue ∈ wA := kinp 116 (by decide +kernel) (by decide +kernel)
def M_Mo_upvalue_j76 (l2 : Int32) (l3 : Int32) : M (Unit) :=
  oB (oGI 3 0) fun v77 =>
  oC (v77 = 0)
    (oB (oGI 24 0) fun v90 =>
    oB (oPI 24 0 (v90 + 1)) fun _ =>
    oB (oSI 53 30200 0 v90 ((256 * l2) + l3)) fun _ =>
    oR ())
    (oR ())

def M_Mo_upvalue_j73 (l2 : Int32) (l3 : Int32) (k0 : Int32) : M (Unit) :=
  oB (M_Mo_need k0) fun _ =>
  M_Mo_upvalue_j76 l2 l3

def M_Mo_upvalue_j65 (l2 : Int32) (l3 : Int32) (k0 : Int32) (k1 : Int32) : M (Unit) :=
  oC (k0 ≤ k1)
    (M_Mo_upvalue_j73 l2 l3 0)
    (M_Mo_upvalue_j73 l2 l3 1)

def M_Mo_upvalue_j25 (l1 : Int32) (l2 : Int32) : M (Unit) :=
  oB (M_Mo_number 1) fun v27 =>
  oC (l1 < 0)
    (M_Mo_upvalue_j76 l2 v27.toInt32)
    (oB (oGI 3 0) fun v37 =>
    oC (v37 = 0)
      (oC (l2 = 1)
        (oB (oAI 44 251 0 l1) fun v55 =>
        M_Mo_upvalue_j65 l2 v27.toInt32 v55 v27.toInt32)
        (oB (oAI 45 251 0 l1) fun v64 =>
        M_Mo_upvalue_j65 l2 v27.toInt32 v64 v27.toInt32))
      (M_Mo_upvalue_j76 l2 v27.toInt32))

def M_Mo_upvalue_j22 (l1 : Int32) (l2 : Int32) (k0 : Int32) : M (Unit) :=
  oB (M_Mo_need k0) fun _ =>
  M_Mo_upvalue_j25 l1 l2

def M_Mo_upvalue (l1 : Int32) : M (Unit) :=
  oB (M_Mo_number 1) fun v2 =>
  oC (l1 < 0)
    (M_Mo_upvalue_j25 l1 v2.toInt32)
    (oC (2 ≤ v2.toInt32)
      (M_Mo_upvalue_j22 l1 v2.toInt32 0)
      (M_Mo_upvalue_j22 l1 v2.toInt32 1))

theorem cv_Mo_upvalue : CV y_Mo_upvalue b_Mo_upvalue 4 none 1 := ⟨kw_29, kw_30, kw_3, k_Mo_upvalue, by decide +kernel⟩
theorem j_Mo_upvalue_j76 {X : Cx} {q : PL} (g : Gd X y_Mo_upvalue b_Mo_upvalue 4 none 2 46 R_Mo) {o : (Unit) × S1} (hR : Rt X q o.2 none) (l2 : Int32) (l3 : Int32) (s : S1) (ls : Array Slot) (hl : lv_has ls 4 [(0, .ref (q.1 0 0)), (2, .int l2), (3, .int l3)]) (h : M_Mo_upvalue_j76 l2 l3 s = some o) : WW X q s 76 ls [] := by
  unfold M_Mo_upvalue_j76 at h
  refine ww_aload_n (pc := 76) g.1 d_Mo_upvalue_76 rfl (lv_at hl 0 rfl) ?_
  refine ww_gI (pc := 77) g (k := 3) cl_Mo (pz rfl (by decide)) (by decide) (Or.inl kw_11) (f := 3) rfl rfl d_Mo_upvalue_77 h fun v77 h => ?_
  refine ww_if_eq (pc := 80) (tgt := 84) g.1 d_Mo_upvalue_80 (by decide) h (fun c h => ?_) (fun c h => ?_)
  · refine ww_aload_n (pc := 84) g.1 d_Mo_upvalue_84 rfl (lv_at hl 0 rfl) ?_
    refine ww_gR (pc := 85) g (k := 17) cl_Mo (pz rfl (by decide)) (by decide) (Or.inl kw_24) (f := 17) (t := 53) rfl rfl rfl d_Mo_upvalue_85 ?_
    refine ww_aload_n (pc := 88) g.1 d_Mo_upvalue_88 rfl (lv_at hl 0 rfl) ?_
    refine ww_dup (pc := 89) g.1 d_Mo_upvalue_89 rfl ?_
    refine ww_gI (pc := 90) g (k := 24) cl_Mo (pz rfl (by decide)) (by decide) (Or.inl kw_25) (f := 24) rfl rfl d_Mo_upvalue_90 h fun v90 h => ?_
    refine ww_dup_x1 (pc := 93) g.1 d_Mo_upvalue_93 rfl rfl ?_
    refine ww_iconst (pc := 94) g.1 (v := 1) d_Mo_upvalue_94 (by decide) ?_
    refine ww_iadd (pc := 95) g.1 d_Mo_upvalue_95 ?_
    refine ww_pI (pc := 96) g (k := 24) cl_Mo (pz rfl (by decide)) (by decide) (Or.inl kw_25) rfl (f := 24) rfl rfl rfl rfl d_Mo_upvalue_96 h fun s _ h => ?_
    refine ww_sipush (pc := 99) g.1 (v := 256) d_Mo_upvalue_99 (by decide) ?_
    refine ww_iload_n (pc := 102) g.1 d_Mo_upvalue_102 rfl (lv_at hl 1 rfl) ?_
    refine ww_imul (pc := 103) g.1 d_Mo_upvalue_103 ?_
    refine ww_iload_n (pc := 104) g.1 d_Mo_upvalue_104 rfl (lv_at hl 2 rfl) ?_
    refine ww_iadd (pc := 105) g.1 d_Mo_upvalue_105 ?_
    refine ww_si (pc := 106) g (pz rfl (by decide)) rfl rfl d_Mo_upvalue_106 h fun s _ h => ?_
    exact ww_vretH (pc := 107) g h hR d_Mo_upvalue_107
  · exact ww_vretH (pc := 83) g h hR d_Mo_upvalue_83

theorem j_Mo_upvalue_j73 {X : Cx} {q : PL} (g : Gd X y_Mo_upvalue b_Mo_upvalue 4 none 2 46 R_Mo) {o : (Unit) × S1} (hR : Rt X q o.2 none) (l2 : Int32) (l3 : Int32) (k0 : Int32) (s : S1) (ls : Array Slot) (hl : lv_has ls 4 [(0, .ref (q.1 0 0)), (2, .int l2), (3, .int l3)]) (h : M_Mo_upvalue_j73 l2 l3 k0 s = some o) : WW X q s 73 ls [.int k0, .ref (q.1 0 0)] := by
  unfold M_Mo_upvalue_j73 at h
  obtain ⟨v73, s, hc73, h⟩ := oB_of h
  refine ww_callV (pc := 73) (rest := []) g cv_Mo_need (Or.inl kw_27) cl_Mo (pz rfl (by decide)) (ct_Mo_need hc73) ⟨by decide, by decide⟩ rfl hl.1 (Nat.le_of_ble_eq_true rfl) d_Mo_upvalue_73 rfl ?_
  refine ww_st (st' := []) rfl ?_
  exact j_Mo_upvalue_j76 g hR l2 l3  s ls (lv_sub hl [0, 1, 2] rfl) h

theorem j_Mo_upvalue_j65 {X : Cx} {q : PL} (g : Gd X y_Mo_upvalue b_Mo_upvalue 4 none 2 46 R_Mo) {o : (Unit) × S1} (hR : Rt X q o.2 none) (l2 : Int32) (l3 : Int32) (k0 : Int32) (k1 : Int32) (s : S1) (ls : Array Slot) (hl : lv_has ls 4 [(0, .ref (q.1 0 0)), (2, .int l2), (3, .int l3)]) (h : M_Mo_upvalue_j65 l2 l3 k0 k1 s = some o) : WW X q s 65 ls [.int k0, .int k1, .ref (q.1 0 0)] := by
  unfold M_Mo_upvalue_j65 at h
  refine ww_icmp_ge (pc := 65) (tgt := 72) g.1 d_Mo_upvalue_65 (by decide) h (fun c h => ?_) (fun c h => ?_)
  · refine ww_iconst (pc := 72) g.1 (v := 0) d_Mo_upvalue_72 (by decide) ?_
    exact j_Mo_upvalue_j73 g hR l2 l3 0  s ls (lv_sub hl [0, 1, 2] rfl) h
  · refine ww_iconst (pc := 68) g.1 (v := 1) d_Mo_upvalue_68 (by decide) ?_
    refine ww_goto (pc := 69) (tgt := 73) g.1 d_Mo_upvalue_69 (by decide) ?_
    exact j_Mo_upvalue_j73 g hR l2 l3 1  s ls (lv_sub hl [0, 1, 2] rfl) h

theorem j_Mo_upvalue_j25 {X : Cx} {q : PL} (g : Gd X y_Mo_upvalue b_Mo_upvalue 4 none 2 46 R_Mo) {o : (Unit) × S1} (hR : Rt X q o.2 none) (l1 : Int32) (l2 : Int32) (s : S1) (ls : Array Slot) (hl : lv_has ls 4 [(0, .ref (q.1 0 0)), (1, .int l1), (2, .int l2)]) (h : M_Mo_upvalue_j25 l1 l2 s = some o) : WW X q s 25 ls [] := by
  unfold M_Mo_upvalue_j25 at h
  refine ww_aload_n (pc := 25) g.1 d_Mo_upvalue_25 rfl (lv_at hl 0 rfl) ?_
  refine ww_iconst (pc := 26) g.1 (v := 1) d_Mo_upvalue_26 (by decide) ?_
  obtain ⟨v27, s, hc27, h⟩ := oB_of h
  refine ww_callV (pc := 27) (rest := []) g cv_Mo_number (Or.inl kw_23) cl_Mo (pz rfl (by decide)) (ct_Mo_number hc27) ⟨by decide, by decide⟩ rfl hl.1 (Nat.le_of_ble_eq_true rfl) d_Mo_upvalue_27 rfl ?_
  refine ww_st (st' := [.long v27]) rfl ?_
  refine ww_l2i (pc := 30) g.1 (v := v27.toInt32) d_Mo_upvalue_30 rfl ?_
  refine ww_istore_n (pc := 31) g.1 (lv' := [(3, .int v27.toInt32), (0, .ref (q.1 0 0)), (1, .int l1), (2, .int l2)]) d_Mo_upvalue_31 rfl hl (by decide) rfl fun ls hl => ?_
  refine ww_iload_n (pc := 32) g.1 d_Mo_upvalue_32 rfl (lv_at hl 2 rfl) ?_
  refine ww_if_lt (pc := 33) (tgt := 76) g.1 d_Mo_upvalue_33 (by decide) h (fun c h => ?_) (fun c h => ?_)
  · exact j_Mo_upvalue_j76 g hR l2 v27.toInt32  s ls (lv_sub hl [1, 3, 0] rfl) h
  · refine ww_aload_n (pc := 36) g.1 d_Mo_upvalue_36 rfl (lv_at hl 1 rfl) ?_
    refine ww_gI (pc := 37) g (k := 3) cl_Mo (pz rfl (by decide)) (by decide) (Or.inl kw_11) (f := 3) rfl rfl d_Mo_upvalue_37 h fun v37 h => ?_
    refine ww_if_ne (pc := 40) (tgt := 76) g.1 d_Mo_upvalue_40 (by decide) h (fun c h => ?_) (fun c h => ?_)
    · exact j_Mo_upvalue_j76 g hR l2 v27.toInt32  s ls (lv_sub hl [1, 3, 0] rfl) h
    · refine ww_aload_n (pc := 43) g.1 d_Mo_upvalue_43 rfl (lv_at hl 1 rfl) ?_
      refine ww_iload_n (pc := 44) g.1 d_Mo_upvalue_44 rfl (lv_at hl 0 rfl) ?_
      refine ww_iload_n (pc := 45) g.1 d_Mo_upvalue_45 rfl (lv_at hl 3 rfl) ?_
      refine ww_iconst (pc := 46) g.1 (v := 1) d_Mo_upvalue_46 (by decide) ?_
      refine ww_icmp_ne (pc := 47) (tgt := 59) g.1 d_Mo_upvalue_47 (by decide) h (fun c h => ?_) (fun c h => ?_)
      · refine ww_aload_n (pc := 59) g.1 d_Mo_upvalue_59 rfl (lv_at hl 1 rfl) ?_
        refine ww_gR (pc := 60) g (k := 9) cl_Mo (pz rfl (by decide)) (by decide) (Or.inl kw_26) (f := 9) (t := 45) rfl rfl rfl d_Mo_upvalue_60 ?_
        refine ww_iload_n (pc := 63) g.1 d_Mo_upvalue_63 rfl (lv_at hl 2 rfl) ?_
        refine ww_ai (pc := 64) g (pz rfl (by decide)) rfl rfl d_Mo_upvalue_64 h fun v64 h => ?_
        exact j_Mo_upvalue_j65 g hR l2 v27.toInt32 v64 v27.toInt32  s ls (lv_sub hl [1, 3, 0] rfl) h
      · refine ww_aload_n (pc := 50) g.1 d_Mo_upvalue_50 rfl (lv_at hl 1 rfl) ?_
        refine ww_gR (pc := 51) g (k := 8) cl_Mo (pz rfl (by decide)) (by decide) (Or.inl kw_28) (f := 8) (t := 44) rfl rfl rfl d_Mo_upvalue_51 ?_
        refine ww_iload_n (pc := 54) g.1 d_Mo_upvalue_54 rfl (lv_at hl 2 rfl) ?_
        refine ww_ai (pc := 55) g (pz rfl (by decide)) rfl rfl d_Mo_upvalue_55 h fun v55 h => ?_
        refine ww_goto (pc := 56) (tgt := 65) g.1 d_Mo_upvalue_56 (by decide) ?_
        exact j_Mo_upvalue_j65 g hR l2 v27.toInt32 v55 v27.toInt32  s ls (lv_sub hl [1, 3, 0] rfl) h

theorem j_Mo_upvalue_j22 {X : Cx} {q : PL} (g : Gd X y_Mo_upvalue b_Mo_upvalue 4 none 2 46 R_Mo) {o : (Unit) × S1} (hR : Rt X q o.2 none) (l1 : Int32) (l2 : Int32) (k0 : Int32) (s : S1) (ls : Array Slot) (hl : lv_has ls 4 [(0, .ref (q.1 0 0)), (1, .int l1), (2, .int l2)]) (h : M_Mo_upvalue_j22 l1 l2 k0 s = some o) : WW X q s 22 ls [.int k0, .ref (q.1 0 0)] := by
  unfold M_Mo_upvalue_j22 at h
  obtain ⟨v22, s, hc22, h⟩ := oB_of h
  refine ww_callV (pc := 22) (rest := []) g cv_Mo_need (Or.inl kw_27) cl_Mo (pz rfl (by decide)) (ct_Mo_need hc22) ⟨by decide, by decide⟩ rfl hl.1 (Nat.le_of_ble_eq_true rfl) d_Mo_upvalue_22 rfl ?_
  refine ww_st (st' := []) rfl ?_
  exact j_Mo_upvalue_j25 g hR l1 l2  s ls (lv_sub hl [0, 1, 2] rfl) h

theorem ct_Mo_upvalue {l : Launch} {P : PP} {q : PL} {s s' : S1} {l1 : Int32} {r : Unit} (h : M_Mo_upvalue l1 s = some (r, s')) : Ct l y_Mo_upvalue b_Mo_upvalue 4 none 2 46 P q s [.ref (q.1 0 0), .int l1] none q s' := by
  refine ct_of (by decide) (Nat.le_of_ble_eq_true rfl) fun X ls eP el g hR hl => ?_
  have hR : Rt X q ((r, s') : Unit × S1).2 none := hR
  have hl : lv_has ls 4 [(0, .ref (q.1 0 0)), (1, .int l1)] := hl
  generalize (r, s') = o at h hR
  unfold M_Mo_upvalue at h
  refine ww_aload_n (pc := 0) g.1 d_Mo_upvalue_0 rfl (lv_at hl 0 rfl) ?_
  refine ww_iconst (pc := 1) g.1 (v := 1) d_Mo_upvalue_1 (by decide) ?_
  obtain ⟨v2, s, hc2, h⟩ := oB_of h
  refine ww_callV (pc := 2) (rest := []) g cv_Mo_number (Or.inl kw_23) cl_Mo (pz rfl (by decide)) (ct_Mo_number hc2) ⟨by decide, by decide⟩ rfl hl.1 (Nat.le_of_ble_eq_true rfl) d_Mo_upvalue_2 rfl ?_
  refine ww_st (st' := [.long v2]) rfl ?_
  refine ww_l2i (pc := 5) g.1 (v := v2.toInt32) d_Mo_upvalue_5 rfl ?_
  refine ww_istore_n (pc := 6) g.1 (lv' := [(2, .int v2.toInt32), (0, .ref (q.1 0 0)), (1, .int l1)]) d_Mo_upvalue_6 rfl hl (by decide) rfl fun ls hl => ?_
  refine ww_iload_n (pc := 7) g.1 d_Mo_upvalue_7 rfl (lv_at hl 2 rfl) ?_
  refine ww_if_lt (pc := 8) (tgt := 25) g.1 d_Mo_upvalue_8 (by decide) h (fun c h => ?_) (fun c h => ?_)
  · exact j_Mo_upvalue_j25 g hR l1 v2.toInt32  s ls (lv_sub hl [1, 2, 0] rfl) h
  · refine ww_aload_n (pc := 11) g.1 d_Mo_upvalue_11 rfl (lv_at hl 1 rfl) ?_
    refine ww_iload_n (pc := 12) g.1 d_Mo_upvalue_12 rfl (lv_at hl 0 rfl) ?_
    refine ww_iconst (pc := 13) g.1 (v := 2) d_Mo_upvalue_13 (by decide) ?_
    refine ww_icmp_ge (pc := 14) (tgt := 21) g.1 d_Mo_upvalue_14 (by decide) h (fun c h => ?_) (fun c h => ?_)
    · refine ww_iconst (pc := 21) g.1 (v := 0) d_Mo_upvalue_21 (by decide) ?_
      exact j_Mo_upvalue_j22 g hR l1 v2.toInt32 0  s ls (lv_sub hl [1, 2, 0] rfl) h
    · refine ww_iconst (pc := 17) g.1 (v := 1) d_Mo_upvalue_17 (by decide) ?_
      refine ww_goto (pc := 18) (tgt := 22) g.1 d_Mo_upvalue_18 (by decide) ?_
      exact j_Mo_upvalue_j22 g hR l1 v2.toInt32 1  s ls (lv_sub hl [1, 2, 0] rfl) h

abbrev b_Mo_readConstants : ByteArray := prog_14_method_11_code
def y_Mo_readConstants : MethodName := ⟨R_Mo, "readConstants", "(I)V"⟩
abbrev w_Mo_readConstants : List Cond := .code y_Mo_readConstants b_Mo_readConstants 8 none :: wA
set_option maxRecDepth 20000 in
theorem k_Mo_readConstants : Cond.code y_Mo_readConstants b_Mo_readConstants 8 none ∈ wA := kinm (show _ ∈ tables_1 from (List.mem_append_right _ (List.mem_append_right _ (List.mem_append_right _ (List.mem_append_right _ (List.mem_append_right _ (List.mem_append_right _ (List.mem_append_right _ (List.mem_append_right _ (List.mem_append_right _ (List.mem_append_right _ (List.mem_append_left _ (List.mem_of_getElem? (l := tables_1_11) (i := 161) rfl))))))))))))) rfl
theorem d_Mo_readConstants_0 : decode b_Mo_readConstants 0 = .ok (.aload_n 0, 1) := by decide +kernel
theorem d_Mo_readConstants_1 : decode b_Mo_readConstants 1 = .ok (.iconst 2, 1) := by decide +kernel
theorem d_Mo_readConstants_2 : decode b_Mo_readConstants 2 = .ok (.invokevirtual 453, 3) := by decide +kernel
theorem d_Mo_readConstants_5 : decode b_Mo_readConstants 5 = .ok (.l2i, 1) := by decide +kernel
theorem d_Mo_readConstants_6 : decode b_Mo_readConstants 6 = .ok (.istore_n 2, 1) := by decide +kernel
theorem d_Mo_readConstants_7 : decode b_Mo_readConstants 7 = .ok (.aload_n 0, 1) := by decide +kernel
theorem d_Mo_readConstants_8 : decode b_Mo_readConstants 8 = .ok (.getfield 47, 3) := by decide +kernel
theorem d_Mo_readConstants_11 : decode b_Mo_readConstants 11 = .ok (.iload_n 1, 1) := by decide +kernel
theorem d_Mo_readConstants_12 : decode b_Mo_readConstants 12 = .ok (.aload_n 0, 1) := by decide +kernel
theorem d_Mo_readConstants_13 : decode b_Mo_readConstants 13 = .ok (.getfield 95, 3) := by decide +kernel
theorem d_Mo_readConstants_16 : decode b_Mo_readConstants 16 = .ok (.iastore, 1) := by decide +kernel
theorem d_Mo_readConstants_17 : decode b_Mo_readConstants 17 = .ok (.aload_n 0, 1) := by decide +kernel
theorem d_Mo_readConstants_18 : decode b_Mo_readConstants 18 = .ok (.getfield 50, 3) := by decide +kernel
theorem d_Mo_readConstants_21 : decode b_Mo_readConstants 21 = .ok (.iload_n 1, 1) := by decide +kernel
theorem d_Mo_readConstants_22 : decode b_Mo_readConstants 22 = .ok (.iload_n 2, 1) := by decide +kernel
theorem d_Mo_readConstants_23 : decode b_Mo_readConstants 23 = .ok (.iastore, 1) := by decide +kernel
theorem d_Mo_readConstants_24 : decode b_Mo_readConstants 24 = .ok (.iconst 0, 1) := by decide +kernel
theorem d_Mo_readConstants_25 : decode b_Mo_readConstants 25 = .ok (.istore_n 3, 1) := by decide +kernel
theorem d_Mo_readConstants_26 : decode b_Mo_readConstants 26 = .ok (.iload_n 3, 1) := by decide +kernel
theorem d_Mo_readConstants_27 : decode b_Mo_readConstants 27 = .ok (.iload_n 2, 1) := by decide +kernel
theorem d_Mo_readConstants_28 : decode b_Mo_readConstants 28 = .ok (.if_icmp .ge 191, 3) := by decide +kernel
theorem d_Mo_readConstants_31 : decode b_Mo_readConstants 31 = .ok (.aload_n 0, 1) := by decide +kernel
theorem d_Mo_readConstants_32 : decode b_Mo_readConstants 32 = .ok (.getfield 21, 3) := by decide +kernel
theorem d_Mo_readConstants_35 : decode b_Mo_readConstants 35 = .ok (.ifCond .ne 184, 3) := by decide +kernel
theorem d_Mo_readConstants_38 : decode b_Mo_readConstants 38 = .ok (.aload_n 0, 1) := by decide +kernel
theorem d_Mo_readConstants_39 : decode b_Mo_readConstants 39 = .ok (.iconst 1, 1) := by decide +kernel
theorem d_Mo_readConstants_40 : decode b_Mo_readConstants 40 = .ok (.invokevirtual 453, 3) := by decide +kernel
theorem d_Mo_readConstants_43 : decode b_Mo_readConstants 43 = .ok (.l2i, 1) := by decide +kernel
theorem d_Mo_readConstants_44 : decode b_Mo_readConstants 44 = .ok (.istore 4, 2) := by decide +kernel
theorem d_Mo_readConstants_46 : decode b_Mo_readConstants 46 = .ok (.aload_n 0, 1) := by decide +kernel
theorem d_Mo_readConstants_47 : decode b_Mo_readConstants 47 = .ok (.getfield 21, 3) := by decide +kernel
theorem d_Mo_readConstants_50 : decode b_Mo_readConstants 50 = .ok (.ifCond .ne 28, 3) := by decide +kernel
theorem d_Mo_readConstants_53 : decode b_Mo_readConstants 53 = .ok (.aload_n 0, 1) := by decide +kernel
theorem d_Mo_readConstants_54 : decode b_Mo_readConstants 54 = .ok (.getfield 95, 3) := by decide +kernel
theorem d_Mo_readConstants_57 : decode b_Mo_readConstants 57 = .ok (.aload_n 0, 1) := by decide +kernel
theorem d_Mo_readConstants_58 : decode b_Mo_readConstants 58 = .ok (.getfield 98, 3) := by decide +kernel
theorem d_Mo_readConstants_61 : decode b_Mo_readConstants 61 = .ok (.iadd, 1) := by decide +kernel
theorem d_Mo_readConstants_62 : decode b_Mo_readConstants 62 = .ok (.sipush 20000, 3) := by decide +kernel
theorem d_Mo_readConstants_65 : decode b_Mo_readConstants 65 = .ok (.if_icmp .ne 13, 3) := by decide +kernel
theorem d_Mo_readConstants_68 : decode b_Mo_readConstants 68 = .ok (.aload_n 0, 1) := by decide +kernel
theorem d_Mo_readConstants_69 : decode b_Mo_readConstants 69 = .ok (.iconst 4, 1) := by decide +kernel
theorem d_Mo_readConstants_70 : decode b_Mo_readConstants 70 = .ok (.aload_n 0, 1) := by decide +kernel
theorem d_Mo_readConstants_71 : decode b_Mo_readConstants 71 = .ok (.getfield 107, 3) := by decide +kernel
theorem d_Mo_readConstants_74 : decode b_Mo_readConstants 74 = .ok (.invokevirtual 449, 3) := by decide +kernel
theorem d_Mo_readConstants_77 : decode b_Mo_readConstants 77 = .ok (.pop, 1) := by decide +kernel
theorem d_Mo_readConstants_78 : decode b_Mo_readConstants 78 = .ok (.aload_n 0, 1) := by decide +kernel
theorem d_Mo_readConstants_79 : decode b_Mo_readConstants 79 = .ok (.iload 4, 2) := by decide +kernel
theorem d_Mo_readConstants_81 : decode b_Mo_readConstants 81 = .ok (.iconst 5, 1) := by decide +kernel
theorem d_Mo_readConstants_82 : decode b_Mo_readConstants 82 = .ok (.if_icmp .ge 7, 3) := by decide +kernel
theorem d_Mo_readConstants_85 : decode b_Mo_readConstants 85 = .ok (.iconst 1, 1) := by decide +kernel
theorem d_Mo_readConstants_86 : decode b_Mo_readConstants 86 = .ok (.goto 4, 3) := by decide +kernel
theorem d_Mo_readConstants_89 : decode b_Mo_readConstants 89 = .ok (.iconst 0, 1) := by decide +kernel
theorem d_Mo_readConstants_90 : decode b_Mo_readConstants 90 = .ok (.invokevirtual 456, 3) := by decide +kernel
theorem d_Mo_readConstants_93 : decode b_Mo_readConstants 93 = .ok (.lconst 0, 1) := by decide +kernel
theorem d_Mo_readConstants_94 : decode b_Mo_readConstants 94 = .ok (.lstore 5, 2) := by decide +kernel
theorem d_Mo_readConstants_96 : decode b_Mo_readConstants 96 = .ok (.iload 4, 2) := by decide +kernel
theorem d_Mo_readConstants_98 : decode b_Mo_readConstants 98 = .ok (.iconst 3, 1) := by decide +kernel
theorem d_Mo_readConstants_99 : decode b_Mo_readConstants 99 = .ok (.if_icmp .ne 11, 3) := by decide +kernel
theorem d_Mo_readConstants_102 : decode b_Mo_readConstants 102 = .ok (.aload_n 0, 1) := by decide +kernel
theorem d_Mo_readConstants_103 : decode b_Mo_readConstants 103 = .ok (.bipush 8, 2) := by decide +kernel
theorem d_Mo_readConstants_105 : decode b_Mo_readConstants 105 = .ok (.invokevirtual 453, 3) := by decide +kernel
theorem d_Mo_readConstants_108 : decode b_Mo_readConstants 108 = .ok (.lstore 5, 2) := by decide +kernel
theorem d_Mo_readConstants_110 : decode b_Mo_readConstants 110 = .ok (.iload 4, 2) := by decide +kernel
theorem d_Mo_readConstants_112 : decode b_Mo_readConstants 112 = .ok (.iconst 4, 1) := by decide +kernel
theorem d_Mo_readConstants_113 : decode b_Mo_readConstants 113 = .ok (.if_icmp .ne 71, 3) := by decide +kernel
theorem d_Mo_readConstants_116 : decode b_Mo_readConstants 116 = .ok (.aload_n 0, 1) := by decide +kernel
theorem d_Mo_readConstants_117 : decode b_Mo_readConstants 117 = .ok (.iconst 2, 1) := by decide +kernel
theorem d_Mo_readConstants_118 : decode b_Mo_readConstants 118 = .ok (.invokevirtual 453, 3) := by decide +kernel
theorem d_Mo_readConstants_121 : decode b_Mo_readConstants 121 = .ok (.l2i, 1) := by decide +kernel
theorem d_Mo_readConstants_122 : decode b_Mo_readConstants 122 = .ok (.istore 7, 2) := by decide +kernel
theorem d_Mo_readConstants_124 : decode b_Mo_readConstants 124 = .ok (.aload_n 0, 1) := by decide +kernel
theorem d_Mo_readConstants_125 : decode b_Mo_readConstants 125 = .ok (.getfield 86, 3) := by decide +kernel
theorem d_Mo_readConstants_128 : decode b_Mo_readConstants 128 = .ok (.aload_n 0, 1) := by decide +kernel
theorem d_Mo_readConstants_129 : decode b_Mo_readConstants 129 = .ok (.getfield 95, 3) := by decide +kernel
theorem d_Mo_readConstants_132 : decode b_Mo_readConstants 132 = .ok (.aload_n 0, 1) := by decide +kernel
theorem d_Mo_readConstants_133 : decode b_Mo_readConstants 133 = .ok (.getfield 104, 3) := by decide +kernel
theorem d_Mo_readConstants_136 : decode b_Mo_readConstants 136 = .ok (.iastore, 1) := by decide +kernel
theorem d_Mo_readConstants_137 : decode b_Mo_readConstants 137 = .ok (.iload 7, 2) := by decide +kernel
theorem d_Mo_readConstants_139 : decode b_Mo_readConstants 139 = .ok (.i2l, 1) := by decide +kernel
theorem d_Mo_readConstants_140 : decode b_Mo_readConstants 140 = .ok (.lstore 5, 2) := by decide +kernel
theorem d_Mo_readConstants_142 : decode b_Mo_readConstants 142 = .ok (.aload_n 0, 1) := by decide +kernel
theorem d_Mo_readConstants_143 : decode b_Mo_readConstants 143 = .ok (.getfield 21, 3) := by decide +kernel
theorem d_Mo_readConstants_146 : decode b_Mo_readConstants 146 = .ok (.ifCond .ne 27, 3) := by decide +kernel
theorem d_Mo_readConstants_149 : decode b_Mo_readConstants 149 = .ok (.aload_n 0, 1) := by decide +kernel
theorem d_Mo_readConstants_150 : decode b_Mo_readConstants 150 = .ok (.getfield 14, 3) := by decide +kernel
theorem d_Mo_readConstants_153 : decode b_Mo_readConstants 153 = .ok (.aload_n 0, 1) := by decide +kernel
theorem d_Mo_readConstants_154 : decode b_Mo_readConstants 154 = .ok (.getfield 104, 3) := by decide +kernel
theorem d_Mo_readConstants_157 : decode b_Mo_readConstants 157 = .ok (.isub, 1) := by decide +kernel
theorem d_Mo_readConstants_158 : decode b_Mo_readConstants 158 = .ok (.iload 7, 2) := by decide +kernel
theorem d_Mo_readConstants_160 : decode b_Mo_readConstants 160 = .ok (.if_icmp .ge 13, 3) := by decide +kernel
theorem d_Mo_readConstants_163 : decode b_Mo_readConstants 163 = .ok (.aload_n 0, 1) := by decide +kernel
theorem d_Mo_readConstants_164 : decode b_Mo_readConstants 164 = .ok (.iconst 1, 1) := by decide +kernel
theorem d_Mo_readConstants_165 : decode b_Mo_readConstants 165 = .ok (.aload_n 0, 1) := by decide +kernel
theorem d_Mo_readConstants_166 : decode b_Mo_readConstants 166 = .ok (.getfield 104, 3) := by decide +kernel
theorem d_Mo_readConstants_169 : decode b_Mo_readConstants 169 = .ok (.invokevirtual 449, 3) := by decide +kernel
theorem d_Mo_readConstants_172 : decode b_Mo_readConstants 172 = .ok (.pop, 1) := by decide +kernel
theorem d_Mo_readConstants_173 : decode b_Mo_readConstants 173 = .ok (.aload_n 0, 1) := by decide +kernel
theorem d_Mo_readConstants_174 : decode b_Mo_readConstants 174 = .ok (.dup, 1) := by decide +kernel
theorem d_Mo_readConstants_175 : decode b_Mo_readConstants 175 = .ok (.getfield 104, 3) := by decide +kernel
theorem d_Mo_readConstants_178 : decode b_Mo_readConstants 178 = .ok (.iload 7, 2) := by decide +kernel
theorem d_Mo_readConstants_180 : decode b_Mo_readConstants 180 = .ok (.iadd, 1) := by decide +kernel
theorem d_Mo_readConstants_181 : decode b_Mo_readConstants 181 = .ok (.putfield 104, 3) := by decide +kernel
theorem d_Mo_readConstants_184 : decode b_Mo_readConstants 184 = .ok (.aload_n 0, 1) := by decide +kernel
theorem d_Mo_readConstants_185 : decode b_Mo_readConstants 185 = .ok (.getfield 21, 3) := by decide +kernel
theorem d_Mo_readConstants_188 : decode b_Mo_readConstants 188 = .ok (.ifCond .ne 25, 3) := by decide +kernel
theorem d_Mo_readConstants_191 : decode b_Mo_readConstants 191 = .ok (.aload_n 0, 1) := by decide +kernel
theorem d_Mo_readConstants_192 : decode b_Mo_readConstants 192 = .ok (.getfield 82, 3) := by decide +kernel
theorem d_Mo_readConstants_195 : decode b_Mo_readConstants 195 = .ok (.aload_n 0, 1) := by decide +kernel
theorem d_Mo_readConstants_196 : decode b_Mo_readConstants 196 = .ok (.dup, 1) := by decide +kernel
theorem d_Mo_readConstants_197 : decode b_Mo_readConstants 197 = .ok (.getfield 95, 3) := by decide +kernel
theorem d_Mo_readConstants_200 : decode b_Mo_readConstants 200 = .ok (.dup_x1, 1) := by decide +kernel
theorem d_Mo_readConstants_201 : decode b_Mo_readConstants 201 = .ok (.iconst 1, 1) := by decide +kernel
theorem d_Mo_readConstants_202 : decode b_Mo_readConstants 202 = .ok (.iadd, 1) := by decide +kernel
theorem d_Mo_readConstants_203 : decode b_Mo_readConstants 203 = .ok (.putfield 95, 3) := by decide +kernel
theorem d_Mo_readConstants_206 : decode b_Mo_readConstants 206 = .ok (.iload 4, 2) := by decide +kernel
theorem d_Mo_readConstants_208 : decode b_Mo_readConstants 208 = .ok (.lload 5, 2) := by decide +kernel
theorem d_Mo_readConstants_210 : decode b_Mo_readConstants 210 = .ok (.invokevirtual 470, 3) := by decide +kernel
theorem d_Mo_readConstants_213 : decode b_Mo_readConstants 213 = .ok (.iinc 3 1, 3) := by decide +kernel
theorem d_Mo_readConstants_216 : decode b_Mo_readConstants 216 = .ok (.goto (-190), 3) := by decide +kernel
theorem d_Mo_readConstants_219 : decode b_Mo_readConstants 219 = .ok (.return_, 1) := by decide +kernel
abbrev b_Va_set : ByteArray := prog_16_method_3_code
def y_Va_set : MethodName := ⟨R_Va, "set", "(IIJ)V"⟩
abbrev w_Va_set : List Cond := .code y_Va_set b_Va_set 5 none :: wA
theorem k_Va_set : Cond.code y_Va_set b_Va_set 5 none ∈ wA := kinm (show _ ∈ tables_1 from (List.mem_append_right _ (List.mem_append_right _ (List.mem_append_right _ (List.mem_append_right _ (List.mem_append_right _ (List.mem_append_right _ (List.mem_append_right _ (List.mem_append_right _ (List.mem_append_right _ (List.mem_append_right _ (List.mem_append_left _ (List.mem_of_getElem? (l := tables_1_11) (i := 165) (by decide +kernel)))))))))))))) (by decide +kernel)
theorem d_Va_set_0 : decode b_Va_set 0 = .ok (.aload_n 0, 1) := by decide +kernel
theorem d_Va_set_1 : decode b_Va_set 1 = .ok (.getfield 13, 3) := by decide +kernel
theorem d_Va_set_4 : decode b_Va_set 4 = .ok (.iload_n 1, 1) := by decide +kernel
theorem d_Va_set_5 : decode b_Va_set 5 = .ok (.iload_n 2, 1) := by decide +kernel
theorem d_Va_set_6 : decode b_Va_set 6 = .ok (.i2b, 1) := by decide +kernel
theorem d_Va_set_7 : decode b_Va_set 7 = .ok (.bastore, 1) := by decide +kernel
theorem d_Va_set_8 : decode b_Va_set 8 = .ok (.aload_n 0, 1) := by decide +kernel
theorem d_Va_set_9 : decode b_Va_set 9 = .ok (.getfield 17, 3) := by decide +kernel
theorem d_Va_set_12 : decode b_Va_set 12 = .ok (.iload_n 1, 1) := by decide +kernel
theorem d_Va_set_13 : decode b_Va_set 13 = .ok (.lload_n 3, 1) := by decide +kernel
theorem d_Va_set_14 : decode b_Va_set 14 = .ok (.lastore, 1) := by decide +kernel
theorem d_Va_set_15 : decode b_Va_set 15 = .ok (.return_, 1) := by decide +kernel
theorem kw_31 : Cond.fieldLink R_Va 13 "LuaMachineModel$Values" "k" "[B" ∈ wA := kinm (show _ ∈ tables_1 from (List.mem_append_right _ (List.mem_append_right _ (List.mem_append_right _ (List.mem_append_right _ (List.mem_append_right _ (List.mem_append_right _ (List.mem_append_right _ (List.mem_append_right _ (List.mem_append_left _ (List.mem_of_getElem? (l := tables_1_9) (i := 122) (by decide +kernel)))))))))))) (by decide +kernel)
theorem kw_32 : Cond.fieldLink R_Va 17 "LuaMachineModel$Values" "v" "[J" ∈ wA := kinm (show _ ∈ tables_1 from (List.mem_append_right _ (List.mem_append_right _ (List.mem_append_right _ (List.mem_append_right _ (List.mem_append_right _ (List.mem_append_right _ (List.mem_append_right _ (List.mem_append_right _ (List.mem_append_left _ (List.mem_of_getElem? (l := tables_1_9) (i := 124) (by decide +kernel)))))))))))) (by decide +kernel)
theorem kw_33 : Cond.instanceMethod y_Va_set ∈ wA := kinm (show _ ∈ tables_1 from (List.mem_append_right _ (List.mem_append_right _ (List.mem_append_right _ (List.mem_append_right _ (List.mem_append_right _ (List.mem_append_right _ (List.mem_append_right _ (List.mem_append_right _ (List.mem_append_right _ (List.mem_append_right _ (List.mem_append_left _ (List.mem_of_getElem? (l := tables_1_11) (i := 163) (by decide +kernel)))))))))))))) (by decide +kernel)
theorem kw_34 : Cond.selects R_Va y_Va_set y_Va_set ∈ wA := kinm (show _ ∈ tables_1 from (List.mem_append_right _ (List.mem_append_right _ (List.mem_append_right _ (List.mem_append_right _ (List.mem_append_right _ (List.mem_append_right _ (List.mem_append_right _ (List.mem_append_right _ (List.mem_append_right _ (List.mem_append_right _ (List.mem_append_left _ (List.mem_of_getElem? (l := tables_1_11) (i := 164) (by decide +kernel)))))))))))))) (by decide +kernel)
theorem kw_35 : Cond.initialized R_Va ∈ wA := kinm (show _ ∈ tables_1 from (List.mem_append_left _ (List.mem_of_getElem? (l := tables_1_1) (i := 10) (by decide +kernel)))) (by decide +kernel)
def M_Va_set (l0r : Nat) (l0 : Int32) (l1 : Int32) (l2 : Int32) (l3 : Int64) : M (Unit) :=
  oB (oSI (l0r + 1) (lnI (l0r + 1)) l0 l1 l2.toInt8.toInt32.toInt8.toInt32) fun _ =>
  oB (oSL (l0r + 2) (lnI (l0r + 2)) l0 l1 l3) fun _ =>
  oR ()

theorem cv_Va_set : CV y_Va_set b_Va_set 5 none 3 := ⟨kw_33, kw_34, kw_35, k_Va_set, by decide +kernel⟩
theorem ct_Va_set {l : Launch} {P : PP} {q : PL} {s s' : S1} {l0r : Nat} {l0 : Int32} {l1 : Int32} {l2 : Int32} {l3 : Int64} (hp0 : VOK l0r l0) {r : Unit} (h : M_Va_set l0r l0 l1 l2 l3 s = some (r, s')) : Ct l y_Va_set b_Va_set 5 none 0 0 P q s [.ref (q.1 l0r l0), .int l1, .int l2, .long l3] none q s' := by
  refine ct_of (by decide) (Nat.le_of_ble_eq_true rfl) fun X ls eP el g hR hl => ?_
  have hR : Rt X q ((r, s') : Unit × S1).2 none := hR
  have hl : lv_has ls 5 [(0, .ref (q.1 l0r l0)), (1, .int l1), (2, .int l2), (3, .long l3)] := hl
  generalize (r, s') = o at h hR
  unfold M_Va_set at h
  refine ww_aload_n (pc := 0) g.1 d_Va_set_0 rfl (lv_at hl 0 rfl) ?_
  refine ww_gR (pc := 1) g (k := 0) (cl_Va hp0) (vok_p hp0).1 (by rw [(vok_f hp0).1.2.2]; decide) (Or.inl kw_31) (f := (128 * l0r + 0)) (t := l0r + 1) rfl (vok_f hp0).2.1.1 (vok_f hp0).2.1.2 d_Va_set_1 ?_
  refine ww_iload_n (pc := 4) g.1 d_Va_set_4 rfl (lv_at hl 1 rfl) ?_
  refine ww_iload_n (pc := 5) g.1 d_Va_set_5 rfl (lv_at hl 2 rfl) ?_
  refine ww_i2b (pc := 6) g.1 (v := l2.toInt8.toInt32) d_Va_set_6 rfl ?_
  refine ww_sb (pc := 7) g (vok_p hp0).2.1 (vok_f hp0).2.2.2.2.1 (vok_n hp0).1 d_Va_set_7 h fun s _ h => ?_
  refine ww_aload_n (pc := 8) g.1 d_Va_set_8 rfl (lv_at hl 0 rfl) ?_
  refine ww_gR (pc := 9) g (k := 1) (cl_Va hp0) (vok_p hp0).1 (by rw [(vok_f hp0).1.2.2]; decide) (Or.inl kw_32) (f := (128 * l0r + 1)) (t := l0r + 2) rfl (vok_f hp0).2.2.1.1 (vok_f hp0).2.2.1.2 d_Va_set_9 ?_
  refine ww_iload_n (pc := 12) g.1 d_Va_set_12 rfl (lv_at hl 1 rfl) ?_
  refine ww_lload_n (pc := 13) g.1 d_Va_set_13 rfl (lv_at hl 3 rfl) ?_
  refine ww_sl (pc := 14) g (vok_p hp0).2.2 (vok_f hp0).2.2.2.2.2 (vok_n hp0).2 d_Va_set_14 h fun s _ h => ?_
  exact ww_vretH (pc := 15) g h hR d_Va_set_15

abbrev b_Mo_lookOver : ByteArray := prog_14_method_20_code
def y_Mo_lookOver : MethodName := ⟨R_Mo, "lookOver", "()V"⟩
abbrev w_Mo_lookOver : List Cond := .code y_Mo_lookOver b_Mo_lookOver 3 none :: wA
theorem k_Mo_lookOver : Cond.code y_Mo_lookOver b_Mo_lookOver 3 none ∈ wA := kinm (show _ ∈ tables_1 from (List.mem_append_right _ (List.mem_append_right _ (List.mem_append_right _ (List.mem_append_right _ (List.mem_append_right _ (List.mem_append_right _ (List.mem_append_right _ (List.mem_append_right _ (List.mem_append_right _ (List.mem_append_right _ (List.mem_append_left _ (List.mem_of_getElem? (l := tables_1_11) (i := 169) (by decide +kernel)))))))))))))) (by decide +kernel)
theorem d_Mo_lookOver_0 : decode b_Mo_lookOver 0 = .ok (.iconst 0, 1) := by decide +kernel
theorem d_Mo_lookOver_1 : decode b_Mo_lookOver 1 = .ok (.istore_n 1, 1) := by decide +kernel
theorem d_Mo_lookOver_2 : decode b_Mo_lookOver 2 = .ok (.iload_n 1, 1) := by decide +kernel
theorem d_Mo_lookOver_3 : decode b_Mo_lookOver 3 = .ok (.aload_n 0, 1) := by decide +kernel
theorem d_Mo_lookOver_4 : decode b_Mo_lookOver 4 = .ok (.getfield 89, 3) := by decide +kernel
theorem d_Mo_lookOver_7 : decode b_Mo_lookOver 7 = .ok (.if_icmp .ge 70, 3) := by decide +kernel
theorem d_Mo_lookOver_10 : decode b_Mo_lookOver 10 = .ok (.aload_n 0, 1) := by decide +kernel
theorem d_Mo_lookOver_11 : decode b_Mo_lookOver 11 = .ok (.getfield 21, 3) := by decide +kernel
theorem d_Mo_lookOver_14 : decode b_Mo_lookOver 14 = .ok (.ifCond .ne 63, 3) := by decide +kernel
theorem d_Mo_lookOver_17 : decode b_Mo_lookOver 17 = .ok (.iconst 0, 1) := by decide +kernel
theorem d_Mo_lookOver_18 : decode b_Mo_lookOver 18 = .ok (.istore_n 2, 1) := by decide +kernel
theorem d_Mo_lookOver_19 : decode b_Mo_lookOver 19 = .ok (.iload_n 2, 1) := by decide +kernel
theorem d_Mo_lookOver_20 : decode b_Mo_lookOver 20 = .ok (.aload_n 0, 1) := by decide +kernel
theorem d_Mo_lookOver_21 : decode b_Mo_lookOver 21 = .ok (.getfield 56, 3) := by decide +kernel
theorem d_Mo_lookOver_24 : decode b_Mo_lookOver 24 = .ok (.iload_n 1, 1) := by decide +kernel
theorem d_Mo_lookOver_25 : decode b_Mo_lookOver 25 = .ok (.iaload, 1) := by decide +kernel
theorem d_Mo_lookOver_26 : decode b_Mo_lookOver 26 = .ok (.if_icmp .ge 45, 3) := by decide +kernel
theorem d_Mo_lookOver_29 : decode b_Mo_lookOver 29 = .ok (.aload_n 0, 1) := by decide +kernel
theorem d_Mo_lookOver_30 : decode b_Mo_lookOver 30 = .ok (.getfield 21, 3) := by decide +kernel
theorem d_Mo_lookOver_33 : decode b_Mo_lookOver 33 = .ok (.ifCond .ne 38, 3) := by decide +kernel
theorem d_Mo_lookOver_36 : decode b_Mo_lookOver 36 = .ok (.aload_n 0, 1) := by decide +kernel
theorem d_Mo_lookOver_37 : decode b_Mo_lookOver 37 = .ok (.iload_n 1, 1) := by decide +kernel
theorem d_Mo_lookOver_38 : decode b_Mo_lookOver 38 = .ok (.iload_n 2, 1) := by decide +kernel
theorem d_Mo_lookOver_39 : decode b_Mo_lookOver 39 = .ok (.invokevirtual 485, 3) := by decide +kernel
theorem d_Mo_lookOver_42 : decode b_Mo_lookOver 42 = .ok (.ifCond .ne 23, 3) := by decide +kernel
theorem d_Mo_lookOver_45 : decode b_Mo_lookOver 45 = .ok (.aload_n 0, 1) := by decide +kernel
theorem d_Mo_lookOver_46 : decode b_Mo_lookOver 46 = .ok (.bipush 6, 2) := by decide +kernel
theorem d_Mo_lookOver_48 : decode b_Mo_lookOver 48 = .ok (.aload_n 0, 1) := by decide +kernel
theorem d_Mo_lookOver_49 : decode b_Mo_lookOver 49 = .ok (.getfield 74, 3) := by decide +kernel
theorem d_Mo_lookOver_52 : decode b_Mo_lookOver 52 = .ok (.aload_n 0, 1) := by decide +kernel
theorem d_Mo_lookOver_53 : decode b_Mo_lookOver 53 = .ok (.getfield 53, 3) := by decide +kernel
theorem d_Mo_lookOver_56 : decode b_Mo_lookOver 56 = .ok (.iload_n 1, 1) := by decide +kernel
theorem d_Mo_lookOver_57 : decode b_Mo_lookOver 57 = .ok (.iaload, 1) := by decide +kernel
theorem d_Mo_lookOver_58 : decode b_Mo_lookOver 58 = .ok (.iload_n 2, 1) := by decide +kernel
theorem d_Mo_lookOver_59 : decode b_Mo_lookOver 59 = .ok (.iadd, 1) := by decide +kernel
theorem d_Mo_lookOver_60 : decode b_Mo_lookOver 60 = .ok (.iaload, 1) := by decide +kernel
theorem d_Mo_lookOver_61 : decode b_Mo_lookOver 61 = .ok (.invokevirtual 449, 3) := by decide +kernel
theorem d_Mo_lookOver_64 : decode b_Mo_lookOver 64 = .ok (.pop, 1) := by decide +kernel
theorem d_Mo_lookOver_65 : decode b_Mo_lookOver 65 = .ok (.iinc 2 1, 3) := by decide +kernel
theorem d_Mo_lookOver_68 : decode b_Mo_lookOver 68 = .ok (.goto (-49), 3) := by decide +kernel
theorem d_Mo_lookOver_71 : decode b_Mo_lookOver 71 = .ok (.iinc 1 1, 3) := by decide +kernel
theorem d_Mo_lookOver_74 : decode b_Mo_lookOver 74 = .ok (.goto (-72), 3) := by decide +kernel
theorem d_Mo_lookOver_77 : decode b_Mo_lookOver 77 = .ok (.return_, 1) := by decide +kernel
abbrev b_Mo_formed : ByteArray := prog_14_method_24_code
def y_Mo_formed : MethodName := ⟨R_Mo, "formed", "(II)Z"⟩
abbrev w_Mo_formed : List Cond := .code y_Mo_formed b_Mo_formed 8 (some .boolean) :: wA
set_option maxRecDepth 20000 in
theorem k_Mo_formed : Cond.code y_Mo_formed b_Mo_formed 8 (some .boolean) ∈ wA := kinm (show _ ∈ tables_1 from (List.mem_append_right _ (List.mem_append_right _ (List.mem_append_right _ (List.mem_append_right _ (List.mem_append_right _ (List.mem_append_right _ (List.mem_append_right _ (List.mem_append_right _ (List.mem_append_right _ (List.mem_append_right _ (List.mem_append_left _ (List.mem_of_getElem? (l := tables_1_11) (i := 173) rfl))))))))))))) rfl
theorem d_Mo_formed_0 : decode b_Mo_formed 0 = .ok (.aload_n 0, 1) := by decide +kernel
theorem d_Mo_formed_1 : decode b_Mo_formed 1 = .ok (.iload_n 1, 1) := by decide +kernel
theorem d_Mo_formed_2 : decode b_Mo_formed 2 = .ok (.putfield 113, 3) := by decide +kernel
theorem d_Mo_formed_5 : decode b_Mo_formed 5 = .ok (.aload_n 0, 1) := by decide +kernel
theorem d_Mo_formed_6 : decode b_Mo_formed 6 = .ok (.aload_n 0, 1) := by decide +kernel
theorem d_Mo_formed_7 : decode b_Mo_formed 7 = .ok (.getfield 38, 3) := by decide +kernel
theorem d_Mo_formed_10 : decode b_Mo_formed 10 = .ok (.iload_n 1, 1) := by decide +kernel
theorem d_Mo_formed_11 : decode b_Mo_formed 11 = .ok (.iaload, 1) := by decide +kernel
theorem d_Mo_formed_12 : decode b_Mo_formed 12 = .ok (.putfield 110, 3) := by decide +kernel
theorem d_Mo_formed_15 : decode b_Mo_formed 15 = .ok (.aload_n 0, 1) := by decide +kernel
theorem d_Mo_formed_16 : decode b_Mo_formed 16 = .ok (.getfield 71, 3) := by decide +kernel
theorem d_Mo_formed_19 : decode b_Mo_formed 19 = .ok (.aload_n 0, 1) := by decide +kernel
theorem d_Mo_formed_20 : decode b_Mo_formed 20 = .ok (.getfield 53, 3) := by decide +kernel
theorem d_Mo_formed_23 : decode b_Mo_formed 23 = .ok (.iload_n 1, 1) := by decide +kernel
theorem d_Mo_formed_24 : decode b_Mo_formed 24 = .ok (.iaload, 1) := by decide +kernel
theorem d_Mo_formed_25 : decode b_Mo_formed 25 = .ok (.iload_n 2, 1) := by decide +kernel
theorem d_Mo_formed_26 : decode b_Mo_formed 26 = .ok (.iadd, 1) := by decide +kernel
theorem d_Mo_formed_27 : decode b_Mo_formed 27 = .ok (.iaload, 1) := by decide +kernel
theorem d_Mo_formed_28 : decode b_Mo_formed 28 = .ok (.istore_n 3, 1) := by decide +kernel
theorem d_Mo_formed_29 : decode b_Mo_formed 29 = .ok (.iload_n 3, 1) := by decide +kernel
theorem d_Mo_formed_30 : decode b_Mo_formed 30 = .ok (.invokestatic 475, 3) := by decide +kernel
theorem d_Mo_formed_33 : decode b_Mo_formed 33 = .ok (.istore 4, 2) := by decide +kernel
theorem d_Mo_formed_35 : decode b_Mo_formed 35 = .ok (.iload_n 2, 1) := by decide +kernel
theorem d_Mo_formed_36 : decode b_Mo_formed 36 = .ok (.iconst 1, 1) := by decide +kernel
theorem d_Mo_formed_37 : decode b_Mo_formed 37 = .ok (.iadd, 1) := by decide +kernel
theorem d_Mo_formed_38 : decode b_Mo_formed 38 = .ok (.aload_n 0, 1) := by decide +kernel
theorem d_Mo_formed_39 : decode b_Mo_formed 39 = .ok (.getfield 56, 3) := by decide +kernel
theorem d_Mo_formed_42 : decode b_Mo_formed 42 = .ok (.iload_n 1, 1) := by decide +kernel
theorem d_Mo_formed_43 : decode b_Mo_formed 43 = .ok (.iaload, 1) := by decide +kernel
theorem d_Mo_formed_44 : decode b_Mo_formed 44 = .ok (.if_icmp .ge 7, 3) := by decide +kernel
theorem d_Mo_formed_47 : decode b_Mo_formed 47 = .ok (.iconst 1, 1) := by decide +kernel
theorem d_Mo_formed_48 : decode b_Mo_formed 48 = .ok (.goto 4, 3) := by decide +kernel
theorem d_Mo_formed_51 : decode b_Mo_formed 51 = .ok (.iconst 0, 1) := by decide +kernel
theorem d_Mo_formed_52 : decode b_Mo_formed 52 = .ok (.istore 5, 2) := by decide +kernel
theorem d_Mo_formed_54 : decode b_Mo_formed 54 = .ok (.iload 5, 2) := by decide +kernel
theorem d_Mo_formed_56 : decode b_Mo_formed 56 = .ok (.ifCond .ne 26, 3) := by decide +kernel
theorem d_Mo_formed_59 : decode b_Mo_formed 59 = .ok (.iload 4, 2) := by decide +kernel
theorem d_Mo_formed_61 : decode b_Mo_formed 61 = .ok (.bipush 30, 2) := by decide +kernel
theorem d_Mo_formed_63 : decode b_Mo_formed 63 = .ok (.if_icmp .eq 19, 3) := by decide +kernel
theorem d_Mo_formed_66 : decode b_Mo_formed 66 = .ok (.iload 4, 2) := by decide +kernel
theorem d_Mo_formed_68 : decode b_Mo_formed 68 = .ok (.bipush 37, 2) := by decide +kernel
theorem d_Mo_formed_70 : decode b_Mo_formed 70 = .ok (.if_icmp .eq 12, 3) := by decide +kernel
theorem d_Mo_formed_73 : decode b_Mo_formed 73 = .ok (.iload 4, 2) := by decide +kernel
theorem d_Mo_formed_75 : decode b_Mo_formed 75 = .ok (.bipush 38, 2) := by decide +kernel
theorem d_Mo_formed_77 : decode b_Mo_formed 77 = .ok (.if_icmp .eq 5, 3) := by decide +kernel
theorem d_Mo_formed_80 : decode b_Mo_formed 80 = .ok (.iconst 0, 1) := by decide +kernel
theorem d_Mo_formed_81 : decode b_Mo_formed 81 = .ok (.ireturn, 1) := by decide +kernel
theorem d_Mo_formed_82 : decode b_Mo_formed 82 = .ok (.iload 5, 2) := by decide +kernel
theorem d_Mo_formed_84 : decode b_Mo_formed 84 = .ok (.ifCond .eq 21, 3) := by decide +kernel
theorem d_Mo_formed_87 : decode b_Mo_formed 87 = .ok (.aload_n 0, 1) := by decide +kernel
theorem d_Mo_formed_88 : decode b_Mo_formed 88 = .ok (.getfield 71, 3) := by decide +kernel
theorem d_Mo_formed_91 : decode b_Mo_formed 91 = .ok (.aload_n 0, 1) := by decide +kernel
theorem d_Mo_formed_92 : decode b_Mo_formed 92 = .ok (.getfield 53, 3) := by decide +kernel
theorem d_Mo_formed_95 : decode b_Mo_formed 95 = .ok (.iload_n 1, 1) := by decide +kernel
theorem d_Mo_formed_96 : decode b_Mo_formed 96 = .ok (.iaload, 1) := by decide +kernel
theorem d_Mo_formed_97 : decode b_Mo_formed 97 = .ok (.iload_n 2, 1) := by decide +kernel
theorem d_Mo_formed_98 : decode b_Mo_formed 98 = .ok (.iadd, 1) := by decide +kernel
theorem d_Mo_formed_99 : decode b_Mo_formed 99 = .ok (.iconst 1, 1) := by decide +kernel
theorem d_Mo_formed_100 : decode b_Mo_formed 100 = .ok (.iadd, 1) := by decide +kernel
theorem d_Mo_formed_101 : decode b_Mo_formed 101 = .ok (.iaload, 1) := by decide +kernel
theorem d_Mo_formed_102 : decode b_Mo_formed 102 = .ok (.goto 4, 3) := by decide +kernel
theorem d_Mo_formed_105 : decode b_Mo_formed 105 = .ok (.iconst 0, 1) := by decide +kernel
theorem d_Mo_formed_106 : decode b_Mo_formed 106 = .ok (.istore 6, 2) := by decide +kernel
theorem d_Mo_formed_108 : decode b_Mo_formed 108 = .ok (.iload_n 3, 1) := by decide +kernel
theorem d_Mo_formed_109 : decode b_Mo_formed 109 = .ok (.invokestatic 492, 3) := by decide +kernel
theorem d_Mo_formed_112 : decode b_Mo_formed 112 = .ok (.ifCond .eq 49, 3) := by decide +kernel
theorem d_Mo_formed_115 : decode b_Mo_formed 115 = .ok (.iload 6, 2) := by decide +kernel
theorem d_Mo_formed_117 : decode b_Mo_formed 117 = .ok (.invokestatic 475, 3) := by decide +kernel
theorem d_Mo_formed_120 : decode b_Mo_formed 120 = .ok (.bipush 38, 2) := by decide +kernel
theorem d_Mo_formed_122 : decode b_Mo_formed 122 = .ok (.if_icmp .ne 11, 3) := by decide +kernel
theorem d_Mo_formed_125 : decode b_Mo_formed 125 = .ok (.iload 6, 2) := by decide +kernel
theorem d_Mo_formed_127 : decode b_Mo_formed 127 = .ok (.invokestatic 495, 3) := by decide +kernel
theorem d_Mo_formed_130 : decode b_Mo_formed 130 = .ok (.goto 10, 3) := by decide +kernel
theorem d_Mo_formed_133 : decode b_Mo_formed 133 = .ok (.iload 6, 2) := by decide +kernel
theorem d_Mo_formed_135 : decode b_Mo_formed 135 = .ok (.invokestatic 495, 3) := by decide +kernel
theorem d_Mo_formed_138 : decode b_Mo_formed 138 = .ok (.iconst 1, 1) := by decide +kernel
theorem d_Mo_formed_139 : decode b_Mo_formed 139 = .ok (.iadd, 1) := by decide +kernel
theorem d_Mo_formed_140 : decode b_Mo_formed 140 = .ok (.istore 7, 2) := by decide +kernel
theorem d_Mo_formed_142 : decode b_Mo_formed 142 = .ok (.iload 6, 2) := by decide +kernel
theorem d_Mo_formed_144 : decode b_Mo_formed 144 = .ok (.invokestatic 488, 3) := by decide +kernel
theorem d_Mo_formed_147 : decode b_Mo_formed 147 = .ok (.ifCond .eq 12, 3) := by decide +kernel
theorem d_Mo_formed_150 : decode b_Mo_formed 150 = .ok (.iload 7, 2) := by decide +kernel
theorem d_Mo_formed_152 : decode b_Mo_formed 152 = .ok (.iload_n 3, 1) := by decide +kernel
theorem d_Mo_formed_153 : decode b_Mo_formed 153 = .ok (.invokestatic 495, 3) := by decide +kernel
theorem d_Mo_formed_156 : decode b_Mo_formed 156 = .ok (.if_icmp .le 5, 3) := by decide +kernel
theorem d_Mo_formed_159 : decode b_Mo_formed 159 = .ok (.iconst 0, 1) := by decide +kernel
theorem d_Mo_formed_160 : decode b_Mo_formed 160 = .ok (.ireturn, 1) := by decide +kernel
theorem d_Mo_formed_161 : decode b_Mo_formed 161 = .ok (.iload_n 3, 1) := by decide +kernel
theorem d_Mo_formed_162 : decode b_Mo_formed 162 = .ok (.invokestatic 488, 3) := by decide +kernel
theorem d_Mo_formed_165 : decode b_Mo_formed 165 = .ok (.ifCond .eq 30, 3) := by decide +kernel
theorem d_Mo_formed_168 : decode b_Mo_formed 168 = .ok (.iload_n 2, 1) := by decide +kernel
theorem d_Mo_formed_169 : decode b_Mo_formed 169 = .ok (.ifCond .eq 24, 3) := by decide +kernel
theorem d_Mo_formed_172 : decode b_Mo_formed 172 = .ok (.aload_n 0, 1) := by decide +kernel
theorem d_Mo_formed_173 : decode b_Mo_formed 173 = .ok (.getfield 71, 3) := by decide +kernel
theorem d_Mo_formed_176 : decode b_Mo_formed 176 = .ok (.aload_n 0, 1) := by decide +kernel
theorem d_Mo_formed_177 : decode b_Mo_formed 177 = .ok (.getfield 53, 3) := by decide +kernel
theorem d_Mo_formed_180 : decode b_Mo_formed 180 = .ok (.iload_n 1, 1) := by decide +kernel
theorem d_Mo_formed_181 : decode b_Mo_formed 181 = .ok (.iaload, 1) := by decide +kernel
theorem d_Mo_formed_182 : decode b_Mo_formed 182 = .ok (.iload_n 2, 1) := by decide +kernel
theorem d_Mo_formed_183 : decode b_Mo_formed 183 = .ok (.iadd, 1) := by decide +kernel
theorem d_Mo_formed_184 : decode b_Mo_formed 184 = .ok (.iconst 1, 1) := by decide +kernel
theorem d_Mo_formed_185 : decode b_Mo_formed 185 = .ok (.isub, 1) := by decide +kernel
theorem d_Mo_formed_186 : decode b_Mo_formed 186 = .ok (.iaload, 1) := by decide +kernel
theorem d_Mo_formed_187 : decode b_Mo_formed 187 = .ok (.invokestatic 492, 3) := by decide +kernel
theorem d_Mo_formed_190 : decode b_Mo_formed 190 = .ok (.ifCond .ne 5, 3) := by decide +kernel
theorem d_Mo_formed_193 : decode b_Mo_formed 193 = .ok (.iconst 0, 1) := by decide +kernel
theorem d_Mo_formed_194 : decode b_Mo_formed 194 = .ok (.ireturn, 1) := by decide +kernel
theorem d_Mo_formed_195 : decode b_Mo_formed 195 = .ok (.iload 4, 2) := by decide +kernel
theorem d_Mo_formed_197 : decode b_Mo_formed 197 = .ok (.bipush 31, 2) := by decide +kernel
theorem d_Mo_formed_199 : decode b_Mo_formed 199 = .ok (.if_icmp .lt 32, 3) := by decide +kernel
theorem d_Mo_formed_202 : decode b_Mo_formed 202 = .ok (.iload 4, 2) := by decide +kernel
theorem d_Mo_formed_204 : decode b_Mo_formed 204 = .ok (.bipush 35, 2) := by decide +kernel
theorem d_Mo_formed_206 : decode b_Mo_formed 206 = .ok (.if_icmp .gt 25, 3) := by decide +kernel
theorem d_Mo_formed_209 : decode b_Mo_formed 209 = .ok (.iload 6, 2) := by decide +kernel
theorem d_Mo_formed_211 : decode b_Mo_formed 211 = .ok (.invokestatic 475, 3) := by decide +kernel
theorem d_Mo_formed_214 : decode b_Mo_formed 214 = .ok (.bipush 30, 2) := by decide +kernel
theorem d_Mo_formed_216 : decode b_Mo_formed 216 = .ok (.if_icmp .ne 13, 3) := by decide +kernel
theorem d_Mo_formed_219 : decode b_Mo_formed 219 = .ok (.aload_n 0, 1) := by decide +kernel
theorem d_Mo_formed_220 : decode b_Mo_formed 220 = .ok (.iload_n 2, 1) := by decide +kernel
theorem d_Mo_formed_221 : decode b_Mo_formed 221 = .ok (.iconst 2, 1) := by decide +kernel
theorem d_Mo_formed_222 : decode b_Mo_formed 222 = .ok (.iadd, 1) := by decide +kernel
theorem d_Mo_formed_223 : decode b_Mo_formed 223 = .ok (.invokevirtual 498, 3) := by decide +kernel
theorem d_Mo_formed_226 : decode b_Mo_formed 226 = .ok (.ifCond .ne 5, 3) := by decide +kernel
theorem d_Mo_formed_229 : decode b_Mo_formed 229 = .ok (.iconst 0, 1) := by decide +kernel
theorem d_Mo_formed_230 : decode b_Mo_formed 230 = .ok (.ireturn, 1) := by decide +kernel
theorem d_Mo_formed_231 : decode b_Mo_formed 231 = .ok (.aload_n 0, 1) := by decide +kernel
theorem d_Mo_formed_232 : decode b_Mo_formed 232 = .ok (.iload_n 1, 1) := by decide +kernel
theorem d_Mo_formed_233 : decode b_Mo_formed 233 = .ok (.iload_n 2, 1) := by decide +kernel
theorem d_Mo_formed_234 : decode b_Mo_formed 234 = .ok (.iload_n 3, 1) := by decide +kernel
theorem d_Mo_formed_235 : decode b_Mo_formed 235 = .ok (.iload 4, 2) := by decide +kernel
theorem d_Mo_formed_237 : decode b_Mo_formed 237 = .ok (.invokevirtual 501, 3) := by decide +kernel
theorem d_Mo_formed_240 : decode b_Mo_formed 240 = .ok (.ireturn, 1) := by decide +kernel
abbrev b_Mo_op : ByteArray := prog_14_method_12_code
def y_Mo_op : MethodName := ⟨R_Mo, "op", "(I)I"⟩
abbrev w_Mo_op : List Cond := .code y_Mo_op b_Mo_op 1 (some .int) :: wA
theorem k_Mo_op : Cond.code y_Mo_op b_Mo_op 1 (some .int) ∈ wA := kinm (show _ ∈ tables_1 from (List.mem_append_right _ (List.mem_append_right _ (List.mem_append_right _ (List.mem_append_right _ (List.mem_append_right _ (List.mem_append_right _ (List.mem_append_right _ (List.mem_append_right _ (List.mem_append_right _ (List.mem_append_right _ (List.mem_append_left _ (List.mem_of_getElem? (l := tables_1_11) (i := 176) (by decide +kernel)))))))))))))) (by decide +kernel)
theorem d_Mo_op_0 : decode b_Mo_op 0 = .ok (.iload_n 0, 1) := by decide +kernel
theorem d_Mo_op_1 : decode b_Mo_op 1 = .ok (.bipush 63, 2) := by decide +kernel
theorem d_Mo_op_3 : decode b_Mo_op 3 = .ok (.iand, 1) := by decide +kernel
theorem d_Mo_op_4 : decode b_Mo_op 4 = .ok (.ireturn, 1) := by decide +kernel
theorem kw_36 : Cond.static y_Mo_op ∈ wA := kinm (show _ ∈ tables_1 from (List.mem_append_right _ (List.mem_append_right _ (List.mem_append_right _ (List.mem_append_right _ (List.mem_append_right _ (List.mem_append_right _ (List.mem_append_right _ (List.mem_append_right _ (List.mem_append_right _ (List.mem_append_right _ (List.mem_append_left _ (List.mem_of_getElem? (l := tables_1_11) (i := 175) (by decide +kernel)))))))))))))) (by decide +kernel)
def M_Mo_op (l0 : Int32) : M (Int32) :=
  oR (l0 &&& 63)

theorem cs_Mo_op : CS y_Mo_op b_Mo_op 1 (some .int) 1 := ⟨kw_36, kw_3, k_Mo_op, by decide +kernel⟩
theorem ct_Mo_op {l : Launch} {P : PP} {q : PL} {s s' : S1} {l0 : Int32} {r : Int32} (h : M_Mo_op l0 s = some (r, s')) : Ct l y_Mo_op b_Mo_op 1 (some .int) 0 0 P q s [.int l0] (some (.int r)) q s' := by
  refine ct_of (by decide) (Nat.le_of_ble_eq_true rfl) fun X ls eP el g hR hl => ?_
  have hR : Rt X q ((r, s') : Int32 × S1).2 (some (.int ((r, s') : Int32 × S1).1)) := hR
  have hl : lv_has ls 1 [(0, .int l0)] := hl
  generalize (r, s') = o at h hR
  unfold M_Mo_op at h
  refine ww_iload_n (pc := 0) g.1 d_Mo_op_0 rfl (lv_at hl 0 rfl) ?_
  refine ww_bipush (pc := 1) g.1 (v := 63) d_Mo_op_1 (by decide) ?_
  refine ww_iand (pc := 3) g.1 d_Mo_op_3 ?_
  exact ww_iretH (pc := 4) g h hR d_Mo_op_4

abbrev b_Mo_makes : ByteArray := prog_14_method_18_code
def y_Mo_makes : MethodName := ⟨R_Mo, "makes", "(I)Z"⟩
abbrev w_Mo_makes : List Cond := .code y_Mo_makes b_Mo_makes 1 (some .boolean) :: wA
theorem k_Mo_makes : Cond.code y_Mo_makes b_Mo_makes 1 (some .boolean) ∈ wA := kinm (show _ ∈ tables_1 from (List.mem_append_right _ (List.mem_append_right _ (List.mem_append_right _ (List.mem_append_right _ (List.mem_append_right _ (List.mem_append_right _ (List.mem_append_right _ (List.mem_append_right _ (List.mem_append_right _ (List.mem_append_right _ (List.mem_append_left _ (List.mem_of_getElem? (l := tables_1_11) (i := 179) (by decide +kernel)))))))))))))) (by decide +kernel)
theorem d_Mo_makes_0 : decode b_Mo_makes 0 = .ok (.iload_n 0, 1) := by decide +kernel
theorem d_Mo_makes_1 : decode b_Mo_makes 1 = .ok (.invokestatic 475, 3) := by decide +kernel
theorem d_Mo_makes_4 : decode b_Mo_makes 4 = .ok (.bipush 36, 2) := by decide +kernel
theorem d_Mo_makes_6 : decode b_Mo_makes 6 = .ok (.if_icmp .ne 10, 3) := by decide +kernel
theorem d_Mo_makes_9 : decode b_Mo_makes 9 = .ok (.iload_n 0, 1) := by decide +kernel
theorem d_Mo_makes_10 : decode b_Mo_makes 10 = .ok (.invokestatic 479, 3) := by decide +kernel
theorem d_Mo_makes_13 : decode b_Mo_makes 13 = .ok (.ifCond .eq 19, 3) := by decide +kernel
theorem d_Mo_makes_16 : decode b_Mo_makes 16 = .ok (.iload_n 0, 1) := by decide +kernel
theorem d_Mo_makes_17 : decode b_Mo_makes 17 = .ok (.invokestatic 475, 3) := by decide +kernel
theorem d_Mo_makes_20 : decode b_Mo_makes 20 = .ok (.bipush 45, 2) := by decide +kernel
theorem d_Mo_makes_22 : decode b_Mo_makes 22 = .ok (.if_icmp .ne 14, 3) := by decide +kernel
theorem d_Mo_makes_25 : decode b_Mo_makes 25 = .ok (.iload_n 0, 1) := by decide +kernel
theorem d_Mo_makes_26 : decode b_Mo_makes 26 = .ok (.invokestatic 482, 3) := by decide +kernel
theorem d_Mo_makes_29 : decode b_Mo_makes 29 = .ok (.ifCond .ne 7, 3) := by decide +kernel
theorem d_Mo_makes_32 : decode b_Mo_makes 32 = .ok (.iconst 1, 1) := by decide +kernel
theorem d_Mo_makes_33 : decode b_Mo_makes 33 = .ok (.goto 4, 3) := by decide +kernel
theorem d_Mo_makes_36 : decode b_Mo_makes 36 = .ok (.iconst 0, 1) := by decide +kernel
theorem d_Mo_makes_37 : decode b_Mo_makes 37 = .ok (.ireturn, 1) := by decide +kernel
abbrev b_Mo_c : ByteArray := prog_14_method_14_code
def y_Mo_c : MethodName := ⟨R_Mo, "c", "(I)I"⟩
abbrev w_Mo_c : List Cond := .code y_Mo_c b_Mo_c 1 (some .int) :: wA
theorem k_Mo_c : Cond.code y_Mo_c b_Mo_c 1 (some .int) ∈ wA := kinm (show _ ∈ tables_1 from (List.mem_append_right _ (List.mem_append_right _ (List.mem_append_right _ (List.mem_append_right _ (List.mem_append_right _ (List.mem_append_right _ (List.mem_append_right _ (List.mem_append_right _ (List.mem_append_right _ (List.mem_append_right _ (List.mem_append_left _ (List.mem_of_getElem? (l := tables_1_11) (i := 182) (by decide +kernel)))))))))))))) (by decide +kernel)
theorem d_Mo_c_0 : decode b_Mo_c 0 = .ok (.iload_n 0, 1) := by decide +kernel
theorem d_Mo_c_1 : decode b_Mo_c 1 = .ok (.bipush 14, 2) := by decide +kernel
theorem d_Mo_c_3 : decode b_Mo_c 3 = .ok (.ishr, 1) := by decide +kernel
theorem d_Mo_c_4 : decode b_Mo_c 4 = .ok (.sipush 511, 3) := by decide +kernel
theorem d_Mo_c_7 : decode b_Mo_c 7 = .ok (.iand, 1) := by decide +kernel
theorem d_Mo_c_8 : decode b_Mo_c 8 = .ok (.ireturn, 1) := by decide +kernel
theorem kw_37 : Cond.static y_Mo_c ∈ wA := kinm (show _ ∈ tables_1 from (List.mem_append_right _ (List.mem_append_right _ (List.mem_append_right _ (List.mem_append_right _ (List.mem_append_right _ (List.mem_append_right _ (List.mem_append_right _ (List.mem_append_right _ (List.mem_append_right _ (List.mem_append_right _ (List.mem_append_left _ (List.mem_of_getElem? (l := tables_1_11) (i := 181) (by decide +kernel)))))))))))))) (by decide +kernel)
def M_Mo_c (l0 : Int32) : M (Int32) :=
  oR ((l0 >>> (14 &&& 31)) &&& 511)

theorem cs_Mo_c : CS y_Mo_c b_Mo_c 1 (some .int) 1 := ⟨kw_37, kw_3, k_Mo_c, by decide +kernel⟩
theorem ct_Mo_c {l : Launch} {P : PP} {q : PL} {s s' : S1} {l0 : Int32} {r : Int32} (h : M_Mo_c l0 s = some (r, s')) : Ct l y_Mo_c b_Mo_c 1 (some .int) 0 0 P q s [.int l0] (some (.int r)) q s' := by
  refine ct_of (by decide) (Nat.le_of_ble_eq_true rfl) fun X ls eP el g hR hl => ?_
  have hR : Rt X q ((r, s') : Int32 × S1).2 (some (.int ((r, s') : Int32 × S1).1)) := hR
  have hl : lv_has ls 1 [(0, .int l0)] := hl
  generalize (r, s') = o at h hR
  unfold M_Mo_c at h
  refine ww_iload_n (pc := 0) g.1 d_Mo_c_0 rfl (lv_at hl 0 rfl) ?_
  refine ww_bipush (pc := 1) g.1 (v := 14) d_Mo_c_1 (by decide) ?_
  refine ww_ishr (pc := 3) g.1 d_Mo_c_3 ?_
  refine ww_sipush (pc := 4) g.1 (v := 511) d_Mo_c_4 (by decide) ?_
  refine ww_iand (pc := 7) g.1 d_Mo_c_7 ?_
  exact ww_iretH (pc := 8) g h hR d_Mo_c_8

abbrev b_Mo_b : ByteArray := prog_14_method_15_code
def y_Mo_b : MethodName := ⟨R_Mo, "b", "(I)I"⟩
abbrev w_Mo_b : List Cond := .code y_Mo_b b_Mo_b 1 (some .int) :: wA
theorem k_Mo_b : Cond.code y_Mo_b b_Mo_b 1 (some .int) ∈ wA := kinm (show _ ∈ tables_1 from (List.mem_append_right _ (List.mem_append_right _ (List.mem_append_right _ (List.mem_append_right _ (List.mem_append_right _ (List.mem_append_right _ (List.mem_append_right _ (List.mem_append_right _ (List.mem_append_right _ (List.mem_append_right _ (List.mem_append_left _ (List.mem_of_getElem? (l := tables_1_11) (i := 185) (by decide +kernel)))))))))))))) (by decide +kernel)
theorem d_Mo_b_0 : decode b_Mo_b 0 = .ok (.iload_n 0, 1) := by decide +kernel
theorem d_Mo_b_1 : decode b_Mo_b 1 = .ok (.bipush 23, 2) := by decide +kernel
theorem d_Mo_b_3 : decode b_Mo_b 3 = .ok (.iushr, 1) := by decide +kernel
theorem d_Mo_b_4 : decode b_Mo_b 4 = .ok (.ireturn, 1) := by decide +kernel
theorem kw_38 : Cond.static y_Mo_b ∈ wA := kinm (show _ ∈ tables_1 from (List.mem_append_right _ (List.mem_append_right _ (List.mem_append_right _ (List.mem_append_right _ (List.mem_append_right _ (List.mem_append_right _ (List.mem_append_right _ (List.mem_append_right _ (List.mem_append_right _ (List.mem_append_right _ (List.mem_append_left _ (List.mem_of_getElem? (l := tables_1_11) (i := 184) (by decide +kernel)))))))))))))) (by decide +kernel)
def M_Mo_b (l0 : Int32) : M (Int32) :=
  oR (iushr l0 (23 : Int32))

theorem cs_Mo_b : CS y_Mo_b b_Mo_b 1 (some .int) 1 := ⟨kw_38, kw_3, k_Mo_b, by decide +kernel⟩
theorem ct_Mo_b {l : Launch} {P : PP} {q : PL} {s s' : S1} {l0 : Int32} {r : Int32} (h : M_Mo_b l0 s = some (r, s')) : Ct l y_Mo_b b_Mo_b 1 (some .int) 0 0 P q s [.int l0] (some (.int r)) q s' := by
  refine ct_of (by decide) (Nat.le_of_ble_eq_true rfl) fun X ls eP el g hR hl => ?_
  have hR : Rt X q ((r, s') : Int32 × S1).2 (some (.int ((r, s') : Int32 × S1).1)) := hR
  have hl : lv_has ls 1 [(0, .int l0)] := hl
  generalize (r, s') = o at h hR
  unfold M_Mo_b at h
  refine ww_iload_n (pc := 0) g.1 d_Mo_b_0 rfl (lv_at hl 0 rfl) ?_
  refine ww_bipush (pc := 1) g.1 (v := 23) d_Mo_b_1 (by decide) ?_
  refine ww_iushr (pc := 3) g.1 (v := iushr l0 (23 : Int32)) d_Mo_b_3 rfl ?_
  exact ww_iretH (pc := 4) g h hR d_Mo_b_4

