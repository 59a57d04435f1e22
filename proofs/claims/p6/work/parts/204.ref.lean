abbrev b_Mo_place : ByteArray := prog_14_method_45_code
def y_Mo_place : MethodName := ⟨R_Mo, "place", "(I)V"⟩
abbrev w_Mo_place : List Cond := .code y_Mo_place b_Mo_place 2 none :: wA
theorem k_Mo_place : Cond.code y_Mo_place b_Mo_place 2 none ∈ wA := kinm (show _ ∈ tables_1 from (List.mem_append_right _ (List.mem_append_right _ (List.mem_append_right _ (List.mem_append_right _ (List.mem_append_right _ (List.mem_append_right _ (List.mem_append_right _ (List.mem_append_right _ (List.mem_append_right _ (List.mem_append_right _ (List.mem_append_right _ (List.mem_append_left _ (List.mem_of_getElem? (l := tables_1_12) (i := 11) (by decide +kernel))))))))))))))) (by decide +kernel)
theorem d_Mo_place_0 : decode b_Mo_place 0 = .ok (.iload_n 1, 1) := by decide +kernel
theorem d_Mo_place_1 : decode b_Mo_place 1 = .ok (.ifCond .lt 12, 3) := by decide +kernel
theorem d_Mo_place_4 : decode b_Mo_place 4 = .ok (.aload_n 0, 1) := by decide +kernel
theorem d_Mo_place_5 : decode b_Mo_place 5 = .ok (.getfield 158, 3) := by decide +kernel
theorem d_Mo_place_8 : decode b_Mo_place 8 = .ok (.iload_n 1, 1) := by decide +kernel
theorem d_Mo_place_9 : decode b_Mo_place 9 = .ok (.baload, 1) := by decide +kernel
theorem d_Mo_place_10 : decode b_Mo_place 10 = .ok (.ifCond .eq 4, 3) := by decide +kernel
theorem d_Mo_place_13 : decode b_Mo_place 13 = .ok (.return_, 1) := by decide +kernel
theorem d_Mo_place_14 : decode b_Mo_place 14 = .ok (.aload_n 0, 1) := by decide +kernel
theorem d_Mo_place_15 : decode b_Mo_place 15 = .ok (.getfield 158, 3) := by decide +kernel
theorem d_Mo_place_18 : decode b_Mo_place 18 = .ok (.iload_n 1, 1) := by decide +kernel
theorem d_Mo_place_19 : decode b_Mo_place 19 = .ok (.iconst 1, 1) := by decide +kernel
theorem d_Mo_place_20 : decode b_Mo_place 20 = .ok (.bastore, 1) := by decide +kernel
theorem d_Mo_place_21 : decode b_Mo_place 21 = .ok (.aload_n 0, 1) := by decide +kernel
theorem d_Mo_place_22 : decode b_Mo_place 22 = .ok (.getfield 228, 3) := by decide +kernel
theorem d_Mo_place_25 : decode b_Mo_place 25 = .ok (.aload_n 0, 1) := by decide +kernel
theorem d_Mo_place_26 : decode b_Mo_place 26 = .ok (.dup, 1) := by decide +kernel
theorem d_Mo_place_27 : decode b_Mo_place 27 = .ok (.getfield 231, 3) := by decide +kernel
theorem d_Mo_place_30 : decode b_Mo_place 30 = .ok (.dup_x1, 1) := by decide +kernel
theorem d_Mo_place_31 : decode b_Mo_place 31 = .ok (.iconst 1, 1) := by decide +kernel
theorem d_Mo_place_32 : decode b_Mo_place 32 = .ok (.iadd, 1) := by decide +kernel
theorem d_Mo_place_33 : decode b_Mo_place 33 = .ok (.putfield 231, 3) := by decide +kernel
theorem d_Mo_place_36 : decode b_Mo_place 36 = .ok (.iload_n 1, 1) := by decide +kernel
theorem d_Mo_place_37 : decode b_Mo_place 37 = .ok (.iastore, 1) := by decide +kernel
theorem d_Mo_place_38 : decode b_Mo_place 38 = .ok (.return_, 1) := by decide +kernel
theorem kw_81 : Cond.fieldLink R_Mo 158 "LuaMachineModel" "marked" "[Z" ∈ wA := kinm (show _ ∈ tables_1 from (List.mem_append_right _ (List.mem_append_right _ (List.mem_append_right _ (List.mem_append_right _ (List.mem_append_right _ (List.mem_append_right _ (List.mem_append_right _ (List.mem_append_right _ (List.mem_append_right _ (List.mem_append_left _ (List.mem_of_getElem? (l := tables_1_10) (i := 101) (by decide +kernel))))))))))))) (by decide +kernel)
theorem kw_82 : Cond.fieldLink R_Mo 228 "LuaMachineModel" "grey" "[I" ∈ wA := kinm (show _ ∈ tables_1 from (List.mem_append_right _ (List.mem_append_right _ (List.mem_append_right _ (List.mem_append_right _ (List.mem_append_right _ (List.mem_append_right _ (List.mem_append_right _ (List.mem_append_right _ (List.mem_append_right _ (List.mem_append_left _ (List.mem_of_getElem? (l := tables_1_10) (i := 124) (by decide +kernel))))))))))))) (by decide +kernel)
theorem kw_83 : Cond.fieldLink R_Mo 231 "LuaMachineModel" "greys" "I" ∈ wA := kinm (show _ ∈ tables_1 from (List.mem_append_right _ (List.mem_append_right _ (List.mem_append_right _ (List.mem_append_right _ (List.mem_append_right _ (List.mem_append_right _ (List.mem_append_right _ (List.mem_append_right _ (List.mem_append_right _ (List.mem_append_left _ (List.mem_of_getElem? (l := tables_1_10) (i := 125) (by decide +kernel))))))))))))) (by decide +kernel)
theorem kw_84 : Cond.instanceMethod y_Mo_place ∈ wA := kinm (show _ ∈ tables_1 from (List.mem_append_right _ (List.mem_append_right _ (List.mem_append_right _ (List.mem_append_right _ (List.mem_append_right _ (List.mem_append_right _ (List.mem_append_right _ (List.mem_append_right _ (List.mem_append_right _ (List.mem_append_right _ (List.mem_append_right _ (List.mem_append_left _ (List.mem_of_getElem? (l := tables_1_12) (i := 10) (by decide +kernel))))))))))))))) (by decide +kernel)
theorem kw_85 : Cond.selects R_Mo y_Mo_place y_Mo_place ∈ wA := kinp 130 (by decide +kernel) (by decide +kernel)
def M_Mo_place (l1 : Int32) : M (Unit) :=
  oC (l1 < 0)
    (oR ())
    (oB (oAI 59 4100 0 l1) fun v9 =>
    oC (v9 = 0)
      (oB (oSI 59 4100 0 l1 (vp_nar .boolean 1)) fun _ =>
      oB (oGI 69 0) fun v27 =>
      oB (oPI 69 0 (v27 + 1)) fun _ =>
      oB (oSI 75 4100 0 v27 l1) fun _ =>
      oR ())
      (oR ()))

theorem cv_Mo_place : CV y_Mo_place b_Mo_place 2 none 1 := ⟨kw_84, kw_85, kw_17, k_Mo_place, by decide +kernel⟩
theorem ct_Mo_place {l : Launch} {P : PP} {q : PL} {s s' : S1} {l1 : Int32} {r : Unit} (h : M_Mo_place l1 s = some (r, s')) : Ct l y_Mo_place b_Mo_place 2 none 0 0 P q s [.ref (q.1 0 0), .int l1] none q s' := by
  refine ct_of (by decide) (Nat.le_of_ble_eq_true rfl) fun X ls eP el g hR hl => ?_
  have hR : Rt X q ((r, s') : Unit × S1).2 none := hR
  have hl : lv_has ls 2 [(0, .ref (q.1 0 0)), (1, .int l1)] := hl
  generalize (r, s') = o at h hR
  unfold M_Mo_place at h
  refine ww_iload_n (pc := 0) g.1 d_Mo_place_0 rfl (lv_at hl 1 rfl) ?_
  refine ww_if_lt (pc := 1) (tgt := 13) g.1 d_Mo_place_1 (by decide) h (fun c h => ?_) (fun c h => ?_)
  · exact ww_vretH (pc := 13) g h hR d_Mo_place_13
  · refine ww_aload_n (pc := 4) g.1 d_Mo_place_4 rfl (lv_at hl 0 rfl) ?_
    refine ww_gR (pc := 5) g (k := 46) cl_Mo (pz rfl (by decide)) (by decide) (Or.inl kw_81) (f := 46) (t := 59) rfl rfl rfl d_Mo_place_5 ?_
    refine ww_iload_n (pc := 8) g.1 d_Mo_place_8 rfl (lv_at hl 1 rfl) ?_
    refine ww_az (pc := 9) g (pz rfl (by decide)) rfl rfl d_Mo_place_9 h fun v9 h => ?_
    refine ww_if_eq (pc := 10) (tgt := 14) g.1 d_Mo_place_10 (by decide) h (fun c h => ?_) (fun c h => ?_)
    · refine ww_aload_n (pc := 14) g.1 d_Mo_place_14 rfl (lv_at hl 0 rfl) ?_
      refine ww_gR (pc := 15) g (k := 46) cl_Mo (pz rfl (by decide)) (by decide) (Or.inl kw_81) (f := 46) (t := 59) rfl rfl rfl d_Mo_place_15 ?_
      refine ww_iload_n (pc := 18) g.1 d_Mo_place_18 rfl (lv_at hl 1 rfl) ?_
      refine ww_iconst (pc := 19) g.1 (v := 1) d_Mo_place_19 (by decide) ?_
      refine ww_sz (pc := 20) g (pz rfl (by decide)) rfl rfl d_Mo_place_20 h fun s hs h => ?_
      refine ww_aload_n (pc := 21) g.1 d_Mo_place_21 rfl (lv_at hl 0 rfl) ?_
      refine ww_gR (pc := 22) g (k := 68) cl_Mo (pz rfl (by decide)) (by decide) (Or.inl kw_82) (f := 68) (t := 75) rfl rfl rfl d_Mo_place_22 ?_
      refine ww_aload_n (pc := 25) g.1 d_Mo_place_25 rfl (lv_at hl 0 rfl) ?_
      refine ww_dup (pc := 26) g.1 d_Mo_place_26 rfl ?_
      refine ww_gI (pc := 27) g (k := 69) cl_Mo (pz rfl (by decide)) (by decide) (Or.inl kw_83) (f := 69) rfl rfl d_Mo_place_27 h fun v27 h => ?_
      refine ww_dup_x1 (pc := 30) g.1 d_Mo_place_30 rfl rfl ?_
      refine ww_iconst (pc := 31) g.1 (v := 1) d_Mo_place_31 (by decide) ?_
      refine ww_iadd (pc := 32) g.1 d_Mo_place_32 ?_
      refine ww_pI (pc := 33) g (k := 69) cl_Mo (pz rfl (by decide)) (by decide) (Or.inl kw_83) rfl (f := 69) rfl rfl rfl rfl d_Mo_place_33 h fun s hs h => ?_
      refine ww_iload_n (pc := 36) g.1 d_Mo_place_36 rfl (lv_at hl 1 rfl) ?_
      refine ww_si (pc := 37) g (pz rfl (by decide)) rfl rfl d_Mo_place_37 h fun s hs h => ?_
      exact ww_vretH (pc := 38) g h hR d_Mo_place_38
    · exact ww_vretH (pc := 13) g h hR d_Mo_place_13

abbrev b_Mo_markRow : ByteArray := prog_14_method_46_code
def y_Mo_markRow : MethodName := ⟨R_Mo, "markRow", "(LLuaMachineModel$Values;II)V"⟩
abbrev w_Mo_markRow : List Cond := .code y_Mo_markRow b_Mo_markRow 5 none :: wA
theorem k_Mo_markRow : Cond.code y_Mo_markRow b_Mo_markRow 5 none ∈ wA := kinm (show _ ∈ tables_1 from (List.mem_append_right _ (List.mem_append_right _ (List.mem_append_right _ (List.mem_append_right _ (List.mem_append_right _ (List.mem_append_right _ (List.mem_append_right _ (List.mem_append_right _ (List.mem_append_right _ (List.mem_append_right _ (List.mem_append_right _ (List.mem_append_left _ (List.mem_of_getElem? (l := tables_1_12) (i := 15) (by decide +kernel))))))))))))))) (by decide +kernel)
theorem d_Mo_markRow_0 : decode b_Mo_markRow 0 = .ok (.iload_n 2, 1) := by decide +kernel
theorem d_Mo_markRow_1 : decode b_Mo_markRow 1 = .ok (.istore 4, 2) := by decide +kernel
theorem d_Mo_markRow_3 : decode b_Mo_markRow 3 = .ok (.iload 4, 2) := by decide +kernel
theorem d_Mo_markRow_5 : decode b_Mo_markRow 5 = .ok (.iload_n 2, 1) := by decide +kernel
theorem d_Mo_markRow_6 : decode b_Mo_markRow 6 = .ok (.iload_n 3, 1) := by decide +kernel
theorem d_Mo_markRow_7 : decode b_Mo_markRow 7 = .ok (.iadd, 1) := by decide +kernel
theorem d_Mo_markRow_8 : decode b_Mo_markRow 8 = .ok (.if_icmp .ge 27, 3) := by decide +kernel
theorem d_Mo_markRow_11 : decode b_Mo_markRow 11 = .ok (.aload_n 0, 1) := by decide +kernel
theorem d_Mo_markRow_12 : decode b_Mo_markRow 12 = .ok (.aload_n 1, 1) := by decide +kernel
theorem d_Mo_markRow_13 : decode b_Mo_markRow 13 = .ok (.getfield 585, 3) := by decide +kernel
theorem d_Mo_markRow_16 : decode b_Mo_markRow 16 = .ok (.iload 4, 2) := by decide +kernel
theorem d_Mo_markRow_18 : decode b_Mo_markRow 18 = .ok (.baload, 1) := by decide +kernel
theorem d_Mo_markRow_19 : decode b_Mo_markRow 19 = .ok (.aload_n 1, 1) := by decide +kernel
theorem d_Mo_markRow_20 : decode b_Mo_markRow 20 = .ok (.getfield 588, 3) := by decide +kernel
theorem d_Mo_markRow_23 : decode b_Mo_markRow 23 = .ok (.iload 4, 2) := by decide +kernel
theorem d_Mo_markRow_25 : decode b_Mo_markRow 25 = .ok (.laload, 1) := by decide +kernel
theorem d_Mo_markRow_26 : decode b_Mo_markRow 26 = .ok (.invokevirtual 609, 3) := by decide +kernel
theorem d_Mo_markRow_29 : decode b_Mo_markRow 29 = .ok (.iinc 4 1, 3) := by decide +kernel
theorem d_Mo_markRow_32 : decode b_Mo_markRow 32 = .ok (.goto (-29), 3) := by decide +kernel
theorem d_Mo_markRow_35 : decode b_Mo_markRow 35 = .ok (.return_, 1) := by decide +kernel
abbrev b_Mo_mark : ByteArray := prog_14_method_44_code
def y_Mo_mark : MethodName := ⟨R_Mo, "mark", "(IJ)V"⟩
abbrev w_Mo_mark : List Cond := .code y_Mo_mark b_Mo_mark 4 none :: wA
theorem k_Mo_mark : Cond.code y_Mo_mark b_Mo_mark 4 none ∈ wA := kinm (show _ ∈ tables_1 from (List.mem_append_right _ (List.mem_append_right _ (List.mem_append_right _ (List.mem_append_right _ (List.mem_append_right _ (List.mem_append_right _ (List.mem_append_right _ (List.mem_append_right _ (List.mem_append_right _ (List.mem_append_right _ (List.mem_append_right _ (List.mem_append_left _ (List.mem_of_getElem? (l := tables_1_12) (i := 19) (by decide +kernel))))))))))))))) (by decide +kernel)
theorem d_Mo_mark_0 : decode b_Mo_mark 0 = .ok (.iload_n 1, 1) := by decide +kernel
theorem d_Mo_mark_1 : decode b_Mo_mark 1 = .ok (.iconst 4, 1) := by decide +kernel
theorem d_Mo_mark_2 : decode b_Mo_mark 2 = .ok (.if_icmp .lt 15, 3) := by decide +kernel
theorem d_Mo_mark_5 : decode b_Mo_mark 5 = .ok (.iload_n 1, 1) := by decide +kernel
theorem d_Mo_mark_6 : decode b_Mo_mark 6 = .ok (.bipush 6, 2) := by decide +kernel
theorem d_Mo_mark_8 : decode b_Mo_mark 8 = .ok (.if_icmp .ne 10, 3) := by decide +kernel
theorem d_Mo_mark_11 : decode b_Mo_mark 11 = .ok (.lload_n 2, 1) := by decide +kernel
theorem d_Mo_mark_12 : decode b_Mo_mark 12 = .ok (.lconst 0, 1) := by decide +kernel
theorem d_Mo_mark_13 : decode b_Mo_mark 13 = .ok (.lcmp, 1) := by decide +kernel
theorem d_Mo_mark_14 : decode b_Mo_mark 14 = .ok (.ifCond .ge 4, 3) := by decide +kernel
theorem d_Mo_mark_17 : decode b_Mo_mark 17 = .ok (.return_, 1) := by decide +kernel
theorem d_Mo_mark_18 : decode b_Mo_mark 18 = .ok (.aload_n 0, 1) := by decide +kernel
theorem d_Mo_mark_19 : decode b_Mo_mark 19 = .ok (.lload_n 2, 1) := by decide +kernel
theorem d_Mo_mark_20 : decode b_Mo_mark 20 = .ok (.l2i, 1) := by decide +kernel
theorem d_Mo_mark_21 : decode b_Mo_mark 21 = .ok (.invokevirtual 606, 3) := by decide +kernel
theorem d_Mo_mark_24 : decode b_Mo_mark 24 = .ok (.return_, 1) := by decide +kernel
theorem kw_86 : Cond.methodLink R_Mo 606 y_Mo_place ∈ wA := kinm (show _ ∈ tables_1 from (List.mem_append_right _ (List.mem_append_right _ (List.mem_append_right _ (List.mem_append_right _ (List.mem_append_right _ (List.mem_append_right _ (List.mem_append_right _ (List.mem_append_right _ (List.mem_append_right _ (List.mem_append_right _ (List.mem_append_right _ (List.mem_append_left _ (List.mem_of_getElem? (l := tables_1_12) (i := 8) (by decide +kernel))))))))))))))) (by decide +kernel)
theorem kw_87 : Cond.instanceMethod y_Mo_mark ∈ wA := kinm (show _ ∈ tables_1 from (List.mem_append_right _ (List.mem_append_right _ (List.mem_append_right _ (List.mem_append_right _ (List.mem_append_right _ (List.mem_append_right _ (List.mem_append_right _ (List.mem_append_right _ (List.mem_append_right _ (List.mem_append_right _ (List.mem_append_right _ (List.mem_append_left _ (List.mem_of_getElem? (l := tables_1_12) (i := 18) (by decide +kernel))))))))))))))) (by decide +kernel)
theorem kw_88 : Cond.selects R_Mo y_Mo_mark y_Mo_mark ∈ wA := kinp 132 (by decide +kernel) (by decide +kernel)
def M_Mo_mark_j18 (l2 : Int64) : M (Unit) :=
  oB (M_Mo_place l2.toInt32) fun _ =>
  oR ()

def M_Mo_mark (l1 : Int32) (l2 : Int64) : M (Unit) :=
  oC (l1 < 4)
    (oR ())
    (oC (l1 = 6)
      (oC (0 ≤ (lg_cmp l2 0))
        (M_Mo_mark_j18 l2)
        (oR ()))
      (M_Mo_mark_j18 l2))

theorem cv_Mo_mark : CV y_Mo_mark b_Mo_mark 4 none 2 := ⟨kw_87, kw_88, kw_17, k_Mo_mark, by decide +kernel⟩
theorem j_Mo_mark_j18 {X : Cx} {q : PL} (g : Gd X y_Mo_mark b_Mo_mark 4 none 1 21 R_Mo) {o : (Unit) × S1} (hR : Rt X q o.2 none) (l2 : Int64) (s : S1) (ls : Array Slot) (hl : lv_has ls 4 [(0, .ref (q.1 0 0)), (2, .long l2)]) (h : M_Mo_mark_j18 l2 s = some o) : WW X q s 18 ls [] := by
  unfold M_Mo_mark_j18 at h
  refine ww_aload_n (pc := 18) g.1 d_Mo_mark_18 rfl (lv_at hl 0 rfl) ?_
  refine ww_lload_n (pc := 19) g.1 d_Mo_mark_19 rfl (lv_at hl 1 rfl) ?_
  refine ww_l2i (pc := 20) g.1 (v := l2.toInt32) d_Mo_mark_20 rfl ?_
  obtain ⟨v21, s, hc21, h⟩ := oB_of h
  refine ww_callV (pc := 21) (rest := []) g cv_Mo_place (Or.inl kw_86) cl_Mo (pz rfl (by decide)) (ct_Mo_place hc21) ⟨by decide, by decide⟩ rfl hl.1 (Nat.le_of_ble_eq_true rfl) d_Mo_mark_21 rfl ?_
  refine ww_st (st' := []) rfl ?_
  exact ww_vretH (pc := 24) g h hR d_Mo_mark_24

theorem ct_Mo_mark {l : Launch} {P : PP} {q : PL} {s s' : S1} {l1 : Int32} {l2 : Int64} {r : Unit} (h : M_Mo_mark l1 l2 s = some (r, s')) : Ct l y_Mo_mark b_Mo_mark 4 none 1 21 P q s [.ref (q.1 0 0), .int l1, .long l2] none q s' := by
  refine ct_of (by decide) (Nat.le_of_ble_eq_true rfl) fun X ls eP el g hR hl => ?_
  have hR : Rt X q ((r, s') : Unit × S1).2 none := hR
  have hl : lv_has ls 4 [(0, .ref (q.1 0 0)), (1, .int l1), (2, .long l2)] := hl
  generalize (r, s') = o at h hR
  unfold M_Mo_mark at h
  refine ww_iload_n (pc := 0) g.1 d_Mo_mark_0 rfl (lv_at hl 1 rfl) ?_
  refine ww_iconst (pc := 1) g.1 (v := 4) d_Mo_mark_1 (by decide) ?_
  refine ww_icmp_lt (pc := 2) (tgt := 17) g.1 d_Mo_mark_2 (by decide) h (fun c h => ?_) (fun c h => ?_)
  · exact ww_vretH (pc := 17) g h hR d_Mo_mark_17
  · refine ww_iload_n (pc := 5) g.1 d_Mo_mark_5 rfl (lv_at hl 1 rfl) ?_
    refine ww_bipush (pc := 6) g.1 (v := 6) d_Mo_mark_6 (by decide) ?_
    refine ww_icmp_ne (pc := 8) (tgt := 18) g.1 d_Mo_mark_8 (by decide) h (fun c h => ?_) (fun c h => ?_)
    · exact j_Mo_mark_j18 g hR l2 s ls (lv_sub hl [0, 2] rfl) h
    · refine ww_lload_n (pc := 11) g.1 d_Mo_mark_11 rfl (lv_at hl 2 rfl) ?_
      refine ww_lconst (pc := 12) g.1 (v := 0) d_Mo_mark_12 (by decide) ?_
      refine ww_lcmp (pc := 13) g.1 d_Mo_mark_13 ?_
      refine ww_if_ge (pc := 14) (tgt := 18) g.1 d_Mo_mark_14 (by decide) h (fun c h => ?_) (fun c h => ?_)
      · exact j_Mo_mark_j18 g hR l2 s ls (lv_sub hl [0, 2] rfl) h
      · exact ww_vretH (pc := 17) g h hR d_Mo_mark_17

abbrev b_Mo_follow : ByteArray := prog_14_method_48_code
def y_Mo_follow : MethodName := ⟨R_Mo, "follow", "(I)V"⟩
abbrev w_Mo_follow : List Cond := .code y_Mo_follow b_Mo_follow 3 none :: wA
set_option maxRecDepth 20000 in
theorem k_Mo_follow : Cond.code y_Mo_follow b_Mo_follow 3 none ∈ wA := kinm (show _ ∈ tables_1 from (List.mem_append_right _ (List.mem_append_right _ (List.mem_append_right _ (List.mem_append_right _ (List.mem_append_right _ (List.mem_append_right _ (List.mem_append_right _ (List.mem_append_right _ (List.mem_append_right _ (List.mem_append_right _ (List.mem_append_right _ (List.mem_append_left _ (List.mem_of_getElem? (l := tables_1_12) (i := 23) rfl)))))))))))))) rfl
theorem d_Mo_follow_0 : decode b_Mo_follow 0 = .ok (.aload_n 0, 1) := by decide +kernel
theorem d_Mo_follow_1 : decode b_Mo_follow 1 = .ok (.getfield 155, 3) := by decide +kernel
theorem d_Mo_follow_4 : decode b_Mo_follow 4 = .ok (.iload_n 1, 1) := by decide +kernel
theorem d_Mo_follow_5 : decode b_Mo_follow 5 = .ok (.baload, 1) := by decide +kernel
theorem d_Mo_follow_6 : decode b_Mo_follow 6 = .ok (.tableswitch 203 5 8 #[30, 105, 185, 165], 30) := by decide +kernel
theorem d_Mo_follow_36 : decode b_Mo_follow 36 = .ok (.aload_n 0, 1) := by decide +kernel
theorem d_Mo_follow_37 : decode b_Mo_follow 37 = .ok (.aload_n 0, 1) := by decide +kernel
theorem d_Mo_follow_38 : decode b_Mo_follow 38 = .ok (.getfield 177, 3) := by decide +kernel
theorem d_Mo_follow_41 : decode b_Mo_follow 41 = .ok (.iload_n 1, 1) := by decide +kernel
theorem d_Mo_follow_42 : decode b_Mo_follow 42 = .ok (.iaload, 1) := by decide +kernel
theorem d_Mo_follow_43 : decode b_Mo_follow 43 = .ok (.invokevirtual 606, 3) := by decide +kernel
theorem d_Mo_follow_46 : decode b_Mo_follow 46 = .ok (.aload_n 0, 1) := by decide +kernel
theorem d_Mo_follow_47 : decode b_Mo_follow 47 = .ok (.getfield 168, 3) := by decide +kernel
theorem d_Mo_follow_50 : decode b_Mo_follow 50 = .ok (.iload_n 1, 1) := by decide +kernel
theorem d_Mo_follow_51 : decode b_Mo_follow 51 = .ok (.iaload, 1) := by decide +kernel
theorem d_Mo_follow_52 : decode b_Mo_follow 52 = .ok (.istore_n 2, 1) := by decide +kernel
theorem d_Mo_follow_53 : decode b_Mo_follow 53 = .ok (.iload_n 2, 1) := by decide +kernel
theorem d_Mo_follow_54 : decode b_Mo_follow 54 = .ok (.aload_n 0, 1) := by decide +kernel
theorem d_Mo_follow_55 : decode b_Mo_follow 55 = .ok (.getfield 168, 3) := by decide +kernel
theorem d_Mo_follow_58 : decode b_Mo_follow 58 = .ok (.iload_n 1, 1) := by decide +kernel
theorem d_Mo_follow_59 : decode b_Mo_follow 59 = .ok (.iaload, 1) := by decide +kernel
theorem d_Mo_follow_60 : decode b_Mo_follow 60 = .ok (.aload_n 0, 1) := by decide +kernel
theorem d_Mo_follow_61 : decode b_Mo_follow 61 = .ok (.getfield 174, 3) := by decide +kernel
theorem d_Mo_follow_64 : decode b_Mo_follow 64 = .ok (.iload_n 1, 1) := by decide +kernel
theorem d_Mo_follow_65 : decode b_Mo_follow 65 = .ok (.iaload, 1) := by decide +kernel
theorem d_Mo_follow_66 : decode b_Mo_follow 66 = .ok (.iadd, 1) := by decide +kernel
theorem d_Mo_follow_67 : decode b_Mo_follow 67 = .ok (.if_icmp .ge 41, 3) := by decide +kernel
theorem d_Mo_follow_70 : decode b_Mo_follow 70 = .ok (.aload_n 0, 1) := by decide +kernel
theorem d_Mo_follow_71 : decode b_Mo_follow 71 = .ok (.aload_n 0, 1) := by decide +kernel
theorem d_Mo_follow_72 : decode b_Mo_follow 72 = .ok (.getfield 193, 3) := by decide +kernel
theorem d_Mo_follow_75 : decode b_Mo_follow 75 = .ok (.iload_n 2, 1) := by decide +kernel
theorem d_Mo_follow_76 : decode b_Mo_follow 76 = .ok (.baload, 1) := by decide +kernel
theorem d_Mo_follow_77 : decode b_Mo_follow 77 = .ok (.aload_n 0, 1) := by decide +kernel
theorem d_Mo_follow_78 : decode b_Mo_follow 78 = .ok (.getfield 199, 3) := by decide +kernel
theorem d_Mo_follow_81 : decode b_Mo_follow 81 = .ok (.iload_n 2, 1) := by decide +kernel
theorem d_Mo_follow_82 : decode b_Mo_follow 82 = .ok (.laload, 1) := by decide +kernel
theorem d_Mo_follow_83 : decode b_Mo_follow 83 = .ok (.invokevirtual 609, 3) := by decide +kernel
theorem d_Mo_follow_86 : decode b_Mo_follow 86 = .ok (.aload_n 0, 1) := by decide +kernel
theorem d_Mo_follow_87 : decode b_Mo_follow 87 = .ok (.aload_n 0, 1) := by decide +kernel
theorem d_Mo_follow_88 : decode b_Mo_follow 88 = .ok (.getfield 196, 3) := by decide +kernel
theorem d_Mo_follow_91 : decode b_Mo_follow 91 = .ok (.iload_n 2, 1) := by decide +kernel
theorem d_Mo_follow_92 : decode b_Mo_follow 92 = .ok (.baload, 1) := by decide +kernel
theorem d_Mo_follow_93 : decode b_Mo_follow 93 = .ok (.aload_n 0, 1) := by decide +kernel
theorem d_Mo_follow_94 : decode b_Mo_follow 94 = .ok (.getfield 203, 3) := by decide +kernel
theorem d_Mo_follow_97 : decode b_Mo_follow 97 = .ok (.iload_n 2, 1) := by decide +kernel
theorem d_Mo_follow_98 : decode b_Mo_follow 98 = .ok (.laload, 1) := by decide +kernel
theorem d_Mo_follow_99 : decode b_Mo_follow 99 = .ok (.invokevirtual 609, 3) := by decide +kernel
theorem d_Mo_follow_102 : decode b_Mo_follow 102 = .ok (.iinc 2 1, 3) := by decide +kernel
theorem d_Mo_follow_105 : decode b_Mo_follow 105 = .ok (.goto (-52), 3) := by decide +kernel
theorem d_Mo_follow_108 : decode b_Mo_follow 108 = .ok (.goto 101, 3) := by decide +kernel
theorem d_Mo_follow_111 : decode b_Mo_follow 111 = .ok (.aload_n 0, 1) := by decide +kernel
theorem d_Mo_follow_112 : decode b_Mo_follow 112 = .ok (.getfield 168, 3) := by decide +kernel
theorem d_Mo_follow_115 : decode b_Mo_follow 115 = .ok (.iload_n 1, 1) := by decide +kernel
theorem d_Mo_follow_116 : decode b_Mo_follow 116 = .ok (.iaload, 1) := by decide +kernel
theorem d_Mo_follow_117 : decode b_Mo_follow 117 = .ok (.ifCond .ge 16, 3) := by decide +kernel
theorem d_Mo_follow_120 : decode b_Mo_follow 120 = .ok (.aload_n 0, 1) := by decide +kernel
theorem d_Mo_follow_121 : decode b_Mo_follow 121 = .ok (.aload_n 0, 1) := by decide +kernel
theorem d_Mo_follow_122 : decode b_Mo_follow 122 = .ok (.getfield 171, 3) := by decide +kernel
theorem d_Mo_follow_125 : decode b_Mo_follow 125 = .ok (.iload_n 1, 1) := by decide +kernel
theorem d_Mo_follow_126 : decode b_Mo_follow 126 = .ok (.iaload, 1) := by decide +kernel
theorem d_Mo_follow_127 : decode b_Mo_follow 127 = .ok (.invokevirtual 606, 3) := by decide +kernel
theorem d_Mo_follow_130 : decode b_Mo_follow 130 = .ok (.goto 79, 3) := by decide +kernel
theorem d_Mo_follow_133 : decode b_Mo_follow 133 = .ok (.iconst 0, 1) := by decide +kernel
theorem d_Mo_follow_134 : decode b_Mo_follow 134 = .ok (.istore_n 2, 1) := by decide +kernel
theorem d_Mo_follow_135 : decode b_Mo_follow 135 = .ok (.iload_n 2, 1) := by decide +kernel
theorem d_Mo_follow_136 : decode b_Mo_follow 136 = .ok (.aload_n 0, 1) := by decide +kernel
theorem d_Mo_follow_137 : decode b_Mo_follow 137 = .ok (.getfield 174, 3) := by decide +kernel
theorem d_Mo_follow_140 : decode b_Mo_follow 140 = .ok (.iload_n 1, 1) := by decide +kernel
theorem d_Mo_follow_141 : decode b_Mo_follow 141 = .ok (.iaload, 1) := by decide +kernel
theorem d_Mo_follow_142 : decode b_Mo_follow 142 = .ok (.if_icmp .ge 26, 3) := by decide +kernel
theorem d_Mo_follow_145 : decode b_Mo_follow 145 = .ok (.aload_n 0, 1) := by decide +kernel
theorem d_Mo_follow_146 : decode b_Mo_follow 146 = .ok (.aload_n 0, 1) := by decide +kernel
theorem d_Mo_follow_147 : decode b_Mo_follow 147 = .ok (.getfield 206, 3) := by decide +kernel
theorem d_Mo_follow_150 : decode b_Mo_follow 150 = .ok (.aload_n 0, 1) := by decide +kernel
theorem d_Mo_follow_151 : decode b_Mo_follow 151 = .ok (.getfield 171, 3) := by decide +kernel
theorem d_Mo_follow_154 : decode b_Mo_follow 154 = .ok (.iload_n 1, 1) := by decide +kernel
theorem d_Mo_follow_155 : decode b_Mo_follow 155 = .ok (.iaload, 1) := by decide +kernel
theorem d_Mo_follow_156 : decode b_Mo_follow 156 = .ok (.iload_n 2, 1) := by decide +kernel
theorem d_Mo_follow_157 : decode b_Mo_follow 157 = .ok (.iadd, 1) := by decide +kernel
theorem d_Mo_follow_158 : decode b_Mo_follow 158 = .ok (.iaload, 1) := by decide +kernel
theorem d_Mo_follow_159 : decode b_Mo_follow 159 = .ok (.invokevirtual 606, 3) := by decide +kernel
theorem d_Mo_follow_162 : decode b_Mo_follow 162 = .ok (.iinc 2 1, 3) := by decide +kernel
theorem d_Mo_follow_165 : decode b_Mo_follow 165 = .ok (.goto (-30), 3) := by decide +kernel
theorem d_Mo_follow_168 : decode b_Mo_follow 168 = .ok (.goto 41, 3) := by decide +kernel
theorem d_Mo_follow_171 : decode b_Mo_follow 171 = .ok (.aload_n 0, 1) := by decide +kernel
theorem d_Mo_follow_172 : decode b_Mo_follow 172 = .ok (.iload_n 1, 1) := by decide +kernel
theorem d_Mo_follow_173 : decode b_Mo_follow 173 = .ok (.invokevirtual 594, 3) := by decide +kernel
theorem d_Mo_follow_176 : decode b_Mo_follow 176 = .ok (.aload_n 0, 1) := by decide +kernel
theorem d_Mo_follow_177 : decode b_Mo_follow 177 = .ok (.aload_n 0, 1) := by decide +kernel
theorem d_Mo_follow_178 : decode b_Mo_follow 178 = .ok (.getfield 222, 3) := by decide +kernel
theorem d_Mo_follow_181 : decode b_Mo_follow 181 = .ok (.aload_n 0, 1) := by decide +kernel
theorem d_Mo_follow_182 : decode b_Mo_follow 182 = .ok (.getfield 225, 3) := by decide +kernel
theorem d_Mo_follow_185 : decode b_Mo_follow 185 = .ok (.invokevirtual 609, 3) := by decide +kernel
theorem d_Mo_follow_188 : decode b_Mo_follow 188 = .ok (.goto 21, 3) := by decide +kernel
theorem d_Mo_follow_191 : decode b_Mo_follow 191 = .ok (.aload_n 0, 1) := by decide +kernel
theorem d_Mo_follow_192 : decode b_Mo_follow 192 = .ok (.getfield 239, 3) := by decide +kernel
theorem d_Mo_follow_195 : decode b_Mo_follow 195 = .ok (.aload_n 0, 1) := by decide +kernel
theorem d_Mo_follow_196 : decode b_Mo_follow 196 = .ok (.getfield 168, 3) := by decide +kernel
theorem d_Mo_follow_199 : decode b_Mo_follow 199 = .ok (.iload_n 1, 1) := by decide +kernel
theorem d_Mo_follow_200 : decode b_Mo_follow 200 = .ok (.iaload, 1) := by decide +kernel
theorem d_Mo_follow_201 : decode b_Mo_follow 201 = .ok (.aaload, 1) := by decide +kernel
theorem d_Mo_follow_202 : decode b_Mo_follow 202 = .ok (.aload_n 0, 1) := by decide +kernel
theorem d_Mo_follow_203 : decode b_Mo_follow 203 = .ok (.invokevirtual 629, 3) := by decide +kernel
theorem d_Mo_follow_206 : decode b_Mo_follow 206 = .ok (.goto 3, 3) := by decide +kernel
theorem d_Mo_follow_209 : decode b_Mo_follow 209 = .ok (.return_, 1) := by decide +kernel
abbrev b_Mo_load_ : ByteArray := prog_14_method_40_code
def y_Mo_load_ : MethodName := ⟨R_Mo, "load", "(I)V"⟩
abbrev w_Mo_load_ : List Cond := .code y_Mo_load_ b_Mo_load_ 3 none :: wA
theorem k_Mo_load_ : Cond.code y_Mo_load_ b_Mo_load_ 3 none ∈ wA := kinm (show _ ∈ tables_1 from (List.mem_append_right _ (List.mem_append_right _ (List.mem_append_right _ (List.mem_append_right _ (List.mem_append_right _ (List.mem_append_right _ (List.mem_append_right _ (List.mem_append_right _ (List.mem_append_right _ (List.mem_append_right _ (List.mem_append_right _ (List.mem_append_left _ (List.mem_of_getElem? (l := tables_1_12) (i := 27) (by decide +kernel))))))))))))))) (by decide +kernel)
theorem d_Mo_load__0 : decode b_Mo_load_ 0 = .ok (.aload_n 0, 1) := by decide +kernel
theorem d_Mo_load__1 : decode b_Mo_load_ 1 = .ok (.getfield 168, 3) := by decide +kernel
theorem d_Mo_load__4 : decode b_Mo_load_ 4 = .ok (.iload_n 1, 1) := by decide +kernel
theorem d_Mo_load__5 : decode b_Mo_load_ 5 = .ok (.iaload, 1) := by decide +kernel
theorem d_Mo_load__6 : decode b_Mo_load_ 6 = .ok (.ifCond .ge 32, 3) := by decide +kernel
theorem d_Mo_load__9 : decode b_Mo_load_ 9 = .ok (.aload_n 0, 1) := by decide +kernel
theorem d_Mo_load__10 : decode b_Mo_load_ 10 = .ok (.aload_n 0, 1) := by decide +kernel
theorem d_Mo_load__11 : decode b_Mo_load_ 11 = .ok (.getfield 212, 3) := by decide +kernel
theorem d_Mo_load__14 : decode b_Mo_load_ 14 = .ok (.getfield 585, 3) := by decide +kernel
theorem d_Mo_load__17 : decode b_Mo_load_ 17 = .ok (.iload_n 1, 1) := by decide +kernel
theorem d_Mo_load__18 : decode b_Mo_load_ 18 = .ok (.baload, 1) := by decide +kernel
theorem d_Mo_load__19 : decode b_Mo_load_ 19 = .ok (.putfield 222, 3) := by decide +kernel
theorem d_Mo_load__22 : decode b_Mo_load_ 22 = .ok (.aload_n 0, 1) := by decide +kernel
theorem d_Mo_load__23 : decode b_Mo_load_ 23 = .ok (.aload_n 0, 1) := by decide +kernel
theorem d_Mo_load__24 : decode b_Mo_load_ 24 = .ok (.getfield 212, 3) := by decide +kernel
theorem d_Mo_load__27 : decode b_Mo_load_ 27 = .ok (.getfield 588, 3) := by decide +kernel
theorem d_Mo_load__30 : decode b_Mo_load_ 30 = .ok (.iload_n 1, 1) := by decide +kernel
theorem d_Mo_load__31 : decode b_Mo_load_ 31 = .ok (.laload, 1) := by decide +kernel
theorem d_Mo_load__32 : decode b_Mo_load_ 32 = .ok (.putfield 225, 3) := by decide +kernel
theorem d_Mo_load__35 : decode b_Mo_load_ 35 = .ok (.goto 48, 3) := by decide +kernel
theorem d_Mo_load__38 : decode b_Mo_load_ 38 = .ok (.aload_n 0, 1) := by decide +kernel
theorem d_Mo_load__39 : decode b_Mo_load_ 39 = .ok (.getfield 239, 3) := by decide +kernel
theorem d_Mo_load__42 : decode b_Mo_load_ 42 = .ok (.aload_n 0, 1) := by decide +kernel
theorem d_Mo_load__43 : decode b_Mo_load_ 43 = .ok (.getfield 168, 3) := by decide +kernel
theorem d_Mo_load__46 : decode b_Mo_load_ 46 = .ok (.iload_n 1, 1) := by decide +kernel
theorem d_Mo_load__47 : decode b_Mo_load_ 47 = .ok (.iaload, 1) := by decide +kernel
theorem d_Mo_load__48 : decode b_Mo_load_ 48 = .ok (.aaload, 1) := by decide +kernel
theorem d_Mo_load__49 : decode b_Mo_load_ 49 = .ok (.getfield 591, 3) := by decide +kernel
theorem d_Mo_load__52 : decode b_Mo_load_ 52 = .ok (.astore_n 2, 1) := by decide +kernel
theorem d_Mo_load__53 : decode b_Mo_load_ 53 = .ok (.aload_n 0, 1) := by decide +kernel
theorem d_Mo_load__54 : decode b_Mo_load_ 54 = .ok (.aload_n 2, 1) := by decide +kernel
theorem d_Mo_load__55 : decode b_Mo_load_ 55 = .ok (.getfield 585, 3) := by decide +kernel
theorem d_Mo_load__58 : decode b_Mo_load_ 58 = .ok (.aload_n 0, 1) := by decide +kernel
theorem d_Mo_load__59 : decode b_Mo_load_ 59 = .ok (.getfield 171, 3) := by decide +kernel
theorem d_Mo_load__62 : decode b_Mo_load_ 62 = .ok (.iload_n 1, 1) := by decide +kernel
theorem d_Mo_load__63 : decode b_Mo_load_ 63 = .ok (.iaload, 1) := by decide +kernel
theorem d_Mo_load__64 : decode b_Mo_load_ 64 = .ok (.baload, 1) := by decide +kernel
theorem d_Mo_load__65 : decode b_Mo_load_ 65 = .ok (.putfield 222, 3) := by decide +kernel
theorem d_Mo_load__68 : decode b_Mo_load_ 68 = .ok (.aload_n 0, 1) := by decide +kernel
theorem d_Mo_load__69 : decode b_Mo_load_ 69 = .ok (.aload_n 2, 1) := by decide +kernel
theorem d_Mo_load__70 : decode b_Mo_load_ 70 = .ok (.getfield 588, 3) := by decide +kernel
theorem d_Mo_load__73 : decode b_Mo_load_ 73 = .ok (.aload_n 0, 1) := by decide +kernel
theorem d_Mo_load__74 : decode b_Mo_load_ 74 = .ok (.getfield 171, 3) := by decide +kernel
theorem d_Mo_load__77 : decode b_Mo_load_ 77 = .ok (.iload_n 1, 1) := by decide +kernel
theorem d_Mo_load__78 : decode b_Mo_load_ 78 = .ok (.iaload, 1) := by decide +kernel
theorem d_Mo_load__79 : decode b_Mo_load_ 79 = .ok (.laload, 1) := by decide +kernel
theorem d_Mo_load__80 : decode b_Mo_load_ 80 = .ok (.putfield 225, 3) := by decide +kernel
theorem d_Mo_load__83 : decode b_Mo_load_ 83 = .ok (.return_, 1) := by decide +kernel
theorem kw_89 : Cond.fieldLink R_Mo 168 "LuaMachineModel" "first" "[I" ∈ wA := kinm (show _ ∈ tables_1 from (List.mem_append_right _ (List.mem_append_right _ (List.mem_append_right _ (List.mem_append_right _ (List.mem_append_right _ (List.mem_append_right _ (List.mem_append_right _ (List.mem_append_right _ (List.mem_append_right _ (List.mem_append_left _ (List.mem_of_getElem? (l := tables_1_10) (i := 104) (by decide +kernel))))))))))))) (by decide +kernel)
theorem kw_90 : Cond.fieldLink R_Mo 239 "LuaMachineModel" "threads" "[LLuaMachineModel$Thread_;" ∈ wA := kinm (show _ ∈ tables_1 from (List.mem_append_right _ (List.mem_append_right _ (List.mem_append_right _ (List.mem_append_right _ (List.mem_append_right _ (List.mem_append_right _ (List.mem_append_right _ (List.mem_append_right _ (List.mem_append_right _ (List.mem_append_left _ (List.mem_of_getElem? (l := tables_1_10) (i := 127) (by decide +kernel))))))))))))) (by decide +kernel)
theorem kw_91 : Cond.fieldLink R_Mo 591 "LuaMachineModel$Thread_" "stack" "LLuaMachineModel$Values;" ∈ wA := kinm (show _ ∈ tables_1 from (List.mem_append_right _ (List.mem_append_right _ (List.mem_append_right _ (List.mem_append_right _ (List.mem_append_right _ (List.mem_append_right _ (List.mem_append_right _ (List.mem_append_right _ (List.mem_append_left _ (List.mem_of_getElem? (l := tables_1_9) (i := 219) (by decide +kernel)))))))))))) (by decide +kernel)
theorem kw_92 : Cond.fieldLink R_Mo 585 "LuaMachineModel$Values" "k" "[B" ∈ wA := kinm (show _ ∈ tables_1 from (List.mem_append_right _ (List.mem_append_right _ (List.mem_append_right _ (List.mem_append_right _ (List.mem_append_right _ (List.mem_append_right _ (List.mem_append_right _ (List.mem_append_right _ (List.mem_append_left _ (List.mem_of_getElem? (l := tables_1_9) (i := 123) (by decide +kernel)))))))))))) (by decide +kernel)
theorem kw_93 : Cond.fieldLink R_Mo 171 "LuaMachineModel" "second" "[I" ∈ wA := kinm (show _ ∈ tables_1 from (List.mem_append_right _ (List.mem_append_right _ (List.mem_append_right _ (List.mem_append_right _ (List.mem_append_right _ (List.mem_append_right _ (List.mem_append_right _ (List.mem_append_right _ (List.mem_append_right _ (List.mem_append_left _ (List.mem_of_getElem? (l := tables_1_10) (i := 106) (by decide +kernel))))))))))))) (by decide +kernel)
theorem kw_94 : Cond.fieldLink R_Mo 222 "LuaMachineModel" "gotKind" "I" ∈ wA := kinm (show _ ∈ tables_1 from (List.mem_append_right _ (List.mem_append_right _ (List.mem_append_right _ (List.mem_append_right _ (List.mem_append_right _ (List.mem_append_right _ (List.mem_append_right _ (List.mem_append_right _ (List.mem_append_right _ (List.mem_append_left _ (List.mem_of_getElem? (l := tables_1_10) (i := 122) (by decide +kernel))))))))))))) (by decide +kernel)
theorem kw_95 : Cond.fieldLink R_Mo 588 "LuaMachineModel$Values" "v" "[J" ∈ wA := kinm (show _ ∈ tables_1 from (List.mem_append_right _ (List.mem_append_right _ (List.mem_append_right _ (List.mem_append_right _ (List.mem_append_right _ (List.mem_append_right _ (List.mem_append_right _ (List.mem_append_right _ (List.mem_append_left _ (List.mem_of_getElem? (l := tables_1_9) (i := 125) (by decide +kernel)))))))))))) (by decide +kernel)
theorem kw_96 : Cond.fieldLink R_Mo 225 "LuaMachineModel" "got" "J" ∈ wA := kinm (show _ ∈ tables_1 from (List.mem_append_right _ (List.mem_append_right _ (List.mem_append_right _ (List.mem_append_right _ (List.mem_append_right _ (List.mem_append_right _ (List.mem_append_right _ (List.mem_append_right _ (List.mem_append_right _ (List.mem_append_left _ (List.mem_of_getElem? (l := tables_1_10) (i := 123) (by decide +kernel))))))))))))) (by decide +kernel)
theorem kw_97 : Cond.fieldLink R_Mo 212 "LuaMachineModel" "variable" "LLuaMachineModel$Values;" ∈ wA := kinm (show _ ∈ tables_1 from (List.mem_append_right _ (List.mem_append_right _ (List.mem_append_right _ (List.mem_append_right _ (List.mem_append_right _ (List.mem_append_right _ (List.mem_append_right _ (List.mem_append_right _ (List.mem_append_right _ (List.mem_append_left _ (List.mem_of_getElem? (l := tables_1_10) (i := 119) (by decide +kernel))))))))))))) (by decide +kernel)
theorem kw_98 : Cond.instanceMethod y_Mo_load_ ∈ wA := kinm (show _ ∈ tables_1 from (List.mem_append_right _ (List.mem_append_right _ (List.mem_append_right _ (List.mem_append_right _ (List.mem_append_right _ (List.mem_append_right _ (List.mem_append_right _ (List.mem_append_right _ (List.mem_append_right _ (List.mem_append_right _ (List.mem_append_right _ (List.mem_append_left _ (List.mem_of_getElem? (l := tables_1_12) (i := 26) (by decide +kernel))))))))))))))) (by decide +kernel)
theorem kw_99 : Cond.selects R_Mo y_Mo_load_ y_Mo_load_ ∈ wA := kinp 134 (by decide +kernel) (by decide +kernel)
def M_Mo_load_ (l1 : Int32) : M (Unit) :=
  oB (oAI 62 4100 0 l1) fun v5 =>
  oC (0 ≤ v5)
    (oB (oAI 62 4100 0 l1) fun v47 =>
    oB (oK ((0 : Int32) ≤ v47 ∧ v47 < 33)) fun _ =>
    oB (oAI 63 4100 0 l1) fun v63 =>
    oB (oAI 20 4300 v47 v63) fun v64 =>
    oB (oPI 66 0 v64) fun _ =>
    oB (oAI 63 4100 0 l1) fun v78 =>
    oB (oAL 21 4300 v47 v78) fun v79 =>
    oB (oPL 67 0 v79) fun _ =>
    oR ())
    (oB (oAI 5 4100 0 l1) fun v18 =>
    oB (oPI 66 0 v18) fun _ =>
    oB (oAL 6 4100 0 l1) fun v31 =>
    oB (oPL 67 0 v31) fun _ =>
    oR ())

theorem cv_Mo_load_ : CV y_Mo_load_ b_Mo_load_ 3 none 1 := ⟨kw_98, kw_99, kw_17, k_Mo_load_, by decide +kernel⟩
theorem ct_Mo_load_ {l : Launch} {P : PP} {q : PL} {s s' : S1} {l1 : Int32} {r : Unit} (h : M_Mo_load_ l1 s = some (r, s')) : Ct l y_Mo_load_ b_Mo_load_ 3 none 0 0 P q s [.ref (q.1 0 0), .int l1] none q s' := by
  refine ct_of (by decide) (Nat.le_of_ble_eq_true rfl) fun X ls eP el g hR hl => ?_
  have hR : Rt X q ((r, s') : Unit × S1).2 none := hR
  have hl : lv_has ls 3 [(0, .ref (q.1 0 0)), (1, .int l1)] := hl
  generalize (r, s') = o at h hR
  unfold M_Mo_load_ at h
  refine ww_aload_n (pc := 0) g.1 d_Mo_load__0 rfl (lv_at hl 0 rfl) ?_
  refine ww_gR (pc := 1) g (k := 49) cl_Mo (pz rfl (by decide)) (by decide) (Or.inl kw_89) (f := 49) (t := 62) rfl rfl rfl d_Mo_load__1 ?_
  refine ww_iload_n (pc := 4) g.1 d_Mo_load__4 rfl (lv_at hl 1 rfl) ?_
  refine ww_ai (pc := 5) g (pz rfl (by decide)) rfl rfl d_Mo_load__5 h fun v5 h => ?_
  refine ww_if_ge (pc := 6) (tgt := 38) g.1 d_Mo_load__6 (by decide) h (fun c h => ?_) (fun c h => ?_)
  · refine ww_aload_n (pc := 38) g.1 d_Mo_load__38 rfl (lv_at hl 0 rfl) ?_
    refine ww_gR (pc := 39) g (k := 71) cl_Mo (pz rfl (by decide)) (by decide) (Or.inl kw_90) (f := 71) (t := 76) rfl rfl rfl d_Mo_load__39 ?_
    refine ww_aload_n (pc := 42) g.1 d_Mo_load__42 rfl (lv_at hl 0 rfl) ?_
    refine ww_gR (pc := 43) g (k := 49) cl_Mo (pz rfl (by decide)) (by decide) (Or.inl kw_89) (f := 49) (t := 62) rfl rfl rfl d_Mo_load__43 ?_
    refine ww_iload_n (pc := 46) g.1 d_Mo_load__46 rfl (lv_at hl 1 rfl) ?_
    refine ww_ai (pc := 47) g (pz rfl (by decide)) rfl rfl d_Mo_load__47 h fun v47 h => ?_
    refine ww_at (pc := 48) g (t := 28) (pz rfl (by decide)) rfl rfl rfl d_Mo_load__48 h fun ca48 h => ?_
    refine ww_gR (pc := 49) g (k := 7) cl_Th (pt rfl rfl ca48) (by decide) (Or.inl kw_91) (f := 3591) (t := 19) rfl rfl rfl d_Mo_load__49 ?_
    refine ww_astore_n (pc := 52) g.1 (lv' := [(2, .ref (q.1 19 v47)), (0, .ref (q.1 0 0)), (1, .int l1)]) d_Mo_load__52 rfl hl (by decide) rfl fun ls hl => ?_
    refine ww_aload_n (pc := 53) g.1 d_Mo_load__53 rfl (lv_at hl 1 rfl) ?_
    refine ww_aload_n (pc := 54) g.1 d_Mo_load__54 rfl (lv_at hl 0 rfl) ?_
    refine ww_gR (pc := 55) g (k := 0) (cl_Va (Or.inr ⟨by decide, ca48⟩)) (pt rfl rfl ca48) (by decide) (Or.inl kw_92) (f := 2432) (t := 20) rfl rfl rfl d_Mo_load__55 ?_
    refine ww_aload_n (pc := 58) g.1 d_Mo_load__58 rfl (lv_at hl 1 rfl) ?_
    refine ww_gR (pc := 59) g (k := 50) cl_Mo (pz rfl (by decide)) (by decide) (Or.inl kw_93) (f := 50) (t := 63) rfl rfl rfl d_Mo_load__59 ?_
    refine ww_iload_n (pc := 62) g.1 d_Mo_load__62 rfl (lv_at hl 2 rfl) ?_
    refine ww_ai (pc := 63) g (pz rfl (by decide)) rfl rfl d_Mo_load__63 h fun v63 h => ?_
    refine ww_ab (pc := 64) g (pt rfl rfl ca48) rfl rfl d_Mo_load__64 h fun v64 h => ?_
    refine ww_pI (pc := 65) g (k := 66) cl_Mo (pz rfl (by decide)) (by decide) (Or.inl kw_94) rfl (f := 66) rfl rfl rfl rfl d_Mo_load__65 h fun s hs h => ?_
    refine ww_aload_n (pc := 68) g.1 d_Mo_load__68 rfl (lv_at hl 1 rfl) ?_
    refine ww_aload_n (pc := 69) g.1 d_Mo_load__69 rfl (lv_at hl 0 rfl) ?_
    refine ww_gR (pc := 70) g (k := 1) (cl_Va (Or.inr ⟨by decide, ca48⟩)) (pt rfl rfl ca48) (by decide) (Or.inl kw_95) (f := 2433) (t := 21) rfl rfl rfl d_Mo_load__70 ?_
    refine ww_aload_n (pc := 73) g.1 d_Mo_load__73 rfl (lv_at hl 1 rfl) ?_
    refine ww_gR (pc := 74) g (k := 50) cl_Mo (pz rfl (by decide)) (by decide) (Or.inl kw_93) (f := 50) (t := 63) rfl rfl rfl d_Mo_load__74 ?_
    refine ww_iload_n (pc := 77) g.1 d_Mo_load__77 rfl (lv_at hl 2 rfl) ?_
    refine ww_ai (pc := 78) g (pz rfl (by decide)) rfl rfl d_Mo_load__78 h fun v78 h => ?_
    refine ww_al (pc := 79) g (pt rfl rfl ca48) rfl rfl d_Mo_load__79 h fun v79 h => ?_
    refine ww_pL (pc := 80) g (k := 67) cl_Mo (pz rfl (by decide)) (by decide) (Or.inl kw_96) rfl (f := 67) rfl rfl rfl rfl d_Mo_load__80 h fun s hs h => ?_
    exact ww_vretH (pc := 83) g h hR d_Mo_load__83
  · refine ww_aload_n (pc := 9) g.1 d_Mo_load__9 rfl (lv_at hl 0 rfl) ?_
    refine ww_aload_n (pc := 10) g.1 d_Mo_load__10 rfl (lv_at hl 0 rfl) ?_
    refine ww_gR (pc := 11) g (k := 63) cl_Mo (pz rfl (by decide)) (by decide) (Or.inl kw_97) (f := 63) (t := 4) rfl rfl rfl d_Mo_load__11 ?_
    refine ww_gR (pc := 14) g (k := 0) (cl_Va (Or.inl ⟨by decide, rfl⟩)) (pz rfl (by decide)) (by decide) (Or.inl kw_92) (f := 512) (t := 5) rfl rfl rfl d_Mo_load__14 ?_
    refine ww_iload_n (pc := 17) g.1 d_Mo_load__17 rfl (lv_at hl 1 rfl) ?_
    refine ww_ab (pc := 18) g (pz rfl (by decide)) rfl rfl d_Mo_load__18 h fun v18 h => ?_
    refine ww_pI (pc := 19) g (k := 66) cl_Mo (pz rfl (by decide)) (by decide) (Or.inl kw_94) rfl (f := 66) rfl rfl rfl rfl d_Mo_load__19 h fun s hs h => ?_
    refine ww_aload_n (pc := 22) g.1 d_Mo_load__22 rfl (lv_at hl 0 rfl) ?_
    refine ww_aload_n (pc := 23) g.1 d_Mo_load__23 rfl (lv_at hl 0 rfl) ?_
    refine ww_gR (pc := 24) g (k := 63) cl_Mo (pz rfl (by decide)) (by decide) (Or.inl kw_97) (f := 63) (t := 4) rfl rfl rfl d_Mo_load__24 ?_
    refine ww_gR (pc := 27) g (k := 1) (cl_Va (Or.inl ⟨by decide, rfl⟩)) (pz rfl (by decide)) (by decide) (Or.inl kw_95) (f := 513) (t := 6) rfl rfl rfl d_Mo_load__27 ?_
    refine ww_iload_n (pc := 30) g.1 d_Mo_load__30 rfl (lv_at hl 1 rfl) ?_
    refine ww_al (pc := 31) g (pz rfl (by decide)) rfl rfl d_Mo_load__31 h fun v31 h => ?_
    refine ww_pL (pc := 32) g (k := 67) cl_Mo (pz rfl (by decide)) (by decide) (Or.inl kw_96) rfl (f := 67) rfl rfl rfl rfl d_Mo_load__32 h fun s hs h => ?_
    refine ww_goto (pc := 35) (tgt := 83) g.1 d_Mo_load__35 (by decide) ?_
    exact ww_vretH (pc := 83) g h hR d_Mo_load__83

abbrev b_Th_reach : ByteArray := prog_15_method_4_code
def y_Th_reach : MethodName := ⟨R_Th, "reach", "(LLuaMachineModel;)V"⟩
abbrev w_Th_reach : List Cond := .code y_Th_reach b_Th_reach 3 none :: wA
set_option maxRecDepth 20000 in
theorem k_Th_reach : Cond.code y_Th_reach b_Th_reach 3 none ∈ wA := kinm (show _ ∈ tables_1 from (List.mem_append_right _ (List.mem_append_right _ (List.mem_append_right _ (List.mem_append_right _ (List.mem_append_right _ (List.mem_append_right _ (List.mem_append_right _ (List.mem_append_right _ (List.mem_append_right _ (List.mem_append_right _ (List.mem_append_right _ (List.mem_append_left _ (List.mem_of_getElem? (l := tables_1_12) (i := 31) rfl)))))))))))))) rfl
theorem d_Th_reach_0 : decode b_Th_reach 0 = .ok (.aload_n 1, 1) := by decide +kernel
theorem d_Th_reach_1 : decode b_Th_reach 1 = .ok (.aload_n 0, 1) := by decide +kernel
theorem d_Th_reach_2 : decode b_Th_reach 2 = .ok (.getfield 45, 3) := by decide +kernel
theorem d_Th_reach_5 : decode b_Th_reach 5 = .ok (.iconst 0, 1) := by decide +kernel
theorem d_Th_reach_6 : decode b_Th_reach 6 = .ok (.aload_n 0, 1) := by decide +kernel
theorem d_Th_reach_7 : decode b_Th_reach 7 = .ok (.getfield 45, 3) := by decide +kernel
theorem d_Th_reach_10 : decode b_Th_reach 10 = .ok (.getfield 85, 3) := by decide +kernel
theorem d_Th_reach_13 : decode b_Th_reach 13 = .ok (.invokevirtual 88, 3) := by decide +kernel
theorem d_Th_reach_16 : decode b_Th_reach 16 = .ok (.iconst 0, 1) := by decide +kernel
theorem d_Th_reach_17 : decode b_Th_reach 17 = .ok (.istore_n 2, 1) := by decide +kernel
theorem d_Th_reach_18 : decode b_Th_reach 18 = .ok (.iload_n 2, 1) := by decide +kernel
theorem d_Th_reach_19 : decode b_Th_reach 19 = .ok (.aload_n 0, 1) := by decide +kernel
theorem d_Th_reach_20 : decode b_Th_reach 20 = .ok (.getfield 16, 3) := by decide +kernel
theorem d_Th_reach_23 : decode b_Th_reach 23 = .ok (.if_icmp .ge 109, 3) := by decide +kernel
theorem d_Th_reach_26 : decode b_Th_reach 26 = .ok (.aload_n 0, 1) := by decide +kernel
theorem d_Th_reach_27 : decode b_Th_reach 27 = .ok (.getfield 55, 3) := by decide +kernel
theorem d_Th_reach_30 : decode b_Th_reach 30 = .ok (.iload_n 2, 1) := by decide +kernel
theorem d_Th_reach_31 : decode b_Th_reach 31 = .ok (.iaload, 1) := by decide +kernel
theorem d_Th_reach_32 : decode b_Th_reach 32 = .ok (.ifCond .lt 13, 3) := by decide +kernel
theorem d_Th_reach_35 : decode b_Th_reach 35 = .ok (.aload_n 1, 1) := by decide +kernel
theorem d_Th_reach_36 : decode b_Th_reach 36 = .ok (.aload_n 0, 1) := by decide +kernel
theorem d_Th_reach_37 : decode b_Th_reach 37 = .ok (.getfield 55, 3) := by decide +kernel
theorem d_Th_reach_40 : decode b_Th_reach 40 = .ok (.iload_n 2, 1) := by decide +kernel
theorem d_Th_reach_41 : decode b_Th_reach 41 = .ok (.iaload, 1) := by decide +kernel
theorem d_Th_reach_42 : decode b_Th_reach 42 = .ok (.invokevirtual 94, 3) := by decide +kernel
theorem d_Th_reach_45 : decode b_Th_reach 45 = .ok (.aload_n 0, 1) := by decide +kernel
theorem d_Th_reach_46 : decode b_Th_reach 46 = .ok (.getfield 52, 3) := by decide +kernel
theorem d_Th_reach_49 : decode b_Th_reach 49 = .ok (.iload_n 2, 1) := by decide +kernel
theorem d_Th_reach_50 : decode b_Th_reach 50 = .ok (.iaload, 1) := by decide +kernel
theorem d_Th_reach_51 : decode b_Th_reach 51 = .ok (.ifCond .eq 6, 3) := by decide +kernel
theorem d_Th_reach_54 : decode b_Th_reach 54 = .ok (.goto 72, 3) := by decide +kernel
theorem d_Th_reach_57 : decode b_Th_reach 57 = .ok (.aload_n 1, 1) := by decide +kernel
theorem d_Th_reach_58 : decode b_Th_reach 58 = .ok (.aload_n 0, 1) := by decide +kernel
theorem d_Th_reach_59 : decode b_Th_reach 59 = .ok (.getfield 38, 3) := by decide +kernel
theorem d_Th_reach_62 : decode b_Th_reach 62 = .ok (.aload_n 0, 1) := by decide +kernel
theorem d_Th_reach_63 : decode b_Th_reach 63 = .ok (.getfield 61, 3) := by decide +kernel
theorem d_Th_reach_66 : decode b_Th_reach 66 = .ok (.iload_n 2, 1) := by decide +kernel
theorem d_Th_reach_67 : decode b_Th_reach 67 = .ok (.iaload, 1) := by decide +kernel
theorem d_Th_reach_68 : decode b_Th_reach 68 = .ok (.aload_n 0, 1) := by decide +kernel
theorem d_Th_reach_69 : decode b_Th_reach 69 = .ok (.getfield 64, 3) := by decide +kernel
theorem d_Th_reach_72 : decode b_Th_reach 72 = .ok (.iload_n 2, 1) := by decide +kernel
theorem d_Th_reach_73 : decode b_Th_reach 73 = .ok (.iaload, 1) := by decide +kernel
theorem d_Th_reach_74 : decode b_Th_reach 74 = .ok (.isub, 1) := by decide +kernel
theorem d_Th_reach_75 : decode b_Th_reach 75 = .ok (.aload_n 1, 1) := by decide +kernel
theorem d_Th_reach_76 : decode b_Th_reach 76 = .ok (.getfield 96, 3) := by decide +kernel
theorem d_Th_reach_79 : decode b_Th_reach 79 = .ok (.aload_n 1, 1) := by decide +kernel
theorem d_Th_reach_80 : decode b_Th_reach 80 = .ok (.getfield 99, 3) := by decide +kernel
theorem d_Th_reach_83 : decode b_Th_reach 83 = .ok (.aload_n 0, 1) := by decide +kernel
theorem d_Th_reach_84 : decode b_Th_reach 84 = .ok (.getfield 55, 3) := by decide +kernel
theorem d_Th_reach_87 : decode b_Th_reach 87 = .ok (.iload_n 2, 1) := by decide +kernel
theorem d_Th_reach_88 : decode b_Th_reach 88 = .ok (.iaload, 1) := by decide +kernel
theorem d_Th_reach_89 : decode b_Th_reach 89 = .ok (.iaload, 1) := by decide +kernel
theorem d_Th_reach_90 : decode b_Th_reach 90 = .ok (.iaload, 1) := by decide +kernel
theorem d_Th_reach_91 : decode b_Th_reach 91 = .ok (.aload_n 0, 1) := by decide +kernel
theorem d_Th_reach_92 : decode b_Th_reach 92 = .ok (.getfield 64, 3) := by decide +kernel
theorem d_Th_reach_95 : decode b_Th_reach 95 = .ok (.iload_n 2, 1) := by decide +kernel
theorem d_Th_reach_96 : decode b_Th_reach 96 = .ok (.iaload, 1) := by decide +kernel
theorem d_Th_reach_97 : decode b_Th_reach 97 = .ok (.iadd, 1) := by decide +kernel
theorem d_Th_reach_98 : decode b_Th_reach 98 = .ok (.invokevirtual 88, 3) := by decide +kernel
theorem d_Th_reach_101 : decode b_Th_reach 101 = .ok (.iload_n 2, 1) := by decide +kernel
theorem d_Th_reach_102 : decode b_Th_reach 102 = .ok (.aload_n 0, 1) := by decide +kernel
theorem d_Th_reach_103 : decode b_Th_reach 103 = .ok (.getfield 16, 3) := by decide +kernel
theorem d_Th_reach_106 : decode b_Th_reach 106 = .ok (.iconst 1, 1) := by decide +kernel
theorem d_Th_reach_107 : decode b_Th_reach 107 = .ok (.isub, 1) := by decide +kernel
theorem d_Th_reach_108 : decode b_Th_reach 108 = .ok (.if_icmp .ne 18, 3) := by decide +kernel
theorem d_Th_reach_111 : decode b_Th_reach 111 = .ok (.aload_n 1, 1) := by decide +kernel
theorem d_Th_reach_112 : decode b_Th_reach 112 = .ok (.aload_n 0, 1) := by decide +kernel
theorem d_Th_reach_113 : decode b_Th_reach 113 = .ok (.getfield 42, 3) := by decide +kernel
theorem d_Th_reach_116 : decode b_Th_reach 116 = .ok (.iconst 0, 1) := by decide +kernel
theorem d_Th_reach_117 : decode b_Th_reach 117 = .ok (.aload_n 0, 1) := by decide +kernel
theorem d_Th_reach_118 : decode b_Th_reach 118 = .ok (.getfield 70, 3) := by decide +kernel
theorem d_Th_reach_121 : decode b_Th_reach 121 = .ok (.iload_n 2, 1) := by decide +kernel
theorem d_Th_reach_122 : decode b_Th_reach 122 = .ok (.iaload, 1) := by decide +kernel
theorem d_Th_reach_123 : decode b_Th_reach 123 = .ok (.invokevirtual 88, 3) := by decide +kernel
theorem d_Th_reach_126 : decode b_Th_reach 126 = .ok (.iinc 2 1, 3) := by decide +kernel
theorem d_Th_reach_129 : decode b_Th_reach 129 = .ok (.goto (-111), 3) := by decide +kernel
theorem d_Th_reach_132 : decode b_Th_reach 132 = .ok (.iconst 0, 1) := by decide +kernel
theorem d_Th_reach_133 : decode b_Th_reach 133 = .ok (.istore_n 2, 1) := by decide +kernel
theorem d_Th_reach_134 : decode b_Th_reach 134 = .ok (.iload_n 2, 1) := by decide +kernel
theorem d_Th_reach_135 : decode b_Th_reach 135 = .ok (.aload_n 0, 1) := by decide +kernel
theorem d_Th_reach_136 : decode b_Th_reach 136 = .ok (.getfield 19, 3) := by decide +kernel
theorem d_Th_reach_139 : decode b_Th_reach 139 = .ok (.if_icmp .ge 19, 3) := by decide +kernel
theorem d_Th_reach_142 : decode b_Th_reach 142 = .ok (.aload_n 1, 1) := by decide +kernel
theorem d_Th_reach_143 : decode b_Th_reach 143 = .ok (.aload_n 0, 1) := by decide +kernel
theorem d_Th_reach_144 : decode b_Th_reach 144 = .ok (.getfield 48, 3) := by decide +kernel
theorem d_Th_reach_147 : decode b_Th_reach 147 = .ok (.iload_n 2, 1) := by decide +kernel
theorem d_Th_reach_148 : decode b_Th_reach 148 = .ok (.iaload, 1) := by decide +kernel
theorem d_Th_reach_149 : decode b_Th_reach 149 = .ok (.invokevirtual 94, 3) := by decide +kernel
theorem d_Th_reach_152 : decode b_Th_reach 152 = .ok (.iinc 2 1, 3) := by decide +kernel
theorem d_Th_reach_155 : decode b_Th_reach 155 = .ok (.goto (-21), 3) := by decide +kernel
theorem d_Th_reach_158 : decode b_Th_reach 158 = .ok (.return_, 1) := by decide +kernel
abbrev b_Mo_sweep : ByteArray := prog_14_method_49_code
def y_Mo_sweep : MethodName := ⟨R_Mo, "sweep", "()V"⟩
abbrev w_Mo_sweep : List Cond := .code y_Mo_sweep b_Mo_sweep 5 none :: wA
set_option maxRecDepth 20000 in
theorem k_Mo_sweep : Cond.code y_Mo_sweep b_Mo_sweep 5 none ∈ wA := kinm (show _ ∈ tables_1 from (List.mem_append_right _ (List.mem_append_right _ (List.mem_append_right _ (List.mem_append_right _ (List.mem_append_right _ (List.mem_append_right _ (List.mem_append_right _ (List.mem_append_right _ (List.mem_append_right _ (List.mem_append_right _ (List.mem_append_right _ (List.mem_append_left _ (List.mem_of_getElem? (l := tables_1_12) (i := 37) rfl)))))))))))))) rfl
theorem d_Mo_sweep_0 : decode b_Mo_sweep 0 = .ok (.aload_n 0, 1) := by decide +kernel
theorem d_Mo_sweep_1 : decode b_Mo_sweep 1 = .ok (.getfield 222, 3) := by decide +kernel
theorem d_Mo_sweep_4 : decode b_Mo_sweep 4 = .ok (.istore_n 1, 1) := by decide +kernel
theorem d_Mo_sweep_5 : decode b_Mo_sweep 5 = .ok (.aload_n 0, 1) := by decide +kernel
theorem d_Mo_sweep_6 : decode b_Mo_sweep 6 = .ok (.getfield 225, 3) := by decide +kernel
theorem d_Mo_sweep_9 : decode b_Mo_sweep 9 = .ok (.lstore_n 2, 1) := by decide +kernel
theorem d_Mo_sweep_10 : decode b_Mo_sweep 10 = .ok (.iconst 0, 1) := by decide +kernel
theorem d_Mo_sweep_11 : decode b_Mo_sweep 11 = .ok (.istore 4, 2) := by decide +kernel
theorem d_Mo_sweep_13 : decode b_Mo_sweep 13 = .ok (.iload 4, 2) := by decide +kernel
theorem d_Mo_sweep_15 : decode b_Mo_sweep 15 = .ok (.aload_n 0, 1) := by decide +kernel
theorem d_Mo_sweep_16 : decode b_Mo_sweep 16 = .ok (.getfield 140, 3) := by decide +kernel
theorem d_Mo_sweep_19 : decode b_Mo_sweep 19 = .ok (.if_icmp .ge 60, 3) := by decide +kernel
theorem d_Mo_sweep_22 : decode b_Mo_sweep 22 = .ok (.aload_n 0, 1) := by decide +kernel
theorem d_Mo_sweep_23 : decode b_Mo_sweep 23 = .ok (.getfield 155, 3) := by decide +kernel
theorem d_Mo_sweep_26 : decode b_Mo_sweep 26 = .ok (.iload 4, 2) := by decide +kernel
theorem d_Mo_sweep_28 : decode b_Mo_sweep 28 = .ok (.baload, 1) := by decide +kernel
theorem d_Mo_sweep_29 : decode b_Mo_sweep 29 = .ok (.ifCond .eq 44, 3) := by decide +kernel
theorem d_Mo_sweep_32 : decode b_Mo_sweep 32 = .ok (.aload_n 0, 1) := by decide +kernel
theorem d_Mo_sweep_33 : decode b_Mo_sweep 33 = .ok (.getfield 158, 3) := by decide +kernel
theorem d_Mo_sweep_36 : decode b_Mo_sweep 36 = .ok (.iload 4, 2) := by decide +kernel
theorem d_Mo_sweep_38 : decode b_Mo_sweep 38 = .ok (.baload, 1) := by decide +kernel
theorem d_Mo_sweep_39 : decode b_Mo_sweep 39 = .ok (.ifCond .eq 6, 3) := by decide +kernel
theorem d_Mo_sweep_42 : decode b_Mo_sweep 42 = .ok (.goto 31, 3) := by decide +kernel
theorem d_Mo_sweep_45 : decode b_Mo_sweep 45 = .ok (.aload_n 0, 1) := by decide +kernel
theorem d_Mo_sweep_46 : decode b_Mo_sweep 46 = .ok (.getfield 155, 3) := by decide +kernel
theorem d_Mo_sweep_49 : decode b_Mo_sweep 49 = .ok (.iload 4, 2) := by decide +kernel
theorem d_Mo_sweep_51 : decode b_Mo_sweep 51 = .ok (.baload, 1) := by decide +kernel
theorem d_Mo_sweep_52 : decode b_Mo_sweep 52 = .ok (.bipush 7, 2) := by decide +kernel
theorem d_Mo_sweep_54 : decode b_Mo_sweep 54 = .ok (.if_icmp .ne 19, 3) := by decide +kernel
theorem d_Mo_sweep_57 : decode b_Mo_sweep 57 = .ok (.aload_n 0, 1) := by decide +kernel
theorem d_Mo_sweep_58 : decode b_Mo_sweep 58 = .ok (.aload_n 0, 1) := by decide +kernel
theorem d_Mo_sweep_59 : decode b_Mo_sweep 59 = .ok (.getfield 239, 3) := by decide +kernel
theorem d_Mo_sweep_62 : decode b_Mo_sweep 62 = .ok (.aload_n 0, 1) := by decide +kernel
theorem d_Mo_sweep_63 : decode b_Mo_sweep 63 = .ok (.getfield 168, 3) := by decide +kernel
theorem d_Mo_sweep_66 : decode b_Mo_sweep 66 = .ok (.iload 4, 2) := by decide +kernel
theorem d_Mo_sweep_68 : decode b_Mo_sweep 68 = .ok (.iaload, 1) := by decide +kernel
theorem d_Mo_sweep_69 : decode b_Mo_sweep 69 = .ok (.aaload, 1) := by decide +kernel
theorem d_Mo_sweep_70 : decode b_Mo_sweep 70 = .ok (.invokevirtual 633, 3) := by decide +kernel
theorem d_Mo_sweep_73 : decode b_Mo_sweep 73 = .ok (.iinc 4 1, 3) := by decide +kernel
theorem d_Mo_sweep_76 : decode b_Mo_sweep 76 = .ok (.goto (-63), 3) := by decide +kernel
theorem d_Mo_sweep_79 : decode b_Mo_sweep 79 = .ok (.iconst 0, 1) := by decide +kernel
theorem d_Mo_sweep_80 : decode b_Mo_sweep 80 = .ok (.istore 4, 2) := by decide +kernel
theorem d_Mo_sweep_82 : decode b_Mo_sweep 82 = .ok (.iload 4, 2) := by decide +kernel
theorem d_Mo_sweep_84 : decode b_Mo_sweep 84 = .ok (.aload_n 0, 1) := by decide +kernel
theorem d_Mo_sweep_85 : decode b_Mo_sweep 85 = .ok (.getfield 140, 3) := by decide +kernel
theorem d_Mo_sweep_88 : decode b_Mo_sweep 88 = .ok (.if_icmp .ge 158, 3) := by decide +kernel
theorem d_Mo_sweep_91 : decode b_Mo_sweep 91 = .ok (.aload_n 0, 1) := by decide +kernel
theorem d_Mo_sweep_92 : decode b_Mo_sweep 92 = .ok (.getfield 155, 3) := by decide +kernel
theorem d_Mo_sweep_95 : decode b_Mo_sweep 95 = .ok (.iload 4, 2) := by decide +kernel
theorem d_Mo_sweep_97 : decode b_Mo_sweep 97 = .ok (.baload, 1) := by decide +kernel
theorem d_Mo_sweep_98 : decode b_Mo_sweep 98 = .ok (.ifCond .eq 142, 3) := by decide +kernel
theorem d_Mo_sweep_101 : decode b_Mo_sweep 101 = .ok (.aload_n 0, 1) := by decide +kernel
theorem d_Mo_sweep_102 : decode b_Mo_sweep 102 = .ok (.getfield 158, 3) := by decide +kernel
theorem d_Mo_sweep_105 : decode b_Mo_sweep 105 = .ok (.iload 4, 2) := by decide +kernel
theorem d_Mo_sweep_107 : decode b_Mo_sweep 107 = .ok (.baload, 1) := by decide +kernel
theorem d_Mo_sweep_108 : decode b_Mo_sweep 108 = .ok (.ifCond .eq 6, 3) := by decide +kernel
theorem d_Mo_sweep_111 : decode b_Mo_sweep 111 = .ok (.goto 129, 3) := by decide +kernel
theorem d_Mo_sweep_114 : decode b_Mo_sweep 114 = .ok (.aload_n 0, 1) := by decide +kernel
theorem d_Mo_sweep_115 : decode b_Mo_sweep 115 = .ok (.getfield 155, 3) := by decide +kernel
theorem d_Mo_sweep_118 : decode b_Mo_sweep 118 = .ok (.iload 4, 2) := by decide +kernel
theorem d_Mo_sweep_120 : decode b_Mo_sweep 120 = .ok (.baload, 1) := by decide +kernel
theorem d_Mo_sweep_121 : decode b_Mo_sweep 121 = .ok (.iconst 4, 1) := by decide +kernel
theorem d_Mo_sweep_122 : decode b_Mo_sweep 122 = .ok (.if_icmp .ne 12, 3) := by decide +kernel
theorem d_Mo_sweep_125 : decode b_Mo_sweep 125 = .ok (.aload_n 0, 1) := by decide +kernel
theorem d_Mo_sweep_126 : decode b_Mo_sweep 126 = .ok (.iload 4, 2) := by decide +kernel
theorem d_Mo_sweep_128 : decode b_Mo_sweep 128 = .ok (.invokevirtual 637, 3) := by decide +kernel
theorem d_Mo_sweep_131 : decode b_Mo_sweep 131 = .ok (.goto 73, 3) := by decide +kernel
theorem d_Mo_sweep_134 : decode b_Mo_sweep 134 = .ok (.aload_n 0, 1) := by decide +kernel
theorem d_Mo_sweep_135 : decode b_Mo_sweep 135 = .ok (.getfield 155, 3) := by decide +kernel
theorem d_Mo_sweep_138 : decode b_Mo_sweep 138 = .ok (.iload 4, 2) := by decide +kernel
theorem d_Mo_sweep_140 : decode b_Mo_sweep 140 = .ok (.baload, 1) := by decide +kernel
theorem d_Mo_sweep_141 : decode b_Mo_sweep 141 = .ok (.iconst 5, 1) := by decide +kernel
theorem d_Mo_sweep_142 : decode b_Mo_sweep 142 = .ok (.if_icmp .ne 22, 3) := by decide +kernel
theorem d_Mo_sweep_145 : decode b_Mo_sweep 145 = .ok (.aload_n 0, 1) := by decide +kernel
theorem d_Mo_sweep_146 : decode b_Mo_sweep 146 = .ok (.dup, 1) := by decide +kernel
theorem d_Mo_sweep_147 : decode b_Mo_sweep 147 = .ok (.getfield 128, 3) := by decide +kernel
theorem d_Mo_sweep_150 : decode b_Mo_sweep 150 = .ok (.aload_n 0, 1) := by decide +kernel
theorem d_Mo_sweep_151 : decode b_Mo_sweep 151 = .ok (.getfield 171, 3) := by decide +kernel
theorem d_Mo_sweep_154 : decode b_Mo_sweep 154 = .ok (.iload 4, 2) := by decide +kernel
theorem d_Mo_sweep_156 : decode b_Mo_sweep 156 = .ok (.iaload, 1) := by decide +kernel
theorem d_Mo_sweep_157 : decode b_Mo_sweep 157 = .ok (.isub, 1) := by decide +kernel
theorem d_Mo_sweep_158 : decode b_Mo_sweep 158 = .ok (.putfield 128, 3) := by decide +kernel
theorem d_Mo_sweep_161 : decode b_Mo_sweep 161 = .ok (.goto 43, 3) := by decide +kernel
theorem d_Mo_sweep_164 : decode b_Mo_sweep 164 = .ok (.aload_n 0, 1) := by decide +kernel
theorem d_Mo_sweep_165 : decode b_Mo_sweep 165 = .ok (.getfield 155, 3) := by decide +kernel
theorem d_Mo_sweep_168 : decode b_Mo_sweep 168 = .ok (.iload 4, 2) := by decide +kernel
theorem d_Mo_sweep_170 : decode b_Mo_sweep 170 = .ok (.baload, 1) := by decide +kernel
theorem d_Mo_sweep_171 : decode b_Mo_sweep 171 = .ok (.bipush 8, 2) := by decide +kernel
theorem d_Mo_sweep_173 : decode b_Mo_sweep 173 = .ok (.if_icmp .ne 31, 3) := by decide +kernel
theorem d_Mo_sweep_176 : decode b_Mo_sweep 176 = .ok (.aload_n 0, 1) := by decide +kernel
theorem d_Mo_sweep_177 : decode b_Mo_sweep 177 = .ok (.getfield 168, 3) := by decide +kernel
theorem d_Mo_sweep_180 : decode b_Mo_sweep 180 = .ok (.iload 4, 2) := by decide +kernel
theorem d_Mo_sweep_182 : decode b_Mo_sweep 182 = .ok (.iaload, 1) := by decide +kernel
theorem d_Mo_sweep_183 : decode b_Mo_sweep 183 = .ok (.ifCond .lt 21, 3) := by decide +kernel
theorem d_Mo_sweep_186 : decode b_Mo_sweep 186 = .ok (.aload_n 0, 1) := by decide +kernel
theorem d_Mo_sweep_187 : decode b_Mo_sweep 187 = .ok (.aload_n 0, 1) := by decide +kernel
theorem d_Mo_sweep_188 : decode b_Mo_sweep 188 = .ok (.getfield 239, 3) := by decide +kernel
theorem d_Mo_sweep_191 : decode b_Mo_sweep 191 = .ok (.aload_n 0, 1) := by decide +kernel
theorem d_Mo_sweep_192 : decode b_Mo_sweep 192 = .ok (.getfield 168, 3) := by decide +kernel
theorem d_Mo_sweep_195 : decode b_Mo_sweep 195 = .ok (.iload 4, 2) := by decide +kernel
theorem d_Mo_sweep_197 : decode b_Mo_sweep 197 = .ok (.iaload, 1) := by decide +kernel
theorem d_Mo_sweep_198 : decode b_Mo_sweep 198 = .ok (.aaload, 1) := by decide +kernel
theorem d_Mo_sweep_199 : decode b_Mo_sweep 199 = .ok (.iload 4, 2) := by decide +kernel
theorem d_Mo_sweep_201 : decode b_Mo_sweep 201 = .ok (.invokevirtual 640, 3) := by decide +kernel
theorem d_Mo_sweep_204 : decode b_Mo_sweep 204 = .ok (.aload_n 0, 1) := by decide +kernel
theorem d_Mo_sweep_205 : decode b_Mo_sweep 205 = .ok (.getfield 155, 3) := by decide +kernel
theorem d_Mo_sweep_208 : decode b_Mo_sweep 208 = .ok (.iload 4, 2) := by decide +kernel
theorem d_Mo_sweep_210 : decode b_Mo_sweep 210 = .ok (.iconst 0, 1) := by decide +kernel
theorem d_Mo_sweep_211 : decode b_Mo_sweep 211 = .ok (.bastore, 1) := by decide +kernel
theorem d_Mo_sweep_212 : decode b_Mo_sweep 212 = .ok (.aload_n 0, 1) := by decide +kernel
theorem d_Mo_sweep_213 : decode b_Mo_sweep 213 = .ok (.dup, 1) := by decide +kernel
theorem d_Mo_sweep_214 : decode b_Mo_sweep 214 = .ok (.getfield 122, 3) := by decide +kernel
theorem d_Mo_sweep_217 : decode b_Mo_sweep 217 = .ok (.iconst 1, 1) := by decide +kernel
theorem d_Mo_sweep_218 : decode b_Mo_sweep 218 = .ok (.isub, 1) := by decide +kernel
theorem d_Mo_sweep_219 : decode b_Mo_sweep 219 = .ok (.putfield 122, 3) := by decide +kernel
theorem d_Mo_sweep_222 : decode b_Mo_sweep 222 = .ok (.aload_n 0, 1) := by decide +kernel
theorem d_Mo_sweep_223 : decode b_Mo_sweep 223 = .ok (.getfield 180, 3) := by decide +kernel
theorem d_Mo_sweep_226 : decode b_Mo_sweep 226 = .ok (.aload_n 0, 1) := by decide +kernel
theorem d_Mo_sweep_227 : decode b_Mo_sweep 227 = .ok (.dup, 1) := by decide +kernel
theorem d_Mo_sweep_228 : decode b_Mo_sweep 228 = .ok (.getfield 183, 3) := by decide +kernel
theorem d_Mo_sweep_231 : decode b_Mo_sweep 231 = .ok (.dup_x1, 1) := by decide +kernel
theorem d_Mo_sweep_232 : decode b_Mo_sweep 232 = .ok (.iconst 1, 1) := by decide +kernel
theorem d_Mo_sweep_233 : decode b_Mo_sweep 233 = .ok (.iadd, 1) := by decide +kernel
theorem d_Mo_sweep_234 : decode b_Mo_sweep 234 = .ok (.putfield 183, 3) := by decide +kernel
theorem d_Mo_sweep_237 : decode b_Mo_sweep 237 = .ok (.iload 4, 2) := by decide +kernel
theorem d_Mo_sweep_239 : decode b_Mo_sweep 239 = .ok (.iastore, 1) := by decide +kernel
theorem d_Mo_sweep_240 : decode b_Mo_sweep 240 = .ok (.iinc 4 1, 3) := by decide +kernel
theorem d_Mo_sweep_243 : decode b_Mo_sweep 243 = .ok (.goto (-161), 3) := by decide +kernel
theorem d_Mo_sweep_246 : decode b_Mo_sweep 246 = .ok (.aload_n 0, 1) := by decide +kernel
theorem d_Mo_sweep_247 : decode b_Mo_sweep 247 = .ok (.iload_n 1, 1) := by decide +kernel
theorem d_Mo_sweep_248 : decode b_Mo_sweep 248 = .ok (.putfield 222, 3) := by decide +kernel
theorem d_Mo_sweep_251 : decode b_Mo_sweep 251 = .ok (.aload_n 0, 1) := by decide +kernel
theorem d_Mo_sweep_252 : decode b_Mo_sweep 252 = .ok (.lload_n 2, 1) := by decide +kernel
theorem d_Mo_sweep_253 : decode b_Mo_sweep 253 = .ok (.putfield 225, 3) := by decide +kernel
theorem d_Mo_sweep_256 : decode b_Mo_sweep 256 = .ok (.return_, 1) := by decide +kernel
abbrev b_Mo_threadGoes : ByteArray := prog_14_method_50_code
def y_Mo_threadGoes : MethodName := ⟨R_Mo, "threadGoes", "(LLuaMachineModel$Thread_;)V"⟩
abbrev w_Mo_threadGoes : List Cond := .code y_Mo_threadGoes b_Mo_threadGoes 3 none :: wA
theorem k_Mo_threadGoes : Cond.code y_Mo_threadGoes b_Mo_threadGoes 3 none ∈ wA := kinm (show _ ∈ tables_1 from (List.mem_append_right _ (List.mem_append_right _ (List.mem_append_right _ (List.mem_append_right _ (List.mem_append_right _ (List.mem_append_right _ (List.mem_append_right _ (List.mem_append_right _ (List.mem_append_right _ (List.mem_append_right _ (List.mem_append_right _ (List.mem_append_left _ (List.mem_of_getElem? (l := tables_1_12) (i := 41) (by decide +kernel))))))))))))))) (by decide +kernel)
theorem d_Mo_threadGoes_0 : decode b_Mo_threadGoes 0 = .ok (.iconst 0, 1) := by decide +kernel
theorem d_Mo_threadGoes_1 : decode b_Mo_threadGoes 1 = .ok (.istore_n 2, 1) := by decide +kernel
theorem d_Mo_threadGoes_2 : decode b_Mo_threadGoes 2 = .ok (.iload_n 2, 1) := by decide +kernel
theorem d_Mo_threadGoes_3 : decode b_Mo_threadGoes 3 = .ok (.aload_n 1, 1) := by decide +kernel
theorem d_Mo_threadGoes_4 : decode b_Mo_threadGoes 4 = .ok (.getfield 597, 3) := by decide +kernel
theorem d_Mo_threadGoes_7 : decode b_Mo_threadGoes 7 = .ok (.if_icmp .ge 19, 3) := by decide +kernel
theorem d_Mo_threadGoes_10 : decode b_Mo_threadGoes 10 = .ok (.aload_n 0, 1) := by decide +kernel
theorem d_Mo_threadGoes_11 : decode b_Mo_threadGoes 11 = .ok (.aload_n 1, 1) := by decide +kernel
theorem d_Mo_threadGoes_12 : decode b_Mo_threadGoes 12 = .ok (.getfield 600, 3) := by decide +kernel
theorem d_Mo_threadGoes_15 : decode b_Mo_threadGoes 15 = .ok (.iload_n 2, 1) := by decide +kernel
theorem d_Mo_threadGoes_16 : decode b_Mo_threadGoes 16 = .ok (.iaload, 1) := by decide +kernel
theorem d_Mo_threadGoes_17 : decode b_Mo_threadGoes 17 = .ok (.invokevirtual 603, 3) := by decide +kernel
theorem d_Mo_threadGoes_20 : decode b_Mo_threadGoes 20 = .ok (.iinc 2 1, 3) := by decide +kernel
theorem d_Mo_threadGoes_23 : decode b_Mo_threadGoes 23 = .ok (.goto (-21), 3) := by decide +kernel
theorem d_Mo_threadGoes_26 : decode b_Mo_threadGoes 26 = .ok (.aload_n 1, 1) := by decide +kernel
theorem d_Mo_threadGoes_27 : decode b_Mo_threadGoes 27 = .ok (.iconst 0, 1) := by decide +kernel
theorem d_Mo_threadGoes_28 : decode b_Mo_threadGoes 28 = .ok (.putfield 597, 3) := by decide +kernel
theorem d_Mo_threadGoes_31 : decode b_Mo_threadGoes 31 = .ok (.aload_n 1, 1) := by decide +kernel
theorem d_Mo_threadGoes_32 : decode b_Mo_threadGoes 32 = .ok (.iconst (-1), 1) := by decide +kernel
theorem d_Mo_threadGoes_33 : decode b_Mo_threadGoes 33 = .ok (.putfield 615, 3) := by decide +kernel
theorem d_Mo_threadGoes_36 : decode b_Mo_threadGoes 36 = .ok (.aload_n 0, 1) := by decide +kernel
theorem d_Mo_threadGoes_37 : decode b_Mo_threadGoes 37 = .ok (.dup, 1) := by decide +kernel
theorem d_Mo_threadGoes_38 : decode b_Mo_threadGoes 38 = .ok (.getfield 137, 3) := by decide +kernel
theorem d_Mo_threadGoes_41 : decode b_Mo_threadGoes 41 = .ok (.iconst 1, 1) := by decide +kernel
theorem d_Mo_threadGoes_42 : decode b_Mo_threadGoes 42 = .ok (.isub, 1) := by decide +kernel
theorem d_Mo_threadGoes_43 : decode b_Mo_threadGoes 43 = .ok (.putfield 137, 3) := by decide +kernel
theorem d_Mo_threadGoes_46 : decode b_Mo_threadGoes 46 = .ok (.return_, 1) := by decide +kernel
abbrev b_Mo_closeVariable : ByteArray := prog_14_method_42_code
def y_Mo_closeVariable : MethodName := ⟨R_Mo, "closeVariable", "(I)V"⟩
abbrev w_Mo_closeVariable : List Cond := .code y_Mo_closeVariable b_Mo_closeVariable 2 none :: wA
theorem k_Mo_closeVariable : Cond.code y_Mo_closeVariable b_Mo_closeVariable 2 none ∈ wA := kinm (show _ ∈ tables_1 from (List.mem_append_right _ (List.mem_append_right _ (List.mem_append_right _ (List.mem_append_right _ (List.mem_append_right _ (List.mem_append_right _ (List.mem_append_right _ (List.mem_append_right _ (List.mem_append_right _ (List.mem_append_right _ (List.mem_append_right _ (List.mem_append_left _ (List.mem_of_getElem? (l := tables_1_12) (i := 45) (by decide +kernel))))))))))))))) (by decide +kernel)
theorem d_Mo_closeVariable_0 : decode b_Mo_closeVariable 0 = .ok (.aload_n 0, 1) := by decide +kernel
theorem d_Mo_closeVariable_1 : decode b_Mo_closeVariable 1 = .ok (.iload_n 1, 1) := by decide +kernel
theorem d_Mo_closeVariable_2 : decode b_Mo_closeVariable 2 = .ok (.invokevirtual 594, 3) := by decide +kernel
theorem d_Mo_closeVariable_5 : decode b_Mo_closeVariable 5 = .ok (.aload_n 0, 1) := by decide +kernel
theorem d_Mo_closeVariable_6 : decode b_Mo_closeVariable 6 = .ok (.getfield 168, 3) := by decide +kernel
theorem d_Mo_closeVariable_9 : decode b_Mo_closeVariable 9 = .ok (.iload_n 1, 1) := by decide +kernel
theorem d_Mo_closeVariable_10 : decode b_Mo_closeVariable 10 = .ok (.iconst (-1), 1) := by decide +kernel
theorem d_Mo_closeVariable_11 : decode b_Mo_closeVariable 11 = .ok (.iastore, 1) := by decide +kernel
theorem d_Mo_closeVariable_12 : decode b_Mo_closeVariable 12 = .ok (.aload_n 0, 1) := by decide +kernel
theorem d_Mo_closeVariable_13 : decode b_Mo_closeVariable 13 = .ok (.getfield 212, 3) := by decide +kernel
theorem d_Mo_closeVariable_16 : decode b_Mo_closeVariable 16 = .ok (.iload_n 1, 1) := by decide +kernel
theorem d_Mo_closeVariable_17 : decode b_Mo_closeVariable 17 = .ok (.aload_n 0, 1) := by decide +kernel
theorem d_Mo_closeVariable_18 : decode b_Mo_closeVariable 18 = .ok (.getfield 222, 3) := by decide +kernel
theorem d_Mo_closeVariable_21 : decode b_Mo_closeVariable 21 = .ok (.aload_n 0, 1) := by decide +kernel
theorem d_Mo_closeVariable_22 : decode b_Mo_closeVariable 22 = .ok (.getfield 225, 3) := by decide +kernel
theorem d_Mo_closeVariable_25 : decode b_Mo_closeVariable 25 = .ok (.invokevirtual 470, 3) := by decide +kernel
theorem d_Mo_closeVariable_28 : decode b_Mo_closeVariable 28 = .ok (.return_, 1) := by decide +kernel
theorem kw_100 : Cond.methodLink R_Mo 594 y_Mo_load_ ∈ wA := kinm (show _ ∈ tables_1 from (List.mem_append_right _ (List.mem_append_right _ (List.mem_append_right _ (List.mem_append_right _ (List.mem_append_right _ (List.mem_append_right _ (List.mem_append_right _ (List.mem_append_right _ (List.mem_append_right _ (List.mem_append_right _ (List.mem_append_right _ (List.mem_append_left _ (List.mem_of_getElem? (l := tables_1_12) (i := 24) (by decide +kernel))))))))))))))) (by decide +kernel)
theorem kw_101 : Cond.methodLink R_Mo 470 y_Va_set ∈ wA := kinm (show _ ∈ tables_1 from (List.mem_append_right _ (List.mem_append_right _ (List.mem_append_right _ (List.mem_append_right _ (List.mem_append_right _ (List.mem_append_right _ (List.mem_append_right _ (List.mem_append_right _ (List.mem_append_right _ (List.mem_append_right _ (List.mem_append_left _ (List.mem_of_getElem? (l := tables_1_11) (i := 162) (by decide +kernel)))))))))))))) (by decide +kernel)
theorem kw_102 : Cond.instanceMethod y_Mo_closeVariable ∈ wA := kinm (show _ ∈ tables_1 from (List.mem_append_right _ (List.mem_append_right _ (List.mem_append_right _ (List.mem_append_right _ (List.mem_append_right _ (List.mem_append_right _ (List.mem_append_right _ (List.mem_append_right _ (List.mem_append_right _ (List.mem_append_right _ (List.mem_append_right _ (List.mem_append_left _ (List.mem_of_getElem? (l := tables_1_12) (i := 44) (by decide +kernel))))))))))))))) (by decide +kernel)
theorem kw_103 : Cond.selects R_Mo y_Mo_closeVariable y_Mo_closeVariable ∈ wA := kinp 137 (by decide +kernel) (by decide +kernel)
def M_Mo_closeVariable (l1 : Int32) : M (Unit) :=
  oB (M_Mo_load_ l1) fun _ =>
  oB (oSI 62 4100 0 l1 (-1)) fun _ =>
  oB (oGI 66 0) fun v18 =>
  oB (oGL 67 0) fun v22 =>
  oB (M_Va_set 4 0 l1 v18 v22) fun _ =>
  oR ()

theorem cv_Mo_closeVariable : CV y_Mo_closeVariable b_Mo_closeVariable 2 none 1 := ⟨kw_102, kw_103, kw_17, k_Mo_closeVariable, by decide +kernel⟩
theorem ct_Mo_closeVariable {l : Launch} {P : PP} {q : PL} {s s' : S1} {l1 : Int32} {r : Unit} (h : M_Mo_closeVariable l1 s = some (r, s')) : Ct l y_Mo_closeVariable b_Mo_closeVariable 2 none 1 24 P q s [.ref (q.1 0 0), .int l1] none q s' := by
  refine ct_of (by decide) (Nat.le_of_ble_eq_true rfl) fun X ls eP el g hR hl => ?_
  have hR : Rt X q ((r, s') : Unit × S1).2 none := hR
  have hl : lv_has ls 2 [(0, .ref (q.1 0 0)), (1, .int l1)] := hl
  generalize (r, s') = o at h hR
  unfold M_Mo_closeVariable at h
  refine ww_aload_n (pc := 0) g.1 d_Mo_closeVariable_0 rfl (lv_at hl 0 rfl) ?_
  refine ww_iload_n (pc := 1) g.1 d_Mo_closeVariable_1 rfl (lv_at hl 1 rfl) ?_
  obtain ⟨v2, s, hc2, h⟩ := oB_of h
  refine ww_callV (pc := 2) (rest := []) g cv_Mo_load_ (Or.inl kw_100) cl_Mo (pz rfl (by decide)) (ct_Mo_load_ hc2) ⟨by decide, by decide⟩ rfl hl.1 (Nat.le_of_ble_eq_true rfl) d_Mo_closeVariable_2 rfl ?_
  refine ww_st (st' := []) rfl ?_
  refine ww_aload_n (pc := 5) g.1 d_Mo_closeVariable_5 rfl (lv_at hl 0 rfl) ?_
  refine ww_gR (pc := 6) g (k := 49) cl_Mo (pz rfl (by decide)) (by decide) (Or.inl kw_89) (f := 49) (t := 62) rfl rfl rfl d_Mo_closeVariable_6 ?_
  refine ww_iload_n (pc := 9) g.1 d_Mo_closeVariable_9 rfl (lv_at hl 1 rfl) ?_
  refine ww_iconst (pc := 10) g.1 (v := (-1)) d_Mo_closeVariable_10 (by decide) ?_
  refine ww_si (pc := 11) g (pz rfl (by decide)) rfl rfl d_Mo_closeVariable_11 h fun s hs h => ?_
  refine ww_aload_n (pc := 12) g.1 d_Mo_closeVariable_12 rfl (lv_at hl 0 rfl) ?_
  refine ww_gR (pc := 13) g (k := 63) cl_Mo (pz rfl (by decide)) (by decide) (Or.inl kw_97) (f := 63) (t := 4) rfl rfl rfl d_Mo_closeVariable_13 ?_
  refine ww_iload_n (pc := 16) g.1 d_Mo_closeVariable_16 rfl (lv_at hl 1 rfl) ?_
  refine ww_aload_n (pc := 17) g.1 d_Mo_closeVariable_17 rfl (lv_at hl 0 rfl) ?_
  refine ww_gI (pc := 18) g (k := 66) cl_Mo (pz rfl (by decide)) (by decide) (Or.inl kw_94) (f := 66) rfl rfl d_Mo_closeVariable_18 h fun v18 h => ?_
  refine ww_aload_n (pc := 21) g.1 d_Mo_closeVariable_21 rfl (lv_at hl 0 rfl) ?_
  refine ww_gL (pc := 22) g (k := 67) cl_Mo (pz rfl (by decide)) (by decide) (Or.inl kw_96) (f := 67) rfl rfl d_Mo_closeVariable_22 h fun v22 h => ?_
  obtain ⟨v25, s, hc25, h⟩ := oB_of h
  refine ww_callV (pc := 25) (rest := []) g cv_Va_set (Or.inl kw_101) (cl_Va (Or.inl ⟨by decide, rfl⟩)) (pz rfl (by decide)) (ct_Va_set (Or.inl ⟨by decide, rfl⟩) hc25) ⟨by decide, by decide⟩ rfl hl.1 (Nat.le_of_ble_eq_true rfl) d_Mo_closeVariable_25 rfl ?_
  refine ww_st (st' := []) rfl ?_
  exact ww_vretH (pc := 28) g h hR d_Mo_closeVariable_28

