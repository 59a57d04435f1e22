abbrev b_Mo_reg : ByteArray := prog_14_method_21_code
def y_Mo_reg : MethodName := ⟨R_Mo, "reg", "(I)Z"⟩
abbrev w_Mo_reg : List Cond := .code y_Mo_reg b_Mo_reg 2 (some .boolean) :: wA
theorem k_Mo_reg : Cond.code y_Mo_reg b_Mo_reg 2 (some .boolean) ∈ wA := kinm (show _ ∈ tables_1 from (List.mem_append_right _ (List.mem_append_right _ (List.mem_append_right _ (List.mem_append_right _ (List.mem_append_right _ (List.mem_append_right _ (List.mem_append_right _ (List.mem_append_right _ (List.mem_append_right _ (List.mem_append_right _ (List.mem_append_left _ (List.mem_of_getElem? (l := tables_1_11) (i := 203) (by decide +kernel)))))))))))))) (by decide +kernel)
theorem d_Mo_reg_0 : decode b_Mo_reg 0 = .ok (.iload_n 1, 1) := by decide +kernel
theorem d_Mo_reg_1 : decode b_Mo_reg 1 = .ok (.aload_n 0, 1) := by decide +kernel
theorem d_Mo_reg_2 : decode b_Mo_reg 2 = .ok (.getfield 110, 3) := by decide +kernel
theorem d_Mo_reg_5 : decode b_Mo_reg 5 = .ok (.if_icmp .ge 7, 3) := by decide +kernel
theorem d_Mo_reg_8 : decode b_Mo_reg 8 = .ok (.iconst 1, 1) := by decide +kernel
theorem d_Mo_reg_9 : decode b_Mo_reg 9 = .ok (.goto 4, 3) := by decide +kernel
theorem d_Mo_reg_12 : decode b_Mo_reg 12 = .ok (.iconst 0, 1) := by decide +kernel
theorem d_Mo_reg_13 : decode b_Mo_reg 13 = .ok (.ireturn, 1) := by decide +kernel
theorem kw_63 : Cond.fieldLink R_Mo 110 "LuaMachineModel" "m" "I" ∈ wA := kinm (show _ ∈ tables_1 from (List.mem_append_right _ (List.mem_append_right _ (List.mem_append_right _ (List.mem_append_right _ (List.mem_append_right _ (List.mem_append_right _ (List.mem_append_right _ (List.mem_append_right _ (List.mem_append_right _ (List.mem_append_left _ (List.mem_of_getElem? (l := tables_1_10) (i := 85) (by decide +kernel))))))))))))) (by decide +kernel)
theorem kw_64 : Cond.instanceMethod y_Mo_reg ∈ wA := kinm (show _ ∈ tables_1 from (List.mem_append_right _ (List.mem_append_right _ (List.mem_append_right _ (List.mem_append_right _ (List.mem_append_right _ (List.mem_append_right _ (List.mem_append_right _ (List.mem_append_right _ (List.mem_append_right _ (List.mem_append_right _ (List.mem_append_left _ (List.mem_of_getElem? (l := tables_1_11) (i := 202) (by decide +kernel)))))))))))))) (by decide +kernel)
theorem kw_65 : Cond.selects R_Mo y_Mo_reg y_Mo_reg ∈ wA := kinp 122 (by decide +kernel) (by decide +kernel)
theorem cv_Mo_reg : CV y_Mo_reg b_Mo_reg 2 (some .boolean) 1 := ⟨kw_64, kw_65, kw_17, k_Mo_reg, by decide +kernel⟩
theorem ct_Mo_reg {l : Launch} {P : PP} {q : PL} {s s' : S1} {l1 : Int32} {r : Int32} (h : M_Mo_reg l1 s = some (r, s')) : Ct l y_Mo_reg b_Mo_reg 2 (some .boolean) 0 0 P q s [.ref (q.1 0 0), .int l1] (some (.int r)) q s' := by
  refine ct_of (by decide) (Nat.le_of_ble_eq_true rfl) fun X ls eP el g hR hl => ?_
  subst eP
  have hR : Rt X q ((r, s') : Int32 × S1).2 (some (.int ((r, s') : Int32 × S1).1)) := hR
  have hl : lv_has ls 2 [(0, .ref (q.1 0 0)), (1, .int l1)] := hl
  generalize (r, s') = o at h hR
  unfold M_Mo_reg at h
  refine ww_iload_n (pc := 0) g.1 d_Mo_reg_0 rfl (lv_at hl 1 rfl) ?_
  refine ww_aload_n (pc := 1) g.1 d_Mo_reg_1 rfl (lv_at hl 0 rfl) ?_
  refine ww_gI (pc := 2) g (k := 30) cl_Mo (pz rfl (by decide)) (by decide) (Or.inl kw_63) (f := 30) rfl rfl d_Mo_reg_2 h fun v2 h => ?_
  refine ww_icmp_ge (pc := 5) (tgt := 12) g.1 d_Mo_reg_5 (by decide) h (fun c h => ?_) (fun c h => ?_)
  · refine ww_iconst (pc := 12) g.1 (v := 0) d_Mo_reg_12 (by decide) ?_
    exact ww_zretH (pc := 13) g h hR (Or.inl rfl) d_Mo_reg_13
  · refine ww_iconst (pc := 8) g.1 (v := 1) d_Mo_reg_8 (by decide) ?_
    refine ww_goto (pc := 9) (tgt := 13) g.1 d_Mo_reg_9 (by decide) ?_
    exact ww_zretH (pc := 13) g h hR (Or.inr rfl) d_Mo_reg_13

abbrev b_Mo_bx : ByteArray := prog_14_method_16_code
def y_Mo_bx : MethodName := ⟨R_Mo, "bx", "(I)I"⟩
abbrev w_Mo_bx : List Cond := .code y_Mo_bx b_Mo_bx 1 (some .int) :: wA
theorem k_Mo_bx : Cond.code y_Mo_bx b_Mo_bx 1 (some .int) ∈ wA := kinm (show _ ∈ tables_1 from (List.mem_append_right _ (List.mem_append_right _ (List.mem_append_right _ (List.mem_append_right _ (List.mem_append_right _ (List.mem_append_right _ (List.mem_append_right _ (List.mem_append_right _ (List.mem_append_right _ (List.mem_append_right _ (List.mem_append_left _ (List.mem_of_getElem? (l := tables_1_11) (i := 206) (by decide +kernel)))))))))))))) (by decide +kernel)
theorem d_Mo_bx_0 : decode b_Mo_bx 0 = .ok (.iload_n 0, 1) := by decide +kernel
theorem d_Mo_bx_1 : decode b_Mo_bx 1 = .ok (.bipush 14, 2) := by decide +kernel
theorem d_Mo_bx_3 : decode b_Mo_bx 3 = .ok (.iushr, 1) := by decide +kernel
theorem d_Mo_bx_4 : decode b_Mo_bx 4 = .ok (.ireturn, 1) := by decide +kernel
theorem kw_66 : Cond.static y_Mo_bx ∈ wA := kinm (show _ ∈ tables_1 from (List.mem_append_right _ (List.mem_append_right _ (List.mem_append_right _ (List.mem_append_right _ (List.mem_append_right _ (List.mem_append_right _ (List.mem_append_right _ (List.mem_append_right _ (List.mem_append_right _ (List.mem_append_right _ (List.mem_append_left _ (List.mem_of_getElem? (l := tables_1_11) (i := 205) (by decide +kernel)))))))))))))) (by decide +kernel)
theorem cs_Mo_bx : CS y_Mo_bx b_Mo_bx 1 (some .int) 1 := ⟨kw_66, kw_17, k_Mo_bx, by decide +kernel⟩
theorem ct_Mo_bx {l : Launch} {P : PP} {q : PL} {s s' : S1} {l0 : Int32} {r : Int32} (h : M_Mo_bx l0 s = some (r, s')) : Ct l y_Mo_bx b_Mo_bx 1 (some .int) 0 0 P q s [.int l0] (some (.int r)) q s' := by
  refine ct_of (by decide) (Nat.le_of_ble_eq_true rfl) fun X ls eP el g hR hl => ?_
  subst eP
  have hR : Rt X q ((r, s') : Int32 × S1).2 (some (.int ((r, s') : Int32 × S1).1)) := hR
  have hl : lv_has ls 1 [(0, .int l0)] := hl
  generalize (r, s') = o at h hR
  unfold M_Mo_bx at h
  refine ww_iload_n (pc := 0) g.1 d_Mo_bx_0 rfl (lv_at hl 0 rfl) ?_
  refine ww_bipush (pc := 1) g.1 (v := 14) d_Mo_bx_1 (by decide) ?_
  refine ww_iushr (pc := 3) g.1 (v := iushr l0 (14 : Int32)) d_Mo_bx_3 rfl ?_
  exact ww_iretH (pc := 4) g h hR d_Mo_bx_4

abbrev b_Mo_rk : ByteArray := prog_14_method_22_code
def y_Mo_rk : MethodName := ⟨R_Mo, "rk", "(I)Z"⟩
abbrev w_Mo_rk : List Cond := .code y_Mo_rk b_Mo_rk 2 (some .boolean) :: wA
theorem k_Mo_rk : Cond.code y_Mo_rk b_Mo_rk 2 (some .boolean) ∈ wA := kinm (show _ ∈ tables_1 from (List.mem_append_right _ (List.mem_append_right _ (List.mem_append_right _ (List.mem_append_right _ (List.mem_append_right _ (List.mem_append_right _ (List.mem_append_right _ (List.mem_append_right _ (List.mem_append_right _ (List.mem_append_right _ (List.mem_append_left _ (List.mem_of_getElem? (l := tables_1_11) (i := 210) (by decide +kernel)))))))))))))) (by decide +kernel)
theorem d_Mo_rk_0 : decode b_Mo_rk 0 = .ok (.iload_n 1, 1) := by decide +kernel
theorem d_Mo_rk_1 : decode b_Mo_rk 1 = .ok (.sipush 256, 3) := by decide +kernel
theorem d_Mo_rk_4 : decode b_Mo_rk 4 = .ok (.if_icmp .ge 19, 3) := by decide +kernel
theorem d_Mo_rk_7 : decode b_Mo_rk 7 = .ok (.iload_n 1, 1) := by decide +kernel
theorem d_Mo_rk_8 : decode b_Mo_rk 8 = .ok (.aload_n 0, 1) := by decide +kernel
theorem d_Mo_rk_9 : decode b_Mo_rk 9 = .ok (.getfield 110, 3) := by decide +kernel
theorem d_Mo_rk_12 : decode b_Mo_rk 12 = .ok (.if_icmp .ge 7, 3) := by decide +kernel
theorem d_Mo_rk_15 : decode b_Mo_rk 15 = .ok (.iconst 1, 1) := by decide +kernel
theorem d_Mo_rk_16 : decode b_Mo_rk 16 = .ok (.goto 29, 3) := by decide +kernel
theorem d_Mo_rk_19 : decode b_Mo_rk 19 = .ok (.iconst 0, 1) := by decide +kernel
theorem d_Mo_rk_20 : decode b_Mo_rk 20 = .ok (.goto 25, 3) := by decide +kernel
theorem d_Mo_rk_23 : decode b_Mo_rk 23 = .ok (.iload_n 1, 1) := by decide +kernel
theorem d_Mo_rk_24 : decode b_Mo_rk 24 = .ok (.sipush 256, 3) := by decide +kernel
theorem d_Mo_rk_27 : decode b_Mo_rk 27 = .ok (.isub, 1) := by decide +kernel
theorem d_Mo_rk_28 : decode b_Mo_rk 28 = .ok (.aload_n 0, 1) := by decide +kernel
theorem d_Mo_rk_29 : decode b_Mo_rk 29 = .ok (.getfield 50, 3) := by decide +kernel
theorem d_Mo_rk_32 : decode b_Mo_rk 32 = .ok (.aload_n 0, 1) := by decide +kernel
theorem d_Mo_rk_33 : decode b_Mo_rk 33 = .ok (.getfield 113, 3) := by decide +kernel
theorem d_Mo_rk_36 : decode b_Mo_rk 36 = .ok (.iaload, 1) := by decide +kernel
theorem d_Mo_rk_37 : decode b_Mo_rk 37 = .ok (.if_icmp .ge 7, 3) := by decide +kernel
theorem d_Mo_rk_40 : decode b_Mo_rk 40 = .ok (.iconst 1, 1) := by decide +kernel
theorem d_Mo_rk_41 : decode b_Mo_rk 41 = .ok (.goto 4, 3) := by decide +kernel
theorem d_Mo_rk_44 : decode b_Mo_rk 44 = .ok (.iconst 0, 1) := by decide +kernel
theorem d_Mo_rk_45 : decode b_Mo_rk 45 = .ok (.ireturn, 1) := by decide +kernel
theorem kw_67 : Cond.fieldLink R_Mo 50 "LuaMachineModel" "consts" "[I" ∈ wA := kinm (show _ ∈ tables_1 from (List.mem_append_right _ (List.mem_append_right _ (List.mem_append_right _ (List.mem_append_right _ (List.mem_append_right _ (List.mem_append_right _ (List.mem_append_right _ (List.mem_append_right _ (List.mem_append_right _ (List.mem_append_left _ (List.mem_of_getElem? (l := tables_1_10) (i := 67) (by decide +kernel))))))))))))) (by decide +kernel)
theorem kw_68 : Cond.instanceMethod y_Mo_rk ∈ wA := kinm (show _ ∈ tables_1 from (List.mem_append_right _ (List.mem_append_right _ (List.mem_append_right _ (List.mem_append_right _ (List.mem_append_right _ (List.mem_append_right _ (List.mem_append_right _ (List.mem_append_right _ (List.mem_append_right _ (List.mem_append_right _ (List.mem_append_left _ (List.mem_of_getElem? (l := tables_1_11) (i := 209) (by decide +kernel)))))))))))))) (by decide +kernel)
theorem kw_69 : Cond.selects R_Mo y_Mo_rk y_Mo_rk ∈ wA := kinp 123 (by decide +kernel) (by decide +kernel)
theorem cv_Mo_rk : CV y_Mo_rk b_Mo_rk 2 (some .boolean) 1 := ⟨kw_68, kw_69, kw_17, k_Mo_rk, by decide +kernel⟩
theorem ct_Mo_rk {l : Launch} {P : PP} {q : PL} {s s' : S1} {l1 : Int32} {r : Int32} (h : M_Mo_rk l1 s = some (r, s')) : Ct l y_Mo_rk b_Mo_rk 2 (some .boolean) 0 0 P q s [.ref (q.1 0 0), .int l1] (some (.int r)) q s' := by
  refine ct_of (by decide) (Nat.le_of_ble_eq_true rfl) fun X ls eP el g hR hl => ?_
  subst eP
  have hR : Rt X q ((r, s') : Int32 × S1).2 (some (.int ((r, s') : Int32 × S1).1)) := hR
  have hl : lv_has ls 2 [(0, .ref (q.1 0 0)), (1, .int l1)] := hl
  generalize (r, s') = o at h hR
  unfold M_Mo_rk at h
  refine ww_iload_n (pc := 0) g.1 d_Mo_rk_0 rfl (lv_at hl 1 rfl) ?_
  refine ww_sipush (pc := 1) g.1 (v := 256) d_Mo_rk_1 (by decide) ?_
  refine ww_icmp_ge (pc := 4) (tgt := 23) g.1 d_Mo_rk_4 (by decide) h (fun c h => ?_) (fun c h => ?_)
  · refine ww_iload_n (pc := 23) g.1 d_Mo_rk_23 rfl (lv_at hl 1 rfl) ?_
    refine ww_sipush (pc := 24) g.1 (v := 256) d_Mo_rk_24 (by decide) ?_
    refine ww_isub (pc := 27) g.1 d_Mo_rk_27 ?_
    refine ww_aload_n (pc := 28) g.1 d_Mo_rk_28 rfl (lv_at hl 0 rfl) ?_
    refine ww_gR (pc := 29) g (k := 12) cl_Mo (pz rfl (by decide)) (by decide) (Or.inl kw_67) (f := 12) (t := 48) rfl rfl rfl d_Mo_rk_29 ?_
    refine ww_aload_n (pc := 32) g.1 d_Mo_rk_32 rfl (lv_at hl 0 rfl) ?_
    refine ww_gI (pc := 33) g (k := 31) cl_Mo (pz rfl (by decide)) (by decide) (Or.inl kw_57) (f := 31) rfl rfl d_Mo_rk_33 h fun v33 h => ?_
    refine ww_ai (pc := 36) g (pz rfl (by decide)) rfl rfl d_Mo_rk_36 h fun v36 h => ?_
    refine ww_icmp_ge (pc := 37) (tgt := 44) g.1 d_Mo_rk_37 (by decide) h (fun c h => ?_) (fun c h => ?_)
    · refine ww_iconst (pc := 44) g.1 (v := 0) d_Mo_rk_44 (by decide) ?_
      exact ww_zretH (pc := 45) g h hR (Or.inl rfl) d_Mo_rk_45
    · refine ww_iconst (pc := 40) g.1 (v := 1) d_Mo_rk_40 (by decide) ?_
      refine ww_goto (pc := 41) (tgt := 45) g.1 d_Mo_rk_41 (by decide) ?_
      exact ww_zretH (pc := 45) g h hR (Or.inr rfl) d_Mo_rk_45
  · refine ww_iload_n (pc := 7) g.1 d_Mo_rk_7 rfl (lv_at hl 1 rfl) ?_
    refine ww_aload_n (pc := 8) g.1 d_Mo_rk_8 rfl (lv_at hl 0 rfl) ?_
    refine ww_gI (pc := 9) g (k := 30) cl_Mo (pz rfl (by decide)) (by decide) (Or.inl kw_63) (f := 30) rfl rfl d_Mo_rk_9 h fun v9 h => ?_
    refine ww_icmp_ge (pc := 12) (tgt := 19) g.1 d_Mo_rk_12 (by decide) h (fun c h => ?_) (fun c h => ?_)
    · refine ww_iconst (pc := 19) g.1 (v := 0) d_Mo_rk_19 (by decide) ?_
      refine ww_goto (pc := 20) (tgt := 45) g.1 d_Mo_rk_20 (by decide) ?_
      exact ww_zretH (pc := 45) g h hR (Or.inl rfl) d_Mo_rk_45
    · refine ww_iconst (pc := 15) g.1 (v := 1) d_Mo_rk_15 (by decide) ?_
      refine ww_goto (pc := 16) (tgt := 45) g.1 d_Mo_rk_16 (by decide) ?_
      exact ww_zretH (pc := 45) g h hR (Or.inr rfl) d_Mo_rk_45

abbrev b_Mo_sbx : ByteArray := prog_14_method_17_code
def y_Mo_sbx : MethodName := ⟨R_Mo, "sbx", "(I)I"⟩
abbrev w_Mo_sbx : List Cond := .code y_Mo_sbx b_Mo_sbx 1 (some .int) :: wA
theorem k_Mo_sbx : Cond.code y_Mo_sbx b_Mo_sbx 1 (some .int) ∈ wA := kinm (show _ ∈ tables_1 from (List.mem_append_right _ (List.mem_append_right _ (List.mem_append_right _ (List.mem_append_right _ (List.mem_append_right _ (List.mem_append_right _ (List.mem_append_right _ (List.mem_append_right _ (List.mem_append_right _ (List.mem_append_right _ (List.mem_append_left _ (List.mem_of_getElem? (l := tables_1_11) (i := 213) (by decide +kernel)))))))))))))) (by decide +kernel)
theorem d_Mo_sbx_0 : decode b_Mo_sbx 0 = .ok (.iload_n 0, 1) := by decide +kernel
theorem d_Mo_sbx_1 : decode b_Mo_sbx 1 = .ok (.bipush 14, 2) := by decide +kernel
theorem d_Mo_sbx_3 : decode b_Mo_sbx 3 = .ok (.iushr, 1) := by decide +kernel
theorem d_Mo_sbx_4 : decode b_Mo_sbx 4 = .ok (.ldc_w 474, 3) := by decide +kernel
theorem d_Mo_sbx_7 : decode b_Mo_sbx 7 = .ok (.isub, 1) := by decide +kernel
theorem d_Mo_sbx_8 : decode b_Mo_sbx 8 = .ok (.ireturn, 1) := by decide +kernel
theorem kw_70 : Cond.constant R_Mo 474 131071 ∈ wA := kinm (show _ ∈ tables_1 from (List.mem_append_right _ (List.mem_append_right _ (List.mem_append_right _ (List.mem_append_right _ (List.mem_append_right _ (List.mem_append_right _ (List.mem_append_right _ (List.mem_append_right _ (List.mem_append_right _ (List.mem_append_right _ (List.mem_append_left _ (List.mem_of_getElem? (l := tables_1_11) (i := 214) (by decide +kernel)))))))))))))) (by decide +kernel)
theorem kw_71 : Cond.static y_Mo_sbx ∈ wA := kinm (show _ ∈ tables_1 from (List.mem_append_right _ (List.mem_append_right _ (List.mem_append_right _ (List.mem_append_right _ (List.mem_append_right _ (List.mem_append_right _ (List.mem_append_right _ (List.mem_append_right _ (List.mem_append_right _ (List.mem_append_right _ (List.mem_append_left _ (List.mem_of_getElem? (l := tables_1_11) (i := 212) (by decide +kernel)))))))))))))) (by decide +kernel)
theorem cs_Mo_sbx : CS y_Mo_sbx b_Mo_sbx 1 (some .int) 1 := ⟨kw_71, kw_17, k_Mo_sbx, by decide +kernel⟩
theorem ct_Mo_sbx {l : Launch} {P : PP} {q : PL} {s s' : S1} {l0 : Int32} {r : Int32} (h : M_Mo_sbx l0 s = some (r, s')) : Ct l y_Mo_sbx b_Mo_sbx 1 (some .int) 0 0 P q s [.int l0] (some (.int r)) q s' := by
  refine ct_of (by decide) (Nat.le_of_ble_eq_true rfl) fun X ls eP el g hR hl => ?_
  subst eP
  have hR : Rt X q ((r, s') : Int32 × S1).2 (some (.int ((r, s') : Int32 × S1).1)) := hR
  have hl : lv_has ls 1 [(0, .int l0)] := hl
  generalize (r, s') = o at h hR
  unfold M_Mo_sbx at h
  refine ww_iload_n (pc := 0) g.1 d_Mo_sbx_0 rfl (lv_at hl 0 rfl) ?_
  refine ww_bipush (pc := 1) g.1 (v := 14) d_Mo_sbx_1 (by decide) ?_
  refine ww_iushr (pc := 3) g.1 (v := iushr l0 (14 : Int32)) d_Mo_sbx_3 rfl ?_
  refine ww_ldcw (pc := 4) g (v := 131071) kw_70 d_Mo_sbx_4 ?_
  refine ww_isub (pc := 7) g.1 d_Mo_sbx_7 ?_
  exact ww_iretH (pc := 8) g h hR d_Mo_sbx_8

abbrev b_Arr_fill___ : ByteArray := prog_34_method_109_code
def y_Arr_fill___ : MethodName := ⟨R_Arr, "fill", "([BB)V"⟩
abbrev w_Arr_fill___ : List Cond := .code y_Arr_fill___ b_Arr_fill___ 4 none :: wA
theorem k_Arr_fill___ : Cond.code y_Arr_fill___ b_Arr_fill___ 4 none ∈ wA := kinm (show _ ∈ tables_1 from (List.mem_append_right _ (List.mem_append_right _ (List.mem_append_right _ (List.mem_append_right _ (List.mem_append_right _ (List.mem_append_right _ (List.mem_append_right _ (List.mem_append_right _ (List.mem_append_right _ (List.mem_append_right _ (List.mem_append_left _ (List.mem_of_getElem? (l := tables_1_11) (i := 223) (by decide +kernel)))))))))))))) (by decide +kernel)
theorem d_Arr_fill____0 : decode b_Arr_fill___ 0 = .ok (.iconst 0, 1) := by decide +kernel
theorem d_Arr_fill____1 : decode b_Arr_fill___ 1 = .ok (.istore_n 2, 1) := by decide +kernel
theorem d_Arr_fill____2 : decode b_Arr_fill___ 2 = .ok (.aload_n 0, 1) := by decide +kernel
theorem d_Arr_fill____3 : decode b_Arr_fill___ 3 = .ok (.arraylength, 1) := by decide +kernel
theorem d_Arr_fill____4 : decode b_Arr_fill___ 4 = .ok (.istore_n 3, 1) := by decide +kernel
theorem d_Arr_fill____5 : decode b_Arr_fill___ 5 = .ok (.iload_n 2, 1) := by decide +kernel
theorem d_Arr_fill____6 : decode b_Arr_fill___ 6 = .ok (.iload_n 3, 1) := by decide +kernel
theorem d_Arr_fill____7 : decode b_Arr_fill___ 7 = .ok (.if_icmp .ge 13, 3) := by decide +kernel
theorem d_Arr_fill____10 : decode b_Arr_fill___ 10 = .ok (.aload_n 0, 1) := by decide +kernel
theorem d_Arr_fill____11 : decode b_Arr_fill___ 11 = .ok (.iload_n 2, 1) := by decide +kernel
theorem d_Arr_fill____12 : decode b_Arr_fill___ 12 = .ok (.iload_n 1, 1) := by decide +kernel
theorem d_Arr_fill____13 : decode b_Arr_fill___ 13 = .ok (.bastore, 1) := by decide +kernel
theorem d_Arr_fill____14 : decode b_Arr_fill___ 14 = .ok (.iinc 2 1, 3) := by decide +kernel
theorem d_Arr_fill____17 : decode b_Arr_fill___ 17 = .ok (.goto (-12), 3) := by decide +kernel
theorem d_Arr_fill____20 : decode b_Arr_fill___ 20 = .ok (.return_, 1) := by decide +kernel
theorem kw_72 : Cond.static y_Arr_fill___ ∈ wA := kinm (show _ ∈ tables_1 from (List.mem_append_right _ (List.mem_append_right _ (List.mem_append_right _ (List.mem_append_right _ (List.mem_append_right _ (List.mem_append_right _ (List.mem_append_right _ (List.mem_append_right _ (List.mem_append_right _ (List.mem_append_right _ (List.mem_append_left _ (List.mem_of_getElem? (l := tables_1_11) (i := 222) (by decide +kernel)))))))))))))) (by decide +kernel)
theorem cs_Arr_fill___ : CS y_Arr_fill___ b_Arr_fill___ 4 none 2 := ⟨kw_72, kw_3, k_Arr_fill___, by decide +kernel⟩
theorem lp_Arr_fill____L5 {X : Cx} {q : PL} (g : Gd X y_Arr_fill___ b_Arr_fill___ 4 none 0 0 R_Arr) (x : Nat × Int32 × Int32 × Int32 × Int32) (s : S1) (o : ((Nat × Int32 × Int32 × Int32 × Int32) ⊕ ((Unit))) × S1) (h : M_Arr_fill____L5 x s = some o) (hR : (Sum.elim (fun y : Nat × Int32 × Int32 × Int32 × Int32 => ∀ ls : Array Slot, (AK 2 y.1) → (prs o.2 y.1 y.2.1) → lv_has ls 4 [(0, .ref (q.1 y.1 y.2.1)), (1, .int y.2.2.1), (2, .int y.2.2.2.1), (3, .int y.2.2.2.2)] → WW X q o.2 5 ls []) (fun y : Unit => ∀ ls : Array Slot, lv_has ls 4 [] → WW X q o.2 20 ls []) o.1)) : ∀ ls : Array Slot, (AK 2 x.1) → (prs s x.1 x.2.1) → lv_has ls 4 [(0, .ref (q.1 x.1 x.2.1)), (1, .int x.2.2.1), (2, .int x.2.2.2.1), (3, .int x.2.2.2.2)] → WW X q s 5 ls [] := by
  intro ls hp0 hp1 hl
  unfold M_Arr_fill____L5 at h
  refine ww_iload_n (pc := 5) g.1 d_Arr_fill____5 rfl (lv_at hl 2 rfl) ?_
  refine ww_iload_n (pc := 6) g.1 d_Arr_fill____6 rfl (lv_at hl 3 rfl) ?_
  refine ww_icmp_ge (pc := 7) (tgt := 20) g.1 d_Arr_fill____7 (by decide) h (fun c h => ?_) (fun c h => ?_)
  · rw [oR_eq h] at hR
    exact hR ls (lv_sub hl [] rfl)
  · refine ww_aload_n (pc := 10) g.1 d_Arr_fill____10 rfl (lv_at hl 0 rfl) ?_
    refine ww_iload_n (pc := 11) g.1 d_Arr_fill____11 rfl (lv_at hl 2 rfl) ?_
    refine ww_iload_n (pc := 12) g.1 d_Arr_fill____12 rfl (lv_at hl 1 rfl) ?_
    refine ww_sb (pc := 13) g hp1 hp0.1 (ak_n hp0) d_Arr_fill____13 h fun s hs h => ?_
    have hp1 : prs s x.1 x.2.1 := hs ▸ hp1
    refine ww_iinc (pc := 14) g.1 (v := x.2.2.2.1 + 1) (lv' := [(2, .int (x.2.2.2.1 + 1)), (0, .ref (q.1 x.1 x.2.1)), (1, .int x.2.2.1), (3, .int x.2.2.2.2)]) d_Arr_fill____14 hl (k := 2) rfl (by rfl) (by decide) rfl fun ls hl => ?_
    refine ww_goto (pc := 17) (tgt := 5) g.1 d_Arr_fill____17 (by decide) ?_
    rw [oR_eq h] at hR
    exact hR ls hp0 hp1 (lv_sub hl [1, 2, 0, 3] rfl)

theorem ct_Arr_fill___ {l : Launch} {P : PP} {q : PL} {s s' : S1} {l0r : Nat} {l0 : Int32} {l1 : Int32} (hp0 : AK 2 l0r) (hp1 : prs s l0r l0) {r : Unit} (h : M_Arr_fill___ l0r l0 l1 s = some (r, s')) : Ct l y_Arr_fill___ b_Arr_fill___ 4 none 0 0 P q s [.ref (q.1 l0r l0), .int l1] none q s' := by
  refine ct_ofF (by decide +kernel) (Nat.le_of_ble_eq_true rfl) fun X ls eP el g hR hl => ?_
  subst eP
  have hR : Rt X q ((r, s') : Unit × S1).2 none := hR
  have hl : lv_has ls 4 [(0, .ref (q.1 l0r l0)), (1, .int l1)] := hl
  generalize (r, s') = o at h hR
  unfold M_Arr_fill___ at h
  refine ww_iconst (pc := 0) g.1 (v := 0) d_Arr_fill____0 (by decide) ?_
  refine ww_istore_n (pc := 1) (i := 2) g.1 (lv' := [(2, .int 0), (0, .ref (q.1 l0r l0)), (1, .int l1)]) d_Arr_fill____1 rfl hl (by decide) rfl fun ls hl => ?_
  refine ww_aload_n (pc := 2) g.1 d_Arr_fill____2 rfl (lv_at hl 1 rfl) ?_
  refine ww_alen (pc := 3) g (n := lnI l0r) hp1 (ak_k hp0) (ak_m hp0) d_Arr_fill____3 ?_
  refine ww_leti h fun l3_4 h => ?_
  refine ww_istore_n (pc := 4) (i := 3) g.1 (lv' := [(3, .int l3_4), (2, .int 0), (0, .ref (q.1 l0r l0)), (1, .int l1)]) d_Arr_fill____4 rfl hl (by decide) rfl fun ls hl => ?_
  obtain ⟨e5, s1, hw, h⟩ := oB_of h
  refine oW_rule (Wh := fun (x : Nat × Int32 × Int32 × Int32 × Int32) (s : S1) => ∀ ls : Array Slot, (AK 2 x.1) → (prs s x.1 x.2.1) → lv_has ls 4 [(0, .ref (q.1 x.1 x.2.1)), (1, .int x.2.2.1), (2, .int x.2.2.2.1), (3, .int x.2.2.2.2)] → WW X q s 5 ls []) (We := fun (e : (Unit)) (s : S1) => ∀ ls : Array Slot, lv_has ls 4 [] → WW X q s 20 ls []) (fun x s o hb hc => lp_Arr_fill____L5 (q := q) g x s o hb hc) hw ?_ ls hp0 hp1 (lv_sub hl [2, 3, 1, 0] rfl)
  clear hw hl
  clear ls
  intro ls hl
  generalize s1 = s at h ⊢
  exact ww_vretH (pc := 20) g h hR d_Arr_fill____20

abbrev b_Mo_raise : ByteArray := prog_14_method_26_code
def y_Mo_raise : MethodName := ⟨R_Mo, "raise", "(I)I"⟩
abbrev w_Mo_raise : List Cond := .code y_Mo_raise b_Mo_raise 2 (some .int) :: wA
theorem k_Mo_raise : Cond.code y_Mo_raise b_Mo_raise 2 (some .int) ∈ wA := kinm (show _ ∈ tables_1 from (List.mem_append_right _ (List.mem_append_right _ (List.mem_append_right _ (List.mem_append_right _ (List.mem_append_right _ (List.mem_append_right _ (List.mem_append_right _ (List.mem_append_right _ (List.mem_append_right _ (List.mem_append_right _ (List.mem_append_right _ (List.mem_append_left _ (List.mem_of_getElem? (l := tables_1_12) (i := 0) (by decide +kernel))))))))))))))) (by decide +kernel)
theorem d_Mo_raise_0 : decode b_Mo_raise 0 = .ok (.aload_n 0, 1) := by decide +kernel
theorem d_Mo_raise_1 : decode b_Mo_raise 1 = .ok (.iconst 3, 1) := by decide +kernel
theorem d_Mo_raise_2 : decode b_Mo_raise 2 = .ok (.putfield 215, 3) := by decide +kernel
theorem d_Mo_raise_5 : decode b_Mo_raise 5 = .ok (.aload_n 0, 1) := by decide +kernel
theorem d_Mo_raise_6 : decode b_Mo_raise 6 = .ok (.iload_n 1, 1) := by decide +kernel
theorem d_Mo_raise_7 : decode b_Mo_raise 7 = .ok (.i2l, 1) := by decide +kernel
theorem d_Mo_raise_8 : decode b_Mo_raise 8 = .ok (.putfield 218, 3) := by decide +kernel
theorem d_Mo_raise_11 : decode b_Mo_raise 11 = .ok (.aload_n 0, 1) := by decide +kernel
theorem d_Mo_raise_12 : decode b_Mo_raise 12 = .ok (.iload_n 1, 1) := by decide +kernel
theorem d_Mo_raise_13 : decode b_Mo_raise 13 = .ok (.bipush 11, 2) := by decide +kernel
theorem d_Mo_raise_15 : decode b_Mo_raise 15 = .ok (.if_icmp .ne 7, 3) := by decide +kernel
theorem d_Mo_raise_18 : decode b_Mo_raise 18 = .ok (.iconst 4, 1) := by decide +kernel
theorem d_Mo_raise_19 : decode b_Mo_raise 19 = .ok (.goto 4, 3) := by decide +kernel
theorem d_Mo_raise_22 : decode b_Mo_raise 22 = .ok (.iconst 3, 1) := by decide +kernel
theorem d_Mo_raise_23 : decode b_Mo_raise 23 = .ok (.putfield 247, 3) := by decide +kernel
theorem d_Mo_raise_26 : decode b_Mo_raise 26 = .ok (.iconst (-1), 1) := by decide +kernel
theorem d_Mo_raise_27 : decode b_Mo_raise 27 = .ok (.ireturn, 1) := by decide +kernel
theorem kw_73 : Cond.fieldLink R_Mo 215 "LuaMachineModel" "errorKind" "I" ∈ wA := kinm (show _ ∈ tables_1 from (List.mem_append_right _ (List.mem_append_right _ (List.mem_append_right _ (List.mem_append_right _ (List.mem_append_right _ (List.mem_append_right _ (List.mem_append_right _ (List.mem_append_right _ (List.mem_append_right _ (List.mem_append_left _ (List.mem_of_getElem? (l := tables_1_10) (i := 120) (by decide +kernel))))))))))))) (by decide +kernel)
theorem kw_74 : Cond.fieldLink R_Mo 218 "LuaMachineModel" "errorValue" "J" ∈ wA := kinm (show _ ∈ tables_1 from (List.mem_append_right _ (List.mem_append_right _ (List.mem_append_right _ (List.mem_append_right _ (List.mem_append_right _ (List.mem_append_right _ (List.mem_append_right _ (List.mem_append_right _ (List.mem_append_right _ (List.mem_append_left _ (List.mem_of_getElem? (l := tables_1_10) (i := 121) (by decide +kernel))))))))))))) (by decide +kernel)
theorem kw_75 : Cond.fieldLink R_Mo 247 "LuaMachineModel" "todo" "I" ∈ wA := kinm (show _ ∈ tables_1 from (List.mem_append_right _ (List.mem_append_right _ (List.mem_append_right _ (List.mem_append_right _ (List.mem_append_right _ (List.mem_append_right _ (List.mem_append_right _ (List.mem_append_right _ (List.mem_append_right _ (List.mem_append_left _ (List.mem_of_getElem? (l := tables_1_10) (i := 129) (by decide +kernel))))))))))))) (by decide +kernel)
theorem kw_76 : Cond.instanceMethod y_Mo_raise ∈ wA := kinm (show _ ∈ tables_1 from (List.mem_append_right _ (List.mem_append_right _ (List.mem_append_right _ (List.mem_append_right _ (List.mem_append_right _ (List.mem_append_right _ (List.mem_append_right _ (List.mem_append_right _ (List.mem_append_right _ (List.mem_append_right _ (List.mem_append_left _ (List.mem_of_getElem? (l := tables_1_11) (i := 239) (by decide +kernel)))))))))))))) (by decide +kernel)
theorem kw_77 : Cond.selects R_Mo y_Mo_raise y_Mo_raise ∈ wA := kinp 128 (by decide +kernel) (by decide +kernel)
theorem cv_Mo_raise : CV y_Mo_raise b_Mo_raise 2 (some .int) 1 := ⟨kw_76, kw_77, kw_17, k_Mo_raise, by decide +kernel⟩
theorem j_Mo_raise_j23 {X : Cx} {q : PL} (g : Gd X y_Mo_raise b_Mo_raise 2 (some .int) 0 0 R_Mo) {o : (Int32) × S1} (hR : Rt X q o.2 (some (.int o.1))) (k0 : Int32) (s : S1) (ls : Array Slot) (hl : lv_has ls 2 []) (h : M_Mo_raise_j23 k0 s = some o) : WW X q s 23 ls [.int k0, .ref (q.1 0 0)] := by
  unfold M_Mo_raise_j23 at h
  refine ww_pI (pc := 23) g (k := 73) cl_Mo (pz rfl (by decide)) (by decide) (Or.inl kw_75) rfl (f := 73) rfl rfl rfl rfl d_Mo_raise_23 h fun s hs h => ?_
  refine ww_iconst (pc := 26) g.1 (v := (-1)) d_Mo_raise_26 (by decide) ?_
  exact ww_iretH (pc := 27) g h hR d_Mo_raise_27

theorem ct_Mo_raise {l : Launch} {P : PP} {q : PL} {s s' : S1} {l1 : Int32} {r : Int32} (h : M_Mo_raise l1 s = some (r, s')) : Ct l y_Mo_raise b_Mo_raise 2 (some .int) 0 0 P q s [.ref (q.1 0 0), .int l1] (some (.int r)) q s' := by
  refine ct_of (by decide) (Nat.le_of_ble_eq_true rfl) fun X ls eP el g hR hl => ?_
  subst eP
  have hR : Rt X q ((r, s') : Int32 × S1).2 (some (.int ((r, s') : Int32 × S1).1)) := hR
  have hl : lv_has ls 2 [(0, .ref (q.1 0 0)), (1, .int l1)] := hl
  generalize (r, s') = o at h hR
  unfold M_Mo_raise at h
  refine ww_aload_n (pc := 0) g.1 d_Mo_raise_0 rfl (lv_at hl 0 rfl) ?_
  refine ww_iconst (pc := 1) g.1 (v := 3) d_Mo_raise_1 (by decide) ?_
  refine ww_pI (pc := 2) g (k := 64) cl_Mo (pz rfl (by decide)) (by decide) (Or.inl kw_73) rfl (f := 64) rfl rfl rfl rfl d_Mo_raise_2 h fun s hs h => ?_
  refine ww_aload_n (pc := 5) g.1 d_Mo_raise_5 rfl (lv_at hl 0 rfl) ?_
  refine ww_iload_n (pc := 6) g.1 d_Mo_raise_6 rfl (lv_at hl 1 rfl) ?_
  refine ww_i2l (pc := 7) g.1 (v := l1.toInt64) d_Mo_raise_7 rfl ?_
  refine ww_pL (pc := 8) g (k := 65) cl_Mo (pz rfl (by decide)) (by decide) (Or.inl kw_74) rfl (f := 65) rfl rfl rfl rfl d_Mo_raise_8 h fun s hs h => ?_
  refine ww_aload_n (pc := 11) g.1 d_Mo_raise_11 rfl (lv_at hl 0 rfl) ?_
  refine ww_iload_n (pc := 12) g.1 d_Mo_raise_12 rfl (lv_at hl 1 rfl) ?_
  refine ww_bipush (pc := 13) g.1 (v := 11) d_Mo_raise_13 (by decide) ?_
  refine ww_icmp_ne (pc := 15) (tgt := 22) g.1 d_Mo_raise_15 (by decide) h (fun c h => ?_) (fun c h => ?_)
  · refine ww_iconst (pc := 22) g.1 (v := 3) d_Mo_raise_22 (by decide) ?_
    exact j_Mo_raise_j23 g hR 3 s ls (lv_sub hl [] rfl) h
  · refine ww_iconst (pc := 18) g.1 (v := 4) d_Mo_raise_18 (by decide) ?_
    refine ww_goto (pc := 19) (tgt := 23) g.1 d_Mo_raise_19 (by decide) ?_
    exact j_Mo_raise_j23 g hR 4 s ls (lv_sub hl [] rfl) h

abbrev b_Arr_fill____ : ByteArray := prog_34_method_112_code
def y_Arr_fill____ : MethodName := ⟨R_Arr, "fill", "([ZIIZ)V"⟩
abbrev w_Arr_fill____ : List Cond := .code y_Arr_fill____ b_Arr_fill____ 5 none :: wA
theorem k_Arr_fill____ : Cond.code y_Arr_fill____ b_Arr_fill____ 5 none ∈ wA := kinm (show _ ∈ tables_1 from (List.mem_append_right _ (List.mem_append_right _ (List.mem_append_right _ (List.mem_append_right _ (List.mem_append_right _ (List.mem_append_right _ (List.mem_append_right _ (List.mem_append_right _ (List.mem_append_right _ (List.mem_append_right _ (List.mem_append_right _ (List.mem_append_left _ (List.mem_of_getElem? (l := tables_1_12) (i := 7) (by decide +kernel))))))))))))))) (by decide +kernel)
theorem d_Arr_fill_____0 : decode b_Arr_fill____ 0 = .ok (.aload_n 0, 1) := by decide +kernel
theorem d_Arr_fill_____1 : decode b_Arr_fill____ 1 = .ok (.arraylength, 1) := by decide +kernel
theorem d_Arr_fill_____2 : decode b_Arr_fill____ 2 = .ok (.iload_n 1, 1) := by decide +kernel
theorem d_Arr_fill_____3 : decode b_Arr_fill____ 3 = .ok (.iload_n 2, 1) := by decide +kernel
theorem d_Arr_fill_____4 : decode b_Arr_fill____ 4 = .ok (.invokestatic 13, 3) := by decide +kernel
theorem d_Arr_fill_____7 : decode b_Arr_fill____ 7 = .ok (.iload_n 1, 1) := by decide +kernel
theorem d_Arr_fill_____8 : decode b_Arr_fill____ 8 = .ok (.istore 4, 2) := by decide +kernel
theorem d_Arr_fill_____10 : decode b_Arr_fill____ 10 = .ok (.iload 4, 2) := by decide +kernel
theorem d_Arr_fill_____12 : decode b_Arr_fill____ 12 = .ok (.iload_n 2, 1) := by decide +kernel
theorem d_Arr_fill_____13 : decode b_Arr_fill____ 13 = .ok (.if_icmp .ge 14, 3) := by decide +kernel
theorem d_Arr_fill_____16 : decode b_Arr_fill____ 16 = .ok (.aload_n 0, 1) := by decide +kernel
theorem d_Arr_fill_____17 : decode b_Arr_fill____ 17 = .ok (.iload 4, 2) := by decide +kernel
theorem d_Arr_fill_____19 : decode b_Arr_fill____ 19 = .ok (.iload_n 3, 1) := by decide +kernel
theorem d_Arr_fill_____20 : decode b_Arr_fill____ 20 = .ok (.bastore, 1) := by decide +kernel
theorem d_Arr_fill_____21 : decode b_Arr_fill____ 21 = .ok (.iinc 4 1, 3) := by decide +kernel
theorem d_Arr_fill_____24 : decode b_Arr_fill____ 24 = .ok (.goto (-14), 3) := by decide +kernel
theorem d_Arr_fill_____27 : decode b_Arr_fill____ 27 = .ok (.return_, 1) := by decide +kernel
theorem kw_78 : Cond.static y_Arr_fill____ ∈ wA := kinm (show _ ∈ tables_1 from (List.mem_append_right _ (List.mem_append_right _ (List.mem_append_right _ (List.mem_append_right _ (List.mem_append_right _ (List.mem_append_right _ (List.mem_append_right _ (List.mem_append_right _ (List.mem_append_right _ (List.mem_append_right _ (List.mem_append_right _ (List.mem_append_left _ (List.mem_of_getElem? (l := tables_1_12) (i := 6) (by decide +kernel))))))))))))))) (by decide +kernel)
theorem cs_Arr_fill____ : CS y_Arr_fill____ b_Arr_fill____ 5 none 4 := ⟨kw_78, kw_3, k_Arr_fill____, by decide +kernel⟩
theorem lp_Arr_fill_____L10 {X : Cx} {q : PL} (g : Gd X y_Arr_fill____ b_Arr_fill____ 5 none 1 22 R_Arr) (x : Nat × Int32 × Int32 × Int32 × Int32) (s : S1) (o : ((Nat × Int32 × Int32 × Int32 × Int32) ⊕ ((Unit))) × S1) (h : M_Arr_fill_____L10 x s = some o) (hR : (Sum.elim (fun y : Nat × Int32 × Int32 × Int32 × Int32 => ∀ ls : Array Slot, (AK 3 y.1) → (prs o.2 y.1 y.2.1) → lv_has ls 5 [(0, .ref (q.1 y.1 y.2.1)), (2, .int y.2.2.1), (3, .int y.2.2.2.1), (4, .int y.2.2.2.2)] → WW X q o.2 10 ls []) (fun y : Unit => ∀ ls : Array Slot, lv_has ls 5 [] → WW X q o.2 27 ls []) o.1)) : ∀ ls : Array Slot, (AK 3 x.1) → (prs s x.1 x.2.1) → lv_has ls 5 [(0, .ref (q.1 x.1 x.2.1)), (2, .int x.2.2.1), (3, .int x.2.2.2.1), (4, .int x.2.2.2.2)] → WW X q s 10 ls [] := by
  intro ls hp0 hp1 hl
  unfold M_Arr_fill_____L10 at h
  refine ww_iload (pc := 10) g.1 d_Arr_fill_____10 (lv_at hl 3 rfl) ?_
  refine ww_iload_n (pc := 12) g.1 d_Arr_fill_____12 rfl (lv_at hl 1 rfl) ?_
  refine ww_icmp_ge (pc := 13) (tgt := 27) g.1 d_Arr_fill_____13 (by decide) h (fun c h => ?_) (fun c h => ?_)
  · rw [oR_eq h] at hR
    exact hR ls (lv_sub hl [] rfl)
  · refine ww_aload_n (pc := 16) g.1 d_Arr_fill_____16 rfl (lv_at hl 0 rfl) ?_
    refine ww_iload (pc := 17) g.1 d_Arr_fill_____17 (lv_at hl 3 rfl) ?_
    refine ww_iload_n (pc := 19) g.1 d_Arr_fill_____19 rfl (lv_at hl 2 rfl) ?_
    refine ww_sz (pc := 20) g hp1 hp0.1 (ak_n hp0) d_Arr_fill_____20 h fun s hs h => ?_
    have hp1 : prs s x.1 x.2.1 := hs ▸ hp1
    refine ww_iinc (pc := 21) g.1 (v := x.2.2.2.2 + 1) (lv' := [(4, .int (x.2.2.2.2 + 1)), (0, .ref (q.1 x.1 x.2.1)), (2, .int x.2.2.1), (3, .int x.2.2.2.1)]) d_Arr_fill_____21 hl (k := 3) rfl (by rfl) (by decide) rfl fun ls hl => ?_
    refine ww_goto (pc := 24) (tgt := 10) g.1 d_Arr_fill_____24 (by decide) ?_
    rw [oR_eq h] at hR
    exact hR ls hp0 hp1 (lv_sub hl [1, 2, 3, 0] rfl)

theorem ct_Arr_fill____ {l : Launch} {P : PP} {q : PL} {s s' : S1} {l0r : Nat} {l0 : Int32} {l1 : Int32} {l2 : Int32} {l3 : Int32} (hp0 : AK 3 l0r) (hp1 : prs s l0r l0) {r : Unit} (h : M_Arr_fill____ l0r l0 l1 l2 l3 s = some (r, s')) : Ct l y_Arr_fill____ b_Arr_fill____ 5 none 1 22 P q s [.ref (q.1 l0r l0), .int l1, .int l2, .int l3] none q s' := by
  refine ct_ofF (by decide +kernel) (Nat.le_of_ble_eq_true rfl) fun X ls eP el g hR hl => ?_
  subst eP
  have hR : Rt X q ((r, s') : Unit × S1).2 none := hR
  have hl : lv_has ls 5 [(0, .ref (q.1 l0r l0)), (1, .int l1), (2, .int l2), (3, .int l3)] := hl
  generalize (r, s') = o at h hR
  unfold M_Arr_fill____ at h
  refine ww_aload_n (pc := 0) g.1 d_Arr_fill_____0 rfl (lv_at hl 0 rfl) ?_
  refine ww_alen (pc := 1) g (n := lnI l0r) hp1 (ak_k hp0) (ak_m hp0) d_Arr_fill_____1 ?_
  refine ww_iload_n (pc := 2) g.1 d_Arr_fill_____2 rfl (lv_at hl 1 rfl) ?_
  refine ww_iload_n (pc := 3) g.1 d_Arr_fill_____3 rfl (lv_at hl 2 rfl) ?_
  obtain ⟨v4, s, hc4, h⟩ := oB_of h
  refine ww_callS (pc := 4) (rest := []) g cs_Arr_rangeCheck (Or.inl kw_6) (ct_Arr_rangeCheck hc4) ⟨by decide, by decide⟩ rfl hl.1 (Nat.le_of_ble_eq_true rfl) d_Arr_fill_____4 rfl ?_
  refine ww_st (st' := []) rfl ?_
  refine ww_pr h fun hp1 h => ?_
  refine ww_iload_n (pc := 7) g.1 d_Arr_fill_____7 rfl (lv_at hl 1 rfl) ?_
  refine ww_istore (pc := 8) (i := 4) g.1 (lv' := [(4, .int l1), (0, .ref (q.1 l0r l0)), (1, .int l1), (2, .int l2), (3, .int l3)]) d_Arr_fill_____8 hl (by decide) rfl fun ls hl => ?_
  obtain ⟨e10, s1, hw, h⟩ := oB_of h
  refine oW_rule (Wh := fun (x : Nat × Int32 × Int32 × Int32 × Int32) (s : S1) => ∀ ls : Array Slot, (AK 3 x.1) → (prs s x.1 x.2.1) → lv_has ls 5 [(0, .ref (q.1 x.1 x.2.1)), (2, .int x.2.2.1), (3, .int x.2.2.2.1), (4, .int x.2.2.2.2)] → WW X q s 10 ls []) (We := fun (e : (Unit)) (s : S1) => ∀ ls : Array Slot, lv_has ls 5 [] → WW X q s 27 ls []) (fun x s o hb hc => lp_Arr_fill_____L10 (q := q) g x s o hb hc) hw ?_ ls hp0 hp1 (lv_sub hl [1, 3, 4, 0] rfl)
  clear hw hl
  clear ls
  intro ls hl
  generalize s1 = s at h ⊢
  exact ww_vretH (pc := 27) g h hR d_Arr_fill_____27

abbrev b_Mo_place : ByteArray := prog_14_method_45_code
def y_Mo_place : MethodName := ⟨R_Mo, "place", "(I)V"⟩
abbrev w_Mo_place : List Cond := .code y_Mo_place b_Mo_place 2 none :: wA
theorem k_Mo_place : Cond.code y_Mo_place b_Mo_place 2 none ∈ wA := kinm (show _ ∈ tables_1 from (List.mem_append_right _ (List.mem_append_right _ (List.mem_append_right _ (List.mem_append_right _ (List.mem_append_right _ (List.mem_append_right _ (List.mem_append_right _ (List.mem_append_right _ (List.mem_append_right _ (List.mem_append_right _ (List.mem_append_right _ (List.mem_append_left _ (List.mem_of_getElem? (l := tables_1_12) (i := 11) (by decide +kernel))))))))))))))) (by decide +kernel)
theorem d_Mo_place_0 : decode b_Mo_place 0 = .ok (.iload_n 1, 1) := by decide +kernel
theorem d_Mo_place_1 : decode b_Mo_place 1 = .ok (.ifCond .lt 12, 3) := by decide +kernel
theorem d_Mo_place_4 : decode b_Mo_place 4 = .ok (.aload_n 0, 1) := by decide +kernel
theorem d_Mo_place_5 : decode b_Mo_place 5 = .ok (.getfield 158, 3) := by decide +kernel
theorem d_Mo_place_8 : decode b_Mo_place 8 = .ok (.iload_n 1, 1) := by decide +kernel
theorem d_Mo_place_9 : decode b_Mo_place 9 = .ok (.baload, 1) := by decide +kernel
theorem d_Mo_place_10 : decode b_Mo_place 10 = .ok (.ifCond .eq 4, 3) := by decide +kernel
theorem d_Mo_place_13 : decode b_Mo_place 13 = .ok (.return_, 1) := by decide +kernel
theorem d_Mo_place_14 : decode b_Mo_place 14 = .ok (.aload_n 0, 1) := by decide +kernel
theorem d_Mo_place_15 : decode b_Mo_place 15 = .ok (.getfield 158, 3) := by decide +kernel
theorem d_Mo_place_18 : decode b_Mo_place 18 = .ok (.iload_n 1, 1) := by decide +kernel
theorem d_Mo_place_19 : decode b_Mo_place 19 = .ok (.iconst 1, 1) := by decide +kernel
theorem d_Mo_place_20 : decode b_Mo_place 20 = .ok (.bastore, 1) := by decide +kernel
theorem d_Mo_place_21 : decode b_Mo_place 21 = .ok (.aload_n 0, 1) := by decide +kernel
theorem d_Mo_place_22 : decode b_Mo_place 22 = .ok (.getfield 228, 3) := by decide +kernel
theorem d_Mo_place_25 : decode b_Mo_place 25 = .ok (.aload_n 0, 1) := by decide +kernel
theorem d_Mo_place_26 : decode b_Mo_place 26 = .ok (.dup, 1) := by decide +kernel
theorem d_Mo_place_27 : decode b_Mo_place 27 = .ok (.getfield 231, 3) := by decide +kernel
theorem d_Mo_place_30 : decode b_Mo_place 30 = .ok (.dup_x1, 1) := by decide +kernel
theorem d_Mo_place_31 : decode b_Mo_place 31 = .ok (.iconst 1, 1) := by decide +kernel
theorem d_Mo_place_32 : decode b_Mo_place 32 = .ok (.iadd, 1) := by decide +kernel
theorem d_Mo_place_33 : decode b_Mo_place 33 = .ok (.putfield 231, 3) := by decide +kernel
theorem d_Mo_place_36 : decode b_Mo_place 36 = .ok (.iload_n 1, 1) := by decide +kernel
theorem d_Mo_place_37 : decode b_Mo_place 37 = .ok (.iastore, 1) := by decide +kernel
theorem d_Mo_place_38 : decode b_Mo_place 38 = .ok (.return_, 1) := by decide +kernel
theorem kw_79 : Cond.fieldLink R_Mo 158 "LuaMachineModel" "marked" "[Z" ∈ wA := kinm (show _ ∈ tables_1 from (List.mem_append_right _ (List.mem_append_right _ (List.mem_append_right _ (List.mem_append_right _ (List.mem_append_right _ (List.mem_append_right _ (List.mem_append_right _ (List.mem_append_right _ (List.mem_append_right _ (List.mem_append_left _ (List.mem_of_getElem? (l := tables_1_10) (i := 101) (by decide +kernel))))))))))))) (by decide +kernel)
theorem kw_80 : Cond.fieldLink R_Mo 228 "LuaMachineModel" "grey" "[I" ∈ wA := kinm (show _ ∈ tables_1 from (List.mem_append_right _ (List.mem_append_right _ (List.mem_append_right _ (List.mem_append_right _ (List.mem_append_right _ (List.mem_append_right _ (List.mem_append_right _ (List.mem_append_right _ (List.mem_append_right _ (List.mem_append_left _ (List.mem_of_getElem? (l := tables_1_10) (i := 124) (by decide +kernel))))))))))))) (by decide +kernel)
theorem kw_81 : Cond.fieldLink R_Mo 231 "LuaMachineModel" "greys" "I" ∈ wA := kinm (show _ ∈ tables_1 from (List.mem_append_right _ (List.mem_append_right _ (List.mem_append_right _ (List.mem_append_right _ (List.mem_append_right _ (List.mem_append_right _ (List.mem_append_right _ (List.mem_append_right _ (List.mem_append_right _ (List.mem_append_left _ (List.mem_of_getElem? (l := tables_1_10) (i := 125) (by decide +kernel))))))))))))) (by decide +kernel)
theorem kw_82 : Cond.instanceMethod y_Mo_place ∈ wA := kinm (show _ ∈ tables_1 from (List.mem_append_right _ (List.mem_append_right _ (List.mem_append_right _ (List.mem_append_right _ (List.mem_append_right _ (List.mem_append_right _ (List.mem_append_right _ (List.mem_append_right _ (List.mem_append_right _ (List.mem_append_right _ (List.mem_append_right _ (List.mem_append_left _ (List.mem_of_getElem? (l := tables_1_12) (i := 10) (by decide +kernel))))))))))))))) (by decide +kernel)
theorem kw_83 : Cond.selects R_Mo y_Mo_place y_Mo_place ∈ wA := kinp 130 (by decide +kernel) (by decide +kernel)
theorem cv_Mo_place : CV y_Mo_place b_Mo_place 2 none 1 := ⟨kw_82, kw_83, kw_17, k_Mo_place, by decide +kernel⟩
theorem ct_Mo_place {l : Launch} {P : PP} {q : PL} {s s' : S1} {l1 : Int32} {r : Unit} (h : M_Mo_place l1 s = some (r, s')) : Ct l y_Mo_place b_Mo_place 2 none 0 0 P q s [.ref (q.1 0 0), .int l1] none q s' := by
  refine ct_of (by decide) (Nat.le_of_ble_eq_true rfl) fun X ls eP el g hR hl => ?_
  subst eP
  have hR : Rt X q ((r, s') : Unit × S1).2 none := hR
  have hl : lv_has ls 2 [(0, .ref (q.1 0 0)), (1, .int l1)] := hl
  generalize (r, s') = o at h hR
  unfold M_Mo_place at h
  refine ww_iload_n (pc := 0) g.1 d_Mo_place_0 rfl (lv_at hl 1 rfl) ?_
  refine ww_if_lt (pc := 1) (tgt := 13) g.1 d_Mo_place_1 (by decide) h (fun c h => ?_) (fun c h => ?_)
  · exact ww_vretH (pc := 13) g h hR d_Mo_place_13
  · refine ww_aload_n (pc := 4) g.1 d_Mo_place_4 rfl (lv_at hl 0 rfl) ?_
    refine ww_gR (pc := 5) g (k := 46) cl_Mo (pz rfl (by decide)) (by decide) (Or.inl kw_79) (f := 46) (t := 59) rfl rfl rfl d_Mo_place_5 ?_
    refine ww_iload_n (pc := 8) g.1 d_Mo_place_8 rfl (lv_at hl 1 rfl) ?_
    refine ww_az (pc := 9) g (pz rfl (by decide)) rfl rfl d_Mo_place_9 h fun v9 h => ?_
    refine ww_if_eq (pc := 10) (tgt := 14) g.1 d_Mo_place_10 (by decide) h (fun c h => ?_) (fun c h => ?_)
    · refine ww_aload_n (pc := 14) g.1 d_Mo_place_14 rfl (lv_at hl 0 rfl) ?_
      refine ww_gR (pc := 15) g (k := 46) cl_Mo (pz rfl (by decide)) (by decide) (Or.inl kw_79) (f := 46) (t := 59) rfl rfl rfl d_Mo_place_15 ?_
      refine ww_iload_n (pc := 18) g.1 d_Mo_place_18 rfl (lv_at hl 1 rfl) ?_
      refine ww_iconst (pc := 19) g.1 (v := 1) d_Mo_place_19 (by decide) ?_
      refine ww_sz (pc := 20) g (pz rfl (by decide)) rfl rfl d_Mo_place_20 h fun s hs h => ?_
      refine ww_aload_n (pc := 21) g.1 d_Mo_place_21 rfl (lv_at hl 0 rfl) ?_
      refine ww_gR (pc := 22) g (k := 68) cl_Mo (pz rfl (by decide)) (by decide) (Or.inl kw_80) (f := 68) (t := 75) rfl rfl rfl d_Mo_place_22 ?_
      refine ww_aload_n (pc := 25) g.1 d_Mo_place_25 rfl (lv_at hl 0 rfl) ?_
      refine ww_dup (pc := 26) g.1 d_Mo_place_26 rfl ?_
      refine ww_gI (pc := 27) g (k := 69) cl_Mo (pz rfl (by decide)) (by decide) (Or.inl kw_81) (f := 69) rfl rfl d_Mo_place_27 h fun v27 h => ?_
      refine ww_dup_x1 (pc := 30) g.1 d_Mo_place_30 rfl rfl ?_
      refine ww_iconst (pc := 31) g.1 (v := 1) d_Mo_place_31 (by decide) ?_
      refine ww_iadd (pc := 32) g.1 d_Mo_place_32 ?_
      refine ww_pI (pc := 33) g (k := 69) cl_Mo (pz rfl (by decide)) (by decide) (Or.inl kw_81) rfl (f := 69) rfl rfl rfl rfl d_Mo_place_33 h fun s hs h => ?_
      refine ww_iload_n (pc := 36) g.1 d_Mo_place_36 rfl (lv_at hl 1 rfl) ?_
      refine ww_si (pc := 37) g (pz rfl (by decide)) rfl rfl d_Mo_place_37 h fun s hs h => ?_
      exact ww_vretH (pc := 38) g h hR d_Mo_place_38
    · exact ww_vretH (pc := 13) g h hR d_Mo_place_13

abbrev b_Mo_mark : ByteArray := prog_14_method_44_code
def y_Mo_mark : MethodName := ⟨R_Mo, "mark", "(IJ)V"⟩
abbrev w_Mo_mark : List Cond := .code y_Mo_mark b_Mo_mark 4 none :: wA
theorem k_Mo_mark : Cond.code y_Mo_mark b_Mo_mark 4 none ∈ wA := kinm (show _ ∈ tables_1 from (List.mem_append_right _ (List.mem_append_right _ (List.mem_append_right _ (List.mem_append_right _ (List.mem_append_right _ (List.mem_append_right _ (List.mem_append_right _ (List.mem_append_right _ (List.mem_append_right _ (List.mem_append_right _ (List.mem_append_right _ (List.mem_append_left _ (List.mem_of_getElem? (l := tables_1_12) (i := 19) (by decide +kernel))))))))))))))) (by decide +kernel)
theorem d_Mo_mark_0 : decode b_Mo_mark 0 = .ok (.iload_n 1, 1) := by decide +kernel
theorem d_Mo_mark_1 : decode b_Mo_mark 1 = .ok (.iconst 4, 1) := by decide +kernel
theorem d_Mo_mark_2 : decode b_Mo_mark 2 = .ok (.if_icmp .lt 15, 3) := by decide +kernel
theorem d_Mo_mark_5 : decode b_Mo_mark 5 = .ok (.iload_n 1, 1) := by decide +kernel
theorem d_Mo_mark_6 : decode b_Mo_mark 6 = .ok (.bipush 6, 2) := by decide +kernel
theorem d_Mo_mark_8 : decode b_Mo_mark 8 = .ok (.if_icmp .ne 10, 3) := by decide +kernel
theorem d_Mo_mark_11 : decode b_Mo_mark 11 = .ok (.lload_n 2, 1) := by decide +kernel
theorem d_Mo_mark_12 : decode b_Mo_mark 12 = .ok (.lconst 0, 1) := by decide +kernel
theorem d_Mo_mark_13 : decode b_Mo_mark 13 = .ok (.lcmp, 1) := by decide +kernel
theorem d_Mo_mark_14 : decode b_Mo_mark 14 = .ok (.ifCond .ge 4, 3) := by decide +kernel
theorem d_Mo_mark_17 : decode b_Mo_mark 17 = .ok (.return_, 1) := by decide +kernel
theorem d_Mo_mark_18 : decode b_Mo_mark 18 = .ok (.aload_n 0, 1) := by decide +kernel
theorem d_Mo_mark_19 : decode b_Mo_mark 19 = .ok (.lload_n 2, 1) := by decide +kernel
theorem d_Mo_mark_20 : decode b_Mo_mark 20 = .ok (.l2i, 1) := by decide +kernel
theorem d_Mo_mark_21 : decode b_Mo_mark 21 = .ok (.invokevirtual 606, 3) := by decide +kernel
theorem d_Mo_mark_24 : decode b_Mo_mark 24 = .ok (.return_, 1) := by decide +kernel
theorem kw_84 : Cond.methodLink R_Mo 606 y_Mo_place ∈ wA := kinm (show _ ∈ tables_1 from (List.mem_append_right _ (List.mem_append_right _ (List.mem_append_right _ (List.mem_append_right _ (List.mem_append_right _ (List.mem_append_right _ (List.mem_append_right _ (List.mem_append_right _ (List.mem_append_right _ (List.mem_append_right _ (List.mem_append_right _ (List.mem_append_left _ (List.mem_of_getElem? (l := tables_1_12) (i := 8) (by decide +kernel))))))))))))))) (by decide +kernel)
theorem kw_85 : Cond.instanceMethod y_Mo_mark ∈ wA := kinm (show _ ∈ tables_1 from (List.mem_append_right _ (List.mem_append_right _ (List.mem_append_right _ (List.mem_append_right _ (List.mem_append_right _ (List.mem_append_right _ (List.mem_append_right _ (List.mem_append_right _ (List.mem_append_right _ (List.mem_append_right _ (List.mem_append_right _ (List.mem_append_left _ (List.mem_of_getElem? (l := tables_1_12) (i := 18) (by decide +kernel))))))))))))))) (by decide +kernel)
theorem kw_86 : Cond.selects R_Mo y_Mo_mark y_Mo_mark ∈ wA := kinp 132 (by decide +kernel) (by decide +kernel)
theorem cv_Mo_mark : CV y_Mo_mark b_Mo_mark 4 none 2 := ⟨kw_85, kw_86, kw_17, k_Mo_mark, by decide +kernel⟩
theorem j_Mo_mark_j18 {X : Cx} {q : PL} (g : Gd X y_Mo_mark b_Mo_mark 4 none 1 21 R_Mo) {o : (Unit) × S1} (hR : Rt X q o.2 none) (l2 : Int64) (s : S1) (ls : Array Slot) (hl : lv_has ls 4 [(0, .ref (q.1 0 0)), (2, .long l2)]) (h : M_Mo_mark_j18 l2 s = some o) : WW X q s 18 ls [] := by
  unfold M_Mo_mark_j18 at h
  refine ww_aload_n (pc := 18) g.1 d_Mo_mark_18 rfl (lv_at hl 0 rfl) ?_
  refine ww_lload_n (pc := 19) g.1 d_Mo_mark_19 rfl (lv_at hl 1 rfl) ?_
  refine ww_l2i (pc := 20) g.1 (v := l2.toInt32) d_Mo_mark_20 rfl ?_
  obtain ⟨v21, s, hc21, h⟩ := oB_of h
  refine ww_callV (pc := 21) (rest := []) g cv_Mo_place (Or.inl kw_84) cl_Mo (pz rfl (by decide)) (ct_Mo_place hc21) ⟨by decide, by decide⟩ rfl hl.1 (Nat.le_of_ble_eq_true rfl) d_Mo_mark_21 rfl ?_
  refine ww_st (st' := []) rfl ?_
  exact ww_vretH (pc := 24) g h hR d_Mo_mark_24

theorem ct_Mo_mark {l : Launch} {P : PP} {q : PL} {s s' : S1} {l1 : Int32} {l2 : Int64} {r : Unit} (h : M_Mo_mark l1 l2 s = some (r, s')) : Ct l y_Mo_mark b_Mo_mark 4 none 1 21 P q s [.ref (q.1 0 0), .int l1, .long l2] none q s' := by
  refine ct_of (by decide) (Nat.le_of_ble_eq_true rfl) fun X ls eP el g hR hl => ?_
  subst eP
  have hR : Rt X q ((r, s') : Unit × S1).2 none := hR
  have hl : lv_has ls 4 [(0, .ref (q.1 0 0)), (1, .int l1), (2, .long l2)] := hl
  generalize (r, s') = o at h hR
  unfold M_Mo_mark at h
  refine ww_iload_n (pc := 0) g.1 d_Mo_mark_0 rfl (lv_at hl 1 rfl) ?_
  refine ww_iconst (pc := 1) g.1 (v := 4) d_Mo_mark_1 (by decide) ?_
  refine ww_icmp_lt (pc := 2) (tgt := 17) g.1 d_Mo_mark_2 (by decide) h (fun c h => ?_) (fun c h => ?_)
  · exact ww_vretH (pc := 17) g h hR d_Mo_mark_17
  · refine ww_iload_n (pc := 5) g.1 d_Mo_mark_5 rfl (lv_at hl 1 rfl) ?_
    refine ww_bipush (pc := 6) g.1 (v := 6) d_Mo_mark_6 (by decide) ?_
    refine ww_icmp_ne (pc := 8) (tgt := 18) g.1 d_Mo_mark_8 (by decide) h (fun c h => ?_) (fun c h => ?_)
    · exact j_Mo_mark_j18 g hR l2 s ls (lv_sub hl [0, 2] rfl) h
    · refine ww_lload_n (pc := 11) g.1 d_Mo_mark_11 rfl (lv_at hl 2 rfl) ?_
      refine ww_lconst (pc := 12) g.1 (v := 0) d_Mo_mark_12 (by decide) ?_
      refine ww_lcmp (pc := 13) g.1 d_Mo_mark_13 ?_
      refine ww_if_ge (pc := 14) (tgt := 18) g.1 d_Mo_mark_14 (by decide) h (fun c h => ?_) (fun c h => ?_)
      · exact j_Mo_mark_j18 g hR l2 s ls (lv_sub hl [0, 2] rfl) h
      · exact ww_vretH (pc := 17) g h hR d_Mo_mark_17

abbrev b_Mo_load : ByteArray := prog_14_method_40_code
def y_Mo_load : MethodName := ⟨R_Mo, "load", "(I)V"⟩
abbrev w_Mo_load : List Cond := .code y_Mo_load b_Mo_load 3 none :: wA
theorem k_Mo_load : Cond.code y_Mo_load b_Mo_load 3 none ∈ wA := kinm (show _ ∈ tables_1 from (List.mem_append_right _ (List.mem_append_right _ (List.mem_append_right _ (List.mem_append_right _ (List.mem_append_right _ (List.mem_append_right _ (List.mem_append_right _ (List.mem_append_right _ (List.mem_append_right _ (List.mem_append_right _ (List.mem_append_right _ (List.mem_append_left _ (List.mem_of_getElem? (l := tables_1_12) (i := 27) (by decide +kernel))))))))))))))) (by decide +kernel)
theorem d_Mo_load_0 : decode b_Mo_load 0 = .ok (.aload_n 0, 1) := by decide +kernel
theorem d_Mo_load_1 : decode b_Mo_load 1 = .ok (.getfield 168, 3) := by decide +kernel
theorem d_Mo_load_4 : decode b_Mo_load 4 = .ok (.iload_n 1, 1) := by decide +kernel
theorem d_Mo_load_5 : decode b_Mo_load 5 = .ok (.iaload, 1) := by decide +kernel
theorem d_Mo_load_6 : decode b_Mo_load 6 = .ok (.ifCond .ge 32, 3) := by decide +kernel
theorem d_Mo_load_9 : decode b_Mo_load 9 = .ok (.aload_n 0, 1) := by decide +kernel
theorem d_Mo_load_10 : decode b_Mo_load 10 = .ok (.aload_n 0, 1) := by decide +kernel
theorem d_Mo_load_11 : decode b_Mo_load 11 = .ok (.getfield 212, 3) := by decide +kernel
theorem d_Mo_load_14 : decode b_Mo_load 14 = .ok (.getfield 585, 3) := by decide +kernel
theorem d_Mo_load_17 : decode b_Mo_load 17 = .ok (.iload_n 1, 1) := by decide +kernel
theorem d_Mo_load_18 : decode b_Mo_load 18 = .ok (.baload, 1) := by decide +kernel
theorem d_Mo_load_19 : decode b_Mo_load 19 = .ok (.putfield 222, 3) := by decide +kernel
theorem d_Mo_load_22 : decode b_Mo_load 22 = .ok (.aload_n 0, 1) := by decide +kernel
theorem d_Mo_load_23 : decode b_Mo_load 23 = .ok (.aload_n 0, 1) := by decide +kernel
theorem d_Mo_load_24 : decode b_Mo_load 24 = .ok (.getfield 212, 3) := by decide +kernel
theorem d_Mo_load_27 : decode b_Mo_load 27 = .ok (.getfield 588, 3) := by decide +kernel
theorem d_Mo_load_30 : decode b_Mo_load 30 = .ok (.iload_n 1, 1) := by decide +kernel
theorem d_Mo_load_31 : decode b_Mo_load 31 = .ok (.laload, 1) := by decide +kernel
theorem d_Mo_load_32 : decode b_Mo_load 32 = .ok (.putfield 225, 3) := by decide +kernel
theorem d_Mo_load_35 : decode b_Mo_load 35 = .ok (.goto 48, 3) := by decide +kernel
theorem d_Mo_load_38 : decode b_Mo_load 38 = .ok (.aload_n 0, 1) := by decide +kernel
theorem d_Mo_load_39 : decode b_Mo_load 39 = .ok (.getfield 239, 3) := by decide +kernel
theorem d_Mo_load_42 : decode b_Mo_load 42 = .ok (.aload_n 0, 1) := by decide +kernel
theorem d_Mo_load_43 : decode b_Mo_load 43 = .ok (.getfield 168, 3) := by decide +kernel
theorem d_Mo_load_46 : decode b_Mo_load 46 = .ok (.iload_n 1, 1) := by decide +kernel
theorem d_Mo_load_47 : decode b_Mo_load 47 = .ok (.iaload, 1) := by decide +kernel
theorem d_Mo_load_48 : decode b_Mo_load 48 = .ok (.aaload, 1) := by decide +kernel
theorem d_Mo_load_49 : decode b_Mo_load 49 = .ok (.getfield 591, 3) := by decide +kernel
theorem d_Mo_load_52 : decode b_Mo_load 52 = .ok (.astore_n 2, 1) := by decide +kernel
theorem d_Mo_load_53 : decode b_Mo_load 53 = .ok (.aload_n 0, 1) := by decide +kernel
theorem d_Mo_load_54 : decode b_Mo_load 54 = .ok (.aload_n 2, 1) := by decide +kernel
theorem d_Mo_load_55 : decode b_Mo_load 55 = .ok (.getfield 585, 3) := by decide +kernel
theorem d_Mo_load_58 : decode b_Mo_load 58 = .ok (.aload_n 0, 1) := by decide +kernel
theorem d_Mo_load_59 : decode b_Mo_load 59 = .ok (.getfield 171, 3) := by decide +kernel
theorem d_Mo_load_62 : decode b_Mo_load 62 = .ok (.iload_n 1, 1) := by decide +kernel
theorem d_Mo_load_63 : decode b_Mo_load 63 = .ok (.iaload, 1) := by decide +kernel
theorem d_Mo_load_64 : decode b_Mo_load 64 = .ok (.baload, 1) := by decide +kernel
theorem d_Mo_load_65 : decode b_Mo_load 65 = .ok (.putfield 222, 3) := by decide +kernel
theorem d_Mo_load_68 : decode b_Mo_load 68 = .ok (.aload_n 0, 1) := by decide +kernel
theorem d_Mo_load_69 : decode b_Mo_load 69 = .ok (.aload_n 2, 1) := by decide +kernel
theorem d_Mo_load_70 : decode b_Mo_load 70 = .ok (.getfield 588, 3) := by decide +kernel
theorem d_Mo_load_73 : decode b_Mo_load 73 = .ok (.aload_n 0, 1) := by decide +kernel
theorem d_Mo_load_74 : decode b_Mo_load 74 = .ok (.getfield 171, 3) := by decide +kernel
theorem d_Mo_load_77 : decode b_Mo_load 77 = .ok (.iload_n 1, 1) := by decide +kernel
theorem d_Mo_load_78 : decode b_Mo_load 78 = .ok (.iaload, 1) := by decide +kernel
theorem d_Mo_load_79 : decode b_Mo_load 79 = .ok (.laload, 1) := by decide +kernel
theorem d_Mo_load_80 : decode b_Mo_load 80 = .ok (.putfield 225, 3) := by decide +kernel
theorem d_Mo_load_83 : decode b_Mo_load 83 = .ok (.return_, 1) := by decide +kernel
theorem kw_87 : Cond.fieldLink R_Mo 168 "LuaMachineModel" "first" "[I" ∈ wA := kinm (show _ ∈ tables_1 from (List.mem_append_right _ (List.mem_append_right _ (List.mem_append_right _ (List.mem_append_right _ (List.mem_append_right _ (List.mem_append_right _ (List.mem_append_right _ (List.mem_append_right _ (List.mem_append_right _ (List.mem_append_left _ (List.mem_of_getElem? (l := tables_1_10) (i := 104) (by decide +kernel))))))))))))) (by decide +kernel)
theorem kw_88 : Cond.fieldLink R_Mo 239 "LuaMachineModel" "threads" "[LLuaMachineModel$Thread_;" ∈ wA := kinm (show _ ∈ tables_1 from (List.mem_append_right _ (List.mem_append_right _ (List.mem_append_right _ (List.mem_append_right _ (List.mem_append_right _ (List.mem_append_right _ (List.mem_append_right _ (List.mem_append_right _ (List.mem_append_right _ (List.mem_append_left _ (List.mem_of_getElem? (l := tables_1_10) (i := 127) (by decide +kernel))))))))))))) (by decide +kernel)
theorem kw_89 : Cond.fieldLink R_Mo 591 "LuaMachineModel$Thread_" "stack" "LLuaMachineModel$Values;" ∈ wA := kinm (show _ ∈ tables_1 from (List.mem_append_right _ (List.mem_append_right _ (List.mem_append_right _ (List.mem_append_right _ (List.mem_append_right _ (List.mem_append_right _ (List.mem_append_right _ (List.mem_append_right _ (List.mem_append_left _ (List.mem_of_getElem? (l := tables_1_9) (i := 219) (by decide +kernel)))))))))))) (by decide +kernel)
theorem kw_90 : Cond.fieldLink R_Mo 585 "LuaMachineModel$Values" "k" "[B" ∈ wA := kinm (show _ ∈ tables_1 from (List.mem_append_right _ (List.mem_append_right _ (List.mem_append_right _ (List.mem_append_right _ (List.mem_append_right _ (List.mem_append_right _ (List.mem_append_right _ (List.mem_append_right _ (List.mem_append_left _ (List.mem_of_getElem? (l := tables_1_9) (i := 123) (by decide +kernel)))))))))))) (by decide +kernel)
theorem kw_91 : Cond.fieldLink R_Mo 171 "LuaMachineModel" "second" "[I" ∈ wA := kinm (show _ ∈ tables_1 from (List.mem_append_right _ (List.mem_append_right _ (List.mem_append_right _ (List.mem_append_right _ (List.mem_append_right _ (List.mem_append_right _ (List.mem_append_right _ (List.mem_append_right _ (List.mem_append_right _ (List.mem_append_left _ (List.mem_of_getElem? (l := tables_1_10) (i := 106) (by decide +kernel))))))))))))) (by decide +kernel)
theorem kw_92 : Cond.fieldLink R_Mo 222 "LuaMachineModel" "gotKind" "I" ∈ wA := kinm (show _ ∈ tables_1 from (List.mem_append_right _ (List.mem_append_right _ (List.mem_append_right _ (List.mem_append_right _ (List.mem_append_right _ (List.mem_append_right _ (List.mem_append_right _ (List.mem_append_right _ (List.mem_append_right _ (List.mem_append_left _ (List.mem_of_getElem? (l := tables_1_10) (i := 122) (by decide +kernel))))))))))))) (by decide +kernel)
theorem kw_93 : Cond.fieldLink R_Mo 588 "LuaMachineModel$Values" "v" "[J" ∈ wA := kinm (show _ ∈ tables_1 from (List.mem_append_right _ (List.mem_append_right _ (List.mem_append_right _ (List.mem_append_right _ (List.mem_append_right _ (List.mem_append_right _ (List.mem_append_right _ (List.mem_append_right _ (List.mem_append_left _ (List.mem_of_getElem? (l := tables_1_9) (i := 125) (by decide +kernel)))))))))))) (by decide +kernel)
theorem kw_94 : Cond.fieldLink R_Mo 225 "LuaMachineModel" "got" "J" ∈ wA := kinm (show _ ∈ tables_1 from (List.mem_append_right _ (List.mem_append_right _ (List.mem_append_right _ (List.mem_append_right _ (List.mem_append_right _ (List.mem_append_right _ (List.mem_append_right _ (List.mem_append_right _ (List.mem_append_right _ (List.mem_append_left _ (List.mem_of_getElem? (l := tables_1_10) (i := 123) (by decide +kernel))))))))))))) (by decide +kernel)
theorem kw_95 : Cond.fieldLink R_Mo 212 "LuaMachineModel" "variable" "LLuaMachineModel$Values;" ∈ wA := kinm (show _ ∈ tables_1 from (List.mem_append_right _ (List.mem_append_right _ (List.mem_append_right _ (List.mem_append_right _ (List.mem_append_right _ (List.mem_append_right _ (List.mem_append_right _ (List.mem_append_right _ (List.mem_append_right _ (List.mem_append_left _ (List.mem_of_getElem? (l := tables_1_10) (i := 119) (by decide +kernel))))))))))))) (by decide +kernel)
theorem kw_96 : Cond.instanceMethod y_Mo_load ∈ wA := kinm (show _ ∈ tables_1 from (List.mem_append_right _ (List.mem_append_right _ (List.mem_append_right _ (List.mem_append_right _ (List.mem_append_right _ (List.mem_append_right _ (List.mem_append_right _ (List.mem_append_right _ (List.mem_append_right _ (List.mem_append_right _ (List.mem_append_right _ (List.mem_append_left _ (List.mem_of_getElem? (l := tables_1_12) (i := 26) (by decide +kernel))))))))))))))) (by decide +kernel)
theorem kw_97 : Cond.selects R_Mo y_Mo_load y_Mo_load ∈ wA := kinp 134 (by decide +kernel) (by decide +kernel)
theorem cv_Mo_load : CV y_Mo_load b_Mo_load 3 none 1 := ⟨kw_96, kw_97, kw_17, k_Mo_load, by decide +kernel⟩
theorem ct_Mo_load {l : Launch} {P : PP} {q : PL} {s s' : S1} {l1 : Int32} {r : Unit} (h : M_Mo_load l1 s = some (r, s')) : Ct l y_Mo_load b_Mo_load 3 none 0 0 P q s [.ref (q.1 0 0), .int l1] none q s' := by
  refine ct_of (by decide) (Nat.le_of_ble_eq_true rfl) fun X ls eP el g hR hl => ?_
  subst eP
  have hR : Rt X q ((r, s') : Unit × S1).2 none := hR
  have hl : lv_has ls 3 [(0, .ref (q.1 0 0)), (1, .int l1)] := hl
  generalize (r, s') = o at h hR
  unfold M_Mo_load at h
  refine ww_aload_n (pc := 0) g.1 d_Mo_load_0 rfl (lv_at hl 0 rfl) ?_
  refine ww_gR (pc := 1) g (k := 49) cl_Mo (pz rfl (by decide)) (by decide) (Or.inl kw_87) (f := 49) (t := 62) rfl rfl rfl d_Mo_load_1 ?_
  refine ww_iload_n (pc := 4) g.1 d_Mo_load_4 rfl (lv_at hl 1 rfl) ?_
  refine ww_ai (pc := 5) g (pz rfl (by decide)) rfl rfl d_Mo_load_5 h fun v5 h => ?_
  refine ww_if_ge (pc := 6) (tgt := 38) g.1 d_Mo_load_6 (by decide) h (fun c h => ?_) (fun c h => ?_)
  · refine ww_aload_n (pc := 38) g.1 d_Mo_load_38 rfl (lv_at hl 0 rfl) ?_
    refine ww_gR (pc := 39) g (k := 71) cl_Mo (pz rfl (by decide)) (by decide) (Or.inl kw_88) (f := 71) (t := 76) rfl rfl rfl d_Mo_load_39 ?_
    refine ww_aload_n (pc := 42) g.1 d_Mo_load_42 rfl (lv_at hl 0 rfl) ?_
    refine ww_gR (pc := 43) g (k := 49) cl_Mo (pz rfl (by decide)) (by decide) (Or.inl kw_87) (f := 49) (t := 62) rfl rfl rfl d_Mo_load_43 ?_
    refine ww_iload_n (pc := 46) g.1 d_Mo_load_46 rfl (lv_at hl 1 rfl) ?_
    refine ww_ai (pc := 47) g (pz rfl (by decide)) rfl rfl d_Mo_load_47 h fun v47 h => ?_
    refine ww_at (pc := 48) g (t := 28) (pz rfl (by decide)) rfl rfl rfl d_Mo_load_48 h fun ca48 h => ?_
    refine ww_gR (pc := 49) g (k := 7) cl_Th (pt rfl rfl ca48) (by decide) (Or.inl kw_89) (f := 3591) (t := 19) rfl rfl rfl d_Mo_load_49 ?_
    refine ww_astore_n (pc := 52) (i := 2) g.1 (lv' := [(2, .ref (q.1 19 v47)), (0, .ref (q.1 0 0)), (1, .int l1)]) d_Mo_load_52 rfl hl (by decide) rfl fun ls hl => ?_
    refine ww_aload_n (pc := 53) g.1 d_Mo_load_53 rfl (lv_at hl 1 rfl) ?_
    refine ww_aload_n (pc := 54) g.1 d_Mo_load_54 rfl (lv_at hl 0 rfl) ?_
    refine ww_gR (pc := 55) g (k := 0) (cl_Va (Or.inr ⟨by decide, ca48⟩)) (pt rfl rfl ca48) (by decide) (Or.inl kw_90) (f := 2432) (t := 20) rfl rfl rfl d_Mo_load_55 ?_
    refine ww_aload_n (pc := 58) g.1 d_Mo_load_58 rfl (lv_at hl 1 rfl) ?_
    refine ww_gR (pc := 59) g (k := 50) cl_Mo (pz rfl (by decide)) (by decide) (Or.inl kw_91) (f := 50) (t := 63) rfl rfl rfl d_Mo_load_59 ?_
    refine ww_iload_n (pc := 62) g.1 d_Mo_load_62 rfl (lv_at hl 2 rfl) ?_
    refine ww_ai (pc := 63) g (pz rfl (by decide)) rfl rfl d_Mo_load_63 h fun v63 h => ?_
    refine ww_ab (pc := 64) g (pt rfl rfl ca48) rfl rfl d_Mo_load_64 h fun v64 h => ?_
    refine ww_pI (pc := 65) g (k := 66) cl_Mo (pz rfl (by decide)) (by decide) (Or.inl kw_92) rfl (f := 66) rfl rfl rfl rfl d_Mo_load_65 h fun s hs h => ?_
    refine ww_aload_n (pc := 68) g.1 d_Mo_load_68 rfl (lv_at hl 1 rfl) ?_
    refine ww_aload_n (pc := 69) g.1 d_Mo_load_69 rfl (lv_at hl 0 rfl) ?_
    refine ww_gR (pc := 70) g (k := 1) (cl_Va (Or.inr ⟨by decide, ca48⟩)) (pt rfl rfl ca48) (by decide) (Or.inl kw_93) (f := 2433) (t := 21) rfl rfl rfl d_Mo_load_70 ?_
    refine ww_aload_n (pc := 73) g.1 d_Mo_load_73 rfl (lv_at hl 1 rfl) ?_
    refine ww_gR (pc := 74) g (k := 50) cl_Mo (pz rfl (by decide)) (by decide) (Or.inl kw_91) (f := 50) (t := 63) rfl rfl rfl d_Mo_load_74 ?_
    refine ww_iload_n (pc := 77) g.1 d_Mo_load_77 rfl (lv_at hl 2 rfl) ?_
    refine ww_ai (pc := 78) g (pz rfl (by decide)) rfl rfl d_Mo_load_78 h fun v78 h => ?_
    refine ww_al (pc := 79) g (pt rfl rfl ca48) rfl rfl d_Mo_load_79 h fun v79 h => ?_
    refine ww_pL (pc := 80) g (k := 67) cl_Mo (pz rfl (by decide)) (by decide) (Or.inl kw_94) rfl (f := 67) rfl rfl rfl rfl d_Mo_load_80 h fun s hs h => ?_
    exact ww_vretH (pc := 83) g h hR d_Mo_load_83
  · refine ww_aload_n (pc := 9) g.1 d_Mo_load_9 rfl (lv_at hl 0 rfl) ?_
    refine ww_aload_n (pc := 10) g.1 d_Mo_load_10 rfl (lv_at hl 0 rfl) ?_
    refine ww_gR (pc := 11) g (k := 63) cl_Mo (pz rfl (by decide)) (by decide) (Or.inl kw_95) (f := 63) (t := 4) rfl rfl rfl d_Mo_load_11 ?_
    refine ww_gR (pc := 14) g (k := 0) (cl_Va (Or.inl ⟨by decide, rfl⟩)) (pz rfl (by decide)) (by decide) (Or.inl kw_90) (f := 512) (t := 5) rfl rfl rfl d_Mo_load_14 ?_
    refine ww_iload_n (pc := 17) g.1 d_Mo_load_17 rfl (lv_at hl 1 rfl) ?_
    refine ww_ab (pc := 18) g (pz rfl (by decide)) rfl rfl d_Mo_load_18 h fun v18 h => ?_
    refine ww_pI (pc := 19) g (k := 66) cl_Mo (pz rfl (by decide)) (by decide) (Or.inl kw_92) rfl (f := 66) rfl rfl rfl rfl d_Mo_load_19 h fun s hs h => ?_
    refine ww_aload_n (pc := 22) g.1 d_Mo_load_22 rfl (lv_at hl 0 rfl) ?_
    refine ww_aload_n (pc := 23) g.1 d_Mo_load_23 rfl (lv_at hl 0 rfl) ?_
    refine ww_gR (pc := 24) g (k := 63) cl_Mo (pz rfl (by decide)) (by decide) (Or.inl kw_95) (f := 63) (t := 4) rfl rfl rfl d_Mo_load_24 ?_
    refine ww_gR (pc := 27) g (k := 1) (cl_Va (Or.inl ⟨by decide, rfl⟩)) (pz rfl (by decide)) (by decide) (Or.inl kw_93) (f := 513) (t := 6) rfl rfl rfl d_Mo_load_27 ?_
    refine ww_iload_n (pc := 30) g.1 d_Mo_load_30 rfl (lv_at hl 1 rfl) ?_
    refine ww_al (pc := 31) g (pz rfl (by decide)) rfl rfl d_Mo_load_31 h fun v31 h => ?_
    refine ww_pL (pc := 32) g (k := 67) cl_Mo (pz rfl (by decide)) (by decide) (Or.inl kw_94) rfl (f := 67) rfl rfl rfl rfl d_Mo_load_32 h fun s hs h => ?_
    refine ww_goto (pc := 35) (tgt := 83) g.1 d_Mo_load_35 (by decide) ?_
    exact ww_vretH (pc := 83) g h hR d_Mo_load_83

abbrev b_Mo_closeVariable : ByteArray := prog_14_method_42_code
def y_Mo_closeVariable : MethodName := ⟨R_Mo, "closeVariable", "(I)V"⟩
abbrev w_Mo_closeVariable : List Cond := .code y_Mo_closeVariable b_Mo_closeVariable 2 none :: wA
theorem k_Mo_closeVariable : Cond.code y_Mo_closeVariable b_Mo_closeVariable 2 none ∈ wA := kinm (show _ ∈ tables_1 from (List.mem_append_right _ (List.mem_append_right _ (List.mem_append_right _ (List.mem_append_right _ (List.mem_append_right _ (List.mem_append_right _ (List.mem_append_right _ (List.mem_append_right _ (List.mem_append_right _ (List.mem_append_right _ (List.mem_append_right _ (List.mem_append_left _ (List.mem_of_getElem? (l := tables_1_12) (i := 45) (by decide +kernel))))))))))))))) (by decide +kernel)
theorem d_Mo_closeVariable_0 : decode b_Mo_closeVariable 0 = .ok (.aload_n 0, 1) := by decide +kernel
theorem d_Mo_closeVariable_1 : decode b_Mo_closeVariable 1 = .ok (.iload_n 1, 1) := by decide +kernel
theorem d_Mo_closeVariable_2 : decode b_Mo_closeVariable 2 = .ok (.invokevirtual 594, 3) := by decide +kernel
theorem d_Mo_closeVariable_5 : decode b_Mo_closeVariable 5 = .ok (.aload_n 0, 1) := by decide +kernel
theorem d_Mo_closeVariable_6 : decode b_Mo_closeVariable 6 = .ok (.getfield 168, 3) := by decide +kernel
theorem d_Mo_closeVariable_9 : decode b_Mo_closeVariable 9 = .ok (.iload_n 1, 1) := by decide +kernel
theorem d_Mo_closeVariable_10 : decode b_Mo_closeVariable 10 = .ok (.iconst (-1), 1) := by decide +kernel
theorem d_Mo_closeVariable_11 : decode b_Mo_closeVariable 11 = .ok (.iastore, 1) := by decide +kernel
theorem d_Mo_closeVariable_12 : decode b_Mo_closeVariable 12 = .ok (.aload_n 0, 1) := by decide +kernel
theorem d_Mo_closeVariable_13 : decode b_Mo_closeVariable 13 = .ok (.getfield 212, 3) := by decide +kernel
theorem d_Mo_closeVariable_16 : decode b_Mo_closeVariable 16 = .ok (.iload_n 1, 1) := by decide +kernel
theorem d_Mo_closeVariable_17 : decode b_Mo_closeVariable 17 = .ok (.aload_n 0, 1) := by decide +kernel
theorem d_Mo_closeVariable_18 : decode b_Mo_closeVariable 18 = .ok (.getfield 222, 3) := by decide +kernel
theorem d_Mo_closeVariable_21 : decode b_Mo_closeVariable 21 = .ok (.aload_n 0, 1) := by decide +kernel
theorem d_Mo_closeVariable_22 : decode b_Mo_closeVariable 22 = .ok (.getfield 225, 3) := by decide +kernel
theorem d_Mo_closeVariable_25 : decode b_Mo_closeVariable 25 = .ok (.invokevirtual 470, 3) := by decide +kernel
theorem d_Mo_closeVariable_28 : decode b_Mo_closeVariable 28 = .ok (.return_, 1) := by decide +kernel
theorem kw_98 : Cond.methodLink R_Mo 594 y_Mo_load ∈ wA := kinm (show _ ∈ tables_1 from (List.mem_append_right _ (List.mem_append_right _ (List.mem_append_right _ (List.mem_append_right _ (List.mem_append_right _ (List.mem_append_right _ (List.mem_append_right _ (List.mem_append_right _ (List.mem_append_right _ (List.mem_append_right _ (List.mem_append_right _ (List.mem_append_left _ (List.mem_of_getElem? (l := tables_1_12) (i := 24) (by decide +kernel))))))))))))))) (by decide +kernel)
theorem kw_99 : Cond.methodLink R_Mo 470 y_Va_set ∈ wA := kinm (show _ ∈ tables_1 from (List.mem_append_right _ (List.mem_append_right _ (List.mem_append_right _ (List.mem_append_right _ (List.mem_append_right _ (List.mem_append_right _ (List.mem_append_right _ (List.mem_append_right _ (List.mem_append_right _ (List.mem_append_right _ (List.mem_append_left _ (List.mem_of_getElem? (l := tables_1_11) (i := 162) (by decide +kernel)))))))))))))) (by decide +kernel)
theorem kw_100 : Cond.instanceMethod y_Mo_closeVariable ∈ wA := kinm (show _ ∈ tables_1 from (List.mem_append_right _ (List.mem_append_right _ (List.mem_append_right _ (List.mem_append_right _ (List.mem_append_right _ (List.mem_append_right _ (List.mem_append_right _ (List.mem_append_right _ (List.mem_append_right _ (List.mem_append_right _ (List.mem_append_right _ (List.mem_append_left _ (List.mem_of_getElem? (l := tables_1_12) (i := 44) (by decide +kernel))))))))))))))) (by decide +kernel)
theorem kw_101 : Cond.selects R_Mo y_Mo_closeVariable y_Mo_closeVariable ∈ wA := kinp 137 (by decide +kernel) (by decide +kernel)
theorem cv_Mo_closeVariable : CV y_Mo_closeVariable b_Mo_closeVariable 2 none 1 := ⟨kw_100, kw_101, kw_17, k_Mo_closeVariable, by decide +kernel⟩
theorem ct_Mo_closeVariable {l : Launch} {P : PP} {q : PL} {s s' : S1} {l1 : Int32} {r : Unit} (h : M_Mo_closeVariable l1 s = some (r, s')) : Ct l y_Mo_closeVariable b_Mo_closeVariable 2 none 1 24 P q s [.ref (q.1 0 0), .int l1] none q s' := by
  refine ct_of (by decide) (Nat.le_of_ble_eq_true rfl) fun X ls eP el g hR hl => ?_
  subst eP
  have hR : Rt X q ((r, s') : Unit × S1).2 none := hR
  have hl : lv_has ls 2 [(0, .ref (q.1 0 0)), (1, .int l1)] := hl
  generalize (r, s') = o at h hR
  unfold M_Mo_closeVariable at h
  refine ww_aload_n (pc := 0) g.1 d_Mo_closeVariable_0 rfl (lv_at hl 0 rfl) ?_
  refine ww_iload_n (pc := 1) g.1 d_Mo_closeVariable_1 rfl (lv_at hl 1 rfl) ?_
  obtain ⟨v2, s, hc2, h⟩ := oB_of h
  refine ww_callV (pc := 2) (rest := []) g cv_Mo_load (Or.inl kw_98) cl_Mo (pz rfl (by decide)) (ct_Mo_load hc2) ⟨by decide, by decide⟩ rfl hl.1 (Nat.le_of_ble_eq_true rfl) d_Mo_closeVariable_2 rfl ?_
  refine ww_st (st' := []) rfl ?_
  refine ww_aload_n (pc := 5) g.1 d_Mo_closeVariable_5 rfl (lv_at hl 0 rfl) ?_
  refine ww_gR (pc := 6) g (k := 49) cl_Mo (pz rfl (by decide)) (by decide) (Or.inl kw_87) (f := 49) (t := 62) rfl rfl rfl d_Mo_closeVariable_6 ?_
  refine ww_iload_n (pc := 9) g.1 d_Mo_closeVariable_9 rfl (lv_at hl 1 rfl) ?_
  refine ww_iconst (pc := 10) g.1 (v := (-1)) d_Mo_closeVariable_10 (by decide) ?_
  refine ww_si (pc := 11) g (pz rfl (by decide)) rfl rfl d_Mo_closeVariable_11 h fun s hs h => ?_
  refine ww_aload_n (pc := 12) g.1 d_Mo_closeVariable_12 rfl (lv_at hl 0 rfl) ?_
  refine ww_gR (pc := 13) g (k := 63) cl_Mo (pz rfl (by decide)) (by decide) (Or.inl kw_95) (f := 63) (t := 4) rfl rfl rfl d_Mo_closeVariable_13 ?_
  refine ww_iload_n (pc := 16) g.1 d_Mo_closeVariable_16 rfl (lv_at hl 1 rfl) ?_
  refine ww_aload_n (pc := 17) g.1 d_Mo_closeVariable_17 rfl (lv_at hl 0 rfl) ?_
  refine ww_gI (pc := 18) g (k := 66) cl_Mo (pz rfl (by decide)) (by decide) (Or.inl kw_92) (f := 66) rfl rfl d_Mo_closeVariable_18 h fun v18 h => ?_
  refine ww_aload_n (pc := 21) g.1 d_Mo_closeVariable_21 rfl (lv_at hl 0 rfl) ?_
  refine ww_gL (pc := 22) g (k := 67) cl_Mo (pz rfl (by decide)) (by decide) (Or.inl kw_94) (f := 67) rfl rfl d_Mo_closeVariable_22 h fun v22 h => ?_
  obtain ⟨v25, s, hc25, h⟩ := oB_of h
  refine ww_callV (pc := 25) (rest := []) g cv_Va_set (Or.inl kw_99) (cl_Va (Or.inl ⟨by decide, rfl⟩)) (pz rfl (by decide)) (ct_Va_set (Or.inl ⟨by decide, rfl⟩) hc25) ⟨by decide, by decide⟩ rfl hl.1 (Nat.le_of_ble_eq_true rfl) d_Mo_closeVariable_25 rfl ?_
  refine ww_st (st' := []) rfl ?_
  exact ww_vretH (pc := 28) g h hR d_Mo_closeVariable_28


