abbrev b_Mo_bx : ByteArray := prog_14_method_16_code
def y_Mo_bx : MethodName := ⟨R_Mo, "bx", "(I)I"⟩
abbrev w_Mo_bx : List Cond := .code y_Mo_bx b_Mo_bx 1 (some .int) :: wA
theorem k_Mo_bx : Cond.code y_Mo_bx b_Mo_bx 1 (some .int) ∈ wA := kinm (show _ ∈ tables_1 from (List.mem_append_right _ (List.mem_append_right _ (List.mem_append_right _ (List.mem_append_right _ (List.mem_append_right _ (List.mem_append_right _ (List.mem_append_right _ (List.mem_append_right _ (List.mem_append_right _ (List.mem_append_right _ (List.mem_append_left _ (List.mem_of_getElem? (l := tables_1_11) (i := 206) (by decide +kernel)))))))))))))) (by decide +kernel)
theorem d_Mo_bx_0 : decode b_Mo_bx 0 = .ok (.iload_n 0, 1) := by decide +kernel
theorem d_Mo_bx_1 : decode b_Mo_bx 1 = .ok (.bipush 14, 2) := by decide +kernel
theorem d_Mo_bx_3 : decode b_Mo_bx 3 = .ok (.iushr, 1) := by decide +kernel
theorem d_Mo_bx_4 : decode b_Mo_bx 4 = .ok (.ireturn, 1) := by decide +kernel
theorem kw_67 : Cond.static y_Mo_bx ∈ wA := kinm (show _ ∈ tables_1 from (List.mem_append_right _ (List.mem_append_right _ (List.mem_append_right _ (List.mem_append_right _ (List.mem_append_right _ (List.mem_append_right _ (List.mem_append_right _ (List.mem_append_right _ (List.mem_append_right _ (List.mem_append_right _ (List.mem_append_left _ (List.mem_of_getElem? (l := tables_1_11) (i := 205) (by decide +kernel)))))))))))))) (by decide +kernel)
def M_Mo_bx (l0 : Int32) : M (Int32) :=
  oR (iushr l0 (14 : Int32))

theorem cs_Mo_bx : CS y_Mo_bx b_Mo_bx 1 (some .int) 1 := ⟨kw_67, kw_17, k_Mo_bx, by decide +kernel⟩
theorem ct_Mo_bx {l : Launch} {P : PP} {q : PL} {s s' : S1} {l0 : Int32} {r : Int32} (h : M_Mo_bx l0 s = some (r, s')) : Ct l y_Mo_bx b_Mo_bx 1 (some .int) 0 0 P q s [.int l0] (some (.int r)) q s' := by
  refine ct_of (by decide) (Nat.le_of_ble_eq_true rfl) fun X ls eP el g hR hl => ?_
  have hR : Rt X q ((r, s') : Int32 × S1).2 (some (.int ((r, s') : Int32 × S1).1)) := hR
  have hl : lv_has ls 1 [(0, .int l0)] := hl
  generalize (r, s') = o at h hR
  unfold M_Mo_bx at h
  refine ww_iload_n (pc := 0) g.1 d_Mo_bx_0 rfl (lv_at hl 0 rfl) ?_
  refine ww_bipush (pc := 1) g.1 (v := 14) d_Mo_bx_1 (by decide) ?_
  refine ww_iushr (pc := 3) g.1 (v := iushr l0 (14 : Int32)) d_Mo_bx_3 rfl ?_
  exact ww_iretH (pc := 4) g h hR d_Mo_bx_4

abbrev b_Mo_rk : ByteArray := prog_14_method_22_code
def y_Mo_rk : MethodName := ⟨R_Mo, "rk", "(I)Z"⟩
abbrev w_Mo_rk : List Cond := .code y_Mo_rk b_Mo_rk 2 (some .boolean) :: wA
theorem k_Mo_rk : Cond.code y_Mo_rk b_Mo_rk 2 (some .boolean) ∈ wA := kinm (show _ ∈ tables_1 from (List.mem_append_right _ (List.mem_append_right _ (List.mem_append_right _ (List.mem_append_right _ (List.mem_append_right _ (List.mem_append_right _ (List.mem_append_right _ (List.mem_append_right _ (List.mem_append_right _ (List.mem_append_right _ (List.mem_append_left _ (List.mem_of_getElem? (l := tables_1_11) (i := 210) (by decide +kernel)))))))))))))) (by decide +kernel)
theorem d_Mo_rk_0 : decode b_Mo_rk 0 = .ok (.iload_n 1, 1) := by decide +kernel
theorem d_Mo_rk_1 : decode b_Mo_rk 1 = .ok (.sipush 256, 3) := by decide +kernel
theorem d_Mo_rk_4 : decode b_Mo_rk 4 = .ok (.if_icmp .ge 19, 3) := by decide +kernel
theorem d_Mo_rk_7 : decode b_Mo_rk 7 = .ok (.iload_n 1, 1) := by decide +kernel
theorem d_Mo_rk_8 : decode b_Mo_rk 8 = .ok (.aload_n 0, 1) := by decide +kernel
theorem d_Mo_rk_9 : decode b_Mo_rk 9 = .ok (.getfield 110, 3) := by decide +kernel
theorem d_Mo_rk_12 : decode b_Mo_rk 12 = .ok (.if_icmp .ge 7, 3) := by decide +kernel
theorem d_Mo_rk_15 : decode b_Mo_rk 15 = .ok (.iconst 1, 1) := by decide +kernel
theorem d_Mo_rk_16 : decode b_Mo_rk 16 = .ok (.goto 29, 3) := by decide +kernel
theorem d_Mo_rk_19 : decode b_Mo_rk 19 = .ok (.iconst 0, 1) := by decide +kernel
theorem d_Mo_rk_20 : decode b_Mo_rk 20 = .ok (.goto 25, 3) := by decide +kernel
theorem d_Mo_rk_23 : decode b_Mo_rk 23 = .ok (.iload_n 1, 1) := by decide +kernel
theorem d_Mo_rk_24 : decode b_Mo_rk 24 = .ok (.sipush 256, 3) := by decide +kernel
theorem d_Mo_rk_27 : decode b_Mo_rk 27 = .ok (.isub, 1) := by decide +kernel
theorem d_Mo_rk_28 : decode b_Mo_rk 28 = .ok (.aload_n 0, 1) := by decide +kernel
theorem d_Mo_rk_29 : decode b_Mo_rk 29 = .ok (.getfield 50, 3) := by decide +kernel
theorem d_Mo_rk_32 : decode b_Mo_rk 32 = .ok (.aload_n 0, 1) := by decide +kernel
theorem d_Mo_rk_33 : decode b_Mo_rk 33 = .ok (.getfield 113, 3) := by decide +kernel
theorem d_Mo_rk_36 : decode b_Mo_rk 36 = .ok (.iaload, 1) := by decide +kernel
theorem d_Mo_rk_37 : decode b_Mo_rk 37 = .ok (.if_icmp .ge 7, 3) := by decide +kernel
theorem d_Mo_rk_40 : decode b_Mo_rk 40 = .ok (.iconst 1, 1) := by decide +kernel
theorem d_Mo_rk_41 : decode b_Mo_rk 41 = .ok (.goto 4, 3) := by decide +kernel
theorem d_Mo_rk_44 : decode b_Mo_rk 44 = .ok (.iconst 0, 1) := by decide +kernel
theorem d_Mo_rk_45 : decode b_Mo_rk 45 = .ok (.ireturn, 1) := by decide +kernel
theorem kw_68 : Cond.fieldLink R_Mo 50 "LuaMachineModel" "consts" "[I" ∈ wA := kinm (show _ ∈ tables_1 from (List.mem_append_right _ (List.mem_append_right _ (List.mem_append_right _ (List.mem_append_right _ (List.mem_append_right _ (List.mem_append_right _ (List.mem_append_right _ (List.mem_append_right _ (List.mem_append_right _ (List.mem_append_left _ (List.mem_of_getElem? (l := tables_1_10) (i := 67) (by decide +kernel))))))))))))) (by decide +kernel)
theorem kw_69 : Cond.instanceMethod y_Mo_rk ∈ wA := kinm (show _ ∈ tables_1 from (List.mem_append_right _ (List.mem_append_right _ (List.mem_append_right _ (List.mem_append_right _ (List.mem_append_right _ (List.mem_append_right _ (List.mem_append_right _ (List.mem_append_right _ (List.mem_append_right _ (List.mem_append_right _ (List.mem_append_left _ (List.mem_of_getElem? (l := tables_1_11) (i := 209) (by decide +kernel)))))))))))))) (by decide +kernel)
theorem kw_70 : Cond.selects R_Mo y_Mo_rk y_Mo_rk ∈ wA := kinp 123 (by decide +kernel) (by decide +kernel)
def M_Mo_rk (l1 : Int32) : M (Int32) :=
  oC (256 ≤ l1)
    (oB (oGI 31 0) fun v33 =>
    oB (oAI 48 251 0 v33) fun v36 =>
    oC (v36 ≤ (l1 - 256))
      (oR 0)
      (oR 1))
    (oB (oGI 30 0) fun v9 =>
    oC (v9 ≤ l1)
      (oR 0)
      (oR 1))

theorem cv_Mo_rk : CV y_Mo_rk b_Mo_rk 2 (some .boolean) 1 := ⟨kw_69, kw_70, kw_17, k_Mo_rk, by decide +kernel⟩
theorem ct_Mo_rk {l : Launch} {P : PP} {q : PL} {s s' : S1} {l1 : Int32} {r : Int32} (h : M_Mo_rk l1 s = some (r, s')) : Ct l y_Mo_rk b_Mo_rk 2 (some .boolean) 0 0 P q s [.ref (q.1 0 0), .int l1] (some (.int r)) q s' := by
  refine ct_of (by decide) (Nat.le_of_ble_eq_true rfl) fun X ls eP el g hR hl => ?_
  have hR : Rt X q ((r, s') : Int32 × S1).2 (some (.int ((r, s') : Int32 × S1).1)) := hR
  have hl : lv_has ls 2 [(0, .ref (q.1 0 0)), (1, .int l1)] := hl
  generalize (r, s') = o at h hR
  unfold M_Mo_rk at h
  refine ww_iload_n (pc := 0) g.1 d_Mo_rk_0 rfl (lv_at hl 1 rfl) ?_
  refine ww_sipush (pc := 1) g.1 (v := 256) d_Mo_rk_1 (by decide) ?_
  refine ww_icmp_ge (pc := 4) (tgt := 23) g.1 d_Mo_rk_4 (by decide) h (fun c h => ?_) (fun c h => ?_)
  · refine ww_iload_n (pc := 23) g.1 d_Mo_rk_23 rfl (lv_at hl 1 rfl) ?_
    refine ww_sipush (pc := 24) g.1 (v := 256) d_Mo_rk_24 (by decide) ?_
    refine ww_isub (pc := 27) g.1 d_Mo_rk_27 ?_
    refine ww_aload_n (pc := 28) g.1 d_Mo_rk_28 rfl (lv_at hl 0 rfl) ?_
    refine ww_gR (pc := 29) g (k := 12) cl_Mo (pz rfl (by decide)) (by decide) (Or.inl kw_68) (f := 12) (t := 48) rfl rfl rfl d_Mo_rk_29 ?_
    refine ww_aload_n (pc := 32) g.1 d_Mo_rk_32 rfl (lv_at hl 0 rfl) ?_
    refine ww_gI (pc := 33) g (k := 31) cl_Mo (pz rfl (by decide)) (by decide) (Or.inl kw_58) (f := 31) rfl rfl d_Mo_rk_33 h fun v33 h => ?_
    refine ww_ai (pc := 36) g (pz rfl (by decide)) rfl rfl d_Mo_rk_36 h fun v36 h => ?_
    refine ww_icmp_ge (pc := 37) (tgt := 44) g.1 d_Mo_rk_37 (by decide) h (fun c h => ?_) (fun c h => ?_)
    · refine ww_iconst (pc := 44) g.1 (v := 0) d_Mo_rk_44 (by decide) ?_
      exact ww_zretH (pc := 45) g h hR (Or.inl rfl) d_Mo_rk_45
    · refine ww_iconst (pc := 40) g.1 (v := 1) d_Mo_rk_40 (by decide) ?_
      refine ww_goto (pc := 41) (tgt := 45) g.1 d_Mo_rk_41 (by decide) ?_
      exact ww_zretH (pc := 45) g h hR (Or.inr rfl) d_Mo_rk_45
  · refine ww_iload_n (pc := 7) g.1 d_Mo_rk_7 rfl (lv_at hl 1 rfl) ?_
    refine ww_aload_n (pc := 8) g.1 d_Mo_rk_8 rfl (lv_at hl 0 rfl) ?_
    refine ww_gI (pc := 9) g (k := 30) cl_Mo (pz rfl (by decide)) (by decide) (Or.inl kw_64) (f := 30) rfl rfl d_Mo_rk_9 h fun v9 h => ?_
    refine ww_icmp_ge (pc := 12) (tgt := 19) g.1 d_Mo_rk_12 (by decide) h (fun c h => ?_) (fun c h => ?_)
    · refine ww_iconst (pc := 19) g.1 (v := 0) d_Mo_rk_19 (by decide) ?_
      refine ww_goto (pc := 20) (tgt := 45) g.1 d_Mo_rk_20 (by decide) ?_
      exact ww_zretH (pc := 45) g h hR (Or.inl rfl) d_Mo_rk_45
    · refine ww_iconst (pc := 15) g.1 (v := 1) d_Mo_rk_15 (by decide) ?_
      refine ww_goto (pc := 16) (tgt := 45) g.1 d_Mo_rk_16 (by decide) ?_
      exact ww_zretH (pc := 45) g h hR (Or.inr rfl) d_Mo_rk_45

abbrev b_Mo_sbx : ByteArray := prog_14_method_17_code
def y_Mo_sbx : MethodName := ⟨R_Mo, "sbx", "(I)I"⟩
abbrev w_Mo_sbx : List Cond := .code y_Mo_sbx b_Mo_sbx 1 (some .int) :: wA
theorem k_Mo_sbx : Cond.code y_Mo_sbx b_Mo_sbx 1 (some .int) ∈ wA := kinm (show _ ∈ tables_1 from (List.mem_append_right _ (List.mem_append_right _ (List.mem_append_right _ (List.mem_append_right _ (List.mem_append_right _ (List.mem_append_right _ (List.mem_append_right _ (List.mem_append_right _ (List.mem_append_right _ (List.mem_append_right _ (List.mem_append_left _ (List.mem_of_getElem? (l := tables_1_11) (i := 213) (by decide +kernel)))))))))))))) (by decide +kernel)
theorem d_Mo_sbx_0 : decode b_Mo_sbx 0 = .ok (.iload_n 0, 1) := by decide +kernel
theorem d_Mo_sbx_1 : decode b_Mo_sbx 1 = .ok (.bipush 14, 2) := by decide +kernel
theorem d_Mo_sbx_3 : decode b_Mo_sbx 3 = .ok (.iushr, 1) := by decide +kernel
theorem d_Mo_sbx_4 : decode b_Mo_sbx 4 = .ok (.ldc_w 474, 3) := by decide +kernel
theorem d_Mo_sbx_7 : decode b_Mo_sbx 7 = .ok (.isub, 1) := by decide +kernel
theorem d_Mo_sbx_8 : decode b_Mo_sbx 8 = .ok (.ireturn, 1) := by decide +kernel
theorem kw_71 : Cond.constant R_Mo 474 131071 ∈ wA := kinm (show _ ∈ tables_1 from (List.mem_append_right _ (List.mem_append_right _ (List.mem_append_right _ (List.mem_append_right _ (List.mem_append_right _ (List.mem_append_right _ (List.mem_append_right _ (List.mem_append_right _ (List.mem_append_right _ (List.mem_append_right _ (List.mem_append_left _ (List.mem_of_getElem? (l := tables_1_11) (i := 214) (by decide +kernel)))))))))))))) (by decide +kernel)
theorem kw_72 : Cond.static y_Mo_sbx ∈ wA := kinm (show _ ∈ tables_1 from (List.mem_append_right _ (List.mem_append_right _ (List.mem_append_right _ (List.mem_append_right _ (List.mem_append_right _ (List.mem_append_right _ (List.mem_append_right _ (List.mem_append_right _ (List.mem_append_right _ (List.mem_append_right _ (List.mem_append_left _ (List.mem_of_getElem? (l := tables_1_11) (i := 212) (by decide +kernel)))))))))))))) (by decide +kernel)
def M_Mo_sbx (l0 : Int32) : M (Int32) :=
  oR ((iushr l0 (14 : Int32)) - 131071)

theorem cs_Mo_sbx : CS y_Mo_sbx b_Mo_sbx 1 (some .int) 1 := ⟨kw_72, kw_17, k_Mo_sbx, by decide +kernel⟩
theorem ct_Mo_sbx {l : Launch} {P : PP} {q : PL} {s s' : S1} {l0 : Int32} {r : Int32} (h : M_Mo_sbx l0 s = some (r, s')) : Ct l y_Mo_sbx b_Mo_sbx 1 (some .int) 0 0 P q s [.int l0] (some (.int r)) q s' := by
  refine ct_of (by decide) (Nat.le_of_ble_eq_true rfl) fun X ls eP el g hR hl => ?_
  have hR : Rt X q ((r, s') : Int32 × S1).2 (some (.int ((r, s') : Int32 × S1).1)) := hR
  have hl : lv_has ls 1 [(0, .int l0)] := hl
  generalize (r, s') = o at h hR
  unfold M_Mo_sbx at h
  refine ww_iload_n (pc := 0) g.1 d_Mo_sbx_0 rfl (lv_at hl 0 rfl) ?_
  refine ww_bipush (pc := 1) g.1 (v := 14) d_Mo_sbx_1 (by decide) ?_
  refine ww_iushr (pc := 3) g.1 (v := iushr l0 (14 : Int32)) d_Mo_sbx_3 rfl ?_
  refine ww_ldcw (pc := 4) g (v := 131071) kw_71 d_Mo_sbx_4 ?_
  refine ww_isub (pc := 7) g.1 d_Mo_sbx_7 ?_
  exact ww_iretH (pc := 8) g h hR d_Mo_sbx_8

abbrev b_Mo_clear : ByteArray := prog_14_method_59_code
def y_Mo_clear : MethodName := ⟨R_Mo, "clear", "()V"⟩
abbrev w_Mo_clear : List Cond := .code y_Mo_clear b_Mo_clear 2 none :: wA
set_option maxRecDepth 20000 in
theorem k_Mo_clear : Cond.code y_Mo_clear b_Mo_clear 2 none ∈ wA := kinm (show _ ∈ tables_1 from (List.mem_append_right _ (List.mem_append_right _ (List.mem_append_right _ (List.mem_append_right _ (List.mem_append_right _ (List.mem_append_right _ (List.mem_append_right _ (List.mem_append_right _ (List.mem_append_right _ (List.mem_append_right _ (List.mem_append_left _ (List.mem_of_getElem? (l := tables_1_11) (i := 218) rfl))))))))))))) rfl
theorem d_Mo_clear_0 : decode b_Mo_clear 0 = .ok (.aload_n 0, 1) := by decide +kernel
theorem d_Mo_clear_1 : decode b_Mo_clear 1 = .ok (.getfield 193, 3) := by decide +kernel
theorem d_Mo_clear_4 : decode b_Mo_clear 4 = .ok (.ifnonnull 57, 3) := by decide +kernel
theorem d_Mo_clear_7 : decode b_Mo_clear 7 = .ok (.aload_n 0, 1) := by decide +kernel
theorem d_Mo_clear_8 : decode b_Mo_clear 8 = .ok (.ldc_w 579, 3) := by decide +kernel
theorem d_Mo_clear_11 : decode b_Mo_clear 11 = .ok (.newarray .byte, 2) := by decide +kernel
theorem d_Mo_clear_13 : decode b_Mo_clear 13 = .ok (.putfield 193, 3) := by decide +kernel
theorem d_Mo_clear_16 : decode b_Mo_clear 16 = .ok (.aload_n 0, 1) := by decide +kernel
theorem d_Mo_clear_17 : decode b_Mo_clear 17 = .ok (.ldc_w 579, 3) := by decide +kernel
theorem d_Mo_clear_20 : decode b_Mo_clear 20 = .ok (.newarray .byte, 2) := by decide +kernel
theorem d_Mo_clear_22 : decode b_Mo_clear 22 = .ok (.putfield 196, 3) := by decide +kernel
theorem d_Mo_clear_25 : decode b_Mo_clear 25 = .ok (.aload_n 0, 1) := by decide +kernel
theorem d_Mo_clear_26 : decode b_Mo_clear 26 = .ok (.ldc_w 579, 3) := by decide +kernel
theorem d_Mo_clear_29 : decode b_Mo_clear 29 = .ok (.newarray .long, 2) := by decide +kernel
theorem d_Mo_clear_31 : decode b_Mo_clear 31 = .ok (.putfield 199, 3) := by decide +kernel
theorem d_Mo_clear_34 : decode b_Mo_clear 34 = .ok (.aload_n 0, 1) := by decide +kernel
theorem d_Mo_clear_35 : decode b_Mo_clear 35 = .ok (.ldc_w 579, 3) := by decide +kernel
theorem d_Mo_clear_38 : decode b_Mo_clear 38 = .ok (.newarray .long, 2) := by decide +kernel
theorem d_Mo_clear_40 : decode b_Mo_clear 40 = .ok (.putfield 203, 3) := by decide +kernel
theorem d_Mo_clear_43 : decode b_Mo_clear 43 = .ok (.aload_n 0, 1) := by decide +kernel
theorem d_Mo_clear_44 : decode b_Mo_clear 44 = .ok (.ldc_w 579, 3) := by decide +kernel
theorem d_Mo_clear_47 : decode b_Mo_clear 47 = .ok (.newarray .int, 2) := by decide +kernel
theorem d_Mo_clear_49 : decode b_Mo_clear 49 = .ok (.putfield 206, 3) := by decide +kernel
theorem d_Mo_clear_52 : decode b_Mo_clear 52 = .ok (.aload_n 0, 1) := by decide +kernel
theorem d_Mo_clear_53 : decode b_Mo_clear 53 = .ok (.ldc_w 579, 3) := by decide +kernel
theorem d_Mo_clear_56 : decode b_Mo_clear 56 = .ok (.newarray .int, 2) := by decide +kernel
theorem d_Mo_clear_58 : decode b_Mo_clear 58 = .ok (.putfield 209, 3) := by decide +kernel
theorem d_Mo_clear_61 : decode b_Mo_clear 61 = .ok (.aload_n 0, 1) := by decide +kernel
theorem d_Mo_clear_62 : decode b_Mo_clear 62 = .ok (.iconst 0, 1) := by decide +kernel
theorem d_Mo_clear_63 : decode b_Mo_clear 63 = .ok (.putfield 119, 3) := by decide +kernel
theorem d_Mo_clear_66 : decode b_Mo_clear 66 = .ok (.aload_n 0, 1) := by decide +kernel
theorem d_Mo_clear_67 : decode b_Mo_clear 67 = .ok (.iconst 0, 1) := by decide +kernel
theorem d_Mo_clear_68 : decode b_Mo_clear 68 = .ok (.putfield 122, 3) := by decide +kernel
theorem d_Mo_clear_71 : decode b_Mo_clear 71 = .ok (.aload_n 0, 1) := by decide +kernel
theorem d_Mo_clear_72 : decode b_Mo_clear 72 = .ok (.iconst 0, 1) := by decide +kernel
theorem d_Mo_clear_73 : decode b_Mo_clear 73 = .ok (.putfield 125, 3) := by decide +kernel
theorem d_Mo_clear_76 : decode b_Mo_clear 76 = .ok (.aload_n 0, 1) := by decide +kernel
theorem d_Mo_clear_77 : decode b_Mo_clear 77 = .ok (.iconst 0, 1) := by decide +kernel
theorem d_Mo_clear_78 : decode b_Mo_clear 78 = .ok (.putfield 128, 3) := by decide +kernel
theorem d_Mo_clear_81 : decode b_Mo_clear 81 = .ok (.aload_n 0, 1) := by decide +kernel
theorem d_Mo_clear_82 : decode b_Mo_clear 82 = .ok (.iconst 0, 1) := by decide +kernel
theorem d_Mo_clear_83 : decode b_Mo_clear 83 = .ok (.putfield 131, 3) := by decide +kernel
theorem d_Mo_clear_86 : decode b_Mo_clear 86 = .ok (.aload_n 0, 1) := by decide +kernel
theorem d_Mo_clear_87 : decode b_Mo_clear 87 = .ok (.iconst 0, 1) := by decide +kernel
theorem d_Mo_clear_88 : decode b_Mo_clear 88 = .ok (.putfield 134, 3) := by decide +kernel
theorem d_Mo_clear_91 : decode b_Mo_clear 91 = .ok (.aload_n 0, 1) := by decide +kernel
theorem d_Mo_clear_92 : decode b_Mo_clear 92 = .ok (.iconst 0, 1) := by decide +kernel
theorem d_Mo_clear_93 : decode b_Mo_clear 93 = .ok (.putfield 137, 3) := by decide +kernel
theorem d_Mo_clear_96 : decode b_Mo_clear 96 = .ok (.aload_n 0, 1) := by decide +kernel
theorem d_Mo_clear_97 : decode b_Mo_clear 97 = .ok (.iconst 0, 1) := by decide +kernel
theorem d_Mo_clear_98 : decode b_Mo_clear 98 = .ok (.putfield 140, 3) := by decide +kernel
theorem d_Mo_clear_101 : decode b_Mo_clear 101 = .ok (.aload_n 0, 1) := by decide +kernel
theorem d_Mo_clear_102 : decode b_Mo_clear 102 = .ok (.iconst 0, 1) := by decide +kernel
theorem d_Mo_clear_103 : decode b_Mo_clear 103 = .ok (.putfield 143, 3) := by decide +kernel
theorem d_Mo_clear_106 : decode b_Mo_clear 106 = .ok (.aload_n 0, 1) := by decide +kernel
theorem d_Mo_clear_107 : decode b_Mo_clear 107 = .ok (.iconst 0, 1) := by decide +kernel
theorem d_Mo_clear_108 : decode b_Mo_clear 108 = .ok (.putfield 183, 3) := by decide +kernel
theorem d_Mo_clear_111 : decode b_Mo_clear 111 = .ok (.aload_n 0, 1) := by decide +kernel
theorem d_Mo_clear_112 : decode b_Mo_clear 112 = .ok (.getfield 190, 3) := by decide +kernel
theorem d_Mo_clear_115 : decode b_Mo_clear 115 = .ok (.iconst 0, 1) := by decide +kernel
theorem d_Mo_clear_116 : decode b_Mo_clear 116 = .ok (.invokestatic 669, 3) := by decide +kernel
theorem d_Mo_clear_119 : decode b_Mo_clear 119 = .ok (.aload_n 0, 1) := by decide +kernel
theorem d_Mo_clear_120 : decode b_Mo_clear 120 = .ok (.getfield 155, 3) := by decide +kernel
theorem d_Mo_clear_123 : decode b_Mo_clear 123 = .ok (.iconst 0, 1) := by decide +kernel
theorem d_Mo_clear_124 : decode b_Mo_clear 124 = .ok (.invokestatic 672, 3) := by decide +kernel
theorem d_Mo_clear_127 : decode b_Mo_clear 127 = .ok (.iconst 0, 1) := by decide +kernel
theorem d_Mo_clear_128 : decode b_Mo_clear 128 = .ok (.istore_n 1, 1) := by decide +kernel
theorem d_Mo_clear_129 : decode b_Mo_clear 129 = .ok (.iload_n 1, 1) := by decide +kernel
theorem d_Mo_clear_130 : decode b_Mo_clear 130 = .ok (.bipush 33, 2) := by decide +kernel
theorem d_Mo_clear_132 : decode b_Mo_clear 132 = .ok (.if_icmp .ge 19, 3) := by decide +kernel
theorem d_Mo_clear_135 : decode b_Mo_clear 135 = .ok (.aload_n 0, 1) := by decide +kernel
theorem d_Mo_clear_136 : decode b_Mo_clear 136 = .ok (.getfield 239, 3) := by decide +kernel
theorem d_Mo_clear_139 : decode b_Mo_clear 139 = .ok (.iload_n 1, 1) := by decide +kernel
theorem d_Mo_clear_140 : decode b_Mo_clear 140 = .ok (.aaload, 1) := by decide +kernel
theorem d_Mo_clear_141 : decode b_Mo_clear 141 = .ok (.iconst (-1), 1) := by decide +kernel
theorem d_Mo_clear_142 : decode b_Mo_clear 142 = .ok (.putfield 615, 3) := by decide +kernel
theorem d_Mo_clear_145 : decode b_Mo_clear 145 = .ok (.iinc 1 1, 3) := by decide +kernel
theorem d_Mo_clear_148 : decode b_Mo_clear 148 = .ok (.goto (-19), 3) := by decide +kernel
theorem d_Mo_clear_151 : decode b_Mo_clear 151 = .ok (.aload_n 0, 1) := by decide +kernel
theorem d_Mo_clear_152 : decode b_Mo_clear 152 = .ok (.getfield 259, 3) := by decide +kernel
theorem d_Mo_clear_155 : decode b_Mo_clear 155 = .ok (.iconst 0, 1) := by decide +kernel
theorem d_Mo_clear_156 : decode b_Mo_clear 156 = .ok (.putfield 569, 3) := by decide +kernel
theorem d_Mo_clear_159 : decode b_Mo_clear 159 = .ok (.aload_n 0, 1) := by decide +kernel
theorem d_Mo_clear_160 : decode b_Mo_clear 160 = .ok (.getfield 262, 3) := by decide +kernel
theorem d_Mo_clear_163 : decode b_Mo_clear 163 = .ok (.iconst 0, 1) := by decide +kernel
theorem d_Mo_clear_164 : decode b_Mo_clear 164 = .ok (.putfield 569, 3) := by decide +kernel
theorem d_Mo_clear_167 : decode b_Mo_clear 167 = .ok (.aload_n 0, 1) := by decide +kernel
theorem d_Mo_clear_168 : decode b_Mo_clear 168 = .ok (.getfield 265, 3) := by decide +kernel
theorem d_Mo_clear_171 : decode b_Mo_clear 171 = .ok (.iconst 0, 1) := by decide +kernel
theorem d_Mo_clear_172 : decode b_Mo_clear 172 = .ok (.putfield 569, 3) := by decide +kernel
theorem d_Mo_clear_175 : decode b_Mo_clear 175 = .ok (.aload_n 0, 1) := by decide +kernel
theorem d_Mo_clear_176 : decode b_Mo_clear 176 = .ok (.getfield 234, 3) := by decide +kernel
theorem d_Mo_clear_179 : decode b_Mo_clear 179 = .ok (.iconst 0, 1) := by decide +kernel
theorem d_Mo_clear_180 : decode b_Mo_clear 180 = .ok (.putfield 569, 3) := by decide +kernel
theorem d_Mo_clear_183 : decode b_Mo_clear 183 = .ok (.aload_n 0, 1) := by decide +kernel
theorem d_Mo_clear_184 : decode b_Mo_clear 184 = .ok (.iconst 0, 1) := by decide +kernel
theorem d_Mo_clear_185 : decode b_Mo_clear 185 = .ok (.putfield 215, 3) := by decide +kernel
theorem d_Mo_clear_188 : decode b_Mo_clear 188 = .ok (.aload_n 0, 1) := by decide +kernel
theorem d_Mo_clear_189 : decode b_Mo_clear 189 = .ok (.iconst 0, 1) := by decide +kernel
theorem d_Mo_clear_190 : decode b_Mo_clear 190 = .ok (.putfield 253, 3) := by decide +kernel
theorem d_Mo_clear_193 : decode b_Mo_clear 193 = .ok (.aload_n 0, 1) := by decide +kernel
theorem d_Mo_clear_194 : decode b_Mo_clear 194 = .ok (.iconst 0, 1) := by decide +kernel
theorem d_Mo_clear_195 : decode b_Mo_clear 195 = .ok (.putfield 247, 3) := by decide +kernel
theorem d_Mo_clear_198 : decode b_Mo_clear 198 = .ok (.aload_n 0, 1) := by decide +kernel
theorem d_Mo_clear_199 : decode b_Mo_clear 199 = .ok (.iconst 0, 1) := by decide +kernel
theorem d_Mo_clear_200 : decode b_Mo_clear 200 = .ok (.putfield 268, 3) := by decide +kernel
theorem d_Mo_clear_203 : decode b_Mo_clear 203 = .ok (.aload_n 0, 1) := by decide +kernel
theorem d_Mo_clear_204 : decode b_Mo_clear 204 = .ok (.lconst 0, 1) := by decide +kernel
theorem d_Mo_clear_205 : decode b_Mo_clear 205 = .ok (.putfield 271, 3) := by decide +kernel
theorem d_Mo_clear_208 : decode b_Mo_clear 208 = .ok (.aload_n 0, 1) := by decide +kernel
theorem d_Mo_clear_209 : decode b_Mo_clear 209 = .ok (.iconst 0, 1) := by decide +kernel
theorem d_Mo_clear_210 : decode b_Mo_clear 210 = .ok (.putfield 428, 3) := by decide +kernel
theorem d_Mo_clear_213 : decode b_Mo_clear 213 = .ok (.aload_n 0, 1) := by decide +kernel
theorem d_Mo_clear_214 : decode b_Mo_clear 214 = .ok (.iconst (-1), 1) := by decide +kernel
theorem d_Mo_clear_215 : decode b_Mo_clear 215 = .ok (.putfield 250, 3) := by decide +kernel
theorem d_Mo_clear_218 : decode b_Mo_clear 218 = .ok (.aload_n 0, 1) := by decide +kernel
theorem d_Mo_clear_219 : decode b_Mo_clear 219 = .ok (.aload_n 0, 1) := by decide +kernel
theorem d_Mo_clear_220 : decode b_Mo_clear 220 = .ok (.getfield 239, 3) := by decide +kernel
theorem d_Mo_clear_223 : decode b_Mo_clear 223 = .ok (.iconst 0, 1) := by decide +kernel
theorem d_Mo_clear_224 : decode b_Mo_clear 224 = .ok (.aaload, 1) := by decide +kernel
theorem d_Mo_clear_225 : decode b_Mo_clear 225 = .ok (.putfield 243, 3) := by decide +kernel
theorem d_Mo_clear_228 : decode b_Mo_clear 228 = .ok (.aload_n 0, 1) := by decide +kernel
theorem d_Mo_clear_229 : decode b_Mo_clear 229 = .ok (.getfield 243, 3) := by decide +kernel
theorem d_Mo_clear_232 : decode b_Mo_clear 232 = .ok (.aconst_null, 1) := by decide +kernel
theorem d_Mo_clear_233 : decode b_Mo_clear 233 = .ok (.putfield 617, 3) := by decide +kernel
theorem d_Mo_clear_236 : decode b_Mo_clear 236 = .ok (.aload_n 0, 1) := by decide +kernel
theorem d_Mo_clear_237 : decode b_Mo_clear 237 = .ok (.iconst 1, 1) := by decide +kernel
theorem d_Mo_clear_238 : decode b_Mo_clear 238 = .ok (.putfield 418, 3) := by decide +kernel
theorem d_Mo_clear_241 : decode b_Mo_clear 241 = .ok (.return_, 1) := by decide +kernel
abbrev b_Arr_fill____ : ByteArray := prog_34_method_109_code
def y_Arr_fill____ : MethodName := ⟨R_Arr, "fill", "([BB)V"⟩
abbrev w_Arr_fill____ : List Cond := .code y_Arr_fill____ b_Arr_fill____ 4 none :: wA
theorem k_Arr_fill____ : Cond.code y_Arr_fill____ b_Arr_fill____ 4 none ∈ wA := kinm (show _ ∈ tables_1 from (List.mem_append_right _ (List.mem_append_right _ (List.mem_append_right _ (List.mem_append_right _ (List.mem_append_right _ (List.mem_append_right _ (List.mem_append_right _ (List.mem_append_right _ (List.mem_append_right _ (List.mem_append_right _ (List.mem_append_left _ (List.mem_of_getElem? (l := tables_1_11) (i := 223) (by decide +kernel)))))))))))))) (by decide +kernel)
theorem d_Arr_fill_____0 : decode b_Arr_fill____ 0 = .ok (.iconst 0, 1) := by decide +kernel
theorem d_Arr_fill_____1 : decode b_Arr_fill____ 1 = .ok (.istore_n 2, 1) := by decide +kernel
theorem d_Arr_fill_____2 : decode b_Arr_fill____ 2 = .ok (.aload_n 0, 1) := by decide +kernel
theorem d_Arr_fill_____3 : decode b_Arr_fill____ 3 = .ok (.arraylength, 1) := by decide +kernel
theorem d_Arr_fill_____4 : decode b_Arr_fill____ 4 = .ok (.istore_n 3, 1) := by decide +kernel
theorem d_Arr_fill_____5 : decode b_Arr_fill____ 5 = .ok (.iload_n 2, 1) := by decide +kernel
theorem d_Arr_fill_____6 : decode b_Arr_fill____ 6 = .ok (.iload_n 3, 1) := by decide +kernel
theorem d_Arr_fill_____7 : decode b_Arr_fill____ 7 = .ok (.if_icmp .ge 13, 3) := by decide +kernel
theorem d_Arr_fill_____10 : decode b_Arr_fill____ 10 = .ok (.aload_n 0, 1) := by decide +kernel
theorem d_Arr_fill_____11 : decode b_Arr_fill____ 11 = .ok (.iload_n 2, 1) := by decide +kernel
theorem d_Arr_fill_____12 : decode b_Arr_fill____ 12 = .ok (.iload_n 1, 1) := by decide +kernel
theorem d_Arr_fill_____13 : decode b_Arr_fill____ 13 = .ok (.bastore, 1) := by decide +kernel
theorem d_Arr_fill_____14 : decode b_Arr_fill____ 14 = .ok (.iinc 2 1, 3) := by decide +kernel
theorem d_Arr_fill_____17 : decode b_Arr_fill____ 17 = .ok (.goto (-12), 3) := by decide +kernel
theorem d_Arr_fill_____20 : decode b_Arr_fill____ 20 = .ok (.return_, 1) := by decide +kernel
theorem kw_73 : Cond.static y_Arr_fill____ ∈ wA := kinm (show _ ∈ tables_1 from (List.mem_append_right _ (List.mem_append_right _ (List.mem_append_right _ (List.mem_append_right _ (List.mem_append_right _ (List.mem_append_right _ (List.mem_append_right _ (List.mem_append_right _ (List.mem_append_right _ (List.mem_append_right _ (List.mem_append_left _ (List.mem_of_getElem? (l := tables_1_11) (i := 222) (by decide +kernel)))))))))))))) (by decide +kernel)
def M_Arr_fill_____L5 : (Nat × Int32 × Int32 × Int32 × Int32) → M ((Nat × Int32 × Int32 × Int32 × Int32) ⊕ ((Unit))) := fun x =>
  oC (x.2.2.2.2 ≤ x.2.2.2.1)
    (oR (Sum.inr ()))
    (oB (oSI x.1 (lnI x.1) x.2.1 x.2.2.2.1 x.2.2.1.toInt8.toInt32) fun _ =>
    oR (Sum.inl (x.1, x.2.1, x.2.2.1, x.2.2.2.1 + 1, x.2.2.2.2)))

def M_Arr_fill____ (l0r : Nat) (l0 : Int32) (l1 : Int32) : M (Unit) :=
  oL (lnI l0r) fun l3_4 =>
  oB (oW M_Arr_fill_____L5 (l0r, l0, l1, 0, l3_4)) fun e5 =>
  oR ()

theorem cs_Arr_fill____ : CS y_Arr_fill____ b_Arr_fill____ 4 none 2 := ⟨kw_73, kw_3, k_Arr_fill____, by decide +kernel⟩
theorem lp_Arr_fill_____L5 {X : Cx} {q : PL} (g : Gd X y_Arr_fill____ b_Arr_fill____ 4 none 0 0 R_Arr) (x : Nat × Int32 × Int32 × Int32 × Int32) (s : S1) (o : ((Nat × Int32 × Int32 × Int32 × Int32) ⊕ ((Unit))) × S1) (h : M_Arr_fill_____L5 x s = some o) (hR : (Sum.elim (fun y : Nat × Int32 × Int32 × Int32 × Int32 => ∀ ls : Array Slot, (AK 2 y.1) → (prs o.2 y.1 y.2.1) → lv_has ls 4 [(0, .ref (q.1 y.1 y.2.1)), (1, .int y.2.2.1), (2, .int y.2.2.2.1), (3, .int y.2.2.2.2)] → WW X q o.2 5 ls []) (fun y : Unit => ∀ ls : Array Slot, lv_has ls 4 [] → WW X q o.2 20 ls []) o.1)) : ∀ ls : Array Slot, (AK 2 x.1) → (prs s x.1 x.2.1) → lv_has ls 4 [(0, .ref (q.1 x.1 x.2.1)), (1, .int x.2.2.1), (2, .int x.2.2.2.1), (3, .int x.2.2.2.2)] → WW X q s 5 ls [] := by
  intro ls hp0 hp1 hl
  unfold M_Arr_fill_____L5 at h
  refine ww_iload_n (pc := 5) g.1 d_Arr_fill_____5 rfl (lv_at hl 2 rfl) ?_
  refine ww_iload_n (pc := 6) g.1 d_Arr_fill_____6 rfl (lv_at hl 3 rfl) ?_
  refine ww_icmp_ge (pc := 7) (tgt := 20) g.1 d_Arr_fill_____7 (by decide) h (fun c h => ?_) (fun c h => ?_)
  · rw [oR_eq h] at hR
    exact hR ls (lv_sub hl [] rfl)
  · refine ww_aload_n (pc := 10) g.1 d_Arr_fill_____10 rfl (lv_at hl 0 rfl) ?_
    refine ww_iload_n (pc := 11) g.1 d_Arr_fill_____11 rfl (lv_at hl 2 rfl) ?_
    refine ww_iload_n (pc := 12) g.1 d_Arr_fill_____12 rfl (lv_at hl 1 rfl) ?_
    refine ww_sb (pc := 13) g hp1 hp0.1 (ak_n hp0) d_Arr_fill_____13 h fun s hs h => ?_
    have hp1 : prs s x.1 x.2.1 := hs ▸ hp1
    refine ww_iinc (pc := 14) g.1 (v := x.2.2.2.1 + 1) (lv' := [(2, .int (x.2.2.2.1 + 1)), (0, .ref (q.1 x.1 x.2.1)), (1, .int x.2.2.1), (3, .int x.2.2.2.2)]) d_Arr_fill_____14 hl (k := 2) rfl (by rfl) (by decide) rfl fun ls hl => ?_
    refine ww_goto (pc := 17) (tgt := 5) g.1 d_Arr_fill_____17 (by decide) ?_
    rw [oR_eq h] at hR
    exact hR ls hp0 hp1 (lv_sub hl [1, 2, 0, 3] rfl)

theorem ct_Arr_fill____ {l : Launch} {P : PP} {q : PL} {s s' : S1} {l0r : Nat} {l0 : Int32} {l1 : Int32} (hp0 : AK 2 l0r) (hp1 : prs s l0r l0) {r : Unit} (h : M_Arr_fill____ l0r l0 l1 s = some (r, s')) : Ct l y_Arr_fill____ b_Arr_fill____ 4 none 0 0 P q s [.ref (q.1 l0r l0), .int l1] none q s' := by
  refine ct_ofF (by decide +kernel) (Nat.le_of_ble_eq_true rfl) fun X ls eP el g hR hl => ?_
  have hR : Rt X q ((r, s') : Unit × S1).2 none := hR
  have hl : lv_has ls 4 [(0, .ref (q.1 l0r l0)), (1, .int l1)] := hl
  generalize (r, s') = o at h hR
  unfold M_Arr_fill____ at h
  refine ww_iconst (pc := 0) g.1 (v := 0) d_Arr_fill_____0 (by decide) ?_
  refine ww_istore_n (pc := 1) g.1 (lv' := [(2, .int 0), (0, .ref (q.1 l0r l0)), (1, .int l1)]) d_Arr_fill_____1 rfl hl (by decide) rfl fun ls hl => ?_
  refine ww_aload_n (pc := 2) g.1 d_Arr_fill_____2 rfl (lv_at hl 1 rfl) ?_
  refine ww_alen (pc := 3) g (n := lnI l0r) hp1 (ak_k hp0) (ak_m hp0) d_Arr_fill_____3 ?_
  refine ww_leti h fun l3_4 h => ?_
  refine ww_istore_n (pc := 4) g.1 (lv' := [(3, .int l3_4), (2, .int 0), (0, .ref (q.1 l0r l0)), (1, .int l1)]) d_Arr_fill_____4 rfl hl (by decide) rfl fun ls hl => ?_
  obtain ⟨e5, s1, hw, h⟩ := oB_of h
  refine oW_rule (Wh := fun (x : Nat × Int32 × Int32 × Int32 × Int32) (s : S1) => ∀ ls : Array Slot, (AK 2 x.1) → (prs s x.1 x.2.1) → lv_has ls 4 [(0, .ref (q.1 x.1 x.2.1)), (1, .int x.2.2.1), (2, .int x.2.2.2.1), (3, .int x.2.2.2.2)] → WW X q s 5 ls []) (We := fun (e : (Unit)) (s : S1) => ∀ ls : Array Slot, lv_has ls 4 [] → WW X q s 20 ls []) (fun x s o hb hc => lp_Arr_fill_____L5 (q := q) g x s o hb hc) hw ?_ ls hp0 hp1 (lv_sub hl [2, 3, 1, 0] rfl)
  clear hw hl
  clear ls
  intro ls hl
  generalize s1 = s at h ⊢
  exact ww_vretH (pc := 20) g h hR d_Arr_fill_____20

abbrev b_Mo_begin : ByteArray := prog_14_method_60_code
def y_Mo_begin : MethodName := ⟨R_Mo, "begin", "()Z"⟩
abbrev w_Mo_begin : List Cond := .code y_Mo_begin b_Mo_begin 4 (some .boolean) :: wA
set_option maxRecDepth 20000 in
theorem k_Mo_begin : Cond.code y_Mo_begin b_Mo_begin 4 (some .boolean) ∈ wA := kinm (show _ ∈ tables_1 from (List.mem_append_right _ (List.mem_append_right _ (List.mem_append_right _ (List.mem_append_right _ (List.mem_append_right _ (List.mem_append_right _ (List.mem_append_right _ (List.mem_append_right _ (List.mem_append_right _ (List.mem_append_right _ (List.mem_append_left _ (List.mem_of_getElem? (l := tables_1_11) (i := 227) rfl))))))))))))) rfl
theorem d_Mo_begin_0 : decode b_Mo_begin 0 = .ok (.aload_n 0, 1) := by decide +kernel
theorem d_Mo_begin_1 : decode b_Mo_begin 1 = .ok (.aload_n 0, 1) := by decide +kernel
theorem d_Mo_begin_2 : decode b_Mo_begin 2 = .ok (.invokevirtual 675, 3) := by decide +kernel
theorem d_Mo_begin_5 : decode b_Mo_begin 5 = .ok (.putfield 250, 3) := by decide +kernel
theorem d_Mo_begin_8 : decode b_Mo_begin 8 = .ok (.aload_n 0, 1) := by decide +kernel
theorem d_Mo_begin_9 : decode b_Mo_begin 9 = .ok (.getfield 250, 3) := by decide +kernel
theorem d_Mo_begin_12 : decode b_Mo_begin 12 = .ok (.ifCond .lt 63, 3) := by decide +kernel
theorem d_Mo_begin_15 : decode b_Mo_begin 15 = .ok (.aload_n 0, 1) := by decide +kernel
theorem d_Mo_begin_16 : decode b_Mo_begin 16 = .ok (.aload_n 0, 1) := by decide +kernel
theorem d_Mo_begin_17 : decode b_Mo_begin 17 = .ok (.getfield 326, 3) := by decide +kernel
theorem d_Mo_begin_20 : decode b_Mo_begin 20 = .ok (.aload_n 0, 1) := by decide +kernel
theorem d_Mo_begin_21 : decode b_Mo_begin 21 = .ok (.getfield 412, 3) := by decide +kernel
theorem d_Mo_begin_24 : decode b_Mo_begin 24 = .ok (.invokevirtual 677, 3) := by decide +kernel
theorem d_Mo_begin_27 : decode b_Mo_begin 27 = .ok (.ifCond .eq 48, 3) := by decide +kernel
theorem d_Mo_begin_30 : decode b_Mo_begin 30 = .ok (.aload_n 0, 1) := by decide +kernel
theorem d_Mo_begin_31 : decode b_Mo_begin 31 = .ok (.aload_n 0, 1) := by decide +kernel
theorem d_Mo_begin_32 : decode b_Mo_begin 32 = .ok (.getfield 374, 3) := by decide +kernel
theorem d_Mo_begin_35 : decode b_Mo_begin 35 = .ok (.aload_n 0, 1) := by decide +kernel
theorem d_Mo_begin_36 : decode b_Mo_begin 36 = .ok (.getfield 403, 3) := by decide +kernel
theorem d_Mo_begin_39 : decode b_Mo_begin 39 = .ok (.invokevirtual 677, 3) := by decide +kernel
theorem d_Mo_begin_42 : decode b_Mo_begin 42 = .ok (.ifCond .eq 33, 3) := by decide +kernel
theorem d_Mo_begin_45 : decode b_Mo_begin 45 = .ok (.aload_n 0, 1) := by decide +kernel
theorem d_Mo_begin_46 : decode b_Mo_begin 46 = .ok (.aload_n 0, 1) := by decide +kernel
theorem d_Mo_begin_47 : decode b_Mo_begin 47 = .ok (.getfield 391, 3) := by decide +kernel
theorem d_Mo_begin_50 : decode b_Mo_begin 50 = .ok (.aload_n 0, 1) := by decide +kernel
theorem d_Mo_begin_51 : decode b_Mo_begin 51 = .ok (.getfield 406, 3) := by decide +kernel
theorem d_Mo_begin_54 : decode b_Mo_begin 54 = .ok (.invokevirtual 677, 3) := by decide +kernel
theorem d_Mo_begin_57 : decode b_Mo_begin 57 = .ok (.ifCond .eq 18, 3) := by decide +kernel
theorem d_Mo_begin_60 : decode b_Mo_begin 60 = .ok (.aload_n 0, 1) := by decide +kernel
theorem d_Mo_begin_61 : decode b_Mo_begin 61 = .ok (.aload_n 0, 1) := by decide +kernel
theorem d_Mo_begin_62 : decode b_Mo_begin 62 = .ok (.getfield 400, 3) := by decide +kernel
theorem d_Mo_begin_65 : decode b_Mo_begin 65 = .ok (.aload_n 0, 1) := by decide +kernel
theorem d_Mo_begin_66 : decode b_Mo_begin 66 = .ok (.getfield 409, 3) := by decide +kernel
theorem d_Mo_begin_69 : decode b_Mo_begin 69 = .ok (.invokevirtual 677, 3) := by decide +kernel
theorem d_Mo_begin_72 : decode b_Mo_begin 72 = .ok (.ifCond .ne 5, 3) := by decide +kernel
theorem d_Mo_begin_75 : decode b_Mo_begin 75 = .ok (.iconst 0, 1) := by decide +kernel
theorem d_Mo_begin_76 : decode b_Mo_begin 76 = .ok (.ireturn, 1) := by decide +kernel
theorem d_Mo_begin_77 : decode b_Mo_begin 77 = .ok (.aload_n 0, 1) := by decide +kernel
theorem d_Mo_begin_78 : decode b_Mo_begin 78 = .ok (.invokevirtual 681, 3) := by decide +kernel
theorem d_Mo_begin_81 : decode b_Mo_begin 81 = .ok (.istore_n 1, 1) := by decide +kernel
theorem d_Mo_begin_82 : decode b_Mo_begin 82 = .ok (.iload_n 1, 1) := by decide +kernel
theorem d_Mo_begin_83 : decode b_Mo_begin 83 = .ok (.ifCond .ge 5, 3) := by decide +kernel
theorem d_Mo_begin_86 : decode b_Mo_begin 86 = .ok (.iconst 0, 1) := by decide +kernel
theorem d_Mo_begin_87 : decode b_Mo_begin 87 = .ok (.ireturn, 1) := by decide +kernel
theorem d_Mo_begin_88 : decode b_Mo_begin 88 = .ok (.aload_n 0, 1) := by decide +kernel
theorem d_Mo_begin_89 : decode b_Mo_begin 89 = .ok (.getfield 212, 3) := by decide +kernel
theorem d_Mo_begin_92 : decode b_Mo_begin 92 = .ok (.iload_n 1, 1) := by decide +kernel
theorem d_Mo_begin_93 : decode b_Mo_begin 93 = .ok (.iconst 5, 1) := by decide +kernel
theorem d_Mo_begin_94 : decode b_Mo_begin 94 = .ok (.aload_n 0, 1) := by decide +kernel
theorem d_Mo_begin_95 : decode b_Mo_begin 95 = .ok (.getfield 250, 3) := by decide +kernel
theorem d_Mo_begin_98 : decode b_Mo_begin 98 = .ok (.i2l, 1) := by decide +kernel
theorem d_Mo_begin_99 : decode b_Mo_begin 99 = .ok (.invokevirtual 470, 3) := by decide +kernel
theorem d_Mo_begin_102 : decode b_Mo_begin 102 = .ok (.iconst 0, 1) := by decide +kernel
theorem d_Mo_begin_103 : decode b_Mo_begin 103 = .ok (.istore_n 2, 1) := by decide +kernel
theorem d_Mo_begin_104 : decode b_Mo_begin 104 = .ok (.iload_n 2, 1) := by decide +kernel
theorem d_Mo_begin_105 : decode b_Mo_begin 105 = .ok (.aload_n 0, 1) := by decide +kernel
theorem d_Mo_begin_106 : decode b_Mo_begin 106 = .ok (.getfield 95, 3) := by decide +kernel
theorem d_Mo_begin_109 : decode b_Mo_begin 109 = .ok (.if_icmp .ge 74, 3) := by decide +kernel
theorem d_Mo_begin_112 : decode b_Mo_begin 112 = .ok (.aload_n 0, 1) := by decide +kernel
theorem d_Mo_begin_113 : decode b_Mo_begin 113 = .ok (.getfield 82, 3) := by decide +kernel
theorem d_Mo_begin_116 : decode b_Mo_begin 116 = .ok (.getfield 585, 3) := by decide +kernel
theorem d_Mo_begin_119 : decode b_Mo_begin 119 = .ok (.iload_n 2, 1) := by decide +kernel
theorem d_Mo_begin_120 : decode b_Mo_begin 120 = .ok (.baload, 1) := by decide +kernel
theorem d_Mo_begin_121 : decode b_Mo_begin 121 = .ok (.iconst 4, 1) := by decide +kernel
theorem d_Mo_begin_122 : decode b_Mo_begin 122 = .ok (.if_icmp .eq 6, 3) := by decide +kernel
theorem d_Mo_begin_125 : decode b_Mo_begin 125 = .ok (.goto 52, 3) := by decide +kernel
theorem d_Mo_begin_128 : decode b_Mo_begin 128 = .ok (.aload_n 0, 1) := by decide +kernel
theorem d_Mo_begin_129 : decode b_Mo_begin 129 = .ok (.aload_n 0, 1) := by decide +kernel
theorem d_Mo_begin_130 : decode b_Mo_begin 130 = .ok (.getfield 8, 3) := by decide +kernel
theorem d_Mo_begin_133 : decode b_Mo_begin 133 = .ok (.aload_n 0, 1) := by decide +kernel
theorem d_Mo_begin_134 : decode b_Mo_begin 134 = .ok (.getfield 86, 3) := by decide +kernel
theorem d_Mo_begin_137 : decode b_Mo_begin 137 = .ok (.iload_n 2, 1) := by decide +kernel
theorem d_Mo_begin_138 : decode b_Mo_begin 138 = .ok (.iaload, 1) := by decide +kernel
theorem d_Mo_begin_139 : decode b_Mo_begin 139 = .ok (.aload_n 0, 1) := by decide +kernel
theorem d_Mo_begin_140 : decode b_Mo_begin 140 = .ok (.getfield 82, 3) := by decide +kernel
theorem d_Mo_begin_143 : decode b_Mo_begin 143 = .ok (.getfield 588, 3) := by decide +kernel
theorem d_Mo_begin_146 : decode b_Mo_begin 146 = .ok (.iload_n 2, 1) := by decide +kernel
theorem d_Mo_begin_147 : decode b_Mo_begin 147 = .ok (.laload, 1) := by decide +kernel
theorem d_Mo_begin_148 : decode b_Mo_begin 148 = .ok (.l2i, 1) := by decide +kernel
theorem d_Mo_begin_149 : decode b_Mo_begin 149 = .ok (.invokevirtual 655, 3) := by decide +kernel
theorem d_Mo_begin_152 : decode b_Mo_begin 152 = .ok (.istore_n 3, 1) := by decide +kernel
theorem d_Mo_begin_153 : decode b_Mo_begin 153 = .ok (.iload_n 3, 1) := by decide +kernel
theorem d_Mo_begin_154 : decode b_Mo_begin 154 = .ok (.ifCond .ge 5, 3) := by decide +kernel
theorem d_Mo_begin_157 : decode b_Mo_begin 157 = .ok (.iconst 0, 1) := by decide +kernel
theorem d_Mo_begin_158 : decode b_Mo_begin 158 = .ok (.ireturn, 1) := by decide +kernel
theorem d_Mo_begin_159 : decode b_Mo_begin 159 = .ok (.aload_n 0, 1) := by decide +kernel
theorem d_Mo_begin_160 : decode b_Mo_begin 160 = .ok (.getfield 162, 3) := by decide +kernel
theorem d_Mo_begin_163 : decode b_Mo_begin 163 = .ok (.iload_n 3, 1) := by decide +kernel
theorem d_Mo_begin_164 : decode b_Mo_begin 164 = .ok (.iconst 1, 1) := by decide +kernel
theorem d_Mo_begin_165 : decode b_Mo_begin 165 = .ok (.bastore, 1) := by decide +kernel
theorem d_Mo_begin_166 : decode b_Mo_begin 166 = .ok (.aload_n 0, 1) := by decide +kernel
theorem d_Mo_begin_167 : decode b_Mo_begin 167 = .ok (.getfield 82, 3) := by decide +kernel
theorem d_Mo_begin_170 : decode b_Mo_begin 170 = .ok (.getfield 588, 3) := by decide +kernel
theorem d_Mo_begin_173 : decode b_Mo_begin 173 = .ok (.iload_n 2, 1) := by decide +kernel
theorem d_Mo_begin_174 : decode b_Mo_begin 174 = .ok (.iload_n 3, 1) := by decide +kernel
theorem d_Mo_begin_175 : decode b_Mo_begin 175 = .ok (.i2l, 1) := by decide +kernel
theorem d_Mo_begin_176 : decode b_Mo_begin 176 = .ok (.lastore, 1) := by decide +kernel
theorem d_Mo_begin_177 : decode b_Mo_begin 177 = .ok (.iinc 2 1, 3) := by decide +kernel
theorem d_Mo_begin_180 : decode b_Mo_begin 180 = .ok (.goto (-76), 3) := by decide +kernel
theorem d_Mo_begin_183 : decode b_Mo_begin 183 = .ok (.iconst 0, 1) := by decide +kernel
theorem d_Mo_begin_184 : decode b_Mo_begin 184 = .ok (.istore_n 2, 1) := by decide +kernel
theorem d_Mo_begin_185 : decode b_Mo_begin 185 = .ok (.iload_n 2, 1) := by decide +kernel
theorem d_Mo_begin_186 : decode b_Mo_begin 186 = .ok (.bipush 24, 2) := by decide +kernel
theorem d_Mo_begin_188 : decode b_Mo_begin 188 = .ok (.if_icmp .ge 36, 3) := by decide +kernel
theorem d_Mo_begin_191 : decode b_Mo_begin 191 = .ok (.aload_n 0, 1) := by decide +kernel
theorem d_Mo_begin_192 : decode b_Mo_begin 192 = .ok (.aload_n 0, 1) := by decide +kernel
theorem d_Mo_begin_193 : decode b_Mo_begin 193 = .ok (.getfield 250, 3) := by decide +kernel
theorem d_Mo_begin_196 : decode b_Mo_begin 196 = .ok (.iconst 4, 1) := by decide +kernel
theorem d_Mo_begin_197 : decode b_Mo_begin 197 = .ok (.aload_n 0, 1) := by decide +kernel
theorem d_Mo_begin_198 : decode b_Mo_begin 198 = .ok (.getfield 412, 3) := by decide +kernel
theorem d_Mo_begin_201 : decode b_Mo_begin 201 = .ok (.iload_n 2, 1) := by decide +kernel
theorem d_Mo_begin_202 : decode b_Mo_begin 202 = .ok (.iaload, 1) := by decide +kernel
theorem d_Mo_begin_203 : decode b_Mo_begin 203 = .ok (.i2l, 1) := by decide +kernel
theorem d_Mo_begin_204 : decode b_Mo_begin 204 = .ok (.bipush 6, 2) := by decide +kernel
theorem d_Mo_begin_206 : decode b_Mo_begin 206 = .ok (.iconst (-1), 1) := by decide +kernel
theorem d_Mo_begin_207 : decode b_Mo_begin 207 = .ok (.iload_n 2, 1) := by decide +kernel
theorem d_Mo_begin_208 : decode b_Mo_begin 208 = .ok (.isub, 1) := by decide +kernel
theorem d_Mo_begin_209 : decode b_Mo_begin 209 = .ok (.i2l, 1) := by decide +kernel
theorem d_Mo_begin_210 : decode b_Mo_begin 210 = .ok (.invokevirtual 684, 3) := by decide +kernel
theorem d_Mo_begin_213 : decode b_Mo_begin 213 = .ok (.ifCond .ne 5, 3) := by decide +kernel
theorem d_Mo_begin_216 : decode b_Mo_begin 216 = .ok (.iconst 0, 1) := by decide +kernel
theorem d_Mo_begin_217 : decode b_Mo_begin 217 = .ok (.ireturn, 1) := by decide +kernel
theorem d_Mo_begin_218 : decode b_Mo_begin 218 = .ok (.iinc 2 1, 3) := by decide +kernel
theorem d_Mo_begin_221 : decode b_Mo_begin 221 = .ok (.goto (-36), 3) := by decide +kernel
theorem d_Mo_begin_224 : decode b_Mo_begin 224 = .ok (.aload_n 0, 1) := by decide +kernel
theorem d_Mo_begin_225 : decode b_Mo_begin 225 = .ok (.getfield 274, 3) := by decide +kernel
theorem d_Mo_begin_228 : decode b_Mo_begin 228 = .ok (.iconst 0, 1) := by decide +kernel
theorem d_Mo_begin_229 : decode b_Mo_begin 229 = .ok (.iload_n 1, 1) := by decide +kernel
theorem d_Mo_begin_230 : decode b_Mo_begin 230 = .ok (.iastore, 1) := by decide +kernel
theorem d_Mo_begin_231 : decode b_Mo_begin 231 = .ok (.aload_n 0, 1) := by decide +kernel
theorem d_Mo_begin_232 : decode b_Mo_begin 232 = .ok (.iconst 0, 1) := by decide +kernel
theorem d_Mo_begin_233 : decode b_Mo_begin 233 = .ok (.iconst 0, 1) := by decide +kernel
theorem d_Mo_begin_234 : decode b_Mo_begin 234 = .ok (.iconst 1, 1) := by decide +kernel
theorem d_Mo_begin_235 : decode b_Mo_begin 235 = .ok (.invokevirtual 688, 3) := by decide +kernel
theorem d_Mo_begin_238 : decode b_Mo_begin 238 = .ok (.istore_n 2, 1) := by decide +kernel
theorem d_Mo_begin_239 : decode b_Mo_begin 239 = .ok (.iload_n 2, 1) := by decide +kernel
theorem d_Mo_begin_240 : decode b_Mo_begin 240 = .ok (.ifCond .ge 5, 3) := by decide +kernel
theorem d_Mo_begin_243 : decode b_Mo_begin 243 = .ok (.iconst 0, 1) := by decide +kernel
theorem d_Mo_begin_244 : decode b_Mo_begin 244 = .ok (.ireturn, 1) := by decide +kernel
theorem d_Mo_begin_245 : decode b_Mo_begin 245 = .ok (.aload_n 0, 1) := by decide +kernel
theorem d_Mo_begin_246 : decode b_Mo_begin 246 = .ok (.invokevirtual 692, 3) := by decide +kernel
theorem d_Mo_begin_249 : decode b_Mo_begin 249 = .ok (.istore_n 3, 1) := by decide +kernel
theorem d_Mo_begin_250 : decode b_Mo_begin 250 = .ok (.iload_n 3, 1) := by decide +kernel
theorem d_Mo_begin_251 : decode b_Mo_begin 251 = .ok (.ifCond .ge 5, 3) := by decide +kernel
theorem d_Mo_begin_254 : decode b_Mo_begin 254 = .ok (.iconst 0, 1) := by decide +kernel
theorem d_Mo_begin_255 : decode b_Mo_begin 255 = .ok (.ireturn, 1) := by decide +kernel
theorem d_Mo_begin_256 : decode b_Mo_begin 256 = .ok (.aload_n 0, 1) := by decide +kernel
theorem d_Mo_begin_257 : decode b_Mo_begin 257 = .ok (.getfield 239, 3) := by decide +kernel
theorem d_Mo_begin_260 : decode b_Mo_begin 260 = .ok (.iconst 0, 1) := by decide +kernel
theorem d_Mo_begin_261 : decode b_Mo_begin 261 = .ok (.aaload, 1) := by decide +kernel
theorem d_Mo_begin_262 : decode b_Mo_begin 262 = .ok (.iconst 1, 1) := by decide +kernel
theorem d_Mo_begin_263 : decode b_Mo_begin 263 = .ok (.putfield 694, 3) := by decide +kernel
theorem d_Mo_begin_266 : decode b_Mo_begin 266 = .ok (.aload_n 0, 1) := by decide +kernel
theorem d_Mo_begin_267 : decode b_Mo_begin 267 = .ok (.getfield 239, 3) := by decide +kernel
theorem d_Mo_begin_270 : decode b_Mo_begin 270 = .ok (.iconst 0, 1) := by decide +kernel
theorem d_Mo_begin_271 : decode b_Mo_begin 271 = .ok (.aaload, 1) := by decide +kernel
theorem d_Mo_begin_272 : decode b_Mo_begin 272 = .ok (.iconst 1, 1) := by decide +kernel
theorem d_Mo_begin_273 : decode b_Mo_begin 273 = .ok (.putfield 697, 3) := by decide +kernel
theorem d_Mo_begin_276 : decode b_Mo_begin 276 = .ok (.aload_n 0, 1) := by decide +kernel
theorem d_Mo_begin_277 : decode b_Mo_begin 277 = .ok (.aload_n 0, 1) := by decide +kernel
theorem d_Mo_begin_278 : decode b_Mo_begin 278 = .ok (.getfield 239, 3) := by decide +kernel
theorem d_Mo_begin_281 : decode b_Mo_begin 281 = .ok (.iconst 0, 1) := by decide +kernel
theorem d_Mo_begin_282 : decode b_Mo_begin 282 = .ok (.aaload, 1) := by decide +kernel
theorem d_Mo_begin_283 : decode b_Mo_begin 283 = .ok (.putfield 243, 3) := by decide +kernel
theorem d_Mo_begin_286 : decode b_Mo_begin 286 = .ok (.aload_n 0, 1) := by decide +kernel
theorem d_Mo_begin_287 : decode b_Mo_begin 287 = .ok (.iconst 0, 1) := by decide +kernel
theorem d_Mo_begin_288 : decode b_Mo_begin 288 = .ok (.putfield 418, 3) := by decide +kernel
theorem d_Mo_begin_291 : decode b_Mo_begin 291 = .ok (.aload_n 0, 1) := by decide +kernel
theorem d_Mo_begin_292 : decode b_Mo_begin 292 = .ok (.getfield 259, 3) := by decide +kernel
theorem d_Mo_begin_295 : decode b_Mo_begin 295 = .ok (.iconst 0, 1) := by decide +kernel
theorem d_Mo_begin_296 : decode b_Mo_begin 296 = .ok (.putfield 569, 3) := by decide +kernel
theorem d_Mo_begin_299 : decode b_Mo_begin 299 = .ok (.aload_n 0, 1) := by decide +kernel
theorem d_Mo_begin_300 : decode b_Mo_begin 300 = .ok (.iload_n 2, 1) := by decide +kernel
theorem d_Mo_begin_301 : decode b_Mo_begin 301 = .ok (.invokevirtual 700, 3) := by decide +kernel
theorem d_Mo_begin_304 : decode b_Mo_begin 304 = .ok (.iconst 1, 1) := by decide +kernel
theorem d_Mo_begin_305 : decode b_Mo_begin 305 = .ok (.ireturn, 1) := by decide +kernel
abbrev b_Mo_table : ByteArray := prog_14_method_31_code
def y_Mo_table : MethodName := ⟨R_Mo, "table", "()I"⟩
abbrev w_Mo_table : List Cond := .code y_Mo_table b_Mo_table 2 (some .int) :: wA
theorem k_Mo_table : Cond.code y_Mo_table b_Mo_table 2 (some .int) ∈ wA := kinm (show _ ∈ tables_1 from (List.mem_append_right _ (List.mem_append_right _ (List.mem_append_right _ (List.mem_append_right _ (List.mem_append_right _ (List.mem_append_right _ (List.mem_append_right _ (List.mem_append_right _ (List.mem_append_right _ (List.mem_append_right _ (List.mem_append_left _ (List.mem_of_getElem? (l := tables_1_11) (i := 231) (by decide +kernel)))))))))))))) (by decide +kernel)
theorem d_Mo_table_0 : decode b_Mo_table 0 = .ok (.aload_n 0, 1) := by decide +kernel
theorem d_Mo_table_1 : decode b_Mo_table 1 = .ok (.iconst 0, 1) := by decide +kernel
theorem d_Mo_table_2 : decode b_Mo_table 2 = .ok (.invokevirtual 527, 3) := by decide +kernel
theorem d_Mo_table_5 : decode b_Mo_table 5 = .ok (.ifCond .ne 5, 3) := by decide +kernel
theorem d_Mo_table_8 : decode b_Mo_table 8 = .ok (.iconst (-1), 1) := by decide +kernel
theorem d_Mo_table_9 : decode b_Mo_table 9 = .ok (.ireturn, 1) := by decide +kernel
theorem d_Mo_table_10 : decode b_Mo_table 10 = .ok (.aload_n 0, 1) := by decide +kernel
theorem d_Mo_table_11 : decode b_Mo_table 11 = .ok (.iconst 5, 1) := by decide +kernel
theorem d_Mo_table_12 : decode b_Mo_table 12 = .ok (.invokevirtual 531, 3) := by decide +kernel
theorem d_Mo_table_15 : decode b_Mo_table 15 = .ok (.istore_n 1, 1) := by decide +kernel
theorem d_Mo_table_16 : decode b_Mo_table 16 = .ok (.aload_n 0, 1) := by decide +kernel
theorem d_Mo_table_17 : decode b_Mo_table 17 = .ok (.getfield 168, 3) := by decide +kernel
theorem d_Mo_table_20 : decode b_Mo_table 20 = .ok (.iload_n 1, 1) := by decide +kernel
theorem d_Mo_table_21 : decode b_Mo_table 21 = .ok (.iconst 0, 1) := by decide +kernel
theorem d_Mo_table_22 : decode b_Mo_table 22 = .ok (.iastore, 1) := by decide +kernel
theorem d_Mo_table_23 : decode b_Mo_table 23 = .ok (.aload_n 0, 1) := by decide +kernel
theorem d_Mo_table_24 : decode b_Mo_table 24 = .ok (.getfield 171, 3) := by decide +kernel
theorem d_Mo_table_27 : decode b_Mo_table 27 = .ok (.iload_n 1, 1) := by decide +kernel
theorem d_Mo_table_28 : decode b_Mo_table 28 = .ok (.iconst 0, 1) := by decide +kernel
theorem d_Mo_table_29 : decode b_Mo_table 29 = .ok (.iastore, 1) := by decide +kernel
theorem d_Mo_table_30 : decode b_Mo_table 30 = .ok (.aload_n 0, 1) := by decide +kernel
theorem d_Mo_table_31 : decode b_Mo_table 31 = .ok (.getfield 174, 3) := by decide +kernel
theorem d_Mo_table_34 : decode b_Mo_table 34 = .ok (.iload_n 1, 1) := by decide +kernel
theorem d_Mo_table_35 : decode b_Mo_table 35 = .ok (.iconst 0, 1) := by decide +kernel
theorem d_Mo_table_36 : decode b_Mo_table 36 = .ok (.iastore, 1) := by decide +kernel
theorem d_Mo_table_37 : decode b_Mo_table 37 = .ok (.aload_n 0, 1) := by decide +kernel
theorem d_Mo_table_38 : decode b_Mo_table 38 = .ok (.getfield 177, 3) := by decide +kernel
theorem d_Mo_table_41 : decode b_Mo_table 41 = .ok (.iload_n 1, 1) := by decide +kernel
theorem d_Mo_table_42 : decode b_Mo_table 42 = .ok (.iconst (-1), 1) := by decide +kernel
theorem d_Mo_table_43 : decode b_Mo_table 43 = .ok (.iastore, 1) := by decide +kernel
theorem d_Mo_table_44 : decode b_Mo_table 44 = .ok (.iload_n 1, 1) := by decide +kernel
theorem d_Mo_table_45 : decode b_Mo_table 45 = .ok (.ireturn, 1) := by decide +kernel
abbrev b_Mo_may : ByteArray := prog_14_method_27_code
def y_Mo_may : MethodName := ⟨R_Mo, "may", "(Z)Z"⟩
abbrev w_Mo_may : List Cond := .code y_Mo_may b_Mo_may 2 (some .boolean) :: wA
theorem k_Mo_may : Cond.code y_Mo_may b_Mo_may 2 (some .boolean) ∈ wA := kinm (show _ ∈ tables_1 from (List.mem_append_right _ (List.mem_append_right _ (List.mem_append_right _ (List.mem_append_right _ (List.mem_append_right _ (List.mem_append_right _ (List.mem_append_right _ (List.mem_append_right _ (List.mem_append_right _ (List.mem_append_right _ (List.mem_append_left _ (List.mem_of_getElem? (l := tables_1_11) (i := 235) (by decide +kernel)))))))))))))) (by decide +kernel)
theorem d_Mo_may_0 : decode b_Mo_may 0 = .ok (.aload_n 0, 1) := by decide +kernel
theorem d_Mo_may_1 : decode b_Mo_may 1 = .ok (.getfield 146, 3) := by decide +kernel
theorem d_Mo_may_4 : decode b_Mo_may 4 = .ok (.ldc_w 516, 3) := by decide +kernel
theorem d_Mo_may_7 : decode b_Mo_may 7 = .ok (.if_icmp .ne 12, 3) := by decide +kernel
theorem d_Mo_may_10 : decode b_Mo_may 10 = .ok (.aload_n 0, 1) := by decide +kernel
theorem d_Mo_may_11 : decode b_Mo_may 11 = .ok (.bipush 11, 2) := by decide +kernel
theorem d_Mo_may_13 : decode b_Mo_may 13 = .ok (.invokevirtual 517, 3) := by decide +kernel
theorem d_Mo_may_16 : decode b_Mo_may 16 = .ok (.pop, 1) := by decide +kernel
theorem d_Mo_may_17 : decode b_Mo_may 17 = .ok (.iconst 0, 1) := by decide +kernel
theorem d_Mo_may_18 : decode b_Mo_may 18 = .ok (.ireturn, 1) := by decide +kernel
theorem d_Mo_may_19 : decode b_Mo_may 19 = .ok (.aload_n 0, 1) := by decide +kernel
theorem d_Mo_may_20 : decode b_Mo_may 20 = .ok (.getfield 122, 3) := by decide +kernel
theorem d_Mo_may_23 : decode b_Mo_may 23 = .ok (.aload_n 0, 1) := by decide +kernel
theorem d_Mo_may_24 : decode b_Mo_may 24 = .ok (.getfield 116, 3) := by decide +kernel
theorem d_Mo_may_27 : decode b_Mo_may 27 = .ok (.if_icmp .ge 18, 3) := by decide +kernel
theorem d_Mo_may_30 : decode b_Mo_may 30 = .ok (.iload_n 1, 1) := by decide +kernel
theorem d_Mo_may_31 : decode b_Mo_may 31 = .ok (.ifCond .eq 12, 3) := by decide +kernel
theorem d_Mo_may_34 : decode b_Mo_may 34 = .ok (.aload_n 0, 1) := by decide +kernel
theorem d_Mo_may_35 : decode b_Mo_may 35 = .ok (.getfield 137, 3) := by decide +kernel
theorem d_Mo_may_38 : decode b_Mo_may 38 = .ok (.bipush 32, 2) := by decide +kernel
theorem d_Mo_may_40 : decode b_Mo_may 40 = .ok (.if_icmp .ge 5, 3) := by decide +kernel
theorem d_Mo_may_43 : decode b_Mo_may 43 = .ok (.iconst 1, 1) := by decide +kernel
theorem d_Mo_may_44 : decode b_Mo_may 44 = .ok (.ireturn, 1) := by decide +kernel
theorem d_Mo_may_45 : decode b_Mo_may 45 = .ok (.aload_n 0, 1) := by decide +kernel
theorem d_Mo_may_46 : decode b_Mo_may 46 = .ok (.getfield 418, 3) := by decide +kernel
theorem d_Mo_may_49 : decode b_Mo_may 49 = .ok (.ifCond .ne 7, 3) := by decide +kernel
theorem d_Mo_may_52 : decode b_Mo_may 52 = .ok (.aload_n 0, 1) := by decide +kernel
theorem d_Mo_may_53 : decode b_Mo_may 53 = .ok (.invokevirtual 520, 3) := by decide +kernel
theorem d_Mo_may_56 : decode b_Mo_may 56 = .ok (.aload_n 0, 1) := by decide +kernel
theorem d_Mo_may_57 : decode b_Mo_may 57 = .ok (.getfield 122, 3) := by decide +kernel
theorem d_Mo_may_60 : decode b_Mo_may 60 = .ok (.aload_n 0, 1) := by decide +kernel
theorem d_Mo_may_61 : decode b_Mo_may 61 = .ok (.getfield 116, 3) := by decide +kernel
theorem d_Mo_may_64 : decode b_Mo_may 64 = .ok (.if_icmp .ge 18, 3) := by decide +kernel
theorem d_Mo_may_67 : decode b_Mo_may 67 = .ok (.iload_n 1, 1) := by decide +kernel
theorem d_Mo_may_68 : decode b_Mo_may 68 = .ok (.ifCond .eq 12, 3) := by decide +kernel
theorem d_Mo_may_71 : decode b_Mo_may 71 = .ok (.aload_n 0, 1) := by decide +kernel
theorem d_Mo_may_72 : decode b_Mo_may 72 = .ok (.getfield 137, 3) := by decide +kernel
theorem d_Mo_may_75 : decode b_Mo_may 75 = .ok (.bipush 32, 2) := by decide +kernel
theorem d_Mo_may_77 : decode b_Mo_may 77 = .ok (.if_icmp .ge 5, 3) := by decide +kernel
theorem d_Mo_may_80 : decode b_Mo_may 80 = .ok (.iconst 1, 1) := by decide +kernel
theorem d_Mo_may_81 : decode b_Mo_may 81 = .ok (.ireturn, 1) := by decide +kernel
theorem d_Mo_may_82 : decode b_Mo_may 82 = .ok (.aload_n 0, 1) := by decide +kernel
theorem d_Mo_may_83 : decode b_Mo_may 83 = .ok (.bipush 10, 2) := by decide +kernel
theorem d_Mo_may_85 : decode b_Mo_may 85 = .ok (.invokevirtual 517, 3) := by decide +kernel
theorem d_Mo_may_88 : decode b_Mo_may 88 = .ok (.pop, 1) := by decide +kernel
theorem d_Mo_may_89 : decode b_Mo_may 89 = .ok (.iconst 0, 1) := by decide +kernel
theorem d_Mo_may_90 : decode b_Mo_may 90 = .ok (.ireturn, 1) := by decide +kernel
theorem kw_74 : Cond.constant R_Mo 516 60000 ∈ wA := kinm (show _ ∈ tables_1 from (List.mem_append_right _ (List.mem_append_right _ (List.mem_append_right _ (List.mem_append_right _ (List.mem_append_right _ (List.mem_append_right _ (List.mem_append_right _ (List.mem_append_right _ (List.mem_append_right _ (List.mem_append_right _ (List.mem_append_left _ (List.mem_of_getElem? (l := tables_1_11) (i := 236) (by decide +kernel)))))))))))))) (by decide +kernel)
abbrev b_Mo_raise : ByteArray := prog_14_method_26_code
def y_Mo_raise : MethodName := ⟨R_Mo, "raise", "(I)I"⟩
abbrev w_Mo_raise : List Cond := .code y_Mo_raise b_Mo_raise 2 (some .int) :: wA
theorem k_Mo_raise : Cond.code y_Mo_raise b_Mo_raise 2 (some .int) ∈ wA := kinm (show _ ∈ tables_1 from (List.mem_append_right _ (List.mem_append_right _ (List.mem_append_right _ (List.mem_append_right _ (List.mem_append_right _ (List.mem_append_right _ (List.mem_append_right _ (List.mem_append_right _ (List.mem_append_right _ (List.mem_append_right _ (List.mem_append_right _ (List.mem_append_left _ (List.mem_of_getElem? (l := tables_1_12) (i := 0) (by decide +kernel))))))))))))))) (by decide +kernel)
theorem d_Mo_raise_0 : decode b_Mo_raise 0 = .ok (.aload_n 0, 1) := by decide +kernel
theorem d_Mo_raise_1 : decode b_Mo_raise 1 = .ok (.iconst 3, 1) := by decide +kernel
theorem d_Mo_raise_2 : decode b_Mo_raise 2 = .ok (.putfield 215, 3) := by decide +kernel
theorem d_Mo_raise_5 : decode b_Mo_raise 5 = .ok (.aload_n 0, 1) := by decide +kernel
theorem d_Mo_raise_6 : decode b_Mo_raise 6 = .ok (.iload_n 1, 1) := by decide +kernel
theorem d_Mo_raise_7 : decode b_Mo_raise 7 = .ok (.i2l, 1) := by decide +kernel
theorem d_Mo_raise_8 : decode b_Mo_raise 8 = .ok (.putfield 218, 3) := by decide +kernel
theorem d_Mo_raise_11 : decode b_Mo_raise 11 = .ok (.aload_n 0, 1) := by decide +kernel
theorem d_Mo_raise_12 : decode b_Mo_raise 12 = .ok (.iload_n 1, 1) := by decide +kernel
theorem d_Mo_raise_13 : decode b_Mo_raise 13 = .ok (.bipush 11, 2) := by decide +kernel
theorem d_Mo_raise_15 : decode b_Mo_raise 15 = .ok (.if_icmp .ne 7, 3) := by decide +kernel
theorem d_Mo_raise_18 : decode b_Mo_raise 18 = .ok (.iconst 4, 1) := by decide +kernel
theorem d_Mo_raise_19 : decode b_Mo_raise 19 = .ok (.goto 4, 3) := by decide +kernel
theorem d_Mo_raise_22 : decode b_Mo_raise 22 = .ok (.iconst 3, 1) := by decide +kernel
theorem d_Mo_raise_23 : decode b_Mo_raise 23 = .ok (.putfield 247, 3) := by decide +kernel
theorem d_Mo_raise_26 : decode b_Mo_raise 26 = .ok (.iconst (-1), 1) := by decide +kernel
theorem d_Mo_raise_27 : decode b_Mo_raise 27 = .ok (.ireturn, 1) := by decide +kernel
theorem kw_75 : Cond.fieldLink R_Mo 215 "LuaMachineModel" "errorKind" "I" ∈ wA := kinm (show _ ∈ tables_1 from (List.mem_append_right _ (List.mem_append_right _ (List.mem_append_right _ (List.mem_append_right _ (List.mem_append_right _ (List.mem_append_right _ (List.mem_append_right _ (List.mem_append_right _ (List.mem_append_right _ (List.mem_append_left _ (List.mem_of_getElem? (l := tables_1_10) (i := 120) (by decide +kernel))))))))))))) (by decide +kernel)
theorem kw_76 : Cond.fieldLink R_Mo 218 "LuaMachineModel" "errorValue" "J" ∈ wA := kinm (show _ ∈ tables_1 from (List.mem_append_right _ (List.mem_append_right _ (List.mem_append_right _ (List.mem_append_right _ (List.mem_append_right _ (List.mem_append_right _ (List.mem_append_right _ (List.mem_append_right _ (List.mem_append_right _ (List.mem_append_left _ (List.mem_of_getElem? (l := tables_1_10) (i := 121) (by decide +kernel))))))))))))) (by decide +kernel)
theorem kw_77 : Cond.fieldLink R_Mo 247 "LuaMachineModel" "todo" "I" ∈ wA := kinm (show _ ∈ tables_1 from (List.mem_append_right _ (List.mem_append_right _ (List.mem_append_right _ (List.mem_append_right _ (List.mem_append_right _ (List.mem_append_right _ (List.mem_append_right _ (List.mem_append_right _ (List.mem_append_right _ (List.mem_append_left _ (List.mem_of_getElem? (l := tables_1_10) (i := 129) (by decide +kernel))))))))))))) (by decide +kernel)
theorem kw_78 : Cond.instanceMethod y_Mo_raise ∈ wA := kinm (show _ ∈ tables_1 from (List.mem_append_right _ (List.mem_append_right _ (List.mem_append_right _ (List.mem_append_right _ (List.mem_append_right _ (List.mem_append_right _ (List.mem_append_right _ (List.mem_append_right _ (List.mem_append_right _ (List.mem_append_right _ (List.mem_append_left _ (List.mem_of_getElem? (l := tables_1_11) (i := 239) (by decide +kernel)))))))))))))) (by decide +kernel)
theorem kw_79 : Cond.selects R_Mo y_Mo_raise y_Mo_raise ∈ wA := kinp 128 (by decide +kernel) (by decide +kernel)
def M_Mo_raise_j23 (k0 : Int32) : M (Int32) :=
  oB (oPI 73 0 k0) fun _ =>
  oR (-1)

def M_Mo_raise (l1 : Int32) : M (Int32) :=
  oB (oPI 64 0 3) fun _ =>
  oB (oPL 65 0 l1.toInt64) fun _ =>
  oC (l1 = 11)
    (M_Mo_raise_j23 4)
    (M_Mo_raise_j23 3)

theorem cv_Mo_raise : CV y_Mo_raise b_Mo_raise 2 (some .int) 1 := ⟨kw_78, kw_79, kw_17, k_Mo_raise, by decide +kernel⟩
theorem j_Mo_raise_j23 {X : Cx} {q : PL} (g : Gd X y_Mo_raise b_Mo_raise 2 (some .int) 0 0 R_Mo) {o : (Int32) × S1} (hR : Rt X q o.2 (some (.int o.1))) (k0 : Int32) (s : S1) (ls : Array Slot) (hl : lv_has ls 2 []) (h : M_Mo_raise_j23 k0 s = some o) : WW X q s 23 ls [.int k0, .ref (q.1 0 0)] := by
  unfold M_Mo_raise_j23 at h
  refine ww_pI (pc := 23) g (k := 73) cl_Mo (pz rfl (by decide)) (by decide) (Or.inl kw_77) rfl (f := 73) rfl rfl rfl rfl d_Mo_raise_23 h fun s hs h => ?_
  refine ww_iconst (pc := 26) g.1 (v := (-1)) d_Mo_raise_26 (by decide) ?_
  exact ww_iretH (pc := 27) g h hR d_Mo_raise_27

theorem ct_Mo_raise {l : Launch} {P : PP} {q : PL} {s s' : S1} {l1 : Int32} {r : Int32} (h : M_Mo_raise l1 s = some (r, s')) : Ct l y_Mo_raise b_Mo_raise 2 (some .int) 0 0 P q s [.ref (q.1 0 0), .int l1] (some (.int r)) q s' := by
  refine ct_of (by decide) (Nat.le_of_ble_eq_true rfl) fun X ls eP el g hR hl => ?_
  have hR : Rt X q ((r, s') : Int32 × S1).2 (some (.int ((r, s') : Int32 × S1).1)) := hR
  have hl : lv_has ls 2 [(0, .ref (q.1 0 0)), (1, .int l1)] := hl
  generalize (r, s') = o at h hR
  unfold M_Mo_raise at h
  refine ww_aload_n (pc := 0) g.1 d_Mo_raise_0 rfl (lv_at hl 0 rfl) ?_
  refine ww_iconst (pc := 1) g.1 (v := 3) d_Mo_raise_1 (by decide) ?_
  refine ww_pI (pc := 2) g (k := 64) cl_Mo (pz rfl (by decide)) (by decide) (Or.inl kw_75) rfl (f := 64) rfl rfl rfl rfl d_Mo_raise_2 h fun s hs h => ?_
  refine ww_aload_n (pc := 5) g.1 d_Mo_raise_5 rfl (lv_at hl 0 rfl) ?_
  refine ww_iload_n (pc := 6) g.1 d_Mo_raise_6 rfl (lv_at hl 1 rfl) ?_
  refine ww_i2l (pc := 7) g.1 (v := l1.toInt64) d_Mo_raise_7 rfl ?_
  refine ww_pL (pc := 8) g (k := 65) cl_Mo (pz rfl (by decide)) (by decide) (Or.inl kw_76) rfl (f := 65) rfl rfl rfl rfl d_Mo_raise_8 h fun s hs h => ?_
  refine ww_aload_n (pc := 11) g.1 d_Mo_raise_11 rfl (lv_at hl 0 rfl) ?_
  refine ww_iload_n (pc := 12) g.1 d_Mo_raise_12 rfl (lv_at hl 1 rfl) ?_
  refine ww_bipush (pc := 13) g.1 (v := 11) d_Mo_raise_13 (by decide) ?_
  refine ww_icmp_ne (pc := 15) (tgt := 22) g.1 d_Mo_raise_15 (by decide) h (fun c h => ?_) (fun c h => ?_)
  · refine ww_iconst (pc := 22) g.1 (v := 3) d_Mo_raise_22 (by decide) ?_
    exact j_Mo_raise_j23 g hR 3 s ls (lv_sub hl [] rfl) h
  · refine ww_iconst (pc := 18) g.1 (v := 4) d_Mo_raise_18 (by decide) ?_
    refine ww_goto (pc := 19) (tgt := 23) g.1 d_Mo_raise_19 (by decide) ?_
    exact j_Mo_raise_j23 g hR 4 s ls (lv_sub hl [] rfl) h

abbrev b_Mo_collection : ByteArray := prog_14_method_47_code
def y_Mo_collection : MethodName := ⟨R_Mo, "collection", "()V"⟩
abbrev w_Mo_collection : List Cond := .code y_Mo_collection b_Mo_collection 2 none :: wA
set_option maxRecDepth 20000 in
theorem k_Mo_collection : Cond.code y_Mo_collection b_Mo_collection 2 none ∈ wA := kinm (show _ ∈ tables_1 from (List.mem_append_right _ (List.mem_append_right _ (List.mem_append_right _ (List.mem_append_right _ (List.mem_append_right _ (List.mem_append_right _ (List.mem_append_right _ (List.mem_append_right _ (List.mem_append_right _ (List.mem_append_right _ (List.mem_append_right _ (List.mem_append_left _ (List.mem_of_getElem? (l := tables_1_12) (i := 4) rfl)))))))))))))) rfl
theorem d_Mo_collection_0 : decode b_Mo_collection 0 = .ok (.aload_n 0, 1) := by decide +kernel
theorem d_Mo_collection_1 : decode b_Mo_collection 1 = .ok (.dup, 1) := by decide +kernel
theorem d_Mo_collection_2 : decode b_Mo_collection 2 = .ok (.getfield 125, 3) := by decide +kernel
theorem d_Mo_collection_5 : decode b_Mo_collection 5 = .ok (.iconst 1, 1) := by decide +kernel
theorem d_Mo_collection_6 : decode b_Mo_collection 6 = .ok (.iadd, 1) := by decide +kernel
theorem d_Mo_collection_7 : decode b_Mo_collection 7 = .ok (.putfield 125, 3) := by decide +kernel
theorem d_Mo_collection_10 : decode b_Mo_collection 10 = .ok (.aload_n 0, 1) := by decide +kernel
theorem d_Mo_collection_11 : decode b_Mo_collection 11 = .ok (.getfield 158, 3) := by decide +kernel
theorem d_Mo_collection_14 : decode b_Mo_collection 14 = .ok (.iconst 0, 1) := by decide +kernel
theorem d_Mo_collection_15 : decode b_Mo_collection 15 = .ok (.aload_n 0, 1) := by decide +kernel
theorem d_Mo_collection_16 : decode b_Mo_collection 16 = .ok (.getfield 140, 3) := by decide +kernel
theorem d_Mo_collection_19 : decode b_Mo_collection 19 = .ok (.iconst 0, 1) := by decide +kernel
theorem d_Mo_collection_20 : decode b_Mo_collection 20 = .ok (.invokestatic 612, 3) := by decide +kernel
theorem d_Mo_collection_23 : decode b_Mo_collection 23 = .ok (.aload_n 0, 1) := by decide +kernel
theorem d_Mo_collection_24 : decode b_Mo_collection 24 = .ok (.iconst 0, 1) := by decide +kernel
theorem d_Mo_collection_25 : decode b_Mo_collection 25 = .ok (.putfield 231, 3) := by decide +kernel
theorem d_Mo_collection_28 : decode b_Mo_collection 28 = .ok (.iconst 0, 1) := by decide +kernel
theorem d_Mo_collection_29 : decode b_Mo_collection 29 = .ok (.istore_n 1, 1) := by decide +kernel
theorem d_Mo_collection_30 : decode b_Mo_collection 30 = .ok (.iload_n 1, 1) := by decide +kernel
theorem d_Mo_collection_31 : decode b_Mo_collection 31 = .ok (.aload_n 0, 1) := by decide +kernel
theorem d_Mo_collection_32 : decode b_Mo_collection 32 = .ok (.getfield 140, 3) := by decide +kernel
theorem d_Mo_collection_35 : decode b_Mo_collection 35 = .ok (.if_icmp .ge 32, 3) := by decide +kernel
theorem d_Mo_collection_38 : decode b_Mo_collection 38 = .ok (.aload_n 0, 1) := by decide +kernel
theorem d_Mo_collection_39 : decode b_Mo_collection 39 = .ok (.getfield 155, 3) := by decide +kernel
theorem d_Mo_collection_42 : decode b_Mo_collection 42 = .ok (.iload_n 1, 1) := by decide +kernel
theorem d_Mo_collection_43 : decode b_Mo_collection 43 = .ok (.baload, 1) := by decide +kernel
theorem d_Mo_collection_44 : decode b_Mo_collection 44 = .ok (.ifCond .eq 17, 3) := by decide +kernel
theorem d_Mo_collection_47 : decode b_Mo_collection 47 = .ok (.aload_n 0, 1) := by decide +kernel
theorem d_Mo_collection_48 : decode b_Mo_collection 48 = .ok (.getfield 162, 3) := by decide +kernel
theorem d_Mo_collection_51 : decode b_Mo_collection 51 = .ok (.iload_n 1, 1) := by decide +kernel
theorem d_Mo_collection_52 : decode b_Mo_collection 52 = .ok (.baload, 1) := by decide +kernel
theorem d_Mo_collection_53 : decode b_Mo_collection 53 = .ok (.ifCond .eq 8, 3) := by decide +kernel
theorem d_Mo_collection_56 : decode b_Mo_collection 56 = .ok (.aload_n 0, 1) := by decide +kernel
theorem d_Mo_collection_57 : decode b_Mo_collection 57 = .ok (.iload_n 1, 1) := by decide +kernel
theorem d_Mo_collection_58 : decode b_Mo_collection 58 = .ok (.invokevirtual 606, 3) := by decide +kernel
theorem d_Mo_collection_61 : decode b_Mo_collection 61 = .ok (.iinc 1 1, 3) := by decide +kernel
theorem d_Mo_collection_64 : decode b_Mo_collection 64 = .ok (.goto (-34), 3) := by decide +kernel
theorem d_Mo_collection_67 : decode b_Mo_collection 67 = .ok (.aload_n 0, 1) := by decide +kernel
theorem d_Mo_collection_68 : decode b_Mo_collection 68 = .ok (.aload_n 0, 1) := by decide +kernel
theorem d_Mo_collection_69 : decode b_Mo_collection 69 = .ok (.getfield 250, 3) := by decide +kernel
theorem d_Mo_collection_72 : decode b_Mo_collection 72 = .ok (.invokevirtual 606, 3) := by decide +kernel
theorem d_Mo_collection_75 : decode b_Mo_collection 75 = .ok (.aload_n 0, 1) := by decide +kernel
theorem d_Mo_collection_76 : decode b_Mo_collection 76 = .ok (.aload_n 0, 1) := by decide +kernel
theorem d_Mo_collection_77 : decode b_Mo_collection 77 = .ok (.getfield 239, 3) := by decide +kernel
theorem d_Mo_collection_80 : decode b_Mo_collection 80 = .ok (.iconst 0, 1) := by decide +kernel
theorem d_Mo_collection_81 : decode b_Mo_collection 81 = .ok (.aaload, 1) := by decide +kernel
theorem d_Mo_collection_82 : decode b_Mo_collection 82 = .ok (.getfield 615, 3) := by decide +kernel
theorem d_Mo_collection_85 : decode b_Mo_collection 85 = .ok (.invokevirtual 606, 3) := by decide +kernel
theorem d_Mo_collection_88 : decode b_Mo_collection 88 = .ok (.aload_n 0, 1) := by decide +kernel
theorem d_Mo_collection_89 : decode b_Mo_collection 89 = .ok (.aload_n 0, 1) := by decide +kernel
theorem d_Mo_collection_90 : decode b_Mo_collection 90 = .ok (.getfield 243, 3) := by decide +kernel
theorem d_Mo_collection_93 : decode b_Mo_collection 93 = .ok (.getfield 615, 3) := by decide +kernel
theorem d_Mo_collection_96 : decode b_Mo_collection 96 = .ok (.invokevirtual 606, 3) := by decide +kernel
theorem d_Mo_collection_99 : decode b_Mo_collection 99 = .ok (.aload_n 0, 1) := by decide +kernel
theorem d_Mo_collection_100 : decode b_Mo_collection 100 = .ok (.getfield 243, 3) := by decide +kernel
theorem d_Mo_collection_103 : decode b_Mo_collection 103 = .ok (.astore_n 1, 1) := by decide +kernel
theorem d_Mo_collection_104 : decode b_Mo_collection 104 = .ok (.aload_n 1, 1) := by decide +kernel
theorem d_Mo_collection_105 : decode b_Mo_collection 105 = .ok (.getfield 617, 3) := by decide +kernel
theorem d_Mo_collection_108 : decode b_Mo_collection 108 = .ok (.ifnull 22, 3) := by decide +kernel
theorem d_Mo_collection_111 : decode b_Mo_collection 111 = .ok (.aload_n 0, 1) := by decide +kernel
theorem d_Mo_collection_112 : decode b_Mo_collection 112 = .ok (.aload_n 1, 1) := by decide +kernel
theorem d_Mo_collection_113 : decode b_Mo_collection 113 = .ok (.getfield 617, 3) := by decide +kernel
theorem d_Mo_collection_116 : decode b_Mo_collection 116 = .ok (.getfield 615, 3) := by decide +kernel
theorem d_Mo_collection_119 : decode b_Mo_collection 119 = .ok (.invokevirtual 606, 3) := by decide +kernel
theorem d_Mo_collection_122 : decode b_Mo_collection 122 = .ok (.aload_n 1, 1) := by decide +kernel
theorem d_Mo_collection_123 : decode b_Mo_collection 123 = .ok (.getfield 617, 3) := by decide +kernel
theorem d_Mo_collection_126 : decode b_Mo_collection 126 = .ok (.astore_n 1, 1) := by decide +kernel
theorem d_Mo_collection_127 : decode b_Mo_collection 127 = .ok (.goto (-23), 3) := by decide +kernel
theorem d_Mo_collection_130 : decode b_Mo_collection 130 = .ok (.aload_n 0, 1) := by decide +kernel
theorem d_Mo_collection_131 : decode b_Mo_collection 131 = .ok (.aload_n 0, 1) := by decide +kernel
theorem d_Mo_collection_132 : decode b_Mo_collection 132 = .ok (.getfield 234, 3) := by decide +kernel
theorem d_Mo_collection_135 : decode b_Mo_collection 135 = .ok (.iconst 0, 1) := by decide +kernel
theorem d_Mo_collection_136 : decode b_Mo_collection 136 = .ok (.aload_n 0, 1) := by decide +kernel
theorem d_Mo_collection_137 : decode b_Mo_collection 137 = .ok (.getfield 234, 3) := by decide +kernel
theorem d_Mo_collection_140 : decode b_Mo_collection 140 = .ok (.getfield 569, 3) := by decide +kernel
theorem d_Mo_collection_143 : decode b_Mo_collection 143 = .ok (.invokevirtual 620, 3) := by decide +kernel
theorem d_Mo_collection_146 : decode b_Mo_collection 146 = .ok (.aload_n 0, 1) := by decide +kernel
theorem d_Mo_collection_147 : decode b_Mo_collection 147 = .ok (.aload_n 0, 1) := by decide +kernel
theorem d_Mo_collection_148 : decode b_Mo_collection 148 = .ok (.getfield 259, 3) := by decide +kernel
theorem d_Mo_collection_151 : decode b_Mo_collection 151 = .ok (.iconst 0, 1) := by decide +kernel
theorem d_Mo_collection_152 : decode b_Mo_collection 152 = .ok (.aload_n 0, 1) := by decide +kernel
theorem d_Mo_collection_153 : decode b_Mo_collection 153 = .ok (.getfield 259, 3) := by decide +kernel
theorem d_Mo_collection_156 : decode b_Mo_collection 156 = .ok (.getfield 569, 3) := by decide +kernel
theorem d_Mo_collection_159 : decode b_Mo_collection 159 = .ok (.invokevirtual 620, 3) := by decide +kernel
theorem d_Mo_collection_162 : decode b_Mo_collection 162 = .ok (.aload_n 0, 1) := by decide +kernel
theorem d_Mo_collection_163 : decode b_Mo_collection 163 = .ok (.aload_n 0, 1) := by decide +kernel
theorem d_Mo_collection_164 : decode b_Mo_collection 164 = .ok (.getfield 262, 3) := by decide +kernel
theorem d_Mo_collection_167 : decode b_Mo_collection 167 = .ok (.iconst 0, 1) := by decide +kernel
theorem d_Mo_collection_168 : decode b_Mo_collection 168 = .ok (.aload_n 0, 1) := by decide +kernel
theorem d_Mo_collection_169 : decode b_Mo_collection 169 = .ok (.getfield 262, 3) := by decide +kernel
theorem d_Mo_collection_172 : decode b_Mo_collection 172 = .ok (.getfield 569, 3) := by decide +kernel
theorem d_Mo_collection_175 : decode b_Mo_collection 175 = .ok (.invokevirtual 620, 3) := by decide +kernel
theorem d_Mo_collection_178 : decode b_Mo_collection 178 = .ok (.aload_n 0, 1) := by decide +kernel
theorem d_Mo_collection_179 : decode b_Mo_collection 179 = .ok (.aload_n 0, 1) := by decide +kernel
theorem d_Mo_collection_180 : decode b_Mo_collection 180 = .ok (.getfield 215, 3) := by decide +kernel
theorem d_Mo_collection_183 : decode b_Mo_collection 183 = .ok (.aload_n 0, 1) := by decide +kernel
theorem d_Mo_collection_184 : decode b_Mo_collection 184 = .ok (.getfield 218, 3) := by decide +kernel
theorem d_Mo_collection_187 : decode b_Mo_collection 187 = .ok (.invokevirtual 609, 3) := by decide +kernel
theorem d_Mo_collection_190 : decode b_Mo_collection 190 = .ok (.aload_n 0, 1) := by decide +kernel
theorem d_Mo_collection_191 : decode b_Mo_collection 191 = .ok (.aload_n 0, 1) := by decide +kernel
theorem d_Mo_collection_192 : decode b_Mo_collection 192 = .ok (.getfield 265, 3) := by decide +kernel
theorem d_Mo_collection_195 : decode b_Mo_collection 195 = .ok (.iconst 0, 1) := by decide +kernel
theorem d_Mo_collection_196 : decode b_Mo_collection 196 = .ok (.aload_n 0, 1) := by decide +kernel
theorem d_Mo_collection_197 : decode b_Mo_collection 197 = .ok (.getfield 265, 3) := by decide +kernel
theorem d_Mo_collection_200 : decode b_Mo_collection 200 = .ok (.getfield 569, 3) := by decide +kernel
theorem d_Mo_collection_203 : decode b_Mo_collection 203 = .ok (.invokevirtual 620, 3) := by decide +kernel
theorem d_Mo_collection_206 : decode b_Mo_collection 206 = .ok (.aload_n 0, 1) := by decide +kernel
theorem d_Mo_collection_207 : decode b_Mo_collection 207 = .ok (.aload_n 0, 1) := by decide +kernel
theorem d_Mo_collection_208 : decode b_Mo_collection 208 = .ok (.getfield 253, 3) := by decide +kernel
theorem d_Mo_collection_211 : decode b_Mo_collection 211 = .ok (.aload_n 0, 1) := by decide +kernel
theorem d_Mo_collection_212 : decode b_Mo_collection 212 = .ok (.getfield 256, 3) := by decide +kernel
theorem d_Mo_collection_215 : decode b_Mo_collection 215 = .ok (.invokevirtual 609, 3) := by decide +kernel
theorem d_Mo_collection_218 : decode b_Mo_collection 218 = .ok (.aload_n 0, 1) := by decide +kernel
theorem d_Mo_collection_219 : decode b_Mo_collection 219 = .ok (.getfield 231, 3) := by decide +kernel
theorem d_Mo_collection_222 : decode b_Mo_collection 222 = .ok (.ifCond .le 26, 3) := by decide +kernel
theorem d_Mo_collection_225 : decode b_Mo_collection 225 = .ok (.aload_n 0, 1) := by decide +kernel
theorem d_Mo_collection_226 : decode b_Mo_collection 226 = .ok (.aload_n 0, 1) := by decide +kernel
theorem d_Mo_collection_227 : decode b_Mo_collection 227 = .ok (.getfield 228, 3) := by decide +kernel
theorem d_Mo_collection_230 : decode b_Mo_collection 230 = .ok (.aload_n 0, 1) := by decide +kernel
theorem d_Mo_collection_231 : decode b_Mo_collection 231 = .ok (.dup, 1) := by decide +kernel
theorem d_Mo_collection_232 : decode b_Mo_collection 232 = .ok (.getfield 231, 3) := by decide +kernel
theorem d_Mo_collection_235 : decode b_Mo_collection 235 = .ok (.iconst 1, 1) := by decide +kernel
theorem d_Mo_collection_236 : decode b_Mo_collection 236 = .ok (.isub, 1) := by decide +kernel
theorem d_Mo_collection_237 : decode b_Mo_collection 237 = .ok (.dup_x1, 1) := by decide +kernel
theorem d_Mo_collection_238 : decode b_Mo_collection 238 = .ok (.putfield 231, 3) := by decide +kernel
theorem d_Mo_collection_241 : decode b_Mo_collection 241 = .ok (.iaload, 1) := by decide +kernel
theorem d_Mo_collection_242 : decode b_Mo_collection 242 = .ok (.invokevirtual 624, 3) := by decide +kernel
theorem d_Mo_collection_245 : decode b_Mo_collection 245 = .ok (.goto (-27), 3) := by decide +kernel
theorem d_Mo_collection_248 : decode b_Mo_collection 248 = .ok (.aload_n 0, 1) := by decide +kernel
theorem d_Mo_collection_249 : decode b_Mo_collection 249 = .ok (.invokevirtual 626, 3) := by decide +kernel
theorem d_Mo_collection_252 : decode b_Mo_collection 252 = .ok (.return_, 1) := by decide +kernel
abbrev b_Arr_fill_____ : ByteArray := prog_34_method_112_code
def y_Arr_fill_____ : MethodName := ⟨R_Arr, "fill", "([ZIIZ)V"⟩
abbrev w_Arr_fill_____ : List Cond := .code y_Arr_fill_____ b_Arr_fill_____ 5 none :: wA
theorem k_Arr_fill_____ : Cond.code y_Arr_fill_____ b_Arr_fill_____ 5 none ∈ wA := kinm (show _ ∈ tables_1 from (List.mem_append_right _ (List.mem_append_right _ (List.mem_append_right _ (List.mem_append_right _ (List.mem_append_right _ (List.mem_append_right _ (List.mem_append_right _ (List.mem_append_right _ (List.mem_append_right _ (List.mem_append_right _ (List.mem_append_right _ (List.mem_append_left _ (List.mem_of_getElem? (l := tables_1_12) (i := 7) (by decide +kernel))))))))))))))) (by decide +kernel)
theorem d_Arr_fill______0 : decode b_Arr_fill_____ 0 = .ok (.aload_n 0, 1) := by decide +kernel
theorem d_Arr_fill______1 : decode b_Arr_fill_____ 1 = .ok (.arraylength, 1) := by decide +kernel
theorem d_Arr_fill______2 : decode b_Arr_fill_____ 2 = .ok (.iload_n 1, 1) := by decide +kernel
theorem d_Arr_fill______3 : decode b_Arr_fill_____ 3 = .ok (.iload_n 2, 1) := by decide +kernel
theorem d_Arr_fill______4 : decode b_Arr_fill_____ 4 = .ok (.invokestatic 13, 3) := by decide +kernel
theorem d_Arr_fill______7 : decode b_Arr_fill_____ 7 = .ok (.iload_n 1, 1) := by decide +kernel
theorem d_Arr_fill______8 : decode b_Arr_fill_____ 8 = .ok (.istore 4, 2) := by decide +kernel
theorem d_Arr_fill______10 : decode b_Arr_fill_____ 10 = .ok (.iload 4, 2) := by decide +kernel
theorem d_Arr_fill______12 : decode b_Arr_fill_____ 12 = .ok (.iload_n 2, 1) := by decide +kernel
theorem d_Arr_fill______13 : decode b_Arr_fill_____ 13 = .ok (.if_icmp .ge 14, 3) := by decide +kernel
theorem d_Arr_fill______16 : decode b_Arr_fill_____ 16 = .ok (.aload_n 0, 1) := by decide +kernel
theorem d_Arr_fill______17 : decode b_Arr_fill_____ 17 = .ok (.iload 4, 2) := by decide +kernel
theorem d_Arr_fill______19 : decode b_Arr_fill_____ 19 = .ok (.iload_n 3, 1) := by decide +kernel
theorem d_Arr_fill______20 : decode b_Arr_fill_____ 20 = .ok (.bastore, 1) := by decide +kernel
theorem d_Arr_fill______21 : decode b_Arr_fill_____ 21 = .ok (.iinc 4 1, 3) := by decide +kernel
theorem d_Arr_fill______24 : decode b_Arr_fill_____ 24 = .ok (.goto (-14), 3) := by decide +kernel
theorem d_Arr_fill______27 : decode b_Arr_fill_____ 27 = .ok (.return_, 1) := by decide +kernel
theorem kw_80 : Cond.static y_Arr_fill_____ ∈ wA := kinm (show _ ∈ tables_1 from (List.mem_append_right _ (List.mem_append_right _ (List.mem_append_right _ (List.mem_append_right _ (List.mem_append_right _ (List.mem_append_right _ (List.mem_append_right _ (List.mem_append_right _ (List.mem_append_right _ (List.mem_append_right _ (List.mem_append_right _ (List.mem_append_left _ (List.mem_of_getElem? (l := tables_1_12) (i := 6) (by decide +kernel))))))))))))))) (by decide +kernel)
def M_Arr_fill______L10 : (Nat × Int32 × Int32 × Int32 × Int32) → M ((Nat × Int32 × Int32 × Int32 × Int32) ⊕ ((Unit))) := fun x =>
  oC (x.2.2.1 ≤ x.2.2.2.2)
    (oR (Sum.inr ()))
    (oB (oSI x.1 (lnI x.1) x.2.1 x.2.2.2.2 (vp_nar .boolean x.2.2.2.1)) fun _ =>
    oR (Sum.inl (x.1, x.2.1, x.2.2.1, x.2.2.2.1, x.2.2.2.2 + 1)))

def M_Arr_fill_____ (l0r : Nat) (l0 : Int32) (l1 : Int32) (l2 : Int32) (l3 : Int32) : M (Unit) :=
  oB (M_Arr_rangeCheck (lnI l0r) l1 l2) fun _ =>
  oB (oPr l0r l0) fun _ =>
  oB (oW M_Arr_fill______L10 (l0r, l0, l2, l3, l1)) fun e10 =>
  oR ()

theorem cs_Arr_fill_____ : CS y_Arr_fill_____ b_Arr_fill_____ 5 none 4 := ⟨kw_80, kw_3, k_Arr_fill_____, by decide +kernel⟩
theorem lp_Arr_fill______L10 {X : Cx} {q : PL} (g : Gd X y_Arr_fill_____ b_Arr_fill_____ 5 none 1 22 R_Arr) (x : Nat × Int32 × Int32 × Int32 × Int32) (s : S1) (o : ((Nat × Int32 × Int32 × Int32 × Int32) ⊕ ((Unit))) × S1) (h : M_Arr_fill______L10 x s = some o) (hR : (Sum.elim (fun y : Nat × Int32 × Int32 × Int32 × Int32 => ∀ ls : Array Slot, (AK 3 y.1) → (prs o.2 y.1 y.2.1) → lv_has ls 5 [(0, .ref (q.1 y.1 y.2.1)), (2, .int y.2.2.1), (3, .int y.2.2.2.1), (4, .int y.2.2.2.2)] → WW X q o.2 10 ls []) (fun y : Unit => ∀ ls : Array Slot, lv_has ls 5 [] → WW X q o.2 27 ls []) o.1)) : ∀ ls : Array Slot, (AK 3 x.1) → (prs s x.1 x.2.1) → lv_has ls 5 [(0, .ref (q.1 x.1 x.2.1)), (2, .int x.2.2.1), (3, .int x.2.2.2.1), (4, .int x.2.2.2.2)] → WW X q s 10 ls [] := by
  intro ls hp0 hp1 hl
  unfold M_Arr_fill______L10 at h
  refine ww_iload (pc := 10) g.1 d_Arr_fill______10 (lv_at hl 3 rfl) ?_
  refine ww_iload_n (pc := 12) g.1 d_Arr_fill______12 rfl (lv_at hl 1 rfl) ?_
  refine ww_icmp_ge (pc := 13) (tgt := 27) g.1 d_Arr_fill______13 (by decide) h (fun c h => ?_) (fun c h => ?_)
  · rw [oR_eq h] at hR
    exact hR ls (lv_sub hl [] rfl)
  · refine ww_aload_n (pc := 16) g.1 d_Arr_fill______16 rfl (lv_at hl 0 rfl) ?_
    refine ww_iload (pc := 17) g.1 d_Arr_fill______17 (lv_at hl 3 rfl) ?_
    refine ww_iload_n (pc := 19) g.1 d_Arr_fill______19 rfl (lv_at hl 2 rfl) ?_
    refine ww_sz (pc := 20) g hp1 hp0.1 (ak_n hp0) d_Arr_fill______20 h fun s hs h => ?_
    have hp1 : prs s x.1 x.2.1 := hs ▸ hp1
    refine ww_iinc (pc := 21) g.1 (v := x.2.2.2.2 + 1) (lv' := [(4, .int (x.2.2.2.2 + 1)), (0, .ref (q.1 x.1 x.2.1)), (2, .int x.2.2.1), (3, .int x.2.2.2.1)]) d_Arr_fill______21 hl (k := 3) rfl (by rfl) (by decide) rfl fun ls hl => ?_
    refine ww_goto (pc := 24) (tgt := 10) g.1 d_Arr_fill______24 (by decide) ?_
    rw [oR_eq h] at hR
    exact hR ls hp0 hp1 (lv_sub hl [1, 2, 3, 0] rfl)

theorem ct_Arr_fill_____ {l : Launch} {P : PP} {q : PL} {s s' : S1} {l0r : Nat} {l0 : Int32} {l1 : Int32} {l2 : Int32} {l3 : Int32} (hp0 : AK 3 l0r) (hp1 : prs s l0r l0) {r : Unit} (h : M_Arr_fill_____ l0r l0 l1 l2 l3 s = some (r, s')) : Ct l y_Arr_fill_____ b_Arr_fill_____ 5 none 1 22 P q s [.ref (q.1 l0r l0), .int l1, .int l2, .int l3] none q s' := by
  refine ct_ofF (by decide +kernel) (Nat.le_of_ble_eq_true rfl) fun X ls eP el g hR hl => ?_
  have hR : Rt X q ((r, s') : Unit × S1).2 none := hR
  have hl : lv_has ls 5 [(0, .ref (q.1 l0r l0)), (1, .int l1), (2, .int l2), (3, .int l3)] := hl
  generalize (r, s') = o at h hR
  unfold M_Arr_fill_____ at h
  refine ww_aload_n (pc := 0) g.1 d_Arr_fill______0 rfl (lv_at hl 0 rfl) ?_
  refine ww_alen (pc := 1) g (n := lnI l0r) hp1 (ak_k hp0) (ak_m hp0) d_Arr_fill______1 ?_
  refine ww_iload_n (pc := 2) g.1 d_Arr_fill______2 rfl (lv_at hl 1 rfl) ?_
  refine ww_iload_n (pc := 3) g.1 d_Arr_fill______3 rfl (lv_at hl 2 rfl) ?_
  obtain ⟨v4, s, hc4, h⟩ := oB_of h
  refine ww_callS (pc := 4) (rest := []) g cs_Arr_rangeCheck (Or.inl kw_6) (ct_Arr_rangeCheck hc4) ⟨by decide, by decide⟩ rfl hl.1 (Nat.le_of_ble_eq_true rfl) d_Arr_fill______4 rfl ?_
  refine ww_st (st' := []) rfl ?_
  refine ww_pr h fun hp1 h => ?_
  refine ww_iload_n (pc := 7) g.1 d_Arr_fill______7 rfl (lv_at hl 1 rfl) ?_
  refine ww_istore (pc := 8) g.1 (lv' := [(4, .int l1), (0, .ref (q.1 l0r l0)), (1, .int l1), (2, .int l2), (3, .int l3)]) d_Arr_fill______8 hl (by decide) rfl fun ls hl => ?_
  obtain ⟨e10, s1, hw, h⟩ := oB_of h
  refine oW_rule (Wh := fun (x : Nat × Int32 × Int32 × Int32 × Int32) (s : S1) => ∀ ls : Array Slot, (AK 3 x.1) → (prs s x.1 x.2.1) → lv_has ls 5 [(0, .ref (q.1 x.1 x.2.1)), (2, .int x.2.2.1), (3, .int x.2.2.2.1), (4, .int x.2.2.2.2)] → WW X q s 10 ls []) (We := fun (e : (Unit)) (s : S1) => ∀ ls : Array Slot, lv_has ls 5 [] → WW X q s 27 ls []) (fun x s o hb hc => lp_Arr_fill______L10 (q := q) g x s o hb hc) hw ?_ ls hp0 hp1 (lv_sub hl [1, 3, 4, 0] rfl)
  clear hw hl
  clear ls
  intro ls hl
  generalize s1 = s at h ⊢
  exact ww_vretH (pc := 27) g h hR d_Arr_fill______27

