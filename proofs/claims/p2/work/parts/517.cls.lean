abbrev b_Ma_fail : ByteArray := prog_7_method_8_code
def y_Ma_fail : MethodName := ⟨R_Ma, "fail", "(I)V"⟩
abbrev w_Ma_fail : List Cond := .code y_Ma_fail b_Ma_fail 2 none :: wA
theorem k_Ma_fail : Cond.code y_Ma_fail b_Ma_fail 2 none ∈ wA := kinm (show _ ∈ tables_1 from (List.mem_append_right _ (List.mem_append_right _ (List.mem_append_right _ (List.mem_append_right _ (List.mem_append_right _ (List.mem_append_left _ (List.mem_of_getElem? (l := tables_1_6) (i := 220) (by decide +kernel))))))))) (by decide +kernel)
theorem d_Ma_fail_0 : decode b_Ma_fail 0 = .ok (.aload_n 0, 1) := by decide +kernel
theorem d_Ma_fail_1 : decode b_Ma_fail 1 = .ok (.iconst 3, 1) := by decide +kernel
theorem d_Ma_fail_2 : decode b_Ma_fail 2 = .ok (.iload_n 1, 1) := by decide +kernel
theorem d_Ma_fail_3 : decode b_Ma_fail 3 = .ok (.i2l, 1) := by decide +kernel
theorem d_Ma_fail_4 : decode b_Ma_fail 4 = .ok (.invokevirtual 197, 3) := by decide +kernel
theorem d_Ma_fail_7 : decode b_Ma_fail 7 = .ok (.aload_n 0, 1) := by decide +kernel
theorem d_Ma_fail_8 : decode b_Ma_fail 8 = .ok (.iload_n 1, 1) := by decide +kernel
theorem d_Ma_fail_9 : decode b_Ma_fail 9 = .ok (.bipush 11, 2) := by decide +kernel
theorem d_Ma_fail_11 : decode b_Ma_fail 11 = .ok (.if_icmp .ne 7, 3) := by decide +kernel
theorem d_Ma_fail_14 : decode b_Ma_fail 14 = .ok (.iconst 1, 1) := by decide +kernel
theorem d_Ma_fail_15 : decode b_Ma_fail 15 = .ok (.goto 4, 3) := by decide +kernel
theorem d_Ma_fail_18 : decode b_Ma_fail 18 = .ok (.iconst 0, 1) := by decide +kernel
theorem d_Ma_fail_19 : decode b_Ma_fail 19 = .ok (.putfield 201, 3) := by decide +kernel
theorem d_Ma_fail_22 : decode b_Ma_fail 22 = .ok (.return_, 1) := by decide +kernel
theorem kw_1085 : Cond.methodLink R_Ma 197 y_Ma_raise ∈ wA := kinm (show _ ∈ tables_1 from (List.mem_append_right _ (List.mem_append_right _ (List.mem_append_right _ (List.mem_append_right _ (List.mem_append_right _ (List.mem_append_left _ (List.mem_of_getElem? (l := tables_1_6) (i := 221) (by decide +kernel))))))))) (by decide +kernel)
theorem kw_1086 : Cond.instanceMethod y_Ma_fail ∈ wA := kinm (show _ ∈ tables_1 from (List.mem_append_right _ (List.mem_append_right _ (List.mem_append_right _ (List.mem_append_right _ (List.mem_append_right _ (List.mem_append_left _ (List.mem_of_getElem? (l := tables_1_6) (i := 218) (by decide +kernel))))))))) (by decide +kernel)
theorem kw_1087 : Cond.selects R_Ma y_Ma_fail y_Ma_fail ∈ wA := kinm (show _ ∈ tables_1 from (List.mem_append_right _ (List.mem_append_right _ (List.mem_append_right _ (List.mem_append_right _ (List.mem_append_right _ (List.mem_append_left _ (List.mem_of_getElem? (l := tables_1_6) (i := 219) (by decide +kernel))))))))) (by decide +kernel)
theorem cv_Ma_fail : CV y_Ma_fail b_Ma_fail 2 none 1 := ⟨kw_1086, kw_1087, kw_838, k_Ma_fail, by decide +kernel⟩
theorem j_Ma_fail_j19 {X : Cx} {q : PL} (g : Gd X y_Ma_fail b_Ma_fail 2 none 1 23 R_Ma) {o : (Unit) × S1} (hR : Rt X q o.2 none) (k0 : Int32) (s : S1) (ls : Array Slot) (hl : lv_has ls 2 []) (h : M_Ma_fail_j19 k0 s = some o) : WW X q s 19 ls [.int k0, .ref (q.1 128 0)] := by
  unfold M_Ma_fail_j19 at h
  refine ww_ok h fun cz h => ?_
  refine ww_pI (pc := 19) g (k := 17) cl_Ma (pz rfl (by decide)) (by decide) (Or.inl kw_850) rfl (f := 16401) rfl rfl (nz cz) (nzf cz) d_Ma_fail_19 h fun s hs h => ?_
  exact ww_vretH (pc := 22) g h hR d_Ma_fail_22

theorem ct_Ma_fail {l : Launch} {P : PP} {q : PL} {s s' : S1} {l1 : Int32} {r : Unit} (h : M_Ma_fail l1 s = some (r, s')) : Ct l y_Ma_fail b_Ma_fail 2 none 1 23 P q s [.ref (q.1 128 0), .int l1] none q s' := by
  refine ct_of (by decide) (Nat.le_of_ble_eq_true rfl) fun X ls eP el g hR hl => ?_
  subst eP
  have hR : Rt X q ((r, s') : Unit × S1).2 none := hR
  have hl : lv_has ls 2 [(0, .ref (q.1 128 0)), (1, .int l1)] := hl
  generalize (r, s') = o at h hR
  unfold M_Ma_fail at h
  refine ww_aload_n (pc := 0) g.1 d_Ma_fail_0 rfl (lv_at hl 0 rfl) ?_
  refine ww_iconst (pc := 1) g.1 (v := 3) d_Ma_fail_1 (by decide) ?_
  refine ww_iload_n (pc := 2) g.1 d_Ma_fail_2 rfl (lv_at hl 1 rfl) ?_
  refine ww_i2l (pc := 3) g.1 (v := l1.toInt64) d_Ma_fail_3 rfl ?_
  obtain ⟨v4, s, hc4, h⟩ := oB_of h
  refine ww_callV (pc := 4) (rest := []) g cv_Ma_raise (Or.inl kw_1085) cl_Ma (pz rfl (by decide)) (ct_Ma_raise hc4) ⟨by decide, by decide⟩ rfl hl.1 (Nat.le_of_ble_eq_true rfl) d_Ma_fail_4 rfl (?_)
  refine ww_st (st' := []) rfl ?_
  refine ww_aload_n (pc := 7) g.1 d_Ma_fail_7 rfl (lv_at hl 0 rfl) ?_
  refine ww_iload_n (pc := 8) g.1 d_Ma_fail_8 rfl (lv_at hl 1 rfl) ?_
  refine ww_bipush (pc := 9) g.1 (v := 11) d_Ma_fail_9 (by decide) ?_
  refine ww_icmp_ne (pc := 11) (tgt := 18) g.1 d_Ma_fail_11 (by decide) h (fun c h => ?_) (fun c h => ?_)
  · refine ww_iconst (pc := 18) g.1 (v := 0) d_Ma_fail_18 (by decide) ?_
    exact j_Ma_fail_j19 g hR 0 s ls (lv_sub hl [] rfl) h
  · refine ww_iconst (pc := 14) g.1 (v := 1) d_Ma_fail_14 (by decide) ?_
    refine ww_goto (pc := 15) (tgt := 19) g.1 d_Ma_fail_15 (by decide) ?_
    exact j_Ma_fail_j19 g hR 1 s ls (lv_sub hl [] rfl) h

abbrev b_Ta_findEvent : ByteArray := prog_11_method_6_code
def y_Ta_findEvent : MethodName := ⟨R_Ta, "findEvent", "(IJI)I"⟩
abbrev w_Ta_findEvent : List Cond := .code y_Ta_findEvent b_Ta_findEvent 7 (some .int) :: wA
theorem k_Ta_findEvent : Cond.code y_Ta_findEvent b_Ta_findEvent 7 (some .int) ∈ wA := kinm (show _ ∈ tables_1 from (List.mem_append_right _ (List.mem_append_right _ (List.mem_append_right _ (List.mem_append_right _ (List.mem_append_right _ (List.mem_append_right _ (List.mem_append_left _ (List.mem_of_getElem? (l := tables_1_7) (i := 57) (by decide +kernel)))))))))) (by decide +kernel)
theorem d_Ta_findEvent_0 : decode b_Ta_findEvent 0 = .ok (.iload_n 1, 1) := by decide +kernel
theorem d_Ta_findEvent_1 : decode b_Ta_findEvent 1 = .ok (.iconst 5, 1) := by decide +kernel
theorem d_Ta_findEvent_2 : decode b_Ta_findEvent 2 = .ok (.if_icmp .eq 5, 3) := by decide +kernel
theorem d_Ta_findEvent_5 : decode b_Ta_findEvent 5 = .ok (.iconst (-1), 1) := by decide +kernel
theorem d_Ta_findEvent_6 : decode b_Ta_findEvent 6 = .ok (.ireturn, 1) := by decide +kernel
theorem d_Ta_findEvent_7 : decode b_Ta_findEvent 7 = .ok (.aload_n 0, 1) := by decide +kernel
theorem d_Ta_findEvent_8 : decode b_Ta_findEvent 8 = .ok (.getfield 36, 3) := by decide +kernel
theorem d_Ta_findEvent_11 : decode b_Ta_findEvent 11 = .ok (.getfield 50, 3) := by decide +kernel
theorem d_Ta_findEvent_14 : decode b_Ta_findEvent 14 = .ok (.lload_n 2, 1) := by decide +kernel
theorem d_Ta_findEvent_15 : decode b_Ta_findEvent 15 = .ok (.l2i, 1) := by decide +kernel
theorem d_Ta_findEvent_16 : decode b_Ta_findEvent 16 = .ok (.aaload, 1) := by decide +kernel
theorem d_Ta_findEvent_17 : decode b_Ta_findEvent 17 = .ok (.getfield 65, 3) := by decide +kernel
theorem d_Ta_findEvent_20 : decode b_Ta_findEvent 20 = .ok (.istore 5, 2) := by decide +kernel
theorem d_Ta_findEvent_22 : decode b_Ta_findEvent 22 = .ok (.iload 5, 2) := by decide +kernel
theorem d_Ta_findEvent_24 : decode b_Ta_findEvent 24 = .ok (.ifCond .ge 5, 3) := by decide +kernel
theorem d_Ta_findEvent_27 : decode b_Ta_findEvent 27 = .ok (.iconst (-1), 1) := by decide +kernel
theorem d_Ta_findEvent_28 : decode b_Ta_findEvent 28 = .ok (.ireturn, 1) := by decide +kernel
theorem d_Ta_findEvent_29 : decode b_Ta_findEvent 29 = .ok (.aload_n 0, 1) := by decide +kernel
theorem d_Ta_findEvent_30 : decode b_Ta_findEvent 30 = .ok (.iload 5, 2) := by decide +kernel
theorem d_Ta_findEvent_32 : decode b_Ta_findEvent 32 = .ok (.iconst 4, 1) := by decide +kernel
theorem d_Ta_findEvent_33 : decode b_Ta_findEvent 33 = .ok (.aload_n 0, 1) := by decide +kernel
theorem d_Ta_findEvent_34 : decode b_Ta_findEvent 34 = .ok (.getfield 36, 3) := by decide +kernel
theorem d_Ta_findEvent_37 : decode b_Ta_findEvent 37 = .ok (.getfield 79, 3) := by decide +kernel
theorem d_Ta_findEvent_40 : decode b_Ta_findEvent 40 = .ok (.bipush 24, 2) := by decide +kernel
theorem d_Ta_findEvent_42 : decode b_Ta_findEvent 42 = .ok (.iload 4, 2) := by decide +kernel
theorem d_Ta_findEvent_44 : decode b_Ta_findEvent 44 = .ok (.iadd, 1) := by decide +kernel
theorem d_Ta_findEvent_45 : decode b_Ta_findEvent 45 = .ok (.iaload, 1) := by decide +kernel
theorem d_Ta_findEvent_46 : decode b_Ta_findEvent 46 = .ok (.i2l, 1) := by decide +kernel
theorem d_Ta_findEvent_47 : decode b_Ta_findEvent 47 = .ok (.invokevirtual 82, 3) := by decide +kernel
theorem d_Ta_findEvent_50 : decode b_Ta_findEvent 50 = .ok (.istore 6, 2) := by decide +kernel
theorem d_Ta_findEvent_52 : decode b_Ta_findEvent 52 = .ok (.iload 6, 2) := by decide +kernel
theorem d_Ta_findEvent_54 : decode b_Ta_findEvent 54 = .ok (.ifCond .lt 18, 3) := by decide +kernel
theorem d_Ta_findEvent_57 : decode b_Ta_findEvent 57 = .ok (.aload_n 0, 1) := by decide +kernel
theorem d_Ta_findEvent_58 : decode b_Ta_findEvent 58 = .ok (.getfield 20, 3) := by decide +kernel
theorem d_Ta_findEvent_61 : decode b_Ta_findEvent 61 = .ok (.iload 6, 2) := by decide +kernel
theorem d_Ta_findEvent_63 : decode b_Ta_findEvent 63 = .ok (.baload, 1) := by decide +kernel
theorem d_Ta_findEvent_64 : decode b_Ta_findEvent 64 = .ok (.ifCond .eq 8, 3) := by decide +kernel
theorem d_Ta_findEvent_67 : decode b_Ta_findEvent 67 = .ok (.iload 6, 2) := by decide +kernel
theorem d_Ta_findEvent_69 : decode b_Ta_findEvent 69 = .ok (.goto 4, 3) := by decide +kernel
theorem d_Ta_findEvent_72 : decode b_Ta_findEvent 72 = .ok (.iconst (-1), 1) := by decide +kernel
theorem d_Ta_findEvent_73 : decode b_Ta_findEvent 73 = .ok (.ireturn, 1) := by decide +kernel
theorem kw_1088 : Cond.fieldLink R_Ta 65 "LuaMachine$Thing" "metatable" "I" ∈ wA := kinm (show _ ∈ tables_1 from (List.mem_append_right _ (List.mem_append_right _ (List.mem_append_right _ (List.mem_append_right _ (List.mem_append_left _ (List.mem_of_getElem? (l := tables_1_5) (i := 199) (by decide +kernel)))))))) (by decide +kernel)
theorem kw_1089 : Cond.fieldLink R_Ta 79 "LuaMachine$Heap" "names" "[I" ∈ wA := kinm (show _ ∈ tables_1 from (List.mem_append_left _ (List.mem_of_getElem? (l := tables_1_1) (i := 149) (by decide +kernel)))) (by decide +kernel)
theorem kw_1090 : Cond.methodLink R_Ta 82 y_Ta_find ∈ wA := kinm (show _ ∈ tables_1 from (List.mem_append_right _ (List.mem_append_right _ (List.mem_append_right _ (List.mem_append_right _ (List.mem_append_right _ (List.mem_append_left _ (List.mem_of_getElem? (l := tables_1_6) (i := 37) (by decide +kernel))))))))) (by decide +kernel)
theorem kw_1091 : Cond.instanceMethod y_Ta_findEvent ∈ wA := kinm (show _ ∈ tables_1 from (List.mem_append_right _ (List.mem_append_right _ (List.mem_append_right _ (List.mem_append_right _ (List.mem_append_right _ (List.mem_append_right _ (List.mem_append_left _ (List.mem_of_getElem? (l := tables_1_7) (i := 55) (by decide +kernel)))))))))) (by decide +kernel)
theorem kw_1092 : Cond.selects R_Ta y_Ta_findEvent y_Ta_findEvent ∈ wA := kinm (show _ ∈ tables_1 from (List.mem_append_right _ (List.mem_append_right _ (List.mem_append_right _ (List.mem_append_right _ (List.mem_append_right _ (List.mem_append_right _ (List.mem_append_left _ (List.mem_of_getElem? (l := tables_1_7) (i := 56) (by decide +kernel)))))))))) (by decide +kernel)
theorem cv_Ta_findEvent : CV y_Ta_findEvent b_Ta_findEvent 7 (some .int) 3 := ⟨kw_1091, kw_1092, kw_717, k_Ta_findEvent, by decide +kernel⟩
theorem j_Ta_findEvent_j72 {X : Cx} {q : PL} (g : Gd X y_Ta_findEvent b_Ta_findEvent 7 (some .int) 2 51 R_Ta) {o : (Int32) × S1} (hR : Rt X q o.2 (some (.int o.1)))  (s : S1) (ls : Array Slot) (hl : lv_has ls 7 []) (h : M_Ta_findEvent_j72 s = some o) : WW X q s 72 ls [] := by
  unfold M_Ta_findEvent_j72 at h
  refine ww_iconst (pc := 72) g.1 (v := (-1)) d_Ta_findEvent_72 (by decide) ?_
  exact ww_iretH (pc := 73) g h hR d_Ta_findEvent_73

theorem ct_Ta_findEvent {l : Launch} {P : PP} {q : PL} {s s' : S1} {l1 : Int32} {l2 : Int64} {l4 : Int32} {r : Int32} (h : M_Ta_findEvent l1 l2 l4 s = some (r, s')) : Ct l y_Ta_findEvent b_Ta_findEvent 7 (some .int) 2 51 P q s [.ref (q.1 120 0), .int l1, .long l2, .int l4] (some (.int r)) q s' := by
  refine ct_of (by decide) (Nat.le_of_ble_eq_true rfl) fun X ls eP el g hR hl => ?_
  subst eP
  have hR : Rt X q ((r, s') : Int32 × S1).2 (some (.int ((r, s') : Int32 × S1).1)) := hR
  have hl : lv_has ls 7 [(0, .ref (q.1 120 0)), (1, .int l1), (2, .long l2), (4, .int l4)] := hl
  generalize (r, s') = o at h hR
  unfold M_Ta_findEvent at h
  refine ww_iload_n (pc := 0) g.1 d_Ta_findEvent_0 rfl (lv_at hl 1 rfl) ?_
  refine ww_iconst (pc := 1) g.1 (v := 5) d_Ta_findEvent_1 (by decide) ?_
  refine ww_icmp_eq (pc := 2) (tgt := 7) g.1 d_Ta_findEvent_2 (by decide) h (fun c h => ?_) (fun c h => ?_)
  · refine ww_aload_n (pc := 7) g.1 d_Ta_findEvent_7 rfl (lv_at hl 0 rfl) ?_
    refine ww_gR (pc := 8) g (k := 8) cl_Ta (pz rfl (by decide)) (by decide) (Or.inl kw_772) (f := 15368) (t := 111) rfl rfl rfl d_Ta_findEvent_8 ?_
    refine ww_gR (pc := 11) g (k := 0) cl_He (pz rfl (by decide)) (by decide) (Or.inl kw_804) (f := 14208) (t := 112) rfl rfl rfl d_Ta_findEvent_11 ?_
    refine ww_lload_n (pc := 14) g.1 d_Ta_findEvent_14 rfl (lv_at hl 2 rfl) ?_
    refine ww_l2i (pc := 15) g.1 (v := l2.toInt32) d_Ta_findEvent_15 rfl ?_
    refine ww_a8 (pc := 16) g (t := 145) (n := 4000) (pz rfl (by decide)) rfl rfl rfl rfl d_Ta_findEvent_16 h fun pa16 h => ?_
    refine ww_gI (pc := 17) g (k := 14) cl_Tg pa16 (by decide) (Or.inl kw_1088) (f := 18574) rfl rfl d_Ta_findEvent_17 h fun v17 h => ?_
    refine ww_istore (pc := 20) (i := 5) g.1 (lv' := [(5, .int v17), (0, .ref (q.1 120 0)), (1, .int l1), (2, .long l2), (4, .int l4)]) d_Ta_findEvent_20 hl (by decide) rfl fun ls hl => ?_
    refine ww_iload (pc := 22) g.1 d_Ta_findEvent_22 (lv_at hl 0 rfl) ?_
    refine ww_if_ge (pc := 24) (tgt := 29) g.1 d_Ta_findEvent_24 (by decide) h (fun c h => ?_) (fun c h => ?_)
    · refine ww_aload_n (pc := 29) g.1 d_Ta_findEvent_29 rfl (lv_at hl 1 rfl) ?_
      refine ww_iload (pc := 30) g.1 d_Ta_findEvent_30 (lv_at hl 0 rfl) ?_
      refine ww_iconst (pc := 32) g.1 (v := 4) d_Ta_findEvent_32 (by decide) ?_
      refine ww_aload_n (pc := 33) g.1 d_Ta_findEvent_33 rfl (lv_at hl 1 rfl) ?_
      refine ww_gR (pc := 34) g (k := 8) cl_Ta (pz rfl (by decide)) (by decide) (Or.inl kw_772) (f := 15368) (t := 111) rfl rfl rfl d_Ta_findEvent_34 ?_
      refine ww_gR (pc := 37) g (k := 5) cl_He (pz rfl (by decide)) (by decide) (Or.inl kw_1089) (f := 14213) (t := 115) rfl rfl rfl d_Ta_findEvent_37 ?_
      refine ww_bipush (pc := 40) g.1 (v := 24) d_Ta_findEvent_40 (by decide) ?_
      refine ww_iload (pc := 42) g.1 d_Ta_findEvent_42 (lv_at hl 4 rfl) ?_
      refine ww_iadd (pc := 44) g.1 d_Ta_findEvent_44 ?_
      refine ww_ai (pc := 45) g (pz rfl (by decide)) rfl rfl d_Ta_findEvent_45 h fun v45 h => ?_
      refine ww_i2l (pc := 46) g.1 (v := v45.toInt64) d_Ta_findEvent_46 rfl ?_
      obtain ⟨v47, s, hc47, h⟩ := oB_of h
      refine ww_callV (pc := 47) (rest := []) g cv_Ta_find (Or.inl kw_1090) cl_Ta (pz rfl (by decide)) (ct_Ta_find hc47) ⟨by decide, by decide⟩ rfl hl.1 (Nat.le_of_ble_eq_true rfl) d_Ta_findEvent_47 rfl (?_)
      refine ww_st (st' := [.int v47]) rfl ?_
      refine ww_istore (pc := 50) (i := 6) g.1 (lv' := [(6, .int v47), (5, .int v17), (0, .ref (q.1 120 0)), (1, .int l1), (2, .long l2), (4, .int l4)]) d_Ta_findEvent_50 hl (by decide) rfl fun ls hl => ?_
      refine ww_iload (pc := 52) g.1 d_Ta_findEvent_52 (lv_at hl 0 rfl) ?_
      refine ww_if_lt (pc := 54) (tgt := 72) g.1 d_Ta_findEvent_54 (by decide) h (fun c h => ?_) (fun c h => ?_)
      · exact j_Ta_findEvent_j72 g hR s ls (lv_sub hl [] rfl) h
      · refine ww_aload_n (pc := 57) g.1 d_Ta_findEvent_57 rfl (lv_at hl 2 rfl) ?_
        refine ww_gR (pc := 58) g (k := 2) cl_Ta (pz rfl (by decide)) (by decide) (Or.inl kw_797) (f := 15362) (t := 123) rfl rfl rfl d_Ta_findEvent_58 ?_
        refine ww_iload (pc := 61) g.1 d_Ta_findEvent_61 (lv_at hl 0 rfl) ?_
        refine ww_ab (pc := 63) g (pz rfl (by decide)) rfl rfl d_Ta_findEvent_63 h fun v63 h => ?_
        refine ww_if_eq (pc := 64) (tgt := 72) g.1 d_Ta_findEvent_64 (by decide) h (fun c h => ?_) (fun c h => ?_)
        · exact j_Ta_findEvent_j72 g hR s ls (lv_sub hl [] rfl) h
        · refine ww_iload (pc := 67) g.1 d_Ta_findEvent_67 (lv_at hl 0 rfl) ?_
          refine ww_goto (pc := 69) (tgt := 73) g.1 d_Ta_findEvent_69 (by decide) ?_
          exact ww_iretH (pc := 73) g h hR d_Ta_findEvent_73
    · refine ww_iconst (pc := 27) g.1 (v := (-1)) d_Ta_findEvent_27 (by decide) ?_
      exact ww_iretH (pc := 28) g h hR d_Ta_findEvent_28
  · refine ww_iconst (pc := 5) g.1 (v := (-1)) d_Ta_findEvent_5 (by decide) ?_
    exact ww_iretH (pc := 6) g h hR d_Ta_findEvent_6

abbrev b_Ma_callEntry : ByteArray := prog_7_method_11_code
def y_Ma_callEntry : MethodName := ⟨R_Ma, "callEntry", "(IIJIJ)V"⟩
abbrev w_Ma_callEntry : List Cond := .code y_Ma_callEntry b_Ma_callEntry 8 none :: wA
theorem k_Ma_callEntry : Cond.code y_Ma_callEntry b_Ma_callEntry 8 none ∈ wA := kinm (show _ ∈ tables_1 from (List.mem_append_right _ (List.mem_append_right _ (List.mem_append_right _ (List.mem_append_right _ (List.mem_append_right _ (List.mem_append_right _ (List.mem_append_left _ (List.mem_of_getElem? (l := tables_1_7) (i := 62) (by decide +kernel)))))))))) (by decide +kernel)
theorem d_Ma_callEntry_0 : decode b_Ma_callEntry 0 = .ok (.aload_n 0, 1) := by decide +kernel
theorem d_Ma_callEntry_1 : decode b_Ma_callEntry 1 = .ok (.aload_n 0, 1) := by decide +kernel
theorem d_Ma_callEntry_2 : decode b_Ma_callEntry 2 = .ok (.getfield 35, 3) := by decide +kernel
theorem d_Ma_callEntry_5 : decode b_Ma_callEntry 5 = .ok (.getfield 213, 3) := by decide +kernel
theorem d_Ma_callEntry_8 : decode b_Ma_callEntry 8 = .ok (.iload_n 1, 1) := by decide +kernel
theorem d_Ma_callEntry_9 : decode b_Ma_callEntry 9 = .ok (.baload, 1) := by decide +kernel
theorem d_Ma_callEntry_10 : decode b_Ma_callEntry 10 = .ok (.putfield 216, 3) := by decide +kernel
theorem d_Ma_callEntry_13 : decode b_Ma_callEntry 13 = .ok (.aload_n 0, 1) := by decide +kernel
theorem d_Ma_callEntry_14 : decode b_Ma_callEntry 14 = .ok (.aload_n 0, 1) := by decide +kernel
theorem d_Ma_callEntry_15 : decode b_Ma_callEntry 15 = .ok (.getfield 35, 3) := by decide +kernel
theorem d_Ma_callEntry_18 : decode b_Ma_callEntry 18 = .ok (.getfield 219, 3) := by decide +kernel
theorem d_Ma_callEntry_21 : decode b_Ma_callEntry 21 = .ok (.iload_n 1, 1) := by decide +kernel
theorem d_Ma_callEntry_22 : decode b_Ma_callEntry 22 = .ok (.laload, 1) := by decide +kernel
theorem d_Ma_callEntry_23 : decode b_Ma_callEntry 23 = .ok (.putfield 222, 3) := by decide +kernel
theorem d_Ma_callEntry_26 : decode b_Ma_callEntry 26 = .ok (.aload_n 0, 1) := by decide +kernel
theorem d_Ma_callEntry_27 : decode b_Ma_callEntry 27 = .ok (.getfield 12, 3) := by decide +kernel
theorem d_Ma_callEntry_30 : decode b_Ma_callEntry 30 = .ok (.invokevirtual 51, 3) := by decide +kernel
theorem d_Ma_callEntry_33 : decode b_Ma_callEntry 33 = .ok (.aload_n 0, 1) := by decide +kernel
theorem d_Ma_callEntry_34 : decode b_Ma_callEntry 34 = .ok (.getfield 12, 3) := by decide +kernel
theorem d_Ma_callEntry_37 : decode b_Ma_callEntry 37 = .ok (.iload_n 2, 1) := by decide +kernel
theorem d_Ma_callEntry_38 : decode b_Ma_callEntry 38 = .ok (.lload_n 3, 1) := by decide +kernel
theorem d_Ma_callEntry_39 : decode b_Ma_callEntry 39 = .ok (.invokevirtual 210, 3) := by decide +kernel
theorem d_Ma_callEntry_42 : decode b_Ma_callEntry 42 = .ok (.aload_n 0, 1) := by decide +kernel
theorem d_Ma_callEntry_43 : decode b_Ma_callEntry 43 = .ok (.getfield 12, 3) := by decide +kernel
theorem d_Ma_callEntry_46 : decode b_Ma_callEntry 46 = .ok (.iload 5, 2) := by decide +kernel
theorem d_Ma_callEntry_48 : decode b_Ma_callEntry 48 = .ok (.lload 6, 2) := by decide +kernel
theorem d_Ma_callEntry_50 : decode b_Ma_callEntry 50 = .ok (.invokevirtual 210, 3) := by decide +kernel
theorem d_Ma_callEntry_53 : decode b_Ma_callEntry 53 = .ok (.aload_n 0, 1) := by decide +kernel
theorem d_Ma_callEntry_54 : decode b_Ma_callEntry 54 = .ok (.iconst 1, 1) := by decide +kernel
theorem d_Ma_callEntry_55 : decode b_Ma_callEntry 55 = .ok (.putfield 61, 3) := by decide +kernel
theorem d_Ma_callEntry_58 : decode b_Ma_callEntry 58 = .ok (.return_, 1) := by decide +kernel
theorem kw_1093 : Cond.fieldLink R_Ma 35 "LuaMachine$Machine" "tables" "LLuaMachine$Tables;" ∈ wA := kinm (show _ ∈ tables_1 from (List.mem_append_right _ (List.mem_append_left _ (List.mem_of_getElem? (l := tables_1_2) (i := 57) (by decide +kernel))))) (by decide +kernel)
theorem kw_1094 : Cond.fieldLink R_Ma 213 "LuaMachine$Tables" "valueKinds" "[B" ∈ wA := kinm (show _ ∈ tables_1 from (List.mem_append_left _ (List.mem_of_getElem? (l := tables_1_1) (i := 220) (by decide +kernel)))) (by decide +kernel)
theorem kw_1095 : Cond.fieldLink R_Ma 216 "LuaMachine$Machine" "calleeKind" "I" ∈ wA := kinm (show _ ∈ tables_1 from (List.mem_append_right _ (List.mem_append_left _ (List.mem_of_getElem? (l := tables_1_2) (i := 88) (by decide +kernel))))) (by decide +kernel)
theorem kw_1096 : Cond.fieldLink R_Ma 219 "LuaMachine$Tables" "values" "[J" ∈ wA := kinm (show _ ∈ tables_1 from (List.mem_append_left _ (List.mem_of_getElem? (l := tables_1_1) (i := 225) (by decide +kernel)))) (by decide +kernel)
theorem kw_1097 : Cond.fieldLink R_Ma 222 "LuaMachine$Machine" "calleeValue" "J" ∈ wA := kinm (show _ ∈ tables_1 from (List.mem_append_right _ (List.mem_append_left _ (List.mem_of_getElem? (l := tables_1_2) (i := 92) (by decide +kernel))))) (by decide +kernel)
theorem kw_1098 : Cond.fieldLink R_Ma 12 "LuaMachine$Machine" "args" "LLuaMachine$Row;" ∈ wA := kinm (show _ ∈ tables_1 from (List.mem_append_right _ (List.mem_append_left _ (List.mem_of_getElem? (l := tables_1_2) (i := 58) (by decide +kernel))))) (by decide +kernel)
theorem kw_1099 : Cond.instanceMethod y_Ma_callEntry ∈ wA := kinm (show _ ∈ tables_1 from (List.mem_append_right _ (List.mem_append_right _ (List.mem_append_right _ (List.mem_append_right _ (List.mem_append_right _ (List.mem_append_right _ (List.mem_append_left _ (List.mem_of_getElem? (l := tables_1_7) (i := 60) (by decide +kernel)))))))))) (by decide +kernel)
theorem kw_1100 : Cond.selects R_Ma y_Ma_callEntry y_Ma_callEntry ∈ wA := kinm (show _ ∈ tables_1 from (List.mem_append_right _ (List.mem_append_right _ (List.mem_append_right _ (List.mem_append_right _ (List.mem_append_right _ (List.mem_append_right _ (List.mem_append_left _ (List.mem_of_getElem? (l := tables_1_7) (i := 61) (by decide +kernel)))))))))) (by decide +kernel)
theorem cv_Ma_callEntry : CV y_Ma_callEntry b_Ma_callEntry 8 none 5 := ⟨kw_1099, kw_1100, kw_838, k_Ma_callEntry, by decide +kernel⟩
theorem ct_Ma_callEntry {l : Launch} {P : PP} {q : PL} {s s' : S1} {l1 : Int32} {l2 : Int32} {l3 : Int64} {l5 : Int32} {l6 : Int64} {r : Unit} (h : M_Ma_callEntry l1 l2 l3 l5 l6 s = some (r, s')) : Ct l y_Ma_callEntry b_Ma_callEntry 8 none 1 23 P q s [.ref (q.1 128 0), .int l1, .int l2, .long l3, .int l5, .long l6] none q s' := by
  refine ct_of (by decide) (Nat.le_of_ble_eq_true rfl) fun X ls eP el g hR hl => ?_
  subst eP
  have hR : Rt X q ((r, s') : Unit × S1).2 none := hR
  have hl : lv_has ls 8 [(0, .ref (q.1 128 0)), (1, .int l1), (2, .int l2), (3, .long l3), (5, .int l5), (6, .long l6)] := hl
  generalize (r, s') = o at h hR
  unfold M_Ma_callEntry at h
  refine ww_aload_n (pc := 0) g.1 d_Ma_callEntry_0 rfl (lv_at hl 0 rfl) ?_
  refine ww_aload_n (pc := 1) g.1 d_Ma_callEntry_1 rfl (lv_at hl 0 rfl) ?_
  refine ww_gR (pc := 2) g (k := 2) cl_Ma (pz rfl (by decide)) (by decide) (Or.inl kw_1093) (f := 16386) (t := 120) rfl rfl rfl d_Ma_callEntry_2 ?_
  refine ww_gR (pc := 5) g (k := 2) cl_Ta (pz rfl (by decide)) (by decide) (Or.inl kw_1094) (f := 15362) (t := 123) rfl rfl rfl d_Ma_callEntry_5 ?_
  refine ww_iload_n (pc := 8) g.1 d_Ma_callEntry_8 rfl (lv_at hl 1 rfl) ?_
  refine ww_ab (pc := 9) g (pz rfl (by decide)) rfl rfl d_Ma_callEntry_9 h fun v9 h => ?_
  refine ww_pI (pc := 10) g (k := 13) cl_Ma (pz rfl (by decide)) (by decide) (Or.inl kw_1095) rfl (f := 16397) rfl rfl rfl rfl d_Ma_callEntry_10 h fun s hs h => ?_
  refine ww_aload_n (pc := 13) g.1 d_Ma_callEntry_13 rfl (lv_at hl 0 rfl) ?_
  refine ww_aload_n (pc := 14) g.1 d_Ma_callEntry_14 rfl (lv_at hl 0 rfl) ?_
  refine ww_gR (pc := 15) g (k := 2) cl_Ma (pz rfl (by decide)) (by decide) (Or.inl kw_1093) (f := 16386) (t := 120) rfl rfl rfl d_Ma_callEntry_15 ?_
  refine ww_gR (pc := 18) g (k := 3) cl_Ta (pz rfl (by decide)) (by decide) (Or.inl kw_1096) (f := 15363) (t := 124) rfl rfl rfl d_Ma_callEntry_18 ?_
  refine ww_iload_n (pc := 21) g.1 d_Ma_callEntry_21 rfl (lv_at hl 1 rfl) ?_
  refine ww_al (pc := 22) g (pz rfl (by decide)) rfl rfl d_Ma_callEntry_22 h fun v22 h => ?_
  refine ww_pL (pc := 23) g (k := 14) cl_Ma (pz rfl (by decide)) (by decide) (Or.inl kw_1097) rfl (f := 16398) rfl rfl rfl rfl d_Ma_callEntry_23 h fun s hs h => ?_
  refine ww_aload_n (pc := 26) g.1 d_Ma_callEntry_26 rfl (lv_at hl 0 rfl) ?_
  refine ww_gR (pc := 27) g (k := 3) cl_Ma (pz rfl (by decide)) (by decide) (Or.inl kw_1098) (f := 16387) (t := 132) rfl rfl rfl d_Ma_callEntry_27 ?_
  obtain ⟨v30, s, hc30, h⟩ := oB_of h
  refine ww_callV (pc := 30) (rest := []) g cv_Ro_clear (Or.inl kw_1003) (cl_Ro ⟨by decide, rfl⟩) (pz rfl (by decide)) (ct_Ro_clear ⟨by decide, rfl⟩ hc30) ⟨by decide, by decide⟩ rfl hl.1 (Nat.le_of_ble_eq_true rfl) d_Ma_callEntry_30 rfl (?_)
  refine ww_st (st' := []) rfl ?_
  refine ww_aload_n (pc := 33) g.1 d_Ma_callEntry_33 rfl (lv_at hl 0 rfl) ?_
  refine ww_gR (pc := 34) g (k := 3) cl_Ma (pz rfl (by decide)) (by decide) (Or.inl kw_1098) (f := 16387) (t := 132) rfl rfl rfl d_Ma_callEntry_34 ?_
  refine ww_iload_n (pc := 37) g.1 d_Ma_callEntry_37 rfl (lv_at hl 2 rfl) ?_
  refine ww_lload_n (pc := 38) g.1 d_Ma_callEntry_38 rfl (lv_at hl 3 rfl) ?_
  obtain ⟨v39, s, hc39, h⟩ := oB_of h
  refine ww_callV (pc := 39) (rest := []) g cv_Ro_add (Or.inl kw_1004) (cl_Ro ⟨by decide, rfl⟩) (pz rfl (by decide)) (ct_Ro_add ⟨by decide, rfl⟩ hc39) ⟨by decide, by decide⟩ rfl hl.1 (Nat.le_of_ble_eq_true rfl) d_Ma_callEntry_39 rfl (?_)
  refine ww_st (st' := []) rfl ?_
  refine ww_aload_n (pc := 42) g.1 d_Ma_callEntry_42 rfl (lv_at hl 0 rfl) ?_
  refine ww_gR (pc := 43) g (k := 3) cl_Ma (pz rfl (by decide)) (by decide) (Or.inl kw_1098) (f := 16387) (t := 132) rfl rfl rfl d_Ma_callEntry_43 ?_
  refine ww_iload (pc := 46) g.1 d_Ma_callEntry_46 (lv_at hl 4 rfl) ?_
  refine ww_lload (pc := 48) g.1 d_Ma_callEntry_48 (lv_at hl 5 rfl) ?_
  obtain ⟨v50, s, hc50, h⟩ := oB_of h
  refine ww_callV (pc := 50) (rest := []) g cv_Ro_add (Or.inl kw_1004) (cl_Ro ⟨by decide, rfl⟩) (pz rfl (by decide)) (ct_Ro_add ⟨by decide, rfl⟩ hc50) ⟨by decide, by decide⟩ rfl hl.1 (Nat.le_of_ble_eq_true rfl) d_Ma_callEntry_50 rfl (?_)
  refine ww_st (st' := []) rfl ?_
  refine ww_aload_n (pc := 53) g.1 d_Ma_callEntry_53 rfl (lv_at hl 0 rfl) ?_
  refine ww_iconst (pc := 54) g.1 (v := 1) d_Ma_callEntry_54 (by decide) ?_
  refine ww_pI (pc := 55) g (k := 12) cl_Ma (pz rfl (by decide)) (by decide) (Or.inl kw_851) rfl (f := 16396) rfl rfl rfl rfl d_Ma_callEntry_55 h fun s hs h => ?_
  exact ww_vretH (pc := 58) g h hR d_Ma_callEntry_58

abbrev b_St_read : ByteArray := prog_10_method_12_code
def y_St_read : MethodName := ⟨R_St, "read", "(IJIJ)V"⟩
abbrev w_St_read : List Cond := .code y_St_read b_St_read 13 none :: wA
set_option maxRecDepth 20000 in
theorem k_St_read : Cond.code y_St_read b_St_read 13 none ∈ wA := kinm (show _ ∈ tables_1 from (List.mem_append_right _ (List.mem_append_right _ (List.mem_append_right _ (List.mem_append_right _ (List.mem_append_right _ (List.mem_append_right _ (List.mem_append_left _ (List.mem_of_getElem? (l := tables_1_7) (i := 98) rfl))))))))) rfl
theorem d_St_read_0 : decode b_St_read 0 = .ok (.iload_n 1, 1) := by decide +kernel
theorem d_St_read_1 : decode b_St_read 1 = .ok (.istore 7, 2) := by decide +kernel
theorem d_St_read_3 : decode b_St_read 3 = .ok (.lload_n 2, 1) := by decide +kernel
theorem d_St_read_4 : decode b_St_read 4 = .ok (.lstore 8, 2) := by decide +kernel
theorem d_St_read_6 : decode b_St_read 6 = .ok (.iconst 0, 1) := by decide +kernel
theorem d_St_read_7 : decode b_St_read 7 = .ok (.istore 10, 2) := by decide +kernel
theorem d_St_read_9 : decode b_St_read 9 = .ok (.iload 10, 2) := by decide +kernel
theorem d_St_read_11 : decode b_St_read 11 = .ok (.bipush 100, 2) := by decide +kernel
theorem d_St_read_13 : decode b_St_read 13 = .ok (.if_icmp .ge 174, 3) := by decide +kernel
theorem d_St_read_16 : decode b_St_read 16 = .ok (.iload 7, 2) := by decide +kernel
theorem d_St_read_18 : decode b_St_read 18 = .ok (.iconst 5, 1) := by decide +kernel
theorem d_St_read_19 : decode b_St_read 19 = .ok (.if_icmp .eq 12, 3) := by decide +kernel
theorem d_St_read_22 : decode b_St_read 22 = .ok (.aload_n 0, 1) := by decide +kernel
theorem d_St_read_23 : decode b_St_read 23 = .ok (.getfield 9, 3) := by decide +kernel
theorem d_St_read_26 : decode b_St_read 26 = .ok (.iconst 2, 1) := by decide +kernel
theorem d_St_read_27 : decode b_St_read 27 = .ok (.invokevirtual 193, 3) := by decide +kernel
theorem d_St_read_30 : decode b_St_read 30 = .ok (.return_, 1) := by decide +kernel
theorem d_St_read_31 : decode b_St_read 31 = .ok (.aload_n 0, 1) := by decide +kernel
theorem d_St_read_32 : decode b_St_read 32 = .ok (.getfield 26, 3) := by decide +kernel
theorem d_St_read_35 : decode b_St_read 35 = .ok (.lload 8, 2) := by decide +kernel
theorem d_St_read_37 : decode b_St_read 37 = .ok (.l2i, 1) := by decide +kernel
theorem d_St_read_38 : decode b_St_read 38 = .ok (.iload 4, 2) := by decide +kernel
theorem d_St_read_40 : decode b_St_read 40 = .ok (.lload 5, 2) := by decide +kernel
theorem d_St_read_42 : decode b_St_read 42 = .ok (.invokevirtual 197, 3) := by decide +kernel
theorem d_St_read_45 : decode b_St_read 45 = .ok (.istore 11, 2) := by decide +kernel
theorem d_St_read_47 : decode b_St_read 47 = .ok (.iload 11, 2) := by decide +kernel
theorem d_St_read_49 : decode b_St_read 49 = .ok (.ifCond .lt 45, 3) := by decide +kernel
theorem d_St_read_52 : decode b_St_read 52 = .ok (.aload_n 0, 1) := by decide +kernel
theorem d_St_read_53 : decode b_St_read 53 = .ok (.getfield 26, 3) := by decide +kernel
theorem d_St_read_56 : decode b_St_read 56 = .ok (.getfield 201, 3) := by decide +kernel
theorem d_St_read_59 : decode b_St_read 59 = .ok (.iload 11, 2) := by decide +kernel
theorem d_St_read_61 : decode b_St_read 61 = .ok (.baload, 1) := by decide +kernel
theorem d_St_read_62 : decode b_St_read 62 = .ok (.ifCond .eq 32, 3) := by decide +kernel
theorem d_St_read_65 : decode b_St_read 65 = .ok (.aload_n 0, 1) := by decide +kernel
theorem d_St_read_66 : decode b_St_read 66 = .ok (.aload_n 0, 1) := by decide +kernel
theorem d_St_read_67 : decode b_St_read 67 = .ok (.getfield 57, 3) := by decide +kernel
theorem d_St_read_70 : decode b_St_read 70 = .ok (.aload_n 0, 1) := by decide +kernel
theorem d_St_read_71 : decode b_St_read 71 = .ok (.getfield 26, 3) := by decide +kernel
theorem d_St_read_74 : decode b_St_read 74 = .ok (.getfield 201, 3) := by decide +kernel
theorem d_St_read_77 : decode b_St_read 77 = .ok (.iload 11, 2) := by decide +kernel
theorem d_St_read_79 : decode b_St_read 79 = .ok (.baload, 1) := by decide +kernel
theorem d_St_read_80 : decode b_St_read 80 = .ok (.aload_n 0, 1) := by decide +kernel
theorem d_St_read_81 : decode b_St_read 81 = .ok (.getfield 26, 3) := by decide +kernel
theorem d_St_read_84 : decode b_St_read 84 = .ok (.getfield 204, 3) := by decide +kernel
theorem d_St_read_87 : decode b_St_read 87 = .ok (.iload 11, 2) := by decide +kernel
theorem d_St_read_89 : decode b_St_read 89 = .ok (.laload, 1) := by decide +kernel
theorem d_St_read_90 : decode b_St_read 90 = .ok (.invokevirtual 176, 3) := by decide +kernel
theorem d_St_read_93 : decode b_St_read 93 = .ok (.return_, 1) := by decide +kernel
theorem d_St_read_94 : decode b_St_read 94 = .ok (.aload_n 0, 1) := by decide +kernel
theorem d_St_read_95 : decode b_St_read 95 = .ok (.getfield 26, 3) := by decide +kernel
theorem d_St_read_98 : decode b_St_read 98 = .ok (.iload 7, 2) := by decide +kernel
theorem d_St_read_100 : decode b_St_read 100 = .ok (.lload 8, 2) := by decide +kernel
theorem d_St_read_102 : decode b_St_read 102 = .ok (.iconst 0, 1) := by decide +kernel
theorem d_St_read_103 : decode b_St_read 103 = .ok (.invokevirtual 205, 3) := by decide +kernel
theorem d_St_read_106 : decode b_St_read 106 = .ok (.istore 12, 2) := by decide +kernel
theorem d_St_read_108 : decode b_St_read 108 = .ok (.iload 12, 2) := by decide +kernel
theorem d_St_read_110 : decode b_St_read 110 = .ok (.ifCond .ge 14, 3) := by decide +kernel
theorem d_St_read_113 : decode b_St_read 113 = .ok (.aload_n 0, 1) := by decide +kernel
theorem d_St_read_114 : decode b_St_read 114 = .ok (.aload_n 0, 1) := by decide +kernel
theorem d_St_read_115 : decode b_St_read 115 = .ok (.getfield 57, 3) := by decide +kernel
theorem d_St_read_118 : decode b_St_read 118 = .ok (.iconst 0, 1) := by decide +kernel
theorem d_St_read_119 : decode b_St_read 119 = .ok (.lconst 0, 1) := by decide +kernel
theorem d_St_read_120 : decode b_St_read 120 = .ok (.invokevirtual 176, 3) := by decide +kernel
theorem d_St_read_123 : decode b_St_read 123 = .ok (.return_, 1) := by decide +kernel
theorem d_St_read_124 : decode b_St_read 124 = .ok (.aload_n 0, 1) := by decide +kernel
theorem d_St_read_125 : decode b_St_read 125 = .ok (.getfield 26, 3) := by decide +kernel
theorem d_St_read_128 : decode b_St_read 128 = .ok (.getfield 201, 3) := by decide +kernel
theorem d_St_read_131 : decode b_St_read 131 = .ok (.iload 12, 2) := by decide +kernel
theorem d_St_read_133 : decode b_St_read 133 = .ok (.baload, 1) := by decide +kernel
theorem d_St_read_134 : decode b_St_read 134 = .ok (.bipush 6, 2) := by decide +kernel
theorem d_St_read_136 : decode b_St_read 136 = .ok (.if_icmp .ne 21, 3) := by decide +kernel
theorem d_St_read_139 : decode b_St_read 139 = .ok (.aload_n 0, 1) := by decide +kernel
theorem d_St_read_140 : decode b_St_read 140 = .ok (.getfield 9, 3) := by decide +kernel
theorem d_St_read_143 : decode b_St_read 143 = .ok (.iload 12, 2) := by decide +kernel
theorem d_St_read_145 : decode b_St_read 145 = .ok (.iload 7, 2) := by decide +kernel
theorem d_St_read_147 : decode b_St_read 147 = .ok (.lload 8, 2) := by decide +kernel
theorem d_St_read_149 : decode b_St_read 149 = .ok (.iload 4, 2) := by decide +kernel
theorem d_St_read_151 : decode b_St_read 151 = .ok (.lload 5, 2) := by decide +kernel
theorem d_St_read_153 : decode b_St_read 153 = .ok (.invokevirtual 209, 3) := by decide +kernel
theorem d_St_read_156 : decode b_St_read 156 = .ok (.return_, 1) := by decide +kernel
theorem d_St_read_157 : decode b_St_read 157 = .ok (.aload_n 0, 1) := by decide +kernel
theorem d_St_read_158 : decode b_St_read 158 = .ok (.getfield 26, 3) := by decide +kernel
theorem d_St_read_161 : decode b_St_read 161 = .ok (.getfield 201, 3) := by decide +kernel
theorem d_St_read_164 : decode b_St_read 164 = .ok (.iload 12, 2) := by decide +kernel
theorem d_St_read_166 : decode b_St_read 166 = .ok (.baload, 1) := by decide +kernel
theorem d_St_read_167 : decode b_St_read 167 = .ok (.istore 7, 2) := by decide +kernel
theorem d_St_read_169 : decode b_St_read 169 = .ok (.aload_n 0, 1) := by decide +kernel
theorem d_St_read_170 : decode b_St_read 170 = .ok (.getfield 26, 3) := by decide +kernel
theorem d_St_read_173 : decode b_St_read 173 = .ok (.getfield 204, 3) := by decide +kernel
theorem d_St_read_176 : decode b_St_read 176 = .ok (.iload 12, 2) := by decide +kernel
theorem d_St_read_178 : decode b_St_read 178 = .ok (.laload, 1) := by decide +kernel
theorem d_St_read_179 : decode b_St_read 179 = .ok (.lstore 8, 2) := by decide +kernel
theorem d_St_read_181 : decode b_St_read 181 = .ok (.iinc 10 1, 3) := by decide +kernel
theorem d_St_read_184 : decode b_St_read 184 = .ok (.goto (-175), 3) := by decide +kernel
theorem d_St_read_187 : decode b_St_read 187 = .ok (.aload_n 0, 1) := by decide +kernel
theorem d_St_read_188 : decode b_St_read 188 = .ok (.getfield 9, 3) := by decide +kernel
theorem d_St_read_191 : decode b_St_read 191 = .ok (.iconst 4, 1) := by decide +kernel
theorem d_St_read_192 : decode b_St_read 192 = .ok (.invokevirtual 193, 3) := by decide +kernel
theorem d_St_read_195 : decode b_St_read 195 = .ok (.return_, 1) := by decide +kernel
theorem kw_1101 : Cond.fieldLink R_St 26 "LuaMachine$Steps" "tables" "LLuaMachine$Tables;" ∈ wA := kinm (show _ ∈ tables_1 from (List.mem_append_right _ (List.mem_append_left _ (List.mem_of_getElem? (l := tables_1_2) (i := 142) (by decide +kernel))))) (by decide +kernel)
theorem kw_1102 : Cond.methodLink R_St 197 y_Ta_find ∈ wA := kinm (show _ ∈ tables_1 from (List.mem_append_right _ (List.mem_append_right _ (List.mem_append_right _ (List.mem_append_right _ (List.mem_append_right _ (List.mem_append_right _ (List.mem_append_left _ (List.mem_of_getElem? (l := tables_1_7) (i := 53) (by decide +kernel)))))))))) (by decide +kernel)
theorem kw_1103 : Cond.methodLink R_St 205 y_Ta_findEvent ∈ wA := kinm (show _ ∈ tables_1 from (List.mem_append_right _ (List.mem_append_right _ (List.mem_append_right _ (List.mem_append_right _ (List.mem_append_right _ (List.mem_append_right _ (List.mem_append_left _ (List.mem_of_getElem? (l := tables_1_7) (i := 54) (by decide +kernel)))))))))) (by decide +kernel)
theorem kw_1104 : Cond.fieldLink R_St 201 "LuaMachine$Tables" "valueKinds" "[B" ∈ wA := kinm (show _ ∈ tables_1 from (List.mem_append_left _ (List.mem_of_getElem? (l := tables_1_1) (i := 221) (by decide +kernel)))) (by decide +kernel)
theorem kw_1105 : Cond.fieldLink R_St 204 "LuaMachine$Tables" "values" "[J" ∈ wA := kinm (show _ ∈ tables_1 from (List.mem_append_left _ (List.mem_of_getElem? (l := tables_1_1) (i := 226) (by decide +kernel)))) (by decide +kernel)
theorem kw_1106 : Cond.methodLink R_St 193 y_Ma_fail ∈ wA := kinm (show _ ∈ tables_1 from (List.mem_append_right _ (List.mem_append_right _ (List.mem_append_right _ (List.mem_append_right _ (List.mem_append_right _ (List.mem_append_right _ (List.mem_append_left _ (List.mem_of_getElem? (l := tables_1_7) (i := 44) (by decide +kernel)))))))))) (by decide +kernel)
theorem kw_1107 : Cond.methodLink R_St 209 y_Ma_callEntry ∈ wA := kinm (show _ ∈ tables_1 from (List.mem_append_right _ (List.mem_append_right _ (List.mem_append_right _ (List.mem_append_right _ (List.mem_append_right _ (List.mem_append_right _ (List.mem_append_left _ (List.mem_of_getElem? (l := tables_1_7) (i := 59) (by decide +kernel)))))))))) (by decide +kernel)
theorem kw_1108 : Cond.instanceMethod y_St_read ∈ wA := kinm (show _ ∈ tables_1 from (List.mem_append_right _ (List.mem_append_right _ (List.mem_append_right _ (List.mem_append_right _ (List.mem_append_right _ (List.mem_append_right _ (List.mem_append_left _ (List.mem_of_getElem? (l := tables_1_7) (i := 97) (by decide +kernel)))))))))) (by decide +kernel)
theorem kw_1109 : Cond.selects R_St y_St_read y_St_read ∈ wA := kinp 46 (by decide +kernel) (by decide +kernel)
theorem cv_St_read : CV y_St_read b_St_read 13 none 4 := ⟨kw_1108, kw_1109, kw_883, k_St_read, by decide +kernel⟩
theorem j_St_read_j94 {X : Cx} {q : PL} (g : Gd X y_St_read b_St_read 13 none 3 77 R_St) {o : ((Int32 × Int64 × Int32 × Int64 × Int32) ⊕ ((Unit) ⊕ (Int32) ⊕ (Unit) ⊕ (Int32 × Int64 × Int32 × Int64 × Int32) ⊕ (Unit))) × S1} (hR : (Sum.elim (fun y : Int32 × Int64 × Int32 × Int64 × Int32 => ∀ ls : Array Slot, lv_has ls 13 [(0, .ref (q.1 129 0)), (4, .int y.1), (5, .long y.2.1), (7, .int y.2.2.1), (8, .long y.2.2.2.1), (10, .int y.2.2.2.2)] → WW X q o.2 9 ls []) (Sum.elim (fun y : Unit => ∀ ls : Array Slot, lv_has ls 13 [(0, .ref (q.1 129 0))] → WW X q o.2 22 ls []) (Sum.elim (fun y : Int32 => ∀ ls : Array Slot, lv_has ls 13 [(0, .ref (q.1 129 0)), (11, .int y)] → WW X q o.2 65 ls []) (Sum.elim (fun y : Unit => ∀ ls : Array Slot, lv_has ls 13 [(0, .ref (q.1 129 0))] → WW X q o.2 113 ls []) (Sum.elim (fun y : Int32 × Int64 × Int32 × Int64 × Int32 => ∀ ls : Array Slot, lv_has ls 13 [(0, .ref (q.1 129 0)), (4, .int y.1), (5, .long y.2.1), (7, .int y.2.2.1), (8, .long y.2.2.2.1), (12, .int y.2.2.2.2)] → WW X q o.2 139 ls []) (fun y : Unit => ∀ ls : Array Slot, lv_has ls 13 [(0, .ref (q.1 129 0))] → WW X q o.2 187 ls []))))) o.1)) (l4 : Int32) (l5 : Int64) (l7 : Int32) (l8 : Int64) (l10 : Int32) (s : S1) (ls : Array Slot) (hl : lv_has ls 13 [(0, .ref (q.1 129 0)), (4, .int l4), (5, .long l5), (7, .int l7), (8, .long l8), (10, .int l10)]) (h : M_St_read_j94 l4 l5 l7 l8 l10 s = some o) : WW X q s 94 ls [] := by
  unfold M_St_read_j94 at h
  refine ww_aload_n (pc := 94) g.1 d_St_read_94 rfl (lv_at hl 0 rfl) ?_
  refine ww_gR (pc := 95) g (k := 2) cl_St (pz rfl (by decide)) (by decide) (Or.inl kw_1101) (f := 16514) (t := 120) rfl rfl rfl d_St_read_95 ?_
  refine ww_iload (pc := 98) g.1 d_St_read_98 (lv_at hl 3 rfl) ?_
  refine ww_lload (pc := 100) g.1 d_St_read_100 (lv_at hl 4 rfl) ?_
  refine ww_iconst (pc := 102) g.1 (v := 0) d_St_read_102 (by decide) ?_
  obtain ⟨v103, s, hc103, h⟩ := oB_of h
  refine ww_callV (pc := 103) (rest := []) g cv_Ta_findEvent (Or.inl kw_1103) cl_Ta (pz rfl (by decide)) (ct_Ta_findEvent hc103) ⟨by decide, by decide⟩ rfl hl.1 (Nat.le_of_ble_eq_true rfl) d_St_read_103 rfl (?_)
  refine ww_st (st' := [.int v103]) rfl ?_
  refine ww_istore (pc := 106) (i := 12) g.1 (lv' := [(12, .int v103), (0, .ref (q.1 129 0)), (4, .int l4), (5, .long l5), (7, .int l7), (8, .long l8), (10, .int l10)]) d_St_read_106 hl (by decide) rfl fun ls hl => ?_
  refine ww_iload (pc := 108) g.1 d_St_read_108 (lv_at hl 0 rfl) ?_
  refine ww_if_ge (pc := 110) (tgt := 124) g.1 d_St_read_110 (by decide) h (fun c h => ?_) (fun c h => ?_)
  · refine ww_aload_n (pc := 124) g.1 d_St_read_124 rfl (lv_at hl 1 rfl) ?_
    refine ww_gR (pc := 125) g (k := 2) cl_St (pz rfl (by decide)) (by decide) (Or.inl kw_1101) (f := 16514) (t := 120) rfl rfl rfl d_St_read_125 ?_
    refine ww_gR (pc := 128) g (k := 2) cl_Ta (pz rfl (by decide)) (by decide) (Or.inl kw_1104) (f := 15362) (t := 123) rfl rfl rfl d_St_read_128 ?_
    refine ww_iload (pc := 131) g.1 d_St_read_131 (lv_at hl 0 rfl) ?_
    refine ww_ab (pc := 133) g (pz rfl (by decide)) rfl rfl d_St_read_133 h fun v133 h => ?_
    refine ww_bipush (pc := 134) g.1 (v := 6) d_St_read_134 (by decide) ?_
    refine ww_icmp_ne (pc := 136) (tgt := 157) g.1 d_St_read_136 (by decide) h (fun c h => ?_) (fun c h => ?_)
    · refine ww_aload_n (pc := 157) g.1 d_St_read_157 rfl (lv_at hl 1 rfl) ?_
      refine ww_gR (pc := 158) g (k := 2) cl_St (pz rfl (by decide)) (by decide) (Or.inl kw_1101) (f := 16514) (t := 120) rfl rfl rfl d_St_read_158 ?_
      refine ww_gR (pc := 161) g (k := 2) cl_Ta (pz rfl (by decide)) (by decide) (Or.inl kw_1104) (f := 15362) (t := 123) rfl rfl rfl d_St_read_161 ?_
      refine ww_iload (pc := 164) g.1 d_St_read_164 (lv_at hl 0 rfl) ?_
      refine ww_ab (pc := 166) g (pz rfl (by decide)) rfl rfl d_St_read_166 h fun v166 h => ?_
      refine ww_istore (pc := 167) (i := 7) g.1 (lv' := [(7, .int v166), (12, .int v103), (0, .ref (q.1 129 0)), (4, .int l4), (5, .long l5), (8, .long l8), (10, .int l10)]) d_St_read_167 hl (by decide) rfl fun ls hl => ?_
      refine ww_aload_n (pc := 169) g.1 d_St_read_169 rfl (lv_at hl 2 rfl) ?_
      refine ww_gR (pc := 170) g (k := 2) cl_St (pz rfl (by decide)) (by decide) (Or.inl kw_1101) (f := 16514) (t := 120) rfl rfl rfl d_St_read_170 ?_
      refine ww_gR (pc := 173) g (k := 3) cl_Ta (pz rfl (by decide)) (by decide) (Or.inl kw_1105) (f := 15363) (t := 124) rfl rfl rfl d_St_read_173 ?_
      refine ww_iload (pc := 176) g.1 d_St_read_176 (lv_at hl 1 rfl) ?_
      refine ww_al (pc := 178) g (pz rfl (by decide)) rfl rfl d_St_read_178 h fun v178 h => ?_
      refine ww_lstore (pc := 179) (i := 8) g.1 (lv' := [(8, .long v178), (7, .int v166), (12, .int v103), (0, .ref (q.1 129 0)), (4, .int l4), (5, .long l5), (10, .int l10)]) d_St_read_179 hl (by decide) rfl fun ls hl => ?_
      refine ww_iinc (pc := 181) g.1 (v := l10 + 1) (lv' := [(10, .int (l10 + 1)), (8, .long v178), (7, .int v166), (12, .int v103), (0, .ref (q.1 129 0)), (4, .int l4), (5, .long l5)]) d_St_read_181 hl (k := 6) rfl (by rfl) (by decide) rfl fun ls hl => ?_
      refine ww_goto (pc := 184) (tgt := 9) g.1 d_St_read_184 (by decide) ?_
      rw [oR_eq h] at hR
      exact hR ls (lv_sub hl [4, 5, 6, 2, 1, 0] rfl)
    · rw [oR_eq h] at hR
      exact hR ls (lv_sub hl [1, 2, 3, 4, 5, 0] rfl)
  · rw [oR_eq h] at hR
    exact hR ls (lv_sub hl [1] rfl)

theorem lp_St_read_L9 {X : Cx} {q : PL} (g : Gd X y_St_read b_St_read 13 none 3 77 R_St) (x : Int32 × Int64 × Int32 × Int64 × Int32) (s : S1) (o : ((Int32 × Int64 × Int32 × Int64 × Int32) ⊕ ((Unit) ⊕ (Int32) ⊕ (Unit) ⊕ (Int32 × Int64 × Int32 × Int64 × Int32) ⊕ (Unit))) × S1) (h : M_St_read_L9 x s = some o) (hR : (Sum.elim (fun y : Int32 × Int64 × Int32 × Int64 × Int32 => ∀ ls : Array Slot, lv_has ls 13 [(0, .ref (q.1 129 0)), (4, .int y.1), (5, .long y.2.1), (7, .int y.2.2.1), (8, .long y.2.2.2.1), (10, .int y.2.2.2.2)] → WW X q o.2 9 ls []) (Sum.elim (fun y : Unit => ∀ ls : Array Slot, lv_has ls 13 [(0, .ref (q.1 129 0))] → WW X q o.2 22 ls []) (Sum.elim (fun y : Int32 => ∀ ls : Array Slot, lv_has ls 13 [(0, .ref (q.1 129 0)), (11, .int y)] → WW X q o.2 65 ls []) (Sum.elim (fun y : Unit => ∀ ls : Array Slot, lv_has ls 13 [(0, .ref (q.1 129 0))] → WW X q o.2 113 ls []) (Sum.elim (fun y : Int32 × Int64 × Int32 × Int64 × Int32 => ∀ ls : Array Slot, lv_has ls 13 [(0, .ref (q.1 129 0)), (4, .int y.1), (5, .long y.2.1), (7, .int y.2.2.1), (8, .long y.2.2.2.1), (12, .int y.2.2.2.2)] → WW X q o.2 139 ls []) (fun y : Unit => ∀ ls : Array Slot, lv_has ls 13 [(0, .ref (q.1 129 0))] → WW X q o.2 187 ls []))))) o.1)) : ∀ ls : Array Slot, lv_has ls 13 [(0, .ref (q.1 129 0)), (4, .int x.1), (5, .long x.2.1), (7, .int x.2.2.1), (8, .long x.2.2.2.1), (10, .int x.2.2.2.2)] → WW X q s 9 ls [] := by
  intro ls hl
  unfold M_St_read_L9 at h
  refine ww_iload (pc := 9) g.1 d_St_read_9 (lv_at hl 5 rfl) ?_
  refine ww_bipush (pc := 11) g.1 (v := 100) d_St_read_11 (by decide) ?_
  refine ww_icmp_ge (pc := 13) (tgt := 187) g.1 d_St_read_13 (by decide) h (fun c h => ?_) (fun c h => ?_)
  · rw [oR_eq h] at hR
    exact hR ls (lv_sub hl [0] rfl)
  · refine ww_iload (pc := 16) g.1 d_St_read_16 (lv_at hl 3 rfl) ?_
    refine ww_iconst (pc := 18) g.1 (v := 5) d_St_read_18 (by decide) ?_
    refine ww_icmp_eq (pc := 19) (tgt := 31) g.1 d_St_read_19 (by decide) h (fun c h => ?_) (fun c h => ?_)
    · refine ww_aload_n (pc := 31) g.1 d_St_read_31 rfl (lv_at hl 0 rfl) ?_
      refine ww_gR (pc := 32) g (k := 2) cl_St (pz rfl (by decide)) (by decide) (Or.inl kw_1101) (f := 16514) (t := 120) rfl rfl rfl d_St_read_32 ?_
      refine ww_lload (pc := 35) g.1 d_St_read_35 (lv_at hl 4 rfl) ?_
      refine ww_l2i (pc := 37) g.1 (v := x.2.2.2.1.toInt32) d_St_read_37 rfl ?_
      refine ww_iload (pc := 38) g.1 d_St_read_38 (lv_at hl 1 rfl) ?_
      refine ww_lload (pc := 40) g.1 d_St_read_40 (lv_at hl 2 rfl) ?_
      obtain ⟨v42, s, hc42, h⟩ := oB_of h
      refine ww_callV (pc := 42) (rest := []) g cv_Ta_find (Or.inl kw_1102) cl_Ta (pz rfl (by decide)) (ct_Ta_find hc42) ⟨by decide, by decide⟩ rfl hl.1 (Nat.le_of_ble_eq_true rfl) d_St_read_42 rfl (?_)
      refine ww_st (st' := [.int v42]) rfl ?_
      refine ww_istore (pc := 45) (i := 11) g.1 (lv' := [(11, .int v42), (0, .ref (q.1 129 0)), (4, .int x.1), (5, .long x.2.1), (7, .int x.2.2.1), (8, .long x.2.2.2.1), (10, .int x.2.2.2.2)]) d_St_read_45 hl (by decide) rfl fun ls hl => ?_
      refine ww_iload (pc := 47) g.1 d_St_read_47 (lv_at hl 0 rfl) ?_
      refine ww_if_lt (pc := 49) (tgt := 94) g.1 d_St_read_49 (by decide) h (fun c h => ?_) (fun c h => ?_)
      · exact j_St_read_j94 g hR x.1 x.2.1 x.2.2.1 x.2.2.2.1 x.2.2.2.2 s ls (lv_sub hl [1, 2, 3, 4, 5, 6] rfl) h
      · refine ww_aload_n (pc := 52) g.1 d_St_read_52 rfl (lv_at hl 1 rfl) ?_
        refine ww_gR (pc := 53) g (k := 2) cl_St (pz rfl (by decide)) (by decide) (Or.inl kw_1101) (f := 16514) (t := 120) rfl rfl rfl d_St_read_53 ?_
        refine ww_gR (pc := 56) g (k := 2) cl_Ta (pz rfl (by decide)) (by decide) (Or.inl kw_1104) (f := 15362) (t := 123) rfl rfl rfl d_St_read_56 ?_
        refine ww_iload (pc := 59) g.1 d_St_read_59 (lv_at hl 0 rfl) ?_
        refine ww_ab (pc := 61) g (pz rfl (by decide)) rfl rfl d_St_read_61 h fun v61 h => ?_
        refine ww_if_eq (pc := 62) (tgt := 94) g.1 d_St_read_62 (by decide) h (fun c h => ?_) (fun c h => ?_)
        · exact j_St_read_j94 g hR x.1 x.2.1 x.2.2.1 x.2.2.2.1 x.2.2.2.2 s ls (lv_sub hl [1, 2, 3, 4, 5, 6] rfl) h
        · rw [oR_eq h] at hR
          exact hR ls (lv_sub hl [1, 0] rfl)
    · rw [oR_eq h] at hR
      exact hR ls (lv_sub hl [0] rfl)

theorem ct_St_read {l : Launch} {P : PP} {q : PL} {s s' : S1} {l1 : Int32} {l2 : Int64} {l4 : Int32} {l5 : Int64} {r : Unit} (h : M_St_read l1 l2 l4 l5 s = some (r, s')) : Ct l y_St_read b_St_read 13 none 3 77 P q s [.ref (q.1 129 0), .int l1, .long l2, .int l4, .long l5] none q s' := by
  refine ct_of (by decide) (Nat.le_of_ble_eq_true rfl) fun X ls eP el g hR hl => ?_
  subst eP
  have hR : Rt X q ((r, s') : Unit × S1).2 none := hR
  have hl : lv_has ls 13 [(0, .ref (q.1 129 0)), (1, .int l1), (2, .long l2), (4, .int l4), (5, .long l5)] := hl
  generalize (r, s') = o at h hR
  unfold M_St_read at h
  refine ww_iload_n (pc := 0) g.1 d_St_read_0 rfl (lv_at hl 1 rfl) ?_
  refine ww_istore (pc := 1) (i := 7) g.1 (lv' := [(7, .int l1), (0, .ref (q.1 129 0)), (1, .int l1), (2, .long l2), (4, .int l4), (5, .long l5)]) d_St_read_1 hl (by decide) rfl fun ls hl => ?_
  refine ww_lload_n (pc := 3) g.1 d_St_read_3 rfl (lv_at hl 3 rfl) ?_
  refine ww_lstore (pc := 4) (i := 8) g.1 (lv' := [(8, .long l2), (7, .int l1), (0, .ref (q.1 129 0)), (1, .int l1), (2, .long l2), (4, .int l4), (5, .long l5)]) d_St_read_4 hl (by decide) rfl fun ls hl => ?_
  refine ww_iconst (pc := 6) g.1 (v := 0) d_St_read_6 (by decide) ?_
  refine ww_istore (pc := 7) (i := 10) g.1 (lv' := [(10, .int 0), (8, .long l2), (7, .int l1), (0, .ref (q.1 129 0)), (1, .int l1), (2, .long l2), (4, .int l4), (5, .long l5)]) d_St_read_7 hl (by decide) rfl fun ls hl => ?_
  obtain ⟨e9, s1, hw, h⟩ := oB_of h
  refine oW_rule (Wh := fun (x : Int32 × Int64 × Int32 × Int64 × Int32) (s : S1) => ∀ ls : Array Slot, lv_has ls 13 [(0, .ref (q.1 129 0)), (4, .int x.1), (5, .long x.2.1), (7, .int x.2.2.1), (8, .long x.2.2.2.1), (10, .int x.2.2.2.2)] → WW X q s 9 ls []) (We := fun (e : (Unit) ⊕ (Int32) ⊕ (Unit) ⊕ (Int32 × Int64 × Int32 × Int64 × Int32) ⊕ (Unit)) (s : S1) => (Sum.elim (fun y : Unit => ∀ ls : Array Slot, lv_has ls 13 [(0, .ref (q.1 129 0))] → WW X q s 22 ls []) (Sum.elim (fun y : Int32 => ∀ ls : Array Slot, lv_has ls 13 [(0, .ref (q.1 129 0)), (11, .int y)] → WW X q s 65 ls []) (Sum.elim (fun y : Unit => ∀ ls : Array Slot, lv_has ls 13 [(0, .ref (q.1 129 0))] → WW X q s 113 ls []) (Sum.elim (fun y : Int32 × Int64 × Int32 × Int64 × Int32 => ∀ ls : Array Slot, lv_has ls 13 [(0, .ref (q.1 129 0)), (4, .int y.1), (5, .long y.2.1), (7, .int y.2.2.1), (8, .long y.2.2.2.1), (12, .int y.2.2.2.2)] → WW X q s 139 ls []) (fun y : Unit => ∀ ls : Array Slot, lv_has ls 13 [(0, .ref (q.1 129 0))] → WW X q s 187 ls []))))) e) (fun x s o hb hc => lp_St_read_L9 (q := q) g x s o hb hc) hw ?_ ls (lv_sub hl [3, 6, 7, 2, 1, 0] rfl)
  clear hw hl
  clear ls
  generalize s1 = s at h ⊢
  rcases e9 with y9_22 | y9_65 | y9_113 | y9_139 | y9_187
  · intro ls hl
    dsimp only [Sum.elim_inl, Sum.elim_inr] at h
    refine ww_aload_n (pc := 22) g.1 d_St_read_22 rfl (lv_at hl 0 rfl) ?_
    refine ww_gR (pc := 23) g (k := 0) cl_St (pz rfl (by decide)) (by decide) (Or.inl kw_863) (f := 16512) (t := 128) rfl rfl rfl d_St_read_23 ?_
    refine ww_iconst (pc := 26) g.1 (v := 2) d_St_read_26 (by decide) ?_
    obtain ⟨v27, s, hc27, h⟩ := oB_of h
    refine ww_callV (pc := 27) (rest := []) g cv_Ma_fail (Or.inl kw_1106) cl_Ma (pz rfl (by decide)) (ct_Ma_fail hc27) ⟨by decide, by decide⟩ rfl hl.1 (Nat.le_of_ble_eq_true rfl) d_St_read_27 rfl (?_)
    refine ww_st (st' := []) rfl ?_
    exact ww_vretH (pc := 30) g h hR d_St_read_30
  · intro ls hl
    dsimp only [Sum.elim_inl, Sum.elim_inr] at h
    refine ww_aload_n (pc := 65) g.1 d_St_read_65 rfl (lv_at hl 0 rfl) ?_
    refine ww_aload_n (pc := 66) g.1 d_St_read_66 rfl (lv_at hl 0 rfl) ?_
    refine ww_gI (pc := 67) g (k := 9) cl_St (pz rfl (by decide)) (by decide) (Or.inl kw_877) (f := 16521) rfl rfl d_St_read_67 h fun v67 h => ?_
    refine ww_aload_n (pc := 70) g.1 d_St_read_70 rfl (lv_at hl 0 rfl) ?_
    refine ww_gR (pc := 71) g (k := 2) cl_St (pz rfl (by decide)) (by decide) (Or.inl kw_1101) (f := 16514) (t := 120) rfl rfl rfl d_St_read_71 ?_
    refine ww_gR (pc := 74) g (k := 2) cl_Ta (pz rfl (by decide)) (by decide) (Or.inl kw_1104) (f := 15362) (t := 123) rfl rfl rfl d_St_read_74 ?_
    refine ww_iload (pc := 77) g.1 d_St_read_77 (lv_at hl 1 rfl) ?_
    refine ww_ab (pc := 79) g (pz rfl (by decide)) rfl rfl d_St_read_79 h fun v79 h => ?_
    refine ww_aload_n (pc := 80) g.1 d_St_read_80 rfl (lv_at hl 0 rfl) ?_
    refine ww_gR (pc := 81) g (k := 2) cl_St (pz rfl (by decide)) (by decide) (Or.inl kw_1101) (f := 16514) (t := 120) rfl rfl rfl d_St_read_81 ?_
    refine ww_gR (pc := 84) g (k := 3) cl_Ta (pz rfl (by decide)) (by decide) (Or.inl kw_1105) (f := 15363) (t := 124) rfl rfl rfl d_St_read_84 ?_
    refine ww_iload (pc := 87) g.1 d_St_read_87 (lv_at hl 1 rfl) ?_
    refine ww_al (pc := 89) g (pz rfl (by decide)) rfl rfl d_St_read_89 h fun v89 h => ?_
    obtain ⟨v90, s, hc90, h⟩ := oB_of h
    refine ww_callV (pc := 90) (rest := []) g cv_St_set (Or.inl kw_928) cl_St (pz rfl (by decide)) (ct_St_set hc90) ⟨by decide, by decide⟩ rfl hl.1 (Nat.le_of_ble_eq_true rfl) d_St_read_90 rfl (?_)
    refine ww_st (st' := []) rfl ?_
    exact ww_vretH (pc := 93) g h hR d_St_read_93
  · intro ls hl
    dsimp only [Sum.elim_inl, Sum.elim_inr] at h
    refine ww_aload_n (pc := 113) g.1 d_St_read_113 rfl (lv_at hl 0 rfl) ?_
    refine ww_aload_n (pc := 114) g.1 d_St_read_114 rfl (lv_at hl 0 rfl) ?_
    refine ww_gI (pc := 115) g (k := 9) cl_St (pz rfl (by decide)) (by decide) (Or.inl kw_877) (f := 16521) rfl rfl d_St_read_115 h fun v115 h => ?_
    refine ww_iconst (pc := 118) g.1 (v := 0) d_St_read_118 (by decide) ?_
    refine ww_lconst (pc := 119) g.1 (v := 0) d_St_read_119 (by decide) ?_
    obtain ⟨v120, s, hc120, h⟩ := oB_of h
    refine ww_callV (pc := 120) (rest := []) g cv_St_set (Or.inl kw_928) cl_St (pz rfl (by decide)) (ct_St_set hc120) ⟨by decide, by decide⟩ rfl hl.1 (Nat.le_of_ble_eq_true rfl) d_St_read_120 rfl (?_)
    refine ww_st (st' := []) rfl ?_
    exact ww_vretH (pc := 123) g h hR d_St_read_123
  · intro ls hl
    dsimp only [Sum.elim_inl, Sum.elim_inr] at h
    refine ww_aload_n (pc := 139) g.1 d_St_read_139 rfl (lv_at hl 0 rfl) ?_
    refine ww_gR (pc := 140) g (k := 0) cl_St (pz rfl (by decide)) (by decide) (Or.inl kw_863) (f := 16512) (t := 128) rfl rfl rfl d_St_read_140 ?_
    refine ww_iload (pc := 143) g.1 d_St_read_143 (lv_at hl 5 rfl) ?_
    refine ww_iload (pc := 145) g.1 d_St_read_145 (lv_at hl 3 rfl) ?_
    refine ww_lload (pc := 147) g.1 d_St_read_147 (lv_at hl 4 rfl) ?_
    refine ww_iload (pc := 149) g.1 d_St_read_149 (lv_at hl 1 rfl) ?_
    refine ww_lload (pc := 151) g.1 d_St_read_151 (lv_at hl 2 rfl) ?_
    obtain ⟨v153, s, hc153, h⟩ := oB_of h
    refine ww_callV (pc := 153) (rest := []) g cv_Ma_callEntry (Or.inl kw_1107) cl_Ma (pz rfl (by decide)) (ct_Ma_callEntry hc153) ⟨by decide, by decide⟩ rfl hl.1 (Nat.le_of_ble_eq_true rfl) d_St_read_153 rfl (?_)
    refine ww_st (st' := []) rfl ?_
    exact ww_vretH (pc := 156) g h hR d_St_read_156
  · intro ls hl
    dsimp only [Sum.elim_inl, Sum.elim_inr] at h
    refine ww_aload_n (pc := 187) g.1 d_St_read_187 rfl (lv_at hl 0 rfl) ?_
    refine ww_gR (pc := 188) g (k := 0) cl_St (pz rfl (by decide)) (by decide) (Or.inl kw_863) (f := 16512) (t := 128) rfl rfl rfl d_St_read_188 ?_
    refine ww_iconst (pc := 191) g.1 (v := 4) d_St_read_191 (by decide) ?_
    obtain ⟨v192, s, hc192, h⟩ := oB_of h
    refine ww_callV (pc := 192) (rest := []) g cv_Ma_fail (Or.inl kw_1106) cl_Ma (pz rfl (by decide)) (ct_Ma_fail hc192) ⟨by decide, by decide⟩ rfl hl.1 (Nat.le_of_ble_eq_true rfl) d_St_read_192 rfl (?_)
    refine ww_st (st' := []) rfl ?_
    exact ww_vretH (pc := 195) g h hR d_St_read_195

abbrev b_St_callsEither : ByteArray := prog_10_method_17_code
def y_St_callsEither : MethodName := ⟨R_St, "callsEither", "(IIJIJ)Z"⟩
abbrev w_St_callsEither : List Cond := .code y_St_callsEither b_St_callsEither 9 (some .boolean) :: wA
theorem k_St_callsEither : Cond.code y_St_callsEither b_St_callsEither 9 (some .boolean) ∈ wA := kinm (show _ ∈ tables_1 from (List.mem_append_right _ (List.mem_append_right _ (List.mem_append_right _ (List.mem_append_right _ (List.mem_append_right _ (List.mem_append_right _ (List.mem_append_left _ (List.mem_of_getElem? (l := tables_1_7) (i := 110) (by decide +kernel)))))))))) (by decide +kernel)
theorem d_St_callsEither_0 : decode b_St_callsEither 0 = .ok (.aload_n 0, 1) := by decide +kernel
theorem d_St_callsEither_1 : decode b_St_callsEither 1 = .ok (.getfield 26, 3) := by decide +kernel
theorem d_St_callsEither_4 : decode b_St_callsEither 4 = .ok (.iload_n 2, 1) := by decide +kernel
theorem d_St_callsEither_5 : decode b_St_callsEither 5 = .ok (.lload_n 3, 1) := by decide +kernel
theorem d_St_callsEither_6 : decode b_St_callsEither 6 = .ok (.iload_n 1, 1) := by decide +kernel
theorem d_St_callsEither_7 : decode b_St_callsEither 7 = .ok (.invokevirtual 205, 3) := by decide +kernel
theorem d_St_callsEither_10 : decode b_St_callsEither 10 = .ok (.istore 8, 2) := by decide +kernel
theorem d_St_callsEither_12 : decode b_St_callsEither 12 = .ok (.iload 8, 2) := by decide +kernel
theorem d_St_callsEither_14 : decode b_St_callsEither 14 = .ok (.ifCond .ge 17, 3) := by decide +kernel
theorem d_St_callsEither_17 : decode b_St_callsEither 17 = .ok (.aload_n 0, 1) := by decide +kernel
theorem d_St_callsEither_18 : decode b_St_callsEither 18 = .ok (.getfield 26, 3) := by decide +kernel
theorem d_St_callsEither_21 : decode b_St_callsEither 21 = .ok (.iload 5, 2) := by decide +kernel
theorem d_St_callsEither_23 : decode b_St_callsEither 23 = .ok (.lload 6, 2) := by decide +kernel
theorem d_St_callsEither_25 : decode b_St_callsEither 25 = .ok (.iload_n 1, 1) := by decide +kernel
theorem d_St_callsEither_26 : decode b_St_callsEither 26 = .ok (.invokevirtual 205, 3) := by decide +kernel
theorem d_St_callsEither_29 : decode b_St_callsEither 29 = .ok (.istore 8, 2) := by decide +kernel
theorem d_St_callsEither_31 : decode b_St_callsEither 31 = .ok (.iload 8, 2) := by decide +kernel
theorem d_St_callsEither_33 : decode b_St_callsEither 33 = .ok (.ifCond .lt 18, 3) := by decide +kernel
theorem d_St_callsEither_36 : decode b_St_callsEither 36 = .ok (.aload_n 0, 1) := by decide +kernel
theorem d_St_callsEither_37 : decode b_St_callsEither 37 = .ok (.getfield 9, 3) := by decide +kernel
theorem d_St_callsEither_40 : decode b_St_callsEither 40 = .ok (.iload 8, 2) := by decide +kernel
theorem d_St_callsEither_42 : decode b_St_callsEither 42 = .ok (.iload_n 2, 1) := by decide +kernel
theorem d_St_callsEither_43 : decode b_St_callsEither 43 = .ok (.lload_n 3, 1) := by decide +kernel
theorem d_St_callsEither_44 : decode b_St_callsEither 44 = .ok (.iload 5, 2) := by decide +kernel
theorem d_St_callsEither_46 : decode b_St_callsEither 46 = .ok (.lload 6, 2) := by decide +kernel
theorem d_St_callsEither_48 : decode b_St_callsEither 48 = .ok (.invokevirtual 209, 3) := by decide +kernel
theorem d_St_callsEither_51 : decode b_St_callsEither 51 = .ok (.iload 8, 2) := by decide +kernel
theorem d_St_callsEither_53 : decode b_St_callsEither 53 = .ok (.ifCond .lt 7, 3) := by decide +kernel
theorem d_St_callsEither_56 : decode b_St_callsEither 56 = .ok (.iconst 1, 1) := by decide +kernel
theorem d_St_callsEither_57 : decode b_St_callsEither 57 = .ok (.goto 4, 3) := by decide +kernel
theorem d_St_callsEither_60 : decode b_St_callsEither 60 = .ok (.iconst 0, 1) := by decide +kernel
theorem d_St_callsEither_61 : decode b_St_callsEither 61 = .ok (.ireturn, 1) := by decide +kernel
theorem kw_1110 : Cond.instanceMethod y_St_callsEither ∈ wA := kinm (show _ ∈ tables_1 from (List.mem_append_right _ (List.mem_append_right _ (List.mem_append_right _ (List.mem_append_right _ (List.mem_append_right _ (List.mem_append_right _ (List.mem_append_left _ (List.mem_of_getElem? (l := tables_1_7) (i := 109) (by decide +kernel)))))))))) (by decide +kernel)
theorem kw_1111 : Cond.selects R_St y_St_callsEither y_St_callsEither ∈ wA := kinp 48 (by decide +kernel) (by decide +kernel)
theorem cv_St_callsEither : CV y_St_callsEither b_St_callsEither 9 (some .boolean) 5 := ⟨kw_1110, kw_1111, kw_883, k_St_callsEither, by decide +kernel⟩
theorem j_St_callsEither_j51 {X : Cx} {q : PL} (g : Gd X y_St_callsEither b_St_callsEither 9 (some .boolean) 3 77 R_St) {o : (Int32) × S1} (hR : Rt X q o.2 (some (.int o.1))) (l8 : Int32) (s : S1) (ls : Array Slot) (hl : lv_has ls 9 [(8, .int l8)]) (h : M_St_callsEither_j51 l8 s = some o) : WW X q s 51 ls [] := by
  unfold M_St_callsEither_j51 at h
  refine ww_iload (pc := 51) g.1 d_St_callsEither_51 (lv_at hl 0 rfl) ?_
  refine ww_if_lt (pc := 53) (tgt := 60) g.1 d_St_callsEither_53 (by decide) h (fun c h => ?_) (fun c h => ?_)
  · refine ww_iconst (pc := 60) g.1 (v := 0) d_St_callsEither_60 (by decide) ?_
    exact ww_zretH (pc := 61) g h hR (Or.inl rfl) d_St_callsEither_61
  · refine ww_iconst (pc := 56) g.1 (v := 1) d_St_callsEither_56 (by decide) ?_
    refine ww_goto (pc := 57) (tgt := 61) g.1 d_St_callsEither_57 (by decide) ?_
    exact ww_zretH (pc := 61) g h hR (Or.inr rfl) d_St_callsEither_61

theorem j_St_callsEither_j31 {X : Cx} {q : PL} (g : Gd X y_St_callsEither b_St_callsEither 9 (some .boolean) 3 77 R_St) {o : (Int32) × S1} (hR : Rt X q o.2 (some (.int o.1))) (l2 : Int32) (l3 : Int64) (l5 : Int32) (l6 : Int64) (l8 : Int32) (s : S1) (ls : Array Slot) (hl : lv_has ls 9 [(0, .ref (q.1 129 0)), (2, .int l2), (3, .long l3), (5, .int l5), (6, .long l6), (8, .int l8)]) (h : M_St_callsEither_j31 l2 l3 l5 l6 l8 s = some o) : WW X q s 31 ls [] := by
  unfold M_St_callsEither_j31 at h
  refine ww_iload (pc := 31) g.1 d_St_callsEither_31 (lv_at hl 5 rfl) ?_
  refine ww_if_lt (pc := 33) (tgt := 51) g.1 d_St_callsEither_33 (by decide) h (fun c h => ?_) (fun c h => ?_)
  · exact j_St_callsEither_j51 g hR l8 s ls (lv_sub hl [5] rfl) h
  · refine ww_aload_n (pc := 36) g.1 d_St_callsEither_36 rfl (lv_at hl 0 rfl) ?_
    refine ww_gR (pc := 37) g (k := 0) cl_St (pz rfl (by decide)) (by decide) (Or.inl kw_863) (f := 16512) (t := 128) rfl rfl rfl d_St_callsEither_37 ?_
    refine ww_iload (pc := 40) g.1 d_St_callsEither_40 (lv_at hl 5 rfl) ?_
    refine ww_iload_n (pc := 42) g.1 d_St_callsEither_42 rfl (lv_at hl 1 rfl) ?_
    refine ww_lload_n (pc := 43) g.1 d_St_callsEither_43 rfl (lv_at hl 2 rfl) ?_
    refine ww_iload (pc := 44) g.1 d_St_callsEither_44 (lv_at hl 3 rfl) ?_
    refine ww_lload (pc := 46) g.1 d_St_callsEither_46 (lv_at hl 4 rfl) ?_
    obtain ⟨v48, s, hc48, h⟩ := oB_of h
    refine ww_callV (pc := 48) (rest := []) g cv_Ma_callEntry (Or.inl kw_1107) cl_Ma (pz rfl (by decide)) (ct_Ma_callEntry hc48) ⟨by decide, by decide⟩ rfl hl.1 (Nat.le_of_ble_eq_true rfl) d_St_callsEither_48 rfl (?_)
    refine ww_st (st' := []) rfl ?_
    exact j_St_callsEither_j51 g hR l8 s ls (lv_sub hl [5] rfl) h

theorem ct_St_callsEither {l : Launch} {P : PP} {q : PL} {s s' : S1} {l1 : Int32} {l2 : Int32} {l3 : Int64} {l5 : Int32} {l6 : Int64} {r : Int32} (h : M_St_callsEither l1 l2 l3 l5 l6 s = some (r, s')) : Ct l y_St_callsEither b_St_callsEither 9 (some .boolean) 3 77 P q s [.ref (q.1 129 0), .int l1, .int l2, .long l3, .int l5, .long l6] (some (.int r)) q s' := by
  refine ct_of (by decide) (Nat.le_of_ble_eq_true rfl) fun X ls eP el g hR hl => ?_
  subst eP
  have hR : Rt X q ((r, s') : Int32 × S1).2 (some (.int ((r, s') : Int32 × S1).1)) := hR
  have hl : lv_has ls 9 [(0, .ref (q.1 129 0)), (1, .int l1), (2, .int l2), (3, .long l3), (5, .int l5), (6, .long l6)] := hl
  generalize (r, s') = o at h hR
  unfold M_St_callsEither at h
  refine ww_aload_n (pc := 0) g.1 d_St_callsEither_0 rfl (lv_at hl 0 rfl) ?_
  refine ww_gR (pc := 1) g (k := 2) cl_St (pz rfl (by decide)) (by decide) (Or.inl kw_1101) (f := 16514) (t := 120) rfl rfl rfl d_St_callsEither_1 ?_
  refine ww_iload_n (pc := 4) g.1 d_St_callsEither_4 rfl (lv_at hl 2 rfl) ?_
  refine ww_lload_n (pc := 5) g.1 d_St_callsEither_5 rfl (lv_at hl 3 rfl) ?_
  refine ww_iload_n (pc := 6) g.1 d_St_callsEither_6 rfl (lv_at hl 1 rfl) ?_
  obtain ⟨v7, s, hc7, h⟩ := oB_of h
  refine ww_callV (pc := 7) (rest := []) g cv_Ta_findEvent (Or.inl kw_1103) cl_Ta (pz rfl (by decide)) (ct_Ta_findEvent hc7) ⟨by decide, by decide⟩ rfl hl.1 (Nat.le_of_ble_eq_true rfl) d_St_callsEither_7 rfl (?_)
  refine ww_st (st' := [.int v7]) rfl ?_
  refine ww_istore (pc := 10) (i := 8) g.1 (lv' := [(8, .int v7), (0, .ref (q.1 129 0)), (1, .int l1), (2, .int l2), (3, .long l3), (5, .int l5), (6, .long l6)]) d_St_callsEither_10 hl (by decide) rfl fun ls hl => ?_
  refine ww_iload (pc := 12) g.1 d_St_callsEither_12 (lv_at hl 0 rfl) ?_
  refine ww_if_ge (pc := 14) (tgt := 31) g.1 d_St_callsEither_14 (by decide) h (fun c h => ?_) (fun c h => ?_)
  · exact j_St_callsEither_j31 g hR l2 l3 l5 l6 v7 s ls (lv_sub hl [1, 3, 4, 5, 6, 0] rfl) h
  · refine ww_aload_n (pc := 17) g.1 d_St_callsEither_17 rfl (lv_at hl 1 rfl) ?_
    refine ww_gR (pc := 18) g (k := 2) cl_St (pz rfl (by decide)) (by decide) (Or.inl kw_1101) (f := 16514) (t := 120) rfl rfl rfl d_St_callsEither_18 ?_
    refine ww_iload (pc := 21) g.1 d_St_callsEither_21 (lv_at hl 5 rfl) ?_
    refine ww_lload (pc := 23) g.1 d_St_callsEither_23 (lv_at hl 6 rfl) ?_
    refine ww_iload_n (pc := 25) g.1 d_St_callsEither_25 rfl (lv_at hl 2 rfl) ?_
    obtain ⟨v26, s, hc26, h⟩ := oB_of h
    refine ww_callV (pc := 26) (rest := []) g cv_Ta_findEvent (Or.inl kw_1103) cl_Ta (pz rfl (by decide)) (ct_Ta_findEvent hc26) ⟨by decide, by decide⟩ rfl hl.1 (Nat.le_of_ble_eq_true rfl) d_St_callsEither_26 rfl (?_)
    refine ww_st (st' := [.int v26]) rfl ?_
    refine ww_istore (pc := 29) (i := 8) g.1 (lv' := [(8, .int v26), (0, .ref (q.1 129 0)), (1, .int l1), (2, .int l2), (3, .long l3), (5, .int l5), (6, .long l6)]) d_St_callsEither_29 hl (by decide) rfl fun ls hl => ?_
    exact j_St_callsEither_j31 g hR l2 l3 l5 l6 v26 s ls (lv_sub hl [1, 3, 4, 5, 6, 0] rfl) h


