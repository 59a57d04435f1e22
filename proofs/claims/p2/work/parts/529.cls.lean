abbrev b_He_makeClosedVariable : ByteArray := prog_6_method_6_code
def y_He_makeClosedVariable : MethodName := ⟨R_He, "makeClosedVariable", "(IJ)I"⟩
abbrev w_He_makeClosedVariable : List Cond := .code y_He_makeClosedVariable b_He_makeClosedVariable 5 (some .int) :: wA
theorem k_He_makeClosedVariable : Cond.code y_He_makeClosedVariable b_He_makeClosedVariable 5 (some .int) ∈ wA := kinm (show _ ∈ tables_1 from (List.mem_append_right _ (List.mem_append_right _ (List.mem_append_right _ (List.mem_append_right _ (List.mem_append_right _ (List.mem_append_left _ (List.mem_of_getElem? (l := tables_1_6) (i := 23) (by decide +kernel))))))))) (by decide +kernel)
theorem d_He_makeClosedVariable_0 : decode b_He_makeClosedVariable 0 = .ok (.aload_n 0, 1) := by decide +kernel
theorem d_He_makeClosedVariable_1 : decode b_He_makeClosedVariable 1 = .ok (.bipush 8, 2) := by decide +kernel
theorem d_He_makeClosedVariable_3 : decode b_He_makeClosedVariable 3 = .ok (.iconst 0, 1) := by decide +kernel
theorem d_He_makeClosedVariable_4 : decode b_He_makeClosedVariable 4 = .ok (.iconst 0, 1) := by decide +kernel
theorem d_He_makeClosedVariable_5 : decode b_He_makeClosedVariable 5 = .ok (.invokevirtual 93, 3) := by decide +kernel
theorem d_He_makeClosedVariable_8 : decode b_He_makeClosedVariable 8 = .ok (.istore 4, 2) := by decide +kernel
theorem d_He_makeClosedVariable_10 : decode b_He_makeClosedVariable 10 = .ok (.iload 4, 2) := by decide +kernel
theorem d_He_makeClosedVariable_12 : decode b_He_makeClosedVariable 12 = .ok (.ifCond .lt 36, 3) := by decide +kernel
theorem d_He_makeClosedVariable_15 : decode b_He_makeClosedVariable 15 = .ok (.aload_n 0, 1) := by decide +kernel
theorem d_He_makeClosedVariable_16 : decode b_He_makeClosedVariable 16 = .ok (.getfield 11, 3) := by decide +kernel
theorem d_He_makeClosedVariable_19 : decode b_He_makeClosedVariable 19 = .ok (.iload 4, 2) := by decide +kernel
theorem d_He_makeClosedVariable_21 : decode b_He_makeClosedVariable 21 = .ok (.aaload, 1) := by decide +kernel
theorem d_He_makeClosedVariable_22 : decode b_He_makeClosedVariable 22 = .ok (.iconst (-1), 1) := by decide +kernel
theorem d_He_makeClosedVariable_23 : decode b_He_makeClosedVariable 23 = .ok (.putfield 97, 3) := by decide +kernel
theorem d_He_makeClosedVariable_26 : decode b_He_makeClosedVariable 26 = .ok (.aload_n 0, 1) := by decide +kernel
theorem d_He_makeClosedVariable_27 : decode b_He_makeClosedVariable 27 = .ok (.getfield 11, 3) := by decide +kernel
theorem d_He_makeClosedVariable_30 : decode b_He_makeClosedVariable 30 = .ok (.iload 4, 2) := by decide +kernel
theorem d_He_makeClosedVariable_32 : decode b_He_makeClosedVariable 32 = .ok (.aaload, 1) := by decide +kernel
theorem d_He_makeClosedVariable_33 : decode b_He_makeClosedVariable 33 = .ok (.iload_n 1, 1) := by decide +kernel
theorem d_He_makeClosedVariable_34 : decode b_He_makeClosedVariable 34 = .ok (.putfield 100, 3) := by decide +kernel
theorem d_He_makeClosedVariable_37 : decode b_He_makeClosedVariable 37 = .ok (.aload_n 0, 1) := by decide +kernel
theorem d_He_makeClosedVariable_38 : decode b_He_makeClosedVariable 38 = .ok (.getfield 11, 3) := by decide +kernel
theorem d_He_makeClosedVariable_41 : decode b_He_makeClosedVariable 41 = .ok (.iload 4, 2) := by decide +kernel
theorem d_He_makeClosedVariable_43 : decode b_He_makeClosedVariable 43 = .ok (.aaload, 1) := by decide +kernel
theorem d_He_makeClosedVariable_44 : decode b_He_makeClosedVariable 44 = .ok (.lload_n 2, 1) := by decide +kernel
theorem d_He_makeClosedVariable_45 : decode b_He_makeClosedVariable 45 = .ok (.putfield 103, 3) := by decide +kernel
theorem d_He_makeClosedVariable_48 : decode b_He_makeClosedVariable 48 = .ok (.iload 4, 2) := by decide +kernel
theorem d_He_makeClosedVariable_50 : decode b_He_makeClosedVariable 50 = .ok (.ireturn, 1) := by decide +kernel
theorem kw_1357 : Cond.methodLink R_He 93 y_He_make ∈ wA := kinm (show _ ∈ tables_1 from (List.mem_append_right _ (List.mem_append_right _ (List.mem_append_right _ (List.mem_append_right _ (List.mem_append_right _ (List.mem_append_left _ (List.mem_of_getElem? (l := tables_1_6) (i := 16) (by decide +kernel))))))))) (by decide +kernel)
theorem kw_1358 : Cond.instanceMethod y_He_makeClosedVariable ∈ wA := kinm (show _ ∈ tables_1 from (List.mem_append_right _ (List.mem_append_right _ (List.mem_append_right _ (List.mem_append_right _ (List.mem_append_right _ (List.mem_append_left _ (List.mem_of_getElem? (l := tables_1_6) (i := 21) (by decide +kernel))))))))) (by decide +kernel)
theorem kw_1359 : Cond.selects R_He y_He_makeClosedVariable y_He_makeClosedVariable ∈ wA := kinm (show _ ∈ tables_1 from (List.mem_append_right _ (List.mem_append_right _ (List.mem_append_right _ (List.mem_append_right _ (List.mem_append_right _ (List.mem_append_left _ (List.mem_of_getElem? (l := tables_1_6) (i := 22) (by decide +kernel))))))))) (by decide +kernel)
theorem cv_He_makeClosedVariable : CV y_He_makeClosedVariable b_He_makeClosedVariable 5 (some .int) 2 := ⟨kw_1358, kw_1359, kw_712, k_He_makeClosedVariable, by decide +kernel⟩
theorem ct_He_makeClosedVariable {l : Launch} {P : PP} {q : PL} {s s' : S1} {n0 n1 : Nat × Nat} {l1 : Int32} {l2 : Int64} {r : Int32} (hm : Rmq P q n0) (h : M_He_makeClosedVariable n0 l1 l2 s = some ((r, n1), s')) : CtX l y_He_makeClosedVariable b_He_makeClosedVariable 5 (some .int) 4 97 P [] q s [.ref (q.1 111 0), .int l1, .long l2] (fun _ => some (.int r)) n1 s' := by
  refine ctX_of (by decide) (Nat.le_of_ble_eq_true rfl) fun X ls eP el g hR hl => ?_
  subst eP
  obtain ⟨q0, hq0⟩ : ∃ q0 : PL, q0 = q := ⟨q, rfl⟩
  have hx0 : Exq (xP X) [] q0 q := hq0 ▸ Exq.rf
  rw [← hq0] at hR
  have hR : RtX X [] q0 (((r, n1), s') : (Int32 × (Nat × Nat)) × S1).1.2 (((r, n1), s') : (Int32 × (Nat × Nat)) × S1).2 (fun _ => some (.int (((r, n1), s') : (Int32 × (Nat × Nat)) × S1).1.1)) := hR
  have hl : lv_has ls 5 [(0, .ref (q.1 111 0)), (1, .int l1), (2, .long l2)] := hl
  generalize ((r, n1), s') = o at h hR
  unfold M_He_makeClosedVariable at h
  refine ww_aload_n (pc := 0) g.1 d_He_makeClosedVariable_0 rfl (lv_at hl 0 rfl) ?_
  refine ww_bipush (pc := 1) g.1 (v := 8) d_He_makeClosedVariable_1 (by decide) ?_
  refine ww_iconst (pc := 3) g.1 (v := 0) d_He_makeClosedVariable_3 (by decide) ?_
  refine ww_iconst (pc := 4) g.1 (v := 0) d_He_makeClosedVariable_4 (by decide) ?_
  refine ww_lo fun dlo => ?_
  obtain ⟨v5, s, hc5, h⟩ := oB_of h
  refine ww_callVX (pc := 5) (rest := []) g cv_He_make (Or.inl kw_1357) cl_He (pz rfl (by decide)) (ct_He_make hm hc5) ⟨by decide, by decide⟩ rfl hl.1 (Nat.le_of_ble_eq_true rfl) d_He_makeClosedVariable_5 rfl (fun q5 hE hm => ?_)
  have ex5_0 : q5.1 111 0 = q.1 111 0 := hE _ _ (by decide) (dlo _ _ (pz rfl (by decide)))
  have hl : lv_has ls 5 [(0, .ref (q5.1 111 0)), (1, .int l1), (2, .long l2)] := by rw [ex5_0]; exact hl
  refine ww_st (st' := [.int v5.1]) (by rfl) ?_
  have hx0 : Exq (xP X) [] _ q5 := hx0.tr (hE.sub (by decide))
  refine ww_istore (pc := 8) (i := 4) g.1 (lv' := [(4, .int v5.1), (0, .ref (q5.1 111 0)), (1, .int l1), (2, .long l2)]) d_He_makeClosedVariable_8 hl (by decide) rfl fun ls hl => ?_
  refine ww_iload (pc := 10) g.1 d_He_makeClosedVariable_10 (lv_at hl 0 rfl) ?_
  refine ww_if_lt (pc := 12) (tgt := 48) g.1 d_He_makeClosedVariable_12 (by decide) h (fun c h => ?_) (fun c h => ?_)
  · refine ww_iload (pc := 48) g.1 d_He_makeClosedVariable_48 (lv_at hl 0 rfl) ?_
    exact ww_iretX (pc := 50) g h hR hx0 hm d_He_makeClosedVariable_50
  · refine ww_aload_n (pc := 15) g.1 d_He_makeClosedVariable_15 rfl (lv_at hl 1 rfl) ?_
    refine ww_gR (pc := 16) g (k := 0) cl_He (pz rfl (by decide)) (by decide) (Or.inl kw_725) (f := 14208) (t := 112) rfl rfl rfl d_He_makeClosedVariable_16 ?_
    refine ww_iload (pc := 19) g.1 d_He_makeClosedVariable_19 (lv_at hl 0 rfl) ?_
    refine ww_a8 (pc := 21) g (t := 145) (n := 4000) (pz rfl (by decide)) rfl rfl rfl rfl d_He_makeClosedVariable_21 h fun pa21 h => ?_
    refine ww_iconst (pc := 22) g.1 (v := (-1)) d_He_makeClosedVariable_22 (by decide) ?_
    refine ww_pI (pc := 23) g (k := 4) cl_Tg pa21 (by decide) (Or.inl kw_759) rfl (f := 18564) rfl rfl rfl rfl d_He_makeClosedVariable_23 h fun s hs h => ?_
    refine ww_aload_n (pc := 26) g.1 d_He_makeClosedVariable_26 rfl (lv_at hl 1 rfl) ?_
    refine ww_gR (pc := 27) g (k := 0) cl_He (pz rfl (by decide)) (by decide) (Or.inl kw_725) (f := 14208) (t := 112) rfl rfl rfl d_He_makeClosedVariable_27 ?_
    refine ww_iload (pc := 30) g.1 d_He_makeClosedVariable_30 (lv_at hl 0 rfl) ?_
    refine ww_a8 (pc := 32) g (t := 145) (n := 4000) (pz rfl (by decide)) rfl rfl rfl rfl d_He_makeClosedVariable_32 h fun pa32 h => ?_
    refine ww_iload_n (pc := 33) g.1 d_He_makeClosedVariable_33 rfl (lv_at hl 2 rfl) ?_
    refine ww_pI (pc := 34) g (k := 7) cl_Tg pa32 (by decide) (Or.inl kw_763) rfl (f := 18567) rfl rfl rfl rfl d_He_makeClosedVariable_34 h fun s hs h => ?_
    refine ww_aload_n (pc := 37) g.1 d_He_makeClosedVariable_37 rfl (lv_at hl 1 rfl) ?_
    refine ww_gR (pc := 38) g (k := 0) cl_He (pz rfl (by decide)) (by decide) (Or.inl kw_725) (f := 14208) (t := 112) rfl rfl rfl d_He_makeClosedVariable_38 ?_
    refine ww_iload (pc := 41) g.1 d_He_makeClosedVariable_41 (lv_at hl 0 rfl) ?_
    refine ww_a8 (pc := 43) g (t := 145) (n := 4000) (pz rfl (by decide)) rfl rfl rfl rfl d_He_makeClosedVariable_43 h fun pa43 h => ?_
    refine ww_lload_n (pc := 44) g.1 d_He_makeClosedVariable_44 rfl (lv_at hl 3 rfl) ?_
    refine ww_pL (pc := 45) g (k := 8) cl_Tg pa43 (by decide) (Or.inl kw_764) rfl (f := 18568) rfl rfl rfl rfl d_He_makeClosedVariable_45 h fun s hs h => ?_
    refine ww_iload (pc := 48) g.1 d_He_makeClosedVariable_48 (lv_at hl 0 rfl) ?_
    exact ww_iretX (pc := 50) g h hR hx0 hm d_He_makeClosedVariable_50

abbrev b_Ta_write : ByteArray := prog_11_method_8_code
def y_Ta_write : MethodName := ⟨R_Ta, "write", "(IIJIJ)I"⟩
abbrev w_Ta_write : List Cond := .code y_Ta_write b_Ta_write 11 (some .int) :: wA
theorem k_Ta_write : Cond.code y_Ta_write b_Ta_write 11 (some .int) ∈ wA := kinm (show _ ∈ tables_1 from (List.mem_append_right _ (List.mem_append_right _ (List.mem_append_right _ (List.mem_append_right _ (List.mem_append_right _ (List.mem_append_left _ (List.mem_of_getElem? (l := tables_1_6) (i := 36) (by decide +kernel))))))))) (by decide +kernel)
theorem d_Ta_write_0 : decode b_Ta_write 0 = .ok (.iload_n 2, 1) := by decide +kernel
theorem d_Ta_write_1 : decode b_Ta_write 1 = .ok (.ifCond .ne 6, 3) := by decide +kernel
theorem d_Ta_write_4 : decode b_Ta_write 4 = .ok (.bipush 6, 2) := by decide +kernel
theorem d_Ta_write_6 : decode b_Ta_write 6 = .ok (.ireturn, 1) := by decide +kernel
theorem d_Ta_write_7 : decode b_Ta_write 7 = .ok (.aload_n 0, 1) := by decide +kernel
theorem d_Ta_write_8 : decode b_Ta_write 8 = .ok (.getfield 36, 3) := by decide +kernel
theorem d_Ta_write_11 : decode b_Ta_write 11 = .ok (.getfield 50, 3) := by decide +kernel
theorem d_Ta_write_14 : decode b_Ta_write 14 = .ok (.iload_n 1, 1) := by decide +kernel
theorem d_Ta_write_15 : decode b_Ta_write 15 = .ok (.aaload, 1) := by decide +kernel
theorem d_Ta_write_16 : decode b_Ta_write 16 = .ok (.astore 8, 2) := by decide +kernel
theorem d_Ta_write_18 : decode b_Ta_write 18 = .ok (.aload_n 0, 1) := by decide +kernel
theorem d_Ta_write_19 : decode b_Ta_write 19 = .ok (.iload_n 1, 1) := by decide +kernel
theorem d_Ta_write_20 : decode b_Ta_write 20 = .ok (.iload_n 2, 1) := by decide +kernel
theorem d_Ta_write_21 : decode b_Ta_write 21 = .ok (.lload_n 3, 1) := by decide +kernel
theorem d_Ta_write_22 : decode b_Ta_write 22 = .ok (.invokevirtual 82, 3) := by decide +kernel
theorem d_Ta_write_25 : decode b_Ta_write 25 = .ok (.istore 9, 2) := by decide +kernel
theorem d_Ta_write_27 : decode b_Ta_write 27 = .ok (.iload 9, 2) := by decide +kernel
theorem d_Ta_write_29 : decode b_Ta_write 29 = .ok (.ifCond .lt 60, 3) := by decide +kernel
theorem d_Ta_write_32 : decode b_Ta_write 32 = .ok (.aload_n 0, 1) := by decide +kernel
theorem d_Ta_write_33 : decode b_Ta_write 33 = .ok (.getfield 20, 3) := by decide +kernel
theorem d_Ta_write_36 : decode b_Ta_write 36 = .ok (.iload 9, 2) := by decide +kernel
theorem d_Ta_write_38 : decode b_Ta_write 38 = .ok (.iload 5, 2) := by decide +kernel
theorem d_Ta_write_40 : decode b_Ta_write 40 = .ok (.i2b, 1) := by decide +kernel
theorem d_Ta_write_41 : decode b_Ta_write 41 = .ok (.bastore, 1) := by decide +kernel
theorem d_Ta_write_42 : decode b_Ta_write 42 = .ok (.aload_n 0, 1) := by decide +kernel
theorem d_Ta_write_43 : decode b_Ta_write 43 = .ok (.getfield 23, 3) := by decide +kernel
theorem d_Ta_write_46 : decode b_Ta_write 46 = .ok (.iload 9, 2) := by decide +kernel
theorem d_Ta_write_48 : decode b_Ta_write 48 = .ok (.lload 6, 2) := by decide +kernel
theorem d_Ta_write_50 : decode b_Ta_write 50 = .ok (.lastore, 1) := by decide +kernel
theorem d_Ta_write_51 : decode b_Ta_write 51 = .ok (.iload 5, 2) := by decide +kernel
theorem d_Ta_write_53 : decode b_Ta_write 53 = .ok (.ifCond .ne 34, 3) := by decide +kernel
theorem d_Ta_write_56 : decode b_Ta_write 56 = .ok (.iload_n 2, 1) := by decide +kernel
theorem d_Ta_write_57 : decode b_Ta_write 57 = .ok (.iconst 3, 1) := by decide +kernel
theorem d_Ta_write_58 : decode b_Ta_write 58 = .ok (.if_icmp .ne 29, 3) := by decide +kernel
theorem d_Ta_write_61 : decode b_Ta_write 61 = .ok (.lload_n 3, 1) := by decide +kernel
theorem d_Ta_write_62 : decode b_Ta_write 62 = .ok (.lconst 0, 1) := by decide +kernel
theorem d_Ta_write_63 : decode b_Ta_write 63 = .ok (.lcmp, 1) := by decide +kernel
theorem d_Ta_write_64 : decode b_Ta_write 64 = .ok (.ifCond .le 23, 3) := by decide +kernel
theorem d_Ta_write_67 : decode b_Ta_write 67 = .ok (.lload_n 3, 1) := by decide +kernel
theorem d_Ta_write_68 : decode b_Ta_write 68 = .ok (.aload 8, 2) := by decide +kernel
theorem d_Ta_write_70 : decode b_Ta_write 70 = .ok (.getfield 68, 3) := by decide +kernel
theorem d_Ta_write_73 : decode b_Ta_write 73 = .ok (.i2l, 1) := by decide +kernel
theorem d_Ta_write_74 : decode b_Ta_write 74 = .ok (.lcmp, 1) := by decide +kernel
theorem d_Ta_write_75 : decode b_Ta_write 75 = .ok (.ifCond .gt 12, 3) := by decide +kernel
theorem d_Ta_write_78 : decode b_Ta_write 78 = .ok (.aload 8, 2) := by decide +kernel
theorem d_Ta_write_80 : decode b_Ta_write 80 = .ok (.lload_n 3, 1) := by decide +kernel
theorem d_Ta_write_81 : decode b_Ta_write 81 = .ok (.l2i, 1) := by decide +kernel
theorem d_Ta_write_82 : decode b_Ta_write 82 = .ok (.iconst 1, 1) := by decide +kernel
theorem d_Ta_write_83 : decode b_Ta_write 83 = .ok (.isub, 1) := by decide +kernel
theorem d_Ta_write_84 : decode b_Ta_write 84 = .ok (.putfield 68, 3) := by decide +kernel
theorem d_Ta_write_87 : decode b_Ta_write 87 = .ok (.iconst 0, 1) := by decide +kernel
theorem d_Ta_write_88 : decode b_Ta_write 88 = .ok (.ireturn, 1) := by decide +kernel
theorem d_Ta_write_89 : decode b_Ta_write 89 = .ok (.iload 5, 2) := by decide +kernel
theorem d_Ta_write_91 : decode b_Ta_write 91 = .ok (.ifCond .ne 5, 3) := by decide +kernel
theorem d_Ta_write_94 : decode b_Ta_write 94 = .ok (.iconst 0, 1) := by decide +kernel
theorem d_Ta_write_95 : decode b_Ta_write 95 = .ok (.ireturn, 1) := by decide +kernel
theorem d_Ta_write_96 : decode b_Ta_write 96 = .ok (.aload 8, 2) := by decide +kernel
theorem d_Ta_write_98 : decode b_Ta_write 98 = .ok (.getfield 62, 3) := by decide +kernel
theorem d_Ta_write_101 : decode b_Ta_write 101 = .ok (.aload 8, 2) := by decide +kernel
theorem d_Ta_write_103 : decode b_Ta_write 103 = .ok (.getfield 59, 3) := by decide +kernel
theorem d_Ta_write_106 : decode b_Ta_write 106 = .ok (.if_icmp .ne 11, 3) := by decide +kernel
theorem d_Ta_write_109 : decode b_Ta_write 109 = .ok (.aload_n 0, 1) := by decide +kernel
theorem d_Ta_write_110 : decode b_Ta_write 110 = .ok (.iload_n 1, 1) := by decide +kernel
theorem d_Ta_write_111 : decode b_Ta_write 111 = .ok (.invokevirtual 86, 3) := by decide +kernel
theorem d_Ta_write_114 : decode b_Ta_write 114 = .ok (.goto 4, 3) := by decide +kernel
theorem d_Ta_write_117 : decode b_Ta_write 117 = .ok (.iconst 0, 1) := by decide +kernel
theorem d_Ta_write_118 : decode b_Ta_write 118 = .ok (.istore 10, 2) := by decide +kernel
theorem d_Ta_write_120 : decode b_Ta_write 120 = .ok (.iload 10, 2) := by decide +kernel
theorem d_Ta_write_122 : decode b_Ta_write 122 = .ok (.ifCond .ne 15, 3) := by decide +kernel
theorem d_Ta_write_125 : decode b_Ta_write 125 = .ok (.aload_n 0, 1) := by decide +kernel
theorem d_Ta_write_126 : decode b_Ta_write 126 = .ok (.aload 8, 2) := by decide +kernel
theorem d_Ta_write_128 : decode b_Ta_write 128 = .ok (.iload_n 2, 1) := by decide +kernel
theorem d_Ta_write_129 : decode b_Ta_write 129 = .ok (.lload_n 3, 1) := by decide +kernel
theorem d_Ta_write_130 : decode b_Ta_write 130 = .ok (.iload 5, 2) := by decide +kernel
theorem d_Ta_write_132 : decode b_Ta_write 132 = .ok (.lload 6, 2) := by decide +kernel
theorem d_Ta_write_134 : decode b_Ta_write 134 = .ok (.invokevirtual 90, 3) := by decide +kernel
theorem d_Ta_write_137 : decode b_Ta_write 137 = .ok (.iload 10, 2) := by decide +kernel
theorem d_Ta_write_139 : decode b_Ta_write 139 = .ok (.ireturn, 1) := by decide +kernel
theorem kw_1360 : Cond.methodLink R_Ta 86 y_Ta_makeRoom ∈ wA := kinm (show _ ∈ tables_1 from (List.mem_append_right _ (List.mem_append_right _ (List.mem_append_right _ (List.mem_append_right _ (List.mem_append_right _ (List.mem_append_left _ (List.mem_of_getElem? (l := tables_1_6) (i := 46) (by decide +kernel))))))))) (by decide +kernel)
theorem kw_1361 : Cond.instanceMethod y_Ta_write ∈ wA := kinm (show _ ∈ tables_1 from (List.mem_append_right _ (List.mem_append_right _ (List.mem_append_right _ (List.mem_append_right _ (List.mem_append_right _ (List.mem_append_left _ (List.mem_of_getElem? (l := tables_1_6) (i := 34) (by decide +kernel))))))))) (by decide +kernel)
theorem kw_1362 : Cond.selects R_Ta y_Ta_write y_Ta_write ∈ wA := kinm (show _ ∈ tables_1 from (List.mem_append_right _ (List.mem_append_right _ (List.mem_append_right _ (List.mem_append_right _ (List.mem_append_right _ (List.mem_append_left _ (List.mem_of_getElem? (l := tables_1_6) (i := 35) (by decide +kernel))))))))) (by decide +kernel)
theorem cv_Ta_write : CV y_Ta_write b_Ta_write 11 (some .int) 5 := ⟨kw_1361, kw_1362, kw_717, k_Ta_write, by decide +kernel⟩
theorem j_Ta_write_j118 {X : Cx} {q : PL} (g : Gd X y_Ta_write b_Ta_write 11 (some .int) 4 102 R_Ta) {o : (Int32) × S1} (hR : Rt X q o.2 (some (.int o.1))) (l2 : Int32) (l3 : Int64) (l5 : Int32) (l6 : Int64) (l8 : Int32) (k0 : Int32) (s : S1) (hp0 : prs s 145 l8) (ls : Array Slot) (hl : lv_has ls 11 [(0, .ref (q.1 120 0)), (2, .int l2), (3, .long l3), (5, .int l5), (6, .long l6), (8, .ref (q.1 145 l8))]) (h : M_Ta_write_j118 l2 l3 l5 l6 l8 k0 s = some o) : WW X q s 118 ls [.int k0] := by
  unfold M_Ta_write_j118 at h
  refine ww_istore (pc := 118) (i := 10) g.1 (lv' := [(10, .int k0), (0, .ref (q.1 120 0)), (2, .int l2), (3, .long l3), (5, .int l5), (6, .long l6), (8, .ref (q.1 145 l8))]) d_Ta_write_118 hl (by decide) rfl fun ls hl => ?_
  refine ww_iload (pc := 120) g.1 d_Ta_write_120 (lv_at hl 0 rfl) ?_
  refine ww_if_ne (pc := 122) (tgt := 137) g.1 d_Ta_write_122 (by decide) h (fun c h => ?_) (fun c h => ?_)
  · refine ww_iload (pc := 137) g.1 d_Ta_write_137 (lv_at hl 0 rfl) ?_
    exact ww_iretH (pc := 139) g h hR d_Ta_write_139
  · refine ww_aload_n (pc := 125) g.1 d_Ta_write_125 rfl (lv_at hl 1 rfl) ?_
    refine ww_aload (pc := 126) g.1 d_Ta_write_126 (lv_at hl 6 rfl) ?_
    refine ww_iload_n (pc := 128) g.1 d_Ta_write_128 rfl (lv_at hl 2 rfl) ?_
    refine ww_lload_n (pc := 129) g.1 d_Ta_write_129 rfl (lv_at hl 3 rfl) ?_
    refine ww_iload (pc := 130) g.1 d_Ta_write_130 (lv_at hl 4 rfl) ?_
    refine ww_lload (pc := 132) g.1 d_Ta_write_132 (lv_at hl 5 rfl) ?_
    refine ww_lo fun dlo => ?_
    obtain ⟨v134, s, hc134, h⟩ := oB_of h
    refine ww_callV (pc := 134) (rest := []) g cv_Ta_append (Or.inl kw_1079) cl_Ta (pz rfl (by decide)) (ct_Ta_append hp0 hc134) ⟨by decide, by decide⟩ rfl hl.1 (Nat.le_of_ble_eq_true rfl) d_Ta_write_134 rfl (?_)
    refine ww_st (st' := []) rfl ?_
    refine ww_hi fun dhi => ?_
    have hp0 : prs s 145 l8 := dhi _ _ hp0.2.1 hp0.2.2 (dlo _ _ hp0)
    refine ww_iload (pc := 137) g.1 d_Ta_write_137 (lv_at hl 0 rfl) ?_
    exact ww_iretH (pc := 139) g h hR d_Ta_write_139

theorem ct_Ta_write {l : Launch} {P : PP} {q : PL} {s s' : S1} {l1 : Int32} {l2 : Int32} {l3 : Int64} {l5 : Int32} {l6 : Int64} {r : Int32} (h : M_Ta_write l1 l2 l3 l5 l6 s = some (r, s')) : Ct l y_Ta_write b_Ta_write 11 (some .int) 4 102 P q s [.ref (q.1 120 0), .int l1, .int l2, .long l3, .int l5, .long l6] (some (.int r)) q s' := by
  refine ct_of (by decide) (Nat.le_of_ble_eq_true rfl) fun X ls eP el g hR hl => ?_
  subst eP
  have hR : Rt X q ((r, s') : Int32 × S1).2 (some (.int ((r, s') : Int32 × S1).1)) := hR
  have hl : lv_has ls 11 [(0, .ref (q.1 120 0)), (1, .int l1), (2, .int l2), (3, .long l3), (5, .int l5), (6, .long l6)] := hl
  generalize (r, s') = o at h hR
  unfold M_Ta_write at h
  refine ww_iload_n (pc := 0) g.1 d_Ta_write_0 rfl (lv_at hl 2 rfl) ?_
  refine ww_if_ne (pc := 1) (tgt := 7) g.1 d_Ta_write_1 (by decide) h (fun c h => ?_) (fun c h => ?_)
  · refine ww_aload_n (pc := 7) g.1 d_Ta_write_7 rfl (lv_at hl 0 rfl) ?_
    refine ww_gR (pc := 8) g (k := 8) cl_Ta (pz rfl (by decide)) (by decide) (Or.inl kw_772) (f := 15368) (t := 111) rfl rfl rfl d_Ta_write_8 ?_
    refine ww_gR (pc := 11) g (k := 0) cl_He (pz rfl (by decide)) (by decide) (Or.inl kw_804) (f := 14208) (t := 112) rfl rfl rfl d_Ta_write_11 ?_
    refine ww_iload_n (pc := 14) g.1 d_Ta_write_14 rfl (lv_at hl 1 rfl) ?_
    refine ww_a8 (pc := 15) g (t := 145) (n := 4000) (pz rfl (by decide)) rfl rfl rfl rfl d_Ta_write_15 h fun pa15 h => ?_
    refine ww_astore (pc := 16) (i := 8) g.1 (lv' := [(8, .ref (q.1 145 l1)), (0, .ref (q.1 120 0)), (1, .int l1), (2, .int l2), (3, .long l3), (5, .int l5), (6, .long l6)]) d_Ta_write_16 hl (by decide) rfl fun ls hl => ?_
    refine ww_aload_n (pc := 18) g.1 d_Ta_write_18 rfl (lv_at hl 1 rfl) ?_
    refine ww_iload_n (pc := 19) g.1 d_Ta_write_19 rfl (lv_at hl 2 rfl) ?_
    refine ww_iload_n (pc := 20) g.1 d_Ta_write_20 rfl (lv_at hl 3 rfl) ?_
    refine ww_lload_n (pc := 21) g.1 d_Ta_write_21 rfl (lv_at hl 4 rfl) ?_
    refine ww_lo fun dlo => ?_
    obtain ⟨v22, s, hc22, h⟩ := oB_of h
    refine ww_callV (pc := 22) (rest := []) g cv_Ta_find (Or.inl kw_1090) cl_Ta (pz rfl (by decide)) (ct_Ta_find hc22) ⟨by decide, by decide⟩ rfl hl.1 (Nat.le_of_ble_eq_true rfl) d_Ta_write_22 rfl (?_)
    refine ww_st (st' := [.int v22]) rfl ?_
    refine ww_hi fun dhi => ?_
    have pa15 : prs s 145 l1 := dhi _ _ pa15.2.1 pa15.2.2 (dlo _ _ pa15)
    refine ww_istore (pc := 25) (i := 9) g.1 (lv' := [(9, .int v22), (8, .ref (q.1 145 l1)), (0, .ref (q.1 120 0)), (1, .int l1), (2, .int l2), (3, .long l3), (5, .int l5), (6, .long l6)]) d_Ta_write_25 hl (by decide) rfl fun ls hl => ?_
    refine ww_iload (pc := 27) g.1 d_Ta_write_27 (lv_at hl 0 rfl) ?_
    refine ww_if_lt (pc := 29) (tgt := 89) g.1 d_Ta_write_29 (by decide) h (fun c h => ?_) (fun c h => ?_)
    · refine ww_iload (pc := 89) g.1 d_Ta_write_89 (lv_at hl 6 rfl) ?_
      refine ww_if_ne (pc := 91) (tgt := 96) g.1 d_Ta_write_91 (by decide) h (fun c h => ?_) (fun c h => ?_)
      · refine ww_aload (pc := 96) g.1 d_Ta_write_96 (lv_at hl 1 rfl) ?_
        refine ww_gI (pc := 98) g (k := 13) cl_Tg pa15 (by decide) (Or.inl kw_793) (f := 18573) rfl rfl d_Ta_write_98 h fun v98 h => ?_
        refine ww_aload (pc := 101) g.1 d_Ta_write_101 (lv_at hl 1 rfl) ?_
        refine ww_gI (pc := 103) g (k := 12) cl_Tg pa15 (by decide) (Or.inl kw_769) (f := 18572) rfl rfl d_Ta_write_103 h fun v103 h => ?_
        refine ww_icmp_ne (pc := 106) (tgt := 117) g.1 d_Ta_write_106 (by decide) h (fun c h => ?_) (fun c h => ?_)
        · refine ww_iconst (pc := 117) g.1 (v := 0) d_Ta_write_117 (by decide) ?_
          exact j_Ta_write_j118 g hR l2 l3 l5 l6 l1 0 s pa15 ls (lv_sub hl [2, 4, 5, 6, 7, 1] rfl) h
        · refine ww_aload_n (pc := 109) g.1 d_Ta_write_109 rfl (lv_at hl 2 rfl) ?_
          refine ww_iload_n (pc := 110) g.1 d_Ta_write_110 rfl (lv_at hl 3 rfl) ?_
          refine ww_lo fun dlo => ?_
          obtain ⟨v111, s, hc111, h⟩ := oB_of h
          refine ww_callV (pc := 111) (rest := []) g cv_Ta_makeRoom (Or.inl kw_1360) cl_Ta (pz rfl (by decide)) (ct_Ta_makeRoom hc111) ⟨by decide, by decide⟩ rfl hl.1 (Nat.le_of_ble_eq_true rfl) d_Ta_write_111 rfl (?_)
          refine ww_st (st' := [.int v111]) rfl ?_
          refine ww_hi fun dhi => ?_
          have pa15 : prs s 145 l1 := dhi _ _ pa15.2.1 pa15.2.2 (dlo _ _ pa15)
          refine ww_goto (pc := 114) (tgt := 118) g.1 d_Ta_write_114 (by decide) ?_
          exact j_Ta_write_j118 g hR l2 l3 l5 l6 l1 v111 s pa15 ls (lv_sub hl [2, 4, 5, 6, 7, 1] rfl) h
      · refine ww_iconst (pc := 94) g.1 (v := 0) d_Ta_write_94 (by decide) ?_
        exact ww_iretH (pc := 95) g h hR d_Ta_write_95
    · refine ww_aload_n (pc := 32) g.1 d_Ta_write_32 rfl (lv_at hl 2 rfl) ?_
      refine ww_gR (pc := 33) g (k := 2) cl_Ta (pz rfl (by decide)) (by decide) (Or.inl kw_797) (f := 15362) (t := 123) rfl rfl rfl d_Ta_write_33 ?_
      refine ww_iload (pc := 36) g.1 d_Ta_write_36 (lv_at hl 0 rfl) ?_
      refine ww_iload (pc := 38) g.1 d_Ta_write_38 (lv_at hl 6 rfl) ?_
      refine ww_i2b (pc := 40) g.1 (v := l5.toInt8.toInt32) d_Ta_write_40 rfl ?_
      refine ww_sb (pc := 41) g (pz rfl (by decide)) rfl rfl d_Ta_write_41 h fun s hs h => ?_
      have pa15 : prs s 145 l1 := hs ▸ pa15
      refine ww_aload_n (pc := 42) g.1 d_Ta_write_42 rfl (lv_at hl 2 rfl) ?_
      refine ww_gR (pc := 43) g (k := 3) cl_Ta (pz rfl (by decide)) (by decide) (Or.inl kw_798) (f := 15363) (t := 124) rfl rfl rfl d_Ta_write_43 ?_
      refine ww_iload (pc := 46) g.1 d_Ta_write_46 (lv_at hl 0 rfl) ?_
      refine ww_lload (pc := 48) g.1 d_Ta_write_48 (lv_at hl 7 rfl) ?_
      refine ww_sl (pc := 50) g (pz rfl (by decide)) rfl rfl d_Ta_write_50 h fun s hs h => ?_
      have pa15 : prs s 145 l1 := hs ▸ pa15
      refine ww_iload (pc := 51) g.1 d_Ta_write_51 (lv_at hl 6 rfl) ?_
      refine ww_if_ne (pc := 53) (tgt := 87) g.1 d_Ta_write_53 (by decide) h (fun c h => ?_) (fun c h => ?_)
      · refine ww_iconst (pc := 87) g.1 (v := 0) d_Ta_write_87 (by decide) ?_
        exact ww_iretH (pc := 88) g h hR d_Ta_write_88
      · refine ww_iload_n (pc := 56) g.1 d_Ta_write_56 rfl (lv_at hl 4 rfl) ?_
        refine ww_iconst (pc := 57) g.1 (v := 3) d_Ta_write_57 (by decide) ?_
        refine ww_icmp_ne (pc := 58) (tgt := 87) g.1 d_Ta_write_58 (by decide) h (fun c h => ?_) (fun c h => ?_)
        · refine ww_iconst (pc := 87) g.1 (v := 0) d_Ta_write_87 (by decide) ?_
          exact ww_iretH (pc := 88) g h hR d_Ta_write_88
        · refine ww_lload_n (pc := 61) g.1 d_Ta_write_61 rfl (lv_at hl 5 rfl) ?_
          refine ww_lconst (pc := 62) g.1 (v := 0) d_Ta_write_62 (by decide) ?_
          refine ww_lcmp (pc := 63) g.1 d_Ta_write_63 ?_
          refine ww_if_le (pc := 64) (tgt := 87) g.1 d_Ta_write_64 (by decide) h (fun c h => ?_) (fun c h => ?_)
          · refine ww_iconst (pc := 87) g.1 (v := 0) d_Ta_write_87 (by decide) ?_
            exact ww_iretH (pc := 88) g h hR d_Ta_write_88
          · refine ww_lload_n (pc := 67) g.1 d_Ta_write_67 rfl (lv_at hl 5 rfl) ?_
            refine ww_aload (pc := 68) g.1 d_Ta_write_68 (lv_at hl 1 rfl) ?_
            refine ww_gI (pc := 70) g (k := 15) cl_Tg pa15 (by decide) (Or.inl kw_1117) (f := 18575) rfl rfl d_Ta_write_70 h fun v70 h => ?_
            refine ww_i2l (pc := 73) g.1 (v := v70.toInt64) d_Ta_write_73 rfl ?_
            refine ww_lcmp (pc := 74) g.1 d_Ta_write_74 ?_
            refine ww_if_gt (pc := 75) (tgt := 87) g.1 d_Ta_write_75 (by decide) h (fun c h => ?_) (fun c h => ?_)
            · refine ww_iconst (pc := 87) g.1 (v := 0) d_Ta_write_87 (by decide) ?_
              exact ww_iretH (pc := 88) g h hR d_Ta_write_88
            · refine ww_aload (pc := 78) g.1 d_Ta_write_78 (lv_at hl 1 rfl) ?_
              refine ww_lload_n (pc := 80) g.1 d_Ta_write_80 rfl (lv_at hl 5 rfl) ?_
              refine ww_l2i (pc := 81) g.1 (v := l3.toInt32) d_Ta_write_81 rfl ?_
              refine ww_iconst (pc := 82) g.1 (v := 1) d_Ta_write_82 (by decide) ?_
              refine ww_isub (pc := 83) g.1 d_Ta_write_83 ?_
              refine ww_pI (pc := 84) g (k := 15) cl_Tg pa15 (by decide) (Or.inl kw_1117) rfl (f := 18575) rfl rfl rfl rfl d_Ta_write_84 h fun s hs h => ?_
              have pa15 : prs s 145 l1 := prs_kI (r := 145) (k := 15) (by decide) hs pa15
              refine ww_iconst (pc := 87) g.1 (v := 0) d_Ta_write_87 (by decide) ?_
              exact ww_iretH (pc := 88) g h hR d_Ta_write_88
  · refine ww_bipush (pc := 4) g.1 (v := 6) d_Ta_write_4 (by decide) ?_
    exact ww_iretH (pc := 6) g h hR d_Ta_write_6

abbrev b_He_makeClosure : ByteArray := prog_6_method_7_code
def y_He_makeClosure : MethodName := ⟨R_He, "makeClosure", "(II)I"⟩
abbrev w_He_makeClosure : List Cond := .code y_He_makeClosure b_He_makeClosure 5 (some .int) :: wA
theorem k_He_makeClosure : Cond.code y_He_makeClosure b_He_makeClosure 5 (some .int) ∈ wA := kinm (show _ ∈ tables_1 from (List.mem_append_right _ (List.mem_append_right _ (List.mem_append_right _ (List.mem_append_right _ (List.mem_append_right _ (List.mem_append_left _ (List.mem_of_getElem? (l := tables_1_6) (i := 78) (by decide +kernel))))))))) (by decide +kernel)
theorem d_He_makeClosure_0 : decode b_He_makeClosure 0 = .ok (.aload_n 0, 1) := by decide +kernel
theorem d_He_makeClosure_1 : decode b_He_makeClosure 1 = .ok (.bipush 6, 2) := by decide +kernel
theorem d_He_makeClosure_3 : decode b_He_makeClosure 3 = .ok (.iload_n 2, 1) := by decide +kernel
theorem d_He_makeClosure_4 : decode b_He_makeClosure 4 = .ok (.iconst 0, 1) := by decide +kernel
theorem d_He_makeClosure_5 : decode b_He_makeClosure 5 = .ok (.invokevirtual 93, 3) := by decide +kernel
theorem d_He_makeClosure_8 : decode b_He_makeClosure 8 = .ok (.istore_n 3, 1) := by decide +kernel
theorem d_He_makeClosure_9 : decode b_He_makeClosure 9 = .ok (.iload_n 3, 1) := by decide +kernel
theorem d_He_makeClosure_10 : decode b_He_makeClosure 10 = .ok (.ifCond .lt 43, 3) := by decide +kernel
theorem d_He_makeClosure_13 : decode b_He_makeClosure 13 = .ok (.aload_n 0, 1) := by decide +kernel
theorem d_He_makeClosure_14 : decode b_He_makeClosure 14 = .ok (.getfield 11, 3) := by decide +kernel
theorem d_He_makeClosure_17 : decode b_He_makeClosure 17 = .ok (.iload_n 3, 1) := by decide +kernel
theorem d_He_makeClosure_18 : decode b_He_makeClosure 18 = .ok (.aaload, 1) := by decide +kernel
theorem d_He_makeClosure_19 : decode b_He_makeClosure 19 = .ok (.astore 4, 2) := by decide +kernel
theorem d_He_makeClosure_21 : decode b_He_makeClosure 21 = .ok (.aload 4, 2) := by decide +kernel
theorem d_He_makeClosure_23 : decode b_He_makeClosure 23 = .ok (.iload_n 1, 1) := by decide +kernel
theorem d_He_makeClosure_24 : decode b_He_makeClosure 24 = .ok (.putfield 97, 3) := by decide +kernel
theorem d_He_makeClosure_27 : decode b_He_makeClosure 27 = .ok (.aload 4, 2) := by decide +kernel
theorem d_He_makeClosure_29 : decode b_He_makeClosure 29 = .ok (.getfield 107, 3) := by decide +kernel
theorem d_He_makeClosure_32 : decode b_He_makeClosure 32 = .ok (.ifnull 13, 3) := by decide +kernel
theorem d_He_makeClosure_35 : decode b_He_makeClosure 35 = .ok (.aload 4, 2) := by decide +kernel
theorem d_He_makeClosure_37 : decode b_He_makeClosure 37 = .ok (.getfield 107, 3) := by decide +kernel
theorem d_He_makeClosure_40 : decode b_He_makeClosure 40 = .ok (.arraylength, 1) := by decide +kernel
theorem d_He_makeClosure_41 : decode b_He_makeClosure 41 = .ok (.iload_n 2, 1) := by decide +kernel
theorem d_He_makeClosure_42 : decode b_He_makeClosure 42 = .ok (.if_icmp .ge 11, 3) := by decide +kernel
theorem d_He_makeClosure_45 : decode b_He_makeClosure 45 = .ok (.aload 4, 2) := by decide +kernel
theorem d_He_makeClosure_47 : decode b_He_makeClosure 47 = .ok (.iload_n 2, 1) := by decide +kernel
theorem d_He_makeClosure_48 : decode b_He_makeClosure 48 = .ok (.newarray .int, 2) := by decide +kernel
theorem d_He_makeClosure_50 : decode b_He_makeClosure 50 = .ok (.putfield 107, 3) := by decide +kernel
theorem d_He_makeClosure_53 : decode b_He_makeClosure 53 = .ok (.iload_n 3, 1) := by decide +kernel
theorem d_He_makeClosure_54 : decode b_He_makeClosure 54 = .ok (.ireturn, 1) := by decide +kernel
theorem kw_1363 : Cond.instanceMethod y_He_makeClosure ∈ wA := kinm (show _ ∈ tables_1 from (List.mem_append_right _ (List.mem_append_right _ (List.mem_append_right _ (List.mem_append_right _ (List.mem_append_right _ (List.mem_append_left _ (List.mem_of_getElem? (l := tables_1_6) (i := 76) (by decide +kernel))))))))) (by decide +kernel)
theorem kw_1364 : Cond.selects R_He y_He_makeClosure y_He_makeClosure ∈ wA := kinm (show _ ∈ tables_1 from (List.mem_append_right _ (List.mem_append_right _ (List.mem_append_right _ (List.mem_append_right _ (List.mem_append_right _ (List.mem_append_left _ (List.mem_of_getElem? (l := tables_1_6) (i := 77) (by decide +kernel))))))))) (by decide +kernel)
theorem cv_He_makeClosure : CV y_He_makeClosure b_He_makeClosure 5 (some .int) 2 := ⟨kw_1363, kw_1364, kw_712, k_He_makeClosure, by decide +kernel⟩
theorem j_He_makeClosure_j45 {X : Cx} {q0 q : PL} (g : Gd X y_He_makeClosure b_He_makeClosure 5 (some .int) 4 97 R_He) {o : (Int32 × (Nat × Nat)) × S1} (hR : RtX X [147] q0 o.1.2 o.2 (fun _ => some (.int o.1.1))) (hx0 : Exq (xP X) [147] q0 q) (l2 : Int32) (l3 : Int32) (l4 : Int32) (ln : Nat × Nat) (hm : Rmq (xP X) q ln) (s : S1) (hp0 : prs s 145 l4) (ls : Array Slot) (hl : lv_has ls 5 [(2, .int l2), (3, .int l3), (4, .ref (q.1 145 l4))]) (h : M_He_makeClosure_j45 l2 l3 l4 ln s = some o) : WW X q s 45 ls [] := by
  unfold M_He_makeClosure_j45 at h
  refine ww_aload (pc := 45) g.1 d_He_makeClosure_45 (lv_at hl 2 rfl) ?_
  refine ww_iload_n (pc := 47) g.1 d_He_makeClosure_47 rfl (lv_at hl 0 rfl) ?_
  refine ww_ok h fun cn48 h => ?_
  refine ww_lo fun dlo => ?_
  refine ww_nwP (at0 := .int) (i := l4) (n := l2) (t := 147) (k := 10) (L := [147]) (pc := 48) g cl_Tg hp0 (by decide) (Or.inl kw_761) (Or.inl rfl) ⟨_, rfl⟩ rfl (by decide) (by decide) (hp0.2.2) (Or.inl rfl) (by decide) (by decide) (nrf1 (r0 := 145) (k := 10) rfl rfl (by decide) (by decide)) (Or.inl (by decide)) kw_622 hm d_He_makeClosure_48 d_He_makeClosure_50 cn48 h (fun _ => rfl) fun q48 m48 s hs hE hm pm48 h => ?_
  have hl : lv_has ls 5 [(2, .int l2), (3, .int l3)] := lv_sub hl [0, 1] rfl
  refine ww_st (st' := []) (by rfl) ?_
  have hx0 : Exq (xP X) [147] _ q48 := hx0.tr (hE.sub (by decide))
  refine ww_iload_n (pc := 53) g.1 d_He_makeClosure_53 rfl (lv_at hl 1 rfl) ?_
  exact ww_iretX (pc := 54) g h hR hx0 hm d_He_makeClosure_54

theorem ct_He_makeClosure {l : Launch} {P : PP} {q : PL} {s s' : S1} {n0 n1 : Nat × Nat} {l1 : Int32} {l2 : Int32} {r : Int32} (hm : Rmq P q n0) (h : M_He_makeClosure n0 l1 l2 s = some ((r, n1), s')) : CtX l y_He_makeClosure b_He_makeClosure 5 (some .int) 4 97 P [147] q s [.ref (q.1 111 0), .int l1, .int l2] (fun _ => some (.int r)) n1 s' := by
  refine ctX_of (by decide) (Nat.le_of_ble_eq_true rfl) fun X ls eP el g hR hl => ?_
  subst eP
  obtain ⟨q0, hq0⟩ : ∃ q0 : PL, q0 = q := ⟨q, rfl⟩
  have hx0 : Exq (xP X) [147] q0 q := hq0 ▸ Exq.rf
  rw [← hq0] at hR
  have hR : RtX X [147] q0 (((r, n1), s') : (Int32 × (Nat × Nat)) × S1).1.2 (((r, n1), s') : (Int32 × (Nat × Nat)) × S1).2 (fun _ => some (.int (((r, n1), s') : (Int32 × (Nat × Nat)) × S1).1.1)) := hR
  have hl : lv_has ls 5 [(0, .ref (q.1 111 0)), (1, .int l1), (2, .int l2)] := hl
  generalize ((r, n1), s') = o at h hR
  unfold M_He_makeClosure at h
  refine ww_aload_n (pc := 0) g.1 d_He_makeClosure_0 rfl (lv_at hl 0 rfl) ?_
  refine ww_bipush (pc := 1) g.1 (v := 6) d_He_makeClosure_1 (by decide) ?_
  refine ww_iload_n (pc := 3) g.1 d_He_makeClosure_3 rfl (lv_at hl 2 rfl) ?_
  refine ww_iconst (pc := 4) g.1 (v := 0) d_He_makeClosure_4 (by decide) ?_
  refine ww_lo fun dlo => ?_
  obtain ⟨v5, s, hc5, h⟩ := oB_of h
  refine ww_callVX (pc := 5) (rest := []) g cv_He_make (Or.inl kw_1357) cl_He (pz rfl (by decide)) (ct_He_make hm hc5) ⟨by decide, by decide⟩ rfl hl.1 (Nat.le_of_ble_eq_true rfl) d_He_makeClosure_5 rfl (fun q5 hE hm => ?_)
  have ex5_0 : q5.1 111 0 = q.1 111 0 := hE _ _ (by decide) (dlo _ _ (pz rfl (by decide)))
  have hl : lv_has ls 5 [(0, .ref (q5.1 111 0)), (1, .int l1), (2, .int l2)] := by rw [ex5_0]; exact hl
  refine ww_st (st' := [.int v5.1]) (by rfl) ?_
  have hx0 : Exq (xP X) [147] _ q5 := hx0.tr (hE.sub (by decide))
  refine ww_istore_n (pc := 8) (i := 3) g.1 (lv' := [(3, .int v5.1), (0, .ref (q5.1 111 0)), (1, .int l1), (2, .int l2)]) d_He_makeClosure_8 rfl hl (by decide) rfl fun ls hl => ?_
  refine ww_iload_n (pc := 9) g.1 d_He_makeClosure_9 rfl (lv_at hl 0 rfl) ?_
  refine ww_if_lt (pc := 10) (tgt := 53) g.1 d_He_makeClosure_10 (by decide) h (fun c h => ?_) (fun c h => ?_)
  · refine ww_iload_n (pc := 53) g.1 d_He_makeClosure_53 rfl (lv_at hl 0 rfl) ?_
    exact ww_iretX (pc := 54) g h hR hx0 hm d_He_makeClosure_54
  · refine ww_aload_n (pc := 13) g.1 d_He_makeClosure_13 rfl (lv_at hl 1 rfl) ?_
    refine ww_gR (pc := 14) g (k := 0) cl_He (pz rfl (by decide)) (by decide) (Or.inl kw_725) (f := 14208) (t := 112) rfl rfl rfl d_He_makeClosure_14 ?_
    refine ww_iload_n (pc := 17) g.1 d_He_makeClosure_17 rfl (lv_at hl 0 rfl) ?_
    refine ww_a8 (pc := 18) g (t := 145) (n := 4000) (pz rfl (by decide)) rfl rfl rfl rfl d_He_makeClosure_18 h fun pa18 h => ?_
    refine ww_astore (pc := 19) (i := 4) g.1 (lv' := [(4, .ref (q5.1 145 v5.1)), (3, .int v5.1), (0, .ref (q5.1 111 0)), (1, .int l1), (2, .int l2)]) d_He_makeClosure_19 hl (by decide) rfl fun ls hl => ?_
    refine ww_aload (pc := 21) g.1 d_He_makeClosure_21 (lv_at hl 0 rfl) ?_
    refine ww_iload_n (pc := 23) g.1 d_He_makeClosure_23 rfl (lv_at hl 3 rfl) ?_
    refine ww_pI (pc := 24) g (k := 4) cl_Tg pa18 (by decide) (Or.inl kw_759) rfl (f := 18564) rfl rfl rfl rfl d_He_makeClosure_24 h fun s hs h => ?_
    have pa18 : prs s 145 v5.1 := prs_kI (r := 145) (k := 4) (by decide) hs pa18
    refine ww_aload (pc := 27) g.1 d_He_makeClosure_27 (lv_at hl 0 rfl) ?_
    refine ww_g5 (pc := 29) g (k := 10) cl_Tg pa18 (by decide) (Or.inl kw_761) (f := 18570) (t := 147) (f2 := 18943) rfl rfl rfl rfl d_He_makeClosure_29 h fun v29 hv29 h => ?_
    refine ww_ifnull5 (pc := 32) (tgt := 45) g.1 d_He_makeClosure_32 (by decide) h (fun c32 h => ?_) (fun c32 h => ?_)
    · exact j_He_makeClosure_j45 g hR hx0 l2 v5.1 v5.1 v5.2 hm s pa18 ls (lv_sub hl [4, 1, 0] rfl) h
    · refine ww_aload (pc := 35) g.1 d_He_makeClosure_35 (lv_at hl 0 rfl) ?_
      refine ww_g5 (pc := 37) g (k := 10) cl_Tg pa18 (by decide) (Or.inl kw_761) (f := 18570) (t := 147) (f2 := 18943) rfl rfl rfl rfl d_He_makeClosure_37 h fun v37 hv37 h => ?_
      refine ww_ok h fun cv37 h => ?_
      refine ww_dn cv37 ?_
      have pd37 : prs s 147 v5.1 := pdn (hv37 ▸ cv37) pa18.2.1 pa18.2.2
      refine ww_ln pd37 h fun n40 hmn40 hnn40 h => ?_
      refine ww_alen (pc := 40) g (n := n40) pd37 (by decide) hmn40 d_He_makeClosure_40 ?_
      refine ww_iload_n (pc := 41) g.1 d_He_makeClosure_41 rfl (lv_at hl 4 rfl) ?_
      refine ww_icmp_ge (pc := 42) (tgt := 53) g.1 d_He_makeClosure_42 (by decide) h (fun c h => ?_) (fun c h => ?_)
      · refine ww_iload_n (pc := 53) g.1 d_He_makeClosure_53 rfl (lv_at hl 1 rfl) ?_
        exact ww_iretX (pc := 54) g h hR hx0 hm d_He_makeClosure_54
      · exact j_He_makeClosure_j45 g hR hx0 l2 v5.1 v5.1 v5.2 hm s pa18 ls (lv_sub hl [4, 1, 0] rfl) h

abbrev b_He_makeCoroutine : ByteArray := prog_6_method_8_code
def y_He_makeCoroutine : MethodName := ⟨R_He, "makeCoroutine", "(J)I"⟩
abbrev w_He_makeCoroutine : List Cond := .code y_He_makeCoroutine b_He_makeCoroutine 5 (some .int) :: wA
theorem k_He_makeCoroutine : Cond.code y_He_makeCoroutine b_He_makeCoroutine 5 (some .int) ∈ wA := kinm (show _ ∈ tables_1 from (List.mem_append_right _ (List.mem_append_right _ (List.mem_append_right _ (List.mem_append_right _ (List.mem_append_right _ (List.mem_append_left _ (List.mem_of_getElem? (l := tables_1_6) (i := 82) (by decide +kernel))))))))) (by decide +kernel)
theorem d_He_makeCoroutine_0 : decode b_He_makeCoroutine 0 = .ok (.aload_n 0, 1) := by decide +kernel
theorem d_He_makeCoroutine_1 : decode b_He_makeCoroutine 1 = .ok (.bipush 7, 2) := by decide +kernel
theorem d_He_makeCoroutine_3 : decode b_He_makeCoroutine 3 = .ok (.iconst 0, 1) := by decide +kernel
theorem d_He_makeCoroutine_4 : decode b_He_makeCoroutine 4 = .ok (.iconst 0, 1) := by decide +kernel
theorem d_He_makeCoroutine_5 : decode b_He_makeCoroutine 5 = .ok (.invokevirtual 93, 3) := by decide +kernel
theorem d_He_makeCoroutine_8 : decode b_He_makeCoroutine 8 = .ok (.istore_n 3, 1) := by decide +kernel
theorem d_He_makeCoroutine_9 : decode b_He_makeCoroutine 9 = .ok (.iload_n 3, 1) := by decide +kernel
theorem d_He_makeCoroutine_10 : decode b_He_makeCoroutine 10 = .ok (.ifCond .ge 5, 3) := by decide +kernel
theorem d_He_makeCoroutine_13 : decode b_He_makeCoroutine 13 = .ok (.iload_n 3, 1) := by decide +kernel
theorem d_He_makeCoroutine_14 : decode b_He_makeCoroutine 14 = .ok (.ireturn, 1) := by decide +kernel
theorem d_He_makeCoroutine_15 : decode b_He_makeCoroutine 15 = .ok (.iconst 0, 1) := by decide +kernel
theorem d_He_makeCoroutine_16 : decode b_He_makeCoroutine 16 = .ok (.istore 4, 2) := by decide +kernel
theorem d_He_makeCoroutine_18 : decode b_He_makeCoroutine 18 = .ok (.iload 4, 2) := by decide +kernel
theorem d_He_makeCoroutine_20 : decode b_He_makeCoroutine 20 = .ok (.bipush 31, 2) := by decide +kernel
theorem d_He_makeCoroutine_22 : decode b_He_makeCoroutine 22 = .ok (.if_icmp .ge 32, 3) := by decide +kernel
theorem d_He_makeCoroutine_25 : decode b_He_makeCoroutine 25 = .ok (.aload_n 0, 1) := by decide +kernel
theorem d_He_makeCoroutine_26 : decode b_He_makeCoroutine 26 = .ok (.getfield 29, 3) := by decide +kernel
theorem d_He_makeCoroutine_29 : decode b_He_makeCoroutine 29 = .ok (.iload 4, 2) := by decide +kernel
theorem d_He_makeCoroutine_31 : decode b_He_makeCoroutine 31 = .ok (.aaload, 1) := by decide +kernel
theorem d_He_makeCoroutine_32 : decode b_He_makeCoroutine 32 = .ok (.ifnull 22, 3) := by decide +kernel
theorem d_He_makeCoroutine_35 : decode b_He_makeCoroutine 35 = .ok (.aload_n 0, 1) := by decide +kernel
theorem d_He_makeCoroutine_36 : decode b_He_makeCoroutine 36 = .ok (.getfield 29, 3) := by decide +kernel
theorem d_He_makeCoroutine_39 : decode b_He_makeCoroutine 39 = .ok (.iload 4, 2) := by decide +kernel
theorem d_He_makeCoroutine_41 : decode b_He_makeCoroutine 41 = .ok (.aaload, 1) := by decide +kernel
theorem d_He_makeCoroutine_42 : decode b_He_makeCoroutine 42 = .ok (.getfield 62, 3) := by decide +kernel
theorem d_He_makeCoroutine_45 : decode b_He_makeCoroutine 45 = .ok (.ifCond .lt 9, 3) := by decide +kernel
theorem d_He_makeCoroutine_48 : decode b_He_makeCoroutine 48 = .ok (.iinc 4 1, 3) := by decide +kernel
theorem d_He_makeCoroutine_51 : decode b_He_makeCoroutine 51 = .ok (.goto (-33), 3) := by decide +kernel
theorem d_He_makeCoroutine_54 : decode b_He_makeCoroutine 54 = .ok (.aload_n 0, 1) := by decide +kernel
theorem d_He_makeCoroutine_55 : decode b_He_makeCoroutine 55 = .ok (.getfield 29, 3) := by decide +kernel
theorem d_He_makeCoroutine_58 : decode b_He_makeCoroutine 58 = .ok (.iload 4, 2) := by decide +kernel
theorem d_He_makeCoroutine_60 : decode b_He_makeCoroutine 60 = .ok (.aaload, 1) := by decide +kernel
theorem d_He_makeCoroutine_61 : decode b_He_makeCoroutine 61 = .ok (.ifnonnull 19, 3) := by decide +kernel
theorem d_He_makeCoroutine_64 : decode b_He_makeCoroutine 64 = .ok (.aload_n 0, 1) := by decide +kernel
theorem d_He_makeCoroutine_65 : decode b_He_makeCoroutine 65 = .ok (.getfield 29, 3) := by decide +kernel
theorem d_He_makeCoroutine_68 : decode b_He_makeCoroutine 68 = .ok (.iload 4, 2) := by decide +kernel
theorem d_He_makeCoroutine_70 : decode b_He_makeCoroutine 70 = .ok (.new 27, 3) := by decide +kernel
theorem d_He_makeCoroutine_73 : decode b_He_makeCoroutine 73 = .ok (.dup, 1) := by decide +kernel
theorem d_He_makeCoroutine_74 : decode b_He_makeCoroutine 74 = .ok (.iload 4, 2) := by decide +kernel
theorem d_He_makeCoroutine_76 : decode b_He_makeCoroutine 76 = .ok (.invokespecial 110, 3) := by decide +kernel
theorem d_He_makeCoroutine_79 : decode b_He_makeCoroutine 79 = .ok (.aastore, 1) := by decide +kernel
theorem d_He_makeCoroutine_80 : decode b_He_makeCoroutine 80 = .ok (.aload_n 0, 1) := by decide +kernel
theorem d_He_makeCoroutine_81 : decode b_He_makeCoroutine 81 = .ok (.getfield 29, 3) := by decide +kernel
theorem d_He_makeCoroutine_84 : decode b_He_makeCoroutine 84 = .ok (.iload 4, 2) := by decide +kernel
theorem d_He_makeCoroutine_86 : decode b_He_makeCoroutine 86 = .ok (.aaload, 1) := by decide +kernel
theorem d_He_makeCoroutine_87 : decode b_He_makeCoroutine 87 = .ok (.iload_n 3, 1) := by decide +kernel
theorem d_He_makeCoroutine_88 : decode b_He_makeCoroutine 88 = .ok (.lload_n 1, 1) := by decide +kernel
theorem d_He_makeCoroutine_89 : decode b_He_makeCoroutine 89 = .ok (.invokevirtual 113, 3) := by decide +kernel
theorem d_He_makeCoroutine_92 : decode b_He_makeCoroutine 92 = .ok (.aload_n 0, 1) := by decide +kernel
theorem d_He_makeCoroutine_93 : decode b_He_makeCoroutine 93 = .ok (.getfield 11, 3) := by decide +kernel
theorem d_He_makeCoroutine_96 : decode b_He_makeCoroutine 96 = .ok (.iload_n 3, 1) := by decide +kernel
theorem d_He_makeCoroutine_97 : decode b_He_makeCoroutine 97 = .ok (.aaload, 1) := by decide +kernel
theorem d_He_makeCoroutine_98 : decode b_He_makeCoroutine 98 = .ok (.iload 4, 2) := by decide +kernel
theorem d_He_makeCoroutine_100 : decode b_He_makeCoroutine 100 = .ok (.putfield 97, 3) := by decide +kernel
theorem d_He_makeCoroutine_103 : decode b_He_makeCoroutine 103 = .ok (.aload_n 0, 1) := by decide +kernel
theorem d_He_makeCoroutine_104 : decode b_He_makeCoroutine 104 = .ok (.getfield 21, 3) := by decide +kernel
theorem d_He_makeCoroutine_107 : decode b_He_makeCoroutine 107 = .ok (.bipush 11, 2) := by decide +kernel
theorem d_He_makeCoroutine_109 : decode b_He_makeCoroutine 109 = .ok (.dup2, 1) := by decide +kernel
theorem d_He_makeCoroutine_110 : decode b_He_makeCoroutine 110 = .ok (.iaload, 1) := by decide +kernel
theorem d_He_makeCoroutine_111 : decode b_He_makeCoroutine 111 = .ok (.iconst 1, 1) := by decide +kernel
theorem d_He_makeCoroutine_112 : decode b_He_makeCoroutine 112 = .ok (.iadd, 1) := by decide +kernel
theorem d_He_makeCoroutine_113 : decode b_He_makeCoroutine 113 = .ok (.iastore, 1) := by decide +kernel
theorem d_He_makeCoroutine_114 : decode b_He_makeCoroutine 114 = .ok (.iload_n 3, 1) := by decide +kernel
theorem d_He_makeCoroutine_115 : decode b_He_makeCoroutine 115 = .ok (.ireturn, 1) := by decide +kernel
theorem kw_1365 : Cond.methodLink R_He 113 y_Co_restart ∈ wA := kinm (show _ ∈ tables_1 from (List.mem_append_right _ (List.mem_append_right _ (List.mem_append_right _ (List.mem_append_right _ (List.mem_append_right _ (List.mem_append_left _ (List.mem_of_getElem? (l := tables_1_6) (i := 199) (by decide +kernel))))))))) (by decide +kernel)
theorem kw_1366 : Cond.classLink R_He 27 R_Co ∈ wA := kinm (show _ ∈ tables_1 from (List.mem_append_left _ (List.mem_of_getElem? (l := tables_1_1) (i := 131) (by decide +kernel)))) (by decide +kernel)
theorem kw_1367 : Cond.instantiable R_Co 12 ∈ wA := kinm (show _ ∈ tables_1 from (List.mem_append_right _ (List.mem_append_right _ (List.mem_append_right _ (List.mem_append_right _ (List.mem_append_right _ (List.mem_append_left _ (List.mem_of_getElem? (l := tables_1_6) (i := 83) (by decide +kernel))))))))) (by decide +kernel)
theorem kw_1368 : Cond.methodLink R_He 110 y_Co_init ∈ wA := kinm (show _ ∈ tables_1 from (List.mem_append_right _ (List.mem_append_right _ (List.mem_append_right _ (List.mem_append_right _ (List.mem_append_right _ (List.mem_append_left _ (List.mem_of_getElem? (l := tables_1_6) (i := 84) (by decide +kernel))))))))) (by decide +kernel)
theorem kw_1369 : Cond.instanceMethod y_He_makeCoroutine ∈ wA := kinm (show _ ∈ tables_1 from (List.mem_append_right _ (List.mem_append_right _ (List.mem_append_right _ (List.mem_append_right _ (List.mem_append_right _ (List.mem_append_left _ (List.mem_of_getElem? (l := tables_1_6) (i := 80) (by decide +kernel))))))))) (by decide +kernel)
theorem kw_1370 : Cond.selects R_He y_He_makeCoroutine y_He_makeCoroutine ∈ wA := kinm (show _ ∈ tables_1 from (List.mem_append_right _ (List.mem_append_right _ (List.mem_append_right _ (List.mem_append_right _ (List.mem_append_right _ (List.mem_append_left _ (List.mem_of_getElem? (l := tables_1_6) (i := 81) (by decide +kernel))))))))) (by decide +kernel)
theorem cv_He_makeCoroutine : CV y_He_makeCoroutine b_He_makeCoroutine 5 (some .int) 1 := ⟨kw_1369, kw_1370, kw_712, k_He_makeCoroutine, by decide +kernel⟩
theorem lp_He_makeCoroutine_L18 {X : Cx} {q0 : PL} (g : Gd X y_He_makeCoroutine b_He_makeCoroutine 5 (some .int) 4 97 R_He) (x : Int64 × Int32 × Int32 × (Nat × Nat)) (s : S1) (o : ((Int64 × Int32 × Int32 × (Nat × Nat)) ⊕ ((Int64 × Int32 × Int32 × (Nat × Nat)))) × S1) (h : M_He_makeCoroutine_L18 x s = some o) (hR : (Sum.elim (fun y : Int64 × Int32 × Int32 × (Nat × Nat) => ∀ q : PL, Exq (xP X) [149, 150, 151, 153] q0 q → Rmq (xP X) q y.2.2.2 → ∀ ls : Array Slot, lv_has ls 5 [(0, .ref (q.1 111 0)), (1, .long y.1), (3, .int y.2.1), (4, .int y.2.2.1)] → WW X q o.2 18 ls []) (fun y : Int64 × Int32 × Int32 × (Nat × Nat) => ∀ q : PL, Exq (xP X) [149, 150, 151, 153] q0 q → Rmq (xP X) q y.2.2.2 → ∀ ls : Array Slot, lv_has ls 5 [(0, .ref (q.1 111 0)), (1, .long y.1), (3, .int y.2.1), (4, .int y.2.2.1)] → WW X q o.2 54 ls []) o.1)) : ∀ q : PL, Exq (xP X) [149, 150, 151, 153] q0 q → Rmq (xP X) q x.2.2.2 → ∀ ls : Array Slot, lv_has ls 5 [(0, .ref (q.1 111 0)), (1, .long x.1), (3, .int x.2.1), (4, .int x.2.2.1)] → WW X q s 18 ls [] := by
  intro q hx0 hm ls hl
  unfold M_He_makeCoroutine_L18 at h
  refine ww_iload (pc := 18) g.1 d_He_makeCoroutine_18 (lv_at hl 3 rfl) ?_
  refine ww_bipush (pc := 20) g.1 (v := 31) d_He_makeCoroutine_20 (by decide) ?_
  refine ww_icmp_ge (pc := 22) (tgt := 54) g.1 d_He_makeCoroutine_22 (by decide) h (fun c h => ?_) (fun c h => ?_)
  · rw [oR_eq h] at hR
    exact hR q hx0 hm ls (lv_sub hl [0, 1, 2, 3] rfl)
  · refine ww_aload_n (pc := 25) g.1 d_He_makeCoroutine_25 rfl (lv_at hl 0 rfl) ?_
    refine ww_gR (pc := 26) g (k := 6) cl_He (pz rfl (by decide)) (by decide) (Or.inl kw_708) (f := 14214) (t := 116) rfl rfl rfl d_He_makeCoroutine_26 ?_
    refine ww_iload (pc := 29) g.1 d_He_makeCoroutine_29 (lv_at hl 3 rfl) ?_
    refine ww_a8N (pc := 31) g (t := 148) (n := 32) (pz rfl (by decide)) rfl rfl rfl d_He_makeCoroutine_31 h fun v31 h => ?_
    refine ww_ifnullV (pc := 32) (tgt := 54) g.1 d_He_makeCoroutine_32 (by decide) h (fun c h => ?_) (fun c h => ?_)
    · rw [oR_eq h] at hR
      exact hR q hx0 hm ls (lv_sub hl [0, 1, 2, 3] rfl)
    · refine ww_aload_n (pc := 35) g.1 d_He_makeCoroutine_35 rfl (lv_at hl 0 rfl) ?_
      refine ww_gR (pc := 36) g (k := 6) cl_He (pz rfl (by decide)) (by decide) (Or.inl kw_708) (f := 14214) (t := 116) rfl rfl rfl d_He_makeCoroutine_36 ?_
      refine ww_iload (pc := 39) g.1 d_He_makeCoroutine_39 (lv_at hl 3 rfl) ?_
      refine ww_a8 (pc := 41) g (t := 148) (n := 32) (pz rfl (by decide)) rfl rfl rfl rfl d_He_makeCoroutine_41 h fun pa41 h => ?_
      refine ww_gI (pc := 42) g (k := 6) cl_Co pa41 (by decide) (Or.inl kw_709) (f := 18950) rfl rfl d_He_makeCoroutine_42 h fun v42 h => ?_
      refine ww_if_lt (pc := 45) (tgt := 54) g.1 d_He_makeCoroutine_45 (by decide) h (fun c h => ?_) (fun c h => ?_)
      · rw [oR_eq h] at hR
        exact hR q hx0 hm ls (lv_sub hl [0, 1, 2, 3] rfl)
      · refine ww_iinc (pc := 48) g.1 (v := x.2.2.1 + 1) (lv' := [(4, .int (x.2.2.1 + 1)), (0, .ref (q.1 111 0)), (1, .long x.1), (3, .int x.2.1)]) d_He_makeCoroutine_48 hl (k := 3) rfl (by rfl) (by decide) rfl fun ls hl => ?_
        refine ww_goto (pc := 51) (tgt := 18) g.1 d_He_makeCoroutine_51 (by decide) ?_
        rw [oR_eq h] at hR
        exact hR q hx0 hm ls (lv_sub hl [1, 2, 3, 0] rfl)

theorem j_He_makeCoroutine_j80 {X : Cx} {q0 q : PL} (g : Gd X y_He_makeCoroutine b_He_makeCoroutine 5 (some .int) 4 97 R_He) {o : (Int32 × (Nat × Nat)) × S1} (hR : RtX X [149, 150, 151, 153] q0 o.1.2 o.2 (fun _ => some (.int o.1.1))) (hx0 : Exq (xP X) [149, 150, 151, 153] q0 q) (l1 : Int64) (l3 : Int32) (l4 : Int32) (ln : Nat × Nat) (hm : Rmq (xP X) q ln) (s : S1) (ls : Array Slot) (hl : lv_has ls 5 [(0, .ref (q.1 111 0)), (1, .long l1), (3, .int l3), (4, .int l4)]) (h : M_He_makeCoroutine_j80 l1 l3 l4 ln s = some o) : WW X q s 80 ls [] := by
  unfold M_He_makeCoroutine_j80 at h
  refine ww_aload_n (pc := 80) g.1 d_He_makeCoroutine_80 rfl (lv_at hl 0 rfl) ?_
  refine ww_gR (pc := 81) g (k := 6) cl_He (pz rfl (by decide)) (by decide) (Or.inl kw_708) (f := 14214) (t := 116) rfl rfl rfl d_He_makeCoroutine_81 ?_
  refine ww_iload (pc := 84) g.1 d_He_makeCoroutine_84 (lv_at hl 3 rfl) ?_
  refine ww_a8 (pc := 86) g (t := 148) (n := 32) (pz rfl (by decide)) rfl rfl rfl rfl d_He_makeCoroutine_86 h fun pa86 h => ?_
  refine ww_iload_n (pc := 87) g.1 d_He_makeCoroutine_87 rfl (lv_at hl 2 rfl) ?_
  refine ww_lload_n (pc := 88) g.1 d_He_makeCoroutine_88 rfl (lv_at hl 1 rfl) ?_
  obtain ⟨v89, s, hc89, h⟩ := oB_of h
  refine ww_callV (pc := 89) (rest := []) g cv_Co_restart (Or.inl kw_1365) cl_Co pa86 (ct_Co_restart pa86 hc89) ⟨by decide, by decide⟩ rfl hl.1 (Nat.le_of_ble_eq_true rfl) d_He_makeCoroutine_89 rfl (?_)
  refine ww_st (st' := []) rfl ?_
  refine ww_aload_n (pc := 92) g.1 d_He_makeCoroutine_92 rfl (lv_at hl 0 rfl) ?_
  refine ww_gR (pc := 93) g (k := 0) cl_He (pz rfl (by decide)) (by decide) (Or.inl kw_725) (f := 14208) (t := 112) rfl rfl rfl d_He_makeCoroutine_93 ?_
  refine ww_iload_n (pc := 96) g.1 d_He_makeCoroutine_96 rfl (lv_at hl 2 rfl) ?_
  refine ww_a8 (pc := 97) g (t := 145) (n := 4000) (pz rfl (by decide)) rfl rfl rfl rfl d_He_makeCoroutine_97 h fun pa97 h => ?_
  refine ww_iload (pc := 98) g.1 d_He_makeCoroutine_98 (lv_at hl 3 rfl) ?_
  refine ww_pI (pc := 100) g (k := 4) cl_Tg pa97 (by decide) (Or.inl kw_759) rfl (f := 18564) rfl rfl rfl rfl d_He_makeCoroutine_100 h fun s hs h => ?_
  refine ww_aload_n (pc := 103) g.1 d_He_makeCoroutine_103 rfl (lv_at hl 0 rfl) ?_
  refine ww_gR (pc := 104) g (k := 4) cl_He (pz rfl (by decide)) (by decide) (Or.inl kw_704) (f := 14212) (t := 114) rfl rfl rfl d_He_makeCoroutine_104 ?_
  refine ww_bipush (pc := 107) g.1 (v := 11) d_He_makeCoroutine_107 (by decide) ?_
  refine ww_dup2_11 (pc := 109) g.1 d_He_makeCoroutine_109 rfl rfl ?_
  refine ww_ai (pc := 110) g (pz rfl (by decide)) rfl rfl d_He_makeCoroutine_110 h fun v110 h => ?_
  refine ww_iconst (pc := 111) g.1 (v := 1) d_He_makeCoroutine_111 (by decide) ?_
  refine ww_iadd (pc := 112) g.1 d_He_makeCoroutine_112 ?_
  refine ww_si (pc := 113) g (pz rfl (by decide)) rfl rfl d_He_makeCoroutine_113 h fun s hs h => ?_
  refine ww_iload_n (pc := 114) g.1 d_He_makeCoroutine_114 rfl (lv_at hl 2 rfl) ?_
  exact ww_iretX (pc := 115) g h hR hx0 hm d_He_makeCoroutine_115

theorem j_He_makeCoroutine_j54 {X : Cx} {q0 q : PL} (g : Gd X y_He_makeCoroutine b_He_makeCoroutine 5 (some .int) 4 97 R_He) {o : (Int32 × (Nat × Nat)) × S1} (hR : RtX X [149, 150, 151, 153] q0 o.1.2 o.2 (fun _ => some (.int o.1.1))) (hx0 : Exq (xP X) [149, 150, 151, 153] q0 q) (l1 : Int64) (l3 : Int32) (l4 : Int32) (ln : Nat × Nat) (hm : Rmq (xP X) q ln) (s : S1) (ls : Array Slot) (hl : lv_has ls 5 [(0, .ref (q.1 111 0)), (1, .long l1), (3, .int l3), (4, .int l4)]) (h : M_He_makeCoroutine_j54 l1 l3 l4 ln s = some o) : WW X q s 54 ls [] := by
  unfold M_He_makeCoroutine_j54 at h
  refine ww_aload_n (pc := 54) g.1 d_He_makeCoroutine_54 rfl (lv_at hl 0 rfl) ?_
  refine ww_gR (pc := 55) g (k := 6) cl_He (pz rfl (by decide)) (by decide) (Or.inl kw_708) (f := 14214) (t := 116) rfl rfl rfl d_He_makeCoroutine_55 ?_
  refine ww_iload (pc := 58) g.1 d_He_makeCoroutine_58 (lv_at hl 3 rfl) ?_
  refine ww_a8N (pc := 60) g (t := 148) (n := 32) (pz rfl (by decide)) rfl rfl rfl d_He_makeCoroutine_60 h fun v60 h => ?_
  refine ww_ifnonnullV (pc := 61) (tgt := 80) g.1 d_He_makeCoroutine_61 (by decide) h (fun c h => ?_) (fun c h => ?_)
  · exact j_He_makeCoroutine_j80 g hR hx0 l1 l3 l4 ln hm s ls (lv_sub hl [0, 1, 2, 3] rfl) h
  · refine ww_aload_n (pc := 64) g.1 d_He_makeCoroutine_64 rfl (lv_at hl 0 rfl) ?_
    refine ww_gR (pc := 65) g (k := 6) cl_He (pz rfl (by decide)) (by decide) (Or.inl kw_708) (f := 14214) (t := 116) rfl rfl rfl d_He_makeCoroutine_65 ?_
    refine ww_iload (pc := 68) g.1 d_He_makeCoroutine_68 (lv_at hl 3 rfl) ?_
    refine ww_ok h fun cn70 h => ?_
    refine ww_ks h fun cg70 h => ?_
    refine ww_lo fun dlo => ?_
    refine ww_nwN (j := l4) (t := 153) (L := [153]) (pc := 70) g cl_Nc dv_Nc (h5_Nc cg70) (by decide) ⟨rfl, rfl⟩ (in32 rfl cn70) (by decide) kw_1366 kw_1367 kw_821 hm d_He_makeCoroutine_70 h (fun _ => rfl) fun q70 m70 s hs hE hm pm70 h => ?_
    have ex70_0 : q70.1 111 0 = q.1 111 0 := hE _ _ (by decide) (dlo _ _ (pz rfl (by decide)))
    have ex70_1 : q70.1 116 0 = q.1 116 0 := hE _ _ (by decide) (dlo _ _ (pz rfl (by decide)))
    have hl : lv_has ls 5 [(0, .ref (q70.1 111 0)), (1, .long l1), (3, .int l3), (4, .int l4)] := by rw [ex70_0]; exact hl
    refine ww_st (st' := [.ref (q70.1 153 l4), .int l4, .ref (q70.1 116 0)]) (by first | (rw [ex70_1]; done) | (rw [ex70_1]; rfl)) ?_
    have hx0 : Exq (xP X) [149, 150, 151, 153] _ q70 := hx0.tr (hE.sub (by decide))
    refine ww_dup (pc := 73) g.1 d_He_makeCoroutine_73 rfl ?_
    refine ww_iload (pc := 74) g.1 d_He_makeCoroutine_74 (lv_at hl 3 rfl) ?_
    refine ww_lo fun dlo => ?_
    obtain ⟨v76, s, hc76, h⟩ := oB_of h
    refine ww_callIX (pc := 76) (rest := [.ref (q70.1 153 l4), .int l4, .ref (q70.1 116 0)]) (r := 153) (i := l4) g ci_Co_init (Or.inl kw_1368) (ct_Co_init pm70 hm hc76) ⟨by decide, by decide⟩ rfl hl.1 (Nat.le_of_ble_eq_true rfl) d_He_makeCoroutine_76 rfl (fun q76 hE hm => ?_)
    have ex76_0 : q76.1 111 0 = q70.1 111 0 := hE _ _ (by decide) (dlo _ _ (pz rfl (by decide)))
    have ex76_1 : q76.1 153 l4 = q70.1 153 l4 := hE _ _ (by decide) (dlo _ _ pm70)
    have ex76_2 : q76.1 116 0 = q70.1 116 0 := hE _ _ (by decide) (dlo _ _ (pz rfl (by decide)))
    have hl : lv_has ls 5 [(0, .ref (q76.1 111 0)), (1, .long l1), (3, .int l3), (4, .int l4)] := by rw [ex76_0]; exact hl
    refine ww_st (st' := [.ref (q76.1 153 l4), .int l4, .ref (q76.1 116 0)]) (by first | (rw [ex76_1, ex76_2]; done) | (rw [ex76_1, ex76_2]; rfl)) ?_
    refine ww_hi fun dhi => ?_
    have pm70 : prs s 153 l4 := dhi _ _ pm70.2.1 pm70.2.2 (by rw [ex76_1]; exact dlo _ _ pm70)
    have hx0 : Exq (xP X) [149, 150, 151, 153] _ q76 := hx0.tr (hE.sub (by decide))
    refine ww_lo fun dlo => ?_
    refine ww_coSt (pc := 79) (L := [153]) g cl_Co pm70 (by decide) hm d_He_makeCoroutine_79 h rfl fun q79 s hs hE hm pm79 h => ?_
    have ex79_0 : q79.1 111 0 = q76.1 111 0 := hE _ _ (by decide) (dlo _ _ (pz rfl (by decide)))
    have hl : lv_has ls 5 [(0, .ref (q79.1 111 0)), (1, .long l1), (3, .int l3), (4, .int l4)] := by rw [ex79_0]; exact hl
    refine ww_st (st' := []) (by rfl) ?_
    have hx0 : Exq (xP X) [149, 150, 151, 153] _ q79 := hx0.tr (hE.sub (by decide))
    exact j_He_makeCoroutine_j80 g hR hx0 l1 l3 l4 v76.2 hm s ls (lv_sub hl [0, 1, 2, 3] rfl) h

theorem ct_He_makeCoroutine {l : Launch} {P : PP} {q : PL} {s s' : S1} {n0 n1 : Nat × Nat} {l1 : Int64} {r : Int32} (hm : Rmq P q n0) (h : M_He_makeCoroutine n0 l1 s = some ((r, n1), s')) : CtX l y_He_makeCoroutine b_He_makeCoroutine 5 (some .int) 4 97 P [149, 150, 151, 153] q s [.ref (q.1 111 0), .long l1] (fun _ => some (.int r)) n1 s' := by
  refine ctX_of (by decide) (Nat.le_of_ble_eq_true rfl) fun X ls eP el g hR hl => ?_
  subst eP
  obtain ⟨q0, hq0⟩ : ∃ q0 : PL, q0 = q := ⟨q, rfl⟩
  have hx0 : Exq (xP X) [149, 150, 151, 153] q0 q := hq0 ▸ Exq.rf
  rw [← hq0] at hR
  have hR : RtX X [149, 150, 151, 153] q0 (((r, n1), s') : (Int32 × (Nat × Nat)) × S1).1.2 (((r, n1), s') : (Int32 × (Nat × Nat)) × S1).2 (fun _ => some (.int (((r, n1), s') : (Int32 × (Nat × Nat)) × S1).1.1)) := hR
  have hl : lv_has ls 5 [(0, .ref (q.1 111 0)), (1, .long l1)] := hl
  generalize ((r, n1), s') = o at h hR
  unfold M_He_makeCoroutine at h
  refine ww_aload_n (pc := 0) g.1 d_He_makeCoroutine_0 rfl (lv_at hl 0 rfl) ?_
  refine ww_bipush (pc := 1) g.1 (v := 7) d_He_makeCoroutine_1 (by decide) ?_
  refine ww_iconst (pc := 3) g.1 (v := 0) d_He_makeCoroutine_3 (by decide) ?_
  refine ww_iconst (pc := 4) g.1 (v := 0) d_He_makeCoroutine_4 (by decide) ?_
  refine ww_lo fun dlo => ?_
  obtain ⟨v5, s, hc5, h⟩ := oB_of h
  refine ww_callVX (pc := 5) (rest := []) g cv_He_make (Or.inl kw_1357) cl_He (pz rfl (by decide)) (ct_He_make hm hc5) ⟨by decide, by decide⟩ rfl hl.1 (Nat.le_of_ble_eq_true rfl) d_He_makeCoroutine_5 rfl (fun q5 hE hm => ?_)
  have ex5_0 : q5.1 111 0 = q.1 111 0 := hE _ _ (by decide) (dlo _ _ (pz rfl (by decide)))
  have hl : lv_has ls 5 [(0, .ref (q5.1 111 0)), (1, .long l1)] := by rw [ex5_0]; exact hl
  refine ww_st (st' := [.int v5.1]) (by rfl) ?_
  have hx0 : Exq (xP X) [149, 150, 151, 153] _ q5 := hx0.tr (hE.sub (by decide))
  refine ww_istore_n (pc := 8) (i := 3) g.1 (lv' := [(3, .int v5.1), (0, .ref (q5.1 111 0)), (1, .long l1)]) d_He_makeCoroutine_8 rfl hl (by decide) rfl fun ls hl => ?_
  refine ww_iload_n (pc := 9) g.1 d_He_makeCoroutine_9 rfl (lv_at hl 0 rfl) ?_
  refine ww_if_ge (pc := 10) (tgt := 15) g.1 d_He_makeCoroutine_10 (by decide) h (fun c h => ?_) (fun c h => ?_)
  · refine ww_iconst (pc := 15) g.1 (v := 0) d_He_makeCoroutine_15 (by decide) ?_
    refine ww_istore (pc := 16) (i := 4) g.1 (lv' := [(4, .int 0), (3, .int v5.1), (0, .ref (q5.1 111 0)), (1, .long l1)]) d_He_makeCoroutine_16 hl (by decide) rfl fun ls hl => ?_
    obtain ⟨e18, s1, hw, h⟩ := oB_of h
    refine oW_rule (Wh := fun (x : Int64 × Int32 × Int32 × (Nat × Nat)) (s : S1) => ∀ q : PL, Exq (xP X) [149, 150, 151, 153] q0 q → Rmq (xP X) q x.2.2.2 → ∀ ls : Array Slot, lv_has ls 5 [(0, .ref (q.1 111 0)), (1, .long x.1), (3, .int x.2.1), (4, .int x.2.2.1)] → WW X q s 18 ls []) (We := fun (e : (Int64 × Int32 × Int32 × (Nat × Nat))) (s : S1) => ∀ q : PL, Exq (xP X) [149, 150, 151, 153] q0 q → Rmq (xP X) q e.2.2.2 → ∀ ls : Array Slot, lv_has ls 5 [(0, .ref (q.1 111 0)), (1, .long e.1), (3, .int e.2.1), (4, .int e.2.2.1)] → WW X q s 54 ls []) (fun x s o hb hc => lp_He_makeCoroutine_L18 (q0 := q0) g x s o hb hc) hw ?_ q5 hx0 hm ls (lv_sub hl [2, 3, 1, 0] rfl)
    clear hw hl hx0 hm
    clear ls
    intro qL18 hx0 hm ls hl
    generalize s1 = s at h ⊢
    exact j_He_makeCoroutine_j54 g hR hx0 e18.1 e18.2.1 e18.2.2.1 e18.2.2.2 hm s ls (lv_sub hl [0, 1, 2, 3] rfl) h
  · refine ww_iload_n (pc := 13) g.1 d_He_makeCoroutine_13 rfl (lv_at hl 0 rfl) ?_
    exact ww_iretX (pc := 14) g h hR hx0 hm d_He_makeCoroutine_14

abbrev b_St_write : ByteArray := prog_10_method_13_code
def y_St_write : MethodName := ⟨R_St, "write", "(IJ)V"⟩
abbrev w_St_write : List Cond := .code y_St_write b_St_write 11 none :: wA
set_option maxRecDepth 20000 in
theorem k_St_write : Cond.code y_St_write b_St_write 11 none ∈ wA := kinm (show _ ∈ tables_1 from (List.mem_append_right _ (List.mem_append_right _ (List.mem_append_right _ (List.mem_append_right _ (List.mem_append_right _ (List.mem_append_right _ (List.mem_append_left _ (List.mem_of_getElem? (l := tables_1_7) (i := 43) rfl))))))))) rfl
theorem d_St_write_0 : decode b_St_write 0 = .ok (.iload_n 1, 1) := by decide +kernel
theorem d_St_write_1 : decode b_St_write 1 = .ok (.istore 4, 2) := by decide +kernel
theorem d_St_write_3 : decode b_St_write 3 = .ok (.lload_n 2, 1) := by decide +kernel
theorem d_St_write_4 : decode b_St_write 4 = .ok (.lstore 5, 2) := by decide +kernel
theorem d_St_write_6 : decode b_St_write 6 = .ok (.iconst 0, 1) := by decide +kernel
theorem d_St_write_7 : decode b_St_write 7 = .ok (.istore 7, 2) := by decide +kernel
theorem d_St_write_9 : decode b_St_write 9 = .ok (.iload 7, 2) := by decide +kernel
theorem d_St_write_11 : decode b_St_write 11 = .ok (.bipush 100, 2) := by decide +kernel
theorem d_St_write_13 : decode b_St_write 13 = .ok (.if_icmp .ge 247, 3) := by decide +kernel
theorem d_St_write_16 : decode b_St_write 16 = .ok (.iload 4, 2) := by decide +kernel
theorem d_St_write_18 : decode b_St_write 18 = .ok (.iconst 5, 1) := by decide +kernel
theorem d_St_write_19 : decode b_St_write 19 = .ok (.if_icmp .eq 12, 3) := by decide +kernel
theorem d_St_write_22 : decode b_St_write 22 = .ok (.aload_n 0, 1) := by decide +kernel
theorem d_St_write_23 : decode b_St_write 23 = .ok (.getfield 9, 3) := by decide +kernel
theorem d_St_write_26 : decode b_St_write 26 = .ok (.iconst 2, 1) := by decide +kernel
theorem d_St_write_27 : decode b_St_write 27 = .ok (.invokevirtual 193, 3) := by decide +kernel
theorem d_St_write_30 : decode b_St_write 30 = .ok (.return_, 1) := by decide +kernel
theorem d_St_write_31 : decode b_St_write 31 = .ok (.aload_n 0, 1) := by decide +kernel
theorem d_St_write_32 : decode b_St_write 32 = .ok (.getfield 26, 3) := by decide +kernel
theorem d_St_write_35 : decode b_St_write 35 = .ok (.lload 5, 2) := by decide +kernel
theorem d_St_write_37 : decode b_St_write 37 = .ok (.l2i, 1) := by decide +kernel
theorem d_St_write_38 : decode b_St_write 38 = .ok (.aload_n 0, 1) := by decide +kernel
theorem d_St_write_39 : decode b_St_write 39 = .ok (.aload_n 0, 1) := by decide +kernel
theorem d_St_write_40 : decode b_St_write 40 = .ok (.getfield 137, 3) := by decide +kernel
theorem d_St_write_43 : decode b_St_write 43 = .ok (.invokevirtual 77, 3) := by decide +kernel
theorem d_St_write_46 : decode b_St_write 46 = .ok (.aload_n 0, 1) := by decide +kernel
theorem d_St_write_47 : decode b_St_write 47 = .ok (.aload_n 0, 1) := by decide +kernel
theorem d_St_write_48 : decode b_St_write 48 = .ok (.getfield 137, 3) := by decide +kernel
theorem d_St_write_51 : decode b_St_write 51 = .ok (.invokevirtual 80, 3) := by decide +kernel
theorem d_St_write_54 : decode b_St_write 54 = .ok (.invokevirtual 197, 3) := by decide +kernel
theorem d_St_write_57 : decode b_St_write 57 = .ok (.istore 8, 2) := by decide +kernel
theorem d_St_write_59 : decode b_St_write 59 = .ok (.iload 8, 2) := by decide +kernel
theorem d_St_write_61 : decode b_St_write 61 = .ok (.ifCond .lt 20, 3) := by decide +kernel
theorem d_St_write_64 : decode b_St_write 64 = .ok (.aload_n 0, 1) := by decide +kernel
theorem d_St_write_65 : decode b_St_write 65 = .ok (.getfield 26, 3) := by decide +kernel
theorem d_St_write_68 : decode b_St_write 68 = .ok (.getfield 201, 3) := by decide +kernel
theorem d_St_write_71 : decode b_St_write 71 = .ok (.iload 8, 2) := by decide +kernel
theorem d_St_write_73 : decode b_St_write 73 = .ok (.baload, 1) := by decide +kernel
theorem d_St_write_74 : decode b_St_write 74 = .ok (.ifCond .eq 7, 3) := by decide +kernel
theorem d_St_write_77 : decode b_St_write 77 = .ok (.iconst (-1), 1) := by decide +kernel
theorem d_St_write_78 : decode b_St_write 78 = .ok (.goto 15, 3) := by decide +kernel
theorem d_St_write_81 : decode b_St_write 81 = .ok (.aload_n 0, 1) := by decide +kernel
theorem d_St_write_82 : decode b_St_write 82 = .ok (.getfield 26, 3) := by decide +kernel
theorem d_St_write_85 : decode b_St_write 85 = .ok (.iload 4, 2) := by decide +kernel
theorem d_St_write_87 : decode b_St_write 87 = .ok (.lload 5, 2) := by decide +kernel
theorem d_St_write_89 : decode b_St_write 89 = .ok (.iconst 1, 1) := by decide +kernel
theorem d_St_write_90 : decode b_St_write 90 = .ok (.invokevirtual 205, 3) := by decide +kernel
theorem d_St_write_93 : decode b_St_write 93 = .ok (.istore 9, 2) := by decide +kernel
theorem d_St_write_95 : decode b_St_write 95 = .ok (.iload 9, 2) := by decide +kernel
theorem d_St_write_97 : decode b_St_write 97 = .ok (.ifCond .ge 62, 3) := by decide +kernel
theorem d_St_write_100 : decode b_St_write 100 = .ok (.aload_n 0, 1) := by decide +kernel
theorem d_St_write_101 : decode b_St_write 101 = .ok (.getfield 26, 3) := by decide +kernel
theorem d_St_write_104 : decode b_St_write 104 = .ok (.lload 5, 2) := by decide +kernel
theorem d_St_write_106 : decode b_St_write 106 = .ok (.l2i, 1) := by decide +kernel
theorem d_St_write_107 : decode b_St_write 107 = .ok (.aload_n 0, 1) := by decide +kernel
theorem d_St_write_108 : decode b_St_write 108 = .ok (.aload_n 0, 1) := by decide +kernel
theorem d_St_write_109 : decode b_St_write 109 = .ok (.getfield 137, 3) := by decide +kernel
theorem d_St_write_112 : decode b_St_write 112 = .ok (.invokevirtual 77, 3) := by decide +kernel
theorem d_St_write_115 : decode b_St_write 115 = .ok (.aload_n 0, 1) := by decide +kernel
theorem d_St_write_116 : decode b_St_write 116 = .ok (.aload_n 0, 1) := by decide +kernel
theorem d_St_write_117 : decode b_St_write 117 = .ok (.getfield 137, 3) := by decide +kernel
theorem d_St_write_120 : decode b_St_write 120 = .ok (.invokevirtual 80, 3) := by decide +kernel
theorem d_St_write_123 : decode b_St_write 123 = .ok (.aload_n 0, 1) := by decide +kernel
theorem d_St_write_124 : decode b_St_write 124 = .ok (.aload_n 0, 1) := by decide +kernel
theorem d_St_write_125 : decode b_St_write 125 = .ok (.getfield 140, 3) := by decide +kernel
theorem d_St_write_128 : decode b_St_write 128 = .ok (.invokevirtual 77, 3) := by decide +kernel
theorem d_St_write_131 : decode b_St_write 131 = .ok (.aload_n 0, 1) := by decide +kernel
theorem d_St_write_132 : decode b_St_write 132 = .ok (.aload_n 0, 1) := by decide +kernel
theorem d_St_write_133 : decode b_St_write 133 = .ok (.getfield 140, 3) := by decide +kernel
theorem d_St_write_136 : decode b_St_write 136 = .ok (.invokevirtual 80, 3) := by decide +kernel
theorem d_St_write_139 : decode b_St_write 139 = .ok (.invokevirtual 213, 3) := by decide +kernel
theorem d_St_write_142 : decode b_St_write 142 = .ok (.istore 10, 2) := by decide +kernel
theorem d_St_write_144 : decode b_St_write 144 = .ok (.iload 10, 2) := by decide +kernel
theorem d_St_write_146 : decode b_St_write 146 = .ok (.ifCond .eq 12, 3) := by decide +kernel
theorem d_St_write_149 : decode b_St_write 149 = .ok (.aload_n 0, 1) := by decide +kernel
theorem d_St_write_150 : decode b_St_write 150 = .ok (.getfield 9, 3) := by decide +kernel
theorem d_St_write_153 : decode b_St_write 153 = .ok (.iload 10, 2) := by decide +kernel
theorem d_St_write_155 : decode b_St_write 155 = .ok (.invokevirtual 193, 3) := by decide +kernel
theorem d_St_write_158 : decode b_St_write 158 = .ok (.return_, 1) := by decide +kernel
theorem d_St_write_159 : decode b_St_write 159 = .ok (.aload_n 0, 1) := by decide +kernel
theorem d_St_write_160 : decode b_St_write 160 = .ok (.getfield 26, 3) := by decide +kernel
theorem d_St_write_163 : decode b_St_write 163 = .ok (.getfield 201, 3) := by decide +kernel
theorem d_St_write_166 : decode b_St_write 166 = .ok (.iload 9, 2) := by decide +kernel
theorem d_St_write_168 : decode b_St_write 168 = .ok (.baload, 1) := by decide +kernel
theorem d_St_write_169 : decode b_St_write 169 = .ok (.bipush 6, 2) := by decide +kernel
theorem d_St_write_171 : decode b_St_write 171 = .ok (.if_icmp .ne 59, 3) := by decide +kernel
theorem d_St_write_174 : decode b_St_write 174 = .ok (.aload_n 0, 1) := by decide +kernel
theorem d_St_write_175 : decode b_St_write 175 = .ok (.getfield 9, 3) := by decide +kernel
theorem d_St_write_178 : decode b_St_write 178 = .ok (.iload 9, 2) := by decide +kernel
theorem d_St_write_180 : decode b_St_write 180 = .ok (.iload 4, 2) := by decide +kernel
theorem d_St_write_182 : decode b_St_write 182 = .ok (.lload 5, 2) := by decide +kernel
theorem d_St_write_184 : decode b_St_write 184 = .ok (.aload_n 0, 1) := by decide +kernel
theorem d_St_write_185 : decode b_St_write 185 = .ok (.aload_n 0, 1) := by decide +kernel
theorem d_St_write_186 : decode b_St_write 186 = .ok (.getfield 137, 3) := by decide +kernel
theorem d_St_write_189 : decode b_St_write 189 = .ok (.invokevirtual 77, 3) := by decide +kernel
theorem d_St_write_192 : decode b_St_write 192 = .ok (.aload_n 0, 1) := by decide +kernel
theorem d_St_write_193 : decode b_St_write 193 = .ok (.aload_n 0, 1) := by decide +kernel
theorem d_St_write_194 : decode b_St_write 194 = .ok (.getfield 137, 3) := by decide +kernel
theorem d_St_write_197 : decode b_St_write 197 = .ok (.invokevirtual 80, 3) := by decide +kernel
theorem d_St_write_200 : decode b_St_write 200 = .ok (.invokevirtual 209, 3) := by decide +kernel
theorem d_St_write_203 : decode b_St_write 203 = .ok (.aload_n 0, 1) := by decide +kernel
theorem d_St_write_204 : decode b_St_write 204 = .ok (.getfield 9, 3) := by decide +kernel
theorem d_St_write_207 : decode b_St_write 207 = .ok (.getfield 216, 3) := by decide +kernel
theorem d_St_write_210 : decode b_St_write 210 = .ok (.aload_n 0, 1) := by decide +kernel
theorem d_St_write_211 : decode b_St_write 211 = .ok (.aload_n 0, 1) := by decide +kernel
theorem d_St_write_212 : decode b_St_write 212 = .ok (.getfield 140, 3) := by decide +kernel
theorem d_St_write_215 : decode b_St_write 215 = .ok (.invokevirtual 77, 3) := by decide +kernel
theorem d_St_write_218 : decode b_St_write 218 = .ok (.aload_n 0, 1) := by decide +kernel
theorem d_St_write_219 : decode b_St_write 219 = .ok (.aload_n 0, 1) := by decide +kernel
theorem d_St_write_220 : decode b_St_write 220 = .ok (.getfield 140, 3) := by decide +kernel
theorem d_St_write_223 : decode b_St_write 223 = .ok (.invokevirtual 80, 3) := by decide +kernel
theorem d_St_write_226 : decode b_St_write 226 = .ok (.invokevirtual 220, 3) := by decide +kernel
theorem d_St_write_229 : decode b_St_write 229 = .ok (.return_, 1) := by decide +kernel
theorem d_St_write_230 : decode b_St_write 230 = .ok (.aload_n 0, 1) := by decide +kernel
theorem d_St_write_231 : decode b_St_write 231 = .ok (.getfield 26, 3) := by decide +kernel
theorem d_St_write_234 : decode b_St_write 234 = .ok (.getfield 201, 3) := by decide +kernel
theorem d_St_write_237 : decode b_St_write 237 = .ok (.iload 9, 2) := by decide +kernel
theorem d_St_write_239 : decode b_St_write 239 = .ok (.baload, 1) := by decide +kernel
theorem d_St_write_240 : decode b_St_write 240 = .ok (.istore 4, 2) := by decide +kernel
theorem d_St_write_242 : decode b_St_write 242 = .ok (.aload_n 0, 1) := by decide +kernel
theorem d_St_write_243 : decode b_St_write 243 = .ok (.getfield 26, 3) := by decide +kernel
theorem d_St_write_246 : decode b_St_write 246 = .ok (.getfield 204, 3) := by decide +kernel
theorem d_St_write_249 : decode b_St_write 249 = .ok (.iload 9, 2) := by decide +kernel
theorem d_St_write_251 : decode b_St_write 251 = .ok (.laload, 1) := by decide +kernel
theorem d_St_write_252 : decode b_St_write 252 = .ok (.lstore 5, 2) := by decide +kernel
theorem d_St_write_254 : decode b_St_write 254 = .ok (.iinc 7 1, 3) := by decide +kernel
theorem d_St_write_257 : decode b_St_write 257 = .ok (.goto (-248), 3) := by decide +kernel
theorem d_St_write_260 : decode b_St_write 260 = .ok (.aload_n 0, 1) := by decide +kernel
theorem d_St_write_261 : decode b_St_write 261 = .ok (.getfield 9, 3) := by decide +kernel
theorem d_St_write_264 : decode b_St_write 264 = .ok (.iconst 4, 1) := by decide +kernel
theorem d_St_write_265 : decode b_St_write 265 = .ok (.invokevirtual 193, 3) := by decide +kernel
theorem d_St_write_268 : decode b_St_write 268 = .ok (.return_, 1) := by decide +kernel
theorem kw_1371 : Cond.methodLink R_St 213 y_Ta_write ∈ wA := kinm (show _ ∈ tables_1 from (List.mem_append_right _ (List.mem_append_right _ (List.mem_append_right _ (List.mem_append_right _ (List.mem_append_right _ (List.mem_append_right _ (List.mem_append_left _ (List.mem_of_getElem? (l := tables_1_7) (i := 58) (by decide +kernel)))))))))) (by decide +kernel)
theorem kw_1372 : Cond.instanceMethod y_St_write ∈ wA := kinm (show _ ∈ tables_1 from (List.mem_append_right _ (List.mem_append_right _ (List.mem_append_right _ (List.mem_append_right _ (List.mem_append_right _ (List.mem_append_right _ (List.mem_append_left _ (List.mem_of_getElem? (l := tables_1_7) (i := 42) (by decide +kernel)))))))))) (by decide +kernel)
theorem kw_1373 : Cond.selects R_St y_St_write y_St_write ∈ wA := kinp 38 (by decide +kernel) (by decide +kernel)
theorem cv_St_write : CV y_St_write b_St_write 11 none 2 := ⟨kw_1372, kw_1373, kw_883, k_St_write, by decide +kernel⟩
theorem j_St_write_j93 {X : Cx} {q : PL} (g : Gd X y_St_write b_St_write 11 none 5 132 R_St) {o : ((Int32 × Int64 × Int32) ⊕ ((Unit) ⊕ (Int64) ⊕ (Int32 × Int64 × Int32) ⊕ (Unit))) × S1} (hR : (Sum.elim (fun y : Int32 × Int64 × Int32 => ∀ ls : Array Slot, lv_has ls 11 [(0, .ref (q.1 129 0)), (4, .int y.1), (5, .long y.2.1), (7, .int y.2.2)] → WW X q o.2 9 ls []) (Sum.elim (fun y : Unit => ∀ ls : Array Slot, lv_has ls 11 [(0, .ref (q.1 129 0))] → WW X q o.2 22 ls []) (Sum.elim (fun y : Int64 => ∀ ls : Array Slot, lv_has ls 11 [(0, .ref (q.1 129 0)), (5, .long y)] → WW X q o.2 100 ls []) (Sum.elim (fun y : Int32 × Int64 × Int32 => ∀ ls : Array Slot, lv_has ls 11 [(0, .ref (q.1 129 0)), (4, .int y.1), (5, .long y.2.1), (9, .int y.2.2)] → WW X q o.2 174 ls []) (fun y : Unit => ∀ ls : Array Slot, lv_has ls 11 [(0, .ref (q.1 129 0))] → WW X q o.2 260 ls [])))) o.1)) (l4 : Int32) (l5 : Int64) (l7 : Int32) (k0 : Int32) (s : S1) (ls : Array Slot) (hl : lv_has ls 11 [(0, .ref (q.1 129 0)), (4, .int l4), (5, .long l5), (7, .int l7)]) (h : M_St_write_j93 l4 l5 l7 k0 s = some o) : WW X q s 93 ls [.int k0] := by
  unfold M_St_write_j93 at h
  refine ww_istore (pc := 93) (i := 9) g.1 (lv' := [(9, .int k0), (0, .ref (q.1 129 0)), (4, .int l4), (5, .long l5), (7, .int l7)]) d_St_write_93 hl (by decide) rfl fun ls hl => ?_
  refine ww_iload (pc := 95) g.1 d_St_write_95 (lv_at hl 0 rfl) ?_
  refine ww_if_ge (pc := 97) (tgt := 159) g.1 d_St_write_97 (by decide) h (fun c h => ?_) (fun c h => ?_)
  · refine ww_aload_n (pc := 159) g.1 d_St_write_159 rfl (lv_at hl 1 rfl) ?_
    refine ww_gR (pc := 160) g (k := 2) cl_St (pz rfl (by decide)) (by decide) (Or.inl kw_1101) (f := 16514) (t := 120) rfl rfl rfl d_St_write_160 ?_
    refine ww_gR (pc := 163) g (k := 2) cl_Ta (pz rfl (by decide)) (by decide) (Or.inl kw_1104) (f := 15362) (t := 123) rfl rfl rfl d_St_write_163 ?_
    refine ww_iload (pc := 166) g.1 d_St_write_166 (lv_at hl 0 rfl) ?_
    refine ww_ab (pc := 168) g (pz rfl (by decide)) rfl rfl d_St_write_168 h fun v168 h => ?_
    refine ww_bipush (pc := 169) g.1 (v := 6) d_St_write_169 (by decide) ?_
    refine ww_icmp_ne (pc := 171) (tgt := 230) g.1 d_St_write_171 (by decide) h (fun c h => ?_) (fun c h => ?_)
    · refine ww_aload_n (pc := 230) g.1 d_St_write_230 rfl (lv_at hl 1 rfl) ?_
      refine ww_gR (pc := 231) g (k := 2) cl_St (pz rfl (by decide)) (by decide) (Or.inl kw_1101) (f := 16514) (t := 120) rfl rfl rfl d_St_write_231 ?_
      refine ww_gR (pc := 234) g (k := 2) cl_Ta (pz rfl (by decide)) (by decide) (Or.inl kw_1104) (f := 15362) (t := 123) rfl rfl rfl d_St_write_234 ?_
      refine ww_iload (pc := 237) g.1 d_St_write_237 (lv_at hl 0 rfl) ?_
      refine ww_ab (pc := 239) g (pz rfl (by decide)) rfl rfl d_St_write_239 h fun v239 h => ?_
      refine ww_istore (pc := 240) (i := 4) g.1 (lv' := [(4, .int v239), (9, .int k0), (0, .ref (q.1 129 0)), (5, .long l5), (7, .int l7)]) d_St_write_240 hl (by decide) rfl fun ls hl => ?_
      refine ww_aload_n (pc := 242) g.1 d_St_write_242 rfl (lv_at hl 2 rfl) ?_
      refine ww_gR (pc := 243) g (k := 2) cl_St (pz rfl (by decide)) (by decide) (Or.inl kw_1101) (f := 16514) (t := 120) rfl rfl rfl d_St_write_243 ?_
      refine ww_gR (pc := 246) g (k := 3) cl_Ta (pz rfl (by decide)) (by decide) (Or.inl kw_1105) (f := 15363) (t := 124) rfl rfl rfl d_St_write_246 ?_
      refine ww_iload (pc := 249) g.1 d_St_write_249 (lv_at hl 1 rfl) ?_
      refine ww_al (pc := 251) g (pz rfl (by decide)) rfl rfl d_St_write_251 h fun v251 h => ?_
      refine ww_lstore (pc := 252) (i := 5) g.1 (lv' := [(5, .long v251), (4, .int v239), (9, .int k0), (0, .ref (q.1 129 0)), (7, .int l7)]) d_St_write_252 hl (by decide) rfl fun ls hl => ?_
      refine ww_iinc (pc := 254) g.1 (v := l7 + 1) (lv' := [(7, .int (l7 + 1)), (5, .long v251), (4, .int v239), (9, .int k0), (0, .ref (q.1 129 0))]) d_St_write_254 hl (k := 4) rfl (by rfl) (by decide) rfl fun ls hl => ?_
      refine ww_goto (pc := 257) (tgt := 9) g.1 d_St_write_257 (by decide) ?_
      rw [oR_eq h] at hR
      exact hR ls (lv_sub hl [4, 2, 1, 0] rfl)
    · rw [oR_eq h] at hR
      exact hR ls (lv_sub hl [1, 2, 3, 0] rfl)
  · rw [oR_eq h] at hR
    exact hR ls (lv_sub hl [1, 3] rfl)

theorem j_St_write_j81 {X : Cx} {q : PL} (g : Gd X y_St_write b_St_write 11 none 5 132 R_St) {o : ((Int32 × Int64 × Int32) ⊕ ((Unit) ⊕ (Int64) ⊕ (Int32 × Int64 × Int32) ⊕ (Unit))) × S1} (hR : (Sum.elim (fun y : Int32 × Int64 × Int32 => ∀ ls : Array Slot, lv_has ls 11 [(0, .ref (q.1 129 0)), (4, .int y.1), (5, .long y.2.1), (7, .int y.2.2)] → WW X q o.2 9 ls []) (Sum.elim (fun y : Unit => ∀ ls : Array Slot, lv_has ls 11 [(0, .ref (q.1 129 0))] → WW X q o.2 22 ls []) (Sum.elim (fun y : Int64 => ∀ ls : Array Slot, lv_has ls 11 [(0, .ref (q.1 129 0)), (5, .long y)] → WW X q o.2 100 ls []) (Sum.elim (fun y : Int32 × Int64 × Int32 => ∀ ls : Array Slot, lv_has ls 11 [(0, .ref (q.1 129 0)), (4, .int y.1), (5, .long y.2.1), (9, .int y.2.2)] → WW X q o.2 174 ls []) (fun y : Unit => ∀ ls : Array Slot, lv_has ls 11 [(0, .ref (q.1 129 0))] → WW X q o.2 260 ls [])))) o.1)) (l4 : Int32) (l5 : Int64) (l7 : Int32) (s : S1) (ls : Array Slot) (hl : lv_has ls 11 [(0, .ref (q.1 129 0)), (4, .int l4), (5, .long l5), (7, .int l7)]) (h : M_St_write_j81 l4 l5 l7 s = some o) : WW X q s 81 ls [] := by
  unfold M_St_write_j81 at h
  refine ww_aload_n (pc := 81) g.1 d_St_write_81 rfl (lv_at hl 0 rfl) ?_
  refine ww_gR (pc := 82) g (k := 2) cl_St (pz rfl (by decide)) (by decide) (Or.inl kw_1101) (f := 16514) (t := 120) rfl rfl rfl d_St_write_82 ?_
  refine ww_iload (pc := 85) g.1 d_St_write_85 (lv_at hl 1 rfl) ?_
  refine ww_lload (pc := 87) g.1 d_St_write_87 (lv_at hl 2 rfl) ?_
  refine ww_iconst (pc := 89) g.1 (v := 1) d_St_write_89 (by decide) ?_
  obtain ⟨v90, s, hc90, h⟩ := oB_of h
  refine ww_callV (pc := 90) (rest := []) g cv_Ta_findEvent (Or.inl kw_1103) cl_Ta (pz rfl (by decide)) (ct_Ta_findEvent hc90) ⟨by decide, by decide⟩ rfl hl.1 (Nat.le_of_ble_eq_true rfl) d_St_write_90 rfl (?_)
  refine ww_st (st' := [.int v90]) rfl ?_
  exact j_St_write_j93 g hR l4 l5 l7 v90 s ls (lv_sub hl [0, 1, 2, 3] rfl) h

theorem lp_St_write_L9 {X : Cx} {q : PL} (g : Gd X y_St_write b_St_write 11 none 5 132 R_St) (x : Int32 × Int64 × Int32) (s : S1) (o : ((Int32 × Int64 × Int32) ⊕ ((Unit) ⊕ (Int64) ⊕ (Int32 × Int64 × Int32) ⊕ (Unit))) × S1) (h : M_St_write_L9 x s = some o) (hR : (Sum.elim (fun y : Int32 × Int64 × Int32 => ∀ ls : Array Slot, lv_has ls 11 [(0, .ref (q.1 129 0)), (4, .int y.1), (5, .long y.2.1), (7, .int y.2.2)] → WW X q o.2 9 ls []) (Sum.elim (fun y : Unit => ∀ ls : Array Slot, lv_has ls 11 [(0, .ref (q.1 129 0))] → WW X q o.2 22 ls []) (Sum.elim (fun y : Int64 => ∀ ls : Array Slot, lv_has ls 11 [(0, .ref (q.1 129 0)), (5, .long y)] → WW X q o.2 100 ls []) (Sum.elim (fun y : Int32 × Int64 × Int32 => ∀ ls : Array Slot, lv_has ls 11 [(0, .ref (q.1 129 0)), (4, .int y.1), (5, .long y.2.1), (9, .int y.2.2)] → WW X q o.2 174 ls []) (fun y : Unit => ∀ ls : Array Slot, lv_has ls 11 [(0, .ref (q.1 129 0))] → WW X q o.2 260 ls [])))) o.1)) : ∀ ls : Array Slot, lv_has ls 11 [(0, .ref (q.1 129 0)), (4, .int x.1), (5, .long x.2.1), (7, .int x.2.2)] → WW X q s 9 ls [] := by
  intro ls hl
  unfold M_St_write_L9 at h
  refine ww_iload (pc := 9) g.1 d_St_write_9 (lv_at hl 3 rfl) ?_
  refine ww_bipush (pc := 11) g.1 (v := 100) d_St_write_11 (by decide) ?_
  refine ww_icmp_ge (pc := 13) (tgt := 260) g.1 d_St_write_13 (by decide) h (fun c h => ?_) (fun c h => ?_)
  · rw [oR_eq h] at hR
    exact hR ls (lv_sub hl [0] rfl)
  · refine ww_iload (pc := 16) g.1 d_St_write_16 (lv_at hl 1 rfl) ?_
    refine ww_iconst (pc := 18) g.1 (v := 5) d_St_write_18 (by decide) ?_
    refine ww_icmp_eq (pc := 19) (tgt := 31) g.1 d_St_write_19 (by decide) h (fun c h => ?_) (fun c h => ?_)
    · refine ww_aload_n (pc := 31) g.1 d_St_write_31 rfl (lv_at hl 0 rfl) ?_
      refine ww_gR (pc := 32) g (k := 2) cl_St (pz rfl (by decide)) (by decide) (Or.inl kw_1101) (f := 16514) (t := 120) rfl rfl rfl d_St_write_32 ?_
      refine ww_lload (pc := 35) g.1 d_St_write_35 (lv_at hl 2 rfl) ?_
      refine ww_l2i (pc := 37) g.1 (v := x.2.1.toInt32) d_St_write_37 rfl ?_
      refine ww_aload_n (pc := 38) g.1 d_St_write_38 rfl (lv_at hl 0 rfl) ?_
      refine ww_aload_n (pc := 39) g.1 d_St_write_39 rfl (lv_at hl 0 rfl) ?_
      refine ww_gI (pc := 40) g (k := 10) cl_St (pz rfl (by decide)) (by decide) (Or.inl kw_878) (f := 16522) rfl rfl d_St_write_40 h fun v40 h => ?_
      obtain ⟨v43, s, hc43, h⟩ := oB_of h
      refine ww_callV (pc := 43) (rest := [.int x.2.1.toInt32, .ref (q.1 120 0)]) g cv_St_kindOf (Or.inl kw_914) cl_St (pz rfl (by decide)) (ct_St_kindOf hc43) ⟨by decide, by decide⟩ rfl hl.1 (Nat.le_of_ble_eq_true rfl) d_St_write_43 rfl (?_)
      refine ww_st (st' := [.int v43, .int x.2.1.toInt32, .ref (q.1 120 0)]) rfl ?_
      refine ww_aload_n (pc := 46) g.1 d_St_write_46 rfl (lv_at hl 0 rfl) ?_
      refine ww_aload_n (pc := 47) g.1 d_St_write_47 rfl (lv_at hl 0 rfl) ?_
      refine ww_gI (pc := 48) g (k := 10) cl_St (pz rfl (by decide)) (by decide) (Or.inl kw_878) (f := 16522) rfl rfl d_St_write_48 h fun v48 h => ?_
      obtain ⟨v51, s, hc51, h⟩ := oB_of h
      refine ww_callV (pc := 51) (rest := [.int v43, .int x.2.1.toInt32, .ref (q.1 120 0)]) g cv_St_valueOf (Or.inl kw_1120) cl_St (pz rfl (by decide)) (ct_St_valueOf hc51) ⟨by decide, by decide⟩ rfl hl.1 (Nat.le_of_ble_eq_true rfl) d_St_write_51 rfl (?_)
      refine ww_st (st' := [.long v51, .int v43, .int x.2.1.toInt32, .ref (q.1 120 0)]) rfl ?_
      obtain ⟨v54, s, hc54, h⟩ := oB_of h
      refine ww_callV (pc := 54) (rest := []) g cv_Ta_find (Or.inl kw_1102) cl_Ta (pz rfl (by decide)) (ct_Ta_find hc54) ⟨by decide, by decide⟩ rfl hl.1 (Nat.le_of_ble_eq_true rfl) d_St_write_54 rfl (?_)
      refine ww_st (st' := [.int v54]) rfl ?_
      refine ww_istore (pc := 57) (i := 8) g.1 (lv' := [(8, .int v54), (0, .ref (q.1 129 0)), (4, .int x.1), (5, .long x.2.1), (7, .int x.2.2)]) d_St_write_57 hl (by decide) rfl fun ls hl => ?_
      refine ww_iload (pc := 59) g.1 d_St_write_59 (lv_at hl 0 rfl) ?_
      refine ww_if_lt (pc := 61) (tgt := 81) g.1 d_St_write_61 (by decide) h (fun c h => ?_) (fun c h => ?_)
      · exact j_St_write_j81 g hR x.1 x.2.1 x.2.2 s ls (lv_sub hl [1, 2, 3, 4] rfl) h
      · refine ww_aload_n (pc := 64) g.1 d_St_write_64 rfl (lv_at hl 1 rfl) ?_
        refine ww_gR (pc := 65) g (k := 2) cl_St (pz rfl (by decide)) (by decide) (Or.inl kw_1101) (f := 16514) (t := 120) rfl rfl rfl d_St_write_65 ?_
        refine ww_gR (pc := 68) g (k := 2) cl_Ta (pz rfl (by decide)) (by decide) (Or.inl kw_1104) (f := 15362) (t := 123) rfl rfl rfl d_St_write_68 ?_
        refine ww_iload (pc := 71) g.1 d_St_write_71 (lv_at hl 0 rfl) ?_
        refine ww_ab (pc := 73) g (pz rfl (by decide)) rfl rfl d_St_write_73 h fun v73 h => ?_
        refine ww_if_eq (pc := 74) (tgt := 81) g.1 d_St_write_74 (by decide) h (fun c h => ?_) (fun c h => ?_)
        · exact j_St_write_j81 g hR x.1 x.2.1 x.2.2 s ls (lv_sub hl [1, 2, 3, 4] rfl) h
        · refine ww_iconst (pc := 77) g.1 (v := (-1)) d_St_write_77 (by decide) ?_
          refine ww_goto (pc := 78) (tgt := 93) g.1 d_St_write_78 (by decide) ?_
          exact j_St_write_j93 g hR x.1 x.2.1 x.2.2 (-1) s ls (lv_sub hl [1, 2, 3, 4] rfl) h
    · rw [oR_eq h] at hR
      exact hR ls (lv_sub hl [0] rfl)

theorem ct_St_write {l : Launch} {P : PP} {q : PL} {s s' : S1} {l1 : Int32} {l2 : Int64} {r : Unit} (h : M_St_write l1 l2 s = some (r, s')) : Ct l y_St_write b_St_write 11 none 5 132 P q s [.ref (q.1 129 0), .int l1, .long l2] none q s' := by
  refine ct_of (by decide) (Nat.le_of_ble_eq_true rfl) fun X ls eP el g hR hl => ?_
  subst eP
  have hR : Rt X q ((r, s') : Unit × S1).2 none := hR
  have hl : lv_has ls 11 [(0, .ref (q.1 129 0)), (1, .int l1), (2, .long l2)] := hl
  generalize (r, s') = o at h hR
  unfold M_St_write at h
  refine ww_iload_n (pc := 0) g.1 d_St_write_0 rfl (lv_at hl 1 rfl) ?_
  refine ww_istore (pc := 1) (i := 4) g.1 (lv' := [(4, .int l1), (0, .ref (q.1 129 0)), (1, .int l1), (2, .long l2)]) d_St_write_1 hl (by decide) rfl fun ls hl => ?_
  refine ww_lload_n (pc := 3) g.1 d_St_write_3 rfl (lv_at hl 3 rfl) ?_
  refine ww_lstore (pc := 4) (i := 5) g.1 (lv' := [(5, .long l2), (4, .int l1), (0, .ref (q.1 129 0)), (1, .int l1), (2, .long l2)]) d_St_write_4 hl (by decide) rfl fun ls hl => ?_
  refine ww_iconst (pc := 6) g.1 (v := 0) d_St_write_6 (by decide) ?_
  refine ww_istore (pc := 7) (i := 7) g.1 (lv' := [(7, .int 0), (5, .long l2), (4, .int l1), (0, .ref (q.1 129 0)), (1, .int l1), (2, .long l2)]) d_St_write_7 hl (by decide) rfl fun ls hl => ?_
  obtain ⟨e9, s1, hw, h⟩ := oB_of h
  refine oW_rule (Wh := fun (x : Int32 × Int64 × Int32) (s : S1) => ∀ ls : Array Slot, lv_has ls 11 [(0, .ref (q.1 129 0)), (4, .int x.1), (5, .long x.2.1), (7, .int x.2.2)] → WW X q s 9 ls []) (We := fun (e : (Unit) ⊕ (Int64) ⊕ (Int32 × Int64 × Int32) ⊕ (Unit)) (s : S1) => (Sum.elim (fun y : Unit => ∀ ls : Array Slot, lv_has ls 11 [(0, .ref (q.1 129 0))] → WW X q s 22 ls []) (Sum.elim (fun y : Int64 => ∀ ls : Array Slot, lv_has ls 11 [(0, .ref (q.1 129 0)), (5, .long y)] → WW X q s 100 ls []) (Sum.elim (fun y : Int32 × Int64 × Int32 => ∀ ls : Array Slot, lv_has ls 11 [(0, .ref (q.1 129 0)), (4, .int y.1), (5, .long y.2.1), (9, .int y.2.2)] → WW X q s 174 ls []) (fun y : Unit => ∀ ls : Array Slot, lv_has ls 11 [(0, .ref (q.1 129 0))] → WW X q s 260 ls [])))) e) (fun x s o hb hc => lp_St_write_L9 (q := q) g x s o hb hc) hw ?_ ls (lv_sub hl [3, 2, 1, 0] rfl)
  clear hw hl
  clear ls
  generalize s1 = s at h ⊢
  rcases e9 with y9_22 | y9_100 | y9_174 | y9_260
  · intro ls hl
    dsimp only [Sum.elim_inl, Sum.elim_inr] at h
    refine ww_aload_n (pc := 22) g.1 d_St_write_22 rfl (lv_at hl 0 rfl) ?_
    refine ww_gR (pc := 23) g (k := 0) cl_St (pz rfl (by decide)) (by decide) (Or.inl kw_863) (f := 16512) (t := 128) rfl rfl rfl d_St_write_23 ?_
    refine ww_iconst (pc := 26) g.1 (v := 2) d_St_write_26 (by decide) ?_
    obtain ⟨v27, s, hc27, h⟩ := oB_of h
    refine ww_callV (pc := 27) (rest := []) g cv_Ma_fail (Or.inl kw_1106) cl_Ma (pz rfl (by decide)) (ct_Ma_fail hc27) ⟨by decide, by decide⟩ rfl hl.1 (Nat.le_of_ble_eq_true rfl) d_St_write_27 rfl (?_)
    refine ww_st (st' := []) rfl ?_
    exact ww_vretH (pc := 30) g h hR d_St_write_30
  · intro ls hl
    dsimp only [Sum.elim_inl, Sum.elim_inr] at h
    refine ww_aload_n (pc := 100) g.1 d_St_write_100 rfl (lv_at hl 0 rfl) ?_
    refine ww_gR (pc := 101) g (k := 2) cl_St (pz rfl (by decide)) (by decide) (Or.inl kw_1101) (f := 16514) (t := 120) rfl rfl rfl d_St_write_101 ?_
    refine ww_lload (pc := 104) g.1 d_St_write_104 (lv_at hl 1 rfl) ?_
    refine ww_l2i (pc := 106) g.1 (v := y9_100.toInt32) d_St_write_106 rfl ?_
    refine ww_aload_n (pc := 107) g.1 d_St_write_107 rfl (lv_at hl 0 rfl) ?_
    refine ww_aload_n (pc := 108) g.1 d_St_write_108 rfl (lv_at hl 0 rfl) ?_
    refine ww_gI (pc := 109) g (k := 10) cl_St (pz rfl (by decide)) (by decide) (Or.inl kw_878) (f := 16522) rfl rfl d_St_write_109 h fun v109 h => ?_
    obtain ⟨v112, s, hc112, h⟩ := oB_of h
    refine ww_callV (pc := 112) (rest := [.int y9_100.toInt32, .ref (q.1 120 0)]) g cv_St_kindOf (Or.inl kw_914) cl_St (pz rfl (by decide)) (ct_St_kindOf hc112) ⟨by decide, by decide⟩ rfl hl.1 (Nat.le_of_ble_eq_true rfl) d_St_write_112 rfl (?_)
    refine ww_st (st' := [.int v112, .int y9_100.toInt32, .ref (q.1 120 0)]) rfl ?_
    refine ww_aload_n (pc := 115) g.1 d_St_write_115 rfl (lv_at hl 0 rfl) ?_
    refine ww_aload_n (pc := 116) g.1 d_St_write_116 rfl (lv_at hl 0 rfl) ?_
    refine ww_gI (pc := 117) g (k := 10) cl_St (pz rfl (by decide)) (by decide) (Or.inl kw_878) (f := 16522) rfl rfl d_St_write_117 h fun v117 h => ?_
    obtain ⟨v120, s, hc120, h⟩ := oB_of h
    refine ww_callV (pc := 120) (rest := [.int v112, .int y9_100.toInt32, .ref (q.1 120 0)]) g cv_St_valueOf (Or.inl kw_1120) cl_St (pz rfl (by decide)) (ct_St_valueOf hc120) ⟨by decide, by decide⟩ rfl hl.1 (Nat.le_of_ble_eq_true rfl) d_St_write_120 rfl (?_)
    refine ww_st (st' := [.long v120, .int v112, .int y9_100.toInt32, .ref (q.1 120 0)]) rfl ?_
    refine ww_aload_n (pc := 123) g.1 d_St_write_123 rfl (lv_at hl 0 rfl) ?_
    refine ww_aload_n (pc := 124) g.1 d_St_write_124 rfl (lv_at hl 0 rfl) ?_
    refine ww_gI (pc := 125) g (k := 11) cl_St (pz rfl (by decide)) (by decide) (Or.inl kw_879) (f := 16523) rfl rfl d_St_write_125 h fun v125 h => ?_
    obtain ⟨v128, s, hc128, h⟩ := oB_of h
    refine ww_callV (pc := 128) (rest := [.long v120, .int v112, .int y9_100.toInt32, .ref (q.1 120 0)]) g cv_St_kindOf (Or.inl kw_914) cl_St (pz rfl (by decide)) (ct_St_kindOf hc128) ⟨by decide, by decide⟩ rfl hl.1 (Nat.le_of_ble_eq_true rfl) d_St_write_128 rfl (?_)
    refine ww_st (st' := [.int v128, .long v120, .int v112, .int y9_100.toInt32, .ref (q.1 120 0)]) rfl ?_
    refine ww_aload_n (pc := 131) g.1 d_St_write_131 rfl (lv_at hl 0 rfl) ?_
    refine ww_aload_n (pc := 132) g.1 d_St_write_132 rfl (lv_at hl 0 rfl) ?_
    refine ww_gI (pc := 133) g (k := 11) cl_St (pz rfl (by decide)) (by decide) (Or.inl kw_879) (f := 16523) rfl rfl d_St_write_133 h fun v133 h => ?_
    obtain ⟨v136, s, hc136, h⟩ := oB_of h
    refine ww_callV (pc := 136) (rest := [.int v128, .long v120, .int v112, .int y9_100.toInt32, .ref (q.1 120 0)]) g cv_St_valueOf (Or.inl kw_1120) cl_St (pz rfl (by decide)) (ct_St_valueOf hc136) ⟨by decide, by decide⟩ rfl hl.1 (Nat.le_of_ble_eq_true rfl) d_St_write_136 rfl (?_)
    refine ww_st (st' := [.long v136, .int v128, .long v120, .int v112, .int y9_100.toInt32, .ref (q.1 120 0)]) rfl ?_
    obtain ⟨v139, s, hc139, h⟩ := oB_of h
    refine ww_callV (pc := 139) (rest := []) g cv_Ta_write (Or.inl kw_1371) cl_Ta (pz rfl (by decide)) (ct_Ta_write hc139) ⟨by decide, by decide⟩ rfl hl.1 (Nat.le_of_ble_eq_true rfl) d_St_write_139 rfl (?_)
    refine ww_st (st' := [.int v139]) rfl ?_
    refine ww_istore (pc := 142) (i := 10) g.1 (lv' := [(10, .int v139), (0, .ref (q.1 129 0)), (5, .long y9_100)]) d_St_write_142 hl (by decide) rfl fun ls hl => ?_
    refine ww_iload (pc := 144) g.1 d_St_write_144 (lv_at hl 0 rfl) ?_
    refine ww_if_eq (pc := 146) (tgt := 158) g.1 d_St_write_146 (by decide) h (fun c h => ?_) (fun c h => ?_)
    · exact ww_vretH (pc := 158) g h hR d_St_write_158
    · refine ww_aload_n (pc := 149) g.1 d_St_write_149 rfl (lv_at hl 1 rfl) ?_
      refine ww_gR (pc := 150) g (k := 0) cl_St (pz rfl (by decide)) (by decide) (Or.inl kw_863) (f := 16512) (t := 128) rfl rfl rfl d_St_write_150 ?_
      refine ww_iload (pc := 153) g.1 d_St_write_153 (lv_at hl 0 rfl) ?_
      obtain ⟨v155, s, hc155, h⟩ := oB_of h
      refine ww_callV (pc := 155) (rest := []) g cv_Ma_fail (Or.inl kw_1106) cl_Ma (pz rfl (by decide)) (ct_Ma_fail hc155) ⟨by decide, by decide⟩ rfl hl.1 (Nat.le_of_ble_eq_true rfl) d_St_write_155 rfl (?_)
      refine ww_st (st' := []) rfl ?_
      exact ww_vretH (pc := 158) g h hR d_St_write_158
  · intro ls hl
    dsimp only [Sum.elim_inl, Sum.elim_inr] at h
    refine ww_aload_n (pc := 174) g.1 d_St_write_174 rfl (lv_at hl 0 rfl) ?_
    refine ww_gR (pc := 175) g (k := 0) cl_St (pz rfl (by decide)) (by decide) (Or.inl kw_863) (f := 16512) (t := 128) rfl rfl rfl d_St_write_175 ?_
    refine ww_iload (pc := 178) g.1 d_St_write_178 (lv_at hl 3 rfl) ?_
    refine ww_iload (pc := 180) g.1 d_St_write_180 (lv_at hl 1 rfl) ?_
    refine ww_lload (pc := 182) g.1 d_St_write_182 (lv_at hl 2 rfl) ?_
    refine ww_aload_n (pc := 184) g.1 d_St_write_184 rfl (lv_at hl 0 rfl) ?_
    refine ww_aload_n (pc := 185) g.1 d_St_write_185 rfl (lv_at hl 0 rfl) ?_
    refine ww_gI (pc := 186) g (k := 10) cl_St (pz rfl (by decide)) (by decide) (Or.inl kw_878) (f := 16522) rfl rfl d_St_write_186 h fun v186 h => ?_
    obtain ⟨v189, s, hc189, h⟩ := oB_of h
    refine ww_callV (pc := 189) (rest := [.long y9_174.2.1, .int y9_174.1, .int y9_174.2.2, .ref (q.1 128 0)]) g cv_St_kindOf (Or.inl kw_914) cl_St (pz rfl (by decide)) (ct_St_kindOf hc189) ⟨by decide, by decide⟩ rfl hl.1 (Nat.le_of_ble_eq_true rfl) d_St_write_189 rfl (?_)
    refine ww_st (st' := [.int v189, .long y9_174.2.1, .int y9_174.1, .int y9_174.2.2, .ref (q.1 128 0)]) rfl ?_
    refine ww_aload_n (pc := 192) g.1 d_St_write_192 rfl (lv_at hl 0 rfl) ?_
    refine ww_aload_n (pc := 193) g.1 d_St_write_193 rfl (lv_at hl 0 rfl) ?_
    refine ww_gI (pc := 194) g (k := 10) cl_St (pz rfl (by decide)) (by decide) (Or.inl kw_878) (f := 16522) rfl rfl d_St_write_194 h fun v194 h => ?_
    obtain ⟨v197, s, hc197, h⟩ := oB_of h
    refine ww_callV (pc := 197) (rest := [.int v189, .long y9_174.2.1, .int y9_174.1, .int y9_174.2.2, .ref (q.1 128 0)]) g cv_St_valueOf (Or.inl kw_1120) cl_St (pz rfl (by decide)) (ct_St_valueOf hc197) ⟨by decide, by decide⟩ rfl hl.1 (Nat.le_of_ble_eq_true rfl) d_St_write_197 rfl (?_)
    refine ww_st (st' := [.long v197, .int v189, .long y9_174.2.1, .int y9_174.1, .int y9_174.2.2, .ref (q.1 128 0)]) rfl ?_
    obtain ⟨v200, s, hc200, h⟩ := oB_of h
    refine ww_callV (pc := 200) (rest := []) g cv_Ma_callEntry (Or.inl kw_1107) cl_Ma (pz rfl (by decide)) (ct_Ma_callEntry hc200) ⟨by decide, by decide⟩ rfl hl.1 (Nat.le_of_ble_eq_true rfl) d_St_write_200 rfl (?_)
    refine ww_st (st' := []) rfl ?_
    refine ww_aload_n (pc := 203) g.1 d_St_write_203 rfl (lv_at hl 0 rfl) ?_
    refine ww_gR (pc := 204) g (k := 0) cl_St (pz rfl (by decide)) (by decide) (Or.inl kw_863) (f := 16512) (t := 128) rfl rfl rfl d_St_write_204 ?_
    refine ww_gR (pc := 207) g (k := 3) cl_Ma (pz rfl (by decide)) (by decide) (Or.inl kw_1286) (f := 16387) (t := 132) rfl rfl rfl d_St_write_207 ?_
    refine ww_aload_n (pc := 210) g.1 d_St_write_210 rfl (lv_at hl 0 rfl) ?_
    refine ww_aload_n (pc := 211) g.1 d_St_write_211 rfl (lv_at hl 0 rfl) ?_
    refine ww_gI (pc := 212) g (k := 11) cl_St (pz rfl (by decide)) (by decide) (Or.inl kw_879) (f := 16523) rfl rfl d_St_write_212 h fun v212 h => ?_
    obtain ⟨v215, s, hc215, h⟩ := oB_of h
    refine ww_callV (pc := 215) (rest := [.ref (q.1 132 0)]) g cv_St_kindOf (Or.inl kw_914) cl_St (pz rfl (by decide)) (ct_St_kindOf hc215) ⟨by decide, by decide⟩ rfl hl.1 (Nat.le_of_ble_eq_true rfl) d_St_write_215 rfl (?_)
    refine ww_st (st' := [.int v215, .ref (q.1 132 0)]) rfl ?_
    refine ww_aload_n (pc := 218) g.1 d_St_write_218 rfl (lv_at hl 0 rfl) ?_
    refine ww_aload_n (pc := 219) g.1 d_St_write_219 rfl (lv_at hl 0 rfl) ?_
    refine ww_gI (pc := 220) g (k := 11) cl_St (pz rfl (by decide)) (by decide) (Or.inl kw_879) (f := 16523) rfl rfl d_St_write_220 h fun v220 h => ?_
    obtain ⟨v223, s, hc223, h⟩ := oB_of h
    refine ww_callV (pc := 223) (rest := [.int v215, .ref (q.1 132 0)]) g cv_St_valueOf (Or.inl kw_1120) cl_St (pz rfl (by decide)) (ct_St_valueOf hc223) ⟨by decide, by decide⟩ rfl hl.1 (Nat.le_of_ble_eq_true rfl) d_St_write_223 rfl (?_)
    refine ww_st (st' := [.long v223, .int v215, .ref (q.1 132 0)]) rfl ?_
    obtain ⟨v226, s, hc226, h⟩ := oB_of h
    refine ww_callV (pc := 226) (rest := []) g cv_Ro_add (Or.inl kw_932) (cl_Ro ⟨by decide, rfl⟩) (pz rfl (by decide)) (ct_Ro_add ⟨by decide, rfl⟩ hc226) ⟨by decide, by decide⟩ rfl hl.1 (Nat.le_of_ble_eq_true rfl) d_St_write_226 rfl (?_)
    refine ww_st (st' := []) rfl ?_
    exact ww_vretH (pc := 229) g h hR d_St_write_229
  · intro ls hl
    dsimp only [Sum.elim_inl, Sum.elim_inr] at h
    refine ww_aload_n (pc := 260) g.1 d_St_write_260 rfl (lv_at hl 0 rfl) ?_
    refine ww_gR (pc := 261) g (k := 0) cl_St (pz rfl (by decide)) (by decide) (Or.inl kw_863) (f := 16512) (t := 128) rfl rfl rfl d_St_write_261 ?_
    refine ww_iconst (pc := 264) g.1 (v := 4) d_St_write_264 (by decide) ?_
    obtain ⟨v265, s, hc265, h⟩ := oB_of h
    refine ww_callV (pc := 265) (rest := []) g cv_Ma_fail (Or.inl kw_1106) cl_Ma (pz rfl (by decide)) (ct_Ma_fail hc265) ⟨by decide, by decide⟩ rfl hl.1 (Nat.le_of_ble_eq_true rfl) d_St_write_265 rfl (?_)
    refine ww_st (st' := []) rfl ?_
    exact ww_vretH (pc := 268) g h hR d_St_write_268


