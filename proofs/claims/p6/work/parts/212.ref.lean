abbrev b_Mo_either : ByteArray := prog_14_method_117_code
def y_Mo_either : MethodName := ⟨R_Mo, "either", "(IIJIJ)Z"⟩
abbrev w_Mo_either : List Cond := .code y_Mo_either b_Mo_either 11 (some .boolean) :: wA
theorem k_Mo_either : Cond.code y_Mo_either b_Mo_either 11 (some .boolean) ∈ wA := kinm (show _ ∈ tables_1 from (List.mem_append_right _ (List.mem_append_right _ (List.mem_append_right _ (List.mem_append_right _ (List.mem_append_right _ (List.mem_append_right _ (List.mem_append_right _ (List.mem_append_right _ (List.mem_append_right _ (List.mem_append_right _ (List.mem_append_right _ (List.mem_append_right _ (List.mem_append_left _ (List.mem_of_getElem? (l := tables_1_13) (i := 106) (by decide +kernel)))))))))))))))) (by decide +kernel)
theorem d_Mo_either_0 : decode b_Mo_either 0 = .ok (.aload_n 0, 1) := by decide +kernel
theorem d_Mo_either_1 : decode b_Mo_either 1 = .ok (.iload_n 2, 1) := by decide +kernel
theorem d_Mo_either_2 : decode b_Mo_either 2 = .ok (.lload_n 3, 1) := by decide +kernel
theorem d_Mo_either_3 : decode b_Mo_either 3 = .ok (.iload_n 1, 1) := by decide +kernel
theorem d_Mo_either_4 : decode b_Mo_either 4 = .ok (.invokevirtual 715, 3) := by decide +kernel
theorem d_Mo_either_7 : decode b_Mo_either 7 = .ok (.ifCond .ne 17, 3) := by decide +kernel
theorem d_Mo_either_10 : decode b_Mo_either 10 = .ok (.aload_n 0, 1) := by decide +kernel
theorem d_Mo_either_11 : decode b_Mo_either 11 = .ok (.iload 5, 2) := by decide +kernel
theorem d_Mo_either_13 : decode b_Mo_either 13 = .ok (.lload 6, 2) := by decide +kernel
theorem d_Mo_either_15 : decode b_Mo_either 15 = .ok (.iload_n 1, 1) := by decide +kernel
theorem d_Mo_either_16 : decode b_Mo_either 16 = .ok (.invokevirtual 715, 3) := by decide +kernel
theorem d_Mo_either_19 : decode b_Mo_either 19 = .ok (.ifCond .ne 5, 3) := by decide +kernel
theorem d_Mo_either_22 : decode b_Mo_either 22 = .ok (.iconst 0, 1) := by decide +kernel
theorem d_Mo_either_23 : decode b_Mo_either 23 = .ok (.ireturn, 1) := by decide +kernel
theorem d_Mo_either_24 : decode b_Mo_either 24 = .ok (.aload_n 0, 1) := by decide +kernel
theorem d_Mo_either_25 : decode b_Mo_either 25 = .ok (.getfield 222, 3) := by decide +kernel
theorem d_Mo_either_28 : decode b_Mo_either 28 = .ok (.istore 8, 2) := by decide +kernel
theorem d_Mo_either_30 : decode b_Mo_either 30 = .ok (.aload_n 0, 1) := by decide +kernel
theorem d_Mo_either_31 : decode b_Mo_either 31 = .ok (.getfield 225, 3) := by decide +kernel
theorem d_Mo_either_34 : decode b_Mo_either 34 = .ok (.lstore 9, 2) := by decide +kernel
theorem d_Mo_either_36 : decode b_Mo_either 36 = .ok (.aload_n 0, 1) := by decide +kernel
theorem d_Mo_either_37 : decode b_Mo_either 37 = .ok (.iload_n 2, 1) := by decide +kernel
theorem d_Mo_either_38 : decode b_Mo_either 38 = .ok (.lload_n 3, 1) := by decide +kernel
theorem d_Mo_either_39 : decode b_Mo_either 39 = .ok (.iload 5, 2) := by decide +kernel
theorem d_Mo_either_41 : decode b_Mo_either 41 = .ok (.lload 6, 2) := by decide +kernel
theorem d_Mo_either_43 : decode b_Mo_either 43 = .ok (.invokevirtual 943, 3) := by decide +kernel
theorem d_Mo_either_46 : decode b_Mo_either 46 = .ok (.aload_n 0, 1) := by decide +kernel
theorem d_Mo_either_47 : decode b_Mo_either 47 = .ok (.iload 8, 2) := by decide +kernel
theorem d_Mo_either_49 : decode b_Mo_either 49 = .ok (.putfield 253, 3) := by decide +kernel
theorem d_Mo_either_52 : decode b_Mo_either 52 = .ok (.aload_n 0, 1) := by decide +kernel
theorem d_Mo_either_53 : decode b_Mo_either 53 = .ok (.lload 9, 2) := by decide +kernel
theorem d_Mo_either_55 : decode b_Mo_either 55 = .ok (.putfield 256, 3) := by decide +kernel
theorem d_Mo_either_58 : decode b_Mo_either 58 = .ok (.aload_n 0, 1) := by decide +kernel
theorem d_Mo_either_59 : decode b_Mo_either 59 = .ok (.iconst 1, 1) := by decide +kernel
theorem d_Mo_either_60 : decode b_Mo_either 60 = .ok (.putfield 247, 3) := by decide +kernel
theorem d_Mo_either_63 : decode b_Mo_either 63 = .ok (.iconst 1, 1) := by decide +kernel
theorem d_Mo_either_64 : decode b_Mo_either 64 = .ok (.ireturn, 1) := by decide +kernel
abbrev b_Mo_arguments : ByteArray := prog_14_method_66_code
def y_Mo_arguments : MethodName := ⟨R_Mo, "arguments", "(IJIJ)V"⟩
abbrev w_Mo_arguments : List Cond := .code y_Mo_arguments b_Mo_arguments 7 none :: wA
theorem k_Mo_arguments : Cond.code y_Mo_arguments b_Mo_arguments 7 none ∈ wA := kinm (show _ ∈ tables_1 from (List.mem_append_right _ (List.mem_append_right _ (List.mem_append_right _ (List.mem_append_right _ (List.mem_append_right _ (List.mem_append_right _ (List.mem_append_right _ (List.mem_append_right _ (List.mem_append_right _ (List.mem_append_right _ (List.mem_append_right _ (List.mem_append_right _ (List.mem_append_left _ (List.mem_of_getElem? (l := tables_1_13) (i := 110) (by decide +kernel)))))))))))))))) (by decide +kernel)
theorem d_Mo_arguments_0 : decode b_Mo_arguments 0 = .ok (.aload_n 0, 1) := by decide +kernel
theorem d_Mo_arguments_1 : decode b_Mo_arguments 1 = .ok (.getfield 259, 3) := by decide +kernel
theorem d_Mo_arguments_4 : decode b_Mo_arguments 4 = .ok (.iconst 0, 1) := by decide +kernel
theorem d_Mo_arguments_5 : decode b_Mo_arguments 5 = .ok (.putfield 569, 3) := by decide +kernel
theorem d_Mo_arguments_8 : decode b_Mo_arguments 8 = .ok (.aload_n 0, 1) := by decide +kernel
theorem d_Mo_arguments_9 : decode b_Mo_arguments 9 = .ok (.getfield 259, 3) := by decide +kernel
theorem d_Mo_arguments_12 : decode b_Mo_arguments 12 = .ok (.iload_n 1, 1) := by decide +kernel
theorem d_Mo_arguments_13 : decode b_Mo_arguments 13 = .ok (.lload_n 2, 1) := by decide +kernel
theorem d_Mo_arguments_14 : decode b_Mo_arguments 14 = .ok (.invokevirtual 572, 3) := by decide +kernel
theorem d_Mo_arguments_17 : decode b_Mo_arguments 17 = .ok (.aload_n 0, 1) := by decide +kernel
theorem d_Mo_arguments_18 : decode b_Mo_arguments 18 = .ok (.getfield 259, 3) := by decide +kernel
theorem d_Mo_arguments_21 : decode b_Mo_arguments 21 = .ok (.iload 4, 2) := by decide +kernel
theorem d_Mo_arguments_23 : decode b_Mo_arguments 23 = .ok (.lload 5, 2) := by decide +kernel
theorem d_Mo_arguments_25 : decode b_Mo_arguments 25 = .ok (.invokevirtual 572, 3) := by decide +kernel
theorem d_Mo_arguments_28 : decode b_Mo_arguments 28 = .ok (.return_, 1) := by decide +kernel
theorem kw_247 : Cond.instanceMethod y_Mo_arguments ∈ wA := kinm (show _ ∈ tables_1 from (List.mem_append_right _ (List.mem_append_right _ (List.mem_append_right _ (List.mem_append_right _ (List.mem_append_right _ (List.mem_append_right _ (List.mem_append_right _ (List.mem_append_right _ (List.mem_append_right _ (List.mem_append_right _ (List.mem_append_right _ (List.mem_append_right _ (List.mem_append_left _ (List.mem_of_getElem? (l := tables_1_13) (i := 109) (by decide +kernel)))))))))))))))) (by decide +kernel)
theorem kw_248 : Cond.selects R_Mo y_Mo_arguments y_Mo_arguments ∈ wA := kinp 198 (by decide +kernel) (by decide +kernel)
def M_Mo_arguments (l1 : Int32) (l2 : Int64) (l4 : Int32) (l5 : Int64) : M (Unit) :=
  oB (oPI 898 0 0) fun _ =>
  oB (M_Va_add 7 0 l1 l2) fun _ =>
  oB (M_Va_add 7 0 l4 l5) fun _ =>
  oR ()

theorem cv_Mo_arguments : CV y_Mo_arguments b_Mo_arguments 7 none 4 := ⟨kw_247, kw_248, kw_17, k_Mo_arguments, by decide +kernel⟩
theorem ct_Mo_arguments {l : Launch} {P : PP} {q : PL} {s s' : S1} {l1 : Int32} {l2 : Int64} {l4 : Int32} {l5 : Int64} {r : Unit} (h : M_Mo_arguments l1 l2 l4 l5 s = some (r, s')) : Ct l y_Mo_arguments b_Mo_arguments 7 none 1 23 P q s [.ref (q.1 0 0), .int l1, .long l2, .int l4, .long l5] none q s' := by
  refine ct_of (by decide) (Nat.le_of_ble_eq_true rfl) fun X ls eP el g hR hl => ?_
  have hR : Rt X q ((r, s') : Unit × S1).2 none := hR
  have hl : lv_has ls 7 [(0, .ref (q.1 0 0)), (1, .int l1), (2, .long l2), (4, .int l4), (5, .long l5)] := hl
  generalize (r, s') = o at h hR
  unfold M_Mo_arguments at h
  refine ww_aload_n (pc := 0) g.1 d_Mo_arguments_0 rfl (lv_at hl 0 rfl) ?_
  refine ww_gR (pc := 1) g (k := 77) cl_Mo (pz rfl (by decide)) (by decide) (Or.inl kw_188) (f := 77) (t := 7) rfl rfl rfl d_Mo_arguments_1 ?_
  refine ww_iconst (pc := 4) g.1 (v := 0) d_Mo_arguments_4 (by decide) ?_
  refine ww_pI (pc := 5) g (k := 2) (cl_Va (Or.inl ⟨by decide, rfl⟩)) (pz rfl (by decide)) (by decide) (Or.inl kw_185) rfl (f := 898) rfl rfl rfl rfl d_Mo_arguments_5 h fun s hs h => ?_
  refine ww_aload_n (pc := 8) g.1 d_Mo_arguments_8 rfl (lv_at hl 0 rfl) ?_
  refine ww_gR (pc := 9) g (k := 77) cl_Mo (pz rfl (by decide)) (by decide) (Or.inl kw_188) (f := 77) (t := 7) rfl rfl rfl d_Mo_arguments_9 ?_
  refine ww_iload_n (pc := 12) g.1 d_Mo_arguments_12 rfl (lv_at hl 1 rfl) ?_
  refine ww_lload_n (pc := 13) g.1 d_Mo_arguments_13 rfl (lv_at hl 2 rfl) ?_
  obtain ⟨v14, s, hc14, h⟩ := oB_of h
  refine ww_callV (pc := 14) (rest := []) g cv_Va_add (Or.inl kw_193) (cl_Va (Or.inl ⟨by decide, rfl⟩)) (pz rfl (by decide)) (ct_Va_add (Or.inl ⟨by decide, rfl⟩) hc14) ⟨by decide, by decide⟩ rfl hl.1 (Nat.le_of_ble_eq_true rfl) d_Mo_arguments_14 rfl ?_
  refine ww_st (st' := []) rfl ?_
  refine ww_aload_n (pc := 17) g.1 d_Mo_arguments_17 rfl (lv_at hl 0 rfl) ?_
  refine ww_gR (pc := 18) g (k := 77) cl_Mo (pz rfl (by decide)) (by decide) (Or.inl kw_188) (f := 77) (t := 7) rfl rfl rfl d_Mo_arguments_18 ?_
  refine ww_iload (pc := 21) g.1 d_Mo_arguments_21 (lv_at hl 3 rfl) ?_
  refine ww_lload (pc := 23) g.1 d_Mo_arguments_23 (lv_at hl 4 rfl) ?_
  obtain ⟨v25, s, hc25, h⟩ := oB_of h
  refine ww_callV (pc := 25) (rest := []) g cv_Va_add (Or.inl kw_193) (cl_Va (Or.inl ⟨by decide, rfl⟩)) (pz rfl (by decide)) (ct_Va_add (Or.inl ⟨by decide, rfl⟩) hc25) ⟨by decide, by decide⟩ rfl hl.1 (Nat.le_of_ble_eq_true rfl) d_Mo_arguments_25 rfl ?_
  refine ww_st (st' := []) rfl ?_
  exact ww_vretH (pc := 28) g h hR d_Mo_arguments_28

abbrev b_Mo_error : ByteArray := prog_14_method_77_code
def y_Mo_error : MethodName := ⟨R_Mo, "error", "()V"⟩
abbrev w_Mo_error : List Cond := .code y_Mo_error b_Mo_error 5 none :: wA
set_option maxRecDepth 20000 in
theorem k_Mo_error : Cond.code y_Mo_error b_Mo_error 5 none ∈ wA := kinm (show _ ∈ tables_1 from (List.mem_append_right _ (List.mem_append_right _ (List.mem_append_right _ (List.mem_append_right _ (List.mem_append_right _ (List.mem_append_right _ (List.mem_append_right _ (List.mem_append_right _ (List.mem_append_right _ (List.mem_append_right _ (List.mem_append_right _ (List.mem_append_right _ (List.mem_append_left _ (List.mem_of_getElem? (l := tables_1_13) (i := 114) rfl))))))))))))))) rfl
theorem d_Mo_error_0 : decode b_Mo_error 0 = .ok (.aload_n 0, 1) := by decide +kernel
theorem d_Mo_error_1 : decode b_Mo_error 1 = .ok (.iconst 0, 1) := by decide +kernel
theorem d_Mo_error_2 : decode b_Mo_error 2 = .ok (.putfield 247, 3) := by decide +kernel
theorem d_Mo_error_5 : decode b_Mo_error 5 = .ok (.aload_n 0, 1) := by decide +kernel
theorem d_Mo_error_6 : decode b_Mo_error 6 = .ok (.getfield 259, 3) := by decide +kernel
theorem d_Mo_error_9 : decode b_Mo_error 9 = .ok (.iconst 0, 1) := by decide +kernel
theorem d_Mo_error_10 : decode b_Mo_error 10 = .ok (.putfield 569, 3) := by decide +kernel
theorem d_Mo_error_13 : decode b_Mo_error 13 = .ok (.aload_n 0, 1) := by decide +kernel
theorem d_Mo_error_14 : decode b_Mo_error 14 = .ok (.getfield 262, 3) := by decide +kernel
theorem d_Mo_error_17 : decode b_Mo_error 17 = .ok (.iconst 0, 1) := by decide +kernel
theorem d_Mo_error_18 : decode b_Mo_error 18 = .ok (.putfield 569, 3) := by decide +kernel
theorem d_Mo_error_21 : decode b_Mo_error 21 = .ok (.aload_n 0, 1) := by decide +kernel
theorem d_Mo_error_22 : decode b_Mo_error 22 = .ok (.getfield 243, 3) := by decide +kernel
theorem d_Mo_error_25 : decode b_Mo_error 25 = .ok (.astore_n 1, 1) := by decide +kernel
theorem d_Mo_error_26 : decode b_Mo_error 26 = .ok (.aload_n 1, 1) := by decide +kernel
theorem d_Mo_error_27 : decode b_Mo_error 27 = .ok (.invokevirtual 703, 3) := by decide +kernel
theorem d_Mo_error_30 : decode b_Mo_error 30 = .ok (.istore_n 2, 1) := by decide +kernel
theorem d_Mo_error_31 : decode b_Mo_error 31 = .ok (.iload_n 2, 1) := by decide +kernel
theorem d_Mo_error_32 : decode b_Mo_error 32 = .ok (.ifCond .lt 19, 3) := by decide +kernel
theorem d_Mo_error_35 : decode b_Mo_error 35 = .ok (.aload_n 1, 1) := by decide +kernel
theorem d_Mo_error_36 : decode b_Mo_error 36 = .ok (.getfield 733, 3) := by decide +kernel
theorem d_Mo_error_39 : decode b_Mo_error 39 = .ok (.iload_n 2, 1) := by decide +kernel
theorem d_Mo_error_40 : decode b_Mo_error 40 = .ok (.iaload, 1) := by decide +kernel
theorem d_Mo_error_41 : decode b_Mo_error 41 = .ok (.iconst 1, 1) := by decide +kernel
theorem d_Mo_error_42 : decode b_Mo_error 42 = .ok (.if_icmp .eq 9, 3) := by decide +kernel
theorem d_Mo_error_45 : decode b_Mo_error 45 = .ok (.iinc 2 (-1), 3) := by decide +kernel
theorem d_Mo_error_48 : decode b_Mo_error 48 = .ok (.goto (-17), 3) := by decide +kernel
theorem d_Mo_error_51 : decode b_Mo_error 51 = .ok (.iload_n 2, 1) := by decide +kernel
theorem d_Mo_error_52 : decode b_Mo_error 52 = .ok (.ifCond .lt 51, 3) := by decide +kernel
theorem d_Mo_error_55 : decode b_Mo_error 55 = .ok (.aload_n 0, 1) := by decide +kernel
theorem d_Mo_error_56 : decode b_Mo_error 56 = .ok (.aload_n 1, 1) := by decide +kernel
theorem d_Mo_error_57 : decode b_Mo_error 57 = .ok (.iload_n 2, 1) := by decide +kernel
theorem d_Mo_error_58 : decode b_Mo_error 58 = .ok (.iconst 1, 1) := by decide +kernel
theorem d_Mo_error_59 : decode b_Mo_error 59 = .ok (.iadd, 1) := by decide +kernel
theorem d_Mo_error_60 : decode b_Mo_error 60 = .ok (.invokevirtual 786, 3) := by decide +kernel
theorem d_Mo_error_63 : decode b_Mo_error 63 = .ok (.aload_n 1, 1) := by decide +kernel
theorem d_Mo_error_64 : decode b_Mo_error 64 = .ok (.iload_n 2, 1) := by decide +kernel
theorem d_Mo_error_65 : decode b_Mo_error 65 = .ok (.putfield 730, 3) := by decide +kernel
theorem d_Mo_error_68 : decode b_Mo_error 68 = .ok (.aload_n 0, 1) := by decide +kernel
theorem d_Mo_error_69 : decode b_Mo_error 69 = .ok (.getfield 262, 3) := by decide +kernel
theorem d_Mo_error_72 : decode b_Mo_error 72 = .ok (.iconst 1, 1) := by decide +kernel
theorem d_Mo_error_73 : decode b_Mo_error 73 = .ok (.lconst 0, 1) := by decide +kernel
theorem d_Mo_error_74 : decode b_Mo_error 74 = .ok (.invokevirtual 572, 3) := by decide +kernel
theorem d_Mo_error_77 : decode b_Mo_error 77 = .ok (.aload_n 0, 1) := by decide +kernel
theorem d_Mo_error_78 : decode b_Mo_error 78 = .ok (.getfield 262, 3) := by decide +kernel
theorem d_Mo_error_81 : decode b_Mo_error 81 = .ok (.aload_n 0, 1) := by decide +kernel
theorem d_Mo_error_82 : decode b_Mo_error 82 = .ok (.getfield 215, 3) := by decide +kernel
theorem d_Mo_error_85 : decode b_Mo_error 85 = .ok (.aload_n 0, 1) := by decide +kernel
theorem d_Mo_error_86 : decode b_Mo_error 86 = .ok (.getfield 218, 3) := by decide +kernel
theorem d_Mo_error_89 : decode b_Mo_error 89 = .ok (.invokevirtual 572, 3) := by decide +kernel
theorem d_Mo_error_92 : decode b_Mo_error 92 = .ok (.aload_n 0, 1) := by decide +kernel
theorem d_Mo_error_93 : decode b_Mo_error 93 = .ok (.iconst 0, 1) := by decide +kernel
theorem d_Mo_error_94 : decode b_Mo_error 94 = .ok (.putfield 215, 3) := by decide +kernel
theorem d_Mo_error_97 : decode b_Mo_error 97 = .ok (.aload_n 0, 1) := by decide +kernel
theorem d_Mo_error_98 : decode b_Mo_error 98 = .ok (.iconst 2, 1) := by decide +kernel
theorem d_Mo_error_99 : decode b_Mo_error 99 = .ok (.putfield 247, 3) := by decide +kernel
theorem d_Mo_error_102 : decode b_Mo_error 102 = .ok (.return_, 1) := by decide +kernel
theorem d_Mo_error_103 : decode b_Mo_error 103 = .ok (.aload_n 0, 1) := by decide +kernel
theorem d_Mo_error_104 : decode b_Mo_error 104 = .ok (.aload_n 1, 1) := by decide +kernel
theorem d_Mo_error_105 : decode b_Mo_error 105 = .ok (.iconst 0, 1) := by decide +kernel
theorem d_Mo_error_106 : decode b_Mo_error 106 = .ok (.invokevirtual 786, 3) := by decide +kernel
theorem d_Mo_error_109 : decode b_Mo_error 109 = .ok (.aload_n 1, 1) := by decide +kernel
theorem d_Mo_error_110 : decode b_Mo_error 110 = .ok (.iconst 0, 1) := by decide +kernel
theorem d_Mo_error_111 : decode b_Mo_error 111 = .ok (.putfield 730, 3) := by decide +kernel
theorem d_Mo_error_114 : decode b_Mo_error 114 = .ok (.aload_n 1, 1) := by decide +kernel
theorem d_Mo_error_115 : decode b_Mo_error 115 = .ok (.iconst 3, 1) := by decide +kernel
theorem d_Mo_error_116 : decode b_Mo_error 116 = .ok (.putfield 694, 3) := by decide +kernel
theorem d_Mo_error_119 : decode b_Mo_error 119 = .ok (.aload_n 1, 1) := by decide +kernel
theorem d_Mo_error_120 : decode b_Mo_error 120 = .ok (.aload_n 0, 1) := by decide +kernel
theorem d_Mo_error_121 : decode b_Mo_error 121 = .ok (.getfield 239, 3) := by decide +kernel
theorem d_Mo_error_124 : decode b_Mo_error 124 = .ok (.iconst 0, 1) := by decide +kernel
theorem d_Mo_error_125 : decode b_Mo_error 125 = .ok (.aaload, 1) := by decide +kernel
theorem d_Mo_error_126 : decode b_Mo_error 126 = .ok (.if_acmp .ne 37, 3) := by decide +kernel
theorem d_Mo_error_129 : decode b_Mo_error 129 = .ok (.aload_n 0, 1) := by decide +kernel
theorem d_Mo_error_130 : decode b_Mo_error 130 = .ok (.iconst 2, 1) := by decide +kernel
theorem d_Mo_error_131 : decode b_Mo_error 131 = .ok (.putfield 268, 3) := by decide +kernel
theorem d_Mo_error_134 : decode b_Mo_error 134 = .ok (.aload_n 0, 1) := by decide +kernel
theorem d_Mo_error_135 : decode b_Mo_error 135 = .ok (.getfield 265, 3) := by decide +kernel
theorem d_Mo_error_138 : decode b_Mo_error 138 = .ok (.iconst 0, 1) := by decide +kernel
theorem d_Mo_error_139 : decode b_Mo_error 139 = .ok (.putfield 569, 3) := by decide +kernel
theorem d_Mo_error_142 : decode b_Mo_error 142 = .ok (.aload_n 0, 1) := by decide +kernel
theorem d_Mo_error_143 : decode b_Mo_error 143 = .ok (.getfield 265, 3) := by decide +kernel
theorem d_Mo_error_146 : decode b_Mo_error 146 = .ok (.aload_n 0, 1) := by decide +kernel
theorem d_Mo_error_147 : decode b_Mo_error 147 = .ok (.getfield 215, 3) := by decide +kernel
theorem d_Mo_error_150 : decode b_Mo_error 150 = .ok (.aload_n 0, 1) := by decide +kernel
theorem d_Mo_error_151 : decode b_Mo_error 151 = .ok (.getfield 218, 3) := by decide +kernel
theorem d_Mo_error_154 : decode b_Mo_error 154 = .ok (.invokevirtual 572, 3) := by decide +kernel
theorem d_Mo_error_157 : decode b_Mo_error 157 = .ok (.aload_n 0, 1) := by decide +kernel
theorem d_Mo_error_158 : decode b_Mo_error 158 = .ok (.iconst 0, 1) := by decide +kernel
theorem d_Mo_error_159 : decode b_Mo_error 159 = .ok (.putfield 215, 3) := by decide +kernel
theorem d_Mo_error_162 : decode b_Mo_error 162 = .ok (.return_, 1) := by decide +kernel
theorem d_Mo_error_163 : decode b_Mo_error 163 = .ok (.aload_n 0, 1) := by decide +kernel
theorem d_Mo_error_164 : decode b_Mo_error 164 = .ok (.aload_n 1, 1) := by decide +kernel
theorem d_Mo_error_165 : decode b_Mo_error 165 = .ok (.invokevirtual 783, 3) := by decide +kernel
theorem d_Mo_error_168 : decode b_Mo_error 168 = .ok (.aload_n 0, 1) := by decide +kernel
theorem d_Mo_error_169 : decode b_Mo_error 169 = .ok (.getfield 243, 3) := by decide +kernel
theorem d_Mo_error_172 : decode b_Mo_error 172 = .ok (.invokevirtual 703, 3) := by decide +kernel
theorem d_Mo_error_175 : decode b_Mo_error 175 = .ok (.istore_n 3, 1) := by decide +kernel
theorem d_Mo_error_176 : decode b_Mo_error 176 = .ok (.aload_n 0, 1) := by decide +kernel
theorem d_Mo_error_177 : decode b_Mo_error 177 = .ok (.getfield 243, 3) := by decide +kernel
theorem d_Mo_error_180 : decode b_Mo_error 180 = .ok (.getfield 733, 3) := by decide +kernel
theorem d_Mo_error_183 : decode b_Mo_error 183 = .ok (.iload_n 3, 1) := by decide +kernel
theorem d_Mo_error_184 : decode b_Mo_error 184 = .ok (.iaload, 1) := by decide +kernel
theorem d_Mo_error_185 : decode b_Mo_error 185 = .ok (.iconst 3, 1) := by decide +kernel
theorem d_Mo_error_186 : decode b_Mo_error 186 = .ok (.if_icmp .ne 7, 3) := by decide +kernel
theorem d_Mo_error_189 : decode b_Mo_error 189 = .ok (.iconst 1, 1) := by decide +kernel
theorem d_Mo_error_190 : decode b_Mo_error 190 = .ok (.goto 4, 3) := by decide +kernel
theorem d_Mo_error_193 : decode b_Mo_error 193 = .ok (.iconst 0, 1) := by decide +kernel
theorem d_Mo_error_194 : decode b_Mo_error 194 = .ok (.istore 4, 2) := by decide +kernel
theorem d_Mo_error_196 : decode b_Mo_error 196 = .ok (.aload_n 0, 1) := by decide +kernel
theorem d_Mo_error_197 : decode b_Mo_error 197 = .ok (.getfield 243, 3) := by decide +kernel
theorem d_Mo_error_200 : decode b_Mo_error 200 = .ok (.dup, 1) := by decide +kernel
theorem d_Mo_error_201 : decode b_Mo_error 201 = .ok (.getfield 730, 3) := by decide +kernel
theorem d_Mo_error_204 : decode b_Mo_error 204 = .ok (.iconst 1, 1) := by decide +kernel
theorem d_Mo_error_205 : decode b_Mo_error 205 = .ok (.isub, 1) := by decide +kernel
theorem d_Mo_error_206 : decode b_Mo_error 206 = .ok (.putfield 730, 3) := by decide +kernel
theorem d_Mo_error_209 : decode b_Mo_error 209 = .ok (.iload 4, 2) := by decide +kernel
theorem d_Mo_error_211 : decode b_Mo_error 211 = .ok (.ifCond .eq 9, 3) := by decide +kernel
theorem d_Mo_error_214 : decode b_Mo_error 214 = .ok (.aload_n 0, 1) := by decide +kernel
theorem d_Mo_error_215 : decode b_Mo_error 215 = .ok (.iconst 3, 1) := by decide +kernel
theorem d_Mo_error_216 : decode b_Mo_error 216 = .ok (.putfield 247, 3) := by decide +kernel
theorem d_Mo_error_219 : decode b_Mo_error 219 = .ok (.return_, 1) := by decide +kernel
theorem d_Mo_error_220 : decode b_Mo_error 220 = .ok (.aload_n 0, 1) := by decide +kernel
theorem d_Mo_error_221 : decode b_Mo_error 221 = .ok (.getfield 262, 3) := by decide +kernel
theorem d_Mo_error_224 : decode b_Mo_error 224 = .ok (.iconst 1, 1) := by decide +kernel
theorem d_Mo_error_225 : decode b_Mo_error 225 = .ok (.lconst 0, 1) := by decide +kernel
theorem d_Mo_error_226 : decode b_Mo_error 226 = .ok (.invokevirtual 572, 3) := by decide +kernel
theorem d_Mo_error_229 : decode b_Mo_error 229 = .ok (.aload_n 0, 1) := by decide +kernel
theorem d_Mo_error_230 : decode b_Mo_error 230 = .ok (.getfield 262, 3) := by decide +kernel
theorem d_Mo_error_233 : decode b_Mo_error 233 = .ok (.aload_n 0, 1) := by decide +kernel
theorem d_Mo_error_234 : decode b_Mo_error 234 = .ok (.getfield 215, 3) := by decide +kernel
theorem d_Mo_error_237 : decode b_Mo_error 237 = .ok (.aload_n 0, 1) := by decide +kernel
theorem d_Mo_error_238 : decode b_Mo_error 238 = .ok (.getfield 218, 3) := by decide +kernel
theorem d_Mo_error_241 : decode b_Mo_error 241 = .ok (.invokevirtual 572, 3) := by decide +kernel
theorem d_Mo_error_244 : decode b_Mo_error 244 = .ok (.aload_n 0, 1) := by decide +kernel
theorem d_Mo_error_245 : decode b_Mo_error 245 = .ok (.iconst 0, 1) := by decide +kernel
theorem d_Mo_error_246 : decode b_Mo_error 246 = .ok (.putfield 215, 3) := by decide +kernel
theorem d_Mo_error_249 : decode b_Mo_error 249 = .ok (.aload_n 0, 1) := by decide +kernel
theorem d_Mo_error_250 : decode b_Mo_error 250 = .ok (.iconst 2, 1) := by decide +kernel
theorem d_Mo_error_251 : decode b_Mo_error 251 = .ok (.putfield 247, 3) := by decide +kernel
theorem d_Mo_error_254 : decode b_Mo_error 254 = .ok (.return_, 1) := by decide +kernel
abbrev b_Mo_leave : ByteArray := prog_14_method_78_code
def y_Mo_leave : MethodName := ⟨R_Mo, "leave", "(LLuaMachineModel$Thread_;I)V"⟩
abbrev w_Mo_leave : List Cond := .code y_Mo_leave b_Mo_leave 4 none :: wA
theorem k_Mo_leave : Cond.code y_Mo_leave b_Mo_leave 4 none ∈ wA := kinm (show _ ∈ tables_1 from (List.mem_append_right _ (List.mem_append_right _ (List.mem_append_right _ (List.mem_append_right _ (List.mem_append_right _ (List.mem_append_right _ (List.mem_append_right _ (List.mem_append_right _ (List.mem_append_right _ (List.mem_append_right _ (List.mem_append_right _ (List.mem_append_right _ (List.mem_append_left _ (List.mem_of_getElem? (l := tables_1_13) (i := 118) (by decide +kernel)))))))))))))))) (by decide +kernel)
theorem d_Mo_leave_0 : decode b_Mo_leave 0 = .ok (.iload_n 2, 1) := by decide +kernel
theorem d_Mo_leave_1 : decode b_Mo_leave 1 = .ok (.istore_n 3, 1) := by decide +kernel
theorem d_Mo_leave_2 : decode b_Mo_leave 2 = .ok (.iload_n 3, 1) := by decide +kernel
theorem d_Mo_leave_3 : decode b_Mo_leave 3 = .ok (.aload_n 1, 1) := by decide +kernel
theorem d_Mo_leave_4 : decode b_Mo_leave 4 = .ok (.getfield 730, 3) := by decide +kernel
theorem d_Mo_leave_7 : decode b_Mo_leave 7 = .ok (.if_icmp .ge 33, 3) := by decide +kernel
theorem d_Mo_leave_10 : decode b_Mo_leave 10 = .ok (.aload_n 1, 1) := by decide +kernel
theorem d_Mo_leave_11 : decode b_Mo_leave 11 = .ok (.getfield 733, 3) := by decide +kernel
theorem d_Mo_leave_14 : decode b_Mo_leave 14 = .ok (.iload_n 3, 1) := by decide +kernel
theorem d_Mo_leave_15 : decode b_Mo_leave 15 = .ok (.iaload, 1) := by decide +kernel
theorem d_Mo_leave_16 : decode b_Mo_leave 16 = .ok (.ifCond .eq 6, 3) := by decide +kernel
theorem d_Mo_leave_19 : decode b_Mo_leave 19 = .ok (.goto 15, 3) := by decide +kernel
theorem d_Mo_leave_22 : decode b_Mo_leave 22 = .ok (.aload_n 0, 1) := by decide +kernel
theorem d_Mo_leave_23 : decode b_Mo_leave 23 = .ok (.aload_n 1, 1) := by decide +kernel
theorem d_Mo_leave_24 : decode b_Mo_leave 24 = .ok (.aload_n 1, 1) := by decide +kernel
theorem d_Mo_leave_25 : decode b_Mo_leave 25 = .ok (.getfield 744, 3) := by decide +kernel
theorem d_Mo_leave_28 : decode b_Mo_leave 28 = .ok (.iload_n 3, 1) := by decide +kernel
theorem d_Mo_leave_29 : decode b_Mo_leave 29 = .ok (.iaload, 1) := by decide +kernel
theorem d_Mo_leave_30 : decode b_Mo_leave 30 = .ok (.invokevirtual 789, 3) := by decide +kernel
theorem d_Mo_leave_33 : decode b_Mo_leave 33 = .ok (.return_, 1) := by decide +kernel
theorem d_Mo_leave_34 : decode b_Mo_leave 34 = .ok (.iinc 3 1, 3) := by decide +kernel
theorem d_Mo_leave_37 : decode b_Mo_leave 37 = .ok (.goto (-35), 3) := by decide +kernel
theorem d_Mo_leave_40 : decode b_Mo_leave 40 = .ok (.return_, 1) := by decide +kernel
abbrev b_Mo_close : ByteArray := prog_14_method_43_code
def y_Mo_close : MethodName := ⟨R_Mo, "close", "(LLuaMachineModel$Thread_;I)V"⟩
abbrev w_Mo_close : List Cond := .code y_Mo_close b_Mo_close 6 none :: wA
theorem k_Mo_close : Cond.code y_Mo_close b_Mo_close 6 none ∈ wA := kinm (show _ ∈ tables_1 from (List.mem_append_right _ (List.mem_append_right _ (List.mem_append_right _ (List.mem_append_right _ (List.mem_append_right _ (List.mem_append_right _ (List.mem_append_right _ (List.mem_append_right _ (List.mem_append_right _ (List.mem_append_right _ (List.mem_append_right _ (List.mem_append_right _ (List.mem_append_left _ (List.mem_of_getElem? (l := tables_1_13) (i := 122) (by decide +kernel)))))))))))))))) (by decide +kernel)
theorem d_Mo_close_0 : decode b_Mo_close 0 = .ok (.iconst 0, 1) := by decide +kernel
theorem d_Mo_close_1 : decode b_Mo_close 1 = .ok (.istore_n 3, 1) := by decide +kernel
theorem d_Mo_close_2 : decode b_Mo_close 2 = .ok (.iconst 0, 1) := by decide +kernel
theorem d_Mo_close_3 : decode b_Mo_close 3 = .ok (.istore 4, 2) := by decide +kernel
theorem d_Mo_close_5 : decode b_Mo_close 5 = .ok (.iload 4, 2) := by decide +kernel
theorem d_Mo_close_7 : decode b_Mo_close 7 = .ok (.aload_n 1, 1) := by decide +kernel
theorem d_Mo_close_8 : decode b_Mo_close 8 = .ok (.getfield 597, 3) := by decide +kernel
theorem d_Mo_close_11 : decode b_Mo_close 11 = .ok (.if_icmp .ge 49, 3) := by decide +kernel
theorem d_Mo_close_14 : decode b_Mo_close 14 = .ok (.aload_n 1, 1) := by decide +kernel
theorem d_Mo_close_15 : decode b_Mo_close 15 = .ok (.getfield 600, 3) := by decide +kernel
theorem d_Mo_close_18 : decode b_Mo_close 18 = .ok (.iload 4, 2) := by decide +kernel
theorem d_Mo_close_20 : decode b_Mo_close 20 = .ok (.iaload, 1) := by decide +kernel
theorem d_Mo_close_21 : decode b_Mo_close 21 = .ok (.istore 5, 2) := by decide +kernel
theorem d_Mo_close_23 : decode b_Mo_close 23 = .ok (.aload_n 0, 1) := by decide +kernel
theorem d_Mo_close_24 : decode b_Mo_close 24 = .ok (.getfield 171, 3) := by decide +kernel
theorem d_Mo_close_27 : decode b_Mo_close 27 = .ok (.iload 5, 2) := by decide +kernel
theorem d_Mo_close_29 : decode b_Mo_close 29 = .ok (.iaload, 1) := by decide +kernel
theorem d_Mo_close_30 : decode b_Mo_close 30 = .ok (.iload_n 2, 1) := by decide +kernel
theorem d_Mo_close_31 : decode b_Mo_close 31 = .ok (.if_icmp .lt 12, 3) := by decide +kernel
theorem d_Mo_close_34 : decode b_Mo_close 34 = .ok (.aload_n 0, 1) := by decide +kernel
theorem d_Mo_close_35 : decode b_Mo_close 35 = .ok (.iload 5, 2) := by decide +kernel
theorem d_Mo_close_37 : decode b_Mo_close 37 = .ok (.invokevirtual 603, 3) := by decide +kernel
theorem d_Mo_close_40 : decode b_Mo_close 40 = .ok (.goto 14, 3) := by decide +kernel
theorem d_Mo_close_43 : decode b_Mo_close 43 = .ok (.aload_n 1, 1) := by decide +kernel
theorem d_Mo_close_44 : decode b_Mo_close 44 = .ok (.getfield 600, 3) := by decide +kernel
theorem d_Mo_close_47 : decode b_Mo_close 47 = .ok (.iload_n 3, 1) := by decide +kernel
theorem d_Mo_close_48 : decode b_Mo_close 48 = .ok (.iinc 3 1, 3) := by decide +kernel
theorem d_Mo_close_51 : decode b_Mo_close 51 = .ok (.iload 5, 2) := by decide +kernel
theorem d_Mo_close_53 : decode b_Mo_close 53 = .ok (.iastore, 1) := by decide +kernel
theorem d_Mo_close_54 : decode b_Mo_close 54 = .ok (.iinc 4 1, 3) := by decide +kernel
theorem d_Mo_close_57 : decode b_Mo_close 57 = .ok (.goto (-52), 3) := by decide +kernel
theorem d_Mo_close_60 : decode b_Mo_close 60 = .ok (.aload_n 1, 1) := by decide +kernel
theorem d_Mo_close_61 : decode b_Mo_close 61 = .ok (.iload_n 3, 1) := by decide +kernel
theorem d_Mo_close_62 : decode b_Mo_close 62 = .ok (.putfield 597, 3) := by decide +kernel
theorem d_Mo_close_65 : decode b_Mo_close 65 = .ok (.return_, 1) := by decide +kernel
theorem kw_249 : Cond.methodLink R_Mo 603 y_Mo_closeVariable ∈ wA := kinm (show _ ∈ tables_1 from (List.mem_append_right _ (List.mem_append_right _ (List.mem_append_right _ (List.mem_append_right _ (List.mem_append_right _ (List.mem_append_right _ (List.mem_append_right _ (List.mem_append_right _ (List.mem_append_right _ (List.mem_append_right _ (List.mem_append_right _ (List.mem_append_left _ (List.mem_of_getElem? (l := tables_1_12) (i := 42) (by decide +kernel))))))))))))))) (by decide +kernel)
theorem kw_250 : Cond.instanceMethod y_Mo_close ∈ wA := kinm (show _ ∈ tables_1 from (List.mem_append_right _ (List.mem_append_right _ (List.mem_append_right _ (List.mem_append_right _ (List.mem_append_right _ (List.mem_append_right _ (List.mem_append_right _ (List.mem_append_right _ (List.mem_append_right _ (List.mem_append_right _ (List.mem_append_right _ (List.mem_append_right _ (List.mem_append_left _ (List.mem_of_getElem? (l := tables_1_13) (i := 121) (by decide +kernel)))))))))))))))) (by decide +kernel)
theorem kw_251 : Cond.selects R_Mo y_Mo_close y_Mo_close ∈ wA := kinp 201 (by decide +kernel) (by decide +kernel)
def M_Mo_close_j54 (l1 : Int32) (l2 : Int32) (l3 : Int32) (l4 : Int32) : M ((Int32 × Int32 × Int32 × Int32) ⊕ ((Int32 × Int32))) :=
  oR (Sum.inl (l1, l2, l3, l4 + 1))

def M_Mo_close_L5 : (Int32 × Int32 × Int32 × Int32) → M ((Int32 × Int32 × Int32 × Int32) ⊕ ((Int32 × Int32))) := fun x =>
  oB (oGI 3587 x.1) fun v8 =>
  oC (v8 ≤ x.2.2.2)
    (oR (Sum.inr (x.1, x.2.2.1)))
    (oB (oAI 29 4100 x.1 x.2.2.2) fun v20 =>
    oB (oAI 63 4100 0 v20) fun v29 =>
    oC (v29 < x.2.1)
      (oB (oSI 29 4100 x.1 x.2.2.1 v20) fun _ =>
      M_Mo_close_j54 x.1 x.2.1 (x.2.2.1 + 1) x.2.2.2)
      (oB (M_Mo_closeVariable v20) fun _ =>
      M_Mo_close_j54 x.1 x.2.1 x.2.2.1 x.2.2.2))

def M_Mo_close (l1 : Int32) (l2 : Int32) : M (Unit) :=
  oB (oW M_Mo_close_L5 (l1, l2, 0, 0)) fun e5 =>
  oB (oPI 3587 e5.1 e5.2) fun _ =>
  oR ()

theorem cv_Mo_close : CV y_Mo_close b_Mo_close 6 none 2 := ⟨kw_250, kw_251, kw_17, k_Mo_close, by decide +kernel⟩
theorem j_Mo_close_j54 {X : Cx} {q : PL} (g : Gd X y_Mo_close b_Mo_close 6 none 2 45 R_Mo) {o : ((Int32 × Int32 × Int32 × Int32) ⊕ ((Int32 × Int32))) × S1} (hR : (Sum.elim (fun y : Int32 × Int32 × Int32 × Int32 => ∀ ls : Array Slot, (0 ≤ y.1 ∧ y.1 < 33) → lv_has ls 6 [(0, .ref (q.1 0 0)), (1, .ref (q.1 28 y.1)), (2, .int y.2.1), (3, .int y.2.2.1), (4, .int y.2.2.2)] → WW X q o.2 5 ls []) (fun y : Int32 × Int32 => ∀ ls : Array Slot, (0 ≤ y.1 ∧ y.1 < 33) → lv_has ls 6 [(1, .ref (q.1 28 y.1)), (3, .int y.2)] → WW X q o.2 60 ls []) o.1)) (l1 : Int32) (l2 : Int32) (l3 : Int32) (l4 : Int32) (s : S1) (hp0 : 0 ≤ l1 ∧ l1 < 33) (ls : Array Slot) (hl : lv_has ls 6 [(0, .ref (q.1 0 0)), (1, .ref (q.1 28 l1)), (2, .int l2), (3, .int l3), (4, .int l4)]) (h : M_Mo_close_j54 l1 l2 l3 l4 s = some o) : WW X q s 54 ls [] := by
  unfold M_Mo_close_j54 at h
  refine ww_iinc (pc := 54) g.1 (v := l4 + 1) (lv' := [(4, .int (l4 + 1)), (0, .ref (q.1 0 0)), (1, .ref (q.1 28 l1)), (2, .int l2), (3, .int l3)]) d_Mo_close_54 hl (k := 4) rfl (by rfl) (by decide) rfl fun ls hl => ?_
  refine ww_goto (pc := 57) (tgt := 5) g.1 d_Mo_close_57 (by decide) ?_
  rw [oR_eq h] at hR
  exact hR ls hp0 (lv_sub hl [1, 2, 3, 4, 0] rfl)

theorem lp_Mo_close_L5 {X : Cx} {q : PL} (g : Gd X y_Mo_close b_Mo_close 6 none 2 45 R_Mo) (x : Int32 × Int32 × Int32 × Int32) (s : S1) (o : ((Int32 × Int32 × Int32 × Int32) ⊕ ((Int32 × Int32))) × S1) (h : M_Mo_close_L5 x s = some o) (hR : (Sum.elim (fun y : Int32 × Int32 × Int32 × Int32 => ∀ ls : Array Slot, (0 ≤ y.1 ∧ y.1 < 33) → lv_has ls 6 [(0, .ref (q.1 0 0)), (1, .ref (q.1 28 y.1)), (2, .int y.2.1), (3, .int y.2.2.1), (4, .int y.2.2.2)] → WW X q o.2 5 ls []) (fun y : Int32 × Int32 => ∀ ls : Array Slot, (0 ≤ y.1 ∧ y.1 < 33) → lv_has ls 6 [(1, .ref (q.1 28 y.1)), (3, .int y.2)] → WW X q o.2 60 ls []) o.1)) : ∀ ls : Array Slot, (0 ≤ x.1 ∧ x.1 < 33) → lv_has ls 6 [(0, .ref (q.1 0 0)), (1, .ref (q.1 28 x.1)), (2, .int x.2.1), (3, .int x.2.2.1), (4, .int x.2.2.2)] → WW X q s 5 ls [] := by
  intro ls hp0 hl
  unfold M_Mo_close_L5 at h
  refine ww_iload (pc := 5) g.1 d_Mo_close_5 (lv_at hl 4 rfl) ?_
  refine ww_aload_n (pc := 7) g.1 d_Mo_close_7 rfl (lv_at hl 1 rfl) ?_
  refine ww_gI (pc := 8) g (k := 3) cl_Th (pt rfl rfl hp0) (by decide) (Or.inl kw_106) (f := 3587) rfl rfl d_Mo_close_8 h fun v8 h => ?_
  refine ww_icmp_ge (pc := 11) (tgt := 60) g.1 d_Mo_close_11 (by decide) h (fun c h => ?_) (fun c h => ?_)
  · rw [oR_eq h] at hR
    exact hR ls hp0 (lv_sub hl [1, 3] rfl)
  · refine ww_aload_n (pc := 14) g.1 d_Mo_close_14 rfl (lv_at hl 1 rfl) ?_
    refine ww_gR (pc := 15) g (k := 10) cl_Th (pt rfl rfl hp0) (by decide) (Or.inl kw_107) (f := 3594) (t := 29) rfl rfl rfl d_Mo_close_15 ?_
    refine ww_iload (pc := 18) g.1 d_Mo_close_18 (lv_at hl 4 rfl) ?_
    refine ww_ai (pc := 20) g (pt rfl rfl hp0) rfl rfl d_Mo_close_20 h fun v20 h => ?_
    refine ww_istore (pc := 21) g.1 (lv' := [(5, .int v20), (0, .ref (q.1 0 0)), (1, .ref (q.1 28 x.1)), (2, .int x.2.1), (3, .int x.2.2.1), (4, .int x.2.2.2)]) d_Mo_close_21 hl (by decide) rfl fun ls hl => ?_
    refine ww_aload_n (pc := 23) g.1 d_Mo_close_23 rfl (lv_at hl 1 rfl) ?_
    refine ww_gR (pc := 24) g (k := 50) cl_Mo (pz rfl (by decide)) (by decide) (Or.inl kw_93) (f := 50) (t := 63) rfl rfl rfl d_Mo_close_24 ?_
    refine ww_iload (pc := 27) g.1 d_Mo_close_27 (lv_at hl 0 rfl) ?_
    refine ww_ai (pc := 29) g (pz rfl (by decide)) rfl rfl d_Mo_close_29 h fun v29 h => ?_
    refine ww_iload_n (pc := 30) g.1 d_Mo_close_30 rfl (lv_at hl 3 rfl) ?_
    refine ww_icmp_lt (pc := 31) (tgt := 43) g.1 d_Mo_close_31 (by decide) h (fun c h => ?_) (fun c h => ?_)
    · refine ww_aload_n (pc := 43) g.1 d_Mo_close_43 rfl (lv_at hl 2 rfl) ?_
      refine ww_gR (pc := 44) g (k := 10) cl_Th (pt rfl rfl hp0) (by decide) (Or.inl kw_107) (f := 3594) (t := 29) rfl rfl rfl d_Mo_close_44 ?_
      refine ww_iload_n (pc := 47) g.1 d_Mo_close_47 rfl (lv_at hl 4 rfl) ?_
      refine ww_iinc (pc := 48) g.1 (v := x.2.2.1 + 1) (lv' := [(3, .int (x.2.2.1 + 1)), (5, .int v20), (0, .ref (q.1 0 0)), (1, .ref (q.1 28 x.1)), (2, .int x.2.1), (4, .int x.2.2.2)]) d_Mo_close_48 hl (k := 4) rfl (by rfl) (by decide) rfl fun ls hl => ?_
      refine ww_iload (pc := 51) g.1 d_Mo_close_51 (lv_at hl 1 rfl) ?_
      refine ww_si (pc := 53) g (pt rfl rfl hp0) rfl rfl d_Mo_close_53 h fun s hs h => ?_
      exact j_Mo_close_j54 g hR x.1 x.2.1 (x.2.2.1 + 1) x.2.2.2 s hp0 ls (lv_sub hl [2, 3, 4, 0, 5] rfl) h
    · refine ww_aload_n (pc := 34) g.1 d_Mo_close_34 rfl (lv_at hl 1 rfl) ?_
      refine ww_iload (pc := 35) g.1 d_Mo_close_35 (lv_at hl 0 rfl) ?_
      obtain ⟨v37, s, hc37, h⟩ := oB_of h
      refine ww_callV (pc := 37) (rest := []) g cv_Mo_closeVariable (Or.inl kw_249) cl_Mo (pz rfl (by decide)) (ct_Mo_closeVariable hc37) ⟨by decide, by decide⟩ rfl hl.1 (Nat.le_of_ble_eq_true rfl) d_Mo_close_37 rfl ?_
      refine ww_st (st' := []) rfl ?_
      refine ww_goto (pc := 40) (tgt := 54) g.1 d_Mo_close_40 (by decide) ?_
      exact j_Mo_close_j54 g hR x.1 x.2.1 x.2.2.1 x.2.2.2 s hp0 ls (lv_sub hl [1, 2, 3, 4, 5] rfl) h

theorem ct_Mo_close {l : Launch} {P : PP} {q : PL} {s s' : S1} {l1 : Int32} {l2 : Int32} (hp0 : 0 ≤ l1 ∧ l1 < 33) {r : Unit} (h : M_Mo_close l1 l2 s = some (r, s')) : Ct l y_Mo_close b_Mo_close 6 none 2 45 P q s [.ref (q.1 0 0), .ref (q.1 28 l1), .int l2] none q s' := by
  refine ct_of (by decide) (Nat.le_of_ble_eq_true rfl) fun X ls eP el g hR hl => ?_
  have hR : Rt X q ((r, s') : Unit × S1).2 none := hR
  have hl : lv_has ls 6 [(0, .ref (q.1 0 0)), (1, .ref (q.1 28 l1)), (2, .int l2)] := hl
  generalize (r, s') = o at h hR
  unfold M_Mo_close at h
  refine ww_iconst (pc := 0) g.1 (v := 0) d_Mo_close_0 (by decide) ?_
  refine ww_istore_n (pc := 1) g.1 (lv' := [(3, .int 0), (0, .ref (q.1 0 0)), (1, .ref (q.1 28 l1)), (2, .int l2)]) d_Mo_close_1 rfl hl (by decide) rfl fun ls hl => ?_
  refine ww_iconst (pc := 2) g.1 (v := 0) d_Mo_close_2 (by decide) ?_
  refine ww_istore (pc := 3) g.1 (lv' := [(4, .int 0), (3, .int 0), (0, .ref (q.1 0 0)), (1, .ref (q.1 28 l1)), (2, .int l2)]) d_Mo_close_3 hl (by decide) rfl fun ls hl => ?_
  obtain ⟨e5, s1, hw, h⟩ := oB_of h
  refine oW_rule (Wh := fun (x : Int32 × Int32 × Int32 × Int32) (s : S1) => ∀ ls : Array Slot, (0 ≤ x.1 ∧ x.1 < 33) → lv_has ls 6 [(0, .ref (q.1 0 0)), (1, .ref (q.1 28 x.1)), (2, .int x.2.1), (3, .int x.2.2.1), (4, .int x.2.2.2)] → WW X q s 5 ls []) (We := fun (e : (Int32 × Int32)) (s : S1) => ∀ ls : Array Slot, (0 ≤ e.1 ∧ e.1 < 33) → lv_has ls 6 [(1, .ref (q.1 28 e.1)), (3, .int e.2)] → WW X q s 60 ls []) (fun x s o hb hc => lp_Mo_close_L5 (q := q) g x s o hb hc) hw ?_ ls hp0 (lv_sub hl [2, 3, 4, 1, 0] rfl)
  clear hw hl
  clear ls
  intro ls hq5_0 hl
  generalize s1 = s at h ⊢
  refine ww_aload_n (pc := 60) g.1 d_Mo_close_60 rfl (lv_at hl 0 rfl) ?_
  refine ww_iload_n (pc := 61) g.1 d_Mo_close_61 rfl (lv_at hl 1 rfl) ?_
  refine ww_pI (pc := 62) g (k := 3) cl_Th (pt rfl rfl hq5_0) (by decide) (Or.inl kw_106) rfl (f := 3587) rfl rfl rfl rfl d_Mo_close_62 h fun s hs h => ?_
  exact ww_vretH (pc := 65) g h hR d_Mo_close_65

abbrev b_Mo_halt : ByteArray := prog_14_method_79_code
def y_Mo_halt : MethodName := ⟨R_Mo, "halt", "()V"⟩
abbrev w_Mo_halt : List Cond := .code y_Mo_halt b_Mo_halt 3 none :: wA
theorem k_Mo_halt : Cond.code y_Mo_halt b_Mo_halt 3 none ∈ wA := kinm (show _ ∈ tables_1 from (List.mem_append_right _ (List.mem_append_right _ (List.mem_append_right _ (List.mem_append_right _ (List.mem_append_right _ (List.mem_append_right _ (List.mem_append_right _ (List.mem_append_right _ (List.mem_append_right _ (List.mem_append_right _ (List.mem_append_right _ (List.mem_append_right _ (List.mem_append_left _ (List.mem_of_getElem? (l := tables_1_13) (i := 126) (by decide +kernel)))))))))))))))) (by decide +kernel)
theorem d_Mo_halt_0 : decode b_Mo_halt 0 = .ok (.aload_n 0, 1) := by decide +kernel
theorem d_Mo_halt_1 : decode b_Mo_halt 1 = .ok (.iconst 0, 1) := by decide +kernel
theorem d_Mo_halt_2 : decode b_Mo_halt 2 = .ok (.putfield 247, 3) := by decide +kernel
theorem d_Mo_halt_5 : decode b_Mo_halt 5 = .ok (.aload_n 0, 1) := by decide +kernel
theorem d_Mo_halt_6 : decode b_Mo_halt 6 = .ok (.getfield 259, 3) := by decide +kernel
theorem d_Mo_halt_9 : decode b_Mo_halt 9 = .ok (.iconst 0, 1) := by decide +kernel
theorem d_Mo_halt_10 : decode b_Mo_halt 10 = .ok (.putfield 569, 3) := by decide +kernel
theorem d_Mo_halt_13 : decode b_Mo_halt 13 = .ok (.aload_n 0, 1) := by decide +kernel
theorem d_Mo_halt_14 : decode b_Mo_halt 14 = .ok (.getfield 262, 3) := by decide +kernel
theorem d_Mo_halt_17 : decode b_Mo_halt 17 = .ok (.iconst 0, 1) := by decide +kernel
theorem d_Mo_halt_18 : decode b_Mo_halt 18 = .ok (.putfield 569, 3) := by decide +kernel
theorem d_Mo_halt_21 : decode b_Mo_halt 21 = .ok (.aload_n 0, 1) := by decide +kernel
theorem d_Mo_halt_22 : decode b_Mo_halt 22 = .ok (.getfield 243, 3) := by decide +kernel
theorem d_Mo_halt_25 : decode b_Mo_halt 25 = .ok (.astore_n 1, 1) := by decide +kernel
theorem d_Mo_halt_26 : decode b_Mo_halt 26 = .ok (.aload_n 1, 1) := by decide +kernel
theorem d_Mo_halt_27 : decode b_Mo_halt 27 = .ok (.ifnull 34, 3) := by decide +kernel
theorem d_Mo_halt_30 : decode b_Mo_halt 30 = .ok (.aload_n 1, 1) := by decide +kernel
theorem d_Mo_halt_31 : decode b_Mo_halt 31 = .ok (.getfield 617, 3) := by decide +kernel
theorem d_Mo_halt_34 : decode b_Mo_halt 34 = .ok (.astore_n 2, 1) := by decide +kernel
theorem d_Mo_halt_35 : decode b_Mo_halt 35 = .ok (.aload_n 0, 1) := by decide +kernel
theorem d_Mo_halt_36 : decode b_Mo_halt 36 = .ok (.aload_n 1, 1) := by decide +kernel
theorem d_Mo_halt_37 : decode b_Mo_halt 37 = .ok (.iconst 0, 1) := by decide +kernel
theorem d_Mo_halt_38 : decode b_Mo_halt 38 = .ok (.invokevirtual 786, 3) := by decide +kernel
theorem d_Mo_halt_41 : decode b_Mo_halt 41 = .ok (.aload_n 1, 1) := by decide +kernel
theorem d_Mo_halt_42 : decode b_Mo_halt 42 = .ok (.iconst 0, 1) := by decide +kernel
theorem d_Mo_halt_43 : decode b_Mo_halt 43 = .ok (.putfield 730, 3) := by decide +kernel
theorem d_Mo_halt_46 : decode b_Mo_halt 46 = .ok (.aload_n 1, 1) := by decide +kernel
theorem d_Mo_halt_47 : decode b_Mo_halt 47 = .ok (.iconst 3, 1) := by decide +kernel
theorem d_Mo_halt_48 : decode b_Mo_halt 48 = .ok (.putfield 694, 3) := by decide +kernel
theorem d_Mo_halt_51 : decode b_Mo_halt 51 = .ok (.aload_n 1, 1) := by decide +kernel
theorem d_Mo_halt_52 : decode b_Mo_halt 52 = .ok (.aconst_null, 1) := by decide +kernel
theorem d_Mo_halt_53 : decode b_Mo_halt 53 = .ok (.putfield 617, 3) := by decide +kernel
theorem d_Mo_halt_56 : decode b_Mo_halt 56 = .ok (.aload_n 2, 1) := by decide +kernel
theorem d_Mo_halt_57 : decode b_Mo_halt 57 = .ok (.astore_n 1, 1) := by decide +kernel
theorem d_Mo_halt_58 : decode b_Mo_halt 58 = .ok (.goto (-32), 3) := by decide +kernel
theorem d_Mo_halt_61 : decode b_Mo_halt 61 = .ok (.aload_n 0, 1) := by decide +kernel
theorem d_Mo_halt_62 : decode b_Mo_halt 62 = .ok (.aload_n 0, 1) := by decide +kernel
theorem d_Mo_halt_63 : decode b_Mo_halt 63 = .ok (.getfield 239, 3) := by decide +kernel
theorem d_Mo_halt_66 : decode b_Mo_halt 66 = .ok (.iconst 0, 1) := by decide +kernel
theorem d_Mo_halt_67 : decode b_Mo_halt 67 = .ok (.aaload, 1) := by decide +kernel
theorem d_Mo_halt_68 : decode b_Mo_halt 68 = .ok (.putfield 243, 3) := by decide +kernel
theorem d_Mo_halt_71 : decode b_Mo_halt 71 = .ok (.aload_n 0, 1) := by decide +kernel
theorem d_Mo_halt_72 : decode b_Mo_halt 72 = .ok (.iconst 2, 1) := by decide +kernel
theorem d_Mo_halt_73 : decode b_Mo_halt 73 = .ok (.putfield 268, 3) := by decide +kernel
theorem d_Mo_halt_76 : decode b_Mo_halt 76 = .ok (.aload_n 0, 1) := by decide +kernel
theorem d_Mo_halt_77 : decode b_Mo_halt 77 = .ok (.getfield 265, 3) := by decide +kernel
theorem d_Mo_halt_80 : decode b_Mo_halt 80 = .ok (.iconst 0, 1) := by decide +kernel
theorem d_Mo_halt_81 : decode b_Mo_halt 81 = .ok (.putfield 569, 3) := by decide +kernel
theorem d_Mo_halt_84 : decode b_Mo_halt 84 = .ok (.aload_n 0, 1) := by decide +kernel
theorem d_Mo_halt_85 : decode b_Mo_halt 85 = .ok (.getfield 265, 3) := by decide +kernel
theorem d_Mo_halt_88 : decode b_Mo_halt 88 = .ok (.aload_n 0, 1) := by decide +kernel
theorem d_Mo_halt_89 : decode b_Mo_halt 89 = .ok (.getfield 215, 3) := by decide +kernel
theorem d_Mo_halt_92 : decode b_Mo_halt 92 = .ok (.aload_n 0, 1) := by decide +kernel
theorem d_Mo_halt_93 : decode b_Mo_halt 93 = .ok (.getfield 218, 3) := by decide +kernel
theorem d_Mo_halt_96 : decode b_Mo_halt 96 = .ok (.invokevirtual 572, 3) := by decide +kernel
theorem d_Mo_halt_99 : decode b_Mo_halt 99 = .ok (.aload_n 0, 1) := by decide +kernel
theorem d_Mo_halt_100 : decode b_Mo_halt 100 = .ok (.iconst 0, 1) := by decide +kernel
theorem d_Mo_halt_101 : decode b_Mo_halt 101 = .ok (.putfield 215, 3) := by decide +kernel
theorem d_Mo_halt_104 : decode b_Mo_halt 104 = .ok (.return_, 1) := by decide +kernel
abbrev b_Mo_step : ByteArray := prog_14_method_111_code
def y_Mo_step : MethodName := ⟨R_Mo, "step", "()V"⟩
abbrev w_Mo_step : List Cond := .code y_Mo_step b_Mo_step 8 none :: wA
set_option maxRecDepth 20000 in
theorem k_Mo_step : Cond.code y_Mo_step b_Mo_step 8 none ∈ wA := kinm (show _ ∈ tables_1 from (List.mem_append_right _ (List.mem_append_right _ (List.mem_append_right _ (List.mem_append_right _ (List.mem_append_right _ (List.mem_append_right _ (List.mem_append_right _ (List.mem_append_right _ (List.mem_append_right _ (List.mem_append_right _ (List.mem_append_right _ (List.mem_append_right _ (List.mem_append_left _ (List.mem_of_getElem? (l := tables_1_13) (i := 130) rfl))))))))))))))) rfl
theorem d_Mo_step_0 : decode b_Mo_step 0 = .ok (.aload_n 0, 1) := by decide +kernel
theorem d_Mo_step_1 : decode b_Mo_step 1 = .ok (.getfield 243, 3) := by decide +kernel
theorem d_Mo_step_4 : decode b_Mo_step 4 = .ok (.astore_n 1, 1) := by decide +kernel
theorem d_Mo_step_5 : decode b_Mo_step 5 = .ok (.aload_n 1, 1) := by decide +kernel
theorem d_Mo_step_6 : decode b_Mo_step 6 = .ok (.invokevirtual 703, 3) := by decide +kernel
theorem d_Mo_step_9 : decode b_Mo_step 9 = .ok (.istore_n 2, 1) := by decide +kernel
theorem d_Mo_step_10 : decode b_Mo_step 10 = .ok (.aload_n 0, 1) := by decide +kernel
theorem d_Mo_step_11 : decode b_Mo_step 11 = .ok (.getfield 168, 3) := by decide +kernel
theorem d_Mo_step_14 : decode b_Mo_step 14 = .ok (.aload_n 1, 1) := by decide +kernel
theorem d_Mo_step_15 : decode b_Mo_step 15 = .ok (.getfield 736, 3) := by decide +kernel
theorem d_Mo_step_18 : decode b_Mo_step 18 = .ok (.iload_n 2, 1) := by decide +kernel
theorem d_Mo_step_19 : decode b_Mo_step 19 = .ok (.iaload, 1) := by decide +kernel
theorem d_Mo_step_20 : decode b_Mo_step 20 = .ok (.iaload, 1) := by decide +kernel
theorem d_Mo_step_21 : decode b_Mo_step 21 = .ok (.istore_n 3, 1) := by decide +kernel
theorem d_Mo_step_22 : decode b_Mo_step 22 = .ok (.aload_n 0, 1) := by decide +kernel
theorem d_Mo_step_23 : decode b_Mo_step 23 = .ok (.getfield 71, 3) := by decide +kernel
theorem d_Mo_step_26 : decode b_Mo_step 26 = .ok (.aload_n 0, 1) := by decide +kernel
theorem d_Mo_step_27 : decode b_Mo_step 27 = .ok (.getfield 53, 3) := by decide +kernel
theorem d_Mo_step_30 : decode b_Mo_step 30 = .ok (.iload_n 3, 1) := by decide +kernel
theorem d_Mo_step_31 : decode b_Mo_step 31 = .ok (.iaload, 1) := by decide +kernel
theorem d_Mo_step_32 : decode b_Mo_step 32 = .ok (.aload_n 1, 1) := by decide +kernel
theorem d_Mo_step_33 : decode b_Mo_step 33 = .ok (.getfield 758, 3) := by decide +kernel
theorem d_Mo_step_36 : decode b_Mo_step 36 = .ok (.iload_n 2, 1) := by decide +kernel
theorem d_Mo_step_37 : decode b_Mo_step 37 = .ok (.iaload, 1) := by decide +kernel
theorem d_Mo_step_38 : decode b_Mo_step 38 = .ok (.iadd, 1) := by decide +kernel
theorem d_Mo_step_39 : decode b_Mo_step 39 = .ok (.iaload, 1) := by decide +kernel
theorem d_Mo_step_40 : decode b_Mo_step 40 = .ok (.istore 4, 2) := by decide +kernel
theorem d_Mo_step_42 : decode b_Mo_step 42 = .ok (.aload_n 1, 1) := by decide +kernel
theorem d_Mo_step_43 : decode b_Mo_step 43 = .ok (.getfield 758, 3) := by decide +kernel
theorem d_Mo_step_46 : decode b_Mo_step 46 = .ok (.iload_n 2, 1) := by decide +kernel
theorem d_Mo_step_47 : decode b_Mo_step 47 = .ok (.dup2, 1) := by decide +kernel
theorem d_Mo_step_48 : decode b_Mo_step 48 = .ok (.iaload, 1) := by decide +kernel
theorem d_Mo_step_49 : decode b_Mo_step 49 = .ok (.iconst 1, 1) := by decide +kernel
theorem d_Mo_step_50 : decode b_Mo_step 50 = .ok (.iadd, 1) := by decide +kernel
theorem d_Mo_step_51 : decode b_Mo_step 51 = .ok (.iastore, 1) := by decide +kernel
theorem d_Mo_step_52 : decode b_Mo_step 52 = .ok (.aload_n 0, 1) := by decide +kernel
theorem d_Mo_step_53 : decode b_Mo_step 53 = .ok (.dup, 1) := by decide +kernel
theorem d_Mo_step_54 : decode b_Mo_step 54 = .ok (.getfield 271, 3) := by decide +kernel
theorem d_Mo_step_57 : decode b_Mo_step 57 = .ok (.lconst 1, 1) := by decide +kernel
theorem d_Mo_step_58 : decode b_Mo_step 58 = .ok (.ladd, 1) := by decide +kernel
theorem d_Mo_step_59 : decode b_Mo_step 59 = .ok (.putfield 271, 3) := by decide +kernel
theorem d_Mo_step_62 : decode b_Mo_step 62 = .ok (.iload 4, 2) := by decide +kernel
theorem d_Mo_step_64 : decode b_Mo_step 64 = .ok (.invokestatic 475, 3) := by decide +kernel
theorem d_Mo_step_67 : decode b_Mo_step 67 = .ok (.istore 5, 2) := by decide +kernel
theorem d_Mo_step_69 : decode b_Mo_step 69 = .ok (.aload_n 1, 1) := by decide +kernel
theorem d_Mo_step_70 : decode b_Mo_step 70 = .ok (.getfield 591, 3) := by decide +kernel
theorem d_Mo_step_73 : decode b_Mo_step 73 = .ok (.astore 6, 2) := by decide +kernel
theorem d_Mo_step_75 : decode b_Mo_step 75 = .ok (.aload_n 1, 1) := by decide +kernel
theorem d_Mo_step_76 : decode b_Mo_step 76 = .ok (.getfield 744, 3) := by decide +kernel
theorem d_Mo_step_79 : decode b_Mo_step 79 = .ok (.iload_n 2, 1) := by decide +kernel
theorem d_Mo_step_80 : decode b_Mo_step 80 = .ok (.iaload, 1) := by decide +kernel
theorem d_Mo_step_81 : decode b_Mo_step 81 = .ok (.iload 4, 2) := by decide +kernel
theorem d_Mo_step_83 : decode b_Mo_step 83 = .ok (.invokestatic 495, 3) := by decide +kernel
theorem d_Mo_step_86 : decode b_Mo_step 86 = .ok (.iadd, 1) := by decide +kernel
theorem d_Mo_step_87 : decode b_Mo_step 87 = .ok (.istore 7, 2) := by decide +kernel
theorem d_Mo_step_89 : decode b_Mo_step 89 = .ok (.iload 5, 2) := by decide +kernel
theorem d_Mo_step_91 : decode b_Mo_step 91 = .ok (.bipush 12, 2) := by decide +kernel
theorem d_Mo_step_93 : decode b_Mo_step 93 = .ok (.if_icmp .ge 21, 3) := by decide +kernel
theorem d_Mo_step_96 : decode b_Mo_step 96 = .ok (.aload_n 0, 1) := by decide +kernel
theorem d_Mo_step_97 : decode b_Mo_step 97 = .ok (.aload_n 1, 1) := by decide +kernel
theorem d_Mo_step_98 : decode b_Mo_step 98 = .ok (.iload_n 2, 1) := by decide +kernel
theorem d_Mo_step_99 : decode b_Mo_step 99 = .ok (.iload_n 3, 1) := by decide +kernel
theorem d_Mo_step_100 : decode b_Mo_step 100 = .ok (.iload 4, 2) := by decide +kernel
theorem d_Mo_step_102 : decode b_Mo_step 102 = .ok (.iload 5, 2) := by decide +kernel
theorem d_Mo_step_104 : decode b_Mo_step 104 = .ok (.aload 6, 2) := by decide +kernel
theorem d_Mo_step_106 : decode b_Mo_step 106 = .ok (.iload 7, 2) := by decide +kernel
theorem d_Mo_step_108 : decode b_Mo_step 108 = .ok (.invokevirtual 908, 3) := by decide +kernel
theorem d_Mo_step_111 : decode b_Mo_step 111 = .ok (.goto 91, 3) := by decide +kernel
theorem d_Mo_step_114 : decode b_Mo_step 114 = .ok (.iload 5, 2) := by decide +kernel
theorem d_Mo_step_116 : decode b_Mo_step 116 = .ok (.bipush 12, 2) := by decide +kernel
theorem d_Mo_step_118 : decode b_Mo_step 118 = .ok (.if_icmp .ne 19, 3) := by decide +kernel
theorem d_Mo_step_121 : decode b_Mo_step 121 = .ok (.aload_n 0, 1) := by decide +kernel
theorem d_Mo_step_122 : decode b_Mo_step 122 = .ok (.aload_n 1, 1) := by decide +kernel
theorem d_Mo_step_123 : decode b_Mo_step 123 = .ok (.iload_n 2, 1) := by decide +kernel
theorem d_Mo_step_124 : decode b_Mo_step 124 = .ok (.iload_n 3, 1) := by decide +kernel
theorem d_Mo_step_125 : decode b_Mo_step 125 = .ok (.iload 4, 2) := by decide +kernel
theorem d_Mo_step_127 : decode b_Mo_step 127 = .ok (.aload 6, 2) := by decide +kernel
theorem d_Mo_step_129 : decode b_Mo_step 129 = .ok (.iload 7, 2) := by decide +kernel
theorem d_Mo_step_131 : decode b_Mo_step 131 = .ok (.invokevirtual 912, 3) := by decide +kernel
theorem d_Mo_step_134 : decode b_Mo_step 134 = .ok (.goto 68, 3) := by decide +kernel
theorem d_Mo_step_137 : decode b_Mo_step 137 = .ok (.iload 5, 2) := by decide +kernel
theorem d_Mo_step_139 : decode b_Mo_step 139 = .ok (.bipush 27, 2) := by decide +kernel
theorem d_Mo_step_141 : decode b_Mo_step 141 = .ok (.if_icmp .ge 21, 3) := by decide +kernel
theorem d_Mo_step_144 : decode b_Mo_step 144 = .ok (.aload_n 0, 1) := by decide +kernel
theorem d_Mo_step_145 : decode b_Mo_step 145 = .ok (.aload_n 1, 1) := by decide +kernel
theorem d_Mo_step_146 : decode b_Mo_step 146 = .ok (.iload_n 2, 1) := by decide +kernel
theorem d_Mo_step_147 : decode b_Mo_step 147 = .ok (.iload_n 3, 1) := by decide +kernel
theorem d_Mo_step_148 : decode b_Mo_step 148 = .ok (.iload 4, 2) := by decide +kernel
theorem d_Mo_step_150 : decode b_Mo_step 150 = .ok (.iload 5, 2) := by decide +kernel
theorem d_Mo_step_152 : decode b_Mo_step 152 = .ok (.aload 6, 2) := by decide +kernel
theorem d_Mo_step_154 : decode b_Mo_step 154 = .ok (.iload 7, 2) := by decide +kernel
theorem d_Mo_step_156 : decode b_Mo_step 156 = .ok (.invokevirtual 916, 3) := by decide +kernel
theorem d_Mo_step_159 : decode b_Mo_step 159 = .ok (.goto 43, 3) := by decide +kernel
theorem d_Mo_step_162 : decode b_Mo_step 162 = .ok (.iload 5, 2) := by decide +kernel
theorem d_Mo_step_164 : decode b_Mo_step 164 = .ok (.bipush 36, 2) := by decide +kernel
theorem d_Mo_step_166 : decode b_Mo_step 166 = .ok (.if_icmp .ge 21, 3) := by decide +kernel
theorem d_Mo_step_169 : decode b_Mo_step 169 = .ok (.aload_n 0, 1) := by decide +kernel
theorem d_Mo_step_170 : decode b_Mo_step 170 = .ok (.aload_n 1, 1) := by decide +kernel
theorem d_Mo_step_171 : decode b_Mo_step 171 = .ok (.iload_n 2, 1) := by decide +kernel
theorem d_Mo_step_172 : decode b_Mo_step 172 = .ok (.iload_n 3, 1) := by decide +kernel
theorem d_Mo_step_173 : decode b_Mo_step 173 = .ok (.iload 4, 2) := by decide +kernel
theorem d_Mo_step_175 : decode b_Mo_step 175 = .ok (.iload 5, 2) := by decide +kernel
theorem d_Mo_step_177 : decode b_Mo_step 177 = .ok (.aload 6, 2) := by decide +kernel
theorem d_Mo_step_179 : decode b_Mo_step 179 = .ok (.iload 7, 2) := by decide +kernel
theorem d_Mo_step_181 : decode b_Mo_step 181 = .ok (.invokevirtual 919, 3) := by decide +kernel
theorem d_Mo_step_184 : decode b_Mo_step 184 = .ok (.goto 18, 3) := by decide +kernel
theorem d_Mo_step_187 : decode b_Mo_step 187 = .ok (.aload_n 0, 1) := by decide +kernel
theorem d_Mo_step_188 : decode b_Mo_step 188 = .ok (.aload_n 1, 1) := by decide +kernel
theorem d_Mo_step_189 : decode b_Mo_step 189 = .ok (.iload_n 2, 1) := by decide +kernel
theorem d_Mo_step_190 : decode b_Mo_step 190 = .ok (.iload_n 3, 1) := by decide +kernel
theorem d_Mo_step_191 : decode b_Mo_step 191 = .ok (.iload 4, 2) := by decide +kernel
theorem d_Mo_step_193 : decode b_Mo_step 193 = .ok (.iload 5, 2) := by decide +kernel
theorem d_Mo_step_195 : decode b_Mo_step 195 = .ok (.aload 6, 2) := by decide +kernel
theorem d_Mo_step_197 : decode b_Mo_step 197 = .ok (.iload 7, 2) := by decide +kernel
theorem d_Mo_step_199 : decode b_Mo_step 199 = .ok (.invokevirtual 922, 3) := by decide +kernel
theorem d_Mo_step_202 : decode b_Mo_step 202 = .ok (.return_, 1) := by decide +kernel
abbrev b_Mo_small : ByteArray := prog_14_method_112_code
def y_Mo_small : MethodName := ⟨R_Mo, "small", "(LLuaMachineModel$Thread_;IIIILLuaMachineModel$Values;I)V"⟩
abbrev w_Mo_small : List Cond := .code y_Mo_small b_Mo_small 13 none :: wA
set_option maxRecDepth 20000 in
theorem k_Mo_small : Cond.code y_Mo_small b_Mo_small 13 none ∈ wA := kinm (show _ ∈ tables_1 from (List.mem_append_right _ (List.mem_append_right _ (List.mem_append_right _ (List.mem_append_right _ (List.mem_append_right _ (List.mem_append_right _ (List.mem_append_right _ (List.mem_append_right _ (List.mem_append_right _ (List.mem_append_right _ (List.mem_append_right _ (List.mem_append_right _ (List.mem_append_left _ (List.mem_of_getElem? (l := tables_1_13) (i := 134) rfl))))))))))))))) rfl
theorem d_Mo_small_0 : decode b_Mo_small 0 = .ok (.aload_n 1, 1) := by decide +kernel
theorem d_Mo_small_1 : decode b_Mo_small 1 = .ok (.getfield 744, 3) := by decide +kernel
theorem d_Mo_small_4 : decode b_Mo_small 4 = .ok (.iload_n 2, 1) := by decide +kernel
theorem d_Mo_small_5 : decode b_Mo_small 5 = .ok (.iaload, 1) := by decide +kernel
theorem d_Mo_small_6 : decode b_Mo_small 6 = .ok (.istore 8, 2) := by decide +kernel
theorem d_Mo_small_8 : decode b_Mo_small 8 = .ok (.iload 5, 2) := by decide +kernel
theorem d_Mo_small_10 : decode b_Mo_small 10 = .ok (.tableswitch 484 0 10 #[58, 78, 484, 106, 148, 182, 215, 270, 330, 450, 330], 58) := by decide +kernel
theorem d_Mo_small_68 : decode b_Mo_small 68 = .ok (.aload 6, 2) := by decide +kernel
theorem d_Mo_small_70 : decode b_Mo_small 70 = .ok (.iload 7, 2) := by decide +kernel
theorem d_Mo_small_72 : decode b_Mo_small 72 = .ok (.aload 6, 2) := by decide +kernel
theorem d_Mo_small_74 : decode b_Mo_small 74 = .ok (.iload 8, 2) := by decide +kernel
theorem d_Mo_small_76 : decode b_Mo_small 76 = .ok (.iload 4, 2) := by decide +kernel
theorem d_Mo_small_78 : decode b_Mo_small 78 = .ok (.invokestatic 482, 3) := by decide +kernel
theorem d_Mo_small_81 : decode b_Mo_small 81 = .ok (.iadd, 1) := by decide +kernel
theorem d_Mo_small_82 : decode b_Mo_small 82 = .ok (.invokevirtual 719, 3) := by decide +kernel
theorem d_Mo_small_85 : decode b_Mo_small 85 = .ok (.goto 431, 3) := by decide +kernel
theorem d_Mo_small_88 : decode b_Mo_small 88 = .ok (.aload_n 0, 1) := by decide +kernel
theorem d_Mo_small_89 : decode b_Mo_small 89 = .ok (.iload_n 3, 1) := by decide +kernel
theorem d_Mo_small_90 : decode b_Mo_small 90 = .ok (.iload 4, 2) := by decide +kernel
theorem d_Mo_small_92 : decode b_Mo_small 92 = .ok (.invokestatic 508, 3) := by decide +kernel
theorem d_Mo_small_95 : decode b_Mo_small 95 = .ok (.invokevirtual 905, 3) := by decide +kernel
theorem d_Mo_small_98 : decode b_Mo_small 98 = .ok (.aload 6, 2) := by decide +kernel
theorem d_Mo_small_100 : decode b_Mo_small 100 = .ok (.iload 7, 2) := by decide +kernel
theorem d_Mo_small_102 : decode b_Mo_small 102 = .ok (.aload_n 0, 1) := by decide +kernel
theorem d_Mo_small_103 : decode b_Mo_small 103 = .ok (.getfield 437, 3) := by decide +kernel
theorem d_Mo_small_106 : decode b_Mo_small 106 = .ok (.aload_n 0, 1) := by decide +kernel
theorem d_Mo_small_107 : decode b_Mo_small 107 = .ok (.getfield 440, 3) := by decide +kernel
theorem d_Mo_small_110 : decode b_Mo_small 110 = .ok (.invokevirtual 470, 3) := by decide +kernel
theorem d_Mo_small_113 : decode b_Mo_small 113 = .ok (.goto 403, 3) := by decide +kernel
theorem d_Mo_small_116 : decode b_Mo_small 116 = .ok (.aload 6, 2) := by decide +kernel
theorem d_Mo_small_118 : decode b_Mo_small 118 = .ok (.iload 7, 2) := by decide +kernel
theorem d_Mo_small_120 : decode b_Mo_small 120 = .ok (.iload 4, 2) := by decide +kernel
theorem d_Mo_small_122 : decode b_Mo_small 122 = .ok (.invokestatic 482, 3) := by decide +kernel
theorem d_Mo_small_125 : decode b_Mo_small 125 = .ok (.ifCond .eq 7, 3) := by decide +kernel
theorem d_Mo_small_128 : decode b_Mo_small 128 = .ok (.iconst 2, 1) := by decide +kernel
theorem d_Mo_small_129 : decode b_Mo_small 129 = .ok (.goto 4, 3) := by decide +kernel
theorem d_Mo_small_132 : decode b_Mo_small 132 = .ok (.iconst 1, 1) := by decide +kernel
theorem d_Mo_small_133 : decode b_Mo_small 133 = .ok (.lconst 0, 1) := by decide +kernel
theorem d_Mo_small_134 : decode b_Mo_small 134 = .ok (.invokevirtual 470, 3) := by decide +kernel
theorem d_Mo_small_137 : decode b_Mo_small 137 = .ok (.iload 4, 2) := by decide +kernel
theorem d_Mo_small_139 : decode b_Mo_small 139 = .ok (.invokestatic 479, 3) := by decide +kernel
theorem d_Mo_small_142 : decode b_Mo_small 142 = .ok (.ifCond .eq 374, 3) := by decide +kernel
theorem d_Mo_small_145 : decode b_Mo_small 145 = .ok (.aload_n 1, 1) := by decide +kernel
theorem d_Mo_small_146 : decode b_Mo_small 146 = .ok (.getfield 758, 3) := by decide +kernel
theorem d_Mo_small_149 : decode b_Mo_small 149 = .ok (.iload_n 2, 1) := by decide +kernel
theorem d_Mo_small_150 : decode b_Mo_small 150 = .ok (.dup2, 1) := by decide +kernel
theorem d_Mo_small_151 : decode b_Mo_small 151 = .ok (.iaload, 1) := by decide +kernel
theorem d_Mo_small_152 : decode b_Mo_small 152 = .ok (.iconst 1, 1) := by decide +kernel
theorem d_Mo_small_153 : decode b_Mo_small 153 = .ok (.iadd, 1) := by decide +kernel
theorem d_Mo_small_154 : decode b_Mo_small 154 = .ok (.iastore, 1) := by decide +kernel
theorem d_Mo_small_155 : decode b_Mo_small 155 = .ok (.goto 361, 3) := by decide +kernel
theorem d_Mo_small_158 : decode b_Mo_small 158 = .ok (.iconst 0, 1) := by decide +kernel
theorem d_Mo_small_159 : decode b_Mo_small 159 = .ok (.istore 9, 2) := by decide +kernel
theorem d_Mo_small_161 : decode b_Mo_small 161 = .ok (.iload 9, 2) := by decide +kernel
theorem d_Mo_small_163 : decode b_Mo_small 163 = .ok (.iload 4, 2) := by decide +kernel
theorem d_Mo_small_165 : decode b_Mo_small 165 = .ok (.invokestatic 482, 3) := by decide +kernel
theorem d_Mo_small_168 : decode b_Mo_small 168 = .ok (.if_icmp .gt 21, 3) := by decide +kernel
theorem d_Mo_small_171 : decode b_Mo_small 171 = .ok (.aload 6, 2) := by decide +kernel
theorem d_Mo_small_173 : decode b_Mo_small 173 = .ok (.iload 7, 2) := by decide +kernel
theorem d_Mo_small_175 : decode b_Mo_small 175 = .ok (.iload 9, 2) := by decide +kernel
theorem d_Mo_small_177 : decode b_Mo_small 177 = .ok (.iadd, 1) := by decide +kernel
theorem d_Mo_small_178 : decode b_Mo_small 178 = .ok (.iconst 0, 1) := by decide +kernel
theorem d_Mo_small_179 : decode b_Mo_small 179 = .ok (.lconst 0, 1) := by decide +kernel
theorem d_Mo_small_180 : decode b_Mo_small 180 = .ok (.invokevirtual 470, 3) := by decide +kernel
theorem d_Mo_small_183 : decode b_Mo_small 183 = .ok (.iinc 9 1, 3) := by decide +kernel
theorem d_Mo_small_186 : decode b_Mo_small 186 = .ok (.goto (-25), 3) := by decide +kernel
theorem d_Mo_small_189 : decode b_Mo_small 189 = .ok (.goto 327, 3) := by decide +kernel
theorem d_Mo_small_192 : decode b_Mo_small 192 = .ok (.aload_n 0, 1) := by decide +kernel
theorem d_Mo_small_193 : decode b_Mo_small 193 = .ok (.aload_n 0, 1) := by decide +kernel
theorem d_Mo_small_194 : decode b_Mo_small 194 = .ok (.aload_n 1, 1) := by decide +kernel
theorem d_Mo_small_195 : decode b_Mo_small 195 = .ok (.iload_n 2, 1) := by decide +kernel
theorem d_Mo_small_196 : decode b_Mo_small 196 = .ok (.iload 4, 2) := by decide +kernel
theorem d_Mo_small_198 : decode b_Mo_small 198 = .ok (.invokestatic 482, 3) := by decide +kernel
theorem d_Mo_small_201 : decode b_Mo_small 201 = .ok (.invokevirtual 925, 3) := by decide +kernel
theorem d_Mo_small_204 : decode b_Mo_small 204 = .ok (.invokevirtual 594, 3) := by decide +kernel
theorem d_Mo_small_207 : decode b_Mo_small 207 = .ok (.aload 6, 2) := by decide +kernel
theorem d_Mo_small_209 : decode b_Mo_small 209 = .ok (.iload 7, 2) := by decide +kernel
theorem d_Mo_small_211 : decode b_Mo_small 211 = .ok (.aload_n 0, 1) := by decide +kernel
theorem d_Mo_small_212 : decode b_Mo_small 212 = .ok (.getfield 222, 3) := by decide +kernel
theorem d_Mo_small_215 : decode b_Mo_small 215 = .ok (.aload_n 0, 1) := by decide +kernel
theorem d_Mo_small_216 : decode b_Mo_small 216 = .ok (.getfield 225, 3) := by decide +kernel
theorem d_Mo_small_219 : decode b_Mo_small 219 = .ok (.invokevirtual 470, 3) := by decide +kernel
theorem d_Mo_small_222 : decode b_Mo_small 222 = .ok (.goto 294, 3) := by decide +kernel
theorem d_Mo_small_225 : decode b_Mo_small 225 = .ok (.aload_n 0, 1) := by decide +kernel
theorem d_Mo_small_226 : decode b_Mo_small 226 = .ok (.aload_n 1, 1) := by decide +kernel
theorem d_Mo_small_227 : decode b_Mo_small 227 = .ok (.iload_n 2, 1) := by decide +kernel
theorem d_Mo_small_228 : decode b_Mo_small 228 = .ok (.iload_n 3, 1) := by decide +kernel
theorem d_Mo_small_229 : decode b_Mo_small 229 = .ok (.iload 4, 2) := by decide +kernel
theorem d_Mo_small_231 : decode b_Mo_small 231 = .ok (.invokestatic 479, 3) := by decide +kernel
theorem d_Mo_small_234 : decode b_Mo_small 234 = .ok (.invokevirtual 929, 3) := by decide +kernel
theorem d_Mo_small_237 : decode b_Mo_small 237 = .ok (.aload_n 0, 1) := by decide +kernel
theorem d_Mo_small_238 : decode b_Mo_small 238 = .ok (.aload_n 0, 1) := by decide +kernel
theorem d_Mo_small_239 : decode b_Mo_small 239 = .ok (.aload_n 1, 1) := by decide +kernel
theorem d_Mo_small_240 : decode b_Mo_small 240 = .ok (.iload_n 2, 1) := by decide +kernel
theorem d_Mo_small_241 : decode b_Mo_small 241 = .ok (.iload 4, 2) := by decide +kernel
theorem d_Mo_small_243 : decode b_Mo_small 243 = .ok (.invokestatic 482, 3) := by decide +kernel
theorem d_Mo_small_246 : decode b_Mo_small 246 = .ok (.invokevirtual 925, 3) := by decide +kernel
theorem d_Mo_small_249 : decode b_Mo_small 249 = .ok (.invokevirtual 594, 3) := by decide +kernel
theorem d_Mo_small_252 : decode b_Mo_small 252 = .ok (.aload_n 0, 1) := by decide +kernel
theorem d_Mo_small_253 : decode b_Mo_small 253 = .ok (.aload_n 0, 1) := by decide +kernel
theorem d_Mo_small_254 : decode b_Mo_small 254 = .ok (.getfield 222, 3) := by decide +kernel
theorem d_Mo_small_257 : decode b_Mo_small 257 = .ok (.aload_n 0, 1) := by decide +kernel
theorem d_Mo_small_258 : decode b_Mo_small 258 = .ok (.getfield 225, 3) := by decide +kernel
theorem d_Mo_small_261 : decode b_Mo_small 261 = .ok (.aload_n 0, 1) := by decide +kernel
theorem d_Mo_small_262 : decode b_Mo_small 262 = .ok (.getfield 437, 3) := by decide +kernel
theorem d_Mo_small_265 : decode b_Mo_small 265 = .ok (.aload_n 0, 1) := by decide +kernel
theorem d_Mo_small_266 : decode b_Mo_small 266 = .ok (.getfield 440, 3) := by decide +kernel
theorem d_Mo_small_269 : decode b_Mo_small 269 = .ok (.iload 4, 2) := by decide +kernel
theorem d_Mo_small_271 : decode b_Mo_small 271 = .ok (.invokestatic 495, 3) := by decide +kernel
theorem d_Mo_small_274 : decode b_Mo_small 274 = .ok (.invokevirtual 932, 3) := by decide +kernel
theorem d_Mo_small_277 : decode b_Mo_small 277 = .ok (.goto 239, 3) := by decide +kernel
theorem d_Mo_small_280 : decode b_Mo_small 280 = .ok (.aload_n 0, 1) := by decide +kernel
theorem d_Mo_small_281 : decode b_Mo_small 281 = .ok (.aload_n 1, 1) := by decide +kernel
theorem d_Mo_small_282 : decode b_Mo_small 282 = .ok (.iload_n 2, 1) := by decide +kernel
theorem d_Mo_small_283 : decode b_Mo_small 283 = .ok (.iload_n 3, 1) := by decide +kernel
theorem d_Mo_small_284 : decode b_Mo_small 284 = .ok (.iload 4, 2) := by decide +kernel
theorem d_Mo_small_286 : decode b_Mo_small 286 = .ok (.invokestatic 479, 3) := by decide +kernel
theorem d_Mo_small_289 : decode b_Mo_small 289 = .ok (.invokevirtual 929, 3) := by decide +kernel
theorem d_Mo_small_292 : decode b_Mo_small 292 = .ok (.aload_n 0, 1) := by decide +kernel
theorem d_Mo_small_293 : decode b_Mo_small 293 = .ok (.aload 6, 2) := by decide +kernel
theorem d_Mo_small_295 : decode b_Mo_small 295 = .ok (.getfield 585, 3) := by decide +kernel
theorem d_Mo_small_298 : decode b_Mo_small 298 = .ok (.iload 8, 2) := by decide +kernel
theorem d_Mo_small_300 : decode b_Mo_small 300 = .ok (.iload 4, 2) := by decide +kernel
theorem d_Mo_small_302 : decode b_Mo_small 302 = .ok (.invokestatic 482, 3) := by decide +kernel
theorem d_Mo_small_305 : decode b_Mo_small 305 = .ok (.iadd, 1) := by decide +kernel
theorem d_Mo_small_306 : decode b_Mo_small 306 = .ok (.baload, 1) := by decide +kernel
theorem d_Mo_small_307 : decode b_Mo_small 307 = .ok (.aload 6, 2) := by decide +kernel
theorem d_Mo_small_309 : decode b_Mo_small 309 = .ok (.getfield 588, 3) := by decide +kernel
theorem d_Mo_small_312 : decode b_Mo_small 312 = .ok (.iload 8, 2) := by decide +kernel
theorem d_Mo_small_314 : decode b_Mo_small 314 = .ok (.iload 4, 2) := by decide +kernel
theorem d_Mo_small_316 : decode b_Mo_small 316 = .ok (.invokestatic 482, 3) := by decide +kernel
theorem d_Mo_small_319 : decode b_Mo_small 319 = .ok (.iadd, 1) := by decide +kernel
theorem d_Mo_small_320 : decode b_Mo_small 320 = .ok (.laload, 1) := by decide +kernel
theorem d_Mo_small_321 : decode b_Mo_small 321 = .ok (.aload_n 0, 1) := by decide +kernel
theorem d_Mo_small_322 : decode b_Mo_small 322 = .ok (.getfield 437, 3) := by decide +kernel
theorem d_Mo_small_325 : decode b_Mo_small 325 = .ok (.aload_n 0, 1) := by decide +kernel
theorem d_Mo_small_326 : decode b_Mo_small 326 = .ok (.getfield 440, 3) := by decide +kernel
theorem d_Mo_small_329 : decode b_Mo_small 329 = .ok (.iload 4, 2) := by decide +kernel
theorem d_Mo_small_331 : decode b_Mo_small 331 = .ok (.invokestatic 495, 3) := by decide +kernel
theorem d_Mo_small_334 : decode b_Mo_small 334 = .ok (.invokevirtual 932, 3) := by decide +kernel
theorem d_Mo_small_337 : decode b_Mo_small 337 = .ok (.goto 179, 3) := by decide +kernel
theorem d_Mo_small_340 : decode b_Mo_small 340 = .ok (.aload_n 0, 1) := by decide +kernel
theorem d_Mo_small_341 : decode b_Mo_small 341 = .ok (.aload_n 1, 1) := by decide +kernel
theorem d_Mo_small_342 : decode b_Mo_small 342 = .ok (.iload_n 2, 1) := by decide +kernel
theorem d_Mo_small_343 : decode b_Mo_small 343 = .ok (.iload_n 3, 1) := by decide +kernel
theorem d_Mo_small_344 : decode b_Mo_small 344 = .ok (.iload 4, 2) := by decide +kernel
theorem d_Mo_small_346 : decode b_Mo_small 346 = .ok (.invokestatic 482, 3) := by decide +kernel
theorem d_Mo_small_349 : decode b_Mo_small 349 = .ok (.invokevirtual 929, 3) := by decide +kernel
theorem d_Mo_small_352 : decode b_Mo_small 352 = .ok (.aload_n 0, 1) := by decide +kernel
theorem d_Mo_small_353 : decode b_Mo_small 353 = .ok (.getfield 437, 3) := by decide +kernel
theorem d_Mo_small_356 : decode b_Mo_small 356 = .ok (.istore 9, 2) := by decide +kernel
theorem d_Mo_small_358 : decode b_Mo_small 358 = .ok (.aload_n 0, 1) := by decide +kernel
theorem d_Mo_small_359 : decode b_Mo_small 359 = .ok (.getfield 440, 3) := by decide +kernel
theorem d_Mo_small_362 : decode b_Mo_small 362 = .ok (.lstore 10, 2) := by decide +kernel
theorem d_Mo_small_364 : decode b_Mo_small 364 = .ok (.aload_n 0, 1) := by decide +kernel
theorem d_Mo_small_365 : decode b_Mo_small 365 = .ok (.aload_n 1, 1) := by decide +kernel
theorem d_Mo_small_366 : decode b_Mo_small 366 = .ok (.iload_n 2, 1) := by decide +kernel
theorem d_Mo_small_367 : decode b_Mo_small 367 = .ok (.iload_n 3, 1) := by decide +kernel
theorem d_Mo_small_368 : decode b_Mo_small 368 = .ok (.iload 4, 2) := by decide +kernel
theorem d_Mo_small_370 : decode b_Mo_small 370 = .ok (.invokestatic 479, 3) := by decide +kernel
theorem d_Mo_small_373 : decode b_Mo_small 373 = .ok (.invokevirtual 929, 3) := by decide +kernel
theorem d_Mo_small_376 : decode b_Mo_small 376 = .ok (.iload 5, 2) := by decide +kernel
theorem d_Mo_small_378 : decode b_Mo_small 378 = .ok (.bipush 8, 2) := by decide +kernel
theorem d_Mo_small_380 : decode b_Mo_small 380 = .ok (.if_icmp .ne 45, 3) := by decide +kernel
theorem d_Mo_small_383 : decode b_Mo_small 383 = .ok (.aload_n 0, 1) := by decide +kernel
theorem d_Mo_small_384 : decode b_Mo_small 384 = .ok (.aload_n 0, 1) := by decide +kernel
theorem d_Mo_small_385 : decode b_Mo_small 385 = .ok (.aload_n 1, 1) := by decide +kernel
theorem d_Mo_small_386 : decode b_Mo_small 386 = .ok (.iload_n 2, 1) := by decide +kernel
theorem d_Mo_small_387 : decode b_Mo_small 387 = .ok (.iload 4, 2) := by decide +kernel
theorem d_Mo_small_389 : decode b_Mo_small 389 = .ok (.invokestatic 495, 3) := by decide +kernel
theorem d_Mo_small_392 : decode b_Mo_small 392 = .ok (.invokevirtual 925, 3) := by decide +kernel
theorem d_Mo_small_395 : decode b_Mo_small 395 = .ok (.invokevirtual 594, 3) := by decide +kernel
theorem d_Mo_small_398 : decode b_Mo_small 398 = .ok (.aload_n 0, 1) := by decide +kernel
theorem d_Mo_small_399 : decode b_Mo_small 399 = .ok (.aload_n 0, 1) := by decide +kernel
theorem d_Mo_small_400 : decode b_Mo_small 400 = .ok (.getfield 222, 3) := by decide +kernel
theorem d_Mo_small_403 : decode b_Mo_small 403 = .ok (.aload_n 0, 1) := by decide +kernel
theorem d_Mo_small_404 : decode b_Mo_small 404 = .ok (.getfield 225, 3) := by decide +kernel
theorem d_Mo_small_407 : decode b_Mo_small 407 = .ok (.iload 9, 2) := by decide +kernel
theorem d_Mo_small_409 : decode b_Mo_small 409 = .ok (.lload 10, 2) := by decide +kernel
theorem d_Mo_small_411 : decode b_Mo_small 411 = .ok (.aload_n 0, 1) := by decide +kernel
theorem d_Mo_small_412 : decode b_Mo_small 412 = .ok (.getfield 437, 3) := by decide +kernel
theorem d_Mo_small_415 : decode b_Mo_small 415 = .ok (.aload_n 0, 1) := by decide +kernel
theorem d_Mo_small_416 : decode b_Mo_small 416 = .ok (.getfield 440, 3) := by decide +kernel
theorem d_Mo_small_419 : decode b_Mo_small 419 = .ok (.invokevirtual 936, 3) := by decide +kernel
theorem d_Mo_small_422 : decode b_Mo_small 422 = .ok (.goto 94, 3) := by decide +kernel
theorem d_Mo_small_425 : decode b_Mo_small 425 = .ok (.aload_n 0, 1) := by decide +kernel
theorem d_Mo_small_426 : decode b_Mo_small 426 = .ok (.aload 6, 2) := by decide +kernel
theorem d_Mo_small_428 : decode b_Mo_small 428 = .ok (.getfield 585, 3) := by decide +kernel
theorem d_Mo_small_431 : decode b_Mo_small 431 = .ok (.iload 7, 2) := by decide +kernel
theorem d_Mo_small_433 : decode b_Mo_small 433 = .ok (.baload, 1) := by decide +kernel
theorem d_Mo_small_434 : decode b_Mo_small 434 = .ok (.aload 6, 2) := by decide +kernel
theorem d_Mo_small_436 : decode b_Mo_small 436 = .ok (.getfield 588, 3) := by decide +kernel
theorem d_Mo_small_439 : decode b_Mo_small 439 = .ok (.iload 7, 2) := by decide +kernel
theorem d_Mo_small_441 : decode b_Mo_small 441 = .ok (.laload, 1) := by decide +kernel
theorem d_Mo_small_442 : decode b_Mo_small 442 = .ok (.iload 9, 2) := by decide +kernel
theorem d_Mo_small_444 : decode b_Mo_small 444 = .ok (.lload 10, 2) := by decide +kernel
theorem d_Mo_small_446 : decode b_Mo_small 446 = .ok (.aload_n 0, 1) := by decide +kernel
theorem d_Mo_small_447 : decode b_Mo_small 447 = .ok (.getfield 437, 3) := by decide +kernel
theorem d_Mo_small_450 : decode b_Mo_small 450 = .ok (.aload_n 0, 1) := by decide +kernel
theorem d_Mo_small_451 : decode b_Mo_small 451 = .ok (.getfield 440, 3) := by decide +kernel
theorem d_Mo_small_454 : decode b_Mo_small 454 = .ok (.invokevirtual 936, 3) := by decide +kernel
theorem d_Mo_small_457 : decode b_Mo_small 457 = .ok (.goto 59, 3) := by decide +kernel
theorem d_Mo_small_460 : decode b_Mo_small 460 = .ok (.aload_n 0, 1) := by decide +kernel
theorem d_Mo_small_461 : decode b_Mo_small 461 = .ok (.aload_n 0, 1) := by decide +kernel
theorem d_Mo_small_462 : decode b_Mo_small 462 = .ok (.aload_n 1, 1) := by decide +kernel
theorem d_Mo_small_463 : decode b_Mo_small 463 = .ok (.iload_n 2, 1) := by decide +kernel
theorem d_Mo_small_464 : decode b_Mo_small 464 = .ok (.iload 4, 2) := by decide +kernel
theorem d_Mo_small_466 : decode b_Mo_small 466 = .ok (.invokestatic 482, 3) := by decide +kernel
theorem d_Mo_small_469 : decode b_Mo_small 469 = .ok (.invokevirtual 925, 3) := by decide +kernel
theorem d_Mo_small_472 : decode b_Mo_small 472 = .ok (.aload 6, 2) := by decide +kernel
theorem d_Mo_small_474 : decode b_Mo_small 474 = .ok (.getfield 585, 3) := by decide +kernel
theorem d_Mo_small_477 : decode b_Mo_small 477 = .ok (.iload 7, 2) := by decide +kernel
theorem d_Mo_small_479 : decode b_Mo_small 479 = .ok (.baload, 1) := by decide +kernel
theorem d_Mo_small_480 : decode b_Mo_small 480 = .ok (.aload 6, 2) := by decide +kernel
theorem d_Mo_small_482 : decode b_Mo_small 482 = .ok (.getfield 588, 3) := by decide +kernel
theorem d_Mo_small_485 : decode b_Mo_small 485 = .ok (.iload 7, 2) := by decide +kernel
theorem d_Mo_small_487 : decode b_Mo_small 487 = .ok (.laload, 1) := by decide +kernel
theorem d_Mo_small_488 : decode b_Mo_small 488 = .ok (.invokevirtual 940, 3) := by decide +kernel
theorem d_Mo_small_491 : decode b_Mo_small 491 = .ok (.goto 25, 3) := by decide +kernel
theorem d_Mo_small_494 : decode b_Mo_small 494 = .ok (.aload_n 0, 1) := by decide +kernel
theorem d_Mo_small_495 : decode b_Mo_small 495 = .ok (.invokevirtual 675, 3) := by decide +kernel
theorem d_Mo_small_498 : decode b_Mo_small 498 = .ok (.istore 12, 2) := by decide +kernel
theorem d_Mo_small_500 : decode b_Mo_small 500 = .ok (.iload 12, 2) := by decide +kernel
theorem d_Mo_small_502 : decode b_Mo_small 502 = .ok (.ifCond .lt 14, 3) := by decide +kernel
theorem d_Mo_small_505 : decode b_Mo_small 505 = .ok (.aload 6, 2) := by decide +kernel
theorem d_Mo_small_507 : decode b_Mo_small 507 = .ok (.iload 7, 2) := by decide +kernel
theorem d_Mo_small_509 : decode b_Mo_small 509 = .ok (.iconst 5, 1) := by decide +kernel
theorem d_Mo_small_510 : decode b_Mo_small 510 = .ok (.iload 12, 2) := by decide +kernel
theorem d_Mo_small_512 : decode b_Mo_small 512 = .ok (.i2l, 1) := by decide +kernel
theorem d_Mo_small_513 : decode b_Mo_small 513 = .ok (.invokevirtual 470, 3) := by decide +kernel
theorem d_Mo_small_516 : decode b_Mo_small 516 = .ok (.return_, 1) := by decide +kernel
abbrev b_Mo_constant : ByteArray := prog_14_method_109_code
def y_Mo_constant : MethodName := ⟨R_Mo, "constant", "(II)V"⟩
abbrev w_Mo_constant : List Cond := .code y_Mo_constant b_Mo_constant 4 none :: wA
theorem k_Mo_constant : Cond.code y_Mo_constant b_Mo_constant 4 none ∈ wA := kinm (show _ ∈ tables_1 from (List.mem_append_right _ (List.mem_append_right _ (List.mem_append_right _ (List.mem_append_right _ (List.mem_append_right _ (List.mem_append_right _ (List.mem_append_right _ (List.mem_append_right _ (List.mem_append_right _ (List.mem_append_right _ (List.mem_append_right _ (List.mem_append_right _ (List.mem_append_left _ (List.mem_of_getElem? (l := tables_1_13) (i := 138) (by decide +kernel)))))))))))))))) (by decide +kernel)
theorem d_Mo_constant_0 : decode b_Mo_constant 0 = .ok (.aload_n 0, 1) := by decide +kernel
theorem d_Mo_constant_1 : decode b_Mo_constant 1 = .ok (.getfield 47, 3) := by decide +kernel
theorem d_Mo_constant_4 : decode b_Mo_constant 4 = .ok (.iload_n 1, 1) := by decide +kernel
theorem d_Mo_constant_5 : decode b_Mo_constant 5 = .ok (.iaload, 1) := by decide +kernel
theorem d_Mo_constant_6 : decode b_Mo_constant 6 = .ok (.iload_n 2, 1) := by decide +kernel
theorem d_Mo_constant_7 : decode b_Mo_constant 7 = .ok (.iadd, 1) := by decide +kernel
theorem d_Mo_constant_8 : decode b_Mo_constant 8 = .ok (.istore_n 3, 1) := by decide +kernel
theorem d_Mo_constant_9 : decode b_Mo_constant 9 = .ok (.aload_n 0, 1) := by decide +kernel
theorem d_Mo_constant_10 : decode b_Mo_constant 10 = .ok (.aload_n 0, 1) := by decide +kernel
theorem d_Mo_constant_11 : decode b_Mo_constant 11 = .ok (.getfield 82, 3) := by decide +kernel
theorem d_Mo_constant_14 : decode b_Mo_constant 14 = .ok (.getfield 585, 3) := by decide +kernel
theorem d_Mo_constant_17 : decode b_Mo_constant 17 = .ok (.iload_n 3, 1) := by decide +kernel
theorem d_Mo_constant_18 : decode b_Mo_constant 18 = .ok (.baload, 1) := by decide +kernel
theorem d_Mo_constant_19 : decode b_Mo_constant 19 = .ok (.putfield 437, 3) := by decide +kernel
theorem d_Mo_constant_22 : decode b_Mo_constant 22 = .ok (.aload_n 0, 1) := by decide +kernel
theorem d_Mo_constant_23 : decode b_Mo_constant 23 = .ok (.aload_n 0, 1) := by decide +kernel
theorem d_Mo_constant_24 : decode b_Mo_constant 24 = .ok (.getfield 82, 3) := by decide +kernel
theorem d_Mo_constant_27 : decode b_Mo_constant 27 = .ok (.getfield 588, 3) := by decide +kernel
theorem d_Mo_constant_30 : decode b_Mo_constant 30 = .ok (.iload_n 3, 1) := by decide +kernel
theorem d_Mo_constant_31 : decode b_Mo_constant 31 = .ok (.laload, 1) := by decide +kernel
theorem d_Mo_constant_32 : decode b_Mo_constant 32 = .ok (.putfield 440, 3) := by decide +kernel
theorem d_Mo_constant_35 : decode b_Mo_constant 35 = .ok (.return_, 1) := by decide +kernel
theorem kw_252 : Cond.fieldLink R_Mo 47 "LuaMachineModel" "constAt" "[I" ∈ wA := kinm (show _ ∈ tables_1 from (List.mem_append_right _ (List.mem_append_right _ (List.mem_append_right _ (List.mem_append_right _ (List.mem_append_right _ (List.mem_append_right _ (List.mem_append_right _ (List.mem_append_right _ (List.mem_append_right _ (List.mem_append_left _ (List.mem_of_getElem? (l := tables_1_10) (i := 66) (by decide +kernel))))))))))))) (by decide +kernel)
theorem kw_253 : Cond.fieldLink R_Mo 82 "LuaMachineModel" "constants" "LLuaMachineModel$Values;" ∈ wA := kinm (show _ ∈ tables_1 from (List.mem_append_right _ (List.mem_append_right _ (List.mem_append_right _ (List.mem_append_right _ (List.mem_append_right _ (List.mem_append_right _ (List.mem_append_right _ (List.mem_append_right _ (List.mem_append_right _ (List.mem_append_left _ (List.mem_of_getElem? (l := tables_1_10) (i := 76) (by decide +kernel))))))))))))) (by decide +kernel)
theorem kw_254 : Cond.fieldLink R_Mo 437 "LuaMachineModel" "rkKind" "I" ∈ wA := kinm (show _ ∈ tables_1 from (List.mem_append_right _ (List.mem_append_right _ (List.mem_append_right _ (List.mem_append_right _ (List.mem_append_right _ (List.mem_append_right _ (List.mem_append_right _ (List.mem_append_right _ (List.mem_append_right _ (List.mem_append_left _ (List.mem_of_getElem? (l := tables_1_10) (i := 154) (by decide +kernel))))))))))))) (by decide +kernel)
theorem kw_255 : Cond.fieldLink R_Mo 440 "LuaMachineModel" "rk" "J" ∈ wA := kinm (show _ ∈ tables_1 from (List.mem_append_right _ (List.mem_append_right _ (List.mem_append_right _ (List.mem_append_right _ (List.mem_append_right _ (List.mem_append_right _ (List.mem_append_right _ (List.mem_append_right _ (List.mem_append_right _ (List.mem_append_left _ (List.mem_of_getElem? (l := tables_1_10) (i := 155) (by decide +kernel))))))))))))) (by decide +kernel)
theorem kw_256 : Cond.instanceMethod y_Mo_constant ∈ wA := kinm (show _ ∈ tables_1 from (List.mem_append_right _ (List.mem_append_right _ (List.mem_append_right _ (List.mem_append_right _ (List.mem_append_right _ (List.mem_append_right _ (List.mem_append_right _ (List.mem_append_right _ (List.mem_append_right _ (List.mem_append_right _ (List.mem_append_right _ (List.mem_append_right _ (List.mem_append_left _ (List.mem_of_getElem? (l := tables_1_13) (i := 137) (by decide +kernel)))))))))))))))) (by decide +kernel)
theorem kw_257 : Cond.selects R_Mo y_Mo_constant y_Mo_constant ∈ wA := kinp 205 (by decide +kernel) (by decide +kernel)
def M_Mo_constant (l1 : Int32) (l2 : Int32) : M (Unit) :=
  oB (oAI 47 251 0 l1) fun v5 =>
  oL (v5 + l2) fun l3_8 =>
  oB (oAI 2 20001 0 l3_8) fun v18 =>
  oB (oPI 98 0 v18) fun _ =>
  oB (oAL 3 20001 0 l3_8) fun v31 =>
  oB (oPL 99 0 v31) fun _ =>
  oR ()

theorem cv_Mo_constant : CV y_Mo_constant b_Mo_constant 4 none 2 := ⟨kw_256, kw_257, kw_17, k_Mo_constant, by decide +kernel⟩
theorem ct_Mo_constant {l : Launch} {P : PP} {q : PL} {s s' : S1} {l1 : Int32} {l2 : Int32} {r : Unit} (h : M_Mo_constant l1 l2 s = some (r, s')) : Ct l y_Mo_constant b_Mo_constant 4 none 0 0 P q s [.ref (q.1 0 0), .int l1, .int l2] none q s' := by
  refine ct_of (by decide) (Nat.le_of_ble_eq_true rfl) fun X ls eP el g hR hl => ?_
  have hR : Rt X q ((r, s') : Unit × S1).2 none := hR
  have hl : lv_has ls 4 [(0, .ref (q.1 0 0)), (1, .int l1), (2, .int l2)] := hl
  generalize (r, s') = o at h hR
  unfold M_Mo_constant at h
  refine ww_aload_n (pc := 0) g.1 d_Mo_constant_0 rfl (lv_at hl 0 rfl) ?_
  refine ww_gR (pc := 1) g (k := 11) cl_Mo (pz rfl (by decide)) (by decide) (Or.inl kw_252) (f := 11) (t := 47) rfl rfl rfl d_Mo_constant_1 ?_
  refine ww_iload_n (pc := 4) g.1 d_Mo_constant_4 rfl (lv_at hl 1 rfl) ?_
  refine ww_ai (pc := 5) g (pz rfl (by decide)) rfl rfl d_Mo_constant_5 h fun v5 h => ?_
  refine ww_iload_n (pc := 6) g.1 d_Mo_constant_6 rfl (lv_at hl 2 rfl) ?_
  refine ww_iadd (pc := 7) g.1 d_Mo_constant_7 ?_
  refine ww_leti h fun l3_8 h => ?_
  refine ww_istore_n (pc := 8) g.1 (lv' := [(3, .int l3_8), (0, .ref (q.1 0 0)), (1, .int l1), (2, .int l2)]) d_Mo_constant_8 rfl hl (by decide) rfl fun ls hl => ?_
  refine ww_aload_n (pc := 9) g.1 d_Mo_constant_9 rfl (lv_at hl 1 rfl) ?_
  refine ww_aload_n (pc := 10) g.1 d_Mo_constant_10 rfl (lv_at hl 1 rfl) ?_
  refine ww_gR (pc := 11) g (k := 21) cl_Mo (pz rfl (by decide)) (by decide) (Or.inl kw_253) (f := 21) (t := 1) rfl rfl rfl d_Mo_constant_11 ?_
  refine ww_gR (pc := 14) g (k := 0) (cl_Va (Or.inl ⟨by decide, rfl⟩)) (pz rfl (by decide)) (by decide) (Or.inl kw_92) (f := 128) (t := 2) rfl rfl rfl d_Mo_constant_14 ?_
  refine ww_iload_n (pc := 17) g.1 d_Mo_constant_17 rfl (lv_at hl 0 rfl) ?_
  refine ww_ab (pc := 18) g (pz rfl (by decide)) rfl rfl d_Mo_constant_18 h fun v18 h => ?_
  refine ww_pI (pc := 19) g (k := 98) cl_Mo (pz rfl (by decide)) (by decide) (Or.inl kw_254) rfl (f := 98) rfl rfl rfl rfl d_Mo_constant_19 h fun s hs h => ?_
  refine ww_aload_n (pc := 22) g.1 d_Mo_constant_22 rfl (lv_at hl 1 rfl) ?_
  refine ww_aload_n (pc := 23) g.1 d_Mo_constant_23 rfl (lv_at hl 1 rfl) ?_
  refine ww_gR (pc := 24) g (k := 21) cl_Mo (pz rfl (by decide)) (by decide) (Or.inl kw_253) (f := 21) (t := 1) rfl rfl rfl d_Mo_constant_24 ?_
  refine ww_gR (pc := 27) g (k := 1) (cl_Va (Or.inl ⟨by decide, rfl⟩)) (pz rfl (by decide)) (by decide) (Or.inl kw_95) (f := 129) (t := 3) rfl rfl rfl d_Mo_constant_27 ?_
  refine ww_iload_n (pc := 30) g.1 d_Mo_constant_30 rfl (lv_at hl 0 rfl) ?_
  refine ww_al (pc := 31) g (pz rfl (by decide)) rfl rfl d_Mo_constant_31 h fun v31 h => ?_
  refine ww_pL (pc := 32) g (k := 99) cl_Mo (pz rfl (by decide)) (by decide) (Or.inl kw_255) rfl (f := 99) rfl rfl rfl rfl d_Mo_constant_32 h fun s hs h => ?_
  exact ww_vretH (pc := 35) g h hR d_Mo_constant_35

