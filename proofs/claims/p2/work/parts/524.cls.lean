abbrev b_Ta_makeRoom : ByteArray := prog_11_method_10_code
def y_Ta_makeRoom : MethodName := ⟨R_Ta, "makeRoom", "(I)I"⟩
abbrev w_Ta_makeRoom : List Cond := .code y_Ta_makeRoom b_Ta_makeRoom 5 (some .int) :: wA
set_option maxRecDepth 20000 in
theorem k_Ta_makeRoom : Cond.code y_Ta_makeRoom b_Ta_makeRoom 5 (some .int) ∈ wA := kinm (show _ ∈ tables_1 from (List.mem_append_right _ (List.mem_append_right _ (List.mem_append_right _ (List.mem_append_right _ (List.mem_append_right _ (List.mem_append_left _ (List.mem_of_getElem? (l := tables_1_6) (i := 49) rfl)))))))) rfl
theorem d_Ta_makeRoom_0 : decode b_Ta_makeRoom 0 = .ok (.aload_n 0, 1) := by decide +kernel
theorem d_Ta_makeRoom_1 : decode b_Ta_makeRoom 1 = .ok (.getfield 36, 3) := by decide +kernel
theorem d_Ta_makeRoom_4 : decode b_Ta_makeRoom 4 = .ok (.getfield 50, 3) := by decide +kernel
theorem d_Ta_makeRoom_7 : decode b_Ta_makeRoom 7 = .ok (.iload_n 1, 1) := by decide +kernel
theorem d_Ta_makeRoom_8 : decode b_Ta_makeRoom 8 = .ok (.aaload, 1) := by decide +kernel
theorem d_Ta_makeRoom_9 : decode b_Ta_makeRoom 9 = .ok (.astore_n 2, 1) := by decide +kernel
theorem d_Ta_makeRoom_10 : decode b_Ta_makeRoom 10 = .ok (.aload_n 0, 1) := by decide +kernel
theorem d_Ta_makeRoom_11 : decode b_Ta_makeRoom 11 = .ok (.aload_n 2, 1) := by decide +kernel
theorem d_Ta_makeRoom_12 : decode b_Ta_makeRoom 12 = .ok (.invokevirtual 94, 3) := by decide +kernel
theorem d_Ta_makeRoom_15 : decode b_Ta_makeRoom 15 = .ok (.aload_n 2, 1) := by decide +kernel
theorem d_Ta_makeRoom_16 : decode b_Ta_makeRoom 16 = .ok (.getfield 59, 3) := by decide +kernel
theorem d_Ta_makeRoom_19 : decode b_Ta_makeRoom 19 = .ok (.ifCond .le 18, 3) := by decide +kernel
theorem d_Ta_makeRoom_22 : decode b_Ta_makeRoom 22 = .ok (.aload_n 2, 1) := by decide +kernel
theorem d_Ta_makeRoom_23 : decode b_Ta_makeRoom 23 = .ok (.getfield 62, 3) := by decide +kernel
theorem d_Ta_makeRoom_26 : decode b_Ta_makeRoom 26 = .ok (.iconst 2, 1) := by decide +kernel
theorem d_Ta_makeRoom_27 : decode b_Ta_makeRoom 27 = .ok (.imul, 1) := by decide +kernel
theorem d_Ta_makeRoom_28 : decode b_Ta_makeRoom 28 = .ok (.aload_n 2, 1) := by decide +kernel
theorem d_Ta_makeRoom_29 : decode b_Ta_makeRoom 29 = .ok (.getfield 59, 3) := by decide +kernel
theorem d_Ta_makeRoom_32 : decode b_Ta_makeRoom 32 = .ok (.if_icmp .gt 5, 3) := by decide +kernel
theorem d_Ta_makeRoom_35 : decode b_Ta_makeRoom 35 = .ok (.iconst 0, 1) := by decide +kernel
theorem d_Ta_makeRoom_36 : decode b_Ta_makeRoom 36 = .ok (.ireturn, 1) := by decide +kernel
theorem d_Ta_makeRoom_37 : decode b_Ta_makeRoom 37 = .ok (.aload_n 0, 1) := by decide +kernel
theorem d_Ta_makeRoom_38 : decode b_Ta_makeRoom 38 = .ok (.getfield 36, 3) := by decide +kernel
theorem d_Ta_makeRoom_41 : decode b_Ta_makeRoom 41 = .ok (.getfield 98, 3) := by decide +kernel
theorem d_Ta_makeRoom_44 : decode b_Ta_makeRoom 44 = .ok (.astore_n 3, 1) := by decide +kernel
theorem d_Ta_makeRoom_45 : decode b_Ta_makeRoom 45 = .ok (.aload_n 2, 1) := by decide +kernel
theorem d_Ta_makeRoom_46 : decode b_Ta_makeRoom 46 = .ok (.getfield 59, 3) := by decide +kernel
theorem d_Ta_makeRoom_49 : decode b_Ta_makeRoom 49 = .ok (.ifCond .ne 7, 3) := by decide +kernel
theorem d_Ta_makeRoom_52 : decode b_Ta_makeRoom 52 = .ok (.iconst 4, 1) := by decide +kernel
theorem d_Ta_makeRoom_53 : decode b_Ta_makeRoom 53 = .ok (.goto 9, 3) := by decide +kernel
theorem d_Ta_makeRoom_56 : decode b_Ta_makeRoom 56 = .ok (.aload_n 2, 1) := by decide +kernel
theorem d_Ta_makeRoom_57 : decode b_Ta_makeRoom 57 = .ok (.getfield 59, 3) := by decide +kernel
theorem d_Ta_makeRoom_60 : decode b_Ta_makeRoom 60 = .ok (.iconst 2, 1) := by decide +kernel
theorem d_Ta_makeRoom_61 : decode b_Ta_makeRoom 61 = .ok (.imul, 1) := by decide +kernel
theorem d_Ta_makeRoom_62 : decode b_Ta_makeRoom 62 = .ok (.istore 4, 2) := by decide +kernel
theorem d_Ta_makeRoom_64 : decode b_Ta_makeRoom 64 = .ok (.aload_n 3, 1) := by decide +kernel
theorem d_Ta_makeRoom_65 : decode b_Ta_makeRoom 65 = .ok (.bipush 13, 2) := by decide +kernel
theorem d_Ta_makeRoom_67 : decode b_Ta_makeRoom 67 = .ok (.iaload, 1) := by decide +kernel
theorem d_Ta_makeRoom_68 : decode b_Ta_makeRoom 68 = .ok (.iload 4, 2) := by decide +kernel
theorem d_Ta_makeRoom_70 : decode b_Ta_makeRoom 70 = .ok (.iadd, 1) := by decide +kernel
theorem d_Ta_makeRoom_71 : decode b_Ta_makeRoom 71 = .ok (.ldc 101, 2) := by decide +kernel
theorem d_Ta_makeRoom_73 : decode b_Ta_makeRoom 73 = .ok (.if_icmp .le 6, 3) := by decide +kernel
theorem d_Ta_makeRoom_76 : decode b_Ta_makeRoom 76 = .ok (.bipush 11, 2) := by decide +kernel
theorem d_Ta_makeRoom_78 : decode b_Ta_makeRoom 78 = .ok (.ireturn, 1) := by decide +kernel
theorem d_Ta_makeRoom_79 : decode b_Ta_makeRoom 79 = .ok (.aload_n 3, 1) := by decide +kernel
theorem d_Ta_makeRoom_80 : decode b_Ta_makeRoom 80 = .ok (.bipush 6, 2) := by decide +kernel
theorem d_Ta_makeRoom_82 : decode b_Ta_makeRoom 82 = .ok (.iaload, 1) := by decide +kernel
theorem d_Ta_makeRoom_83 : decode b_Ta_makeRoom 83 = .ok (.iload 4, 2) := by decide +kernel
theorem d_Ta_makeRoom_85 : decode b_Ta_makeRoom 85 = .ok (.iadd, 1) := by decide +kernel
theorem d_Ta_makeRoom_86 : decode b_Ta_makeRoom 86 = .ok (.ldc 102, 2) := by decide +kernel
theorem d_Ta_makeRoom_88 : decode b_Ta_makeRoom 88 = .ok (.if_icmp .le 20, 3) := by decide +kernel
theorem d_Ta_makeRoom_91 : decode b_Ta_makeRoom 91 = .ok (.aload_n 0, 1) := by decide +kernel
theorem d_Ta_makeRoom_92 : decode b_Ta_makeRoom 92 = .ok (.getfield 36, 3) := by decide +kernel
theorem d_Ta_makeRoom_95 : decode b_Ta_makeRoom 95 = .ok (.getfield 103, 3) := by decide +kernel
theorem d_Ta_makeRoom_98 : decode b_Ta_makeRoom 98 = .ok (.ifCond .ne 10, 3) := by decide +kernel
theorem d_Ta_makeRoom_101 : decode b_Ta_makeRoom 101 = .ok (.aload_n 0, 1) := by decide +kernel
theorem d_Ta_makeRoom_102 : decode b_Ta_makeRoom 102 = .ok (.getfield 36, 3) := by decide +kernel
theorem d_Ta_makeRoom_105 : decode b_Ta_makeRoom 105 = .ok (.invokevirtual 107, 3) := by decide +kernel
theorem d_Ta_makeRoom_108 : decode b_Ta_makeRoom 108 = .ok (.aload_n 3, 1) := by decide +kernel
theorem d_Ta_makeRoom_109 : decode b_Ta_makeRoom 109 = .ok (.bipush 6, 2) := by decide +kernel
theorem d_Ta_makeRoom_111 : decode b_Ta_makeRoom 111 = .ok (.iaload, 1) := by decide +kernel
theorem d_Ta_makeRoom_112 : decode b_Ta_makeRoom 112 = .ok (.iload 4, 2) := by decide +kernel
theorem d_Ta_makeRoom_114 : decode b_Ta_makeRoom 114 = .ok (.iadd, 1) := by decide +kernel
theorem d_Ta_makeRoom_115 : decode b_Ta_makeRoom 115 = .ok (.ldc 102, 2) := by decide +kernel
theorem d_Ta_makeRoom_117 : decode b_Ta_makeRoom 117 = .ok (.if_icmp .le 6, 3) := by decide +kernel
theorem d_Ta_makeRoom_120 : decode b_Ta_makeRoom 120 = .ok (.bipush 10, 2) := by decide +kernel
theorem d_Ta_makeRoom_122 : decode b_Ta_makeRoom 122 = .ok (.ireturn, 1) := by decide +kernel
theorem d_Ta_makeRoom_123 : decode b_Ta_makeRoom 123 = .ok (.aload_n 3, 1) := by decide +kernel
theorem d_Ta_makeRoom_124 : decode b_Ta_makeRoom 124 = .ok (.bipush 6, 2) := by decide +kernel
theorem d_Ta_makeRoom_126 : decode b_Ta_makeRoom 126 = .ok (.dup2, 1) := by decide +kernel
theorem d_Ta_makeRoom_127 : decode b_Ta_makeRoom 127 = .ok (.iaload, 1) := by decide +kernel
theorem d_Ta_makeRoom_128 : decode b_Ta_makeRoom 128 = .ok (.iload 4, 2) := by decide +kernel
theorem d_Ta_makeRoom_130 : decode b_Ta_makeRoom 130 = .ok (.aload_n 2, 1) := by decide +kernel
theorem d_Ta_makeRoom_131 : decode b_Ta_makeRoom 131 = .ok (.getfield 59, 3) := by decide +kernel
theorem d_Ta_makeRoom_134 : decode b_Ta_makeRoom 134 = .ok (.isub, 1) := by decide +kernel
theorem d_Ta_makeRoom_135 : decode b_Ta_makeRoom 135 = .ok (.iadd, 1) := by decide +kernel
theorem d_Ta_makeRoom_136 : decode b_Ta_makeRoom 136 = .ok (.iastore, 1) := by decide +kernel
theorem d_Ta_makeRoom_137 : decode b_Ta_makeRoom 137 = .ok (.aload_n 3, 1) := by decide +kernel
theorem d_Ta_makeRoom_138 : decode b_Ta_makeRoom 138 = .ok (.bipush 7, 2) := by decide +kernel
theorem d_Ta_makeRoom_140 : decode b_Ta_makeRoom 140 = .ok (.dup2, 1) := by decide +kernel
theorem d_Ta_makeRoom_141 : decode b_Ta_makeRoom 141 = .ok (.iaload, 1) := by decide +kernel
theorem d_Ta_makeRoom_142 : decode b_Ta_makeRoom 142 = .ok (.iload 4, 2) := by decide +kernel
theorem d_Ta_makeRoom_144 : decode b_Ta_makeRoom 144 = .ok (.iadd, 1) := by decide +kernel
theorem d_Ta_makeRoom_145 : decode b_Ta_makeRoom 145 = .ok (.iastore, 1) := by decide +kernel
theorem d_Ta_makeRoom_146 : decode b_Ta_makeRoom 146 = .ok (.aload_n 3, 1) := by decide +kernel
theorem d_Ta_makeRoom_147 : decode b_Ta_makeRoom 147 = .ok (.bipush 13, 2) := by decide +kernel
theorem d_Ta_makeRoom_149 : decode b_Ta_makeRoom 149 = .ok (.dup2, 1) := by decide +kernel
theorem d_Ta_makeRoom_150 : decode b_Ta_makeRoom 150 = .ok (.iaload, 1) := by decide +kernel
theorem d_Ta_makeRoom_151 : decode b_Ta_makeRoom 151 = .ok (.iload 4, 2) := by decide +kernel
theorem d_Ta_makeRoom_153 : decode b_Ta_makeRoom 153 = .ok (.iadd, 1) := by decide +kernel
theorem d_Ta_makeRoom_154 : decode b_Ta_makeRoom 154 = .ok (.iastore, 1) := by decide +kernel
theorem d_Ta_makeRoom_155 : decode b_Ta_makeRoom 155 = .ok (.aload_n 0, 1) := by decide +kernel
theorem d_Ta_makeRoom_156 : decode b_Ta_makeRoom 156 = .ok (.iload_n 1, 1) := by decide +kernel
theorem d_Ta_makeRoom_157 : decode b_Ta_makeRoom 157 = .ok (.iload 4, 2) := by decide +kernel
theorem d_Ta_makeRoom_159 : decode b_Ta_makeRoom 159 = .ok (.invokevirtual 110, 3) := by decide +kernel
theorem d_Ta_makeRoom_162 : decode b_Ta_makeRoom 162 = .ok (.iconst 0, 1) := by decide +kernel
theorem d_Ta_makeRoom_163 : decode b_Ta_makeRoom 163 = .ok (.ireturn, 1) := by decide +kernel
theorem kw_1249 : Cond.constant R_Ta 101 300000 ∈ wA := kinm (show _ ∈ tables_1 from (List.mem_append_right _ (List.mem_append_right _ (List.mem_append_right _ (List.mem_append_right _ (List.mem_append_right _ (List.mem_append_left _ (List.mem_of_getElem? (l := tables_1_6) (i := 59) (by decide +kernel))))))))) (by decide +kernel)
theorem kw_1250 : Cond.constant R_Ta 102 40000 ∈ wA := kinm (show _ ∈ tables_1 from (List.mem_append_right _ (List.mem_append_right _ (List.mem_append_right _ (List.mem_append_right _ (List.mem_append_right _ (List.mem_append_left _ (List.mem_of_getElem? (l := tables_1_6) (i := 60) (by decide +kernel))))))))) (by decide +kernel)
theorem kw_1251 : Cond.methodLink R_Ta 94 y_Ta_dropDead ∈ wA := kinm (show _ ∈ tables_1 from (List.mem_append_right _ (List.mem_append_right _ (List.mem_append_right _ (List.mem_append_right _ (List.mem_append_right _ (List.mem_append_left _ (List.mem_of_getElem? (l := tables_1_6) (i := 50) (by decide +kernel))))))))) (by decide +kernel)
theorem kw_1252 : Cond.methodLink R_Ta 110 y_Ta_moveTo ∈ wA := kinm (show _ ∈ tables_1 from (List.mem_append_right _ (List.mem_append_right _ (List.mem_append_right _ (List.mem_append_right _ (List.mem_append_right _ (List.mem_append_left _ (List.mem_of_getElem? (l := tables_1_6) (i := 62) (by decide +kernel))))))))) (by decide +kernel)
theorem kw_1253 : Cond.fieldLink R_Ta 103 "LuaMachine$Heap" "loading" "Z" ∈ wA := kinm (show _ ∈ tables_1 from (List.mem_append_left _ (List.mem_of_getElem? (l := tables_1_1) (i := 167) (by decide +kernel)))) (by decide +kernel)
theorem kw_1254 : Cond.methodLink R_Ta 107 y_He_clean ∈ wA := kinm (show _ ∈ tables_1 from (List.mem_append_right _ (List.mem_append_right _ (List.mem_append_right _ (List.mem_append_right _ (List.mem_append_right _ (List.mem_append_left _ (List.mem_of_getElem? (l := tables_1_6) (i := 61) (by decide +kernel))))))))) (by decide +kernel)
theorem kw_1255 : Cond.instanceMethod y_Ta_makeRoom ∈ wA := kinm (show _ ∈ tables_1 from (List.mem_append_right _ (List.mem_append_right _ (List.mem_append_right _ (List.mem_append_right _ (List.mem_append_right _ (List.mem_append_left _ (List.mem_of_getElem? (l := tables_1_6) (i := 48) (by decide +kernel))))))))) (by decide +kernel)
theorem kw_1256 : Cond.selects R_Ta y_Ta_makeRoom y_Ta_makeRoom ∈ wA := kinp 28 (by decide +kernel) (by decide +kernel)
theorem cv_Ta_makeRoom : CV y_Ta_makeRoom b_Ta_makeRoom 5 (some .int) 1 := ⟨kw_1255, kw_1256, kw_717, k_Ta_makeRoom, by decide +kernel⟩
theorem j_Ta_makeRoom_j108 {X : Cx} {q : PL} (g : Gd X y_Ta_makeRoom b_Ta_makeRoom 5 (some .int) 3 78 R_Ta) {o : (Int32) × S1} (hR : Rt X q o.2 (some (.int o.1))) (l1 : Int32) (l2 : Int32) (l4 : Int32) (s : S1) (hp0 : prs s 145 l2) (ls : Array Slot) (hl : lv_has ls 5 [(0, .ref (q.1 120 0)), (1, .int l1), (2, .ref (q.1 145 l2)), (3, .ref (q.1 114 0)), (4, .int l4)]) (h : M_Ta_makeRoom_j108 l1 l2 l4 s = some o) : WW X q s 108 ls [] := by
  unfold M_Ta_makeRoom_j108 at h
  refine ww_aload_n (pc := 108) g.1 d_Ta_makeRoom_108 rfl (lv_at hl 3 rfl) ?_
  refine ww_bipush (pc := 109) g.1 (v := 6) d_Ta_makeRoom_109 (by decide) ?_
  refine ww_ai (pc := 111) g (pz rfl (by decide)) rfl rfl d_Ta_makeRoom_111 h fun v111 h => ?_
  refine ww_iload (pc := 112) g.1 d_Ta_makeRoom_112 (lv_at hl 4 rfl) ?_
  refine ww_iadd (pc := 114) g.1 d_Ta_makeRoom_114 ?_
  refine ww_ldc (pc := 115) g (v := 40000) kw_1250 d_Ta_makeRoom_115 ?_
  refine ww_icmp_le (pc := 117) (tgt := 123) g.1 d_Ta_makeRoom_117 (by decide) h (fun c h => ?_) (fun c h => ?_)
  · refine ww_aload_n (pc := 123) g.1 d_Ta_makeRoom_123 rfl (lv_at hl 3 rfl) ?_
    refine ww_bipush (pc := 124) g.1 (v := 6) d_Ta_makeRoom_124 (by decide) ?_
    refine ww_dup2_11 (pc := 126) g.1 d_Ta_makeRoom_126 rfl rfl ?_
    refine ww_ai (pc := 127) g (pz rfl (by decide)) rfl rfl d_Ta_makeRoom_127 h fun v127 h => ?_
    refine ww_iload (pc := 128) g.1 d_Ta_makeRoom_128 (lv_at hl 4 rfl) ?_
    refine ww_aload_n (pc := 130) g.1 d_Ta_makeRoom_130 rfl (lv_at hl 2 rfl) ?_
    refine ww_gI (pc := 131) g (k := 12) cl_Tg hp0 (by decide) (Or.inl kw_769) (f := 18572) rfl rfl d_Ta_makeRoom_131 h fun v131 h => ?_
    refine ww_isub (pc := 134) g.1 d_Ta_makeRoom_134 ?_
    refine ww_iadd (pc := 135) g.1 d_Ta_makeRoom_135 ?_
    refine ww_si (pc := 136) g (pz rfl (by decide)) rfl rfl d_Ta_makeRoom_136 h fun s hs h => ?_
    have hp0 : prs s 145 l2 := hs ▸ hp0
    refine ww_aload_n (pc := 137) g.1 d_Ta_makeRoom_137 rfl (lv_at hl 3 rfl) ?_
    refine ww_bipush (pc := 138) g.1 (v := 7) d_Ta_makeRoom_138 (by decide) ?_
    refine ww_dup2_11 (pc := 140) g.1 d_Ta_makeRoom_140 rfl rfl ?_
    refine ww_ai (pc := 141) g (pz rfl (by decide)) rfl rfl d_Ta_makeRoom_141 h fun v141 h => ?_
    refine ww_iload (pc := 142) g.1 d_Ta_makeRoom_142 (lv_at hl 4 rfl) ?_
    refine ww_iadd (pc := 144) g.1 d_Ta_makeRoom_144 ?_
    refine ww_si (pc := 145) g (pz rfl (by decide)) rfl rfl d_Ta_makeRoom_145 h fun s hs h => ?_
    have hp0 : prs s 145 l2 := hs ▸ hp0
    refine ww_aload_n (pc := 146) g.1 d_Ta_makeRoom_146 rfl (lv_at hl 3 rfl) ?_
    refine ww_bipush (pc := 147) g.1 (v := 13) d_Ta_makeRoom_147 (by decide) ?_
    refine ww_dup2_11 (pc := 149) g.1 d_Ta_makeRoom_149 rfl rfl ?_
    refine ww_ai (pc := 150) g (pz rfl (by decide)) rfl rfl d_Ta_makeRoom_150 h fun v150 h => ?_
    refine ww_iload (pc := 151) g.1 d_Ta_makeRoom_151 (lv_at hl 4 rfl) ?_
    refine ww_iadd (pc := 153) g.1 d_Ta_makeRoom_153 ?_
    refine ww_si (pc := 154) g (pz rfl (by decide)) rfl rfl d_Ta_makeRoom_154 h fun s hs h => ?_
    have hp0 : prs s 145 l2 := hs ▸ hp0
    refine ww_aload_n (pc := 155) g.1 d_Ta_makeRoom_155 rfl (lv_at hl 0 rfl) ?_
    refine ww_iload_n (pc := 156) g.1 d_Ta_makeRoom_156 rfl (lv_at hl 1 rfl) ?_
    refine ww_iload (pc := 157) g.1 d_Ta_makeRoom_157 (lv_at hl 4 rfl) ?_
    refine ww_lo fun dlo => ?_
    obtain ⟨v159, s, hc159, h⟩ := oB_of h
    refine ww_callV (pc := 159) (rest := []) g cv_Ta_moveTo (Or.inl kw_1252) cl_Ta (pz rfl (by decide)) (ct_Ta_moveTo hc159) ⟨by decide, by decide⟩ rfl hl.1 (Nat.le_of_ble_eq_true rfl) d_Ta_makeRoom_159 rfl (?_)
    refine ww_st (st' := []) rfl ?_
    refine ww_hi fun dhi => ?_
    have hp0 : prs s 145 l2 := dhi _ _ hp0.2.1 hp0.2.2 (dlo _ _ hp0)
    refine ww_iconst (pc := 162) g.1 (v := 0) d_Ta_makeRoom_162 (by decide) ?_
    exact ww_iretH (pc := 163) g h hR d_Ta_makeRoom_163
  · refine ww_bipush (pc := 120) g.1 (v := 10) d_Ta_makeRoom_120 (by decide) ?_
    exact ww_iretH (pc := 122) g h hR d_Ta_makeRoom_122

theorem j_Ta_makeRoom_j62 {X : Cx} {q : PL} (g : Gd X y_Ta_makeRoom b_Ta_makeRoom 5 (some .int) 3 78 R_Ta) {o : (Int32) × S1} (hR : Rt X q o.2 (some (.int o.1))) (l1 : Int32) (l2 : Int32) (k0 : Int32) (s : S1) (hp0 : prs s 145 l2) (ls : Array Slot) (hl : lv_has ls 5 [(0, .ref (q.1 120 0)), (1, .int l1), (2, .ref (q.1 145 l2)), (3, .ref (q.1 114 0))]) (h : M_Ta_makeRoom_j62 l1 l2 k0 s = some o) : WW X q s 62 ls [.int k0] := by
  unfold M_Ta_makeRoom_j62 at h
  refine ww_istore (pc := 62) (i := 4) g.1 (lv' := [(4, .int k0), (0, .ref (q.1 120 0)), (1, .int l1), (2, .ref (q.1 145 l2)), (3, .ref (q.1 114 0))]) d_Ta_makeRoom_62 hl (by decide) rfl fun ls hl => ?_
  refine ww_aload_n (pc := 64) g.1 d_Ta_makeRoom_64 rfl (lv_at hl 4 rfl) ?_
  refine ww_bipush (pc := 65) g.1 (v := 13) d_Ta_makeRoom_65 (by decide) ?_
  refine ww_ai (pc := 67) g (pz rfl (by decide)) rfl rfl d_Ta_makeRoom_67 h fun v67 h => ?_
  refine ww_iload (pc := 68) g.1 d_Ta_makeRoom_68 (lv_at hl 0 rfl) ?_
  refine ww_iadd (pc := 70) g.1 d_Ta_makeRoom_70 ?_
  refine ww_ldc (pc := 71) g (v := 300000) kw_1249 d_Ta_makeRoom_71 ?_
  refine ww_icmp_le (pc := 73) (tgt := 79) g.1 d_Ta_makeRoom_73 (by decide) h (fun c h => ?_) (fun c h => ?_)
  · refine ww_aload_n (pc := 79) g.1 d_Ta_makeRoom_79 rfl (lv_at hl 4 rfl) ?_
    refine ww_bipush (pc := 80) g.1 (v := 6) d_Ta_makeRoom_80 (by decide) ?_
    refine ww_ai (pc := 82) g (pz rfl (by decide)) rfl rfl d_Ta_makeRoom_82 h fun v82 h => ?_
    refine ww_iload (pc := 83) g.1 d_Ta_makeRoom_83 (lv_at hl 0 rfl) ?_
    refine ww_iadd (pc := 85) g.1 d_Ta_makeRoom_85 ?_
    refine ww_ldc (pc := 86) g (v := 40000) kw_1250 d_Ta_makeRoom_86 ?_
    refine ww_icmp_le (pc := 88) (tgt := 108) g.1 d_Ta_makeRoom_88 (by decide) h (fun c h => ?_) (fun c h => ?_)
    · exact j_Ta_makeRoom_j108 g hR l1 l2 k0 s hp0 ls (lv_sub hl [1, 2, 3, 4, 0] rfl) h
    · refine ww_aload_n (pc := 91) g.1 d_Ta_makeRoom_91 rfl (lv_at hl 1 rfl) ?_
      refine ww_gR (pc := 92) g (k := 8) cl_Ta (pz rfl (by decide)) (by decide) (Or.inl kw_772) (f := 15368) (t := 111) rfl rfl rfl d_Ta_makeRoom_92 ?_
      refine ww_gI (pc := 95) g (k := 13) cl_He (pz rfl (by decide)) (by decide) (Or.inl kw_1253) (f := 14221) rfl rfl d_Ta_makeRoom_95 h fun v95 h => ?_
      refine ww_if_ne (pc := 98) (tgt := 108) g.1 d_Ta_makeRoom_98 (by decide) h (fun c h => ?_) (fun c h => ?_)
      · exact j_Ta_makeRoom_j108 g hR l1 l2 k0 s hp0 ls (lv_sub hl [1, 2, 3, 4, 0] rfl) h
      · refine ww_aload_n (pc := 101) g.1 d_Ta_makeRoom_101 rfl (lv_at hl 1 rfl) ?_
        refine ww_gR (pc := 102) g (k := 8) cl_Ta (pz rfl (by decide)) (by decide) (Or.inl kw_772) (f := 15368) (t := 111) rfl rfl rfl d_Ta_makeRoom_102 ?_
        refine ww_lo fun dlo => ?_
        obtain ⟨v105, s, hc105, h⟩ := oB_of h
        refine ww_callV (pc := 105) (rest := []) g cv_He_clean (Or.inl kw_1254) cl_He (pz rfl (by decide)) (ct_He_clean hc105) ⟨by decide, by decide⟩ rfl hl.1 (Nat.le_of_ble_eq_true rfl) d_Ta_makeRoom_105 rfl (?_)
        refine ww_st (st' := []) rfl ?_
        refine ww_hi fun dhi => ?_
        have hp0 : prs s 145 l2 := dhi _ _ hp0.2.1 hp0.2.2 (dlo _ _ hp0)
        exact j_Ta_makeRoom_j108 g hR l1 l2 k0 s hp0 ls (lv_sub hl [1, 2, 3, 4, 0] rfl) h
  · refine ww_bipush (pc := 76) g.1 (v := 11) d_Ta_makeRoom_76 (by decide) ?_
    exact ww_iretH (pc := 78) g h hR d_Ta_makeRoom_78

theorem j_Ta_makeRoom_j37 {X : Cx} {q : PL} (g : Gd X y_Ta_makeRoom b_Ta_makeRoom 5 (some .int) 3 78 R_Ta) {o : (Int32) × S1} (hR : Rt X q o.2 (some (.int o.1))) (l1 : Int32) (l2 : Int32) (s : S1) (hp0 : prs s 145 l2) (ls : Array Slot) (hl : lv_has ls 5 [(0, .ref (q.1 120 0)), (1, .int l1), (2, .ref (q.1 145 l2))]) (h : M_Ta_makeRoom_j37 l1 l2 s = some o) : WW X q s 37 ls [] := by
  unfold M_Ta_makeRoom_j37 at h
  refine ww_aload_n (pc := 37) g.1 d_Ta_makeRoom_37 rfl (lv_at hl 0 rfl) ?_
  refine ww_gR (pc := 38) g (k := 8) cl_Ta (pz rfl (by decide)) (by decide) (Or.inl kw_772) (f := 15368) (t := 111) rfl rfl rfl d_Ta_makeRoom_38 ?_
  refine ww_gR (pc := 41) g (k := 4) cl_He (pz rfl (by decide)) (by decide) (Or.inl kw_773) (f := 14212) (t := 114) rfl rfl rfl d_Ta_makeRoom_41 ?_
  refine ww_astore_n (pc := 44) (i := 3) g.1 (lv' := [(3, .ref (q.1 114 0)), (0, .ref (q.1 120 0)), (1, .int l1), (2, .ref (q.1 145 l2))]) d_Ta_makeRoom_44 rfl hl (by decide) rfl fun ls hl => ?_
  refine ww_aload_n (pc := 45) g.1 d_Ta_makeRoom_45 rfl (lv_at hl 3 rfl) ?_
  refine ww_gI (pc := 46) g (k := 12) cl_Tg hp0 (by decide) (Or.inl kw_769) (f := 18572) rfl rfl d_Ta_makeRoom_46 h fun v46 h => ?_
  refine ww_if_ne (pc := 49) (tgt := 56) g.1 d_Ta_makeRoom_49 (by decide) h (fun c h => ?_) (fun c h => ?_)
  · refine ww_aload_n (pc := 56) g.1 d_Ta_makeRoom_56 rfl (lv_at hl 3 rfl) ?_
    refine ww_gI (pc := 57) g (k := 12) cl_Tg hp0 (by decide) (Or.inl kw_769) (f := 18572) rfl rfl d_Ta_makeRoom_57 h fun v57 h => ?_
    refine ww_iconst (pc := 60) g.1 (v := 2) d_Ta_makeRoom_60 (by decide) ?_
    refine ww_imul (pc := 61) g.1 d_Ta_makeRoom_61 ?_
    exact j_Ta_makeRoom_j62 g hR l1 l2 (v57 * 2) s hp0 ls (lv_sub hl [1, 2, 3, 0] rfl) h
  · refine ww_iconst (pc := 52) g.1 (v := 4) d_Ta_makeRoom_52 (by decide) ?_
    refine ww_goto (pc := 53) (tgt := 62) g.1 d_Ta_makeRoom_53 (by decide) ?_
    exact j_Ta_makeRoom_j62 g hR l1 l2 4 s hp0 ls (lv_sub hl [1, 2, 3, 0] rfl) h

theorem ct_Ta_makeRoom {l : Launch} {P : PP} {q : PL} {s s' : S1} {l1 : Int32} {r : Int32} (h : M_Ta_makeRoom l1 s = some (r, s')) : Ct l y_Ta_makeRoom b_Ta_makeRoom 5 (some .int) 3 78 P q s [.ref (q.1 120 0), .int l1] (some (.int r)) q s' := by
  refine ct_of (by decide) (Nat.le_of_ble_eq_true rfl) fun X ls eP el g hR hl => ?_
  subst eP
  have hR : Rt X q ((r, s') : Int32 × S1).2 (some (.int ((r, s') : Int32 × S1).1)) := hR
  have hl : lv_has ls 5 [(0, .ref (q.1 120 0)), (1, .int l1)] := hl
  generalize (r, s') = o at h hR
  unfold M_Ta_makeRoom at h
  refine ww_aload_n (pc := 0) g.1 d_Ta_makeRoom_0 rfl (lv_at hl 0 rfl) ?_
  refine ww_gR (pc := 1) g (k := 8) cl_Ta (pz rfl (by decide)) (by decide) (Or.inl kw_772) (f := 15368) (t := 111) rfl rfl rfl d_Ta_makeRoom_1 ?_
  refine ww_gR (pc := 4) g (k := 0) cl_He (pz rfl (by decide)) (by decide) (Or.inl kw_804) (f := 14208) (t := 112) rfl rfl rfl d_Ta_makeRoom_4 ?_
  refine ww_iload_n (pc := 7) g.1 d_Ta_makeRoom_7 rfl (lv_at hl 1 rfl) ?_
  refine ww_a8 (pc := 8) g (t := 145) (n := 4000) (pz rfl (by decide)) rfl rfl rfl rfl d_Ta_makeRoom_8 h fun pa8 h => ?_
  refine ww_astore_n (pc := 9) (i := 2) g.1 (lv' := [(2, .ref (q.1 145 l1)), (0, .ref (q.1 120 0)), (1, .int l1)]) d_Ta_makeRoom_9 rfl hl (by decide) rfl fun ls hl => ?_
  refine ww_aload_n (pc := 10) g.1 d_Ta_makeRoom_10 rfl (lv_at hl 1 rfl) ?_
  refine ww_aload_n (pc := 11) g.1 d_Ta_makeRoom_11 rfl (lv_at hl 0 rfl) ?_
  refine ww_lo fun dlo => ?_
  obtain ⟨v12, s, hc12, h⟩ := oB_of h
  refine ww_callV (pc := 12) (rest := []) g cv_Ta_dropDead (Or.inl kw_1251) cl_Ta (pz rfl (by decide)) (ct_Ta_dropDead pa8 hc12) ⟨by decide, by decide⟩ rfl hl.1 (Nat.le_of_ble_eq_true rfl) d_Ta_makeRoom_12 rfl (?_)
  refine ww_st (st' := []) rfl ?_
  refine ww_hi fun dhi => ?_
  have pa8 : prs s 145 l1 := dhi _ _ pa8.2.1 pa8.2.2 (dlo _ _ pa8)
  refine ww_aload_n (pc := 15) g.1 d_Ta_makeRoom_15 rfl (lv_at hl 0 rfl) ?_
  refine ww_gI (pc := 16) g (k := 12) cl_Tg pa8 (by decide) (Or.inl kw_769) (f := 18572) rfl rfl d_Ta_makeRoom_16 h fun v16 h => ?_
  refine ww_if_le (pc := 19) (tgt := 37) g.1 d_Ta_makeRoom_19 (by decide) h (fun c h => ?_) (fun c h => ?_)
  · exact j_Ta_makeRoom_j37 g hR l1 l1 s pa8 ls (lv_sub hl [1, 2, 0] rfl) h
  · refine ww_aload_n (pc := 22) g.1 d_Ta_makeRoom_22 rfl (lv_at hl 0 rfl) ?_
    refine ww_gI (pc := 23) g (k := 13) cl_Tg pa8 (by decide) (Or.inl kw_793) (f := 18573) rfl rfl d_Ta_makeRoom_23 h fun v23 h => ?_
    refine ww_iconst (pc := 26) g.1 (v := 2) d_Ta_makeRoom_26 (by decide) ?_
    refine ww_imul (pc := 27) g.1 d_Ta_makeRoom_27 ?_
    refine ww_aload_n (pc := 28) g.1 d_Ta_makeRoom_28 rfl (lv_at hl 0 rfl) ?_
    refine ww_gI (pc := 29) g (k := 12) cl_Tg pa8 (by decide) (Or.inl kw_769) (f := 18572) rfl rfl d_Ta_makeRoom_29 h fun v29 h => ?_
    refine ww_icmp_gt (pc := 32) (tgt := 37) g.1 d_Ta_makeRoom_32 (by decide) h (fun c h => ?_) (fun c h => ?_)
    · exact j_Ta_makeRoom_j37 g hR l1 l1 s pa8 ls (lv_sub hl [1, 2, 0] rfl) h
    · refine ww_iconst (pc := 35) g.1 (v := 0) d_Ta_makeRoom_35 (by decide) ?_
      exact ww_iretH (pc := 36) g h hR d_Ta_makeRoom_36

abbrev b_Ma_enterClosure : ByteArray := prog_7_method_13_code
def y_Ma_enterClosure : MethodName := ⟨R_Ma, "enterClosure", "(I)V"⟩
abbrev w_Ma_enterClosure : List Cond := .code y_Ma_enterClosure b_Ma_enterClosure 7 none :: wA
set_option maxRecDepth 20000 in
theorem k_Ma_enterClosure : Cond.code y_Ma_enterClosure b_Ma_enterClosure 7 none ∈ wA := kinm (show _ ∈ tables_1 from (List.mem_append_right _ (List.mem_append_right _ (List.mem_append_right _ (List.mem_append_right _ (List.mem_append_right _ (List.mem_append_left _ (List.mem_of_getElem? (l := tables_1_6) (i := 211) rfl)))))))) rfl
theorem d_Ma_enterClosure_0 : decode b_Ma_enterClosure 0 = .ok (.aload_n 0, 1) := by decide +kernel
theorem d_Ma_enterClosure_1 : decode b_Ma_enterClosure 1 = .ok (.getfield 27, 3) := by decide +kernel
theorem d_Ma_enterClosure_4 : decode b_Ma_enterClosure 4 = .ok (.getfield 244, 3) := by decide +kernel
theorem d_Ma_enterClosure_7 : decode b_Ma_enterClosure 7 = .ok (.aload_n 0, 1) := by decide +kernel
theorem d_Ma_enterClosure_8 : decode b_Ma_enterClosure 8 = .ok (.getfield 31, 3) := by decide +kernel
theorem d_Ma_enterClosure_11 : decode b_Ma_enterClosure 11 = .ok (.getfield 120, 3) := by decide +kernel
theorem d_Ma_enterClosure_14 : decode b_Ma_enterClosure 14 = .ok (.iload_n 1, 1) := by decide +kernel
theorem d_Ma_enterClosure_15 : decode b_Ma_enterClosure 15 = .ok (.aaload, 1) := by decide +kernel
theorem d_Ma_enterClosure_16 : decode b_Ma_enterClosure 16 = .ok (.getfield 169, 3) := by decide +kernel
theorem d_Ma_enterClosure_19 : decode b_Ma_enterClosure 19 = .ok (.aaload, 1) := by decide +kernel
theorem d_Ma_enterClosure_20 : decode b_Ma_enterClosure 20 = .ok (.astore_n 2, 1) := by decide +kernel
theorem d_Ma_enterClosure_21 : decode b_Ma_enterClosure 21 = .ok (.aload_n 0, 1) := by decide +kernel
theorem d_Ma_enterClosure_22 : decode b_Ma_enterClosure 22 = .ok (.getfield 172, 3) := by decide +kernel
theorem d_Ma_enterClosure_25 : decode b_Ma_enterClosure 25 = .ok (.astore_n 3, 1) := by decide +kernel
theorem d_Ma_enterClosure_26 : decode b_Ma_enterClosure 26 = .ok (.aload_n 2, 1) := by decide +kernel
theorem d_Ma_enterClosure_27 : decode b_Ma_enterClosure 27 = .ok (.getfield 248, 3) := by decide +kernel
theorem d_Ma_enterClosure_30 : decode b_Ma_enterClosure 30 = .ok (.iconst 1, 1) := by decide +kernel
theorem d_Ma_enterClosure_31 : decode b_Ma_enterClosure 31 = .ok (.if_icmp .ne 22, 3) := by decide +kernel
theorem d_Ma_enterClosure_34 : decode b_Ma_enterClosure 34 = .ok (.iconst 0, 1) := by decide +kernel
theorem d_Ma_enterClosure_35 : decode b_Ma_enterClosure 35 = .ok (.aload_n 0, 1) := by decide +kernel
theorem d_Ma_enterClosure_36 : decode b_Ma_enterClosure 36 = .ok (.getfield 12, 3) := by decide +kernel
theorem d_Ma_enterClosure_39 : decode b_Ma_enterClosure 39 = .ok (.getfield 235, 3) := by decide +kernel
theorem d_Ma_enterClosure_42 : decode b_Ma_enterClosure 42 = .ok (.aload_n 2, 1) := by decide +kernel
theorem d_Ma_enterClosure_43 : decode b_Ma_enterClosure 43 = .ok (.getfield 253, 3) := by decide +kernel
theorem d_Ma_enterClosure_46 : decode b_Ma_enterClosure 46 = .ok (.isub, 1) := by decide +kernel
theorem d_Ma_enterClosure_47 : decode b_Ma_enterClosure 47 = .ok (.invokestatic 256, 3) := by decide +kernel
theorem d_Ma_enterClosure_50 : decode b_Ma_enterClosure 50 = .ok (.goto 4, 3) := by decide +kernel
theorem d_Ma_enterClosure_53 : decode b_Ma_enterClosure 53 = .ok (.iconst 0, 1) := by decide +kernel
theorem d_Ma_enterClosure_54 : decode b_Ma_enterClosure 54 = .ok (.istore 4, 2) := by decide +kernel
theorem d_Ma_enterClosure_56 : decode b_Ma_enterClosure 56 = .ok (.aload_n 3, 1) := by decide +kernel
theorem d_Ma_enterClosure_57 : decode b_Ma_enterClosure 57 = .ok (.iconst 0, 1) := by decide +kernel
theorem d_Ma_enterClosure_58 : decode b_Ma_enterClosure 58 = .ok (.iload_n 1, 1) := by decide +kernel
theorem d_Ma_enterClosure_59 : decode b_Ma_enterClosure 59 = .ok (.aload_n 2, 1) := by decide +kernel
theorem d_Ma_enterClosure_60 : decode b_Ma_enterClosure 60 = .ok (.getfield 261, 3) := by decide +kernel
theorem d_Ma_enterClosure_63 : decode b_Ma_enterClosure 63 = .ok (.iload 4, 2) := by decide +kernel
theorem d_Ma_enterClosure_65 : decode b_Ma_enterClosure 65 = .ok (.iadd, 1) := by decide +kernel
theorem d_Ma_enterClosure_66 : decode b_Ma_enterClosure 66 = .ok (.invokevirtual 264, 3) := by decide +kernel
theorem d_Ma_enterClosure_69 : decode b_Ma_enterClosure 69 = .ok (.ifCond .ne 9, 3) := by decide +kernel
theorem d_Ma_enterClosure_72 : decode b_Ma_enterClosure 72 = .ok (.aload_n 0, 1) := by decide +kernel
theorem d_Ma_enterClosure_73 : decode b_Ma_enterClosure 73 = .ok (.iconst 4, 1) := by decide +kernel
theorem d_Ma_enterClosure_74 : decode b_Ma_enterClosure 74 = .ok (.invokevirtual 229, 3) := by decide +kernel
theorem d_Ma_enterClosure_77 : decode b_Ma_enterClosure 77 = .ok (.return_, 1) := by decide +kernel
theorem d_Ma_enterClosure_78 : decode b_Ma_enterClosure 78 = .ok (.aload_n 3, 1) := by decide +kernel
theorem d_Ma_enterClosure_79 : decode b_Ma_enterClosure 79 = .ok (.invokevirtual 268, 3) := by decide +kernel
theorem d_Ma_enterClosure_82 : decode b_Ma_enterClosure 82 = .ok (.astore 5, 2) := by decide +kernel
theorem d_Ma_enterClosure_84 : decode b_Ma_enterClosure 84 = .ok (.aload 5, 2) := by decide +kernel
theorem d_Ma_enterClosure_86 : decode b_Ma_enterClosure 86 = .ok (.aload_n 2, 1) := by decide +kernel
theorem d_Ma_enterClosure_87 : decode b_Ma_enterClosure 87 = .ok (.putfield 272, 3) := by decide +kernel
theorem d_Ma_enterClosure_90 : decode b_Ma_enterClosure 90 = .ok (.aload 5, 2) := by decide +kernel
theorem d_Ma_enterClosure_92 : decode b_Ma_enterClosure 92 = .ok (.iload 4, 2) := by decide +kernel
theorem d_Ma_enterClosure_94 : decode b_Ma_enterClosure 94 = .ok (.putfield 278, 3) := by decide +kernel
theorem d_Ma_enterClosure_97 : decode b_Ma_enterClosure 97 = .ok (.aload_n 0, 1) := by decide +kernel
theorem d_Ma_enterClosure_98 : decode b_Ma_enterClosure 98 = .ok (.getfield 12, 3) := by decide +kernel
theorem d_Ma_enterClosure_101 : decode b_Ma_enterClosure 101 = .ok (.getfield 235, 3) := by decide +kernel
theorem d_Ma_enterClosure_104 : decode b_Ma_enterClosure 104 = .ok (.aload_n 2, 1) := by decide +kernel
theorem d_Ma_enterClosure_105 : decode b_Ma_enterClosure 105 = .ok (.getfield 253, 3) := by decide +kernel
theorem d_Ma_enterClosure_108 : decode b_Ma_enterClosure 108 = .ok (.invokestatic 281, 3) := by decide +kernel
theorem d_Ma_enterClosure_111 : decode b_Ma_enterClosure 111 = .ok (.istore 6, 2) := by decide +kernel
theorem d_Ma_enterClosure_113 : decode b_Ma_enterClosure 113 = .ok (.aload_n 0, 1) := by decide +kernel
theorem d_Ma_enterClosure_114 : decode b_Ma_enterClosure 114 = .ok (.getfield 12, 3) := by decide +kernel
theorem d_Ma_enterClosure_117 : decode b_Ma_enterClosure 117 = .ok (.getfield 284, 3) := by decide +kernel
theorem d_Ma_enterClosure_120 : decode b_Ma_enterClosure 120 = .ok (.iconst 0, 1) := by decide +kernel
theorem d_Ma_enterClosure_121 : decode b_Ma_enterClosure 121 = .ok (.aload_n 3, 1) := by decide +kernel
theorem d_Ma_enterClosure_122 : decode b_Ma_enterClosure 122 = .ok (.getfield 287, 3) := by decide +kernel
theorem d_Ma_enterClosure_125 : decode b_Ma_enterClosure 125 = .ok (.aload 5, 2) := by decide +kernel
theorem d_Ma_enterClosure_127 : decode b_Ma_enterClosure 127 = .ok (.getfield 288, 3) := by decide +kernel
theorem d_Ma_enterClosure_130 : decode b_Ma_enterClosure 130 = .ok (.iload 6, 2) := by decide +kernel
theorem d_Ma_enterClosure_132 : decode b_Ma_enterClosure 132 = .ok (.invokestatic 291, 3) := by decide +kernel
theorem d_Ma_enterClosure_135 : decode b_Ma_enterClosure 135 = .ok (.aload_n 0, 1) := by decide +kernel
theorem d_Ma_enterClosure_136 : decode b_Ma_enterClosure 136 = .ok (.getfield 12, 3) := by decide +kernel
theorem d_Ma_enterClosure_139 : decode b_Ma_enterClosure 139 = .ok (.getfield 297, 3) := by decide +kernel
theorem d_Ma_enterClosure_142 : decode b_Ma_enterClosure 142 = .ok (.iconst 0, 1) := by decide +kernel
theorem d_Ma_enterClosure_143 : decode b_Ma_enterClosure 143 = .ok (.aload_n 3, 1) := by decide +kernel
theorem d_Ma_enterClosure_144 : decode b_Ma_enterClosure 144 = .ok (.getfield 298, 3) := by decide +kernel
theorem d_Ma_enterClosure_147 : decode b_Ma_enterClosure 147 = .ok (.aload 5, 2) := by decide +kernel
theorem d_Ma_enterClosure_149 : decode b_Ma_enterClosure 149 = .ok (.getfield 288, 3) := by decide +kernel
theorem d_Ma_enterClosure_152 : decode b_Ma_enterClosure 152 = .ok (.iload 6, 2) := by decide +kernel
theorem d_Ma_enterClosure_154 : decode b_Ma_enterClosure 154 = .ok (.invokestatic 291, 3) := by decide +kernel
theorem d_Ma_enterClosure_157 : decode b_Ma_enterClosure 157 = .ok (.aload_n 3, 1) := by decide +kernel
theorem d_Ma_enterClosure_158 : decode b_Ma_enterClosure 158 = .ok (.getfield 287, 3) := by decide +kernel
theorem d_Ma_enterClosure_161 : decode b_Ma_enterClosure 161 = .ok (.aload 5, 2) := by decide +kernel
theorem d_Ma_enterClosure_163 : decode b_Ma_enterClosure 163 = .ok (.getfield 288, 3) := by decide +kernel
theorem d_Ma_enterClosure_166 : decode b_Ma_enterClosure 166 = .ok (.iload 6, 2) := by decide +kernel
theorem d_Ma_enterClosure_168 : decode b_Ma_enterClosure 168 = .ok (.iadd, 1) := by decide +kernel
theorem d_Ma_enterClosure_169 : decode b_Ma_enterClosure 169 = .ok (.aload 5, 2) := by decide +kernel
theorem d_Ma_enterClosure_171 : decode b_Ma_enterClosure 171 = .ok (.getfield 288, 3) := by decide +kernel
theorem d_Ma_enterClosure_174 : decode b_Ma_enterClosure 174 = .ok (.aload_n 2, 1) := by decide +kernel
theorem d_Ma_enterClosure_175 : decode b_Ma_enterClosure 175 = .ok (.getfield 261, 3) := by decide +kernel
theorem d_Ma_enterClosure_178 : decode b_Ma_enterClosure 178 = .ok (.iadd, 1) := by decide +kernel
theorem d_Ma_enterClosure_179 : decode b_Ma_enterClosure 179 = .ok (.iconst 0, 1) := by decide +kernel
theorem d_Ma_enterClosure_180 : decode b_Ma_enterClosure 180 = .ok (.invokestatic 299, 3) := by decide +kernel
theorem d_Ma_enterClosure_183 : decode b_Ma_enterClosure 183 = .ok (.aload_n 3, 1) := by decide +kernel
theorem d_Ma_enterClosure_184 : decode b_Ma_enterClosure 184 = .ok (.getfield 298, 3) := by decide +kernel
theorem d_Ma_enterClosure_187 : decode b_Ma_enterClosure 187 = .ok (.aload 5, 2) := by decide +kernel
theorem d_Ma_enterClosure_189 : decode b_Ma_enterClosure 189 = .ok (.getfield 288, 3) := by decide +kernel
theorem d_Ma_enterClosure_192 : decode b_Ma_enterClosure 192 = .ok (.iload 6, 2) := by decide +kernel
theorem d_Ma_enterClosure_194 : decode b_Ma_enterClosure 194 = .ok (.iadd, 1) := by decide +kernel
theorem d_Ma_enterClosure_195 : decode b_Ma_enterClosure 195 = .ok (.aload 5, 2) := by decide +kernel
theorem d_Ma_enterClosure_197 : decode b_Ma_enterClosure 197 = .ok (.getfield 288, 3) := by decide +kernel
theorem d_Ma_enterClosure_200 : decode b_Ma_enterClosure 200 = .ok (.aload_n 2, 1) := by decide +kernel
theorem d_Ma_enterClosure_201 : decode b_Ma_enterClosure 201 = .ok (.getfield 261, 3) := by decide +kernel
theorem d_Ma_enterClosure_204 : decode b_Ma_enterClosure 204 = .ok (.iadd, 1) := by decide +kernel
theorem d_Ma_enterClosure_205 : decode b_Ma_enterClosure 205 = .ok (.lconst 0, 1) := by decide +kernel
theorem d_Ma_enterClosure_206 : decode b_Ma_enterClosure 206 = .ok (.invokestatic 305, 3) := by decide +kernel
theorem d_Ma_enterClosure_209 : decode b_Ma_enterClosure 209 = .ok (.aload_n 0, 1) := by decide +kernel
theorem d_Ma_enterClosure_210 : decode b_Ma_enterClosure 210 = .ok (.getfield 12, 3) := by decide +kernel
theorem d_Ma_enterClosure_213 : decode b_Ma_enterClosure 213 = .ok (.getfield 284, 3) := by decide +kernel
theorem d_Ma_enterClosure_216 : decode b_Ma_enterClosure 216 = .ok (.aload_n 2, 1) := by decide +kernel
theorem d_Ma_enterClosure_217 : decode b_Ma_enterClosure 217 = .ok (.getfield 253, 3) := by decide +kernel
theorem d_Ma_enterClosure_220 : decode b_Ma_enterClosure 220 = .ok (.aload_n 3, 1) := by decide +kernel
theorem d_Ma_enterClosure_221 : decode b_Ma_enterClosure 221 = .ok (.getfield 287, 3) := by decide +kernel
theorem d_Ma_enterClosure_224 : decode b_Ma_enterClosure 224 = .ok (.aload 5, 2) := by decide +kernel
theorem d_Ma_enterClosure_226 : decode b_Ma_enterClosure 226 = .ok (.getfield 288, 3) := by decide +kernel
theorem d_Ma_enterClosure_229 : decode b_Ma_enterClosure 229 = .ok (.aload_n 2, 1) := by decide +kernel
theorem d_Ma_enterClosure_230 : decode b_Ma_enterClosure 230 = .ok (.getfield 261, 3) := by decide +kernel
theorem d_Ma_enterClosure_233 : decode b_Ma_enterClosure 233 = .ok (.iadd, 1) := by decide +kernel
theorem d_Ma_enterClosure_234 : decode b_Ma_enterClosure 234 = .ok (.iload 4, 2) := by decide +kernel
theorem d_Ma_enterClosure_236 : decode b_Ma_enterClosure 236 = .ok (.invokestatic 291, 3) := by decide +kernel
theorem d_Ma_enterClosure_239 : decode b_Ma_enterClosure 239 = .ok (.aload_n 0, 1) := by decide +kernel
theorem d_Ma_enterClosure_240 : decode b_Ma_enterClosure 240 = .ok (.getfield 12, 3) := by decide +kernel
theorem d_Ma_enterClosure_243 : decode b_Ma_enterClosure 243 = .ok (.getfield 297, 3) := by decide +kernel
theorem d_Ma_enterClosure_246 : decode b_Ma_enterClosure 246 = .ok (.aload_n 2, 1) := by decide +kernel
theorem d_Ma_enterClosure_247 : decode b_Ma_enterClosure 247 = .ok (.getfield 253, 3) := by decide +kernel
theorem d_Ma_enterClosure_250 : decode b_Ma_enterClosure 250 = .ok (.aload_n 3, 1) := by decide +kernel
theorem d_Ma_enterClosure_251 : decode b_Ma_enterClosure 251 = .ok (.getfield 298, 3) := by decide +kernel
theorem d_Ma_enterClosure_254 : decode b_Ma_enterClosure 254 = .ok (.aload 5, 2) := by decide +kernel
theorem d_Ma_enterClosure_256 : decode b_Ma_enterClosure 256 = .ok (.getfield 288, 3) := by decide +kernel
theorem d_Ma_enterClosure_259 : decode b_Ma_enterClosure 259 = .ok (.aload_n 2, 1) := by decide +kernel
theorem d_Ma_enterClosure_260 : decode b_Ma_enterClosure 260 = .ok (.getfield 261, 3) := by decide +kernel
theorem d_Ma_enterClosure_263 : decode b_Ma_enterClosure 263 = .ok (.iadd, 1) := by decide +kernel
theorem d_Ma_enterClosure_264 : decode b_Ma_enterClosure 264 = .ok (.iload 4, 2) := by decide +kernel
theorem d_Ma_enterClosure_266 : decode b_Ma_enterClosure 266 = .ok (.invokestatic 291, 3) := by decide +kernel
theorem d_Ma_enterClosure_269 : decode b_Ma_enterClosure 269 = .ok (.aload_n 0, 1) := by decide +kernel
theorem d_Ma_enterClosure_270 : decode b_Ma_enterClosure 270 = .ok (.getfield 12, 3) := by decide +kernel
theorem d_Ma_enterClosure_273 : decode b_Ma_enterClosure 273 = .ok (.invokevirtual 51, 3) := by decide +kernel
theorem d_Ma_enterClosure_276 : decode b_Ma_enterClosure 276 = .ok (.aload_n 0, 1) := by decide +kernel
theorem d_Ma_enterClosure_277 : decode b_Ma_enterClosure 277 = .ok (.iconst 0, 1) := by decide +kernel
theorem d_Ma_enterClosure_278 : decode b_Ma_enterClosure 278 = .ok (.putfield 61, 3) := by decide +kernel
theorem d_Ma_enterClosure_281 : decode b_Ma_enterClosure 281 = .ok (.return_, 1) := by decide +kernel
theorem kw_1257 : Cond.fieldLink R_Ma 27 "LuaMachine$Machine" "chunk" "LLuaMachine$Chunk;" ∈ wA := kinm (show _ ∈ tables_1 from (List.mem_append_right _ (List.mem_append_left _ (List.mem_of_getElem? (l := tables_1_2) (i := 50) (by decide +kernel))))) (by decide +kernel)
theorem kw_1258 : Cond.fieldLink R_Ma 244 "LuaMachine$Chunk" "prototypes" "[LLuaMachine$Prototype;" ∈ wA := kinm (show _ ∈ tables_1 from (List.mem_append_left _ (List.mem_of_getElem? (l := tables_1_1) (i := 53) (by decide +kernel)))) (by decide +kernel)
theorem kw_1259 : Cond.fieldLink R_Ma 248 "LuaMachine$Prototype" "takesMore" "I" ∈ wA := kinm (show _ ∈ tables_1 from (List.mem_append_right _ (List.mem_append_right _ (List.mem_append_left _ (List.mem_of_getElem? (l := tables_1_3) (i := 134) (by decide +kernel)))))) (by decide +kernel)
theorem kw_1260 : Cond.fieldLink R_Ma 261 "LuaMachine$Prototype" "registers" "I" ∈ wA := kinm (show _ ∈ tables_1 from (List.mem_append_right _ (List.mem_append_right _ (List.mem_append_left _ (List.mem_of_getElem? (l := tables_1_3) (i := 136) (by decide +kernel)))))) (by decide +kernel)
theorem kw_1261 : Cond.methodLink R_Ma 264 y_Co_push ∈ wA := kinm (show _ ∈ tables_1 from (List.mem_append_right _ (List.mem_append_right _ (List.mem_append_right _ (List.mem_append_right _ (List.mem_append_right _ (List.mem_append_left _ (List.mem_of_getElem? (l := tables_1_6) (i := 213) (by decide +kernel))))))))) (by decide +kernel)
theorem kw_1262 : Cond.fieldLink R_Ma 272 "LuaMachine$Frame" "prototype" "LLuaMachine$Prototype;" ∈ wA := kinm (show _ ∈ tables_1 from (List.mem_append_right _ (List.mem_append_right _ (List.mem_append_right _ (List.mem_append_right _ (List.mem_append_right _ (List.mem_append_left _ (List.mem_of_getElem? (l := tables_1_6) (i := 101) (by decide +kernel))))))))) (by decide +kernel)
theorem kw_1263 : Cond.fieldLink R_Ma 278 "LuaMachine$Frame" "extra" "I" ∈ wA := kinm (show _ ∈ tables_1 from (List.mem_append_right _ (List.mem_append_right _ (List.mem_append_right _ (List.mem_append_right _ (List.mem_append_right _ (List.mem_append_left _ (List.mem_of_getElem? (l := tables_1_6) (i := 106) (by decide +kernel))))))))) (by decide +kernel)
theorem kw_1264 : Cond.fieldLink R_Ma 253 "LuaMachine$Prototype" "parameters" "I" ∈ wA := kinm (show _ ∈ tables_1 from (List.mem_append_right _ (List.mem_append_right _ (List.mem_append_left _ (List.mem_of_getElem? (l := tables_1_3) (i := 132) (by decide +kernel)))))) (by decide +kernel)
theorem kw_1265 : Cond.methodLink R_Ma 281 y_Mth_min ∈ wA := kinm (show _ ∈ tables_1 from (List.mem_append_right _ (List.mem_append_right _ (List.mem_append_right _ (List.mem_append_right _ (List.mem_append_right _ (List.mem_append_left _ (List.mem_of_getElem? (l := tables_1_6) (i := 229) (by decide +kernel))))))))) (by decide +kernel)
theorem kw_1266 : Cond.fieldLink R_Ma 284 "LuaMachine$Row" "kinds" "[B" ∈ wA := kinm (show _ ∈ tables_1 from (List.mem_append_right _ (List.mem_append_left _ (List.mem_of_getElem? (l := tables_1_2) (i := 27) (by decide +kernel))))) (by decide +kernel)
theorem kw_1267 : Cond.fieldLink R_Ma 287 "LuaMachine$Coroutine" "kinds" "[B" ∈ wA := kinm (show _ ∈ tables_1 from (List.mem_append_right _ (List.mem_append_right _ (List.mem_append_right _ (List.mem_append_right _ (List.mem_append_right _ (List.mem_append_left _ (List.mem_of_getElem? (l := tables_1_6) (i := 138) (by decide +kernel))))))))) (by decide +kernel)
theorem kw_1268 : Cond.methodLink R_Ma 291 y_ARRCOPY ∈ wA := kinm (show _ ∈ tables_1 from (List.mem_append_right _ (List.mem_append_right _ (List.mem_append_right _ (List.mem_append_right _ (List.mem_append_right _ (List.mem_append_left _ (List.mem_of_getElem? (l := tables_1_6) (i := 230) (by decide +kernel))))))))) (by decide +kernel)
theorem kw_1269 : Cond.fieldLink R_Ma 297 "LuaMachine$Row" "values" "[J" ∈ wA := kinm (show _ ∈ tables_1 from (List.mem_append_right _ (List.mem_append_left _ (List.mem_of_getElem? (l := tables_1_2) (i := 33) (by decide +kernel))))) (by decide +kernel)
theorem kw_1270 : Cond.fieldLink R_Ma 298 "LuaMachine$Coroutine" "values" "[J" ∈ wA := kinm (show _ ∈ tables_1 from (List.mem_append_right _ (List.mem_append_right _ (List.mem_append_right _ (List.mem_append_right _ (List.mem_append_right _ (List.mem_append_left _ (List.mem_of_getElem? (l := tables_1_6) (i := 142) (by decide +kernel))))))))) (by decide +kernel)
theorem kw_1271 : Cond.methodLink R_Ma 299 y_Arr_fill_ ∈ wA := kinm (show _ ∈ tables_1 from (List.mem_append_right _ (List.mem_append_right _ (List.mem_append_right _ (List.mem_append_right _ (List.mem_append_right _ (List.mem_append_left _ (List.mem_of_getElem? (l := tables_1_6) (i := 231) (by decide +kernel))))))))) (by decide +kernel)
theorem kw_1272 : Cond.methodLink R_Ma 305 y_Arr_fill__ ∈ wA := kinm (show _ ∈ tables_1 from (List.mem_append_right _ (List.mem_append_right _ (List.mem_append_right _ (List.mem_append_right _ (List.mem_append_right _ (List.mem_append_left _ (List.mem_of_getElem? (l := tables_1_6) (i := 234) (by decide +kernel))))))))) (by decide +kernel)
theorem kw_1273 : Cond.methodLink R_Ma 256 y_Mth_max ∈ wA := kinm (show _ ∈ tables_1 from (List.mem_append_right _ (List.mem_append_right _ (List.mem_append_right _ (List.mem_append_right _ (List.mem_append_right _ (List.mem_append_left _ (List.mem_of_getElem? (l := tables_1_6) (i := 212) (by decide +kernel))))))))) (by decide +kernel)
theorem kw_1274 : Cond.instanceMethod y_Ma_enterClosure ∈ wA := kinm (show _ ∈ tables_1 from (List.mem_append_right _ (List.mem_append_right _ (List.mem_append_right _ (List.mem_append_right _ (List.mem_append_right _ (List.mem_append_left _ (List.mem_of_getElem? (l := tables_1_6) (i := 210) (by decide +kernel))))))))) (by decide +kernel)
theorem kw_1275 : Cond.selects R_Ma y_Ma_enterClosure y_Ma_enterClosure ∈ wA := kinp 35 (by decide +kernel) (by decide +kernel)
theorem cv_Ma_enterClosure : CV y_Ma_enterClosure b_Ma_enterClosure 7 none 1 := ⟨kw_1274, kw_1275, kw_838, k_Ma_enterClosure, by decide +kernel⟩
theorem j_Ma_enterClosure_j54 {X : Cx} {q : PL} (g : Gd X y_Ma_enterClosure b_Ma_enterClosure 7 none 2 47 R_Ma) {o : (Unit) × S1} (hR : Rt X q o.2 none) (l1 : Int32) (l2 : Int32) (l3 : Int32) (k0 : Int32) (s : S1) (hp0 : prs s 144 l2) (hp1 : prs s 148 l3) (ls : Array Slot) (hl : lv_has ls 7 [(0, .ref (q.1 128 0)), (1, .int l1), (2, .ref (q.1 144 l2)), (3, .ref (q.1 148 l3))]) (h : M_Ma_enterClosure_j54 l1 l2 l3 k0 s = some o) : WW X q s 54 ls [.int k0] := by
  unfold M_Ma_enterClosure_j54 at h
  refine ww_istore (pc := 54) (i := 4) g.1 (lv' := [(4, .int k0), (0, .ref (q.1 128 0)), (1, .int l1), (2, .ref (q.1 144 l2)), (3, .ref (q.1 148 l3))]) d_Ma_enterClosure_54 hl (by decide) rfl fun ls hl => ?_
  refine ww_aload_n (pc := 56) g.1 d_Ma_enterClosure_56 rfl (lv_at hl 4 rfl) ?_
  refine ww_iconst (pc := 57) g.1 (v := 0) d_Ma_enterClosure_57 (by decide) ?_
  refine ww_iload_n (pc := 58) g.1 d_Ma_enterClosure_58 rfl (lv_at hl 2 rfl) ?_
  refine ww_aload_n (pc := 59) g.1 d_Ma_enterClosure_59 rfl (lv_at hl 3 rfl) ?_
  refine ww_gI (pc := 60) g (k := 2) cl_Pr hp0 (by decide) (Or.inl kw_1260) (f := 18434) rfl rfl d_Ma_enterClosure_60 h fun v60 h => ?_
  refine ww_iload (pc := 63) g.1 d_Ma_enterClosure_63 (lv_at hl 0 rfl) ?_
  refine ww_iadd (pc := 65) g.1 d_Ma_enterClosure_65 ?_
  refine ww_lo fun dlo => ?_
  obtain ⟨v66, s, hc66, h⟩ := oB_of h
  refine ww_callV (pc := 66) (rest := []) g cv_Co_push (Or.inl kw_1261) cl_Co hp1 (ct_Co_push hp1 hc66) ⟨by decide, by decide⟩ rfl hl.1 (Nat.le_of_ble_eq_true rfl) d_Ma_enterClosure_66 rfl (?_)
  refine ww_st (st' := [.int v66]) rfl ?_
  refine ww_hi fun dhi => ?_
  have hp0 : prs s 144 l2 := dhi _ _ hp0.2.1 hp0.2.2 (dlo _ _ hp0)
  have hp1 : prs s 148 l3 := dhi _ _ hp1.2.1 hp1.2.2 (dlo _ _ hp1)
  refine ww_if_ne (pc := 69) (tgt := 78) g.1 d_Ma_enterClosure_69 (by decide) h (fun c h => ?_) (fun c h => ?_)
  · refine ww_aload_n (pc := 78) g.1 d_Ma_enterClosure_78 rfl (lv_at hl 4 rfl) ?_
    refine ww_lo fun dlo => ?_
    obtain ⟨v79, s, hc79, h⟩ := oB_of h
    refine ww_callV (pc := 79) (rest := []) g cv_Co_top (Or.inl kw_990) cl_Co hp1 (ct_Co_top hp1 hc79) ⟨by decide, by decide⟩ rfl hl.1 (Nat.le_of_ble_eq_true rfl) d_Ma_enterClosure_79 rfl (?_)
    refine ww_st (st' := [.ref (q.1 152 v79)]) rfl ?_
    refine ww_hi fun dhi => ?_
    have hp0 : prs s 144 l2 := dhi _ _ hp0.2.1 hp0.2.2 (dlo _ _ hp0)
    have hp1 : prs s 148 l3 := dhi _ _ hp1.2.1 hp1.2.2 (dlo _ _ hp1)
    refine ww_pr h fun pr79 h => ?_
    refine ww_astore (pc := 82) (i := 5) g.1 (lv' := [(5, .ref (q.1 152 v79)), (4, .int k0), (0, .ref (q.1 128 0)), (1, .int l1), (2, .ref (q.1 144 l2)), (3, .ref (q.1 148 l3))]) d_Ma_enterClosure_82 hl (by decide) rfl fun ls hl => ?_
    refine ww_aload (pc := 84) g.1 d_Ma_enterClosure_84 (lv_at hl 0 rfl) ?_
    refine ww_aload_n (pc := 86) g.1 d_Ma_enterClosure_86 rfl (lv_at hl 4 rfl) ?_
    refine ww_st (st' := [vr q 144 l2, .ref (q.1 152 v79)]) (by rw [vr_prs hp0]) ?_
    refine ww_pV (pc := 87) g (k := 2) cl_Fm pr79 (by decide) (Or.inl kw_1262) rfl (f := 19458) (t := 144) rfl rfl rfl rfl fits_vr d_Ma_enterClosure_87 h fun s hs h => ?_
    have pr79 : prs s 152 v79 := prs_kI (r := 152) (k := 2) (by decide) hs pr79
    have hp0 : prs s 144 l2 := prs_kI (r := 152) (k := 2) (by decide) hs hp0
    have hp1 : prs s 148 l3 := prs_kI (r := 152) (k := 2) (by decide) hs hp1
    refine ww_aload (pc := 90) g.1 d_Ma_enterClosure_90 (lv_at hl 0 rfl) ?_
    refine ww_iload (pc := 92) g.1 d_Ma_enterClosure_92 (lv_at hl 1 rfl) ?_
    refine ww_pI (pc := 94) g (k := 4) cl_Fm pr79 (by decide) (Or.inl kw_1263) rfl (f := 19460) rfl rfl rfl rfl d_Ma_enterClosure_94 h fun s hs h => ?_
    have pr79 : prs s 152 v79 := prs_kI (r := 152) (k := 4) (by decide) hs pr79
    have hp0 : prs s 144 l2 := prs_kI (r := 152) (k := 4) (by decide) hs hp0
    have hp1 : prs s 148 l3 := prs_kI (r := 152) (k := 4) (by decide) hs hp1
    refine ww_aload_n (pc := 97) g.1 d_Ma_enterClosure_97 rfl (lv_at hl 2 rfl) ?_
    refine ww_gR (pc := 98) g (k := 3) cl_Ma (pz rfl (by decide)) (by decide) (Or.inl kw_1098) (f := 16387) (t := 132) rfl rfl rfl d_Ma_enterClosure_98 ?_
    refine ww_gI (pc := 101) g (k := 2) (cl_Ro ⟨by decide, rfl⟩) (pz rfl (by decide)) (by decide) (Or.inl kw_1195) (f := 16898) rfl rfl d_Ma_enterClosure_101 h fun v101 h => ?_
    refine ww_aload_n (pc := 104) g.1 d_Ma_enterClosure_104 rfl (lv_at hl 4 rfl) ?_
    refine ww_gI (pc := 105) g (k := 0) cl_Pr hp0 (by decide) (Or.inl kw_1264) (f := 18432) rfl rfl d_Ma_enterClosure_105 h fun v105 h => ?_
    refine ww_lo fun dlo => ?_
    obtain ⟨v108, s, hc108, h⟩ := oB_of h
    refine ww_callS (pc := 108) (rest := []) g cs_Mth_min (Or.inl kw_1265) (ct_Mth_min hc108) ⟨by decide, by decide⟩ rfl hl.1 (Nat.le_of_ble_eq_true rfl) d_Ma_enterClosure_108 rfl (?_)
    refine ww_st (st' := [.int v108]) rfl ?_
    refine ww_hi fun dhi => ?_
    have pr79 : prs s 152 v79 := dhi _ _ pr79.2.1 pr79.2.2 (dlo _ _ pr79)
    have hp0 : prs s 144 l2 := dhi _ _ hp0.2.1 hp0.2.2 (dlo _ _ hp0)
    have hp1 : prs s 148 l3 := dhi _ _ hp1.2.1 hp1.2.2 (dlo _ _ hp1)
    refine ww_istore (pc := 111) (i := 6) g.1 (lv' := [(6, .int v108), (5, .ref (q.1 152 v79)), (4, .int k0), (0, .ref (q.1 128 0)), (1, .int l1), (2, .ref (q.1 144 l2)), (3, .ref (q.1 148 l3))]) d_Ma_enterClosure_111 hl (by decide) rfl fun ls hl => ?_
    refine ww_aload_n (pc := 113) g.1 d_Ma_enterClosure_113 rfl (lv_at hl 3 rfl) ?_
    refine ww_gR (pc := 114) g (k := 3) cl_Ma (pz rfl (by decide)) (by decide) (Or.inl kw_1098) (f := 16387) (t := 132) rfl rfl rfl d_Ma_enterClosure_114 ?_
    refine ww_gR (pc := 117) g (k := 0) (cl_Ro ⟨by decide, rfl⟩) (pz rfl (by decide)) (by decide) (Or.inl kw_1266) (f := 16896) (t := 133) rfl rfl rfl d_Ma_enterClosure_117 ?_
    refine ww_iconst (pc := 120) g.1 (v := 0) d_Ma_enterClosure_120 (by decide) ?_
    refine ww_aload_n (pc := 121) g.1 d_Ma_enterClosure_121 rfl (lv_at hl 6 rfl) ?_
    refine ww_gR (pc := 122) g (k := 0) cl_Co hp1 (by decide) (Or.inl kw_1267) (f := 18944) (t := 149) rfl rfl rfl d_Ma_enterClosure_122 ?_
    refine ww_kd fun kd122 => ?_
    have pk122 : prs s 149 l3 := (kd122 _ hp1).1
    refine ww_aload (pc := 125) g.1 d_Ma_enterClosure_125 (lv_at hl 1 rfl) ?_
    refine ww_gI (pc := 127) g (k := 3) cl_Fm pr79 (by decide) (Or.inl kw_1134) (f := 19459) rfl rfl d_Ma_enterClosure_127 h fun v127 h => ?_
    refine ww_iload (pc := 130) g.1 d_Ma_enterClosure_130 (lv_at hl 0 rfl) ?_
    refine ww_ci (pc := 132) g (pz rfl (by decide)) pk122 ((rfl : rkF 133 = 2).trans (rfl : rkF 149 = 2).symm) (Or.inr (rfl : rkF 133 = 2)) rfl rfl kw_1268 kw_512 kw_513 kw_514 ⟨by decide, by decide⟩ hl.1 (Nat.le_of_ble_eq_true rfl) d_Ma_enterClosure_132 h fun s hs h => ?_
    have pr79 : prs s 152 v79 := hs ▸ pr79
    have hp0 : prs s 144 l2 := hs ▸ hp0
    have hp1 : prs s 148 l3 := hs ▸ hp1
    refine ww_aload_n (pc := 135) g.1 d_Ma_enterClosure_135 rfl (lv_at hl 3 rfl) ?_
    refine ww_gR (pc := 136) g (k := 3) cl_Ma (pz rfl (by decide)) (by decide) (Or.inl kw_1098) (f := 16387) (t := 132) rfl rfl rfl d_Ma_enterClosure_136 ?_
    refine ww_gR (pc := 139) g (k := 1) (cl_Ro ⟨by decide, rfl⟩) (pz rfl (by decide)) (by decide) (Or.inl kw_1269) (f := 16897) (t := 134) rfl rfl rfl d_Ma_enterClosure_139 ?_
    refine ww_iconst (pc := 142) g.1 (v := 0) d_Ma_enterClosure_142 (by decide) ?_
    refine ww_aload_n (pc := 143) g.1 d_Ma_enterClosure_143 rfl (lv_at hl 6 rfl) ?_
    refine ww_gR (pc := 144) g (k := 1) cl_Co hp1 (by decide) (Or.inl kw_1270) (f := 18945) (t := 150) rfl rfl rfl d_Ma_enterClosure_144 ?_
    refine ww_kd fun kd144 => ?_
    have pk144 : prs s 150 l3 := (kd144 _ hp1).2.1
    refine ww_aload (pc := 147) g.1 d_Ma_enterClosure_147 (lv_at hl 1 rfl) ?_
    refine ww_gI (pc := 149) g (k := 3) cl_Fm pr79 (by decide) (Or.inl kw_1134) (f := 19459) rfl rfl d_Ma_enterClosure_149 h fun v149 h => ?_
    refine ww_iload (pc := 152) g.1 d_Ma_enterClosure_152 (lv_at hl 0 rfl) ?_
    refine ww_cl (pc := 154) g (pz rfl (by decide)) pk144 (rfl : rkF 134 = 4) (rfl : rkF 150 = 4) rfl rfl kw_1268 kw_512 kw_513 kw_514 ⟨by decide, by decide⟩ hl.1 (Nat.le_of_ble_eq_true rfl) d_Ma_enterClosure_154 h fun s hs h => ?_
    have pr79 : prs s 152 v79 := hs ▸ pr79
    have hp0 : prs s 144 l2 := hs ▸ hp0
    have hp1 : prs s 148 l3 := hs ▸ hp1
    refine ww_aload_n (pc := 157) g.1 d_Ma_enterClosure_157 rfl (lv_at hl 6 rfl) ?_
    refine ww_gR (pc := 158) g (k := 0) cl_Co hp1 (by decide) (Or.inl kw_1267) (f := 18944) (t := 149) rfl rfl rfl d_Ma_enterClosure_158 ?_
    refine ww_kd fun kd158 => ?_
    have pk158 : prs s 149 l3 := (kd158 _ hp1).1
    refine ww_aload (pc := 161) g.1 d_Ma_enterClosure_161 (lv_at hl 1 rfl) ?_
    refine ww_gI (pc := 163) g (k := 3) cl_Fm pr79 (by decide) (Or.inl kw_1134) (f := 19459) rfl rfl d_Ma_enterClosure_163 h fun v163 h => ?_
    refine ww_iload (pc := 166) g.1 d_Ma_enterClosure_166 (lv_at hl 0 rfl) ?_
    refine ww_iadd (pc := 168) g.1 d_Ma_enterClosure_168 ?_
    refine ww_aload (pc := 169) g.1 d_Ma_enterClosure_169 (lv_at hl 1 rfl) ?_
    refine ww_gI (pc := 171) g (k := 3) cl_Fm pr79 (by decide) (Or.inl kw_1134) (f := 19459) rfl rfl d_Ma_enterClosure_171 h fun v171 h => ?_
    refine ww_aload_n (pc := 174) g.1 d_Ma_enterClosure_174 rfl (lv_at hl 5 rfl) ?_
    refine ww_gI (pc := 175) g (k := 2) cl_Pr hp0 (by decide) (Or.inl kw_1260) (f := 18434) rfl rfl d_Ma_enterClosure_175 h fun v175 h => ?_
    refine ww_iadd (pc := 178) g.1 d_Ma_enterClosure_178 ?_
    refine ww_iconst (pc := 179) g.1 (v := 0) d_Ma_enterClosure_179 (by decide) ?_
    refine ww_lo fun dlo => ?_
    obtain ⟨v180, s, hc180, h⟩ := oB_of h
    refine ww_callS (pc := 180) (rest := []) g cs_Arr_fill_ (Or.inl kw_1271) (ct_Arr_fill_ ⟨rfl, by decide, by decide⟩ pk158 hc180) ⟨by decide, by decide⟩ rfl hl.1 (Nat.le_of_ble_eq_true rfl) d_Ma_enterClosure_180 rfl (?_)
    refine ww_st (st' := []) rfl ?_
    refine ww_hi fun dhi => ?_
    have pr79 : prs s 152 v79 := dhi _ _ pr79.2.1 pr79.2.2 (dlo _ _ pr79)
    have hp0 : prs s 144 l2 := dhi _ _ hp0.2.1 hp0.2.2 (dlo _ _ hp0)
    have hp1 : prs s 148 l3 := dhi _ _ hp1.2.1 hp1.2.2 (dlo _ _ hp1)
    refine ww_aload_n (pc := 183) g.1 d_Ma_enterClosure_183 rfl (lv_at hl 6 rfl) ?_
    refine ww_gR (pc := 184) g (k := 1) cl_Co hp1 (by decide) (Or.inl kw_1270) (f := 18945) (t := 150) rfl rfl rfl d_Ma_enterClosure_184 ?_
    refine ww_kd fun kd184 => ?_
    have pk184 : prs s 150 l3 := (kd184 _ hp1).2.1
    refine ww_aload (pc := 187) g.1 d_Ma_enterClosure_187 (lv_at hl 1 rfl) ?_
    refine ww_gI (pc := 189) g (k := 3) cl_Fm pr79 (by decide) (Or.inl kw_1134) (f := 19459) rfl rfl d_Ma_enterClosure_189 h fun v189 h => ?_
    refine ww_iload (pc := 192) g.1 d_Ma_enterClosure_192 (lv_at hl 0 rfl) ?_
    refine ww_iadd (pc := 194) g.1 d_Ma_enterClosure_194 ?_
    refine ww_aload (pc := 195) g.1 d_Ma_enterClosure_195 (lv_at hl 1 rfl) ?_
    refine ww_gI (pc := 197) g (k := 3) cl_Fm pr79 (by decide) (Or.inl kw_1134) (f := 19459) rfl rfl d_Ma_enterClosure_197 h fun v197 h => ?_
    refine ww_aload_n (pc := 200) g.1 d_Ma_enterClosure_200 rfl (lv_at hl 5 rfl) ?_
    refine ww_gI (pc := 201) g (k := 2) cl_Pr hp0 (by decide) (Or.inl kw_1260) (f := 18434) rfl rfl d_Ma_enterClosure_201 h fun v201 h => ?_
    refine ww_iadd (pc := 204) g.1 d_Ma_enterClosure_204 ?_
    refine ww_lconst (pc := 205) g.1 (v := 0) d_Ma_enterClosure_205 (by decide) ?_
    refine ww_lo fun dlo => ?_
    obtain ⟨v206, s, hc206, h⟩ := oB_of h
    refine ww_callS (pc := 206) (rest := []) g cs_Arr_fill__ (Or.inl kw_1272) (ct_Arr_fill__ ⟨rfl, by decide, by decide⟩ pk184 hc206) ⟨by decide, by decide⟩ rfl hl.1 (Nat.le_of_ble_eq_true rfl) d_Ma_enterClosure_206 rfl (?_)
    refine ww_st (st' := []) rfl ?_
    refine ww_hi fun dhi => ?_
    have pr79 : prs s 152 v79 := dhi _ _ pr79.2.1 pr79.2.2 (dlo _ _ pr79)
    have hp0 : prs s 144 l2 := dhi _ _ hp0.2.1 hp0.2.2 (dlo _ _ hp0)
    have hp1 : prs s 148 l3 := dhi _ _ hp1.2.1 hp1.2.2 (dlo _ _ hp1)
    refine ww_aload_n (pc := 209) g.1 d_Ma_enterClosure_209 rfl (lv_at hl 3 rfl) ?_
    refine ww_gR (pc := 210) g (k := 3) cl_Ma (pz rfl (by decide)) (by decide) (Or.inl kw_1098) (f := 16387) (t := 132) rfl rfl rfl d_Ma_enterClosure_210 ?_
    refine ww_gR (pc := 213) g (k := 0) (cl_Ro ⟨by decide, rfl⟩) (pz rfl (by decide)) (by decide) (Or.inl kw_1266) (f := 16896) (t := 133) rfl rfl rfl d_Ma_enterClosure_213 ?_
    refine ww_aload_n (pc := 216) g.1 d_Ma_enterClosure_216 rfl (lv_at hl 5 rfl) ?_
    refine ww_gI (pc := 217) g (k := 0) cl_Pr hp0 (by decide) (Or.inl kw_1264) (f := 18432) rfl rfl d_Ma_enterClosure_217 h fun v217 h => ?_
    refine ww_aload_n (pc := 220) g.1 d_Ma_enterClosure_220 rfl (lv_at hl 6 rfl) ?_
    refine ww_gR (pc := 221) g (k := 0) cl_Co hp1 (by decide) (Or.inl kw_1267) (f := 18944) (t := 149) rfl rfl rfl d_Ma_enterClosure_221 ?_
    refine ww_kd fun kd221 => ?_
    have pk221 : prs s 149 l3 := (kd221 _ hp1).1
    refine ww_aload (pc := 224) g.1 d_Ma_enterClosure_224 (lv_at hl 1 rfl) ?_
    refine ww_gI (pc := 226) g (k := 3) cl_Fm pr79 (by decide) (Or.inl kw_1134) (f := 19459) rfl rfl d_Ma_enterClosure_226 h fun v226 h => ?_
    refine ww_aload_n (pc := 229) g.1 d_Ma_enterClosure_229 rfl (lv_at hl 5 rfl) ?_
    refine ww_gI (pc := 230) g (k := 2) cl_Pr hp0 (by decide) (Or.inl kw_1260) (f := 18434) rfl rfl d_Ma_enterClosure_230 h fun v230 h => ?_
    refine ww_iadd (pc := 233) g.1 d_Ma_enterClosure_233 ?_
    refine ww_iload (pc := 234) g.1 d_Ma_enterClosure_234 (lv_at hl 2 rfl) ?_
    refine ww_ci (pc := 236) g (pz rfl (by decide)) pk221 ((rfl : rkF 133 = 2).trans (rfl : rkF 149 = 2).symm) (Or.inr (rfl : rkF 133 = 2)) rfl rfl kw_1268 kw_512 kw_513 kw_514 ⟨by decide, by decide⟩ hl.1 (Nat.le_of_ble_eq_true rfl) d_Ma_enterClosure_236 h fun s hs h => ?_
    have pr79 : prs s 152 v79 := hs ▸ pr79
    have hp0 : prs s 144 l2 := hs ▸ hp0
    have hp1 : prs s 148 l3 := hs ▸ hp1
    refine ww_aload_n (pc := 239) g.1 d_Ma_enterClosure_239 rfl (lv_at hl 3 rfl) ?_
    refine ww_gR (pc := 240) g (k := 3) cl_Ma (pz rfl (by decide)) (by decide) (Or.inl kw_1098) (f := 16387) (t := 132) rfl rfl rfl d_Ma_enterClosure_240 ?_
    refine ww_gR (pc := 243) g (k := 1) (cl_Ro ⟨by decide, rfl⟩) (pz rfl (by decide)) (by decide) (Or.inl kw_1269) (f := 16897) (t := 134) rfl rfl rfl d_Ma_enterClosure_243 ?_
    refine ww_aload_n (pc := 246) g.1 d_Ma_enterClosure_246 rfl (lv_at hl 5 rfl) ?_
    refine ww_gI (pc := 247) g (k := 0) cl_Pr hp0 (by decide) (Or.inl kw_1264) (f := 18432) rfl rfl d_Ma_enterClosure_247 h fun v247 h => ?_
    refine ww_aload_n (pc := 250) g.1 d_Ma_enterClosure_250 rfl (lv_at hl 6 rfl) ?_
    refine ww_gR (pc := 251) g (k := 1) cl_Co hp1 (by decide) (Or.inl kw_1270) (f := 18945) (t := 150) rfl rfl rfl d_Ma_enterClosure_251 ?_
    refine ww_kd fun kd251 => ?_
    have pk251 : prs s 150 l3 := (kd251 _ hp1).2.1
    refine ww_aload (pc := 254) g.1 d_Ma_enterClosure_254 (lv_at hl 1 rfl) ?_
    refine ww_gI (pc := 256) g (k := 3) cl_Fm pr79 (by decide) (Or.inl kw_1134) (f := 19459) rfl rfl d_Ma_enterClosure_256 h fun v256 h => ?_
    refine ww_aload_n (pc := 259) g.1 d_Ma_enterClosure_259 rfl (lv_at hl 5 rfl) ?_
    refine ww_gI (pc := 260) g (k := 2) cl_Pr hp0 (by decide) (Or.inl kw_1260) (f := 18434) rfl rfl d_Ma_enterClosure_260 h fun v260 h => ?_
    refine ww_iadd (pc := 263) g.1 d_Ma_enterClosure_263 ?_
    refine ww_iload (pc := 264) g.1 d_Ma_enterClosure_264 (lv_at hl 2 rfl) ?_
    refine ww_cl (pc := 266) g (pz rfl (by decide)) pk251 (rfl : rkF 134 = 4) (rfl : rkF 150 = 4) rfl rfl kw_1268 kw_512 kw_513 kw_514 ⟨by decide, by decide⟩ hl.1 (Nat.le_of_ble_eq_true rfl) d_Ma_enterClosure_266 h fun s hs h => ?_
    have pr79 : prs s 152 v79 := hs ▸ pr79
    have hp0 : prs s 144 l2 := hs ▸ hp0
    have hp1 : prs s 148 l3 := hs ▸ hp1
    refine ww_aload_n (pc := 269) g.1 d_Ma_enterClosure_269 rfl (lv_at hl 3 rfl) ?_
    refine ww_gR (pc := 270) g (k := 3) cl_Ma (pz rfl (by decide)) (by decide) (Or.inl kw_1098) (f := 16387) (t := 132) rfl rfl rfl d_Ma_enterClosure_270 ?_
    refine ww_lo fun dlo => ?_
    obtain ⟨v273, s, hc273, h⟩ := oB_of h
    refine ww_callV (pc := 273) (rest := []) g cv_Ro_clear (Or.inl kw_1003) (cl_Ro ⟨by decide, rfl⟩) (pz rfl (by decide)) (ct_Ro_clear ⟨by decide, rfl⟩ hc273) ⟨by decide, by decide⟩ rfl hl.1 (Nat.le_of_ble_eq_true rfl) d_Ma_enterClosure_273 rfl (?_)
    refine ww_st (st' := []) rfl ?_
    refine ww_hi fun dhi => ?_
    have pr79 : prs s 152 v79 := dhi _ _ pr79.2.1 pr79.2.2 (dlo _ _ pr79)
    have hp0 : prs s 144 l2 := dhi _ _ hp0.2.1 hp0.2.2 (dlo _ _ hp0)
    have hp1 : prs s 148 l3 := dhi _ _ hp1.2.1 hp1.2.2 (dlo _ _ hp1)
    refine ww_aload_n (pc := 276) g.1 d_Ma_enterClosure_276 rfl (lv_at hl 3 rfl) ?_
    refine ww_iconst (pc := 277) g.1 (v := 0) d_Ma_enterClosure_277 (by decide) ?_
    refine ww_pI (pc := 278) g (k := 12) cl_Ma (pz rfl (by decide)) (by decide) (Or.inl kw_851) rfl (f := 16396) rfl rfl rfl rfl d_Ma_enterClosure_278 h fun s hs h => ?_
    have pr79 : prs s 152 v79 := prs_kI (r := 128) (k := 12) (by decide) hs pr79
    have hp0 : prs s 144 l2 := prs_kI (r := 128) (k := 12) (by decide) hs hp0
    have hp1 : prs s 148 l3 := prs_kI (r := 128) (k := 12) (by decide) hs hp1
    exact ww_vretH (pc := 281) g h hR d_Ma_enterClosure_281
  · refine ww_aload_n (pc := 72) g.1 d_Ma_enterClosure_72 rfl (lv_at hl 1 rfl) ?_
    refine ww_iconst (pc := 73) g.1 (v := 4) d_Ma_enterClosure_73 (by decide) ?_
    refine ww_lo fun dlo => ?_
    obtain ⟨v74, s, hc74, h⟩ := oB_of h
    refine ww_callV (pc := 74) (rest := []) g cv_Ma_fail (Or.inl kw_1196) cl_Ma (pz rfl (by decide)) (ct_Ma_fail hc74) ⟨by decide, by decide⟩ rfl hl.1 (Nat.le_of_ble_eq_true rfl) d_Ma_enterClosure_74 rfl (?_)
    refine ww_st (st' := []) rfl ?_
    refine ww_hi fun dhi => ?_
    have hp0 : prs s 144 l2 := dhi _ _ hp0.2.1 hp0.2.2 (dlo _ _ hp0)
    have hp1 : prs s 148 l3 := dhi _ _ hp1.2.1 hp1.2.2 (dlo _ _ hp1)
    exact ww_vretH (pc := 77) g h hR d_Ma_enterClosure_77

theorem ct_Ma_enterClosure {l : Launch} {P : PP} {q : PL} {s s' : S1} {l1 : Int32} {r : Unit} (h : M_Ma_enterClosure l1 s = some (r, s')) : Ct l y_Ma_enterClosure b_Ma_enterClosure 7 none 2 47 P q s [.ref (q.1 128 0), .int l1] none q s' := by
  refine ct_of (by decide) (Nat.le_of_ble_eq_true rfl) fun X ls eP el g hR hl => ?_
  subst eP
  have hR : Rt X q ((r, s') : Unit × S1).2 none := hR
  have hl : lv_has ls 7 [(0, .ref (q.1 128 0)), (1, .int l1)] := hl
  generalize (r, s') = o at h hR
  unfold M_Ma_enterClosure at h
  refine ww_aload_n (pc := 0) g.1 d_Ma_enterClosure_0 rfl (lv_at hl 0 rfl) ?_
  refine ww_gR (pc := 1) g (k := 0) cl_Ma (pz rfl (by decide)) (by decide) (Or.inl kw_1257) (f := 16384) (t := 101) rfl rfl rfl d_Ma_enterClosure_1 ?_
  refine ww_gR (pc := 4) g (k := 0) cl_Ch (pz rfl (by decide)) (by decide) (Or.inl kw_1258) (f := 12928) (t := 102) rfl rfl rfl d_Ma_enterClosure_4 ?_
  refine ww_aload_n (pc := 7) g.1 d_Ma_enterClosure_7 rfl (lv_at hl 0 rfl) ?_
  refine ww_gR (pc := 8) g (k := 1) cl_Ma (pz rfl (by decide)) (by decide) (Or.inl kw_938) (f := 16385) (t := 111) rfl rfl rfl d_Ma_enterClosure_8 ?_
  refine ww_gR (pc := 11) g (k := 0) cl_He (pz rfl (by decide)) (by decide) (Or.inl kw_940) (f := 14208) (t := 112) rfl rfl rfl d_Ma_enterClosure_11 ?_
  refine ww_iload_n (pc := 14) g.1 d_Ma_enterClosure_14 rfl (lv_at hl 1 rfl) ?_
  refine ww_a8 (pc := 15) g (t := 145) (n := 4000) (pz rfl (by decide)) rfl rfl rfl rfl d_Ma_enterClosure_15 h fun pa15 h => ?_
  refine ww_gI (pc := 16) g (k := 4) cl_Tg pa15 (by decide) (Or.inl kw_941) (f := 18564) rfl rfl d_Ma_enterClosure_16 h fun v16 h => ?_
  refine ww_a8 (pc := 19) g (t := 144) (n := 250) (pz rfl (by decide)) rfl rfl rfl rfl d_Ma_enterClosure_19 h fun pa19 h => ?_
  refine ww_astore_n (pc := 20) (i := 2) g.1 (lv' := [(2, .ref (q.1 144 v16)), (0, .ref (q.1 128 0)), (1, .int l1)]) d_Ma_enterClosure_20 rfl hl (by decide) rfl fun ls hl => ?_
  refine ww_aload_n (pc := 21) g.1 d_Ma_enterClosure_21 rfl (lv_at hl 1 rfl) ?_
  refine ww_gV (pc := 22) g (k := 11) cl_Ma (pz rfl (by decide)) (by decide) (Or.inl kw_988) (f := 16395) (t := 148) rfl rfl rfl d_Ma_enterClosure_22 h fun v22 h => ?_
  refine ww_pr h fun pn22 h => ?_
  refine ww_nnP pn22 ?_
  refine ww_astore_n (pc := 25) (i := 3) g.1 (lv' := [(3, .ref (q.1 148 v22)), (2, .ref (q.1 144 v16)), (0, .ref (q.1 128 0)), (1, .int l1)]) d_Ma_enterClosure_25 rfl hl (by decide) rfl fun ls hl => ?_
  refine ww_aload_n (pc := 26) g.1 d_Ma_enterClosure_26 rfl (lv_at hl 1 rfl) ?_
  refine ww_gI (pc := 27) g (k := 1) cl_Pr pa19 (by decide) (Or.inl kw_1259) (f := 18433) rfl rfl d_Ma_enterClosure_27 h fun v27 h => ?_
  refine ww_iconst (pc := 30) g.1 (v := 1) d_Ma_enterClosure_30 (by decide) ?_
  refine ww_icmp_ne (pc := 31) (tgt := 53) g.1 d_Ma_enterClosure_31 (by decide) h (fun c h => ?_) (fun c h => ?_)
  · refine ww_iconst (pc := 53) g.1 (v := 0) d_Ma_enterClosure_53 (by decide) ?_
    exact j_Ma_enterClosure_j54 g hR l1 v16 v22 0 s pa19 pn22 ls (lv_sub hl [2, 3, 1, 0] rfl) h
  · refine ww_iconst (pc := 34) g.1 (v := 0) d_Ma_enterClosure_34 (by decide) ?_
    refine ww_aload_n (pc := 35) g.1 d_Ma_enterClosure_35 rfl (lv_at hl 2 rfl) ?_
    refine ww_gR (pc := 36) g (k := 3) cl_Ma (pz rfl (by decide)) (by decide) (Or.inl kw_1098) (f := 16387) (t := 132) rfl rfl rfl d_Ma_enterClosure_36 ?_
    refine ww_gI (pc := 39) g (k := 2) (cl_Ro ⟨by decide, rfl⟩) (pz rfl (by decide)) (by decide) (Or.inl kw_1195) (f := 16898) rfl rfl d_Ma_enterClosure_39 h fun v39 h => ?_
    refine ww_aload_n (pc := 42) g.1 d_Ma_enterClosure_42 rfl (lv_at hl 1 rfl) ?_
    refine ww_gI (pc := 43) g (k := 0) cl_Pr pa19 (by decide) (Or.inl kw_1264) (f := 18432) rfl rfl d_Ma_enterClosure_43 h fun v43 h => ?_
    refine ww_isub (pc := 46) g.1 d_Ma_enterClosure_46 ?_
    refine ww_lo fun dlo => ?_
    obtain ⟨v47, s, hc47, h⟩ := oB_of h
    refine ww_callS (pc := 47) (rest := []) g cs_Mth_max (Or.inl kw_1273) (ct_Mth_max hc47) ⟨by decide, by decide⟩ rfl hl.1 (Nat.le_of_ble_eq_true rfl) d_Ma_enterClosure_47 rfl (?_)
    refine ww_st (st' := [.int v47]) rfl ?_
    refine ww_hi fun dhi => ?_
    have pn22 : prs s 148 v22 := dhi _ _ pn22.2.1 pn22.2.2 (dlo _ _ pn22)
    have pa19 : prs s 144 v16 := dhi _ _ pa19.2.1 pa19.2.2 (dlo _ _ pa19)
    refine ww_goto (pc := 50) (tgt := 54) g.1 d_Ma_enterClosure_50 (by decide) ?_
    exact j_Ma_enterClosure_j54 g hR l1 v16 v22 v47 s pa19 pn22 ls (lv_sub hl [2, 3, 1, 0] rfl) h


