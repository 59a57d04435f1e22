abbrev b_Ch_readConstant : ByteArray := prog_3_method_12_code
def y_Ch_readConstant : MethodName := ⟨R_Ch, "readConstant", "(I)Z"⟩
abbrev w_Ch_readConstant : List Cond := .code y_Ch_readConstant b_Ch_readConstant 5 (some .boolean) :: wA
set_option maxRecDepth 20000 in
theorem k_Ch_readConstant : Cond.code y_Ch_readConstant b_Ch_readConstant 5 (some .boolean) ∈ wA := kinm (show _ ∈ tables_1 from (List.mem_append_right _ (List.mem_append_right _ (List.mem_append_left _ (List.mem_of_getElem? (l := tables_1_3) (i := 203) rfl))))) rfl
theorem d_Ch_readConstant_0 : decode b_Ch_readConstant 0 = .ok (.lconst 0, 1) := by decide +kernel
theorem d_Ch_readConstant_1 : decode b_Ch_readConstant 1 = .ok (.lstore_n 2, 1) := by decide +kernel
theorem d_Ch_readConstant_2 : decode b_Ch_readConstant 2 = .ok (.iload_n 1, 1) := by decide +kernel
theorem d_Ch_readConstant_3 : decode b_Ch_readConstant 3 = .ok (.iconst 3, 1) := by decide +kernel
theorem d_Ch_readConstant_4 : decode b_Ch_readConstant 4 = .ok (.if_icmp .ne 53, 3) := by decide +kernel
theorem d_Ch_readConstant_7 : decode b_Ch_readConstant 7 = .ok (.aload_n 0, 1) := by decide +kernel
theorem d_Ch_readConstant_8 : decode b_Ch_readConstant 8 = .ok (.getfield 57, 3) := by decide +kernel
theorem d_Ch_readConstant_11 : decode b_Ch_readConstant 11 = .ok (.bipush 8, 2) := by decide +kernel
theorem d_Ch_readConstant_13 : decode b_Ch_readConstant 13 = .ok (.iadd, 1) := by decide +kernel
theorem d_Ch_readConstant_14 : decode b_Ch_readConstant 14 = .ok (.aload_n 0, 1) := by decide +kernel
theorem d_Ch_readConstant_15 : decode b_Ch_readConstant 15 = .ok (.getfield 60, 3) := by decide +kernel
theorem d_Ch_readConstant_18 : decode b_Ch_readConstant 18 = .ok (.if_icmp .le 13, 3) := by decide +kernel
theorem d_Ch_readConstant_21 : decode b_Ch_readConstant 21 = .ok (.aload_n 0, 1) := by decide +kernel
theorem d_Ch_readConstant_22 : decode b_Ch_readConstant 22 = .ok (.iconst 1, 1) := by decide +kernel
theorem d_Ch_readConstant_23 : decode b_Ch_readConstant 23 = .ok (.aload_n 0, 1) := by decide +kernel
theorem d_Ch_readConstant_24 : decode b_Ch_readConstant 24 = .ok (.getfield 57, 3) := by decide +kernel
theorem d_Ch_readConstant_27 : decode b_Ch_readConstant 27 = .ok (.invokevirtual 63, 3) := by decide +kernel
theorem d_Ch_readConstant_30 : decode b_Ch_readConstant 30 = .ok (.ireturn, 1) := by decide +kernel
theorem d_Ch_readConstant_31 : decode b_Ch_readConstant 31 = .ok (.aload_n 0, 1) := by decide +kernel
theorem d_Ch_readConstant_32 : decode b_Ch_readConstant 32 = .ok (.iconst 4, 1) := by decide +kernel
theorem d_Ch_readConstant_33 : decode b_Ch_readConstant 33 = .ok (.invokevirtual 104, 3) := by decide +kernel
theorem d_Ch_readConstant_36 : decode b_Ch_readConstant 36 = .ok (.i2l, 1) := by decide +kernel
theorem d_Ch_readConstant_37 : decode b_Ch_readConstant 37 = .ok (.bipush 32, 2) := by decide +kernel
theorem d_Ch_readConstant_39 : decode b_Ch_readConstant 39 = .ok (.lshl, 1) := by decide +kernel
theorem d_Ch_readConstant_40 : decode b_Ch_readConstant 40 = .ok (.lstore_n 2, 1) := by decide +kernel
theorem d_Ch_readConstant_41 : decode b_Ch_readConstant 41 = .ok (.lload_n 2, 1) := by decide +kernel
theorem d_Ch_readConstant_42 : decode b_Ch_readConstant 42 = .ok (.aload_n 0, 1) := by decide +kernel
theorem d_Ch_readConstant_43 : decode b_Ch_readConstant 43 = .ok (.iconst 4, 1) := by decide +kernel
theorem d_Ch_readConstant_44 : decode b_Ch_readConstant 44 = .ok (.invokevirtual 104, 3) := by decide +kernel
theorem d_Ch_readConstant_47 : decode b_Ch_readConstant 47 = .ok (.i2l, 1) := by decide +kernel
theorem d_Ch_readConstant_48 : decode b_Ch_readConstant 48 = .ok (.ldc2_w 135, 3) := by decide +kernel
theorem d_Ch_readConstant_51 : decode b_Ch_readConstant 51 = .ok (.land, 1) := by decide +kernel
theorem d_Ch_readConstant_52 : decode b_Ch_readConstant 52 = .ok (.lor, 1) := by decide +kernel
theorem d_Ch_readConstant_53 : decode b_Ch_readConstant 53 = .ok (.lstore_n 2, 1) := by decide +kernel
theorem d_Ch_readConstant_54 : decode b_Ch_readConstant 54 = .ok (.goto 70, 3) := by decide +kernel
theorem d_Ch_readConstant_57 : decode b_Ch_readConstant 57 = .ok (.iload_n 1, 1) := by decide +kernel
theorem d_Ch_readConstant_58 : decode b_Ch_readConstant 58 = .ok (.iconst 4, 1) := by decide +kernel
theorem d_Ch_readConstant_59 : decode b_Ch_readConstant 59 = .ok (.if_icmp .ne 65, 3) := by decide +kernel
theorem d_Ch_readConstant_62 : decode b_Ch_readConstant 62 = .ok (.aload_n 0, 1) := by decide +kernel
theorem d_Ch_readConstant_63 : decode b_Ch_readConstant 63 = .ok (.iconst 2, 1) := by decide +kernel
theorem d_Ch_readConstant_64 : decode b_Ch_readConstant 64 = .ok (.invokevirtual 104, 3) := by decide +kernel
theorem d_Ch_readConstant_67 : decode b_Ch_readConstant 67 = .ok (.istore 4, 2) := by decide +kernel
theorem d_Ch_readConstant_69 : decode b_Ch_readConstant 69 = .ok (.iload 4, 2) := by decide +kernel
theorem d_Ch_readConstant_71 : decode b_Ch_readConstant 71 = .ok (.ifCond .ge 5, 3) := by decide +kernel
theorem d_Ch_readConstant_74 : decode b_Ch_readConstant 74 = .ok (.iconst 0, 1) := by decide +kernel
theorem d_Ch_readConstant_75 : decode b_Ch_readConstant 75 = .ok (.ireturn, 1) := by decide +kernel
theorem d_Ch_readConstant_76 : decode b_Ch_readConstant 76 = .ok (.aload_n 0, 1) := by decide +kernel
theorem d_Ch_readConstant_77 : decode b_Ch_readConstant 77 = .ok (.getfield 57, 3) := by decide +kernel
theorem d_Ch_readConstant_80 : decode b_Ch_readConstant 80 = .ok (.iload 4, 2) := by decide +kernel
theorem d_Ch_readConstant_82 : decode b_Ch_readConstant 82 = .ok (.iadd, 1) := by decide +kernel
theorem d_Ch_readConstant_83 : decode b_Ch_readConstant 83 = .ok (.aload_n 0, 1) := by decide +kernel
theorem d_Ch_readConstant_84 : decode b_Ch_readConstant 84 = .ok (.getfield 60, 3) := by decide +kernel
theorem d_Ch_readConstant_87 : decode b_Ch_readConstant 87 = .ok (.if_icmp .le 13, 3) := by decide +kernel
theorem d_Ch_readConstant_90 : decode b_Ch_readConstant 90 = .ok (.aload_n 0, 1) := by decide +kernel
theorem d_Ch_readConstant_91 : decode b_Ch_readConstant 91 = .ok (.iconst 1, 1) := by decide +kernel
theorem d_Ch_readConstant_92 : decode b_Ch_readConstant 92 = .ok (.aload_n 0, 1) := by decide +kernel
theorem d_Ch_readConstant_93 : decode b_Ch_readConstant 93 = .ok (.getfield 57, 3) := by decide +kernel
theorem d_Ch_readConstant_96 : decode b_Ch_readConstant 96 = .ok (.invokevirtual 63, 3) := by decide +kernel
theorem d_Ch_readConstant_99 : decode b_Ch_readConstant 99 = .ok (.ireturn, 1) := by decide +kernel
theorem d_Ch_readConstant_100 : decode b_Ch_readConstant 100 = .ok (.aload_n 0, 1) := by decide +kernel
theorem d_Ch_readConstant_101 : decode b_Ch_readConstant 101 = .ok (.getfield 57, 3) := by decide +kernel
theorem d_Ch_readConstant_104 : decode b_Ch_readConstant 104 = .ok (.i2l, 1) := by decide +kernel
theorem d_Ch_readConstant_105 : decode b_Ch_readConstant 105 = .ok (.bipush 16, 2) := by decide +kernel
theorem d_Ch_readConstant_107 : decode b_Ch_readConstant 107 = .ok (.lshl, 1) := by decide +kernel
theorem d_Ch_readConstant_108 : decode b_Ch_readConstant 108 = .ok (.iload 4, 2) := by decide +kernel
theorem d_Ch_readConstant_110 : decode b_Ch_readConstant 110 = .ok (.i2l, 1) := by decide +kernel
theorem d_Ch_readConstant_111 : decode b_Ch_readConstant 111 = .ok (.lor, 1) := by decide +kernel
theorem d_Ch_readConstant_112 : decode b_Ch_readConstant 112 = .ok (.lstore_n 2, 1) := by decide +kernel
theorem d_Ch_readConstant_113 : decode b_Ch_readConstant 113 = .ok (.aload_n 0, 1) := by decide +kernel
theorem d_Ch_readConstant_114 : decode b_Ch_readConstant 114 = .ok (.dup, 1) := by decide +kernel
theorem d_Ch_readConstant_115 : decode b_Ch_readConstant 115 = .ok (.getfield 57, 3) := by decide +kernel
theorem d_Ch_readConstant_118 : decode b_Ch_readConstant 118 = .ok (.iload 4, 2) := by decide +kernel
theorem d_Ch_readConstant_120 : decode b_Ch_readConstant 120 = .ok (.iadd, 1) := by decide +kernel
theorem d_Ch_readConstant_121 : decode b_Ch_readConstant 121 = .ok (.putfield 57, 3) := by decide +kernel
theorem d_Ch_readConstant_124 : decode b_Ch_readConstant 124 = .ok (.aload_n 0, 1) := by decide +kernel
theorem d_Ch_readConstant_125 : decode b_Ch_readConstant 125 = .ok (.getfield 24, 3) := by decide +kernel
theorem d_Ch_readConstant_128 : decode b_Ch_readConstant 128 = .ok (.aload_n 0, 1) := by decide +kernel
theorem d_Ch_readConstant_129 : decode b_Ch_readConstant 129 = .ok (.getfield 78, 3) := by decide +kernel
theorem d_Ch_readConstant_132 : decode b_Ch_readConstant 132 = .ok (.iload_n 1, 1) := by decide +kernel
theorem d_Ch_readConstant_133 : decode b_Ch_readConstant 133 = .ok (.i2b, 1) := by decide +kernel
theorem d_Ch_readConstant_134 : decode b_Ch_readConstant 134 = .ok (.bastore, 1) := by decide +kernel
theorem d_Ch_readConstant_135 : decode b_Ch_readConstant 135 = .ok (.aload_n 0, 1) := by decide +kernel
theorem d_Ch_readConstant_136 : decode b_Ch_readConstant 136 = .ok (.getfield 28, 3) := by decide +kernel
theorem d_Ch_readConstant_139 : decode b_Ch_readConstant 139 = .ok (.aload_n 0, 1) := by decide +kernel
theorem d_Ch_readConstant_140 : decode b_Ch_readConstant 140 = .ok (.getfield 78, 3) := by decide +kernel
theorem d_Ch_readConstant_143 : decode b_Ch_readConstant 143 = .ok (.lload_n 2, 1) := by decide +kernel
theorem d_Ch_readConstant_144 : decode b_Ch_readConstant 144 = .ok (.lastore, 1) := by decide +kernel
theorem d_Ch_readConstant_145 : decode b_Ch_readConstant 145 = .ok (.aload_n 0, 1) := by decide +kernel
theorem d_Ch_readConstant_146 : decode b_Ch_readConstant 146 = .ok (.dup, 1) := by decide +kernel
theorem d_Ch_readConstant_147 : decode b_Ch_readConstant 147 = .ok (.getfield 78, 3) := by decide +kernel
theorem d_Ch_readConstant_150 : decode b_Ch_readConstant 150 = .ok (.iconst 1, 1) := by decide +kernel
theorem d_Ch_readConstant_151 : decode b_Ch_readConstant 151 = .ok (.iadd, 1) := by decide +kernel
theorem d_Ch_readConstant_152 : decode b_Ch_readConstant 152 = .ok (.putfield 78, 3) := by decide +kernel
theorem d_Ch_readConstant_155 : decode b_Ch_readConstant 155 = .ok (.iconst 1, 1) := by decide +kernel
theorem d_Ch_readConstant_156 : decode b_Ch_readConstant 156 = .ok (.ireturn, 1) := by decide +kernel
theorem kw_677 : Cond.constantLong R_Ch 135 4294967295 ∈ wA := kinm (show _ ∈ tables_1 from (List.mem_append_right _ (List.mem_append_right _ (List.mem_append_left _ (List.mem_of_getElem? (l := tables_1_3) (i := 204) (by decide +kernel)))))) (by decide +kernel)
theorem kw_678 : Cond.fieldLink R_Ch 24 "LuaMachine$Chunk" "constantKinds" "[B" ∈ wA := kinm (show _ ∈ tables_1 from (List.mem_append_left _ (List.mem_of_getElem? (l := tables_1_1) (i := 60) (by decide +kernel)))) (by decide +kernel)
theorem kw_679 : Cond.fieldLink R_Ch 28 "LuaMachine$Chunk" "constantValues" "[J" ∈ wA := kinm (show _ ∈ tables_1 from (List.mem_append_left _ (List.mem_of_getElem? (l := tables_1_1) (i := 63) (by decide +kernel)))) (by decide +kernel)
theorem kw_680 : Cond.methodLink R_Ch 104 y_Ch_readNumber ∈ wA := kinm (show _ ∈ tables_1 from (List.mem_append_right _ (List.mem_append_right _ (List.mem_append_left _ (List.mem_of_getElem? (l := tables_1_3) (i := 185) (by decide +kernel)))))) (by decide +kernel)
theorem kw_681 : Cond.instanceMethod y_Ch_readConstant ∈ wA := kinm (show _ ∈ tables_1 from (List.mem_append_right _ (List.mem_append_right _ (List.mem_append_left _ (List.mem_of_getElem? (l := tables_1_3) (i := 202) (by decide +kernel)))))) (by decide +kernel)
theorem kw_682 : Cond.selects R_Ch y_Ch_readConstant y_Ch_readConstant ∈ wA := kinp 10 (by decide +kernel) (by decide +kernel)
theorem cv_Ch_readConstant : CV y_Ch_readConstant b_Ch_readConstant 5 (some .boolean) 1 := ⟨kw_681, kw_682, kw_664, k_Ch_readConstant, by decide +kernel⟩
theorem j_Ch_readConstant_j124 {X : Cx} {q : PL} (g : Gd X y_Ch_readConstant b_Ch_readConstant 5 (some .boolean) 2 45 R_Ch) {o : (Int32) × S1} (hR : Rt X q o.2 (some (.int o.1))) (l1 : Int32) (l2 : Int64) (s : S1) (ls : Array Slot) (hl : lv_has ls 5 [(0, .ref (q.1 101 0)), (1, .int l1), (2, .long l2)]) (h : M_Ch_readConstant_j124 l1 l2 s = some o) : WW X q s 124 ls [] := by
  unfold M_Ch_readConstant_j124 at h
  refine ww_aload_n (pc := 124) g.1 d_Ch_readConstant_124 rfl (lv_at hl 0 rfl) ?_
  refine ww_gR (pc := 125) g (k := 3) cl_Ch (pz rfl (by decide)) (by decide) (Or.inl kw_678) (f := 12931) (t := 105) rfl rfl rfl d_Ch_readConstant_125 ?_
  refine ww_aload_n (pc := 128) g.1 d_Ch_readConstant_128 rfl (lv_at hl 0 rfl) ?_
  refine ww_gI (pc := 129) g (k := 10) cl_Ch (pz rfl (by decide)) (by decide) (Or.inl kw_659) (f := 12938) rfl rfl d_Ch_readConstant_129 h fun v129 h => ?_
  refine ww_iload_n (pc := 132) g.1 d_Ch_readConstant_132 rfl (lv_at hl 1 rfl) ?_
  refine ww_i2b (pc := 133) g.1 (v := l1.toInt8.toInt32) d_Ch_readConstant_133 rfl ?_
  refine ww_sb (pc := 134) g (pz rfl (by decide)) rfl rfl d_Ch_readConstant_134 h fun s hs h => ?_
  refine ww_aload_n (pc := 135) g.1 d_Ch_readConstant_135 rfl (lv_at hl 0 rfl) ?_
  refine ww_gR (pc := 136) g (k := 4) cl_Ch (pz rfl (by decide)) (by decide) (Or.inl kw_679) (f := 12932) (t := 106) rfl rfl rfl d_Ch_readConstant_136 ?_
  refine ww_aload_n (pc := 139) g.1 d_Ch_readConstant_139 rfl (lv_at hl 0 rfl) ?_
  refine ww_gI (pc := 140) g (k := 10) cl_Ch (pz rfl (by decide)) (by decide) (Or.inl kw_659) (f := 12938) rfl rfl d_Ch_readConstant_140 h fun v140 h => ?_
  refine ww_lload_n (pc := 143) g.1 d_Ch_readConstant_143 rfl (lv_at hl 2 rfl) ?_
  refine ww_sl (pc := 144) g (pz rfl (by decide)) rfl rfl d_Ch_readConstant_144 h fun s hs h => ?_
  refine ww_aload_n (pc := 145) g.1 d_Ch_readConstant_145 rfl (lv_at hl 0 rfl) ?_
  refine ww_dup (pc := 146) g.1 d_Ch_readConstant_146 rfl ?_
  refine ww_gI (pc := 147) g (k := 10) cl_Ch (pz rfl (by decide)) (by decide) (Or.inl kw_659) (f := 12938) rfl rfl d_Ch_readConstant_147 h fun v147 h => ?_
  refine ww_iconst (pc := 150) g.1 (v := 1) d_Ch_readConstant_150 (by decide) ?_
  refine ww_iadd (pc := 151) g.1 d_Ch_readConstant_151 ?_
  refine ww_pI (pc := 152) g (k := 10) cl_Ch (pz rfl (by decide)) (by decide) (Or.inl kw_659) rfl (f := 12938) rfl rfl rfl rfl d_Ch_readConstant_152 h fun s hs h => ?_
  refine ww_iconst (pc := 155) g.1 (v := 1) d_Ch_readConstant_155 (by decide) ?_
  exact ww_zretH (pc := 156) g h hR (Or.inr rfl) d_Ch_readConstant_156

theorem ct_Ch_readConstant {l : Launch} {P : PP} {q : PL} {s s' : S1} {l1 : Int32} {r : Int32} (h : M_Ch_readConstant l1 s = some (r, s')) : Ct l y_Ch_readConstant b_Ch_readConstant 5 (some .boolean) 2 45 P q s [.ref (q.1 101 0), .int l1] (some (.int r)) q s' := by
  refine ct_of (by decide) (Nat.le_of_ble_eq_true rfl) fun X ls eP el g hR hl => ?_
  subst eP
  have hR : Rt X q ((r, s') : Int32 × S1).2 (some (.int ((r, s') : Int32 × S1).1)) := hR
  have hl : lv_has ls 5 [(0, .ref (q.1 101 0)), (1, .int l1)] := hl
  generalize (r, s') = o at h hR
  unfold M_Ch_readConstant at h
  refine ww_lconst (pc := 0) g.1 (v := 0) d_Ch_readConstant_0 (by decide) ?_
  refine ww_lstore_n (pc := 1) (i := 2) g.1 (lv' := [(2, .long 0), (0, .ref (q.1 101 0)), (1, .int l1)]) d_Ch_readConstant_1 rfl hl (by decide) rfl fun ls hl => ?_
  refine ww_iload_n (pc := 2) g.1 d_Ch_readConstant_2 rfl (lv_at hl 2 rfl) ?_
  refine ww_iconst (pc := 3) g.1 (v := 3) d_Ch_readConstant_3 (by decide) ?_
  refine ww_icmp_ne (pc := 4) (tgt := 57) g.1 d_Ch_readConstant_4 (by decide) h (fun c h => ?_) (fun c h => ?_)
  · refine ww_iload_n (pc := 57) g.1 d_Ch_readConstant_57 rfl (lv_at hl 2 rfl) ?_
    refine ww_iconst (pc := 58) g.1 (v := 4) d_Ch_readConstant_58 (by decide) ?_
    refine ww_icmp_ne (pc := 59) (tgt := 124) g.1 d_Ch_readConstant_59 (by decide) h (fun c h => ?_) (fun c h => ?_)
    · exact j_Ch_readConstant_j124 g hR l1 0 s ls (lv_sub hl [1, 2, 0] rfl) h
    · refine ww_aload_n (pc := 62) g.1 d_Ch_readConstant_62 rfl (lv_at hl 1 rfl) ?_
      refine ww_iconst (pc := 63) g.1 (v := 2) d_Ch_readConstant_63 (by decide) ?_
      obtain ⟨v64, s, hc64, h⟩ := oB_of h
      refine ww_callV (pc := 64) (rest := []) g cv_Ch_readNumber (Or.inl kw_680) cl_Ch (pz rfl (by decide)) (ct_Ch_readNumber hc64) ⟨by decide, by decide⟩ rfl hl.1 (Nat.le_of_ble_eq_true rfl) d_Ch_readConstant_64 rfl (?_)
      refine ww_st (st' := [.int v64]) rfl ?_
      refine ww_istore (pc := 67) (i := 4) g.1 (lv' := [(4, .int v64), (2, .long 0), (0, .ref (q.1 101 0)), (1, .int l1)]) d_Ch_readConstant_67 hl (by decide) rfl fun ls hl => ?_
      refine ww_iload (pc := 69) g.1 d_Ch_readConstant_69 (lv_at hl 0 rfl) ?_
      refine ww_if_ge (pc := 71) (tgt := 76) g.1 d_Ch_readConstant_71 (by decide) h (fun c h => ?_) (fun c h => ?_)
      · refine ww_aload_n (pc := 76) g.1 d_Ch_readConstant_76 rfl (lv_at hl 2 rfl) ?_
        refine ww_gI (pc := 77) g (k := 14) cl_Ch (pz rfl (by decide)) (by decide) (Or.inl kw_655) (f := 12942) rfl rfl d_Ch_readConstant_77 h fun v77 h => ?_
        refine ww_iload (pc := 80) g.1 d_Ch_readConstant_80 (lv_at hl 0 rfl) ?_
        refine ww_iadd (pc := 82) g.1 d_Ch_readConstant_82 ?_
        refine ww_aload_n (pc := 83) g.1 d_Ch_readConstant_83 rfl (lv_at hl 2 rfl) ?_
        refine ww_gI (pc := 84) g (k := 13) cl_Ch (pz rfl (by decide)) (by decide) (Or.inl kw_654) (f := 12941) rfl rfl d_Ch_readConstant_84 h fun v84 h => ?_
        refine ww_icmp_le (pc := 87) (tgt := 100) g.1 d_Ch_readConstant_87 (by decide) h (fun c h => ?_) (fun c h => ?_)
        · refine ww_aload_n (pc := 100) g.1 d_Ch_readConstant_100 rfl (lv_at hl 2 rfl) ?_
          refine ww_gI (pc := 101) g (k := 14) cl_Ch (pz rfl (by decide)) (by decide) (Or.inl kw_655) (f := 12942) rfl rfl d_Ch_readConstant_101 h fun v101 h => ?_
          refine ww_i2l (pc := 104) g.1 (v := v101.toInt64) d_Ch_readConstant_104 rfl ?_
          refine ww_bipush (pc := 105) g.1 (v := 16) d_Ch_readConstant_105 (by decide) ?_
          refine ww_lshl (pc := 107) g.1 (v := v101.toInt64 <<< ((16 : Int32).toInt64 &&& 63)) d_Ch_readConstant_107 rfl ?_
          refine ww_iload (pc := 108) g.1 d_Ch_readConstant_108 (lv_at hl 0 rfl) ?_
          refine ww_i2l (pc := 110) g.1 (v := v64.toInt64) d_Ch_readConstant_110 rfl ?_
          refine ww_lor (pc := 111) g.1 d_Ch_readConstant_111 ?_
          refine ww_letl h fun l2_112 h => ?_
          refine ww_lstore_n (pc := 112) (i := 2) g.1 (lv' := [(2, .long l2_112), (4, .int v64), (0, .ref (q.1 101 0)), (1, .int l1)]) d_Ch_readConstant_112 rfl hl (by decide) rfl fun ls hl => ?_
          refine ww_aload_n (pc := 113) g.1 d_Ch_readConstant_113 rfl (lv_at hl 2 rfl) ?_
          refine ww_dup (pc := 114) g.1 d_Ch_readConstant_114 rfl ?_
          refine ww_gI (pc := 115) g (k := 14) cl_Ch (pz rfl (by decide)) (by decide) (Or.inl kw_655) (f := 12942) rfl rfl d_Ch_readConstant_115 h fun v115 h => ?_
          refine ww_iload (pc := 118) g.1 d_Ch_readConstant_118 (lv_at hl 1 rfl) ?_
          refine ww_iadd (pc := 120) g.1 d_Ch_readConstant_120 ?_
          refine ww_pI (pc := 121) g (k := 14) cl_Ch (pz rfl (by decide)) (by decide) (Or.inl kw_655) rfl (f := 12942) rfl rfl rfl rfl d_Ch_readConstant_121 h fun s hs h => ?_
          exact j_Ch_readConstant_j124 g hR l1 l2_112 s ls (lv_sub hl [2, 3, 0] rfl) h
        · refine ww_aload_n (pc := 90) g.1 d_Ch_readConstant_90 rfl (lv_at hl 2 rfl) ?_
          refine ww_iconst (pc := 91) g.1 (v := 1) d_Ch_readConstant_91 (by decide) ?_
          refine ww_aload_n (pc := 92) g.1 d_Ch_readConstant_92 rfl (lv_at hl 2 rfl) ?_
          refine ww_gI (pc := 93) g (k := 14) cl_Ch (pz rfl (by decide)) (by decide) (Or.inl kw_655) (f := 12942) rfl rfl d_Ch_readConstant_93 h fun v93 h => ?_
          obtain ⟨v96, s, hc96, h⟩ := oB_of h
          refine ww_callV (pc := 96) (rest := []) g cv_Ch_refuse (Or.inl kw_671) cl_Ch (pz rfl (by decide)) (ct_Ch_refuse hc96) ⟨by decide, by decide⟩ rfl hl.1 (Nat.le_of_ble_eq_true rfl) d_Ch_readConstant_96 rfl (?_)
          refine ww_st (st' := [.int v96]) rfl ?_
          refine ww_ok h fun cz h => ?_
          exact ww_zretH (pc := 99) g h hR cz d_Ch_readConstant_99
      · refine ww_iconst (pc := 74) g.1 (v := 0) d_Ch_readConstant_74 (by decide) ?_
        exact ww_zretH (pc := 75) g h hR (Or.inl rfl) d_Ch_readConstant_75
  · refine ww_aload_n (pc := 7) g.1 d_Ch_readConstant_7 rfl (lv_at hl 1 rfl) ?_
    refine ww_gI (pc := 8) g (k := 14) cl_Ch (pz rfl (by decide)) (by decide) (Or.inl kw_655) (f := 12942) rfl rfl d_Ch_readConstant_8 h fun v8 h => ?_
    refine ww_bipush (pc := 11) g.1 (v := 8) d_Ch_readConstant_11 (by decide) ?_
    refine ww_iadd (pc := 13) g.1 d_Ch_readConstant_13 ?_
    refine ww_aload_n (pc := 14) g.1 d_Ch_readConstant_14 rfl (lv_at hl 1 rfl) ?_
    refine ww_gI (pc := 15) g (k := 13) cl_Ch (pz rfl (by decide)) (by decide) (Or.inl kw_654) (f := 12941) rfl rfl d_Ch_readConstant_15 h fun v15 h => ?_
    refine ww_icmp_le (pc := 18) (tgt := 31) g.1 d_Ch_readConstant_18 (by decide) h (fun c h => ?_) (fun c h => ?_)
    · refine ww_aload_n (pc := 31) g.1 d_Ch_readConstant_31 rfl (lv_at hl 1 rfl) ?_
      refine ww_iconst (pc := 32) g.1 (v := 4) d_Ch_readConstant_32 (by decide) ?_
      obtain ⟨v33, s, hc33, h⟩ := oB_of h
      refine ww_callV (pc := 33) (rest := []) g cv_Ch_readNumber (Or.inl kw_680) cl_Ch (pz rfl (by decide)) (ct_Ch_readNumber hc33) ⟨by decide, by decide⟩ rfl hl.1 (Nat.le_of_ble_eq_true rfl) d_Ch_readConstant_33 rfl (?_)
      refine ww_st (st' := [.int v33]) rfl ?_
      refine ww_i2l (pc := 36) g.1 (v := v33.toInt64) d_Ch_readConstant_36 rfl ?_
      refine ww_bipush (pc := 37) g.1 (v := 32) d_Ch_readConstant_37 (by decide) ?_
      refine ww_lshl (pc := 39) g.1 (v := v33.toInt64 <<< ((32 : Int32).toInt64 &&& 63)) d_Ch_readConstant_39 rfl ?_
      refine ww_letl h fun l2_40 h => ?_
      refine ww_lstore_n (pc := 40) (i := 2) g.1 (lv' := [(2, .long l2_40), (0, .ref (q.1 101 0)), (1, .int l1)]) d_Ch_readConstant_40 rfl hl (by decide) rfl fun ls hl => ?_
      refine ww_lload_n (pc := 41) g.1 d_Ch_readConstant_41 rfl (lv_at hl 0 rfl) ?_
      refine ww_aload_n (pc := 42) g.1 d_Ch_readConstant_42 rfl (lv_at hl 1 rfl) ?_
      refine ww_iconst (pc := 43) g.1 (v := 4) d_Ch_readConstant_43 (by decide) ?_
      obtain ⟨v44, s, hc44, h⟩ := oB_of h
      refine ww_callV (pc := 44) (rest := [.long l2_40]) g cv_Ch_readNumber (Or.inl kw_680) cl_Ch (pz rfl (by decide)) (ct_Ch_readNumber hc44) ⟨by decide, by decide⟩ rfl hl.1 (Nat.le_of_ble_eq_true rfl) d_Ch_readConstant_44 rfl (?_)
      refine ww_st (st' := [.int v44, .long l2_40]) rfl ?_
      refine ww_i2l (pc := 47) g.1 (v := v44.toInt64) d_Ch_readConstant_47 rfl ?_
      refine ww_ldc2 (pc := 48) g (v := 4294967295) kw_677 d_Ch_readConstant_48 ?_
      refine ww_land (pc := 51) g.1 d_Ch_readConstant_51 ?_
      refine ww_lor (pc := 52) g.1 d_Ch_readConstant_52 ?_
      refine ww_letl h fun l2_53 h => ?_
      refine ww_lstore_n (pc := 53) (i := 2) g.1 (lv' := [(2, .long l2_53), (0, .ref (q.1 101 0)), (1, .int l1)]) d_Ch_readConstant_53 rfl hl (by decide) rfl fun ls hl => ?_
      refine ww_goto (pc := 54) (tgt := 124) g.1 d_Ch_readConstant_54 (by decide) ?_
      exact j_Ch_readConstant_j124 g hR l1 l2_53 s ls (lv_sub hl [1, 2, 0] rfl) h
    · refine ww_aload_n (pc := 21) g.1 d_Ch_readConstant_21 rfl (lv_at hl 1 rfl) ?_
      refine ww_iconst (pc := 22) g.1 (v := 1) d_Ch_readConstant_22 (by decide) ?_
      refine ww_aload_n (pc := 23) g.1 d_Ch_readConstant_23 rfl (lv_at hl 1 rfl) ?_
      refine ww_gI (pc := 24) g (k := 14) cl_Ch (pz rfl (by decide)) (by decide) (Or.inl kw_655) (f := 12942) rfl rfl d_Ch_readConstant_24 h fun v24 h => ?_
      obtain ⟨v27, s, hc27, h⟩ := oB_of h
      refine ww_callV (pc := 27) (rest := []) g cv_Ch_refuse (Or.inl kw_671) cl_Ch (pz rfl (by decide)) (ct_Ch_refuse hc27) ⟨by decide, by decide⟩ rfl hl.1 (Nat.le_of_ble_eq_true rfl) d_Ch_readConstant_27 rfl (?_)
      refine ww_st (st' := [.int v27]) rfl ?_
      refine ww_ok h fun cz h => ?_
      exact ww_zretH (pc := 30) g h hR cz d_Ch_readConstant_30

abbrev b_Ch_readCode : ByteArray := prog_3_method_13_code
def y_Ch_readCode : MethodName := ⟨R_Ch, "readCode", "(LLuaMachine$Prototype;)Z"⟩
abbrev w_Ch_readCode : List Cond := .code y_Ch_readCode b_Ch_readCode 3 (some .boolean) :: wA
theorem k_Ch_readCode : Cond.code y_Ch_readCode b_Ch_readCode 3 (some .boolean) ∈ wA := kinm (show _ ∈ tables_1 from (List.mem_append_right _ (List.mem_append_right _ (List.mem_append_left _ (List.mem_of_getElem? (l := tables_1_3) (i := 208) (by decide +kernel)))))) (by decide +kernel)
theorem d_Ch_readCode_0 : decode b_Ch_readCode 0 = .ok (.aload_n 1, 1) := by decide +kernel
theorem d_Ch_readCode_1 : decode b_Ch_readCode 1 = .ok (.aload_n 0, 1) := by decide +kernel
theorem d_Ch_readCode_2 : decode b_Ch_readCode 2 = .ok (.getfield 81, 3) := by decide +kernel
theorem d_Ch_readCode_5 : decode b_Ch_readCode 5 = .ok (.putfield 137, 3) := by decide +kernel
theorem d_Ch_readCode_8 : decode b_Ch_readCode 8 = .ok (.aload_n 1, 1) := by decide +kernel
theorem d_Ch_readCode_9 : decode b_Ch_readCode 9 = .ok (.aload_n 0, 1) := by decide +kernel
theorem d_Ch_readCode_10 : decode b_Ch_readCode 10 = .ok (.iconst 2, 1) := by decide +kernel
theorem d_Ch_readCode_11 : decode b_Ch_readCode 11 = .ok (.invokevirtual 104, 3) := by decide +kernel
theorem d_Ch_readCode_14 : decode b_Ch_readCode 14 = .ok (.putfield 140, 3) := by decide +kernel
theorem d_Ch_readCode_17 : decode b_Ch_readCode 17 = .ok (.aload_n 1, 1) := by decide +kernel
theorem d_Ch_readCode_18 : decode b_Ch_readCode 18 = .ok (.getfield 140, 3) := by decide +kernel
theorem d_Ch_readCode_21 : decode b_Ch_readCode 21 = .ok (.ifCond .ge 5, 3) := by decide +kernel
theorem d_Ch_readCode_24 : decode b_Ch_readCode 24 = .ok (.iconst 0, 1) := by decide +kernel
theorem d_Ch_readCode_25 : decode b_Ch_readCode 25 = .ok (.ireturn, 1) := by decide +kernel
theorem d_Ch_readCode_26 : decode b_Ch_readCode 26 = .ok (.aload_n 1, 1) := by decide +kernel
theorem d_Ch_readCode_27 : decode b_Ch_readCode 27 = .ok (.getfield 140, 3) := by decide +kernel
theorem d_Ch_readCode_30 : decode b_Ch_readCode 30 = .ok (.ifCond .ne 15, 3) := by decide +kernel
theorem d_Ch_readCode_33 : decode b_Ch_readCode 33 = .ok (.aload_n 0, 1) := by decide +kernel
theorem d_Ch_readCode_34 : decode b_Ch_readCode 34 = .ok (.iconst 2, 1) := by decide +kernel
theorem d_Ch_readCode_35 : decode b_Ch_readCode 35 = .ok (.aload_n 0, 1) := by decide +kernel
theorem d_Ch_readCode_36 : decode b_Ch_readCode 36 = .ok (.getfield 57, 3) := by decide +kernel
theorem d_Ch_readCode_39 : decode b_Ch_readCode 39 = .ok (.iconst 2, 1) := by decide +kernel
theorem d_Ch_readCode_40 : decode b_Ch_readCode 40 = .ok (.isub, 1) := by decide +kernel
theorem d_Ch_readCode_41 : decode b_Ch_readCode 41 = .ok (.invokevirtual 63, 3) := by decide +kernel
theorem d_Ch_readCode_44 : decode b_Ch_readCode 44 = .ok (.ireturn, 1) := by decide +kernel
theorem d_Ch_readCode_45 : decode b_Ch_readCode 45 = .ok (.aload_n 1, 1) := by decide +kernel
theorem d_Ch_readCode_46 : decode b_Ch_readCode 46 = .ok (.aload_n 0, 1) := by decide +kernel
theorem d_Ch_readCode_47 : decode b_Ch_readCode 47 = .ok (.getfield 57, 3) := by decide +kernel
theorem d_Ch_readCode_50 : decode b_Ch_readCode 50 = .ok (.putfield 143, 3) := by decide +kernel
theorem d_Ch_readCode_53 : decode b_Ch_readCode 53 = .ok (.iconst 0, 1) := by decide +kernel
theorem d_Ch_readCode_54 : decode b_Ch_readCode 54 = .ok (.istore_n 2, 1) := by decide +kernel
theorem d_Ch_readCode_55 : decode b_Ch_readCode 55 = .ok (.iload_n 2, 1) := by decide +kernel
theorem d_Ch_readCode_56 : decode b_Ch_readCode 56 = .ok (.aload_n 1, 1) := by decide +kernel
theorem d_Ch_readCode_57 : decode b_Ch_readCode 57 = .ok (.getfield 140, 3) := by decide +kernel
theorem d_Ch_readCode_60 : decode b_Ch_readCode 60 = .ok (.if_icmp .ge 81, 3) := by decide +kernel
theorem d_Ch_readCode_63 : decode b_Ch_readCode 63 = .ok (.aload_n 0, 1) := by decide +kernel
theorem d_Ch_readCode_64 : decode b_Ch_readCode 64 = .ok (.getfield 57, 3) := by decide +kernel
theorem d_Ch_readCode_67 : decode b_Ch_readCode 67 = .ok (.iconst 4, 1) := by decide +kernel
theorem d_Ch_readCode_68 : decode b_Ch_readCode 68 = .ok (.iadd, 1) := by decide +kernel
theorem d_Ch_readCode_69 : decode b_Ch_readCode 69 = .ok (.aload_n 0, 1) := by decide +kernel
theorem d_Ch_readCode_70 : decode b_Ch_readCode 70 = .ok (.getfield 60, 3) := by decide +kernel
theorem d_Ch_readCode_73 : decode b_Ch_readCode 73 = .ok (.if_icmp .le 13, 3) := by decide +kernel
theorem d_Ch_readCode_76 : decode b_Ch_readCode 76 = .ok (.aload_n 0, 1) := by decide +kernel
theorem d_Ch_readCode_77 : decode b_Ch_readCode 77 = .ok (.iconst 1, 1) := by decide +kernel
theorem d_Ch_readCode_78 : decode b_Ch_readCode 78 = .ok (.aload_n 0, 1) := by decide +kernel
theorem d_Ch_readCode_79 : decode b_Ch_readCode 79 = .ok (.getfield 57, 3) := by decide +kernel
theorem d_Ch_readCode_82 : decode b_Ch_readCode 82 = .ok (.invokevirtual 63, 3) := by decide +kernel
theorem d_Ch_readCode_85 : decode b_Ch_readCode 85 = .ok (.ireturn, 1) := by decide +kernel
theorem d_Ch_readCode_86 : decode b_Ch_readCode 86 = .ok (.aload_n 0, 1) := by decide +kernel
theorem d_Ch_readCode_87 : decode b_Ch_readCode 87 = .ok (.getfield 78, 3) := by decide +kernel
theorem d_Ch_readCode_90 : decode b_Ch_readCode 90 = .ok (.aload_n 0, 1) := by decide +kernel
theorem d_Ch_readCode_91 : decode b_Ch_readCode 91 = .ok (.getfield 81, 3) := by decide +kernel
theorem d_Ch_readCode_94 : decode b_Ch_readCode 94 = .ok (.iadd, 1) := by decide +kernel
theorem d_Ch_readCode_95 : decode b_Ch_readCode 95 = .ok (.sipush 20000, 3) := by decide +kernel
theorem d_Ch_readCode_98 : decode b_Ch_readCode 98 = .ok (.if_icmp .lt 13, 3) := by decide +kernel
theorem d_Ch_readCode_101 : decode b_Ch_readCode 101 = .ok (.aload_n 0, 1) := by decide +kernel
theorem d_Ch_readCode_102 : decode b_Ch_readCode 102 = .ok (.iconst 4, 1) := by decide +kernel
theorem d_Ch_readCode_103 : decode b_Ch_readCode 103 = .ok (.aload_n 0, 1) := by decide +kernel
theorem d_Ch_readCode_104 : decode b_Ch_readCode 104 = .ok (.getfield 57, 3) := by decide +kernel
theorem d_Ch_readCode_107 : decode b_Ch_readCode 107 = .ok (.invokevirtual 63, 3) := by decide +kernel
theorem d_Ch_readCode_110 : decode b_Ch_readCode 110 = .ok (.ireturn, 1) := by decide +kernel
theorem d_Ch_readCode_111 : decode b_Ch_readCode 111 = .ok (.aload_n 0, 1) := by decide +kernel
theorem d_Ch_readCode_112 : decode b_Ch_readCode 112 = .ok (.getfield 21, 3) := by decide +kernel
theorem d_Ch_readCode_115 : decode b_Ch_readCode 115 = .ok (.aload_n 0, 1) := by decide +kernel
theorem d_Ch_readCode_116 : decode b_Ch_readCode 116 = .ok (.getfield 81, 3) := by decide +kernel
theorem d_Ch_readCode_119 : decode b_Ch_readCode 119 = .ok (.aload_n 0, 1) := by decide +kernel
theorem d_Ch_readCode_120 : decode b_Ch_readCode 120 = .ok (.iconst 4, 1) := by decide +kernel
theorem d_Ch_readCode_121 : decode b_Ch_readCode 121 = .ok (.invokevirtual 104, 3) := by decide +kernel
theorem d_Ch_readCode_124 : decode b_Ch_readCode 124 = .ok (.iastore, 1) := by decide +kernel
theorem d_Ch_readCode_125 : decode b_Ch_readCode 125 = .ok (.aload_n 0, 1) := by decide +kernel
theorem d_Ch_readCode_126 : decode b_Ch_readCode 126 = .ok (.dup, 1) := by decide +kernel
theorem d_Ch_readCode_127 : decode b_Ch_readCode 127 = .ok (.getfield 81, 3) := by decide +kernel
theorem d_Ch_readCode_130 : decode b_Ch_readCode 130 = .ok (.iconst 1, 1) := by decide +kernel
theorem d_Ch_readCode_131 : decode b_Ch_readCode 131 = .ok (.iadd, 1) := by decide +kernel
theorem d_Ch_readCode_132 : decode b_Ch_readCode 132 = .ok (.putfield 81, 3) := by decide +kernel
theorem d_Ch_readCode_135 : decode b_Ch_readCode 135 = .ok (.iinc 2 1, 3) := by decide +kernel
theorem d_Ch_readCode_138 : decode b_Ch_readCode 138 = .ok (.goto (-83), 3) := by decide +kernel
theorem d_Ch_readCode_141 : decode b_Ch_readCode 141 = .ok (.iconst 1, 1) := by decide +kernel
theorem d_Ch_readCode_142 : decode b_Ch_readCode 142 = .ok (.ireturn, 1) := by decide +kernel
theorem kw_683 : Cond.fieldLink R_Ch 137 "LuaMachine$Prototype" "codeStart" "I" ∈ wA := kinm (show _ ∈ tables_1 from (List.mem_append_right _ (List.mem_append_right _ (List.mem_append_left _ (List.mem_of_getElem? (l := tables_1_3) (i := 148) (by decide +kernel)))))) (by decide +kernel)
theorem kw_684 : Cond.fieldLink R_Ch 140 "LuaMachine$Prototype" "instructions" "I" ∈ wA := kinm (show _ ∈ tables_1 from (List.mem_append_right _ (List.mem_append_right _ (List.mem_append_left _ (List.mem_of_getElem? (l := tables_1_3) (i := 146) (by decide +kernel)))))) (by decide +kernel)
theorem kw_685 : Cond.fieldLink R_Ch 143 "LuaMachine$Prototype" "codePlace" "I" ∈ wA := kinm (show _ ∈ tables_1 from (List.mem_append_right _ (List.mem_append_right _ (List.mem_append_left _ (List.mem_of_getElem? (l := tables_1_3) (i := 149) (by decide +kernel)))))) (by decide +kernel)
theorem kw_686 : Cond.fieldLink R_Ch 21 "LuaMachine$Chunk" "code" "[I" ∈ wA := kinm (show _ ∈ tables_1 from (List.mem_append_left _ (List.mem_of_getElem? (l := tables_1_1) (i := 58) (by decide +kernel)))) (by decide +kernel)
theorem kw_687 : Cond.instanceMethod y_Ch_readCode ∈ wA := kinm (show _ ∈ tables_1 from (List.mem_append_right _ (List.mem_append_right _ (List.mem_append_left _ (List.mem_of_getElem? (l := tables_1_3) (i := 207) (by decide +kernel)))))) (by decide +kernel)
theorem kw_688 : Cond.selects R_Ch y_Ch_readCode y_Ch_readCode ∈ wA := kinp 11 (by decide +kernel) (by decide +kernel)
theorem cv_Ch_readCode : CV y_Ch_readCode b_Ch_readCode 3 (some .boolean) 1 := ⟨kw_687, kw_688, kw_664, k_Ch_readCode, by decide +kernel⟩
theorem lp_Ch_readCode_L55 {X : Cx} {q : PL} (g : Gd X y_Ch_readCode b_Ch_readCode 3 (some .boolean) 2 45 R_Ch) (x : Int32 × Int32) (s : S1) (o : ((Int32 × Int32) ⊕ ((Unit) ⊕ (Unit) ⊕ (Unit))) × S1) (h : M_Ch_readCode_L55 x s = some o) (hR : (Sum.elim (fun y : Int32 × Int32 => ∀ ls : Array Slot, (prs o.2 144 y.1) → lv_has ls 3 [(0, .ref (q.1 101 0)), (1, .ref (q.1 144 y.1)), (2, .int y.2)] → WW X q o.2 55 ls []) (Sum.elim (fun y : Unit => ∀ ls : Array Slot, lv_has ls 3 [(0, .ref (q.1 101 0))] → WW X q o.2 76 ls []) (Sum.elim (fun y : Unit => ∀ ls : Array Slot, lv_has ls 3 [(0, .ref (q.1 101 0))] → WW X q o.2 101 ls []) (fun y : Unit => ∀ ls : Array Slot, lv_has ls 3 [] → WW X q o.2 141 ls []))) o.1)) : ∀ ls : Array Slot, (prs s 144 x.1) → lv_has ls 3 [(0, .ref (q.1 101 0)), (1, .ref (q.1 144 x.1)), (2, .int x.2)] → WW X q s 55 ls [] := by
  intro ls hp0 hl
  unfold M_Ch_readCode_L55 at h
  refine ww_iload_n (pc := 55) g.1 d_Ch_readCode_55 rfl (lv_at hl 2 rfl) ?_
  refine ww_aload_n (pc := 56) g.1 d_Ch_readCode_56 rfl (lv_at hl 1 rfl) ?_
  refine ww_gI (pc := 57) g (k := 7) cl_Pr hp0 (by decide) (Or.inl kw_684) (f := 18439) rfl rfl d_Ch_readCode_57 h fun v57 h => ?_
  refine ww_icmp_ge (pc := 60) (tgt := 141) g.1 d_Ch_readCode_60 (by decide) h (fun c h => ?_) (fun c h => ?_)
  · rw [oR_eq h] at hR
    exact hR ls (lv_sub hl [] rfl)
  · refine ww_aload_n (pc := 63) g.1 d_Ch_readCode_63 rfl (lv_at hl 0 rfl) ?_
    refine ww_gI (pc := 64) g (k := 14) cl_Ch (pz rfl (by decide)) (by decide) (Or.inl kw_655) (f := 12942) rfl rfl d_Ch_readCode_64 h fun v64 h => ?_
    refine ww_iconst (pc := 67) g.1 (v := 4) d_Ch_readCode_67 (by decide) ?_
    refine ww_iadd (pc := 68) g.1 d_Ch_readCode_68 ?_
    refine ww_aload_n (pc := 69) g.1 d_Ch_readCode_69 rfl (lv_at hl 0 rfl) ?_
    refine ww_gI (pc := 70) g (k := 13) cl_Ch (pz rfl (by decide)) (by decide) (Or.inl kw_654) (f := 12941) rfl rfl d_Ch_readCode_70 h fun v70 h => ?_
    refine ww_icmp_le (pc := 73) (tgt := 86) g.1 d_Ch_readCode_73 (by decide) h (fun c h => ?_) (fun c h => ?_)
    · refine ww_aload_n (pc := 86) g.1 d_Ch_readCode_86 rfl (lv_at hl 0 rfl) ?_
      refine ww_gI (pc := 87) g (k := 10) cl_Ch (pz rfl (by decide)) (by decide) (Or.inl kw_659) (f := 12938) rfl rfl d_Ch_readCode_87 h fun v87 h => ?_
      refine ww_aload_n (pc := 90) g.1 d_Ch_readCode_90 rfl (lv_at hl 0 rfl) ?_
      refine ww_gI (pc := 91) g (k := 11) cl_Ch (pz rfl (by decide)) (by decide) (Or.inl kw_660) (f := 12939) rfl rfl d_Ch_readCode_91 h fun v91 h => ?_
      refine ww_iadd (pc := 94) g.1 d_Ch_readCode_94 ?_
      refine ww_sipush (pc := 95) g.1 (v := 20000) d_Ch_readCode_95 (by decide) ?_
      refine ww_icmp_lt (pc := 98) (tgt := 111) g.1 d_Ch_readCode_98 (by decide) h (fun c h => ?_) (fun c h => ?_)
      · refine ww_aload_n (pc := 111) g.1 d_Ch_readCode_111 rfl (lv_at hl 0 rfl) ?_
        refine ww_gR (pc := 112) g (k := 2) cl_Ch (pz rfl (by decide)) (by decide) (Or.inl kw_686) (f := 12930) (t := 104) rfl rfl rfl d_Ch_readCode_112 ?_
        refine ww_aload_n (pc := 115) g.1 d_Ch_readCode_115 rfl (lv_at hl 0 rfl) ?_
        refine ww_gI (pc := 116) g (k := 11) cl_Ch (pz rfl (by decide)) (by decide) (Or.inl kw_660) (f := 12939) rfl rfl d_Ch_readCode_116 h fun v116 h => ?_
        refine ww_aload_n (pc := 119) g.1 d_Ch_readCode_119 rfl (lv_at hl 0 rfl) ?_
        refine ww_iconst (pc := 120) g.1 (v := 4) d_Ch_readCode_120 (by decide) ?_
        refine ww_lo fun dlo => ?_
        obtain ⟨v121, s, hc121, h⟩ := oB_of h
        refine ww_callV (pc := 121) (rest := [.int v116, .ref (q.1 104 0)]) g cv_Ch_readNumber (Or.inl kw_680) cl_Ch (pz rfl (by decide)) (ct_Ch_readNumber hc121) ⟨by decide, by decide⟩ rfl hl.1 (Nat.le_of_ble_eq_true rfl) d_Ch_readCode_121 rfl (?_)
        refine ww_st (st' := [.int v121, .int v116, .ref (q.1 104 0)]) rfl ?_
        refine ww_hi fun dhi => ?_
        have hp0 : prs s 144 x.1 := dhi _ _ hp0.2.1 hp0.2.2 (dlo _ _ hp0)
        refine ww_si (pc := 124) g (pz rfl (by decide)) rfl rfl d_Ch_readCode_124 h fun s hs h => ?_
        have hp0 : prs s 144 x.1 := hs ▸ hp0
        refine ww_aload_n (pc := 125) g.1 d_Ch_readCode_125 rfl (lv_at hl 0 rfl) ?_
        refine ww_dup (pc := 126) g.1 d_Ch_readCode_126 rfl ?_
        refine ww_gI (pc := 127) g (k := 11) cl_Ch (pz rfl (by decide)) (by decide) (Or.inl kw_660) (f := 12939) rfl rfl d_Ch_readCode_127 h fun v127 h => ?_
        refine ww_iconst (pc := 130) g.1 (v := 1) d_Ch_readCode_130 (by decide) ?_
        refine ww_iadd (pc := 131) g.1 d_Ch_readCode_131 ?_
        refine ww_pI (pc := 132) g (k := 11) cl_Ch (pz rfl (by decide)) (by decide) (Or.inl kw_660) rfl (f := 12939) rfl rfl rfl rfl d_Ch_readCode_132 h fun s hs h => ?_
        have hp0 : prs s 144 x.1 := prs_kI (r := 101) (k := 11) (by decide) hs hp0
        refine ww_iinc (pc := 135) g.1 (v := x.2 + 1) (lv' := [(2, .int (x.2 + 1)), (0, .ref (q.1 101 0)), (1, .ref (q.1 144 x.1))]) d_Ch_readCode_135 hl (k := 2) rfl (by rfl) (by decide) rfl fun ls hl => ?_
        refine ww_goto (pc := 138) (tgt := 55) g.1 d_Ch_readCode_138 (by decide) ?_
        rw [oR_eq h] at hR
        exact hR ls hp0 (lv_sub hl [1, 2, 0] rfl)
      · rw [oR_eq h] at hR
        exact hR ls (lv_sub hl [0] rfl)
    · rw [oR_eq h] at hR
      exact hR ls (lv_sub hl [0] rfl)

theorem ct_Ch_readCode {l : Launch} {P : PP} {q : PL} {s s' : S1} {l1 : Int32} (hp0 : prs s 144 l1) {r : Int32} (h : M_Ch_readCode l1 s = some (r, s')) : Ct l y_Ch_readCode b_Ch_readCode 3 (some .boolean) 2 45 P q s [.ref (q.1 101 0), .ref (q.1 144 l1)] (some (.int r)) q s' := by
  refine ct_of (by decide) (Nat.le_of_ble_eq_true rfl) fun X ls eP el g hR hl => ?_
  subst eP
  have hR : Rt X q ((r, s') : Int32 × S1).2 (some (.int ((r, s') : Int32 × S1).1)) := hR
  have hl : lv_has ls 3 [(0, .ref (q.1 101 0)), (1, .ref (q.1 144 l1))] := hl
  generalize (r, s') = o at h hR
  unfold M_Ch_readCode at h
  refine ww_aload_n (pc := 0) g.1 d_Ch_readCode_0 rfl (lv_at hl 1 rfl) ?_
  refine ww_aload_n (pc := 1) g.1 d_Ch_readCode_1 rfl (lv_at hl 0 rfl) ?_
  refine ww_gI (pc := 2) g (k := 11) cl_Ch (pz rfl (by decide)) (by decide) (Or.inl kw_660) (f := 12939) rfl rfl d_Ch_readCode_2 h fun v2 h => ?_
  refine ww_pI (pc := 5) g (k := 8) cl_Pr hp0 (by decide) (Or.inl kw_683) rfl (f := 18440) rfl rfl rfl rfl d_Ch_readCode_5 h fun s hs h => ?_
  have hp0 : prs s 144 l1 := prs_kI (r := 144) (k := 8) (by decide) hs hp0
  refine ww_aload_n (pc := 8) g.1 d_Ch_readCode_8 rfl (lv_at hl 1 rfl) ?_
  refine ww_aload_n (pc := 9) g.1 d_Ch_readCode_9 rfl (lv_at hl 0 rfl) ?_
  refine ww_iconst (pc := 10) g.1 (v := 2) d_Ch_readCode_10 (by decide) ?_
  refine ww_lo fun dlo => ?_
  obtain ⟨v11, s, hc11, h⟩ := oB_of h
  refine ww_callV (pc := 11) (rest := [.ref (q.1 144 l1)]) g cv_Ch_readNumber (Or.inl kw_680) cl_Ch (pz rfl (by decide)) (ct_Ch_readNumber hc11) ⟨by decide, by decide⟩ rfl hl.1 (Nat.le_of_ble_eq_true rfl) d_Ch_readCode_11 rfl (?_)
  refine ww_st (st' := [.int v11, .ref (q.1 144 l1)]) rfl ?_
  refine ww_hi fun dhi => ?_
  have hp0 : prs s 144 l1 := dhi _ _ hp0.2.1 hp0.2.2 (dlo _ _ hp0)
  refine ww_pI (pc := 14) g (k := 7) cl_Pr hp0 (by decide) (Or.inl kw_684) rfl (f := 18439) rfl rfl rfl rfl d_Ch_readCode_14 h fun s hs h => ?_
  have hp0 : prs s 144 l1 := prs_kI (r := 144) (k := 7) (by decide) hs hp0
  refine ww_aload_n (pc := 17) g.1 d_Ch_readCode_17 rfl (lv_at hl 1 rfl) ?_
  refine ww_gI (pc := 18) g (k := 7) cl_Pr hp0 (by decide) (Or.inl kw_684) (f := 18439) rfl rfl d_Ch_readCode_18 h fun v18 h => ?_
  refine ww_if_ge (pc := 21) (tgt := 26) g.1 d_Ch_readCode_21 (by decide) h (fun c h => ?_) (fun c h => ?_)
  · refine ww_aload_n (pc := 26) g.1 d_Ch_readCode_26 rfl (lv_at hl 1 rfl) ?_
    refine ww_gI (pc := 27) g (k := 7) cl_Pr hp0 (by decide) (Or.inl kw_684) (f := 18439) rfl rfl d_Ch_readCode_27 h fun v27 h => ?_
    refine ww_if_ne (pc := 30) (tgt := 45) g.1 d_Ch_readCode_30 (by decide) h (fun c h => ?_) (fun c h => ?_)
    · refine ww_aload_n (pc := 45) g.1 d_Ch_readCode_45 rfl (lv_at hl 1 rfl) ?_
      refine ww_aload_n (pc := 46) g.1 d_Ch_readCode_46 rfl (lv_at hl 0 rfl) ?_
      refine ww_gI (pc := 47) g (k := 14) cl_Ch (pz rfl (by decide)) (by decide) (Or.inl kw_655) (f := 12942) rfl rfl d_Ch_readCode_47 h fun v47 h => ?_
      refine ww_pI (pc := 50) g (k := 9) cl_Pr hp0 (by decide) (Or.inl kw_685) rfl (f := 18441) rfl rfl rfl rfl d_Ch_readCode_50 h fun s hs h => ?_
      have hp0 : prs s 144 l1 := prs_kI (r := 144) (k := 9) (by decide) hs hp0
      refine ww_iconst (pc := 53) g.1 (v := 0) d_Ch_readCode_53 (by decide) ?_
      refine ww_istore_n (pc := 54) (i := 2) g.1 (lv' := [(2, .int 0), (0, .ref (q.1 101 0)), (1, .ref (q.1 144 l1))]) d_Ch_readCode_54 rfl hl (by decide) rfl fun ls hl => ?_
      obtain ⟨e55, s1, hw, h⟩ := oB_of h
      refine oW_rule (Wh := fun (x : Int32 × Int32) (s : S1) => ∀ ls : Array Slot, (prs s 144 x.1) → lv_has ls 3 [(0, .ref (q.1 101 0)), (1, .ref (q.1 144 x.1)), (2, .int x.2)] → WW X q s 55 ls []) (We := fun (e : (Unit) ⊕ (Unit) ⊕ (Unit)) (s : S1) => (Sum.elim (fun y : Unit => ∀ ls : Array Slot, lv_has ls 3 [(0, .ref (q.1 101 0))] → WW X q s 76 ls []) (Sum.elim (fun y : Unit => ∀ ls : Array Slot, lv_has ls 3 [(0, .ref (q.1 101 0))] → WW X q s 101 ls []) (fun y : Unit => ∀ ls : Array Slot, lv_has ls 3 [] → WW X q s 141 ls []))) e) (fun x s o hb hc => lp_Ch_readCode_L55 (q := q) g x s o hb hc) hw ?_ ls hp0 (lv_sub hl [1, 2, 0] rfl)
      clear hw hl
      clear ls
      generalize s1 = s at h ⊢
      rcases e55 with y55_76 | y55_101 | y55_141
      · intro ls hl
        dsimp only [Sum.elim_inl, Sum.elim_inr] at h
        refine ww_aload_n (pc := 76) g.1 d_Ch_readCode_76 rfl (lv_at hl 0 rfl) ?_
        refine ww_iconst (pc := 77) g.1 (v := 1) d_Ch_readCode_77 (by decide) ?_
        refine ww_aload_n (pc := 78) g.1 d_Ch_readCode_78 rfl (lv_at hl 0 rfl) ?_
        refine ww_gI (pc := 79) g (k := 14) cl_Ch (pz rfl (by decide)) (by decide) (Or.inl kw_655) (f := 12942) rfl rfl d_Ch_readCode_79 h fun v79 h => ?_
        obtain ⟨v82, s, hc82, h⟩ := oB_of h
        refine ww_callV (pc := 82) (rest := []) g cv_Ch_refuse (Or.inl kw_671) cl_Ch (pz rfl (by decide)) (ct_Ch_refuse hc82) ⟨by decide, by decide⟩ rfl hl.1 (Nat.le_of_ble_eq_true rfl) d_Ch_readCode_82 rfl (?_)
        refine ww_st (st' := [.int v82]) rfl ?_
        refine ww_ok h fun cz h => ?_
        exact ww_zretH (pc := 85) g h hR cz d_Ch_readCode_85
      · intro ls hl
        dsimp only [Sum.elim_inl, Sum.elim_inr] at h
        refine ww_aload_n (pc := 101) g.1 d_Ch_readCode_101 rfl (lv_at hl 0 rfl) ?_
        refine ww_iconst (pc := 102) g.1 (v := 4) d_Ch_readCode_102 (by decide) ?_
        refine ww_aload_n (pc := 103) g.1 d_Ch_readCode_103 rfl (lv_at hl 0 rfl) ?_
        refine ww_gI (pc := 104) g (k := 14) cl_Ch (pz rfl (by decide)) (by decide) (Or.inl kw_655) (f := 12942) rfl rfl d_Ch_readCode_104 h fun v104 h => ?_
        obtain ⟨v107, s, hc107, h⟩ := oB_of h
        refine ww_callV (pc := 107) (rest := []) g cv_Ch_refuse (Or.inl kw_671) cl_Ch (pz rfl (by decide)) (ct_Ch_refuse hc107) ⟨by decide, by decide⟩ rfl hl.1 (Nat.le_of_ble_eq_true rfl) d_Ch_readCode_107 rfl (?_)
        refine ww_st (st' := [.int v107]) rfl ?_
        refine ww_ok h fun cz h => ?_
        exact ww_zretH (pc := 110) g h hR cz d_Ch_readCode_110
      · intro ls hl
        dsimp only [Sum.elim_inl, Sum.elim_inr] at h
        refine ww_iconst (pc := 141) g.1 (v := 1) d_Ch_readCode_141 (by decide) ?_
        exact ww_zretH (pc := 142) g h hR (Or.inr rfl) d_Ch_readCode_142
    · refine ww_aload_n (pc := 33) g.1 d_Ch_readCode_33 rfl (lv_at hl 0 rfl) ?_
      refine ww_iconst (pc := 34) g.1 (v := 2) d_Ch_readCode_34 (by decide) ?_
      refine ww_aload_n (pc := 35) g.1 d_Ch_readCode_35 rfl (lv_at hl 0 rfl) ?_
      refine ww_gI (pc := 36) g (k := 14) cl_Ch (pz rfl (by decide)) (by decide) (Or.inl kw_655) (f := 12942) rfl rfl d_Ch_readCode_36 h fun v36 h => ?_
      refine ww_iconst (pc := 39) g.1 (v := 2) d_Ch_readCode_39 (by decide) ?_
      refine ww_isub (pc := 40) g.1 d_Ch_readCode_40 ?_
      refine ww_lo fun dlo => ?_
      obtain ⟨v41, s, hc41, h⟩ := oB_of h
      refine ww_callV (pc := 41) (rest := []) g cv_Ch_refuse (Or.inl kw_671) cl_Ch (pz rfl (by decide)) (ct_Ch_refuse hc41) ⟨by decide, by decide⟩ rfl hl.1 (Nat.le_of_ble_eq_true rfl) d_Ch_readCode_41 rfl (?_)
      refine ww_st (st' := [.int v41]) rfl ?_
      refine ww_hi fun dhi => ?_
      have hp0 : prs s 144 l1 := dhi _ _ hp0.2.1 hp0.2.2 (dlo _ _ hp0)
      refine ww_ok h fun cz h => ?_
      exact ww_zretH (pc := 44) g h hR cz d_Ch_readCode_44
  · refine ww_iconst (pc := 24) g.1 (v := 0) d_Ch_readCode_24 (by decide) ?_
    exact ww_zretH (pc := 25) g h hR (Or.inl rfl) d_Ch_readCode_25

abbrev b_Ch_listChildren : ByteArray := prog_3_method_15_code
def y_Ch_listChildren : MethodName := ⟨R_Ch, "listChildren", "()V"⟩
abbrev w_Ch_listChildren : List Cond := .code y_Ch_listChildren b_Ch_listChildren 4 none :: wA
theorem k_Ch_listChildren : Cond.code y_Ch_listChildren b_Ch_listChildren 4 none ∈ wA := kinm (show _ ∈ tables_1 from (List.mem_append_right _ (List.mem_append_right _ (List.mem_append_left _ (List.mem_of_getElem? (l := tables_1_3) (i := 216) (by decide +kernel)))))) (by decide +kernel)
theorem d_Ch_listChildren_0 : decode b_Ch_listChildren 0 = .ok (.iconst 0, 1) := by decide +kernel
theorem d_Ch_listChildren_1 : decode b_Ch_listChildren 1 = .ok (.istore_n 1, 1) := by decide +kernel
theorem d_Ch_listChildren_2 : decode b_Ch_listChildren 2 = .ok (.iconst 0, 1) := by decide +kernel
theorem d_Ch_listChildren_3 : decode b_Ch_listChildren 3 = .ok (.istore_n 2, 1) := by decide +kernel
theorem d_Ch_listChildren_4 : decode b_Ch_listChildren 4 = .ok (.iload_n 2, 1) := by decide +kernel
theorem d_Ch_listChildren_5 : decode b_Ch_listChildren 5 = .ok (.aload_n 0, 1) := by decide +kernel
theorem d_Ch_listChildren_6 : decode b_Ch_listChildren 6 = .ok (.getfield 75, 3) := by decide +kernel
theorem d_Ch_listChildren_9 : decode b_Ch_listChildren 9 = .ok (.if_icmp .ge 41, 3) := by decide +kernel
theorem d_Ch_listChildren_12 : decode b_Ch_listChildren 12 = .ok (.aload_n 0, 1) := by decide +kernel
theorem d_Ch_listChildren_13 : decode b_Ch_listChildren 13 = .ok (.getfield 11, 3) := by decide +kernel
theorem d_Ch_listChildren_16 : decode b_Ch_listChildren 16 = .ok (.iload_n 2, 1) := by decide +kernel
theorem d_Ch_listChildren_17 : decode b_Ch_listChildren 17 = .ok (.aaload, 1) := by decide +kernel
theorem d_Ch_listChildren_18 : decode b_Ch_listChildren 18 = .ok (.iload_n 1, 1) := by decide +kernel
theorem d_Ch_listChildren_19 : decode b_Ch_listChildren 19 = .ok (.putfield 153, 3) := by decide +kernel
theorem d_Ch_listChildren_22 : decode b_Ch_listChildren 22 = .ok (.iload_n 1, 1) := by decide +kernel
theorem d_Ch_listChildren_23 : decode b_Ch_listChildren 23 = .ok (.aload_n 0, 1) := by decide +kernel
theorem d_Ch_listChildren_24 : decode b_Ch_listChildren 24 = .ok (.getfield 11, 3) := by decide +kernel
theorem d_Ch_listChildren_27 : decode b_Ch_listChildren 27 = .ok (.iload_n 2, 1) := by decide +kernel
theorem d_Ch_listChildren_28 : decode b_Ch_listChildren 28 = .ok (.aaload, 1) := by decide +kernel
theorem d_Ch_listChildren_29 : decode b_Ch_listChildren 29 = .ok (.getfield 70, 3) := by decide +kernel
theorem d_Ch_listChildren_32 : decode b_Ch_listChildren 32 = .ok (.iadd, 1) := by decide +kernel
theorem d_Ch_listChildren_33 : decode b_Ch_listChildren 33 = .ok (.istore_n 1, 1) := by decide +kernel
theorem d_Ch_listChildren_34 : decode b_Ch_listChildren 34 = .ok (.aload_n 0, 1) := by decide +kernel
theorem d_Ch_listChildren_35 : decode b_Ch_listChildren 35 = .ok (.getfield 11, 3) := by decide +kernel
theorem d_Ch_listChildren_38 : decode b_Ch_listChildren 38 = .ok (.iload_n 2, 1) := by decide +kernel
theorem d_Ch_listChildren_39 : decode b_Ch_listChildren 39 = .ok (.aaload, 1) := by decide +kernel
theorem d_Ch_listChildren_40 : decode b_Ch_listChildren 40 = .ok (.iconst 0, 1) := by decide +kernel
theorem d_Ch_listChildren_41 : decode b_Ch_listChildren 41 = .ok (.putfield 70, 3) := by decide +kernel
theorem d_Ch_listChildren_44 : decode b_Ch_listChildren 44 = .ok (.iinc 2 1, 3) := by decide +kernel
theorem d_Ch_listChildren_47 : decode b_Ch_listChildren 47 = .ok (.goto (-43), 3) := by decide +kernel
theorem d_Ch_listChildren_50 : decode b_Ch_listChildren 50 = .ok (.iconst 1, 1) := by decide +kernel
theorem d_Ch_listChildren_51 : decode b_Ch_listChildren 51 = .ok (.istore_n 2, 1) := by decide +kernel
theorem d_Ch_listChildren_52 : decode b_Ch_listChildren 52 = .ok (.iload_n 2, 1) := by decide +kernel
theorem d_Ch_listChildren_53 : decode b_Ch_listChildren 53 = .ok (.aload_n 0, 1) := by decide +kernel
theorem d_Ch_listChildren_54 : decode b_Ch_listChildren 54 = .ok (.getfield 75, 3) := by decide +kernel
theorem d_Ch_listChildren_57 : decode b_Ch_listChildren 57 = .ok (.if_icmp .ge 49, 3) := by decide +kernel
theorem d_Ch_listChildren_60 : decode b_Ch_listChildren 60 = .ok (.aload_n 0, 1) := by decide +kernel
theorem d_Ch_listChildren_61 : decode b_Ch_listChildren 61 = .ok (.getfield 11, 3) := by decide +kernel
theorem d_Ch_listChildren_64 : decode b_Ch_listChildren 64 = .ok (.aload_n 0, 1) := by decide +kernel
theorem d_Ch_listChildren_65 : decode b_Ch_listChildren 65 = .ok (.getfield 11, 3) := by decide +kernel
theorem d_Ch_listChildren_68 : decode b_Ch_listChildren 68 = .ok (.iload_n 2, 1) := by decide +kernel
theorem d_Ch_listChildren_69 : decode b_Ch_listChildren 69 = .ok (.aaload, 1) := by decide +kernel
theorem d_Ch_listChildren_70 : decode b_Ch_listChildren 70 = .ok (.getfield 88, 3) := by decide +kernel
theorem d_Ch_listChildren_73 : decode b_Ch_listChildren 73 = .ok (.aaload, 1) := by decide +kernel
theorem d_Ch_listChildren_74 : decode b_Ch_listChildren 74 = .ok (.astore_n 3, 1) := by decide +kernel
theorem d_Ch_listChildren_75 : decode b_Ch_listChildren 75 = .ok (.aload_n 0, 1) := by decide +kernel
theorem d_Ch_listChildren_76 : decode b_Ch_listChildren 76 = .ok (.getfield 17, 3) := by decide +kernel
theorem d_Ch_listChildren_79 : decode b_Ch_listChildren 79 = .ok (.aload_n 3, 1) := by decide +kernel
theorem d_Ch_listChildren_80 : decode b_Ch_listChildren 80 = .ok (.getfield 153, 3) := by decide +kernel
theorem d_Ch_listChildren_83 : decode b_Ch_listChildren 83 = .ok (.aload_n 3, 1) := by decide +kernel
theorem d_Ch_listChildren_84 : decode b_Ch_listChildren 84 = .ok (.getfield 70, 3) := by decide +kernel
theorem d_Ch_listChildren_87 : decode b_Ch_listChildren 87 = .ok (.iadd, 1) := by decide +kernel
theorem d_Ch_listChildren_88 : decode b_Ch_listChildren 88 = .ok (.iload_n 2, 1) := by decide +kernel
theorem d_Ch_listChildren_89 : decode b_Ch_listChildren 89 = .ok (.iastore, 1) := by decide +kernel
theorem d_Ch_listChildren_90 : decode b_Ch_listChildren 90 = .ok (.aload_n 3, 1) := by decide +kernel
theorem d_Ch_listChildren_91 : decode b_Ch_listChildren 91 = .ok (.dup, 1) := by decide +kernel
theorem d_Ch_listChildren_92 : decode b_Ch_listChildren 92 = .ok (.getfield 70, 3) := by decide +kernel
theorem d_Ch_listChildren_95 : decode b_Ch_listChildren 95 = .ok (.iconst 1, 1) := by decide +kernel
theorem d_Ch_listChildren_96 : decode b_Ch_listChildren 96 = .ok (.iadd, 1) := by decide +kernel
theorem d_Ch_listChildren_97 : decode b_Ch_listChildren 97 = .ok (.putfield 70, 3) := by decide +kernel
theorem d_Ch_listChildren_100 : decode b_Ch_listChildren 100 = .ok (.iinc 2 1, 3) := by decide +kernel
theorem d_Ch_listChildren_103 : decode b_Ch_listChildren 103 = .ok (.goto (-51), 3) := by decide +kernel
theorem d_Ch_listChildren_106 : decode b_Ch_listChildren 106 = .ok (.return_, 1) := by decide +kernel
theorem kw_689 : Cond.fieldLink R_Ch 11 "LuaMachine$Chunk" "prototypes" "[LLuaMachine$Prototype;" ∈ wA := kinm (show _ ∈ tables_1 from (List.mem_append_left _ (List.mem_of_getElem? (l := tables_1_1) (i := 52) (by decide +kernel)))) (by decide +kernel)
theorem kw_690 : Cond.fieldLink R_Ch 153 "LuaMachine$Prototype" "childStart" "I" ∈ wA := kinm (show _ ∈ tables_1 from (List.mem_append_right _ (List.mem_append_right _ (List.mem_append_left _ (List.mem_of_getElem? (l := tables_1_3) (i := 151) (by decide +kernel)))))) (by decide +kernel)
theorem kw_691 : Cond.fieldLink R_Ch 70 "LuaMachine$Prototype" "children" "I" ∈ wA := kinm (show _ ∈ tables_1 from (List.mem_append_right _ (List.mem_append_right _ (List.mem_append_left _ (List.mem_of_getElem? (l := tables_1_3) (i := 150) (by decide +kernel)))))) (by decide +kernel)
theorem kw_692 : Cond.fieldLink R_Ch 88 "LuaMachine$Prototype" "around" "I" ∈ wA := kinm (show _ ∈ tables_1 from (List.mem_append_right _ (List.mem_append_right _ (List.mem_append_left _ (List.mem_of_getElem? (l := tables_1_3) (i := 153) (by decide +kernel)))))) (by decide +kernel)
theorem kw_693 : Cond.fieldLink R_Ch 17 "LuaMachine$Chunk" "children" "[I" ∈ wA := kinm (show _ ∈ tables_1 from (List.mem_append_left _ (List.mem_of_getElem? (l := tables_1_1) (i := 56) (by decide +kernel)))) (by decide +kernel)
theorem kw_694 : Cond.instanceMethod y_Ch_listChildren ∈ wA := kinm (show _ ∈ tables_1 from (List.mem_append_right _ (List.mem_append_right _ (List.mem_append_left _ (List.mem_of_getElem? (l := tables_1_3) (i := 215) (by decide +kernel)))))) (by decide +kernel)
theorem kw_695 : Cond.selects R_Ch y_Ch_listChildren y_Ch_listChildren ∈ wA := kinp 12 (by decide +kernel) (by decide +kernel)
theorem cv_Ch_listChildren : CV y_Ch_listChildren b_Ch_listChildren 4 none 0 := ⟨kw_694, kw_695, kw_664, k_Ch_listChildren, by decide +kernel⟩
theorem lp_Ch_listChildren_L4 {X : Cx} {q : PL} (g : Gd X y_Ch_listChildren b_Ch_listChildren 4 none 0 0 R_Ch) (x : Int32 × Int32) (s : S1) (o : ((Int32 × Int32) ⊕ ((Unit))) × S1) (h : M_Ch_listChildren_L4 x s = some o) (hR : (Sum.elim (fun y : Int32 × Int32 => ∀ ls : Array Slot, lv_has ls 4 [(0, .ref (q.1 101 0)), (1, .int y.1), (2, .int y.2)] → WW X q o.2 4 ls []) (fun y : Unit => ∀ ls : Array Slot, lv_has ls 4 [(0, .ref (q.1 101 0))] → WW X q o.2 50 ls []) o.1)) : ∀ ls : Array Slot, lv_has ls 4 [(0, .ref (q.1 101 0)), (1, .int x.1), (2, .int x.2)] → WW X q s 4 ls [] := by
  intro ls hl
  unfold M_Ch_listChildren_L4 at h
  refine ww_iload_n (pc := 4) g.1 d_Ch_listChildren_4 rfl (lv_at hl 2 rfl) ?_
  refine ww_aload_n (pc := 5) g.1 d_Ch_listChildren_5 rfl (lv_at hl 0 rfl) ?_
  refine ww_gI (pc := 6) g (k := 9) cl_Ch (pz rfl (by decide)) (by decide) (Or.inl kw_658) (f := 12937) rfl rfl d_Ch_listChildren_6 h fun v6 h => ?_
  refine ww_icmp_ge (pc := 9) (tgt := 50) g.1 d_Ch_listChildren_9 (by decide) h (fun c h => ?_) (fun c h => ?_)
  · rw [oR_eq h] at hR
    exact hR ls (lv_sub hl [0] rfl)
  · refine ww_aload_n (pc := 12) g.1 d_Ch_listChildren_12 rfl (lv_at hl 0 rfl) ?_
    refine ww_gR (pc := 13) g (k := 0) cl_Ch (pz rfl (by decide)) (by decide) (Or.inl kw_689) (f := 12928) (t := 102) rfl rfl rfl d_Ch_listChildren_13 ?_
    refine ww_iload_n (pc := 16) g.1 d_Ch_listChildren_16 rfl (lv_at hl 2 rfl) ?_
    refine ww_a8 (pc := 17) g (t := 144) (n := 250) (pz rfl (by decide)) rfl rfl rfl rfl d_Ch_listChildren_17 h fun pa17 h => ?_
    refine ww_iload_n (pc := 18) g.1 d_Ch_listChildren_18 rfl (lv_at hl 1 rfl) ?_
    refine ww_pI (pc := 19) g (k := 11) cl_Pr pa17 (by decide) (Or.inl kw_690) rfl (f := 18443) rfl rfl rfl rfl d_Ch_listChildren_19 h fun s hs h => ?_
    refine ww_iload_n (pc := 22) g.1 d_Ch_listChildren_22 rfl (lv_at hl 1 rfl) ?_
    refine ww_aload_n (pc := 23) g.1 d_Ch_listChildren_23 rfl (lv_at hl 0 rfl) ?_
    refine ww_gR (pc := 24) g (k := 0) cl_Ch (pz rfl (by decide)) (by decide) (Or.inl kw_689) (f := 12928) (t := 102) rfl rfl rfl d_Ch_listChildren_24 ?_
    refine ww_iload_n (pc := 27) g.1 d_Ch_listChildren_27 rfl (lv_at hl 2 rfl) ?_
    refine ww_a8 (pc := 28) g (t := 144) (n := 250) (pz rfl (by decide)) rfl rfl rfl rfl d_Ch_listChildren_28 h fun pa28 h => ?_
    refine ww_gI (pc := 29) g (k := 10) cl_Pr pa28 (by decide) (Or.inl kw_691) (f := 18442) rfl rfl d_Ch_listChildren_29 h fun v29 h => ?_
    refine ww_iadd (pc := 32) g.1 d_Ch_listChildren_32 ?_
    refine ww_leti h fun l1_33 h => ?_
    refine ww_istore_n (pc := 33) (i := 1) g.1 (lv' := [(1, .int l1_33), (0, .ref (q.1 101 0)), (2, .int x.2)]) d_Ch_listChildren_33 rfl hl (by decide) rfl fun ls hl => ?_
    refine ww_aload_n (pc := 34) g.1 d_Ch_listChildren_34 rfl (lv_at hl 1 rfl) ?_
    refine ww_gR (pc := 35) g (k := 0) cl_Ch (pz rfl (by decide)) (by decide) (Or.inl kw_689) (f := 12928) (t := 102) rfl rfl rfl d_Ch_listChildren_35 ?_
    refine ww_iload_n (pc := 38) g.1 d_Ch_listChildren_38 rfl (lv_at hl 2 rfl) ?_
    refine ww_a8 (pc := 39) g (t := 144) (n := 250) (pz rfl (by decide)) rfl rfl rfl rfl d_Ch_listChildren_39 h fun pa39 h => ?_
    refine ww_iconst (pc := 40) g.1 (v := 0) d_Ch_listChildren_40 (by decide) ?_
    refine ww_pI (pc := 41) g (k := 10) cl_Pr pa39 (by decide) (Or.inl kw_691) rfl (f := 18442) rfl rfl rfl rfl d_Ch_listChildren_41 h fun s hs h => ?_
    refine ww_iinc (pc := 44) g.1 (v := x.2 + 1) (lv' := [(2, .int (x.2 + 1)), (1, .int l1_33), (0, .ref (q.1 101 0))]) d_Ch_listChildren_44 hl (k := 2) rfl (by rfl) (by decide) rfl fun ls hl => ?_
    refine ww_goto (pc := 47) (tgt := 4) g.1 d_Ch_listChildren_47 (by decide) ?_
    rw [oR_eq h] at hR
    exact hR ls (lv_sub hl [2, 1, 0] rfl)

theorem lp_Ch_listChildren_L52 {X : Cx} {q : PL} (g : Gd X y_Ch_listChildren b_Ch_listChildren 4 none 0 0 R_Ch) (x : Int32) (s : S1) (o : ((Int32) ⊕ ((Unit))) × S1) (h : M_Ch_listChildren_L52 x s = some o) (hR : (Sum.elim (fun y : Int32 => ∀ ls : Array Slot, lv_has ls 4 [(0, .ref (q.1 101 0)), (2, .int y)] → WW X q o.2 52 ls []) (fun y : Unit => ∀ ls : Array Slot, lv_has ls 4 [] → WW X q o.2 106 ls []) o.1)) : ∀ ls : Array Slot, lv_has ls 4 [(0, .ref (q.1 101 0)), (2, .int x)] → WW X q s 52 ls [] := by
  intro ls hl
  unfold M_Ch_listChildren_L52 at h
  refine ww_iload_n (pc := 52) g.1 d_Ch_listChildren_52 rfl (lv_at hl 1 rfl) ?_
  refine ww_aload_n (pc := 53) g.1 d_Ch_listChildren_53 rfl (lv_at hl 0 rfl) ?_
  refine ww_gI (pc := 54) g (k := 9) cl_Ch (pz rfl (by decide)) (by decide) (Or.inl kw_658) (f := 12937) rfl rfl d_Ch_listChildren_54 h fun v54 h => ?_
  refine ww_icmp_ge (pc := 57) (tgt := 106) g.1 d_Ch_listChildren_57 (by decide) h (fun c h => ?_) (fun c h => ?_)
  · rw [oR_eq h] at hR
    exact hR ls (lv_sub hl [] rfl)
  · refine ww_aload_n (pc := 60) g.1 d_Ch_listChildren_60 rfl (lv_at hl 0 rfl) ?_
    refine ww_gR (pc := 61) g (k := 0) cl_Ch (pz rfl (by decide)) (by decide) (Or.inl kw_689) (f := 12928) (t := 102) rfl rfl rfl d_Ch_listChildren_61 ?_
    refine ww_aload_n (pc := 64) g.1 d_Ch_listChildren_64 rfl (lv_at hl 0 rfl) ?_
    refine ww_gR (pc := 65) g (k := 0) cl_Ch (pz rfl (by decide)) (by decide) (Or.inl kw_689) (f := 12928) (t := 102) rfl rfl rfl d_Ch_listChildren_65 ?_
    refine ww_iload_n (pc := 68) g.1 d_Ch_listChildren_68 rfl (lv_at hl 1 rfl) ?_
    refine ww_a8 (pc := 69) g (t := 144) (n := 250) (pz rfl (by decide)) rfl rfl rfl rfl d_Ch_listChildren_69 h fun pa69 h => ?_
    refine ww_gI (pc := 70) g (k := 12) cl_Pr pa69 (by decide) (Or.inl kw_692) (f := 18444) rfl rfl d_Ch_listChildren_70 h fun v70 h => ?_
    refine ww_a8 (pc := 73) g (t := 144) (n := 250) (pz rfl (by decide)) rfl rfl rfl rfl d_Ch_listChildren_73 h fun pa73 h => ?_
    refine ww_astore_n (pc := 74) (i := 3) g.1 (lv' := [(3, .ref (q.1 144 v70)), (0, .ref (q.1 101 0)), (2, .int x)]) d_Ch_listChildren_74 rfl hl (by decide) rfl fun ls hl => ?_
    refine ww_aload_n (pc := 75) g.1 d_Ch_listChildren_75 rfl (lv_at hl 1 rfl) ?_
    refine ww_gR (pc := 76) g (k := 1) cl_Ch (pz rfl (by decide)) (by decide) (Or.inl kw_693) (f := 12929) (t := 103) rfl rfl rfl d_Ch_listChildren_76 ?_
    refine ww_aload_n (pc := 79) g.1 d_Ch_listChildren_79 rfl (lv_at hl 0 rfl) ?_
    refine ww_gI (pc := 80) g (k := 11) cl_Pr pa73 (by decide) (Or.inl kw_690) (f := 18443) rfl rfl d_Ch_listChildren_80 h fun v80 h => ?_
    refine ww_aload_n (pc := 83) g.1 d_Ch_listChildren_83 rfl (lv_at hl 0 rfl) ?_
    refine ww_gI (pc := 84) g (k := 10) cl_Pr pa73 (by decide) (Or.inl kw_691) (f := 18442) rfl rfl d_Ch_listChildren_84 h fun v84 h => ?_
    refine ww_iadd (pc := 87) g.1 d_Ch_listChildren_87 ?_
    refine ww_iload_n (pc := 88) g.1 d_Ch_listChildren_88 rfl (lv_at hl 2 rfl) ?_
    refine ww_si (pc := 89) g (pz rfl (by decide)) rfl rfl d_Ch_listChildren_89 h fun s hs h => ?_
    have pa73 : prs s 144 v70 := hs ▸ pa73
    refine ww_aload_n (pc := 90) g.1 d_Ch_listChildren_90 rfl (lv_at hl 0 rfl) ?_
    refine ww_dup (pc := 91) g.1 d_Ch_listChildren_91 rfl ?_
    refine ww_gI (pc := 92) g (k := 10) cl_Pr pa73 (by decide) (Or.inl kw_691) (f := 18442) rfl rfl d_Ch_listChildren_92 h fun v92 h => ?_
    refine ww_iconst (pc := 95) g.1 (v := 1) d_Ch_listChildren_95 (by decide) ?_
    refine ww_iadd (pc := 96) g.1 d_Ch_listChildren_96 ?_
    refine ww_pI (pc := 97) g (k := 10) cl_Pr pa73 (by decide) (Or.inl kw_691) rfl (f := 18442) rfl rfl rfl rfl d_Ch_listChildren_97 h fun s hs h => ?_
    have pa73 : prs s 144 v70 := prs_kI (r := 144) (k := 10) (by decide) hs pa73
    refine ww_iinc (pc := 100) g.1 (v := x + 1) (lv' := [(2, .int (x + 1)), (3, .ref (q.1 144 v70)), (0, .ref (q.1 101 0))]) d_Ch_listChildren_100 hl (k := 2) rfl (by rfl) (by decide) rfl fun ls hl => ?_
    refine ww_goto (pc := 103) (tgt := 52) g.1 d_Ch_listChildren_103 (by decide) ?_
    rw [oR_eq h] at hR
    exact hR ls (lv_sub hl [2, 0] rfl)

theorem ct_Ch_listChildren {l : Launch} {P : PP} {q : PL} {s s' : S1}  {r : Unit} (h : M_Ch_listChildren s = some (r, s')) : Ct l y_Ch_listChildren b_Ch_listChildren 4 none 0 0 P q s [.ref (q.1 101 0)] none q s' := by
  refine ct_of (by decide) (Nat.le_of_ble_eq_true rfl) fun X ls eP el g hR hl => ?_
  subst eP
  have hR : Rt X q ((r, s') : Unit × S1).2 none := hR
  have hl : lv_has ls 4 [(0, .ref (q.1 101 0))] := hl
  generalize (r, s') = o at h hR
  unfold M_Ch_listChildren at h
  refine ww_iconst (pc := 0) g.1 (v := 0) d_Ch_listChildren_0 (by decide) ?_
  refine ww_istore_n (pc := 1) (i := 1) g.1 (lv' := [(1, .int 0), (0, .ref (q.1 101 0))]) d_Ch_listChildren_1 rfl hl (by decide) rfl fun ls hl => ?_
  refine ww_iconst (pc := 2) g.1 (v := 0) d_Ch_listChildren_2 (by decide) ?_
  refine ww_istore_n (pc := 3) (i := 2) g.1 (lv' := [(2, .int 0), (1, .int 0), (0, .ref (q.1 101 0))]) d_Ch_listChildren_3 rfl hl (by decide) rfl fun ls hl => ?_
  obtain ⟨e4, s1, hw, h⟩ := oB_of h
  refine oW_rule (Wh := fun (x : Int32 × Int32) (s : S1) => ∀ ls : Array Slot, lv_has ls 4 [(0, .ref (q.1 101 0)), (1, .int x.1), (2, .int x.2)] → WW X q s 4 ls []) (We := fun (e : (Unit)) (s : S1) => ∀ ls : Array Slot, lv_has ls 4 [(0, .ref (q.1 101 0))] → WW X q s 50 ls []) (fun x s o hb hc => lp_Ch_listChildren_L4 (q := q) g x s o hb hc) hw ?_ ls (lv_sub hl [2, 1, 0] rfl)
  clear hw hl
  clear ls
  intro ls hl
  generalize s1 = s at h ⊢
  refine ww_iconst (pc := 50) g.1 (v := 1) d_Ch_listChildren_50 (by decide) ?_
  refine ww_istore_n (pc := 51) (i := 2) g.1 (lv' := [(2, .int 1), (0, .ref (q.1 101 0))]) d_Ch_listChildren_51 rfl hl (by decide) rfl fun ls hl => ?_
  obtain ⟨e52, s1, hw, h⟩ := oB_of h
  refine oW_rule (Wh := fun (x : Int32) (s : S1) => ∀ ls : Array Slot, lv_has ls 4 [(0, .ref (q.1 101 0)), (2, .int x)] → WW X q s 52 ls []) (We := fun (e : (Unit)) (s : S1) => ∀ ls : Array Slot, lv_has ls 4 [] → WW X q s 106 ls []) (fun x s o hb hc => lp_Ch_listChildren_L52 (q := q) g x s o hb hc) hw ?_ ls (lv_sub hl [1, 0] rfl)
  clear hw hl
  clear ls
  intro ls hl
  generalize s1 = s at h ⊢
  exact ww_vretH (pc := 106) g h hR d_Ch_listChildren_106

abbrev b_Ch_isThere : ByteArray := prog_3_method_18_code
def y_Ch_isThere : MethodName := ⟨R_Ch, "isThere", "(CILLuaMachine$Prototype;)Z"⟩
abbrev w_Ch_isThere : List Cond := .code y_Ch_isThere b_Ch_isThere 3 (some .boolean) :: wA
theorem k_Ch_isThere : Cond.code y_Ch_isThere b_Ch_isThere 3 (some .boolean) ∈ wA := kinm (show _ ∈ tables_1 from (List.mem_append_right _ (List.mem_append_right _ (List.mem_append_right _ (List.mem_append_left _ (List.mem_of_getElem? (l := tables_1_4) (i := 27) (by decide +kernel))))))) (by decide +kernel)
theorem d_Ch_isThere_0 : decode b_Ch_isThere 0 = .ok (.iload_n 0, 1) := by decide +kernel
theorem d_Ch_isThere_1 : decode b_Ch_isThere 1 = .ok (.bipush 75, 2) := by decide +kernel
theorem d_Ch_isThere_3 : decode b_Ch_isThere 3 = .ok (.if_icmp .ne 44, 3) := by decide +kernel
theorem d_Ch_isThere_6 : decode b_Ch_isThere 6 = .ok (.iload_n 1, 1) := by decide +kernel
theorem d_Ch_isThere_7 : decode b_Ch_isThere 7 = .ok (.sipush 256, 3) := by decide +kernel
theorem d_Ch_isThere_10 : decode b_Ch_isThere 10 = .ok (.if_icmp .ge 19, 3) := by decide +kernel
theorem d_Ch_isThere_13 : decode b_Ch_isThere 13 = .ok (.iload_n 1, 1) := by decide +kernel
theorem d_Ch_isThere_14 : decode b_Ch_isThere 14 = .ok (.aload_n 2, 1) := by decide +kernel
theorem d_Ch_isThere_15 : decode b_Ch_isThere 15 = .ok (.getfield 113, 3) := by decide +kernel
theorem d_Ch_isThere_18 : decode b_Ch_isThere 18 = .ok (.if_icmp .ge 7, 3) := by decide +kernel
theorem d_Ch_isThere_21 : decode b_Ch_isThere 21 = .ok (.iconst 1, 1) := by decide +kernel
theorem d_Ch_isThere_22 : decode b_Ch_isThere 22 = .ok (.goto 24, 3) := by decide +kernel
theorem d_Ch_isThere_25 : decode b_Ch_isThere 25 = .ok (.iconst 0, 1) := by decide +kernel
theorem d_Ch_isThere_26 : decode b_Ch_isThere 26 = .ok (.goto 20, 3) := by decide +kernel
theorem d_Ch_isThere_29 : decode b_Ch_isThere 29 = .ok (.iload_n 1, 1) := by decide +kernel
theorem d_Ch_isThere_30 : decode b_Ch_isThere 30 = .ok (.sipush 256, 3) := by decide +kernel
theorem d_Ch_isThere_33 : decode b_Ch_isThere 33 = .ok (.isub, 1) := by decide +kernel
theorem d_Ch_isThere_34 : decode b_Ch_isThere 34 = .ok (.aload_n 2, 1) := by decide +kernel
theorem d_Ch_isThere_35 : decode b_Ch_isThere 35 = .ok (.getfield 128, 3) := by decide +kernel
theorem d_Ch_isThere_38 : decode b_Ch_isThere 38 = .ok (.if_icmp .ge 7, 3) := by decide +kernel
theorem d_Ch_isThere_41 : decode b_Ch_isThere 41 = .ok (.iconst 1, 1) := by decide +kernel
theorem d_Ch_isThere_42 : decode b_Ch_isThere 42 = .ok (.goto 4, 3) := by decide +kernel
theorem d_Ch_isThere_45 : decode b_Ch_isThere 45 = .ok (.iconst 0, 1) := by decide +kernel
theorem d_Ch_isThere_46 : decode b_Ch_isThere 46 = .ok (.ireturn, 1) := by decide +kernel
theorem d_Ch_isThere_47 : decode b_Ch_isThere 47 = .ok (.iload_n 0, 1) := by decide +kernel
theorem d_Ch_isThere_48 : decode b_Ch_isThere 48 = .ok (.bipush 82, 2) := by decide +kernel
theorem d_Ch_isThere_50 : decode b_Ch_isThere 50 = .ok (.if_icmp .ne 11, 3) := by decide +kernel
theorem d_Ch_isThere_53 : decode b_Ch_isThere 53 = .ok (.iload_n 1, 1) := by decide +kernel
theorem d_Ch_isThere_54 : decode b_Ch_isThere 54 = .ok (.aload_n 2, 1) := by decide +kernel
theorem d_Ch_isThere_55 : decode b_Ch_isThere 55 = .ok (.getfield 113, 3) := by decide +kernel
theorem d_Ch_isThere_58 : decode b_Ch_isThere 58 = .ok (.if_icmp .lt 34, 3) := by decide +kernel
theorem d_Ch_isThere_61 : decode b_Ch_isThere 61 = .ok (.iload_n 0, 1) := by decide +kernel
theorem d_Ch_isThere_62 : decode b_Ch_isThere 62 = .ok (.bipush 85, 2) := by decide +kernel
theorem d_Ch_isThere_64 : decode b_Ch_isThere 64 = .ok (.if_icmp .ne 11, 3) := by decide +kernel
theorem d_Ch_isThere_67 : decode b_Ch_isThere 67 = .ok (.iload_n 1, 1) := by decide +kernel
theorem d_Ch_isThere_68 : decode b_Ch_isThere 68 = .ok (.aload_n 2, 1) := by decide +kernel
theorem d_Ch_isThere_69 : decode b_Ch_isThere 69 = .ok (.getfield 116, 3) := by decide +kernel
theorem d_Ch_isThere_72 : decode b_Ch_isThere 72 = .ok (.if_icmp .lt 20, 3) := by decide +kernel
theorem d_Ch_isThere_75 : decode b_Ch_isThere 75 = .ok (.iload_n 0, 1) := by decide +kernel
theorem d_Ch_isThere_76 : decode b_Ch_isThere 76 = .ok (.bipush 84, 2) := by decide +kernel
theorem d_Ch_isThere_78 : decode b_Ch_isThere 78 = .ok (.if_icmp .ne 8, 3) := by decide +kernel
theorem d_Ch_isThere_81 : decode b_Ch_isThere 81 = .ok (.iload_n 1, 1) := by decide +kernel
theorem d_Ch_isThere_82 : decode b_Ch_isThere 82 = .ok (.iconst 1, 1) := by decide +kernel
theorem d_Ch_isThere_83 : decode b_Ch_isThere 83 = .ok (.if_icmp .le 9, 3) := by decide +kernel
theorem d_Ch_isThere_86 : decode b_Ch_isThere 86 = .ok (.iload_n 0, 1) := by decide +kernel
theorem d_Ch_isThere_87 : decode b_Ch_isThere 87 = .ok (.bipush 45, 2) := by decide +kernel
theorem d_Ch_isThere_89 : decode b_Ch_isThere 89 = .ok (.if_icmp .ne 7, 3) := by decide +kernel
theorem d_Ch_isThere_92 : decode b_Ch_isThere 92 = .ok (.iconst 1, 1) := by decide +kernel
theorem d_Ch_isThere_93 : decode b_Ch_isThere 93 = .ok (.goto 4, 3) := by decide +kernel
theorem d_Ch_isThere_96 : decode b_Ch_isThere 96 = .ok (.iconst 0, 1) := by decide +kernel
theorem d_Ch_isThere_97 : decode b_Ch_isThere 97 = .ok (.ireturn, 1) := by decide +kernel
theorem kw_696 : Cond.fieldLink R_Ch 128 "LuaMachine$Prototype" "constants" "I" ∈ wA := kinm (show _ ∈ tables_1 from (List.mem_append_right _ (List.mem_append_right _ (List.mem_append_left _ (List.mem_of_getElem? (l := tables_1_3) (i := 143) (by decide +kernel)))))) (by decide +kernel)
theorem kw_697 : Cond.static y_Ch_isThere ∈ wA := kinm (show _ ∈ tables_1 from (List.mem_append_right _ (List.mem_append_right _ (List.mem_append_right _ (List.mem_append_left _ (List.mem_of_getElem? (l := tables_1_4) (i := 26) (by decide +kernel))))))) (by decide +kernel)
theorem cs_Ch_isThere : CS y_Ch_isThere b_Ch_isThere 3 (some .boolean) 3 := ⟨kw_697, kw_664, k_Ch_isThere, by decide +kernel⟩
theorem j_Ch_isThere_j92 {X : Cx} {q : PL} (g : Gd X y_Ch_isThere b_Ch_isThere 3 (some .boolean) 0 0 R_Ch) {o : (Int32) × S1} (hR : Rt X q o.2 (some (.int o.1)))  (s : S1) (ls : Array Slot) (hl : lv_has ls 3 []) (h : M_Ch_isThere_j92 s = some o) : WW X q s 92 ls [] := by
  unfold M_Ch_isThere_j92 at h
  refine ww_iconst (pc := 92) g.1 (v := 1) d_Ch_isThere_92 (by decide) ?_
  refine ww_goto (pc := 93) (tgt := 97) g.1 d_Ch_isThere_93 (by decide) ?_
  exact ww_zretH (pc := 97) g h hR (Or.inr rfl) d_Ch_isThere_97

theorem j_Ch_isThere_j86 {X : Cx} {q : PL} (g : Gd X y_Ch_isThere b_Ch_isThere 3 (some .boolean) 0 0 R_Ch) {o : (Int32) × S1} (hR : Rt X q o.2 (some (.int o.1))) (l0 : Int32) (s : S1) (ls : Array Slot) (hl : lv_has ls 3 [(0, .int l0)]) (h : M_Ch_isThere_j86 l0 s = some o) : WW X q s 86 ls [] := by
  unfold M_Ch_isThere_j86 at h
  refine ww_iload_n (pc := 86) g.1 d_Ch_isThere_86 rfl (lv_at hl 0 rfl) ?_
  refine ww_bipush (pc := 87) g.1 (v := 45) d_Ch_isThere_87 (by decide) ?_
  refine ww_icmp_ne (pc := 89) (tgt := 96) g.1 d_Ch_isThere_89 (by decide) h (fun c h => ?_) (fun c h => ?_)
  · refine ww_iconst (pc := 96) g.1 (v := 0) d_Ch_isThere_96 (by decide) ?_
    exact ww_zretH (pc := 97) g h hR (Or.inl rfl) d_Ch_isThere_97
  · exact j_Ch_isThere_j92 g hR s ls (lv_sub hl [] rfl) h

theorem j_Ch_isThere_j75 {X : Cx} {q : PL} (g : Gd X y_Ch_isThere b_Ch_isThere 3 (some .boolean) 0 0 R_Ch) {o : (Int32) × S1} (hR : Rt X q o.2 (some (.int o.1))) (l0 : Int32) (l1 : Int32) (s : S1) (ls : Array Slot) (hl : lv_has ls 3 [(0, .int l0), (1, .int l1)]) (h : M_Ch_isThere_j75 l0 l1 s = some o) : WW X q s 75 ls [] := by
  unfold M_Ch_isThere_j75 at h
  refine ww_iload_n (pc := 75) g.1 d_Ch_isThere_75 rfl (lv_at hl 0 rfl) ?_
  refine ww_bipush (pc := 76) g.1 (v := 84) d_Ch_isThere_76 (by decide) ?_
  refine ww_icmp_ne (pc := 78) (tgt := 86) g.1 d_Ch_isThere_78 (by decide) h (fun c h => ?_) (fun c h => ?_)
  · exact j_Ch_isThere_j86 g hR l0 s ls (lv_sub hl [0] rfl) h
  · refine ww_iload_n (pc := 81) g.1 d_Ch_isThere_81 rfl (lv_at hl 1 rfl) ?_
    refine ww_iconst (pc := 82) g.1 (v := 1) d_Ch_isThere_82 (by decide) ?_
    refine ww_icmp_le (pc := 83) (tgt := 92) g.1 d_Ch_isThere_83 (by decide) h (fun c h => ?_) (fun c h => ?_)
    · exact j_Ch_isThere_j92 g hR s ls (lv_sub hl [] rfl) h
    · exact j_Ch_isThere_j86 g hR l0 s ls (lv_sub hl [0] rfl) h

theorem j_Ch_isThere_j61 {X : Cx} {q : PL} (g : Gd X y_Ch_isThere b_Ch_isThere 3 (some .boolean) 0 0 R_Ch) {o : (Int32) × S1} (hR : Rt X q o.2 (some (.int o.1))) (l0 : Int32) (l1 : Int32) (l2 : Int32) (s : S1) (hp0 : prs s 144 l2) (ls : Array Slot) (hl : lv_has ls 3 [(0, .int l0), (1, .int l1), (2, .ref (q.1 144 l2))]) (h : M_Ch_isThere_j61 l0 l1 l2 s = some o) : WW X q s 61 ls [] := by
  unfold M_Ch_isThere_j61 at h
  refine ww_iload_n (pc := 61) g.1 d_Ch_isThere_61 rfl (lv_at hl 0 rfl) ?_
  refine ww_bipush (pc := 62) g.1 (v := 85) d_Ch_isThere_62 (by decide) ?_
  refine ww_icmp_ne (pc := 64) (tgt := 75) g.1 d_Ch_isThere_64 (by decide) h (fun c h => ?_) (fun c h => ?_)
  · exact j_Ch_isThere_j75 g hR l0 l1 s ls (lv_sub hl [0, 1] rfl) h
  · refine ww_iload_n (pc := 67) g.1 d_Ch_isThere_67 rfl (lv_at hl 1 rfl) ?_
    refine ww_aload_n (pc := 68) g.1 d_Ch_isThere_68 rfl (lv_at hl 2 rfl) ?_
    refine ww_gI (pc := 69) g (k := 3) cl_Pr hp0 (by decide) (Or.inl kw_674) (f := 18435) rfl rfl d_Ch_isThere_69 h fun v69 h => ?_
    refine ww_icmp_lt (pc := 72) (tgt := 92) g.1 d_Ch_isThere_72 (by decide) h (fun c h => ?_) (fun c h => ?_)
    · exact j_Ch_isThere_j92 g hR s ls (lv_sub hl [] rfl) h
    · exact j_Ch_isThere_j75 g hR l0 l1 s ls (lv_sub hl [0, 1] rfl) h

theorem ct_Ch_isThere {l : Launch} {P : PP} {q : PL} {s s' : S1} {l0 : Int32} {l1 : Int32} {l2 : Int32} (hp0 : prs s 144 l2) {r : Int32} (h : M_Ch_isThere l0 l1 l2 s = some (r, s')) : Ct l y_Ch_isThere b_Ch_isThere 3 (some .boolean) 0 0 P q s [.int l0, .int l1, .ref (q.1 144 l2)] (some (.int r)) q s' := by
  refine ct_of (by decide) (Nat.le_of_ble_eq_true rfl) fun X ls eP el g hR hl => ?_
  subst eP
  have hR : Rt X q ((r, s') : Int32 × S1).2 (some (.int ((r, s') : Int32 × S1).1)) := hR
  have hl : lv_has ls 3 [(0, .int l0), (1, .int l1), (2, .ref (q.1 144 l2))] := hl
  generalize (r, s') = o at h hR
  unfold M_Ch_isThere at h
  refine ww_iload_n (pc := 0) g.1 d_Ch_isThere_0 rfl (lv_at hl 0 rfl) ?_
  refine ww_bipush (pc := 1) g.1 (v := 75) d_Ch_isThere_1 (by decide) ?_
  refine ww_icmp_ne (pc := 3) (tgt := 47) g.1 d_Ch_isThere_3 (by decide) h (fun c h => ?_) (fun c h => ?_)
  · refine ww_iload_n (pc := 47) g.1 d_Ch_isThere_47 rfl (lv_at hl 0 rfl) ?_
    refine ww_bipush (pc := 48) g.1 (v := 82) d_Ch_isThere_48 (by decide) ?_
    refine ww_icmp_ne (pc := 50) (tgt := 61) g.1 d_Ch_isThere_50 (by decide) h (fun c h => ?_) (fun c h => ?_)
    · exact j_Ch_isThere_j61 g hR l0 l1 l2 s hp0 ls (lv_sub hl [0, 1, 2] rfl) h
    · refine ww_iload_n (pc := 53) g.1 d_Ch_isThere_53 rfl (lv_at hl 1 rfl) ?_
      refine ww_aload_n (pc := 54) g.1 d_Ch_isThere_54 rfl (lv_at hl 2 rfl) ?_
      refine ww_gI (pc := 55) g (k := 2) cl_Pr hp0 (by decide) (Or.inl kw_675) (f := 18434) rfl rfl d_Ch_isThere_55 h fun v55 h => ?_
      refine ww_icmp_lt (pc := 58) (tgt := 92) g.1 d_Ch_isThere_58 (by decide) h (fun c h => ?_) (fun c h => ?_)
      · exact j_Ch_isThere_j92 g hR s ls (lv_sub hl [] rfl) h
      · exact j_Ch_isThere_j61 g hR l0 l1 l2 s hp0 ls (lv_sub hl [0, 1, 2] rfl) h
  · refine ww_iload_n (pc := 6) g.1 d_Ch_isThere_6 rfl (lv_at hl 1 rfl) ?_
    refine ww_sipush (pc := 7) g.1 (v := 256) d_Ch_isThere_7 (by decide) ?_
    refine ww_icmp_ge (pc := 10) (tgt := 29) g.1 d_Ch_isThere_10 (by decide) h (fun c h => ?_) (fun c h => ?_)
    · refine ww_iload_n (pc := 29) g.1 d_Ch_isThere_29 rfl (lv_at hl 1 rfl) ?_
      refine ww_sipush (pc := 30) g.1 (v := 256) d_Ch_isThere_30 (by decide) ?_
      refine ww_isub (pc := 33) g.1 d_Ch_isThere_33 ?_
      refine ww_aload_n (pc := 34) g.1 d_Ch_isThere_34 rfl (lv_at hl 2 rfl) ?_
      refine ww_gI (pc := 35) g (k := 5) cl_Pr hp0 (by decide) (Or.inl kw_696) (f := 18437) rfl rfl d_Ch_isThere_35 h fun v35 h => ?_
      refine ww_icmp_ge (pc := 38) (tgt := 45) g.1 d_Ch_isThere_38 (by decide) h (fun c h => ?_) (fun c h => ?_)
      · refine ww_iconst (pc := 45) g.1 (v := 0) d_Ch_isThere_45 (by decide) ?_
        exact ww_zretH (pc := 46) g h hR (Or.inl rfl) d_Ch_isThere_46
      · refine ww_iconst (pc := 41) g.1 (v := 1) d_Ch_isThere_41 (by decide) ?_
        refine ww_goto (pc := 42) (tgt := 46) g.1 d_Ch_isThere_42 (by decide) ?_
        exact ww_zretH (pc := 46) g h hR (Or.inr rfl) d_Ch_isThere_46
    · refine ww_iload_n (pc := 13) g.1 d_Ch_isThere_13 rfl (lv_at hl 1 rfl) ?_
      refine ww_aload_n (pc := 14) g.1 d_Ch_isThere_14 rfl (lv_at hl 2 rfl) ?_
      refine ww_gI (pc := 15) g (k := 2) cl_Pr hp0 (by decide) (Or.inl kw_675) (f := 18434) rfl rfl d_Ch_isThere_15 h fun v15 h => ?_
      refine ww_icmp_ge (pc := 18) (tgt := 25) g.1 d_Ch_isThere_18 (by decide) h (fun c h => ?_) (fun c h => ?_)
      · refine ww_iconst (pc := 25) g.1 (v := 0) d_Ch_isThere_25 (by decide) ?_
        refine ww_goto (pc := 26) (tgt := 46) g.1 d_Ch_isThere_26 (by decide) ?_
        exact ww_zretH (pc := 46) g h hR (Or.inl rfl) d_Ch_isThere_46
      · refine ww_iconst (pc := 21) g.1 (v := 1) d_Ch_isThere_21 (by decide) ?_
        refine ww_goto (pc := 22) (tgt := 46) g.1 d_Ch_isThere_22 (by decide) ?_
        exact ww_zretH (pc := 46) g h hR (Or.inr rfl) d_Ch_isThere_46


