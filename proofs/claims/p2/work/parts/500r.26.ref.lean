abbrev b_Mo_tostring : ByteArray := prog_14_method_108_code
def y_Mo_tostring : MethodName := ⟨R_Mo, "tostring", "()V"⟩
abbrev w_Mo_tostring : List Cond := .code y_Mo_tostring b_Mo_tostring 7 none :: wA
theorem k_Mo_tostring : Cond.code y_Mo_tostring b_Mo_tostring 7 none ∈ wA := kinm (show _ ∈ tables_1 from (List.mem_append_right _ (List.mem_append_right _ (List.mem_append_right _ (List.mem_append_right _ (List.mem_append_right _ (List.mem_append_right _ (List.mem_append_right _ (List.mem_append_right _ (List.mem_append_right _ (List.mem_append_right _ (List.mem_append_right _ (List.mem_append_left _ (List.mem_of_getElem? (l := tables_1_12) (i := 216) (by decide +kernel))))))))))))))) (by decide +kernel)
theorem d_Mo_tostring_0 : decode b_Mo_tostring 0 = .ok (.aload_n 0, 1) := by decide +kernel
theorem d_Mo_tostring_1 : decode b_Mo_tostring 1 = .ok (.iconst 0, 1) := by decide +kernel
theorem d_Mo_tostring_2 : decode b_Mo_tostring 2 = .ok (.invokevirtual 797, 3) := by decide +kernel
theorem d_Mo_tostring_5 : decode b_Mo_tostring 5 = .ok (.istore_n 1, 1) := by decide +kernel
theorem d_Mo_tostring_6 : decode b_Mo_tostring 6 = .ok (.aload_n 0, 1) := by decide +kernel
theorem d_Mo_tostring_7 : decode b_Mo_tostring 7 = .ok (.iconst 0, 1) := by decide +kernel
theorem d_Mo_tostring_8 : decode b_Mo_tostring 8 = .ok (.invokevirtual 807, 3) := by decide +kernel
theorem d_Mo_tostring_11 : decode b_Mo_tostring 11 = .ok (.lstore_n 2, 1) := by decide +kernel
theorem d_Mo_tostring_12 : decode b_Mo_tostring 12 = .ok (.aload_n 0, 1) := by decide +kernel
theorem d_Mo_tostring_13 : decode b_Mo_tostring 13 = .ok (.iload_n 1, 1) := by decide +kernel
theorem d_Mo_tostring_14 : decode b_Mo_tostring 14 = .ok (.lload_n 2, 1) := by decide +kernel
theorem d_Mo_tostring_15 : decode b_Mo_tostring 15 = .ok (.bipush 20, 2) := by decide +kernel
theorem d_Mo_tostring_17 : decode b_Mo_tostring 17 = .ok (.invokevirtual 715, 3) := by decide +kernel
theorem d_Mo_tostring_20 : decode b_Mo_tostring 20 = .ok (.ifCond .eq 68, 3) := by decide +kernel
theorem d_Mo_tostring_23 : decode b_Mo_tostring 23 = .ok (.aload_n 0, 1) := by decide +kernel
theorem d_Mo_tostring_24 : decode b_Mo_tostring 24 = .ok (.getfield 222, 3) := by decide +kernel
theorem d_Mo_tostring_27 : decode b_Mo_tostring 27 = .ok (.istore 4, 2) := by decide +kernel
theorem d_Mo_tostring_29 : decode b_Mo_tostring 29 = .ok (.aload_n 0, 1) := by decide +kernel
theorem d_Mo_tostring_30 : decode b_Mo_tostring 30 = .ok (.getfield 225, 3) := by decide +kernel
theorem d_Mo_tostring_33 : decode b_Mo_tostring 33 = .ok (.lstore 5, 2) := by decide +kernel
theorem d_Mo_tostring_35 : decode b_Mo_tostring 35 = .ok (.aload_n 0, 1) := by decide +kernel
theorem d_Mo_tostring_36 : decode b_Mo_tostring 36 = .ok (.getfield 259, 3) := by decide +kernel
theorem d_Mo_tostring_39 : decode b_Mo_tostring 39 = .ok (.iconst 0, 1) := by decide +kernel
theorem d_Mo_tostring_40 : decode b_Mo_tostring 40 = .ok (.putfield 569, 3) := by decide +kernel
theorem d_Mo_tostring_43 : decode b_Mo_tostring 43 = .ok (.aload_n 0, 1) := by decide +kernel
theorem d_Mo_tostring_44 : decode b_Mo_tostring 44 = .ok (.getfield 259, 3) := by decide +kernel
theorem d_Mo_tostring_47 : decode b_Mo_tostring 47 = .ok (.iload_n 1, 1) := by decide +kernel
theorem d_Mo_tostring_48 : decode b_Mo_tostring 48 = .ok (.lload_n 2, 1) := by decide +kernel
theorem d_Mo_tostring_49 : decode b_Mo_tostring 49 = .ok (.invokevirtual 572, 3) := by decide +kernel
theorem d_Mo_tostring_52 : decode b_Mo_tostring 52 = .ok (.aload_n 0, 1) := by decide +kernel
theorem d_Mo_tostring_53 : decode b_Mo_tostring 53 = .ok (.iconst 4, 1) := by decide +kernel
theorem d_Mo_tostring_54 : decode b_Mo_tostring 54 = .ok (.iconst (-1), 1) := by decide +kernel
theorem d_Mo_tostring_55 : decode b_Mo_tostring 55 = .ok (.invokevirtual 755, 3) := by decide +kernel
theorem d_Mo_tostring_58 : decode b_Mo_tostring 58 = .ok (.ifCond .ne 12, 3) := by decide +kernel
theorem d_Mo_tostring_61 : decode b_Mo_tostring 61 = .ok (.aload_n 0, 1) := by decide +kernel
theorem d_Mo_tostring_62 : decode b_Mo_tostring 62 = .ok (.getfield 259, 3) := by decide +kernel
theorem d_Mo_tostring_65 : decode b_Mo_tostring 65 = .ok (.iconst 0, 1) := by decide +kernel
theorem d_Mo_tostring_66 : decode b_Mo_tostring 66 = .ok (.putfield 569, 3) := by decide +kernel
theorem d_Mo_tostring_69 : decode b_Mo_tostring 69 = .ok (.return_, 1) := by decide +kernel
theorem d_Mo_tostring_70 : decode b_Mo_tostring 70 = .ok (.aload_n 0, 1) := by decide +kernel
theorem d_Mo_tostring_71 : decode b_Mo_tostring 71 = .ok (.iload 4, 2) := by decide +kernel
theorem d_Mo_tostring_73 : decode b_Mo_tostring 73 = .ok (.putfield 253, 3) := by decide +kernel
theorem d_Mo_tostring_76 : decode b_Mo_tostring 76 = .ok (.aload_n 0, 1) := by decide +kernel
theorem d_Mo_tostring_77 : decode b_Mo_tostring 77 = .ok (.lload 5, 2) := by decide +kernel
theorem d_Mo_tostring_79 : decode b_Mo_tostring 79 = .ok (.putfield 256, 3) := by decide +kernel
theorem d_Mo_tostring_82 : decode b_Mo_tostring 82 = .ok (.aload_n 0, 1) := by decide +kernel
theorem d_Mo_tostring_83 : decode b_Mo_tostring 83 = .ok (.iconst 1, 1) := by decide +kernel
theorem d_Mo_tostring_84 : decode b_Mo_tostring 84 = .ok (.putfield 247, 3) := by decide +kernel
theorem d_Mo_tostring_87 : decode b_Mo_tostring 87 = .ok (.return_, 1) := by decide +kernel
theorem d_Mo_tostring_88 : decode b_Mo_tostring 88 = .ok (.iload_n 1, 1) := by decide +kernel
theorem d_Mo_tostring_89 : decode b_Mo_tostring 89 = .ok (.iconst 4, 1) := by decide +kernel
theorem d_Mo_tostring_90 : decode b_Mo_tostring 90 = .ok (.if_icmp .ne 12, 3) := by decide +kernel
theorem d_Mo_tostring_93 : decode b_Mo_tostring 93 = .ok (.aload_n 0, 1) := by decide +kernel
theorem d_Mo_tostring_94 : decode b_Mo_tostring 94 = .ok (.iconst 4, 1) := by decide +kernel
theorem d_Mo_tostring_95 : decode b_Mo_tostring 95 = .ok (.lload_n 2, 1) := by decide +kernel
theorem d_Mo_tostring_96 : decode b_Mo_tostring 96 = .ok (.invokevirtual 804, 3) := by decide +kernel
theorem d_Mo_tostring_99 : decode b_Mo_tostring 99 = .ok (.goto 42, 3) := by decide +kernel
theorem d_Mo_tostring_102 : decode b_Mo_tostring 102 = .ok (.aload_n 0, 1) := by decide +kernel
theorem d_Mo_tostring_103 : decode b_Mo_tostring 103 = .ok (.iconst 0, 1) := by decide +kernel
theorem d_Mo_tostring_104 : decode b_Mo_tostring 104 = .ok (.putfield 431, 3) := by decide +kernel
theorem d_Mo_tostring_107 : decode b_Mo_tostring 107 = .ok (.aload_n 0, 1) := by decide +kernel
theorem d_Mo_tostring_108 : decode b_Mo_tostring 108 = .ok (.iload_n 1, 1) := by decide +kernel
theorem d_Mo_tostring_109 : decode b_Mo_tostring 109 = .ok (.lload_n 2, 1) := by decide +kernel
theorem d_Mo_tostring_110 : decode b_Mo_tostring 110 = .ok (.invokevirtual 902, 3) := by decide +kernel
theorem d_Mo_tostring_113 : decode b_Mo_tostring 113 = .ok (.aload_n 0, 1) := by decide +kernel
theorem d_Mo_tostring_114 : decode b_Mo_tostring 114 = .ok (.aload_n 0, 1) := by decide +kernel
theorem d_Mo_tostring_115 : decode b_Mo_tostring 115 = .ok (.getfield 422, 3) := by decide +kernel
theorem d_Mo_tostring_118 : decode b_Mo_tostring 118 = .ok (.iconst 0, 1) := by decide +kernel
theorem d_Mo_tostring_119 : decode b_Mo_tostring 119 = .ok (.aload_n 0, 1) := by decide +kernel
theorem d_Mo_tostring_120 : decode b_Mo_tostring 120 = .ok (.getfield 431, 3) := by decide +kernel
theorem d_Mo_tostring_123 : decode b_Mo_tostring 123 = .ok (.invokevirtual 655, 3) := by decide +kernel
theorem d_Mo_tostring_126 : decode b_Mo_tostring 126 = .ok (.istore 4, 2) := by decide +kernel
theorem d_Mo_tostring_128 : decode b_Mo_tostring 128 = .ok (.iload 4, 2) := by decide +kernel
theorem d_Mo_tostring_130 : decode b_Mo_tostring 130 = .ok (.ifCond .lt 11, 3) := by decide +kernel
theorem d_Mo_tostring_133 : decode b_Mo_tostring 133 = .ok (.aload_n 0, 1) := by decide +kernel
theorem d_Mo_tostring_134 : decode b_Mo_tostring 134 = .ok (.iconst 4, 1) := by decide +kernel
theorem d_Mo_tostring_135 : decode b_Mo_tostring 135 = .ok (.iload 4, 2) := by decide +kernel
theorem d_Mo_tostring_137 : decode b_Mo_tostring 137 = .ok (.i2l, 1) := by decide +kernel
theorem d_Mo_tostring_138 : decode b_Mo_tostring 138 = .ok (.invokevirtual 804, 3) := by decide +kernel
theorem d_Mo_tostring_141 : decode b_Mo_tostring 141 = .ok (.aload_n 0, 1) := by decide +kernel
theorem d_Mo_tostring_142 : decode b_Mo_tostring 142 = .ok (.getfield 259, 3) := by decide +kernel
theorem d_Mo_tostring_145 : decode b_Mo_tostring 145 = .ok (.iconst 0, 1) := by decide +kernel
theorem d_Mo_tostring_146 : decode b_Mo_tostring 146 = .ok (.putfield 569, 3) := by decide +kernel
theorem d_Mo_tostring_149 : decode b_Mo_tostring 149 = .ok (.return_, 1) := by decide +kernel
theorem kw_542 : Cond.methodLink R_Mo 902 y_Mo_sayValue ∈ wA := kinm (show _ ∈ tables_1 from (List.mem_append_right _ (List.mem_append_right _ (List.mem_append_right _ (List.mem_append_right _ (List.mem_append_right _ (List.mem_append_right _ (List.mem_append_right _ (List.mem_append_right _ (List.mem_append_right _ (List.mem_append_right _ (List.mem_append_right _ (List.mem_append_left _ (List.mem_of_getElem? (l := tables_1_12) (i := 184) (by decide +kernel))))))))))))))) (by decide +kernel)
theorem kw_543 : Cond.instanceMethod y_Mo_tostring ∈ wA := kinm (show _ ∈ tables_1 from (List.mem_append_right _ (List.mem_append_right _ (List.mem_append_right _ (List.mem_append_right _ (List.mem_append_right _ (List.mem_append_right _ (List.mem_append_right _ (List.mem_append_right _ (List.mem_append_right _ (List.mem_append_right _ (List.mem_append_right _ (List.mem_append_left _ (List.mem_of_getElem? (l := tables_1_12) (i := 215) (by decide +kernel))))))))))))))) (by decide +kernel)
theorem kw_544 : Cond.selects R_Mo y_Mo_tostring y_Mo_tostring ∈ wA := kinp 168 (by decide +kernel) (by decide +kernel)
theorem cv_Mo_tostring : CV y_Mo_tostring b_Mo_tostring 7 none 0 := ⟨kw_543, kw_544, kw_17, k_Mo_tostring, by decide +kernel⟩
theorem j_Mo_tostring_j141 {X : Cx} {q : PL} (g : Gd X y_Mo_tostring b_Mo_tostring 7 none 8 195 R_Mo) {o : (Unit) × S1} (hR : Rt X q o.2 none)  (s : S1) (ls : Array Slot) (hl : lv_has ls 7 [(0, .ref (q.1 0 0))]) (h : M_Mo_tostring_j141 s = some o) : WW X q s 141 ls [] := by
  unfold M_Mo_tostring_j141 at h
  refine ww_aload_n (pc := 141) g.1 d_Mo_tostring_141 rfl (lv_at hl 0 rfl) ?_
  refine ww_gR (pc := 142) g (k := 77) cl_Mo (pz rfl (by decide)) (by decide) (Or.inl kw_182) (f := 77) (t := 7) rfl rfl rfl d_Mo_tostring_142 ?_
  refine ww_iconst (pc := 145) g.1 (v := 0) d_Mo_tostring_145 (by decide) ?_
  refine ww_pI (pc := 146) g (k := 2) (cl_Va (Or.inl ⟨by decide, rfl⟩)) (pz rfl (by decide)) (by decide) (Or.inl kw_179) rfl (f := 898) rfl rfl rfl rfl d_Mo_tostring_146 h fun s hs h => ?_
  exact ww_vretH (pc := 149) g h hR d_Mo_tostring_149

theorem ct_Mo_tostring {l : Launch} {P : PP} {q : PL} {s s' : S1}  {r : Unit} (h : M_Mo_tostring s = some (r, s')) : Ct l y_Mo_tostring b_Mo_tostring 7 none 8 195 P q s [.ref (q.1 0 0)] none q s' := by
  refine ct_of (by decide) (Nat.le_of_ble_eq_true rfl) fun X ls eP el g hR hl => ?_
  subst eP
  have hR : Rt X q ((r, s') : Unit × S1).2 none := hR
  have hl : lv_has ls 7 [(0, .ref (q.1 0 0))] := hl
  generalize (r, s') = o at h hR
  unfold M_Mo_tostring at h
  refine ww_aload_n (pc := 0) g.1 d_Mo_tostring_0 rfl (lv_at hl 0 rfl) ?_
  refine ww_iconst (pc := 1) g.1 (v := 0) d_Mo_tostring_1 (by decide) ?_
  obtain ⟨v2, s, hc2, h⟩ := oB_of h
  refine ww_callV (pc := 2) (rest := []) g cv_Mo_ak (Or.inl kw_191) cl_Mo (pz rfl (by decide)) (ct_Mo_ak hc2) ⟨by decide, by decide⟩ rfl hl.1 (Nat.le_of_ble_eq_true rfl) d_Mo_tostring_2 rfl ?_
  refine ww_st (st' := [.int v2]) rfl ?_
  refine ww_istore_n (pc := 5) (i := 1) g.1 (lv' := [(1, .int v2), (0, .ref (q.1 0 0))]) d_Mo_tostring_5 rfl hl (by decide) rfl fun ls hl => ?_
  refine ww_aload_n (pc := 6) g.1 d_Mo_tostring_6 rfl (lv_at hl 1 rfl) ?_
  refine ww_iconst (pc := 7) g.1 (v := 0) d_Mo_tostring_7 (by decide) ?_
  obtain ⟨v8, s, hc8, h⟩ := oB_of h
  refine ww_callV (pc := 8) (rest := []) g cv_Mo_av (Or.inl kw_193) cl_Mo (pz rfl (by decide)) (ct_Mo_av hc8) ⟨by decide, by decide⟩ rfl hl.1 (Nat.le_of_ble_eq_true rfl) d_Mo_tostring_8 rfl ?_
  refine ww_st (st' := [.long v8]) rfl ?_
  refine ww_lstore_n (pc := 11) (i := 2) g.1 (lv' := [(2, .long v8), (1, .int v2), (0, .ref (q.1 0 0))]) d_Mo_tostring_11 rfl hl (by decide) rfl fun ls hl => ?_
  refine ww_aload_n (pc := 12) g.1 d_Mo_tostring_12 rfl (lv_at hl 2 rfl) ?_
  refine ww_iload_n (pc := 13) g.1 d_Mo_tostring_13 rfl (lv_at hl 1 rfl) ?_
  refine ww_lload_n (pc := 14) g.1 d_Mo_tostring_14 rfl (lv_at hl 0 rfl) ?_
  refine ww_bipush (pc := 15) g.1 (v := 20) d_Mo_tostring_15 (by decide) ?_
  obtain ⟨v17, s, hc17, h⟩ := oB_of h
  refine ww_callV (pc := 17) (rest := []) g cv_Mo_meta (Or.inl kw_409) cl_Mo (pz rfl (by decide)) (ct_Mo_meta hc17) ⟨by decide, by decide⟩ rfl hl.1 (Nat.le_of_ble_eq_true rfl) d_Mo_tostring_17 rfl ?_
  refine ww_st (st' := [.int v17]) rfl ?_
  refine ww_if_eq (pc := 20) (tgt := 88) g.1 d_Mo_tostring_20 (by decide) h (fun c h => ?_) (fun c h => ?_)
  · refine ww_iload_n (pc := 88) g.1 d_Mo_tostring_88 rfl (lv_at hl 1 rfl) ?_
    refine ww_iconst (pc := 89) g.1 (v := 4) d_Mo_tostring_89 (by decide) ?_
    refine ww_icmp_ne (pc := 90) (tgt := 102) g.1 d_Mo_tostring_90 (by decide) h (fun c h => ?_) (fun c h => ?_)
    · refine ww_aload_n (pc := 102) g.1 d_Mo_tostring_102 rfl (lv_at hl 2 rfl) ?_
      refine ww_iconst (pc := 103) g.1 (v := 0) d_Mo_tostring_103 (by decide) ?_
      refine ww_pI (pc := 104) g (k := 96) cl_Mo (pz rfl (by decide)) (by decide) (Or.inl kw_168) rfl (f := 96) rfl rfl rfl rfl d_Mo_tostring_104 h fun s hs h => ?_
      refine ww_aload_n (pc := 107) g.1 d_Mo_tostring_107 rfl (lv_at hl 2 rfl) ?_
      refine ww_iload_n (pc := 108) g.1 d_Mo_tostring_108 rfl (lv_at hl 1 rfl) ?_
      refine ww_lload_n (pc := 109) g.1 d_Mo_tostring_109 rfl (lv_at hl 0 rfl) ?_
      obtain ⟨v110, s, hc110, h⟩ := oB_of h
      refine ww_callV (pc := 110) (rest := []) g cv_Mo_sayValue (Or.inl kw_542) cl_Mo (pz rfl (by decide)) (ct_Mo_sayValue hc110) ⟨by decide, by decide⟩ rfl hl.1 (Nat.le_of_ble_eq_true rfl) d_Mo_tostring_110 rfl ?_
      refine ww_st (st' := []) rfl ?_
      refine ww_aload_n (pc := 113) g.1 d_Mo_tostring_113 rfl (lv_at hl 2 rfl) ?_
      refine ww_aload_n (pc := 114) g.1 d_Mo_tostring_114 rfl (lv_at hl 2 rfl) ?_
      refine ww_gR (pc := 115) g (k := 93) cl_Mo (pz rfl (by decide)) (by decide) (Or.inl kw_167) (f := 93) (t := 87) rfl rfl rfl d_Mo_tostring_115 ?_
      refine ww_iconst (pc := 118) g.1 (v := 0) d_Mo_tostring_118 (by decide) ?_
      refine ww_aload_n (pc := 119) g.1 d_Mo_tostring_119 rfl (lv_at hl 2 rfl) ?_
      refine ww_gI (pc := 120) g (k := 96) cl_Mo (pz rfl (by decide)) (by decide) (Or.inl kw_168) (f := 96) rfl rfl d_Mo_tostring_120 h fun v120 h => ?_
      obtain ⟨v123, s, hc123, h⟩ := oB_of h
      refine ww_callV (pc := 123) (rest := []) g cv_Mo_string (Or.inl kw_521) cl_Mo (pz rfl (by decide)) (ct_Mo_string ⟨rfl, by decide, by decide⟩ (pz rfl (by decide)) hc123) ⟨by decide, by decide⟩ rfl hl.1 (Nat.le_of_ble_eq_true rfl) d_Mo_tostring_123 rfl ?_
      refine ww_st (st' := [.int v123]) rfl ?_
      refine ww_istore (pc := 126) (i := 4) g.1 (lv' := [(4, .int v123), (2, .long v8), (1, .int v2), (0, .ref (q.1 0 0))]) d_Mo_tostring_126 hl (by decide) rfl fun ls hl => ?_
      refine ww_iload (pc := 128) g.1 d_Mo_tostring_128 (lv_at hl 0 rfl) ?_
      refine ww_if_lt (pc := 130) (tgt := 141) g.1 d_Mo_tostring_130 (by decide) h (fun c h => ?_) (fun c h => ?_)
      · exact j_Mo_tostring_j141 g hR s ls (lv_sub hl [3] rfl) h
      · refine ww_aload_n (pc := 133) g.1 d_Mo_tostring_133 rfl (lv_at hl 3 rfl) ?_
        refine ww_iconst (pc := 134) g.1 (v := 4) d_Mo_tostring_134 (by decide) ?_
        refine ww_iload (pc := 135) g.1 d_Mo_tostring_135 (lv_at hl 0 rfl) ?_
        refine ww_i2l (pc := 137) g.1 (v := v123.toInt64) d_Mo_tostring_137 rfl ?_
        obtain ⟨v138, s, hc138, h⟩ := oB_of h
        refine ww_callV (pc := 138) (rest := []) g cv_Mo_give (Or.inl kw_212) cl_Mo (pz rfl (by decide)) (ct_Mo_give hc138) ⟨by decide, by decide⟩ rfl hl.1 (Nat.le_of_ble_eq_true rfl) d_Mo_tostring_138 rfl ?_
        refine ww_st (st' := []) rfl ?_
        exact j_Mo_tostring_j141 g hR s ls (lv_sub hl [3] rfl) h
    · refine ww_aload_n (pc := 93) g.1 d_Mo_tostring_93 rfl (lv_at hl 2 rfl) ?_
      refine ww_iconst (pc := 94) g.1 (v := 4) d_Mo_tostring_94 (by decide) ?_
      refine ww_lload_n (pc := 95) g.1 d_Mo_tostring_95 rfl (lv_at hl 0 rfl) ?_
      obtain ⟨v96, s, hc96, h⟩ := oB_of h
      refine ww_callV (pc := 96) (rest := []) g cv_Mo_give (Or.inl kw_212) cl_Mo (pz rfl (by decide)) (ct_Mo_give hc96) ⟨by decide, by decide⟩ rfl hl.1 (Nat.le_of_ble_eq_true rfl) d_Mo_tostring_96 rfl ?_
      refine ww_st (st' := []) rfl ?_
      refine ww_goto (pc := 99) (tgt := 141) g.1 d_Mo_tostring_99 (by decide) ?_
      exact j_Mo_tostring_j141 g hR s ls (lv_sub hl [2] rfl) h
  · refine ww_aload_n (pc := 23) g.1 d_Mo_tostring_23 rfl (lv_at hl 2 rfl) ?_
    refine ww_gI (pc := 24) g (k := 66) cl_Mo (pz rfl (by decide)) (by decide) (Or.inl kw_92) (f := 66) rfl rfl d_Mo_tostring_24 h fun v24 h => ?_
    refine ww_istore (pc := 27) (i := 4) g.1 (lv' := [(4, .int v24), (2, .long v8), (1, .int v2), (0, .ref (q.1 0 0))]) d_Mo_tostring_27 hl (by decide) rfl fun ls hl => ?_
    refine ww_aload_n (pc := 29) g.1 d_Mo_tostring_29 rfl (lv_at hl 3 rfl) ?_
    refine ww_gL (pc := 30) g (k := 67) cl_Mo (pz rfl (by decide)) (by decide) (Or.inl kw_94) (f := 67) rfl rfl d_Mo_tostring_30 h fun v30 h => ?_
    refine ww_lstore (pc := 33) (i := 5) g.1 (lv' := [(5, .long v30), (4, .int v24), (2, .long v8), (1, .int v2), (0, .ref (q.1 0 0))]) d_Mo_tostring_33 hl (by decide) rfl fun ls hl => ?_
    refine ww_aload_n (pc := 35) g.1 d_Mo_tostring_35 rfl (lv_at hl 4 rfl) ?_
    refine ww_gR (pc := 36) g (k := 77) cl_Mo (pz rfl (by decide)) (by decide) (Or.inl kw_182) (f := 77) (t := 7) rfl rfl rfl d_Mo_tostring_36 ?_
    refine ww_iconst (pc := 39) g.1 (v := 0) d_Mo_tostring_39 (by decide) ?_
    refine ww_pI (pc := 40) g (k := 2) (cl_Va (Or.inl ⟨by decide, rfl⟩)) (pz rfl (by decide)) (by decide) (Or.inl kw_179) rfl (f := 898) rfl rfl rfl rfl d_Mo_tostring_40 h fun s hs h => ?_
    refine ww_aload_n (pc := 43) g.1 d_Mo_tostring_43 rfl (lv_at hl 4 rfl) ?_
    refine ww_gR (pc := 44) g (k := 77) cl_Mo (pz rfl (by decide)) (by decide) (Or.inl kw_182) (f := 77) (t := 7) rfl rfl rfl d_Mo_tostring_44 ?_
    refine ww_iload_n (pc := 47) g.1 d_Mo_tostring_47 rfl (lv_at hl 3 rfl) ?_
    refine ww_lload_n (pc := 48) g.1 d_Mo_tostring_48 rfl (lv_at hl 2 rfl) ?_
    obtain ⟨v49, s, hc49, h⟩ := oB_of h
    refine ww_callV (pc := 49) (rest := []) g cv_Va_add (Or.inl kw_187) (cl_Va (Or.inl ⟨by decide, rfl⟩)) (pz rfl (by decide)) (ct_Va_add (Or.inl ⟨by decide, rfl⟩) hc49) ⟨by decide, by decide⟩ rfl hl.1 (Nat.le_of_ble_eq_true rfl) d_Mo_tostring_49 rfl ?_
    refine ww_st (st' := []) rfl ?_
    refine ww_aload_n (pc := 52) g.1 d_Mo_tostring_52 rfl (lv_at hl 4 rfl) ?_
    refine ww_iconst (pc := 53) g.1 (v := 4) d_Mo_tostring_53 (by decide) ?_
    refine ww_iconst (pc := 54) g.1 (v := (-1)) d_Mo_tostring_54 (by decide) ?_
    obtain ⟨v55, s, hc55, h⟩ := oB_of h
    refine ww_callV (pc := 55) (rest := []) g cv_Mo_push (Or.inl kw_190) cl_Mo (pz rfl (by decide)) (ct_Mo_push hc55) ⟨by decide, by decide⟩ rfl hl.1 (Nat.le_of_ble_eq_true rfl) d_Mo_tostring_55 rfl ?_
    refine ww_st (st' := [.int v55]) rfl ?_
    refine ww_if_ne (pc := 58) (tgt := 70) g.1 d_Mo_tostring_58 (by decide) h (fun c h => ?_) (fun c h => ?_)
    · refine ww_aload_n (pc := 70) g.1 d_Mo_tostring_70 rfl (lv_at hl 4 rfl) ?_
      refine ww_iload (pc := 71) g.1 d_Mo_tostring_71 (lv_at hl 1 rfl) ?_
      refine ww_pI (pc := 73) g (k := 75) cl_Mo (pz rfl (by decide)) (by decide) (Or.inl kw_192) rfl (f := 75) rfl rfl rfl rfl d_Mo_tostring_73 h fun s hs h => ?_
      refine ww_aload_n (pc := 76) g.1 d_Mo_tostring_76 rfl (lv_at hl 4 rfl) ?_
      refine ww_lload (pc := 77) g.1 d_Mo_tostring_77 (lv_at hl 0 rfl) ?_
      refine ww_pL (pc := 79) g (k := 76) cl_Mo (pz rfl (by decide)) (by decide) (Or.inl kw_194) rfl (f := 76) rfl rfl rfl rfl d_Mo_tostring_79 h fun s hs h => ?_
      refine ww_aload_n (pc := 82) g.1 d_Mo_tostring_82 rfl (lv_at hl 4 rfl) ?_
      refine ww_iconst (pc := 83) g.1 (v := 1) d_Mo_tostring_83 (by decide) ?_
      refine ww_pI (pc := 84) g (k := 73) cl_Mo (pz rfl (by decide)) (by decide) (Or.inl kw_75) rfl (f := 73) rfl rfl rfl rfl d_Mo_tostring_84 h fun s hs h => ?_
      exact ww_vretH (pc := 87) g h hR d_Mo_tostring_87
    · refine ww_aload_n (pc := 61) g.1 d_Mo_tostring_61 rfl (lv_at hl 4 rfl) ?_
      refine ww_gR (pc := 62) g (k := 77) cl_Mo (pz rfl (by decide)) (by decide) (Or.inl kw_182) (f := 77) (t := 7) rfl rfl rfl d_Mo_tostring_62 ?_
      refine ww_iconst (pc := 65) g.1 (v := 0) d_Mo_tostring_65 (by decide) ?_
      refine ww_pI (pc := 66) g (k := 2) (cl_Va (Or.inl ⟨by decide, rfl⟩)) (pz rfl (by decide)) (by decide) (Or.inl kw_179) rfl (f := 898) rfl rfl rfl rfl d_Mo_tostring_66 h fun s hs h => ?_
      exact ww_vretH (pc := 69) g h hR d_Mo_tostring_69

abbrev b_Mo_join : ByteArray := prog_14_method_125_code
def y_Mo_join : MethodName := ⟨R_Mo, "join", "(LLuaMachineModel$Thread_;IIIJ)V"⟩
abbrev w_Mo_join : List Cond := .code y_Mo_join b_Mo_join 19 none :: wA
set_option maxRecDepth 20000 in
theorem k_Mo_join : Cond.code y_Mo_join b_Mo_join 19 none ∈ wA := kinm (show _ ∈ tables_1 from (List.mem_append_right _ (List.mem_append_right _ (List.mem_append_right _ (List.mem_append_right _ (List.mem_append_right _ (List.mem_append_right _ (List.mem_append_right _ (List.mem_append_right _ (List.mem_append_right _ (List.mem_append_right _ (List.mem_append_right _ (List.mem_append_right _ (List.mem_append_left _ (List.mem_of_getElem? (l := tables_1_13) (i := 96) rfl))))))))))))))) rfl
theorem d_Mo_join_0 : decode b_Mo_join 0 = .ok (.aload_n 0, 1) := by decide +kernel
theorem d_Mo_join_1 : decode b_Mo_join 1 = .ok (.getfield 71, 3) := by decide +kernel
theorem d_Mo_join_4 : decode b_Mo_join 4 = .ok (.aload_n 0, 1) := by decide +kernel
theorem d_Mo_join_5 : decode b_Mo_join 5 = .ok (.getfield 53, 3) := by decide +kernel
theorem d_Mo_join_8 : decode b_Mo_join 8 = .ok (.aload_n 0, 1) := by decide +kernel
theorem d_Mo_join_9 : decode b_Mo_join 9 = .ok (.getfield 168, 3) := by decide +kernel
theorem d_Mo_join_12 : decode b_Mo_join 12 = .ok (.aload_n 1, 1) := by decide +kernel
theorem d_Mo_join_13 : decode b_Mo_join 13 = .ok (.getfield 736, 3) := by decide +kernel
theorem d_Mo_join_16 : decode b_Mo_join 16 = .ok (.iload_n 2, 1) := by decide +kernel
theorem d_Mo_join_17 : decode b_Mo_join 17 = .ok (.iaload, 1) := by decide +kernel
theorem d_Mo_join_18 : decode b_Mo_join 18 = .ok (.iaload, 1) := by decide +kernel
theorem d_Mo_join_19 : decode b_Mo_join 19 = .ok (.iaload, 1) := by decide +kernel
theorem d_Mo_join_20 : decode b_Mo_join 20 = .ok (.aload_n 1, 1) := by decide +kernel
theorem d_Mo_join_21 : decode b_Mo_join 21 = .ok (.getfield 758, 3) := by decide +kernel
theorem d_Mo_join_24 : decode b_Mo_join 24 = .ok (.iload_n 2, 1) := by decide +kernel
theorem d_Mo_join_25 : decode b_Mo_join 25 = .ok (.iaload, 1) := by decide +kernel
theorem d_Mo_join_26 : decode b_Mo_join 26 = .ok (.iadd, 1) := by decide +kernel
theorem d_Mo_join_27 : decode b_Mo_join 27 = .ok (.iconst 1, 1) := by decide +kernel
theorem d_Mo_join_28 : decode b_Mo_join 28 = .ok (.isub, 1) := by decide +kernel
theorem d_Mo_join_29 : decode b_Mo_join 29 = .ok (.iaload, 1) := by decide +kernel
theorem d_Mo_join_30 : decode b_Mo_join 30 = .ok (.istore 7, 2) := by decide +kernel
theorem d_Mo_join_32 : decode b_Mo_join 32 = .ok (.aload_n 1, 1) := by decide +kernel
theorem d_Mo_join_33 : decode b_Mo_join 33 = .ok (.getfield 744, 3) := by decide +kernel
theorem d_Mo_join_36 : decode b_Mo_join 36 = .ok (.iload_n 2, 1) := by decide +kernel
theorem d_Mo_join_37 : decode b_Mo_join 37 = .ok (.iaload, 1) := by decide +kernel
theorem d_Mo_join_38 : decode b_Mo_join 38 = .ok (.istore 8, 2) := by decide +kernel
theorem d_Mo_join_40 : decode b_Mo_join 40 = .ok (.iload 4, 2) := by decide +kernel
theorem d_Mo_join_42 : decode b_Mo_join 42 = .ok (.istore 9, 2) := by decide +kernel
theorem d_Mo_join_44 : decode b_Mo_join 44 = .ok (.lload 5, 2) := by decide +kernel
theorem d_Mo_join_46 : decode b_Mo_join 46 = .ok (.lstore 10, 2) := by decide +kernel
theorem d_Mo_join_48 : decode b_Mo_join 48 = .ok (.iload_n 3, 1) := by decide +kernel
theorem d_Mo_join_49 : decode b_Mo_join 49 = .ok (.istore 12, 2) := by decide +kernel
theorem d_Mo_join_51 : decode b_Mo_join 51 = .ok (.iload 12, 2) := by decide +kernel
theorem d_Mo_join_53 : decode b_Mo_join 53 = .ok (.iload 7, 2) := by decide +kernel
theorem d_Mo_join_55 : decode b_Mo_join 55 = .ok (.invokestatic 482, 3) := by decide +kernel
theorem d_Mo_join_58 : decode b_Mo_join 58 = .ok (.if_icmp .lt 264, 3) := by decide +kernel
theorem d_Mo_join_61 : decode b_Mo_join 61 = .ok (.aload_n 1, 1) := by decide +kernel
theorem d_Mo_join_62 : decode b_Mo_join 62 = .ok (.getfield 591, 3) := by decide +kernel
theorem d_Mo_join_65 : decode b_Mo_join 65 = .ok (.getfield 585, 3) := by decide +kernel
theorem d_Mo_join_68 : decode b_Mo_join 68 = .ok (.iload 8, 2) := by decide +kernel
theorem d_Mo_join_70 : decode b_Mo_join 70 = .ok (.iload 12, 2) := by decide +kernel
theorem d_Mo_join_72 : decode b_Mo_join 72 = .ok (.iadd, 1) := by decide +kernel
theorem d_Mo_join_73 : decode b_Mo_join 73 = .ok (.baload, 1) := by decide +kernel
theorem d_Mo_join_74 : decode b_Mo_join 74 = .ok (.istore 13, 2) := by decide +kernel
theorem d_Mo_join_76 : decode b_Mo_join 76 = .ok (.aload_n 1, 1) := by decide +kernel
theorem d_Mo_join_77 : decode b_Mo_join 77 = .ok (.getfield 591, 3) := by decide +kernel
theorem d_Mo_join_80 : decode b_Mo_join 80 = .ok (.getfield 588, 3) := by decide +kernel
theorem d_Mo_join_83 : decode b_Mo_join 83 = .ok (.iload 8, 2) := by decide +kernel
theorem d_Mo_join_85 : decode b_Mo_join 85 = .ok (.iload 12, 2) := by decide +kernel
theorem d_Mo_join_87 : decode b_Mo_join 87 = .ok (.iadd, 1) := by decide +kernel
theorem d_Mo_join_88 : decode b_Mo_join 88 = .ok (.laload, 1) := by decide +kernel
theorem d_Mo_join_89 : decode b_Mo_join 89 = .ok (.lstore 14, 2) := by decide +kernel
theorem d_Mo_join_91 : decode b_Mo_join 91 = .ok (.iload 13, 2) := by decide +kernel
theorem d_Mo_join_93 : decode b_Mo_join 93 = .ok (.iconst 4, 1) := by decide +kernel
theorem d_Mo_join_94 : decode b_Mo_join 94 = .ok (.if_icmp .eq 9, 3) := by decide +kernel
theorem d_Mo_join_97 : decode b_Mo_join 97 = .ok (.iload 13, 2) := by decide +kernel
theorem d_Mo_join_99 : decode b_Mo_join 99 = .ok (.iconst 3, 1) := by decide +kernel
theorem d_Mo_join_100 : decode b_Mo_join 100 = .ok (.if_icmp .ne 173, 3) := by decide +kernel
theorem d_Mo_join_103 : decode b_Mo_join 103 = .ok (.iload 9, 2) := by decide +kernel
theorem d_Mo_join_105 : decode b_Mo_join 105 = .ok (.iconst 4, 1) := by decide +kernel
theorem d_Mo_join_106 : decode b_Mo_join 106 = .ok (.if_icmp .eq 9, 3) := by decide +kernel
theorem d_Mo_join_109 : decode b_Mo_join 109 = .ok (.iload 9, 2) := by decide +kernel
theorem d_Mo_join_111 : decode b_Mo_join 111 = .ok (.iconst 3, 1) := by decide +kernel
theorem d_Mo_join_112 : decode b_Mo_join 112 = .ok (.if_icmp .ne 161, 3) := by decide +kernel
theorem d_Mo_join_115 : decode b_Mo_join 115 = .ok (.aload_n 0, 1) := by decide +kernel
theorem d_Mo_join_116 : decode b_Mo_join 116 = .ok (.iconst 0, 1) := by decide +kernel
theorem d_Mo_join_117 : decode b_Mo_join 117 = .ok (.putfield 431, 3) := by decide +kernel
theorem d_Mo_join_120 : decode b_Mo_join 120 = .ok (.iload 13, 2) := by decide +kernel
theorem d_Mo_join_122 : decode b_Mo_join 122 = .ok (.iconst 4, 1) := by decide +kernel
theorem d_Mo_join_123 : decode b_Mo_join 123 = .ok (.if_icmp .ne 14, 3) := by decide +kernel
theorem d_Mo_join_126 : decode b_Mo_join 126 = .ok (.aload_n 0, 1) := by decide +kernel
theorem d_Mo_join_127 : decode b_Mo_join 127 = .ok (.getfield 171, 3) := by decide +kernel
theorem d_Mo_join_130 : decode b_Mo_join 130 = .ok (.lload 14, 2) := by decide +kernel
theorem d_Mo_join_132 : decode b_Mo_join 132 = .ok (.l2i, 1) := by decide +kernel
theorem d_Mo_join_133 : decode b_Mo_join 133 = .ok (.iaload, 1) := by decide +kernel
theorem d_Mo_join_134 : decode b_Mo_join 134 = .ok (.goto 5, 3) := by decide +kernel
theorem d_Mo_join_137 : decode b_Mo_join 137 = .ok (.bipush 20, 2) := by decide +kernel
theorem d_Mo_join_139 : decode b_Mo_join 139 = .ok (.iload 9, 2) := by decide +kernel
theorem d_Mo_join_141 : decode b_Mo_join 141 = .ok (.iconst 4, 1) := by decide +kernel
theorem d_Mo_join_142 : decode b_Mo_join 142 = .ok (.if_icmp .ne 14, 3) := by decide +kernel
theorem d_Mo_join_145 : decode b_Mo_join 145 = .ok (.aload_n 0, 1) := by decide +kernel
theorem d_Mo_join_146 : decode b_Mo_join 146 = .ok (.getfield 171, 3) := by decide +kernel
theorem d_Mo_join_149 : decode b_Mo_join 149 = .ok (.lload 10, 2) := by decide +kernel
theorem d_Mo_join_151 : decode b_Mo_join 151 = .ok (.l2i, 1) := by decide +kernel
theorem d_Mo_join_152 : decode b_Mo_join 152 = .ok (.iaload, 1) := by decide +kernel
theorem d_Mo_join_153 : decode b_Mo_join 153 = .ok (.goto 5, 3) := by decide +kernel
theorem d_Mo_join_156 : decode b_Mo_join 156 = .ok (.bipush 20, 2) := by decide +kernel
theorem d_Mo_join_158 : decode b_Mo_join 158 = .ok (.iadd, 1) := by decide +kernel
theorem d_Mo_join_159 : decode b_Mo_join 159 = .ok (.istore 16, 2) := by decide +kernel
theorem d_Mo_join_161 : decode b_Mo_join 161 = .ok (.iload 16, 2) := by decide +kernel
theorem d_Mo_join_163 : decode b_Mo_join 163 = .ok (.ldc_w 986, 3) := by decide +kernel
theorem d_Mo_join_166 : decode b_Mo_join 166 = .ok (.if_icmp .le 11, 3) := by decide +kernel
theorem d_Mo_join_169 : decode b_Mo_join 169 = .ok (.aload_n 0, 1) := by decide +kernel
theorem d_Mo_join_170 : decode b_Mo_join 170 = .ok (.bipush 11, 2) := by decide +kernel
theorem d_Mo_join_172 : decode b_Mo_join 172 = .ok (.invokevirtual 517, 3) := by decide +kernel
theorem d_Mo_join_175 : decode b_Mo_join 175 = .ok (.pop, 1) := by decide +kernel
theorem d_Mo_join_176 : decode b_Mo_join 176 = .ok (.return_, 1) := by decide +kernel
theorem d_Mo_join_177 : decode b_Mo_join 177 = .ok (.aload_n 0, 1) := by decide +kernel
theorem d_Mo_join_178 : decode b_Mo_join 178 = .ok (.iload 13, 2) := by decide +kernel
theorem d_Mo_join_180 : decode b_Mo_join 180 = .ok (.lload 14, 2) := by decide +kernel
theorem d_Mo_join_182 : decode b_Mo_join 182 = .ok (.invokevirtual 902, 3) := by decide +kernel
theorem d_Mo_join_185 : decode b_Mo_join 185 = .ok (.aload_n 0, 1) := by decide +kernel
theorem d_Mo_join_186 : decode b_Mo_join 186 = .ok (.iload 9, 2) := by decide +kernel
theorem d_Mo_join_188 : decode b_Mo_join 188 = .ok (.lload 10, 2) := by decide +kernel
theorem d_Mo_join_190 : decode b_Mo_join 190 = .ok (.invokevirtual 902, 3) := by decide +kernel
theorem d_Mo_join_193 : decode b_Mo_join 193 = .ok (.aload_n 0, 1) := by decide +kernel
theorem d_Mo_join_194 : decode b_Mo_join 194 = .ok (.getfield 234, 3) := by decide +kernel
theorem d_Mo_join_197 : decode b_Mo_join 197 = .ok (.getfield 569, 3) := by decide +kernel
theorem d_Mo_join_200 : decode b_Mo_join 200 = .ok (.istore 17, 2) := by decide +kernel
theorem d_Mo_join_202 : decode b_Mo_join 202 = .ok (.aload_n 0, 1) := by decide +kernel
theorem d_Mo_join_203 : decode b_Mo_join 203 = .ok (.getfield 234, 3) := by decide +kernel
theorem d_Mo_join_206 : decode b_Mo_join 206 = .ok (.iload 9, 2) := by decide +kernel
theorem d_Mo_join_208 : decode b_Mo_join 208 = .ok (.lload 10, 2) := by decide +kernel
theorem d_Mo_join_210 : decode b_Mo_join 210 = .ok (.invokevirtual 572, 3) := by decide +kernel
theorem d_Mo_join_213 : decode b_Mo_join 213 = .ok (.aload_n 0, 1) := by decide +kernel
theorem d_Mo_join_214 : decode b_Mo_join 214 = .ok (.getfield 431, 3) := by decide +kernel
theorem d_Mo_join_217 : decode b_Mo_join 217 = .ok (.ldc_w 987, 3) := by decide +kernel
theorem d_Mo_join_220 : decode b_Mo_join 220 = .ok (.if_icmp .le 12, 3) := by decide +kernel
theorem d_Mo_join_223 : decode b_Mo_join 223 = .ok (.aload_n 0, 1) := by decide +kernel
theorem d_Mo_join_224 : decode b_Mo_join 224 = .ok (.bipush 11, 2) := by decide +kernel
theorem d_Mo_join_226 : decode b_Mo_join 226 = .ok (.invokevirtual 517, 3) := by decide +kernel
theorem d_Mo_join_229 : decode b_Mo_join 229 = .ok (.goto 16, 3) := by decide +kernel
theorem d_Mo_join_232 : decode b_Mo_join 232 = .ok (.aload_n 0, 1) := by decide +kernel
theorem d_Mo_join_233 : decode b_Mo_join 233 = .ok (.aload_n 0, 1) := by decide +kernel
theorem d_Mo_join_234 : decode b_Mo_join 234 = .ok (.getfield 422, 3) := by decide +kernel
theorem d_Mo_join_237 : decode b_Mo_join 237 = .ok (.iconst 0, 1) := by decide +kernel
theorem d_Mo_join_238 : decode b_Mo_join 238 = .ok (.aload_n 0, 1) := by decide +kernel
theorem d_Mo_join_239 : decode b_Mo_join 239 = .ok (.getfield 431, 3) := by decide +kernel
theorem d_Mo_join_242 : decode b_Mo_join 242 = .ok (.invokevirtual 655, 3) := by decide +kernel
theorem d_Mo_join_245 : decode b_Mo_join 245 = .ok (.istore 18, 2) := by decide +kernel
theorem d_Mo_join_247 : decode b_Mo_join 247 = .ok (.aload_n 0, 1) := by decide +kernel
theorem d_Mo_join_248 : decode b_Mo_join 248 = .ok (.getfield 234, 3) := by decide +kernel
theorem d_Mo_join_251 : decode b_Mo_join 251 = .ok (.iload 17, 2) := by decide +kernel
theorem d_Mo_join_253 : decode b_Mo_join 253 = .ok (.putfield 569, 3) := by decide +kernel
theorem d_Mo_join_256 : decode b_Mo_join 256 = .ok (.iload 18, 2) := by decide +kernel
theorem d_Mo_join_258 : decode b_Mo_join 258 = .ok (.ifCond .ge 4, 3) := by decide +kernel
theorem d_Mo_join_261 : decode b_Mo_join 261 = .ok (.return_, 1) := by decide +kernel
theorem d_Mo_join_262 : decode b_Mo_join 262 = .ok (.iconst 4, 1) := by decide +kernel
theorem d_Mo_join_263 : decode b_Mo_join 263 = .ok (.istore 9, 2) := by decide +kernel
theorem d_Mo_join_265 : decode b_Mo_join 265 = .ok (.iload 18, 2) := by decide +kernel
theorem d_Mo_join_267 : decode b_Mo_join 267 = .ok (.i2l, 1) := by decide +kernel
theorem d_Mo_join_268 : decode b_Mo_join 268 = .ok (.lstore 10, 2) := by decide +kernel
theorem d_Mo_join_270 : decode b_Mo_join 270 = .ok (.goto 46, 3) := by decide +kernel
theorem d_Mo_join_273 : decode b_Mo_join 273 = .ok (.aload_n 0, 1) := by decide +kernel
theorem d_Mo_join_274 : decode b_Mo_join 274 = .ok (.iconst 4, 1) := by decide +kernel
theorem d_Mo_join_275 : decode b_Mo_join 275 = .ok (.iload 7, 2) := by decide +kernel
theorem d_Mo_join_277 : decode b_Mo_join 277 = .ok (.invokestatic 495, 3) := by decide +kernel
theorem d_Mo_join_280 : decode b_Mo_join 280 = .ok (.iconst 1, 1) := by decide +kernel
theorem d_Mo_join_281 : decode b_Mo_join 281 = .ok (.invokevirtual 947, 3) := by decide +kernel
theorem d_Mo_join_284 : decode b_Mo_join 284 = .ok (.aload_n 1, 1) := by decide +kernel
theorem d_Mo_join_285 : decode b_Mo_join 285 = .ok (.getfield 776, 3) := by decide +kernel
theorem d_Mo_join_288 : decode b_Mo_join 288 = .ok (.iload_n 2, 1) := by decide +kernel
theorem d_Mo_join_289 : decode b_Mo_join 289 = .ok (.iload 12, 2) := by decide +kernel
theorem d_Mo_join_291 : decode b_Mo_join 291 = .ok (.iastore, 1) := by decide +kernel
theorem d_Mo_join_292 : decode b_Mo_join 292 = .ok (.aload_n 0, 1) := by decide +kernel
theorem d_Mo_join_293 : decode b_Mo_join 293 = .ok (.bipush 15, 2) := by decide +kernel
theorem d_Mo_join_295 : decode b_Mo_join 295 = .ok (.iload 13, 2) := by decide +kernel
theorem d_Mo_join_297 : decode b_Mo_join 297 = .ok (.lload 14, 2) := by decide +kernel
theorem d_Mo_join_299 : decode b_Mo_join 299 = .ok (.iload 9, 2) := by decide +kernel
theorem d_Mo_join_301 : decode b_Mo_join 301 = .ok (.lload 10, 2) := by decide +kernel
theorem d_Mo_join_303 : decode b_Mo_join 303 = .ok (.invokevirtual 956, 3) := by decide +kernel
theorem d_Mo_join_306 : decode b_Mo_join 306 = .ok (.ifCond .ne 9, 3) := by decide +kernel
theorem d_Mo_join_309 : decode b_Mo_join 309 = .ok (.aload_n 0, 1) := by decide +kernel
theorem d_Mo_join_310 : decode b_Mo_join 310 = .ok (.iconst 3, 1) := by decide +kernel
theorem d_Mo_join_311 : decode b_Mo_join 311 = .ok (.invokevirtual 517, 3) := by decide +kernel
theorem d_Mo_join_314 : decode b_Mo_join 314 = .ok (.pop, 1) := by decide +kernel
theorem d_Mo_join_315 : decode b_Mo_join 315 = .ok (.return_, 1) := by decide +kernel
theorem d_Mo_join_316 : decode b_Mo_join 316 = .ok (.iinc 12 (-1), 3) := by decide +kernel
theorem d_Mo_join_319 : decode b_Mo_join 319 = .ok (.goto (-268), 3) := by decide +kernel
theorem d_Mo_join_322 : decode b_Mo_join 322 = .ok (.aload_n 1, 1) := by decide +kernel
theorem d_Mo_join_323 : decode b_Mo_join 323 = .ok (.getfield 591, 3) := by decide +kernel
theorem d_Mo_join_326 : decode b_Mo_join 326 = .ok (.iload 8, 2) := by decide +kernel
theorem d_Mo_join_328 : decode b_Mo_join 328 = .ok (.iload 7, 2) := by decide +kernel
theorem d_Mo_join_330 : decode b_Mo_join 330 = .ok (.invokestatic 495, 3) := by decide +kernel
theorem d_Mo_join_333 : decode b_Mo_join 333 = .ok (.iadd, 1) := by decide +kernel
theorem d_Mo_join_334 : decode b_Mo_join 334 = .ok (.iload 9, 2) := by decide +kernel
theorem d_Mo_join_336 : decode b_Mo_join 336 = .ok (.lload 10, 2) := by decide +kernel
theorem d_Mo_join_338 : decode b_Mo_join 338 = .ok (.invokevirtual 470, 3) := by decide +kernel
theorem d_Mo_join_341 : decode b_Mo_join 341 = .ok (.return_, 1) := by decide +kernel
theorem kw_545 : Cond.constant R_Mo 986 266740 ∈ wA := kinm (show _ ∈ tables_1 from (List.mem_append_right _ (List.mem_append_right _ (List.mem_append_right _ (List.mem_append_right _ (List.mem_append_right _ (List.mem_append_right _ (List.mem_append_right _ (List.mem_append_right _ (List.mem_append_right _ (List.mem_append_right _ (List.mem_append_right _ (List.mem_append_right _ (List.mem_append_left _ (List.mem_of_getElem? (l := tables_1_13) (i := 97) (by decide +kernel)))))))))))))))) (by decide +kernel)
theorem kw_546 : Cond.constant R_Mo 987 266667 ∈ wA := kinm (show _ ∈ tables_1 from (List.mem_append_right _ (List.mem_append_right _ (List.mem_append_right _ (List.mem_append_right _ (List.mem_append_right _ (List.mem_append_right _ (List.mem_append_right _ (List.mem_append_right _ (List.mem_append_right _ (List.mem_append_right _ (List.mem_append_right _ (List.mem_append_right _ (List.mem_append_left _ (List.mem_of_getElem? (l := tables_1_13) (i := 98) (by decide +kernel)))))))))))))))) (by decide +kernel)
theorem kw_547 : Cond.fieldLink R_Mo 776 "LuaMachineModel$Thread_" "step" "[I" ∈ wA := kinm (show _ ∈ tables_1 from (List.mem_append_right _ (List.mem_append_right _ (List.mem_append_right _ (List.mem_append_right _ (List.mem_append_right _ (List.mem_append_right _ (List.mem_append_right _ (List.mem_append_right _ (List.mem_append_right _ (List.mem_append_left _ (List.mem_of_getElem? (l := tables_1_10) (i := 7) (by decide +kernel))))))))))))) (by decide +kernel)
theorem kw_548 : Cond.instanceMethod y_Mo_join ∈ wA := kinm (show _ ∈ tables_1 from (List.mem_append_right _ (List.mem_append_right _ (List.mem_append_right _ (List.mem_append_right _ (List.mem_append_right _ (List.mem_append_right _ (List.mem_append_right _ (List.mem_append_right _ (List.mem_append_right _ (List.mem_append_right _ (List.mem_append_right _ (List.mem_append_right _ (List.mem_append_left _ (List.mem_of_getElem? (l := tables_1_13) (i := 95) (by decide +kernel)))))))))))))))) (by decide +kernel)
theorem kw_549 : Cond.selects R_Mo y_Mo_join y_Mo_join ∈ wA := kinp 195 (by decide +kernel) (by decide +kernel)
theorem cv_Mo_join : CV y_Mo_join b_Mo_join 19 none 5 := ⟨kw_548, kw_549, kw_17, k_Mo_join, by decide +kernel⟩
theorem j_Mo_join_j245 {X : Cx} {q : PL} (g : Gd X y_Mo_join b_Mo_join 19 none 8 195 R_Mo) {o : ((Int32 × Int32 × Int32 × Int32 × Int32 × Int64 × Int32) ⊕ ((Unit) ⊕ (Unit) ⊕ (Int32 × Int32 × Int32 × Int32 × Int64 × Int32 × Int32 × Int64) ⊕ (Int32 × Int32 × Int32 × Int32 × Int64))) × S1} (hR : (Sum.elim (fun y : Int32 × Int32 × Int32 × Int32 × Int32 × Int64 × Int32 => ∀ ls : Array Slot, (0 ≤ y.1 ∧ y.1 < 33) → lv_has ls 19 [(0, .ref (q.1 0 0)), (1, .ref (q.1 28 y.1)), (2, .int y.2.1), (7, .int y.2.2.1), (8, .int y.2.2.2.1), (9, .int y.2.2.2.2.1), (10, .long y.2.2.2.2.2.1), (12, .int y.2.2.2.2.2.2)] → WW X q o.2 51 ls []) (Sum.elim (fun y : Unit => ∀ ls : Array Slot, lv_has ls 19 [(0, .ref (q.1 0 0))] → WW X q o.2 169 ls []) (Sum.elim (fun y : Unit => ∀ ls : Array Slot, lv_has ls 19 [] → WW X q o.2 261 ls []) (Sum.elim (fun y : Int32 × Int32 × Int32 × Int32 × Int64 × Int32 × Int32 × Int64 => ∀ ls : Array Slot, (0 ≤ y.1 ∧ y.1 < 33) → lv_has ls 19 [(0, .ref (q.1 0 0)), (1, .ref (q.1 28 y.1)), (2, .int y.2.1), (7, .int y.2.2.1), (9, .int y.2.2.2.1), (10, .long y.2.2.2.2.1), (12, .int y.2.2.2.2.2.1), (13, .int y.2.2.2.2.2.2.1), (14, .long y.2.2.2.2.2.2.2)] → WW X q o.2 273 ls []) (fun y : Int32 × Int32 × Int32 × Int32 × Int64 => ∀ ls : Array Slot, (0 ≤ y.1 ∧ y.1 < 33) → lv_has ls 19 [(1, .ref (q.1 28 y.1)), (7, .int y.2.1), (8, .int y.2.2.1), (9, .int y.2.2.2.1), (10, .long y.2.2.2.2)] → WW X q o.2 322 ls [])))) o.1)) (l1 : Int32) (l2 : Int32) (l7 : Int32) (l8 : Int32) (l12 : Int32) (l17 : Int32) (k0 : Int32) (s : S1) (hp0 : 0 ≤ l1 ∧ l1 < 33) (ls : Array Slot) (hl : lv_has ls 19 [(0, .ref (q.1 0 0)), (1, .ref (q.1 28 l1)), (2, .int l2), (7, .int l7), (8, .int l8), (12, .int l12), (17, .int l17)]) (h : M_Mo_join_j245 l1 l2 l7 l8 l12 l17 k0 s = some o) : WW X q s 245 ls [.int k0] := by
  unfold M_Mo_join_j245 at h
  refine ww_istore (pc := 245) (i := 18) g.1 (lv' := [(18, .int k0), (0, .ref (q.1 0 0)), (1, .ref (q.1 28 l1)), (2, .int l2), (7, .int l7), (8, .int l8), (12, .int l12), (17, .int l17)]) d_Mo_join_245 hl (by decide) rfl fun ls hl => ?_
  refine ww_aload_n (pc := 247) g.1 d_Mo_join_247 rfl (lv_at hl 1 rfl) ?_
  refine ww_gR (pc := 248) g (k := 70) cl_Mo (pz rfl (by decide)) (by decide) (Or.inl kw_441) (f := 70) (t := 16) rfl rfl rfl d_Mo_join_248 ?_
  refine ww_iload (pc := 251) g.1 d_Mo_join_251 (lv_at hl 7 rfl) ?_
  refine ww_pI (pc := 253) g (k := 2) (cl_Va (Or.inl ⟨by decide, rfl⟩)) (pz rfl (by decide)) (by decide) (Or.inl kw_179) rfl (f := 2050) rfl rfl rfl rfl d_Mo_join_253 h fun s hs h => ?_
  refine ww_iload (pc := 256) g.1 d_Mo_join_256 (lv_at hl 0 rfl) ?_
  refine ww_if_ge (pc := 258) (tgt := 262) g.1 d_Mo_join_258 (by decide) h (fun c h => ?_) (fun c h => ?_)
  · refine ww_iconst (pc := 262) g.1 (v := 4) d_Mo_join_262 (by decide) ?_
    refine ww_istore (pc := 263) (i := 9) g.1 (lv' := [(9, .int 4), (18, .int k0), (0, .ref (q.1 0 0)), (1, .ref (q.1 28 l1)), (2, .int l2), (7, .int l7), (8, .int l8), (12, .int l12), (17, .int l17)]) d_Mo_join_263 hl (by decide) rfl fun ls hl => ?_
    refine ww_iload (pc := 265) g.1 d_Mo_join_265 (lv_at hl 1 rfl) ?_
    refine ww_i2l (pc := 267) g.1 (v := k0.toInt64) d_Mo_join_267 rfl ?_
    refine ww_lstore (pc := 268) (i := 10) g.1 (lv' := [(10, .long k0.toInt64), (9, .int 4), (18, .int k0), (0, .ref (q.1 0 0)), (1, .ref (q.1 28 l1)), (2, .int l2), (7, .int l7), (8, .int l8), (12, .int l12), (17, .int l17)]) d_Mo_join_268 hl (by decide) rfl fun ls hl => ?_
    refine ww_goto (pc := 270) (tgt := 316) g.1 d_Mo_join_270 (by decide) ?_
    refine ww_iinc (pc := 316) g.1 (v := l12 + (-1)) (lv' := [(12, .int (l12 + (-1))), (10, .long k0.toInt64), (9, .int 4), (18, .int k0), (0, .ref (q.1 0 0)), (1, .ref (q.1 28 l1)), (2, .int l2), (7, .int l7), (8, .int l8), (17, .int l17)]) d_Mo_join_316 hl (k := 8) rfl (by rfl) (by decide) rfl fun ls hl => ?_
    refine ww_goto (pc := 319) (tgt := 51) g.1 d_Mo_join_319 (by decide) ?_
    rw [oR_eq h] at hR
    exact hR ls hp0 (lv_sub hl [4, 5, 6, 7, 8, 2, 1, 0] rfl)
  · rw [oR_eq h] at hR
    exact hR ls (lv_sub hl [] rfl)

theorem j_Mo_join_j158 {X : Cx} {q : PL} (g : Gd X y_Mo_join b_Mo_join 19 none 8 195 R_Mo) {o : ((Int32 × Int32 × Int32 × Int32 × Int32 × Int64 × Int32) ⊕ ((Unit) ⊕ (Unit) ⊕ (Int32 × Int32 × Int32 × Int32 × Int64 × Int32 × Int32 × Int64) ⊕ (Int32 × Int32 × Int32 × Int32 × Int64))) × S1} (hR : (Sum.elim (fun y : Int32 × Int32 × Int32 × Int32 × Int32 × Int64 × Int32 => ∀ ls : Array Slot, (0 ≤ y.1 ∧ y.1 < 33) → lv_has ls 19 [(0, .ref (q.1 0 0)), (1, .ref (q.1 28 y.1)), (2, .int y.2.1), (7, .int y.2.2.1), (8, .int y.2.2.2.1), (9, .int y.2.2.2.2.1), (10, .long y.2.2.2.2.2.1), (12, .int y.2.2.2.2.2.2)] → WW X q o.2 51 ls []) (Sum.elim (fun y : Unit => ∀ ls : Array Slot, lv_has ls 19 [(0, .ref (q.1 0 0))] → WW X q o.2 169 ls []) (Sum.elim (fun y : Unit => ∀ ls : Array Slot, lv_has ls 19 [] → WW X q o.2 261 ls []) (Sum.elim (fun y : Int32 × Int32 × Int32 × Int32 × Int64 × Int32 × Int32 × Int64 => ∀ ls : Array Slot, (0 ≤ y.1 ∧ y.1 < 33) → lv_has ls 19 [(0, .ref (q.1 0 0)), (1, .ref (q.1 28 y.1)), (2, .int y.2.1), (7, .int y.2.2.1), (9, .int y.2.2.2.1), (10, .long y.2.2.2.2.1), (12, .int y.2.2.2.2.2.1), (13, .int y.2.2.2.2.2.2.1), (14, .long y.2.2.2.2.2.2.2)] → WW X q o.2 273 ls []) (fun y : Int32 × Int32 × Int32 × Int32 × Int64 => ∀ ls : Array Slot, (0 ≤ y.1 ∧ y.1 < 33) → lv_has ls 19 [(1, .ref (q.1 28 y.1)), (7, .int y.2.1), (8, .int y.2.2.1), (9, .int y.2.2.2.1), (10, .long y.2.2.2.2)] → WW X q o.2 322 ls [])))) o.1)) (l1 : Int32) (l2 : Int32) (l7 : Int32) (l8 : Int32) (l9 : Int32) (l10 : Int64) (l12 : Int32) (l13 : Int32) (l14 : Int64) (k0 : Int32) (k1 : Int32) (s : S1) (hp0 : 0 ≤ l1 ∧ l1 < 33) (ls : Array Slot) (hl : lv_has ls 19 [(0, .ref (q.1 0 0)), (1, .ref (q.1 28 l1)), (2, .int l2), (7, .int l7), (8, .int l8), (9, .int l9), (10, .long l10), (12, .int l12), (13, .int l13), (14, .long l14)]) (h : M_Mo_join_j158 l1 l2 l7 l8 l9 l10 l12 l13 l14 k0 k1 s = some o) : WW X q s 158 ls [.int k0, .int k1] := by
  unfold M_Mo_join_j158 at h
  refine ww_iadd (pc := 158) g.1 d_Mo_join_158 ?_
  refine ww_leti h fun l16_159 h => ?_
  refine ww_istore (pc := 159) (i := 16) g.1 (lv' := [(16, .int l16_159), (0, .ref (q.1 0 0)), (1, .ref (q.1 28 l1)), (2, .int l2), (7, .int l7), (8, .int l8), (9, .int l9), (10, .long l10), (12, .int l12), (13, .int l13), (14, .long l14)]) d_Mo_join_159 hl (by decide) rfl fun ls hl => ?_
  refine ww_iload (pc := 161) g.1 d_Mo_join_161 (lv_at hl 0 rfl) ?_
  refine ww_ldcw (pc := 163) g (v := 266740) kw_545 d_Mo_join_163 ?_
  refine ww_icmp_le (pc := 166) (tgt := 177) g.1 d_Mo_join_166 (by decide) h (fun c h => ?_) (fun c h => ?_)
  · refine ww_aload_n (pc := 177) g.1 d_Mo_join_177 rfl (lv_at hl 1 rfl) ?_
    refine ww_iload (pc := 178) g.1 d_Mo_join_178 (lv_at hl 9 rfl) ?_
    refine ww_lload (pc := 180) g.1 d_Mo_join_180 (lv_at hl 10 rfl) ?_
    obtain ⟨v182, s, hc182, h⟩ := oB_of h
    refine ww_callV (pc := 182) (rest := []) g cv_Mo_sayValue (Or.inl kw_542) cl_Mo (pz rfl (by decide)) (ct_Mo_sayValue hc182) ⟨by decide, by decide⟩ rfl hl.1 (Nat.le_of_ble_eq_true rfl) d_Mo_join_182 rfl ?_
    refine ww_st (st' := []) rfl ?_
    refine ww_aload_n (pc := 185) g.1 d_Mo_join_185 rfl (lv_at hl 1 rfl) ?_
    refine ww_iload (pc := 186) g.1 d_Mo_join_186 (lv_at hl 6 rfl) ?_
    refine ww_lload (pc := 188) g.1 d_Mo_join_188 (lv_at hl 7 rfl) ?_
    obtain ⟨v190, s, hc190, h⟩ := oB_of h
    refine ww_callV (pc := 190) (rest := []) g cv_Mo_sayValue (Or.inl kw_542) cl_Mo (pz rfl (by decide)) (ct_Mo_sayValue hc190) ⟨by decide, by decide⟩ rfl hl.1 (Nat.le_of_ble_eq_true rfl) d_Mo_join_190 rfl ?_
    refine ww_st (st' := []) rfl ?_
    refine ww_aload_n (pc := 193) g.1 d_Mo_join_193 rfl (lv_at hl 1 rfl) ?_
    refine ww_gR (pc := 194) g (k := 70) cl_Mo (pz rfl (by decide)) (by decide) (Or.inl kw_441) (f := 70) (t := 16) rfl rfl rfl d_Mo_join_194 ?_
    refine ww_gI (pc := 197) g (k := 2) (cl_Va (Or.inl ⟨by decide, rfl⟩)) (pz rfl (by decide)) (by decide) (Or.inl kw_179) (f := 2050) rfl rfl d_Mo_join_197 h fun v197 h => ?_
    refine ww_istore (pc := 200) (i := 17) g.1 (lv' := [(17, .int v197), (16, .int l16_159), (0, .ref (q.1 0 0)), (1, .ref (q.1 28 l1)), (2, .int l2), (7, .int l7), (8, .int l8), (9, .int l9), (10, .long l10), (12, .int l12), (13, .int l13), (14, .long l14)]) d_Mo_join_200 hl (by decide) rfl fun ls hl => ?_
    refine ww_aload_n (pc := 202) g.1 d_Mo_join_202 rfl (lv_at hl 2 rfl) ?_
    refine ww_gR (pc := 203) g (k := 70) cl_Mo (pz rfl (by decide)) (by decide) (Or.inl kw_441) (f := 70) (t := 16) rfl rfl rfl d_Mo_join_203 ?_
    refine ww_iload (pc := 206) g.1 d_Mo_join_206 (lv_at hl 7 rfl) ?_
    refine ww_lload (pc := 208) g.1 d_Mo_join_208 (lv_at hl 8 rfl) ?_
    obtain ⟨v210, s, hc210, h⟩ := oB_of h
    refine ww_callV (pc := 210) (rest := []) g cv_Va_add (Or.inl kw_187) (cl_Va (Or.inl ⟨by decide, rfl⟩)) (pz rfl (by decide)) (ct_Va_add (Or.inl ⟨by decide, rfl⟩) hc210) ⟨by decide, by decide⟩ rfl hl.1 (Nat.le_of_ble_eq_true rfl) d_Mo_join_210 rfl ?_
    refine ww_st (st' := []) rfl ?_
    refine ww_aload_n (pc := 213) g.1 d_Mo_join_213 rfl (lv_at hl 2 rfl) ?_
    refine ww_gI (pc := 214) g (k := 96) cl_Mo (pz rfl (by decide)) (by decide) (Or.inl kw_168) (f := 96) rfl rfl d_Mo_join_214 h fun v214 h => ?_
    refine ww_ldcw (pc := 217) g (v := 266667) kw_546 d_Mo_join_217 ?_
    refine ww_icmp_le (pc := 220) (tgt := 232) g.1 d_Mo_join_220 (by decide) h (fun c h => ?_) (fun c h => ?_)
    · refine ww_aload_n (pc := 232) g.1 d_Mo_join_232 rfl (lv_at hl 2 rfl) ?_
      refine ww_aload_n (pc := 233) g.1 d_Mo_join_233 rfl (lv_at hl 2 rfl) ?_
      refine ww_gR (pc := 234) g (k := 93) cl_Mo (pz rfl (by decide)) (by decide) (Or.inl kw_167) (f := 93) (t := 87) rfl rfl rfl d_Mo_join_234 ?_
      refine ww_iconst (pc := 237) g.1 (v := 0) d_Mo_join_237 (by decide) ?_
      refine ww_aload_n (pc := 238) g.1 d_Mo_join_238 rfl (lv_at hl 2 rfl) ?_
      refine ww_gI (pc := 239) g (k := 96) cl_Mo (pz rfl (by decide)) (by decide) (Or.inl kw_168) (f := 96) rfl rfl d_Mo_join_239 h fun v239 h => ?_
      obtain ⟨v242, s, hc242, h⟩ := oB_of h
      refine ww_callV (pc := 242) (rest := []) g cv_Mo_string (Or.inl kw_521) cl_Mo (pz rfl (by decide)) (ct_Mo_string ⟨rfl, by decide, by decide⟩ (pz rfl (by decide)) hc242) ⟨by decide, by decide⟩ rfl hl.1 (Nat.le_of_ble_eq_true rfl) d_Mo_join_242 rfl ?_
      refine ww_st (st' := [.int v242]) rfl ?_
      exact j_Mo_join_j245 g hR l1 l2 l7 l8 l12 v197 v242 s hp0 ls (lv_sub hl [2, 3, 4, 5, 6, 9, 0] rfl) h
    · refine ww_aload_n (pc := 223) g.1 d_Mo_join_223 rfl (lv_at hl 2 rfl) ?_
      refine ww_bipush (pc := 224) g.1 (v := 11) d_Mo_join_224 (by decide) ?_
      obtain ⟨v226, s, hc226, h⟩ := oB_of h
      refine ww_callV (pc := 226) (rest := []) g cv_Mo_raise (Or.inl kw_157) cl_Mo (pz rfl (by decide)) (ct_Mo_raise hc226) ⟨by decide, by decide⟩ rfl hl.1 (Nat.le_of_ble_eq_true rfl) d_Mo_join_226 rfl ?_
      refine ww_st (st' := [.int v226]) rfl ?_
      refine ww_goto (pc := 229) (tgt := 245) g.1 d_Mo_join_229 (by decide) ?_
      exact j_Mo_join_j245 g hR l1 l2 l7 l8 l12 v197 v226 s hp0 ls (lv_sub hl [2, 3, 4, 5, 6, 9, 0] rfl) h
  · rw [oR_eq h] at hR
    exact hR ls (lv_sub hl [1] rfl)

theorem j_Mo_join_j139 {X : Cx} {q : PL} (g : Gd X y_Mo_join b_Mo_join 19 none 8 195 R_Mo) {o : ((Int32 × Int32 × Int32 × Int32 × Int32 × Int64 × Int32) ⊕ ((Unit) ⊕ (Unit) ⊕ (Int32 × Int32 × Int32 × Int32 × Int64 × Int32 × Int32 × Int64) ⊕ (Int32 × Int32 × Int32 × Int32 × Int64))) × S1} (hR : (Sum.elim (fun y : Int32 × Int32 × Int32 × Int32 × Int32 × Int64 × Int32 => ∀ ls : Array Slot, (0 ≤ y.1 ∧ y.1 < 33) → lv_has ls 19 [(0, .ref (q.1 0 0)), (1, .ref (q.1 28 y.1)), (2, .int y.2.1), (7, .int y.2.2.1), (8, .int y.2.2.2.1), (9, .int y.2.2.2.2.1), (10, .long y.2.2.2.2.2.1), (12, .int y.2.2.2.2.2.2)] → WW X q o.2 51 ls []) (Sum.elim (fun y : Unit => ∀ ls : Array Slot, lv_has ls 19 [(0, .ref (q.1 0 0))] → WW X q o.2 169 ls []) (Sum.elim (fun y : Unit => ∀ ls : Array Slot, lv_has ls 19 [] → WW X q o.2 261 ls []) (Sum.elim (fun y : Int32 × Int32 × Int32 × Int32 × Int64 × Int32 × Int32 × Int64 => ∀ ls : Array Slot, (0 ≤ y.1 ∧ y.1 < 33) → lv_has ls 19 [(0, .ref (q.1 0 0)), (1, .ref (q.1 28 y.1)), (2, .int y.2.1), (7, .int y.2.2.1), (9, .int y.2.2.2.1), (10, .long y.2.2.2.2.1), (12, .int y.2.2.2.2.2.1), (13, .int y.2.2.2.2.2.2.1), (14, .long y.2.2.2.2.2.2.2)] → WW X q o.2 273 ls []) (fun y : Int32 × Int32 × Int32 × Int32 × Int64 => ∀ ls : Array Slot, (0 ≤ y.1 ∧ y.1 < 33) → lv_has ls 19 [(1, .ref (q.1 28 y.1)), (7, .int y.2.1), (8, .int y.2.2.1), (9, .int y.2.2.2.1), (10, .long y.2.2.2.2)] → WW X q o.2 322 ls [])))) o.1)) (l1 : Int32) (l2 : Int32) (l7 : Int32) (l8 : Int32) (l9 : Int32) (l10 : Int64) (l12 : Int32) (l13 : Int32) (l14 : Int64) (k0 : Int32) (s : S1) (hp0 : 0 ≤ l1 ∧ l1 < 33) (ls : Array Slot) (hl : lv_has ls 19 [(0, .ref (q.1 0 0)), (1, .ref (q.1 28 l1)), (2, .int l2), (7, .int l7), (8, .int l8), (9, .int l9), (10, .long l10), (12, .int l12), (13, .int l13), (14, .long l14)]) (h : M_Mo_join_j139 l1 l2 l7 l8 l9 l10 l12 l13 l14 k0 s = some o) : WW X q s 139 ls [.int k0] := by
  unfold M_Mo_join_j139 at h
  refine ww_iload (pc := 139) g.1 d_Mo_join_139 (lv_at hl 5 rfl) ?_
  refine ww_iconst (pc := 141) g.1 (v := 4) d_Mo_join_141 (by decide) ?_
  refine ww_icmp_ne (pc := 142) (tgt := 156) g.1 d_Mo_join_142 (by decide) h (fun c h => ?_) (fun c h => ?_)
  · refine ww_bipush (pc := 156) g.1 (v := 20) d_Mo_join_156 (by decide) ?_
    exact j_Mo_join_j158 g hR l1 l2 l7 l8 l9 l10 l12 l13 l14 20 k0 s hp0 ls (lv_sub hl [0, 1, 2, 3, 4, 5, 6, 7, 8, 9] rfl) h
  · refine ww_aload_n (pc := 145) g.1 d_Mo_join_145 rfl (lv_at hl 0 rfl) ?_
    refine ww_gR (pc := 146) g (k := 50) cl_Mo (pz rfl (by decide)) (by decide) (Or.inl kw_91) (f := 50) (t := 63) rfl rfl rfl d_Mo_join_146 ?_
    refine ww_lload (pc := 149) g.1 d_Mo_join_149 (lv_at hl 6 rfl) ?_
    refine ww_l2i (pc := 151) g.1 (v := l10.toInt32) d_Mo_join_151 rfl ?_
    refine ww_ai (pc := 152) g (pz rfl (by decide)) rfl rfl d_Mo_join_152 h fun v152 h => ?_
    refine ww_goto (pc := 153) (tgt := 158) g.1 d_Mo_join_153 (by decide) ?_
    exact j_Mo_join_j158 g hR l1 l2 l7 l8 l9 l10 l12 l13 l14 v152 k0 s hp0 ls (lv_sub hl [0, 1, 2, 3, 4, 5, 6, 7, 8, 9] rfl) h

theorem j_Mo_join_j115 {X : Cx} {q : PL} (g : Gd X y_Mo_join b_Mo_join 19 none 8 195 R_Mo) {o : ((Int32 × Int32 × Int32 × Int32 × Int32 × Int64 × Int32) ⊕ ((Unit) ⊕ (Unit) ⊕ (Int32 × Int32 × Int32 × Int32 × Int64 × Int32 × Int32 × Int64) ⊕ (Int32 × Int32 × Int32 × Int32 × Int64))) × S1} (hR : (Sum.elim (fun y : Int32 × Int32 × Int32 × Int32 × Int32 × Int64 × Int32 => ∀ ls : Array Slot, (0 ≤ y.1 ∧ y.1 < 33) → lv_has ls 19 [(0, .ref (q.1 0 0)), (1, .ref (q.1 28 y.1)), (2, .int y.2.1), (7, .int y.2.2.1), (8, .int y.2.2.2.1), (9, .int y.2.2.2.2.1), (10, .long y.2.2.2.2.2.1), (12, .int y.2.2.2.2.2.2)] → WW X q o.2 51 ls []) (Sum.elim (fun y : Unit => ∀ ls : Array Slot, lv_has ls 19 [(0, .ref (q.1 0 0))] → WW X q o.2 169 ls []) (Sum.elim (fun y : Unit => ∀ ls : Array Slot, lv_has ls 19 [] → WW X q o.2 261 ls []) (Sum.elim (fun y : Int32 × Int32 × Int32 × Int32 × Int64 × Int32 × Int32 × Int64 => ∀ ls : Array Slot, (0 ≤ y.1 ∧ y.1 < 33) → lv_has ls 19 [(0, .ref (q.1 0 0)), (1, .ref (q.1 28 y.1)), (2, .int y.2.1), (7, .int y.2.2.1), (9, .int y.2.2.2.1), (10, .long y.2.2.2.2.1), (12, .int y.2.2.2.2.2.1), (13, .int y.2.2.2.2.2.2.1), (14, .long y.2.2.2.2.2.2.2)] → WW X q o.2 273 ls []) (fun y : Int32 × Int32 × Int32 × Int32 × Int64 => ∀ ls : Array Slot, (0 ≤ y.1 ∧ y.1 < 33) → lv_has ls 19 [(1, .ref (q.1 28 y.1)), (7, .int y.2.1), (8, .int y.2.2.1), (9, .int y.2.2.2.1), (10, .long y.2.2.2.2)] → WW X q o.2 322 ls [])))) o.1)) (l1 : Int32) (l2 : Int32) (l7 : Int32) (l8 : Int32) (l9 : Int32) (l10 : Int64) (l12 : Int32) (l13 : Int32) (l14 : Int64) (s : S1) (hp0 : 0 ≤ l1 ∧ l1 < 33) (ls : Array Slot) (hl : lv_has ls 19 [(0, .ref (q.1 0 0)), (1, .ref (q.1 28 l1)), (2, .int l2), (7, .int l7), (8, .int l8), (9, .int l9), (10, .long l10), (12, .int l12), (13, .int l13), (14, .long l14)]) (h : M_Mo_join_j115 l1 l2 l7 l8 l9 l10 l12 l13 l14 s = some o) : WW X q s 115 ls [] := by
  unfold M_Mo_join_j115 at h
  refine ww_aload_n (pc := 115) g.1 d_Mo_join_115 rfl (lv_at hl 0 rfl) ?_
  refine ww_iconst (pc := 116) g.1 (v := 0) d_Mo_join_116 (by decide) ?_
  refine ww_pI (pc := 117) g (k := 96) cl_Mo (pz rfl (by decide)) (by decide) (Or.inl kw_168) rfl (f := 96) rfl rfl rfl rfl d_Mo_join_117 h fun s hs h => ?_
  refine ww_iload (pc := 120) g.1 d_Mo_join_120 (lv_at hl 8 rfl) ?_
  refine ww_iconst (pc := 122) g.1 (v := 4) d_Mo_join_122 (by decide) ?_
  refine ww_icmp_ne (pc := 123) (tgt := 137) g.1 d_Mo_join_123 (by decide) h (fun c h => ?_) (fun c h => ?_)
  · refine ww_bipush (pc := 137) g.1 (v := 20) d_Mo_join_137 (by decide) ?_
    exact j_Mo_join_j139 g hR l1 l2 l7 l8 l9 l10 l12 l13 l14 20 s hp0 ls (lv_sub hl [0, 1, 2, 3, 4, 5, 6, 7, 8, 9] rfl) h
  · refine ww_aload_n (pc := 126) g.1 d_Mo_join_126 rfl (lv_at hl 0 rfl) ?_
    refine ww_gR (pc := 127) g (k := 50) cl_Mo (pz rfl (by decide)) (by decide) (Or.inl kw_91) (f := 50) (t := 63) rfl rfl rfl d_Mo_join_127 ?_
    refine ww_lload (pc := 130) g.1 d_Mo_join_130 (lv_at hl 9 rfl) ?_
    refine ww_l2i (pc := 132) g.1 (v := l14.toInt32) d_Mo_join_132 rfl ?_
    refine ww_ai (pc := 133) g (pz rfl (by decide)) rfl rfl d_Mo_join_133 h fun v133 h => ?_
    refine ww_goto (pc := 134) (tgt := 139) g.1 d_Mo_join_134 (by decide) ?_
    exact j_Mo_join_j139 g hR l1 l2 l7 l8 l9 l10 l12 l13 l14 v133 s hp0 ls (lv_sub hl [0, 1, 2, 3, 4, 5, 6, 7, 8, 9] rfl) h

theorem j_Mo_join_j103 {X : Cx} {q : PL} (g : Gd X y_Mo_join b_Mo_join 19 none 8 195 R_Mo) {o : ((Int32 × Int32 × Int32 × Int32 × Int32 × Int64 × Int32) ⊕ ((Unit) ⊕ (Unit) ⊕ (Int32 × Int32 × Int32 × Int32 × Int64 × Int32 × Int32 × Int64) ⊕ (Int32 × Int32 × Int32 × Int32 × Int64))) × S1} (hR : (Sum.elim (fun y : Int32 × Int32 × Int32 × Int32 × Int32 × Int64 × Int32 => ∀ ls : Array Slot, (0 ≤ y.1 ∧ y.1 < 33) → lv_has ls 19 [(0, .ref (q.1 0 0)), (1, .ref (q.1 28 y.1)), (2, .int y.2.1), (7, .int y.2.2.1), (8, .int y.2.2.2.1), (9, .int y.2.2.2.2.1), (10, .long y.2.2.2.2.2.1), (12, .int y.2.2.2.2.2.2)] → WW X q o.2 51 ls []) (Sum.elim (fun y : Unit => ∀ ls : Array Slot, lv_has ls 19 [(0, .ref (q.1 0 0))] → WW X q o.2 169 ls []) (Sum.elim (fun y : Unit => ∀ ls : Array Slot, lv_has ls 19 [] → WW X q o.2 261 ls []) (Sum.elim (fun y : Int32 × Int32 × Int32 × Int32 × Int64 × Int32 × Int32 × Int64 => ∀ ls : Array Slot, (0 ≤ y.1 ∧ y.1 < 33) → lv_has ls 19 [(0, .ref (q.1 0 0)), (1, .ref (q.1 28 y.1)), (2, .int y.2.1), (7, .int y.2.2.1), (9, .int y.2.2.2.1), (10, .long y.2.2.2.2.1), (12, .int y.2.2.2.2.2.1), (13, .int y.2.2.2.2.2.2.1), (14, .long y.2.2.2.2.2.2.2)] → WW X q o.2 273 ls []) (fun y : Int32 × Int32 × Int32 × Int32 × Int64 => ∀ ls : Array Slot, (0 ≤ y.1 ∧ y.1 < 33) → lv_has ls 19 [(1, .ref (q.1 28 y.1)), (7, .int y.2.1), (8, .int y.2.2.1), (9, .int y.2.2.2.1), (10, .long y.2.2.2.2)] → WW X q o.2 322 ls [])))) o.1)) (l1 : Int32) (l2 : Int32) (l7 : Int32) (l8 : Int32) (l9 : Int32) (l10 : Int64) (l12 : Int32) (l13 : Int32) (l14 : Int64) (s : S1) (hp0 : 0 ≤ l1 ∧ l1 < 33) (ls : Array Slot) (hl : lv_has ls 19 [(0, .ref (q.1 0 0)), (1, .ref (q.1 28 l1)), (2, .int l2), (7, .int l7), (8, .int l8), (9, .int l9), (10, .long l10), (12, .int l12), (13, .int l13), (14, .long l14)]) (h : M_Mo_join_j103 l1 l2 l7 l8 l9 l10 l12 l13 l14 s = some o) : WW X q s 103 ls [] := by
  unfold M_Mo_join_j103 at h
  refine ww_iload (pc := 103) g.1 d_Mo_join_103 (lv_at hl 5 rfl) ?_
  refine ww_iconst (pc := 105) g.1 (v := 4) d_Mo_join_105 (by decide) ?_
  refine ww_icmp_eq (pc := 106) (tgt := 115) g.1 d_Mo_join_106 (by decide) h (fun c h => ?_) (fun c h => ?_)
  · exact j_Mo_join_j115 g hR l1 l2 l7 l8 l9 l10 l12 l13 l14 s hp0 ls (lv_sub hl [0, 1, 2, 3, 4, 5, 6, 7, 8, 9] rfl) h
  · refine ww_iload (pc := 109) g.1 d_Mo_join_109 (lv_at hl 5 rfl) ?_
    refine ww_iconst (pc := 111) g.1 (v := 3) d_Mo_join_111 (by decide) ?_
    refine ww_icmp_ne (pc := 112) (tgt := 273) g.1 d_Mo_join_112 (by decide) h (fun c h => ?_) (fun c h => ?_)
    · rw [oR_eq h] at hR
      exact hR ls hp0 (lv_sub hl [0, 1, 2, 3, 5, 6, 7, 8, 9] rfl)
    · exact j_Mo_join_j115 g hR l1 l2 l7 l8 l9 l10 l12 l13 l14 s hp0 ls (lv_sub hl [0, 1, 2, 3, 4, 5, 6, 7, 8, 9] rfl) h

theorem lp_Mo_join_L51 {X : Cx} {q : PL} (g : Gd X y_Mo_join b_Mo_join 19 none 8 195 R_Mo) (x : Int32 × Int32 × Int32 × Int32 × Int32 × Int64 × Int32) (s : S1) (o : ((Int32 × Int32 × Int32 × Int32 × Int32 × Int64 × Int32) ⊕ ((Unit) ⊕ (Unit) ⊕ (Int32 × Int32 × Int32 × Int32 × Int64 × Int32 × Int32 × Int64) ⊕ (Int32 × Int32 × Int32 × Int32 × Int64))) × S1) (h : M_Mo_join_L51 x s = some o) (hR : (Sum.elim (fun y : Int32 × Int32 × Int32 × Int32 × Int32 × Int64 × Int32 => ∀ ls : Array Slot, (0 ≤ y.1 ∧ y.1 < 33) → lv_has ls 19 [(0, .ref (q.1 0 0)), (1, .ref (q.1 28 y.1)), (2, .int y.2.1), (7, .int y.2.2.1), (8, .int y.2.2.2.1), (9, .int y.2.2.2.2.1), (10, .long y.2.2.2.2.2.1), (12, .int y.2.2.2.2.2.2)] → WW X q o.2 51 ls []) (Sum.elim (fun y : Unit => ∀ ls : Array Slot, lv_has ls 19 [(0, .ref (q.1 0 0))] → WW X q o.2 169 ls []) (Sum.elim (fun y : Unit => ∀ ls : Array Slot, lv_has ls 19 [] → WW X q o.2 261 ls []) (Sum.elim (fun y : Int32 × Int32 × Int32 × Int32 × Int64 × Int32 × Int32 × Int64 => ∀ ls : Array Slot, (0 ≤ y.1 ∧ y.1 < 33) → lv_has ls 19 [(0, .ref (q.1 0 0)), (1, .ref (q.1 28 y.1)), (2, .int y.2.1), (7, .int y.2.2.1), (9, .int y.2.2.2.1), (10, .long y.2.2.2.2.1), (12, .int y.2.2.2.2.2.1), (13, .int y.2.2.2.2.2.2.1), (14, .long y.2.2.2.2.2.2.2)] → WW X q o.2 273 ls []) (fun y : Int32 × Int32 × Int32 × Int32 × Int64 => ∀ ls : Array Slot, (0 ≤ y.1 ∧ y.1 < 33) → lv_has ls 19 [(1, .ref (q.1 28 y.1)), (7, .int y.2.1), (8, .int y.2.2.1), (9, .int y.2.2.2.1), (10, .long y.2.2.2.2)] → WW X q o.2 322 ls [])))) o.1)) : ∀ ls : Array Slot, (0 ≤ x.1 ∧ x.1 < 33) → lv_has ls 19 [(0, .ref (q.1 0 0)), (1, .ref (q.1 28 x.1)), (2, .int x.2.1), (7, .int x.2.2.1), (8, .int x.2.2.2.1), (9, .int x.2.2.2.2.1), (10, .long x.2.2.2.2.2.1), (12, .int x.2.2.2.2.2.2)] → WW X q s 51 ls [] := by
  intro ls hp0 hl
  unfold M_Mo_join_L51 at h
  refine ww_iload (pc := 51) g.1 d_Mo_join_51 (lv_at hl 7 rfl) ?_
  refine ww_iload (pc := 53) g.1 d_Mo_join_53 (lv_at hl 3 rfl) ?_
  obtain ⟨v55, s, hc55, h⟩ := oB_of h
  refine ww_callS (pc := 55) (rest := [.int x.2.2.2.2.2.2]) g cs_Mo_b (Or.inl kw_54) (ct_Mo_b hc55) ⟨by decide, by decide⟩ rfl hl.1 (Nat.le_of_ble_eq_true rfl) d_Mo_join_55 rfl ?_
  refine ww_st (st' := [.int v55, .int x.2.2.2.2.2.2]) rfl ?_
  refine ww_icmp_lt (pc := 58) (tgt := 322) g.1 d_Mo_join_58 (by decide) h (fun c h => ?_) (fun c h => ?_)
  · rw [oR_eq h] at hR
    exact hR ls hp0 (lv_sub hl [1, 3, 4, 5, 6] rfl)
  · refine ww_aload_n (pc := 61) g.1 d_Mo_join_61 rfl (lv_at hl 1 rfl) ?_
    refine ww_gR (pc := 62) g (k := 7) cl_Th (pt rfl rfl hp0) (by decide) (Or.inl kw_89) (f := 3591) (t := 19) rfl rfl rfl d_Mo_join_62 ?_
    refine ww_gR (pc := 65) g (k := 0) (cl_Va (Or.inr ⟨by decide, hp0⟩)) (pt rfl rfl hp0) (by decide) (Or.inl kw_90) (f := 2432) (t := 20) rfl rfl rfl d_Mo_join_65 ?_
    refine ww_iload (pc := 68) g.1 d_Mo_join_68 (lv_at hl 4 rfl) ?_
    refine ww_iload (pc := 70) g.1 d_Mo_join_70 (lv_at hl 7 rfl) ?_
    refine ww_iadd (pc := 72) g.1 d_Mo_join_72 ?_
    refine ww_ab (pc := 73) g (pt rfl rfl hp0) rfl rfl d_Mo_join_73 h fun v73 h => ?_
    refine ww_istore (pc := 74) (i := 13) g.1 (lv' := [(13, .int v73), (0, .ref (q.1 0 0)), (1, .ref (q.1 28 x.1)), (2, .int x.2.1), (7, .int x.2.2.1), (8, .int x.2.2.2.1), (9, .int x.2.2.2.2.1), (10, .long x.2.2.2.2.2.1), (12, .int x.2.2.2.2.2.2)]) d_Mo_join_74 hl (by decide) rfl fun ls hl => ?_
    refine ww_aload_n (pc := 76) g.1 d_Mo_join_76 rfl (lv_at hl 2 rfl) ?_
    refine ww_gR (pc := 77) g (k := 7) cl_Th (pt rfl rfl hp0) (by decide) (Or.inl kw_89) (f := 3591) (t := 19) rfl rfl rfl d_Mo_join_77 ?_
    refine ww_gR (pc := 80) g (k := 1) (cl_Va (Or.inr ⟨by decide, hp0⟩)) (pt rfl rfl hp0) (by decide) (Or.inl kw_93) (f := 2433) (t := 21) rfl rfl rfl d_Mo_join_80 ?_
    refine ww_iload (pc := 83) g.1 d_Mo_join_83 (lv_at hl 5 rfl) ?_
    refine ww_iload (pc := 85) g.1 d_Mo_join_85 (lv_at hl 8 rfl) ?_
    refine ww_iadd (pc := 87) g.1 d_Mo_join_87 ?_
    refine ww_al (pc := 88) g (pt rfl rfl hp0) rfl rfl d_Mo_join_88 h fun v88 h => ?_
    refine ww_lstore (pc := 89) (i := 14) g.1 (lv' := [(14, .long v88), (13, .int v73), (0, .ref (q.1 0 0)), (1, .ref (q.1 28 x.1)), (2, .int x.2.1), (7, .int x.2.2.1), (8, .int x.2.2.2.1), (9, .int x.2.2.2.2.1), (10, .long x.2.2.2.2.2.1), (12, .int x.2.2.2.2.2.2)]) d_Mo_join_89 hl (by decide) rfl fun ls hl => ?_
    refine ww_iload (pc := 91) g.1 d_Mo_join_91 (lv_at hl 1 rfl) ?_
    refine ww_iconst (pc := 93) g.1 (v := 4) d_Mo_join_93 (by decide) ?_
    refine ww_icmp_eq (pc := 94) (tgt := 103) g.1 d_Mo_join_94 (by decide) h (fun c h => ?_) (fun c h => ?_)
    · exact j_Mo_join_j103 g hR x.1 x.2.1 x.2.2.1 x.2.2.2.1 x.2.2.2.2.1 x.2.2.2.2.2.1 x.2.2.2.2.2.2 v73 v88 s hp0 ls (lv_sub hl [2, 3, 4, 5, 6, 7, 8, 9, 1, 0] rfl) h
    · refine ww_iload (pc := 97) g.1 d_Mo_join_97 (lv_at hl 1 rfl) ?_
      refine ww_iconst (pc := 99) g.1 (v := 3) d_Mo_join_99 (by decide) ?_
      refine ww_icmp_ne (pc := 100) (tgt := 273) g.1 d_Mo_join_100 (by decide) h (fun c h => ?_) (fun c h => ?_)
      · rw [oR_eq h] at hR
        exact hR ls hp0 (lv_sub hl [2, 3, 4, 5, 7, 8, 9, 1, 0] rfl)
      · exact j_Mo_join_j103 g hR x.1 x.2.1 x.2.2.1 x.2.2.2.1 x.2.2.2.2.1 x.2.2.2.2.2.1 x.2.2.2.2.2.2 v73 v88 s hp0 ls (lv_sub hl [2, 3, 4, 5, 6, 7, 8, 9, 1, 0] rfl) h

theorem j_Mo_join_j273 {X : Cx} {q : PL} (g : Gd X y_Mo_join b_Mo_join 19 none 8 195 R_Mo) {o : (Unit) × S1} (hR : Rt X q o.2 none) (l1 : Int32) (l2 : Int32) (l7 : Int32) (l9 : Int32) (l10 : Int64) (l12 : Int32) (l13 : Int32) (l14 : Int64) (s : S1) (hp0 : 0 ≤ l1 ∧ l1 < 33) (ls : Array Slot) (hl : lv_has ls 19 [(0, .ref (q.1 0 0)), (1, .ref (q.1 28 l1)), (2, .int l2), (7, .int l7), (9, .int l9), (10, .long l10), (12, .int l12), (13, .int l13), (14, .long l14)]) (h : M_Mo_join_j273 l1 l2 l7 l9 l10 l12 l13 l14 s = some o) : WW X q s 273 ls [] := by
  unfold M_Mo_join_j273 at h
  refine ww_aload_n (pc := 273) g.1 d_Mo_join_273 rfl (lv_at hl 0 rfl) ?_
  refine ww_iconst (pc := 274) g.1 (v := 4) d_Mo_join_274 (by decide) ?_
  refine ww_iload (pc := 275) g.1 d_Mo_join_275 (lv_at hl 3 rfl) ?_
  obtain ⟨v277, s, hc277, h⟩ := oB_of h
  refine ww_callS (pc := 277) (rest := [.int 4, .ref (q.1 0 0)]) g cs_Mo_a (Or.inl kw_280) (ct_Mo_a hc277) ⟨by decide, by decide⟩ rfl hl.1 (Nat.le_of_ble_eq_true rfl) d_Mo_join_277 rfl ?_
  refine ww_st (st' := [.int v277, .int 4, .ref (q.1 0 0)]) rfl ?_
  refine ww_iconst (pc := 280) g.1 (v := 1) d_Mo_join_280 (by decide) ?_
  obtain ⟨v281, s, hc281, h⟩ := oB_of h
  refine ww_callV (pc := 281) (rest := []) g cv_Mo_expect (Or.inl kw_415) cl_Mo (pz rfl (by decide)) (ct_Mo_expect hc281) ⟨by decide, by decide⟩ rfl hl.1 (Nat.le_of_ble_eq_true rfl) d_Mo_join_281 rfl ?_
  refine ww_st (st' := []) rfl ?_
  refine ww_aload_n (pc := 284) g.1 d_Mo_join_284 rfl (lv_at hl 1 rfl) ?_
  refine ww_gR (pc := 285) g (k := 21) cl_Th (pt rfl rfl hp0) (by decide) (Or.inl kw_547) (f := 3605) (t := 40) rfl rfl rfl d_Mo_join_285 ?_
  refine ww_iload_n (pc := 288) g.1 d_Mo_join_288 rfl (lv_at hl 2 rfl) ?_
  refine ww_iload (pc := 289) g.1 d_Mo_join_289 (lv_at hl 6 rfl) ?_
  refine ww_si (pc := 291) g (pt rfl rfl hp0) rfl rfl d_Mo_join_291 h fun s hs h => ?_
  refine ww_aload_n (pc := 292) g.1 d_Mo_join_292 rfl (lv_at hl 0 rfl) ?_
  refine ww_bipush (pc := 293) g.1 (v := 15) d_Mo_join_293 (by decide) ?_
  refine ww_iload (pc := 295) g.1 d_Mo_join_295 (lv_at hl 7 rfl) ?_
  refine ww_lload (pc := 297) g.1 d_Mo_join_297 (lv_at hl 8 rfl) ?_
  refine ww_iload (pc := 299) g.1 d_Mo_join_299 (lv_at hl 4 rfl) ?_
  refine ww_lload (pc := 301) g.1 d_Mo_join_301 (lv_at hl 5 rfl) ?_
  obtain ⟨v303, s, hc303, h⟩ := oB_of h
  refine ww_callV (pc := 303) (rest := []) g cv_Mo_either (Or.inl kw_424) cl_Mo (pz rfl (by decide)) (ct_Mo_either hc303) ⟨by decide, by decide⟩ rfl hl.1 (Nat.le_of_ble_eq_true rfl) d_Mo_join_303 rfl ?_
  refine ww_st (st' := [.int v303]) rfl ?_
  refine ww_if_ne (pc := 306) (tgt := 315) g.1 d_Mo_join_306 (by decide) h (fun c h => ?_) (fun c h => ?_)
  · exact ww_vretH (pc := 315) g h hR d_Mo_join_315
  · refine ww_aload_n (pc := 309) g.1 d_Mo_join_309 rfl (lv_at hl 0 rfl) ?_
    refine ww_iconst (pc := 310) g.1 (v := 3) d_Mo_join_310 (by decide) ?_
    obtain ⟨v311, s, hc311, h⟩ := oB_of h
    refine ww_callV (pc := 311) (rest := []) g cv_Mo_raise (Or.inl kw_157) cl_Mo (pz rfl (by decide)) (ct_Mo_raise hc311) ⟨by decide, by decide⟩ rfl hl.1 (Nat.le_of_ble_eq_true rfl) d_Mo_join_311 rfl ?_
    refine ww_st (st' := [.int v311]) rfl ?_
    refine ww_pop (pc := 314) g.1 d_Mo_join_314 rfl ?_
    exact ww_vretH (pc := 315) g h hR d_Mo_join_315

theorem ct_Mo_join {l : Launch} {P : PP} {q : PL} {s s' : S1} {l1 : Int32} {l2 : Int32} {l3 : Int32} {l4 : Int32} {l5 : Int64} (hp0 : 0 ≤ l1 ∧ l1 < 33) {r : Unit} (h : M_Mo_join l1 l2 l3 l4 l5 s = some (r, s')) : Ct l y_Mo_join b_Mo_join 19 none 8 195 P q s [.ref (q.1 0 0), .ref (q.1 28 l1), .int l2, .int l3, .int l4, .long l5] none q s' := by
  refine ct_of (by decide) (Nat.le_of_ble_eq_true rfl) fun X ls eP el g hR hl => ?_
  subst eP
  have hR : Rt X q ((r, s') : Unit × S1).2 none := hR
  have hl : lv_has ls 19 [(0, .ref (q.1 0 0)), (1, .ref (q.1 28 l1)), (2, .int l2), (3, .int l3), (4, .int l4), (5, .long l5)] := hl
  generalize (r, s') = o at h hR
  unfold M_Mo_join at h
  refine ww_aload_n (pc := 0) g.1 d_Mo_join_0 rfl (lv_at hl 0 rfl) ?_
  refine ww_gR (pc := 1) g (k := 19) cl_Mo (pz rfl (by decide)) (by decide) (Or.inl kw_58) (f := 19) (t := 55) rfl rfl rfl d_Mo_join_1 ?_
  refine ww_aload_n (pc := 4) g.1 d_Mo_join_4 rfl (lv_at hl 0 rfl) ?_
  refine ww_gR (pc := 5) g (k := 13) cl_Mo (pz rfl (by decide)) (by decide) (Or.inl kw_59) (f := 13) (t := 49) rfl rfl rfl d_Mo_join_5 ?_
  refine ww_aload_n (pc := 8) g.1 d_Mo_join_8 rfl (lv_at hl 0 rfl) ?_
  refine ww_gR (pc := 9) g (k := 49) cl_Mo (pz rfl (by decide)) (by decide) (Or.inl kw_87) (f := 49) (t := 62) rfl rfl rfl d_Mo_join_9 ?_
  refine ww_aload_n (pc := 12) g.1 d_Mo_join_12 rfl (lv_at hl 1 rfl) ?_
  refine ww_gR (pc := 13) g (k := 12) cl_Th (pt rfl rfl hp0) (by decide) (Or.inl kw_153) (f := 3596) (t := 31) rfl rfl rfl d_Mo_join_13 ?_
  refine ww_iload_n (pc := 16) g.1 d_Mo_join_16 rfl (lv_at hl 2 rfl) ?_
  refine ww_ai (pc := 17) g (pt rfl rfl hp0) rfl rfl d_Mo_join_17 h fun v17 h => ?_
  refine ww_ai (pc := 18) g (pz rfl (by decide)) rfl rfl d_Mo_join_18 h fun v18 h => ?_
  refine ww_ai (pc := 19) g (pz rfl (by decide)) rfl rfl d_Mo_join_19 h fun v19 h => ?_
  refine ww_aload_n (pc := 20) g.1 d_Mo_join_20 rfl (lv_at hl 1 rfl) ?_
  refine ww_gR (pc := 21) g (k := 13) cl_Th (pt rfl rfl hp0) (by decide) (Or.inl kw_274) (f := 3597) (t := 32) rfl rfl rfl d_Mo_join_21 ?_
  refine ww_iload_n (pc := 24) g.1 d_Mo_join_24 rfl (lv_at hl 2 rfl) ?_
  refine ww_ai (pc := 25) g (pt rfl rfl hp0) rfl rfl d_Mo_join_25 h fun v25 h => ?_
  refine ww_iadd (pc := 26) g.1 d_Mo_join_26 ?_
  refine ww_iconst (pc := 27) g.1 (v := 1) d_Mo_join_27 (by decide) ?_
  refine ww_isub (pc := 28) g.1 d_Mo_join_28 ?_
  refine ww_ai (pc := 29) g (pz rfl (by decide)) rfl rfl d_Mo_join_29 h fun v29 h => ?_
  refine ww_istore (pc := 30) (i := 7) g.1 (lv' := [(7, .int v29), (0, .ref (q.1 0 0)), (1, .ref (q.1 28 l1)), (2, .int l2), (3, .int l3), (4, .int l4), (5, .long l5)]) d_Mo_join_30 hl (by decide) rfl fun ls hl => ?_
  refine ww_aload_n (pc := 32) g.1 d_Mo_join_32 rfl (lv_at hl 2 rfl) ?_
  refine ww_gR (pc := 33) g (k := 14) cl_Th (pt rfl rfl hp0) (by decide) (Or.inl kw_254) (f := 3598) (t := 33) rfl rfl rfl d_Mo_join_33 ?_
  refine ww_iload_n (pc := 36) g.1 d_Mo_join_36 rfl (lv_at hl 3 rfl) ?_
  refine ww_ai (pc := 37) g (pt rfl rfl hp0) rfl rfl d_Mo_join_37 h fun v37 h => ?_
  refine ww_istore (pc := 38) (i := 8) g.1 (lv' := [(8, .int v37), (7, .int v29), (0, .ref (q.1 0 0)), (1, .ref (q.1 28 l1)), (2, .int l2), (3, .int l3), (4, .int l4), (5, .long l5)]) d_Mo_join_38 hl (by decide) rfl fun ls hl => ?_
  refine ww_iload (pc := 40) g.1 d_Mo_join_40 (lv_at hl 6 rfl) ?_
  refine ww_istore (pc := 42) (i := 9) g.1 (lv' := [(9, .int l4), (8, .int v37), (7, .int v29), (0, .ref (q.1 0 0)), (1, .ref (q.1 28 l1)), (2, .int l2), (3, .int l3), (4, .int l4), (5, .long l5)]) d_Mo_join_42 hl (by decide) rfl fun ls hl => ?_
  refine ww_lload (pc := 44) g.1 d_Mo_join_44 (lv_at hl 8 rfl) ?_
  refine ww_lstore (pc := 46) (i := 10) g.1 (lv' := [(10, .long l5), (9, .int l4), (8, .int v37), (7, .int v29), (0, .ref (q.1 0 0)), (1, .ref (q.1 28 l1)), (2, .int l2), (3, .int l3), (4, .int l4), (5, .long l5)]) d_Mo_join_46 hl (by decide) rfl fun ls hl => ?_
  refine ww_iload_n (pc := 48) g.1 d_Mo_join_48 rfl (lv_at hl 7 rfl) ?_
  refine ww_istore (pc := 49) (i := 12) g.1 (lv' := [(12, .int l3), (10, .long l5), (9, .int l4), (8, .int v37), (7, .int v29), (0, .ref (q.1 0 0)), (1, .ref (q.1 28 l1)), (2, .int l2), (3, .int l3), (4, .int l4), (5, .long l5)]) d_Mo_join_49 hl (by decide) rfl fun ls hl => ?_
  obtain ⟨e51, s1, hw, h⟩ := oB_of h
  refine oW_rule (Wh := fun (x : Int32 × Int32 × Int32 × Int32 × Int32 × Int64 × Int32) (s : S1) => ∀ ls : Array Slot, (0 ≤ x.1 ∧ x.1 < 33) → lv_has ls 19 [(0, .ref (q.1 0 0)), (1, .ref (q.1 28 x.1)), (2, .int x.2.1), (7, .int x.2.2.1), (8, .int x.2.2.2.1), (9, .int x.2.2.2.2.1), (10, .long x.2.2.2.2.2.1), (12, .int x.2.2.2.2.2.2)] → WW X q s 51 ls []) (We := fun (e : (Unit) ⊕ (Unit) ⊕ (Int32 × Int32 × Int32 × Int32 × Int64 × Int32 × Int32 × Int64) ⊕ (Int32 × Int32 × Int32 × Int32 × Int64)) (s : S1) => (Sum.elim (fun y : Unit => ∀ ls : Array Slot, lv_has ls 19 [(0, .ref (q.1 0 0))] → WW X q s 169 ls []) (Sum.elim (fun y : Unit => ∀ ls : Array Slot, lv_has ls 19 [] → WW X q s 261 ls []) (Sum.elim (fun y : Int32 × Int32 × Int32 × Int32 × Int64 × Int32 × Int32 × Int64 => ∀ ls : Array Slot, (0 ≤ y.1 ∧ y.1 < 33) → lv_has ls 19 [(0, .ref (q.1 0 0)), (1, .ref (q.1 28 y.1)), (2, .int y.2.1), (7, .int y.2.2.1), (9, .int y.2.2.2.1), (10, .long y.2.2.2.2.1), (12, .int y.2.2.2.2.2.1), (13, .int y.2.2.2.2.2.2.1), (14, .long y.2.2.2.2.2.2.2)] → WW X q s 273 ls []) (fun y : Int32 × Int32 × Int32 × Int32 × Int64 => ∀ ls : Array Slot, (0 ≤ y.1 ∧ y.1 < 33) → lv_has ls 19 [(1, .ref (q.1 28 y.1)), (7, .int y.2.1), (8, .int y.2.2.1), (9, .int y.2.2.2.1), (10, .long y.2.2.2.2)] → WW X q s 322 ls [])))) e) (fun x s o hb hc => lp_Mo_join_L51 (q := q) g x s o hb hc) hw ?_ ls hp0 (lv_sub hl [5, 6, 7, 4, 3, 2, 1, 0] rfl)
  clear hw hl
  clear ls
  generalize s1 = s at h ⊢
  rcases e51 with y51_169 | y51_261 | y51_273 | y51_322
  · intro ls hl
    dsimp only [Sum.elim_inl, Sum.elim_inr] at h
    refine ww_aload_n (pc := 169) g.1 d_Mo_join_169 rfl (lv_at hl 0 rfl) ?_
    refine ww_bipush (pc := 170) g.1 (v := 11) d_Mo_join_170 (by decide) ?_
    obtain ⟨v172, s, hc172, h⟩ := oB_of h
    refine ww_callV (pc := 172) (rest := []) g cv_Mo_raise (Or.inl kw_157) cl_Mo (pz rfl (by decide)) (ct_Mo_raise hc172) ⟨by decide, by decide⟩ rfl hl.1 (Nat.le_of_ble_eq_true rfl) d_Mo_join_172 rfl ?_
    refine ww_st (st' := [.int v172]) rfl ?_
    refine ww_pop (pc := 175) g.1 d_Mo_join_175 rfl ?_
    exact ww_vretH (pc := 176) g h hR d_Mo_join_176
  · intro ls hl
    dsimp only [Sum.elim_inl, Sum.elim_inr] at h
    exact ww_vretH (pc := 261) g h hR d_Mo_join_261
  · intro ls hq51_0 hl
    dsimp only [Sum.elim_inl, Sum.elim_inr] at h
    exact j_Mo_join_j273 g hR y51_273.1 y51_273.2.1 y51_273.2.2.1 y51_273.2.2.2.1 y51_273.2.2.2.2.1 y51_273.2.2.2.2.2.1 y51_273.2.2.2.2.2.2.1 y51_273.2.2.2.2.2.2.2 s hq51_0 ls (lv_sub hl [0, 1, 2, 3, 4, 5, 6, 7, 8] rfl) h
  · intro ls hq51_0 hl
    dsimp only [Sum.elim_inl, Sum.elim_inr] at h
    refine ww_aload_n (pc := 322) g.1 d_Mo_join_322 rfl (lv_at hl 0 rfl) ?_
    refine ww_gR (pc := 323) g (k := 7) cl_Th (pt rfl rfl hq51_0) (by decide) (Or.inl kw_89) (f := 3591) (t := 19) rfl rfl rfl d_Mo_join_323 ?_
    refine ww_iload (pc := 326) g.1 d_Mo_join_326 (lv_at hl 2 rfl) ?_
    refine ww_iload (pc := 328) g.1 d_Mo_join_328 (lv_at hl 1 rfl) ?_
    obtain ⟨v330, s, hc330, h⟩ := oB_of h
    refine ww_callS (pc := 330) (rest := [.int y51_322.2.2.1, .ref (q.1 19 y51_322.1)]) g cs_Mo_a (Or.inl kw_280) (ct_Mo_a hc330) ⟨by decide, by decide⟩ rfl hl.1 (Nat.le_of_ble_eq_true rfl) d_Mo_join_330 rfl ?_
    refine ww_st (st' := [.int v330, .int y51_322.2.2.1, .ref (q.1 19 y51_322.1)]) rfl ?_
    refine ww_iadd (pc := 333) g.1 d_Mo_join_333 ?_
    refine ww_iload (pc := 334) g.1 d_Mo_join_334 (lv_at hl 3 rfl) ?_
    refine ww_lload (pc := 336) g.1 d_Mo_join_336 (lv_at hl 4 rfl) ?_
    obtain ⟨v338, s, hc338, h⟩ := oB_of h
    refine ww_callV (pc := 338) (rest := []) g cv_Va_set (Or.inl kw_99) (cl_Va (Or.inr ⟨by decide, hq51_0⟩)) (pt rfl rfl hq51_0) (ct_Va_set (Or.inr ⟨by decide, hq51_0⟩) hc338) ⟨by decide, by decide⟩ rfl hl.1 (Nat.le_of_ble_eq_true rfl) d_Mo_join_338 rfl ?_
    refine ww_st (st' := []) rfl ?_
    exact ww_vretH (pc := 341) g h hR d_Mo_join_341


