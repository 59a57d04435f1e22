abbrev b_St_reckoned : ByteArray := prog_10_method_15_code
def y_St_reckoned : MethodName := ⟨R_St, "reckoned", "(JJ)J"⟩
abbrev w_St_reckoned : List Cond := .code y_St_reckoned b_St_reckoned 5 (some .long) :: wA
theorem k_St_reckoned : Cond.code y_St_reckoned b_St_reckoned 5 (some .long) ∈ wA := kinm (show _ ∈ tables_1 from (List.mem_append_right _ (List.mem_append_right _ (List.mem_append_right _ (List.mem_append_right _ (List.mem_append_right _ (List.mem_append_right _ (List.mem_append_left _ (List.mem_of_getElem? (l := tables_1_7) (i := 114) (by decide +kernel)))))))))) (by decide +kernel)
theorem d_St_reckoned_0 : decode b_St_reckoned 0 = .ok (.aload_n 0, 1) := by decide +kernel
theorem d_St_reckoned_1 : decode b_St_reckoned 1 = .ok (.getfield 54, 3) := by decide +kernel
theorem d_St_reckoned_4 : decode b_St_reckoned 4 = .ok (.tableswitch 122 13 23 #[60, 64, 68, 72, 122, 122, 88, 104, 108, 112, 116], 60) := by decide +kernel
theorem d_St_reckoned_64 : decode b_St_reckoned 64 = .ok (.lload_n 1, 1) := by decide +kernel
theorem d_St_reckoned_65 : decode b_St_reckoned 65 = .ok (.lload_n 3, 1) := by decide +kernel
theorem d_St_reckoned_66 : decode b_St_reckoned 66 = .ok (.ladd, 1) := by decide +kernel
theorem d_St_reckoned_67 : decode b_St_reckoned 67 = .ok (.lreturn, 1) := by decide +kernel
theorem d_St_reckoned_68 : decode b_St_reckoned 68 = .ok (.lload_n 1, 1) := by decide +kernel
theorem d_St_reckoned_69 : decode b_St_reckoned 69 = .ok (.lload_n 3, 1) := by decide +kernel
theorem d_St_reckoned_70 : decode b_St_reckoned 70 = .ok (.lsub, 1) := by decide +kernel
theorem d_St_reckoned_71 : decode b_St_reckoned 71 = .ok (.lreturn, 1) := by decide +kernel
theorem d_St_reckoned_72 : decode b_St_reckoned 72 = .ok (.lload_n 1, 1) := by decide +kernel
theorem d_St_reckoned_73 : decode b_St_reckoned 73 = .ok (.lload_n 3, 1) := by decide +kernel
theorem d_St_reckoned_74 : decode b_St_reckoned 74 = .ok (.lmul, 1) := by decide +kernel
theorem d_St_reckoned_75 : decode b_St_reckoned 75 = .ok (.lreturn, 1) := by decide +kernel
theorem d_St_reckoned_76 : decode b_St_reckoned 76 = .ok (.lload_n 3, 1) := by decide +kernel
theorem d_St_reckoned_77 : decode b_St_reckoned 77 = .ok (.lconst 0, 1) := by decide +kernel
theorem d_St_reckoned_78 : decode b_St_reckoned 78 = .ok (.lcmp, 1) := by decide +kernel
theorem d_St_reckoned_79 : decode b_St_reckoned 79 = .ok (.ifCond .ne 7, 3) := by decide +kernel
theorem d_St_reckoned_82 : decode b_St_reckoned 82 = .ok (.lconst 0, 1) := by decide +kernel
theorem d_St_reckoned_83 : decode b_St_reckoned 83 = .ok (.goto 8, 3) := by decide +kernel
theorem d_St_reckoned_86 : decode b_St_reckoned 86 = .ok (.lload_n 1, 1) := by decide +kernel
theorem d_St_reckoned_87 : decode b_St_reckoned 87 = .ok (.lload_n 3, 1) := by decide +kernel
theorem d_St_reckoned_88 : decode b_St_reckoned 88 = .ok (.invokestatic 233, 3) := by decide +kernel
theorem d_St_reckoned_91 : decode b_St_reckoned 91 = .ok (.lreturn, 1) := by decide +kernel
theorem d_St_reckoned_92 : decode b_St_reckoned 92 = .ok (.lload_n 3, 1) := by decide +kernel
theorem d_St_reckoned_93 : decode b_St_reckoned 93 = .ok (.lconst 0, 1) := by decide +kernel
theorem d_St_reckoned_94 : decode b_St_reckoned 94 = .ok (.lcmp, 1) := by decide +kernel
theorem d_St_reckoned_95 : decode b_St_reckoned 95 = .ok (.ifCond .ne 7, 3) := by decide +kernel
theorem d_St_reckoned_98 : decode b_St_reckoned 98 = .ok (.lconst 0, 1) := by decide +kernel
theorem d_St_reckoned_99 : decode b_St_reckoned 99 = .ok (.goto 8, 3) := by decide +kernel
theorem d_St_reckoned_102 : decode b_St_reckoned 102 = .ok (.lload_n 1, 1) := by decide +kernel
theorem d_St_reckoned_103 : decode b_St_reckoned 103 = .ok (.lload_n 3, 1) := by decide +kernel
theorem d_St_reckoned_104 : decode b_St_reckoned 104 = .ok (.invokestatic 238, 3) := by decide +kernel
theorem d_St_reckoned_107 : decode b_St_reckoned 107 = .ok (.lreturn, 1) := by decide +kernel
theorem d_St_reckoned_108 : decode b_St_reckoned 108 = .ok (.lload_n 1, 1) := by decide +kernel
theorem d_St_reckoned_109 : decode b_St_reckoned 109 = .ok (.lload_n 3, 1) := by decide +kernel
theorem d_St_reckoned_110 : decode b_St_reckoned 110 = .ok (.land, 1) := by decide +kernel
theorem d_St_reckoned_111 : decode b_St_reckoned 111 = .ok (.lreturn, 1) := by decide +kernel
theorem d_St_reckoned_112 : decode b_St_reckoned 112 = .ok (.lload_n 1, 1) := by decide +kernel
theorem d_St_reckoned_113 : decode b_St_reckoned 113 = .ok (.lload_n 3, 1) := by decide +kernel
theorem d_St_reckoned_114 : decode b_St_reckoned 114 = .ok (.lor, 1) := by decide +kernel
theorem d_St_reckoned_115 : decode b_St_reckoned 115 = .ok (.lreturn, 1) := by decide +kernel
theorem d_St_reckoned_116 : decode b_St_reckoned 116 = .ok (.lload_n 1, 1) := by decide +kernel
theorem d_St_reckoned_117 : decode b_St_reckoned 117 = .ok (.lload_n 3, 1) := by decide +kernel
theorem d_St_reckoned_118 : decode b_St_reckoned 118 = .ok (.lxor, 1) := by decide +kernel
theorem d_St_reckoned_119 : decode b_St_reckoned 119 = .ok (.lreturn, 1) := by decide +kernel
theorem d_St_reckoned_120 : decode b_St_reckoned 120 = .ok (.lload_n 1, 1) := by decide +kernel
theorem d_St_reckoned_121 : decode b_St_reckoned 121 = .ok (.lload_n 3, 1) := by decide +kernel
theorem d_St_reckoned_122 : decode b_St_reckoned 122 = .ok (.invokestatic 241, 3) := by decide +kernel
theorem d_St_reckoned_125 : decode b_St_reckoned 125 = .ok (.lreturn, 1) := by decide +kernel
theorem d_St_reckoned_126 : decode b_St_reckoned 126 = .ok (.lload_n 1, 1) := by decide +kernel
theorem d_St_reckoned_127 : decode b_St_reckoned 127 = .ok (.lload_n 3, 1) := by decide +kernel
theorem d_St_reckoned_128 : decode b_St_reckoned 128 = .ok (.lneg, 1) := by decide +kernel
theorem d_St_reckoned_129 : decode b_St_reckoned 129 = .ok (.invokestatic 241, 3) := by decide +kernel
theorem d_St_reckoned_132 : decode b_St_reckoned 132 = .ok (.lreturn, 1) := by decide +kernel
theorem kw_1112 : Cond.methodLink R_St 233 y_Mth_floorMod ∈ wA := kinm (show _ ∈ tables_1 from (List.mem_append_right _ (List.mem_append_right _ (List.mem_append_right _ (List.mem_append_right _ (List.mem_append_right _ (List.mem_append_right _ (List.mem_append_left _ (List.mem_of_getElem? (l := tables_1_7) (i := 115) (by decide +kernel)))))))))) (by decide +kernel)
theorem kw_1113 : Cond.methodLink R_St 238 y_Mth_floorDiv ∈ wA := kinm (show _ ∈ tables_1 from (List.mem_append_right _ (List.mem_append_right _ (List.mem_append_right _ (List.mem_append_right _ (List.mem_append_right _ (List.mem_append_right _ (List.mem_append_left _ (List.mem_of_getElem? (l := tables_1_7) (i := 118) (by decide +kernel)))))))))) (by decide +kernel)
theorem kw_1114 : Cond.methodLink R_St 241 y_St_shifted ∈ wA := kinm (show _ ∈ tables_1 from (List.mem_append_right _ (List.mem_append_right _ (List.mem_append_right _ (List.mem_append_right _ (List.mem_append_right _ (List.mem_append_right _ (List.mem_append_left _ (List.mem_of_getElem? (l := tables_1_7) (i := 121) (by decide +kernel)))))))))) (by decide +kernel)
theorem kw_1115 : Cond.instanceMethod y_St_reckoned ∈ wA := kinm (show _ ∈ tables_1 from (List.mem_append_right _ (List.mem_append_right _ (List.mem_append_right _ (List.mem_append_right _ (List.mem_append_right _ (List.mem_append_right _ (List.mem_append_left _ (List.mem_of_getElem? (l := tables_1_7) (i := 113) (by decide +kernel)))))))))) (by decide +kernel)
theorem kw_1116 : Cond.selects R_St y_St_reckoned y_St_reckoned ∈ wA := kinp 49 (by decide +kernel) (by decide +kernel)
theorem cv_St_reckoned : CV y_St_reckoned b_St_reckoned 5 (some .long) 2 := ⟨kw_1115, kw_1116, kw_883, k_St_reckoned, by decide +kernel⟩
theorem ct_St_reckoned {l : Launch} {P : PP} {q : PL} {s s' : S1} {l1 : Int64} {l3 : Int64} {r : Int64} (h : M_St_reckoned l1 l3 s = some (r, s')) : Ct l y_St_reckoned b_St_reckoned 5 (some .long) 1 25 P q s [.ref (q.1 129 0), .long l1, .long l3] (some (.long r)) q s' := by
  refine ct_of (by decide) (Nat.le_of_ble_eq_true rfl) fun X ls eP el g hR hl => ?_
  subst eP
  have hR : Rt X q ((r, s') : Int64 × S1).2 (some (.long ((r, s') : Int64 × S1).1)) := hR
  have hl : lv_has ls 5 [(0, .ref (q.1 129 0)), (1, .long l1), (3, .long l3)] := hl
  generalize (r, s') = o at h hR
  unfold M_St_reckoned at h
  refine ww_aload_n (pc := 0) g.1 d_St_reckoned_0 rfl (lv_at hl 0 rfl) ?_
  refine ww_gI (pc := 1) g (k := 8) cl_St (pz rfl (by decide)) (by decide) (Or.inl kw_876) (f := 16520) rfl rfl d_St_reckoned_1 h fun v1 h => ?_
  by_cases c4_64 : v1 = 13
  · have h := oC_pos c4_64 h
    have c := c4_64
    refine ww_tableIn (pc := 4) (tgt := 64) g.1 d_St_reckoned_4 (by rw [c]; decide) (by rw [c]; decide) (by rw [c] <;> rfl) (by decide) ?_
    refine ww_lload_n (pc := 64) g.1 d_St_reckoned_64 rfl (lv_at hl 1 rfl) ?_
    refine ww_lload_n (pc := 65) g.1 d_St_reckoned_65 rfl (lv_at hl 2 rfl) ?_
    refine ww_ladd (pc := 66) g.1 d_St_reckoned_66 ?_
    exact ww_lretH (pc := 67) g h hR d_St_reckoned_67
  have h := oC_neg c4_64 h
  by_cases c4_68 : v1 = 14
  · have h := oC_pos c4_68 h
    have c := c4_68
    refine ww_tableIn (pc := 4) (tgt := 68) g.1 d_St_reckoned_4 (by rw [c]; decide) (by rw [c]; decide) (by rw [c] <;> rfl) (by decide) ?_
    refine ww_lload_n (pc := 68) g.1 d_St_reckoned_68 rfl (lv_at hl 1 rfl) ?_
    refine ww_lload_n (pc := 69) g.1 d_St_reckoned_69 rfl (lv_at hl 2 rfl) ?_
    refine ww_lsub (pc := 70) g.1 d_St_reckoned_70 ?_
    exact ww_lretH (pc := 71) g h hR d_St_reckoned_71
  have h := oC_neg c4_68 h
  by_cases c4_72 : v1 = 15
  · have h := oC_pos c4_72 h
    have c := c4_72
    refine ww_tableIn (pc := 4) (tgt := 72) g.1 d_St_reckoned_4 (by rw [c]; decide) (by rw [c]; decide) (by rw [c] <;> rfl) (by decide) ?_
    refine ww_lload_n (pc := 72) g.1 d_St_reckoned_72 rfl (lv_at hl 1 rfl) ?_
    refine ww_lload_n (pc := 73) g.1 d_St_reckoned_73 rfl (lv_at hl 2 rfl) ?_
    refine ww_lmul (pc := 74) g.1 d_St_reckoned_74 ?_
    exact ww_lretH (pc := 75) g h hR d_St_reckoned_75
  have h := oC_neg c4_72 h
  by_cases c4_76 : v1 = 16
  · have h := oC_pos c4_76 h
    have c := c4_76
    refine ww_tableIn (pc := 4) (tgt := 76) g.1 d_St_reckoned_4 (by rw [c]; decide) (by rw [c]; decide) (by rw [c] <;> rfl) (by decide) ?_
    refine ww_lload_n (pc := 76) g.1 d_St_reckoned_76 rfl (lv_at hl 2 rfl) ?_
    refine ww_lconst (pc := 77) g.1 (v := 0) d_St_reckoned_77 (by decide) ?_
    refine ww_lcmp (pc := 78) g.1 d_St_reckoned_78 ?_
    refine ww_if_ne (pc := 79) (tgt := 86) g.1 d_St_reckoned_79 (by decide) h (fun c h => ?_) (fun c h => ?_)
    · refine ww_lload_n (pc := 86) g.1 d_St_reckoned_86 rfl (lv_at hl 1 rfl) ?_
      refine ww_lload_n (pc := 87) g.1 d_St_reckoned_87 rfl (lv_at hl 2 rfl) ?_
      obtain ⟨v88, s, hc88, h⟩ := oB_of h
      refine ww_callS (pc := 88) (rest := []) g cs_Mth_floorMod (Or.inl kw_1112) (ct_Mth_floorMod hc88) ⟨by decide, by decide⟩ rfl hl.1 (Nat.le_of_ble_eq_true rfl) d_St_reckoned_88 rfl (?_)
      refine ww_st (st' := [.long v88]) rfl ?_
      exact ww_lretH (pc := 91) g h hR d_St_reckoned_91
    · refine ww_lconst (pc := 82) g.1 (v := 0) d_St_reckoned_82 (by decide) ?_
      refine ww_goto (pc := 83) (tgt := 91) g.1 d_St_reckoned_83 (by decide) ?_
      exact ww_lretH (pc := 91) g h hR d_St_reckoned_91
  have h := oC_neg c4_76 h
  by_cases c4_92 : v1 = 19
  · have h := oC_pos c4_92 h
    have c := c4_92
    refine ww_tableIn (pc := 4) (tgt := 92) g.1 d_St_reckoned_4 (by rw [c]; decide) (by rw [c]; decide) (by rw [c] <;> rfl) (by decide) ?_
    refine ww_lload_n (pc := 92) g.1 d_St_reckoned_92 rfl (lv_at hl 2 rfl) ?_
    refine ww_lconst (pc := 93) g.1 (v := 0) d_St_reckoned_93 (by decide) ?_
    refine ww_lcmp (pc := 94) g.1 d_St_reckoned_94 ?_
    refine ww_if_ne (pc := 95) (tgt := 102) g.1 d_St_reckoned_95 (by decide) h (fun c h => ?_) (fun c h => ?_)
    · refine ww_lload_n (pc := 102) g.1 d_St_reckoned_102 rfl (lv_at hl 1 rfl) ?_
      refine ww_lload_n (pc := 103) g.1 d_St_reckoned_103 rfl (lv_at hl 2 rfl) ?_
      obtain ⟨v104, s, hc104, h⟩ := oB_of h
      refine ww_callS (pc := 104) (rest := []) g cs_Mth_floorDiv (Or.inl kw_1113) (ct_Mth_floorDiv hc104) ⟨by decide, by decide⟩ rfl hl.1 (Nat.le_of_ble_eq_true rfl) d_St_reckoned_104 rfl (?_)
      refine ww_st (st' := [.long v104]) rfl ?_
      exact ww_lretH (pc := 107) g h hR d_St_reckoned_107
    · refine ww_lconst (pc := 98) g.1 (v := 0) d_St_reckoned_98 (by decide) ?_
      refine ww_goto (pc := 99) (tgt := 107) g.1 d_St_reckoned_99 (by decide) ?_
      exact ww_lretH (pc := 107) g h hR d_St_reckoned_107
  have h := oC_neg c4_92 h
  by_cases c4_108 : v1 = 20
  · have h := oC_pos c4_108 h
    have c := c4_108
    refine ww_tableIn (pc := 4) (tgt := 108) g.1 d_St_reckoned_4 (by rw [c]; decide) (by rw [c]; decide) (by rw [c] <;> rfl) (by decide) ?_
    refine ww_lload_n (pc := 108) g.1 d_St_reckoned_108 rfl (lv_at hl 1 rfl) ?_
    refine ww_lload_n (pc := 109) g.1 d_St_reckoned_109 rfl (lv_at hl 2 rfl) ?_
    refine ww_land (pc := 110) g.1 d_St_reckoned_110 ?_
    exact ww_lretH (pc := 111) g h hR d_St_reckoned_111
  have h := oC_neg c4_108 h
  by_cases c4_112 : v1 = 21
  · have h := oC_pos c4_112 h
    have c := c4_112
    refine ww_tableIn (pc := 4) (tgt := 112) g.1 d_St_reckoned_4 (by rw [c]; decide) (by rw [c]; decide) (by rw [c] <;> rfl) (by decide) ?_
    refine ww_lload_n (pc := 112) g.1 d_St_reckoned_112 rfl (lv_at hl 1 rfl) ?_
    refine ww_lload_n (pc := 113) g.1 d_St_reckoned_113 rfl (lv_at hl 2 rfl) ?_
    refine ww_lor (pc := 114) g.1 d_St_reckoned_114 ?_
    exact ww_lretH (pc := 115) g h hR d_St_reckoned_115
  have h := oC_neg c4_112 h
  by_cases c4_116 : v1 = 22
  · have h := oC_pos c4_116 h
    have c := c4_116
    refine ww_tableIn (pc := 4) (tgt := 116) g.1 d_St_reckoned_4 (by rw [c]; decide) (by rw [c]; decide) (by rw [c] <;> rfl) (by decide) ?_
    refine ww_lload_n (pc := 116) g.1 d_St_reckoned_116 rfl (lv_at hl 1 rfl) ?_
    refine ww_lload_n (pc := 117) g.1 d_St_reckoned_117 rfl (lv_at hl 2 rfl) ?_
    refine ww_lxor (pc := 118) g.1 d_St_reckoned_118 ?_
    exact ww_lretH (pc := 119) g h hR d_St_reckoned_119
  have h := oC_neg c4_116 h
  by_cases c4_120 : v1 = 23
  · have h := oC_pos c4_120 h
    have c := c4_120
    refine ww_tableIn (pc := 4) (tgt := 120) g.1 d_St_reckoned_4 (by rw [c]; decide) (by rw [c]; decide) (by rw [c] <;> rfl) (by decide) ?_
    refine ww_lload_n (pc := 120) g.1 d_St_reckoned_120 rfl (lv_at hl 1 rfl) ?_
    refine ww_lload_n (pc := 121) g.1 d_St_reckoned_121 rfl (lv_at hl 2 rfl) ?_
    obtain ⟨v122, s, hc122, h⟩ := oB_of h
    refine ww_callS (pc := 122) (rest := []) g cs_St_shifted (Or.inl kw_1114) (ct_St_shifted hc122) ⟨by decide, by decide⟩ rfl hl.1 (Nat.le_of_ble_eq_true rfl) d_St_reckoned_122 rfl (?_)
    refine ww_st (st' := [.long v122]) rfl ?_
    exact ww_lretH (pc := 125) g h hR d_St_reckoned_125
  have h := oC_neg c4_120 h
  have n_13 : ¬ v1.toInt = 13 := lv_neT (fun e => c4_64 e) rfl
  have n_14 : ¬ v1.toInt = 14 := lv_neT (fun e => c4_68 e) rfl
  have n_15 : ¬ v1.toInt = 15 := lv_neT (fun e => c4_72 e) rfl
  have n_16 : ¬ v1.toInt = 16 := lv_neT (fun e => c4_76 e) rfl
  have n_19 : ¬ v1.toInt = 19 := lv_neT (fun e => c4_92 e) rfl
  have n_20 : ¬ v1.toInt = 20 := lv_neT (fun e => c4_108 e) rfl
  have n_21 : ¬ v1.toInt = 21 := lv_neT (fun e => c4_112 e) rfl
  have n_22 : ¬ v1.toInt = 22 := lv_neT (fun e => c4_116 e) rfl
  have n_23 : ¬ v1.toInt = 23 := lv_neT (fun e => c4_120 e) rfl
  by_cases hr : v1.toInt < 13 ∨ 23 < v1.toInt
  · refine ww_tableOut (pc := 4) (tgt := 126) g.1 d_St_reckoned_4 hr (by decide) ?_
    refine ww_lload_n (pc := 126) g.1 d_St_reckoned_126 rfl (lv_at hl 1 rfl) ?_
    refine ww_lload_n (pc := 127) g.1 d_St_reckoned_127 rfl (lv_at hl 2 rfl) ?_
    refine ww_lneg (pc := 128) g.1 d_St_reckoned_128 ?_
    obtain ⟨v129, s, hc129, h⟩ := oB_of h
    refine ww_callS (pc := 129) (rest := []) g cs_St_shifted (Or.inl kw_1114) (ct_St_shifted hc129) ⟨by decide, by decide⟩ rfl hl.1 (Nat.le_of_ble_eq_true rfl) d_St_reckoned_129 rfl (?_)
    refine ww_st (st' := [.long v129]) rfl ?_
    exact ww_lretH (pc := 132) g h hR d_St_reckoned_132
  have hh : v1.toInt = 17 ∨ v1.toInt = 18 := by omega
  rcases hh with c | c
  · refine ww_tableIn (pc := 4) (tgt := 126) g.1 d_St_reckoned_4 (by rw [c]; decide) (by rw [c]; decide) (by rw [c] <;> rfl) (by decide) ?_
    refine ww_lload_n (pc := 126) g.1 d_St_reckoned_126 rfl (lv_at hl 1 rfl) ?_
    refine ww_lload_n (pc := 127) g.1 d_St_reckoned_127 rfl (lv_at hl 2 rfl) ?_
    refine ww_lneg (pc := 128) g.1 d_St_reckoned_128 ?_
    obtain ⟨v129, s, hc129, h⟩ := oB_of h
    refine ww_callS (pc := 129) (rest := []) g cs_St_shifted (Or.inl kw_1114) (ct_St_shifted hc129) ⟨by decide, by decide⟩ rfl hl.1 (Nat.le_of_ble_eq_true rfl) d_St_reckoned_129 rfl (?_)
    refine ww_st (st' := [.long v129]) rfl ?_
    exact ww_lretH (pc := 132) g h hR d_St_reckoned_132
  · refine ww_tableIn (pc := 4) (tgt := 126) g.1 d_St_reckoned_4 (by rw [c]; decide) (by rw [c]; decide) (by rw [c] <;> rfl) (by decide) ?_
    refine ww_lload_n (pc := 126) g.1 d_St_reckoned_126 rfl (lv_at hl 1 rfl) ?_
    refine ww_lload_n (pc := 127) g.1 d_St_reckoned_127 rfl (lv_at hl 2 rfl) ?_
    refine ww_lneg (pc := 128) g.1 d_St_reckoned_128 ?_
    obtain ⟨v129, s, hc129, h⟩ := oB_of h
    refine ww_callS (pc := 129) (rest := []) g cs_St_shifted (Or.inl kw_1114) (ct_St_shifted hc129) ⟨by decide, by decide⟩ rfl hl.1 (Nat.le_of_ble_eq_true rfl) d_St_reckoned_129 rfl (?_)
    refine ww_st (st' := [.long v129]) rfl ?_
    exact ww_lretH (pc := 132) g h hR d_St_reckoned_132

abbrev b_Ta_border : ByteArray := prog_11_method_7_code
def y_Ta_border : MethodName := ⟨R_Ta, "border", "(I)I"⟩
abbrev w_Ta_border : List Cond := .code y_Ta_border b_Ta_border 5 (some .int) :: wA
theorem k_Ta_border : Cond.code y_Ta_border b_Ta_border 5 (some .int) ∈ wA := kinm (show _ ∈ tables_1 from (List.mem_append_right _ (List.mem_append_right _ (List.mem_append_right _ (List.mem_append_right _ (List.mem_append_right _ (List.mem_append_right _ (List.mem_append_left _ (List.mem_of_getElem? (l := tables_1_7) (i := 141) (by decide +kernel)))))))))) (by decide +kernel)
theorem d_Ta_border_0 : decode b_Ta_border 0 = .ok (.aload_n 0, 1) := by decide +kernel
theorem d_Ta_border_1 : decode b_Ta_border 1 = .ok (.getfield 36, 3) := by decide +kernel
theorem d_Ta_border_4 : decode b_Ta_border 4 = .ok (.getfield 50, 3) := by decide +kernel
theorem d_Ta_border_7 : decode b_Ta_border 7 = .ok (.iload_n 1, 1) := by decide +kernel
theorem d_Ta_border_8 : decode b_Ta_border 8 = .ok (.aaload, 1) := by decide +kernel
theorem d_Ta_border_9 : decode b_Ta_border 9 = .ok (.astore_n 2, 1) := by decide +kernel
theorem d_Ta_border_10 : decode b_Ta_border 10 = .ok (.aload_n 2, 1) := by decide +kernel
theorem d_Ta_border_11 : decode b_Ta_border 11 = .ok (.getfield 68, 3) := by decide +kernel
theorem d_Ta_border_14 : decode b_Ta_border 14 = .ok (.istore_n 3, 1) := by decide +kernel
theorem d_Ta_border_15 : decode b_Ta_border 15 = .ok (.iload_n 3, 1) := by decide +kernel
theorem d_Ta_border_16 : decode b_Ta_border 16 = .ok (.aload_n 2, 1) := by decide +kernel
theorem d_Ta_border_17 : decode b_Ta_border 17 = .ok (.getfield 59, 3) := by decide +kernel
theorem d_Ta_border_20 : decode b_Ta_border 20 = .ok (.if_icmp .ge 46, 3) := by decide +kernel
theorem d_Ta_border_23 : decode b_Ta_border 23 = .ok (.aload_n 0, 1) := by decide +kernel
theorem d_Ta_border_24 : decode b_Ta_border 24 = .ok (.iload_n 1, 1) := by decide +kernel
theorem d_Ta_border_25 : decode b_Ta_border 25 = .ok (.iconst 3, 1) := by decide +kernel
theorem d_Ta_border_26 : decode b_Ta_border 26 = .ok (.iload_n 3, 1) := by decide +kernel
theorem d_Ta_border_27 : decode b_Ta_border 27 = .ok (.iconst 1, 1) := by decide +kernel
theorem d_Ta_border_28 : decode b_Ta_border 28 = .ok (.iadd, 1) := by decide +kernel
theorem d_Ta_border_29 : decode b_Ta_border 29 = .ok (.i2l, 1) := by decide +kernel
theorem d_Ta_border_30 : decode b_Ta_border 30 = .ok (.invokevirtual 82, 3) := by decide +kernel
theorem d_Ta_border_33 : decode b_Ta_border 33 = .ok (.istore 4, 2) := by decide +kernel
theorem d_Ta_border_35 : decode b_Ta_border 35 = .ok (.iload 4, 2) := by decide +kernel
theorem d_Ta_border_37 : decode b_Ta_border 37 = .ok (.ifCond .lt 29, 3) := by decide +kernel
theorem d_Ta_border_40 : decode b_Ta_border 40 = .ok (.aload_n 0, 1) := by decide +kernel
theorem d_Ta_border_41 : decode b_Ta_border 41 = .ok (.getfield 20, 3) := by decide +kernel
theorem d_Ta_border_44 : decode b_Ta_border 44 = .ok (.iload 4, 2) := by decide +kernel
theorem d_Ta_border_46 : decode b_Ta_border 46 = .ok (.baload, 1) := by decide +kernel
theorem d_Ta_border_47 : decode b_Ta_border 47 = .ok (.ifCond .ne 6, 3) := by decide +kernel
theorem d_Ta_border_50 : decode b_Ta_border 50 = .ok (.goto 16, 3) := by decide +kernel
theorem d_Ta_border_53 : decode b_Ta_border 53 = .ok (.aload_n 2, 1) := by decide +kernel
theorem d_Ta_border_54 : decode b_Ta_border 54 = .ok (.iload_n 3, 1) := by decide +kernel
theorem d_Ta_border_55 : decode b_Ta_border 55 = .ok (.iconst 1, 1) := by decide +kernel
theorem d_Ta_border_56 : decode b_Ta_border 56 = .ok (.iadd, 1) := by decide +kernel
theorem d_Ta_border_57 : decode b_Ta_border 57 = .ok (.putfield 68, 3) := by decide +kernel
theorem d_Ta_border_60 : decode b_Ta_border 60 = .ok (.iinc 3 1, 3) := by decide +kernel
theorem d_Ta_border_63 : decode b_Ta_border 63 = .ok (.goto (-48), 3) := by decide +kernel
theorem d_Ta_border_66 : decode b_Ta_border 66 = .ok (.aload_n 2, 1) := by decide +kernel
theorem d_Ta_border_67 : decode b_Ta_border 67 = .ok (.getfield 68, 3) := by decide +kernel
theorem d_Ta_border_70 : decode b_Ta_border 70 = .ok (.ireturn, 1) := by decide +kernel
theorem kw_1117 : Cond.fieldLink R_Ta 68 "LuaMachine$Thing" "border" "I" ∈ wA := kinm (show _ ∈ tables_1 from (List.mem_append_right _ (List.mem_append_right _ (List.mem_append_right _ (List.mem_append_right _ (List.mem_append_left _ (List.mem_of_getElem? (l := tables_1_5) (i := 202) (by decide +kernel)))))))) (by decide +kernel)
theorem kw_1118 : Cond.instanceMethod y_Ta_border ∈ wA := kinm (show _ ∈ tables_1 from (List.mem_append_right _ (List.mem_append_right _ (List.mem_append_right _ (List.mem_append_right _ (List.mem_append_right _ (List.mem_append_right _ (List.mem_append_left _ (List.mem_of_getElem? (l := tables_1_7) (i := 139) (by decide +kernel)))))))))) (by decide +kernel)
theorem kw_1119 : Cond.selects R_Ta y_Ta_border y_Ta_border ∈ wA := kinm (show _ ∈ tables_1 from (List.mem_append_right _ (List.mem_append_right _ (List.mem_append_right _ (List.mem_append_right _ (List.mem_append_right _ (List.mem_append_right _ (List.mem_append_left _ (List.mem_of_getElem? (l := tables_1_7) (i := 140) (by decide +kernel)))))))))) (by decide +kernel)
theorem cv_Ta_border : CV y_Ta_border b_Ta_border 5 (some .int) 1 := ⟨kw_1118, kw_1119, kw_717, k_Ta_border, by decide +kernel⟩
theorem lp_Ta_border_L15 {X : Cx} {q : PL} (g : Gd X y_Ta_border b_Ta_border 5 (some .int) 2 51 R_Ta) (x : Int32 × Int32 × Int32) (s : S1) (o : ((Int32 × Int32 × Int32) ⊕ ((Int32) ⊕ (Int32))) × S1) (h : M_Ta_border_L15 x s = some o) (hR : (Sum.elim (fun y : Int32 × Int32 × Int32 => ∀ ls : Array Slot, (prs o.2 145 y.2.1) → lv_has ls 5 [(0, .ref (q.1 120 0)), (1, .int y.1), (2, .ref (q.1 145 y.2.1)), (3, .int y.2.2)] → WW X q o.2 15 ls []) (Sum.elim (fun y : Int32 => ∀ ls : Array Slot, (prs o.2 145 y) → lv_has ls 5 [(2, .ref (q.1 145 y))] → WW X q o.2 50 ls []) (fun y : Int32 => ∀ ls : Array Slot, (prs o.2 145 y) → lv_has ls 5 [(2, .ref (q.1 145 y))] → WW X q o.2 66 ls [])) o.1)) : ∀ ls : Array Slot, (prs s 145 x.2.1) → lv_has ls 5 [(0, .ref (q.1 120 0)), (1, .int x.1), (2, .ref (q.1 145 x.2.1)), (3, .int x.2.2)] → WW X q s 15 ls [] := by
  intro ls hp0 hl
  unfold M_Ta_border_L15 at h
  refine ww_iload_n (pc := 15) g.1 d_Ta_border_15 rfl (lv_at hl 3 rfl) ?_
  refine ww_aload_n (pc := 16) g.1 d_Ta_border_16 rfl (lv_at hl 2 rfl) ?_
  refine ww_gI (pc := 17) g (k := 12) cl_Tg hp0 (by decide) (Or.inl kw_769) (f := 18572) rfl rfl d_Ta_border_17 h fun v17 h => ?_
  refine ww_icmp_ge (pc := 20) (tgt := 66) g.1 d_Ta_border_20 (by decide) h (fun c h => ?_) (fun c h => ?_)
  · rw [oR_eq h] at hR
    exact hR ls hp0 (lv_sub hl [2] rfl)
  · refine ww_aload_n (pc := 23) g.1 d_Ta_border_23 rfl (lv_at hl 0 rfl) ?_
    refine ww_iload_n (pc := 24) g.1 d_Ta_border_24 rfl (lv_at hl 1 rfl) ?_
    refine ww_iconst (pc := 25) g.1 (v := 3) d_Ta_border_25 (by decide) ?_
    refine ww_iload_n (pc := 26) g.1 d_Ta_border_26 rfl (lv_at hl 3 rfl) ?_
    refine ww_iconst (pc := 27) g.1 (v := 1) d_Ta_border_27 (by decide) ?_
    refine ww_iadd (pc := 28) g.1 d_Ta_border_28 ?_
    refine ww_i2l (pc := 29) g.1 (v := (x.2.2 + 1).toInt64) d_Ta_border_29 rfl ?_
    refine ww_lo fun dlo => ?_
    obtain ⟨v30, s, hc30, h⟩ := oB_of h
    refine ww_callV (pc := 30) (rest := []) g cv_Ta_find (Or.inl kw_1090) cl_Ta (pz rfl (by decide)) (ct_Ta_find hc30) ⟨by decide, by decide⟩ rfl hl.1 (Nat.le_of_ble_eq_true rfl) d_Ta_border_30 rfl (?_)
    refine ww_st (st' := [.int v30]) rfl ?_
    refine ww_hi fun dhi => ?_
    have hp0 : prs s 145 x.2.1 := dhi _ _ hp0.2.1 hp0.2.2 (dlo _ _ hp0)
    refine ww_istore (pc := 33) (i := 4) g.1 (lv' := [(4, .int v30), (0, .ref (q.1 120 0)), (1, .int x.1), (2, .ref (q.1 145 x.2.1)), (3, .int x.2.2)]) d_Ta_border_33 hl (by decide) rfl fun ls hl => ?_
    refine ww_iload (pc := 35) g.1 d_Ta_border_35 (lv_at hl 0 rfl) ?_
    refine ww_if_lt (pc := 37) (tgt := 66) g.1 d_Ta_border_37 (by decide) h (fun c h => ?_) (fun c h => ?_)
    · rw [oR_eq h] at hR
      exact hR ls hp0 (lv_sub hl [3] rfl)
    · refine ww_aload_n (pc := 40) g.1 d_Ta_border_40 rfl (lv_at hl 1 rfl) ?_
      refine ww_gR (pc := 41) g (k := 2) cl_Ta (pz rfl (by decide)) (by decide) (Or.inl kw_797) (f := 15362) (t := 123) rfl rfl rfl d_Ta_border_41 ?_
      refine ww_iload (pc := 44) g.1 d_Ta_border_44 (lv_at hl 0 rfl) ?_
      refine ww_ab (pc := 46) g (pz rfl (by decide)) rfl rfl d_Ta_border_46 h fun v46 h => ?_
      refine ww_if_ne (pc := 47) (tgt := 53) g.1 d_Ta_border_47 (by decide) h (fun c h => ?_) (fun c h => ?_)
      · refine ww_aload_n (pc := 53) g.1 d_Ta_border_53 rfl (lv_at hl 3 rfl) ?_
        refine ww_iload_n (pc := 54) g.1 d_Ta_border_54 rfl (lv_at hl 4 rfl) ?_
        refine ww_iconst (pc := 55) g.1 (v := 1) d_Ta_border_55 (by decide) ?_
        refine ww_iadd (pc := 56) g.1 d_Ta_border_56 ?_
        refine ww_pI (pc := 57) g (k := 15) cl_Tg hp0 (by decide) (Or.inl kw_1117) rfl (f := 18575) rfl rfl rfl rfl d_Ta_border_57 h fun s hs h => ?_
        have hp0 : prs s 145 x.2.1 := prs_kI (r := 145) (k := 15) (by decide) hs hp0
        refine ww_iinc (pc := 60) g.1 (v := x.2.2 + 1) (lv' := [(3, .int (x.2.2 + 1)), (4, .int v30), (0, .ref (q.1 120 0)), (1, .int x.1), (2, .ref (q.1 145 x.2.1))]) d_Ta_border_60 hl (k := 4) rfl (by rfl) (by decide) rfl fun ls hl => ?_
        refine ww_goto (pc := 63) (tgt := 15) g.1 d_Ta_border_63 (by decide) ?_
        rw [oR_eq h] at hR
        exact hR ls hp0 (lv_sub hl [2, 3, 4, 0] rfl)
      · rw [oR_eq h] at hR
        exact hR ls hp0 (lv_sub hl [3] rfl)

theorem j_Ta_border_j66 {X : Cx} {q : PL} (g : Gd X y_Ta_border b_Ta_border 5 (some .int) 2 51 R_Ta) {o : (Int32) × S1} (hR : Rt X q o.2 (some (.int o.1))) (l2 : Int32) (s : S1) (hp0 : prs s 145 l2) (ls : Array Slot) (hl : lv_has ls 5 [(2, .ref (q.1 145 l2))]) (h : M_Ta_border_j66 l2 s = some o) : WW X q s 66 ls [] := by
  unfold M_Ta_border_j66 at h
  refine ww_aload_n (pc := 66) g.1 d_Ta_border_66 rfl (lv_at hl 0 rfl) ?_
  refine ww_gI (pc := 67) g (k := 15) cl_Tg hp0 (by decide) (Or.inl kw_1117) (f := 18575) rfl rfl d_Ta_border_67 h fun v67 h => ?_
  exact ww_iretH (pc := 70) g h hR d_Ta_border_70

theorem ct_Ta_border {l : Launch} {P : PP} {q : PL} {s s' : S1} {l1 : Int32} {r : Int32} (h : M_Ta_border l1 s = some (r, s')) : Ct l y_Ta_border b_Ta_border 5 (some .int) 2 51 P q s [.ref (q.1 120 0), .int l1] (some (.int r)) q s' := by
  refine ct_of (by decide) (Nat.le_of_ble_eq_true rfl) fun X ls eP el g hR hl => ?_
  subst eP
  have hR : Rt X q ((r, s') : Int32 × S1).2 (some (.int ((r, s') : Int32 × S1).1)) := hR
  have hl : lv_has ls 5 [(0, .ref (q.1 120 0)), (1, .int l1)] := hl
  generalize (r, s') = o at h hR
  unfold M_Ta_border at h
  refine ww_aload_n (pc := 0) g.1 d_Ta_border_0 rfl (lv_at hl 0 rfl) ?_
  refine ww_gR (pc := 1) g (k := 8) cl_Ta (pz rfl (by decide)) (by decide) (Or.inl kw_772) (f := 15368) (t := 111) rfl rfl rfl d_Ta_border_1 ?_
  refine ww_gR (pc := 4) g (k := 0) cl_He (pz rfl (by decide)) (by decide) (Or.inl kw_804) (f := 14208) (t := 112) rfl rfl rfl d_Ta_border_4 ?_
  refine ww_iload_n (pc := 7) g.1 d_Ta_border_7 rfl (lv_at hl 1 rfl) ?_
  refine ww_a8 (pc := 8) g (t := 145) (n := 4000) (pz rfl (by decide)) rfl rfl rfl rfl d_Ta_border_8 h fun pa8 h => ?_
  refine ww_astore_n (pc := 9) (i := 2) g.1 (lv' := [(2, .ref (q.1 145 l1)), (0, .ref (q.1 120 0)), (1, .int l1)]) d_Ta_border_9 rfl hl (by decide) rfl fun ls hl => ?_
  refine ww_aload_n (pc := 10) g.1 d_Ta_border_10 rfl (lv_at hl 0 rfl) ?_
  refine ww_gI (pc := 11) g (k := 15) cl_Tg pa8 (by decide) (Or.inl kw_1117) (f := 18575) rfl rfl d_Ta_border_11 h fun v11 h => ?_
  refine ww_istore_n (pc := 14) (i := 3) g.1 (lv' := [(3, .int v11), (2, .ref (q.1 145 l1)), (0, .ref (q.1 120 0)), (1, .int l1)]) d_Ta_border_14 rfl hl (by decide) rfl fun ls hl => ?_
  obtain ⟨e15, s1, hw, h⟩ := oB_of h
  refine oW_rule (Wh := fun (x : Int32 × Int32 × Int32) (s : S1) => ∀ ls : Array Slot, (prs s 145 x.2.1) → lv_has ls 5 [(0, .ref (q.1 120 0)), (1, .int x.1), (2, .ref (q.1 145 x.2.1)), (3, .int x.2.2)] → WW X q s 15 ls []) (We := fun (e : (Int32) ⊕ (Int32)) (s : S1) => (Sum.elim (fun y : Int32 => ∀ ls : Array Slot, (prs s 145 y) → lv_has ls 5 [(2, .ref (q.1 145 y))] → WW X q s 50 ls []) (fun y : Int32 => ∀ ls : Array Slot, (prs s 145 y) → lv_has ls 5 [(2, .ref (q.1 145 y))] → WW X q s 66 ls [])) e) (fun x s o hb hc => lp_Ta_border_L15 (q := q) g x s o hb hc) hw ?_ ls pa8 (lv_sub hl [2, 3, 1, 0] rfl)
  clear hw hl
  clear ls
  generalize s1 = s at h ⊢
  rcases e15 with y15_50 | y15_66
  · intro ls hq15_0 hl
    dsimp only [Sum.elim_inl, Sum.elim_inr] at h
    refine ww_goto (pc := 50) (tgt := 66) g.1 d_Ta_border_50 (by decide) ?_
    exact j_Ta_border_j66 g hR y15_50 s hq15_0 ls (lv_sub hl [0] rfl) h
  · intro ls hq15_0 hl
    dsimp only [Sum.elim_inl, Sum.elim_inr] at h
    exact j_Ta_border_j66 g hR y15_66 s hq15_0 ls (lv_sub hl [0] rfl) h

abbrev b_St_equal : ByteArray := prog_10_method_27_code
def y_St_equal : MethodName := ⟨R_St, "equal", "()V"⟩
abbrev w_St_equal : List Cond := .code y_St_equal b_St_equal 8 none :: wA
theorem k_St_equal : Cond.code y_St_equal b_St_equal 8 none ∈ wA := kinm (show _ ∈ tables_1 from (List.mem_append_right _ (List.mem_append_right _ (List.mem_append_right _ (List.mem_append_right _ (List.mem_append_right _ (List.mem_append_right _ (List.mem_append_left _ (List.mem_of_getElem? (l := tables_1_7) (i := 156) (by decide +kernel)))))))))) (by decide +kernel)
theorem d_St_equal_0 : decode b_St_equal 0 = .ok (.aload_n 0, 1) := by decide +kernel
theorem d_St_equal_1 : decode b_St_equal 1 = .ok (.aload_n 0, 1) := by decide +kernel
theorem d_St_equal_2 : decode b_St_equal 2 = .ok (.getfield 137, 3) := by decide +kernel
theorem d_St_equal_5 : decode b_St_equal 5 = .ok (.invokevirtual 77, 3) := by decide +kernel
theorem d_St_equal_8 : decode b_St_equal 8 = .ok (.istore_n 1, 1) := by decide +kernel
theorem d_St_equal_9 : decode b_St_equal 9 = .ok (.aload_n 0, 1) := by decide +kernel
theorem d_St_equal_10 : decode b_St_equal 10 = .ok (.aload_n 0, 1) := by decide +kernel
theorem d_St_equal_11 : decode b_St_equal 11 = .ok (.getfield 140, 3) := by decide +kernel
theorem d_St_equal_14 : decode b_St_equal 14 = .ok (.invokevirtual 77, 3) := by decide +kernel
theorem d_St_equal_17 : decode b_St_equal 17 = .ok (.istore_n 2, 1) := by decide +kernel
theorem d_St_equal_18 : decode b_St_equal 18 = .ok (.aload_n 0, 1) := by decide +kernel
theorem d_St_equal_19 : decode b_St_equal 19 = .ok (.aload_n 0, 1) := by decide +kernel
theorem d_St_equal_20 : decode b_St_equal 20 = .ok (.getfield 137, 3) := by decide +kernel
theorem d_St_equal_23 : decode b_St_equal 23 = .ok (.invokevirtual 80, 3) := by decide +kernel
theorem d_St_equal_26 : decode b_St_equal 26 = .ok (.lstore_n 3, 1) := by decide +kernel
theorem d_St_equal_27 : decode b_St_equal 27 = .ok (.aload_n 0, 1) := by decide +kernel
theorem d_St_equal_28 : decode b_St_equal 28 = .ok (.aload_n 0, 1) := by decide +kernel
theorem d_St_equal_29 : decode b_St_equal 29 = .ok (.getfield 140, 3) := by decide +kernel
theorem d_St_equal_32 : decode b_St_equal 32 = .ok (.invokevirtual 80, 3) := by decide +kernel
theorem d_St_equal_35 : decode b_St_equal 35 = .ok (.lstore 5, 2) := by decide +kernel
theorem d_St_equal_37 : decode b_St_equal 37 = .ok (.iload_n 1, 1) := by decide +kernel
theorem d_St_equal_38 : decode b_St_equal 38 = .ok (.iload_n 2, 1) := by decide +kernel
theorem d_St_equal_39 : decode b_St_equal 39 = .ok (.if_icmp .ne 14, 3) := by decide +kernel
theorem d_St_equal_42 : decode b_St_equal 42 = .ok (.lload_n 3, 1) := by decide +kernel
theorem d_St_equal_43 : decode b_St_equal 43 = .ok (.lload 5, 2) := by decide +kernel
theorem d_St_equal_45 : decode b_St_equal 45 = .ok (.lcmp, 1) := by decide +kernel
theorem d_St_equal_46 : decode b_St_equal 46 = .ok (.ifCond .ne 7, 3) := by decide +kernel
theorem d_St_equal_49 : decode b_St_equal 49 = .ok (.iconst 1, 1) := by decide +kernel
theorem d_St_equal_50 : decode b_St_equal 50 = .ok (.goto 4, 3) := by decide +kernel
theorem d_St_equal_53 : decode b_St_equal 53 = .ok (.iconst 0, 1) := by decide +kernel
theorem d_St_equal_54 : decode b_St_equal 54 = .ok (.istore 7, 2) := by decide +kernel
theorem d_St_equal_56 : decode b_St_equal 56 = .ok (.iload 7, 2) := by decide +kernel
theorem d_St_equal_58 : decode b_St_equal 58 = .ok (.ifCond .ne 27, 3) := by decide +kernel
theorem d_St_equal_61 : decode b_St_equal 61 = .ok (.iload_n 1, 1) := by decide +kernel
theorem d_St_equal_62 : decode b_St_equal 62 = .ok (.iconst 5, 1) := by decide +kernel
theorem d_St_equal_63 : decode b_St_equal 63 = .ok (.if_icmp .ne 22, 3) := by decide +kernel
theorem d_St_equal_66 : decode b_St_equal 66 = .ok (.iload_n 2, 1) := by decide +kernel
theorem d_St_equal_67 : decode b_St_equal 67 = .ok (.iconst 5, 1) := by decide +kernel
theorem d_St_equal_68 : decode b_St_equal 68 = .ok (.if_icmp .ne 17, 3) := by decide +kernel
theorem d_St_equal_71 : decode b_St_equal 71 = .ok (.aload_n 0, 1) := by decide +kernel
theorem d_St_equal_72 : decode b_St_equal 72 = .ok (.bipush 17, 2) := by decide +kernel
theorem d_St_equal_74 : decode b_St_equal 74 = .ok (.iload_n 1, 1) := by decide +kernel
theorem d_St_equal_75 : decode b_St_equal 75 = .ok (.lload_n 3, 1) := by decide +kernel
theorem d_St_equal_76 : decode b_St_equal 76 = .ok (.iload_n 2, 1) := by decide +kernel
theorem d_St_equal_77 : decode b_St_equal 77 = .ok (.lload 5, 2) := by decide +kernel
theorem d_St_equal_79 : decode b_St_equal 79 = .ok (.invokevirtual 225, 3) := by decide +kernel
theorem d_St_equal_82 : decode b_St_equal 82 = .ok (.ifCond .ne 9, 3) := by decide +kernel
theorem d_St_equal_85 : decode b_St_equal 85 = .ok (.aload_n 0, 1) := by decide +kernel
theorem d_St_equal_86 : decode b_St_equal 86 = .ok (.iload 7, 2) := by decide +kernel
theorem d_St_equal_88 : decode b_St_equal 88 = .ok (.invokevirtual 323, 3) := by decide +kernel
theorem d_St_equal_91 : decode b_St_equal 91 = .ok (.return_, 1) := by decide +kernel
theorem kw_1120 : Cond.methodLink R_St 80 y_St_valueOf ∈ wA := kinm (show _ ∈ tables_1 from (List.mem_append_right _ (List.mem_append_right _ (List.mem_append_right _ (List.mem_append_right _ (List.mem_append_right _ (List.mem_append_right _ (List.mem_append_left _ (List.mem_of_getElem? (l := tables_1_7) (i := 49) (by decide +kernel)))))))))) (by decide +kernel)
theorem kw_1121 : Cond.methodLink R_St 323 y_St_decide ∈ wA := kinm (show _ ∈ tables_1 from (List.mem_append_right _ (List.mem_append_right _ (List.mem_append_right _ (List.mem_append_right _ (List.mem_append_right _ (List.mem_append_right _ (List.mem_append_left _ (List.mem_of_getElem? (l := tables_1_7) (i := 157) (by decide +kernel)))))))))) (by decide +kernel)
theorem kw_1122 : Cond.methodLink R_St 225 y_St_callsEither ∈ wA := kinm (show _ ∈ tables_1 from (List.mem_append_right _ (List.mem_append_right _ (List.mem_append_right _ (List.mem_append_right _ (List.mem_append_right _ (List.mem_append_right _ (List.mem_append_left _ (List.mem_of_getElem? (l := tables_1_7) (i := 107) (by decide +kernel)))))))))) (by decide +kernel)
theorem kw_1123 : Cond.instanceMethod y_St_equal ∈ wA := kinm (show _ ∈ tables_1 from (List.mem_append_right _ (List.mem_append_right _ (List.mem_append_right _ (List.mem_append_right _ (List.mem_append_right _ (List.mem_append_right _ (List.mem_append_left _ (List.mem_of_getElem? (l := tables_1_7) (i := 155) (by decide +kernel)))))))))) (by decide +kernel)
theorem kw_1124 : Cond.selects R_St y_St_equal y_St_equal ∈ wA := kinp 55 (by decide +kernel) (by decide +kernel)
theorem cv_St_equal : CV y_St_equal b_St_equal 8 none 0 := ⟨kw_1123, kw_1124, kw_883, k_St_equal, by decide +kernel⟩
theorem j_St_equal_j85 {X : Cx} {q : PL} (g : Gd X y_St_equal b_St_equal 8 none 4 105 R_St) {o : (Unit) × S1} (hR : Rt X q o.2 none) (l7 : Int32) (s : S1) (ls : Array Slot) (hl : lv_has ls 8 [(0, .ref (q.1 129 0)), (7, .int l7)]) (h : M_St_equal_j85 l7 s = some o) : WW X q s 85 ls [] := by
  unfold M_St_equal_j85 at h
  refine ww_aload_n (pc := 85) g.1 d_St_equal_85 rfl (lv_at hl 0 rfl) ?_
  refine ww_iload (pc := 86) g.1 d_St_equal_86 (lv_at hl 1 rfl) ?_
  obtain ⟨v88, s, hc88, h⟩ := oB_of h
  refine ww_callV (pc := 88) (rest := []) g cv_St_decide (Or.inl kw_1121) cl_St (pz rfl (by decide)) (ct_St_decide hc88) ⟨by decide, by decide⟩ rfl hl.1 (Nat.le_of_ble_eq_true rfl) d_St_equal_88 rfl (?_)
  refine ww_st (st' := []) rfl ?_
  exact ww_vretH (pc := 91) g h hR d_St_equal_91

theorem j_St_equal_j54 {X : Cx} {q : PL} (g : Gd X y_St_equal b_St_equal 8 none 4 105 R_St) {o : (Unit) × S1} (hR : Rt X q o.2 none) (l1 : Int32) (l2 : Int32) (l3 : Int64) (l5 : Int64) (k0 : Int32) (s : S1) (ls : Array Slot) (hl : lv_has ls 8 [(0, .ref (q.1 129 0)), (1, .int l1), (2, .int l2), (3, .long l3), (5, .long l5)]) (h : M_St_equal_j54 l1 l2 l3 l5 k0 s = some o) : WW X q s 54 ls [.int k0] := by
  unfold M_St_equal_j54 at h
  refine ww_istore (pc := 54) (i := 7) g.1 (lv' := [(7, .int k0), (0, .ref (q.1 129 0)), (1, .int l1), (2, .int l2), (3, .long l3), (5, .long l5)]) d_St_equal_54 hl (by decide) rfl fun ls hl => ?_
  refine ww_iload (pc := 56) g.1 d_St_equal_56 (lv_at hl 0 rfl) ?_
  refine ww_if_ne (pc := 58) (tgt := 85) g.1 d_St_equal_58 (by decide) h (fun c h => ?_) (fun c h => ?_)
  · exact j_St_equal_j85 g hR k0 s ls (lv_sub hl [1, 0] rfl) h
  · refine ww_iload_n (pc := 61) g.1 d_St_equal_61 rfl (lv_at hl 2 rfl) ?_
    refine ww_iconst (pc := 62) g.1 (v := 5) d_St_equal_62 (by decide) ?_
    refine ww_icmp_ne (pc := 63) (tgt := 85) g.1 d_St_equal_63 (by decide) h (fun c h => ?_) (fun c h => ?_)
    · exact j_St_equal_j85 g hR k0 s ls (lv_sub hl [1, 0] rfl) h
    · refine ww_iload_n (pc := 66) g.1 d_St_equal_66 rfl (lv_at hl 3 rfl) ?_
      refine ww_iconst (pc := 67) g.1 (v := 5) d_St_equal_67 (by decide) ?_
      refine ww_icmp_ne (pc := 68) (tgt := 85) g.1 d_St_equal_68 (by decide) h (fun c h => ?_) (fun c h => ?_)
      · exact j_St_equal_j85 g hR k0 s ls (lv_sub hl [1, 0] rfl) h
      · refine ww_aload_n (pc := 71) g.1 d_St_equal_71 rfl (lv_at hl 1 rfl) ?_
        refine ww_bipush (pc := 72) g.1 (v := 17) d_St_equal_72 (by decide) ?_
        refine ww_iload_n (pc := 74) g.1 d_St_equal_74 rfl (lv_at hl 2 rfl) ?_
        refine ww_lload_n (pc := 75) g.1 d_St_equal_75 rfl (lv_at hl 4 rfl) ?_
        refine ww_iload_n (pc := 76) g.1 d_St_equal_76 rfl (lv_at hl 3 rfl) ?_
        refine ww_lload (pc := 77) g.1 d_St_equal_77 (lv_at hl 5 rfl) ?_
        obtain ⟨v79, s, hc79, h⟩ := oB_of h
        refine ww_callV (pc := 79) (rest := []) g cv_St_callsEither (Or.inl kw_1122) cl_St (pz rfl (by decide)) (ct_St_callsEither hc79) ⟨by decide, by decide⟩ rfl hl.1 (Nat.le_of_ble_eq_true rfl) d_St_equal_79 rfl (?_)
        refine ww_st (st' := [.int v79]) rfl ?_
        refine ww_if_ne (pc := 82) (tgt := 91) g.1 d_St_equal_82 (by decide) h (fun c h => ?_) (fun c h => ?_)
        · exact ww_vretH (pc := 91) g h hR d_St_equal_91
        · exact j_St_equal_j85 g hR k0 s ls (lv_sub hl [1, 0] rfl) h

theorem j_St_equal_j53 {X : Cx} {q : PL} (g : Gd X y_St_equal b_St_equal 8 none 4 105 R_St) {o : (Unit) × S1} (hR : Rt X q o.2 none) (l1 : Int32) (l2 : Int32) (l3 : Int64) (l5 : Int64) (s : S1) (ls : Array Slot) (hl : lv_has ls 8 [(0, .ref (q.1 129 0)), (1, .int l1), (2, .int l2), (3, .long l3), (5, .long l5)]) (h : M_St_equal_j53 l1 l2 l3 l5 s = some o) : WW X q s 53 ls [] := by
  unfold M_St_equal_j53 at h
  refine ww_iconst (pc := 53) g.1 (v := 0) d_St_equal_53 (by decide) ?_
  exact j_St_equal_j54 g hR l1 l2 l3 l5 0 s ls (lv_sub hl [0, 1, 2, 3, 4] rfl) h

theorem ct_St_equal {l : Launch} {P : PP} {q : PL} {s s' : S1}  {r : Unit} (h : M_St_equal s = some (r, s')) : Ct l y_St_equal b_St_equal 8 none 4 105 P q s [.ref (q.1 129 0)] none q s' := by
  refine ct_of (by decide) (Nat.le_of_ble_eq_true rfl) fun X ls eP el g hR hl => ?_
  subst eP
  have hR : Rt X q ((r, s') : Unit × S1).2 none := hR
  have hl : lv_has ls 8 [(0, .ref (q.1 129 0))] := hl
  generalize (r, s') = o at h hR
  unfold M_St_equal at h
  refine ww_aload_n (pc := 0) g.1 d_St_equal_0 rfl (lv_at hl 0 rfl) ?_
  refine ww_aload_n (pc := 1) g.1 d_St_equal_1 rfl (lv_at hl 0 rfl) ?_
  refine ww_gI (pc := 2) g (k := 10) cl_St (pz rfl (by decide)) (by decide) (Or.inl kw_878) (f := 16522) rfl rfl d_St_equal_2 h fun v2 h => ?_
  obtain ⟨v5, s, hc5, h⟩ := oB_of h
  refine ww_callV (pc := 5) (rest := []) g cv_St_kindOf (Or.inl kw_914) cl_St (pz rfl (by decide)) (ct_St_kindOf hc5) ⟨by decide, by decide⟩ rfl hl.1 (Nat.le_of_ble_eq_true rfl) d_St_equal_5 rfl (?_)
  refine ww_st (st' := [.int v5]) rfl ?_
  refine ww_istore_n (pc := 8) (i := 1) g.1 (lv' := [(1, .int v5), (0, .ref (q.1 129 0))]) d_St_equal_8 rfl hl (by decide) rfl fun ls hl => ?_
  refine ww_aload_n (pc := 9) g.1 d_St_equal_9 rfl (lv_at hl 1 rfl) ?_
  refine ww_aload_n (pc := 10) g.1 d_St_equal_10 rfl (lv_at hl 1 rfl) ?_
  refine ww_gI (pc := 11) g (k := 11) cl_St (pz rfl (by decide)) (by decide) (Or.inl kw_879) (f := 16523) rfl rfl d_St_equal_11 h fun v11 h => ?_
  obtain ⟨v14, s, hc14, h⟩ := oB_of h
  refine ww_callV (pc := 14) (rest := []) g cv_St_kindOf (Or.inl kw_914) cl_St (pz rfl (by decide)) (ct_St_kindOf hc14) ⟨by decide, by decide⟩ rfl hl.1 (Nat.le_of_ble_eq_true rfl) d_St_equal_14 rfl (?_)
  refine ww_st (st' := [.int v14]) rfl ?_
  refine ww_istore_n (pc := 17) (i := 2) g.1 (lv' := [(2, .int v14), (1, .int v5), (0, .ref (q.1 129 0))]) d_St_equal_17 rfl hl (by decide) rfl fun ls hl => ?_
  refine ww_aload_n (pc := 18) g.1 d_St_equal_18 rfl (lv_at hl 2 rfl) ?_
  refine ww_aload_n (pc := 19) g.1 d_St_equal_19 rfl (lv_at hl 2 rfl) ?_
  refine ww_gI (pc := 20) g (k := 10) cl_St (pz rfl (by decide)) (by decide) (Or.inl kw_878) (f := 16522) rfl rfl d_St_equal_20 h fun v20 h => ?_
  obtain ⟨v23, s, hc23, h⟩ := oB_of h
  refine ww_callV (pc := 23) (rest := []) g cv_St_valueOf (Or.inl kw_1120) cl_St (pz rfl (by decide)) (ct_St_valueOf hc23) ⟨by decide, by decide⟩ rfl hl.1 (Nat.le_of_ble_eq_true rfl) d_St_equal_23 rfl (?_)
  refine ww_st (st' := [.long v23]) rfl ?_
  refine ww_lstore_n (pc := 26) (i := 3) g.1 (lv' := [(3, .long v23), (2, .int v14), (1, .int v5), (0, .ref (q.1 129 0))]) d_St_equal_26 rfl hl (by decide) rfl fun ls hl => ?_
  refine ww_aload_n (pc := 27) g.1 d_St_equal_27 rfl (lv_at hl 3 rfl) ?_
  refine ww_aload_n (pc := 28) g.1 d_St_equal_28 rfl (lv_at hl 3 rfl) ?_
  refine ww_gI (pc := 29) g (k := 11) cl_St (pz rfl (by decide)) (by decide) (Or.inl kw_879) (f := 16523) rfl rfl d_St_equal_29 h fun v29 h => ?_
  obtain ⟨v32, s, hc32, h⟩ := oB_of h
  refine ww_callV (pc := 32) (rest := []) g cv_St_valueOf (Or.inl kw_1120) cl_St (pz rfl (by decide)) (ct_St_valueOf hc32) ⟨by decide, by decide⟩ rfl hl.1 (Nat.le_of_ble_eq_true rfl) d_St_equal_32 rfl (?_)
  refine ww_st (st' := [.long v32]) rfl ?_
  refine ww_lstore (pc := 35) (i := 5) g.1 (lv' := [(5, .long v32), (3, .long v23), (2, .int v14), (1, .int v5), (0, .ref (q.1 129 0))]) d_St_equal_35 hl (by decide) rfl fun ls hl => ?_
  refine ww_iload_n (pc := 37) g.1 d_St_equal_37 rfl (lv_at hl 3 rfl) ?_
  refine ww_iload_n (pc := 38) g.1 d_St_equal_38 rfl (lv_at hl 2 rfl) ?_
  refine ww_icmp_ne (pc := 39) (tgt := 53) g.1 d_St_equal_39 (by decide) h (fun c h => ?_) (fun c h => ?_)
  · exact j_St_equal_j53 g hR v5 v14 v23 v32 s ls (lv_sub hl [4, 3, 2, 1, 0] rfl) h
  · refine ww_lload_n (pc := 42) g.1 d_St_equal_42 rfl (lv_at hl 1 rfl) ?_
    refine ww_lload (pc := 43) g.1 d_St_equal_43 (lv_at hl 0 rfl) ?_
    refine ww_lcmp (pc := 45) g.1 d_St_equal_45 ?_
    refine ww_if_ne (pc := 46) (tgt := 53) g.1 d_St_equal_46 (by decide) h (fun c h => ?_) (fun c h => ?_)
    · exact j_St_equal_j53 g hR v5 v14 v23 v32 s ls (lv_sub hl [4, 3, 2, 1, 0] rfl) h
    · refine ww_iconst (pc := 49) g.1 (v := 1) d_St_equal_49 (by decide) ?_
      refine ww_goto (pc := 50) (tgt := 54) g.1 d_St_equal_50 (by decide) ?_
      exact j_St_equal_j54 g hR v5 v14 v23 v32 1 s ls (lv_sub hl [4, 3, 2, 1, 0] rfl) h

abbrev b_St_order : ByteArray := prog_10_method_28_code
def y_St_order : MethodName := ⟨R_St, "order", "()V"⟩
abbrev w_St_order : List Cond := .code y_St_order b_St_order 8 none :: wA
set_option maxRecDepth 20000 in
theorem k_St_order : Cond.code y_St_order b_St_order 8 none ∈ wA := kinm (show _ ∈ tables_1 from (List.mem_append_right _ (List.mem_append_right _ (List.mem_append_right _ (List.mem_append_right _ (List.mem_append_right _ (List.mem_append_right _ (List.mem_append_left _ (List.mem_of_getElem? (l := tables_1_7) (i := 164) rfl))))))))) rfl
theorem d_St_order_0 : decode b_St_order 0 = .ok (.aload_n 0, 1) := by decide +kernel
theorem d_St_order_1 : decode b_St_order 1 = .ok (.aload_n 0, 1) := by decide +kernel
theorem d_St_order_2 : decode b_St_order 2 = .ok (.getfield 137, 3) := by decide +kernel
theorem d_St_order_5 : decode b_St_order 5 = .ok (.invokevirtual 77, 3) := by decide +kernel
theorem d_St_order_8 : decode b_St_order 8 = .ok (.istore_n 1, 1) := by decide +kernel
theorem d_St_order_9 : decode b_St_order 9 = .ok (.aload_n 0, 1) := by decide +kernel
theorem d_St_order_10 : decode b_St_order 10 = .ok (.aload_n 0, 1) := by decide +kernel
theorem d_St_order_11 : decode b_St_order 11 = .ok (.getfield 140, 3) := by decide +kernel
theorem d_St_order_14 : decode b_St_order 14 = .ok (.invokevirtual 77, 3) := by decide +kernel
theorem d_St_order_17 : decode b_St_order 17 = .ok (.istore_n 2, 1) := by decide +kernel
theorem d_St_order_18 : decode b_St_order 18 = .ok (.aload_n 0, 1) := by decide +kernel
theorem d_St_order_19 : decode b_St_order 19 = .ok (.aload_n 0, 1) := by decide +kernel
theorem d_St_order_20 : decode b_St_order 20 = .ok (.getfield 137, 3) := by decide +kernel
theorem d_St_order_23 : decode b_St_order 23 = .ok (.invokevirtual 80, 3) := by decide +kernel
theorem d_St_order_26 : decode b_St_order 26 = .ok (.lstore_n 3, 1) := by decide +kernel
theorem d_St_order_27 : decode b_St_order 27 = .ok (.aload_n 0, 1) := by decide +kernel
theorem d_St_order_28 : decode b_St_order 28 = .ok (.aload_n 0, 1) := by decide +kernel
theorem d_St_order_29 : decode b_St_order 29 = .ok (.getfield 140, 3) := by decide +kernel
theorem d_St_order_32 : decode b_St_order 32 = .ok (.invokevirtual 80, 3) := by decide +kernel
theorem d_St_order_35 : decode b_St_order 35 = .ok (.lstore 5, 2) := by decide +kernel
theorem d_St_order_37 : decode b_St_order 37 = .ok (.iload_n 1, 1) := by decide +kernel
theorem d_St_order_38 : decode b_St_order 38 = .ok (.iconst 3, 1) := by decide +kernel
theorem d_St_order_39 : decode b_St_order 39 = .ok (.if_icmp .ne 51, 3) := by decide +kernel
theorem d_St_order_42 : decode b_St_order 42 = .ok (.iload_n 2, 1) := by decide +kernel
theorem d_St_order_43 : decode b_St_order 43 = .ok (.iconst 3, 1) := by decide +kernel
theorem d_St_order_44 : decode b_St_order 44 = .ok (.if_icmp .ne 46, 3) := by decide +kernel
theorem d_St_order_47 : decode b_St_order 47 = .ok (.aload_n 0, 1) := by decide +kernel
theorem d_St_order_48 : decode b_St_order 48 = .ok (.aload_n 0, 1) := by decide +kernel
theorem d_St_order_49 : decode b_St_order 49 = .ok (.getfield 54, 3) := by decide +kernel
theorem d_St_order_52 : decode b_St_order 52 = .ok (.bipush 32, 2) := by decide +kernel
theorem d_St_order_54 : decode b_St_order 54 = .ok (.if_icmp .ne 18, 3) := by decide +kernel
theorem d_St_order_57 : decode b_St_order 57 = .ok (.lload_n 3, 1) := by decide +kernel
theorem d_St_order_58 : decode b_St_order 58 = .ok (.lload 5, 2) := by decide +kernel
theorem d_St_order_60 : decode b_St_order 60 = .ok (.lcmp, 1) := by decide +kernel
theorem d_St_order_61 : decode b_St_order 61 = .ok (.ifCond .ge 7, 3) := by decide +kernel
theorem d_St_order_64 : decode b_St_order 64 = .ok (.iconst 1, 1) := by decide +kernel
theorem d_St_order_65 : decode b_St_order 65 = .ok (.goto 19, 3) := by decide +kernel
theorem d_St_order_68 : decode b_St_order 68 = .ok (.iconst 0, 1) := by decide +kernel
theorem d_St_order_69 : decode b_St_order 69 = .ok (.goto 15, 3) := by decide +kernel
theorem d_St_order_72 : decode b_St_order 72 = .ok (.lload_n 3, 1) := by decide +kernel
theorem d_St_order_73 : decode b_St_order 73 = .ok (.lload 5, 2) := by decide +kernel
theorem d_St_order_75 : decode b_St_order 75 = .ok (.lcmp, 1) := by decide +kernel
theorem d_St_order_76 : decode b_St_order 76 = .ok (.ifCond .gt 7, 3) := by decide +kernel
theorem d_St_order_79 : decode b_St_order 79 = .ok (.iconst 1, 1) := by decide +kernel
theorem d_St_order_80 : decode b_St_order 80 = .ok (.goto 4, 3) := by decide +kernel
theorem d_St_order_83 : decode b_St_order 83 = .ok (.iconst 0, 1) := by decide +kernel
theorem d_St_order_84 : decode b_St_order 84 = .ok (.invokevirtual 323, 3) := by decide +kernel
theorem d_St_order_87 : decode b_St_order 87 = .ok (.goto 114, 3) := by decide +kernel
theorem d_St_order_90 : decode b_St_order 90 = .ok (.iload_n 1, 1) := by decide +kernel
theorem d_St_order_91 : decode b_St_order 91 = .ok (.iconst 4, 1) := by decide +kernel
theorem d_St_order_92 : decode b_St_order 92 = .ok (.if_icmp .ne 79, 3) := by decide +kernel
theorem d_St_order_95 : decode b_St_order 95 = .ok (.iload_n 2, 1) := by decide +kernel
theorem d_St_order_96 : decode b_St_order 96 = .ok (.iconst 4, 1) := by decide +kernel
theorem d_St_order_97 : decode b_St_order 97 = .ok (.if_icmp .ne 74, 3) := by decide +kernel
theorem d_St_order_100 : decode b_St_order 100 = .ok (.aload_n 0, 1) := by decide +kernel
theorem d_St_order_101 : decode b_St_order 101 = .ok (.getfield 21, 3) := by decide +kernel
theorem d_St_order_104 : decode b_St_order 104 = .ok (.getfield 163, 3) := by decide +kernel
theorem d_St_order_107 : decode b_St_order 107 = .ok (.lload_n 3, 1) := by decide +kernel
theorem d_St_order_108 : decode b_St_order 108 = .ok (.l2i, 1) := by decide +kernel
theorem d_St_order_109 : decode b_St_order 109 = .ok (.aaload, 1) := by decide +kernel
theorem d_St_order_110 : decode b_St_order 110 = .ok (.getfield 270, 3) := by decide +kernel
theorem d_St_order_113 : decode b_St_order 113 = .ok (.aload_n 0, 1) := by decide +kernel
theorem d_St_order_114 : decode b_St_order 114 = .ok (.getfield 21, 3) := by decide +kernel
theorem d_St_order_117 : decode b_St_order 117 = .ok (.getfield 163, 3) := by decide +kernel
theorem d_St_order_120 : decode b_St_order 120 = .ok (.lload 5, 2) := by decide +kernel
theorem d_St_order_122 : decode b_St_order 122 = .ok (.l2i, 1) := by decide +kernel
theorem d_St_order_123 : decode b_St_order 123 = .ok (.aaload, 1) := by decide +kernel
theorem d_St_order_124 : decode b_St_order 124 = .ok (.getfield 270, 3) := by decide +kernel
theorem d_St_order_127 : decode b_St_order 127 = .ok (.invokestatic 327, 3) := by decide +kernel
theorem d_St_order_130 : decode b_St_order 130 = .ok (.istore 7, 2) := by decide +kernel
theorem d_St_order_132 : decode b_St_order 132 = .ok (.aload_n 0, 1) := by decide +kernel
theorem d_St_order_133 : decode b_St_order 133 = .ok (.aload_n 0, 1) := by decide +kernel
theorem d_St_order_134 : decode b_St_order 134 = .ok (.getfield 54, 3) := by decide +kernel
theorem d_St_order_137 : decode b_St_order 137 = .ok (.bipush 32, 2) := by decide +kernel
theorem d_St_order_139 : decode b_St_order 139 = .ok (.if_icmp .ne 16, 3) := by decide +kernel
theorem d_St_order_142 : decode b_St_order 142 = .ok (.iload 7, 2) := by decide +kernel
theorem d_St_order_144 : decode b_St_order 144 = .ok (.ifCond .ge 7, 3) := by decide +kernel
theorem d_St_order_147 : decode b_St_order 147 = .ok (.iconst 1, 1) := by decide +kernel
theorem d_St_order_148 : decode b_St_order 148 = .ok (.goto 17, 3) := by decide +kernel
theorem d_St_order_151 : decode b_St_order 151 = .ok (.iconst 0, 1) := by decide +kernel
theorem d_St_order_152 : decode b_St_order 152 = .ok (.goto 13, 3) := by decide +kernel
theorem d_St_order_155 : decode b_St_order 155 = .ok (.iload 7, 2) := by decide +kernel
theorem d_St_order_157 : decode b_St_order 157 = .ok (.ifCond .gt 7, 3) := by decide +kernel
theorem d_St_order_160 : decode b_St_order 160 = .ok (.iconst 1, 1) := by decide +kernel
theorem d_St_order_161 : decode b_St_order 161 = .ok (.goto 4, 3) := by decide +kernel
theorem d_St_order_164 : decode b_St_order 164 = .ok (.iconst 0, 1) := by decide +kernel
theorem d_St_order_165 : decode b_St_order 165 = .ok (.invokevirtual 323, 3) := by decide +kernel
theorem d_St_order_168 : decode b_St_order 168 = .ok (.goto 33, 3) := by decide +kernel
theorem d_St_order_171 : decode b_St_order 171 = .ok (.aload_n 0, 1) := by decide +kernel
theorem d_St_order_172 : decode b_St_order 172 = .ok (.bipush 18, 2) := by decide +kernel
theorem d_St_order_174 : decode b_St_order 174 = .ok (.aload_n 0, 1) := by decide +kernel
theorem d_St_order_175 : decode b_St_order 175 = .ok (.getfield 54, 3) := by decide +kernel
theorem d_St_order_178 : decode b_St_order 178 = .ok (.iadd, 1) := by decide +kernel
theorem d_St_order_179 : decode b_St_order 179 = .ok (.bipush 32, 2) := by decide +kernel
theorem d_St_order_181 : decode b_St_order 181 = .ok (.isub, 1) := by decide +kernel
theorem d_St_order_182 : decode b_St_order 182 = .ok (.iload_n 1, 1) := by decide +kernel
theorem d_St_order_183 : decode b_St_order 183 = .ok (.lload_n 3, 1) := by decide +kernel
theorem d_St_order_184 : decode b_St_order 184 = .ok (.iload_n 2, 1) := by decide +kernel
theorem d_St_order_185 : decode b_St_order 185 = .ok (.lload 5, 2) := by decide +kernel
theorem d_St_order_187 : decode b_St_order 187 = .ok (.invokevirtual 225, 3) := by decide +kernel
theorem d_St_order_190 : decode b_St_order 190 = .ok (.ifCond .ne 11, 3) := by decide +kernel
theorem d_St_order_193 : decode b_St_order 193 = .ok (.aload_n 0, 1) := by decide +kernel
theorem d_St_order_194 : decode b_St_order 194 = .ok (.getfield 9, 3) := by decide +kernel
theorem d_St_order_197 : decode b_St_order 197 = .ok (.iconst 3, 1) := by decide +kernel
theorem d_St_order_198 : decode b_St_order 198 = .ok (.invokevirtual 193, 3) := by decide +kernel
theorem d_St_order_201 : decode b_St_order 201 = .ok (.return_, 1) := by decide +kernel
theorem kw_1125 : Cond.fieldLink R_St 270 "LuaMachine$Thing" "bytes" "[B" ∈ wA := kinm (show _ ∈ tables_1 from (List.mem_append_right _ (List.mem_append_right _ (List.mem_append_right _ (List.mem_append_right _ (List.mem_append_left _ (List.mem_of_getElem? (l := tables_1_5) (i := 188) (by decide +kernel)))))))) (by decide +kernel)
theorem kw_1126 : Cond.methodLink R_St 327 y_St_compared ∈ wA := kinm (show _ ∈ tables_1 from (List.mem_append_right _ (List.mem_append_right _ (List.mem_append_right _ (List.mem_append_right _ (List.mem_append_right _ (List.mem_append_right _ (List.mem_append_left _ (List.mem_of_getElem? (l := tables_1_7) (i := 165) (by decide +kernel)))))))))) (by decide +kernel)
theorem kw_1127 : Cond.instanceMethod y_St_order ∈ wA := kinm (show _ ∈ tables_1 from (List.mem_append_right _ (List.mem_append_right _ (List.mem_append_right _ (List.mem_append_right _ (List.mem_append_right _ (List.mem_append_right _ (List.mem_append_left _ (List.mem_of_getElem? (l := tables_1_7) (i := 163) (by decide +kernel)))))))))) (by decide +kernel)
theorem kw_1128 : Cond.selects R_St y_St_order y_St_order ∈ wA := kinp 57 (by decide +kernel) (by decide +kernel)
theorem cv_St_order : CV y_St_order b_St_order 8 none 0 := ⟨kw_1127, kw_1128, kw_883, k_St_order, by decide +kernel⟩
theorem j_St_order_j171 {X : Cx} {q : PL} (g : Gd X y_St_order b_St_order 8 none 4 105 R_St) {o : (Unit) × S1} (hR : Rt X q o.2 none) (l1 : Int32) (l2 : Int32) (l3 : Int64) (l5 : Int64) (s : S1) (ls : Array Slot) (hl : lv_has ls 8 [(0, .ref (q.1 129 0)), (1, .int l1), (2, .int l2), (3, .long l3), (5, .long l5)]) (h : M_St_order_j171 l1 l2 l3 l5 s = some o) : WW X q s 171 ls [] := by
  unfold M_St_order_j171 at h
  refine ww_aload_n (pc := 171) g.1 d_St_order_171 rfl (lv_at hl 0 rfl) ?_
  refine ww_bipush (pc := 172) g.1 (v := 18) d_St_order_172 (by decide) ?_
  refine ww_aload_n (pc := 174) g.1 d_St_order_174 rfl (lv_at hl 0 rfl) ?_
  refine ww_gI (pc := 175) g (k := 8) cl_St (pz rfl (by decide)) (by decide) (Or.inl kw_876) (f := 16520) rfl rfl d_St_order_175 h fun v175 h => ?_
  refine ww_iadd (pc := 178) g.1 d_St_order_178 ?_
  refine ww_bipush (pc := 179) g.1 (v := 32) d_St_order_179 (by decide) ?_
  refine ww_isub (pc := 181) g.1 d_St_order_181 ?_
  refine ww_iload_n (pc := 182) g.1 d_St_order_182 rfl (lv_at hl 1 rfl) ?_
  refine ww_lload_n (pc := 183) g.1 d_St_order_183 rfl (lv_at hl 3 rfl) ?_
  refine ww_iload_n (pc := 184) g.1 d_St_order_184 rfl (lv_at hl 2 rfl) ?_
  refine ww_lload (pc := 185) g.1 d_St_order_185 (lv_at hl 4 rfl) ?_
  obtain ⟨v187, s, hc187, h⟩ := oB_of h
  refine ww_callV (pc := 187) (rest := []) g cv_St_callsEither (Or.inl kw_1122) cl_St (pz rfl (by decide)) (ct_St_callsEither hc187) ⟨by decide, by decide⟩ rfl hl.1 (Nat.le_of_ble_eq_true rfl) d_St_order_187 rfl (?_)
  refine ww_st (st' := [.int v187]) rfl ?_
  refine ww_if_ne (pc := 190) (tgt := 201) g.1 d_St_order_190 (by decide) h (fun c h => ?_) (fun c h => ?_)
  · exact ww_vretH (pc := 201) g h hR d_St_order_201
  · refine ww_aload_n (pc := 193) g.1 d_St_order_193 rfl (lv_at hl 0 rfl) ?_
    refine ww_gR (pc := 194) g (k := 0) cl_St (pz rfl (by decide)) (by decide) (Or.inl kw_863) (f := 16512) (t := 128) rfl rfl rfl d_St_order_194 ?_
    refine ww_iconst (pc := 197) g.1 (v := 3) d_St_order_197 (by decide) ?_
    obtain ⟨v198, s, hc198, h⟩ := oB_of h
    refine ww_callV (pc := 198) (rest := []) g cv_Ma_fail (Or.inl kw_1106) cl_Ma (pz rfl (by decide)) (ct_Ma_fail hc198) ⟨by decide, by decide⟩ rfl hl.1 (Nat.le_of_ble_eq_true rfl) d_St_order_198 rfl (?_)
    refine ww_st (st' := []) rfl ?_
    exact ww_vretH (pc := 201) g h hR d_St_order_201

theorem j_St_order_j165 {X : Cx} {q : PL} (g : Gd X y_St_order b_St_order 8 none 4 105 R_St) {o : (Unit) × S1} (hR : Rt X q o.2 none) (k0 : Int32) (s : S1) (ls : Array Slot) (hl : lv_has ls 8 []) (h : M_St_order_j165 k0 s = some o) : WW X q s 165 ls [.int k0, .ref (q.1 129 0)] := by
  unfold M_St_order_j165 at h
  obtain ⟨v165, s, hc165, h⟩ := oB_of h
  refine ww_callV (pc := 165) (rest := []) g cv_St_decide (Or.inl kw_1121) cl_St (pz rfl (by decide)) (ct_St_decide hc165) ⟨by decide, by decide⟩ rfl hl.1 (Nat.le_of_ble_eq_true rfl) d_St_order_165 rfl (?_)
  refine ww_st (st' := []) rfl ?_
  refine ww_goto (pc := 168) (tgt := 201) g.1 d_St_order_168 (by decide) ?_
  exact ww_vretH (pc := 201) g h hR d_St_order_201

theorem j_St_order_j90 {X : Cx} {q : PL} (g : Gd X y_St_order b_St_order 8 none 4 105 R_St) {o : (Unit) × S1} (hR : Rt X q o.2 none) (l1 : Int32) (l2 : Int32) (l3 : Int64) (l5 : Int64) (s : S1) (ls : Array Slot) (hl : lv_has ls 8 [(0, .ref (q.1 129 0)), (1, .int l1), (2, .int l2), (3, .long l3), (5, .long l5)]) (h : M_St_order_j90 l1 l2 l3 l5 s = some o) : WW X q s 90 ls [] := by
  unfold M_St_order_j90 at h
  refine ww_iload_n (pc := 90) g.1 d_St_order_90 rfl (lv_at hl 1 rfl) ?_
  refine ww_iconst (pc := 91) g.1 (v := 4) d_St_order_91 (by decide) ?_
  refine ww_icmp_ne (pc := 92) (tgt := 171) g.1 d_St_order_92 (by decide) h (fun c h => ?_) (fun c h => ?_)
  · exact j_St_order_j171 g hR l1 l2 l3 l5 s ls (lv_sub hl [0, 1, 2, 3, 4] rfl) h
  · refine ww_iload_n (pc := 95) g.1 d_St_order_95 rfl (lv_at hl 2 rfl) ?_
    refine ww_iconst (pc := 96) g.1 (v := 4) d_St_order_96 (by decide) ?_
    refine ww_icmp_ne (pc := 97) (tgt := 171) g.1 d_St_order_97 (by decide) h (fun c h => ?_) (fun c h => ?_)
    · exact j_St_order_j171 g hR l1 l2 l3 l5 s ls (lv_sub hl [0, 1, 2, 3, 4] rfl) h
    · refine ww_aload_n (pc := 100) g.1 d_St_order_100 rfl (lv_at hl 0 rfl) ?_
      refine ww_gR (pc := 101) g (k := 1) cl_St (pz rfl (by decide)) (by decide) (Or.inl kw_884) (f := 16513) (t := 111) rfl rfl rfl d_St_order_101 ?_
      refine ww_gR (pc := 104) g (k := 0) cl_He (pz rfl (by decide)) (by decide) (Or.inl kw_885) (f := 14208) (t := 112) rfl rfl rfl d_St_order_104 ?_
      refine ww_lload_n (pc := 107) g.1 d_St_order_107 rfl (lv_at hl 3 rfl) ?_
      refine ww_l2i (pc := 108) g.1 (v := l3.toInt32) d_St_order_108 rfl ?_
      refine ww_a8 (pc := 109) g (t := 145) (n := 4000) (pz rfl (by decide)) rfl rfl rfl rfl d_St_order_109 h fun pa109 h => ?_
      refine ww_g5 (pc := 110) g (k := 9) cl_Tg pa109 (by decide) (Or.inl kw_1125) (f := 18569) (t := 146) (f2 := 18815) rfl rfl rfl rfl d_St_order_110 h fun v110 hv110 h => ?_
      refine ww_ok h fun cv110 h => ?_
      refine ww_dn cv110 ?_
      have pd110 : prs s 146 l3.toInt32 := pdn (hv110 ▸ cv110) pa109.2.1 pa109.2.2
      refine ww_aload_n (pc := 113) g.1 d_St_order_113 rfl (lv_at hl 0 rfl) ?_
      refine ww_gR (pc := 114) g (k := 1) cl_St (pz rfl (by decide)) (by decide) (Or.inl kw_884) (f := 16513) (t := 111) rfl rfl rfl d_St_order_114 ?_
      refine ww_gR (pc := 117) g (k := 0) cl_He (pz rfl (by decide)) (by decide) (Or.inl kw_885) (f := 14208) (t := 112) rfl rfl rfl d_St_order_117 ?_
      refine ww_lload (pc := 120) g.1 d_St_order_120 (lv_at hl 4 rfl) ?_
      refine ww_l2i (pc := 122) g.1 (v := l5.toInt32) d_St_order_122 rfl ?_
      refine ww_a8 (pc := 123) g (t := 145) (n := 4000) (pz rfl (by decide)) rfl rfl rfl rfl d_St_order_123 h fun pa123 h => ?_
      refine ww_g5 (pc := 124) g (k := 9) cl_Tg pa123 (by decide) (Or.inl kw_1125) (f := 18569) (t := 146) (f2 := 18815) rfl rfl rfl rfl d_St_order_124 h fun v124 hv124 h => ?_
      refine ww_ok h fun cv124 h => ?_
      refine ww_dn cv124 ?_
      have pd124 : prs s 146 l5.toInt32 := pdn (hv124 ▸ cv124) pa123.2.1 pa123.2.2
      obtain ⟨v127, s, hc127, h⟩ := oB_of h
      refine ww_callS (pc := 127) (rest := []) g cs_St_compared (Or.inl kw_1126) (ct_St_compared pd110 pd124 hc127) ⟨by decide, by decide⟩ rfl hl.1 (Nat.le_of_ble_eq_true rfl) d_St_order_127 rfl (?_)
      refine ww_st (st' := [.int v127]) rfl ?_
      refine ww_istore (pc := 130) (i := 7) g.1 (lv' := [(7, .int v127), (0, .ref (q.1 129 0)), (1, .int l1), (2, .int l2), (3, .long l3), (5, .long l5)]) d_St_order_130 hl (by decide) rfl fun ls hl => ?_
      refine ww_aload_n (pc := 132) g.1 d_St_order_132 rfl (lv_at hl 1 rfl) ?_
      refine ww_aload_n (pc := 133) g.1 d_St_order_133 rfl (lv_at hl 1 rfl) ?_
      refine ww_gI (pc := 134) g (k := 8) cl_St (pz rfl (by decide)) (by decide) (Or.inl kw_876) (f := 16520) rfl rfl d_St_order_134 h fun v134 h => ?_
      refine ww_bipush (pc := 137) g.1 (v := 32) d_St_order_137 (by decide) ?_
      refine ww_icmp_ne (pc := 139) (tgt := 155) g.1 d_St_order_139 (by decide) h (fun c h => ?_) (fun c h => ?_)
      · refine ww_iload (pc := 155) g.1 d_St_order_155 (lv_at hl 0 rfl) ?_
        refine ww_if_gt (pc := 157) (tgt := 164) g.1 d_St_order_157 (by decide) h (fun c h => ?_) (fun c h => ?_)
        · refine ww_iconst (pc := 164) g.1 (v := 0) d_St_order_164 (by decide) ?_
          exact j_St_order_j165 g hR 0 s ls (lv_sub hl [] rfl) h
        · refine ww_iconst (pc := 160) g.1 (v := 1) d_St_order_160 (by decide) ?_
          refine ww_goto (pc := 161) (tgt := 165) g.1 d_St_order_161 (by decide) ?_
          exact j_St_order_j165 g hR 1 s ls (lv_sub hl [] rfl) h
      · refine ww_iload (pc := 142) g.1 d_St_order_142 (lv_at hl 0 rfl) ?_
        refine ww_if_ge (pc := 144) (tgt := 151) g.1 d_St_order_144 (by decide) h (fun c h => ?_) (fun c h => ?_)
        · refine ww_iconst (pc := 151) g.1 (v := 0) d_St_order_151 (by decide) ?_
          refine ww_goto (pc := 152) (tgt := 165) g.1 d_St_order_152 (by decide) ?_
          exact j_St_order_j165 g hR 0 s ls (lv_sub hl [] rfl) h
        · refine ww_iconst (pc := 147) g.1 (v := 1) d_St_order_147 (by decide) ?_
          refine ww_goto (pc := 148) (tgt := 165) g.1 d_St_order_148 (by decide) ?_
          exact j_St_order_j165 g hR 1 s ls (lv_sub hl [] rfl) h

theorem j_St_order_j84 {X : Cx} {q : PL} (g : Gd X y_St_order b_St_order 8 none 4 105 R_St) {o : (Unit) × S1} (hR : Rt X q o.2 none) (k0 : Int32) (s : S1) (ls : Array Slot) (hl : lv_has ls 8 []) (h : M_St_order_j84 k0 s = some o) : WW X q s 84 ls [.int k0, .ref (q.1 129 0)] := by
  unfold M_St_order_j84 at h
  obtain ⟨v84, s, hc84, h⟩ := oB_of h
  refine ww_callV (pc := 84) (rest := []) g cv_St_decide (Or.inl kw_1121) cl_St (pz rfl (by decide)) (ct_St_decide hc84) ⟨by decide, by decide⟩ rfl hl.1 (Nat.le_of_ble_eq_true rfl) d_St_order_84 rfl (?_)
  refine ww_st (st' := []) rfl ?_
  refine ww_goto (pc := 87) (tgt := 201) g.1 d_St_order_87 (by decide) ?_
  exact ww_vretH (pc := 201) g h hR d_St_order_201

theorem ct_St_order {l : Launch} {P : PP} {q : PL} {s s' : S1}  {r : Unit} (h : M_St_order s = some (r, s')) : Ct l y_St_order b_St_order 8 none 4 105 P q s [.ref (q.1 129 0)] none q s' := by
  refine ct_of (by decide) (Nat.le_of_ble_eq_true rfl) fun X ls eP el g hR hl => ?_
  subst eP
  have hR : Rt X q ((r, s') : Unit × S1).2 none := hR
  have hl : lv_has ls 8 [(0, .ref (q.1 129 0))] := hl
  generalize (r, s') = o at h hR
  unfold M_St_order at h
  refine ww_aload_n (pc := 0) g.1 d_St_order_0 rfl (lv_at hl 0 rfl) ?_
  refine ww_aload_n (pc := 1) g.1 d_St_order_1 rfl (lv_at hl 0 rfl) ?_
  refine ww_gI (pc := 2) g (k := 10) cl_St (pz rfl (by decide)) (by decide) (Or.inl kw_878) (f := 16522) rfl rfl d_St_order_2 h fun v2 h => ?_
  obtain ⟨v5, s, hc5, h⟩ := oB_of h
  refine ww_callV (pc := 5) (rest := []) g cv_St_kindOf (Or.inl kw_914) cl_St (pz rfl (by decide)) (ct_St_kindOf hc5) ⟨by decide, by decide⟩ rfl hl.1 (Nat.le_of_ble_eq_true rfl) d_St_order_5 rfl (?_)
  refine ww_st (st' := [.int v5]) rfl ?_
  refine ww_istore_n (pc := 8) (i := 1) g.1 (lv' := [(1, .int v5), (0, .ref (q.1 129 0))]) d_St_order_8 rfl hl (by decide) rfl fun ls hl => ?_
  refine ww_aload_n (pc := 9) g.1 d_St_order_9 rfl (lv_at hl 1 rfl) ?_
  refine ww_aload_n (pc := 10) g.1 d_St_order_10 rfl (lv_at hl 1 rfl) ?_
  refine ww_gI (pc := 11) g (k := 11) cl_St (pz rfl (by decide)) (by decide) (Or.inl kw_879) (f := 16523) rfl rfl d_St_order_11 h fun v11 h => ?_
  obtain ⟨v14, s, hc14, h⟩ := oB_of h
  refine ww_callV (pc := 14) (rest := []) g cv_St_kindOf (Or.inl kw_914) cl_St (pz rfl (by decide)) (ct_St_kindOf hc14) ⟨by decide, by decide⟩ rfl hl.1 (Nat.le_of_ble_eq_true rfl) d_St_order_14 rfl (?_)
  refine ww_st (st' := [.int v14]) rfl ?_
  refine ww_istore_n (pc := 17) (i := 2) g.1 (lv' := [(2, .int v14), (1, .int v5), (0, .ref (q.1 129 0))]) d_St_order_17 rfl hl (by decide) rfl fun ls hl => ?_
  refine ww_aload_n (pc := 18) g.1 d_St_order_18 rfl (lv_at hl 2 rfl) ?_
  refine ww_aload_n (pc := 19) g.1 d_St_order_19 rfl (lv_at hl 2 rfl) ?_
  refine ww_gI (pc := 20) g (k := 10) cl_St (pz rfl (by decide)) (by decide) (Or.inl kw_878) (f := 16522) rfl rfl d_St_order_20 h fun v20 h => ?_
  obtain ⟨v23, s, hc23, h⟩ := oB_of h
  refine ww_callV (pc := 23) (rest := []) g cv_St_valueOf (Or.inl kw_1120) cl_St (pz rfl (by decide)) (ct_St_valueOf hc23) ⟨by decide, by decide⟩ rfl hl.1 (Nat.le_of_ble_eq_true rfl) d_St_order_23 rfl (?_)
  refine ww_st (st' := [.long v23]) rfl ?_
  refine ww_lstore_n (pc := 26) (i := 3) g.1 (lv' := [(3, .long v23), (2, .int v14), (1, .int v5), (0, .ref (q.1 129 0))]) d_St_order_26 rfl hl (by decide) rfl fun ls hl => ?_
  refine ww_aload_n (pc := 27) g.1 d_St_order_27 rfl (lv_at hl 3 rfl) ?_
  refine ww_aload_n (pc := 28) g.1 d_St_order_28 rfl (lv_at hl 3 rfl) ?_
  refine ww_gI (pc := 29) g (k := 11) cl_St (pz rfl (by decide)) (by decide) (Or.inl kw_879) (f := 16523) rfl rfl d_St_order_29 h fun v29 h => ?_
  obtain ⟨v32, s, hc32, h⟩ := oB_of h
  refine ww_callV (pc := 32) (rest := []) g cv_St_valueOf (Or.inl kw_1120) cl_St (pz rfl (by decide)) (ct_St_valueOf hc32) ⟨by decide, by decide⟩ rfl hl.1 (Nat.le_of_ble_eq_true rfl) d_St_order_32 rfl (?_)
  refine ww_st (st' := [.long v32]) rfl ?_
  refine ww_lstore (pc := 35) (i := 5) g.1 (lv' := [(5, .long v32), (3, .long v23), (2, .int v14), (1, .int v5), (0, .ref (q.1 129 0))]) d_St_order_35 hl (by decide) rfl fun ls hl => ?_
  refine ww_iload_n (pc := 37) g.1 d_St_order_37 rfl (lv_at hl 3 rfl) ?_
  refine ww_iconst (pc := 38) g.1 (v := 3) d_St_order_38 (by decide) ?_
  refine ww_icmp_ne (pc := 39) (tgt := 90) g.1 d_St_order_39 (by decide) h (fun c h => ?_) (fun c h => ?_)
  · exact j_St_order_j90 g hR v5 v14 v23 v32 s ls (lv_sub hl [4, 3, 2, 1, 0] rfl) h
  · refine ww_iload_n (pc := 42) g.1 d_St_order_42 rfl (lv_at hl 2 rfl) ?_
    refine ww_iconst (pc := 43) g.1 (v := 3) d_St_order_43 (by decide) ?_
    refine ww_icmp_ne (pc := 44) (tgt := 90) g.1 d_St_order_44 (by decide) h (fun c h => ?_) (fun c h => ?_)
    · exact j_St_order_j90 g hR v5 v14 v23 v32 s ls (lv_sub hl [4, 3, 2, 1, 0] rfl) h
    · refine ww_aload_n (pc := 47) g.1 d_St_order_47 rfl (lv_at hl 4 rfl) ?_
      refine ww_aload_n (pc := 48) g.1 d_St_order_48 rfl (lv_at hl 4 rfl) ?_
      refine ww_gI (pc := 49) g (k := 8) cl_St (pz rfl (by decide)) (by decide) (Or.inl kw_876) (f := 16520) rfl rfl d_St_order_49 h fun v49 h => ?_
      refine ww_bipush (pc := 52) g.1 (v := 32) d_St_order_52 (by decide) ?_
      refine ww_icmp_ne (pc := 54) (tgt := 72) g.1 d_St_order_54 (by decide) h (fun c h => ?_) (fun c h => ?_)
      · refine ww_lload_n (pc := 72) g.1 d_St_order_72 rfl (lv_at hl 1 rfl) ?_
        refine ww_lload (pc := 73) g.1 d_St_order_73 (lv_at hl 0 rfl) ?_
        refine ww_lcmp (pc := 75) g.1 d_St_order_75 ?_
        refine ww_if_gt (pc := 76) (tgt := 83) g.1 d_St_order_76 (by decide) h (fun c h => ?_) (fun c h => ?_)
        · refine ww_iconst (pc := 83) g.1 (v := 0) d_St_order_83 (by decide) ?_
          exact j_St_order_j84 g hR 0 s ls (lv_sub hl [] rfl) h
        · refine ww_iconst (pc := 79) g.1 (v := 1) d_St_order_79 (by decide) ?_
          refine ww_goto (pc := 80) (tgt := 84) g.1 d_St_order_80 (by decide) ?_
          exact j_St_order_j84 g hR 1 s ls (lv_sub hl [] rfl) h
      · refine ww_lload_n (pc := 57) g.1 d_St_order_57 rfl (lv_at hl 1 rfl) ?_
        refine ww_lload (pc := 58) g.1 d_St_order_58 (lv_at hl 0 rfl) ?_
        refine ww_lcmp (pc := 60) g.1 d_St_order_60 ?_
        refine ww_if_ge (pc := 61) (tgt := 68) g.1 d_St_order_61 (by decide) h (fun c h => ?_) (fun c h => ?_)
        · refine ww_iconst (pc := 68) g.1 (v := 0) d_St_order_68 (by decide) ?_
          refine ww_goto (pc := 69) (tgt := 84) g.1 d_St_order_69 (by decide) ?_
          exact j_St_order_j84 g hR 0 s ls (lv_sub hl [] rfl) h
        · refine ww_iconst (pc := 64) g.1 (v := 1) d_St_order_64 (by decide) ?_
          refine ww_goto (pc := 65) (tgt := 84) g.1 d_St_order_65 (by decide) ?_
          exact j_St_order_j84 g hR 1 s ls (lv_sub hl [] rfl) h


