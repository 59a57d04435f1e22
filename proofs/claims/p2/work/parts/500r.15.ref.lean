abbrev b_Mo_follow : ByteArray := prog_14_method_48_code
def y_Mo_follow : MethodName := ⟨R_Mo, "follow", "(I)V"⟩
abbrev w_Mo_follow : List Cond := .code y_Mo_follow b_Mo_follow 3 none :: wA
set_option maxRecDepth 20000 in
theorem k_Mo_follow : Cond.code y_Mo_follow b_Mo_follow 3 none ∈ wA := kinm (show _ ∈ tables_1 from (List.mem_append_right _ (List.mem_append_right _ (List.mem_append_right _ (List.mem_append_right _ (List.mem_append_right _ (List.mem_append_right _ (List.mem_append_right _ (List.mem_append_right _ (List.mem_append_right _ (List.mem_append_right _ (List.mem_append_right _ (List.mem_append_left _ (List.mem_of_getElem? (l := tables_1_12) (i := 23) rfl)))))))))))))) rfl
theorem d_Mo_follow_0 : decode b_Mo_follow 0 = .ok (.aload_n 0, 1) := by decide +kernel
theorem d_Mo_follow_1 : decode b_Mo_follow 1 = .ok (.getfield 155, 3) := by decide +kernel
theorem d_Mo_follow_4 : decode b_Mo_follow 4 = .ok (.iload_n 1, 1) := by decide +kernel
theorem d_Mo_follow_5 : decode b_Mo_follow 5 = .ok (.baload, 1) := by decide +kernel
theorem d_Mo_follow_6 : decode b_Mo_follow 6 = .ok (.tableswitch 203 5 8 #[30, 105, 185, 165], 30) := by decide +kernel
theorem d_Mo_follow_36 : decode b_Mo_follow 36 = .ok (.aload_n 0, 1) := by decide +kernel
theorem d_Mo_follow_37 : decode b_Mo_follow 37 = .ok (.aload_n 0, 1) := by decide +kernel
theorem d_Mo_follow_38 : decode b_Mo_follow 38 = .ok (.getfield 177, 3) := by decide +kernel
theorem d_Mo_follow_41 : decode b_Mo_follow 41 = .ok (.iload_n 1, 1) := by decide +kernel
theorem d_Mo_follow_42 : decode b_Mo_follow 42 = .ok (.iaload, 1) := by decide +kernel
theorem d_Mo_follow_43 : decode b_Mo_follow 43 = .ok (.invokevirtual 606, 3) := by decide +kernel
theorem d_Mo_follow_46 : decode b_Mo_follow 46 = .ok (.aload_n 0, 1) := by decide +kernel
theorem d_Mo_follow_47 : decode b_Mo_follow 47 = .ok (.getfield 168, 3) := by decide +kernel
theorem d_Mo_follow_50 : decode b_Mo_follow 50 = .ok (.iload_n 1, 1) := by decide +kernel
theorem d_Mo_follow_51 : decode b_Mo_follow 51 = .ok (.iaload, 1) := by decide +kernel
theorem d_Mo_follow_52 : decode b_Mo_follow 52 = .ok (.istore_n 2, 1) := by decide +kernel
theorem d_Mo_follow_53 : decode b_Mo_follow 53 = .ok (.iload_n 2, 1) := by decide +kernel
theorem d_Mo_follow_54 : decode b_Mo_follow 54 = .ok (.aload_n 0, 1) := by decide +kernel
theorem d_Mo_follow_55 : decode b_Mo_follow 55 = .ok (.getfield 168, 3) := by decide +kernel
theorem d_Mo_follow_58 : decode b_Mo_follow 58 = .ok (.iload_n 1, 1) := by decide +kernel
theorem d_Mo_follow_59 : decode b_Mo_follow 59 = .ok (.iaload, 1) := by decide +kernel
theorem d_Mo_follow_60 : decode b_Mo_follow 60 = .ok (.aload_n 0, 1) := by decide +kernel
theorem d_Mo_follow_61 : decode b_Mo_follow 61 = .ok (.getfield 174, 3) := by decide +kernel
theorem d_Mo_follow_64 : decode b_Mo_follow 64 = .ok (.iload_n 1, 1) := by decide +kernel
theorem d_Mo_follow_65 : decode b_Mo_follow 65 = .ok (.iaload, 1) := by decide +kernel
theorem d_Mo_follow_66 : decode b_Mo_follow 66 = .ok (.iadd, 1) := by decide +kernel
theorem d_Mo_follow_67 : decode b_Mo_follow 67 = .ok (.if_icmp .ge 41, 3) := by decide +kernel
theorem d_Mo_follow_70 : decode b_Mo_follow 70 = .ok (.aload_n 0, 1) := by decide +kernel
theorem d_Mo_follow_71 : decode b_Mo_follow 71 = .ok (.aload_n 0, 1) := by decide +kernel
theorem d_Mo_follow_72 : decode b_Mo_follow 72 = .ok (.getfield 193, 3) := by decide +kernel
theorem d_Mo_follow_75 : decode b_Mo_follow 75 = .ok (.iload_n 2, 1) := by decide +kernel
theorem d_Mo_follow_76 : decode b_Mo_follow 76 = .ok (.baload, 1) := by decide +kernel
theorem d_Mo_follow_77 : decode b_Mo_follow 77 = .ok (.aload_n 0, 1) := by decide +kernel
theorem d_Mo_follow_78 : decode b_Mo_follow 78 = .ok (.getfield 199, 3) := by decide +kernel
theorem d_Mo_follow_81 : decode b_Mo_follow 81 = .ok (.iload_n 2, 1) := by decide +kernel
theorem d_Mo_follow_82 : decode b_Mo_follow 82 = .ok (.laload, 1) := by decide +kernel
theorem d_Mo_follow_83 : decode b_Mo_follow 83 = .ok (.invokevirtual 609, 3) := by decide +kernel
theorem d_Mo_follow_86 : decode b_Mo_follow 86 = .ok (.aload_n 0, 1) := by decide +kernel
theorem d_Mo_follow_87 : decode b_Mo_follow 87 = .ok (.aload_n 0, 1) := by decide +kernel
theorem d_Mo_follow_88 : decode b_Mo_follow 88 = .ok (.getfield 196, 3) := by decide +kernel
theorem d_Mo_follow_91 : decode b_Mo_follow 91 = .ok (.iload_n 2, 1) := by decide +kernel
theorem d_Mo_follow_92 : decode b_Mo_follow 92 = .ok (.baload, 1) := by decide +kernel
theorem d_Mo_follow_93 : decode b_Mo_follow 93 = .ok (.aload_n 0, 1) := by decide +kernel
theorem d_Mo_follow_94 : decode b_Mo_follow 94 = .ok (.getfield 203, 3) := by decide +kernel
theorem d_Mo_follow_97 : decode b_Mo_follow 97 = .ok (.iload_n 2, 1) := by decide +kernel
theorem d_Mo_follow_98 : decode b_Mo_follow 98 = .ok (.laload, 1) := by decide +kernel
theorem d_Mo_follow_99 : decode b_Mo_follow 99 = .ok (.invokevirtual 609, 3) := by decide +kernel
theorem d_Mo_follow_102 : decode b_Mo_follow 102 = .ok (.iinc 2 1, 3) := by decide +kernel
theorem d_Mo_follow_105 : decode b_Mo_follow 105 = .ok (.goto (-52), 3) := by decide +kernel
theorem d_Mo_follow_108 : decode b_Mo_follow 108 = .ok (.goto 101, 3) := by decide +kernel
theorem d_Mo_follow_111 : decode b_Mo_follow 111 = .ok (.aload_n 0, 1) := by decide +kernel
theorem d_Mo_follow_112 : decode b_Mo_follow 112 = .ok (.getfield 168, 3) := by decide +kernel
theorem d_Mo_follow_115 : decode b_Mo_follow 115 = .ok (.iload_n 1, 1) := by decide +kernel
theorem d_Mo_follow_116 : decode b_Mo_follow 116 = .ok (.iaload, 1) := by decide +kernel
theorem d_Mo_follow_117 : decode b_Mo_follow 117 = .ok (.ifCond .ge 16, 3) := by decide +kernel
theorem d_Mo_follow_120 : decode b_Mo_follow 120 = .ok (.aload_n 0, 1) := by decide +kernel
theorem d_Mo_follow_121 : decode b_Mo_follow 121 = .ok (.aload_n 0, 1) := by decide +kernel
theorem d_Mo_follow_122 : decode b_Mo_follow 122 = .ok (.getfield 171, 3) := by decide +kernel
theorem d_Mo_follow_125 : decode b_Mo_follow 125 = .ok (.iload_n 1, 1) := by decide +kernel
theorem d_Mo_follow_126 : decode b_Mo_follow 126 = .ok (.iaload, 1) := by decide +kernel
theorem d_Mo_follow_127 : decode b_Mo_follow 127 = .ok (.invokevirtual 606, 3) := by decide +kernel
theorem d_Mo_follow_130 : decode b_Mo_follow 130 = .ok (.goto 79, 3) := by decide +kernel
theorem d_Mo_follow_133 : decode b_Mo_follow 133 = .ok (.iconst 0, 1) := by decide +kernel
theorem d_Mo_follow_134 : decode b_Mo_follow 134 = .ok (.istore_n 2, 1) := by decide +kernel
theorem d_Mo_follow_135 : decode b_Mo_follow 135 = .ok (.iload_n 2, 1) := by decide +kernel
theorem d_Mo_follow_136 : decode b_Mo_follow 136 = .ok (.aload_n 0, 1) := by decide +kernel
theorem d_Mo_follow_137 : decode b_Mo_follow 137 = .ok (.getfield 174, 3) := by decide +kernel
theorem d_Mo_follow_140 : decode b_Mo_follow 140 = .ok (.iload_n 1, 1) := by decide +kernel
theorem d_Mo_follow_141 : decode b_Mo_follow 141 = .ok (.iaload, 1) := by decide +kernel
theorem d_Mo_follow_142 : decode b_Mo_follow 142 = .ok (.if_icmp .ge 26, 3) := by decide +kernel
theorem d_Mo_follow_145 : decode b_Mo_follow 145 = .ok (.aload_n 0, 1) := by decide +kernel
theorem d_Mo_follow_146 : decode b_Mo_follow 146 = .ok (.aload_n 0, 1) := by decide +kernel
theorem d_Mo_follow_147 : decode b_Mo_follow 147 = .ok (.getfield 206, 3) := by decide +kernel
theorem d_Mo_follow_150 : decode b_Mo_follow 150 = .ok (.aload_n 0, 1) := by decide +kernel
theorem d_Mo_follow_151 : decode b_Mo_follow 151 = .ok (.getfield 171, 3) := by decide +kernel
theorem d_Mo_follow_154 : decode b_Mo_follow 154 = .ok (.iload_n 1, 1) := by decide +kernel
theorem d_Mo_follow_155 : decode b_Mo_follow 155 = .ok (.iaload, 1) := by decide +kernel
theorem d_Mo_follow_156 : decode b_Mo_follow 156 = .ok (.iload_n 2, 1) := by decide +kernel
theorem d_Mo_follow_157 : decode b_Mo_follow 157 = .ok (.iadd, 1) := by decide +kernel
theorem d_Mo_follow_158 : decode b_Mo_follow 158 = .ok (.iaload, 1) := by decide +kernel
theorem d_Mo_follow_159 : decode b_Mo_follow 159 = .ok (.invokevirtual 606, 3) := by decide +kernel
theorem d_Mo_follow_162 : decode b_Mo_follow 162 = .ok (.iinc 2 1, 3) := by decide +kernel
theorem d_Mo_follow_165 : decode b_Mo_follow 165 = .ok (.goto (-30), 3) := by decide +kernel
theorem d_Mo_follow_168 : decode b_Mo_follow 168 = .ok (.goto 41, 3) := by decide +kernel
theorem d_Mo_follow_171 : decode b_Mo_follow 171 = .ok (.aload_n 0, 1) := by decide +kernel
theorem d_Mo_follow_172 : decode b_Mo_follow 172 = .ok (.iload_n 1, 1) := by decide +kernel
theorem d_Mo_follow_173 : decode b_Mo_follow 173 = .ok (.invokevirtual 594, 3) := by decide +kernel
theorem d_Mo_follow_176 : decode b_Mo_follow 176 = .ok (.aload_n 0, 1) := by decide +kernel
theorem d_Mo_follow_177 : decode b_Mo_follow 177 = .ok (.aload_n 0, 1) := by decide +kernel
theorem d_Mo_follow_178 : decode b_Mo_follow 178 = .ok (.getfield 222, 3) := by decide +kernel
theorem d_Mo_follow_181 : decode b_Mo_follow 181 = .ok (.aload_n 0, 1) := by decide +kernel
theorem d_Mo_follow_182 : decode b_Mo_follow 182 = .ok (.getfield 225, 3) := by decide +kernel
theorem d_Mo_follow_185 : decode b_Mo_follow 185 = .ok (.invokevirtual 609, 3) := by decide +kernel
theorem d_Mo_follow_188 : decode b_Mo_follow 188 = .ok (.goto 21, 3) := by decide +kernel
theorem d_Mo_follow_191 : decode b_Mo_follow 191 = .ok (.aload_n 0, 1) := by decide +kernel
theorem d_Mo_follow_192 : decode b_Mo_follow 192 = .ok (.getfield 239, 3) := by decide +kernel
theorem d_Mo_follow_195 : decode b_Mo_follow 195 = .ok (.aload_n 0, 1) := by decide +kernel
theorem d_Mo_follow_196 : decode b_Mo_follow 196 = .ok (.getfield 168, 3) := by decide +kernel
theorem d_Mo_follow_199 : decode b_Mo_follow 199 = .ok (.iload_n 1, 1) := by decide +kernel
theorem d_Mo_follow_200 : decode b_Mo_follow 200 = .ok (.iaload, 1) := by decide +kernel
theorem d_Mo_follow_201 : decode b_Mo_follow 201 = .ok (.aaload, 1) := by decide +kernel
theorem d_Mo_follow_202 : decode b_Mo_follow 202 = .ok (.aload_n 0, 1) := by decide +kernel
theorem d_Mo_follow_203 : decode b_Mo_follow 203 = .ok (.invokevirtual 629, 3) := by decide +kernel
theorem d_Mo_follow_206 : decode b_Mo_follow 206 = .ok (.goto 3, 3) := by decide +kernel
theorem d_Mo_follow_209 : decode b_Mo_follow 209 = .ok (.return_, 1) := by decide +kernel
theorem kw_393 : Cond.methodLink R_Mo 629 y_Th_reach ∈ wA := kinm (show _ ∈ tables_1 from (List.mem_append_right _ (List.mem_append_right _ (List.mem_append_right _ (List.mem_append_right _ (List.mem_append_right _ (List.mem_append_right _ (List.mem_append_right _ (List.mem_append_right _ (List.mem_append_right _ (List.mem_append_right _ (List.mem_append_right _ (List.mem_append_left _ (List.mem_of_getElem? (l := tables_1_12) (i := 28) (by decide +kernel))))))))))))))) (by decide +kernel)
theorem kw_394 : Cond.instanceMethod y_Mo_follow ∈ wA := kinm (show _ ∈ tables_1 from (List.mem_append_right _ (List.mem_append_right _ (List.mem_append_right _ (List.mem_append_right _ (List.mem_append_right _ (List.mem_append_right _ (List.mem_append_right _ (List.mem_append_right _ (List.mem_append_right _ (List.mem_append_right _ (List.mem_append_right _ (List.mem_append_left _ (List.mem_of_getElem? (l := tables_1_12) (i := 22) (by decide +kernel))))))))))))))) (by decide +kernel)
theorem kw_395 : Cond.selects R_Mo y_Mo_follow y_Mo_follow ∈ wA := kinp 133 (by decide +kernel) (by decide +kernel)
theorem cv_Mo_follow : CV y_Mo_follow b_Mo_follow 3 none 1 := ⟨kw_394, kw_395, kw_17, k_Mo_follow, by decide +kernel⟩
theorem lp_Mo_follow_L53 {X : Cx} {q : PL} (g : Gd X y_Mo_follow b_Mo_follow 3 none 4 90 R_Mo) (x : Int32 × Int32) (s : S1) (o : ((Int32 × Int32) ⊕ ((Unit))) × S1) (h : M_Mo_follow_L53 x s = some o) (hR : (Sum.elim (fun y : Int32 × Int32 => ∀ ls : Array Slot, lv_has ls 3 [(0, .ref (q.1 0 0)), (1, .int y.1), (2, .int y.2)] → WW X q o.2 53 ls []) (fun y : Unit => ∀ ls : Array Slot, lv_has ls 3 [] → WW X q o.2 108 ls []) o.1)) : ∀ ls : Array Slot, lv_has ls 3 [(0, .ref (q.1 0 0)), (1, .int x.1), (2, .int x.2)] → WW X q s 53 ls [] := by
  intro ls hl
  unfold M_Mo_follow_L53 at h
  refine ww_iload_n (pc := 53) g.1 d_Mo_follow_53 rfl (lv_at hl 2 rfl) ?_
  refine ww_aload_n (pc := 54) g.1 d_Mo_follow_54 rfl (lv_at hl 0 rfl) ?_
  refine ww_gR (pc := 55) g (k := 49) cl_Mo (pz rfl (by decide)) (by decide) (Or.inl kw_87) (f := 49) (t := 62) rfl rfl rfl d_Mo_follow_55 ?_
  refine ww_iload_n (pc := 58) g.1 d_Mo_follow_58 rfl (lv_at hl 1 rfl) ?_
  refine ww_ai (pc := 59) g (pz rfl (by decide)) rfl rfl d_Mo_follow_59 h fun v59 h => ?_
  refine ww_aload_n (pc := 60) g.1 d_Mo_follow_60 rfl (lv_at hl 0 rfl) ?_
  refine ww_gR (pc := 61) g (k := 51) cl_Mo (pz rfl (by decide)) (by decide) (Or.inl kw_123) (f := 51) (t := 64) rfl rfl rfl d_Mo_follow_61 ?_
  refine ww_iload_n (pc := 64) g.1 d_Mo_follow_64 rfl (lv_at hl 1 rfl) ?_
  refine ww_ai (pc := 65) g (pz rfl (by decide)) rfl rfl d_Mo_follow_65 h fun v65 h => ?_
  refine ww_iadd (pc := 66) g.1 d_Mo_follow_66 ?_
  refine ww_icmp_ge (pc := 67) (tgt := 108) g.1 d_Mo_follow_67 (by decide) h (fun c h => ?_) (fun c h => ?_)
  · rw [oR_eq h] at hR
    exact hR ls (lv_sub hl [] rfl)
  · refine ww_aload_n (pc := 70) g.1 d_Mo_follow_70 rfl (lv_at hl 0 rfl) ?_
    refine ww_aload_n (pc := 71) g.1 d_Mo_follow_71 rfl (lv_at hl 0 rfl) ?_
    refine ww_g5 (pc := 72) g (k := 57) cl_Mo (pz rfl (by decide)) (by decide) (Or.inl kw_124) (f := 57) (t := 69) (f2 := 8959) rfl rfl rfl rfl d_Mo_follow_72 h fun v72 hv72 h => ?_
    refine ww_ok h fun cv72 h => ?_
    refine ww_dn cv72 ?_
    have pd72 : prs s 69 0 := pd (f := 8959) rfl (by decide) hv72 cv72
    refine ww_iload_n (pc := 75) g.1 d_Mo_follow_75 rfl (lv_at hl 2 rfl) ?_
    refine ww_ab (pc := 76) g pd72 rfl rfl d_Mo_follow_76 h fun v76 h => ?_
    refine ww_aload_n (pc := 77) g.1 d_Mo_follow_77 rfl (lv_at hl 0 rfl) ?_
    refine ww_g5 (pc := 78) g (k := 59) cl_Mo (pz rfl (by decide)) (by decide) (Or.inl kw_125) (f := 59) (t := 71) (f2 := 9215) rfl rfl rfl rfl d_Mo_follow_78 h fun v78 hv78 h => ?_
    refine ww_ok h fun cv78 h => ?_
    refine ww_dn cv78 ?_
    have pd78 : prs s 71 0 := pd (f := 9215) rfl (by decide) hv78 cv78
    refine ww_iload_n (pc := 81) g.1 d_Mo_follow_81 rfl (lv_at hl 2 rfl) ?_
    refine ww_al (pc := 82) g pd78 rfl rfl d_Mo_follow_82 h fun v82 h => ?_
    obtain ⟨v83, s, hc83, h⟩ := oB_of h
    refine ww_callV (pc := 83) (rest := []) g cv_Mo_mark (Or.inl kw_320) cl_Mo (pz rfl (by decide)) (ct_Mo_mark hc83) ⟨by decide, by decide⟩ rfl hl.1 (Nat.le_of_ble_eq_true rfl) d_Mo_follow_83 rfl ?_
    refine ww_st (st' := []) rfl ?_
    refine ww_aload_n (pc := 86) g.1 d_Mo_follow_86 rfl (lv_at hl 0 rfl) ?_
    refine ww_aload_n (pc := 87) g.1 d_Mo_follow_87 rfl (lv_at hl 0 rfl) ?_
    refine ww_g5 (pc := 88) g (k := 58) cl_Mo (pz rfl (by decide)) (by decide) (Or.inl kw_126) (f := 58) (t := 70) (f2 := 9087) rfl rfl rfl rfl d_Mo_follow_88 h fun v88 hv88 h => ?_
    refine ww_ok h fun cv88 h => ?_
    refine ww_dn cv88 ?_
    have pd88 : prs s 70 0 := pd (f := 9087) rfl (by decide) hv88 cv88
    refine ww_iload_n (pc := 91) g.1 d_Mo_follow_91 rfl (lv_at hl 2 rfl) ?_
    refine ww_ab (pc := 92) g pd88 rfl rfl d_Mo_follow_92 h fun v92 h => ?_
    refine ww_aload_n (pc := 93) g.1 d_Mo_follow_93 rfl (lv_at hl 0 rfl) ?_
    refine ww_g5 (pc := 94) g (k := 60) cl_Mo (pz rfl (by decide)) (by decide) (Or.inl kw_127) (f := 60) (t := 72) (f2 := 9343) rfl rfl rfl rfl d_Mo_follow_94 h fun v94 hv94 h => ?_
    refine ww_ok h fun cv94 h => ?_
    refine ww_dn cv94 ?_
    have pd94 : prs s 72 0 := pd (f := 9343) rfl (by decide) hv94 cv94
    refine ww_iload_n (pc := 97) g.1 d_Mo_follow_97 rfl (lv_at hl 2 rfl) ?_
    refine ww_al (pc := 98) g pd94 rfl rfl d_Mo_follow_98 h fun v98 h => ?_
    obtain ⟨v99, s, hc99, h⟩ := oB_of h
    refine ww_callV (pc := 99) (rest := []) g cv_Mo_mark (Or.inl kw_320) cl_Mo (pz rfl (by decide)) (ct_Mo_mark hc99) ⟨by decide, by decide⟩ rfl hl.1 (Nat.le_of_ble_eq_true rfl) d_Mo_follow_99 rfl ?_
    refine ww_st (st' := []) rfl ?_
    refine ww_iinc (pc := 102) g.1 (v := x.2 + 1) (lv' := [(2, .int (x.2 + 1)), (0, .ref (q.1 0 0)), (1, .int x.1)]) d_Mo_follow_102 hl (k := 2) rfl (by rfl) (by decide) rfl fun ls hl => ?_
    refine ww_goto (pc := 105) (tgt := 53) g.1 d_Mo_follow_105 (by decide) ?_
    rw [oR_eq h] at hR
    exact hR ls (lv_sub hl [1, 2, 0] rfl)

theorem lp_Mo_follow_L135 {X : Cx} {q : PL} (g : Gd X y_Mo_follow b_Mo_follow 3 none 4 90 R_Mo) (x : Int32 × Int32) (s : S1) (o : ((Int32 × Int32) ⊕ ((Unit))) × S1) (h : M_Mo_follow_L135 x s = some o) (hR : (Sum.elim (fun y : Int32 × Int32 => ∀ ls : Array Slot, lv_has ls 3 [(0, .ref (q.1 0 0)), (1, .int y.1), (2, .int y.2)] → WW X q o.2 135 ls []) (fun y : Unit => ∀ ls : Array Slot, lv_has ls 3 [] → WW X q o.2 168 ls []) o.1)) : ∀ ls : Array Slot, lv_has ls 3 [(0, .ref (q.1 0 0)), (1, .int x.1), (2, .int x.2)] → WW X q s 135 ls [] := by
  intro ls hl
  unfold M_Mo_follow_L135 at h
  refine ww_iload_n (pc := 135) g.1 d_Mo_follow_135 rfl (lv_at hl 2 rfl) ?_
  refine ww_aload_n (pc := 136) g.1 d_Mo_follow_136 rfl (lv_at hl 0 rfl) ?_
  refine ww_gR (pc := 137) g (k := 51) cl_Mo (pz rfl (by decide)) (by decide) (Or.inl kw_123) (f := 51) (t := 64) rfl rfl rfl d_Mo_follow_137 ?_
  refine ww_iload_n (pc := 140) g.1 d_Mo_follow_140 rfl (lv_at hl 1 rfl) ?_
  refine ww_ai (pc := 141) g (pz rfl (by decide)) rfl rfl d_Mo_follow_141 h fun v141 h => ?_
  refine ww_icmp_ge (pc := 142) (tgt := 168) g.1 d_Mo_follow_142 (by decide) h (fun c h => ?_) (fun c h => ?_)
  · rw [oR_eq h] at hR
    exact hR ls (lv_sub hl [] rfl)
  · refine ww_aload_n (pc := 145) g.1 d_Mo_follow_145 rfl (lv_at hl 0 rfl) ?_
    refine ww_aload_n (pc := 146) g.1 d_Mo_follow_146 rfl (lv_at hl 0 rfl) ?_
    refine ww_g5 (pc := 147) g (k := 61) cl_Mo (pz rfl (by decide)) (by decide) (Or.inl kw_129) (f := 61) (t := 73) (f2 := 9471) rfl rfl rfl rfl d_Mo_follow_147 h fun v147 hv147 h => ?_
    refine ww_ok h fun cv147 h => ?_
    refine ww_dn cv147 ?_
    have pd147 : prs s 73 0 := pd (f := 9471) rfl (by decide) hv147 cv147
    refine ww_aload_n (pc := 150) g.1 d_Mo_follow_150 rfl (lv_at hl 0 rfl) ?_
    refine ww_gR (pc := 151) g (k := 50) cl_Mo (pz rfl (by decide)) (by decide) (Or.inl kw_91) (f := 50) (t := 63) rfl rfl rfl d_Mo_follow_151 ?_
    refine ww_iload_n (pc := 154) g.1 d_Mo_follow_154 rfl (lv_at hl 1 rfl) ?_
    refine ww_ai (pc := 155) g (pz rfl (by decide)) rfl rfl d_Mo_follow_155 h fun v155 h => ?_
    refine ww_iload_n (pc := 156) g.1 d_Mo_follow_156 rfl (lv_at hl 2 rfl) ?_
    refine ww_iadd (pc := 157) g.1 d_Mo_follow_157 ?_
    refine ww_ai (pc := 158) g pd147 rfl rfl d_Mo_follow_158 h fun v158 h => ?_
    obtain ⟨v159, s, hc159, h⟩ := oB_of h
    refine ww_callV (pc := 159) (rest := []) g cv_Mo_place (Or.inl kw_84) cl_Mo (pz rfl (by decide)) (ct_Mo_place hc159) ⟨by decide, by decide⟩ rfl hl.1 (Nat.le_of_ble_eq_true rfl) d_Mo_follow_159 rfl ?_
    refine ww_st (st' := []) rfl ?_
    refine ww_iinc (pc := 162) g.1 (v := x.2 + 1) (lv' := [(2, .int (x.2 + 1)), (0, .ref (q.1 0 0)), (1, .int x.1)]) d_Mo_follow_162 hl (k := 2) rfl (by rfl) (by decide) rfl fun ls hl => ?_
    refine ww_goto (pc := 165) (tgt := 135) g.1 d_Mo_follow_165 (by decide) ?_
    rw [oR_eq h] at hR
    exact hR ls (lv_sub hl [1, 2, 0] rfl)

theorem ct_Mo_follow {l : Launch} {P : PP} {q : PL} {s s' : S1} {l1 : Int32} {r : Unit} (h : M_Mo_follow l1 s = some (r, s')) : Ct l y_Mo_follow b_Mo_follow 3 none 4 90 P q s [.ref (q.1 0 0), .int l1] none q s' := by
  refine ct_of (by decide) (Nat.le_of_ble_eq_true rfl) fun X ls eP el g hR hl => ?_
  subst eP
  have hR : Rt X q ((r, s') : Unit × S1).2 none := hR
  have hl : lv_has ls 3 [(0, .ref (q.1 0 0)), (1, .int l1)] := hl
  generalize (r, s') = o at h hR
  unfold M_Mo_follow at h
  refine ww_aload_n (pc := 0) g.1 d_Mo_follow_0 rfl (lv_at hl 0 rfl) ?_
  refine ww_gR (pc := 1) g (k := 45) cl_Mo (pz rfl (by decide)) (by decide) (Or.inl kw_110) (f := 45) (t := 58) rfl rfl rfl d_Mo_follow_1 ?_
  refine ww_iload_n (pc := 4) g.1 d_Mo_follow_4 rfl (lv_at hl 1 rfl) ?_
  refine ww_ab (pc := 5) g (pz rfl (by decide)) rfl rfl d_Mo_follow_5 h fun v5 h => ?_
  by_cases c6_36 : v5 = 5
  · have h := oC_pos c6_36 h
    have c := c6_36
    refine ww_tableIn (pc := 6) (tgt := 36) g.1 d_Mo_follow_6 (by rw [c]; decide) (by rw [c]; decide) (by rw [c]; rfl) (by decide) ?_
    refine ww_aload_n (pc := 36) g.1 d_Mo_follow_36 rfl (lv_at hl 0 rfl) ?_
    refine ww_aload_n (pc := 37) g.1 d_Mo_follow_37 rfl (lv_at hl 0 rfl) ?_
    refine ww_gR (pc := 38) g (k := 52) cl_Mo (pz rfl (by decide)) (by decide) (Or.inl kw_341) (f := 52) (t := 65) rfl rfl rfl d_Mo_follow_38 ?_
    refine ww_iload_n (pc := 41) g.1 d_Mo_follow_41 rfl (lv_at hl 1 rfl) ?_
    refine ww_ai (pc := 42) g (pz rfl (by decide)) rfl rfl d_Mo_follow_42 h fun v42 h => ?_
    obtain ⟨v43, s, hc43, h⟩ := oB_of h
    refine ww_callV (pc := 43) (rest := []) g cv_Mo_place (Or.inl kw_84) cl_Mo (pz rfl (by decide)) (ct_Mo_place hc43) ⟨by decide, by decide⟩ rfl hl.1 (Nat.le_of_ble_eq_true rfl) d_Mo_follow_43 rfl ?_
    refine ww_st (st' := []) rfl ?_
    refine ww_aload_n (pc := 46) g.1 d_Mo_follow_46 rfl (lv_at hl 0 rfl) ?_
    refine ww_gR (pc := 47) g (k := 49) cl_Mo (pz rfl (by decide)) (by decide) (Or.inl kw_87) (f := 49) (t := 62) rfl rfl rfl d_Mo_follow_47 ?_
    refine ww_iload_n (pc := 50) g.1 d_Mo_follow_50 rfl (lv_at hl 1 rfl) ?_
    refine ww_ai (pc := 51) g (pz rfl (by decide)) rfl rfl d_Mo_follow_51 h fun v51 h => ?_
    refine ww_istore_n (pc := 52) (i := 2) g.1 (lv' := [(2, .int v51), (0, .ref (q.1 0 0)), (1, .int l1)]) d_Mo_follow_52 rfl hl (by decide) rfl fun ls hl => ?_
    obtain ⟨e53, s1, hw, h⟩ := oB_of h
    refine oW_rule (Wh := fun (x : Int32 × Int32) (s : S1) => ∀ ls : Array Slot, lv_has ls 3 [(0, .ref (q.1 0 0)), (1, .int x.1), (2, .int x.2)] → WW X q s 53 ls []) (We := fun (e : (Unit)) (s : S1) => ∀ ls : Array Slot, lv_has ls 3 [] → WW X q s 108 ls []) (fun x s o hb hc => lp_Mo_follow_L53 (q := q) g x s o hb hc) hw ?_ ls (lv_sub hl [1, 2, 0] rfl)
    clear hw hl
    clear ls
    intro ls hl
    generalize s1 = s at h ⊢
    refine ww_goto (pc := 108) (tgt := 209) g.1 d_Mo_follow_108 (by decide) ?_
    exact ww_vretH (pc := 209) g h hR d_Mo_follow_209
  have h := oC_neg c6_36 h
  by_cases c6_111 : v5 = 6
  · have h := oC_pos c6_111 h
    have c := c6_111
    refine ww_tableIn (pc := 6) (tgt := 111) g.1 d_Mo_follow_6 (by rw [c]; decide) (by rw [c]; decide) (by rw [c]; rfl) (by decide) ?_
    refine ww_aload_n (pc := 111) g.1 d_Mo_follow_111 rfl (lv_at hl 0 rfl) ?_
    refine ww_gR (pc := 112) g (k := 49) cl_Mo (pz rfl (by decide)) (by decide) (Or.inl kw_87) (f := 49) (t := 62) rfl rfl rfl d_Mo_follow_112 ?_
    refine ww_iload_n (pc := 115) g.1 d_Mo_follow_115 rfl (lv_at hl 1 rfl) ?_
    refine ww_ai (pc := 116) g (pz rfl (by decide)) rfl rfl d_Mo_follow_116 h fun v116 h => ?_
    refine ww_if_ge (pc := 117) (tgt := 133) g.1 d_Mo_follow_117 (by decide) h (fun c h => ?_) (fun c h => ?_)
    · refine ww_iconst (pc := 133) g.1 (v := 0) d_Mo_follow_133 (by decide) ?_
      refine ww_istore_n (pc := 134) (i := 2) g.1 (lv' := [(2, .int 0), (0, .ref (q.1 0 0)), (1, .int l1)]) d_Mo_follow_134 rfl hl (by decide) rfl fun ls hl => ?_
      obtain ⟨e135, s1, hw, h⟩ := oB_of h
      refine oW_rule (Wh := fun (x : Int32 × Int32) (s : S1) => ∀ ls : Array Slot, lv_has ls 3 [(0, .ref (q.1 0 0)), (1, .int x.1), (2, .int x.2)] → WW X q s 135 ls []) (We := fun (e : (Unit)) (s : S1) => ∀ ls : Array Slot, lv_has ls 3 [] → WW X q s 168 ls []) (fun x s o hb hc => lp_Mo_follow_L135 (q := q) g x s o hb hc) hw ?_ ls (lv_sub hl [1, 2, 0] rfl)
      clear hw hl
      clear ls
      intro ls hl
      generalize s1 = s at h ⊢
      refine ww_goto (pc := 168) (tgt := 209) g.1 d_Mo_follow_168 (by decide) ?_
      exact ww_vretH (pc := 209) g h hR d_Mo_follow_209
    · refine ww_aload_n (pc := 120) g.1 d_Mo_follow_120 rfl (lv_at hl 0 rfl) ?_
      refine ww_aload_n (pc := 121) g.1 d_Mo_follow_121 rfl (lv_at hl 0 rfl) ?_
      refine ww_gR (pc := 122) g (k := 50) cl_Mo (pz rfl (by decide)) (by decide) (Or.inl kw_91) (f := 50) (t := 63) rfl rfl rfl d_Mo_follow_122 ?_
      refine ww_iload_n (pc := 125) g.1 d_Mo_follow_125 rfl (lv_at hl 1 rfl) ?_
      refine ww_ai (pc := 126) g (pz rfl (by decide)) rfl rfl d_Mo_follow_126 h fun v126 h => ?_
      obtain ⟨v127, s, hc127, h⟩ := oB_of h
      refine ww_callV (pc := 127) (rest := []) g cv_Mo_place (Or.inl kw_84) cl_Mo (pz rfl (by decide)) (ct_Mo_place hc127) ⟨by decide, by decide⟩ rfl hl.1 (Nat.le_of_ble_eq_true rfl) d_Mo_follow_127 rfl ?_
      refine ww_st (st' := []) rfl ?_
      refine ww_goto (pc := 130) (tgt := 209) g.1 d_Mo_follow_130 (by decide) ?_
      exact ww_vretH (pc := 209) g h hR d_Mo_follow_209
  have h := oC_neg c6_111 h
  by_cases c6_191 : v5 = 7
  · have h := oC_pos c6_191 h
    have c := c6_191
    refine ww_tableIn (pc := 6) (tgt := 191) g.1 d_Mo_follow_6 (by rw [c]; decide) (by rw [c]; decide) (by rw [c]; rfl) (by decide) ?_
    refine ww_aload_n (pc := 191) g.1 d_Mo_follow_191 rfl (lv_at hl 0 rfl) ?_
    refine ww_gR (pc := 192) g (k := 71) cl_Mo (pz rfl (by decide)) (by decide) (Or.inl kw_88) (f := 71) (t := 76) rfl rfl rfl d_Mo_follow_192 ?_
    refine ww_aload_n (pc := 195) g.1 d_Mo_follow_195 rfl (lv_at hl 0 rfl) ?_
    refine ww_gR (pc := 196) g (k := 49) cl_Mo (pz rfl (by decide)) (by decide) (Or.inl kw_87) (f := 49) (t := 62) rfl rfl rfl d_Mo_follow_196 ?_
    refine ww_iload_n (pc := 199) g.1 d_Mo_follow_199 rfl (lv_at hl 1 rfl) ?_
    refine ww_ai (pc := 200) g (pz rfl (by decide)) rfl rfl d_Mo_follow_200 h fun v200 h => ?_
    refine ww_at (pc := 201) g (t := 28) (pz rfl (by decide)) rfl rfl rfl d_Mo_follow_201 h fun ca201 h => ?_
    refine ww_aload_n (pc := 202) g.1 d_Mo_follow_202 rfl (lv_at hl 0 rfl) ?_
    obtain ⟨v203, s, hc203, h⟩ := oB_of h
    refine ww_callV (pc := 203) (rest := []) g cv_Th_reach (Or.inl kw_393) cl_Th (pt rfl rfl ca201) (ct_Th_reach ca201 hc203) ⟨by decide, by decide⟩ rfl hl.1 (Nat.le_of_ble_eq_true rfl) d_Mo_follow_203 rfl ?_
    refine ww_st (st' := []) rfl ?_
    refine ww_goto (pc := 206) (tgt := 209) g.1 d_Mo_follow_206 (by decide) ?_
    exact ww_vretH (pc := 209) g h hR d_Mo_follow_209
  have h := oC_neg c6_191 h
  by_cases c6_171 : v5 = 8
  · have h := oC_pos c6_171 h
    have c := c6_171
    refine ww_tableIn (pc := 6) (tgt := 171) g.1 d_Mo_follow_6 (by rw [c]; decide) (by rw [c]; decide) (by rw [c]; rfl) (by decide) ?_
    refine ww_aload_n (pc := 171) g.1 d_Mo_follow_171 rfl (lv_at hl 0 rfl) ?_
    refine ww_iload_n (pc := 172) g.1 d_Mo_follow_172 rfl (lv_at hl 1 rfl) ?_
    obtain ⟨v173, s, hc173, h⟩ := oB_of h
    refine ww_callV (pc := 173) (rest := []) g cv_Mo_load (Or.inl kw_98) cl_Mo (pz rfl (by decide)) (ct_Mo_load hc173) ⟨by decide, by decide⟩ rfl hl.1 (Nat.le_of_ble_eq_true rfl) d_Mo_follow_173 rfl ?_
    refine ww_st (st' := []) rfl ?_
    refine ww_aload_n (pc := 176) g.1 d_Mo_follow_176 rfl (lv_at hl 0 rfl) ?_
    refine ww_aload_n (pc := 177) g.1 d_Mo_follow_177 rfl (lv_at hl 0 rfl) ?_
    refine ww_gI (pc := 178) g (k := 66) cl_Mo (pz rfl (by decide)) (by decide) (Or.inl kw_92) (f := 66) rfl rfl d_Mo_follow_178 h fun v178 h => ?_
    refine ww_aload_n (pc := 181) g.1 d_Mo_follow_181 rfl (lv_at hl 0 rfl) ?_
    refine ww_gL (pc := 182) g (k := 67) cl_Mo (pz rfl (by decide)) (by decide) (Or.inl kw_94) (f := 67) rfl rfl d_Mo_follow_182 h fun v182 h => ?_
    obtain ⟨v185, s, hc185, h⟩ := oB_of h
    refine ww_callV (pc := 185) (rest := []) g cv_Mo_mark (Or.inl kw_320) cl_Mo (pz rfl (by decide)) (ct_Mo_mark hc185) ⟨by decide, by decide⟩ rfl hl.1 (Nat.le_of_ble_eq_true rfl) d_Mo_follow_185 rfl ?_
    refine ww_st (st' := []) rfl ?_
    refine ww_goto (pc := 188) (tgt := 209) g.1 d_Mo_follow_188 (by decide) ?_
    exact ww_vretH (pc := 209) g h hR d_Mo_follow_209
  have h := oC_neg c6_171 h
  have n_5 : ¬ v5.toInt = 5 := lv_neT (fun e => c6_36 e) rfl
  have n_6 : ¬ v5.toInt = 6 := lv_neT (fun e => c6_111 e) rfl
  have n_7 : ¬ v5.toInt = 7 := lv_neT (fun e => c6_191 e) rfl
  have n_8 : ¬ v5.toInt = 8 := lv_neT (fun e => c6_171 e) rfl
  by_cases hr : v5.toInt < 5 ∨ 8 < v5.toInt
  · refine ww_tableOut (pc := 6) (tgt := 209) g.1 d_Mo_follow_6 hr (by decide) ?_
    exact ww_vretH (pc := 209) g h hR d_Mo_follow_209
  exact absurd hr (by omega)

abbrev b_Mo_sweep : ByteArray := prog_14_method_49_code
def y_Mo_sweep : MethodName := ⟨R_Mo, "sweep", "()V"⟩
abbrev w_Mo_sweep : List Cond := .code y_Mo_sweep b_Mo_sweep 5 none :: wA
set_option maxRecDepth 20000 in
theorem k_Mo_sweep : Cond.code y_Mo_sweep b_Mo_sweep 5 none ∈ wA := kinm (show _ ∈ tables_1 from (List.mem_append_right _ (List.mem_append_right _ (List.mem_append_right _ (List.mem_append_right _ (List.mem_append_right _ (List.mem_append_right _ (List.mem_append_right _ (List.mem_append_right _ (List.mem_append_right _ (List.mem_append_right _ (List.mem_append_right _ (List.mem_append_left _ (List.mem_of_getElem? (l := tables_1_12) (i := 37) rfl)))))))))))))) rfl
theorem d_Mo_sweep_0 : decode b_Mo_sweep 0 = .ok (.aload_n 0, 1) := by decide +kernel
theorem d_Mo_sweep_1 : decode b_Mo_sweep 1 = .ok (.getfield 222, 3) := by decide +kernel
theorem d_Mo_sweep_4 : decode b_Mo_sweep 4 = .ok (.istore_n 1, 1) := by decide +kernel
theorem d_Mo_sweep_5 : decode b_Mo_sweep 5 = .ok (.aload_n 0, 1) := by decide +kernel
theorem d_Mo_sweep_6 : decode b_Mo_sweep 6 = .ok (.getfield 225, 3) := by decide +kernel
theorem d_Mo_sweep_9 : decode b_Mo_sweep 9 = .ok (.lstore_n 2, 1) := by decide +kernel
theorem d_Mo_sweep_10 : decode b_Mo_sweep 10 = .ok (.iconst 0, 1) := by decide +kernel
theorem d_Mo_sweep_11 : decode b_Mo_sweep 11 = .ok (.istore 4, 2) := by decide +kernel
theorem d_Mo_sweep_13 : decode b_Mo_sweep 13 = .ok (.iload 4, 2) := by decide +kernel
theorem d_Mo_sweep_15 : decode b_Mo_sweep 15 = .ok (.aload_n 0, 1) := by decide +kernel
theorem d_Mo_sweep_16 : decode b_Mo_sweep 16 = .ok (.getfield 140, 3) := by decide +kernel
theorem d_Mo_sweep_19 : decode b_Mo_sweep 19 = .ok (.if_icmp .ge 60, 3) := by decide +kernel
theorem d_Mo_sweep_22 : decode b_Mo_sweep 22 = .ok (.aload_n 0, 1) := by decide +kernel
theorem d_Mo_sweep_23 : decode b_Mo_sweep 23 = .ok (.getfield 155, 3) := by decide +kernel
theorem d_Mo_sweep_26 : decode b_Mo_sweep 26 = .ok (.iload 4, 2) := by decide +kernel
theorem d_Mo_sweep_28 : decode b_Mo_sweep 28 = .ok (.baload, 1) := by decide +kernel
theorem d_Mo_sweep_29 : decode b_Mo_sweep 29 = .ok (.ifCond .eq 44, 3) := by decide +kernel
theorem d_Mo_sweep_32 : decode b_Mo_sweep 32 = .ok (.aload_n 0, 1) := by decide +kernel
theorem d_Mo_sweep_33 : decode b_Mo_sweep 33 = .ok (.getfield 158, 3) := by decide +kernel
theorem d_Mo_sweep_36 : decode b_Mo_sweep 36 = .ok (.iload 4, 2) := by decide +kernel
theorem d_Mo_sweep_38 : decode b_Mo_sweep 38 = .ok (.baload, 1) := by decide +kernel
theorem d_Mo_sweep_39 : decode b_Mo_sweep 39 = .ok (.ifCond .eq 6, 3) := by decide +kernel
theorem d_Mo_sweep_42 : decode b_Mo_sweep 42 = .ok (.goto 31, 3) := by decide +kernel
theorem d_Mo_sweep_45 : decode b_Mo_sweep 45 = .ok (.aload_n 0, 1) := by decide +kernel
theorem d_Mo_sweep_46 : decode b_Mo_sweep 46 = .ok (.getfield 155, 3) := by decide +kernel
theorem d_Mo_sweep_49 : decode b_Mo_sweep 49 = .ok (.iload 4, 2) := by decide +kernel
theorem d_Mo_sweep_51 : decode b_Mo_sweep 51 = .ok (.baload, 1) := by decide +kernel
theorem d_Mo_sweep_52 : decode b_Mo_sweep 52 = .ok (.bipush 7, 2) := by decide +kernel
theorem d_Mo_sweep_54 : decode b_Mo_sweep 54 = .ok (.if_icmp .ne 19, 3) := by decide +kernel
theorem d_Mo_sweep_57 : decode b_Mo_sweep 57 = .ok (.aload_n 0, 1) := by decide +kernel
theorem d_Mo_sweep_58 : decode b_Mo_sweep 58 = .ok (.aload_n 0, 1) := by decide +kernel
theorem d_Mo_sweep_59 : decode b_Mo_sweep 59 = .ok (.getfield 239, 3) := by decide +kernel
theorem d_Mo_sweep_62 : decode b_Mo_sweep 62 = .ok (.aload_n 0, 1) := by decide +kernel
theorem d_Mo_sweep_63 : decode b_Mo_sweep 63 = .ok (.getfield 168, 3) := by decide +kernel
theorem d_Mo_sweep_66 : decode b_Mo_sweep 66 = .ok (.iload 4, 2) := by decide +kernel
theorem d_Mo_sweep_68 : decode b_Mo_sweep 68 = .ok (.iaload, 1) := by decide +kernel
theorem d_Mo_sweep_69 : decode b_Mo_sweep 69 = .ok (.aaload, 1) := by decide +kernel
theorem d_Mo_sweep_70 : decode b_Mo_sweep 70 = .ok (.invokevirtual 633, 3) := by decide +kernel
theorem d_Mo_sweep_73 : decode b_Mo_sweep 73 = .ok (.iinc 4 1, 3) := by decide +kernel
theorem d_Mo_sweep_76 : decode b_Mo_sweep 76 = .ok (.goto (-63), 3) := by decide +kernel
theorem d_Mo_sweep_79 : decode b_Mo_sweep 79 = .ok (.iconst 0, 1) := by decide +kernel
theorem d_Mo_sweep_80 : decode b_Mo_sweep 80 = .ok (.istore 4, 2) := by decide +kernel
theorem d_Mo_sweep_82 : decode b_Mo_sweep 82 = .ok (.iload 4, 2) := by decide +kernel
theorem d_Mo_sweep_84 : decode b_Mo_sweep 84 = .ok (.aload_n 0, 1) := by decide +kernel
theorem d_Mo_sweep_85 : decode b_Mo_sweep 85 = .ok (.getfield 140, 3) := by decide +kernel
theorem d_Mo_sweep_88 : decode b_Mo_sweep 88 = .ok (.if_icmp .ge 158, 3) := by decide +kernel
theorem d_Mo_sweep_91 : decode b_Mo_sweep 91 = .ok (.aload_n 0, 1) := by decide +kernel
theorem d_Mo_sweep_92 : decode b_Mo_sweep 92 = .ok (.getfield 155, 3) := by decide +kernel
theorem d_Mo_sweep_95 : decode b_Mo_sweep 95 = .ok (.iload 4, 2) := by decide +kernel
theorem d_Mo_sweep_97 : decode b_Mo_sweep 97 = .ok (.baload, 1) := by decide +kernel
theorem d_Mo_sweep_98 : decode b_Mo_sweep 98 = .ok (.ifCond .eq 142, 3) := by decide +kernel
theorem d_Mo_sweep_101 : decode b_Mo_sweep 101 = .ok (.aload_n 0, 1) := by decide +kernel
theorem d_Mo_sweep_102 : decode b_Mo_sweep 102 = .ok (.getfield 158, 3) := by decide +kernel
theorem d_Mo_sweep_105 : decode b_Mo_sweep 105 = .ok (.iload 4, 2) := by decide +kernel
theorem d_Mo_sweep_107 : decode b_Mo_sweep 107 = .ok (.baload, 1) := by decide +kernel
theorem d_Mo_sweep_108 : decode b_Mo_sweep 108 = .ok (.ifCond .eq 6, 3) := by decide +kernel
theorem d_Mo_sweep_111 : decode b_Mo_sweep 111 = .ok (.goto 129, 3) := by decide +kernel
theorem d_Mo_sweep_114 : decode b_Mo_sweep 114 = .ok (.aload_n 0, 1) := by decide +kernel
theorem d_Mo_sweep_115 : decode b_Mo_sweep 115 = .ok (.getfield 155, 3) := by decide +kernel
theorem d_Mo_sweep_118 : decode b_Mo_sweep 118 = .ok (.iload 4, 2) := by decide +kernel
theorem d_Mo_sweep_120 : decode b_Mo_sweep 120 = .ok (.baload, 1) := by decide +kernel
theorem d_Mo_sweep_121 : decode b_Mo_sweep 121 = .ok (.iconst 4, 1) := by decide +kernel
theorem d_Mo_sweep_122 : decode b_Mo_sweep 122 = .ok (.if_icmp .ne 12, 3) := by decide +kernel
theorem d_Mo_sweep_125 : decode b_Mo_sweep 125 = .ok (.aload_n 0, 1) := by decide +kernel
theorem d_Mo_sweep_126 : decode b_Mo_sweep 126 = .ok (.iload 4, 2) := by decide +kernel
theorem d_Mo_sweep_128 : decode b_Mo_sweep 128 = .ok (.invokevirtual 637, 3) := by decide +kernel
theorem d_Mo_sweep_131 : decode b_Mo_sweep 131 = .ok (.goto 73, 3) := by decide +kernel
theorem d_Mo_sweep_134 : decode b_Mo_sweep 134 = .ok (.aload_n 0, 1) := by decide +kernel
theorem d_Mo_sweep_135 : decode b_Mo_sweep 135 = .ok (.getfield 155, 3) := by decide +kernel
theorem d_Mo_sweep_138 : decode b_Mo_sweep 138 = .ok (.iload 4, 2) := by decide +kernel
theorem d_Mo_sweep_140 : decode b_Mo_sweep 140 = .ok (.baload, 1) := by decide +kernel
theorem d_Mo_sweep_141 : decode b_Mo_sweep 141 = .ok (.iconst 5, 1) := by decide +kernel
theorem d_Mo_sweep_142 : decode b_Mo_sweep 142 = .ok (.if_icmp .ne 22, 3) := by decide +kernel
theorem d_Mo_sweep_145 : decode b_Mo_sweep 145 = .ok (.aload_n 0, 1) := by decide +kernel
theorem d_Mo_sweep_146 : decode b_Mo_sweep 146 = .ok (.dup, 1) := by decide +kernel
theorem d_Mo_sweep_147 : decode b_Mo_sweep 147 = .ok (.getfield 128, 3) := by decide +kernel
theorem d_Mo_sweep_150 : decode b_Mo_sweep 150 = .ok (.aload_n 0, 1) := by decide +kernel
theorem d_Mo_sweep_151 : decode b_Mo_sweep 151 = .ok (.getfield 171, 3) := by decide +kernel
theorem d_Mo_sweep_154 : decode b_Mo_sweep 154 = .ok (.iload 4, 2) := by decide +kernel
theorem d_Mo_sweep_156 : decode b_Mo_sweep 156 = .ok (.iaload, 1) := by decide +kernel
theorem d_Mo_sweep_157 : decode b_Mo_sweep 157 = .ok (.isub, 1) := by decide +kernel
theorem d_Mo_sweep_158 : decode b_Mo_sweep 158 = .ok (.putfield 128, 3) := by decide +kernel
theorem d_Mo_sweep_161 : decode b_Mo_sweep 161 = .ok (.goto 43, 3) := by decide +kernel
theorem d_Mo_sweep_164 : decode b_Mo_sweep 164 = .ok (.aload_n 0, 1) := by decide +kernel
theorem d_Mo_sweep_165 : decode b_Mo_sweep 165 = .ok (.getfield 155, 3) := by decide +kernel
theorem d_Mo_sweep_168 : decode b_Mo_sweep 168 = .ok (.iload 4, 2) := by decide +kernel
theorem d_Mo_sweep_170 : decode b_Mo_sweep 170 = .ok (.baload, 1) := by decide +kernel
theorem d_Mo_sweep_171 : decode b_Mo_sweep 171 = .ok (.bipush 8, 2) := by decide +kernel
theorem d_Mo_sweep_173 : decode b_Mo_sweep 173 = .ok (.if_icmp .ne 31, 3) := by decide +kernel
theorem d_Mo_sweep_176 : decode b_Mo_sweep 176 = .ok (.aload_n 0, 1) := by decide +kernel
theorem d_Mo_sweep_177 : decode b_Mo_sweep 177 = .ok (.getfield 168, 3) := by decide +kernel
theorem d_Mo_sweep_180 : decode b_Mo_sweep 180 = .ok (.iload 4, 2) := by decide +kernel
theorem d_Mo_sweep_182 : decode b_Mo_sweep 182 = .ok (.iaload, 1) := by decide +kernel
theorem d_Mo_sweep_183 : decode b_Mo_sweep 183 = .ok (.ifCond .lt 21, 3) := by decide +kernel
theorem d_Mo_sweep_186 : decode b_Mo_sweep 186 = .ok (.aload_n 0, 1) := by decide +kernel
theorem d_Mo_sweep_187 : decode b_Mo_sweep 187 = .ok (.aload_n 0, 1) := by decide +kernel
theorem d_Mo_sweep_188 : decode b_Mo_sweep 188 = .ok (.getfield 239, 3) := by decide +kernel
theorem d_Mo_sweep_191 : decode b_Mo_sweep 191 = .ok (.aload_n 0, 1) := by decide +kernel
theorem d_Mo_sweep_192 : decode b_Mo_sweep 192 = .ok (.getfield 168, 3) := by decide +kernel
theorem d_Mo_sweep_195 : decode b_Mo_sweep 195 = .ok (.iload 4, 2) := by decide +kernel
theorem d_Mo_sweep_197 : decode b_Mo_sweep 197 = .ok (.iaload, 1) := by decide +kernel
theorem d_Mo_sweep_198 : decode b_Mo_sweep 198 = .ok (.aaload, 1) := by decide +kernel
theorem d_Mo_sweep_199 : decode b_Mo_sweep 199 = .ok (.iload 4, 2) := by decide +kernel
theorem d_Mo_sweep_201 : decode b_Mo_sweep 201 = .ok (.invokevirtual 640, 3) := by decide +kernel
theorem d_Mo_sweep_204 : decode b_Mo_sweep 204 = .ok (.aload_n 0, 1) := by decide +kernel
theorem d_Mo_sweep_205 : decode b_Mo_sweep 205 = .ok (.getfield 155, 3) := by decide +kernel
theorem d_Mo_sweep_208 : decode b_Mo_sweep 208 = .ok (.iload 4, 2) := by decide +kernel
theorem d_Mo_sweep_210 : decode b_Mo_sweep 210 = .ok (.iconst 0, 1) := by decide +kernel
theorem d_Mo_sweep_211 : decode b_Mo_sweep 211 = .ok (.bastore, 1) := by decide +kernel
theorem d_Mo_sweep_212 : decode b_Mo_sweep 212 = .ok (.aload_n 0, 1) := by decide +kernel
theorem d_Mo_sweep_213 : decode b_Mo_sweep 213 = .ok (.dup, 1) := by decide +kernel
theorem d_Mo_sweep_214 : decode b_Mo_sweep 214 = .ok (.getfield 122, 3) := by decide +kernel
theorem d_Mo_sweep_217 : decode b_Mo_sweep 217 = .ok (.iconst 1, 1) := by decide +kernel
theorem d_Mo_sweep_218 : decode b_Mo_sweep 218 = .ok (.isub, 1) := by decide +kernel
theorem d_Mo_sweep_219 : decode b_Mo_sweep 219 = .ok (.putfield 122, 3) := by decide +kernel
theorem d_Mo_sweep_222 : decode b_Mo_sweep 222 = .ok (.aload_n 0, 1) := by decide +kernel
theorem d_Mo_sweep_223 : decode b_Mo_sweep 223 = .ok (.getfield 180, 3) := by decide +kernel
theorem d_Mo_sweep_226 : decode b_Mo_sweep 226 = .ok (.aload_n 0, 1) := by decide +kernel
theorem d_Mo_sweep_227 : decode b_Mo_sweep 227 = .ok (.dup, 1) := by decide +kernel
theorem d_Mo_sweep_228 : decode b_Mo_sweep 228 = .ok (.getfield 183, 3) := by decide +kernel
theorem d_Mo_sweep_231 : decode b_Mo_sweep 231 = .ok (.dup_x1, 1) := by decide +kernel
theorem d_Mo_sweep_232 : decode b_Mo_sweep 232 = .ok (.iconst 1, 1) := by decide +kernel
theorem d_Mo_sweep_233 : decode b_Mo_sweep 233 = .ok (.iadd, 1) := by decide +kernel
theorem d_Mo_sweep_234 : decode b_Mo_sweep 234 = .ok (.putfield 183, 3) := by decide +kernel
theorem d_Mo_sweep_237 : decode b_Mo_sweep 237 = .ok (.iload 4, 2) := by decide +kernel
theorem d_Mo_sweep_239 : decode b_Mo_sweep 239 = .ok (.iastore, 1) := by decide +kernel
theorem d_Mo_sweep_240 : decode b_Mo_sweep 240 = .ok (.iinc 4 1, 3) := by decide +kernel
theorem d_Mo_sweep_243 : decode b_Mo_sweep 243 = .ok (.goto (-161), 3) := by decide +kernel
theorem d_Mo_sweep_246 : decode b_Mo_sweep 246 = .ok (.aload_n 0, 1) := by decide +kernel
theorem d_Mo_sweep_247 : decode b_Mo_sweep 247 = .ok (.iload_n 1, 1) := by decide +kernel
theorem d_Mo_sweep_248 : decode b_Mo_sweep 248 = .ok (.putfield 222, 3) := by decide +kernel
theorem d_Mo_sweep_251 : decode b_Mo_sweep 251 = .ok (.aload_n 0, 1) := by decide +kernel
theorem d_Mo_sweep_252 : decode b_Mo_sweep 252 = .ok (.lload_n 2, 1) := by decide +kernel
theorem d_Mo_sweep_253 : decode b_Mo_sweep 253 = .ok (.putfield 225, 3) := by decide +kernel
theorem d_Mo_sweep_256 : decode b_Mo_sweep 256 = .ok (.return_, 1) := by decide +kernel
theorem kw_396 : Cond.methodLink R_Mo 633 y_Mo_threadGoes ∈ wA := kinm (show _ ∈ tables_1 from (List.mem_append_right _ (List.mem_append_right _ (List.mem_append_right _ (List.mem_append_right _ (List.mem_append_right _ (List.mem_append_right _ (List.mem_append_right _ (List.mem_append_right _ (List.mem_append_right _ (List.mem_append_right _ (List.mem_append_right _ (List.mem_append_left _ (List.mem_of_getElem? (l := tables_1_12) (i := 38) (by decide +kernel))))))))))))))) (by decide +kernel)
theorem kw_397 : Cond.methodLink R_Mo 640 y_Mo_forget ∈ wA := kinm (show _ ∈ tables_1 from (List.mem_append_right _ (List.mem_append_right _ (List.mem_append_right _ (List.mem_append_right _ (List.mem_append_right _ (List.mem_append_right _ (List.mem_append_right _ (List.mem_append_right _ (List.mem_append_right _ (List.mem_append_right _ (List.mem_append_right _ (List.mem_append_left _ (List.mem_of_getElem? (l := tables_1_12) (i := 54) (by decide +kernel))))))))))))))) (by decide +kernel)
theorem kw_398 : Cond.methodLink R_Mo 637 y_Mo_unchain ∈ wA := kinm (show _ ∈ tables_1 from (List.mem_append_right _ (List.mem_append_right _ (List.mem_append_right _ (List.mem_append_right _ (List.mem_append_right _ (List.mem_append_right _ (List.mem_append_right _ (List.mem_append_right _ (List.mem_append_right _ (List.mem_append_right _ (List.mem_append_right _ (List.mem_append_left _ (List.mem_of_getElem? (l := tables_1_12) (i := 46) (by decide +kernel))))))))))))))) (by decide +kernel)
theorem kw_399 : Cond.instanceMethod y_Mo_sweep ∈ wA := kinm (show _ ∈ tables_1 from (List.mem_append_right _ (List.mem_append_right _ (List.mem_append_right _ (List.mem_append_right _ (List.mem_append_right _ (List.mem_append_right _ (List.mem_append_right _ (List.mem_append_right _ (List.mem_append_right _ (List.mem_append_right _ (List.mem_append_right _ (List.mem_append_left _ (List.mem_of_getElem? (l := tables_1_12) (i := 36) (by decide +kernel))))))))))))))) (by decide +kernel)
theorem kw_400 : Cond.selects R_Mo y_Mo_sweep y_Mo_sweep ∈ wA := kinp 135 (by decide +kernel) (by decide +kernel)
theorem cv_Mo_sweep : CV y_Mo_sweep b_Mo_sweep 5 none 0 := ⟨kw_399, kw_400, kw_17, k_Mo_sweep, by decide +kernel⟩
theorem j_Mo_sweep_j73 {X : Cx} {q : PL} (g : Gd X y_Mo_sweep b_Mo_sweep 5 none 3 67 R_Mo) {o : ((Int32 × Int64 × Int32) ⊕ ((Int32 × Int64))) × S1} (hR : (Sum.elim (fun y : Int32 × Int64 × Int32 => ∀ ls : Array Slot, lv_has ls 5 [(0, .ref (q.1 0 0)), (1, .int y.1), (2, .long y.2.1), (4, .int y.2.2)] → WW X q o.2 13 ls []) (fun y : Int32 × Int64 => ∀ ls : Array Slot, lv_has ls 5 [(0, .ref (q.1 0 0)), (1, .int y.1), (2, .long y.2)] → WW X q o.2 79 ls []) o.1)) (l1 : Int32) (l2 : Int64) (l4 : Int32) (s : S1) (ls : Array Slot) (hl : lv_has ls 5 [(0, .ref (q.1 0 0)), (1, .int l1), (2, .long l2), (4, .int l4)]) (h : M_Mo_sweep_j73 l1 l2 l4 s = some o) : WW X q s 73 ls [] := by
  unfold M_Mo_sweep_j73 at h
  refine ww_iinc (pc := 73) g.1 (v := l4 + 1) (lv' := [(4, .int (l4 + 1)), (0, .ref (q.1 0 0)), (1, .int l1), (2, .long l2)]) d_Mo_sweep_73 hl (k := 3) rfl (by rfl) (by decide) rfl fun ls hl => ?_
  refine ww_goto (pc := 76) (tgt := 13) g.1 d_Mo_sweep_76 (by decide) ?_
  rw [oR_eq h] at hR
  exact hR ls (lv_sub hl [1, 2, 3, 0] rfl)

theorem lp_Mo_sweep_L13 {X : Cx} {q : PL} (g : Gd X y_Mo_sweep b_Mo_sweep 5 none 3 67 R_Mo) (x : Int32 × Int64 × Int32) (s : S1) (o : ((Int32 × Int64 × Int32) ⊕ ((Int32 × Int64))) × S1) (h : M_Mo_sweep_L13 x s = some o) (hR : (Sum.elim (fun y : Int32 × Int64 × Int32 => ∀ ls : Array Slot, lv_has ls 5 [(0, .ref (q.1 0 0)), (1, .int y.1), (2, .long y.2.1), (4, .int y.2.2)] → WW X q o.2 13 ls []) (fun y : Int32 × Int64 => ∀ ls : Array Slot, lv_has ls 5 [(0, .ref (q.1 0 0)), (1, .int y.1), (2, .long y.2)] → WW X q o.2 79 ls []) o.1)) : ∀ ls : Array Slot, lv_has ls 5 [(0, .ref (q.1 0 0)), (1, .int x.1), (2, .long x.2.1), (4, .int x.2.2)] → WW X q s 13 ls [] := by
  intro ls hl
  unfold M_Mo_sweep_L13 at h
  refine ww_iload (pc := 13) g.1 d_Mo_sweep_13 (lv_at hl 3 rfl) ?_
  refine ww_aload_n (pc := 15) g.1 d_Mo_sweep_15 rfl (lv_at hl 0 rfl) ?_
  refine ww_gI (pc := 16) g (k := 40) cl_Mo (pz rfl (by decide)) (by decide) (Or.inl kw_109) (f := 40) rfl rfl d_Mo_sweep_16 h fun v16 h => ?_
  refine ww_icmp_ge (pc := 19) (tgt := 79) g.1 d_Mo_sweep_19 (by decide) h (fun c h => ?_) (fun c h => ?_)
  · rw [oR_eq h] at hR
    exact hR ls (lv_sub hl [0, 1, 2] rfl)
  · refine ww_aload_n (pc := 22) g.1 d_Mo_sweep_22 rfl (lv_at hl 0 rfl) ?_
    refine ww_gR (pc := 23) g (k := 45) cl_Mo (pz rfl (by decide)) (by decide) (Or.inl kw_110) (f := 45) (t := 58) rfl rfl rfl d_Mo_sweep_23 ?_
    refine ww_iload (pc := 26) g.1 d_Mo_sweep_26 (lv_at hl 3 rfl) ?_
    refine ww_ab (pc := 28) g (pz rfl (by decide)) rfl rfl d_Mo_sweep_28 h fun v28 h => ?_
    refine ww_if_eq (pc := 29) (tgt := 73) g.1 d_Mo_sweep_29 (by decide) h (fun c h => ?_) (fun c h => ?_)
    · exact j_Mo_sweep_j73 g hR x.1 x.2.1 x.2.2 s ls (lv_sub hl [0, 1, 2, 3] rfl) h
    · refine ww_aload_n (pc := 32) g.1 d_Mo_sweep_32 rfl (lv_at hl 0 rfl) ?_
      refine ww_gR (pc := 33) g (k := 46) cl_Mo (pz rfl (by decide)) (by decide) (Or.inl kw_79) (f := 46) (t := 59) rfl rfl rfl d_Mo_sweep_33 ?_
      refine ww_iload (pc := 36) g.1 d_Mo_sweep_36 (lv_at hl 3 rfl) ?_
      refine ww_az (pc := 38) g (pz rfl (by decide)) rfl rfl d_Mo_sweep_38 h fun v38 h => ?_
      refine ww_if_eq (pc := 39) (tgt := 45) g.1 d_Mo_sweep_39 (by decide) h (fun c h => ?_) (fun c h => ?_)
      · refine ww_aload_n (pc := 45) g.1 d_Mo_sweep_45 rfl (lv_at hl 0 rfl) ?_
        refine ww_gR (pc := 46) g (k := 45) cl_Mo (pz rfl (by decide)) (by decide) (Or.inl kw_110) (f := 45) (t := 58) rfl rfl rfl d_Mo_sweep_46 ?_
        refine ww_iload (pc := 49) g.1 d_Mo_sweep_49 (lv_at hl 3 rfl) ?_
        refine ww_ab (pc := 51) g (pz rfl (by decide)) rfl rfl d_Mo_sweep_51 h fun v51 h => ?_
        refine ww_bipush (pc := 52) g.1 (v := 7) d_Mo_sweep_52 (by decide) ?_
        refine ww_icmp_ne (pc := 54) (tgt := 73) g.1 d_Mo_sweep_54 (by decide) h (fun c h => ?_) (fun c h => ?_)
        · exact j_Mo_sweep_j73 g hR x.1 x.2.1 x.2.2 s ls (lv_sub hl [0, 1, 2, 3] rfl) h
        · refine ww_aload_n (pc := 57) g.1 d_Mo_sweep_57 rfl (lv_at hl 0 rfl) ?_
          refine ww_aload_n (pc := 58) g.1 d_Mo_sweep_58 rfl (lv_at hl 0 rfl) ?_
          refine ww_gR (pc := 59) g (k := 71) cl_Mo (pz rfl (by decide)) (by decide) (Or.inl kw_88) (f := 71) (t := 76) rfl rfl rfl d_Mo_sweep_59 ?_
          refine ww_aload_n (pc := 62) g.1 d_Mo_sweep_62 rfl (lv_at hl 0 rfl) ?_
          refine ww_gR (pc := 63) g (k := 49) cl_Mo (pz rfl (by decide)) (by decide) (Or.inl kw_87) (f := 49) (t := 62) rfl rfl rfl d_Mo_sweep_63 ?_
          refine ww_iload (pc := 66) g.1 d_Mo_sweep_66 (lv_at hl 3 rfl) ?_
          refine ww_ai (pc := 68) g (pz rfl (by decide)) rfl rfl d_Mo_sweep_68 h fun v68 h => ?_
          refine ww_at (pc := 69) g (t := 28) (pz rfl (by decide)) rfl rfl rfl d_Mo_sweep_69 h fun ca69 h => ?_
          obtain ⟨v70, s, hc70, h⟩ := oB_of h
          refine ww_callV (pc := 70) (rest := []) g cv_Mo_threadGoes (Or.inl kw_396) cl_Mo (pz rfl (by decide)) (ct_Mo_threadGoes ca69 hc70) ⟨by decide, by decide⟩ rfl hl.1 (Nat.le_of_ble_eq_true rfl) d_Mo_sweep_70 rfl ?_
          refine ww_st (st' := []) rfl ?_
          exact j_Mo_sweep_j73 g hR x.1 x.2.1 x.2.2 s ls (lv_sub hl [0, 1, 2, 3] rfl) h
      · refine ww_goto (pc := 42) (tgt := 73) g.1 d_Mo_sweep_42 (by decide) ?_
        exact j_Mo_sweep_j73 g hR x.1 x.2.1 x.2.2 s ls (lv_sub hl [0, 1, 2, 3] rfl) h

theorem j_Mo_sweep_j240 {X : Cx} {q : PL} (g : Gd X y_Mo_sweep b_Mo_sweep 5 none 3 67 R_Mo) {o : ((Int32 × Int64 × Int32) ⊕ ((Int32 × Int64))) × S1} (hR : (Sum.elim (fun y : Int32 × Int64 × Int32 => ∀ ls : Array Slot, lv_has ls 5 [(0, .ref (q.1 0 0)), (1, .int y.1), (2, .long y.2.1), (4, .int y.2.2)] → WW X q o.2 82 ls []) (fun y : Int32 × Int64 => ∀ ls : Array Slot, lv_has ls 5 [(0, .ref (q.1 0 0)), (1, .int y.1), (2, .long y.2)] → WW X q o.2 246 ls []) o.1)) (l1 : Int32) (l2 : Int64) (l4 : Int32) (s : S1) (ls : Array Slot) (hl : lv_has ls 5 [(0, .ref (q.1 0 0)), (1, .int l1), (2, .long l2), (4, .int l4)]) (h : M_Mo_sweep_j240 l1 l2 l4 s = some o) : WW X q s 240 ls [] := by
  unfold M_Mo_sweep_j240 at h
  refine ww_iinc (pc := 240) g.1 (v := l4 + 1) (lv' := [(4, .int (l4 + 1)), (0, .ref (q.1 0 0)), (1, .int l1), (2, .long l2)]) d_Mo_sweep_240 hl (k := 3) rfl (by rfl) (by decide) rfl fun ls hl => ?_
  refine ww_goto (pc := 243) (tgt := 82) g.1 d_Mo_sweep_243 (by decide) ?_
  rw [oR_eq h] at hR
  exact hR ls (lv_sub hl [1, 2, 3, 0] rfl)

theorem j_Mo_sweep_j204 {X : Cx} {q : PL} (g : Gd X y_Mo_sweep b_Mo_sweep 5 none 3 67 R_Mo) {o : ((Int32 × Int64 × Int32) ⊕ ((Int32 × Int64))) × S1} (hR : (Sum.elim (fun y : Int32 × Int64 × Int32 => ∀ ls : Array Slot, lv_has ls 5 [(0, .ref (q.1 0 0)), (1, .int y.1), (2, .long y.2.1), (4, .int y.2.2)] → WW X q o.2 82 ls []) (fun y : Int32 × Int64 => ∀ ls : Array Slot, lv_has ls 5 [(0, .ref (q.1 0 0)), (1, .int y.1), (2, .long y.2)] → WW X q o.2 246 ls []) o.1)) (l1 : Int32) (l2 : Int64) (l4 : Int32) (s : S1) (ls : Array Slot) (hl : lv_has ls 5 [(0, .ref (q.1 0 0)), (1, .int l1), (2, .long l2), (4, .int l4)]) (h : M_Mo_sweep_j204 l1 l2 l4 s = some o) : WW X q s 204 ls [] := by
  unfold M_Mo_sweep_j204 at h
  refine ww_aload_n (pc := 204) g.1 d_Mo_sweep_204 rfl (lv_at hl 0 rfl) ?_
  refine ww_gR (pc := 205) g (k := 45) cl_Mo (pz rfl (by decide)) (by decide) (Or.inl kw_110) (f := 45) (t := 58) rfl rfl rfl d_Mo_sweep_205 ?_
  refine ww_iload (pc := 208) g.1 d_Mo_sweep_208 (lv_at hl 3 rfl) ?_
  refine ww_iconst (pc := 210) g.1 (v := 0) d_Mo_sweep_210 (by decide) ?_
  refine ww_sb (pc := 211) g (pz rfl (by decide)) rfl rfl d_Mo_sweep_211 h fun s hs h => ?_
  refine ww_aload_n (pc := 212) g.1 d_Mo_sweep_212 rfl (lv_at hl 0 rfl) ?_
  refine ww_dup (pc := 213) g.1 d_Mo_sweep_213 rfl ?_
  refine ww_gI (pc := 214) g (k := 34) cl_Mo (pz rfl (by decide)) (by decide) (Or.inl kw_115) (f := 34) rfl rfl d_Mo_sweep_214 h fun v214 h => ?_
  refine ww_iconst (pc := 217) g.1 (v := 1) d_Mo_sweep_217 (by decide) ?_
  refine ww_isub (pc := 218) g.1 d_Mo_sweep_218 ?_
  refine ww_pI (pc := 219) g (k := 34) cl_Mo (pz rfl (by decide)) (by decide) (Or.inl kw_115) rfl (f := 34) rfl rfl rfl rfl d_Mo_sweep_219 h fun s hs h => ?_
  refine ww_aload_n (pc := 222) g.1 d_Mo_sweep_222 rfl (lv_at hl 0 rfl) ?_
  refine ww_gR (pc := 223) g (k := 53) cl_Mo (pz rfl (by decide)) (by decide) (Or.inl kw_116) (f := 53) (t := 66) rfl rfl rfl d_Mo_sweep_223 ?_
  refine ww_aload_n (pc := 226) g.1 d_Mo_sweep_226 rfl (lv_at hl 0 rfl) ?_
  refine ww_dup (pc := 227) g.1 d_Mo_sweep_227 rfl ?_
  refine ww_gI (pc := 228) g (k := 54) cl_Mo (pz rfl (by decide)) (by decide) (Or.inl kw_108) (f := 54) rfl rfl d_Mo_sweep_228 h fun v228 h => ?_
  refine ww_dup_x1 (pc := 231) g.1 d_Mo_sweep_231 rfl rfl ?_
  refine ww_iconst (pc := 232) g.1 (v := 1) d_Mo_sweep_232 (by decide) ?_
  refine ww_iadd (pc := 233) g.1 d_Mo_sweep_233 ?_
  refine ww_pI (pc := 234) g (k := 54) cl_Mo (pz rfl (by decide)) (by decide) (Or.inl kw_108) rfl (f := 54) rfl rfl rfl rfl d_Mo_sweep_234 h fun s hs h => ?_
  refine ww_iload (pc := 237) g.1 d_Mo_sweep_237 (lv_at hl 3 rfl) ?_
  refine ww_si (pc := 239) g (pz rfl (by decide)) rfl rfl d_Mo_sweep_239 h fun s hs h => ?_
  exact j_Mo_sweep_j240 g hR l1 l2 l4 s ls (lv_sub hl [0, 1, 2, 3] rfl) h

theorem lp_Mo_sweep_L82 {X : Cx} {q : PL} (g : Gd X y_Mo_sweep b_Mo_sweep 5 none 3 67 R_Mo) (x : Int32 × Int64 × Int32) (s : S1) (o : ((Int32 × Int64 × Int32) ⊕ ((Int32 × Int64))) × S1) (h : M_Mo_sweep_L82 x s = some o) (hR : (Sum.elim (fun y : Int32 × Int64 × Int32 => ∀ ls : Array Slot, lv_has ls 5 [(0, .ref (q.1 0 0)), (1, .int y.1), (2, .long y.2.1), (4, .int y.2.2)] → WW X q o.2 82 ls []) (fun y : Int32 × Int64 => ∀ ls : Array Slot, lv_has ls 5 [(0, .ref (q.1 0 0)), (1, .int y.1), (2, .long y.2)] → WW X q o.2 246 ls []) o.1)) : ∀ ls : Array Slot, lv_has ls 5 [(0, .ref (q.1 0 0)), (1, .int x.1), (2, .long x.2.1), (4, .int x.2.2)] → WW X q s 82 ls [] := by
  intro ls hl
  unfold M_Mo_sweep_L82 at h
  refine ww_iload (pc := 82) g.1 d_Mo_sweep_82 (lv_at hl 3 rfl) ?_
  refine ww_aload_n (pc := 84) g.1 d_Mo_sweep_84 rfl (lv_at hl 0 rfl) ?_
  refine ww_gI (pc := 85) g (k := 40) cl_Mo (pz rfl (by decide)) (by decide) (Or.inl kw_109) (f := 40) rfl rfl d_Mo_sweep_85 h fun v85 h => ?_
  refine ww_icmp_ge (pc := 88) (tgt := 246) g.1 d_Mo_sweep_88 (by decide) h (fun c h => ?_) (fun c h => ?_)
  · rw [oR_eq h] at hR
    exact hR ls (lv_sub hl [0, 1, 2] rfl)
  · refine ww_aload_n (pc := 91) g.1 d_Mo_sweep_91 rfl (lv_at hl 0 rfl) ?_
    refine ww_gR (pc := 92) g (k := 45) cl_Mo (pz rfl (by decide)) (by decide) (Or.inl kw_110) (f := 45) (t := 58) rfl rfl rfl d_Mo_sweep_92 ?_
    refine ww_iload (pc := 95) g.1 d_Mo_sweep_95 (lv_at hl 3 rfl) ?_
    refine ww_ab (pc := 97) g (pz rfl (by decide)) rfl rfl d_Mo_sweep_97 h fun v97 h => ?_
    refine ww_if_eq (pc := 98) (tgt := 240) g.1 d_Mo_sweep_98 (by decide) h (fun c h => ?_) (fun c h => ?_)
    · exact j_Mo_sweep_j240 g hR x.1 x.2.1 x.2.2 s ls (lv_sub hl [0, 1, 2, 3] rfl) h
    · refine ww_aload_n (pc := 101) g.1 d_Mo_sweep_101 rfl (lv_at hl 0 rfl) ?_
      refine ww_gR (pc := 102) g (k := 46) cl_Mo (pz rfl (by decide)) (by decide) (Or.inl kw_79) (f := 46) (t := 59) rfl rfl rfl d_Mo_sweep_102 ?_
      refine ww_iload (pc := 105) g.1 d_Mo_sweep_105 (lv_at hl 3 rfl) ?_
      refine ww_az (pc := 107) g (pz rfl (by decide)) rfl rfl d_Mo_sweep_107 h fun v107 h => ?_
      refine ww_if_eq (pc := 108) (tgt := 114) g.1 d_Mo_sweep_108 (by decide) h (fun c h => ?_) (fun c h => ?_)
      · refine ww_aload_n (pc := 114) g.1 d_Mo_sweep_114 rfl (lv_at hl 0 rfl) ?_
        refine ww_gR (pc := 115) g (k := 45) cl_Mo (pz rfl (by decide)) (by decide) (Or.inl kw_110) (f := 45) (t := 58) rfl rfl rfl d_Mo_sweep_115 ?_
        refine ww_iload (pc := 118) g.1 d_Mo_sweep_118 (lv_at hl 3 rfl) ?_
        refine ww_ab (pc := 120) g (pz rfl (by decide)) rfl rfl d_Mo_sweep_120 h fun v120 h => ?_
        refine ww_iconst (pc := 121) g.1 (v := 4) d_Mo_sweep_121 (by decide) ?_
        refine ww_icmp_ne (pc := 122) (tgt := 134) g.1 d_Mo_sweep_122 (by decide) h (fun c h => ?_) (fun c h => ?_)
        · refine ww_aload_n (pc := 134) g.1 d_Mo_sweep_134 rfl (lv_at hl 0 rfl) ?_
          refine ww_gR (pc := 135) g (k := 45) cl_Mo (pz rfl (by decide)) (by decide) (Or.inl kw_110) (f := 45) (t := 58) rfl rfl rfl d_Mo_sweep_135 ?_
          refine ww_iload (pc := 138) g.1 d_Mo_sweep_138 (lv_at hl 3 rfl) ?_
          refine ww_ab (pc := 140) g (pz rfl (by decide)) rfl rfl d_Mo_sweep_140 h fun v140 h => ?_
          refine ww_iconst (pc := 141) g.1 (v := 5) d_Mo_sweep_141 (by decide) ?_
          refine ww_icmp_ne (pc := 142) (tgt := 164) g.1 d_Mo_sweep_142 (by decide) h (fun c h => ?_) (fun c h => ?_)
          · refine ww_aload_n (pc := 164) g.1 d_Mo_sweep_164 rfl (lv_at hl 0 rfl) ?_
            refine ww_gR (pc := 165) g (k := 45) cl_Mo (pz rfl (by decide)) (by decide) (Or.inl kw_110) (f := 45) (t := 58) rfl rfl rfl d_Mo_sweep_165 ?_
            refine ww_iload (pc := 168) g.1 d_Mo_sweep_168 (lv_at hl 3 rfl) ?_
            refine ww_ab (pc := 170) g (pz rfl (by decide)) rfl rfl d_Mo_sweep_170 h fun v170 h => ?_
            refine ww_bipush (pc := 171) g.1 (v := 8) d_Mo_sweep_171 (by decide) ?_
            refine ww_icmp_ne (pc := 173) (tgt := 204) g.1 d_Mo_sweep_173 (by decide) h (fun c h => ?_) (fun c h => ?_)
            · exact j_Mo_sweep_j204 g hR x.1 x.2.1 x.2.2 s ls (lv_sub hl [0, 1, 2, 3] rfl) h
            · refine ww_aload_n (pc := 176) g.1 d_Mo_sweep_176 rfl (lv_at hl 0 rfl) ?_
              refine ww_gR (pc := 177) g (k := 49) cl_Mo (pz rfl (by decide)) (by decide) (Or.inl kw_87) (f := 49) (t := 62) rfl rfl rfl d_Mo_sweep_177 ?_
              refine ww_iload (pc := 180) g.1 d_Mo_sweep_180 (lv_at hl 3 rfl) ?_
              refine ww_ai (pc := 182) g (pz rfl (by decide)) rfl rfl d_Mo_sweep_182 h fun v182 h => ?_
              refine ww_if_lt (pc := 183) (tgt := 204) g.1 d_Mo_sweep_183 (by decide) h (fun c h => ?_) (fun c h => ?_)
              · exact j_Mo_sweep_j204 g hR x.1 x.2.1 x.2.2 s ls (lv_sub hl [0, 1, 2, 3] rfl) h
              · refine ww_aload_n (pc := 186) g.1 d_Mo_sweep_186 rfl (lv_at hl 0 rfl) ?_
                refine ww_aload_n (pc := 187) g.1 d_Mo_sweep_187 rfl (lv_at hl 0 rfl) ?_
                refine ww_gR (pc := 188) g (k := 71) cl_Mo (pz rfl (by decide)) (by decide) (Or.inl kw_88) (f := 71) (t := 76) rfl rfl rfl d_Mo_sweep_188 ?_
                refine ww_aload_n (pc := 191) g.1 d_Mo_sweep_191 rfl (lv_at hl 0 rfl) ?_
                refine ww_gR (pc := 192) g (k := 49) cl_Mo (pz rfl (by decide)) (by decide) (Or.inl kw_87) (f := 49) (t := 62) rfl rfl rfl d_Mo_sweep_192 ?_
                refine ww_iload (pc := 195) g.1 d_Mo_sweep_195 (lv_at hl 3 rfl) ?_
                refine ww_ai (pc := 197) g (pz rfl (by decide)) rfl rfl d_Mo_sweep_197 h fun v197 h => ?_
                refine ww_at (pc := 198) g (t := 28) (pz rfl (by decide)) rfl rfl rfl d_Mo_sweep_198 h fun ca198 h => ?_
                refine ww_iload (pc := 199) g.1 d_Mo_sweep_199 (lv_at hl 3 rfl) ?_
                obtain ⟨v201, s, hc201, h⟩ := oB_of h
                refine ww_callV (pc := 201) (rest := []) g cv_Mo_forget (Or.inl kw_397) cl_Mo (pz rfl (by decide)) (ct_Mo_forget ca198 hc201) ⟨by decide, by decide⟩ rfl hl.1 (Nat.le_of_ble_eq_true rfl) d_Mo_sweep_201 rfl ?_
                refine ww_st (st' := []) rfl ?_
                exact j_Mo_sweep_j204 g hR x.1 x.2.1 x.2.2 s ls (lv_sub hl [0, 1, 2, 3] rfl) h
          · refine ww_aload_n (pc := 145) g.1 d_Mo_sweep_145 rfl (lv_at hl 0 rfl) ?_
            refine ww_dup (pc := 146) g.1 d_Mo_sweep_146 rfl ?_
            refine ww_gI (pc := 147) g (k := 36) cl_Mo (pz rfl (by decide)) (by decide) (Or.inl kw_299) (f := 36) rfl rfl d_Mo_sweep_147 h fun v147 h => ?_
            refine ww_aload_n (pc := 150) g.1 d_Mo_sweep_150 rfl (lv_at hl 0 rfl) ?_
            refine ww_gR (pc := 151) g (k := 50) cl_Mo (pz rfl (by decide)) (by decide) (Or.inl kw_91) (f := 50) (t := 63) rfl rfl rfl d_Mo_sweep_151 ?_
            refine ww_iload (pc := 154) g.1 d_Mo_sweep_154 (lv_at hl 3 rfl) ?_
            refine ww_ai (pc := 156) g (pz rfl (by decide)) rfl rfl d_Mo_sweep_156 h fun v156 h => ?_
            refine ww_isub (pc := 157) g.1 d_Mo_sweep_157 ?_
            refine ww_pI (pc := 158) g (k := 36) cl_Mo (pz rfl (by decide)) (by decide) (Or.inl kw_299) rfl (f := 36) rfl rfl rfl rfl d_Mo_sweep_158 h fun s hs h => ?_
            refine ww_goto (pc := 161) (tgt := 204) g.1 d_Mo_sweep_161 (by decide) ?_
            exact j_Mo_sweep_j204 g hR x.1 x.2.1 x.2.2 s ls (lv_sub hl [0, 1, 2, 3] rfl) h
        · refine ww_aload_n (pc := 125) g.1 d_Mo_sweep_125 rfl (lv_at hl 0 rfl) ?_
          refine ww_iload (pc := 126) g.1 d_Mo_sweep_126 (lv_at hl 3 rfl) ?_
          obtain ⟨v128, s, hc128, h⟩ := oB_of h
          refine ww_callV (pc := 128) (rest := []) g cv_Mo_unchain (Or.inl kw_398) cl_Mo (pz rfl (by decide)) (ct_Mo_unchain hc128) ⟨by decide, by decide⟩ rfl hl.1 (Nat.le_of_ble_eq_true rfl) d_Mo_sweep_128 rfl ?_
          refine ww_st (st' := []) rfl ?_
          refine ww_goto (pc := 131) (tgt := 204) g.1 d_Mo_sweep_131 (by decide) ?_
          exact j_Mo_sweep_j204 g hR x.1 x.2.1 x.2.2 s ls (lv_sub hl [0, 1, 2, 3] rfl) h
      · refine ww_goto (pc := 111) (tgt := 240) g.1 d_Mo_sweep_111 (by decide) ?_
        exact j_Mo_sweep_j240 g hR x.1 x.2.1 x.2.2 s ls (lv_sub hl [0, 1, 2, 3] rfl) h

theorem ct_Mo_sweep {l : Launch} {P : PP} {q : PL} {s s' : S1}  {r : Unit} (h : M_Mo_sweep s = some (r, s')) : Ct l y_Mo_sweep b_Mo_sweep 5 none 3 67 P q s [.ref (q.1 0 0)] none q s' := by
  refine ct_of (by decide) (Nat.le_of_ble_eq_true rfl) fun X ls eP el g hR hl => ?_
  subst eP
  have hR : Rt X q ((r, s') : Unit × S1).2 none := hR
  have hl : lv_has ls 5 [(0, .ref (q.1 0 0))] := hl
  generalize (r, s') = o at h hR
  unfold M_Mo_sweep at h
  refine ww_aload_n (pc := 0) g.1 d_Mo_sweep_0 rfl (lv_at hl 0 rfl) ?_
  refine ww_gI (pc := 1) g (k := 66) cl_Mo (pz rfl (by decide)) (by decide) (Or.inl kw_92) (f := 66) rfl rfl d_Mo_sweep_1 h fun v1 h => ?_
  refine ww_istore_n (pc := 4) (i := 1) g.1 (lv' := [(1, .int v1), (0, .ref (q.1 0 0))]) d_Mo_sweep_4 rfl hl (by decide) rfl fun ls hl => ?_
  refine ww_aload_n (pc := 5) g.1 d_Mo_sweep_5 rfl (lv_at hl 1 rfl) ?_
  refine ww_gL (pc := 6) g (k := 67) cl_Mo (pz rfl (by decide)) (by decide) (Or.inl kw_94) (f := 67) rfl rfl d_Mo_sweep_6 h fun v6 h => ?_
  refine ww_lstore_n (pc := 9) (i := 2) g.1 (lv' := [(2, .long v6), (1, .int v1), (0, .ref (q.1 0 0))]) d_Mo_sweep_9 rfl hl (by decide) rfl fun ls hl => ?_
  refine ww_iconst (pc := 10) g.1 (v := 0) d_Mo_sweep_10 (by decide) ?_
  refine ww_istore (pc := 11) (i := 4) g.1 (lv' := [(4, .int 0), (2, .long v6), (1, .int v1), (0, .ref (q.1 0 0))]) d_Mo_sweep_11 hl (by decide) rfl fun ls hl => ?_
  obtain ⟨e13, s1, hw, h⟩ := oB_of h
  refine oW_rule (Wh := fun (x : Int32 × Int64 × Int32) (s : S1) => ∀ ls : Array Slot, lv_has ls 5 [(0, .ref (q.1 0 0)), (1, .int x.1), (2, .long x.2.1), (4, .int x.2.2)] → WW X q s 13 ls []) (We := fun (e : (Int32 × Int64)) (s : S1) => ∀ ls : Array Slot, lv_has ls 5 [(0, .ref (q.1 0 0)), (1, .int e.1), (2, .long e.2)] → WW X q s 79 ls []) (fun x s o hb hc => lp_Mo_sweep_L13 (q := q) g x s o hb hc) hw ?_ ls (lv_sub hl [3, 2, 1, 0] rfl)
  clear hw hl
  clear ls
  intro ls hl
  generalize s1 = s at h ⊢
  refine ww_iconst (pc := 79) g.1 (v := 0) d_Mo_sweep_79 (by decide) ?_
  refine ww_istore (pc := 80) (i := 4) g.1 (lv' := [(4, .int 0), (0, .ref (q.1 0 0)), (1, .int e13.1), (2, .long e13.2)]) d_Mo_sweep_80 hl (by decide) rfl fun ls hl => ?_
  obtain ⟨e82, s1, hw, h⟩ := oB_of h
  refine oW_rule (Wh := fun (x : Int32 × Int64 × Int32) (s : S1) => ∀ ls : Array Slot, lv_has ls 5 [(0, .ref (q.1 0 0)), (1, .int x.1), (2, .long x.2.1), (4, .int x.2.2)] → WW X q s 82 ls []) (We := fun (e : (Int32 × Int64)) (s : S1) => ∀ ls : Array Slot, lv_has ls 5 [(0, .ref (q.1 0 0)), (1, .int e.1), (2, .long e.2)] → WW X q s 246 ls []) (fun x s o hb hc => lp_Mo_sweep_L82 (q := q) g x s o hb hc) hw ?_ ls (lv_sub hl [1, 2, 3, 0] rfl)
  clear hw hl
  clear ls
  intro ls hl
  generalize s1 = s at h ⊢
  refine ww_aload_n (pc := 246) g.1 d_Mo_sweep_246 rfl (lv_at hl 0 rfl) ?_
  refine ww_iload_n (pc := 247) g.1 d_Mo_sweep_247 rfl (lv_at hl 1 rfl) ?_
  refine ww_pI (pc := 248) g (k := 66) cl_Mo (pz rfl (by decide)) (by decide) (Or.inl kw_92) rfl (f := 66) rfl rfl rfl rfl d_Mo_sweep_248 h fun s hs h => ?_
  refine ww_aload_n (pc := 251) g.1 d_Mo_sweep_251 rfl (lv_at hl 0 rfl) ?_
  refine ww_lload_n (pc := 252) g.1 d_Mo_sweep_252 rfl (lv_at hl 2 rfl) ?_
  refine ww_pL (pc := 253) g (k := 67) cl_Mo (pz rfl (by decide)) (by decide) (Or.inl kw_94) rfl (f := 67) rfl rfl rfl rfl d_Mo_sweep_253 h fun s hs h => ?_
  exact ww_vretH (pc := 256) g h hR d_Mo_sweep_256

abbrev b_Mo_enter : ByteArray := prog_14_method_70_code
def y_Mo_enter : MethodName := ⟨R_Mo, "enter", "(I)V"⟩
abbrev w_Mo_enter : List Cond := .code y_Mo_enter b_Mo_enter 8 none :: wA
set_option maxRecDepth 20000 in
theorem k_Mo_enter : Cond.code y_Mo_enter b_Mo_enter 8 none ∈ wA := kinm (show _ ∈ tables_1 from (List.mem_append_right _ (List.mem_append_right _ (List.mem_append_right _ (List.mem_append_right _ (List.mem_append_right _ (List.mem_append_right _ (List.mem_append_right _ (List.mem_append_right _ (List.mem_append_right _ (List.mem_append_right _ (List.mem_append_right _ (List.mem_append_left _ (List.mem_of_getElem? (l := tables_1_12) (i := 128) rfl)))))))))))))) rfl
theorem d_Mo_enter_0 : decode b_Mo_enter 0 = .ok (.aload_n 0, 1) := by decide +kernel
theorem d_Mo_enter_1 : decode b_Mo_enter 1 = .ok (.getfield 243, 3) := by decide +kernel
theorem d_Mo_enter_4 : decode b_Mo_enter 4 = .ok (.astore_n 2, 1) := by decide +kernel
theorem d_Mo_enter_5 : decode b_Mo_enter 5 = .ok (.aload_n 0, 1) := by decide +kernel
theorem d_Mo_enter_6 : decode b_Mo_enter 6 = .ok (.getfield 168, 3) := by decide +kernel
theorem d_Mo_enter_9 : decode b_Mo_enter 9 = .ok (.iload_n 1, 1) := by decide +kernel
theorem d_Mo_enter_10 : decode b_Mo_enter 10 = .ok (.iaload, 1) := by decide +kernel
theorem d_Mo_enter_11 : decode b_Mo_enter 11 = .ok (.istore_n 3, 1) := by decide +kernel
theorem d_Mo_enter_12 : decode b_Mo_enter 12 = .ok (.iconst 0, 1) := by decide +kernel
theorem d_Mo_enter_13 : decode b_Mo_enter 13 = .ok (.aload_n 0, 1) := by decide +kernel
theorem d_Mo_enter_14 : decode b_Mo_enter 14 = .ok (.getfield 259, 3) := by decide +kernel
theorem d_Mo_enter_17 : decode b_Mo_enter 17 = .ok (.getfield 569, 3) := by decide +kernel
theorem d_Mo_enter_20 : decode b_Mo_enter 20 = .ok (.aload_n 0, 1) := by decide +kernel
theorem d_Mo_enter_21 : decode b_Mo_enter 21 = .ok (.getfield 31, 3) := by decide +kernel
theorem d_Mo_enter_24 : decode b_Mo_enter 24 = .ok (.iload_n 3, 1) := by decide +kernel
theorem d_Mo_enter_25 : decode b_Mo_enter 25 = .ok (.iaload, 1) := by decide +kernel
theorem d_Mo_enter_26 : decode b_Mo_enter 26 = .ok (.isub, 1) := by decide +kernel
theorem d_Mo_enter_27 : decode b_Mo_enter 27 = .ok (.invokestatic 747, 3) := by decide +kernel
theorem d_Mo_enter_30 : decode b_Mo_enter 30 = .ok (.istore 4, 2) := by decide +kernel
theorem d_Mo_enter_32 : decode b_Mo_enter 32 = .ok (.aload_n 0, 1) := by decide +kernel
theorem d_Mo_enter_33 : decode b_Mo_enter 33 = .ok (.getfield 35, 3) := by decide +kernel
theorem d_Mo_enter_36 : decode b_Mo_enter 36 = .ok (.iload_n 3, 1) := by decide +kernel
theorem d_Mo_enter_37 : decode b_Mo_enter 37 = .ok (.iaload, 1) := by decide +kernel
theorem d_Mo_enter_38 : decode b_Mo_enter 38 = .ok (.ifCond .ne 6, 3) := by decide +kernel
theorem d_Mo_enter_41 : decode b_Mo_enter 41 = .ok (.iconst 0, 1) := by decide +kernel
theorem d_Mo_enter_42 : decode b_Mo_enter 42 = .ok (.istore 4, 2) := by decide +kernel
theorem d_Mo_enter_44 : decode b_Mo_enter 44 = .ok (.aload_n 0, 1) := by decide +kernel
theorem d_Mo_enter_45 : decode b_Mo_enter 45 = .ok (.aload_n 2, 1) := by decide +kernel
theorem d_Mo_enter_46 : decode b_Mo_enter 46 = .ok (.invokevirtual 751, 3) := by decide +kernel
theorem d_Mo_enter_49 : decode b_Mo_enter 49 = .ok (.istore 5, 2) := by decide +kernel
theorem d_Mo_enter_51 : decode b_Mo_enter 51 = .ok (.aload_n 2, 1) := by decide +kernel
theorem d_Mo_enter_52 : decode b_Mo_enter 52 = .ok (.getfield 730, 3) := by decide +kernel
theorem d_Mo_enter_55 : decode b_Mo_enter 55 = .ok (.sipush 200, 3) := by decide +kernel
theorem d_Mo_enter_58 : decode b_Mo_enter 58 = .ok (.if_icmp .eq 21, 3) := by decide +kernel
theorem d_Mo_enter_61 : decode b_Mo_enter 61 = .ok (.iload 5, 2) := by decide +kernel
theorem d_Mo_enter_63 : decode b_Mo_enter 63 = .ok (.iload 4, 2) := by decide +kernel
theorem d_Mo_enter_65 : decode b_Mo_enter 65 = .ok (.iadd, 1) := by decide +kernel
theorem d_Mo_enter_66 : decode b_Mo_enter 66 = .ok (.aload_n 0, 1) := by decide +kernel
theorem d_Mo_enter_67 : decode b_Mo_enter 67 = .ok (.getfield 38, 3) := by decide +kernel
theorem d_Mo_enter_70 : decode b_Mo_enter 70 = .ok (.iload_n 3, 1) := by decide +kernel
theorem d_Mo_enter_71 : decode b_Mo_enter 71 = .ok (.iaload, 1) := by decide +kernel
theorem d_Mo_enter_72 : decode b_Mo_enter 72 = .ok (.iadd, 1) := by decide +kernel
theorem d_Mo_enter_73 : decode b_Mo_enter 73 = .ok (.sipush 4000, 3) := by decide +kernel
theorem d_Mo_enter_76 : decode b_Mo_enter 76 = .ok (.if_icmp .le 18, 3) := by decide +kernel
theorem d_Mo_enter_79 : decode b_Mo_enter 79 = .ok (.aload_n 0, 1) := by decide +kernel
theorem d_Mo_enter_80 : decode b_Mo_enter 80 = .ok (.getfield 259, 3) := by decide +kernel
theorem d_Mo_enter_83 : decode b_Mo_enter 83 = .ok (.iconst 0, 1) := by decide +kernel
theorem d_Mo_enter_84 : decode b_Mo_enter 84 = .ok (.putfield 569, 3) := by decide +kernel
theorem d_Mo_enter_87 : decode b_Mo_enter 87 = .ok (.aload_n 0, 1) := by decide +kernel
theorem d_Mo_enter_88 : decode b_Mo_enter 88 = .ok (.iconst 4, 1) := by decide +kernel
theorem d_Mo_enter_89 : decode b_Mo_enter 89 = .ok (.invokevirtual 517, 3) := by decide +kernel
theorem d_Mo_enter_92 : decode b_Mo_enter 92 = .ok (.pop, 1) := by decide +kernel
theorem d_Mo_enter_93 : decode b_Mo_enter 93 = .ok (.return_, 1) := by decide +kernel
theorem d_Mo_enter_94 : decode b_Mo_enter 94 = .ok (.aload_n 0, 1) := by decide +kernel
theorem d_Mo_enter_95 : decode b_Mo_enter 95 = .ok (.iconst 0, 1) := by decide +kernel
theorem d_Mo_enter_96 : decode b_Mo_enter 96 = .ok (.iload_n 1, 1) := by decide +kernel
theorem d_Mo_enter_97 : decode b_Mo_enter 97 = .ok (.invokevirtual 755, 3) := by decide +kernel
theorem d_Mo_enter_100 : decode b_Mo_enter 100 = .ok (.pop, 1) := by decide +kernel
theorem d_Mo_enter_101 : decode b_Mo_enter 101 = .ok (.aload_n 2, 1) := by decide +kernel
theorem d_Mo_enter_102 : decode b_Mo_enter 102 = .ok (.invokevirtual 703, 3) := by decide +kernel
theorem d_Mo_enter_105 : decode b_Mo_enter 105 = .ok (.istore 6, 2) := by decide +kernel
theorem d_Mo_enter_107 : decode b_Mo_enter 107 = .ok (.aload_n 2, 1) := by decide +kernel
theorem d_Mo_enter_108 : decode b_Mo_enter 108 = .ok (.getfield 758, 3) := by decide +kernel
theorem d_Mo_enter_111 : decode b_Mo_enter 111 = .ok (.iload 6, 2) := by decide +kernel
theorem d_Mo_enter_113 : decode b_Mo_enter 113 = .ok (.iconst 0, 1) := by decide +kernel
theorem d_Mo_enter_114 : decode b_Mo_enter 114 = .ok (.iastore, 1) := by decide +kernel
theorem d_Mo_enter_115 : decode b_Mo_enter 115 = .ok (.aload_n 2, 1) := by decide +kernel
theorem d_Mo_enter_116 : decode b_Mo_enter 116 = .ok (.getfield 741, 3) := by decide +kernel
theorem d_Mo_enter_119 : decode b_Mo_enter 119 = .ok (.iload 6, 2) := by decide +kernel
theorem d_Mo_enter_121 : decode b_Mo_enter 121 = .ok (.iload 4, 2) := by decide +kernel
theorem d_Mo_enter_123 : decode b_Mo_enter 123 = .ok (.iastore, 1) := by decide +kernel
theorem d_Mo_enter_124 : decode b_Mo_enter 124 = .ok (.aload_n 2, 1) := by decide +kernel
theorem d_Mo_enter_125 : decode b_Mo_enter 125 = .ok (.getfield 744, 3) := by decide +kernel
theorem d_Mo_enter_128 : decode b_Mo_enter 128 = .ok (.iload 6, 2) := by decide +kernel
theorem d_Mo_enter_130 : decode b_Mo_enter 130 = .ok (.iload 5, 2) := by decide +kernel
theorem d_Mo_enter_132 : decode b_Mo_enter 132 = .ok (.iload 4, 2) := by decide +kernel
theorem d_Mo_enter_134 : decode b_Mo_enter 134 = .ok (.iadd, 1) := by decide +kernel
theorem d_Mo_enter_135 : decode b_Mo_enter 135 = .ok (.iastore, 1) := by decide +kernel
theorem d_Mo_enter_136 : decode b_Mo_enter 136 = .ok (.iconst 0, 1) := by decide +kernel
theorem d_Mo_enter_137 : decode b_Mo_enter 137 = .ok (.istore 7, 2) := by decide +kernel
theorem d_Mo_enter_139 : decode b_Mo_enter 139 = .ok (.iload 7, 2) := by decide +kernel
theorem d_Mo_enter_141 : decode b_Mo_enter 141 = .ok (.iload 4, 2) := by decide +kernel
theorem d_Mo_enter_143 : decode b_Mo_enter 143 = .ok (.if_icmp .ge 34, 3) := by decide +kernel
theorem d_Mo_enter_146 : decode b_Mo_enter 146 = .ok (.aload_n 2, 1) := by decide +kernel
theorem d_Mo_enter_147 : decode b_Mo_enter 147 = .ok (.getfield 591, 3) := by decide +kernel
theorem d_Mo_enter_150 : decode b_Mo_enter 150 = .ok (.iload 5, 2) := by decide +kernel
theorem d_Mo_enter_152 : decode b_Mo_enter 152 = .ok (.iload 7, 2) := by decide +kernel
theorem d_Mo_enter_154 : decode b_Mo_enter 154 = .ok (.iadd, 1) := by decide +kernel
theorem d_Mo_enter_155 : decode b_Mo_enter 155 = .ok (.aload_n 0, 1) := by decide +kernel
theorem d_Mo_enter_156 : decode b_Mo_enter 156 = .ok (.getfield 259, 3) := by decide +kernel
theorem d_Mo_enter_159 : decode b_Mo_enter 159 = .ok (.aload_n 0, 1) := by decide +kernel
theorem d_Mo_enter_160 : decode b_Mo_enter 160 = .ok (.getfield 31, 3) := by decide +kernel
theorem d_Mo_enter_163 : decode b_Mo_enter 163 = .ok (.iload_n 3, 1) := by decide +kernel
theorem d_Mo_enter_164 : decode b_Mo_enter 164 = .ok (.iaload, 1) := by decide +kernel
theorem d_Mo_enter_165 : decode b_Mo_enter 165 = .ok (.iload 7, 2) := by decide +kernel
theorem d_Mo_enter_167 : decode b_Mo_enter 167 = .ok (.iadd, 1) := by decide +kernel
theorem d_Mo_enter_168 : decode b_Mo_enter 168 = .ok (.invokevirtual 719, 3) := by decide +kernel
theorem d_Mo_enter_171 : decode b_Mo_enter 171 = .ok (.iinc 7 1, 3) := by decide +kernel
theorem d_Mo_enter_174 : decode b_Mo_enter 174 = .ok (.goto (-35), 3) := by decide +kernel
theorem d_Mo_enter_177 : decode b_Mo_enter 177 = .ok (.iconst 0, 1) := by decide +kernel
theorem d_Mo_enter_178 : decode b_Mo_enter 178 = .ok (.istore 7, 2) := by decide +kernel
theorem d_Mo_enter_180 : decode b_Mo_enter 180 = .ok (.iload 7, 2) := by decide +kernel
theorem d_Mo_enter_182 : decode b_Mo_enter 182 = .ok (.aload_n 0, 1) := by decide +kernel
theorem d_Mo_enter_183 : decode b_Mo_enter 183 = .ok (.getfield 38, 3) := by decide +kernel
theorem d_Mo_enter_186 : decode b_Mo_enter 186 = .ok (.iload_n 3, 1) := by decide +kernel
theorem d_Mo_enter_187 : decode b_Mo_enter 187 = .ok (.iaload, 1) := by decide +kernel
theorem d_Mo_enter_188 : decode b_Mo_enter 188 = .ok (.if_icmp .ge 73, 3) := by decide +kernel
theorem d_Mo_enter_191 : decode b_Mo_enter 191 = .ok (.iload 7, 2) := by decide +kernel
theorem d_Mo_enter_193 : decode b_Mo_enter 193 = .ok (.aload_n 0, 1) := by decide +kernel
theorem d_Mo_enter_194 : decode b_Mo_enter 194 = .ok (.getfield 31, 3) := by decide +kernel
theorem d_Mo_enter_197 : decode b_Mo_enter 197 = .ok (.iload_n 3, 1) := by decide +kernel
theorem d_Mo_enter_198 : decode b_Mo_enter 198 = .ok (.iaload, 1) := by decide +kernel
theorem d_Mo_enter_199 : decode b_Mo_enter 199 = .ok (.if_icmp .ge 39, 3) := by decide +kernel
theorem d_Mo_enter_202 : decode b_Mo_enter 202 = .ok (.iload 7, 2) := by decide +kernel
theorem d_Mo_enter_204 : decode b_Mo_enter 204 = .ok (.aload_n 0, 1) := by decide +kernel
theorem d_Mo_enter_205 : decode b_Mo_enter 205 = .ok (.getfield 259, 3) := by decide +kernel
theorem d_Mo_enter_208 : decode b_Mo_enter 208 = .ok (.getfield 569, 3) := by decide +kernel
theorem d_Mo_enter_211 : decode b_Mo_enter 211 = .ok (.if_icmp .ge 27, 3) := by decide +kernel
theorem d_Mo_enter_214 : decode b_Mo_enter 214 = .ok (.aload_n 2, 1) := by decide +kernel
theorem d_Mo_enter_215 : decode b_Mo_enter 215 = .ok (.getfield 591, 3) := by decide +kernel
theorem d_Mo_enter_218 : decode b_Mo_enter 218 = .ok (.iload 5, 2) := by decide +kernel
theorem d_Mo_enter_220 : decode b_Mo_enter 220 = .ok (.iload 4, 2) := by decide +kernel
theorem d_Mo_enter_222 : decode b_Mo_enter 222 = .ok (.iadd, 1) := by decide +kernel
theorem d_Mo_enter_223 : decode b_Mo_enter 223 = .ok (.iload 7, 2) := by decide +kernel
theorem d_Mo_enter_225 : decode b_Mo_enter 225 = .ok (.iadd, 1) := by decide +kernel
theorem d_Mo_enter_226 : decode b_Mo_enter 226 = .ok (.aload_n 0, 1) := by decide +kernel
theorem d_Mo_enter_227 : decode b_Mo_enter 227 = .ok (.getfield 259, 3) := by decide +kernel
theorem d_Mo_enter_230 : decode b_Mo_enter 230 = .ok (.iload 7, 2) := by decide +kernel
theorem d_Mo_enter_232 : decode b_Mo_enter 232 = .ok (.invokevirtual 719, 3) := by decide +kernel
theorem d_Mo_enter_235 : decode b_Mo_enter 235 = .ok (.goto 20, 3) := by decide +kernel
theorem d_Mo_enter_238 : decode b_Mo_enter 238 = .ok (.aload_n 2, 1) := by decide +kernel
theorem d_Mo_enter_239 : decode b_Mo_enter 239 = .ok (.getfield 591, 3) := by decide +kernel
theorem d_Mo_enter_242 : decode b_Mo_enter 242 = .ok (.iload 5, 2) := by decide +kernel
theorem d_Mo_enter_244 : decode b_Mo_enter 244 = .ok (.iload 4, 2) := by decide +kernel
theorem d_Mo_enter_246 : decode b_Mo_enter 246 = .ok (.iadd, 1) := by decide +kernel
theorem d_Mo_enter_247 : decode b_Mo_enter 247 = .ok (.iload 7, 2) := by decide +kernel
theorem d_Mo_enter_249 : decode b_Mo_enter 249 = .ok (.iadd, 1) := by decide +kernel
theorem d_Mo_enter_250 : decode b_Mo_enter 250 = .ok (.iconst 0, 1) := by decide +kernel
theorem d_Mo_enter_251 : decode b_Mo_enter 251 = .ok (.lconst 0, 1) := by decide +kernel
theorem d_Mo_enter_252 : decode b_Mo_enter 252 = .ok (.invokevirtual 470, 3) := by decide +kernel
theorem d_Mo_enter_255 : decode b_Mo_enter 255 = .ok (.iinc 7 1, 3) := by decide +kernel
theorem d_Mo_enter_258 : decode b_Mo_enter 258 = .ok (.goto (-78), 3) := by decide +kernel
theorem d_Mo_enter_261 : decode b_Mo_enter 261 = .ok (.aload_n 0, 1) := by decide +kernel
theorem d_Mo_enter_262 : decode b_Mo_enter 262 = .ok (.getfield 259, 3) := by decide +kernel
theorem d_Mo_enter_265 : decode b_Mo_enter 265 = .ok (.iconst 0, 1) := by decide +kernel
theorem d_Mo_enter_266 : decode b_Mo_enter 266 = .ok (.putfield 569, 3) := by decide +kernel
theorem d_Mo_enter_269 : decode b_Mo_enter 269 = .ok (.return_, 1) := by decide +kernel
theorem kw_401 : Cond.fieldLink R_Mo 31 "LuaMachineModel" "params" "[I" ∈ wA := kinm (show _ ∈ tables_1 from (List.mem_append_right _ (List.mem_append_right _ (List.mem_append_right _ (List.mem_append_right _ (List.mem_append_right _ (List.mem_append_right _ (List.mem_append_right _ (List.mem_append_right _ (List.mem_append_right _ (List.mem_append_left _ (List.mem_of_getElem? (l := tables_1_10) (i := 60) (by decide +kernel))))))))))))) (by decide +kernel)
theorem kw_402 : Cond.methodLink R_Mo 747 y_Mth_max ∈ wA := kinm (show _ ∈ tables_1 from (List.mem_append_right _ (List.mem_append_right _ (List.mem_append_right _ (List.mem_append_right _ (List.mem_append_right _ (List.mem_append_right _ (List.mem_append_right _ (List.mem_append_right _ (List.mem_append_right _ (List.mem_append_right _ (List.mem_append_right _ (List.mem_append_left _ (List.mem_of_getElem? (l := tables_1_12) (i := 129) (by decide +kernel))))))))))))))) (by decide +kernel)
theorem kw_403 : Cond.fieldLink R_Mo 35 "LuaMachineModel" "more" "[I" ∈ wA := kinm (show _ ∈ tables_1 from (List.mem_append_right _ (List.mem_append_right _ (List.mem_append_right _ (List.mem_append_right _ (List.mem_append_right _ (List.mem_append_right _ (List.mem_append_right _ (List.mem_append_right _ (List.mem_append_right _ (List.mem_append_left _ (List.mem_of_getElem? (l := tables_1_10) (i := 61) (by decide +kernel))))))))))))) (by decide +kernel)
theorem kw_404 : Cond.methodLink R_Mo 751 y_Mo_topOf ∈ wA := kinm (show _ ∈ tables_1 from (List.mem_append_right _ (List.mem_append_right _ (List.mem_append_right _ (List.mem_append_right _ (List.mem_append_right _ (List.mem_append_right _ (List.mem_append_right _ (List.mem_append_right _ (List.mem_append_right _ (List.mem_append_right _ (List.mem_append_right _ (List.mem_append_left _ (List.mem_of_getElem? (l := tables_1_12) (i := 130) (by decide +kernel))))))))))))))) (by decide +kernel)
theorem kw_405 : Cond.instanceMethod y_Mo_enter ∈ wA := kinm (show _ ∈ tables_1 from (List.mem_append_right _ (List.mem_append_right _ (List.mem_append_right _ (List.mem_append_right _ (List.mem_append_right _ (List.mem_append_right _ (List.mem_append_right _ (List.mem_append_right _ (List.mem_append_right _ (List.mem_append_right _ (List.mem_append_right _ (List.mem_append_left _ (List.mem_of_getElem? (l := tables_1_12) (i := 127) (by decide +kernel))))))))))))))) (by decide +kernel)
theorem kw_406 : Cond.selects R_Mo y_Mo_enter y_Mo_enter ∈ wA := kinp 154 (by decide +kernel) (by decide +kernel)
theorem cv_Mo_enter : CV y_Mo_enter b_Mo_enter 8 none 1 := ⟨kw_405, kw_406, kw_17, k_Mo_enter, by decide +kernel⟩
theorem j_Mo_enter_j79 {X : Cx} {q : PL} (g : Gd X y_Mo_enter b_Mo_enter 8 none 2 45 R_Mo) {o : (Unit) × S1} (hR : Rt X q o.2 none)  (s : S1) (ls : Array Slot) (hl : lv_has ls 8 [(0, .ref (q.1 0 0))]) (h : M_Mo_enter_j79 s = some o) : WW X q s 79 ls [] := by
  unfold M_Mo_enter_j79 at h
  refine ww_aload_n (pc := 79) g.1 d_Mo_enter_79 rfl (lv_at hl 0 rfl) ?_
  refine ww_gR (pc := 80) g (k := 77) cl_Mo (pz rfl (by decide)) (by decide) (Or.inl kw_182) (f := 77) (t := 7) rfl rfl rfl d_Mo_enter_80 ?_
  refine ww_iconst (pc := 83) g.1 (v := 0) d_Mo_enter_83 (by decide) ?_
  refine ww_pI (pc := 84) g (k := 2) (cl_Va (Or.inl ⟨by decide, rfl⟩)) (pz rfl (by decide)) (by decide) (Or.inl kw_179) rfl (f := 898) rfl rfl rfl rfl d_Mo_enter_84 h fun s hs h => ?_
  refine ww_aload_n (pc := 87) g.1 d_Mo_enter_87 rfl (lv_at hl 0 rfl) ?_
  refine ww_iconst (pc := 88) g.1 (v := 4) d_Mo_enter_88 (by decide) ?_
  obtain ⟨v89, s, hc89, h⟩ := oB_of h
  refine ww_callV (pc := 89) (rest := []) g cv_Mo_raise (Or.inl kw_157) cl_Mo (pz rfl (by decide)) (ct_Mo_raise hc89) ⟨by decide, by decide⟩ rfl hl.1 (Nat.le_of_ble_eq_true rfl) d_Mo_enter_89 rfl ?_
  refine ww_st (st' := [.int v89]) rfl ?_
  refine ww_pop (pc := 92) g.1 d_Mo_enter_92 rfl ?_
  exact ww_vretH (pc := 93) g h hR d_Mo_enter_93

theorem lp_Mo_enter_L139 {X : Cx} {q : PL} (g : Gd X y_Mo_enter b_Mo_enter 8 none 2 45 R_Mo) (x : Int32 × Int32 × Int32 × Int32 × Int32) (s : S1) (o : ((Int32 × Int32 × Int32 × Int32 × Int32) ⊕ ((Int32 × Int32 × Int32 × Int32))) × S1) (h : M_Mo_enter_L139 x s = some o) (hR : (Sum.elim (fun y : Int32 × Int32 × Int32 × Int32 × Int32 => ∀ ls : Array Slot, lv_has ls 8 [(0, .ref (q.1 0 0)), (2, vr q 28 y.1), (3, .int y.2.1), (4, .int y.2.2.1), (5, .int y.2.2.2.1), (7, .int y.2.2.2.2)] → WW X q o.2 139 ls []) (fun y : Int32 × Int32 × Int32 × Int32 => ∀ ls : Array Slot, lv_has ls 8 [(0, .ref (q.1 0 0)), (2, vr q 28 y.1), (3, .int y.2.1), (4, .int y.2.2.1), (5, .int y.2.2.2)] → WW X q o.2 177 ls []) o.1)) : ∀ ls : Array Slot, lv_has ls 8 [(0, .ref (q.1 0 0)), (2, vr q 28 x.1), (3, .int x.2.1), (4, .int x.2.2.1), (5, .int x.2.2.2.1), (7, .int x.2.2.2.2)] → WW X q s 139 ls [] := by
  intro ls hl
  unfold M_Mo_enter_L139 at h
  refine ww_iload (pc := 139) g.1 d_Mo_enter_139 (lv_at hl 5 rfl) ?_
  refine ww_iload (pc := 141) g.1 d_Mo_enter_141 (lv_at hl 3 rfl) ?_
  refine ww_icmp_ge (pc := 143) (tgt := 177) g.1 d_Mo_enter_143 (by decide) h (fun c h => ?_) (fun c h => ?_)
  · rw [oR_eq h] at hR
    exact hR ls (lv_sub hl [0, 1, 2, 3, 4] rfl)
  · refine ww_aload_nV (pc := 146) g.1 vr_cases d_Mo_enter_146 rfl (lv_at hl 1 rfl) ?_
    refine ww_ok h fun cn146 h => ?_
    refine ww_nn cn146 ?_
    refine ww_gR (pc := 147) g (k := 7) cl_Th (pt rfl rfl cn146) (by decide) (Or.inl kw_89) (f := 3591) (t := 19) rfl rfl rfl d_Mo_enter_147 ?_
    refine ww_iload (pc := 150) g.1 d_Mo_enter_150 (lv_at hl 4 rfl) ?_
    refine ww_iload (pc := 152) g.1 d_Mo_enter_152 (lv_at hl 5 rfl) ?_
    refine ww_iadd (pc := 154) g.1 d_Mo_enter_154 ?_
    refine ww_aload_n (pc := 155) g.1 d_Mo_enter_155 rfl (lv_at hl 0 rfl) ?_
    refine ww_gR (pc := 156) g (k := 77) cl_Mo (pz rfl (by decide)) (by decide) (Or.inl kw_182) (f := 77) (t := 7) rfl rfl rfl d_Mo_enter_156 ?_
    refine ww_aload_n (pc := 159) g.1 d_Mo_enter_159 rfl (lv_at hl 0 rfl) ?_
    refine ww_gR (pc := 160) g (k := 6) cl_Mo (pz rfl (by decide)) (by decide) (Or.inl kw_401) (f := 6) (t := 42) rfl rfl rfl d_Mo_enter_160 ?_
    refine ww_iload_n (pc := 163) g.1 d_Mo_enter_163 rfl (lv_at hl 2 rfl) ?_
    refine ww_ai (pc := 164) g (pz rfl (by decide)) rfl rfl d_Mo_enter_164 h fun v164 h => ?_
    refine ww_iload (pc := 165) g.1 d_Mo_enter_165 (lv_at hl 5 rfl) ?_
    refine ww_iadd (pc := 167) g.1 d_Mo_enter_167 ?_
    obtain ⟨v168, s, hc168, h⟩ := oB_of h
    refine ww_callV (pc := 168) (rest := []) g cv_Va_set_ (Or.inl kw_195) (cl_Va (Or.inr ⟨by decide, cn146⟩)) (pt rfl rfl cn146) (ct_Va_set_ (Or.inr ⟨by decide, cn146⟩) (Or.inl ⟨by decide, rfl⟩) hc168) ⟨by decide, by decide⟩ rfl hl.1 (Nat.le_of_ble_eq_true rfl) d_Mo_enter_168 rfl ?_
    refine ww_st (st' := []) rfl ?_
    refine ww_iinc (pc := 171) g.1 (v := x.2.2.2.2 + 1) (lv' := [(7, .int (x.2.2.2.2 + 1)), (0, .ref (q.1 0 0)), (2, vr q 28 x.1), (3, .int x.2.1), (4, .int x.2.2.1), (5, .int x.2.2.2.1)]) d_Mo_enter_171 hl (k := 5) rfl (by rfl) (by decide) rfl fun ls hl => ?_
    refine ww_goto (pc := 174) (tgt := 139) g.1 d_Mo_enter_174 (by decide) ?_
    rw [oR_eq h] at hR
    exact hR ls (lv_sub hl [1, 2, 3, 4, 5, 0] rfl)

theorem j_Mo_enter_j255 {X : Cx} {q : PL} (g : Gd X y_Mo_enter b_Mo_enter 8 none 2 45 R_Mo) {o : ((Int32 × Int32 × Int32 × Int32 × Int32) ⊕ ((Unit))) × S1} (hR : (Sum.elim (fun y : Int32 × Int32 × Int32 × Int32 × Int32 => ∀ ls : Array Slot, lv_has ls 8 [(0, .ref (q.1 0 0)), (2, vr q 28 y.1), (3, .int y.2.1), (4, .int y.2.2.1), (5, .int y.2.2.2.1), (7, .int y.2.2.2.2)] → WW X q o.2 180 ls []) (fun y : Unit => ∀ ls : Array Slot, lv_has ls 8 [(0, .ref (q.1 0 0))] → WW X q o.2 261 ls []) o.1)) (l2 : Int32) (l3 : Int32) (l4 : Int32) (l5 : Int32) (l7 : Int32) (s : S1) (ls : Array Slot) (hl : lv_has ls 8 [(0, .ref (q.1 0 0)), (2, vr q 28 l2), (3, .int l3), (4, .int l4), (5, .int l5), (7, .int l7)]) (h : M_Mo_enter_j255 l2 l3 l4 l5 l7 s = some o) : WW X q s 255 ls [] := by
  unfold M_Mo_enter_j255 at h
  refine ww_iinc (pc := 255) g.1 (v := l7 + 1) (lv' := [(7, .int (l7 + 1)), (0, .ref (q.1 0 0)), (2, vr q 28 l2), (3, .int l3), (4, .int l4), (5, .int l5)]) d_Mo_enter_255 hl (k := 5) rfl (by rfl) (by decide) rfl fun ls hl => ?_
  refine ww_goto (pc := 258) (tgt := 180) g.1 d_Mo_enter_258 (by decide) ?_
  rw [oR_eq h] at hR
  exact hR ls (lv_sub hl [1, 2, 3, 4, 5, 0] rfl)

theorem j_Mo_enter_j238 {X : Cx} {q : PL} (g : Gd X y_Mo_enter b_Mo_enter 8 none 2 45 R_Mo) {o : ((Int32 × Int32 × Int32 × Int32 × Int32) ⊕ ((Unit))) × S1} (hR : (Sum.elim (fun y : Int32 × Int32 × Int32 × Int32 × Int32 => ∀ ls : Array Slot, lv_has ls 8 [(0, .ref (q.1 0 0)), (2, vr q 28 y.1), (3, .int y.2.1), (4, .int y.2.2.1), (5, .int y.2.2.2.1), (7, .int y.2.2.2.2)] → WW X q o.2 180 ls []) (fun y : Unit => ∀ ls : Array Slot, lv_has ls 8 [(0, .ref (q.1 0 0))] → WW X q o.2 261 ls []) o.1)) (l2 : Int32) (l3 : Int32) (l4 : Int32) (l5 : Int32) (l7 : Int32) (s : S1) (ls : Array Slot) (hl : lv_has ls 8 [(0, .ref (q.1 0 0)), (2, vr q 28 l2), (3, .int l3), (4, .int l4), (5, .int l5), (7, .int l7)]) (h : M_Mo_enter_j238 l2 l3 l4 l5 l7 s = some o) : WW X q s 238 ls [] := by
  unfold M_Mo_enter_j238 at h
  refine ww_aload_nV (pc := 238) g.1 vr_cases d_Mo_enter_238 rfl (lv_at hl 1 rfl) ?_
  refine ww_ok h fun cn238 h => ?_
  refine ww_nn cn238 ?_
  refine ww_gR (pc := 239) g (k := 7) cl_Th (pt rfl rfl cn238) (by decide) (Or.inl kw_89) (f := 3591) (t := 19) rfl rfl rfl d_Mo_enter_239 ?_
  refine ww_iload (pc := 242) g.1 d_Mo_enter_242 (lv_at hl 4 rfl) ?_
  refine ww_iload (pc := 244) g.1 d_Mo_enter_244 (lv_at hl 3 rfl) ?_
  refine ww_iadd (pc := 246) g.1 d_Mo_enter_246 ?_
  refine ww_iload (pc := 247) g.1 d_Mo_enter_247 (lv_at hl 5 rfl) ?_
  refine ww_iadd (pc := 249) g.1 d_Mo_enter_249 ?_
  refine ww_iconst (pc := 250) g.1 (v := 0) d_Mo_enter_250 (by decide) ?_
  refine ww_lconst (pc := 251) g.1 (v := 0) d_Mo_enter_251 (by decide) ?_
  obtain ⟨v252, s, hc252, h⟩ := oB_of h
  refine ww_callV (pc := 252) (rest := []) g cv_Va_set (Or.inl kw_99) (cl_Va (Or.inr ⟨by decide, cn238⟩)) (pt rfl rfl cn238) (ct_Va_set (Or.inr ⟨by decide, cn238⟩) hc252) ⟨by decide, by decide⟩ rfl hl.1 (Nat.le_of_ble_eq_true rfl) d_Mo_enter_252 rfl ?_
  refine ww_st (st' := []) rfl ?_
  exact j_Mo_enter_j255 g hR l2 l3 l4 l5 l7 s ls (lv_sub hl [0, 1, 2, 3, 4, 5] rfl) h

theorem lp_Mo_enter_L180 {X : Cx} {q : PL} (g : Gd X y_Mo_enter b_Mo_enter 8 none 2 45 R_Mo) (x : Int32 × Int32 × Int32 × Int32 × Int32) (s : S1) (o : ((Int32 × Int32 × Int32 × Int32 × Int32) ⊕ ((Unit))) × S1) (h : M_Mo_enter_L180 x s = some o) (hR : (Sum.elim (fun y : Int32 × Int32 × Int32 × Int32 × Int32 => ∀ ls : Array Slot, lv_has ls 8 [(0, .ref (q.1 0 0)), (2, vr q 28 y.1), (3, .int y.2.1), (4, .int y.2.2.1), (5, .int y.2.2.2.1), (7, .int y.2.2.2.2)] → WW X q o.2 180 ls []) (fun y : Unit => ∀ ls : Array Slot, lv_has ls 8 [(0, .ref (q.1 0 0))] → WW X q o.2 261 ls []) o.1)) : ∀ ls : Array Slot, lv_has ls 8 [(0, .ref (q.1 0 0)), (2, vr q 28 x.1), (3, .int x.2.1), (4, .int x.2.2.1), (5, .int x.2.2.2.1), (7, .int x.2.2.2.2)] → WW X q s 180 ls [] := by
  intro ls hl
  unfold M_Mo_enter_L180 at h
  refine ww_iload (pc := 180) g.1 d_Mo_enter_180 (lv_at hl 5 rfl) ?_
  refine ww_aload_n (pc := 182) g.1 d_Mo_enter_182 rfl (lv_at hl 0 rfl) ?_
  refine ww_gR (pc := 183) g (k := 8) cl_Mo (pz rfl (by decide)) (by decide) (Or.inl kw_41) (f := 8) (t := 44) rfl rfl rfl d_Mo_enter_183 ?_
  refine ww_iload_n (pc := 186) g.1 d_Mo_enter_186 rfl (lv_at hl 2 rfl) ?_
  refine ww_ai (pc := 187) g (pz rfl (by decide)) rfl rfl d_Mo_enter_187 h fun v187 h => ?_
  refine ww_icmp_ge (pc := 188) (tgt := 261) g.1 d_Mo_enter_188 (by decide) h (fun c h => ?_) (fun c h => ?_)
  · rw [oR_eq h] at hR
    exact hR ls (lv_sub hl [0] rfl)
  · refine ww_iload (pc := 191) g.1 d_Mo_enter_191 (lv_at hl 5 rfl) ?_
    refine ww_aload_n (pc := 193) g.1 d_Mo_enter_193 rfl (lv_at hl 0 rfl) ?_
    refine ww_gR (pc := 194) g (k := 6) cl_Mo (pz rfl (by decide)) (by decide) (Or.inl kw_401) (f := 6) (t := 42) rfl rfl rfl d_Mo_enter_194 ?_
    refine ww_iload_n (pc := 197) g.1 d_Mo_enter_197 rfl (lv_at hl 2 rfl) ?_
    refine ww_ai (pc := 198) g (pz rfl (by decide)) rfl rfl d_Mo_enter_198 h fun v198 h => ?_
    refine ww_icmp_ge (pc := 199) (tgt := 238) g.1 d_Mo_enter_199 (by decide) h (fun c h => ?_) (fun c h => ?_)
    · exact j_Mo_enter_j238 g hR x.1 x.2.1 x.2.2.1 x.2.2.2.1 x.2.2.2.2 s ls (lv_sub hl [0, 1, 2, 3, 4, 5] rfl) h
    · refine ww_iload (pc := 202) g.1 d_Mo_enter_202 (lv_at hl 5 rfl) ?_
      refine ww_aload_n (pc := 204) g.1 d_Mo_enter_204 rfl (lv_at hl 0 rfl) ?_
      refine ww_gR (pc := 205) g (k := 77) cl_Mo (pz rfl (by decide)) (by decide) (Or.inl kw_182) (f := 77) (t := 7) rfl rfl rfl d_Mo_enter_205 ?_
      refine ww_gI (pc := 208) g (k := 2) (cl_Va (Or.inl ⟨by decide, rfl⟩)) (pz rfl (by decide)) (by decide) (Or.inl kw_179) (f := 898) rfl rfl d_Mo_enter_208 h fun v208 h => ?_
      refine ww_icmp_ge (pc := 211) (tgt := 238) g.1 d_Mo_enter_211 (by decide) h (fun c h => ?_) (fun c h => ?_)
      · exact j_Mo_enter_j238 g hR x.1 x.2.1 x.2.2.1 x.2.2.2.1 x.2.2.2.2 s ls (lv_sub hl [0, 1, 2, 3, 4, 5] rfl) h
      · refine ww_aload_nV (pc := 214) g.1 vr_cases d_Mo_enter_214 rfl (lv_at hl 1 rfl) ?_
        refine ww_ok h fun cn214 h => ?_
        refine ww_nn cn214 ?_
        refine ww_gR (pc := 215) g (k := 7) cl_Th (pt rfl rfl cn214) (by decide) (Or.inl kw_89) (f := 3591) (t := 19) rfl rfl rfl d_Mo_enter_215 ?_
        refine ww_iload (pc := 218) g.1 d_Mo_enter_218 (lv_at hl 4 rfl) ?_
        refine ww_iload (pc := 220) g.1 d_Mo_enter_220 (lv_at hl 3 rfl) ?_
        refine ww_iadd (pc := 222) g.1 d_Mo_enter_222 ?_
        refine ww_iload (pc := 223) g.1 d_Mo_enter_223 (lv_at hl 5 rfl) ?_
        refine ww_iadd (pc := 225) g.1 d_Mo_enter_225 ?_
        refine ww_aload_n (pc := 226) g.1 d_Mo_enter_226 rfl (lv_at hl 0 rfl) ?_
        refine ww_gR (pc := 227) g (k := 77) cl_Mo (pz rfl (by decide)) (by decide) (Or.inl kw_182) (f := 77) (t := 7) rfl rfl rfl d_Mo_enter_227 ?_
        refine ww_iload (pc := 230) g.1 d_Mo_enter_230 (lv_at hl 5 rfl) ?_
        obtain ⟨v232, s, hc232, h⟩ := oB_of h
        refine ww_callV (pc := 232) (rest := []) g cv_Va_set_ (Or.inl kw_195) (cl_Va (Or.inr ⟨by decide, cn214⟩)) (pt rfl rfl cn214) (ct_Va_set_ (Or.inr ⟨by decide, cn214⟩) (Or.inl ⟨by decide, rfl⟩) hc232) ⟨by decide, by decide⟩ rfl hl.1 (Nat.le_of_ble_eq_true rfl) d_Mo_enter_232 rfl ?_
        refine ww_st (st' := []) rfl ?_
        refine ww_goto (pc := 235) (tgt := 255) g.1 d_Mo_enter_235 (by decide) ?_
        exact j_Mo_enter_j255 g hR x.1 x.2.1 x.2.2.1 x.2.2.2.1 x.2.2.2.2 s ls (lv_sub hl [0, 1, 2, 3, 4, 5] rfl) h

theorem j_Mo_enter_j44 {X : Cx} {q : PL} (g : Gd X y_Mo_enter b_Mo_enter 8 none 2 45 R_Mo) {o : (Unit) × S1} (hR : Rt X q o.2 none) (l1 : Int32) (l2 : Int32) (l3 : Int32) (l4 : Int32) (s : S1) (ls : Array Slot) (hl : lv_has ls 8 [(0, .ref (q.1 0 0)), (1, .int l1), (2, vr q 28 l2), (3, .int l3), (4, .int l4)]) (h : M_Mo_enter_j44 l1 l2 l3 l4 s = some o) : WW X q s 44 ls [] := by
  unfold M_Mo_enter_j44 at h
  refine ww_aload_n (pc := 44) g.1 d_Mo_enter_44 rfl (lv_at hl 0 rfl) ?_
  refine ww_aload_nV (pc := 45) g.1 vr_cases d_Mo_enter_45 rfl (lv_at hl 2 rfl) ?_
  refine ww_ok h fun cn45 h => ?_
  refine ww_nn cn45 ?_
  obtain ⟨v46, s, hc46, h⟩ := oB_of h
  refine ww_callV (pc := 46) (rest := []) g cv_Mo_topOf (Or.inl kw_404) cl_Mo (pz rfl (by decide)) (ct_Mo_topOf cn45 hc46) ⟨by decide, by decide⟩ rfl hl.1 (Nat.le_of_ble_eq_true rfl) d_Mo_enter_46 rfl ?_
  refine ww_st (st' := [.int v46]) rfl ?_
  refine ww_istore (pc := 49) (i := 5) g.1 (lv' := [(5, .int v46), (0, .ref (q.1 0 0)), (1, .int l1), (2, vr q 28 l2), (3, .int l3), (4, .int l4)]) d_Mo_enter_49 hl (by decide) rfl fun ls hl => ?_
  refine ww_aload_nV (pc := 51) g.1 vr_cases d_Mo_enter_51 rfl (lv_at hl 3 rfl) ?_
  refine ww_ok h fun cn51 h => ?_
  refine ww_nn cn51 ?_
  refine ww_gI (pc := 52) g (k := 2) cl_Th (pt rfl rfl cn51) (by decide) (Or.inl kw_151) (f := 3586) rfl rfl d_Mo_enter_52 h fun v52 h => ?_
  refine ww_sipush (pc := 55) g.1 (v := 200) d_Mo_enter_55 (by decide) ?_
  refine ww_icmp_eq (pc := 58) (tgt := 79) g.1 d_Mo_enter_58 (by decide) h (fun c h => ?_) (fun c h => ?_)
  · exact j_Mo_enter_j79 g hR s ls (lv_sub hl [1] rfl) h
  · refine ww_iload (pc := 61) g.1 d_Mo_enter_61 (lv_at hl 0 rfl) ?_
    refine ww_iload (pc := 63) g.1 d_Mo_enter_63 (lv_at hl 5 rfl) ?_
    refine ww_iadd (pc := 65) g.1 d_Mo_enter_65 ?_
    refine ww_aload_n (pc := 66) g.1 d_Mo_enter_66 rfl (lv_at hl 1 rfl) ?_
    refine ww_gR (pc := 67) g (k := 8) cl_Mo (pz rfl (by decide)) (by decide) (Or.inl kw_41) (f := 8) (t := 44) rfl rfl rfl d_Mo_enter_67 ?_
    refine ww_iload_n (pc := 70) g.1 d_Mo_enter_70 rfl (lv_at hl 4 rfl) ?_
    refine ww_ai (pc := 71) g (pz rfl (by decide)) rfl rfl d_Mo_enter_71 h fun v71 h => ?_
    refine ww_iadd (pc := 72) g.1 d_Mo_enter_72 ?_
    refine ww_sipush (pc := 73) g.1 (v := 4000) d_Mo_enter_73 (by decide) ?_
    refine ww_icmp_le (pc := 76) (tgt := 94) g.1 d_Mo_enter_76 (by decide) h (fun c h => ?_) (fun c h => ?_)
    · refine ww_aload_n (pc := 94) g.1 d_Mo_enter_94 rfl (lv_at hl 1 rfl) ?_
      refine ww_iconst (pc := 95) g.1 (v := 0) d_Mo_enter_95 (by decide) ?_
      refine ww_iload_n (pc := 96) g.1 d_Mo_enter_96 rfl (lv_at hl 2 rfl) ?_
      obtain ⟨v97, s, hc97, h⟩ := oB_of h
      refine ww_callV (pc := 97) (rest := []) g cv_Mo_push (Or.inl kw_190) cl_Mo (pz rfl (by decide)) (ct_Mo_push hc97) ⟨by decide, by decide⟩ rfl hl.1 (Nat.le_of_ble_eq_true rfl) d_Mo_enter_97 rfl ?_
      refine ww_st (st' := [.int v97]) rfl ?_
      refine ww_pop (pc := 100) g.1 d_Mo_enter_100 rfl ?_
      refine ww_aload_nV (pc := 101) g.1 vr_cases d_Mo_enter_101 rfl (lv_at hl 3 rfl) ?_
      refine ww_ok h fun cn101 h => ?_
      refine ww_nn cn101 ?_
      obtain ⟨v102, s, hc102, h⟩ := oB_of h
      refine ww_callV (pc := 102) (rest := []) g cv_Th_top (Or.inl kw_236) cl_Th (pt rfl rfl cn101) (ct_Th_top cn101 hc102) ⟨by decide, by decide⟩ rfl hl.1 (Nat.le_of_ble_eq_true rfl) d_Mo_enter_102 rfl ?_
      refine ww_st (st' := [.int v102]) rfl ?_
      refine ww_istore (pc := 105) (i := 6) g.1 (lv' := [(6, .int v102), (5, .int v46), (0, .ref (q.1 0 0)), (1, .int l1), (2, vr q 28 l2), (3, .int l3), (4, .int l4)]) d_Mo_enter_105 hl (by decide) rfl fun ls hl => ?_
      refine ww_aload_nV (pc := 107) g.1 vr_cases d_Mo_enter_107 rfl (lv_at hl 4 rfl) ?_
      refine ww_ok h fun cn107 h => ?_
      refine ww_nn cn107 ?_
      refine ww_gR (pc := 108) g (k := 13) cl_Th (pt rfl rfl cn107) (by decide) (Or.inl kw_274) (f := 3597) (t := 32) rfl rfl rfl d_Mo_enter_108 ?_
      refine ww_iload (pc := 111) g.1 d_Mo_enter_111 (lv_at hl 0 rfl) ?_
      refine ww_iconst (pc := 113) g.1 (v := 0) d_Mo_enter_113 (by decide) ?_
      refine ww_si (pc := 114) g (pt rfl rfl cn107) rfl rfl d_Mo_enter_114 h fun s hs h => ?_
      refine ww_aload_nV (pc := 115) g.1 vr_cases d_Mo_enter_115 rfl (lv_at hl 4 rfl) ?_
      refine ww_ok h fun cn115 h => ?_
      refine ww_nn cn115 ?_
      refine ww_gR (pc := 116) g (k := 15) cl_Th (pt rfl rfl cn115) (by decide) (Or.inl kw_155) (f := 3599) (t := 34) rfl rfl rfl d_Mo_enter_116 ?_
      refine ww_iload (pc := 119) g.1 d_Mo_enter_119 (lv_at hl 0 rfl) ?_
      refine ww_iload (pc := 121) g.1 d_Mo_enter_121 (lv_at hl 6 rfl) ?_
      refine ww_si (pc := 123) g (pt rfl rfl cn115) rfl rfl d_Mo_enter_123 h fun s hs h => ?_
      refine ww_aload_nV (pc := 124) g.1 vr_cases d_Mo_enter_124 rfl (lv_at hl 4 rfl) ?_
      refine ww_ok h fun cn124 h => ?_
      refine ww_nn cn124 ?_
      refine ww_gR (pc := 125) g (k := 14) cl_Th (pt rfl rfl cn124) (by decide) (Or.inl kw_254) (f := 3598) (t := 33) rfl rfl rfl d_Mo_enter_125 ?_
      refine ww_iload (pc := 128) g.1 d_Mo_enter_128 (lv_at hl 0 rfl) ?_
      refine ww_iload (pc := 130) g.1 d_Mo_enter_130 (lv_at hl 1 rfl) ?_
      refine ww_iload (pc := 132) g.1 d_Mo_enter_132 (lv_at hl 6 rfl) ?_
      refine ww_iadd (pc := 134) g.1 d_Mo_enter_134 ?_
      refine ww_si (pc := 135) g (pt rfl rfl cn124) rfl rfl d_Mo_enter_135 h fun s hs h => ?_
      refine ww_iconst (pc := 136) g.1 (v := 0) d_Mo_enter_136 (by decide) ?_
      refine ww_istore (pc := 137) (i := 7) g.1 (lv' := [(7, .int 0), (6, .int v102), (5, .int v46), (0, .ref (q.1 0 0)), (1, .int l1), (2, vr q 28 l2), (3, .int l3), (4, .int l4)]) d_Mo_enter_137 hl (by decide) rfl fun ls hl => ?_
      obtain ⟨e139, s1, hw, h⟩ := oB_of h
      refine oW_rule (Wh := fun (x : Int32 × Int32 × Int32 × Int32 × Int32) (s : S1) => ∀ ls : Array Slot, lv_has ls 8 [(0, .ref (q.1 0 0)), (2, vr q 28 x.1), (3, .int x.2.1), (4, .int x.2.2.1), (5, .int x.2.2.2.1), (7, .int x.2.2.2.2)] → WW X q s 139 ls []) (We := fun (e : (Int32 × Int32 × Int32 × Int32)) (s : S1) => ∀ ls : Array Slot, lv_has ls 8 [(0, .ref (q.1 0 0)), (2, vr q 28 e.1), (3, .int e.2.1), (4, .int e.2.2.1), (5, .int e.2.2.2)] → WW X q s 177 ls []) (fun x s o hb hc => lp_Mo_enter_L139 (q := q) g x s o hb hc) hw ?_ ls (lv_sub hl [3, 5, 6, 7, 2, 0] rfl)
      clear hw hl
      clear ls
      intro ls hl
      generalize s1 = s at h ⊢
      refine ww_iconst (pc := 177) g.1 (v := 0) d_Mo_enter_177 (by decide) ?_
      refine ww_istore (pc := 178) (i := 7) g.1 (lv' := [(7, .int 0), (0, .ref (q.1 0 0)), (2, vr q 28 e139.1), (3, .int e139.2.1), (4, .int e139.2.2.1), (5, .int e139.2.2.2)]) d_Mo_enter_178 hl (by decide) rfl fun ls hl => ?_
      obtain ⟨e180, s1, hw, h⟩ := oB_of h
      refine oW_rule (Wh := fun (x : Int32 × Int32 × Int32 × Int32 × Int32) (s : S1) => ∀ ls : Array Slot, lv_has ls 8 [(0, .ref (q.1 0 0)), (2, vr q 28 x.1), (3, .int x.2.1), (4, .int x.2.2.1), (5, .int x.2.2.2.1), (7, .int x.2.2.2.2)] → WW X q s 180 ls []) (We := fun (e : (Unit)) (s : S1) => ∀ ls : Array Slot, lv_has ls 8 [(0, .ref (q.1 0 0))] → WW X q s 261 ls []) (fun x s o hb hc => lp_Mo_enter_L180 (q := q) g x s o hb hc) hw ?_ ls (lv_sub hl [1, 2, 3, 4, 5, 0] rfl)
      clear hw hl
      clear ls
      intro ls hl
      generalize s1 = s at h ⊢
      refine ww_aload_n (pc := 261) g.1 d_Mo_enter_261 rfl (lv_at hl 0 rfl) ?_
      refine ww_gR (pc := 262) g (k := 77) cl_Mo (pz rfl (by decide)) (by decide) (Or.inl kw_182) (f := 77) (t := 7) rfl rfl rfl d_Mo_enter_262 ?_
      refine ww_iconst (pc := 265) g.1 (v := 0) d_Mo_enter_265 (by decide) ?_
      refine ww_pI (pc := 266) g (k := 2) (cl_Va (Or.inl ⟨by decide, rfl⟩)) (pz rfl (by decide)) (by decide) (Or.inl kw_179) rfl (f := 898) rfl rfl rfl rfl d_Mo_enter_266 h fun s hs h => ?_
      exact ww_vretH (pc := 269) g h hR d_Mo_enter_269
    · exact j_Mo_enter_j79 g hR s ls (lv_sub hl [1] rfl) h

theorem ct_Mo_enter {l : Launch} {P : PP} {q : PL} {s s' : S1} {l1 : Int32} {r : Unit} (h : M_Mo_enter l1 s = some (r, s')) : Ct l y_Mo_enter b_Mo_enter 8 none 2 45 P q s [.ref (q.1 0 0), .int l1] none q s' := by
  refine ct_of (by decide) (Nat.le_of_ble_eq_true rfl) fun X ls eP el g hR hl => ?_
  subst eP
  have hR : Rt X q ((r, s') : Unit × S1).2 none := hR
  have hl : lv_has ls 8 [(0, .ref (q.1 0 0)), (1, .int l1)] := hl
  generalize (r, s') = o at h hR
  unfold M_Mo_enter at h
  refine ww_aload_n (pc := 0) g.1 d_Mo_enter_0 rfl (lv_at hl 0 rfl) ?_
  refine ww_gV (pc := 1) g (k := 72) cl_Mo (pz rfl (by decide)) (by decide) (Or.inl kw_150) (f := 72) (t := 28) rfl rfl rfl d_Mo_enter_1 h fun v1 h => ?_
  refine ww_astore_nV (pc := 4) (i := 2) g.1 vr_cases (lv' := [(2, vr q 28 v1), (0, .ref (q.1 0 0)), (1, .int l1)]) d_Mo_enter_4 rfl hl (by decide) rfl fun ls hl => ?_
  refine ww_aload_n (pc := 5) g.1 d_Mo_enter_5 rfl (lv_at hl 1 rfl) ?_
  refine ww_gR (pc := 6) g (k := 49) cl_Mo (pz rfl (by decide)) (by decide) (Or.inl kw_87) (f := 49) (t := 62) rfl rfl rfl d_Mo_enter_6 ?_
  refine ww_iload_n (pc := 9) g.1 d_Mo_enter_9 rfl (lv_at hl 2 rfl) ?_
  refine ww_ai (pc := 10) g (pz rfl (by decide)) rfl rfl d_Mo_enter_10 h fun v10 h => ?_
  refine ww_istore_n (pc := 11) (i := 3) g.1 (lv' := [(3, .int v10), (2, vr q 28 v1), (0, .ref (q.1 0 0)), (1, .int l1)]) d_Mo_enter_11 rfl hl (by decide) (by simp [vr_cat]) fun ls hl => ?_
  refine ww_iconst (pc := 12) g.1 (v := 0) d_Mo_enter_12 (by decide) ?_
  refine ww_aload_n (pc := 13) g.1 d_Mo_enter_13 rfl (lv_at hl 2 rfl) ?_
  refine ww_gR (pc := 14) g (k := 77) cl_Mo (pz rfl (by decide)) (by decide) (Or.inl kw_182) (f := 77) (t := 7) rfl rfl rfl d_Mo_enter_14 ?_
  refine ww_gI (pc := 17) g (k := 2) (cl_Va (Or.inl ⟨by decide, rfl⟩)) (pz rfl (by decide)) (by decide) (Or.inl kw_179) (f := 898) rfl rfl d_Mo_enter_17 h fun v17 h => ?_
  refine ww_aload_n (pc := 20) g.1 d_Mo_enter_20 rfl (lv_at hl 2 rfl) ?_
  refine ww_gR (pc := 21) g (k := 6) cl_Mo (pz rfl (by decide)) (by decide) (Or.inl kw_401) (f := 6) (t := 42) rfl rfl rfl d_Mo_enter_21 ?_
  refine ww_iload_n (pc := 24) g.1 d_Mo_enter_24 rfl (lv_at hl 0 rfl) ?_
  refine ww_ai (pc := 25) g (pz rfl (by decide)) rfl rfl d_Mo_enter_25 h fun v25 h => ?_
  refine ww_isub (pc := 26) g.1 d_Mo_enter_26 ?_
  obtain ⟨v27, s, hc27, h⟩ := oB_of h
  refine ww_callS (pc := 27) (rest := []) g cs_Mth_max (Or.inl kw_402) (ct_Mth_max hc27) ⟨by decide, by decide⟩ rfl hl.1 (Nat.le_of_ble_eq_true rfl) d_Mo_enter_27 rfl ?_
  refine ww_st (st' := [.int v27]) rfl ?_
  refine ww_istore (pc := 30) (i := 4) g.1 (lv' := [(4, .int v27), (3, .int v10), (2, vr q 28 v1), (0, .ref (q.1 0 0)), (1, .int l1)]) d_Mo_enter_30 hl (by decide) rfl fun ls hl => ?_
  refine ww_aload_n (pc := 32) g.1 d_Mo_enter_32 rfl (lv_at hl 3 rfl) ?_
  refine ww_gR (pc := 33) g (k := 7) cl_Mo (pz rfl (by decide)) (by decide) (Or.inl kw_403) (f := 7) (t := 43) rfl rfl rfl d_Mo_enter_33 ?_
  refine ww_iload_n (pc := 36) g.1 d_Mo_enter_36 rfl (lv_at hl 1 rfl) ?_
  refine ww_ai (pc := 37) g (pz rfl (by decide)) rfl rfl d_Mo_enter_37 h fun v37 h => ?_
  refine ww_if_ne (pc := 38) (tgt := 44) g.1 d_Mo_enter_38 (by decide) h (fun c h => ?_) (fun c h => ?_)
  · exact j_Mo_enter_j44 g hR l1 v1 v10 v27 s ls (lv_sub hl [3, 4, 2, 1, 0] rfl) h
  · refine ww_iconst (pc := 41) g.1 (v := 0) d_Mo_enter_41 (by decide) ?_
    refine ww_istore (pc := 42) (i := 4) g.1 (lv' := [(4, .int 0), (3, .int v10), (2, vr q 28 v1), (0, .ref (q.1 0 0)), (1, .int l1)]) d_Mo_enter_42 hl (by decide) rfl fun ls hl => ?_
    exact j_Mo_enter_j44 g hR l1 v1 v10 0 s ls (lv_sub hl [3, 4, 2, 1, 0] rfl) h


