abbrev b_He_sweep : ByteArray := prog_6_method_26_code
def y_He_sweep : MethodName := ⟨R_He, "sweep", "()V"⟩
abbrev w_He_sweep : List Cond := .code y_He_sweep b_He_sweep 3 none :: wA
set_option maxRecDepth 20000 in
theorem k_He_sweep : Cond.code y_He_sweep b_He_sweep 3 none ∈ wA := kinm (show _ ∈ tables_1 from (List.mem_append_right _ (List.mem_append_right _ (List.mem_append_right _ (List.mem_append_right _ (List.mem_append_left _ (List.mem_of_getElem? (l := tables_1_5) (i := 150) rfl))))))) rfl
theorem d_He_sweep_0 : decode b_He_sweep 0 = .ok (.iconst 0, 1) := by decide +kernel
theorem d_He_sweep_1 : decode b_He_sweep 1 = .ok (.istore_n 1, 1) := by decide +kernel
theorem d_He_sweep_2 : decode b_He_sweep 2 = .ok (.iload_n 1, 1) := by decide +kernel
theorem d_He_sweep_3 : decode b_He_sweep 3 = .ok (.aload_n 0, 1) := by decide +kernel
theorem d_He_sweep_4 : decode b_He_sweep 4 = .ok (.getfield 47, 3) := by decide +kernel
theorem d_He_sweep_7 : decode b_He_sweep 7 = .ok (.if_icmp .ge 147, 3) := by decide +kernel
theorem d_He_sweep_10 : decode b_He_sweep 10 = .ok (.aload_n 0, 1) := by decide +kernel
theorem d_He_sweep_11 : decode b_He_sweep 11 = .ok (.getfield 11, 3) := by decide +kernel
theorem d_He_sweep_14 : decode b_He_sweep 14 = .ok (.iload_n 1, 1) := by decide +kernel
theorem d_He_sweep_15 : decode b_He_sweep 15 = .ok (.aaload, 1) := by decide +kernel
theorem d_He_sweep_16 : decode b_He_sweep 16 = .ok (.astore_n 2, 1) := by decide +kernel
theorem d_He_sweep_17 : decode b_He_sweep 17 = .ok (.aload_n 2, 1) := by decide +kernel
theorem d_He_sweep_18 : decode b_He_sweep 18 = .ok (.getfield 83, 3) := by decide +kernel
theorem d_He_sweep_21 : decode b_He_sweep 21 = .ok (.ifCond .eq 127, 3) := by decide +kernel
theorem d_He_sweep_24 : decode b_He_sweep 24 = .ok (.aload_n 2, 1) := by decide +kernel
theorem d_He_sweep_25 : decode b_He_sweep 25 = .ok (.getfield 191, 3) := by decide +kernel
theorem d_He_sweep_28 : decode b_He_sweep 28 = .ok (.ifCond .ne 120, 3) := by decide +kernel
theorem d_He_sweep_31 : decode b_He_sweep 31 = .ok (.aload_n 2, 1) := by decide +kernel
theorem d_He_sweep_32 : decode b_He_sweep 32 = .ok (.getfield 83, 3) := by decide +kernel
theorem d_He_sweep_35 : decode b_He_sweep 35 = .ok (.iconst 4, 1) := by decide +kernel
theorem d_He_sweep_36 : decode b_He_sweep 36 = .ok (.if_icmp .ne 11, 3) := by decide +kernel
theorem d_He_sweep_39 : decode b_He_sweep 39 = .ok (.aload_n 0, 1) := by decide +kernel
theorem d_He_sweep_40 : decode b_He_sweep 40 = .ok (.iload_n 1, 1) := by decide +kernel
theorem d_He_sweep_41 : decode b_He_sweep 41 = .ok (.invokevirtual 310, 3) := by decide +kernel
theorem d_He_sweep_44 : decode b_He_sweep 44 = .ok (.goto 69, 3) := by decide +kernel
theorem d_He_sweep_47 : decode b_He_sweep 47 = .ok (.aload_n 2, 1) := by decide +kernel
theorem d_He_sweep_48 : decode b_He_sweep 48 = .ok (.getfield 83, 3) := by decide +kernel
theorem d_He_sweep_51 : decode b_He_sweep 51 = .ok (.iconst 5, 1) := by decide +kernel
theorem d_He_sweep_52 : decode b_He_sweep 52 = .ok (.if_icmp .ne 14, 3) := by decide +kernel
theorem d_He_sweep_55 : decode b_He_sweep 55 = .ok (.aload_n 0, 1) := by decide +kernel
theorem d_He_sweep_56 : decode b_He_sweep 56 = .ok (.getfield 257, 3) := by decide +kernel
theorem d_He_sweep_59 : decode b_He_sweep 59 = .ok (.aload_n 2, 1) := by decide +kernel
theorem d_He_sweep_60 : decode b_He_sweep 60 = .ok (.invokevirtual 313, 3) := by decide +kernel
theorem d_He_sweep_63 : decode b_He_sweep 63 = .ok (.goto 50, 3) := by decide +kernel
theorem d_He_sweep_66 : decode b_He_sweep 66 = .ok (.aload_n 2, 1) := by decide +kernel
theorem d_He_sweep_67 : decode b_He_sweep 67 = .ok (.getfield 83, 3) := by decide +kernel
theorem d_He_sweep_70 : decode b_He_sweep 70 = .ok (.bipush 7, 2) := by decide +kernel
theorem d_He_sweep_72 : decode b_He_sweep 72 = .ok (.if_icmp .ne 41, 3) := by decide +kernel
theorem d_He_sweep_75 : decode b_He_sweep 75 = .ok (.aload_n 0, 1) := by decide +kernel
theorem d_He_sweep_76 : decode b_He_sweep 76 = .ok (.aload_n 0, 1) := by decide +kernel
theorem d_He_sweep_77 : decode b_He_sweep 77 = .ok (.getfield 29, 3) := by decide +kernel
theorem d_He_sweep_80 : decode b_He_sweep 80 = .ok (.aload_n 2, 1) := by decide +kernel
theorem d_He_sweep_81 : decode b_He_sweep 81 = .ok (.getfield 97, 3) := by decide +kernel
theorem d_He_sweep_84 : decode b_He_sweep 84 = .ok (.aaload, 1) := by decide +kernel
theorem d_He_sweep_85 : decode b_He_sweep 85 = .ok (.iconst 0, 1) := by decide +kernel
theorem d_He_sweep_86 : decode b_He_sweep 86 = .ok (.invokevirtual 316, 3) := by decide +kernel
theorem d_He_sweep_89 : decode b_He_sweep 89 = .ok (.aload_n 0, 1) := by decide +kernel
theorem d_He_sweep_90 : decode b_He_sweep 90 = .ok (.getfield 29, 3) := by decide +kernel
theorem d_He_sweep_93 : decode b_He_sweep 93 = .ok (.aload_n 2, 1) := by decide +kernel
theorem d_He_sweep_94 : decode b_He_sweep 94 = .ok (.getfield 97, 3) := by decide +kernel
theorem d_He_sweep_97 : decode b_He_sweep 97 = .ok (.aaload, 1) := by decide +kernel
theorem d_He_sweep_98 : decode b_He_sweep 98 = .ok (.iconst (-1), 1) := by decide +kernel
theorem d_He_sweep_99 : decode b_He_sweep 99 = .ok (.putfield 62, 3) := by decide +kernel
theorem d_He_sweep_102 : decode b_He_sweep 102 = .ok (.aload_n 0, 1) := by decide +kernel
theorem d_He_sweep_103 : decode b_He_sweep 103 = .ok (.getfield 21, 3) := by decide +kernel
theorem d_He_sweep_106 : decode b_He_sweep 106 = .ok (.bipush 11, 2) := by decide +kernel
theorem d_He_sweep_108 : decode b_He_sweep 108 = .ok (.dup2, 1) := by decide +kernel
theorem d_He_sweep_109 : decode b_He_sweep 109 = .ok (.iaload, 1) := by decide +kernel
theorem d_He_sweep_110 : decode b_He_sweep 110 = .ok (.iconst 1, 1) := by decide +kernel
theorem d_He_sweep_111 : decode b_He_sweep 111 = .ok (.isub, 1) := by decide +kernel
theorem d_He_sweep_112 : decode b_He_sweep 112 = .ok (.iastore, 1) := by decide +kernel
theorem d_He_sweep_113 : decode b_He_sweep 113 = .ok (.aload_n 2, 1) := by decide +kernel
theorem d_He_sweep_114 : decode b_He_sweep 114 = .ok (.iconst 0, 1) := by decide +kernel
theorem d_He_sweep_115 : decode b_He_sweep 115 = .ok (.putfield 83, 3) := by decide +kernel
theorem d_He_sweep_118 : decode b_He_sweep 118 = .ok (.aload_n 0, 1) := by decide +kernel
theorem d_He_sweep_119 : decode b_He_sweep 119 = .ok (.getfield 17, 3) := by decide +kernel
theorem d_He_sweep_122 : decode b_He_sweep 122 = .ok (.aload_n 0, 1) := by decide +kernel
theorem d_He_sweep_123 : decode b_He_sweep 123 = .ok (.getfield 50, 3) := by decide +kernel
theorem d_He_sweep_126 : decode b_He_sweep 126 = .ok (.iload_n 1, 1) := by decide +kernel
theorem d_He_sweep_127 : decode b_He_sweep 127 = .ok (.iastore, 1) := by decide +kernel
theorem d_He_sweep_128 : decode b_He_sweep 128 = .ok (.aload_n 0, 1) := by decide +kernel
theorem d_He_sweep_129 : decode b_He_sweep 129 = .ok (.dup, 1) := by decide +kernel
theorem d_He_sweep_130 : decode b_He_sweep 130 = .ok (.getfield 50, 3) := by decide +kernel
theorem d_He_sweep_133 : decode b_He_sweep 133 = .ok (.iconst 1, 1) := by decide +kernel
theorem d_He_sweep_134 : decode b_He_sweep 134 = .ok (.iadd, 1) := by decide +kernel
theorem d_He_sweep_135 : decode b_He_sweep 135 = .ok (.putfield 50, 3) := by decide +kernel
theorem d_He_sweep_138 : decode b_He_sweep 138 = .ok (.aload_n 0, 1) := by decide +kernel
theorem d_He_sweep_139 : decode b_He_sweep 139 = .ok (.getfield 21, 3) := by decide +kernel
theorem d_He_sweep_142 : decode b_He_sweep 142 = .ok (.iconst 3, 1) := by decide +kernel
theorem d_He_sweep_143 : decode b_He_sweep 143 = .ok (.dup2, 1) := by decide +kernel
theorem d_He_sweep_144 : decode b_He_sweep 144 = .ok (.iaload, 1) := by decide +kernel
theorem d_He_sweep_145 : decode b_He_sweep 145 = .ok (.iconst 1, 1) := by decide +kernel
theorem d_He_sweep_146 : decode b_He_sweep 146 = .ok (.isub, 1) := by decide +kernel
theorem d_He_sweep_147 : decode b_He_sweep 147 = .ok (.iastore, 1) := by decide +kernel
theorem d_He_sweep_148 : decode b_He_sweep 148 = .ok (.iinc 1 1, 3) := by decide +kernel
theorem d_He_sweep_151 : decode b_He_sweep 151 = .ok (.goto (-149), 3) := by decide +kernel
theorem d_He_sweep_154 : decode b_He_sweep 154 = .ok (.return_, 1) := by decide +kernel
theorem kw_1071 : Cond.methodLink R_He 316 y_He_closeFrom ∈ wA := kinm (show _ ∈ tables_1 from (List.mem_append_right _ (List.mem_append_right _ (List.mem_append_right _ (List.mem_append_right _ (List.mem_append_left _ (List.mem_of_getElem? (l := tables_1_5) (i := 159) (by decide +kernel)))))))) (by decide +kernel)
theorem kw_1072 : Cond.methodLink R_He 313 y_Ta_release ∈ wA := kinm (show _ ∈ tables_1 from (List.mem_append_right _ (List.mem_append_right _ (List.mem_append_right _ (List.mem_append_right _ (List.mem_append_left _ (List.mem_of_getElem? (l := tables_1_5) (i := 155) (by decide +kernel)))))))) (by decide +kernel)
theorem kw_1073 : Cond.methodLink R_He 310 y_He_dropFromBucket ∈ wA := kinm (show _ ∈ tables_1 from (List.mem_append_right _ (List.mem_append_right _ (List.mem_append_right _ (List.mem_append_right _ (List.mem_append_left _ (List.mem_of_getElem? (l := tables_1_5) (i := 151) (by decide +kernel)))))))) (by decide +kernel)
theorem kw_1074 : Cond.instanceMethod y_He_sweep ∈ wA := kinm (show _ ∈ tables_1 from (List.mem_append_right _ (List.mem_append_right _ (List.mem_append_right _ (List.mem_append_right _ (List.mem_append_left _ (List.mem_of_getElem? (l := tables_1_5) (i := 149) (by decide +kernel)))))))) (by decide +kernel)
theorem kw_1075 : Cond.selects R_He y_He_sweep y_He_sweep ∈ wA := kinp 22 (by decide +kernel) (by decide +kernel)
theorem cv_He_sweep : CV y_He_sweep b_He_sweep 3 none 0 := ⟨kw_1074, kw_1075, kw_712, k_He_sweep, by decide +kernel⟩
theorem j_He_sweep_j148 {X : Cx} {q : PL} (g : Gd X y_He_sweep b_He_sweep 3 none 1 25 R_He) {o : ((Int32) ⊕ ((Unit))) × S1} (hR : (Sum.elim (fun y : Int32 => ∀ ls : Array Slot, lv_has ls 3 [(0, .ref (q.1 111 0)), (1, .int y)] → WW X q o.2 2 ls []) (fun y : Unit => ∀ ls : Array Slot, lv_has ls 3 [] → WW X q o.2 154 ls []) o.1)) (l1 : Int32) (s : S1) (ls : Array Slot) (hl : lv_has ls 3 [(0, .ref (q.1 111 0)), (1, .int l1)]) (h : M_He_sweep_j148 l1 s = some o) : WW X q s 148 ls [] := by
  unfold M_He_sweep_j148 at h
  refine ww_iinc (pc := 148) g.1 (v := l1 + 1) (lv' := [(1, .int (l1 + 1)), (0, .ref (q.1 111 0))]) d_He_sweep_148 hl (k := 1) rfl (by rfl) (by decide) rfl fun ls hl => ?_
  refine ww_goto (pc := 151) (tgt := 2) g.1 d_He_sweep_151 (by decide) ?_
  rw [oR_eq h] at hR
  exact hR ls (lv_sub hl [1, 0] rfl)

theorem j_He_sweep_j113 {X : Cx} {q : PL} (g : Gd X y_He_sweep b_He_sweep 3 none 1 25 R_He) {o : ((Int32) ⊕ ((Unit))) × S1} (hR : (Sum.elim (fun y : Int32 => ∀ ls : Array Slot, lv_has ls 3 [(0, .ref (q.1 111 0)), (1, .int y)] → WW X q o.2 2 ls []) (fun y : Unit => ∀ ls : Array Slot, lv_has ls 3 [] → WW X q o.2 154 ls []) o.1)) (l1 : Int32) (l2 : Int32) (s : S1) (hp0 : prs s 145 l2) (ls : Array Slot) (hl : lv_has ls 3 [(0, .ref (q.1 111 0)), (1, .int l1), (2, .ref (q.1 145 l2))]) (h : M_He_sweep_j113 l1 l2 s = some o) : WW X q s 113 ls [] := by
  unfold M_He_sweep_j113 at h
  refine ww_aload_n (pc := 113) g.1 d_He_sweep_113 rfl (lv_at hl 2 rfl) ?_
  refine ww_iconst (pc := 114) g.1 (v := 0) d_He_sweep_114 (by decide) ?_
  refine ww_pI (pc := 115) g (k := 0) cl_Tg hp0 (by decide) (Or.inl kw_747) rfl (f := 18560) rfl rfl rfl rfl d_He_sweep_115 h fun s hs h => ?_
  have hp0 : prs s 145 l2 := prs_kI (r := 145) (k := 0) (by decide) hs hp0
  refine ww_aload_n (pc := 118) g.1 d_He_sweep_118 rfl (lv_at hl 0 rfl) ?_
  refine ww_gR (pc := 119) g (k := 2) cl_He (pz rfl (by decide)) (by decide) (Or.inl kw_786) (f := 14210) (t := 113) rfl rfl rfl d_He_sweep_119 ?_
  refine ww_aload_n (pc := 122) g.1 d_He_sweep_122 rfl (lv_at hl 0 rfl) ?_
  refine ww_gI (pc := 123) g (k := 3) cl_He (pz rfl (by decide)) (by decide) (Or.inl kw_703) (f := 14211) rfl rfl d_He_sweep_123 h fun v123 h => ?_
  refine ww_iload_n (pc := 126) g.1 d_He_sweep_126 rfl (lv_at hl 1 rfl) ?_
  refine ww_si (pc := 127) g (pz rfl (by decide)) rfl rfl d_He_sweep_127 h fun s hs h => ?_
  have hp0 : prs s 145 l2 := hs ▸ hp0
  refine ww_aload_n (pc := 128) g.1 d_He_sweep_128 rfl (lv_at hl 0 rfl) ?_
  refine ww_dup (pc := 129) g.1 d_He_sweep_129 rfl ?_
  refine ww_gI (pc := 130) g (k := 3) cl_He (pz rfl (by decide)) (by decide) (Or.inl kw_703) (f := 14211) rfl rfl d_He_sweep_130 h fun v130 h => ?_
  refine ww_iconst (pc := 133) g.1 (v := 1) d_He_sweep_133 (by decide) ?_
  refine ww_iadd (pc := 134) g.1 d_He_sweep_134 ?_
  refine ww_pI (pc := 135) g (k := 3) cl_He (pz rfl (by decide)) (by decide) (Or.inl kw_703) rfl (f := 14211) rfl rfl rfl rfl d_He_sweep_135 h fun s hs h => ?_
  have hp0 : prs s 145 l2 := prs_kI (r := 111) (k := 3) (by decide) hs hp0
  refine ww_aload_n (pc := 138) g.1 d_He_sweep_138 rfl (lv_at hl 0 rfl) ?_
  refine ww_gR (pc := 139) g (k := 4) cl_He (pz rfl (by decide)) (by decide) (Or.inl kw_704) (f := 14212) (t := 114) rfl rfl rfl d_He_sweep_139 ?_
  refine ww_iconst (pc := 142) g.1 (v := 3) d_He_sweep_142 (by decide) ?_
  refine ww_dup2_11 (pc := 143) g.1 d_He_sweep_143 rfl rfl ?_
  refine ww_ai (pc := 144) g (pz rfl (by decide)) rfl rfl d_He_sweep_144 h fun v144 h => ?_
  refine ww_iconst (pc := 145) g.1 (v := 1) d_He_sweep_145 (by decide) ?_
  refine ww_isub (pc := 146) g.1 d_He_sweep_146 ?_
  refine ww_si (pc := 147) g (pz rfl (by decide)) rfl rfl d_He_sweep_147 h fun s hs h => ?_
  have hp0 : prs s 145 l2 := hs ▸ hp0
  exact j_He_sweep_j148 g hR l1 s ls (lv_sub hl [0, 1] rfl) h

theorem lp_He_sweep_L2 {X : Cx} {q : PL} (g : Gd X y_He_sweep b_He_sweep 3 none 1 25 R_He) (x : Int32) (s : S1) (o : ((Int32) ⊕ ((Unit))) × S1) (h : M_He_sweep_L2 x s = some o) (hR : (Sum.elim (fun y : Int32 => ∀ ls : Array Slot, lv_has ls 3 [(0, .ref (q.1 111 0)), (1, .int y)] → WW X q o.2 2 ls []) (fun y : Unit => ∀ ls : Array Slot, lv_has ls 3 [] → WW X q o.2 154 ls []) o.1)) : ∀ ls : Array Slot, lv_has ls 3 [(0, .ref (q.1 111 0)), (1, .int x)] → WW X q s 2 ls [] := by
  intro ls hl
  unfold M_He_sweep_L2 at h
  refine ww_iload_n (pc := 2) g.1 d_He_sweep_2 rfl (lv_at hl 1 rfl) ?_
  refine ww_aload_n (pc := 3) g.1 d_He_sweep_3 rfl (lv_at hl 0 rfl) ?_
  refine ww_gI (pc := 4) g (k := 1) cl_He (pz rfl (by decide)) (by decide) (Or.inl kw_702) (f := 14209) rfl rfl d_He_sweep_4 h fun v4 h => ?_
  refine ww_icmp_ge (pc := 7) (tgt := 154) g.1 d_He_sweep_7 (by decide) h (fun c h => ?_) (fun c h => ?_)
  · rw [oR_eq h] at hR
    exact hR ls (lv_sub hl [] rfl)
  · refine ww_aload_n (pc := 10) g.1 d_He_sweep_10 rfl (lv_at hl 0 rfl) ?_
    refine ww_gR (pc := 11) g (k := 0) cl_He (pz rfl (by decide)) (by decide) (Or.inl kw_725) (f := 14208) (t := 112) rfl rfl rfl d_He_sweep_11 ?_
    refine ww_iload_n (pc := 14) g.1 d_He_sweep_14 rfl (lv_at hl 1 rfl) ?_
    refine ww_a8 (pc := 15) g (t := 145) (n := 4000) (pz rfl (by decide)) rfl rfl rfl rfl d_He_sweep_15 h fun pa15 h => ?_
    refine ww_astore_n (pc := 16) (i := 2) g.1 (lv' := [(2, .ref (q.1 145 x)), (0, .ref (q.1 111 0)), (1, .int x)]) d_He_sweep_16 rfl hl (by decide) rfl fun ls hl => ?_
    refine ww_aload_n (pc := 17) g.1 d_He_sweep_17 rfl (lv_at hl 0 rfl) ?_
    refine ww_gI (pc := 18) g (k := 0) cl_Tg pa15 (by decide) (Or.inl kw_747) (f := 18560) rfl rfl d_He_sweep_18 h fun v18 h => ?_
    refine ww_if_eq (pc := 21) (tgt := 148) g.1 d_He_sweep_21 (by decide) h (fun c h => ?_) (fun c h => ?_)
    · exact j_He_sweep_j148 g hR x s ls (lv_sub hl [1, 2] rfl) h
    · refine ww_aload_n (pc := 24) g.1 d_He_sweep_24 rfl (lv_at hl 0 rfl) ?_
      refine ww_gI (pc := 25) g (k := 2) cl_Tg pa15 (by decide) (Or.inl kw_726) (f := 18562) rfl rfl d_He_sweep_25 h fun v25 h => ?_
      refine ww_if_ne (pc := 28) (tgt := 148) g.1 d_He_sweep_28 (by decide) h (fun c h => ?_) (fun c h => ?_)
      · exact j_He_sweep_j148 g hR x s ls (lv_sub hl [1, 2] rfl) h
      · refine ww_aload_n (pc := 31) g.1 d_He_sweep_31 rfl (lv_at hl 0 rfl) ?_
        refine ww_gI (pc := 32) g (k := 0) cl_Tg pa15 (by decide) (Or.inl kw_747) (f := 18560) rfl rfl d_He_sweep_32 h fun v32 h => ?_
        refine ww_iconst (pc := 35) g.1 (v := 4) d_He_sweep_35 (by decide) ?_
        refine ww_icmp_ne (pc := 36) (tgt := 47) g.1 d_He_sweep_36 (by decide) h (fun c h => ?_) (fun c h => ?_)
        · refine ww_aload_n (pc := 47) g.1 d_He_sweep_47 rfl (lv_at hl 0 rfl) ?_
          refine ww_gI (pc := 48) g (k := 0) cl_Tg pa15 (by decide) (Or.inl kw_747) (f := 18560) rfl rfl d_He_sweep_48 h fun v48 h => ?_
          refine ww_iconst (pc := 51) g.1 (v := 5) d_He_sweep_51 (by decide) ?_
          refine ww_icmp_ne (pc := 52) (tgt := 66) g.1 d_He_sweep_52 (by decide) h (fun c h => ?_) (fun c h => ?_)
          · refine ww_aload_n (pc := 66) g.1 d_He_sweep_66 rfl (lv_at hl 0 rfl) ?_
            refine ww_gI (pc := 67) g (k := 0) cl_Tg pa15 (by decide) (Or.inl kw_747) (f := 18560) rfl rfl d_He_sweep_67 h fun v67 h => ?_
            refine ww_bipush (pc := 70) g.1 (v := 7) d_He_sweep_70 (by decide) ?_
            refine ww_icmp_ne (pc := 72) (tgt := 113) g.1 d_He_sweep_72 (by decide) h (fun c h => ?_) (fun c h => ?_)
            · exact j_He_sweep_j113 g hR x x s pa15 ls (lv_sub hl [1, 2, 0] rfl) h
            · refine ww_aload_n (pc := 75) g.1 d_He_sweep_75 rfl (lv_at hl 1 rfl) ?_
              refine ww_aload_n (pc := 76) g.1 d_He_sweep_76 rfl (lv_at hl 1 rfl) ?_
              refine ww_gR (pc := 77) g (k := 6) cl_He (pz rfl (by decide)) (by decide) (Or.inl kw_708) (f := 14214) (t := 116) rfl rfl rfl d_He_sweep_77 ?_
              refine ww_aload_n (pc := 80) g.1 d_He_sweep_80 rfl (lv_at hl 0 rfl) ?_
              refine ww_gI (pc := 81) g (k := 4) cl_Tg pa15 (by decide) (Or.inl kw_759) (f := 18564) rfl rfl d_He_sweep_81 h fun v81 h => ?_
              refine ww_a8 (pc := 84) g (t := 148) (n := 32) (pz rfl (by decide)) rfl rfl rfl rfl d_He_sweep_84 h fun pa84 h => ?_
              refine ww_iconst (pc := 85) g.1 (v := 0) d_He_sweep_85 (by decide) ?_
              refine ww_lo fun dlo => ?_
              obtain ⟨v86, s, hc86, h⟩ := oB_of h
              refine ww_callV (pc := 86) (rest := []) g cv_He_closeFrom (Or.inl kw_1071) cl_He (pz rfl (by decide)) (ct_He_closeFrom pa84 hc86) ⟨by decide, by decide⟩ rfl hl.1 (Nat.le_of_ble_eq_true rfl) d_He_sweep_86 rfl (?_)
              refine ww_st (st' := []) rfl ?_
              refine ww_hi fun dhi => ?_
              have pa15 : prs s 145 x := dhi _ _ pa15.2.1 pa15.2.2 (dlo _ _ pa15)
              refine ww_aload_n (pc := 89) g.1 d_He_sweep_89 rfl (lv_at hl 1 rfl) ?_
              refine ww_gR (pc := 90) g (k := 6) cl_He (pz rfl (by decide)) (by decide) (Or.inl kw_708) (f := 14214) (t := 116) rfl rfl rfl d_He_sweep_90 ?_
              refine ww_aload_n (pc := 93) g.1 d_He_sweep_93 rfl (lv_at hl 0 rfl) ?_
              refine ww_gI (pc := 94) g (k := 4) cl_Tg pa15 (by decide) (Or.inl kw_759) (f := 18564) rfl rfl d_He_sweep_94 h fun v94 h => ?_
              refine ww_a8 (pc := 97) g (t := 148) (n := 32) (pz rfl (by decide)) rfl rfl rfl rfl d_He_sweep_97 h fun pa97 h => ?_
              refine ww_iconst (pc := 98) g.1 (v := (-1)) d_He_sweep_98 (by decide) ?_
              refine ww_pI (pc := 99) g (k := 6) cl_Co pa97 (by decide) (Or.inl kw_709) rfl (f := 18950) rfl rfl rfl rfl d_He_sweep_99 h fun s hs h => ?_
              have pa15 : prs s 145 x := prs_kI (r := 148) (k := 6) (by decide) hs pa15
              refine ww_aload_n (pc := 102) g.1 d_He_sweep_102 rfl (lv_at hl 1 rfl) ?_
              refine ww_gR (pc := 103) g (k := 4) cl_He (pz rfl (by decide)) (by decide) (Or.inl kw_704) (f := 14212) (t := 114) rfl rfl rfl d_He_sweep_103 ?_
              refine ww_bipush (pc := 106) g.1 (v := 11) d_He_sweep_106 (by decide) ?_
              refine ww_dup2_11 (pc := 108) g.1 d_He_sweep_108 rfl rfl ?_
              refine ww_ai (pc := 109) g (pz rfl (by decide)) rfl rfl d_He_sweep_109 h fun v109 h => ?_
              refine ww_iconst (pc := 110) g.1 (v := 1) d_He_sweep_110 (by decide) ?_
              refine ww_isub (pc := 111) g.1 d_He_sweep_111 ?_
              refine ww_si (pc := 112) g (pz rfl (by decide)) rfl rfl d_He_sweep_112 h fun s hs h => ?_
              have pa15 : prs s 145 x := hs ▸ pa15
              exact j_He_sweep_j113 g hR x x s pa15 ls (lv_sub hl [1, 2, 0] rfl) h
          · refine ww_aload_n (pc := 55) g.1 d_He_sweep_55 rfl (lv_at hl 1 rfl) ?_
            refine ww_gR (pc := 56) g (k := 14) cl_He (pz rfl (by decide)) (by decide) (Or.inl kw_751) (f := 14222) (t := 120) rfl rfl rfl d_He_sweep_56 ?_
            refine ww_aload_n (pc := 59) g.1 d_He_sweep_59 rfl (lv_at hl 0 rfl) ?_
            refine ww_lo fun dlo => ?_
            obtain ⟨v60, s, hc60, h⟩ := oB_of h
            refine ww_callV (pc := 60) (rest := []) g cv_Ta_release (Or.inl kw_1072) cl_Ta (pz rfl (by decide)) (ct_Ta_release pa15 hc60) ⟨by decide, by decide⟩ rfl hl.1 (Nat.le_of_ble_eq_true rfl) d_He_sweep_60 rfl (?_)
            refine ww_st (st' := []) rfl ?_
            refine ww_hi fun dhi => ?_
            have pa15 : prs s 145 x := dhi _ _ pa15.2.1 pa15.2.2 (dlo _ _ pa15)
            refine ww_goto (pc := 63) (tgt := 113) g.1 d_He_sweep_63 (by decide) ?_
            exact j_He_sweep_j113 g hR x x s pa15 ls (lv_sub hl [1, 2, 0] rfl) h
        · refine ww_aload_n (pc := 39) g.1 d_He_sweep_39 rfl (lv_at hl 1 rfl) ?_
          refine ww_iload_n (pc := 40) g.1 d_He_sweep_40 rfl (lv_at hl 2 rfl) ?_
          refine ww_lo fun dlo => ?_
          obtain ⟨v41, s, hc41, h⟩ := oB_of h
          refine ww_callV (pc := 41) (rest := []) g cv_He_dropFromBucket (Or.inl kw_1073) cl_He (pz rfl (by decide)) (ct_He_dropFromBucket hc41) ⟨by decide, by decide⟩ rfl hl.1 (Nat.le_of_ble_eq_true rfl) d_He_sweep_41 rfl (?_)
          refine ww_st (st' := []) rfl ?_
          refine ww_hi fun dhi => ?_
          have pa15 : prs s 145 x := dhi _ _ pa15.2.1 pa15.2.2 (dlo _ _ pa15)
          refine ww_goto (pc := 44) (tgt := 113) g.1 d_He_sweep_44 (by decide) ?_
          exact j_He_sweep_j113 g hR x x s pa15 ls (lv_sub hl [1, 2, 0] rfl) h

theorem ct_He_sweep {l : Launch} {P : PP} {q : PL} {s s' : S1}  {r : Unit} (h : M_He_sweep s = some (r, s')) : Ct l y_He_sweep b_He_sweep 3 none 1 25 P q s [.ref (q.1 111 0)] none q s' := by
  refine ct_of (by decide) (Nat.le_of_ble_eq_true rfl) fun X ls eP el g hR hl => ?_
  subst eP
  have hR : Rt X q ((r, s') : Unit × S1).2 none := hR
  have hl : lv_has ls 3 [(0, .ref (q.1 111 0))] := hl
  generalize (r, s') = o at h hR
  unfold M_He_sweep at h
  refine ww_iconst (pc := 0) g.1 (v := 0) d_He_sweep_0 (by decide) ?_
  refine ww_istore_n (pc := 1) (i := 1) g.1 (lv' := [(1, .int 0), (0, .ref (q.1 111 0))]) d_He_sweep_1 rfl hl (by decide) rfl fun ls hl => ?_
  obtain ⟨e2, s1, hw, h⟩ := oB_of h
  refine oW_rule (Wh := fun (x : Int32) (s : S1) => ∀ ls : Array Slot, lv_has ls 3 [(0, .ref (q.1 111 0)), (1, .int x)] → WW X q s 2 ls []) (We := fun (e : (Unit)) (s : S1) => ∀ ls : Array Slot, lv_has ls 3 [] → WW X q s 154 ls []) (fun x s o hb hc => lp_He_sweep_L2 (q := q) g x s o hb hc) hw ?_ ls (lv_sub hl [1, 0] rfl)
  clear hw hl
  clear ls
  intro ls hl
  generalize s1 = s at h ⊢
  exact ww_vretH (pc := 154) g h hR d_He_sweep_154

abbrev b_Ta_find : ByteArray := prog_11_method_5_code
def y_Ta_find : MethodName := ⟨R_Ta, "find", "(IIJ)I"⟩
abbrev w_Ta_find : List Cond := .code y_Ta_find b_Ta_find 9 (some .int) :: wA
theorem k_Ta_find : Cond.code y_Ta_find b_Ta_find 9 (some .int) ∈ wA := kinm (show _ ∈ tables_1 from (List.mem_append_right _ (List.mem_append_right _ (List.mem_append_right _ (List.mem_append_right _ (List.mem_append_right _ (List.mem_append_left _ (List.mem_of_getElem? (l := tables_1_6) (i := 40) (by decide +kernel))))))))) (by decide +kernel)
theorem d_Ta_find_0 : decode b_Ta_find 0 = .ok (.aload_n 0, 1) := by decide +kernel
theorem d_Ta_find_1 : decode b_Ta_find 1 = .ok (.getfield 36, 3) := by decide +kernel
theorem d_Ta_find_4 : decode b_Ta_find 4 = .ok (.getfield 50, 3) := by decide +kernel
theorem d_Ta_find_7 : decode b_Ta_find 7 = .ok (.iload_n 1, 1) := by decide +kernel
theorem d_Ta_find_8 : decode b_Ta_find 8 = .ok (.aaload, 1) := by decide +kernel
theorem d_Ta_find_9 : decode b_Ta_find 9 = .ok (.astore 5, 2) := by decide +kernel
theorem d_Ta_find_11 : decode b_Ta_find 11 = .ok (.aload 5, 2) := by decide +kernel
theorem d_Ta_find_13 : decode b_Ta_find 13 = .ok (.getfield 59, 3) := by decide +kernel
theorem d_Ta_find_16 : decode b_Ta_find 16 = .ok (.ifCond .ne 5, 3) := by decide +kernel
theorem d_Ta_find_19 : decode b_Ta_find 19 = .ok (.iconst (-1), 1) := by decide +kernel
theorem d_Ta_find_20 : decode b_Ta_find 20 = .ok (.ireturn, 1) := by decide +kernel
theorem d_Ta_find_21 : decode b_Ta_find 21 = .ok (.aload_n 0, 1) := by decide +kernel
theorem d_Ta_find_22 : decode b_Ta_find 22 = .ok (.getfield 26, 3) := by decide +kernel
theorem d_Ta_find_25 : decode b_Ta_find 25 = .ok (.aload 5, 2) := by decide +kernel
theorem d_Ta_find_27 : decode b_Ta_find 27 = .ok (.getfield 54, 3) := by decide +kernel
theorem d_Ta_find_30 : decode b_Ta_find 30 = .ok (.iload_n 2, 1) := by decide +kernel
theorem d_Ta_find_31 : decode b_Ta_find 31 = .ok (.lload_n 3, 1) := by decide +kernel
theorem d_Ta_find_32 : decode b_Ta_find 32 = .ok (.aload 5, 2) := by decide +kernel
theorem d_Ta_find_34 : decode b_Ta_find 34 = .ok (.getfield 59, 3) := by decide +kernel
theorem d_Ta_find_37 : decode b_Ta_find 37 = .ok (.invokestatic 75, 3) := by decide +kernel
theorem d_Ta_find_40 : decode b_Ta_find 40 = .ok (.iadd, 1) := by decide +kernel
theorem d_Ta_find_41 : decode b_Ta_find 41 = .ok (.iaload, 1) := by decide +kernel
theorem d_Ta_find_42 : decode b_Ta_find 42 = .ok (.istore 6, 2) := by decide +kernel
theorem d_Ta_find_44 : decode b_Ta_find 44 = .ok (.iconst 0, 1) := by decide +kernel
theorem d_Ta_find_45 : decode b_Ta_find 45 = .ok (.istore 7, 2) := by decide +kernel
theorem d_Ta_find_47 : decode b_Ta_find 47 = .ok (.iload 6, 2) := by decide +kernel
theorem d_Ta_find_49 : decode b_Ta_find 49 = .ok (.ifCond .lt 64, 3) := by decide +kernel
theorem d_Ta_find_52 : decode b_Ta_find 52 = .ok (.iload 7, 2) := by decide +kernel
theorem d_Ta_find_54 : decode b_Ta_find 54 = .ok (.aload 5, 2) := by decide +kernel
theorem d_Ta_find_56 : decode b_Ta_find 56 = .ok (.getfield 59, 3) := by decide +kernel
theorem d_Ta_find_59 : decode b_Ta_find 59 = .ok (.if_icmp .ge 54, 3) := by decide +kernel
theorem d_Ta_find_62 : decode b_Ta_find 62 = .ok (.aload 5, 2) := by decide +kernel
theorem d_Ta_find_64 : decode b_Ta_find 64 = .ok (.getfield 54, 3) := by decide +kernel
theorem d_Ta_find_67 : decode b_Ta_find 67 = .ok (.iload 6, 2) := by decide +kernel
theorem d_Ta_find_69 : decode b_Ta_find 69 = .ok (.iadd, 1) := by decide +kernel
theorem d_Ta_find_70 : decode b_Ta_find 70 = .ok (.istore 8, 2) := by decide +kernel
theorem d_Ta_find_72 : decode b_Ta_find 72 = .ok (.aload_n 0, 1) := by decide +kernel
theorem d_Ta_find_73 : decode b_Ta_find 73 = .ok (.getfield 16, 3) := by decide +kernel
theorem d_Ta_find_76 : decode b_Ta_find 76 = .ok (.iload 8, 2) := by decide +kernel
theorem d_Ta_find_78 : decode b_Ta_find 78 = .ok (.laload, 1) := by decide +kernel
theorem d_Ta_find_79 : decode b_Ta_find 79 = .ok (.lload_n 3, 1) := by decide +kernel
theorem d_Ta_find_80 : decode b_Ta_find 80 = .ok (.lcmp, 1) := by decide +kernel
theorem d_Ta_find_81 : decode b_Ta_find 81 = .ok (.ifCond .ne 17, 3) := by decide +kernel
theorem d_Ta_find_84 : decode b_Ta_find 84 = .ok (.aload_n 0, 1) := by decide +kernel
theorem d_Ta_find_85 : decode b_Ta_find 85 = .ok (.getfield 10, 3) := by decide +kernel
theorem d_Ta_find_88 : decode b_Ta_find 88 = .ok (.iload 8, 2) := by decide +kernel
theorem d_Ta_find_90 : decode b_Ta_find 90 = .ok (.baload, 1) := by decide +kernel
theorem d_Ta_find_91 : decode b_Ta_find 91 = .ok (.iload_n 2, 1) := by decide +kernel
theorem d_Ta_find_92 : decode b_Ta_find 92 = .ok (.if_icmp .ne 6, 3) := by decide +kernel
theorem d_Ta_find_95 : decode b_Ta_find 95 = .ok (.iload 8, 2) := by decide +kernel
theorem d_Ta_find_97 : decode b_Ta_find 97 = .ok (.ireturn, 1) := by decide +kernel
theorem d_Ta_find_98 : decode b_Ta_find 98 = .ok (.aload_n 0, 1) := by decide +kernel
theorem d_Ta_find_99 : decode b_Ta_find 99 = .ok (.getfield 30, 3) := by decide +kernel
theorem d_Ta_find_102 : decode b_Ta_find 102 = .ok (.iload 8, 2) := by decide +kernel
theorem d_Ta_find_104 : decode b_Ta_find 104 = .ok (.iaload, 1) := by decide +kernel
theorem d_Ta_find_105 : decode b_Ta_find 105 = .ok (.istore 6, 2) := by decide +kernel
theorem d_Ta_find_107 : decode b_Ta_find 107 = .ok (.iinc 7 1, 3) := by decide +kernel
theorem d_Ta_find_110 : decode b_Ta_find 110 = .ok (.goto (-63), 3) := by decide +kernel
theorem d_Ta_find_113 : decode b_Ta_find 113 = .ok (.iconst (-1), 1) := by decide +kernel
theorem d_Ta_find_114 : decode b_Ta_find 114 = .ok (.ireturn, 1) := by decide +kernel
theorem kw_1076 : Cond.instanceMethod y_Ta_find ∈ wA := kinm (show _ ∈ tables_1 from (List.mem_append_right _ (List.mem_append_right _ (List.mem_append_right _ (List.mem_append_right _ (List.mem_append_right _ (List.mem_append_left _ (List.mem_of_getElem? (l := tables_1_6) (i := 38) (by decide +kernel))))))))) (by decide +kernel)
theorem kw_1077 : Cond.selects R_Ta y_Ta_find y_Ta_find ∈ wA := kinm (show _ ∈ tables_1 from (List.mem_append_right _ (List.mem_append_right _ (List.mem_append_right _ (List.mem_append_right _ (List.mem_append_right _ (List.mem_append_left _ (List.mem_of_getElem? (l := tables_1_6) (i := 39) (by decide +kernel))))))))) (by decide +kernel)
theorem cv_Ta_find : CV y_Ta_find b_Ta_find 9 (some .int) 3 := ⟨kw_1076, kw_1077, kw_717, k_Ta_find, by decide +kernel⟩
theorem j_Ta_find_j98 {X : Cx} {q : PL} (g : Gd X y_Ta_find b_Ta_find 9 (some .int) 1 23 R_Ta) {o : ((Int32 × Int64 × Int32 × Int32 × Int32) ⊕ ((Int32) ⊕ (Unit))) × S1} (hR : (Sum.elim (fun y : Int32 × Int64 × Int32 × Int32 × Int32 => ∀ ls : Array Slot, (prs o.2 145 y.2.2.1) → lv_has ls 9 [(0, .ref (q.1 120 0)), (2, .int y.1), (3, .long y.2.1), (5, .ref (q.1 145 y.2.2.1)), (6, .int y.2.2.2.1), (7, .int y.2.2.2.2)] → WW X q o.2 47 ls []) (Sum.elim (fun y : Int32 => ∀ ls : Array Slot, lv_has ls 9 [(8, .int y)] → WW X q o.2 95 ls []) (fun y : Unit => ∀ ls : Array Slot, lv_has ls 9 [] → WW X q o.2 113 ls [])) o.1)) (l2 : Int32) (l3 : Int64) (l5 : Int32) (l7 : Int32) (l8 : Int32) (s : S1) (hp0 : prs s 145 l5) (ls : Array Slot) (hl : lv_has ls 9 [(0, .ref (q.1 120 0)), (2, .int l2), (3, .long l3), (5, .ref (q.1 145 l5)), (7, .int l7), (8, .int l8)]) (h : M_Ta_find_j98 l2 l3 l5 l7 l8 s = some o) : WW X q s 98 ls [] := by
  unfold M_Ta_find_j98 at h
  refine ww_aload_n (pc := 98) g.1 d_Ta_find_98 rfl (lv_at hl 0 rfl) ?_
  refine ww_gR (pc := 99) g (k := 5) cl_Ta (pz rfl (by decide)) (by decide) (Or.inl kw_799) (f := 15365) (t := 126) rfl rfl rfl d_Ta_find_99 ?_
  refine ww_iload (pc := 102) g.1 d_Ta_find_102 (lv_at hl 5 rfl) ?_
  refine ww_ai (pc := 104) g (pz rfl (by decide)) rfl rfl d_Ta_find_104 h fun v104 h => ?_
  refine ww_istore (pc := 105) (i := 6) g.1 (lv' := [(6, .int v104), (0, .ref (q.1 120 0)), (2, .int l2), (3, .long l3), (5, .ref (q.1 145 l5)), (7, .int l7), (8, .int l8)]) d_Ta_find_105 hl (by decide) rfl fun ls hl => ?_
  refine ww_iinc (pc := 107) g.1 (v := l7 + 1) (lv' := [(7, .int (l7 + 1)), (6, .int v104), (0, .ref (q.1 120 0)), (2, .int l2), (3, .long l3), (5, .ref (q.1 145 l5)), (8, .int l8)]) d_Ta_find_107 hl (k := 5) rfl (by rfl) (by decide) rfl fun ls hl => ?_
  refine ww_goto (pc := 110) (tgt := 47) g.1 d_Ta_find_110 (by decide) ?_
  rw [oR_eq h] at hR
  exact hR ls hp0 (lv_sub hl [2, 3, 4, 5, 1, 0] rfl)

theorem lp_Ta_find_L47 {X : Cx} {q : PL} (g : Gd X y_Ta_find b_Ta_find 9 (some .int) 1 23 R_Ta) (x : Int32 × Int64 × Int32 × Int32 × Int32) (s : S1) (o : ((Int32 × Int64 × Int32 × Int32 × Int32) ⊕ ((Int32) ⊕ (Unit))) × S1) (h : M_Ta_find_L47 x s = some o) (hR : (Sum.elim (fun y : Int32 × Int64 × Int32 × Int32 × Int32 => ∀ ls : Array Slot, (prs o.2 145 y.2.2.1) → lv_has ls 9 [(0, .ref (q.1 120 0)), (2, .int y.1), (3, .long y.2.1), (5, .ref (q.1 145 y.2.2.1)), (6, .int y.2.2.2.1), (7, .int y.2.2.2.2)] → WW X q o.2 47 ls []) (Sum.elim (fun y : Int32 => ∀ ls : Array Slot, lv_has ls 9 [(8, .int y)] → WW X q o.2 95 ls []) (fun y : Unit => ∀ ls : Array Slot, lv_has ls 9 [] → WW X q o.2 113 ls [])) o.1)) : ∀ ls : Array Slot, (prs s 145 x.2.2.1) → lv_has ls 9 [(0, .ref (q.1 120 0)), (2, .int x.1), (3, .long x.2.1), (5, .ref (q.1 145 x.2.2.1)), (6, .int x.2.2.2.1), (7, .int x.2.2.2.2)] → WW X q s 47 ls [] := by
  intro ls hp0 hl
  unfold M_Ta_find_L47 at h
  refine ww_iload (pc := 47) g.1 d_Ta_find_47 (lv_at hl 4 rfl) ?_
  refine ww_if_lt (pc := 49) (tgt := 113) g.1 d_Ta_find_49 (by decide) h (fun c h => ?_) (fun c h => ?_)
  · rw [oR_eq h] at hR
    exact hR ls (lv_sub hl [] rfl)
  · refine ww_iload (pc := 52) g.1 d_Ta_find_52 (lv_at hl 5 rfl) ?_
    refine ww_aload (pc := 54) g.1 d_Ta_find_54 (lv_at hl 3 rfl) ?_
    refine ww_gI (pc := 56) g (k := 12) cl_Tg hp0 (by decide) (Or.inl kw_769) (f := 18572) rfl rfl d_Ta_find_56 h fun v56 h => ?_
    refine ww_icmp_ge (pc := 59) (tgt := 113) g.1 d_Ta_find_59 (by decide) h (fun c h => ?_) (fun c h => ?_)
    · rw [oR_eq h] at hR
      exact hR ls (lv_sub hl [] rfl)
    · refine ww_aload (pc := 62) g.1 d_Ta_find_62 (lv_at hl 3 rfl) ?_
      refine ww_gI (pc := 64) g (k := 11) cl_Tg hp0 (by decide) (Or.inl kw_771) (f := 18571) rfl rfl d_Ta_find_64 h fun v64 h => ?_
      refine ww_iload (pc := 67) g.1 d_Ta_find_67 (lv_at hl 4 rfl) ?_
      refine ww_iadd (pc := 69) g.1 d_Ta_find_69 ?_
      refine ww_leti h fun l8_70 h => ?_
      refine ww_istore (pc := 70) (i := 8) g.1 (lv' := [(8, .int l8_70), (0, .ref (q.1 120 0)), (2, .int x.1), (3, .long x.2.1), (5, .ref (q.1 145 x.2.2.1)), (6, .int x.2.2.2.1), (7, .int x.2.2.2.2)]) d_Ta_find_70 hl (by decide) rfl fun ls hl => ?_
      refine ww_aload_n (pc := 72) g.1 d_Ta_find_72 rfl (lv_at hl 1 rfl) ?_
      refine ww_gR (pc := 73) g (k := 1) cl_Ta (pz rfl (by decide)) (by decide) (Or.inl kw_796) (f := 15361) (t := 122) rfl rfl rfl d_Ta_find_73 ?_
      refine ww_iload (pc := 76) g.1 d_Ta_find_76 (lv_at hl 0 rfl) ?_
      refine ww_al (pc := 78) g (pz rfl (by decide)) rfl rfl d_Ta_find_78 h fun v78 h => ?_
      refine ww_lload_n (pc := 79) g.1 d_Ta_find_79 rfl (lv_at hl 3 rfl) ?_
      refine ww_lcmp (pc := 80) g.1 d_Ta_find_80 ?_
      refine ww_if_ne (pc := 81) (tgt := 98) g.1 d_Ta_find_81 (by decide) h (fun c h => ?_) (fun c h => ?_)
      · exact j_Ta_find_j98 g hR x.1 x.2.1 x.2.2.1 x.2.2.2.2 l8_70 s hp0 ls (lv_sub hl [1, 2, 3, 4, 6, 0] rfl) h
      · refine ww_aload_n (pc := 84) g.1 d_Ta_find_84 rfl (lv_at hl 1 rfl) ?_
        refine ww_gR (pc := 85) g (k := 0) cl_Ta (pz rfl (by decide)) (by decide) (Or.inl kw_795) (f := 15360) (t := 121) rfl rfl rfl d_Ta_find_85 ?_
        refine ww_iload (pc := 88) g.1 d_Ta_find_88 (lv_at hl 0 rfl) ?_
        refine ww_ab (pc := 90) g (pz rfl (by decide)) rfl rfl d_Ta_find_90 h fun v90 h => ?_
        refine ww_iload_n (pc := 91) g.1 d_Ta_find_91 rfl (lv_at hl 2 rfl) ?_
        refine ww_icmp_ne (pc := 92) (tgt := 98) g.1 d_Ta_find_92 (by decide) h (fun c h => ?_) (fun c h => ?_)
        · exact j_Ta_find_j98 g hR x.1 x.2.1 x.2.2.1 x.2.2.2.2 l8_70 s hp0 ls (lv_sub hl [1, 2, 3, 4, 6, 0] rfl) h
        · rw [oR_eq h] at hR
          exact hR ls (lv_sub hl [0] rfl)

theorem ct_Ta_find {l : Launch} {P : PP} {q : PL} {s s' : S1} {l1 : Int32} {l2 : Int32} {l3 : Int64} {r : Int32} (h : M_Ta_find l1 l2 l3 s = some (r, s')) : Ct l y_Ta_find b_Ta_find 9 (some .int) 1 23 P q s [.ref (q.1 120 0), .int l1, .int l2, .long l3] (some (.int r)) q s' := by
  refine ct_of (by decide) (Nat.le_of_ble_eq_true rfl) fun X ls eP el g hR hl => ?_
  subst eP
  have hR : Rt X q ((r, s') : Int32 × S1).2 (some (.int ((r, s') : Int32 × S1).1)) := hR
  have hl : lv_has ls 9 [(0, .ref (q.1 120 0)), (1, .int l1), (2, .int l2), (3, .long l3)] := hl
  generalize (r, s') = o at h hR
  unfold M_Ta_find at h
  refine ww_aload_n (pc := 0) g.1 d_Ta_find_0 rfl (lv_at hl 0 rfl) ?_
  refine ww_gR (pc := 1) g (k := 8) cl_Ta (pz rfl (by decide)) (by decide) (Or.inl kw_772) (f := 15368) (t := 111) rfl rfl rfl d_Ta_find_1 ?_
  refine ww_gR (pc := 4) g (k := 0) cl_He (pz rfl (by decide)) (by decide) (Or.inl kw_804) (f := 14208) (t := 112) rfl rfl rfl d_Ta_find_4 ?_
  refine ww_iload_n (pc := 7) g.1 d_Ta_find_7 rfl (lv_at hl 1 rfl) ?_
  refine ww_a8 (pc := 8) g (t := 145) (n := 4000) (pz rfl (by decide)) rfl rfl rfl rfl d_Ta_find_8 h fun pa8 h => ?_
  refine ww_astore (pc := 9) (i := 5) g.1 (lv' := [(5, .ref (q.1 145 l1)), (0, .ref (q.1 120 0)), (1, .int l1), (2, .int l2), (3, .long l3)]) d_Ta_find_9 hl (by decide) rfl fun ls hl => ?_
  refine ww_aload (pc := 11) g.1 d_Ta_find_11 (lv_at hl 0 rfl) ?_
  refine ww_gI (pc := 13) g (k := 12) cl_Tg pa8 (by decide) (Or.inl kw_769) (f := 18572) rfl rfl d_Ta_find_13 h fun v13 h => ?_
  refine ww_if_ne (pc := 16) (tgt := 21) g.1 d_Ta_find_16 (by decide) h (fun c h => ?_) (fun c h => ?_)
  · refine ww_aload_n (pc := 21) g.1 d_Ta_find_21 rfl (lv_at hl 1 rfl) ?_
    refine ww_gR (pc := 22) g (k := 4) cl_Ta (pz rfl (by decide)) (by decide) (Or.inl kw_800) (f := 15364) (t := 125) rfl rfl rfl d_Ta_find_22 ?_
    refine ww_aload (pc := 25) g.1 d_Ta_find_25 (lv_at hl 0 rfl) ?_
    refine ww_gI (pc := 27) g (k := 11) cl_Tg pa8 (by decide) (Or.inl kw_771) (f := 18571) rfl rfl d_Ta_find_27 h fun v27 h => ?_
    refine ww_iload_n (pc := 30) g.1 d_Ta_find_30 rfl (lv_at hl 3 rfl) ?_
    refine ww_lload_n (pc := 31) g.1 d_Ta_find_31 rfl (lv_at hl 4 rfl) ?_
    refine ww_aload (pc := 32) g.1 d_Ta_find_32 (lv_at hl 0 rfl) ?_
    refine ww_gI (pc := 34) g (k := 12) cl_Tg pa8 (by decide) (Or.inl kw_769) (f := 18572) rfl rfl d_Ta_find_34 h fun v34 h => ?_
    refine ww_lo fun dlo => ?_
    obtain ⟨v37, s, hc37, h⟩ := oB_of h
    refine ww_callS (pc := 37) (rest := [.int v27, .ref (q.1 125 0)]) g cs_Ta_spread (Or.inl kw_794) (ct_Ta_spread hc37) ⟨by decide, by decide⟩ rfl hl.1 (Nat.le_of_ble_eq_true rfl) d_Ta_find_37 rfl (?_)
    refine ww_st (st' := [.int v37, .int v27, .ref (q.1 125 0)]) rfl ?_
    refine ww_hi fun dhi => ?_
    have pa8 : prs s 145 l1 := dhi _ _ pa8.2.1 pa8.2.2 (dlo _ _ pa8)
    refine ww_iadd (pc := 40) g.1 d_Ta_find_40 ?_
    refine ww_ai (pc := 41) g (pz rfl (by decide)) rfl rfl d_Ta_find_41 h fun v41 h => ?_
    refine ww_istore (pc := 42) (i := 6) g.1 (lv' := [(6, .int v41), (5, .ref (q.1 145 l1)), (0, .ref (q.1 120 0)), (1, .int l1), (2, .int l2), (3, .long l3)]) d_Ta_find_42 hl (by decide) rfl fun ls hl => ?_
    refine ww_iconst (pc := 44) g.1 (v := 0) d_Ta_find_44 (by decide) ?_
    refine ww_istore (pc := 45) (i := 7) g.1 (lv' := [(7, .int 0), (6, .int v41), (5, .ref (q.1 145 l1)), (0, .ref (q.1 120 0)), (1, .int l1), (2, .int l2), (3, .long l3)]) d_Ta_find_45 hl (by decide) rfl fun ls hl => ?_
    obtain ⟨e47, s1, hw, h⟩ := oB_of h
    refine oW_rule (Wh := fun (x : Int32 × Int64 × Int32 × Int32 × Int32) (s : S1) => ∀ ls : Array Slot, (prs s 145 x.2.2.1) → lv_has ls 9 [(0, .ref (q.1 120 0)), (2, .int x.1), (3, .long x.2.1), (5, .ref (q.1 145 x.2.2.1)), (6, .int x.2.2.2.1), (7, .int x.2.2.2.2)] → WW X q s 47 ls []) (We := fun (e : (Int32) ⊕ (Unit)) (s : S1) => (Sum.elim (fun y : Int32 => ∀ ls : Array Slot, lv_has ls 9 [(8, .int y)] → WW X q s 95 ls []) (fun y : Unit => ∀ ls : Array Slot, lv_has ls 9 [] → WW X q s 113 ls [])) e) (fun x s o hb hc => lp_Ta_find_L47 (q := q) g x s o hb hc) hw ?_ ls pa8 (lv_sub hl [3, 5, 6, 2, 1, 0] rfl)
    clear hw hl
    clear ls
    generalize s1 = s at h ⊢
    rcases e47 with y47_95 | y47_113
    · intro ls hl
      dsimp only [Sum.elim_inl, Sum.elim_inr] at h
      refine ww_iload (pc := 95) g.1 d_Ta_find_95 (lv_at hl 0 rfl) ?_
      exact ww_iretH (pc := 97) g h hR d_Ta_find_97
    · intro ls hl
      dsimp only [Sum.elim_inl, Sum.elim_inr] at h
      refine ww_iconst (pc := 113) g.1 (v := (-1)) d_Ta_find_113 (by decide) ?_
      exact ww_iretH (pc := 114) g h hR d_Ta_find_114
  · refine ww_iconst (pc := 19) g.1 (v := (-1)) d_Ta_find_19 (by decide) ?_
    exact ww_iretH (pc := 20) g h hR d_Ta_find_20

abbrev b_Ta_dropDead : ByteArray := prog_11_method_11_code
def y_Ta_dropDead : MethodName := ⟨R_Ta, "dropDead", "(LLuaMachine$Thing;)V"⟩
abbrev w_Ta_dropDead : List Cond := .code y_Ta_dropDead b_Ta_dropDead 6 none :: wA
theorem k_Ta_dropDead : Cond.code y_Ta_dropDead b_Ta_dropDead 6 none ∈ wA := kinm (show _ ∈ tables_1 from (List.mem_append_right _ (List.mem_append_right _ (List.mem_append_right _ (List.mem_append_right _ (List.mem_append_right _ (List.mem_append_left _ (List.mem_of_getElem? (l := tables_1_6) (i := 53) (by decide +kernel))))))))) (by decide +kernel)
theorem d_Ta_dropDead_0 : decode b_Ta_dropDead 0 = .ok (.aload_n 1, 1) := by decide +kernel
theorem d_Ta_dropDead_1 : decode b_Ta_dropDead 1 = .ok (.getfield 62, 3) := by decide +kernel
theorem d_Ta_dropDead_4 : decode b_Ta_dropDead 4 = .ok (.istore_n 2, 1) := by decide +kernel
theorem d_Ta_dropDead_5 : decode b_Ta_dropDead 5 = .ok (.aload_n 1, 1) := by decide +kernel
theorem d_Ta_dropDead_6 : decode b_Ta_dropDead 6 = .ok (.getfield 54, 3) := by decide +kernel
theorem d_Ta_dropDead_9 : decode b_Ta_dropDead 9 = .ok (.aload_n 1, 1) := by decide +kernel
theorem d_Ta_dropDead_10 : decode b_Ta_dropDead 10 = .ok (.getfield 59, 3) := by decide +kernel
theorem d_Ta_dropDead_13 : decode b_Ta_dropDead 13 = .ok (.iadd, 1) := by decide +kernel
theorem d_Ta_dropDead_14 : decode b_Ta_dropDead 14 = .ok (.istore_n 3, 1) := by decide +kernel
theorem d_Ta_dropDead_15 : decode b_Ta_dropDead 15 = .ok (.aload_n 0, 1) := by decide +kernel
theorem d_Ta_dropDead_16 : decode b_Ta_dropDead 16 = .ok (.getfield 26, 3) := by decide +kernel
theorem d_Ta_dropDead_19 : decode b_Ta_dropDead 19 = .ok (.aload_n 1, 1) := by decide +kernel
theorem d_Ta_dropDead_20 : decode b_Ta_dropDead 20 = .ok (.getfield 54, 3) := by decide +kernel
theorem d_Ta_dropDead_23 : decode b_Ta_dropDead 23 = .ok (.iload_n 3, 1) := by decide +kernel
theorem d_Ta_dropDead_24 : decode b_Ta_dropDead 24 = .ok (.iconst (-1), 1) := by decide +kernel
theorem d_Ta_dropDead_25 : decode b_Ta_dropDead 25 = .ok (.invokestatic 114, 3) := by decide +kernel
theorem d_Ta_dropDead_28 : decode b_Ta_dropDead 28 = .ok (.aload_n 1, 1) := by decide +kernel
theorem d_Ta_dropDead_29 : decode b_Ta_dropDead 29 = .ok (.iconst 0, 1) := by decide +kernel
theorem d_Ta_dropDead_30 : decode b_Ta_dropDead 30 = .ok (.putfield 62, 3) := by decide +kernel
theorem d_Ta_dropDead_33 : decode b_Ta_dropDead 33 = .ok (.iconst 0, 1) := by decide +kernel
theorem d_Ta_dropDead_34 : decode b_Ta_dropDead 34 = .ok (.istore 4, 2) := by decide +kernel
theorem d_Ta_dropDead_36 : decode b_Ta_dropDead 36 = .ok (.iload 4, 2) := by decide +kernel
theorem d_Ta_dropDead_38 : decode b_Ta_dropDead 38 = .ok (.iload_n 2, 1) := by decide +kernel
theorem d_Ta_dropDead_39 : decode b_Ta_dropDead 39 = .ok (.if_icmp .ge 61, 3) := by decide +kernel
theorem d_Ta_dropDead_42 : decode b_Ta_dropDead 42 = .ok (.aload_n 1, 1) := by decide +kernel
theorem d_Ta_dropDead_43 : decode b_Ta_dropDead 43 = .ok (.getfield 54, 3) := by decide +kernel
theorem d_Ta_dropDead_46 : decode b_Ta_dropDead 46 = .ok (.iload 4, 2) := by decide +kernel
theorem d_Ta_dropDead_48 : decode b_Ta_dropDead 48 = .ok (.iadd, 1) := by decide +kernel
theorem d_Ta_dropDead_49 : decode b_Ta_dropDead 49 = .ok (.istore 5, 2) := by decide +kernel
theorem d_Ta_dropDead_51 : decode b_Ta_dropDead 51 = .ok (.aload_n 0, 1) := by decide +kernel
theorem d_Ta_dropDead_52 : decode b_Ta_dropDead 52 = .ok (.getfield 20, 3) := by decide +kernel
theorem d_Ta_dropDead_55 : decode b_Ta_dropDead 55 = .ok (.iload 5, 2) := by decide +kernel
theorem d_Ta_dropDead_57 : decode b_Ta_dropDead 57 = .ok (.baload, 1) := by decide +kernel
theorem d_Ta_dropDead_58 : decode b_Ta_dropDead 58 = .ok (.ifCond .eq 36, 3) := by decide +kernel
theorem d_Ta_dropDead_61 : decode b_Ta_dropDead 61 = .ok (.aload_n 0, 1) := by decide +kernel
theorem d_Ta_dropDead_62 : decode b_Ta_dropDead 62 = .ok (.aload_n 1, 1) := by decide +kernel
theorem d_Ta_dropDead_63 : decode b_Ta_dropDead 63 = .ok (.aload_n 0, 1) := by decide +kernel
theorem d_Ta_dropDead_64 : decode b_Ta_dropDead 64 = .ok (.getfield 10, 3) := by decide +kernel
theorem d_Ta_dropDead_67 : decode b_Ta_dropDead 67 = .ok (.iload 5, 2) := by decide +kernel
theorem d_Ta_dropDead_69 : decode b_Ta_dropDead 69 = .ok (.baload, 1) := by decide +kernel
theorem d_Ta_dropDead_70 : decode b_Ta_dropDead 70 = .ok (.aload_n 0, 1) := by decide +kernel
theorem d_Ta_dropDead_71 : decode b_Ta_dropDead 71 = .ok (.getfield 16, 3) := by decide +kernel
theorem d_Ta_dropDead_74 : decode b_Ta_dropDead 74 = .ok (.iload 5, 2) := by decide +kernel
theorem d_Ta_dropDead_76 : decode b_Ta_dropDead 76 = .ok (.laload, 1) := by decide +kernel
theorem d_Ta_dropDead_77 : decode b_Ta_dropDead 77 = .ok (.aload_n 0, 1) := by decide +kernel
theorem d_Ta_dropDead_78 : decode b_Ta_dropDead 78 = .ok (.getfield 20, 3) := by decide +kernel
theorem d_Ta_dropDead_81 : decode b_Ta_dropDead 81 = .ok (.iload 5, 2) := by decide +kernel
theorem d_Ta_dropDead_83 : decode b_Ta_dropDead 83 = .ok (.baload, 1) := by decide +kernel
theorem d_Ta_dropDead_84 : decode b_Ta_dropDead 84 = .ok (.aload_n 0, 1) := by decide +kernel
theorem d_Ta_dropDead_85 : decode b_Ta_dropDead 85 = .ok (.getfield 23, 3) := by decide +kernel
theorem d_Ta_dropDead_88 : decode b_Ta_dropDead 88 = .ok (.iload 5, 2) := by decide +kernel
theorem d_Ta_dropDead_90 : decode b_Ta_dropDead 90 = .ok (.laload, 1) := by decide +kernel
theorem d_Ta_dropDead_91 : decode b_Ta_dropDead 91 = .ok (.invokevirtual 90, 3) := by decide +kernel
theorem d_Ta_dropDead_94 : decode b_Ta_dropDead 94 = .ok (.iinc 4 1, 3) := by decide +kernel
theorem d_Ta_dropDead_97 : decode b_Ta_dropDead 97 = .ok (.goto (-61), 3) := by decide +kernel
theorem d_Ta_dropDead_100 : decode b_Ta_dropDead 100 = .ok (.return_, 1) := by decide +kernel
theorem kw_1078 : Cond.methodLink R_Ta 114 y_Arr_fill_____ ∈ wA := kinm (show _ ∈ tables_1 from (List.mem_append_right _ (List.mem_append_right _ (List.mem_append_right _ (List.mem_append_right _ (List.mem_append_right _ (List.mem_append_left _ (List.mem_of_getElem? (l := tables_1_6) (i := 54) (by decide +kernel))))))))) (by decide +kernel)
theorem kw_1079 : Cond.methodLink R_Ta 90 y_Ta_append ∈ wA := kinm (show _ ∈ tables_1 from (List.mem_append_right _ (List.mem_append_right _ (List.mem_append_right _ (List.mem_append_right _ (List.mem_append_right _ (List.mem_append_left _ (List.mem_of_getElem? (l := tables_1_6) (i := 55) (by decide +kernel))))))))) (by decide +kernel)
theorem kw_1080 : Cond.instanceMethod y_Ta_dropDead ∈ wA := kinm (show _ ∈ tables_1 from (List.mem_append_right _ (List.mem_append_right _ (List.mem_append_right _ (List.mem_append_right _ (List.mem_append_right _ (List.mem_append_left _ (List.mem_of_getElem? (l := tables_1_6) (i := 52) (by decide +kernel))))))))) (by decide +kernel)
theorem kw_1081 : Cond.selects R_Ta y_Ta_dropDead y_Ta_dropDead ∈ wA := kinp 29 (by decide +kernel) (by decide +kernel)
theorem cv_Ta_dropDead : CV y_Ta_dropDead b_Ta_dropDead 6 none 1 := ⟨kw_1080, kw_1081, kw_717, k_Ta_dropDead, by decide +kernel⟩
theorem j_Ta_dropDead_j94 {X : Cx} {q : PL} (g : Gd X y_Ta_dropDead b_Ta_dropDead 6 none 2 52 R_Ta) {o : ((Int32 × Int32 × Int32) ⊕ ((Unit))) × S1} (hR : (Sum.elim (fun y : Int32 × Int32 × Int32 => ∀ ls : Array Slot, (prs o.2 145 y.1) → lv_has ls 6 [(0, .ref (q.1 120 0)), (1, .ref (q.1 145 y.1)), (2, .int y.2.1), (4, .int y.2.2)] → WW X q o.2 36 ls []) (fun y : Unit => ∀ ls : Array Slot, lv_has ls 6 [] → WW X q o.2 100 ls []) o.1)) (l1 : Int32) (l2 : Int32) (l4 : Int32) (s : S1) (hp0 : prs s 145 l1) (ls : Array Slot) (hl : lv_has ls 6 [(0, .ref (q.1 120 0)), (1, .ref (q.1 145 l1)), (2, .int l2), (4, .int l4)]) (h : M_Ta_dropDead_j94 l1 l2 l4 s = some o) : WW X q s 94 ls [] := by
  unfold M_Ta_dropDead_j94 at h
  refine ww_iinc (pc := 94) g.1 (v := l4 + 1) (lv' := [(4, .int (l4 + 1)), (0, .ref (q.1 120 0)), (1, .ref (q.1 145 l1)), (2, .int l2)]) d_Ta_dropDead_94 hl (k := 3) rfl (by rfl) (by decide) rfl fun ls hl => ?_
  refine ww_goto (pc := 97) (tgt := 36) g.1 d_Ta_dropDead_97 (by decide) ?_
  rw [oR_eq h] at hR
  exact hR ls hp0 (lv_sub hl [1, 2, 3, 0] rfl)

theorem lp_Ta_dropDead_L36 {X : Cx} {q : PL} (g : Gd X y_Ta_dropDead b_Ta_dropDead 6 none 2 52 R_Ta) (x : Int32 × Int32 × Int32) (s : S1) (o : ((Int32 × Int32 × Int32) ⊕ ((Unit))) × S1) (h : M_Ta_dropDead_L36 x s = some o) (hR : (Sum.elim (fun y : Int32 × Int32 × Int32 => ∀ ls : Array Slot, (prs o.2 145 y.1) → lv_has ls 6 [(0, .ref (q.1 120 0)), (1, .ref (q.1 145 y.1)), (2, .int y.2.1), (4, .int y.2.2)] → WW X q o.2 36 ls []) (fun y : Unit => ∀ ls : Array Slot, lv_has ls 6 [] → WW X q o.2 100 ls []) o.1)) : ∀ ls : Array Slot, (prs s 145 x.1) → lv_has ls 6 [(0, .ref (q.1 120 0)), (1, .ref (q.1 145 x.1)), (2, .int x.2.1), (4, .int x.2.2)] → WW X q s 36 ls [] := by
  intro ls hp0 hl
  unfold M_Ta_dropDead_L36 at h
  refine ww_iload (pc := 36) g.1 d_Ta_dropDead_36 (lv_at hl 3 rfl) ?_
  refine ww_iload_n (pc := 38) g.1 d_Ta_dropDead_38 rfl (lv_at hl 2 rfl) ?_
  refine ww_icmp_ge (pc := 39) (tgt := 100) g.1 d_Ta_dropDead_39 (by decide) h (fun c h => ?_) (fun c h => ?_)
  · rw [oR_eq h] at hR
    exact hR ls (lv_sub hl [] rfl)
  · refine ww_aload_n (pc := 42) g.1 d_Ta_dropDead_42 rfl (lv_at hl 1 rfl) ?_
    refine ww_gI (pc := 43) g (k := 11) cl_Tg hp0 (by decide) (Or.inl kw_771) (f := 18571) rfl rfl d_Ta_dropDead_43 h fun v43 h => ?_
    refine ww_iload (pc := 46) g.1 d_Ta_dropDead_46 (lv_at hl 3 rfl) ?_
    refine ww_iadd (pc := 48) g.1 d_Ta_dropDead_48 ?_
    refine ww_leti h fun l5_49 h => ?_
    refine ww_istore (pc := 49) (i := 5) g.1 (lv' := [(5, .int l5_49), (0, .ref (q.1 120 0)), (1, .ref (q.1 145 x.1)), (2, .int x.2.1), (4, .int x.2.2)]) d_Ta_dropDead_49 hl (by decide) rfl fun ls hl => ?_
    refine ww_aload_n (pc := 51) g.1 d_Ta_dropDead_51 rfl (lv_at hl 1 rfl) ?_
    refine ww_gR (pc := 52) g (k := 2) cl_Ta (pz rfl (by decide)) (by decide) (Or.inl kw_797) (f := 15362) (t := 123) rfl rfl rfl d_Ta_dropDead_52 ?_
    refine ww_iload (pc := 55) g.1 d_Ta_dropDead_55 (lv_at hl 0 rfl) ?_
    refine ww_ab (pc := 57) g (pz rfl (by decide)) rfl rfl d_Ta_dropDead_57 h fun v57 h => ?_
    refine ww_if_eq (pc := 58) (tgt := 94) g.1 d_Ta_dropDead_58 (by decide) h (fun c h => ?_) (fun c h => ?_)
    · exact j_Ta_dropDead_j94 g hR x.1 x.2.1 x.2.2 s hp0 ls (lv_sub hl [1, 2, 3, 4] rfl) h
    · refine ww_aload_n (pc := 61) g.1 d_Ta_dropDead_61 rfl (lv_at hl 1 rfl) ?_
      refine ww_aload_n (pc := 62) g.1 d_Ta_dropDead_62 rfl (lv_at hl 2 rfl) ?_
      refine ww_aload_n (pc := 63) g.1 d_Ta_dropDead_63 rfl (lv_at hl 1 rfl) ?_
      refine ww_gR (pc := 64) g (k := 0) cl_Ta (pz rfl (by decide)) (by decide) (Or.inl kw_795) (f := 15360) (t := 121) rfl rfl rfl d_Ta_dropDead_64 ?_
      refine ww_iload (pc := 67) g.1 d_Ta_dropDead_67 (lv_at hl 0 rfl) ?_
      refine ww_ab (pc := 69) g (pz rfl (by decide)) rfl rfl d_Ta_dropDead_69 h fun v69 h => ?_
      refine ww_aload_n (pc := 70) g.1 d_Ta_dropDead_70 rfl (lv_at hl 1 rfl) ?_
      refine ww_gR (pc := 71) g (k := 1) cl_Ta (pz rfl (by decide)) (by decide) (Or.inl kw_796) (f := 15361) (t := 122) rfl rfl rfl d_Ta_dropDead_71 ?_
      refine ww_iload (pc := 74) g.1 d_Ta_dropDead_74 (lv_at hl 0 rfl) ?_
      refine ww_al (pc := 76) g (pz rfl (by decide)) rfl rfl d_Ta_dropDead_76 h fun v76 h => ?_
      refine ww_aload_n (pc := 77) g.1 d_Ta_dropDead_77 rfl (lv_at hl 1 rfl) ?_
      refine ww_gR (pc := 78) g (k := 2) cl_Ta (pz rfl (by decide)) (by decide) (Or.inl kw_797) (f := 15362) (t := 123) rfl rfl rfl d_Ta_dropDead_78 ?_
      refine ww_iload (pc := 81) g.1 d_Ta_dropDead_81 (lv_at hl 0 rfl) ?_
      refine ww_ab (pc := 83) g (pz rfl (by decide)) rfl rfl d_Ta_dropDead_83 h fun v83 h => ?_
      refine ww_aload_n (pc := 84) g.1 d_Ta_dropDead_84 rfl (lv_at hl 1 rfl) ?_
      refine ww_gR (pc := 85) g (k := 3) cl_Ta (pz rfl (by decide)) (by decide) (Or.inl kw_798) (f := 15363) (t := 124) rfl rfl rfl d_Ta_dropDead_85 ?_
      refine ww_iload (pc := 88) g.1 d_Ta_dropDead_88 (lv_at hl 0 rfl) ?_
      refine ww_al (pc := 90) g (pz rfl (by decide)) rfl rfl d_Ta_dropDead_90 h fun v90 h => ?_
      refine ww_lo fun dlo => ?_
      obtain ⟨v91, s, hc91, h⟩ := oB_of h
      refine ww_callV (pc := 91) (rest := []) g cv_Ta_append (Or.inl kw_1079) cl_Ta (pz rfl (by decide)) (ct_Ta_append hp0 hc91) ⟨by decide, by decide⟩ rfl hl.1 (Nat.le_of_ble_eq_true rfl) d_Ta_dropDead_91 rfl (?_)
      refine ww_st (st' := []) rfl ?_
      refine ww_hi fun dhi => ?_
      have hp0 : prs s 145 x.1 := dhi _ _ hp0.2.1 hp0.2.2 (dlo _ _ hp0)
      exact j_Ta_dropDead_j94 g hR x.1 x.2.1 x.2.2 s hp0 ls (lv_sub hl [1, 2, 3, 4] rfl) h

theorem ct_Ta_dropDead {l : Launch} {P : PP} {q : PL} {s s' : S1} {l1 : Int32} (hp0 : prs s 145 l1) {r : Unit} (h : M_Ta_dropDead l1 s = some (r, s')) : Ct l y_Ta_dropDead b_Ta_dropDead 6 none 2 52 P q s [.ref (q.1 120 0), .ref (q.1 145 l1)] none q s' := by
  refine ct_of (by decide) (Nat.le_of_ble_eq_true rfl) fun X ls eP el g hR hl => ?_
  subst eP
  have hR : Rt X q ((r, s') : Unit × S1).2 none := hR
  have hl : lv_has ls 6 [(0, .ref (q.1 120 0)), (1, .ref (q.1 145 l1))] := hl
  generalize (r, s') = o at h hR
  unfold M_Ta_dropDead at h
  refine ww_aload_n (pc := 0) g.1 d_Ta_dropDead_0 rfl (lv_at hl 1 rfl) ?_
  refine ww_gI (pc := 1) g (k := 13) cl_Tg hp0 (by decide) (Or.inl kw_793) (f := 18573) rfl rfl d_Ta_dropDead_1 h fun v1 h => ?_
  refine ww_istore_n (pc := 4) (i := 2) g.1 (lv' := [(2, .int v1), (0, .ref (q.1 120 0)), (1, .ref (q.1 145 l1))]) d_Ta_dropDead_4 rfl hl (by decide) rfl fun ls hl => ?_
  refine ww_aload_n (pc := 5) g.1 d_Ta_dropDead_5 rfl (lv_at hl 2 rfl) ?_
  refine ww_gI (pc := 6) g (k := 11) cl_Tg hp0 (by decide) (Or.inl kw_771) (f := 18571) rfl rfl d_Ta_dropDead_6 h fun v6 h => ?_
  refine ww_aload_n (pc := 9) g.1 d_Ta_dropDead_9 rfl (lv_at hl 2 rfl) ?_
  refine ww_gI (pc := 10) g (k := 12) cl_Tg hp0 (by decide) (Or.inl kw_769) (f := 18572) rfl rfl d_Ta_dropDead_10 h fun v10 h => ?_
  refine ww_iadd (pc := 13) g.1 d_Ta_dropDead_13 ?_
  refine ww_leti h fun l3_14 h => ?_
  refine ww_istore_n (pc := 14) (i := 3) g.1 (lv' := [(3, .int l3_14), (2, .int v1), (0, .ref (q.1 120 0)), (1, .ref (q.1 145 l1))]) d_Ta_dropDead_14 rfl hl (by decide) rfl fun ls hl => ?_
  refine ww_aload_n (pc := 15) g.1 d_Ta_dropDead_15 rfl (lv_at hl 2 rfl) ?_
  refine ww_gR (pc := 16) g (k := 4) cl_Ta (pz rfl (by decide)) (by decide) (Or.inl kw_800) (f := 15364) (t := 125) rfl rfl rfl d_Ta_dropDead_16 ?_
  refine ww_aload_n (pc := 19) g.1 d_Ta_dropDead_19 rfl (lv_at hl 3 rfl) ?_
  refine ww_gI (pc := 20) g (k := 11) cl_Tg hp0 (by decide) (Or.inl kw_771) (f := 18571) rfl rfl d_Ta_dropDead_20 h fun v20 h => ?_
  refine ww_iload_n (pc := 23) g.1 d_Ta_dropDead_23 rfl (lv_at hl 0 rfl) ?_
  refine ww_iconst (pc := 24) g.1 (v := (-1)) d_Ta_dropDead_24 (by decide) ?_
  refine ww_lo fun dlo => ?_
  obtain ⟨v25, s, hc25, h⟩ := oB_of h
  refine ww_callS (pc := 25) (rest := []) g cs_Arr_fill_____ (Or.inl kw_1078) (ct_Arr_fill_____ ⟨rfl, by decide, by decide⟩ (pz rfl (by decide)) hc25) ⟨by decide, by decide⟩ rfl hl.1 (Nat.le_of_ble_eq_true rfl) d_Ta_dropDead_25 rfl (?_)
  refine ww_st (st' := []) rfl ?_
  refine ww_hi fun dhi => ?_
  have hp0 : prs s 145 l1 := dhi _ _ hp0.2.1 hp0.2.2 (dlo _ _ hp0)
  refine ww_aload_n (pc := 28) g.1 d_Ta_dropDead_28 rfl (lv_at hl 3 rfl) ?_
  refine ww_iconst (pc := 29) g.1 (v := 0) d_Ta_dropDead_29 (by decide) ?_
  refine ww_pI (pc := 30) g (k := 13) cl_Tg hp0 (by decide) (Or.inl kw_793) rfl (f := 18573) rfl rfl rfl rfl d_Ta_dropDead_30 h fun s hs h => ?_
  have hp0 : prs s 145 l1 := prs_kI (r := 145) (k := 13) (by decide) hs hp0
  refine ww_iconst (pc := 33) g.1 (v := 0) d_Ta_dropDead_33 (by decide) ?_
  refine ww_istore (pc := 34) (i := 4) g.1 (lv' := [(4, .int 0), (3, .int l3_14), (2, .int v1), (0, .ref (q.1 120 0)), (1, .ref (q.1 145 l1))]) d_Ta_dropDead_34 hl (by decide) rfl fun ls hl => ?_
  obtain ⟨e36, s1, hw, h⟩ := oB_of h
  refine oW_rule (Wh := fun (x : Int32 × Int32 × Int32) (s : S1) => ∀ ls : Array Slot, (prs s 145 x.1) → lv_has ls 6 [(0, .ref (q.1 120 0)), (1, .ref (q.1 145 x.1)), (2, .int x.2.1), (4, .int x.2.2)] → WW X q s 36 ls []) (We := fun (e : (Unit)) (s : S1) => ∀ ls : Array Slot, lv_has ls 6 [] → WW X q s 100 ls []) (fun x s o hb hc => lp_Ta_dropDead_L36 (q := q) g x s o hb hc) hw ?_ ls hp0 (lv_sub hl [3, 4, 2, 0] rfl)
  clear hw hl
  clear ls
  intro ls hl
  generalize s1 = s at h ⊢
  exact ww_vretH (pc := 100) g h hR d_Ta_dropDead_100

abbrev b_Ta_moveTo : ByteArray := prog_11_method_12_code
def y_Ta_moveTo : MethodName := ⟨R_Ta, "moveTo", "(II)V"⟩
abbrev w_Ta_moveTo : List Cond := .code y_Ta_moveTo b_Ta_moveTo 7 none :: wA
set_option maxRecDepth 20000 in
theorem k_Ta_moveTo : Cond.code y_Ta_moveTo b_Ta_moveTo 7 none ∈ wA := kinm (show _ ∈ tables_1 from (List.mem_append_right _ (List.mem_append_right _ (List.mem_append_right _ (List.mem_append_right _ (List.mem_append_right _ (List.mem_append_left _ (List.mem_of_getElem? (l := tables_1_6) (i := 65) rfl)))))))) rfl
theorem d_Ta_moveTo_0 : decode b_Ta_moveTo 0 = .ok (.aload_n 0, 1) := by decide +kernel
theorem d_Ta_moveTo_1 : decode b_Ta_moveTo 1 = .ok (.getfield 40, 3) := by decide +kernel
theorem d_Ta_moveTo_4 : decode b_Ta_moveTo 4 = .ok (.iload_n 2, 1) := by decide +kernel
theorem d_Ta_moveTo_5 : decode b_Ta_moveTo 5 = .ok (.iadd, 1) := by decide +kernel
theorem d_Ta_moveTo_6 : decode b_Ta_moveTo 6 = .ok (.ldc 9, 2) := by decide +kernel
theorem d_Ta_moveTo_8 : decode b_Ta_moveTo 8 = .ok (.if_icmp .le 7, 3) := by decide +kernel
theorem d_Ta_moveTo_11 : decode b_Ta_moveTo 11 = .ok (.aload_n 0, 1) := by decide +kernel
theorem d_Ta_moveTo_12 : decode b_Ta_moveTo 12 = .ok (.invokevirtual 120, 3) := by decide +kernel
theorem d_Ta_moveTo_15 : decode b_Ta_moveTo 15 = .ok (.aload_n 0, 1) := by decide +kernel
theorem d_Ta_moveTo_16 : decode b_Ta_moveTo 16 = .ok (.getfield 36, 3) := by decide +kernel
theorem d_Ta_moveTo_19 : decode b_Ta_moveTo 19 = .ok (.getfield 50, 3) := by decide +kernel
theorem d_Ta_moveTo_22 : decode b_Ta_moveTo 22 = .ok (.iload_n 1, 1) := by decide +kernel
theorem d_Ta_moveTo_23 : decode b_Ta_moveTo 23 = .ok (.aaload, 1) := by decide +kernel
theorem d_Ta_moveTo_24 : decode b_Ta_moveTo 24 = .ok (.astore_n 3, 1) := by decide +kernel
theorem d_Ta_moveTo_25 : decode b_Ta_moveTo 25 = .ok (.aload_n 3, 1) := by decide +kernel
theorem d_Ta_moveTo_26 : decode b_Ta_moveTo 26 = .ok (.getfield 54, 3) := by decide +kernel
theorem d_Ta_moveTo_29 : decode b_Ta_moveTo 29 = .ok (.istore 4, 2) := by decide +kernel
theorem d_Ta_moveTo_31 : decode b_Ta_moveTo 31 = .ok (.aload_n 3, 1) := by decide +kernel
theorem d_Ta_moveTo_32 : decode b_Ta_moveTo 32 = .ok (.getfield 62, 3) := by decide +kernel
theorem d_Ta_moveTo_35 : decode b_Ta_moveTo 35 = .ok (.istore 5, 2) := by decide +kernel
theorem d_Ta_moveTo_37 : decode b_Ta_moveTo 37 = .ok (.aload_n 3, 1) := by decide +kernel
theorem d_Ta_moveTo_38 : decode b_Ta_moveTo 38 = .ok (.getfield 59, 3) := by decide +kernel
theorem d_Ta_moveTo_41 : decode b_Ta_moveTo 41 = .ok (.ifCond .le 15, 3) := by decide +kernel
theorem d_Ta_moveTo_44 : decode b_Ta_moveTo 44 = .ok (.aload_n 0, 1) := by decide +kernel
theorem d_Ta_moveTo_45 : decode b_Ta_moveTo 45 = .ok (.getfield 33, 3) := by decide +kernel
theorem d_Ta_moveTo_48 : decode b_Ta_moveTo 48 = .ok (.iload 4, 2) := by decide +kernel
theorem d_Ta_moveTo_50 : decode b_Ta_moveTo 50 = .ok (.aload_n 3, 1) := by decide +kernel
theorem d_Ta_moveTo_51 : decode b_Ta_moveTo 51 = .ok (.getfield 59, 3) := by decide +kernel
theorem d_Ta_moveTo_54 : decode b_Ta_moveTo 54 = .ok (.ineg, 1) := by decide +kernel
theorem d_Ta_moveTo_55 : decode b_Ta_moveTo 55 = .ok (.iastore, 1) := by decide +kernel
theorem d_Ta_moveTo_56 : decode b_Ta_moveTo 56 = .ok (.aload_n 3, 1) := by decide +kernel
theorem d_Ta_moveTo_57 : decode b_Ta_moveTo 57 = .ok (.aload_n 0, 1) := by decide +kernel
theorem d_Ta_moveTo_58 : decode b_Ta_moveTo 58 = .ok (.getfield 40, 3) := by decide +kernel
theorem d_Ta_moveTo_61 : decode b_Ta_moveTo 61 = .ok (.putfield 54, 3) := by decide +kernel
theorem d_Ta_moveTo_64 : decode b_Ta_moveTo 64 = .ok (.aload_n 3, 1) := by decide +kernel
theorem d_Ta_moveTo_65 : decode b_Ta_moveTo 65 = .ok (.iload_n 2, 1) := by decide +kernel
theorem d_Ta_moveTo_66 : decode b_Ta_moveTo 66 = .ok (.putfield 59, 3) := by decide +kernel
theorem d_Ta_moveTo_69 : decode b_Ta_moveTo 69 = .ok (.aload_n 3, 1) := by decide +kernel
theorem d_Ta_moveTo_70 : decode b_Ta_moveTo 70 = .ok (.iconst 0, 1) := by decide +kernel
theorem d_Ta_moveTo_71 : decode b_Ta_moveTo 71 = .ok (.putfield 62, 3) := by decide +kernel
theorem d_Ta_moveTo_74 : decode b_Ta_moveTo 74 = .ok (.aload_n 0, 1) := by decide +kernel
theorem d_Ta_moveTo_75 : decode b_Ta_moveTo 75 = .ok (.getfield 33, 3) := by decide +kernel
theorem d_Ta_moveTo_78 : decode b_Ta_moveTo 78 = .ok (.aload_n 0, 1) := by decide +kernel
theorem d_Ta_moveTo_79 : decode b_Ta_moveTo 79 = .ok (.getfield 40, 3) := by decide +kernel
theorem d_Ta_moveTo_82 : decode b_Ta_moveTo 82 = .ok (.iload_n 1, 1) := by decide +kernel
theorem d_Ta_moveTo_83 : decode b_Ta_moveTo 83 = .ok (.iastore, 1) := by decide +kernel
theorem d_Ta_moveTo_84 : decode b_Ta_moveTo 84 = .ok (.aload_n 0, 1) := by decide +kernel
theorem d_Ta_moveTo_85 : decode b_Ta_moveTo 85 = .ok (.getfield 26, 3) := by decide +kernel
theorem d_Ta_moveTo_88 : decode b_Ta_moveTo 88 = .ok (.aload_n 0, 1) := by decide +kernel
theorem d_Ta_moveTo_89 : decode b_Ta_moveTo 89 = .ok (.getfield 40, 3) := by decide +kernel
theorem d_Ta_moveTo_92 : decode b_Ta_moveTo 92 = .ok (.aload_n 0, 1) := by decide +kernel
theorem d_Ta_moveTo_93 : decode b_Ta_moveTo 93 = .ok (.getfield 40, 3) := by decide +kernel
theorem d_Ta_moveTo_96 : decode b_Ta_moveTo 96 = .ok (.iload_n 2, 1) := by decide +kernel
theorem d_Ta_moveTo_97 : decode b_Ta_moveTo 97 = .ok (.iadd, 1) := by decide +kernel
theorem d_Ta_moveTo_98 : decode b_Ta_moveTo 98 = .ok (.iconst (-1), 1) := by decide +kernel
theorem d_Ta_moveTo_99 : decode b_Ta_moveTo 99 = .ok (.invokestatic 114, 3) := by decide +kernel
theorem d_Ta_moveTo_102 : decode b_Ta_moveTo 102 = .ok (.aload_n 0, 1) := by decide +kernel
theorem d_Ta_moveTo_103 : decode b_Ta_moveTo 103 = .ok (.dup, 1) := by decide +kernel
theorem d_Ta_moveTo_104 : decode b_Ta_moveTo 104 = .ok (.getfield 40, 3) := by decide +kernel
theorem d_Ta_moveTo_107 : decode b_Ta_moveTo 107 = .ok (.iload_n 2, 1) := by decide +kernel
theorem d_Ta_moveTo_108 : decode b_Ta_moveTo 108 = .ok (.iadd, 1) := by decide +kernel
theorem d_Ta_moveTo_109 : decode b_Ta_moveTo 109 = .ok (.putfield 40, 3) := by decide +kernel
theorem d_Ta_moveTo_112 : decode b_Ta_moveTo 112 = .ok (.iload 4, 2) := by decide +kernel
theorem d_Ta_moveTo_114 : decode b_Ta_moveTo 114 = .ok (.istore 6, 2) := by decide +kernel
theorem d_Ta_moveTo_116 : decode b_Ta_moveTo 116 = .ok (.iload 6, 2) := by decide +kernel
theorem d_Ta_moveTo_118 : decode b_Ta_moveTo 118 = .ok (.iload 4, 2) := by decide +kernel
theorem d_Ta_moveTo_120 : decode b_Ta_moveTo 120 = .ok (.iload 5, 2) := by decide +kernel
theorem d_Ta_moveTo_122 : decode b_Ta_moveTo 122 = .ok (.iadd, 1) := by decide +kernel
theorem d_Ta_moveTo_123 : decode b_Ta_moveTo 123 = .ok (.if_icmp .ge 42, 3) := by decide +kernel
theorem d_Ta_moveTo_126 : decode b_Ta_moveTo 126 = .ok (.aload_n 0, 1) := by decide +kernel
theorem d_Ta_moveTo_127 : decode b_Ta_moveTo 127 = .ok (.aload_n 3, 1) := by decide +kernel
theorem d_Ta_moveTo_128 : decode b_Ta_moveTo 128 = .ok (.aload_n 0, 1) := by decide +kernel
theorem d_Ta_moveTo_129 : decode b_Ta_moveTo 129 = .ok (.getfield 10, 3) := by decide +kernel
theorem d_Ta_moveTo_132 : decode b_Ta_moveTo 132 = .ok (.iload 6, 2) := by decide +kernel
theorem d_Ta_moveTo_134 : decode b_Ta_moveTo 134 = .ok (.baload, 1) := by decide +kernel
theorem d_Ta_moveTo_135 : decode b_Ta_moveTo 135 = .ok (.aload_n 0, 1) := by decide +kernel
theorem d_Ta_moveTo_136 : decode b_Ta_moveTo 136 = .ok (.getfield 16, 3) := by decide +kernel
theorem d_Ta_moveTo_139 : decode b_Ta_moveTo 139 = .ok (.iload 6, 2) := by decide +kernel
theorem d_Ta_moveTo_141 : decode b_Ta_moveTo 141 = .ok (.laload, 1) := by decide +kernel
theorem d_Ta_moveTo_142 : decode b_Ta_moveTo 142 = .ok (.aload_n 0, 1) := by decide +kernel
theorem d_Ta_moveTo_143 : decode b_Ta_moveTo 143 = .ok (.getfield 20, 3) := by decide +kernel
theorem d_Ta_moveTo_146 : decode b_Ta_moveTo 146 = .ok (.iload 6, 2) := by decide +kernel
theorem d_Ta_moveTo_148 : decode b_Ta_moveTo 148 = .ok (.baload, 1) := by decide +kernel
theorem d_Ta_moveTo_149 : decode b_Ta_moveTo 149 = .ok (.aload_n 0, 1) := by decide +kernel
theorem d_Ta_moveTo_150 : decode b_Ta_moveTo 150 = .ok (.getfield 23, 3) := by decide +kernel
theorem d_Ta_moveTo_153 : decode b_Ta_moveTo 153 = .ok (.iload 6, 2) := by decide +kernel
theorem d_Ta_moveTo_155 : decode b_Ta_moveTo 155 = .ok (.laload, 1) := by decide +kernel
theorem d_Ta_moveTo_156 : decode b_Ta_moveTo 156 = .ok (.invokevirtual 90, 3) := by decide +kernel
theorem d_Ta_moveTo_159 : decode b_Ta_moveTo 159 = .ok (.iinc 6 1, 3) := by decide +kernel
theorem d_Ta_moveTo_162 : decode b_Ta_moveTo 162 = .ok (.goto (-46), 3) := by decide +kernel
theorem d_Ta_moveTo_165 : decode b_Ta_moveTo 165 = .ok (.return_, 1) := by decide +kernel
theorem kw_1082 : Cond.methodLink R_Ta 120 y_Ta_closeUp ∈ wA := kinm (show _ ∈ tables_1 from (List.mem_append_right _ (List.mem_append_right _ (List.mem_append_right _ (List.mem_append_right _ (List.mem_append_right _ (List.mem_append_left _ (List.mem_of_getElem? (l := tables_1_6) (i := 66) (by decide +kernel))))))))) (by decide +kernel)
theorem kw_1083 : Cond.instanceMethod y_Ta_moveTo ∈ wA := kinm (show _ ∈ tables_1 from (List.mem_append_right _ (List.mem_append_right _ (List.mem_append_right _ (List.mem_append_right _ (List.mem_append_right _ (List.mem_append_left _ (List.mem_of_getElem? (l := tables_1_6) (i := 64) (by decide +kernel))))))))) (by decide +kernel)
theorem kw_1084 : Cond.selects R_Ta y_Ta_moveTo y_Ta_moveTo ∈ wA := kinp 31 (by decide +kernel) (by decide +kernel)
theorem cv_Ta_moveTo : CV y_Ta_moveTo b_Ta_moveTo 7 none 2 := ⟨kw_1083, kw_1084, kw_717, k_Ta_moveTo, by decide +kernel⟩
theorem lp_Ta_moveTo_L116 {X : Cx} {q : PL} (g : Gd X y_Ta_moveTo b_Ta_moveTo 7 none 2 52 R_Ta) (x : Int32 × Int32 × Int32 × Int32) (s : S1) (o : ((Int32 × Int32 × Int32 × Int32) ⊕ ((Unit))) × S1) (h : M_Ta_moveTo_L116 x s = some o) (hR : (Sum.elim (fun y : Int32 × Int32 × Int32 × Int32 => ∀ ls : Array Slot, (prs o.2 145 y.1) → lv_has ls 7 [(0, .ref (q.1 120 0)), (3, .ref (q.1 145 y.1)), (4, .int y.2.1), (5, .int y.2.2.1), (6, .int y.2.2.2)] → WW X q o.2 116 ls []) (fun y : Unit => ∀ ls : Array Slot, lv_has ls 7 [] → WW X q o.2 165 ls []) o.1)) : ∀ ls : Array Slot, (prs s 145 x.1) → lv_has ls 7 [(0, .ref (q.1 120 0)), (3, .ref (q.1 145 x.1)), (4, .int x.2.1), (5, .int x.2.2.1), (6, .int x.2.2.2)] → WW X q s 116 ls [] := by
  intro ls hp0 hl
  unfold M_Ta_moveTo_L116 at h
  refine ww_iload (pc := 116) g.1 d_Ta_moveTo_116 (lv_at hl 4 rfl) ?_
  refine ww_iload (pc := 118) g.1 d_Ta_moveTo_118 (lv_at hl 2 rfl) ?_
  refine ww_iload (pc := 120) g.1 d_Ta_moveTo_120 (lv_at hl 3 rfl) ?_
  refine ww_iadd (pc := 122) g.1 d_Ta_moveTo_122 ?_
  refine ww_icmp_ge (pc := 123) (tgt := 165) g.1 d_Ta_moveTo_123 (by decide) h (fun c h => ?_) (fun c h => ?_)
  · rw [oR_eq h] at hR
    exact hR ls (lv_sub hl [] rfl)
  · refine ww_aload_n (pc := 126) g.1 d_Ta_moveTo_126 rfl (lv_at hl 0 rfl) ?_
    refine ww_aload_n (pc := 127) g.1 d_Ta_moveTo_127 rfl (lv_at hl 1 rfl) ?_
    refine ww_aload_n (pc := 128) g.1 d_Ta_moveTo_128 rfl (lv_at hl 0 rfl) ?_
    refine ww_gR (pc := 129) g (k := 0) cl_Ta (pz rfl (by decide)) (by decide) (Or.inl kw_795) (f := 15360) (t := 121) rfl rfl rfl d_Ta_moveTo_129 ?_
    refine ww_iload (pc := 132) g.1 d_Ta_moveTo_132 (lv_at hl 4 rfl) ?_
    refine ww_ab (pc := 134) g (pz rfl (by decide)) rfl rfl d_Ta_moveTo_134 h fun v134 h => ?_
    refine ww_aload_n (pc := 135) g.1 d_Ta_moveTo_135 rfl (lv_at hl 0 rfl) ?_
    refine ww_gR (pc := 136) g (k := 1) cl_Ta (pz rfl (by decide)) (by decide) (Or.inl kw_796) (f := 15361) (t := 122) rfl rfl rfl d_Ta_moveTo_136 ?_
    refine ww_iload (pc := 139) g.1 d_Ta_moveTo_139 (lv_at hl 4 rfl) ?_
    refine ww_al (pc := 141) g (pz rfl (by decide)) rfl rfl d_Ta_moveTo_141 h fun v141 h => ?_
    refine ww_aload_n (pc := 142) g.1 d_Ta_moveTo_142 rfl (lv_at hl 0 rfl) ?_
    refine ww_gR (pc := 143) g (k := 2) cl_Ta (pz rfl (by decide)) (by decide) (Or.inl kw_797) (f := 15362) (t := 123) rfl rfl rfl d_Ta_moveTo_143 ?_
    refine ww_iload (pc := 146) g.1 d_Ta_moveTo_146 (lv_at hl 4 rfl) ?_
    refine ww_ab (pc := 148) g (pz rfl (by decide)) rfl rfl d_Ta_moveTo_148 h fun v148 h => ?_
    refine ww_aload_n (pc := 149) g.1 d_Ta_moveTo_149 rfl (lv_at hl 0 rfl) ?_
    refine ww_gR (pc := 150) g (k := 3) cl_Ta (pz rfl (by decide)) (by decide) (Or.inl kw_798) (f := 15363) (t := 124) rfl rfl rfl d_Ta_moveTo_150 ?_
    refine ww_iload (pc := 153) g.1 d_Ta_moveTo_153 (lv_at hl 4 rfl) ?_
    refine ww_al (pc := 155) g (pz rfl (by decide)) rfl rfl d_Ta_moveTo_155 h fun v155 h => ?_
    refine ww_lo fun dlo => ?_
    obtain ⟨v156, s, hc156, h⟩ := oB_of h
    refine ww_callV (pc := 156) (rest := []) g cv_Ta_append (Or.inl kw_1079) cl_Ta (pz rfl (by decide)) (ct_Ta_append hp0 hc156) ⟨by decide, by decide⟩ rfl hl.1 (Nat.le_of_ble_eq_true rfl) d_Ta_moveTo_156 rfl (?_)
    refine ww_st (st' := []) rfl ?_
    refine ww_hi fun dhi => ?_
    have hp0 : prs s 145 x.1 := dhi _ _ hp0.2.1 hp0.2.2 (dlo _ _ hp0)
    refine ww_iinc (pc := 159) g.1 (v := x.2.2.2 + 1) (lv' := [(6, .int (x.2.2.2 + 1)), (0, .ref (q.1 120 0)), (3, .ref (q.1 145 x.1)), (4, .int x.2.1), (5, .int x.2.2.1)]) d_Ta_moveTo_159 hl (k := 4) rfl (by rfl) (by decide) rfl fun ls hl => ?_
    refine ww_goto (pc := 162) (tgt := 116) g.1 d_Ta_moveTo_162 (by decide) ?_
    rw [oR_eq h] at hR
    exact hR ls hp0 (lv_sub hl [1, 2, 3, 4, 0] rfl)

theorem j_Ta_moveTo_j56 {X : Cx} {q : PL} (g : Gd X y_Ta_moveTo b_Ta_moveTo 7 none 2 52 R_Ta) {o : (Unit) × S1} (hR : Rt X q o.2 none) (l1 : Int32) (l2 : Int32) (l3 : Int32) (l4 : Int32) (l5 : Int32) (s : S1) (hp0 : prs s 145 l3) (ls : Array Slot) (hl : lv_has ls 7 [(0, .ref (q.1 120 0)), (1, .int l1), (2, .int l2), (3, .ref (q.1 145 l3)), (4, .int l4), (5, .int l5)]) (h : M_Ta_moveTo_j56 l1 l2 l3 l4 l5 s = some o) : WW X q s 56 ls [] := by
  unfold M_Ta_moveTo_j56 at h
  refine ww_aload_n (pc := 56) g.1 d_Ta_moveTo_56 rfl (lv_at hl 3 rfl) ?_
  refine ww_aload_n (pc := 57) g.1 d_Ta_moveTo_57 rfl (lv_at hl 0 rfl) ?_
  refine ww_gI (pc := 58) g (k := 7) cl_Ta (pz rfl (by decide)) (by decide) (Or.inl kw_714) (f := 15367) rfl rfl d_Ta_moveTo_58 h fun v58 h => ?_
  refine ww_pI (pc := 61) g (k := 11) cl_Tg hp0 (by decide) (Or.inl kw_771) rfl (f := 18571) rfl rfl rfl rfl d_Ta_moveTo_61 h fun s hs h => ?_
  have hp0 : prs s 145 l3 := prs_kI (r := 145) (k := 11) (by decide) hs hp0
  refine ww_aload_n (pc := 64) g.1 d_Ta_moveTo_64 rfl (lv_at hl 3 rfl) ?_
  refine ww_iload_n (pc := 65) g.1 d_Ta_moveTo_65 rfl (lv_at hl 2 rfl) ?_
  refine ww_pI (pc := 66) g (k := 12) cl_Tg hp0 (by decide) (Or.inl kw_769) rfl (f := 18572) rfl rfl rfl rfl d_Ta_moveTo_66 h fun s hs h => ?_
  have hp0 : prs s 145 l3 := prs_kI (r := 145) (k := 12) (by decide) hs hp0
  refine ww_aload_n (pc := 69) g.1 d_Ta_moveTo_69 rfl (lv_at hl 3 rfl) ?_
  refine ww_iconst (pc := 70) g.1 (v := 0) d_Ta_moveTo_70 (by decide) ?_
  refine ww_pI (pc := 71) g (k := 13) cl_Tg hp0 (by decide) (Or.inl kw_793) rfl (f := 18573) rfl rfl rfl rfl d_Ta_moveTo_71 h fun s hs h => ?_
  have hp0 : prs s 145 l3 := prs_kI (r := 145) (k := 13) (by decide) hs hp0
  refine ww_aload_n (pc := 74) g.1 d_Ta_moveTo_74 rfl (lv_at hl 0 rfl) ?_
  refine ww_gR (pc := 75) g (k := 6) cl_Ta (pz rfl (by decide)) (by decide) (Or.inl kw_770) (f := 15366) (t := 127) rfl rfl rfl d_Ta_moveTo_75 ?_
  refine ww_aload_n (pc := 78) g.1 d_Ta_moveTo_78 rfl (lv_at hl 0 rfl) ?_
  refine ww_gI (pc := 79) g (k := 7) cl_Ta (pz rfl (by decide)) (by decide) (Or.inl kw_714) (f := 15367) rfl rfl d_Ta_moveTo_79 h fun v79 h => ?_
  refine ww_iload_n (pc := 82) g.1 d_Ta_moveTo_82 rfl (lv_at hl 1 rfl) ?_
  refine ww_si (pc := 83) g (pz rfl (by decide)) rfl rfl d_Ta_moveTo_83 h fun s hs h => ?_
  have hp0 : prs s 145 l3 := hs ▸ hp0
  refine ww_aload_n (pc := 84) g.1 d_Ta_moveTo_84 rfl (lv_at hl 0 rfl) ?_
  refine ww_gR (pc := 85) g (k := 4) cl_Ta (pz rfl (by decide)) (by decide) (Or.inl kw_800) (f := 15364) (t := 125) rfl rfl rfl d_Ta_moveTo_85 ?_
  refine ww_aload_n (pc := 88) g.1 d_Ta_moveTo_88 rfl (lv_at hl 0 rfl) ?_
  refine ww_gI (pc := 89) g (k := 7) cl_Ta (pz rfl (by decide)) (by decide) (Or.inl kw_714) (f := 15367) rfl rfl d_Ta_moveTo_89 h fun v89 h => ?_
  refine ww_aload_n (pc := 92) g.1 d_Ta_moveTo_92 rfl (lv_at hl 0 rfl) ?_
  refine ww_gI (pc := 93) g (k := 7) cl_Ta (pz rfl (by decide)) (by decide) (Or.inl kw_714) (f := 15367) rfl rfl d_Ta_moveTo_93 h fun v93 h => ?_
  refine ww_iload_n (pc := 96) g.1 d_Ta_moveTo_96 rfl (lv_at hl 2 rfl) ?_
  refine ww_iadd (pc := 97) g.1 d_Ta_moveTo_97 ?_
  refine ww_iconst (pc := 98) g.1 (v := (-1)) d_Ta_moveTo_98 (by decide) ?_
  refine ww_lo fun dlo => ?_
  obtain ⟨v99, s, hc99, h⟩ := oB_of h
  refine ww_callS (pc := 99) (rest := []) g cs_Arr_fill_____ (Or.inl kw_1078) (ct_Arr_fill_____ ⟨rfl, by decide, by decide⟩ (pz rfl (by decide)) hc99) ⟨by decide, by decide⟩ rfl hl.1 (Nat.le_of_ble_eq_true rfl) d_Ta_moveTo_99 rfl (?_)
  refine ww_st (st' := []) rfl ?_
  refine ww_hi fun dhi => ?_
  have hp0 : prs s 145 l3 := dhi _ _ hp0.2.1 hp0.2.2 (dlo _ _ hp0)
  refine ww_aload_n (pc := 102) g.1 d_Ta_moveTo_102 rfl (lv_at hl 0 rfl) ?_
  refine ww_dup (pc := 103) g.1 d_Ta_moveTo_103 rfl ?_
  refine ww_gI (pc := 104) g (k := 7) cl_Ta (pz rfl (by decide)) (by decide) (Or.inl kw_714) (f := 15367) rfl rfl d_Ta_moveTo_104 h fun v104 h => ?_
  refine ww_iload_n (pc := 107) g.1 d_Ta_moveTo_107 rfl (lv_at hl 2 rfl) ?_
  refine ww_iadd (pc := 108) g.1 d_Ta_moveTo_108 ?_
  refine ww_pI (pc := 109) g (k := 7) cl_Ta (pz rfl (by decide)) (by decide) (Or.inl kw_714) rfl (f := 15367) rfl rfl rfl rfl d_Ta_moveTo_109 h fun s hs h => ?_
  have hp0 : prs s 145 l3 := prs_kI (r := 120) (k := 7) (by decide) hs hp0
  refine ww_iload (pc := 112) g.1 d_Ta_moveTo_112 (lv_at hl 4 rfl) ?_
  refine ww_istore (pc := 114) (i := 6) g.1 (lv' := [(6, .int l4), (0, .ref (q.1 120 0)), (1, .int l1), (2, .int l2), (3, .ref (q.1 145 l3)), (4, .int l4), (5, .int l5)]) d_Ta_moveTo_114 hl (by decide) rfl fun ls hl => ?_
  obtain ⟨e116, s1, hw, h⟩ := oB_of h
  refine oW_rule (Wh := fun (x : Int32 × Int32 × Int32 × Int32) (s : S1) => ∀ ls : Array Slot, (prs s 145 x.1) → lv_has ls 7 [(0, .ref (q.1 120 0)), (3, .ref (q.1 145 x.1)), (4, .int x.2.1), (5, .int x.2.2.1), (6, .int x.2.2.2)] → WW X q s 116 ls []) (We := fun (e : (Unit)) (s : S1) => ∀ ls : Array Slot, lv_has ls 7 [] → WW X q s 165 ls []) (fun x s o hb hc => lp_Ta_moveTo_L116 (q := q) g x s o hb hc) hw ?_ ls hp0 (lv_sub hl [1, 4, 5, 6, 0] rfl)
  clear hw hl
  clear ls
  intro ls hl
  generalize s1 = s at h ⊢
  exact ww_vretH (pc := 165) g h hR d_Ta_moveTo_165

theorem j_Ta_moveTo_j15 {X : Cx} {q : PL} (g : Gd X y_Ta_moveTo b_Ta_moveTo 7 none 2 52 R_Ta) {o : (Unit) × S1} (hR : Rt X q o.2 none) (l1 : Int32) (l2 : Int32) (s : S1) (ls : Array Slot) (hl : lv_has ls 7 [(0, .ref (q.1 120 0)), (1, .int l1), (2, .int l2)]) (h : M_Ta_moveTo_j15 l1 l2 s = some o) : WW X q s 15 ls [] := by
  unfold M_Ta_moveTo_j15 at h
  refine ww_aload_n (pc := 15) g.1 d_Ta_moveTo_15 rfl (lv_at hl 0 rfl) ?_
  refine ww_gR (pc := 16) g (k := 8) cl_Ta (pz rfl (by decide)) (by decide) (Or.inl kw_772) (f := 15368) (t := 111) rfl rfl rfl d_Ta_moveTo_16 ?_
  refine ww_gR (pc := 19) g (k := 0) cl_He (pz rfl (by decide)) (by decide) (Or.inl kw_804) (f := 14208) (t := 112) rfl rfl rfl d_Ta_moveTo_19 ?_
  refine ww_iload_n (pc := 22) g.1 d_Ta_moveTo_22 rfl (lv_at hl 1 rfl) ?_
  refine ww_a8 (pc := 23) g (t := 145) (n := 4000) (pz rfl (by decide)) rfl rfl rfl rfl d_Ta_moveTo_23 h fun pa23 h => ?_
  refine ww_astore_n (pc := 24) (i := 3) g.1 (lv' := [(3, .ref (q.1 145 l1)), (0, .ref (q.1 120 0)), (1, .int l1), (2, .int l2)]) d_Ta_moveTo_24 rfl hl (by decide) rfl fun ls hl => ?_
  refine ww_aload_n (pc := 25) g.1 d_Ta_moveTo_25 rfl (lv_at hl 0 rfl) ?_
  refine ww_gI (pc := 26) g (k := 11) cl_Tg pa23 (by decide) (Or.inl kw_771) (f := 18571) rfl rfl d_Ta_moveTo_26 h fun v26 h => ?_
  refine ww_istore (pc := 29) (i := 4) g.1 (lv' := [(4, .int v26), (3, .ref (q.1 145 l1)), (0, .ref (q.1 120 0)), (1, .int l1), (2, .int l2)]) d_Ta_moveTo_29 hl (by decide) rfl fun ls hl => ?_
  refine ww_aload_n (pc := 31) g.1 d_Ta_moveTo_31 rfl (lv_at hl 1 rfl) ?_
  refine ww_gI (pc := 32) g (k := 13) cl_Tg pa23 (by decide) (Or.inl kw_793) (f := 18573) rfl rfl d_Ta_moveTo_32 h fun v32 h => ?_
  refine ww_istore (pc := 35) (i := 5) g.1 (lv' := [(5, .int v32), (4, .int v26), (3, .ref (q.1 145 l1)), (0, .ref (q.1 120 0)), (1, .int l1), (2, .int l2)]) d_Ta_moveTo_35 hl (by decide) rfl fun ls hl => ?_
  refine ww_aload_n (pc := 37) g.1 d_Ta_moveTo_37 rfl (lv_at hl 2 rfl) ?_
  refine ww_gI (pc := 38) g (k := 12) cl_Tg pa23 (by decide) (Or.inl kw_769) (f := 18572) rfl rfl d_Ta_moveTo_38 h fun v38 h => ?_
  refine ww_if_le (pc := 41) (tgt := 56) g.1 d_Ta_moveTo_41 (by decide) h (fun c h => ?_) (fun c h => ?_)
  · exact j_Ta_moveTo_j56 g hR l1 l2 l1 v26 v32 s pa23 ls (lv_sub hl [3, 4, 5, 2, 1, 0] rfl) h
  · refine ww_aload_n (pc := 44) g.1 d_Ta_moveTo_44 rfl (lv_at hl 3 rfl) ?_
    refine ww_gR (pc := 45) g (k := 6) cl_Ta (pz rfl (by decide)) (by decide) (Or.inl kw_770) (f := 15366) (t := 127) rfl rfl rfl d_Ta_moveTo_45 ?_
    refine ww_iload (pc := 48) g.1 d_Ta_moveTo_48 (lv_at hl 1 rfl) ?_
    refine ww_aload_n (pc := 50) g.1 d_Ta_moveTo_50 rfl (lv_at hl 2 rfl) ?_
    refine ww_gI (pc := 51) g (k := 12) cl_Tg pa23 (by decide) (Or.inl kw_769) (f := 18572) rfl rfl d_Ta_moveTo_51 h fun v51 h => ?_
    refine ww_ineg (pc := 54) g.1 d_Ta_moveTo_54 ?_
    refine ww_si (pc := 55) g (pz rfl (by decide)) rfl rfl d_Ta_moveTo_55 h fun s hs h => ?_
    have pa23 : prs s 145 l1 := hs ▸ pa23
    exact j_Ta_moveTo_j56 g hR l1 l2 l1 v26 v32 s pa23 ls (lv_sub hl [3, 4, 5, 2, 1, 0] rfl) h

theorem ct_Ta_moveTo {l : Launch} {P : PP} {q : PL} {s s' : S1} {l1 : Int32} {l2 : Int32} {r : Unit} (h : M_Ta_moveTo l1 l2 s = some (r, s')) : Ct l y_Ta_moveTo b_Ta_moveTo 7 none 2 52 P q s [.ref (q.1 120 0), .int l1, .int l2] none q s' := by
  refine ct_of (by decide) (Nat.le_of_ble_eq_true rfl) fun X ls eP el g hR hl => ?_
  subst eP
  have hR : Rt X q ((r, s') : Unit × S1).2 none := hR
  have hl : lv_has ls 7 [(0, .ref (q.1 120 0)), (1, .int l1), (2, .int l2)] := hl
  generalize (r, s') = o at h hR
  unfold M_Ta_moveTo at h
  refine ww_aload_n (pc := 0) g.1 d_Ta_moveTo_0 rfl (lv_at hl 0 rfl) ?_
  refine ww_gI (pc := 1) g (k := 7) cl_Ta (pz rfl (by decide)) (by decide) (Or.inl kw_714) (f := 15367) rfl rfl d_Ta_moveTo_1 h fun v1 h => ?_
  refine ww_iload_n (pc := 4) g.1 d_Ta_moveTo_4 rfl (lv_at hl 2 rfl) ?_
  refine ww_iadd (pc := 5) g.1 d_Ta_moveTo_5 ?_
  refine ww_ldc (pc := 6) g (v := 50000) kw_803 d_Ta_moveTo_6 ?_
  refine ww_icmp_le (pc := 8) (tgt := 15) g.1 d_Ta_moveTo_8 (by decide) h (fun c h => ?_) (fun c h => ?_)
  · exact j_Ta_moveTo_j15 g hR l1 l2 s ls (lv_sub hl [0, 1, 2] rfl) h
  · refine ww_aload_n (pc := 11) g.1 d_Ta_moveTo_11 rfl (lv_at hl 0 rfl) ?_
    obtain ⟨v12, s, hc12, h⟩ := oB_of h
    refine ww_callV (pc := 12) (rest := []) g cv_Ta_closeUp (Or.inl kw_1082) cl_Ta (pz rfl (by decide)) (ct_Ta_closeUp hc12) ⟨by decide, by decide⟩ rfl hl.1 (Nat.le_of_ble_eq_true rfl) d_Ta_moveTo_12 rfl (?_)
    refine ww_st (st' := []) rfl ?_
    exact j_Ta_moveTo_j15 g hR l1 l2 s ls (lv_sub hl [0, 1, 2] rfl) h


