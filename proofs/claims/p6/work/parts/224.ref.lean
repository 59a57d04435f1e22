theorem kw_453 : Cond.fieldLink R_Mo 149 "LuaMachineModel" "roomAll" "I" ∈ wA := kinm (show _ ∈ tables_1 from (List.mem_append_right _ (List.mem_append_right _ (List.mem_append_right _ (List.mem_append_right _ (List.mem_append_right _ (List.mem_append_right _ (List.mem_append_right _ (List.mem_append_right _ (List.mem_append_right _ (List.mem_append_left _ (List.mem_of_getElem? (l := tables_1_10) (i := 98) (by decide +kernel))))))))))))) (by decide +kernel)
theorem kw_454 : Cond.fieldLink R_Mo 143 "LuaMachineModel" "entryTop" "I" ∈ wA := kinm (show _ ∈ tables_1 from (List.mem_append_right _ (List.mem_append_right _ (List.mem_append_right _ (List.mem_append_right _ (List.mem_append_right _ (List.mem_append_right _ (List.mem_append_right _ (List.mem_append_right _ (List.mem_append_right _ (List.mem_append_left _ (List.mem_of_getElem? (l := tables_1_10) (i := 96) (by decide +kernel))))))))))))) (by decide +kernel)
theorem kw_455 : Cond.methodLink R_Mo 565 y_Mo_move ∈ wA := kinm (show _ ∈ tables_1 from (List.mem_append_right _ (List.mem_append_right _ (List.mem_append_right _ (List.mem_append_right _ (List.mem_append_right _ (List.mem_append_right _ (List.mem_append_right _ (List.mem_append_right _ (List.mem_append_right _ (List.mem_append_right _ (List.mem_append_right _ (List.mem_append_left _ (List.mem_of_getElem? (l := tables_1_12) (i := 95) (by decide +kernel))))))))))))))) (by decide +kernel)
theorem kw_456 : Cond.methodLink R_Mo 520 y_Mo_collection ∈ wA := kinm (show _ ∈ tables_1 from (List.mem_append_right _ (List.mem_append_right _ (List.mem_append_right _ (List.mem_append_right _ (List.mem_append_right _ (List.mem_append_right _ (List.mem_append_right _ (List.mem_append_right _ (List.mem_append_right _ (List.mem_append_right _ (List.mem_append_right _ (List.mem_append_left _ (List.mem_of_getElem? (l := tables_1_12) (i := 1) (by decide +kernel))))))))))))))) (by decide +kernel)
theorem kw_457 : Cond.instanceMethod y_Mo_grow ∈ wA := kinm (show _ ∈ tables_1 from (List.mem_append_right _ (List.mem_append_right _ (List.mem_append_right _ (List.mem_append_right _ (List.mem_append_right _ (List.mem_append_right _ (List.mem_append_right _ (List.mem_append_right _ (List.mem_append_right _ (List.mem_append_right _ (List.mem_append_right _ (List.mem_append_left _ (List.mem_of_getElem? (l := tables_1_12) (i := 110) (by decide +kernel))))))))))))))) (by decide +kernel)
theorem kw_458 : Cond.selects R_Mo y_Mo_grow y_Mo_grow ∈ wA := kinp 151 (by decide +kernel) (by decide +kernel)
def M_Mo_grow_j59 (l1 : Int32) (l2 : Int32) : M (Int32) :=
  oB (oGI 36 0) fun v60 =>
  oC ((v60 + l2) ≤ 40000)
    (oB (oGI 37 0) fun v82 =>
    oB (oPI 37 0 (v82 + l2)) fun _ =>
    oB (oGI 43 0) fun v92 =>
    oB (oPI 43 0 (v92 + l2)) fun _ =>
    oB (oGI 36 0) fun v102 =>
    oB (oAI 63 4100 0 l1) fun v111 =>
    oB (oPI 36 0 (v102 + (l2 - v111))) fun _ =>
    oB (oGI 41 0) fun v118 =>
    oB (oGI 41 0) fun v124 =>
    oB (oPI 41 0 (v124 + l2)) fun _ =>
    oB (M_Mo_move l1 v118 l2) fun _ =>
    oR 1)
    (oB (M_Mo_raise 10) fun v74 =>
    oR 0)

def M_Mo_grow_j21 (l1 : Int32) (k0 : Int32) : M (Int32) :=
  oB (oGI 43 0) fun v23 =>
  oC ((v23 + k0) ≤ 300000)
    (oB (oGI 36 0) fun v44 =>
    oC ((v44 + k0) ≤ 40000)
      (M_Mo_grow_j59 l1 k0)
      (oB (M_Mo_collection) fun _ =>
      M_Mo_grow_j59 l1 k0))
    (oB (M_Mo_raise 11) fun v37 =>
    oR 0)

def M_Mo_grow (l1 : Int32) : M (Int32) :=
  oB (oAI 63 4100 0 l1) fun v5 =>
  oC (v5 = 0)
    (M_Mo_grow_j21 l1 4)
    (oB (oAI 63 4100 0 l1) fun v19 =>
    M_Mo_grow_j21 l1 (2 * v19))

theorem cv_Mo_grow : CV y_Mo_grow b_Mo_grow 4 (some .boolean) 1 := ⟨kw_457, kw_458, kw_17, k_Mo_grow, by decide +kernel⟩
theorem j_Mo_grow_j59 {X : Cx} {q : PL} (g : Gd X y_Mo_grow b_Mo_grow 4 (some .boolean) 6 133 R_Mo) {o : (Int32) × S1} (hR : Rt X q o.2 (some (.int o.1))) (l1 : Int32) (l2 : Int32) (s : S1) (ls : Array Slot) (hl : lv_has ls 4 [(0, .ref (q.1 0 0)), (1, .int l1), (2, .int l2)]) (h : M_Mo_grow_j59 l1 l2 s = some o) : WW X q s 59 ls [] := by
  unfold M_Mo_grow_j59 at h
  refine ww_aload_n (pc := 59) g.1 d_Mo_grow_59 rfl (lv_at hl 0 rfl) ?_
  refine ww_gI (pc := 60) g (k := 36) cl_Mo (pz rfl (by decide)) (by decide) (Or.inl kw_305) (f := 36) rfl rfl d_Mo_grow_60 h fun v60 h => ?_
  refine ww_iload_n (pc := 63) g.1 d_Mo_grow_63 rfl (lv_at hl 2 rfl) ?_
  refine ww_iadd (pc := 64) g.1 d_Mo_grow_64 ?_
  refine ww_ldcw (pc := 65) g (v := 40000) kw_140 d_Mo_grow_65 ?_
  refine ww_icmp_le (pc := 68) (tgt := 80) g.1 d_Mo_grow_68 (by decide) h (fun c h => ?_) (fun c h => ?_)
  · refine ww_aload_n (pc := 80) g.1 d_Mo_grow_80 rfl (lv_at hl 0 rfl) ?_
    refine ww_dup (pc := 81) g.1 d_Mo_grow_81 rfl ?_
    refine ww_gI (pc := 82) g (k := 37) cl_Mo (pz rfl (by decide)) (by decide) (Or.inl kw_306) (f := 37) rfl rfl d_Mo_grow_82 h fun v82 h => ?_
    refine ww_iload_n (pc := 85) g.1 d_Mo_grow_85 rfl (lv_at hl 2 rfl) ?_
    refine ww_iadd (pc := 86) g.1 d_Mo_grow_86 ?_
    refine ww_pI (pc := 87) g (k := 37) cl_Mo (pz rfl (by decide)) (by decide) (Or.inl kw_306) rfl (f := 37) rfl rfl rfl rfl d_Mo_grow_87 h fun s hs h => ?_
    refine ww_aload_n (pc := 90) g.1 d_Mo_grow_90 rfl (lv_at hl 0 rfl) ?_
    refine ww_dup (pc := 91) g.1 d_Mo_grow_91 rfl ?_
    refine ww_gI (pc := 92) g (k := 43) cl_Mo (pz rfl (by decide)) (by decide) (Or.inl kw_453) (f := 43) rfl rfl d_Mo_grow_92 h fun v92 h => ?_
    refine ww_iload_n (pc := 95) g.1 d_Mo_grow_95 rfl (lv_at hl 2 rfl) ?_
    refine ww_iadd (pc := 96) g.1 d_Mo_grow_96 ?_
    refine ww_pI (pc := 97) g (k := 43) cl_Mo (pz rfl (by decide)) (by decide) (Or.inl kw_453) rfl (f := 43) rfl rfl rfl rfl d_Mo_grow_97 h fun s hs h => ?_
    refine ww_aload_n (pc := 100) g.1 d_Mo_grow_100 rfl (lv_at hl 0 rfl) ?_
    refine ww_dup (pc := 101) g.1 d_Mo_grow_101 rfl ?_
    refine ww_gI (pc := 102) g (k := 36) cl_Mo (pz rfl (by decide)) (by decide) (Or.inl kw_305) (f := 36) rfl rfl d_Mo_grow_102 h fun v102 h => ?_
    refine ww_iload_n (pc := 105) g.1 d_Mo_grow_105 rfl (lv_at hl 2 rfl) ?_
    refine ww_aload_n (pc := 106) g.1 d_Mo_grow_106 rfl (lv_at hl 0 rfl) ?_
    refine ww_gR (pc := 107) g (k := 50) cl_Mo (pz rfl (by decide)) (by decide) (Or.inl kw_93) (f := 50) (t := 63) rfl rfl rfl d_Mo_grow_107 ?_
    refine ww_iload_n (pc := 110) g.1 d_Mo_grow_110 rfl (lv_at hl 1 rfl) ?_
    refine ww_ai (pc := 111) g (pz rfl (by decide)) rfl rfl d_Mo_grow_111 h fun v111 h => ?_
    refine ww_isub (pc := 112) g.1 d_Mo_grow_112 ?_
    refine ww_iadd (pc := 113) g.1 d_Mo_grow_113 ?_
    refine ww_pI (pc := 114) g (k := 36) cl_Mo (pz rfl (by decide)) (by decide) (Or.inl kw_305) rfl (f := 36) rfl rfl rfl rfl d_Mo_grow_114 h fun s hs h => ?_
    refine ww_aload_n (pc := 117) g.1 d_Mo_grow_117 rfl (lv_at hl 0 rfl) ?_
    refine ww_gI (pc := 118) g (k := 41) cl_Mo (pz rfl (by decide)) (by decide) (Or.inl kw_454) (f := 41) rfl rfl d_Mo_grow_118 h fun v118 h => ?_
    refine ww_istore_n (pc := 121) g.1 (lv' := [(3, .int v118), (0, .ref (q.1 0 0)), (1, .int l1), (2, .int l2)]) d_Mo_grow_121 rfl hl (by decide) rfl fun ls hl => ?_
    refine ww_aload_n (pc := 122) g.1 d_Mo_grow_122 rfl (lv_at hl 1 rfl) ?_
    refine ww_dup (pc := 123) g.1 d_Mo_grow_123 rfl ?_
    refine ww_gI (pc := 124) g (k := 41) cl_Mo (pz rfl (by decide)) (by decide) (Or.inl kw_454) (f := 41) rfl rfl d_Mo_grow_124 h fun v124 h => ?_
    refine ww_iload_n (pc := 127) g.1 d_Mo_grow_127 rfl (lv_at hl 3 rfl) ?_
    refine ww_iadd (pc := 128) g.1 d_Mo_grow_128 ?_
    refine ww_pI (pc := 129) g (k := 41) cl_Mo (pz rfl (by decide)) (by decide) (Or.inl kw_454) rfl (f := 41) rfl rfl rfl rfl d_Mo_grow_129 h fun s hs h => ?_
    refine ww_aload_n (pc := 132) g.1 d_Mo_grow_132 rfl (lv_at hl 1 rfl) ?_
    refine ww_iload_n (pc := 133) g.1 d_Mo_grow_133 rfl (lv_at hl 2 rfl) ?_
    refine ww_iload_n (pc := 134) g.1 d_Mo_grow_134 rfl (lv_at hl 0 rfl) ?_
    refine ww_iload_n (pc := 135) g.1 d_Mo_grow_135 rfl (lv_at hl 3 rfl) ?_
    obtain ⟨v136, s, hc136, h⟩ := oB_of h
    refine ww_callV (pc := 136) (rest := []) g cv_Mo_move (Or.inl kw_455) cl_Mo (pz rfl (by decide)) (ct_Mo_move hc136) ⟨by decide, by decide⟩ rfl hl.1 (Nat.le_of_ble_eq_true rfl) d_Mo_grow_136 rfl ?_
    refine ww_st (st' := []) rfl ?_
    refine ww_iconst (pc := 139) g.1 (v := 1) d_Mo_grow_139 (by decide) ?_
    exact ww_zretH (pc := 140) g h hR (Or.inr rfl) d_Mo_grow_140
  · refine ww_aload_n (pc := 71) g.1 d_Mo_grow_71 rfl (lv_at hl 0 rfl) ?_
    refine ww_bipush (pc := 72) g.1 (v := 10) d_Mo_grow_72 (by decide) ?_
    obtain ⟨v74, s, hc74, h⟩ := oB_of h
    refine ww_callV (pc := 74) (rest := []) g cv_Mo_raise (Or.inl kw_162) cl_Mo (pz rfl (by decide)) (ct_Mo_raise hc74) ⟨by decide, by decide⟩ rfl hl.1 (Nat.le_of_ble_eq_true rfl) d_Mo_grow_74 rfl ?_
    refine ww_st (st' := [.int v74]) rfl ?_
    refine ww_pop (pc := 77) g.1 d_Mo_grow_77 rfl ?_
    refine ww_iconst (pc := 78) g.1 (v := 0) d_Mo_grow_78 (by decide) ?_
    exact ww_zretH (pc := 79) g h hR (Or.inl rfl) d_Mo_grow_79

theorem j_Mo_grow_j21 {X : Cx} {q : PL} (g : Gd X y_Mo_grow b_Mo_grow 4 (some .boolean) 6 133 R_Mo) {o : (Int32) × S1} (hR : Rt X q o.2 (some (.int o.1))) (l1 : Int32) (k0 : Int32) (s : S1) (ls : Array Slot) (hl : lv_has ls 4 [(0, .ref (q.1 0 0)), (1, .int l1)]) (h : M_Mo_grow_j21 l1 k0 s = some o) : WW X q s 21 ls [.int k0] := by
  unfold M_Mo_grow_j21 at h
  refine ww_istore_n (pc := 21) g.1 (lv' := [(2, .int k0), (0, .ref (q.1 0 0)), (1, .int l1)]) d_Mo_grow_21 rfl hl (by decide) rfl fun ls hl => ?_
  refine ww_aload_n (pc := 22) g.1 d_Mo_grow_22 rfl (lv_at hl 1 rfl) ?_
  refine ww_gI (pc := 23) g (k := 43) cl_Mo (pz rfl (by decide)) (by decide) (Or.inl kw_453) (f := 43) rfl rfl d_Mo_grow_23 h fun v23 h => ?_
  refine ww_iload_n (pc := 26) g.1 d_Mo_grow_26 rfl (lv_at hl 0 rfl) ?_
  refine ww_iadd (pc := 27) g.1 d_Mo_grow_27 ?_
  refine ww_ldcw (pc := 28) g (v := 300000) kw_139 d_Mo_grow_28 ?_
  refine ww_icmp_le (pc := 31) (tgt := 43) g.1 d_Mo_grow_31 (by decide) h (fun c h => ?_) (fun c h => ?_)
  · refine ww_aload_n (pc := 43) g.1 d_Mo_grow_43 rfl (lv_at hl 1 rfl) ?_
    refine ww_gI (pc := 44) g (k := 36) cl_Mo (pz rfl (by decide)) (by decide) (Or.inl kw_305) (f := 36) rfl rfl d_Mo_grow_44 h fun v44 h => ?_
    refine ww_iload_n (pc := 47) g.1 d_Mo_grow_47 rfl (lv_at hl 0 rfl) ?_
    refine ww_iadd (pc := 48) g.1 d_Mo_grow_48 ?_
    refine ww_ldcw (pc := 49) g (v := 40000) kw_140 d_Mo_grow_49 ?_
    refine ww_icmp_le (pc := 52) (tgt := 59) g.1 d_Mo_grow_52 (by decide) h (fun c h => ?_) (fun c h => ?_)
    · exact j_Mo_grow_j59 g hR l1 k0 s ls (lv_sub hl [1, 2, 0] rfl) h
    · refine ww_aload_n (pc := 55) g.1 d_Mo_grow_55 rfl (lv_at hl 1 rfl) ?_
      obtain ⟨v56, s, hc56, h⟩ := oB_of h
      refine ww_callV (pc := 56) (rest := []) g cv_Mo_collection (Or.inl kw_456) cl_Mo (pz rfl (by decide)) (ct_Mo_collection hc56) ⟨by decide, by decide⟩ rfl hl.1 (Nat.le_of_ble_eq_true rfl) d_Mo_grow_56 rfl ?_
      refine ww_st (st' := []) rfl ?_
      exact j_Mo_grow_j59 g hR l1 k0 s ls (lv_sub hl [1, 2, 0] rfl) h
  · refine ww_aload_n (pc := 34) g.1 d_Mo_grow_34 rfl (lv_at hl 1 rfl) ?_
    refine ww_bipush (pc := 35) g.1 (v := 11) d_Mo_grow_35 (by decide) ?_
    obtain ⟨v37, s, hc37, h⟩ := oB_of h
    refine ww_callV (pc := 37) (rest := []) g cv_Mo_raise (Or.inl kw_162) cl_Mo (pz rfl (by decide)) (ct_Mo_raise hc37) ⟨by decide, by decide⟩ rfl hl.1 (Nat.le_of_ble_eq_true rfl) d_Mo_grow_37 rfl ?_
    refine ww_st (st' := [.int v37]) rfl ?_
    refine ww_pop (pc := 40) g.1 d_Mo_grow_40 rfl ?_
    refine ww_iconst (pc := 41) g.1 (v := 0) d_Mo_grow_41 (by decide) ?_
    exact ww_zretH (pc := 42) g h hR (Or.inl rfl) d_Mo_grow_42

theorem ct_Mo_grow {l : Launch} {P : PP} {q : PL} {s s' : S1} {l1 : Int32} {r : Int32} (h : M_Mo_grow l1 s = some (r, s')) : Ct l y_Mo_grow b_Mo_grow 4 (some .boolean) 6 133 P q s [.ref (q.1 0 0), .int l1] (some (.int r)) q s' := by
  refine ct_of (by decide) (Nat.le_of_ble_eq_true rfl) fun X ls eP el g hR hl => ?_
  have hR : Rt X q ((r, s') : Int32 × S1).2 (some (.int ((r, s') : Int32 × S1).1)) := hR
  have hl : lv_has ls 4 [(0, .ref (q.1 0 0)), (1, .int l1)] := hl
  generalize (r, s') = o at h hR
  unfold M_Mo_grow at h
  refine ww_aload_n (pc := 0) g.1 d_Mo_grow_0 rfl (lv_at hl 0 rfl) ?_
  refine ww_gR (pc := 1) g (k := 50) cl_Mo (pz rfl (by decide)) (by decide) (Or.inl kw_93) (f := 50) (t := 63) rfl rfl rfl d_Mo_grow_1 ?_
  refine ww_iload_n (pc := 4) g.1 d_Mo_grow_4 rfl (lv_at hl 1 rfl) ?_
  refine ww_ai (pc := 5) g (pz rfl (by decide)) rfl rfl d_Mo_grow_5 h fun v5 h => ?_
  refine ww_if_ne (pc := 6) (tgt := 13) g.1 d_Mo_grow_6 (by decide) h (fun c h => ?_) (fun c h => ?_)
  · refine ww_iconst (pc := 13) g.1 (v := 2) d_Mo_grow_13 (by decide) ?_
    refine ww_aload_n (pc := 14) g.1 d_Mo_grow_14 rfl (lv_at hl 0 rfl) ?_
    refine ww_gR (pc := 15) g (k := 50) cl_Mo (pz rfl (by decide)) (by decide) (Or.inl kw_93) (f := 50) (t := 63) rfl rfl rfl d_Mo_grow_15 ?_
    refine ww_iload_n (pc := 18) g.1 d_Mo_grow_18 rfl (lv_at hl 1 rfl) ?_
    refine ww_ai (pc := 19) g (pz rfl (by decide)) rfl rfl d_Mo_grow_19 h fun v19 h => ?_
    refine ww_imul (pc := 20) g.1 d_Mo_grow_20 ?_
    exact j_Mo_grow_j21 g hR l1 (2 * v19) s ls (lv_sub hl [0, 1] rfl) h
  · refine ww_iconst (pc := 9) g.1 (v := 4) d_Mo_grow_9 (by decide) ?_
    refine ww_goto (pc := 10) (tgt := 21) g.1 d_Mo_grow_10 (by decide) ?_
    exact j_Mo_grow_j21 g hR l1 4 s ls (lv_sub hl [0, 1] rfl) h

theorem kw_459 : Cond.constant R_Mo 986 266740 ∈ wA := kinm (show _ ∈ tables_1 from (List.mem_append_right _ (List.mem_append_right _ (List.mem_append_right _ (List.mem_append_right _ (List.mem_append_right _ (List.mem_append_right _ (List.mem_append_right _ (List.mem_append_right _ (List.mem_append_right _ (List.mem_append_right _ (List.mem_append_right _ (List.mem_append_right _ (List.mem_append_left _ (List.mem_of_getElem? (l := tables_1_13) (i := 97) (by decide +kernel)))))))))))))))) (by decide +kernel)
theorem kw_460 : Cond.instanceMethod y_Mo_collect ∈ wA := kinm (show _ ∈ tables_1 from (List.mem_append_right _ (List.mem_append_right _ (List.mem_append_right _ (List.mem_append_right _ (List.mem_append_right _ (List.mem_append_right _ (List.mem_append_right _ (List.mem_append_right _ (List.mem_append_right _ (List.mem_append_right _ (List.mem_append_right _ (List.mem_append_right _ (List.mem_append_right _ (List.mem_of_getElem? (l := tables_1_14) (i := 1) (by decide +kernel)))))))))))))))) (by decide +kernel)
theorem kw_461 : Cond.selects R_Mo y_Mo_collect y_Mo_collect ∈ wA := kinm (show _ ∈ tables_1 from (List.mem_append_right _ (List.mem_append_right _ (List.mem_append_right _ (List.mem_append_right _ (List.mem_append_right _ (List.mem_append_right _ (List.mem_append_right _ (List.mem_append_right _ (List.mem_append_right _ (List.mem_append_right _ (List.mem_append_right _ (List.mem_append_right _ (List.mem_append_right _ (List.mem_of_getElem? (l := tables_1_14) (i := 2) (by decide +kernel)))))))))))))))) (by decide +kernel)
def M_Mo_collect_j19 (k0 : Int32) (k1 : Int32) : M (Int32) :=
  oB (M_Mo_refuse k1 k0) fun v19 =>
  oC (v19 = 0)
    (oB (M_Mo_collection) fun _ =>
    oB (oGI 34 0) fun v32 =>
    oR v32)
    (oR 0)

def M_Mo_collect  : M (Int32) :=
  oB (oPI 2 0 0) fun _ =>
  oB (oGI 5 0) fun v8 =>
  oC (v8 = 0)
    (M_Mo_collect_j19 1 1)
    (M_Mo_collect_j19 0 1)

theorem cv_Mo_collect : CV y_Mo_collect b_Mo_collect 1 (some .int) 0 := ⟨kw_460, kw_461, kw_17, k_Mo_collect, by decide +kernel⟩
theorem j_Mo_collect_j19 {X : Cx} {q : PL} (g : Gd X y_Mo_collect b_Mo_collect 1 (some .int) 6 133 R_Mo) {o : (Int32) × S1} (hR : Rt X q o.2 (some (.int o.1))) (k0 : Int32) (k1 : Int32) (s : S1) (ls : Array Slot) (hl : lv_has ls 1 [(0, .ref (q.1 0 0))]) (h : M_Mo_collect_j19 k0 k1 s = some o) : WW X q s 19 ls [.int k0, .int k1, .ref (q.1 0 0)] := by
  unfold M_Mo_collect_j19 at h
  obtain ⟨v19, s, hc19, h⟩ := oB_of h
  refine ww_callV (pc := 19) (rest := []) g cv_Mo_refuse (Or.inl kw_21) cl_Mo (pz rfl (by decide)) (ct_Mo_refuse hc19) ⟨by decide, by decide⟩ rfl hl.1 (Nat.le_of_ble_eq_true rfl) d_Mo_collect_19 rfl ?_
  refine ww_st (st' := [.int v19]) rfl ?_
  refine ww_if_eq (pc := 22) (tgt := 27) g.1 d_Mo_collect_22 (by decide) h (fun c h => ?_) (fun c h => ?_)
  · refine ww_aload_n (pc := 27) g.1 d_Mo_collect_27 rfl (lv_at hl 0 rfl) ?_
    obtain ⟨v28, s, hc28, h⟩ := oB_of h
    refine ww_callV (pc := 28) (rest := []) g cv_Mo_collection (Or.inl kw_456) cl_Mo (pz rfl (by decide)) (ct_Mo_collection hc28) ⟨by decide, by decide⟩ rfl hl.1 (Nat.le_of_ble_eq_true rfl) d_Mo_collect_28 rfl ?_
    refine ww_st (st' := []) rfl ?_
    refine ww_aload_n (pc := 31) g.1 d_Mo_collect_31 rfl (lv_at hl 0 rfl) ?_
    refine ww_gI (pc := 32) g (k := 34) cl_Mo (pz rfl (by decide)) (by decide) (Or.inl kw_117) (f := 34) rfl rfl d_Mo_collect_32 h fun v32 h => ?_
    exact ww_iretH (pc := 35) g h hR d_Mo_collect_35
  · refine ww_iconst (pc := 25) g.1 (v := 0) d_Mo_collect_25 (by decide) ?_
    exact ww_iretH (pc := 26) g h hR d_Mo_collect_26

theorem ct_Mo_collect {l : Launch} {P : PP} {q : PL} {s s' : S1}  {r : Int32} (h : M_Mo_collect s = some (r, s')) : Ct l y_Mo_collect b_Mo_collect 1 (some .int) 6 133 P q s [.ref (q.1 0 0)] (some (.int r)) q s' := by
  refine ct_of (by decide) (Nat.le_of_ble_eq_true rfl) fun X ls eP el g hR hl => ?_
  have hR : Rt X q ((r, s') : Int32 × S1).2 (some (.int ((r, s') : Int32 × S1).1)) := hR
  have hl : lv_has ls 1 [(0, .ref (q.1 0 0))] := hl
  generalize (r, s') = o at h hR
  unfold M_Mo_collect at h
  refine ww_aload_n (pc := 0) g.1 d_Mo_collect_0 rfl (lv_at hl 0 rfl) ?_
  refine ww_iconst (pc := 1) g.1 (v := 0) d_Mo_collect_1 (by decide) ?_
  refine ww_pI (pc := 2) g (k := 2) cl_Mo (pz rfl (by decide)) (by decide) (Or.inl kw_14) rfl (f := 2) rfl rfl rfl rfl d_Mo_collect_2 h fun s hs h => ?_
  refine ww_aload_n (pc := 5) g.1 d_Mo_collect_5 rfl (lv_at hl 0 rfl) ?_
  refine ww_iconst (pc := 6) g.1 (v := 1) d_Mo_collect_6 (by decide) ?_
  refine ww_aload_n (pc := 7) g.1 d_Mo_collect_7 rfl (lv_at hl 0 rfl) ?_
  refine ww_gI (pc := 8) g (k := 5) cl_Mo (pz rfl (by decide)) (by decide) (Or.inl kw_290) (f := 5) rfl rfl d_Mo_collect_8 h fun v8 h => ?_
  refine ww_if_ne (pc := 11) (tgt := 18) g.1 d_Mo_collect_11 (by decide) h (fun c h => ?_) (fun c h => ?_)
  · refine ww_iconst (pc := 18) g.1 (v := 0) d_Mo_collect_18 (by decide) ?_
    exact j_Mo_collect_j19 g hR 0 1 s ls (lv_sub hl [0] rfl) h
  · refine ww_iconst (pc := 14) g.1 (v := 1) d_Mo_collect_14 (by decide) ?_
    refine ww_goto (pc := 15) (tgt := 19) g.1 d_Mo_collect_15 (by decide) ?_
    exact j_Mo_collect_j19 g hR 1 1 s ls (lv_sub hl [0] rfl) h

theorem kw_462 : Cond.fieldLink R_Mo 418 "LuaMachineModel" "noCollection" "Z" ∈ wA := kinm (show _ ∈ tables_1 from (List.mem_append_right _ (List.mem_append_right _ (List.mem_append_right _ (List.mem_append_right _ (List.mem_append_right _ (List.mem_append_right _ (List.mem_append_right _ (List.mem_append_right _ (List.mem_append_right _ (List.mem_append_left _ (List.mem_of_getElem? (l := tables_1_10) (i := 148) (by decide +kernel))))))))))))) (by decide +kernel)
theorem kw_463 : Cond.instanceMethod y_Mo_may ∈ wA := kinm (show _ ∈ tables_1 from (List.mem_append_right _ (List.mem_append_right _ (List.mem_append_right _ (List.mem_append_right _ (List.mem_append_right _ (List.mem_append_right _ (List.mem_append_right _ (List.mem_append_right _ (List.mem_append_right _ (List.mem_append_right _ (List.mem_append_left _ (List.mem_of_getElem? (l := tables_1_11) (i := 234) (by decide +kernel)))))))))))))) (by decide +kernel)
theorem kw_464 : Cond.selects R_Mo y_Mo_may y_Mo_may ∈ wA := kinp 127 (by decide +kernel) (by decide +kernel)
def M_Mo_may_j82  : M (Int32) :=
  oB (M_Mo_raise 10) fun v85 =>
  oR 0

def M_Mo_may_j56 (l1 : Int32) : M (Int32) :=
  oB (oGI 34 0) fun v57 =>
  oB (oGI 32 0) fun v61 =>
  oC (v61 ≤ v57)
    (M_Mo_may_j82)
    (oC (l1 = 0)
      (oR 1)
      (oB (oGI 39 0) fun v72 =>
      oC (32 ≤ v72)
        (M_Mo_may_j82)
        (oR 1)))

def M_Mo_may_j45 (l1 : Int32) : M (Int32) :=
  oB (oGI 92 0) fun v46 =>
  oC (v46 = 0)
    (oB (M_Mo_collection) fun _ =>
    M_Mo_may_j56 l1)
    (M_Mo_may_j56 l1)

def M_Mo_may (l1 : Int32) : M (Int32) :=
  oB (oGI 42 0) fun v1 =>
  oC (v1 = 60000)
    (oB (M_Mo_raise 11) fun v13 =>
    oR 0)
    (oB (oGI 34 0) fun v20 =>
    oB (oGI 32 0) fun v24 =>
    oC (v24 ≤ v20)
      (M_Mo_may_j45 l1)
      (oC (l1 = 0)
        (oR 1)
        (oB (oGI 39 0) fun v35 =>
        oC (32 ≤ v35)
          (M_Mo_may_j45 l1)
          (oR 1))))

theorem cv_Mo_may : CV y_Mo_may b_Mo_may 2 (some .boolean) 1 := ⟨kw_463, kw_464, kw_17, k_Mo_may, by decide +kernel⟩
theorem j_Mo_may_j82 {X : Cx} {q : PL} (g : Gd X y_Mo_may b_Mo_may 2 (some .boolean) 6 133 R_Mo) {o : (Int32) × S1} (hR : Rt X q o.2 (some (.int o.1)))  (s : S1) (ls : Array Slot) (hl : lv_has ls 2 [(0, .ref (q.1 0 0))]) (h : M_Mo_may_j82 s = some o) : WW X q s 82 ls [] := by
  unfold M_Mo_may_j82 at h
  refine ww_aload_n (pc := 82) g.1 d_Mo_may_82 rfl (lv_at hl 0 rfl) ?_
  refine ww_bipush (pc := 83) g.1 (v := 10) d_Mo_may_83 (by decide) ?_
  obtain ⟨v85, s, hc85, h⟩ := oB_of h
  refine ww_callV (pc := 85) (rest := []) g cv_Mo_raise (Or.inl kw_162) cl_Mo (pz rfl (by decide)) (ct_Mo_raise hc85) ⟨by decide, by decide⟩ rfl hl.1 (Nat.le_of_ble_eq_true rfl) d_Mo_may_85 rfl ?_
  refine ww_st (st' := [.int v85]) rfl ?_
  refine ww_pop (pc := 88) g.1 d_Mo_may_88 rfl ?_
  refine ww_iconst (pc := 89) g.1 (v := 0) d_Mo_may_89 (by decide) ?_
  exact ww_zretH (pc := 90) g h hR (Or.inl rfl) d_Mo_may_90

theorem j_Mo_may_j56 {X : Cx} {q : PL} (g : Gd X y_Mo_may b_Mo_may 2 (some .boolean) 6 133 R_Mo) {o : (Int32) × S1} (hR : Rt X q o.2 (some (.int o.1))) (l1 : Int32) (s : S1) (ls : Array Slot) (hl : lv_has ls 2 [(0, .ref (q.1 0 0)), (1, .int l1)]) (h : M_Mo_may_j56 l1 s = some o) : WW X q s 56 ls [] := by
  unfold M_Mo_may_j56 at h
  refine ww_aload_n (pc := 56) g.1 d_Mo_may_56 rfl (lv_at hl 0 rfl) ?_
  refine ww_gI (pc := 57) g (k := 34) cl_Mo (pz rfl (by decide)) (by decide) (Or.inl kw_117) (f := 34) rfl rfl d_Mo_may_57 h fun v57 h => ?_
  refine ww_aload_n (pc := 60) g.1 d_Mo_may_60 rfl (lv_at hl 0 rfl) ?_
  refine ww_gI (pc := 61) g (k := 32) cl_Mo (pz rfl (by decide)) (by decide) (Or.inl kw_169) (f := 32) rfl rfl d_Mo_may_61 h fun v61 h => ?_
  refine ww_icmp_ge (pc := 64) (tgt := 82) g.1 d_Mo_may_64 (by decide) h (fun c h => ?_) (fun c h => ?_)
  · exact j_Mo_may_j82 g hR s ls (lv_sub hl [0] rfl) h
  · refine ww_iload_n (pc := 67) g.1 d_Mo_may_67 rfl (lv_at hl 1 rfl) ?_
    refine ww_if_eq (pc := 68) (tgt := 80) g.1 d_Mo_may_68 (by decide) h (fun c h => ?_) (fun c h => ?_)
    · refine ww_iconst (pc := 80) g.1 (v := 1) d_Mo_may_80 (by decide) ?_
      exact ww_zretH (pc := 81) g h hR (Or.inr rfl) d_Mo_may_81
    · refine ww_aload_n (pc := 71) g.1 d_Mo_may_71 rfl (lv_at hl 0 rfl) ?_
      refine ww_gI (pc := 72) g (k := 39) cl_Mo (pz rfl (by decide)) (by decide) (Or.inl kw_308) (f := 39) rfl rfl d_Mo_may_72 h fun v72 h => ?_
      refine ww_bipush (pc := 75) g.1 (v := 32) d_Mo_may_75 (by decide) ?_
      refine ww_icmp_ge (pc := 77) (tgt := 82) g.1 d_Mo_may_77 (by decide) h (fun c h => ?_) (fun c h => ?_)
      · exact j_Mo_may_j82 g hR s ls (lv_sub hl [0] rfl) h
      · refine ww_iconst (pc := 80) g.1 (v := 1) d_Mo_may_80 (by decide) ?_
        exact ww_zretH (pc := 81) g h hR (Or.inr rfl) d_Mo_may_81

theorem j_Mo_may_j45 {X : Cx} {q : PL} (g : Gd X y_Mo_may b_Mo_may 2 (some .boolean) 6 133 R_Mo) {o : (Int32) × S1} (hR : Rt X q o.2 (some (.int o.1))) (l1 : Int32) (s : S1) (ls : Array Slot) (hl : lv_has ls 2 [(0, .ref (q.1 0 0)), (1, .int l1)]) (h : M_Mo_may_j45 l1 s = some o) : WW X q s 45 ls [] := by
  unfold M_Mo_may_j45 at h
  refine ww_aload_n (pc := 45) g.1 d_Mo_may_45 rfl (lv_at hl 0 rfl) ?_
  refine ww_gI (pc := 46) g (k := 92) cl_Mo (pz rfl (by decide)) (by decide) (Or.inl kw_462) (f := 92) rfl rfl d_Mo_may_46 h fun v46 h => ?_
  refine ww_if_ne (pc := 49) (tgt := 56) g.1 d_Mo_may_49 (by decide) h (fun c h => ?_) (fun c h => ?_)
  · exact j_Mo_may_j56 g hR l1 s ls (lv_sub hl [0, 1] rfl) h
  · refine ww_aload_n (pc := 52) g.1 d_Mo_may_52 rfl (lv_at hl 0 rfl) ?_
    obtain ⟨v53, s, hc53, h⟩ := oB_of h
    refine ww_callV (pc := 53) (rest := []) g cv_Mo_collection (Or.inl kw_456) cl_Mo (pz rfl (by decide)) (ct_Mo_collection hc53) ⟨by decide, by decide⟩ rfl hl.1 (Nat.le_of_ble_eq_true rfl) d_Mo_may_53 rfl ?_
    refine ww_st (st' := []) rfl ?_
    exact j_Mo_may_j56 g hR l1 s ls (lv_sub hl [0, 1] rfl) h

theorem ct_Mo_may {l : Launch} {P : PP} {q : PL} {s s' : S1} {l1 : Int32} {r : Int32} (h : M_Mo_may l1 s = some (r, s')) : Ct l y_Mo_may b_Mo_may 2 (some .boolean) 6 133 P q s [.ref (q.1 0 0), .int l1] (some (.int r)) q s' := by
  refine ct_of (by decide) (Nat.le_of_ble_eq_true rfl) fun X ls eP el g hR hl => ?_
  have hR : Rt X q ((r, s') : Int32 × S1).2 (some (.int ((r, s') : Int32 × S1).1)) := hR
  have hl : lv_has ls 2 [(0, .ref (q.1 0 0)), (1, .int l1)] := hl
  generalize (r, s') = o at h hR
  unfold M_Mo_may at h
  refine ww_aload_n (pc := 0) g.1 d_Mo_may_0 rfl (lv_at hl 0 rfl) ?_
  refine ww_gI (pc := 1) g (k := 42) cl_Mo (pz rfl (by decide)) (by decide) (Or.inl kw_116) (f := 42) rfl rfl d_Mo_may_1 h fun v1 h => ?_
  refine ww_ldcw (pc := 4) g (v := 60000) kw_74 d_Mo_may_4 ?_
  refine ww_icmp_ne (pc := 7) (tgt := 19) g.1 d_Mo_may_7 (by decide) h (fun c h => ?_) (fun c h => ?_)
  · refine ww_aload_n (pc := 19) g.1 d_Mo_may_19 rfl (lv_at hl 0 rfl) ?_
    refine ww_gI (pc := 20) g (k := 34) cl_Mo (pz rfl (by decide)) (by decide) (Or.inl kw_117) (f := 34) rfl rfl d_Mo_may_20 h fun v20 h => ?_
    refine ww_aload_n (pc := 23) g.1 d_Mo_may_23 rfl (lv_at hl 0 rfl) ?_
    refine ww_gI (pc := 24) g (k := 32) cl_Mo (pz rfl (by decide)) (by decide) (Or.inl kw_169) (f := 32) rfl rfl d_Mo_may_24 h fun v24 h => ?_
    refine ww_icmp_ge (pc := 27) (tgt := 45) g.1 d_Mo_may_27 (by decide) h (fun c h => ?_) (fun c h => ?_)
    · exact j_Mo_may_j45 g hR l1 s ls (lv_sub hl [0, 1] rfl) h
    · refine ww_iload_n (pc := 30) g.1 d_Mo_may_30 rfl (lv_at hl 1 rfl) ?_
      refine ww_if_eq (pc := 31) (tgt := 43) g.1 d_Mo_may_31 (by decide) h (fun c h => ?_) (fun c h => ?_)
      · refine ww_iconst (pc := 43) g.1 (v := 1) d_Mo_may_43 (by decide) ?_
        exact ww_zretH (pc := 44) g h hR (Or.inr rfl) d_Mo_may_44
      · refine ww_aload_n (pc := 34) g.1 d_Mo_may_34 rfl (lv_at hl 0 rfl) ?_
        refine ww_gI (pc := 35) g (k := 39) cl_Mo (pz rfl (by decide)) (by decide) (Or.inl kw_308) (f := 39) rfl rfl d_Mo_may_35 h fun v35 h => ?_
        refine ww_bipush (pc := 38) g.1 (v := 32) d_Mo_may_38 (by decide) ?_
        refine ww_icmp_ge (pc := 40) (tgt := 45) g.1 d_Mo_may_40 (by decide) h (fun c h => ?_) (fun c h => ?_)
        · exact j_Mo_may_j45 g hR l1 s ls (lv_sub hl [0, 1] rfl) h
        · refine ww_iconst (pc := 43) g.1 (v := 1) d_Mo_may_43 (by decide) ?_
          exact ww_zretH (pc := 44) g h hR (Or.inr rfl) d_Mo_may_44
  · refine ww_aload_n (pc := 10) g.1 d_Mo_may_10 rfl (lv_at hl 0 rfl) ?_
    refine ww_bipush (pc := 11) g.1 (v := 11) d_Mo_may_11 (by decide) ?_
    obtain ⟨v13, s, hc13, h⟩ := oB_of h
    refine ww_callV (pc := 13) (rest := []) g cv_Mo_raise (Or.inl kw_162) cl_Mo (pz rfl (by decide)) (ct_Mo_raise hc13) ⟨by decide, by decide⟩ rfl hl.1 (Nat.le_of_ble_eq_true rfl) d_Mo_may_13 rfl ?_
    refine ww_st (st' := [.int v13]) rfl ?_
    refine ww_pop (pc := 16) g.1 d_Mo_may_16 rfl ?_
    refine ww_iconst (pc := 17) g.1 (v := 0) d_Mo_may_17 (by decide) ?_
    exact ww_zretH (pc := 18) g h hR (Or.inl rfl) d_Mo_may_18

theorem kw_465 : Cond.methodLink R_Mo 527 y_Mo_may ∈ wA := kinm (show _ ∈ tables_1 from (List.mem_append_right _ (List.mem_append_right _ (List.mem_append_right _ (List.mem_append_right _ (List.mem_append_right _ (List.mem_append_right _ (List.mem_append_right _ (List.mem_append_right _ (List.mem_append_right _ (List.mem_append_right _ (List.mem_append_left _ (List.mem_of_getElem? (l := tables_1_11) (i := 232) (by decide +kernel)))))))))))))) (by decide +kernel)
theorem kw_466 : Cond.methodLink R_Mo 531 y_Mo_object ∈ wA := kinm (show _ ∈ tables_1 from (List.mem_append_right _ (List.mem_append_right _ (List.mem_append_right _ (List.mem_append_right _ (List.mem_append_right _ (List.mem_append_right _ (List.mem_append_right _ (List.mem_append_right _ (List.mem_append_right _ (List.mem_append_right _ (List.mem_append_right _ (List.mem_append_left _ (List.mem_of_getElem? (l := tables_1_12) (i := 58) (by decide +kernel))))))))))))))) (by decide +kernel)
theorem kw_467 : Cond.instanceMethod y_Mo_newVariable ∈ wA := kinm (show _ ∈ tables_1 from (List.mem_append_right _ (List.mem_append_right _ (List.mem_append_right _ (List.mem_append_right _ (List.mem_append_right _ (List.mem_append_right _ (List.mem_append_right _ (List.mem_append_right _ (List.mem_append_right _ (List.mem_append_right _ (List.mem_append_right _ (List.mem_append_left _ (List.mem_of_getElem? (l := tables_1_12) (i := 79) (by decide +kernel))))))))))))))) (by decide +kernel)
theorem kw_468 : Cond.selects R_Mo y_Mo_newVariable y_Mo_newVariable ∈ wA := kinp 145 (by decide +kernel) (by decide +kernel)
def M_Mo_newVariable  : M (Int32) :=
  oB (M_Mo_may 0) fun v2 =>
  oC (v2 = 0)
    (oR (-1))
    (oB (M_Mo_object 8) fun v13 =>
    oB (oSI 62 4100 0 v13 (-1)) fun _ =>
    oB (M_Va_set 4 0 v13 0 0) fun _ =>
    oR v13)

theorem cv_Mo_newVariable : CV y_Mo_newVariable b_Mo_newVariable 2 (some .int) 0 := ⟨kw_467, kw_468, kw_17, k_Mo_newVariable, by decide +kernel⟩
theorem ct_Mo_newVariable {l : Launch} {P : PP} {q : PL} {s s' : S1}  {r : Int32} (h : M_Mo_newVariable s = some (r, s')) : Ct l y_Mo_newVariable b_Mo_newVariable 2 (some .int) 7 154 P q s [.ref (q.1 0 0)] (some (.int r)) q s' := by
  refine ct_of (by decide) (Nat.le_of_ble_eq_true rfl) fun X ls eP el g hR hl => ?_
  have hR : Rt X q ((r, s') : Int32 × S1).2 (some (.int ((r, s') : Int32 × S1).1)) := hR
  have hl : lv_has ls 2 [(0, .ref (q.1 0 0))] := hl
  generalize (r, s') = o at h hR
  unfold M_Mo_newVariable at h
  refine ww_aload_n (pc := 0) g.1 d_Mo_newVariable_0 rfl (lv_at hl 0 rfl) ?_
  refine ww_iconst (pc := 1) g.1 (v := 0) d_Mo_newVariable_1 (by decide) ?_
  obtain ⟨v2, s, hc2, h⟩ := oB_of h
  refine ww_callV (pc := 2) (rest := []) g cv_Mo_may (Or.inl kw_465) cl_Mo (pz rfl (by decide)) (ct_Mo_may hc2) ⟨by decide, by decide⟩ rfl hl.1 (Nat.le_of_ble_eq_true rfl) d_Mo_newVariable_2 rfl ?_
  refine ww_st (st' := [.int v2]) rfl ?_
  refine ww_if_ne (pc := 5) (tgt := 10) g.1 d_Mo_newVariable_5 (by decide) h (fun c h => ?_) (fun c h => ?_)
  · refine ww_aload_n (pc := 10) g.1 d_Mo_newVariable_10 rfl (lv_at hl 0 rfl) ?_
    refine ww_bipush (pc := 11) g.1 (v := 8) d_Mo_newVariable_11 (by decide) ?_
    obtain ⟨v13, s, hc13, h⟩ := oB_of h
    refine ww_callV (pc := 13) (rest := []) g cv_Mo_object (Or.inl kw_466) cl_Mo (pz rfl (by decide)) (ct_Mo_object hc13) ⟨by decide, by decide⟩ rfl hl.1 (Nat.le_of_ble_eq_true rfl) d_Mo_newVariable_13 rfl ?_
    refine ww_st (st' := [.int v13]) rfl ?_
    refine ww_istore_n (pc := 16) g.1 (lv' := [(1, .int v13), (0, .ref (q.1 0 0))]) d_Mo_newVariable_16 rfl hl (by decide) rfl fun ls hl => ?_
    refine ww_aload_n (pc := 17) g.1 d_Mo_newVariable_17 rfl (lv_at hl 1 rfl) ?_
    refine ww_gR (pc := 18) g (k := 49) cl_Mo (pz rfl (by decide)) (by decide) (Or.inl kw_89) (f := 49) (t := 62) rfl rfl rfl d_Mo_newVariable_18 ?_
    refine ww_iload_n (pc := 21) g.1 d_Mo_newVariable_21 rfl (lv_at hl 0 rfl) ?_
    refine ww_iconst (pc := 22) g.1 (v := (-1)) d_Mo_newVariable_22 (by decide) ?_
    refine ww_si (pc := 23) g (pz rfl (by decide)) rfl rfl d_Mo_newVariable_23 h fun s hs h => ?_
    refine ww_aload_n (pc := 24) g.1 d_Mo_newVariable_24 rfl (lv_at hl 1 rfl) ?_
    refine ww_gR (pc := 25) g (k := 63) cl_Mo (pz rfl (by decide)) (by decide) (Or.inl kw_97) (f := 63) (t := 4) rfl rfl rfl d_Mo_newVariable_25 ?_
    refine ww_iload_n (pc := 28) g.1 d_Mo_newVariable_28 rfl (lv_at hl 0 rfl) ?_
    refine ww_iconst (pc := 29) g.1 (v := 0) d_Mo_newVariable_29 (by decide) ?_
    refine ww_lconst (pc := 30) g.1 (v := 0) d_Mo_newVariable_30 (by decide) ?_
    obtain ⟨v31, s, hc31, h⟩ := oB_of h
    refine ww_callV (pc := 31) (rest := []) g cv_Va_set (Or.inl kw_101) (cl_Va (Or.inl ⟨by decide, rfl⟩)) (pz rfl (by decide)) (ct_Va_set (Or.inl ⟨by decide, rfl⟩) hc31) ⟨by decide, by decide⟩ rfl hl.1 (Nat.le_of_ble_eq_true rfl) d_Mo_newVariable_31 rfl ?_
    refine ww_st (st' := []) rfl ?_
    refine ww_iload_n (pc := 34) g.1 d_Mo_newVariable_34 rfl (lv_at hl 0 rfl) ?_
    exact ww_iretH (pc := 35) g h hR d_Mo_newVariable_35
  · refine ww_iconst (pc := 8) g.1 (v := (-1)) d_Mo_newVariable_8 (by decide) ?_
    exact ww_iretH (pc := 9) g h hR d_Mo_newVariable_9

theorem kw_469 : Cond.methodLink R_Mo 576 y_Mo_grow ∈ wA := kinm (show _ ∈ tables_1 from (List.mem_append_right _ (List.mem_append_right _ (List.mem_append_right _ (List.mem_append_right _ (List.mem_append_right _ (List.mem_append_right _ (List.mem_append_right _ (List.mem_append_right _ (List.mem_append_right _ (List.mem_append_right _ (List.mem_append_right _ (List.mem_append_left _ (List.mem_of_getElem? (l := tables_1_12) (i := 108) (by decide +kernel))))))))))))))) (by decide +kernel)
theorem kw_470 : Cond.instanceMethod y_Mo_put ∈ wA := kinm (show _ ∈ tables_1 from (List.mem_append_right _ (List.mem_append_right _ (List.mem_append_right _ (List.mem_append_right _ (List.mem_append_right _ (List.mem_append_right _ (List.mem_append_right _ (List.mem_append_right _ (List.mem_append_right _ (List.mem_append_right _ (List.mem_append_right _ (List.mem_append_left _ (List.mem_of_getElem? (l := tables_1_12) (i := 83) (by decide +kernel))))))))))))))) (by decide +kernel)
theorem kw_471 : Cond.selects R_Mo y_Mo_put y_Mo_put ∈ wA := kinp 146 (by decide +kernel) (by decide +kernel)
def M_Mo_put_j192 (l1 : Int32) (l2 : Int32) (l3 : Int64) (l5 : Int32) (l6 : Int64) : M (Int32) :=
  oB (M_Mo_append l1 l2 l3 l5 l6) fun _ =>
  oR 1

def M_Mo_put_j174 (l1 : Int32) (l2 : Int32) (l3 : Int64) (l5 : Int32) (l6 : Int64) (l9 : Int32) (k0 : Int32) : M (Int32) :=
  oB (oPI 2050 0 l9) fun _ =>
  oC (k0 = 0)
    (oR 0)
    (M_Mo_put_j192 l1 l2 l3 l5 l6)

def M_Mo_put_j169 (l1 : Int32) (l2 : Int32) (l3 : Int64) (l5 : Int32) (l6 : Int64) (l9 : Int32) : M (Int32) :=
  M_Mo_put_j174 l1 l2 l3 l5 l6 l9 1

def M_Mo_put_j161 (l1 : Int32) (l2 : Int32) (l3 : Int64) (l5 : Int32) (l6 : Int64) (l9 : Int32) : M (Int32) :=
  oB (M_Mo_grow l1) fun v163 =>
  oC (v163 = 0)
    (M_Mo_put_j174 l1 l2 l3 l5 l6 l9 0)
    (M_Mo_put_j169 l1 l2 l3 l5 l6 l9)

def M_Mo_put_j96 (l1 : Int32) (l2 : Int32) (l3 : Int64) (l5 : Int32) (l6 : Int64) : M (Int32) :=
  oB (oGI 2050 0) fun v100 =>
  oB (M_Va_add 16 0 5 l1.toInt64) fun _ =>
  oB (M_Va_add 16 0 l2 l3) fun _ =>
  oB (M_Va_add 16 0 l5 l6) fun _ =>
  oB (oAI 64 4100 0 l1) fun v141 =>
  oB (oAI 63 4100 0 l1) fun v148 =>
  oC (v148 < (2 * v141))
    (M_Mo_put_j161 l1 l2 l3 l5 l6 v100)
    (oB (oAI 63 4100 0 l1) fun v157 =>
    oC (0 < v157)
      (M_Mo_put_j169 l1 l2 l3 l5 l6 v100)
      (M_Mo_put_j161 l1 l2 l3 l5 l6 v100))

def M_Mo_put (l1 : Int32) (l2 : Int32) (l3 : Int64) (l5 : Int32) (l6 : Int64) : M (Int32) :=
  oC (l2 = 0)
    (oB (M_Mo_raise 6) fun v7 =>
    oR 0)
    (oB (M_Mo_entry l1 l2 l3) fun v17 =>
    oC (v17 < 0)
      (oC (l5 = 0)
        (oR 1)
        (oB (oAI 64 4100 0 l1) fun v60 =>
        oB (oAI 63 4100 0 l1) fun v66 =>
        oC (v60 = v66)
          (oB (oAI 63 4100 0 l1) fun v75 =>
          oC (v75 ≤ 0)
            (M_Mo_put_j96 l1 l2 l3 l5 l6)
            (oB (oAI 62 4100 0 l1) fun v86 =>
            oB (oAI 63 4100 0 l1) fun v92 =>
            oB (M_Mo_move l1 v86 v92) fun _ =>
            M_Mo_put_j96 l1 l2 l3 l5 l6))
          (M_Mo_put_j192 l1 l2 l3 l5 l6)))
      (oB (oGI 9087 0) fun v28 =>
      oB (oK (v28 = 1)) fun _ =>
      oB (oSI 70 300000 0 v17 l5.toInt8.toInt32.toInt8.toInt32) fun _ =>
      oB (oGI 9343 0) fun v38 =>
      oB (oK (v38 = 1)) fun _ =>
      oB (oSL 72 300000 0 v17 l6) fun _ =>
      oR 1))

theorem cv_Mo_put : CV y_Mo_put b_Mo_put 11 (some .boolean) 5 := ⟨kw_470, kw_471, kw_17, k_Mo_put, by decide +kernel⟩
theorem j_Mo_put_j192 {X : Cx} {q : PL} (g : Gd X y_Mo_put b_Mo_put 11 (some .boolean) 7 156 R_Mo) {o : (Int32) × S1} (hR : Rt X q o.2 (some (.int o.1))) (l1 : Int32) (l2 : Int32) (l3 : Int64) (l5 : Int32) (l6 : Int64) (s : S1) (ls : Array Slot) (hl : lv_has ls 11 [(0, .ref (q.1 0 0)), (1, .int l1), (2, .int l2), (3, .long l3), (5, .int l5), (6, .long l6)]) (h : M_Mo_put_j192 l1 l2 l3 l5 l6 s = some o) : WW X q s 192 ls [] := by
  unfold M_Mo_put_j192 at h
  refine ww_aload_n (pc := 192) g.1 d_Mo_put_192 rfl (lv_at hl 0 rfl) ?_
  refine ww_iload_n (pc := 193) g.1 d_Mo_put_193 rfl (lv_at hl 1 rfl) ?_
  refine ww_iload_n (pc := 194) g.1 d_Mo_put_194 rfl (lv_at hl 2 rfl) ?_
  refine ww_lload_n (pc := 195) g.1 d_Mo_put_195 rfl (lv_at hl 3 rfl) ?_
  refine ww_iload (pc := 196) g.1 d_Mo_put_196 (lv_at hl 4 rfl) ?_
  refine ww_lload (pc := 198) g.1 d_Mo_put_198 (lv_at hl 5 rfl) ?_
  obtain ⟨v200, s, hc200, h⟩ := oB_of h
  refine ww_callV (pc := 200) (rest := []) g cv_Mo_append (Or.inl kw_353) cl_Mo (pz rfl (by decide)) (ct_Mo_append hc200) ⟨by decide, by decide⟩ rfl hl.1 (Nat.le_of_ble_eq_true rfl) d_Mo_put_200 rfl ?_
  refine ww_st (st' := []) rfl ?_
  refine ww_iconst (pc := 203) g.1 (v := 1) d_Mo_put_203 (by decide) ?_
  exact ww_zretH (pc := 204) g h hR (Or.inr rfl) d_Mo_put_204

theorem j_Mo_put_j174 {X : Cx} {q : PL} (g : Gd X y_Mo_put b_Mo_put 11 (some .boolean) 7 156 R_Mo) {o : (Int32) × S1} (hR : Rt X q o.2 (some (.int o.1))) (l1 : Int32) (l2 : Int32) (l3 : Int64) (l5 : Int32) (l6 : Int64) (l9 : Int32) (k0 : Int32) (s : S1) (ls : Array Slot) (hl : lv_has ls 11 [(0, .ref (q.1 0 0)), (1, .int l1), (2, .int l2), (3, .long l3), (5, .int l5), (6, .long l6), (9, .int l9)]) (h : M_Mo_put_j174 l1 l2 l3 l5 l6 l9 k0 s = some o) : WW X q s 174 ls [.int k0] := by
  unfold M_Mo_put_j174 at h
  refine ww_istore (pc := 174) g.1 (lv' := [(10, .int k0), (0, .ref (q.1 0 0)), (1, .int l1), (2, .int l2), (3, .long l3), (5, .int l5), (6, .long l6), (9, .int l9)]) d_Mo_put_174 hl (by decide) rfl fun ls hl => ?_
  refine ww_aload_n (pc := 176) g.1 d_Mo_put_176 rfl (lv_at hl 1 rfl) ?_
  refine ww_gR (pc := 177) g (k := 70) cl_Mo (pz rfl (by decide)) (by decide) (Or.inl kw_447) (f := 70) (t := 16) rfl rfl rfl d_Mo_put_177 ?_
  refine ww_iload (pc := 180) g.1 d_Mo_put_180 (lv_at hl 7 rfl) ?_
  refine ww_pI (pc := 182) g (k := 2) (cl_Va (Or.inl ⟨by decide, rfl⟩)) (pz rfl (by decide)) (by decide) (Or.inl kw_185) rfl (f := 2050) rfl rfl rfl rfl d_Mo_put_182 h fun s hs h => ?_
  refine ww_iload (pc := 185) g.1 d_Mo_put_185 (lv_at hl 0 rfl) ?_
  refine ww_if_ne (pc := 187) (tgt := 192) g.1 d_Mo_put_187 (by decide) h (fun c h => ?_) (fun c h => ?_)
  · exact j_Mo_put_j192 g hR l1 l2 l3 l5 l6 s ls (lv_sub hl [1, 2, 3, 4, 5, 6] rfl) h
  · refine ww_iconst (pc := 190) g.1 (v := 0) d_Mo_put_190 (by decide) ?_
    exact ww_zretH (pc := 191) g h hR (Or.inl rfl) d_Mo_put_191

theorem j_Mo_put_j169 {X : Cx} {q : PL} (g : Gd X y_Mo_put b_Mo_put 11 (some .boolean) 7 156 R_Mo) {o : (Int32) × S1} (hR : Rt X q o.2 (some (.int o.1))) (l1 : Int32) (l2 : Int32) (l3 : Int64) (l5 : Int32) (l6 : Int64) (l9 : Int32) (s : S1) (ls : Array Slot) (hl : lv_has ls 11 [(0, .ref (q.1 0 0)), (1, .int l1), (2, .int l2), (3, .long l3), (5, .int l5), (6, .long l6), (9, .int l9)]) (h : M_Mo_put_j169 l1 l2 l3 l5 l6 l9 s = some o) : WW X q s 169 ls [] := by
  unfold M_Mo_put_j169 at h
  refine ww_iconst (pc := 169) g.1 (v := 1) d_Mo_put_169 (by decide) ?_
  refine ww_goto (pc := 170) (tgt := 174) g.1 d_Mo_put_170 (by decide) ?_
  exact j_Mo_put_j174 g hR l1 l2 l3 l5 l6 l9 1 s ls (lv_sub hl [0, 1, 2, 3, 4, 5, 6] rfl) h

theorem j_Mo_put_j161 {X : Cx} {q : PL} (g : Gd X y_Mo_put b_Mo_put 11 (some .boolean) 7 156 R_Mo) {o : (Int32) × S1} (hR : Rt X q o.2 (some (.int o.1))) (l1 : Int32) (l2 : Int32) (l3 : Int64) (l5 : Int32) (l6 : Int64) (l9 : Int32) (s : S1) (ls : Array Slot) (hl : lv_has ls 11 [(0, .ref (q.1 0 0)), (1, .int l1), (2, .int l2), (3, .long l3), (5, .int l5), (6, .long l6), (9, .int l9)]) (h : M_Mo_put_j161 l1 l2 l3 l5 l6 l9 s = some o) : WW X q s 161 ls [] := by
  unfold M_Mo_put_j161 at h
  refine ww_aload_n (pc := 161) g.1 d_Mo_put_161 rfl (lv_at hl 0 rfl) ?_
  refine ww_iload_n (pc := 162) g.1 d_Mo_put_162 rfl (lv_at hl 1 rfl) ?_
  obtain ⟨v163, s, hc163, h⟩ := oB_of h
  refine ww_callV (pc := 163) (rest := []) g cv_Mo_grow (Or.inl kw_469) cl_Mo (pz rfl (by decide)) (ct_Mo_grow hc163) ⟨by decide, by decide⟩ rfl hl.1 (Nat.le_of_ble_eq_true rfl) d_Mo_put_163 rfl ?_
  refine ww_st (st' := [.int v163]) rfl ?_
  refine ww_if_eq (pc := 166) (tgt := 173) g.1 d_Mo_put_166 (by decide) h (fun c h => ?_) (fun c h => ?_)
  · refine ww_iconst (pc := 173) g.1 (v := 0) d_Mo_put_173 (by decide) ?_
    exact j_Mo_put_j174 g hR l1 l2 l3 l5 l6 l9 0 s ls (lv_sub hl [0, 1, 2, 3, 4, 5, 6] rfl) h
  · exact j_Mo_put_j169 g hR l1 l2 l3 l5 l6 l9 s ls (lv_sub hl [0, 1, 2, 3, 4, 5, 6] rfl) h

theorem j_Mo_put_j96 {X : Cx} {q : PL} (g : Gd X y_Mo_put b_Mo_put 11 (some .boolean) 7 156 R_Mo) {o : (Int32) × S1} (hR : Rt X q o.2 (some (.int o.1))) (l1 : Int32) (l2 : Int32) (l3 : Int64) (l5 : Int32) (l6 : Int64) (s : S1) (ls : Array Slot) (hl : lv_has ls 11 [(0, .ref (q.1 0 0)), (1, .int l1), (2, .int l2), (3, .long l3), (5, .int l5), (6, .long l6)]) (h : M_Mo_put_j96 l1 l2 l3 l5 l6 s = some o) : WW X q s 96 ls [] := by
  unfold M_Mo_put_j96 at h
  refine ww_aload_n (pc := 96) g.1 d_Mo_put_96 rfl (lv_at hl 0 rfl) ?_
  refine ww_gR (pc := 97) g (k := 70) cl_Mo (pz rfl (by decide)) (by decide) (Or.inl kw_447) (f := 70) (t := 16) rfl rfl rfl d_Mo_put_97 ?_
  refine ww_gI (pc := 100) g (k := 2) (cl_Va (Or.inl ⟨by decide, rfl⟩)) (pz rfl (by decide)) (by decide) (Or.inl kw_185) (f := 2050) rfl rfl d_Mo_put_100 h fun v100 h => ?_
  refine ww_istore (pc := 103) g.1 (lv' := [(9, .int v100), (0, .ref (q.1 0 0)), (1, .int l1), (2, .int l2), (3, .long l3), (5, .int l5), (6, .long l6)]) d_Mo_put_103 hl (by decide) rfl fun ls hl => ?_
  refine ww_aload_n (pc := 105) g.1 d_Mo_put_105 rfl (lv_at hl 1 rfl) ?_
  refine ww_gR (pc := 106) g (k := 70) cl_Mo (pz rfl (by decide)) (by decide) (Or.inl kw_447) (f := 70) (t := 16) rfl rfl rfl d_Mo_put_106 ?_
  refine ww_iconst (pc := 109) g.1 (v := 5) d_Mo_put_109 (by decide) ?_
  refine ww_iload_n (pc := 110) g.1 d_Mo_put_110 rfl (lv_at hl 2 rfl) ?_
  refine ww_i2l (pc := 111) g.1 (v := l1.toInt64) d_Mo_put_111 rfl ?_
  obtain ⟨v112, s, hc112, h⟩ := oB_of h
  refine ww_callV (pc := 112) (rest := []) g cv_Va_add (Or.inl kw_193) (cl_Va (Or.inl ⟨by decide, rfl⟩)) (pz rfl (by decide)) (ct_Va_add (Or.inl ⟨by decide, rfl⟩) hc112) ⟨by decide, by decide⟩ rfl hl.1 (Nat.le_of_ble_eq_true rfl) d_Mo_put_112 rfl ?_
  refine ww_st (st' := []) rfl ?_
  refine ww_aload_n (pc := 115) g.1 d_Mo_put_115 rfl (lv_at hl 1 rfl) ?_
  refine ww_gR (pc := 116) g (k := 70) cl_Mo (pz rfl (by decide)) (by decide) (Or.inl kw_447) (f := 70) (t := 16) rfl rfl rfl d_Mo_put_116 ?_
  refine ww_iload_n (pc := 119) g.1 d_Mo_put_119 rfl (lv_at hl 3 rfl) ?_
  refine ww_lload_n (pc := 120) g.1 d_Mo_put_120 rfl (lv_at hl 4 rfl) ?_
  obtain ⟨v121, s, hc121, h⟩ := oB_of h
  refine ww_callV (pc := 121) (rest := []) g cv_Va_add (Or.inl kw_193) (cl_Va (Or.inl ⟨by decide, rfl⟩)) (pz rfl (by decide)) (ct_Va_add (Or.inl ⟨by decide, rfl⟩) hc121) ⟨by decide, by decide⟩ rfl hl.1 (Nat.le_of_ble_eq_true rfl) d_Mo_put_121 rfl ?_
  refine ww_st (st' := []) rfl ?_
  refine ww_aload_n (pc := 124) g.1 d_Mo_put_124 rfl (lv_at hl 1 rfl) ?_
  refine ww_gR (pc := 125) g (k := 70) cl_Mo (pz rfl (by decide)) (by decide) (Or.inl kw_447) (f := 70) (t := 16) rfl rfl rfl d_Mo_put_125 ?_
  refine ww_iload (pc := 128) g.1 d_Mo_put_128 (lv_at hl 5 rfl) ?_
  refine ww_lload (pc := 130) g.1 d_Mo_put_130 (lv_at hl 6 rfl) ?_
  obtain ⟨v132, s, hc132, h⟩ := oB_of h
  refine ww_callV (pc := 132) (rest := []) g cv_Va_add (Or.inl kw_193) (cl_Va (Or.inl ⟨by decide, rfl⟩)) (pz rfl (by decide)) (ct_Va_add (Or.inl ⟨by decide, rfl⟩) hc132) ⟨by decide, by decide⟩ rfl hl.1 (Nat.le_of_ble_eq_true rfl) d_Mo_put_132 rfl ?_
  refine ww_st (st' := []) rfl ?_
  refine ww_iconst (pc := 135) g.1 (v := 2) d_Mo_put_135 (by decide) ?_
  refine ww_aload_n (pc := 136) g.1 d_Mo_put_136 rfl (lv_at hl 1 rfl) ?_
  refine ww_gR (pc := 137) g (k := 51) cl_Mo (pz rfl (by decide)) (by decide) (Or.inl kw_126) (f := 51) (t := 64) rfl rfl rfl d_Mo_put_137 ?_
  refine ww_iload_n (pc := 140) g.1 d_Mo_put_140 rfl (lv_at hl 2 rfl) ?_
  refine ww_ai (pc := 141) g (pz rfl (by decide)) rfl rfl d_Mo_put_141 h fun v141 h => ?_
  refine ww_imul (pc := 142) g.1 d_Mo_put_142 ?_
  refine ww_aload_n (pc := 143) g.1 d_Mo_put_143 rfl (lv_at hl 1 rfl) ?_
  refine ww_gR (pc := 144) g (k := 50) cl_Mo (pz rfl (by decide)) (by decide) (Or.inl kw_93) (f := 50) (t := 63) rfl rfl rfl d_Mo_put_144 ?_
  refine ww_iload_n (pc := 147) g.1 d_Mo_put_147 rfl (lv_at hl 2 rfl) ?_
  refine ww_ai (pc := 148) g (pz rfl (by decide)) rfl rfl d_Mo_put_148 h fun v148 h => ?_
  refine ww_icmp_gt (pc := 149) (tgt := 161) g.1 d_Mo_put_149 (by decide) h (fun c h => ?_) (fun c h => ?_)
  · exact j_Mo_put_j161 g hR l1 l2 l3 l5 l6 v100 s ls (lv_sub hl [1, 2, 3, 4, 5, 6, 0] rfl) h
  · refine ww_aload_n (pc := 152) g.1 d_Mo_put_152 rfl (lv_at hl 1 rfl) ?_
    refine ww_gR (pc := 153) g (k := 50) cl_Mo (pz rfl (by decide)) (by decide) (Or.inl kw_93) (f := 50) (t := 63) rfl rfl rfl d_Mo_put_153 ?_
    refine ww_iload_n (pc := 156) g.1 d_Mo_put_156 rfl (lv_at hl 2 rfl) ?_
    refine ww_ai (pc := 157) g (pz rfl (by decide)) rfl rfl d_Mo_put_157 h fun v157 h => ?_
    refine ww_if_gt (pc := 158) (tgt := 169) g.1 d_Mo_put_158 (by decide) h (fun c h => ?_) (fun c h => ?_)
    · exact j_Mo_put_j169 g hR l1 l2 l3 l5 l6 v100 s ls (lv_sub hl [1, 2, 3, 4, 5, 6, 0] rfl) h
    · exact j_Mo_put_j161 g hR l1 l2 l3 l5 l6 v100 s ls (lv_sub hl [1, 2, 3, 4, 5, 6, 0] rfl) h

theorem ct_Mo_put {l : Launch} {P : PP} {q : PL} {s s' : S1} {l1 : Int32} {l2 : Int32} {l3 : Int64} {l5 : Int32} {l6 : Int64} {r : Int32} (h : M_Mo_put l1 l2 l3 l5 l6 s = some (r, s')) : Ct l y_Mo_put b_Mo_put 11 (some .boolean) 7 156 P q s [.ref (q.1 0 0), .int l1, .int l2, .long l3, .int l5, .long l6] (some (.int r)) q s' := by
  refine ct_of (by decide) (Nat.le_of_ble_eq_true rfl) fun X ls eP el g hR hl => ?_
  have hR : Rt X q ((r, s') : Int32 × S1).2 (some (.int ((r, s') : Int32 × S1).1)) := hR
  have hl : lv_has ls 11 [(0, .ref (q.1 0 0)), (1, .int l1), (2, .int l2), (3, .long l3), (5, .int l5), (6, .long l6)] := hl
  generalize (r, s') = o at h hR
  unfold M_Mo_put at h
  refine ww_iload_n (pc := 0) g.1 d_Mo_put_0 rfl (lv_at hl 2 rfl) ?_
  refine ww_if_ne (pc := 1) (tgt := 13) g.1 d_Mo_put_1 (by decide) h (fun c h => ?_) (fun c h => ?_)
  · refine ww_aload_n (pc := 13) g.1 d_Mo_put_13 rfl (lv_at hl 0 rfl) ?_
    refine ww_iload_n (pc := 14) g.1 d_Mo_put_14 rfl (lv_at hl 1 rfl) ?_
    refine ww_iload_n (pc := 15) g.1 d_Mo_put_15 rfl (lv_at hl 2 rfl) ?_
    refine ww_lload_n (pc := 16) g.1 d_Mo_put_16 rfl (lv_at hl 3 rfl) ?_
    obtain ⟨v17, s, hc17, h⟩ := oB_of h
    refine ww_callV (pc := 17) (rest := []) g cv_Mo_entry (Or.inl kw_358) cl_Mo (pz rfl (by decide)) (ct_Mo_entry hc17) ⟨by decide, by decide⟩ rfl hl.1 (Nat.le_of_ble_eq_true rfl) d_Mo_put_17 rfl ?_
    refine ww_st (st' := [.int v17]) rfl ?_
    refine ww_istore (pc := 20) g.1 (lv' := [(8, .int v17), (0, .ref (q.1 0 0)), (1, .int l1), (2, .int l2), (3, .long l3), (5, .int l5), (6, .long l6)]) d_Mo_put_20 hl (by decide) rfl fun ls hl => ?_
    refine ww_iload (pc := 22) g.1 d_Mo_put_22 (lv_at hl 0 rfl) ?_
    refine ww_if_lt (pc := 24) (tgt := 48) g.1 d_Mo_put_24 (by decide) h (fun c h => ?_) (fun c h => ?_)
    · refine ww_iload (pc := 48) g.1 d_Mo_put_48 (lv_at hl 5 rfl) ?_
      refine ww_if_ne (pc := 50) (tgt := 55) g.1 d_Mo_put_50 (by decide) h (fun c h => ?_) (fun c h => ?_)
      · refine ww_aload_n (pc := 55) g.1 d_Mo_put_55 rfl (lv_at hl 1 rfl) ?_
        refine ww_gR (pc := 56) g (k := 51) cl_Mo (pz rfl (by decide)) (by decide) (Or.inl kw_126) (f := 51) (t := 64) rfl rfl rfl d_Mo_put_56 ?_
        refine ww_iload_n (pc := 59) g.1 d_Mo_put_59 rfl (lv_at hl 2 rfl) ?_
        refine ww_ai (pc := 60) g (pz rfl (by decide)) rfl rfl d_Mo_put_60 h fun v60 h => ?_
        refine ww_aload_n (pc := 61) g.1 d_Mo_put_61 rfl (lv_at hl 1 rfl) ?_
        refine ww_gR (pc := 62) g (k := 50) cl_Mo (pz rfl (by decide)) (by decide) (Or.inl kw_93) (f := 50) (t := 63) rfl rfl rfl d_Mo_put_62 ?_
        refine ww_iload_n (pc := 65) g.1 d_Mo_put_65 rfl (lv_at hl 2 rfl) ?_
        refine ww_ai (pc := 66) g (pz rfl (by decide)) rfl rfl d_Mo_put_66 h fun v66 h => ?_
        refine ww_icmp_ne (pc := 67) (tgt := 192) g.1 d_Mo_put_67 (by decide) h (fun c h => ?_) (fun c h => ?_)
        · exact j_Mo_put_j192 g hR l1 l2 l3 l5 l6 s ls (lv_sub hl [1, 2, 3, 4, 5, 6] rfl) h
        · refine ww_aload_n (pc := 70) g.1 d_Mo_put_70 rfl (lv_at hl 1 rfl) ?_
          refine ww_gR (pc := 71) g (k := 50) cl_Mo (pz rfl (by decide)) (by decide) (Or.inl kw_93) (f := 50) (t := 63) rfl rfl rfl d_Mo_put_71 ?_
          refine ww_iload_n (pc := 74) g.1 d_Mo_put_74 rfl (lv_at hl 2 rfl) ?_
          refine ww_ai (pc := 75) g (pz rfl (by decide)) rfl rfl d_Mo_put_75 h fun v75 h => ?_
          refine ww_if_le (pc := 76) (tgt := 96) g.1 d_Mo_put_76 (by decide) h (fun c h => ?_) (fun c h => ?_)
          · exact j_Mo_put_j96 g hR l1 l2 l3 l5 l6 s ls (lv_sub hl [1, 2, 3, 4, 5, 6] rfl) h
          · refine ww_aload_n (pc := 79) g.1 d_Mo_put_79 rfl (lv_at hl 1 rfl) ?_
            refine ww_iload_n (pc := 80) g.1 d_Mo_put_80 rfl (lv_at hl 2 rfl) ?_
            refine ww_aload_n (pc := 81) g.1 d_Mo_put_81 rfl (lv_at hl 1 rfl) ?_
            refine ww_gR (pc := 82) g (k := 49) cl_Mo (pz rfl (by decide)) (by decide) (Or.inl kw_89) (f := 49) (t := 62) rfl rfl rfl d_Mo_put_82 ?_
            refine ww_iload_n (pc := 85) g.1 d_Mo_put_85 rfl (lv_at hl 2 rfl) ?_
            refine ww_ai (pc := 86) g (pz rfl (by decide)) rfl rfl d_Mo_put_86 h fun v86 h => ?_
            refine ww_aload_n (pc := 87) g.1 d_Mo_put_87 rfl (lv_at hl 1 rfl) ?_
            refine ww_gR (pc := 88) g (k := 50) cl_Mo (pz rfl (by decide)) (by decide) (Or.inl kw_93) (f := 50) (t := 63) rfl rfl rfl d_Mo_put_88 ?_
            refine ww_iload_n (pc := 91) g.1 d_Mo_put_91 rfl (lv_at hl 2 rfl) ?_
            refine ww_ai (pc := 92) g (pz rfl (by decide)) rfl rfl d_Mo_put_92 h fun v92 h => ?_
            obtain ⟨v93, s, hc93, h⟩ := oB_of h
            refine ww_callV (pc := 93) (rest := []) g cv_Mo_move (Or.inl kw_455) cl_Mo (pz rfl (by decide)) (ct_Mo_move hc93) ⟨by decide, by decide⟩ rfl hl.1 (Nat.le_of_ble_eq_true rfl) d_Mo_put_93 rfl ?_
            refine ww_st (st' := []) rfl ?_
            exact j_Mo_put_j96 g hR l1 l2 l3 l5 l6 s ls (lv_sub hl [1, 2, 3, 4, 5, 6] rfl) h
      · refine ww_iconst (pc := 53) g.1 (v := 1) d_Mo_put_53 (by decide) ?_
        exact ww_zretH (pc := 54) g h hR (Or.inr rfl) d_Mo_put_54
    · refine ww_aload_n (pc := 27) g.1 d_Mo_put_27 rfl (lv_at hl 1 rfl) ?_
      refine ww_g5 (pc := 28) g (k := 58) cl_Mo (pz rfl (by decide)) (by decide) (Or.inl kw_129) (f := 58) (t := 70) (f2 := 9087) rfl rfl rfl rfl d_Mo_put_28 h fun v28 hv28 h => ?_
      refine ww_ok h fun cv28 h => ?_
      refine ww_dn cv28 ?_
      have pd28 : prs s 70 0 := pd (f := 9087) rfl (by decide) hv28 cv28
      refine ww_iload (pc := 31) g.1 d_Mo_put_31 (lv_at hl 0 rfl) ?_
      refine ww_iload (pc := 33) g.1 d_Mo_put_33 (lv_at hl 5 rfl) ?_
      refine ww_i2b (pc := 35) g.1 (v := l5.toInt8.toInt32) d_Mo_put_35 rfl ?_
      refine ww_sb (pc := 36) g pd28 rfl rfl d_Mo_put_36 h fun s hs h => ?_
      refine ww_aload_n (pc := 37) g.1 d_Mo_put_37 rfl (lv_at hl 1 rfl) ?_
      refine ww_g5 (pc := 38) g (k := 60) cl_Mo (pz rfl (by decide)) (by decide) (Or.inl kw_130) (f := 60) (t := 72) (f2 := 9343) rfl rfl rfl rfl d_Mo_put_38 h fun v38 hv38 h => ?_
      refine ww_ok h fun cv38 h => ?_
      refine ww_dn cv38 ?_
      have pd38 : prs s 72 0 := pd (f := 9343) rfl (by decide) hv38 cv38
      refine ww_iload (pc := 41) g.1 d_Mo_put_41 (lv_at hl 0 rfl) ?_
      refine ww_lload (pc := 43) g.1 d_Mo_put_43 (lv_at hl 6 rfl) ?_
      refine ww_sl (pc := 45) g pd38 rfl rfl d_Mo_put_45 h fun s hs h => ?_
      refine ww_iconst (pc := 46) g.1 (v := 1) d_Mo_put_46 (by decide) ?_
      exact ww_zretH (pc := 47) g h hR (Or.inr rfl) d_Mo_put_47
  · refine ww_aload_n (pc := 4) g.1 d_Mo_put_4 rfl (lv_at hl 0 rfl) ?_
    refine ww_bipush (pc := 5) g.1 (v := 6) d_Mo_put_5 (by decide) ?_
    obtain ⟨v7, s, hc7, h⟩ := oB_of h
    refine ww_callV (pc := 7) (rest := []) g cv_Mo_raise (Or.inl kw_162) cl_Mo (pz rfl (by decide)) (ct_Mo_raise hc7) ⟨by decide, by decide⟩ rfl hl.1 (Nat.le_of_ble_eq_true rfl) d_Mo_put_7 rfl ?_
    refine ww_st (st' := [.int v7]) rfl ?_
    refine ww_pop (pc := 10) g.1 d_Mo_put_10 rfl ?_
    refine ww_iconst (pc := 11) g.1 (v := 0) d_Mo_put_11 (by decide) ?_
    exact ww_zretH (pc := 12) g h hR (Or.inl rfl) d_Mo_put_12

theorem kw_472 : Cond.fieldLink R_Mo 274 "LuaMachineModel" "capture" "[I" ∈ wA := kinm (show _ ∈ tables_1 from (List.mem_append_right _ (List.mem_append_right _ (List.mem_append_right _ (List.mem_append_right _ (List.mem_append_right _ (List.mem_append_right _ (List.mem_append_right _ (List.mem_append_right _ (List.mem_append_right _ (List.mem_append_left _ (List.mem_of_getElem? (l := tables_1_10) (i := 138) (by decide +kernel))))))))))))) (by decide +kernel)
theorem kw_473 : Cond.instanceMethod y_Mo_closure ∈ wA := kinm (show _ ∈ tables_1 from (List.mem_append_right _ (List.mem_append_right _ (List.mem_append_right _ (List.mem_append_right _ (List.mem_append_right _ (List.mem_append_right _ (List.mem_append_right _ (List.mem_append_right _ (List.mem_append_right _ (List.mem_append_right _ (List.mem_append_right _ (List.mem_append_left _ (List.mem_of_getElem? (l := tables_1_12) (i := 115) (by decide +kernel))))))))))))))) (by decide +kernel)
theorem kw_474 : Cond.selects R_Mo y_Mo_closure y_Mo_closure ∈ wA := kinp 152 (by decide +kernel) (by decide +kernel)
def M_Mo_closure_L95 : (Int32 × Int32 × Int32) → M ((Int32 × Int32 × Int32) ⊕ ((Int32 × Int32))) := fun x =>
  oC (x.1 ≤ x.2.2)
    (oR (Sum.inr (x.1, x.2.1)))
    (oB (oGI 9471 0) fun v102 =>
    oB (oK (v102 = 1)) fun _ =>
    oB (oGI 41 0) fun v106 =>
    oB (oAI 77 64 0 x.2.2) fun v118 =>
    oB (oSI 73 300000 0 (v106 + x.2.2) v118) fun _ =>
    oR (Sum.inl (x.1, x.2.1, x.2.2 + 1)))

def M_Mo_closure_j83 (l3 : Int32) (l4 : Int32) (k0 : Int32) (k1 : Int32) : M (Int32) :=
  oB (oSI 63 4100 0 k1 k0) fun _ =>
  oB (oSI 64 4100 0 l4 l3) fun _ =>
  oB (oW M_Mo_closure_L95 (l3, l4, 0)) fun e95 =>
  oB (oGI 41 0) fun v128 =>
  oB (oPI 41 0 (v128 + e95.1)) fun _ =>
  oR e95.2

def M_Mo_closure (l1 : Int32) (l2 : Int32) (l3 : Int32) : M (Int32) :=
  oB (oGI 43 0) fun v1 =>
  oC ((v1 + l3) ≤ 300000)
    (oB (M_Mo_may 0) fun v21 =>
    oC (v21 = 0)
      (oR (-1))
      (oB (M_Mo_object 6) fun v32 =>
      oB (oGI 37 0) fun v39 =>
      oB (oPI 37 0 (v39 + l3)) fun _ =>
      oB (oGI 43 0) fun v49 =>
      oB (oPI 43 0 (v49 + l3)) fun _ =>
      oB (oSI 62 4100 0 v32 l1) fun _ =>
      oC (0 ≤ l1)
        (oB (oGI 41 0) fun v80 =>
        M_Mo_closure_j83 l3 v32 v80 v32)
        (M_Mo_closure_j83 l3 v32 l2 v32)))
    (oB (M_Mo_raise 11) fun v15 =>
    oR v15)

theorem cv_Mo_closure : CV y_Mo_closure b_Mo_closure 6 (some .int) 3 := ⟨kw_473, kw_474, kw_17, k_Mo_closure, by decide +kernel⟩
theorem lp_Mo_closure_L95 {X : Cx} {q : PL} (g : Gd X y_Mo_closure b_Mo_closure 6 (some .int) 7 154 R_Mo) (x : Int32 × Int32 × Int32) (s : S1) (o : ((Int32 × Int32 × Int32) ⊕ ((Int32 × Int32))) × S1) (h : M_Mo_closure_L95 x s = some o) (hR : (Sum.elim (fun y : Int32 × Int32 × Int32 => ∀ ls : Array Slot, lv_has ls 6 [(0, .ref (q.1 0 0)), (3, .int y.1), (4, .int y.2.1), (5, .int y.2.2)] → WW X q o.2 95 ls []) (fun y : Int32 × Int32 => ∀ ls : Array Slot, lv_has ls 6 [(0, .ref (q.1 0 0)), (3, .int y.1), (4, .int y.2)] → WW X q o.2 126 ls []) o.1)) : ∀ ls : Array Slot, lv_has ls 6 [(0, .ref (q.1 0 0)), (3, .int x.1), (4, .int x.2.1), (5, .int x.2.2)] → WW X q s 95 ls [] := by
  intro ls hl
  unfold M_Mo_closure_L95 at h
  refine ww_iload (pc := 95) g.1 d_Mo_closure_95 (lv_at hl 3 rfl) ?_
  refine ww_iload_n (pc := 97) g.1 d_Mo_closure_97 rfl (lv_at hl 1 rfl) ?_
  refine ww_icmp_ge (pc := 98) (tgt := 126) g.1 d_Mo_closure_98 (by decide) h (fun c h => ?_) (fun c h => ?_)
  · rw [oR_eq h] at hR
    exact hR ls (lv_sub hl [0, 1, 2] rfl)
  · refine ww_aload_n (pc := 101) g.1 d_Mo_closure_101 rfl (lv_at hl 0 rfl) ?_
    refine ww_g5 (pc := 102) g (k := 61) cl_Mo (pz rfl (by decide)) (by decide) (Or.inl kw_132) (f := 61) (t := 73) (f2 := 9471) rfl rfl rfl rfl d_Mo_closure_102 h fun v102 hv102 h => ?_
    refine ww_ok h fun cv102 h => ?_
    refine ww_dn cv102 ?_
    have pd102 : prs s 73 0 := pd (f := 9471) rfl (by decide) hv102 cv102
    refine ww_aload_n (pc := 105) g.1 d_Mo_closure_105 rfl (lv_at hl 0 rfl) ?_
    refine ww_gI (pc := 106) g (k := 41) cl_Mo (pz rfl (by decide)) (by decide) (Or.inl kw_454) (f := 41) rfl rfl d_Mo_closure_106 h fun v106 h => ?_
    refine ww_iload (pc := 109) g.1 d_Mo_closure_109 (lv_at hl 3 rfl) ?_
    refine ww_iadd (pc := 111) g.1 d_Mo_closure_111 ?_
    refine ww_aload_n (pc := 112) g.1 d_Mo_closure_112 rfl (lv_at hl 0 rfl) ?_
    refine ww_gR (pc := 113) g (k := 82) cl_Mo (pz rfl (by decide)) (by decide) (Or.inl kw_472) (f := 82) (t := 77) rfl rfl rfl d_Mo_closure_113 ?_
    refine ww_iload (pc := 116) g.1 d_Mo_closure_116 (lv_at hl 3 rfl) ?_
    refine ww_ai (pc := 118) g (pz rfl (by decide)) rfl rfl d_Mo_closure_118 h fun v118 h => ?_
    refine ww_si (pc := 119) g pd102 rfl rfl d_Mo_closure_119 h fun s hs h => ?_
    refine ww_iinc (pc := 120) g.1 (v := x.2.2 + 1) (lv' := [(5, .int (x.2.2 + 1)), (0, .ref (q.1 0 0)), (3, .int x.1), (4, .int x.2.1)]) d_Mo_closure_120 hl (k := 3) rfl (by rfl) (by decide) rfl fun ls hl => ?_
    refine ww_goto (pc := 123) (tgt := 95) g.1 d_Mo_closure_123 (by decide) ?_
    rw [oR_eq h] at hR
    exact hR ls (lv_sub hl [1, 2, 3, 0] rfl)

theorem j_Mo_closure_j83 {X : Cx} {q : PL} (g : Gd X y_Mo_closure b_Mo_closure 6 (some .int) 7 154 R_Mo) {o : (Int32) × S1} (hR : Rt X q o.2 (some (.int o.1))) (l3 : Int32) (l4 : Int32) (k0 : Int32) (k1 : Int32) (s : S1) (ls : Array Slot) (hl : lv_has ls 6 [(0, .ref (q.1 0 0)), (3, .int l3), (4, .int l4)]) (h : M_Mo_closure_j83 l3 l4 k0 k1 s = some o) : WW X q s 83 ls [.int k0, .int k1, .ref (q.1 63 0)] := by
  unfold M_Mo_closure_j83 at h
  refine ww_si (pc := 83) g (pz rfl (by decide)) rfl rfl d_Mo_closure_83 h fun s hs h => ?_
  refine ww_aload_n (pc := 84) g.1 d_Mo_closure_84 rfl (lv_at hl 0 rfl) ?_
  refine ww_gR (pc := 85) g (k := 51) cl_Mo (pz rfl (by decide)) (by decide) (Or.inl kw_126) (f := 51) (t := 64) rfl rfl rfl d_Mo_closure_85 ?_
  refine ww_iload (pc := 88) g.1 d_Mo_closure_88 (lv_at hl 2 rfl) ?_
  refine ww_iload_n (pc := 90) g.1 d_Mo_closure_90 rfl (lv_at hl 1 rfl) ?_
  refine ww_si (pc := 91) g (pz rfl (by decide)) rfl rfl d_Mo_closure_91 h fun s hs h => ?_
  refine ww_iconst (pc := 92) g.1 (v := 0) d_Mo_closure_92 (by decide) ?_
  refine ww_istore (pc := 93) g.1 (lv' := [(5, .int 0), (0, .ref (q.1 0 0)), (3, .int l3), (4, .int l4)]) d_Mo_closure_93 hl (by decide) rfl fun ls hl => ?_
  obtain ⟨e95, s1, hw, h⟩ := oB_of h
  refine oW_rule (Wh := fun (x : Int32 × Int32 × Int32) (s : S1) => ∀ ls : Array Slot, lv_has ls 6 [(0, .ref (q.1 0 0)), (3, .int x.1), (4, .int x.2.1), (5, .int x.2.2)] → WW X q s 95 ls []) (We := fun (e : (Int32 × Int32)) (s : S1) => ∀ ls : Array Slot, lv_has ls 6 [(0, .ref (q.1 0 0)), (3, .int e.1), (4, .int e.2)] → WW X q s 126 ls []) (fun x s o hb hc => lp_Mo_closure_L95 (q := q) g x s o hb hc) hw ?_ ls (lv_sub hl [1, 2, 3, 0] rfl)
  clear hw hl
  clear ls
  intro ls hl
  generalize s1 = s at h ⊢
  refine ww_aload_n (pc := 126) g.1 d_Mo_closure_126 rfl (lv_at hl 0 rfl) ?_
  refine ww_dup (pc := 127) g.1 d_Mo_closure_127 rfl ?_
  refine ww_gI (pc := 128) g (k := 41) cl_Mo (pz rfl (by decide)) (by decide) (Or.inl kw_454) (f := 41) rfl rfl d_Mo_closure_128 h fun v128 h => ?_
  refine ww_iload_n (pc := 131) g.1 d_Mo_closure_131 rfl (lv_at hl 1 rfl) ?_
  refine ww_iadd (pc := 132) g.1 d_Mo_closure_132 ?_
  refine ww_pI (pc := 133) g (k := 41) cl_Mo (pz rfl (by decide)) (by decide) (Or.inl kw_454) rfl (f := 41) rfl rfl rfl rfl d_Mo_closure_133 h fun s hs h => ?_
  refine ww_iload (pc := 136) g.1 d_Mo_closure_136 (lv_at hl 2 rfl) ?_
  exact ww_iretH (pc := 138) g h hR d_Mo_closure_138

theorem ct_Mo_closure {l : Launch} {P : PP} {q : PL} {s s' : S1} {l1 : Int32} {l2 : Int32} {l3 : Int32} {r : Int32} (h : M_Mo_closure l1 l2 l3 s = some (r, s')) : Ct l y_Mo_closure b_Mo_closure 6 (some .int) 7 154 P q s [.ref (q.1 0 0), .int l1, .int l2, .int l3] (some (.int r)) q s' := by
  refine ct_of (by decide) (Nat.le_of_ble_eq_true rfl) fun X ls eP el g hR hl => ?_
  have hR : Rt X q ((r, s') : Int32 × S1).2 (some (.int ((r, s') : Int32 × S1).1)) := hR
  have hl : lv_has ls 6 [(0, .ref (q.1 0 0)), (1, .int l1), (2, .int l2), (3, .int l3)] := hl
  generalize (r, s') = o at h hR
  unfold M_Mo_closure at h
  refine ww_aload_n (pc := 0) g.1 d_Mo_closure_0 rfl (lv_at hl 0 rfl) ?_
  refine ww_gI (pc := 1) g (k := 43) cl_Mo (pz rfl (by decide)) (by decide) (Or.inl kw_453) (f := 43) rfl rfl d_Mo_closure_1 h fun v1 h => ?_
  refine ww_iload_n (pc := 4) g.1 d_Mo_closure_4 rfl (lv_at hl 3 rfl) ?_
  refine ww_iadd (pc := 5) g.1 d_Mo_closure_5 ?_
  refine ww_ldcw (pc := 6) g (v := 300000) kw_139 d_Mo_closure_6 ?_
  refine ww_icmp_le (pc := 9) (tgt := 19) g.1 d_Mo_closure_9 (by decide) h (fun c h => ?_) (fun c h => ?_)
  · refine ww_aload_n (pc := 19) g.1 d_Mo_closure_19 rfl (lv_at hl 0 rfl) ?_
    refine ww_iconst (pc := 20) g.1 (v := 0) d_Mo_closure_20 (by decide) ?_
    obtain ⟨v21, s, hc21, h⟩ := oB_of h
    refine ww_callV (pc := 21) (rest := []) g cv_Mo_may (Or.inl kw_465) cl_Mo (pz rfl (by decide)) (ct_Mo_may hc21) ⟨by decide, by decide⟩ rfl hl.1 (Nat.le_of_ble_eq_true rfl) d_Mo_closure_21 rfl ?_
    refine ww_st (st' := [.int v21]) rfl ?_
    refine ww_if_ne (pc := 24) (tgt := 29) g.1 d_Mo_closure_24 (by decide) h (fun c h => ?_) (fun c h => ?_)
    · refine ww_aload_n (pc := 29) g.1 d_Mo_closure_29 rfl (lv_at hl 0 rfl) ?_
      refine ww_bipush (pc := 30) g.1 (v := 6) d_Mo_closure_30 (by decide) ?_
      obtain ⟨v32, s, hc32, h⟩ := oB_of h
      refine ww_callV (pc := 32) (rest := []) g cv_Mo_object (Or.inl kw_466) cl_Mo (pz rfl (by decide)) (ct_Mo_object hc32) ⟨by decide, by decide⟩ rfl hl.1 (Nat.le_of_ble_eq_true rfl) d_Mo_closure_32 rfl ?_
      refine ww_st (st' := [.int v32]) rfl ?_
      refine ww_istore (pc := 35) g.1 (lv' := [(4, .int v32), (0, .ref (q.1 0 0)), (1, .int l1), (2, .int l2), (3, .int l3)]) d_Mo_closure_35 hl (by decide) rfl fun ls hl => ?_
      refine ww_aload_n (pc := 37) g.1 d_Mo_closure_37 rfl (lv_at hl 1 rfl) ?_
      refine ww_dup (pc := 38) g.1 d_Mo_closure_38 rfl ?_
      refine ww_gI (pc := 39) g (k := 37) cl_Mo (pz rfl (by decide)) (by decide) (Or.inl kw_306) (f := 37) rfl rfl d_Mo_closure_39 h fun v39 h => ?_
      refine ww_iload_n (pc := 42) g.1 d_Mo_closure_42 rfl (lv_at hl 4 rfl) ?_
      refine ww_iadd (pc := 43) g.1 d_Mo_closure_43 ?_
      refine ww_pI (pc := 44) g (k := 37) cl_Mo (pz rfl (by decide)) (by decide) (Or.inl kw_306) rfl (f := 37) rfl rfl rfl rfl d_Mo_closure_44 h fun s hs h => ?_
      refine ww_aload_n (pc := 47) g.1 d_Mo_closure_47 rfl (lv_at hl 1 rfl) ?_
      refine ww_dup (pc := 48) g.1 d_Mo_closure_48 rfl ?_
      refine ww_gI (pc := 49) g (k := 43) cl_Mo (pz rfl (by decide)) (by decide) (Or.inl kw_453) (f := 43) rfl rfl d_Mo_closure_49 h fun v49 h => ?_
      refine ww_iload_n (pc := 52) g.1 d_Mo_closure_52 rfl (lv_at hl 4 rfl) ?_
      refine ww_iadd (pc := 53) g.1 d_Mo_closure_53 ?_
      refine ww_pI (pc := 54) g (k := 43) cl_Mo (pz rfl (by decide)) (by decide) (Or.inl kw_453) rfl (f := 43) rfl rfl rfl rfl d_Mo_closure_54 h fun s hs h => ?_
      refine ww_aload_n (pc := 57) g.1 d_Mo_closure_57 rfl (lv_at hl 1 rfl) ?_
      refine ww_gR (pc := 58) g (k := 49) cl_Mo (pz rfl (by decide)) (by decide) (Or.inl kw_89) (f := 49) (t := 62) rfl rfl rfl d_Mo_closure_58 ?_
      refine ww_iload (pc := 61) g.1 d_Mo_closure_61 (lv_at hl 0 rfl) ?_
      refine ww_iload_n (pc := 63) g.1 d_Mo_closure_63 rfl (lv_at hl 2 rfl) ?_
      refine ww_si (pc := 64) g (pz rfl (by decide)) rfl rfl d_Mo_closure_64 h fun s hs h => ?_
      refine ww_aload_n (pc := 65) g.1 d_Mo_closure_65 rfl (lv_at hl 1 rfl) ?_
      refine ww_gR (pc := 66) g (k := 50) cl_Mo (pz rfl (by decide)) (by decide) (Or.inl kw_93) (f := 50) (t := 63) rfl rfl rfl d_Mo_closure_66 ?_
      refine ww_iload (pc := 69) g.1 d_Mo_closure_69 (lv_at hl 0 rfl) ?_
      refine ww_iload_n (pc := 71) g.1 d_Mo_closure_71 rfl (lv_at hl 2 rfl) ?_
      refine ww_if_ge (pc := 72) (tgt := 79) g.1 d_Mo_closure_72 (by decide) h (fun c h => ?_) (fun c h => ?_)
      · refine ww_aload_n (pc := 79) g.1 d_Mo_closure_79 rfl (lv_at hl 1 rfl) ?_
        refine ww_gI (pc := 80) g (k := 41) cl_Mo (pz rfl (by decide)) (by decide) (Or.inl kw_454) (f := 41) rfl rfl d_Mo_closure_80 h fun v80 h => ?_
        exact j_Mo_closure_j83 g hR l3 v32 v80 v32 s ls (lv_sub hl [1, 4, 0] rfl) h
      · refine ww_iload_n (pc := 75) g.1 d_Mo_closure_75 rfl (lv_at hl 3 rfl) ?_
        refine ww_goto (pc := 76) (tgt := 83) g.1 d_Mo_closure_76 (by decide) ?_
        exact j_Mo_closure_j83 g hR l3 v32 l2 v32 s ls (lv_sub hl [1, 4, 0] rfl) h
    · refine ww_iconst (pc := 27) g.1 (v := (-1)) d_Mo_closure_27 (by decide) ?_
      exact ww_iretH (pc := 28) g h hR d_Mo_closure_28
  · refine ww_aload_n (pc := 12) g.1 d_Mo_closure_12 rfl (lv_at hl 0 rfl) ?_
    refine ww_bipush (pc := 13) g.1 (v := 11) d_Mo_closure_13 (by decide) ?_
    obtain ⟨v15, s, hc15, h⟩ := oB_of h
    refine ww_callV (pc := 15) (rest := []) g cv_Mo_raise (Or.inl kw_162) cl_Mo (pz rfl (by decide)) (ct_Mo_raise hc15) ⟨by decide, by decide⟩ rfl hl.1 (Nat.le_of_ble_eq_true rfl) d_Mo_closure_15 rfl ?_
    refine ww_st (st' := [.int v15]) rfl ?_
    exact ww_iretH (pc := 18) g h hR d_Mo_closure_18

theorem kw_475 : Cond.methodLink R_Mo 644 y_Th_begin ∈ wA := kinm (show _ ∈ tables_1 from (List.mem_append_right _ (List.mem_append_right _ (List.mem_append_right _ (List.mem_append_right _ (List.mem_append_right _ (List.mem_append_right _ (List.mem_append_right _ (List.mem_append_right _ (List.mem_append_right _ (List.mem_append_right _ (List.mem_append_right _ (List.mem_append_left _ (List.mem_of_getElem? (l := tables_1_12) (i := 121) (by decide +kernel))))))))))))))) (by decide +kernel)
theorem kw_476 : Cond.instanceMethod y_Mo_thread ∈ wA := kinm (show _ ∈ tables_1 from (List.mem_append_right _ (List.mem_append_right _ (List.mem_append_right _ (List.mem_append_right _ (List.mem_append_right _ (List.mem_append_right _ (List.mem_append_right _ (List.mem_append_right _ (List.mem_append_right _ (List.mem_append_right _ (List.mem_append_right _ (List.mem_append_left _ (List.mem_of_getElem? (l := tables_1_12) (i := 119) (by decide +kernel))))))))))))))) (by decide +kernel)
theorem kw_477 : Cond.selects R_Mo y_Mo_thread y_Mo_thread ∈ wA := kinp 153 (by decide +kernel) (by decide +kernel)
def M_Mo_thread_L12 : (Int32) → M ((Int32) ⊕ ((Int32))) := fun x =>
  oB (oK ((0 : Int32) ≤ x ∧ x < 33)) fun _ =>
  oB (oGI 3584 x) fun v18 =>
  oC (v18 < 0)
    (oR (Sum.inr x))
    (oR (Sum.inl (x + 1)))

def M_Mo_thread  : M (Int32) :=
  oB (M_Mo_may 1) fun v2 =>
  oC (v2 = 0)
    (oR (-1))
    (oB (oW M_Mo_thread_L12 0) fun e12 =>
    oB (M_Mo_object 7) fun v33 =>
    oB (oK ((0 : Int32) ≤ e12 ∧ e12 < 33)) fun _ =>
    oB (M_Th_begin e12 v33) fun _ =>
    oB (oSI 62 4100 0 v33 e12) fun _ =>
    oB (oGI 39 0) fun v56 =>
    oB (oPI 39 0 (v56 + 1)) fun _ =>
    oR v33)

theorem cv_Mo_thread : CV y_Mo_thread b_Mo_thread 3 (some .int) 0 := ⟨kw_476, kw_477, kw_17, k_Mo_thread, by decide +kernel⟩
theorem lp_Mo_thread_L12 {X : Cx} {q : PL} (g : Gd X y_Mo_thread b_Mo_thread 3 (some .int) 7 154 R_Mo) (x : Int32) (s : S1) (o : ((Int32) ⊕ ((Int32))) × S1) (h : M_Mo_thread_L12 x s = some o) (hR : (Sum.elim (fun y : Int32 => ∀ ls : Array Slot, lv_has ls 3 [(0, .ref (q.1 0 0)), (1, .int y)] → WW X q o.2 12 ls []) (fun y : Int32 => ∀ ls : Array Slot, lv_has ls 3 [(0, .ref (q.1 0 0)), (1, .int y)] → WW X q o.2 30 ls []) o.1)) : ∀ ls : Array Slot, lv_has ls 3 [(0, .ref (q.1 0 0)), (1, .int x)] → WW X q s 12 ls [] := by
  intro ls hl
  unfold M_Mo_thread_L12 at h
  refine ww_aload_n (pc := 12) g.1 d_Mo_thread_12 rfl (lv_at hl 0 rfl) ?_
  refine ww_gR (pc := 13) g (k := 71) cl_Mo (pz rfl (by decide)) (by decide) (Or.inl kw_90) (f := 71) (t := 76) rfl rfl rfl d_Mo_thread_13 ?_
  refine ww_iload_n (pc := 16) g.1 d_Mo_thread_16 rfl (lv_at hl 1 rfl) ?_
  refine ww_at (pc := 17) g (t := 28) (pz rfl (by decide)) rfl rfl rfl d_Mo_thread_17 h fun ca17 h => ?_
  refine ww_gI (pc := 18) g (k := 0) cl_Th (pt rfl rfl ca17) (by decide) (Or.inl kw_222) (f := 3584) rfl rfl d_Mo_thread_18 h fun v18 h => ?_
  refine ww_if_lt (pc := 21) (tgt := 30) g.1 d_Mo_thread_21 (by decide) h (fun c h => ?_) (fun c h => ?_)
  · rw [oR_eq h] at hR
    exact hR ls (lv_sub hl [0, 1] rfl)
  · refine ww_iinc (pc := 24) g.1 (v := x + 1) (lv' := [(1, .int (x + 1)), (0, .ref (q.1 0 0))]) d_Mo_thread_24 hl (k := 1) rfl (by rfl) (by decide) rfl fun ls hl => ?_
    refine ww_goto (pc := 27) (tgt := 12) g.1 d_Mo_thread_27 (by decide) ?_
    rw [oR_eq h] at hR
    exact hR ls (lv_sub hl [1, 0] rfl)

theorem ct_Mo_thread {l : Launch} {P : PP} {q : PL} {s s' : S1}  {r : Int32} (h : M_Mo_thread s = some (r, s')) : Ct l y_Mo_thread b_Mo_thread 3 (some .int) 7 154 P q s [.ref (q.1 0 0)] (some (.int r)) q s' := by
  refine ct_of (by decide) (Nat.le_of_ble_eq_true rfl) fun X ls eP el g hR hl => ?_
  have hR : Rt X q ((r, s') : Int32 × S1).2 (some (.int ((r, s') : Int32 × S1).1)) := hR
  have hl : lv_has ls 3 [(0, .ref (q.1 0 0))] := hl
  generalize (r, s') = o at h hR
  unfold M_Mo_thread at h
  refine ww_aload_n (pc := 0) g.1 d_Mo_thread_0 rfl (lv_at hl 0 rfl) ?_
  refine ww_iconst (pc := 1) g.1 (v := 1) d_Mo_thread_1 (by decide) ?_
  obtain ⟨v2, s, hc2, h⟩ := oB_of h
  refine ww_callV (pc := 2) (rest := []) g cv_Mo_may (Or.inl kw_465) cl_Mo (pz rfl (by decide)) (ct_Mo_may hc2) ⟨by decide, by decide⟩ rfl hl.1 (Nat.le_of_ble_eq_true rfl) d_Mo_thread_2 rfl ?_
  refine ww_st (st' := [.int v2]) rfl ?_
  refine ww_if_ne (pc := 5) (tgt := 10) g.1 d_Mo_thread_5 (by decide) h (fun c h => ?_) (fun c h => ?_)
  · refine ww_iconst (pc := 10) g.1 (v := 0) d_Mo_thread_10 (by decide) ?_
    refine ww_istore_n (pc := 11) g.1 (lv' := [(1, .int 0), (0, .ref (q.1 0 0))]) d_Mo_thread_11 rfl hl (by decide) rfl fun ls hl => ?_
    obtain ⟨e12, s1, hw, h⟩ := oB_of h
    refine oW_rule (Wh := fun (x : Int32) (s : S1) => ∀ ls : Array Slot, lv_has ls 3 [(0, .ref (q.1 0 0)), (1, .int x)] → WW X q s 12 ls []) (We := fun (e : (Int32)) (s : S1) => ∀ ls : Array Slot, lv_has ls 3 [(0, .ref (q.1 0 0)), (1, .int e)] → WW X q s 30 ls []) (fun x s o hb hc => lp_Mo_thread_L12 (q := q) g x s o hb hc) hw ?_ ls (lv_sub hl [1, 0] rfl)
    clear hw hl
    clear ls
    intro ls hl
    generalize s1 = s at h ⊢
    refine ww_aload_n (pc := 30) g.1 d_Mo_thread_30 rfl (lv_at hl 0 rfl) ?_
    refine ww_bipush (pc := 31) g.1 (v := 7) d_Mo_thread_31 (by decide) ?_
    obtain ⟨v33, s, hc33, h⟩ := oB_of h
    refine ww_callV (pc := 33) (rest := []) g cv_Mo_object (Or.inl kw_466) cl_Mo (pz rfl (by decide)) (ct_Mo_object hc33) ⟨by decide, by decide⟩ rfl hl.1 (Nat.le_of_ble_eq_true rfl) d_Mo_thread_33 rfl ?_
    refine ww_st (st' := [.int v33]) rfl ?_
    refine ww_istore_n (pc := 36) g.1 (lv' := [(2, .int v33), (0, .ref (q.1 0 0)), (1, .int e12)]) d_Mo_thread_36 rfl hl (by decide) rfl fun ls hl => ?_
    refine ww_aload_n (pc := 37) g.1 d_Mo_thread_37 rfl (lv_at hl 1 rfl) ?_
    refine ww_gR (pc := 38) g (k := 71) cl_Mo (pz rfl (by decide)) (by decide) (Or.inl kw_90) (f := 71) (t := 76) rfl rfl rfl d_Mo_thread_38 ?_
    refine ww_iload_n (pc := 41) g.1 d_Mo_thread_41 rfl (lv_at hl 2 rfl) ?_
    refine ww_at (pc := 42) g (t := 28) (pz rfl (by decide)) rfl rfl rfl d_Mo_thread_42 h fun ca42 h => ?_
    refine ww_iload_n (pc := 43) g.1 d_Mo_thread_43 rfl (lv_at hl 0 rfl) ?_
    obtain ⟨v44, s, hc44, h⟩ := oB_of h
    refine ww_callV (pc := 44) (rest := []) g cv_Th_begin (Or.inl kw_475) cl_Th (pt rfl rfl ca42) (ct_Th_begin ca42 hc44) ⟨by decide, by decide⟩ rfl hl.1 (Nat.le_of_ble_eq_true rfl) d_Mo_thread_44 rfl ?_
    refine ww_st (st' := []) rfl ?_
    refine ww_aload_n (pc := 47) g.1 d_Mo_thread_47 rfl (lv_at hl 1 rfl) ?_
    refine ww_gR (pc := 48) g (k := 49) cl_Mo (pz rfl (by decide)) (by decide) (Or.inl kw_89) (f := 49) (t := 62) rfl rfl rfl d_Mo_thread_48 ?_
    refine ww_iload_n (pc := 51) g.1 d_Mo_thread_51 rfl (lv_at hl 0 rfl) ?_
    refine ww_iload_n (pc := 52) g.1 d_Mo_thread_52 rfl (lv_at hl 2 rfl) ?_
    refine ww_si (pc := 53) g (pz rfl (by decide)) rfl rfl d_Mo_thread_53 h fun s hs h => ?_
    refine ww_aload_n (pc := 54) g.1 d_Mo_thread_54 rfl (lv_at hl 1 rfl) ?_
    refine ww_dup (pc := 55) g.1 d_Mo_thread_55 rfl ?_
    refine ww_gI (pc := 56) g (k := 39) cl_Mo (pz rfl (by decide)) (by decide) (Or.inl kw_308) (f := 39) rfl rfl d_Mo_thread_56 h fun v56 h => ?_
    refine ww_iconst (pc := 59) g.1 (v := 1) d_Mo_thread_59 (by decide) ?_
    refine ww_iadd (pc := 60) g.1 d_Mo_thread_60 ?_
    refine ww_pI (pc := 61) g (k := 39) cl_Mo (pz rfl (by decide)) (by decide) (Or.inl kw_308) rfl (f := 39) rfl rfl rfl rfl d_Mo_thread_61 h fun s hs h => ?_
    refine ww_iload_n (pc := 64) g.1 d_Mo_thread_64 rfl (lv_at hl 0 rfl) ?_
    exact ww_iretH (pc := 65) g h hR d_Mo_thread_65
  · refine ww_iconst (pc := 8) g.1 (v := (-1)) d_Mo_thread_8 (by decide) ?_
    exact ww_iretH (pc := 9) g h hR d_Mo_thread_9

