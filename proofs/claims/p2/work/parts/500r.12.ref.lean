abbrev b_Mo_move : ByteArray := prog_14_method_36_code
def y_Mo_move : MethodName := ⟨R_Mo, "move", "(III)V"⟩
abbrev w_Mo_move : List Cond := .code y_Mo_move b_Mo_move 7 none :: wA
theorem k_Mo_move : Cond.code y_Mo_move b_Mo_move 7 none ∈ wA := kinm (show _ ∈ tables_1 from (List.mem_append_right _ (List.mem_append_right _ (List.mem_append_right _ (List.mem_append_right _ (List.mem_append_right _ (List.mem_append_right _ (List.mem_append_right _ (List.mem_append_right _ (List.mem_append_right _ (List.mem_append_right _ (List.mem_append_right _ (List.mem_append_left _ (List.mem_of_getElem? (l := tables_1_12) (i := 98) (by decide +kernel))))))))))))))) (by decide +kernel)
theorem d_Mo_move_0 : decode b_Mo_move 0 = .ok (.aload_n 0, 1) := by decide +kernel
theorem d_Mo_move_1 : decode b_Mo_move 1 = .ok (.getfield 168, 3) := by decide +kernel
theorem d_Mo_move_4 : decode b_Mo_move 4 = .ok (.iload_n 1, 1) := by decide +kernel
theorem d_Mo_move_5 : decode b_Mo_move 5 = .ok (.iaload, 1) := by decide +kernel
theorem d_Mo_move_6 : decode b_Mo_move 6 = .ok (.istore 4, 2) := by decide +kernel
theorem d_Mo_move_8 : decode b_Mo_move 8 = .ok (.aload_n 0, 1) := by decide +kernel
theorem d_Mo_move_9 : decode b_Mo_move 9 = .ok (.getfield 174, 3) := by decide +kernel
theorem d_Mo_move_12 : decode b_Mo_move 12 = .ok (.iload_n 1, 1) := by decide +kernel
theorem d_Mo_move_13 : decode b_Mo_move 13 = .ok (.iaload, 1) := by decide +kernel
theorem d_Mo_move_14 : decode b_Mo_move 14 = .ok (.istore 5, 2) := by decide +kernel
theorem d_Mo_move_16 : decode b_Mo_move 16 = .ok (.aload_n 0, 1) := by decide +kernel
theorem d_Mo_move_17 : decode b_Mo_move 17 = .ok (.getfield 168, 3) := by decide +kernel
theorem d_Mo_move_20 : decode b_Mo_move 20 = .ok (.iload_n 1, 1) := by decide +kernel
theorem d_Mo_move_21 : decode b_Mo_move 21 = .ok (.iload_n 2, 1) := by decide +kernel
theorem d_Mo_move_22 : decode b_Mo_move 22 = .ok (.iastore, 1) := by decide +kernel
theorem d_Mo_move_23 : decode b_Mo_move 23 = .ok (.aload_n 0, 1) := by decide +kernel
theorem d_Mo_move_24 : decode b_Mo_move 24 = .ok (.getfield 171, 3) := by decide +kernel
theorem d_Mo_move_27 : decode b_Mo_move 27 = .ok (.iload_n 1, 1) := by decide +kernel
theorem d_Mo_move_28 : decode b_Mo_move 28 = .ok (.iload_n 3, 1) := by decide +kernel
theorem d_Mo_move_29 : decode b_Mo_move 29 = .ok (.iastore, 1) := by decide +kernel
theorem d_Mo_move_30 : decode b_Mo_move 30 = .ok (.aload_n 0, 1) := by decide +kernel
theorem d_Mo_move_31 : decode b_Mo_move 31 = .ok (.getfield 174, 3) := by decide +kernel
theorem d_Mo_move_34 : decode b_Mo_move 34 = .ok (.iload_n 1, 1) := by decide +kernel
theorem d_Mo_move_35 : decode b_Mo_move 35 = .ok (.iconst 0, 1) := by decide +kernel
theorem d_Mo_move_36 : decode b_Mo_move 36 = .ok (.iastore, 1) := by decide +kernel
theorem d_Mo_move_37 : decode b_Mo_move 37 = .ok (.aload_n 0, 1) := by decide +kernel
theorem d_Mo_move_38 : decode b_Mo_move 38 = .ok (.getfield 209, 3) := by decide +kernel
theorem d_Mo_move_41 : decode b_Mo_move 41 = .ok (.iload_n 2, 1) := by decide +kernel
theorem d_Mo_move_42 : decode b_Mo_move 42 = .ok (.iload_n 2, 1) := by decide +kernel
theorem d_Mo_move_43 : decode b_Mo_move 43 = .ok (.iload_n 3, 1) := by decide +kernel
theorem d_Mo_move_44 : decode b_Mo_move 44 = .ok (.iadd, 1) := by decide +kernel
theorem d_Mo_move_45 : decode b_Mo_move 45 = .ok (.iconst 0, 1) := by decide +kernel
theorem d_Mo_move_46 : decode b_Mo_move 46 = .ok (.invokestatic 555, 3) := by decide +kernel
theorem d_Mo_move_49 : decode b_Mo_move 49 = .ok (.iconst 0, 1) := by decide +kernel
theorem d_Mo_move_50 : decode b_Mo_move 50 = .ok (.istore 6, 2) := by decide +kernel
theorem d_Mo_move_52 : decode b_Mo_move 52 = .ok (.iload 6, 2) := by decide +kernel
theorem d_Mo_move_54 : decode b_Mo_move 54 = .ok (.iload 5, 2) := by decide +kernel
theorem d_Mo_move_56 : decode b_Mo_move 56 = .ok (.if_icmp .ge 67, 3) := by decide +kernel
theorem d_Mo_move_59 : decode b_Mo_move 59 = .ok (.aload_n 0, 1) := by decide +kernel
theorem d_Mo_move_60 : decode b_Mo_move 60 = .ok (.getfield 196, 3) := by decide +kernel
theorem d_Mo_move_63 : decode b_Mo_move 63 = .ok (.iload 4, 2) := by decide +kernel
theorem d_Mo_move_65 : decode b_Mo_move 65 = .ok (.iload 6, 2) := by decide +kernel
theorem d_Mo_move_67 : decode b_Mo_move 67 = .ok (.iadd, 1) := by decide +kernel
theorem d_Mo_move_68 : decode b_Mo_move 68 = .ok (.baload, 1) := by decide +kernel
theorem d_Mo_move_69 : decode b_Mo_move 69 = .ok (.ifCond .eq 48, 3) := by decide +kernel
theorem d_Mo_move_72 : decode b_Mo_move 72 = .ok (.aload_n 0, 1) := by decide +kernel
theorem d_Mo_move_73 : decode b_Mo_move 73 = .ok (.iload_n 1, 1) := by decide +kernel
theorem d_Mo_move_74 : decode b_Mo_move 74 = .ok (.aload_n 0, 1) := by decide +kernel
theorem d_Mo_move_75 : decode b_Mo_move 75 = .ok (.getfield 193, 3) := by decide +kernel
theorem d_Mo_move_78 : decode b_Mo_move 78 = .ok (.iload 4, 2) := by decide +kernel
theorem d_Mo_move_80 : decode b_Mo_move 80 = .ok (.iload 6, 2) := by decide +kernel
theorem d_Mo_move_82 : decode b_Mo_move 82 = .ok (.iadd, 1) := by decide +kernel
theorem d_Mo_move_83 : decode b_Mo_move 83 = .ok (.baload, 1) := by decide +kernel
theorem d_Mo_move_84 : decode b_Mo_move 84 = .ok (.aload_n 0, 1) := by decide +kernel
theorem d_Mo_move_85 : decode b_Mo_move 85 = .ok (.getfield 199, 3) := by decide +kernel
theorem d_Mo_move_88 : decode b_Mo_move 88 = .ok (.iload 4, 2) := by decide +kernel
theorem d_Mo_move_90 : decode b_Mo_move 90 = .ok (.iload 6, 2) := by decide +kernel
theorem d_Mo_move_92 : decode b_Mo_move 92 = .ok (.iadd, 1) := by decide +kernel
theorem d_Mo_move_93 : decode b_Mo_move 93 = .ok (.laload, 1) := by decide +kernel
theorem d_Mo_move_94 : decode b_Mo_move 94 = .ok (.aload_n 0, 1) := by decide +kernel
theorem d_Mo_move_95 : decode b_Mo_move 95 = .ok (.getfield 196, 3) := by decide +kernel
theorem d_Mo_move_98 : decode b_Mo_move 98 = .ok (.iload 4, 2) := by decide +kernel
theorem d_Mo_move_100 : decode b_Mo_move 100 = .ok (.iload 6, 2) := by decide +kernel
theorem d_Mo_move_102 : decode b_Mo_move 102 = .ok (.iadd, 1) := by decide +kernel
theorem d_Mo_move_103 : decode b_Mo_move 103 = .ok (.baload, 1) := by decide +kernel
theorem d_Mo_move_104 : decode b_Mo_move 104 = .ok (.aload_n 0, 1) := by decide +kernel
theorem d_Mo_move_105 : decode b_Mo_move 105 = .ok (.getfield 203, 3) := by decide +kernel
theorem d_Mo_move_108 : decode b_Mo_move 108 = .ok (.iload 4, 2) := by decide +kernel
theorem d_Mo_move_110 : decode b_Mo_move 110 = .ok (.iload 6, 2) := by decide +kernel
theorem d_Mo_move_112 : decode b_Mo_move 112 = .ok (.iadd, 1) := by decide +kernel
theorem d_Mo_move_113 : decode b_Mo_move 113 = .ok (.laload, 1) := by decide +kernel
theorem d_Mo_move_114 : decode b_Mo_move 114 = .ok (.invokevirtual 561, 3) := by decide +kernel
theorem d_Mo_move_117 : decode b_Mo_move 117 = .ok (.iinc 6 1, 3) := by decide +kernel
theorem d_Mo_move_120 : decode b_Mo_move 120 = .ok (.goto (-68), 3) := by decide +kernel
theorem d_Mo_move_123 : decode b_Mo_move 123 = .ok (.return_, 1) := by decide +kernel
theorem kw_346 : Cond.methodLink R_Mo 555 y_Arr_fill_____ ∈ wA := kinm (show _ ∈ tables_1 from (List.mem_append_right _ (List.mem_append_right _ (List.mem_append_right _ (List.mem_append_right _ (List.mem_append_right _ (List.mem_append_right _ (List.mem_append_right _ (List.mem_append_right _ (List.mem_append_right _ (List.mem_append_right _ (List.mem_append_right _ (List.mem_append_left _ (List.mem_of_getElem? (l := tables_1_12) (i := 99) (by decide +kernel))))))))))))))) (by decide +kernel)
theorem kw_347 : Cond.methodLink R_Mo 561 y_Mo_append ∈ wA := kinm (show _ ∈ tables_1 from (List.mem_append_right _ (List.mem_append_right _ (List.mem_append_right _ (List.mem_append_right _ (List.mem_append_right _ (List.mem_append_right _ (List.mem_append_right _ (List.mem_append_right _ (List.mem_append_right _ (List.mem_append_right _ (List.mem_append_right _ (List.mem_append_left _ (List.mem_of_getElem? (l := tables_1_12) (i := 100) (by decide +kernel))))))))))))))) (by decide +kernel)
theorem kw_348 : Cond.instanceMethod y_Mo_move ∈ wA := kinm (show _ ∈ tables_1 from (List.mem_append_right _ (List.mem_append_right _ (List.mem_append_right _ (List.mem_append_right _ (List.mem_append_right _ (List.mem_append_right _ (List.mem_append_right _ (List.mem_append_right _ (List.mem_append_right _ (List.mem_append_right _ (List.mem_append_right _ (List.mem_append_left _ (List.mem_of_getElem? (l := tables_1_12) (i := 97) (by decide +kernel))))))))))))))) (by decide +kernel)
theorem kw_349 : Cond.selects R_Mo y_Mo_move y_Mo_move ∈ wA := kinp 149 (by decide +kernel) (by decide +kernel)
theorem cv_Mo_move : CV y_Mo_move b_Mo_move 7 none 3 := ⟨kw_348, kw_349, kw_17, k_Mo_move, by decide +kernel⟩
theorem j_Mo_move_j117 {X : Cx} {q : PL} (g : Gd X y_Mo_move b_Mo_move 7 none 3 79 R_Mo) {o : ((Int32 × Int32 × Int32 × Int32) ⊕ ((Unit))) × S1} (hR : (Sum.elim (fun y : Int32 × Int32 × Int32 × Int32 => ∀ ls : Array Slot, lv_has ls 7 [(0, .ref (q.1 0 0)), (1, .int y.1), (4, .int y.2.1), (5, .int y.2.2.1), (6, .int y.2.2.2)] → WW X q o.2 52 ls []) (fun y : Unit => ∀ ls : Array Slot, lv_has ls 7 [] → WW X q o.2 123 ls []) o.1)) (l1 : Int32) (l4 : Int32) (l5 : Int32) (l6 : Int32) (s : S1) (ls : Array Slot) (hl : lv_has ls 7 [(0, .ref (q.1 0 0)), (1, .int l1), (4, .int l4), (5, .int l5), (6, .int l6)]) (h : M_Mo_move_j117 l1 l4 l5 l6 s = some o) : WW X q s 117 ls [] := by
  unfold M_Mo_move_j117 at h
  refine ww_iinc (pc := 117) g.1 (v := l6 + 1) (lv' := [(6, .int (l6 + 1)), (0, .ref (q.1 0 0)), (1, .int l1), (4, .int l4), (5, .int l5)]) d_Mo_move_117 hl (k := 4) rfl (by rfl) (by decide) rfl fun ls hl => ?_
  refine ww_goto (pc := 120) (tgt := 52) g.1 d_Mo_move_120 (by decide) ?_
  rw [oR_eq h] at hR
  exact hR ls (lv_sub hl [1, 2, 3, 4, 0] rfl)

theorem lp_Mo_move_L52 {X : Cx} {q : PL} (g : Gd X y_Mo_move b_Mo_move 7 none 3 79 R_Mo) (x : Int32 × Int32 × Int32 × Int32) (s : S1) (o : ((Int32 × Int32 × Int32 × Int32) ⊕ ((Unit))) × S1) (h : M_Mo_move_L52 x s = some o) (hR : (Sum.elim (fun y : Int32 × Int32 × Int32 × Int32 => ∀ ls : Array Slot, lv_has ls 7 [(0, .ref (q.1 0 0)), (1, .int y.1), (4, .int y.2.1), (5, .int y.2.2.1), (6, .int y.2.2.2)] → WW X q o.2 52 ls []) (fun y : Unit => ∀ ls : Array Slot, lv_has ls 7 [] → WW X q o.2 123 ls []) o.1)) : ∀ ls : Array Slot, lv_has ls 7 [(0, .ref (q.1 0 0)), (1, .int x.1), (4, .int x.2.1), (5, .int x.2.2.1), (6, .int x.2.2.2)] → WW X q s 52 ls [] := by
  intro ls hl
  unfold M_Mo_move_L52 at h
  refine ww_iload (pc := 52) g.1 d_Mo_move_52 (lv_at hl 4 rfl) ?_
  refine ww_iload (pc := 54) g.1 d_Mo_move_54 (lv_at hl 3 rfl) ?_
  refine ww_icmp_ge (pc := 56) (tgt := 123) g.1 d_Mo_move_56 (by decide) h (fun c h => ?_) (fun c h => ?_)
  · rw [oR_eq h] at hR
    exact hR ls (lv_sub hl [] rfl)
  · refine ww_aload_n (pc := 59) g.1 d_Mo_move_59 rfl (lv_at hl 0 rfl) ?_
    refine ww_g5 (pc := 60) g (k := 58) cl_Mo (pz rfl (by decide)) (by decide) (Or.inl kw_126) (f := 58) (t := 70) (f2 := 9087) rfl rfl rfl rfl d_Mo_move_60 h fun v60 hv60 h => ?_
    refine ww_ok h fun cv60 h => ?_
    refine ww_dn cv60 ?_
    have pd60 : prs s 70 0 := pd (f := 9087) rfl (by decide) hv60 cv60
    refine ww_iload (pc := 63) g.1 d_Mo_move_63 (lv_at hl 2 rfl) ?_
    refine ww_iload (pc := 65) g.1 d_Mo_move_65 (lv_at hl 4 rfl) ?_
    refine ww_iadd (pc := 67) g.1 d_Mo_move_67 ?_
    refine ww_ab (pc := 68) g pd60 rfl rfl d_Mo_move_68 h fun v68 h => ?_
    refine ww_if_eq (pc := 69) (tgt := 117) g.1 d_Mo_move_69 (by decide) h (fun c h => ?_) (fun c h => ?_)
    · exact j_Mo_move_j117 g hR x.1 x.2.1 x.2.2.1 x.2.2.2 s ls (lv_sub hl [0, 1, 2, 3, 4] rfl) h
    · refine ww_aload_n (pc := 72) g.1 d_Mo_move_72 rfl (lv_at hl 0 rfl) ?_
      refine ww_iload_n (pc := 73) g.1 d_Mo_move_73 rfl (lv_at hl 1 rfl) ?_
      refine ww_aload_n (pc := 74) g.1 d_Mo_move_74 rfl (lv_at hl 0 rfl) ?_
      refine ww_g5 (pc := 75) g (k := 57) cl_Mo (pz rfl (by decide)) (by decide) (Or.inl kw_124) (f := 57) (t := 69) (f2 := 8959) rfl rfl rfl rfl d_Mo_move_75 h fun v75 hv75 h => ?_
      refine ww_ok h fun cv75 h => ?_
      refine ww_dn cv75 ?_
      have pd75 : prs s 69 0 := pd (f := 8959) rfl (by decide) hv75 cv75
      refine ww_iload (pc := 78) g.1 d_Mo_move_78 (lv_at hl 2 rfl) ?_
      refine ww_iload (pc := 80) g.1 d_Mo_move_80 (lv_at hl 4 rfl) ?_
      refine ww_iadd (pc := 82) g.1 d_Mo_move_82 ?_
      refine ww_ab (pc := 83) g pd75 rfl rfl d_Mo_move_83 h fun v83 h => ?_
      refine ww_aload_n (pc := 84) g.1 d_Mo_move_84 rfl (lv_at hl 0 rfl) ?_
      refine ww_g5 (pc := 85) g (k := 59) cl_Mo (pz rfl (by decide)) (by decide) (Or.inl kw_125) (f := 59) (t := 71) (f2 := 9215) rfl rfl rfl rfl d_Mo_move_85 h fun v85 hv85 h => ?_
      refine ww_ok h fun cv85 h => ?_
      refine ww_dn cv85 ?_
      have pd85 : prs s 71 0 := pd (f := 9215) rfl (by decide) hv85 cv85
      refine ww_iload (pc := 88) g.1 d_Mo_move_88 (lv_at hl 2 rfl) ?_
      refine ww_iload (pc := 90) g.1 d_Mo_move_90 (lv_at hl 4 rfl) ?_
      refine ww_iadd (pc := 92) g.1 d_Mo_move_92 ?_
      refine ww_al (pc := 93) g pd85 rfl rfl d_Mo_move_93 h fun v93 h => ?_
      refine ww_aload_n (pc := 94) g.1 d_Mo_move_94 rfl (lv_at hl 0 rfl) ?_
      refine ww_g5 (pc := 95) g (k := 58) cl_Mo (pz rfl (by decide)) (by decide) (Or.inl kw_126) (f := 58) (t := 70) (f2 := 9087) rfl rfl rfl rfl d_Mo_move_95 h fun v95 hv95 h => ?_
      refine ww_ok h fun cv95 h => ?_
      refine ww_dn cv95 ?_
      have pd95 : prs s 70 0 := pd (f := 9087) rfl (by decide) hv95 cv95
      refine ww_iload (pc := 98) g.1 d_Mo_move_98 (lv_at hl 2 rfl) ?_
      refine ww_iload (pc := 100) g.1 d_Mo_move_100 (lv_at hl 4 rfl) ?_
      refine ww_iadd (pc := 102) g.1 d_Mo_move_102 ?_
      refine ww_ab (pc := 103) g pd95 rfl rfl d_Mo_move_103 h fun v103 h => ?_
      refine ww_aload_n (pc := 104) g.1 d_Mo_move_104 rfl (lv_at hl 0 rfl) ?_
      refine ww_g5 (pc := 105) g (k := 60) cl_Mo (pz rfl (by decide)) (by decide) (Or.inl kw_127) (f := 60) (t := 72) (f2 := 9343) rfl rfl rfl rfl d_Mo_move_105 h fun v105 hv105 h => ?_
      refine ww_ok h fun cv105 h => ?_
      refine ww_dn cv105 ?_
      have pd105 : prs s 72 0 := pd (f := 9343) rfl (by decide) hv105 cv105
      refine ww_iload (pc := 108) g.1 d_Mo_move_108 (lv_at hl 2 rfl) ?_
      refine ww_iload (pc := 110) g.1 d_Mo_move_110 (lv_at hl 4 rfl) ?_
      refine ww_iadd (pc := 112) g.1 d_Mo_move_112 ?_
      refine ww_al (pc := 113) g pd105 rfl rfl d_Mo_move_113 h fun v113 h => ?_
      obtain ⟨v114, s, hc114, h⟩ := oB_of h
      refine ww_callV (pc := 114) (rest := []) g cv_Mo_append (Or.inl kw_347) cl_Mo (pz rfl (by decide)) (ct_Mo_append hc114) ⟨by decide, by decide⟩ rfl hl.1 (Nat.le_of_ble_eq_true rfl) d_Mo_move_114 rfl ?_
      refine ww_st (st' := []) rfl ?_
      exact j_Mo_move_j117 g hR x.1 x.2.1 x.2.2.1 x.2.2.2 s ls (lv_sub hl [0, 1, 2, 3, 4] rfl) h

theorem ct_Mo_move {l : Launch} {P : PP} {q : PL} {s s' : S1} {l1 : Int32} {l2 : Int32} {l3 : Int32} {r : Unit} (h : M_Mo_move l1 l2 l3 s = some (r, s')) : Ct l y_Mo_move b_Mo_move 7 none 3 79 P q s [.ref (q.1 0 0), .int l1, .int l2, .int l3] none q s' := by
  refine ct_of (by decide) (Nat.le_of_ble_eq_true rfl) fun X ls eP el g hR hl => ?_
  subst eP
  have hR : Rt X q ((r, s') : Unit × S1).2 none := hR
  have hl : lv_has ls 7 [(0, .ref (q.1 0 0)), (1, .int l1), (2, .int l2), (3, .int l3)] := hl
  generalize (r, s') = o at h hR
  unfold M_Mo_move at h
  refine ww_aload_n (pc := 0) g.1 d_Mo_move_0 rfl (lv_at hl 0 rfl) ?_
  refine ww_gR (pc := 1) g (k := 49) cl_Mo (pz rfl (by decide)) (by decide) (Or.inl kw_87) (f := 49) (t := 62) rfl rfl rfl d_Mo_move_1 ?_
  refine ww_iload_n (pc := 4) g.1 d_Mo_move_4 rfl (lv_at hl 1 rfl) ?_
  refine ww_ai (pc := 5) g (pz rfl (by decide)) rfl rfl d_Mo_move_5 h fun v5 h => ?_
  refine ww_istore (pc := 6) (i := 4) g.1 (lv' := [(4, .int v5), (0, .ref (q.1 0 0)), (1, .int l1), (2, .int l2), (3, .int l3)]) d_Mo_move_6 hl (by decide) rfl fun ls hl => ?_
  refine ww_aload_n (pc := 8) g.1 d_Mo_move_8 rfl (lv_at hl 1 rfl) ?_
  refine ww_gR (pc := 9) g (k := 51) cl_Mo (pz rfl (by decide)) (by decide) (Or.inl kw_123) (f := 51) (t := 64) rfl rfl rfl d_Mo_move_9 ?_
  refine ww_iload_n (pc := 12) g.1 d_Mo_move_12 rfl (lv_at hl 2 rfl) ?_
  refine ww_ai (pc := 13) g (pz rfl (by decide)) rfl rfl d_Mo_move_13 h fun v13 h => ?_
  refine ww_istore (pc := 14) (i := 5) g.1 (lv' := [(5, .int v13), (4, .int v5), (0, .ref (q.1 0 0)), (1, .int l1), (2, .int l2), (3, .int l3)]) d_Mo_move_14 hl (by decide) rfl fun ls hl => ?_
  refine ww_aload_n (pc := 16) g.1 d_Mo_move_16 rfl (lv_at hl 2 rfl) ?_
  refine ww_gR (pc := 17) g (k := 49) cl_Mo (pz rfl (by decide)) (by decide) (Or.inl kw_87) (f := 49) (t := 62) rfl rfl rfl d_Mo_move_17 ?_
  refine ww_iload_n (pc := 20) g.1 d_Mo_move_20 rfl (lv_at hl 3 rfl) ?_
  refine ww_iload_n (pc := 21) g.1 d_Mo_move_21 rfl (lv_at hl 4 rfl) ?_
  refine ww_si (pc := 22) g (pz rfl (by decide)) rfl rfl d_Mo_move_22 h fun s hs h => ?_
  refine ww_aload_n (pc := 23) g.1 d_Mo_move_23 rfl (lv_at hl 2 rfl) ?_
  refine ww_gR (pc := 24) g (k := 50) cl_Mo (pz rfl (by decide)) (by decide) (Or.inl kw_91) (f := 50) (t := 63) rfl rfl rfl d_Mo_move_24 ?_
  refine ww_iload_n (pc := 27) g.1 d_Mo_move_27 rfl (lv_at hl 3 rfl) ?_
  refine ww_iload_n (pc := 28) g.1 d_Mo_move_28 rfl (lv_at hl 5 rfl) ?_
  refine ww_si (pc := 29) g (pz rfl (by decide)) rfl rfl d_Mo_move_29 h fun s hs h => ?_
  refine ww_aload_n (pc := 30) g.1 d_Mo_move_30 rfl (lv_at hl 2 rfl) ?_
  refine ww_gR (pc := 31) g (k := 51) cl_Mo (pz rfl (by decide)) (by decide) (Or.inl kw_123) (f := 51) (t := 64) rfl rfl rfl d_Mo_move_31 ?_
  refine ww_iload_n (pc := 34) g.1 d_Mo_move_34 rfl (lv_at hl 3 rfl) ?_
  refine ww_iconst (pc := 35) g.1 (v := 0) d_Mo_move_35 (by decide) ?_
  refine ww_si (pc := 36) g (pz rfl (by decide)) rfl rfl d_Mo_move_36 h fun s hs h => ?_
  refine ww_aload_n (pc := 37) g.1 d_Mo_move_37 rfl (lv_at hl 2 rfl) ?_
  refine ww_g5 (pc := 38) g (k := 62) cl_Mo (pz rfl (by decide)) (by decide) (Or.inl kw_130) (f := 62) (t := 74) (f2 := 9599) rfl rfl rfl rfl d_Mo_move_38 h fun v38 hv38 h => ?_
  refine ww_ok h fun cv38 h => ?_
  refine ww_dn cv38 ?_
  have pd38 : prs s 74 0 := pd (f := 9599) rfl (by decide) hv38 cv38
  refine ww_iload_n (pc := 41) g.1 d_Mo_move_41 rfl (lv_at hl 4 rfl) ?_
  refine ww_iload_n (pc := 42) g.1 d_Mo_move_42 rfl (lv_at hl 4 rfl) ?_
  refine ww_iload_n (pc := 43) g.1 d_Mo_move_43 rfl (lv_at hl 5 rfl) ?_
  refine ww_iadd (pc := 44) g.1 d_Mo_move_44 ?_
  refine ww_iconst (pc := 45) g.1 (v := 0) d_Mo_move_45 (by decide) ?_
  obtain ⟨v46, s, hc46, h⟩ := oB_of h
  refine ww_callS (pc := 46) (rest := []) g cs_Arr_fill_____ (Or.inl kw_346) (ct_Arr_fill_____ ⟨rfl, by decide, by decide⟩ pd38 hc46) ⟨by decide, by decide⟩ rfl hl.1 (Nat.le_of_ble_eq_true rfl) d_Mo_move_46 rfl ?_
  refine ww_st (st' := []) rfl ?_
  refine ww_iconst (pc := 49) g.1 (v := 0) d_Mo_move_49 (by decide) ?_
  refine ww_istore (pc := 50) (i := 6) g.1 (lv' := [(6, .int 0), (5, .int v13), (4, .int v5), (0, .ref (q.1 0 0)), (1, .int l1), (2, .int l2), (3, .int l3)]) d_Mo_move_50 hl (by decide) rfl fun ls hl => ?_
  obtain ⟨e52, s1, hw, h⟩ := oB_of h
  refine oW_rule (Wh := fun (x : Int32 × Int32 × Int32 × Int32) (s : S1) => ∀ ls : Array Slot, lv_has ls 7 [(0, .ref (q.1 0 0)), (1, .int x.1), (4, .int x.2.1), (5, .int x.2.2.1), (6, .int x.2.2.2)] → WW X q s 52 ls []) (We := fun (e : (Unit)) (s : S1) => ∀ ls : Array Slot, lv_has ls 7 [] → WW X q s 123 ls []) (fun x s o hb hc => lp_Mo_move_L52 (q := q) g x s o hb hc) hw ?_ ls (lv_sub hl [3, 4, 2, 1, 0] rfl)
  clear hw hl
  clear ls
  intro ls hl
  generalize s1 = s at h ⊢
  exact ww_vretH (pc := 123) g h hR d_Mo_move_123

abbrev b_Mo_topOf : ByteArray := prog_14_method_69_code
def y_Mo_topOf : MethodName := ⟨R_Mo, "topOf", "(LLuaMachineModel$Thread_;)I"⟩
abbrev w_Mo_topOf : List Cond := .code y_Mo_topOf b_Mo_topOf 3 (some .int) :: wA
theorem k_Mo_topOf : Cond.code y_Mo_topOf b_Mo_topOf 3 (some .int) ∈ wA := kinm (show _ ∈ tables_1 from (List.mem_append_right _ (List.mem_append_right _ (List.mem_append_right _ (List.mem_append_right _ (List.mem_append_right _ (List.mem_append_right _ (List.mem_append_right _ (List.mem_append_right _ (List.mem_append_right _ (List.mem_append_right _ (List.mem_append_right _ (List.mem_append_left _ (List.mem_of_getElem? (l := tables_1_12) (i := 133) (by decide +kernel))))))))))))))) (by decide +kernel)
theorem d_Mo_topOf_0 : decode b_Mo_topOf 0 = .ok (.aload_n 1, 1) := by decide +kernel
theorem d_Mo_topOf_1 : decode b_Mo_topOf 1 = .ok (.invokevirtual 703, 3) := by decide +kernel
theorem d_Mo_topOf_4 : decode b_Mo_topOf 4 = .ok (.istore_n 2, 1) := by decide +kernel
theorem d_Mo_topOf_5 : decode b_Mo_topOf 5 = .ok (.iload_n 2, 1) := by decide +kernel
theorem d_Mo_topOf_6 : decode b_Mo_topOf 6 = .ok (.ifCond .lt 42, 3) := by decide +kernel
theorem d_Mo_topOf_9 : decode b_Mo_topOf 9 = .ok (.aload_n 1, 1) := by decide +kernel
theorem d_Mo_topOf_10 : decode b_Mo_topOf 10 = .ok (.getfield 733, 3) := by decide +kernel
theorem d_Mo_topOf_13 : decode b_Mo_topOf 13 = .ok (.iload_n 2, 1) := by decide +kernel
theorem d_Mo_topOf_14 : decode b_Mo_topOf 14 = .ok (.iaload, 1) := by decide +kernel
theorem d_Mo_topOf_15 : decode b_Mo_topOf 15 = .ok (.ifCond .ne 27, 3) := by decide +kernel
theorem d_Mo_topOf_18 : decode b_Mo_topOf 18 = .ok (.aload_n 1, 1) := by decide +kernel
theorem d_Mo_topOf_19 : decode b_Mo_topOf 19 = .ok (.getfield 744, 3) := by decide +kernel
theorem d_Mo_topOf_22 : decode b_Mo_topOf 22 = .ok (.iload_n 2, 1) := by decide +kernel
theorem d_Mo_topOf_23 : decode b_Mo_topOf 23 = .ok (.iaload, 1) := by decide +kernel
theorem d_Mo_topOf_24 : decode b_Mo_topOf 24 = .ok (.aload_n 0, 1) := by decide +kernel
theorem d_Mo_topOf_25 : decode b_Mo_topOf 25 = .ok (.getfield 38, 3) := by decide +kernel
theorem d_Mo_topOf_28 : decode b_Mo_topOf 28 = .ok (.aload_n 0, 1) := by decide +kernel
theorem d_Mo_topOf_29 : decode b_Mo_topOf 29 = .ok (.getfield 168, 3) := by decide +kernel
theorem d_Mo_topOf_32 : decode b_Mo_topOf 32 = .ok (.aload_n 1, 1) := by decide +kernel
theorem d_Mo_topOf_33 : decode b_Mo_topOf 33 = .ok (.getfield 736, 3) := by decide +kernel
theorem d_Mo_topOf_36 : decode b_Mo_topOf 36 = .ok (.iload_n 2, 1) := by decide +kernel
theorem d_Mo_topOf_37 : decode b_Mo_topOf 37 = .ok (.iaload, 1) := by decide +kernel
theorem d_Mo_topOf_38 : decode b_Mo_topOf 38 = .ok (.iaload, 1) := by decide +kernel
theorem d_Mo_topOf_39 : decode b_Mo_topOf 39 = .ok (.iaload, 1) := by decide +kernel
theorem d_Mo_topOf_40 : decode b_Mo_topOf 40 = .ok (.iadd, 1) := by decide +kernel
theorem d_Mo_topOf_41 : decode b_Mo_topOf 41 = .ok (.ireturn, 1) := by decide +kernel
theorem d_Mo_topOf_42 : decode b_Mo_topOf 42 = .ok (.iinc 2 (-1), 3) := by decide +kernel
theorem d_Mo_topOf_45 : decode b_Mo_topOf 45 = .ok (.goto (-40), 3) := by decide +kernel
theorem d_Mo_topOf_48 : decode b_Mo_topOf 48 = .ok (.iconst 0, 1) := by decide +kernel
theorem d_Mo_topOf_49 : decode b_Mo_topOf 49 = .ok (.ireturn, 1) := by decide +kernel
theorem kw_350 : Cond.instanceMethod y_Mo_topOf ∈ wA := kinm (show _ ∈ tables_1 from (List.mem_append_right _ (List.mem_append_right _ (List.mem_append_right _ (List.mem_append_right _ (List.mem_append_right _ (List.mem_append_right _ (List.mem_append_right _ (List.mem_append_right _ (List.mem_append_right _ (List.mem_append_right _ (List.mem_append_right _ (List.mem_append_left _ (List.mem_of_getElem? (l := tables_1_12) (i := 132) (by decide +kernel))))))))))))))) (by decide +kernel)
theorem kw_351 : Cond.selects R_Mo y_Mo_topOf y_Mo_topOf ∈ wA := kinp 155 (by decide +kernel) (by decide +kernel)
theorem cv_Mo_topOf : CV y_Mo_topOf b_Mo_topOf 3 (some .int) 1 := ⟨kw_350, kw_351, kw_17, k_Mo_topOf, by decide +kernel⟩
theorem lp_Mo_topOf_L5 {X : Cx} {q : PL} (g : Gd X y_Mo_topOf b_Mo_topOf 3 (some .int) 1 20 R_Mo) (x : Int32 × Int32) (s : S1) (o : ((Int32 × Int32) ⊕ ((Int32 × Int32) ⊕ (Unit))) × S1) (h : M_Mo_topOf_L5 x s = some o) (hR : (Sum.elim (fun y : Int32 × Int32 => ∀ ls : Array Slot, (0 ≤ y.1 ∧ y.1 < 33) → lv_has ls 3 [(0, .ref (q.1 0 0)), (1, .ref (q.1 28 y.1)), (2, .int y.2)] → WW X q o.2 5 ls []) (Sum.elim (fun y : Int32 × Int32 => ∀ ls : Array Slot, (0 ≤ y.1 ∧ y.1 < 33) → lv_has ls 3 [(0, .ref (q.1 0 0)), (1, .ref (q.1 28 y.1)), (2, .int y.2)] → WW X q o.2 18 ls []) (fun y : Unit => ∀ ls : Array Slot, lv_has ls 3 [] → WW X q o.2 48 ls [])) o.1)) : ∀ ls : Array Slot, (0 ≤ x.1 ∧ x.1 < 33) → lv_has ls 3 [(0, .ref (q.1 0 0)), (1, .ref (q.1 28 x.1)), (2, .int x.2)] → WW X q s 5 ls [] := by
  intro ls hp0 hl
  unfold M_Mo_topOf_L5 at h
  refine ww_iload_n (pc := 5) g.1 d_Mo_topOf_5 rfl (lv_at hl 2 rfl) ?_
  refine ww_if_lt (pc := 6) (tgt := 48) g.1 d_Mo_topOf_6 (by decide) h (fun c h => ?_) (fun c h => ?_)
  · rw [oR_eq h] at hR
    exact hR ls (lv_sub hl [] rfl)
  · refine ww_aload_n (pc := 9) g.1 d_Mo_topOf_9 rfl (lv_at hl 1 rfl) ?_
    refine ww_gR (pc := 10) g (k := 11) cl_Th (pt rfl rfl hp0) (by decide) (Or.inl kw_152) (f := 3595) (t := 30) rfl rfl rfl d_Mo_topOf_10 ?_
    refine ww_iload_n (pc := 13) g.1 d_Mo_topOf_13 rfl (lv_at hl 2 rfl) ?_
    refine ww_ai (pc := 14) g (pt rfl rfl hp0) rfl rfl d_Mo_topOf_14 h fun v14 h => ?_
    refine ww_if_ne (pc := 15) (tgt := 42) g.1 d_Mo_topOf_15 (by decide) h (fun c h => ?_) (fun c h => ?_)
    · refine ww_iinc (pc := 42) g.1 (v := x.2 + (-1)) (lv' := [(2, .int (x.2 + (-1))), (0, .ref (q.1 0 0)), (1, .ref (q.1 28 x.1))]) d_Mo_topOf_42 hl (k := 2) rfl (by rfl) (by decide) rfl fun ls hl => ?_
      refine ww_goto (pc := 45) (tgt := 5) g.1 d_Mo_topOf_45 (by decide) ?_
      rw [oR_eq h] at hR
      exact hR ls hp0 (lv_sub hl [1, 2, 0] rfl)
    · rw [oR_eq h] at hR
      exact hR ls hp0 (lv_sub hl [0, 1, 2] rfl)

theorem ct_Mo_topOf {l : Launch} {P : PP} {q : PL} {s s' : S1} {l1 : Int32} (hp0 : 0 ≤ l1 ∧ l1 < 33) {r : Int32} (h : M_Mo_topOf l1 s = some (r, s')) : Ct l y_Mo_topOf b_Mo_topOf 3 (some .int) 1 20 P q s [.ref (q.1 0 0), .ref (q.1 28 l1)] (some (.int r)) q s' := by
  refine ct_of (by decide) (Nat.le_of_ble_eq_true rfl) fun X ls eP el g hR hl => ?_
  subst eP
  have hR : Rt X q ((r, s') : Int32 × S1).2 (some (.int ((r, s') : Int32 × S1).1)) := hR
  have hl : lv_has ls 3 [(0, .ref (q.1 0 0)), (1, .ref (q.1 28 l1))] := hl
  generalize (r, s') = o at h hR
  unfold M_Mo_topOf at h
  refine ww_aload_n (pc := 0) g.1 d_Mo_topOf_0 rfl (lv_at hl 1 rfl) ?_
  obtain ⟨v1, s, hc1, h⟩ := oB_of h
  refine ww_callV (pc := 1) (rest := []) g cv_Th_top (Or.inl kw_236) cl_Th (pt rfl rfl hp0) (ct_Th_top hp0 hc1) ⟨by decide, by decide⟩ rfl hl.1 (Nat.le_of_ble_eq_true rfl) d_Mo_topOf_1 rfl ?_
  refine ww_st (st' := [.int v1]) rfl ?_
  refine ww_istore_n (pc := 4) (i := 2) g.1 (lv' := [(2, .int v1), (0, .ref (q.1 0 0)), (1, .ref (q.1 28 l1))]) d_Mo_topOf_4 rfl hl (by decide) rfl fun ls hl => ?_
  obtain ⟨e5, s1, hw, h⟩ := oB_of h
  refine oW_rule (Wh := fun (x : Int32 × Int32) (s : S1) => ∀ ls : Array Slot, (0 ≤ x.1 ∧ x.1 < 33) → lv_has ls 3 [(0, .ref (q.1 0 0)), (1, .ref (q.1 28 x.1)), (2, .int x.2)] → WW X q s 5 ls []) (We := fun (e : (Int32 × Int32) ⊕ (Unit)) (s : S1) => (Sum.elim (fun y : Int32 × Int32 => ∀ ls : Array Slot, (0 ≤ y.1 ∧ y.1 < 33) → lv_has ls 3 [(0, .ref (q.1 0 0)), (1, .ref (q.1 28 y.1)), (2, .int y.2)] → WW X q s 18 ls []) (fun y : Unit => ∀ ls : Array Slot, lv_has ls 3 [] → WW X q s 48 ls [])) e) (fun x s o hb hc => lp_Mo_topOf_L5 (q := q) g x s o hb hc) hw ?_ ls hp0 (lv_sub hl [1, 2, 0] rfl)
  clear hw hl
  clear ls
  generalize s1 = s at h ⊢
  rcases e5 with y5_18 | y5_48
  · intro ls hq5_0 hl
    dsimp only [Sum.elim_inl, Sum.elim_inr] at h
    refine ww_aload_n (pc := 18) g.1 d_Mo_topOf_18 rfl (lv_at hl 1 rfl) ?_
    refine ww_gR (pc := 19) g (k := 14) cl_Th (pt rfl rfl hq5_0) (by decide) (Or.inl kw_254) (f := 3598) (t := 33) rfl rfl rfl d_Mo_topOf_19 ?_
    refine ww_iload_n (pc := 22) g.1 d_Mo_topOf_22 rfl (lv_at hl 2 rfl) ?_
    refine ww_ai (pc := 23) g (pt rfl rfl hq5_0) rfl rfl d_Mo_topOf_23 h fun v23 h => ?_
    refine ww_aload_n (pc := 24) g.1 d_Mo_topOf_24 rfl (lv_at hl 0 rfl) ?_
    refine ww_gR (pc := 25) g (k := 8) cl_Mo (pz rfl (by decide)) (by decide) (Or.inl kw_41) (f := 8) (t := 44) rfl rfl rfl d_Mo_topOf_25 ?_
    refine ww_aload_n (pc := 28) g.1 d_Mo_topOf_28 rfl (lv_at hl 0 rfl) ?_
    refine ww_gR (pc := 29) g (k := 49) cl_Mo (pz rfl (by decide)) (by decide) (Or.inl kw_87) (f := 49) (t := 62) rfl rfl rfl d_Mo_topOf_29 ?_
    refine ww_aload_n (pc := 32) g.1 d_Mo_topOf_32 rfl (lv_at hl 1 rfl) ?_
    refine ww_gR (pc := 33) g (k := 12) cl_Th (pt rfl rfl hq5_0) (by decide) (Or.inl kw_153) (f := 3596) (t := 31) rfl rfl rfl d_Mo_topOf_33 ?_
    refine ww_iload_n (pc := 36) g.1 d_Mo_topOf_36 rfl (lv_at hl 2 rfl) ?_
    refine ww_ai (pc := 37) g (pt rfl rfl hq5_0) rfl rfl d_Mo_topOf_37 h fun v37 h => ?_
    refine ww_ai (pc := 38) g (pz rfl (by decide)) rfl rfl d_Mo_topOf_38 h fun v38 h => ?_
    refine ww_ai (pc := 39) g (pz rfl (by decide)) rfl rfl d_Mo_topOf_39 h fun v39 h => ?_
    refine ww_iadd (pc := 40) g.1 d_Mo_topOf_40 ?_
    exact ww_iretH (pc := 41) g h hR d_Mo_topOf_41
  · intro ls hl
    dsimp only [Sum.elim_inl, Sum.elim_inr] at h
    refine ww_iconst (pc := 48) g.1 (v := 0) d_Mo_topOf_48 (by decide) ?_
    exact ww_iretH (pc := 49) g h hR d_Mo_topOf_49

abbrev b_Mo_raw : ByteArray := prog_14_method_34_code
def y_Mo_raw : MethodName := ⟨R_Mo, "raw", "(IIJ)Z"⟩
abbrev w_Mo_raw : List Cond := .code y_Mo_raw b_Mo_raw 6 (some .boolean) :: wA
theorem k_Mo_raw : Cond.code y_Mo_raw b_Mo_raw 6 (some .boolean) ∈ wA := kinm (show _ ∈ tables_1 from (List.mem_append_right _ (List.mem_append_right _ (List.mem_append_right _ (List.mem_append_right _ (List.mem_append_right _ (List.mem_append_right _ (List.mem_append_right _ (List.mem_append_right _ (List.mem_append_right _ (List.mem_append_right _ (List.mem_append_right _ (List.mem_append_left _ (List.mem_of_getElem? (l := tables_1_12) (i := 170) (by decide +kernel))))))))))))))) (by decide +kernel)
theorem d_Mo_raw_0 : decode b_Mo_raw 0 = .ok (.iload_n 2, 1) := by decide +kernel
theorem d_Mo_raw_1 : decode b_Mo_raw 1 = .ok (.ifCond .ne 7, 3) := by decide +kernel
theorem d_Mo_raw_4 : decode b_Mo_raw 4 = .ok (.iconst (-1), 1) := by decide +kernel
theorem d_Mo_raw_5 : decode b_Mo_raw 5 = .ok (.goto 10, 3) := by decide +kernel
theorem d_Mo_raw_8 : decode b_Mo_raw 8 = .ok (.aload_n 0, 1) := by decide +kernel
theorem d_Mo_raw_9 : decode b_Mo_raw 9 = .ok (.iload_n 1, 1) := by decide +kernel
theorem d_Mo_raw_10 : decode b_Mo_raw 10 = .ok (.iload_n 2, 1) := by decide +kernel
theorem d_Mo_raw_11 : decode b_Mo_raw 11 = .ok (.lload_n 3, 1) := by decide +kernel
theorem d_Mo_raw_12 : decode b_Mo_raw 12 = .ok (.invokevirtual 552, 3) := by decide +kernel
theorem d_Mo_raw_15 : decode b_Mo_raw 15 = .ok (.istore 5, 2) := by decide +kernel
theorem d_Mo_raw_17 : decode b_Mo_raw 17 = .ok (.aload_n 0, 1) := by decide +kernel
theorem d_Mo_raw_18 : decode b_Mo_raw 18 = .ok (.iload 5, 2) := by decide +kernel
theorem d_Mo_raw_20 : decode b_Mo_raw 20 = .ok (.ifCond .ge 7, 3) := by decide +kernel
theorem d_Mo_raw_23 : decode b_Mo_raw 23 = .ok (.iconst 0, 1) := by decide +kernel
theorem d_Mo_raw_24 : decode b_Mo_raw 24 = .ok (.goto 10, 3) := by decide +kernel
theorem d_Mo_raw_27 : decode b_Mo_raw 27 = .ok (.aload_n 0, 1) := by decide +kernel
theorem d_Mo_raw_28 : decode b_Mo_raw 28 = .ok (.getfield 196, 3) := by decide +kernel
theorem d_Mo_raw_31 : decode b_Mo_raw 31 = .ok (.iload 5, 2) := by decide +kernel
theorem d_Mo_raw_33 : decode b_Mo_raw 33 = .ok (.baload, 1) := by decide +kernel
theorem d_Mo_raw_34 : decode b_Mo_raw 34 = .ok (.putfield 222, 3) := by decide +kernel
theorem d_Mo_raw_37 : decode b_Mo_raw 37 = .ok (.aload_n 0, 1) := by decide +kernel
theorem d_Mo_raw_38 : decode b_Mo_raw 38 = .ok (.iload 5, 2) := by decide +kernel
theorem d_Mo_raw_40 : decode b_Mo_raw 40 = .ok (.ifCond .ge 7, 3) := by decide +kernel
theorem d_Mo_raw_43 : decode b_Mo_raw 43 = .ok (.lconst 0, 1) := by decide +kernel
theorem d_Mo_raw_44 : decode b_Mo_raw 44 = .ok (.goto 10, 3) := by decide +kernel
theorem d_Mo_raw_47 : decode b_Mo_raw 47 = .ok (.aload_n 0, 1) := by decide +kernel
theorem d_Mo_raw_48 : decode b_Mo_raw 48 = .ok (.getfield 203, 3) := by decide +kernel
theorem d_Mo_raw_51 : decode b_Mo_raw 51 = .ok (.iload 5, 2) := by decide +kernel
theorem d_Mo_raw_53 : decode b_Mo_raw 53 = .ok (.laload, 1) := by decide +kernel
theorem d_Mo_raw_54 : decode b_Mo_raw 54 = .ok (.putfield 225, 3) := by decide +kernel
theorem d_Mo_raw_57 : decode b_Mo_raw 57 = .ok (.aload_n 0, 1) := by decide +kernel
theorem d_Mo_raw_58 : decode b_Mo_raw 58 = .ok (.getfield 222, 3) := by decide +kernel
theorem d_Mo_raw_61 : decode b_Mo_raw 61 = .ok (.ifCond .eq 7, 3) := by decide +kernel
theorem d_Mo_raw_64 : decode b_Mo_raw 64 = .ok (.iconst 1, 1) := by decide +kernel
theorem d_Mo_raw_65 : decode b_Mo_raw 65 = .ok (.goto 4, 3) := by decide +kernel
theorem d_Mo_raw_68 : decode b_Mo_raw 68 = .ok (.iconst 0, 1) := by decide +kernel
theorem d_Mo_raw_69 : decode b_Mo_raw 69 = .ok (.ireturn, 1) := by decide +kernel
theorem kw_352 : Cond.methodLink R_Mo 552 y_Mo_entry ∈ wA := kinm (show _ ∈ tables_1 from (List.mem_append_right _ (List.mem_append_right _ (List.mem_append_right _ (List.mem_append_right _ (List.mem_append_right _ (List.mem_append_right _ (List.mem_append_right _ (List.mem_append_right _ (List.mem_append_right _ (List.mem_append_right _ (List.mem_append_right _ (List.mem_append_left _ (List.mem_of_getElem? (l := tables_1_12) (i := 85) (by decide +kernel))))))))))))))) (by decide +kernel)
theorem kw_353 : Cond.instanceMethod y_Mo_raw ∈ wA := kinm (show _ ∈ tables_1 from (List.mem_append_right _ (List.mem_append_right _ (List.mem_append_right _ (List.mem_append_right _ (List.mem_append_right _ (List.mem_append_right _ (List.mem_append_right _ (List.mem_append_right _ (List.mem_append_right _ (List.mem_append_right _ (List.mem_append_right _ (List.mem_append_left _ (List.mem_of_getElem? (l := tables_1_12) (i := 169) (by decide +kernel))))))))))))))) (by decide +kernel)
theorem kw_354 : Cond.selects R_Mo y_Mo_raw y_Mo_raw ∈ wA := kinp 159 (by decide +kernel) (by decide +kernel)
theorem cv_Mo_raw : CV y_Mo_raw b_Mo_raw 6 (some .boolean) 3 := ⟨kw_353, kw_354, kw_17, k_Mo_raw, by decide +kernel⟩
theorem j_Mo_raw_j54 {X : Cx} {q : PL} (g : Gd X y_Mo_raw b_Mo_raw 6 (some .boolean) 3 74 R_Mo) {o : (Int32) × S1} (hR : Rt X q o.2 (some (.int o.1))) (k0 : Int64) (s : S1) (ls : Array Slot) (hl : lv_has ls 6 [(0, .ref (q.1 0 0))]) (h : M_Mo_raw_j54 k0 s = some o) : WW X q s 54 ls [.long k0, .ref (q.1 0 0)] := by
  unfold M_Mo_raw_j54 at h
  refine ww_pL (pc := 54) g (k := 67) cl_Mo (pz rfl (by decide)) (by decide) (Or.inl kw_94) rfl (f := 67) rfl rfl rfl rfl d_Mo_raw_54 h fun s hs h => ?_
  refine ww_aload_n (pc := 57) g.1 d_Mo_raw_57 rfl (lv_at hl 0 rfl) ?_
  refine ww_gI (pc := 58) g (k := 66) cl_Mo (pz rfl (by decide)) (by decide) (Or.inl kw_92) (f := 66) rfl rfl d_Mo_raw_58 h fun v58 h => ?_
  refine ww_if_eq (pc := 61) (tgt := 68) g.1 d_Mo_raw_61 (by decide) h (fun c h => ?_) (fun c h => ?_)
  · refine ww_iconst (pc := 68) g.1 (v := 0) d_Mo_raw_68 (by decide) ?_
    exact ww_zretH (pc := 69) g h hR (Or.inl rfl) d_Mo_raw_69
  · refine ww_iconst (pc := 64) g.1 (v := 1) d_Mo_raw_64 (by decide) ?_
    refine ww_goto (pc := 65) (tgt := 69) g.1 d_Mo_raw_65 (by decide) ?_
    exact ww_zretH (pc := 69) g h hR (Or.inr rfl) d_Mo_raw_69

theorem j_Mo_raw_j34 {X : Cx} {q : PL} (g : Gd X y_Mo_raw b_Mo_raw 6 (some .boolean) 3 74 R_Mo) {o : (Int32) × S1} (hR : Rt X q o.2 (some (.int o.1))) (l5 : Int32) (k0 : Int32) (s : S1) (ls : Array Slot) (hl : lv_has ls 6 [(0, .ref (q.1 0 0)), (5, .int l5)]) (h : M_Mo_raw_j34 l5 k0 s = some o) : WW X q s 34 ls [.int k0, .ref (q.1 0 0)] := by
  unfold M_Mo_raw_j34 at h
  refine ww_pI (pc := 34) g (k := 66) cl_Mo (pz rfl (by decide)) (by decide) (Or.inl kw_92) rfl (f := 66) rfl rfl rfl rfl d_Mo_raw_34 h fun s hs h => ?_
  refine ww_aload_n (pc := 37) g.1 d_Mo_raw_37 rfl (lv_at hl 0 rfl) ?_
  refine ww_iload (pc := 38) g.1 d_Mo_raw_38 (lv_at hl 1 rfl) ?_
  refine ww_if_ge (pc := 40) (tgt := 47) g.1 d_Mo_raw_40 (by decide) h (fun c h => ?_) (fun c h => ?_)
  · refine ww_aload_n (pc := 47) g.1 d_Mo_raw_47 rfl (lv_at hl 0 rfl) ?_
    refine ww_g5 (pc := 48) g (k := 60) cl_Mo (pz rfl (by decide)) (by decide) (Or.inl kw_127) (f := 60) (t := 72) (f2 := 9343) rfl rfl rfl rfl d_Mo_raw_48 h fun v48 hv48 h => ?_
    refine ww_ok h fun cv48 h => ?_
    refine ww_dn cv48 ?_
    have pd48 : prs s 72 0 := pd (f := 9343) rfl (by decide) hv48 cv48
    refine ww_iload (pc := 51) g.1 d_Mo_raw_51 (lv_at hl 1 rfl) ?_
    refine ww_al (pc := 53) g pd48 rfl rfl d_Mo_raw_53 h fun v53 h => ?_
    exact j_Mo_raw_j54 g hR v53 s ls (lv_sub hl [0] rfl) h
  · refine ww_lconst (pc := 43) g.1 (v := 0) d_Mo_raw_43 (by decide) ?_
    refine ww_goto (pc := 44) (tgt := 54) g.1 d_Mo_raw_44 (by decide) ?_
    exact j_Mo_raw_j54 g hR 0 s ls (lv_sub hl [0] rfl) h

theorem j_Mo_raw_j15 {X : Cx} {q : PL} (g : Gd X y_Mo_raw b_Mo_raw 6 (some .boolean) 3 74 R_Mo) {o : (Int32) × S1} (hR : Rt X q o.2 (some (.int o.1))) (k0 : Int32) (s : S1) (ls : Array Slot) (hl : lv_has ls 6 [(0, .ref (q.1 0 0))]) (h : M_Mo_raw_j15 k0 s = some o) : WW X q s 15 ls [.int k0] := by
  unfold M_Mo_raw_j15 at h
  refine ww_istore (pc := 15) (i := 5) g.1 (lv' := [(5, .int k0), (0, .ref (q.1 0 0))]) d_Mo_raw_15 hl (by decide) rfl fun ls hl => ?_
  refine ww_aload_n (pc := 17) g.1 d_Mo_raw_17 rfl (lv_at hl 1 rfl) ?_
  refine ww_iload (pc := 18) g.1 d_Mo_raw_18 (lv_at hl 0 rfl) ?_
  refine ww_if_ge (pc := 20) (tgt := 27) g.1 d_Mo_raw_20 (by decide) h (fun c h => ?_) (fun c h => ?_)
  · refine ww_aload_n (pc := 27) g.1 d_Mo_raw_27 rfl (lv_at hl 1 rfl) ?_
    refine ww_g5 (pc := 28) g (k := 58) cl_Mo (pz rfl (by decide)) (by decide) (Or.inl kw_126) (f := 58) (t := 70) (f2 := 9087) rfl rfl rfl rfl d_Mo_raw_28 h fun v28 hv28 h => ?_
    refine ww_ok h fun cv28 h => ?_
    refine ww_dn cv28 ?_
    have pd28 : prs s 70 0 := pd (f := 9087) rfl (by decide) hv28 cv28
    refine ww_iload (pc := 31) g.1 d_Mo_raw_31 (lv_at hl 0 rfl) ?_
    refine ww_ab (pc := 33) g pd28 rfl rfl d_Mo_raw_33 h fun v33 h => ?_
    exact j_Mo_raw_j34 g hR k0 v33 s ls (lv_sub hl [1, 0] rfl) h
  · refine ww_iconst (pc := 23) g.1 (v := 0) d_Mo_raw_23 (by decide) ?_
    refine ww_goto (pc := 24) (tgt := 34) g.1 d_Mo_raw_24 (by decide) ?_
    exact j_Mo_raw_j34 g hR k0 0 s ls (lv_sub hl [1, 0] rfl) h

theorem ct_Mo_raw {l : Launch} {P : PP} {q : PL} {s s' : S1} {l1 : Int32} {l2 : Int32} {l3 : Int64} {r : Int32} (h : M_Mo_raw l1 l2 l3 s = some (r, s')) : Ct l y_Mo_raw b_Mo_raw 6 (some .boolean) 3 74 P q s [.ref (q.1 0 0), .int l1, .int l2, .long l3] (some (.int r)) q s' := by
  refine ct_of (by decide) (Nat.le_of_ble_eq_true rfl) fun X ls eP el g hR hl => ?_
  subst eP
  have hR : Rt X q ((r, s') : Int32 × S1).2 (some (.int ((r, s') : Int32 × S1).1)) := hR
  have hl : lv_has ls 6 [(0, .ref (q.1 0 0)), (1, .int l1), (2, .int l2), (3, .long l3)] := hl
  generalize (r, s') = o at h hR
  unfold M_Mo_raw at h
  refine ww_iload_n (pc := 0) g.1 d_Mo_raw_0 rfl (lv_at hl 2 rfl) ?_
  refine ww_if_ne (pc := 1) (tgt := 8) g.1 d_Mo_raw_1 (by decide) h (fun c h => ?_) (fun c h => ?_)
  · refine ww_aload_n (pc := 8) g.1 d_Mo_raw_8 rfl (lv_at hl 0 rfl) ?_
    refine ww_iload_n (pc := 9) g.1 d_Mo_raw_9 rfl (lv_at hl 1 rfl) ?_
    refine ww_iload_n (pc := 10) g.1 d_Mo_raw_10 rfl (lv_at hl 2 rfl) ?_
    refine ww_lload_n (pc := 11) g.1 d_Mo_raw_11 rfl (lv_at hl 3 rfl) ?_
    obtain ⟨v12, s, hc12, h⟩ := oB_of h
    refine ww_callV (pc := 12) (rest := []) g cv_Mo_entry (Or.inl kw_352) cl_Mo (pz rfl (by decide)) (ct_Mo_entry hc12) ⟨by decide, by decide⟩ rfl hl.1 (Nat.le_of_ble_eq_true rfl) d_Mo_raw_12 rfl ?_
    refine ww_st (st' := [.int v12]) rfl ?_
    exact j_Mo_raw_j15 g hR v12 s ls (lv_sub hl [0] rfl) h
  · refine ww_iconst (pc := 4) g.1 (v := (-1)) d_Mo_raw_4 (by decide) ?_
    refine ww_goto (pc := 5) (tgt := 15) g.1 d_Mo_raw_5 (by decide) ?_
    exact j_Mo_raw_j15 g hR (-1) s ls (lv_sub hl [0] rfl) h

abbrev b_Mo_setMeta : ByteArray := prog_14_method_88_code
def y_Mo_setMeta : MethodName := ⟨R_Mo, "setMeta", "()V"⟩
abbrev w_Mo_setMeta : List Cond := .code y_Mo_setMeta b_Mo_setMeta 2 none :: wA
theorem k_Mo_setMeta : Cond.code y_Mo_setMeta b_Mo_setMeta 2 none ∈ wA := kinm (show _ ∈ tables_1 from (List.mem_append_right _ (List.mem_append_right _ (List.mem_append_right _ (List.mem_append_right _ (List.mem_append_right _ (List.mem_append_right _ (List.mem_append_right _ (List.mem_append_right _ (List.mem_append_right _ (List.mem_append_right _ (List.mem_append_right _ (List.mem_append_left _ (List.mem_of_getElem? (l := tables_1_12) (i := 236) (by decide +kernel))))))))))))))) (by decide +kernel)
theorem d_Mo_setMeta_0 : decode b_Mo_setMeta 0 = .ok (.aload_n 0, 1) := by decide +kernel
theorem d_Mo_setMeta_1 : decode b_Mo_setMeta 1 = .ok (.iconst 0, 1) := by decide +kernel
theorem d_Mo_setMeta_2 : decode b_Mo_setMeta 2 = .ok (.iconst 5, 1) := by decide +kernel
theorem d_Mo_setMeta_3 : decode b_Mo_setMeta 3 = .ok (.invokevirtual 833, 3) := by decide +kernel
theorem d_Mo_setMeta_6 : decode b_Mo_setMeta 6 = .ok (.ifCond .eq 21, 3) := by decide +kernel
theorem d_Mo_setMeta_9 : decode b_Mo_setMeta 9 = .ok (.aload_n 0, 1) := by decide +kernel
theorem d_Mo_setMeta_10 : decode b_Mo_setMeta 10 = .ok (.iconst 1, 1) := by decide +kernel
theorem d_Mo_setMeta_11 : decode b_Mo_setMeta 11 = .ok (.iconst 5, 1) := by decide +kernel
theorem d_Mo_setMeta_12 : decode b_Mo_setMeta 12 = .ok (.invokevirtual 833, 3) := by decide +kernel
theorem d_Mo_setMeta_15 : decode b_Mo_setMeta 15 = .ok (.ifCond .ne 19, 3) := by decide +kernel
theorem d_Mo_setMeta_18 : decode b_Mo_setMeta 18 = .ok (.aload_n 0, 1) := by decide +kernel
theorem d_Mo_setMeta_19 : decode b_Mo_setMeta 19 = .ok (.iconst 1, 1) := by decide +kernel
theorem d_Mo_setMeta_20 : decode b_Mo_setMeta 20 = .ok (.iconst 0, 1) := by decide +kernel
theorem d_Mo_setMeta_21 : decode b_Mo_setMeta 21 = .ok (.invokevirtual 833, 3) := by decide +kernel
theorem d_Mo_setMeta_24 : decode b_Mo_setMeta 24 = .ok (.ifCond .ne 10, 3) := by decide +kernel
theorem d_Mo_setMeta_27 : decode b_Mo_setMeta 27 = .ok (.aload_n 0, 1) := by decide +kernel
theorem d_Mo_setMeta_28 : decode b_Mo_setMeta 28 = .ok (.iconst 2, 1) := by decide +kernel
theorem d_Mo_setMeta_29 : decode b_Mo_setMeta 29 = .ok (.invokevirtual 517, 3) := by decide +kernel
theorem d_Mo_setMeta_32 : decode b_Mo_setMeta 32 = .ok (.pop, 1) := by decide +kernel
theorem d_Mo_setMeta_33 : decode b_Mo_setMeta 33 = .ok (.return_, 1) := by decide +kernel
theorem d_Mo_setMeta_34 : decode b_Mo_setMeta 34 = .ok (.aload_n 0, 1) := by decide +kernel
theorem d_Mo_setMeta_35 : decode b_Mo_setMeta 35 = .ok (.iconst 0, 1) := by decide +kernel
theorem d_Mo_setMeta_36 : decode b_Mo_setMeta 36 = .ok (.invokevirtual 807, 3) := by decide +kernel
theorem d_Mo_setMeta_39 : decode b_Mo_setMeta 39 = .ok (.l2i, 1) := by decide +kernel
theorem d_Mo_setMeta_40 : decode b_Mo_setMeta 40 = .ok (.istore_n 1, 1) := by decide +kernel
theorem d_Mo_setMeta_41 : decode b_Mo_setMeta 41 = .ok (.aload_n 0, 1) := by decide +kernel
theorem d_Mo_setMeta_42 : decode b_Mo_setMeta 42 = .ok (.getfield 177, 3) := by decide +kernel
theorem d_Mo_setMeta_45 : decode b_Mo_setMeta 45 = .ok (.iload_n 1, 1) := by decide +kernel
theorem d_Mo_setMeta_46 : decode b_Mo_setMeta 46 = .ok (.iaload, 1) := by decide +kernel
theorem d_Mo_setMeta_47 : decode b_Mo_setMeta 47 = .ok (.ifCond .lt 33, 3) := by decide +kernel
theorem d_Mo_setMeta_50 : decode b_Mo_setMeta 50 = .ok (.aload_n 0, 1) := by decide +kernel
theorem d_Mo_setMeta_51 : decode b_Mo_setMeta 51 = .ok (.aload_n 0, 1) := by decide +kernel
theorem d_Mo_setMeta_52 : decode b_Mo_setMeta 52 = .ok (.getfield 177, 3) := by decide +kernel
theorem d_Mo_setMeta_55 : decode b_Mo_setMeta 55 = .ok (.iload_n 1, 1) := by decide +kernel
theorem d_Mo_setMeta_56 : decode b_Mo_setMeta 56 = .ok (.iaload, 1) := by decide +kernel
theorem d_Mo_setMeta_57 : decode b_Mo_setMeta 57 = .ok (.iconst 4, 1) := by decide +kernel
theorem d_Mo_setMeta_58 : decode b_Mo_setMeta 58 = .ok (.aload_n 0, 1) := by decide +kernel
theorem d_Mo_setMeta_59 : decode b_Mo_setMeta 59 = .ok (.getfield 403, 3) := by decide +kernel
theorem d_Mo_setMeta_62 : decode b_Mo_setMeta 62 = .ok (.bipush 21, 2) := by decide +kernel
theorem d_Mo_setMeta_64 : decode b_Mo_setMeta 64 = .ok (.iaload, 1) := by decide +kernel
theorem d_Mo_setMeta_65 : decode b_Mo_setMeta 65 = .ok (.i2l, 1) := by decide +kernel
theorem d_Mo_setMeta_66 : decode b_Mo_setMeta 66 = .ok (.invokevirtual 581, 3) := by decide +kernel
theorem d_Mo_setMeta_69 : decode b_Mo_setMeta 69 = .ok (.ifCond .eq 11, 3) := by decide +kernel
theorem d_Mo_setMeta_72 : decode b_Mo_setMeta 72 = .ok (.aload_n 0, 1) := by decide +kernel
theorem d_Mo_setMeta_73 : decode b_Mo_setMeta 73 = .ok (.bipush 8, 2) := by decide +kernel
theorem d_Mo_setMeta_75 : decode b_Mo_setMeta 75 = .ok (.invokevirtual 517, 3) := by decide +kernel
theorem d_Mo_setMeta_78 : decode b_Mo_setMeta 78 = .ok (.pop, 1) := by decide +kernel
theorem d_Mo_setMeta_79 : decode b_Mo_setMeta 79 = .ok (.return_, 1) := by decide +kernel
theorem d_Mo_setMeta_80 : decode b_Mo_setMeta 80 = .ok (.aload_n 0, 1) := by decide +kernel
theorem d_Mo_setMeta_81 : decode b_Mo_setMeta 81 = .ok (.getfield 177, 3) := by decide +kernel
theorem d_Mo_setMeta_84 : decode b_Mo_setMeta 84 = .ok (.iload_n 1, 1) := by decide +kernel
theorem d_Mo_setMeta_85 : decode b_Mo_setMeta 85 = .ok (.aload_n 0, 1) := by decide +kernel
theorem d_Mo_setMeta_86 : decode b_Mo_setMeta 86 = .ok (.iconst 1, 1) := by decide +kernel
theorem d_Mo_setMeta_87 : decode b_Mo_setMeta 87 = .ok (.iconst 5, 1) := by decide +kernel
theorem d_Mo_setMeta_88 : decode b_Mo_setMeta 88 = .ok (.invokevirtual 833, 3) := by decide +kernel
theorem d_Mo_setMeta_91 : decode b_Mo_setMeta 91 = .ok (.ifCond .eq 12, 3) := by decide +kernel
theorem d_Mo_setMeta_94 : decode b_Mo_setMeta 94 = .ok (.aload_n 0, 1) := by decide +kernel
theorem d_Mo_setMeta_95 : decode b_Mo_setMeta 95 = .ok (.iconst 1, 1) := by decide +kernel
theorem d_Mo_setMeta_96 : decode b_Mo_setMeta 96 = .ok (.invokevirtual 807, 3) := by decide +kernel
theorem d_Mo_setMeta_99 : decode b_Mo_setMeta 99 = .ok (.l2i, 1) := by decide +kernel
theorem d_Mo_setMeta_100 : decode b_Mo_setMeta 100 = .ok (.goto 4, 3) := by decide +kernel
theorem d_Mo_setMeta_103 : decode b_Mo_setMeta 103 = .ok (.iconst (-1), 1) := by decide +kernel
theorem d_Mo_setMeta_104 : decode b_Mo_setMeta 104 = .ok (.iastore, 1) := by decide +kernel
theorem d_Mo_setMeta_105 : decode b_Mo_setMeta 105 = .ok (.aload_n 0, 1) := by decide +kernel
theorem d_Mo_setMeta_106 : decode b_Mo_setMeta 106 = .ok (.iconst 5, 1) := by decide +kernel
theorem d_Mo_setMeta_107 : decode b_Mo_setMeta 107 = .ok (.iload_n 1, 1) := by decide +kernel
theorem d_Mo_setMeta_108 : decode b_Mo_setMeta 108 = .ok (.i2l, 1) := by decide +kernel
theorem d_Mo_setMeta_109 : decode b_Mo_setMeta 109 = .ok (.invokevirtual 804, 3) := by decide +kernel
theorem d_Mo_setMeta_112 : decode b_Mo_setMeta 112 = .ok (.return_, 1) := by decide +kernel
theorem kw_355 : Cond.fieldLink R_Mo 403 "LuaMachineModel" "event" "[I" ∈ wA := kinm (show _ ∈ tables_1 from (List.mem_append_right _ (List.mem_append_right _ (List.mem_append_right _ (List.mem_append_right _ (List.mem_append_right _ (List.mem_append_right _ (List.mem_append_right _ (List.mem_append_right _ (List.mem_append_right _ (List.mem_append_left _ (List.mem_of_getElem? (l := tables_1_10) (i := 143) (by decide +kernel))))))))))))) (by decide +kernel)
theorem kw_356 : Cond.methodLink R_Mo 581 y_Mo_raw ∈ wA := kinm (show _ ∈ tables_1 from (List.mem_append_right _ (List.mem_append_right _ (List.mem_append_right _ (List.mem_append_right _ (List.mem_append_right _ (List.mem_append_right _ (List.mem_append_right _ (List.mem_append_right _ (List.mem_append_right _ (List.mem_append_right _ (List.mem_append_right _ (List.mem_append_left _ (List.mem_of_getElem? (l := tables_1_12) (i := 167) (by decide +kernel))))))))))))))) (by decide +kernel)
theorem kw_357 : Cond.instanceMethod y_Mo_setMeta ∈ wA := kinm (show _ ∈ tables_1 from (List.mem_append_right _ (List.mem_append_right _ (List.mem_append_right _ (List.mem_append_right _ (List.mem_append_right _ (List.mem_append_right _ (List.mem_append_right _ (List.mem_append_right _ (List.mem_append_right _ (List.mem_append_right _ (List.mem_append_right _ (List.mem_append_left _ (List.mem_of_getElem? (l := tables_1_12) (i := 235) (by decide +kernel))))))))))))))) (by decide +kernel)
theorem kw_358 : Cond.selects R_Mo y_Mo_setMeta y_Mo_setMeta ∈ wA := kinp 173 (by decide +kernel) (by decide +kernel)
theorem cv_Mo_setMeta : CV y_Mo_setMeta b_Mo_setMeta 2 none 0 := ⟨kw_357, kw_358, kw_17, k_Mo_setMeta, by decide +kernel⟩
theorem j_Mo_setMeta_j27 {X : Cx} {q : PL} (g : Gd X y_Mo_setMeta b_Mo_setMeta 2 none 4 99 R_Mo) {o : (Unit) × S1} (hR : Rt X q o.2 none)  (s : S1) (ls : Array Slot) (hl : lv_has ls 2 [(0, .ref (q.1 0 0))]) (h : M_Mo_setMeta_j27 s = some o) : WW X q s 27 ls [] := by
  unfold M_Mo_setMeta_j27 at h
  refine ww_aload_n (pc := 27) g.1 d_Mo_setMeta_27 rfl (lv_at hl 0 rfl) ?_
  refine ww_iconst (pc := 28) g.1 (v := 2) d_Mo_setMeta_28 (by decide) ?_
  obtain ⟨v29, s, hc29, h⟩ := oB_of h
  refine ww_callV (pc := 29) (rest := []) g cv_Mo_raise (Or.inl kw_157) cl_Mo (pz rfl (by decide)) (ct_Mo_raise hc29) ⟨by decide, by decide⟩ rfl hl.1 (Nat.le_of_ble_eq_true rfl) d_Mo_setMeta_29 rfl ?_
  refine ww_st (st' := [.int v29]) rfl ?_
  refine ww_pop (pc := 32) g.1 d_Mo_setMeta_32 rfl ?_
  exact ww_vretH (pc := 33) g h hR d_Mo_setMeta_33

theorem j_Mo_setMeta_j104 {X : Cx} {q : PL} (g : Gd X y_Mo_setMeta b_Mo_setMeta 2 none 4 99 R_Mo) {o : (Unit) × S1} (hR : Rt X q o.2 none) (l1 : Int32) (k0 : Int32) (k1 : Int32) (s : S1) (ls : Array Slot) (hl : lv_has ls 2 [(0, .ref (q.1 0 0)), (1, .int l1)]) (h : M_Mo_setMeta_j104 l1 k0 k1 s = some o) : WW X q s 104 ls [.int k0, .int k1, .ref (q.1 65 0)] := by
  unfold M_Mo_setMeta_j104 at h
  refine ww_si (pc := 104) g (pz rfl (by decide)) rfl rfl d_Mo_setMeta_104 h fun s hs h => ?_
  refine ww_aload_n (pc := 105) g.1 d_Mo_setMeta_105 rfl (lv_at hl 0 rfl) ?_
  refine ww_iconst (pc := 106) g.1 (v := 5) d_Mo_setMeta_106 (by decide) ?_
  refine ww_iload_n (pc := 107) g.1 d_Mo_setMeta_107 rfl (lv_at hl 1 rfl) ?_
  refine ww_i2l (pc := 108) g.1 (v := l1.toInt64) d_Mo_setMeta_108 rfl ?_
  obtain ⟨v109, s, hc109, h⟩ := oB_of h
  refine ww_callV (pc := 109) (rest := []) g cv_Mo_give (Or.inl kw_212) cl_Mo (pz rfl (by decide)) (ct_Mo_give hc109) ⟨by decide, by decide⟩ rfl hl.1 (Nat.le_of_ble_eq_true rfl) d_Mo_setMeta_109 rfl ?_
  refine ww_st (st' := []) rfl ?_
  exact ww_vretH (pc := 112) g h hR d_Mo_setMeta_112

theorem j_Mo_setMeta_j80 {X : Cx} {q : PL} (g : Gd X y_Mo_setMeta b_Mo_setMeta 2 none 4 99 R_Mo) {o : (Unit) × S1} (hR : Rt X q o.2 none) (l1 : Int32) (s : S1) (ls : Array Slot) (hl : lv_has ls 2 [(0, .ref (q.1 0 0)), (1, .int l1)]) (h : M_Mo_setMeta_j80 l1 s = some o) : WW X q s 80 ls [] := by
  unfold M_Mo_setMeta_j80 at h
  refine ww_aload_n (pc := 80) g.1 d_Mo_setMeta_80 rfl (lv_at hl 0 rfl) ?_
  refine ww_gR (pc := 81) g (k := 52) cl_Mo (pz rfl (by decide)) (by decide) (Or.inl kw_341) (f := 52) (t := 65) rfl rfl rfl d_Mo_setMeta_81 ?_
  refine ww_iload_n (pc := 84) g.1 d_Mo_setMeta_84 rfl (lv_at hl 1 rfl) ?_
  refine ww_aload_n (pc := 85) g.1 d_Mo_setMeta_85 rfl (lv_at hl 0 rfl) ?_
  refine ww_iconst (pc := 86) g.1 (v := 1) d_Mo_setMeta_86 (by decide) ?_
  refine ww_iconst (pc := 87) g.1 (v := 5) d_Mo_setMeta_87 (by decide) ?_
  obtain ⟨v88, s, hc88, h⟩ := oB_of h
  refine ww_callV (pc := 88) (rest := [.int l1, .ref (q.1 65 0)]) g cv_Mo_is (Or.inl kw_206) cl_Mo (pz rfl (by decide)) (ct_Mo_is hc88) ⟨by decide, by decide⟩ rfl hl.1 (Nat.le_of_ble_eq_true rfl) d_Mo_setMeta_88 rfl ?_
  refine ww_st (st' := [.int v88, .int l1, .ref (q.1 65 0)]) rfl ?_
  refine ww_if_eq (pc := 91) (tgt := 103) g.1 d_Mo_setMeta_91 (by decide) h (fun c h => ?_) (fun c h => ?_)
  · refine ww_iconst (pc := 103) g.1 (v := (-1)) d_Mo_setMeta_103 (by decide) ?_
    exact j_Mo_setMeta_j104 g hR l1 (-1) l1 s ls (lv_sub hl [0, 1] rfl) h
  · refine ww_aload_n (pc := 94) g.1 d_Mo_setMeta_94 rfl (lv_at hl 0 rfl) ?_
    refine ww_iconst (pc := 95) g.1 (v := 1) d_Mo_setMeta_95 (by decide) ?_
    obtain ⟨v96, s, hc96, h⟩ := oB_of h
    refine ww_callV (pc := 96) (rest := [.int l1, .ref (q.1 65 0)]) g cv_Mo_av (Or.inl kw_193) cl_Mo (pz rfl (by decide)) (ct_Mo_av hc96) ⟨by decide, by decide⟩ rfl hl.1 (Nat.le_of_ble_eq_true rfl) d_Mo_setMeta_96 rfl ?_
    refine ww_st (st' := [.long v96, .int l1, .ref (q.1 65 0)]) rfl ?_
    refine ww_l2i (pc := 99) g.1 (v := v96.toInt32) d_Mo_setMeta_99 rfl ?_
    refine ww_goto (pc := 100) (tgt := 104) g.1 d_Mo_setMeta_100 (by decide) ?_
    exact j_Mo_setMeta_j104 g hR l1 v96.toInt32 l1 s ls (lv_sub hl [0, 1] rfl) h

theorem j_Mo_setMeta_j34 {X : Cx} {q : PL} (g : Gd X y_Mo_setMeta b_Mo_setMeta 2 none 4 99 R_Mo) {o : (Unit) × S1} (hR : Rt X q o.2 none)  (s : S1) (ls : Array Slot) (hl : lv_has ls 2 [(0, .ref (q.1 0 0))]) (h : M_Mo_setMeta_j34 s = some o) : WW X q s 34 ls [] := by
  unfold M_Mo_setMeta_j34 at h
  refine ww_aload_n (pc := 34) g.1 d_Mo_setMeta_34 rfl (lv_at hl 0 rfl) ?_
  refine ww_iconst (pc := 35) g.1 (v := 0) d_Mo_setMeta_35 (by decide) ?_
  obtain ⟨v36, s, hc36, h⟩ := oB_of h
  refine ww_callV (pc := 36) (rest := []) g cv_Mo_av (Or.inl kw_193) cl_Mo (pz rfl (by decide)) (ct_Mo_av hc36) ⟨by decide, by decide⟩ rfl hl.1 (Nat.le_of_ble_eq_true rfl) d_Mo_setMeta_36 rfl ?_
  refine ww_st (st' := [.long v36]) rfl ?_
  refine ww_l2i (pc := 39) g.1 (v := v36.toInt32) d_Mo_setMeta_39 rfl ?_
  refine ww_istore_n (pc := 40) (i := 1) g.1 (lv' := [(1, .int v36.toInt32), (0, .ref (q.1 0 0))]) d_Mo_setMeta_40 rfl hl (by decide) rfl fun ls hl => ?_
  refine ww_aload_n (pc := 41) g.1 d_Mo_setMeta_41 rfl (lv_at hl 1 rfl) ?_
  refine ww_gR (pc := 42) g (k := 52) cl_Mo (pz rfl (by decide)) (by decide) (Or.inl kw_341) (f := 52) (t := 65) rfl rfl rfl d_Mo_setMeta_42 ?_
  refine ww_iload_n (pc := 45) g.1 d_Mo_setMeta_45 rfl (lv_at hl 0 rfl) ?_
  refine ww_ai (pc := 46) g (pz rfl (by decide)) rfl rfl d_Mo_setMeta_46 h fun v46 h => ?_
  refine ww_if_lt (pc := 47) (tgt := 80) g.1 d_Mo_setMeta_47 (by decide) h (fun c h => ?_) (fun c h => ?_)
  · exact j_Mo_setMeta_j80 g hR v36.toInt32 s ls (lv_sub hl [1, 0] rfl) h
  · refine ww_aload_n (pc := 50) g.1 d_Mo_setMeta_50 rfl (lv_at hl 1 rfl) ?_
    refine ww_aload_n (pc := 51) g.1 d_Mo_setMeta_51 rfl (lv_at hl 1 rfl) ?_
    refine ww_gR (pc := 52) g (k := 52) cl_Mo (pz rfl (by decide)) (by decide) (Or.inl kw_341) (f := 52) (t := 65) rfl rfl rfl d_Mo_setMeta_52 ?_
    refine ww_iload_n (pc := 55) g.1 d_Mo_setMeta_55 rfl (lv_at hl 0 rfl) ?_
    refine ww_ai (pc := 56) g (pz rfl (by decide)) rfl rfl d_Mo_setMeta_56 h fun v56 h => ?_
    refine ww_iconst (pc := 57) g.1 (v := 4) d_Mo_setMeta_57 (by decide) ?_
    refine ww_aload_n (pc := 58) g.1 d_Mo_setMeta_58 rfl (lv_at hl 1 rfl) ?_
    refine ww_gR (pc := 59) g (k := 87) cl_Mo (pz rfl (by decide)) (by decide) (Or.inl kw_355) (f := 87) (t := 82) rfl rfl rfl d_Mo_setMeta_59 ?_
    refine ww_bipush (pc := 62) g.1 (v := 21) d_Mo_setMeta_62 (by decide) ?_
    refine ww_ai (pc := 64) g (pz rfl (by decide)) rfl rfl d_Mo_setMeta_64 h fun v64 h => ?_
    refine ww_i2l (pc := 65) g.1 (v := v64.toInt64) d_Mo_setMeta_65 rfl ?_
    obtain ⟨v66, s, hc66, h⟩ := oB_of h
    refine ww_callV (pc := 66) (rest := []) g cv_Mo_raw (Or.inl kw_356) cl_Mo (pz rfl (by decide)) (ct_Mo_raw hc66) ⟨by decide, by decide⟩ rfl hl.1 (Nat.le_of_ble_eq_true rfl) d_Mo_setMeta_66 rfl ?_
    refine ww_st (st' := [.int v66]) rfl ?_
    refine ww_if_eq (pc := 69) (tgt := 80) g.1 d_Mo_setMeta_69 (by decide) h (fun c h => ?_) (fun c h => ?_)
    · exact j_Mo_setMeta_j80 g hR v36.toInt32 s ls (lv_sub hl [1, 0] rfl) h
    · refine ww_aload_n (pc := 72) g.1 d_Mo_setMeta_72 rfl (lv_at hl 1 rfl) ?_
      refine ww_bipush (pc := 73) g.1 (v := 8) d_Mo_setMeta_73 (by decide) ?_
      obtain ⟨v75, s, hc75, h⟩ := oB_of h
      refine ww_callV (pc := 75) (rest := []) g cv_Mo_raise (Or.inl kw_157) cl_Mo (pz rfl (by decide)) (ct_Mo_raise hc75) ⟨by decide, by decide⟩ rfl hl.1 (Nat.le_of_ble_eq_true rfl) d_Mo_setMeta_75 rfl ?_
      refine ww_st (st' := [.int v75]) rfl ?_
      refine ww_pop (pc := 78) g.1 d_Mo_setMeta_78 rfl ?_
      exact ww_vretH (pc := 79) g h hR d_Mo_setMeta_79

theorem ct_Mo_setMeta {l : Launch} {P : PP} {q : PL} {s s' : S1}  {r : Unit} (h : M_Mo_setMeta s = some (r, s')) : Ct l y_Mo_setMeta b_Mo_setMeta 2 none 4 99 P q s [.ref (q.1 0 0)] none q s' := by
  refine ct_of (by decide) (Nat.le_of_ble_eq_true rfl) fun X ls eP el g hR hl => ?_
  subst eP
  have hR : Rt X q ((r, s') : Unit × S1).2 none := hR
  have hl : lv_has ls 2 [(0, .ref (q.1 0 0))] := hl
  generalize (r, s') = o at h hR
  unfold M_Mo_setMeta at h
  refine ww_aload_n (pc := 0) g.1 d_Mo_setMeta_0 rfl (lv_at hl 0 rfl) ?_
  refine ww_iconst (pc := 1) g.1 (v := 0) d_Mo_setMeta_1 (by decide) ?_
  refine ww_iconst (pc := 2) g.1 (v := 5) d_Mo_setMeta_2 (by decide) ?_
  obtain ⟨v3, s, hc3, h⟩ := oB_of h
  refine ww_callV (pc := 3) (rest := []) g cv_Mo_is (Or.inl kw_206) cl_Mo (pz rfl (by decide)) (ct_Mo_is hc3) ⟨by decide, by decide⟩ rfl hl.1 (Nat.le_of_ble_eq_true rfl) d_Mo_setMeta_3 rfl ?_
  refine ww_st (st' := [.int v3]) rfl ?_
  refine ww_if_eq (pc := 6) (tgt := 27) g.1 d_Mo_setMeta_6 (by decide) h (fun c h => ?_) (fun c h => ?_)
  · exact j_Mo_setMeta_j27 g hR s ls (lv_sub hl [0] rfl) h
  · refine ww_aload_n (pc := 9) g.1 d_Mo_setMeta_9 rfl (lv_at hl 0 rfl) ?_
    refine ww_iconst (pc := 10) g.1 (v := 1) d_Mo_setMeta_10 (by decide) ?_
    refine ww_iconst (pc := 11) g.1 (v := 5) d_Mo_setMeta_11 (by decide) ?_
    obtain ⟨v12, s, hc12, h⟩ := oB_of h
    refine ww_callV (pc := 12) (rest := []) g cv_Mo_is (Or.inl kw_206) cl_Mo (pz rfl (by decide)) (ct_Mo_is hc12) ⟨by decide, by decide⟩ rfl hl.1 (Nat.le_of_ble_eq_true rfl) d_Mo_setMeta_12 rfl ?_
    refine ww_st (st' := [.int v12]) rfl ?_
    refine ww_if_ne (pc := 15) (tgt := 34) g.1 d_Mo_setMeta_15 (by decide) h (fun c h => ?_) (fun c h => ?_)
    · exact j_Mo_setMeta_j34 g hR s ls (lv_sub hl [0] rfl) h
    · refine ww_aload_n (pc := 18) g.1 d_Mo_setMeta_18 rfl (lv_at hl 0 rfl) ?_
      refine ww_iconst (pc := 19) g.1 (v := 1) d_Mo_setMeta_19 (by decide) ?_
      refine ww_iconst (pc := 20) g.1 (v := 0) d_Mo_setMeta_20 (by decide) ?_
      obtain ⟨v21, s, hc21, h⟩ := oB_of h
      refine ww_callV (pc := 21) (rest := []) g cv_Mo_is (Or.inl kw_206) cl_Mo (pz rfl (by decide)) (ct_Mo_is hc21) ⟨by decide, by decide⟩ rfl hl.1 (Nat.le_of_ble_eq_true rfl) d_Mo_setMeta_21 rfl ?_
      refine ww_st (st' := [.int v21]) rfl ?_
      refine ww_if_ne (pc := 24) (tgt := 34) g.1 d_Mo_setMeta_24 (by decide) h (fun c h => ?_) (fun c h => ?_)
      · exact j_Mo_setMeta_j34 g hR s ls (lv_sub hl [0] rfl) h
      · exact j_Mo_setMeta_j27 g hR s ls (lv_sub hl [0] rfl) h

abbrev b_Mo_getMeta : ByteArray := prog_14_method_89_code
def y_Mo_getMeta : MethodName := ⟨R_Mo, "getMeta", "()V"⟩
abbrev w_Mo_getMeta : List Cond := .code y_Mo_getMeta b_Mo_getMeta 2 none :: wA
theorem k_Mo_getMeta : Cond.code y_Mo_getMeta b_Mo_getMeta 2 none ∈ wA := kinm (show _ ∈ tables_1 from (List.mem_append_right _ (List.mem_append_right _ (List.mem_append_right _ (List.mem_append_right _ (List.mem_append_right _ (List.mem_append_right _ (List.mem_append_right _ (List.mem_append_right _ (List.mem_append_right _ (List.mem_append_right _ (List.mem_append_right _ (List.mem_append_right _ (List.mem_append_left _ (List.mem_of_getElem? (l := tables_1_13) (i := 4) (by decide +kernel)))))))))))))))) (by decide +kernel)
theorem d_Mo_getMeta_0 : decode b_Mo_getMeta 0 = .ok (.aload_n 0, 1) := by decide +kernel
theorem d_Mo_getMeta_1 : decode b_Mo_getMeta 1 = .ok (.iconst 0, 1) := by decide +kernel
theorem d_Mo_getMeta_2 : decode b_Mo_getMeta 2 = .ok (.iconst 5, 1) := by decide +kernel
theorem d_Mo_getMeta_3 : decode b_Mo_getMeta 3 = .ok (.invokevirtual 833, 3) := by decide +kernel
theorem d_Mo_getMeta_6 : decode b_Mo_getMeta 6 = .ok (.ifCond .eq 17, 3) := by decide +kernel
theorem d_Mo_getMeta_9 : decode b_Mo_getMeta 9 = .ok (.aload_n 0, 1) := by decide +kernel
theorem d_Mo_getMeta_10 : decode b_Mo_getMeta 10 = .ok (.getfield 177, 3) := by decide +kernel
theorem d_Mo_getMeta_13 : decode b_Mo_getMeta 13 = .ok (.aload_n 0, 1) := by decide +kernel
theorem d_Mo_getMeta_14 : decode b_Mo_getMeta 14 = .ok (.iconst 0, 1) := by decide +kernel
theorem d_Mo_getMeta_15 : decode b_Mo_getMeta 15 = .ok (.invokevirtual 807, 3) := by decide +kernel
theorem d_Mo_getMeta_18 : decode b_Mo_getMeta 18 = .ok (.l2i, 1) := by decide +kernel
theorem d_Mo_getMeta_19 : decode b_Mo_getMeta 19 = .ok (.iaload, 1) := by decide +kernel
theorem d_Mo_getMeta_20 : decode b_Mo_getMeta 20 = .ok (.ifCond .ge 10, 3) := by decide +kernel
theorem d_Mo_getMeta_23 : decode b_Mo_getMeta 23 = .ok (.aload_n 0, 1) := by decide +kernel
theorem d_Mo_getMeta_24 : decode b_Mo_getMeta 24 = .ok (.iconst 0, 1) := by decide +kernel
theorem d_Mo_getMeta_25 : decode b_Mo_getMeta 25 = .ok (.lconst 0, 1) := by decide +kernel
theorem d_Mo_getMeta_26 : decode b_Mo_getMeta 26 = .ok (.invokevirtual 804, 3) := by decide +kernel
theorem d_Mo_getMeta_29 : decode b_Mo_getMeta 29 = .ok (.return_, 1) := by decide +kernel
theorem d_Mo_getMeta_30 : decode b_Mo_getMeta 30 = .ok (.aload_n 0, 1) := by decide +kernel
theorem d_Mo_getMeta_31 : decode b_Mo_getMeta 31 = .ok (.getfield 177, 3) := by decide +kernel
theorem d_Mo_getMeta_34 : decode b_Mo_getMeta 34 = .ok (.aload_n 0, 1) := by decide +kernel
theorem d_Mo_getMeta_35 : decode b_Mo_getMeta 35 = .ok (.iconst 0, 1) := by decide +kernel
theorem d_Mo_getMeta_36 : decode b_Mo_getMeta 36 = .ok (.invokevirtual 807, 3) := by decide +kernel
theorem d_Mo_getMeta_39 : decode b_Mo_getMeta 39 = .ok (.l2i, 1) := by decide +kernel
theorem d_Mo_getMeta_40 : decode b_Mo_getMeta 40 = .ok (.iaload, 1) := by decide +kernel
theorem d_Mo_getMeta_41 : decode b_Mo_getMeta 41 = .ok (.istore_n 1, 1) := by decide +kernel
theorem d_Mo_getMeta_42 : decode b_Mo_getMeta 42 = .ok (.aload_n 0, 1) := by decide +kernel
theorem d_Mo_getMeta_43 : decode b_Mo_getMeta 43 = .ok (.iload_n 1, 1) := by decide +kernel
theorem d_Mo_getMeta_44 : decode b_Mo_getMeta 44 = .ok (.iconst 4, 1) := by decide +kernel
theorem d_Mo_getMeta_45 : decode b_Mo_getMeta 45 = .ok (.aload_n 0, 1) := by decide +kernel
theorem d_Mo_getMeta_46 : decode b_Mo_getMeta 46 = .ok (.getfield 403, 3) := by decide +kernel
theorem d_Mo_getMeta_49 : decode b_Mo_getMeta 49 = .ok (.bipush 21, 2) := by decide +kernel
theorem d_Mo_getMeta_51 : decode b_Mo_getMeta 51 = .ok (.iaload, 1) := by decide +kernel
theorem d_Mo_getMeta_52 : decode b_Mo_getMeta 52 = .ok (.i2l, 1) := by decide +kernel
theorem d_Mo_getMeta_53 : decode b_Mo_getMeta 53 = .ok (.invokevirtual 581, 3) := by decide +kernel
theorem d_Mo_getMeta_56 : decode b_Mo_getMeta 56 = .ok (.ifCond .eq 18, 3) := by decide +kernel
theorem d_Mo_getMeta_59 : decode b_Mo_getMeta 59 = .ok (.aload_n 0, 1) := by decide +kernel
theorem d_Mo_getMeta_60 : decode b_Mo_getMeta 60 = .ok (.aload_n 0, 1) := by decide +kernel
theorem d_Mo_getMeta_61 : decode b_Mo_getMeta 61 = .ok (.getfield 222, 3) := by decide +kernel
theorem d_Mo_getMeta_64 : decode b_Mo_getMeta 64 = .ok (.aload_n 0, 1) := by decide +kernel
theorem d_Mo_getMeta_65 : decode b_Mo_getMeta 65 = .ok (.getfield 225, 3) := by decide +kernel
theorem d_Mo_getMeta_68 : decode b_Mo_getMeta 68 = .ok (.invokevirtual 804, 3) := by decide +kernel
theorem d_Mo_getMeta_71 : decode b_Mo_getMeta 71 = .ok (.goto 10, 3) := by decide +kernel
theorem d_Mo_getMeta_74 : decode b_Mo_getMeta 74 = .ok (.aload_n 0, 1) := by decide +kernel
theorem d_Mo_getMeta_75 : decode b_Mo_getMeta 75 = .ok (.iconst 5, 1) := by decide +kernel
theorem d_Mo_getMeta_76 : decode b_Mo_getMeta 76 = .ok (.iload_n 1, 1) := by decide +kernel
theorem d_Mo_getMeta_77 : decode b_Mo_getMeta 77 = .ok (.i2l, 1) := by decide +kernel
theorem d_Mo_getMeta_78 : decode b_Mo_getMeta 78 = .ok (.invokevirtual 804, 3) := by decide +kernel
theorem d_Mo_getMeta_81 : decode b_Mo_getMeta 81 = .ok (.return_, 1) := by decide +kernel
theorem kw_359 : Cond.instanceMethod y_Mo_getMeta ∈ wA := kinm (show _ ∈ tables_1 from (List.mem_append_right _ (List.mem_append_right _ (List.mem_append_right _ (List.mem_append_right _ (List.mem_append_right _ (List.mem_append_right _ (List.mem_append_right _ (List.mem_append_right _ (List.mem_append_right _ (List.mem_append_right _ (List.mem_append_right _ (List.mem_append_right _ (List.mem_append_left _ (List.mem_of_getElem? (l := tables_1_13) (i := 3) (by decide +kernel)))))))))))))))) (by decide +kernel)
theorem kw_360 : Cond.selects R_Mo y_Mo_getMeta y_Mo_getMeta ∈ wA := kinp 175 (by decide +kernel) (by decide +kernel)
theorem cv_Mo_getMeta : CV y_Mo_getMeta b_Mo_getMeta 2 none 0 := ⟨kw_359, kw_360, kw_17, k_Mo_getMeta, by decide +kernel⟩
theorem j_Mo_getMeta_j23 {X : Cx} {q : PL} (g : Gd X y_Mo_getMeta b_Mo_getMeta 2 none 4 99 R_Mo) {o : (Unit) × S1} (hR : Rt X q o.2 none)  (s : S1) (ls : Array Slot) (hl : lv_has ls 2 [(0, .ref (q.1 0 0))]) (h : M_Mo_getMeta_j23 s = some o) : WW X q s 23 ls [] := by
  unfold M_Mo_getMeta_j23 at h
  refine ww_aload_n (pc := 23) g.1 d_Mo_getMeta_23 rfl (lv_at hl 0 rfl) ?_
  refine ww_iconst (pc := 24) g.1 (v := 0) d_Mo_getMeta_24 (by decide) ?_
  refine ww_lconst (pc := 25) g.1 (v := 0) d_Mo_getMeta_25 (by decide) ?_
  obtain ⟨v26, s, hc26, h⟩ := oB_of h
  refine ww_callV (pc := 26) (rest := []) g cv_Mo_give (Or.inl kw_212) cl_Mo (pz rfl (by decide)) (ct_Mo_give hc26) ⟨by decide, by decide⟩ rfl hl.1 (Nat.le_of_ble_eq_true rfl) d_Mo_getMeta_26 rfl ?_
  refine ww_st (st' := []) rfl ?_
  exact ww_vretH (pc := 29) g h hR d_Mo_getMeta_29

theorem ct_Mo_getMeta {l : Launch} {P : PP} {q : PL} {s s' : S1}  {r : Unit} (h : M_Mo_getMeta s = some (r, s')) : Ct l y_Mo_getMeta b_Mo_getMeta 2 none 4 99 P q s [.ref (q.1 0 0)] none q s' := by
  refine ct_of (by decide) (Nat.le_of_ble_eq_true rfl) fun X ls eP el g hR hl => ?_
  subst eP
  have hR : Rt X q ((r, s') : Unit × S1).2 none := hR
  have hl : lv_has ls 2 [(0, .ref (q.1 0 0))] := hl
  generalize (r, s') = o at h hR
  unfold M_Mo_getMeta at h
  refine ww_aload_n (pc := 0) g.1 d_Mo_getMeta_0 rfl (lv_at hl 0 rfl) ?_
  refine ww_iconst (pc := 1) g.1 (v := 0) d_Mo_getMeta_1 (by decide) ?_
  refine ww_iconst (pc := 2) g.1 (v := 5) d_Mo_getMeta_2 (by decide) ?_
  obtain ⟨v3, s, hc3, h⟩ := oB_of h
  refine ww_callV (pc := 3) (rest := []) g cv_Mo_is (Or.inl kw_206) cl_Mo (pz rfl (by decide)) (ct_Mo_is hc3) ⟨by decide, by decide⟩ rfl hl.1 (Nat.le_of_ble_eq_true rfl) d_Mo_getMeta_3 rfl ?_
  refine ww_st (st' := [.int v3]) rfl ?_
  refine ww_if_eq (pc := 6) (tgt := 23) g.1 d_Mo_getMeta_6 (by decide) h (fun c h => ?_) (fun c h => ?_)
  · exact j_Mo_getMeta_j23 g hR s ls (lv_sub hl [0] rfl) h
  · refine ww_aload_n (pc := 9) g.1 d_Mo_getMeta_9 rfl (lv_at hl 0 rfl) ?_
    refine ww_gR (pc := 10) g (k := 52) cl_Mo (pz rfl (by decide)) (by decide) (Or.inl kw_341) (f := 52) (t := 65) rfl rfl rfl d_Mo_getMeta_10 ?_
    refine ww_aload_n (pc := 13) g.1 d_Mo_getMeta_13 rfl (lv_at hl 0 rfl) ?_
    refine ww_iconst (pc := 14) g.1 (v := 0) d_Mo_getMeta_14 (by decide) ?_
    obtain ⟨v15, s, hc15, h⟩ := oB_of h
    refine ww_callV (pc := 15) (rest := [.ref (q.1 65 0)]) g cv_Mo_av (Or.inl kw_193) cl_Mo (pz rfl (by decide)) (ct_Mo_av hc15) ⟨by decide, by decide⟩ rfl hl.1 (Nat.le_of_ble_eq_true rfl) d_Mo_getMeta_15 rfl ?_
    refine ww_st (st' := [.long v15, .ref (q.1 65 0)]) rfl ?_
    refine ww_l2i (pc := 18) g.1 (v := v15.toInt32) d_Mo_getMeta_18 rfl ?_
    refine ww_ai (pc := 19) g (pz rfl (by decide)) rfl rfl d_Mo_getMeta_19 h fun v19 h => ?_
    refine ww_if_ge (pc := 20) (tgt := 30) g.1 d_Mo_getMeta_20 (by decide) h (fun c h => ?_) (fun c h => ?_)
    · refine ww_aload_n (pc := 30) g.1 d_Mo_getMeta_30 rfl (lv_at hl 0 rfl) ?_
      refine ww_gR (pc := 31) g (k := 52) cl_Mo (pz rfl (by decide)) (by decide) (Or.inl kw_341) (f := 52) (t := 65) rfl rfl rfl d_Mo_getMeta_31 ?_
      refine ww_aload_n (pc := 34) g.1 d_Mo_getMeta_34 rfl (lv_at hl 0 rfl) ?_
      refine ww_iconst (pc := 35) g.1 (v := 0) d_Mo_getMeta_35 (by decide) ?_
      obtain ⟨v36, s, hc36, h⟩ := oB_of h
      refine ww_callV (pc := 36) (rest := [.ref (q.1 65 0)]) g cv_Mo_av (Or.inl kw_193) cl_Mo (pz rfl (by decide)) (ct_Mo_av hc36) ⟨by decide, by decide⟩ rfl hl.1 (Nat.le_of_ble_eq_true rfl) d_Mo_getMeta_36 rfl ?_
      refine ww_st (st' := [.long v36, .ref (q.1 65 0)]) rfl ?_
      refine ww_l2i (pc := 39) g.1 (v := v36.toInt32) d_Mo_getMeta_39 rfl ?_
      refine ww_ai (pc := 40) g (pz rfl (by decide)) rfl rfl d_Mo_getMeta_40 h fun v40 h => ?_
      refine ww_istore_n (pc := 41) (i := 1) g.1 (lv' := [(1, .int v40), (0, .ref (q.1 0 0))]) d_Mo_getMeta_41 rfl hl (by decide) rfl fun ls hl => ?_
      refine ww_aload_n (pc := 42) g.1 d_Mo_getMeta_42 rfl (lv_at hl 1 rfl) ?_
      refine ww_iload_n (pc := 43) g.1 d_Mo_getMeta_43 rfl (lv_at hl 0 rfl) ?_
      refine ww_iconst (pc := 44) g.1 (v := 4) d_Mo_getMeta_44 (by decide) ?_
      refine ww_aload_n (pc := 45) g.1 d_Mo_getMeta_45 rfl (lv_at hl 1 rfl) ?_
      refine ww_gR (pc := 46) g (k := 87) cl_Mo (pz rfl (by decide)) (by decide) (Or.inl kw_355) (f := 87) (t := 82) rfl rfl rfl d_Mo_getMeta_46 ?_
      refine ww_bipush (pc := 49) g.1 (v := 21) d_Mo_getMeta_49 (by decide) ?_
      refine ww_ai (pc := 51) g (pz rfl (by decide)) rfl rfl d_Mo_getMeta_51 h fun v51 h => ?_
      refine ww_i2l (pc := 52) g.1 (v := v51.toInt64) d_Mo_getMeta_52 rfl ?_
      obtain ⟨v53, s, hc53, h⟩ := oB_of h
      refine ww_callV (pc := 53) (rest := []) g cv_Mo_raw (Or.inl kw_356) cl_Mo (pz rfl (by decide)) (ct_Mo_raw hc53) ⟨by decide, by decide⟩ rfl hl.1 (Nat.le_of_ble_eq_true rfl) d_Mo_getMeta_53 rfl ?_
      refine ww_st (st' := [.int v53]) rfl ?_
      refine ww_if_eq (pc := 56) (tgt := 74) g.1 d_Mo_getMeta_56 (by decide) h (fun c h => ?_) (fun c h => ?_)
      · refine ww_aload_n (pc := 74) g.1 d_Mo_getMeta_74 rfl (lv_at hl 1 rfl) ?_
        refine ww_iconst (pc := 75) g.1 (v := 5) d_Mo_getMeta_75 (by decide) ?_
        refine ww_iload_n (pc := 76) g.1 d_Mo_getMeta_76 rfl (lv_at hl 0 rfl) ?_
        refine ww_i2l (pc := 77) g.1 (v := v40.toInt64) d_Mo_getMeta_77 rfl ?_
        obtain ⟨v78, s, hc78, h⟩ := oB_of h
        refine ww_callV (pc := 78) (rest := []) g cv_Mo_give (Or.inl kw_212) cl_Mo (pz rfl (by decide)) (ct_Mo_give hc78) ⟨by decide, by decide⟩ rfl hl.1 (Nat.le_of_ble_eq_true rfl) d_Mo_getMeta_78 rfl ?_
        refine ww_st (st' := []) rfl ?_
        exact ww_vretH (pc := 81) g h hR d_Mo_getMeta_81
      · refine ww_aload_n (pc := 59) g.1 d_Mo_getMeta_59 rfl (lv_at hl 1 rfl) ?_
        refine ww_aload_n (pc := 60) g.1 d_Mo_getMeta_60 rfl (lv_at hl 1 rfl) ?_
        refine ww_gI (pc := 61) g (k := 66) cl_Mo (pz rfl (by decide)) (by decide) (Or.inl kw_92) (f := 66) rfl rfl d_Mo_getMeta_61 h fun v61 h => ?_
        refine ww_aload_n (pc := 64) g.1 d_Mo_getMeta_64 rfl (lv_at hl 1 rfl) ?_
        refine ww_gL (pc := 65) g (k := 67) cl_Mo (pz rfl (by decide)) (by decide) (Or.inl kw_94) (f := 67) rfl rfl d_Mo_getMeta_65 h fun v65 h => ?_
        obtain ⟨v68, s, hc68, h⟩ := oB_of h
        refine ww_callV (pc := 68) (rest := []) g cv_Mo_give (Or.inl kw_212) cl_Mo (pz rfl (by decide)) (ct_Mo_give hc68) ⟨by decide, by decide⟩ rfl hl.1 (Nat.le_of_ble_eq_true rfl) d_Mo_getMeta_68 rfl ?_
        refine ww_st (st' := []) rfl ?_
        refine ww_goto (pc := 71) (tgt := 81) g.1 d_Mo_getMeta_71 (by decide) ?_
        exact ww_vretH (pc := 81) g h hR d_Mo_getMeta_81
    · exact j_Mo_getMeta_j23 g hR s ls (lv_sub hl [0] rfl) h


