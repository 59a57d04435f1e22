abbrev b_Mo_print : ByteArray := prog_14_method_107_code
def y_Mo_print : MethodName := ⟨R_Mo, "print", "()V"⟩
abbrev w_Mo_print : List Cond := .code y_Mo_print b_Mo_print 3 none :: wA
theorem k_Mo_print : Cond.code y_Mo_print b_Mo_print 3 none ∈ wA := kinm (show _ ∈ tables_1 from (List.mem_append_right _ (List.mem_append_right _ (List.mem_append_right _ (List.mem_append_right _ (List.mem_append_right _ (List.mem_append_right _ (List.mem_append_right _ (List.mem_append_right _ (List.mem_append_right _ (List.mem_append_right _ (List.mem_append_right _ (List.mem_append_left _ (List.mem_of_getElem? (l := tables_1_12) (i := 179) (by decide +kernel))))))))))))))) (by decide +kernel)
theorem d_Mo_print_0 : decode b_Mo_print 0 = .ok (.iconst 0, 1) := by decide +kernel
theorem d_Mo_print_1 : decode b_Mo_print 1 = .ok (.istore_n 1, 1) := by decide +kernel
theorem d_Mo_print_2 : decode b_Mo_print 2 = .ok (.iload_n 1, 1) := by decide +kernel
theorem d_Mo_print_3 : decode b_Mo_print 3 = .ok (.aload_n 0, 1) := by decide +kernel
theorem d_Mo_print_4 : decode b_Mo_print 4 = .ok (.getfield 259, 3) := by decide +kernel
theorem d_Mo_print_7 : decode b_Mo_print 7 = .ok (.getfield 569, 3) := by decide +kernel
theorem d_Mo_print_10 : decode b_Mo_print 10 = .ok (.if_icmp .gt 114, 3) := by decide +kernel
theorem d_Mo_print_13 : decode b_Mo_print 13 = .ok (.aload_n 0, 1) := by decide +kernel
theorem d_Mo_print_14 : decode b_Mo_print 14 = .ok (.iconst 0, 1) := by decide +kernel
theorem d_Mo_print_15 : decode b_Mo_print 15 = .ok (.putfield 431, 3) := by decide +kernel
theorem d_Mo_print_18 : decode b_Mo_print 18 = .ok (.iload_n 1, 1) := by decide +kernel
theorem d_Mo_print_19 : decode b_Mo_print 19 = .ok (.aload_n 0, 1) := by decide +kernel
theorem d_Mo_print_20 : decode b_Mo_print 20 = .ok (.getfield 259, 3) := by decide +kernel
theorem d_Mo_print_23 : decode b_Mo_print 23 = .ok (.getfield 569, 3) := by decide +kernel
theorem d_Mo_print_26 : decode b_Mo_print 26 = .ok (.if_icmp .ne 12, 3) := by decide +kernel
theorem d_Mo_print_29 : decode b_Mo_print 29 = .ok (.aload_n 0, 1) := by decide +kernel
theorem d_Mo_print_30 : decode b_Mo_print 30 = .ok (.bipush 10, 2) := by decide +kernel
theorem d_Mo_print_32 : decode b_Mo_print 32 = .ok (.invokevirtual 870, 3) := by decide +kernel
theorem d_Mo_print_35 : decode b_Mo_print 35 = .ok (.goto 35, 3) := by decide +kernel
theorem d_Mo_print_38 : decode b_Mo_print 38 = .ok (.iload_n 1, 1) := by decide +kernel
theorem d_Mo_print_39 : decode b_Mo_print 39 = .ok (.ifCond .le 9, 3) := by decide +kernel
theorem d_Mo_print_42 : decode b_Mo_print 42 = .ok (.aload_n 0, 1) := by decide +kernel
theorem d_Mo_print_43 : decode b_Mo_print 43 = .ok (.bipush 9, 2) := by decide +kernel
theorem d_Mo_print_45 : decode b_Mo_print 45 = .ok (.invokevirtual 870, 3) := by decide +kernel
theorem d_Mo_print_48 : decode b_Mo_print 48 = .ok (.aload_n 0, 1) := by decide +kernel
theorem d_Mo_print_49 : decode b_Mo_print 49 = .ok (.aload_n 0, 1) := by decide +kernel
theorem d_Mo_print_50 : decode b_Mo_print 50 = .ok (.getfield 259, 3) := by decide +kernel
theorem d_Mo_print_53 : decode b_Mo_print 53 = .ok (.getfield 585, 3) := by decide +kernel
theorem d_Mo_print_56 : decode b_Mo_print 56 = .ok (.iload_n 1, 1) := by decide +kernel
theorem d_Mo_print_57 : decode b_Mo_print 57 = .ok (.baload, 1) := by decide +kernel
theorem d_Mo_print_58 : decode b_Mo_print 58 = .ok (.aload_n 0, 1) := by decide +kernel
theorem d_Mo_print_59 : decode b_Mo_print 59 = .ok (.getfield 259, 3) := by decide +kernel
theorem d_Mo_print_62 : decode b_Mo_print 62 = .ok (.getfield 588, 3) := by decide +kernel
theorem d_Mo_print_65 : decode b_Mo_print 65 = .ok (.iload_n 1, 1) := by decide +kernel
theorem d_Mo_print_66 : decode b_Mo_print 66 = .ok (.laload, 1) := by decide +kernel
theorem d_Mo_print_67 : decode b_Mo_print 67 = .ok (.invokevirtual 902, 3) := by decide +kernel
theorem d_Mo_print_70 : decode b_Mo_print 70 = .ok (.iconst 0, 1) := by decide +kernel
theorem d_Mo_print_71 : decode b_Mo_print 71 = .ok (.istore_n 2, 1) := by decide +kernel
theorem d_Mo_print_72 : decode b_Mo_print 72 = .ok (.iload_n 2, 1) := by decide +kernel
theorem d_Mo_print_73 : decode b_Mo_print 73 = .ok (.aload_n 0, 1) := by decide +kernel
theorem d_Mo_print_74 : decode b_Mo_print 74 = .ok (.getfield 431, 3) := by decide +kernel
theorem d_Mo_print_77 : decode b_Mo_print 77 = .ok (.if_icmp .ge 41, 3) := by decide +kernel
theorem d_Mo_print_80 : decode b_Mo_print 80 = .ok (.aload_n 0, 1) := by decide +kernel
theorem d_Mo_print_81 : decode b_Mo_print 81 = .ok (.getfield 428, 3) := by decide +kernel
theorem d_Mo_print_84 : decode b_Mo_print 84 = .ok (.sipush 20000, 3) := by decide +kernel
theorem d_Mo_print_87 : decode b_Mo_print 87 = .ok (.if_icmp .ge 31, 3) := by decide +kernel
theorem d_Mo_print_90 : decode b_Mo_print 90 = .ok (.aload_n 0, 1) := by decide +kernel
theorem d_Mo_print_91 : decode b_Mo_print 91 = .ok (.getfield 425, 3) := by decide +kernel
theorem d_Mo_print_94 : decode b_Mo_print 94 = .ok (.aload_n 0, 1) := by decide +kernel
theorem d_Mo_print_95 : decode b_Mo_print 95 = .ok (.dup, 1) := by decide +kernel
theorem d_Mo_print_96 : decode b_Mo_print 96 = .ok (.getfield 428, 3) := by decide +kernel
theorem d_Mo_print_99 : decode b_Mo_print 99 = .ok (.dup_x1, 1) := by decide +kernel
theorem d_Mo_print_100 : decode b_Mo_print 100 = .ok (.iconst 1, 1) := by decide +kernel
theorem d_Mo_print_101 : decode b_Mo_print 101 = .ok (.iadd, 1) := by decide +kernel
theorem d_Mo_print_102 : decode b_Mo_print 102 = .ok (.putfield 428, 3) := by decide +kernel
theorem d_Mo_print_105 : decode b_Mo_print 105 = .ok (.aload_n 0, 1) := by decide +kernel
theorem d_Mo_print_106 : decode b_Mo_print 106 = .ok (.getfield 422, 3) := by decide +kernel
theorem d_Mo_print_109 : decode b_Mo_print 109 = .ok (.iload_n 2, 1) := by decide +kernel
theorem d_Mo_print_110 : decode b_Mo_print 110 = .ok (.baload, 1) := by decide +kernel
theorem d_Mo_print_111 : decode b_Mo_print 111 = .ok (.bastore, 1) := by decide +kernel
theorem d_Mo_print_112 : decode b_Mo_print 112 = .ok (.iinc 2 1, 3) := by decide +kernel
theorem d_Mo_print_115 : decode b_Mo_print 115 = .ok (.goto (-43), 3) := by decide +kernel
theorem d_Mo_print_118 : decode b_Mo_print 118 = .ok (.iinc 1 1, 3) := by decide +kernel
theorem d_Mo_print_121 : decode b_Mo_print 121 = .ok (.goto (-119), 3) := by decide +kernel
theorem d_Mo_print_124 : decode b_Mo_print 124 = .ok (.aload_n 0, 1) := by decide +kernel
theorem d_Mo_print_125 : decode b_Mo_print 125 = .ok (.invokevirtual 853, 3) := by decide +kernel
theorem d_Mo_print_128 : decode b_Mo_print 128 = .ok (.return_, 1) := by decide +kernel
theorem kw_567 : Cond.instanceMethod y_Mo_print ∈ wA := kinm (show _ ∈ tables_1 from (List.mem_append_right _ (List.mem_append_right _ (List.mem_append_right _ (List.mem_append_right _ (List.mem_append_right _ (List.mem_append_right _ (List.mem_append_right _ (List.mem_append_right _ (List.mem_append_right _ (List.mem_append_right _ (List.mem_append_right _ (List.mem_append_left _ (List.mem_of_getElem? (l := tables_1_12) (i := 178) (by decide +kernel))))))))))))))) (by decide +kernel)
theorem kw_568 : Cond.selects R_Mo y_Mo_print y_Mo_print ∈ wA := kinp 161 (by decide +kernel) (by decide +kernel)
theorem cv_Mo_print : CV y_Mo_print b_Mo_print 3 none 0 := ⟨kw_567, kw_568, kw_17, k_Mo_print, by decide +kernel⟩
theorem lp_Mo_print_L72 {X : Cx} {q : PL} (g : Gd X y_Mo_print b_Mo_print 3 none 7 195 R_Mo) (x : Int32 × Int32) (s : S1) (o : ((Int32 × Int32) ⊕ ((Int32))) × S1) (h : M_Mo_print_L72 x s = some o) (hR : (Sum.elim (fun y : Int32 × Int32 => ∀ ls : Array Slot, lv_has ls 3 [(0, .ref (q.1 0 0)), (1, .int y.1), (2, .int y.2)] → WW X q o.2 72 ls []) (fun y : Int32 => ∀ ls : Array Slot, lv_has ls 3 [(0, .ref (q.1 0 0)), (1, .int y)] → WW X q o.2 118 ls []) o.1)) : ∀ ls : Array Slot, lv_has ls 3 [(0, .ref (q.1 0 0)), (1, .int x.1), (2, .int x.2)] → WW X q s 72 ls [] := by
  intro ls hl
  unfold M_Mo_print_L72 at h
  refine ww_iload_n (pc := 72) g.1 d_Mo_print_72 rfl (lv_at hl 2 rfl) ?_
  refine ww_aload_n (pc := 73) g.1 d_Mo_print_73 rfl (lv_at hl 0 rfl) ?_
  refine ww_gI (pc := 74) g (k := 96) cl_Mo (pz rfl (by decide)) (by decide) (Or.inl kw_168) (f := 96) rfl rfl d_Mo_print_74 h fun v74 h => ?_
  refine ww_icmp_ge (pc := 77) (tgt := 118) g.1 d_Mo_print_77 (by decide) h (fun c h => ?_) (fun c h => ?_)
  · rw [oR_eq h] at hR
    exact hR ls (lv_sub hl [0, 1] rfl)
  · refine ww_aload_n (pc := 80) g.1 d_Mo_print_80 rfl (lv_at hl 0 rfl) ?_
    refine ww_gI (pc := 81) g (k := 95) cl_Mo (pz rfl (by decide)) (by decide) (Or.inl kw_293) (f := 95) rfl rfl d_Mo_print_81 h fun v81 h => ?_
    refine ww_sipush (pc := 84) g.1 (v := 20000) d_Mo_print_84 (by decide) ?_
    refine ww_icmp_ge (pc := 87) (tgt := 118) g.1 d_Mo_print_87 (by decide) h (fun c h => ?_) (fun c h => ?_)
    · rw [oR_eq h] at hR
      exact hR ls (lv_sub hl [0, 1] rfl)
    · refine ww_aload_n (pc := 90) g.1 d_Mo_print_90 rfl (lv_at hl 0 rfl) ?_
      refine ww_gR (pc := 91) g (k := 94) cl_Mo (pz rfl (by decide)) (by decide) (Or.inl kw_292) (f := 94) (t := 88) rfl rfl rfl d_Mo_print_91 ?_
      refine ww_aload_n (pc := 94) g.1 d_Mo_print_94 rfl (lv_at hl 0 rfl) ?_
      refine ww_dup (pc := 95) g.1 d_Mo_print_95 rfl ?_
      refine ww_gI (pc := 96) g (k := 95) cl_Mo (pz rfl (by decide)) (by decide) (Or.inl kw_293) (f := 95) rfl rfl d_Mo_print_96 h fun v96 h => ?_
      refine ww_dup_x1 (pc := 99) g.1 d_Mo_print_99 rfl rfl ?_
      refine ww_iconst (pc := 100) g.1 (v := 1) d_Mo_print_100 (by decide) ?_
      refine ww_iadd (pc := 101) g.1 d_Mo_print_101 ?_
      refine ww_pI (pc := 102) g (k := 95) cl_Mo (pz rfl (by decide)) (by decide) (Or.inl kw_293) rfl (f := 95) rfl rfl rfl rfl d_Mo_print_102 h fun s hs h => ?_
      refine ww_aload_n (pc := 105) g.1 d_Mo_print_105 rfl (lv_at hl 0 rfl) ?_
      refine ww_gR (pc := 106) g (k := 93) cl_Mo (pz rfl (by decide)) (by decide) (Or.inl kw_167) (f := 93) (t := 87) rfl rfl rfl d_Mo_print_106 ?_
      refine ww_iload_n (pc := 109) g.1 d_Mo_print_109 rfl (lv_at hl 2 rfl) ?_
      refine ww_ab (pc := 110) g (pz rfl (by decide)) rfl rfl d_Mo_print_110 h fun v110 h => ?_
      refine ww_sb (pc := 111) g (pz rfl (by decide)) rfl rfl d_Mo_print_111 h fun s hs h => ?_
      refine ww_iinc (pc := 112) g.1 (v := x.2 + 1) (lv' := [(2, .int (x.2 + 1)), (0, .ref (q.1 0 0)), (1, .int x.1)]) d_Mo_print_112 hl (k := 2) rfl (by rfl) (by decide) rfl fun ls hl => ?_
      refine ww_goto (pc := 115) (tgt := 72) g.1 d_Mo_print_115 (by decide) ?_
      rw [oR_eq h] at hR
      exact hR ls (lv_sub hl [1, 2, 0] rfl)

theorem j_Mo_print_j118 {X : Cx} {q : PL} (g : Gd X y_Mo_print b_Mo_print 3 none 7 195 R_Mo) {o : ((Int32) ⊕ ((Unit))) × S1} (hR : (Sum.elim (fun y : Int32 => ∀ ls : Array Slot, lv_has ls 3 [(0, .ref (q.1 0 0)), (1, .int y)] → WW X q o.2 2 ls []) (fun y : Unit => ∀ ls : Array Slot, lv_has ls 3 [(0, .ref (q.1 0 0))] → WW X q o.2 124 ls []) o.1)) (l1 : Int32) (s : S1) (ls : Array Slot) (hl : lv_has ls 3 [(0, .ref (q.1 0 0)), (1, .int l1)]) (h : M_Mo_print_j118 l1 s = some o) : WW X q s 118 ls [] := by
  unfold M_Mo_print_j118 at h
  refine ww_iinc (pc := 118) g.1 (v := l1 + 1) (lv' := [(1, .int (l1 + 1)), (0, .ref (q.1 0 0))]) d_Mo_print_118 hl (k := 1) rfl (by rfl) (by decide) rfl fun ls hl => ?_
  refine ww_goto (pc := 121) (tgt := 2) g.1 d_Mo_print_121 (by decide) ?_
  rw [oR_eq h] at hR
  exact hR ls (lv_sub hl [1, 0] rfl)

theorem j_Mo_print_j70 {X : Cx} {q : PL} (g : Gd X y_Mo_print b_Mo_print 3 none 7 195 R_Mo) {o : ((Int32) ⊕ ((Unit))) × S1} (hR : (Sum.elim (fun y : Int32 => ∀ ls : Array Slot, lv_has ls 3 [(0, .ref (q.1 0 0)), (1, .int y)] → WW X q o.2 2 ls []) (fun y : Unit => ∀ ls : Array Slot, lv_has ls 3 [(0, .ref (q.1 0 0))] → WW X q o.2 124 ls []) o.1)) (l1 : Int32) (s : S1) (ls : Array Slot) (hl : lv_has ls 3 [(0, .ref (q.1 0 0)), (1, .int l1)]) (h : M_Mo_print_j70 l1 s = some o) : WW X q s 70 ls [] := by
  unfold M_Mo_print_j70 at h
  refine ww_iconst (pc := 70) g.1 (v := 0) d_Mo_print_70 (by decide) ?_
  refine ww_istore_n (pc := 71) (i := 2) g.1 (lv' := [(2, .int 0), (0, .ref (q.1 0 0)), (1, .int l1)]) d_Mo_print_71 rfl hl (by decide) rfl fun ls hl => ?_
  obtain ⟨e72, s1, hw, h⟩ := oB_of h
  refine oW_rule (Wh := fun (x : Int32 × Int32) (s : S1) => ∀ ls : Array Slot, lv_has ls 3 [(0, .ref (q.1 0 0)), (1, .int x.1), (2, .int x.2)] → WW X q s 72 ls []) (We := fun (e : (Int32)) (s : S1) => ∀ ls : Array Slot, lv_has ls 3 [(0, .ref (q.1 0 0)), (1, .int e)] → WW X q s 118 ls []) (fun x s o hb hc => lp_Mo_print_L72 (q := q) g x s o hb hc) hw ?_ ls (lv_sub hl [1, 2, 0] rfl)
  clear hw hl
  clear ls
  intro ls hl
  generalize s1 = s at h ⊢
  exact j_Mo_print_j118 g hR e72 s ls (lv_sub hl [0, 1] rfl) h

theorem j_Mo_print_j48 {X : Cx} {q : PL} (g : Gd X y_Mo_print b_Mo_print 3 none 7 195 R_Mo) {o : ((Int32) ⊕ ((Unit))) × S1} (hR : (Sum.elim (fun y : Int32 => ∀ ls : Array Slot, lv_has ls 3 [(0, .ref (q.1 0 0)), (1, .int y)] → WW X q o.2 2 ls []) (fun y : Unit => ∀ ls : Array Slot, lv_has ls 3 [(0, .ref (q.1 0 0))] → WW X q o.2 124 ls []) o.1)) (l1 : Int32) (s : S1) (ls : Array Slot) (hl : lv_has ls 3 [(0, .ref (q.1 0 0)), (1, .int l1)]) (h : M_Mo_print_j48 l1 s = some o) : WW X q s 48 ls [] := by
  unfold M_Mo_print_j48 at h
  refine ww_aload_n (pc := 48) g.1 d_Mo_print_48 rfl (lv_at hl 0 rfl) ?_
  refine ww_aload_n (pc := 49) g.1 d_Mo_print_49 rfl (lv_at hl 0 rfl) ?_
  refine ww_gR (pc := 50) g (k := 77) cl_Mo (pz rfl (by decide)) (by decide) (Or.inl kw_182) (f := 77) (t := 7) rfl rfl rfl d_Mo_print_50 ?_
  refine ww_gR (pc := 53) g (k := 0) (cl_Va (Or.inl ⟨by decide, rfl⟩)) (pz rfl (by decide)) (by decide) (Or.inl kw_90) (f := 896) (t := 8) rfl rfl rfl d_Mo_print_53 ?_
  refine ww_iload_n (pc := 56) g.1 d_Mo_print_56 rfl (lv_at hl 1 rfl) ?_
  refine ww_ab (pc := 57) g (pz rfl (by decide)) rfl rfl d_Mo_print_57 h fun v57 h => ?_
  refine ww_aload_n (pc := 58) g.1 d_Mo_print_58 rfl (lv_at hl 0 rfl) ?_
  refine ww_gR (pc := 59) g (k := 77) cl_Mo (pz rfl (by decide)) (by decide) (Or.inl kw_182) (f := 77) (t := 7) rfl rfl rfl d_Mo_print_59 ?_
  refine ww_gR (pc := 62) g (k := 1) (cl_Va (Or.inl ⟨by decide, rfl⟩)) (pz rfl (by decide)) (by decide) (Or.inl kw_93) (f := 897) (t := 9) rfl rfl rfl d_Mo_print_62 ?_
  refine ww_iload_n (pc := 65) g.1 d_Mo_print_65 rfl (lv_at hl 1 rfl) ?_
  refine ww_al (pc := 66) g (pz rfl (by decide)) rfl rfl d_Mo_print_66 h fun v66 h => ?_
  obtain ⟨v67, s, hc67, h⟩ := oB_of h
  refine ww_callV (pc := 67) (rest := []) g cv_Mo_sayValue (Or.inl kw_542) cl_Mo (pz rfl (by decide)) (ct_Mo_sayValue hc67) ⟨by decide, by decide⟩ rfl hl.1 (Nat.le_of_ble_eq_true rfl) d_Mo_print_67 rfl ?_
  refine ww_st (st' := []) rfl ?_
  exact j_Mo_print_j70 g hR l1 s ls (lv_sub hl [0, 1] rfl) h

theorem lp_Mo_print_L2 {X : Cx} {q : PL} (g : Gd X y_Mo_print b_Mo_print 3 none 7 195 R_Mo) (x : Int32) (s : S1) (o : ((Int32) ⊕ ((Unit))) × S1) (h : M_Mo_print_L2 x s = some o) (hR : (Sum.elim (fun y : Int32 => ∀ ls : Array Slot, lv_has ls 3 [(0, .ref (q.1 0 0)), (1, .int y)] → WW X q o.2 2 ls []) (fun y : Unit => ∀ ls : Array Slot, lv_has ls 3 [(0, .ref (q.1 0 0))] → WW X q o.2 124 ls []) o.1)) : ∀ ls : Array Slot, lv_has ls 3 [(0, .ref (q.1 0 0)), (1, .int x)] → WW X q s 2 ls [] := by
  intro ls hl
  unfold M_Mo_print_L2 at h
  refine ww_iload_n (pc := 2) g.1 d_Mo_print_2 rfl (lv_at hl 1 rfl) ?_
  refine ww_aload_n (pc := 3) g.1 d_Mo_print_3 rfl (lv_at hl 0 rfl) ?_
  refine ww_gR (pc := 4) g (k := 77) cl_Mo (pz rfl (by decide)) (by decide) (Or.inl kw_182) (f := 77) (t := 7) rfl rfl rfl d_Mo_print_4 ?_
  refine ww_gI (pc := 7) g (k := 2) (cl_Va (Or.inl ⟨by decide, rfl⟩)) (pz rfl (by decide)) (by decide) (Or.inl kw_179) (f := 898) rfl rfl d_Mo_print_7 h fun v7 h => ?_
  refine ww_icmp_gt (pc := 10) (tgt := 124) g.1 d_Mo_print_10 (by decide) h (fun c h => ?_) (fun c h => ?_)
  · rw [oR_eq h] at hR
    exact hR ls (lv_sub hl [0] rfl)
  · refine ww_aload_n (pc := 13) g.1 d_Mo_print_13 rfl (lv_at hl 0 rfl) ?_
    refine ww_iconst (pc := 14) g.1 (v := 0) d_Mo_print_14 (by decide) ?_
    refine ww_pI (pc := 15) g (k := 96) cl_Mo (pz rfl (by decide)) (by decide) (Or.inl kw_168) rfl (f := 96) rfl rfl rfl rfl d_Mo_print_15 h fun s hs h => ?_
    refine ww_iload_n (pc := 18) g.1 d_Mo_print_18 rfl (lv_at hl 1 rfl) ?_
    refine ww_aload_n (pc := 19) g.1 d_Mo_print_19 rfl (lv_at hl 0 rfl) ?_
    refine ww_gR (pc := 20) g (k := 77) cl_Mo (pz rfl (by decide)) (by decide) (Or.inl kw_182) (f := 77) (t := 7) rfl rfl rfl d_Mo_print_20 ?_
    refine ww_gI (pc := 23) g (k := 2) (cl_Va (Or.inl ⟨by decide, rfl⟩)) (pz rfl (by decide)) (by decide) (Or.inl kw_179) (f := 898) rfl rfl d_Mo_print_23 h fun v23 h => ?_
    refine ww_icmp_ne (pc := 26) (tgt := 38) g.1 d_Mo_print_26 (by decide) h (fun c h => ?_) (fun c h => ?_)
    · refine ww_iload_n (pc := 38) g.1 d_Mo_print_38 rfl (lv_at hl 1 rfl) ?_
      refine ww_if_le (pc := 39) (tgt := 48) g.1 d_Mo_print_39 (by decide) h (fun c h => ?_) (fun c h => ?_)
      · exact j_Mo_print_j48 g hR x s ls (lv_sub hl [0, 1] rfl) h
      · refine ww_aload_n (pc := 42) g.1 d_Mo_print_42 rfl (lv_at hl 0 rfl) ?_
        refine ww_bipush (pc := 43) g.1 (v := 9) d_Mo_print_43 (by decide) ?_
        obtain ⟨v45, s, hc45, h⟩ := oB_of h
        refine ww_callV (pc := 45) (rest := []) g cv_Mo_say (Or.inl kw_175) cl_Mo (pz rfl (by decide)) (ct_Mo_say hc45) ⟨by decide, by decide⟩ rfl hl.1 (Nat.le_of_ble_eq_true rfl) d_Mo_print_45 rfl ?_
        refine ww_st (st' := []) rfl ?_
        exact j_Mo_print_j48 g hR x s ls (lv_sub hl [0, 1] rfl) h
    · refine ww_aload_n (pc := 29) g.1 d_Mo_print_29 rfl (lv_at hl 0 rfl) ?_
      refine ww_bipush (pc := 30) g.1 (v := 10) d_Mo_print_30 (by decide) ?_
      obtain ⟨v32, s, hc32, h⟩ := oB_of h
      refine ww_callV (pc := 32) (rest := []) g cv_Mo_say (Or.inl kw_175) cl_Mo (pz rfl (by decide)) (ct_Mo_say hc32) ⟨by decide, by decide⟩ rfl hl.1 (Nat.le_of_ble_eq_true rfl) d_Mo_print_32 rfl ?_
      refine ww_st (st' := []) rfl ?_
      refine ww_goto (pc := 35) (tgt := 70) g.1 d_Mo_print_35 (by decide) ?_
      exact j_Mo_print_j70 g hR x s ls (lv_sub hl [0, 1] rfl) h

theorem ct_Mo_print {l : Launch} {P : PP} {q : PL} {s s' : S1}  {r : Unit} (h : M_Mo_print s = some (r, s')) : Ct l y_Mo_print b_Mo_print 3 none 7 195 P q s [.ref (q.1 0 0)] none q s' := by
  refine ct_of (by decide) (Nat.le_of_ble_eq_true rfl) fun X ls eP el g hR hl => ?_
  subst eP
  have hR : Rt X q ((r, s') : Unit × S1).2 none := hR
  have hl : lv_has ls 3 [(0, .ref (q.1 0 0))] := hl
  generalize (r, s') = o at h hR
  unfold M_Mo_print at h
  refine ww_iconst (pc := 0) g.1 (v := 0) d_Mo_print_0 (by decide) ?_
  refine ww_istore_n (pc := 1) (i := 1) g.1 (lv' := [(1, .int 0), (0, .ref (q.1 0 0))]) d_Mo_print_1 rfl hl (by decide) rfl fun ls hl => ?_
  obtain ⟨e2, s1, hw, h⟩ := oB_of h
  refine oW_rule (Wh := fun (x : Int32) (s : S1) => ∀ ls : Array Slot, lv_has ls 3 [(0, .ref (q.1 0 0)), (1, .int x)] → WW X q s 2 ls []) (We := fun (e : (Unit)) (s : S1) => ∀ ls : Array Slot, lv_has ls 3 [(0, .ref (q.1 0 0))] → WW X q s 124 ls []) (fun x s o hb hc => lp_Mo_print_L2 (q := q) g x s o hb hc) hw ?_ ls (lv_sub hl [1, 0] rfl)
  clear hw hl
  clear ls
  intro ls hl
  generalize s1 = s at h ⊢
  refine ww_aload_n (pc := 124) g.1 d_Mo_print_124 rfl (lv_at hl 0 rfl) ?_
  obtain ⟨v125, s, hc125, h⟩ := oB_of h
  refine ww_callV (pc := 125) (rest := []) g cv_Mo_giveNone (Or.inl kw_365) cl_Mo (pz rfl (by decide)) (ct_Mo_giveNone hc125) ⟨by decide, by decide⟩ rfl hl.1 (Nat.le_of_ble_eq_true rfl) d_Mo_print_125 rfl ?_
  refine ww_st (st' := []) rfl ?_
  exact ww_vretH (pc := 128) g h hR d_Mo_print_128

abbrev b_Mo_taken : ByteArray := prog_14_method_74_code
def y_Mo_taken : MethodName := ⟨R_Mo, "taken", "(LLuaMachineModel$Thread_;I)V"⟩
abbrev w_Mo_taken : List Cond := .code y_Mo_taken b_Mo_taken 8 none :: wA
set_option maxRecDepth 20000 in
theorem k_Mo_taken : Cond.code y_Mo_taken b_Mo_taken 8 none ∈ wA := kinm (show _ ∈ tables_1 from (List.mem_append_right _ (List.mem_append_right _ (List.mem_append_right _ (List.mem_append_right _ (List.mem_append_right _ (List.mem_append_right _ (List.mem_append_right _ (List.mem_append_right _ (List.mem_append_right _ (List.mem_append_right _ (List.mem_append_right _ (List.mem_append_right _ (List.mem_append_left _ (List.mem_of_getElem? (l := tables_1_13) (i := 92) rfl))))))))))))))) rfl
theorem d_Mo_taken_0 : decode b_Mo_taken 0 = .ok (.aload_n 1, 1) := by decide +kernel
theorem d_Mo_taken_1 : decode b_Mo_taken 1 = .ok (.getfield 744, 3) := by decide +kernel
theorem d_Mo_taken_4 : decode b_Mo_taken 4 = .ok (.iload_n 2, 1) := by decide +kernel
theorem d_Mo_taken_5 : decode b_Mo_taken 5 = .ok (.iaload, 1) := by decide +kernel
theorem d_Mo_taken_6 : decode b_Mo_taken 6 = .ok (.istore_n 3, 1) := by decide +kernel
theorem d_Mo_taken_7 : decode b_Mo_taken 7 = .ok (.aload_n 0, 1) := by decide +kernel
theorem d_Mo_taken_8 : decode b_Mo_taken 8 = .ok (.getfield 262, 3) := by decide +kernel
theorem d_Mo_taken_11 : decode b_Mo_taken 11 = .ok (.getfield 569, 3) := by decide +kernel
theorem d_Mo_taken_14 : decode b_Mo_taken 14 = .ok (.ifCond .le 15, 3) := by decide +kernel
theorem d_Mo_taken_17 : decode b_Mo_taken 17 = .ok (.aload_n 0, 1) := by decide +kernel
theorem d_Mo_taken_18 : decode b_Mo_taken 18 = .ok (.getfield 262, 3) := by decide +kernel
theorem d_Mo_taken_21 : decode b_Mo_taken 21 = .ok (.getfield 585, 3) := by decide +kernel
theorem d_Mo_taken_24 : decode b_Mo_taken 24 = .ok (.iconst 0, 1) := by decide +kernel
theorem d_Mo_taken_25 : decode b_Mo_taken 25 = .ok (.baload, 1) := by decide +kernel
theorem d_Mo_taken_26 : decode b_Mo_taken 26 = .ok (.goto 4, 3) := by decide +kernel
theorem d_Mo_taken_29 : decode b_Mo_taken 29 = .ok (.iconst 0, 1) := by decide +kernel
theorem d_Mo_taken_30 : decode b_Mo_taken 30 = .ok (.istore 4, 2) := by decide +kernel
theorem d_Mo_taken_32 : decode b_Mo_taken 32 = .ok (.aload_n 0, 1) := by decide +kernel
theorem d_Mo_taken_33 : decode b_Mo_taken 33 = .ok (.getfield 262, 3) := by decide +kernel
theorem d_Mo_taken_36 : decode b_Mo_taken 36 = .ok (.getfield 569, 3) := by decide +kernel
theorem d_Mo_taken_39 : decode b_Mo_taken 39 = .ok (.ifCond .le 15, 3) := by decide +kernel
theorem d_Mo_taken_42 : decode b_Mo_taken 42 = .ok (.aload_n 0, 1) := by decide +kernel
theorem d_Mo_taken_43 : decode b_Mo_taken 43 = .ok (.getfield 262, 3) := by decide +kernel
theorem d_Mo_taken_46 : decode b_Mo_taken 46 = .ok (.getfield 588, 3) := by decide +kernel
theorem d_Mo_taken_49 : decode b_Mo_taken 49 = .ok (.iconst 0, 1) := by decide +kernel
theorem d_Mo_taken_50 : decode b_Mo_taken 50 = .ok (.laload, 1) := by decide +kernel
theorem d_Mo_taken_51 : decode b_Mo_taken 51 = .ok (.goto 4, 3) := by decide +kernel
theorem d_Mo_taken_54 : decode b_Mo_taken 54 = .ok (.lconst 0, 1) := by decide +kernel
theorem d_Mo_taken_55 : decode b_Mo_taken 55 = .ok (.lstore 5, 2) := by decide +kernel
theorem d_Mo_taken_57 : decode b_Mo_taken 57 = .ok (.aload_n 1, 1) := by decide +kernel
theorem d_Mo_taken_58 : decode b_Mo_taken 58 = .ok (.getfield 706, 3) := by decide +kernel
theorem d_Mo_taken_61 : decode b_Mo_taken 61 = .ok (.iload_n 2, 1) := by decide +kernel
theorem d_Mo_taken_62 : decode b_Mo_taken 62 = .ok (.iaload, 1) := by decide +kernel
theorem d_Mo_taken_63 : decode b_Mo_taken 63 = .ok (.tableswitch 287 0 4 #[33, 194, 216, 287, 258], 33) := by decide +kernel
theorem d_Mo_taken_96 : decode b_Mo_taken 96 = .ok (.aload_n 1, 1) := by decide +kernel
theorem d_Mo_taken_97 : decode b_Mo_taken 97 = .ok (.getfield 712, 3) := by decide +kernel
theorem d_Mo_taken_100 : decode b_Mo_taken 100 = .ok (.iload_n 2, 1) := by decide +kernel
theorem d_Mo_taken_101 : decode b_Mo_taken 101 = .ok (.iaload, 1) := by decide +kernel
theorem d_Mo_taken_102 : decode b_Mo_taken 102 = .ok (.ifCond .ge 73, 3) := by decide +kernel
theorem d_Mo_taken_105 : decode b_Mo_taken 105 = .ok (.aload_n 1, 1) := by decide +kernel
theorem d_Mo_taken_106 : decode b_Mo_taken 106 = .ok (.getfield 767, 3) := by decide +kernel
theorem d_Mo_taken_109 : decode b_Mo_taken 109 = .ok (.iconst 0, 1) := by decide +kernel
theorem d_Mo_taken_110 : decode b_Mo_taken 110 = .ok (.putfield 569, 3) := by decide +kernel
theorem d_Mo_taken_113 : decode b_Mo_taken 113 = .ok (.iconst 0, 1) := by decide +kernel
theorem d_Mo_taken_114 : decode b_Mo_taken 114 = .ok (.istore 7, 2) := by decide +kernel
theorem d_Mo_taken_116 : decode b_Mo_taken 116 = .ok (.iload 7, 2) := by decide +kernel
theorem d_Mo_taken_118 : decode b_Mo_taken 118 = .ok (.aload_n 0, 1) := by decide +kernel
theorem d_Mo_taken_119 : decode b_Mo_taken 119 = .ok (.getfield 262, 3) := by decide +kernel
theorem d_Mo_taken_122 : decode b_Mo_taken 122 = .ok (.getfield 569, 3) := by decide +kernel
theorem d_Mo_taken_125 : decode b_Mo_taken 125 = .ok (.if_icmp .ge 22, 3) := by decide +kernel
theorem d_Mo_taken_128 : decode b_Mo_taken 128 = .ok (.aload_n 1, 1) := by decide +kernel
theorem d_Mo_taken_129 : decode b_Mo_taken 129 = .ok (.getfield 767, 3) := by decide +kernel
theorem d_Mo_taken_132 : decode b_Mo_taken 132 = .ok (.aload_n 0, 1) := by decide +kernel
theorem d_Mo_taken_133 : decode b_Mo_taken 133 = .ok (.getfield 262, 3) := by decide +kernel
theorem d_Mo_taken_136 : decode b_Mo_taken 136 = .ok (.iload 7, 2) := by decide +kernel
theorem d_Mo_taken_138 : decode b_Mo_taken 138 = .ok (.invokevirtual 770, 3) := by decide +kernel
theorem d_Mo_taken_141 : decode b_Mo_taken 141 = .ok (.iinc 7 1, 3) := by decide +kernel
theorem d_Mo_taken_144 : decode b_Mo_taken 144 = .ok (.goto (-28), 3) := by decide +kernel
theorem d_Mo_taken_147 : decode b_Mo_taken 147 = .ok (.aload_n 1, 1) := by decide +kernel
theorem d_Mo_taken_148 : decode b_Mo_taken 148 = .ok (.getfield 773, 3) := by decide +kernel
theorem d_Mo_taken_151 : decode b_Mo_taken 151 = .ok (.iload_n 2, 1) := by decide +kernel
theorem d_Mo_taken_152 : decode b_Mo_taken 152 = .ok (.aload_n 1, 1) := by decide +kernel
theorem d_Mo_taken_153 : decode b_Mo_taken 153 = .ok (.getfield 709, 3) := by decide +kernel
theorem d_Mo_taken_156 : decode b_Mo_taken 156 = .ok (.iload_n 2, 1) := by decide +kernel
theorem d_Mo_taken_157 : decode b_Mo_taken 157 = .ok (.iaload, 1) := by decide +kernel
theorem d_Mo_taken_158 : decode b_Mo_taken 158 = .ok (.iastore, 1) := by decide +kernel
theorem d_Mo_taken_159 : decode b_Mo_taken 159 = .ok (.aload_n 1, 1) := by decide +kernel
theorem d_Mo_taken_160 : decode b_Mo_taken 160 = .ok (.getfield 738, 3) := by decide +kernel
theorem d_Mo_taken_163 : decode b_Mo_taken 163 = .ok (.iload_n 2, 1) := by decide +kernel
theorem d_Mo_taken_164 : decode b_Mo_taken 164 = .ok (.aload_n 0, 1) := by decide +kernel
theorem d_Mo_taken_165 : decode b_Mo_taken 165 = .ok (.getfield 262, 3) := by decide +kernel
theorem d_Mo_taken_168 : decode b_Mo_taken 168 = .ok (.getfield 569, 3) := by decide +kernel
theorem d_Mo_taken_171 : decode b_Mo_taken 171 = .ok (.iastore, 1) := by decide +kernel
theorem d_Mo_taken_172 : decode b_Mo_taken 172 = .ok (.goto 178, 3) := by decide +kernel
theorem d_Mo_taken_175 : decode b_Mo_taken 175 = .ok (.iconst 0, 1) := by decide +kernel
theorem d_Mo_taken_176 : decode b_Mo_taken 176 = .ok (.istore 7, 2) := by decide +kernel
theorem d_Mo_taken_178 : decode b_Mo_taken 178 = .ok (.iload 7, 2) := by decide +kernel
theorem d_Mo_taken_180 : decode b_Mo_taken 180 = .ok (.aload_n 1, 1) := by decide +kernel
theorem d_Mo_taken_181 : decode b_Mo_taken 181 = .ok (.getfield 712, 3) := by decide +kernel
theorem d_Mo_taken_184 : decode b_Mo_taken 184 = .ok (.iload_n 2, 1) := by decide +kernel
theorem d_Mo_taken_185 : decode b_Mo_taken 185 = .ok (.iaload, 1) := by decide +kernel
theorem d_Mo_taken_186 : decode b_Mo_taken 186 = .ok (.if_icmp .ge 68, 3) := by decide +kernel
theorem d_Mo_taken_189 : decode b_Mo_taken 189 = .ok (.iload 7, 2) := by decide +kernel
theorem d_Mo_taken_191 : decode b_Mo_taken 191 = .ok (.aload_n 0, 1) := by decide +kernel
theorem d_Mo_taken_192 : decode b_Mo_taken 192 = .ok (.getfield 262, 3) := by decide +kernel
theorem d_Mo_taken_195 : decode b_Mo_taken 195 = .ok (.getfield 569, 3) := by decide +kernel
theorem d_Mo_taken_198 : decode b_Mo_taken 198 = .ok (.if_icmp .ge 30, 3) := by decide +kernel
theorem d_Mo_taken_201 : decode b_Mo_taken 201 = .ok (.aload_n 1, 1) := by decide +kernel
theorem d_Mo_taken_202 : decode b_Mo_taken 202 = .ok (.getfield 591, 3) := by decide +kernel
theorem d_Mo_taken_205 : decode b_Mo_taken 205 = .ok (.iload_n 3, 1) := by decide +kernel
theorem d_Mo_taken_206 : decode b_Mo_taken 206 = .ok (.aload_n 1, 1) := by decide +kernel
theorem d_Mo_taken_207 : decode b_Mo_taken 207 = .ok (.getfield 709, 3) := by decide +kernel
theorem d_Mo_taken_210 : decode b_Mo_taken 210 = .ok (.iload_n 2, 1) := by decide +kernel
theorem d_Mo_taken_211 : decode b_Mo_taken 211 = .ok (.iaload, 1) := by decide +kernel
theorem d_Mo_taken_212 : decode b_Mo_taken 212 = .ok (.iadd, 1) := by decide +kernel
theorem d_Mo_taken_213 : decode b_Mo_taken 213 = .ok (.iload 7, 2) := by decide +kernel
theorem d_Mo_taken_215 : decode b_Mo_taken 215 = .ok (.iadd, 1) := by decide +kernel
theorem d_Mo_taken_216 : decode b_Mo_taken 216 = .ok (.aload_n 0, 1) := by decide +kernel
theorem d_Mo_taken_217 : decode b_Mo_taken 217 = .ok (.getfield 262, 3) := by decide +kernel
theorem d_Mo_taken_220 : decode b_Mo_taken 220 = .ok (.iload 7, 2) := by decide +kernel
theorem d_Mo_taken_222 : decode b_Mo_taken 222 = .ok (.invokevirtual 719, 3) := by decide +kernel
theorem d_Mo_taken_225 : decode b_Mo_taken 225 = .ok (.goto 23, 3) := by decide +kernel
theorem d_Mo_taken_228 : decode b_Mo_taken 228 = .ok (.aload_n 1, 1) := by decide +kernel
theorem d_Mo_taken_229 : decode b_Mo_taken 229 = .ok (.getfield 591, 3) := by decide +kernel
theorem d_Mo_taken_232 : decode b_Mo_taken 232 = .ok (.iload_n 3, 1) := by decide +kernel
theorem d_Mo_taken_233 : decode b_Mo_taken 233 = .ok (.aload_n 1, 1) := by decide +kernel
theorem d_Mo_taken_234 : decode b_Mo_taken 234 = .ok (.getfield 709, 3) := by decide +kernel
theorem d_Mo_taken_237 : decode b_Mo_taken 237 = .ok (.iload_n 2, 1) := by decide +kernel
theorem d_Mo_taken_238 : decode b_Mo_taken 238 = .ok (.iaload, 1) := by decide +kernel
theorem d_Mo_taken_239 : decode b_Mo_taken 239 = .ok (.iadd, 1) := by decide +kernel
theorem d_Mo_taken_240 : decode b_Mo_taken 240 = .ok (.iload 7, 2) := by decide +kernel
theorem d_Mo_taken_242 : decode b_Mo_taken 242 = .ok (.iadd, 1) := by decide +kernel
theorem d_Mo_taken_243 : decode b_Mo_taken 243 = .ok (.iconst 0, 1) := by decide +kernel
theorem d_Mo_taken_244 : decode b_Mo_taken 244 = .ok (.lconst 0, 1) := by decide +kernel
theorem d_Mo_taken_245 : decode b_Mo_taken 245 = .ok (.invokevirtual 470, 3) := by decide +kernel
theorem d_Mo_taken_248 : decode b_Mo_taken 248 = .ok (.iinc 7 1, 3) := by decide +kernel
theorem d_Mo_taken_251 : decode b_Mo_taken 251 = .ok (.goto (-73), 3) := by decide +kernel
theorem d_Mo_taken_254 : decode b_Mo_taken 254 = .ok (.goto 96, 3) := by decide +kernel
theorem d_Mo_taken_257 : decode b_Mo_taken 257 = .ok (.aload_n 1, 1) := by decide +kernel
theorem d_Mo_taken_258 : decode b_Mo_taken 258 = .ok (.getfield 591, 3) := by decide +kernel
theorem d_Mo_taken_261 : decode b_Mo_taken 261 = .ok (.iload_n 3, 1) := by decide +kernel
theorem d_Mo_taken_262 : decode b_Mo_taken 262 = .ok (.aload_n 1, 1) := by decide +kernel
theorem d_Mo_taken_263 : decode b_Mo_taken 263 = .ok (.getfield 709, 3) := by decide +kernel
theorem d_Mo_taken_266 : decode b_Mo_taken 266 = .ok (.iload_n 2, 1) := by decide +kernel
theorem d_Mo_taken_267 : decode b_Mo_taken 267 = .ok (.iaload, 1) := by decide +kernel
theorem d_Mo_taken_268 : decode b_Mo_taken 268 = .ok (.iadd, 1) := by decide +kernel
theorem d_Mo_taken_269 : decode b_Mo_taken 269 = .ok (.iload 4, 2) := by decide +kernel
theorem d_Mo_taken_271 : decode b_Mo_taken 271 = .ok (.lload 5, 2) := by decide +kernel
theorem d_Mo_taken_273 : decode b_Mo_taken 273 = .ok (.invokevirtual 470, 3) := by decide +kernel
theorem d_Mo_taken_276 : decode b_Mo_taken 276 = .ok (.goto 74, 3) := by decide +kernel
theorem d_Mo_taken_279 : decode b_Mo_taken 279 = .ok (.iload 4, 2) := by decide +kernel
theorem d_Mo_taken_281 : decode b_Mo_taken 281 = .ok (.iconst 1, 1) := by decide +kernel
theorem d_Mo_taken_282 : decode b_Mo_taken 282 = .ok (.if_icmp .le 7, 3) := by decide +kernel
theorem d_Mo_taken_285 : decode b_Mo_taken 285 = .ok (.iconst 1, 1) := by decide +kernel
theorem d_Mo_taken_286 : decode b_Mo_taken 286 = .ok (.goto 4, 3) := by decide +kernel
theorem d_Mo_taken_289 : decode b_Mo_taken 289 = .ok (.iconst 0, 1) := by decide +kernel
theorem d_Mo_taken_290 : decode b_Mo_taken 290 = .ok (.aload_n 1, 1) := by decide +kernel
theorem d_Mo_taken_291 : decode b_Mo_taken 291 = .ok (.getfield 709, 3) := by decide +kernel
theorem d_Mo_taken_294 : decode b_Mo_taken 294 = .ok (.iload_n 2, 1) := by decide +kernel
theorem d_Mo_taken_295 : decode b_Mo_taken 295 = .ok (.iaload, 1) := by decide +kernel
theorem d_Mo_taken_296 : decode b_Mo_taken 296 = .ok (.iconst 1, 1) := by decide +kernel
theorem d_Mo_taken_297 : decode b_Mo_taken 297 = .ok (.if_icmp .ne 7, 3) := by decide +kernel
theorem d_Mo_taken_300 : decode b_Mo_taken 300 = .ok (.iconst 1, 1) := by decide +kernel
theorem d_Mo_taken_301 : decode b_Mo_taken 301 = .ok (.goto 4, 3) := by decide +kernel
theorem d_Mo_taken_304 : decode b_Mo_taken 304 = .ok (.iconst 0, 1) := by decide +kernel
theorem d_Mo_taken_305 : decode b_Mo_taken 305 = .ok (.if_icmp .eq 45, 3) := by decide +kernel
theorem d_Mo_taken_308 : decode b_Mo_taken 308 = .ok (.aload_n 1, 1) := by decide +kernel
theorem d_Mo_taken_309 : decode b_Mo_taken 309 = .ok (.getfield 758, 3) := by decide +kernel
theorem d_Mo_taken_312 : decode b_Mo_taken 312 = .ok (.iload_n 2, 1) := by decide +kernel
theorem d_Mo_taken_313 : decode b_Mo_taken 313 = .ok (.dup2, 1) := by decide +kernel
theorem d_Mo_taken_314 : decode b_Mo_taken 314 = .ok (.iaload, 1) := by decide +kernel
theorem d_Mo_taken_315 : decode b_Mo_taken 315 = .ok (.iconst 1, 1) := by decide +kernel
theorem d_Mo_taken_316 : decode b_Mo_taken 316 = .ok (.iadd, 1) := by decide +kernel
theorem d_Mo_taken_317 : decode b_Mo_taken 317 = .ok (.iastore, 1) := by decide +kernel
theorem d_Mo_taken_318 : decode b_Mo_taken 318 = .ok (.goto 32, 3) := by decide +kernel
theorem d_Mo_taken_321 : decode b_Mo_taken 321 = .ok (.aload_n 0, 1) := by decide +kernel
theorem d_Mo_taken_322 : decode b_Mo_taken 322 = .ok (.getfield 262, 3) := by decide +kernel
theorem d_Mo_taken_325 : decode b_Mo_taken 325 = .ok (.iconst 0, 1) := by decide +kernel
theorem d_Mo_taken_326 : decode b_Mo_taken 326 = .ok (.putfield 569, 3) := by decide +kernel
theorem d_Mo_taken_329 : decode b_Mo_taken 329 = .ok (.aload_n 0, 1) := by decide +kernel
theorem d_Mo_taken_330 : decode b_Mo_taken 330 = .ok (.aload_n 1, 1) := by decide +kernel
theorem d_Mo_taken_331 : decode b_Mo_taken 331 = .ok (.iload_n 2, 1) := by decide +kernel
theorem d_Mo_taken_332 : decode b_Mo_taken 332 = .ok (.aload_n 1, 1) := by decide +kernel
theorem d_Mo_taken_333 : decode b_Mo_taken 333 = .ok (.getfield 776, 3) := by decide +kernel
theorem d_Mo_taken_336 : decode b_Mo_taken 336 = .ok (.iload_n 2, 1) := by decide +kernel
theorem d_Mo_taken_337 : decode b_Mo_taken 337 = .ok (.iaload, 1) := by decide +kernel
theorem d_Mo_taken_338 : decode b_Mo_taken 338 = .ok (.iconst 1, 1) := by decide +kernel
theorem d_Mo_taken_339 : decode b_Mo_taken 339 = .ok (.isub, 1) := by decide +kernel
theorem d_Mo_taken_340 : decode b_Mo_taken 340 = .ok (.iload 4, 2) := by decide +kernel
theorem d_Mo_taken_342 : decode b_Mo_taken 342 = .ok (.lload 5, 2) := by decide +kernel
theorem d_Mo_taken_344 : decode b_Mo_taken 344 = .ok (.invokevirtual 779, 3) := by decide +kernel
theorem d_Mo_taken_347 : decode b_Mo_taken 347 = .ok (.goto 3, 3) := by decide +kernel
theorem d_Mo_taken_350 : decode b_Mo_taken 350 = .ok (.aload_n 0, 1) := by decide +kernel
theorem d_Mo_taken_351 : decode b_Mo_taken 351 = .ok (.getfield 262, 3) := by decide +kernel
theorem d_Mo_taken_354 : decode b_Mo_taken 354 = .ok (.iconst 0, 1) := by decide +kernel
theorem d_Mo_taken_355 : decode b_Mo_taken 355 = .ok (.putfield 569, 3) := by decide +kernel
theorem d_Mo_taken_358 : decode b_Mo_taken 358 = .ok (.return_, 1) := by decide +kernel
theorem kw_569 : Cond.instanceMethod y_Mo_taken ∈ wA := kinm (show _ ∈ tables_1 from (List.mem_append_right _ (List.mem_append_right _ (List.mem_append_right _ (List.mem_append_right _ (List.mem_append_right _ (List.mem_append_right _ (List.mem_append_right _ (List.mem_append_right _ (List.mem_append_right _ (List.mem_append_right _ (List.mem_append_right _ (List.mem_append_right _ (List.mem_append_left _ (List.mem_of_getElem? (l := tables_1_13) (i := 91) (by decide +kernel)))))))))))))))) (by decide +kernel)
theorem kw_570 : Cond.selects R_Mo y_Mo_taken y_Mo_taken ∈ wA := kinp 194 (by decide +kernel) (by decide +kernel)
theorem cv_Mo_taken : CV y_Mo_taken b_Mo_taken 8 none 2 := ⟨kw_569, kw_570, kw_17, k_Mo_taken, by decide +kernel⟩
theorem j_Mo_taken_j248 {X : Cx} {q : PL} (g : Gd X y_Mo_taken b_Mo_taken 8 none 9 233 R_Mo) {o : ((Int32 × Int32 × Int32 × Int32) ⊕ ((Unit))) × S1} (hR : (Sum.elim (fun y : Int32 × Int32 × Int32 × Int32 => ∀ ls : Array Slot, (0 ≤ y.1 ∧ y.1 < 33) → lv_has ls 8 [(0, .ref (q.1 0 0)), (1, .ref (q.1 28 y.1)), (2, .int y.2.1), (3, .int y.2.2.1), (7, .int y.2.2.2)] → WW X q o.2 178 ls []) (fun y : Unit => ∀ ls : Array Slot, lv_has ls 8 [(0, .ref (q.1 0 0))] → WW X q o.2 254 ls []) o.1)) (l1 : Int32) (l2 : Int32) (l3 : Int32) (l7 : Int32) (s : S1) (hp0 : 0 ≤ l1 ∧ l1 < 33) (ls : Array Slot) (hl : lv_has ls 8 [(0, .ref (q.1 0 0)), (1, .ref (q.1 28 l1)), (2, .int l2), (3, .int l3), (7, .int l7)]) (h : M_Mo_taken_j248 l1 l2 l3 l7 s = some o) : WW X q s 248 ls [] := by
  unfold M_Mo_taken_j248 at h
  refine ww_iinc (pc := 248) g.1 (v := l7 + 1) (lv' := [(7, .int (l7 + 1)), (0, .ref (q.1 0 0)), (1, .ref (q.1 28 l1)), (2, .int l2), (3, .int l3)]) d_Mo_taken_248 hl (k := 4) rfl (by rfl) (by decide) rfl fun ls hl => ?_
  refine ww_goto (pc := 251) (tgt := 178) g.1 d_Mo_taken_251 (by decide) ?_
  rw [oR_eq h] at hR
  exact hR ls hp0 (lv_sub hl [1, 2, 3, 4, 0] rfl)

theorem lp_Mo_taken_L178 {X : Cx} {q : PL} (g : Gd X y_Mo_taken b_Mo_taken 8 none 9 233 R_Mo) (x : Int32 × Int32 × Int32 × Int32) (s : S1) (o : ((Int32 × Int32 × Int32 × Int32) ⊕ ((Unit))) × S1) (h : M_Mo_taken_L178 x s = some o) (hR : (Sum.elim (fun y : Int32 × Int32 × Int32 × Int32 => ∀ ls : Array Slot, (0 ≤ y.1 ∧ y.1 < 33) → lv_has ls 8 [(0, .ref (q.1 0 0)), (1, .ref (q.1 28 y.1)), (2, .int y.2.1), (3, .int y.2.2.1), (7, .int y.2.2.2)] → WW X q o.2 178 ls []) (fun y : Unit => ∀ ls : Array Slot, lv_has ls 8 [(0, .ref (q.1 0 0))] → WW X q o.2 254 ls []) o.1)) : ∀ ls : Array Slot, (0 ≤ x.1 ∧ x.1 < 33) → lv_has ls 8 [(0, .ref (q.1 0 0)), (1, .ref (q.1 28 x.1)), (2, .int x.2.1), (3, .int x.2.2.1), (7, .int x.2.2.2)] → WW X q s 178 ls [] := by
  intro ls hp0 hl
  unfold M_Mo_taken_L178 at h
  refine ww_iload (pc := 178) g.1 d_Mo_taken_178 (lv_at hl 4 rfl) ?_
  refine ww_aload_n (pc := 180) g.1 d_Mo_taken_180 rfl (lv_at hl 1 rfl) ?_
  refine ww_gR (pc := 181) g (k := 20) cl_Th (pt rfl rfl hp0) (by decide) (Or.inl kw_238) (f := 3604) (t := 39) rfl rfl rfl d_Mo_taken_181 ?_
  refine ww_iload_n (pc := 184) g.1 d_Mo_taken_184 rfl (lv_at hl 2 rfl) ?_
  refine ww_ai (pc := 185) g (pt rfl rfl hp0) rfl rfl d_Mo_taken_185 h fun v185 h => ?_
  refine ww_icmp_ge (pc := 186) (tgt := 254) g.1 d_Mo_taken_186 (by decide) h (fun c h => ?_) (fun c h => ?_)
  · rw [oR_eq h] at hR
    exact hR ls (lv_sub hl [0] rfl)
  · refine ww_iload (pc := 189) g.1 d_Mo_taken_189 (lv_at hl 4 rfl) ?_
    refine ww_aload_n (pc := 191) g.1 d_Mo_taken_191 rfl (lv_at hl 0 rfl) ?_
    refine ww_gR (pc := 192) g (k := 78) cl_Mo (pz rfl (by decide)) (by decide) (Or.inl kw_178) (f := 78) (t := 10) rfl rfl rfl d_Mo_taken_192 ?_
    refine ww_gI (pc := 195) g (k := 2) (cl_Va (Or.inl ⟨by decide, rfl⟩)) (pz rfl (by decide)) (by decide) (Or.inl kw_179) (f := 1282) rfl rfl d_Mo_taken_195 h fun v195 h => ?_
    refine ww_icmp_ge (pc := 198) (tgt := 228) g.1 d_Mo_taken_198 (by decide) h (fun c h => ?_) (fun c h => ?_)
    · refine ww_aload_n (pc := 228) g.1 d_Mo_taken_228 rfl (lv_at hl 1 rfl) ?_
      refine ww_gR (pc := 229) g (k := 7) cl_Th (pt rfl rfl hp0) (by decide) (Or.inl kw_89) (f := 3591) (t := 19) rfl rfl rfl d_Mo_taken_229 ?_
      refine ww_iload_n (pc := 232) g.1 d_Mo_taken_232 rfl (lv_at hl 3 rfl) ?_
      refine ww_aload_n (pc := 233) g.1 d_Mo_taken_233 rfl (lv_at hl 1 rfl) ?_
      refine ww_gR (pc := 234) g (k := 19) cl_Th (pt rfl rfl hp0) (by decide) (Or.inl kw_237) (f := 3603) (t := 38) rfl rfl rfl d_Mo_taken_234 ?_
      refine ww_iload_n (pc := 237) g.1 d_Mo_taken_237 rfl (lv_at hl 2 rfl) ?_
      refine ww_ai (pc := 238) g (pt rfl rfl hp0) rfl rfl d_Mo_taken_238 h fun v238 h => ?_
      refine ww_iadd (pc := 239) g.1 d_Mo_taken_239 ?_
      refine ww_iload (pc := 240) g.1 d_Mo_taken_240 (lv_at hl 4 rfl) ?_
      refine ww_iadd (pc := 242) g.1 d_Mo_taken_242 ?_
      refine ww_iconst (pc := 243) g.1 (v := 0) d_Mo_taken_243 (by decide) ?_
      refine ww_lconst (pc := 244) g.1 (v := 0) d_Mo_taken_244 (by decide) ?_
      obtain ⟨v245, s, hc245, h⟩ := oB_of h
      refine ww_callV (pc := 245) (rest := []) g cv_Va_set (Or.inl kw_99) (cl_Va (Or.inr ⟨by decide, hp0⟩)) (pt rfl rfl hp0) (ct_Va_set (Or.inr ⟨by decide, hp0⟩) hc245) ⟨by decide, by decide⟩ rfl hl.1 (Nat.le_of_ble_eq_true rfl) d_Mo_taken_245 rfl ?_
      refine ww_st (st' := []) rfl ?_
      exact j_Mo_taken_j248 g hR x.1 x.2.1 x.2.2.1 x.2.2.2 s hp0 ls (lv_sub hl [0, 1, 2, 3, 4] rfl) h
    · refine ww_aload_n (pc := 201) g.1 d_Mo_taken_201 rfl (lv_at hl 1 rfl) ?_
      refine ww_gR (pc := 202) g (k := 7) cl_Th (pt rfl rfl hp0) (by decide) (Or.inl kw_89) (f := 3591) (t := 19) rfl rfl rfl d_Mo_taken_202 ?_
      refine ww_iload_n (pc := 205) g.1 d_Mo_taken_205 rfl (lv_at hl 3 rfl) ?_
      refine ww_aload_n (pc := 206) g.1 d_Mo_taken_206 rfl (lv_at hl 1 rfl) ?_
      refine ww_gR (pc := 207) g (k := 19) cl_Th (pt rfl rfl hp0) (by decide) (Or.inl kw_237) (f := 3603) (t := 38) rfl rfl rfl d_Mo_taken_207 ?_
      refine ww_iload_n (pc := 210) g.1 d_Mo_taken_210 rfl (lv_at hl 2 rfl) ?_
      refine ww_ai (pc := 211) g (pt rfl rfl hp0) rfl rfl d_Mo_taken_211 h fun v211 h => ?_
      refine ww_iadd (pc := 212) g.1 d_Mo_taken_212 ?_
      refine ww_iload (pc := 213) g.1 d_Mo_taken_213 (lv_at hl 4 rfl) ?_
      refine ww_iadd (pc := 215) g.1 d_Mo_taken_215 ?_
      refine ww_aload_n (pc := 216) g.1 d_Mo_taken_216 rfl (lv_at hl 0 rfl) ?_
      refine ww_gR (pc := 217) g (k := 78) cl_Mo (pz rfl (by decide)) (by decide) (Or.inl kw_178) (f := 78) (t := 10) rfl rfl rfl d_Mo_taken_217 ?_
      refine ww_iload (pc := 220) g.1 d_Mo_taken_220 (lv_at hl 4 rfl) ?_
      obtain ⟨v222, s, hc222, h⟩ := oB_of h
      refine ww_callV (pc := 222) (rest := []) g cv_Va_set_ (Or.inl kw_195) (cl_Va (Or.inr ⟨by decide, hp0⟩)) (pt rfl rfl hp0) (ct_Va_set_ (Or.inr ⟨by decide, hp0⟩) (Or.inl ⟨by decide, rfl⟩) hc222) ⟨by decide, by decide⟩ rfl hl.1 (Nat.le_of_ble_eq_true rfl) d_Mo_taken_222 rfl ?_
      refine ww_st (st' := []) rfl ?_
      refine ww_goto (pc := 225) (tgt := 248) g.1 d_Mo_taken_225 (by decide) ?_
      exact j_Mo_taken_j248 g hR x.1 x.2.1 x.2.2.1 x.2.2.2 s hp0 ls (lv_sub hl [0, 1, 2, 3, 4] rfl) h

theorem j_Mo_taken_j350 {X : Cx} {q : PL} (g : Gd X y_Mo_taken b_Mo_taken 8 none 9 233 R_Mo) {o : (Unit) × S1} (hR : Rt X q o.2 none)  (s : S1) (ls : Array Slot) (hl : lv_has ls 8 [(0, .ref (q.1 0 0))]) (h : M_Mo_taken_j350 s = some o) : WW X q s 350 ls [] := by
  unfold M_Mo_taken_j350 at h
  refine ww_aload_n (pc := 350) g.1 d_Mo_taken_350 rfl (lv_at hl 0 rfl) ?_
  refine ww_gR (pc := 351) g (k := 78) cl_Mo (pz rfl (by decide)) (by decide) (Or.inl kw_178) (f := 78) (t := 10) rfl rfl rfl d_Mo_taken_351 ?_
  refine ww_iconst (pc := 354) g.1 (v := 0) d_Mo_taken_354 (by decide) ?_
  refine ww_pI (pc := 355) g (k := 2) (cl_Va (Or.inl ⟨by decide, rfl⟩)) (pz rfl (by decide)) (by decide) (Or.inl kw_179) rfl (f := 1282) rfl rfl rfl rfl d_Mo_taken_355 h fun s hs h => ?_
  exact ww_vretH (pc := 358) g h hR d_Mo_taken_358

theorem lp_Mo_taken_L116 {X : Cx} {q : PL} (g : Gd X y_Mo_taken b_Mo_taken 8 none 9 233 R_Mo) (x : Int32 × Int32 × Int32) (s : S1) (o : ((Int32 × Int32 × Int32) ⊕ ((Int32 × Int32))) × S1) (h : M_Mo_taken_L116 x s = some o) (hR : (Sum.elim (fun y : Int32 × Int32 × Int32 => ∀ ls : Array Slot, (0 ≤ y.1 ∧ y.1 < 33) → lv_has ls 8 [(0, .ref (q.1 0 0)), (1, .ref (q.1 28 y.1)), (2, .int y.2.1), (7, .int y.2.2)] → WW X q o.2 116 ls []) (fun y : Int32 × Int32 => ∀ ls : Array Slot, (0 ≤ y.1 ∧ y.1 < 33) → lv_has ls 8 [(0, .ref (q.1 0 0)), (1, .ref (q.1 28 y.1)), (2, .int y.2)] → WW X q o.2 147 ls []) o.1)) : ∀ ls : Array Slot, (0 ≤ x.1 ∧ x.1 < 33) → lv_has ls 8 [(0, .ref (q.1 0 0)), (1, .ref (q.1 28 x.1)), (2, .int x.2.1), (7, .int x.2.2)] → WW X q s 116 ls [] := by
  intro ls hp0 hl
  unfold M_Mo_taken_L116 at h
  refine ww_iload (pc := 116) g.1 d_Mo_taken_116 (lv_at hl 3 rfl) ?_
  refine ww_aload_n (pc := 118) g.1 d_Mo_taken_118 rfl (lv_at hl 0 rfl) ?_
  refine ww_gR (pc := 119) g (k := 78) cl_Mo (pz rfl (by decide)) (by decide) (Or.inl kw_178) (f := 78) (t := 10) rfl rfl rfl d_Mo_taken_119 ?_
  refine ww_gI (pc := 122) g (k := 2) (cl_Va (Or.inl ⟨by decide, rfl⟩)) (pz rfl (by decide)) (by decide) (Or.inl kw_179) (f := 1282) rfl rfl d_Mo_taken_122 h fun v122 h => ?_
  refine ww_icmp_ge (pc := 125) (tgt := 147) g.1 d_Mo_taken_125 (by decide) h (fun c h => ?_) (fun c h => ?_)
  · rw [oR_eq h] at hR
    exact hR ls hp0 (lv_sub hl [0, 1, 2] rfl)
  · refine ww_aload_n (pc := 128) g.1 d_Mo_taken_128 rfl (lv_at hl 1 rfl) ?_
    refine ww_gR (pc := 129) g (k := 8) cl_Th (pt rfl rfl hp0) (by decide) (Or.inl kw_271) (f := 3592) (t := 22) rfl rfl rfl d_Mo_taken_129 ?_
    refine ww_aload_n (pc := 132) g.1 d_Mo_taken_132 rfl (lv_at hl 0 rfl) ?_
    refine ww_gR (pc := 133) g (k := 78) cl_Mo (pz rfl (by decide)) (by decide) (Or.inl kw_178) (f := 78) (t := 10) rfl rfl rfl d_Mo_taken_133 ?_
    refine ww_iload (pc := 136) g.1 d_Mo_taken_136 (lv_at hl 3 rfl) ?_
    obtain ⟨v138, s, hc138, h⟩ := oB_of h
    refine ww_callV (pc := 138) (rest := []) g cv_Va_add_ (Or.inl kw_221) (cl_Va (Or.inr ⟨by decide, hp0⟩)) (pt rfl rfl hp0) (ct_Va_add_ (Or.inr ⟨by decide, hp0⟩) (Or.inl ⟨by decide, rfl⟩) hc138) ⟨by decide, by decide⟩ rfl hl.1 (Nat.le_of_ble_eq_true rfl) d_Mo_taken_138 rfl ?_
    refine ww_st (st' := []) rfl ?_
    refine ww_iinc (pc := 141) g.1 (v := x.2.2 + 1) (lv' := [(7, .int (x.2.2 + 1)), (0, .ref (q.1 0 0)), (1, .ref (q.1 28 x.1)), (2, .int x.2.1)]) d_Mo_taken_141 hl (k := 3) rfl (by rfl) (by decide) rfl fun ls hl => ?_
    refine ww_goto (pc := 144) (tgt := 116) g.1 d_Mo_taken_144 (by decide) ?_
    rw [oR_eq h] at hR
    exact hR ls hp0 (lv_sub hl [1, 2, 3, 0] rfl)

theorem j_Mo_taken_j305 {X : Cx} {q : PL} (g : Gd X y_Mo_taken b_Mo_taken 8 none 9 233 R_Mo) {o : (Unit) × S1} (hR : Rt X q o.2 none) (l1 : Int32) (l2 : Int32) (k0 : Int32) (k1 : Int32) (s : S1) (hp0 : 0 ≤ l1 ∧ l1 < 33) (ls : Array Slot) (hl : lv_has ls 8 [(0, .ref (q.1 0 0)), (1, .ref (q.1 28 l1)), (2, .int l2)]) (h : M_Mo_taken_j305 l1 l2 k0 k1 s = some o) : WW X q s 305 ls [.int k0, .int k1] := by
  unfold M_Mo_taken_j305 at h
  refine ww_icmp_eq (pc := 305) (tgt := 350) g.1 d_Mo_taken_305 (by decide) h (fun c h => ?_) (fun c h => ?_)
  · exact j_Mo_taken_j350 g hR s ls (lv_sub hl [0] rfl) h
  · refine ww_aload_n (pc := 308) g.1 d_Mo_taken_308 rfl (lv_at hl 1 rfl) ?_
    refine ww_gR (pc := 309) g (k := 13) cl_Th (pt rfl rfl hp0) (by decide) (Or.inl kw_274) (f := 3597) (t := 32) rfl rfl rfl d_Mo_taken_309 ?_
    refine ww_iload_n (pc := 312) g.1 d_Mo_taken_312 rfl (lv_at hl 2 rfl) ?_
    refine ww_dup2_11 (pc := 313) g.1 d_Mo_taken_313 rfl rfl ?_
    refine ww_ai (pc := 314) g (pt rfl rfl hp0) rfl rfl d_Mo_taken_314 h fun v314 h => ?_
    refine ww_iconst (pc := 315) g.1 (v := 1) d_Mo_taken_315 (by decide) ?_
    refine ww_iadd (pc := 316) g.1 d_Mo_taken_316 ?_
    refine ww_si (pc := 317) g (pt rfl rfl hp0) rfl rfl d_Mo_taken_317 h fun s hs h => ?_
    refine ww_goto (pc := 318) (tgt := 350) g.1 d_Mo_taken_318 (by decide) ?_
    exact j_Mo_taken_j350 g hR s ls (lv_sub hl [0] rfl) h

theorem j_Mo_taken_j290 {X : Cx} {q : PL} (g : Gd X y_Mo_taken b_Mo_taken 8 none 9 233 R_Mo) {o : (Unit) × S1} (hR : Rt X q o.2 none) (l1 : Int32) (l2 : Int32) (k0 : Int32) (s : S1) (hp0 : 0 ≤ l1 ∧ l1 < 33) (ls : Array Slot) (hl : lv_has ls 8 [(0, .ref (q.1 0 0)), (1, .ref (q.1 28 l1)), (2, .int l2)]) (h : M_Mo_taken_j290 l1 l2 k0 s = some o) : WW X q s 290 ls [.int k0] := by
  unfold M_Mo_taken_j290 at h
  refine ww_aload_n (pc := 290) g.1 d_Mo_taken_290 rfl (lv_at hl 1 rfl) ?_
  refine ww_gR (pc := 291) g (k := 19) cl_Th (pt rfl rfl hp0) (by decide) (Or.inl kw_237) (f := 3603) (t := 38) rfl rfl rfl d_Mo_taken_291 ?_
  refine ww_iload_n (pc := 294) g.1 d_Mo_taken_294 rfl (lv_at hl 2 rfl) ?_
  refine ww_ai (pc := 295) g (pt rfl rfl hp0) rfl rfl d_Mo_taken_295 h fun v295 h => ?_
  refine ww_iconst (pc := 296) g.1 (v := 1) d_Mo_taken_296 (by decide) ?_
  refine ww_icmp_ne (pc := 297) (tgt := 304) g.1 d_Mo_taken_297 (by decide) h (fun c h => ?_) (fun c h => ?_)
  · refine ww_iconst (pc := 304) g.1 (v := 0) d_Mo_taken_304 (by decide) ?_
    exact j_Mo_taken_j305 g hR l1 l2 0 k0 s hp0 ls (lv_sub hl [0, 1, 2] rfl) h
  · refine ww_iconst (pc := 300) g.1 (v := 1) d_Mo_taken_300 (by decide) ?_
    refine ww_goto (pc := 301) (tgt := 305) g.1 d_Mo_taken_301 (by decide) ?_
    exact j_Mo_taken_j305 g hR l1 l2 1 k0 s hp0 ls (lv_sub hl [0, 1, 2] rfl) h

theorem j_Mo_taken_j55 {X : Cx} {q : PL} (g : Gd X y_Mo_taken b_Mo_taken 8 none 9 233 R_Mo) {o : (Unit) × S1} (hR : Rt X q o.2 none) (l1 : Int32) (l2 : Int32) (l3 : Int32) (l4 : Int32) (k0 : Int64) (s : S1) (hp0 : 0 ≤ l1 ∧ l1 < 33) (ls : Array Slot) (hl : lv_has ls 8 [(0, .ref (q.1 0 0)), (1, .ref (q.1 28 l1)), (2, .int l2), (3, .int l3), (4, .int l4)]) (h : M_Mo_taken_j55 l1 l2 l3 l4 k0 s = some o) : WW X q s 55 ls [.long k0] := by
  unfold M_Mo_taken_j55 at h
  refine ww_lstore (pc := 55) (i := 5) g.1 (lv' := [(5, .long k0), (0, .ref (q.1 0 0)), (1, .ref (q.1 28 l1)), (2, .int l2), (3, .int l3), (4, .int l4)]) d_Mo_taken_55 hl (by decide) rfl fun ls hl => ?_
  refine ww_aload_n (pc := 57) g.1 d_Mo_taken_57 rfl (lv_at hl 2 rfl) ?_
  refine ww_gR (pc := 58) g (k := 18) cl_Th (pt rfl rfl hp0) (by decide) (Or.inl kw_156) (f := 3602) (t := 37) rfl rfl rfl d_Mo_taken_58 ?_
  refine ww_iload_n (pc := 61) g.1 d_Mo_taken_61 rfl (lv_at hl 3 rfl) ?_
  refine ww_ai (pc := 62) g (pt rfl rfl hp0) rfl rfl d_Mo_taken_62 h fun v62 h => ?_
  by_cases c63_96 : v62 = 0
  · have h := oC_pos c63_96 h
    have c := c63_96
    refine ww_tableIn (pc := 63) (tgt := 96) g.1 d_Mo_taken_63 (by rw [c]; decide) (by rw [c]; decide) (by rw [c]; rfl) (by decide) ?_
    refine ww_aload_n (pc := 96) g.1 d_Mo_taken_96 rfl (lv_at hl 2 rfl) ?_
    refine ww_gR (pc := 97) g (k := 20) cl_Th (pt rfl rfl hp0) (by decide) (Or.inl kw_238) (f := 3604) (t := 39) rfl rfl rfl d_Mo_taken_97 ?_
    refine ww_iload_n (pc := 100) g.1 d_Mo_taken_100 rfl (lv_at hl 3 rfl) ?_
    refine ww_ai (pc := 101) g (pt rfl rfl hp0) rfl rfl d_Mo_taken_101 h fun v101 h => ?_
    refine ww_if_ge (pc := 102) (tgt := 175) g.1 d_Mo_taken_102 (by decide) h (fun c h => ?_) (fun c h => ?_)
    · refine ww_iconst (pc := 175) g.1 (v := 0) d_Mo_taken_175 (by decide) ?_
      refine ww_istore (pc := 176) (i := 7) g.1 (lv' := [(7, .int 0), (5, .long k0), (0, .ref (q.1 0 0)), (1, .ref (q.1 28 l1)), (2, .int l2), (3, .int l3), (4, .int l4)]) d_Mo_taken_176 hl (by decide) rfl fun ls hl => ?_
      obtain ⟨e178, s1, hw, h⟩ := oB_of h
      refine oW_rule (Wh := fun (x : Int32 × Int32 × Int32 × Int32) (s : S1) => ∀ ls : Array Slot, (0 ≤ x.1 ∧ x.1 < 33) → lv_has ls 8 [(0, .ref (q.1 0 0)), (1, .ref (q.1 28 x.1)), (2, .int x.2.1), (3, .int x.2.2.1), (7, .int x.2.2.2)] → WW X q s 178 ls []) (We := fun (e : (Unit)) (s : S1) => ∀ ls : Array Slot, lv_has ls 8 [(0, .ref (q.1 0 0))] → WW X q s 254 ls []) (fun x s o hb hc => lp_Mo_taken_L178 (q := q) g x s o hb hc) hw ?_ ls hp0 (lv_sub hl [2, 3, 4, 5, 0] rfl)
      clear hw hl
      clear ls
      intro ls hl
      generalize s1 = s at h ⊢
      refine ww_goto (pc := 254) (tgt := 350) g.1 d_Mo_taken_254 (by decide) ?_
      exact j_Mo_taken_j350 g hR s ls (lv_sub hl [0] rfl) h
    · refine ww_aload_n (pc := 105) g.1 d_Mo_taken_105 rfl (lv_at hl 2 rfl) ?_
      refine ww_gR (pc := 106) g (k := 8) cl_Th (pt rfl rfl hp0) (by decide) (Or.inl kw_271) (f := 3592) (t := 22) rfl rfl rfl d_Mo_taken_106 ?_
      refine ww_iconst (pc := 109) g.1 (v := 0) d_Mo_taken_109 (by decide) ?_
      refine ww_pI (pc := 110) g (k := 2) (cl_Va (Or.inr ⟨by decide, hp0⟩)) (pt rfl rfl hp0) (by decide) (Or.inl kw_179) rfl (f := 2818) rfl rfl rfl rfl d_Mo_taken_110 h fun s hs h => ?_
      refine ww_iconst (pc := 113) g.1 (v := 0) d_Mo_taken_113 (by decide) ?_
      refine ww_istore (pc := 114) (i := 7) g.1 (lv' := [(7, .int 0), (5, .long k0), (0, .ref (q.1 0 0)), (1, .ref (q.1 28 l1)), (2, .int l2), (3, .int l3), (4, .int l4)]) d_Mo_taken_114 hl (by decide) rfl fun ls hl => ?_
      obtain ⟨e116, s1, hw, h⟩ := oB_of h
      refine oW_rule (Wh := fun (x : Int32 × Int32 × Int32) (s : S1) => ∀ ls : Array Slot, (0 ≤ x.1 ∧ x.1 < 33) → lv_has ls 8 [(0, .ref (q.1 0 0)), (1, .ref (q.1 28 x.1)), (2, .int x.2.1), (7, .int x.2.2)] → WW X q s 116 ls []) (We := fun (e : (Int32 × Int32)) (s : S1) => ∀ ls : Array Slot, (0 ≤ e.1 ∧ e.1 < 33) → lv_has ls 8 [(0, .ref (q.1 0 0)), (1, .ref (q.1 28 e.1)), (2, .int e.2)] → WW X q s 147 ls []) (fun x s o hb hc => lp_Mo_taken_L116 (q := q) g x s o hb hc) hw ?_ ls hp0 (lv_sub hl [2, 3, 4, 0] rfl)
      clear hw hl
      clear ls
      intro ls hq116_0 hl
      generalize s1 = s at h ⊢
      refine ww_aload_n (pc := 147) g.1 d_Mo_taken_147 rfl (lv_at hl 1 rfl) ?_
      refine ww_gR (pc := 148) g (k := 16) cl_Th (pt rfl rfl hq116_0) (by decide) (Or.inl kw_270) (f := 3600) (t := 35) rfl rfl rfl d_Mo_taken_148 ?_
      refine ww_iload_n (pc := 151) g.1 d_Mo_taken_151 rfl (lv_at hl 2 rfl) ?_
      refine ww_aload_n (pc := 152) g.1 d_Mo_taken_152 rfl (lv_at hl 1 rfl) ?_
      refine ww_gR (pc := 153) g (k := 19) cl_Th (pt rfl rfl hq116_0) (by decide) (Or.inl kw_237) (f := 3603) (t := 38) rfl rfl rfl d_Mo_taken_153 ?_
      refine ww_iload_n (pc := 156) g.1 d_Mo_taken_156 rfl (lv_at hl 2 rfl) ?_
      refine ww_ai (pc := 157) g (pt rfl rfl hq116_0) rfl rfl d_Mo_taken_157 h fun v157 h => ?_
      refine ww_si (pc := 158) g (pt rfl rfl hq116_0) rfl rfl d_Mo_taken_158 h fun s hs h => ?_
      refine ww_aload_n (pc := 159) g.1 d_Mo_taken_159 rfl (lv_at hl 1 rfl) ?_
      refine ww_gR (pc := 160) g (k := 17) cl_Th (pt rfl rfl hq116_0) (by decide) (Or.inl kw_154) (f := 3601) (t := 36) rfl rfl rfl d_Mo_taken_160 ?_
      refine ww_iload_n (pc := 163) g.1 d_Mo_taken_163 rfl (lv_at hl 2 rfl) ?_
      refine ww_aload_n (pc := 164) g.1 d_Mo_taken_164 rfl (lv_at hl 0 rfl) ?_
      refine ww_gR (pc := 165) g (k := 78) cl_Mo (pz rfl (by decide)) (by decide) (Or.inl kw_178) (f := 78) (t := 10) rfl rfl rfl d_Mo_taken_165 ?_
      refine ww_gI (pc := 168) g (k := 2) (cl_Va (Or.inl ⟨by decide, rfl⟩)) (pz rfl (by decide)) (by decide) (Or.inl kw_179) (f := 1282) rfl rfl d_Mo_taken_168 h fun v168 h => ?_
      refine ww_si (pc := 171) g (pt rfl rfl hq116_0) rfl rfl d_Mo_taken_171 h fun s hs h => ?_
      refine ww_goto (pc := 172) (tgt := 350) g.1 d_Mo_taken_172 (by decide) ?_
      exact j_Mo_taken_j350 g hR s ls (lv_sub hl [0] rfl) h
  have h := oC_neg c63_96 h
  by_cases c63_257 : v62 = 1
  · have h := oC_pos c63_257 h
    have c := c63_257
    refine ww_tableIn (pc := 63) (tgt := 257) g.1 d_Mo_taken_63 (by rw [c]; decide) (by rw [c]; decide) (by rw [c]; rfl) (by decide) ?_
    refine ww_aload_n (pc := 257) g.1 d_Mo_taken_257 rfl (lv_at hl 2 rfl) ?_
    refine ww_gR (pc := 258) g (k := 7) cl_Th (pt rfl rfl hp0) (by decide) (Or.inl kw_89) (f := 3591) (t := 19) rfl rfl rfl d_Mo_taken_258 ?_
    refine ww_iload_n (pc := 261) g.1 d_Mo_taken_261 rfl (lv_at hl 4 rfl) ?_
    refine ww_aload_n (pc := 262) g.1 d_Mo_taken_262 rfl (lv_at hl 2 rfl) ?_
    refine ww_gR (pc := 263) g (k := 19) cl_Th (pt rfl rfl hp0) (by decide) (Or.inl kw_237) (f := 3603) (t := 38) rfl rfl rfl d_Mo_taken_263 ?_
    refine ww_iload_n (pc := 266) g.1 d_Mo_taken_266 rfl (lv_at hl 3 rfl) ?_
    refine ww_ai (pc := 267) g (pt rfl rfl hp0) rfl rfl d_Mo_taken_267 h fun v267 h => ?_
    refine ww_iadd (pc := 268) g.1 d_Mo_taken_268 ?_
    refine ww_iload (pc := 269) g.1 d_Mo_taken_269 (lv_at hl 5 rfl) ?_
    refine ww_lload (pc := 271) g.1 d_Mo_taken_271 (lv_at hl 0 rfl) ?_
    obtain ⟨v273, s, hc273, h⟩ := oB_of h
    refine ww_callV (pc := 273) (rest := []) g cv_Va_set (Or.inl kw_99) (cl_Va (Or.inr ⟨by decide, hp0⟩)) (pt rfl rfl hp0) (ct_Va_set (Or.inr ⟨by decide, hp0⟩) hc273) ⟨by decide, by decide⟩ rfl hl.1 (Nat.le_of_ble_eq_true rfl) d_Mo_taken_273 rfl ?_
    refine ww_st (st' := []) rfl ?_
    refine ww_goto (pc := 276) (tgt := 350) g.1 d_Mo_taken_276 (by decide) ?_
    exact j_Mo_taken_j350 g hR s ls (lv_sub hl [1] rfl) h
  have h := oC_neg c63_257 h
  by_cases c63_279 : v62 = 2
  · have h := oC_pos c63_279 h
    have c := c63_279
    refine ww_tableIn (pc := 63) (tgt := 279) g.1 d_Mo_taken_63 (by rw [c]; decide) (by rw [c]; decide) (by rw [c]; rfl) (by decide) ?_
    refine ww_iload (pc := 279) g.1 d_Mo_taken_279 (lv_at hl 5 rfl) ?_
    refine ww_iconst (pc := 281) g.1 (v := 1) d_Mo_taken_281 (by decide) ?_
    refine ww_icmp_le (pc := 282) (tgt := 289) g.1 d_Mo_taken_282 (by decide) h (fun c h => ?_) (fun c h => ?_)
    · refine ww_iconst (pc := 289) g.1 (v := 0) d_Mo_taken_289 (by decide) ?_
      exact j_Mo_taken_j290 g hR l1 l2 0 s hp0 ls (lv_sub hl [1, 2, 3] rfl) h
    · refine ww_iconst (pc := 285) g.1 (v := 1) d_Mo_taken_285 (by decide) ?_
      refine ww_goto (pc := 286) (tgt := 290) g.1 d_Mo_taken_286 (by decide) ?_
      exact j_Mo_taken_j290 g hR l1 l2 1 s hp0 ls (lv_sub hl [1, 2, 3] rfl) h
  have h := oC_neg c63_279 h
  by_cases c63_321 : v62 = 4
  · have h := oC_pos c63_321 h
    have c := c63_321
    refine ww_tableIn (pc := 63) (tgt := 321) g.1 d_Mo_taken_63 (by rw [c]; decide) (by rw [c]; decide) (by rw [c]; rfl) (by decide) ?_
    refine ww_aload_n (pc := 321) g.1 d_Mo_taken_321 rfl (lv_at hl 1 rfl) ?_
    refine ww_gR (pc := 322) g (k := 78) cl_Mo (pz rfl (by decide)) (by decide) (Or.inl kw_178) (f := 78) (t := 10) rfl rfl rfl d_Mo_taken_322 ?_
    refine ww_iconst (pc := 325) g.1 (v := 0) d_Mo_taken_325 (by decide) ?_
    refine ww_pI (pc := 326) g (k := 2) (cl_Va (Or.inl ⟨by decide, rfl⟩)) (pz rfl (by decide)) (by decide) (Or.inl kw_179) rfl (f := 1282) rfl rfl rfl rfl d_Mo_taken_326 h fun s hs h => ?_
    refine ww_aload_n (pc := 329) g.1 d_Mo_taken_329 rfl (lv_at hl 1 rfl) ?_
    refine ww_aload_n (pc := 330) g.1 d_Mo_taken_330 rfl (lv_at hl 2 rfl) ?_
    refine ww_iload_n (pc := 331) g.1 d_Mo_taken_331 rfl (lv_at hl 3 rfl) ?_
    refine ww_aload_n (pc := 332) g.1 d_Mo_taken_332 rfl (lv_at hl 2 rfl) ?_
    refine ww_gR (pc := 333) g (k := 21) cl_Th (pt rfl rfl hp0) (by decide) (Or.inl kw_547) (f := 3605) (t := 40) rfl rfl rfl d_Mo_taken_333 ?_
    refine ww_iload_n (pc := 336) g.1 d_Mo_taken_336 rfl (lv_at hl 3 rfl) ?_
    refine ww_ai (pc := 337) g (pt rfl rfl hp0) rfl rfl d_Mo_taken_337 h fun v337 h => ?_
    refine ww_iconst (pc := 338) g.1 (v := 1) d_Mo_taken_338 (by decide) ?_
    refine ww_isub (pc := 339) g.1 d_Mo_taken_339 ?_
    refine ww_iload (pc := 340) g.1 d_Mo_taken_340 (lv_at hl 5 rfl) ?_
    refine ww_lload (pc := 342) g.1 d_Mo_taken_342 (lv_at hl 0 rfl) ?_
    obtain ⟨v344, s, hc344, h⟩ := oB_of h
    refine ww_callV (pc := 344) (rest := []) g cv_Mo_join (Or.inl kw_552) cl_Mo (pz rfl (by decide)) (ct_Mo_join hp0 hc344) ⟨by decide, by decide⟩ rfl hl.1 (Nat.le_of_ble_eq_true rfl) d_Mo_taken_344 rfl ?_
    refine ww_st (st' := []) rfl ?_
    refine ww_goto (pc := 347) (tgt := 350) g.1 d_Mo_taken_347 (by decide) ?_
    exact j_Mo_taken_j350 g hR s ls (lv_sub hl [1] rfl) h
  have h := oC_neg c63_321 h
  have n_0 : ¬ v62.toInt = 0 := lv_neT (fun e => c63_96 e) rfl
  have n_1 : ¬ v62.toInt = 1 := lv_neT (fun e => c63_257 e) rfl
  have n_2 : ¬ v62.toInt = 2 := lv_neT (fun e => c63_279 e) rfl
  have n_4 : ¬ v62.toInt = 4 := lv_neT (fun e => c63_321 e) rfl
  by_cases hr : v62.toInt < 0 ∨ 4 < v62.toInt
  · refine ww_tableOut (pc := 63) (tgt := 350) g.1 d_Mo_taken_63 hr (by decide) ?_
    exact j_Mo_taken_j350 g hR s ls (lv_sub hl [1] rfl) h
  have hh : v62.toInt = 3 := by omega
  have c := hh
  refine ww_tableIn (pc := 63) (tgt := 350) g.1 d_Mo_taken_63 (by rw [c]; decide) (by rw [c]; decide) (by rw [c]; rfl) (by decide) ?_
  exact j_Mo_taken_j350 g hR s ls (lv_sub hl [1] rfl) h

theorem j_Mo_taken_j30 {X : Cx} {q : PL} (g : Gd X y_Mo_taken b_Mo_taken 8 none 9 233 R_Mo) {o : (Unit) × S1} (hR : Rt X q o.2 none) (l1 : Int32) (l2 : Int32) (l3 : Int32) (k0 : Int32) (s : S1) (hp0 : 0 ≤ l1 ∧ l1 < 33) (ls : Array Slot) (hl : lv_has ls 8 [(0, .ref (q.1 0 0)), (1, .ref (q.1 28 l1)), (2, .int l2), (3, .int l3)]) (h : M_Mo_taken_j30 l1 l2 l3 k0 s = some o) : WW X q s 30 ls [.int k0] := by
  unfold M_Mo_taken_j30 at h
  refine ww_istore (pc := 30) (i := 4) g.1 (lv' := [(4, .int k0), (0, .ref (q.1 0 0)), (1, .ref (q.1 28 l1)), (2, .int l2), (3, .int l3)]) d_Mo_taken_30 hl (by decide) rfl fun ls hl => ?_
  refine ww_aload_n (pc := 32) g.1 d_Mo_taken_32 rfl (lv_at hl 1 rfl) ?_
  refine ww_gR (pc := 33) g (k := 78) cl_Mo (pz rfl (by decide)) (by decide) (Or.inl kw_178) (f := 78) (t := 10) rfl rfl rfl d_Mo_taken_33 ?_
  refine ww_gI (pc := 36) g (k := 2) (cl_Va (Or.inl ⟨by decide, rfl⟩)) (pz rfl (by decide)) (by decide) (Or.inl kw_179) (f := 1282) rfl rfl d_Mo_taken_36 h fun v36 h => ?_
  refine ww_if_le (pc := 39) (tgt := 54) g.1 d_Mo_taken_39 (by decide) h (fun c h => ?_) (fun c h => ?_)
  · refine ww_lconst (pc := 54) g.1 (v := 0) d_Mo_taken_54 (by decide) ?_
    exact j_Mo_taken_j55 g hR l1 l2 l3 k0 0 s hp0 ls (lv_sub hl [1, 2, 3, 4, 0] rfl) h
  · refine ww_aload_n (pc := 42) g.1 d_Mo_taken_42 rfl (lv_at hl 1 rfl) ?_
    refine ww_gR (pc := 43) g (k := 78) cl_Mo (pz rfl (by decide)) (by decide) (Or.inl kw_178) (f := 78) (t := 10) rfl rfl rfl d_Mo_taken_43 ?_
    refine ww_gR (pc := 46) g (k := 1) (cl_Va (Or.inl ⟨by decide, rfl⟩)) (pz rfl (by decide)) (by decide) (Or.inl kw_93) (f := 1281) (t := 12) rfl rfl rfl d_Mo_taken_46 ?_
    refine ww_iconst (pc := 49) g.1 (v := 0) d_Mo_taken_49 (by decide) ?_
    refine ww_al (pc := 50) g (pz rfl (by decide)) rfl rfl d_Mo_taken_50 h fun v50 h => ?_
    refine ww_goto (pc := 51) (tgt := 55) g.1 d_Mo_taken_51 (by decide) ?_
    exact j_Mo_taken_j55 g hR l1 l2 l3 k0 v50 s hp0 ls (lv_sub hl [1, 2, 3, 4, 0] rfl) h

theorem ct_Mo_taken {l : Launch} {P : PP} {q : PL} {s s' : S1} {l1 : Int32} {l2 : Int32} (hp0 : 0 ≤ l1 ∧ l1 < 33) {r : Unit} (h : M_Mo_taken l1 l2 s = some (r, s')) : Ct l y_Mo_taken b_Mo_taken 8 none 9 233 P q s [.ref (q.1 0 0), .ref (q.1 28 l1), .int l2] none q s' := by
  refine ct_of (by decide) (Nat.le_of_ble_eq_true rfl) fun X ls eP el g hR hl => ?_
  subst eP
  have hR : Rt X q ((r, s') : Unit × S1).2 none := hR
  have hl : lv_has ls 8 [(0, .ref (q.1 0 0)), (1, .ref (q.1 28 l1)), (2, .int l2)] := hl
  generalize (r, s') = o at h hR
  unfold M_Mo_taken at h
  refine ww_aload_n (pc := 0) g.1 d_Mo_taken_0 rfl (lv_at hl 1 rfl) ?_
  refine ww_gR (pc := 1) g (k := 14) cl_Th (pt rfl rfl hp0) (by decide) (Or.inl kw_254) (f := 3598) (t := 33) rfl rfl rfl d_Mo_taken_1 ?_
  refine ww_iload_n (pc := 4) g.1 d_Mo_taken_4 rfl (lv_at hl 2 rfl) ?_
  refine ww_ai (pc := 5) g (pt rfl rfl hp0) rfl rfl d_Mo_taken_5 h fun v5 h => ?_
  refine ww_istore_n (pc := 6) (i := 3) g.1 (lv' := [(3, .int v5), (0, .ref (q.1 0 0)), (1, .ref (q.1 28 l1)), (2, .int l2)]) d_Mo_taken_6 rfl hl (by decide) rfl fun ls hl => ?_
  refine ww_aload_n (pc := 7) g.1 d_Mo_taken_7 rfl (lv_at hl 1 rfl) ?_
  refine ww_gR (pc := 8) g (k := 78) cl_Mo (pz rfl (by decide)) (by decide) (Or.inl kw_178) (f := 78) (t := 10) rfl rfl rfl d_Mo_taken_8 ?_
  refine ww_gI (pc := 11) g (k := 2) (cl_Va (Or.inl ⟨by decide, rfl⟩)) (pz rfl (by decide)) (by decide) (Or.inl kw_179) (f := 1282) rfl rfl d_Mo_taken_11 h fun v11 h => ?_
  refine ww_if_le (pc := 14) (tgt := 29) g.1 d_Mo_taken_14 (by decide) h (fun c h => ?_) (fun c h => ?_)
  · refine ww_iconst (pc := 29) g.1 (v := 0) d_Mo_taken_29 (by decide) ?_
    exact j_Mo_taken_j30 g hR l1 l2 v5 0 s hp0 ls (lv_sub hl [1, 2, 3, 0] rfl) h
  · refine ww_aload_n (pc := 17) g.1 d_Mo_taken_17 rfl (lv_at hl 1 rfl) ?_
    refine ww_gR (pc := 18) g (k := 78) cl_Mo (pz rfl (by decide)) (by decide) (Or.inl kw_178) (f := 78) (t := 10) rfl rfl rfl d_Mo_taken_18 ?_
    refine ww_gR (pc := 21) g (k := 0) (cl_Va (Or.inl ⟨by decide, rfl⟩)) (pz rfl (by decide)) (by decide) (Or.inl kw_90) (f := 1280) (t := 11) rfl rfl rfl d_Mo_taken_21 ?_
    refine ww_iconst (pc := 24) g.1 (v := 0) d_Mo_taken_24 (by decide) ?_
    refine ww_ab (pc := 25) g (pz rfl (by decide)) rfl rfl d_Mo_taken_25 h fun v25 h => ?_
    refine ww_goto (pc := 26) (tgt := 30) g.1 d_Mo_taken_26 (by decide) ?_
    exact j_Mo_taken_j30 g hR l1 l2 v5 v25 s hp0 ls (lv_sub hl [1, 2, 3, 0] rfl) h

abbrev b_Mo_step : ByteArray := prog_14_method_111_code
def y_Mo_step : MethodName := ⟨R_Mo, "step", "()V"⟩
abbrev w_Mo_step : List Cond := .code y_Mo_step b_Mo_step 8 none :: wA
set_option maxRecDepth 20000 in
theorem k_Mo_step : Cond.code y_Mo_step b_Mo_step 8 none ∈ wA := kinm (show _ ∈ tables_1 from (List.mem_append_right _ (List.mem_append_right _ (List.mem_append_right _ (List.mem_append_right _ (List.mem_append_right _ (List.mem_append_right _ (List.mem_append_right _ (List.mem_append_right _ (List.mem_append_right _ (List.mem_append_right _ (List.mem_append_right _ (List.mem_append_right _ (List.mem_append_left _ (List.mem_of_getElem? (l := tables_1_13) (i := 130) rfl))))))))))))))) rfl
theorem d_Mo_step_0 : decode b_Mo_step 0 = .ok (.aload_n 0, 1) := by decide +kernel
theorem d_Mo_step_1 : decode b_Mo_step 1 = .ok (.getfield 243, 3) := by decide +kernel
theorem d_Mo_step_4 : decode b_Mo_step 4 = .ok (.astore_n 1, 1) := by decide +kernel
theorem d_Mo_step_5 : decode b_Mo_step 5 = .ok (.aload_n 1, 1) := by decide +kernel
theorem d_Mo_step_6 : decode b_Mo_step 6 = .ok (.invokevirtual 703, 3) := by decide +kernel
theorem d_Mo_step_9 : decode b_Mo_step 9 = .ok (.istore_n 2, 1) := by decide +kernel
theorem d_Mo_step_10 : decode b_Mo_step 10 = .ok (.aload_n 0, 1) := by decide +kernel
theorem d_Mo_step_11 : decode b_Mo_step 11 = .ok (.getfield 168, 3) := by decide +kernel
theorem d_Mo_step_14 : decode b_Mo_step 14 = .ok (.aload_n 1, 1) := by decide +kernel
theorem d_Mo_step_15 : decode b_Mo_step 15 = .ok (.getfield 736, 3) := by decide +kernel
theorem d_Mo_step_18 : decode b_Mo_step 18 = .ok (.iload_n 2, 1) := by decide +kernel
theorem d_Mo_step_19 : decode b_Mo_step 19 = .ok (.iaload, 1) := by decide +kernel
theorem d_Mo_step_20 : decode b_Mo_step 20 = .ok (.iaload, 1) := by decide +kernel
theorem d_Mo_step_21 : decode b_Mo_step 21 = .ok (.istore_n 3, 1) := by decide +kernel
theorem d_Mo_step_22 : decode b_Mo_step 22 = .ok (.aload_n 0, 1) := by decide +kernel
theorem d_Mo_step_23 : decode b_Mo_step 23 = .ok (.getfield 71, 3) := by decide +kernel
theorem d_Mo_step_26 : decode b_Mo_step 26 = .ok (.aload_n 0, 1) := by decide +kernel
theorem d_Mo_step_27 : decode b_Mo_step 27 = .ok (.getfield 53, 3) := by decide +kernel
theorem d_Mo_step_30 : decode b_Mo_step 30 = .ok (.iload_n 3, 1) := by decide +kernel
theorem d_Mo_step_31 : decode b_Mo_step 31 = .ok (.iaload, 1) := by decide +kernel
theorem d_Mo_step_32 : decode b_Mo_step 32 = .ok (.aload_n 1, 1) := by decide +kernel
theorem d_Mo_step_33 : decode b_Mo_step 33 = .ok (.getfield 758, 3) := by decide +kernel
theorem d_Mo_step_36 : decode b_Mo_step 36 = .ok (.iload_n 2, 1) := by decide +kernel
theorem d_Mo_step_37 : decode b_Mo_step 37 = .ok (.iaload, 1) := by decide +kernel
theorem d_Mo_step_38 : decode b_Mo_step 38 = .ok (.iadd, 1) := by decide +kernel
theorem d_Mo_step_39 : decode b_Mo_step 39 = .ok (.iaload, 1) := by decide +kernel
theorem d_Mo_step_40 : decode b_Mo_step 40 = .ok (.istore 4, 2) := by decide +kernel
theorem d_Mo_step_42 : decode b_Mo_step 42 = .ok (.aload_n 1, 1) := by decide +kernel
theorem d_Mo_step_43 : decode b_Mo_step 43 = .ok (.getfield 758, 3) := by decide +kernel
theorem d_Mo_step_46 : decode b_Mo_step 46 = .ok (.iload_n 2, 1) := by decide +kernel
theorem d_Mo_step_47 : decode b_Mo_step 47 = .ok (.dup2, 1) := by decide +kernel
theorem d_Mo_step_48 : decode b_Mo_step 48 = .ok (.iaload, 1) := by decide +kernel
theorem d_Mo_step_49 : decode b_Mo_step 49 = .ok (.iconst 1, 1) := by decide +kernel
theorem d_Mo_step_50 : decode b_Mo_step 50 = .ok (.iadd, 1) := by decide +kernel
theorem d_Mo_step_51 : decode b_Mo_step 51 = .ok (.iastore, 1) := by decide +kernel
theorem d_Mo_step_52 : decode b_Mo_step 52 = .ok (.aload_n 0, 1) := by decide +kernel
theorem d_Mo_step_53 : decode b_Mo_step 53 = .ok (.dup, 1) := by decide +kernel
theorem d_Mo_step_54 : decode b_Mo_step 54 = .ok (.getfield 271, 3) := by decide +kernel
theorem d_Mo_step_57 : decode b_Mo_step 57 = .ok (.lconst 1, 1) := by decide +kernel
theorem d_Mo_step_58 : decode b_Mo_step 58 = .ok (.ladd, 1) := by decide +kernel
theorem d_Mo_step_59 : decode b_Mo_step 59 = .ok (.putfield 271, 3) := by decide +kernel
theorem d_Mo_step_62 : decode b_Mo_step 62 = .ok (.iload 4, 2) := by decide +kernel
theorem d_Mo_step_64 : decode b_Mo_step 64 = .ok (.invokestatic 475, 3) := by decide +kernel
theorem d_Mo_step_67 : decode b_Mo_step 67 = .ok (.istore 5, 2) := by decide +kernel
theorem d_Mo_step_69 : decode b_Mo_step 69 = .ok (.aload_n 1, 1) := by decide +kernel
theorem d_Mo_step_70 : decode b_Mo_step 70 = .ok (.getfield 591, 3) := by decide +kernel
theorem d_Mo_step_73 : decode b_Mo_step 73 = .ok (.astore 6, 2) := by decide +kernel
theorem d_Mo_step_75 : decode b_Mo_step 75 = .ok (.aload_n 1, 1) := by decide +kernel
theorem d_Mo_step_76 : decode b_Mo_step 76 = .ok (.getfield 744, 3) := by decide +kernel
theorem d_Mo_step_79 : decode b_Mo_step 79 = .ok (.iload_n 2, 1) := by decide +kernel
theorem d_Mo_step_80 : decode b_Mo_step 80 = .ok (.iaload, 1) := by decide +kernel
theorem d_Mo_step_81 : decode b_Mo_step 81 = .ok (.iload 4, 2) := by decide +kernel
theorem d_Mo_step_83 : decode b_Mo_step 83 = .ok (.invokestatic 495, 3) := by decide +kernel
theorem d_Mo_step_86 : decode b_Mo_step 86 = .ok (.iadd, 1) := by decide +kernel
theorem d_Mo_step_87 : decode b_Mo_step 87 = .ok (.istore 7, 2) := by decide +kernel
theorem d_Mo_step_89 : decode b_Mo_step 89 = .ok (.iload 5, 2) := by decide +kernel
theorem d_Mo_step_91 : decode b_Mo_step 91 = .ok (.bipush 12, 2) := by decide +kernel
theorem d_Mo_step_93 : decode b_Mo_step 93 = .ok (.if_icmp .ge 21, 3) := by decide +kernel
theorem d_Mo_step_96 : decode b_Mo_step 96 = .ok (.aload_n 0, 1) := by decide +kernel
theorem d_Mo_step_97 : decode b_Mo_step 97 = .ok (.aload_n 1, 1) := by decide +kernel
theorem d_Mo_step_98 : decode b_Mo_step 98 = .ok (.iload_n 2, 1) := by decide +kernel
theorem d_Mo_step_99 : decode b_Mo_step 99 = .ok (.iload_n 3, 1) := by decide +kernel
theorem d_Mo_step_100 : decode b_Mo_step 100 = .ok (.iload 4, 2) := by decide +kernel
theorem d_Mo_step_102 : decode b_Mo_step 102 = .ok (.iload 5, 2) := by decide +kernel
theorem d_Mo_step_104 : decode b_Mo_step 104 = .ok (.aload 6, 2) := by decide +kernel
theorem d_Mo_step_106 : decode b_Mo_step 106 = .ok (.iload 7, 2) := by decide +kernel
theorem d_Mo_step_108 : decode b_Mo_step 108 = .ok (.invokevirtual 908, 3) := by decide +kernel
theorem d_Mo_step_111 : decode b_Mo_step 111 = .ok (.goto 91, 3) := by decide +kernel
theorem d_Mo_step_114 : decode b_Mo_step 114 = .ok (.iload 5, 2) := by decide +kernel
theorem d_Mo_step_116 : decode b_Mo_step 116 = .ok (.bipush 12, 2) := by decide +kernel
theorem d_Mo_step_118 : decode b_Mo_step 118 = .ok (.if_icmp .ne 19, 3) := by decide +kernel
theorem d_Mo_step_121 : decode b_Mo_step 121 = .ok (.aload_n 0, 1) := by decide +kernel
theorem d_Mo_step_122 : decode b_Mo_step 122 = .ok (.aload_n 1, 1) := by decide +kernel
theorem d_Mo_step_123 : decode b_Mo_step 123 = .ok (.iload_n 2, 1) := by decide +kernel
theorem d_Mo_step_124 : decode b_Mo_step 124 = .ok (.iload_n 3, 1) := by decide +kernel
theorem d_Mo_step_125 : decode b_Mo_step 125 = .ok (.iload 4, 2) := by decide +kernel
theorem d_Mo_step_127 : decode b_Mo_step 127 = .ok (.aload 6, 2) := by decide +kernel
theorem d_Mo_step_129 : decode b_Mo_step 129 = .ok (.iload 7, 2) := by decide +kernel
theorem d_Mo_step_131 : decode b_Mo_step 131 = .ok (.invokevirtual 912, 3) := by decide +kernel
theorem d_Mo_step_134 : decode b_Mo_step 134 = .ok (.goto 68, 3) := by decide +kernel
theorem d_Mo_step_137 : decode b_Mo_step 137 = .ok (.iload 5, 2) := by decide +kernel
theorem d_Mo_step_139 : decode b_Mo_step 139 = .ok (.bipush 27, 2) := by decide +kernel
theorem d_Mo_step_141 : decode b_Mo_step 141 = .ok (.if_icmp .ge 21, 3) := by decide +kernel
theorem d_Mo_step_144 : decode b_Mo_step 144 = .ok (.aload_n 0, 1) := by decide +kernel
theorem d_Mo_step_145 : decode b_Mo_step 145 = .ok (.aload_n 1, 1) := by decide +kernel
theorem d_Mo_step_146 : decode b_Mo_step 146 = .ok (.iload_n 2, 1) := by decide +kernel
theorem d_Mo_step_147 : decode b_Mo_step 147 = .ok (.iload_n 3, 1) := by decide +kernel
theorem d_Mo_step_148 : decode b_Mo_step 148 = .ok (.iload 4, 2) := by decide +kernel
theorem d_Mo_step_150 : decode b_Mo_step 150 = .ok (.iload 5, 2) := by decide +kernel
theorem d_Mo_step_152 : decode b_Mo_step 152 = .ok (.aload 6, 2) := by decide +kernel
theorem d_Mo_step_154 : decode b_Mo_step 154 = .ok (.iload 7, 2) := by decide +kernel
theorem d_Mo_step_156 : decode b_Mo_step 156 = .ok (.invokevirtual 916, 3) := by decide +kernel
theorem d_Mo_step_159 : decode b_Mo_step 159 = .ok (.goto 43, 3) := by decide +kernel
theorem d_Mo_step_162 : decode b_Mo_step 162 = .ok (.iload 5, 2) := by decide +kernel
theorem d_Mo_step_164 : decode b_Mo_step 164 = .ok (.bipush 36, 2) := by decide +kernel
theorem d_Mo_step_166 : decode b_Mo_step 166 = .ok (.if_icmp .ge 21, 3) := by decide +kernel
theorem d_Mo_step_169 : decode b_Mo_step 169 = .ok (.aload_n 0, 1) := by decide +kernel
theorem d_Mo_step_170 : decode b_Mo_step 170 = .ok (.aload_n 1, 1) := by decide +kernel
theorem d_Mo_step_171 : decode b_Mo_step 171 = .ok (.iload_n 2, 1) := by decide +kernel
theorem d_Mo_step_172 : decode b_Mo_step 172 = .ok (.iload_n 3, 1) := by decide +kernel
theorem d_Mo_step_173 : decode b_Mo_step 173 = .ok (.iload 4, 2) := by decide +kernel
theorem d_Mo_step_175 : decode b_Mo_step 175 = .ok (.iload 5, 2) := by decide +kernel
theorem d_Mo_step_177 : decode b_Mo_step 177 = .ok (.aload 6, 2) := by decide +kernel
theorem d_Mo_step_179 : decode b_Mo_step 179 = .ok (.iload 7, 2) := by decide +kernel
theorem d_Mo_step_181 : decode b_Mo_step 181 = .ok (.invokevirtual 919, 3) := by decide +kernel
theorem d_Mo_step_184 : decode b_Mo_step 184 = .ok (.goto 18, 3) := by decide +kernel
theorem d_Mo_step_187 : decode b_Mo_step 187 = .ok (.aload_n 0, 1) := by decide +kernel
theorem d_Mo_step_188 : decode b_Mo_step 188 = .ok (.aload_n 1, 1) := by decide +kernel
theorem d_Mo_step_189 : decode b_Mo_step 189 = .ok (.iload_n 2, 1) := by decide +kernel
theorem d_Mo_step_190 : decode b_Mo_step 190 = .ok (.iload_n 3, 1) := by decide +kernel
theorem d_Mo_step_191 : decode b_Mo_step 191 = .ok (.iload 4, 2) := by decide +kernel
theorem d_Mo_step_193 : decode b_Mo_step 193 = .ok (.iload 5, 2) := by decide +kernel
theorem d_Mo_step_195 : decode b_Mo_step 195 = .ok (.aload 6, 2) := by decide +kernel
theorem d_Mo_step_197 : decode b_Mo_step 197 = .ok (.iload 7, 2) := by decide +kernel
theorem d_Mo_step_199 : decode b_Mo_step 199 = .ok (.invokevirtual 922, 3) := by decide +kernel
theorem d_Mo_step_202 : decode b_Mo_step 202 = .ok (.return_, 1) := by decide +kernel
theorem kw_571 : Cond.methodLink R_Mo 922 y_Mo_high ∈ wA := kinm (show _ ∈ tables_1 from (List.mem_append_right _ (List.mem_append_right _ (List.mem_append_right _ (List.mem_append_right _ (List.mem_append_right _ (List.mem_append_right _ (List.mem_append_right _ (List.mem_append_right _ (List.mem_append_right _ (List.mem_append_right _ (List.mem_append_right _ (List.mem_append_right _ (List.mem_append_left _ (List.mem_of_getElem? (l := tables_1_13) (i := 204) (by decide +kernel)))))))))))))))) (by decide +kernel)
theorem kw_572 : Cond.methodLink R_Mo 919 y_Mo_middle ∈ wA := kinm (show _ ∈ tables_1 from (List.mem_append_right _ (List.mem_append_right _ (List.mem_append_right _ (List.mem_append_right _ (List.mem_append_right _ (List.mem_append_right _ (List.mem_append_right _ (List.mem_append_right _ (List.mem_append_right _ (List.mem_append_right _ (List.mem_append_right _ (List.mem_append_right _ (List.mem_append_left _ (List.mem_of_getElem? (l := tables_1_13) (i := 184) (by decide +kernel)))))))))))))))) (by decide +kernel)
theorem kw_573 : Cond.methodLink R_Mo 916 y_Mo_arithmetic ∈ wA := kinm (show _ ∈ tables_1 from (List.mem_append_right _ (List.mem_append_right _ (List.mem_append_right _ (List.mem_append_right _ (List.mem_append_right _ (List.mem_append_right _ (List.mem_append_right _ (List.mem_append_right _ (List.mem_append_right _ (List.mem_append_right _ (List.mem_append_right _ (List.mem_append_right _ (List.mem_append_left _ (List.mem_of_getElem? (l := tables_1_13) (i := 167) (by decide +kernel)))))))))))))))) (by decide +kernel)
theorem kw_574 : Cond.methodLink R_Mo 912 y_Mo_self ∈ wA := kinm (show _ ∈ tables_1 from (List.mem_append_right _ (List.mem_append_right _ (List.mem_append_right _ (List.mem_append_right _ (List.mem_append_right _ (List.mem_append_right _ (List.mem_append_right _ (List.mem_append_right _ (List.mem_append_right _ (List.mem_append_right _ (List.mem_append_right _ (List.mem_append_right _ (List.mem_append_left _ (List.mem_of_getElem? (l := tables_1_13) (i := 163) (by decide +kernel)))))))))))))))) (by decide +kernel)
theorem kw_575 : Cond.methodLink R_Mo 908 y_Mo_small ∈ wA := kinm (show _ ∈ tables_1 from (List.mem_append_right _ (List.mem_append_right _ (List.mem_append_right _ (List.mem_append_right _ (List.mem_append_right _ (List.mem_append_right _ (List.mem_append_right _ (List.mem_append_right _ (List.mem_append_right _ (List.mem_append_right _ (List.mem_append_right _ (List.mem_append_right _ (List.mem_append_left _ (List.mem_of_getElem? (l := tables_1_13) (i := 131) (by decide +kernel)))))))))))))))) (by decide +kernel)
theorem kw_576 : Cond.instanceMethod y_Mo_step ∈ wA := kinm (show _ ∈ tables_1 from (List.mem_append_right _ (List.mem_append_right _ (List.mem_append_right _ (List.mem_append_right _ (List.mem_append_right _ (List.mem_append_right _ (List.mem_append_right _ (List.mem_append_right _ (List.mem_append_right _ (List.mem_append_right _ (List.mem_append_right _ (List.mem_append_right _ (List.mem_append_left _ (List.mem_of_getElem? (l := tables_1_13) (i := 129) (by decide +kernel)))))))))))))))) (by decide +kernel)
theorem kw_577 : Cond.selects R_Mo y_Mo_step y_Mo_step ∈ wA := kinp 203 (by decide +kernel) (by decide +kernel)
theorem cv_Mo_step : CV y_Mo_step b_Mo_step 8 none 0 := ⟨kw_576, kw_577, kw_17, k_Mo_step, by decide +kernel⟩
theorem ct_Mo_step {l : Launch} {P : PP} {q : PL} {s s' : S1}  {r : Unit} (h : M_Mo_step s = some (r, s')) : Ct l y_Mo_step b_Mo_step 8 none 10 261 P q s [.ref (q.1 0 0)] none q s' := by
  refine ct_of (by decide) (Nat.le_of_ble_eq_true rfl) fun X ls eP el g hR hl => ?_
  subst eP
  have hR : Rt X q ((r, s') : Unit × S1).2 none := hR
  have hl : lv_has ls 8 [(0, .ref (q.1 0 0))] := hl
  generalize (r, s') = o at h hR
  unfold M_Mo_step at h
  refine ww_aload_n (pc := 0) g.1 d_Mo_step_0 rfl (lv_at hl 0 rfl) ?_
  refine ww_gV (pc := 1) g (k := 72) cl_Mo (pz rfl (by decide)) (by decide) (Or.inl kw_150) (f := 72) (t := 28) rfl rfl rfl d_Mo_step_1 h fun v1 h => ?_
  refine ww_astore_nV (pc := 4) (i := 1) g.1 vr_cases (lv' := [(1, vr q 28 v1), (0, .ref (q.1 0 0))]) d_Mo_step_4 rfl hl (by decide) rfl fun ls hl => ?_
  refine ww_aload_nV (pc := 5) g.1 vr_cases d_Mo_step_5 rfl (lv_at hl 0 rfl) ?_
  refine ww_ok h fun cn5 h => ?_
  refine ww_nn cn5 ?_
  obtain ⟨v6, s, hc6, h⟩ := oB_of h
  refine ww_callV (pc := 6) (rest := []) g cv_Th_top (Or.inl kw_236) cl_Th (pt rfl rfl cn5) (ct_Th_top cn5 hc6) ⟨by decide, by decide⟩ rfl hl.1 (Nat.le_of_ble_eq_true rfl) d_Mo_step_6 rfl ?_
  refine ww_st (st' := [.int v6]) rfl ?_
  refine ww_istore_n (pc := 9) (i := 2) g.1 (lv' := [(2, .int v6), (1, vr q 28 v1), (0, .ref (q.1 0 0))]) d_Mo_step_9 rfl hl (by decide) (by simp [vr_cat]) fun ls hl => ?_
  refine ww_aload_n (pc := 10) g.1 d_Mo_step_10 rfl (lv_at hl 2 rfl) ?_
  refine ww_gR (pc := 11) g (k := 49) cl_Mo (pz rfl (by decide)) (by decide) (Or.inl kw_87) (f := 49) (t := 62) rfl rfl rfl d_Mo_step_11 ?_
  refine ww_aload_nV (pc := 14) g.1 vr_cases d_Mo_step_14 rfl (lv_at hl 1 rfl) ?_
  refine ww_ok h fun cn14 h => ?_
  refine ww_nn cn14 ?_
  refine ww_gR (pc := 15) g (k := 12) cl_Th (pt rfl rfl cn14) (by decide) (Or.inl kw_153) (f := 3596) (t := 31) rfl rfl rfl d_Mo_step_15 ?_
  refine ww_iload_n (pc := 18) g.1 d_Mo_step_18 rfl (lv_at hl 0 rfl) ?_
  refine ww_ai (pc := 19) g (pt rfl rfl cn14) rfl rfl d_Mo_step_19 h fun v19 h => ?_
  refine ww_ai (pc := 20) g (pz rfl (by decide)) rfl rfl d_Mo_step_20 h fun v20 h => ?_
  refine ww_istore_n (pc := 21) (i := 3) g.1 (lv' := [(3, .int v20), (2, .int v6), (1, vr q 28 v1), (0, .ref (q.1 0 0))]) d_Mo_step_21 rfl hl (by decide) rfl fun ls hl => ?_
  refine ww_aload_n (pc := 22) g.1 d_Mo_step_22 rfl (lv_at hl 3 rfl) ?_
  refine ww_gR (pc := 23) g (k := 19) cl_Mo (pz rfl (by decide)) (by decide) (Or.inl kw_58) (f := 19) (t := 55) rfl rfl rfl d_Mo_step_23 ?_
  refine ww_aload_n (pc := 26) g.1 d_Mo_step_26 rfl (lv_at hl 3 rfl) ?_
  refine ww_gR (pc := 27) g (k := 13) cl_Mo (pz rfl (by decide)) (by decide) (Or.inl kw_59) (f := 13) (t := 49) rfl rfl rfl d_Mo_step_27 ?_
  refine ww_iload_n (pc := 30) g.1 d_Mo_step_30 rfl (lv_at hl 0 rfl) ?_
  refine ww_ai (pc := 31) g (pz rfl (by decide)) rfl rfl d_Mo_step_31 h fun v31 h => ?_
  refine ww_aload_nV (pc := 32) g.1 vr_cases d_Mo_step_32 rfl (lv_at hl 2 rfl) ?_
  refine ww_ok h fun cn32 h => ?_
  refine ww_nn cn32 ?_
  refine ww_gR (pc := 33) g (k := 13) cl_Th (pt rfl rfl cn32) (by decide) (Or.inl kw_274) (f := 3597) (t := 32) rfl rfl rfl d_Mo_step_33 ?_
  refine ww_iload_n (pc := 36) g.1 d_Mo_step_36 rfl (lv_at hl 1 rfl) ?_
  refine ww_ai (pc := 37) g (pt rfl rfl cn32) rfl rfl d_Mo_step_37 h fun v37 h => ?_
  refine ww_iadd (pc := 38) g.1 d_Mo_step_38 ?_
  refine ww_ai (pc := 39) g (pz rfl (by decide)) rfl rfl d_Mo_step_39 h fun v39 h => ?_
  refine ww_istore (pc := 40) (i := 4) g.1 (lv' := [(4, .int v39), (3, .int v20), (2, .int v6), (1, vr q 28 v1), (0, .ref (q.1 0 0))]) d_Mo_step_40 hl (by decide) rfl fun ls hl => ?_
  refine ww_aload_nV (pc := 42) g.1 vr_cases d_Mo_step_42 rfl (lv_at hl 3 rfl) ?_
  refine ww_ok h fun cn42 h => ?_
  refine ww_nn cn42 ?_
  refine ww_gR (pc := 43) g (k := 13) cl_Th (pt rfl rfl cn42) (by decide) (Or.inl kw_274) (f := 3597) (t := 32) rfl rfl rfl d_Mo_step_43 ?_
  refine ww_iload_n (pc := 46) g.1 d_Mo_step_46 rfl (lv_at hl 2 rfl) ?_
  refine ww_dup2_11 (pc := 47) g.1 d_Mo_step_47 rfl rfl ?_
  refine ww_ai (pc := 48) g (pt rfl rfl cn42) rfl rfl d_Mo_step_48 h fun v48 h => ?_
  refine ww_iconst (pc := 49) g.1 (v := 1) d_Mo_step_49 (by decide) ?_
  refine ww_iadd (pc := 50) g.1 d_Mo_step_50 ?_
  refine ww_si (pc := 51) g (pt rfl rfl cn42) rfl rfl d_Mo_step_51 h fun s hs h => ?_
  refine ww_aload_n (pc := 52) g.1 d_Mo_step_52 rfl (lv_at hl 4 rfl) ?_
  refine ww_dup (pc := 53) g.1 d_Mo_step_53 rfl ?_
  refine ww_gL (pc := 54) g (k := 81) cl_Mo (pz rfl (by decide)) (by decide) (Or.inl kw_297) (f := 81) rfl rfl d_Mo_step_54 h fun v54 h => ?_
  refine ww_lconst (pc := 57) g.1 (v := 1) d_Mo_step_57 (by decide) ?_
  refine ww_ladd (pc := 58) g.1 d_Mo_step_58 ?_
  refine ww_pL (pc := 59) g (k := 81) cl_Mo (pz rfl (by decide)) (by decide) (Or.inl kw_297) rfl (f := 81) rfl rfl rfl rfl d_Mo_step_59 h fun s hs h => ?_
  refine ww_iload (pc := 62) g.1 d_Mo_step_62 (lv_at hl 0 rfl) ?_
  obtain ⟨v64, s, hc64, h⟩ := oB_of h
  refine ww_callS (pc := 64) (rest := []) g cs_Mo_op (Or.inl kw_53) (ct_Mo_op hc64) ⟨by decide, by decide⟩ rfl hl.1 (Nat.le_of_ble_eq_true rfl) d_Mo_step_64 rfl ?_
  refine ww_st (st' := [.int v64]) rfl ?_
  refine ww_istore (pc := 67) (i := 5) g.1 (lv' := [(5, .int v64), (4, .int v39), (3, .int v20), (2, .int v6), (1, vr q 28 v1), (0, .ref (q.1 0 0))]) d_Mo_step_67 hl (by decide) rfl fun ls hl => ?_
  refine ww_aload_nV (pc := 69) g.1 vr_cases d_Mo_step_69 rfl (lv_at hl 4 rfl) ?_
  refine ww_ok h fun cn69 h => ?_
  refine ww_nn cn69 ?_
  refine ww_gR (pc := 70) g (k := 7) cl_Th (pt rfl rfl cn69) (by decide) (Or.inl kw_89) (f := 3591) (t := 19) rfl rfl rfl d_Mo_step_70 ?_
  refine ww_astore (pc := 73) (i := 6) g.1 (lv' := [(6, .ref (q.1 19 v1)), (5, .int v64), (4, .int v39), (3, .int v20), (2, .int v6), (1, vr q 28 v1), (0, .ref (q.1 0 0))]) d_Mo_step_73 hl (by decide) rfl fun ls hl => ?_
  refine ww_aload_nV (pc := 75) g.1 vr_cases d_Mo_step_75 rfl (lv_at hl 5 rfl) ?_
  refine ww_ok h fun cn75 h => ?_
  refine ww_nn cn75 ?_
  refine ww_gR (pc := 76) g (k := 14) cl_Th (pt rfl rfl cn75) (by decide) (Or.inl kw_254) (f := 3598) (t := 33) rfl rfl rfl d_Mo_step_76 ?_
  refine ww_iload_n (pc := 79) g.1 d_Mo_step_79 rfl (lv_at hl 4 rfl) ?_
  refine ww_ai (pc := 80) g (pt rfl rfl cn75) rfl rfl d_Mo_step_80 h fun v80 h => ?_
  refine ww_iload (pc := 81) g.1 d_Mo_step_81 (lv_at hl 2 rfl) ?_
  obtain ⟨v83, s, hc83, h⟩ := oB_of h
  refine ww_callS (pc := 83) (rest := [.int v80]) g cs_Mo_a (Or.inl kw_280) (ct_Mo_a hc83) ⟨by decide, by decide⟩ rfl hl.1 (Nat.le_of_ble_eq_true rfl) d_Mo_step_83 rfl ?_
  refine ww_st (st' := [.int v83, .int v80]) rfl ?_
  refine ww_iadd (pc := 86) g.1 d_Mo_step_86 ?_
  refine ww_leti h fun l7_87 h => ?_
  refine ww_istore (pc := 87) (i := 7) g.1 (lv' := [(7, .int l7_87), (6, .ref (q.1 19 v1)), (5, .int v64), (4, .int v39), (3, .int v20), (2, .int v6), (1, vr q 28 v1), (0, .ref (q.1 0 0))]) d_Mo_step_87 hl (by decide) rfl fun ls hl => ?_
  refine ww_iload (pc := 89) g.1 d_Mo_step_89 (lv_at hl 2 rfl) ?_
  refine ww_bipush (pc := 91) g.1 (v := 12) d_Mo_step_91 (by decide) ?_
  refine ww_icmp_ge (pc := 93) (tgt := 114) g.1 d_Mo_step_93 (by decide) h (fun c h => ?_) (fun c h => ?_)
  · refine ww_iload (pc := 114) g.1 d_Mo_step_114 (lv_at hl 2 rfl) ?_
    refine ww_bipush (pc := 116) g.1 (v := 12) d_Mo_step_116 (by decide) ?_
    refine ww_icmp_ne (pc := 118) (tgt := 137) g.1 d_Mo_step_118 (by decide) h (fun c h => ?_) (fun c h => ?_)
    · refine ww_iload (pc := 137) g.1 d_Mo_step_137 (lv_at hl 2 rfl) ?_
      refine ww_bipush (pc := 139) g.1 (v := 27) d_Mo_step_139 (by decide) ?_
      refine ww_icmp_ge (pc := 141) (tgt := 162) g.1 d_Mo_step_141 (by decide) h (fun c h => ?_) (fun c h => ?_)
      · refine ww_iload (pc := 162) g.1 d_Mo_step_162 (lv_at hl 2 rfl) ?_
        refine ww_bipush (pc := 164) g.1 (v := 36) d_Mo_step_164 (by decide) ?_
        refine ww_icmp_ge (pc := 166) (tgt := 187) g.1 d_Mo_step_166 (by decide) h (fun c h => ?_) (fun c h => ?_)
        · refine ww_aload_n (pc := 187) g.1 d_Mo_step_187 rfl (lv_at hl 7 rfl) ?_
          refine ww_aload_nV (pc := 188) g.1 vr_cases d_Mo_step_188 rfl (lv_at hl 6 rfl) ?_
          refine ww_ok h fun cn188 h => ?_
          refine ww_nn cn188 ?_
          refine ww_iload_n (pc := 189) g.1 d_Mo_step_189 rfl (lv_at hl 5 rfl) ?_
          refine ww_iload_n (pc := 190) g.1 d_Mo_step_190 rfl (lv_at hl 4 rfl) ?_
          refine ww_iload (pc := 191) g.1 d_Mo_step_191 (lv_at hl 3 rfl) ?_
          refine ww_iload (pc := 193) g.1 d_Mo_step_193 (lv_at hl 2 rfl) ?_
          refine ww_aload (pc := 195) g.1 d_Mo_step_195 (lv_at hl 1 rfl) ?_
          refine ww_iload (pc := 197) g.1 d_Mo_step_197 (lv_at hl 0 rfl) ?_
          obtain ⟨v199, s, hc199, h⟩ := oB_of h
          refine ww_callV (pc := 199) (rest := []) g cv_Mo_high (Or.inl kw_571) cl_Mo (pz rfl (by decide)) (ct_Mo_high cn188 (Or.inr ⟨by decide, cn188⟩) hc199) ⟨by decide, by decide⟩ rfl hl.1 (Nat.le_of_ble_eq_true rfl) d_Mo_step_199 rfl ?_
          refine ww_st (st' := []) rfl ?_
          exact ww_vretH (pc := 202) g h hR d_Mo_step_202
        · refine ww_aload_n (pc := 169) g.1 d_Mo_step_169 rfl (lv_at hl 7 rfl) ?_
          refine ww_aload_nV (pc := 170) g.1 vr_cases d_Mo_step_170 rfl (lv_at hl 6 rfl) ?_
          refine ww_ok h fun cn170 h => ?_
          refine ww_nn cn170 ?_
          refine ww_iload_n (pc := 171) g.1 d_Mo_step_171 rfl (lv_at hl 5 rfl) ?_
          refine ww_iload_n (pc := 172) g.1 d_Mo_step_172 rfl (lv_at hl 4 rfl) ?_
          refine ww_iload (pc := 173) g.1 d_Mo_step_173 (lv_at hl 3 rfl) ?_
          refine ww_iload (pc := 175) g.1 d_Mo_step_175 (lv_at hl 2 rfl) ?_
          refine ww_aload (pc := 177) g.1 d_Mo_step_177 (lv_at hl 1 rfl) ?_
          refine ww_iload (pc := 179) g.1 d_Mo_step_179 (lv_at hl 0 rfl) ?_
          obtain ⟨v181, s, hc181, h⟩ := oB_of h
          refine ww_callV (pc := 181) (rest := []) g cv_Mo_middle (Or.inl kw_572) cl_Mo (pz rfl (by decide)) (ct_Mo_middle cn170 (Or.inr ⟨by decide, cn170⟩) hc181) ⟨by decide, by decide⟩ rfl hl.1 (Nat.le_of_ble_eq_true rfl) d_Mo_step_181 rfl ?_
          refine ww_st (st' := []) rfl ?_
          refine ww_goto (pc := 184) (tgt := 202) g.1 d_Mo_step_184 (by decide) ?_
          exact ww_vretH (pc := 202) g h hR d_Mo_step_202
      · refine ww_aload_n (pc := 144) g.1 d_Mo_step_144 rfl (lv_at hl 7 rfl) ?_
        refine ww_aload_nV (pc := 145) g.1 vr_cases d_Mo_step_145 rfl (lv_at hl 6 rfl) ?_
        refine ww_ok h fun cn145 h => ?_
        refine ww_nn cn145 ?_
        refine ww_iload_n (pc := 146) g.1 d_Mo_step_146 rfl (lv_at hl 5 rfl) ?_
        refine ww_iload_n (pc := 147) g.1 d_Mo_step_147 rfl (lv_at hl 4 rfl) ?_
        refine ww_iload (pc := 148) g.1 d_Mo_step_148 (lv_at hl 3 rfl) ?_
        refine ww_iload (pc := 150) g.1 d_Mo_step_150 (lv_at hl 2 rfl) ?_
        refine ww_aload (pc := 152) g.1 d_Mo_step_152 (lv_at hl 1 rfl) ?_
        refine ww_iload (pc := 154) g.1 d_Mo_step_154 (lv_at hl 0 rfl) ?_
        obtain ⟨v156, s, hc156, h⟩ := oB_of h
        refine ww_callV (pc := 156) (rest := []) g cv_Mo_arithmetic (Or.inl kw_573) cl_Mo (pz rfl (by decide)) (ct_Mo_arithmetic cn145 (Or.inr ⟨by decide, cn145⟩) hc156) ⟨by decide, by decide⟩ rfl hl.1 (Nat.le_of_ble_eq_true rfl) d_Mo_step_156 rfl ?_
        refine ww_st (st' := []) rfl ?_
        refine ww_goto (pc := 159) (tgt := 202) g.1 d_Mo_step_159 (by decide) ?_
        exact ww_vretH (pc := 202) g h hR d_Mo_step_202
    · refine ww_aload_n (pc := 121) g.1 d_Mo_step_121 rfl (lv_at hl 7 rfl) ?_
      refine ww_aload_nV (pc := 122) g.1 vr_cases d_Mo_step_122 rfl (lv_at hl 6 rfl) ?_
      refine ww_ok h fun cn122 h => ?_
      refine ww_nn cn122 ?_
      refine ww_iload_n (pc := 123) g.1 d_Mo_step_123 rfl (lv_at hl 5 rfl) ?_
      refine ww_iload_n (pc := 124) g.1 d_Mo_step_124 rfl (lv_at hl 4 rfl) ?_
      refine ww_iload (pc := 125) g.1 d_Mo_step_125 (lv_at hl 3 rfl) ?_
      refine ww_aload (pc := 127) g.1 d_Mo_step_127 (lv_at hl 1 rfl) ?_
      refine ww_iload (pc := 129) g.1 d_Mo_step_129 (lv_at hl 0 rfl) ?_
      obtain ⟨v131, s, hc131, h⟩ := oB_of h
      refine ww_callV (pc := 131) (rest := []) g cv_Mo_self (Or.inl kw_574) cl_Mo (pz rfl (by decide)) (ct_Mo_self cn122 (Or.inr ⟨by decide, cn122⟩) hc131) ⟨by decide, by decide⟩ rfl hl.1 (Nat.le_of_ble_eq_true rfl) d_Mo_step_131 rfl ?_
      refine ww_st (st' := []) rfl ?_
      refine ww_goto (pc := 134) (tgt := 202) g.1 d_Mo_step_134 (by decide) ?_
      exact ww_vretH (pc := 202) g h hR d_Mo_step_202
  · refine ww_aload_n (pc := 96) g.1 d_Mo_step_96 rfl (lv_at hl 7 rfl) ?_
    refine ww_aload_nV (pc := 97) g.1 vr_cases d_Mo_step_97 rfl (lv_at hl 6 rfl) ?_
    refine ww_ok h fun cn97 h => ?_
    refine ww_nn cn97 ?_
    refine ww_iload_n (pc := 98) g.1 d_Mo_step_98 rfl (lv_at hl 5 rfl) ?_
    refine ww_iload_n (pc := 99) g.1 d_Mo_step_99 rfl (lv_at hl 4 rfl) ?_
    refine ww_iload (pc := 100) g.1 d_Mo_step_100 (lv_at hl 3 rfl) ?_
    refine ww_iload (pc := 102) g.1 d_Mo_step_102 (lv_at hl 2 rfl) ?_
    refine ww_aload (pc := 104) g.1 d_Mo_step_104 (lv_at hl 1 rfl) ?_
    refine ww_iload (pc := 106) g.1 d_Mo_step_106 (lv_at hl 0 rfl) ?_
    obtain ⟨v108, s, hc108, h⟩ := oB_of h
    refine ww_callV (pc := 108) (rest := []) g cv_Mo_small (Or.inl kw_575) cl_Mo (pz rfl (by decide)) (ct_Mo_small cn97 (Or.inr ⟨by decide, cn97⟩) hc108) ⟨by decide, by decide⟩ rfl hl.1 (Nat.le_of_ble_eq_true rfl) d_Mo_step_108 rfl ?_
    refine ww_st (st' := []) rfl ?_
    refine ww_goto (pc := 111) (tgt := 202) g.1 d_Mo_step_111 (by decide) ?_
    exact ww_vretH (pc := 202) g h hR d_Mo_step_202


