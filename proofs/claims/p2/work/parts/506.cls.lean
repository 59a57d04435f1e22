abbrev b_He_reach : ByteArray := prog_6_method_22_code
def y_He_reach : MethodName := ⟨R_He, "reach", "(IJ)V"⟩
abbrev w_He_reach : List Cond := .code y_He_reach b_He_reach 5 none :: wA
theorem k_He_reach : Cond.code y_He_reach b_He_reach 5 none ∈ wA := kinm (show _ ∈ tables_1 from (List.mem_append_right _ (List.mem_append_right _ (List.mem_append_right _ (List.mem_append_right _ (List.mem_append_left _ (List.mem_of_getElem? (l := tables_1_5) (i := 134) (by decide +kernel)))))))) (by decide +kernel)
theorem d_He_reach_0 : decode b_He_reach 0 = .ok (.iload_n 1, 1) := by decide +kernel
theorem d_He_reach_1 : decode b_He_reach 1 = .ok (.iconst 4, 1) := by decide +kernel
theorem d_He_reach_2 : decode b_He_reach 2 = .ok (.if_icmp .lt 9, 3) := by decide +kernel
theorem d_He_reach_5 : decode b_He_reach 5 = .ok (.lload_n 2, 1) := by decide +kernel
theorem d_He_reach_6 : decode b_He_reach 6 = .ok (.lconst 0, 1) := by decide +kernel
theorem d_He_reach_7 : decode b_He_reach 7 = .ok (.lcmp, 1) := by decide +kernel
theorem d_He_reach_8 : decode b_He_reach 8 = .ok (.ifCond .ge 4, 3) := by decide +kernel
theorem d_He_reach_11 : decode b_He_reach 11 = .ok (.return_, 1) := by decide +kernel
theorem d_He_reach_12 : decode b_He_reach 12 = .ok (.lload_n 2, 1) := by decide +kernel
theorem d_He_reach_13 : decode b_He_reach 13 = .ok (.l2i, 1) := by decide +kernel
theorem d_He_reach_14 : decode b_He_reach 14 = .ok (.istore 4, 2) := by decide +kernel
theorem d_He_reach_16 : decode b_He_reach 16 = .ok (.aload_n 0, 1) := by decide +kernel
theorem d_He_reach_17 : decode b_He_reach 17 = .ok (.getfield 11, 3) := by decide +kernel
theorem d_He_reach_20 : decode b_He_reach 20 = .ok (.iload 4, 2) := by decide +kernel
theorem d_He_reach_22 : decode b_He_reach 22 = .ok (.aaload, 1) := by decide +kernel
theorem d_He_reach_23 : decode b_He_reach 23 = .ok (.getfield 191, 3) := by decide +kernel
theorem d_He_reach_26 : decode b_He_reach 26 = .ok (.ifCond .ne 40, 3) := by decide +kernel
theorem d_He_reach_29 : decode b_He_reach 29 = .ok (.aload_n 0, 1) := by decide +kernel
theorem d_He_reach_30 : decode b_He_reach 30 = .ok (.getfield 11, 3) := by decide +kernel
theorem d_He_reach_33 : decode b_He_reach 33 = .ok (.iload 4, 2) := by decide +kernel
theorem d_He_reach_35 : decode b_He_reach 35 = .ok (.aaload, 1) := by decide +kernel
theorem d_He_reach_36 : decode b_He_reach 36 = .ok (.iconst 1, 1) := by decide +kernel
theorem d_He_reach_37 : decode b_He_reach 37 = .ok (.putfield 191, 3) := by decide +kernel
theorem d_He_reach_40 : decode b_He_reach 40 = .ok (.iload_n 1, 1) := by decide +kernel
theorem d_He_reach_41 : decode b_He_reach 41 = .ok (.iconst 4, 1) := by decide +kernel
theorem d_He_reach_42 : decode b_He_reach 42 = .ok (.if_icmp .eq 24, 3) := by decide +kernel
theorem d_He_reach_45 : decode b_He_reach 45 = .ok (.aload_n 0, 1) := by decide +kernel
theorem d_He_reach_46 : decode b_He_reach 46 = .ok (.getfield 40, 3) := by decide +kernel
theorem d_He_reach_49 : decode b_He_reach 49 = .ok (.aload_n 0, 1) := by decide +kernel
theorem d_He_reach_50 : decode b_He_reach 50 = .ok (.getfield 194, 3) := by decide +kernel
theorem d_He_reach_53 : decode b_He_reach 53 = .ok (.iload 4, 2) := by decide +kernel
theorem d_He_reach_55 : decode b_He_reach 55 = .ok (.iastore, 1) := by decide +kernel
theorem d_He_reach_56 : decode b_He_reach 56 = .ok (.aload_n 0, 1) := by decide +kernel
theorem d_He_reach_57 : decode b_He_reach 57 = .ok (.dup, 1) := by decide +kernel
theorem d_He_reach_58 : decode b_He_reach 58 = .ok (.getfield 194, 3) := by decide +kernel
theorem d_He_reach_61 : decode b_He_reach 61 = .ok (.iconst 1, 1) := by decide +kernel
theorem d_He_reach_62 : decode b_He_reach 62 = .ok (.iadd, 1) := by decide +kernel
theorem d_He_reach_63 : decode b_He_reach 63 = .ok (.putfield 194, 3) := by decide +kernel
theorem d_He_reach_66 : decode b_He_reach 66 = .ok (.return_, 1) := by decide +kernel
theorem kw_725 : Cond.fieldLink R_He 11 "LuaMachine$Heap" "things" "[LLuaMachine$Thing;" ∈ wA := kinm (show _ ∈ tables_1 from (List.mem_append_left _ (List.mem_of_getElem? (l := tables_1_1) (i := 133) (by decide +kernel)))) (by decide +kernel)
theorem kw_726 : Cond.fieldLink R_He 191 "LuaMachine$Thing" "reached" "Z" ∈ wA := kinm (show _ ∈ tables_1 from (List.mem_append_right _ (List.mem_append_right _ (List.mem_append_right _ (List.mem_append_right _ (List.mem_append_left _ (List.mem_of_getElem? (l := tables_1_5) (i := 175) (by decide +kernel)))))))) (by decide +kernel)
theorem kw_727 : Cond.fieldLink R_He 40 "LuaMachine$Heap" "waiting" "[I" ∈ wA := kinm (show _ ∈ tables_1 from (List.mem_append_left _ (List.mem_of_getElem? (l := tables_1_1) (i := 161) (by decide +kernel)))) (by decide +kernel)
theorem kw_728 : Cond.fieldLink R_He 194 "LuaMachine$Heap" "waitingCount" "I" ∈ wA := kinm (show _ ∈ tables_1 from (List.mem_append_left _ (List.mem_of_getElem? (l := tables_1_1) (i := 162) (by decide +kernel)))) (by decide +kernel)
theorem kw_729 : Cond.instanceMethod y_He_reach ∈ wA := kinm (show _ ∈ tables_1 from (List.mem_append_right _ (List.mem_append_right _ (List.mem_append_right _ (List.mem_append_right _ (List.mem_append_left _ (List.mem_of_getElem? (l := tables_1_5) (i := 133) (by decide +kernel)))))))) (by decide +kernel)
theorem kw_730 : Cond.selects R_He y_He_reach y_He_reach ∈ wA := kinp 18 (by decide +kernel) (by decide +kernel)
theorem cv_He_reach : CV y_He_reach b_He_reach 5 none 2 := ⟨kw_729, kw_730, kw_712, k_He_reach, by decide +kernel⟩
theorem ct_He_reach {l : Launch} {P : PP} {q : PL} {s s' : S1} {l1 : Int32} {l2 : Int64} {r : Unit} (h : M_He_reach l1 l2 s = some (r, s')) : Ct l y_He_reach b_He_reach 5 none 0 0 P q s [.ref (q.1 111 0), .int l1, .long l2] none q s' := by
  refine ct_of (by decide) (Nat.le_of_ble_eq_true rfl) fun X ls eP el g hR hl => ?_
  subst eP
  have hR : Rt X q ((r, s') : Unit × S1).2 none := hR
  have hl : lv_has ls 5 [(0, .ref (q.1 111 0)), (1, .int l1), (2, .long l2)] := hl
  generalize (r, s') = o at h hR
  unfold M_He_reach at h
  refine ww_iload_n (pc := 0) g.1 d_He_reach_0 rfl (lv_at hl 1 rfl) ?_
  refine ww_iconst (pc := 1) g.1 (v := 4) d_He_reach_1 (by decide) ?_
  refine ww_icmp_lt (pc := 2) (tgt := 11) g.1 d_He_reach_2 (by decide) h (fun c h => ?_) (fun c h => ?_)
  · exact ww_vretH (pc := 11) g h hR d_He_reach_11
  · refine ww_lload_n (pc := 5) g.1 d_He_reach_5 rfl (lv_at hl 2 rfl) ?_
    refine ww_lconst (pc := 6) g.1 (v := 0) d_He_reach_6 (by decide) ?_
    refine ww_lcmp (pc := 7) g.1 d_He_reach_7 ?_
    refine ww_if_ge (pc := 8) (tgt := 12) g.1 d_He_reach_8 (by decide) h (fun c h => ?_) (fun c h => ?_)
    · refine ww_lload_n (pc := 12) g.1 d_He_reach_12 rfl (lv_at hl 2 rfl) ?_
      refine ww_l2i (pc := 13) g.1 (v := l2.toInt32) d_He_reach_13 rfl ?_
      refine ww_istore (pc := 14) (i := 4) g.1 (lv' := [(4, .int l2.toInt32), (0, .ref (q.1 111 0)), (1, .int l1), (2, .long l2)]) d_He_reach_14 hl (by decide) rfl fun ls hl => ?_
      refine ww_aload_n (pc := 16) g.1 d_He_reach_16 rfl (lv_at hl 1 rfl) ?_
      refine ww_gR (pc := 17) g (k := 0) cl_He (pz rfl (by decide)) (by decide) (Or.inl kw_725) (f := 14208) (t := 112) rfl rfl rfl d_He_reach_17 ?_
      refine ww_iload (pc := 20) g.1 d_He_reach_20 (lv_at hl 0 rfl) ?_
      refine ww_a8 (pc := 22) g (t := 145) (n := 4000) (pz rfl (by decide)) rfl rfl rfl rfl d_He_reach_22 h fun pa22 h => ?_
      refine ww_gI (pc := 23) g (k := 2) cl_Tg pa22 (by decide) (Or.inl kw_726) (f := 18562) rfl rfl d_He_reach_23 h fun v23 h => ?_
      refine ww_if_ne (pc := 26) (tgt := 66) g.1 d_He_reach_26 (by decide) h (fun c h => ?_) (fun c h => ?_)
      · exact ww_vretH (pc := 66) g h hR d_He_reach_66
      · refine ww_aload_n (pc := 29) g.1 d_He_reach_29 rfl (lv_at hl 1 rfl) ?_
        refine ww_gR (pc := 30) g (k := 0) cl_He (pz rfl (by decide)) (by decide) (Or.inl kw_725) (f := 14208) (t := 112) rfl rfl rfl d_He_reach_30 ?_
        refine ww_iload (pc := 33) g.1 d_He_reach_33 (lv_at hl 0 rfl) ?_
        refine ww_a8 (pc := 35) g (t := 145) (n := 4000) (pz rfl (by decide)) rfl rfl rfl rfl d_He_reach_35 h fun pa35 h => ?_
        refine ww_iconst (pc := 36) g.1 (v := 1) d_He_reach_36 (by decide) ?_
        refine ww_pI (pc := 37) g (k := 2) cl_Tg pa35 (by decide) (Or.inl kw_726) rfl (f := 18562) rfl rfl rfl rfl d_He_reach_37 h fun s hs h => ?_
        refine ww_iload_n (pc := 40) g.1 d_He_reach_40 rfl (lv_at hl 2 rfl) ?_
        refine ww_iconst (pc := 41) g.1 (v := 4) d_He_reach_41 (by decide) ?_
        refine ww_icmp_eq (pc := 42) (tgt := 66) g.1 d_He_reach_42 (by decide) h (fun c h => ?_) (fun c h => ?_)
        · exact ww_vretH (pc := 66) g h hR d_He_reach_66
        · refine ww_aload_n (pc := 45) g.1 d_He_reach_45 rfl (lv_at hl 1 rfl) ?_
          refine ww_gR (pc := 46) g (k := 10) cl_He (pz rfl (by decide)) (by decide) (Or.inl kw_727) (f := 14218) (t := 119) rfl rfl rfl d_He_reach_46 ?_
          refine ww_aload_n (pc := 49) g.1 d_He_reach_49 rfl (lv_at hl 1 rfl) ?_
          refine ww_gI (pc := 50) g (k := 11) cl_He (pz rfl (by decide)) (by decide) (Or.inl kw_728) (f := 14219) rfl rfl d_He_reach_50 h fun v50 h => ?_
          refine ww_iload (pc := 53) g.1 d_He_reach_53 (lv_at hl 0 rfl) ?_
          refine ww_si (pc := 55) g (pz rfl (by decide)) rfl rfl d_He_reach_55 h fun s hs h => ?_
          refine ww_aload_n (pc := 56) g.1 d_He_reach_56 rfl (lv_at hl 1 rfl) ?_
          refine ww_dup (pc := 57) g.1 d_He_reach_57 rfl ?_
          refine ww_gI (pc := 58) g (k := 11) cl_He (pz rfl (by decide)) (by decide) (Or.inl kw_728) (f := 14219) rfl rfl d_He_reach_58 h fun v58 h => ?_
          refine ww_iconst (pc := 61) g.1 (v := 1) d_He_reach_61 (by decide) ?_
          refine ww_iadd (pc := 62) g.1 d_He_reach_62 ?_
          refine ww_pI (pc := 63) g (k := 11) cl_He (pz rfl (by decide)) (by decide) (Or.inl kw_728) rfl (f := 14219) rfl rfl rfl rfl d_He_reach_63 h fun s hs h => ?_
          exact ww_vretH (pc := 66) g h hR d_He_reach_66
    · exact ww_vretH (pc := 11) g h hR d_He_reach_11

abbrev b_He_reachRow : ByteArray := prog_6_method_23_code
def y_He_reachRow : MethodName := ⟨R_He, "reachRow", "([B[JII)V"⟩
abbrev w_He_reachRow : List Cond := .code y_He_reachRow b_He_reachRow 6 none :: wA
theorem k_He_reachRow : Cond.code y_He_reachRow b_He_reachRow 6 none ∈ wA := kinm (show _ ∈ tables_1 from (List.mem_append_right _ (List.mem_append_right _ (List.mem_append_right _ (List.mem_append_right _ (List.mem_append_left _ (List.mem_of_getElem? (l := tables_1_5) (i := 138) (by decide +kernel)))))))) (by decide +kernel)
theorem d_He_reachRow_0 : decode b_He_reachRow 0 = .ok (.iload_n 3, 1) := by decide +kernel
theorem d_He_reachRow_1 : decode b_He_reachRow 1 = .ok (.istore 5, 2) := by decide +kernel
theorem d_He_reachRow_3 : decode b_He_reachRow 3 = .ok (.iload 5, 2) := by decide +kernel
theorem d_He_reachRow_5 : decode b_He_reachRow 5 = .ok (.iload 4, 2) := by decide +kernel
theorem d_He_reachRow_7 : decode b_He_reachRow 7 = .ok (.if_icmp .ge 21, 3) := by decide +kernel
theorem d_He_reachRow_10 : decode b_He_reachRow 10 = .ok (.aload_n 0, 1) := by decide +kernel
theorem d_He_reachRow_11 : decode b_He_reachRow 11 = .ok (.aload_n 1, 1) := by decide +kernel
theorem d_He_reachRow_12 : decode b_He_reachRow 12 = .ok (.iload 5, 2) := by decide +kernel
theorem d_He_reachRow_14 : decode b_He_reachRow 14 = .ok (.baload, 1) := by decide +kernel
theorem d_He_reachRow_15 : decode b_He_reachRow 15 = .ok (.aload_n 2, 1) := by decide +kernel
theorem d_He_reachRow_16 : decode b_He_reachRow 16 = .ok (.iload 5, 2) := by decide +kernel
theorem d_He_reachRow_18 : decode b_He_reachRow 18 = .ok (.laload, 1) := by decide +kernel
theorem d_He_reachRow_19 : decode b_He_reachRow 19 = .ok (.invokevirtual 206, 3) := by decide +kernel
theorem d_He_reachRow_22 : decode b_He_reachRow 22 = .ok (.iinc 5 1, 3) := by decide +kernel
theorem d_He_reachRow_25 : decode b_He_reachRow 25 = .ok (.goto (-22), 3) := by decide +kernel
theorem d_He_reachRow_28 : decode b_He_reachRow 28 = .ok (.return_, 1) := by decide +kernel
theorem kw_731 : Cond.methodLink R_He 206 y_He_reach ∈ wA := kinm (show _ ∈ tables_1 from (List.mem_append_right _ (List.mem_append_right _ (List.mem_append_right _ (List.mem_append_right _ (List.mem_append_left _ (List.mem_of_getElem? (l := tables_1_5) (i := 131) (by decide +kernel)))))))) (by decide +kernel)
theorem kw_732 : Cond.instanceMethod y_He_reachRow ∈ wA := kinm (show _ ∈ tables_1 from (List.mem_append_right _ (List.mem_append_right _ (List.mem_append_right _ (List.mem_append_right _ (List.mem_append_left _ (List.mem_of_getElem? (l := tables_1_5) (i := 137) (by decide +kernel)))))))) (by decide +kernel)
theorem kw_733 : Cond.selects R_He y_He_reachRow y_He_reachRow ∈ wA := kinp 19 (by decide +kernel) (by decide +kernel)
theorem cv_He_reachRow : CV y_He_reachRow b_He_reachRow 6 none 4 := ⟨kw_732, kw_733, kw_712, k_He_reachRow, by decide +kernel⟩
theorem lp_He_reachRow_L3 {X : Cx} {q : PL} (g : Gd X y_He_reachRow b_He_reachRow 6 none 1 24 R_He) (x : Nat × Int32 × Nat × Int32 × Int32 × Int32) (s : S1) (o : ((Nat × Int32 × Nat × Int32 × Int32 × Int32) ⊕ ((Unit))) × S1) (h : M_He_reachRow_L3 x s = some o) (hR : (Sum.elim (fun y : Nat × Int32 × Nat × Int32 × Int32 × Int32 => ∀ ls : Array Slot, (rkF y.1 = 2) → (y.1 ≠ 154) → (prs o.2 y.1 y.2.1) → (rkF y.2.2.1 = 4) → (y.2.2.1 ≠ 154) → (prs o.2 y.2.2.1 y.2.2.2.1) → lv_has ls 6 [(0, .ref (q.1 111 0)), (1, .ref (q.1 y.1 y.2.1)), (2, .ref (q.1 y.2.2.1 y.2.2.2.1)), (4, .int y.2.2.2.2.1), (5, .int y.2.2.2.2.2)] → WW X q o.2 3 ls []) (fun y : Unit => ∀ ls : Array Slot, lv_has ls 6 [] → WW X q o.2 28 ls []) o.1)) : ∀ ls : Array Slot, (rkF x.1 = 2) → (x.1 ≠ 154) → (prs s x.1 x.2.1) → (rkF x.2.2.1 = 4) → (x.2.2.1 ≠ 154) → (prs s x.2.2.1 x.2.2.2.1) → lv_has ls 6 [(0, .ref (q.1 111 0)), (1, .ref (q.1 x.1 x.2.1)), (2, .ref (q.1 x.2.2.1 x.2.2.2.1)), (4, .int x.2.2.2.2.1), (5, .int x.2.2.2.2.2)] → WW X q s 3 ls [] := by
  intro ls hp0 hp1 hp2 hp3 hp4 hp5 hl
  unfold M_He_reachRow_L3 at h
  refine ww_iload (pc := 3) g.1 d_He_reachRow_3 (lv_at hl 4 rfl) ?_
  refine ww_iload (pc := 5) g.1 d_He_reachRow_5 (lv_at hl 3 rfl) ?_
  refine ww_icmp_ge (pc := 7) (tgt := 28) g.1 d_He_reachRow_7 (by decide) h (fun c h => ?_) (fun c h => ?_)
  · rw [oR_eq h] at hR
    exact hR ls (lv_sub hl [] rfl)
  · refine ww_aload_n (pc := 10) g.1 d_He_reachRow_10 rfl (lv_at hl 0 rfl) ?_
    refine ww_aload_n (pc := 11) g.1 d_He_reachRow_11 rfl (lv_at hl 1 rfl) ?_
    refine ww_iload (pc := 12) g.1 d_He_reachRow_12 (lv_at hl 4 rfl) ?_
    refine ww_ln hp2 h fun n14 hmn14 hnn14 h => ?_
    refine ww_ab (pc := 14) g hp2 hp0 hnn14 d_He_reachRow_14 h fun v14 h => ?_
    refine ww_aload_n (pc := 15) g.1 d_He_reachRow_15 rfl (lv_at hl 2 rfl) ?_
    refine ww_iload (pc := 16) g.1 d_He_reachRow_16 (lv_at hl 4 rfl) ?_
    refine ww_ln hp5 h fun n18 hmn18 hnn18 h => ?_
    refine ww_al (pc := 18) g hp5 hp3 hnn18 d_He_reachRow_18 h fun v18 h => ?_
    refine ww_lo fun dlo => ?_
    obtain ⟨v19, s, hc19, h⟩ := oB_of h
    refine ww_callV (pc := 19) (rest := []) g cv_He_reach (Or.inl kw_731) cl_He (pz rfl (by decide)) (ct_He_reach hc19) ⟨by decide, by decide⟩ rfl hl.1 (Nat.le_of_ble_eq_true rfl) d_He_reachRow_19 rfl (?_)
    refine ww_st (st' := []) rfl ?_
    refine ww_hi fun dhi => ?_
    have hp2 : prs s x.1 x.2.1 := dhi _ _ hp2.2.1 hp2.2.2 (dlo _ _ hp2)
    have hp5 : prs s x.2.2.1 x.2.2.2.1 := dhi _ _ hp5.2.1 hp5.2.2 (dlo _ _ hp5)
    refine ww_iinc (pc := 22) g.1 (v := x.2.2.2.2.2 + 1) (lv' := [(5, .int (x.2.2.2.2.2 + 1)), (0, .ref (q.1 111 0)), (1, .ref (q.1 x.1 x.2.1)), (2, .ref (q.1 x.2.2.1 x.2.2.2.1)), (4, .int x.2.2.2.2.1)]) d_He_reachRow_22 hl (k := 4) rfl (by rfl) (by decide) rfl fun ls hl => ?_
    refine ww_goto (pc := 25) (tgt := 3) g.1 d_He_reachRow_25 (by decide) ?_
    rw [oR_eq h] at hR
    exact hR ls hp0 hp1 hp2 hp3 hp4 hp5 (lv_sub hl [1, 2, 3, 4, 0] rfl)

theorem ct_He_reachRow {l : Launch} {P : PP} {q : PL} {s s' : S1} {l1r : Nat} {l1 : Int32} {l2r : Nat} {l2 : Int32} {l3 : Int32} {l4 : Int32} (hp0 : rkF l1r = 2) (hp1 : l1r ≠ 154) (hp2 : prs s l1r l1) (hp3 : rkF l2r = 4) (hp4 : l2r ≠ 154) (hp5 : prs s l2r l2) {r : Unit} (h : M_He_reachRow l1r l1 l2r l2 l3 l4 s = some (r, s')) : Ct l y_He_reachRow b_He_reachRow 6 none 1 24 P q s [.ref (q.1 111 0), .ref (q.1 l1r l1), .ref (q.1 l2r l2), .int l3, .int l4] none q s' := by
  refine ct_of (by decide) (Nat.le_of_ble_eq_true rfl) fun X ls eP el g hR hl => ?_
  subst eP
  have hR : Rt X q ((r, s') : Unit × S1).2 none := hR
  have hl : lv_has ls 6 [(0, .ref (q.1 111 0)), (1, .ref (q.1 l1r l1)), (2, .ref (q.1 l2r l2)), (3, .int l3), (4, .int l4)] := hl
  generalize (r, s') = o at h hR
  unfold M_He_reachRow at h
  refine ww_iload_n (pc := 0) g.1 d_He_reachRow_0 rfl (lv_at hl 3 rfl) ?_
  refine ww_istore (pc := 1) (i := 5) g.1 (lv' := [(5, .int l3), (0, .ref (q.1 111 0)), (1, .ref (q.1 l1r l1)), (2, .ref (q.1 l2r l2)), (3, .int l3), (4, .int l4)]) d_He_reachRow_1 hl (by decide) rfl fun ls hl => ?_
  obtain ⟨e3, s1, hw, h⟩ := oB_of h
  refine oW_rule (Wh := fun (x : Nat × Int32 × Nat × Int32 × Int32 × Int32) (s : S1) => ∀ ls : Array Slot, (rkF x.1 = 2) → (x.1 ≠ 154) → (prs s x.1 x.2.1) → (rkF x.2.2.1 = 4) → (x.2.2.1 ≠ 154) → (prs s x.2.2.1 x.2.2.2.1) → lv_has ls 6 [(0, .ref (q.1 111 0)), (1, .ref (q.1 x.1 x.2.1)), (2, .ref (q.1 x.2.2.1 x.2.2.2.1)), (4, .int x.2.2.2.2.1), (5, .int x.2.2.2.2.2)] → WW X q s 3 ls []) (We := fun (e : (Unit)) (s : S1) => ∀ ls : Array Slot, lv_has ls 6 [] → WW X q s 28 ls []) (fun x s o hb hc => lp_He_reachRow_L3 (q := q) g x s o hb hc) hw ?_ ls hp0 hp1 hp2 hp3 hp4 hp5 (lv_sub hl [1, 2, 3, 5, 0] rfl)
  clear hw hl
  clear ls
  intro ls hl
  generalize s1 = s at h ⊢
  exact ww_vretH (pc := 28) g h hR d_He_reachRow_28

abbrev b_He_reachFromCoroutine : ByteArray := prog_6_method_25_code
def y_He_reachFromCoroutine : MethodName := ⟨R_He, "reachFromCoroutine", "(LLuaMachine$Coroutine;)V"⟩
abbrev w_He_reachFromCoroutine : List Cond := .code y_He_reachFromCoroutine b_He_reachFromCoroutine 4 none :: wA
theorem k_He_reachFromCoroutine : Cond.code y_He_reachFromCoroutine b_He_reachFromCoroutine 4 none ∈ wA := kinm (show _ ∈ tables_1 from (List.mem_append_right _ (List.mem_append_right _ (List.mem_append_right _ (List.mem_append_right _ (List.mem_append_left _ (List.mem_of_getElem? (l := tables_1_5) (i := 142) (by decide +kernel)))))))) (by decide +kernel)
theorem d_He_reachFromCoroutine_0 : decode b_He_reachFromCoroutine 0 = .ok (.aload_n 0, 1) := by decide +kernel
theorem d_He_reachFromCoroutine_1 : decode b_He_reachFromCoroutine 1 = .ok (.bipush 6, 2) := by decide +kernel
theorem d_He_reachFromCoroutine_3 : decode b_He_reachFromCoroutine 3 = .ok (.aload_n 1, 1) := by decide +kernel
theorem d_He_reachFromCoroutine_4 : decode b_He_reachFromCoroutine 4 = .ok (.getfield 287, 3) := by decide +kernel
theorem d_He_reachFromCoroutine_7 : decode b_He_reachFromCoroutine 7 = .ok (.invokevirtual 206, 3) := by decide +kernel
theorem d_He_reachFromCoroutine_10 : decode b_He_reachFromCoroutine 10 = .ok (.iconst 0, 1) := by decide +kernel
theorem d_He_reachFromCoroutine_11 : decode b_He_reachFromCoroutine 11 = .ok (.istore_n 2, 1) := by decide +kernel
theorem d_He_reachFromCoroutine_12 : decode b_He_reachFromCoroutine 12 = .ok (.iload_n 2, 1) := by decide +kernel
theorem d_He_reachFromCoroutine_13 : decode b_He_reachFromCoroutine 13 = .ok (.aload_n 1, 1) := by decide +kernel
theorem d_He_reachFromCoroutine_14 : decode b_He_reachFromCoroutine 14 = .ok (.getfield 290, 3) := by decide +kernel
theorem d_He_reachFromCoroutine_17 : decode b_He_reachFromCoroutine 17 = .ok (.if_icmp .ge 25, 3) := by decide +kernel
theorem d_He_reachFromCoroutine_20 : decode b_He_reachFromCoroutine 20 = .ok (.aload_n 0, 1) := by decide +kernel
theorem d_He_reachFromCoroutine_21 : decode b_He_reachFromCoroutine 21 = .ok (.aload_n 1, 1) := by decide +kernel
theorem d_He_reachFromCoroutine_22 : decode b_He_reachFromCoroutine 22 = .ok (.getfield 178, 3) := by decide +kernel
theorem d_He_reachFromCoroutine_25 : decode b_He_reachFromCoroutine 25 = .ok (.iload_n 2, 1) := by decide +kernel
theorem d_He_reachFromCoroutine_26 : decode b_He_reachFromCoroutine 26 = .ok (.baload, 1) := by decide +kernel
theorem d_He_reachFromCoroutine_27 : decode b_He_reachFromCoroutine 27 = .ok (.aload_n 1, 1) := by decide +kernel
theorem d_He_reachFromCoroutine_28 : decode b_He_reachFromCoroutine 28 = .ok (.getfield 181, 3) := by decide +kernel
theorem d_He_reachFromCoroutine_31 : decode b_He_reachFromCoroutine 31 = .ok (.iload_n 2, 1) := by decide +kernel
theorem d_He_reachFromCoroutine_32 : decode b_He_reachFromCoroutine 32 = .ok (.laload, 1) := by decide +kernel
theorem d_He_reachFromCoroutine_33 : decode b_He_reachFromCoroutine 33 = .ok (.invokevirtual 206, 3) := by decide +kernel
theorem d_He_reachFromCoroutine_36 : decode b_He_reachFromCoroutine 36 = .ok (.iinc 2 1, 3) := by decide +kernel
theorem d_He_reachFromCoroutine_39 : decode b_He_reachFromCoroutine 39 = .ok (.goto (-27), 3) := by decide +kernel
theorem d_He_reachFromCoroutine_42 : decode b_He_reachFromCoroutine 42 = .ok (.iconst 0, 1) := by decide +kernel
theorem d_He_reachFromCoroutine_43 : decode b_He_reachFromCoroutine 43 = .ok (.istore_n 2, 1) := by decide +kernel
theorem d_He_reachFromCoroutine_44 : decode b_He_reachFromCoroutine 44 = .ok (.iload_n 2, 1) := by decide +kernel
theorem d_He_reachFromCoroutine_45 : decode b_He_reachFromCoroutine 45 = .ok (.aload_n 1, 1) := by decide +kernel
theorem d_He_reachFromCoroutine_46 : decode b_He_reachFromCoroutine 46 = .ok (.getfield 293, 3) := by decide +kernel
theorem d_He_reachFromCoroutine_49 : decode b_He_reachFromCoroutine 49 = .ok (.if_icmp .ge 47, 3) := by decide +kernel
theorem d_He_reachFromCoroutine_52 : decode b_He_reachFromCoroutine 52 = .ok (.aload_n 0, 1) := by decide +kernel
theorem d_He_reachFromCoroutine_53 : decode b_He_reachFromCoroutine 53 = .ok (.bipush 6, 2) := by decide +kernel
theorem d_He_reachFromCoroutine_55 : decode b_He_reachFromCoroutine 55 = .ok (.aload_n 1, 1) := by decide +kernel
theorem d_He_reachFromCoroutine_56 : decode b_He_reachFromCoroutine 56 = .ok (.getfield 296, 3) := by decide +kernel
theorem d_He_reachFromCoroutine_59 : decode b_He_reachFromCoroutine 59 = .ok (.iload_n 2, 1) := by decide +kernel
theorem d_He_reachFromCoroutine_60 : decode b_He_reachFromCoroutine 60 = .ok (.aaload, 1) := by decide +kernel
theorem d_He_reachFromCoroutine_61 : decode b_He_reachFromCoroutine 61 = .ok (.getfield 300, 3) := by decide +kernel
theorem d_He_reachFromCoroutine_64 : decode b_He_reachFromCoroutine 64 = .ok (.i2l, 1) := by decide +kernel
theorem d_He_reachFromCoroutine_65 : decode b_He_reachFromCoroutine 65 = .ok (.invokevirtual 206, 3) := by decide +kernel
theorem d_He_reachFromCoroutine_68 : decode b_He_reachFromCoroutine 68 = .ok (.aload_n 0, 1) := by decide +kernel
theorem d_He_reachFromCoroutine_69 : decode b_He_reachFromCoroutine 69 = .ok (.aload_n 1, 1) := by decide +kernel
theorem d_He_reachFromCoroutine_70 : decode b_He_reachFromCoroutine 70 = .ok (.getfield 296, 3) := by decide +kernel
theorem d_He_reachFromCoroutine_73 : decode b_He_reachFromCoroutine 73 = .ok (.iload_n 2, 1) := by decide +kernel
theorem d_He_reachFromCoroutine_74 : decode b_He_reachFromCoroutine 74 = .ok (.aaload, 1) := by decide +kernel
theorem d_He_reachFromCoroutine_75 : decode b_He_reachFromCoroutine 75 = .ok (.getfield 304, 3) := by decide +kernel
theorem d_He_reachFromCoroutine_78 : decode b_He_reachFromCoroutine 78 = .ok (.aload_n 1, 1) := by decide +kernel
theorem d_He_reachFromCoroutine_79 : decode b_He_reachFromCoroutine 79 = .ok (.getfield 296, 3) := by decide +kernel
theorem d_He_reachFromCoroutine_82 : decode b_He_reachFromCoroutine 82 = .ok (.iload_n 2, 1) := by decide +kernel
theorem d_He_reachFromCoroutine_83 : decode b_He_reachFromCoroutine 83 = .ok (.aaload, 1) := by decide +kernel
theorem d_He_reachFromCoroutine_84 : decode b_He_reachFromCoroutine 84 = .ok (.getfield 307, 3) := by decide +kernel
theorem d_He_reachFromCoroutine_87 : decode b_He_reachFromCoroutine 87 = .ok (.invokevirtual 206, 3) := by decide +kernel
theorem d_He_reachFromCoroutine_90 : decode b_He_reachFromCoroutine 90 = .ok (.iinc 2 1, 3) := by decide +kernel
theorem d_He_reachFromCoroutine_93 : decode b_He_reachFromCoroutine 93 = .ok (.goto (-49), 3) := by decide +kernel
theorem d_He_reachFromCoroutine_96 : decode b_He_reachFromCoroutine 96 = .ok (.aload_n 1, 1) := by decide +kernel
theorem d_He_reachFromCoroutine_97 : decode b_He_reachFromCoroutine 97 = .ok (.getfield 185, 3) := by decide +kernel
theorem d_He_reachFromCoroutine_100 : decode b_He_reachFromCoroutine 100 = .ok (.istore_n 2, 1) := by decide +kernel
theorem d_He_reachFromCoroutine_101 : decode b_He_reachFromCoroutine 101 = .ok (.iconst 0, 1) := by decide +kernel
theorem d_He_reachFromCoroutine_102 : decode b_He_reachFromCoroutine 102 = .ok (.istore_n 3, 1) := by decide +kernel
theorem d_He_reachFromCoroutine_103 : decode b_He_reachFromCoroutine 103 = .ok (.iload_n 2, 1) := by decide +kernel
theorem d_He_reachFromCoroutine_104 : decode b_He_reachFromCoroutine 104 = .ok (.ifCond .lt 34, 3) := by decide +kernel
theorem d_He_reachFromCoroutine_107 : decode b_He_reachFromCoroutine 107 = .ok (.iload_n 3, 1) := by decide +kernel
theorem d_He_reachFromCoroutine_108 : decode b_He_reachFromCoroutine 108 = .ok (.sipush 4000, 3) := by decide +kernel
theorem d_He_reachFromCoroutine_111 : decode b_He_reachFromCoroutine 111 = .ok (.if_icmp .ge 27, 3) := by decide +kernel
theorem d_He_reachFromCoroutine_114 : decode b_He_reachFromCoroutine 114 = .ok (.aload_n 0, 1) := by decide +kernel
theorem d_He_reachFromCoroutine_115 : decode b_He_reachFromCoroutine 115 = .ok (.bipush 8, 2) := by decide +kernel
theorem d_He_reachFromCoroutine_117 : decode b_He_reachFromCoroutine 117 = .ok (.iload_n 2, 1) := by decide +kernel
theorem d_He_reachFromCoroutine_118 : decode b_He_reachFromCoroutine 118 = .ok (.i2l, 1) := by decide +kernel
theorem d_He_reachFromCoroutine_119 : decode b_He_reachFromCoroutine 119 = .ok (.invokevirtual 206, 3) := by decide +kernel
theorem d_He_reachFromCoroutine_122 : decode b_He_reachFromCoroutine 122 = .ok (.aload_n 0, 1) := by decide +kernel
theorem d_He_reachFromCoroutine_123 : decode b_He_reachFromCoroutine 123 = .ok (.getfield 11, 3) := by decide +kernel
theorem d_He_reachFromCoroutine_126 : decode b_He_reachFromCoroutine 126 = .ok (.iload_n 2, 1) := by decide +kernel
theorem d_He_reachFromCoroutine_127 : decode b_He_reachFromCoroutine 127 = .ok (.aaload, 1) := by decide +kernel
theorem d_He_reachFromCoroutine_128 : decode b_He_reachFromCoroutine 128 = .ok (.getfield 129, 3) := by decide +kernel
theorem d_He_reachFromCoroutine_131 : decode b_He_reachFromCoroutine 131 = .ok (.istore_n 2, 1) := by decide +kernel
theorem d_He_reachFromCoroutine_132 : decode b_He_reachFromCoroutine 132 = .ok (.iinc 3 1, 3) := by decide +kernel
theorem d_He_reachFromCoroutine_135 : decode b_He_reachFromCoroutine 135 = .ok (.goto (-32), 3) := by decide +kernel
theorem d_He_reachFromCoroutine_138 : decode b_He_reachFromCoroutine 138 = .ok (.return_, 1) := by decide +kernel
theorem kw_734 : Cond.fieldLink R_He 287 "LuaMachine$Coroutine" "function" "J" ∈ wA := kinm (show _ ∈ tables_1 from (List.mem_append_right _ (List.mem_append_right _ (List.mem_append_right _ (List.mem_append_right _ (List.mem_append_right _ (List.mem_append_left _ (List.mem_of_getElem? (l := tables_1_6) (i := 167) (by decide +kernel))))))))) (by decide +kernel)
theorem kw_735 : Cond.fieldLink R_He 290 "LuaMachine$Coroutine" "used" "I" ∈ wA := kinm (show _ ∈ tables_1 from (List.mem_append_right _ (List.mem_append_right _ (List.mem_append_right _ (List.mem_append_right _ (List.mem_append_right _ (List.mem_append_left _ (List.mem_of_getElem? (l := tables_1_6) (i := 155) (by decide +kernel))))))))) (by decide +kernel)
theorem kw_736 : Cond.fieldLink R_He 178 "LuaMachine$Coroutine" "kinds" "[B" ∈ wA := kinm (show _ ∈ tables_1 from (List.mem_append_right _ (List.mem_append_right _ (List.mem_append_right _ (List.mem_append_right _ (List.mem_append_right _ (List.mem_append_left _ (List.mem_of_getElem? (l := tables_1_6) (i := 139) (by decide +kernel))))))))) (by decide +kernel)
theorem kw_737 : Cond.fieldLink R_He 181 "LuaMachine$Coroutine" "values" "[J" ∈ wA := kinm (show _ ∈ tables_1 from (List.mem_append_right _ (List.mem_append_right _ (List.mem_append_right _ (List.mem_append_right _ (List.mem_append_right _ (List.mem_append_left _ (List.mem_of_getElem? (l := tables_1_6) (i := 143) (by decide +kernel))))))))) (by decide +kernel)
theorem kw_738 : Cond.fieldLink R_He 293 "LuaMachine$Coroutine" "depth" "I" ∈ wA := kinm (show _ ∈ tables_1 from (List.mem_append_right _ (List.mem_append_right _ (List.mem_append_right _ (List.mem_append_right _ (List.mem_append_right _ (List.mem_append_left _ (List.mem_of_getElem? (l := tables_1_6) (i := 153) (by decide +kernel))))))))) (by decide +kernel)
theorem kw_739 : Cond.fieldLink R_He 296 "LuaMachine$Coroutine" "frames" "[LLuaMachine$Frame;" ∈ wA := kinm (show _ ∈ tables_1 from (List.mem_append_right _ (List.mem_append_right _ (List.mem_append_right _ (List.mem_append_right _ (List.mem_append_right _ (List.mem_append_left _ (List.mem_of_getElem? (l := tables_1_6) (i := 146) (by decide +kernel))))))))) (by decide +kernel)
theorem kw_740 : Cond.fieldLink R_He 300 "LuaMachine$Frame" "function" "I" ∈ wA := kinm (show _ ∈ tables_1 from (List.mem_append_right _ (List.mem_append_right _ (List.mem_append_right _ (List.mem_append_right _ (List.mem_append_right _ (List.mem_append_left _ (List.mem_of_getElem? (l := tables_1_6) (i := 99) (by decide +kernel))))))))) (by decide +kernel)
theorem kw_741 : Cond.fieldLink R_He 304 "LuaMachine$Frame" "joinedKind" "I" ∈ wA := kinm (show _ ∈ tables_1 from (List.mem_append_right _ (List.mem_append_right _ (List.mem_append_right _ (List.mem_append_right _ (List.mem_append_right _ (List.mem_append_left _ (List.mem_of_getElem? (l := tables_1_6) (i := 112) (by decide +kernel))))))))) (by decide +kernel)
theorem kw_742 : Cond.fieldLink R_He 307 "LuaMachine$Frame" "joinedValue" "J" ∈ wA := kinm (show _ ∈ tables_1 from (List.mem_append_right _ (List.mem_append_right _ (List.mem_append_right _ (List.mem_append_right _ (List.mem_append_right _ (List.mem_append_left _ (List.mem_of_getElem? (l := tables_1_6) (i := 115) (by decide +kernel))))))))) (by decide +kernel)
theorem kw_743 : Cond.fieldLink R_He 185 "LuaMachine$Coroutine" "newestOpen" "I" ∈ wA := kinm (show _ ∈ tables_1 from (List.mem_append_right _ (List.mem_append_right _ (List.mem_append_right _ (List.mem_append_right _ (List.mem_append_right _ (List.mem_append_left _ (List.mem_of_getElem? (l := tables_1_6) (i := 169) (by decide +kernel))))))))) (by decide +kernel)
theorem kw_744 : Cond.fieldLink R_He 129 "LuaMachine$Thing" "next" "I" ∈ wA := kinm (show _ ∈ tables_1 from (List.mem_append_right _ (List.mem_append_right _ (List.mem_append_right _ (List.mem_append_right _ (List.mem_append_left _ (List.mem_of_getElem? (l := tables_1_5) (i := 181) (by decide +kernel)))))))) (by decide +kernel)
theorem kw_745 : Cond.instanceMethod y_He_reachFromCoroutine ∈ wA := kinm (show _ ∈ tables_1 from (List.mem_append_right _ (List.mem_append_right _ (List.mem_append_right _ (List.mem_append_right _ (List.mem_append_left _ (List.mem_of_getElem? (l := tables_1_5) (i := 141) (by decide +kernel)))))))) (by decide +kernel)
theorem kw_746 : Cond.selects R_He y_He_reachFromCoroutine y_He_reachFromCoroutine ∈ wA := kinp 20 (by decide +kernel) (by decide +kernel)
theorem cv_He_reachFromCoroutine : CV y_He_reachFromCoroutine b_He_reachFromCoroutine 4 none 1 := ⟨kw_745, kw_746, kw_712, k_He_reachFromCoroutine, by decide +kernel⟩
theorem lp_He_reachFromCoroutine_L12 {X : Cx} {q : PL} (g : Gd X y_He_reachFromCoroutine b_He_reachFromCoroutine 4 none 1 24 R_He) (x : Int32 × Int32) (s : S1) (o : ((Int32 × Int32) ⊕ ((Int32))) × S1) (h : M_He_reachFromCoroutine_L12 x s = some o) (hR : (Sum.elim (fun y : Int32 × Int32 => ∀ ls : Array Slot, (prs o.2 148 y.1) → lv_has ls 4 [(0, .ref (q.1 111 0)), (1, .ref (q.1 148 y.1)), (2, .int y.2)] → WW X q o.2 12 ls []) (fun y : Int32 => ∀ ls : Array Slot, (prs o.2 148 y) → lv_has ls 4 [(0, .ref (q.1 111 0)), (1, .ref (q.1 148 y))] → WW X q o.2 42 ls []) o.1)) : ∀ ls : Array Slot, (prs s 148 x.1) → lv_has ls 4 [(0, .ref (q.1 111 0)), (1, .ref (q.1 148 x.1)), (2, .int x.2)] → WW X q s 12 ls [] := by
  intro ls hp0 hl
  unfold M_He_reachFromCoroutine_L12 at h
  refine ww_iload_n (pc := 12) g.1 d_He_reachFromCoroutine_12 rfl (lv_at hl 2 rfl) ?_
  refine ww_aload_n (pc := 13) g.1 d_He_reachFromCoroutine_13 rfl (lv_at hl 1 rfl) ?_
  refine ww_gI (pc := 14) g (k := 5) cl_Co hp0 (by decide) (Or.inl kw_735) (f := 18949) rfl rfl d_He_reachFromCoroutine_14 h fun v14 h => ?_
  refine ww_icmp_ge (pc := 17) (tgt := 42) g.1 d_He_reachFromCoroutine_17 (by decide) h (fun c h => ?_) (fun c h => ?_)
  · rw [oR_eq h] at hR
    exact hR ls hp0 (lv_sub hl [0, 1] rfl)
  · refine ww_aload_n (pc := 20) g.1 d_He_reachFromCoroutine_20 rfl (lv_at hl 0 rfl) ?_
    refine ww_aload_n (pc := 21) g.1 d_He_reachFromCoroutine_21 rfl (lv_at hl 1 rfl) ?_
    refine ww_gR (pc := 22) g (k := 0) cl_Co hp0 (by decide) (Or.inl kw_736) (f := 18944) (t := 149) rfl rfl rfl d_He_reachFromCoroutine_22 ?_
    refine ww_kd fun kd22 => ?_
    have pk22 : prs s 149 x.1 := (kd22 _ hp0).1
    refine ww_iload_n (pc := 25) g.1 d_He_reachFromCoroutine_25 rfl (lv_at hl 2 rfl) ?_
    refine ww_ab (pc := 26) g pk22 rfl rfl d_He_reachFromCoroutine_26 h fun v26 h => ?_
    refine ww_aload_n (pc := 27) g.1 d_He_reachFromCoroutine_27 rfl (lv_at hl 1 rfl) ?_
    refine ww_gR (pc := 28) g (k := 1) cl_Co hp0 (by decide) (Or.inl kw_737) (f := 18945) (t := 150) rfl rfl rfl d_He_reachFromCoroutine_28 ?_
    refine ww_kd fun kd28 => ?_
    have pk28 : prs s 150 x.1 := (kd28 _ hp0).2.1
    refine ww_iload_n (pc := 31) g.1 d_He_reachFromCoroutine_31 rfl (lv_at hl 2 rfl) ?_
    refine ww_al (pc := 32) g pk28 rfl rfl d_He_reachFromCoroutine_32 h fun v32 h => ?_
    refine ww_lo fun dlo => ?_
    obtain ⟨v33, s, hc33, h⟩ := oB_of h
    refine ww_callV (pc := 33) (rest := []) g cv_He_reach (Or.inl kw_731) cl_He (pz rfl (by decide)) (ct_He_reach hc33) ⟨by decide, by decide⟩ rfl hl.1 (Nat.le_of_ble_eq_true rfl) d_He_reachFromCoroutine_33 rfl (?_)
    refine ww_st (st' := []) rfl ?_
    refine ww_hi fun dhi => ?_
    have hp0 : prs s 148 x.1 := dhi _ _ hp0.2.1 hp0.2.2 (dlo _ _ hp0)
    refine ww_iinc (pc := 36) g.1 (v := x.2 + 1) (lv' := [(2, .int (x.2 + 1)), (0, .ref (q.1 111 0)), (1, .ref (q.1 148 x.1))]) d_He_reachFromCoroutine_36 hl (k := 2) rfl (by rfl) (by decide) rfl fun ls hl => ?_
    refine ww_goto (pc := 39) (tgt := 12) g.1 d_He_reachFromCoroutine_39 (by decide) ?_
    rw [oR_eq h] at hR
    exact hR ls hp0 (lv_sub hl [1, 2, 0] rfl)

theorem lp_He_reachFromCoroutine_L44 {X : Cx} {q : PL} (g : Gd X y_He_reachFromCoroutine b_He_reachFromCoroutine 4 none 1 24 R_He) (x : Int32 × Int32) (s : S1) (o : ((Int32 × Int32) ⊕ ((Int32))) × S1) (h : M_He_reachFromCoroutine_L44 x s = some o) (hR : (Sum.elim (fun y : Int32 × Int32 => ∀ ls : Array Slot, (prs o.2 148 y.1) → lv_has ls 4 [(0, .ref (q.1 111 0)), (1, .ref (q.1 148 y.1)), (2, .int y.2)] → WW X q o.2 44 ls []) (fun y : Int32 => ∀ ls : Array Slot, (prs o.2 148 y) → lv_has ls 4 [(0, .ref (q.1 111 0)), (1, .ref (q.1 148 y))] → WW X q o.2 96 ls []) o.1)) : ∀ ls : Array Slot, (prs s 148 x.1) → lv_has ls 4 [(0, .ref (q.1 111 0)), (1, .ref (q.1 148 x.1)), (2, .int x.2)] → WW X q s 44 ls [] := by
  intro ls hp0 hl
  unfold M_He_reachFromCoroutine_L44 at h
  refine ww_iload_n (pc := 44) g.1 d_He_reachFromCoroutine_44 rfl (lv_at hl 2 rfl) ?_
  refine ww_aload_n (pc := 45) g.1 d_He_reachFromCoroutine_45 rfl (lv_at hl 1 rfl) ?_
  refine ww_gI (pc := 46) g (k := 4) cl_Co hp0 (by decide) (Or.inl kw_738) (f := 18948) rfl rfl d_He_reachFromCoroutine_46 h fun v46 h => ?_
  refine ww_icmp_ge (pc := 49) (tgt := 96) g.1 d_He_reachFromCoroutine_49 (by decide) h (fun c h => ?_) (fun c h => ?_)
  · rw [oR_eq h] at hR
    exact hR ls hp0 (lv_sub hl [0, 1] rfl)
  · refine ww_aload_n (pc := 52) g.1 d_He_reachFromCoroutine_52 rfl (lv_at hl 0 rfl) ?_
    refine ww_bipush (pc := 53) g.1 (v := 6) d_He_reachFromCoroutine_53 (by decide) ?_
    refine ww_aload_n (pc := 55) g.1 d_He_reachFromCoroutine_55 rfl (lv_at hl 1 rfl) ?_
    refine ww_gR (pc := 56) g (k := 2) cl_Co hp0 (by decide) (Or.inl kw_739) (f := 18946) (t := 151) rfl rfl rfl d_He_reachFromCoroutine_56 ?_
    refine ww_kd fun kd56 => ?_
    have pk56 : prs s 151 x.1 := (kd56 _ hp0).2.2.1
    refine ww_iload_n (pc := 59) g.1 d_He_reachFromCoroutine_59 rfl (lv_at hl 2 rfl) ?_
    refine ww_a9 (pc := 60) g (j := x.2) hp0 d_He_reachFromCoroutine_60 h fun pa60 h => ?_
    refine ww_gI (pc := 61) g (k := 1) cl_Fm pa60 (by decide) (Or.inl kw_740) (f := 19457) rfl rfl d_He_reachFromCoroutine_61 h fun v61 h => ?_
    refine ww_i2l (pc := 64) g.1 (v := v61.toInt64) d_He_reachFromCoroutine_64 rfl ?_
    refine ww_lo fun dlo => ?_
    obtain ⟨v65, s, hc65, h⟩ := oB_of h
    refine ww_callV (pc := 65) (rest := []) g cv_He_reach (Or.inl kw_731) cl_He (pz rfl (by decide)) (ct_He_reach hc65) ⟨by decide, by decide⟩ rfl hl.1 (Nat.le_of_ble_eq_true rfl) d_He_reachFromCoroutine_65 rfl (?_)
    refine ww_st (st' := []) rfl ?_
    refine ww_hi fun dhi => ?_
    have hp0 : prs s 148 x.1 := dhi _ _ hp0.2.1 hp0.2.2 (dlo _ _ hp0)
    refine ww_aload_n (pc := 68) g.1 d_He_reachFromCoroutine_68 rfl (lv_at hl 0 rfl) ?_
    refine ww_aload_n (pc := 69) g.1 d_He_reachFromCoroutine_69 rfl (lv_at hl 1 rfl) ?_
    refine ww_gR (pc := 70) g (k := 2) cl_Co hp0 (by decide) (Or.inl kw_739) (f := 18946) (t := 151) rfl rfl rfl d_He_reachFromCoroutine_70 ?_
    refine ww_kd fun kd70 => ?_
    have pk70 : prs s 151 x.1 := (kd70 _ hp0).2.2.1
    refine ww_iload_n (pc := 73) g.1 d_He_reachFromCoroutine_73 rfl (lv_at hl 2 rfl) ?_
    refine ww_a9 (pc := 74) g (j := x.2) hp0 d_He_reachFromCoroutine_74 h fun pa74 h => ?_
    refine ww_gI (pc := 75) g (k := 6) cl_Fm pa74 (by decide) (Or.inl kw_741) (f := 19462) rfl rfl d_He_reachFromCoroutine_75 h fun v75 h => ?_
    refine ww_aload_n (pc := 78) g.1 d_He_reachFromCoroutine_78 rfl (lv_at hl 1 rfl) ?_
    refine ww_gR (pc := 79) g (k := 2) cl_Co hp0 (by decide) (Or.inl kw_739) (f := 18946) (t := 151) rfl rfl rfl d_He_reachFromCoroutine_79 ?_
    refine ww_kd fun kd79 => ?_
    have pk79 : prs s 151 x.1 := (kd79 _ hp0).2.2.1
    refine ww_iload_n (pc := 82) g.1 d_He_reachFromCoroutine_82 rfl (lv_at hl 2 rfl) ?_
    refine ww_a9 (pc := 83) g (j := x.2) hp0 d_He_reachFromCoroutine_83 h fun pa83 h => ?_
    refine ww_gL (pc := 84) g (k := 7) cl_Fm pa83 (by decide) (Or.inl kw_742) (f := 19463) rfl rfl d_He_reachFromCoroutine_84 h fun v84 h => ?_
    refine ww_lo fun dlo => ?_
    obtain ⟨v87, s, hc87, h⟩ := oB_of h
    refine ww_callV (pc := 87) (rest := []) g cv_He_reach (Or.inl kw_731) cl_He (pz rfl (by decide)) (ct_He_reach hc87) ⟨by decide, by decide⟩ rfl hl.1 (Nat.le_of_ble_eq_true rfl) d_He_reachFromCoroutine_87 rfl (?_)
    refine ww_st (st' := []) rfl ?_
    refine ww_hi fun dhi => ?_
    have hp0 : prs s 148 x.1 := dhi _ _ hp0.2.1 hp0.2.2 (dlo _ _ hp0)
    refine ww_iinc (pc := 90) g.1 (v := x.2 + 1) (lv' := [(2, .int (x.2 + 1)), (0, .ref (q.1 111 0)), (1, .ref (q.1 148 x.1))]) d_He_reachFromCoroutine_90 hl (k := 2) rfl (by rfl) (by decide) rfl fun ls hl => ?_
    refine ww_goto (pc := 93) (tgt := 44) g.1 d_He_reachFromCoroutine_93 (by decide) ?_
    rw [oR_eq h] at hR
    exact hR ls hp0 (lv_sub hl [1, 2, 0] rfl)

theorem lp_He_reachFromCoroutine_L103 {X : Cx} {q : PL} (g : Gd X y_He_reachFromCoroutine b_He_reachFromCoroutine 4 none 1 24 R_He) (x : Int32 × Int32) (s : S1) (o : ((Int32 × Int32) ⊕ ((Unit))) × S1) (h : M_He_reachFromCoroutine_L103 x s = some o) (hR : (Sum.elim (fun y : Int32 × Int32 => ∀ ls : Array Slot, lv_has ls 4 [(0, .ref (q.1 111 0)), (2, .int y.1), (3, .int y.2)] → WW X q o.2 103 ls []) (fun y : Unit => ∀ ls : Array Slot, lv_has ls 4 [] → WW X q o.2 138 ls []) o.1)) : ∀ ls : Array Slot, lv_has ls 4 [(0, .ref (q.1 111 0)), (2, .int x.1), (3, .int x.2)] → WW X q s 103 ls [] := by
  intro ls hl
  unfold M_He_reachFromCoroutine_L103 at h
  refine ww_iload_n (pc := 103) g.1 d_He_reachFromCoroutine_103 rfl (lv_at hl 1 rfl) ?_
  refine ww_if_lt (pc := 104) (tgt := 138) g.1 d_He_reachFromCoroutine_104 (by decide) h (fun c h => ?_) (fun c h => ?_)
  · rw [oR_eq h] at hR
    exact hR ls (lv_sub hl [] rfl)
  · refine ww_iload_n (pc := 107) g.1 d_He_reachFromCoroutine_107 rfl (lv_at hl 2 rfl) ?_
    refine ww_sipush (pc := 108) g.1 (v := 4000) d_He_reachFromCoroutine_108 (by decide) ?_
    refine ww_icmp_ge (pc := 111) (tgt := 138) g.1 d_He_reachFromCoroutine_111 (by decide) h (fun c h => ?_) (fun c h => ?_)
    · rw [oR_eq h] at hR
      exact hR ls (lv_sub hl [] rfl)
    · refine ww_aload_n (pc := 114) g.1 d_He_reachFromCoroutine_114 rfl (lv_at hl 0 rfl) ?_
      refine ww_bipush (pc := 115) g.1 (v := 8) d_He_reachFromCoroutine_115 (by decide) ?_
      refine ww_iload_n (pc := 117) g.1 d_He_reachFromCoroutine_117 rfl (lv_at hl 1 rfl) ?_
      refine ww_i2l (pc := 118) g.1 (v := x.1.toInt64) d_He_reachFromCoroutine_118 rfl ?_
      obtain ⟨v119, s, hc119, h⟩ := oB_of h
      refine ww_callV (pc := 119) (rest := []) g cv_He_reach (Or.inl kw_731) cl_He (pz rfl (by decide)) (ct_He_reach hc119) ⟨by decide, by decide⟩ rfl hl.1 (Nat.le_of_ble_eq_true rfl) d_He_reachFromCoroutine_119 rfl (?_)
      refine ww_st (st' := []) rfl ?_
      refine ww_aload_n (pc := 122) g.1 d_He_reachFromCoroutine_122 rfl (lv_at hl 0 rfl) ?_
      refine ww_gR (pc := 123) g (k := 0) cl_He (pz rfl (by decide)) (by decide) (Or.inl kw_725) (f := 14208) (t := 112) rfl rfl rfl d_He_reachFromCoroutine_123 ?_
      refine ww_iload_n (pc := 126) g.1 d_He_reachFromCoroutine_126 rfl (lv_at hl 1 rfl) ?_
      refine ww_a8 (pc := 127) g (t := 145) (n := 4000) (pz rfl (by decide)) rfl rfl rfl rfl d_He_reachFromCoroutine_127 h fun pa127 h => ?_
      refine ww_gI (pc := 128) g (k := 5) cl_Tg pa127 (by decide) (Or.inl kw_744) (f := 18565) rfl rfl d_He_reachFromCoroutine_128 h fun v128 h => ?_
      refine ww_istore_n (pc := 131) (i := 2) g.1 (lv' := [(2, .int v128), (0, .ref (q.1 111 0)), (3, .int x.2)]) d_He_reachFromCoroutine_131 rfl hl (by decide) rfl fun ls hl => ?_
      refine ww_iinc (pc := 132) g.1 (v := x.2 + 1) (lv' := [(3, .int (x.2 + 1)), (2, .int v128), (0, .ref (q.1 111 0))]) d_He_reachFromCoroutine_132 hl (k := 2) rfl (by rfl) (by decide) rfl fun ls hl => ?_
      refine ww_goto (pc := 135) (tgt := 103) g.1 d_He_reachFromCoroutine_135 (by decide) ?_
      rw [oR_eq h] at hR
      exact hR ls (lv_sub hl [2, 1, 0] rfl)

theorem ct_He_reachFromCoroutine {l : Launch} {P : PP} {q : PL} {s s' : S1} {l1 : Int32} (hp0 : prs s 148 l1) {r : Unit} (h : M_He_reachFromCoroutine l1 s = some (r, s')) : Ct l y_He_reachFromCoroutine b_He_reachFromCoroutine 4 none 1 24 P q s [.ref (q.1 111 0), .ref (q.1 148 l1)] none q s' := by
  refine ct_of (by decide) (Nat.le_of_ble_eq_true rfl) fun X ls eP el g hR hl => ?_
  subst eP
  have hR : Rt X q ((r, s') : Unit × S1).2 none := hR
  have hl : lv_has ls 4 [(0, .ref (q.1 111 0)), (1, .ref (q.1 148 l1))] := hl
  generalize (r, s') = o at h hR
  unfold M_He_reachFromCoroutine at h
  refine ww_aload_n (pc := 0) g.1 d_He_reachFromCoroutine_0 rfl (lv_at hl 0 rfl) ?_
  refine ww_bipush (pc := 1) g.1 (v := 6) d_He_reachFromCoroutine_1 (by decide) ?_
  refine ww_aload_n (pc := 3) g.1 d_He_reachFromCoroutine_3 rfl (lv_at hl 1 rfl) ?_
  refine ww_gL (pc := 4) g (k := 9) cl_Co hp0 (by decide) (Or.inl kw_734) (f := 18953) rfl rfl d_He_reachFromCoroutine_4 h fun v4 h => ?_
  refine ww_lo fun dlo => ?_
  obtain ⟨v7, s, hc7, h⟩ := oB_of h
  refine ww_callV (pc := 7) (rest := []) g cv_He_reach (Or.inl kw_731) cl_He (pz rfl (by decide)) (ct_He_reach hc7) ⟨by decide, by decide⟩ rfl hl.1 (Nat.le_of_ble_eq_true rfl) d_He_reachFromCoroutine_7 rfl (?_)
  refine ww_st (st' := []) rfl ?_
  refine ww_hi fun dhi => ?_
  have hp0 : prs s 148 l1 := dhi _ _ hp0.2.1 hp0.2.2 (dlo _ _ hp0)
  refine ww_iconst (pc := 10) g.1 (v := 0) d_He_reachFromCoroutine_10 (by decide) ?_
  refine ww_istore_n (pc := 11) (i := 2) g.1 (lv' := [(2, .int 0), (0, .ref (q.1 111 0)), (1, .ref (q.1 148 l1))]) d_He_reachFromCoroutine_11 rfl hl (by decide) rfl fun ls hl => ?_
  obtain ⟨e12, s1, hw, h⟩ := oB_of h
  refine oW_rule (Wh := fun (x : Int32 × Int32) (s : S1) => ∀ ls : Array Slot, (prs s 148 x.1) → lv_has ls 4 [(0, .ref (q.1 111 0)), (1, .ref (q.1 148 x.1)), (2, .int x.2)] → WW X q s 12 ls []) (We := fun (e : (Int32)) (s : S1) => ∀ ls : Array Slot, (prs s 148 e) → lv_has ls 4 [(0, .ref (q.1 111 0)), (1, .ref (q.1 148 e))] → WW X q s 42 ls []) (fun x s o hb hc => lp_He_reachFromCoroutine_L12 (q := q) g x s o hb hc) hw ?_ ls hp0 (lv_sub hl [1, 2, 0] rfl)
  clear hw hl
  clear ls
  generalize s1 = s at h ⊢
  intro ls hq12_0 hl
  refine ww_iconst (pc := 42) g.1 (v := 0) d_He_reachFromCoroutine_42 (by decide) ?_
  refine ww_istore_n (pc := 43) (i := 2) g.1 (lv' := [(2, .int 0), (0, .ref (q.1 111 0)), (1, .ref (q.1 148 e12))]) d_He_reachFromCoroutine_43 rfl hl (by decide) rfl fun ls hl => ?_
  obtain ⟨e44, s1, hw, h⟩ := oB_of h
  refine oW_rule (Wh := fun (x : Int32 × Int32) (s : S1) => ∀ ls : Array Slot, (prs s 148 x.1) → lv_has ls 4 [(0, .ref (q.1 111 0)), (1, .ref (q.1 148 x.1)), (2, .int x.2)] → WW X q s 44 ls []) (We := fun (e : (Int32)) (s : S1) => ∀ ls : Array Slot, (prs s 148 e) → lv_has ls 4 [(0, .ref (q.1 111 0)), (1, .ref (q.1 148 e))] → WW X q s 96 ls []) (fun x s o hb hc => lp_He_reachFromCoroutine_L44 (q := q) g x s o hb hc) hw ?_ ls hq12_0 (lv_sub hl [1, 2, 0] rfl)
  clear hw hl
  clear ls
  generalize s1 = s at h ⊢
  intro ls hq44_0 hl
  refine ww_aload_n (pc := 96) g.1 d_He_reachFromCoroutine_96 rfl (lv_at hl 1 rfl) ?_
  refine ww_gI (pc := 97) g (k := 10) cl_Co hq44_0 (by decide) (Or.inl kw_743) (f := 18954) rfl rfl d_He_reachFromCoroutine_97 h fun v97 h => ?_
  refine ww_istore_n (pc := 100) (i := 2) g.1 (lv' := [(2, .int v97), (0, .ref (q.1 111 0)), (1, .ref (q.1 148 e44))]) d_He_reachFromCoroutine_100 rfl hl (by decide) rfl fun ls hl => ?_
  refine ww_iconst (pc := 101) g.1 (v := 0) d_He_reachFromCoroutine_101 (by decide) ?_
  refine ww_istore_n (pc := 102) (i := 3) g.1 (lv' := [(3, .int 0), (2, .int v97), (0, .ref (q.1 111 0)), (1, .ref (q.1 148 e44))]) d_He_reachFromCoroutine_102 rfl hl (by decide) rfl fun ls hl => ?_
  obtain ⟨e103, s1, hw, h⟩ := oB_of h
  refine oW_rule (Wh := fun (x : Int32 × Int32) (s : S1) => ∀ ls : Array Slot, lv_has ls 4 [(0, .ref (q.1 111 0)), (2, .int x.1), (3, .int x.2)] → WW X q s 103 ls []) (We := fun (e : (Unit)) (s : S1) => ∀ ls : Array Slot, lv_has ls 4 [] → WW X q s 138 ls []) (fun x s o hb hc => lp_He_reachFromCoroutine_L103 (q := q) g x s o hb hc) hw ?_ ls (lv_sub hl [2, 1, 0] rfl)
  clear hw hl
  clear ls
  intro ls hl
  generalize s1 = s at h ⊢
  exact ww_vretH (pc := 138) g h hR d_He_reachFromCoroutine_138

abbrev b_He_reachFrom : ByteArray := prog_6_method_24_code
def y_He_reachFrom : MethodName := ⟨R_He, "reachFrom", "(LLuaMachine$Thing;)V"⟩
abbrev w_He_reachFrom : List Cond := .code y_He_reachFrom b_He_reachFrom 4 none :: wA
set_option maxRecDepth 20000 in
theorem k_He_reachFrom : Cond.code y_He_reachFrom b_He_reachFrom 4 none ∈ wA := kinm (show _ ∈ tables_1 from (List.mem_append_right _ (List.mem_append_right _ (List.mem_append_right _ (List.mem_append_right _ (List.mem_append_left _ (List.mem_of_getElem? (l := tables_1_5) (i := 146) rfl))))))) rfl
theorem d_He_reachFrom_0 : decode b_He_reachFrom 0 = .ok (.aload_n 1, 1) := by decide +kernel
theorem d_He_reachFrom_1 : decode b_He_reachFrom 1 = .ok (.getfield 83, 3) := by decide +kernel
theorem d_He_reachFrom_4 : decode b_He_reachFrom 4 = .ok (.tableswitch 179 5 9 #[36, 117, 179, 179, 165], 36) := by decide +kernel
theorem d_He_reachFrom_40 : decode b_He_reachFrom 40 = .ok (.aload_n 0, 1) := by decide +kernel
theorem d_He_reachFrom_41 : decode b_He_reachFrom 41 = .ok (.iconst 5, 1) := by decide +kernel
theorem d_He_reachFrom_42 : decode b_He_reachFrom 42 = .ok (.aload_n 1, 1) := by decide +kernel
theorem d_He_reachFrom_43 : decode b_He_reachFrom 43 = .ok (.getfield 248, 3) := by decide +kernel
theorem d_He_reachFrom_46 : decode b_He_reachFrom 46 = .ok (.i2l, 1) := by decide +kernel
theorem d_He_reachFrom_47 : decode b_He_reachFrom 47 = .ok (.invokevirtual 206, 3) := by decide +kernel
theorem d_He_reachFrom_50 : decode b_He_reachFrom 50 = .ok (.aload_n 1, 1) := by decide +kernel
theorem d_He_reachFrom_51 : decode b_He_reachFrom 51 = .ok (.getfield 251, 3) := by decide +kernel
theorem d_He_reachFrom_54 : decode b_He_reachFrom 54 = .ok (.istore_n 2, 1) := by decide +kernel
theorem d_He_reachFrom_55 : decode b_He_reachFrom 55 = .ok (.iload_n 2, 1) := by decide +kernel
theorem d_He_reachFrom_56 : decode b_He_reachFrom 56 = .ok (.aload_n 1, 1) := by decide +kernel
theorem d_He_reachFrom_57 : decode b_He_reachFrom 57 = .ok (.getfield 251, 3) := by decide +kernel
theorem d_He_reachFrom_60 : decode b_He_reachFrom 60 = .ok (.aload_n 1, 1) := by decide +kernel
theorem d_He_reachFrom_61 : decode b_He_reachFrom 61 = .ok (.getfield 254, 3) := by decide +kernel
theorem d_He_reachFrom_64 : decode b_He_reachFrom 64 = .ok (.iadd, 1) := by decide +kernel
theorem d_He_reachFrom_65 : decode b_He_reachFrom 65 = .ok (.if_icmp .ge 53, 3) := by decide +kernel
theorem d_He_reachFrom_68 : decode b_He_reachFrom 68 = .ok (.aload_n 0, 1) := by decide +kernel
theorem d_He_reachFrom_69 : decode b_He_reachFrom 69 = .ok (.aload_n 0, 1) := by decide +kernel
theorem d_He_reachFrom_70 : decode b_He_reachFrom 70 = .ok (.getfield 257, 3) := by decide +kernel
theorem d_He_reachFrom_73 : decode b_He_reachFrom 73 = .ok (.getfield 261, 3) := by decide +kernel
theorem d_He_reachFrom_76 : decode b_He_reachFrom 76 = .ok (.iload_n 2, 1) := by decide +kernel
theorem d_He_reachFrom_77 : decode b_He_reachFrom 77 = .ok (.baload, 1) := by decide +kernel
theorem d_He_reachFrom_78 : decode b_He_reachFrom 78 = .ok (.aload_n 0, 1) := by decide +kernel
theorem d_He_reachFrom_79 : decode b_He_reachFrom 79 = .ok (.getfield 257, 3) := by decide +kernel
theorem d_He_reachFrom_82 : decode b_He_reachFrom 82 = .ok (.getfield 266, 3) := by decide +kernel
theorem d_He_reachFrom_85 : decode b_He_reachFrom 85 = .ok (.iload_n 2, 1) := by decide +kernel
theorem d_He_reachFrom_86 : decode b_He_reachFrom 86 = .ok (.laload, 1) := by decide +kernel
theorem d_He_reachFrom_87 : decode b_He_reachFrom 87 = .ok (.invokevirtual 206, 3) := by decide +kernel
theorem d_He_reachFrom_90 : decode b_He_reachFrom 90 = .ok (.aload_n 0, 1) := by decide +kernel
theorem d_He_reachFrom_91 : decode b_He_reachFrom 91 = .ok (.aload_n 0, 1) := by decide +kernel
theorem d_He_reachFrom_92 : decode b_He_reachFrom 92 = .ok (.getfield 257, 3) := by decide +kernel
theorem d_He_reachFrom_95 : decode b_He_reachFrom 95 = .ok (.getfield 269, 3) := by decide +kernel
theorem d_He_reachFrom_98 : decode b_He_reachFrom 98 = .ok (.iload_n 2, 1) := by decide +kernel
theorem d_He_reachFrom_99 : decode b_He_reachFrom 99 = .ok (.baload, 1) := by decide +kernel
theorem d_He_reachFrom_100 : decode b_He_reachFrom 100 = .ok (.aload_n 0, 1) := by decide +kernel
theorem d_He_reachFrom_101 : decode b_He_reachFrom 101 = .ok (.getfield 257, 3) := by decide +kernel
theorem d_He_reachFrom_104 : decode b_He_reachFrom 104 = .ok (.getfield 272, 3) := by decide +kernel
theorem d_He_reachFrom_107 : decode b_He_reachFrom 107 = .ok (.iload_n 2, 1) := by decide +kernel
theorem d_He_reachFrom_108 : decode b_He_reachFrom 108 = .ok (.laload, 1) := by decide +kernel
theorem d_He_reachFrom_109 : decode b_He_reachFrom 109 = .ok (.invokevirtual 206, 3) := by decide +kernel
theorem d_He_reachFrom_112 : decode b_He_reachFrom 112 = .ok (.iinc 2 1, 3) := by decide +kernel
theorem d_He_reachFrom_115 : decode b_He_reachFrom 115 = .ok (.goto (-60), 3) := by decide +kernel
theorem d_He_reachFrom_118 : decode b_He_reachFrom 118 = .ok (.goto 119, 3) := by decide +kernel
theorem d_He_reachFrom_121 : decode b_He_reachFrom 121 = .ok (.aload_n 0, 1) := by decide +kernel
theorem d_He_reachFrom_122 : decode b_He_reachFrom 122 = .ok (.getfield 197, 3) := by decide +kernel
theorem d_He_reachFrom_125 : decode b_He_reachFrom 125 = .ok (.getfield 273, 3) := by decide +kernel
theorem d_He_reachFrom_128 : decode b_He_reachFrom 128 = .ok (.getfield 277, 3) := by decide +kernel
theorem d_He_reachFrom_131 : decode b_He_reachFrom 131 = .ok (.aload_n 1, 1) := by decide +kernel
theorem d_He_reachFrom_132 : decode b_He_reachFrom 132 = .ok (.getfield 97, 3) := by decide +kernel
theorem d_He_reachFrom_135 : decode b_He_reachFrom 135 = .ok (.aaload, 1) := by decide +kernel
theorem d_He_reachFrom_136 : decode b_He_reachFrom 136 = .ok (.getfield 283, 3) := by decide +kernel
theorem d_He_reachFrom_139 : decode b_He_reachFrom 139 = .ok (.istore_n 2, 1) := by decide +kernel
theorem d_He_reachFrom_140 : decode b_He_reachFrom 140 = .ok (.iconst 0, 1) := by decide +kernel
theorem d_He_reachFrom_141 : decode b_He_reachFrom 141 = .ok (.istore_n 3, 1) := by decide +kernel
theorem d_He_reachFrom_142 : decode b_He_reachFrom 142 = .ok (.iload_n 3, 1) := by decide +kernel
theorem d_He_reachFrom_143 : decode b_He_reachFrom 143 = .ok (.iload_n 2, 1) := by decide +kernel
theorem d_He_reachFrom_144 : decode b_He_reachFrom 144 = .ok (.if_icmp .ge 22, 3) := by decide +kernel
theorem d_He_reachFrom_147 : decode b_He_reachFrom 147 = .ok (.aload_n 0, 1) := by decide +kernel
theorem d_He_reachFrom_148 : decode b_He_reachFrom 148 = .ok (.bipush 8, 2) := by decide +kernel
theorem d_He_reachFrom_150 : decode b_He_reachFrom 150 = .ok (.aload_n 1, 1) := by decide +kernel
theorem d_He_reachFrom_151 : decode b_He_reachFrom 151 = .ok (.getfield 107, 3) := by decide +kernel
theorem d_He_reachFrom_154 : decode b_He_reachFrom 154 = .ok (.iload_n 3, 1) := by decide +kernel
theorem d_He_reachFrom_155 : decode b_He_reachFrom 155 = .ok (.iaload, 1) := by decide +kernel
theorem d_He_reachFrom_156 : decode b_He_reachFrom 156 = .ok (.i2l, 1) := by decide +kernel
theorem d_He_reachFrom_157 : decode b_He_reachFrom 157 = .ok (.invokevirtual 206, 3) := by decide +kernel
theorem d_He_reachFrom_160 : decode b_He_reachFrom 160 = .ok (.iinc 3 1, 3) := by decide +kernel
theorem d_He_reachFrom_163 : decode b_He_reachFrom 163 = .ok (.goto (-21), 3) := by decide +kernel
theorem d_He_reachFrom_166 : decode b_He_reachFrom 166 = .ok (.goto 71, 3) := by decide +kernel
theorem d_He_reachFrom_169 : decode b_He_reachFrom 169 = .ok (.aload_n 0, 1) := by decide +kernel
theorem d_He_reachFrom_170 : decode b_He_reachFrom 170 = .ok (.bipush 7, 2) := by decide +kernel
theorem d_He_reachFrom_172 : decode b_He_reachFrom 172 = .ok (.aload_n 1, 1) := by decide +kernel
theorem d_He_reachFrom_173 : decode b_He_reachFrom 173 = .ok (.getfield 97, 3) := by decide +kernel
theorem d_He_reachFrom_176 : decode b_He_reachFrom 176 = .ok (.i2l, 1) := by decide +kernel
theorem d_He_reachFrom_177 : decode b_He_reachFrom 177 = .ok (.invokevirtual 206, 3) := by decide +kernel
theorem d_He_reachFrom_180 : decode b_He_reachFrom 180 = .ok (.goto 57, 3) := by decide +kernel
theorem d_He_reachFrom_183 : decode b_He_reachFrom 183 = .ok (.aload_n 1, 1) := by decide +kernel
theorem d_He_reachFrom_184 : decode b_He_reachFrom 184 = .ok (.getfield 97, 3) := by decide +kernel
theorem d_He_reachFrom_187 : decode b_He_reachFrom 187 = .ok (.ifCond .ge 18, 3) := by decide +kernel
theorem d_He_reachFrom_190 : decode b_He_reachFrom 190 = .ok (.aload_n 0, 1) := by decide +kernel
theorem d_He_reachFrom_191 : decode b_He_reachFrom 191 = .ok (.aload_n 1, 1) := by decide +kernel
theorem d_He_reachFrom_192 : decode b_He_reachFrom 192 = .ok (.getfield 100, 3) := by decide +kernel
theorem d_He_reachFrom_195 : decode b_He_reachFrom 195 = .ok (.aload_n 1, 1) := by decide +kernel
theorem d_He_reachFrom_196 : decode b_He_reachFrom 196 = .ok (.getfield 103, 3) := by decide +kernel
theorem d_He_reachFrom_199 : decode b_He_reachFrom 199 = .ok (.invokevirtual 206, 3) := by decide +kernel
theorem d_He_reachFrom_202 : decode b_He_reachFrom 202 = .ok (.goto 35, 3) := by decide +kernel
theorem d_He_reachFrom_205 : decode b_He_reachFrom 205 = .ok (.aload_n 0, 1) := by decide +kernel
theorem d_He_reachFrom_206 : decode b_He_reachFrom 206 = .ok (.getfield 29, 3) := by decide +kernel
theorem d_He_reachFrom_209 : decode b_He_reachFrom 209 = .ok (.aload_n 1, 1) := by decide +kernel
theorem d_He_reachFrom_210 : decode b_He_reachFrom 210 = .ok (.getfield 97, 3) := by decide +kernel
theorem d_He_reachFrom_213 : decode b_He_reachFrom 213 = .ok (.aaload, 1) := by decide +kernel
theorem d_He_reachFrom_214 : decode b_He_reachFrom 214 = .ok (.astore_n 3, 1) := by decide +kernel
theorem d_He_reachFrom_215 : decode b_He_reachFrom 215 = .ok (.aload_n 0, 1) := by decide +kernel
theorem d_He_reachFrom_216 : decode b_He_reachFrom 216 = .ok (.aload_n 3, 1) := by decide +kernel
theorem d_He_reachFrom_217 : decode b_He_reachFrom 217 = .ok (.getfield 178, 3) := by decide +kernel
theorem d_He_reachFrom_220 : decode b_He_reachFrom 220 = .ok (.aload_n 1, 1) := by decide +kernel
theorem d_He_reachFrom_221 : decode b_He_reachFrom 221 = .ok (.getfield 119, 3) := by decide +kernel
theorem d_He_reachFrom_224 : decode b_He_reachFrom 224 = .ok (.baload, 1) := by decide +kernel
theorem d_He_reachFrom_225 : decode b_He_reachFrom 225 = .ok (.aload_n 3, 1) := by decide +kernel
theorem d_He_reachFrom_226 : decode b_He_reachFrom 226 = .ok (.getfield 181, 3) := by decide +kernel
theorem d_He_reachFrom_229 : decode b_He_reachFrom 229 = .ok (.aload_n 1, 1) := by decide +kernel
theorem d_He_reachFrom_230 : decode b_He_reachFrom 230 = .ok (.getfield 119, 3) := by decide +kernel
theorem d_He_reachFrom_233 : decode b_He_reachFrom 233 = .ok (.laload, 1) := by decide +kernel
theorem d_He_reachFrom_234 : decode b_He_reachFrom 234 = .ok (.invokevirtual 206, 3) := by decide +kernel
theorem d_He_reachFrom_237 : decode b_He_reachFrom 237 = .ok (.return_, 1) := by decide +kernel
theorem kw_747 : Cond.fieldLink R_He 83 "LuaMachine$Thing" "type" "I" ∈ wA := kinm (show _ ∈ tables_1 from (List.mem_append_right _ (List.mem_append_right _ (List.mem_append_right _ (List.mem_append_right _ (List.mem_append_left _ (List.mem_of_getElem? (l := tables_1_5) (i := 172) (by decide +kernel)))))))) (by decide +kernel)
theorem kw_748 : Cond.fieldLink R_He 248 "LuaMachine$Thing" "metatable" "I" ∈ wA := kinm (show _ ∈ tables_1 from (List.mem_append_right _ (List.mem_append_right _ (List.mem_append_right _ (List.mem_append_right _ (List.mem_append_left _ (List.mem_of_getElem? (l := tables_1_5) (i := 201) (by decide +kernel)))))))) (by decide +kernel)
theorem kw_749 : Cond.fieldLink R_He 251 "LuaMachine$Thing" "start" "I" ∈ wA := kinm (show _ ∈ tables_1 from (List.mem_append_right _ (List.mem_append_right _ (List.mem_append_right _ (List.mem_append_right _ (List.mem_append_left _ (List.mem_of_getElem? (l := tables_1_5) (i := 194) (by decide +kernel)))))))) (by decide +kernel)
theorem kw_750 : Cond.fieldLink R_He 254 "LuaMachine$Thing" "entries" "I" ∈ wA := kinm (show _ ∈ tables_1 from (List.mem_append_right _ (List.mem_append_right _ (List.mem_append_right _ (List.mem_append_right _ (List.mem_append_left _ (List.mem_of_getElem? (l := tables_1_5) (i := 197) (by decide +kernel)))))))) (by decide +kernel)
theorem kw_751 : Cond.fieldLink R_He 257 "LuaMachine$Heap" "tables" "LLuaMachine$Tables;" ∈ wA := kinm (show _ ∈ tables_1 from (List.mem_append_left _ (List.mem_of_getElem? (l := tables_1_1) (i := 169) (by decide +kernel)))) (by decide +kernel)
theorem kw_752 : Cond.fieldLink R_He 261 "LuaMachine$Tables" "keyKinds" "[B" ∈ wA := kinm (show _ ∈ tables_1 from (List.mem_append_left _ (List.mem_of_getElem? (l := tables_1_1) (i := 213) (by decide +kernel)))) (by decide +kernel)
theorem kw_753 : Cond.fieldLink R_He 266 "LuaMachine$Tables" "keys" "[J" ∈ wA := kinm (show _ ∈ tables_1 from (List.mem_append_left _ (List.mem_of_getElem? (l := tables_1_1) (i := 216) (by decide +kernel)))) (by decide +kernel)
theorem kw_754 : Cond.fieldLink R_He 269 "LuaMachine$Tables" "valueKinds" "[B" ∈ wA := kinm (show _ ∈ tables_1 from (List.mem_append_left _ (List.mem_of_getElem? (l := tables_1_1) (i := 222) (by decide +kernel)))) (by decide +kernel)
theorem kw_755 : Cond.fieldLink R_He 272 "LuaMachine$Tables" "values" "[J" ∈ wA := kinm (show _ ∈ tables_1 from (List.mem_append_left _ (List.mem_of_getElem? (l := tables_1_1) (i := 227) (by decide +kernel)))) (by decide +kernel)
theorem kw_756 : Cond.fieldLink R_He 197 "LuaMachine$Heap" "machine" "LLuaMachine$Machine;" ∈ wA := kinm (show _ ∈ tables_1 from (List.mem_append_left _ (List.mem_of_getElem? (l := tables_1_1) (i := 171) (by decide +kernel)))) (by decide +kernel)
theorem kw_757 : Cond.fieldLink R_He 273 "LuaMachine$Machine" "chunk" "LLuaMachine$Chunk;" ∈ wA := kinm (show _ ∈ tables_1 from (List.mem_append_right _ (List.mem_append_left _ (List.mem_of_getElem? (l := tables_1_2) (i := 51) (by decide +kernel))))) (by decide +kernel)
theorem kw_758 : Cond.fieldLink R_He 277 "LuaMachine$Chunk" "prototypes" "[LLuaMachine$Prototype;" ∈ wA := kinm (show _ ∈ tables_1 from (List.mem_append_left _ (List.mem_of_getElem? (l := tables_1_1) (i := 54) (by decide +kernel)))) (by decide +kernel)
theorem kw_759 : Cond.fieldLink R_He 97 "LuaMachine$Thing" "link" "I" ∈ wA := kinm (show _ ∈ tables_1 from (List.mem_append_right _ (List.mem_append_right _ (List.mem_append_right _ (List.mem_append_right _ (List.mem_append_left _ (List.mem_of_getElem? (l := tables_1_5) (i := 178) (by decide +kernel)))))))) (by decide +kernel)
theorem kw_760 : Cond.fieldLink R_He 283 "LuaMachine$Prototype" "upvalues" "I" ∈ wA := kinm (show _ ∈ tables_1 from (List.mem_append_right _ (List.mem_append_right _ (List.mem_append_left _ (List.mem_of_getElem? (l := tables_1_3) (i := 139) (by decide +kernel)))))) (by decide +kernel)
theorem kw_761 : Cond.fieldLink R_He 107 "LuaMachine$Thing" "upvalues" "[I" ∈ wA := kinm (show _ ∈ tables_1 from (List.mem_append_right _ (List.mem_append_right _ (List.mem_append_right _ (List.mem_append_right _ (List.mem_append_left _ (List.mem_of_getElem? (l := tables_1_5) (i := 190) (by decide +kernel)))))))) (by decide +kernel)
theorem kw_762 : Cond.fieldLink R_He 119 "LuaMachine$Thing" "place" "I" ∈ wA := kinm (show _ ∈ tables_1 from (List.mem_append_right _ (List.mem_append_right _ (List.mem_append_right _ (List.mem_append_right _ (List.mem_append_left _ (List.mem_of_getElem? (l := tables_1_5) (i := 182) (by decide +kernel)))))))) (by decide +kernel)
theorem kw_763 : Cond.fieldLink R_He 100 "LuaMachine$Thing" "cellKind" "I" ∈ wA := kinm (show _ ∈ tables_1 from (List.mem_append_right _ (List.mem_append_right _ (List.mem_append_right _ (List.mem_append_right _ (List.mem_append_left _ (List.mem_of_getElem? (l := tables_1_5) (i := 183) (by decide +kernel)))))))) (by decide +kernel)
theorem kw_764 : Cond.fieldLink R_He 103 "LuaMachine$Thing" "cellValue" "J" ∈ wA := kinm (show _ ∈ tables_1 from (List.mem_append_right _ (List.mem_append_right _ (List.mem_append_right _ (List.mem_append_right _ (List.mem_append_left _ (List.mem_of_getElem? (l := tables_1_5) (i := 184) (by decide +kernel)))))))) (by decide +kernel)
theorem kw_765 : Cond.instanceMethod y_He_reachFrom ∈ wA := kinm (show _ ∈ tables_1 from (List.mem_append_right _ (List.mem_append_right _ (List.mem_append_right _ (List.mem_append_right _ (List.mem_append_left _ (List.mem_of_getElem? (l := tables_1_5) (i := 145) (by decide +kernel)))))))) (by decide +kernel)
theorem kw_766 : Cond.selects R_He y_He_reachFrom y_He_reachFrom ∈ wA := kinp 21 (by decide +kernel) (by decide +kernel)
theorem cv_He_reachFrom : CV y_He_reachFrom b_He_reachFrom 4 none 1 := ⟨kw_765, kw_766, kw_712, k_He_reachFrom, by decide +kernel⟩
theorem lp_He_reachFrom_L55 {X : Cx} {q : PL} (g : Gd X y_He_reachFrom b_He_reachFrom 4 none 1 24 R_He) (x : Int32 × Int32) (s : S1) (o : ((Int32 × Int32) ⊕ ((Unit))) × S1) (h : M_He_reachFrom_L55 x s = some o) (hR : (Sum.elim (fun y : Int32 × Int32 => ∀ ls : Array Slot, (prs o.2 145 y.1) → lv_has ls 4 [(0, .ref (q.1 111 0)), (1, .ref (q.1 145 y.1)), (2, .int y.2)] → WW X q o.2 55 ls []) (fun y : Unit => ∀ ls : Array Slot, lv_has ls 4 [] → WW X q o.2 118 ls []) o.1)) : ∀ ls : Array Slot, (prs s 145 x.1) → lv_has ls 4 [(0, .ref (q.1 111 0)), (1, .ref (q.1 145 x.1)), (2, .int x.2)] → WW X q s 55 ls [] := by
  intro ls hp0 hl
  unfold M_He_reachFrom_L55 at h
  refine ww_iload_n (pc := 55) g.1 d_He_reachFrom_55 rfl (lv_at hl 2 rfl) ?_
  refine ww_aload_n (pc := 56) g.1 d_He_reachFrom_56 rfl (lv_at hl 1 rfl) ?_
  refine ww_gI (pc := 57) g (k := 11) cl_Tg hp0 (by decide) (Or.inl kw_749) (f := 18571) rfl rfl d_He_reachFrom_57 h fun v57 h => ?_
  refine ww_aload_n (pc := 60) g.1 d_He_reachFrom_60 rfl (lv_at hl 1 rfl) ?_
  refine ww_gI (pc := 61) g (k := 13) cl_Tg hp0 (by decide) (Or.inl kw_750) (f := 18573) rfl rfl d_He_reachFrom_61 h fun v61 h => ?_
  refine ww_iadd (pc := 64) g.1 d_He_reachFrom_64 ?_
  refine ww_icmp_ge (pc := 65) (tgt := 118) g.1 d_He_reachFrom_65 (by decide) h (fun c h => ?_) (fun c h => ?_)
  · rw [oR_eq h] at hR
    exact hR ls (lv_sub hl [] rfl)
  · refine ww_aload_n (pc := 68) g.1 d_He_reachFrom_68 rfl (lv_at hl 0 rfl) ?_
    refine ww_aload_n (pc := 69) g.1 d_He_reachFrom_69 rfl (lv_at hl 0 rfl) ?_
    refine ww_gR (pc := 70) g (k := 14) cl_He (pz rfl (by decide)) (by decide) (Or.inl kw_751) (f := 14222) (t := 120) rfl rfl rfl d_He_reachFrom_70 ?_
    refine ww_gR (pc := 73) g (k := 0) cl_Ta (pz rfl (by decide)) (by decide) (Or.inl kw_752) (f := 15360) (t := 121) rfl rfl rfl d_He_reachFrom_73 ?_
    refine ww_iload_n (pc := 76) g.1 d_He_reachFrom_76 rfl (lv_at hl 2 rfl) ?_
    refine ww_ab (pc := 77) g (pz rfl (by decide)) rfl rfl d_He_reachFrom_77 h fun v77 h => ?_
    refine ww_aload_n (pc := 78) g.1 d_He_reachFrom_78 rfl (lv_at hl 0 rfl) ?_
    refine ww_gR (pc := 79) g (k := 14) cl_He (pz rfl (by decide)) (by decide) (Or.inl kw_751) (f := 14222) (t := 120) rfl rfl rfl d_He_reachFrom_79 ?_
    refine ww_gR (pc := 82) g (k := 1) cl_Ta (pz rfl (by decide)) (by decide) (Or.inl kw_753) (f := 15361) (t := 122) rfl rfl rfl d_He_reachFrom_82 ?_
    refine ww_iload_n (pc := 85) g.1 d_He_reachFrom_85 rfl (lv_at hl 2 rfl) ?_
    refine ww_al (pc := 86) g (pz rfl (by decide)) rfl rfl d_He_reachFrom_86 h fun v86 h => ?_
    refine ww_lo fun dlo => ?_
    obtain ⟨v87, s, hc87, h⟩ := oB_of h
    refine ww_callV (pc := 87) (rest := []) g cv_He_reach (Or.inl kw_731) cl_He (pz rfl (by decide)) (ct_He_reach hc87) ⟨by decide, by decide⟩ rfl hl.1 (Nat.le_of_ble_eq_true rfl) d_He_reachFrom_87 rfl (?_)
    refine ww_st (st' := []) rfl ?_
    refine ww_hi fun dhi => ?_
    have hp0 : prs s 145 x.1 := dhi _ _ hp0.2.1 hp0.2.2 (dlo _ _ hp0)
    refine ww_aload_n (pc := 90) g.1 d_He_reachFrom_90 rfl (lv_at hl 0 rfl) ?_
    refine ww_aload_n (pc := 91) g.1 d_He_reachFrom_91 rfl (lv_at hl 0 rfl) ?_
    refine ww_gR (pc := 92) g (k := 14) cl_He (pz rfl (by decide)) (by decide) (Or.inl kw_751) (f := 14222) (t := 120) rfl rfl rfl d_He_reachFrom_92 ?_
    refine ww_gR (pc := 95) g (k := 2) cl_Ta (pz rfl (by decide)) (by decide) (Or.inl kw_754) (f := 15362) (t := 123) rfl rfl rfl d_He_reachFrom_95 ?_
    refine ww_iload_n (pc := 98) g.1 d_He_reachFrom_98 rfl (lv_at hl 2 rfl) ?_
    refine ww_ab (pc := 99) g (pz rfl (by decide)) rfl rfl d_He_reachFrom_99 h fun v99 h => ?_
    refine ww_aload_n (pc := 100) g.1 d_He_reachFrom_100 rfl (lv_at hl 0 rfl) ?_
    refine ww_gR (pc := 101) g (k := 14) cl_He (pz rfl (by decide)) (by decide) (Or.inl kw_751) (f := 14222) (t := 120) rfl rfl rfl d_He_reachFrom_101 ?_
    refine ww_gR (pc := 104) g (k := 3) cl_Ta (pz rfl (by decide)) (by decide) (Or.inl kw_755) (f := 15363) (t := 124) rfl rfl rfl d_He_reachFrom_104 ?_
    refine ww_iload_n (pc := 107) g.1 d_He_reachFrom_107 rfl (lv_at hl 2 rfl) ?_
    refine ww_al (pc := 108) g (pz rfl (by decide)) rfl rfl d_He_reachFrom_108 h fun v108 h => ?_
    refine ww_lo fun dlo => ?_
    obtain ⟨v109, s, hc109, h⟩ := oB_of h
    refine ww_callV (pc := 109) (rest := []) g cv_He_reach (Or.inl kw_731) cl_He (pz rfl (by decide)) (ct_He_reach hc109) ⟨by decide, by decide⟩ rfl hl.1 (Nat.le_of_ble_eq_true rfl) d_He_reachFrom_109 rfl (?_)
    refine ww_st (st' := []) rfl ?_
    refine ww_hi fun dhi => ?_
    have hp0 : prs s 145 x.1 := dhi _ _ hp0.2.1 hp0.2.2 (dlo _ _ hp0)
    refine ww_iinc (pc := 112) g.1 (v := x.2 + 1) (lv' := [(2, .int (x.2 + 1)), (0, .ref (q.1 111 0)), (1, .ref (q.1 145 x.1))]) d_He_reachFrom_112 hl (k := 2) rfl (by rfl) (by decide) rfl fun ls hl => ?_
    refine ww_goto (pc := 115) (tgt := 55) g.1 d_He_reachFrom_115 (by decide) ?_
    rw [oR_eq h] at hR
    exact hR ls hp0 (lv_sub hl [1, 2, 0] rfl)

theorem lp_He_reachFrom_L142 {X : Cx} {q : PL} (g : Gd X y_He_reachFrom b_He_reachFrom 4 none 1 24 R_He) (x : Int32 × Int32 × Int32) (s : S1) (o : ((Int32 × Int32 × Int32) ⊕ ((Unit))) × S1) (h : M_He_reachFrom_L142 x s = some o) (hR : (Sum.elim (fun y : Int32 × Int32 × Int32 => ∀ ls : Array Slot, (prs o.2 145 y.1) → lv_has ls 4 [(0, .ref (q.1 111 0)), (1, .ref (q.1 145 y.1)), (2, .int y.2.1), (3, .int y.2.2)] → WW X q o.2 142 ls []) (fun y : Unit => ∀ ls : Array Slot, lv_has ls 4 [] → WW X q o.2 166 ls []) o.1)) : ∀ ls : Array Slot, (prs s 145 x.1) → lv_has ls 4 [(0, .ref (q.1 111 0)), (1, .ref (q.1 145 x.1)), (2, .int x.2.1), (3, .int x.2.2)] → WW X q s 142 ls [] := by
  intro ls hp0 hl
  unfold M_He_reachFrom_L142 at h
  refine ww_iload_n (pc := 142) g.1 d_He_reachFrom_142 rfl (lv_at hl 3 rfl) ?_
  refine ww_iload_n (pc := 143) g.1 d_He_reachFrom_143 rfl (lv_at hl 2 rfl) ?_
  refine ww_icmp_ge (pc := 144) (tgt := 166) g.1 d_He_reachFrom_144 (by decide) h (fun c h => ?_) (fun c h => ?_)
  · rw [oR_eq h] at hR
    exact hR ls (lv_sub hl [] rfl)
  · refine ww_aload_n (pc := 147) g.1 d_He_reachFrom_147 rfl (lv_at hl 0 rfl) ?_
    refine ww_bipush (pc := 148) g.1 (v := 8) d_He_reachFrom_148 (by decide) ?_
    refine ww_aload_n (pc := 150) g.1 d_He_reachFrom_150 rfl (lv_at hl 1 rfl) ?_
    refine ww_g5 (pc := 151) g (k := 10) cl_Tg hp0 (by decide) (Or.inl kw_761) (f := 18570) (t := 147) (f2 := 18943) rfl rfl rfl rfl d_He_reachFrom_151 h fun v151 hv151 h => ?_
    refine ww_ok h fun cv151 h => ?_
    refine ww_dn cv151 ?_
    have pd151 : prs s 147 x.1 := pdn (hv151 ▸ cv151) hp0.2.1 hp0.2.2
    refine ww_iload_n (pc := 154) g.1 d_He_reachFrom_154 rfl (lv_at hl 3 rfl) ?_
    refine ww_ln pd151 h fun n155 hmn155 hnn155 h => ?_
    refine ww_ai (pc := 155) g pd151 rfl hnn155 d_He_reachFrom_155 h fun v155 h => ?_
    refine ww_i2l (pc := 156) g.1 (v := v155.toInt64) d_He_reachFrom_156 rfl ?_
    refine ww_lo fun dlo => ?_
    obtain ⟨v157, s, hc157, h⟩ := oB_of h
    refine ww_callV (pc := 157) (rest := []) g cv_He_reach (Or.inl kw_731) cl_He (pz rfl (by decide)) (ct_He_reach hc157) ⟨by decide, by decide⟩ rfl hl.1 (Nat.le_of_ble_eq_true rfl) d_He_reachFrom_157 rfl (?_)
    refine ww_st (st' := []) rfl ?_
    refine ww_hi fun dhi => ?_
    have hp0 : prs s 145 x.1 := dhi _ _ hp0.2.1 hp0.2.2 (dlo _ _ hp0)
    refine ww_iinc (pc := 160) g.1 (v := x.2.2 + 1) (lv' := [(3, .int (x.2.2 + 1)), (0, .ref (q.1 111 0)), (1, .ref (q.1 145 x.1)), (2, .int x.2.1)]) d_He_reachFrom_160 hl (k := 3) rfl (by rfl) (by decide) rfl fun ls hl => ?_
    refine ww_goto (pc := 163) (tgt := 142) g.1 d_He_reachFrom_163 (by decide) ?_
    rw [oR_eq h] at hR
    exact hR ls hp0 (lv_sub hl [1, 2, 3, 0] rfl)

theorem ct_He_reachFrom {l : Launch} {P : PP} {q : PL} {s s' : S1} {l1 : Int32} (hp0 : prs s 145 l1) {r : Unit} (h : M_He_reachFrom l1 s = some (r, s')) : Ct l y_He_reachFrom b_He_reachFrom 4 none 1 24 P q s [.ref (q.1 111 0), .ref (q.1 145 l1)] none q s' := by
  refine ct_of (by decide) (Nat.le_of_ble_eq_true rfl) fun X ls eP el g hR hl => ?_
  subst eP
  have hR : Rt X q ((r, s') : Unit × S1).2 none := hR
  have hl : lv_has ls 4 [(0, .ref (q.1 111 0)), (1, .ref (q.1 145 l1))] := hl
  generalize (r, s') = o at h hR
  unfold M_He_reachFrom at h
  refine ww_aload_n (pc := 0) g.1 d_He_reachFrom_0 rfl (lv_at hl 1 rfl) ?_
  refine ww_gI (pc := 1) g (k := 0) cl_Tg hp0 (by decide) (Or.inl kw_747) (f := 18560) rfl rfl d_He_reachFrom_1 h fun v1 h => ?_
  by_cases c4_40 : v1 = 5
  · have h := oC_pos c4_40 h
    have c := c4_40
    refine ww_tableIn (pc := 4) (tgt := 40) g.1 d_He_reachFrom_4 (by rw [c]; decide) (by rw [c]; decide) (by rw [c] <;> rfl) (by decide) ?_
    refine ww_aload_n (pc := 40) g.1 d_He_reachFrom_40 rfl (lv_at hl 0 rfl) ?_
    refine ww_iconst (pc := 41) g.1 (v := 5) d_He_reachFrom_41 (by decide) ?_
    refine ww_aload_n (pc := 42) g.1 d_He_reachFrom_42 rfl (lv_at hl 1 rfl) ?_
    refine ww_gI (pc := 43) g (k := 14) cl_Tg hp0 (by decide) (Or.inl kw_748) (f := 18574) rfl rfl d_He_reachFrom_43 h fun v43 h => ?_
    refine ww_i2l (pc := 46) g.1 (v := v43.toInt64) d_He_reachFrom_46 rfl ?_
    refine ww_lo fun dlo => ?_
    obtain ⟨v47, s, hc47, h⟩ := oB_of h
    refine ww_callV (pc := 47) (rest := []) g cv_He_reach (Or.inl kw_731) cl_He (pz rfl (by decide)) (ct_He_reach hc47) ⟨by decide, by decide⟩ rfl hl.1 (Nat.le_of_ble_eq_true rfl) d_He_reachFrom_47 rfl (?_)
    refine ww_st (st' := []) rfl ?_
    refine ww_hi fun dhi => ?_
    have hp0 : prs s 145 l1 := dhi _ _ hp0.2.1 hp0.2.2 (dlo _ _ hp0)
    refine ww_aload_n (pc := 50) g.1 d_He_reachFrom_50 rfl (lv_at hl 1 rfl) ?_
    refine ww_gI (pc := 51) g (k := 11) cl_Tg hp0 (by decide) (Or.inl kw_749) (f := 18571) rfl rfl d_He_reachFrom_51 h fun v51 h => ?_
    refine ww_istore_n (pc := 54) (i := 2) g.1 (lv' := [(2, .int v51), (0, .ref (q.1 111 0)), (1, .ref (q.1 145 l1))]) d_He_reachFrom_54 rfl hl (by decide) rfl fun ls hl => ?_
    obtain ⟨e55, s1, hw, h⟩ := oB_of h
    refine oW_rule (Wh := fun (x : Int32 × Int32) (s : S1) => ∀ ls : Array Slot, (prs s 145 x.1) → lv_has ls 4 [(0, .ref (q.1 111 0)), (1, .ref (q.1 145 x.1)), (2, .int x.2)] → WW X q s 55 ls []) (We := fun (e : (Unit)) (s : S1) => ∀ ls : Array Slot, lv_has ls 4 [] → WW X q s 118 ls []) (fun x s o hb hc => lp_He_reachFrom_L55 (q := q) g x s o hb hc) hw ?_ ls hp0 (lv_sub hl [1, 2, 0] rfl)
    clear hw hl
    clear ls
    intro ls hl
    generalize s1 = s at h ⊢
    refine ww_goto (pc := 118) (tgt := 237) g.1 d_He_reachFrom_118 (by decide) ?_
    exact ww_vretH (pc := 237) g h hR d_He_reachFrom_237
  have h := oC_neg c4_40 h
  by_cases c4_121 : v1 = 6
  · have h := oC_pos c4_121 h
    have c := c4_121
    refine ww_tableIn (pc := 4) (tgt := 121) g.1 d_He_reachFrom_4 (by rw [c]; decide) (by rw [c]; decide) (by rw [c] <;> rfl) (by decide) ?_
    refine ww_aload_n (pc := 121) g.1 d_He_reachFrom_121 rfl (lv_at hl 0 rfl) ?_
    refine ww_gR (pc := 122) g (k := 15) cl_He (pz rfl (by decide)) (by decide) (Or.inl kw_756) (f := 14223) (t := 128) rfl rfl rfl d_He_reachFrom_122 ?_
    refine ww_gR (pc := 125) g (k := 0) cl_Ma (pz rfl (by decide)) (by decide) (Or.inl kw_757) (f := 16384) (t := 101) rfl rfl rfl d_He_reachFrom_125 ?_
    refine ww_gR (pc := 128) g (k := 0) cl_Ch (pz rfl (by decide)) (by decide) (Or.inl kw_758) (f := 12928) (t := 102) rfl rfl rfl d_He_reachFrom_128 ?_
    refine ww_aload_n (pc := 131) g.1 d_He_reachFrom_131 rfl (lv_at hl 1 rfl) ?_
    refine ww_gI (pc := 132) g (k := 4) cl_Tg hp0 (by decide) (Or.inl kw_759) (f := 18564) rfl rfl d_He_reachFrom_132 h fun v132 h => ?_
    refine ww_a8 (pc := 135) g (t := 144) (n := 250) (pz rfl (by decide)) rfl rfl rfl rfl d_He_reachFrom_135 h fun pa135 h => ?_
    refine ww_gI (pc := 136) g (k := 3) cl_Pr pa135 (by decide) (Or.inl kw_760) (f := 18435) rfl rfl d_He_reachFrom_136 h fun v136 h => ?_
    refine ww_istore_n (pc := 139) (i := 2) g.1 (lv' := [(2, .int v136), (0, .ref (q.1 111 0)), (1, .ref (q.1 145 l1))]) d_He_reachFrom_139 rfl hl (by decide) rfl fun ls hl => ?_
    refine ww_iconst (pc := 140) g.1 (v := 0) d_He_reachFrom_140 (by decide) ?_
    refine ww_istore_n (pc := 141) (i := 3) g.1 (lv' := [(3, .int 0), (2, .int v136), (0, .ref (q.1 111 0)), (1, .ref (q.1 145 l1))]) d_He_reachFrom_141 rfl hl (by decide) rfl fun ls hl => ?_
    obtain ⟨e142, s1, hw, h⟩ := oB_of h
    refine oW_rule (Wh := fun (x : Int32 × Int32 × Int32) (s : S1) => ∀ ls : Array Slot, (prs s 145 x.1) → lv_has ls 4 [(0, .ref (q.1 111 0)), (1, .ref (q.1 145 x.1)), (2, .int x.2.1), (3, .int x.2.2)] → WW X q s 142 ls []) (We := fun (e : (Unit)) (s : S1) => ∀ ls : Array Slot, lv_has ls 4 [] → WW X q s 166 ls []) (fun x s o hb hc => lp_He_reachFrom_L142 (q := q) g x s o hb hc) hw ?_ ls hp0 (lv_sub hl [2, 3, 1, 0] rfl)
    clear hw hl
    clear ls
    intro ls hl
    generalize s1 = s at h ⊢
    refine ww_goto (pc := 166) (tgt := 237) g.1 d_He_reachFrom_166 (by decide) ?_
    exact ww_vretH (pc := 237) g h hR d_He_reachFrom_237
  have h := oC_neg c4_121 h
  by_cases c4_169 : v1 = 9
  · have h := oC_pos c4_169 h
    have c := c4_169
    refine ww_tableIn (pc := 4) (tgt := 169) g.1 d_He_reachFrom_4 (by rw [c]; decide) (by rw [c]; decide) (by rw [c] <;> rfl) (by decide) ?_
    refine ww_aload_n (pc := 169) g.1 d_He_reachFrom_169 rfl (lv_at hl 0 rfl) ?_
    refine ww_bipush (pc := 170) g.1 (v := 7) d_He_reachFrom_170 (by decide) ?_
    refine ww_aload_n (pc := 172) g.1 d_He_reachFrom_172 rfl (lv_at hl 1 rfl) ?_
    refine ww_gI (pc := 173) g (k := 4) cl_Tg hp0 (by decide) (Or.inl kw_759) (f := 18564) rfl rfl d_He_reachFrom_173 h fun v173 h => ?_
    refine ww_i2l (pc := 176) g.1 (v := v173.toInt64) d_He_reachFrom_176 rfl ?_
    refine ww_lo fun dlo => ?_
    obtain ⟨v177, s, hc177, h⟩ := oB_of h
    refine ww_callV (pc := 177) (rest := []) g cv_He_reach (Or.inl kw_731) cl_He (pz rfl (by decide)) (ct_He_reach hc177) ⟨by decide, by decide⟩ rfl hl.1 (Nat.le_of_ble_eq_true rfl) d_He_reachFrom_177 rfl (?_)
    refine ww_st (st' := []) rfl ?_
    refine ww_hi fun dhi => ?_
    have hp0 : prs s 145 l1 := dhi _ _ hp0.2.1 hp0.2.2 (dlo _ _ hp0)
    refine ww_goto (pc := 180) (tgt := 237) g.1 d_He_reachFrom_180 (by decide) ?_
    exact ww_vretH (pc := 237) g h hR d_He_reachFrom_237
  have h := oC_neg c4_169 h
  have n_5 : ¬ v1.toInt = 5 := lv_neT (fun e => c4_40 e) rfl
  have n_6 : ¬ v1.toInt = 6 := lv_neT (fun e => c4_121 e) rfl
  have n_9 : ¬ v1.toInt = 9 := lv_neT (fun e => c4_169 e) rfl
  by_cases hr : v1.toInt < 5 ∨ 9 < v1.toInt
  · refine ww_tableOut (pc := 4) (tgt := 183) g.1 d_He_reachFrom_4 hr (by decide) ?_
    refine ww_aload_n (pc := 183) g.1 d_He_reachFrom_183 rfl (lv_at hl 1 rfl) ?_
    refine ww_gI (pc := 184) g (k := 4) cl_Tg hp0 (by decide) (Or.inl kw_759) (f := 18564) rfl rfl d_He_reachFrom_184 h fun v184 h => ?_
    refine ww_if_ge (pc := 187) (tgt := 205) g.1 d_He_reachFrom_187 (by decide) h (fun c h => ?_) (fun c h => ?_)
    · refine ww_aload_n (pc := 205) g.1 d_He_reachFrom_205 rfl (lv_at hl 0 rfl) ?_
      refine ww_gR (pc := 206) g (k := 6) cl_He (pz rfl (by decide)) (by decide) (Or.inl kw_708) (f := 14214) (t := 116) rfl rfl rfl d_He_reachFrom_206 ?_
      refine ww_aload_n (pc := 209) g.1 d_He_reachFrom_209 rfl (lv_at hl 1 rfl) ?_
      refine ww_gI (pc := 210) g (k := 4) cl_Tg hp0 (by decide) (Or.inl kw_759) (f := 18564) rfl rfl d_He_reachFrom_210 h fun v210 h => ?_
      refine ww_a8 (pc := 213) g (t := 148) (n := 32) (pz rfl (by decide)) rfl rfl rfl rfl d_He_reachFrom_213 h fun pa213 h => ?_
      refine ww_astore_n (pc := 214) (i := 3) g.1 (lv' := [(3, .ref (q.1 148 v210)), (0, .ref (q.1 111 0)), (1, .ref (q.1 145 l1))]) d_He_reachFrom_214 rfl hl (by decide) rfl fun ls hl => ?_
      refine ww_aload_n (pc := 215) g.1 d_He_reachFrom_215 rfl (lv_at hl 1 rfl) ?_
      refine ww_aload_n (pc := 216) g.1 d_He_reachFrom_216 rfl (lv_at hl 0 rfl) ?_
      refine ww_gR (pc := 217) g (k := 0) cl_Co pa213 (by decide) (Or.inl kw_736) (f := 18944) (t := 149) rfl rfl rfl d_He_reachFrom_217 ?_
      refine ww_kd fun kd217 => ?_
      have pk217 : prs s 149 v210 := (kd217 _ pa213).1
      refine ww_aload_n (pc := 220) g.1 d_He_reachFrom_220 rfl (lv_at hl 2 rfl) ?_
      refine ww_gI (pc := 221) g (k := 6) cl_Tg hp0 (by decide) (Or.inl kw_762) (f := 18566) rfl rfl d_He_reachFrom_221 h fun v221 h => ?_
      refine ww_ab (pc := 224) g pk217 rfl rfl d_He_reachFrom_224 h fun v224 h => ?_
      refine ww_aload_n (pc := 225) g.1 d_He_reachFrom_225 rfl (lv_at hl 0 rfl) ?_
      refine ww_gR (pc := 226) g (k := 1) cl_Co pa213 (by decide) (Or.inl kw_737) (f := 18945) (t := 150) rfl rfl rfl d_He_reachFrom_226 ?_
      refine ww_kd fun kd226 => ?_
      have pk226 : prs s 150 v210 := (kd226 _ pa213).2.1
      refine ww_aload_n (pc := 229) g.1 d_He_reachFrom_229 rfl (lv_at hl 2 rfl) ?_
      refine ww_gI (pc := 230) g (k := 6) cl_Tg hp0 (by decide) (Or.inl kw_762) (f := 18566) rfl rfl d_He_reachFrom_230 h fun v230 h => ?_
      refine ww_al (pc := 233) g pk226 rfl rfl d_He_reachFrom_233 h fun v233 h => ?_
      refine ww_lo fun dlo => ?_
      obtain ⟨v234, s, hc234, h⟩ := oB_of h
      refine ww_callV (pc := 234) (rest := []) g cv_He_reach (Or.inl kw_731) cl_He (pz rfl (by decide)) (ct_He_reach hc234) ⟨by decide, by decide⟩ rfl hl.1 (Nat.le_of_ble_eq_true rfl) d_He_reachFrom_234 rfl (?_)
      refine ww_st (st' := []) rfl ?_
      refine ww_hi fun dhi => ?_
      have pa213 : prs s 148 v210 := dhi _ _ pa213.2.1 pa213.2.2 (dlo _ _ pa213)
      have hp0 : prs s 145 l1 := dhi _ _ hp0.2.1 hp0.2.2 (dlo _ _ hp0)
      exact ww_vretH (pc := 237) g h hR d_He_reachFrom_237
    · refine ww_aload_n (pc := 190) g.1 d_He_reachFrom_190 rfl (lv_at hl 0 rfl) ?_
      refine ww_aload_n (pc := 191) g.1 d_He_reachFrom_191 rfl (lv_at hl 1 rfl) ?_
      refine ww_gI (pc := 192) g (k := 7) cl_Tg hp0 (by decide) (Or.inl kw_763) (f := 18567) rfl rfl d_He_reachFrom_192 h fun v192 h => ?_
      refine ww_aload_n (pc := 195) g.1 d_He_reachFrom_195 rfl (lv_at hl 1 rfl) ?_
      refine ww_gL (pc := 196) g (k := 8) cl_Tg hp0 (by decide) (Or.inl kw_764) (f := 18568) rfl rfl d_He_reachFrom_196 h fun v196 h => ?_
      refine ww_lo fun dlo => ?_
      obtain ⟨v199, s, hc199, h⟩ := oB_of h
      refine ww_callV (pc := 199) (rest := []) g cv_He_reach (Or.inl kw_731) cl_He (pz rfl (by decide)) (ct_He_reach hc199) ⟨by decide, by decide⟩ rfl hl.1 (Nat.le_of_ble_eq_true rfl) d_He_reachFrom_199 rfl (?_)
      refine ww_st (st' := []) rfl ?_
      refine ww_hi fun dhi => ?_
      have hp0 : prs s 145 l1 := dhi _ _ hp0.2.1 hp0.2.2 (dlo _ _ hp0)
      refine ww_goto (pc := 202) (tgt := 237) g.1 d_He_reachFrom_202 (by decide) ?_
      exact ww_vretH (pc := 237) g h hR d_He_reachFrom_237
  have hh : v1.toInt = 7 ∨ v1.toInt = 8 := by omega
  rcases hh with c | c
  · refine ww_tableIn (pc := 4) (tgt := 183) g.1 d_He_reachFrom_4 (by rw [c]; decide) (by rw [c]; decide) (by rw [c] <;> rfl) (by decide) ?_
    refine ww_aload_n (pc := 183) g.1 d_He_reachFrom_183 rfl (lv_at hl 1 rfl) ?_
    refine ww_gI (pc := 184) g (k := 4) cl_Tg hp0 (by decide) (Or.inl kw_759) (f := 18564) rfl rfl d_He_reachFrom_184 h fun v184 h => ?_
    refine ww_if_ge (pc := 187) (tgt := 205) g.1 d_He_reachFrom_187 (by decide) h (fun c h => ?_) (fun c h => ?_)
    · refine ww_aload_n (pc := 205) g.1 d_He_reachFrom_205 rfl (lv_at hl 0 rfl) ?_
      refine ww_gR (pc := 206) g (k := 6) cl_He (pz rfl (by decide)) (by decide) (Or.inl kw_708) (f := 14214) (t := 116) rfl rfl rfl d_He_reachFrom_206 ?_
      refine ww_aload_n (pc := 209) g.1 d_He_reachFrom_209 rfl (lv_at hl 1 rfl) ?_
      refine ww_gI (pc := 210) g (k := 4) cl_Tg hp0 (by decide) (Or.inl kw_759) (f := 18564) rfl rfl d_He_reachFrom_210 h fun v210 h => ?_
      refine ww_a8 (pc := 213) g (t := 148) (n := 32) (pz rfl (by decide)) rfl rfl rfl rfl d_He_reachFrom_213 h fun pa213 h => ?_
      refine ww_astore_n (pc := 214) (i := 3) g.1 (lv' := [(3, .ref (q.1 148 v210)), (0, .ref (q.1 111 0)), (1, .ref (q.1 145 l1))]) d_He_reachFrom_214 rfl hl (by decide) rfl fun ls hl => ?_
      refine ww_aload_n (pc := 215) g.1 d_He_reachFrom_215 rfl (lv_at hl 1 rfl) ?_
      refine ww_aload_n (pc := 216) g.1 d_He_reachFrom_216 rfl (lv_at hl 0 rfl) ?_
      refine ww_gR (pc := 217) g (k := 0) cl_Co pa213 (by decide) (Or.inl kw_736) (f := 18944) (t := 149) rfl rfl rfl d_He_reachFrom_217 ?_
      refine ww_kd fun kd217 => ?_
      have pk217 : prs s 149 v210 := (kd217 _ pa213).1
      refine ww_aload_n (pc := 220) g.1 d_He_reachFrom_220 rfl (lv_at hl 2 rfl) ?_
      refine ww_gI (pc := 221) g (k := 6) cl_Tg hp0 (by decide) (Or.inl kw_762) (f := 18566) rfl rfl d_He_reachFrom_221 h fun v221 h => ?_
      refine ww_ab (pc := 224) g pk217 rfl rfl d_He_reachFrom_224 h fun v224 h => ?_
      refine ww_aload_n (pc := 225) g.1 d_He_reachFrom_225 rfl (lv_at hl 0 rfl) ?_
      refine ww_gR (pc := 226) g (k := 1) cl_Co pa213 (by decide) (Or.inl kw_737) (f := 18945) (t := 150) rfl rfl rfl d_He_reachFrom_226 ?_
      refine ww_kd fun kd226 => ?_
      have pk226 : prs s 150 v210 := (kd226 _ pa213).2.1
      refine ww_aload_n (pc := 229) g.1 d_He_reachFrom_229 rfl (lv_at hl 2 rfl) ?_
      refine ww_gI (pc := 230) g (k := 6) cl_Tg hp0 (by decide) (Or.inl kw_762) (f := 18566) rfl rfl d_He_reachFrom_230 h fun v230 h => ?_
      refine ww_al (pc := 233) g pk226 rfl rfl d_He_reachFrom_233 h fun v233 h => ?_
      refine ww_lo fun dlo => ?_
      obtain ⟨v234, s, hc234, h⟩ := oB_of h
      refine ww_callV (pc := 234) (rest := []) g cv_He_reach (Or.inl kw_731) cl_He (pz rfl (by decide)) (ct_He_reach hc234) ⟨by decide, by decide⟩ rfl hl.1 (Nat.le_of_ble_eq_true rfl) d_He_reachFrom_234 rfl (?_)
      refine ww_st (st' := []) rfl ?_
      refine ww_hi fun dhi => ?_
      have pa213 : prs s 148 v210 := dhi _ _ pa213.2.1 pa213.2.2 (dlo _ _ pa213)
      have hp0 : prs s 145 l1 := dhi _ _ hp0.2.1 hp0.2.2 (dlo _ _ hp0)
      exact ww_vretH (pc := 237) g h hR d_He_reachFrom_237
    · refine ww_aload_n (pc := 190) g.1 d_He_reachFrom_190 rfl (lv_at hl 0 rfl) ?_
      refine ww_aload_n (pc := 191) g.1 d_He_reachFrom_191 rfl (lv_at hl 1 rfl) ?_
      refine ww_gI (pc := 192) g (k := 7) cl_Tg hp0 (by decide) (Or.inl kw_763) (f := 18567) rfl rfl d_He_reachFrom_192 h fun v192 h => ?_
      refine ww_aload_n (pc := 195) g.1 d_He_reachFrom_195 rfl (lv_at hl 1 rfl) ?_
      refine ww_gL (pc := 196) g (k := 8) cl_Tg hp0 (by decide) (Or.inl kw_764) (f := 18568) rfl rfl d_He_reachFrom_196 h fun v196 h => ?_
      refine ww_lo fun dlo => ?_
      obtain ⟨v199, s, hc199, h⟩ := oB_of h
      refine ww_callV (pc := 199) (rest := []) g cv_He_reach (Or.inl kw_731) cl_He (pz rfl (by decide)) (ct_He_reach hc199) ⟨by decide, by decide⟩ rfl hl.1 (Nat.le_of_ble_eq_true rfl) d_He_reachFrom_199 rfl (?_)
      refine ww_st (st' := []) rfl ?_
      refine ww_hi fun dhi => ?_
      have hp0 : prs s 145 l1 := dhi _ _ hp0.2.1 hp0.2.2 (dlo _ _ hp0)
      refine ww_goto (pc := 202) (tgt := 237) g.1 d_He_reachFrom_202 (by decide) ?_
      exact ww_vretH (pc := 237) g h hR d_He_reachFrom_237
  · refine ww_tableIn (pc := 4) (tgt := 183) g.1 d_He_reachFrom_4 (by rw [c]; decide) (by rw [c]; decide) (by rw [c] <;> rfl) (by decide) ?_
    refine ww_aload_n (pc := 183) g.1 d_He_reachFrom_183 rfl (lv_at hl 1 rfl) ?_
    refine ww_gI (pc := 184) g (k := 4) cl_Tg hp0 (by decide) (Or.inl kw_759) (f := 18564) rfl rfl d_He_reachFrom_184 h fun v184 h => ?_
    refine ww_if_ge (pc := 187) (tgt := 205) g.1 d_He_reachFrom_187 (by decide) h (fun c h => ?_) (fun c h => ?_)
    · refine ww_aload_n (pc := 205) g.1 d_He_reachFrom_205 rfl (lv_at hl 0 rfl) ?_
      refine ww_gR (pc := 206) g (k := 6) cl_He (pz rfl (by decide)) (by decide) (Or.inl kw_708) (f := 14214) (t := 116) rfl rfl rfl d_He_reachFrom_206 ?_
      refine ww_aload_n (pc := 209) g.1 d_He_reachFrom_209 rfl (lv_at hl 1 rfl) ?_
      refine ww_gI (pc := 210) g (k := 4) cl_Tg hp0 (by decide) (Or.inl kw_759) (f := 18564) rfl rfl d_He_reachFrom_210 h fun v210 h => ?_
      refine ww_a8 (pc := 213) g (t := 148) (n := 32) (pz rfl (by decide)) rfl rfl rfl rfl d_He_reachFrom_213 h fun pa213 h => ?_
      refine ww_astore_n (pc := 214) (i := 3) g.1 (lv' := [(3, .ref (q.1 148 v210)), (0, .ref (q.1 111 0)), (1, .ref (q.1 145 l1))]) d_He_reachFrom_214 rfl hl (by decide) rfl fun ls hl => ?_
      refine ww_aload_n (pc := 215) g.1 d_He_reachFrom_215 rfl (lv_at hl 1 rfl) ?_
      refine ww_aload_n (pc := 216) g.1 d_He_reachFrom_216 rfl (lv_at hl 0 rfl) ?_
      refine ww_gR (pc := 217) g (k := 0) cl_Co pa213 (by decide) (Or.inl kw_736) (f := 18944) (t := 149) rfl rfl rfl d_He_reachFrom_217 ?_
      refine ww_kd fun kd217 => ?_
      have pk217 : prs s 149 v210 := (kd217 _ pa213).1
      refine ww_aload_n (pc := 220) g.1 d_He_reachFrom_220 rfl (lv_at hl 2 rfl) ?_
      refine ww_gI (pc := 221) g (k := 6) cl_Tg hp0 (by decide) (Or.inl kw_762) (f := 18566) rfl rfl d_He_reachFrom_221 h fun v221 h => ?_
      refine ww_ab (pc := 224) g pk217 rfl rfl d_He_reachFrom_224 h fun v224 h => ?_
      refine ww_aload_n (pc := 225) g.1 d_He_reachFrom_225 rfl (lv_at hl 0 rfl) ?_
      refine ww_gR (pc := 226) g (k := 1) cl_Co pa213 (by decide) (Or.inl kw_737) (f := 18945) (t := 150) rfl rfl rfl d_He_reachFrom_226 ?_
      refine ww_kd fun kd226 => ?_
      have pk226 : prs s 150 v210 := (kd226 _ pa213).2.1
      refine ww_aload_n (pc := 229) g.1 d_He_reachFrom_229 rfl (lv_at hl 2 rfl) ?_
      refine ww_gI (pc := 230) g (k := 6) cl_Tg hp0 (by decide) (Or.inl kw_762) (f := 18566) rfl rfl d_He_reachFrom_230 h fun v230 h => ?_
      refine ww_al (pc := 233) g pk226 rfl rfl d_He_reachFrom_233 h fun v233 h => ?_
      refine ww_lo fun dlo => ?_
      obtain ⟨v234, s, hc234, h⟩ := oB_of h
      refine ww_callV (pc := 234) (rest := []) g cv_He_reach (Or.inl kw_731) cl_He (pz rfl (by decide)) (ct_He_reach hc234) ⟨by decide, by decide⟩ rfl hl.1 (Nat.le_of_ble_eq_true rfl) d_He_reachFrom_234 rfl (?_)
      refine ww_st (st' := []) rfl ?_
      refine ww_hi fun dhi => ?_
      have pa213 : prs s 148 v210 := dhi _ _ pa213.2.1 pa213.2.2 (dlo _ _ pa213)
      have hp0 : prs s 145 l1 := dhi _ _ hp0.2.1 hp0.2.2 (dlo _ _ hp0)
      exact ww_vretH (pc := 237) g h hR d_He_reachFrom_237
    · refine ww_aload_n (pc := 190) g.1 d_He_reachFrom_190 rfl (lv_at hl 0 rfl) ?_
      refine ww_aload_n (pc := 191) g.1 d_He_reachFrom_191 rfl (lv_at hl 1 rfl) ?_
      refine ww_gI (pc := 192) g (k := 7) cl_Tg hp0 (by decide) (Or.inl kw_763) (f := 18567) rfl rfl d_He_reachFrom_192 h fun v192 h => ?_
      refine ww_aload_n (pc := 195) g.1 d_He_reachFrom_195 rfl (lv_at hl 1 rfl) ?_
      refine ww_gL (pc := 196) g (k := 8) cl_Tg hp0 (by decide) (Or.inl kw_764) (f := 18568) rfl rfl d_He_reachFrom_196 h fun v196 h => ?_
      refine ww_lo fun dlo => ?_
      obtain ⟨v199, s, hc199, h⟩ := oB_of h
      refine ww_callV (pc := 199) (rest := []) g cv_He_reach (Or.inl kw_731) cl_He (pz rfl (by decide)) (ct_He_reach hc199) ⟨by decide, by decide⟩ rfl hl.1 (Nat.le_of_ble_eq_true rfl) d_He_reachFrom_199 rfl (?_)
      refine ww_st (st' := []) rfl ?_
      refine ww_hi fun dhi => ?_
      have hp0 : prs s 145 l1 := dhi _ _ hp0.2.1 hp0.2.2 (dlo _ _ hp0)
      refine ww_goto (pc := 202) (tgt := 237) g.1 d_He_reachFrom_202 (by decide) ?_
      exact ww_vretH (pc := 237) g h hR d_He_reachFrom_237


