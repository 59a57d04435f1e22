abbrev b_Bu_fromFront : ByteArray := prog_2_method_28_code
def y_Bu_fromFront : MethodName := ⟨R_Bu, "fromFront", "(JI)J"⟩
abbrev w_Bu_fromFront : List Cond := .code y_Bu_fromFront b_Bu_fromFront 3 (some .long) :: wA
theorem k_Bu_fromFront : Cond.code y_Bu_fromFront b_Bu_fromFront 3 (some .long) ∈ wA := kinm (show _ ∈ tables_1 from (List.mem_append_right _ (List.mem_append_right _ (List.mem_append_right _ (List.mem_append_right _ (List.mem_append_right _ (List.mem_append_right _ (List.mem_append_right _ (List.mem_append_left _ (List.mem_of_getElem? (l := tables_1_8) (i := 145) (by decide +kernel))))))))))) (by decide +kernel)
theorem d_Bu_fromFront_0 : decode b_Bu_fromFront 0 = .ok (.lload_n 0, 1) := by decide +kernel
theorem d_Bu_fromFront_1 : decode b_Bu_fromFront 1 = .ok (.lconst 0, 1) := by decide +kernel
theorem d_Bu_fromFront_2 : decode b_Bu_fromFront 2 = .ok (.lcmp, 1) := by decide +kernel
theorem d_Bu_fromFront_3 : decode b_Bu_fromFront 3 = .ok (.ifCond .lt 5, 3) := by decide +kernel
theorem d_Bu_fromFront_6 : decode b_Bu_fromFront 6 = .ok (.lload_n 0, 1) := by decide +kernel
theorem d_Bu_fromFront_7 : decode b_Bu_fromFront 7 = .ok (.lreturn, 1) := by decide +kernel
theorem d_Bu_fromFront_8 : decode b_Bu_fromFront 8 = .ok (.lload_n 0, 1) := by decide +kernel
theorem d_Bu_fromFront_9 : decode b_Bu_fromFront 9 = .ok (.iload_n 2, 1) := by decide +kernel
theorem d_Bu_fromFront_10 : decode b_Bu_fromFront 10 = .ok (.ineg, 1) := by decide +kernel
theorem d_Bu_fromFront_11 : decode b_Bu_fromFront 11 = .ok (.i2l, 1) := by decide +kernel
theorem d_Bu_fromFront_12 : decode b_Bu_fromFront 12 = .ok (.lcmp, 1) := by decide +kernel
theorem d_Bu_fromFront_13 : decode b_Bu_fromFront 13 = .ok (.ifCond .ge 7, 3) := by decide +kernel
theorem d_Bu_fromFront_16 : decode b_Bu_fromFront 16 = .ok (.lconst 0, 1) := by decide +kernel
theorem d_Bu_fromFront_17 : decode b_Bu_fromFront 17 = .ok (.goto 9, 3) := by decide +kernel
theorem d_Bu_fromFront_20 : decode b_Bu_fromFront 20 = .ok (.iload_n 2, 1) := by decide +kernel
theorem d_Bu_fromFront_21 : decode b_Bu_fromFront 21 = .ok (.i2l, 1) := by decide +kernel
theorem d_Bu_fromFront_22 : decode b_Bu_fromFront 22 = .ok (.lload_n 0, 1) := by decide +kernel
theorem d_Bu_fromFront_23 : decode b_Bu_fromFront 23 = .ok (.ladd, 1) := by decide +kernel
theorem d_Bu_fromFront_24 : decode b_Bu_fromFront 24 = .ok (.lconst 1, 1) := by decide +kernel
theorem d_Bu_fromFront_25 : decode b_Bu_fromFront 25 = .ok (.ladd, 1) := by decide +kernel
theorem d_Bu_fromFront_26 : decode b_Bu_fromFront 26 = .ok (.lreturn, 1) := by decide +kernel
theorem kw_987 : Cond.static y_Bu_fromFront ∈ wA := kinm (show _ ∈ tables_1 from (List.mem_append_right _ (List.mem_append_right _ (List.mem_append_right _ (List.mem_append_right _ (List.mem_append_right _ (List.mem_append_right _ (List.mem_append_right _ (List.mem_append_left _ (List.mem_of_getElem? (l := tables_1_8) (i := 144) (by decide +kernel))))))))))) (by decide +kernel)
theorem cs_Bu_fromFront : CS y_Bu_fromFront b_Bu_fromFront 3 (some .long) 2 := ⟨kw_987, kw_950, k_Bu_fromFront, by decide +kernel⟩
theorem ct_Bu_fromFront {l : Launch} {P : PP} {q : PL} {s s' : S1} {l0 : Int64} {l2 : Int32} {r : Int64} (h : M_Bu_fromFront l0 l2 s = some (r, s')) : Ct l y_Bu_fromFront b_Bu_fromFront 3 (some .long) 0 0 P q s [.long l0, .int l2] (some (.long r)) q s' := by
  refine ct_of (by decide) (Nat.le_of_ble_eq_true rfl) fun X ls eP el g hR hl => ?_
  subst eP
  have hR : Rt X q ((r, s') : Int64 × S1).2 (some (.long ((r, s') : Int64 × S1).1)) := hR
  have hl : lv_has ls 3 [(0, .long l0), (2, .int l2)] := hl
  generalize (r, s') = o at h hR
  unfold M_Bu_fromFront at h
  refine ww_lload_n (pc := 0) g.1 d_Bu_fromFront_0 rfl (lv_at hl 0 rfl) ?_
  refine ww_lconst (pc := 1) g.1 (v := 0) d_Bu_fromFront_1 (by decide) ?_
  refine ww_lcmp (pc := 2) g.1 d_Bu_fromFront_2 ?_
  refine ww_if_lt (pc := 3) (tgt := 8) g.1 d_Bu_fromFront_3 (by decide) h (fun c h => ?_) (fun c h => ?_)
  · refine ww_lload_n (pc := 8) g.1 d_Bu_fromFront_8 rfl (lv_at hl 0 rfl) ?_
    refine ww_iload_n (pc := 9) g.1 d_Bu_fromFront_9 rfl (lv_at hl 1 rfl) ?_
    refine ww_ineg (pc := 10) g.1 d_Bu_fromFront_10 ?_
    refine ww_i2l (pc := 11) g.1 (v := (-l2).toInt64) d_Bu_fromFront_11 rfl ?_
    refine ww_lcmp (pc := 12) g.1 d_Bu_fromFront_12 ?_
    refine ww_if_ge (pc := 13) (tgt := 20) g.1 d_Bu_fromFront_13 (by decide) h (fun c h => ?_) (fun c h => ?_)
    · refine ww_iload_n (pc := 20) g.1 d_Bu_fromFront_20 rfl (lv_at hl 1 rfl) ?_
      refine ww_i2l (pc := 21) g.1 (v := l2.toInt64) d_Bu_fromFront_21 rfl ?_
      refine ww_lload_n (pc := 22) g.1 d_Bu_fromFront_22 rfl (lv_at hl 0 rfl) ?_
      refine ww_ladd (pc := 23) g.1 d_Bu_fromFront_23 ?_
      refine ww_lconst (pc := 24) g.1 (v := 1) d_Bu_fromFront_24 (by decide) ?_
      refine ww_ladd (pc := 25) g.1 d_Bu_fromFront_25 ?_
      exact ww_lretH (pc := 26) g h hR d_Bu_fromFront_26
    · refine ww_lconst (pc := 16) g.1 (v := 0) d_Bu_fromFront_16 (by decide) ?_
      refine ww_goto (pc := 17) (tgt := 26) g.1 d_Bu_fromFront_17 (by decide) ?_
      exact ww_lretH (pc := 26) g h hR d_Bu_fromFront_26
  · refine ww_lload_n (pc := 6) g.1 d_Bu_fromFront_6 rfl (lv_at hl 0 rfl) ?_
    exact ww_lretH (pc := 7) g h hR d_Bu_fromFront_7

abbrev b_Ma_backToResumer : ByteArray := prog_7_method_22_code
def y_Ma_backToResumer : MethodName := ⟨R_Ma, "backToResumer", "(I)I"⟩
abbrev w_Ma_backToResumer : List Cond := .code y_Ma_backToResumer b_Ma_backToResumer 4 (some .int) :: wA
theorem k_Ma_backToResumer : Cond.code y_Ma_backToResumer b_Ma_backToResumer 4 (some .int) ∈ wA := kinm (show _ ∈ tables_1 from (List.mem_append_right _ (List.mem_append_right _ (List.mem_append_right _ (List.mem_append_right _ (List.mem_append_right _ (List.mem_append_right _ (List.mem_append_right _ (List.mem_append_left _ (List.mem_of_getElem? (l := tables_1_8) (i := 195) (by decide +kernel))))))))))) (by decide +kernel)
theorem d_Ma_backToResumer_0 : decode b_Ma_backToResumer 0 = .ok (.aload_n 0, 1) := by decide +kernel
theorem d_Ma_backToResumer_1 : decode b_Ma_backToResumer 1 = .ok (.getfield 172, 3) := by decide +kernel
theorem d_Ma_backToResumer_4 : decode b_Ma_backToResumer 4 = .ok (.astore_n 2, 1) := by decide +kernel
theorem d_Ma_backToResumer_5 : decode b_Ma_backToResumer 5 = .ok (.aload_n 0, 1) := by decide +kernel
theorem d_Ma_backToResumer_6 : decode b_Ma_backToResumer 6 = .ok (.aload_n 0, 1) := by decide +kernel
theorem d_Ma_backToResumer_7 : decode b_Ma_backToResumer 7 = .ok (.getfield 31, 3) := by decide +kernel
theorem d_Ma_backToResumer_10 : decode b_Ma_backToResumer 10 = .ok (.getfield 165, 3) := by decide +kernel
theorem d_Ma_backToResumer_13 : decode b_Ma_backToResumer 13 = .ok (.aload_n 2, 1) := by decide +kernel
theorem d_Ma_backToResumer_14 : decode b_Ma_backToResumer 14 = .ok (.getfield 318, 3) := by decide +kernel
theorem d_Ma_backToResumer_17 : decode b_Ma_backToResumer 17 = .ok (.aaload, 1) := by decide +kernel
theorem d_Ma_backToResumer_18 : decode b_Ma_backToResumer 18 = .ok (.putfield 172, 3) := by decide +kernel
theorem d_Ma_backToResumer_21 : decode b_Ma_backToResumer 21 = .ok (.aload_n 2, 1) := by decide +kernel
theorem d_Ma_backToResumer_22 : decode b_Ma_backToResumer 22 = .ok (.iload_n 1, 1) := by decide +kernel
theorem d_Ma_backToResumer_23 : decode b_Ma_backToResumer 23 = .ok (.putfield 183, 3) := by decide +kernel
theorem d_Ma_backToResumer_26 : decode b_Ma_backToResumer 26 = .ok (.aload_n 2, 1) := by decide +kernel
theorem d_Ma_backToResumer_27 : decode b_Ma_backToResumer 27 = .ok (.iconst (-1), 1) := by decide +kernel
theorem d_Ma_backToResumer_28 : decode b_Ma_backToResumer 28 = .ok (.putfield 318, 3) := by decide +kernel
theorem d_Ma_backToResumer_31 : decode b_Ma_backToResumer 31 = .ok (.aload_n 0, 1) := by decide +kernel
theorem d_Ma_backToResumer_32 : decode b_Ma_backToResumer 32 = .ok (.getfield 172, 3) := by decide +kernel
theorem d_Ma_backToResumer_35 : decode b_Ma_backToResumer 35 = .ok (.iconst 1, 1) := by decide +kernel
theorem d_Ma_backToResumer_36 : decode b_Ma_backToResumer 36 = .ok (.putfield 183, 3) := by decide +kernel
theorem d_Ma_backToResumer_39 : decode b_Ma_backToResumer 39 = .ok (.aload_n 0, 1) := by decide +kernel
theorem d_Ma_backToResumer_40 : decode b_Ma_backToResumer 40 = .ok (.getfield 172, 3) := by decide +kernel
theorem d_Ma_backToResumer_43 : decode b_Ma_backToResumer 43 = .ok (.invokevirtual 268, 3) := by decide +kernel
theorem d_Ma_backToResumer_46 : decode b_Ma_backToResumer 46 = .ok (.getfield 338, 3) := by decide +kernel
theorem d_Ma_backToResumer_49 : decode b_Ma_backToResumer 49 = .ok (.istore_n 3, 1) := by decide +kernel
theorem d_Ma_backToResumer_50 : decode b_Ma_backToResumer 50 = .ok (.aload_n 0, 1) := by decide +kernel
theorem d_Ma_backToResumer_51 : decode b_Ma_backToResumer 51 = .ok (.getfield 172, 3) := by decide +kernel
theorem d_Ma_backToResumer_54 : decode b_Ma_backToResumer 54 = .ok (.invokevirtual 329, 3) := by decide +kernel
theorem d_Ma_backToResumer_57 : decode b_Ma_backToResumer 57 = .ok (.iload_n 3, 1) := by decide +kernel
theorem d_Ma_backToResumer_58 : decode b_Ma_backToResumer 58 = .ok (.ireturn, 1) := by decide +kernel
theorem kw_988 : Cond.fieldLink R_Ma 172 "LuaMachine$Machine" "current" "LLuaMachine$Coroutine;" ∈ wA := kinm (show _ ∈ tables_1 from (List.mem_append_right _ (List.mem_append_left _ (List.mem_of_getElem? (l := tables_1_2) (i := 80) (by decide +kernel))))) (by decide +kernel)
theorem kw_989 : Cond.fieldLink R_Ma 318 "LuaMachine$Coroutine" "resumer" "I" ∈ wA := kinm (show _ ∈ tables_1 from (List.mem_append_right _ (List.mem_append_right _ (List.mem_append_right _ (List.mem_append_right _ (List.mem_append_right _ (List.mem_append_left _ (List.mem_of_getElem? (l := tables_1_6) (i := 171) (by decide +kernel))))))))) (by decide +kernel)
theorem kw_990 : Cond.methodLink R_Ma 268 y_Co_top ∈ wA := kinm (show _ ∈ tables_1 from (List.mem_append_right _ (List.mem_append_right _ (List.mem_append_right _ (List.mem_append_right _ (List.mem_append_right _ (List.mem_append_left _ (List.mem_of_getElem? (l := tables_1_6) (i := 225) (by decide +kernel))))))))) (by decide +kernel)
theorem kw_991 : Cond.fieldLink R_Ma 338 "LuaMachine$Frame" "what" "I" ∈ wA := kinm (show _ ∈ tables_1 from (List.mem_append_right _ (List.mem_append_right _ (List.mem_append_right _ (List.mem_append_right _ (List.mem_append_right _ (List.mem_append_left _ (List.mem_of_getElem? (l := tables_1_6) (i := 96) (by decide +kernel))))))))) (by decide +kernel)
theorem kw_992 : Cond.methodLink R_Ma 329 y_Co_pop ∈ wA := kinm (show _ ∈ tables_1 from (List.mem_append_right _ (List.mem_append_right _ (List.mem_append_right _ (List.mem_append_right _ (List.mem_append_right _ (List.mem_append_right _ (List.mem_append_left _ (List.mem_of_getElem? (l := tables_1_7) (i := 182) (by decide +kernel)))))))))) (by decide +kernel)
theorem kw_993 : Cond.instanceMethod y_Ma_backToResumer ∈ wA := kinm (show _ ∈ tables_1 from (List.mem_append_right _ (List.mem_append_right _ (List.mem_append_right _ (List.mem_append_right _ (List.mem_append_right _ (List.mem_append_right _ (List.mem_append_right _ (List.mem_append_left _ (List.mem_of_getElem? (l := tables_1_8) (i := 194) (by decide +kernel))))))))))) (by decide +kernel)
theorem kw_994 : Cond.selects R_Ma y_Ma_backToResumer y_Ma_backToResumer ∈ wA := kinp 95 (by decide +kernel) (by decide +kernel)
theorem cv_Ma_backToResumer : CV y_Ma_backToResumer b_Ma_backToResumer 4 (some .int) 1 := ⟨kw_993, kw_994, kw_838, k_Ma_backToResumer, by decide +kernel⟩
theorem ct_Ma_backToResumer {l : Launch} {P : PP} {q : PL} {s s' : S1} {l1 : Int32} {r : Int32} (h : M_Ma_backToResumer l1 s = some (r, s')) : Ct l y_Ma_backToResumer b_Ma_backToResumer 4 (some .int) 1 20 P q s [.ref (q.1 128 0), .int l1] (some (.int r)) q s' := by
  refine ct_of (by decide) (Nat.le_of_ble_eq_true rfl) fun X ls eP el g hR hl => ?_
  subst eP
  have hR : Rt X q ((r, s') : Int32 × S1).2 (some (.int ((r, s') : Int32 × S1).1)) := hR
  have hl : lv_has ls 4 [(0, .ref (q.1 128 0)), (1, .int l1)] := hl
  generalize (r, s') = o at h hR
  unfold M_Ma_backToResumer at h
  refine ww_aload_n (pc := 0) g.1 d_Ma_backToResumer_0 rfl (lv_at hl 0 rfl) ?_
  refine ww_gV (pc := 1) g (k := 11) cl_Ma (pz rfl (by decide)) (by decide) (Or.inl kw_988) (f := 16395) (t := 148) rfl rfl rfl d_Ma_backToResumer_1 h fun v1 h => ?_
  refine ww_pr h fun pn1 h => ?_
  refine ww_nnP pn1 ?_
  refine ww_astore_n (pc := 4) (i := 2) g.1 (lv' := [(2, .ref (q.1 148 v1)), (0, .ref (q.1 128 0)), (1, .int l1)]) d_Ma_backToResumer_4 rfl hl (by decide) rfl fun ls hl => ?_
  refine ww_aload_n (pc := 5) g.1 d_Ma_backToResumer_5 rfl (lv_at hl 1 rfl) ?_
  refine ww_aload_n (pc := 6) g.1 d_Ma_backToResumer_6 rfl (lv_at hl 1 rfl) ?_
  refine ww_gR (pc := 7) g (k := 1) cl_Ma (pz rfl (by decide)) (by decide) (Or.inl kw_938) (f := 16385) (t := 111) rfl rfl rfl d_Ma_backToResumer_7 ?_
  refine ww_gR (pc := 10) g (k := 6) cl_He (pz rfl (by decide)) (by decide) (Or.inl kw_939) (f := 14214) (t := 116) rfl rfl rfl d_Ma_backToResumer_10 ?_
  refine ww_aload_n (pc := 13) g.1 d_Ma_backToResumer_13 rfl (lv_at hl 0 rfl) ?_
  refine ww_gI (pc := 14) g (k := 11) cl_Co pn1 (by decide) (Or.inl kw_989) (f := 18955) rfl rfl d_Ma_backToResumer_14 h fun v14 h => ?_
  refine ww_a8 (pc := 17) g (t := 148) (n := 32) (pz rfl (by decide)) rfl rfl rfl rfl d_Ma_backToResumer_17 h fun pa17 h => ?_
  refine ww_st (st' := [vr q 148 v14, .ref (q.1 128 0)]) (by rw [vr_prs pa17]) ?_
  refine ww_pV (pc := 18) g (k := 11) cl_Ma (pz rfl (by decide)) (by decide) (Or.inl kw_988) rfl (f := 16395) (t := 148) rfl rfl rfl rfl fits_vr d_Ma_backToResumer_18 h fun s hs h => ?_
  have pn1 : prs s 148 v1 := prs_kI (r := 128) (k := 11) (by decide) hs pn1
  refine ww_aload_n (pc := 21) g.1 d_Ma_backToResumer_21 rfl (lv_at hl 0 rfl) ?_
  refine ww_iload_n (pc := 22) g.1 d_Ma_backToResumer_22 rfl (lv_at hl 2 rfl) ?_
  refine ww_pI (pc := 23) g (k := 7) cl_Co pn1 (by decide) (Or.inl kw_833) rfl (f := 18951) rfl rfl rfl rfl d_Ma_backToResumer_23 h fun s hs h => ?_
  have pn1 : prs s 148 v1 := prs_kI (r := 148) (k := 7) (by decide) hs pn1
  refine ww_aload_n (pc := 26) g.1 d_Ma_backToResumer_26 rfl (lv_at hl 0 rfl) ?_
  refine ww_iconst (pc := 27) g.1 (v := (-1)) d_Ma_backToResumer_27 (by decide) ?_
  refine ww_pI (pc := 28) g (k := 11) cl_Co pn1 (by decide) (Or.inl kw_989) rfl (f := 18955) rfl rfl rfl rfl d_Ma_backToResumer_28 h fun s hs h => ?_
  have pn1 : prs s 148 v1 := prs_kI (r := 148) (k := 11) (by decide) hs pn1
  refine ww_aload_n (pc := 31) g.1 d_Ma_backToResumer_31 rfl (lv_at hl 1 rfl) ?_
  refine ww_gV (pc := 32) g (k := 11) cl_Ma (pz rfl (by decide)) (by decide) (Or.inl kw_988) (f := 16395) (t := 148) rfl rfl rfl d_Ma_backToResumer_32 h fun v32 h => ?_
  refine ww_pr h fun pn32 h => ?_
  refine ww_nnP pn32 ?_
  refine ww_iconst (pc := 35) g.1 (v := 1) d_Ma_backToResumer_35 (by decide) ?_
  refine ww_pI (pc := 36) g (k := 7) cl_Co pn32 (by decide) (Or.inl kw_833) rfl (f := 18951) rfl rfl rfl rfl d_Ma_backToResumer_36 h fun s hs h => ?_
  have pn1 : prs s 148 v1 := prs_kI (r := 148) (k := 7) (by decide) hs pn1
  refine ww_aload_n (pc := 39) g.1 d_Ma_backToResumer_39 rfl (lv_at hl 1 rfl) ?_
  refine ww_gV (pc := 40) g (k := 11) cl_Ma (pz rfl (by decide)) (by decide) (Or.inl kw_988) (f := 16395) (t := 148) rfl rfl rfl d_Ma_backToResumer_40 h fun v40 h => ?_
  refine ww_pr h fun pn40 h => ?_
  refine ww_nnP pn40 ?_
  refine ww_lo fun dlo => ?_
  obtain ⟨v43, s, hc43, h⟩ := oB_of h
  refine ww_callV (pc := 43) (rest := []) g cv_Co_top (Or.inl kw_990) cl_Co pn40 (ct_Co_top pn40 hc43) ⟨by decide, by decide⟩ rfl hl.1 (Nat.le_of_ble_eq_true rfl) d_Ma_backToResumer_43 rfl (?_)
  refine ww_st (st' := [.ref (q.1 152 v43)]) rfl ?_
  refine ww_hi fun dhi => ?_
  have pn1 : prs s 148 v1 := dhi _ _ pn1.2.1 pn1.2.2 (dlo _ _ pn1)
  refine ww_pr h fun pr43 h => ?_
  refine ww_gI (pc := 46) g (k := 0) cl_Fm pr43 (by decide) (Or.inl kw_991) (f := 19456) rfl rfl d_Ma_backToResumer_46 h fun v46 h => ?_
  refine ww_istore_n (pc := 49) (i := 3) g.1 (lv' := [(3, .int v46), (2, .ref (q.1 148 v1)), (0, .ref (q.1 128 0)), (1, .int l1)]) d_Ma_backToResumer_49 rfl hl (by decide) rfl fun ls hl => ?_
  refine ww_aload_n (pc := 50) g.1 d_Ma_backToResumer_50 rfl (lv_at hl 2 rfl) ?_
  refine ww_gV (pc := 51) g (k := 11) cl_Ma (pz rfl (by decide)) (by decide) (Or.inl kw_988) (f := 16395) (t := 148) rfl rfl rfl d_Ma_backToResumer_51 h fun v51 h => ?_
  refine ww_pr h fun pn51 h => ?_
  refine ww_nnP pn51 ?_
  refine ww_lo fun dlo => ?_
  obtain ⟨v54, s, hc54, h⟩ := oB_of h
  refine ww_callV (pc := 54) (rest := []) g cv_Co_pop (Or.inl kw_992) cl_Co pn51 (ct_Co_pop pn51 hc54) ⟨by decide, by decide⟩ rfl hl.1 (Nat.le_of_ble_eq_true rfl) d_Ma_backToResumer_54 rfl (?_)
  refine ww_st (st' := []) rfl ?_
  refine ww_hi fun dhi => ?_
  have pn1 : prs s 148 v1 := dhi _ _ pn1.2.1 pn1.2.2 (dlo _ _ pn1)
  refine ww_iload_n (pc := 57) g.1 d_Ma_backToResumer_57 rfl (lv_at hl 0 rfl) ?_
  exact ww_iretH (pc := 58) g h hR d_Ma_backToResumer_58

abbrev b_Bu_tellRunning : ByteArray := prog_2_method_37_code
def y_Bu_tellRunning : MethodName := ⟨R_Bu, "tellRunning", "()V"⟩
abbrev w_Bu_tellRunning : List Cond := .code y_Bu_tellRunning b_Bu_tellRunning 1 none :: wA
theorem k_Bu_tellRunning : Cond.code y_Bu_tellRunning b_Bu_tellRunning 1 none ∈ wA := kinm (show _ ∈ tables_1 from (List.mem_append_right _ (List.mem_append_right _ (List.mem_append_right _ (List.mem_append_right _ (List.mem_append_right _ (List.mem_append_right _ (List.mem_append_right _ (List.mem_append_left _ (List.mem_of_getElem? (l := tables_1_8) (i := 207) (by decide +kernel))))))))))) (by decide +kernel)
theorem d_Bu_tellRunning_0 : decode b_Bu_tellRunning 0 = .ok (.aload_n 0, 1) := by decide +kernel
theorem d_Bu_tellRunning_1 : decode b_Bu_tellRunning 1 = .ok (.getfield 39, 3) := by decide +kernel
theorem d_Bu_tellRunning_4 : decode b_Bu_tellRunning 4 = .ok (.bipush 7, 2) := by decide +kernel
theorem d_Bu_tellRunning_6 : decode b_Bu_tellRunning 6 = .ok (.aload_n 0, 1) := by decide +kernel
theorem d_Bu_tellRunning_7 : decode b_Bu_tellRunning 7 = .ok (.getfield 15, 3) := by decide +kernel
theorem d_Bu_tellRunning_10 : decode b_Bu_tellRunning 10 = .ok (.getfield 235, 3) := by decide +kernel
theorem d_Bu_tellRunning_13 : decode b_Bu_tellRunning 13 = .ok (.getfield 371, 3) := by decide +kernel
theorem d_Bu_tellRunning_16 : decode b_Bu_tellRunning 16 = .ok (.i2l, 1) := by decide +kernel
theorem d_Bu_tellRunning_17 : decode b_Bu_tellRunning 17 = .ok (.invokevirtual 74, 3) := by decide +kernel
theorem d_Bu_tellRunning_20 : decode b_Bu_tellRunning 20 = .ok (.aload_n 0, 1) := by decide +kernel
theorem d_Bu_tellRunning_21 : decode b_Bu_tellRunning 21 = .ok (.aload_n 0, 1) := by decide +kernel
theorem d_Bu_tellRunning_22 : decode b_Bu_tellRunning 22 = .ok (.getfield 15, 3) := by decide +kernel
theorem d_Bu_tellRunning_25 : decode b_Bu_tellRunning 25 = .ok (.getfield 235, 3) := by decide +kernel
theorem d_Bu_tellRunning_28 : decode b_Bu_tellRunning 28 = .ok (.getfield 365, 3) := by decide +kernel
theorem d_Bu_tellRunning_31 : decode b_Bu_tellRunning 31 = .ok (.ifCond .ge 7, 3) := by decide +kernel
theorem d_Bu_tellRunning_34 : decode b_Bu_tellRunning 34 = .ok (.iconst 1, 1) := by decide +kernel
theorem d_Bu_tellRunning_35 : decode b_Bu_tellRunning 35 = .ok (.goto 4, 3) := by decide +kernel
theorem d_Bu_tellRunning_38 : decode b_Bu_tellRunning 38 = .ok (.iconst 0, 1) := by decide +kernel
theorem d_Bu_tellRunning_39 : decode b_Bu_tellRunning 39 = .ok (.invokevirtual 288, 3) := by decide +kernel
theorem d_Bu_tellRunning_42 : decode b_Bu_tellRunning 42 = .ok (.return_, 1) := by decide +kernel
theorem kw_995 : Cond.fieldLink R_Bu 15 "LuaMachine$BuiltIns" "machine" "LLuaMachine$Machine;" ∈ wA := kinm (show _ ∈ tables_1 from (List.mem_append_right _ (List.mem_append_left _ (List.mem_of_getElem? (l := tables_1_2) (i := 190) (by decide +kernel))))) (by decide +kernel)
theorem kw_996 : Cond.fieldLink R_Bu 235 "LuaMachine$Machine" "current" "LLuaMachine$Coroutine;" ∈ wA := kinm (show _ ∈ tables_1 from (List.mem_append_right _ (List.mem_append_left _ (List.mem_of_getElem? (l := tables_1_2) (i := 82) (by decide +kernel))))) (by decide +kernel)
theorem kw_997 : Cond.fieldLink R_Bu 371 "LuaMachine$Coroutine" "slot" "I" ∈ wA := kinm (show _ ∈ tables_1 from (List.mem_append_right _ (List.mem_append_right _ (List.mem_append_right _ (List.mem_append_right _ (List.mem_append_right _ (List.mem_append_left _ (List.mem_of_getElem? (l := tables_1_6) (i := 159) (by decide +kernel))))))))) (by decide +kernel)
theorem kw_998 : Cond.fieldLink R_Bu 365 "LuaMachine$Coroutine" "resumer" "I" ∈ wA := kinm (show _ ∈ tables_1 from (List.mem_append_right _ (List.mem_append_right _ (List.mem_append_right _ (List.mem_append_right _ (List.mem_append_right _ (List.mem_append_left _ (List.mem_of_getElem? (l := tables_1_6) (i := 173) (by decide +kernel))))))))) (by decide +kernel)
theorem kw_999 : Cond.methodLink R_Bu 288 y_Bu_addTruth ∈ wA := kinm (show _ ∈ tables_1 from (List.mem_append_right _ (List.mem_append_right _ (List.mem_append_right _ (List.mem_append_right _ (List.mem_append_right _ (List.mem_append_right _ (List.mem_append_right _ (List.mem_append_left _ (List.mem_of_getElem? (l := tables_1_8) (i := 115) (by decide +kernel))))))))))) (by decide +kernel)
theorem kw_1000 : Cond.instanceMethod y_Bu_tellRunning ∈ wA := kinm (show _ ∈ tables_1 from (List.mem_append_right _ (List.mem_append_right _ (List.mem_append_right _ (List.mem_append_right _ (List.mem_append_right _ (List.mem_append_right _ (List.mem_append_right _ (List.mem_append_left _ (List.mem_of_getElem? (l := tables_1_8) (i := 206) (by decide +kernel))))))))))) (by decide +kernel)
theorem kw_1001 : Cond.selects R_Bu y_Bu_tellRunning y_Bu_tellRunning ∈ wA := kinp 98 (by decide +kernel) (by decide +kernel)
theorem cv_Bu_tellRunning : CV y_Bu_tellRunning b_Bu_tellRunning 1 none 0 := ⟨kw_1000, kw_1001, kw_950, k_Bu_tellRunning, by decide +kernel⟩
theorem j_Bu_tellRunning_j39 {X : Cx} {q : PL} (g : Gd X y_Bu_tellRunning b_Bu_tellRunning 1 none 2 44 R_Bu) {o : (Unit) × S1} (hR : Rt X q o.2 none) (k0 : Int32) (s : S1) (ls : Array Slot) (hl : lv_has ls 1 []) (h : M_Bu_tellRunning_j39 k0 s = some o) : WW X q s 39 ls [.int k0, .ref (q.1 130 0)] := by
  unfold M_Bu_tellRunning_j39 at h
  obtain ⟨v39, s, hc39, h⟩ := oB_of h
  refine ww_callV (pc := 39) (rest := []) g cv_Bu_addTruth (Or.inl kw_999) cl_Bu (pz rfl (by decide)) (ct_Bu_addTruth hc39) ⟨by decide, by decide⟩ rfl hl.1 (Nat.le_of_ble_eq_true rfl) d_Bu_tellRunning_39 rfl (?_)
  refine ww_st (st' := []) rfl ?_
  exact ww_vretH (pc := 42) g h hR d_Bu_tellRunning_42

theorem ct_Bu_tellRunning {l : Launch} {P : PP} {q : PL} {s s' : S1}  {r : Unit} (h : M_Bu_tellRunning s = some (r, s')) : Ct l y_Bu_tellRunning b_Bu_tellRunning 1 none 2 44 P q s [.ref (q.1 130 0)] none q s' := by
  refine ct_of (by decide) (Nat.le_of_ble_eq_true rfl) fun X ls eP el g hR hl => ?_
  subst eP
  have hR : Rt X q ((r, s') : Unit × S1).2 none := hR
  have hl : lv_has ls 1 [(0, .ref (q.1 130 0))] := hl
  generalize (r, s') = o at h hR
  unfold M_Bu_tellRunning at h
  refine ww_aload_n (pc := 0) g.1 d_Bu_tellRunning_0 rfl (lv_at hl 0 rfl) ?_
  refine ww_gR (pc := 1) g (k := 6) cl_Bu (pz rfl (by decide)) (by decide) (Or.inl kw_967) (f := 16646) (t := 135) rfl rfl rfl d_Bu_tellRunning_1 ?_
  refine ww_bipush (pc := 4) g.1 (v := 7) d_Bu_tellRunning_4 (by decide) ?_
  refine ww_aload_n (pc := 6) g.1 d_Bu_tellRunning_6 rfl (lv_at hl 0 rfl) ?_
  refine ww_gR (pc := 7) g (k := 2) cl_Bu (pz rfl (by decide)) (by decide) (Or.inl kw_995) (f := 16642) (t := 128) rfl rfl rfl d_Bu_tellRunning_7 ?_
  refine ww_gV (pc := 10) g (k := 11) cl_Ma (pz rfl (by decide)) (by decide) (Or.inl kw_996) (f := 16395) (t := 148) rfl rfl rfl d_Bu_tellRunning_10 h fun v10 h => ?_
  refine ww_pr h fun pn10 h => ?_
  refine ww_nnP pn10 ?_
  refine ww_gI (pc := 13) g (k := 6) cl_Co pn10 (by decide) (Or.inl kw_997) (f := 18950) rfl rfl d_Bu_tellRunning_13 h fun v13 h => ?_
  refine ww_i2l (pc := 16) g.1 (v := v13.toInt64) d_Bu_tellRunning_16 rfl ?_
  obtain ⟨v17, s, hc17, h⟩ := oB_of h
  refine ww_callV (pc := 17) (rest := []) g cv_Ro_add (Or.inl kw_971) (cl_Ro ⟨by decide, rfl⟩) (pz rfl (by decide)) (ct_Ro_add ⟨by decide, rfl⟩ hc17) ⟨by decide, by decide⟩ rfl hl.1 (Nat.le_of_ble_eq_true rfl) d_Bu_tellRunning_17 rfl (?_)
  refine ww_st (st' := []) rfl ?_
  refine ww_aload_n (pc := 20) g.1 d_Bu_tellRunning_20 rfl (lv_at hl 0 rfl) ?_
  refine ww_aload_n (pc := 21) g.1 d_Bu_tellRunning_21 rfl (lv_at hl 0 rfl) ?_
  refine ww_gR (pc := 22) g (k := 2) cl_Bu (pz rfl (by decide)) (by decide) (Or.inl kw_995) (f := 16642) (t := 128) rfl rfl rfl d_Bu_tellRunning_22 ?_
  refine ww_gV (pc := 25) g (k := 11) cl_Ma (pz rfl (by decide)) (by decide) (Or.inl kw_996) (f := 16395) (t := 148) rfl rfl rfl d_Bu_tellRunning_25 h fun v25 h => ?_
  refine ww_pr h fun pn25 h => ?_
  refine ww_nnP pn25 ?_
  refine ww_gI (pc := 28) g (k := 11) cl_Co pn25 (by decide) (Or.inl kw_998) (f := 18955) rfl rfl d_Bu_tellRunning_28 h fun v28 h => ?_
  refine ww_if_ge (pc := 31) (tgt := 38) g.1 d_Bu_tellRunning_31 (by decide) h (fun c h => ?_) (fun c h => ?_)
  · refine ww_iconst (pc := 38) g.1 (v := 0) d_Bu_tellRunning_38 (by decide) ?_
    exact j_Bu_tellRunning_j39 g hR 0 s ls (lv_sub hl [] rfl) h
  · refine ww_iconst (pc := 34) g.1 (v := 1) d_Bu_tellRunning_34 (by decide) ?_
    refine ww_goto (pc := 35) (tgt := 39) g.1 d_Bu_tellRunning_35 (by decide) ?_
    exact j_Bu_tellRunning_j39 g hR 1 s ls (lv_sub hl [] rfl) h

abbrev b_Ma_give : ByteArray := prog_7_method_10_code
def y_Ma_give : MethodName := ⟨R_Ma, "give", "(IJ)V"⟩
abbrev w_Ma_give : List Cond := .code y_Ma_give b_Ma_give 4 none :: wA
theorem k_Ma_give : Cond.code y_Ma_give b_Ma_give 4 none ∈ wA := kinm (show _ ∈ tables_1 from (List.mem_append_right _ (List.mem_append_right _ (List.mem_append_right _ (List.mem_append_right _ (List.mem_append_right _ (List.mem_append_right _ (List.mem_append_right _ (List.mem_append_left _ (List.mem_of_getElem? (l := tables_1_8) (i := 233) (by decide +kernel))))))))))) (by decide +kernel)
theorem d_Ma_give_0 : decode b_Ma_give 0 = .ok (.aload_n 0, 1) := by decide +kernel
theorem d_Ma_give_1 : decode b_Ma_give 1 = .ok (.getfield 18, 3) := by decide +kernel
theorem d_Ma_give_4 : decode b_Ma_give 4 = .ok (.invokevirtual 51, 3) := by decide +kernel
theorem d_Ma_give_7 : decode b_Ma_give 7 = .ok (.aload_n 0, 1) := by decide +kernel
theorem d_Ma_give_8 : decode b_Ma_give 8 = .ok (.getfield 18, 3) := by decide +kernel
theorem d_Ma_give_11 : decode b_Ma_give 11 = .ok (.iload_n 1, 1) := by decide +kernel
theorem d_Ma_give_12 : decode b_Ma_give 12 = .ok (.lload_n 2, 1) := by decide +kernel
theorem d_Ma_give_13 : decode b_Ma_give 13 = .ok (.invokevirtual 210, 3) := by decide +kernel
theorem d_Ma_give_16 : decode b_Ma_give 16 = .ok (.aload_n 0, 1) := by decide +kernel
theorem d_Ma_give_17 : decode b_Ma_give 17 = .ok (.iconst 3, 1) := by decide +kernel
theorem d_Ma_give_18 : decode b_Ma_give 18 = .ok (.putfield 61, 3) := by decide +kernel
theorem d_Ma_give_21 : decode b_Ma_give 21 = .ok (.return_, 1) := by decide +kernel
theorem kw_1002 : Cond.fieldLink R_Ma 18 "LuaMachine$Machine" "results" "LLuaMachine$Row;" ∈ wA := kinm (show _ ∈ tables_1 from (List.mem_append_right _ (List.mem_append_left _ (List.mem_of_getElem? (l := tables_1_2) (i := 62) (by decide +kernel))))) (by decide +kernel)
theorem kw_1003 : Cond.methodLink R_Ma 51 y_Ro_clear ∈ wA := kinm (show _ ∈ tables_1 from (List.mem_append_right _ (List.mem_append_right _ (List.mem_append_right _ (List.mem_append_right _ (List.mem_append_left _ (List.mem_of_getElem? (l := tables_1_5) (i := 108) (by decide +kernel)))))))) (by decide +kernel)
theorem kw_1004 : Cond.methodLink R_Ma 210 y_Ro_add ∈ wA := kinm (show _ ∈ tables_1 from (List.mem_append_right _ (List.mem_append_right _ (List.mem_append_right _ (List.mem_append_right _ (List.mem_append_right _ (List.mem_append_right _ (List.mem_append_left _ (List.mem_of_getElem? (l := tables_1_7) (i := 63) (by decide +kernel)))))))))) (by decide +kernel)
theorem kw_1005 : Cond.instanceMethod y_Ma_give ∈ wA := kinm (show _ ∈ tables_1 from (List.mem_append_right _ (List.mem_append_right _ (List.mem_append_right _ (List.mem_append_right _ (List.mem_append_right _ (List.mem_append_right _ (List.mem_append_right _ (List.mem_append_left _ (List.mem_of_getElem? (l := tables_1_8) (i := 231) (by decide +kernel))))))))))) (by decide +kernel)
theorem kw_1006 : Cond.selects R_Ma y_Ma_give y_Ma_give ∈ wA := kinm (show _ ∈ tables_1 from (List.mem_append_right _ (List.mem_append_right _ (List.mem_append_right _ (List.mem_append_right _ (List.mem_append_right _ (List.mem_append_right _ (List.mem_append_right _ (List.mem_append_left _ (List.mem_of_getElem? (l := tables_1_8) (i := 232) (by decide +kernel))))))))))) (by decide +kernel)
theorem cv_Ma_give : CV y_Ma_give b_Ma_give 4 none 2 := ⟨kw_1005, kw_1006, kw_838, k_Ma_give, by decide +kernel⟩
theorem ct_Ma_give {l : Launch} {P : PP} {q : PL} {s s' : S1} {l1 : Int32} {l2 : Int64} {r : Unit} (h : M_Ma_give l1 l2 s = some (r, s')) : Ct l y_Ma_give b_Ma_give 4 none 1 23 P q s [.ref (q.1 128 0), .int l1, .long l2] none q s' := by
  refine ct_of (by decide) (Nat.le_of_ble_eq_true rfl) fun X ls eP el g hR hl => ?_
  subst eP
  have hR : Rt X q ((r, s') : Unit × S1).2 none := hR
  have hl : lv_has ls 4 [(0, .ref (q.1 128 0)), (1, .int l1), (2, .long l2)] := hl
  generalize (r, s') = o at h hR
  unfold M_Ma_give at h
  refine ww_aload_n (pc := 0) g.1 d_Ma_give_0 rfl (lv_at hl 0 rfl) ?_
  refine ww_gR (pc := 1) g (k := 4) cl_Ma (pz rfl (by decide)) (by decide) (Or.inl kw_1002) (f := 16388) (t := 135) rfl rfl rfl d_Ma_give_1 ?_
  obtain ⟨v4, s, hc4, h⟩ := oB_of h
  refine ww_callV (pc := 4) (rest := []) g cv_Ro_clear (Or.inl kw_1003) (cl_Ro ⟨by decide, rfl⟩) (pz rfl (by decide)) (ct_Ro_clear ⟨by decide, rfl⟩ hc4) ⟨by decide, by decide⟩ rfl hl.1 (Nat.le_of_ble_eq_true rfl) d_Ma_give_4 rfl (?_)
  refine ww_st (st' := []) rfl ?_
  refine ww_aload_n (pc := 7) g.1 d_Ma_give_7 rfl (lv_at hl 0 rfl) ?_
  refine ww_gR (pc := 8) g (k := 4) cl_Ma (pz rfl (by decide)) (by decide) (Or.inl kw_1002) (f := 16388) (t := 135) rfl rfl rfl d_Ma_give_8 ?_
  refine ww_iload_n (pc := 11) g.1 d_Ma_give_11 rfl (lv_at hl 1 rfl) ?_
  refine ww_lload_n (pc := 12) g.1 d_Ma_give_12 rfl (lv_at hl 2 rfl) ?_
  obtain ⟨v13, s, hc13, h⟩ := oB_of h
  refine ww_callV (pc := 13) (rest := []) g cv_Ro_add (Or.inl kw_1004) (cl_Ro ⟨by decide, rfl⟩) (pz rfl (by decide)) (ct_Ro_add ⟨by decide, rfl⟩ hc13) ⟨by decide, by decide⟩ rfl hl.1 (Nat.le_of_ble_eq_true rfl) d_Ma_give_13 rfl (?_)
  refine ww_st (st' := []) rfl ?_
  refine ww_aload_n (pc := 16) g.1 d_Ma_give_16 rfl (lv_at hl 0 rfl) ?_
  refine ww_iconst (pc := 17) g.1 (v := 3) d_Ma_give_17 (by decide) ?_
  refine ww_pI (pc := 18) g (k := 12) cl_Ma (pz rfl (by decide)) (by decide) (Or.inl kw_851) rfl (f := 16396) rfl rfl rfl rfl d_Ma_give_18 h fun s hs h => ?_
  exact ww_vretH (pc := 21) g h hR d_Ma_give_21

abbrev b_St_setAll : ByteArray := prog_10_method_33_code
def y_St_setAll : MethodName := ⟨R_St, "setAll", "(II)V"⟩
abbrev w_St_setAll : List Cond := .code y_St_setAll b_St_setAll 4 none :: wA
theorem k_St_setAll : Cond.code y_St_setAll b_St_setAll 4 none ∈ wA := kinm (show _ ∈ tables_1 from (List.mem_append_right _ (List.mem_append_right _ (List.mem_append_right _ (List.mem_append_right _ (List.mem_append_right _ (List.mem_append_right _ (List.mem_append_right _ (List.mem_append_right _ (List.mem_append_left _ (List.mem_of_getElem? (l := tables_1_9) (i := 4) (by decide +kernel)))))))))))) (by decide +kernel)
theorem d_St_setAll_0 : decode b_St_setAll 0 = .ok (.iconst 0, 1) := by decide +kernel
theorem d_St_setAll_1 : decode b_St_setAll 1 = .ok (.istore_n 3, 1) := by decide +kernel
theorem d_St_setAll_2 : decode b_St_setAll 2 = .ok (.iload_n 3, 1) := by decide +kernel
theorem d_St_setAll_3 : decode b_St_setAll 3 = .ok (.iload_n 2, 1) := by decide +kernel
theorem d_St_setAll_4 : decode b_St_setAll 4 = .ok (.if_icmp .ge 38, 3) := by decide +kernel
theorem d_St_setAll_7 : decode b_St_setAll 7 = .ok (.aload_n 0, 1) := by decide +kernel
theorem d_St_setAll_8 : decode b_St_setAll 8 = .ok (.iload_n 1, 1) := by decide +kernel
theorem d_St_setAll_9 : decode b_St_setAll 9 = .ok (.iload_n 3, 1) := by decide +kernel
theorem d_St_setAll_10 : decode b_St_setAll 10 = .ok (.iadd, 1) := by decide +kernel
theorem d_St_setAll_11 : decode b_St_setAll 11 = .ok (.aload_n 0, 1) := by decide +kernel
theorem d_St_setAll_12 : decode b_St_setAll 12 = .ok (.getfield 9, 3) := by decide +kernel
theorem d_St_setAll_15 : decode b_St_setAll 15 = .ok (.getfield 335, 3) := by decide +kernel
theorem d_St_setAll_18 : decode b_St_setAll 18 = .ok (.iload_n 3, 1) := by decide +kernel
theorem d_St_setAll_19 : decode b_St_setAll 19 = .ok (.invokevirtual 362, 3) := by decide +kernel
theorem d_St_setAll_22 : decode b_St_setAll 22 = .ok (.aload_n 0, 1) := by decide +kernel
theorem d_St_setAll_23 : decode b_St_setAll 23 = .ok (.getfield 9, 3) := by decide +kernel
theorem d_St_setAll_26 : decode b_St_setAll 26 = .ok (.getfield 335, 3) := by decide +kernel
theorem d_St_setAll_29 : decode b_St_setAll 29 = .ok (.iload_n 3, 1) := by decide +kernel
theorem d_St_setAll_30 : decode b_St_setAll 30 = .ok (.invokevirtual 365, 3) := by decide +kernel
theorem d_St_setAll_33 : decode b_St_setAll 33 = .ok (.invokevirtual 176, 3) := by decide +kernel
theorem d_St_setAll_36 : decode b_St_setAll 36 = .ok (.iinc 3 1, 3) := by decide +kernel
theorem d_St_setAll_39 : decode b_St_setAll 39 = .ok (.goto (-37), 3) := by decide +kernel
theorem d_St_setAll_42 : decode b_St_setAll 42 = .ok (.return_, 1) := by decide +kernel
theorem kw_1007 : Cond.fieldLink R_St 335 "LuaMachine$Machine" "results" "LLuaMachine$Row;" ∈ wA := kinm (show _ ∈ tables_1 from (List.mem_append_right _ (List.mem_append_left _ (List.mem_of_getElem? (l := tables_1_2) (i := 64) (by decide +kernel))))) (by decide +kernel)
theorem kw_1008 : Cond.methodLink R_St 362 y_Ro_kindAt ∈ wA := kinm (show _ ∈ tables_1 from (List.mem_append_right _ (List.mem_append_right _ (List.mem_append_right _ (List.mem_append_right _ (List.mem_append_right _ (List.mem_append_right _ (List.mem_append_right _ (List.mem_append_left _ (List.mem_of_getElem? (l := tables_1_8) (i := 238) (by decide +kernel))))))))))) (by decide +kernel)
theorem kw_1009 : Cond.methodLink R_St 365 y_Ro_valueAt ∈ wA := kinm (show _ ∈ tables_1 from (List.mem_append_right _ (List.mem_append_right _ (List.mem_append_right _ (List.mem_append_right _ (List.mem_append_right _ (List.mem_append_right _ (List.mem_append_right _ (List.mem_append_left _ (List.mem_of_getElem? (l := tables_1_8) (i := 239) (by decide +kernel))))))))))) (by decide +kernel)
theorem kw_1010 : Cond.instanceMethod y_St_setAll ∈ wA := kinm (show _ ∈ tables_1 from (List.mem_append_right _ (List.mem_append_right _ (List.mem_append_right _ (List.mem_append_right _ (List.mem_append_right _ (List.mem_append_right _ (List.mem_append_right _ (List.mem_append_right _ (List.mem_append_left _ (List.mem_of_getElem? (l := tables_1_9) (i := 3) (by decide +kernel)))))))))))) (by decide +kernel)
theorem kw_1011 : Cond.selects R_St y_St_setAll y_St_setAll ∈ wA := kinp 102 (by decide +kernel) (by decide +kernel)
theorem cv_St_setAll : CV y_St_setAll b_St_setAll 4 none 2 := ⟨kw_1010, kw_1011, kw_883, k_St_setAll, by decide +kernel⟩
theorem lp_St_setAll_L2 {X : Cx} {q : PL} (g : Gd X y_St_setAll b_St_setAll 4 none 1 24 R_St) (x : Int32 × Int32 × Int32) (s : S1) (o : ((Int32 × Int32 × Int32) ⊕ ((Unit))) × S1) (h : M_St_setAll_L2 x s = some o) (hR : (Sum.elim (fun y : Int32 × Int32 × Int32 => ∀ ls : Array Slot, lv_has ls 4 [(0, .ref (q.1 129 0)), (1, .int y.1), (2, .int y.2.1), (3, .int y.2.2)] → WW X q o.2 2 ls []) (fun y : Unit => ∀ ls : Array Slot, lv_has ls 4 [] → WW X q o.2 42 ls []) o.1)) : ∀ ls : Array Slot, lv_has ls 4 [(0, .ref (q.1 129 0)), (1, .int x.1), (2, .int x.2.1), (3, .int x.2.2)] → WW X q s 2 ls [] := by
  intro ls hl
  unfold M_St_setAll_L2 at h
  refine ww_iload_n (pc := 2) g.1 d_St_setAll_2 rfl (lv_at hl 3 rfl) ?_
  refine ww_iload_n (pc := 3) g.1 d_St_setAll_3 rfl (lv_at hl 2 rfl) ?_
  refine ww_icmp_ge (pc := 4) (tgt := 42) g.1 d_St_setAll_4 (by decide) h (fun c h => ?_) (fun c h => ?_)
  · rw [oR_eq h] at hR
    exact hR ls (lv_sub hl [] rfl)
  · refine ww_aload_n (pc := 7) g.1 d_St_setAll_7 rfl (lv_at hl 0 rfl) ?_
    refine ww_iload_n (pc := 8) g.1 d_St_setAll_8 rfl (lv_at hl 1 rfl) ?_
    refine ww_iload_n (pc := 9) g.1 d_St_setAll_9 rfl (lv_at hl 3 rfl) ?_
    refine ww_iadd (pc := 10) g.1 d_St_setAll_10 ?_
    refine ww_aload_n (pc := 11) g.1 d_St_setAll_11 rfl (lv_at hl 0 rfl) ?_
    refine ww_gR (pc := 12) g (k := 0) cl_St (pz rfl (by decide)) (by decide) (Or.inl kw_863) (f := 16512) (t := 128) rfl rfl rfl d_St_setAll_12 ?_
    refine ww_gR (pc := 15) g (k := 4) cl_Ma (pz rfl (by decide)) (by decide) (Or.inl kw_1007) (f := 16388) (t := 135) rfl rfl rfl d_St_setAll_15 ?_
    refine ww_iload_n (pc := 18) g.1 d_St_setAll_18 rfl (lv_at hl 3 rfl) ?_
    obtain ⟨v19, s, hc19, h⟩ := oB_of h
    refine ww_callV (pc := 19) (rest := [.int (x.1 + x.2.2), .ref (q.1 129 0)]) g cv_Ro_kindAt (Or.inl kw_1008) (cl_Ro ⟨by decide, rfl⟩) (pz rfl (by decide)) (ct_Ro_kindAt ⟨by decide, rfl⟩ hc19) ⟨by decide, by decide⟩ rfl hl.1 (Nat.le_of_ble_eq_true rfl) d_St_setAll_19 rfl (?_)
    refine ww_st (st' := [.int v19, .int (x.1 + x.2.2), .ref (q.1 129 0)]) rfl ?_
    refine ww_aload_n (pc := 22) g.1 d_St_setAll_22 rfl (lv_at hl 0 rfl) ?_
    refine ww_gR (pc := 23) g (k := 0) cl_St (pz rfl (by decide)) (by decide) (Or.inl kw_863) (f := 16512) (t := 128) rfl rfl rfl d_St_setAll_23 ?_
    refine ww_gR (pc := 26) g (k := 4) cl_Ma (pz rfl (by decide)) (by decide) (Or.inl kw_1007) (f := 16388) (t := 135) rfl rfl rfl d_St_setAll_26 ?_
    refine ww_iload_n (pc := 29) g.1 d_St_setAll_29 rfl (lv_at hl 3 rfl) ?_
    obtain ⟨v30, s, hc30, h⟩ := oB_of h
    refine ww_callV (pc := 30) (rest := [.int v19, .int (x.1 + x.2.2), .ref (q.1 129 0)]) g cv_Ro_valueAt (Or.inl kw_1009) (cl_Ro ⟨by decide, rfl⟩) (pz rfl (by decide)) (ct_Ro_valueAt ⟨by decide, rfl⟩ hc30) ⟨by decide, by decide⟩ rfl hl.1 (Nat.le_of_ble_eq_true rfl) d_St_setAll_30 rfl (?_)
    refine ww_st (st' := [.long v30, .int v19, .int (x.1 + x.2.2), .ref (q.1 129 0)]) rfl ?_
    obtain ⟨v33, s, hc33, h⟩ := oB_of h
    refine ww_callV (pc := 33) (rest := []) g cv_St_set (Or.inl kw_928) cl_St (pz rfl (by decide)) (ct_St_set hc33) ⟨by decide, by decide⟩ rfl hl.1 (Nat.le_of_ble_eq_true rfl) d_St_setAll_33 rfl (?_)
    refine ww_st (st' := []) rfl ?_
    refine ww_iinc (pc := 36) g.1 (v := x.2.2 + 1) (lv' := [(3, .int (x.2.2 + 1)), (0, .ref (q.1 129 0)), (1, .int x.1), (2, .int x.2.1)]) d_St_setAll_36 hl (k := 3) rfl (by rfl) (by decide) rfl fun ls hl => ?_
    refine ww_goto (pc := 39) (tgt := 2) g.1 d_St_setAll_39 (by decide) ?_
    rw [oR_eq h] at hR
    exact hR ls (lv_sub hl [1, 2, 3, 0] rfl)

theorem ct_St_setAll {l : Launch} {P : PP} {q : PL} {s s' : S1} {l1 : Int32} {l2 : Int32} {r : Unit} (h : M_St_setAll l1 l2 s = some (r, s')) : Ct l y_St_setAll b_St_setAll 4 none 1 24 P q s [.ref (q.1 129 0), .int l1, .int l2] none q s' := by
  refine ct_of (by decide) (Nat.le_of_ble_eq_true rfl) fun X ls eP el g hR hl => ?_
  subst eP
  have hR : Rt X q ((r, s') : Unit × S1).2 none := hR
  have hl : lv_has ls 4 [(0, .ref (q.1 129 0)), (1, .int l1), (2, .int l2)] := hl
  generalize (r, s') = o at h hR
  unfold M_St_setAll at h
  refine ww_iconst (pc := 0) g.1 (v := 0) d_St_setAll_0 (by decide) ?_
  refine ww_istore_n (pc := 1) (i := 3) g.1 (lv' := [(3, .int 0), (0, .ref (q.1 129 0)), (1, .int l1), (2, .int l2)]) d_St_setAll_1 rfl hl (by decide) rfl fun ls hl => ?_
  obtain ⟨e2, s1, hw, h⟩ := oB_of h
  refine oW_rule (Wh := fun (x : Int32 × Int32 × Int32) (s : S1) => ∀ ls : Array Slot, lv_has ls 4 [(0, .ref (q.1 129 0)), (1, .int x.1), (2, .int x.2.1), (3, .int x.2.2)] → WW X q s 2 ls []) (We := fun (e : (Unit)) (s : S1) => ∀ ls : Array Slot, lv_has ls 4 [] → WW X q s 42 ls []) (fun x s o hb hc => lp_St_setAll_L2 (q := q) g x s o hb hc) hw ?_ ls (lv_sub hl [1, 2, 3, 0] rfl)
  clear hw hl
  clear ls
  intro ls hl
  generalize s1 = s at h ⊢
  exact ww_vretH (pc := 42) g h hR d_St_setAll_42

abbrev b_St_isText : ByteArray := prog_10_method_22_code
def y_St_isText : MethodName := ⟨R_St, "isText", "(I)Z"⟩
abbrev w_St_isText : List Cond := .code y_St_isText b_St_isText 1 (some .boolean) :: wA
theorem k_St_isText : Cond.code y_St_isText b_St_isText 1 (some .boolean) ∈ wA := kinm (show _ ∈ tables_1 from (List.mem_append_right _ (List.mem_append_right _ (List.mem_append_right _ (List.mem_append_right _ (List.mem_append_right _ (List.mem_append_right _ (List.mem_append_right _ (List.mem_append_right _ (List.mem_append_left _ (List.mem_of_getElem? (l := tables_1_9) (i := 11) (by decide +kernel)))))))))))) (by decide +kernel)
theorem d_St_isText_0 : decode b_St_isText 0 = .ok (.iload_n 0, 1) := by decide +kernel
theorem d_St_isText_1 : decode b_St_isText 1 = .ok (.iconst 4, 1) := by decide +kernel
theorem d_St_isText_2 : decode b_St_isText 2 = .ok (.if_icmp .eq 8, 3) := by decide +kernel
theorem d_St_isText_5 : decode b_St_isText 5 = .ok (.iload_n 0, 1) := by decide +kernel
theorem d_St_isText_6 : decode b_St_isText 6 = .ok (.iconst 3, 1) := by decide +kernel
theorem d_St_isText_7 : decode b_St_isText 7 = .ok (.if_icmp .ne 7, 3) := by decide +kernel
theorem d_St_isText_10 : decode b_St_isText 10 = .ok (.iconst 1, 1) := by decide +kernel
theorem d_St_isText_11 : decode b_St_isText 11 = .ok (.goto 4, 3) := by decide +kernel
theorem d_St_isText_14 : decode b_St_isText 14 = .ok (.iconst 0, 1) := by decide +kernel
theorem d_St_isText_15 : decode b_St_isText 15 = .ok (.ireturn, 1) := by decide +kernel
theorem kw_1012 : Cond.static y_St_isText ∈ wA := kinm (show _ ∈ tables_1 from (List.mem_append_right _ (List.mem_append_right _ (List.mem_append_right _ (List.mem_append_right _ (List.mem_append_right _ (List.mem_append_right _ (List.mem_append_right _ (List.mem_append_right _ (List.mem_append_left _ (List.mem_of_getElem? (l := tables_1_9) (i := 10) (by decide +kernel)))))))))))) (by decide +kernel)
theorem cs_St_isText : CS y_St_isText b_St_isText 1 (some .boolean) 1 := ⟨kw_1012, kw_883, k_St_isText, by decide +kernel⟩
theorem j_St_isText_j10 {X : Cx} {q : PL} (g : Gd X y_St_isText b_St_isText 1 (some .boolean) 0 0 R_St) {o : (Int32) × S1} (hR : Rt X q o.2 (some (.int o.1)))  (s : S1) (ls : Array Slot) (hl : lv_has ls 1 []) (h : M_St_isText_j10 s = some o) : WW X q s 10 ls [] := by
  unfold M_St_isText_j10 at h
  refine ww_iconst (pc := 10) g.1 (v := 1) d_St_isText_10 (by decide) ?_
  refine ww_goto (pc := 11) (tgt := 15) g.1 d_St_isText_11 (by decide) ?_
  exact ww_zretH (pc := 15) g h hR (Or.inr rfl) d_St_isText_15

theorem ct_St_isText {l : Launch} {P : PP} {q : PL} {s s' : S1} {l0 : Int32} {r : Int32} (h : M_St_isText l0 s = some (r, s')) : Ct l y_St_isText b_St_isText 1 (some .boolean) 0 0 P q s [.int l0] (some (.int r)) q s' := by
  refine ct_of (by decide) (Nat.le_of_ble_eq_true rfl) fun X ls eP el g hR hl => ?_
  subst eP
  have hR : Rt X q ((r, s') : Int32 × S1).2 (some (.int ((r, s') : Int32 × S1).1)) := hR
  have hl : lv_has ls 1 [(0, .int l0)] := hl
  generalize (r, s') = o at h hR
  unfold M_St_isText at h
  refine ww_iload_n (pc := 0) g.1 d_St_isText_0 rfl (lv_at hl 0 rfl) ?_
  refine ww_iconst (pc := 1) g.1 (v := 4) d_St_isText_1 (by decide) ?_
  refine ww_icmp_eq (pc := 2) (tgt := 10) g.1 d_St_isText_2 (by decide) h (fun c h => ?_) (fun c h => ?_)
  · exact j_St_isText_j10 g hR s ls (lv_sub hl [] rfl) h
  · refine ww_iload_n (pc := 5) g.1 d_St_isText_5 rfl (lv_at hl 0 rfl) ?_
    refine ww_iconst (pc := 6) g.1 (v := 3) d_St_isText_6 (by decide) ?_
    refine ww_icmp_ne (pc := 7) (tgt := 14) g.1 d_St_isText_7 (by decide) h (fun c h => ?_) (fun c h => ?_)
    · refine ww_iconst (pc := 14) g.1 (v := 0) d_St_isText_14 (by decide) ?_
      exact ww_zretH (pc := 15) g h hR (Or.inl rfl) d_St_isText_15
    · exact j_St_isText_j10 g hR s ls (lv_sub hl [] rfl) h

abbrev b_St_forgetJoined : ByteArray := prog_10_method_21_code
def y_St_forgetJoined : MethodName := ⟨R_St, "forgetJoined", "()V"⟩
abbrev w_St_forgetJoined : List Cond := .code y_St_forgetJoined b_St_forgetJoined 1 none :: wA
theorem k_St_forgetJoined : Cond.code y_St_forgetJoined b_St_forgetJoined 1 none ∈ wA := kinm (show _ ∈ tables_1 from (List.mem_append_right _ (List.mem_append_right _ (List.mem_append_right _ (List.mem_append_right _ (List.mem_append_right _ (List.mem_append_right _ (List.mem_append_right _ (List.mem_append_right _ (List.mem_append_left _ (List.mem_of_getElem? (l := tables_1_9) (i := 15) (by decide +kernel)))))))))))) (by decide +kernel)
theorem d_St_forgetJoined_0 : decode b_St_forgetJoined 0 = .ok (.aload_n 0, 1) := by decide +kernel
theorem d_St_forgetJoined_1 : decode b_St_forgetJoined 1 = .ok (.getfield 113, 3) := by decide +kernel
theorem d_St_forgetJoined_4 : decode b_St_forgetJoined 4 = .ok (.iconst 0, 1) := by decide +kernel
theorem d_St_forgetJoined_5 : decode b_St_forgetJoined 5 = .ok (.putfield 255, 3) := by decide +kernel
theorem d_St_forgetJoined_8 : decode b_St_forgetJoined 8 = .ok (.aload_n 0, 1) := by decide +kernel
theorem d_St_forgetJoined_9 : decode b_St_forgetJoined 9 = .ok (.getfield 113, 3) := by decide +kernel
theorem d_St_forgetJoined_12 : decode b_St_forgetJoined 12 = .ok (.lconst 0, 1) := by decide +kernel
theorem d_St_forgetJoined_13 : decode b_St_forgetJoined 13 = .ok (.putfield 258, 3) := by decide +kernel
theorem d_St_forgetJoined_16 : decode b_St_forgetJoined 16 = .ok (.return_, 1) := by decide +kernel
theorem kw_1013 : Cond.fieldLink R_St 255 "LuaMachine$Frame" "joinedKind" "I" ∈ wA := kinm (show _ ∈ tables_1 from (List.mem_append_right _ (List.mem_append_right _ (List.mem_append_right _ (List.mem_append_right _ (List.mem_append_right _ (List.mem_append_left _ (List.mem_of_getElem? (l := tables_1_6) (i := 111) (by decide +kernel))))))))) (by decide +kernel)
theorem kw_1014 : Cond.fieldLink R_St 258 "LuaMachine$Frame" "joinedValue" "J" ∈ wA := kinm (show _ ∈ tables_1 from (List.mem_append_right _ (List.mem_append_right _ (List.mem_append_right _ (List.mem_append_right _ (List.mem_append_right _ (List.mem_append_left _ (List.mem_of_getElem? (l := tables_1_6) (i := 114) (by decide +kernel))))))))) (by decide +kernel)
theorem kw_1015 : Cond.instanceMethod y_St_forgetJoined ∈ wA := kinm (show _ ∈ tables_1 from (List.mem_append_right _ (List.mem_append_right _ (List.mem_append_right _ (List.mem_append_right _ (List.mem_append_right _ (List.mem_append_right _ (List.mem_append_right _ (List.mem_append_right _ (List.mem_append_left _ (List.mem_of_getElem? (l := tables_1_9) (i := 14) (by decide +kernel)))))))))))) (by decide +kernel)
theorem kw_1016 : Cond.selects R_St y_St_forgetJoined y_St_forgetJoined ∈ wA := kinp 103 (by decide +kernel) (by decide +kernel)
theorem cv_St_forgetJoined : CV y_St_forgetJoined b_St_forgetJoined 1 none 0 := ⟨kw_1015, kw_1016, kw_883, k_St_forgetJoined, by decide +kernel⟩
theorem ct_St_forgetJoined {l : Launch} {P : PP} {q : PL} {s s' : S1}  {r : Unit} (h : M_St_forgetJoined s = some (r, s')) : Ct l y_St_forgetJoined b_St_forgetJoined 1 none 0 0 P q s [.ref (q.1 129 0)] none q s' := by
  refine ct_of (by decide) (Nat.le_of_ble_eq_true rfl) fun X ls eP el g hR hl => ?_
  subst eP
  have hR : Rt X q ((r, s') : Unit × S1).2 none := hR
  have hl : lv_has ls 1 [(0, .ref (q.1 129 0))] := hl
  generalize (r, s') = o at h hR
  unfold M_St_forgetJoined at h
  refine ww_aload_n (pc := 0) g.1 d_St_forgetJoined_0 rfl (lv_at hl 0 rfl) ?_
  refine ww_gV (pc := 1) g (k := 5) cl_St (pz rfl (by decide)) (by decide) (Or.inl kw_867) (f := 16517) (t := 152) rfl rfl rfl d_St_forgetJoined_1 h fun v1 h => ?_
  refine ww_pr h fun pn1 h => ?_
  refine ww_nnP pn1 ?_
  refine ww_iconst (pc := 4) g.1 (v := 0) d_St_forgetJoined_4 (by decide) ?_
  refine ww_pI (pc := 5) g (k := 6) cl_Fm pn1 (by decide) (Or.inl kw_1013) rfl (f := 19462) rfl rfl rfl rfl d_St_forgetJoined_5 h fun s hs h => ?_
  refine ww_aload_n (pc := 8) g.1 d_St_forgetJoined_8 rfl (lv_at hl 0 rfl) ?_
  refine ww_gV (pc := 9) g (k := 5) cl_St (pz rfl (by decide)) (by decide) (Or.inl kw_867) (f := 16517) (t := 152) rfl rfl rfl d_St_forgetJoined_9 h fun v9 h => ?_
  refine ww_pr h fun pn9 h => ?_
  refine ww_nnP pn9 ?_
  refine ww_lconst (pc := 12) g.1 (v := 0) d_St_forgetJoined_12 (by decide) ?_
  refine ww_pL (pc := 13) g (k := 7) cl_Fm pn9 (by decide) (Or.inl kw_1014) rfl (f := 19463) rfl rfl rfl rfl d_St_forgetJoined_13 h fun s hs h => ?_
  exact ww_vretH (pc := 16) g h hR d_St_forgetJoined_16

abbrev b_Ma_empty : ByteArray := prog_7_method_25_code
def y_Ma_empty : MethodName := ⟨R_Ma, "empty", "(LLuaMachine$Coroutine;)V"⟩
abbrev w_Ma_empty : List Cond := .code y_Ma_empty b_Ma_empty 2 none :: wA
theorem k_Ma_empty : Cond.code y_Ma_empty b_Ma_empty 2 none ∈ wA := kinm (show _ ∈ tables_1 from (List.mem_append_right _ (List.mem_append_right _ (List.mem_append_right _ (List.mem_append_right _ (List.mem_append_right _ (List.mem_append_right _ (List.mem_append_right _ (List.mem_append_right _ (List.mem_append_left _ (List.mem_of_getElem? (l := tables_1_9) (i := 43) (by decide +kernel)))))))))))) (by decide +kernel)
theorem d_Ma_empty_0 : decode b_Ma_empty 0 = .ok (.aload_n 0, 1) := by decide +kernel
theorem d_Ma_empty_1 : decode b_Ma_empty 1 = .ok (.getfield 31, 3) := by decide +kernel
theorem d_Ma_empty_4 : decode b_Ma_empty 4 = .ok (.aload_n 1, 1) := by decide +kernel
theorem d_Ma_empty_5 : decode b_Ma_empty 5 = .ok (.iconst 0, 1) := by decide +kernel
theorem d_Ma_empty_6 : decode b_Ma_empty 6 = .ok (.invokevirtual 325, 3) := by decide +kernel
theorem d_Ma_empty_9 : decode b_Ma_empty 9 = .ok (.aload_n 1, 1) := by decide +kernel
theorem d_Ma_empty_10 : decode b_Ma_empty 10 = .ok (.iconst 0, 1) := by decide +kernel
theorem d_Ma_empty_11 : decode b_Ma_empty 11 = .ok (.putfield 332, 3) := by decide +kernel
theorem d_Ma_empty_14 : decode b_Ma_empty 14 = .ok (.aload_n 1, 1) := by decide +kernel
theorem d_Ma_empty_15 : decode b_Ma_empty 15 = .ok (.iconst 0, 1) := by decide +kernel
theorem d_Ma_empty_16 : decode b_Ma_empty 16 = .ok (.putfield 377, 3) := by decide +kernel
theorem d_Ma_empty_19 : decode b_Ma_empty 19 = .ok (.return_, 1) := by decide +kernel
theorem kw_1017 : Cond.methodLink R_Ma 325 y_He_closeFrom ∈ wA := kinm (show _ ∈ tables_1 from (List.mem_append_right _ (List.mem_append_right _ (List.mem_append_right _ (List.mem_append_right _ (List.mem_append_right _ (List.mem_append_right _ (List.mem_append_left _ (List.mem_of_getElem? (l := tables_1_7) (i := 181) (by decide +kernel)))))))))) (by decide +kernel)
theorem kw_1018 : Cond.fieldLink R_Ma 332 "LuaMachine$Coroutine" "depth" "I" ∈ wA := kinm (show _ ∈ tables_1 from (List.mem_append_right _ (List.mem_append_right _ (List.mem_append_right _ (List.mem_append_right _ (List.mem_append_right _ (List.mem_append_left _ (List.mem_of_getElem? (l := tables_1_6) (i := 152) (by decide +kernel))))))))) (by decide +kernel)
theorem kw_1019 : Cond.fieldLink R_Ma 377 "LuaMachine$Coroutine" "used" "I" ∈ wA := kinm (show _ ∈ tables_1 from (List.mem_append_right _ (List.mem_append_right _ (List.mem_append_right _ (List.mem_append_right _ (List.mem_append_right _ (List.mem_append_left _ (List.mem_of_getElem? (l := tables_1_6) (i := 156) (by decide +kernel))))))))) (by decide +kernel)
theorem kw_1020 : Cond.instanceMethod y_Ma_empty ∈ wA := kinm (show _ ∈ tables_1 from (List.mem_append_right _ (List.mem_append_right _ (List.mem_append_right _ (List.mem_append_right _ (List.mem_append_right _ (List.mem_append_right _ (List.mem_append_right _ (List.mem_append_right _ (List.mem_append_left _ (List.mem_of_getElem? (l := tables_1_9) (i := 42) (by decide +kernel)))))))))))) (by decide +kernel)
theorem kw_1021 : Cond.selects R_Ma y_Ma_empty y_Ma_empty ∈ wA := kinp 107 (by decide +kernel) (by decide +kernel)
theorem cv_Ma_empty : CV y_Ma_empty b_Ma_empty 2 none 1 := ⟨kw_1020, kw_1021, kw_838, k_Ma_empty, by decide +kernel⟩
theorem ct_Ma_empty {l : Launch} {P : PP} {q : PL} {s s' : S1} {l1 : Int32} (hp0 : prs s 148 l1) {r : Unit} (h : M_Ma_empty l1 s = some (r, s')) : Ct l y_Ma_empty b_Ma_empty 2 none 1 25 P q s [.ref (q.1 128 0), .ref (q.1 148 l1)] none q s' := by
  refine ct_of (by decide) (Nat.le_of_ble_eq_true rfl) fun X ls eP el g hR hl => ?_
  subst eP
  have hR : Rt X q ((r, s') : Unit × S1).2 none := hR
  have hl : lv_has ls 2 [(0, .ref (q.1 128 0)), (1, .ref (q.1 148 l1))] := hl
  generalize (r, s') = o at h hR
  unfold M_Ma_empty at h
  refine ww_aload_n (pc := 0) g.1 d_Ma_empty_0 rfl (lv_at hl 0 rfl) ?_
  refine ww_gR (pc := 1) g (k := 1) cl_Ma (pz rfl (by decide)) (by decide) (Or.inl kw_938) (f := 16385) (t := 111) rfl rfl rfl d_Ma_empty_1 ?_
  refine ww_aload_n (pc := 4) g.1 d_Ma_empty_4 rfl (lv_at hl 1 rfl) ?_
  refine ww_iconst (pc := 5) g.1 (v := 0) d_Ma_empty_5 (by decide) ?_
  refine ww_lo fun dlo => ?_
  obtain ⟨v6, s, hc6, h⟩ := oB_of h
  refine ww_callV (pc := 6) (rest := []) g cv_He_closeFrom (Or.inl kw_1017) cl_He (pz rfl (by decide)) (ct_He_closeFrom hp0 hc6) ⟨by decide, by decide⟩ rfl hl.1 (Nat.le_of_ble_eq_true rfl) d_Ma_empty_6 rfl (?_)
  refine ww_st (st' := []) rfl ?_
  refine ww_hi fun dhi => ?_
  have hp0 : prs s 148 l1 := dhi _ _ hp0.2.1 hp0.2.2 (dlo _ _ hp0)
  refine ww_aload_n (pc := 9) g.1 d_Ma_empty_9 rfl (lv_at hl 1 rfl) ?_
  refine ww_iconst (pc := 10) g.1 (v := 0) d_Ma_empty_10 (by decide) ?_
  refine ww_pI (pc := 11) g (k := 4) cl_Co hp0 (by decide) (Or.inl kw_1018) rfl (f := 18948) rfl rfl rfl rfl d_Ma_empty_11 h fun s hs h => ?_
  have hp0 : prs s 148 l1 := prs_kI (r := 148) (k := 4) (by decide) hs hp0
  refine ww_aload_n (pc := 14) g.1 d_Ma_empty_14 rfl (lv_at hl 1 rfl) ?_
  refine ww_iconst (pc := 15) g.1 (v := 0) d_Ma_empty_15 (by decide) ?_
  refine ww_pI (pc := 16) g (k := 5) cl_Co hp0 (by decide) (Or.inl kw_1019) rfl (f := 18949) rfl rfl rfl rfl d_Ma_empty_16 h fun s hs h => ?_
  have hp0 : prs s 148 l1 := prs_kI (r := 148) (k := 5) (by decide) hs hp0
  exact ww_vretH (pc := 19) g h hR d_Ma_empty_19

abbrev b_Ma_endWithError : ByteArray := prog_7_method_26_code
def y_Ma_endWithError : MethodName := ⟨R_Ma, "endWithError", "()V"⟩
abbrev w_Ma_endWithError : List Cond := .code y_Ma_endWithError b_Ma_endWithError 1 none :: wA
theorem k_Ma_endWithError : Cond.code y_Ma_endWithError b_Ma_endWithError 1 none ∈ wA := kinm (show _ ∈ tables_1 from (List.mem_append_right _ (List.mem_append_right _ (List.mem_append_right _ (List.mem_append_right _ (List.mem_append_right _ (List.mem_append_right _ (List.mem_append_right _ (List.mem_append_right _ (List.mem_append_left _ (List.mem_of_getElem? (l := tables_1_9) (i := 47) (by decide +kernel)))))))))))) (by decide +kernel)
theorem d_Ma_endWithError_0 : decode b_Ma_endWithError 0 = .ok (.aload_n 0, 1) := by decide +kernel
theorem d_Ma_endWithError_1 : decode b_Ma_endWithError 1 = .ok (.getfield 172, 3) := by decide +kernel
theorem d_Ma_endWithError_4 : decode b_Ma_endWithError 4 = .ok (.iconst 3, 1) := by decide +kernel
theorem d_Ma_endWithError_5 : decode b_Ma_endWithError 5 = .ok (.putfield 183, 3) := by decide +kernel
theorem d_Ma_endWithError_8 : decode b_Ma_endWithError 8 = .ok (.aload_n 0, 1) := by decide +kernel
theorem d_Ma_endWithError_9 : decode b_Ma_endWithError 9 = .ok (.getfield 24, 3) := by decide +kernel
theorem d_Ma_endWithError_12 : decode b_Ma_endWithError 12 = .ok (.invokevirtual 51, 3) := by decide +kernel
theorem d_Ma_endWithError_15 : decode b_Ma_endWithError 15 = .ok (.aload_n 0, 1) := by decide +kernel
theorem d_Ma_endWithError_16 : decode b_Ma_endWithError 16 = .ok (.getfield 24, 3) := by decide +kernel
theorem d_Ma_endWithError_19 : decode b_Ma_endWithError 19 = .ok (.aload_n 0, 1) := by decide +kernel
theorem d_Ma_endWithError_20 : decode b_Ma_endWithError 20 = .ok (.getfield 204, 3) := by decide +kernel
theorem d_Ma_endWithError_23 : decode b_Ma_endWithError 23 = .ok (.aload_n 0, 1) := by decide +kernel
theorem d_Ma_endWithError_24 : decode b_Ma_endWithError 24 = .ok (.getfield 207, 3) := by decide +kernel
theorem d_Ma_endWithError_27 : decode b_Ma_endWithError 27 = .ok (.invokevirtual 210, 3) := by decide +kernel
theorem d_Ma_endWithError_30 : decode b_Ma_endWithError 30 = .ok (.aload_n 0, 1) := by decide +kernel
theorem d_Ma_endWithError_31 : decode b_Ma_endWithError 31 = .ok (.iconst 2, 1) := by decide +kernel
theorem d_Ma_endWithError_32 : decode b_Ma_endWithError 32 = .ok (.putfield 54, 3) := by decide +kernel
theorem d_Ma_endWithError_35 : decode b_Ma_endWithError 35 = .ok (.aload_n 0, 1) := by decide +kernel
theorem d_Ma_endWithError_36 : decode b_Ma_endWithError 36 = .ok (.iconst 0, 1) := by decide +kernel
theorem d_Ma_endWithError_37 : decode b_Ma_endWithError 37 = .ok (.putfield 61, 3) := by decide +kernel
theorem d_Ma_endWithError_40 : decode b_Ma_endWithError 40 = .ok (.return_, 1) := by decide +kernel
theorem kw_1022 : Cond.fieldLink R_Ma 24 "LuaMachine$Machine" "last" "LLuaMachine$Row;" ∈ wA := kinm (show _ ∈ tables_1 from (List.mem_append_right _ (List.mem_append_left _ (List.mem_of_getElem? (l := tables_1_2) (i := 69) (by decide +kernel))))) (by decide +kernel)
theorem kw_1023 : Cond.fieldLink R_Ma 54 "LuaMachine$Machine" "ended" "I" ∈ wA := kinm (show _ ∈ tables_1 from (List.mem_append_right _ (List.mem_append_left _ (List.mem_of_getElem? (l := tables_1_2) (i := 72) (by decide +kernel))))) (by decide +kernel)
theorem kw_1024 : Cond.instanceMethod y_Ma_endWithError ∈ wA := kinm (show _ ∈ tables_1 from (List.mem_append_right _ (List.mem_append_right _ (List.mem_append_right _ (List.mem_append_right _ (List.mem_append_right _ (List.mem_append_right _ (List.mem_append_right _ (List.mem_append_right _ (List.mem_append_left _ (List.mem_of_getElem? (l := tables_1_9) (i := 46) (by decide +kernel)))))))))))) (by decide +kernel)
theorem kw_1025 : Cond.selects R_Ma y_Ma_endWithError y_Ma_endWithError ∈ wA := kinp 108 (by decide +kernel) (by decide +kernel)
theorem cv_Ma_endWithError : CV y_Ma_endWithError b_Ma_endWithError 1 none 0 := ⟨kw_1024, kw_1025, kw_838, k_Ma_endWithError, by decide +kernel⟩
theorem ct_Ma_endWithError {l : Launch} {P : PP} {q : PL} {s s' : S1}  {r : Unit} (h : M_Ma_endWithError s = some (r, s')) : Ct l y_Ma_endWithError b_Ma_endWithError 1 none 1 23 P q s [.ref (q.1 128 0)] none q s' := by
  refine ct_of (by decide) (Nat.le_of_ble_eq_true rfl) fun X ls eP el g hR hl => ?_
  subst eP
  have hR : Rt X q ((r, s') : Unit × S1).2 none := hR
  have hl : lv_has ls 1 [(0, .ref (q.1 128 0))] := hl
  generalize (r, s') = o at h hR
  unfold M_Ma_endWithError at h
  refine ww_aload_n (pc := 0) g.1 d_Ma_endWithError_0 rfl (lv_at hl 0 rfl) ?_
  refine ww_gV (pc := 1) g (k := 11) cl_Ma (pz rfl (by decide)) (by decide) (Or.inl kw_988) (f := 16395) (t := 148) rfl rfl rfl d_Ma_endWithError_1 h fun v1 h => ?_
  refine ww_pr h fun pn1 h => ?_
  refine ww_nnP pn1 ?_
  refine ww_iconst (pc := 4) g.1 (v := 3) d_Ma_endWithError_4 (by decide) ?_
  refine ww_pI (pc := 5) g (k := 7) cl_Co pn1 (by decide) (Or.inl kw_833) rfl (f := 18951) rfl rfl rfl rfl d_Ma_endWithError_5 h fun s hs h => ?_
  refine ww_aload_n (pc := 8) g.1 d_Ma_endWithError_8 rfl (lv_at hl 0 rfl) ?_
  refine ww_gR (pc := 9) g (k := 7) cl_Ma (pz rfl (by decide)) (by decide) (Or.inl kw_1022) (f := 16391) (t := 141) rfl rfl rfl d_Ma_endWithError_9 ?_
  obtain ⟨v12, s, hc12, h⟩ := oB_of h
  refine ww_callV (pc := 12) (rest := []) g cv_Ro_clear (Or.inl kw_1003) (cl_Ro ⟨by decide, rfl⟩) (pz rfl (by decide)) (ct_Ro_clear ⟨by decide, rfl⟩ hc12) ⟨by decide, by decide⟩ rfl hl.1 (Nat.le_of_ble_eq_true rfl) d_Ma_endWithError_12 rfl (?_)
  refine ww_st (st' := []) rfl ?_
  refine ww_aload_n (pc := 15) g.1 d_Ma_endWithError_15 rfl (lv_at hl 0 rfl) ?_
  refine ww_gR (pc := 16) g (k := 7) cl_Ma (pz rfl (by decide)) (by decide) (Or.inl kw_1022) (f := 16391) (t := 141) rfl rfl rfl d_Ma_endWithError_16 ?_
  refine ww_aload_n (pc := 19) g.1 d_Ma_endWithError_19 rfl (lv_at hl 0 rfl) ?_
  refine ww_gI (pc := 20) g (k := 15) cl_Ma (pz rfl (by decide)) (by decide) (Or.inl kw_848) (f := 16399) rfl rfl d_Ma_endWithError_20 h fun v20 h => ?_
  refine ww_aload_n (pc := 23) g.1 d_Ma_endWithError_23 rfl (lv_at hl 0 rfl) ?_
  refine ww_gL (pc := 24) g (k := 16) cl_Ma (pz rfl (by decide)) (by decide) (Or.inl kw_849) (f := 16400) rfl rfl d_Ma_endWithError_24 h fun v24 h => ?_
  obtain ⟨v27, s, hc27, h⟩ := oB_of h
  refine ww_callV (pc := 27) (rest := []) g cv_Ro_add (Or.inl kw_1004) (cl_Ro ⟨by decide, rfl⟩) (pz rfl (by decide)) (ct_Ro_add ⟨by decide, rfl⟩ hc27) ⟨by decide, by decide⟩ rfl hl.1 (Nat.le_of_ble_eq_true rfl) d_Ma_endWithError_27 rfl (?_)
  refine ww_st (st' := []) rfl ?_
  refine ww_aload_n (pc := 30) g.1 d_Ma_endWithError_30 rfl (lv_at hl 0 rfl) ?_
  refine ww_iconst (pc := 31) g.1 (v := 2) d_Ma_endWithError_31 (by decide) ?_
  refine ww_pI (pc := 32) g (k := 8) cl_Ma (pz rfl (by decide)) (by decide) (Or.inl kw_1023) rfl (f := 16392) rfl rfl rfl rfl d_Ma_endWithError_32 h fun s hs h => ?_
  refine ww_aload_n (pc := 35) g.1 d_Ma_endWithError_35 rfl (lv_at hl 0 rfl) ?_
  refine ww_iconst (pc := 36) g.1 (v := 0) d_Ma_endWithError_36 (by decide) ?_
  refine ww_pI (pc := 37) g (k := 12) cl_Ma (pz rfl (by decide)) (by decide) (Or.inl kw_851) rfl (f := 16396) rfl rfl rfl rfl d_Ma_endWithError_37 h fun s hs h => ?_
  exact ww_vretH (pc := 40) g h hR d_Ma_endWithError_40

abbrev b_Ma_giveError : ByteArray := prog_7_method_24_code
def y_Ma_giveError : MethodName := ⟨R_Ma, "giveError", "()V"⟩
abbrev w_Ma_giveError : List Cond := .code y_Ma_giveError b_Ma_giveError 1 none :: wA
theorem k_Ma_giveError : Cond.code y_Ma_giveError b_Ma_giveError 1 none ∈ wA := kinm (show _ ∈ tables_1 from (List.mem_append_right _ (List.mem_append_right _ (List.mem_append_right _ (List.mem_append_right _ (List.mem_append_right _ (List.mem_append_right _ (List.mem_append_right _ (List.mem_append_right _ (List.mem_append_left _ (List.mem_of_getElem? (l := tables_1_9) (i := 51) (by decide +kernel)))))))))))) (by decide +kernel)
theorem d_Ma_giveError_0 : decode b_Ma_giveError 0 = .ok (.aload_n 0, 1) := by decide +kernel
theorem d_Ma_giveError_1 : decode b_Ma_giveError 1 = .ok (.iconst 1, 1) := by decide +kernel
theorem d_Ma_giveError_2 : decode b_Ma_giveError 2 = .ok (.lconst 0, 1) := by decide +kernel
theorem d_Ma_giveError_3 : decode b_Ma_giveError 3 = .ok (.invokevirtual 352, 3) := by decide +kernel
theorem d_Ma_giveError_6 : decode b_Ma_giveError 6 = .ok (.aload_n 0, 1) := by decide +kernel
theorem d_Ma_giveError_7 : decode b_Ma_giveError 7 = .ok (.getfield 18, 3) := by decide +kernel
theorem d_Ma_giveError_10 : decode b_Ma_giveError 10 = .ok (.aload_n 0, 1) := by decide +kernel
theorem d_Ma_giveError_11 : decode b_Ma_giveError 11 = .ok (.getfield 204, 3) := by decide +kernel
theorem d_Ma_giveError_14 : decode b_Ma_giveError 14 = .ok (.aload_n 0, 1) := by decide +kernel
theorem d_Ma_giveError_15 : decode b_Ma_giveError 15 = .ok (.getfield 207, 3) := by decide +kernel
theorem d_Ma_giveError_18 : decode b_Ma_giveError 18 = .ok (.invokevirtual 210, 3) := by decide +kernel
theorem d_Ma_giveError_21 : decode b_Ma_giveError 21 = .ok (.return_, 1) := by decide +kernel
theorem kw_1026 : Cond.methodLink R_Ma 352 y_Ma_give ∈ wA := kinm (show _ ∈ tables_1 from (List.mem_append_right _ (List.mem_append_right _ (List.mem_append_right _ (List.mem_append_right _ (List.mem_append_right _ (List.mem_append_right _ (List.mem_append_right _ (List.mem_append_left _ (List.mem_of_getElem? (l := tables_1_8) (i := 230) (by decide +kernel))))))))))) (by decide +kernel)
theorem kw_1027 : Cond.instanceMethod y_Ma_giveError ∈ wA := kinm (show _ ∈ tables_1 from (List.mem_append_right _ (List.mem_append_right _ (List.mem_append_right _ (List.mem_append_right _ (List.mem_append_right _ (List.mem_append_right _ (List.mem_append_right _ (List.mem_append_right _ (List.mem_append_left _ (List.mem_of_getElem? (l := tables_1_9) (i := 50) (by decide +kernel)))))))))))) (by decide +kernel)
theorem kw_1028 : Cond.selects R_Ma y_Ma_giveError y_Ma_giveError ∈ wA := kinp 109 (by decide +kernel) (by decide +kernel)
theorem cv_Ma_giveError : CV y_Ma_giveError b_Ma_giveError 1 none 0 := ⟨kw_1027, kw_1028, kw_838, k_Ma_giveError, by decide +kernel⟩
theorem ct_Ma_giveError {l : Launch} {P : PP} {q : PL} {s s' : S1}  {r : Unit} (h : M_Ma_giveError s = some (r, s')) : Ct l y_Ma_giveError b_Ma_giveError 1 none 2 46 P q s [.ref (q.1 128 0)] none q s' := by
  refine ct_of (by decide) (Nat.le_of_ble_eq_true rfl) fun X ls eP el g hR hl => ?_
  subst eP
  have hR : Rt X q ((r, s') : Unit × S1).2 none := hR
  have hl : lv_has ls 1 [(0, .ref (q.1 128 0))] := hl
  generalize (r, s') = o at h hR
  unfold M_Ma_giveError at h
  refine ww_aload_n (pc := 0) g.1 d_Ma_giveError_0 rfl (lv_at hl 0 rfl) ?_
  refine ww_iconst (pc := 1) g.1 (v := 1) d_Ma_giveError_1 (by decide) ?_
  refine ww_lconst (pc := 2) g.1 (v := 0) d_Ma_giveError_2 (by decide) ?_
  obtain ⟨v3, s, hc3, h⟩ := oB_of h
  refine ww_callV (pc := 3) (rest := []) g cv_Ma_give (Or.inl kw_1026) cl_Ma (pz rfl (by decide)) (ct_Ma_give hc3) ⟨by decide, by decide⟩ rfl hl.1 (Nat.le_of_ble_eq_true rfl) d_Ma_giveError_3 rfl (?_)
  refine ww_st (st' := []) rfl ?_
  refine ww_aload_n (pc := 6) g.1 d_Ma_giveError_6 rfl (lv_at hl 0 rfl) ?_
  refine ww_gR (pc := 7) g (k := 4) cl_Ma (pz rfl (by decide)) (by decide) (Or.inl kw_1002) (f := 16388) (t := 135) rfl rfl rfl d_Ma_giveError_7 ?_
  refine ww_aload_n (pc := 10) g.1 d_Ma_giveError_10 rfl (lv_at hl 0 rfl) ?_
  refine ww_gI (pc := 11) g (k := 15) cl_Ma (pz rfl (by decide)) (by decide) (Or.inl kw_848) (f := 16399) rfl rfl d_Ma_giveError_11 h fun v11 h => ?_
  refine ww_aload_n (pc := 14) g.1 d_Ma_giveError_14 rfl (lv_at hl 0 rfl) ?_
  refine ww_gL (pc := 15) g (k := 16) cl_Ma (pz rfl (by decide)) (by decide) (Or.inl kw_849) (f := 16400) rfl rfl d_Ma_giveError_15 h fun v15 h => ?_
  obtain ⟨v18, s, hc18, h⟩ := oB_of h
  refine ww_callV (pc := 18) (rest := []) g cv_Ro_add (Or.inl kw_1004) (cl_Ro ⟨by decide, rfl⟩) (pz rfl (by decide)) (ct_Ro_add ⟨by decide, rfl⟩ hc18) ⟨by decide, by decide⟩ rfl hl.1 (Nat.le_of_ble_eq_true rfl) d_Ma_giveError_18 rfl (?_)
  refine ww_st (st' := []) rfl ?_
  exact ww_vretH (pc := 21) g h hR d_Ma_giveError_21

abbrev b_LM_hasNoResult : ByteArray := prog_1_method_13_code
def y_LM_hasNoResult : MethodName := ⟨R_LM, "hasNoResult", "(I)Z"⟩
abbrev w_LM_hasNoResult : List Cond := .code y_LM_hasNoResult b_LM_hasNoResult 2 (some .boolean) :: wA
theorem k_LM_hasNoResult : Cond.code y_LM_hasNoResult b_LM_hasNoResult 2 (some .boolean) ∈ wA := kinm (show _ ∈ tables_1 from (List.mem_append_right _ (List.mem_append_right _ (List.mem_append_right _ (List.mem_append_right _ (List.mem_append_right _ (List.mem_append_right _ (List.mem_append_right _ (List.mem_append_right _ (List.mem_append_left _ (List.mem_of_getElem? (l := tables_1_9) (i := 71) (by decide +kernel)))))))))))) (by decide +kernel)
theorem d_LM_hasNoResult_0 : decode b_LM_hasNoResult 0 = .ok (.aload_n 0, 1) := by decide +kernel
theorem d_LM_hasNoResult_1 : decode b_LM_hasNoResult 1 = .ok (.getfield 77, 3) := by decide +kernel
theorem d_LM_hasNoResult_4 : decode b_LM_hasNoResult 4 = .ok (.ifCond .eq 21, 3) := by decide +kernel
theorem d_LM_hasNoResult_7 : decode b_LM_hasNoResult 7 = .ok (.iload_n 1, 1) := by decide +kernel
theorem d_LM_hasNoResult_8 : decode b_LM_hasNoResult 8 = .ok (.ifCond .lt 17, 3) := by decide +kernel
theorem d_LM_hasNoResult_11 : decode b_LM_hasNoResult 11 = .ok (.iload_n 1, 1) := by decide +kernel
theorem d_LM_hasNoResult_12 : decode b_LM_hasNoResult 12 = .ok (.aload_n 0, 1) := by decide +kernel
theorem d_LM_hasNoResult_13 : decode b_LM_hasNoResult 13 = .ok (.getfield 33, 3) := by decide +kernel
theorem d_LM_hasNoResult_16 : decode b_LM_hasNoResult 16 = .ok (.getfield 152, 3) := by decide +kernel
theorem d_LM_hasNoResult_19 : decode b_LM_hasNoResult 19 = .ok (.getfield 178, 3) := by decide +kernel
theorem d_LM_hasNoResult_22 : decode b_LM_hasNoResult 22 = .ok (.if_icmp .lt 7, 3) := by decide +kernel
theorem d_LM_hasNoResult_25 : decode b_LM_hasNoResult 25 = .ok (.iconst 1, 1) := by decide +kernel
theorem d_LM_hasNoResult_26 : decode b_LM_hasNoResult 26 = .ok (.goto 4, 3) := by decide +kernel
theorem d_LM_hasNoResult_29 : decode b_LM_hasNoResult 29 = .ok (.iconst 0, 1) := by decide +kernel
theorem d_LM_hasNoResult_30 : decode b_LM_hasNoResult 30 = .ok (.ireturn, 1) := by decide +kernel
theorem kw_1029 : Cond.instanceMethod y_LM_hasNoResult ∈ wA := kinm (show _ ∈ tables_1 from (List.mem_append_right _ (List.mem_append_right _ (List.mem_append_right _ (List.mem_append_right _ (List.mem_append_right _ (List.mem_append_right _ (List.mem_append_right _ (List.mem_append_right _ (List.mem_append_left _ (List.mem_of_getElem? (l := tables_1_9) (i := 70) (by decide +kernel)))))))))))) (by decide +kernel)
theorem kw_1030 : Cond.selects R_LM y_LM_hasNoResult y_LM_hasNoResult ∈ wA := kinp 110 (by decide +kernel) (by decide +kernel)
theorem cv_LM_hasNoResult : CV y_LM_hasNoResult b_LM_hasNoResult 2 (some .boolean) 1 := ⟨kw_1029, kw_1030, kw_647, k_LM_hasNoResult, by decide +kernel⟩
theorem j_LM_hasNoResult_j25 {X : Cx} {q : PL} (g : Gd X y_LM_hasNoResult b_LM_hasNoResult 2 (some .boolean) 0 0 R_LM) {o : (Int32) × S1} (hR : Rt X q o.2 (some (.int o.1)))  (s : S1) (ls : Array Slot) (hl : lv_has ls 2 []) (h : M_LM_hasNoResult_j25 s = some o) : WW X q s 25 ls [] := by
  unfold M_LM_hasNoResult_j25 at h
  refine ww_iconst (pc := 25) g.1 (v := 1) d_LM_hasNoResult_25 (by decide) ?_
  refine ww_goto (pc := 26) (tgt := 30) g.1 d_LM_hasNoResult_26 (by decide) ?_
  exact ww_zretH (pc := 30) g h hR (Or.inr rfl) d_LM_hasNoResult_30

theorem ct_LM_hasNoResult {l : Launch} {P : PP} {q : PL} {s s' : S1} {l1 : Int32} {r : Int32} (h : M_LM_hasNoResult l1 s = some (r, s')) : Ct l y_LM_hasNoResult b_LM_hasNoResult 2 (some .boolean) 0 0 P q s [.ref (q.1 100 0), .int l1] (some (.int r)) q s' := by
  refine ct_of (by decide) (Nat.le_of_ble_eq_true rfl) fun X ls eP el g hR hl => ?_
  subst eP
  have hR : Rt X q ((r, s') : Int32 × S1).2 (some (.int ((r, s') : Int32 × S1).1)) := hR
  have hl : lv_has ls 2 [(0, .ref (q.1 100 0)), (1, .int l1)] := hl
  generalize (r, s') = o at h hR
  unfold M_LM_hasNoResult at h
  refine ww_aload_n (pc := 0) g.1 d_LM_hasNoResult_0 rfl (lv_at hl 0 rfl) ?_
  refine ww_gI (pc := 1) g (k := 1) cl_LM (pz rfl (by decide)) (by decide) (Or.inl kw_632) (f := 12801) rfl rfl d_LM_hasNoResult_1 h fun v1 h => ?_
  refine ww_if_eq (pc := 4) (tgt := 25) g.1 d_LM_hasNoResult_4 (by decide) h (fun c h => ?_) (fun c h => ?_)
  · exact j_LM_hasNoResult_j25 g hR s ls (lv_sub hl [] rfl) h
  · refine ww_iload_n (pc := 7) g.1 d_LM_hasNoResult_7 rfl (lv_at hl 1 rfl) ?_
    refine ww_if_lt (pc := 8) (tgt := 25) g.1 d_LM_hasNoResult_8 (by decide) h (fun c h => ?_) (fun c h => ?_)
    · exact j_LM_hasNoResult_j25 g hR s ls (lv_sub hl [] rfl) h
    · refine ww_iload_n (pc := 11) g.1 d_LM_hasNoResult_11 rfl (lv_at hl 1 rfl) ?_
      refine ww_aload_n (pc := 12) g.1 d_LM_hasNoResult_12 rfl (lv_at hl 0 rfl) ?_
      refine ww_gR (pc := 13) g (k := 4) cl_LM (pz rfl (by decide)) (by decide) (Or.inl kw_635) (f := 12804) (t := 128) rfl rfl rfl d_LM_hasNoResult_13 ?_
      refine ww_gR (pc := 16) g (k := 7) cl_Ma (pz rfl (by decide)) (by decide) (Or.inl kw_640) (f := 16391) (t := 141) rfl rfl rfl d_LM_hasNoResult_16 ?_
      refine ww_gI (pc := 19) g (k := 2) (cl_Ro ⟨by decide, rfl⟩) (pz rfl (by decide)) (by decide) (Or.inl kw_641) (f := 18050) rfl rfl d_LM_hasNoResult_19 h fun v19 h => ?_
      refine ww_icmp_lt (pc := 22) (tgt := 29) g.1 d_LM_hasNoResult_22 (by decide) h (fun c h => ?_) (fun c h => ?_)
      · refine ww_iconst (pc := 29) g.1 (v := 0) d_LM_hasNoResult_29 (by decide) ?_
        exact ww_zretH (pc := 30) g h hR (Or.inl rfl) d_LM_hasNoResult_30
      · exact j_LM_hasNoResult_j25 g hR s ls (lv_sub hl [] rfl) h


