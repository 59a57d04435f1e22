abbrev b_LM_load : ByteArray := prog_1_method_5_code
def y_LM_load : MethodName := ⟨R_LM, "load", "()I"⟩
abbrev w_LM_load : List Cond := .code y_LM_load b_LM_load 2 (some .int) :: wA
theorem k_LM_load : Cond.code y_LM_load b_LM_load 2 (some .int) ∈ wA := kinm (show _ ∈ tables_1 from (List.mem_append_right _ (List.mem_append_right _ (List.mem_append_left _ (List.mem_of_getElem? (l := tables_1_3) (i := 105) (by decide +kernel)))))) (by decide +kernel)
theorem d_LM_load_0 : decode b_LM_load 0 = .ok (.aload_n 0, 1) := by decide +kernel
theorem d_LM_load_1 : decode b_LM_load 1 = .ok (.getfield 58, 3) := by decide +kernel
theorem d_LM_load_4 : decode b_LM_load 4 = .ok (.istore_n 1, 1) := by decide +kernel
theorem d_LM_load_5 : decode b_LM_load 5 = .ok (.aload_n 0, 1) := by decide +kernel
theorem d_LM_load_6 : decode b_LM_load 6 = .ok (.iconst 0, 1) := by decide +kernel
theorem d_LM_load_7 : decode b_LM_load 7 = .ok (.putfield 58, 3) := by decide +kernel
theorem d_LM_load_10 : decode b_LM_load 10 = .ok (.aload_n 0, 1) := by decide +kernel
theorem d_LM_load_11 : decode b_LM_load 11 = .ok (.iconst 0, 1) := by decide +kernel
theorem d_LM_load_12 : decode b_LM_load 12 = .ok (.putfield 77, 3) := by decide +kernel
theorem d_LM_load_15 : decode b_LM_load 15 = .ok (.aload_n 0, 1) := by decide +kernel
theorem d_LM_load_16 : decode b_LM_load 16 = .ok (.getfield 10, 3) := by decide +kernel
theorem d_LM_load_19 : decode b_LM_load 19 = .ok (.iload_n 1, 1) := by decide +kernel
theorem d_LM_load_20 : decode b_LM_load 20 = .ok (.invokevirtual 81, 3) := by decide +kernel
theorem d_LM_load_23 : decode b_LM_load 23 = .ok (.ifCond .eq 13, 3) := by decide +kernel
theorem d_LM_load_26 : decode b_LM_load 26 = .ok (.aload_n 0, 1) := by decide +kernel
theorem d_LM_load_27 : decode b_LM_load 27 = .ok (.getfield 10, 3) := by decide +kernel
theorem d_LM_load_30 : decode b_LM_load 30 = .ok (.invokevirtual 85, 3) := by decide +kernel
theorem d_LM_load_33 : decode b_LM_load 33 = .ok (.ifCond .ne 11, 3) := by decide +kernel
theorem d_LM_load_36 : decode b_LM_load 36 = .ok (.new 89, 3) := by decide +kernel
theorem d_LM_load_39 : decode b_LM_load 39 = .ok (.dup, 1) := by decide +kernel
theorem d_LM_load_40 : decode b_LM_load 40 = .ok (.invokespecial 91, 3) := by decide +kernel
theorem d_LM_load_43 : decode b_LM_load 43 = .ok (.athrow, 1) := by decide +kernel
theorem d_LM_load_44 : decode b_LM_load 44 = .ok (.aload_n 0, 1) := by decide +kernel
theorem d_LM_load_45 : decode b_LM_load 45 = .ok (.getfield 54, 3) := by decide +kernel
theorem d_LM_load_48 : decode b_LM_load 48 = .ok (.iconst 0, 1) := by decide +kernel
theorem d_LM_load_49 : decode b_LM_load 49 = .ok (.putfield 92, 3) := by decide +kernel
theorem d_LM_load_52 : decode b_LM_load 52 = .ok (.aload_n 0, 1) := by decide +kernel
theorem d_LM_load_53 : decode b_LM_load 53 = .ok (.getfield 33, 3) := by decide +kernel
theorem d_LM_load_56 : decode b_LM_load 56 = .ok (.invokevirtual 95, 3) := by decide +kernel
theorem d_LM_load_59 : decode b_LM_load 59 = .ok (.ifCond .ne 11, 3) := by decide +kernel
theorem d_LM_load_62 : decode b_LM_load 62 = .ok (.new 63, 3) := by decide +kernel
theorem d_LM_load_65 : decode b_LM_load 65 = .ok (.dup, 1) := by decide +kernel
theorem d_LM_load_66 : decode b_LM_load 66 = .ok (.invokespecial 65, 3) := by decide +kernel
theorem d_LM_load_69 : decode b_LM_load 69 = .ok (.athrow, 1) := by decide +kernel
theorem d_LM_load_70 : decode b_LM_load 70 = .ok (.aload_n 0, 1) := by decide +kernel
theorem d_LM_load_71 : decode b_LM_load 71 = .ok (.iconst 1, 1) := by decide +kernel
theorem d_LM_load_72 : decode b_LM_load 72 = .ok (.putfield 77, 3) := by decide +kernel
theorem d_LM_load_75 : decode b_LM_load 75 = .ok (.aload_n 0, 1) := by decide +kernel
theorem d_LM_load_76 : decode b_LM_load 76 = .ok (.getfield 10, 3) := by decide +kernel
theorem d_LM_load_79 : decode b_LM_load 79 = .ok (.getfield 98, 3) := by decide +kernel
theorem d_LM_load_82 : decode b_LM_load 82 = .ok (.ireturn, 1) := by decide +kernel
theorem kw_1606 : Cond.methodLink R_LM 81 y_Ch_readAll ∈ wA := kinm (show _ ∈ tables_1 from (List.mem_append_right _ (List.mem_append_right _ (List.mem_append_left _ (List.mem_of_getElem? (l := tables_1_3) (i := 106) (by decide +kernel)))))) (by decide +kernel)
theorem kw_1607 : Cond.methodLink R_LM 85 y_Ch_checkAll ∈ wA := kinm (show _ ∈ tables_1 from (List.mem_append_right _ (List.mem_append_right _ (List.mem_append_left _ (List.mem_of_getElem? (l := tables_1_3) (i := 209) (by decide +kernel)))))) (by decide +kernel)
theorem kw_1608 : Cond.methodLink R_LM 95 y_Ma_boot ∈ wA := kinm (show _ ∈ tables_1 from (List.mem_append_right _ (List.mem_append_right _ (List.mem_append_right _ (List.mem_append_left _ (List.mem_of_getElem? (l := tables_1_4) (i := 70) (by decide +kernel))))))) (by decide +kernel)
theorem kw_1609 : Cond.fieldLink R_LM 98 "LuaMachine$Chunk" "prototypeCount" "I" ∈ wA := kinm (show _ ∈ tables_1 from (List.mem_append_left _ (List.mem_of_getElem? (l := tables_1_1) (i := 74) (by decide +kernel)))) (by decide +kernel)
theorem kw_1610 : Cond.instanceMethod y_LM_load ∈ wA := kinm (show _ ∈ tables_1 from (List.mem_append_right _ (List.mem_append_right _ (List.mem_append_left _ (List.mem_of_getElem? (l := tables_1_3) (i := 103) (by decide +kernel)))))) (by decide +kernel)
theorem kw_1611 : Cond.selects R_LM y_LM_load y_LM_load ∈ wA := kinm (show _ ∈ tables_1 from (List.mem_append_right _ (List.mem_append_right _ (List.mem_append_left _ (List.mem_of_getElem? (l := tables_1_3) (i := 104) (by decide +kernel)))))) (by decide +kernel)
theorem cv_LM_load : CV y_LM_load b_LM_load 2 (some .int) 0 := ⟨kw_1610, kw_1611, kw_647, k_LM_load, by decide +kernel⟩
theorem ct_LM_load {l : Launch} {P : PP} {q : PL} {s s' : S1} {n0 n1 : Nat × Nat}  {r : Int32} (hm : Rmq P q n0) (h : M_LM_load n0 s = some ((r, n1), s')) : CtX l y_LM_load b_LM_load 2 (some .int) 8 221 P [118, 146, 147, 149, 150, 151, 153, 154] q s [.ref (q.1 100 0)] (fun _ => some (.int r)) n1 s' := by
  refine ctX_of (by decide) (Nat.le_of_ble_eq_true rfl) fun X ls eP el g hR hl => ?_
  subst eP
  obtain ⟨q0, hq0⟩ : ∃ q0 : PL, q0 = q := ⟨q, rfl⟩
  have hx0 : Exq (xP X) [118, 146, 147, 149, 150, 151, 153, 154] q0 q := hq0 ▸ Exq.rf
  rw [← hq0] at hR
  have hR : RtX X [118, 146, 147, 149, 150, 151, 153, 154] q0 (((r, n1), s') : (Int32 × (Nat × Nat)) × S1).1.2 (((r, n1), s') : (Int32 × (Nat × Nat)) × S1).2 (fun _ => some (.int (((r, n1), s') : (Int32 × (Nat × Nat)) × S1).1.1)) := hR
  have hl : lv_has ls 2 [(0, .ref (q.1 100 0))] := hl
  generalize ((r, n1), s') = o at h hR
  unfold M_LM_load at h
  refine ww_aload_n (pc := 0) g.1 d_LM_load_0 rfl (lv_at hl 0 rfl) ?_
  refine ww_gI (pc := 1) g (k := 0) cl_LM (pz rfl (by decide)) (by decide) (Or.inl kw_644) (f := 12800) rfl rfl d_LM_load_1 h fun v1 h => ?_
  refine ww_istore_n (pc := 4) (i := 1) g.1 (lv' := [(1, .int v1), (0, .ref (q.1 100 0))]) d_LM_load_4 rfl hl (by decide) rfl fun ls hl => ?_
  refine ww_aload_n (pc := 5) g.1 d_LM_load_5 rfl (lv_at hl 1 rfl) ?_
  refine ww_iconst (pc := 6) g.1 (v := 0) d_LM_load_6 (by decide) ?_
  refine ww_pI (pc := 7) g (k := 0) cl_LM (pz rfl (by decide)) (by decide) (Or.inl kw_644) rfl (f := 12800) rfl rfl rfl rfl d_LM_load_7 h fun s hs h => ?_
  refine ww_aload_n (pc := 10) g.1 d_LM_load_10 rfl (lv_at hl 1 rfl) ?_
  refine ww_iconst (pc := 11) g.1 (v := 0) d_LM_load_11 (by decide) ?_
  refine ww_pI (pc := 12) g (k := 1) cl_LM (pz rfl (by decide)) (by decide) (Or.inl kw_632) rfl (f := 12801) rfl rfl rfl rfl d_LM_load_12 h fun s hs h => ?_
  refine ww_aload_n (pc := 15) g.1 d_LM_load_15 rfl (lv_at hl 1 rfl) ?_
  refine ww_gR (pc := 16) g (k := 2) cl_LM (pz rfl (by decide)) (by decide) (Or.inl kw_648) (f := 12802) (t := 101) rfl rfl rfl d_LM_load_16 ?_
  refine ww_iload_n (pc := 19) g.1 d_LM_load_19 rfl (lv_at hl 0 rfl) ?_
  refine ww_lo fun dlo => ?_
  obtain ⟨v20, s, hc20, h⟩ := oB_of h
  refine ww_callVX (pc := 20) (rest := []) g cv_Ch_readAll (Or.inl kw_1606) cl_Ch (pz rfl (by decide)) (ct_Ch_readAll hm hc20) ⟨by decide, by decide⟩ rfl hl.1 (Nat.le_of_ble_eq_true rfl) d_LM_load_20 rfl (fun q20 hE hm => ?_)
  have ex20_0 : q20.1 100 0 = q.1 100 0 := hE _ _ (by decide) (dlo _ _ (pz rfl (by decide)))
  have hl : lv_has ls 2 [(1, .int v1), (0, .ref (q20.1 100 0))] := by rw [ex20_0]; exact hl
  refine ww_st (st' := [.int v20.1]) (by rfl) ?_
  have hx0 : Exq (xP X) [118, 146, 147, 149, 150, 151, 153, 154] _ q20 := hx0.tr (hE.sub (by decide))
  refine ww_if_eq (pc := 23) (tgt := 36) g.1 d_LM_load_23 (by decide) h (fun c h => ?_) (fun c h => ?_)
  · exact (oF_no h).elim
  · refine ww_aload_n (pc := 26) g.1 d_LM_load_26 rfl (lv_at hl 1 rfl) ?_
    refine ww_gR (pc := 27) g (k := 2) cl_LM (pz rfl (by decide)) (by decide) (Or.inl kw_648) (f := 12802) (t := 101) rfl rfl rfl d_LM_load_27 ?_
    obtain ⟨v30, s, hc30, h⟩ := oB_of h
    refine ww_callV (pc := 30) (rest := []) g cv_Ch_checkAll (Or.inl kw_1607) cl_Ch (pz rfl (by decide)) (ct_Ch_checkAll hc30) ⟨by decide, by decide⟩ rfl hl.1 (Nat.le_of_ble_eq_true rfl) d_LM_load_30 rfl (?_)
    refine ww_st (st' := [.int v30]) rfl ?_
    refine ww_if_ne (pc := 33) (tgt := 44) g.1 d_LM_load_33 (by decide) h (fun c h => ?_) (fun c h => ?_)
    · refine ww_aload_n (pc := 44) g.1 d_LM_load_44 rfl (lv_at hl 1 rfl) ?_
      refine ww_gR (pc := 45) g (k := 6) cl_LM (pz rfl (by decide)) (by decide) (Or.inl kw_633) (f := 12806) (t := 130) rfl rfl rfl d_LM_load_45 ?_
      refine ww_iconst (pc := 48) g.1 (v := 0) d_LM_load_48 (by decide) ?_
      refine ww_pI (pc := 49) g (k := 1) cl_Bu (pz rfl (by decide)) (by decide) (Or.inl kw_634) rfl (f := 16641) rfl rfl rfl rfl d_LM_load_49 h fun s hs h => ?_
      refine ww_aload_n (pc := 52) g.1 d_LM_load_52 rfl (lv_at hl 1 rfl) ?_
      refine ww_gR (pc := 53) g (k := 4) cl_LM (pz rfl (by decide)) (by decide) (Or.inl kw_635) (f := 12804) (t := 128) rfl rfl rfl d_LM_load_53 ?_
      refine ww_lo fun dlo => ?_
      obtain ⟨v56, s, hc56, h⟩ := oB_of h
      refine ww_callVX (pc := 56) (rest := []) g cv_Ma_boot (Or.inl kw_1608) cl_Ma (pz rfl (by decide)) (ct_Ma_boot hm hc56) ⟨by decide, by decide⟩ rfl hl.1 (Nat.le_of_ble_eq_true rfl) d_LM_load_56 rfl (fun q56 hE hm => ?_)
      have ex56_0 : q56.1 100 0 = q20.1 100 0 := hE _ _ (by decide) (dlo _ _ (pz rfl (by decide)))
      have hl : lv_has ls 2 [(1, .int v1), (0, .ref (q56.1 100 0))] := by rw [ex56_0]; exact hl
      refine ww_st (st' := [.int v56.1]) (by rfl) ?_
      have hx0 : Exq (xP X) [118, 146, 147, 149, 150, 151, 153, 154] _ q56 := hx0.tr (hE.sub (by decide))
      refine ww_if_ne (pc := 59) (tgt := 70) g.1 d_LM_load_59 (by decide) h (fun c h => ?_) (fun c h => ?_)
      · refine ww_aload_n (pc := 70) g.1 d_LM_load_70 rfl (lv_at hl 1 rfl) ?_
        refine ww_iconst (pc := 71) g.1 (v := 1) d_LM_load_71 (by decide) ?_
        refine ww_pI (pc := 72) g (k := 1) cl_LM (pz rfl (by decide)) (by decide) (Or.inl kw_632) rfl (f := 12801) rfl rfl rfl rfl d_LM_load_72 h fun s hs h => ?_
        refine ww_aload_n (pc := 75) g.1 d_LM_load_75 rfl (lv_at hl 1 rfl) ?_
        refine ww_gR (pc := 76) g (k := 2) cl_LM (pz rfl (by decide)) (by decide) (Or.inl kw_648) (f := 12802) (t := 101) rfl rfl rfl d_LM_load_76 ?_
        refine ww_gI (pc := 79) g (k := 9) cl_Ch (pz rfl (by decide)) (by decide) (Or.inl kw_1609) (f := 12937) rfl rfl d_LM_load_79 h fun v79 h => ?_
        exact ww_iretX (pc := 82) g h hR hx0 hm d_LM_load_82
      · exact (oF_no h).elim
    · exact (oF_no h).elim


