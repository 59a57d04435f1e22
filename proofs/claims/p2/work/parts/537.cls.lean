abbrev b_St_joined : ByteArray := prog_10_method_23_code
def y_St_joined : MethodName := ⟨R_St, "joined", "(IJ)I"⟩
abbrev w_St_joined : List Cond := .code y_St_joined b_St_joined 4 (some .int) :: wA
theorem k_St_joined : Cond.code y_St_joined b_St_joined 4 (some .int) ∈ wA := kinm (show _ ∈ tables_1 from (List.mem_append_right _ (List.mem_append_right _ (List.mem_append_right _ (List.mem_append_right _ (List.mem_append_right _ (List.mem_append_right _ (List.mem_append_right _ (List.mem_append_right _ (List.mem_append_left _ (List.mem_of_getElem? (l := tables_1_9) (i := 19) (by decide +kernel)))))))))))) (by decide +kernel)
theorem d_St_joined_0 : decode b_St_joined 0 = .ok (.aload_n 0, 1) := by decide +kernel
theorem d_St_joined_1 : decode b_St_joined 1 = .ok (.getfield 21, 3) := by decide +kernel
theorem d_St_joined_4 : decode b_St_joined 4 = .ok (.iconst 0, 1) := by decide +kernel
theorem d_St_joined_5 : decode b_St_joined 5 = .ok (.putfield 289, 3) := by decide +kernel
theorem d_St_joined_8 : decode b_St_joined 8 = .ok (.aload_n 0, 1) := by decide +kernel
theorem d_St_joined_9 : decode b_St_joined 9 = .ok (.iload_n 1, 1) := by decide +kernel
theorem d_St_joined_10 : decode b_St_joined 10 = .ok (.lload_n 2, 1) := by decide +kernel
theorem d_St_joined_11 : decode b_St_joined 11 = .ok (.invokevirtual 292, 3) := by decide +kernel
theorem d_St_joined_14 : decode b_St_joined 14 = .ok (.aload_n 0, 1) := by decide +kernel
theorem d_St_joined_15 : decode b_St_joined 15 = .ok (.aload_n 0, 1) := by decide +kernel
theorem d_St_joined_16 : decode b_St_joined 16 = .ok (.getfield 113, 3) := by decide +kernel
theorem d_St_joined_19 : decode b_St_joined 19 = .ok (.getfield 255, 3) := by decide +kernel
theorem d_St_joined_22 : decode b_St_joined 22 = .ok (.aload_n 0, 1) := by decide +kernel
theorem d_St_joined_23 : decode b_St_joined 23 = .ok (.getfield 113, 3) := by decide +kernel
theorem d_St_joined_26 : decode b_St_joined 26 = .ok (.getfield 258, 3) := by decide +kernel
theorem d_St_joined_29 : decode b_St_joined 29 = .ok (.invokevirtual 292, 3) := by decide +kernel
theorem d_St_joined_32 : decode b_St_joined 32 = .ok (.aload_n 0, 1) := by decide +kernel
theorem d_St_joined_33 : decode b_St_joined 33 = .ok (.getfield 21, 3) := by decide +kernel
theorem d_St_joined_36 : decode b_St_joined 36 = .ok (.aload_n 0, 1) := by decide +kernel
theorem d_St_joined_37 : decode b_St_joined 37 = .ok (.getfield 21, 3) := by decide +kernel
theorem d_St_joined_40 : decode b_St_joined 40 = .ok (.getfield 295, 3) := by decide +kernel
theorem d_St_joined_43 : decode b_St_joined 43 = .ok (.iconst 0, 1) := by decide +kernel
theorem d_St_joined_44 : decode b_St_joined 44 = .ok (.aload_n 0, 1) := by decide +kernel
theorem d_St_joined_45 : decode b_St_joined 45 = .ok (.getfield 21, 3) := by decide +kernel
theorem d_St_joined_48 : decode b_St_joined 48 = .ok (.getfield 289, 3) := by decide +kernel
theorem d_St_joined_51 : decode b_St_joined 51 = .ok (.invokevirtual 298, 3) := by decide +kernel
theorem d_St_joined_54 : decode b_St_joined 54 = .ok (.ireturn, 1) := by decide +kernel
theorem kw_1537 : Cond.fieldLink R_St 289 "LuaMachine$Heap" "workSize" "I" ∈ wA := kinm (show _ ∈ tables_1 from (List.mem_append_left _ (List.mem_of_getElem? (l := tables_1_1) (i := 160) (by decide +kernel)))) (by decide +kernel)
theorem kw_1538 : Cond.methodLink R_St 292 y_St_putText ∈ wA := kinm (show _ ∈ tables_1 from (List.mem_append_right _ (List.mem_append_right _ (List.mem_append_right _ (List.mem_append_right _ (List.mem_append_right _ (List.mem_append_right _ (List.mem_append_right _ (List.mem_append_right _ (List.mem_append_left _ (List.mem_of_getElem? (l := tables_1_9) (i := 20) (by decide +kernel)))))))))))) (by decide +kernel)
theorem kw_1539 : Cond.fieldLink R_St 295 "LuaMachine$Heap" "work" "[B" ∈ wA := kinm (show _ ∈ tables_1 from (List.mem_append_left _ (List.mem_of_getElem? (l := tables_1_1) (i := 156) (by decide +kernel)))) (by decide +kernel)
theorem kw_1540 : Cond.methodLink R_St 298 y_He_intern ∈ wA := kinm (show _ ∈ tables_1 from (List.mem_append_right _ (List.mem_append_right _ (List.mem_append_right _ (List.mem_append_right _ (List.mem_append_right _ (List.mem_append_right _ (List.mem_append_right _ (List.mem_append_right _ (List.mem_append_left _ (List.mem_of_getElem? (l := tables_1_9) (i := 31) (by decide +kernel)))))))))))) (by decide +kernel)
theorem kw_1541 : Cond.instanceMethod y_St_joined ∈ wA := kinm (show _ ∈ tables_1 from (List.mem_append_right _ (List.mem_append_right _ (List.mem_append_right _ (List.mem_append_right _ (List.mem_append_right _ (List.mem_append_right _ (List.mem_append_right _ (List.mem_append_right _ (List.mem_append_left _ (List.mem_of_getElem? (l := tables_1_9) (i := 18) (by decide +kernel)))))))))))) (by decide +kernel)
theorem kw_1542 : Cond.selects R_St y_St_joined y_St_joined ∈ wA := kinp 104 (by decide +kernel) (by decide +kernel)
theorem cv_St_joined : CV y_St_joined b_St_joined 4 (some .int) 2 := ⟨kw_1541, kw_1542, kw_883, k_St_joined, by decide +kernel⟩
theorem ct_St_joined {l : Launch} {P : PP} {q : PL} {s s' : S1} {n0 n1 : Nat × Nat} {l1 : Int32} {l2 : Int64} {r : Int32} (hm : Rmq P q n0) (h : M_St_joined n0 l1 l2 s = some ((r, n1), s')) : CtX l y_St_joined b_St_joined 4 (some .int) 5 124 P [118, 146, 154] q s [.ref (q.1 129 0), .int l1, .long l2] (fun _ => some (.int r)) n1 s' := by
  refine ctX_of (by decide) (Nat.le_of_ble_eq_true rfl) fun X ls eP el g hR hl => ?_
  subst eP
  obtain ⟨q0, hq0⟩ : ∃ q0 : PL, q0 = q := ⟨q, rfl⟩
  have hx0 : Exq (xP X) [118, 146, 154] q0 q := hq0 ▸ Exq.rf
  rw [← hq0] at hR
  have hR : RtX X [118, 146, 154] q0 (((r, n1), s') : (Int32 × (Nat × Nat)) × S1).1.2 (((r, n1), s') : (Int32 × (Nat × Nat)) × S1).2 (fun _ => some (.int (((r, n1), s') : (Int32 × (Nat × Nat)) × S1).1.1)) := hR
  have hl : lv_has ls 4 [(0, .ref (q.1 129 0)), (1, .int l1), (2, .long l2)] := hl
  generalize ((r, n1), s') = o at h hR
  unfold M_St_joined at h
  refine ww_aload_n (pc := 0) g.1 d_St_joined_0 rfl (lv_at hl 0 rfl) ?_
  refine ww_gR (pc := 1) g (k := 1) cl_St (pz rfl (by decide)) (by decide) (Or.inl kw_884) (f := 16513) (t := 111) rfl rfl rfl d_St_joined_1 ?_
  refine ww_iconst (pc := 4) g.1 (v := 0) d_St_joined_4 (by decide) ?_
  refine ww_pI (pc := 5) g (k := 9) cl_He (pz rfl (by decide)) (by decide) (Or.inl kw_1537) rfl (f := 14217) rfl rfl rfl rfl d_St_joined_5 h fun s hs h => ?_
  refine ww_aload_n (pc := 8) g.1 d_St_joined_8 rfl (lv_at hl 0 rfl) ?_
  refine ww_iload_n (pc := 9) g.1 d_St_joined_9 rfl (lv_at hl 1 rfl) ?_
  refine ww_lload_n (pc := 10) g.1 d_St_joined_10 rfl (lv_at hl 2 rfl) ?_
  refine ww_lo fun dlo => ?_
  obtain ⟨v11, s, hc11, h⟩ := oB_of h
  refine ww_callVX (pc := 11) (rest := []) g cv_St_putText (Or.inl kw_1538) cl_St (pz rfl (by decide)) (ct_St_putText hm hc11) ⟨by decide, by decide⟩ rfl hl.1 (Nat.le_of_ble_eq_true rfl) d_St_joined_11 rfl (fun q11 hE hm => ?_)
  have ex11_0 : q11.1 129 0 = q.1 129 0 := hE _ _ (by decide) (dlo _ _ (pz rfl (by decide)))
  have hl : lv_has ls 4 [(0, .ref (q11.1 129 0)), (1, .int l1), (2, .long l2)] := by rw [ex11_0]; exact hl
  refine ww_st (st' := []) (by rfl) ?_
  have hx0 : Exq (xP X) [118, 146, 154] _ q11 := hx0.tr (hE.sub (by decide))
  refine ww_aload_n (pc := 14) g.1 d_St_joined_14 rfl (lv_at hl 0 rfl) ?_
  refine ww_aload_n (pc := 15) g.1 d_St_joined_15 rfl (lv_at hl 0 rfl) ?_
  refine ww_gV (pc := 16) g (k := 5) cl_St (pz rfl (by decide)) (by decide) (Or.inl kw_867) (f := 16517) (t := 152) rfl rfl rfl d_St_joined_16 h fun v16 h => ?_
  refine ww_pr h fun pn16 h => ?_
  refine ww_nnP pn16 ?_
  refine ww_gI (pc := 19) g (k := 6) cl_Fm pn16 (by decide) (Or.inl kw_1013) (f := 19462) rfl rfl d_St_joined_19 h fun v19 h => ?_
  refine ww_aload_n (pc := 22) g.1 d_St_joined_22 rfl (lv_at hl 0 rfl) ?_
  refine ww_gV (pc := 23) g (k := 5) cl_St (pz rfl (by decide)) (by decide) (Or.inl kw_867) (f := 16517) (t := 152) rfl rfl rfl d_St_joined_23 h fun v23 h => ?_
  refine ww_pr h fun pn23 h => ?_
  refine ww_nnP pn23 ?_
  refine ww_gL (pc := 26) g (k := 7) cl_Fm pn23 (by decide) (Or.inl kw_1014) (f := 19463) rfl rfl d_St_joined_26 h fun v26 h => ?_
  refine ww_lo fun dlo => ?_
  obtain ⟨v29, s, hc29, h⟩ := oB_of h
  refine ww_callVX (pc := 29) (rest := []) g cv_St_putText (Or.inl kw_1538) cl_St (pz rfl (by decide)) (ct_St_putText hm hc29) ⟨by decide, by decide⟩ rfl hl.1 (Nat.le_of_ble_eq_true rfl) d_St_joined_29 rfl (fun q29 hE hm => ?_)
  have ex29_0 : q29.1 129 0 = q11.1 129 0 := hE _ _ (by decide) (dlo _ _ (pz rfl (by decide)))
  have hl : lv_has ls 4 [(0, .ref (q29.1 129 0)), (1, .int l1), (2, .long l2)] := by rw [ex29_0]; exact hl
  refine ww_st (st' := []) (by rfl) ?_
  have hx0 : Exq (xP X) [118, 146, 154] _ q29 := hx0.tr (hE.sub (by decide))
  refine ww_aload_n (pc := 32) g.1 d_St_joined_32 rfl (lv_at hl 0 rfl) ?_
  refine ww_gR (pc := 33) g (k := 1) cl_St (pz rfl (by decide)) (by decide) (Or.inl kw_884) (f := 16513) (t := 111) rfl rfl rfl d_St_joined_33 ?_
  refine ww_aload_n (pc := 36) g.1 d_St_joined_36 rfl (lv_at hl 0 rfl) ?_
  refine ww_gR (pc := 37) g (k := 1) cl_St (pz rfl (by decide)) (by decide) (Or.inl kw_884) (f := 16513) (t := 111) rfl rfl rfl d_St_joined_37 ?_
  refine ww_gR (pc := 40) g (k := 8) cl_He (pz rfl (by decide)) (by decide) (Or.inl kw_1539) (f := 14216) (t := 118) rfl rfl rfl d_St_joined_40 ?_
  refine ww_iconst (pc := 43) g.1 (v := 0) d_St_joined_43 (by decide) ?_
  refine ww_aload_n (pc := 44) g.1 d_St_joined_44 rfl (lv_at hl 0 rfl) ?_
  refine ww_gR (pc := 45) g (k := 1) cl_St (pz rfl (by decide)) (by decide) (Or.inl kw_884) (f := 16513) (t := 111) rfl rfl rfl d_St_joined_45 ?_
  refine ww_gI (pc := 48) g (k := 9) cl_He (pz rfl (by decide)) (by decide) (Or.inl kw_1537) (f := 14217) rfl rfl d_St_joined_48 h fun v48 h => ?_
  refine ww_lo fun dlo => ?_
  obtain ⟨v51, s, hc51, h⟩ := oB_of h
  refine ww_callVX (pc := 51) (rest := []) g cv_He_intern (Or.inl kw_1540) cl_He (pz rfl (by decide)) (ct_He_intern rfl (by decide) (pz rfl (by decide)) hm hc51) ⟨by decide, by decide⟩ rfl hl.1 (Nat.le_of_ble_eq_true rfl) d_St_joined_51 rfl (fun q51 hE hm => ?_)
  have hl : lv_has ls 4 [(1, .int l1), (2, .long l2)] := lv_sub hl [1, 2] rfl
  refine ww_st (st' := [.int v51.1]) (by rfl) ?_
  have hx0 : Exq (xP X) [118, 146, 154] _ q51 := hx0.tr (hE.sub (by decide))
  exact ww_iretX (pc := 54) g h hR hx0 hm d_St_joined_54

abbrev b_Ma_internNames : ByteArray := prog_7_method_3_code
def y_Ma_internNames : MethodName := ⟨R_Ma, "internNames", "(Ljava/lang/String;I)Z"⟩
abbrev w_Ma_internNames : List Cond := .code y_Ma_internNames b_Ma_internNames 6 (some .boolean) :: wA
theorem k_Ma_internNames : Cond.code y_Ma_internNames b_Ma_internNames 6 (some .boolean) ∈ wA := kinm (show _ ∈ tables_1 from (List.mem_append_right _ (List.mem_append_right _ (List.mem_append_right _ (List.mem_append_right _ (List.mem_append_right _ (List.mem_append_left _ (List.mem_of_getElem? (l := tables_1_6) (i := 0) (by decide +kernel))))))))) (by decide +kernel)
theorem d_Ma_internNames_0 : decode b_Ma_internNames 0 = .ok (.iload_n 2, 1) := by decide +kernel
theorem d_Ma_internNames_1 : decode b_Ma_internNames 1 = .ok (.istore_n 3, 1) := by decide +kernel
theorem d_Ma_internNames_2 : decode b_Ma_internNames 2 = .ok (.aload_n 0, 1) := by decide +kernel
theorem d_Ma_internNames_3 : decode b_Ma_internNames 3 = .ok (.getfield 31, 3) := by decide +kernel
theorem d_Ma_internNames_6 : decode b_Ma_internNames 6 = .ok (.iconst 0, 1) := by decide +kernel
theorem d_Ma_internNames_7 : decode b_Ma_internNames 7 = .ok (.putfield 96, 3) := by decide +kernel
theorem d_Ma_internNames_10 : decode b_Ma_internNames 10 = .ok (.iconst 0, 1) := by decide +kernel
theorem d_Ma_internNames_11 : decode b_Ma_internNames 11 = .ok (.istore 4, 2) := by decide +kernel
theorem d_Ma_internNames_13 : decode b_Ma_internNames 13 = .ok (.iload 4, 2) := by decide +kernel
theorem d_Ma_internNames_15 : decode b_Ma_internNames 15 = .ok (.aload_n 1, 1) := by decide +kernel
theorem d_Ma_internNames_16 : decode b_Ma_internNames 16 = .ok (.invokevirtual 99, 3) := by decide +kernel
theorem d_Ma_internNames_19 : decode b_Ma_internNames 19 = .ok (.if_icmp .ge 109, 3) := by decide +kernel
theorem d_Ma_internNames_22 : decode b_Ma_internNames 22 = .ok (.iload_n 3, 1) := by decide +kernel
theorem d_Ma_internNames_23 : decode b_Ma_internNames 23 = .ok (.bipush 57, 2) := by decide +kernel
theorem d_Ma_internNames_25 : decode b_Ma_internNames 25 = .ok (.if_icmp .ge 103, 3) := by decide +kernel
theorem d_Ma_internNames_28 : decode b_Ma_internNames 28 = .ok (.aload_n 1, 1) := by decide +kernel
theorem d_Ma_internNames_29 : decode b_Ma_internNames 29 = .ok (.iload 4, 2) := by decide +kernel
theorem d_Ma_internNames_31 : decode b_Ma_internNames 31 = .ok (.invokevirtual 104, 3) := by decide +kernel
theorem d_Ma_internNames_34 : decode b_Ma_internNames 34 = .ok (.bipush 32, 2) := by decide +kernel
theorem d_Ma_internNames_36 : decode b_Ma_internNames 36 = .ok (.if_icmp .eq 19, 3) := by decide +kernel
theorem d_Ma_internNames_39 : decode b_Ma_internNames 39 = .ok (.aload_n 0, 1) := by decide +kernel
theorem d_Ma_internNames_40 : decode b_Ma_internNames 40 = .ok (.getfield 31, 3) := by decide +kernel
theorem d_Ma_internNames_43 : decode b_Ma_internNames 43 = .ok (.aload_n 1, 1) := by decide +kernel
theorem d_Ma_internNames_44 : decode b_Ma_internNames 44 = .ok (.iload 4, 2) := by decide +kernel
theorem d_Ma_internNames_46 : decode b_Ma_internNames 46 = .ok (.invokevirtual 104, 3) := by decide +kernel
theorem d_Ma_internNames_49 : decode b_Ma_internNames 49 = .ok (.invokevirtual 108, 3) := by decide +kernel
theorem d_Ma_internNames_52 : decode b_Ma_internNames 52 = .ok (.goto 70, 3) := by decide +kernel
theorem d_Ma_internNames_55 : decode b_Ma_internNames 55 = .ok (.aload_n 0, 1) := by decide +kernel
theorem d_Ma_internNames_56 : decode b_Ma_internNames 56 = .ok (.getfield 31, 3) := by decide +kernel
theorem d_Ma_internNames_59 : decode b_Ma_internNames 59 = .ok (.aload_n 0, 1) := by decide +kernel
theorem d_Ma_internNames_60 : decode b_Ma_internNames 60 = .ok (.getfield 31, 3) := by decide +kernel
theorem d_Ma_internNames_63 : decode b_Ma_internNames 63 = .ok (.getfield 112, 3) := by decide +kernel
theorem d_Ma_internNames_66 : decode b_Ma_internNames 66 = .ok (.iconst 0, 1) := by decide +kernel
theorem d_Ma_internNames_67 : decode b_Ma_internNames 67 = .ok (.aload_n 0, 1) := by decide +kernel
theorem d_Ma_internNames_68 : decode b_Ma_internNames 68 = .ok (.getfield 31, 3) := by decide +kernel
theorem d_Ma_internNames_71 : decode b_Ma_internNames 71 = .ok (.getfield 96, 3) := by decide +kernel
theorem d_Ma_internNames_74 : decode b_Ma_internNames 74 = .ok (.invokevirtual 116, 3) := by decide +kernel
theorem d_Ma_internNames_77 : decode b_Ma_internNames 77 = .ok (.istore 5, 2) := by decide +kernel
theorem d_Ma_internNames_79 : decode b_Ma_internNames 79 = .ok (.iload 5, 2) := by decide +kernel
theorem d_Ma_internNames_81 : decode b_Ma_internNames 81 = .ok (.ifCond .ge 5, 3) := by decide +kernel
theorem d_Ma_internNames_84 : decode b_Ma_internNames 84 = .ok (.iconst 0, 1) := by decide +kernel
theorem d_Ma_internNames_85 : decode b_Ma_internNames 85 = .ok (.ireturn, 1) := by decide +kernel
theorem d_Ma_internNames_86 : decode b_Ma_internNames 86 = .ok (.aload_n 0, 1) := by decide +kernel
theorem d_Ma_internNames_87 : decode b_Ma_internNames 87 = .ok (.getfield 31, 3) := by decide +kernel
theorem d_Ma_internNames_90 : decode b_Ma_internNames 90 = .ok (.getfield 120, 3) := by decide +kernel
theorem d_Ma_internNames_93 : decode b_Ma_internNames 93 = .ok (.iload 5, 2) := by decide +kernel
theorem d_Ma_internNames_95 : decode b_Ma_internNames 95 = .ok (.aaload, 1) := by decide +kernel
theorem d_Ma_internNames_96 : decode b_Ma_internNames 96 = .ok (.iconst 1, 1) := by decide +kernel
theorem d_Ma_internNames_97 : decode b_Ma_internNames 97 = .ok (.putfield 124, 3) := by decide +kernel
theorem d_Ma_internNames_100 : decode b_Ma_internNames 100 = .ok (.aload_n 0, 1) := by decide +kernel
theorem d_Ma_internNames_101 : decode b_Ma_internNames 101 = .ok (.getfield 31, 3) := by decide +kernel
theorem d_Ma_internNames_104 : decode b_Ma_internNames 104 = .ok (.getfield 129, 3) := by decide +kernel
theorem d_Ma_internNames_107 : decode b_Ma_internNames 107 = .ok (.iload_n 3, 1) := by decide +kernel
theorem d_Ma_internNames_108 : decode b_Ma_internNames 108 = .ok (.iload 5, 2) := by decide +kernel
theorem d_Ma_internNames_110 : decode b_Ma_internNames 110 = .ok (.iastore, 1) := by decide +kernel
theorem d_Ma_internNames_111 : decode b_Ma_internNames 111 = .ok (.iinc 3 1, 3) := by decide +kernel
theorem d_Ma_internNames_114 : decode b_Ma_internNames 114 = .ok (.aload_n 0, 1) := by decide +kernel
theorem d_Ma_internNames_115 : decode b_Ma_internNames 115 = .ok (.getfield 31, 3) := by decide +kernel
theorem d_Ma_internNames_118 : decode b_Ma_internNames 118 = .ok (.iconst 0, 1) := by decide +kernel
theorem d_Ma_internNames_119 : decode b_Ma_internNames 119 = .ok (.putfield 96, 3) := by decide +kernel
theorem d_Ma_internNames_122 : decode b_Ma_internNames 122 = .ok (.iinc 4 1, 3) := by decide +kernel
theorem d_Ma_internNames_125 : decode b_Ma_internNames 125 = .ok (.goto (-112), 3) := by decide +kernel
theorem d_Ma_internNames_128 : decode b_Ma_internNames 128 = .ok (.iconst 1, 1) := by decide +kernel
theorem d_Ma_internNames_129 : decode b_Ma_internNames 129 = .ok (.ireturn, 1) := by decide +kernel
theorem kw_1543 : Cond.fieldLink R_Ma 96 "LuaMachine$Heap" "workSize" "I" ∈ wA := kinm (show _ ∈ tables_1 from (List.mem_append_left _ (List.mem_of_getElem? (l := tables_1_1) (i := 157) (by decide +kernel)))) (by decide +kernel)
theorem kw_1544 : Cond.methodLink R_Ma 99 y_Str_length ∈ wA := kinm (show _ ∈ tables_1 from (List.mem_append_right _ (List.mem_append_right _ (List.mem_append_right _ (List.mem_append_right _ (List.mem_append_right _ (List.mem_append_left _ (List.mem_of_getElem? (l := tables_1_6) (i := 1) (by decide +kernel))))))))) (by decide +kernel)
theorem kw_1545 : Cond.methodLink R_Ma 104 y_Str_charAt ∈ wA := kinm (show _ ∈ tables_1 from (List.mem_append_right _ (List.mem_append_right _ (List.mem_append_right _ (List.mem_append_right _ (List.mem_append_right _ (List.mem_append_left _ (List.mem_of_getElem? (l := tables_1_6) (i := 2) (by decide +kernel))))))))) (by decide +kernel)
theorem kw_1546 : Cond.fieldLink R_Ma 112 "LuaMachine$Heap" "work" "[B" ∈ wA := kinm (show _ ∈ tables_1 from (List.mem_append_left _ (List.mem_of_getElem? (l := tables_1_1) (i := 154) (by decide +kernel)))) (by decide +kernel)
theorem kw_1547 : Cond.methodLink R_Ma 108 y_He_putByte ∈ wA := kinm (show _ ∈ tables_1 from (List.mem_append_right _ (List.mem_append_right _ (List.mem_append_right _ (List.mem_append_right _ (List.mem_append_right _ (List.mem_append_left _ (List.mem_of_getElem? (l := tables_1_6) (i := 3) (by decide +kernel))))))))) (by decide +kernel)
theorem kw_1548 : Cond.instanceMethod y_Ma_internNames ∈ wA := kinm (show _ ∈ tables_1 from (List.mem_append_right _ (List.mem_append_right _ (List.mem_append_right _ (List.mem_append_right _ (List.mem_append_left _ (List.mem_of_getElem? (l := tables_1_5) (i := 239) (by decide +kernel)))))))) (by decide +kernel)
theorem kw_1549 : Cond.selects R_Ma y_Ma_internNames y_Ma_internNames ∈ wA := kinp 25 (by decide +kernel) (by decide +kernel)
theorem cv_Ma_internNames : CV y_Ma_internNames b_Ma_internNames 6 (some .boolean) 2 := ⟨kw_1548, kw_1549, kw_838, k_Ma_internNames, by decide +kernel⟩
theorem j_Ma_internNames_j122 {X : Cx} {q0 q : PL} (g : Gd X y_Ma_internNames b_Ma_internNames 6 (some .boolean) 5 150 R_Ma) {o : ((Nat × Int32 × Int32 × (Nat × Nat)) ⊕ (((Nat × Nat)) ⊕ ((Nat × Nat)))) × S1} (hR : (Sum.elim (fun y : Nat × Int32 × Int32 × (Nat × Nat) => ∀ q : PL, Exq (xP X) [118, 146, 154] q0 q → Rmq (xP X) q y.2.2.2 → ∀ ls : Array Slot, (y.1 < nSt) → lv_has ls 6 [(0, .ref (q.1 128 0)), (1, .ref (aK (xP X) y.1)), (3, .int y.2.1), (4, .int y.2.2.1)] → WW X q o.2 13 ls []) (Sum.elim (fun y : (Nat × Nat) => ∀ q : PL, Exq (xP X) [118, 146, 154] q0 q → Rmq (xP X) q y → ∀ ls : Array Slot, lv_has ls 6 [] → WW X q o.2 84 ls []) (fun y : (Nat × Nat) => ∀ q : PL, Exq (xP X) [118, 146, 154] q0 q → Rmq (xP X) q y → ∀ ls : Array Slot, lv_has ls 6 [] → WW X q o.2 128 ls [])) o.1)) (hx0 : Exq (xP X) [118, 146, 154] q0 q) (l1 : Nat) (l3 : Int32) (l4 : Int32) (ln : Nat × Nat) (hm : Rmq (xP X) q ln) (s : S1) (hp0 : l1 < nSt) (ls : Array Slot) (hl : lv_has ls 6 [(0, .ref (q.1 128 0)), (1, .ref (aK (xP X) l1)), (3, .int l3), (4, .int l4)]) (h : M_Ma_internNames_j122 l1 l3 l4 ln s = some o) : WW X q s 122 ls [] := by
  unfold M_Ma_internNames_j122 at h
  refine ww_iinc (pc := 122) g.1 (v := l4 + 1) (lv' := [(4, .int (l4 + 1)), (0, .ref (q.1 128 0)), (1, .ref (aK (xP X) l1)), (3, .int l3)]) d_Ma_internNames_122 hl (k := 3) rfl (by rfl) (by decide) rfl fun ls hl => ?_
  refine ww_goto (pc := 125) (tgt := 13) g.1 d_Ma_internNames_125 (by decide) ?_
  rw [oR_eq h] at hR
  exact hR q hx0 hm ls hp0 (lv_sub hl [1, 2, 3, 0] rfl)

theorem lp_Ma_internNames_L13 {X : Cx} {q0 : PL} (g : Gd X y_Ma_internNames b_Ma_internNames 6 (some .boolean) 5 150 R_Ma) (x : Nat × Int32 × Int32 × (Nat × Nat)) (s : S1) (o : ((Nat × Int32 × Int32 × (Nat × Nat)) ⊕ (((Nat × Nat)) ⊕ ((Nat × Nat)))) × S1) (h : M_Ma_internNames_L13 x s = some o) (hR : (Sum.elim (fun y : Nat × Int32 × Int32 × (Nat × Nat) => ∀ q : PL, Exq (xP X) [118, 146, 154] q0 q → Rmq (xP X) q y.2.2.2 → ∀ ls : Array Slot, (y.1 < nSt) → lv_has ls 6 [(0, .ref (q.1 128 0)), (1, .ref (aK (xP X) y.1)), (3, .int y.2.1), (4, .int y.2.2.1)] → WW X q o.2 13 ls []) (Sum.elim (fun y : (Nat × Nat) => ∀ q : PL, Exq (xP X) [118, 146, 154] q0 q → Rmq (xP X) q y → ∀ ls : Array Slot, lv_has ls 6 [] → WW X q o.2 84 ls []) (fun y : (Nat × Nat) => ∀ q : PL, Exq (xP X) [118, 146, 154] q0 q → Rmq (xP X) q y → ∀ ls : Array Slot, lv_has ls 6 [] → WW X q o.2 128 ls [])) o.1)) : ∀ q : PL, Exq (xP X) [118, 146, 154] q0 q → Rmq (xP X) q x.2.2.2 → ∀ ls : Array Slot, (x.1 < nSt) → lv_has ls 6 [(0, .ref (q.1 128 0)), (1, .ref (aK (xP X) x.1)), (3, .int x.2.1), (4, .int x.2.2.1)] → WW X q s 13 ls [] := by
  intro q hx0 hm ls hp0 hl
  unfold M_Ma_internNames_L13 at h
  refine ww_iload (pc := 13) g.1 d_Ma_internNames_13 (lv_at hl 3 rfl) ?_
  refine ww_aload_n (pc := 15) g.1 d_Ma_internNames_15 rfl (lv_at hl 1 rfl) ?_
  refine ww_slen (pc := 16) g (n := x.1) hp0 kw_1544 ⟨by decide, by decide⟩ hl.1 (Nat.le_of_ble_eq_true rfl) d_Ma_internNames_16 ?_
  refine ww_icmp_ge (pc := 19) (tgt := 128) g.1 d_Ma_internNames_19 (by decide) h (fun c h => ?_) (fun c h => ?_)
  · rw [oR_eq h] at hR
    exact hR q hx0 hm ls (lv_sub hl [] rfl)
  · refine ww_iload_n (pc := 22) g.1 d_Ma_internNames_22 rfl (lv_at hl 2 rfl) ?_
    refine ww_bipush (pc := 23) g.1 (v := 57) d_Ma_internNames_23 (by decide) ?_
    refine ww_icmp_ge (pc := 25) (tgt := 128) g.1 d_Ma_internNames_25 (by decide) h (fun c h => ?_) (fun c h => ?_)
    · rw [oR_eq h] at hR
      exact hR q hx0 hm ls (lv_sub hl [] rfl)
    · refine ww_aload_n (pc := 28) g.1 d_Ma_internNames_28 rfl (lv_at hl 1 rfl) ?_
      refine ww_iload (pc := 29) g.1 d_Ma_internNames_29 (lv_at hl 3 rfl) ?_
      refine ww_ok h fun cs31 h => ?_
      refine ww_schar (pc := 31) g (n := x.1) hp0 cs31 kw_1545 ⟨by decide, by decide⟩ hl.1 (Nat.le_of_ble_eq_true rfl) d_Ma_internNames_31 ?_
      refine ww_bipush (pc := 34) g.1 (v := 32) d_Ma_internNames_34 (by decide) ?_
      refine ww_icmp_eq (pc := 36) (tgt := 55) g.1 d_Ma_internNames_36 (by decide) h (fun c h => ?_) (fun c h => ?_)
      · refine ww_aload_n (pc := 55) g.1 d_Ma_internNames_55 rfl (lv_at hl 0 rfl) ?_
        refine ww_gR (pc := 56) g (k := 1) cl_Ma (pz rfl (by decide)) (by decide) (Or.inl kw_938) (f := 16385) (t := 111) rfl rfl rfl d_Ma_internNames_56 ?_
        refine ww_aload_n (pc := 59) g.1 d_Ma_internNames_59 rfl (lv_at hl 0 rfl) ?_
        refine ww_gR (pc := 60) g (k := 1) cl_Ma (pz rfl (by decide)) (by decide) (Or.inl kw_938) (f := 16385) (t := 111) rfl rfl rfl d_Ma_internNames_60 ?_
        refine ww_gR (pc := 63) g (k := 8) cl_He (pz rfl (by decide)) (by decide) (Or.inl kw_1546) (f := 14216) (t := 118) rfl rfl rfl d_Ma_internNames_63 ?_
        refine ww_iconst (pc := 66) g.1 (v := 0) d_Ma_internNames_66 (by decide) ?_
        refine ww_aload_n (pc := 67) g.1 d_Ma_internNames_67 rfl (lv_at hl 0 rfl) ?_
        refine ww_gR (pc := 68) g (k := 1) cl_Ma (pz rfl (by decide)) (by decide) (Or.inl kw_938) (f := 16385) (t := 111) rfl rfl rfl d_Ma_internNames_68 ?_
        refine ww_gI (pc := 71) g (k := 9) cl_He (pz rfl (by decide)) (by decide) (Or.inl kw_1543) (f := 14217) rfl rfl d_Ma_internNames_71 h fun v71 h => ?_
        refine ww_lo fun dlo => ?_
        obtain ⟨v74, s, hc74, h⟩ := oB_of h
        refine ww_callVX (pc := 74) (rest := []) g cv_He_intern (Or.inl kw_1521) cl_He (pz rfl (by decide)) (ct_He_intern rfl (by decide) (pz rfl (by decide)) hm hc74) ⟨by decide, by decide⟩ rfl hl.1 (Nat.le_of_ble_eq_true rfl) d_Ma_internNames_74 rfl (fun q74 hE hm => ?_)
        have ex74_0 : q74.1 128 0 = q.1 128 0 := hE _ _ (by decide) (dlo _ _ (pz rfl (by decide)))
        have hl : lv_has ls 6 [(0, .ref (q74.1 128 0)), (1, .ref (aK (xP X) x.1)), (3, .int x.2.1), (4, .int x.2.2.1)] := by rw [ex74_0]; exact hl
        refine ww_st (st' := [.int v74.1]) (by rfl) ?_
        have hx0 : Exq (xP X) [118, 146, 154] _ q74 := hx0.tr (hE.sub (by decide))
        refine ww_istore (pc := 77) (i := 5) g.1 (lv' := [(5, .int v74.1), (0, .ref (q74.1 128 0)), (1, .ref (aK (xP X) x.1)), (3, .int x.2.1), (4, .int x.2.2.1)]) d_Ma_internNames_77 hl (by decide) rfl fun ls hl => ?_
        refine ww_iload (pc := 79) g.1 d_Ma_internNames_79 (lv_at hl 0 rfl) ?_
        refine ww_if_ge (pc := 81) (tgt := 86) g.1 d_Ma_internNames_81 (by decide) h (fun c h => ?_) (fun c h => ?_)
        · refine ww_aload_n (pc := 86) g.1 d_Ma_internNames_86 rfl (lv_at hl 1 rfl) ?_
          refine ww_gR (pc := 87) g (k := 1) cl_Ma (pz rfl (by decide)) (by decide) (Or.inl kw_938) (f := 16385) (t := 111) rfl rfl rfl d_Ma_internNames_87 ?_
          refine ww_gR (pc := 90) g (k := 0) cl_He (pz rfl (by decide)) (by decide) (Or.inl kw_940) (f := 14208) (t := 112) rfl rfl rfl d_Ma_internNames_90 ?_
          refine ww_iload (pc := 93) g.1 d_Ma_internNames_93 (lv_at hl 0 rfl) ?_
          refine ww_a8 (pc := 95) g (t := 145) (n := 4000) (pz rfl (by decide)) rfl rfl rfl rfl d_Ma_internNames_95 h fun pa95 h => ?_
          refine ww_iconst (pc := 96) g.1 (v := 1) d_Ma_internNames_96 (by decide) ?_
          refine ww_pI (pc := 97) g (k := 3) cl_Tg pa95 (by decide) (Or.inl kw_1522) rfl (f := 18563) rfl rfl rfl rfl d_Ma_internNames_97 h fun s hs h => ?_
          refine ww_aload_n (pc := 100) g.1 d_Ma_internNames_100 rfl (lv_at hl 1 rfl) ?_
          refine ww_gR (pc := 101) g (k := 1) cl_Ma (pz rfl (by decide)) (by decide) (Or.inl kw_938) (f := 16385) (t := 111) rfl rfl rfl d_Ma_internNames_101 ?_
          refine ww_gR (pc := 104) g (k := 5) cl_He (pz rfl (by decide)) (by decide) (Or.inl kw_1423) (f := 14213) (t := 115) rfl rfl rfl d_Ma_internNames_104 ?_
          refine ww_iload_n (pc := 107) g.1 d_Ma_internNames_107 rfl (lv_at hl 3 rfl) ?_
          refine ww_iload (pc := 108) g.1 d_Ma_internNames_108 (lv_at hl 0 rfl) ?_
          refine ww_si (pc := 110) g (pz rfl (by decide)) rfl rfl d_Ma_internNames_110 h fun s hs h => ?_
          refine ww_iinc (pc := 111) g.1 (v := x.2.1 + 1) (lv' := [(3, .int (x.2.1 + 1)), (5, .int v74.1), (0, .ref (q74.1 128 0)), (1, .ref (aK (xP X) x.1)), (4, .int x.2.2.1)]) d_Ma_internNames_111 hl (k := 3) rfl (by rfl) (by decide) rfl fun ls hl => ?_
          refine ww_aload_n (pc := 114) g.1 d_Ma_internNames_114 rfl (lv_at hl 2 rfl) ?_
          refine ww_gR (pc := 115) g (k := 1) cl_Ma (pz rfl (by decide)) (by decide) (Or.inl kw_938) (f := 16385) (t := 111) rfl rfl rfl d_Ma_internNames_115 ?_
          refine ww_iconst (pc := 118) g.1 (v := 0) d_Ma_internNames_118 (by decide) ?_
          refine ww_pI (pc := 119) g (k := 9) cl_He (pz rfl (by decide)) (by decide) (Or.inl kw_1543) rfl (f := 14217) rfl rfl rfl rfl d_Ma_internNames_119 h fun s hs h => ?_
          exact j_Ma_internNames_j122 g hR hx0 x.1 (x.2.1 + 1) x.2.2.1 v74.2 hm s hp0 ls (lv_sub hl [2, 3, 0, 4] rfl) h
        · rw [oR_eq h] at hR
          exact hR q74 hx0 hm ls (lv_sub hl [] rfl)
      · refine ww_aload_n (pc := 39) g.1 d_Ma_internNames_39 rfl (lv_at hl 0 rfl) ?_
        refine ww_gR (pc := 40) g (k := 1) cl_Ma (pz rfl (by decide)) (by decide) (Or.inl kw_938) (f := 16385) (t := 111) rfl rfl rfl d_Ma_internNames_40 ?_
        refine ww_aload_n (pc := 43) g.1 d_Ma_internNames_43 rfl (lv_at hl 1 rfl) ?_
        refine ww_iload (pc := 44) g.1 d_Ma_internNames_44 (lv_at hl 3 rfl) ?_
        refine ww_ok h fun cs46 h => ?_
        refine ww_schar (pc := 46) g (n := x.1) hp0 cs46 kw_1545 ⟨by decide, by decide⟩ hl.1 (Nat.le_of_ble_eq_true rfl) d_Ma_internNames_46 ?_
        refine ww_lo fun dlo => ?_
        obtain ⟨v49, s, hc49, h⟩ := oB_of h
        refine ww_callVX (pc := 49) (rest := []) g cv_He_putByte (Or.inl kw_1547) cl_He (pz rfl (by decide)) (ct_He_putByte hm hc49) ⟨by decide, by decide⟩ rfl hl.1 (Nat.le_of_ble_eq_true rfl) d_Ma_internNames_49 rfl (fun q49 hE hm => ?_)
        have ex49_0 : q49.1 128 0 = q.1 128 0 := hE _ _ (by decide) (dlo _ _ (pz rfl (by decide)))
        have hl : lv_has ls 6 [(0, .ref (q49.1 128 0)), (1, .ref (aK (xP X) x.1)), (3, .int x.2.1), (4, .int x.2.2.1)] := by rw [ex49_0]; exact hl
        refine ww_st (st' := []) (by rfl) ?_
        have hx0 : Exq (xP X) [118, 146, 154] _ q49 := hx0.tr (hE.sub (by decide))
        refine ww_goto (pc := 52) (tgt := 122) g.1 d_Ma_internNames_52 (by decide) ?_
        exact j_Ma_internNames_j122 g hR hx0 x.1 x.2.1 x.2.2.1 v49.2 hm s hp0 ls (lv_sub hl [0, 1, 2, 3] rfl) h

theorem ct_Ma_internNames {l : Launch} {P : PP} {q : PL} {s s' : S1} {n0 n1 : Nat × Nat} {l1 : Nat} {l2 : Int32} (hp0 : l1 < nSt) {r : Int32} (hm : Rmq P q n0) (h : M_Ma_internNames n0 l1 l2 s = some ((r, n1), s')) : CtX l y_Ma_internNames b_Ma_internNames 6 (some .boolean) 5 150 P [118, 146, 154] q s [.ref (q.1 128 0), .ref (aK P l1), .int l2] (fun _ => some (.int r)) n1 s' := by
  refine ctX_of (by decide) (Nat.le_of_ble_eq_true rfl) fun X ls eP el g hR hl => ?_
  subst eP
  obtain ⟨q0, hq0⟩ : ∃ q0 : PL, q0 = q := ⟨q, rfl⟩
  have hx0 : Exq (xP X) [118, 146, 154] q0 q := hq0 ▸ Exq.rf
  rw [← hq0] at hR
  have hR : RtX X [118, 146, 154] q0 (((r, n1), s') : (Int32 × (Nat × Nat)) × S1).1.2 (((r, n1), s') : (Int32 × (Nat × Nat)) × S1).2 (fun _ => some (.int (((r, n1), s') : (Int32 × (Nat × Nat)) × S1).1.1)) := hR
  have hl : lv_has ls 6 [(0, .ref (q.1 128 0)), (1, .ref (aK (xP X) l1)), (2, .int l2)] := hl
  generalize ((r, n1), s') = o at h hR
  unfold M_Ma_internNames at h
  refine ww_iload_n (pc := 0) g.1 d_Ma_internNames_0 rfl (lv_at hl 2 rfl) ?_
  refine ww_istore_n (pc := 1) (i := 3) g.1 (lv' := [(3, .int l2), (0, .ref (q.1 128 0)), (1, .ref (aK (xP X) l1)), (2, .int l2)]) d_Ma_internNames_1 rfl hl (by decide) rfl fun ls hl => ?_
  refine ww_aload_n (pc := 2) g.1 d_Ma_internNames_2 rfl (lv_at hl 1 rfl) ?_
  refine ww_gR (pc := 3) g (k := 1) cl_Ma (pz rfl (by decide)) (by decide) (Or.inl kw_938) (f := 16385) (t := 111) rfl rfl rfl d_Ma_internNames_3 ?_
  refine ww_iconst (pc := 6) g.1 (v := 0) d_Ma_internNames_6 (by decide) ?_
  refine ww_pI (pc := 7) g (k := 9) cl_He (pz rfl (by decide)) (by decide) (Or.inl kw_1543) rfl (f := 14217) rfl rfl rfl rfl d_Ma_internNames_7 h fun s hs h => ?_
  refine ww_iconst (pc := 10) g.1 (v := 0) d_Ma_internNames_10 (by decide) ?_
  refine ww_istore (pc := 11) (i := 4) g.1 (lv' := [(4, .int 0), (3, .int l2), (0, .ref (q.1 128 0)), (1, .ref (aK (xP X) l1)), (2, .int l2)]) d_Ma_internNames_11 hl (by decide) rfl fun ls hl => ?_
  obtain ⟨e13, s1, hw, h⟩ := oB_of h
  refine oW_rule (Wh := fun (x : Nat × Int32 × Int32 × (Nat × Nat)) (s : S1) => ∀ q : PL, Exq (xP X) [118, 146, 154] q0 q → Rmq (xP X) q x.2.2.2 → ∀ ls : Array Slot, (x.1 < nSt) → lv_has ls 6 [(0, .ref (q.1 128 0)), (1, .ref (aK (xP X) x.1)), (3, .int x.2.1), (4, .int x.2.2.1)] → WW X q s 13 ls []) (We := fun (e : ((Nat × Nat)) ⊕ ((Nat × Nat))) (s : S1) => (Sum.elim (fun y : (Nat × Nat) => ∀ q : PL, Exq (xP X) [118, 146, 154] q0 q → Rmq (xP X) q y → ∀ ls : Array Slot, lv_has ls 6 [] → WW X q s 84 ls []) (fun y : (Nat × Nat) => ∀ q : PL, Exq (xP X) [118, 146, 154] q0 q → Rmq (xP X) q y → ∀ ls : Array Slot, lv_has ls 6 [] → WW X q s 128 ls [])) e) (fun x s o hb hc => lp_Ma_internNames_L13 (q0 := q0) g x s o hb hc) hw ?_ q hx0 hm ls hp0 (lv_sub hl [2, 3, 1, 0] rfl)
  clear hw hl hx0 hm
  clear ls
  generalize s1 = s at h ⊢
  rcases e13 with y13_84 | y13_128
  · intro qL13 hx0 hm ls hl
    dsimp only [Sum.elim_inl, Sum.elim_inr] at h
    refine ww_iconst (pc := 84) g.1 (v := 0) d_Ma_internNames_84 (by decide) ?_
    exact ww_zretX (pc := 85) g h hR hx0 hm (Or.inl rfl) d_Ma_internNames_85
  · intro qL13 hx0 hm ls hl
    dsimp only [Sum.elim_inl, Sum.elim_inr] at h
    refine ww_iconst (pc := 128) g.1 (v := 1) d_Ma_internNames_128 (by decide) ?_
    exact ww_zretX (pc := 129) g h hR hx0 hm (Or.inr rfl) d_Ma_internNames_129

abbrev b_Bu_perform : ByteArray := prog_2_method_2_code
def y_Bu_perform : MethodName := ⟨R_Bu, "perform", "()V"⟩
abbrev w_Bu_perform : List Cond := .code y_Bu_perform b_Bu_perform 1 none :: wA
set_option maxRecDepth 20000 in
theorem k_Bu_perform : Cond.code y_Bu_perform b_Bu_perform 1 none ∈ wA := kinm (show _ ∈ tables_1 from (List.mem_append_right _ (List.mem_append_right _ (List.mem_append_right _ (List.mem_append_right _ (List.mem_append_right _ (List.mem_append_right _ (List.mem_append_left _ (List.mem_of_getElem? (l := tables_1_7) (i := 232) rfl))))))))) rfl
theorem d_Bu_perform_0 : decode b_Bu_perform 0 = .ok (.aload_n 0, 1) := by decide +kernel
theorem d_Bu_perform_1 : decode b_Bu_perform 1 = .ok (.getfield 39, 3) := by decide +kernel
theorem d_Bu_perform_4 : decode b_Bu_perform 4 = .ok (.invokevirtual 40, 3) := by decide +kernel
theorem d_Bu_perform_7 : decode b_Bu_perform 7 = .ok (.aload_n 0, 1) := by decide +kernel
theorem d_Bu_perform_8 : decode b_Bu_perform 8 = .ok (.getfield 15, 3) := by decide +kernel
theorem d_Bu_perform_11 : decode b_Bu_perform 11 = .ok (.iconst 3, 1) := by decide +kernel
theorem d_Bu_perform_12 : decode b_Bu_perform 12 = .ok (.putfield 45, 3) := by decide +kernel
theorem d_Bu_perform_15 : decode b_Bu_perform 15 = .ok (.ldc2_w 49, 3) := by decide +kernel
theorem d_Bu_perform_18 : decode b_Bu_perform 18 = .ok (.aload_n 0, 1) := by decide +kernel
theorem d_Bu_perform_19 : decode b_Bu_perform 19 = .ok (.getfield 15, 3) := by decide +kernel
theorem d_Bu_perform_22 : decode b_Bu_perform 22 = .ok (.getfield 51, 3) := by decide +kernel
theorem d_Bu_perform_25 : decode b_Bu_perform 25 = .ok (.lsub, 1) := by decide +kernel
theorem d_Bu_perform_26 : decode b_Bu_perform 26 = .ok (.l2i, 1) := by decide +kernel
theorem d_Bu_perform_27 : decode b_Bu_perform 27 = .ok (.tableswitch 312 0 22 #[105, 112, 119, 153, 179, 186, 193, 200, 207, 214, 221, 228, 235, 242, 249, 256, 263, 270, 277, 284, 291, 298, 305], 105) := by decide +kernel
theorem d_Bu_perform_132 : decode b_Bu_perform 132 = .ok (.aload_n 0, 1) := by decide +kernel
theorem d_Bu_perform_133 : decode b_Bu_perform 133 = .ok (.invokevirtual 55, 3) := by decide +kernel
theorem d_Bu_perform_136 : decode b_Bu_perform 136 = .ok (.goto 207, 3) := by decide +kernel
theorem d_Bu_perform_139 : decode b_Bu_perform 139 = .ok (.aload_n 0, 1) := by decide +kernel
theorem d_Bu_perform_140 : decode b_Bu_perform 140 = .ok (.invokevirtual 58, 3) := by decide +kernel
theorem d_Bu_perform_143 : decode b_Bu_perform 143 = .ok (.goto 200, 3) := by decide +kernel
theorem d_Bu_perform_146 : decode b_Bu_perform 146 = .ok (.aload_n 0, 1) := by decide +kernel
theorem d_Bu_perform_147 : decode b_Bu_perform 147 = .ok (.getfield 39, 3) := by decide +kernel
theorem d_Bu_perform_150 : decode b_Bu_perform 150 = .ok (.iconst 4, 1) := by decide +kernel
theorem d_Bu_perform_151 : decode b_Bu_perform 151 = .ok (.aload_n 0, 1) := by decide +kernel
theorem d_Bu_perform_152 : decode b_Bu_perform 152 = .ok (.getfield 25, 3) := by decide +kernel
theorem d_Bu_perform_155 : decode b_Bu_perform 155 = .ok (.getfield 61, 3) := by decide +kernel
theorem d_Bu_perform_158 : decode b_Bu_perform 158 = .ok (.bipush 46, 2) := by decide +kernel
theorem d_Bu_perform_160 : decode b_Bu_perform 160 = .ok (.aload_n 0, 1) := by decide +kernel
theorem d_Bu_perform_161 : decode b_Bu_perform 161 = .ok (.getfield 35, 3) := by decide +kernel
theorem d_Bu_perform_164 : decode b_Bu_perform 164 = .ok (.iconst 0, 1) := by decide +kernel
theorem d_Bu_perform_165 : decode b_Bu_perform 165 = .ok (.invokevirtual 67, 3) := by decide +kernel
theorem d_Bu_perform_168 : decode b_Bu_perform 168 = .ok (.invokestatic 71, 3) := by decide +kernel
theorem d_Bu_perform_171 : decode b_Bu_perform 171 = .ok (.iadd, 1) := by decide +kernel
theorem d_Bu_perform_172 : decode b_Bu_perform 172 = .ok (.iaload, 1) := by decide +kernel
theorem d_Bu_perform_173 : decode b_Bu_perform 173 = .ok (.i2l, 1) := by decide +kernel
theorem d_Bu_perform_174 : decode b_Bu_perform 174 = .ok (.invokevirtual 74, 3) := by decide +kernel
theorem d_Bu_perform_177 : decode b_Bu_perform 177 = .ok (.goto 166, 3) := by decide +kernel
theorem d_Bu_perform_180 : decode b_Bu_perform 180 = .ok (.aload_n 0, 1) := by decide +kernel
theorem d_Bu_perform_181 : decode b_Bu_perform 181 = .ok (.getfield 15, 3) := by decide +kernel
theorem d_Bu_perform_184 : decode b_Bu_perform 184 = .ok (.aload_n 0, 1) := by decide +kernel
theorem d_Bu_perform_185 : decode b_Bu_perform 185 = .ok (.getfield 35, 3) := by decide +kernel
theorem d_Bu_perform_188 : decode b_Bu_perform 188 = .ok (.iconst 0, 1) := by decide +kernel
theorem d_Bu_perform_189 : decode b_Bu_perform 189 = .ok (.invokevirtual 67, 3) := by decide +kernel
theorem d_Bu_perform_192 : decode b_Bu_perform 192 = .ok (.aload_n 0, 1) := by decide +kernel
theorem d_Bu_perform_193 : decode b_Bu_perform 193 = .ok (.getfield 35, 3) := by decide +kernel
theorem d_Bu_perform_196 : decode b_Bu_perform 196 = .ok (.iconst 0, 1) := by decide +kernel
theorem d_Bu_perform_197 : decode b_Bu_perform 197 = .ok (.invokevirtual 78, 3) := by decide +kernel
theorem d_Bu_perform_200 : decode b_Bu_perform 200 = .ok (.invokevirtual 82, 3) := by decide +kernel
theorem d_Bu_perform_203 : decode b_Bu_perform 203 = .ok (.goto 140, 3) := by decide +kernel
theorem d_Bu_perform_206 : decode b_Bu_perform 206 = .ok (.aload_n 0, 1) := by decide +kernel
theorem d_Bu_perform_207 : decode b_Bu_perform 207 = .ok (.invokevirtual 85, 3) := by decide +kernel
theorem d_Bu_perform_210 : decode b_Bu_perform 210 = .ok (.goto 133, 3) := by decide +kernel
theorem d_Bu_perform_213 : decode b_Bu_perform 213 = .ok (.aload_n 0, 1) := by decide +kernel
theorem d_Bu_perform_214 : decode b_Bu_perform 214 = .ok (.invokevirtual 88, 3) := by decide +kernel
theorem d_Bu_perform_217 : decode b_Bu_perform 217 = .ok (.goto 126, 3) := by decide +kernel
theorem d_Bu_perform_220 : decode b_Bu_perform 220 = .ok (.aload_n 0, 1) := by decide +kernel
theorem d_Bu_perform_221 : decode b_Bu_perform 221 = .ok (.invokevirtual 91, 3) := by decide +kernel
theorem d_Bu_perform_224 : decode b_Bu_perform 224 = .ok (.goto 119, 3) := by decide +kernel
theorem d_Bu_perform_227 : decode b_Bu_perform 227 = .ok (.aload_n 0, 1) := by decide +kernel
theorem d_Bu_perform_228 : decode b_Bu_perform 228 = .ok (.invokevirtual 94, 3) := by decide +kernel
theorem d_Bu_perform_231 : decode b_Bu_perform 231 = .ok (.goto 112, 3) := by decide +kernel
theorem d_Bu_perform_234 : decode b_Bu_perform 234 = .ok (.aload_n 0, 1) := by decide +kernel
theorem d_Bu_perform_235 : decode b_Bu_perform 235 = .ok (.invokevirtual 97, 3) := by decide +kernel
theorem d_Bu_perform_238 : decode b_Bu_perform 238 = .ok (.goto 105, 3) := by decide +kernel
theorem d_Bu_perform_241 : decode b_Bu_perform 241 = .ok (.aload_n 0, 1) := by decide +kernel
theorem d_Bu_perform_242 : decode b_Bu_perform 242 = .ok (.invokevirtual 100, 3) := by decide +kernel
theorem d_Bu_perform_245 : decode b_Bu_perform 245 = .ok (.goto 98, 3) := by decide +kernel
theorem d_Bu_perform_248 : decode b_Bu_perform 248 = .ok (.aload_n 0, 1) := by decide +kernel
theorem d_Bu_perform_249 : decode b_Bu_perform 249 = .ok (.invokevirtual 103, 3) := by decide +kernel
theorem d_Bu_perform_252 : decode b_Bu_perform 252 = .ok (.goto 91, 3) := by decide +kernel
theorem d_Bu_perform_255 : decode b_Bu_perform 255 = .ok (.aload_n 0, 1) := by decide +kernel
theorem d_Bu_perform_256 : decode b_Bu_perform 256 = .ok (.invokevirtual 106, 3) := by decide +kernel
theorem d_Bu_perform_259 : decode b_Bu_perform 259 = .ok (.goto 84, 3) := by decide +kernel
theorem d_Bu_perform_262 : decode b_Bu_perform 262 = .ok (.aload_n 0, 1) := by decide +kernel
theorem d_Bu_perform_263 : decode b_Bu_perform 263 = .ok (.invokevirtual 109, 3) := by decide +kernel
theorem d_Bu_perform_266 : decode b_Bu_perform 266 = .ok (.goto 77, 3) := by decide +kernel
theorem d_Bu_perform_269 : decode b_Bu_perform 269 = .ok (.aload_n 0, 1) := by decide +kernel
theorem d_Bu_perform_270 : decode b_Bu_perform 270 = .ok (.invokevirtual 112, 3) := by decide +kernel
theorem d_Bu_perform_273 : decode b_Bu_perform 273 = .ok (.goto 70, 3) := by decide +kernel
theorem d_Bu_perform_276 : decode b_Bu_perform 276 = .ok (.aload_n 0, 1) := by decide +kernel
theorem d_Bu_perform_277 : decode b_Bu_perform 277 = .ok (.invokevirtual 115, 3) := by decide +kernel
theorem d_Bu_perform_280 : decode b_Bu_perform 280 = .ok (.goto 63, 3) := by decide +kernel
theorem d_Bu_perform_283 : decode b_Bu_perform 283 = .ok (.aload_n 0, 1) := by decide +kernel
theorem d_Bu_perform_284 : decode b_Bu_perform 284 = .ok (.invokevirtual 118, 3) := by decide +kernel
theorem d_Bu_perform_287 : decode b_Bu_perform 287 = .ok (.goto 56, 3) := by decide +kernel
theorem d_Bu_perform_290 : decode b_Bu_perform 290 = .ok (.aload_n 0, 1) := by decide +kernel
theorem d_Bu_perform_291 : decode b_Bu_perform 291 = .ok (.invokevirtual 121, 3) := by decide +kernel
theorem d_Bu_perform_294 : decode b_Bu_perform 294 = .ok (.goto 49, 3) := by decide +kernel
theorem d_Bu_perform_297 : decode b_Bu_perform 297 = .ok (.aload_n 0, 1) := by decide +kernel
theorem d_Bu_perform_298 : decode b_Bu_perform 298 = .ok (.invokevirtual 124, 3) := by decide +kernel
theorem d_Bu_perform_301 : decode b_Bu_perform 301 = .ok (.goto 42, 3) := by decide +kernel
theorem d_Bu_perform_304 : decode b_Bu_perform 304 = .ok (.aload_n 0, 1) := by decide +kernel
theorem d_Bu_perform_305 : decode b_Bu_perform 305 = .ok (.invokevirtual 127, 3) := by decide +kernel
theorem d_Bu_perform_308 : decode b_Bu_perform 308 = .ok (.goto 35, 3) := by decide +kernel
theorem d_Bu_perform_311 : decode b_Bu_perform 311 = .ok (.aload_n 0, 1) := by decide +kernel
theorem d_Bu_perform_312 : decode b_Bu_perform 312 = .ok (.invokevirtual 130, 3) := by decide +kernel
theorem d_Bu_perform_315 : decode b_Bu_perform 315 = .ok (.goto 28, 3) := by decide +kernel
theorem d_Bu_perform_318 : decode b_Bu_perform 318 = .ok (.aload_n 0, 1) := by decide +kernel
theorem d_Bu_perform_319 : decode b_Bu_perform 319 = .ok (.invokevirtual 133, 3) := by decide +kernel
theorem d_Bu_perform_322 : decode b_Bu_perform 322 = .ok (.goto 21, 3) := by decide +kernel
theorem d_Bu_perform_325 : decode b_Bu_perform 325 = .ok (.aload_n 0, 1) := by decide +kernel
theorem d_Bu_perform_326 : decode b_Bu_perform 326 = .ok (.invokevirtual 136, 3) := by decide +kernel
theorem d_Bu_perform_329 : decode b_Bu_perform 329 = .ok (.goto 14, 3) := by decide +kernel
theorem d_Bu_perform_332 : decode b_Bu_perform 332 = .ok (.aload_n 0, 1) := by decide +kernel
theorem d_Bu_perform_333 : decode b_Bu_perform 333 = .ok (.invokevirtual 139, 3) := by decide +kernel
theorem d_Bu_perform_336 : decode b_Bu_perform 336 = .ok (.goto 7, 3) := by decide +kernel
theorem d_Bu_perform_339 : decode b_Bu_perform 339 = .ok (.aload_n 0, 1) := by decide +kernel
theorem d_Bu_perform_340 : decode b_Bu_perform 340 = .ok (.invokevirtual 142, 3) := by decide +kernel
theorem d_Bu_perform_343 : decode b_Bu_perform 343 = .ok (.aload_n 0, 1) := by decide +kernel
theorem d_Bu_perform_344 : decode b_Bu_perform 344 = .ok (.getfield 15, 3) := by decide +kernel
theorem d_Bu_perform_347 : decode b_Bu_perform 347 = .ok (.getfield 45, 3) := by decide +kernel
theorem d_Bu_perform_350 : decode b_Bu_perform 350 = .ok (.iconst 3, 1) := by decide +kernel
theorem d_Bu_perform_351 : decode b_Bu_perform 351 = .ok (.if_icmp .ne 10, 3) := by decide +kernel
theorem d_Bu_perform_354 : decode b_Bu_perform 354 = .ok (.aload_n 0, 1) := by decide +kernel
theorem d_Bu_perform_355 : decode b_Bu_perform 355 = .ok (.getfield 35, 3) := by decide +kernel
theorem d_Bu_perform_358 : decode b_Bu_perform 358 = .ok (.invokevirtual 40, 3) := by decide +kernel
theorem d_Bu_perform_361 : decode b_Bu_perform 361 = .ok (.return_, 1) := by decide +kernel
theorem kw_1550 : Cond.constantLong R_Bu 49 (-1) ∈ wA := kinm (show _ ∈ tables_1 from (List.mem_append_right _ (List.mem_append_right _ (List.mem_append_right _ (List.mem_append_right _ (List.mem_append_right _ (List.mem_append_right _ (List.mem_append_left _ (List.mem_of_getElem? (l := tables_1_7) (i := 234) (by decide +kernel)))))))))) (by decide +kernel)
theorem kw_1551 : Cond.methodLink R_Bu 55 y_Bu_print ∈ wA := kinm (show _ ∈ tables_1 from (List.mem_append_right _ (List.mem_append_right _ (List.mem_append_right _ (List.mem_append_right _ (List.mem_append_right _ (List.mem_append_right _ (List.mem_append_left _ (List.mem_of_getElem? (l := tables_1_7) (i := 235) (by decide +kernel)))))))))) (by decide +kernel)
theorem kw_1552 : Cond.methodLink R_Bu 58 y_Bu_makeText ∈ wA := kinm (show _ ∈ tables_1 from (List.mem_append_right _ (List.mem_append_right _ (List.mem_append_right _ (List.mem_append_right _ (List.mem_append_right _ (List.mem_append_right _ (List.mem_append_right _ (List.mem_append_left _ (List.mem_of_getElem? (l := tables_1_8) (i := 41) (by decide +kernel))))))))))) (by decide +kernel)
theorem kw_1553 : Cond.methodLink R_Bu 71 y_Bu_typeOf ∈ wA := kinm (show _ ∈ tables_1 from (List.mem_append_right _ (List.mem_append_right _ (List.mem_append_right _ (List.mem_append_right _ (List.mem_append_right _ (List.mem_append_right _ (List.mem_append_right _ (List.mem_append_left _ (List.mem_of_getElem? (l := tables_1_8) (i := 63) (by decide +kernel))))))))))) (by decide +kernel)
theorem kw_1554 : Cond.methodLink R_Bu 82 y_Ma_raise ∈ wA := kinm (show _ ∈ tables_1 from (List.mem_append_right _ (List.mem_append_right _ (List.mem_append_right _ (List.mem_append_right _ (List.mem_append_right _ (List.mem_append_right _ (List.mem_append_right _ (List.mem_append_left _ (List.mem_of_getElem? (l := tables_1_8) (i := 66) (by decide +kernel))))))))))) (by decide +kernel)
theorem kw_1555 : Cond.methodLink R_Bu 85 y_Bu_callProtected ∈ wA := kinm (show _ ∈ tables_1 from (List.mem_append_right _ (List.mem_append_right _ (List.mem_append_right _ (List.mem_append_right _ (List.mem_append_right _ (List.mem_append_right _ (List.mem_append_right _ (List.mem_append_left _ (List.mem_of_getElem? (l := tables_1_8) (i := 67) (by decide +kernel))))))))))) (by decide +kernel)
theorem kw_1556 : Cond.methodLink R_Bu 88 y_Bu_setMetatable ∈ wA := kinm (show _ ∈ tables_1 from (List.mem_append_right _ (List.mem_append_right _ (List.mem_append_right _ (List.mem_append_right _ (List.mem_append_right _ (List.mem_append_right _ (List.mem_append_right _ (List.mem_append_left _ (List.mem_of_getElem? (l := tables_1_8) (i := 76) (by decide +kernel))))))))))) (by decide +kernel)
theorem kw_1557 : Cond.methodLink R_Bu 91 y_Bu_getMetatable ∈ wA := kinm (show _ ∈ tables_1 from (List.mem_append_right _ (List.mem_append_right _ (List.mem_append_right _ (List.mem_append_right _ (List.mem_append_right _ (List.mem_append_right _ (List.mem_append_right _ (List.mem_append_left _ (List.mem_of_getElem? (l := tables_1_8) (i := 84) (by decide +kernel))))))))))) (by decide +kernel)
theorem kw_1558 : Cond.methodLink R_Bu 94 y_Bu_readRaw ∈ wA := kinm (show _ ∈ tables_1 from (List.mem_append_right _ (List.mem_append_right _ (List.mem_append_right _ (List.mem_append_right _ (List.mem_append_right _ (List.mem_append_right _ (List.mem_append_right _ (List.mem_append_left _ (List.mem_of_getElem? (l := tables_1_8) (i := 92) (by decide +kernel))))))))))) (by decide +kernel)
theorem kw_1559 : Cond.methodLink R_Bu 97 y_Bu_writeRaw ∈ wA := kinm (show _ ∈ tables_1 from (List.mem_append_right _ (List.mem_append_right _ (List.mem_append_right _ (List.mem_append_right _ (List.mem_append_right _ (List.mem_append_right _ (List.mem_append_right _ (List.mem_append_left _ (List.mem_of_getElem? (l := tables_1_8) (i := 97) (by decide +kernel))))))))))) (by decide +kernel)
theorem kw_1560 : Cond.methodLink R_Bu 100 y_Bu_measureRaw ∈ wA := kinm (show _ ∈ tables_1 from (List.mem_append_right _ (List.mem_append_right _ (List.mem_append_right _ (List.mem_append_right _ (List.mem_append_right _ (List.mem_append_right _ (List.mem_append_right _ (List.mem_append_left _ (List.mem_of_getElem? (l := tables_1_8) (i := 102) (by decide +kernel))))))))))) (by decide +kernel)
theorem kw_1561 : Cond.methodLink R_Bu 103 y_Bu_compareRaw ∈ wA := kinm (show _ ∈ tables_1 from (List.mem_append_right _ (List.mem_append_right _ (List.mem_append_right _ (List.mem_append_right _ (List.mem_append_right _ (List.mem_append_right _ (List.mem_append_right _ (List.mem_append_left _ (List.mem_of_getElem? (l := tables_1_8) (i := 111) (by decide +kernel))))))))))) (by decide +kernel)
theorem kw_1562 : Cond.methodLink R_Bu 106 y_Bu_next ∈ wA := kinm (show _ ∈ tables_1 from (List.mem_append_right _ (List.mem_append_right _ (List.mem_append_right _ (List.mem_append_right _ (List.mem_append_right _ (List.mem_append_right _ (List.mem_append_right _ (List.mem_append_left _ (List.mem_of_getElem? (l := tables_1_8) (i := 119) (by decide +kernel))))))))))) (by decide +kernel)
theorem kw_1563 : Cond.methodLink R_Bu 109 y_Bu_select ∈ wA := kinm (show _ ∈ tables_1 from (List.mem_append_right _ (List.mem_append_right _ (List.mem_append_right _ (List.mem_append_right _ (List.mem_append_right _ (List.mem_append_right _ (List.mem_append_right _ (List.mem_append_left _ (List.mem_of_getElem? (l := tables_1_8) (i := 123) (by decide +kernel))))))))))) (by decide +kernel)
theorem kw_1564 : Cond.methodLink R_Bu 112 y_Bu_cut ∈ wA := kinm (show _ ∈ tables_1 from (List.mem_append_right _ (List.mem_append_right _ (List.mem_append_right _ (List.mem_append_right _ (List.mem_append_right _ (List.mem_append_right _ (List.mem_append_right _ (List.mem_append_left _ (List.mem_of_getElem? (l := tables_1_8) (i := 135) (by decide +kernel))))))))))) (by decide +kernel)
theorem kw_1565 : Cond.methodLink R_Bu 115 y_Bu_tellByte ∈ wA := kinm (show _ ∈ tables_1 from (List.mem_append_right _ (List.mem_append_right _ (List.mem_append_right _ (List.mem_append_right _ (List.mem_append_right _ (List.mem_append_right _ (List.mem_append_right _ (List.mem_append_left _ (List.mem_of_getElem? (l := tables_1_8) (i := 150) (by decide +kernel))))))))))) (by decide +kernel)
theorem kw_1566 : Cond.methodLink R_Bu 118 y_Bu_makeOfBytes ∈ wA := kinm (show _ ∈ tables_1 from (List.mem_append_right _ (List.mem_append_right _ (List.mem_append_right _ (List.mem_append_right _ (List.mem_append_right _ (List.mem_append_right _ (List.mem_append_right _ (List.mem_append_left _ (List.mem_of_getElem? (l := tables_1_8) (i := 154) (by decide +kernel))))))))))) (by decide +kernel)
theorem kw_1567 : Cond.methodLink R_Bu 121 y_Bu_measure ∈ wA := kinm (show _ ∈ tables_1 from (List.mem_append_right _ (List.mem_append_right _ (List.mem_append_right _ (List.mem_append_right _ (List.mem_append_right _ (List.mem_append_right _ (List.mem_append_right _ (List.mem_append_left _ (List.mem_of_getElem? (l := tables_1_8) (i := 160) (by decide +kernel))))))))))) (by decide +kernel)
theorem kw_1568 : Cond.methodLink R_Bu 124 y_Bu_create ∈ wA := kinm (show _ ∈ tables_1 from (List.mem_append_right _ (List.mem_append_right _ (List.mem_append_right _ (List.mem_append_right _ (List.mem_append_right _ (List.mem_append_right _ (List.mem_append_right _ (List.mem_append_left _ (List.mem_of_getElem? (l := tables_1_8) (i := 164) (by decide +kernel))))))))))) (by decide +kernel)
theorem kw_1569 : Cond.methodLink R_Bu 127 y_Bu_resume ∈ wA := kinm (show _ ∈ tables_1 from (List.mem_append_right _ (List.mem_append_right _ (List.mem_append_right _ (List.mem_append_right _ (List.mem_append_right _ (List.mem_append_right _ (List.mem_append_right _ (List.mem_append_left _ (List.mem_of_getElem? (l := tables_1_8) (i := 173) (by decide +kernel))))))))))) (by decide +kernel)
theorem kw_1570 : Cond.methodLink R_Bu 130 y_Bu_giveWay ∈ wA := kinm (show _ ∈ tables_1 from (List.mem_append_right _ (List.mem_append_right _ (List.mem_append_right _ (List.mem_append_right _ (List.mem_append_right _ (List.mem_append_right _ (List.mem_append_right _ (List.mem_append_left _ (List.mem_of_getElem? (l := tables_1_8) (i := 184) (by decide +kernel))))))))))) (by decide +kernel)
theorem kw_1571 : Cond.methodLink R_Bu 133 y_Bu_tellStatus ∈ wA := kinm (show _ ∈ tables_1 from (List.mem_append_right _ (List.mem_append_right _ (List.mem_append_right _ (List.mem_append_right _ (List.mem_append_right _ (List.mem_append_right _ (List.mem_append_right _ (List.mem_append_left _ (List.mem_of_getElem? (l := tables_1_8) (i := 200) (by decide +kernel))))))))))) (by decide +kernel)
theorem kw_1572 : Cond.methodLink R_Bu 136 y_Bu_tellRunning ∈ wA := kinm (show _ ∈ tables_1 from (List.mem_append_right _ (List.mem_append_right _ (List.mem_append_right _ (List.mem_append_right _ (List.mem_append_right _ (List.mem_append_right _ (List.mem_append_right _ (List.mem_append_left _ (List.mem_of_getElem? (l := tables_1_8) (i := 204) (by decide +kernel))))))))))) (by decide +kernel)
theorem kw_1573 : Cond.methodLink R_Bu 139 y_Bu_wrap ∈ wA := kinm (show _ ∈ tables_1 from (List.mem_append_right _ (List.mem_append_right _ (List.mem_append_right _ (List.mem_append_right _ (List.mem_append_right _ (List.mem_append_right _ (List.mem_append_right _ (List.mem_append_left _ (List.mem_of_getElem? (l := tables_1_8) (i := 208) (by decide +kernel))))))))))) (by decide +kernel)
theorem kw_1574 : Cond.methodLink R_Bu 142 y_Bu_cleanUp ∈ wA := kinm (show _ ∈ tables_1 from (List.mem_append_right _ (List.mem_append_right _ (List.mem_append_right _ (List.mem_append_right _ (List.mem_append_right _ (List.mem_append_right _ (List.mem_append_right _ (List.mem_append_left _ (List.mem_of_getElem? (l := tables_1_8) (i := 214) (by decide +kernel))))))))))) (by decide +kernel)
theorem kw_1575 : Cond.instanceMethod y_Bu_perform ∈ wA := kinm (show _ ∈ tables_1 from (List.mem_append_right _ (List.mem_append_right _ (List.mem_append_right _ (List.mem_append_right _ (List.mem_append_right _ (List.mem_append_right _ (List.mem_append_left _ (List.mem_of_getElem? (l := tables_1_7) (i := 230) (by decide +kernel)))))))))) (by decide +kernel)
theorem kw_1576 : Cond.selects R_Bu y_Bu_perform y_Bu_perform ∈ wA := kinm (show _ ∈ tables_1 from (List.mem_append_right _ (List.mem_append_right _ (List.mem_append_right _ (List.mem_append_right _ (List.mem_append_right _ (List.mem_append_right _ (List.mem_append_left _ (List.mem_of_getElem? (l := tables_1_7) (i := 231) (by decide +kernel)))))))))) (by decide +kernel)
theorem cv_Bu_perform : CV y_Bu_perform b_Bu_perform 1 none 0 := ⟨kw_1575, kw_1576, kw_950, k_Bu_perform, by decide +kernel⟩
theorem j_Bu_perform_j343 {X : Cx} {q0 q : PL} (g : Gd X y_Bu_perform b_Bu_perform 1 none 8 219 R_Bu) {o : (Unit × (Nat × Nat)) × S1} (hR : RtX X [118, 146, 149, 150, 151, 153, 154] q0 o.1.2 o.2 (fun _ => none)) (hx0 : Exq (xP X) [118, 146, 149, 150, 151, 153, 154] q0 q) (ln : Nat × Nat) (hm : Rmq (xP X) q ln) (s : S1) (ls : Array Slot) (hl : lv_has ls 1 [(0, .ref (q.1 130 0))]) (h : M_Bu_perform_j343 ln s = some o) : WW X q s 343 ls [] := by
  unfold M_Bu_perform_j343 at h
  refine ww_aload_n (pc := 343) g.1 d_Bu_perform_343 rfl (lv_at hl 0 rfl) ?_
  refine ww_gR (pc := 344) g (k := 2) cl_Bu (pz rfl (by decide)) (by decide) (Or.inl kw_995) (f := 16642) (t := 128) rfl rfl rfl d_Bu_perform_344 ?_
  refine ww_gI (pc := 347) g (k := 12) cl_Ma (pz rfl (by decide)) (by decide) (Or.inl kw_1151) (f := 16396) rfl rfl d_Bu_perform_347 h fun v347 h => ?_
  refine ww_iconst (pc := 350) g.1 (v := 3) d_Bu_perform_350 (by decide) ?_
  refine ww_icmp_ne (pc := 351) (tgt := 361) g.1 d_Bu_perform_351 (by decide) h (fun c h => ?_) (fun c h => ?_)
  · exact ww_vretX (pc := 361) g h hR hx0 hm d_Bu_perform_361
  · refine ww_aload_n (pc := 354) g.1 d_Bu_perform_354 rfl (lv_at hl 0 rfl) ?_
    refine ww_gR (pc := 355) g (k := 5) cl_Bu (pz rfl (by decide)) (by decide) (Or.inl kw_976) (f := 16645) (t := 132) rfl rfl rfl d_Bu_perform_355 ?_
    obtain ⟨v358, s, hc358, h⟩ := oB_of h
    refine ww_callV (pc := 358) (rest := []) g cv_Ro_clear (Or.inl kw_1320) (cl_Ro ⟨by decide, rfl⟩) (pz rfl (by decide)) (ct_Ro_clear ⟨by decide, rfl⟩ hc358) ⟨by decide, by decide⟩ rfl hl.1 (Nat.le_of_ble_eq_true rfl) d_Bu_perform_358 rfl (?_)
    refine ww_st (st' := []) rfl ?_
    exact ww_vretX (pc := 361) g h hR hx0 hm d_Bu_perform_361

theorem ct_Bu_perform {l : Launch} {P : PP} {q : PL} {s s' : S1} {n0 n1 : Nat × Nat}  {r : Unit} (hm : Rmq P q n0) (h : M_Bu_perform n0 s = some ((r, n1), s')) : CtX l y_Bu_perform b_Bu_perform 1 none 8 219 P [118, 146, 149, 150, 151, 153, 154] q s [.ref (q.1 130 0)] (fun _ => none) n1 s' := by
  refine ctX_of (by decide) (Nat.le_of_ble_eq_true rfl) fun X ls eP el g hR hl => ?_
  subst eP
  obtain ⟨q0, hq0⟩ : ∃ q0 : PL, q0 = q := ⟨q, rfl⟩
  have hx0 : Exq (xP X) [118, 146, 149, 150, 151, 153, 154] q0 q := hq0 ▸ Exq.rf
  rw [← hq0] at hR
  have hR : RtX X [118, 146, 149, 150, 151, 153, 154] q0 (((r, n1), s') : (Unit × (Nat × Nat)) × S1).1.2 (((r, n1), s') : (Unit × (Nat × Nat)) × S1).2 (fun _ => none) := hR
  have hl : lv_has ls 1 [(0, .ref (q.1 130 0))] := hl
  generalize ((r, n1), s') = o at h hR
  unfold M_Bu_perform at h
  refine ww_aload_n (pc := 0) g.1 d_Bu_perform_0 rfl (lv_at hl 0 rfl) ?_
  refine ww_gR (pc := 1) g (k := 6) cl_Bu (pz rfl (by decide)) (by decide) (Or.inl kw_967) (f := 16646) (t := 135) rfl rfl rfl d_Bu_perform_1 ?_
  obtain ⟨v4, s, hc4, h⟩ := oB_of h
  refine ww_callV (pc := 4) (rest := []) g cv_Ro_clear (Or.inl kw_1320) (cl_Ro ⟨by decide, rfl⟩) (pz rfl (by decide)) (ct_Ro_clear ⟨by decide, rfl⟩ hc4) ⟨by decide, by decide⟩ rfl hl.1 (Nat.le_of_ble_eq_true rfl) d_Bu_perform_4 rfl (?_)
  refine ww_st (st' := []) rfl ?_
  refine ww_aload_n (pc := 7) g.1 d_Bu_perform_7 rfl (lv_at hl 0 rfl) ?_
  refine ww_gR (pc := 8) g (k := 2) cl_Bu (pz rfl (by decide)) (by decide) (Or.inl kw_995) (f := 16642) (t := 128) rfl rfl rfl d_Bu_perform_8 ?_
  refine ww_iconst (pc := 11) g.1 (v := 3) d_Bu_perform_11 (by decide) ?_
  refine ww_pI (pc := 12) g (k := 12) cl_Ma (pz rfl (by decide)) (by decide) (Or.inl kw_1151) rfl (f := 16396) rfl rfl rfl rfl d_Bu_perform_12 h fun s hs h => ?_
  refine ww_ldc2 (pc := 15) g (v := (-1)) kw_1550 d_Bu_perform_15 ?_
  refine ww_aload_n (pc := 18) g.1 d_Bu_perform_18 rfl (lv_at hl 0 rfl) ?_
  refine ww_gR (pc := 19) g (k := 2) cl_Bu (pz rfl (by decide)) (by decide) (Or.inl kw_995) (f := 16642) (t := 128) rfl rfl rfl d_Bu_perform_19 ?_
  refine ww_gL (pc := 22) g (k := 14) cl_Ma (pz rfl (by decide)) (by decide) (Or.inl kw_1149) (f := 16398) rfl rfl d_Bu_perform_22 h fun v22 h => ?_
  refine ww_lsub (pc := 25) g.1 d_Bu_perform_25 ?_
  refine ww_l2i (pc := 26) g.1 (v := ((-1) - v22).toInt32) d_Bu_perform_26 rfl ?_
  by_cases c27_132 : (((-1) - v22).toInt32) = 0
  · have h := oC_pos c27_132 h
    have c := c27_132
    refine ww_tableIn (pc := 27) (tgt := 132) g.1 d_Bu_perform_27 (by rw [c]; decide) (by rw [c]; decide) (by rw [c] <;> rfl) (by decide) ?_
    refine ww_aload_n (pc := 132) g.1 d_Bu_perform_132 rfl (lv_at hl 0 rfl) ?_
    refine ww_lo fun dlo => ?_
    obtain ⟨v133, s, hc133, h⟩ := oB_of h
    refine ww_callVX (pc := 133) (rest := []) g cv_Bu_print (Or.inl kw_1551) cl_Bu (pz rfl (by decide)) (ct_Bu_print hm hc133) ⟨by decide, by decide⟩ rfl hl.1 (Nat.le_of_ble_eq_true rfl) d_Bu_perform_133 rfl (fun q133 hE hm => ?_)
    have ex133_0 : q133.1 130 0 = q.1 130 0 := hE _ _ (by decide) (dlo _ _ (pz rfl (by decide)))
    have hl : lv_has ls 1 [(0, .ref (q133.1 130 0))] := by rw [ex133_0]; exact hl
    refine ww_st (st' := []) (by rfl) ?_
    have hx0 : Exq (xP X) [118, 146, 149, 150, 151, 153, 154] _ q133 := hx0.tr (hE.sub (by decide))
    refine ww_goto (pc := 136) (tgt := 343) g.1 d_Bu_perform_136 (by decide) ?_
    exact j_Bu_perform_j343 g hR hx0 v133.2 hm s ls (lv_sub hl [0] rfl) h
  have h := oC_neg c27_132 h
  by_cases c27_139 : (((-1) - v22).toInt32) = 1
  · have h := oC_pos c27_139 h
    have c := c27_139
    refine ww_tableIn (pc := 27) (tgt := 139) g.1 d_Bu_perform_27 (by rw [c]; decide) (by rw [c]; decide) (by rw [c] <;> rfl) (by decide) ?_
    refine ww_aload_n (pc := 139) g.1 d_Bu_perform_139 rfl (lv_at hl 0 rfl) ?_
    refine ww_lo fun dlo => ?_
    obtain ⟨v140, s, hc140, h⟩ := oB_of h
    refine ww_callVX (pc := 140) (rest := []) g cv_Bu_makeText (Or.inl kw_1552) cl_Bu (pz rfl (by decide)) (ct_Bu_makeText hm hc140) ⟨by decide, by decide⟩ rfl hl.1 (Nat.le_of_ble_eq_true rfl) d_Bu_perform_140 rfl (fun q140 hE hm => ?_)
    have ex140_0 : q140.1 130 0 = q.1 130 0 := hE _ _ (by decide) (dlo _ _ (pz rfl (by decide)))
    have hl : lv_has ls 1 [(0, .ref (q140.1 130 0))] := by rw [ex140_0]; exact hl
    refine ww_st (st' := []) (by rfl) ?_
    have hx0 : Exq (xP X) [118, 146, 149, 150, 151, 153, 154] _ q140 := hx0.tr (hE.sub (by decide))
    refine ww_goto (pc := 143) (tgt := 343) g.1 d_Bu_perform_143 (by decide) ?_
    exact j_Bu_perform_j343 g hR hx0 v140.2 hm s ls (lv_sub hl [0] rfl) h
  have h := oC_neg c27_139 h
  by_cases c27_146 : (((-1) - v22).toInt32) = 2
  · have h := oC_pos c27_146 h
    have c := c27_146
    refine ww_tableIn (pc := 27) (tgt := 146) g.1 d_Bu_perform_27 (by rw [c]; decide) (by rw [c]; decide) (by rw [c] <;> rfl) (by decide) ?_
    refine ww_aload_n (pc := 146) g.1 d_Bu_perform_146 rfl (lv_at hl 0 rfl) ?_
    refine ww_gR (pc := 147) g (k := 6) cl_Bu (pz rfl (by decide)) (by decide) (Or.inl kw_967) (f := 16646) (t := 135) rfl rfl rfl d_Bu_perform_147 ?_
    refine ww_iconst (pc := 150) g.1 (v := 4) d_Bu_perform_150 (by decide) ?_
    refine ww_aload_n (pc := 151) g.1 d_Bu_perform_151 rfl (lv_at hl 0 rfl) ?_
    refine ww_gR (pc := 152) g (k := 3) cl_Bu (pz rfl (by decide)) (by decide) (Or.inl kw_974) (f := 16643) (t := 111) rfl rfl rfl d_Bu_perform_152 ?_
    refine ww_gR (pc := 155) g (k := 5) cl_He (pz rfl (by decide)) (by decide) (Or.inl kw_1201) (f := 14213) (t := 115) rfl rfl rfl d_Bu_perform_155 ?_
    refine ww_bipush (pc := 158) g.1 (v := 46) d_Bu_perform_158 (by decide) ?_
    refine ww_aload_n (pc := 160) g.1 d_Bu_perform_160 rfl (lv_at hl 0 rfl) ?_
    refine ww_gR (pc := 161) g (k := 5) cl_Bu (pz rfl (by decide)) (by decide) (Or.inl kw_976) (f := 16645) (t := 132) rfl rfl rfl d_Bu_perform_161 ?_
    refine ww_iconst (pc := 164) g.1 (v := 0) d_Bu_perform_164 (by decide) ?_
    obtain ⟨v165, s, hc165, h⟩ := oB_of h
    refine ww_callV (pc := 165) (rest := [.int 46, .ref (q.1 115 0), .int 4, .ref (q.1 135 0)]) g cv_Ro_kindAt (Or.inl kw_983) (cl_Ro ⟨by decide, rfl⟩) (pz rfl (by decide)) (ct_Ro_kindAt ⟨by decide, rfl⟩ hc165) ⟨by decide, by decide⟩ rfl hl.1 (Nat.le_of_ble_eq_true rfl) d_Bu_perform_165 rfl (?_)
    refine ww_st (st' := [.int v165, .int 46, .ref (q.1 115 0), .int 4, .ref (q.1 135 0)]) rfl ?_
    obtain ⟨v168, s, hc168, h⟩ := oB_of h
    refine ww_callS (pc := 168) (rest := [.int 46, .ref (q.1 115 0), .int 4, .ref (q.1 135 0)]) g cs_Bu_typeOf (Or.inl kw_1553) (ct_Bu_typeOf hc168) ⟨by decide, by decide⟩ rfl hl.1 (Nat.le_of_ble_eq_true rfl) d_Bu_perform_168 rfl (?_)
    refine ww_st (st' := [.int v168, .int 46, .ref (q.1 115 0), .int 4, .ref (q.1 135 0)]) rfl ?_
    refine ww_iadd (pc := 171) g.1 d_Bu_perform_171 ?_
    refine ww_ai (pc := 172) g (pz rfl (by decide)) rfl rfl d_Bu_perform_172 h fun v172 h => ?_
    refine ww_i2l (pc := 173) g.1 (v := v172.toInt64) d_Bu_perform_173 rfl ?_
    obtain ⟨v174, s, hc174, h⟩ := oB_of h
    refine ww_callV (pc := 174) (rest := []) g cv_Ro_add (Or.inl kw_971) (cl_Ro ⟨by decide, rfl⟩) (pz rfl (by decide)) (ct_Ro_add ⟨by decide, rfl⟩ hc174) ⟨by decide, by decide⟩ rfl hl.1 (Nat.le_of_ble_eq_true rfl) d_Bu_perform_174 rfl (?_)
    refine ww_st (st' := []) rfl ?_
    refine ww_goto (pc := 177) (tgt := 343) g.1 d_Bu_perform_177 (by decide) ?_
    exact j_Bu_perform_j343 g hR hx0 n0 hm s ls (lv_sub hl [0] rfl) h
  have h := oC_neg c27_146 h
  by_cases c27_180 : (((-1) - v22).toInt32) = 3
  · have h := oC_pos c27_180 h
    have c := c27_180
    refine ww_tableIn (pc := 27) (tgt := 180) g.1 d_Bu_perform_27 (by rw [c]; decide) (by rw [c]; decide) (by rw [c] <;> rfl) (by decide) ?_
    refine ww_aload_n (pc := 180) g.1 d_Bu_perform_180 rfl (lv_at hl 0 rfl) ?_
    refine ww_gR (pc := 181) g (k := 2) cl_Bu (pz rfl (by decide)) (by decide) (Or.inl kw_995) (f := 16642) (t := 128) rfl rfl rfl d_Bu_perform_181 ?_
    refine ww_aload_n (pc := 184) g.1 d_Bu_perform_184 rfl (lv_at hl 0 rfl) ?_
    refine ww_gR (pc := 185) g (k := 5) cl_Bu (pz rfl (by decide)) (by decide) (Or.inl kw_976) (f := 16645) (t := 132) rfl rfl rfl d_Bu_perform_185 ?_
    refine ww_iconst (pc := 188) g.1 (v := 0) d_Bu_perform_188 (by decide) ?_
    obtain ⟨v189, s, hc189, h⟩ := oB_of h
    refine ww_callV (pc := 189) (rest := [.ref (q.1 128 0)]) g cv_Ro_kindAt (Or.inl kw_983) (cl_Ro ⟨by decide, rfl⟩) (pz rfl (by decide)) (ct_Ro_kindAt ⟨by decide, rfl⟩ hc189) ⟨by decide, by decide⟩ rfl hl.1 (Nat.le_of_ble_eq_true rfl) d_Bu_perform_189 rfl (?_)
    refine ww_st (st' := [.int v189, .ref (q.1 128 0)]) rfl ?_
    refine ww_aload_n (pc := 192) g.1 d_Bu_perform_192 rfl (lv_at hl 0 rfl) ?_
    refine ww_gR (pc := 193) g (k := 5) cl_Bu (pz rfl (by decide)) (by decide) (Or.inl kw_976) (f := 16645) (t := 132) rfl rfl rfl d_Bu_perform_193 ?_
    refine ww_iconst (pc := 196) g.1 (v := 0) d_Bu_perform_196 (by decide) ?_
    obtain ⟨v197, s, hc197, h⟩ := oB_of h
    refine ww_callV (pc := 197) (rest := [.int v189, .ref (q.1 128 0)]) g cv_Ro_valueAt (Or.inl kw_977) (cl_Ro ⟨by decide, rfl⟩) (pz rfl (by decide)) (ct_Ro_valueAt ⟨by decide, rfl⟩ hc197) ⟨by decide, by decide⟩ rfl hl.1 (Nat.le_of_ble_eq_true rfl) d_Bu_perform_197 rfl (?_)
    refine ww_st (st' := [.long v197, .int v189, .ref (q.1 128 0)]) rfl ?_
    obtain ⟨v200, s, hc200, h⟩ := oB_of h
    refine ww_callV (pc := 200) (rest := []) g cv_Ma_raise (Or.inl kw_1554) cl_Ma (pz rfl (by decide)) (ct_Ma_raise hc200) ⟨by decide, by decide⟩ rfl hl.1 (Nat.le_of_ble_eq_true rfl) d_Bu_perform_200 rfl (?_)
    refine ww_st (st' := []) rfl ?_
    refine ww_goto (pc := 203) (tgt := 343) g.1 d_Bu_perform_203 (by decide) ?_
    exact j_Bu_perform_j343 g hR hx0 n0 hm s ls (lv_sub hl [0] rfl) h
  have h := oC_neg c27_180 h
  by_cases c27_206 : (((-1) - v22).toInt32) = 4
  · have h := oC_pos c27_206 h
    have c := c27_206
    refine ww_tableIn (pc := 27) (tgt := 206) g.1 d_Bu_perform_27 (by rw [c]; decide) (by rw [c]; decide) (by rw [c] <;> rfl) (by decide) ?_
    refine ww_aload_n (pc := 206) g.1 d_Bu_perform_206 rfl (lv_at hl 0 rfl) ?_
    obtain ⟨v207, s, hc207, h⟩ := oB_of h
    refine ww_callV (pc := 207) (rest := []) g cv_Bu_callProtected (Or.inl kw_1555) cl_Bu (pz rfl (by decide)) (ct_Bu_callProtected hc207) ⟨by decide, by decide⟩ rfl hl.1 (Nat.le_of_ble_eq_true rfl) d_Bu_perform_207 rfl (?_)
    refine ww_st (st' := []) rfl ?_
    refine ww_goto (pc := 210) (tgt := 343) g.1 d_Bu_perform_210 (by decide) ?_
    exact j_Bu_perform_j343 g hR hx0 n0 hm s ls (lv_sub hl [0] rfl) h
  have h := oC_neg c27_206 h
  by_cases c27_213 : (((-1) - v22).toInt32) = 5
  · have h := oC_pos c27_213 h
    have c := c27_213
    refine ww_tableIn (pc := 27) (tgt := 213) g.1 d_Bu_perform_27 (by rw [c]; decide) (by rw [c]; decide) (by rw [c] <;> rfl) (by decide) ?_
    refine ww_aload_n (pc := 213) g.1 d_Bu_perform_213 rfl (lv_at hl 0 rfl) ?_
    obtain ⟨v214, s, hc214, h⟩ := oB_of h
    refine ww_callV (pc := 214) (rest := []) g cv_Bu_setMetatable (Or.inl kw_1556) cl_Bu (pz rfl (by decide)) (ct_Bu_setMetatable hc214) ⟨by decide, by decide⟩ rfl hl.1 (Nat.le_of_ble_eq_true rfl) d_Bu_perform_214 rfl (?_)
    refine ww_st (st' := []) rfl ?_
    refine ww_goto (pc := 217) (tgt := 343) g.1 d_Bu_perform_217 (by decide) ?_
    exact j_Bu_perform_j343 g hR hx0 n0 hm s ls (lv_sub hl [0] rfl) h
  have h := oC_neg c27_213 h
  by_cases c27_220 : (((-1) - v22).toInt32) = 6
  · have h := oC_pos c27_220 h
    have c := c27_220
    refine ww_tableIn (pc := 27) (tgt := 220) g.1 d_Bu_perform_27 (by rw [c]; decide) (by rw [c]; decide) (by rw [c] <;> rfl) (by decide) ?_
    refine ww_aload_n (pc := 220) g.1 d_Bu_perform_220 rfl (lv_at hl 0 rfl) ?_
    obtain ⟨v221, s, hc221, h⟩ := oB_of h
    refine ww_callV (pc := 221) (rest := []) g cv_Bu_getMetatable (Or.inl kw_1557) cl_Bu (pz rfl (by decide)) (ct_Bu_getMetatable hc221) ⟨by decide, by decide⟩ rfl hl.1 (Nat.le_of_ble_eq_true rfl) d_Bu_perform_221 rfl (?_)
    refine ww_st (st' := []) rfl ?_
    refine ww_goto (pc := 224) (tgt := 343) g.1 d_Bu_perform_224 (by decide) ?_
    exact j_Bu_perform_j343 g hR hx0 n0 hm s ls (lv_sub hl [0] rfl) h
  have h := oC_neg c27_220 h
  by_cases c27_227 : (((-1) - v22).toInt32) = 7
  · have h := oC_pos c27_227 h
    have c := c27_227
    refine ww_tableIn (pc := 27) (tgt := 227) g.1 d_Bu_perform_27 (by rw [c]; decide) (by rw [c]; decide) (by rw [c] <;> rfl) (by decide) ?_
    refine ww_aload_n (pc := 227) g.1 d_Bu_perform_227 rfl (lv_at hl 0 rfl) ?_
    obtain ⟨v228, s, hc228, h⟩ := oB_of h
    refine ww_callV (pc := 228) (rest := []) g cv_Bu_readRaw (Or.inl kw_1558) cl_Bu (pz rfl (by decide)) (ct_Bu_readRaw hc228) ⟨by decide, by decide⟩ rfl hl.1 (Nat.le_of_ble_eq_true rfl) d_Bu_perform_228 rfl (?_)
    refine ww_st (st' := []) rfl ?_
    refine ww_goto (pc := 231) (tgt := 343) g.1 d_Bu_perform_231 (by decide) ?_
    exact j_Bu_perform_j343 g hR hx0 n0 hm s ls (lv_sub hl [0] rfl) h
  have h := oC_neg c27_227 h
  by_cases c27_234 : (((-1) - v22).toInt32) = 8
  · have h := oC_pos c27_234 h
    have c := c27_234
    refine ww_tableIn (pc := 27) (tgt := 234) g.1 d_Bu_perform_27 (by rw [c]; decide) (by rw [c]; decide) (by rw [c] <;> rfl) (by decide) ?_
    refine ww_aload_n (pc := 234) g.1 d_Bu_perform_234 rfl (lv_at hl 0 rfl) ?_
    obtain ⟨v235, s, hc235, h⟩ := oB_of h
    refine ww_callV (pc := 235) (rest := []) g cv_Bu_writeRaw (Or.inl kw_1559) cl_Bu (pz rfl (by decide)) (ct_Bu_writeRaw hc235) ⟨by decide, by decide⟩ rfl hl.1 (Nat.le_of_ble_eq_true rfl) d_Bu_perform_235 rfl (?_)
    refine ww_st (st' := []) rfl ?_
    refine ww_goto (pc := 238) (tgt := 343) g.1 d_Bu_perform_238 (by decide) ?_
    exact j_Bu_perform_j343 g hR hx0 n0 hm s ls (lv_sub hl [0] rfl) h
  have h := oC_neg c27_234 h
  by_cases c27_241 : (((-1) - v22).toInt32) = 9
  · have h := oC_pos c27_241 h
    have c := c27_241
    refine ww_tableIn (pc := 27) (tgt := 241) g.1 d_Bu_perform_27 (by rw [c]; decide) (by rw [c]; decide) (by rw [c] <;> rfl) (by decide) ?_
    refine ww_aload_n (pc := 241) g.1 d_Bu_perform_241 rfl (lv_at hl 0 rfl) ?_
    obtain ⟨v242, s, hc242, h⟩ := oB_of h
    refine ww_callV (pc := 242) (rest := []) g cv_Bu_measureRaw (Or.inl kw_1560) cl_Bu (pz rfl (by decide)) (ct_Bu_measureRaw hc242) ⟨by decide, by decide⟩ rfl hl.1 (Nat.le_of_ble_eq_true rfl) d_Bu_perform_242 rfl (?_)
    refine ww_st (st' := []) rfl ?_
    refine ww_goto (pc := 245) (tgt := 343) g.1 d_Bu_perform_245 (by decide) ?_
    exact j_Bu_perform_j343 g hR hx0 n0 hm s ls (lv_sub hl [0] rfl) h
  have h := oC_neg c27_241 h
  by_cases c27_248 : (((-1) - v22).toInt32) = 10
  · have h := oC_pos c27_248 h
    have c := c27_248
    refine ww_tableIn (pc := 27) (tgt := 248) g.1 d_Bu_perform_27 (by rw [c]; decide) (by rw [c]; decide) (by rw [c] <;> rfl) (by decide) ?_
    refine ww_aload_n (pc := 248) g.1 d_Bu_perform_248 rfl (lv_at hl 0 rfl) ?_
    obtain ⟨v249, s, hc249, h⟩ := oB_of h
    refine ww_callV (pc := 249) (rest := []) g cv_Bu_compareRaw (Or.inl kw_1561) cl_Bu (pz rfl (by decide)) (ct_Bu_compareRaw hc249) ⟨by decide, by decide⟩ rfl hl.1 (Nat.le_of_ble_eq_true rfl) d_Bu_perform_249 rfl (?_)
    refine ww_st (st' := []) rfl ?_
    refine ww_goto (pc := 252) (tgt := 343) g.1 d_Bu_perform_252 (by decide) ?_
    exact j_Bu_perform_j343 g hR hx0 n0 hm s ls (lv_sub hl [0] rfl) h
  have h := oC_neg c27_248 h
  by_cases c27_255 : (((-1) - v22).toInt32) = 11
  · have h := oC_pos c27_255 h
    have c := c27_255
    refine ww_tableIn (pc := 27) (tgt := 255) g.1 d_Bu_perform_27 (by rw [c]; decide) (by rw [c]; decide) (by rw [c] <;> rfl) (by decide) ?_
    refine ww_aload_n (pc := 255) g.1 d_Bu_perform_255 rfl (lv_at hl 0 rfl) ?_
    obtain ⟨v256, s, hc256, h⟩ := oB_of h
    refine ww_callV (pc := 256) (rest := []) g cv_Bu_next (Or.inl kw_1562) cl_Bu (pz rfl (by decide)) (ct_Bu_next hc256) ⟨by decide, by decide⟩ rfl hl.1 (Nat.le_of_ble_eq_true rfl) d_Bu_perform_256 rfl (?_)
    refine ww_st (st' := []) rfl ?_
    refine ww_goto (pc := 259) (tgt := 343) g.1 d_Bu_perform_259 (by decide) ?_
    exact j_Bu_perform_j343 g hR hx0 n0 hm s ls (lv_sub hl [0] rfl) h
  have h := oC_neg c27_255 h
  by_cases c27_262 : (((-1) - v22).toInt32) = 12
  · have h := oC_pos c27_262 h
    have c := c27_262
    refine ww_tableIn (pc := 27) (tgt := 262) g.1 d_Bu_perform_27 (by rw [c]; decide) (by rw [c]; decide) (by rw [c] <;> rfl) (by decide) ?_
    refine ww_aload_n (pc := 262) g.1 d_Bu_perform_262 rfl (lv_at hl 0 rfl) ?_
    obtain ⟨v263, s, hc263, h⟩ := oB_of h
    refine ww_callV (pc := 263) (rest := []) g cv_Bu_select (Or.inl kw_1563) cl_Bu (pz rfl (by decide)) (ct_Bu_select hc263) ⟨by decide, by decide⟩ rfl hl.1 (Nat.le_of_ble_eq_true rfl) d_Bu_perform_263 rfl (?_)
    refine ww_st (st' := []) rfl ?_
    refine ww_goto (pc := 266) (tgt := 343) g.1 d_Bu_perform_266 (by decide) ?_
    exact j_Bu_perform_j343 g hR hx0 n0 hm s ls (lv_sub hl [0] rfl) h
  have h := oC_neg c27_262 h
  by_cases c27_269 : (((-1) - v22).toInt32) = 13
  · have h := oC_pos c27_269 h
    have c := c27_269
    refine ww_tableIn (pc := 27) (tgt := 269) g.1 d_Bu_perform_27 (by rw [c]; decide) (by rw [c]; decide) (by rw [c] <;> rfl) (by decide) ?_
    refine ww_aload_n (pc := 269) g.1 d_Bu_perform_269 rfl (lv_at hl 0 rfl) ?_
    refine ww_lo fun dlo => ?_
    obtain ⟨v270, s, hc270, h⟩ := oB_of h
    refine ww_callVX (pc := 270) (rest := []) g cv_Bu_cut (Or.inl kw_1564) cl_Bu (pz rfl (by decide)) (ct_Bu_cut hm hc270) ⟨by decide, by decide⟩ rfl hl.1 (Nat.le_of_ble_eq_true rfl) d_Bu_perform_270 rfl (fun q270 hE hm => ?_)
    have ex270_0 : q270.1 130 0 = q.1 130 0 := hE _ _ (by decide) (dlo _ _ (pz rfl (by decide)))
    have hl : lv_has ls 1 [(0, .ref (q270.1 130 0))] := by rw [ex270_0]; exact hl
    refine ww_st (st' := []) (by rfl) ?_
    have hx0 : Exq (xP X) [118, 146, 149, 150, 151, 153, 154] _ q270 := hx0.tr (hE.sub (by decide))
    refine ww_goto (pc := 273) (tgt := 343) g.1 d_Bu_perform_273 (by decide) ?_
    exact j_Bu_perform_j343 g hR hx0 v270.2 hm s ls (lv_sub hl [0] rfl) h
  have h := oC_neg c27_269 h
  by_cases c27_276 : (((-1) - v22).toInt32) = 14
  · have h := oC_pos c27_276 h
    have c := c27_276
    refine ww_tableIn (pc := 27) (tgt := 276) g.1 d_Bu_perform_27 (by rw [c]; decide) (by rw [c]; decide) (by rw [c] <;> rfl) (by decide) ?_
    refine ww_aload_n (pc := 276) g.1 d_Bu_perform_276 rfl (lv_at hl 0 rfl) ?_
    obtain ⟨v277, s, hc277, h⟩ := oB_of h
    refine ww_callV (pc := 277) (rest := []) g cv_Bu_tellByte (Or.inl kw_1565) cl_Bu (pz rfl (by decide)) (ct_Bu_tellByte hc277) ⟨by decide, by decide⟩ rfl hl.1 (Nat.le_of_ble_eq_true rfl) d_Bu_perform_277 rfl (?_)
    refine ww_st (st' := []) rfl ?_
    refine ww_goto (pc := 280) (tgt := 343) g.1 d_Bu_perform_280 (by decide) ?_
    exact j_Bu_perform_j343 g hR hx0 n0 hm s ls (lv_sub hl [0] rfl) h
  have h := oC_neg c27_276 h
  by_cases c27_283 : (((-1) - v22).toInt32) = 15
  · have h := oC_pos c27_283 h
    have c := c27_283
    refine ww_tableIn (pc := 27) (tgt := 283) g.1 d_Bu_perform_27 (by rw [c]; decide) (by rw [c]; decide) (by rw [c] <;> rfl) (by decide) ?_
    refine ww_aload_n (pc := 283) g.1 d_Bu_perform_283 rfl (lv_at hl 0 rfl) ?_
    refine ww_lo fun dlo => ?_
    obtain ⟨v284, s, hc284, h⟩ := oB_of h
    refine ww_callVX (pc := 284) (rest := []) g cv_Bu_makeOfBytes (Or.inl kw_1566) cl_Bu (pz rfl (by decide)) (ct_Bu_makeOfBytes hm hc284) ⟨by decide, by decide⟩ rfl hl.1 (Nat.le_of_ble_eq_true rfl) d_Bu_perform_284 rfl (fun q284 hE hm => ?_)
    have ex284_0 : q284.1 130 0 = q.1 130 0 := hE _ _ (by decide) (dlo _ _ (pz rfl (by decide)))
    have hl : lv_has ls 1 [(0, .ref (q284.1 130 0))] := by rw [ex284_0]; exact hl
    refine ww_st (st' := []) (by rfl) ?_
    have hx0 : Exq (xP X) [118, 146, 149, 150, 151, 153, 154] _ q284 := hx0.tr (hE.sub (by decide))
    refine ww_goto (pc := 287) (tgt := 343) g.1 d_Bu_perform_287 (by decide) ?_
    exact j_Bu_perform_j343 g hR hx0 v284.2 hm s ls (lv_sub hl [0] rfl) h
  have h := oC_neg c27_283 h
  by_cases c27_290 : (((-1) - v22).toInt32) = 16
  · have h := oC_pos c27_290 h
    have c := c27_290
    refine ww_tableIn (pc := 27) (tgt := 290) g.1 d_Bu_perform_27 (by rw [c]; decide) (by rw [c]; decide) (by rw [c] <;> rfl) (by decide) ?_
    refine ww_aload_n (pc := 290) g.1 d_Bu_perform_290 rfl (lv_at hl 0 rfl) ?_
    obtain ⟨v291, s, hc291, h⟩ := oB_of h
    refine ww_callV (pc := 291) (rest := []) g cv_Bu_measure (Or.inl kw_1567) cl_Bu (pz rfl (by decide)) (ct_Bu_measure hc291) ⟨by decide, by decide⟩ rfl hl.1 (Nat.le_of_ble_eq_true rfl) d_Bu_perform_291 rfl (?_)
    refine ww_st (st' := []) rfl ?_
    refine ww_goto (pc := 294) (tgt := 343) g.1 d_Bu_perform_294 (by decide) ?_
    exact j_Bu_perform_j343 g hR hx0 n0 hm s ls (lv_sub hl [0] rfl) h
  have h := oC_neg c27_290 h
  by_cases c27_297 : (((-1) - v22).toInt32) = 17
  · have h := oC_pos c27_297 h
    have c := c27_297
    refine ww_tableIn (pc := 27) (tgt := 297) g.1 d_Bu_perform_27 (by rw [c]; decide) (by rw [c]; decide) (by rw [c] <;> rfl) (by decide) ?_
    refine ww_aload_n (pc := 297) g.1 d_Bu_perform_297 rfl (lv_at hl 0 rfl) ?_
    refine ww_lo fun dlo => ?_
    obtain ⟨v298, s, hc298, h⟩ := oB_of h
    refine ww_callVX (pc := 298) (rest := []) g cv_Bu_create (Or.inl kw_1568) cl_Bu (pz rfl (by decide)) (ct_Bu_create hm hc298) ⟨by decide, by decide⟩ rfl hl.1 (Nat.le_of_ble_eq_true rfl) d_Bu_perform_298 rfl (fun q298 hE hm => ?_)
    have ex298_0 : q298.1 130 0 = q.1 130 0 := hE _ _ (by decide) (dlo _ _ (pz rfl (by decide)))
    have hl : lv_has ls 1 [(0, .ref (q298.1 130 0))] := by rw [ex298_0]; exact hl
    refine ww_st (st' := []) (by rfl) ?_
    have hx0 : Exq (xP X) [118, 146, 149, 150, 151, 153, 154] _ q298 := hx0.tr (hE.sub (by decide))
    refine ww_goto (pc := 301) (tgt := 343) g.1 d_Bu_perform_301 (by decide) ?_
    exact j_Bu_perform_j343 g hR hx0 v298.2 hm s ls (lv_sub hl [0] rfl) h
  have h := oC_neg c27_297 h
  by_cases c27_304 : (((-1) - v22).toInt32) = 18
  · have h := oC_pos c27_304 h
    have c := c27_304
    refine ww_tableIn (pc := 27) (tgt := 304) g.1 d_Bu_perform_27 (by rw [c]; decide) (by rw [c]; decide) (by rw [c] <;> rfl) (by decide) ?_
    refine ww_aload_n (pc := 304) g.1 d_Bu_perform_304 rfl (lv_at hl 0 rfl) ?_
    obtain ⟨v305, s, hc305, h⟩ := oB_of h
    refine ww_callV (pc := 305) (rest := []) g cv_Bu_resume (Or.inl kw_1569) cl_Bu (pz rfl (by decide)) (ct_Bu_resume hc305) ⟨by decide, by decide⟩ rfl hl.1 (Nat.le_of_ble_eq_true rfl) d_Bu_perform_305 rfl (?_)
    refine ww_st (st' := []) rfl ?_
    refine ww_goto (pc := 308) (tgt := 343) g.1 d_Bu_perform_308 (by decide) ?_
    exact j_Bu_perform_j343 g hR hx0 n0 hm s ls (lv_sub hl [0] rfl) h
  have h := oC_neg c27_304 h
  by_cases c27_311 : (((-1) - v22).toInt32) = 19
  · have h := oC_pos c27_311 h
    have c := c27_311
    refine ww_tableIn (pc := 27) (tgt := 311) g.1 d_Bu_perform_27 (by rw [c]; decide) (by rw [c]; decide) (by rw [c] <;> rfl) (by decide) ?_
    refine ww_aload_n (pc := 311) g.1 d_Bu_perform_311 rfl (lv_at hl 0 rfl) ?_
    obtain ⟨v312, s, hc312, h⟩ := oB_of h
    refine ww_callV (pc := 312) (rest := []) g cv_Bu_giveWay (Or.inl kw_1570) cl_Bu (pz rfl (by decide)) (ct_Bu_giveWay hc312) ⟨by decide, by decide⟩ rfl hl.1 (Nat.le_of_ble_eq_true rfl) d_Bu_perform_312 rfl (?_)
    refine ww_st (st' := []) rfl ?_
    refine ww_goto (pc := 315) (tgt := 343) g.1 d_Bu_perform_315 (by decide) ?_
    exact j_Bu_perform_j343 g hR hx0 n0 hm s ls (lv_sub hl [0] rfl) h
  have h := oC_neg c27_311 h
  by_cases c27_318 : (((-1) - v22).toInt32) = 20
  · have h := oC_pos c27_318 h
    have c := c27_318
    refine ww_tableIn (pc := 27) (tgt := 318) g.1 d_Bu_perform_27 (by rw [c]; decide) (by rw [c]; decide) (by rw [c] <;> rfl) (by decide) ?_
    refine ww_aload_n (pc := 318) g.1 d_Bu_perform_318 rfl (lv_at hl 0 rfl) ?_
    obtain ⟨v319, s, hc319, h⟩ := oB_of h
    refine ww_callV (pc := 319) (rest := []) g cv_Bu_tellStatus (Or.inl kw_1571) cl_Bu (pz rfl (by decide)) (ct_Bu_tellStatus hc319) ⟨by decide, by decide⟩ rfl hl.1 (Nat.le_of_ble_eq_true rfl) d_Bu_perform_319 rfl (?_)
    refine ww_st (st' := []) rfl ?_
    refine ww_goto (pc := 322) (tgt := 343) g.1 d_Bu_perform_322 (by decide) ?_
    exact j_Bu_perform_j343 g hR hx0 n0 hm s ls (lv_sub hl [0] rfl) h
  have h := oC_neg c27_318 h
  by_cases c27_325 : (((-1) - v22).toInt32) = 21
  · have h := oC_pos c27_325 h
    have c := c27_325
    refine ww_tableIn (pc := 27) (tgt := 325) g.1 d_Bu_perform_27 (by rw [c]; decide) (by rw [c]; decide) (by rw [c] <;> rfl) (by decide) ?_
    refine ww_aload_n (pc := 325) g.1 d_Bu_perform_325 rfl (lv_at hl 0 rfl) ?_
    obtain ⟨v326, s, hc326, h⟩ := oB_of h
    refine ww_callV (pc := 326) (rest := []) g cv_Bu_tellRunning (Or.inl kw_1572) cl_Bu (pz rfl (by decide)) (ct_Bu_tellRunning hc326) ⟨by decide, by decide⟩ rfl hl.1 (Nat.le_of_ble_eq_true rfl) d_Bu_perform_326 rfl (?_)
    refine ww_st (st' := []) rfl ?_
    refine ww_goto (pc := 329) (tgt := 343) g.1 d_Bu_perform_329 (by decide) ?_
    exact j_Bu_perform_j343 g hR hx0 n0 hm s ls (lv_sub hl [0] rfl) h
  have h := oC_neg c27_325 h
  by_cases c27_332 : (((-1) - v22).toInt32) = 22
  · have h := oC_pos c27_332 h
    have c := c27_332
    refine ww_tableIn (pc := 27) (tgt := 332) g.1 d_Bu_perform_27 (by rw [c]; decide) (by rw [c]; decide) (by rw [c] <;> rfl) (by decide) ?_
    refine ww_aload_n (pc := 332) g.1 d_Bu_perform_332 rfl (lv_at hl 0 rfl) ?_
    refine ww_lo fun dlo => ?_
    obtain ⟨v333, s, hc333, h⟩ := oB_of h
    refine ww_callVX (pc := 333) (rest := []) g cv_Bu_wrap (Or.inl kw_1573) cl_Bu (pz rfl (by decide)) (ct_Bu_wrap hm hc333) ⟨by decide, by decide⟩ rfl hl.1 (Nat.le_of_ble_eq_true rfl) d_Bu_perform_333 rfl (fun q333 hE hm => ?_)
    have ex333_0 : q333.1 130 0 = q.1 130 0 := hE _ _ (by decide) (dlo _ _ (pz rfl (by decide)))
    have hl : lv_has ls 1 [(0, .ref (q333.1 130 0))] := by rw [ex333_0]; exact hl
    refine ww_st (st' := []) (by rfl) ?_
    have hx0 : Exq (xP X) [118, 146, 149, 150, 151, 153, 154] _ q333 := hx0.tr (hE.sub (by decide))
    refine ww_goto (pc := 336) (tgt := 343) g.1 d_Bu_perform_336 (by decide) ?_
    exact j_Bu_perform_j343 g hR hx0 v333.2 hm s ls (lv_sub hl [0] rfl) h
  have h := oC_neg c27_332 h
  have n_0 : ¬ (((-1) - v22).toInt32).toInt = 0 := lv_neT (fun e => c27_132 e) rfl
  have n_1 : ¬ (((-1) - v22).toInt32).toInt = 1 := lv_neT (fun e => c27_139 e) rfl
  have n_2 : ¬ (((-1) - v22).toInt32).toInt = 2 := lv_neT (fun e => c27_146 e) rfl
  have n_3 : ¬ (((-1) - v22).toInt32).toInt = 3 := lv_neT (fun e => c27_180 e) rfl
  have n_4 : ¬ (((-1) - v22).toInt32).toInt = 4 := lv_neT (fun e => c27_206 e) rfl
  have n_5 : ¬ (((-1) - v22).toInt32).toInt = 5 := lv_neT (fun e => c27_213 e) rfl
  have n_6 : ¬ (((-1) - v22).toInt32).toInt = 6 := lv_neT (fun e => c27_220 e) rfl
  have n_7 : ¬ (((-1) - v22).toInt32).toInt = 7 := lv_neT (fun e => c27_227 e) rfl
  have n_8 : ¬ (((-1) - v22).toInt32).toInt = 8 := lv_neT (fun e => c27_234 e) rfl
  have n_9 : ¬ (((-1) - v22).toInt32).toInt = 9 := lv_neT (fun e => c27_241 e) rfl
  have n_10 : ¬ (((-1) - v22).toInt32).toInt = 10 := lv_neT (fun e => c27_248 e) rfl
  have n_11 : ¬ (((-1) - v22).toInt32).toInt = 11 := lv_neT (fun e => c27_255 e) rfl
  have n_12 : ¬ (((-1) - v22).toInt32).toInt = 12 := lv_neT (fun e => c27_262 e) rfl
  have n_13 : ¬ (((-1) - v22).toInt32).toInt = 13 := lv_neT (fun e => c27_269 e) rfl
  have n_14 : ¬ (((-1) - v22).toInt32).toInt = 14 := lv_neT (fun e => c27_276 e) rfl
  have n_15 : ¬ (((-1) - v22).toInt32).toInt = 15 := lv_neT (fun e => c27_283 e) rfl
  have n_16 : ¬ (((-1) - v22).toInt32).toInt = 16 := lv_neT (fun e => c27_290 e) rfl
  have n_17 : ¬ (((-1) - v22).toInt32).toInt = 17 := lv_neT (fun e => c27_297 e) rfl
  have n_18 : ¬ (((-1) - v22).toInt32).toInt = 18 := lv_neT (fun e => c27_304 e) rfl
  have n_19 : ¬ (((-1) - v22).toInt32).toInt = 19 := lv_neT (fun e => c27_311 e) rfl
  have n_20 : ¬ (((-1) - v22).toInt32).toInt = 20 := lv_neT (fun e => c27_318 e) rfl
  have n_21 : ¬ (((-1) - v22).toInt32).toInt = 21 := lv_neT (fun e => c27_325 e) rfl
  have n_22 : ¬ (((-1) - v22).toInt32).toInt = 22 := lv_neT (fun e => c27_332 e) rfl
  by_cases hr : (((-1) - v22).toInt32).toInt < 0 ∨ 22 < (((-1) - v22).toInt32).toInt
  · refine ww_tableOut (pc := 27) (tgt := 339) g.1 d_Bu_perform_27 hr (by decide) ?_
    refine ww_aload_n (pc := 339) g.1 d_Bu_perform_339 rfl (lv_at hl 0 rfl) ?_
    obtain ⟨v340, s, hc340, h⟩ := oB_of h
    refine ww_callV (pc := 340) (rest := []) g cv_Bu_cleanUp (Or.inl kw_1574) cl_Bu (pz rfl (by decide)) (ct_Bu_cleanUp hc340) ⟨by decide, by decide⟩ rfl hl.1 (Nat.le_of_ble_eq_true rfl) d_Bu_perform_340 rfl (?_)
    refine ww_st (st' := []) rfl ?_
    exact j_Bu_perform_j343 g hR hx0 n0 hm s ls (lv_sub hl [0] rfl) h
  exact absurd hr (by omega)


