abbrev y_CLONEB : MethodName := cloneY
abbrev y_CLONEO : MethodName := cloneO
abbrev b_Arr_copyOf : ByteArray := prog_34_method_121_code
def y_Arr_copyOf : MethodName := ⟨R_Arr, "copyOf", "([BI)[B"⟩
abbrev w_Arr_copyOf : List Cond := .code y_Arr_copyOf b_Arr_copyOf 3 (some (.array .byte)) :: wA
theorem k_Arr_copyOf : Cond.code y_Arr_copyOf b_Arr_copyOf 3 (some (.array .byte)) ∈ wA := kinm (show _ ∈ tables_1 from (List.mem_append_right _ (List.mem_append_right _ (List.mem_append_right _ (List.mem_append_left _ (List.mem_of_getElem? (l := tables_1_4) (i := 146) (by decide +kernel))))))) (by decide +kernel)
theorem d_Arr_copyOf_0 : decode b_Arr_copyOf 0 = .ok (.iload_n 1, 1) := by decide +kernel
theorem d_Arr_copyOf_1 : decode b_Arr_copyOf 1 = .ok (.aload_n 0, 1) := by decide +kernel
theorem d_Arr_copyOf_2 : decode b_Arr_copyOf 2 = .ok (.arraylength, 1) := by decide +kernel
theorem d_Arr_copyOf_3 : decode b_Arr_copyOf 3 = .ok (.if_icmp .ne 11, 3) := by decide +kernel
theorem d_Arr_copyOf_6 : decode b_Arr_copyOf 6 = .ok (.aload_n 0, 1) := by decide +kernel
theorem d_Arr_copyOf_7 : decode b_Arr_copyOf 7 = .ok (.invokevirtual 310, 3) := by decide +kernel
theorem d_Arr_copyOf_10 : decode b_Arr_copyOf 10 = .ok (.checkcast 311, 3) := by decide +kernel
theorem d_Arr_copyOf_13 : decode b_Arr_copyOf 13 = .ok (.areturn, 1) := by decide +kernel
theorem d_Arr_copyOf_14 : decode b_Arr_copyOf 14 = .ok (.iload_n 1, 1) := by decide +kernel
theorem d_Arr_copyOf_15 : decode b_Arr_copyOf 15 = .ok (.newarray .byte, 2) := by decide +kernel
theorem d_Arr_copyOf_17 : decode b_Arr_copyOf 17 = .ok (.astore_n 2, 1) := by decide +kernel
theorem d_Arr_copyOf_18 : decode b_Arr_copyOf 18 = .ok (.aload_n 0, 1) := by decide +kernel
theorem d_Arr_copyOf_19 : decode b_Arr_copyOf 19 = .ok (.iconst 0, 1) := by decide +kernel
theorem d_Arr_copyOf_20 : decode b_Arr_copyOf 20 = .ok (.aload_n 2, 1) := by decide +kernel
theorem d_Arr_copyOf_21 : decode b_Arr_copyOf 21 = .ok (.iconst 0, 1) := by decide +kernel
theorem d_Arr_copyOf_22 : decode b_Arr_copyOf 22 = .ok (.aload_n 0, 1) := by decide +kernel
theorem d_Arr_copyOf_23 : decode b_Arr_copyOf 23 = .ok (.arraylength, 1) := by decide +kernel
theorem d_Arr_copyOf_24 : decode b_Arr_copyOf 24 = .ok (.iload_n 1, 1) := by decide +kernel
theorem d_Arr_copyOf_25 : decode b_Arr_copyOf 25 = .ok (.invokestatic 304, 3) := by decide +kernel
theorem d_Arr_copyOf_28 : decode b_Arr_copyOf 28 = .ok (.invokestatic 150, 3) := by decide +kernel
theorem d_Arr_copyOf_31 : decode b_Arr_copyOf 31 = .ok (.aload_n 2, 1) := by decide +kernel
theorem d_Arr_copyOf_32 : decode b_Arr_copyOf 32 = .ok (.areturn, 1) := by decide +kernel
theorem kw_1459 : Cond.methodLink R_Arr 304 y_Mth_min ∈ wA := kinm (show _ ∈ tables_1 from (List.mem_append_right _ (List.mem_append_right _ (List.mem_append_right _ (List.mem_append_left _ (List.mem_of_getElem? (l := tables_1_4) (i := 154) (by decide +kernel))))))) (by decide +kernel)
theorem kw_1460 : Cond.methodLink R_Arr 150 y_ARRCOPY ∈ wA := kinm (show _ ∈ tables_1 from (List.mem_append_right _ (List.mem_append_right _ (List.mem_append_right _ (List.mem_append_left _ (List.mem_of_getElem? (l := tables_1_4) (i := 157) (by decide +kernel))))))) (by decide +kernel)
theorem kw_1461 : Cond.methodLink R_Arr 310 y_CLONEB ∈ wA := kinm (show _ ∈ tables_1 from (List.mem_append_right _ (List.mem_append_right _ (List.mem_append_right _ (List.mem_append_left _ (List.mem_of_getElem? (l := tables_1_4) (i := 147) (by decide +kernel))))))) (by decide +kernel)
theorem kw_1462 : Cond.sameMethod "[B" "java/lang/Object" "clone" "()Ljava/lang/Object;" ∈ wA := kinm (show _ ∈ tables_1 from (List.mem_append_right _ (List.mem_append_right _ (List.mem_append_right _ (List.mem_append_left _ (List.mem_of_getElem? (l := tables_1_4) (i := 148) (by decide +kernel))))))) (by decide +kernel)
theorem kw_1463 : Cond.native y_CLONEO ∈ wA := kinm (show _ ∈ tables_1 from (List.mem_append_right _ (List.mem_append_right _ (List.mem_append_right _ (List.mem_append_left _ (List.mem_of_getElem? (l := tables_1_4) (i := 149) (by decide +kernel))))))) (by decide +kernel)
theorem kw_1464 : Cond.instanceMethod y_CLONEO ∈ wA := kinm (show _ ∈ tables_1 from (List.mem_append_right _ (List.mem_append_right _ (List.mem_append_right _ (List.mem_append_left _ (List.mem_of_getElem? (l := tables_1_4) (i := 150) (by decide +kernel))))))) (by decide +kernel)
theorem kw_1465 : Cond.selects "[B" y_CLONEB y_CLONEO ∈ wA := kinm (show _ ∈ tables_1 from (List.mem_append_right _ (List.mem_append_right _ (List.mem_append_right _ (List.mem_append_left _ (List.mem_of_getElem? (l := tables_1_4) (i := 151) (by decide +kernel))))))) (by decide +kernel)
theorem nwc_clone : Cond.castable "[B" "java/lang/Cloneable" ∈ xW := xinm (show _ ∈ tables_1 from (List.mem_append_right _ (List.mem_append_right _ (List.mem_append_right _ (List.mem_append_left _ (List.mem_of_getElem? (l := tables_1_4) (i := 152) (by decide +kernel))))))) (by decide +kernel)
theorem kw_1467 : Cond.classLink R_Arr 311 "[B" ∈ wA := kinm (show _ ∈ tables_1 from (List.mem_append_right _ (List.mem_append_right _ (List.mem_append_right _ (List.mem_append_left _ (List.mem_of_getElem? (l := tables_1_4) (i := 153) (by decide +kernel))))))) (by decide +kernel)
theorem kw_1468 : Cond.static y_Arr_copyOf ∈ wA := kinm (show _ ∈ tables_1 from (List.mem_append_right _ (List.mem_append_right _ (List.mem_append_right _ (List.mem_append_left _ (List.mem_of_getElem? (l := tables_1_4) (i := 145) (by decide +kernel))))))) (by decide +kernel)
theorem cs_Arr_copyOf : CS y_Arr_copyOf b_Arr_copyOf 3 (some (.array .byte)) 2 := ⟨kw_1468, kw_3, k_Arr_copyOf, by decide +kernel⟩
theorem ct_Arr_copyOf {l : Launch} {P : PP} {q : PL} {s s' : S1} {n0 n1 : Nat × Nat} {l0r : Nat} {l0 : Int32} {l1 : Int32} (hp0 : rkF l0r = 2) (hp1 : l0r ≠ 154) (hp2 : prs s l0r l0) {r : Int32} (hm : Rmq P q n0) (h : M_Arr_copyOf n0 l0r l0 l1 s = some ((r, n1), s')) : CtX l y_Arr_copyOf b_Arr_copyOf 3 (some (.array .byte)) 1 26 P [154] q s [.ref (q.1 l0r l0), .int l1] (fun q => some (.ref (q.1 154 r))) n1 s' := by
  refine ctX_ofF (by decide +kernel) (Nat.le_of_ble_eq_true rfl) fun X ls eP el g hR hl => ?_
  subst eP
  obtain ⟨q0, hq0⟩ : ∃ q0 : PL, q0 = q := ⟨q, rfl⟩
  have hx0 : Exq (xP X) [154] q0 q := hq0 ▸ Exq.rf
  rw [← hq0] at hR
  have hR : RtX X [154] q0 (((r, n1), s') : (Int32 × (Nat × Nat)) × S1).1.2 (((r, n1), s') : (Int32 × (Nat × Nat)) × S1).2 (fun q => some (.ref (q.1 154 (((r, n1), s') : (Int32 × (Nat × Nat)) × S1).1.1))) := hR
  have hl : lv_has ls 3 [(0, .ref (q.1 l0r l0)), (1, .int l1)] := hl
  generalize ((r, n1), s') = o at h hR
  unfold M_Arr_copyOf at h
  refine ww_iload_n (pc := 0) g.1 d_Arr_copyOf_0 rfl (lv_at hl 1 rfl) ?_
  refine ww_aload_n (pc := 1) g.1 d_Arr_copyOf_1 rfl (lv_at hl 0 rfl) ?_
  refine ww_ln hp2 h fun n2 hmn2 hnn2 h => ?_
  refine ww_alen (pc := 2) g (n := n2) hp2 (by rw [hp0]; decide) hmn2 d_Arr_copyOf_2 ?_
  refine ww_icmp_ne (pc := 3) (tgt := 14) g.1 d_Arr_copyOf_3 (by decide) h (fun c h => ?_) (fun c h => ?_)
  · refine ww_iload_n (pc := 14) g.1 d_Arr_copyOf_14 rfl (lv_at hl 1 rfl) ?_
    refine ww_ok h fun cn15 h => ?_
    refine ww_lo fun dlo => ?_
    refine ww_nwT (at0 := .byte) (i := 0) (n := l1) (t := 154) (L := [154]) (pc := 15) g rfl (by decide) (by decide) (by decide) (Or.inl rfl) (by decide) (by decide) kw_620 hm d_Arr_copyOf_15 cn15 h (fun _ => rfl) fun q15 m15 s hs hE hm pm15 h => ?_
    have ex15_0 : q15.1 l0r l0 = q.1 l0r l0 := hE _ _ (fun z => hp1 (List.mem_singleton.mp z)) (dlo _ _ hp2)
    have hl : lv_has ls 3 [(0, .ref (q15.1 l0r l0)), (1, .int l1)] := by rw [ex15_0]; exact hl
    refine ww_st (st' := [.ref (q15.1 154 0)]) (by rfl) ?_
    refine ww_hi fun dhi => ?_
    have hp2 : prs s l0r l0 := dhi _ _ hp2.2.1 hp2.2.2 (by rw [ex15_0]; exact dlo _ _ hp2)
    have hx0 : Exq (xP X) [154] _ q15 := hx0.tr (hE.sub (by decide))
    refine ww_astore_n (pc := 17) (i := 2) g.1 (lv' := [(2, .ref (q15.1 154 0)), (0, .ref (q15.1 l0r l0)), (1, .int l1)]) d_Arr_copyOf_17 rfl hl (by decide) rfl fun ls hl => ?_
    refine ww_aload_n (pc := 18) g.1 d_Arr_copyOf_18 rfl (lv_at hl 1 rfl) ?_
    refine ww_iconst (pc := 19) g.1 (v := 0) d_Arr_copyOf_19 (by decide) ?_
    refine ww_aload_n (pc := 20) g.1 d_Arr_copyOf_20 rfl (lv_at hl 0 rfl) ?_
    refine ww_iconst (pc := 21) g.1 (v := 0) d_Arr_copyOf_21 (by decide) ?_
    refine ww_aload_n (pc := 22) g.1 d_Arr_copyOf_22 rfl (lv_at hl 1 rfl) ?_
    refine ww_ln hp2 h fun n23 hmn23 hnn23 h => ?_
    refine ww_alen (pc := 23) g (n := n23) hp2 (by rw [hp0]; decide) hmn23 d_Arr_copyOf_23 ?_
    refine ww_iload_n (pc := 24) g.1 d_Arr_copyOf_24 rfl (lv_at hl 2 rfl) ?_
    refine ww_lo fun dlo => ?_
    obtain ⟨v25, s, hc25, h⟩ := oB_of h
    refine ww_callS (pc := 25) (rest := [.int 0, .ref (q15.1 154 0), .int 0, .ref (q15.1 l0r l0)]) g cs_Mth_min (Or.inl kw_1459) (ct_Mth_min hc25) ⟨by decide, by decide⟩ rfl hl.1 (Nat.le_of_ble_eq_true rfl) d_Arr_copyOf_25 rfl (?_)
    refine ww_st (st' := [.int v25, .int 0, .ref (q15.1 154 0), .int 0, .ref (q15.1 l0r l0)]) rfl ?_
    refine ww_hi fun dhi => ?_
    have pm15 : prs s 154 0 := dhi _ _ pm15.2.1 pm15.2.2 (dlo _ _ pm15)
    have hp2 : prs s l0r l0 := dhi _ _ hp2.2.1 hp2.2.2 (dlo _ _ hp2)
    refine ww_ln hp2 h fun n28a hmn28a hnn28a h => ?_
    refine ww_ln pm15 h fun n28b hmn28b hnn28b h => ?_
    refine ww_ci (pc := 28) g hp2 pm15 (hp0.trans (rfl : rkF 154 = 2).symm) (Or.inr hp0) hnn28a hnn28b kw_1460 kw_512 kw_513 kw_514 ⟨by decide, by decide⟩ hl.1 (Nat.le_of_ble_eq_true rfl) d_Arr_copyOf_28 h fun s hs h => ?_
    have pm15 : prs s 154 0 := hs ▸ pm15
    have hp2 : prs s l0r l0 := hs ▸ hp2
    refine ww_aload_n (pc := 31) g.1 d_Arr_copyOf_31 rfl (lv_at hl 0 rfl) ?_
    exact ww_aretX (pc := 32) g rfl (by first | exact Or.inl ⟨_, rfl⟩ | exact Or.inr ⟨_, rfl⟩) h hR hx0 hm d_Arr_copyOf_32
  · refine ww_aload_n (pc := 6) g.1 d_Arr_copyOf_6 rfl (lv_at hl 0 rfl) ?_
    refine ww_ln hp2 h fun n7 hmn7 hnn7 h => ?_
    refine ww_lo fun dlo => ?_
    refine ww_clone (pc := 7) (L := [154]) g hp2 hp0 hnn7.symm (by decide) kw_1461 kw_1462 kw_1463 kw_1464 kw_1465 nwc_clone kw_1467 ⟨by decide, by decide⟩ hl.1 (Nat.le_of_ble_eq_true rfl) hm d_Arr_copyOf_7 d_Arr_copyOf_10 h (fun _ => rfl) fun q7 m7 s hs hE hm pm7 h => ?_
    have hl : lv_has ls 3 [(1, .int l1)] := lv_sub hl [1] rfl
    refine ww_st (st' := [.ref (q7.1 154 0)]) (by rfl) ?_
    have hx0 : Exq (xP X) [154] _ q7 := hx0.tr (hE.sub (by decide))
    exact ww_aretX (pc := 13) g rfl (by first | exact Or.inl ⟨_, rfl⟩ | exact Or.inr ⟨_, rfl⟩) h hR hx0 hm d_Arr_copyOf_13

abbrev b_Arr_copyOfRangeByte : ByteArray := prog_34_method_133_code
def y_Arr_copyOfRangeByte : MethodName := ⟨R_Arr, "copyOfRangeByte", "([BII)[B"⟩
abbrev w_Arr_copyOfRangeByte : List Cond := .code y_Arr_copyOfRangeByte b_Arr_copyOfRangeByte 5 (some (.array .byte)) :: wA
theorem k_Arr_copyOfRangeByte : Cond.code y_Arr_copyOfRangeByte b_Arr_copyOfRangeByte 5 (some (.array .byte)) ∈ wA := kinm (show _ ∈ tables_1 from (List.mem_append_right _ (List.mem_append_right _ (List.mem_append_right _ (List.mem_append_right _ (List.mem_append_left _ (List.mem_of_getElem? (l := tables_1_5) (i := 41) (by decide +kernel)))))))) (by decide +kernel)
theorem d_Arr_copyOfRangeByte_0 : decode b_Arr_copyOfRangeByte 0 = .ok (.iload_n 1, 1) := by decide +kernel
theorem d_Arr_copyOfRangeByte_1 : decode b_Arr_copyOfRangeByte 1 = .ok (.iload_n 2, 1) := by decide +kernel
theorem d_Arr_copyOfRangeByte_2 : decode b_Arr_copyOfRangeByte 2 = .ok (.invokestatic 343, 3) := by decide +kernel
theorem d_Arr_copyOfRangeByte_5 : decode b_Arr_copyOfRangeByte 5 = .ok (.iload_n 2, 1) := by decide +kernel
theorem d_Arr_copyOfRangeByte_6 : decode b_Arr_copyOfRangeByte 6 = .ok (.iload_n 1, 1) := by decide +kernel
theorem d_Arr_copyOfRangeByte_7 : decode b_Arr_copyOfRangeByte 7 = .ok (.isub, 1) := by decide +kernel
theorem d_Arr_copyOfRangeByte_8 : decode b_Arr_copyOfRangeByte 8 = .ok (.istore_n 3, 1) := by decide +kernel
theorem d_Arr_copyOfRangeByte_9 : decode b_Arr_copyOfRangeByte 9 = .ok (.iload_n 3, 1) := by decide +kernel
theorem d_Arr_copyOfRangeByte_10 : decode b_Arr_copyOfRangeByte 10 = .ok (.newarray .byte, 2) := by decide +kernel
theorem d_Arr_copyOfRangeByte_12 : decode b_Arr_copyOfRangeByte 12 = .ok (.astore 4, 2) := by decide +kernel
theorem d_Arr_copyOfRangeByte_14 : decode b_Arr_copyOfRangeByte 14 = .ok (.aload_n 0, 1) := by decide +kernel
theorem d_Arr_copyOfRangeByte_15 : decode b_Arr_copyOfRangeByte 15 = .ok (.iload_n 1, 1) := by decide +kernel
theorem d_Arr_copyOfRangeByte_16 : decode b_Arr_copyOfRangeByte 16 = .ok (.aload 4, 2) := by decide +kernel
theorem d_Arr_copyOfRangeByte_18 : decode b_Arr_copyOfRangeByte 18 = .ok (.iconst 0, 1) := by decide +kernel
theorem d_Arr_copyOfRangeByte_19 : decode b_Arr_copyOfRangeByte 19 = .ok (.aload_n 0, 1) := by decide +kernel
theorem d_Arr_copyOfRangeByte_20 : decode b_Arr_copyOfRangeByte 20 = .ok (.arraylength, 1) := by decide +kernel
theorem d_Arr_copyOfRangeByte_21 : decode b_Arr_copyOfRangeByte 21 = .ok (.iload_n 1, 1) := by decide +kernel
theorem d_Arr_copyOfRangeByte_22 : decode b_Arr_copyOfRangeByte 22 = .ok (.isub, 1) := by decide +kernel
theorem d_Arr_copyOfRangeByte_23 : decode b_Arr_copyOfRangeByte 23 = .ok (.iload_n 3, 1) := by decide +kernel
theorem d_Arr_copyOfRangeByte_24 : decode b_Arr_copyOfRangeByte 24 = .ok (.invokestatic 304, 3) := by decide +kernel
theorem d_Arr_copyOfRangeByte_27 : decode b_Arr_copyOfRangeByte 27 = .ok (.invokestatic 150, 3) := by decide +kernel
theorem d_Arr_copyOfRangeByte_30 : decode b_Arr_copyOfRangeByte 30 = .ok (.aload 4, 2) := by decide +kernel
theorem d_Arr_copyOfRangeByte_32 : decode b_Arr_copyOfRangeByte 32 = .ok (.areturn, 1) := by decide +kernel
theorem kw_1469 : Cond.methodLink R_Arr 343 y_Arr_checkLength ∈ wA := kinm (show _ ∈ tables_1 from (List.mem_append_right _ (List.mem_append_right _ (List.mem_append_right _ (List.mem_append_right _ (List.mem_append_left _ (List.mem_of_getElem? (l := tables_1_5) (i := 42) (by decide +kernel)))))))) (by decide +kernel)
theorem kw_1470 : Cond.static y_Arr_copyOfRangeByte ∈ wA := kinm (show _ ∈ tables_1 from (List.mem_append_right _ (List.mem_append_right _ (List.mem_append_right _ (List.mem_append_right _ (List.mem_append_left _ (List.mem_of_getElem? (l := tables_1_5) (i := 40) (by decide +kernel)))))))) (by decide +kernel)
theorem cs_Arr_copyOfRangeByte : CS y_Arr_copyOfRangeByte b_Arr_copyOfRangeByte 5 (some (.array .byte)) 3 := ⟨kw_1470, kw_3, k_Arr_copyOfRangeByte, by decide +kernel⟩
theorem ct_Arr_copyOfRangeByte {l : Launch} {P : PP} {q : PL} {s s' : S1} {n0 n1 : Nat × Nat} {l0r : Nat} {l0 : Int32} {l1 : Int32} {l2 : Int32} (hp0 : rkF l0r = 2) (hp1 : l0r ≠ 154) (hp2 : prs s l0r l0) {r : Int32} (hm : Rmq P q n0) (h : M_Arr_copyOfRangeByte n0 l0r l0 l1 l2 s = some ((r, n1), s')) : CtX l y_Arr_copyOfRangeByte b_Arr_copyOfRangeByte 5 (some (.array .byte)) 1 26 P [154] q s [.ref (q.1 l0r l0), .int l1, .int l2] (fun q => some (.ref (q.1 154 r))) n1 s' := by
  refine ctX_ofF (by decide +kernel) (Nat.le_of_ble_eq_true rfl) fun X ls eP el g hR hl => ?_
  subst eP
  obtain ⟨q0, hq0⟩ : ∃ q0 : PL, q0 = q := ⟨q, rfl⟩
  have hx0 : Exq (xP X) [154] q0 q := hq0 ▸ Exq.rf
  rw [← hq0] at hR
  have hR : RtX X [154] q0 (((r, n1), s') : (Int32 × (Nat × Nat)) × S1).1.2 (((r, n1), s') : (Int32 × (Nat × Nat)) × S1).2 (fun q => some (.ref (q.1 154 (((r, n1), s') : (Int32 × (Nat × Nat)) × S1).1.1))) := hR
  have hl : lv_has ls 5 [(0, .ref (q.1 l0r l0)), (1, .int l1), (2, .int l2)] := hl
  generalize ((r, n1), s') = o at h hR
  unfold M_Arr_copyOfRangeByte at h
  refine ww_iload_n (pc := 0) g.1 d_Arr_copyOfRangeByte_0 rfl (lv_at hl 1 rfl) ?_
  refine ww_iload_n (pc := 1) g.1 d_Arr_copyOfRangeByte_1 rfl (lv_at hl 2 rfl) ?_
  refine ww_lo fun dlo => ?_
  obtain ⟨v2, s, hc2, h⟩ := oB_of h
  refine ww_callS (pc := 2) (rest := []) g cs_Arr_checkLength (Or.inl kw_1469) (ct_Arr_checkLength hc2) ⟨by decide, by decide⟩ rfl hl.1 (Nat.le_of_ble_eq_true rfl) d_Arr_copyOfRangeByte_2 rfl (?_)
  refine ww_st (st' := []) rfl ?_
  refine ww_hi fun dhi => ?_
  have hp2 : prs s l0r l0 := dhi _ _ hp2.2.1 hp2.2.2 (dlo _ _ hp2)
  refine ww_iload_n (pc := 5) g.1 d_Arr_copyOfRangeByte_5 rfl (lv_at hl 2 rfl) ?_
  refine ww_iload_n (pc := 6) g.1 d_Arr_copyOfRangeByte_6 rfl (lv_at hl 1 rfl) ?_
  refine ww_isub (pc := 7) g.1 d_Arr_copyOfRangeByte_7 ?_
  refine ww_leti h fun l3_8 h => ?_
  refine ww_istore_n (pc := 8) (i := 3) g.1 (lv' := [(3, .int l3_8), (0, .ref (q.1 l0r l0)), (1, .int l1), (2, .int l2)]) d_Arr_copyOfRangeByte_8 rfl hl (by decide) rfl fun ls hl => ?_
  refine ww_iload_n (pc := 9) g.1 d_Arr_copyOfRangeByte_9 rfl (lv_at hl 0 rfl) ?_
  refine ww_ok h fun cn10 h => ?_
  refine ww_lo fun dlo => ?_
  refine ww_nwT (at0 := .byte) (i := 0) (n := l3_8) (t := 154) (L := [154]) (pc := 10) g rfl (by decide) (by decide) (by decide) (Or.inl rfl) (by decide) (by decide) kw_620 hm d_Arr_copyOfRangeByte_10 cn10 h (fun _ => rfl) fun q10 m10 s hs hE hm pm10 h => ?_
  have ex10_0 : q10.1 l0r l0 = q.1 l0r l0 := hE _ _ (fun z => hp1 (List.mem_singleton.mp z)) (dlo _ _ hp2)
  have hl : lv_has ls 5 [(3, .int l3_8), (0, .ref (q10.1 l0r l0)), (1, .int l1), (2, .int l2)] := by rw [ex10_0]; exact hl
  refine ww_st (st' := [.ref (q10.1 154 0)]) (by rfl) ?_
  refine ww_hi fun dhi => ?_
  have hp2 : prs s l0r l0 := dhi _ _ hp2.2.1 hp2.2.2 (by rw [ex10_0]; exact dlo _ _ hp2)
  have hx0 : Exq (xP X) [154] _ q10 := hx0.tr (hE.sub (by decide))
  refine ww_astore (pc := 12) (i := 4) g.1 (lv' := [(4, .ref (q10.1 154 0)), (3, .int l3_8), (0, .ref (q10.1 l0r l0)), (1, .int l1), (2, .int l2)]) d_Arr_copyOfRangeByte_12 hl (by decide) rfl fun ls hl => ?_
  refine ww_aload_n (pc := 14) g.1 d_Arr_copyOfRangeByte_14 rfl (lv_at hl 2 rfl) ?_
  refine ww_iload_n (pc := 15) g.1 d_Arr_copyOfRangeByte_15 rfl (lv_at hl 3 rfl) ?_
  refine ww_aload (pc := 16) g.1 d_Arr_copyOfRangeByte_16 (lv_at hl 0 rfl) ?_
  refine ww_iconst (pc := 18) g.1 (v := 0) d_Arr_copyOfRangeByte_18 (by decide) ?_
  refine ww_aload_n (pc := 19) g.1 d_Arr_copyOfRangeByte_19 rfl (lv_at hl 2 rfl) ?_
  refine ww_ln hp2 h fun n20 hmn20 hnn20 h => ?_
  refine ww_alen (pc := 20) g (n := n20) hp2 (by rw [hp0]; decide) hmn20 d_Arr_copyOfRangeByte_20 ?_
  refine ww_iload_n (pc := 21) g.1 d_Arr_copyOfRangeByte_21 rfl (lv_at hl 3 rfl) ?_
  refine ww_isub (pc := 22) g.1 d_Arr_copyOfRangeByte_22 ?_
  refine ww_iload_n (pc := 23) g.1 d_Arr_copyOfRangeByte_23 rfl (lv_at hl 1 rfl) ?_
  refine ww_lo fun dlo => ?_
  obtain ⟨v24, s, hc24, h⟩ := oB_of h
  refine ww_callS (pc := 24) (rest := [.int 0, .ref (q10.1 154 0), .int l1, .ref (q10.1 l0r l0)]) g cs_Mth_min (Or.inl kw_1459) (ct_Mth_min hc24) ⟨by decide, by decide⟩ rfl hl.1 (Nat.le_of_ble_eq_true rfl) d_Arr_copyOfRangeByte_24 rfl (?_)
  refine ww_st (st' := [.int v24, .int 0, .ref (q10.1 154 0), .int l1, .ref (q10.1 l0r l0)]) rfl ?_
  refine ww_hi fun dhi => ?_
  have pm10 : prs s 154 0 := dhi _ _ pm10.2.1 pm10.2.2 (dlo _ _ pm10)
  have hp2 : prs s l0r l0 := dhi _ _ hp2.2.1 hp2.2.2 (dlo _ _ hp2)
  refine ww_ln hp2 h fun n27a hmn27a hnn27a h => ?_
  refine ww_ln pm10 h fun n27b hmn27b hnn27b h => ?_
  refine ww_ci (pc := 27) g hp2 pm10 (hp0.trans (rfl : rkF 154 = 2).symm) (Or.inr hp0) hnn27a hnn27b kw_1460 kw_512 kw_513 kw_514 ⟨by decide, by decide⟩ hl.1 (Nat.le_of_ble_eq_true rfl) d_Arr_copyOfRangeByte_27 h fun s hs h => ?_
  have pm10 : prs s 154 0 := hs ▸ pm10
  have hp2 : prs s l0r l0 := hs ▸ hp2
  refine ww_aload (pc := 30) g.1 d_Arr_copyOfRangeByte_30 (lv_at hl 0 rfl) ?_
  exact ww_aretX (pc := 32) g rfl (by first | exact Or.inl ⟨_, rfl⟩ | exact Or.inr ⟨_, rfl⟩) h hR hx0 hm d_Arr_copyOfRangeByte_32

abbrev b_He_putByte : ByteArray := prog_6_method_13_code
def y_He_putByte : MethodName := ⟨R_He, "putByte", "(I)V"⟩
abbrev w_He_putByte : List Cond := .code y_He_putByte b_He_putByte 2 none :: wA
theorem k_He_putByte : Cond.code y_He_putByte b_He_putByte 2 none ∈ wA := kinm (show _ ∈ tables_1 from (List.mem_append_right _ (List.mem_append_right _ (List.mem_append_right _ (List.mem_append_right _ (List.mem_append_right _ (List.mem_append_left _ (List.mem_of_getElem? (l := tables_1_6) (i := 6) (by decide +kernel))))))))) (by decide +kernel)
theorem d_He_putByte_0 : decode b_He_putByte 0 = .ok (.aload_n 0, 1) := by decide +kernel
theorem d_He_putByte_1 : decode b_He_putByte 1 = .ok (.getfield 136, 3) := by decide +kernel
theorem d_He_putByte_4 : decode b_He_putByte 4 = .ok (.aload_n 0, 1) := by decide +kernel
theorem d_He_putByte_5 : decode b_He_putByte 5 = .ok (.getfield 36, 3) := by decide +kernel
theorem d_He_putByte_8 : decode b_He_putByte 8 = .ok (.arraylength, 1) := by decide +kernel
theorem d_He_putByte_9 : decode b_He_putByte 9 = .ok (.if_icmp .ne 35, 3) := by decide +kernel
theorem d_He_putByte_12 : decode b_He_putByte 12 = .ok (.aload_n 0, 1) := by decide +kernel
theorem d_He_putByte_13 : decode b_He_putByte 13 = .ok (.getfield 136, 3) := by decide +kernel
theorem d_He_putByte_16 : decode b_He_putByte 16 = .ok (.ldc 67, 2) := by decide +kernel
theorem d_He_putByte_18 : decode b_He_putByte 18 = .ok (.if_icmp .ge 26, 3) := by decide +kernel
theorem d_He_putByte_21 : decode b_He_putByte 21 = .ok (.aload_n 0, 1) := by decide +kernel
theorem d_He_putByte_22 : decode b_He_putByte 22 = .ok (.aload_n 0, 1) := by decide +kernel
theorem d_He_putByte_23 : decode b_He_putByte 23 = .ok (.getfield 36, 3) := by decide +kernel
theorem d_He_putByte_26 : decode b_He_putByte 26 = .ok (.ldc 67, 2) := by decide +kernel
theorem d_He_putByte_28 : decode b_He_putByte 28 = .ok (.iconst 2, 1) := by decide +kernel
theorem d_He_putByte_29 : decode b_He_putByte 29 = .ok (.aload_n 0, 1) := by decide +kernel
theorem d_He_putByte_30 : decode b_He_putByte 30 = .ok (.getfield 36, 3) := by decide +kernel
theorem d_He_putByte_33 : decode b_He_putByte 33 = .ok (.arraylength, 1) := by decide +kernel
theorem d_He_putByte_34 : decode b_He_putByte 34 = .ok (.imul, 1) := by decide +kernel
theorem d_He_putByte_35 : decode b_He_putByte 35 = .ok (.invokestatic 145, 3) := by decide +kernel
theorem d_He_putByte_38 : decode b_He_putByte 38 = .ok (.invokestatic 148, 3) := by decide +kernel
theorem d_He_putByte_41 : decode b_He_putByte 41 = .ok (.putfield 36, 3) := by decide +kernel
theorem d_He_putByte_44 : decode b_He_putByte 44 = .ok (.aload_n 0, 1) := by decide +kernel
theorem d_He_putByte_45 : decode b_He_putByte 45 = .ok (.getfield 136, 3) := by decide +kernel
theorem d_He_putByte_48 : decode b_He_putByte 48 = .ok (.aload_n 0, 1) := by decide +kernel
theorem d_He_putByte_49 : decode b_He_putByte 49 = .ok (.getfield 36, 3) := by decide +kernel
theorem d_He_putByte_52 : decode b_He_putByte 52 = .ok (.arraylength, 1) := by decide +kernel
theorem d_He_putByte_53 : decode b_He_putByte 53 = .ok (.if_icmp .ge 14, 3) := by decide +kernel
theorem d_He_putByte_56 : decode b_He_putByte 56 = .ok (.aload_n 0, 1) := by decide +kernel
theorem d_He_putByte_57 : decode b_He_putByte 57 = .ok (.getfield 36, 3) := by decide +kernel
theorem d_He_putByte_60 : decode b_He_putByte 60 = .ok (.aload_n 0, 1) := by decide +kernel
theorem d_He_putByte_61 : decode b_He_putByte 61 = .ok (.getfield 136, 3) := by decide +kernel
theorem d_He_putByte_64 : decode b_He_putByte 64 = .ok (.iload_n 1, 1) := by decide +kernel
theorem d_He_putByte_65 : decode b_He_putByte 65 = .ok (.i2b, 1) := by decide +kernel
theorem d_He_putByte_66 : decode b_He_putByte 66 = .ok (.bastore, 1) := by decide +kernel
theorem d_He_putByte_67 : decode b_He_putByte 67 = .ok (.aload_n 0, 1) := by decide +kernel
theorem d_He_putByte_68 : decode b_He_putByte 68 = .ok (.dup, 1) := by decide +kernel
theorem d_He_putByte_69 : decode b_He_putByte 69 = .ok (.getfield 136, 3) := by decide +kernel
theorem d_He_putByte_72 : decode b_He_putByte 72 = .ok (.iconst 1, 1) := by decide +kernel
theorem d_He_putByte_73 : decode b_He_putByte 73 = .ok (.iadd, 1) := by decide +kernel
theorem d_He_putByte_74 : decode b_He_putByte 74 = .ok (.putfield 136, 3) := by decide +kernel
theorem d_He_putByte_77 : decode b_He_putByte 77 = .ok (.return_, 1) := by decide +kernel
theorem kw_1471 : Cond.fieldLink R_He 136 "LuaMachine$Heap" "workSize" "I" ∈ wA := kinm (show _ ∈ tables_1 from (List.mem_append_left _ (List.mem_of_getElem? (l := tables_1_1) (i := 158) (by decide +kernel)))) (by decide +kernel)
theorem kw_1472 : Cond.fieldLink R_He 36 "LuaMachine$Heap" "work" "[B" ∈ wA := kinm (show _ ∈ tables_1 from (List.mem_append_left _ (List.mem_of_getElem? (l := tables_1_1) (i := 153) (by decide +kernel)))) (by decide +kernel)
theorem kw_1473 : Cond.methodLink R_He 145 y_Mth_min ∈ wA := kinm (show _ ∈ tables_1 from (List.mem_append_right _ (List.mem_append_right _ (List.mem_append_right _ (List.mem_append_right _ (List.mem_append_right _ (List.mem_append_left _ (List.mem_of_getElem? (l := tables_1_6) (i := 7) (by decide +kernel))))))))) (by decide +kernel)
theorem kw_1474 : Cond.methodLink R_He 148 y_Arr_copyOf ∈ wA := kinm (show _ ∈ tables_1 from (List.mem_append_right _ (List.mem_append_right _ (List.mem_append_right _ (List.mem_append_right _ (List.mem_append_right _ (List.mem_append_left _ (List.mem_of_getElem? (l := tables_1_6) (i := 8) (by decide +kernel))))))))) (by decide +kernel)
theorem kw_1475 : Cond.instanceMethod y_He_putByte ∈ wA := kinm (show _ ∈ tables_1 from (List.mem_append_right _ (List.mem_append_right _ (List.mem_append_right _ (List.mem_append_right _ (List.mem_append_right _ (List.mem_append_left _ (List.mem_of_getElem? (l := tables_1_6) (i := 4) (by decide +kernel))))))))) (by decide +kernel)
theorem kw_1476 : Cond.selects R_He y_He_putByte y_He_putByte ∈ wA := kinm (show _ ∈ tables_1 from (List.mem_append_right _ (List.mem_append_right _ (List.mem_append_right _ (List.mem_append_right _ (List.mem_append_right _ (List.mem_append_left _ (List.mem_of_getElem? (l := tables_1_6) (i := 5) (by decide +kernel))))))))) (by decide +kernel)
theorem cv_He_putByte : CV y_He_putByte b_He_putByte 2 none 1 := ⟨kw_1475, kw_1476, kw_712, k_He_putByte, by decide +kernel⟩
theorem j_He_putByte_j67 {X : Cx} {q0 q : PL} (g : Gd X y_He_putByte b_He_putByte 2 none 2 48 R_He) {o : (Unit × (Nat × Nat)) × S1} (hR : RtX X [118, 154] q0 o.1.2 o.2 (fun _ => none)) (hx0 : Exq (xP X) [118, 154] q0 q) (ln : Nat × Nat) (hm : Rmq (xP X) q ln) (s : S1) (ls : Array Slot) (hl : lv_has ls 2 [(0, .ref (q.1 111 0))]) (h : M_He_putByte_j67 ln s = some o) : WW X q s 67 ls [] := by
  unfold M_He_putByte_j67 at h
  refine ww_aload_n (pc := 67) g.1 d_He_putByte_67 rfl (lv_at hl 0 rfl) ?_
  refine ww_dup (pc := 68) g.1 d_He_putByte_68 rfl ?_
  refine ww_gI (pc := 69) g (k := 9) cl_He (pz rfl (by decide)) (by decide) (Or.inl kw_1471) (f := 14217) rfl rfl d_He_putByte_69 h fun v69 h => ?_
  refine ww_iconst (pc := 72) g.1 (v := 1) d_He_putByte_72 (by decide) ?_
  refine ww_iadd (pc := 73) g.1 d_He_putByte_73 ?_
  refine ww_pI (pc := 74) g (k := 9) cl_He (pz rfl (by decide)) (by decide) (Or.inl kw_1471) rfl (f := 14217) rfl rfl rfl rfl d_He_putByte_74 h fun s hs h => ?_
  exact ww_vretX (pc := 77) g h hR hx0 hm d_He_putByte_77

theorem j_He_putByte_j44 {X : Cx} {q0 q : PL} (g : Gd X y_He_putByte b_He_putByte 2 none 2 48 R_He) {o : (Unit × (Nat × Nat)) × S1} (hR : RtX X [118, 154] q0 o.1.2 o.2 (fun _ => none)) (hx0 : Exq (xP X) [118, 154] q0 q) (l1 : Int32) (ln : Nat × Nat) (hm : Rmq (xP X) q ln) (s : S1) (ls : Array Slot) (hl : lv_has ls 2 [(0, .ref (q.1 111 0)), (1, .int l1)]) (h : M_He_putByte_j44 l1 ln s = some o) : WW X q s 44 ls [] := by
  unfold M_He_putByte_j44 at h
  refine ww_aload_n (pc := 44) g.1 d_He_putByte_44 rfl (lv_at hl 0 rfl) ?_
  refine ww_gI (pc := 45) g (k := 9) cl_He (pz rfl (by decide)) (by decide) (Or.inl kw_1471) (f := 14217) rfl rfl d_He_putByte_45 h fun v45 h => ?_
  refine ww_aload_n (pc := 48) g.1 d_He_putByte_48 rfl (lv_at hl 0 rfl) ?_
  refine ww_gR (pc := 49) g (k := 8) cl_He (pz rfl (by decide)) (by decide) (Or.inl kw_1472) (f := 14216) (t := 118) rfl rfl rfl d_He_putByte_49 ?_
  refine ww_ln (pz rfl (by decide)) h fun n52 hmn52 hnn52 h => ?_
  refine ww_alen (pc := 52) g (n := n52) (pz rfl (by decide)) (by decide) hmn52 d_He_putByte_52 ?_
  refine ww_icmp_ge (pc := 53) (tgt := 67) g.1 d_He_putByte_53 (by decide) h (fun c h => ?_) (fun c h => ?_)
  · exact j_He_putByte_j67 g hR hx0 ln hm s ls (lv_sub hl [0] rfl) h
  · refine ww_aload_n (pc := 56) g.1 d_He_putByte_56 rfl (lv_at hl 0 rfl) ?_
    refine ww_gR (pc := 57) g (k := 8) cl_He (pz rfl (by decide)) (by decide) (Or.inl kw_1472) (f := 14216) (t := 118) rfl rfl rfl d_He_putByte_57 ?_
    refine ww_aload_n (pc := 60) g.1 d_He_putByte_60 rfl (lv_at hl 0 rfl) ?_
    refine ww_gI (pc := 61) g (k := 9) cl_He (pz rfl (by decide)) (by decide) (Or.inl kw_1471) (f := 14217) rfl rfl d_He_putByte_61 h fun v61 h => ?_
    refine ww_iload_n (pc := 64) g.1 d_He_putByte_64 rfl (lv_at hl 1 rfl) ?_
    refine ww_i2b (pc := 65) g.1 (v := l1.toInt8.toInt32) d_He_putByte_65 rfl ?_
    refine ww_ln (pz rfl (by decide)) h fun n66 hmn66 hnn66 h => ?_
    refine ww_sb (pc := 66) g (pz rfl (by decide)) rfl hnn66 d_He_putByte_66 h fun s hs h => ?_
    exact j_He_putByte_j67 g hR hx0 ln hm s ls (lv_sub hl [0] rfl) h

theorem ct_He_putByte {l : Launch} {P : PP} {q : PL} {s s' : S1} {n0 n1 : Nat × Nat} {l1 : Int32} {r : Unit} (hm : Rmq P q n0) (h : M_He_putByte n0 l1 s = some ((r, n1), s')) : CtX l y_He_putByte b_He_putByte 2 none 2 48 P [118, 154] q s [.ref (q.1 111 0), .int l1] (fun _ => none) n1 s' := by
  refine ctX_of (by decide) (Nat.le_of_ble_eq_true rfl) fun X ls eP el g hR hl => ?_
  subst eP
  obtain ⟨q0, hq0⟩ : ∃ q0 : PL, q0 = q := ⟨q, rfl⟩
  have hx0 : Exq (xP X) [118, 154] q0 q := hq0 ▸ Exq.rf
  rw [← hq0] at hR
  have hR : RtX X [118, 154] q0 (((r, n1), s') : (Unit × (Nat × Nat)) × S1).1.2 (((r, n1), s') : (Unit × (Nat × Nat)) × S1).2 (fun _ => none) := hR
  have hl : lv_has ls 2 [(0, .ref (q.1 111 0)), (1, .int l1)] := hl
  generalize ((r, n1), s') = o at h hR
  unfold M_He_putByte at h
  refine ww_aload_n (pc := 0) g.1 d_He_putByte_0 rfl (lv_at hl 0 rfl) ?_
  refine ww_gI (pc := 1) g (k := 9) cl_He (pz rfl (by decide)) (by decide) (Or.inl kw_1471) (f := 14217) rfl rfl d_He_putByte_1 h fun v1 h => ?_
  refine ww_aload_n (pc := 4) g.1 d_He_putByte_4 rfl (lv_at hl 0 rfl) ?_
  refine ww_gR (pc := 5) g (k := 8) cl_He (pz rfl (by decide)) (by decide) (Or.inl kw_1472) (f := 14216) (t := 118) rfl rfl rfl d_He_putByte_5 ?_
  refine ww_ln (pz rfl (by decide)) h fun n8 hmn8 hnn8 h => ?_
  refine ww_alen (pc := 8) g (n := n8) (pz rfl (by decide)) (by decide) hmn8 d_He_putByte_8 ?_
  refine ww_icmp_ne (pc := 9) (tgt := 44) g.1 d_He_putByte_9 (by decide) h (fun c h => ?_) (fun c h => ?_)
  · exact j_He_putByte_j44 g hR hx0 l1 n0 hm s ls (lv_sub hl [0, 1] rfl) h
  · refine ww_aload_n (pc := 12) g.1 d_He_putByte_12 rfl (lv_at hl 0 rfl) ?_
    refine ww_gI (pc := 13) g (k := 9) cl_He (pz rfl (by decide)) (by decide) (Or.inl kw_1471) (f := 14217) rfl rfl d_He_putByte_13 h fun v13 h => ?_
    refine ww_ldc (pc := 16) g (v := 400000) kw_1350 d_He_putByte_16 ?_
    refine ww_icmp_ge (pc := 18) (tgt := 44) g.1 d_He_putByte_18 (by decide) h (fun c h => ?_) (fun c h => ?_)
    · exact j_He_putByte_j44 g hR hx0 l1 n0 hm s ls (lv_sub hl [0, 1] rfl) h
    · refine ww_aload_n (pc := 21) g.1 d_He_putByte_21 rfl (lv_at hl 0 rfl) ?_
      refine ww_aload_n (pc := 22) g.1 d_He_putByte_22 rfl (lv_at hl 0 rfl) ?_
      refine ww_gR (pc := 23) g (k := 8) cl_He (pz rfl (by decide)) (by decide) (Or.inl kw_1472) (f := 14216) (t := 118) rfl rfl rfl d_He_putByte_23 ?_
      refine ww_ldc (pc := 26) g (v := 400000) kw_1350 d_He_putByte_26 ?_
      refine ww_iconst (pc := 28) g.1 (v := 2) d_He_putByte_28 (by decide) ?_
      refine ww_aload_n (pc := 29) g.1 d_He_putByte_29 rfl (lv_at hl 0 rfl) ?_
      refine ww_gR (pc := 30) g (k := 8) cl_He (pz rfl (by decide)) (by decide) (Or.inl kw_1472) (f := 14216) (t := 118) rfl rfl rfl d_He_putByte_30 ?_
      refine ww_ln (pz rfl (by decide)) h fun n33 hmn33 hnn33 h => ?_
      refine ww_alen (pc := 33) g (n := n33) (pz rfl (by decide)) (by decide) hmn33 d_He_putByte_33 ?_
      refine ww_imul (pc := 34) g.1 d_He_putByte_34 ?_
      obtain ⟨v35, s, hc35, h⟩ := oB_of h
      refine ww_callS (pc := 35) (rest := [.ref (q.1 118 0), .ref (q.1 111 0)]) g cs_Mth_min (Or.inl kw_1473) (ct_Mth_min hc35) ⟨by decide, by decide⟩ rfl hl.1 (Nat.le_of_ble_eq_true rfl) d_He_putByte_35 rfl (?_)
      refine ww_st (st' := [.int v35, .ref (q.1 118 0), .ref (q.1 111 0)]) rfl ?_
      refine ww_lo fun dlo => ?_
      obtain ⟨v38, s, hc38, h⟩ := oB_of h
      refine ww_callSX (pc := 38) (rest := [.ref (q.1 111 0)]) g cs_Arr_copyOf (Or.inl kw_1474) (ct_Arr_copyOf rfl (by decide) (pz rfl (by decide)) hm hc38) ⟨by decide, by decide⟩ rfl hl.1 (Nat.le_of_ble_eq_true rfl) d_He_putByte_38 rfl (fun q38 hE hm => ?_)
      refine ww_st (st' := .ref (q38.1 154 v38.1) :: [.ref (q.1 111 0)]) rfl ?_
      have ex38_0 : q38.1 111 0 = q.1 111 0 := hE _ _ (by decide) (dlo _ _ (pz rfl (by decide)))
      have hl : lv_has ls 2 [(0, .ref (q38.1 111 0)), (1, .int l1)] := by rw [ex38_0]; exact hl
      refine ww_st (st' := [.ref (q38.1 154 v38.1), .ref (q38.1 111 0)]) (by first | (rw [ex38_0]; done) | (rw [ex38_0]; rfl)) ?_
      have hx0 : Exq (xP X) [118, 154] _ q38 := hx0.tr (hE.sub (by decide))
      refine ww_ok h fun cz38 h => ?_
      refine ww_pr h fun pr38 h => ?_
      refine ww_st (st' := [.ref (q38.1 154 0), .ref (q38.1 111 0)]) (by rw [cz38]) ?_
      refine ww_lo fun dlo => ?_
      refine ww_mvB (L := [118, 154]) (pc := 41) g (k := 8) (t := 118) cl_He (pz rfl (by decide)) pr38 (by decide) (Or.inl kw_1472) rfl rfl (by decide) (by decide) (by decide) (by decide) ⟨rfl, rfl⟩ (by decide) hm d_He_putByte_41 h fun q41 s hs hE hm pm41 h => ?_
      have ex41_0 : q41.1 111 0 = q38.1 111 0 := hE _ _ (by decide) (dlo _ _ (pz rfl (by decide)))
      have hl : lv_has ls 2 [(0, .ref (q41.1 111 0)), (1, .int l1)] := by rw [ex41_0]; exact hl
      refine ww_st (st' := []) (by rfl) ?_
      have hx0 : Exq (xP X) [118, 154] _ q41 := hx0.tr (hE.sub (by decide))
      exact j_He_putByte_j44 g hR hx0 l1 v38.2 hm s ls (lv_sub hl [0, 1] rfl) h

abbrev b_He_putText : ByteArray := prog_6_method_14_code
def y_He_putText : MethodName := ⟨R_He, "putText", "(Ljava/lang/String;)V"⟩
abbrev w_He_putText : List Cond := .code y_He_putText b_He_putText 3 none :: wA
theorem k_He_putText : Cond.code y_He_putText b_He_putText 3 none ∈ wA := kinm (show _ ∈ tables_1 from (List.mem_append_right _ (List.mem_append_right _ (List.mem_append_right _ (List.mem_append_right _ (List.mem_append_right _ (List.mem_append_right _ (List.mem_append_right _ (List.mem_append_left _ (List.mem_of_getElem? (l := tables_1_8) (i := 17) (by decide +kernel))))))))))) (by decide +kernel)
theorem d_He_putText_0 : decode b_He_putText 0 = .ok (.iconst 0, 1) := by decide +kernel
theorem d_He_putText_1 : decode b_He_putText 1 = .ok (.istore_n 2, 1) := by decide +kernel
theorem d_He_putText_2 : decode b_He_putText 2 = .ok (.iload_n 2, 1) := by decide +kernel
theorem d_He_putText_3 : decode b_He_putText 3 = .ok (.aload_n 1, 1) := by decide +kernel
theorem d_He_putText_4 : decode b_He_putText 4 = .ok (.invokevirtual 158, 3) := by decide +kernel
theorem d_He_putText_7 : decode b_He_putText 7 = .ok (.if_icmp .ge 18, 3) := by decide +kernel
theorem d_He_putText_10 : decode b_He_putText 10 = .ok (.aload_n 0, 1) := by decide +kernel
theorem d_He_putText_11 : decode b_He_putText 11 = .ok (.aload_n 1, 1) := by decide +kernel
theorem d_He_putText_12 : decode b_He_putText 12 = .ok (.iload_n 2, 1) := by decide +kernel
theorem d_He_putText_13 : decode b_He_putText 13 = .ok (.invokevirtual 163, 3) := by decide +kernel
theorem d_He_putText_16 : decode b_He_putText 16 = .ok (.invokevirtual 167, 3) := by decide +kernel
theorem d_He_putText_19 : decode b_He_putText 19 = .ok (.iinc 2 1, 3) := by decide +kernel
theorem d_He_putText_22 : decode b_He_putText 22 = .ok (.goto (-20), 3) := by decide +kernel
theorem d_He_putText_25 : decode b_He_putText 25 = .ok (.return_, 1) := by decide +kernel
theorem kw_1477 : Cond.methodLink R_He 158 y_Str_length ∈ wA := kinm (show _ ∈ tables_1 from (List.mem_append_right _ (List.mem_append_right _ (List.mem_append_right _ (List.mem_append_right _ (List.mem_append_right _ (List.mem_append_right _ (List.mem_append_right _ (List.mem_append_left _ (List.mem_of_getElem? (l := tables_1_8) (i := 18) (by decide +kernel))))))))))) (by decide +kernel)
theorem kw_1478 : Cond.methodLink R_He 163 y_Str_charAt ∈ wA := kinm (show _ ∈ tables_1 from (List.mem_append_right _ (List.mem_append_right _ (List.mem_append_right _ (List.mem_append_right _ (List.mem_append_right _ (List.mem_append_right _ (List.mem_append_right _ (List.mem_append_left _ (List.mem_of_getElem? (l := tables_1_8) (i := 19) (by decide +kernel))))))))))) (by decide +kernel)
theorem kw_1479 : Cond.methodLink R_He 167 y_He_putByte ∈ wA := kinm (show _ ∈ tables_1 from (List.mem_append_right _ (List.mem_append_right _ (List.mem_append_right _ (List.mem_append_right _ (List.mem_append_right _ (List.mem_append_right _ (List.mem_append_right _ (List.mem_append_left _ (List.mem_of_getElem? (l := tables_1_8) (i := 20) (by decide +kernel))))))))))) (by decide +kernel)
theorem kw_1480 : Cond.instanceMethod y_He_putText ∈ wA := kinm (show _ ∈ tables_1 from (List.mem_append_right _ (List.mem_append_right _ (List.mem_append_right _ (List.mem_append_right _ (List.mem_append_right _ (List.mem_append_right _ (List.mem_append_right _ (List.mem_append_left _ (List.mem_of_getElem? (l := tables_1_8) (i := 15) (by decide +kernel))))))))))) (by decide +kernel)
theorem kw_1481 : Cond.selects R_He y_He_putText y_He_putText ∈ wA := kinm (show _ ∈ tables_1 from (List.mem_append_right _ (List.mem_append_right _ (List.mem_append_right _ (List.mem_append_right _ (List.mem_append_right _ (List.mem_append_right _ (List.mem_append_right _ (List.mem_append_left _ (List.mem_of_getElem? (l := tables_1_8) (i := 16) (by decide +kernel))))))))))) (by decide +kernel)
theorem cv_He_putText : CV y_He_putText b_He_putText 3 none 1 := ⟨kw_1480, kw_1481, kw_712, k_He_putText, by decide +kernel⟩
theorem lp_He_putText_L2 {X : Cx} {q0 : PL} (g : Gd X y_He_putText b_He_putText 3 none 5 150 R_He) (x : Nat × Int32 × (Nat × Nat)) (s : S1) (o : ((Nat × Int32 × (Nat × Nat)) ⊕ (((Nat × Nat)))) × S1) (h : M_He_putText_L2 x s = some o) (hR : (Sum.elim (fun y : Nat × Int32 × (Nat × Nat) => ∀ q : PL, Exq (xP X) [118, 154] q0 q → Rmq (xP X) q y.2.2 → ∀ ls : Array Slot, (y.1 < nSt) → lv_has ls 3 [(0, .ref (q.1 111 0)), (1, .ref (aK (xP X) y.1)), (2, .int y.2.1)] → WW X q o.2 2 ls []) (fun y : (Nat × Nat) => ∀ q : PL, Exq (xP X) [118, 154] q0 q → Rmq (xP X) q y → ∀ ls : Array Slot, lv_has ls 3 [] → WW X q o.2 25 ls []) o.1)) : ∀ q : PL, Exq (xP X) [118, 154] q0 q → Rmq (xP X) q x.2.2 → ∀ ls : Array Slot, (x.1 < nSt) → lv_has ls 3 [(0, .ref (q.1 111 0)), (1, .ref (aK (xP X) x.1)), (2, .int x.2.1)] → WW X q s 2 ls [] := by
  intro q hx0 hm ls hp0 hl
  unfold M_He_putText_L2 at h
  refine ww_iload_n (pc := 2) g.1 d_He_putText_2 rfl (lv_at hl 2 rfl) ?_
  refine ww_aload_n (pc := 3) g.1 d_He_putText_3 rfl (lv_at hl 1 rfl) ?_
  refine ww_slen (pc := 4) g (n := x.1) hp0 kw_1477 ⟨by decide, by decide⟩ hl.1 (Nat.le_of_ble_eq_true rfl) d_He_putText_4 ?_
  refine ww_icmp_ge (pc := 7) (tgt := 25) g.1 d_He_putText_7 (by decide) h (fun c h => ?_) (fun c h => ?_)
  · rw [oR_eq h] at hR
    exact hR q hx0 hm ls (lv_sub hl [] rfl)
  · refine ww_aload_n (pc := 10) g.1 d_He_putText_10 rfl (lv_at hl 0 rfl) ?_
    refine ww_aload_n (pc := 11) g.1 d_He_putText_11 rfl (lv_at hl 1 rfl) ?_
    refine ww_iload_n (pc := 12) g.1 d_He_putText_12 rfl (lv_at hl 2 rfl) ?_
    refine ww_ok h fun cs13 h => ?_
    refine ww_schar (pc := 13) g (n := x.1) hp0 cs13 kw_1478 ⟨by decide, by decide⟩ hl.1 (Nat.le_of_ble_eq_true rfl) d_He_putText_13 ?_
    refine ww_lo fun dlo => ?_
    obtain ⟨v16, s, hc16, h⟩ := oB_of h
    refine ww_callVX (pc := 16) (rest := []) g cv_He_putByte (Or.inl kw_1479) cl_He (pz rfl (by decide)) (ct_He_putByte hm hc16) ⟨by decide, by decide⟩ rfl hl.1 (Nat.le_of_ble_eq_true rfl) d_He_putText_16 rfl (fun q16 hE hm => ?_)
    have ex16_0 : q16.1 111 0 = q.1 111 0 := hE _ _ (by decide) (dlo _ _ (pz rfl (by decide)))
    have hl : lv_has ls 3 [(0, .ref (q16.1 111 0)), (1, .ref (aK (xP X) x.1)), (2, .int x.2.1)] := by rw [ex16_0]; exact hl
    refine ww_st (st' := []) (by rfl) ?_
    have hx0 : Exq (xP X) [118, 154] _ q16 := hx0.tr (hE.sub (by decide))
    refine ww_iinc (pc := 19) g.1 (v := x.2.1 + 1) (lv' := [(2, .int (x.2.1 + 1)), (0, .ref (q16.1 111 0)), (1, .ref (aK (xP X) x.1))]) d_He_putText_19 hl (k := 2) rfl (by rfl) (by decide) rfl fun ls hl => ?_
    refine ww_goto (pc := 22) (tgt := 2) g.1 d_He_putText_22 (by decide) ?_
    rw [oR_eq h] at hR
    exact hR q16 hx0 hm ls hp0 (lv_sub hl [1, 2, 0] rfl)

theorem ct_He_putText {l : Launch} {P : PP} {q : PL} {s s' : S1} {n0 n1 : Nat × Nat} {l1 : Nat} (hp0 : l1 < nSt) {r : Unit} (hm : Rmq P q n0) (h : M_He_putText n0 l1 s = some ((r, n1), s')) : CtX l y_He_putText b_He_putText 3 none 5 150 P [118, 154] q s [.ref (q.1 111 0), .ref (aK P l1)] (fun _ => none) n1 s' := by
  refine ctX_of (by decide) (Nat.le_of_ble_eq_true rfl) fun X ls eP el g hR hl => ?_
  subst eP
  obtain ⟨q0, hq0⟩ : ∃ q0 : PL, q0 = q := ⟨q, rfl⟩
  have hx0 : Exq (xP X) [118, 154] q0 q := hq0 ▸ Exq.rf
  rw [← hq0] at hR
  have hR : RtX X [118, 154] q0 (((r, n1), s') : (Unit × (Nat × Nat)) × S1).1.2 (((r, n1), s') : (Unit × (Nat × Nat)) × S1).2 (fun _ => none) := hR
  have hl : lv_has ls 3 [(0, .ref (q.1 111 0)), (1, .ref (aK (xP X) l1))] := hl
  generalize ((r, n1), s') = o at h hR
  unfold M_He_putText at h
  refine ww_iconst (pc := 0) g.1 (v := 0) d_He_putText_0 (by decide) ?_
  refine ww_istore_n (pc := 1) (i := 2) g.1 (lv' := [(2, .int 0), (0, .ref (q.1 111 0)), (1, .ref (aK (xP X) l1))]) d_He_putText_1 rfl hl (by decide) rfl fun ls hl => ?_
  obtain ⟨e2, s1, hw, h⟩ := oB_of h
  refine oW_rule (Wh := fun (x : Nat × Int32 × (Nat × Nat)) (s : S1) => ∀ q : PL, Exq (xP X) [118, 154] q0 q → Rmq (xP X) q x.2.2 → ∀ ls : Array Slot, (x.1 < nSt) → lv_has ls 3 [(0, .ref (q.1 111 0)), (1, .ref (aK (xP X) x.1)), (2, .int x.2.1)] → WW X q s 2 ls []) (We := fun (e : ((Nat × Nat))) (s : S1) => ∀ q : PL, Exq (xP X) [118, 154] q0 q → Rmq (xP X) q e → ∀ ls : Array Slot, lv_has ls 3 [] → WW X q s 25 ls []) (fun x s o hb hc => lp_He_putText_L2 (q0 := q0) g x s o hb hc) hw ?_ q hx0 hm ls hp0 (lv_sub hl [1, 2, 0] rfl)
  clear hw hl hx0 hm
  clear ls
  intro qL2 hx0 hm ls hl
  generalize s1 = s at h ⊢
  exact ww_vretX (pc := 25) g h hR hx0 hm d_He_putText_25

abbrev b_He_putDecimal : ByteArray := prog_6_method_15_code
def y_He_putDecimal : MethodName := ⟨R_He, "putDecimal", "(J)V"⟩
abbrev w_He_putDecimal : List Cond := .code y_He_putDecimal b_He_putDecimal 5 none :: wA
theorem k_He_putDecimal : Cond.code y_He_putDecimal b_He_putDecimal 5 none ∈ wA := kinm (show _ ∈ tables_1 from (List.mem_append_right _ (List.mem_append_right _ (List.mem_append_right _ (List.mem_append_right _ (List.mem_append_right _ (List.mem_append_right _ (List.mem_append_right _ (List.mem_append_left _ (List.mem_of_getElem? (l := tables_1_8) (i := 26) (by decide +kernel))))))))))) (by decide +kernel)
theorem d_He_putDecimal_0 : decode b_He_putDecimal 0 = .ok (.lload_n 1, 1) := by decide +kernel
theorem d_He_putDecimal_1 : decode b_He_putDecimal 1 = .ok (.lconst 0, 1) := by decide +kernel
theorem d_He_putDecimal_2 : decode b_He_putDecimal 2 = .ok (.lcmp, 1) := by decide +kernel
theorem d_He_putDecimal_3 : decode b_He_putDecimal 3 = .ok (.ifCond .ge 9, 3) := by decide +kernel
theorem d_He_putDecimal_6 : decode b_He_putDecimal 6 = .ok (.aload_n 0, 1) := by decide +kernel
theorem d_He_putDecimal_7 : decode b_He_putDecimal 7 = .ok (.bipush 45, 2) := by decide +kernel
theorem d_He_putDecimal_9 : decode b_He_putDecimal 9 = .ok (.invokevirtual 167, 3) := by decide +kernel
theorem d_He_putDecimal_12 : decode b_He_putDecimal 12 = .ok (.lconst 1, 1) := by decide +kernel
theorem d_He_putDecimal_13 : decode b_He_putDecimal 13 = .ok (.lstore_n 3, 1) := by decide +kernel
theorem d_He_putDecimal_14 : decode b_He_putDecimal 14 = .ok (.lload_n 3, 1) := by decide +kernel
theorem d_He_putDecimal_15 : decode b_He_putDecimal 15 = .ok (.ldc2_w 170, 3) := by decide +kernel
theorem d_He_putDecimal_18 : decode b_He_putDecimal 18 = .ok (.lcmp, 1) := by decide +kernel
theorem d_He_putDecimal_19 : decode b_He_putDecimal 19 = .ok (.ifCond .ge 24, 3) := by decide +kernel
theorem d_He_putDecimal_22 : decode b_He_putDecimal 22 = .ok (.lload_n 1, 1) := by decide +kernel
theorem d_He_putDecimal_23 : decode b_He_putDecimal 23 = .ok (.lload_n 3, 1) := by decide +kernel
theorem d_He_putDecimal_24 : decode b_He_putDecimal 24 = .ok (.ldiv, 1) := by decide +kernel
theorem d_He_putDecimal_25 : decode b_He_putDecimal 25 = .ok (.ldc2_w 172, 3) := by decide +kernel
theorem d_He_putDecimal_28 : decode b_He_putDecimal 28 = .ok (.ldiv, 1) := by decide +kernel
theorem d_He_putDecimal_29 : decode b_He_putDecimal 29 = .ok (.lconst 0, 1) := by decide +kernel
theorem d_He_putDecimal_30 : decode b_He_putDecimal 30 = .ok (.lcmp, 1) := by decide +kernel
theorem d_He_putDecimal_31 : decode b_He_putDecimal 31 = .ok (.ifCond .eq 12, 3) := by decide +kernel
theorem d_He_putDecimal_34 : decode b_He_putDecimal 34 = .ok (.lload_n 3, 1) := by decide +kernel
theorem d_He_putDecimal_35 : decode b_He_putDecimal 35 = .ok (.ldc2_w 172, 3) := by decide +kernel
theorem d_He_putDecimal_38 : decode b_He_putDecimal 38 = .ok (.lmul, 1) := by decide +kernel
theorem d_He_putDecimal_39 : decode b_He_putDecimal 39 = .ok (.lstore_n 3, 1) := by decide +kernel
theorem d_He_putDecimal_40 : decode b_He_putDecimal 40 = .ok (.goto (-26), 3) := by decide +kernel
theorem d_He_putDecimal_43 : decode b_He_putDecimal 43 = .ok (.lload_n 3, 1) := by decide +kernel
theorem d_He_putDecimal_44 : decode b_He_putDecimal 44 = .ok (.lconst 0, 1) := by decide +kernel
theorem d_He_putDecimal_45 : decode b_He_putDecimal 45 = .ok (.lcmp, 1) := by decide +kernel
theorem d_He_putDecimal_46 : decode b_He_putDecimal 46 = .ok (.ifCond .le 30, 3) := by decide +kernel
theorem d_He_putDecimal_49 : decode b_He_putDecimal 49 = .ok (.aload_n 0, 1) := by decide +kernel
theorem d_He_putDecimal_50 : decode b_He_putDecimal 50 = .ok (.bipush 48, 2) := by decide +kernel
theorem d_He_putDecimal_52 : decode b_He_putDecimal 52 = .ok (.lload_n 1, 1) := by decide +kernel
theorem d_He_putDecimal_53 : decode b_He_putDecimal 53 = .ok (.lload_n 3, 1) := by decide +kernel
theorem d_He_putDecimal_54 : decode b_He_putDecimal 54 = .ok (.ldiv, 1) := by decide +kernel
theorem d_He_putDecimal_55 : decode b_He_putDecimal 55 = .ok (.ldc2_w 172, 3) := by decide +kernel
theorem d_He_putDecimal_58 : decode b_He_putDecimal 58 = .ok (.lrem, 1) := by decide +kernel
theorem d_He_putDecimal_59 : decode b_He_putDecimal 59 = .ok (.invokestatic 174, 3) := by decide +kernel
theorem d_He_putDecimal_62 : decode b_He_putDecimal 62 = .ok (.l2i, 1) := by decide +kernel
theorem d_He_putDecimal_63 : decode b_He_putDecimal 63 = .ok (.iadd, 1) := by decide +kernel
theorem d_He_putDecimal_64 : decode b_He_putDecimal 64 = .ok (.invokevirtual 167, 3) := by decide +kernel
theorem d_He_putDecimal_67 : decode b_He_putDecimal 67 = .ok (.lload_n 3, 1) := by decide +kernel
theorem d_He_putDecimal_68 : decode b_He_putDecimal 68 = .ok (.ldc2_w 172, 3) := by decide +kernel
theorem d_He_putDecimal_71 : decode b_He_putDecimal 71 = .ok (.ldiv, 1) := by decide +kernel
theorem d_He_putDecimal_72 : decode b_He_putDecimal 72 = .ok (.lstore_n 3, 1) := by decide +kernel
theorem d_He_putDecimal_73 : decode b_He_putDecimal 73 = .ok (.goto (-30), 3) := by decide +kernel
theorem d_He_putDecimal_76 : decode b_He_putDecimal 76 = .ok (.return_, 1) := by decide +kernel
theorem kw_1482 : Cond.constantLong R_He 170 1000000000000000000 ∈ wA := kinm (show _ ∈ tables_1 from (List.mem_append_right _ (List.mem_append_right _ (List.mem_append_right _ (List.mem_append_right _ (List.mem_append_right _ (List.mem_append_right _ (List.mem_append_right _ (List.mem_append_left _ (List.mem_of_getElem? (l := tables_1_8) (i := 27) (by decide +kernel))))))))))) (by decide +kernel)
theorem kw_1483 : Cond.constantLong R_He 172 10 ∈ wA := kinm (show _ ∈ tables_1 from (List.mem_append_right _ (List.mem_append_right _ (List.mem_append_right _ (List.mem_append_right _ (List.mem_append_right _ (List.mem_append_right _ (List.mem_append_right _ (List.mem_append_left _ (List.mem_of_getElem? (l := tables_1_8) (i := 28) (by decide +kernel))))))))))) (by decide +kernel)
theorem kw_1484 : Cond.methodLink R_He 174 y_Mth_abs ∈ wA := kinm (show _ ∈ tables_1 from (List.mem_append_right _ (List.mem_append_right _ (List.mem_append_right _ (List.mem_append_right _ (List.mem_append_right _ (List.mem_append_right _ (List.mem_append_right _ (List.mem_append_left _ (List.mem_of_getElem? (l := tables_1_8) (i := 29) (by decide +kernel))))))))))) (by decide +kernel)
theorem kw_1485 : Cond.instanceMethod y_He_putDecimal ∈ wA := kinm (show _ ∈ tables_1 from (List.mem_append_right _ (List.mem_append_right _ (List.mem_append_right _ (List.mem_append_right _ (List.mem_append_right _ (List.mem_append_right _ (List.mem_append_right _ (List.mem_append_left _ (List.mem_of_getElem? (l := tables_1_8) (i := 24) (by decide +kernel))))))))))) (by decide +kernel)
theorem kw_1486 : Cond.selects R_He y_He_putDecimal y_He_putDecimal ∈ wA := kinm (show _ ∈ tables_1 from (List.mem_append_right _ (List.mem_append_right _ (List.mem_append_right _ (List.mem_append_right _ (List.mem_append_right _ (List.mem_append_right _ (List.mem_append_right _ (List.mem_append_left _ (List.mem_of_getElem? (l := tables_1_8) (i := 25) (by decide +kernel))))))))))) (by decide +kernel)
theorem cv_He_putDecimal : CV y_He_putDecimal b_He_putDecimal 5 none 1 := ⟨kw_1485, kw_1486, kw_712, k_He_putDecimal, by decide +kernel⟩
theorem lp_He_putDecimal_L14 {X : Cx} {q0 : PL} (g : Gd X y_He_putDecimal b_He_putDecimal 5 none 3 69 R_He) (x : Int64 × Int64 × (Nat × Nat)) (s : S1) (o : ((Int64 × Int64 × (Nat × Nat)) ⊕ ((Int64 × Int64 × (Nat × Nat)))) × S1) (h : M_He_putDecimal_L14 x s = some o) (hR : (Sum.elim (fun y : Int64 × Int64 × (Nat × Nat) => ∀ q : PL, Exq (xP X) [118, 154] q0 q → Rmq (xP X) q y.2.2 → ∀ ls : Array Slot, lv_has ls 5 [(0, .ref (q.1 111 0)), (1, .long y.1), (3, .long y.2.1)] → WW X q o.2 14 ls []) (fun y : Int64 × Int64 × (Nat × Nat) => ∀ q : PL, Exq (xP X) [118, 154] q0 q → Rmq (xP X) q y.2.2 → ∀ ls : Array Slot, lv_has ls 5 [(0, .ref (q.1 111 0)), (1, .long y.1), (3, .long y.2.1)] → WW X q o.2 43 ls []) o.1)) : ∀ q : PL, Exq (xP X) [118, 154] q0 q → Rmq (xP X) q x.2.2 → ∀ ls : Array Slot, lv_has ls 5 [(0, .ref (q.1 111 0)), (1, .long x.1), (3, .long x.2.1)] → WW X q s 14 ls [] := by
  intro q hx0 hm ls hl
  unfold M_He_putDecimal_L14 at h
  refine ww_lload_n (pc := 14) g.1 d_He_putDecimal_14 rfl (lv_at hl 2 rfl) ?_
  refine ww_ldc2 (pc := 15) g (v := 1000000000000000000) kw_1482 d_He_putDecimal_15 ?_
  refine ww_lcmp (pc := 18) g.1 d_He_putDecimal_18 ?_
  refine ww_if_ge (pc := 19) (tgt := 43) g.1 d_He_putDecimal_19 (by decide) h (fun c h => ?_) (fun c h => ?_)
  · rw [oR_eq h] at hR
    exact hR q hx0 hm ls (lv_sub hl [0, 1, 2] rfl)
  · refine ww_lload_n (pc := 22) g.1 d_He_putDecimal_22 rfl (lv_at hl 1 rfl) ?_
    refine ww_lload_n (pc := 23) g.1 d_He_putDecimal_23 rfl (lv_at hl 2 rfl) ?_
    refine ww_ok h fun cd h => ?_
    refine ww_ldiv (pc := 24) g.1 d_He_putDecimal_24 cd ?_
    refine ww_ldc2 (pc := 25) g (v := 10) kw_1483 d_He_putDecimal_25 ?_
    refine ww_ldiv (pc := 28) g.1 d_He_putDecimal_28 (by decide) ?_
    refine ww_lconst (pc := 29) g.1 (v := 0) d_He_putDecimal_29 (by decide) ?_
    refine ww_lcmp (pc := 30) g.1 d_He_putDecimal_30 ?_
    refine ww_if_eq (pc := 31) (tgt := 43) g.1 d_He_putDecimal_31 (by decide) h (fun c h => ?_) (fun c h => ?_)
    · rw [oR_eq h] at hR
      exact hR q hx0 hm ls (lv_sub hl [0, 1, 2] rfl)
    · refine ww_lload_n (pc := 34) g.1 d_He_putDecimal_34 rfl (lv_at hl 2 rfl) ?_
      refine ww_ldc2 (pc := 35) g (v := 10) kw_1483 d_He_putDecimal_35 ?_
      refine ww_lmul (pc := 38) g.1 d_He_putDecimal_38 ?_
      refine ww_letl h fun l3_39 h => ?_
      refine ww_lstore_n (pc := 39) (i := 3) g.1 (lv' := [(3, .long l3_39), (0, .ref (q.1 111 0)), (1, .long x.1)]) d_He_putDecimal_39 rfl hl (by decide) rfl fun ls hl => ?_
      refine ww_goto (pc := 40) (tgt := 14) g.1 d_He_putDecimal_40 (by decide) ?_
      rw [oR_eq h] at hR
      exact hR q hx0 hm ls (lv_sub hl [1, 2, 0] rfl)

theorem lp_He_putDecimal_L43 {X : Cx} {q0 : PL} (g : Gd X y_He_putDecimal b_He_putDecimal 5 none 3 69 R_He) (x : Int64 × Int64 × (Nat × Nat)) (s : S1) (o : ((Int64 × Int64 × (Nat × Nat)) ⊕ (((Nat × Nat)))) × S1) (h : M_He_putDecimal_L43 x s = some o) (hR : (Sum.elim (fun y : Int64 × Int64 × (Nat × Nat) => ∀ q : PL, Exq (xP X) [118, 154] q0 q → Rmq (xP X) q y.2.2 → ∀ ls : Array Slot, lv_has ls 5 [(0, .ref (q.1 111 0)), (1, .long y.1), (3, .long y.2.1)] → WW X q o.2 43 ls []) (fun y : (Nat × Nat) => ∀ q : PL, Exq (xP X) [118, 154] q0 q → Rmq (xP X) q y → ∀ ls : Array Slot, lv_has ls 5 [] → WW X q o.2 76 ls []) o.1)) : ∀ q : PL, Exq (xP X) [118, 154] q0 q → Rmq (xP X) q x.2.2 → ∀ ls : Array Slot, lv_has ls 5 [(0, .ref (q.1 111 0)), (1, .long x.1), (3, .long x.2.1)] → WW X q s 43 ls [] := by
  intro q hx0 hm ls hl
  unfold M_He_putDecimal_L43 at h
  refine ww_lload_n (pc := 43) g.1 d_He_putDecimal_43 rfl (lv_at hl 2 rfl) ?_
  refine ww_lconst (pc := 44) g.1 (v := 0) d_He_putDecimal_44 (by decide) ?_
  refine ww_lcmp (pc := 45) g.1 d_He_putDecimal_45 ?_
  refine ww_if_le (pc := 46) (tgt := 76) g.1 d_He_putDecimal_46 (by decide) h (fun c h => ?_) (fun c h => ?_)
  · rw [oR_eq h] at hR
    exact hR q hx0 hm ls (lv_sub hl [] rfl)
  · refine ww_aload_n (pc := 49) g.1 d_He_putDecimal_49 rfl (lv_at hl 0 rfl) ?_
    refine ww_bipush (pc := 50) g.1 (v := 48) d_He_putDecimal_50 (by decide) ?_
    refine ww_lload_n (pc := 52) g.1 d_He_putDecimal_52 rfl (lv_at hl 1 rfl) ?_
    refine ww_lload_n (pc := 53) g.1 d_He_putDecimal_53 rfl (lv_at hl 2 rfl) ?_
    refine ww_ok h fun cd h => ?_
    refine ww_ldiv (pc := 54) g.1 d_He_putDecimal_54 cd ?_
    refine ww_ldc2 (pc := 55) g (v := 10) kw_1483 d_He_putDecimal_55 ?_
    refine ww_lrem (pc := 58) g.1 d_He_putDecimal_58 (by decide) ?_
    obtain ⟨v59, s, hc59, h⟩ := oB_of h
    refine ww_callS (pc := 59) (rest := [.int 48, .ref (q.1 111 0)]) g cs_Mth_abs (Or.inl kw_1484) (ct_Mth_abs hc59) ⟨by decide, by decide⟩ rfl hl.1 (Nat.le_of_ble_eq_true rfl) d_He_putDecimal_59 rfl (?_)
    refine ww_st (st' := [.long v59, .int 48, .ref (q.1 111 0)]) rfl ?_
    refine ww_l2i (pc := 62) g.1 (v := v59.toInt32) d_He_putDecimal_62 rfl ?_
    refine ww_iadd (pc := 63) g.1 d_He_putDecimal_63 ?_
    refine ww_lo fun dlo => ?_
    obtain ⟨v64, s, hc64, h⟩ := oB_of h
    refine ww_callVX (pc := 64) (rest := []) g cv_He_putByte (Or.inl kw_1479) cl_He (pz rfl (by decide)) (ct_He_putByte hm hc64) ⟨by decide, by decide⟩ rfl hl.1 (Nat.le_of_ble_eq_true rfl) d_He_putDecimal_64 rfl (fun q64 hE hm => ?_)
    have ex64_0 : q64.1 111 0 = q.1 111 0 := hE _ _ (by decide) (dlo _ _ (pz rfl (by decide)))
    have hl : lv_has ls 5 [(0, .ref (q64.1 111 0)), (1, .long x.1), (3, .long x.2.1)] := by rw [ex64_0]; exact hl
    refine ww_st (st' := []) (by rfl) ?_
    have hx0 : Exq (xP X) [118, 154] _ q64 := hx0.tr (hE.sub (by decide))
    refine ww_lload_n (pc := 67) g.1 d_He_putDecimal_67 rfl (lv_at hl 2 rfl) ?_
    refine ww_ldc2 (pc := 68) g (v := 10) kw_1483 d_He_putDecimal_68 ?_
    refine ww_ldiv (pc := 71) g.1 d_He_putDecimal_71 (by decide) ?_
    refine ww_letl h fun l3_72 h => ?_
    refine ww_lstore_n (pc := 72) (i := 3) g.1 (lv' := [(3, .long l3_72), (0, .ref (q64.1 111 0)), (1, .long x.1)]) d_He_putDecimal_72 rfl hl (by decide) rfl fun ls hl => ?_
    refine ww_goto (pc := 73) (tgt := 43) g.1 d_He_putDecimal_73 (by decide) ?_
    rw [oR_eq h] at hR
    exact hR q64 hx0 hm ls (lv_sub hl [1, 2, 0] rfl)

theorem j_He_putDecimal_j12 {X : Cx} {q0 q : PL} (g : Gd X y_He_putDecimal b_He_putDecimal 5 none 3 69 R_He) {o : (Unit × (Nat × Nat)) × S1} (hR : RtX X [118, 154] q0 o.1.2 o.2 (fun _ => none)) (hx0 : Exq (xP X) [118, 154] q0 q) (l1 : Int64) (ln : Nat × Nat) (hm : Rmq (xP X) q ln) (s : S1) (ls : Array Slot) (hl : lv_has ls 5 [(0, .ref (q.1 111 0)), (1, .long l1)]) (h : M_He_putDecimal_j12 l1 ln s = some o) : WW X q s 12 ls [] := by
  unfold M_He_putDecimal_j12 at h
  refine ww_lconst (pc := 12) g.1 (v := 1) d_He_putDecimal_12 (by decide) ?_
  refine ww_lstore_n (pc := 13) (i := 3) g.1 (lv' := [(3, .long 1), (0, .ref (q.1 111 0)), (1, .long l1)]) d_He_putDecimal_13 rfl hl (by decide) rfl fun ls hl => ?_
  obtain ⟨e14, s1, hw, h⟩ := oB_of h
  refine oW_rule (Wh := fun (x : Int64 × Int64 × (Nat × Nat)) (s : S1) => ∀ q : PL, Exq (xP X) [118, 154] q0 q → Rmq (xP X) q x.2.2 → ∀ ls : Array Slot, lv_has ls 5 [(0, .ref (q.1 111 0)), (1, .long x.1), (3, .long x.2.1)] → WW X q s 14 ls []) (We := fun (e : (Int64 × Int64 × (Nat × Nat))) (s : S1) => ∀ q : PL, Exq (xP X) [118, 154] q0 q → Rmq (xP X) q e.2.2 → ∀ ls : Array Slot, lv_has ls 5 [(0, .ref (q.1 111 0)), (1, .long e.1), (3, .long e.2.1)] → WW X q s 43 ls []) (fun x s o hb hc => lp_He_putDecimal_L14 (q0 := q0) g x s o hb hc) hw ?_ q hx0 hm ls (lv_sub hl [1, 2, 0] rfl)
  clear hw hl hx0 hm
  clear ls
  intro qL14 hx0 hm ls hl
  generalize s1 = s at h ⊢
  obtain ⟨e43, s1, hw, h⟩ := oB_of h
  refine oW_rule (Wh := fun (x : Int64 × Int64 × (Nat × Nat)) (s : S1) => ∀ q : PL, Exq (xP X) [118, 154] q0 q → Rmq (xP X) q x.2.2 → ∀ ls : Array Slot, lv_has ls 5 [(0, .ref (q.1 111 0)), (1, .long x.1), (3, .long x.2.1)] → WW X q s 43 ls []) (We := fun (e : ((Nat × Nat))) (s : S1) => ∀ q : PL, Exq (xP X) [118, 154] q0 q → Rmq (xP X) q e → ∀ ls : Array Slot, lv_has ls 5 [] → WW X q s 76 ls []) (fun x s o hb hc => lp_He_putDecimal_L43 (q0 := q0) g x s o hb hc) hw ?_ qL14 hx0 hm ls (lv_sub hl [0, 1, 2] rfl)
  clear hw hl hx0 hm
  clear ls
  intro qL43 hx0 hm ls hl
  generalize s1 = s at h ⊢
  exact ww_vretX (pc := 76) g h hR hx0 hm d_He_putDecimal_76

theorem ct_He_putDecimal {l : Launch} {P : PP} {q : PL} {s s' : S1} {n0 n1 : Nat × Nat} {l1 : Int64} {r : Unit} (hm : Rmq P q n0) (h : M_He_putDecimal n0 l1 s = some ((r, n1), s')) : CtX l y_He_putDecimal b_He_putDecimal 5 none 3 69 P [118, 154] q s [.ref (q.1 111 0), .long l1] (fun _ => none) n1 s' := by
  refine ctX_of (by decide) (Nat.le_of_ble_eq_true rfl) fun X ls eP el g hR hl => ?_
  subst eP
  obtain ⟨q0, hq0⟩ : ∃ q0 : PL, q0 = q := ⟨q, rfl⟩
  have hx0 : Exq (xP X) [118, 154] q0 q := hq0 ▸ Exq.rf
  rw [← hq0] at hR
  have hR : RtX X [118, 154] q0 (((r, n1), s') : (Unit × (Nat × Nat)) × S1).1.2 (((r, n1), s') : (Unit × (Nat × Nat)) × S1).2 (fun _ => none) := hR
  have hl : lv_has ls 5 [(0, .ref (q.1 111 0)), (1, .long l1)] := hl
  generalize ((r, n1), s') = o at h hR
  unfold M_He_putDecimal at h
  refine ww_lload_n (pc := 0) g.1 d_He_putDecimal_0 rfl (lv_at hl 1 rfl) ?_
  refine ww_lconst (pc := 1) g.1 (v := 0) d_He_putDecimal_1 (by decide) ?_
  refine ww_lcmp (pc := 2) g.1 d_He_putDecimal_2 ?_
  refine ww_if_ge (pc := 3) (tgt := 12) g.1 d_He_putDecimal_3 (by decide) h (fun c h => ?_) (fun c h => ?_)
  · exact j_He_putDecimal_j12 g hR hx0 l1 n0 hm s ls (lv_sub hl [0, 1] rfl) h
  · refine ww_aload_n (pc := 6) g.1 d_He_putDecimal_6 rfl (lv_at hl 0 rfl) ?_
    refine ww_bipush (pc := 7) g.1 (v := 45) d_He_putDecimal_7 (by decide) ?_
    refine ww_lo fun dlo => ?_
    obtain ⟨v9, s, hc9, h⟩ := oB_of h
    refine ww_callVX (pc := 9) (rest := []) g cv_He_putByte (Or.inl kw_1479) cl_He (pz rfl (by decide)) (ct_He_putByte hm hc9) ⟨by decide, by decide⟩ rfl hl.1 (Nat.le_of_ble_eq_true rfl) d_He_putDecimal_9 rfl (fun q9 hE hm => ?_)
    have ex9_0 : q9.1 111 0 = q.1 111 0 := hE _ _ (by decide) (dlo _ _ (pz rfl (by decide)))
    have hl : lv_has ls 5 [(0, .ref (q9.1 111 0)), (1, .long l1)] := by rw [ex9_0]; exact hl
    refine ww_st (st' := []) (by rfl) ?_
    have hx0 : Exq (xP X) [118, 154] _ q9 := hx0.tr (hE.sub (by decide))
    exact j_He_putDecimal_j12 g hR hx0 l1 v9.2 hm s ls (lv_sub hl [0, 1] rfl) h

abbrev b_He_putBytes : ByteArray := prog_6_method_12_code
def y_He_putBytes : MethodName := ⟨R_He, "putBytes", "([B)V"⟩
abbrev w_He_putBytes : List Cond := .code y_He_putBytes b_He_putBytes 3 none :: wA
theorem k_He_putBytes : Cond.code y_He_putBytes b_He_putBytes 3 none ∈ wA := kinm (show _ ∈ tables_1 from (List.mem_append_right _ (List.mem_append_right _ (List.mem_append_right _ (List.mem_append_right _ (List.mem_append_right _ (List.mem_append_right _ (List.mem_append_right _ (List.mem_append_right _ (List.mem_append_left _ (List.mem_of_getElem? (l := tables_1_9) (i := 27) (by decide +kernel)))))))))))) (by decide +kernel)
theorem d_He_putBytes_0 : decode b_He_putBytes 0 = .ok (.aload_n 0, 1) := by decide +kernel
theorem d_He_putBytes_1 : decode b_He_putBytes 1 = .ok (.getfield 136, 3) := by decide +kernel
theorem d_He_putBytes_4 : decode b_He_putBytes 4 = .ok (.aload_n 1, 1) := by decide +kernel
theorem d_He_putBytes_5 : decode b_He_putBytes 5 = .ok (.arraylength, 1) := by decide +kernel
theorem d_He_putBytes_6 : decode b_He_putBytes 6 = .ok (.iadd, 1) := by decide +kernel
theorem d_He_putBytes_7 : decode b_He_putBytes 7 = .ok (.istore_n 2, 1) := by decide +kernel
theorem d_He_putBytes_8 : decode b_He_putBytes 8 = .ok (.iload_n 2, 1) := by decide +kernel
theorem d_He_putBytes_9 : decode b_He_putBytes 9 = .ok (.ldc 67, 2) := by decide +kernel
theorem d_He_putBytes_11 : decode b_He_putBytes 11 = .ok (.if_icmp .gt 54, 3) := by decide +kernel
theorem d_He_putBytes_14 : decode b_He_putBytes 14 = .ok (.iload_n 2, 1) := by decide +kernel
theorem d_He_putBytes_15 : decode b_He_putBytes 15 = .ok (.aload_n 0, 1) := by decide +kernel
theorem d_He_putBytes_16 : decode b_He_putBytes 16 = .ok (.getfield 36, 3) := by decide +kernel
theorem d_He_putBytes_19 : decode b_He_putBytes 19 = .ok (.arraylength, 1) := by decide +kernel
theorem d_He_putBytes_20 : decode b_He_putBytes 20 = .ok (.if_icmp .le 30, 3) := by decide +kernel
theorem d_He_putBytes_23 : decode b_He_putBytes 23 = .ok (.aload_n 0, 1) := by decide +kernel
theorem d_He_putBytes_24 : decode b_He_putBytes 24 = .ok (.aload_n 0, 1) := by decide +kernel
theorem d_He_putBytes_25 : decode b_He_putBytes 25 = .ok (.getfield 36, 3) := by decide +kernel
theorem d_He_putBytes_28 : decode b_He_putBytes 28 = .ok (.ldc 67, 2) := by decide +kernel
theorem d_He_putBytes_30 : decode b_He_putBytes 30 = .ok (.iload_n 2, 1) := by decide +kernel
theorem d_He_putBytes_31 : decode b_He_putBytes 31 = .ok (.iconst 2, 1) := by decide +kernel
theorem d_He_putBytes_32 : decode b_He_putBytes 32 = .ok (.aload_n 0, 1) := by decide +kernel
theorem d_He_putBytes_33 : decode b_He_putBytes 33 = .ok (.getfield 36, 3) := by decide +kernel
theorem d_He_putBytes_36 : decode b_He_putBytes 36 = .ok (.arraylength, 1) := by decide +kernel
theorem d_He_putBytes_37 : decode b_He_putBytes 37 = .ok (.imul, 1) := by decide +kernel
theorem d_He_putBytes_38 : decode b_He_putBytes 38 = .ok (.invokestatic 139, 3) := by decide +kernel
theorem d_He_putBytes_41 : decode b_He_putBytes 41 = .ok (.invokestatic 145, 3) := by decide +kernel
theorem d_He_putBytes_44 : decode b_He_putBytes 44 = .ok (.invokestatic 148, 3) := by decide +kernel
theorem d_He_putBytes_47 : decode b_He_putBytes 47 = .ok (.putfield 36, 3) := by decide +kernel
theorem d_He_putBytes_50 : decode b_He_putBytes 50 = .ok (.aload_n 1, 1) := by decide +kernel
theorem d_He_putBytes_51 : decode b_He_putBytes 51 = .ok (.iconst 0, 1) := by decide +kernel
theorem d_He_putBytes_52 : decode b_He_putBytes 52 = .ok (.aload_n 0, 1) := by decide +kernel
theorem d_He_putBytes_53 : decode b_He_putBytes 53 = .ok (.getfield 36, 3) := by decide +kernel
theorem d_He_putBytes_56 : decode b_He_putBytes 56 = .ok (.aload_n 0, 1) := by decide +kernel
theorem d_He_putBytes_57 : decode b_He_putBytes 57 = .ok (.getfield 136, 3) := by decide +kernel
theorem d_He_putBytes_60 : decode b_He_putBytes 60 = .ok (.aload_n 1, 1) := by decide +kernel
theorem d_He_putBytes_61 : decode b_He_putBytes 61 = .ok (.arraylength, 1) := by decide +kernel
theorem d_He_putBytes_62 : decode b_He_putBytes 62 = .ok (.invokestatic 152, 3) := by decide +kernel
theorem d_He_putBytes_65 : decode b_He_putBytes 65 = .ok (.aload_n 0, 1) := by decide +kernel
theorem d_He_putBytes_66 : decode b_He_putBytes 66 = .ok (.iload_n 2, 1) := by decide +kernel
theorem d_He_putBytes_67 : decode b_He_putBytes 67 = .ok (.putfield 136, 3) := by decide +kernel
theorem d_He_putBytes_70 : decode b_He_putBytes 70 = .ok (.return_, 1) := by decide +kernel
theorem kw_1487 : Cond.methodLink R_He 152 y_ARRCOPY ∈ wA := kinm (show _ ∈ tables_1 from (List.mem_append_right _ (List.mem_append_right _ (List.mem_append_right _ (List.mem_append_right _ (List.mem_append_right _ (List.mem_append_right _ (List.mem_append_right _ (List.mem_append_right _ (List.mem_append_left _ (List.mem_of_getElem? (l := tables_1_9) (i := 29) (by decide +kernel)))))))))))) (by decide +kernel)
theorem kw_1488 : Cond.methodLink R_He 139 y_Mth_max ∈ wA := kinm (show _ ∈ tables_1 from (List.mem_append_right _ (List.mem_append_right _ (List.mem_append_right _ (List.mem_append_right _ (List.mem_append_right _ (List.mem_append_right _ (List.mem_append_right _ (List.mem_append_right _ (List.mem_append_left _ (List.mem_of_getElem? (l := tables_1_9) (i := 28) (by decide +kernel)))))))))))) (by decide +kernel)
theorem kw_1489 : Cond.instanceMethod y_He_putBytes ∈ wA := kinm (show _ ∈ tables_1 from (List.mem_append_right _ (List.mem_append_right _ (List.mem_append_right _ (List.mem_append_right _ (List.mem_append_right _ (List.mem_append_right _ (List.mem_append_right _ (List.mem_append_right _ (List.mem_append_left _ (List.mem_of_getElem? (l := tables_1_9) (i := 25) (by decide +kernel)))))))))))) (by decide +kernel)
theorem kw_1490 : Cond.selects R_He y_He_putBytes y_He_putBytes ∈ wA := kinm (show _ ∈ tables_1 from (List.mem_append_right _ (List.mem_append_right _ (List.mem_append_right _ (List.mem_append_right _ (List.mem_append_right _ (List.mem_append_right _ (List.mem_append_right _ (List.mem_append_right _ (List.mem_append_left _ (List.mem_of_getElem? (l := tables_1_9) (i := 26) (by decide +kernel)))))))))))) (by decide +kernel)
theorem cv_He_putBytes : CV y_He_putBytes b_He_putBytes 3 none 1 := ⟨kw_1489, kw_1490, kw_712, k_He_putBytes, by decide +kernel⟩
theorem j_He_putBytes_j65 {X : Cx} {q0 q : PL} (g : Gd X y_He_putBytes b_He_putBytes 3 none 2 48 R_He) {o : (Unit × (Nat × Nat)) × S1} (hR : RtX X [118, 154] q0 o.1.2 o.2 (fun _ => none)) (hx0 : Exq (xP X) [118, 154] q0 q) (l2 : Int32) (ln : Nat × Nat) (hm : Rmq (xP X) q ln) (s : S1) (ls : Array Slot) (hl : lv_has ls 3 [(0, .ref (q.1 111 0)), (2, .int l2)]) (h : M_He_putBytes_j65 l2 ln s = some o) : WW X q s 65 ls [] := by
  unfold M_He_putBytes_j65 at h
  refine ww_aload_n (pc := 65) g.1 d_He_putBytes_65 rfl (lv_at hl 0 rfl) ?_
  refine ww_iload_n (pc := 66) g.1 d_He_putBytes_66 rfl (lv_at hl 1 rfl) ?_
  refine ww_pI (pc := 67) g (k := 9) cl_He (pz rfl (by decide)) (by decide) (Or.inl kw_1471) rfl (f := 14217) rfl rfl rfl rfl d_He_putBytes_67 h fun s hs h => ?_
  exact ww_vretX (pc := 70) g h hR hx0 hm d_He_putBytes_70

theorem j_He_putBytes_j50 {X : Cx} {q0 q : PL} (g : Gd X y_He_putBytes b_He_putBytes 3 none 2 48 R_He) {o : (Unit × (Nat × Nat)) × S1} (hR : RtX X [118, 154] q0 o.1.2 o.2 (fun _ => none)) (hx0 : Exq (xP X) [118, 154] q0 q) (l1 : Int32) (l2 : Int32) (ln : Nat × Nat) (hm : Rmq (xP X) q ln) (s : S1) (hp0 : prs s 146 l1) (ls : Array Slot) (hl : lv_has ls 3 [(0, .ref (q.1 111 0)), (1, .ref (q.1 146 l1)), (2, .int l2)]) (h : M_He_putBytes_j50 l1 l2 ln s = some o) : WW X q s 50 ls [] := by
  unfold M_He_putBytes_j50 at h
  refine ww_aload_n (pc := 50) g.1 d_He_putBytes_50 rfl (lv_at hl 1 rfl) ?_
  refine ww_iconst (pc := 51) g.1 (v := 0) d_He_putBytes_51 (by decide) ?_
  refine ww_aload_n (pc := 52) g.1 d_He_putBytes_52 rfl (lv_at hl 0 rfl) ?_
  refine ww_gR (pc := 53) g (k := 8) cl_He (pz rfl (by decide)) (by decide) (Or.inl kw_1472) (f := 14216) (t := 118) rfl rfl rfl d_He_putBytes_53 ?_
  refine ww_aload_n (pc := 56) g.1 d_He_putBytes_56 rfl (lv_at hl 0 rfl) ?_
  refine ww_gI (pc := 57) g (k := 9) cl_He (pz rfl (by decide)) (by decide) (Or.inl kw_1471) (f := 14217) rfl rfl d_He_putBytes_57 h fun v57 h => ?_
  refine ww_aload_n (pc := 60) g.1 d_He_putBytes_60 rfl (lv_at hl 1 rfl) ?_
  refine ww_ln hp0 h fun n61 hmn61 hnn61 h => ?_
  refine ww_alen (pc := 61) g (n := n61) hp0 (by decide) hmn61 d_He_putBytes_61 ?_
  refine ww_ln hp0 h fun n62a hmn62a hnn62a h => ?_
  refine ww_ln (pz rfl (by decide)) h fun n62b hmn62b hnn62b h => ?_
  refine ww_ci (pc := 62) g hp0 (pz rfl (by decide)) ((rfl : rkF 146 = 2).trans (rfl : rkF 118 = 2).symm) (Or.inr (rfl : rkF 146 = 2)) hnn62a hnn62b kw_1487 kw_512 kw_513 kw_514 ⟨by decide, by decide⟩ hl.1 (Nat.le_of_ble_eq_true rfl) d_He_putBytes_62 h fun s hs h => ?_
  have hp0 : prs s 146 l1 := hs ▸ hp0
  exact j_He_putBytes_j65 g hR hx0 l2 ln hm s ls (lv_sub hl [0, 2] rfl) h

theorem ct_He_putBytes {l : Launch} {P : PP} {q : PL} {s s' : S1} {n0 n1 : Nat × Nat} {l1 : Int32} (hp0 : prs s 146 l1) {r : Unit} (hm : Rmq P q n0) (h : M_He_putBytes n0 l1 s = some ((r, n1), s')) : CtX l y_He_putBytes b_He_putBytes 3 none 2 48 P [118, 154] q s [.ref (q.1 111 0), .ref (q.1 146 l1)] (fun _ => none) n1 s' := by
  refine ctX_of (by decide) (Nat.le_of_ble_eq_true rfl) fun X ls eP el g hR hl => ?_
  subst eP
  obtain ⟨q0, hq0⟩ : ∃ q0 : PL, q0 = q := ⟨q, rfl⟩
  have hx0 : Exq (xP X) [118, 154] q0 q := hq0 ▸ Exq.rf
  rw [← hq0] at hR
  have hR : RtX X [118, 154] q0 (((r, n1), s') : (Unit × (Nat × Nat)) × S1).1.2 (((r, n1), s') : (Unit × (Nat × Nat)) × S1).2 (fun _ => none) := hR
  have hl : lv_has ls 3 [(0, .ref (q.1 111 0)), (1, .ref (q.1 146 l1))] := hl
  generalize ((r, n1), s') = o at h hR
  unfold M_He_putBytes at h
  refine ww_aload_n (pc := 0) g.1 d_He_putBytes_0 rfl (lv_at hl 0 rfl) ?_
  refine ww_gI (pc := 1) g (k := 9) cl_He (pz rfl (by decide)) (by decide) (Or.inl kw_1471) (f := 14217) rfl rfl d_He_putBytes_1 h fun v1 h => ?_
  refine ww_aload_n (pc := 4) g.1 d_He_putBytes_4 rfl (lv_at hl 1 rfl) ?_
  refine ww_ln hp0 h fun n5 hmn5 hnn5 h => ?_
  refine ww_alen (pc := 5) g (n := n5) hp0 (by decide) hmn5 d_He_putBytes_5 ?_
  refine ww_iadd (pc := 6) g.1 d_He_putBytes_6 ?_
  refine ww_leti h fun l2_7 h => ?_
  refine ww_istore_n (pc := 7) (i := 2) g.1 (lv' := [(2, .int l2_7), (0, .ref (q.1 111 0)), (1, .ref (q.1 146 l1))]) d_He_putBytes_7 rfl hl (by decide) rfl fun ls hl => ?_
  refine ww_iload_n (pc := 8) g.1 d_He_putBytes_8 rfl (lv_at hl 0 rfl) ?_
  refine ww_ldc (pc := 9) g (v := 400000) kw_1350 d_He_putBytes_9 ?_
  refine ww_icmp_gt (pc := 11) (tgt := 65) g.1 d_He_putBytes_11 (by decide) h (fun c h => ?_) (fun c h => ?_)
  · exact j_He_putBytes_j65 g hR hx0 l2_7 n0 hm s ls (lv_sub hl [1, 0] rfl) h
  · refine ww_iload_n (pc := 14) g.1 d_He_putBytes_14 rfl (lv_at hl 0 rfl) ?_
    refine ww_aload_n (pc := 15) g.1 d_He_putBytes_15 rfl (lv_at hl 1 rfl) ?_
    refine ww_gR (pc := 16) g (k := 8) cl_He (pz rfl (by decide)) (by decide) (Or.inl kw_1472) (f := 14216) (t := 118) rfl rfl rfl d_He_putBytes_16 ?_
    refine ww_ln (pz rfl (by decide)) h fun n19 hmn19 hnn19 h => ?_
    refine ww_alen (pc := 19) g (n := n19) (pz rfl (by decide)) (by decide) hmn19 d_He_putBytes_19 ?_
    refine ww_icmp_le (pc := 20) (tgt := 50) g.1 d_He_putBytes_20 (by decide) h (fun c h => ?_) (fun c h => ?_)
    · exact j_He_putBytes_j50 g hR hx0 l1 l2_7 n0 hm s hp0 ls (lv_sub hl [1, 2, 0] rfl) h
    · refine ww_aload_n (pc := 23) g.1 d_He_putBytes_23 rfl (lv_at hl 1 rfl) ?_
      refine ww_aload_n (pc := 24) g.1 d_He_putBytes_24 rfl (lv_at hl 1 rfl) ?_
      refine ww_gR (pc := 25) g (k := 8) cl_He (pz rfl (by decide)) (by decide) (Or.inl kw_1472) (f := 14216) (t := 118) rfl rfl rfl d_He_putBytes_25 ?_
      refine ww_ldc (pc := 28) g (v := 400000) kw_1350 d_He_putBytes_28 ?_
      refine ww_iload_n (pc := 30) g.1 d_He_putBytes_30 rfl (lv_at hl 0 rfl) ?_
      refine ww_iconst (pc := 31) g.1 (v := 2) d_He_putBytes_31 (by decide) ?_
      refine ww_aload_n (pc := 32) g.1 d_He_putBytes_32 rfl (lv_at hl 1 rfl) ?_
      refine ww_gR (pc := 33) g (k := 8) cl_He (pz rfl (by decide)) (by decide) (Or.inl kw_1472) (f := 14216) (t := 118) rfl rfl rfl d_He_putBytes_33 ?_
      refine ww_ln (pz rfl (by decide)) h fun n36 hmn36 hnn36 h => ?_
      refine ww_alen (pc := 36) g (n := n36) (pz rfl (by decide)) (by decide) hmn36 d_He_putBytes_36 ?_
      refine ww_imul (pc := 37) g.1 d_He_putBytes_37 ?_
      refine ww_lo fun dlo => ?_
      obtain ⟨v38, s, hc38, h⟩ := oB_of h
      refine ww_callS (pc := 38) (rest := [.int 400000, .ref (q.1 118 0), .ref (q.1 111 0)]) g cs_Mth_max (Or.inl kw_1488) (ct_Mth_max hc38) ⟨by decide, by decide⟩ rfl hl.1 (Nat.le_of_ble_eq_true rfl) d_He_putBytes_38 rfl (?_)
      refine ww_st (st' := [.int v38, .int 400000, .ref (q.1 118 0), .ref (q.1 111 0)]) rfl ?_
      refine ww_hi fun dhi => ?_
      have hp0 : prs s 146 l1 := dhi _ _ hp0.2.1 hp0.2.2 (dlo _ _ hp0)
      refine ww_lo fun dlo => ?_
      obtain ⟨v41, s, hc41, h⟩ := oB_of h
      refine ww_callS (pc := 41) (rest := [.ref (q.1 118 0), .ref (q.1 111 0)]) g cs_Mth_min (Or.inl kw_1473) (ct_Mth_min hc41) ⟨by decide, by decide⟩ rfl hl.1 (Nat.le_of_ble_eq_true rfl) d_He_putBytes_41 rfl (?_)
      refine ww_st (st' := [.int v41, .ref (q.1 118 0), .ref (q.1 111 0)]) rfl ?_
      refine ww_hi fun dhi => ?_
      have hp0 : prs s 146 l1 := dhi _ _ hp0.2.1 hp0.2.2 (dlo _ _ hp0)
      refine ww_lo fun dlo => ?_
      obtain ⟨v44, s, hc44, h⟩ := oB_of h
      refine ww_callSX (pc := 44) (rest := [.ref (q.1 111 0)]) g cs_Arr_copyOf (Or.inl kw_1474) (ct_Arr_copyOf rfl (by decide) (pz rfl (by decide)) hm hc44) ⟨by decide, by decide⟩ rfl hl.1 (Nat.le_of_ble_eq_true rfl) d_He_putBytes_44 rfl (fun q44 hE hm => ?_)
      refine ww_st (st' := .ref (q44.1 154 v44.1) :: [.ref (q.1 111 0)]) rfl ?_
      have ex44_0 : q44.1 111 0 = q.1 111 0 := hE _ _ (by decide) (dlo _ _ (pz rfl (by decide)))
      have ex44_1 : q44.1 146 l1 = q.1 146 l1 := hE _ _ (by decide) (dlo _ _ hp0)
      have hl : lv_has ls 3 [(2, .int l2_7), (0, .ref (q44.1 111 0)), (1, .ref (q44.1 146 l1))] := by rw [ex44_0, ex44_1]; exact hl
      refine ww_st (st' := [.ref (q44.1 154 v44.1), .ref (q44.1 111 0)]) (by first | (rw [ex44_0]; done) | (rw [ex44_0]; rfl)) ?_
      refine ww_hi fun dhi => ?_
      have hp0 : prs s 146 l1 := dhi _ _ hp0.2.1 hp0.2.2 (by rw [ex44_1]; exact dlo _ _ hp0)
      have hx0 : Exq (xP X) [118, 154] _ q44 := hx0.tr (hE.sub (by decide))
      refine ww_ok h fun cz44 h => ?_
      refine ww_pr h fun pr44 h => ?_
      refine ww_st (st' := [.ref (q44.1 154 0), .ref (q44.1 111 0)]) (by rw [cz44]) ?_
      refine ww_lo fun dlo => ?_
      refine ww_mvB (L := [118, 154]) (pc := 47) g (k := 8) (t := 118) cl_He (pz rfl (by decide)) pr44 (by decide) (Or.inl kw_1472) rfl rfl (by decide) (by decide) (by decide) (by decide) ⟨rfl, rfl⟩ (by decide) hm d_He_putBytes_47 h fun q47 s hs hE hm pm47 h => ?_
      have ex47_0 : q47.1 111 0 = q44.1 111 0 := hE _ _ (by decide) (dlo _ _ (pz rfl (by decide)))
      have ex47_1 : q47.1 146 l1 = q44.1 146 l1 := hE _ _ (by decide) (dlo _ _ hp0)
      have hl : lv_has ls 3 [(2, .int l2_7), (0, .ref (q47.1 111 0)), (1, .ref (q47.1 146 l1))] := by rw [ex47_0, ex47_1]; exact hl
      refine ww_st (st' := []) (by rfl) ?_
      refine ww_hi fun dhi => ?_
      have hp0 : prs s 146 l1 := dhi _ _ hp0.2.1 hp0.2.2 (by rw [ex47_1]; exact dlo _ _ hp0)
      have hx0 : Exq (xP X) [118, 154] _ q47 := hx0.tr (hE.sub (by decide))
      exact j_He_putBytes_j50 g hR hx0 l1 l2_7 v44.2 hm s hp0 ls (lv_sub hl [1, 2, 0] rfl) h


