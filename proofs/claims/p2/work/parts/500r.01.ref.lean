abbrev b_Mo_number : ByteArray := prog_14_method_7_code
def y_Mo_number : MethodName := ⟨R_Mo, "number", "(I)J"⟩
abbrev w_Mo_number : List Cond := .code y_Mo_number b_Mo_number 5 (some .long) :: wA
theorem k_Mo_number : Cond.code y_Mo_number b_Mo_number 5 (some .long) ∈ wA := kinm (show _ ∈ tables_1 from (List.mem_append_right _ (List.mem_append_right _ (List.mem_append_right _ (List.mem_append_right _ (List.mem_append_right _ (List.mem_append_right _ (List.mem_append_right _ (List.mem_append_right _ (List.mem_append_right _ (List.mem_append_right _ (List.mem_append_left _ (List.mem_of_getElem? (l := tables_1_11) (i := 149) (by decide +kernel)))))))))))))) (by decide +kernel)
theorem d_Mo_number_0 : decode b_Mo_number 0 = .ok (.aload_n 0, 1) := by decide +kernel
theorem d_Mo_number_1 : decode b_Mo_number 1 = .ok (.getfield 21, 3) := by decide +kernel
theorem d_Mo_number_4 : decode b_Mo_number 4 = .ok (.ifCond .eq 5, 3) := by decide +kernel
theorem d_Mo_number_7 : decode b_Mo_number 7 = .ok (.lconst 0, 1) := by decide +kernel
theorem d_Mo_number_8 : decode b_Mo_number 8 = .ok (.lreturn, 1) := by decide +kernel
theorem d_Mo_number_9 : decode b_Mo_number 9 = .ok (.aload_n 0, 1) := by decide +kernel
theorem d_Mo_number_10 : decode b_Mo_number 10 = .ok (.aload_n 0, 1) := by decide +kernel
theorem d_Mo_number_11 : decode b_Mo_number 11 = .ok (.getfield 104, 3) := by decide +kernel
theorem d_Mo_number_14 : decode b_Mo_number 14 = .ok (.putfield 107, 3) := by decide +kernel
theorem d_Mo_number_17 : decode b_Mo_number 17 = .ok (.aload_n 0, 1) := by decide +kernel
theorem d_Mo_number_18 : decode b_Mo_number 18 = .ok (.getfield 14, 3) := by decide +kernel
theorem d_Mo_number_21 : decode b_Mo_number 21 = .ok (.aload_n 0, 1) := by decide +kernel
theorem d_Mo_number_22 : decode b_Mo_number 22 = .ok (.getfield 104, 3) := by decide +kernel
theorem d_Mo_number_25 : decode b_Mo_number 25 = .ok (.isub, 1) := by decide +kernel
theorem d_Mo_number_26 : decode b_Mo_number 26 = .ok (.iload_n 1, 1) := by decide +kernel
theorem d_Mo_number_27 : decode b_Mo_number 27 = .ok (.if_icmp .ge 15, 3) := by decide +kernel
theorem d_Mo_number_30 : decode b_Mo_number 30 = .ok (.aload_n 0, 1) := by decide +kernel
theorem d_Mo_number_31 : decode b_Mo_number 31 = .ok (.iconst 1, 1) := by decide +kernel
theorem d_Mo_number_32 : decode b_Mo_number 32 = .ok (.aload_n 0, 1) := by decide +kernel
theorem d_Mo_number_33 : decode b_Mo_number 33 = .ok (.getfield 104, 3) := by decide +kernel
theorem d_Mo_number_36 : decode b_Mo_number 36 = .ok (.invokevirtual 449, 3) := by decide +kernel
theorem d_Mo_number_39 : decode b_Mo_number 39 = .ok (.pop, 1) := by decide +kernel
theorem d_Mo_number_40 : decode b_Mo_number 40 = .ok (.lconst 0, 1) := by decide +kernel
theorem d_Mo_number_41 : decode b_Mo_number 41 = .ok (.lreturn, 1) := by decide +kernel
theorem d_Mo_number_42 : decode b_Mo_number 42 = .ok (.lconst 0, 1) := by decide +kernel
theorem d_Mo_number_43 : decode b_Mo_number 43 = .ok (.lstore_n 2, 1) := by decide +kernel
theorem d_Mo_number_44 : decode b_Mo_number 44 = .ok (.iconst 0, 1) := by decide +kernel
theorem d_Mo_number_45 : decode b_Mo_number 45 = .ok (.istore 4, 2) := by decide +kernel
theorem d_Mo_number_47 : decode b_Mo_number 47 = .ok (.iload 4, 2) := by decide +kernel
theorem d_Mo_number_49 : decode b_Mo_number 49 = .ok (.iload_n 1, 1) := by decide +kernel
theorem d_Mo_number_50 : decode b_Mo_number 50 = .ok (.if_icmp .ge 36, 3) := by decide +kernel
theorem d_Mo_number_53 : decode b_Mo_number 53 = .ok (.lload_n 2, 1) := by decide +kernel
theorem d_Mo_number_54 : decode b_Mo_number 54 = .ok (.bipush 8, 2) := by decide +kernel
theorem d_Mo_number_56 : decode b_Mo_number 56 = .ok (.lshl, 1) := by decide +kernel
theorem d_Mo_number_57 : decode b_Mo_number 57 = .ok (.aload_n 0, 1) := by decide +kernel
theorem d_Mo_number_58 : decode b_Mo_number 58 = .ok (.getfield 8, 3) := by decide +kernel
theorem d_Mo_number_61 : decode b_Mo_number 61 = .ok (.aload_n 0, 1) := by decide +kernel
theorem d_Mo_number_62 : decode b_Mo_number 62 = .ok (.dup, 1) := by decide +kernel
theorem d_Mo_number_63 : decode b_Mo_number 63 = .ok (.getfield 104, 3) := by decide +kernel
theorem d_Mo_number_66 : decode b_Mo_number 66 = .ok (.dup_x1, 1) := by decide +kernel
theorem d_Mo_number_67 : decode b_Mo_number 67 = .ok (.iconst 1, 1) := by decide +kernel
theorem d_Mo_number_68 : decode b_Mo_number 68 = .ok (.iadd, 1) := by decide +kernel
theorem d_Mo_number_69 : decode b_Mo_number 69 = .ok (.putfield 104, 3) := by decide +kernel
theorem d_Mo_number_72 : decode b_Mo_number 72 = .ok (.baload, 1) := by decide +kernel
theorem d_Mo_number_73 : decode b_Mo_number 73 = .ok (.sipush 255, 3) := by decide +kernel
theorem d_Mo_number_76 : decode b_Mo_number 76 = .ok (.iand, 1) := by decide +kernel
theorem d_Mo_number_77 : decode b_Mo_number 77 = .ok (.i2l, 1) := by decide +kernel
theorem d_Mo_number_78 : decode b_Mo_number 78 = .ok (.lor, 1) := by decide +kernel
theorem d_Mo_number_79 : decode b_Mo_number 79 = .ok (.lstore_n 2, 1) := by decide +kernel
theorem d_Mo_number_80 : decode b_Mo_number 80 = .ok (.iinc 4 1, 3) := by decide +kernel
theorem d_Mo_number_83 : decode b_Mo_number 83 = .ok (.goto (-36), 3) := by decide +kernel
theorem d_Mo_number_86 : decode b_Mo_number 86 = .ok (.lload_n 2, 1) := by decide +kernel
theorem d_Mo_number_87 : decode b_Mo_number 87 = .ok (.lreturn, 1) := by decide +kernel
theorem kw_28 : Cond.fieldLink R_Mo 104 "LuaMachineModel" "at" "I" ∈ wA := kinm (show _ ∈ tables_1 from (List.mem_append_right _ (List.mem_append_right _ (List.mem_append_right _ (List.mem_append_right _ (List.mem_append_right _ (List.mem_append_right _ (List.mem_append_right _ (List.mem_append_right _ (List.mem_append_right _ (List.mem_append_left _ (List.mem_of_getElem? (l := tables_1_10) (i := 83) (by decide +kernel))))))))))))) (by decide +kernel)
theorem kw_29 : Cond.fieldLink R_Mo 107 "LuaMachineModel" "last" "I" ∈ wA := kinm (show _ ∈ tables_1 from (List.mem_append_right _ (List.mem_append_right _ (List.mem_append_right _ (List.mem_append_right _ (List.mem_append_right _ (List.mem_append_right _ (List.mem_append_right _ (List.mem_append_right _ (List.mem_append_right _ (List.mem_append_left _ (List.mem_of_getElem? (l := tables_1_10) (i := 84) (by decide +kernel))))))))))))) (by decide +kernel)
theorem kw_30 : Cond.fieldLink R_Mo 8 "LuaMachineModel" "tape" "[B" ∈ wA := kinm (show _ ∈ tables_1 from (List.mem_append_right _ (List.mem_append_right _ (List.mem_append_right _ (List.mem_append_right _ (List.mem_append_right _ (List.mem_append_right _ (List.mem_append_right _ (List.mem_append_right _ (List.mem_append_right _ (List.mem_append_left _ (List.mem_of_getElem? (l := tables_1_10) (i := 54) (by decide +kernel))))))))))))) (by decide +kernel)
theorem kw_31 : Cond.methodLink R_Mo 449 y_Mo_bad ∈ wA := kinm (show _ ∈ tables_1 from (List.mem_append_right _ (List.mem_append_right _ (List.mem_append_right _ (List.mem_append_right _ (List.mem_append_right _ (List.mem_append_right _ (List.mem_append_right _ (List.mem_append_right _ (List.mem_append_right _ (List.mem_append_right _ (List.mem_append_left _ (List.mem_of_getElem? (l := tables_1_11) (i := 142) (by decide +kernel)))))))))))))) (by decide +kernel)
theorem kw_32 : Cond.instanceMethod y_Mo_number ∈ wA := kinm (show _ ∈ tables_1 from (List.mem_append_right _ (List.mem_append_right _ (List.mem_append_right _ (List.mem_append_right _ (List.mem_append_right _ (List.mem_append_right _ (List.mem_append_right _ (List.mem_append_right _ (List.mem_append_right _ (List.mem_append_right _ (List.mem_append_left _ (List.mem_of_getElem? (l := tables_1_11) (i := 148) (by decide +kernel)))))))))))))) (by decide +kernel)
theorem kw_33 : Cond.selects R_Mo y_Mo_number y_Mo_number ∈ wA := kinp 114 (by decide +kernel) (by decide +kernel)
theorem cv_Mo_number : CV y_Mo_number b_Mo_number 5 (some .long) 1 := ⟨kw_32, kw_33, kw_17, k_Mo_number, by decide +kernel⟩
theorem lp_Mo_number_L47 {X : Cx} {q : PL} (g : Gd X y_Mo_number b_Mo_number 5 (some .long) 1 22 R_Mo) (x : Int32 × Int64 × Int32) (s : S1) (o : ((Int32 × Int64 × Int32) ⊕ ((Int64))) × S1) (h : M_Mo_number_L47 x s = some o) (hR : (Sum.elim (fun y : Int32 × Int64 × Int32 => ∀ ls : Array Slot, lv_has ls 5 [(0, .ref (q.1 0 0)), (1, .int y.1), (2, .long y.2.1), (4, .int y.2.2)] → WW X q o.2 47 ls []) (fun y : Int64 => ∀ ls : Array Slot, lv_has ls 5 [(2, .long y)] → WW X q o.2 86 ls []) o.1)) : ∀ ls : Array Slot, lv_has ls 5 [(0, .ref (q.1 0 0)), (1, .int x.1), (2, .long x.2.1), (4, .int x.2.2)] → WW X q s 47 ls [] := by
  intro ls hl
  unfold M_Mo_number_L47 at h
  refine ww_iload (pc := 47) g.1 d_Mo_number_47 (lv_at hl 3 rfl) ?_
  refine ww_iload_n (pc := 49) g.1 d_Mo_number_49 rfl (lv_at hl 1 rfl) ?_
  refine ww_icmp_ge (pc := 50) (tgt := 86) g.1 d_Mo_number_50 (by decide) h (fun c h => ?_) (fun c h => ?_)
  · rw [oR_eq h] at hR
    exact hR ls (lv_sub hl [2] rfl)
  · refine ww_lload_n (pc := 53) g.1 d_Mo_number_53 rfl (lv_at hl 2 rfl) ?_
    refine ww_bipush (pc := 54) g.1 (v := 8) d_Mo_number_54 (by decide) ?_
    refine ww_lshl (pc := 56) g.1 (v := x.2.1 <<< ((8 : Int32).toInt64 &&& 63)) d_Mo_number_56 rfl ?_
    refine ww_aload_n (pc := 57) g.1 d_Mo_number_57 rfl (lv_at hl 0 rfl) ?_
    refine ww_gR (pc := 58) g (k := 0) cl_Mo (pz rfl (by decide)) (by decide) (Or.inl kw_30) (f := 0) (t := 41) rfl rfl rfl d_Mo_number_58 ?_
    refine ww_aload_n (pc := 61) g.1 d_Mo_number_61 rfl (lv_at hl 0 rfl) ?_
    refine ww_dup (pc := 62) g.1 d_Mo_number_62 rfl ?_
    refine ww_gI (pc := 63) g (k := 28) cl_Mo (pz rfl (by decide)) (by decide) (Or.inl kw_28) (f := 28) rfl rfl d_Mo_number_63 h fun v63 h => ?_
    refine ww_dup_x1 (pc := 66) g.1 d_Mo_number_66 rfl rfl ?_
    refine ww_iconst (pc := 67) g.1 (v := 1) d_Mo_number_67 (by decide) ?_
    refine ww_iadd (pc := 68) g.1 d_Mo_number_68 ?_
    refine ww_pI (pc := 69) g (k := 28) cl_Mo (pz rfl (by decide)) (by decide) (Or.inl kw_28) rfl (f := 28) rfl rfl rfl rfl d_Mo_number_69 h fun s hs h => ?_
    refine ww_ab (pc := 72) g (pz rfl (by decide)) rfl rfl d_Mo_number_72 h fun v72 h => ?_
    refine ww_sipush (pc := 73) g.1 (v := 255) d_Mo_number_73 (by decide) ?_
    refine ww_iand (pc := 76) g.1 d_Mo_number_76 ?_
    refine ww_i2l (pc := 77) g.1 (v := (v72 &&& 255).toInt64) d_Mo_number_77 rfl ?_
    refine ww_lor (pc := 78) g.1 d_Mo_number_78 ?_
    refine ww_letl h fun l2_79 h => ?_
    refine ww_lstore_n (pc := 79) (i := 2) g.1 (lv' := [(2, .long l2_79), (0, .ref (q.1 0 0)), (1, .int x.1), (4, .int x.2.2)]) d_Mo_number_79 rfl hl (by decide) rfl fun ls hl => ?_
    refine ww_iinc (pc := 80) g.1 (v := x.2.2 + 1) (lv' := [(4, .int (x.2.2 + 1)), (2, .long l2_79), (0, .ref (q.1 0 0)), (1, .int x.1)]) d_Mo_number_80 hl (k := 3) rfl (by rfl) (by decide) rfl fun ls hl => ?_
    refine ww_goto (pc := 83) (tgt := 47) g.1 d_Mo_number_83 (by decide) ?_
    rw [oR_eq h] at hR
    exact hR ls (lv_sub hl [2, 3, 1, 0] rfl)

theorem ct_Mo_number {l : Launch} {P : PP} {q : PL} {s s' : S1} {l1 : Int32} {r : Int64} (h : M_Mo_number l1 s = some (r, s')) : Ct l y_Mo_number b_Mo_number 5 (some .long) 1 22 P q s [.ref (q.1 0 0), .int l1] (some (.long r)) q s' := by
  refine ct_of (by decide) (Nat.le_of_ble_eq_true rfl) fun X ls eP el g hR hl => ?_
  subst eP
  have hR : Rt X q ((r, s') : Int64 × S1).2 (some (.long ((r, s') : Int64 × S1).1)) := hR
  have hl : lv_has ls 5 [(0, .ref (q.1 0 0)), (1, .int l1)] := hl
  generalize (r, s') = o at h hR
  unfold M_Mo_number at h
  refine ww_aload_n (pc := 0) g.1 d_Mo_number_0 rfl (lv_at hl 0 rfl) ?_
  refine ww_gI (pc := 1) g (k := 3) cl_Mo (pz rfl (by decide)) (by decide) (Or.inl kw_24) (f := 3) rfl rfl d_Mo_number_1 h fun v1 h => ?_
  refine ww_if_eq (pc := 4) (tgt := 9) g.1 d_Mo_number_4 (by decide) h (fun c h => ?_) (fun c h => ?_)
  · refine ww_aload_n (pc := 9) g.1 d_Mo_number_9 rfl (lv_at hl 0 rfl) ?_
    refine ww_aload_n (pc := 10) g.1 d_Mo_number_10 rfl (lv_at hl 0 rfl) ?_
    refine ww_gI (pc := 11) g (k := 28) cl_Mo (pz rfl (by decide)) (by decide) (Or.inl kw_28) (f := 28) rfl rfl d_Mo_number_11 h fun v11 h => ?_
    refine ww_pI (pc := 14) g (k := 29) cl_Mo (pz rfl (by decide)) (by decide) (Or.inl kw_29) rfl (f := 29) rfl rfl rfl rfl d_Mo_number_14 h fun s hs h => ?_
    refine ww_aload_n (pc := 17) g.1 d_Mo_number_17 rfl (lv_at hl 0 rfl) ?_
    refine ww_gI (pc := 18) g (k := 1) cl_Mo (pz rfl (by decide)) (by decide) (Or.inl kw_21) (f := 1) rfl rfl d_Mo_number_18 h fun v18 h => ?_
    refine ww_aload_n (pc := 21) g.1 d_Mo_number_21 rfl (lv_at hl 0 rfl) ?_
    refine ww_gI (pc := 22) g (k := 28) cl_Mo (pz rfl (by decide)) (by decide) (Or.inl kw_28) (f := 28) rfl rfl d_Mo_number_22 h fun v22 h => ?_
    refine ww_isub (pc := 25) g.1 d_Mo_number_25 ?_
    refine ww_iload_n (pc := 26) g.1 d_Mo_number_26 rfl (lv_at hl 1 rfl) ?_
    refine ww_icmp_ge (pc := 27) (tgt := 42) g.1 d_Mo_number_27 (by decide) h (fun c h => ?_) (fun c h => ?_)
    · refine ww_lconst (pc := 42) g.1 (v := 0) d_Mo_number_42 (by decide) ?_
      refine ww_lstore_n (pc := 43) (i := 2) g.1 (lv' := [(2, .long 0), (0, .ref (q.1 0 0)), (1, .int l1)]) d_Mo_number_43 rfl hl (by decide) rfl fun ls hl => ?_
      refine ww_iconst (pc := 44) g.1 (v := 0) d_Mo_number_44 (by decide) ?_
      refine ww_istore (pc := 45) (i := 4) g.1 (lv' := [(4, .int 0), (2, .long 0), (0, .ref (q.1 0 0)), (1, .int l1)]) d_Mo_number_45 hl (by decide) rfl fun ls hl => ?_
      obtain ⟨e47, s1, hw, h⟩ := oB_of h
      refine oW_rule (Wh := fun (x : Int32 × Int64 × Int32) (s : S1) => ∀ ls : Array Slot, lv_has ls 5 [(0, .ref (q.1 0 0)), (1, .int x.1), (2, .long x.2.1), (4, .int x.2.2)] → WW X q s 47 ls []) (We := fun (e : (Int64)) (s : S1) => ∀ ls : Array Slot, lv_has ls 5 [(2, .long e)] → WW X q s 86 ls []) (fun x s o hb hc => lp_Mo_number_L47 (q := q) g x s o hb hc) hw ?_ ls (lv_sub hl [2, 3, 1, 0] rfl)
      clear hw hl
      clear ls
      intro ls hl
      generalize s1 = s at h ⊢
      refine ww_lload_n (pc := 86) g.1 d_Mo_number_86 rfl (lv_at hl 0 rfl) ?_
      exact ww_lretH (pc := 87) g h hR d_Mo_number_87
    · refine ww_aload_n (pc := 30) g.1 d_Mo_number_30 rfl (lv_at hl 0 rfl) ?_
      refine ww_iconst (pc := 31) g.1 (v := 1) d_Mo_number_31 (by decide) ?_
      refine ww_aload_n (pc := 32) g.1 d_Mo_number_32 rfl (lv_at hl 0 rfl) ?_
      refine ww_gI (pc := 33) g (k := 28) cl_Mo (pz rfl (by decide)) (by decide) (Or.inl kw_28) (f := 28) rfl rfl d_Mo_number_33 h fun v33 h => ?_
      obtain ⟨v36, s, hc36, h⟩ := oB_of h
      refine ww_callV (pc := 36) (rest := []) g cv_Mo_bad (Or.inl kw_31) cl_Mo (pz rfl (by decide)) (ct_Mo_bad hc36) ⟨by decide, by decide⟩ rfl hl.1 (Nat.le_of_ble_eq_true rfl) d_Mo_number_36 rfl ?_
      refine ww_st (st' := [.int v36]) rfl ?_
      refine ww_pop (pc := 39) g.1 d_Mo_number_39 rfl ?_
      refine ww_lconst (pc := 40) g.1 (v := 0) d_Mo_number_40 (by decide) ?_
      exact ww_lretH (pc := 41) g h hR d_Mo_number_41
  · refine ww_lconst (pc := 7) g.1 (v := 0) d_Mo_number_7 (by decide) ?_
    exact ww_lretH (pc := 8) g h hR d_Mo_number_8

abbrev b_Mo_need : ByteArray := prog_14_method_8_code
def y_Mo_need : MethodName := ⟨R_Mo, "need", "(Z)V"⟩
abbrev w_Mo_need : List Cond := .code y_Mo_need b_Mo_need 2 none :: wA
theorem k_Mo_need : Cond.code y_Mo_need b_Mo_need 2 none ∈ wA := kinm (show _ ∈ tables_1 from (List.mem_append_right _ (List.mem_append_right _ (List.mem_append_right _ (List.mem_append_right _ (List.mem_append_right _ (List.mem_append_right _ (List.mem_append_right _ (List.mem_append_right _ (List.mem_append_right _ (List.mem_append_right _ (List.mem_append_left _ (List.mem_of_getElem? (l := tables_1_11) (i := 153) (by decide +kernel)))))))))))))) (by decide +kernel)
theorem d_Mo_need_0 : decode b_Mo_need 0 = .ok (.iload_n 1, 1) := by decide +kernel
theorem d_Mo_need_1 : decode b_Mo_need 1 = .ok (.ifCond .ne 13, 3) := by decide +kernel
theorem d_Mo_need_4 : decode b_Mo_need 4 = .ok (.aload_n 0, 1) := by decide +kernel
theorem d_Mo_need_5 : decode b_Mo_need 5 = .ok (.iconst 2, 1) := by decide +kernel
theorem d_Mo_need_6 : decode b_Mo_need 6 = .ok (.aload_n 0, 1) := by decide +kernel
theorem d_Mo_need_7 : decode b_Mo_need 7 = .ok (.getfield 107, 3) := by decide +kernel
theorem d_Mo_need_10 : decode b_Mo_need 10 = .ok (.invokevirtual 449, 3) := by decide +kernel
theorem d_Mo_need_13 : decode b_Mo_need 13 = .ok (.pop, 1) := by decide +kernel
theorem d_Mo_need_14 : decode b_Mo_need 14 = .ok (.return_, 1) := by decide +kernel
theorem kw_34 : Cond.instanceMethod y_Mo_need ∈ wA := kinm (show _ ∈ tables_1 from (List.mem_append_right _ (List.mem_append_right _ (List.mem_append_right _ (List.mem_append_right _ (List.mem_append_right _ (List.mem_append_right _ (List.mem_append_right _ (List.mem_append_right _ (List.mem_append_right _ (List.mem_append_right _ (List.mem_append_left _ (List.mem_of_getElem? (l := tables_1_11) (i := 152) (by decide +kernel)))))))))))))) (by decide +kernel)
theorem kw_35 : Cond.selects R_Mo y_Mo_need y_Mo_need ∈ wA := kinp 115 (by decide +kernel) (by decide +kernel)
theorem cv_Mo_need : CV y_Mo_need b_Mo_need 2 none 1 := ⟨kw_34, kw_35, kw_17, k_Mo_need, by decide +kernel⟩
theorem ct_Mo_need {l : Launch} {P : PP} {q : PL} {s s' : S1} {l1 : Int32} {r : Unit} (h : M_Mo_need l1 s = some (r, s')) : Ct l y_Mo_need b_Mo_need 2 none 1 22 P q s [.ref (q.1 0 0), .int l1] none q s' := by
  refine ct_of (by decide) (Nat.le_of_ble_eq_true rfl) fun X ls eP el g hR hl => ?_
  subst eP
  have hR : Rt X q ((r, s') : Unit × S1).2 none := hR
  have hl : lv_has ls 2 [(0, .ref (q.1 0 0)), (1, .int l1)] := hl
  generalize (r, s') = o at h hR
  unfold M_Mo_need at h
  refine ww_iload_n (pc := 0) g.1 d_Mo_need_0 rfl (lv_at hl 1 rfl) ?_
  refine ww_if_ne (pc := 1) (tgt := 14) g.1 d_Mo_need_1 (by decide) h (fun c h => ?_) (fun c h => ?_)
  · exact ww_vretH (pc := 14) g h hR d_Mo_need_14
  · refine ww_aload_n (pc := 4) g.1 d_Mo_need_4 rfl (lv_at hl 0 rfl) ?_
    refine ww_iconst (pc := 5) g.1 (v := 2) d_Mo_need_5 (by decide) ?_
    refine ww_aload_n (pc := 6) g.1 d_Mo_need_6 rfl (lv_at hl 0 rfl) ?_
    refine ww_gI (pc := 7) g (k := 29) cl_Mo (pz rfl (by decide)) (by decide) (Or.inl kw_29) (f := 29) rfl rfl d_Mo_need_7 h fun v7 h => ?_
    obtain ⟨v10, s, hc10, h⟩ := oB_of h
    refine ww_callV (pc := 10) (rest := []) g cv_Mo_bad (Or.inl kw_31) cl_Mo (pz rfl (by decide)) (ct_Mo_bad hc10) ⟨by decide, by decide⟩ rfl hl.1 (Nat.le_of_ble_eq_true rfl) d_Mo_need_10 rfl ?_
    refine ww_st (st' := [.int v10]) rfl ?_
    refine ww_pop (pc := 13) g.1 d_Mo_need_13 rfl ?_
    exact ww_vretH (pc := 14) g h hR d_Mo_need_14

abbrev b_Mo_upvalue : ByteArray := prog_14_method_10_code
def y_Mo_upvalue : MethodName := ⟨R_Mo, "upvalue", "(I)V"⟩
abbrev w_Mo_upvalue : List Cond := .code y_Mo_upvalue b_Mo_upvalue 4 none :: wA
theorem k_Mo_upvalue : Cond.code y_Mo_upvalue b_Mo_upvalue 4 none ∈ wA := kinm (show _ ∈ tables_1 from (List.mem_append_right _ (List.mem_append_right _ (List.mem_append_right _ (List.mem_append_right _ (List.mem_append_right _ (List.mem_append_right _ (List.mem_append_right _ (List.mem_append_right _ (List.mem_append_right _ (List.mem_append_right _ (List.mem_append_left _ (List.mem_of_getElem? (l := tables_1_11) (i := 157) (by decide +kernel)))))))))))))) (by decide +kernel)
theorem d_Mo_upvalue_0 : decode b_Mo_upvalue 0 = .ok (.aload_n 0, 1) := by decide +kernel
theorem d_Mo_upvalue_1 : decode b_Mo_upvalue 1 = .ok (.iconst 1, 1) := by decide +kernel
theorem d_Mo_upvalue_2 : decode b_Mo_upvalue 2 = .ok (.invokevirtual 453, 3) := by decide +kernel
theorem d_Mo_upvalue_5 : decode b_Mo_upvalue 5 = .ok (.l2i, 1) := by decide +kernel
theorem d_Mo_upvalue_6 : decode b_Mo_upvalue 6 = .ok (.istore_n 2, 1) := by decide +kernel
theorem d_Mo_upvalue_7 : decode b_Mo_upvalue 7 = .ok (.iload_n 1, 1) := by decide +kernel
theorem d_Mo_upvalue_8 : decode b_Mo_upvalue 8 = .ok (.ifCond .lt 17, 3) := by decide +kernel
theorem d_Mo_upvalue_11 : decode b_Mo_upvalue 11 = .ok (.aload_n 0, 1) := by decide +kernel
theorem d_Mo_upvalue_12 : decode b_Mo_upvalue 12 = .ok (.iload_n 2, 1) := by decide +kernel
theorem d_Mo_upvalue_13 : decode b_Mo_upvalue 13 = .ok (.iconst 2, 1) := by decide +kernel
theorem d_Mo_upvalue_14 : decode b_Mo_upvalue 14 = .ok (.if_icmp .ge 7, 3) := by decide +kernel
theorem d_Mo_upvalue_17 : decode b_Mo_upvalue 17 = .ok (.iconst 1, 1) := by decide +kernel
theorem d_Mo_upvalue_18 : decode b_Mo_upvalue 18 = .ok (.goto 4, 3) := by decide +kernel
theorem d_Mo_upvalue_21 : decode b_Mo_upvalue 21 = .ok (.iconst 0, 1) := by decide +kernel
theorem d_Mo_upvalue_22 : decode b_Mo_upvalue 22 = .ok (.invokevirtual 456, 3) := by decide +kernel
theorem d_Mo_upvalue_25 : decode b_Mo_upvalue 25 = .ok (.aload_n 0, 1) := by decide +kernel
theorem d_Mo_upvalue_26 : decode b_Mo_upvalue 26 = .ok (.iconst 1, 1) := by decide +kernel
theorem d_Mo_upvalue_27 : decode b_Mo_upvalue 27 = .ok (.invokevirtual 453, 3) := by decide +kernel
theorem d_Mo_upvalue_30 : decode b_Mo_upvalue 30 = .ok (.l2i, 1) := by decide +kernel
theorem d_Mo_upvalue_31 : decode b_Mo_upvalue 31 = .ok (.istore_n 3, 1) := by decide +kernel
theorem d_Mo_upvalue_32 : decode b_Mo_upvalue 32 = .ok (.iload_n 1, 1) := by decide +kernel
theorem d_Mo_upvalue_33 : decode b_Mo_upvalue 33 = .ok (.ifCond .lt 43, 3) := by decide +kernel
theorem d_Mo_upvalue_36 : decode b_Mo_upvalue 36 = .ok (.aload_n 0, 1) := by decide +kernel
theorem d_Mo_upvalue_37 : decode b_Mo_upvalue 37 = .ok (.getfield 21, 3) := by decide +kernel
theorem d_Mo_upvalue_40 : decode b_Mo_upvalue 40 = .ok (.ifCond .ne 36, 3) := by decide +kernel
theorem d_Mo_upvalue_43 : decode b_Mo_upvalue 43 = .ok (.aload_n 0, 1) := by decide +kernel
theorem d_Mo_upvalue_44 : decode b_Mo_upvalue 44 = .ok (.iload_n 3, 1) := by decide +kernel
theorem d_Mo_upvalue_45 : decode b_Mo_upvalue 45 = .ok (.iload_n 2, 1) := by decide +kernel
theorem d_Mo_upvalue_46 : decode b_Mo_upvalue 46 = .ok (.iconst 1, 1) := by decide +kernel
theorem d_Mo_upvalue_47 : decode b_Mo_upvalue 47 = .ok (.if_icmp .ne 12, 3) := by decide +kernel
theorem d_Mo_upvalue_50 : decode b_Mo_upvalue 50 = .ok (.aload_n 0, 1) := by decide +kernel
theorem d_Mo_upvalue_51 : decode b_Mo_upvalue 51 = .ok (.getfield 38, 3) := by decide +kernel
theorem d_Mo_upvalue_54 : decode b_Mo_upvalue 54 = .ok (.iload_n 1, 1) := by decide +kernel
theorem d_Mo_upvalue_55 : decode b_Mo_upvalue 55 = .ok (.iaload, 1) := by decide +kernel
theorem d_Mo_upvalue_56 : decode b_Mo_upvalue 56 = .ok (.goto 9, 3) := by decide +kernel
theorem d_Mo_upvalue_59 : decode b_Mo_upvalue 59 = .ok (.aload_n 0, 1) := by decide +kernel
theorem d_Mo_upvalue_60 : decode b_Mo_upvalue 60 = .ok (.getfield 41, 3) := by decide +kernel
theorem d_Mo_upvalue_63 : decode b_Mo_upvalue 63 = .ok (.iload_n 1, 1) := by decide +kernel
theorem d_Mo_upvalue_64 : decode b_Mo_upvalue 64 = .ok (.iaload, 1) := by decide +kernel
theorem d_Mo_upvalue_65 : decode b_Mo_upvalue 65 = .ok (.if_icmp .ge 7, 3) := by decide +kernel
theorem d_Mo_upvalue_68 : decode b_Mo_upvalue 68 = .ok (.iconst 1, 1) := by decide +kernel
theorem d_Mo_upvalue_69 : decode b_Mo_upvalue 69 = .ok (.goto 4, 3) := by decide +kernel
theorem d_Mo_upvalue_72 : decode b_Mo_upvalue 72 = .ok (.iconst 0, 1) := by decide +kernel
theorem d_Mo_upvalue_73 : decode b_Mo_upvalue 73 = .ok (.invokevirtual 456, 3) := by decide +kernel
theorem d_Mo_upvalue_76 : decode b_Mo_upvalue 76 = .ok (.aload_n 0, 1) := by decide +kernel
theorem d_Mo_upvalue_77 : decode b_Mo_upvalue 77 = .ok (.getfield 21, 3) := by decide +kernel
theorem d_Mo_upvalue_80 : decode b_Mo_upvalue 80 = .ok (.ifCond .eq 4, 3) := by decide +kernel
theorem d_Mo_upvalue_83 : decode b_Mo_upvalue 83 = .ok (.return_, 1) := by decide +kernel
theorem d_Mo_upvalue_84 : decode b_Mo_upvalue 84 = .ok (.aload_n 0, 1) := by decide +kernel
theorem d_Mo_upvalue_85 : decode b_Mo_upvalue 85 = .ok (.getfield 65, 3) := by decide +kernel
theorem d_Mo_upvalue_88 : decode b_Mo_upvalue 88 = .ok (.aload_n 0, 1) := by decide +kernel
theorem d_Mo_upvalue_89 : decode b_Mo_upvalue 89 = .ok (.dup, 1) := by decide +kernel
theorem d_Mo_upvalue_90 : decode b_Mo_upvalue 90 = .ok (.getfield 92, 3) := by decide +kernel
theorem d_Mo_upvalue_93 : decode b_Mo_upvalue 93 = .ok (.dup_x1, 1) := by decide +kernel
theorem d_Mo_upvalue_94 : decode b_Mo_upvalue 94 = .ok (.iconst 1, 1) := by decide +kernel
theorem d_Mo_upvalue_95 : decode b_Mo_upvalue 95 = .ok (.iadd, 1) := by decide +kernel
theorem d_Mo_upvalue_96 : decode b_Mo_upvalue 96 = .ok (.putfield 92, 3) := by decide +kernel
theorem d_Mo_upvalue_99 : decode b_Mo_upvalue 99 = .ok (.sipush 256, 3) := by decide +kernel
theorem d_Mo_upvalue_102 : decode b_Mo_upvalue 102 = .ok (.iload_n 2, 1) := by decide +kernel
theorem d_Mo_upvalue_103 : decode b_Mo_upvalue 103 = .ok (.imul, 1) := by decide +kernel
theorem d_Mo_upvalue_104 : decode b_Mo_upvalue 104 = .ok (.iload_n 3, 1) := by decide +kernel
theorem d_Mo_upvalue_105 : decode b_Mo_upvalue 105 = .ok (.iadd, 1) := by decide +kernel
theorem d_Mo_upvalue_106 : decode b_Mo_upvalue 106 = .ok (.iastore, 1) := by decide +kernel
theorem d_Mo_upvalue_107 : decode b_Mo_upvalue 107 = .ok (.return_, 1) := by decide +kernel
theorem kw_36 : Cond.methodLink R_Mo 453 y_Mo_number ∈ wA := kinm (show _ ∈ tables_1 from (List.mem_append_right _ (List.mem_append_right _ (List.mem_append_right _ (List.mem_append_right _ (List.mem_append_right _ (List.mem_append_right _ (List.mem_append_right _ (List.mem_append_right _ (List.mem_append_right _ (List.mem_append_right _ (List.mem_append_left _ (List.mem_of_getElem? (l := tables_1_11) (i := 146) (by decide +kernel)))))))))))))) (by decide +kernel)
theorem kw_37 : Cond.fieldLink R_Mo 65 "LuaMachineModel" "ups" "[I" ∈ wA := kinm (show _ ∈ tables_1 from (List.mem_append_right _ (List.mem_append_right _ (List.mem_append_right _ (List.mem_append_right _ (List.mem_append_right _ (List.mem_append_right _ (List.mem_append_right _ (List.mem_append_right _ (List.mem_append_right _ (List.mem_append_left _ (List.mem_of_getElem? (l := tables_1_10) (i := 72) (by decide +kernel))))))))))))) (by decide +kernel)
theorem kw_38 : Cond.fieldLink R_Mo 92 "LuaMachineModel" "upCount" "I" ∈ wA := kinm (show _ ∈ tables_1 from (List.mem_append_right _ (List.mem_append_right _ (List.mem_append_right _ (List.mem_append_right _ (List.mem_append_right _ (List.mem_append_right _ (List.mem_append_right _ (List.mem_append_right _ (List.mem_append_right _ (List.mem_append_left _ (List.mem_of_getElem? (l := tables_1_10) (i := 79) (by decide +kernel))))))))))))) (by decide +kernel)
theorem kw_39 : Cond.fieldLink R_Mo 41 "LuaMachineModel" "upvalues" "[I" ∈ wA := kinm (show _ ∈ tables_1 from (List.mem_append_right _ (List.mem_append_right _ (List.mem_append_right _ (List.mem_append_right _ (List.mem_append_right _ (List.mem_append_right _ (List.mem_append_right _ (List.mem_append_right _ (List.mem_append_right _ (List.mem_append_left _ (List.mem_of_getElem? (l := tables_1_10) (i := 64) (by decide +kernel))))))))))))) (by decide +kernel)
theorem kw_40 : Cond.methodLink R_Mo 456 y_Mo_need ∈ wA := kinm (show _ ∈ tables_1 from (List.mem_append_right _ (List.mem_append_right _ (List.mem_append_right _ (List.mem_append_right _ (List.mem_append_right _ (List.mem_append_right _ (List.mem_append_right _ (List.mem_append_right _ (List.mem_append_right _ (List.mem_append_right _ (List.mem_append_left _ (List.mem_of_getElem? (l := tables_1_11) (i := 150) (by decide +kernel)))))))))))))) (by decide +kernel)
theorem kw_41 : Cond.fieldLink R_Mo 38 "LuaMachineModel" "registers" "[I" ∈ wA := kinm (show _ ∈ tables_1 from (List.mem_append_right _ (List.mem_append_right _ (List.mem_append_right _ (List.mem_append_right _ (List.mem_append_right _ (List.mem_append_right _ (List.mem_append_right _ (List.mem_append_right _ (List.mem_append_right _ (List.mem_append_left _ (List.mem_of_getElem? (l := tables_1_10) (i := 62) (by decide +kernel))))))))))))) (by decide +kernel)
theorem kw_42 : Cond.instanceMethod y_Mo_upvalue ∈ wA := kinm (show _ ∈ tables_1 from (List.mem_append_right _ (List.mem_append_right _ (List.mem_append_right _ (List.mem_append_right _ (List.mem_append_right _ (List.mem_append_right _ (List.mem_append_right _ (List.mem_append_right _ (List.mem_append_right _ (List.mem_append_right _ (List.mem_append_left _ (List.mem_of_getElem? (l := tables_1_11) (i := 156) (by decide +kernel)))))))))))))) (by decide +kernel)
theorem kw_43 : Cond.selects R_Mo y_Mo_upvalue y_Mo_upvalue ∈ wA := kinp 116 (by decide +kernel) (by decide +kernel)
theorem cv_Mo_upvalue : CV y_Mo_upvalue b_Mo_upvalue 4 none 1 := ⟨kw_42, kw_43, kw_17, k_Mo_upvalue, by decide +kernel⟩
theorem j_Mo_upvalue_j76 {X : Cx} {q : PL} (g : Gd X y_Mo_upvalue b_Mo_upvalue 4 none 2 46 R_Mo) {o : (Unit) × S1} (hR : Rt X q o.2 none) (l2 : Int32) (l3 : Int32) (s : S1) (ls : Array Slot) (hl : lv_has ls 4 [(0, .ref (q.1 0 0)), (2, .int l2), (3, .int l3)]) (h : M_Mo_upvalue_j76 l2 l3 s = some o) : WW X q s 76 ls [] := by
  unfold M_Mo_upvalue_j76 at h
  refine ww_aload_n (pc := 76) g.1 d_Mo_upvalue_76 rfl (lv_at hl 0 rfl) ?_
  refine ww_gI (pc := 77) g (k := 3) cl_Mo (pz rfl (by decide)) (by decide) (Or.inl kw_24) (f := 3) rfl rfl d_Mo_upvalue_77 h fun v77 h => ?_
  refine ww_if_eq (pc := 80) (tgt := 84) g.1 d_Mo_upvalue_80 (by decide) h (fun c h => ?_) (fun c h => ?_)
  · refine ww_aload_n (pc := 84) g.1 d_Mo_upvalue_84 rfl (lv_at hl 0 rfl) ?_
    refine ww_gR (pc := 85) g (k := 17) cl_Mo (pz rfl (by decide)) (by decide) (Or.inl kw_37) (f := 17) (t := 53) rfl rfl rfl d_Mo_upvalue_85 ?_
    refine ww_aload_n (pc := 88) g.1 d_Mo_upvalue_88 rfl (lv_at hl 0 rfl) ?_
    refine ww_dup (pc := 89) g.1 d_Mo_upvalue_89 rfl ?_
    refine ww_gI (pc := 90) g (k := 24) cl_Mo (pz rfl (by decide)) (by decide) (Or.inl kw_38) (f := 24) rfl rfl d_Mo_upvalue_90 h fun v90 h => ?_
    refine ww_dup_x1 (pc := 93) g.1 d_Mo_upvalue_93 rfl rfl ?_
    refine ww_iconst (pc := 94) g.1 (v := 1) d_Mo_upvalue_94 (by decide) ?_
    refine ww_iadd (pc := 95) g.1 d_Mo_upvalue_95 ?_
    refine ww_pI (pc := 96) g (k := 24) cl_Mo (pz rfl (by decide)) (by decide) (Or.inl kw_38) rfl (f := 24) rfl rfl rfl rfl d_Mo_upvalue_96 h fun s hs h => ?_
    refine ww_sipush (pc := 99) g.1 (v := 256) d_Mo_upvalue_99 (by decide) ?_
    refine ww_iload_n (pc := 102) g.1 d_Mo_upvalue_102 rfl (lv_at hl 1 rfl) ?_
    refine ww_imul (pc := 103) g.1 d_Mo_upvalue_103 ?_
    refine ww_iload_n (pc := 104) g.1 d_Mo_upvalue_104 rfl (lv_at hl 2 rfl) ?_
    refine ww_iadd (pc := 105) g.1 d_Mo_upvalue_105 ?_
    refine ww_si (pc := 106) g (pz rfl (by decide)) rfl rfl d_Mo_upvalue_106 h fun s hs h => ?_
    exact ww_vretH (pc := 107) g h hR d_Mo_upvalue_107
  · exact ww_vretH (pc := 83) g h hR d_Mo_upvalue_83

theorem j_Mo_upvalue_j73 {X : Cx} {q : PL} (g : Gd X y_Mo_upvalue b_Mo_upvalue 4 none 2 46 R_Mo) {o : (Unit) × S1} (hR : Rt X q o.2 none) (l2 : Int32) (l3 : Int32) (k0 : Int32) (s : S1) (ls : Array Slot) (hl : lv_has ls 4 [(0, .ref (q.1 0 0)), (2, .int l2), (3, .int l3)]) (h : M_Mo_upvalue_j73 l2 l3 k0 s = some o) : WW X q s 73 ls [.int k0, .ref (q.1 0 0)] := by
  unfold M_Mo_upvalue_j73 at h
  obtain ⟨v73, s, hc73, h⟩ := oB_of h
  refine ww_callV (pc := 73) (rest := []) g cv_Mo_need (Or.inl kw_40) cl_Mo (pz rfl (by decide)) (ct_Mo_need hc73) ⟨by decide, by decide⟩ rfl hl.1 (Nat.le_of_ble_eq_true rfl) d_Mo_upvalue_73 rfl ?_
  refine ww_st (st' := []) rfl ?_
  exact j_Mo_upvalue_j76 g hR l2 l3 s ls (lv_sub hl [0, 1, 2] rfl) h

theorem j_Mo_upvalue_j65 {X : Cx} {q : PL} (g : Gd X y_Mo_upvalue b_Mo_upvalue 4 none 2 46 R_Mo) {o : (Unit) × S1} (hR : Rt X q o.2 none) (l2 : Int32) (l3 : Int32) (k0 : Int32) (k1 : Int32) (s : S1) (ls : Array Slot) (hl : lv_has ls 4 [(0, .ref (q.1 0 0)), (2, .int l2), (3, .int l3)]) (h : M_Mo_upvalue_j65 l2 l3 k0 k1 s = some o) : WW X q s 65 ls [.int k0, .int k1, .ref (q.1 0 0)] := by
  unfold M_Mo_upvalue_j65 at h
  refine ww_icmp_ge (pc := 65) (tgt := 72) g.1 d_Mo_upvalue_65 (by decide) h (fun c h => ?_) (fun c h => ?_)
  · refine ww_iconst (pc := 72) g.1 (v := 0) d_Mo_upvalue_72 (by decide) ?_
    exact j_Mo_upvalue_j73 g hR l2 l3 0 s ls (lv_sub hl [0, 1, 2] rfl) h
  · refine ww_iconst (pc := 68) g.1 (v := 1) d_Mo_upvalue_68 (by decide) ?_
    refine ww_goto (pc := 69) (tgt := 73) g.1 d_Mo_upvalue_69 (by decide) ?_
    exact j_Mo_upvalue_j73 g hR l2 l3 1 s ls (lv_sub hl [0, 1, 2] rfl) h

theorem j_Mo_upvalue_j25 {X : Cx} {q : PL} (g : Gd X y_Mo_upvalue b_Mo_upvalue 4 none 2 46 R_Mo) {o : (Unit) × S1} (hR : Rt X q o.2 none) (l1 : Int32) (l2 : Int32) (s : S1) (ls : Array Slot) (hl : lv_has ls 4 [(0, .ref (q.1 0 0)), (1, .int l1), (2, .int l2)]) (h : M_Mo_upvalue_j25 l1 l2 s = some o) : WW X q s 25 ls [] := by
  unfold M_Mo_upvalue_j25 at h
  refine ww_aload_n (pc := 25) g.1 d_Mo_upvalue_25 rfl (lv_at hl 0 rfl) ?_
  refine ww_iconst (pc := 26) g.1 (v := 1) d_Mo_upvalue_26 (by decide) ?_
  obtain ⟨v27, s, hc27, h⟩ := oB_of h
  refine ww_callV (pc := 27) (rest := []) g cv_Mo_number (Or.inl kw_36) cl_Mo (pz rfl (by decide)) (ct_Mo_number hc27) ⟨by decide, by decide⟩ rfl hl.1 (Nat.le_of_ble_eq_true rfl) d_Mo_upvalue_27 rfl ?_
  refine ww_st (st' := [.long v27]) rfl ?_
  refine ww_l2i (pc := 30) g.1 (v := v27.toInt32) d_Mo_upvalue_30 rfl ?_
  refine ww_istore_n (pc := 31) (i := 3) g.1 (lv' := [(3, .int v27.toInt32), (0, .ref (q.1 0 0)), (1, .int l1), (2, .int l2)]) d_Mo_upvalue_31 rfl hl (by decide) rfl fun ls hl => ?_
  refine ww_iload_n (pc := 32) g.1 d_Mo_upvalue_32 rfl (lv_at hl 2 rfl) ?_
  refine ww_if_lt (pc := 33) (tgt := 76) g.1 d_Mo_upvalue_33 (by decide) h (fun c h => ?_) (fun c h => ?_)
  · exact j_Mo_upvalue_j76 g hR l2 v27.toInt32 s ls (lv_sub hl [1, 3, 0] rfl) h
  · refine ww_aload_n (pc := 36) g.1 d_Mo_upvalue_36 rfl (lv_at hl 1 rfl) ?_
    refine ww_gI (pc := 37) g (k := 3) cl_Mo (pz rfl (by decide)) (by decide) (Or.inl kw_24) (f := 3) rfl rfl d_Mo_upvalue_37 h fun v37 h => ?_
    refine ww_if_ne (pc := 40) (tgt := 76) g.1 d_Mo_upvalue_40 (by decide) h (fun c h => ?_) (fun c h => ?_)
    · exact j_Mo_upvalue_j76 g hR l2 v27.toInt32 s ls (lv_sub hl [1, 3, 0] rfl) h
    · refine ww_aload_n (pc := 43) g.1 d_Mo_upvalue_43 rfl (lv_at hl 1 rfl) ?_
      refine ww_iload_n (pc := 44) g.1 d_Mo_upvalue_44 rfl (lv_at hl 0 rfl) ?_
      refine ww_iload_n (pc := 45) g.1 d_Mo_upvalue_45 rfl (lv_at hl 3 rfl) ?_
      refine ww_iconst (pc := 46) g.1 (v := 1) d_Mo_upvalue_46 (by decide) ?_
      refine ww_icmp_ne (pc := 47) (tgt := 59) g.1 d_Mo_upvalue_47 (by decide) h (fun c h => ?_) (fun c h => ?_)
      · refine ww_aload_n (pc := 59) g.1 d_Mo_upvalue_59 rfl (lv_at hl 1 rfl) ?_
        refine ww_gR (pc := 60) g (k := 9) cl_Mo (pz rfl (by decide)) (by decide) (Or.inl kw_39) (f := 9) (t := 45) rfl rfl rfl d_Mo_upvalue_60 ?_
        refine ww_iload_n (pc := 63) g.1 d_Mo_upvalue_63 rfl (lv_at hl 2 rfl) ?_
        refine ww_ai (pc := 64) g (pz rfl (by decide)) rfl rfl d_Mo_upvalue_64 h fun v64 h => ?_
        exact j_Mo_upvalue_j65 g hR l2 v27.toInt32 v64 v27.toInt32 s ls (lv_sub hl [1, 3, 0] rfl) h
      · refine ww_aload_n (pc := 50) g.1 d_Mo_upvalue_50 rfl (lv_at hl 1 rfl) ?_
        refine ww_gR (pc := 51) g (k := 8) cl_Mo (pz rfl (by decide)) (by decide) (Or.inl kw_41) (f := 8) (t := 44) rfl rfl rfl d_Mo_upvalue_51 ?_
        refine ww_iload_n (pc := 54) g.1 d_Mo_upvalue_54 rfl (lv_at hl 2 rfl) ?_
        refine ww_ai (pc := 55) g (pz rfl (by decide)) rfl rfl d_Mo_upvalue_55 h fun v55 h => ?_
        refine ww_goto (pc := 56) (tgt := 65) g.1 d_Mo_upvalue_56 (by decide) ?_
        exact j_Mo_upvalue_j65 g hR l2 v27.toInt32 v55 v27.toInt32 s ls (lv_sub hl [1, 3, 0] rfl) h

theorem j_Mo_upvalue_j22 {X : Cx} {q : PL} (g : Gd X y_Mo_upvalue b_Mo_upvalue 4 none 2 46 R_Mo) {o : (Unit) × S1} (hR : Rt X q o.2 none) (l1 : Int32) (l2 : Int32) (k0 : Int32) (s : S1) (ls : Array Slot) (hl : lv_has ls 4 [(0, .ref (q.1 0 0)), (1, .int l1), (2, .int l2)]) (h : M_Mo_upvalue_j22 l1 l2 k0 s = some o) : WW X q s 22 ls [.int k0, .ref (q.1 0 0)] := by
  unfold M_Mo_upvalue_j22 at h
  obtain ⟨v22, s, hc22, h⟩ := oB_of h
  refine ww_callV (pc := 22) (rest := []) g cv_Mo_need (Or.inl kw_40) cl_Mo (pz rfl (by decide)) (ct_Mo_need hc22) ⟨by decide, by decide⟩ rfl hl.1 (Nat.le_of_ble_eq_true rfl) d_Mo_upvalue_22 rfl ?_
  refine ww_st (st' := []) rfl ?_
  exact j_Mo_upvalue_j25 g hR l1 l2 s ls (lv_sub hl [0, 1, 2] rfl) h

theorem ct_Mo_upvalue {l : Launch} {P : PP} {q : PL} {s s' : S1} {l1 : Int32} {r : Unit} (h : M_Mo_upvalue l1 s = some (r, s')) : Ct l y_Mo_upvalue b_Mo_upvalue 4 none 2 46 P q s [.ref (q.1 0 0), .int l1] none q s' := by
  refine ct_of (by decide) (Nat.le_of_ble_eq_true rfl) fun X ls eP el g hR hl => ?_
  subst eP
  have hR : Rt X q ((r, s') : Unit × S1).2 none := hR
  have hl : lv_has ls 4 [(0, .ref (q.1 0 0)), (1, .int l1)] := hl
  generalize (r, s') = o at h hR
  unfold M_Mo_upvalue at h
  refine ww_aload_n (pc := 0) g.1 d_Mo_upvalue_0 rfl (lv_at hl 0 rfl) ?_
  refine ww_iconst (pc := 1) g.1 (v := 1) d_Mo_upvalue_1 (by decide) ?_
  obtain ⟨v2, s, hc2, h⟩ := oB_of h
  refine ww_callV (pc := 2) (rest := []) g cv_Mo_number (Or.inl kw_36) cl_Mo (pz rfl (by decide)) (ct_Mo_number hc2) ⟨by decide, by decide⟩ rfl hl.1 (Nat.le_of_ble_eq_true rfl) d_Mo_upvalue_2 rfl ?_
  refine ww_st (st' := [.long v2]) rfl ?_
  refine ww_l2i (pc := 5) g.1 (v := v2.toInt32) d_Mo_upvalue_5 rfl ?_
  refine ww_istore_n (pc := 6) (i := 2) g.1 (lv' := [(2, .int v2.toInt32), (0, .ref (q.1 0 0)), (1, .int l1)]) d_Mo_upvalue_6 rfl hl (by decide) rfl fun ls hl => ?_
  refine ww_iload_n (pc := 7) g.1 d_Mo_upvalue_7 rfl (lv_at hl 2 rfl) ?_
  refine ww_if_lt (pc := 8) (tgt := 25) g.1 d_Mo_upvalue_8 (by decide) h (fun c h => ?_) (fun c h => ?_)
  · exact j_Mo_upvalue_j25 g hR l1 v2.toInt32 s ls (lv_sub hl [1, 2, 0] rfl) h
  · refine ww_aload_n (pc := 11) g.1 d_Mo_upvalue_11 rfl (lv_at hl 1 rfl) ?_
    refine ww_iload_n (pc := 12) g.1 d_Mo_upvalue_12 rfl (lv_at hl 0 rfl) ?_
    refine ww_iconst (pc := 13) g.1 (v := 2) d_Mo_upvalue_13 (by decide) ?_
    refine ww_icmp_ge (pc := 14) (tgt := 21) g.1 d_Mo_upvalue_14 (by decide) h (fun c h => ?_) (fun c h => ?_)
    · refine ww_iconst (pc := 21) g.1 (v := 0) d_Mo_upvalue_21 (by decide) ?_
      exact j_Mo_upvalue_j22 g hR l1 v2.toInt32 0 s ls (lv_sub hl [1, 2, 0] rfl) h
    · refine ww_iconst (pc := 17) g.1 (v := 1) d_Mo_upvalue_17 (by decide) ?_
      refine ww_goto (pc := 18) (tgt := 22) g.1 d_Mo_upvalue_18 (by decide) ?_
      exact j_Mo_upvalue_j22 g hR l1 v2.toInt32 1 s ls (lv_sub hl [1, 2, 0] rfl) h

abbrev b_Va_set : ByteArray := prog_16_method_3_code
def y_Va_set : MethodName := ⟨R_Va, "set", "(IIJ)V"⟩
abbrev w_Va_set : List Cond := .code y_Va_set b_Va_set 5 none :: wA
theorem k_Va_set : Cond.code y_Va_set b_Va_set 5 none ∈ wA := kinm (show _ ∈ tables_1 from (List.mem_append_right _ (List.mem_append_right _ (List.mem_append_right _ (List.mem_append_right _ (List.mem_append_right _ (List.mem_append_right _ (List.mem_append_right _ (List.mem_append_right _ (List.mem_append_right _ (List.mem_append_right _ (List.mem_append_left _ (List.mem_of_getElem? (l := tables_1_11) (i := 165) (by decide +kernel)))))))))))))) (by decide +kernel)
theorem d_Va_set_0 : decode b_Va_set 0 = .ok (.aload_n 0, 1) := by decide +kernel
theorem d_Va_set_1 : decode b_Va_set 1 = .ok (.getfield 13, 3) := by decide +kernel
theorem d_Va_set_4 : decode b_Va_set 4 = .ok (.iload_n 1, 1) := by decide +kernel
theorem d_Va_set_5 : decode b_Va_set 5 = .ok (.iload_n 2, 1) := by decide +kernel
theorem d_Va_set_6 : decode b_Va_set 6 = .ok (.i2b, 1) := by decide +kernel
theorem d_Va_set_7 : decode b_Va_set 7 = .ok (.bastore, 1) := by decide +kernel
theorem d_Va_set_8 : decode b_Va_set 8 = .ok (.aload_n 0, 1) := by decide +kernel
theorem d_Va_set_9 : decode b_Va_set 9 = .ok (.getfield 17, 3) := by decide +kernel
theorem d_Va_set_12 : decode b_Va_set 12 = .ok (.iload_n 1, 1) := by decide +kernel
theorem d_Va_set_13 : decode b_Va_set 13 = .ok (.lload_n 3, 1) := by decide +kernel
theorem d_Va_set_14 : decode b_Va_set 14 = .ok (.lastore, 1) := by decide +kernel
theorem d_Va_set_15 : decode b_Va_set 15 = .ok (.return_, 1) := by decide +kernel
theorem kw_44 : Cond.fieldLink R_Va 13 "LuaMachineModel$Values" "k" "[B" ∈ wA := kinm (show _ ∈ tables_1 from (List.mem_append_right _ (List.mem_append_right _ (List.mem_append_right _ (List.mem_append_right _ (List.mem_append_right _ (List.mem_append_right _ (List.mem_append_right _ (List.mem_append_right _ (List.mem_append_left _ (List.mem_of_getElem? (l := tables_1_9) (i := 122) (by decide +kernel)))))))))))) (by decide +kernel)
theorem kw_45 : Cond.fieldLink R_Va 17 "LuaMachineModel$Values" "v" "[J" ∈ wA := kinm (show _ ∈ tables_1 from (List.mem_append_right _ (List.mem_append_right _ (List.mem_append_right _ (List.mem_append_right _ (List.mem_append_right _ (List.mem_append_right _ (List.mem_append_right _ (List.mem_append_right _ (List.mem_append_left _ (List.mem_of_getElem? (l := tables_1_9) (i := 124) (by decide +kernel)))))))))))) (by decide +kernel)
theorem kw_46 : Cond.instanceMethod y_Va_set ∈ wA := kinm (show _ ∈ tables_1 from (List.mem_append_right _ (List.mem_append_right _ (List.mem_append_right _ (List.mem_append_right _ (List.mem_append_right _ (List.mem_append_right _ (List.mem_append_right _ (List.mem_append_right _ (List.mem_append_right _ (List.mem_append_right _ (List.mem_append_left _ (List.mem_of_getElem? (l := tables_1_11) (i := 163) (by decide +kernel)))))))))))))) (by decide +kernel)
theorem kw_47 : Cond.selects R_Va y_Va_set y_Va_set ∈ wA := kinm (show _ ∈ tables_1 from (List.mem_append_right _ (List.mem_append_right _ (List.mem_append_right _ (List.mem_append_right _ (List.mem_append_right _ (List.mem_append_right _ (List.mem_append_right _ (List.mem_append_right _ (List.mem_append_right _ (List.mem_append_right _ (List.mem_append_left _ (List.mem_of_getElem? (l := tables_1_11) (i := 164) (by decide +kernel)))))))))))))) (by decide +kernel)
theorem kw_48 : Cond.initialized R_Va ∈ wA := kinm (show _ ∈ tables_1 from (List.mem_append_left _ (List.mem_of_getElem? (l := tables_1_1) (i := 10) (by decide +kernel)))) (by decide +kernel)
theorem cv_Va_set : CV y_Va_set b_Va_set 5 none 3 := ⟨kw_46, kw_47, kw_48, k_Va_set, by decide +kernel⟩
theorem ct_Va_set {l : Launch} {P : PP} {q : PL} {s s' : S1} {l0r : Nat} {l0 : Int32} {l1 : Int32} {l2 : Int32} {l3 : Int64} (hp0 : VOK l0r l0) {r : Unit} (h : M_Va_set l0r l0 l1 l2 l3 s = some (r, s')) : Ct l y_Va_set b_Va_set 5 none 0 0 P q s [.ref (q.1 l0r l0), .int l1, .int l2, .long l3] none q s' := by
  refine ct_of (by decide) (Nat.le_of_ble_eq_true rfl) fun X ls eP el g hR hl => ?_
  subst eP
  have hR : Rt X q ((r, s') : Unit × S1).2 none := hR
  have hl : lv_has ls 5 [(0, .ref (q.1 l0r l0)), (1, .int l1), (2, .int l2), (3, .long l3)] := hl
  generalize (r, s') = o at h hR
  unfold M_Va_set at h
  refine ww_aload_n (pc := 0) g.1 d_Va_set_0 rfl (lv_at hl 0 rfl) ?_
  refine ww_gR (pc := 1) g (k := 0) (cl_Va hp0) (vok_p hp0).1 (by rw [(vok_f hp0).1.2.2]; decide) (Or.inl kw_44) (f := (128 * l0r + 0)) (t := l0r + 1) rfl (vok_f hp0).2.1.1 (vok_f hp0).2.1.2 d_Va_set_1 ?_
  refine ww_iload_n (pc := 4) g.1 d_Va_set_4 rfl (lv_at hl 1 rfl) ?_
  refine ww_iload_n (pc := 5) g.1 d_Va_set_5 rfl (lv_at hl 2 rfl) ?_
  refine ww_i2b (pc := 6) g.1 (v := l2.toInt8.toInt32) d_Va_set_6 rfl ?_
  refine ww_sb (pc := 7) g (vok_p hp0).2.1 (vok_f hp0).2.2.2.2.1 (vok_n hp0).1 d_Va_set_7 h fun s hs h => ?_
  refine ww_aload_n (pc := 8) g.1 d_Va_set_8 rfl (lv_at hl 0 rfl) ?_
  refine ww_gR (pc := 9) g (k := 1) (cl_Va hp0) (vok_p hp0).1 (by rw [(vok_f hp0).1.2.2]; decide) (Or.inl kw_45) (f := (128 * l0r + 1)) (t := l0r + 2) rfl (vok_f hp0).2.2.1.1 (vok_f hp0).2.2.1.2 d_Va_set_9 ?_
  refine ww_iload_n (pc := 12) g.1 d_Va_set_12 rfl (lv_at hl 1 rfl) ?_
  refine ww_lload_n (pc := 13) g.1 d_Va_set_13 rfl (lv_at hl 3 rfl) ?_
  refine ww_sl (pc := 14) g (vok_p hp0).2.2 (vok_f hp0).2.2.2.2.2 (vok_n hp0).2 d_Va_set_14 h fun s hs h => ?_
  exact ww_vretH (pc := 15) g h hR d_Va_set_15

abbrev b_Mo_op : ByteArray := prog_14_method_12_code
def y_Mo_op : MethodName := ⟨R_Mo, "op", "(I)I"⟩
abbrev w_Mo_op : List Cond := .code y_Mo_op b_Mo_op 1 (some .int) :: wA
theorem k_Mo_op : Cond.code y_Mo_op b_Mo_op 1 (some .int) ∈ wA := kinm (show _ ∈ tables_1 from (List.mem_append_right _ (List.mem_append_right _ (List.mem_append_right _ (List.mem_append_right _ (List.mem_append_right _ (List.mem_append_right _ (List.mem_append_right _ (List.mem_append_right _ (List.mem_append_right _ (List.mem_append_right _ (List.mem_append_left _ (List.mem_of_getElem? (l := tables_1_11) (i := 176) (by decide +kernel)))))))))))))) (by decide +kernel)
theorem d_Mo_op_0 : decode b_Mo_op 0 = .ok (.iload_n 0, 1) := by decide +kernel
theorem d_Mo_op_1 : decode b_Mo_op 1 = .ok (.bipush 63, 2) := by decide +kernel
theorem d_Mo_op_3 : decode b_Mo_op 3 = .ok (.iand, 1) := by decide +kernel
theorem d_Mo_op_4 : decode b_Mo_op 4 = .ok (.ireturn, 1) := by decide +kernel
theorem kw_49 : Cond.static y_Mo_op ∈ wA := kinm (show _ ∈ tables_1 from (List.mem_append_right _ (List.mem_append_right _ (List.mem_append_right _ (List.mem_append_right _ (List.mem_append_right _ (List.mem_append_right _ (List.mem_append_right _ (List.mem_append_right _ (List.mem_append_right _ (List.mem_append_right _ (List.mem_append_left _ (List.mem_of_getElem? (l := tables_1_11) (i := 175) (by decide +kernel)))))))))))))) (by decide +kernel)
theorem cs_Mo_op : CS y_Mo_op b_Mo_op 1 (some .int) 1 := ⟨kw_49, kw_17, k_Mo_op, by decide +kernel⟩
theorem ct_Mo_op {l : Launch} {P : PP} {q : PL} {s s' : S1} {l0 : Int32} {r : Int32} (h : M_Mo_op l0 s = some (r, s')) : Ct l y_Mo_op b_Mo_op 1 (some .int) 0 0 P q s [.int l0] (some (.int r)) q s' := by
  refine ct_of (by decide) (Nat.le_of_ble_eq_true rfl) fun X ls eP el g hR hl => ?_
  subst eP
  have hR : Rt X q ((r, s') : Int32 × S1).2 (some (.int ((r, s') : Int32 × S1).1)) := hR
  have hl : lv_has ls 1 [(0, .int l0)] := hl
  generalize (r, s') = o at h hR
  unfold M_Mo_op at h
  refine ww_iload_n (pc := 0) g.1 d_Mo_op_0 rfl (lv_at hl 0 rfl) ?_
  refine ww_bipush (pc := 1) g.1 (v := 63) d_Mo_op_1 (by decide) ?_
  refine ww_iand (pc := 3) g.1 d_Mo_op_3 ?_
  exact ww_iretH (pc := 4) g h hR d_Mo_op_4

abbrev b_Mo_c : ByteArray := prog_14_method_14_code
def y_Mo_c : MethodName := ⟨R_Mo, "c", "(I)I"⟩
abbrev w_Mo_c : List Cond := .code y_Mo_c b_Mo_c 1 (some .int) :: wA
theorem k_Mo_c : Cond.code y_Mo_c b_Mo_c 1 (some .int) ∈ wA := kinm (show _ ∈ tables_1 from (List.mem_append_right _ (List.mem_append_right _ (List.mem_append_right _ (List.mem_append_right _ (List.mem_append_right _ (List.mem_append_right _ (List.mem_append_right _ (List.mem_append_right _ (List.mem_append_right _ (List.mem_append_right _ (List.mem_append_left _ (List.mem_of_getElem? (l := tables_1_11) (i := 182) (by decide +kernel)))))))))))))) (by decide +kernel)
theorem d_Mo_c_0 : decode b_Mo_c 0 = .ok (.iload_n 0, 1) := by decide +kernel
theorem d_Mo_c_1 : decode b_Mo_c 1 = .ok (.bipush 14, 2) := by decide +kernel
theorem d_Mo_c_3 : decode b_Mo_c 3 = .ok (.ishr, 1) := by decide +kernel
theorem d_Mo_c_4 : decode b_Mo_c 4 = .ok (.sipush 511, 3) := by decide +kernel
theorem d_Mo_c_7 : decode b_Mo_c 7 = .ok (.iand, 1) := by decide +kernel
theorem d_Mo_c_8 : decode b_Mo_c 8 = .ok (.ireturn, 1) := by decide +kernel
theorem kw_50 : Cond.static y_Mo_c ∈ wA := kinm (show _ ∈ tables_1 from (List.mem_append_right _ (List.mem_append_right _ (List.mem_append_right _ (List.mem_append_right _ (List.mem_append_right _ (List.mem_append_right _ (List.mem_append_right _ (List.mem_append_right _ (List.mem_append_right _ (List.mem_append_right _ (List.mem_append_left _ (List.mem_of_getElem? (l := tables_1_11) (i := 181) (by decide +kernel)))))))))))))) (by decide +kernel)
theorem cs_Mo_c : CS y_Mo_c b_Mo_c 1 (some .int) 1 := ⟨kw_50, kw_17, k_Mo_c, by decide +kernel⟩
theorem ct_Mo_c {l : Launch} {P : PP} {q : PL} {s s' : S1} {l0 : Int32} {r : Int32} (h : M_Mo_c l0 s = some (r, s')) : Ct l y_Mo_c b_Mo_c 1 (some .int) 0 0 P q s [.int l0] (some (.int r)) q s' := by
  refine ct_of (by decide) (Nat.le_of_ble_eq_true rfl) fun X ls eP el g hR hl => ?_
  subst eP
  have hR : Rt X q ((r, s') : Int32 × S1).2 (some (.int ((r, s') : Int32 × S1).1)) := hR
  have hl : lv_has ls 1 [(0, .int l0)] := hl
  generalize (r, s') = o at h hR
  unfold M_Mo_c at h
  refine ww_iload_n (pc := 0) g.1 d_Mo_c_0 rfl (lv_at hl 0 rfl) ?_
  refine ww_bipush (pc := 1) g.1 (v := 14) d_Mo_c_1 (by decide) ?_
  refine ww_ishr (pc := 3) g.1 d_Mo_c_3 ?_
  refine ww_sipush (pc := 4) g.1 (v := 511) d_Mo_c_4 (by decide) ?_
  refine ww_iand (pc := 7) g.1 d_Mo_c_7 ?_
  exact ww_iretH (pc := 8) g h hR d_Mo_c_8

abbrev b_Mo_b : ByteArray := prog_14_method_15_code
def y_Mo_b : MethodName := ⟨R_Mo, "b", "(I)I"⟩
abbrev w_Mo_b : List Cond := .code y_Mo_b b_Mo_b 1 (some .int) :: wA
theorem k_Mo_b : Cond.code y_Mo_b b_Mo_b 1 (some .int) ∈ wA := kinm (show _ ∈ tables_1 from (List.mem_append_right _ (List.mem_append_right _ (List.mem_append_right _ (List.mem_append_right _ (List.mem_append_right _ (List.mem_append_right _ (List.mem_append_right _ (List.mem_append_right _ (List.mem_append_right _ (List.mem_append_right _ (List.mem_append_left _ (List.mem_of_getElem? (l := tables_1_11) (i := 185) (by decide +kernel)))))))))))))) (by decide +kernel)
theorem d_Mo_b_0 : decode b_Mo_b 0 = .ok (.iload_n 0, 1) := by decide +kernel
theorem d_Mo_b_1 : decode b_Mo_b 1 = .ok (.bipush 23, 2) := by decide +kernel
theorem d_Mo_b_3 : decode b_Mo_b 3 = .ok (.iushr, 1) := by decide +kernel
theorem d_Mo_b_4 : decode b_Mo_b 4 = .ok (.ireturn, 1) := by decide +kernel
theorem kw_51 : Cond.static y_Mo_b ∈ wA := kinm (show _ ∈ tables_1 from (List.mem_append_right _ (List.mem_append_right _ (List.mem_append_right _ (List.mem_append_right _ (List.mem_append_right _ (List.mem_append_right _ (List.mem_append_right _ (List.mem_append_right _ (List.mem_append_right _ (List.mem_append_right _ (List.mem_append_left _ (List.mem_of_getElem? (l := tables_1_11) (i := 184) (by decide +kernel)))))))))))))) (by decide +kernel)
theorem cs_Mo_b : CS y_Mo_b b_Mo_b 1 (some .int) 1 := ⟨kw_51, kw_17, k_Mo_b, by decide +kernel⟩
theorem ct_Mo_b {l : Launch} {P : PP} {q : PL} {s s' : S1} {l0 : Int32} {r : Int32} (h : M_Mo_b l0 s = some (r, s')) : Ct l y_Mo_b b_Mo_b 1 (some .int) 0 0 P q s [.int l0] (some (.int r)) q s' := by
  refine ct_of (by decide) (Nat.le_of_ble_eq_true rfl) fun X ls eP el g hR hl => ?_
  subst eP
  have hR : Rt X q ((r, s') : Int32 × S1).2 (some (.int ((r, s') : Int32 × S1).1)) := hR
  have hl : lv_has ls 1 [(0, .int l0)] := hl
  generalize (r, s') = o at h hR
  unfold M_Mo_b at h
  refine ww_iload_n (pc := 0) g.1 d_Mo_b_0 rfl (lv_at hl 0 rfl) ?_
  refine ww_bipush (pc := 1) g.1 (v := 23) d_Mo_b_1 (by decide) ?_
  refine ww_iushr (pc := 3) g.1 (v := iushr l0 (23 : Int32)) d_Mo_b_3 rfl ?_
  exact ww_iretH (pc := 4) g h hR d_Mo_b_4

abbrev b_Mo_a : ByteArray := prog_14_method_13_code
def y_Mo_a : MethodName := ⟨R_Mo, "a", "(I)I"⟩
abbrev w_Mo_a : List Cond := .code y_Mo_a b_Mo_a 1 (some .int) :: wA
theorem k_Mo_a : Cond.code y_Mo_a b_Mo_a 1 (some .int) ∈ wA := kinm (show _ ∈ tables_1 from (List.mem_append_right _ (List.mem_append_right _ (List.mem_append_right _ (List.mem_append_right _ (List.mem_append_right _ (List.mem_append_right _ (List.mem_append_right _ (List.mem_append_right _ (List.mem_append_right _ (List.mem_append_right _ (List.mem_append_left _ (List.mem_of_getElem? (l := tables_1_11) (i := 188) (by decide +kernel)))))))))))))) (by decide +kernel)
theorem d_Mo_a_0 : decode b_Mo_a 0 = .ok (.iload_n 0, 1) := by decide +kernel
theorem d_Mo_a_1 : decode b_Mo_a 1 = .ok (.bipush 6, 2) := by decide +kernel
theorem d_Mo_a_3 : decode b_Mo_a 3 = .ok (.ishr, 1) := by decide +kernel
theorem d_Mo_a_4 : decode b_Mo_a 4 = .ok (.sipush 255, 3) := by decide +kernel
theorem d_Mo_a_7 : decode b_Mo_a 7 = .ok (.iand, 1) := by decide +kernel
theorem d_Mo_a_8 : decode b_Mo_a 8 = .ok (.ireturn, 1) := by decide +kernel
theorem kw_52 : Cond.static y_Mo_a ∈ wA := kinm (show _ ∈ tables_1 from (List.mem_append_right _ (List.mem_append_right _ (List.mem_append_right _ (List.mem_append_right _ (List.mem_append_right _ (List.mem_append_right _ (List.mem_append_right _ (List.mem_append_right _ (List.mem_append_right _ (List.mem_append_right _ (List.mem_append_left _ (List.mem_of_getElem? (l := tables_1_11) (i := 187) (by decide +kernel)))))))))))))) (by decide +kernel)
theorem cs_Mo_a : CS y_Mo_a b_Mo_a 1 (some .int) 1 := ⟨kw_52, kw_17, k_Mo_a, by decide +kernel⟩
theorem ct_Mo_a {l : Launch} {P : PP} {q : PL} {s s' : S1} {l0 : Int32} {r : Int32} (h : M_Mo_a l0 s = some (r, s')) : Ct l y_Mo_a b_Mo_a 1 (some .int) 0 0 P q s [.int l0] (some (.int r)) q s' := by
  refine ct_of (by decide) (Nat.le_of_ble_eq_true rfl) fun X ls eP el g hR hl => ?_
  subst eP
  have hR : Rt X q ((r, s') : Int32 × S1).2 (some (.int ((r, s') : Int32 × S1).1)) := hR
  have hl : lv_has ls 1 [(0, .int l0)] := hl
  generalize (r, s') = o at h hR
  unfold M_Mo_a at h
  refine ww_iload_n (pc := 0) g.1 d_Mo_a_0 rfl (lv_at hl 0 rfl) ?_
  refine ww_bipush (pc := 1) g.1 (v := 6) d_Mo_a_1 (by decide) ?_
  refine ww_ishr (pc := 3) g.1 d_Mo_a_3 ?_
  refine ww_sipush (pc := 4) g.1 (v := 255) d_Mo_a_4 (by decide) ?_
  refine ww_iand (pc := 7) g.1 d_Mo_a_7 ?_
  exact ww_iretH (pc := 8) g h hR d_Mo_a_8

abbrev b_Mo_uses : ByteArray := prog_14_method_19_code
def y_Mo_uses : MethodName := ⟨R_Mo, "uses", "(I)Z"⟩
abbrev w_Mo_uses : List Cond := .code y_Mo_uses b_Mo_uses 2 (some .boolean) :: wA
theorem k_Mo_uses : Cond.code y_Mo_uses b_Mo_uses 2 (some .boolean) ∈ wA := kinm (show _ ∈ tables_1 from (List.mem_append_right _ (List.mem_append_right _ (List.mem_append_right _ (List.mem_append_right _ (List.mem_append_right _ (List.mem_append_right _ (List.mem_append_right _ (List.mem_append_right _ (List.mem_append_right _ (List.mem_append_right _ (List.mem_append_left _ (List.mem_of_getElem? (l := tables_1_11) (i := 191) (by decide +kernel)))))))))))))) (by decide +kernel)
theorem d_Mo_uses_0 : decode b_Mo_uses 0 = .ok (.iload_n 0, 1) := by decide +kernel
theorem d_Mo_uses_1 : decode b_Mo_uses 1 = .ok (.invokestatic 475, 3) := by decide +kernel
theorem d_Mo_uses_4 : decode b_Mo_uses 4 = .ok (.istore_n 1, 1) := by decide +kernel
theorem d_Mo_uses_5 : decode b_Mo_uses 5 = .ok (.iload_n 1, 1) := by decide +kernel
theorem d_Mo_uses_6 : decode b_Mo_uses 6 = .ok (.bipush 36, 2) := by decide +kernel
theorem d_Mo_uses_8 : decode b_Mo_uses 8 = .ok (.if_icmp .eq 21, 3) := by decide +kernel
theorem d_Mo_uses_11 : decode b_Mo_uses 11 = .ok (.iload_n 1, 1) := by decide +kernel
theorem d_Mo_uses_12 : decode b_Mo_uses 12 = .ok (.bipush 37, 2) := by decide +kernel
theorem d_Mo_uses_14 : decode b_Mo_uses 14 = .ok (.if_icmp .eq 15, 3) := by decide +kernel
theorem d_Mo_uses_17 : decode b_Mo_uses 17 = .ok (.iload_n 1, 1) := by decide +kernel
theorem d_Mo_uses_18 : decode b_Mo_uses 18 = .ok (.bipush 38, 2) := by decide +kernel
theorem d_Mo_uses_20 : decode b_Mo_uses 20 = .ok (.if_icmp .eq 9, 3) := by decide +kernel
theorem d_Mo_uses_23 : decode b_Mo_uses 23 = .ok (.iload_n 1, 1) := by decide +kernel
theorem d_Mo_uses_24 : decode b_Mo_uses 24 = .ok (.bipush 43, 2) := by decide +kernel
theorem d_Mo_uses_26 : decode b_Mo_uses 26 = .ok (.if_icmp .ne 14, 3) := by decide +kernel
theorem d_Mo_uses_29 : decode b_Mo_uses 29 = .ok (.iload_n 0, 1) := by decide +kernel
theorem d_Mo_uses_30 : decode b_Mo_uses 30 = .ok (.invokestatic 482, 3) := by decide +kernel
theorem d_Mo_uses_33 : decode b_Mo_uses 33 = .ok (.ifCond .ne 7, 3) := by decide +kernel
theorem d_Mo_uses_36 : decode b_Mo_uses 36 = .ok (.iconst 1, 1) := by decide +kernel
theorem d_Mo_uses_37 : decode b_Mo_uses 37 = .ok (.goto 4, 3) := by decide +kernel
theorem d_Mo_uses_40 : decode b_Mo_uses 40 = .ok (.iconst 0, 1) := by decide +kernel
theorem d_Mo_uses_41 : decode b_Mo_uses 41 = .ok (.ireturn, 1) := by decide +kernel
theorem kw_53 : Cond.methodLink R_Mo 475 y_Mo_op ∈ wA := kinm (show _ ∈ tables_1 from (List.mem_append_right _ (List.mem_append_right _ (List.mem_append_right _ (List.mem_append_right _ (List.mem_append_right _ (List.mem_append_right _ (List.mem_append_right _ (List.mem_append_right _ (List.mem_append_right _ (List.mem_append_right _ (List.mem_append_left _ (List.mem_of_getElem? (l := tables_1_11) (i := 174) (by decide +kernel)))))))))))))) (by decide +kernel)
theorem kw_54 : Cond.methodLink R_Mo 482 y_Mo_b ∈ wA := kinm (show _ ∈ tables_1 from (List.mem_append_right _ (List.mem_append_right _ (List.mem_append_right _ (List.mem_append_right _ (List.mem_append_right _ (List.mem_append_right _ (List.mem_append_right _ (List.mem_append_right _ (List.mem_append_right _ (List.mem_append_right _ (List.mem_append_left _ (List.mem_of_getElem? (l := tables_1_11) (i := 183) (by decide +kernel)))))))))))))) (by decide +kernel)
theorem kw_55 : Cond.static y_Mo_uses ∈ wA := kinm (show _ ∈ tables_1 from (List.mem_append_right _ (List.mem_append_right _ (List.mem_append_right _ (List.mem_append_right _ (List.mem_append_right _ (List.mem_append_right _ (List.mem_append_right _ (List.mem_append_right _ (List.mem_append_right _ (List.mem_append_right _ (List.mem_append_left _ (List.mem_of_getElem? (l := tables_1_11) (i := 190) (by decide +kernel)))))))))))))) (by decide +kernel)
theorem cs_Mo_uses : CS y_Mo_uses b_Mo_uses 2 (some .boolean) 1 := ⟨kw_55, kw_17, k_Mo_uses, by decide +kernel⟩
theorem j_Mo_uses_j40 {X : Cx} {q : PL} (g : Gd X y_Mo_uses b_Mo_uses 2 (some .boolean) 1 20 R_Mo) {o : (Int32) × S1} (hR : Rt X q o.2 (some (.int o.1)))  (s : S1) (ls : Array Slot) (hl : lv_has ls 2 []) (h : M_Mo_uses_j40 s = some o) : WW X q s 40 ls [] := by
  unfold M_Mo_uses_j40 at h
  refine ww_iconst (pc := 40) g.1 (v := 0) d_Mo_uses_40 (by decide) ?_
  exact ww_zretH (pc := 41) g h hR (Or.inl rfl) d_Mo_uses_41

theorem j_Mo_uses_j29 {X : Cx} {q : PL} (g : Gd X y_Mo_uses b_Mo_uses 2 (some .boolean) 1 20 R_Mo) {o : (Int32) × S1} (hR : Rt X q o.2 (some (.int o.1))) (l0 : Int32) (s : S1) (ls : Array Slot) (hl : lv_has ls 2 [(0, .int l0)]) (h : M_Mo_uses_j29 l0 s = some o) : WW X q s 29 ls [] := by
  unfold M_Mo_uses_j29 at h
  refine ww_iload_n (pc := 29) g.1 d_Mo_uses_29 rfl (lv_at hl 0 rfl) ?_
  obtain ⟨v30, s, hc30, h⟩ := oB_of h
  refine ww_callS (pc := 30) (rest := []) g cs_Mo_b (Or.inl kw_54) (ct_Mo_b hc30) ⟨by decide, by decide⟩ rfl hl.1 (Nat.le_of_ble_eq_true rfl) d_Mo_uses_30 rfl ?_
  refine ww_st (st' := [.int v30]) rfl ?_
  refine ww_if_ne (pc := 33) (tgt := 40) g.1 d_Mo_uses_33 (by decide) h (fun c h => ?_) (fun c h => ?_)
  · exact j_Mo_uses_j40 g hR s ls (lv_sub hl [] rfl) h
  · refine ww_iconst (pc := 36) g.1 (v := 1) d_Mo_uses_36 (by decide) ?_
    refine ww_goto (pc := 37) (tgt := 41) g.1 d_Mo_uses_37 (by decide) ?_
    exact ww_zretH (pc := 41) g h hR (Or.inr rfl) d_Mo_uses_41

theorem ct_Mo_uses {l : Launch} {P : PP} {q : PL} {s s' : S1} {l0 : Int32} {r : Int32} (h : M_Mo_uses l0 s = some (r, s')) : Ct l y_Mo_uses b_Mo_uses 2 (some .boolean) 1 20 P q s [.int l0] (some (.int r)) q s' := by
  refine ct_of (by decide) (Nat.le_of_ble_eq_true rfl) fun X ls eP el g hR hl => ?_
  subst eP
  have hR : Rt X q ((r, s') : Int32 × S1).2 (some (.int ((r, s') : Int32 × S1).1)) := hR
  have hl : lv_has ls 2 [(0, .int l0)] := hl
  generalize (r, s') = o at h hR
  unfold M_Mo_uses at h
  refine ww_iload_n (pc := 0) g.1 d_Mo_uses_0 rfl (lv_at hl 0 rfl) ?_
  obtain ⟨v1, s, hc1, h⟩ := oB_of h
  refine ww_callS (pc := 1) (rest := []) g cs_Mo_op (Or.inl kw_53) (ct_Mo_op hc1) ⟨by decide, by decide⟩ rfl hl.1 (Nat.le_of_ble_eq_true rfl) d_Mo_uses_1 rfl ?_
  refine ww_st (st' := [.int v1]) rfl ?_
  refine ww_istore_n (pc := 4) (i := 1) g.1 (lv' := [(1, .int v1), (0, .int l0)]) d_Mo_uses_4 rfl hl (by decide) rfl fun ls hl => ?_
  refine ww_iload_n (pc := 5) g.1 d_Mo_uses_5 rfl (lv_at hl 0 rfl) ?_
  refine ww_bipush (pc := 6) g.1 (v := 36) d_Mo_uses_6 (by decide) ?_
  refine ww_icmp_eq (pc := 8) (tgt := 29) g.1 d_Mo_uses_8 (by decide) h (fun c h => ?_) (fun c h => ?_)
  · exact j_Mo_uses_j29 g hR l0 s ls (lv_sub hl [1] rfl) h
  · refine ww_iload_n (pc := 11) g.1 d_Mo_uses_11 rfl (lv_at hl 0 rfl) ?_
    refine ww_bipush (pc := 12) g.1 (v := 37) d_Mo_uses_12 (by decide) ?_
    refine ww_icmp_eq (pc := 14) (tgt := 29) g.1 d_Mo_uses_14 (by decide) h (fun c h => ?_) (fun c h => ?_)
    · exact j_Mo_uses_j29 g hR l0 s ls (lv_sub hl [1] rfl) h
    · refine ww_iload_n (pc := 17) g.1 d_Mo_uses_17 rfl (lv_at hl 0 rfl) ?_
      refine ww_bipush (pc := 18) g.1 (v := 38) d_Mo_uses_18 (by decide) ?_
      refine ww_icmp_eq (pc := 20) (tgt := 29) g.1 d_Mo_uses_20 (by decide) h (fun c h => ?_) (fun c h => ?_)
      · exact j_Mo_uses_j29 g hR l0 s ls (lv_sub hl [1] rfl) h
      · refine ww_iload_n (pc := 23) g.1 d_Mo_uses_23 rfl (lv_at hl 0 rfl) ?_
        refine ww_bipush (pc := 24) g.1 (v := 43) d_Mo_uses_24 (by decide) ?_
        refine ww_icmp_ne (pc := 26) (tgt := 40) g.1 d_Mo_uses_26 (by decide) h (fun c h => ?_) (fun c h => ?_)
        · exact j_Mo_uses_j40 g hR s ls (lv_sub hl [] rfl) h
        · exact j_Mo_uses_j29 g hR l0 s ls (lv_sub hl [1] rfl) h

abbrev b_Mo_goes : ByteArray := prog_14_method_23_code
def y_Mo_goes : MethodName := ⟨R_Mo, "goes", "(I)Z"⟩
abbrev w_Mo_goes : List Cond := .code y_Mo_goes b_Mo_goes 2 (some .boolean) :: wA
theorem k_Mo_goes : Cond.code y_Mo_goes b_Mo_goes 2 (some .boolean) ∈ wA := kinm (show _ ∈ tables_1 from (List.mem_append_right _ (List.mem_append_right _ (List.mem_append_right _ (List.mem_append_right _ (List.mem_append_right _ (List.mem_append_right _ (List.mem_append_right _ (List.mem_append_right _ (List.mem_append_right _ (List.mem_append_right _ (List.mem_append_left _ (List.mem_of_getElem? (l := tables_1_11) (i := 195) (by decide +kernel)))))))))))))) (by decide +kernel)
theorem d_Mo_goes_0 : decode b_Mo_goes 0 = .ok (.iload_n 1, 1) := by decide +kernel
theorem d_Mo_goes_1 : decode b_Mo_goes 1 = .ok (.ifCond .lt 42, 3) := by decide +kernel
theorem d_Mo_goes_4 : decode b_Mo_goes 4 = .ok (.iload_n 1, 1) := by decide +kernel
theorem d_Mo_goes_5 : decode b_Mo_goes 5 = .ok (.aload_n 0, 1) := by decide +kernel
theorem d_Mo_goes_6 : decode b_Mo_goes 6 = .ok (.getfield 56, 3) := by decide +kernel
theorem d_Mo_goes_9 : decode b_Mo_goes 9 = .ok (.aload_n 0, 1) := by decide +kernel
theorem d_Mo_goes_10 : decode b_Mo_goes 10 = .ok (.getfield 113, 3) := by decide +kernel
theorem d_Mo_goes_13 : decode b_Mo_goes 13 = .ok (.iaload, 1) := by decide +kernel
theorem d_Mo_goes_14 : decode b_Mo_goes 14 = .ok (.if_icmp .ge 29, 3) := by decide +kernel
theorem d_Mo_goes_17 : decode b_Mo_goes 17 = .ok (.aload_n 0, 1) := by decide +kernel
theorem d_Mo_goes_18 : decode b_Mo_goes 18 = .ok (.getfield 71, 3) := by decide +kernel
theorem d_Mo_goes_21 : decode b_Mo_goes 21 = .ok (.aload_n 0, 1) := by decide +kernel
theorem d_Mo_goes_22 : decode b_Mo_goes 22 = .ok (.getfield 53, 3) := by decide +kernel
theorem d_Mo_goes_25 : decode b_Mo_goes 25 = .ok (.aload_n 0, 1) := by decide +kernel
theorem d_Mo_goes_26 : decode b_Mo_goes 26 = .ok (.getfield 113, 3) := by decide +kernel
theorem d_Mo_goes_29 : decode b_Mo_goes 29 = .ok (.iaload, 1) := by decide +kernel
theorem d_Mo_goes_30 : decode b_Mo_goes 30 = .ok (.iload_n 1, 1) := by decide +kernel
theorem d_Mo_goes_31 : decode b_Mo_goes 31 = .ok (.iadd, 1) := by decide +kernel
theorem d_Mo_goes_32 : decode b_Mo_goes 32 = .ok (.iaload, 1) := by decide +kernel
theorem d_Mo_goes_33 : decode b_Mo_goes 33 = .ok (.invokestatic 488, 3) := by decide +kernel
theorem d_Mo_goes_36 : decode b_Mo_goes 36 = .ok (.ifCond .ne 7, 3) := by decide +kernel
theorem d_Mo_goes_39 : decode b_Mo_goes 39 = .ok (.iconst 1, 1) := by decide +kernel
theorem d_Mo_goes_40 : decode b_Mo_goes 40 = .ok (.goto 4, 3) := by decide +kernel
theorem d_Mo_goes_43 : decode b_Mo_goes 43 = .ok (.iconst 0, 1) := by decide +kernel
theorem d_Mo_goes_44 : decode b_Mo_goes 44 = .ok (.ireturn, 1) := by decide +kernel
theorem kw_56 : Cond.fieldLink R_Mo 56 "LuaMachineModel" "codes" "[I" ∈ wA := kinm (show _ ∈ tables_1 from (List.mem_append_right _ (List.mem_append_right _ (List.mem_append_right _ (List.mem_append_right _ (List.mem_append_right _ (List.mem_append_right _ (List.mem_append_right _ (List.mem_append_right _ (List.mem_append_right _ (List.mem_append_left _ (List.mem_of_getElem? (l := tables_1_10) (i := 69) (by decide +kernel))))))))))))) (by decide +kernel)
theorem kw_57 : Cond.fieldLink R_Mo 113 "LuaMachineModel" "of" "I" ∈ wA := kinm (show _ ∈ tables_1 from (List.mem_append_right _ (List.mem_append_right _ (List.mem_append_right _ (List.mem_append_right _ (List.mem_append_right _ (List.mem_append_right _ (List.mem_append_right _ (List.mem_append_right _ (List.mem_append_right _ (List.mem_append_left _ (List.mem_of_getElem? (l := tables_1_10) (i := 86) (by decide +kernel))))))))))))) (by decide +kernel)
theorem kw_58 : Cond.fieldLink R_Mo 71 "LuaMachineModel" "code" "[I" ∈ wA := kinm (show _ ∈ tables_1 from (List.mem_append_right _ (List.mem_append_right _ (List.mem_append_right _ (List.mem_append_right _ (List.mem_append_right _ (List.mem_append_right _ (List.mem_append_right _ (List.mem_append_right _ (List.mem_append_right _ (List.mem_append_left _ (List.mem_of_getElem? (l := tables_1_10) (i := 74) (by decide +kernel))))))))))))) (by decide +kernel)
theorem kw_59 : Cond.fieldLink R_Mo 53 "LuaMachineModel" "codeAt" "[I" ∈ wA := kinm (show _ ∈ tables_1 from (List.mem_append_right _ (List.mem_append_right _ (List.mem_append_right _ (List.mem_append_right _ (List.mem_append_right _ (List.mem_append_right _ (List.mem_append_right _ (List.mem_append_right _ (List.mem_append_right _ (List.mem_append_left _ (List.mem_of_getElem? (l := tables_1_10) (i := 68) (by decide +kernel))))))))))))) (by decide +kernel)
theorem kw_60 : Cond.methodLink R_Mo 488 y_Mo_uses ∈ wA := kinm (show _ ∈ tables_1 from (List.mem_append_right _ (List.mem_append_right _ (List.mem_append_right _ (List.mem_append_right _ (List.mem_append_right _ (List.mem_append_right _ (List.mem_append_right _ (List.mem_append_right _ (List.mem_append_right _ (List.mem_append_right _ (List.mem_append_left _ (List.mem_of_getElem? (l := tables_1_11) (i := 189) (by decide +kernel)))))))))))))) (by decide +kernel)
theorem kw_61 : Cond.instanceMethod y_Mo_goes ∈ wA := kinm (show _ ∈ tables_1 from (List.mem_append_right _ (List.mem_append_right _ (List.mem_append_right _ (List.mem_append_right _ (List.mem_append_right _ (List.mem_append_right _ (List.mem_append_right _ (List.mem_append_right _ (List.mem_append_right _ (List.mem_append_right _ (List.mem_append_left _ (List.mem_of_getElem? (l := tables_1_11) (i := 194) (by decide +kernel)))))))))))))) (by decide +kernel)
theorem kw_62 : Cond.selects R_Mo y_Mo_goes y_Mo_goes ∈ wA := kinp 120 (by decide +kernel) (by decide +kernel)
theorem cv_Mo_goes : CV y_Mo_goes b_Mo_goes 2 (some .boolean) 1 := ⟨kw_61, kw_62, kw_17, k_Mo_goes, by decide +kernel⟩
theorem j_Mo_goes_j43 {X : Cx} {q : PL} (g : Gd X y_Mo_goes b_Mo_goes 2 (some .boolean) 2 41 R_Mo) {o : (Int32) × S1} (hR : Rt X q o.2 (some (.int o.1)))  (s : S1) (ls : Array Slot) (hl : lv_has ls 2 []) (h : M_Mo_goes_j43 s = some o) : WW X q s 43 ls [] := by
  unfold M_Mo_goes_j43 at h
  refine ww_iconst (pc := 43) g.1 (v := 0) d_Mo_goes_43 (by decide) ?_
  exact ww_zretH (pc := 44) g h hR (Or.inl rfl) d_Mo_goes_44

theorem ct_Mo_goes {l : Launch} {P : PP} {q : PL} {s s' : S1} {l1 : Int32} {r : Int32} (h : M_Mo_goes l1 s = some (r, s')) : Ct l y_Mo_goes b_Mo_goes 2 (some .boolean) 2 41 P q s [.ref (q.1 0 0), .int l1] (some (.int r)) q s' := by
  refine ct_of (by decide) (Nat.le_of_ble_eq_true rfl) fun X ls eP el g hR hl => ?_
  subst eP
  have hR : Rt X q ((r, s') : Int32 × S1).2 (some (.int ((r, s') : Int32 × S1).1)) := hR
  have hl : lv_has ls 2 [(0, .ref (q.1 0 0)), (1, .int l1)] := hl
  generalize (r, s') = o at h hR
  unfold M_Mo_goes at h
  refine ww_iload_n (pc := 0) g.1 d_Mo_goes_0 rfl (lv_at hl 1 rfl) ?_
  refine ww_if_lt (pc := 1) (tgt := 43) g.1 d_Mo_goes_1 (by decide) h (fun c h => ?_) (fun c h => ?_)
  · exact j_Mo_goes_j43 g hR s ls (lv_sub hl [] rfl) h
  · refine ww_iload_n (pc := 4) g.1 d_Mo_goes_4 rfl (lv_at hl 1 rfl) ?_
    refine ww_aload_n (pc := 5) g.1 d_Mo_goes_5 rfl (lv_at hl 0 rfl) ?_
    refine ww_gR (pc := 6) g (k := 14) cl_Mo (pz rfl (by decide)) (by decide) (Or.inl kw_56) (f := 14) (t := 50) rfl rfl rfl d_Mo_goes_6 ?_
    refine ww_aload_n (pc := 9) g.1 d_Mo_goes_9 rfl (lv_at hl 0 rfl) ?_
    refine ww_gI (pc := 10) g (k := 31) cl_Mo (pz rfl (by decide)) (by decide) (Or.inl kw_57) (f := 31) rfl rfl d_Mo_goes_10 h fun v10 h => ?_
    refine ww_ai (pc := 13) g (pz rfl (by decide)) rfl rfl d_Mo_goes_13 h fun v13 h => ?_
    refine ww_icmp_ge (pc := 14) (tgt := 43) g.1 d_Mo_goes_14 (by decide) h (fun c h => ?_) (fun c h => ?_)
    · exact j_Mo_goes_j43 g hR s ls (lv_sub hl [] rfl) h
    · refine ww_aload_n (pc := 17) g.1 d_Mo_goes_17 rfl (lv_at hl 0 rfl) ?_
      refine ww_gR (pc := 18) g (k := 19) cl_Mo (pz rfl (by decide)) (by decide) (Or.inl kw_58) (f := 19) (t := 55) rfl rfl rfl d_Mo_goes_18 ?_
      refine ww_aload_n (pc := 21) g.1 d_Mo_goes_21 rfl (lv_at hl 0 rfl) ?_
      refine ww_gR (pc := 22) g (k := 13) cl_Mo (pz rfl (by decide)) (by decide) (Or.inl kw_59) (f := 13) (t := 49) rfl rfl rfl d_Mo_goes_22 ?_
      refine ww_aload_n (pc := 25) g.1 d_Mo_goes_25 rfl (lv_at hl 0 rfl) ?_
      refine ww_gI (pc := 26) g (k := 31) cl_Mo (pz rfl (by decide)) (by decide) (Or.inl kw_57) (f := 31) rfl rfl d_Mo_goes_26 h fun v26 h => ?_
      refine ww_ai (pc := 29) g (pz rfl (by decide)) rfl rfl d_Mo_goes_29 h fun v29 h => ?_
      refine ww_iload_n (pc := 30) g.1 d_Mo_goes_30 rfl (lv_at hl 1 rfl) ?_
      refine ww_iadd (pc := 31) g.1 d_Mo_goes_31 ?_
      refine ww_ai (pc := 32) g (pz rfl (by decide)) rfl rfl d_Mo_goes_32 h fun v32 h => ?_
      obtain ⟨v33, s, hc33, h⟩ := oB_of h
      refine ww_callS (pc := 33) (rest := []) g cs_Mo_uses (Or.inl kw_60) (ct_Mo_uses hc33) ⟨by decide, by decide⟩ rfl hl.1 (Nat.le_of_ble_eq_true rfl) d_Mo_goes_33 rfl ?_
      refine ww_st (st' := [.int v33]) rfl ?_
      refine ww_if_ne (pc := 36) (tgt := 43) g.1 d_Mo_goes_36 (by decide) h (fun c h => ?_) (fun c h => ?_)
      · exact j_Mo_goes_j43 g hR s ls (lv_sub hl [] rfl) h
      · refine ww_iconst (pc := 39) g.1 (v := 1) d_Mo_goes_39 (by decide) ?_
        refine ww_goto (pc := 40) (tgt := 44) g.1 d_Mo_goes_40 (by decide) ?_
        exact ww_zretH (pc := 44) g h hR (Or.inr rfl) d_Mo_goes_44


