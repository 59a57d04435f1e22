abbrev b_Mth_max : ByteArray := prog_25_method_65_code
def y_Mth_max : MethodName := ⟨R_Mth, "max", "(II)I"⟩
abbrev w_Mth_max : List Cond := .code y_Mth_max b_Mth_max 2 (some .int) :: wA
theorem k_Mth_max : Cond.code y_Mth_max b_Mth_max 2 (some .int) ∈ wA := kinm (show _ ∈ tables_1 from (List.mem_append_right _ (List.mem_append_right _ (List.mem_append_right _ (List.mem_append_left _ (List.mem_of_getElem? (l := tables_1_4) (i := 35) (by decide +kernel))))))) (by decide +kernel)
theorem d_Mth_max_0 : decode b_Mth_max 0 = .ok (.iload_n 0, 1) := by decide +kernel
theorem d_Mth_max_1 : decode b_Mth_max 1 = .ok (.iload_n 1, 1) := by decide +kernel
theorem d_Mth_max_2 : decode b_Mth_max 2 = .ok (.if_icmp .lt 7, 3) := by decide +kernel
theorem d_Mth_max_5 : decode b_Mth_max 5 = .ok (.iload_n 0, 1) := by decide +kernel
theorem d_Mth_max_6 : decode b_Mth_max 6 = .ok (.goto 4, 3) := by decide +kernel
theorem d_Mth_max_9 : decode b_Mth_max 9 = .ok (.iload_n 1, 1) := by decide +kernel
theorem d_Mth_max_10 : decode b_Mth_max 10 = .ok (.ireturn, 1) := by decide +kernel
theorem kw_0 : Cond.static y_Mth_max ∈ wA := kinm (show _ ∈ tables_1 from (List.mem_append_right _ (List.mem_append_right _ (List.mem_append_right _ (List.mem_append_left _ (List.mem_of_getElem? (l := tables_1_4) (i := 34) (by decide +kernel))))))) (by decide +kernel)
theorem kw_1 : Cond.initialized R_Mth ∈ wA := kinm (show _ ∈ tables_1 from (List.mem_append_left _ (List.mem_of_getElem? (l := tables_1_1) (i := 22) (by decide +kernel)))) (by decide +kernel)
theorem cs_Mth_max : CS y_Mth_max b_Mth_max 2 (some .int) 2 := ⟨kw_0, kw_1, k_Mth_max, by decide +kernel⟩
theorem ct_Mth_max {l : Launch} {P : PP} {q : PL} {s s' : S1} {l0 : Int32} {l1 : Int32} {r : Int32} (h : M_Mth_max l0 l1 s = some (r, s')) : Ct l y_Mth_max b_Mth_max 2 (some .int) 0 0 P q s [.int l0, .int l1] (some (.int r)) q s' := by
  refine ct_ofF (by decide +kernel) (Nat.le_of_ble_eq_true rfl) fun X ls eP el g hR hl => ?_
  subst eP
  have hR : Rt X q ((r, s') : Int32 × S1).2 (some (.int ((r, s') : Int32 × S1).1)) := hR
  have hl : lv_has ls 2 [(0, .int l0), (1, .int l1)] := hl
  generalize (r, s') = o at h hR
  unfold M_Mth_max at h
  refine ww_iload_n (pc := 0) g.1 d_Mth_max_0 rfl (lv_at hl 0 rfl) ?_
  refine ww_iload_n (pc := 1) g.1 d_Mth_max_1 rfl (lv_at hl 1 rfl) ?_
  refine ww_icmp_lt (pc := 2) (tgt := 9) g.1 d_Mth_max_2 (by decide) h (fun c h => ?_) (fun c h => ?_)
  · refine ww_iload_n (pc := 9) g.1 d_Mth_max_9 rfl (lv_at hl 1 rfl) ?_
    exact ww_iretH (pc := 10) g h hR d_Mth_max_10
  · refine ww_iload_n (pc := 5) g.1 d_Mth_max_5 rfl (lv_at hl 0 rfl) ?_
    refine ww_goto (pc := 6) (tgt := 10) g.1 d_Mth_max_6 (by decide) ?_
    exact ww_iretH (pc := 10) g h hR d_Mth_max_10

abbrev b_Arr_rangeCheck : ByteArray := prog_34_method_30_code
def y_Arr_rangeCheck : MethodName := ⟨R_Arr, "rangeCheck", "(III)V"⟩
abbrev w_Arr_rangeCheck : List Cond := .code y_Arr_rangeCheck b_Arr_rangeCheck 3 none :: wA
theorem k_Arr_rangeCheck : Cond.code y_Arr_rangeCheck b_Arr_rangeCheck 3 none ∈ wA := kinm (show _ ∈ tables_1 from (List.mem_append_right _ (List.mem_append_right _ (List.mem_append_right _ (List.mem_append_left _ (List.mem_of_getElem? (l := tables_1_4) (i := 83) (by decide +kernel))))))) (by decide +kernel)
theorem d_Arr_rangeCheck_0 : decode b_Arr_rangeCheck 0 = .ok (.iload_n 1, 1) := by decide +kernel
theorem d_Arr_rangeCheck_1 : decode b_Arr_rangeCheck 1 = .ok (.iload_n 2, 1) := by decide +kernel
theorem d_Arr_rangeCheck_2 : decode b_Arr_rangeCheck 2 = .ok (.if_icmp .le 44, 3) := by decide +kernel
theorem d_Arr_rangeCheck_5 : decode b_Arr_rangeCheck 5 = .ok (.new 43, 3) := by decide +kernel
theorem d_Arr_rangeCheck_8 : decode b_Arr_rangeCheck 8 = .ok (.dup, 1) := by decide +kernel
theorem d_Arr_rangeCheck_9 : decode b_Arr_rangeCheck 9 = .ok (.new 45, 3) := by decide +kernel
theorem d_Arr_rangeCheck_12 : decode b_Arr_rangeCheck 12 = .ok (.dup, 1) := by decide +kernel
theorem d_Arr_rangeCheck_13 : decode b_Arr_rangeCheck 13 = .ok (.invokespecial 47, 3) := by decide +kernel
theorem d_Arr_rangeCheck_16 : decode b_Arr_rangeCheck 16 = .ok (.ldc 48, 2) := by decide +kernel
theorem d_Arr_rangeCheck_18 : decode b_Arr_rangeCheck 18 = .ok (.invokevirtual 50, 3) := by decide +kernel
theorem d_Arr_rangeCheck_21 : decode b_Arr_rangeCheck 21 = .ok (.iload_n 1, 1) := by decide +kernel
theorem d_Arr_rangeCheck_22 : decode b_Arr_rangeCheck 22 = .ok (.invokevirtual 54, 3) := by decide +kernel
theorem d_Arr_rangeCheck_25 : decode b_Arr_rangeCheck 25 = .ok (.ldc 57, 2) := by decide +kernel
theorem d_Arr_rangeCheck_27 : decode b_Arr_rangeCheck 27 = .ok (.invokevirtual 50, 3) := by decide +kernel
theorem d_Arr_rangeCheck_30 : decode b_Arr_rangeCheck 30 = .ok (.iload_n 2, 1) := by decide +kernel
theorem d_Arr_rangeCheck_31 : decode b_Arr_rangeCheck 31 = .ok (.invokevirtual 54, 3) := by decide +kernel
theorem d_Arr_rangeCheck_34 : decode b_Arr_rangeCheck 34 = .ok (.ldc 59, 2) := by decide +kernel
theorem d_Arr_rangeCheck_36 : decode b_Arr_rangeCheck 36 = .ok (.invokevirtual 50, 3) := by decide +kernel
theorem d_Arr_rangeCheck_39 : decode b_Arr_rangeCheck 39 = .ok (.invokevirtual 61, 3) := by decide +kernel
theorem d_Arr_rangeCheck_42 : decode b_Arr_rangeCheck 42 = .ok (.invokespecial 65, 3) := by decide +kernel
theorem d_Arr_rangeCheck_45 : decode b_Arr_rangeCheck 45 = .ok (.athrow, 1) := by decide +kernel
theorem d_Arr_rangeCheck_46 : decode b_Arr_rangeCheck 46 = .ok (.iload_n 1, 1) := by decide +kernel
theorem d_Arr_rangeCheck_47 : decode b_Arr_rangeCheck 47 = .ok (.ifCond .ge 12, 3) := by decide +kernel
theorem d_Arr_rangeCheck_50 : decode b_Arr_rangeCheck 50 = .ok (.new 68, 3) := by decide +kernel
theorem d_Arr_rangeCheck_53 : decode b_Arr_rangeCheck 53 = .ok (.dup, 1) := by decide +kernel
theorem d_Arr_rangeCheck_54 : decode b_Arr_rangeCheck 54 = .ok (.iload_n 1, 1) := by decide +kernel
theorem d_Arr_rangeCheck_55 : decode b_Arr_rangeCheck 55 = .ok (.invokespecial 70, 3) := by decide +kernel
theorem d_Arr_rangeCheck_58 : decode b_Arr_rangeCheck 58 = .ok (.athrow, 1) := by decide +kernel
theorem d_Arr_rangeCheck_59 : decode b_Arr_rangeCheck 59 = .ok (.iload_n 2, 1) := by decide +kernel
theorem d_Arr_rangeCheck_60 : decode b_Arr_rangeCheck 60 = .ok (.iload_n 0, 1) := by decide +kernel
theorem d_Arr_rangeCheck_61 : decode b_Arr_rangeCheck 61 = .ok (.if_icmp .le 12, 3) := by decide +kernel
theorem d_Arr_rangeCheck_64 : decode b_Arr_rangeCheck 64 = .ok (.new 68, 3) := by decide +kernel
theorem d_Arr_rangeCheck_67 : decode b_Arr_rangeCheck 67 = .ok (.dup, 1) := by decide +kernel
theorem d_Arr_rangeCheck_68 : decode b_Arr_rangeCheck 68 = .ok (.iload_n 2, 1) := by decide +kernel
theorem d_Arr_rangeCheck_69 : decode b_Arr_rangeCheck 69 = .ok (.invokespecial 70, 3) := by decide +kernel
theorem d_Arr_rangeCheck_72 : decode b_Arr_rangeCheck 72 = .ok (.athrow, 1) := by decide +kernel
theorem d_Arr_rangeCheck_73 : decode b_Arr_rangeCheck 73 = .ok (.return_, 1) := by decide +kernel
theorem kw_2 : Cond.static y_Arr_rangeCheck ∈ wA := kinm (show _ ∈ tables_1 from (List.mem_append_right _ (List.mem_append_right _ (List.mem_append_right _ (List.mem_append_left _ (List.mem_of_getElem? (l := tables_1_4) (i := 82) (by decide +kernel))))))) (by decide +kernel)
theorem kw_3 : Cond.initialized R_Arr ∈ wA := kinm (show _ ∈ tables_1 from (List.mem_append_left _ (List.mem_of_getElem? (l := tables_1_1) (i := 24) (by decide +kernel)))) (by decide +kernel)
theorem cs_Arr_rangeCheck : CS y_Arr_rangeCheck b_Arr_rangeCheck 3 none 3 := ⟨kw_2, kw_3, k_Arr_rangeCheck, by decide +kernel⟩
theorem ct_Arr_rangeCheck {l : Launch} {P : PP} {q : PL} {s s' : S1} {l0 : Int32} {l1 : Int32} {l2 : Int32} {r : Unit} (h : M_Arr_rangeCheck l0 l1 l2 s = some (r, s')) : Ct l y_Arr_rangeCheck b_Arr_rangeCheck 3 none 0 0 P q s [.int l0, .int l1, .int l2] none q s' := by
  refine ct_ofF (by decide +kernel) (Nat.le_of_ble_eq_true rfl) fun X ls eP el g hR hl => ?_
  subst eP
  have hR : Rt X q ((r, s') : Unit × S1).2 none := hR
  have hl : lv_has ls 3 [(0, .int l0), (1, .int l1), (2, .int l2)] := hl
  generalize (r, s') = o at h hR
  unfold M_Arr_rangeCheck at h
  refine ww_iload_n (pc := 0) g.1 d_Arr_rangeCheck_0 rfl (lv_at hl 1 rfl) ?_
  refine ww_iload_n (pc := 1) g.1 d_Arr_rangeCheck_1 rfl (lv_at hl 2 rfl) ?_
  refine ww_icmp_le (pc := 2) (tgt := 46) g.1 d_Arr_rangeCheck_2 (by decide) h (fun c h => ?_) (fun c h => ?_)
  · refine ww_iload_n (pc := 46) g.1 d_Arr_rangeCheck_46 rfl (lv_at hl 1 rfl) ?_
    refine ww_if_ge (pc := 47) (tgt := 59) g.1 d_Arr_rangeCheck_47 (by decide) h (fun c h => ?_) (fun c h => ?_)
    · refine ww_iload_n (pc := 59) g.1 d_Arr_rangeCheck_59 rfl (lv_at hl 2 rfl) ?_
      refine ww_iload_n (pc := 60) g.1 d_Arr_rangeCheck_60 rfl (lv_at hl 0 rfl) ?_
      refine ww_icmp_le (pc := 61) (tgt := 73) g.1 d_Arr_rangeCheck_61 (by decide) h (fun c h => ?_) (fun c h => ?_)
      · exact ww_vretH (pc := 73) g h hR d_Arr_rangeCheck_73
      · exact (oF_no h).elim
    · exact (oF_no h).elim
  · exact (oF_no h).elim

abbrev b_Mth_min : ByteArray := prog_25_method_69_code
def y_Mth_min : MethodName := ⟨R_Mth, "min", "(II)I"⟩
abbrev w_Mth_min : List Cond := .code y_Mth_min b_Mth_min 2 (some .int) :: wA
theorem k_Mth_min : Cond.code y_Mth_min b_Mth_min 2 (some .int) ∈ wA := kinm (show _ ∈ tables_1 from (List.mem_append_right _ (List.mem_append_right _ (List.mem_append_right _ (List.mem_append_left _ (List.mem_of_getElem? (l := tables_1_4) (i := 156) (by decide +kernel))))))) (by decide +kernel)
theorem d_Mth_min_0 : decode b_Mth_min 0 = .ok (.iload_n 0, 1) := by decide +kernel
theorem d_Mth_min_1 : decode b_Mth_min 1 = .ok (.iload_n 1, 1) := by decide +kernel
theorem d_Mth_min_2 : decode b_Mth_min 2 = .ok (.if_icmp .gt 7, 3) := by decide +kernel
theorem d_Mth_min_5 : decode b_Mth_min 5 = .ok (.iload_n 0, 1) := by decide +kernel
theorem d_Mth_min_6 : decode b_Mth_min 6 = .ok (.goto 4, 3) := by decide +kernel
theorem d_Mth_min_9 : decode b_Mth_min 9 = .ok (.iload_n 1, 1) := by decide +kernel
theorem d_Mth_min_10 : decode b_Mth_min 10 = .ok (.ireturn, 1) := by decide +kernel
theorem kw_4 : Cond.static y_Mth_min ∈ wA := kinm (show _ ∈ tables_1 from (List.mem_append_right _ (List.mem_append_right _ (List.mem_append_right _ (List.mem_append_left _ (List.mem_of_getElem? (l := tables_1_4) (i := 155) (by decide +kernel))))))) (by decide +kernel)
theorem cs_Mth_min : CS y_Mth_min b_Mth_min 2 (some .int) 2 := ⟨kw_4, kw_1, k_Mth_min, by decide +kernel⟩
theorem ct_Mth_min {l : Launch} {P : PP} {q : PL} {s s' : S1} {l0 : Int32} {l1 : Int32} {r : Int32} (h : M_Mth_min l0 l1 s = some (r, s')) : Ct l y_Mth_min b_Mth_min 2 (some .int) 0 0 P q s [.int l0, .int l1] (some (.int r)) q s' := by
  refine ct_ofF (by decide +kernel) (Nat.le_of_ble_eq_true rfl) fun X ls eP el g hR hl => ?_
  subst eP
  have hR : Rt X q ((r, s') : Int32 × S1).2 (some (.int ((r, s') : Int32 × S1).1)) := hR
  have hl : lv_has ls 2 [(0, .int l0), (1, .int l1)] := hl
  generalize (r, s') = o at h hR
  unfold M_Mth_min at h
  refine ww_iload_n (pc := 0) g.1 d_Mth_min_0 rfl (lv_at hl 0 rfl) ?_
  refine ww_iload_n (pc := 1) g.1 d_Mth_min_1 rfl (lv_at hl 1 rfl) ?_
  refine ww_icmp_gt (pc := 2) (tgt := 9) g.1 d_Mth_min_2 (by decide) h (fun c h => ?_) (fun c h => ?_)
  · refine ww_iload_n (pc := 9) g.1 d_Mth_min_9 rfl (lv_at hl 1 rfl) ?_
    exact ww_iretH (pc := 10) g h hR d_Mth_min_10
  · refine ww_iload_n (pc := 5) g.1 d_Mth_min_5 rfl (lv_at hl 0 rfl) ?_
    refine ww_goto (pc := 6) (tgt := 10) g.1 d_Mth_min_6 (by decide) ?_
    exact ww_iretH (pc := 10) g h hR d_Mth_min_10

abbrev b_Arr_fill : ByteArray := prog_34_method_103_code
def y_Arr_fill : MethodName := ⟨R_Arr, "fill", "([II)V"⟩
abbrev w_Arr_fill : List Cond := .code y_Arr_fill b_Arr_fill 4 none :: wA
theorem k_Arr_fill : Cond.code y_Arr_fill b_Arr_fill 4 none ∈ wA := kinm (show _ ∈ tables_1 from (List.mem_append_right _ (List.mem_append_right _ (List.mem_append_right _ (List.mem_append_right _ (List.mem_append_left _ (List.mem_of_getElem? (l := tables_1_5) (i := 103) (by decide +kernel)))))))) (by decide +kernel)
theorem d_Arr_fill_0 : decode b_Arr_fill 0 = .ok (.iconst 0, 1) := by decide +kernel
theorem d_Arr_fill_1 : decode b_Arr_fill 1 = .ok (.istore_n 2, 1) := by decide +kernel
theorem d_Arr_fill_2 : decode b_Arr_fill 2 = .ok (.aload_n 0, 1) := by decide +kernel
theorem d_Arr_fill_3 : decode b_Arr_fill 3 = .ok (.arraylength, 1) := by decide +kernel
theorem d_Arr_fill_4 : decode b_Arr_fill 4 = .ok (.istore_n 3, 1) := by decide +kernel
theorem d_Arr_fill_5 : decode b_Arr_fill 5 = .ok (.iload_n 2, 1) := by decide +kernel
theorem d_Arr_fill_6 : decode b_Arr_fill 6 = .ok (.iload_n 3, 1) := by decide +kernel
theorem d_Arr_fill_7 : decode b_Arr_fill 7 = .ok (.if_icmp .ge 13, 3) := by decide +kernel
theorem d_Arr_fill_10 : decode b_Arr_fill 10 = .ok (.aload_n 0, 1) := by decide +kernel
theorem d_Arr_fill_11 : decode b_Arr_fill 11 = .ok (.iload_n 2, 1) := by decide +kernel
theorem d_Arr_fill_12 : decode b_Arr_fill 12 = .ok (.iload_n 1, 1) := by decide +kernel
theorem d_Arr_fill_13 : decode b_Arr_fill 13 = .ok (.iastore, 1) := by decide +kernel
theorem d_Arr_fill_14 : decode b_Arr_fill 14 = .ok (.iinc 2 1, 3) := by decide +kernel
theorem d_Arr_fill_17 : decode b_Arr_fill 17 = .ok (.goto (-12), 3) := by decide +kernel
theorem d_Arr_fill_20 : decode b_Arr_fill 20 = .ok (.return_, 1) := by decide +kernel
theorem kw_5 : Cond.static y_Arr_fill ∈ wA := kinm (show _ ∈ tables_1 from (List.mem_append_right _ (List.mem_append_right _ (List.mem_append_right _ (List.mem_append_right _ (List.mem_append_left _ (List.mem_of_getElem? (l := tables_1_5) (i := 102) (by decide +kernel)))))))) (by decide +kernel)
theorem cs_Arr_fill : CS y_Arr_fill b_Arr_fill 4 none 2 := ⟨kw_5, kw_3, k_Arr_fill, by decide +kernel⟩
theorem lp_Arr_fill_L5 {X : Cx} {q : PL} (g : Gd X y_Arr_fill b_Arr_fill 4 none 0 0 R_Arr) (x : Nat × Int32 × Int32 × Int32 × Int32) (s : S1) (o : ((Nat × Int32 × Int32 × Int32 × Int32) ⊕ ((Unit))) × S1) (h : M_Arr_fill_L5 x s = some o) (hR : (Sum.elim (fun y : Nat × Int32 × Int32 × Int32 × Int32 => ∀ ls : Array Slot, (AK 1 y.1) → (prs o.2 y.1 y.2.1) → lv_has ls 4 [(0, .ref (q.1 y.1 y.2.1)), (1, .int y.2.2.1), (2, .int y.2.2.2.1), (3, .int y.2.2.2.2)] → WW X q o.2 5 ls []) (fun y : Unit => ∀ ls : Array Slot, lv_has ls 4 [] → WW X q o.2 20 ls []) o.1)) : ∀ ls : Array Slot, (AK 1 x.1) → (prs s x.1 x.2.1) → lv_has ls 4 [(0, .ref (q.1 x.1 x.2.1)), (1, .int x.2.2.1), (2, .int x.2.2.2.1), (3, .int x.2.2.2.2)] → WW X q s 5 ls [] := by
  intro ls hp0 hp1 hl
  unfold M_Arr_fill_L5 at h
  refine ww_iload_n (pc := 5) g.1 d_Arr_fill_5 rfl (lv_at hl 2 rfl) ?_
  refine ww_iload_n (pc := 6) g.1 d_Arr_fill_6 rfl (lv_at hl 3 rfl) ?_
  refine ww_icmp_ge (pc := 7) (tgt := 20) g.1 d_Arr_fill_7 (by decide) h (fun c h => ?_) (fun c h => ?_)
  · rw [oR_eq h] at hR
    exact hR ls (lv_sub hl [] rfl)
  · refine ww_aload_n (pc := 10) g.1 d_Arr_fill_10 rfl (lv_at hl 0 rfl) ?_
    refine ww_iload_n (pc := 11) g.1 d_Arr_fill_11 rfl (lv_at hl 2 rfl) ?_
    refine ww_iload_n (pc := 12) g.1 d_Arr_fill_12 rfl (lv_at hl 1 rfl) ?_
    refine ww_si (pc := 13) g hp1 hp0.1 (ak_n hp0) d_Arr_fill_13 h fun s hs h => ?_
    have hp1 : prs s x.1 x.2.1 := hs ▸ hp1
    refine ww_iinc (pc := 14) g.1 (v := x.2.2.2.1 + 1) (lv' := [(2, .int (x.2.2.2.1 + 1)), (0, .ref (q.1 x.1 x.2.1)), (1, .int x.2.2.1), (3, .int x.2.2.2.2)]) d_Arr_fill_14 hl (k := 2) rfl (by rfl) (by decide) rfl fun ls hl => ?_
    refine ww_goto (pc := 17) (tgt := 5) g.1 d_Arr_fill_17 (by decide) ?_
    rw [oR_eq h] at hR
    exact hR ls hp0 hp1 (lv_sub hl [1, 2, 0, 3] rfl)

theorem ct_Arr_fill {l : Launch} {P : PP} {q : PL} {s s' : S1} {l0r : Nat} {l0 : Int32} {l1 : Int32} (hp0 : AK 1 l0r) (hp1 : prs s l0r l0) {r : Unit} (h : M_Arr_fill l0r l0 l1 s = some (r, s')) : Ct l y_Arr_fill b_Arr_fill 4 none 0 0 P q s [.ref (q.1 l0r l0), .int l1] none q s' := by
  refine ct_ofF (by decide +kernel) (Nat.le_of_ble_eq_true rfl) fun X ls eP el g hR hl => ?_
  subst eP
  have hR : Rt X q ((r, s') : Unit × S1).2 none := hR
  have hl : lv_has ls 4 [(0, .ref (q.1 l0r l0)), (1, .int l1)] := hl
  generalize (r, s') = o at h hR
  unfold M_Arr_fill at h
  refine ww_iconst (pc := 0) g.1 (v := 0) d_Arr_fill_0 (by decide) ?_
  refine ww_istore_n (pc := 1) (i := 2) g.1 (lv' := [(2, .int 0), (0, .ref (q.1 l0r l0)), (1, .int l1)]) d_Arr_fill_1 rfl hl (by decide) rfl fun ls hl => ?_
  refine ww_aload_n (pc := 2) g.1 d_Arr_fill_2 rfl (lv_at hl 1 rfl) ?_
  refine ww_alen (pc := 3) g (n := lnI l0r) hp1 (ak_k hp0) (ak_m hp0) d_Arr_fill_3 ?_
  refine ww_leti h fun l3_4 h => ?_
  refine ww_istore_n (pc := 4) (i := 3) g.1 (lv' := [(3, .int l3_4), (2, .int 0), (0, .ref (q.1 l0r l0)), (1, .int l1)]) d_Arr_fill_4 rfl hl (by decide) rfl fun ls hl => ?_
  obtain ⟨e5, s1, hw, h⟩ := oB_of h
  refine oW_rule (Wh := fun (x : Nat × Int32 × Int32 × Int32 × Int32) (s : S1) => ∀ ls : Array Slot, (AK 1 x.1) → (prs s x.1 x.2.1) → lv_has ls 4 [(0, .ref (q.1 x.1 x.2.1)), (1, .int x.2.2.1), (2, .int x.2.2.2.1), (3, .int x.2.2.2.2)] → WW X q s 5 ls []) (We := fun (e : (Unit)) (s : S1) => ∀ ls : Array Slot, lv_has ls 4 [] → WW X q s 20 ls []) (fun x s o hb hc => lp_Arr_fill_L5 (q := q) g x s o hb hc) hw ?_ ls hp0 hp1 (lv_sub hl [2, 3, 1, 0] rfl)
  clear hw hl
  clear ls
  intro ls hl
  generalize s1 = s at h ⊢
  exact ww_vretH (pc := 20) g h hR d_Arr_fill_20

abbrev b_Arr_fill_ : ByteArray := prog_34_method_110_code
def y_Arr_fill_ : MethodName := ⟨R_Arr, "fill", "([BIIB)V"⟩
abbrev w_Arr_fill_ : List Cond := .code y_Arr_fill_ b_Arr_fill_ 5 none :: wA
theorem k_Arr_fill_ : Cond.code y_Arr_fill_ b_Arr_fill_ 5 none ∈ wA := kinm (show _ ∈ tables_1 from (List.mem_append_right _ (List.mem_append_right _ (List.mem_append_right _ (List.mem_append_right _ (List.mem_append_right _ (List.mem_append_left _ (List.mem_of_getElem? (l := tables_1_6) (i := 233) (by decide +kernel))))))))) (by decide +kernel)
theorem d_Arr_fill__0 : decode b_Arr_fill_ 0 = .ok (.aload_n 0, 1) := by decide +kernel
theorem d_Arr_fill__1 : decode b_Arr_fill_ 1 = .ok (.arraylength, 1) := by decide +kernel
theorem d_Arr_fill__2 : decode b_Arr_fill_ 2 = .ok (.iload_n 1, 1) := by decide +kernel
theorem d_Arr_fill__3 : decode b_Arr_fill_ 3 = .ok (.iload_n 2, 1) := by decide +kernel
theorem d_Arr_fill__4 : decode b_Arr_fill_ 4 = .ok (.invokestatic 13, 3) := by decide +kernel
theorem d_Arr_fill__7 : decode b_Arr_fill_ 7 = .ok (.iload_n 1, 1) := by decide +kernel
theorem d_Arr_fill__8 : decode b_Arr_fill_ 8 = .ok (.istore 4, 2) := by decide +kernel
theorem d_Arr_fill__10 : decode b_Arr_fill_ 10 = .ok (.iload 4, 2) := by decide +kernel
theorem d_Arr_fill__12 : decode b_Arr_fill_ 12 = .ok (.iload_n 2, 1) := by decide +kernel
theorem d_Arr_fill__13 : decode b_Arr_fill_ 13 = .ok (.if_icmp .ge 14, 3) := by decide +kernel
theorem d_Arr_fill__16 : decode b_Arr_fill_ 16 = .ok (.aload_n 0, 1) := by decide +kernel
theorem d_Arr_fill__17 : decode b_Arr_fill_ 17 = .ok (.iload 4, 2) := by decide +kernel
theorem d_Arr_fill__19 : decode b_Arr_fill_ 19 = .ok (.iload_n 3, 1) := by decide +kernel
theorem d_Arr_fill__20 : decode b_Arr_fill_ 20 = .ok (.bastore, 1) := by decide +kernel
theorem d_Arr_fill__21 : decode b_Arr_fill_ 21 = .ok (.iinc 4 1, 3) := by decide +kernel
theorem d_Arr_fill__24 : decode b_Arr_fill_ 24 = .ok (.goto (-14), 3) := by decide +kernel
theorem d_Arr_fill__27 : decode b_Arr_fill_ 27 = .ok (.return_, 1) := by decide +kernel
theorem kw_6 : Cond.methodLink R_Arr 13 y_Arr_rangeCheck ∈ wA := kinm (show _ ∈ tables_1 from (List.mem_append_right _ (List.mem_append_right _ (List.mem_append_right _ (List.mem_append_left _ (List.mem_of_getElem? (l := tables_1_4) (i := 81) (by decide +kernel))))))) (by decide +kernel)
theorem kw_7 : Cond.static y_Arr_fill_ ∈ wA := kinm (show _ ∈ tables_1 from (List.mem_append_right _ (List.mem_append_right _ (List.mem_append_right _ (List.mem_append_right _ (List.mem_append_right _ (List.mem_append_left _ (List.mem_of_getElem? (l := tables_1_6) (i := 232) (by decide +kernel))))))))) (by decide +kernel)
theorem cs_Arr_fill_ : CS y_Arr_fill_ b_Arr_fill_ 5 none 4 := ⟨kw_7, kw_3, k_Arr_fill_, by decide +kernel⟩
theorem lp_Arr_fill__L10 {X : Cx} {q : PL} (g : Gd X y_Arr_fill_ b_Arr_fill_ 5 none 1 22 R_Arr) (x : Nat × Int32 × Int32 × Int32 × Int32) (s : S1) (o : ((Nat × Int32 × Int32 × Int32 × Int32) ⊕ ((Unit))) × S1) (h : M_Arr_fill__L10 x s = some o) (hR : (Sum.elim (fun y : Nat × Int32 × Int32 × Int32 × Int32 => ∀ ls : Array Slot, (AK 2 y.1) → (prs o.2 y.1 y.2.1) → lv_has ls 5 [(0, .ref (q.1 y.1 y.2.1)), (2, .int y.2.2.1), (3, .int y.2.2.2.1), (4, .int y.2.2.2.2)] → WW X q o.2 10 ls []) (fun y : Unit => ∀ ls : Array Slot, lv_has ls 5 [] → WW X q o.2 27 ls []) o.1)) : ∀ ls : Array Slot, (AK 2 x.1) → (prs s x.1 x.2.1) → lv_has ls 5 [(0, .ref (q.1 x.1 x.2.1)), (2, .int x.2.2.1), (3, .int x.2.2.2.1), (4, .int x.2.2.2.2)] → WW X q s 10 ls [] := by
  intro ls hp0 hp1 hl
  unfold M_Arr_fill__L10 at h
  refine ww_iload (pc := 10) g.1 d_Arr_fill__10 (lv_at hl 3 rfl) ?_
  refine ww_iload_n (pc := 12) g.1 d_Arr_fill__12 rfl (lv_at hl 1 rfl) ?_
  refine ww_icmp_ge (pc := 13) (tgt := 27) g.1 d_Arr_fill__13 (by decide) h (fun c h => ?_) (fun c h => ?_)
  · rw [oR_eq h] at hR
    exact hR ls (lv_sub hl [] rfl)
  · refine ww_aload_n (pc := 16) g.1 d_Arr_fill__16 rfl (lv_at hl 0 rfl) ?_
    refine ww_iload (pc := 17) g.1 d_Arr_fill__17 (lv_at hl 3 rfl) ?_
    refine ww_iload_n (pc := 19) g.1 d_Arr_fill__19 rfl (lv_at hl 2 rfl) ?_
    refine ww_sb (pc := 20) g hp1 hp0.1 (ak_n hp0) d_Arr_fill__20 h fun s hs h => ?_
    have hp1 : prs s x.1 x.2.1 := hs ▸ hp1
    refine ww_iinc (pc := 21) g.1 (v := x.2.2.2.2 + 1) (lv' := [(4, .int (x.2.2.2.2 + 1)), (0, .ref (q.1 x.1 x.2.1)), (2, .int x.2.2.1), (3, .int x.2.2.2.1)]) d_Arr_fill__21 hl (k := 3) rfl (by rfl) (by decide) rfl fun ls hl => ?_
    refine ww_goto (pc := 24) (tgt := 10) g.1 d_Arr_fill__24 (by decide) ?_
    rw [oR_eq h] at hR
    exact hR ls hp0 hp1 (lv_sub hl [1, 2, 3, 0] rfl)

theorem ct_Arr_fill_ {l : Launch} {P : PP} {q : PL} {s s' : S1} {l0r : Nat} {l0 : Int32} {l1 : Int32} {l2 : Int32} {l3 : Int32} (hp0 : AK 2 l0r) (hp1 : prs s l0r l0) {r : Unit} (h : M_Arr_fill_ l0r l0 l1 l2 l3 s = some (r, s')) : Ct l y_Arr_fill_ b_Arr_fill_ 5 none 1 22 P q s [.ref (q.1 l0r l0), .int l1, .int l2, .int l3] none q s' := by
  refine ct_ofF (by decide +kernel) (Nat.le_of_ble_eq_true rfl) fun X ls eP el g hR hl => ?_
  subst eP
  have hR : Rt X q ((r, s') : Unit × S1).2 none := hR
  have hl : lv_has ls 5 [(0, .ref (q.1 l0r l0)), (1, .int l1), (2, .int l2), (3, .int l3)] := hl
  generalize (r, s') = o at h hR
  unfold M_Arr_fill_ at h
  refine ww_aload_n (pc := 0) g.1 d_Arr_fill__0 rfl (lv_at hl 0 rfl) ?_
  refine ww_alen (pc := 1) g (n := lnI l0r) hp1 (ak_k hp0) (ak_m hp0) d_Arr_fill__1 ?_
  refine ww_iload_n (pc := 2) g.1 d_Arr_fill__2 rfl (lv_at hl 1 rfl) ?_
  refine ww_iload_n (pc := 3) g.1 d_Arr_fill__3 rfl (lv_at hl 2 rfl) ?_
  obtain ⟨v4, s, hc4, h⟩ := oB_of h
  refine ww_callS (pc := 4) (rest := []) g cs_Arr_rangeCheck (Or.inl kw_6) (ct_Arr_rangeCheck hc4) ⟨by decide, by decide⟩ rfl hl.1 (Nat.le_of_ble_eq_true rfl) d_Arr_fill__4 rfl ?_
  refine ww_st (st' := []) rfl ?_
  refine ww_pr h fun hp1 h => ?_
  refine ww_iload_n (pc := 7) g.1 d_Arr_fill__7 rfl (lv_at hl 1 rfl) ?_
  refine ww_istore (pc := 8) (i := 4) g.1 (lv' := [(4, .int l1), (0, .ref (q.1 l0r l0)), (1, .int l1), (2, .int l2), (3, .int l3)]) d_Arr_fill__8 hl (by decide) rfl fun ls hl => ?_
  obtain ⟨e10, s1, hw, h⟩ := oB_of h
  refine oW_rule (Wh := fun (x : Nat × Int32 × Int32 × Int32 × Int32) (s : S1) => ∀ ls : Array Slot, (AK 2 x.1) → (prs s x.1 x.2.1) → lv_has ls 5 [(0, .ref (q.1 x.1 x.2.1)), (2, .int x.2.2.1), (3, .int x.2.2.2.1), (4, .int x.2.2.2.2)] → WW X q s 10 ls []) (We := fun (e : (Unit)) (s : S1) => ∀ ls : Array Slot, lv_has ls 5 [] → WW X q s 27 ls []) (fun x s o hb hc => lp_Arr_fill__L10 (q := q) g x s o hb hc) hw ?_ ls hp0 hp1 (lv_sub hl [1, 3, 4, 0] rfl)
  clear hw hl
  clear ls
  intro ls hl
  generalize s1 = s at h ⊢
  exact ww_vretH (pc := 27) g h hR d_Arr_fill__27

abbrev b_Arr_fill__ : ByteArray := prog_34_method_102_code
def y_Arr_fill__ : MethodName := ⟨R_Arr, "fill", "([JIIJ)V"⟩
abbrev w_Arr_fill__ : List Cond := .code y_Arr_fill__ b_Arr_fill__ 6 none :: wA
theorem k_Arr_fill__ : Cond.code y_Arr_fill__ b_Arr_fill__ 6 none ∈ wA := kinm (show _ ∈ tables_1 from (List.mem_append_right _ (List.mem_append_right _ (List.mem_append_right _ (List.mem_append_right _ (List.mem_append_right _ (List.mem_append_left _ (List.mem_of_getElem? (l := tables_1_6) (i := 236) (by decide +kernel))))))))) (by decide +kernel)
theorem d_Arr_fill___0 : decode b_Arr_fill__ 0 = .ok (.aload_n 0, 1) := by decide +kernel
theorem d_Arr_fill___1 : decode b_Arr_fill__ 1 = .ok (.arraylength, 1) := by decide +kernel
theorem d_Arr_fill___2 : decode b_Arr_fill__ 2 = .ok (.iload_n 1, 1) := by decide +kernel
theorem d_Arr_fill___3 : decode b_Arr_fill__ 3 = .ok (.iload_n 2, 1) := by decide +kernel
theorem d_Arr_fill___4 : decode b_Arr_fill__ 4 = .ok (.invokestatic 13, 3) := by decide +kernel
theorem d_Arr_fill___7 : decode b_Arr_fill__ 7 = .ok (.iload_n 1, 1) := by decide +kernel
theorem d_Arr_fill___8 : decode b_Arr_fill__ 8 = .ok (.istore 5, 2) := by decide +kernel
theorem d_Arr_fill___10 : decode b_Arr_fill__ 10 = .ok (.iload 5, 2) := by decide +kernel
theorem d_Arr_fill___12 : decode b_Arr_fill__ 12 = .ok (.iload_n 2, 1) := by decide +kernel
theorem d_Arr_fill___13 : decode b_Arr_fill__ 13 = .ok (.if_icmp .ge 14, 3) := by decide +kernel
theorem d_Arr_fill___16 : decode b_Arr_fill__ 16 = .ok (.aload_n 0, 1) := by decide +kernel
theorem d_Arr_fill___17 : decode b_Arr_fill__ 17 = .ok (.iload 5, 2) := by decide +kernel
theorem d_Arr_fill___19 : decode b_Arr_fill__ 19 = .ok (.lload_n 3, 1) := by decide +kernel
theorem d_Arr_fill___20 : decode b_Arr_fill__ 20 = .ok (.lastore, 1) := by decide +kernel
theorem d_Arr_fill___21 : decode b_Arr_fill__ 21 = .ok (.iinc 5 1, 3) := by decide +kernel
theorem d_Arr_fill___24 : decode b_Arr_fill__ 24 = .ok (.goto (-14), 3) := by decide +kernel
theorem d_Arr_fill___27 : decode b_Arr_fill__ 27 = .ok (.return_, 1) := by decide +kernel
theorem kw_8 : Cond.static y_Arr_fill__ ∈ wA := kinm (show _ ∈ tables_1 from (List.mem_append_right _ (List.mem_append_right _ (List.mem_append_right _ (List.mem_append_right _ (List.mem_append_right _ (List.mem_append_left _ (List.mem_of_getElem? (l := tables_1_6) (i := 235) (by decide +kernel))))))))) (by decide +kernel)
theorem cs_Arr_fill__ : CS y_Arr_fill__ b_Arr_fill__ 6 none 4 := ⟨kw_8, kw_3, k_Arr_fill__, by decide +kernel⟩
theorem lp_Arr_fill___L10 {X : Cx} {q : PL} (g : Gd X y_Arr_fill__ b_Arr_fill__ 6 none 1 22 R_Arr) (x : Nat × Int32 × Int32 × Int64 × Int32) (s : S1) (o : ((Nat × Int32 × Int32 × Int64 × Int32) ⊕ ((Unit))) × S1) (h : M_Arr_fill___L10 x s = some o) (hR : (Sum.elim (fun y : Nat × Int32 × Int32 × Int64 × Int32 => ∀ ls : Array Slot, (AK 4 y.1) → (prs o.2 y.1 y.2.1) → lv_has ls 6 [(0, .ref (q.1 y.1 y.2.1)), (2, .int y.2.2.1), (3, .long y.2.2.2.1), (5, .int y.2.2.2.2)] → WW X q o.2 10 ls []) (fun y : Unit => ∀ ls : Array Slot, lv_has ls 6 [] → WW X q o.2 27 ls []) o.1)) : ∀ ls : Array Slot, (AK 4 x.1) → (prs s x.1 x.2.1) → lv_has ls 6 [(0, .ref (q.1 x.1 x.2.1)), (2, .int x.2.2.1), (3, .long x.2.2.2.1), (5, .int x.2.2.2.2)] → WW X q s 10 ls [] := by
  intro ls hp0 hp1 hl
  unfold M_Arr_fill___L10 at h
  refine ww_iload (pc := 10) g.1 d_Arr_fill___10 (lv_at hl 3 rfl) ?_
  refine ww_iload_n (pc := 12) g.1 d_Arr_fill___12 rfl (lv_at hl 1 rfl) ?_
  refine ww_icmp_ge (pc := 13) (tgt := 27) g.1 d_Arr_fill___13 (by decide) h (fun c h => ?_) (fun c h => ?_)
  · rw [oR_eq h] at hR
    exact hR ls (lv_sub hl [] rfl)
  · refine ww_aload_n (pc := 16) g.1 d_Arr_fill___16 rfl (lv_at hl 0 rfl) ?_
    refine ww_iload (pc := 17) g.1 d_Arr_fill___17 (lv_at hl 3 rfl) ?_
    refine ww_lload_n (pc := 19) g.1 d_Arr_fill___19 rfl (lv_at hl 2 rfl) ?_
    refine ww_sl (pc := 20) g hp1 hp0.1 (ak_n hp0) d_Arr_fill___20 h fun s hs h => ?_
    have hp1 : prs s x.1 x.2.1 := hs ▸ hp1
    refine ww_iinc (pc := 21) g.1 (v := x.2.2.2.2 + 1) (lv' := [(5, .int (x.2.2.2.2 + 1)), (0, .ref (q.1 x.1 x.2.1)), (2, .int x.2.2.1), (3, .long x.2.2.2.1)]) d_Arr_fill___21 hl (k := 3) rfl (by rfl) (by decide) rfl fun ls hl => ?_
    refine ww_goto (pc := 24) (tgt := 10) g.1 d_Arr_fill___24 (by decide) ?_
    rw [oR_eq h] at hR
    exact hR ls hp0 hp1 (lv_sub hl [1, 2, 3, 0] rfl)

theorem ct_Arr_fill__ {l : Launch} {P : PP} {q : PL} {s s' : S1} {l0r : Nat} {l0 : Int32} {l1 : Int32} {l2 : Int32} {l3 : Int64} (hp0 : AK 4 l0r) (hp1 : prs s l0r l0) {r : Unit} (h : M_Arr_fill__ l0r l0 l1 l2 l3 s = some (r, s')) : Ct l y_Arr_fill__ b_Arr_fill__ 6 none 1 22 P q s [.ref (q.1 l0r l0), .int l1, .int l2, .long l3] none q s' := by
  refine ct_ofF (by decide +kernel) (Nat.le_of_ble_eq_true rfl) fun X ls eP el g hR hl => ?_
  subst eP
  have hR : Rt X q ((r, s') : Unit × S1).2 none := hR
  have hl : lv_has ls 6 [(0, .ref (q.1 l0r l0)), (1, .int l1), (2, .int l2), (3, .long l3)] := hl
  generalize (r, s') = o at h hR
  unfold M_Arr_fill__ at h
  refine ww_aload_n (pc := 0) g.1 d_Arr_fill___0 rfl (lv_at hl 0 rfl) ?_
  refine ww_alen (pc := 1) g (n := lnI l0r) hp1 (ak_k hp0) (ak_m hp0) d_Arr_fill___1 ?_
  refine ww_iload_n (pc := 2) g.1 d_Arr_fill___2 rfl (lv_at hl 1 rfl) ?_
  refine ww_iload_n (pc := 3) g.1 d_Arr_fill___3 rfl (lv_at hl 2 rfl) ?_
  obtain ⟨v4, s, hc4, h⟩ := oB_of h
  refine ww_callS (pc := 4) (rest := []) g cs_Arr_rangeCheck (Or.inl kw_6) (ct_Arr_rangeCheck hc4) ⟨by decide, by decide⟩ rfl hl.1 (Nat.le_of_ble_eq_true rfl) d_Arr_fill___4 rfl ?_
  refine ww_st (st' := []) rfl ?_
  refine ww_pr h fun hp1 h => ?_
  refine ww_iload_n (pc := 7) g.1 d_Arr_fill___7 rfl (lv_at hl 1 rfl) ?_
  refine ww_istore (pc := 8) (i := 5) g.1 (lv' := [(5, .int l1), (0, .ref (q.1 l0r l0)), (1, .int l1), (2, .int l2), (3, .long l3)]) d_Arr_fill___8 hl (by decide) rfl fun ls hl => ?_
  obtain ⟨e10, s1, hw, h⟩ := oB_of h
  refine oW_rule (Wh := fun (x : Nat × Int32 × Int32 × Int64 × Int32) (s : S1) => ∀ ls : Array Slot, (AK 4 x.1) → (prs s x.1 x.2.1) → lv_has ls 6 [(0, .ref (q.1 x.1 x.2.1)), (2, .int x.2.2.1), (3, .long x.2.2.2.1), (5, .int x.2.2.2.2)] → WW X q s 10 ls []) (We := fun (e : (Unit)) (s : S1) => ∀ ls : Array Slot, lv_has ls 6 [] → WW X q s 27 ls []) (fun x s o hb hc => lp_Arr_fill___L10 (q := q) g x s o hb hc) hw ?_ ls hp0 hp1 (lv_sub hl [1, 3, 4, 0] rfl)
  clear hw hl
  clear ls
  intro ls hl
  generalize s1 = s at h ⊢
  exact ww_vretH (pc := 27) g h hR d_Arr_fill___27

abbrev b_Mth_floorMod : ByteArray := prog_25_method_52_code
def y_Mth_floorMod : MethodName := ⟨R_Mth, "floorMod", "(JJ)J"⟩
abbrev w_Mth_floorMod : List Cond := .code y_Mth_floorMod b_Mth_floorMod 6 (some .long) :: wA
theorem k_Mth_floorMod : Cond.code y_Mth_floorMod b_Mth_floorMod 6 (some .long) ∈ wA := kinm (show _ ∈ tables_1 from (List.mem_append_right _ (List.mem_append_right _ (List.mem_append_right _ (List.mem_append_right _ (List.mem_append_right _ (List.mem_append_right _ (List.mem_append_left _ (List.mem_of_getElem? (l := tables_1_7) (i := 117) (by decide +kernel)))))))))) (by decide +kernel)
theorem d_Mth_floorMod_0 : decode b_Mth_floorMod 0 = .ok (.lload_n 0, 1) := by decide +kernel
theorem d_Mth_floorMod_1 : decode b_Mth_floorMod 1 = .ok (.lload_n 2, 1) := by decide +kernel
theorem d_Mth_floorMod_2 : decode b_Mth_floorMod 2 = .ok (.lrem, 1) := by decide +kernel
theorem d_Mth_floorMod_3 : decode b_Mth_floorMod 3 = .ok (.lstore 4, 2) := by decide +kernel
theorem d_Mth_floorMod_5 : decode b_Mth_floorMod 5 = .ok (.lload_n 0, 1) := by decide +kernel
theorem d_Mth_floorMod_6 : decode b_Mth_floorMod 6 = .ok (.lload_n 2, 1) := by decide +kernel
theorem d_Mth_floorMod_7 : decode b_Mth_floorMod 7 = .ok (.lxor, 1) := by decide +kernel
theorem d_Mth_floorMod_8 : decode b_Mth_floorMod 8 = .ok (.lconst 0, 1) := by decide +kernel
theorem d_Mth_floorMod_9 : decode b_Mth_floorMod 9 = .ok (.lcmp, 1) := by decide +kernel
theorem d_Mth_floorMod_10 : decode b_Mth_floorMod 10 = .ok (.ifCond .ge 15, 3) := by decide +kernel
theorem d_Mth_floorMod_13 : decode b_Mth_floorMod 13 = .ok (.lload 4, 2) := by decide +kernel
theorem d_Mth_floorMod_15 : decode b_Mth_floorMod 15 = .ok (.lconst 0, 1) := by decide +kernel
theorem d_Mth_floorMod_16 : decode b_Mth_floorMod 16 = .ok (.lcmp, 1) := by decide +kernel
theorem d_Mth_floorMod_17 : decode b_Mth_floorMod 17 = .ok (.ifCond .eq 8, 3) := by decide +kernel
theorem d_Mth_floorMod_20 : decode b_Mth_floorMod 20 = .ok (.lload 4, 2) := by decide +kernel
theorem d_Mth_floorMod_22 : decode b_Mth_floorMod 22 = .ok (.lload_n 2, 1) := by decide +kernel
theorem d_Mth_floorMod_23 : decode b_Mth_floorMod 23 = .ok (.ladd, 1) := by decide +kernel
theorem d_Mth_floorMod_24 : decode b_Mth_floorMod 24 = .ok (.lreturn, 1) := by decide +kernel
theorem d_Mth_floorMod_25 : decode b_Mth_floorMod 25 = .ok (.lload 4, 2) := by decide +kernel
theorem d_Mth_floorMod_27 : decode b_Mth_floorMod 27 = .ok (.lreturn, 1) := by decide +kernel
theorem kw_9 : Cond.static y_Mth_floorMod ∈ wA := kinm (show _ ∈ tables_1 from (List.mem_append_right _ (List.mem_append_right _ (List.mem_append_right _ (List.mem_append_right _ (List.mem_append_right _ (List.mem_append_right _ (List.mem_append_left _ (List.mem_of_getElem? (l := tables_1_7) (i := 116) (by decide +kernel)))))))))) (by decide +kernel)
theorem cs_Mth_floorMod : CS y_Mth_floorMod b_Mth_floorMod 6 (some .long) 2 := ⟨kw_9, kw_1, k_Mth_floorMod, by decide +kernel⟩
theorem ct_Mth_floorMod {l : Launch} {P : PP} {q : PL} {s s' : S1} {l0 : Int64} {l2 : Int64} {r : Int64} (h : M_Mth_floorMod l0 l2 s = some (r, s')) : Ct l y_Mth_floorMod b_Mth_floorMod 6 (some .long) 0 0 P q s [.long l0, .long l2] (some (.long r)) q s' := by
  refine ct_ofF (by decide +kernel) (Nat.le_of_ble_eq_true rfl) fun X ls eP el g hR hl => ?_
  subst eP
  have hR : Rt X q ((r, s') : Int64 × S1).2 (some (.long ((r, s') : Int64 × S1).1)) := hR
  have hl : lv_has ls 6 [(0, .long l0), (2, .long l2)] := hl
  generalize (r, s') = o at h hR
  unfold M_Mth_floorMod at h
  refine ww_lload_n (pc := 0) g.1 d_Mth_floorMod_0 rfl (lv_at hl 0 rfl) ?_
  refine ww_lload_n (pc := 1) g.1 d_Mth_floorMod_1 rfl (lv_at hl 1 rfl) ?_
  refine ww_ok h fun cd h => ?_
  refine ww_lrem (pc := 2) g.1 d_Mth_floorMod_2 cd ?_
  refine ww_letl h fun l4_3 h => ?_
  refine ww_lstore (pc := 3) (i := 4) g.1 (lv' := [(4, .long l4_3), (0, .long l0), (2, .long l2)]) d_Mth_floorMod_3 hl (by decide) rfl fun ls hl => ?_
  refine ww_lload_n (pc := 5) g.1 d_Mth_floorMod_5 rfl (lv_at hl 1 rfl) ?_
  refine ww_lload_n (pc := 6) g.1 d_Mth_floorMod_6 rfl (lv_at hl 2 rfl) ?_
  refine ww_lxor (pc := 7) g.1 d_Mth_floorMod_7 ?_
  refine ww_lconst (pc := 8) g.1 (v := 0) d_Mth_floorMod_8 (by decide) ?_
  refine ww_lcmp (pc := 9) g.1 d_Mth_floorMod_9 ?_
  refine ww_if_ge (pc := 10) (tgt := 25) g.1 d_Mth_floorMod_10 (by decide) h (fun c h => ?_) (fun c h => ?_)
  · refine ww_lload (pc := 25) g.1 d_Mth_floorMod_25 (lv_at hl 0 rfl) ?_
    exact ww_lretH (pc := 27) g h hR d_Mth_floorMod_27
  · refine ww_lload (pc := 13) g.1 d_Mth_floorMod_13 (lv_at hl 0 rfl) ?_
    refine ww_lconst (pc := 15) g.1 (v := 0) d_Mth_floorMod_15 (by decide) ?_
    refine ww_lcmp (pc := 16) g.1 d_Mth_floorMod_16 ?_
    refine ww_if_eq (pc := 17) (tgt := 25) g.1 d_Mth_floorMod_17 (by decide) h (fun c h => ?_) (fun c h => ?_)
    · refine ww_lload (pc := 25) g.1 d_Mth_floorMod_25 (lv_at hl 0 rfl) ?_
      exact ww_lretH (pc := 27) g h hR d_Mth_floorMod_27
    · refine ww_lload (pc := 20) g.1 d_Mth_floorMod_20 (lv_at hl 0 rfl) ?_
      refine ww_lload_n (pc := 22) g.1 d_Mth_floorMod_22 rfl (lv_at hl 2 rfl) ?_
      refine ww_ladd (pc := 23) g.1 d_Mth_floorMod_23 ?_
      exact ww_lretH (pc := 24) g h hR d_Mth_floorMod_24

abbrev b_Mth_floorDiv : ByteArray := prog_25_method_49_code
def y_Mth_floorDiv : MethodName := ⟨R_Mth, "floorDiv", "(JJ)J"⟩
abbrev w_Mth_floorDiv : List Cond := .code y_Mth_floorDiv b_Mth_floorDiv 6 (some .long) :: wA
theorem k_Mth_floorDiv : Cond.code y_Mth_floorDiv b_Mth_floorDiv 6 (some .long) ∈ wA := kinm (show _ ∈ tables_1 from (List.mem_append_right _ (List.mem_append_right _ (List.mem_append_right _ (List.mem_append_right _ (List.mem_append_right _ (List.mem_append_right _ (List.mem_append_left _ (List.mem_of_getElem? (l := tables_1_7) (i := 120) (by decide +kernel)))))))))) (by decide +kernel)
theorem d_Mth_floorDiv_0 : decode b_Mth_floorDiv 0 = .ok (.lload_n 0, 1) := by decide +kernel
theorem d_Mth_floorDiv_1 : decode b_Mth_floorDiv 1 = .ok (.lload_n 2, 1) := by decide +kernel
theorem d_Mth_floorDiv_2 : decode b_Mth_floorDiv 2 = .ok (.ldiv, 1) := by decide +kernel
theorem d_Mth_floorDiv_3 : decode b_Mth_floorDiv 3 = .ok (.lstore 4, 2) := by decide +kernel
theorem d_Mth_floorDiv_5 : decode b_Mth_floorDiv 5 = .ok (.lload_n 0, 1) := by decide +kernel
theorem d_Mth_floorDiv_6 : decode b_Mth_floorDiv 6 = .ok (.lload_n 2, 1) := by decide +kernel
theorem d_Mth_floorDiv_7 : decode b_Mth_floorDiv 7 = .ok (.lxor, 1) := by decide +kernel
theorem d_Mth_floorDiv_8 : decode b_Mth_floorDiv 8 = .ok (.lconst 0, 1) := by decide +kernel
theorem d_Mth_floorDiv_9 : decode b_Mth_floorDiv 9 = .ok (.lcmp, 1) := by decide +kernel
theorem d_Mth_floorDiv_10 : decode b_Mth_floorDiv 10 = .ok (.ifCond .ge 17, 3) := by decide +kernel
theorem d_Mth_floorDiv_13 : decode b_Mth_floorDiv 13 = .ok (.lload 4, 2) := by decide +kernel
theorem d_Mth_floorDiv_15 : decode b_Mth_floorDiv 15 = .ok (.lload_n 2, 1) := by decide +kernel
theorem d_Mth_floorDiv_16 : decode b_Mth_floorDiv 16 = .ok (.lmul, 1) := by decide +kernel
theorem d_Mth_floorDiv_17 : decode b_Mth_floorDiv 17 = .ok (.lload_n 0, 1) := by decide +kernel
theorem d_Mth_floorDiv_18 : decode b_Mth_floorDiv 18 = .ok (.lcmp, 1) := by decide +kernel
theorem d_Mth_floorDiv_19 : decode b_Mth_floorDiv 19 = .ok (.ifCond .eq 8, 3) := by decide +kernel
theorem d_Mth_floorDiv_22 : decode b_Mth_floorDiv 22 = .ok (.lload 4, 2) := by decide +kernel
theorem d_Mth_floorDiv_24 : decode b_Mth_floorDiv 24 = .ok (.lconst 1, 1) := by decide +kernel
theorem d_Mth_floorDiv_25 : decode b_Mth_floorDiv 25 = .ok (.lsub, 1) := by decide +kernel
theorem d_Mth_floorDiv_26 : decode b_Mth_floorDiv 26 = .ok (.lreturn, 1) := by decide +kernel
theorem d_Mth_floorDiv_27 : decode b_Mth_floorDiv 27 = .ok (.lload 4, 2) := by decide +kernel
theorem d_Mth_floorDiv_29 : decode b_Mth_floorDiv 29 = .ok (.lreturn, 1) := by decide +kernel
theorem kw_10 : Cond.static y_Mth_floorDiv ∈ wA := kinm (show _ ∈ tables_1 from (List.mem_append_right _ (List.mem_append_right _ (List.mem_append_right _ (List.mem_append_right _ (List.mem_append_right _ (List.mem_append_right _ (List.mem_append_left _ (List.mem_of_getElem? (l := tables_1_7) (i := 119) (by decide +kernel)))))))))) (by decide +kernel)
theorem cs_Mth_floorDiv : CS y_Mth_floorDiv b_Mth_floorDiv 6 (some .long) 2 := ⟨kw_10, kw_1, k_Mth_floorDiv, by decide +kernel⟩
theorem ct_Mth_floorDiv {l : Launch} {P : PP} {q : PL} {s s' : S1} {l0 : Int64} {l2 : Int64} {r : Int64} (h : M_Mth_floorDiv l0 l2 s = some (r, s')) : Ct l y_Mth_floorDiv b_Mth_floorDiv 6 (some .long) 0 0 P q s [.long l0, .long l2] (some (.long r)) q s' := by
  refine ct_ofF (by decide +kernel) (Nat.le_of_ble_eq_true rfl) fun X ls eP el g hR hl => ?_
  subst eP
  have hR : Rt X q ((r, s') : Int64 × S1).2 (some (.long ((r, s') : Int64 × S1).1)) := hR
  have hl : lv_has ls 6 [(0, .long l0), (2, .long l2)] := hl
  generalize (r, s') = o at h hR
  unfold M_Mth_floorDiv at h
  refine ww_lload_n (pc := 0) g.1 d_Mth_floorDiv_0 rfl (lv_at hl 0 rfl) ?_
  refine ww_lload_n (pc := 1) g.1 d_Mth_floorDiv_1 rfl (lv_at hl 1 rfl) ?_
  refine ww_ok h fun cd h => ?_
  refine ww_ldiv (pc := 2) g.1 d_Mth_floorDiv_2 cd ?_
  refine ww_letl h fun l4_3 h => ?_
  refine ww_lstore (pc := 3) (i := 4) g.1 (lv' := [(4, .long l4_3), (0, .long l0), (2, .long l2)]) d_Mth_floorDiv_3 hl (by decide) rfl fun ls hl => ?_
  refine ww_lload_n (pc := 5) g.1 d_Mth_floorDiv_5 rfl (lv_at hl 1 rfl) ?_
  refine ww_lload_n (pc := 6) g.1 d_Mth_floorDiv_6 rfl (lv_at hl 2 rfl) ?_
  refine ww_lxor (pc := 7) g.1 d_Mth_floorDiv_7 ?_
  refine ww_lconst (pc := 8) g.1 (v := 0) d_Mth_floorDiv_8 (by decide) ?_
  refine ww_lcmp (pc := 9) g.1 d_Mth_floorDiv_9 ?_
  refine ww_if_ge (pc := 10) (tgt := 27) g.1 d_Mth_floorDiv_10 (by decide) h (fun c h => ?_) (fun c h => ?_)
  · refine ww_lload (pc := 27) g.1 d_Mth_floorDiv_27 (lv_at hl 0 rfl) ?_
    exact ww_lretH (pc := 29) g h hR d_Mth_floorDiv_29
  · refine ww_lload (pc := 13) g.1 d_Mth_floorDiv_13 (lv_at hl 0 rfl) ?_
    refine ww_lload_n (pc := 15) g.1 d_Mth_floorDiv_15 rfl (lv_at hl 2 rfl) ?_
    refine ww_lmul (pc := 16) g.1 d_Mth_floorDiv_16 ?_
    refine ww_lload_n (pc := 17) g.1 d_Mth_floorDiv_17 rfl (lv_at hl 1 rfl) ?_
    refine ww_lcmp (pc := 18) g.1 d_Mth_floorDiv_18 ?_
    refine ww_if_eq (pc := 19) (tgt := 27) g.1 d_Mth_floorDiv_19 (by decide) h (fun c h => ?_) (fun c h => ?_)
    · refine ww_lload (pc := 27) g.1 d_Mth_floorDiv_27 (lv_at hl 0 rfl) ?_
      exact ww_lretH (pc := 29) g h hR d_Mth_floorDiv_29
    · refine ww_lload (pc := 22) g.1 d_Mth_floorDiv_22 (lv_at hl 0 rfl) ?_
      refine ww_lconst (pc := 24) g.1 (v := 1) d_Mth_floorDiv_24 (by decide) ?_
      refine ww_lsub (pc := 25) g.1 d_Mth_floorDiv_25 ?_
      exact ww_lretH (pc := 26) g h hR d_Mth_floorDiv_26

abbrev b_Mth_abs : ByteArray := prog_25_method_61_code
def y_Mth_abs : MethodName := ⟨R_Mth, "abs", "(J)J"⟩
abbrev w_Mth_abs : List Cond := .code y_Mth_abs b_Mth_abs 2 (some .long) :: wA
theorem k_Mth_abs : Cond.code y_Mth_abs b_Mth_abs 2 (some .long) ∈ wA := kinm (show _ ∈ tables_1 from (List.mem_append_right _ (List.mem_append_right _ (List.mem_append_right _ (List.mem_append_right _ (List.mem_append_right _ (List.mem_append_right _ (List.mem_append_right _ (List.mem_append_left _ (List.mem_of_getElem? (l := tables_1_8) (i := 31) (by decide +kernel))))))))))) (by decide +kernel)
theorem d_Mth_abs_0 : decode b_Mth_abs 0 = .ok (.lload_n 0, 1) := by decide +kernel
theorem d_Mth_abs_1 : decode b_Mth_abs 1 = .ok (.lconst 0, 1) := by decide +kernel
theorem d_Mth_abs_2 : decode b_Mth_abs 2 = .ok (.lcmp, 1) := by decide +kernel
theorem d_Mth_abs_3 : decode b_Mth_abs 3 = .ok (.ifCond .ge 8, 3) := by decide +kernel
theorem d_Mth_abs_6 : decode b_Mth_abs 6 = .ok (.lload_n 0, 1) := by decide +kernel
theorem d_Mth_abs_7 : decode b_Mth_abs 7 = .ok (.lneg, 1) := by decide +kernel
theorem d_Mth_abs_8 : decode b_Mth_abs 8 = .ok (.goto 4, 3) := by decide +kernel
theorem d_Mth_abs_11 : decode b_Mth_abs 11 = .ok (.lload_n 0, 1) := by decide +kernel
theorem d_Mth_abs_12 : decode b_Mth_abs 12 = .ok (.lreturn, 1) := by decide +kernel
theorem kw_11 : Cond.static y_Mth_abs ∈ wA := kinm (show _ ∈ tables_1 from (List.mem_append_right _ (List.mem_append_right _ (List.mem_append_right _ (List.mem_append_right _ (List.mem_append_right _ (List.mem_append_right _ (List.mem_append_right _ (List.mem_append_left _ (List.mem_of_getElem? (l := tables_1_8) (i := 30) (by decide +kernel))))))))))) (by decide +kernel)
theorem cs_Mth_abs : CS y_Mth_abs b_Mth_abs 2 (some .long) 1 := ⟨kw_11, kw_1, k_Mth_abs, by decide +kernel⟩
theorem ct_Mth_abs {l : Launch} {P : PP} {q : PL} {s s' : S1} {l0 : Int64} {r : Int64} (h : M_Mth_abs l0 s = some (r, s')) : Ct l y_Mth_abs b_Mth_abs 2 (some .long) 0 0 P q s [.long l0] (some (.long r)) q s' := by
  refine ct_ofF (by decide +kernel) (Nat.le_of_ble_eq_true rfl) fun X ls eP el g hR hl => ?_
  subst eP
  have hR : Rt X q ((r, s') : Int64 × S1).2 (some (.long ((r, s') : Int64 × S1).1)) := hR
  have hl : lv_has ls 2 [(0, .long l0)] := hl
  generalize (r, s') = o at h hR
  unfold M_Mth_abs at h
  refine ww_lload_n (pc := 0) g.1 d_Mth_abs_0 rfl (lv_at hl 0 rfl) ?_
  refine ww_lconst (pc := 1) g.1 (v := 0) d_Mth_abs_1 (by decide) ?_
  refine ww_lcmp (pc := 2) g.1 d_Mth_abs_2 ?_
  refine ww_if_ge (pc := 3) (tgt := 11) g.1 d_Mth_abs_3 (by decide) h (fun c h => ?_) (fun c h => ?_)
  · refine ww_lload_n (pc := 11) g.1 d_Mth_abs_11 rfl (lv_at hl 0 rfl) ?_
    exact ww_lretH (pc := 12) g h hR d_Mth_abs_12
  · refine ww_lload_n (pc := 6) g.1 d_Mth_abs_6 rfl (lv_at hl 0 rfl) ?_
    refine ww_lneg (pc := 7) g.1 d_Mth_abs_7 ?_
    refine ww_goto (pc := 8) (tgt := 12) g.1 d_Mth_abs_8 (by decide) ?_
    exact ww_lretH (pc := 12) g h hR d_Mth_abs_12

abbrev b_Mth_min_ : ByteArray := prog_25_method_70_code
def y_Mth_min_ : MethodName := ⟨R_Mth, "min", "(JJ)J"⟩
abbrev w_Mth_min_ : List Cond := .code y_Mth_min_ b_Mth_min_ 4 (some .long) :: wA
theorem k_Mth_min_ : Cond.code y_Mth_min_ b_Mth_min_ 4 (some .long) ∈ wA := kinm (show _ ∈ tables_1 from (List.mem_append_right _ (List.mem_append_right _ (List.mem_append_right _ (List.mem_append_right _ (List.mem_append_right _ (List.mem_append_right _ (List.mem_append_right _ (List.mem_append_left _ (List.mem_of_getElem? (l := tables_1_8) (i := 133) (by decide +kernel))))))))))) (by decide +kernel)
theorem d_Mth_min__0 : decode b_Mth_min_ 0 = .ok (.lload_n 0, 1) := by decide +kernel
theorem d_Mth_min__1 : decode b_Mth_min_ 1 = .ok (.lload_n 2, 1) := by decide +kernel
theorem d_Mth_min__2 : decode b_Mth_min_ 2 = .ok (.lcmp, 1) := by decide +kernel
theorem d_Mth_min__3 : decode b_Mth_min_ 3 = .ok (.ifCond .gt 7, 3) := by decide +kernel
theorem d_Mth_min__6 : decode b_Mth_min_ 6 = .ok (.lload_n 0, 1) := by decide +kernel
theorem d_Mth_min__7 : decode b_Mth_min_ 7 = .ok (.goto 4, 3) := by decide +kernel
theorem d_Mth_min__10 : decode b_Mth_min_ 10 = .ok (.lload_n 2, 1) := by decide +kernel
theorem d_Mth_min__11 : decode b_Mth_min_ 11 = .ok (.lreturn, 1) := by decide +kernel
theorem kw_12 : Cond.static y_Mth_min_ ∈ wA := kinm (show _ ∈ tables_1 from (List.mem_append_right _ (List.mem_append_right _ (List.mem_append_right _ (List.mem_append_right _ (List.mem_append_right _ (List.mem_append_right _ (List.mem_append_right _ (List.mem_append_left _ (List.mem_of_getElem? (l := tables_1_8) (i := 132) (by decide +kernel))))))))))) (by decide +kernel)
theorem cs_Mth_min_ : CS y_Mth_min_ b_Mth_min_ 4 (some .long) 2 := ⟨kw_12, kw_1, k_Mth_min_, by decide +kernel⟩
theorem ct_Mth_min_ {l : Launch} {P : PP} {q : PL} {s s' : S1} {l0 : Int64} {l2 : Int64} {r : Int64} (h : M_Mth_min_ l0 l2 s = some (r, s')) : Ct l y_Mth_min_ b_Mth_min_ 4 (some .long) 0 0 P q s [.long l0, .long l2] (some (.long r)) q s' := by
  refine ct_ofF (by decide +kernel) (Nat.le_of_ble_eq_true rfl) fun X ls eP el g hR hl => ?_
  subst eP
  have hR : Rt X q ((r, s') : Int64 × S1).2 (some (.long ((r, s') : Int64 × S1).1)) := hR
  have hl : lv_has ls 4 [(0, .long l0), (2, .long l2)] := hl
  generalize (r, s') = o at h hR
  unfold M_Mth_min_ at h
  refine ww_lload_n (pc := 0) g.1 d_Mth_min__0 rfl (lv_at hl 0 rfl) ?_
  refine ww_lload_n (pc := 1) g.1 d_Mth_min__1 rfl (lv_at hl 1 rfl) ?_
  refine ww_lcmp (pc := 2) g.1 d_Mth_min__2 ?_
  refine ww_if_gt (pc := 3) (tgt := 10) g.1 d_Mth_min__3 (by decide) h (fun c h => ?_) (fun c h => ?_)
  · refine ww_lload_n (pc := 10) g.1 d_Mth_min__10 rfl (lv_at hl 1 rfl) ?_
    exact ww_lretH (pc := 11) g h hR d_Mth_min__11
  · refine ww_lload_n (pc := 6) g.1 d_Mth_min__6 rfl (lv_at hl 0 rfl) ?_
    refine ww_goto (pc := 7) (tgt := 11) g.1 d_Mth_min__7 (by decide) ?_
    exact ww_lretH (pc := 11) g h hR d_Mth_min__11

abbrev b_Mth_max_ : ByteArray := prog_25_method_66_code
def y_Mth_max_ : MethodName := ⟨R_Mth, "max", "(JJ)J"⟩
abbrev w_Mth_max_ : List Cond := .code y_Mth_max_ b_Mth_max_ 4 (some .long) :: wA
theorem k_Mth_max_ : Cond.code y_Mth_max_ b_Mth_max_ 4 (some .long) ∈ wA := kinm (show _ ∈ tables_1 from (List.mem_append_right _ (List.mem_append_right _ (List.mem_append_right _ (List.mem_append_right _ (List.mem_append_right _ (List.mem_append_right _ (List.mem_append_right _ (List.mem_append_left _ (List.mem_of_getElem? (l := tables_1_8) (i := 148) (by decide +kernel))))))))))) (by decide +kernel)
theorem d_Mth_max__0 : decode b_Mth_max_ 0 = .ok (.lload_n 0, 1) := by decide +kernel
theorem d_Mth_max__1 : decode b_Mth_max_ 1 = .ok (.lload_n 2, 1) := by decide +kernel
theorem d_Mth_max__2 : decode b_Mth_max_ 2 = .ok (.lcmp, 1) := by decide +kernel
theorem d_Mth_max__3 : decode b_Mth_max_ 3 = .ok (.ifCond .lt 7, 3) := by decide +kernel
theorem d_Mth_max__6 : decode b_Mth_max_ 6 = .ok (.lload_n 0, 1) := by decide +kernel
theorem d_Mth_max__7 : decode b_Mth_max_ 7 = .ok (.goto 4, 3) := by decide +kernel
theorem d_Mth_max__10 : decode b_Mth_max_ 10 = .ok (.lload_n 2, 1) := by decide +kernel
theorem d_Mth_max__11 : decode b_Mth_max_ 11 = .ok (.lreturn, 1) := by decide +kernel
theorem kw_13 : Cond.static y_Mth_max_ ∈ wA := kinm (show _ ∈ tables_1 from (List.mem_append_right _ (List.mem_append_right _ (List.mem_append_right _ (List.mem_append_right _ (List.mem_append_right _ (List.mem_append_right _ (List.mem_append_right _ (List.mem_append_left _ (List.mem_of_getElem? (l := tables_1_8) (i := 147) (by decide +kernel))))))))))) (by decide +kernel)
theorem cs_Mth_max_ : CS y_Mth_max_ b_Mth_max_ 4 (some .long) 2 := ⟨kw_13, kw_1, k_Mth_max_, by decide +kernel⟩
theorem ct_Mth_max_ {l : Launch} {P : PP} {q : PL} {s s' : S1} {l0 : Int64} {l2 : Int64} {r : Int64} (h : M_Mth_max_ l0 l2 s = some (r, s')) : Ct l y_Mth_max_ b_Mth_max_ 4 (some .long) 0 0 P q s [.long l0, .long l2] (some (.long r)) q s' := by
  refine ct_ofF (by decide +kernel) (Nat.le_of_ble_eq_true rfl) fun X ls eP el g hR hl => ?_
  subst eP
  have hR : Rt X q ((r, s') : Int64 × S1).2 (some (.long ((r, s') : Int64 × S1).1)) := hR
  have hl : lv_has ls 4 [(0, .long l0), (2, .long l2)] := hl
  generalize (r, s') = o at h hR
  unfold M_Mth_max_ at h
  refine ww_lload_n (pc := 0) g.1 d_Mth_max__0 rfl (lv_at hl 0 rfl) ?_
  refine ww_lload_n (pc := 1) g.1 d_Mth_max__1 rfl (lv_at hl 1 rfl) ?_
  refine ww_lcmp (pc := 2) g.1 d_Mth_max__2 ?_
  refine ww_if_lt (pc := 3) (tgt := 10) g.1 d_Mth_max__3 (by decide) h (fun c h => ?_) (fun c h => ?_)
  · refine ww_lload_n (pc := 10) g.1 d_Mth_max__10 rfl (lv_at hl 1 rfl) ?_
    exact ww_lretH (pc := 11) g h hR d_Mth_max__11
  · refine ww_lload_n (pc := 6) g.1 d_Mth_max__6 rfl (lv_at hl 0 rfl) ?_
    refine ww_goto (pc := 7) (tgt := 11) g.1 d_Mth_max__7 (by decide) ?_
    exact ww_lretH (pc := 11) g h hR d_Mth_max__11

abbrev b_Mo_thrown : ByteArray := prog_14_method_2_code
def y_Mo_thrown : MethodName := ⟨R_Mo, "thrown", "()I"⟩
abbrev w_Mo_thrown : List Cond := .code y_Mo_thrown b_Mo_thrown 1 (some .int) :: wA
theorem k_Mo_thrown : Cond.code y_Mo_thrown b_Mo_thrown 1 (some .int) ∈ wA := kinm (show _ ∈ tables_1 from (List.mem_append_right _ (List.mem_append_right _ (List.mem_append_right _ (List.mem_append_right _ (List.mem_append_right _ (List.mem_append_right _ (List.mem_append_right _ (List.mem_append_right _ (List.mem_append_right _ (List.mem_append_right _ (List.mem_append_left _ (List.mem_of_getElem? (l := tables_1_11) (i := 120) (by decide +kernel)))))))))))))) (by decide +kernel)
theorem d_Mo_thrown_0 : decode b_Mo_thrown 0 = .ok (.aload_n 0, 1) := by decide +kernel
theorem d_Mo_thrown_1 : decode b_Mo_thrown 1 = .ok (.getfield 18, 3) := by decide +kernel
theorem d_Mo_thrown_4 : decode b_Mo_thrown 4 = .ok (.ireturn, 1) := by decide +kernel
theorem kw_14 : Cond.fieldLink R_Mo 18 "LuaMachineModel" "thrown" "I" ∈ wA := kinm (show _ ∈ tables_1 from (List.mem_append_right _ (List.mem_append_right _ (List.mem_append_right _ (List.mem_append_right _ (List.mem_append_right _ (List.mem_append_right _ (List.mem_append_right _ (List.mem_append_right _ (List.mem_append_right _ (List.mem_append_left _ (List.mem_of_getElem? (l := tables_1_10) (i := 56) (by decide +kernel))))))))))))) (by decide +kernel)
theorem kw_15 : Cond.instanceMethod y_Mo_thrown ∈ wA := kinm (show _ ∈ tables_1 from (List.mem_append_right _ (List.mem_append_right _ (List.mem_append_right _ (List.mem_append_right _ (List.mem_append_right _ (List.mem_append_right _ (List.mem_append_right _ (List.mem_append_right _ (List.mem_append_right _ (List.mem_append_right _ (List.mem_append_left _ (List.mem_of_getElem? (l := tables_1_11) (i := 118) (by decide +kernel)))))))))))))) (by decide +kernel)
theorem kw_16 : Cond.selects R_Mo y_Mo_thrown y_Mo_thrown ∈ wA := kinm (show _ ∈ tables_1 from (List.mem_append_right _ (List.mem_append_right _ (List.mem_append_right _ (List.mem_append_right _ (List.mem_append_right _ (List.mem_append_right _ (List.mem_append_right _ (List.mem_append_right _ (List.mem_append_right _ (List.mem_append_right _ (List.mem_append_left _ (List.mem_of_getElem? (l := tables_1_11) (i := 119) (by decide +kernel)))))))))))))) (by decide +kernel)
theorem kw_17 : Cond.initialized R_Mo ∈ wA := kinm (show _ ∈ tables_1 from (List.mem_append_left _ (List.mem_of_getElem? (l := tables_1_1) (i := 9) (by decide +kernel)))) (by decide +kernel)
theorem cv_Mo_thrown : CV y_Mo_thrown b_Mo_thrown 1 (some .int) 0 := ⟨kw_15, kw_16, kw_17, k_Mo_thrown, by decide +kernel⟩
theorem ct_Mo_thrown {l : Launch} {P : PP} {q : PL} {s s' : S1}  {r : Int32} (h : M_Mo_thrown s = some (r, s')) : Ct l y_Mo_thrown b_Mo_thrown 1 (some .int) 0 0 P q s [.ref (q.1 0 0)] (some (.int r)) q s' := by
  refine ct_of (by decide) (Nat.le_of_ble_eq_true rfl) fun X ls eP el g hR hl => ?_
  subst eP
  have hR : Rt X q ((r, s') : Int32 × S1).2 (some (.int ((r, s') : Int32 × S1).1)) := hR
  have hl : lv_has ls 1 [(0, .ref (q.1 0 0))] := hl
  generalize (r, s') = o at h hR
  unfold M_Mo_thrown at h
  refine ww_aload_n (pc := 0) g.1 d_Mo_thrown_0 rfl (lv_at hl 0 rfl) ?_
  refine ww_gI (pc := 1) g (k := 2) cl_Mo (pz rfl (by decide)) (by decide) (Or.inl kw_14) (f := 2) rfl rfl d_Mo_thrown_1 h fun v1 h => ?_
  exact ww_iretH (pc := 4) g h hR d_Mo_thrown_4

abbrev b_Mo_refuse : ByteArray := prog_14_method_3_code
def y_Mo_refuse : MethodName := ⟨R_Mo, "refuse", "(IZ)Z"⟩
abbrev w_Mo_refuse : List Cond := .code y_Mo_refuse b_Mo_refuse 3 (some .boolean) :: wA
theorem k_Mo_refuse : Cond.code y_Mo_refuse b_Mo_refuse 3 (some .boolean) ∈ wA := kinm (show _ ∈ tables_1 from (List.mem_append_right _ (List.mem_append_right _ (List.mem_append_right _ (List.mem_append_right _ (List.mem_append_right _ (List.mem_append_right _ (List.mem_append_right _ (List.mem_append_right _ (List.mem_append_right _ (List.mem_append_right _ (List.mem_append_left _ (List.mem_of_getElem? (l := tables_1_11) (i := 129) (by decide +kernel)))))))))))))) (by decide +kernel)
theorem d_Mo_refuse_0 : decode b_Mo_refuse 0 = .ok (.iload_n 2, 1) := by decide +kernel
theorem d_Mo_refuse_1 : decode b_Mo_refuse 1 = .ok (.ifCond .eq 8, 3) := by decide +kernel
theorem d_Mo_refuse_4 : decode b_Mo_refuse 4 = .ok (.aload_n 0, 1) := by decide +kernel
theorem d_Mo_refuse_5 : decode b_Mo_refuse 5 = .ok (.iload_n 1, 1) := by decide +kernel
theorem d_Mo_refuse_6 : decode b_Mo_refuse 6 = .ok (.putfield 18, 3) := by decide +kernel
theorem d_Mo_refuse_9 : decode b_Mo_refuse 9 = .ok (.iload_n 2, 1) := by decide +kernel
theorem d_Mo_refuse_10 : decode b_Mo_refuse 10 = .ok (.ireturn, 1) := by decide +kernel
theorem kw_18 : Cond.instanceMethod y_Mo_refuse ∈ wA := kinm (show _ ∈ tables_1 from (List.mem_append_right _ (List.mem_append_right _ (List.mem_append_right _ (List.mem_append_right _ (List.mem_append_right _ (List.mem_append_right _ (List.mem_append_right _ (List.mem_append_right _ (List.mem_append_right _ (List.mem_append_right _ (List.mem_append_left _ (List.mem_of_getElem? (l := tables_1_11) (i := 128) (by decide +kernel)))))))))))))) (by decide +kernel)
theorem kw_19 : Cond.selects R_Mo y_Mo_refuse y_Mo_refuse ∈ wA := kinp 111 (by decide +kernel) (by decide +kernel)
theorem cv_Mo_refuse : CV y_Mo_refuse b_Mo_refuse 3 (some .boolean) 2 := ⟨kw_18, kw_19, kw_17, k_Mo_refuse, by decide +kernel⟩
theorem ct_Mo_refuse {l : Launch} {P : PP} {q : PL} {s s' : S1} {l1 : Int32} {l2 : Int32} {r : Int32} (h : M_Mo_refuse l1 l2 s = some (r, s')) : Ct l y_Mo_refuse b_Mo_refuse 3 (some .boolean) 0 0 P q s [.ref (q.1 0 0), .int l1, .int l2] (some (.int r)) q s' := by
  refine ct_of (by decide) (Nat.le_of_ble_eq_true rfl) fun X ls eP el g hR hl => ?_
  subst eP
  have hR : Rt X q ((r, s') : Int32 × S1).2 (some (.int ((r, s') : Int32 × S1).1)) := hR
  have hl : lv_has ls 3 [(0, .ref (q.1 0 0)), (1, .int l1), (2, .int l2)] := hl
  generalize (r, s') = o at h hR
  unfold M_Mo_refuse at h
  refine ww_iload_n (pc := 0) g.1 d_Mo_refuse_0 rfl (lv_at hl 2 rfl) ?_
  refine ww_if_eq (pc := 1) (tgt := 9) g.1 d_Mo_refuse_1 (by decide) h (fun c h => ?_) (fun c h => ?_)
  · refine ww_iload_n (pc := 9) g.1 d_Mo_refuse_9 rfl (lv_at hl 2 rfl) ?_
    refine ww_ok h fun cz h => ?_
    exact ww_zretH (pc := 10) g h hR cz d_Mo_refuse_10
  · refine ww_aload_n (pc := 4) g.1 d_Mo_refuse_4 rfl (lv_at hl 0 rfl) ?_
    refine ww_iload_n (pc := 5) g.1 d_Mo_refuse_5 rfl (lv_at hl 1 rfl) ?_
    refine ww_pI (pc := 6) g (k := 2) cl_Mo (pz rfl (by decide)) (by decide) (Or.inl kw_14) rfl (f := 2) rfl rfl rfl rfl d_Mo_refuse_6 h fun s hs h => ?_
    refine ww_iload_n (pc := 9) g.1 d_Mo_refuse_9 rfl (lv_at hl 2 rfl) ?_
    refine ww_ok h fun cz h => ?_
    exact ww_zretH (pc := 10) g h hR cz d_Mo_refuse_10

abbrev b_Mo_end : ByteArray := prog_14_method_5_code
def y_Mo_end : MethodName := ⟨R_Mo, "end", "(I)I"⟩
abbrev w_Mo_end : List Cond := .code y_Mo_end b_Mo_end 2 (some .int) :: wA
theorem k_Mo_end : Cond.code y_Mo_end b_Mo_end 2 (some .int) ∈ wA := kinm (show _ ∈ tables_1 from (List.mem_append_right _ (List.mem_append_right _ (List.mem_append_right _ (List.mem_append_right _ (List.mem_append_right _ (List.mem_append_right _ (List.mem_append_right _ (List.mem_append_right _ (List.mem_append_right _ (List.mem_append_right _ (List.mem_append_left _ (List.mem_of_getElem? (l := tables_1_11) (i := 133) (by decide +kernel)))))))))))))) (by decide +kernel)
theorem d_Mo_end_0 : decode b_Mo_end 0 = .ok (.aload_n 0, 1) := by decide +kernel
theorem d_Mo_end_1 : decode b_Mo_end 1 = .ok (.iconst 0, 1) := by decide +kernel
theorem d_Mo_end_2 : decode b_Mo_end 2 = .ok (.putfield 18, 3) := by decide +kernel
theorem d_Mo_end_5 : decode b_Mo_end 5 = .ok (.aload_n 0, 1) := by decide +kernel
theorem d_Mo_end_6 : decode b_Mo_end 6 = .ok (.iconst 1, 1) := by decide +kernel
theorem d_Mo_end_7 : decode b_Mo_end 7 = .ok (.iload_n 1, 1) := by decide +kernel
theorem d_Mo_end_8 : decode b_Mo_end 8 = .ok (.ifCond .lt 11, 3) := by decide +kernel
theorem d_Mo_end_11 : decode b_Mo_end 11 = .ok (.iload_n 1, 1) := by decide +kernel
theorem d_Mo_end_12 : decode b_Mo_end 12 = .ok (.aload_n 0, 1) := by decide +kernel
theorem d_Mo_end_13 : decode b_Mo_end 13 = .ok (.getfield 14, 3) := by decide +kernel
theorem d_Mo_end_16 : decode b_Mo_end 16 = .ok (.if_icmp .le 7, 3) := by decide +kernel
theorem d_Mo_end_19 : decode b_Mo_end 19 = .ok (.iconst 1, 1) := by decide +kernel
theorem d_Mo_end_20 : decode b_Mo_end 20 = .ok (.goto 4, 3) := by decide +kernel
theorem d_Mo_end_23 : decode b_Mo_end 23 = .ok (.iconst 0, 1) := by decide +kernel
theorem d_Mo_end_24 : decode b_Mo_end 24 = .ok (.invokevirtual 445, 3) := by decide +kernel
theorem d_Mo_end_27 : decode b_Mo_end 27 = .ok (.ifCond .eq 5, 3) := by decide +kernel
theorem d_Mo_end_30 : decode b_Mo_end 30 = .ok (.iconst 0, 1) := by decide +kernel
theorem d_Mo_end_31 : decode b_Mo_end 31 = .ok (.ireturn, 1) := by decide +kernel
theorem d_Mo_end_32 : decode b_Mo_end 32 = .ok (.aload_n 0, 1) := by decide +kernel
theorem d_Mo_end_33 : decode b_Mo_end 33 = .ok (.iload_n 1, 1) := by decide +kernel
theorem d_Mo_end_34 : decode b_Mo_end 34 = .ok (.putfield 14, 3) := by decide +kernel
theorem d_Mo_end_37 : decode b_Mo_end 37 = .ok (.iload_n 1, 1) := by decide +kernel
theorem d_Mo_end_38 : decode b_Mo_end 38 = .ok (.ireturn, 1) := by decide +kernel
theorem kw_20 : Cond.methodLink R_Mo 445 y_Mo_refuse ∈ wA := kinm (show _ ∈ tables_1 from (List.mem_append_right _ (List.mem_append_right _ (List.mem_append_right _ (List.mem_append_right _ (List.mem_append_right _ (List.mem_append_right _ (List.mem_append_right _ (List.mem_append_right _ (List.mem_append_right _ (List.mem_append_right _ (List.mem_append_left _ (List.mem_of_getElem? (l := tables_1_11) (i := 126) (by decide +kernel)))))))))))))) (by decide +kernel)
theorem kw_21 : Cond.fieldLink R_Mo 14 "LuaMachineModel" "size" "I" ∈ wA := kinm (show _ ∈ tables_1 from (List.mem_append_right _ (List.mem_append_right _ (List.mem_append_right _ (List.mem_append_right _ (List.mem_append_right _ (List.mem_append_right _ (List.mem_append_right _ (List.mem_append_right _ (List.mem_append_right _ (List.mem_append_left _ (List.mem_of_getElem? (l := tables_1_10) (i := 55) (by decide +kernel))))))))))))) (by decide +kernel)
theorem kw_22 : Cond.instanceMethod y_Mo_end ∈ wA := kinm (show _ ∈ tables_1 from (List.mem_append_right _ (List.mem_append_right _ (List.mem_append_right _ (List.mem_append_right _ (List.mem_append_right _ (List.mem_append_right _ (List.mem_append_right _ (List.mem_append_right _ (List.mem_append_right _ (List.mem_append_right _ (List.mem_append_left _ (List.mem_of_getElem? (l := tables_1_11) (i := 131) (by decide +kernel)))))))))))))) (by decide +kernel)
theorem kw_23 : Cond.selects R_Mo y_Mo_end y_Mo_end ∈ wA := kinm (show _ ∈ tables_1 from (List.mem_append_right _ (List.mem_append_right _ (List.mem_append_right _ (List.mem_append_right _ (List.mem_append_right _ (List.mem_append_right _ (List.mem_append_right _ (List.mem_append_right _ (List.mem_append_right _ (List.mem_append_right _ (List.mem_append_left _ (List.mem_of_getElem? (l := tables_1_11) (i := 132) (by decide +kernel)))))))))))))) (by decide +kernel)
theorem cv_Mo_end : CV y_Mo_end b_Mo_end 2 (some .int) 1 := ⟨kw_22, kw_23, kw_17, k_Mo_end, by decide +kernel⟩
theorem j_Mo_end_j24 {X : Cx} {q : PL} (g : Gd X y_Mo_end b_Mo_end 2 (some .int) 1 22 R_Mo) {o : (Int32) × S1} (hR : Rt X q o.2 (some (.int o.1))) (l1 : Int32) (k0 : Int32) (k1 : Int32) (s : S1) (ls : Array Slot) (hl : lv_has ls 2 [(0, .ref (q.1 0 0)), (1, .int l1)]) (h : M_Mo_end_j24 l1 k0 k1 s = some o) : WW X q s 24 ls [.int k0, .int k1, .ref (q.1 0 0)] := by
  unfold M_Mo_end_j24 at h
  obtain ⟨v24, s, hc24, h⟩ := oB_of h
  refine ww_callV (pc := 24) (rest := []) g cv_Mo_refuse (Or.inl kw_20) cl_Mo (pz rfl (by decide)) (ct_Mo_refuse hc24) ⟨by decide, by decide⟩ rfl hl.1 (Nat.le_of_ble_eq_true rfl) d_Mo_end_24 rfl ?_
  refine ww_st (st' := [.int v24]) rfl ?_
  refine ww_if_eq (pc := 27) (tgt := 32) g.1 d_Mo_end_27 (by decide) h (fun c h => ?_) (fun c h => ?_)
  · refine ww_aload_n (pc := 32) g.1 d_Mo_end_32 rfl (lv_at hl 0 rfl) ?_
    refine ww_iload_n (pc := 33) g.1 d_Mo_end_33 rfl (lv_at hl 1 rfl) ?_
    refine ww_pI (pc := 34) g (k := 1) cl_Mo (pz rfl (by decide)) (by decide) (Or.inl kw_21) rfl (f := 1) rfl rfl rfl rfl d_Mo_end_34 h fun s hs h => ?_
    refine ww_iload_n (pc := 37) g.1 d_Mo_end_37 rfl (lv_at hl 1 rfl) ?_
    exact ww_iretH (pc := 38) g h hR d_Mo_end_38
  · refine ww_iconst (pc := 30) g.1 (v := 0) d_Mo_end_30 (by decide) ?_
    exact ww_iretH (pc := 31) g h hR d_Mo_end_31

theorem j_Mo_end_j19 {X : Cx} {q : PL} (g : Gd X y_Mo_end b_Mo_end 2 (some .int) 1 22 R_Mo) {o : (Int32) × S1} (hR : Rt X q o.2 (some (.int o.1))) (l1 : Int32) (k0 : Int32) (s : S1) (ls : Array Slot) (hl : lv_has ls 2 [(0, .ref (q.1 0 0)), (1, .int l1)]) (h : M_Mo_end_j19 l1 k0 s = some o) : WW X q s 19 ls [.int k0, .ref (q.1 0 0)] := by
  unfold M_Mo_end_j19 at h
  refine ww_iconst (pc := 19) g.1 (v := 1) d_Mo_end_19 (by decide) ?_
  refine ww_goto (pc := 20) (tgt := 24) g.1 d_Mo_end_20 (by decide) ?_
  exact j_Mo_end_j24 g hR l1 1 k0 s ls (lv_sub hl [0, 1] rfl) h

theorem ct_Mo_end {l : Launch} {P : PP} {q : PL} {s s' : S1} {l1 : Int32} {r : Int32} (h : M_Mo_end l1 s = some (r, s')) : Ct l y_Mo_end b_Mo_end 2 (some .int) 1 22 P q s [.ref (q.1 0 0), .int l1] (some (.int r)) q s' := by
  refine ct_of (by decide) (Nat.le_of_ble_eq_true rfl) fun X ls eP el g hR hl => ?_
  subst eP
  have hR : Rt X q ((r, s') : Int32 × S1).2 (some (.int ((r, s') : Int32 × S1).1)) := hR
  have hl : lv_has ls 2 [(0, .ref (q.1 0 0)), (1, .int l1)] := hl
  generalize (r, s') = o at h hR
  unfold M_Mo_end at h
  refine ww_aload_n (pc := 0) g.1 d_Mo_end_0 rfl (lv_at hl 0 rfl) ?_
  refine ww_iconst (pc := 1) g.1 (v := 0) d_Mo_end_1 (by decide) ?_
  refine ww_pI (pc := 2) g (k := 2) cl_Mo (pz rfl (by decide)) (by decide) (Or.inl kw_14) rfl (f := 2) rfl rfl rfl rfl d_Mo_end_2 h fun s hs h => ?_
  refine ww_aload_n (pc := 5) g.1 d_Mo_end_5 rfl (lv_at hl 0 rfl) ?_
  refine ww_iconst (pc := 6) g.1 (v := 1) d_Mo_end_6 (by decide) ?_
  refine ww_iload_n (pc := 7) g.1 d_Mo_end_7 rfl (lv_at hl 1 rfl) ?_
  refine ww_if_lt (pc := 8) (tgt := 19) g.1 d_Mo_end_8 (by decide) h (fun c h => ?_) (fun c h => ?_)
  · exact j_Mo_end_j19 g hR l1 1 s ls (lv_sub hl [0, 1] rfl) h
  · refine ww_iload_n (pc := 11) g.1 d_Mo_end_11 rfl (lv_at hl 1 rfl) ?_
    refine ww_aload_n (pc := 12) g.1 d_Mo_end_12 rfl (lv_at hl 0 rfl) ?_
    refine ww_gI (pc := 13) g (k := 1) cl_Mo (pz rfl (by decide)) (by decide) (Or.inl kw_21) (f := 1) rfl rfl d_Mo_end_13 h fun v13 h => ?_
    refine ww_icmp_le (pc := 16) (tgt := 23) g.1 d_Mo_end_16 (by decide) h (fun c h => ?_) (fun c h => ?_)
    · refine ww_iconst (pc := 23) g.1 (v := 0) d_Mo_end_23 (by decide) ?_
      exact j_Mo_end_j24 g hR l1 0 1 s ls (lv_sub hl [0, 1] rfl) h
    · exact j_Mo_end_j19 g hR l1 1 s ls (lv_sub hl [0, 1] rfl) h

abbrev b_Mo_bad : ByteArray := prog_14_method_6_code
def y_Mo_bad : MethodName := ⟨R_Mo, "bad", "(II)Z"⟩
abbrev w_Mo_bad : List Cond := .code y_Mo_bad b_Mo_bad 3 (some .boolean) :: wA
theorem k_Mo_bad : Cond.code y_Mo_bad b_Mo_bad 3 (some .boolean) ∈ wA := kinm (show _ ∈ tables_1 from (List.mem_append_right _ (List.mem_append_right _ (List.mem_append_right _ (List.mem_append_right _ (List.mem_append_right _ (List.mem_append_right _ (List.mem_append_right _ (List.mem_append_right _ (List.mem_append_right _ (List.mem_append_right _ (List.mem_append_left _ (List.mem_of_getElem? (l := tables_1_11) (i := 145) (by decide +kernel)))))))))))))) (by decide +kernel)
theorem d_Mo_bad_0 : decode b_Mo_bad 0 = .ok (.aload_n 0, 1) := by decide +kernel
theorem d_Mo_bad_1 : decode b_Mo_bad 1 = .ok (.getfield 21, 3) := by decide +kernel
theorem d_Mo_bad_4 : decode b_Mo_bad 4 = .ok (.ifCond .ne 13, 3) := by decide +kernel
theorem d_Mo_bad_7 : decode b_Mo_bad 7 = .ok (.aload_n 0, 1) := by decide +kernel
theorem d_Mo_bad_8 : decode b_Mo_bad 8 = .ok (.iload_n 1, 1) := by decide +kernel
theorem d_Mo_bad_9 : decode b_Mo_bad 9 = .ok (.putfield 21, 3) := by decide +kernel
theorem d_Mo_bad_12 : decode b_Mo_bad 12 = .ok (.aload_n 0, 1) := by decide +kernel
theorem d_Mo_bad_13 : decode b_Mo_bad 13 = .ok (.iload_n 2, 1) := by decide +kernel
theorem d_Mo_bad_14 : decode b_Mo_bad 14 = .ok (.putfield 24, 3) := by decide +kernel
theorem d_Mo_bad_17 : decode b_Mo_bad 17 = .ok (.iconst 0, 1) := by decide +kernel
theorem d_Mo_bad_18 : decode b_Mo_bad 18 = .ok (.ireturn, 1) := by decide +kernel
theorem kw_24 : Cond.fieldLink R_Mo 21 "LuaMachineModel" "fault" "I" ∈ wA := kinm (show _ ∈ tables_1 from (List.mem_append_right _ (List.mem_append_right _ (List.mem_append_right _ (List.mem_append_right _ (List.mem_append_right _ (List.mem_append_right _ (List.mem_append_right _ (List.mem_append_right _ (List.mem_append_right _ (List.mem_append_left _ (List.mem_of_getElem? (l := tables_1_10) (i := 57) (by decide +kernel))))))))))))) (by decide +kernel)
theorem kw_25 : Cond.fieldLink R_Mo 24 "LuaMachineModel" "faultAt" "I" ∈ wA := kinm (show _ ∈ tables_1 from (List.mem_append_right _ (List.mem_append_right _ (List.mem_append_right _ (List.mem_append_right _ (List.mem_append_right _ (List.mem_append_right _ (List.mem_append_right _ (List.mem_append_right _ (List.mem_append_right _ (List.mem_append_left _ (List.mem_of_getElem? (l := tables_1_10) (i := 58) (by decide +kernel))))))))))))) (by decide +kernel)
theorem kw_26 : Cond.instanceMethod y_Mo_bad ∈ wA := kinm (show _ ∈ tables_1 from (List.mem_append_right _ (List.mem_append_right _ (List.mem_append_right _ (List.mem_append_right _ (List.mem_append_right _ (List.mem_append_right _ (List.mem_append_right _ (List.mem_append_right _ (List.mem_append_right _ (List.mem_append_right _ (List.mem_append_left _ (List.mem_of_getElem? (l := tables_1_11) (i := 144) (by decide +kernel)))))))))))))) (by decide +kernel)
theorem kw_27 : Cond.selects R_Mo y_Mo_bad y_Mo_bad ∈ wA := kinp 113 (by decide +kernel) (by decide +kernel)
theorem cv_Mo_bad : CV y_Mo_bad b_Mo_bad 3 (some .boolean) 2 := ⟨kw_26, kw_27, kw_17, k_Mo_bad, by decide +kernel⟩
theorem ct_Mo_bad {l : Launch} {P : PP} {q : PL} {s s' : S1} {l1 : Int32} {l2 : Int32} {r : Int32} (h : M_Mo_bad l1 l2 s = some (r, s')) : Ct l y_Mo_bad b_Mo_bad 3 (some .boolean) 0 0 P q s [.ref (q.1 0 0), .int l1, .int l2] (some (.int r)) q s' := by
  refine ct_of (by decide) (Nat.le_of_ble_eq_true rfl) fun X ls eP el g hR hl => ?_
  subst eP
  have hR : Rt X q ((r, s') : Int32 × S1).2 (some (.int ((r, s') : Int32 × S1).1)) := hR
  have hl : lv_has ls 3 [(0, .ref (q.1 0 0)), (1, .int l1), (2, .int l2)] := hl
  generalize (r, s') = o at h hR
  unfold M_Mo_bad at h
  refine ww_aload_n (pc := 0) g.1 d_Mo_bad_0 rfl (lv_at hl 0 rfl) ?_
  refine ww_gI (pc := 1) g (k := 3) cl_Mo (pz rfl (by decide)) (by decide) (Or.inl kw_24) (f := 3) rfl rfl d_Mo_bad_1 h fun v1 h => ?_
  refine ww_if_ne (pc := 4) (tgt := 17) g.1 d_Mo_bad_4 (by decide) h (fun c h => ?_) (fun c h => ?_)
  · refine ww_iconst (pc := 17) g.1 (v := 0) d_Mo_bad_17 (by decide) ?_
    exact ww_zretH (pc := 18) g h hR (Or.inl rfl) d_Mo_bad_18
  · refine ww_aload_n (pc := 7) g.1 d_Mo_bad_7 rfl (lv_at hl 0 rfl) ?_
    refine ww_iload_n (pc := 8) g.1 d_Mo_bad_8 rfl (lv_at hl 1 rfl) ?_
    refine ww_pI (pc := 9) g (k := 3) cl_Mo (pz rfl (by decide)) (by decide) (Or.inl kw_24) rfl (f := 3) rfl rfl rfl rfl d_Mo_bad_9 h fun s hs h => ?_
    refine ww_aload_n (pc := 12) g.1 d_Mo_bad_12 rfl (lv_at hl 0 rfl) ?_
    refine ww_iload_n (pc := 13) g.1 d_Mo_bad_13 rfl (lv_at hl 2 rfl) ?_
    refine ww_pI (pc := 14) g (k := 4) cl_Mo (pz rfl (by decide)) (by decide) (Or.inl kw_25) rfl (f := 4) rfl rfl rfl rfl d_Mo_bad_14 h fun s hs h => ?_
    refine ww_iconst (pc := 17) g.1 (v := 0) d_Mo_bad_17 (by decide) ?_
    exact ww_zretH (pc := 18) g h hR (Or.inl rfl) d_Mo_bad_18


