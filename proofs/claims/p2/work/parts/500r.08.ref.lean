abbrev b_Mo_truth : ByteArray := prog_14_method_122_code
def y_Mo_truth : MethodName := ⟨R_Mo, "truth", "(I)Z"⟩
abbrev w_Mo_truth : List Cond := .code y_Mo_truth b_Mo_truth 1 (some .boolean) :: wA
theorem k_Mo_truth : Cond.code y_Mo_truth b_Mo_truth 1 (some .boolean) ∈ wA := kinm (show _ ∈ tables_1 from (List.mem_append_right _ (List.mem_append_right _ (List.mem_append_right _ (List.mem_append_right _ (List.mem_append_right _ (List.mem_append_right _ (List.mem_append_right _ (List.mem_append_right _ (List.mem_append_right _ (List.mem_append_right _ (List.mem_append_right _ (List.mem_append_right _ (List.mem_append_left _ (List.mem_of_getElem? (l := tables_1_13) (i := 190) (by decide +kernel)))))))))))))))) (by decide +kernel)
theorem d_Mo_truth_0 : decode b_Mo_truth 0 = .ok (.iload_n 0, 1) := by decide +kernel
theorem d_Mo_truth_1 : decode b_Mo_truth 1 = .ok (.iconst 1, 1) := by decide +kernel
theorem d_Mo_truth_2 : decode b_Mo_truth 2 = .ok (.if_icmp .le 7, 3) := by decide +kernel
theorem d_Mo_truth_5 : decode b_Mo_truth 5 = .ok (.iconst 1, 1) := by decide +kernel
theorem d_Mo_truth_6 : decode b_Mo_truth 6 = .ok (.goto 4, 3) := by decide +kernel
theorem d_Mo_truth_9 : decode b_Mo_truth 9 = .ok (.iconst 0, 1) := by decide +kernel
theorem d_Mo_truth_10 : decode b_Mo_truth 10 = .ok (.ireturn, 1) := by decide +kernel
theorem kw_266 : Cond.static y_Mo_truth ∈ wA := kinm (show _ ∈ tables_1 from (List.mem_append_right _ (List.mem_append_right _ (List.mem_append_right _ (List.mem_append_right _ (List.mem_append_right _ (List.mem_append_right _ (List.mem_append_right _ (List.mem_append_right _ (List.mem_append_right _ (List.mem_append_right _ (List.mem_append_right _ (List.mem_append_right _ (List.mem_append_left _ (List.mem_of_getElem? (l := tables_1_13) (i := 189) (by decide +kernel)))))))))))))))) (by decide +kernel)
theorem cs_Mo_truth : CS y_Mo_truth b_Mo_truth 1 (some .boolean) 1 := ⟨kw_266, kw_17, k_Mo_truth, by decide +kernel⟩
theorem ct_Mo_truth {l : Launch} {P : PP} {q : PL} {s s' : S1} {l0 : Int32} {r : Int32} (h : M_Mo_truth l0 s = some (r, s')) : Ct l y_Mo_truth b_Mo_truth 1 (some .boolean) 0 0 P q s [.int l0] (some (.int r)) q s' := by
  refine ct_of (by decide) (Nat.le_of_ble_eq_true rfl) fun X ls eP el g hR hl => ?_
  subst eP
  have hR : Rt X q ((r, s') : Int32 × S1).2 (some (.int ((r, s') : Int32 × S1).1)) := hR
  have hl : lv_has ls 1 [(0, .int l0)] := hl
  generalize (r, s') = o at h hR
  unfold M_Mo_truth at h
  refine ww_iload_n (pc := 0) g.1 d_Mo_truth_0 rfl (lv_at hl 0 rfl) ?_
  refine ww_iconst (pc := 1) g.1 (v := 1) d_Mo_truth_1 (by decide) ?_
  refine ww_icmp_le (pc := 2) (tgt := 9) g.1 d_Mo_truth_2 (by decide) h (fun c h => ?_) (fun c h => ?_)
  · refine ww_iconst (pc := 9) g.1 (v := 0) d_Mo_truth_9 (by decide) ?_
    exact ww_zretH (pc := 10) g h hR (Or.inl rfl) d_Mo_truth_10
  · refine ww_iconst (pc := 5) g.1 (v := 1) d_Mo_truth_5 (by decide) ?_
    refine ww_goto (pc := 6) (tgt := 10) g.1 d_Mo_truth_6 (by decide) ?_
    exact ww_zretH (pc := 10) g h hR (Or.inr rfl) d_Mo_truth_10

abbrev b_Mo_order : ByteArray := prog_14_method_127_code
def y_Mo_order : MethodName := ⟨R_Mo, "order", "(II)I"⟩
abbrev w_Mo_order : List Cond := .code y_Mo_order b_Mo_order 6 (some .int) :: wA
theorem k_Mo_order : Cond.code y_Mo_order b_Mo_order 6 (some .int) ∈ wA := kinm (show _ ∈ tables_1 from (List.mem_append_right _ (List.mem_append_right _ (List.mem_append_right _ (List.mem_append_right _ (List.mem_append_right _ (List.mem_append_right _ (List.mem_append_right _ (List.mem_append_right _ (List.mem_append_right _ (List.mem_append_right _ (List.mem_append_right _ (List.mem_append_right _ (List.mem_append_left _ (List.mem_of_getElem? (l := tables_1_13) (i := 202) (by decide +kernel)))))))))))))))) (by decide +kernel)
theorem d_Mo_order_0 : decode b_Mo_order 0 = .ok (.aload_n 0, 1) := by decide +kernel
theorem d_Mo_order_1 : decode b_Mo_order 1 = .ok (.getfield 171, 3) := by decide +kernel
theorem d_Mo_order_4 : decode b_Mo_order 4 = .ok (.iload_n 1, 1) := by decide +kernel
theorem d_Mo_order_5 : decode b_Mo_order 5 = .ok (.iaload, 1) := by decide +kernel
theorem d_Mo_order_6 : decode b_Mo_order 6 = .ok (.aload_n 0, 1) := by decide +kernel
theorem d_Mo_order_7 : decode b_Mo_order 7 = .ok (.getfield 171, 3) := by decide +kernel
theorem d_Mo_order_10 : decode b_Mo_order 10 = .ok (.iload_n 2, 1) := by decide +kernel
theorem d_Mo_order_11 : decode b_Mo_order 11 = .ok (.iaload, 1) := by decide +kernel
theorem d_Mo_order_12 : decode b_Mo_order 12 = .ok (.invokestatic 991, 3) := by decide +kernel
theorem d_Mo_order_15 : decode b_Mo_order 15 = .ok (.istore_n 3, 1) := by decide +kernel
theorem d_Mo_order_16 : decode b_Mo_order 16 = .ok (.iconst 0, 1) := by decide +kernel
theorem d_Mo_order_17 : decode b_Mo_order 17 = .ok (.istore 4, 2) := by decide +kernel
theorem d_Mo_order_19 : decode b_Mo_order 19 = .ok (.iload 4, 2) := by decide +kernel
theorem d_Mo_order_21 : decode b_Mo_order 21 = .ok (.iload_n 3, 1) := by decide +kernel
theorem d_Mo_order_22 : decode b_Mo_order 22 = .ok (.if_icmp .ge 56, 3) := by decide +kernel
theorem d_Mo_order_25 : decode b_Mo_order 25 = .ok (.aload_n 0, 1) := by decide +kernel
theorem d_Mo_order_26 : decode b_Mo_order 26 = .ok (.getfield 187, 3) := by decide +kernel
theorem d_Mo_order_29 : decode b_Mo_order 29 = .ok (.aload_n 0, 1) := by decide +kernel
theorem d_Mo_order_30 : decode b_Mo_order 30 = .ok (.getfield 168, 3) := by decide +kernel
theorem d_Mo_order_33 : decode b_Mo_order 33 = .ok (.iload_n 1, 1) := by decide +kernel
theorem d_Mo_order_34 : decode b_Mo_order 34 = .ok (.iaload, 1) := by decide +kernel
theorem d_Mo_order_35 : decode b_Mo_order 35 = .ok (.iload 4, 2) := by decide +kernel
theorem d_Mo_order_37 : decode b_Mo_order 37 = .ok (.iadd, 1) := by decide +kernel
theorem d_Mo_order_38 : decode b_Mo_order 38 = .ok (.baload, 1) := by decide +kernel
theorem d_Mo_order_39 : decode b_Mo_order 39 = .ok (.sipush 255, 3) := by decide +kernel
theorem d_Mo_order_42 : decode b_Mo_order 42 = .ok (.iand, 1) := by decide +kernel
theorem d_Mo_order_43 : decode b_Mo_order 43 = .ok (.aload_n 0, 1) := by decide +kernel
theorem d_Mo_order_44 : decode b_Mo_order 44 = .ok (.getfield 187, 3) := by decide +kernel
theorem d_Mo_order_47 : decode b_Mo_order 47 = .ok (.aload_n 0, 1) := by decide +kernel
theorem d_Mo_order_48 : decode b_Mo_order 48 = .ok (.getfield 168, 3) := by decide +kernel
theorem d_Mo_order_51 : decode b_Mo_order 51 = .ok (.iload_n 2, 1) := by decide +kernel
theorem d_Mo_order_52 : decode b_Mo_order 52 = .ok (.iaload, 1) := by decide +kernel
theorem d_Mo_order_53 : decode b_Mo_order 53 = .ok (.iload 4, 2) := by decide +kernel
theorem d_Mo_order_55 : decode b_Mo_order 55 = .ok (.iadd, 1) := by decide +kernel
theorem d_Mo_order_56 : decode b_Mo_order 56 = .ok (.baload, 1) := by decide +kernel
theorem d_Mo_order_57 : decode b_Mo_order 57 = .ok (.sipush 255, 3) := by decide +kernel
theorem d_Mo_order_60 : decode b_Mo_order 60 = .ok (.iand, 1) := by decide +kernel
theorem d_Mo_order_61 : decode b_Mo_order 61 = .ok (.isub, 1) := by decide +kernel
theorem d_Mo_order_62 : decode b_Mo_order 62 = .ok (.istore 5, 2) := by decide +kernel
theorem d_Mo_order_64 : decode b_Mo_order 64 = .ok (.iload 5, 2) := by decide +kernel
theorem d_Mo_order_66 : decode b_Mo_order 66 = .ok (.ifCond .eq 6, 3) := by decide +kernel
theorem d_Mo_order_69 : decode b_Mo_order 69 = .ok (.iload 5, 2) := by decide +kernel
theorem d_Mo_order_71 : decode b_Mo_order 71 = .ok (.ireturn, 1) := by decide +kernel
theorem d_Mo_order_72 : decode b_Mo_order 72 = .ok (.iinc 4 1, 3) := by decide +kernel
theorem d_Mo_order_75 : decode b_Mo_order 75 = .ok (.goto (-56), 3) := by decide +kernel
theorem d_Mo_order_78 : decode b_Mo_order 78 = .ok (.aload_n 0, 1) := by decide +kernel
theorem d_Mo_order_79 : decode b_Mo_order 79 = .ok (.getfield 171, 3) := by decide +kernel
theorem d_Mo_order_82 : decode b_Mo_order 82 = .ok (.iload_n 1, 1) := by decide +kernel
theorem d_Mo_order_83 : decode b_Mo_order 83 = .ok (.iaload, 1) := by decide +kernel
theorem d_Mo_order_84 : decode b_Mo_order 84 = .ok (.aload_n 0, 1) := by decide +kernel
theorem d_Mo_order_85 : decode b_Mo_order 85 = .ok (.getfield 171, 3) := by decide +kernel
theorem d_Mo_order_88 : decode b_Mo_order 88 = .ok (.iload_n 2, 1) := by decide +kernel
theorem d_Mo_order_89 : decode b_Mo_order 89 = .ok (.iaload, 1) := by decide +kernel
theorem d_Mo_order_90 : decode b_Mo_order 90 = .ok (.isub, 1) := by decide +kernel
theorem d_Mo_order_91 : decode b_Mo_order 91 = .ok (.ireturn, 1) := by decide +kernel
theorem kw_267 : Cond.methodLink R_Mo 991 y_Mth_min ∈ wA := kinm (show _ ∈ tables_1 from (List.mem_append_right _ (List.mem_append_right _ (List.mem_append_right _ (List.mem_append_right _ (List.mem_append_right _ (List.mem_append_right _ (List.mem_append_right _ (List.mem_append_right _ (List.mem_append_right _ (List.mem_append_right _ (List.mem_append_right _ (List.mem_append_right _ (List.mem_append_left _ (List.mem_of_getElem? (l := tables_1_13) (i := 203) (by decide +kernel)))))))))))))))) (by decide +kernel)
theorem kw_268 : Cond.instanceMethod y_Mo_order ∈ wA := kinm (show _ ∈ tables_1 from (List.mem_append_right _ (List.mem_append_right _ (List.mem_append_right _ (List.mem_append_right _ (List.mem_append_right _ (List.mem_append_right _ (List.mem_append_right _ (List.mem_append_right _ (List.mem_append_right _ (List.mem_append_right _ (List.mem_append_right _ (List.mem_append_right _ (List.mem_append_left _ (List.mem_of_getElem? (l := tables_1_13) (i := 201) (by decide +kernel)))))))))))))))) (by decide +kernel)
theorem kw_269 : Cond.selects R_Mo y_Mo_order y_Mo_order ∈ wA := kinp 217 (by decide +kernel) (by decide +kernel)
theorem cv_Mo_order : CV y_Mo_order b_Mo_order 6 (some .int) 2 := ⟨kw_268, kw_269, kw_17, k_Mo_order, by decide +kernel⟩
theorem lp_Mo_order_L19 {X : Cx} {q : PL} (g : Gd X y_Mo_order b_Mo_order 6 (some .int) 1 21 R_Mo) (x : Int32 × Int32 × Int32 × Int32) (s : S1) (o : ((Int32 × Int32 × Int32 × Int32) ⊕ ((Int32) ⊕ (Int32 × Int32))) × S1) (h : M_Mo_order_L19 x s = some o) (hR : (Sum.elim (fun y : Int32 × Int32 × Int32 × Int32 => ∀ ls : Array Slot, lv_has ls 6 [(0, .ref (q.1 0 0)), (1, .int y.1), (2, .int y.2.1), (3, .int y.2.2.1), (4, .int y.2.2.2)] → WW X q o.2 19 ls []) (Sum.elim (fun y : Int32 => ∀ ls : Array Slot, lv_has ls 6 [(5, .int y)] → WW X q o.2 69 ls []) (fun y : Int32 × Int32 => ∀ ls : Array Slot, lv_has ls 6 [(0, .ref (q.1 0 0)), (1, .int y.1), (2, .int y.2)] → WW X q o.2 78 ls [])) o.1)) : ∀ ls : Array Slot, lv_has ls 6 [(0, .ref (q.1 0 0)), (1, .int x.1), (2, .int x.2.1), (3, .int x.2.2.1), (4, .int x.2.2.2)] → WW X q s 19 ls [] := by
  intro ls hl
  unfold M_Mo_order_L19 at h
  refine ww_iload (pc := 19) g.1 d_Mo_order_19 (lv_at hl 4 rfl) ?_
  refine ww_iload_n (pc := 21) g.1 d_Mo_order_21 rfl (lv_at hl 3 rfl) ?_
  refine ww_icmp_ge (pc := 22) (tgt := 78) g.1 d_Mo_order_22 (by decide) h (fun c h => ?_) (fun c h => ?_)
  · rw [oR_eq h] at hR
    exact hR ls (lv_sub hl [0, 1, 2] rfl)
  · refine ww_aload_n (pc := 25) g.1 d_Mo_order_25 rfl (lv_at hl 0 rfl) ?_
    refine ww_gR (pc := 26) g (k := 55) cl_Mo (pz rfl (by decide)) (by decide) (Or.inl kw_200) (f := 55) (t := 67) rfl rfl rfl d_Mo_order_26 ?_
    refine ww_aload_n (pc := 29) g.1 d_Mo_order_29 rfl (lv_at hl 0 rfl) ?_
    refine ww_gR (pc := 30) g (k := 49) cl_Mo (pz rfl (by decide)) (by decide) (Or.inl kw_87) (f := 49) (t := 62) rfl rfl rfl d_Mo_order_30 ?_
    refine ww_iload_n (pc := 33) g.1 d_Mo_order_33 rfl (lv_at hl 1 rfl) ?_
    refine ww_ai (pc := 34) g (pz rfl (by decide)) rfl rfl d_Mo_order_34 h fun v34 h => ?_
    refine ww_iload (pc := 35) g.1 d_Mo_order_35 (lv_at hl 4 rfl) ?_
    refine ww_iadd (pc := 37) g.1 d_Mo_order_37 ?_
    refine ww_ab (pc := 38) g (pz rfl (by decide)) rfl rfl d_Mo_order_38 h fun v38 h => ?_
    refine ww_sipush (pc := 39) g.1 (v := 255) d_Mo_order_39 (by decide) ?_
    refine ww_iand (pc := 42) g.1 d_Mo_order_42 ?_
    refine ww_aload_n (pc := 43) g.1 d_Mo_order_43 rfl (lv_at hl 0 rfl) ?_
    refine ww_gR (pc := 44) g (k := 55) cl_Mo (pz rfl (by decide)) (by decide) (Or.inl kw_200) (f := 55) (t := 67) rfl rfl rfl d_Mo_order_44 ?_
    refine ww_aload_n (pc := 47) g.1 d_Mo_order_47 rfl (lv_at hl 0 rfl) ?_
    refine ww_gR (pc := 48) g (k := 49) cl_Mo (pz rfl (by decide)) (by decide) (Or.inl kw_87) (f := 49) (t := 62) rfl rfl rfl d_Mo_order_48 ?_
    refine ww_iload_n (pc := 51) g.1 d_Mo_order_51 rfl (lv_at hl 2 rfl) ?_
    refine ww_ai (pc := 52) g (pz rfl (by decide)) rfl rfl d_Mo_order_52 h fun v52 h => ?_
    refine ww_iload (pc := 53) g.1 d_Mo_order_53 (lv_at hl 4 rfl) ?_
    refine ww_iadd (pc := 55) g.1 d_Mo_order_55 ?_
    refine ww_ab (pc := 56) g (pz rfl (by decide)) rfl rfl d_Mo_order_56 h fun v56 h => ?_
    refine ww_sipush (pc := 57) g.1 (v := 255) d_Mo_order_57 (by decide) ?_
    refine ww_iand (pc := 60) g.1 d_Mo_order_60 ?_
    refine ww_isub (pc := 61) g.1 d_Mo_order_61 ?_
    refine ww_leti h fun l5_62 h => ?_
    refine ww_istore (pc := 62) (i := 5) g.1 (lv' := [(5, .int l5_62), (0, .ref (q.1 0 0)), (1, .int x.1), (2, .int x.2.1), (3, .int x.2.2.1), (4, .int x.2.2.2)]) d_Mo_order_62 hl (by decide) rfl fun ls hl => ?_
    refine ww_iload (pc := 64) g.1 d_Mo_order_64 (lv_at hl 0 rfl) ?_
    refine ww_if_eq (pc := 66) (tgt := 72) g.1 d_Mo_order_66 (by decide) h (fun c h => ?_) (fun c h => ?_)
    · refine ww_iinc (pc := 72) g.1 (v := x.2.2.2 + 1) (lv' := [(4, .int (x.2.2.2 + 1)), (5, .int l5_62), (0, .ref (q.1 0 0)), (1, .int x.1), (2, .int x.2.1), (3, .int x.2.2.1)]) d_Mo_order_72 hl (k := 5) rfl (by rfl) (by decide) rfl fun ls hl => ?_
      refine ww_goto (pc := 75) (tgt := 19) g.1 d_Mo_order_75 (by decide) ?_
      rw [oR_eq h] at hR
      exact hR ls (lv_sub hl [2, 3, 4, 5, 0] rfl)
    · rw [oR_eq h] at hR
      exact hR ls (lv_sub hl [0] rfl)

theorem ct_Mo_order {l : Launch} {P : PP} {q : PL} {s s' : S1} {l1 : Int32} {l2 : Int32} {r : Int32} (h : M_Mo_order l1 l2 s = some (r, s')) : Ct l y_Mo_order b_Mo_order 6 (some .int) 1 21 P q s [.ref (q.1 0 0), .int l1, .int l2] (some (.int r)) q s' := by
  refine ct_of (by decide) (Nat.le_of_ble_eq_true rfl) fun X ls eP el g hR hl => ?_
  subst eP
  have hR : Rt X q ((r, s') : Int32 × S1).2 (some (.int ((r, s') : Int32 × S1).1)) := hR
  have hl : lv_has ls 6 [(0, .ref (q.1 0 0)), (1, .int l1), (2, .int l2)] := hl
  generalize (r, s') = o at h hR
  unfold M_Mo_order at h
  refine ww_aload_n (pc := 0) g.1 d_Mo_order_0 rfl (lv_at hl 0 rfl) ?_
  refine ww_gR (pc := 1) g (k := 50) cl_Mo (pz rfl (by decide)) (by decide) (Or.inl kw_91) (f := 50) (t := 63) rfl rfl rfl d_Mo_order_1 ?_
  refine ww_iload_n (pc := 4) g.1 d_Mo_order_4 rfl (lv_at hl 1 rfl) ?_
  refine ww_ai (pc := 5) g (pz rfl (by decide)) rfl rfl d_Mo_order_5 h fun v5 h => ?_
  refine ww_aload_n (pc := 6) g.1 d_Mo_order_6 rfl (lv_at hl 0 rfl) ?_
  refine ww_gR (pc := 7) g (k := 50) cl_Mo (pz rfl (by decide)) (by decide) (Or.inl kw_91) (f := 50) (t := 63) rfl rfl rfl d_Mo_order_7 ?_
  refine ww_iload_n (pc := 10) g.1 d_Mo_order_10 rfl (lv_at hl 2 rfl) ?_
  refine ww_ai (pc := 11) g (pz rfl (by decide)) rfl rfl d_Mo_order_11 h fun v11 h => ?_
  obtain ⟨v12, s, hc12, h⟩ := oB_of h
  refine ww_callS (pc := 12) (rest := []) g cs_Mth_min (Or.inl kw_267) (ct_Mth_min hc12) ⟨by decide, by decide⟩ rfl hl.1 (Nat.le_of_ble_eq_true rfl) d_Mo_order_12 rfl ?_
  refine ww_st (st' := [.int v12]) rfl ?_
  refine ww_istore_n (pc := 15) (i := 3) g.1 (lv' := [(3, .int v12), (0, .ref (q.1 0 0)), (1, .int l1), (2, .int l2)]) d_Mo_order_15 rfl hl (by decide) rfl fun ls hl => ?_
  refine ww_iconst (pc := 16) g.1 (v := 0) d_Mo_order_16 (by decide) ?_
  refine ww_istore (pc := 17) (i := 4) g.1 (lv' := [(4, .int 0), (3, .int v12), (0, .ref (q.1 0 0)), (1, .int l1), (2, .int l2)]) d_Mo_order_17 hl (by decide) rfl fun ls hl => ?_
  obtain ⟨e19, s1, hw, h⟩ := oB_of h
  refine oW_rule (Wh := fun (x : Int32 × Int32 × Int32 × Int32) (s : S1) => ∀ ls : Array Slot, lv_has ls 6 [(0, .ref (q.1 0 0)), (1, .int x.1), (2, .int x.2.1), (3, .int x.2.2.1), (4, .int x.2.2.2)] → WW X q s 19 ls []) (We := fun (e : (Int32) ⊕ (Int32 × Int32)) (s : S1) => (Sum.elim (fun y : Int32 => ∀ ls : Array Slot, lv_has ls 6 [(5, .int y)] → WW X q s 69 ls []) (fun y : Int32 × Int32 => ∀ ls : Array Slot, lv_has ls 6 [(0, .ref (q.1 0 0)), (1, .int y.1), (2, .int y.2)] → WW X q s 78 ls [])) e) (fun x s o hb hc => lp_Mo_order_L19 (q := q) g x s o hb hc) hw ?_ ls (lv_sub hl [2, 3, 4, 1, 0] rfl)
  clear hw hl
  clear ls
  generalize s1 = s at h ⊢
  rcases e19 with y19_69 | y19_78
  · intro ls hl
    dsimp only [Sum.elim_inl, Sum.elim_inr] at h
    refine ww_iload (pc := 69) g.1 d_Mo_order_69 (lv_at hl 0 rfl) ?_
    exact ww_iretH (pc := 71) g h hR d_Mo_order_71
  · intro ls hl
    dsimp only [Sum.elim_inl, Sum.elim_inr] at h
    refine ww_aload_n (pc := 78) g.1 d_Mo_order_78 rfl (lv_at hl 0 rfl) ?_
    refine ww_gR (pc := 79) g (k := 50) cl_Mo (pz rfl (by decide)) (by decide) (Or.inl kw_91) (f := 50) (t := 63) rfl rfl rfl d_Mo_order_79 ?_
    refine ww_iload_n (pc := 82) g.1 d_Mo_order_82 rfl (lv_at hl 1 rfl) ?_
    refine ww_ai (pc := 83) g (pz rfl (by decide)) rfl rfl d_Mo_order_83 h fun v83 h => ?_
    refine ww_aload_n (pc := 84) g.1 d_Mo_order_84 rfl (lv_at hl 0 rfl) ?_
    refine ww_gR (pc := 85) g (k := 50) cl_Mo (pz rfl (by decide)) (by decide) (Or.inl kw_91) (f := 50) (t := 63) rfl rfl rfl d_Mo_order_85 ?_
    refine ww_iload_n (pc := 88) g.1 d_Mo_order_88 rfl (lv_at hl 2 rfl) ?_
    refine ww_ai (pc := 89) g (pz rfl (by decide)) rfl rfl d_Mo_order_89 h fun v89 h => ?_
    refine ww_isub (pc := 90) g.1 d_Mo_order_90 ?_
    exact ww_iretH (pc := 91) g h hR d_Mo_order_91

abbrev b_Mo_addAt : ByteArray := prog_14_method_129_code
def y_Mo_addAt : MethodName := ⟨R_Mo, "addAt", "(LLuaMachineModel$Values;LLuaMachineModel$Thread_;IZI)V"⟩
abbrev w_Mo_addAt : List Cond := .code y_Mo_addAt b_Mo_addAt 6 none :: wA
theorem k_Mo_addAt : Cond.code y_Mo_addAt b_Mo_addAt 6 none ∈ wA := kinm (show _ ∈ tables_1 from (List.mem_append_right _ (List.mem_append_right _ (List.mem_append_right _ (List.mem_append_right _ (List.mem_append_right _ (List.mem_append_right _ (List.mem_append_right _ (List.mem_append_right _ (List.mem_append_right _ (List.mem_append_right _ (List.mem_append_right _ (List.mem_append_right _ (List.mem_append_left _ (List.mem_of_getElem? (l := tables_1_13) (i := 215) (by decide +kernel)))))))))))))))) (by decide +kernel)
theorem d_Mo_addAt_0 : decode b_Mo_addAt 0 = .ok (.iload 4, 2) := by decide +kernel
theorem d_Mo_addAt_2 : decode b_Mo_addAt 2 = .ok (.ifCond .eq 34, 3) := by decide +kernel
theorem d_Mo_addAt_5 : decode b_Mo_addAt 5 = .ok (.iload 5, 2) := by decide +kernel
theorem d_Mo_addAt_7 : decode b_Mo_addAt 7 = .ok (.aload_n 2, 1) := by decide +kernel
theorem d_Mo_addAt_8 : decode b_Mo_addAt 8 = .ok (.getfield 773, 3) := by decide +kernel
theorem d_Mo_addAt_11 : decode b_Mo_addAt 11 = .ok (.iload_n 3, 1) := by decide +kernel
theorem d_Mo_addAt_12 : decode b_Mo_addAt 12 = .ok (.iaload, 1) := by decide +kernel
theorem d_Mo_addAt_13 : decode b_Mo_addAt 13 = .ok (.if_icmp .lt 23, 3) := by decide +kernel
theorem d_Mo_addAt_16 : decode b_Mo_addAt 16 = .ok (.aload_n 1, 1) := by decide +kernel
theorem d_Mo_addAt_17 : decode b_Mo_addAt 17 = .ok (.aload_n 2, 1) := by decide +kernel
theorem d_Mo_addAt_18 : decode b_Mo_addAt 18 = .ok (.getfield 767, 3) := by decide +kernel
theorem d_Mo_addAt_21 : decode b_Mo_addAt 21 = .ok (.iload 5, 2) := by decide +kernel
theorem d_Mo_addAt_23 : decode b_Mo_addAt 23 = .ok (.aload_n 2, 1) := by decide +kernel
theorem d_Mo_addAt_24 : decode b_Mo_addAt 24 = .ok (.getfield 773, 3) := by decide +kernel
theorem d_Mo_addAt_27 : decode b_Mo_addAt 27 = .ok (.iload_n 3, 1) := by decide +kernel
theorem d_Mo_addAt_28 : decode b_Mo_addAt 28 = .ok (.iaload, 1) := by decide +kernel
theorem d_Mo_addAt_29 : decode b_Mo_addAt 29 = .ok (.isub, 1) := by decide +kernel
theorem d_Mo_addAt_30 : decode b_Mo_addAt 30 = .ok (.invokevirtual 770, 3) := by decide +kernel
theorem d_Mo_addAt_33 : decode b_Mo_addAt 33 = .ok (.goto 20, 3) := by decide +kernel
theorem d_Mo_addAt_36 : decode b_Mo_addAt 36 = .ok (.aload_n 1, 1) := by decide +kernel
theorem d_Mo_addAt_37 : decode b_Mo_addAt 37 = .ok (.aload_n 2, 1) := by decide +kernel
theorem d_Mo_addAt_38 : decode b_Mo_addAt 38 = .ok (.getfield 591, 3) := by decide +kernel
theorem d_Mo_addAt_41 : decode b_Mo_addAt 41 = .ok (.aload_n 2, 1) := by decide +kernel
theorem d_Mo_addAt_42 : decode b_Mo_addAt 42 = .ok (.getfield 744, 3) := by decide +kernel
theorem d_Mo_addAt_45 : decode b_Mo_addAt 45 = .ok (.iload_n 3, 1) := by decide +kernel
theorem d_Mo_addAt_46 : decode b_Mo_addAt 46 = .ok (.iaload, 1) := by decide +kernel
theorem d_Mo_addAt_47 : decode b_Mo_addAt 47 = .ok (.iload 5, 2) := by decide +kernel
theorem d_Mo_addAt_49 : decode b_Mo_addAt 49 = .ok (.iadd, 1) := by decide +kernel
theorem d_Mo_addAt_50 : decode b_Mo_addAt 50 = .ok (.invokevirtual 770, 3) := by decide +kernel
theorem d_Mo_addAt_53 : decode b_Mo_addAt 53 = .ok (.return_, 1) := by decide +kernel
theorem kw_270 : Cond.fieldLink R_Mo 773 "LuaMachineModel$Thread_" "rowAt" "[I" ∈ wA := kinm (show _ ∈ tables_1 from (List.mem_append_right _ (List.mem_append_right _ (List.mem_append_right _ (List.mem_append_right _ (List.mem_append_right _ (List.mem_append_right _ (List.mem_append_right _ (List.mem_append_right _ (List.mem_append_left _ (List.mem_of_getElem? (l := tables_1_9) (i := 237) (by decide +kernel)))))))))))) (by decide +kernel)
theorem kw_271 : Cond.fieldLink R_Mo 767 "LuaMachineModel$Thread_" "row" "LLuaMachineModel$Values;" ∈ wA := kinm (show _ ∈ tables_1 from (List.mem_append_right _ (List.mem_append_right _ (List.mem_append_right _ (List.mem_append_right _ (List.mem_append_right _ (List.mem_append_right _ (List.mem_append_right _ (List.mem_append_right _ (List.mem_append_left _ (List.mem_of_getElem? (l := tables_1_9) (i := 221) (by decide +kernel)))))))))))) (by decide +kernel)
theorem kw_272 : Cond.instanceMethod y_Mo_addAt ∈ wA := kinm (show _ ∈ tables_1 from (List.mem_append_right _ (List.mem_append_right _ (List.mem_append_right _ (List.mem_append_right _ (List.mem_append_right _ (List.mem_append_right _ (List.mem_append_right _ (List.mem_append_right _ (List.mem_append_right _ (List.mem_append_right _ (List.mem_append_right _ (List.mem_append_right _ (List.mem_append_left _ (List.mem_of_getElem? (l := tables_1_13) (i := 214) (by decide +kernel)))))))))))))))) (by decide +kernel)
theorem kw_273 : Cond.selects R_Mo y_Mo_addAt y_Mo_addAt ∈ wA := kinp 220 (by decide +kernel) (by decide +kernel)
theorem cv_Mo_addAt : CV y_Mo_addAt b_Mo_addAt 6 none 5 := ⟨kw_272, kw_273, kw_17, k_Mo_addAt, by decide +kernel⟩
theorem j_Mo_addAt_j36 {X : Cx} {q : PL} (g : Gd X y_Mo_addAt b_Mo_addAt 6 none 2 45 R_Mo) {o : (Unit) × S1} (hR : Rt X q o.2 none) (l1r : Nat) (l1 : Int32) (l2 : Int32) (l3 : Int32) (l5 : Int32) (s : S1) (hp0 : VOK l1r l1) (hp1 : 0 ≤ l2 ∧ l2 < 33) (ls : Array Slot) (hl : lv_has ls 6 [(1, .ref (q.1 l1r l1)), (2, .ref (q.1 28 l2)), (3, .int l3), (5, .int l5)]) (h : M_Mo_addAt_j36 l1r l1 l2 l3 l5 s = some o) : WW X q s 36 ls [] := by
  unfold M_Mo_addAt_j36 at h
  refine ww_aload_n (pc := 36) g.1 d_Mo_addAt_36 rfl (lv_at hl 0 rfl) ?_
  refine ww_aload_n (pc := 37) g.1 d_Mo_addAt_37 rfl (lv_at hl 1 rfl) ?_
  refine ww_gR (pc := 38) g (k := 7) cl_Th (pt rfl rfl hp1) (by decide) (Or.inl kw_89) (f := 3591) (t := 19) rfl rfl rfl d_Mo_addAt_38 ?_
  refine ww_aload_n (pc := 41) g.1 d_Mo_addAt_41 rfl (lv_at hl 1 rfl) ?_
  refine ww_gR (pc := 42) g (k := 14) cl_Th (pt rfl rfl hp1) (by decide) (Or.inl kw_254) (f := 3598) (t := 33) rfl rfl rfl d_Mo_addAt_42 ?_
  refine ww_iload_n (pc := 45) g.1 d_Mo_addAt_45 rfl (lv_at hl 2 rfl) ?_
  refine ww_ai (pc := 46) g (pt rfl rfl hp1) rfl rfl d_Mo_addAt_46 h fun v46 h => ?_
  refine ww_iload (pc := 47) g.1 d_Mo_addAt_47 (lv_at hl 3 rfl) ?_
  refine ww_iadd (pc := 49) g.1 d_Mo_addAt_49 ?_
  obtain ⟨v50, s, hc50, h⟩ := oB_of h
  refine ww_callV (pc := 50) (rest := []) g cv_Va_add_ (Or.inl kw_221) (cl_Va hp0) (vok_p hp0).1 (ct_Va_add_ hp0 (Or.inr ⟨by decide, hp1⟩) hc50) ⟨by decide, by decide⟩ rfl hl.1 (Nat.le_of_ble_eq_true rfl) d_Mo_addAt_50 rfl ?_
  refine ww_st (st' := []) rfl ?_
  exact ww_vretH (pc := 53) g h hR d_Mo_addAt_53

theorem ct_Mo_addAt {l : Launch} {P : PP} {q : PL} {s s' : S1} {l1r : Nat} {l1 : Int32} {l2 : Int32} {l3 : Int32} {l4 : Int32} {l5 : Int32} (hp0 : VOK l1r l1) (hp1 : 0 ≤ l2 ∧ l2 < 33) {r : Unit} (h : M_Mo_addAt l1r l1 l2 l3 l4 l5 s = some (r, s')) : Ct l y_Mo_addAt b_Mo_addAt 6 none 2 45 P q s [.ref (q.1 0 0), .ref (q.1 l1r l1), .ref (q.1 28 l2), .int l3, .int l4, .int l5] none q s' := by
  refine ct_of (by decide) (Nat.le_of_ble_eq_true rfl) fun X ls eP el g hR hl => ?_
  subst eP
  have hR : Rt X q ((r, s') : Unit × S1).2 none := hR
  have hl : lv_has ls 6 [(0, .ref (q.1 0 0)), (1, .ref (q.1 l1r l1)), (2, .ref (q.1 28 l2)), (3, .int l3), (4, .int l4), (5, .int l5)] := hl
  generalize (r, s') = o at h hR
  unfold M_Mo_addAt at h
  refine ww_iload (pc := 0) g.1 d_Mo_addAt_0 (lv_at hl 4 rfl) ?_
  refine ww_if_eq (pc := 2) (tgt := 36) g.1 d_Mo_addAt_2 (by decide) h (fun c h => ?_) (fun c h => ?_)
  · exact j_Mo_addAt_j36 g hR l1r l1 l2 l3 l5 s hp0 hp1 ls (lv_sub hl [1, 2, 3, 5] rfl) h
  · refine ww_iload (pc := 5) g.1 d_Mo_addAt_5 (lv_at hl 5 rfl) ?_
    refine ww_aload_n (pc := 7) g.1 d_Mo_addAt_7 rfl (lv_at hl 2 rfl) ?_
    refine ww_gR (pc := 8) g (k := 16) cl_Th (pt rfl rfl hp1) (by decide) (Or.inl kw_270) (f := 3600) (t := 35) rfl rfl rfl d_Mo_addAt_8 ?_
    refine ww_iload_n (pc := 11) g.1 d_Mo_addAt_11 rfl (lv_at hl 3 rfl) ?_
    refine ww_ai (pc := 12) g (pt rfl rfl hp1) rfl rfl d_Mo_addAt_12 h fun v12 h => ?_
    refine ww_icmp_lt (pc := 13) (tgt := 36) g.1 d_Mo_addAt_13 (by decide) h (fun c h => ?_) (fun c h => ?_)
    · exact j_Mo_addAt_j36 g hR l1r l1 l2 l3 l5 s hp0 hp1 ls (lv_sub hl [1, 2, 3, 5] rfl) h
    · refine ww_aload_n (pc := 16) g.1 d_Mo_addAt_16 rfl (lv_at hl 1 rfl) ?_
      refine ww_aload_n (pc := 17) g.1 d_Mo_addAt_17 rfl (lv_at hl 2 rfl) ?_
      refine ww_gR (pc := 18) g (k := 8) cl_Th (pt rfl rfl hp1) (by decide) (Or.inl kw_271) (f := 3592) (t := 22) rfl rfl rfl d_Mo_addAt_18 ?_
      refine ww_iload (pc := 21) g.1 d_Mo_addAt_21 (lv_at hl 5 rfl) ?_
      refine ww_aload_n (pc := 23) g.1 d_Mo_addAt_23 rfl (lv_at hl 2 rfl) ?_
      refine ww_gR (pc := 24) g (k := 16) cl_Th (pt rfl rfl hp1) (by decide) (Or.inl kw_270) (f := 3600) (t := 35) rfl rfl rfl d_Mo_addAt_24 ?_
      refine ww_iload_n (pc := 27) g.1 d_Mo_addAt_27 rfl (lv_at hl 3 rfl) ?_
      refine ww_ai (pc := 28) g (pt rfl rfl hp1) rfl rfl d_Mo_addAt_28 h fun v28 h => ?_
      refine ww_isub (pc := 29) g.1 d_Mo_addAt_29 ?_
      obtain ⟨v30, s, hc30, h⟩ := oB_of h
      refine ww_callV (pc := 30) (rest := []) g cv_Va_add_ (Or.inl kw_221) (cl_Va hp0) (vok_p hp0).1 (ct_Va_add_ hp0 (Or.inr ⟨by decide, hp1⟩) hc30) ⟨by decide, by decide⟩ rfl hl.1 (Nat.le_of_ble_eq_true rfl) d_Mo_addAt_30 rfl ?_
      refine ww_st (st' := []) rfl ?_
      refine ww_goto (pc := 33) (tgt := 53) g.1 d_Mo_addAt_33 (by decide) ?_
      exact ww_vretH (pc := 53) g h hR d_Mo_addAt_53

abbrev b_Mo_loop : ByteArray := prog_14_method_131_code
def y_Mo_loop : MethodName := ⟨R_Mo, "loop", "(LLuaMachineModel$Thread_;IILLuaMachineModel$Values;I)V"⟩
abbrev w_Mo_loop : List Cond := .code y_Mo_loop b_Mo_loop 7 none :: wA
set_option maxRecDepth 20000 in
theorem k_Mo_loop : Cond.code y_Mo_loop b_Mo_loop 7 none ∈ wA := kinm (show _ ∈ tables_1 from (List.mem_append_right _ (List.mem_append_right _ (List.mem_append_right _ (List.mem_append_right _ (List.mem_append_right _ (List.mem_append_right _ (List.mem_append_right _ (List.mem_append_right _ (List.mem_append_right _ (List.mem_append_right _ (List.mem_append_right _ (List.mem_append_right _ (List.mem_append_left _ (List.mem_of_getElem? (l := tables_1_13) (i := 219) rfl))))))))))))))) rfl
theorem d_Mo_loop_0 : decode b_Mo_loop 0 = .ok (.aload 4, 2) := by decide +kernel
theorem d_Mo_loop_2 : decode b_Mo_loop 2 = .ok (.getfield 585, 3) := by decide +kernel
theorem d_Mo_loop_5 : decode b_Mo_loop 5 = .ok (.iload 5, 2) := by decide +kernel
theorem d_Mo_loop_7 : decode b_Mo_loop 7 = .ok (.iconst 2, 1) := by decide +kernel
theorem d_Mo_loop_8 : decode b_Mo_loop 8 = .ok (.iadd, 1) := by decide +kernel
theorem d_Mo_loop_9 : decode b_Mo_loop 9 = .ok (.baload, 1) := by decide +kernel
theorem d_Mo_loop_10 : decode b_Mo_loop 10 = .ok (.iconst 3, 1) := by decide +kernel
theorem d_Mo_loop_11 : decode b_Mo_loop 11 = .ok (.if_icmp .ne 29, 3) := by decide +kernel
theorem d_Mo_loop_14 : decode b_Mo_loop 14 = .ok (.aload 4, 2) := by decide +kernel
theorem d_Mo_loop_16 : decode b_Mo_loop 16 = .ok (.getfield 585, 3) := by decide +kernel
theorem d_Mo_loop_19 : decode b_Mo_loop 19 = .ok (.iload 5, 2) := by decide +kernel
theorem d_Mo_loop_21 : decode b_Mo_loop 21 = .ok (.baload, 1) := by decide +kernel
theorem d_Mo_loop_22 : decode b_Mo_loop 22 = .ok (.iconst 3, 1) := by decide +kernel
theorem d_Mo_loop_23 : decode b_Mo_loop 23 = .ok (.if_icmp .ne 17, 3) := by decide +kernel
theorem d_Mo_loop_26 : decode b_Mo_loop 26 = .ok (.aload 4, 2) := by decide +kernel
theorem d_Mo_loop_28 : decode b_Mo_loop 28 = .ok (.getfield 585, 3) := by decide +kernel
theorem d_Mo_loop_31 : decode b_Mo_loop 31 = .ok (.iload 5, 2) := by decide +kernel
theorem d_Mo_loop_33 : decode b_Mo_loop 33 = .ok (.iconst 1, 1) := by decide +kernel
theorem d_Mo_loop_34 : decode b_Mo_loop 34 = .ok (.iadd, 1) := by decide +kernel
theorem d_Mo_loop_35 : decode b_Mo_loop 35 = .ok (.baload, 1) := by decide +kernel
theorem d_Mo_loop_36 : decode b_Mo_loop 36 = .ok (.iconst 3, 1) := by decide +kernel
theorem d_Mo_loop_37 : decode b_Mo_loop 37 = .ok (.if_icmp .eq 10, 3) := by decide +kernel
theorem d_Mo_loop_40 : decode b_Mo_loop 40 = .ok (.aload_n 0, 1) := by decide +kernel
theorem d_Mo_loop_41 : decode b_Mo_loop 41 = .ok (.iconst 3, 1) := by decide +kernel
theorem d_Mo_loop_42 : decode b_Mo_loop 42 = .ok (.invokevirtual 517, 3) := by decide +kernel
theorem d_Mo_loop_45 : decode b_Mo_loop 45 = .ok (.pop, 1) := by decide +kernel
theorem d_Mo_loop_46 : decode b_Mo_loop 46 = .ok (.return_, 1) := by decide +kernel
theorem d_Mo_loop_47 : decode b_Mo_loop 47 = .ok (.aload 4, 2) := by decide +kernel
theorem d_Mo_loop_49 : decode b_Mo_loop 49 = .ok (.getfield 588, 3) := by decide +kernel
theorem d_Mo_loop_52 : decode b_Mo_loop 52 = .ok (.iload 5, 2) := by decide +kernel
theorem d_Mo_loop_54 : decode b_Mo_loop 54 = .ok (.dup2, 1) := by decide +kernel
theorem d_Mo_loop_55 : decode b_Mo_loop 55 = .ok (.laload, 1) := by decide +kernel
theorem d_Mo_loop_56 : decode b_Mo_loop 56 = .ok (.aload 4, 2) := by decide +kernel
theorem d_Mo_loop_58 : decode b_Mo_loop 58 = .ok (.getfield 588, 3) := by decide +kernel
theorem d_Mo_loop_61 : decode b_Mo_loop 61 = .ok (.iload 5, 2) := by decide +kernel
theorem d_Mo_loop_63 : decode b_Mo_loop 63 = .ok (.iconst 2, 1) := by decide +kernel
theorem d_Mo_loop_64 : decode b_Mo_loop 64 = .ok (.iadd, 1) := by decide +kernel
theorem d_Mo_loop_65 : decode b_Mo_loop 65 = .ok (.laload, 1) := by decide +kernel
theorem d_Mo_loop_66 : decode b_Mo_loop 66 = .ok (.ladd, 1) := by decide +kernel
theorem d_Mo_loop_67 : decode b_Mo_loop 67 = .ok (.lastore, 1) := by decide +kernel
theorem d_Mo_loop_68 : decode b_Mo_loop 68 = .ok (.aload 4, 2) := by decide +kernel
theorem d_Mo_loop_70 : decode b_Mo_loop 70 = .ok (.getfield 588, 3) := by decide +kernel
theorem d_Mo_loop_73 : decode b_Mo_loop 73 = .ok (.iload 5, 2) := by decide +kernel
theorem d_Mo_loop_75 : decode b_Mo_loop 75 = .ok (.iconst 2, 1) := by decide +kernel
theorem d_Mo_loop_76 : decode b_Mo_loop 76 = .ok (.iadd, 1) := by decide +kernel
theorem d_Mo_loop_77 : decode b_Mo_loop 77 = .ok (.laload, 1) := by decide +kernel
theorem d_Mo_loop_78 : decode b_Mo_loop 78 = .ok (.lconst 0, 1) := by decide +kernel
theorem d_Mo_loop_79 : decode b_Mo_loop 79 = .ok (.lcmp, 1) := by decide +kernel
theorem d_Mo_loop_80 : decode b_Mo_loop 80 = .ok (.ifCond .le 33, 3) := by decide +kernel
theorem d_Mo_loop_83 : decode b_Mo_loop 83 = .ok (.aload 4, 2) := by decide +kernel
theorem d_Mo_loop_85 : decode b_Mo_loop 85 = .ok (.getfield 588, 3) := by decide +kernel
theorem d_Mo_loop_88 : decode b_Mo_loop 88 = .ok (.iload 5, 2) := by decide +kernel
theorem d_Mo_loop_90 : decode b_Mo_loop 90 = .ok (.laload, 1) := by decide +kernel
theorem d_Mo_loop_91 : decode b_Mo_loop 91 = .ok (.aload 4, 2) := by decide +kernel
theorem d_Mo_loop_93 : decode b_Mo_loop 93 = .ok (.getfield 588, 3) := by decide +kernel
theorem d_Mo_loop_96 : decode b_Mo_loop 96 = .ok (.iload 5, 2) := by decide +kernel
theorem d_Mo_loop_98 : decode b_Mo_loop 98 = .ok (.iconst 1, 1) := by decide +kernel
theorem d_Mo_loop_99 : decode b_Mo_loop 99 = .ok (.iadd, 1) := by decide +kernel
theorem d_Mo_loop_100 : decode b_Mo_loop 100 = .ok (.laload, 1) := by decide +kernel
theorem d_Mo_loop_101 : decode b_Mo_loop 101 = .ok (.lcmp, 1) := by decide +kernel
theorem d_Mo_loop_102 : decode b_Mo_loop 102 = .ok (.ifCond .gt 7, 3) := by decide +kernel
theorem d_Mo_loop_105 : decode b_Mo_loop 105 = .ok (.iconst 1, 1) := by decide +kernel
theorem d_Mo_loop_106 : decode b_Mo_loop 106 = .ok (.goto 34, 3) := by decide +kernel
theorem d_Mo_loop_109 : decode b_Mo_loop 109 = .ok (.iconst 0, 1) := by decide +kernel
theorem d_Mo_loop_110 : decode b_Mo_loop 110 = .ok (.goto 30, 3) := by decide +kernel
theorem d_Mo_loop_113 : decode b_Mo_loop 113 = .ok (.aload 4, 2) := by decide +kernel
theorem d_Mo_loop_115 : decode b_Mo_loop 115 = .ok (.getfield 588, 3) := by decide +kernel
theorem d_Mo_loop_118 : decode b_Mo_loop 118 = .ok (.iload 5, 2) := by decide +kernel
theorem d_Mo_loop_120 : decode b_Mo_loop 120 = .ok (.laload, 1) := by decide +kernel
theorem d_Mo_loop_121 : decode b_Mo_loop 121 = .ok (.aload 4, 2) := by decide +kernel
theorem d_Mo_loop_123 : decode b_Mo_loop 123 = .ok (.getfield 588, 3) := by decide +kernel
theorem d_Mo_loop_126 : decode b_Mo_loop 126 = .ok (.iload 5, 2) := by decide +kernel
theorem d_Mo_loop_128 : decode b_Mo_loop 128 = .ok (.iconst 1, 1) := by decide +kernel
theorem d_Mo_loop_129 : decode b_Mo_loop 129 = .ok (.iadd, 1) := by decide +kernel
theorem d_Mo_loop_130 : decode b_Mo_loop 130 = .ok (.laload, 1) := by decide +kernel
theorem d_Mo_loop_131 : decode b_Mo_loop 131 = .ok (.lcmp, 1) := by decide +kernel
theorem d_Mo_loop_132 : decode b_Mo_loop 132 = .ok (.ifCond .lt 7, 3) := by decide +kernel
theorem d_Mo_loop_135 : decode b_Mo_loop 135 = .ok (.iconst 1, 1) := by decide +kernel
theorem d_Mo_loop_136 : decode b_Mo_loop 136 = .ok (.goto 4, 3) := by decide +kernel
theorem d_Mo_loop_139 : decode b_Mo_loop 139 = .ok (.iconst 0, 1) := by decide +kernel
theorem d_Mo_loop_140 : decode b_Mo_loop 140 = .ok (.istore 6, 2) := by decide +kernel
theorem d_Mo_loop_142 : decode b_Mo_loop 142 = .ok (.iload 6, 2) := by decide +kernel
theorem d_Mo_loop_144 : decode b_Mo_loop 144 = .ok (.ifCond .ne 4, 3) := by decide +kernel
theorem d_Mo_loop_147 : decode b_Mo_loop 147 = .ok (.return_, 1) := by decide +kernel
theorem d_Mo_loop_148 : decode b_Mo_loop 148 = .ok (.aload_n 1, 1) := by decide +kernel
theorem d_Mo_loop_149 : decode b_Mo_loop 149 = .ok (.getfield 758, 3) := by decide +kernel
theorem d_Mo_loop_152 : decode b_Mo_loop 152 = .ok (.iload_n 2, 1) := by decide +kernel
theorem d_Mo_loop_153 : decode b_Mo_loop 153 = .ok (.dup2, 1) := by decide +kernel
theorem d_Mo_loop_154 : decode b_Mo_loop 154 = .ok (.iaload, 1) := by decide +kernel
theorem d_Mo_loop_155 : decode b_Mo_loop 155 = .ok (.iload_n 3, 1) := by decide +kernel
theorem d_Mo_loop_156 : decode b_Mo_loop 156 = .ok (.invokestatic 513, 3) := by decide +kernel
theorem d_Mo_loop_159 : decode b_Mo_loop 159 = .ok (.iadd, 1) := by decide +kernel
theorem d_Mo_loop_160 : decode b_Mo_loop 160 = .ok (.iastore, 1) := by decide +kernel
theorem d_Mo_loop_161 : decode b_Mo_loop 161 = .ok (.aload 4, 2) := by decide +kernel
theorem d_Mo_loop_163 : decode b_Mo_loop 163 = .ok (.iload 5, 2) := by decide +kernel
theorem d_Mo_loop_165 : decode b_Mo_loop 165 = .ok (.iconst 3, 1) := by decide +kernel
theorem d_Mo_loop_166 : decode b_Mo_loop 166 = .ok (.iadd, 1) := by decide +kernel
theorem d_Mo_loop_167 : decode b_Mo_loop 167 = .ok (.aload 4, 2) := by decide +kernel
theorem d_Mo_loop_169 : decode b_Mo_loop 169 = .ok (.iload 5, 2) := by decide +kernel
theorem d_Mo_loop_171 : decode b_Mo_loop 171 = .ok (.invokevirtual 719, 3) := by decide +kernel
theorem d_Mo_loop_174 : decode b_Mo_loop 174 = .ok (.return_, 1) := by decide +kernel
theorem kw_274 : Cond.fieldLink R_Mo 758 "LuaMachineModel$Thread_" "pc" "[I" ∈ wA := kinm (show _ ∈ tables_1 from (List.mem_append_right _ (List.mem_append_right _ (List.mem_append_right _ (List.mem_append_right _ (List.mem_append_right _ (List.mem_append_right _ (List.mem_append_right _ (List.mem_append_right _ (List.mem_append_left _ (List.mem_of_getElem? (l := tables_1_9) (i := 231) (by decide +kernel)))))))))))) (by decide +kernel)
theorem kw_275 : Cond.methodLink R_Mo 513 y_Mo_sbx ∈ wA := kinm (show _ ∈ tables_1 from (List.mem_append_right _ (List.mem_append_right _ (List.mem_append_right _ (List.mem_append_right _ (List.mem_append_right _ (List.mem_append_right _ (List.mem_append_right _ (List.mem_append_right _ (List.mem_append_right _ (List.mem_append_right _ (List.mem_append_left _ (List.mem_of_getElem? (l := tables_1_11) (i := 211) (by decide +kernel)))))))))))))) (by decide +kernel)
theorem kw_276 : Cond.instanceMethod y_Mo_loop ∈ wA := kinm (show _ ∈ tables_1 from (List.mem_append_right _ (List.mem_append_right _ (List.mem_append_right _ (List.mem_append_right _ (List.mem_append_right _ (List.mem_append_right _ (List.mem_append_right _ (List.mem_append_right _ (List.mem_append_right _ (List.mem_append_right _ (List.mem_append_right _ (List.mem_append_right _ (List.mem_append_left _ (List.mem_of_getElem? (l := tables_1_13) (i := 218) (by decide +kernel)))))))))))))))) (by decide +kernel)
theorem kw_277 : Cond.selects R_Mo y_Mo_loop y_Mo_loop ∈ wA := kinp 221 (by decide +kernel) (by decide +kernel)
theorem cv_Mo_loop : CV y_Mo_loop b_Mo_loop 7 none 5 := ⟨kw_276, kw_277, kw_17, k_Mo_loop, by decide +kernel⟩
theorem j_Mo_loop_j40 {X : Cx} {q : PL} (g : Gd X y_Mo_loop b_Mo_loop 7 none 1 23 R_Mo) {o : (Unit) × S1} (hR : Rt X q o.2 none)  (s : S1) (ls : Array Slot) (hl : lv_has ls 7 [(0, .ref (q.1 0 0))]) (h : M_Mo_loop_j40 s = some o) : WW X q s 40 ls [] := by
  unfold M_Mo_loop_j40 at h
  refine ww_aload_n (pc := 40) g.1 d_Mo_loop_40 rfl (lv_at hl 0 rfl) ?_
  refine ww_iconst (pc := 41) g.1 (v := 3) d_Mo_loop_41 (by decide) ?_
  obtain ⟨v42, s, hc42, h⟩ := oB_of h
  refine ww_callV (pc := 42) (rest := []) g cv_Mo_raise (Or.inl kw_157) cl_Mo (pz rfl (by decide)) (ct_Mo_raise hc42) ⟨by decide, by decide⟩ rfl hl.1 (Nat.le_of_ble_eq_true rfl) d_Mo_loop_42 rfl ?_
  refine ww_st (st' := [.int v42]) rfl ?_
  refine ww_pop (pc := 45) g.1 d_Mo_loop_45 rfl ?_
  exact ww_vretH (pc := 46) g h hR d_Mo_loop_46

theorem j_Mo_loop_j140 {X : Cx} {q : PL} (g : Gd X y_Mo_loop b_Mo_loop 7 none 1 23 R_Mo) {o : (Unit) × S1} (hR : Rt X q o.2 none) (l1 : Int32) (l2 : Int32) (l3 : Int32) (l4r : Nat) (l4 : Int32) (l5 : Int32) (k0 : Int32) (s : S1) (hp0 : 0 ≤ l1 ∧ l1 < 33) (hp1 : VOK l4r l4) (ls : Array Slot) (hl : lv_has ls 7 [(1, .ref (q.1 28 l1)), (2, .int l2), (3, .int l3), (4, .ref (q.1 l4r l4)), (5, .int l5)]) (h : M_Mo_loop_j140 l1 l2 l3 l4r l4 l5 k0 s = some o) : WW X q s 140 ls [.int k0] := by
  unfold M_Mo_loop_j140 at h
  refine ww_istore (pc := 140) (i := 6) g.1 (lv' := [(6, .int k0), (1, .ref (q.1 28 l1)), (2, .int l2), (3, .int l3), (4, .ref (q.1 l4r l4)), (5, .int l5)]) d_Mo_loop_140 hl (by decide) rfl fun ls hl => ?_
  refine ww_iload (pc := 142) g.1 d_Mo_loop_142 (lv_at hl 0 rfl) ?_
  refine ww_if_ne (pc := 144) (tgt := 148) g.1 d_Mo_loop_144 (by decide) h (fun c h => ?_) (fun c h => ?_)
  · refine ww_aload_n (pc := 148) g.1 d_Mo_loop_148 rfl (lv_at hl 1 rfl) ?_
    refine ww_gR (pc := 149) g (k := 13) cl_Th (pt rfl rfl hp0) (by decide) (Or.inl kw_274) (f := 3597) (t := 32) rfl rfl rfl d_Mo_loop_149 ?_
    refine ww_iload_n (pc := 152) g.1 d_Mo_loop_152 rfl (lv_at hl 2 rfl) ?_
    refine ww_dup2_11 (pc := 153) g.1 d_Mo_loop_153 rfl rfl ?_
    refine ww_ai (pc := 154) g (pt rfl rfl hp0) rfl rfl d_Mo_loop_154 h fun v154 h => ?_
    refine ww_iload_n (pc := 155) g.1 d_Mo_loop_155 rfl (lv_at hl 3 rfl) ?_
    obtain ⟨v156, s, hc156, h⟩ := oB_of h
    refine ww_callS (pc := 156) (rest := [.int v154, .int l2, .ref (q.1 32 l1)]) g cs_Mo_sbx (Or.inl kw_275) (ct_Mo_sbx hc156) ⟨by decide, by decide⟩ rfl hl.1 (Nat.le_of_ble_eq_true rfl) d_Mo_loop_156 rfl ?_
    refine ww_st (st' := [.int v156, .int v154, .int l2, .ref (q.1 32 l1)]) rfl ?_
    refine ww_iadd (pc := 159) g.1 d_Mo_loop_159 ?_
    refine ww_si (pc := 160) g (pt rfl rfl hp0) rfl rfl d_Mo_loop_160 h fun s hs h => ?_
    refine ww_aload (pc := 161) g.1 d_Mo_loop_161 (lv_at hl 4 rfl) ?_
    refine ww_iload (pc := 163) g.1 d_Mo_loop_163 (lv_at hl 5 rfl) ?_
    refine ww_iconst (pc := 165) g.1 (v := 3) d_Mo_loop_165 (by decide) ?_
    refine ww_iadd (pc := 166) g.1 d_Mo_loop_166 ?_
    refine ww_aload (pc := 167) g.1 d_Mo_loop_167 (lv_at hl 4 rfl) ?_
    refine ww_iload (pc := 169) g.1 d_Mo_loop_169 (lv_at hl 5 rfl) ?_
    obtain ⟨v171, s, hc171, h⟩ := oB_of h
    refine ww_callV (pc := 171) (rest := []) g cv_Va_set_ (Or.inl kw_195) (cl_Va hp1) (vok_p hp1).1 (ct_Va_set_ hp1 hp1 hc171) ⟨by decide, by decide⟩ rfl hl.1 (Nat.le_of_ble_eq_true rfl) d_Mo_loop_171 rfl ?_
    refine ww_st (st' := []) rfl ?_
    exact ww_vretH (pc := 174) g h hR d_Mo_loop_174
  · exact ww_vretH (pc := 147) g h hR d_Mo_loop_147

theorem ct_Mo_loop {l : Launch} {P : PP} {q : PL} {s s' : S1} {l1 : Int32} {l2 : Int32} {l3 : Int32} {l4r : Nat} {l4 : Int32} {l5 : Int32} (hp0 : 0 ≤ l1 ∧ l1 < 33) (hp1 : VOK l4r l4) {r : Unit} (h : M_Mo_loop l1 l2 l3 l4r l4 l5 s = some (r, s')) : Ct l y_Mo_loop b_Mo_loop 7 none 1 23 P q s [.ref (q.1 0 0), .ref (q.1 28 l1), .int l2, .int l3, .ref (q.1 l4r l4), .int l5] none q s' := by
  refine ct_of (by decide) (Nat.le_of_ble_eq_true rfl) fun X ls eP el g hR hl => ?_
  subst eP
  have hR : Rt X q ((r, s') : Unit × S1).2 none := hR
  have hl : lv_has ls 7 [(0, .ref (q.1 0 0)), (1, .ref (q.1 28 l1)), (2, .int l2), (3, .int l3), (4, .ref (q.1 l4r l4)), (5, .int l5)] := hl
  generalize (r, s') = o at h hR
  unfold M_Mo_loop at h
  refine ww_aload (pc := 0) g.1 d_Mo_loop_0 (lv_at hl 4 rfl) ?_
  refine ww_gR (pc := 2) g (k := 0) (cl_Va hp1) (vok_p hp1).1 (by rw [(vok_f hp1).1.2.2]; decide) (Or.inl kw_90) (f := (128 * l4r + 0)) (t := l4r + 1) rfl (vok_f hp1).2.1.1 (vok_f hp1).2.1.2 d_Mo_loop_2 ?_
  refine ww_iload (pc := 5) g.1 d_Mo_loop_5 (lv_at hl 5 rfl) ?_
  refine ww_iconst (pc := 7) g.1 (v := 2) d_Mo_loop_7 (by decide) ?_
  refine ww_iadd (pc := 8) g.1 d_Mo_loop_8 ?_
  refine ww_ab (pc := 9) g (vok_p hp1).2.1 (vok_f hp1).2.2.2.2.1 (vok_n hp1).1 d_Mo_loop_9 h fun v9 h => ?_
  refine ww_iconst (pc := 10) g.1 (v := 3) d_Mo_loop_10 (by decide) ?_
  refine ww_icmp_ne (pc := 11) (tgt := 40) g.1 d_Mo_loop_11 (by decide) h (fun c h => ?_) (fun c h => ?_)
  · exact j_Mo_loop_j40 g hR s ls (lv_sub hl [0] rfl) h
  · refine ww_aload (pc := 14) g.1 d_Mo_loop_14 (lv_at hl 4 rfl) ?_
    refine ww_gR (pc := 16) g (k := 0) (cl_Va hp1) (vok_p hp1).1 (by rw [(vok_f hp1).1.2.2]; decide) (Or.inl kw_90) (f := (128 * l4r + 0)) (t := l4r + 1) rfl (vok_f hp1).2.1.1 (vok_f hp1).2.1.2 d_Mo_loop_16 ?_
    refine ww_iload (pc := 19) g.1 d_Mo_loop_19 (lv_at hl 5 rfl) ?_
    refine ww_ab (pc := 21) g (vok_p hp1).2.1 (vok_f hp1).2.2.2.2.1 (vok_n hp1).1 d_Mo_loop_21 h fun v21 h => ?_
    refine ww_iconst (pc := 22) g.1 (v := 3) d_Mo_loop_22 (by decide) ?_
    refine ww_icmp_ne (pc := 23) (tgt := 40) g.1 d_Mo_loop_23 (by decide) h (fun c h => ?_) (fun c h => ?_)
    · exact j_Mo_loop_j40 g hR s ls (lv_sub hl [0] rfl) h
    · refine ww_aload (pc := 26) g.1 d_Mo_loop_26 (lv_at hl 4 rfl) ?_
      refine ww_gR (pc := 28) g (k := 0) (cl_Va hp1) (vok_p hp1).1 (by rw [(vok_f hp1).1.2.2]; decide) (Or.inl kw_90) (f := (128 * l4r + 0)) (t := l4r + 1) rfl (vok_f hp1).2.1.1 (vok_f hp1).2.1.2 d_Mo_loop_28 ?_
      refine ww_iload (pc := 31) g.1 d_Mo_loop_31 (lv_at hl 5 rfl) ?_
      refine ww_iconst (pc := 33) g.1 (v := 1) d_Mo_loop_33 (by decide) ?_
      refine ww_iadd (pc := 34) g.1 d_Mo_loop_34 ?_
      refine ww_ab (pc := 35) g (vok_p hp1).2.1 (vok_f hp1).2.2.2.2.1 (vok_n hp1).1 d_Mo_loop_35 h fun v35 h => ?_
      refine ww_iconst (pc := 36) g.1 (v := 3) d_Mo_loop_36 (by decide) ?_
      refine ww_icmp_eq (pc := 37) (tgt := 47) g.1 d_Mo_loop_37 (by decide) h (fun c h => ?_) (fun c h => ?_)
      · refine ww_aload (pc := 47) g.1 d_Mo_loop_47 (lv_at hl 4 rfl) ?_
        refine ww_gR (pc := 49) g (k := 1) (cl_Va hp1) (vok_p hp1).1 (by rw [(vok_f hp1).1.2.2]; decide) (Or.inl kw_93) (f := (128 * l4r + 1)) (t := l4r + 2) rfl (vok_f hp1).2.2.1.1 (vok_f hp1).2.2.1.2 d_Mo_loop_49 ?_
        refine ww_iload (pc := 52) g.1 d_Mo_loop_52 (lv_at hl 5 rfl) ?_
        refine ww_dup2_11 (pc := 54) g.1 d_Mo_loop_54 rfl rfl ?_
        refine ww_al (pc := 55) g (vok_p hp1).2.2 (vok_f hp1).2.2.2.2.2 (vok_n hp1).2 d_Mo_loop_55 h fun v55 h => ?_
        refine ww_aload (pc := 56) g.1 d_Mo_loop_56 (lv_at hl 4 rfl) ?_
        refine ww_gR (pc := 58) g (k := 1) (cl_Va hp1) (vok_p hp1).1 (by rw [(vok_f hp1).1.2.2]; decide) (Or.inl kw_93) (f := (128 * l4r + 1)) (t := l4r + 2) rfl (vok_f hp1).2.2.1.1 (vok_f hp1).2.2.1.2 d_Mo_loop_58 ?_
        refine ww_iload (pc := 61) g.1 d_Mo_loop_61 (lv_at hl 5 rfl) ?_
        refine ww_iconst (pc := 63) g.1 (v := 2) d_Mo_loop_63 (by decide) ?_
        refine ww_iadd (pc := 64) g.1 d_Mo_loop_64 ?_
        refine ww_al (pc := 65) g (vok_p hp1).2.2 (vok_f hp1).2.2.2.2.2 (vok_n hp1).2 d_Mo_loop_65 h fun v65 h => ?_
        refine ww_ladd (pc := 66) g.1 d_Mo_loop_66 ?_
        refine ww_sl (pc := 67) g (vok_p hp1).2.2 (vok_f hp1).2.2.2.2.2 (vok_n hp1).2 d_Mo_loop_67 h fun s hs h => ?_
        refine ww_aload (pc := 68) g.1 d_Mo_loop_68 (lv_at hl 4 rfl) ?_
        refine ww_gR (pc := 70) g (k := 1) (cl_Va hp1) (vok_p hp1).1 (by rw [(vok_f hp1).1.2.2]; decide) (Or.inl kw_93) (f := (128 * l4r + 1)) (t := l4r + 2) rfl (vok_f hp1).2.2.1.1 (vok_f hp1).2.2.1.2 d_Mo_loop_70 ?_
        refine ww_iload (pc := 73) g.1 d_Mo_loop_73 (lv_at hl 5 rfl) ?_
        refine ww_iconst (pc := 75) g.1 (v := 2) d_Mo_loop_75 (by decide) ?_
        refine ww_iadd (pc := 76) g.1 d_Mo_loop_76 ?_
        refine ww_al (pc := 77) g (vok_p hp1).2.2 (vok_f hp1).2.2.2.2.2 (vok_n hp1).2 d_Mo_loop_77 h fun v77 h => ?_
        refine ww_lconst (pc := 78) g.1 (v := 0) d_Mo_loop_78 (by decide) ?_
        refine ww_lcmp (pc := 79) g.1 d_Mo_loop_79 ?_
        refine ww_if_le (pc := 80) (tgt := 113) g.1 d_Mo_loop_80 (by decide) h (fun c h => ?_) (fun c h => ?_)
        · refine ww_aload (pc := 113) g.1 d_Mo_loop_113 (lv_at hl 4 rfl) ?_
          refine ww_gR (pc := 115) g (k := 1) (cl_Va hp1) (vok_p hp1).1 (by rw [(vok_f hp1).1.2.2]; decide) (Or.inl kw_93) (f := (128 * l4r + 1)) (t := l4r + 2) rfl (vok_f hp1).2.2.1.1 (vok_f hp1).2.2.1.2 d_Mo_loop_115 ?_
          refine ww_iload (pc := 118) g.1 d_Mo_loop_118 (lv_at hl 5 rfl) ?_
          refine ww_al (pc := 120) g (vok_p hp1).2.2 (vok_f hp1).2.2.2.2.2 (vok_n hp1).2 d_Mo_loop_120 h fun v120 h => ?_
          refine ww_aload (pc := 121) g.1 d_Mo_loop_121 (lv_at hl 4 rfl) ?_
          refine ww_gR (pc := 123) g (k := 1) (cl_Va hp1) (vok_p hp1).1 (by rw [(vok_f hp1).1.2.2]; decide) (Or.inl kw_93) (f := (128 * l4r + 1)) (t := l4r + 2) rfl (vok_f hp1).2.2.1.1 (vok_f hp1).2.2.1.2 d_Mo_loop_123 ?_
          refine ww_iload (pc := 126) g.1 d_Mo_loop_126 (lv_at hl 5 rfl) ?_
          refine ww_iconst (pc := 128) g.1 (v := 1) d_Mo_loop_128 (by decide) ?_
          refine ww_iadd (pc := 129) g.1 d_Mo_loop_129 ?_
          refine ww_al (pc := 130) g (vok_p hp1).2.2 (vok_f hp1).2.2.2.2.2 (vok_n hp1).2 d_Mo_loop_130 h fun v130 h => ?_
          refine ww_lcmp (pc := 131) g.1 d_Mo_loop_131 ?_
          refine ww_if_lt (pc := 132) (tgt := 139) g.1 d_Mo_loop_132 (by decide) h (fun c h => ?_) (fun c h => ?_)
          · refine ww_iconst (pc := 139) g.1 (v := 0) d_Mo_loop_139 (by decide) ?_
            exact j_Mo_loop_j140 g hR l1 l2 l3 l4r l4 l5 0 s hp0 hp1 ls (lv_sub hl [1, 2, 3, 4, 5] rfl) h
          · refine ww_iconst (pc := 135) g.1 (v := 1) d_Mo_loop_135 (by decide) ?_
            refine ww_goto (pc := 136) (tgt := 140) g.1 d_Mo_loop_136 (by decide) ?_
            exact j_Mo_loop_j140 g hR l1 l2 l3 l4r l4 l5 1 s hp0 hp1 ls (lv_sub hl [1, 2, 3, 4, 5] rfl) h
        · refine ww_aload (pc := 83) g.1 d_Mo_loop_83 (lv_at hl 4 rfl) ?_
          refine ww_gR (pc := 85) g (k := 1) (cl_Va hp1) (vok_p hp1).1 (by rw [(vok_f hp1).1.2.2]; decide) (Or.inl kw_93) (f := (128 * l4r + 1)) (t := l4r + 2) rfl (vok_f hp1).2.2.1.1 (vok_f hp1).2.2.1.2 d_Mo_loop_85 ?_
          refine ww_iload (pc := 88) g.1 d_Mo_loop_88 (lv_at hl 5 rfl) ?_
          refine ww_al (pc := 90) g (vok_p hp1).2.2 (vok_f hp1).2.2.2.2.2 (vok_n hp1).2 d_Mo_loop_90 h fun v90 h => ?_
          refine ww_aload (pc := 91) g.1 d_Mo_loop_91 (lv_at hl 4 rfl) ?_
          refine ww_gR (pc := 93) g (k := 1) (cl_Va hp1) (vok_p hp1).1 (by rw [(vok_f hp1).1.2.2]; decide) (Or.inl kw_93) (f := (128 * l4r + 1)) (t := l4r + 2) rfl (vok_f hp1).2.2.1.1 (vok_f hp1).2.2.1.2 d_Mo_loop_93 ?_
          refine ww_iload (pc := 96) g.1 d_Mo_loop_96 (lv_at hl 5 rfl) ?_
          refine ww_iconst (pc := 98) g.1 (v := 1) d_Mo_loop_98 (by decide) ?_
          refine ww_iadd (pc := 99) g.1 d_Mo_loop_99 ?_
          refine ww_al (pc := 100) g (vok_p hp1).2.2 (vok_f hp1).2.2.2.2.2 (vok_n hp1).2 d_Mo_loop_100 h fun v100 h => ?_
          refine ww_lcmp (pc := 101) g.1 d_Mo_loop_101 ?_
          refine ww_if_gt (pc := 102) (tgt := 109) g.1 d_Mo_loop_102 (by decide) h (fun c h => ?_) (fun c h => ?_)
          · refine ww_iconst (pc := 109) g.1 (v := 0) d_Mo_loop_109 (by decide) ?_
            refine ww_goto (pc := 110) (tgt := 140) g.1 d_Mo_loop_110 (by decide) ?_
            exact j_Mo_loop_j140 g hR l1 l2 l3 l4r l4 l5 0 s hp0 hp1 ls (lv_sub hl [1, 2, 3, 4, 5] rfl) h
          · refine ww_iconst (pc := 105) g.1 (v := 1) d_Mo_loop_105 (by decide) ?_
            refine ww_goto (pc := 106) (tgt := 140) g.1 d_Mo_loop_106 (by decide) ?_
            exact j_Mo_loop_j140 g hR l1 l2 l3 l4r l4 l5 1 s hp0 hp1 ls (lv_sub hl [1, 2, 3, 4, 5] rfl) h
      · exact j_Mo_loop_j40 g hR s ls (lv_sub hl [0] rfl) h

abbrev b_Mo_thread : ByteArray := prog_14_method_135_code
def y_Mo_thread : MethodName := ⟨R_Mo, "thread", "(LLuaMachineModel$Thread_;)I"⟩
abbrev w_Mo_thread : List Cond := .code y_Mo_thread b_Mo_thread 3 (some .int) :: wA
theorem k_Mo_thread : Cond.code y_Mo_thread b_Mo_thread 3 (some .int) ∈ wA := kinm (show _ ∈ tables_1 from (List.mem_append_right _ (List.mem_append_right _ (List.mem_append_right _ (List.mem_append_right _ (List.mem_append_right _ (List.mem_append_right _ (List.mem_append_right _ (List.mem_append_right _ (List.mem_append_right _ (List.mem_append_right _ (List.mem_append_right _ (List.mem_append_right _ (List.mem_append_left _ (List.mem_of_getElem? (l := tables_1_13) (i := 235) (by decide +kernel)))))))))))))))) (by decide +kernel)
theorem d_Mo_thread_0 : decode b_Mo_thread 0 = .ok (.iconst 0, 1) := by decide +kernel
theorem d_Mo_thread_1 : decode b_Mo_thread 1 = .ok (.istore_n 2, 1) := by decide +kernel
theorem d_Mo_thread_2 : decode b_Mo_thread 2 = .ok (.aload_n 0, 1) := by decide +kernel
theorem d_Mo_thread_3 : decode b_Mo_thread 3 = .ok (.getfield 239, 3) := by decide +kernel
theorem d_Mo_thread_6 : decode b_Mo_thread 6 = .ok (.iload_n 2, 1) := by decide +kernel
theorem d_Mo_thread_7 : decode b_Mo_thread 7 = .ok (.aaload, 1) := by decide +kernel
theorem d_Mo_thread_8 : decode b_Mo_thread 8 = .ok (.aload_n 1, 1) := by decide +kernel
theorem d_Mo_thread_9 : decode b_Mo_thread 9 = .ok (.if_acmp .eq 9, 3) := by decide +kernel
theorem d_Mo_thread_12 : decode b_Mo_thread 12 = .ok (.iinc 2 1, 3) := by decide +kernel
theorem d_Mo_thread_15 : decode b_Mo_thread 15 = .ok (.goto (-13), 3) := by decide +kernel
theorem d_Mo_thread_18 : decode b_Mo_thread 18 = .ok (.iload_n 2, 1) := by decide +kernel
theorem d_Mo_thread_19 : decode b_Mo_thread 19 = .ok (.ireturn, 1) := by decide +kernel
theorem kw_278 : Cond.instanceMethod y_Mo_thread ∈ wA := kinm (show _ ∈ tables_1 from (List.mem_append_right _ (List.mem_append_right _ (List.mem_append_right _ (List.mem_append_right _ (List.mem_append_right _ (List.mem_append_right _ (List.mem_append_right _ (List.mem_append_right _ (List.mem_append_right _ (List.mem_append_right _ (List.mem_append_right _ (List.mem_append_right _ (List.mem_append_left _ (List.mem_of_getElem? (l := tables_1_13) (i := 234) (by decide +kernel)))))))))))))))) (by decide +kernel)
theorem kw_279 : Cond.selects R_Mo y_Mo_thread y_Mo_thread ∈ wA := kinp 225 (by decide +kernel) (by decide +kernel)
theorem cv_Mo_thread : CV y_Mo_thread b_Mo_thread 3 (some .int) 1 := ⟨kw_278, kw_279, kw_17, k_Mo_thread, by decide +kernel⟩
theorem lp_Mo_thread_L2 {X : Cx} {q : PL} (g : Gd X y_Mo_thread b_Mo_thread 3 (some .int) 0 0 R_Mo) (x : Int32 × Int32) (s : S1) (o : ((Int32 × Int32) ⊕ ((Int32))) × S1) (h : M_Mo_thread_L2 x s = some o) (hR : (Sum.elim (fun y : Int32 × Int32 => ∀ ls : Array Slot, (0 ≤ y.1 ∧ y.1 < 33) → lv_has ls 3 [(0, .ref (q.1 0 0)), (1, .ref (q.1 28 y.1)), (2, .int y.2)] → WW X q o.2 2 ls []) (fun y : Int32 => ∀ ls : Array Slot, lv_has ls 3 [(2, .int y)] → WW X q o.2 18 ls []) o.1)) : ∀ ls : Array Slot, (0 ≤ x.1 ∧ x.1 < 33) → lv_has ls 3 [(0, .ref (q.1 0 0)), (1, .ref (q.1 28 x.1)), (2, .int x.2)] → WW X q s 2 ls [] := by
  intro ls hp0 hl
  unfold M_Mo_thread_L2 at h
  refine ww_aload_n (pc := 2) g.1 d_Mo_thread_2 rfl (lv_at hl 0 rfl) ?_
  refine ww_gR (pc := 3) g (k := 71) cl_Mo (pz rfl (by decide)) (by decide) (Or.inl kw_88) (f := 71) (t := 76) rfl rfl rfl d_Mo_thread_3 ?_
  refine ww_iload_n (pc := 6) g.1 d_Mo_thread_6 rfl (lv_at hl 2 rfl) ?_
  refine ww_at (pc := 7) g (t := 28) (pz rfl (by decide)) rfl rfl rfl d_Mo_thread_7 h fun ca7 h => ?_
  refine ww_aload_n (pc := 8) g.1 d_Mo_thread_8 rfl (lv_at hl 1 rfl) ?_
  refine ww_acmp_eq (pc := 9) (tgt := 18) g.1 (pt rfl rfl ca7) (pt rfl rfl hp0) d_Mo_thread_9 (by decide) h (fun c h => ?_) (fun c h => ?_)
  · rw [oR_eq h] at hR
    exact hR ls (lv_sub hl [2] rfl)
  · refine ww_iinc (pc := 12) g.1 (v := x.2 + 1) (lv' := [(2, .int (x.2 + 1)), (0, .ref (q.1 0 0)), (1, .ref (q.1 28 x.1))]) d_Mo_thread_12 hl (k := 2) rfl (by rfl) (by decide) rfl fun ls hl => ?_
    refine ww_goto (pc := 15) (tgt := 2) g.1 d_Mo_thread_15 (by decide) ?_
    rw [oR_eq h] at hR
    exact hR ls hp0 (lv_sub hl [1, 2, 0] rfl)

theorem ct_Mo_thread {l : Launch} {P : PP} {q : PL} {s s' : S1} {l1 : Int32} (hp0 : 0 ≤ l1 ∧ l1 < 33) {r : Int32} (h : M_Mo_thread l1 s = some (r, s')) : Ct l y_Mo_thread b_Mo_thread 3 (some .int) 0 0 P q s [.ref (q.1 0 0), .ref (q.1 28 l1)] (some (.int r)) q s' := by
  refine ct_of (by decide) (Nat.le_of_ble_eq_true rfl) fun X ls eP el g hR hl => ?_
  subst eP
  have hR : Rt X q ((r, s') : Int32 × S1).2 (some (.int ((r, s') : Int32 × S1).1)) := hR
  have hl : lv_has ls 3 [(0, .ref (q.1 0 0)), (1, .ref (q.1 28 l1))] := hl
  generalize (r, s') = o at h hR
  unfold M_Mo_thread at h
  refine ww_iconst (pc := 0) g.1 (v := 0) d_Mo_thread_0 (by decide) ?_
  refine ww_istore_n (pc := 1) (i := 2) g.1 (lv' := [(2, .int 0), (0, .ref (q.1 0 0)), (1, .ref (q.1 28 l1))]) d_Mo_thread_1 rfl hl (by decide) rfl fun ls hl => ?_
  obtain ⟨e2, s1, hw, h⟩ := oB_of h
  refine oW_rule (Wh := fun (x : Int32 × Int32) (s : S1) => ∀ ls : Array Slot, (0 ≤ x.1 ∧ x.1 < 33) → lv_has ls 3 [(0, .ref (q.1 0 0)), (1, .ref (q.1 28 x.1)), (2, .int x.2)] → WW X q s 2 ls []) (We := fun (e : (Int32)) (s : S1) => ∀ ls : Array Slot, lv_has ls 3 [(2, .int e)] → WW X q s 18 ls []) (fun x s o hb hc => lp_Mo_thread_L2 (q := q) g x s o hb hc) hw ?_ ls hp0 (lv_sub hl [1, 2, 0] rfl)
  clear hw hl
  clear ls
  intro ls hl
  generalize s1 = s at h ⊢
  refine ww_iload_n (pc := 18) g.1 d_Mo_thread_18 rfl (lv_at hl 0 rfl) ?_
  exact ww_iretH (pc := 19) g h hR d_Mo_thread_19

abbrev b_Mo_further : ByteArray := prog_14_method_136_code
def y_Mo_further : MethodName := ⟨R_Mo, "further", "(LLuaMachineModel$Thread_;IIILLuaMachineModel$Values;I)V"⟩
abbrev w_Mo_further : List Cond := .code y_Mo_further b_Mo_further 10 none :: wA
set_option maxRecDepth 20000 in
theorem k_Mo_further : Cond.code y_Mo_further b_Mo_further 10 none ∈ wA := kinm (show _ ∈ tables_1 from (List.mem_append_right _ (List.mem_append_right _ (List.mem_append_right _ (List.mem_append_right _ (List.mem_append_right _ (List.mem_append_right _ (List.mem_append_right _ (List.mem_append_right _ (List.mem_append_right _ (List.mem_append_right _ (List.mem_append_right _ (List.mem_append_right _ (List.mem_append_left _ (List.mem_of_getElem? (l := tables_1_13) (i := 239) rfl))))))))))))))) rfl
theorem d_Mo_further_0 : decode b_Mo_further 0 = .ok (.iload 4, 2) := by decide +kernel
theorem d_Mo_further_2 : decode b_Mo_further 2 = .ok (.invokestatic 482, 3) := by decide +kernel
theorem d_Mo_further_5 : decode b_Mo_further 5 = .ok (.ifCond .ne 12, 3) := by decide +kernel
theorem d_Mo_further_8 : decode b_Mo_further 8 = .ok (.aload_n 1, 1) := by decide +kernel
theorem d_Mo_further_9 : decode b_Mo_further 9 = .ok (.getfield 741, 3) := by decide +kernel
theorem d_Mo_further_12 : decode b_Mo_further 12 = .ok (.iload_n 2, 1) := by decide +kernel
theorem d_Mo_further_13 : decode b_Mo_further 13 = .ok (.iaload, 1) := by decide +kernel
theorem d_Mo_further_14 : decode b_Mo_further 14 = .ok (.goto 10, 3) := by decide +kernel
theorem d_Mo_further_17 : decode b_Mo_further 17 = .ok (.iload 4, 2) := by decide +kernel
theorem d_Mo_further_19 : decode b_Mo_further 19 = .ok (.invokestatic 482, 3) := by decide +kernel
theorem d_Mo_further_22 : decode b_Mo_further 22 = .ok (.iconst 1, 1) := by decide +kernel
theorem d_Mo_further_23 : decode b_Mo_further 23 = .ok (.isub, 1) := by decide +kernel
theorem d_Mo_further_24 : decode b_Mo_further 24 = .ok (.istore 7, 2) := by decide +kernel
theorem d_Mo_further_26 : decode b_Mo_further 26 = .ok (.aload_n 1, 1) := by decide +kernel
theorem d_Mo_further_27 : decode b_Mo_further 27 = .ok (.getfield 744, 3) := by decide +kernel
theorem d_Mo_further_30 : decode b_Mo_further 30 = .ok (.iload_n 2, 1) := by decide +kernel
theorem d_Mo_further_31 : decode b_Mo_further 31 = .ok (.iaload, 1) := by decide +kernel
theorem d_Mo_further_32 : decode b_Mo_further 32 = .ok (.aload_n 1, 1) := by decide +kernel
theorem d_Mo_further_33 : decode b_Mo_further 33 = .ok (.getfield 741, 3) := by decide +kernel
theorem d_Mo_further_36 : decode b_Mo_further 36 = .ok (.iload_n 2, 1) := by decide +kernel
theorem d_Mo_further_37 : decode b_Mo_further 37 = .ok (.iaload, 1) := by decide +kernel
theorem d_Mo_further_38 : decode b_Mo_further 38 = .ok (.isub, 1) := by decide +kernel
theorem d_Mo_further_39 : decode b_Mo_further 39 = .ok (.istore 8, 2) := by decide +kernel
theorem d_Mo_further_41 : decode b_Mo_further 41 = .ok (.iload 4, 2) := by decide +kernel
theorem d_Mo_further_43 : decode b_Mo_further 43 = .ok (.invokestatic 482, 3) := by decide +kernel
theorem d_Mo_further_46 : decode b_Mo_further 46 = .ok (.ifCond .ne 61, 3) := by decide +kernel
theorem d_Mo_further_49 : decode b_Mo_further 49 = .ok (.aload_n 1, 1) := by decide +kernel
theorem d_Mo_further_50 : decode b_Mo_further 50 = .ok (.getfield 767, 3) := by decide +kernel
theorem d_Mo_further_53 : decode b_Mo_further 53 = .ok (.iconst 0, 1) := by decide +kernel
theorem d_Mo_further_54 : decode b_Mo_further 54 = .ok (.putfield 569, 3) := by decide +kernel
theorem d_Mo_further_57 : decode b_Mo_further 57 = .ok (.iconst 0, 1) := by decide +kernel
theorem d_Mo_further_58 : decode b_Mo_further 58 = .ok (.istore 9, 2) := by decide +kernel
theorem d_Mo_further_60 : decode b_Mo_further 60 = .ok (.iload 9, 2) := by decide +kernel
theorem d_Mo_further_62 : decode b_Mo_further 62 = .ok (.iload 7, 2) := by decide +kernel
theorem d_Mo_further_64 : decode b_Mo_further 64 = .ok (.if_icmp .ge 23, 3) := by decide +kernel
theorem d_Mo_further_67 : decode b_Mo_further 67 = .ok (.aload_n 1, 1) := by decide +kernel
theorem d_Mo_further_68 : decode b_Mo_further 68 = .ok (.getfield 767, 3) := by decide +kernel
theorem d_Mo_further_71 : decode b_Mo_further 71 = .ok (.aload 5, 2) := by decide +kernel
theorem d_Mo_further_73 : decode b_Mo_further 73 = .ok (.iload 8, 2) := by decide +kernel
theorem d_Mo_further_75 : decode b_Mo_further 75 = .ok (.iload 9, 2) := by decide +kernel
theorem d_Mo_further_77 : decode b_Mo_further 77 = .ok (.iadd, 1) := by decide +kernel
theorem d_Mo_further_78 : decode b_Mo_further 78 = .ok (.invokevirtual 770, 3) := by decide +kernel
theorem d_Mo_further_81 : decode b_Mo_further 81 = .ok (.iinc 9 1, 3) := by decide +kernel
theorem d_Mo_further_84 : decode b_Mo_further 84 = .ok (.goto (-24), 3) := by decide +kernel
theorem d_Mo_further_87 : decode b_Mo_further 87 = .ok (.aload_n 1, 1) := by decide +kernel
theorem d_Mo_further_88 : decode b_Mo_further 88 = .ok (.getfield 773, 3) := by decide +kernel
theorem d_Mo_further_91 : decode b_Mo_further 91 = .ok (.iload_n 2, 1) := by decide +kernel
theorem d_Mo_further_92 : decode b_Mo_further 92 = .ok (.iload 4, 2) := by decide +kernel
theorem d_Mo_further_94 : decode b_Mo_further 94 = .ok (.invokestatic 495, 3) := by decide +kernel
theorem d_Mo_further_97 : decode b_Mo_further 97 = .ok (.iastore, 1) := by decide +kernel
theorem d_Mo_further_98 : decode b_Mo_further 98 = .ok (.aload_n 1, 1) := by decide +kernel
theorem d_Mo_further_99 : decode b_Mo_further 99 = .ok (.getfield 738, 3) := by decide +kernel
theorem d_Mo_further_102 : decode b_Mo_further 102 = .ok (.iload_n 2, 1) := by decide +kernel
theorem d_Mo_further_103 : decode b_Mo_further 103 = .ok (.iload 7, 2) := by decide +kernel
theorem d_Mo_further_105 : decode b_Mo_further 105 = .ok (.iastore, 1) := by decide +kernel
theorem d_Mo_further_106 : decode b_Mo_further 106 = .ok (.return_, 1) := by decide +kernel
theorem d_Mo_further_107 : decode b_Mo_further 107 = .ok (.iconst 0, 1) := by decide +kernel
theorem d_Mo_further_108 : decode b_Mo_further 108 = .ok (.istore 9, 2) := by decide +kernel
theorem d_Mo_further_110 : decode b_Mo_further 110 = .ok (.iload 9, 2) := by decide +kernel
theorem d_Mo_further_112 : decode b_Mo_further 112 = .ok (.iload 7, 2) := by decide +kernel
theorem d_Mo_further_114 : decode b_Mo_further 114 = .ok (.if_icmp .ge 52, 3) := by decide +kernel
theorem d_Mo_further_117 : decode b_Mo_further 117 = .ok (.iload 9, 2) := by decide +kernel
theorem d_Mo_further_119 : decode b_Mo_further 119 = .ok (.aload_n 1, 1) := by decide +kernel
theorem d_Mo_further_120 : decode b_Mo_further 120 = .ok (.getfield 741, 3) := by decide +kernel
theorem d_Mo_further_123 : decode b_Mo_further 123 = .ok (.iload_n 2, 1) := by decide +kernel
theorem d_Mo_further_124 : decode b_Mo_further 124 = .ok (.iaload, 1) := by decide +kernel
theorem d_Mo_further_125 : decode b_Mo_further 125 = .ok (.if_icmp .ge 23, 3) := by decide +kernel
theorem d_Mo_further_128 : decode b_Mo_further 128 = .ok (.aload 5, 2) := by decide +kernel
theorem d_Mo_further_130 : decode b_Mo_further 130 = .ok (.iload 6, 2) := by decide +kernel
theorem d_Mo_further_132 : decode b_Mo_further 132 = .ok (.iload 9, 2) := by decide +kernel
theorem d_Mo_further_134 : decode b_Mo_further 134 = .ok (.iadd, 1) := by decide +kernel
theorem d_Mo_further_135 : decode b_Mo_further 135 = .ok (.aload 5, 2) := by decide +kernel
theorem d_Mo_further_137 : decode b_Mo_further 137 = .ok (.iload 8, 2) := by decide +kernel
theorem d_Mo_further_139 : decode b_Mo_further 139 = .ok (.iload 9, 2) := by decide +kernel
theorem d_Mo_further_141 : decode b_Mo_further 141 = .ok (.iadd, 1) := by decide +kernel
theorem d_Mo_further_142 : decode b_Mo_further 142 = .ok (.invokevirtual 719, 3) := by decide +kernel
theorem d_Mo_further_145 : decode b_Mo_further 145 = .ok (.goto 15, 3) := by decide +kernel
theorem d_Mo_further_148 : decode b_Mo_further 148 = .ok (.aload 5, 2) := by decide +kernel
theorem d_Mo_further_150 : decode b_Mo_further 150 = .ok (.iload 6, 2) := by decide +kernel
theorem d_Mo_further_152 : decode b_Mo_further 152 = .ok (.iload 9, 2) := by decide +kernel
theorem d_Mo_further_154 : decode b_Mo_further 154 = .ok (.iadd, 1) := by decide +kernel
theorem d_Mo_further_155 : decode b_Mo_further 155 = .ok (.iconst 0, 1) := by decide +kernel
theorem d_Mo_further_156 : decode b_Mo_further 156 = .ok (.lconst 0, 1) := by decide +kernel
theorem d_Mo_further_157 : decode b_Mo_further 157 = .ok (.invokevirtual 470, 3) := by decide +kernel
theorem d_Mo_further_160 : decode b_Mo_further 160 = .ok (.iinc 9 1, 3) := by decide +kernel
theorem d_Mo_further_163 : decode b_Mo_further 163 = .ok (.goto (-53), 3) := by decide +kernel
theorem d_Mo_further_166 : decode b_Mo_further 166 = .ok (.return_, 1) := by decide +kernel
theorem kw_280 : Cond.methodLink R_Mo 495 y_Mo_a ∈ wA := kinm (show _ ∈ tables_1 from (List.mem_append_right _ (List.mem_append_right _ (List.mem_append_right _ (List.mem_append_right _ (List.mem_append_right _ (List.mem_append_right _ (List.mem_append_right _ (List.mem_append_right _ (List.mem_append_right _ (List.mem_append_right _ (List.mem_append_left _ (List.mem_of_getElem? (l := tables_1_11) (i := 186) (by decide +kernel)))))))))))))) (by decide +kernel)
theorem kw_281 : Cond.instanceMethod y_Mo_further ∈ wA := kinm (show _ ∈ tables_1 from (List.mem_append_right _ (List.mem_append_right _ (List.mem_append_right _ (List.mem_append_right _ (List.mem_append_right _ (List.mem_append_right _ (List.mem_append_right _ (List.mem_append_right _ (List.mem_append_right _ (List.mem_append_right _ (List.mem_append_right _ (List.mem_append_right _ (List.mem_append_left _ (List.mem_of_getElem? (l := tables_1_13) (i := 238) (by decide +kernel)))))))))))))))) (by decide +kernel)
theorem kw_282 : Cond.selects R_Mo y_Mo_further y_Mo_further ∈ wA := kinp 226 (by decide +kernel) (by decide +kernel)
theorem cv_Mo_further : CV y_Mo_further b_Mo_further 10 none 6 := ⟨kw_281, kw_282, kw_17, k_Mo_further, by decide +kernel⟩
theorem j_Mo_further_j160 {X : Cx} {q : PL} (g : Gd X y_Mo_further b_Mo_further 10 none 2 45 R_Mo) {o : ((Int32 × Int32 × Nat × Int32 × Int32 × Int32 × Int32 × Int32) ⊕ ((Unit))) × S1} (hR : (Sum.elim (fun y : Int32 × Int32 × Nat × Int32 × Int32 × Int32 × Int32 × Int32 => ∀ ls : Array Slot, (0 ≤ y.1 ∧ y.1 < 33) → (VOK y.2.2.1 y.2.2.2.1) → lv_has ls 10 [(1, .ref (q.1 28 y.1)), (2, .int y.2.1), (5, .ref (q.1 y.2.2.1 y.2.2.2.1)), (6, .int y.2.2.2.2.1), (7, .int y.2.2.2.2.2.1), (8, .int y.2.2.2.2.2.2.1), (9, .int y.2.2.2.2.2.2.2)] → WW X q o.2 110 ls []) (fun y : Unit => ∀ ls : Array Slot, lv_has ls 10 [] → WW X q o.2 166 ls []) o.1)) (l1 : Int32) (l2 : Int32) (l5r : Nat) (l5 : Int32) (l6 : Int32) (l7 : Int32) (l8 : Int32) (l9 : Int32) (s : S1) (hp0 : 0 ≤ l1 ∧ l1 < 33) (hp1 : VOK l5r l5) (ls : Array Slot) (hl : lv_has ls 10 [(1, .ref (q.1 28 l1)), (2, .int l2), (5, .ref (q.1 l5r l5)), (6, .int l6), (7, .int l7), (8, .int l8), (9, .int l9)]) (h : M_Mo_further_j160 l1 l2 l5r l5 l6 l7 l8 l9 s = some o) : WW X q s 160 ls [] := by
  unfold M_Mo_further_j160 at h
  refine ww_iinc (pc := 160) g.1 (v := l9 + 1) (lv' := [(9, .int (l9 + 1)), (1, .ref (q.1 28 l1)), (2, .int l2), (5, .ref (q.1 l5r l5)), (6, .int l6), (7, .int l7), (8, .int l8)]) d_Mo_further_160 hl (k := 6) rfl (by rfl) (by decide) rfl fun ls hl => ?_
  refine ww_goto (pc := 163) (tgt := 110) g.1 d_Mo_further_163 (by decide) ?_
  rw [oR_eq h] at hR
  exact hR ls hp0 hp1 (lv_sub hl [1, 2, 3, 4, 5, 6, 0] rfl)

theorem lp_Mo_further_L110 {X : Cx} {q : PL} (g : Gd X y_Mo_further b_Mo_further 10 none 2 45 R_Mo) (x : Int32 × Int32 × Nat × Int32 × Int32 × Int32 × Int32 × Int32) (s : S1) (o : ((Int32 × Int32 × Nat × Int32 × Int32 × Int32 × Int32 × Int32) ⊕ ((Unit))) × S1) (h : M_Mo_further_L110 x s = some o) (hR : (Sum.elim (fun y : Int32 × Int32 × Nat × Int32 × Int32 × Int32 × Int32 × Int32 => ∀ ls : Array Slot, (0 ≤ y.1 ∧ y.1 < 33) → (VOK y.2.2.1 y.2.2.2.1) → lv_has ls 10 [(1, .ref (q.1 28 y.1)), (2, .int y.2.1), (5, .ref (q.1 y.2.2.1 y.2.2.2.1)), (6, .int y.2.2.2.2.1), (7, .int y.2.2.2.2.2.1), (8, .int y.2.2.2.2.2.2.1), (9, .int y.2.2.2.2.2.2.2)] → WW X q o.2 110 ls []) (fun y : Unit => ∀ ls : Array Slot, lv_has ls 10 [] → WW X q o.2 166 ls []) o.1)) : ∀ ls : Array Slot, (0 ≤ x.1 ∧ x.1 < 33) → (VOK x.2.2.1 x.2.2.2.1) → lv_has ls 10 [(1, .ref (q.1 28 x.1)), (2, .int x.2.1), (5, .ref (q.1 x.2.2.1 x.2.2.2.1)), (6, .int x.2.2.2.2.1), (7, .int x.2.2.2.2.2.1), (8, .int x.2.2.2.2.2.2.1), (9, .int x.2.2.2.2.2.2.2)] → WW X q s 110 ls [] := by
  intro ls hp0 hp1 hl
  unfold M_Mo_further_L110 at h
  refine ww_iload (pc := 110) g.1 d_Mo_further_110 (lv_at hl 6 rfl) ?_
  refine ww_iload (pc := 112) g.1 d_Mo_further_112 (lv_at hl 4 rfl) ?_
  refine ww_icmp_ge (pc := 114) (tgt := 166) g.1 d_Mo_further_114 (by decide) h (fun c h => ?_) (fun c h => ?_)
  · rw [oR_eq h] at hR
    exact hR ls (lv_sub hl [] rfl)
  · refine ww_iload (pc := 117) g.1 d_Mo_further_117 (lv_at hl 6 rfl) ?_
    refine ww_aload_n (pc := 119) g.1 d_Mo_further_119 rfl (lv_at hl 0 rfl) ?_
    refine ww_gR (pc := 120) g (k := 15) cl_Th (pt rfl rfl hp0) (by decide) (Or.inl kw_155) (f := 3599) (t := 34) rfl rfl rfl d_Mo_further_120 ?_
    refine ww_iload_n (pc := 123) g.1 d_Mo_further_123 rfl (lv_at hl 1 rfl) ?_
    refine ww_ai (pc := 124) g (pt rfl rfl hp0) rfl rfl d_Mo_further_124 h fun v124 h => ?_
    refine ww_icmp_ge (pc := 125) (tgt := 148) g.1 d_Mo_further_125 (by decide) h (fun c h => ?_) (fun c h => ?_)
    · refine ww_aload (pc := 148) g.1 d_Mo_further_148 (lv_at hl 2 rfl) ?_
      refine ww_iload (pc := 150) g.1 d_Mo_further_150 (lv_at hl 3 rfl) ?_
      refine ww_iload (pc := 152) g.1 d_Mo_further_152 (lv_at hl 6 rfl) ?_
      refine ww_iadd (pc := 154) g.1 d_Mo_further_154 ?_
      refine ww_iconst (pc := 155) g.1 (v := 0) d_Mo_further_155 (by decide) ?_
      refine ww_lconst (pc := 156) g.1 (v := 0) d_Mo_further_156 (by decide) ?_
      obtain ⟨v157, s, hc157, h⟩ := oB_of h
      refine ww_callV (pc := 157) (rest := []) g cv_Va_set (Or.inl kw_99) (cl_Va hp1) (vok_p hp1).1 (ct_Va_set hp1 hc157) ⟨by decide, by decide⟩ rfl hl.1 (Nat.le_of_ble_eq_true rfl) d_Mo_further_157 rfl ?_
      refine ww_st (st' := []) rfl ?_
      exact j_Mo_further_j160 g hR x.1 x.2.1 x.2.2.1 x.2.2.2.1 x.2.2.2.2.1 x.2.2.2.2.2.1 x.2.2.2.2.2.2.1 x.2.2.2.2.2.2.2 s hp0 hp1 ls (lv_sub hl [0, 1, 2, 3, 4, 5, 6] rfl) h
    · refine ww_aload (pc := 128) g.1 d_Mo_further_128 (lv_at hl 2 rfl) ?_
      refine ww_iload (pc := 130) g.1 d_Mo_further_130 (lv_at hl 3 rfl) ?_
      refine ww_iload (pc := 132) g.1 d_Mo_further_132 (lv_at hl 6 rfl) ?_
      refine ww_iadd (pc := 134) g.1 d_Mo_further_134 ?_
      refine ww_aload (pc := 135) g.1 d_Mo_further_135 (lv_at hl 2 rfl) ?_
      refine ww_iload (pc := 137) g.1 d_Mo_further_137 (lv_at hl 5 rfl) ?_
      refine ww_iload (pc := 139) g.1 d_Mo_further_139 (lv_at hl 6 rfl) ?_
      refine ww_iadd (pc := 141) g.1 d_Mo_further_141 ?_
      obtain ⟨v142, s, hc142, h⟩ := oB_of h
      refine ww_callV (pc := 142) (rest := []) g cv_Va_set_ (Or.inl kw_195) (cl_Va hp1) (vok_p hp1).1 (ct_Va_set_ hp1 hp1 hc142) ⟨by decide, by decide⟩ rfl hl.1 (Nat.le_of_ble_eq_true rfl) d_Mo_further_142 rfl ?_
      refine ww_st (st' := []) rfl ?_
      refine ww_goto (pc := 145) (tgt := 160) g.1 d_Mo_further_145 (by decide) ?_
      exact j_Mo_further_j160 g hR x.1 x.2.1 x.2.2.1 x.2.2.2.1 x.2.2.2.2.1 x.2.2.2.2.2.1 x.2.2.2.2.2.2.1 x.2.2.2.2.2.2.2 s hp0 hp1 ls (lv_sub hl [0, 1, 2, 3, 4, 5, 6] rfl) h

theorem lp_Mo_further_L60 {X : Cx} {q : PL} (g : Gd X y_Mo_further b_Mo_further 10 none 2 45 R_Mo) (x : Int32 × Int32 × Int32 × Nat × Int32 × Int32 × Int32 × Int32) (s : S1) (o : ((Int32 × Int32 × Int32 × Nat × Int32 × Int32 × Int32 × Int32) ⊕ ((Int32 × Int32 × Int32 × Int32))) × S1) (h : M_Mo_further_L60 x s = some o) (hR : (Sum.elim (fun y : Int32 × Int32 × Int32 × Nat × Int32 × Int32 × Int32 × Int32 => ∀ ls : Array Slot, (0 ≤ y.1 ∧ y.1 < 33) → (VOK y.2.2.2.1 y.2.2.2.2.1) → lv_has ls 10 [(1, .ref (q.1 28 y.1)), (2, .int y.2.1), (4, .int y.2.2.1), (5, .ref (q.1 y.2.2.2.1 y.2.2.2.2.1)), (7, .int y.2.2.2.2.2.1), (8, .int y.2.2.2.2.2.2.1), (9, .int y.2.2.2.2.2.2.2)] → WW X q o.2 60 ls []) (fun y : Int32 × Int32 × Int32 × Int32 => ∀ ls : Array Slot, (0 ≤ y.1 ∧ y.1 < 33) → lv_has ls 10 [(1, .ref (q.1 28 y.1)), (2, .int y.2.1), (4, .int y.2.2.1), (7, .int y.2.2.2)] → WW X q o.2 87 ls []) o.1)) : ∀ ls : Array Slot, (0 ≤ x.1 ∧ x.1 < 33) → (VOK x.2.2.2.1 x.2.2.2.2.1) → lv_has ls 10 [(1, .ref (q.1 28 x.1)), (2, .int x.2.1), (4, .int x.2.2.1), (5, .ref (q.1 x.2.2.2.1 x.2.2.2.2.1)), (7, .int x.2.2.2.2.2.1), (8, .int x.2.2.2.2.2.2.1), (9, .int x.2.2.2.2.2.2.2)] → WW X q s 60 ls [] := by
  intro ls hp0 hp1 hl
  unfold M_Mo_further_L60 at h
  refine ww_iload (pc := 60) g.1 d_Mo_further_60 (lv_at hl 6 rfl) ?_
  refine ww_iload (pc := 62) g.1 d_Mo_further_62 (lv_at hl 4 rfl) ?_
  refine ww_icmp_ge (pc := 64) (tgt := 87) g.1 d_Mo_further_64 (by decide) h (fun c h => ?_) (fun c h => ?_)
  · rw [oR_eq h] at hR
    exact hR ls hp0 (lv_sub hl [0, 1, 2, 4] rfl)
  · refine ww_aload_n (pc := 67) g.1 d_Mo_further_67 rfl (lv_at hl 0 rfl) ?_
    refine ww_gR (pc := 68) g (k := 8) cl_Th (pt rfl rfl hp0) (by decide) (Or.inl kw_271) (f := 3592) (t := 22) rfl rfl rfl d_Mo_further_68 ?_
    refine ww_aload (pc := 71) g.1 d_Mo_further_71 (lv_at hl 3 rfl) ?_
    refine ww_iload (pc := 73) g.1 d_Mo_further_73 (lv_at hl 5 rfl) ?_
    refine ww_iload (pc := 75) g.1 d_Mo_further_75 (lv_at hl 6 rfl) ?_
    refine ww_iadd (pc := 77) g.1 d_Mo_further_77 ?_
    obtain ⟨v78, s, hc78, h⟩ := oB_of h
    refine ww_callV (pc := 78) (rest := []) g cv_Va_add_ (Or.inl kw_221) (cl_Va (Or.inr ⟨by decide, hp0⟩)) (pt rfl rfl hp0) (ct_Va_add_ (Or.inr ⟨by decide, hp0⟩) hp1 hc78) ⟨by decide, by decide⟩ rfl hl.1 (Nat.le_of_ble_eq_true rfl) d_Mo_further_78 rfl ?_
    refine ww_st (st' := []) rfl ?_
    refine ww_iinc (pc := 81) g.1 (v := x.2.2.2.2.2.2.2 + 1) (lv' := [(9, .int (x.2.2.2.2.2.2.2 + 1)), (1, .ref (q.1 28 x.1)), (2, .int x.2.1), (4, .int x.2.2.1), (5, .ref (q.1 x.2.2.2.1 x.2.2.2.2.1)), (7, .int x.2.2.2.2.2.1), (8, .int x.2.2.2.2.2.2.1)]) d_Mo_further_81 hl (k := 6) rfl (by rfl) (by decide) rfl fun ls hl => ?_
    refine ww_goto (pc := 84) (tgt := 60) g.1 d_Mo_further_84 (by decide) ?_
    rw [oR_eq h] at hR
    exact hR ls hp0 hp1 (lv_sub hl [1, 2, 3, 4, 5, 6, 0] rfl)

theorem j_Mo_further_j24 {X : Cx} {q : PL} (g : Gd X y_Mo_further b_Mo_further 10 none 2 45 R_Mo) {o : (Unit) × S1} (hR : Rt X q o.2 none) (l1 : Int32) (l2 : Int32) (l4 : Int32) (l5r : Nat) (l5 : Int32) (l6 : Int32) (k0 : Int32) (s : S1) (hp0 : 0 ≤ l1 ∧ l1 < 33) (hp1 : VOK l5r l5) (ls : Array Slot) (hl : lv_has ls 10 [(1, .ref (q.1 28 l1)), (2, .int l2), (4, .int l4), (5, .ref (q.1 l5r l5)), (6, .int l6)]) (h : M_Mo_further_j24 l1 l2 l4 l5r l5 l6 k0 s = some o) : WW X q s 24 ls [.int k0] := by
  unfold M_Mo_further_j24 at h
  refine ww_istore (pc := 24) (i := 7) g.1 (lv' := [(7, .int k0), (1, .ref (q.1 28 l1)), (2, .int l2), (4, .int l4), (5, .ref (q.1 l5r l5)), (6, .int l6)]) d_Mo_further_24 hl (by decide) rfl fun ls hl => ?_
  refine ww_aload_n (pc := 26) g.1 d_Mo_further_26 rfl (lv_at hl 1 rfl) ?_
  refine ww_gR (pc := 27) g (k := 14) cl_Th (pt rfl rfl hp0) (by decide) (Or.inl kw_254) (f := 3598) (t := 33) rfl rfl rfl d_Mo_further_27 ?_
  refine ww_iload_n (pc := 30) g.1 d_Mo_further_30 rfl (lv_at hl 2 rfl) ?_
  refine ww_ai (pc := 31) g (pt rfl rfl hp0) rfl rfl d_Mo_further_31 h fun v31 h => ?_
  refine ww_aload_n (pc := 32) g.1 d_Mo_further_32 rfl (lv_at hl 1 rfl) ?_
  refine ww_gR (pc := 33) g (k := 15) cl_Th (pt rfl rfl hp0) (by decide) (Or.inl kw_155) (f := 3599) (t := 34) rfl rfl rfl d_Mo_further_33 ?_
  refine ww_iload_n (pc := 36) g.1 d_Mo_further_36 rfl (lv_at hl 2 rfl) ?_
  refine ww_ai (pc := 37) g (pt rfl rfl hp0) rfl rfl d_Mo_further_37 h fun v37 h => ?_
  refine ww_isub (pc := 38) g.1 d_Mo_further_38 ?_
  refine ww_leti h fun l8_39 h => ?_
  refine ww_istore (pc := 39) (i := 8) g.1 (lv' := [(8, .int l8_39), (7, .int k0), (1, .ref (q.1 28 l1)), (2, .int l2), (4, .int l4), (5, .ref (q.1 l5r l5)), (6, .int l6)]) d_Mo_further_39 hl (by decide) rfl fun ls hl => ?_
  refine ww_iload (pc := 41) g.1 d_Mo_further_41 (lv_at hl 4 rfl) ?_
  obtain ⟨v43, s, hc43, h⟩ := oB_of h
  refine ww_callS (pc := 43) (rest := []) g cs_Mo_b (Or.inl kw_54) (ct_Mo_b hc43) ⟨by decide, by decide⟩ rfl hl.1 (Nat.le_of_ble_eq_true rfl) d_Mo_further_43 rfl ?_
  refine ww_st (st' := [.int v43]) rfl ?_
  refine ww_if_ne (pc := 46) (tgt := 107) g.1 d_Mo_further_46 (by decide) h (fun c h => ?_) (fun c h => ?_)
  · refine ww_iconst (pc := 107) g.1 (v := 0) d_Mo_further_107 (by decide) ?_
    refine ww_istore (pc := 108) (i := 9) g.1 (lv' := [(9, .int 0), (8, .int l8_39), (7, .int k0), (1, .ref (q.1 28 l1)), (2, .int l2), (4, .int l4), (5, .ref (q.1 l5r l5)), (6, .int l6)]) d_Mo_further_108 hl (by decide) rfl fun ls hl => ?_
    obtain ⟨e110, s1, hw, h⟩ := oB_of h
    refine oW_rule (Wh := fun (x : Int32 × Int32 × Nat × Int32 × Int32 × Int32 × Int32 × Int32) (s : S1) => ∀ ls : Array Slot, (0 ≤ x.1 ∧ x.1 < 33) → (VOK x.2.2.1 x.2.2.2.1) → lv_has ls 10 [(1, .ref (q.1 28 x.1)), (2, .int x.2.1), (5, .ref (q.1 x.2.2.1 x.2.2.2.1)), (6, .int x.2.2.2.2.1), (7, .int x.2.2.2.2.2.1), (8, .int x.2.2.2.2.2.2.1), (9, .int x.2.2.2.2.2.2.2)] → WW X q s 110 ls []) (We := fun (e : (Unit)) (s : S1) => ∀ ls : Array Slot, lv_has ls 10 [] → WW X q s 166 ls []) (fun x s o hb hc => lp_Mo_further_L110 (q := q) g x s o hb hc) hw ?_ ls hp0 hp1 (lv_sub hl [3, 4, 6, 7, 2, 1, 0] rfl)
    clear hw hl
    clear ls
    intro ls hl
    generalize s1 = s at h ⊢
    exact ww_vretH (pc := 166) g h hR d_Mo_further_166
  · refine ww_aload_n (pc := 49) g.1 d_Mo_further_49 rfl (lv_at hl 2 rfl) ?_
    refine ww_gR (pc := 50) g (k := 8) cl_Th (pt rfl rfl hp0) (by decide) (Or.inl kw_271) (f := 3592) (t := 22) rfl rfl rfl d_Mo_further_50 ?_
    refine ww_iconst (pc := 53) g.1 (v := 0) d_Mo_further_53 (by decide) ?_
    refine ww_pI (pc := 54) g (k := 2) (cl_Va (Or.inr ⟨by decide, hp0⟩)) (pt rfl rfl hp0) (by decide) (Or.inl kw_179) rfl (f := 2818) rfl rfl rfl rfl d_Mo_further_54 h fun s hs h => ?_
    refine ww_iconst (pc := 57) g.1 (v := 0) d_Mo_further_57 (by decide) ?_
    refine ww_istore (pc := 58) (i := 9) g.1 (lv' := [(9, .int 0), (8, .int l8_39), (7, .int k0), (1, .ref (q.1 28 l1)), (2, .int l2), (4, .int l4), (5, .ref (q.1 l5r l5)), (6, .int l6)]) d_Mo_further_58 hl (by decide) rfl fun ls hl => ?_
    obtain ⟨e60, s1, hw, h⟩ := oB_of h
    refine oW_rule (Wh := fun (x : Int32 × Int32 × Int32 × Nat × Int32 × Int32 × Int32 × Int32) (s : S1) => ∀ ls : Array Slot, (0 ≤ x.1 ∧ x.1 < 33) → (VOK x.2.2.2.1 x.2.2.2.2.1) → lv_has ls 10 [(1, .ref (q.1 28 x.1)), (2, .int x.2.1), (4, .int x.2.2.1), (5, .ref (q.1 x.2.2.2.1 x.2.2.2.2.1)), (7, .int x.2.2.2.2.2.1), (8, .int x.2.2.2.2.2.2.1), (9, .int x.2.2.2.2.2.2.2)] → WW X q s 60 ls []) (We := fun (e : (Int32 × Int32 × Int32 × Int32)) (s : S1) => ∀ ls : Array Slot, (0 ≤ e.1 ∧ e.1 < 33) → lv_has ls 10 [(1, .ref (q.1 28 e.1)), (2, .int e.2.1), (4, .int e.2.2.1), (7, .int e.2.2.2)] → WW X q s 87 ls []) (fun x s o hb hc => lp_Mo_further_L60 (q := q) g x s o hb hc) hw ?_ ls hp0 hp1 (lv_sub hl [3, 4, 5, 6, 2, 1, 0] rfl)
    clear hw hl
    clear ls
    intro ls hq60_0 hl
    generalize s1 = s at h ⊢
    refine ww_aload_n (pc := 87) g.1 d_Mo_further_87 rfl (lv_at hl 0 rfl) ?_
    refine ww_gR (pc := 88) g (k := 16) cl_Th (pt rfl rfl hq60_0) (by decide) (Or.inl kw_270) (f := 3600) (t := 35) rfl rfl rfl d_Mo_further_88 ?_
    refine ww_iload_n (pc := 91) g.1 d_Mo_further_91 rfl (lv_at hl 1 rfl) ?_
    refine ww_iload (pc := 92) g.1 d_Mo_further_92 (lv_at hl 2 rfl) ?_
    obtain ⟨v94, s, hc94, h⟩ := oB_of h
    refine ww_callS (pc := 94) (rest := [.int e60.2.1, .ref (q.1 35 e60.1)]) g cs_Mo_a (Or.inl kw_280) (ct_Mo_a hc94) ⟨by decide, by decide⟩ rfl hl.1 (Nat.le_of_ble_eq_true rfl) d_Mo_further_94 rfl ?_
    refine ww_st (st' := [.int v94, .int e60.2.1, .ref (q.1 35 e60.1)]) rfl ?_
    refine ww_si (pc := 97) g (pt rfl rfl hq60_0) rfl rfl d_Mo_further_97 h fun s hs h => ?_
    refine ww_aload_n (pc := 98) g.1 d_Mo_further_98 rfl (lv_at hl 0 rfl) ?_
    refine ww_gR (pc := 99) g (k := 17) cl_Th (pt rfl rfl hq60_0) (by decide) (Or.inl kw_154) (f := 3601) (t := 36) rfl rfl rfl d_Mo_further_99 ?_
    refine ww_iload_n (pc := 102) g.1 d_Mo_further_102 rfl (lv_at hl 1 rfl) ?_
    refine ww_iload (pc := 103) g.1 d_Mo_further_103 (lv_at hl 3 rfl) ?_
    refine ww_si (pc := 105) g (pt rfl rfl hq60_0) rfl rfl d_Mo_further_105 h fun s hs h => ?_
    exact ww_vretH (pc := 106) g h hR d_Mo_further_106

theorem ct_Mo_further {l : Launch} {P : PP} {q : PL} {s s' : S1} {l1 : Int32} {l2 : Int32} {l3 : Int32} {l4 : Int32} {l5r : Nat} {l5 : Int32} {l6 : Int32} (hp0 : 0 ≤ l1 ∧ l1 < 33) (hp1 : VOK l5r l5) {r : Unit} (h : M_Mo_further l1 l2 l3 l4 l5r l5 l6 s = some (r, s')) : Ct l y_Mo_further b_Mo_further 10 none 2 45 P q s [.ref (q.1 0 0), .ref (q.1 28 l1), .int l2, .int l3, .int l4, .ref (q.1 l5r l5), .int l6] none q s' := by
  refine ct_of (by decide) (Nat.le_of_ble_eq_true rfl) fun X ls eP el g hR hl => ?_
  subst eP
  have hR : Rt X q ((r, s') : Unit × S1).2 none := hR
  have hl : lv_has ls 10 [(0, .ref (q.1 0 0)), (1, .ref (q.1 28 l1)), (2, .int l2), (3, .int l3), (4, .int l4), (5, .ref (q.1 l5r l5)), (6, .int l6)] := hl
  generalize (r, s') = o at h hR
  unfold M_Mo_further at h
  refine ww_iload (pc := 0) g.1 d_Mo_further_0 (lv_at hl 4 rfl) ?_
  obtain ⟨v2, s, hc2, h⟩ := oB_of h
  refine ww_callS (pc := 2) (rest := []) g cs_Mo_b (Or.inl kw_54) (ct_Mo_b hc2) ⟨by decide, by decide⟩ rfl hl.1 (Nat.le_of_ble_eq_true rfl) d_Mo_further_2 rfl ?_
  refine ww_st (st' := [.int v2]) rfl ?_
  refine ww_if_ne (pc := 5) (tgt := 17) g.1 d_Mo_further_5 (by decide) h (fun c h => ?_) (fun c h => ?_)
  · refine ww_iload (pc := 17) g.1 d_Mo_further_17 (lv_at hl 4 rfl) ?_
    obtain ⟨v19, s, hc19, h⟩ := oB_of h
    refine ww_callS (pc := 19) (rest := []) g cs_Mo_b (Or.inl kw_54) (ct_Mo_b hc19) ⟨by decide, by decide⟩ rfl hl.1 (Nat.le_of_ble_eq_true rfl) d_Mo_further_19 rfl ?_
    refine ww_st (st' := [.int v19]) rfl ?_
    refine ww_iconst (pc := 22) g.1 (v := 1) d_Mo_further_22 (by decide) ?_
    refine ww_isub (pc := 23) g.1 d_Mo_further_23 ?_
    exact j_Mo_further_j24 g hR l1 l2 l4 l5r l5 l6 (v19 - 1) s hp0 hp1 ls (lv_sub hl [1, 2, 4, 5, 6] rfl) h
  · refine ww_aload_n (pc := 8) g.1 d_Mo_further_8 rfl (lv_at hl 1 rfl) ?_
    refine ww_gR (pc := 9) g (k := 15) cl_Th (pt rfl rfl hp0) (by decide) (Or.inl kw_155) (f := 3599) (t := 34) rfl rfl rfl d_Mo_further_9 ?_
    refine ww_iload_n (pc := 12) g.1 d_Mo_further_12 rfl (lv_at hl 2 rfl) ?_
    refine ww_ai (pc := 13) g (pt rfl rfl hp0) rfl rfl d_Mo_further_13 h fun v13 h => ?_
    refine ww_goto (pc := 14) (tgt := 24) g.1 d_Mo_further_14 (by decide) ?_
    exact j_Mo_further_j24 g hR l1 l2 l4 l5r l5 l6 v13 s hp0 hp1 ls (lv_sub hl [1, 2, 4, 5, 6] rfl) h


