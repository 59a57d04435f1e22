abbrev b_Mo_push : ByteArray := prog_14_method_68_code
def y_Mo_push : MethodName := ⟨R_Mo, "push", "(II)Z"⟩
abbrev w_Mo_push : List Cond := .code y_Mo_push b_Mo_push 5 (some .boolean) :: wA
theorem k_Mo_push : Cond.code y_Mo_push b_Mo_push 5 (some .boolean) ∈ wA := kinm (show _ ∈ tables_1 from (List.mem_append_right _ (List.mem_append_right _ (List.mem_append_right _ (List.mem_append_right _ (List.mem_append_right _ (List.mem_append_right _ (List.mem_append_right _ (List.mem_append_right _ (List.mem_append_right _ (List.mem_append_right _ (List.mem_append_right _ (List.mem_append_left _ (List.mem_of_getElem? (l := tables_1_12) (i := 141) (by decide +kernel))))))))))))))) (by decide +kernel)
theorem d_Mo_push_0 : decode b_Mo_push 0 = .ok (.aload_n 0, 1) := by decide +kernel
theorem d_Mo_push_1 : decode b_Mo_push 1 = .ok (.getfield 243, 3) := by decide +kernel
theorem d_Mo_push_4 : decode b_Mo_push 4 = .ok (.astore_n 3, 1) := by decide +kernel
theorem d_Mo_push_5 : decode b_Mo_push 5 = .ok (.aload_n 3, 1) := by decide +kernel
theorem d_Mo_push_6 : decode b_Mo_push 6 = .ok (.getfield 730, 3) := by decide +kernel
theorem d_Mo_push_9 : decode b_Mo_push 9 = .ok (.sipush 200, 3) := by decide +kernel
theorem d_Mo_push_12 : decode b_Mo_push 12 = .ok (.if_icmp .ne 11, 3) := by decide +kernel
theorem d_Mo_push_15 : decode b_Mo_push 15 = .ok (.aload_n 0, 1) := by decide +kernel
theorem d_Mo_push_16 : decode b_Mo_push 16 = .ok (.iconst 4, 1) := by decide +kernel
theorem d_Mo_push_17 : decode b_Mo_push 17 = .ok (.invokevirtual 517, 3) := by decide +kernel
theorem d_Mo_push_20 : decode b_Mo_push 20 = .ok (.pop, 1) := by decide +kernel
theorem d_Mo_push_21 : decode b_Mo_push 21 = .ok (.iconst 0, 1) := by decide +kernel
theorem d_Mo_push_22 : decode b_Mo_push 22 = .ok (.ireturn, 1) := by decide +kernel
theorem d_Mo_push_23 : decode b_Mo_push 23 = .ok (.aload_n 3, 1) := by decide +kernel
theorem d_Mo_push_24 : decode b_Mo_push 24 = .ok (.dup, 1) := by decide +kernel
theorem d_Mo_push_25 : decode b_Mo_push 25 = .ok (.getfield 730, 3) := by decide +kernel
theorem d_Mo_push_28 : decode b_Mo_push 28 = .ok (.dup_x1, 1) := by decide +kernel
theorem d_Mo_push_29 : decode b_Mo_push 29 = .ok (.iconst 1, 1) := by decide +kernel
theorem d_Mo_push_30 : decode b_Mo_push 30 = .ok (.iadd, 1) := by decide +kernel
theorem d_Mo_push_31 : decode b_Mo_push 31 = .ok (.putfield 730, 3) := by decide +kernel
theorem d_Mo_push_34 : decode b_Mo_push 34 = .ok (.istore 4, 2) := by decide +kernel
theorem d_Mo_push_36 : decode b_Mo_push 36 = .ok (.aload_n 3, 1) := by decide +kernel
theorem d_Mo_push_37 : decode b_Mo_push 37 = .ok (.getfield 733, 3) := by decide +kernel
theorem d_Mo_push_40 : decode b_Mo_push 40 = .ok (.iload 4, 2) := by decide +kernel
theorem d_Mo_push_42 : decode b_Mo_push 42 = .ok (.iload_n 1, 1) := by decide +kernel
theorem d_Mo_push_43 : decode b_Mo_push 43 = .ok (.iastore, 1) := by decide +kernel
theorem d_Mo_push_44 : decode b_Mo_push 44 = .ok (.aload_n 3, 1) := by decide +kernel
theorem d_Mo_push_45 : decode b_Mo_push 45 = .ok (.getfield 736, 3) := by decide +kernel
theorem d_Mo_push_48 : decode b_Mo_push 48 = .ok (.iload 4, 2) := by decide +kernel
theorem d_Mo_push_50 : decode b_Mo_push 50 = .ok (.iload_n 2, 1) := by decide +kernel
theorem d_Mo_push_51 : decode b_Mo_push 51 = .ok (.iastore, 1) := by decide +kernel
theorem d_Mo_push_52 : decode b_Mo_push 52 = .ok (.aload_n 3, 1) := by decide +kernel
theorem d_Mo_push_53 : decode b_Mo_push 53 = .ok (.getfield 738, 3) := by decide +kernel
theorem d_Mo_push_56 : decode b_Mo_push 56 = .ok (.iload 4, 2) := by decide +kernel
theorem d_Mo_push_58 : decode b_Mo_push 58 = .ok (.iconst 0, 1) := by decide +kernel
theorem d_Mo_push_59 : decode b_Mo_push 59 = .ok (.iastore, 1) := by decide +kernel
theorem d_Mo_push_60 : decode b_Mo_push 60 = .ok (.aload_n 3, 1) := by decide +kernel
theorem d_Mo_push_61 : decode b_Mo_push 61 = .ok (.getfield 741, 3) := by decide +kernel
theorem d_Mo_push_64 : decode b_Mo_push 64 = .ok (.iload 4, 2) := by decide +kernel
theorem d_Mo_push_66 : decode b_Mo_push 66 = .ok (.iconst 0, 1) := by decide +kernel
theorem d_Mo_push_67 : decode b_Mo_push 67 = .ok (.iastore, 1) := by decide +kernel
theorem d_Mo_push_68 : decode b_Mo_push 68 = .ok (.aload_n 3, 1) := by decide +kernel
theorem d_Mo_push_69 : decode b_Mo_push 69 = .ok (.getfield 706, 3) := by decide +kernel
theorem d_Mo_push_72 : decode b_Mo_push 72 = .ok (.iload 4, 2) := by decide +kernel
theorem d_Mo_push_74 : decode b_Mo_push 74 = .ok (.iconst 0, 1) := by decide +kernel
theorem d_Mo_push_75 : decode b_Mo_push 75 = .ok (.iastore, 1) := by decide +kernel
theorem d_Mo_push_76 : decode b_Mo_push 76 = .ok (.iconst 1, 1) := by decide +kernel
theorem d_Mo_push_77 : decode b_Mo_push 77 = .ok (.ireturn, 1) := by decide +kernel
theorem kw_155 : Cond.fieldLink R_Mo 243 "LuaMachineModel" "current" "LLuaMachineModel$Thread_;" ∈ wA := kinm (show _ ∈ tables_1 from (List.mem_append_right _ (List.mem_append_right _ (List.mem_append_right _ (List.mem_append_right _ (List.mem_append_right _ (List.mem_append_right _ (List.mem_append_right _ (List.mem_append_right _ (List.mem_append_right _ (List.mem_append_left _ (List.mem_of_getElem? (l := tables_1_10) (i := 128) (by decide +kernel))))))))))))) (by decide +kernel)
theorem kw_156 : Cond.fieldLink R_Mo 730 "LuaMachineModel$Thread_" "frames" "I" ∈ wA := kinm (show _ ∈ tables_1 from (List.mem_append_right _ (List.mem_append_right _ (List.mem_append_right _ (List.mem_append_right _ (List.mem_append_right _ (List.mem_append_right _ (List.mem_append_right _ (List.mem_append_right _ (List.mem_append_left _ (List.mem_of_getElem? (l := tables_1_9) (i := 210) (by decide +kernel)))))))))))) (by decide +kernel)
theorem kw_157 : Cond.fieldLink R_Mo 733 "LuaMachineModel$Thread_" "kind" "[I" ∈ wA := kinm (show _ ∈ tables_1 from (List.mem_append_right _ (List.mem_append_right _ (List.mem_append_right _ (List.mem_append_right _ (List.mem_append_right _ (List.mem_append_right _ (List.mem_append_right _ (List.mem_append_right _ (List.mem_append_left _ (List.mem_of_getElem? (l := tables_1_9) (i := 227) (by decide +kernel)))))))))))) (by decide +kernel)
theorem kw_158 : Cond.fieldLink R_Mo 736 "LuaMachineModel$Thread_" "function" "[I" ∈ wA := kinm (show _ ∈ tables_1 from (List.mem_append_right _ (List.mem_append_right _ (List.mem_append_right _ (List.mem_append_right _ (List.mem_append_right _ (List.mem_append_right _ (List.mem_append_right _ (List.mem_append_right _ (List.mem_append_left _ (List.mem_of_getElem? (l := tables_1_9) (i := 229) (by decide +kernel)))))))))))) (by decide +kernel)
theorem kw_159 : Cond.fieldLink R_Mo 738 "LuaMachineModel$Thread_" "rowCount" "[I" ∈ wA := kinm (show _ ∈ tables_1 from (List.mem_append_right _ (List.mem_append_right _ (List.mem_append_right _ (List.mem_append_right _ (List.mem_append_right _ (List.mem_append_right _ (List.mem_append_right _ (List.mem_append_right _ (List.mem_append_left _ (List.mem_of_getElem? (l := tables_1_9) (i := 239) (by decide +kernel)))))))))))) (by decide +kernel)
theorem kw_160 : Cond.fieldLink R_Mo 741 "LuaMachineModel$Thread_" "extra" "[I" ∈ wA := kinm (show _ ∈ tables_1 from (List.mem_append_right _ (List.mem_append_right _ (List.mem_append_right _ (List.mem_append_right _ (List.mem_append_right _ (List.mem_append_right _ (List.mem_append_right _ (List.mem_append_right _ (List.mem_append_left _ (List.mem_of_getElem? (l := tables_1_9) (i := 235) (by decide +kernel)))))))))))) (by decide +kernel)
theorem kw_161 : Cond.fieldLink R_Mo 706 "LuaMachineModel$Thread_" "mode" "[I" ∈ wA := kinm (show _ ∈ tables_1 from (List.mem_append_right _ (List.mem_append_right _ (List.mem_append_right _ (List.mem_append_right _ (List.mem_append_right _ (List.mem_append_right _ (List.mem_append_right _ (List.mem_append_right _ (List.mem_append_right _ (List.mem_append_left _ (List.mem_of_getElem? (l := tables_1_10) (i := 1) (by decide +kernel))))))))))))) (by decide +kernel)
theorem kw_162 : Cond.methodLink R_Mo 517 y_Mo_raise ∈ wA := kinm (show _ ∈ tables_1 from (List.mem_append_right _ (List.mem_append_right _ (List.mem_append_right _ (List.mem_append_right _ (List.mem_append_right _ (List.mem_append_right _ (List.mem_append_right _ (List.mem_append_right _ (List.mem_append_right _ (List.mem_append_right _ (List.mem_append_left _ (List.mem_of_getElem? (l := tables_1_11) (i := 237) (by decide +kernel)))))))))))))) (by decide +kernel)
theorem kw_163 : Cond.instanceMethod y_Mo_push ∈ wA := kinm (show _ ∈ tables_1 from (List.mem_append_right _ (List.mem_append_right _ (List.mem_append_right _ (List.mem_append_right _ (List.mem_append_right _ (List.mem_append_right _ (List.mem_append_right _ (List.mem_append_right _ (List.mem_append_right _ (List.mem_append_right _ (List.mem_append_right _ (List.mem_append_left _ (List.mem_of_getElem? (l := tables_1_12) (i := 140) (by decide +kernel))))))))))))))) (by decide +kernel)
theorem kw_164 : Cond.selects R_Mo y_Mo_push y_Mo_push ∈ wA := kinp 156 (by decide +kernel) (by decide +kernel)
def M_Mo_push (l1 : Int32) (l2 : Int32) : M (Int32) :=
  oB (oGI 72 0) fun v1 =>
  oB (oK ((0 : Int32) ≤ v1 ∧ v1 < 33)) fun _ =>
  oB (oGI 3586 v1) fun v6 =>
  oC (v6 = 200)
    (oB (M_Mo_raise 4) fun v17 =>
    oR 0)
    (oB (oK ((0 : Int32) ≤ v1 ∧ v1 < 33)) fun _ =>
    oB (oGI 3586 v1) fun v25 =>
    oB (oPI 3586 v1 (v25 + 1)) fun _ =>
    oB (oK ((0 : Int32) ≤ v1 ∧ v1 < 33)) fun _ =>
    oB (oSI 30 201 v1 v25 l1) fun _ =>
    oB (oK ((0 : Int32) ≤ v1 ∧ v1 < 33)) fun _ =>
    oB (oSI 31 201 v1 v25 l2) fun _ =>
    oB (oK ((0 : Int32) ≤ v1 ∧ v1 < 33)) fun _ =>
    oB (oSI 36 201 v1 v25 0) fun _ =>
    oB (oK ((0 : Int32) ≤ v1 ∧ v1 < 33)) fun _ =>
    oB (oSI 34 201 v1 v25 0) fun _ =>
    oB (oK ((0 : Int32) ≤ v1 ∧ v1 < 33)) fun _ =>
    oB (oSI 37 201 v1 v25 0) fun _ =>
    oR 1)

theorem cv_Mo_push : CV y_Mo_push b_Mo_push 5 (some .boolean) 2 := ⟨kw_163, kw_164, kw_17, k_Mo_push, by decide +kernel⟩
theorem ct_Mo_push {l : Launch} {P : PP} {q : PL} {s s' : S1} {l1 : Int32} {l2 : Int32} {r : Int32} (h : M_Mo_push l1 l2 s = some (r, s')) : Ct l y_Mo_push b_Mo_push 5 (some .boolean) 1 21 P q s [.ref (q.1 0 0), .int l1, .int l2] (some (.int r)) q s' := by
  refine ct_of (by decide) (Nat.le_of_ble_eq_true rfl) fun X ls eP el g hR hl => ?_
  have hR : Rt X q ((r, s') : Int32 × S1).2 (some (.int ((r, s') : Int32 × S1).1)) := hR
  have hl : lv_has ls 5 [(0, .ref (q.1 0 0)), (1, .int l1), (2, .int l2)] := hl
  generalize (r, s') = o at h hR
  unfold M_Mo_push at h
  refine ww_aload_n (pc := 0) g.1 d_Mo_push_0 rfl (lv_at hl 0 rfl) ?_
  refine ww_gV (pc := 1) g (k := 72) cl_Mo (pz rfl (by decide)) (by decide) (Or.inl kw_155) (f := 72) (t := 28) rfl rfl rfl d_Mo_push_1 h fun v1 h => ?_
  refine ww_astore_nV (pc := 4) g.1 vr_cases (lv' := [(3, vr q 28 v1), (0, .ref (q.1 0 0)), (1, .int l1), (2, .int l2)]) d_Mo_push_4 rfl hl (by decide) rfl fun ls hl => ?_
  refine ww_aload_nV (pc := 5) g.1 vr_cases d_Mo_push_5 rfl (lv_at hl 0 rfl) ?_
  refine ww_ok h fun cn5 h => ?_
  refine ww_nn cn5 ?_
  refine ww_gI (pc := 6) g (k := 2) cl_Th (pt rfl rfl cn5) (by decide) (Or.inl kw_156) (f := 3586) rfl rfl d_Mo_push_6 h fun v6 h => ?_
  refine ww_sipush (pc := 9) g.1 (v := 200) d_Mo_push_9 (by decide) ?_
  refine ww_icmp_ne (pc := 12) (tgt := 23) g.1 d_Mo_push_12 (by decide) h (fun c h => ?_) (fun c h => ?_)
  · refine ww_aload_nV (pc := 23) g.1 vr_cases d_Mo_push_23 rfl (lv_at hl 0 rfl) ?_
    refine ww_ok h fun cn23 h => ?_
    refine ww_nn cn23 ?_
    refine ww_dup (pc := 24) g.1 d_Mo_push_24 rfl ?_
    refine ww_gI (pc := 25) g (k := 2) cl_Th (pt rfl rfl cn23) (by decide) (Or.inl kw_156) (f := 3586) rfl rfl d_Mo_push_25 h fun v25 h => ?_
    refine ww_dup_x1 (pc := 28) g.1 d_Mo_push_28 rfl rfl ?_
    refine ww_iconst (pc := 29) g.1 (v := 1) d_Mo_push_29 (by decide) ?_
    refine ww_iadd (pc := 30) g.1 d_Mo_push_30 ?_
    refine ww_pI (pc := 31) g (k := 2) cl_Th (pt rfl rfl cn23) (by decide) (Or.inl kw_156) rfl (f := 3586) rfl rfl rfl rfl d_Mo_push_31 h fun s hs h => ?_
    refine ww_istore (pc := 34) g.1 (lv' := [(4, .int v25), (3, vr q 28 v1), (0, .ref (q.1 0 0)), (1, .int l1), (2, .int l2)]) d_Mo_push_34 hl (by decide) (by simp [vr_cat]) fun ls hl => ?_
    refine ww_aload_nV (pc := 36) g.1 vr_cases d_Mo_push_36 rfl (lv_at hl 1 rfl) ?_
    refine ww_ok h fun cn36 h => ?_
    refine ww_nn cn36 ?_
    refine ww_gR (pc := 37) g (k := 11) cl_Th (pt rfl rfl cn36) (by decide) (Or.inl kw_157) (f := 3595) (t := 30) rfl rfl rfl d_Mo_push_37 ?_
    refine ww_iload (pc := 40) g.1 d_Mo_push_40 (lv_at hl 0 rfl) ?_
    refine ww_iload_n (pc := 42) g.1 d_Mo_push_42 rfl (lv_at hl 3 rfl) ?_
    refine ww_si (pc := 43) g (pt rfl rfl cn36) rfl rfl d_Mo_push_43 h fun s hs h => ?_
    refine ww_aload_nV (pc := 44) g.1 vr_cases d_Mo_push_44 rfl (lv_at hl 1 rfl) ?_
    refine ww_ok h fun cn44 h => ?_
    refine ww_nn cn44 ?_
    refine ww_gR (pc := 45) g (k := 12) cl_Th (pt rfl rfl cn44) (by decide) (Or.inl kw_158) (f := 3596) (t := 31) rfl rfl rfl d_Mo_push_45 ?_
    refine ww_iload (pc := 48) g.1 d_Mo_push_48 (lv_at hl 0 rfl) ?_
    refine ww_iload_n (pc := 50) g.1 d_Mo_push_50 rfl (lv_at hl 4 rfl) ?_
    refine ww_si (pc := 51) g (pt rfl rfl cn44) rfl rfl d_Mo_push_51 h fun s hs h => ?_
    refine ww_aload_nV (pc := 52) g.1 vr_cases d_Mo_push_52 rfl (lv_at hl 1 rfl) ?_
    refine ww_ok h fun cn52 h => ?_
    refine ww_nn cn52 ?_
    refine ww_gR (pc := 53) g (k := 17) cl_Th (pt rfl rfl cn52) (by decide) (Or.inl kw_159) (f := 3601) (t := 36) rfl rfl rfl d_Mo_push_53 ?_
    refine ww_iload (pc := 56) g.1 d_Mo_push_56 (lv_at hl 0 rfl) ?_
    refine ww_iconst (pc := 58) g.1 (v := 0) d_Mo_push_58 (by decide) ?_
    refine ww_si (pc := 59) g (pt rfl rfl cn52) rfl rfl d_Mo_push_59 h fun s hs h => ?_
    refine ww_aload_nV (pc := 60) g.1 vr_cases d_Mo_push_60 rfl (lv_at hl 1 rfl) ?_
    refine ww_ok h fun cn60 h => ?_
    refine ww_nn cn60 ?_
    refine ww_gR (pc := 61) g (k := 15) cl_Th (pt rfl rfl cn60) (by decide) (Or.inl kw_160) (f := 3599) (t := 34) rfl rfl rfl d_Mo_push_61 ?_
    refine ww_iload (pc := 64) g.1 d_Mo_push_64 (lv_at hl 0 rfl) ?_
    refine ww_iconst (pc := 66) g.1 (v := 0) d_Mo_push_66 (by decide) ?_
    refine ww_si (pc := 67) g (pt rfl rfl cn60) rfl rfl d_Mo_push_67 h fun s hs h => ?_
    refine ww_aload_nV (pc := 68) g.1 vr_cases d_Mo_push_68 rfl (lv_at hl 1 rfl) ?_
    refine ww_ok h fun cn68 h => ?_
    refine ww_nn cn68 ?_
    refine ww_gR (pc := 69) g (k := 18) cl_Th (pt rfl rfl cn68) (by decide) (Or.inl kw_161) (f := 3602) (t := 37) rfl rfl rfl d_Mo_push_69 ?_
    refine ww_iload (pc := 72) g.1 d_Mo_push_72 (lv_at hl 0 rfl) ?_
    refine ww_iconst (pc := 74) g.1 (v := 0) d_Mo_push_74 (by decide) ?_
    refine ww_si (pc := 75) g (pt rfl rfl cn68) rfl rfl d_Mo_push_75 h fun s hs h => ?_
    refine ww_iconst (pc := 76) g.1 (v := 1) d_Mo_push_76 (by decide) ?_
    exact ww_zretH (pc := 77) g h hR (Or.inr rfl) d_Mo_push_77
  · refine ww_aload_n (pc := 15) g.1 d_Mo_push_15 rfl (lv_at hl 1 rfl) ?_
    refine ww_iconst (pc := 16) g.1 (v := 4) d_Mo_push_16 (by decide) ?_
    obtain ⟨v17, s, hc17, h⟩ := oB_of h
    refine ww_callV (pc := 17) (rest := []) g cv_Mo_raise (Or.inl kw_162) cl_Mo (pz rfl (by decide)) (ct_Mo_raise hc17) ⟨by decide, by decide⟩ rfl hl.1 (Nat.le_of_ble_eq_true rfl) d_Mo_push_17 rfl ?_
    refine ww_st (st' := [.int v17]) rfl ?_
    refine ww_pop (pc := 20) g.1 d_Mo_push_20 rfl ?_
    refine ww_iconst (pc := 21) g.1 (v := 0) d_Mo_push_21 (by decide) ?_
    exact ww_zretH (pc := 22) g h hR (Or.inl rfl) d_Mo_push_22

abbrev b_Va_set_ : ByteArray := prog_16_method_4_code
def y_Va_set_ : MethodName := ⟨R_Va, "set", "(ILLuaMachineModel$Values;I)V"⟩
abbrev w_Va_set_ : List Cond := .code y_Va_set_ b_Va_set_ 4 none :: wA
theorem k_Va_set_ : Cond.code y_Va_set_ b_Va_set_ 4 none ∈ wA := kinm (show _ ∈ tables_1 from (List.mem_append_right _ (List.mem_append_right _ (List.mem_append_right _ (List.mem_append_right _ (List.mem_append_right _ (List.mem_append_right _ (List.mem_append_right _ (List.mem_append_right _ (List.mem_append_right _ (List.mem_append_right _ (List.mem_append_right _ (List.mem_append_left _ (List.mem_of_getElem? (l := tables_1_12) (i := 145) (by decide +kernel))))))))))))))) (by decide +kernel)
theorem d_Va_set__0 : decode b_Va_set_ 0 = .ok (.aload_n 0, 1) := by decide +kernel
theorem d_Va_set__1 : decode b_Va_set_ 1 = .ok (.getfield 13, 3) := by decide +kernel
theorem d_Va_set__4 : decode b_Va_set_ 4 = .ok (.iload_n 1, 1) := by decide +kernel
theorem d_Va_set__5 : decode b_Va_set_ 5 = .ok (.aload_n 2, 1) := by decide +kernel
theorem d_Va_set__6 : decode b_Va_set_ 6 = .ok (.getfield 13, 3) := by decide +kernel
theorem d_Va_set__9 : decode b_Va_set_ 9 = .ok (.iload_n 3, 1) := by decide +kernel
theorem d_Va_set__10 : decode b_Va_set_ 10 = .ok (.baload, 1) := by decide +kernel
theorem d_Va_set__11 : decode b_Va_set_ 11 = .ok (.bastore, 1) := by decide +kernel
theorem d_Va_set__12 : decode b_Va_set_ 12 = .ok (.aload_n 0, 1) := by decide +kernel
theorem d_Va_set__13 : decode b_Va_set_ 13 = .ok (.getfield 17, 3) := by decide +kernel
theorem d_Va_set__16 : decode b_Va_set_ 16 = .ok (.iload_n 1, 1) := by decide +kernel
theorem d_Va_set__17 : decode b_Va_set_ 17 = .ok (.aload_n 2, 1) := by decide +kernel
theorem d_Va_set__18 : decode b_Va_set_ 18 = .ok (.getfield 17, 3) := by decide +kernel
theorem d_Va_set__21 : decode b_Va_set_ 21 = .ok (.iload_n 3, 1) := by decide +kernel
theorem d_Va_set__22 : decode b_Va_set_ 22 = .ok (.laload, 1) := by decide +kernel
theorem d_Va_set__23 : decode b_Va_set_ 23 = .ok (.lastore, 1) := by decide +kernel
theorem d_Va_set__24 : decode b_Va_set_ 24 = .ok (.return_, 1) := by decide +kernel
theorem kw_165 : Cond.instanceMethod y_Va_set_ ∈ wA := kinm (show _ ∈ tables_1 from (List.mem_append_right _ (List.mem_append_right _ (List.mem_append_right _ (List.mem_append_right _ (List.mem_append_right _ (List.mem_append_right _ (List.mem_append_right _ (List.mem_append_right _ (List.mem_append_right _ (List.mem_append_right _ (List.mem_append_right _ (List.mem_append_left _ (List.mem_of_getElem? (l := tables_1_12) (i := 143) (by decide +kernel))))))))))))))) (by decide +kernel)
theorem kw_166 : Cond.selects R_Va y_Va_set_ y_Va_set_ ∈ wA := kinm (show _ ∈ tables_1 from (List.mem_append_right _ (List.mem_append_right _ (List.mem_append_right _ (List.mem_append_right _ (List.mem_append_right _ (List.mem_append_right _ (List.mem_append_right _ (List.mem_append_right _ (List.mem_append_right _ (List.mem_append_right _ (List.mem_append_right _ (List.mem_append_left _ (List.mem_of_getElem? (l := tables_1_12) (i := 144) (by decide +kernel))))))))))))))) (by decide +kernel)
def M_Va_set_ (l0r : Nat) (l0 : Int32) (l1 : Int32) (l2r : Nat) (l2 : Int32) (l3 : Int32) : M (Unit) :=
  oB (oAI (l2r + 1) (lnI (l2r + 1)) l2 l3) fun v10 =>
  oB (oSI (l0r + 1) (lnI (l0r + 1)) l0 l1 v10.toInt8.toInt32) fun _ =>
  oB (oAL (l2r + 2) (lnI (l2r + 2)) l2 l3) fun v22 =>
  oB (oSL (l0r + 2) (lnI (l0r + 2)) l0 l1 v22) fun _ =>
  oR ()

theorem cv_Va_set_ : CV y_Va_set_ b_Va_set_ 4 none 3 := ⟨kw_165, kw_166, kw_49, k_Va_set_, by decide +kernel⟩
theorem ct_Va_set_ {l : Launch} {P : PP} {q : PL} {s s' : S1} {l0r : Nat} {l0 : Int32} {l1 : Int32} {l2r : Nat} {l2 : Int32} {l3 : Int32} (hp0 : VOK l0r l0) (hp1 : VOK l2r l2) {r : Unit} (h : M_Va_set_ l0r l0 l1 l2r l2 l3 s = some (r, s')) : Ct l y_Va_set_ b_Va_set_ 4 none 0 0 P q s [.ref (q.1 l0r l0), .int l1, .ref (q.1 l2r l2), .int l3] none q s' := by
  refine ct_of (by decide) (Nat.le_of_ble_eq_true rfl) fun X ls eP el g hR hl => ?_
  have hR : Rt X q ((r, s') : Unit × S1).2 none := hR
  have hl : lv_has ls 4 [(0, .ref (q.1 l0r l0)), (1, .int l1), (2, .ref (q.1 l2r l2)), (3, .int l3)] := hl
  generalize (r, s') = o at h hR
  unfold M_Va_set_ at h
  refine ww_aload_n (pc := 0) g.1 d_Va_set__0 rfl (lv_at hl 0 rfl) ?_
  refine ww_gR (pc := 1) g (k := 0) (cl_Va hp0) (vok_p hp0).1 (by rw [(vok_f hp0).1.2.2]; decide) (Or.inl kw_45) (f := (128 * l0r + 0)) (t := l0r + 1) rfl (vok_f hp0).2.1.1 (vok_f hp0).2.1.2 d_Va_set__1 ?_
  refine ww_iload_n (pc := 4) g.1 d_Va_set__4 rfl (lv_at hl 1 rfl) ?_
  refine ww_aload_n (pc := 5) g.1 d_Va_set__5 rfl (lv_at hl 2 rfl) ?_
  refine ww_gR (pc := 6) g (k := 0) (cl_Va hp1) (vok_p hp1).1 (by rw [(vok_f hp1).1.2.2]; decide) (Or.inl kw_45) (f := (128 * l2r + 0)) (t := l2r + 1) rfl (vok_f hp1).2.1.1 (vok_f hp1).2.1.2 d_Va_set__6 ?_
  refine ww_iload_n (pc := 9) g.1 d_Va_set__9 rfl (lv_at hl 3 rfl) ?_
  refine ww_ab (pc := 10) g (vok_p hp1).2.1 (vok_f hp1).2.2.2.2.1 (vok_n hp1).1 d_Va_set__10 h fun v10 h => ?_
  refine ww_sb (pc := 11) g (vok_p hp0).2.1 (vok_f hp0).2.2.2.2.1 (vok_n hp0).1 d_Va_set__11 h fun s hs h => ?_
  refine ww_aload_n (pc := 12) g.1 d_Va_set__12 rfl (lv_at hl 0 rfl) ?_
  refine ww_gR (pc := 13) g (k := 1) (cl_Va hp0) (vok_p hp0).1 (by rw [(vok_f hp0).1.2.2]; decide) (Or.inl kw_46) (f := (128 * l0r + 1)) (t := l0r + 2) rfl (vok_f hp0).2.2.1.1 (vok_f hp0).2.2.1.2 d_Va_set__13 ?_
  refine ww_iload_n (pc := 16) g.1 d_Va_set__16 rfl (lv_at hl 1 rfl) ?_
  refine ww_aload_n (pc := 17) g.1 d_Va_set__17 rfl (lv_at hl 2 rfl) ?_
  refine ww_gR (pc := 18) g (k := 1) (cl_Va hp1) (vok_p hp1).1 (by rw [(vok_f hp1).1.2.2]; decide) (Or.inl kw_46) (f := (128 * l2r + 1)) (t := l2r + 2) rfl (vok_f hp1).2.2.1.1 (vok_f hp1).2.2.1.2 d_Va_set__18 ?_
  refine ww_iload_n (pc := 21) g.1 d_Va_set__21 rfl (lv_at hl 3 rfl) ?_
  refine ww_al (pc := 22) g (vok_p hp1).2.2 (vok_f hp1).2.2.2.2.2 (vok_n hp1).2 d_Va_set__22 h fun v22 h => ?_
  refine ww_sl (pc := 23) g (vok_p hp0).2.2 (vok_f hp0).2.2.2.2.2 (vok_n hp0).2 d_Va_set__23 h fun s hs h => ?_
  exact ww_vretH (pc := 24) g h hR d_Va_set__24

abbrev b_Mo_fault : ByteArray := prog_14_method_61_code
def y_Mo_fault : MethodName := ⟨R_Mo, "fault", "(I)I"⟩
abbrev w_Mo_fault : List Cond := .code y_Mo_fault b_Mo_fault 2 (some .int) :: wA
theorem k_Mo_fault : Cond.code y_Mo_fault b_Mo_fault 2 (some .int) ∈ wA := kinm (show _ ∈ tables_1 from (List.mem_append_right _ (List.mem_append_right _ (List.mem_append_right _ (List.mem_append_right _ (List.mem_append_right _ (List.mem_append_right _ (List.mem_append_right _ (List.mem_append_right _ (List.mem_append_right _ (List.mem_append_right _ (List.mem_append_right _ (List.mem_append_left _ (List.mem_of_getElem? (l := tables_1_12) (i := 149) (by decide +kernel))))))))))))))) (by decide +kernel)
theorem d_Mo_fault_0 : decode b_Mo_fault 0 = .ok (.aload_n 0, 1) := by decide +kernel
theorem d_Mo_fault_1 : decode b_Mo_fault 1 = .ok (.iconst 0, 1) := by decide +kernel
theorem d_Mo_fault_2 : decode b_Mo_fault 2 = .ok (.putfield 18, 3) := by decide +kernel
theorem d_Mo_fault_5 : decode b_Mo_fault 5 = .ok (.aload_n 0, 1) := by decide +kernel
theorem d_Mo_fault_6 : decode b_Mo_fault 6 = .ok (.iconst 1, 1) := by decide +kernel
theorem d_Mo_fault_7 : decode b_Mo_fault 7 = .ok (.iload_n 1, 1) := by decide +kernel
theorem d_Mo_fault_8 : decode b_Mo_fault 8 = .ok (.ifCond .lt 8, 3) := by decide +kernel
theorem d_Mo_fault_11 : decode b_Mo_fault 11 = .ok (.iload_n 1, 1) := by decide +kernel
theorem d_Mo_fault_12 : decode b_Mo_fault 12 = .ok (.iconst 1, 1) := by decide +kernel
theorem d_Mo_fault_13 : decode b_Mo_fault 13 = .ok (.if_icmp .le 7, 3) := by decide +kernel
theorem d_Mo_fault_16 : decode b_Mo_fault 16 = .ok (.iconst 1, 1) := by decide +kernel
theorem d_Mo_fault_17 : decode b_Mo_fault 17 = .ok (.goto 4, 3) := by decide +kernel
theorem d_Mo_fault_20 : decode b_Mo_fault 20 = .ok (.iconst 0, 1) := by decide +kernel
theorem d_Mo_fault_21 : decode b_Mo_fault 21 = .ok (.invokevirtual 445, 3) := by decide +kernel
theorem d_Mo_fault_24 : decode b_Mo_fault 24 = .ok (.ifCond .eq 5, 3) := by decide +kernel
theorem d_Mo_fault_27 : decode b_Mo_fault 27 = .ok (.iconst 0, 1) := by decide +kernel
theorem d_Mo_fault_28 : decode b_Mo_fault 28 = .ok (.ireturn, 1) := by decide +kernel
theorem d_Mo_fault_29 : decode b_Mo_fault 29 = .ok (.iload_n 1, 1) := by decide +kernel
theorem d_Mo_fault_30 : decode b_Mo_fault 30 = .ok (.ifCond .ne 10, 3) := by decide +kernel
theorem d_Mo_fault_33 : decode b_Mo_fault 33 = .ok (.aload_n 0, 1) := by decide +kernel
theorem d_Mo_fault_34 : decode b_Mo_fault 34 = .ok (.getfield 21, 3) := by decide +kernel
theorem d_Mo_fault_37 : decode b_Mo_fault 37 = .ok (.goto 7, 3) := by decide +kernel
theorem d_Mo_fault_40 : decode b_Mo_fault 40 = .ok (.aload_n 0, 1) := by decide +kernel
theorem d_Mo_fault_41 : decode b_Mo_fault 41 = .ok (.getfield 24, 3) := by decide +kernel
theorem d_Mo_fault_44 : decode b_Mo_fault 44 = .ok (.ireturn, 1) := by decide +kernel
theorem kw_167 : Cond.instanceMethod y_Mo_fault ∈ wA := kinm (show _ ∈ tables_1 from (List.mem_append_right _ (List.mem_append_right _ (List.mem_append_right _ (List.mem_append_right _ (List.mem_append_right _ (List.mem_append_right _ (List.mem_append_right _ (List.mem_append_right _ (List.mem_append_right _ (List.mem_append_right _ (List.mem_append_right _ (List.mem_append_left _ (List.mem_of_getElem? (l := tables_1_12) (i := 147) (by decide +kernel))))))))))))))) (by decide +kernel)
theorem kw_168 : Cond.selects R_Mo y_Mo_fault y_Mo_fault ∈ wA := kinm (show _ ∈ tables_1 from (List.mem_append_right _ (List.mem_append_right _ (List.mem_append_right _ (List.mem_append_right _ (List.mem_append_right _ (List.mem_append_right _ (List.mem_append_right _ (List.mem_append_right _ (List.mem_append_right _ (List.mem_append_right _ (List.mem_append_right _ (List.mem_append_left _ (List.mem_of_getElem? (l := tables_1_12) (i := 148) (by decide +kernel))))))))))))))) (by decide +kernel)
def M_Mo_fault_j21 (l1 : Int32) (k0 : Int32) (k1 : Int32) : M (Int32) :=
  oB (M_Mo_refuse k1 k0) fun v21 =>
  oC (v21 = 0)
    (oC (l1 = 0)
      (oB (oGI 3 0) fun v34 =>
      oR v34)
      (oB (oGI 4 0) fun v41 =>
      oR v41))
    (oR 0)

def M_Mo_fault_j16 (l1 : Int32) (k0 : Int32) : M (Int32) :=
  M_Mo_fault_j21 l1 1 k0

def M_Mo_fault (l1 : Int32) : M (Int32) :=
  oB (oPI 2 0 0) fun _ =>
  oC (l1 < 0)
    (M_Mo_fault_j16 l1 1)
    (oC (l1 ≤ 1)
      (M_Mo_fault_j21 l1 0 1)
      (M_Mo_fault_j16 l1 1))

theorem cv_Mo_fault : CV y_Mo_fault b_Mo_fault 2 (some .int) 1 := ⟨kw_167, kw_168, kw_17, k_Mo_fault, by decide +kernel⟩
theorem j_Mo_fault_j21 {X : Cx} {q : PL} (g : Gd X y_Mo_fault b_Mo_fault 2 (some .int) 1 22 R_Mo) {o : (Int32) × S1} (hR : Rt X q o.2 (some (.int o.1))) (l1 : Int32) (k0 : Int32) (k1 : Int32) (s : S1) (ls : Array Slot) (hl : lv_has ls 2 [(0, .ref (q.1 0 0)), (1, .int l1)]) (h : M_Mo_fault_j21 l1 k0 k1 s = some o) : WW X q s 21 ls [.int k0, .int k1, .ref (q.1 0 0)] := by
  unfold M_Mo_fault_j21 at h
  obtain ⟨v21, s, hc21, h⟩ := oB_of h
  refine ww_callV (pc := 21) (rest := []) g cv_Mo_refuse (Or.inl kw_21) cl_Mo (pz rfl (by decide)) (ct_Mo_refuse hc21) ⟨by decide, by decide⟩ rfl hl.1 (Nat.le_of_ble_eq_true rfl) d_Mo_fault_21 rfl ?_
  refine ww_st (st' := [.int v21]) rfl ?_
  refine ww_if_eq (pc := 24) (tgt := 29) g.1 d_Mo_fault_24 (by decide) h (fun c h => ?_) (fun c h => ?_)
  · refine ww_iload_n (pc := 29) g.1 d_Mo_fault_29 rfl (lv_at hl 1 rfl) ?_
    refine ww_if_ne (pc := 30) (tgt := 40) g.1 d_Mo_fault_30 (by decide) h (fun c h => ?_) (fun c h => ?_)
    · refine ww_aload_n (pc := 40) g.1 d_Mo_fault_40 rfl (lv_at hl 0 rfl) ?_
      refine ww_gI (pc := 41) g (k := 4) cl_Mo (pz rfl (by decide)) (by decide) (Or.inl kw_26) (f := 4) rfl rfl d_Mo_fault_41 h fun v41 h => ?_
      exact ww_iretH (pc := 44) g h hR d_Mo_fault_44
    · refine ww_aload_n (pc := 33) g.1 d_Mo_fault_33 rfl (lv_at hl 0 rfl) ?_
      refine ww_gI (pc := 34) g (k := 3) cl_Mo (pz rfl (by decide)) (by decide) (Or.inl kw_25) (f := 3) rfl rfl d_Mo_fault_34 h fun v34 h => ?_
      refine ww_goto (pc := 37) (tgt := 44) g.1 d_Mo_fault_37 (by decide) ?_
      exact ww_iretH (pc := 44) g h hR d_Mo_fault_44
  · refine ww_iconst (pc := 27) g.1 (v := 0) d_Mo_fault_27 (by decide) ?_
    exact ww_iretH (pc := 28) g h hR d_Mo_fault_28

theorem j_Mo_fault_j16 {X : Cx} {q : PL} (g : Gd X y_Mo_fault b_Mo_fault 2 (some .int) 1 22 R_Mo) {o : (Int32) × S1} (hR : Rt X q o.2 (some (.int o.1))) (l1 : Int32) (k0 : Int32) (s : S1) (ls : Array Slot) (hl : lv_has ls 2 [(0, .ref (q.1 0 0)), (1, .int l1)]) (h : M_Mo_fault_j16 l1 k0 s = some o) : WW X q s 16 ls [.int k0, .ref (q.1 0 0)] := by
  unfold M_Mo_fault_j16 at h
  refine ww_iconst (pc := 16) g.1 (v := 1) d_Mo_fault_16 (by decide) ?_
  refine ww_goto (pc := 17) (tgt := 21) g.1 d_Mo_fault_17 (by decide) ?_
  exact j_Mo_fault_j21 g hR l1 1 k0 s ls (lv_sub hl [0, 1] rfl) h

theorem ct_Mo_fault {l : Launch} {P : PP} {q : PL} {s s' : S1} {l1 : Int32} {r : Int32} (h : M_Mo_fault l1 s = some (r, s')) : Ct l y_Mo_fault b_Mo_fault 2 (some .int) 1 22 P q s [.ref (q.1 0 0), .int l1] (some (.int r)) q s' := by
  refine ct_of (by decide) (Nat.le_of_ble_eq_true rfl) fun X ls eP el g hR hl => ?_
  have hR : Rt X q ((r, s') : Int32 × S1).2 (some (.int ((r, s') : Int32 × S1).1)) := hR
  have hl : lv_has ls 2 [(0, .ref (q.1 0 0)), (1, .int l1)] := hl
  generalize (r, s') = o at h hR
  unfold M_Mo_fault at h
  refine ww_aload_n (pc := 0) g.1 d_Mo_fault_0 rfl (lv_at hl 0 rfl) ?_
  refine ww_iconst (pc := 1) g.1 (v := 0) d_Mo_fault_1 (by decide) ?_
  refine ww_pI (pc := 2) g (k := 2) cl_Mo (pz rfl (by decide)) (by decide) (Or.inl kw_14) rfl (f := 2) rfl rfl rfl rfl d_Mo_fault_2 h fun s hs h => ?_
  refine ww_aload_n (pc := 5) g.1 d_Mo_fault_5 rfl (lv_at hl 0 rfl) ?_
  refine ww_iconst (pc := 6) g.1 (v := 1) d_Mo_fault_6 (by decide) ?_
  refine ww_iload_n (pc := 7) g.1 d_Mo_fault_7 rfl (lv_at hl 1 rfl) ?_
  refine ww_if_lt (pc := 8) (tgt := 16) g.1 d_Mo_fault_8 (by decide) h (fun c h => ?_) (fun c h => ?_)
  · exact j_Mo_fault_j16 g hR l1 1 s ls (lv_sub hl [0, 1] rfl) h
  · refine ww_iload_n (pc := 11) g.1 d_Mo_fault_11 rfl (lv_at hl 1 rfl) ?_
    refine ww_iconst (pc := 12) g.1 (v := 1) d_Mo_fault_12 (by decide) ?_
    refine ww_icmp_le (pc := 13) (tgt := 20) g.1 d_Mo_fault_13 (by decide) h (fun c h => ?_) (fun c h => ?_)
    · refine ww_iconst (pc := 20) g.1 (v := 0) d_Mo_fault_20 (by decide) ?_
      exact j_Mo_fault_j21 g hR l1 0 1 s ls (lv_sub hl [0, 1] rfl) h
    · exact j_Mo_fault_j16 g hR l1 1 s ls (lv_sub hl [0, 1] rfl) h

abbrev b_Mo_limit : ByteArray := prog_14_method_62_code
def y_Mo_limit : MethodName := ⟨R_Mo, "limit", "(I)I"⟩
abbrev w_Mo_limit : List Cond := .code y_Mo_limit b_Mo_limit 3 (some .int) :: wA
theorem k_Mo_limit : Cond.code y_Mo_limit b_Mo_limit 3 (some .int) ∈ wA := kinm (show _ ∈ tables_1 from (List.mem_append_right _ (List.mem_append_right _ (List.mem_append_right _ (List.mem_append_right _ (List.mem_append_right _ (List.mem_append_right _ (List.mem_append_right _ (List.mem_append_right _ (List.mem_append_right _ (List.mem_append_right _ (List.mem_append_right _ (List.mem_append_left _ (List.mem_of_getElem? (l := tables_1_12) (i := 153) (by decide +kernel))))))))))))))) (by decide +kernel)
theorem d_Mo_limit_0 : decode b_Mo_limit 0 = .ok (.aload_n 0, 1) := by decide +kernel
theorem d_Mo_limit_1 : decode b_Mo_limit 1 = .ok (.iconst 0, 1) := by decide +kernel
theorem d_Mo_limit_2 : decode b_Mo_limit 2 = .ok (.putfield 18, 3) := by decide +kernel
theorem d_Mo_limit_5 : decode b_Mo_limit 5 = .ok (.aload_n 0, 1) := by decide +kernel
theorem d_Mo_limit_6 : decode b_Mo_limit 6 = .ok (.iconst 1, 1) := by decide +kernel
theorem d_Mo_limit_7 : decode b_Mo_limit 7 = .ok (.iload_n 1, 1) := by decide +kernel
theorem d_Mo_limit_8 : decode b_Mo_limit 8 = .ok (.sipush 200, 3) := by decide +kernel
theorem d_Mo_limit_11 : decode b_Mo_limit 11 = .ok (.if_icmp .lt 10, 3) := by decide +kernel
theorem d_Mo_limit_14 : decode b_Mo_limit 14 = .ok (.iload_n 1, 1) := by decide +kernel
theorem d_Mo_limit_15 : decode b_Mo_limit 15 = .ok (.sipush 4000, 3) := by decide +kernel
theorem d_Mo_limit_18 : decode b_Mo_limit 18 = .ok (.if_icmp .le 7, 3) := by decide +kernel
theorem d_Mo_limit_21 : decode b_Mo_limit 21 = .ok (.iconst 1, 1) := by decide +kernel
theorem d_Mo_limit_22 : decode b_Mo_limit 22 = .ok (.goto 4, 3) := by decide +kernel
theorem d_Mo_limit_25 : decode b_Mo_limit 25 = .ok (.iconst 0, 1) := by decide +kernel
theorem d_Mo_limit_26 : decode b_Mo_limit 26 = .ok (.invokevirtual 445, 3) := by decide +kernel
theorem d_Mo_limit_29 : decode b_Mo_limit 29 = .ok (.ifCond .eq 5, 3) := by decide +kernel
theorem d_Mo_limit_32 : decode b_Mo_limit 32 = .ok (.iconst 0, 1) := by decide +kernel
theorem d_Mo_limit_33 : decode b_Mo_limit 33 = .ok (.ireturn, 1) := by decide +kernel
theorem d_Mo_limit_34 : decode b_Mo_limit 34 = .ok (.aload_n 0, 1) := by decide +kernel
theorem d_Mo_limit_35 : decode b_Mo_limit 35 = .ok (.getfield 116, 3) := by decide +kernel
theorem d_Mo_limit_38 : decode b_Mo_limit 38 = .ok (.istore_n 2, 1) := by decide +kernel
theorem d_Mo_limit_39 : decode b_Mo_limit 39 = .ok (.aload_n 0, 1) := by decide +kernel
theorem d_Mo_limit_40 : decode b_Mo_limit 40 = .ok (.iload_n 1, 1) := by decide +kernel
theorem d_Mo_limit_41 : decode b_Mo_limit 41 = .ok (.putfield 116, 3) := by decide +kernel
theorem d_Mo_limit_44 : decode b_Mo_limit 44 = .ok (.iload_n 2, 1) := by decide +kernel
theorem d_Mo_limit_45 : decode b_Mo_limit 45 = .ok (.ireturn, 1) := by decide +kernel
theorem kw_169 : Cond.fieldLink R_Mo 116 "LuaMachineModel" "limit" "I" ∈ wA := kinm (show _ ∈ tables_1 from (List.mem_append_right _ (List.mem_append_right _ (List.mem_append_right _ (List.mem_append_right _ (List.mem_append_right _ (List.mem_append_right _ (List.mem_append_right _ (List.mem_append_right _ (List.mem_append_right _ (List.mem_append_left _ (List.mem_of_getElem? (l := tables_1_10) (i := 87) (by decide +kernel))))))))))))) (by decide +kernel)
theorem kw_170 : Cond.instanceMethod y_Mo_limit ∈ wA := kinm (show _ ∈ tables_1 from (List.mem_append_right _ (List.mem_append_right _ (List.mem_append_right _ (List.mem_append_right _ (List.mem_append_right _ (List.mem_append_right _ (List.mem_append_right _ (List.mem_append_right _ (List.mem_append_right _ (List.mem_append_right _ (List.mem_append_right _ (List.mem_append_left _ (List.mem_of_getElem? (l := tables_1_12) (i := 151) (by decide +kernel))))))))))))))) (by decide +kernel)
theorem kw_171 : Cond.selects R_Mo y_Mo_limit y_Mo_limit ∈ wA := kinm (show _ ∈ tables_1 from (List.mem_append_right _ (List.mem_append_right _ (List.mem_append_right _ (List.mem_append_right _ (List.mem_append_right _ (List.mem_append_right _ (List.mem_append_right _ (List.mem_append_right _ (List.mem_append_right _ (List.mem_append_right _ (List.mem_append_right _ (List.mem_append_left _ (List.mem_of_getElem? (l := tables_1_12) (i := 152) (by decide +kernel))))))))))))))) (by decide +kernel)
def M_Mo_limit_j26 (l1 : Int32) (k0 : Int32) (k1 : Int32) : M (Int32) :=
  oB (M_Mo_refuse k1 k0) fun v26 =>
  oC (v26 = 0)
    (oB (oGI 32 0) fun v35 =>
    oB (oPI 32 0 l1) fun _ =>
    oR v35)
    (oR 0)

def M_Mo_limit_j21 (l1 : Int32) (k0 : Int32) : M (Int32) :=
  M_Mo_limit_j26 l1 1 k0

def M_Mo_limit (l1 : Int32) : M (Int32) :=
  oB (oPI 2 0 0) fun _ =>
  oC (l1 < 200)
    (M_Mo_limit_j21 l1 1)
    (oC (l1 ≤ 4000)
      (M_Mo_limit_j26 l1 0 1)
      (M_Mo_limit_j21 l1 1))

theorem cv_Mo_limit : CV y_Mo_limit b_Mo_limit 3 (some .int) 1 := ⟨kw_170, kw_171, kw_17, k_Mo_limit, by decide +kernel⟩
theorem j_Mo_limit_j26 {X : Cx} {q : PL} (g : Gd X y_Mo_limit b_Mo_limit 3 (some .int) 1 22 R_Mo) {o : (Int32) × S1} (hR : Rt X q o.2 (some (.int o.1))) (l1 : Int32) (k0 : Int32) (k1 : Int32) (s : S1) (ls : Array Slot) (hl : lv_has ls 3 [(0, .ref (q.1 0 0)), (1, .int l1)]) (h : M_Mo_limit_j26 l1 k0 k1 s = some o) : WW X q s 26 ls [.int k0, .int k1, .ref (q.1 0 0)] := by
  unfold M_Mo_limit_j26 at h
  obtain ⟨v26, s, hc26, h⟩ := oB_of h
  refine ww_callV (pc := 26) (rest := []) g cv_Mo_refuse (Or.inl kw_21) cl_Mo (pz rfl (by decide)) (ct_Mo_refuse hc26) ⟨by decide, by decide⟩ rfl hl.1 (Nat.le_of_ble_eq_true rfl) d_Mo_limit_26 rfl ?_
  refine ww_st (st' := [.int v26]) rfl ?_
  refine ww_if_eq (pc := 29) (tgt := 34) g.1 d_Mo_limit_29 (by decide) h (fun c h => ?_) (fun c h => ?_)
  · refine ww_aload_n (pc := 34) g.1 d_Mo_limit_34 rfl (lv_at hl 0 rfl) ?_
    refine ww_gI (pc := 35) g (k := 32) cl_Mo (pz rfl (by decide)) (by decide) (Or.inl kw_169) (f := 32) rfl rfl d_Mo_limit_35 h fun v35 h => ?_
    refine ww_istore_n (pc := 38) g.1 (lv' := [(2, .int v35), (0, .ref (q.1 0 0)), (1, .int l1)]) d_Mo_limit_38 rfl hl (by decide) rfl fun ls hl => ?_
    refine ww_aload_n (pc := 39) g.1 d_Mo_limit_39 rfl (lv_at hl 1 rfl) ?_
    refine ww_iload_n (pc := 40) g.1 d_Mo_limit_40 rfl (lv_at hl 2 rfl) ?_
    refine ww_pI (pc := 41) g (k := 32) cl_Mo (pz rfl (by decide)) (by decide) (Or.inl kw_169) rfl (f := 32) rfl rfl rfl rfl d_Mo_limit_41 h fun s hs h => ?_
    refine ww_iload_n (pc := 44) g.1 d_Mo_limit_44 rfl (lv_at hl 0 rfl) ?_
    exact ww_iretH (pc := 45) g h hR d_Mo_limit_45
  · refine ww_iconst (pc := 32) g.1 (v := 0) d_Mo_limit_32 (by decide) ?_
    exact ww_iretH (pc := 33) g h hR d_Mo_limit_33

theorem j_Mo_limit_j21 {X : Cx} {q : PL} (g : Gd X y_Mo_limit b_Mo_limit 3 (some .int) 1 22 R_Mo) {o : (Int32) × S1} (hR : Rt X q o.2 (some (.int o.1))) (l1 : Int32) (k0 : Int32) (s : S1) (ls : Array Slot) (hl : lv_has ls 3 [(0, .ref (q.1 0 0)), (1, .int l1)]) (h : M_Mo_limit_j21 l1 k0 s = some o) : WW X q s 21 ls [.int k0, .ref (q.1 0 0)] := by
  unfold M_Mo_limit_j21 at h
  refine ww_iconst (pc := 21) g.1 (v := 1) d_Mo_limit_21 (by decide) ?_
  refine ww_goto (pc := 22) (tgt := 26) g.1 d_Mo_limit_22 (by decide) ?_
  exact j_Mo_limit_j26 g hR l1 1 k0 s ls (lv_sub hl [0, 1] rfl) h

theorem ct_Mo_limit {l : Launch} {P : PP} {q : PL} {s s' : S1} {l1 : Int32} {r : Int32} (h : M_Mo_limit l1 s = some (r, s')) : Ct l y_Mo_limit b_Mo_limit 3 (some .int) 1 22 P q s [.ref (q.1 0 0), .int l1] (some (.int r)) q s' := by
  refine ct_of (by decide) (Nat.le_of_ble_eq_true rfl) fun X ls eP el g hR hl => ?_
  have hR : Rt X q ((r, s') : Int32 × S1).2 (some (.int ((r, s') : Int32 × S1).1)) := hR
  have hl : lv_has ls 3 [(0, .ref (q.1 0 0)), (1, .int l1)] := hl
  generalize (r, s') = o at h hR
  unfold M_Mo_limit at h
  refine ww_aload_n (pc := 0) g.1 d_Mo_limit_0 rfl (lv_at hl 0 rfl) ?_
  refine ww_iconst (pc := 1) g.1 (v := 0) d_Mo_limit_1 (by decide) ?_
  refine ww_pI (pc := 2) g (k := 2) cl_Mo (pz rfl (by decide)) (by decide) (Or.inl kw_14) rfl (f := 2) rfl rfl rfl rfl d_Mo_limit_2 h fun s hs h => ?_
  refine ww_aload_n (pc := 5) g.1 d_Mo_limit_5 rfl (lv_at hl 0 rfl) ?_
  refine ww_iconst (pc := 6) g.1 (v := 1) d_Mo_limit_6 (by decide) ?_
  refine ww_iload_n (pc := 7) g.1 d_Mo_limit_7 rfl (lv_at hl 1 rfl) ?_
  refine ww_sipush (pc := 8) g.1 (v := 200) d_Mo_limit_8 (by decide) ?_
  refine ww_icmp_lt (pc := 11) (tgt := 21) g.1 d_Mo_limit_11 (by decide) h (fun c h => ?_) (fun c h => ?_)
  · exact j_Mo_limit_j21 g hR l1 1 s ls (lv_sub hl [0, 1] rfl) h
  · refine ww_iload_n (pc := 14) g.1 d_Mo_limit_14 rfl (lv_at hl 1 rfl) ?_
    refine ww_sipush (pc := 15) g.1 (v := 4000) d_Mo_limit_15 (by decide) ?_
    refine ww_icmp_le (pc := 18) (tgt := 25) g.1 d_Mo_limit_18 (by decide) h (fun c h => ?_) (fun c h => ?_)
    · refine ww_iconst (pc := 25) g.1 (v := 0) d_Mo_limit_25 (by decide) ?_
      exact j_Mo_limit_j26 g hR l1 0 1 s ls (lv_sub hl [0, 1] rfl) h
    · exact j_Mo_limit_j21 g hR l1 1 s ls (lv_sub hl [0, 1] rfl) h

abbrev b_Mo_run : ByteArray := prog_14_method_137_code
def y_Mo_run : MethodName := ⟨R_Mo, "run", "(I)I"⟩
abbrev w_Mo_run : List Cond := .code y_Mo_run b_Mo_run 3 (some .int) :: wA
theorem k_Mo_run : Cond.code y_Mo_run b_Mo_run 3 (some .int) ∈ wA := kinm (show _ ∈ tables_1 from (List.mem_append_right _ (List.mem_append_right _ (List.mem_append_right _ (List.mem_append_right _ (List.mem_append_right _ (List.mem_append_right _ (List.mem_append_right _ (List.mem_append_right _ (List.mem_append_right _ (List.mem_append_right _ (List.mem_append_right _ (List.mem_append_left _ (List.mem_of_getElem? (l := tables_1_12) (i := 157) (by decide +kernel))))))))))))))) (by decide +kernel)
theorem d_Mo_run_0 : decode b_Mo_run 0 = .ok (.aload_n 0, 1) := by decide +kernel
theorem d_Mo_run_1 : decode b_Mo_run 1 = .ok (.iconst 0, 1) := by decide +kernel
theorem d_Mo_run_2 : decode b_Mo_run 2 = .ok (.putfield 18, 3) := by decide +kernel
theorem d_Mo_run_5 : decode b_Mo_run 5 = .ok (.aload_n 0, 1) := by decide +kernel
theorem d_Mo_run_6 : decode b_Mo_run 6 = .ok (.iconst 1, 1) := by decide +kernel
theorem d_Mo_run_7 : decode b_Mo_run 7 = .ok (.iload_n 1, 1) := by decide +kernel
theorem d_Mo_run_8 : decode b_Mo_run 8 = .ok (.iconst 1, 1) := by decide +kernel
theorem d_Mo_run_9 : decode b_Mo_run 9 = .ok (.if_icmp .lt 10, 3) := by decide +kernel
theorem d_Mo_run_12 : decode b_Mo_run 12 = .ok (.iload_n 1, 1) := by decide +kernel
theorem d_Mo_run_13 : decode b_Mo_run 13 = .ok (.ldc_w 1019, 3) := by decide +kernel
theorem d_Mo_run_16 : decode b_Mo_run 16 = .ok (.if_icmp .le 7, 3) := by decide +kernel
theorem d_Mo_run_19 : decode b_Mo_run 19 = .ok (.iconst 1, 1) := by decide +kernel
theorem d_Mo_run_20 : decode b_Mo_run 20 = .ok (.goto 4, 3) := by decide +kernel
theorem d_Mo_run_23 : decode b_Mo_run 23 = .ok (.iconst 0, 1) := by decide +kernel
theorem d_Mo_run_24 : decode b_Mo_run 24 = .ok (.invokevirtual 445, 3) := by decide +kernel
theorem d_Mo_run_27 : decode b_Mo_run 27 = .ok (.ifCond .ne 23, 3) := by decide +kernel
theorem d_Mo_run_30 : decode b_Mo_run 30 = .ok (.aload_n 0, 1) := by decide +kernel
theorem d_Mo_run_31 : decode b_Mo_run 31 = .ok (.iconst 2, 1) := by decide +kernel
theorem d_Mo_run_32 : decode b_Mo_run 32 = .ok (.aload_n 0, 1) := by decide +kernel
theorem d_Mo_run_33 : decode b_Mo_run 33 = .ok (.getfield 27, 3) := by decide +kernel
theorem d_Mo_run_36 : decode b_Mo_run 36 = .ok (.ifCond .ne 7, 3) := by decide +kernel
theorem d_Mo_run_39 : decode b_Mo_run 39 = .ok (.iconst 1, 1) := by decide +kernel
theorem d_Mo_run_40 : decode b_Mo_run 40 = .ok (.goto 4, 3) := by decide +kernel
theorem d_Mo_run_43 : decode b_Mo_run 43 = .ok (.iconst 0, 1) := by decide +kernel
theorem d_Mo_run_44 : decode b_Mo_run 44 = .ok (.invokevirtual 445, 3) := by decide +kernel
theorem d_Mo_run_47 : decode b_Mo_run 47 = .ok (.ifCond .eq 5, 3) := by decide +kernel
theorem d_Mo_run_50 : decode b_Mo_run 50 = .ok (.iconst 0, 1) := by decide +kernel
theorem d_Mo_run_51 : decode b_Mo_run 51 = .ok (.ireturn, 1) := by decide +kernel
theorem d_Mo_run_52 : decode b_Mo_run 52 = .ok (.iload_n 1, 1) := by decide +kernel
theorem d_Mo_run_53 : decode b_Mo_run 53 = .ok (.istore_n 2, 1) := by decide +kernel
theorem d_Mo_run_54 : decode b_Mo_run 54 = .ok (.aload_n 0, 1) := by decide +kernel
theorem d_Mo_run_55 : decode b_Mo_run 55 = .ok (.getfield 268, 3) := by decide +kernel
theorem d_Mo_run_58 : decode b_Mo_run 58 = .ok (.ifCond .ne 80, 3) := by decide +kernel
theorem d_Mo_run_61 : decode b_Mo_run 61 = .ok (.aload_n 0, 1) := by decide +kernel
theorem d_Mo_run_62 : decode b_Mo_run 62 = .ok (.getfield 247, 3) := by decide +kernel
theorem d_Mo_run_65 : decode b_Mo_run 65 = .ok (.iconst 1, 1) := by decide +kernel
theorem d_Mo_run_66 : decode b_Mo_run 66 = .ok (.if_icmp .ne 10, 3) := by decide +kernel
theorem d_Mo_run_69 : decode b_Mo_run 69 = .ok (.aload_n 0, 1) := by decide +kernel
theorem d_Mo_run_70 : decode b_Mo_run 70 = .ok (.invokevirtual 1020, 3) := by decide +kernel
theorem d_Mo_run_73 : decode b_Mo_run 73 = .ok (.goto (-19), 3) := by decide +kernel
theorem d_Mo_run_76 : decode b_Mo_run 76 = .ok (.aload_n 0, 1) := by decide +kernel
theorem d_Mo_run_77 : decode b_Mo_run 77 = .ok (.getfield 247, 3) := by decide +kernel
theorem d_Mo_run_80 : decode b_Mo_run 80 = .ok (.iconst 2, 1) := by decide +kernel
theorem d_Mo_run_81 : decode b_Mo_run 81 = .ok (.if_icmp .ne 10, 3) := by decide +kernel
theorem d_Mo_run_84 : decode b_Mo_run 84 = .ok (.aload_n 0, 1) := by decide +kernel
theorem d_Mo_run_85 : decode b_Mo_run 85 = .ok (.invokevirtual 1023, 3) := by decide +kernel
theorem d_Mo_run_88 : decode b_Mo_run 88 = .ok (.goto (-34), 3) := by decide +kernel
theorem d_Mo_run_91 : decode b_Mo_run 91 = .ok (.aload_n 0, 1) := by decide +kernel
theorem d_Mo_run_92 : decode b_Mo_run 92 = .ok (.getfield 247, 3) := by decide +kernel
theorem d_Mo_run_95 : decode b_Mo_run 95 = .ok (.iconst 3, 1) := by decide +kernel
theorem d_Mo_run_96 : decode b_Mo_run 96 = .ok (.if_icmp .ne 10, 3) := by decide +kernel
theorem d_Mo_run_99 : decode b_Mo_run 99 = .ok (.aload_n 0, 1) := by decide +kernel
theorem d_Mo_run_100 : decode b_Mo_run 100 = .ok (.invokevirtual 1026, 3) := by decide +kernel
theorem d_Mo_run_103 : decode b_Mo_run 103 = .ok (.goto (-49), 3) := by decide +kernel
theorem d_Mo_run_106 : decode b_Mo_run 106 = .ok (.aload_n 0, 1) := by decide +kernel
theorem d_Mo_run_107 : decode b_Mo_run 107 = .ok (.getfield 247, 3) := by decide +kernel
theorem d_Mo_run_110 : decode b_Mo_run 110 = .ok (.iconst 4, 1) := by decide +kernel
theorem d_Mo_run_111 : decode b_Mo_run 111 = .ok (.if_icmp .ne 10, 3) := by decide +kernel
theorem d_Mo_run_114 : decode b_Mo_run 114 = .ok (.aload_n 0, 1) := by decide +kernel
theorem d_Mo_run_115 : decode b_Mo_run 115 = .ok (.invokevirtual 1028, 3) := by decide +kernel
theorem d_Mo_run_118 : decode b_Mo_run 118 = .ok (.goto (-64), 3) := by decide +kernel
theorem d_Mo_run_121 : decode b_Mo_run 121 = .ok (.iload_n 2, 1) := by decide +kernel
theorem d_Mo_run_122 : decode b_Mo_run 122 = .ok (.ifCond .ne 6, 3) := by decide +kernel
theorem d_Mo_run_125 : decode b_Mo_run 125 = .ok (.goto 13, 3) := by decide +kernel
theorem d_Mo_run_128 : decode b_Mo_run 128 = .ok (.iinc 2 (-1), 3) := by decide +kernel
theorem d_Mo_run_131 : decode b_Mo_run 131 = .ok (.aload_n 0, 1) := by decide +kernel
theorem d_Mo_run_132 : decode b_Mo_run 132 = .ok (.invokevirtual 1031, 3) := by decide +kernel
theorem d_Mo_run_135 : decode b_Mo_run 135 = .ok (.goto (-81), 3) := by decide +kernel
theorem d_Mo_run_138 : decode b_Mo_run 138 = .ok (.aload_n 0, 1) := by decide +kernel
theorem d_Mo_run_139 : decode b_Mo_run 139 = .ok (.getfield 268, 3) := by decide +kernel
theorem d_Mo_run_142 : decode b_Mo_run 142 = .ok (.ireturn, 1) := by decide +kernel
theorem kw_172 : Cond.constant R_Mo 1019 100000 ∈ wA := kinm (show _ ∈ tables_1 from (List.mem_append_right _ (List.mem_append_right _ (List.mem_append_right _ (List.mem_append_right _ (List.mem_append_right _ (List.mem_append_right _ (List.mem_append_right _ (List.mem_append_right _ (List.mem_append_right _ (List.mem_append_right _ (List.mem_append_right _ (List.mem_append_left _ (List.mem_of_getElem? (l := tables_1_12) (i := 158) (by decide +kernel))))))))))))))) (by decide +kernel)
abbrev b_Mo_call : ByteArray := prog_14_method_67_code
def y_Mo_call : MethodName := ⟨R_Mo, "call", "()V"⟩
abbrev w_Mo_call : List Cond := .code y_Mo_call b_Mo_call 3 none :: wA
set_option maxRecDepth 20000 in
theorem k_Mo_call : Cond.code y_Mo_call b_Mo_call 3 none ∈ wA := kinm (show _ ∈ tables_1 from (List.mem_append_right _ (List.mem_append_right _ (List.mem_append_right _ (List.mem_append_right _ (List.mem_append_right _ (List.mem_append_right _ (List.mem_append_right _ (List.mem_append_right _ (List.mem_append_right _ (List.mem_append_right _ (List.mem_append_right _ (List.mem_append_left _ (List.mem_of_getElem? (l := tables_1_12) (i := 162) rfl)))))))))))))) rfl
theorem d_Mo_call_0 : decode b_Mo_call 0 = .ok (.aload_n 0, 1) := by decide +kernel
theorem d_Mo_call_1 : decode b_Mo_call 1 = .ok (.iconst 0, 1) := by decide +kernel
theorem d_Mo_call_2 : decode b_Mo_call 2 = .ok (.putfield 247, 3) := by decide +kernel
theorem d_Mo_call_5 : decode b_Mo_call 5 = .ok (.iconst 0, 1) := by decide +kernel
theorem d_Mo_call_6 : decode b_Mo_call 6 = .ok (.istore_n 1, 1) := by decide +kernel
theorem d_Mo_call_7 : decode b_Mo_call 7 = .ok (.aload_n 0, 1) := by decide +kernel
theorem d_Mo_call_8 : decode b_Mo_call 8 = .ok (.getfield 253, 3) := by decide +kernel
theorem d_Mo_call_11 : decode b_Mo_call 11 = .ok (.bipush 6, 2) := by decide +kernel
theorem d_Mo_call_13 : decode b_Mo_call 13 = .ok (.if_icmp .eq 133, 3) := by decide +kernel
theorem d_Mo_call_16 : decode b_Mo_call 16 = .ok (.aload_n 0, 1) := by decide +kernel
theorem d_Mo_call_17 : decode b_Mo_call 17 = .ok (.aload_n 0, 1) := by decide +kernel
theorem d_Mo_call_18 : decode b_Mo_call 18 = .ok (.getfield 253, 3) := by decide +kernel
theorem d_Mo_call_21 : decode b_Mo_call 21 = .ok (.aload_n 0, 1) := by decide +kernel
theorem d_Mo_call_22 : decode b_Mo_call 22 = .ok (.getfield 256, 3) := by decide +kernel
theorem d_Mo_call_25 : decode b_Mo_call 25 = .ok (.iconst 2, 1) := by decide +kernel
theorem d_Mo_call_26 : decode b_Mo_call 26 = .ok (.invokevirtual 715, 3) := by decide +kernel
theorem d_Mo_call_29 : decode b_Mo_call 29 = .ok (.ifCond .ne 15, 3) := by decide +kernel
theorem d_Mo_call_32 : decode b_Mo_call 32 = .ok (.aload_n 0, 1) := by decide +kernel
theorem d_Mo_call_33 : decode b_Mo_call 33 = .ok (.iconst 0, 1) := by decide +kernel
theorem d_Mo_call_34 : decode b_Mo_call 34 = .ok (.putfield 253, 3) := by decide +kernel
theorem d_Mo_call_37 : decode b_Mo_call 37 = .ok (.aload_n 0, 1) := by decide +kernel
theorem d_Mo_call_38 : decode b_Mo_call 38 = .ok (.iconst 1, 1) := by decide +kernel
theorem d_Mo_call_39 : decode b_Mo_call 39 = .ok (.invokevirtual 517, 3) := by decide +kernel
theorem d_Mo_call_42 : decode b_Mo_call 42 = .ok (.pop, 1) := by decide +kernel
theorem d_Mo_call_43 : decode b_Mo_call 43 = .ok (.return_, 1) := by decide +kernel
theorem d_Mo_call_44 : decode b_Mo_call 44 = .ok (.iinc 1 1, 3) := by decide +kernel
theorem d_Mo_call_47 : decode b_Mo_call 47 = .ok (.iload_n 1, 1) := by decide +kernel
theorem d_Mo_call_48 : decode b_Mo_call 48 = .ok (.bipush 100, 2) := by decide +kernel
theorem d_Mo_call_50 : decode b_Mo_call 50 = .ok (.if_icmp .ne 15, 3) := by decide +kernel
theorem d_Mo_call_53 : decode b_Mo_call 53 = .ok (.aload_n 0, 1) := by decide +kernel
theorem d_Mo_call_54 : decode b_Mo_call 54 = .ok (.iconst 0, 1) := by decide +kernel
theorem d_Mo_call_55 : decode b_Mo_call 55 = .ok (.putfield 253, 3) := by decide +kernel
theorem d_Mo_call_58 : decode b_Mo_call 58 = .ok (.aload_n 0, 1) := by decide +kernel
theorem d_Mo_call_59 : decode b_Mo_call 59 = .ok (.iconst 4, 1) := by decide +kernel
theorem d_Mo_call_60 : decode b_Mo_call 60 = .ok (.invokevirtual 517, 3) := by decide +kernel
theorem d_Mo_call_63 : decode b_Mo_call 63 = .ok (.pop, 1) := by decide +kernel
theorem d_Mo_call_64 : decode b_Mo_call 64 = .ok (.return_, 1) := by decide +kernel
theorem d_Mo_call_65 : decode b_Mo_call 65 = .ok (.aload_n 0, 1) := by decide +kernel
theorem d_Mo_call_66 : decode b_Mo_call 66 = .ok (.getfield 259, 3) := by decide +kernel
theorem d_Mo_call_69 : decode b_Mo_call 69 = .ok (.getfield 569, 3) := by decide +kernel
theorem d_Mo_call_72 : decode b_Mo_call 72 = .ok (.istore_n 2, 1) := by decide +kernel
theorem d_Mo_call_73 : decode b_Mo_call 73 = .ok (.iload_n 2, 1) := by decide +kernel
theorem d_Mo_call_74 : decode b_Mo_call 74 = .ok (.ifCond .le 24, 3) := by decide +kernel
theorem d_Mo_call_77 : decode b_Mo_call 77 = .ok (.aload_n 0, 1) := by decide +kernel
theorem d_Mo_call_78 : decode b_Mo_call 78 = .ok (.getfield 259, 3) := by decide +kernel
theorem d_Mo_call_81 : decode b_Mo_call 81 = .ok (.iload_n 2, 1) := by decide +kernel
theorem d_Mo_call_82 : decode b_Mo_call 82 = .ok (.aload_n 0, 1) := by decide +kernel
theorem d_Mo_call_83 : decode b_Mo_call 83 = .ok (.getfield 259, 3) := by decide +kernel
theorem d_Mo_call_86 : decode b_Mo_call 86 = .ok (.iload_n 2, 1) := by decide +kernel
theorem d_Mo_call_87 : decode b_Mo_call 87 = .ok (.iconst 1, 1) := by decide +kernel
theorem d_Mo_call_88 : decode b_Mo_call 88 = .ok (.isub, 1) := by decide +kernel
theorem d_Mo_call_89 : decode b_Mo_call 89 = .ok (.invokevirtual 719, 3) := by decide +kernel
theorem d_Mo_call_92 : decode b_Mo_call 92 = .ok (.iinc 2 (-1), 3) := by decide +kernel
theorem d_Mo_call_95 : decode b_Mo_call 95 = .ok (.goto (-22), 3) := by decide +kernel
theorem d_Mo_call_98 : decode b_Mo_call 98 = .ok (.aload_n 0, 1) := by decide +kernel
theorem d_Mo_call_99 : decode b_Mo_call 99 = .ok (.getfield 259, 3) := by decide +kernel
theorem d_Mo_call_102 : decode b_Mo_call 102 = .ok (.iconst 0, 1) := by decide +kernel
theorem d_Mo_call_103 : decode b_Mo_call 103 = .ok (.aload_n 0, 1) := by decide +kernel
theorem d_Mo_call_104 : decode b_Mo_call 104 = .ok (.getfield 253, 3) := by decide +kernel
theorem d_Mo_call_107 : decode b_Mo_call 107 = .ok (.aload_n 0, 1) := by decide +kernel
theorem d_Mo_call_108 : decode b_Mo_call 108 = .ok (.getfield 256, 3) := by decide +kernel
theorem d_Mo_call_111 : decode b_Mo_call 111 = .ok (.invokevirtual 470, 3) := by decide +kernel
theorem d_Mo_call_114 : decode b_Mo_call 114 = .ok (.aload_n 0, 1) := by decide +kernel
theorem d_Mo_call_115 : decode b_Mo_call 115 = .ok (.getfield 259, 3) := by decide +kernel
theorem d_Mo_call_118 : decode b_Mo_call 118 = .ok (.dup, 1) := by decide +kernel
theorem d_Mo_call_119 : decode b_Mo_call 119 = .ok (.getfield 569, 3) := by decide +kernel
theorem d_Mo_call_122 : decode b_Mo_call 122 = .ok (.iconst 1, 1) := by decide +kernel
theorem d_Mo_call_123 : decode b_Mo_call 123 = .ok (.iadd, 1) := by decide +kernel
theorem d_Mo_call_124 : decode b_Mo_call 124 = .ok (.putfield 569, 3) := by decide +kernel
theorem d_Mo_call_127 : decode b_Mo_call 127 = .ok (.aload_n 0, 1) := by decide +kernel
theorem d_Mo_call_128 : decode b_Mo_call 128 = .ok (.aload_n 0, 1) := by decide +kernel
theorem d_Mo_call_129 : decode b_Mo_call 129 = .ok (.getfield 222, 3) := by decide +kernel
theorem d_Mo_call_132 : decode b_Mo_call 132 = .ok (.putfield 253, 3) := by decide +kernel
theorem d_Mo_call_135 : decode b_Mo_call 135 = .ok (.aload_n 0, 1) := by decide +kernel
theorem d_Mo_call_136 : decode b_Mo_call 136 = .ok (.aload_n 0, 1) := by decide +kernel
theorem d_Mo_call_137 : decode b_Mo_call 137 = .ok (.getfield 225, 3) := by decide +kernel
theorem d_Mo_call_140 : decode b_Mo_call 140 = .ok (.putfield 256, 3) := by decide +kernel
theorem d_Mo_call_143 : decode b_Mo_call 143 = .ok (.goto (-136), 3) := by decide +kernel
theorem d_Mo_call_146 : decode b_Mo_call 146 = .ok (.aload_n 0, 1) := by decide +kernel
theorem d_Mo_call_147 : decode b_Mo_call 147 = .ok (.getfield 259, 3) := by decide +kernel
theorem d_Mo_call_150 : decode b_Mo_call 150 = .ok (.getfield 569, 3) := by decide +kernel
theorem d_Mo_call_153 : decode b_Mo_call 153 = .ok (.sipush 250, 3) := by decide +kernel
theorem d_Mo_call_156 : decode b_Mo_call 156 = .ok (.if_icmp .le 24, 3) := by decide +kernel
theorem d_Mo_call_159 : decode b_Mo_call 159 = .ok (.aload_n 0, 1) := by decide +kernel
theorem d_Mo_call_160 : decode b_Mo_call 160 = .ok (.iconst 0, 1) := by decide +kernel
theorem d_Mo_call_161 : decode b_Mo_call 161 = .ok (.putfield 253, 3) := by decide +kernel
theorem d_Mo_call_164 : decode b_Mo_call 164 = .ok (.aload_n 0, 1) := by decide +kernel
theorem d_Mo_call_165 : decode b_Mo_call 165 = .ok (.getfield 259, 3) := by decide +kernel
theorem d_Mo_call_168 : decode b_Mo_call 168 = .ok (.iconst 0, 1) := by decide +kernel
theorem d_Mo_call_169 : decode b_Mo_call 169 = .ok (.putfield 569, 3) := by decide +kernel
theorem d_Mo_call_172 : decode b_Mo_call 172 = .ok (.aload_n 0, 1) := by decide +kernel
theorem d_Mo_call_173 : decode b_Mo_call 173 = .ok (.bipush 7, 2) := by decide +kernel
theorem d_Mo_call_175 : decode b_Mo_call 175 = .ok (.invokevirtual 517, 3) := by decide +kernel
theorem d_Mo_call_178 : decode b_Mo_call 178 = .ok (.pop, 1) := by decide +kernel
theorem d_Mo_call_179 : decode b_Mo_call 179 = .ok (.return_, 1) := by decide +kernel
theorem d_Mo_call_180 : decode b_Mo_call 180 = .ok (.aload_n 0, 1) := by decide +kernel
theorem d_Mo_call_181 : decode b_Mo_call 181 = .ok (.getfield 256, 3) := by decide +kernel
theorem d_Mo_call_184 : decode b_Mo_call 184 = .ok (.lconst 0, 1) := by decide +kernel
theorem d_Mo_call_185 : decode b_Mo_call 185 = .ok (.lcmp, 1) := by decide +kernel
theorem d_Mo_call_186 : decode b_Mo_call 186 = .ok (.ifCond .ge 30, 3) := by decide +kernel
theorem d_Mo_call_189 : decode b_Mo_call 189 = .ok (.aload_n 0, 1) := by decide +kernel
theorem d_Mo_call_190 : decode b_Mo_call 190 = .ok (.ldc2_w 722, 3) := by decide +kernel
theorem d_Mo_call_193 : decode b_Mo_call 193 = .ok (.aload_n 0, 1) := by decide +kernel
theorem d_Mo_call_194 : decode b_Mo_call 194 = .ok (.getfield 256, 3) := by decide +kernel
theorem d_Mo_call_197 : decode b_Mo_call 197 = .ok (.lsub, 1) := by decide +kernel
theorem d_Mo_call_198 : decode b_Mo_call 198 = .ok (.l2i, 1) := by decide +kernel
theorem d_Mo_call_199 : decode b_Mo_call 199 = .ok (.invokevirtual 724, 3) := by decide +kernel
theorem d_Mo_call_202 : decode b_Mo_call 202 = .ok (.aload_n 0, 1) := by decide +kernel
theorem d_Mo_call_203 : decode b_Mo_call 203 = .ok (.getfield 247, 3) := by decide +kernel
theorem d_Mo_call_206 : decode b_Mo_call 206 = .ok (.iconst 1, 1) := by decide +kernel
theorem d_Mo_call_207 : decode b_Mo_call 207 = .ok (.if_icmp .eq 8, 3) := by decide +kernel
theorem d_Mo_call_210 : decode b_Mo_call 210 = .ok (.aload_n 0, 1) := by decide +kernel
theorem d_Mo_call_211 : decode b_Mo_call 211 = .ok (.iconst 0, 1) := by decide +kernel
theorem d_Mo_call_212 : decode b_Mo_call 212 = .ok (.putfield 253, 3) := by decide +kernel
theorem d_Mo_call_215 : decode b_Mo_call 215 = .ok (.return_, 1) := by decide +kernel
theorem d_Mo_call_216 : decode b_Mo_call 216 = .ok (.aload_n 0, 1) := by decide +kernel
theorem d_Mo_call_217 : decode b_Mo_call 217 = .ok (.getfield 256, 3) := by decide +kernel
theorem d_Mo_call_220 : decode b_Mo_call 220 = .ok (.l2i, 1) := by decide +kernel
theorem d_Mo_call_221 : decode b_Mo_call 221 = .ok (.istore_n 1, 1) := by decide +kernel
theorem d_Mo_call_222 : decode b_Mo_call 222 = .ok (.aload_n 0, 1) := by decide +kernel
theorem d_Mo_call_223 : decode b_Mo_call 223 = .ok (.iconst 0, 1) := by decide +kernel
theorem d_Mo_call_224 : decode b_Mo_call 224 = .ok (.putfield 253, 3) := by decide +kernel
theorem d_Mo_call_227 : decode b_Mo_call 227 = .ok (.aload_n 0, 1) := by decide +kernel
theorem d_Mo_call_228 : decode b_Mo_call 228 = .ok (.getfield 168, 3) := by decide +kernel
theorem d_Mo_call_231 : decode b_Mo_call 231 = .ok (.iload_n 1, 1) := by decide +kernel
theorem d_Mo_call_232 : decode b_Mo_call 232 = .ok (.iaload, 1) := by decide +kernel
theorem d_Mo_call_233 : decode b_Mo_call 233 = .ok (.ifCond .ge 35, 3) := by decide +kernel
theorem d_Mo_call_236 : decode b_Mo_call 236 = .ok (.aload_n 0, 1) := by decide +kernel
theorem d_Mo_call_237 : decode b_Mo_call 237 = .ok (.aload_n 0, 1) := by decide +kernel
theorem d_Mo_call_238 : decode b_Mo_call 238 = .ok (.getfield 239, 3) := by decide +kernel
theorem d_Mo_call_241 : decode b_Mo_call 241 = .ok (.aload_n 0, 1) := by decide +kernel
theorem d_Mo_call_242 : decode b_Mo_call 242 = .ok (.getfield 168, 3) := by decide +kernel
theorem d_Mo_call_245 : decode b_Mo_call 245 = .ok (.aload_n 0, 1) := by decide +kernel
theorem d_Mo_call_246 : decode b_Mo_call 246 = .ok (.getfield 171, 3) := by decide +kernel
theorem d_Mo_call_249 : decode b_Mo_call 249 = .ok (.iload_n 1, 1) := by decide +kernel
theorem d_Mo_call_250 : decode b_Mo_call 250 = .ok (.iaload, 1) := by decide +kernel
theorem d_Mo_call_251 : decode b_Mo_call 251 = .ok (.iaload, 1) := by decide +kernel
theorem d_Mo_call_252 : decode b_Mo_call 252 = .ok (.aaload, 1) := by decide +kernel
theorem d_Mo_call_253 : decode b_Mo_call 253 = .ok (.aload_n 0, 1) := by decide +kernel
theorem d_Mo_call_254 : decode b_Mo_call 254 = .ok (.getfield 171, 3) := by decide +kernel
theorem d_Mo_call_257 : decode b_Mo_call 257 = .ok (.iload_n 1, 1) := by decide +kernel
theorem d_Mo_call_258 : decode b_Mo_call 258 = .ok (.iaload, 1) := by decide +kernel
theorem d_Mo_call_259 : decode b_Mo_call 259 = .ok (.iconst 3, 1) := by decide +kernel
theorem d_Mo_call_260 : decode b_Mo_call 260 = .ok (.iload_n 1, 1) := by decide +kernel
theorem d_Mo_call_261 : decode b_Mo_call 261 = .ok (.iconst 0, 1) := by decide +kernel
theorem d_Mo_call_262 : decode b_Mo_call 262 = .ok (.invokevirtual 726, 3) := by decide +kernel
theorem d_Mo_call_265 : decode b_Mo_call 265 = .ok (.goto 8, 3) := by decide +kernel
theorem d_Mo_call_268 : decode b_Mo_call 268 = .ok (.aload_n 0, 1) := by decide +kernel
theorem d_Mo_call_269 : decode b_Mo_call 269 = .ok (.iload_n 1, 1) := by decide +kernel
theorem d_Mo_call_270 : decode b_Mo_call 270 = .ok (.invokevirtual 700, 3) := by decide +kernel
theorem d_Mo_call_273 : decode b_Mo_call 273 = .ok (.return_, 1) := by decide +kernel
abbrev b_Mo_meta : ByteArray := prog_14_method_63_code
def y_Mo_meta : MethodName := ⟨R_Mo, "meta", "(IJI)Z"⟩
abbrev w_Mo_meta : List Cond := .code y_Mo_meta b_Mo_meta 5 (some .boolean) :: wA
theorem k_Mo_meta : Cond.code y_Mo_meta b_Mo_meta 5 (some .boolean) ∈ wA := kinm (show _ ∈ tables_1 from (List.mem_append_right _ (List.mem_append_right _ (List.mem_append_right _ (List.mem_append_right _ (List.mem_append_right _ (List.mem_append_right _ (List.mem_append_right _ (List.mem_append_right _ (List.mem_append_right _ (List.mem_append_right _ (List.mem_append_right _ (List.mem_append_left _ (List.mem_of_getElem? (l := tables_1_12) (i := 166) (by decide +kernel))))))))))))))) (by decide +kernel)
theorem d_Mo_meta_0 : decode b_Mo_meta 0 = .ok (.aload_n 0, 1) := by decide +kernel
theorem d_Mo_meta_1 : decode b_Mo_meta 1 = .ok (.iconst 0, 1) := by decide +kernel
theorem d_Mo_meta_2 : decode b_Mo_meta 2 = .ok (.putfield 222, 3) := by decide +kernel
theorem d_Mo_meta_5 : decode b_Mo_meta 5 = .ok (.iload_n 1, 1) := by decide +kernel
theorem d_Mo_meta_6 : decode b_Mo_meta 6 = .ok (.iconst 5, 1) := by decide +kernel
theorem d_Mo_meta_7 : decode b_Mo_meta 7 = .ok (.if_icmp .ne 13, 3) := by decide +kernel
theorem d_Mo_meta_10 : decode b_Mo_meta 10 = .ok (.aload_n 0, 1) := by decide +kernel
theorem d_Mo_meta_11 : decode b_Mo_meta 11 = .ok (.getfield 177, 3) := by decide +kernel
theorem d_Mo_meta_14 : decode b_Mo_meta 14 = .ok (.lload_n 2, 1) := by decide +kernel
theorem d_Mo_meta_15 : decode b_Mo_meta 15 = .ok (.l2i, 1) := by decide +kernel
theorem d_Mo_meta_16 : decode b_Mo_meta 16 = .ok (.iaload, 1) := by decide +kernel
theorem d_Mo_meta_17 : decode b_Mo_meta 17 = .ok (.ifCond .ge 5, 3) := by decide +kernel
theorem d_Mo_meta_20 : decode b_Mo_meta 20 = .ok (.iconst 0, 1) := by decide +kernel
theorem d_Mo_meta_21 : decode b_Mo_meta 21 = .ok (.ireturn, 1) := by decide +kernel
theorem d_Mo_meta_22 : decode b_Mo_meta 22 = .ok (.aload_n 0, 1) := by decide +kernel
theorem d_Mo_meta_23 : decode b_Mo_meta 23 = .ok (.aload_n 0, 1) := by decide +kernel
theorem d_Mo_meta_24 : decode b_Mo_meta 24 = .ok (.getfield 177, 3) := by decide +kernel
theorem d_Mo_meta_27 : decode b_Mo_meta 27 = .ok (.lload_n 2, 1) := by decide +kernel
theorem d_Mo_meta_28 : decode b_Mo_meta 28 = .ok (.l2i, 1) := by decide +kernel
theorem d_Mo_meta_29 : decode b_Mo_meta 29 = .ok (.iaload, 1) := by decide +kernel
theorem d_Mo_meta_30 : decode b_Mo_meta 30 = .ok (.iconst 4, 1) := by decide +kernel
theorem d_Mo_meta_31 : decode b_Mo_meta 31 = .ok (.aload_n 0, 1) := by decide +kernel
theorem d_Mo_meta_32 : decode b_Mo_meta 32 = .ok (.getfield 403, 3) := by decide +kernel
theorem d_Mo_meta_35 : decode b_Mo_meta 35 = .ok (.iload 4, 2) := by decide +kernel
theorem d_Mo_meta_37 : decode b_Mo_meta 37 = .ok (.iaload, 1) := by decide +kernel
theorem d_Mo_meta_38 : decode b_Mo_meta 38 = .ok (.i2l, 1) := by decide +kernel
theorem d_Mo_meta_39 : decode b_Mo_meta 39 = .ok (.invokevirtual 581, 3) := by decide +kernel
theorem d_Mo_meta_42 : decode b_Mo_meta 42 = .ok (.ireturn, 1) := by decide +kernel
abbrev b_Mo_raw : ByteArray := prog_14_method_34_code
def y_Mo_raw : MethodName := ⟨R_Mo, "raw", "(IIJ)Z"⟩
abbrev w_Mo_raw : List Cond := .code y_Mo_raw b_Mo_raw 6 (some .boolean) :: wA
theorem k_Mo_raw : Cond.code y_Mo_raw b_Mo_raw 6 (some .boolean) ∈ wA := kinm (show _ ∈ tables_1 from (List.mem_append_right _ (List.mem_append_right _ (List.mem_append_right _ (List.mem_append_right _ (List.mem_append_right _ (List.mem_append_right _ (List.mem_append_right _ (List.mem_append_right _ (List.mem_append_right _ (List.mem_append_right _ (List.mem_append_right _ (List.mem_append_left _ (List.mem_of_getElem? (l := tables_1_12) (i := 170) (by decide +kernel))))))))))))))) (by decide +kernel)
theorem d_Mo_raw_0 : decode b_Mo_raw 0 = .ok (.iload_n 2, 1) := by decide +kernel
theorem d_Mo_raw_1 : decode b_Mo_raw 1 = .ok (.ifCond .ne 7, 3) := by decide +kernel
theorem d_Mo_raw_4 : decode b_Mo_raw 4 = .ok (.iconst (-1), 1) := by decide +kernel
theorem d_Mo_raw_5 : decode b_Mo_raw 5 = .ok (.goto 10, 3) := by decide +kernel
theorem d_Mo_raw_8 : decode b_Mo_raw 8 = .ok (.aload_n 0, 1) := by decide +kernel
theorem d_Mo_raw_9 : decode b_Mo_raw 9 = .ok (.iload_n 1, 1) := by decide +kernel
theorem d_Mo_raw_10 : decode b_Mo_raw 10 = .ok (.iload_n 2, 1) := by decide +kernel
theorem d_Mo_raw_11 : decode b_Mo_raw 11 = .ok (.lload_n 3, 1) := by decide +kernel
theorem d_Mo_raw_12 : decode b_Mo_raw 12 = .ok (.invokevirtual 552, 3) := by decide +kernel
theorem d_Mo_raw_15 : decode b_Mo_raw 15 = .ok (.istore 5, 2) := by decide +kernel
theorem d_Mo_raw_17 : decode b_Mo_raw 17 = .ok (.aload_n 0, 1) := by decide +kernel
theorem d_Mo_raw_18 : decode b_Mo_raw 18 = .ok (.iload 5, 2) := by decide +kernel
theorem d_Mo_raw_20 : decode b_Mo_raw 20 = .ok (.ifCond .ge 7, 3) := by decide +kernel
theorem d_Mo_raw_23 : decode b_Mo_raw 23 = .ok (.iconst 0, 1) := by decide +kernel
theorem d_Mo_raw_24 : decode b_Mo_raw 24 = .ok (.goto 10, 3) := by decide +kernel
theorem d_Mo_raw_27 : decode b_Mo_raw 27 = .ok (.aload_n 0, 1) := by decide +kernel
theorem d_Mo_raw_28 : decode b_Mo_raw 28 = .ok (.getfield 196, 3) := by decide +kernel
theorem d_Mo_raw_31 : decode b_Mo_raw 31 = .ok (.iload 5, 2) := by decide +kernel
theorem d_Mo_raw_33 : decode b_Mo_raw 33 = .ok (.baload, 1) := by decide +kernel
theorem d_Mo_raw_34 : decode b_Mo_raw 34 = .ok (.putfield 222, 3) := by decide +kernel
theorem d_Mo_raw_37 : decode b_Mo_raw 37 = .ok (.aload_n 0, 1) := by decide +kernel
theorem d_Mo_raw_38 : decode b_Mo_raw 38 = .ok (.iload 5, 2) := by decide +kernel
theorem d_Mo_raw_40 : decode b_Mo_raw 40 = .ok (.ifCond .ge 7, 3) := by decide +kernel
theorem d_Mo_raw_43 : decode b_Mo_raw 43 = .ok (.lconst 0, 1) := by decide +kernel
theorem d_Mo_raw_44 : decode b_Mo_raw 44 = .ok (.goto 10, 3) := by decide +kernel
theorem d_Mo_raw_47 : decode b_Mo_raw 47 = .ok (.aload_n 0, 1) := by decide +kernel
theorem d_Mo_raw_48 : decode b_Mo_raw 48 = .ok (.getfield 203, 3) := by decide +kernel
theorem d_Mo_raw_51 : decode b_Mo_raw 51 = .ok (.iload 5, 2) := by decide +kernel
theorem d_Mo_raw_53 : decode b_Mo_raw 53 = .ok (.laload, 1) := by decide +kernel
theorem d_Mo_raw_54 : decode b_Mo_raw 54 = .ok (.putfield 225, 3) := by decide +kernel
theorem d_Mo_raw_57 : decode b_Mo_raw 57 = .ok (.aload_n 0, 1) := by decide +kernel
theorem d_Mo_raw_58 : decode b_Mo_raw 58 = .ok (.getfield 222, 3) := by decide +kernel
theorem d_Mo_raw_61 : decode b_Mo_raw 61 = .ok (.ifCond .eq 7, 3) := by decide +kernel
theorem d_Mo_raw_64 : decode b_Mo_raw 64 = .ok (.iconst 1, 1) := by decide +kernel
theorem d_Mo_raw_65 : decode b_Mo_raw 65 = .ok (.goto 4, 3) := by decide +kernel
theorem d_Mo_raw_68 : decode b_Mo_raw 68 = .ok (.iconst 0, 1) := by decide +kernel
theorem d_Mo_raw_69 : decode b_Mo_raw 69 = .ok (.ireturn, 1) := by decide +kernel
abbrev b_Mo_builtIn : ByteArray := prog_14_method_85_code
def y_Mo_builtIn : MethodName := ⟨R_Mo, "builtIn", "(I)V"⟩
abbrev w_Mo_builtIn : List Cond := .code y_Mo_builtIn b_Mo_builtIn 2 none :: wA
set_option maxRecDepth 20000 in
theorem k_Mo_builtIn : Cond.code y_Mo_builtIn b_Mo_builtIn 2 none ∈ wA := kinm (show _ ∈ tables_1 from (List.mem_append_right _ (List.mem_append_right _ (List.mem_append_right _ (List.mem_append_right _ (List.mem_append_right _ (List.mem_append_right _ (List.mem_append_right _ (List.mem_append_right _ (List.mem_append_right _ (List.mem_append_right _ (List.mem_append_right _ (List.mem_append_left _ (List.mem_of_getElem? (l := tables_1_12) (i := 175) rfl)))))))))))))) rfl
theorem d_Mo_builtIn_0 : decode b_Mo_builtIn 0 = .ok (.iload_n 1, 1) := by decide +kernel
theorem d_Mo_builtIn_1 : decode b_Mo_builtIn 1 = .ok (.tableswitch 373 0 22 #[107, 114, 119, 165, 191, 196, 203, 210, 210, 210, 218, 258, 265, 272, 279, 286, 293, 331, 349, 354, 359, 366, 331], 107) := by decide +kernel
theorem d_Mo_builtIn_108 : decode b_Mo_builtIn 108 = .ok (.aload_n 0, 1) := by decide +kernel
theorem d_Mo_builtIn_109 : decode b_Mo_builtIn 109 = .ok (.invokevirtual 800, 3) := by decide +kernel
theorem d_Mo_builtIn_112 : decode b_Mo_builtIn 112 = .ok (.goto 276, 3) := by decide +kernel
theorem d_Mo_builtIn_115 : decode b_Mo_builtIn 115 = .ok (.aload_n 0, 1) := by decide +kernel
theorem d_Mo_builtIn_116 : decode b_Mo_builtIn 116 = .ok (.invokevirtual 802, 3) := by decide +kernel
theorem d_Mo_builtIn_119 : decode b_Mo_builtIn 119 = .ok (.return_, 1) := by decide +kernel
theorem d_Mo_builtIn_120 : decode b_Mo_builtIn 120 = .ok (.aload_n 0, 1) := by decide +kernel
theorem d_Mo_builtIn_121 : decode b_Mo_builtIn 121 = .ok (.iconst 4, 1) := by decide +kernel
theorem d_Mo_builtIn_122 : decode b_Mo_builtIn 122 = .ok (.aload_n 0, 1) := by decide +kernel
theorem d_Mo_builtIn_123 : decode b_Mo_builtIn 123 = .ok (.getfield 406, 3) := by decide +kernel
theorem d_Mo_builtIn_126 : decode b_Mo_builtIn 126 = .ok (.aload_n 0, 1) := by decide +kernel
theorem d_Mo_builtIn_127 : decode b_Mo_builtIn 127 = .ok (.iconst 0, 1) := by decide +kernel
theorem d_Mo_builtIn_128 : decode b_Mo_builtIn 128 = .ok (.invokevirtual 797, 3) := by decide +kernel
theorem d_Mo_builtIn_131 : decode b_Mo_builtIn 131 = .ok (.ifCond .ne 7, 3) := by decide +kernel
theorem d_Mo_builtIn_134 : decode b_Mo_builtIn 134 = .ok (.iconst 0, 1) := by decide +kernel
theorem d_Mo_builtIn_135 : decode b_Mo_builtIn 135 = .ok (.goto 23, 3) := by decide +kernel
theorem d_Mo_builtIn_138 : decode b_Mo_builtIn 138 = .ok (.aload_n 0, 1) := by decide +kernel
theorem d_Mo_builtIn_139 : decode b_Mo_builtIn 139 = .ok (.iconst 0, 1) := by decide +kernel
theorem d_Mo_builtIn_140 : decode b_Mo_builtIn 140 = .ok (.invokevirtual 797, 3) := by decide +kernel
theorem d_Mo_builtIn_143 : decode b_Mo_builtIn 143 = .ok (.iconst 2, 1) := by decide +kernel
theorem d_Mo_builtIn_144 : decode b_Mo_builtIn 144 = .ok (.if_icmp .gt 7, 3) := by decide +kernel
theorem d_Mo_builtIn_147 : decode b_Mo_builtIn 147 = .ok (.iconst 1, 1) := by decide +kernel
theorem d_Mo_builtIn_148 : decode b_Mo_builtIn 148 = .ok (.goto 10, 3) := by decide +kernel
theorem d_Mo_builtIn_151 : decode b_Mo_builtIn 151 = .ok (.aload_n 0, 1) := by decide +kernel
theorem d_Mo_builtIn_152 : decode b_Mo_builtIn 152 = .ok (.iconst 0, 1) := by decide +kernel
theorem d_Mo_builtIn_153 : decode b_Mo_builtIn 153 = .ok (.invokevirtual 797, 3) := by decide +kernel
theorem d_Mo_builtIn_156 : decode b_Mo_builtIn 156 = .ok (.iconst 1, 1) := by decide +kernel
theorem d_Mo_builtIn_157 : decode b_Mo_builtIn 157 = .ok (.isub, 1) := by decide +kernel
theorem d_Mo_builtIn_158 : decode b_Mo_builtIn 158 = .ok (.iaload, 1) := by decide +kernel
theorem d_Mo_builtIn_159 : decode b_Mo_builtIn 159 = .ok (.i2l, 1) := by decide +kernel
theorem d_Mo_builtIn_160 : decode b_Mo_builtIn 160 = .ok (.invokevirtual 804, 3) := by decide +kernel
theorem d_Mo_builtIn_163 : decode b_Mo_builtIn 163 = .ok (.goto 225, 3) := by decide +kernel
theorem d_Mo_builtIn_166 : decode b_Mo_builtIn 166 = .ok (.aload_n 0, 1) := by decide +kernel
theorem d_Mo_builtIn_167 : decode b_Mo_builtIn 167 = .ok (.aload_n 0, 1) := by decide +kernel
theorem d_Mo_builtIn_168 : decode b_Mo_builtIn 168 = .ok (.iconst 0, 1) := by decide +kernel
theorem d_Mo_builtIn_169 : decode b_Mo_builtIn 169 = .ok (.invokevirtual 797, 3) := by decide +kernel
theorem d_Mo_builtIn_172 : decode b_Mo_builtIn 172 = .ok (.putfield 215, 3) := by decide +kernel
theorem d_Mo_builtIn_175 : decode b_Mo_builtIn 175 = .ok (.aload_n 0, 1) := by decide +kernel
theorem d_Mo_builtIn_176 : decode b_Mo_builtIn 176 = .ok (.aload_n 0, 1) := by decide +kernel
theorem d_Mo_builtIn_177 : decode b_Mo_builtIn 177 = .ok (.iconst 0, 1) := by decide +kernel
theorem d_Mo_builtIn_178 : decode b_Mo_builtIn 178 = .ok (.invokevirtual 807, 3) := by decide +kernel
theorem d_Mo_builtIn_181 : decode b_Mo_builtIn 181 = .ok (.putfield 218, 3) := by decide +kernel
theorem d_Mo_builtIn_184 : decode b_Mo_builtIn 184 = .ok (.aload_n 0, 1) := by decide +kernel
theorem d_Mo_builtIn_185 : decode b_Mo_builtIn 185 = .ok (.iconst 3, 1) := by decide +kernel
theorem d_Mo_builtIn_186 : decode b_Mo_builtIn 186 = .ok (.putfield 247, 3) := by decide +kernel
theorem d_Mo_builtIn_189 : decode b_Mo_builtIn 189 = .ok (.goto 199, 3) := by decide +kernel
theorem d_Mo_builtIn_192 : decode b_Mo_builtIn 192 = .ok (.aload_n 0, 1) := by decide +kernel
theorem d_Mo_builtIn_193 : decode b_Mo_builtIn 193 = .ok (.invokevirtual 810, 3) := by decide +kernel
theorem d_Mo_builtIn_196 : decode b_Mo_builtIn 196 = .ok (.return_, 1) := by decide +kernel
theorem d_Mo_builtIn_197 : decode b_Mo_builtIn 197 = .ok (.aload_n 0, 1) := by decide +kernel
theorem d_Mo_builtIn_198 : decode b_Mo_builtIn 198 = .ok (.invokevirtual 812, 3) := by decide +kernel
theorem d_Mo_builtIn_201 : decode b_Mo_builtIn 201 = .ok (.goto 187, 3) := by decide +kernel
theorem d_Mo_builtIn_204 : decode b_Mo_builtIn 204 = .ok (.aload_n 0, 1) := by decide +kernel
theorem d_Mo_builtIn_205 : decode b_Mo_builtIn 205 = .ok (.invokevirtual 815, 3) := by decide +kernel
theorem d_Mo_builtIn_208 : decode b_Mo_builtIn 208 = .ok (.goto 180, 3) := by decide +kernel
theorem d_Mo_builtIn_211 : decode b_Mo_builtIn 211 = .ok (.aload_n 0, 1) := by decide +kernel
theorem d_Mo_builtIn_212 : decode b_Mo_builtIn 212 = .ok (.iload_n 1, 1) := by decide +kernel
theorem d_Mo_builtIn_213 : decode b_Mo_builtIn 213 = .ok (.invokevirtual 818, 3) := by decide +kernel
theorem d_Mo_builtIn_216 : decode b_Mo_builtIn 216 = .ok (.goto 172, 3) := by decide +kernel
theorem d_Mo_builtIn_219 : decode b_Mo_builtIn 219 = .ok (.aload_n 0, 1) := by decide +kernel
theorem d_Mo_builtIn_220 : decode b_Mo_builtIn 220 = .ok (.aload_n 0, 1) := by decide +kernel
theorem d_Mo_builtIn_221 : decode b_Mo_builtIn 221 = .ok (.iconst 0, 1) := by decide +kernel
theorem d_Mo_builtIn_222 : decode b_Mo_builtIn 222 = .ok (.invokevirtual 797, 3) := by decide +kernel
theorem d_Mo_builtIn_225 : decode b_Mo_builtIn 225 = .ok (.aload_n 0, 1) := by decide +kernel
theorem d_Mo_builtIn_226 : decode b_Mo_builtIn 226 = .ok (.iconst 1, 1) := by decide +kernel
theorem d_Mo_builtIn_227 : decode b_Mo_builtIn 227 = .ok (.invokevirtual 797, 3) := by decide +kernel
theorem d_Mo_builtIn_230 : decode b_Mo_builtIn 230 = .ok (.if_icmp .ne 21, 3) := by decide +kernel
theorem d_Mo_builtIn_233 : decode b_Mo_builtIn 233 = .ok (.aload_n 0, 1) := by decide +kernel
theorem d_Mo_builtIn_234 : decode b_Mo_builtIn 234 = .ok (.iconst 0, 1) := by decide +kernel
theorem d_Mo_builtIn_235 : decode b_Mo_builtIn 235 = .ok (.invokevirtual 807, 3) := by decide +kernel
theorem d_Mo_builtIn_238 : decode b_Mo_builtIn 238 = .ok (.aload_n 0, 1) := by decide +kernel
theorem d_Mo_builtIn_239 : decode b_Mo_builtIn 239 = .ok (.iconst 1, 1) := by decide +kernel
theorem d_Mo_builtIn_240 : decode b_Mo_builtIn 240 = .ok (.invokevirtual 807, 3) := by decide +kernel
theorem d_Mo_builtIn_243 : decode b_Mo_builtIn 243 = .ok (.lcmp, 1) := by decide +kernel
theorem d_Mo_builtIn_244 : decode b_Mo_builtIn 244 = .ok (.ifCond .ne 7, 3) := by decide +kernel
theorem d_Mo_builtIn_247 : decode b_Mo_builtIn 247 = .ok (.iconst 2, 1) := by decide +kernel
theorem d_Mo_builtIn_248 : decode b_Mo_builtIn 248 = .ok (.goto 4, 3) := by decide +kernel
theorem d_Mo_builtIn_251 : decode b_Mo_builtIn 251 = .ok (.iconst 1, 1) := by decide +kernel
theorem d_Mo_builtIn_252 : decode b_Mo_builtIn 252 = .ok (.lconst 0, 1) := by decide +kernel
theorem d_Mo_builtIn_253 : decode b_Mo_builtIn 253 = .ok (.invokevirtual 804, 3) := by decide +kernel
theorem d_Mo_builtIn_256 : decode b_Mo_builtIn 256 = .ok (.goto 132, 3) := by decide +kernel
theorem d_Mo_builtIn_259 : decode b_Mo_builtIn 259 = .ok (.aload_n 0, 1) := by decide +kernel
theorem d_Mo_builtIn_260 : decode b_Mo_builtIn 260 = .ok (.invokevirtual 821, 3) := by decide +kernel
theorem d_Mo_builtIn_263 : decode b_Mo_builtIn 263 = .ok (.goto 125, 3) := by decide +kernel
theorem d_Mo_builtIn_266 : decode b_Mo_builtIn 266 = .ok (.aload_n 0, 1) := by decide +kernel
theorem d_Mo_builtIn_267 : decode b_Mo_builtIn 267 = .ok (.invokevirtual 823, 3) := by decide +kernel
theorem d_Mo_builtIn_270 : decode b_Mo_builtIn 270 = .ok (.goto 118, 3) := by decide +kernel
theorem d_Mo_builtIn_273 : decode b_Mo_builtIn 273 = .ok (.aload_n 0, 1) := by decide +kernel
theorem d_Mo_builtIn_274 : decode b_Mo_builtIn 274 = .ok (.invokevirtual 825, 3) := by decide +kernel
theorem d_Mo_builtIn_277 : decode b_Mo_builtIn 277 = .ok (.goto 111, 3) := by decide +kernel
theorem d_Mo_builtIn_280 : decode b_Mo_builtIn 280 = .ok (.aload_n 0, 1) := by decide +kernel
theorem d_Mo_builtIn_281 : decode b_Mo_builtIn 281 = .ok (.invokevirtual 827, 3) := by decide +kernel
theorem d_Mo_builtIn_284 : decode b_Mo_builtIn 284 = .ok (.goto 104, 3) := by decide +kernel
theorem d_Mo_builtIn_287 : decode b_Mo_builtIn 287 = .ok (.aload_n 0, 1) := by decide +kernel
theorem d_Mo_builtIn_288 : decode b_Mo_builtIn 288 = .ok (.invokevirtual 830, 3) := by decide +kernel
theorem d_Mo_builtIn_291 : decode b_Mo_builtIn 291 = .ok (.goto 97, 3) := by decide +kernel
theorem d_Mo_builtIn_294 : decode b_Mo_builtIn 294 = .ok (.aload_n 0, 1) := by decide +kernel
theorem d_Mo_builtIn_295 : decode b_Mo_builtIn 295 = .ok (.iconst 0, 1) := by decide +kernel
theorem d_Mo_builtIn_296 : decode b_Mo_builtIn 296 = .ok (.iconst 4, 1) := by decide +kernel
theorem d_Mo_builtIn_297 : decode b_Mo_builtIn 297 = .ok (.invokevirtual 833, 3) := by decide +kernel
theorem d_Mo_builtIn_300 : decode b_Mo_builtIn 300 = .ok (.ifCond .eq 23, 3) := by decide +kernel
theorem d_Mo_builtIn_303 : decode b_Mo_builtIn 303 = .ok (.aload_n 0, 1) := by decide +kernel
theorem d_Mo_builtIn_304 : decode b_Mo_builtIn 304 = .ok (.iconst 3, 1) := by decide +kernel
theorem d_Mo_builtIn_305 : decode b_Mo_builtIn 305 = .ok (.aload_n 0, 1) := by decide +kernel
theorem d_Mo_builtIn_306 : decode b_Mo_builtIn 306 = .ok (.getfield 171, 3) := by decide +kernel
theorem d_Mo_builtIn_309 : decode b_Mo_builtIn 309 = .ok (.aload_n 0, 1) := by decide +kernel
theorem d_Mo_builtIn_310 : decode b_Mo_builtIn 310 = .ok (.iconst 0, 1) := by decide +kernel
theorem d_Mo_builtIn_311 : decode b_Mo_builtIn 311 = .ok (.invokevirtual 807, 3) := by decide +kernel
theorem d_Mo_builtIn_314 : decode b_Mo_builtIn 314 = .ok (.l2i, 1) := by decide +kernel
theorem d_Mo_builtIn_315 : decode b_Mo_builtIn 315 = .ok (.iaload, 1) := by decide +kernel
theorem d_Mo_builtIn_316 : decode b_Mo_builtIn 316 = .ok (.i2l, 1) := by decide +kernel
theorem d_Mo_builtIn_317 : decode b_Mo_builtIn 317 = .ok (.invokevirtual 804, 3) := by decide +kernel
theorem d_Mo_builtIn_320 : decode b_Mo_builtIn 320 = .ok (.goto 68, 3) := by decide +kernel
theorem d_Mo_builtIn_323 : decode b_Mo_builtIn 323 = .ok (.aload_n 0, 1) := by decide +kernel
theorem d_Mo_builtIn_324 : decode b_Mo_builtIn 324 = .ok (.iconst 3, 1) := by decide +kernel
theorem d_Mo_builtIn_325 : decode b_Mo_builtIn 325 = .ok (.invokevirtual 517, 3) := by decide +kernel
theorem d_Mo_builtIn_328 : decode b_Mo_builtIn 328 = .ok (.pop, 1) := by decide +kernel
theorem d_Mo_builtIn_329 : decode b_Mo_builtIn 329 = .ok (.goto 59, 3) := by decide +kernel
theorem d_Mo_builtIn_332 : decode b_Mo_builtIn 332 = .ok (.aload_n 0, 1) := by decide +kernel
theorem d_Mo_builtIn_333 : decode b_Mo_builtIn 333 = .ok (.iload_n 1, 1) := by decide +kernel
theorem d_Mo_builtIn_334 : decode b_Mo_builtIn 334 = .ok (.bipush 22, 2) := by decide +kernel
theorem d_Mo_builtIn_336 : decode b_Mo_builtIn 336 = .ok (.if_icmp .ne 7, 3) := by decide +kernel
theorem d_Mo_builtIn_339 : decode b_Mo_builtIn 339 = .ok (.iconst 1, 1) := by decide +kernel
theorem d_Mo_builtIn_340 : decode b_Mo_builtIn 340 = .ok (.goto 4, 3) := by decide +kernel
theorem d_Mo_builtIn_343 : decode b_Mo_builtIn 343 = .ok (.iconst 0, 1) := by decide +kernel
theorem d_Mo_builtIn_344 : decode b_Mo_builtIn 344 = .ok (.invokevirtual 836, 3) := by decide +kernel
theorem d_Mo_builtIn_347 : decode b_Mo_builtIn 347 = .ok (.goto 41, 3) := by decide +kernel
theorem d_Mo_builtIn_350 : decode b_Mo_builtIn 350 = .ok (.aload_n 0, 1) := by decide +kernel
theorem d_Mo_builtIn_351 : decode b_Mo_builtIn 351 = .ok (.invokevirtual 838, 3) := by decide +kernel
theorem d_Mo_builtIn_354 : decode b_Mo_builtIn 354 = .ok (.return_, 1) := by decide +kernel
theorem d_Mo_builtIn_355 : decode b_Mo_builtIn 355 = .ok (.aload_n 0, 1) := by decide +kernel
theorem d_Mo_builtIn_356 : decode b_Mo_builtIn 356 = .ok (.invokevirtual 840, 3) := by decide +kernel
theorem d_Mo_builtIn_359 : decode b_Mo_builtIn 359 = .ok (.return_, 1) := by decide +kernel
theorem d_Mo_builtIn_360 : decode b_Mo_builtIn 360 = .ok (.aload_n 0, 1) := by decide +kernel
theorem d_Mo_builtIn_361 : decode b_Mo_builtIn 361 = .ok (.invokevirtual 843, 3) := by decide +kernel
theorem d_Mo_builtIn_364 : decode b_Mo_builtIn 364 = .ok (.goto 24, 3) := by decide +kernel
theorem d_Mo_builtIn_367 : decode b_Mo_builtIn 367 = .ok (.aload_n 0, 1) := by decide +kernel
theorem d_Mo_builtIn_368 : decode b_Mo_builtIn 368 = .ok (.invokevirtual 845, 3) := by decide +kernel
theorem d_Mo_builtIn_371 : decode b_Mo_builtIn 371 = .ok (.goto 17, 3) := by decide +kernel
theorem d_Mo_builtIn_374 : decode b_Mo_builtIn 374 = .ok (.aload_n 0, 1) := by decide +kernel
theorem d_Mo_builtIn_375 : decode b_Mo_builtIn 375 = .ok (.invokevirtual 520, 3) := by decide +kernel
theorem d_Mo_builtIn_378 : decode b_Mo_builtIn 378 = .ok (.aload_n 0, 1) := by decide +kernel
theorem d_Mo_builtIn_379 : decode b_Mo_builtIn 379 = .ok (.iconst 3, 1) := by decide +kernel
theorem d_Mo_builtIn_380 : decode b_Mo_builtIn 380 = .ok (.aload_n 0, 1) := by decide +kernel
theorem d_Mo_builtIn_381 : decode b_Mo_builtIn 381 = .ok (.getfield 122, 3) := by decide +kernel
theorem d_Mo_builtIn_384 : decode b_Mo_builtIn 384 = .ok (.i2l, 1) := by decide +kernel
theorem d_Mo_builtIn_385 : decode b_Mo_builtIn 385 = .ok (.invokevirtual 804, 3) := by decide +kernel
theorem d_Mo_builtIn_388 : decode b_Mo_builtIn 388 = .ok (.aload_n 0, 1) := by decide +kernel
theorem d_Mo_builtIn_389 : decode b_Mo_builtIn 389 = .ok (.getfield 259, 3) := by decide +kernel
theorem d_Mo_builtIn_392 : decode b_Mo_builtIn 392 = .ok (.iconst 0, 1) := by decide +kernel
theorem d_Mo_builtIn_393 : decode b_Mo_builtIn 393 = .ok (.putfield 569, 3) := by decide +kernel
theorem d_Mo_builtIn_396 : decode b_Mo_builtIn 396 = .ok (.return_, 1) := by decide +kernel
abbrev b_Mo_print : ByteArray := prog_14_method_107_code
def y_Mo_print : MethodName := ⟨R_Mo, "print", "()V"⟩
abbrev w_Mo_print : List Cond := .code y_Mo_print b_Mo_print 3 none :: wA
theorem k_Mo_print : Cond.code y_Mo_print b_Mo_print 3 none ∈ wA := kinm (show _ ∈ tables_1 from (List.mem_append_right _ (List.mem_append_right _ (List.mem_append_right _ (List.mem_append_right _ (List.mem_append_right _ (List.mem_append_right _ (List.mem_append_right _ (List.mem_append_right _ (List.mem_append_right _ (List.mem_append_right _ (List.mem_append_right _ (List.mem_append_left _ (List.mem_of_getElem? (l := tables_1_12) (i := 179) (by decide +kernel))))))))))))))) (by decide +kernel)
theorem d_Mo_print_0 : decode b_Mo_print 0 = .ok (.iconst 0, 1) := by decide +kernel
theorem d_Mo_print_1 : decode b_Mo_print 1 = .ok (.istore_n 1, 1) := by decide +kernel
theorem d_Mo_print_2 : decode b_Mo_print 2 = .ok (.iload_n 1, 1) := by decide +kernel
theorem d_Mo_print_3 : decode b_Mo_print 3 = .ok (.aload_n 0, 1) := by decide +kernel
theorem d_Mo_print_4 : decode b_Mo_print 4 = .ok (.getfield 259, 3) := by decide +kernel
theorem d_Mo_print_7 : decode b_Mo_print 7 = .ok (.getfield 569, 3) := by decide +kernel
theorem d_Mo_print_10 : decode b_Mo_print 10 = .ok (.if_icmp .gt 114, 3) := by decide +kernel
theorem d_Mo_print_13 : decode b_Mo_print 13 = .ok (.aload_n 0, 1) := by decide +kernel
theorem d_Mo_print_14 : decode b_Mo_print 14 = .ok (.iconst 0, 1) := by decide +kernel
theorem d_Mo_print_15 : decode b_Mo_print 15 = .ok (.putfield 431, 3) := by decide +kernel
theorem d_Mo_print_18 : decode b_Mo_print 18 = .ok (.iload_n 1, 1) := by decide +kernel
theorem d_Mo_print_19 : decode b_Mo_print 19 = .ok (.aload_n 0, 1) := by decide +kernel
theorem d_Mo_print_20 : decode b_Mo_print 20 = .ok (.getfield 259, 3) := by decide +kernel
theorem d_Mo_print_23 : decode b_Mo_print 23 = .ok (.getfield 569, 3) := by decide +kernel
theorem d_Mo_print_26 : decode b_Mo_print 26 = .ok (.if_icmp .ne 12, 3) := by decide +kernel
theorem d_Mo_print_29 : decode b_Mo_print 29 = .ok (.aload_n 0, 1) := by decide +kernel
theorem d_Mo_print_30 : decode b_Mo_print 30 = .ok (.bipush 10, 2) := by decide +kernel
theorem d_Mo_print_32 : decode b_Mo_print 32 = .ok (.invokevirtual 870, 3) := by decide +kernel
theorem d_Mo_print_35 : decode b_Mo_print 35 = .ok (.goto 35, 3) := by decide +kernel
theorem d_Mo_print_38 : decode b_Mo_print 38 = .ok (.iload_n 1, 1) := by decide +kernel
theorem d_Mo_print_39 : decode b_Mo_print 39 = .ok (.ifCond .le 9, 3) := by decide +kernel
theorem d_Mo_print_42 : decode b_Mo_print 42 = .ok (.aload_n 0, 1) := by decide +kernel
theorem d_Mo_print_43 : decode b_Mo_print 43 = .ok (.bipush 9, 2) := by decide +kernel
theorem d_Mo_print_45 : decode b_Mo_print 45 = .ok (.invokevirtual 870, 3) := by decide +kernel
theorem d_Mo_print_48 : decode b_Mo_print 48 = .ok (.aload_n 0, 1) := by decide +kernel
theorem d_Mo_print_49 : decode b_Mo_print 49 = .ok (.aload_n 0, 1) := by decide +kernel
theorem d_Mo_print_50 : decode b_Mo_print 50 = .ok (.getfield 259, 3) := by decide +kernel
theorem d_Mo_print_53 : decode b_Mo_print 53 = .ok (.getfield 585, 3) := by decide +kernel
theorem d_Mo_print_56 : decode b_Mo_print 56 = .ok (.iload_n 1, 1) := by decide +kernel
theorem d_Mo_print_57 : decode b_Mo_print 57 = .ok (.baload, 1) := by decide +kernel
theorem d_Mo_print_58 : decode b_Mo_print 58 = .ok (.aload_n 0, 1) := by decide +kernel
theorem d_Mo_print_59 : decode b_Mo_print 59 = .ok (.getfield 259, 3) := by decide +kernel
theorem d_Mo_print_62 : decode b_Mo_print 62 = .ok (.getfield 588, 3) := by decide +kernel
theorem d_Mo_print_65 : decode b_Mo_print 65 = .ok (.iload_n 1, 1) := by decide +kernel
theorem d_Mo_print_66 : decode b_Mo_print 66 = .ok (.laload, 1) := by decide +kernel
theorem d_Mo_print_67 : decode b_Mo_print 67 = .ok (.invokevirtual 902, 3) := by decide +kernel
theorem d_Mo_print_70 : decode b_Mo_print 70 = .ok (.iconst 0, 1) := by decide +kernel
theorem d_Mo_print_71 : decode b_Mo_print 71 = .ok (.istore_n 2, 1) := by decide +kernel
theorem d_Mo_print_72 : decode b_Mo_print 72 = .ok (.iload_n 2, 1) := by decide +kernel
theorem d_Mo_print_73 : decode b_Mo_print 73 = .ok (.aload_n 0, 1) := by decide +kernel
theorem d_Mo_print_74 : decode b_Mo_print 74 = .ok (.getfield 431, 3) := by decide +kernel
theorem d_Mo_print_77 : decode b_Mo_print 77 = .ok (.if_icmp .ge 41, 3) := by decide +kernel
theorem d_Mo_print_80 : decode b_Mo_print 80 = .ok (.aload_n 0, 1) := by decide +kernel
theorem d_Mo_print_81 : decode b_Mo_print 81 = .ok (.getfield 428, 3) := by decide +kernel
theorem d_Mo_print_84 : decode b_Mo_print 84 = .ok (.sipush 20000, 3) := by decide +kernel
theorem d_Mo_print_87 : decode b_Mo_print 87 = .ok (.if_icmp .ge 31, 3) := by decide +kernel
theorem d_Mo_print_90 : decode b_Mo_print 90 = .ok (.aload_n 0, 1) := by decide +kernel
theorem d_Mo_print_91 : decode b_Mo_print 91 = .ok (.getfield 425, 3) := by decide +kernel
theorem d_Mo_print_94 : decode b_Mo_print 94 = .ok (.aload_n 0, 1) := by decide +kernel
theorem d_Mo_print_95 : decode b_Mo_print 95 = .ok (.dup, 1) := by decide +kernel
theorem d_Mo_print_96 : decode b_Mo_print 96 = .ok (.getfield 428, 3) := by decide +kernel
theorem d_Mo_print_99 : decode b_Mo_print 99 = .ok (.dup_x1, 1) := by decide +kernel
theorem d_Mo_print_100 : decode b_Mo_print 100 = .ok (.iconst 1, 1) := by decide +kernel
theorem d_Mo_print_101 : decode b_Mo_print 101 = .ok (.iadd, 1) := by decide +kernel
theorem d_Mo_print_102 : decode b_Mo_print 102 = .ok (.putfield 428, 3) := by decide +kernel
theorem d_Mo_print_105 : decode b_Mo_print 105 = .ok (.aload_n 0, 1) := by decide +kernel
theorem d_Mo_print_106 : decode b_Mo_print 106 = .ok (.getfield 422, 3) := by decide +kernel
theorem d_Mo_print_109 : decode b_Mo_print 109 = .ok (.iload_n 2, 1) := by decide +kernel
theorem d_Mo_print_110 : decode b_Mo_print 110 = .ok (.baload, 1) := by decide +kernel
theorem d_Mo_print_111 : decode b_Mo_print 111 = .ok (.bastore, 1) := by decide +kernel
theorem d_Mo_print_112 : decode b_Mo_print 112 = .ok (.iinc 2 1, 3) := by decide +kernel
theorem d_Mo_print_115 : decode b_Mo_print 115 = .ok (.goto (-43), 3) := by decide +kernel
theorem d_Mo_print_118 : decode b_Mo_print 118 = .ok (.iinc 1 1, 3) := by decide +kernel
theorem d_Mo_print_121 : decode b_Mo_print 121 = .ok (.goto (-119), 3) := by decide +kernel
theorem d_Mo_print_124 : decode b_Mo_print 124 = .ok (.aload_n 0, 1) := by decide +kernel
theorem d_Mo_print_125 : decode b_Mo_print 125 = .ok (.invokevirtual 853, 3) := by decide +kernel
theorem d_Mo_print_128 : decode b_Mo_print 128 = .ok (.return_, 1) := by decide +kernel
abbrev b_Mo_say : ByteArray := prog_14_method_102_code
def y_Mo_say : MethodName := ⟨R_Mo, "say", "(I)V"⟩
abbrev w_Mo_say : List Cond := .code y_Mo_say b_Mo_say 2 none :: wA
theorem k_Mo_say : Cond.code y_Mo_say b_Mo_say 2 none ∈ wA := kinm (show _ ∈ tables_1 from (List.mem_append_right _ (List.mem_append_right _ (List.mem_append_right _ (List.mem_append_right _ (List.mem_append_right _ (List.mem_append_right _ (List.mem_append_right _ (List.mem_append_right _ (List.mem_append_right _ (List.mem_append_right _ (List.mem_append_right _ (List.mem_append_left _ (List.mem_of_getElem? (l := tables_1_12) (i := 183) (by decide +kernel))))))))))))))) (by decide +kernel)
theorem d_Mo_say_0 : decode b_Mo_say 0 = .ok (.aload_n 0, 1) := by decide +kernel
theorem d_Mo_say_1 : decode b_Mo_say 1 = .ok (.getfield 422, 3) := by decide +kernel
theorem d_Mo_say_4 : decode b_Mo_say 4 = .ok (.aload_n 0, 1) := by decide +kernel
theorem d_Mo_say_5 : decode b_Mo_say 5 = .ok (.dup, 1) := by decide +kernel
theorem d_Mo_say_6 : decode b_Mo_say 6 = .ok (.getfield 431, 3) := by decide +kernel
theorem d_Mo_say_9 : decode b_Mo_say 9 = .ok (.dup_x1, 1) := by decide +kernel
theorem d_Mo_say_10 : decode b_Mo_say 10 = .ok (.iconst 1, 1) := by decide +kernel
theorem d_Mo_say_11 : decode b_Mo_say 11 = .ok (.iadd, 1) := by decide +kernel
theorem d_Mo_say_12 : decode b_Mo_say 12 = .ok (.putfield 431, 3) := by decide +kernel
theorem d_Mo_say_15 : decode b_Mo_say 15 = .ok (.iload_n 1, 1) := by decide +kernel
theorem d_Mo_say_16 : decode b_Mo_say 16 = .ok (.i2b, 1) := by decide +kernel
theorem d_Mo_say_17 : decode b_Mo_say 17 = .ok (.bastore, 1) := by decide +kernel
theorem d_Mo_say_18 : decode b_Mo_say 18 = .ok (.return_, 1) := by decide +kernel
theorem kw_173 : Cond.fieldLink R_Mo 422 "LuaMachineModel" "built" "[B" ∈ wA := kinm (show _ ∈ tables_1 from (List.mem_append_right _ (List.mem_append_right _ (List.mem_append_right _ (List.mem_append_right _ (List.mem_append_right _ (List.mem_append_right _ (List.mem_append_right _ (List.mem_append_right _ (List.mem_append_right _ (List.mem_append_left _ (List.mem_of_getElem? (l := tables_1_10) (i := 149) (by decide +kernel))))))))))))) (by decide +kernel)
theorem kw_174 : Cond.fieldLink R_Mo 431 "LuaMachineModel" "builtSize" "I" ∈ wA := kinm (show _ ∈ tables_1 from (List.mem_append_right _ (List.mem_append_right _ (List.mem_append_right _ (List.mem_append_right _ (List.mem_append_right _ (List.mem_append_right _ (List.mem_append_right _ (List.mem_append_right _ (List.mem_append_right _ (List.mem_append_left _ (List.mem_of_getElem? (l := tables_1_10) (i := 152) (by decide +kernel))))))))))))) (by decide +kernel)
theorem kw_175 : Cond.instanceMethod y_Mo_say ∈ wA := kinm (show _ ∈ tables_1 from (List.mem_append_right _ (List.mem_append_right _ (List.mem_append_right _ (List.mem_append_right _ (List.mem_append_right _ (List.mem_append_right _ (List.mem_append_right _ (List.mem_append_right _ (List.mem_append_right _ (List.mem_append_right _ (List.mem_append_right _ (List.mem_append_left _ (List.mem_of_getElem? (l := tables_1_12) (i := 182) (by decide +kernel))))))))))))))) (by decide +kernel)
theorem kw_176 : Cond.selects R_Mo y_Mo_say y_Mo_say ∈ wA := kinp 162 (by decide +kernel) (by decide +kernel)
def M_Mo_say (l1 : Int32) : M (Unit) :=
  oB (oGI 96 0) fun v6 =>
  oB (oPI 96 0 (v6 + 1)) fun _ =>
  oB (oSI 87 266800 0 v6 l1.toInt8.toInt32.toInt8.toInt32) fun _ =>
  oR ()

theorem cv_Mo_say : CV y_Mo_say b_Mo_say 2 none 1 := ⟨kw_175, kw_176, kw_17, k_Mo_say, by decide +kernel⟩
theorem ct_Mo_say {l : Launch} {P : PP} {q : PL} {s s' : S1} {l1 : Int32} {r : Unit} (h : M_Mo_say l1 s = some (r, s')) : Ct l y_Mo_say b_Mo_say 2 none 0 0 P q s [.ref (q.1 0 0), .int l1] none q s' := by
  refine ct_of (by decide) (Nat.le_of_ble_eq_true rfl) fun X ls eP el g hR hl => ?_
  have hR : Rt X q ((r, s') : Unit × S1).2 none := hR
  have hl : lv_has ls 2 [(0, .ref (q.1 0 0)), (1, .int l1)] := hl
  generalize (r, s') = o at h hR
  unfold M_Mo_say at h
  refine ww_aload_n (pc := 0) g.1 d_Mo_say_0 rfl (lv_at hl 0 rfl) ?_
  refine ww_gR (pc := 1) g (k := 93) cl_Mo (pz rfl (by decide)) (by decide) (Or.inl kw_173) (f := 93) (t := 87) rfl rfl rfl d_Mo_say_1 ?_
  refine ww_aload_n (pc := 4) g.1 d_Mo_say_4 rfl (lv_at hl 0 rfl) ?_
  refine ww_dup (pc := 5) g.1 d_Mo_say_5 rfl ?_
  refine ww_gI (pc := 6) g (k := 96) cl_Mo (pz rfl (by decide)) (by decide) (Or.inl kw_174) (f := 96) rfl rfl d_Mo_say_6 h fun v6 h => ?_
  refine ww_dup_x1 (pc := 9) g.1 d_Mo_say_9 rfl rfl ?_
  refine ww_iconst (pc := 10) g.1 (v := 1) d_Mo_say_10 (by decide) ?_
  refine ww_iadd (pc := 11) g.1 d_Mo_say_11 ?_
  refine ww_pI (pc := 12) g (k := 96) cl_Mo (pz rfl (by decide)) (by decide) (Or.inl kw_174) rfl (f := 96) rfl rfl rfl rfl d_Mo_say_12 h fun s hs h => ?_
  refine ww_iload_n (pc := 15) g.1 d_Mo_say_15 rfl (lv_at hl 1 rfl) ?_
  refine ww_i2b (pc := 16) g.1 (v := l1.toInt8.toInt32) d_Mo_say_16 rfl ?_
  refine ww_sb (pc := 17) g (pz rfl (by decide)) rfl rfl d_Mo_say_17 h fun s hs h => ?_
  exact ww_vretH (pc := 18) g h hR d_Mo_say_18

