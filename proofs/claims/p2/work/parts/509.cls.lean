abbrev b_Ma_begin : ByteArray := prog_7_method_7_code
def y_Ma_begin : MethodName := ⟨R_Ma, "begin", "(LLuaMachine$Coroutine;)V"⟩
abbrev w_Ma_begin : List Cond := .code y_Ma_begin b_Ma_begin 2 none :: wA
theorem k_Ma_begin : Cond.code y_Ma_begin b_Ma_begin 2 none ∈ wA := kinm (show _ ∈ tables_1 from (List.mem_append_right _ (List.mem_append_right _ (List.mem_append_right _ (List.mem_append_right _ (List.mem_append_right _ (List.mem_append_left _ (List.mem_of_getElem? (l := tables_1_6) (i := 206) (by decide +kernel))))))))) (by decide +kernel)
theorem d_Ma_begin_0 : decode b_Ma_begin 0 = .ok (.aload_n 1, 1) := by decide +kernel
theorem d_Ma_begin_1 : decode b_Ma_begin 1 = .ok (.iconst 1, 1) := by decide +kernel
theorem d_Ma_begin_2 : decode b_Ma_begin 2 = .ok (.putfield 183, 3) := by decide +kernel
theorem d_Ma_begin_5 : decode b_Ma_begin 5 = .ok (.aload_n 1, 1) := by decide +kernel
theorem d_Ma_begin_6 : decode b_Ma_begin 6 = .ok (.iconst 1, 1) := by decide +kernel
theorem d_Ma_begin_7 : decode b_Ma_begin 7 = .ok (.putfield 188, 3) := by decide +kernel
theorem d_Ma_begin_10 : decode b_Ma_begin 10 = .ok (.aload_n 1, 1) := by decide +kernel
theorem d_Ma_begin_11 : decode b_Ma_begin 11 = .ok (.ldc2_w 191, 3) := by decide +kernel
theorem d_Ma_begin_14 : decode b_Ma_begin 14 = .ok (.putfield 193, 3) := by decide +kernel
theorem d_Ma_begin_17 : decode b_Ma_begin 17 = .ok (.return_, 1) := by decide +kernel
theorem kw_832 : Cond.constantLong R_Ma 191 (-1) ∈ wA := kinm (show _ ∈ tables_1 from (List.mem_append_right _ (List.mem_append_right _ (List.mem_append_right _ (List.mem_append_right _ (List.mem_append_right _ (List.mem_append_left _ (List.mem_of_getElem? (l := tables_1_6) (i := 207) (by decide +kernel))))))))) (by decide +kernel)
theorem kw_833 : Cond.fieldLink R_Ma 183 "LuaMachine$Coroutine" "status" "I" ∈ wA := kinm (show _ ∈ tables_1 from (List.mem_append_right _ (List.mem_append_right _ (List.mem_append_right _ (List.mem_append_right _ (List.mem_append_right _ (List.mem_append_left _ (List.mem_of_getElem? (l := tables_1_6) (i := 161) (by decide +kernel))))))))) (by decide +kernel)
theorem kw_834 : Cond.fieldLink R_Ma 188 "LuaMachine$Coroutine" "begun" "Z" ∈ wA := kinm (show _ ∈ tables_1 from (List.mem_append_right _ (List.mem_append_right _ (List.mem_append_right _ (List.mem_append_right _ (List.mem_append_right _ (List.mem_append_left _ (List.mem_of_getElem? (l := tables_1_6) (i := 164) (by decide +kernel))))))))) (by decide +kernel)
theorem kw_835 : Cond.fieldLink R_Ma 193 "LuaMachine$Coroutine" "function" "J" ∈ wA := kinm (show _ ∈ tables_1 from (List.mem_append_right _ (List.mem_append_right _ (List.mem_append_right _ (List.mem_append_right _ (List.mem_append_right _ (List.mem_append_left _ (List.mem_of_getElem? (l := tables_1_6) (i := 166) (by decide +kernel))))))))) (by decide +kernel)
theorem kw_836 : Cond.instanceMethod y_Ma_begin ∈ wA := kinm (show _ ∈ tables_1 from (List.mem_append_right _ (List.mem_append_right _ (List.mem_append_right _ (List.mem_append_right _ (List.mem_append_right _ (List.mem_append_left _ (List.mem_of_getElem? (l := tables_1_6) (i := 205) (by decide +kernel))))))))) (by decide +kernel)
theorem kw_837 : Cond.selects R_Ma y_Ma_begin y_Ma_begin ∈ wA := kinp 34 (by decide +kernel) (by decide +kernel)
theorem kw_838 : Cond.initialized R_Ma ∈ wA := kinm (show _ ∈ tables_1 from (List.mem_append_left _ (List.mem_of_getElem? (l := tables_1_1) (i := 5) (by decide +kernel)))) (by decide +kernel)
theorem cv_Ma_begin : CV y_Ma_begin b_Ma_begin 2 none 1 := ⟨kw_836, kw_837, kw_838, k_Ma_begin, by decide +kernel⟩
theorem ct_Ma_begin {l : Launch} {P : PP} {q : PL} {s s' : S1} {l1 : Int32} (hp0 : prs s 148 l1) {r : Unit} (h : M_Ma_begin l1 s = some (r, s')) : Ct l y_Ma_begin b_Ma_begin 2 none 0 0 P q s [.ref (q.1 128 0), .ref (q.1 148 l1)] none q s' := by
  refine ct_of (by decide) (Nat.le_of_ble_eq_true rfl) fun X ls eP el g hR hl => ?_
  subst eP
  have hR : Rt X q ((r, s') : Unit × S1).2 none := hR
  have hl : lv_has ls 2 [(0, .ref (q.1 128 0)), (1, .ref (q.1 148 l1))] := hl
  generalize (r, s') = o at h hR
  unfold M_Ma_begin at h
  refine ww_aload_n (pc := 0) g.1 d_Ma_begin_0 rfl (lv_at hl 1 rfl) ?_
  refine ww_iconst (pc := 1) g.1 (v := 1) d_Ma_begin_1 (by decide) ?_
  refine ww_pI (pc := 2) g (k := 7) cl_Co hp0 (by decide) (Or.inl kw_833) rfl (f := 18951) rfl rfl rfl rfl d_Ma_begin_2 h fun s hs h => ?_
  have hp0 : prs s 148 l1 := prs_kI (r := 148) (k := 7) (by decide) hs hp0
  refine ww_aload_n (pc := 5) g.1 d_Ma_begin_5 rfl (lv_at hl 1 rfl) ?_
  refine ww_iconst (pc := 6) g.1 (v := 1) d_Ma_begin_6 (by decide) ?_
  refine ww_pI (pc := 7) g (k := 8) cl_Co hp0 (by decide) (Or.inl kw_834) rfl (f := 18952) rfl rfl rfl rfl d_Ma_begin_7 h fun s hs h => ?_
  have hp0 : prs s 148 l1 := prs_kI (r := 148) (k := 8) (by decide) hs hp0
  refine ww_aload_n (pc := 10) g.1 d_Ma_begin_10 rfl (lv_at hl 1 rfl) ?_
  refine ww_ldc2 (pc := 11) g (v := (-1)) kw_832 d_Ma_begin_11 ?_
  refine ww_pL (pc := 14) g (k := 9) cl_Co hp0 (by decide) (Or.inl kw_835) rfl (f := 18953) rfl rfl rfl rfl d_Ma_begin_14 h fun s hs h => ?_
  have hp0 : prs s 148 l1 := hs ▸ hp0
  exact ww_vretH (pc := 17) g h hR d_Ma_begin_17

abbrev b_Co_push : ByteArray := prog_4_method_3_code
def y_Co_push : MethodName := ⟨R_Co, "push", "(III)Z"⟩
abbrev w_Co_push : List Cond := .code y_Co_push b_Co_push 5 (some .boolean) :: wA
theorem k_Co_push : Cond.code y_Co_push b_Co_push 5 (some .boolean) ∈ wA := kinm (show _ ∈ tables_1 from (List.mem_append_right _ (List.mem_append_right _ (List.mem_append_right _ (List.mem_append_right _ (List.mem_append_right _ (List.mem_append_left _ (List.mem_of_getElem? (l := tables_1_6) (i := 216) (by decide +kernel))))))))) (by decide +kernel)
theorem d_Co_push_0 : decode b_Co_push 0 = .ok (.aload_n 0, 1) := by decide +kernel
theorem d_Co_push_1 : decode b_Co_push 1 = .ok (.getfield 30, 3) := by decide +kernel
theorem d_Co_push_4 : decode b_Co_push 4 = .ok (.sipush 200, 3) := by decide +kernel
theorem d_Co_push_7 : decode b_Co_push 7 = .ok (.if_icmp .ge 15, 3) := by decide +kernel
theorem d_Co_push_10 : decode b_Co_push 10 = .ok (.aload_n 0, 1) := by decide +kernel
theorem d_Co_push_11 : decode b_Co_push 11 = .ok (.getfield 33, 3) := by decide +kernel
theorem d_Co_push_14 : decode b_Co_push 14 = .ok (.iload_n 3, 1) := by decide +kernel
theorem d_Co_push_15 : decode b_Co_push 15 = .ok (.iadd, 1) := by decide +kernel
theorem d_Co_push_16 : decode b_Co_push 16 = .ok (.sipush 4000, 3) := by decide +kernel
theorem d_Co_push_19 : decode b_Co_push 19 = .ok (.if_icmp .le 5, 3) := by decide +kernel
theorem d_Co_push_22 : decode b_Co_push 22 = .ok (.iconst 0, 1) := by decide +kernel
theorem d_Co_push_23 : decode b_Co_push 23 = .ok (.ireturn, 1) := by decide +kernel
theorem d_Co_push_24 : decode b_Co_push 24 = .ok (.aload_n 0, 1) := by decide +kernel
theorem d_Co_push_25 : decode b_Co_push 25 = .ok (.getfield 21, 3) := by decide +kernel
theorem d_Co_push_28 : decode b_Co_push 28 = .ok (.aload_n 0, 1) := by decide +kernel
theorem d_Co_push_29 : decode b_Co_push 29 = .ok (.getfield 30, 3) := by decide +kernel
theorem d_Co_push_32 : decode b_Co_push 32 = .ok (.aaload, 1) := by decide +kernel
theorem d_Co_push_33 : decode b_Co_push 33 = .ok (.astore 4, 2) := by decide +kernel
theorem d_Co_push_35 : decode b_Co_push 35 = .ok (.aload 4, 2) := by decide +kernel
theorem d_Co_push_37 : decode b_Co_push 37 = .ok (.iload_n 1, 1) := by decide +kernel
theorem d_Co_push_38 : decode b_Co_push 38 = .ok (.putfield 56, 3) := by decide +kernel
theorem d_Co_push_41 : decode b_Co_push 41 = .ok (.aload 4, 2) := by decide +kernel
theorem d_Co_push_43 : decode b_Co_push 43 = .ok (.iload_n 2, 1) := by decide +kernel
theorem d_Co_push_44 : decode b_Co_push 44 = .ok (.putfield 59, 3) := by decide +kernel
theorem d_Co_push_47 : decode b_Co_push 47 = .ok (.aload 4, 2) := by decide +kernel
theorem d_Co_push_49 : decode b_Co_push 49 = .ok (.aload_n 0, 1) := by decide +kernel
theorem d_Co_push_50 : decode b_Co_push 50 = .ok (.getfield 33, 3) := by decide +kernel
theorem d_Co_push_53 : decode b_Co_push 53 = .ok (.putfield 61, 3) := by decide +kernel
theorem d_Co_push_56 : decode b_Co_push 56 = .ok (.aload 4, 2) := by decide +kernel
theorem d_Co_push_58 : decode b_Co_push 58 = .ok (.iconst 0, 1) := by decide +kernel
theorem d_Co_push_59 : decode b_Co_push 59 = .ok (.putfield 64, 3) := by decide +kernel
theorem d_Co_push_62 : decode b_Co_push 62 = .ok (.aload 4, 2) := by decide +kernel
theorem d_Co_push_64 : decode b_Co_push 64 = .ok (.iconst 0, 1) := by decide +kernel
theorem d_Co_push_65 : decode b_Co_push 65 = .ok (.putfield 67, 3) := by decide +kernel
theorem d_Co_push_68 : decode b_Co_push 68 = .ok (.aload 4, 2) := by decide +kernel
theorem d_Co_push_70 : decode b_Co_push 70 = .ok (.iconst 0, 1) := by decide +kernel
theorem d_Co_push_71 : decode b_Co_push 71 = .ok (.putfield 70, 3) := by decide +kernel
theorem d_Co_push_74 : decode b_Co_push 74 = .ok (.aload 4, 2) := by decide +kernel
theorem d_Co_push_76 : decode b_Co_push 76 = .ok (.lconst 0, 1) := by decide +kernel
theorem d_Co_push_77 : decode b_Co_push 77 = .ok (.putfield 73, 3) := by decide +kernel
theorem d_Co_push_80 : decode b_Co_push 80 = .ok (.aload_n 0, 1) := by decide +kernel
theorem d_Co_push_81 : decode b_Co_push 81 = .ok (.dup, 1) := by decide +kernel
theorem d_Co_push_82 : decode b_Co_push 82 = .ok (.getfield 33, 3) := by decide +kernel
theorem d_Co_push_85 : decode b_Co_push 85 = .ok (.iload_n 3, 1) := by decide +kernel
theorem d_Co_push_86 : decode b_Co_push 86 = .ok (.iadd, 1) := by decide +kernel
theorem d_Co_push_87 : decode b_Co_push 87 = .ok (.putfield 33, 3) := by decide +kernel
theorem d_Co_push_90 : decode b_Co_push 90 = .ok (.aload_n 0, 1) := by decide +kernel
theorem d_Co_push_91 : decode b_Co_push 91 = .ok (.dup, 1) := by decide +kernel
theorem d_Co_push_92 : decode b_Co_push 92 = .ok (.getfield 30, 3) := by decide +kernel
theorem d_Co_push_95 : decode b_Co_push 95 = .ok (.iconst 1, 1) := by decide +kernel
theorem d_Co_push_96 : decode b_Co_push 96 = .ok (.iadd, 1) := by decide +kernel
theorem d_Co_push_97 : decode b_Co_push 97 = .ok (.putfield 30, 3) := by decide +kernel
theorem d_Co_push_100 : decode b_Co_push 100 = .ok (.iconst 1, 1) := by decide +kernel
theorem d_Co_push_101 : decode b_Co_push 101 = .ok (.ireturn, 1) := by decide +kernel
theorem kw_839 : Cond.fieldLink R_Co 56 "LuaMachine$Frame" "what" "I" ∈ wA := kinm (show _ ∈ tables_1 from (List.mem_append_right _ (List.mem_append_right _ (List.mem_append_right _ (List.mem_append_right _ (List.mem_append_right _ (List.mem_append_left _ (List.mem_of_getElem? (l := tables_1_6) (i := 95) (by decide +kernel))))))))) (by decide +kernel)
theorem kw_840 : Cond.fieldLink R_Co 59 "LuaMachine$Frame" "function" "I" ∈ wA := kinm (show _ ∈ tables_1 from (List.mem_append_right _ (List.mem_append_right _ (List.mem_append_right _ (List.mem_append_right _ (List.mem_append_right _ (List.mem_append_left _ (List.mem_of_getElem? (l := tables_1_6) (i := 97) (by decide +kernel))))))))) (by decide +kernel)
theorem kw_841 : Cond.fieldLink R_Co 61 "LuaMachine$Frame" "base" "I" ∈ wA := kinm (show _ ∈ tables_1 from (List.mem_append_right _ (List.mem_append_right _ (List.mem_append_right _ (List.mem_append_right _ (List.mem_append_right _ (List.mem_append_left _ (List.mem_of_getElem? (l := tables_1_6) (i := 103) (by decide +kernel))))))))) (by decide +kernel)
theorem kw_842 : Cond.fieldLink R_Co 64 "LuaMachine$Frame" "extra" "I" ∈ wA := kinm (show _ ∈ tables_1 from (List.mem_append_right _ (List.mem_append_right _ (List.mem_append_right _ (List.mem_append_right _ (List.mem_append_right _ (List.mem_append_left _ (List.mem_of_getElem? (l := tables_1_6) (i := 105) (by decide +kernel))))))))) (by decide +kernel)
theorem kw_843 : Cond.fieldLink R_Co 67 "LuaMachine$Frame" "pc" "I" ∈ wA := kinm (show _ ∈ tables_1 from (List.mem_append_right _ (List.mem_append_right _ (List.mem_append_right _ (List.mem_append_right _ (List.mem_append_right _ (List.mem_append_left _ (List.mem_of_getElem? (l := tables_1_6) (i := 109) (by decide +kernel))))))))) (by decide +kernel)
theorem kw_844 : Cond.fieldLink R_Co 70 "LuaMachine$Frame" "joinedKind" "I" ∈ wA := kinm (show _ ∈ tables_1 from (List.mem_append_right _ (List.mem_append_right _ (List.mem_append_right _ (List.mem_append_right _ (List.mem_append_right _ (List.mem_append_left _ (List.mem_of_getElem? (l := tables_1_6) (i := 110) (by decide +kernel))))))))) (by decide +kernel)
theorem kw_845 : Cond.fieldLink R_Co 73 "LuaMachine$Frame" "joinedValue" "J" ∈ wA := kinm (show _ ∈ tables_1 from (List.mem_append_right _ (List.mem_append_right _ (List.mem_append_right _ (List.mem_append_right _ (List.mem_append_right _ (List.mem_append_left _ (List.mem_of_getElem? (l := tables_1_6) (i := 113) (by decide +kernel))))))))) (by decide +kernel)
theorem kw_846 : Cond.instanceMethod y_Co_push ∈ wA := kinm (show _ ∈ tables_1 from (List.mem_append_right _ (List.mem_append_right _ (List.mem_append_right _ (List.mem_append_right _ (List.mem_append_right _ (List.mem_append_left _ (List.mem_of_getElem? (l := tables_1_6) (i := 214) (by decide +kernel))))))))) (by decide +kernel)
theorem kw_847 : Cond.selects R_Co y_Co_push y_Co_push ∈ wA := kinm (show _ ∈ tables_1 from (List.mem_append_right _ (List.mem_append_right _ (List.mem_append_right _ (List.mem_append_right _ (List.mem_append_right _ (List.mem_append_left _ (List.mem_of_getElem? (l := tables_1_6) (i := 215) (by decide +kernel))))))))) (by decide +kernel)
theorem cv_Co_push : CV y_Co_push b_Co_push 5 (some .boolean) 3 := ⟨kw_846, kw_847, kw_821, k_Co_push, by decide +kernel⟩
theorem ct_Co_push {l : Launch} {P : PP} {q : PL} {s s' : S1} {l0 : Int32} {l1 : Int32} {l2 : Int32} {l3 : Int32} (hp0 : prs s 148 l0) {r : Int32} (h : M_Co_push l0 l1 l2 l3 s = some (r, s')) : Ct l y_Co_push b_Co_push 5 (some .boolean) 0 0 P q s [.ref (q.1 148 l0), .int l1, .int l2, .int l3] (some (.int r)) q s' := by
  refine ct_of (by decide) (Nat.le_of_ble_eq_true rfl) fun X ls eP el g hR hl => ?_
  subst eP
  have hR : Rt X q ((r, s') : Int32 × S1).2 (some (.int ((r, s') : Int32 × S1).1)) := hR
  have hl : lv_has ls 5 [(0, .ref (q.1 148 l0)), (1, .int l1), (2, .int l2), (3, .int l3)] := hl
  generalize (r, s') = o at h hR
  unfold M_Co_push at h
  refine ww_aload_n (pc := 0) g.1 d_Co_push_0 rfl (lv_at hl 0 rfl) ?_
  refine ww_gI (pc := 1) g (k := 4) cl_Co hp0 (by decide) (Or.inl kw_822) (f := 18948) rfl rfl d_Co_push_1 h fun v1 h => ?_
  refine ww_sipush (pc := 4) g.1 (v := 200) d_Co_push_4 (by decide) ?_
  refine ww_icmp_ge (pc := 7) (tgt := 22) g.1 d_Co_push_7 (by decide) h (fun c h => ?_) (fun c h => ?_)
  · refine ww_iconst (pc := 22) g.1 (v := 0) d_Co_push_22 (by decide) ?_
    exact ww_zretH (pc := 23) g h hR (Or.inl rfl) d_Co_push_23
  · refine ww_aload_n (pc := 10) g.1 d_Co_push_10 rfl (lv_at hl 0 rfl) ?_
    refine ww_gI (pc := 11) g (k := 5) cl_Co hp0 (by decide) (Or.inl kw_823) (f := 18949) rfl rfl d_Co_push_11 h fun v11 h => ?_
    refine ww_iload_n (pc := 14) g.1 d_Co_push_14 rfl (lv_at hl 3 rfl) ?_
    refine ww_iadd (pc := 15) g.1 d_Co_push_15 ?_
    refine ww_sipush (pc := 16) g.1 (v := 4000) d_Co_push_16 (by decide) ?_
    refine ww_icmp_le (pc := 19) (tgt := 24) g.1 d_Co_push_19 (by decide) h (fun c h => ?_) (fun c h => ?_)
    · refine ww_aload_n (pc := 24) g.1 d_Co_push_24 rfl (lv_at hl 0 rfl) ?_
      refine ww_gR (pc := 25) g (k := 2) cl_Co hp0 (by decide) (Or.inl kw_811) (f := 18946) (t := 151) rfl rfl rfl d_Co_push_25 ?_
      refine ww_kd fun kd25 => ?_
      have pk25 : prs s 151 l0 := (kd25 _ hp0).2.2.1
      refine ww_aload_n (pc := 28) g.1 d_Co_push_28 rfl (lv_at hl 0 rfl) ?_
      refine ww_gI (pc := 29) g (k := 4) cl_Co hp0 (by decide) (Or.inl kw_822) (f := 18948) rfl rfl d_Co_push_29 h fun v29 h => ?_
      refine ww_a9 (pc := 32) g (j := v29) hp0 d_Co_push_32 h fun pa32 h => ?_
      refine ww_astore (pc := 33) (i := 4) g.1 (lv' := [(4, .ref (q.1 152 (l0 * 200 + v29))), (0, .ref (q.1 148 l0)), (1, .int l1), (2, .int l2), (3, .int l3)]) d_Co_push_33 hl (by decide) rfl fun ls hl => ?_
      refine ww_aload (pc := 35) g.1 d_Co_push_35 (lv_at hl 0 rfl) ?_
      refine ww_iload_n (pc := 37) g.1 d_Co_push_37 rfl (lv_at hl 2 rfl) ?_
      refine ww_pI (pc := 38) g (k := 0) cl_Fm pa32 (by decide) (Or.inl kw_839) rfl (f := 19456) rfl rfl rfl rfl d_Co_push_38 h fun s hs h => ?_
      have pa32 : prs s 152 (l0 * 200 + v29) := prs_kI (r := 152) (k := 0) (by decide) hs pa32
      have hp0 : prs s 148 l0 := prs_kI (r := 152) (k := 0) (by decide) hs hp0
      refine ww_aload (pc := 41) g.1 d_Co_push_41 (lv_at hl 0 rfl) ?_
      refine ww_iload_n (pc := 43) g.1 d_Co_push_43 rfl (lv_at hl 3 rfl) ?_
      refine ww_pI (pc := 44) g (k := 1) cl_Fm pa32 (by decide) (Or.inl kw_840) rfl (f := 19457) rfl rfl rfl rfl d_Co_push_44 h fun s hs h => ?_
      have pa32 : prs s 152 (l0 * 200 + v29) := prs_kI (r := 152) (k := 1) (by decide) hs pa32
      have hp0 : prs s 148 l0 := prs_kI (r := 152) (k := 1) (by decide) hs hp0
      refine ww_aload (pc := 47) g.1 d_Co_push_47 (lv_at hl 0 rfl) ?_
      refine ww_aload_n (pc := 49) g.1 d_Co_push_49 rfl (lv_at hl 1 rfl) ?_
      refine ww_gI (pc := 50) g (k := 5) cl_Co hp0 (by decide) (Or.inl kw_823) (f := 18949) rfl rfl d_Co_push_50 h fun v50 h => ?_
      refine ww_pI (pc := 53) g (k := 3) cl_Fm pa32 (by decide) (Or.inl kw_841) rfl (f := 19459) rfl rfl rfl rfl d_Co_push_53 h fun s hs h => ?_
      have pa32 : prs s 152 (l0 * 200 + v29) := prs_kI (r := 152) (k := 3) (by decide) hs pa32
      have hp0 : prs s 148 l0 := prs_kI (r := 152) (k := 3) (by decide) hs hp0
      refine ww_aload (pc := 56) g.1 d_Co_push_56 (lv_at hl 0 rfl) ?_
      refine ww_iconst (pc := 58) g.1 (v := 0) d_Co_push_58 (by decide) ?_
      refine ww_pI (pc := 59) g (k := 4) cl_Fm pa32 (by decide) (Or.inl kw_842) rfl (f := 19460) rfl rfl rfl rfl d_Co_push_59 h fun s hs h => ?_
      have pa32 : prs s 152 (l0 * 200 + v29) := prs_kI (r := 152) (k := 4) (by decide) hs pa32
      have hp0 : prs s 148 l0 := prs_kI (r := 152) (k := 4) (by decide) hs hp0
      refine ww_aload (pc := 62) g.1 d_Co_push_62 (lv_at hl 0 rfl) ?_
      refine ww_iconst (pc := 64) g.1 (v := 0) d_Co_push_64 (by decide) ?_
      refine ww_pI (pc := 65) g (k := 5) cl_Fm pa32 (by decide) (Or.inl kw_843) rfl (f := 19461) rfl rfl rfl rfl d_Co_push_65 h fun s hs h => ?_
      have pa32 : prs s 152 (l0 * 200 + v29) := prs_kI (r := 152) (k := 5) (by decide) hs pa32
      have hp0 : prs s 148 l0 := prs_kI (r := 152) (k := 5) (by decide) hs hp0
      refine ww_aload (pc := 68) g.1 d_Co_push_68 (lv_at hl 0 rfl) ?_
      refine ww_iconst (pc := 70) g.1 (v := 0) d_Co_push_70 (by decide) ?_
      refine ww_pI (pc := 71) g (k := 6) cl_Fm pa32 (by decide) (Or.inl kw_844) rfl (f := 19462) rfl rfl rfl rfl d_Co_push_71 h fun s hs h => ?_
      have pa32 : prs s 152 (l0 * 200 + v29) := prs_kI (r := 152) (k := 6) (by decide) hs pa32
      have hp0 : prs s 148 l0 := prs_kI (r := 152) (k := 6) (by decide) hs hp0
      refine ww_aload (pc := 74) g.1 d_Co_push_74 (lv_at hl 0 rfl) ?_
      refine ww_lconst (pc := 76) g.1 (v := 0) d_Co_push_76 (by decide) ?_
      refine ww_pL (pc := 77) g (k := 7) cl_Fm pa32 (by decide) (Or.inl kw_845) rfl (f := 19463) rfl rfl rfl rfl d_Co_push_77 h fun s hs h => ?_
      have pa32 : prs s 152 (l0 * 200 + v29) := hs ▸ pa32
      have hp0 : prs s 148 l0 := hs ▸ hp0
      refine ww_aload_n (pc := 80) g.1 d_Co_push_80 rfl (lv_at hl 1 rfl) ?_
      refine ww_dup (pc := 81) g.1 d_Co_push_81 rfl ?_
      refine ww_gI (pc := 82) g (k := 5) cl_Co hp0 (by decide) (Or.inl kw_823) (f := 18949) rfl rfl d_Co_push_82 h fun v82 h => ?_
      refine ww_iload_n (pc := 85) g.1 d_Co_push_85 rfl (lv_at hl 4 rfl) ?_
      refine ww_iadd (pc := 86) g.1 d_Co_push_86 ?_
      refine ww_pI (pc := 87) g (k := 5) cl_Co hp0 (by decide) (Or.inl kw_823) rfl (f := 18949) rfl rfl rfl rfl d_Co_push_87 h fun s hs h => ?_
      have pa32 : prs s 152 (l0 * 200 + v29) := prs_kI (r := 148) (k := 5) (by decide) hs pa32
      have hp0 : prs s 148 l0 := prs_kI (r := 148) (k := 5) (by decide) hs hp0
      refine ww_aload_n (pc := 90) g.1 d_Co_push_90 rfl (lv_at hl 1 rfl) ?_
      refine ww_dup (pc := 91) g.1 d_Co_push_91 rfl ?_
      refine ww_gI (pc := 92) g (k := 4) cl_Co hp0 (by decide) (Or.inl kw_822) (f := 18948) rfl rfl d_Co_push_92 h fun v92 h => ?_
      refine ww_iconst (pc := 95) g.1 (v := 1) d_Co_push_95 (by decide) ?_
      refine ww_iadd (pc := 96) g.1 d_Co_push_96 ?_
      refine ww_pI (pc := 97) g (k := 4) cl_Co hp0 (by decide) (Or.inl kw_822) rfl (f := 18948) rfl rfl rfl rfl d_Co_push_97 h fun s hs h => ?_
      have pa32 : prs s 152 (l0 * 200 + v29) := prs_kI (r := 148) (k := 4) (by decide) hs pa32
      have hp0 : prs s 148 l0 := prs_kI (r := 148) (k := 4) (by decide) hs hp0
      refine ww_iconst (pc := 100) g.1 (v := 1) d_Co_push_100 (by decide) ?_
      exact ww_zretH (pc := 101) g h hR (Or.inr rfl) d_Co_push_101
    · refine ww_iconst (pc := 22) g.1 (v := 0) d_Co_push_22 (by decide) ?_
      exact ww_zretH (pc := 23) g h hR (Or.inl rfl) d_Co_push_23

abbrev b_Ma_raise : ByteArray := prog_7_method_9_code
def y_Ma_raise : MethodName := ⟨R_Ma, "raise", "(IJ)V"⟩
abbrev w_Ma_raise : List Cond := .code y_Ma_raise b_Ma_raise 4 none :: wA
theorem k_Ma_raise : Cond.code y_Ma_raise b_Ma_raise 4 none ∈ wA := kinm (show _ ∈ tables_1 from (List.mem_append_right _ (List.mem_append_right _ (List.mem_append_right _ (List.mem_append_right _ (List.mem_append_right _ (List.mem_append_left _ (List.mem_of_getElem? (l := tables_1_6) (i := 224) (by decide +kernel))))))))) (by decide +kernel)
theorem d_Ma_raise_0 : decode b_Ma_raise 0 = .ok (.aload_n 0, 1) := by decide +kernel
theorem d_Ma_raise_1 : decode b_Ma_raise 1 = .ok (.iload_n 1, 1) := by decide +kernel
theorem d_Ma_raise_2 : decode b_Ma_raise 2 = .ok (.putfield 204, 3) := by decide +kernel
theorem d_Ma_raise_5 : decode b_Ma_raise 5 = .ok (.aload_n 0, 1) := by decide +kernel
theorem d_Ma_raise_6 : decode b_Ma_raise 6 = .ok (.lload_n 2, 1) := by decide +kernel
theorem d_Ma_raise_7 : decode b_Ma_raise 7 = .ok (.putfield 207, 3) := by decide +kernel
theorem d_Ma_raise_10 : decode b_Ma_raise 10 = .ok (.aload_n 0, 1) := by decide +kernel
theorem d_Ma_raise_11 : decode b_Ma_raise 11 = .ok (.iconst 0, 1) := by decide +kernel
theorem d_Ma_raise_12 : decode b_Ma_raise 12 = .ok (.putfield 201, 3) := by decide +kernel
theorem d_Ma_raise_15 : decode b_Ma_raise 15 = .ok (.aload_n 0, 1) := by decide +kernel
theorem d_Ma_raise_16 : decode b_Ma_raise 16 = .ok (.iconst 5, 1) := by decide +kernel
theorem d_Ma_raise_17 : decode b_Ma_raise 17 = .ok (.putfield 61, 3) := by decide +kernel
theorem d_Ma_raise_20 : decode b_Ma_raise 20 = .ok (.return_, 1) := by decide +kernel
theorem kw_848 : Cond.fieldLink R_Ma 204 "LuaMachine$Machine" "errorKind" "I" ∈ wA := kinm (show _ ∈ tables_1 from (List.mem_append_right _ (List.mem_append_left _ (List.mem_of_getElem? (l := tables_1_2) (i := 94) (by decide +kernel))))) (by decide +kernel)
theorem kw_849 : Cond.fieldLink R_Ma 207 "LuaMachine$Machine" "errorValue" "J" ∈ wA := kinm (show _ ∈ tables_1 from (List.mem_append_right _ (List.mem_append_left _ (List.mem_of_getElem? (l := tables_1_2) (i := 95) (by decide +kernel))))) (by decide +kernel)
theorem kw_850 : Cond.fieldLink R_Ma 201 "LuaMachine$Machine" "fatal" "Z" ∈ wA := kinm (show _ ∈ tables_1 from (List.mem_append_right _ (List.mem_append_left _ (List.mem_of_getElem? (l := tables_1_2) (i := 96) (by decide +kernel))))) (by decide +kernel)
theorem kw_851 : Cond.fieldLink R_Ma 61 "LuaMachine$Machine" "turn" "I" ∈ wA := kinm (show _ ∈ tables_1 from (List.mem_append_right _ (List.mem_append_left _ (List.mem_of_getElem? (l := tables_1_2) (i := 85) (by decide +kernel))))) (by decide +kernel)
theorem kw_852 : Cond.instanceMethod y_Ma_raise ∈ wA := kinm (show _ ∈ tables_1 from (List.mem_append_right _ (List.mem_append_right _ (List.mem_append_right _ (List.mem_append_right _ (List.mem_append_right _ (List.mem_append_left _ (List.mem_of_getElem? (l := tables_1_6) (i := 222) (by decide +kernel))))))))) (by decide +kernel)
theorem kw_853 : Cond.selects R_Ma y_Ma_raise y_Ma_raise ∈ wA := kinm (show _ ∈ tables_1 from (List.mem_append_right _ (List.mem_append_right _ (List.mem_append_right _ (List.mem_append_right _ (List.mem_append_right _ (List.mem_append_left _ (List.mem_of_getElem? (l := tables_1_6) (i := 223) (by decide +kernel))))))))) (by decide +kernel)
theorem cv_Ma_raise : CV y_Ma_raise b_Ma_raise 4 none 2 := ⟨kw_852, kw_853, kw_838, k_Ma_raise, by decide +kernel⟩
theorem ct_Ma_raise {l : Launch} {P : PP} {q : PL} {s s' : S1} {l1 : Int32} {l2 : Int64} {r : Unit} (h : M_Ma_raise l1 l2 s = some (r, s')) : Ct l y_Ma_raise b_Ma_raise 4 none 0 0 P q s [.ref (q.1 128 0), .int l1, .long l2] none q s' := by
  refine ct_of (by decide) (Nat.le_of_ble_eq_true rfl) fun X ls eP el g hR hl => ?_
  subst eP
  have hR : Rt X q ((r, s') : Unit × S1).2 none := hR
  have hl : lv_has ls 4 [(0, .ref (q.1 128 0)), (1, .int l1), (2, .long l2)] := hl
  generalize (r, s') = o at h hR
  unfold M_Ma_raise at h
  refine ww_aload_n (pc := 0) g.1 d_Ma_raise_0 rfl (lv_at hl 0 rfl) ?_
  refine ww_iload_n (pc := 1) g.1 d_Ma_raise_1 rfl (lv_at hl 1 rfl) ?_
  refine ww_pI (pc := 2) g (k := 15) cl_Ma (pz rfl (by decide)) (by decide) (Or.inl kw_848) rfl (f := 16399) rfl rfl rfl rfl d_Ma_raise_2 h fun s hs h => ?_
  refine ww_aload_n (pc := 5) g.1 d_Ma_raise_5 rfl (lv_at hl 0 rfl) ?_
  refine ww_lload_n (pc := 6) g.1 d_Ma_raise_6 rfl (lv_at hl 2 rfl) ?_
  refine ww_pL (pc := 7) g (k := 16) cl_Ma (pz rfl (by decide)) (by decide) (Or.inl kw_849) rfl (f := 16400) rfl rfl rfl rfl d_Ma_raise_7 h fun s hs h => ?_
  refine ww_aload_n (pc := 10) g.1 d_Ma_raise_10 rfl (lv_at hl 0 rfl) ?_
  refine ww_iconst (pc := 11) g.1 (v := 0) d_Ma_raise_11 (by decide) ?_
  refine ww_pI (pc := 12) g (k := 17) cl_Ma (pz rfl (by decide)) (by decide) (Or.inl kw_850) rfl (f := 16401) rfl rfl rfl rfl d_Ma_raise_12 h fun s hs h => ?_
  refine ww_aload_n (pc := 15) g.1 d_Ma_raise_15 rfl (lv_at hl 0 rfl) ?_
  refine ww_iconst (pc := 16) g.1 (v := 5) d_Ma_raise_16 (by decide) ?_
  refine ww_pI (pc := 17) g (k := 12) cl_Ma (pz rfl (by decide)) (by decide) (Or.inl kw_851) rfl (f := 16396) rfl rfl rfl rfl d_Ma_raise_17 h fun s hs h => ?_
  exact ww_vretH (pc := 20) g h hR d_Ma_raise_20

abbrev b_Co_top : ByteArray := prog_4_method_4_code
def y_Co_top : MethodName := ⟨R_Co, "top", "()LLuaMachine$Frame;"⟩
abbrev w_Co_top : List Cond := .code y_Co_top b_Co_top 1 (some (.object "LuaMachine$Frame")) :: wA
theorem k_Co_top : Cond.code y_Co_top b_Co_top 1 (some (.object "LuaMachine$Frame")) ∈ wA := kinm (show _ ∈ tables_1 from (List.mem_append_right _ (List.mem_append_right _ (List.mem_append_right _ (List.mem_append_right _ (List.mem_append_right _ (List.mem_append_left _ (List.mem_of_getElem? (l := tables_1_6) (i := 228) (by decide +kernel))))))))) (by decide +kernel)
theorem d_Co_top_0 : decode b_Co_top 0 = .ok (.aload_n 0, 1) := by decide +kernel
theorem d_Co_top_1 : decode b_Co_top 1 = .ok (.getfield 21, 3) := by decide +kernel
theorem d_Co_top_4 : decode b_Co_top 4 = .ok (.aload_n 0, 1) := by decide +kernel
theorem d_Co_top_5 : decode b_Co_top 5 = .ok (.getfield 30, 3) := by decide +kernel
theorem d_Co_top_8 : decode b_Co_top 8 = .ok (.iconst 1, 1) := by decide +kernel
theorem d_Co_top_9 : decode b_Co_top 9 = .ok (.isub, 1) := by decide +kernel
theorem d_Co_top_10 : decode b_Co_top 10 = .ok (.aaload, 1) := by decide +kernel
theorem d_Co_top_11 : decode b_Co_top 11 = .ok (.areturn, 1) := by decide +kernel
theorem kw_854 : Cond.instanceMethod y_Co_top ∈ wA := kinm (show _ ∈ tables_1 from (List.mem_append_right _ (List.mem_append_right _ (List.mem_append_right _ (List.mem_append_right _ (List.mem_append_right _ (List.mem_append_left _ (List.mem_of_getElem? (l := tables_1_6) (i := 226) (by decide +kernel))))))))) (by decide +kernel)
theorem kw_855 : Cond.selects R_Co y_Co_top y_Co_top ∈ wA := kinm (show _ ∈ tables_1 from (List.mem_append_right _ (List.mem_append_right _ (List.mem_append_right _ (List.mem_append_right _ (List.mem_append_right _ (List.mem_append_left _ (List.mem_of_getElem? (l := tables_1_6) (i := 227) (by decide +kernel))))))))) (by decide +kernel)
theorem cv_Co_top : CV y_Co_top b_Co_top 1 (some (.object "LuaMachine$Frame")) 0 := ⟨kw_854, kw_855, kw_821, k_Co_top, by decide +kernel⟩
theorem ct_Co_top {l : Launch} {P : PP} {q : PL} {s s' : S1} {l0 : Int32} (hp0 : prs s 148 l0) {r : Int32} (h : M_Co_top l0 s = some (r, s')) : Ct l y_Co_top b_Co_top 1 (some (.object "LuaMachine$Frame")) 0 0 P q s [.ref (q.1 148 l0)] (some (.ref (q.1 152 r))) q s' := by
  refine ct_of (by decide) (Nat.le_of_ble_eq_true rfl) fun X ls eP el g hR hl => ?_
  subst eP
  have hR : Rt X q ((r, s') : Int32 × S1).2 (some (.ref (q.1 152 ((r, s') : Int32 × S1).1))) := hR
  have hl : lv_has ls 1 [(0, .ref (q.1 148 l0))] := hl
  generalize (r, s') = o at h hR
  unfold M_Co_top at h
  refine ww_aload_n (pc := 0) g.1 d_Co_top_0 rfl (lv_at hl 0 rfl) ?_
  refine ww_gR (pc := 1) g (k := 2) cl_Co hp0 (by decide) (Or.inl kw_811) (f := 18946) (t := 151) rfl rfl rfl d_Co_top_1 ?_
  refine ww_kd fun kd1 => ?_
  have pk1 : prs s 151 l0 := (kd1 _ hp0).2.2.1
  refine ww_aload_n (pc := 4) g.1 d_Co_top_4 rfl (lv_at hl 0 rfl) ?_
  refine ww_gI (pc := 5) g (k := 4) cl_Co hp0 (by decide) (Or.inl kw_822) (f := 18948) rfl rfl d_Co_top_5 h fun v5 h => ?_
  refine ww_iconst (pc := 8) g.1 (v := 1) d_Co_top_8 (by decide) ?_
  refine ww_isub (pc := 9) g.1 d_Co_top_9 ?_
  refine ww_a9 (pc := 10) g (j := (v5 - 1)) hp0 d_Co_top_10 h fun pa10 h => ?_
  exact ww_aretH (pc := 11) g rfl (by first | exact Or.inl ⟨_, rfl⟩ | exact Or.inr ⟨_, rfl⟩) h hR d_Co_top_11

abbrev b_LM_fault : ByteArray := prog_1_method_6_code
def y_LM_fault : MethodName := ⟨R_LM, "fault", "(I)I"⟩
abbrev w_LM_fault : List Cond := .code y_LM_fault b_LM_fault 2 (some .int) :: wA
theorem k_LM_fault : Cond.code y_LM_fault b_LM_fault 2 (some .int) ∈ wA := kinm (show _ ∈ tables_1 from (List.mem_append_right _ (List.mem_append_right _ (List.mem_append_right _ (List.mem_append_right _ (List.mem_append_right _ (List.mem_append_right _ (List.mem_append_left _ (List.mem_of_getElem? (l := tables_1_7) (i := 3) (by decide +kernel)))))))))) (by decide +kernel)
theorem d_LM_fault_0 : decode b_LM_fault 0 = .ok (.iload_n 1, 1) := by decide +kernel
theorem d_LM_fault_1 : decode b_LM_fault 1 = .ok (.ifCond .eq 16, 3) := by decide +kernel
theorem d_LM_fault_4 : decode b_LM_fault 4 = .ok (.iload_n 1, 1) := by decide +kernel
theorem d_LM_fault_5 : decode b_LM_fault 5 = .ok (.iconst 1, 1) := by decide +kernel
theorem d_LM_fault_6 : decode b_LM_fault 6 = .ok (.if_icmp .eq 11, 3) := by decide +kernel
theorem d_LM_fault_9 : decode b_LM_fault 9 = .ok (.new 74, 3) := by decide +kernel
theorem d_LM_fault_12 : decode b_LM_fault 12 = .ok (.dup, 1) := by decide +kernel
theorem d_LM_fault_13 : decode b_LM_fault 13 = .ok (.invokespecial 76, 3) := by decide +kernel
theorem d_LM_fault_16 : decode b_LM_fault 16 = .ok (.athrow, 1) := by decide +kernel
theorem d_LM_fault_17 : decode b_LM_fault 17 = .ok (.iload_n 1, 1) := by decide +kernel
theorem d_LM_fault_18 : decode b_LM_fault 18 = .ok (.ifCond .ne 13, 3) := by decide +kernel
theorem d_LM_fault_21 : decode b_LM_fault 21 = .ok (.aload_n 0, 1) := by decide +kernel
theorem d_LM_fault_22 : decode b_LM_fault 22 = .ok (.getfield 10, 3) := by decide +kernel
theorem d_LM_fault_25 : decode b_LM_fault 25 = .ok (.getfield 101, 3) := by decide +kernel
theorem d_LM_fault_28 : decode b_LM_fault 28 = .ok (.goto 10, 3) := by decide +kernel
theorem d_LM_fault_31 : decode b_LM_fault 31 = .ok (.aload_n 0, 1) := by decide +kernel
theorem d_LM_fault_32 : decode b_LM_fault 32 = .ok (.getfield 10, 3) := by decide +kernel
theorem d_LM_fault_35 : decode b_LM_fault 35 = .ok (.getfield 104, 3) := by decide +kernel
theorem d_LM_fault_38 : decode b_LM_fault 38 = .ok (.ireturn, 1) := by decide +kernel
theorem kw_856 : Cond.fieldLink R_LM 104 "LuaMachine$Chunk" "faultPlace" "I" ∈ wA := kinm (show _ ∈ tables_1 from (List.mem_append_left _ (List.mem_of_getElem? (l := tables_1_1) (i := 84) (by decide +kernel)))) (by decide +kernel)
theorem kw_857 : Cond.fieldLink R_LM 101 "LuaMachine$Chunk" "faultFound" "I" ∈ wA := kinm (show _ ∈ tables_1 from (List.mem_append_left _ (List.mem_of_getElem? (l := tables_1_1) (i := 82) (by decide +kernel)))) (by decide +kernel)
theorem kw_858 : Cond.instanceMethod y_LM_fault ∈ wA := kinm (show _ ∈ tables_1 from (List.mem_append_right _ (List.mem_append_right _ (List.mem_append_right _ (List.mem_append_right _ (List.mem_append_right _ (List.mem_append_right _ (List.mem_append_left _ (List.mem_of_getElem? (l := tables_1_7) (i := 1) (by decide +kernel)))))))))) (by decide +kernel)
theorem kw_859 : Cond.selects R_LM y_LM_fault y_LM_fault ∈ wA := kinm (show _ ∈ tables_1 from (List.mem_append_right _ (List.mem_append_right _ (List.mem_append_right _ (List.mem_append_right _ (List.mem_append_right _ (List.mem_append_right _ (List.mem_append_left _ (List.mem_of_getElem? (l := tables_1_7) (i := 2) (by decide +kernel)))))))))) (by decide +kernel)
theorem cv_LM_fault : CV y_LM_fault b_LM_fault 2 (some .int) 1 := ⟨kw_858, kw_859, kw_647, k_LM_fault, by decide +kernel⟩
theorem j_LM_fault_j17 {X : Cx} {q : PL} (g : Gd X y_LM_fault b_LM_fault 2 (some .int) 0 0 R_LM) {o : (Int32) × S1} (hR : Rt X q o.2 (some (.int o.1))) (l1 : Int32) (s : S1) (ls : Array Slot) (hl : lv_has ls 2 [(0, .ref (q.1 100 0)), (1, .int l1)]) (h : M_LM_fault_j17 l1 s = some o) : WW X q s 17 ls [] := by
  unfold M_LM_fault_j17 at h
  refine ww_iload_n (pc := 17) g.1 d_LM_fault_17 rfl (lv_at hl 1 rfl) ?_
  refine ww_if_ne (pc := 18) (tgt := 31) g.1 d_LM_fault_18 (by decide) h (fun c h => ?_) (fun c h => ?_)
  · refine ww_aload_n (pc := 31) g.1 d_LM_fault_31 rfl (lv_at hl 0 rfl) ?_
    refine ww_gR (pc := 32) g (k := 2) cl_LM (pz rfl (by decide)) (by decide) (Or.inl kw_648) (f := 12802) (t := 101) rfl rfl rfl d_LM_fault_32 ?_
    refine ww_gI (pc := 35) g (k := 16) cl_Ch (pz rfl (by decide)) (by decide) (Or.inl kw_856) (f := 12944) rfl rfl d_LM_fault_35 h fun v35 h => ?_
    exact ww_iretH (pc := 38) g h hR d_LM_fault_38
  · refine ww_aload_n (pc := 21) g.1 d_LM_fault_21 rfl (lv_at hl 0 rfl) ?_
    refine ww_gR (pc := 22) g (k := 2) cl_LM (pz rfl (by decide)) (by decide) (Or.inl kw_648) (f := 12802) (t := 101) rfl rfl rfl d_LM_fault_22 ?_
    refine ww_gI (pc := 25) g (k := 15) cl_Ch (pz rfl (by decide)) (by decide) (Or.inl kw_857) (f := 12943) rfl rfl d_LM_fault_25 h fun v25 h => ?_
    refine ww_goto (pc := 28) (tgt := 38) g.1 d_LM_fault_28 (by decide) ?_
    exact ww_iretH (pc := 38) g h hR d_LM_fault_38

theorem ct_LM_fault {l : Launch} {P : PP} {q : PL} {s s' : S1} {l1 : Int32} {r : Int32} (h : M_LM_fault l1 s = some (r, s')) : Ct l y_LM_fault b_LM_fault 2 (some .int) 0 0 P q s [.ref (q.1 100 0), .int l1] (some (.int r)) q s' := by
  refine ct_of (by decide) (Nat.le_of_ble_eq_true rfl) fun X ls eP el g hR hl => ?_
  subst eP
  have hR : Rt X q ((r, s') : Int32 × S1).2 (some (.int ((r, s') : Int32 × S1).1)) := hR
  have hl : lv_has ls 2 [(0, .ref (q.1 100 0)), (1, .int l1)] := hl
  generalize (r, s') = o at h hR
  unfold M_LM_fault at h
  refine ww_iload_n (pc := 0) g.1 d_LM_fault_0 rfl (lv_at hl 1 rfl) ?_
  refine ww_if_eq (pc := 1) (tgt := 17) g.1 d_LM_fault_1 (by decide) h (fun c h => ?_) (fun c h => ?_)
  · exact j_LM_fault_j17 g hR l1 s ls (lv_sub hl [0, 1] rfl) h
  · refine ww_iload_n (pc := 4) g.1 d_LM_fault_4 rfl (lv_at hl 1 rfl) ?_
    refine ww_iconst (pc := 5) g.1 (v := 1) d_LM_fault_5 (by decide) ?_
    refine ww_icmp_eq (pc := 6) (tgt := 17) g.1 d_LM_fault_6 (by decide) h (fun c h => ?_) (fun c h => ?_)
    · exact j_LM_fault_j17 g hR l1 s ls (lv_sub hl [0, 1] rfl) h
    · exact (oF_no h).elim

abbrev b_LM_limit : ByteArray := prog_1_method_7_code
def y_LM_limit : MethodName := ⟨R_LM, "limit", "(I)I"⟩
abbrev w_LM_limit : List Cond := .code y_LM_limit b_LM_limit 3 (some .int) :: wA
theorem k_LM_limit : Cond.code y_LM_limit b_LM_limit 3 (some .int) ∈ wA := kinm (show _ ∈ tables_1 from (List.mem_append_right _ (List.mem_append_right _ (List.mem_append_right _ (List.mem_append_right _ (List.mem_append_right _ (List.mem_append_right _ (List.mem_append_left _ (List.mem_of_getElem? (l := tables_1_7) (i := 10) (by decide +kernel)))))))))) (by decide +kernel)
theorem d_LM_limit_0 : decode b_LM_limit 0 = .ok (.iload_n 1, 1) := by decide +kernel
theorem d_LM_limit_1 : decode b_LM_limit 1 = .ok (.sipush 200, 3) := by decide +kernel
theorem d_LM_limit_4 : decode b_LM_limit 4 = .ok (.if_icmp .lt 10, 3) := by decide +kernel
theorem d_LM_limit_7 : decode b_LM_limit 7 = .ok (.iload_n 1, 1) := by decide +kernel
theorem d_LM_limit_8 : decode b_LM_limit 8 = .ok (.sipush 4000, 3) := by decide +kernel
theorem d_LM_limit_11 : decode b_LM_limit 11 = .ok (.if_icmp .le 11, 3) := by decide +kernel
theorem d_LM_limit_14 : decode b_LM_limit 14 = .ok (.new 74, 3) := by decide +kernel
theorem d_LM_limit_17 : decode b_LM_limit 17 = .ok (.dup, 1) := by decide +kernel
theorem d_LM_limit_18 : decode b_LM_limit 18 = .ok (.invokespecial 76, 3) := by decide +kernel
theorem d_LM_limit_21 : decode b_LM_limit 21 = .ok (.athrow, 1) := by decide +kernel
theorem d_LM_limit_22 : decode b_LM_limit 22 = .ok (.aload_n 0, 1) := by decide +kernel
theorem d_LM_limit_23 : decode b_LM_limit 23 = .ok (.getfield 19, 3) := by decide +kernel
theorem d_LM_limit_26 : decode b_LM_limit 26 = .ok (.getfield 107, 3) := by decide +kernel
theorem d_LM_limit_29 : decode b_LM_limit 29 = .ok (.istore_n 2, 1) := by decide +kernel
theorem d_LM_limit_30 : decode b_LM_limit 30 = .ok (.aload_n 0, 1) := by decide +kernel
theorem d_LM_limit_31 : decode b_LM_limit 31 = .ok (.getfield 19, 3) := by decide +kernel
theorem d_LM_limit_34 : decode b_LM_limit 34 = .ok (.iload_n 1, 1) := by decide +kernel
theorem d_LM_limit_35 : decode b_LM_limit 35 = .ok (.putfield 107, 3) := by decide +kernel
theorem d_LM_limit_38 : decode b_LM_limit 38 = .ok (.iload_n 2, 1) := by decide +kernel
theorem d_LM_limit_39 : decode b_LM_limit 39 = .ok (.ireturn, 1) := by decide +kernel
theorem kw_860 : Cond.fieldLink R_LM 107 "LuaMachine$Heap" "most" "I" ∈ wA := kinm (show _ ∈ tables_1 from (List.mem_append_left _ (List.mem_of_getElem? (l := tables_1_1) (i := 164) (by decide +kernel)))) (by decide +kernel)
theorem kw_861 : Cond.instanceMethod y_LM_limit ∈ wA := kinm (show _ ∈ tables_1 from (List.mem_append_right _ (List.mem_append_right _ (List.mem_append_right _ (List.mem_append_right _ (List.mem_append_right _ (List.mem_append_right _ (List.mem_append_left _ (List.mem_of_getElem? (l := tables_1_7) (i := 8) (by decide +kernel)))))))))) (by decide +kernel)
theorem kw_862 : Cond.selects R_LM y_LM_limit y_LM_limit ∈ wA := kinm (show _ ∈ tables_1 from (List.mem_append_right _ (List.mem_append_right _ (List.mem_append_right _ (List.mem_append_right _ (List.mem_append_right _ (List.mem_append_right _ (List.mem_append_left _ (List.mem_of_getElem? (l := tables_1_7) (i := 9) (by decide +kernel)))))))))) (by decide +kernel)
theorem cv_LM_limit : CV y_LM_limit b_LM_limit 3 (some .int) 1 := ⟨kw_861, kw_862, kw_647, k_LM_limit, by decide +kernel⟩
theorem ct_LM_limit {l : Launch} {P : PP} {q : PL} {s s' : S1} {l1 : Int32} {r : Int32} (h : M_LM_limit l1 s = some (r, s')) : Ct l y_LM_limit b_LM_limit 3 (some .int) 0 0 P q s [.ref (q.1 100 0), .int l1] (some (.int r)) q s' := by
  refine ct_of (by decide) (Nat.le_of_ble_eq_true rfl) fun X ls eP el g hR hl => ?_
  subst eP
  have hR : Rt X q ((r, s') : Int32 × S1).2 (some (.int ((r, s') : Int32 × S1).1)) := hR
  have hl : lv_has ls 3 [(0, .ref (q.1 100 0)), (1, .int l1)] := hl
  generalize (r, s') = o at h hR
  unfold M_LM_limit at h
  refine ww_iload_n (pc := 0) g.1 d_LM_limit_0 rfl (lv_at hl 1 rfl) ?_
  refine ww_sipush (pc := 1) g.1 (v := 200) d_LM_limit_1 (by decide) ?_
  refine ww_icmp_lt (pc := 4) (tgt := 14) g.1 d_LM_limit_4 (by decide) h (fun c h => ?_) (fun c h => ?_)
  · exact (oF_no h).elim
  · refine ww_iload_n (pc := 7) g.1 d_LM_limit_7 rfl (lv_at hl 1 rfl) ?_
    refine ww_sipush (pc := 8) g.1 (v := 4000) d_LM_limit_8 (by decide) ?_
    refine ww_icmp_le (pc := 11) (tgt := 22) g.1 d_LM_limit_11 (by decide) h (fun c h => ?_) (fun c h => ?_)
    · refine ww_aload_n (pc := 22) g.1 d_LM_limit_22 rfl (lv_at hl 0 rfl) ?_
      refine ww_gR (pc := 23) g (k := 3) cl_LM (pz rfl (by decide)) (by decide) (Or.inl kw_642) (f := 12803) (t := 111) rfl rfl rfl d_LM_limit_23 ?_
      refine ww_gI (pc := 26) g (k := 12) cl_He (pz rfl (by decide)) (by decide) (Or.inl kw_860) (f := 14220) rfl rfl d_LM_limit_26 h fun v26 h => ?_
      refine ww_istore_n (pc := 29) (i := 2) g.1 (lv' := [(2, .int v26), (0, .ref (q.1 100 0)), (1, .int l1)]) d_LM_limit_29 rfl hl (by decide) rfl fun ls hl => ?_
      refine ww_aload_n (pc := 30) g.1 d_LM_limit_30 rfl (lv_at hl 1 rfl) ?_
      refine ww_gR (pc := 31) g (k := 3) cl_LM (pz rfl (by decide)) (by decide) (Or.inl kw_642) (f := 12803) (t := 111) rfl rfl rfl d_LM_limit_31 ?_
      refine ww_iload_n (pc := 34) g.1 d_LM_limit_34 rfl (lv_at hl 2 rfl) ?_
      refine ww_pI (pc := 35) g (k := 12) cl_He (pz rfl (by decide)) (by decide) (Or.inl kw_860) rfl (f := 14220) rfl rfl rfl rfl d_LM_limit_35 h fun s hs h => ?_
      refine ww_iload_n (pc := 38) g.1 d_LM_limit_38 rfl (lv_at hl 0 rfl) ?_
      exact ww_iretH (pc := 39) g h hR d_LM_limit_39
    · exact (oF_no h).elim

abbrev b_St_decode : ByteArray := prog_10_method_3_code
def y_St_decode : MethodName := ⟨R_St, "decode", "()V"⟩
abbrev w_St_decode : List Cond := .code y_St_decode b_St_decode 2 none :: wA
theorem k_St_decode : Cond.code y_St_decode b_St_decode 2 none ∈ wA := kinm (show _ ∈ tables_1 from (List.mem_append_right _ (List.mem_append_right _ (List.mem_append_right _ (List.mem_append_right _ (List.mem_append_right _ (List.mem_append_right _ (List.mem_append_left _ (List.mem_of_getElem? (l := tables_1_7) (i := 27) (by decide +kernel)))))))))) (by decide +kernel)
theorem d_St_decode_0 : decode b_St_decode 0 = .ok (.aload_n 0, 1) := by decide +kernel
theorem d_St_decode_1 : decode b_St_decode 1 = .ok (.aload_n 0, 1) := by decide +kernel
theorem d_St_decode_2 : decode b_St_decode 2 = .ok (.getfield 9, 3) := by decide +kernel
theorem d_St_decode_5 : decode b_St_decode 5 = .ok (.getfield 36, 3) := by decide +kernel
theorem d_St_decode_8 : decode b_St_decode 8 = .ok (.putfield 110, 3) := by decide +kernel
theorem d_St_decode_11 : decode b_St_decode 11 = .ok (.aload_n 0, 1) := by decide +kernel
theorem d_St_decode_12 : decode b_St_decode 12 = .ok (.aload_n 0, 1) := by decide +kernel
theorem d_St_decode_13 : decode b_St_decode 13 = .ok (.getfield 110, 3) := by decide +kernel
theorem d_St_decode_16 : decode b_St_decode 16 = .ok (.invokevirtual 40, 3) := by decide +kernel
theorem d_St_decode_19 : decode b_St_decode 19 = .ok (.putfield 113, 3) := by decide +kernel
theorem d_St_decode_22 : decode b_St_decode 22 = .ok (.aload_n 0, 1) := by decide +kernel
theorem d_St_decode_23 : decode b_St_decode 23 = .ok (.aload_n 0, 1) := by decide +kernel
theorem d_St_decode_24 : decode b_St_decode 24 = .ok (.getfield 113, 3) := by decide +kernel
theorem d_St_decode_27 : decode b_St_decode 27 = .ok (.getfield 117, 3) := by decide +kernel
theorem d_St_decode_30 : decode b_St_decode 30 = .ok (.putfield 121, 3) := by decide +kernel
theorem d_St_decode_33 : decode b_St_decode 33 = .ok (.aload_n 0, 1) := by decide +kernel
theorem d_St_decode_34 : decode b_St_decode 34 = .ok (.aload_n 0, 1) := by decide +kernel
theorem d_St_decode_35 : decode b_St_decode 35 = .ok (.getfield 113, 3) := by decide +kernel
theorem d_St_decode_38 : decode b_St_decode 38 = .ok (.getfield 122, 3) := by decide +kernel
theorem d_St_decode_41 : decode b_St_decode 41 = .ok (.putfield 125, 3) := by decide +kernel
theorem d_St_decode_44 : decode b_St_decode 44 = .ok (.aload_n 0, 1) := by decide +kernel
theorem d_St_decode_45 : decode b_St_decode 45 = .ok (.getfield 31, 3) := by decide +kernel
theorem d_St_decode_48 : decode b_St_decode 48 = .ok (.getfield 126, 3) := by decide +kernel
theorem d_St_decode_51 : decode b_St_decode 51 = .ok (.aload_n 0, 1) := by decide +kernel
theorem d_St_decode_52 : decode b_St_decode 52 = .ok (.getfield 121, 3) := by decide +kernel
theorem d_St_decode_55 : decode b_St_decode 55 = .ok (.getfield 132, 3) := by decide +kernel
theorem d_St_decode_58 : decode b_St_decode 58 = .ok (.aload_n 0, 1) := by decide +kernel
theorem d_St_decode_59 : decode b_St_decode 59 = .ok (.getfield 113, 3) := by decide +kernel
theorem d_St_decode_62 : decode b_St_decode 62 = .ok (.getfield 46, 3) := by decide +kernel
theorem d_St_decode_65 : decode b_St_decode 65 = .ok (.iadd, 1) := by decide +kernel
theorem d_St_decode_66 : decode b_St_decode 66 = .ok (.iconst 1, 1) := by decide +kernel
theorem d_St_decode_67 : decode b_St_decode 67 = .ok (.isub, 1) := by decide +kernel
theorem d_St_decode_68 : decode b_St_decode 68 = .ok (.iaload, 1) := by decide +kernel
theorem d_St_decode_69 : decode b_St_decode 69 = .ok (.istore_n 1, 1) := by decide +kernel
theorem d_St_decode_70 : decode b_St_decode 70 = .ok (.aload_n 0, 1) := by decide +kernel
theorem d_St_decode_71 : decode b_St_decode 71 = .ok (.iload_n 1, 1) := by decide +kernel
theorem d_St_decode_72 : decode b_St_decode 72 = .ok (.bipush 63, 2) := by decide +kernel
theorem d_St_decode_74 : decode b_St_decode 74 = .ok (.iand, 1) := by decide +kernel
theorem d_St_decode_75 : decode b_St_decode 75 = .ok (.putfield 54, 3) := by decide +kernel
theorem d_St_decode_78 : decode b_St_decode 78 = .ok (.aload_n 0, 1) := by decide +kernel
theorem d_St_decode_79 : decode b_St_decode 79 = .ok (.iload_n 1, 1) := by decide +kernel
theorem d_St_decode_80 : decode b_St_decode 80 = .ok (.bipush 6, 2) := by decide +kernel
theorem d_St_decode_82 : decode b_St_decode 82 = .ok (.iushr, 1) := by decide +kernel
theorem d_St_decode_83 : decode b_St_decode 83 = .ok (.sipush 255, 3) := by decide +kernel
theorem d_St_decode_86 : decode b_St_decode 86 = .ok (.iand, 1) := by decide +kernel
theorem d_St_decode_87 : decode b_St_decode 87 = .ok (.putfield 57, 3) := by decide +kernel
theorem d_St_decode_90 : decode b_St_decode 90 = .ok (.aload_n 0, 1) := by decide +kernel
theorem d_St_decode_91 : decode b_St_decode 91 = .ok (.iload_n 1, 1) := by decide +kernel
theorem d_St_decode_92 : decode b_St_decode 92 = .ok (.bipush 23, 2) := by decide +kernel
theorem d_St_decode_94 : decode b_St_decode 94 = .ok (.iushr, 1) := by decide +kernel
theorem d_St_decode_95 : decode b_St_decode 95 = .ok (.putfield 137, 3) := by decide +kernel
theorem d_St_decode_98 : decode b_St_decode 98 = .ok (.aload_n 0, 1) := by decide +kernel
theorem d_St_decode_99 : decode b_St_decode 99 = .ok (.iload_n 1, 1) := by decide +kernel
theorem d_St_decode_100 : decode b_St_decode 100 = .ok (.bipush 14, 2) := by decide +kernel
theorem d_St_decode_102 : decode b_St_decode 102 = .ok (.iushr, 1) := by decide +kernel
theorem d_St_decode_103 : decode b_St_decode 103 = .ok (.sipush 511, 3) := by decide +kernel
theorem d_St_decode_106 : decode b_St_decode 106 = .ok (.iand, 1) := by decide +kernel
theorem d_St_decode_107 : decode b_St_decode 107 = .ok (.putfield 140, 3) := by decide +kernel
theorem d_St_decode_110 : decode b_St_decode 110 = .ok (.aload_n 0, 1) := by decide +kernel
theorem d_St_decode_111 : decode b_St_decode 111 = .ok (.iload_n 1, 1) := by decide +kernel
theorem d_St_decode_112 : decode b_St_decode 112 = .ok (.bipush 14, 2) := by decide +kernel
theorem d_St_decode_114 : decode b_St_decode 114 = .ok (.iushr, 1) := by decide +kernel
theorem d_St_decode_115 : decode b_St_decode 115 = .ok (.putfield 143, 3) := by decide +kernel
theorem d_St_decode_118 : decode b_St_decode 118 = .ok (.return_, 1) := by decide +kernel
theorem kw_863 : Cond.fieldLink R_St 9 "LuaMachine$Steps" "machine" "LLuaMachine$Machine;" ∈ wA := kinm (show _ ∈ tables_1 from (List.mem_append_right _ (List.mem_append_left _ (List.mem_of_getElem? (l := tables_1_2) (i := 140) (by decide +kernel))))) (by decide +kernel)
theorem kw_864 : Cond.fieldLink R_St 36 "LuaMachine$Machine" "current" "LLuaMachine$Coroutine;" ∈ wA := kinm (show _ ∈ tables_1 from (List.mem_append_right _ (List.mem_append_left _ (List.mem_of_getElem? (l := tables_1_2) (i := 79) (by decide +kernel))))) (by decide +kernel)
theorem kw_865 : Cond.fieldLink R_St 110 "LuaMachine$Steps" "coroutine" "LLuaMachine$Coroutine;" ∈ wA := kinm (show _ ∈ tables_1 from (List.mem_append_right _ (List.mem_append_left _ (List.mem_of_getElem? (l := tables_1_2) (i := 144) (by decide +kernel))))) (by decide +kernel)
theorem kw_866 : Cond.methodLink R_St 40 y_Co_top ∈ wA := kinm (show _ ∈ tables_1 from (List.mem_append_right _ (List.mem_append_right _ (List.mem_append_right _ (List.mem_append_right _ (List.mem_append_right _ (List.mem_append_right _ (List.mem_append_left _ (List.mem_of_getElem? (l := tables_1_7) (i := 23) (by decide +kernel)))))))))) (by decide +kernel)
theorem kw_867 : Cond.fieldLink R_St 113 "LuaMachine$Steps" "frame" "LLuaMachine$Frame;" ∈ wA := kinm (show _ ∈ tables_1 from (List.mem_append_right _ (List.mem_append_left _ (List.mem_of_getElem? (l := tables_1_2) (i := 145) (by decide +kernel))))) (by decide +kernel)
theorem kw_868 : Cond.fieldLink R_St 117 "LuaMachine$Frame" "prototype" "LLuaMachine$Prototype;" ∈ wA := kinm (show _ ∈ tables_1 from (List.mem_append_right _ (List.mem_append_right _ (List.mem_append_right _ (List.mem_append_right _ (List.mem_append_right _ (List.mem_append_left _ (List.mem_of_getElem? (l := tables_1_6) (i := 100) (by decide +kernel))))))))) (by decide +kernel)
theorem kw_869 : Cond.fieldLink R_St 121 "LuaMachine$Steps" "prototype" "LLuaMachine$Prototype;" ∈ wA := kinm (show _ ∈ tables_1 from (List.mem_append_right _ (List.mem_append_left _ (List.mem_of_getElem? (l := tables_1_2) (i := 146) (by decide +kernel))))) (by decide +kernel)
theorem kw_870 : Cond.fieldLink R_St 122 "LuaMachine$Frame" "base" "I" ∈ wA := kinm (show _ ∈ tables_1 from (List.mem_append_right _ (List.mem_append_right _ (List.mem_append_right _ (List.mem_append_right _ (List.mem_append_right _ (List.mem_append_left _ (List.mem_of_getElem? (l := tables_1_6) (i := 102) (by decide +kernel))))))))) (by decide +kernel)
theorem kw_871 : Cond.fieldLink R_St 125 "LuaMachine$Steps" "base" "I" ∈ wA := kinm (show _ ∈ tables_1 from (List.mem_append_right _ (List.mem_append_left _ (List.mem_of_getElem? (l := tables_1_2) (i := 147) (by decide +kernel))))) (by decide +kernel)
theorem kw_872 : Cond.fieldLink R_St 31 "LuaMachine$Steps" "chunk" "LLuaMachine$Chunk;" ∈ wA := kinm (show _ ∈ tables_1 from (List.mem_append_right _ (List.mem_append_left _ (List.mem_of_getElem? (l := tables_1_2) (i := 143) (by decide +kernel))))) (by decide +kernel)
theorem kw_873 : Cond.fieldLink R_St 126 "LuaMachine$Chunk" "code" "[I" ∈ wA := kinm (show _ ∈ tables_1 from (List.mem_append_left _ (List.mem_of_getElem? (l := tables_1_1) (i := 59) (by decide +kernel)))) (by decide +kernel)
theorem kw_874 : Cond.fieldLink R_St 132 "LuaMachine$Prototype" "codeStart" "I" ∈ wA := kinm (show _ ∈ tables_1 from (List.mem_append_right _ (List.mem_append_right _ (List.mem_append_left _ (List.mem_of_getElem? (l := tables_1_3) (i := 147) (by decide +kernel)))))) (by decide +kernel)
theorem kw_875 : Cond.fieldLink R_St 46 "LuaMachine$Frame" "pc" "I" ∈ wA := kinm (show _ ∈ tables_1 from (List.mem_append_right _ (List.mem_append_right _ (List.mem_append_right _ (List.mem_append_right _ (List.mem_append_right _ (List.mem_append_left _ (List.mem_of_getElem? (l := tables_1_6) (i := 108) (by decide +kernel))))))))) (by decide +kernel)
theorem kw_876 : Cond.fieldLink R_St 54 "LuaMachine$Steps" "operation" "I" ∈ wA := kinm (show _ ∈ tables_1 from (List.mem_append_right _ (List.mem_append_left _ (List.mem_of_getElem? (l := tables_1_2) (i := 148) (by decide +kernel))))) (by decide +kernel)
theorem kw_877 : Cond.fieldLink R_St 57 "LuaMachine$Steps" "a" "I" ∈ wA := kinm (show _ ∈ tables_1 from (List.mem_append_right _ (List.mem_append_left _ (List.mem_of_getElem? (l := tables_1_2) (i := 149) (by decide +kernel))))) (by decide +kernel)
theorem kw_878 : Cond.fieldLink R_St 137 "LuaMachine$Steps" "b" "I" ∈ wA := kinm (show _ ∈ tables_1 from (List.mem_append_right _ (List.mem_append_left _ (List.mem_of_getElem? (l := tables_1_2) (i := 150) (by decide +kernel))))) (by decide +kernel)
theorem kw_879 : Cond.fieldLink R_St 140 "LuaMachine$Steps" "c" "I" ∈ wA := kinm (show _ ∈ tables_1 from (List.mem_append_right _ (List.mem_append_left _ (List.mem_of_getElem? (l := tables_1_2) (i := 151) (by decide +kernel))))) (by decide +kernel)
theorem kw_880 : Cond.fieldLink R_St 143 "LuaMachine$Steps" "bx" "I" ∈ wA := kinm (show _ ∈ tables_1 from (List.mem_append_right _ (List.mem_append_left _ (List.mem_of_getElem? (l := tables_1_2) (i := 152) (by decide +kernel))))) (by decide +kernel)
theorem kw_881 : Cond.instanceMethod y_St_decode ∈ wA := kinm (show _ ∈ tables_1 from (List.mem_append_right _ (List.mem_append_right _ (List.mem_append_right _ (List.mem_append_right _ (List.mem_append_right _ (List.mem_append_right _ (List.mem_append_left _ (List.mem_of_getElem? (l := tables_1_7) (i := 26) (by decide +kernel)))))))))) (by decide +kernel)
theorem kw_882 : Cond.selects R_St y_St_decode y_St_decode ∈ wA := kinp 36 (by decide +kernel) (by decide +kernel)
theorem kw_883 : Cond.initialized R_St ∈ wA := kinm (show _ ∈ tables_1 from (List.mem_append_left _ (List.mem_of_getElem? (l := tables_1_1) (i := 7) (by decide +kernel)))) (by decide +kernel)
theorem cv_St_decode : CV y_St_decode b_St_decode 2 none 0 := ⟨kw_881, kw_882, kw_883, k_St_decode, by decide +kernel⟩
theorem ct_St_decode {l : Launch} {P : PP} {q : PL} {s s' : S1}  {r : Unit} (h : M_St_decode s = some (r, s')) : Ct l y_St_decode b_St_decode 2 none 1 20 P q s [.ref (q.1 129 0)] none q s' := by
  refine ct_of (by decide) (Nat.le_of_ble_eq_true rfl) fun X ls eP el g hR hl => ?_
  subst eP
  have hR : Rt X q ((r, s') : Unit × S1).2 none := hR
  have hl : lv_has ls 2 [(0, .ref (q.1 129 0))] := hl
  generalize (r, s') = o at h hR
  unfold M_St_decode at h
  refine ww_aload_n (pc := 0) g.1 d_St_decode_0 rfl (lv_at hl 0 rfl) ?_
  refine ww_aload_n (pc := 1) g.1 d_St_decode_1 rfl (lv_at hl 0 rfl) ?_
  refine ww_gR (pc := 2) g (k := 0) cl_St (pz rfl (by decide)) (by decide) (Or.inl kw_863) (f := 16512) (t := 128) rfl rfl rfl d_St_decode_2 ?_
  refine ww_gV (pc := 5) g (k := 11) cl_Ma (pz rfl (by decide)) (by decide) (Or.inl kw_864) (f := 16395) (t := 148) rfl rfl rfl d_St_decode_5 h fun v5 h => ?_
  refine ww_pr h fun pn5 h => ?_
  refine ww_nnP pn5 ?_
  refine ww_st (st' := [vr q 148 v5, .ref (q.1 129 0)]) (by rw [vr_prs pn5]) ?_
  refine ww_pV (pc := 8) g (k := 4) cl_St (pz rfl (by decide)) (by decide) (Or.inl kw_865) rfl (f := 16516) (t := 148) rfl rfl rfl rfl fits_vr d_St_decode_8 h fun s hs h => ?_
  refine ww_aload_n (pc := 11) g.1 d_St_decode_11 rfl (lv_at hl 0 rfl) ?_
  refine ww_aload_n (pc := 12) g.1 d_St_decode_12 rfl (lv_at hl 0 rfl) ?_
  refine ww_gV (pc := 13) g (k := 4) cl_St (pz rfl (by decide)) (by decide) (Or.inl kw_865) (f := 16516) (t := 148) rfl rfl rfl d_St_decode_13 h fun v13 h => ?_
  refine ww_pr h fun pn13 h => ?_
  refine ww_nnP pn13 ?_
  obtain ⟨v16, s, hc16, h⟩ := oB_of h
  refine ww_callV (pc := 16) (rest := [.ref (q.1 129 0)]) g cv_Co_top (Or.inl kw_866) cl_Co pn13 (ct_Co_top pn13 hc16) ⟨by decide, by decide⟩ rfl hl.1 (Nat.le_of_ble_eq_true rfl) d_St_decode_16 rfl (?_)
  refine ww_st (st' := [.ref (q.1 152 v16), .ref (q.1 129 0)]) rfl ?_
  refine ww_pr h fun pr16 h => ?_
  refine ww_st (st' := [vr q 152 v16, .ref (q.1 129 0)]) (by rw [vr_prs pr16]) ?_
  refine ww_pV (pc := 19) g (k := 5) cl_St (pz rfl (by decide)) (by decide) (Or.inl kw_867) rfl (f := 16517) (t := 152) rfl rfl rfl rfl fits_vr d_St_decode_19 h fun s hs h => ?_
  refine ww_aload_n (pc := 22) g.1 d_St_decode_22 rfl (lv_at hl 0 rfl) ?_
  refine ww_aload_n (pc := 23) g.1 d_St_decode_23 rfl (lv_at hl 0 rfl) ?_
  refine ww_gV (pc := 24) g (k := 5) cl_St (pz rfl (by decide)) (by decide) (Or.inl kw_867) (f := 16517) (t := 152) rfl rfl rfl d_St_decode_24 h fun v24 h => ?_
  refine ww_pr h fun pn24 h => ?_
  refine ww_nnP pn24 ?_
  refine ww_gV (pc := 27) g (k := 2) cl_Fm pn24 (by decide) (Or.inl kw_868) (f := 19458) (t := 144) rfl rfl rfl d_St_decode_27 h fun v27 h => ?_
  refine ww_pr h fun pn27 h => ?_
  refine ww_nnP pn27 ?_
  refine ww_st (st' := [vr q 144 v27, .ref (q.1 129 0)]) (by rw [vr_prs pn27]) ?_
  refine ww_pV (pc := 30) g (k := 6) cl_St (pz rfl (by decide)) (by decide) (Or.inl kw_869) rfl (f := 16518) (t := 144) rfl rfl rfl rfl fits_vr d_St_decode_30 h fun s hs h => ?_
  refine ww_aload_n (pc := 33) g.1 d_St_decode_33 rfl (lv_at hl 0 rfl) ?_
  refine ww_aload_n (pc := 34) g.1 d_St_decode_34 rfl (lv_at hl 0 rfl) ?_
  refine ww_gV (pc := 35) g (k := 5) cl_St (pz rfl (by decide)) (by decide) (Or.inl kw_867) (f := 16517) (t := 152) rfl rfl rfl d_St_decode_35 h fun v35 h => ?_
  refine ww_pr h fun pn35 h => ?_
  refine ww_nnP pn35 ?_
  refine ww_gI (pc := 38) g (k := 3) cl_Fm pn35 (by decide) (Or.inl kw_870) (f := 19459) rfl rfl d_St_decode_38 h fun v38 h => ?_
  refine ww_pI (pc := 41) g (k := 7) cl_St (pz rfl (by decide)) (by decide) (Or.inl kw_871) rfl (f := 16519) rfl rfl rfl rfl d_St_decode_41 h fun s hs h => ?_
  refine ww_aload_n (pc := 44) g.1 d_St_decode_44 rfl (lv_at hl 0 rfl) ?_
  refine ww_gR (pc := 45) g (k := 3) cl_St (pz rfl (by decide)) (by decide) (Or.inl kw_872) (f := 16515) (t := 101) rfl rfl rfl d_St_decode_45 ?_
  refine ww_gR (pc := 48) g (k := 2) cl_Ch (pz rfl (by decide)) (by decide) (Or.inl kw_873) (f := 12930) (t := 104) rfl rfl rfl d_St_decode_48 ?_
  refine ww_aload_n (pc := 51) g.1 d_St_decode_51 rfl (lv_at hl 0 rfl) ?_
  refine ww_gV (pc := 52) g (k := 6) cl_St (pz rfl (by decide)) (by decide) (Or.inl kw_869) (f := 16518) (t := 144) rfl rfl rfl d_St_decode_52 h fun v52 h => ?_
  refine ww_pr h fun pn52 h => ?_
  refine ww_nnP pn52 ?_
  refine ww_gI (pc := 55) g (k := 8) cl_Pr pn52 (by decide) (Or.inl kw_874) (f := 18440) rfl rfl d_St_decode_55 h fun v55 h => ?_
  refine ww_aload_n (pc := 58) g.1 d_St_decode_58 rfl (lv_at hl 0 rfl) ?_
  refine ww_gV (pc := 59) g (k := 5) cl_St (pz rfl (by decide)) (by decide) (Or.inl kw_867) (f := 16517) (t := 152) rfl rfl rfl d_St_decode_59 h fun v59 h => ?_
  refine ww_pr h fun pn59 h => ?_
  refine ww_nnP pn59 ?_
  refine ww_gI (pc := 62) g (k := 5) cl_Fm pn59 (by decide) (Or.inl kw_875) (f := 19461) rfl rfl d_St_decode_62 h fun v62 h => ?_
  refine ww_iadd (pc := 65) g.1 d_St_decode_65 ?_
  refine ww_iconst (pc := 66) g.1 (v := 1) d_St_decode_66 (by decide) ?_
  refine ww_isub (pc := 67) g.1 d_St_decode_67 ?_
  refine ww_ai (pc := 68) g (pz rfl (by decide)) rfl rfl d_St_decode_68 h fun v68 h => ?_
  refine ww_istore_n (pc := 69) (i := 1) g.1 (lv' := [(1, .int v68), (0, .ref (q.1 129 0))]) d_St_decode_69 rfl hl (by decide) rfl fun ls hl => ?_
  refine ww_aload_n (pc := 70) g.1 d_St_decode_70 rfl (lv_at hl 1 rfl) ?_
  refine ww_iload_n (pc := 71) g.1 d_St_decode_71 rfl (lv_at hl 0 rfl) ?_
  refine ww_bipush (pc := 72) g.1 (v := 63) d_St_decode_72 (by decide) ?_
  refine ww_iand (pc := 74) g.1 d_St_decode_74 ?_
  refine ww_pI (pc := 75) g (k := 8) cl_St (pz rfl (by decide)) (by decide) (Or.inl kw_876) rfl (f := 16520) rfl rfl rfl rfl d_St_decode_75 h fun s hs h => ?_
  refine ww_aload_n (pc := 78) g.1 d_St_decode_78 rfl (lv_at hl 1 rfl) ?_
  refine ww_iload_n (pc := 79) g.1 d_St_decode_79 rfl (lv_at hl 0 rfl) ?_
  refine ww_bipush (pc := 80) g.1 (v := 6) d_St_decode_80 (by decide) ?_
  refine ww_iushr (pc := 82) g.1 (v := iushr v68 (6 : Int32)) d_St_decode_82 rfl ?_
  refine ww_sipush (pc := 83) g.1 (v := 255) d_St_decode_83 (by decide) ?_
  refine ww_iand (pc := 86) g.1 d_St_decode_86 ?_
  refine ww_pI (pc := 87) g (k := 9) cl_St (pz rfl (by decide)) (by decide) (Or.inl kw_877) rfl (f := 16521) rfl rfl rfl rfl d_St_decode_87 h fun s hs h => ?_
  refine ww_aload_n (pc := 90) g.1 d_St_decode_90 rfl (lv_at hl 1 rfl) ?_
  refine ww_iload_n (pc := 91) g.1 d_St_decode_91 rfl (lv_at hl 0 rfl) ?_
  refine ww_bipush (pc := 92) g.1 (v := 23) d_St_decode_92 (by decide) ?_
  refine ww_iushr (pc := 94) g.1 (v := iushr v68 (23 : Int32)) d_St_decode_94 rfl ?_
  refine ww_pI (pc := 95) g (k := 10) cl_St (pz rfl (by decide)) (by decide) (Or.inl kw_878) rfl (f := 16522) rfl rfl rfl rfl d_St_decode_95 h fun s hs h => ?_
  refine ww_aload_n (pc := 98) g.1 d_St_decode_98 rfl (lv_at hl 1 rfl) ?_
  refine ww_iload_n (pc := 99) g.1 d_St_decode_99 rfl (lv_at hl 0 rfl) ?_
  refine ww_bipush (pc := 100) g.1 (v := 14) d_St_decode_100 (by decide) ?_
  refine ww_iushr (pc := 102) g.1 (v := iushr v68 (14 : Int32)) d_St_decode_102 rfl ?_
  refine ww_sipush (pc := 103) g.1 (v := 511) d_St_decode_103 (by decide) ?_
  refine ww_iand (pc := 106) g.1 d_St_decode_106 ?_
  refine ww_pI (pc := 107) g (k := 11) cl_St (pz rfl (by decide)) (by decide) (Or.inl kw_879) rfl (f := 16523) rfl rfl rfl rfl d_St_decode_107 h fun s hs h => ?_
  refine ww_aload_n (pc := 110) g.1 d_St_decode_110 rfl (lv_at hl 1 rfl) ?_
  refine ww_iload_n (pc := 111) g.1 d_St_decode_111 rfl (lv_at hl 0 rfl) ?_
  refine ww_bipush (pc := 112) g.1 (v := 14) d_St_decode_112 (by decide) ?_
  refine ww_iushr (pc := 114) g.1 (v := iushr v68 (14 : Int32)) d_St_decode_114 rfl ?_
  refine ww_pI (pc := 115) g (k := 12) cl_St (pz rfl (by decide)) (by decide) (Or.inl kw_880) rfl (f := 16524) rfl rfl rfl rfl d_St_decode_115 h fun s hs h => ?_
  exact ww_vretH (pc := 118) g h hR d_St_decode_118

abbrev b_St_upvalue : ByteArray := prog_10_method_8_code
def y_St_upvalue : MethodName := ⟨R_St, "upvalue", "(I)I"⟩
abbrev w_St_upvalue : List Cond := .code y_St_upvalue b_St_upvalue 2 (some .int) :: wA
theorem k_St_upvalue : Cond.code y_St_upvalue b_St_upvalue 2 (some .int) ∈ wA := kinm (show _ ∈ tables_1 from (List.mem_append_right _ (List.mem_append_right _ (List.mem_append_right _ (List.mem_append_right _ (List.mem_append_right _ (List.mem_append_right _ (List.mem_append_left _ (List.mem_of_getElem? (l := tables_1_7) (i := 31) (by decide +kernel)))))))))) (by decide +kernel)
theorem d_St_upvalue_0 : decode b_St_upvalue 0 = .ok (.aload_n 0, 1) := by decide +kernel
theorem d_St_upvalue_1 : decode b_St_upvalue 1 = .ok (.getfield 21, 3) := by decide +kernel
theorem d_St_upvalue_4 : decode b_St_upvalue 4 = .ok (.getfield 163, 3) := by decide +kernel
theorem d_St_upvalue_7 : decode b_St_upvalue 7 = .ok (.aload_n 0, 1) := by decide +kernel
theorem d_St_upvalue_8 : decode b_St_upvalue 8 = .ok (.getfield 113, 3) := by decide +kernel
theorem d_St_upvalue_11 : decode b_St_upvalue 11 = .ok (.getfield 167, 3) := by decide +kernel
theorem d_St_upvalue_14 : decode b_St_upvalue 14 = .ok (.aaload, 1) := by decide +kernel
theorem d_St_upvalue_15 : decode b_St_upvalue 15 = .ok (.getfield 170, 3) := by decide +kernel
theorem d_St_upvalue_18 : decode b_St_upvalue 18 = .ok (.iload_n 1, 1) := by decide +kernel
theorem d_St_upvalue_19 : decode b_St_upvalue 19 = .ok (.iaload, 1) := by decide +kernel
theorem d_St_upvalue_20 : decode b_St_upvalue 20 = .ok (.ireturn, 1) := by decide +kernel
theorem kw_884 : Cond.fieldLink R_St 21 "LuaMachine$Steps" "heap" "LLuaMachine$Heap;" ∈ wA := kinm (show _ ∈ tables_1 from (List.mem_append_right _ (List.mem_append_left _ (List.mem_of_getElem? (l := tables_1_2) (i := 141) (by decide +kernel))))) (by decide +kernel)
theorem kw_885 : Cond.fieldLink R_St 163 "LuaMachine$Heap" "things" "[LLuaMachine$Thing;" ∈ wA := kinm (show _ ∈ tables_1 from (List.mem_append_left _ (List.mem_of_getElem? (l := tables_1_1) (i := 137) (by decide +kernel)))) (by decide +kernel)
theorem kw_886 : Cond.fieldLink R_St 167 "LuaMachine$Frame" "function" "I" ∈ wA := kinm (show _ ∈ tables_1 from (List.mem_append_right _ (List.mem_append_right _ (List.mem_append_right _ (List.mem_append_right _ (List.mem_append_right _ (List.mem_append_left _ (List.mem_of_getElem? (l := tables_1_6) (i := 98) (by decide +kernel))))))))) (by decide +kernel)
theorem kw_887 : Cond.fieldLink R_St 170 "LuaMachine$Thing" "upvalues" "[I" ∈ wA := kinm (show _ ∈ tables_1 from (List.mem_append_right _ (List.mem_append_right _ (List.mem_append_right _ (List.mem_append_right _ (List.mem_append_left _ (List.mem_of_getElem? (l := tables_1_5) (i := 191) (by decide +kernel)))))))) (by decide +kernel)
theorem kw_888 : Cond.instanceMethod y_St_upvalue ∈ wA := kinm (show _ ∈ tables_1 from (List.mem_append_right _ (List.mem_append_right _ (List.mem_append_right _ (List.mem_append_right _ (List.mem_append_right _ (List.mem_append_right _ (List.mem_append_left _ (List.mem_of_getElem? (l := tables_1_7) (i := 30) (by decide +kernel)))))))))) (by decide +kernel)
theorem kw_889 : Cond.selects R_St y_St_upvalue y_St_upvalue ∈ wA := kinp 37 (by decide +kernel) (by decide +kernel)
theorem cv_St_upvalue : CV y_St_upvalue b_St_upvalue 2 (some .int) 1 := ⟨kw_888, kw_889, kw_883, k_St_upvalue, by decide +kernel⟩
theorem ct_St_upvalue {l : Launch} {P : PP} {q : PL} {s s' : S1} {l1 : Int32} {r : Int32} (h : M_St_upvalue l1 s = some (r, s')) : Ct l y_St_upvalue b_St_upvalue 2 (some .int) 0 0 P q s [.ref (q.1 129 0), .int l1] (some (.int r)) q s' := by
  refine ct_of (by decide) (Nat.le_of_ble_eq_true rfl) fun X ls eP el g hR hl => ?_
  subst eP
  have hR : Rt X q ((r, s') : Int32 × S1).2 (some (.int ((r, s') : Int32 × S1).1)) := hR
  have hl : lv_has ls 2 [(0, .ref (q.1 129 0)), (1, .int l1)] := hl
  generalize (r, s') = o at h hR
  unfold M_St_upvalue at h
  refine ww_aload_n (pc := 0) g.1 d_St_upvalue_0 rfl (lv_at hl 0 rfl) ?_
  refine ww_gR (pc := 1) g (k := 1) cl_St (pz rfl (by decide)) (by decide) (Or.inl kw_884) (f := 16513) (t := 111) rfl rfl rfl d_St_upvalue_1 ?_
  refine ww_gR (pc := 4) g (k := 0) cl_He (pz rfl (by decide)) (by decide) (Or.inl kw_885) (f := 14208) (t := 112) rfl rfl rfl d_St_upvalue_4 ?_
  refine ww_aload_n (pc := 7) g.1 d_St_upvalue_7 rfl (lv_at hl 0 rfl) ?_
  refine ww_gV (pc := 8) g (k := 5) cl_St (pz rfl (by decide)) (by decide) (Or.inl kw_867) (f := 16517) (t := 152) rfl rfl rfl d_St_upvalue_8 h fun v8 h => ?_
  refine ww_pr h fun pn8 h => ?_
  refine ww_nnP pn8 ?_
  refine ww_gI (pc := 11) g (k := 1) cl_Fm pn8 (by decide) (Or.inl kw_886) (f := 19457) rfl rfl d_St_upvalue_11 h fun v11 h => ?_
  refine ww_a8 (pc := 14) g (t := 145) (n := 4000) (pz rfl (by decide)) rfl rfl rfl rfl d_St_upvalue_14 h fun pa14 h => ?_
  refine ww_g5 (pc := 15) g (k := 10) cl_Tg pa14 (by decide) (Or.inl kw_887) (f := 18570) (t := 147) (f2 := 18943) rfl rfl rfl rfl d_St_upvalue_15 h fun v15 hv15 h => ?_
  refine ww_ok h fun cv15 h => ?_
  refine ww_dn cv15 ?_
  have pd15 : prs s 147 v11 := pdn (hv15 ▸ cv15) pa14.2.1 pa14.2.2
  refine ww_iload_n (pc := 18) g.1 d_St_upvalue_18 rfl (lv_at hl 1 rfl) ?_
  refine ww_ln pd15 h fun n19 hmn19 hnn19 h => ?_
  refine ww_ai (pc := 19) g pd15 rfl hnn19 d_St_upvalue_19 h fun v19 h => ?_
  exact ww_iretH (pc := 20) g h hR d_St_upvalue_20


