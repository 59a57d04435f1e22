abbrev b_LM_collect : ByteArray := prog_1_method_9_code
def y_LM_collect : MethodName := ⟨R_LM, "collect", "()I"⟩
abbrev w_LM_collect : List Cond := .code y_LM_collect b_LM_collect 1 (some .int) :: wA
theorem k_LM_collect : Cond.code y_LM_collect b_LM_collect 1 (some .int) ∈ wA := kinm (show _ ∈ tables_1 from (List.mem_append_right _ (List.mem_append_right _ (List.mem_append_right _ (List.mem_append_right _ (List.mem_append_right _ (List.mem_append_right _ (List.mem_append_right _ (List.mem_append_right _ (List.mem_append_left _ (List.mem_of_getElem? (l := tables_1_9) (i := 58) (by decide +kernel)))))))))))) (by decide +kernel)
theorem d_LM_collect_0 : decode b_LM_collect 0 = .ok (.aload_n 0, 1) := by decide +kernel
theorem d_LM_collect_1 : decode b_LM_collect 1 = .ok (.getfield 77, 3) := by decide +kernel
theorem d_LM_collect_4 : decode b_LM_collect 4 = .ok (.ifCond .ne 11, 3) := by decide +kernel
theorem d_LM_collect_7 : decode b_LM_collect 7 = .ok (.new 63, 3) := by decide +kernel
theorem d_LM_collect_10 : decode b_LM_collect 10 = .ok (.dup, 1) := by decide +kernel
theorem d_LM_collect_11 : decode b_LM_collect 11 = .ok (.invokespecial 65, 3) := by decide +kernel
theorem d_LM_collect_14 : decode b_LM_collect 14 = .ok (.athrow, 1) := by decide +kernel
theorem d_LM_collect_15 : decode b_LM_collect 15 = .ok (.aload_n 0, 1) := by decide +kernel
theorem d_LM_collect_16 : decode b_LM_collect 16 = .ok (.getfield 19, 3) := by decide +kernel
theorem d_LM_collect_19 : decode b_LM_collect 19 = .ok (.invokevirtual 139, 3) := by decide +kernel
theorem d_LM_collect_22 : decode b_LM_collect 22 = .ok (.aload_n 0, 1) := by decide +kernel
theorem d_LM_collect_23 : decode b_LM_collect 23 = .ok (.getfield 19, 3) := by decide +kernel
theorem d_LM_collect_26 : decode b_LM_collect 26 = .ok (.getfield 142, 3) := by decide +kernel
theorem d_LM_collect_29 : decode b_LM_collect 29 = .ok (.iconst 3, 1) := by decide +kernel
theorem d_LM_collect_30 : decode b_LM_collect 30 = .ok (.iaload, 1) := by decide +kernel
theorem d_LM_collect_31 : decode b_LM_collect 31 = .ok (.ireturn, 1) := by decide +kernel
theorem kw_1334 : Cond.methodLink R_LM 139 y_He_clean ∈ wA := kinm (show _ ∈ tables_1 from (List.mem_append_right _ (List.mem_append_right _ (List.mem_append_right _ (List.mem_append_right _ (List.mem_append_right _ (List.mem_append_right _ (List.mem_append_right _ (List.mem_append_right _ (List.mem_append_left _ (List.mem_of_getElem? (l := tables_1_9) (i := 59) (by decide +kernel)))))))))))) (by decide +kernel)
theorem kw_1335 : Cond.instanceMethod y_LM_collect ∈ wA := kinm (show _ ∈ tables_1 from (List.mem_append_right _ (List.mem_append_right _ (List.mem_append_right _ (List.mem_append_right _ (List.mem_append_right _ (List.mem_append_right _ (List.mem_append_right _ (List.mem_append_right _ (List.mem_append_left _ (List.mem_of_getElem? (l := tables_1_9) (i := 56) (by decide +kernel)))))))))))) (by decide +kernel)
theorem kw_1336 : Cond.selects R_LM y_LM_collect y_LM_collect ∈ wA := kinm (show _ ∈ tables_1 from (List.mem_append_right _ (List.mem_append_right _ (List.mem_append_right _ (List.mem_append_right _ (List.mem_append_right _ (List.mem_append_right _ (List.mem_append_right _ (List.mem_append_right _ (List.mem_append_left _ (List.mem_of_getElem? (l := tables_1_9) (i := 57) (by decide +kernel)))))))))))) (by decide +kernel)
theorem cv_LM_collect : CV y_LM_collect b_LM_collect 1 (some .int) 0 := ⟨kw_1335, kw_1336, kw_647, k_LM_collect, by decide +kernel⟩
theorem ct_LM_collect {l : Launch} {P : PP} {q : PL} {s s' : S1}  {r : Int32} (h : M_LM_collect s = some (r, s')) : Ct l y_LM_collect b_LM_collect 1 (some .int) 3 72 P q s [.ref (q.1 100 0)] (some (.int r)) q s' := by
  refine ct_of (by decide) (Nat.le_of_ble_eq_true rfl) fun X ls eP el g hR hl => ?_
  subst eP
  have hR : Rt X q ((r, s') : Int32 × S1).2 (some (.int ((r, s') : Int32 × S1).1)) := hR
  have hl : lv_has ls 1 [(0, .ref (q.1 100 0))] := hl
  generalize (r, s') = o at h hR
  unfold M_LM_collect at h
  refine ww_aload_n (pc := 0) g.1 d_LM_collect_0 rfl (lv_at hl 0 rfl) ?_
  refine ww_gI (pc := 1) g (k := 1) cl_LM (pz rfl (by decide)) (by decide) (Or.inl kw_632) (f := 12801) rfl rfl d_LM_collect_1 h fun v1 h => ?_
  refine ww_if_ne (pc := 4) (tgt := 15) g.1 d_LM_collect_4 (by decide) h (fun c h => ?_) (fun c h => ?_)
  · refine ww_aload_n (pc := 15) g.1 d_LM_collect_15 rfl (lv_at hl 0 rfl) ?_
    refine ww_gR (pc := 16) g (k := 3) cl_LM (pz rfl (by decide)) (by decide) (Or.inl kw_642) (f := 12803) (t := 111) rfl rfl rfl d_LM_collect_16 ?_
    obtain ⟨v19, s, hc19, h⟩ := oB_of h
    refine ww_callV (pc := 19) (rest := []) g cv_He_clean (Or.inl kw_1334) cl_He (pz rfl (by decide)) (ct_He_clean hc19) ⟨by decide, by decide⟩ rfl hl.1 (Nat.le_of_ble_eq_true rfl) d_LM_collect_19 rfl (?_)
    refine ww_st (st' := []) rfl ?_
    refine ww_aload_n (pc := 22) g.1 d_LM_collect_22 rfl (lv_at hl 0 rfl) ?_
    refine ww_gR (pc := 23) g (k := 3) cl_LM (pz rfl (by decide)) (by decide) (Or.inl kw_642) (f := 12803) (t := 111) rfl rfl rfl d_LM_collect_23 ?_
    refine ww_gR (pc := 26) g (k := 4) cl_He (pz rfl (by decide)) (by decide) (Or.inl kw_643) (f := 14212) (t := 114) rfl rfl rfl d_LM_collect_26 ?_
    refine ww_iconst (pc := 29) g.1 (v := 3) d_LM_collect_29 (by decide) ?_
    refine ww_ai (pc := 30) g (pz rfl (by decide)) rfl rfl d_LM_collect_30 h fun v30 h => ?_
    exact ww_iretH (pc := 31) g h hR d_LM_collect_31
  · exact (oF_no h).elim

abbrev b_Ch_readAll : ByteArray := prog_3_method_2_code
def y_Ch_readAll : MethodName := ⟨R_Ch, "readAll", "(I)Z"⟩
abbrev w_Ch_readAll : List Cond := .code y_Ch_readAll b_Ch_readAll 4 (some .boolean) :: wA
set_option maxRecDepth 20000 in
theorem k_Ch_readAll : Cond.code y_Ch_readAll b_Ch_readAll 4 (some .boolean) ∈ wA := kinm (show _ ∈ tables_1 from (List.mem_append_right _ (List.mem_append_right _ (List.mem_append_left _ (List.mem_of_getElem? (l := tables_1_3) (i := 109) rfl))))) rfl
theorem d_Ch_readAll_0 : decode b_Ch_readAll 0 = .ok (.aload_n 0, 1) := by decide +kernel
theorem d_Ch_readAll_1 : decode b_Ch_readAll 1 = .ok (.iload_n 1, 1) := by decide +kernel
theorem d_Ch_readAll_2 : decode b_Ch_readAll 2 = .ok (.invokevirtual 49, 3) := by decide +kernel
theorem d_Ch_readAll_5 : decode b_Ch_readAll 5 = .ok (.iconst 0, 1) := by decide +kernel
theorem d_Ch_readAll_6 : decode b_Ch_readAll 6 = .ok (.istore_n 2, 1) := by decide +kernel
theorem d_Ch_readAll_7 : decode b_Ch_readAll 7 = .ok (.iconst 0, 1) := by decide +kernel
theorem d_Ch_readAll_8 : decode b_Ch_readAll 8 = .ok (.istore_n 3, 1) := by decide +kernel
theorem d_Ch_readAll_9 : decode b_Ch_readAll 9 = .ok (.iload_n 3, 1) := by decide +kernel
theorem d_Ch_readAll_10 : decode b_Ch_readAll 10 = .ok (.sipush 250, 3) := by decide +kernel
theorem d_Ch_readAll_13 : decode b_Ch_readAll 13 = .ok (.if_icmp .gt 142, 3) := by decide +kernel
theorem d_Ch_readAll_16 : decode b_Ch_readAll 16 = .ok (.aload_n 0, 1) := by decide +kernel
theorem d_Ch_readAll_17 : decode b_Ch_readAll 17 = .ok (.iload_n 2, 1) := by decide +kernel
theorem d_Ch_readAll_18 : decode b_Ch_readAll 18 = .ok (.invokevirtual 53, 3) := by decide +kernel
theorem d_Ch_readAll_21 : decode b_Ch_readAll 21 = .ok (.istore_n 2, 1) := by decide +kernel
theorem d_Ch_readAll_22 : decode b_Ch_readAll 22 = .ok (.iload_n 3, 1) := by decide +kernel
theorem d_Ch_readAll_23 : decode b_Ch_readAll 23 = .ok (.ifCond .le 36, 3) := by decide +kernel
theorem d_Ch_readAll_26 : decode b_Ch_readAll 26 = .ok (.iload_n 2, 1) := by decide +kernel
theorem d_Ch_readAll_27 : decode b_Ch_readAll 27 = .ok (.ifCond .ne 32, 3) := by decide +kernel
theorem d_Ch_readAll_30 : decode b_Ch_readAll 30 = .ok (.aload_n 0, 1) := by decide +kernel
theorem d_Ch_readAll_31 : decode b_Ch_readAll 31 = .ok (.getfield 57, 3) := by decide +kernel
theorem d_Ch_readAll_34 : decode b_Ch_readAll 34 = .ok (.aload_n 0, 1) := by decide +kernel
theorem d_Ch_readAll_35 : decode b_Ch_readAll 35 = .ok (.getfield 60, 3) := by decide +kernel
theorem d_Ch_readAll_38 : decode b_Ch_readAll 38 = .ok (.if_icmp .eq 15, 3) := by decide +kernel
theorem d_Ch_readAll_41 : decode b_Ch_readAll 41 = .ok (.aload_n 0, 1) := by decide +kernel
theorem d_Ch_readAll_42 : decode b_Ch_readAll 42 = .ok (.iconst 5, 1) := by decide +kernel
theorem d_Ch_readAll_43 : decode b_Ch_readAll 43 = .ok (.aload_n 0, 1) := by decide +kernel
theorem d_Ch_readAll_44 : decode b_Ch_readAll 44 = .ok (.getfield 57, 3) := by decide +kernel
theorem d_Ch_readAll_47 : decode b_Ch_readAll 47 = .ok (.invokevirtual 63, 3) := by decide +kernel
theorem d_Ch_readAll_50 : decode b_Ch_readAll 50 = .ok (.ifCond .eq 7, 3) := by decide +kernel
theorem d_Ch_readAll_53 : decode b_Ch_readAll 53 = .ok (.iconst 1, 1) := by decide +kernel
theorem d_Ch_readAll_54 : decode b_Ch_readAll 54 = .ok (.goto 4, 3) := by decide +kernel
theorem d_Ch_readAll_57 : decode b_Ch_readAll 57 = .ok (.iconst 0, 1) := by decide +kernel
theorem d_Ch_readAll_58 : decode b_Ch_readAll 58 = .ok (.ireturn, 1) := by decide +kernel
theorem d_Ch_readAll_59 : decode b_Ch_readAll 59 = .ok (.iload_n 3, 1) := by decide +kernel
theorem d_Ch_readAll_60 : decode b_Ch_readAll 60 = .ok (.sipush 250, 3) := by decide +kernel
theorem d_Ch_readAll_63 : decode b_Ch_readAll 63 = .ok (.if_icmp .eq 9, 3) := by decide +kernel
theorem d_Ch_readAll_66 : decode b_Ch_readAll 66 = .ok (.iload_n 2, 1) := by decide +kernel
theorem d_Ch_readAll_67 : decode b_Ch_readAll 67 = .ok (.bipush 20, 2) := by decide +kernel
theorem d_Ch_readAll_69 : decode b_Ch_readAll 69 = .ok (.if_icmp .ne 13, 3) := by decide +kernel
theorem d_Ch_readAll_72 : decode b_Ch_readAll 72 = .ok (.aload_n 0, 1) := by decide +kernel
theorem d_Ch_readAll_73 : decode b_Ch_readAll 73 = .ok (.iconst 3, 1) := by decide +kernel
theorem d_Ch_readAll_74 : decode b_Ch_readAll 74 = .ok (.aload_n 0, 1) := by decide +kernel
theorem d_Ch_readAll_75 : decode b_Ch_readAll 75 = .ok (.getfield 57, 3) := by decide +kernel
theorem d_Ch_readAll_78 : decode b_Ch_readAll 78 = .ok (.invokevirtual 63, 3) := by decide +kernel
theorem d_Ch_readAll_81 : decode b_Ch_readAll 81 = .ok (.ireturn, 1) := by decide +kernel
theorem d_Ch_readAll_82 : decode b_Ch_readAll 82 = .ok (.aload_n 0, 1) := by decide +kernel
theorem d_Ch_readAll_83 : decode b_Ch_readAll 83 = .ok (.iload_n 3, 1) := by decide +kernel
theorem d_Ch_readAll_84 : decode b_Ch_readAll 84 = .ok (.iload_n 2, 1) := by decide +kernel
theorem d_Ch_readAll_85 : decode b_Ch_readAll 85 = .ok (.ifCond .ne 7, 3) := by decide +kernel
theorem d_Ch_readAll_88 : decode b_Ch_readAll 88 = .ok (.iconst (-1), 1) := by decide +kernel
theorem d_Ch_readAll_89 : decode b_Ch_readAll 89 = .ok (.goto 11, 3) := by decide +kernel
theorem d_Ch_readAll_92 : decode b_Ch_readAll 92 = .ok (.aload_n 0, 1) := by decide +kernel
theorem d_Ch_readAll_93 : decode b_Ch_readAll 93 = .ok (.getfield 39, 3) := by decide +kernel
theorem d_Ch_readAll_96 : decode b_Ch_readAll 96 = .ok (.iload_n 2, 1) := by decide +kernel
theorem d_Ch_readAll_97 : decode b_Ch_readAll 97 = .ok (.iconst 1, 1) := by decide +kernel
theorem d_Ch_readAll_98 : decode b_Ch_readAll 98 = .ok (.isub, 1) := by decide +kernel
theorem d_Ch_readAll_99 : decode b_Ch_readAll 99 = .ok (.iaload, 1) := by decide +kernel
theorem d_Ch_readAll_100 : decode b_Ch_readAll 100 = .ok (.invokevirtual 67, 3) := by decide +kernel
theorem d_Ch_readAll_103 : decode b_Ch_readAll 103 = .ok (.ifCond .ne 5, 3) := by decide +kernel
theorem d_Ch_readAll_106 : decode b_Ch_readAll 106 = .ok (.iconst 0, 1) := by decide +kernel
theorem d_Ch_readAll_107 : decode b_Ch_readAll 107 = .ok (.ireturn, 1) := by decide +kernel
theorem d_Ch_readAll_108 : decode b_Ch_readAll 108 = .ok (.iload_n 2, 1) := by decide +kernel
theorem d_Ch_readAll_109 : decode b_Ch_readAll 109 = .ok (.ifCond .le 15, 3) := by decide +kernel
theorem d_Ch_readAll_112 : decode b_Ch_readAll 112 = .ok (.aload_n 0, 1) := by decide +kernel
theorem d_Ch_readAll_113 : decode b_Ch_readAll 113 = .ok (.getfield 42, 3) := by decide +kernel
theorem d_Ch_readAll_116 : decode b_Ch_readAll 116 = .ok (.iload_n 2, 1) := by decide +kernel
theorem d_Ch_readAll_117 : decode b_Ch_readAll 117 = .ok (.iconst 1, 1) := by decide +kernel
theorem d_Ch_readAll_118 : decode b_Ch_readAll 118 = .ok (.isub, 1) := by decide +kernel
theorem d_Ch_readAll_119 : decode b_Ch_readAll 119 = .ok (.dup2, 1) := by decide +kernel
theorem d_Ch_readAll_120 : decode b_Ch_readAll 120 = .ok (.iaload, 1) := by decide +kernel
theorem d_Ch_readAll_121 : decode b_Ch_readAll 121 = .ok (.iconst 1, 1) := by decide +kernel
theorem d_Ch_readAll_122 : decode b_Ch_readAll 122 = .ok (.isub, 1) := by decide +kernel
theorem d_Ch_readAll_123 : decode b_Ch_readAll 123 = .ok (.iastore, 1) := by decide +kernel
theorem d_Ch_readAll_124 : decode b_Ch_readAll 124 = .ok (.aload_n 0, 1) := by decide +kernel
theorem d_Ch_readAll_125 : decode b_Ch_readAll 125 = .ok (.getfield 39, 3) := by decide +kernel
theorem d_Ch_readAll_128 : decode b_Ch_readAll 128 = .ok (.iload_n 2, 1) := by decide +kernel
theorem d_Ch_readAll_129 : decode b_Ch_readAll 129 = .ok (.iload_n 3, 1) := by decide +kernel
theorem d_Ch_readAll_130 : decode b_Ch_readAll 130 = .ok (.iastore, 1) := by decide +kernel
theorem d_Ch_readAll_131 : decode b_Ch_readAll 131 = .ok (.aload_n 0, 1) := by decide +kernel
theorem d_Ch_readAll_132 : decode b_Ch_readAll 132 = .ok (.getfield 42, 3) := by decide +kernel
theorem d_Ch_readAll_135 : decode b_Ch_readAll 135 = .ok (.iload_n 2, 1) := by decide +kernel
theorem d_Ch_readAll_136 : decode b_Ch_readAll 136 = .ok (.aload_n 0, 1) := by decide +kernel
theorem d_Ch_readAll_137 : decode b_Ch_readAll 137 = .ok (.getfield 11, 3) := by decide +kernel
theorem d_Ch_readAll_140 : decode b_Ch_readAll 140 = .ok (.iload_n 3, 1) := by decide +kernel
theorem d_Ch_readAll_141 : decode b_Ch_readAll 141 = .ok (.aaload, 1) := by decide +kernel
theorem d_Ch_readAll_142 : decode b_Ch_readAll 142 = .ok (.getfield 70, 3) := by decide +kernel
theorem d_Ch_readAll_145 : decode b_Ch_readAll 145 = .ok (.iastore, 1) := by decide +kernel
theorem d_Ch_readAll_146 : decode b_Ch_readAll 146 = .ok (.iinc 2 1, 3) := by decide +kernel
theorem d_Ch_readAll_149 : decode b_Ch_readAll 149 = .ok (.iinc 3 1, 3) := by decide +kernel
theorem d_Ch_readAll_152 : decode b_Ch_readAll 152 = .ok (.goto (-143), 3) := by decide +kernel
theorem d_Ch_readAll_155 : decode b_Ch_readAll 155 = .ok (.iconst 0, 1) := by decide +kernel
theorem d_Ch_readAll_156 : decode b_Ch_readAll 156 = .ok (.ireturn, 1) := by decide +kernel
theorem kw_1337 : Cond.methodLink R_Ch 49 y_Ch_begin ∈ wA := kinm (show _ ∈ tables_1 from (List.mem_append_right _ (List.mem_append_right _ (List.mem_append_left _ (List.mem_of_getElem? (l := tables_1_3) (i := 110) (by decide +kernel)))))) (by decide +kernel)
theorem kw_1338 : Cond.methodLink R_Ch 53 y_Ch_withoutFullOnes ∈ wA := kinm (show _ ∈ tables_1 from (List.mem_append_right _ (List.mem_append_right _ (List.mem_append_left _ (List.mem_of_getElem? (l := tables_1_3) (i := 114) (by decide +kernel)))))) (by decide +kernel)
theorem kw_1339 : Cond.fieldLink R_Ch 39 "LuaMachine$Chunk" "open" "[I" ∈ wA := kinm (show _ ∈ tables_1 from (List.mem_append_left _ (List.mem_of_getElem? (l := tables_1_1) (i := 71) (by decide +kernel)))) (by decide +kernel)
theorem kw_1340 : Cond.methodLink R_Ch 67 y_Ch_readPrototype ∈ wA := kinm (show _ ∈ tables_1 from (List.mem_append_right _ (List.mem_append_right _ (List.mem_append_left _ (List.mem_of_getElem? (l := tables_1_3) (i := 122) (by decide +kernel)))))) (by decide +kernel)
theorem kw_1341 : Cond.instanceMethod y_Ch_readAll ∈ wA := kinm (show _ ∈ tables_1 from (List.mem_append_right _ (List.mem_append_right _ (List.mem_append_left _ (List.mem_of_getElem? (l := tables_1_3) (i := 107) (by decide +kernel)))))) (by decide +kernel)
theorem kw_1342 : Cond.selects R_Ch y_Ch_readAll y_Ch_readAll ∈ wA := kinm (show _ ∈ tables_1 from (List.mem_append_right _ (List.mem_append_right _ (List.mem_append_left _ (List.mem_of_getElem? (l := tables_1_3) (i := 108) (by decide +kernel)))))) (by decide +kernel)
theorem cv_Ch_readAll : CV y_Ch_readAll b_Ch_readAll 4 (some .boolean) 1 := ⟨kw_1341, kw_1342, kw_664, k_Ch_readAll, by decide +kernel⟩
theorem j_Ch_readAll_j124 {X : Cx} {q0 q : PL} (g : Gd X y_Ch_readAll b_Ch_readAll 4 (some .boolean) 5 115 R_Ch) {o : ((Int32 × Int32 × (Nat × Nat)) ⊕ (((Nat × Nat)) ⊕ ((Nat × Nat)) ⊕ ((Nat × Nat)) ⊕ ((Nat × Nat)))) × S1} (hR : (Sum.elim (fun y : Int32 × Int32 × (Nat × Nat) => ∀ q : PL, Exq (xP X) [] q0 q → Rmq (xP X) q y.2.2 → ∀ ls : Array Slot, lv_has ls 4 [(0, .ref (q.1 101 0)), (2, .int y.1), (3, .int y.2.1)] → WW X q o.2 9 ls []) (Sum.elim (fun y : (Nat × Nat) => ∀ q : PL, Exq (xP X) [] q0 q → Rmq (xP X) q y → ∀ ls : Array Slot, lv_has ls 4 [(0, .ref (q.1 101 0))] → WW X q o.2 30 ls []) (Sum.elim (fun y : (Nat × Nat) => ∀ q : PL, Exq (xP X) [] q0 q → Rmq (xP X) q y → ∀ ls : Array Slot, lv_has ls 4 [(0, .ref (q.1 101 0))] → WW X q o.2 72 ls []) (Sum.elim (fun y : (Nat × Nat) => ∀ q : PL, Exq (xP X) [] q0 q → Rmq (xP X) q y → ∀ ls : Array Slot, lv_has ls 4 [] → WW X q o.2 106 ls []) (fun y : (Nat × Nat) => ∀ q : PL, Exq (xP X) [] q0 q → Rmq (xP X) q y → ∀ ls : Array Slot, lv_has ls 4 [] → WW X q o.2 155 ls [])))) o.1)) (hx0 : Exq (xP X) [] q0 q) (l2 : Int32) (l3 : Int32) (ln : Nat × Nat) (hm : Rmq (xP X) q ln) (s : S1) (ls : Array Slot) (hl : lv_has ls 4 [(0, .ref (q.1 101 0)), (2, .int l2), (3, .int l3)]) (h : M_Ch_readAll_j124 l2 l3 ln s = some o) : WW X q s 124 ls [] := by
  unfold M_Ch_readAll_j124 at h
  refine ww_aload_n (pc := 124) g.1 d_Ch_readAll_124 rfl (lv_at hl 0 rfl) ?_
  refine ww_gR (pc := 125) g (k := 7) cl_Ch (pz rfl (by decide)) (by decide) (Or.inl kw_1339) (f := 12935) (t := 109) rfl rfl rfl d_Ch_readAll_125 ?_
  refine ww_iload_n (pc := 128) g.1 d_Ch_readAll_128 rfl (lv_at hl 1 rfl) ?_
  refine ww_iload_n (pc := 129) g.1 d_Ch_readAll_129 rfl (lv_at hl 2 rfl) ?_
  refine ww_si (pc := 130) g (pz rfl (by decide)) rfl rfl d_Ch_readAll_130 h fun s hs h => ?_
  refine ww_aload_n (pc := 131) g.1 d_Ch_readAll_131 rfl (lv_at hl 0 rfl) ?_
  refine ww_gR (pc := 132) g (k := 8) cl_Ch (pz rfl (by decide)) (by decide) (Or.inl kw_665) (f := 12936) (t := 110) rfl rfl rfl d_Ch_readAll_132 ?_
  refine ww_iload_n (pc := 135) g.1 d_Ch_readAll_135 rfl (lv_at hl 1 rfl) ?_
  refine ww_aload_n (pc := 136) g.1 d_Ch_readAll_136 rfl (lv_at hl 0 rfl) ?_
  refine ww_gR (pc := 137) g (k := 0) cl_Ch (pz rfl (by decide)) (by decide) (Or.inl kw_689) (f := 12928) (t := 102) rfl rfl rfl d_Ch_readAll_137 ?_
  refine ww_iload_n (pc := 140) g.1 d_Ch_readAll_140 rfl (lv_at hl 2 rfl) ?_
  refine ww_a8 (pc := 141) g (t := 144) (n := 250) (pz rfl (by decide)) rfl rfl rfl rfl d_Ch_readAll_141 h fun pa141 h => ?_
  refine ww_gI (pc := 142) g (k := 10) cl_Pr pa141 (by decide) (Or.inl kw_691) (f := 18442) rfl rfl d_Ch_readAll_142 h fun v142 h => ?_
  refine ww_si (pc := 145) g (pz rfl (by decide)) rfl rfl d_Ch_readAll_145 h fun s hs h => ?_
  refine ww_iinc (pc := 146) g.1 (v := l2 + 1) (lv' := [(2, .int (l2 + 1)), (0, .ref (q.1 101 0)), (3, .int l3)]) d_Ch_readAll_146 hl (k := 1) rfl (by rfl) (by decide) rfl fun ls hl => ?_
  refine ww_iinc (pc := 149) g.1 (v := l3 + 1) (lv' := [(3, .int (l3 + 1)), (2, .int (l2 + 1)), (0, .ref (q.1 101 0))]) d_Ch_readAll_149 hl (k := 2) rfl (by rfl) (by decide) rfl fun ls hl => ?_
  refine ww_goto (pc := 152) (tgt := 9) g.1 d_Ch_readAll_152 (by decide) ?_
  rw [oR_eq h] at hR
  exact hR q hx0 hm ls (lv_sub hl [2, 1, 0] rfl)

theorem j_Ch_readAll_j100 {X : Cx} {q0 q : PL} (g : Gd X y_Ch_readAll b_Ch_readAll 4 (some .boolean) 5 115 R_Ch) {o : ((Int32 × Int32 × (Nat × Nat)) ⊕ (((Nat × Nat)) ⊕ ((Nat × Nat)) ⊕ ((Nat × Nat)) ⊕ ((Nat × Nat)))) × S1} (hR : (Sum.elim (fun y : Int32 × Int32 × (Nat × Nat) => ∀ q : PL, Exq (xP X) [] q0 q → Rmq (xP X) q y.2.2 → ∀ ls : Array Slot, lv_has ls 4 [(0, .ref (q.1 101 0)), (2, .int y.1), (3, .int y.2.1)] → WW X q o.2 9 ls []) (Sum.elim (fun y : (Nat × Nat) => ∀ q : PL, Exq (xP X) [] q0 q → Rmq (xP X) q y → ∀ ls : Array Slot, lv_has ls 4 [(0, .ref (q.1 101 0))] → WW X q o.2 30 ls []) (Sum.elim (fun y : (Nat × Nat) => ∀ q : PL, Exq (xP X) [] q0 q → Rmq (xP X) q y → ∀ ls : Array Slot, lv_has ls 4 [(0, .ref (q.1 101 0))] → WW X q o.2 72 ls []) (Sum.elim (fun y : (Nat × Nat) => ∀ q : PL, Exq (xP X) [] q0 q → Rmq (xP X) q y → ∀ ls : Array Slot, lv_has ls 4 [] → WW X q o.2 106 ls []) (fun y : (Nat × Nat) => ∀ q : PL, Exq (xP X) [] q0 q → Rmq (xP X) q y → ∀ ls : Array Slot, lv_has ls 4 [] → WW X q o.2 155 ls [])))) o.1)) (hx0 : Exq (xP X) [] q0 q) (l2 : Int32) (l3 : Int32) (ln : Nat × Nat) (k0 : Int32) (k1 : Int32) (hm : Rmq (xP X) q ln) (s : S1) (ls : Array Slot) (hl : lv_has ls 4 [(0, .ref (q.1 101 0)), (2, .int l2), (3, .int l3)]) (h : M_Ch_readAll_j100 l2 l3 ln k0 k1 s = some o) : WW X q s 100 ls [.int k0, .int k1, .ref (q.1 101 0)] := by
  unfold M_Ch_readAll_j100 at h
  refine ww_lo fun dlo => ?_
  obtain ⟨v100, s, hc100, h⟩ := oB_of h
  refine ww_callVX (pc := 100) (rest := []) g cv_Ch_readPrototype (Or.inl kw_1340) cl_Ch (pz rfl (by decide)) (ct_Ch_readPrototype hm hc100) ⟨by decide, by decide⟩ rfl hl.1 (Nat.le_of_ble_eq_true rfl) d_Ch_readAll_100 rfl (fun q100 hE hm => ?_)
  have ex100_0 : q100.1 101 0 = q.1 101 0 := hE _ _ (by decide) (dlo _ _ (pz rfl (by decide)))
  have hl : lv_has ls 4 [(0, .ref (q100.1 101 0)), (2, .int l2), (3, .int l3)] := by rw [ex100_0]; exact hl
  refine ww_st (st' := [.int v100.1]) (by rfl) ?_
  have hx0 : Exq (xP X) [] _ q100 := hx0.tr (hE.sub (by decide))
  refine ww_if_ne (pc := 103) (tgt := 108) g.1 d_Ch_readAll_103 (by decide) h (fun c h => ?_) (fun c h => ?_)
  · refine ww_iload_n (pc := 108) g.1 d_Ch_readAll_108 rfl (lv_at hl 1 rfl) ?_
    refine ww_if_le (pc := 109) (tgt := 124) g.1 d_Ch_readAll_109 (by decide) h (fun c h => ?_) (fun c h => ?_)
    · exact j_Ch_readAll_j124 g hR hx0 l2 l3 v100.2 hm s ls (lv_sub hl [0, 1, 2] rfl) h
    · refine ww_aload_n (pc := 112) g.1 d_Ch_readAll_112 rfl (lv_at hl 0 rfl) ?_
      refine ww_gR (pc := 113) g (k := 8) cl_Ch (pz rfl (by decide)) (by decide) (Or.inl kw_665) (f := 12936) (t := 110) rfl rfl rfl d_Ch_readAll_113 ?_
      refine ww_iload_n (pc := 116) g.1 d_Ch_readAll_116 rfl (lv_at hl 1 rfl) ?_
      refine ww_iconst (pc := 117) g.1 (v := 1) d_Ch_readAll_117 (by decide) ?_
      refine ww_isub (pc := 118) g.1 d_Ch_readAll_118 ?_
      refine ww_dup2_11 (pc := 119) g.1 d_Ch_readAll_119 rfl rfl ?_
      refine ww_ai (pc := 120) g (pz rfl (by decide)) rfl rfl d_Ch_readAll_120 h fun v120 h => ?_
      refine ww_iconst (pc := 121) g.1 (v := 1) d_Ch_readAll_121 (by decide) ?_
      refine ww_isub (pc := 122) g.1 d_Ch_readAll_122 ?_
      refine ww_si (pc := 123) g (pz rfl (by decide)) rfl rfl d_Ch_readAll_123 h fun s hs h => ?_
      exact j_Ch_readAll_j124 g hR hx0 l2 l3 v100.2 hm s ls (lv_sub hl [0, 1, 2] rfl) h
  · rw [oR_eq h] at hR
    exact hR q100 hx0 hm ls (lv_sub hl [] rfl)

theorem j_Ch_readAll_j59 {X : Cx} {q0 q : PL} (g : Gd X y_Ch_readAll b_Ch_readAll 4 (some .boolean) 5 115 R_Ch) {o : ((Int32 × Int32 × (Nat × Nat)) ⊕ (((Nat × Nat)) ⊕ ((Nat × Nat)) ⊕ ((Nat × Nat)) ⊕ ((Nat × Nat)))) × S1} (hR : (Sum.elim (fun y : Int32 × Int32 × (Nat × Nat) => ∀ q : PL, Exq (xP X) [] q0 q → Rmq (xP X) q y.2.2 → ∀ ls : Array Slot, lv_has ls 4 [(0, .ref (q.1 101 0)), (2, .int y.1), (3, .int y.2.1)] → WW X q o.2 9 ls []) (Sum.elim (fun y : (Nat × Nat) => ∀ q : PL, Exq (xP X) [] q0 q → Rmq (xP X) q y → ∀ ls : Array Slot, lv_has ls 4 [(0, .ref (q.1 101 0))] → WW X q o.2 30 ls []) (Sum.elim (fun y : (Nat × Nat) => ∀ q : PL, Exq (xP X) [] q0 q → Rmq (xP X) q y → ∀ ls : Array Slot, lv_has ls 4 [(0, .ref (q.1 101 0))] → WW X q o.2 72 ls []) (Sum.elim (fun y : (Nat × Nat) => ∀ q : PL, Exq (xP X) [] q0 q → Rmq (xP X) q y → ∀ ls : Array Slot, lv_has ls 4 [] → WW X q o.2 106 ls []) (fun y : (Nat × Nat) => ∀ q : PL, Exq (xP X) [] q0 q → Rmq (xP X) q y → ∀ ls : Array Slot, lv_has ls 4 [] → WW X q o.2 155 ls [])))) o.1)) (hx0 : Exq (xP X) [] q0 q) (l2 : Int32) (l3 : Int32) (ln : Nat × Nat) (hm : Rmq (xP X) q ln) (s : S1) (ls : Array Slot) (hl : lv_has ls 4 [(0, .ref (q.1 101 0)), (2, .int l2), (3, .int l3)]) (h : M_Ch_readAll_j59 l2 l3 ln s = some o) : WW X q s 59 ls [] := by
  unfold M_Ch_readAll_j59 at h
  refine ww_iload_n (pc := 59) g.1 d_Ch_readAll_59 rfl (lv_at hl 2 rfl) ?_
  refine ww_sipush (pc := 60) g.1 (v := 250) d_Ch_readAll_60 (by decide) ?_
  refine ww_icmp_eq (pc := 63) (tgt := 72) g.1 d_Ch_readAll_63 (by decide) h (fun c h => ?_) (fun c h => ?_)
  · rw [oR_eq h] at hR
    exact hR q hx0 hm ls (lv_sub hl [0] rfl)
  · refine ww_iload_n (pc := 66) g.1 d_Ch_readAll_66 rfl (lv_at hl 1 rfl) ?_
    refine ww_bipush (pc := 67) g.1 (v := 20) d_Ch_readAll_67 (by decide) ?_
    refine ww_icmp_ne (pc := 69) (tgt := 82) g.1 d_Ch_readAll_69 (by decide) h (fun c h => ?_) (fun c h => ?_)
    · refine ww_aload_n (pc := 82) g.1 d_Ch_readAll_82 rfl (lv_at hl 0 rfl) ?_
      refine ww_iload_n (pc := 83) g.1 d_Ch_readAll_83 rfl (lv_at hl 2 rfl) ?_
      refine ww_iload_n (pc := 84) g.1 d_Ch_readAll_84 rfl (lv_at hl 1 rfl) ?_
      refine ww_if_ne (pc := 85) (tgt := 92) g.1 d_Ch_readAll_85 (by decide) h (fun c h => ?_) (fun c h => ?_)
      · refine ww_aload_n (pc := 92) g.1 d_Ch_readAll_92 rfl (lv_at hl 0 rfl) ?_
        refine ww_gR (pc := 93) g (k := 7) cl_Ch (pz rfl (by decide)) (by decide) (Or.inl kw_1339) (f := 12935) (t := 109) rfl rfl rfl d_Ch_readAll_93 ?_
        refine ww_iload_n (pc := 96) g.1 d_Ch_readAll_96 rfl (lv_at hl 1 rfl) ?_
        refine ww_iconst (pc := 97) g.1 (v := 1) d_Ch_readAll_97 (by decide) ?_
        refine ww_isub (pc := 98) g.1 d_Ch_readAll_98 ?_
        refine ww_ai (pc := 99) g (pz rfl (by decide)) rfl rfl d_Ch_readAll_99 h fun v99 h => ?_
        exact j_Ch_readAll_j100 g hR hx0 l2 l3 ln v99 l3 hm s ls (lv_sub hl [0, 1, 2] rfl) h
      · refine ww_iconst (pc := 88) g.1 (v := (-1)) d_Ch_readAll_88 (by decide) ?_
        refine ww_goto (pc := 89) (tgt := 100) g.1 d_Ch_readAll_89 (by decide) ?_
        exact j_Ch_readAll_j100 g hR hx0 l2 l3 ln (-1) l3 hm s ls (lv_sub hl [0, 1, 2] rfl) h
    · rw [oR_eq h] at hR
      exact hR q hx0 hm ls (lv_sub hl [0] rfl)

theorem lp_Ch_readAll_L9 {X : Cx} {q0 : PL} (g : Gd X y_Ch_readAll b_Ch_readAll 4 (some .boolean) 5 115 R_Ch) (x : Int32 × Int32 × (Nat × Nat)) (s : S1) (o : ((Int32 × Int32 × (Nat × Nat)) ⊕ (((Nat × Nat)) ⊕ ((Nat × Nat)) ⊕ ((Nat × Nat)) ⊕ ((Nat × Nat)))) × S1) (h : M_Ch_readAll_L9 x s = some o) (hR : (Sum.elim (fun y : Int32 × Int32 × (Nat × Nat) => ∀ q : PL, Exq (xP X) [] q0 q → Rmq (xP X) q y.2.2 → ∀ ls : Array Slot, lv_has ls 4 [(0, .ref (q.1 101 0)), (2, .int y.1), (3, .int y.2.1)] → WW X q o.2 9 ls []) (Sum.elim (fun y : (Nat × Nat) => ∀ q : PL, Exq (xP X) [] q0 q → Rmq (xP X) q y → ∀ ls : Array Slot, lv_has ls 4 [(0, .ref (q.1 101 0))] → WW X q o.2 30 ls []) (Sum.elim (fun y : (Nat × Nat) => ∀ q : PL, Exq (xP X) [] q0 q → Rmq (xP X) q y → ∀ ls : Array Slot, lv_has ls 4 [(0, .ref (q.1 101 0))] → WW X q o.2 72 ls []) (Sum.elim (fun y : (Nat × Nat) => ∀ q : PL, Exq (xP X) [] q0 q → Rmq (xP X) q y → ∀ ls : Array Slot, lv_has ls 4 [] → WW X q o.2 106 ls []) (fun y : (Nat × Nat) => ∀ q : PL, Exq (xP X) [] q0 q → Rmq (xP X) q y → ∀ ls : Array Slot, lv_has ls 4 [] → WW X q o.2 155 ls [])))) o.1)) : ∀ q : PL, Exq (xP X) [] q0 q → Rmq (xP X) q x.2.2 → ∀ ls : Array Slot, lv_has ls 4 [(0, .ref (q.1 101 0)), (2, .int x.1), (3, .int x.2.1)] → WW X q s 9 ls [] := by
  intro q hx0 hm ls hl
  unfold M_Ch_readAll_L9 at h
  refine ww_iload_n (pc := 9) g.1 d_Ch_readAll_9 rfl (lv_at hl 2 rfl) ?_
  refine ww_sipush (pc := 10) g.1 (v := 250) d_Ch_readAll_10 (by decide) ?_
  refine ww_icmp_gt (pc := 13) (tgt := 155) g.1 d_Ch_readAll_13 (by decide) h (fun c h => ?_) (fun c h => ?_)
  · rw [oR_eq h] at hR
    exact hR q hx0 hm ls (lv_sub hl [] rfl)
  · refine ww_aload_n (pc := 16) g.1 d_Ch_readAll_16 rfl (lv_at hl 0 rfl) ?_
    refine ww_iload_n (pc := 17) g.1 d_Ch_readAll_17 rfl (lv_at hl 1 rfl) ?_
    obtain ⟨v18, s, hc18, h⟩ := oB_of h
    refine ww_callV (pc := 18) (rest := []) g cv_Ch_withoutFullOnes (Or.inl kw_1338) cl_Ch (pz rfl (by decide)) (ct_Ch_withoutFullOnes hc18) ⟨by decide, by decide⟩ rfl hl.1 (Nat.le_of_ble_eq_true rfl) d_Ch_readAll_18 rfl (?_)
    refine ww_st (st' := [.int v18]) rfl ?_
    refine ww_istore_n (pc := 21) (i := 2) g.1 (lv' := [(2, .int v18), (0, .ref (q.1 101 0)), (3, .int x.2.1)]) d_Ch_readAll_21 rfl hl (by decide) rfl fun ls hl => ?_
    refine ww_iload_n (pc := 22) g.1 d_Ch_readAll_22 rfl (lv_at hl 2 rfl) ?_
    refine ww_if_le (pc := 23) (tgt := 59) g.1 d_Ch_readAll_23 (by decide) h (fun c h => ?_) (fun c h => ?_)
    · exact j_Ch_readAll_j59 g hR hx0 v18 x.2.1 x.2.2 hm s ls (lv_sub hl [1, 0, 2] rfl) h
    · refine ww_iload_n (pc := 26) g.1 d_Ch_readAll_26 rfl (lv_at hl 0 rfl) ?_
      refine ww_if_ne (pc := 27) (tgt := 59) g.1 d_Ch_readAll_27 (by decide) h (fun c h => ?_) (fun c h => ?_)
      · exact j_Ch_readAll_j59 g hR hx0 v18 x.2.1 x.2.2 hm s ls (lv_sub hl [1, 0, 2] rfl) h
      · rw [oR_eq h] at hR
        exact hR q hx0 hm ls (lv_sub hl [1] rfl)

theorem j_Ch_readAll_j53 {X : Cx} {q0 q : PL} (g : Gd X y_Ch_readAll b_Ch_readAll 4 (some .boolean) 5 115 R_Ch) {o : (Int32 × (Nat × Nat)) × S1} (hR : RtX X [] q0 o.1.2 o.2 (fun _ => some (.int o.1.1))) (hx0 : Exq (xP X) [] q0 q) (ln : Nat × Nat) (hm : Rmq (xP X) q ln) (s : S1) (ls : Array Slot) (hl : lv_has ls 4 []) (h : M_Ch_readAll_j53 ln s = some o) : WW X q s 53 ls [] := by
  unfold M_Ch_readAll_j53 at h
  refine ww_iconst (pc := 53) g.1 (v := 1) d_Ch_readAll_53 (by decide) ?_
  refine ww_goto (pc := 54) (tgt := 58) g.1 d_Ch_readAll_54 (by decide) ?_
  exact ww_zretX (pc := 58) g h hR hx0 hm (Or.inr rfl) d_Ch_readAll_58

theorem j_Ch_readAll_j72 {X : Cx} {q0 q : PL} (g : Gd X y_Ch_readAll b_Ch_readAll 4 (some .boolean) 5 115 R_Ch) {o : (Int32 × (Nat × Nat)) × S1} (hR : RtX X [] q0 o.1.2 o.2 (fun _ => some (.int o.1.1))) (hx0 : Exq (xP X) [] q0 q) (ln : Nat × Nat) (hm : Rmq (xP X) q ln) (s : S1) (ls : Array Slot) (hl : lv_has ls 4 [(0, .ref (q.1 101 0))]) (h : M_Ch_readAll_j72 ln s = some o) : WW X q s 72 ls [] := by
  unfold M_Ch_readAll_j72 at h
  refine ww_aload_n (pc := 72) g.1 d_Ch_readAll_72 rfl (lv_at hl 0 rfl) ?_
  refine ww_iconst (pc := 73) g.1 (v := 3) d_Ch_readAll_73 (by decide) ?_
  refine ww_aload_n (pc := 74) g.1 d_Ch_readAll_74 rfl (lv_at hl 0 rfl) ?_
  refine ww_gI (pc := 75) g (k := 14) cl_Ch (pz rfl (by decide)) (by decide) (Or.inl kw_655) (f := 12942) rfl rfl d_Ch_readAll_75 h fun v75 h => ?_
  obtain ⟨v78, s, hc78, h⟩ := oB_of h
  refine ww_callV (pc := 78) (rest := []) g cv_Ch_refuse (Or.inl kw_671) cl_Ch (pz rfl (by decide)) (ct_Ch_refuse hc78) ⟨by decide, by decide⟩ rfl hl.1 (Nat.le_of_ble_eq_true rfl) d_Ch_readAll_78 rfl (?_)
  refine ww_st (st' := [.int v78]) rfl ?_
  refine ww_ok h fun cz h => ?_
  exact ww_zretX (pc := 81) g h hR hx0 hm cz d_Ch_readAll_81

theorem ct_Ch_readAll {l : Launch} {P : PP} {q : PL} {s s' : S1} {n0 n1 : Nat × Nat} {l1 : Int32} {r : Int32} (hm : Rmq P q n0) (h : M_Ch_readAll n0 l1 s = some ((r, n1), s')) : CtX l y_Ch_readAll b_Ch_readAll 4 (some .boolean) 5 115 P [] q s [.ref (q.1 101 0), .int l1] (fun _ => some (.int r)) n1 s' := by
  refine ctX_of (by decide) (Nat.le_of_ble_eq_true rfl) fun X ls eP el g hR hl => ?_
  subst eP
  obtain ⟨q0, hq0⟩ : ∃ q0 : PL, q0 = q := ⟨q, rfl⟩
  have hx0 : Exq (xP X) [] q0 q := hq0 ▸ Exq.rf
  rw [← hq0] at hR
  have hR : RtX X [] q0 (((r, n1), s') : (Int32 × (Nat × Nat)) × S1).1.2 (((r, n1), s') : (Int32 × (Nat × Nat)) × S1).2 (fun _ => some (.int (((r, n1), s') : (Int32 × (Nat × Nat)) × S1).1.1)) := hR
  have hl : lv_has ls 4 [(0, .ref (q.1 101 0)), (1, .int l1)] := hl
  generalize ((r, n1), s') = o at h hR
  unfold M_Ch_readAll at h
  refine ww_aload_n (pc := 0) g.1 d_Ch_readAll_0 rfl (lv_at hl 0 rfl) ?_
  refine ww_iload_n (pc := 1) g.1 d_Ch_readAll_1 rfl (lv_at hl 1 rfl) ?_
  obtain ⟨v2, s, hc2, h⟩ := oB_of h
  refine ww_callV (pc := 2) (rest := []) g cv_Ch_begin (Or.inl kw_1337) cl_Ch (pz rfl (by decide)) (ct_Ch_begin hc2) ⟨by decide, by decide⟩ rfl hl.1 (Nat.le_of_ble_eq_true rfl) d_Ch_readAll_2 rfl (?_)
  refine ww_st (st' := []) rfl ?_
  refine ww_iconst (pc := 5) g.1 (v := 0) d_Ch_readAll_5 (by decide) ?_
  refine ww_istore_n (pc := 6) (i := 2) g.1 (lv' := [(2, .int 0), (0, .ref (q.1 101 0)), (1, .int l1)]) d_Ch_readAll_6 rfl hl (by decide) rfl fun ls hl => ?_
  refine ww_iconst (pc := 7) g.1 (v := 0) d_Ch_readAll_7 (by decide) ?_
  refine ww_istore_n (pc := 8) (i := 3) g.1 (lv' := [(3, .int 0), (2, .int 0), (0, .ref (q.1 101 0)), (1, .int l1)]) d_Ch_readAll_8 rfl hl (by decide) rfl fun ls hl => ?_
  obtain ⟨e9, s1, hw, h⟩ := oB_of h
  refine oW_rule (Wh := fun (x : Int32 × Int32 × (Nat × Nat)) (s : S1) => ∀ q : PL, Exq (xP X) [] q0 q → Rmq (xP X) q x.2.2 → ∀ ls : Array Slot, lv_has ls 4 [(0, .ref (q.1 101 0)), (2, .int x.1), (3, .int x.2.1)] → WW X q s 9 ls []) (We := fun (e : ((Nat × Nat)) ⊕ ((Nat × Nat)) ⊕ ((Nat × Nat)) ⊕ ((Nat × Nat))) (s : S1) => (Sum.elim (fun y : (Nat × Nat) => ∀ q : PL, Exq (xP X) [] q0 q → Rmq (xP X) q y → ∀ ls : Array Slot, lv_has ls 4 [(0, .ref (q.1 101 0))] → WW X q s 30 ls []) (Sum.elim (fun y : (Nat × Nat) => ∀ q : PL, Exq (xP X) [] q0 q → Rmq (xP X) q y → ∀ ls : Array Slot, lv_has ls 4 [(0, .ref (q.1 101 0))] → WW X q s 72 ls []) (Sum.elim (fun y : (Nat × Nat) => ∀ q : PL, Exq (xP X) [] q0 q → Rmq (xP X) q y → ∀ ls : Array Slot, lv_has ls 4 [] → WW X q s 106 ls []) (fun y : (Nat × Nat) => ∀ q : PL, Exq (xP X) [] q0 q → Rmq (xP X) q y → ∀ ls : Array Slot, lv_has ls 4 [] → WW X q s 155 ls [])))) e) (fun x s o hb hc => lp_Ch_readAll_L9 (q0 := q0) g x s o hb hc) hw ?_ q hx0 hm ls (lv_sub hl [2, 1, 0] rfl)
  clear hw hl hx0 hm
  clear ls
  generalize s1 = s at h ⊢
  rcases e9 with y9_30 | y9_72 | y9_106 | y9_155
  · intro qL9 hx0 hm ls hl
    dsimp only [Sum.elim_inl, Sum.elim_inr] at h
    refine ww_aload_n (pc := 30) g.1 d_Ch_readAll_30 rfl (lv_at hl 0 rfl) ?_
    refine ww_gI (pc := 31) g (k := 14) cl_Ch (pz rfl (by decide)) (by decide) (Or.inl kw_655) (f := 12942) rfl rfl d_Ch_readAll_31 h fun v31 h => ?_
    refine ww_aload_n (pc := 34) g.1 d_Ch_readAll_34 rfl (lv_at hl 0 rfl) ?_
    refine ww_gI (pc := 35) g (k := 13) cl_Ch (pz rfl (by decide)) (by decide) (Or.inl kw_654) (f := 12941) rfl rfl d_Ch_readAll_35 h fun v35 h => ?_
    refine ww_icmp_eq (pc := 38) (tgt := 53) g.1 d_Ch_readAll_38 (by decide) h (fun c h => ?_) (fun c h => ?_)
    · exact j_Ch_readAll_j53 g hR hx0 y9_30 hm s ls (lv_sub hl [] rfl) h
    · refine ww_aload_n (pc := 41) g.1 d_Ch_readAll_41 rfl (lv_at hl 0 rfl) ?_
      refine ww_iconst (pc := 42) g.1 (v := 5) d_Ch_readAll_42 (by decide) ?_
      refine ww_aload_n (pc := 43) g.1 d_Ch_readAll_43 rfl (lv_at hl 0 rfl) ?_
      refine ww_gI (pc := 44) g (k := 14) cl_Ch (pz rfl (by decide)) (by decide) (Or.inl kw_655) (f := 12942) rfl rfl d_Ch_readAll_44 h fun v44 h => ?_
      obtain ⟨v47, s, hc47, h⟩ := oB_of h
      refine ww_callV (pc := 47) (rest := []) g cv_Ch_refuse (Or.inl kw_671) cl_Ch (pz rfl (by decide)) (ct_Ch_refuse hc47) ⟨by decide, by decide⟩ rfl hl.1 (Nat.le_of_ble_eq_true rfl) d_Ch_readAll_47 rfl (?_)
      refine ww_st (st' := [.int v47]) rfl ?_
      refine ww_if_eq (pc := 50) (tgt := 57) g.1 d_Ch_readAll_50 (by decide) h (fun c h => ?_) (fun c h => ?_)
      · refine ww_iconst (pc := 57) g.1 (v := 0) d_Ch_readAll_57 (by decide) ?_
        exact ww_zretX (pc := 58) g h hR hx0 hm (Or.inl rfl) d_Ch_readAll_58
      · exact j_Ch_readAll_j53 g hR hx0 y9_30 hm s ls (lv_sub hl [] rfl) h
  · intro qL9 hx0 hm ls hl
    dsimp only [Sum.elim_inl, Sum.elim_inr] at h
    exact j_Ch_readAll_j72 g hR hx0 y9_72 hm s ls (lv_sub hl [0] rfl) h
  · intro qL9 hx0 hm ls hl
    dsimp only [Sum.elim_inl, Sum.elim_inr] at h
    refine ww_iconst (pc := 106) g.1 (v := 0) d_Ch_readAll_106 (by decide) ?_
    exact ww_zretX (pc := 107) g h hR hx0 hm (Or.inl rfl) d_Ch_readAll_107
  · intro qL9 hx0 hm ls hl
    dsimp only [Sum.elim_inl, Sum.elim_inr] at h
    refine ww_iconst (pc := 155) g.1 (v := 0) d_Ch_readAll_155 (by decide) ?_
    exact ww_zretX (pc := 156) g h hR hx0 hm (Or.inl rfl) d_Ch_readAll_156

abbrev b_Ch_isWellFormed : ByteArray := prog_3_method_16_code
def y_Ch_isWellFormed : MethodName := ⟨R_Ch, "isWellFormed", "(LLuaMachine$Prototype;I)Z"⟩
abbrev w_Ch_isWellFormed : List Cond := .code y_Ch_isWellFormed b_Ch_isWellFormed 4 (some .boolean) :: wA
theorem k_Ch_isWellFormed : Cond.code y_Ch_isWellFormed b_Ch_isWellFormed 4 (some .boolean) ∈ wA := kinm (show _ ∈ tables_1 from (List.mem_append_right _ (List.mem_append_right _ (List.mem_append_left _ (List.mem_of_getElem? (l := tables_1_3) (i := 220) (by decide +kernel)))))) (by decide +kernel)
theorem d_Ch_isWellFormed_0 : decode b_Ch_isWellFormed 0 = .ok (.aload_n 0, 1) := by decide +kernel
theorem d_Ch_isWellFormed_1 : decode b_Ch_isWellFormed 1 = .ok (.getfield 21, 3) := by decide +kernel
theorem d_Ch_isWellFormed_4 : decode b_Ch_isWellFormed 4 = .ok (.aload_n 1, 1) := by decide +kernel
theorem d_Ch_isWellFormed_5 : decode b_Ch_isWellFormed 5 = .ok (.getfield 137, 3) := by decide +kernel
theorem d_Ch_isWellFormed_8 : decode b_Ch_isWellFormed 8 = .ok (.iload_n 2, 1) := by decide +kernel
theorem d_Ch_isWellFormed_9 : decode b_Ch_isWellFormed 9 = .ok (.iadd, 1) := by decide +kernel
theorem d_Ch_isWellFormed_10 : decode b_Ch_isWellFormed 10 = .ok (.iaload, 1) := by decide +kernel
theorem d_Ch_isWellFormed_11 : decode b_Ch_isWellFormed 11 = .ok (.istore_n 3, 1) := by decide +kernel
theorem d_Ch_isWellFormed_12 : decode b_Ch_isWellFormed 12 = .ok (.iload_n 3, 1) := by decide +kernel
theorem d_Ch_isWellFormed_13 : decode b_Ch_isWellFormed 13 = .ok (.bipush 63, 2) := by decide +kernel
theorem d_Ch_isWellFormed_15 : decode b_Ch_isWellFormed 15 = .ok (.iand, 1) := by decide +kernel
theorem d_Ch_isWellFormed_16 : decode b_Ch_isWellFormed 16 = .ok (.bipush 46, 2) := by decide +kernel
theorem d_Ch_isWellFormed_18 : decode b_Ch_isWellFormed 18 = .ok (.if_icmp .ge 35, 3) := by decide +kernel
theorem d_Ch_isWellFormed_21 : decode b_Ch_isWellFormed 21 = .ok (.aload_n 1, 1) := by decide +kernel
theorem d_Ch_isWellFormed_22 : decode b_Ch_isWellFormed 22 = .ok (.iload_n 3, 1) := by decide +kernel
theorem d_Ch_isWellFormed_23 : decode b_Ch_isWellFormed 23 = .ok (.invokestatic 156, 3) := by decide +kernel
theorem d_Ch_isWellFormed_26 : decode b_Ch_isWellFormed 26 = .ok (.ifCond .eq 27, 3) := by decide +kernel
theorem d_Ch_isWellFormed_29 : decode b_Ch_isWellFormed 29 = .ok (.aload_n 0, 1) := by decide +kernel
theorem d_Ch_isWellFormed_30 : decode b_Ch_isWellFormed 30 = .ok (.aload_n 1, 1) := by decide +kernel
theorem d_Ch_isWellFormed_31 : decode b_Ch_isWellFormed 31 = .ok (.iload_n 2, 1) := by decide +kernel
theorem d_Ch_isWellFormed_32 : decode b_Ch_isWellFormed 32 = .ok (.iload_n 3, 1) := by decide +kernel
theorem d_Ch_isWellFormed_33 : decode b_Ch_isWellFormed 33 = .ok (.invokevirtual 159, 3) := by decide +kernel
theorem d_Ch_isWellFormed_36 : decode b_Ch_isWellFormed 36 = .ok (.ifCond .eq 17, 3) := by decide +kernel
theorem d_Ch_isWellFormed_39 : decode b_Ch_isWellFormed 39 = .ok (.aload_n 0, 1) := by decide +kernel
theorem d_Ch_isWellFormed_40 : decode b_Ch_isWellFormed 40 = .ok (.aload_n 1, 1) := by decide +kernel
theorem d_Ch_isWellFormed_41 : decode b_Ch_isWellFormed 41 = .ok (.iload_n 2, 1) := by decide +kernel
theorem d_Ch_isWellFormed_42 : decode b_Ch_isWellFormed 42 = .ok (.iload_n 3, 1) := by decide +kernel
theorem d_Ch_isWellFormed_43 : decode b_Ch_isWellFormed 43 = .ok (.invokevirtual 163, 3) := by decide +kernel
theorem d_Ch_isWellFormed_46 : decode b_Ch_isWellFormed 46 = .ok (.ifCond .eq 7, 3) := by decide +kernel
theorem d_Ch_isWellFormed_49 : decode b_Ch_isWellFormed 49 = .ok (.iconst 1, 1) := by decide +kernel
theorem d_Ch_isWellFormed_50 : decode b_Ch_isWellFormed 50 = .ok (.goto 4, 3) := by decide +kernel
theorem d_Ch_isWellFormed_53 : decode b_Ch_isWellFormed 53 = .ok (.iconst 0, 1) := by decide +kernel
theorem d_Ch_isWellFormed_54 : decode b_Ch_isWellFormed 54 = .ok (.ireturn, 1) := by decide +kernel
theorem kw_1343 : Cond.methodLink R_Ch 156 y_Ch_namesWhatIsThere ∈ wA := kinm (show _ ∈ tables_1 from (List.mem_append_right _ (List.mem_append_right _ (List.mem_append_left _ (List.mem_of_getElem? (l := tables_1_3) (i := 221) (by decide +kernel)))))) (by decide +kernel)
theorem kw_1344 : Cond.methodLink R_Ch 159 y_Ch_goesWhereItMay ∈ wA := kinm (show _ ∈ tables_1 from (List.mem_append_right _ (List.mem_append_right _ (List.mem_append_right _ (List.mem_append_left _ (List.mem_of_getElem? (l := tables_1_4) (i := 36) (by decide +kernel))))))) (by decide +kernel)
theorem kw_1345 : Cond.methodLink R_Ch 163 y_Ch_keepsOpenRows ∈ wA := kinm (show _ ∈ tables_1 from (List.mem_append_right _ (List.mem_append_right _ (List.mem_append_right _ (List.mem_append_left _ (List.mem_of_getElem? (l := tables_1_4) (i := 48) (by decide +kernel))))))) (by decide +kernel)
theorem kw_1346 : Cond.instanceMethod y_Ch_isWellFormed ∈ wA := kinm (show _ ∈ tables_1 from (List.mem_append_right _ (List.mem_append_right _ (List.mem_append_left _ (List.mem_of_getElem? (l := tables_1_3) (i := 219) (by decide +kernel)))))) (by decide +kernel)
theorem kw_1347 : Cond.selects R_Ch y_Ch_isWellFormed y_Ch_isWellFormed ∈ wA := kinp 13 (by decide +kernel) (by decide +kernel)
theorem cv_Ch_isWellFormed : CV y_Ch_isWellFormed b_Ch_isWellFormed 4 (some .boolean) 2 := ⟨kw_1346, kw_1347, kw_664, k_Ch_isWellFormed, by decide +kernel⟩
theorem j_Ch_isWellFormed_j53 {X : Cx} {q : PL} (g : Gd X y_Ch_isWellFormed b_Ch_isWellFormed 4 (some .boolean) 6 175 R_Ch) {o : (Int32) × S1} (hR : Rt X q o.2 (some (.int o.1)))  (s : S1) (ls : Array Slot) (hl : lv_has ls 4 []) (h : M_Ch_isWellFormed_j53 s = some o) : WW X q s 53 ls [] := by
  unfold M_Ch_isWellFormed_j53 at h
  refine ww_iconst (pc := 53) g.1 (v := 0) d_Ch_isWellFormed_53 (by decide) ?_
  exact ww_zretH (pc := 54) g h hR (Or.inl rfl) d_Ch_isWellFormed_54

theorem ct_Ch_isWellFormed {l : Launch} {P : PP} {q : PL} {s s' : S1} {l1 : Int32} {l2 : Int32} (hp0 : prs s 144 l1) {r : Int32} (h : M_Ch_isWellFormed l1 l2 s = some (r, s')) : Ct l y_Ch_isWellFormed b_Ch_isWellFormed 4 (some .boolean) 6 175 P q s [.ref (q.1 101 0), .ref (q.1 144 l1), .int l2] (some (.int r)) q s' := by
  refine ct_of (by decide) (Nat.le_of_ble_eq_true rfl) fun X ls eP el g hR hl => ?_
  subst eP
  have hR : Rt X q ((r, s') : Int32 × S1).2 (some (.int ((r, s') : Int32 × S1).1)) := hR
  have hl : lv_has ls 4 [(0, .ref (q.1 101 0)), (1, .ref (q.1 144 l1)), (2, .int l2)] := hl
  generalize (r, s') = o at h hR
  unfold M_Ch_isWellFormed at h
  refine ww_aload_n (pc := 0) g.1 d_Ch_isWellFormed_0 rfl (lv_at hl 0 rfl) ?_
  refine ww_gR (pc := 1) g (k := 2) cl_Ch (pz rfl (by decide)) (by decide) (Or.inl kw_686) (f := 12930) (t := 104) rfl rfl rfl d_Ch_isWellFormed_1 ?_
  refine ww_aload_n (pc := 4) g.1 d_Ch_isWellFormed_4 rfl (lv_at hl 1 rfl) ?_
  refine ww_gI (pc := 5) g (k := 8) cl_Pr hp0 (by decide) (Or.inl kw_683) (f := 18440) rfl rfl d_Ch_isWellFormed_5 h fun v5 h => ?_
  refine ww_iload_n (pc := 8) g.1 d_Ch_isWellFormed_8 rfl (lv_at hl 2 rfl) ?_
  refine ww_iadd (pc := 9) g.1 d_Ch_isWellFormed_9 ?_
  refine ww_ai (pc := 10) g (pz rfl (by decide)) rfl rfl d_Ch_isWellFormed_10 h fun v10 h => ?_
  refine ww_istore_n (pc := 11) (i := 3) g.1 (lv' := [(3, .int v10), (0, .ref (q.1 101 0)), (1, .ref (q.1 144 l1)), (2, .int l2)]) d_Ch_isWellFormed_11 rfl hl (by decide) rfl fun ls hl => ?_
  refine ww_iload_n (pc := 12) g.1 d_Ch_isWellFormed_12 rfl (lv_at hl 0 rfl) ?_
  refine ww_bipush (pc := 13) g.1 (v := 63) d_Ch_isWellFormed_13 (by decide) ?_
  refine ww_iand (pc := 15) g.1 d_Ch_isWellFormed_15 ?_
  refine ww_bipush (pc := 16) g.1 (v := 46) d_Ch_isWellFormed_16 (by decide) ?_
  refine ww_icmp_ge (pc := 18) (tgt := 53) g.1 d_Ch_isWellFormed_18 (by decide) h (fun c h => ?_) (fun c h => ?_)
  · exact j_Ch_isWellFormed_j53 g hR s ls (lv_sub hl [] rfl) h
  · refine ww_aload_n (pc := 21) g.1 d_Ch_isWellFormed_21 rfl (lv_at hl 2 rfl) ?_
    refine ww_iload_n (pc := 22) g.1 d_Ch_isWellFormed_22 rfl (lv_at hl 0 rfl) ?_
    refine ww_lo fun dlo => ?_
    obtain ⟨v23, s, hc23, h⟩ := oB_of h
    refine ww_callS (pc := 23) (rest := []) g cs_Ch_namesWhatIsThere (Or.inl kw_1343) (ct_Ch_namesWhatIsThere hp0 hc23) ⟨by decide, by decide⟩ rfl hl.1 (Nat.le_of_ble_eq_true rfl) d_Ch_isWellFormed_23 rfl (?_)
    refine ww_st (st' := [.int v23]) rfl ?_
    refine ww_hi fun dhi => ?_
    have hp0 : prs s 144 l1 := dhi _ _ hp0.2.1 hp0.2.2 (dlo _ _ hp0)
    refine ww_if_eq (pc := 26) (tgt := 53) g.1 d_Ch_isWellFormed_26 (by decide) h (fun c h => ?_) (fun c h => ?_)
    · exact j_Ch_isWellFormed_j53 g hR s ls (lv_sub hl [] rfl) h
    · refine ww_aload_n (pc := 29) g.1 d_Ch_isWellFormed_29 rfl (lv_at hl 1 rfl) ?_
      refine ww_aload_n (pc := 30) g.1 d_Ch_isWellFormed_30 rfl (lv_at hl 2 rfl) ?_
      refine ww_iload_n (pc := 31) g.1 d_Ch_isWellFormed_31 rfl (lv_at hl 3 rfl) ?_
      refine ww_iload_n (pc := 32) g.1 d_Ch_isWellFormed_32 rfl (lv_at hl 0 rfl) ?_
      refine ww_lo fun dlo => ?_
      obtain ⟨v33, s, hc33, h⟩ := oB_of h
      refine ww_callV (pc := 33) (rest := []) g cv_Ch_goesWhereItMay (Or.inl kw_1344) cl_Ch (pz rfl (by decide)) (ct_Ch_goesWhereItMay hp0 hc33) ⟨by decide, by decide⟩ rfl hl.1 (Nat.le_of_ble_eq_true rfl) d_Ch_isWellFormed_33 rfl (?_)
      refine ww_st (st' := [.int v33]) rfl ?_
      refine ww_hi fun dhi => ?_
      have hp0 : prs s 144 l1 := dhi _ _ hp0.2.1 hp0.2.2 (dlo _ _ hp0)
      refine ww_if_eq (pc := 36) (tgt := 53) g.1 d_Ch_isWellFormed_36 (by decide) h (fun c h => ?_) (fun c h => ?_)
      · exact j_Ch_isWellFormed_j53 g hR s ls (lv_sub hl [] rfl) h
      · refine ww_aload_n (pc := 39) g.1 d_Ch_isWellFormed_39 rfl (lv_at hl 1 rfl) ?_
        refine ww_aload_n (pc := 40) g.1 d_Ch_isWellFormed_40 rfl (lv_at hl 2 rfl) ?_
        refine ww_iload_n (pc := 41) g.1 d_Ch_isWellFormed_41 rfl (lv_at hl 3 rfl) ?_
        refine ww_iload_n (pc := 42) g.1 d_Ch_isWellFormed_42 rfl (lv_at hl 0 rfl) ?_
        refine ww_lo fun dlo => ?_
        obtain ⟨v43, s, hc43, h⟩ := oB_of h
        refine ww_callV (pc := 43) (rest := []) g cv_Ch_keepsOpenRows (Or.inl kw_1345) cl_Ch (pz rfl (by decide)) (ct_Ch_keepsOpenRows hp0 hc43) ⟨by decide, by decide⟩ rfl hl.1 (Nat.le_of_ble_eq_true rfl) d_Ch_isWellFormed_43 rfl (?_)
        refine ww_st (st' := [.int v43]) rfl ?_
        refine ww_hi fun dhi => ?_
        have hp0 : prs s 144 l1 := dhi _ _ hp0.2.1 hp0.2.2 (dlo _ _ hp0)
        refine ww_if_eq (pc := 46) (tgt := 53) g.1 d_Ch_isWellFormed_46 (by decide) h (fun c h => ?_) (fun c h => ?_)
        · exact j_Ch_isWellFormed_j53 g hR s ls (lv_sub hl [] rfl) h
        · refine ww_iconst (pc := 49) g.1 (v := 1) d_Ch_isWellFormed_49 (by decide) ?_
          refine ww_goto (pc := 50) (tgt := 54) g.1 d_Ch_isWellFormed_50 (by decide) ?_
          exact ww_zretH (pc := 54) g h hR (Or.inr rfl) d_Ch_isWellFormed_54

abbrev b_He_make : ByteArray := prog_6_method_3_code
def y_He_make : MethodName := ⟨R_He, "make", "(III)I"⟩
abbrev w_He_make : List Cond := .code y_He_make b_He_make 6 (some .int) :: wA
set_option maxRecDepth 20000 in
theorem k_He_make : Cond.code y_He_make b_He_make 6 (some .int) ∈ wA := kinm (show _ ∈ tables_1 from (List.mem_append_right _ (List.mem_append_right _ (List.mem_append_right _ (List.mem_append_right _ (List.mem_append_left _ (List.mem_of_getElem? (l := tables_1_5) (i := 119) rfl))))))) rfl
theorem d_He_make_0 : decode b_He_make 0 = .ok (.aload_n 0, 1) := by decide +kernel
theorem d_He_make_1 : decode b_He_make 1 = .ok (.getfield 21, 3) := by decide +kernel
theorem d_He_make_4 : decode b_He_make 4 = .ok (.bipush 12, 2) := by decide +kernel
theorem d_He_make_6 : decode b_He_make 6 = .ok (.iaload, 1) := by decide +kernel
theorem d_He_make_7 : decode b_He_make 7 = .ok (.ldc 65, 2) := by decide +kernel
theorem d_He_make_9 : decode b_He_make 9 = .ok (.if_icmp .ge 31, 3) := by decide +kernel
theorem d_He_make_12 : decode b_He_make 12 = .ok (.aload_n 0, 1) := by decide +kernel
theorem d_He_make_13 : decode b_He_make 13 = .ok (.getfield 21, 3) := by decide +kernel
theorem d_He_make_16 : decode b_He_make 16 = .ok (.bipush 13, 2) := by decide +kernel
theorem d_He_make_18 : decode b_He_make 18 = .ok (.iaload, 1) := by decide +kernel
theorem d_He_make_19 : decode b_He_make 19 = .ok (.iload_n 2, 1) := by decide +kernel
theorem d_He_make_20 : decode b_He_make 20 = .ok (.iadd, 1) := by decide +kernel
theorem d_He_make_21 : decode b_He_make 21 = .ok (.ldc 66, 2) := by decide +kernel
theorem d_He_make_23 : decode b_He_make 23 = .ok (.if_icmp .gt 17, 3) := by decide +kernel
theorem d_He_make_26 : decode b_He_make 26 = .ok (.aload_n 0, 1) := by decide +kernel
theorem d_He_make_27 : decode b_He_make 27 = .ok (.getfield 21, 3) := by decide +kernel
theorem d_He_make_30 : decode b_He_make 30 = .ok (.bipush 14, 2) := by decide +kernel
theorem d_He_make_32 : decode b_He_make 32 = .ok (.iaload, 1) := by decide +kernel
theorem d_He_make_33 : decode b_He_make 33 = .ok (.iload_n 3, 1) := by decide +kernel
theorem d_He_make_34 : decode b_He_make 34 = .ok (.iadd, 1) := by decide +kernel
theorem d_He_make_35 : decode b_He_make 35 = .ok (.ldc 67, 2) := by decide +kernel
theorem d_He_make_37 : decode b_He_make 37 = .ok (.if_icmp .le 6, 3) := by decide +kernel
theorem d_He_make_40 : decode b_He_make 40 = .ok (.bipush (-11), 2) := by decide +kernel
theorem d_He_make_42 : decode b_He_make 42 = .ok (.ireturn, 1) := by decide +kernel
theorem d_He_make_43 : decode b_He_make 43 = .ok (.aload_n 0, 1) := by decide +kernel
theorem d_He_make_44 : decode b_He_make 44 = .ok (.iload_n 1, 1) := by decide +kernel
theorem d_He_make_45 : decode b_He_make 45 = .ok (.invokevirtual 68, 3) := by decide +kernel
theorem d_He_make_48 : decode b_He_make 48 = .ok (.ifCond .eq 14, 3) := by decide +kernel
theorem d_He_make_51 : decode b_He_make 51 = .ok (.aload_n 0, 1) := by decide +kernel
theorem d_He_make_52 : decode b_He_make 52 = .ok (.getfield 72, 3) := by decide +kernel
theorem d_He_make_55 : decode b_He_make 55 = .ok (.ifCond .ne 7, 3) := by decide +kernel
theorem d_He_make_58 : decode b_He_make 58 = .ok (.aload_n 0, 1) := by decide +kernel
theorem d_He_make_59 : decode b_He_make 59 = .ok (.invokevirtual 76, 3) := by decide +kernel
theorem d_He_make_62 : decode b_He_make 62 = .ok (.aload_n 0, 1) := by decide +kernel
theorem d_He_make_63 : decode b_He_make 63 = .ok (.iload_n 1, 1) := by decide +kernel
theorem d_He_make_64 : decode b_He_make 64 = .ok (.invokevirtual 68, 3) := by decide +kernel
theorem d_He_make_67 : decode b_He_make 67 = .ok (.ifCond .eq 6, 3) := by decide +kernel
theorem d_He_make_70 : decode b_He_make 70 = .ok (.bipush (-10), 2) := by decide +kernel
theorem d_He_make_72 : decode b_He_make 72 = .ok (.ireturn, 1) := by decide +kernel
theorem d_He_make_73 : decode b_He_make 73 = .ok (.aload_n 0, 1) := by decide +kernel
theorem d_He_make_74 : decode b_He_make 74 = .ok (.invokevirtual 79, 3) := by decide +kernel
theorem d_He_make_77 : decode b_He_make 77 = .ok (.istore 4, 2) := by decide +kernel
theorem d_He_make_79 : decode b_He_make 79 = .ok (.aload_n 0, 1) := by decide +kernel
theorem d_He_make_80 : decode b_He_make 80 = .ok (.getfield 11, 3) := by decide +kernel
theorem d_He_make_83 : decode b_He_make 83 = .ok (.iload 4, 2) := by decide +kernel
theorem d_He_make_85 : decode b_He_make 85 = .ok (.aaload, 1) := by decide +kernel
theorem d_He_make_86 : decode b_He_make 86 = .ok (.astore 5, 2) := by decide +kernel
theorem d_He_make_88 : decode b_He_make 88 = .ok (.aload 5, 2) := by decide +kernel
theorem d_He_make_90 : decode b_He_make 90 = .ok (.iload_n 1, 1) := by decide +kernel
theorem d_He_make_91 : decode b_He_make 91 = .ok (.putfield 83, 3) := by decide +kernel
theorem d_He_make_94 : decode b_He_make 94 = .ok (.aload 5, 2) := by decide +kernel
theorem d_He_make_96 : decode b_He_make 96 = .ok (.aload_n 0, 1) := by decide +kernel
theorem d_He_make_97 : decode b_He_make 97 = .ok (.getfield 21, 3) := by decide +kernel
theorem d_He_make_100 : decode b_He_make 100 = .ok (.iconst 4, 1) := by decide +kernel
theorem d_He_make_101 : decode b_He_make 101 = .ok (.iaload, 1) := by decide +kernel
theorem d_He_make_102 : decode b_He_make 102 = .ok (.putfield 86, 3) := by decide +kernel
theorem d_He_make_105 : decode b_He_make 105 = .ok (.aload 5, 2) := by decide +kernel
theorem d_He_make_107 : decode b_He_make 107 = .ok (.iconst 0, 1) := by decide +kernel
theorem d_He_make_108 : decode b_He_make 108 = .ok (.putfield 89, 3) := by decide +kernel
theorem d_He_make_111 : decode b_He_make 111 = .ok (.aload_n 0, 1) := by decide +kernel
theorem d_He_make_112 : decode b_He_make 112 = .ok (.getfield 21, 3) := by decide +kernel
theorem d_He_make_115 : decode b_He_make 115 = .ok (.iconst 3, 1) := by decide +kernel
theorem d_He_make_116 : decode b_He_make 116 = .ok (.dup2, 1) := by decide +kernel
theorem d_He_make_117 : decode b_He_make 117 = .ok (.iaload, 1) := by decide +kernel
theorem d_He_make_118 : decode b_He_make 118 = .ok (.iconst 1, 1) := by decide +kernel
theorem d_He_make_119 : decode b_He_make 119 = .ok (.iadd, 1) := by decide +kernel
theorem d_He_make_120 : decode b_He_make 120 = .ok (.iastore, 1) := by decide +kernel
theorem d_He_make_121 : decode b_He_make 121 = .ok (.aload_n 0, 1) := by decide +kernel
theorem d_He_make_122 : decode b_He_make 122 = .ok (.getfield 21, 3) := by decide +kernel
theorem d_He_make_125 : decode b_He_make 125 = .ok (.iconst 4, 1) := by decide +kernel
theorem d_He_make_126 : decode b_He_make 126 = .ok (.dup2, 1) := by decide +kernel
theorem d_He_make_127 : decode b_He_make 127 = .ok (.iaload, 1) := by decide +kernel
theorem d_He_make_128 : decode b_He_make 128 = .ok (.iconst 1, 1) := by decide +kernel
theorem d_He_make_129 : decode b_He_make 129 = .ok (.iadd, 1) := by decide +kernel
theorem d_He_make_130 : decode b_He_make 130 = .ok (.iastore, 1) := by decide +kernel
theorem d_He_make_131 : decode b_He_make 131 = .ok (.aload_n 0, 1) := by decide +kernel
theorem d_He_make_132 : decode b_He_make 132 = .ok (.getfield 21, 3) := by decide +kernel
theorem d_He_make_135 : decode b_He_make 135 = .ok (.bipush 12, 2) := by decide +kernel
theorem d_He_make_137 : decode b_He_make 137 = .ok (.dup2, 1) := by decide +kernel
theorem d_He_make_138 : decode b_He_make 138 = .ok (.iaload, 1) := by decide +kernel
theorem d_He_make_139 : decode b_He_make 139 = .ok (.iconst 1, 1) := by decide +kernel
theorem d_He_make_140 : decode b_He_make 140 = .ok (.iadd, 1) := by decide +kernel
theorem d_He_make_141 : decode b_He_make 141 = .ok (.iastore, 1) := by decide +kernel
theorem d_He_make_142 : decode b_He_make 142 = .ok (.aload_n 0, 1) := by decide +kernel
theorem d_He_make_143 : decode b_He_make 143 = .ok (.getfield 21, 3) := by decide +kernel
theorem d_He_make_146 : decode b_He_make 146 = .ok (.bipush 7, 2) := by decide +kernel
theorem d_He_make_148 : decode b_He_make 148 = .ok (.dup2, 1) := by decide +kernel
theorem d_He_make_149 : decode b_He_make 149 = .ok (.iaload, 1) := by decide +kernel
theorem d_He_make_150 : decode b_He_make 150 = .ok (.iload_n 2, 1) := by decide +kernel
theorem d_He_make_151 : decode b_He_make 151 = .ok (.iadd, 1) := by decide +kernel
theorem d_He_make_152 : decode b_He_make 152 = .ok (.iastore, 1) := by decide +kernel
theorem d_He_make_153 : decode b_He_make 153 = .ok (.aload_n 0, 1) := by decide +kernel
theorem d_He_make_154 : decode b_He_make 154 = .ok (.getfield 21, 3) := by decide +kernel
theorem d_He_make_157 : decode b_He_make 157 = .ok (.bipush 13, 2) := by decide +kernel
theorem d_He_make_159 : decode b_He_make 159 = .ok (.dup2, 1) := by decide +kernel
theorem d_He_make_160 : decode b_He_make 160 = .ok (.iaload, 1) := by decide +kernel
theorem d_He_make_161 : decode b_He_make 161 = .ok (.iload_n 2, 1) := by decide +kernel
theorem d_He_make_162 : decode b_He_make 162 = .ok (.iadd, 1) := by decide +kernel
theorem d_He_make_163 : decode b_He_make 163 = .ok (.iastore, 1) := by decide +kernel
theorem d_He_make_164 : decode b_He_make 164 = .ok (.aload_n 0, 1) := by decide +kernel
theorem d_He_make_165 : decode b_He_make 165 = .ok (.getfield 21, 3) := by decide +kernel
theorem d_He_make_168 : decode b_He_make 168 = .ok (.bipush 8, 2) := by decide +kernel
theorem d_He_make_170 : decode b_He_make 170 = .ok (.dup2, 1) := by decide +kernel
theorem d_He_make_171 : decode b_He_make 171 = .ok (.iaload, 1) := by decide +kernel
theorem d_He_make_172 : decode b_He_make 172 = .ok (.iload_n 3, 1) := by decide +kernel
theorem d_He_make_173 : decode b_He_make 173 = .ok (.iadd, 1) := by decide +kernel
theorem d_He_make_174 : decode b_He_make 174 = .ok (.iastore, 1) := by decide +kernel
theorem d_He_make_175 : decode b_He_make 175 = .ok (.aload_n 0, 1) := by decide +kernel
theorem d_He_make_176 : decode b_He_make 176 = .ok (.getfield 21, 3) := by decide +kernel
theorem d_He_make_179 : decode b_He_make 179 = .ok (.bipush 14, 2) := by decide +kernel
theorem d_He_make_181 : decode b_He_make 181 = .ok (.dup2, 1) := by decide +kernel
theorem d_He_make_182 : decode b_He_make 182 = .ok (.iaload, 1) := by decide +kernel
theorem d_He_make_183 : decode b_He_make 183 = .ok (.iload_n 3, 1) := by decide +kernel
theorem d_He_make_184 : decode b_He_make 184 = .ok (.iadd, 1) := by decide +kernel
theorem d_He_make_185 : decode b_He_make 185 = .ok (.iastore, 1) := by decide +kernel
theorem d_He_make_186 : decode b_He_make 186 = .ok (.iload 4, 2) := by decide +kernel
theorem d_He_make_188 : decode b_He_make 188 = .ok (.ireturn, 1) := by decide +kernel
theorem kw_1348 : Cond.constant R_He 65 60000 ∈ wA := kinm (show _ ∈ tables_1 from (List.mem_append_right _ (List.mem_append_right _ (List.mem_append_right _ (List.mem_append_right _ (List.mem_append_left _ (List.mem_of_getElem? (l := tables_1_5) (i := 120) (by decide +kernel)))))))) (by decide +kernel)
theorem kw_1349 : Cond.constant R_He 66 300000 ∈ wA := kinm (show _ ∈ tables_1 from (List.mem_append_right _ (List.mem_append_right _ (List.mem_append_right _ (List.mem_append_right _ (List.mem_append_left _ (List.mem_of_getElem? (l := tables_1_5) (i := 121) (by decide +kernel)))))))) (by decide +kernel)
theorem kw_1350 : Cond.constant R_He 67 400000 ∈ wA := kinm (show _ ∈ tables_1 from (List.mem_append_right _ (List.mem_append_right _ (List.mem_append_right _ (List.mem_append_right _ (List.mem_append_left _ (List.mem_of_getElem? (l := tables_1_5) (i := 122) (by decide +kernel)))))))) (by decide +kernel)
theorem kw_1351 : Cond.methodLink R_He 68 y_He_isFull ∈ wA := kinm (show _ ∈ tables_1 from (List.mem_append_right _ (List.mem_append_right _ (List.mem_append_right _ (List.mem_append_right _ (List.mem_append_left _ (List.mem_of_getElem? (l := tables_1_5) (i := 123) (by decide +kernel)))))))) (by decide +kernel)
theorem kw_1352 : Cond.methodLink R_He 79 y_He_takeSlot ∈ wA := kinm (show _ ∈ tables_1 from (List.mem_append_right _ (List.mem_append_right _ (List.mem_append_right _ (List.mem_append_right _ (List.mem_append_left _ (List.mem_of_getElem? (l := tables_1_5) (i := 163) (by decide +kernel)))))))) (by decide +kernel)
theorem kw_1353 : Cond.fieldLink R_He 72 "LuaMachine$Heap" "loading" "Z" ∈ wA := kinm (show _ ∈ tables_1 from (List.mem_append_left _ (List.mem_of_getElem? (l := tables_1_1) (i := 166) (by decide +kernel)))) (by decide +kernel)
theorem kw_1354 : Cond.methodLink R_He 76 y_He_clean ∈ wA := kinm (show _ ∈ tables_1 from (List.mem_append_right _ (List.mem_append_right _ (List.mem_append_right _ (List.mem_append_right _ (List.mem_append_left _ (List.mem_of_getElem? (l := tables_1_5) (i := 127) (by decide +kernel)))))))) (by decide +kernel)
theorem kw_1355 : Cond.instanceMethod y_He_make ∈ wA := kinm (show _ ∈ tables_1 from (List.mem_append_right _ (List.mem_append_right _ (List.mem_append_right _ (List.mem_append_right _ (List.mem_append_left _ (List.mem_of_getElem? (l := tables_1_5) (i := 117) (by decide +kernel)))))))) (by decide +kernel)
theorem kw_1356 : Cond.selects R_He y_He_make y_He_make ∈ wA := kinm (show _ ∈ tables_1 from (List.mem_append_right _ (List.mem_append_right _ (List.mem_append_right _ (List.mem_append_right _ (List.mem_append_left _ (List.mem_of_getElem? (l := tables_1_5) (i := 118) (by decide +kernel)))))))) (by decide +kernel)
theorem cv_He_make : CV y_He_make b_He_make 6 (some .int) 3 := ⟨kw_1355, kw_1356, kw_712, k_He_make, by decide +kernel⟩
theorem j_He_make_j40 {X : Cx} {q0 q : PL} (g : Gd X y_He_make b_He_make 6 (some .int) 3 72 R_He) {o : (Int32 × (Nat × Nat)) × S1} (hR : RtX X [] q0 o.1.2 o.2 (fun _ => some (.int o.1.1))) (hx0 : Exq (xP X) [] q0 q) (ln : Nat × Nat) (hm : Rmq (xP X) q ln) (s : S1) (ls : Array Slot) (hl : lv_has ls 6 []) (h : M_He_make_j40 ln s = some o) : WW X q s 40 ls [] := by
  unfold M_He_make_j40 at h
  refine ww_bipush (pc := 40) g.1 (v := (-11)) d_He_make_40 (by decide) ?_
  exact ww_iretX (pc := 42) g h hR hx0 hm d_He_make_42

theorem j_He_make_j62 {X : Cx} {q0 q : PL} (g : Gd X y_He_make b_He_make 6 (some .int) 3 72 R_He) {o : (Int32 × (Nat × Nat)) × S1} (hR : RtX X [] q0 o.1.2 o.2 (fun _ => some (.int o.1.1))) (hx0 : Exq (xP X) [] q0 q) (l1 : Int32) (l2 : Int32) (l3 : Int32) (ln : Nat × Nat) (hm : Rmq (xP X) q ln) (s : S1) (ls : Array Slot) (hl : lv_has ls 6 [(0, .ref (q.1 111 0)), (1, .int l1), (2, .int l2), (3, .int l3)]) (h : M_He_make_j62 l1 l2 l3 ln s = some o) : WW X q s 62 ls [] := by
  unfold M_He_make_j62 at h
  refine ww_aload_n (pc := 62) g.1 d_He_make_62 rfl (lv_at hl 0 rfl) ?_
  refine ww_iload_n (pc := 63) g.1 d_He_make_63 rfl (lv_at hl 1 rfl) ?_
  obtain ⟨v64, s, hc64, h⟩ := oB_of h
  refine ww_callV (pc := 64) (rest := []) g cv_He_isFull (Or.inl kw_1351) cl_He (pz rfl (by decide)) (ct_He_isFull hc64) ⟨by decide, by decide⟩ rfl hl.1 (Nat.le_of_ble_eq_true rfl) d_He_make_64 rfl (?_)
  refine ww_st (st' := [.int v64]) rfl ?_
  refine ww_if_eq (pc := 67) (tgt := 73) g.1 d_He_make_67 (by decide) h (fun c h => ?_) (fun c h => ?_)
  · refine ww_aload_n (pc := 73) g.1 d_He_make_73 rfl (lv_at hl 0 rfl) ?_
    refine ww_lo fun dlo => ?_
    obtain ⟨v74, s, hc74, h⟩ := oB_of h
    refine ww_callVX (pc := 74) (rest := []) g cv_He_takeSlot (Or.inl kw_1352) cl_He (pz rfl (by decide)) (ct_He_takeSlot hm hc74) ⟨by decide, by decide⟩ rfl hl.1 (Nat.le_of_ble_eq_true rfl) d_He_make_74 rfl (fun q74 hE hm => ?_)
    have ex74_0 : q74.1 111 0 = q.1 111 0 := hE _ _ (by decide) (dlo _ _ (pz rfl (by decide)))
    have hl : lv_has ls 6 [(0, .ref (q74.1 111 0)), (1, .int l1), (2, .int l2), (3, .int l3)] := by rw [ex74_0]; exact hl
    refine ww_st (st' := [.int v74.1]) (by rfl) ?_
    have hx0 : Exq (xP X) [] _ q74 := hx0.tr (hE.sub (by decide))
    refine ww_istore (pc := 77) (i := 4) g.1 (lv' := [(4, .int v74.1), (0, .ref (q74.1 111 0)), (1, .int l1), (2, .int l2), (3, .int l3)]) d_He_make_77 hl (by decide) rfl fun ls hl => ?_
    refine ww_aload_n (pc := 79) g.1 d_He_make_79 rfl (lv_at hl 1 rfl) ?_
    refine ww_gR (pc := 80) g (k := 0) cl_He (pz rfl (by decide)) (by decide) (Or.inl kw_725) (f := 14208) (t := 112) rfl rfl rfl d_He_make_80 ?_
    refine ww_iload (pc := 83) g.1 d_He_make_83 (lv_at hl 0 rfl) ?_
    refine ww_a8 (pc := 85) g (t := 145) (n := 4000) (pz rfl (by decide)) rfl rfl rfl rfl d_He_make_85 h fun pa85 h => ?_
    refine ww_astore (pc := 86) (i := 5) g.1 (lv' := [(5, .ref (q74.1 145 v74.1)), (4, .int v74.1), (0, .ref (q74.1 111 0)), (1, .int l1), (2, .int l2), (3, .int l3)]) d_He_make_86 hl (by decide) rfl fun ls hl => ?_
    refine ww_aload (pc := 88) g.1 d_He_make_88 (lv_at hl 0 rfl) ?_
    refine ww_iload_n (pc := 90) g.1 d_He_make_90 rfl (lv_at hl 3 rfl) ?_
    refine ww_pI (pc := 91) g (k := 0) cl_Tg pa85 (by decide) (Or.inl kw_747) rfl (f := 18560) rfl rfl rfl rfl d_He_make_91 h fun s hs h => ?_
    have pa85 : prs s 145 v74.1 := prs_kI (r := 145) (k := 0) (by decide) hs pa85
    refine ww_aload (pc := 94) g.1 d_He_make_94 (lv_at hl 0 rfl) ?_
    refine ww_aload_n (pc := 96) g.1 d_He_make_96 rfl (lv_at hl 2 rfl) ?_
    refine ww_gR (pc := 97) g (k := 4) cl_He (pz rfl (by decide)) (by decide) (Or.inl kw_704) (f := 14212) (t := 114) rfl rfl rfl d_He_make_97 ?_
    refine ww_iconst (pc := 100) g.1 (v := 4) d_He_make_100 (by decide) ?_
    refine ww_ai (pc := 101) g (pz rfl (by decide)) rfl rfl d_He_make_101 h fun v101 h => ?_
    refine ww_pI (pc := 102) g (k := 1) cl_Tg pa85 (by decide) (Or.inl kw_956) rfl (f := 18561) rfl rfl rfl rfl d_He_make_102 h fun s hs h => ?_
    have pa85 : prs s 145 v74.1 := prs_kI (r := 145) (k := 1) (by decide) hs pa85
    refine ww_aload (pc := 105) g.1 d_He_make_105 (lv_at hl 0 rfl) ?_
    refine ww_iconst (pc := 107) g.1 (v := 0) d_He_make_107 (by decide) ?_
    refine ww_pI (pc := 108) g (k := 3) cl_Tg pa85 (by decide) (Or.inl kw_1233) rfl (f := 18563) rfl rfl rfl rfl d_He_make_108 h fun s hs h => ?_
    have pa85 : prs s 145 v74.1 := prs_kI (r := 145) (k := 3) (by decide) hs pa85
    refine ww_aload_n (pc := 111) g.1 d_He_make_111 rfl (lv_at hl 2 rfl) ?_
    refine ww_gR (pc := 112) g (k := 4) cl_He (pz rfl (by decide)) (by decide) (Or.inl kw_704) (f := 14212) (t := 114) rfl rfl rfl d_He_make_112 ?_
    refine ww_iconst (pc := 115) g.1 (v := 3) d_He_make_115 (by decide) ?_
    refine ww_dup2_11 (pc := 116) g.1 d_He_make_116 rfl rfl ?_
    refine ww_ai (pc := 117) g (pz rfl (by decide)) rfl rfl d_He_make_117 h fun v117 h => ?_
    refine ww_iconst (pc := 118) g.1 (v := 1) d_He_make_118 (by decide) ?_
    refine ww_iadd (pc := 119) g.1 d_He_make_119 ?_
    refine ww_si (pc := 120) g (pz rfl (by decide)) rfl rfl d_He_make_120 h fun s hs h => ?_
    have pa85 : prs s 145 v74.1 := hs ▸ pa85
    refine ww_aload_n (pc := 121) g.1 d_He_make_121 rfl (lv_at hl 2 rfl) ?_
    refine ww_gR (pc := 122) g (k := 4) cl_He (pz rfl (by decide)) (by decide) (Or.inl kw_704) (f := 14212) (t := 114) rfl rfl rfl d_He_make_122 ?_
    refine ww_iconst (pc := 125) g.1 (v := 4) d_He_make_125 (by decide) ?_
    refine ww_dup2_11 (pc := 126) g.1 d_He_make_126 rfl rfl ?_
    refine ww_ai (pc := 127) g (pz rfl (by decide)) rfl rfl d_He_make_127 h fun v127 h => ?_
    refine ww_iconst (pc := 128) g.1 (v := 1) d_He_make_128 (by decide) ?_
    refine ww_iadd (pc := 129) g.1 d_He_make_129 ?_
    refine ww_si (pc := 130) g (pz rfl (by decide)) rfl rfl d_He_make_130 h fun s hs h => ?_
    have pa85 : prs s 145 v74.1 := hs ▸ pa85
    refine ww_aload_n (pc := 131) g.1 d_He_make_131 rfl (lv_at hl 2 rfl) ?_
    refine ww_gR (pc := 132) g (k := 4) cl_He (pz rfl (by decide)) (by decide) (Or.inl kw_704) (f := 14212) (t := 114) rfl rfl rfl d_He_make_132 ?_
    refine ww_bipush (pc := 135) g.1 (v := 12) d_He_make_135 (by decide) ?_
    refine ww_dup2_11 (pc := 137) g.1 d_He_make_137 rfl rfl ?_
    refine ww_ai (pc := 138) g (pz rfl (by decide)) rfl rfl d_He_make_138 h fun v138 h => ?_
    refine ww_iconst (pc := 139) g.1 (v := 1) d_He_make_139 (by decide) ?_
    refine ww_iadd (pc := 140) g.1 d_He_make_140 ?_
    refine ww_si (pc := 141) g (pz rfl (by decide)) rfl rfl d_He_make_141 h fun s hs h => ?_
    have pa85 : prs s 145 v74.1 := hs ▸ pa85
    refine ww_aload_n (pc := 142) g.1 d_He_make_142 rfl (lv_at hl 2 rfl) ?_
    refine ww_gR (pc := 143) g (k := 4) cl_He (pz rfl (by decide)) (by decide) (Or.inl kw_704) (f := 14212) (t := 114) rfl rfl rfl d_He_make_143 ?_
    refine ww_bipush (pc := 146) g.1 (v := 7) d_He_make_146 (by decide) ?_
    refine ww_dup2_11 (pc := 148) g.1 d_He_make_148 rfl rfl ?_
    refine ww_ai (pc := 149) g (pz rfl (by decide)) rfl rfl d_He_make_149 h fun v149 h => ?_
    refine ww_iload_n (pc := 150) g.1 d_He_make_150 rfl (lv_at hl 4 rfl) ?_
    refine ww_iadd (pc := 151) g.1 d_He_make_151 ?_
    refine ww_si (pc := 152) g (pz rfl (by decide)) rfl rfl d_He_make_152 h fun s hs h => ?_
    have pa85 : prs s 145 v74.1 := hs ▸ pa85
    refine ww_aload_n (pc := 153) g.1 d_He_make_153 rfl (lv_at hl 2 rfl) ?_
    refine ww_gR (pc := 154) g (k := 4) cl_He (pz rfl (by decide)) (by decide) (Or.inl kw_704) (f := 14212) (t := 114) rfl rfl rfl d_He_make_154 ?_
    refine ww_bipush (pc := 157) g.1 (v := 13) d_He_make_157 (by decide) ?_
    refine ww_dup2_11 (pc := 159) g.1 d_He_make_159 rfl rfl ?_
    refine ww_ai (pc := 160) g (pz rfl (by decide)) rfl rfl d_He_make_160 h fun v160 h => ?_
    refine ww_iload_n (pc := 161) g.1 d_He_make_161 rfl (lv_at hl 4 rfl) ?_
    refine ww_iadd (pc := 162) g.1 d_He_make_162 ?_
    refine ww_si (pc := 163) g (pz rfl (by decide)) rfl rfl d_He_make_163 h fun s hs h => ?_
    have pa85 : prs s 145 v74.1 := hs ▸ pa85
    refine ww_aload_n (pc := 164) g.1 d_He_make_164 rfl (lv_at hl 2 rfl) ?_
    refine ww_gR (pc := 165) g (k := 4) cl_He (pz rfl (by decide)) (by decide) (Or.inl kw_704) (f := 14212) (t := 114) rfl rfl rfl d_He_make_165 ?_
    refine ww_bipush (pc := 168) g.1 (v := 8) d_He_make_168 (by decide) ?_
    refine ww_dup2_11 (pc := 170) g.1 d_He_make_170 rfl rfl ?_
    refine ww_ai (pc := 171) g (pz rfl (by decide)) rfl rfl d_He_make_171 h fun v171 h => ?_
    refine ww_iload_n (pc := 172) g.1 d_He_make_172 rfl (lv_at hl 5 rfl) ?_
    refine ww_iadd (pc := 173) g.1 d_He_make_173 ?_
    refine ww_si (pc := 174) g (pz rfl (by decide)) rfl rfl d_He_make_174 h fun s hs h => ?_
    have pa85 : prs s 145 v74.1 := hs ▸ pa85
    refine ww_aload_n (pc := 175) g.1 d_He_make_175 rfl (lv_at hl 2 rfl) ?_
    refine ww_gR (pc := 176) g (k := 4) cl_He (pz rfl (by decide)) (by decide) (Or.inl kw_704) (f := 14212) (t := 114) rfl rfl rfl d_He_make_176 ?_
    refine ww_bipush (pc := 179) g.1 (v := 14) d_He_make_179 (by decide) ?_
    refine ww_dup2_11 (pc := 181) g.1 d_He_make_181 rfl rfl ?_
    refine ww_ai (pc := 182) g (pz rfl (by decide)) rfl rfl d_He_make_182 h fun v182 h => ?_
    refine ww_iload_n (pc := 183) g.1 d_He_make_183 rfl (lv_at hl 5 rfl) ?_
    refine ww_iadd (pc := 184) g.1 d_He_make_184 ?_
    refine ww_si (pc := 185) g (pz rfl (by decide)) rfl rfl d_He_make_185 h fun s hs h => ?_
    have pa85 : prs s 145 v74.1 := hs ▸ pa85
    refine ww_iload (pc := 186) g.1 d_He_make_186 (lv_at hl 1 rfl) ?_
    exact ww_iretX (pc := 188) g h hR hx0 hm d_He_make_188
  · refine ww_bipush (pc := 70) g.1 (v := (-10)) d_He_make_70 (by decide) ?_
    exact ww_iretX (pc := 72) g h hR hx0 hm d_He_make_72

theorem ct_He_make {l : Launch} {P : PP} {q : PL} {s s' : S1} {n0 n1 : Nat × Nat} {l1 : Int32} {l2 : Int32} {l3 : Int32} {r : Int32} (hm : Rmq P q n0) (h : M_He_make n0 l1 l2 l3 s = some ((r, n1), s')) : CtX l y_He_make b_He_make 6 (some .int) 3 72 P [] q s [.ref (q.1 111 0), .int l1, .int l2, .int l3] (fun _ => some (.int r)) n1 s' := by
  refine ctX_of (by decide) (Nat.le_of_ble_eq_true rfl) fun X ls eP el g hR hl => ?_
  subst eP
  obtain ⟨q0, hq0⟩ : ∃ q0 : PL, q0 = q := ⟨q, rfl⟩
  have hx0 : Exq (xP X) [] q0 q := hq0 ▸ Exq.rf
  rw [← hq0] at hR
  have hR : RtX X [] q0 (((r, n1), s') : (Int32 × (Nat × Nat)) × S1).1.2 (((r, n1), s') : (Int32 × (Nat × Nat)) × S1).2 (fun _ => some (.int (((r, n1), s') : (Int32 × (Nat × Nat)) × S1).1.1)) := hR
  have hl : lv_has ls 6 [(0, .ref (q.1 111 0)), (1, .int l1), (2, .int l2), (3, .int l3)] := hl
  generalize ((r, n1), s') = o at h hR
  unfold M_He_make at h
  refine ww_aload_n (pc := 0) g.1 d_He_make_0 rfl (lv_at hl 0 rfl) ?_
  refine ww_gR (pc := 1) g (k := 4) cl_He (pz rfl (by decide)) (by decide) (Or.inl kw_704) (f := 14212) (t := 114) rfl rfl rfl d_He_make_1 ?_
  refine ww_bipush (pc := 4) g.1 (v := 12) d_He_make_4 (by decide) ?_
  refine ww_ai (pc := 6) g (pz rfl (by decide)) rfl rfl d_He_make_6 h fun v6 h => ?_
  refine ww_ldc (pc := 7) g (v := 60000) kw_1348 d_He_make_7 ?_
  refine ww_icmp_ge (pc := 9) (tgt := 40) g.1 d_He_make_9 (by decide) h (fun c h => ?_) (fun c h => ?_)
  · exact j_He_make_j40 g hR hx0 n0 hm s ls (lv_sub hl [] rfl) h
  · refine ww_aload_n (pc := 12) g.1 d_He_make_12 rfl (lv_at hl 0 rfl) ?_
    refine ww_gR (pc := 13) g (k := 4) cl_He (pz rfl (by decide)) (by decide) (Or.inl kw_704) (f := 14212) (t := 114) rfl rfl rfl d_He_make_13 ?_
    refine ww_bipush (pc := 16) g.1 (v := 13) d_He_make_16 (by decide) ?_
    refine ww_ai (pc := 18) g (pz rfl (by decide)) rfl rfl d_He_make_18 h fun v18 h => ?_
    refine ww_iload_n (pc := 19) g.1 d_He_make_19 rfl (lv_at hl 2 rfl) ?_
    refine ww_iadd (pc := 20) g.1 d_He_make_20 ?_
    refine ww_ldc (pc := 21) g (v := 300000) kw_1349 d_He_make_21 ?_
    refine ww_icmp_gt (pc := 23) (tgt := 40) g.1 d_He_make_23 (by decide) h (fun c h => ?_) (fun c h => ?_)
    · exact j_He_make_j40 g hR hx0 n0 hm s ls (lv_sub hl [] rfl) h
    · refine ww_aload_n (pc := 26) g.1 d_He_make_26 rfl (lv_at hl 0 rfl) ?_
      refine ww_gR (pc := 27) g (k := 4) cl_He (pz rfl (by decide)) (by decide) (Or.inl kw_704) (f := 14212) (t := 114) rfl rfl rfl d_He_make_27 ?_
      refine ww_bipush (pc := 30) g.1 (v := 14) d_He_make_30 (by decide) ?_
      refine ww_ai (pc := 32) g (pz rfl (by decide)) rfl rfl d_He_make_32 h fun v32 h => ?_
      refine ww_iload_n (pc := 33) g.1 d_He_make_33 rfl (lv_at hl 3 rfl) ?_
      refine ww_iadd (pc := 34) g.1 d_He_make_34 ?_
      refine ww_ldc (pc := 35) g (v := 400000) kw_1350 d_He_make_35 ?_
      refine ww_icmp_le (pc := 37) (tgt := 43) g.1 d_He_make_37 (by decide) h (fun c h => ?_) (fun c h => ?_)
      · refine ww_aload_n (pc := 43) g.1 d_He_make_43 rfl (lv_at hl 0 rfl) ?_
        refine ww_iload_n (pc := 44) g.1 d_He_make_44 rfl (lv_at hl 1 rfl) ?_
        obtain ⟨v45, s, hc45, h⟩ := oB_of h
        refine ww_callV (pc := 45) (rest := []) g cv_He_isFull (Or.inl kw_1351) cl_He (pz rfl (by decide)) (ct_He_isFull hc45) ⟨by decide, by decide⟩ rfl hl.1 (Nat.le_of_ble_eq_true rfl) d_He_make_45 rfl (?_)
        refine ww_st (st' := [.int v45]) rfl ?_
        refine ww_if_eq (pc := 48) (tgt := 62) g.1 d_He_make_48 (by decide) h (fun c h => ?_) (fun c h => ?_)
        · exact j_He_make_j62 g hR hx0 l1 l2 l3 n0 hm s ls (lv_sub hl [0, 1, 2, 3] rfl) h
        · refine ww_aload_n (pc := 51) g.1 d_He_make_51 rfl (lv_at hl 0 rfl) ?_
          refine ww_gI (pc := 52) g (k := 13) cl_He (pz rfl (by decide)) (by decide) (Or.inl kw_1353) (f := 14221) rfl rfl d_He_make_52 h fun v52 h => ?_
          refine ww_if_ne (pc := 55) (tgt := 62) g.1 d_He_make_55 (by decide) h (fun c h => ?_) (fun c h => ?_)
          · exact j_He_make_j62 g hR hx0 l1 l2 l3 n0 hm s ls (lv_sub hl [0, 1, 2, 3] rfl) h
          · refine ww_aload_n (pc := 58) g.1 d_He_make_58 rfl (lv_at hl 0 rfl) ?_
            obtain ⟨v59, s, hc59, h⟩ := oB_of h
            refine ww_callV (pc := 59) (rest := []) g cv_He_clean (Or.inl kw_1354) cl_He (pz rfl (by decide)) (ct_He_clean hc59) ⟨by decide, by decide⟩ rfl hl.1 (Nat.le_of_ble_eq_true rfl) d_He_make_59 rfl (?_)
            refine ww_st (st' := []) rfl ?_
            exact j_He_make_j62 g hR hx0 l1 l2 l3 n0 hm s ls (lv_sub hl [0, 1, 2, 3] rfl) h
      · exact j_He_make_j40 g hR hx0 n0 hm s ls (lv_sub hl [] rfl) h


