abbrev b_St_gather : ByteArray := prog_10_method_31_code
def y_St_gather : MethodName := ⟨R_St, "gather", "(LLuaMachine$Row;II)Z"⟩
abbrev w_St_gather : List Cond := .code y_St_gather b_St_gather 7 (some .boolean) :: wA
set_option maxRecDepth 20000 in
theorem k_St_gather : Cond.code y_St_gather b_St_gather 7 (some .boolean) ∈ wA := kinm (show _ ∈ tables_1 from (List.mem_append_right _ (List.mem_append_right _ (List.mem_append_right _ (List.mem_append_right _ (List.mem_append_right _ (List.mem_append_right _ (List.mem_append_left _ (List.mem_of_getElem? (l := tables_1_7) (i := 176) rfl))))))))) rfl
theorem d_St_gather_0 : decode b_St_gather 0 = .ok (.iload_n 3, 1) := by decide +kernel
theorem d_St_gather_1 : decode b_St_gather 1 = .ok (.ifCond .ge 13, 3) := by decide +kernel
theorem d_St_gather_4 : decode b_St_gather 4 = .ok (.aload_n 0, 1) := by decide +kernel
theorem d_St_gather_5 : decode b_St_gather 5 = .ok (.getfield 9, 3) := by decide +kernel
theorem d_St_gather_8 : decode b_St_gather 8 = .ok (.getfield 351, 3) := by decide +kernel
theorem d_St_gather_11 : decode b_St_gather 11 = .ok (.goto 6, 3) := by decide +kernel
theorem d_St_gather_14 : decode b_St_gather 14 = .ok (.iload_n 2, 1) := by decide +kernel
theorem d_St_gather_15 : decode b_St_gather 15 = .ok (.iload_n 3, 1) := by decide +kernel
theorem d_St_gather_16 : decode b_St_gather 16 = .ok (.iadd, 1) := by decide +kernel
theorem d_St_gather_17 : decode b_St_gather 17 = .ok (.istore 4, 2) := by decide +kernel
theorem d_St_gather_19 : decode b_St_gather 19 = .ok (.iload_n 3, 1) := by decide +kernel
theorem d_St_gather_20 : decode b_St_gather 20 = .ok (.ifCond .ge 16, 3) := by decide +kernel
theorem d_St_gather_23 : decode b_St_gather 23 = .ok (.aload_n 0, 1) := by decide +kernel
theorem d_St_gather_24 : decode b_St_gather 24 = .ok (.getfield 9, 3) := by decide +kernel
theorem d_St_gather_27 : decode b_St_gather 27 = .ok (.getfield 354, 3) := by decide +kernel
theorem d_St_gather_30 : decode b_St_gather 30 = .ok (.getfield 276, 3) := by decide +kernel
theorem d_St_gather_33 : decode b_St_gather 33 = .ok (.goto 4, 3) := by decide +kernel
theorem d_St_gather_36 : decode b_St_gather 36 = .ok (.iconst 0, 1) := by decide +kernel
theorem d_St_gather_37 : decode b_St_gather 37 = .ok (.istore 5, 2) := by decide +kernel
theorem d_St_gather_39 : decode b_St_gather 39 = .ok (.iload 4, 2) := by decide +kernel
theorem d_St_gather_41 : decode b_St_gather 41 = .ok (.iload_n 2, 1) := by decide +kernel
theorem d_St_gather_42 : decode b_St_gather 42 = .ok (.isub, 1) := by decide +kernel
theorem d_St_gather_43 : decode b_St_gather 43 = .ok (.iload 5, 2) := by decide +kernel
theorem d_St_gather_45 : decode b_St_gather 45 = .ok (.iadd, 1) := by decide +kernel
theorem d_St_gather_46 : decode b_St_gather 46 = .ok (.sipush 250, 3) := by decide +kernel
theorem d_St_gather_49 : decode b_St_gather 49 = .ok (.if_icmp .le 14, 3) := by decide +kernel
theorem d_St_gather_52 : decode b_St_gather 52 = .ok (.aload_n 0, 1) := by decide +kernel
theorem d_St_gather_53 : decode b_St_gather 53 = .ok (.getfield 9, 3) := by decide +kernel
theorem d_St_gather_56 : decode b_St_gather 56 = .ok (.bipush 7, 2) := by decide +kernel
theorem d_St_gather_58 : decode b_St_gather 58 = .ok (.invokevirtual 193, 3) := by decide +kernel
theorem d_St_gather_61 : decode b_St_gather 61 = .ok (.iconst 0, 1) := by decide +kernel
theorem d_St_gather_62 : decode b_St_gather 62 = .ok (.ireturn, 1) := by decide +kernel
theorem d_St_gather_63 : decode b_St_gather 63 = .ok (.aload_n 1, 1) := by decide +kernel
theorem d_St_gather_64 : decode b_St_gather 64 = .ok (.invokevirtual 357, 3) := by decide +kernel
theorem d_St_gather_67 : decode b_St_gather 67 = .ok (.iload_n 2, 1) := by decide +kernel
theorem d_St_gather_68 : decode b_St_gather 68 = .ok (.istore 6, 2) := by decide +kernel
theorem d_St_gather_70 : decode b_St_gather 70 = .ok (.iload 6, 2) := by decide +kernel
theorem d_St_gather_72 : decode b_St_gather 72 = .ok (.iload 4, 2) := by decide +kernel
theorem d_St_gather_74 : decode b_St_gather 74 = .ok (.if_icmp .ge 25, 3) := by decide +kernel
theorem d_St_gather_77 : decode b_St_gather 77 = .ok (.aload_n 1, 1) := by decide +kernel
theorem d_St_gather_78 : decode b_St_gather 78 = .ok (.aload_n 0, 1) := by decide +kernel
theorem d_St_gather_79 : decode b_St_gather 79 = .ok (.iload 6, 2) := by decide +kernel
theorem d_St_gather_81 : decode b_St_gather 81 = .ok (.invokevirtual 77, 3) := by decide +kernel
theorem d_St_gather_84 : decode b_St_gather 84 = .ok (.aload_n 0, 1) := by decide +kernel
theorem d_St_gather_85 : decode b_St_gather 85 = .ok (.iload 6, 2) := by decide +kernel
theorem d_St_gather_87 : decode b_St_gather 87 = .ok (.invokevirtual 80, 3) := by decide +kernel
theorem d_St_gather_90 : decode b_St_gather 90 = .ok (.invokevirtual 220, 3) := by decide +kernel
theorem d_St_gather_93 : decode b_St_gather 93 = .ok (.iinc 6 1, 3) := by decide +kernel
theorem d_St_gather_96 : decode b_St_gather 96 = .ok (.goto (-26), 3) := by decide +kernel
theorem d_St_gather_99 : decode b_St_gather 99 = .ok (.iconst 0, 1) := by decide +kernel
theorem d_St_gather_100 : decode b_St_gather 100 = .ok (.istore 6, 2) := by decide +kernel
theorem d_St_gather_102 : decode b_St_gather 102 = .ok (.iload 6, 2) := by decide +kernel
theorem d_St_gather_104 : decode b_St_gather 104 = .ok (.iload 5, 2) := by decide +kernel
theorem d_St_gather_106 : decode b_St_gather 106 = .ok (.if_icmp .ge 39, 3) := by decide +kernel
theorem d_St_gather_109 : decode b_St_gather 109 = .ok (.aload_n 1, 1) := by decide +kernel
theorem d_St_gather_110 : decode b_St_gather 110 = .ok (.aload_n 0, 1) := by decide +kernel
theorem d_St_gather_111 : decode b_St_gather 111 = .ok (.getfield 9, 3) := by decide +kernel
theorem d_St_gather_114 : decode b_St_gather 114 = .ok (.getfield 354, 3) := by decide +kernel
theorem d_St_gather_117 : decode b_St_gather 117 = .ok (.getfield 360, 3) := by decide +kernel
theorem d_St_gather_120 : decode b_St_gather 120 = .ok (.iload 6, 2) := by decide +kernel
theorem d_St_gather_122 : decode b_St_gather 122 = .ok (.baload, 1) := by decide +kernel
theorem d_St_gather_123 : decode b_St_gather 123 = .ok (.aload_n 0, 1) := by decide +kernel
theorem d_St_gather_124 : decode b_St_gather 124 = .ok (.getfield 9, 3) := by decide +kernel
theorem d_St_gather_127 : decode b_St_gather 127 = .ok (.getfield 354, 3) := by decide +kernel
theorem d_St_gather_130 : decode b_St_gather 130 = .ok (.getfield 361, 3) := by decide +kernel
theorem d_St_gather_133 : decode b_St_gather 133 = .ok (.iload 6, 2) := by decide +kernel
theorem d_St_gather_135 : decode b_St_gather 135 = .ok (.laload, 1) := by decide +kernel
theorem d_St_gather_136 : decode b_St_gather 136 = .ok (.invokevirtual 220, 3) := by decide +kernel
theorem d_St_gather_139 : decode b_St_gather 139 = .ok (.iinc 6 1, 3) := by decide +kernel
theorem d_St_gather_142 : decode b_St_gather 142 = .ok (.goto (-40), 3) := by decide +kernel
theorem d_St_gather_145 : decode b_St_gather 145 = .ok (.aload_n 0, 1) := by decide +kernel
theorem d_St_gather_146 : decode b_St_gather 146 = .ok (.getfield 9, 3) := by decide +kernel
theorem d_St_gather_149 : decode b_St_gather 149 = .ok (.getfield 354, 3) := by decide +kernel
theorem d_St_gather_152 : decode b_St_gather 152 = .ok (.invokevirtual 357, 3) := by decide +kernel
theorem d_St_gather_155 : decode b_St_gather 155 = .ok (.iconst 1, 1) := by decide +kernel
theorem d_St_gather_156 : decode b_St_gather 156 = .ok (.ireturn, 1) := by decide +kernel
theorem kw_1129 : Cond.fieldLink R_St 360 "LuaMachine$Row" "kinds" "[B" ∈ wA := kinm (show _ ∈ tables_1 from (List.mem_append_right _ (List.mem_append_left _ (List.mem_of_getElem? (l := tables_1_2) (i := 29) (by decide +kernel))))) (by decide +kernel)
theorem kw_1130 : Cond.fieldLink R_St 361 "LuaMachine$Row" "values" "[J" ∈ wA := kinm (show _ ∈ tables_1 from (List.mem_append_right _ (List.mem_append_left _ (List.mem_of_getElem? (l := tables_1_2) (i := 35) (by decide +kernel))))) (by decide +kernel)
theorem kw_1131 : Cond.fieldLink R_St 276 "LuaMachine$Row" "size" "I" ∈ wA := kinm (show _ ∈ tables_1 from (List.mem_append_right _ (List.mem_append_left _ (List.mem_of_getElem? (l := tables_1_2) (i := 40) (by decide +kernel))))) (by decide +kernel)
theorem kw_1132 : Cond.instanceMethod y_St_gather ∈ wA := kinm (show _ ∈ tables_1 from (List.mem_append_right _ (List.mem_append_right _ (List.mem_append_right _ (List.mem_append_right _ (List.mem_append_right _ (List.mem_append_right _ (List.mem_append_left _ (List.mem_of_getElem? (l := tables_1_7) (i := 175) (by decide +kernel)))))))))) (by decide +kernel)
theorem kw_1133 : Cond.selects R_St y_St_gather y_St_gather ∈ wA := kinp 59 (by decide +kernel) (by decide +kernel)
theorem cv_St_gather : CV y_St_gather b_St_gather 7 (some .boolean) 3 := ⟨kw_1132, kw_1133, kw_883, k_St_gather, by decide +kernel⟩
theorem lp_St_gather_L70 {X : Cx} {q : PL} (g : Gd X y_St_gather b_St_gather 7 (some .boolean) 2 44 R_St) (x : Nat × Int32 × Int32 × Int32 × Int32) (s : S1) (o : ((Nat × Int32 × Int32 × Int32 × Int32) ⊕ ((Nat × Int32 × Int32))) × S1) (h : M_St_gather_L70 x s = some o) (hR : (Sum.elim (fun y : Nat × Int32 × Int32 × Int32 × Int32 => ∀ ls : Array Slot, (ROK y.1 y.2.1) → lv_has ls 7 [(0, .ref (q.1 129 0)), (1, .ref (q.1 y.1 y.2.1)), (4, .int y.2.2.1), (5, .int y.2.2.2.1), (6, .int y.2.2.2.2)] → WW X q o.2 70 ls []) (fun y : Nat × Int32 × Int32 => ∀ ls : Array Slot, (ROK y.1 y.2.1) → lv_has ls 7 [(0, .ref (q.1 129 0)), (1, .ref (q.1 y.1 y.2.1)), (5, .int y.2.2)] → WW X q o.2 99 ls []) o.1)) : ∀ ls : Array Slot, (ROK x.1 x.2.1) → lv_has ls 7 [(0, .ref (q.1 129 0)), (1, .ref (q.1 x.1 x.2.1)), (4, .int x.2.2.1), (5, .int x.2.2.2.1), (6, .int x.2.2.2.2)] → WW X q s 70 ls [] := by
  intro ls hp0 hl
  unfold M_St_gather_L70 at h
  refine ww_iload (pc := 70) g.1 d_St_gather_70 (lv_at hl 4 rfl) ?_
  refine ww_iload (pc := 72) g.1 d_St_gather_72 (lv_at hl 2 rfl) ?_
  refine ww_icmp_ge (pc := 74) (tgt := 99) g.1 d_St_gather_74 (by decide) h (fun c h => ?_) (fun c h => ?_)
  · rw [oR_eq h] at hR
    exact hR ls hp0 (lv_sub hl [0, 1, 3] rfl)
  · refine ww_aload_n (pc := 77) g.1 d_St_gather_77 rfl (lv_at hl 1 rfl) ?_
    refine ww_aload_n (pc := 78) g.1 d_St_gather_78 rfl (lv_at hl 0 rfl) ?_
    refine ww_iload (pc := 79) g.1 d_St_gather_79 (lv_at hl 4 rfl) ?_
    obtain ⟨v81, s, hc81, h⟩ := oB_of h
    refine ww_callV (pc := 81) (rest := [.ref (q.1 x.1 x.2.1)]) g cv_St_kindOf (Or.inl kw_914) cl_St (pz rfl (by decide)) (ct_St_kindOf hc81) ⟨by decide, by decide⟩ rfl hl.1 (Nat.le_of_ble_eq_true rfl) d_St_gather_81 rfl (?_)
    refine ww_st (st' := [.int v81, .ref (q.1 x.1 x.2.1)]) rfl ?_
    refine ww_aload_n (pc := 84) g.1 d_St_gather_84 rfl (lv_at hl 0 rfl) ?_
    refine ww_iload (pc := 85) g.1 d_St_gather_85 (lv_at hl 4 rfl) ?_
    obtain ⟨v87, s, hc87, h⟩ := oB_of h
    refine ww_callV (pc := 87) (rest := [.int v81, .ref (q.1 x.1 x.2.1)]) g cv_St_valueOf (Or.inl kw_1120) cl_St (pz rfl (by decide)) (ct_St_valueOf hc87) ⟨by decide, by decide⟩ rfl hl.1 (Nat.le_of_ble_eq_true rfl) d_St_gather_87 rfl (?_)
    refine ww_st (st' := [.long v87, .int v81, .ref (q.1 x.1 x.2.1)]) rfl ?_
    obtain ⟨v90, s, hc90, h⟩ := oB_of h
    refine ww_callV (pc := 90) (rest := []) g cv_Ro_add (Or.inl kw_932) (cl_Ro hp0) (rok_p hp0).1 (ct_Ro_add hp0 hc90) ⟨by decide, by decide⟩ rfl hl.1 (Nat.le_of_ble_eq_true rfl) d_St_gather_90 rfl (?_)
    refine ww_st (st' := []) rfl ?_
    refine ww_iinc (pc := 93) g.1 (v := x.2.2.2.2 + 1) (lv' := [(6, .int (x.2.2.2.2 + 1)), (0, .ref (q.1 129 0)), (1, .ref (q.1 x.1 x.2.1)), (4, .int x.2.2.1), (5, .int x.2.2.2.1)]) d_St_gather_93 hl (k := 4) rfl (by rfl) (by decide) rfl fun ls hl => ?_
    refine ww_goto (pc := 96) (tgt := 70) g.1 d_St_gather_96 (by decide) ?_
    rw [oR_eq h] at hR
    exact hR ls hp0 (lv_sub hl [1, 2, 3, 4, 0] rfl)

theorem lp_St_gather_L102 {X : Cx} {q : PL} (g : Gd X y_St_gather b_St_gather 7 (some .boolean) 2 44 R_St) (x : Nat × Int32 × Int32 × Int32) (s : S1) (o : ((Nat × Int32 × Int32 × Int32) ⊕ ((Unit))) × S1) (h : M_St_gather_L102 x s = some o) (hR : (Sum.elim (fun y : Nat × Int32 × Int32 × Int32 => ∀ ls : Array Slot, (ROK y.1 y.2.1) → lv_has ls 7 [(0, .ref (q.1 129 0)), (1, .ref (q.1 y.1 y.2.1)), (5, .int y.2.2.1), (6, .int y.2.2.2)] → WW X q o.2 102 ls []) (fun y : Unit => ∀ ls : Array Slot, lv_has ls 7 [(0, .ref (q.1 129 0))] → WW X q o.2 145 ls []) o.1)) : ∀ ls : Array Slot, (ROK x.1 x.2.1) → lv_has ls 7 [(0, .ref (q.1 129 0)), (1, .ref (q.1 x.1 x.2.1)), (5, .int x.2.2.1), (6, .int x.2.2.2)] → WW X q s 102 ls [] := by
  intro ls hp0 hl
  unfold M_St_gather_L102 at h
  refine ww_iload (pc := 102) g.1 d_St_gather_102 (lv_at hl 3 rfl) ?_
  refine ww_iload (pc := 104) g.1 d_St_gather_104 (lv_at hl 2 rfl) ?_
  refine ww_icmp_ge (pc := 106) (tgt := 145) g.1 d_St_gather_106 (by decide) h (fun c h => ?_) (fun c h => ?_)
  · rw [oR_eq h] at hR
    exact hR ls (lv_sub hl [0] rfl)
  · refine ww_aload_n (pc := 109) g.1 d_St_gather_109 rfl (lv_at hl 1 rfl) ?_
    refine ww_aload_n (pc := 110) g.1 d_St_gather_110 rfl (lv_at hl 0 rfl) ?_
    refine ww_gR (pc := 111) g (k := 0) cl_St (pz rfl (by decide)) (by decide) (Or.inl kw_863) (f := 16512) (t := 128) rfl rfl rfl d_St_gather_111 ?_
    refine ww_gR (pc := 114) g (k := 5) cl_Ma (pz rfl (by decide)) (by decide) (Or.inl kw_930) (f := 16389) (t := 138) rfl rfl rfl d_St_gather_114 ?_
    refine ww_gR (pc := 117) g (k := 0) (cl_Ro ⟨by decide, rfl⟩) (pz rfl (by decide)) (by decide) (Or.inl kw_1129) (f := 17664) (t := 139) rfl rfl rfl d_St_gather_117 ?_
    refine ww_iload (pc := 120) g.1 d_St_gather_120 (lv_at hl 3 rfl) ?_
    refine ww_ab (pc := 122) g (pz rfl (by decide)) rfl rfl d_St_gather_122 h fun v122 h => ?_
    refine ww_aload_n (pc := 123) g.1 d_St_gather_123 rfl (lv_at hl 0 rfl) ?_
    refine ww_gR (pc := 124) g (k := 0) cl_St (pz rfl (by decide)) (by decide) (Or.inl kw_863) (f := 16512) (t := 128) rfl rfl rfl d_St_gather_124 ?_
    refine ww_gR (pc := 127) g (k := 5) cl_Ma (pz rfl (by decide)) (by decide) (Or.inl kw_930) (f := 16389) (t := 138) rfl rfl rfl d_St_gather_127 ?_
    refine ww_gR (pc := 130) g (k := 1) (cl_Ro ⟨by decide, rfl⟩) (pz rfl (by decide)) (by decide) (Or.inl kw_1130) (f := 17665) (t := 140) rfl rfl rfl d_St_gather_130 ?_
    refine ww_iload (pc := 133) g.1 d_St_gather_133 (lv_at hl 3 rfl) ?_
    refine ww_al (pc := 135) g (pz rfl (by decide)) rfl rfl d_St_gather_135 h fun v135 h => ?_
    obtain ⟨v136, s, hc136, h⟩ := oB_of h
    refine ww_callV (pc := 136) (rest := []) g cv_Ro_add (Or.inl kw_932) (cl_Ro hp0) (rok_p hp0).1 (ct_Ro_add hp0 hc136) ⟨by decide, by decide⟩ rfl hl.1 (Nat.le_of_ble_eq_true rfl) d_St_gather_136 rfl (?_)
    refine ww_st (st' := []) rfl ?_
    refine ww_iinc (pc := 139) g.1 (v := x.2.2.2 + 1) (lv' := [(6, .int (x.2.2.2 + 1)), (0, .ref (q.1 129 0)), (1, .ref (q.1 x.1 x.2.1)), (5, .int x.2.2.1)]) d_St_gather_139 hl (k := 3) rfl (by rfl) (by decide) rfl fun ls hl => ?_
    refine ww_goto (pc := 142) (tgt := 102) g.1 d_St_gather_142 (by decide) ?_
    rw [oR_eq h] at hR
    exact hR ls hp0 (lv_sub hl [1, 2, 3, 0] rfl)

theorem j_St_gather_j37 {X : Cx} {q : PL} (g : Gd X y_St_gather b_St_gather 7 (some .boolean) 2 44 R_St) {o : (Int32) × S1} (hR : Rt X q o.2 (some (.int o.1))) (l1r : Nat) (l1 : Int32) (l2 : Int32) (l4 : Int32) (k0 : Int32) (s : S1) (hp0 : ROK l1r l1) (ls : Array Slot) (hl : lv_has ls 7 [(0, .ref (q.1 129 0)), (1, .ref (q.1 l1r l1)), (2, .int l2), (4, .int l4)]) (h : M_St_gather_j37 l1r l1 l2 l4 k0 s = some o) : WW X q s 37 ls [.int k0] := by
  unfold M_St_gather_j37 at h
  refine ww_istore (pc := 37) (i := 5) g.1 (lv' := [(5, .int k0), (0, .ref (q.1 129 0)), (1, .ref (q.1 l1r l1)), (2, .int l2), (4, .int l4)]) d_St_gather_37 hl (by decide) rfl fun ls hl => ?_
  refine ww_iload (pc := 39) g.1 d_St_gather_39 (lv_at hl 4 rfl) ?_
  refine ww_iload_n (pc := 41) g.1 d_St_gather_41 rfl (lv_at hl 3 rfl) ?_
  refine ww_isub (pc := 42) g.1 d_St_gather_42 ?_
  refine ww_iload (pc := 43) g.1 d_St_gather_43 (lv_at hl 0 rfl) ?_
  refine ww_iadd (pc := 45) g.1 d_St_gather_45 ?_
  refine ww_sipush (pc := 46) g.1 (v := 250) d_St_gather_46 (by decide) ?_
  refine ww_icmp_le (pc := 49) (tgt := 63) g.1 d_St_gather_49 (by decide) h (fun c h => ?_) (fun c h => ?_)
  · refine ww_aload_n (pc := 63) g.1 d_St_gather_63 rfl (lv_at hl 2 rfl) ?_
    obtain ⟨v64, s, hc64, h⟩ := oB_of h
    refine ww_callV (pc := 64) (rest := []) g cv_Ro_clear (Or.inl kw_931) (cl_Ro hp0) (rok_p hp0).1 (ct_Ro_clear hp0 hc64) ⟨by decide, by decide⟩ rfl hl.1 (Nat.le_of_ble_eq_true rfl) d_St_gather_64 rfl (?_)
    refine ww_st (st' := []) rfl ?_
    refine ww_iload_n (pc := 67) g.1 d_St_gather_67 rfl (lv_at hl 3 rfl) ?_
    refine ww_istore (pc := 68) (i := 6) g.1 (lv' := [(6, .int l2), (5, .int k0), (0, .ref (q.1 129 0)), (1, .ref (q.1 l1r l1)), (2, .int l2), (4, .int l4)]) d_St_gather_68 hl (by decide) rfl fun ls hl => ?_
    obtain ⟨e70, s1, hw, h⟩ := oB_of h
    refine oW_rule (Wh := fun (x : Nat × Int32 × Int32 × Int32 × Int32) (s : S1) => ∀ ls : Array Slot, (ROK x.1 x.2.1) → lv_has ls 7 [(0, .ref (q.1 129 0)), (1, .ref (q.1 x.1 x.2.1)), (4, .int x.2.2.1), (5, .int x.2.2.2.1), (6, .int x.2.2.2.2)] → WW X q s 70 ls []) (We := fun (e : (Nat × Int32 × Int32)) (s : S1) => ∀ ls : Array Slot, (ROK e.1 e.2.1) → lv_has ls 7 [(0, .ref (q.1 129 0)), (1, .ref (q.1 e.1 e.2.1)), (5, .int e.2.2)] → WW X q s 99 ls []) (fun x s o hb hc => lp_St_gather_L70 (q := q) g x s o hb hc) hw ?_ ls hp0 (lv_sub hl [2, 3, 5, 1, 0] rfl)
    clear hw hl
    clear ls
    intro ls hq70_0 hl
    generalize s1 = s at h ⊢
    refine ww_iconst (pc := 99) g.1 (v := 0) d_St_gather_99 (by decide) ?_
    refine ww_istore (pc := 100) (i := 6) g.1 (lv' := [(6, .int 0), (0, .ref (q.1 129 0)), (1, .ref (q.1 e70.1 e70.2.1)), (5, .int e70.2.2)]) d_St_gather_100 hl (by decide) rfl fun ls hl => ?_
    obtain ⟨e102, s1, hw, h⟩ := oB_of h
    refine oW_rule (Wh := fun (x : Nat × Int32 × Int32 × Int32) (s : S1) => ∀ ls : Array Slot, (ROK x.1 x.2.1) → lv_has ls 7 [(0, .ref (q.1 129 0)), (1, .ref (q.1 x.1 x.2.1)), (5, .int x.2.2.1), (6, .int x.2.2.2)] → WW X q s 102 ls []) (We := fun (e : (Unit)) (s : S1) => ∀ ls : Array Slot, lv_has ls 7 [(0, .ref (q.1 129 0))] → WW X q s 145 ls []) (fun x s o hb hc => lp_St_gather_L102 (q := q) g x s o hb hc) hw ?_ ls hq70_0 (lv_sub hl [1, 2, 3, 0] rfl)
    clear hw hl
    clear ls
    intro ls hl
    generalize s1 = s at h ⊢
    refine ww_aload_n (pc := 145) g.1 d_St_gather_145 rfl (lv_at hl 0 rfl) ?_
    refine ww_gR (pc := 146) g (k := 0) cl_St (pz rfl (by decide)) (by decide) (Or.inl kw_863) (f := 16512) (t := 128) rfl rfl rfl d_St_gather_146 ?_
    refine ww_gR (pc := 149) g (k := 5) cl_Ma (pz rfl (by decide)) (by decide) (Or.inl kw_930) (f := 16389) (t := 138) rfl rfl rfl d_St_gather_149 ?_
    obtain ⟨v152, s, hc152, h⟩ := oB_of h
    refine ww_callV (pc := 152) (rest := []) g cv_Ro_clear (Or.inl kw_931) (cl_Ro ⟨by decide, rfl⟩) (pz rfl (by decide)) (ct_Ro_clear ⟨by decide, rfl⟩ hc152) ⟨by decide, by decide⟩ rfl hl.1 (Nat.le_of_ble_eq_true rfl) d_St_gather_152 rfl (?_)
    refine ww_st (st' := []) rfl ?_
    refine ww_iconst (pc := 155) g.1 (v := 1) d_St_gather_155 (by decide) ?_
    exact ww_zretH (pc := 156) g h hR (Or.inr rfl) d_St_gather_156
  · refine ww_aload_n (pc := 52) g.1 d_St_gather_52 rfl (lv_at hl 1 rfl) ?_
    refine ww_gR (pc := 53) g (k := 0) cl_St (pz rfl (by decide)) (by decide) (Or.inl kw_863) (f := 16512) (t := 128) rfl rfl rfl d_St_gather_53 ?_
    refine ww_bipush (pc := 56) g.1 (v := 7) d_St_gather_56 (by decide) ?_
    obtain ⟨v58, s, hc58, h⟩ := oB_of h
    refine ww_callV (pc := 58) (rest := []) g cv_Ma_fail (Or.inl kw_1106) cl_Ma (pz rfl (by decide)) (ct_Ma_fail hc58) ⟨by decide, by decide⟩ rfl hl.1 (Nat.le_of_ble_eq_true rfl) d_St_gather_58 rfl (?_)
    refine ww_st (st' := []) rfl ?_
    refine ww_iconst (pc := 61) g.1 (v := 0) d_St_gather_61 (by decide) ?_
    exact ww_zretH (pc := 62) g h hR (Or.inl rfl) d_St_gather_62

theorem j_St_gather_j17 {X : Cx} {q : PL} (g : Gd X y_St_gather b_St_gather 7 (some .boolean) 2 44 R_St) {o : (Int32) × S1} (hR : Rt X q o.2 (some (.int o.1))) (l1r : Nat) (l1 : Int32) (l2 : Int32) (l3 : Int32) (k0 : Int32) (s : S1) (hp0 : ROK l1r l1) (ls : Array Slot) (hl : lv_has ls 7 [(0, .ref (q.1 129 0)), (1, .ref (q.1 l1r l1)), (2, .int l2), (3, .int l3)]) (h : M_St_gather_j17 l1r l1 l2 l3 k0 s = some o) : WW X q s 17 ls [.int k0] := by
  unfold M_St_gather_j17 at h
  refine ww_istore (pc := 17) (i := 4) g.1 (lv' := [(4, .int k0), (0, .ref (q.1 129 0)), (1, .ref (q.1 l1r l1)), (2, .int l2), (3, .int l3)]) d_St_gather_17 hl (by decide) rfl fun ls hl => ?_
  refine ww_iload_n (pc := 19) g.1 d_St_gather_19 rfl (lv_at hl 4 rfl) ?_
  refine ww_if_ge (pc := 20) (tgt := 36) g.1 d_St_gather_20 (by decide) h (fun c h => ?_) (fun c h => ?_)
  · refine ww_iconst (pc := 36) g.1 (v := 0) d_St_gather_36 (by decide) ?_
    exact j_St_gather_j37 g hR l1r l1 l2 k0 0 s hp0 ls (lv_sub hl [1, 2, 3, 0] rfl) h
  · refine ww_aload_n (pc := 23) g.1 d_St_gather_23 rfl (lv_at hl 1 rfl) ?_
    refine ww_gR (pc := 24) g (k := 0) cl_St (pz rfl (by decide)) (by decide) (Or.inl kw_863) (f := 16512) (t := 128) rfl rfl rfl d_St_gather_24 ?_
    refine ww_gR (pc := 27) g (k := 5) cl_Ma (pz rfl (by decide)) (by decide) (Or.inl kw_930) (f := 16389) (t := 138) rfl rfl rfl d_St_gather_27 ?_
    refine ww_gI (pc := 30) g (k := 2) (cl_Ro ⟨by decide, rfl⟩) (pz rfl (by decide)) (by decide) (Or.inl kw_1131) (f := 17666) rfl rfl d_St_gather_30 h fun v30 h => ?_
    refine ww_goto (pc := 33) (tgt := 37) g.1 d_St_gather_33 (by decide) ?_
    exact j_St_gather_j37 g hR l1r l1 l2 k0 v30 s hp0 ls (lv_sub hl [1, 2, 3, 0] rfl) h

theorem ct_St_gather {l : Launch} {P : PP} {q : PL} {s s' : S1} {l1r : Nat} {l1 : Int32} {l2 : Int32} {l3 : Int32} (hp0 : ROK l1r l1) {r : Int32} (h : M_St_gather l1r l1 l2 l3 s = some (r, s')) : Ct l y_St_gather b_St_gather 7 (some .boolean) 2 44 P q s [.ref (q.1 129 0), .ref (q.1 l1r l1), .int l2, .int l3] (some (.int r)) q s' := by
  refine ct_of (by decide) (Nat.le_of_ble_eq_true rfl) fun X ls eP el g hR hl => ?_
  subst eP
  have hR : Rt X q ((r, s') : Int32 × S1).2 (some (.int ((r, s') : Int32 × S1).1)) := hR
  have hl : lv_has ls 7 [(0, .ref (q.1 129 0)), (1, .ref (q.1 l1r l1)), (2, .int l2), (3, .int l3)] := hl
  generalize (r, s') = o at h hR
  unfold M_St_gather at h
  refine ww_iload_n (pc := 0) g.1 d_St_gather_0 rfl (lv_at hl 3 rfl) ?_
  refine ww_if_ge (pc := 1) (tgt := 14) g.1 d_St_gather_1 (by decide) h (fun c h => ?_) (fun c h => ?_)
  · refine ww_iload_n (pc := 14) g.1 d_St_gather_14 rfl (lv_at hl 2 rfl) ?_
    refine ww_iload_n (pc := 15) g.1 d_St_gather_15 rfl (lv_at hl 3 rfl) ?_
    refine ww_iadd (pc := 16) g.1 d_St_gather_16 ?_
    exact j_St_gather_j17 g hR l1r l1 l2 l3 (l2 + l3) s hp0 ls (lv_sub hl [0, 1, 2, 3] rfl) h
  · refine ww_aload_n (pc := 4) g.1 d_St_gather_4 rfl (lv_at hl 0 rfl) ?_
    refine ww_gR (pc := 5) g (k := 0) cl_St (pz rfl (by decide)) (by decide) (Or.inl kw_863) (f := 16512) (t := 128) rfl rfl rfl d_St_gather_5 ?_
    refine ww_gI (pc := 8) g (k := 6) cl_Ma (pz rfl (by decide)) (by decide) (Or.inl kw_929) (f := 16390) rfl rfl d_St_gather_8 h fun v8 h => ?_
    refine ww_goto (pc := 11) (tgt := 17) g.1 d_St_gather_11 (by decide) ?_
    exact j_St_gather_j17 g hR l1r l1 l2 l3 v8 s hp0 ls (lv_sub hl [0, 1, 2, 3] rfl) h

abbrev b_Ma_leave : ByteArray := prog_7_method_17_code
def y_Ma_leave : MethodName := ⟨R_Ma, "leave", "()V"⟩
abbrev w_Ma_leave : List Cond := .code y_Ma_leave b_Ma_leave 1 none :: wA
theorem k_Ma_leave : Cond.code y_Ma_leave b_Ma_leave 1 none ∈ wA := kinm (show _ ∈ tables_1 from (List.mem_append_right _ (List.mem_append_right _ (List.mem_append_right _ (List.mem_append_right _ (List.mem_append_right _ (List.mem_append_right _ (List.mem_append_left _ (List.mem_of_getElem? (l := tables_1_7) (i := 180) (by decide +kernel)))))))))) (by decide +kernel)
theorem d_Ma_leave_0 : decode b_Ma_leave 0 = .ok (.aload_n 0, 1) := by decide +kernel
theorem d_Ma_leave_1 : decode b_Ma_leave 1 = .ok (.getfield 31, 3) := by decide +kernel
theorem d_Ma_leave_4 : decode b_Ma_leave 4 = .ok (.aload_n 0, 1) := by decide +kernel
theorem d_Ma_leave_5 : decode b_Ma_leave 5 = .ok (.getfield 172, 3) := by decide +kernel
theorem d_Ma_leave_8 : decode b_Ma_leave 8 = .ok (.aload_n 0, 1) := by decide +kernel
theorem d_Ma_leave_9 : decode b_Ma_leave 9 = .ok (.getfield 172, 3) := by decide +kernel
theorem d_Ma_leave_12 : decode b_Ma_leave 12 = .ok (.invokevirtual 268, 3) := by decide +kernel
theorem d_Ma_leave_15 : decode b_Ma_leave 15 = .ok (.getfield 288, 3) := by decide +kernel
theorem d_Ma_leave_18 : decode b_Ma_leave 18 = .ok (.invokevirtual 325, 3) := by decide +kernel
theorem d_Ma_leave_21 : decode b_Ma_leave 21 = .ok (.aload_n 0, 1) := by decide +kernel
theorem d_Ma_leave_22 : decode b_Ma_leave 22 = .ok (.getfield 172, 3) := by decide +kernel
theorem d_Ma_leave_25 : decode b_Ma_leave 25 = .ok (.invokevirtual 329, 3) := by decide +kernel
theorem d_Ma_leave_28 : decode b_Ma_leave 28 = .ok (.return_, 1) := by decide +kernel
theorem kw_1134 : Cond.fieldLink R_Ma 288 "LuaMachine$Frame" "base" "I" ∈ wA := kinm (show _ ∈ tables_1 from (List.mem_append_right _ (List.mem_append_right _ (List.mem_append_right _ (List.mem_append_right _ (List.mem_append_right _ (List.mem_append_left _ (List.mem_of_getElem? (l := tables_1_6) (i := 104) (by decide +kernel))))))))) (by decide +kernel)
theorem kw_1135 : Cond.instanceMethod y_Ma_leave ∈ wA := kinm (show _ ∈ tables_1 from (List.mem_append_right _ (List.mem_append_right _ (List.mem_append_right _ (List.mem_append_right _ (List.mem_append_right _ (List.mem_append_right _ (List.mem_append_left _ (List.mem_of_getElem? (l := tables_1_7) (i := 178) (by decide +kernel)))))))))) (by decide +kernel)
theorem kw_1136 : Cond.selects R_Ma y_Ma_leave y_Ma_leave ∈ wA := kinm (show _ ∈ tables_1 from (List.mem_append_right _ (List.mem_append_right _ (List.mem_append_right _ (List.mem_append_right _ (List.mem_append_right _ (List.mem_append_right _ (List.mem_append_left _ (List.mem_of_getElem? (l := tables_1_7) (i := 179) (by decide +kernel)))))))))) (by decide +kernel)
theorem cv_Ma_leave : CV y_Ma_leave b_Ma_leave 1 none 0 := ⟨kw_1135, kw_1136, kw_838, k_Ma_leave, by decide +kernel⟩
theorem ct_Ma_leave {l : Launch} {P : PP} {q : PL} {s s' : S1}  {r : Unit} (h : M_Ma_leave s = some (r, s')) : Ct l y_Ma_leave b_Ma_leave 1 none 1 25 P q s [.ref (q.1 128 0)] none q s' := by
  refine ct_of (by decide) (Nat.le_of_ble_eq_true rfl) fun X ls eP el g hR hl => ?_
  subst eP
  have hR : Rt X q ((r, s') : Unit × S1).2 none := hR
  have hl : lv_has ls 1 [(0, .ref (q.1 128 0))] := hl
  generalize (r, s') = o at h hR
  unfold M_Ma_leave at h
  refine ww_aload_n (pc := 0) g.1 d_Ma_leave_0 rfl (lv_at hl 0 rfl) ?_
  refine ww_gR (pc := 1) g (k := 1) cl_Ma (pz rfl (by decide)) (by decide) (Or.inl kw_938) (f := 16385) (t := 111) rfl rfl rfl d_Ma_leave_1 ?_
  refine ww_aload_n (pc := 4) g.1 d_Ma_leave_4 rfl (lv_at hl 0 rfl) ?_
  refine ww_gV (pc := 5) g (k := 11) cl_Ma (pz rfl (by decide)) (by decide) (Or.inl kw_988) (f := 16395) (t := 148) rfl rfl rfl d_Ma_leave_5 h fun v5 h => ?_
  refine ww_pr h fun pn5 h => ?_
  refine ww_nnP pn5 ?_
  refine ww_aload_n (pc := 8) g.1 d_Ma_leave_8 rfl (lv_at hl 0 rfl) ?_
  refine ww_gV (pc := 9) g (k := 11) cl_Ma (pz rfl (by decide)) (by decide) (Or.inl kw_988) (f := 16395) (t := 148) rfl rfl rfl d_Ma_leave_9 h fun v9 h => ?_
  refine ww_pr h fun pn9 h => ?_
  refine ww_nnP pn9 ?_
  refine ww_lo fun dlo => ?_
  obtain ⟨v12, s, hc12, h⟩ := oB_of h
  refine ww_callV (pc := 12) (rest := [.ref (q.1 148 v5), .ref (q.1 111 0)]) g cv_Co_top (Or.inl kw_990) cl_Co pn9 (ct_Co_top pn9 hc12) ⟨by decide, by decide⟩ rfl hl.1 (Nat.le_of_ble_eq_true rfl) d_Ma_leave_12 rfl (?_)
  refine ww_st (st' := [.ref (q.1 152 v12), .ref (q.1 148 v5), .ref (q.1 111 0)]) rfl ?_
  refine ww_hi fun dhi => ?_
  have pn5 : prs s 148 v5 := dhi _ _ pn5.2.1 pn5.2.2 (dlo _ _ pn5)
  refine ww_pr h fun pr12 h => ?_
  refine ww_gI (pc := 15) g (k := 3) cl_Fm pr12 (by decide) (Or.inl kw_1134) (f := 19459) rfl rfl d_Ma_leave_15 h fun v15 h => ?_
  obtain ⟨v18, s, hc18, h⟩ := oB_of h
  refine ww_callV (pc := 18) (rest := []) g cv_He_closeFrom (Or.inl kw_1017) cl_He (pz rfl (by decide)) (ct_He_closeFrom pn5 hc18) ⟨by decide, by decide⟩ rfl hl.1 (Nat.le_of_ble_eq_true rfl) d_Ma_leave_18 rfl (?_)
  refine ww_st (st' := []) rfl ?_
  refine ww_aload_n (pc := 21) g.1 d_Ma_leave_21 rfl (lv_at hl 0 rfl) ?_
  refine ww_gV (pc := 22) g (k := 11) cl_Ma (pz rfl (by decide)) (by decide) (Or.inl kw_988) (f := 16395) (t := 148) rfl rfl rfl d_Ma_leave_22 h fun v22 h => ?_
  refine ww_pr h fun pn22 h => ?_
  refine ww_nnP pn22 ?_
  obtain ⟨v25, s, hc25, h⟩ := oB_of h
  refine ww_callV (pc := 25) (rest := []) g cv_Co_pop (Or.inl kw_992) cl_Co pn22 (ct_Co_pop pn22 hc25) ⟨by decide, by decide⟩ rfl hl.1 (Nat.le_of_ble_eq_true rfl) d_Ma_leave_25 rfl (?_)
  refine ww_st (st' := []) rfl ?_
  exact ww_vretH (pc := 28) g h hR d_Ma_leave_28

abbrev b_St_hasLoopNumbers : ByteArray := prog_10_method_35_code
def y_St_hasLoopNumbers : MethodName := ⟨R_St, "hasLoopNumbers", "()Z"⟩
abbrev w_St_hasLoopNumbers : List Cond := .code y_St_hasLoopNumbers b_St_hasLoopNumbers 1 (some .boolean) :: wA
theorem k_St_hasLoopNumbers : Cond.code y_St_hasLoopNumbers b_St_hasLoopNumbers 1 (some .boolean) ∈ wA := kinm (show _ ∈ tables_1 from (List.mem_append_right _ (List.mem_append_right _ (List.mem_append_right _ (List.mem_append_right _ (List.mem_append_right _ (List.mem_append_right _ (List.mem_append_left _ (List.mem_of_getElem? (l := tables_1_7) (i := 197) (by decide +kernel)))))))))) (by decide +kernel)
theorem d_St_hasLoopNumbers_0 : decode b_St_hasLoopNumbers 0 = .ok (.aload_n 0, 1) := by decide +kernel
theorem d_St_hasLoopNumbers_1 : decode b_St_hasLoopNumbers 1 = .ok (.aload_n 0, 1) := by decide +kernel
theorem d_St_hasLoopNumbers_2 : decode b_St_hasLoopNumbers 2 = .ok (.getfield 57, 3) := by decide +kernel
theorem d_St_hasLoopNumbers_5 : decode b_St_hasLoopNumbers 5 = .ok (.invokevirtual 77, 3) := by decide +kernel
theorem d_St_hasLoopNumbers_8 : decode b_St_hasLoopNumbers 8 = .ok (.iconst 3, 1) := by decide +kernel
theorem d_St_hasLoopNumbers_9 : decode b_St_hasLoopNumbers 9 = .ok (.if_icmp .ne 33, 3) := by decide +kernel
theorem d_St_hasLoopNumbers_12 : decode b_St_hasLoopNumbers 12 = .ok (.aload_n 0, 1) := by decide +kernel
theorem d_St_hasLoopNumbers_13 : decode b_St_hasLoopNumbers 13 = .ok (.aload_n 0, 1) := by decide +kernel
theorem d_St_hasLoopNumbers_14 : decode b_St_hasLoopNumbers 14 = .ok (.getfield 57, 3) := by decide +kernel
theorem d_St_hasLoopNumbers_17 : decode b_St_hasLoopNumbers 17 = .ok (.iconst 1, 1) := by decide +kernel
theorem d_St_hasLoopNumbers_18 : decode b_St_hasLoopNumbers 18 = .ok (.iadd, 1) := by decide +kernel
theorem d_St_hasLoopNumbers_19 : decode b_St_hasLoopNumbers 19 = .ok (.invokevirtual 77, 3) := by decide +kernel
theorem d_St_hasLoopNumbers_22 : decode b_St_hasLoopNumbers 22 = .ok (.iconst 3, 1) := by decide +kernel
theorem d_St_hasLoopNumbers_23 : decode b_St_hasLoopNumbers 23 = .ok (.if_icmp .ne 19, 3) := by decide +kernel
theorem d_St_hasLoopNumbers_26 : decode b_St_hasLoopNumbers 26 = .ok (.aload_n 0, 1) := by decide +kernel
theorem d_St_hasLoopNumbers_27 : decode b_St_hasLoopNumbers 27 = .ok (.aload_n 0, 1) := by decide +kernel
theorem d_St_hasLoopNumbers_28 : decode b_St_hasLoopNumbers 28 = .ok (.getfield 57, 3) := by decide +kernel
theorem d_St_hasLoopNumbers_31 : decode b_St_hasLoopNumbers 31 = .ok (.iconst 2, 1) := by decide +kernel
theorem d_St_hasLoopNumbers_32 : decode b_St_hasLoopNumbers 32 = .ok (.iadd, 1) := by decide +kernel
theorem d_St_hasLoopNumbers_33 : decode b_St_hasLoopNumbers 33 = .ok (.invokevirtual 77, 3) := by decide +kernel
theorem d_St_hasLoopNumbers_36 : decode b_St_hasLoopNumbers 36 = .ok (.iconst 3, 1) := by decide +kernel
theorem d_St_hasLoopNumbers_37 : decode b_St_hasLoopNumbers 37 = .ok (.if_icmp .ne 5, 3) := by decide +kernel
theorem d_St_hasLoopNumbers_40 : decode b_St_hasLoopNumbers 40 = .ok (.iconst 1, 1) := by decide +kernel
theorem d_St_hasLoopNumbers_41 : decode b_St_hasLoopNumbers 41 = .ok (.ireturn, 1) := by decide +kernel
theorem d_St_hasLoopNumbers_42 : decode b_St_hasLoopNumbers 42 = .ok (.aload_n 0, 1) := by decide +kernel
theorem d_St_hasLoopNumbers_43 : decode b_St_hasLoopNumbers 43 = .ok (.getfield 9, 3) := by decide +kernel
theorem d_St_hasLoopNumbers_46 : decode b_St_hasLoopNumbers 46 = .ok (.iconst 3, 1) := by decide +kernel
theorem d_St_hasLoopNumbers_47 : decode b_St_hasLoopNumbers 47 = .ok (.invokevirtual 193, 3) := by decide +kernel
theorem d_St_hasLoopNumbers_50 : decode b_St_hasLoopNumbers 50 = .ok (.iconst 0, 1) := by decide +kernel
theorem d_St_hasLoopNumbers_51 : decode b_St_hasLoopNumbers 51 = .ok (.ireturn, 1) := by decide +kernel
theorem kw_1137 : Cond.instanceMethod y_St_hasLoopNumbers ∈ wA := kinm (show _ ∈ tables_1 from (List.mem_append_right _ (List.mem_append_right _ (List.mem_append_right _ (List.mem_append_right _ (List.mem_append_right _ (List.mem_append_right _ (List.mem_append_left _ (List.mem_of_getElem? (l := tables_1_7) (i := 196) (by decide +kernel)))))))))) (by decide +kernel)
theorem kw_1138 : Cond.selects R_St y_St_hasLoopNumbers y_St_hasLoopNumbers ∈ wA := kinp 62 (by decide +kernel) (by decide +kernel)
theorem cv_St_hasLoopNumbers : CV y_St_hasLoopNumbers b_St_hasLoopNumbers 1 (some .boolean) 0 := ⟨kw_1137, kw_1138, kw_883, k_St_hasLoopNumbers, by decide +kernel⟩
theorem j_St_hasLoopNumbers_j42 {X : Cx} {q : PL} (g : Gd X y_St_hasLoopNumbers b_St_hasLoopNumbers 1 (some .boolean) 2 44 R_St) {o : (Int32) × S1} (hR : Rt X q o.2 (some (.int o.1)))  (s : S1) (ls : Array Slot) (hl : lv_has ls 1 [(0, .ref (q.1 129 0))]) (h : M_St_hasLoopNumbers_j42 s = some o) : WW X q s 42 ls [] := by
  unfold M_St_hasLoopNumbers_j42 at h
  refine ww_aload_n (pc := 42) g.1 d_St_hasLoopNumbers_42 rfl (lv_at hl 0 rfl) ?_
  refine ww_gR (pc := 43) g (k := 0) cl_St (pz rfl (by decide)) (by decide) (Or.inl kw_863) (f := 16512) (t := 128) rfl rfl rfl d_St_hasLoopNumbers_43 ?_
  refine ww_iconst (pc := 46) g.1 (v := 3) d_St_hasLoopNumbers_46 (by decide) ?_
  obtain ⟨v47, s, hc47, h⟩ := oB_of h
  refine ww_callV (pc := 47) (rest := []) g cv_Ma_fail (Or.inl kw_1106) cl_Ma (pz rfl (by decide)) (ct_Ma_fail hc47) ⟨by decide, by decide⟩ rfl hl.1 (Nat.le_of_ble_eq_true rfl) d_St_hasLoopNumbers_47 rfl (?_)
  refine ww_st (st' := []) rfl ?_
  refine ww_iconst (pc := 50) g.1 (v := 0) d_St_hasLoopNumbers_50 (by decide) ?_
  exact ww_zretH (pc := 51) g h hR (Or.inl rfl) d_St_hasLoopNumbers_51

theorem ct_St_hasLoopNumbers {l : Launch} {P : PP} {q : PL} {s s' : S1}  {r : Int32} (h : M_St_hasLoopNumbers s = some (r, s')) : Ct l y_St_hasLoopNumbers b_St_hasLoopNumbers 1 (some .boolean) 2 44 P q s [.ref (q.1 129 0)] (some (.int r)) q s' := by
  refine ct_of (by decide) (Nat.le_of_ble_eq_true rfl) fun X ls eP el g hR hl => ?_
  subst eP
  have hR : Rt X q ((r, s') : Int32 × S1).2 (some (.int ((r, s') : Int32 × S1).1)) := hR
  have hl : lv_has ls 1 [(0, .ref (q.1 129 0))] := hl
  generalize (r, s') = o at h hR
  unfold M_St_hasLoopNumbers at h
  refine ww_aload_n (pc := 0) g.1 d_St_hasLoopNumbers_0 rfl (lv_at hl 0 rfl) ?_
  refine ww_aload_n (pc := 1) g.1 d_St_hasLoopNumbers_1 rfl (lv_at hl 0 rfl) ?_
  refine ww_gI (pc := 2) g (k := 9) cl_St (pz rfl (by decide)) (by decide) (Or.inl kw_877) (f := 16521) rfl rfl d_St_hasLoopNumbers_2 h fun v2 h => ?_
  obtain ⟨v5, s, hc5, h⟩ := oB_of h
  refine ww_callV (pc := 5) (rest := []) g cv_St_kindOf (Or.inl kw_914) cl_St (pz rfl (by decide)) (ct_St_kindOf hc5) ⟨by decide, by decide⟩ rfl hl.1 (Nat.le_of_ble_eq_true rfl) d_St_hasLoopNumbers_5 rfl (?_)
  refine ww_st (st' := [.int v5]) rfl ?_
  refine ww_iconst (pc := 8) g.1 (v := 3) d_St_hasLoopNumbers_8 (by decide) ?_
  refine ww_icmp_ne (pc := 9) (tgt := 42) g.1 d_St_hasLoopNumbers_9 (by decide) h (fun c h => ?_) (fun c h => ?_)
  · exact j_St_hasLoopNumbers_j42 g hR s ls (lv_sub hl [0] rfl) h
  · refine ww_aload_n (pc := 12) g.1 d_St_hasLoopNumbers_12 rfl (lv_at hl 0 rfl) ?_
    refine ww_aload_n (pc := 13) g.1 d_St_hasLoopNumbers_13 rfl (lv_at hl 0 rfl) ?_
    refine ww_gI (pc := 14) g (k := 9) cl_St (pz rfl (by decide)) (by decide) (Or.inl kw_877) (f := 16521) rfl rfl d_St_hasLoopNumbers_14 h fun v14 h => ?_
    refine ww_iconst (pc := 17) g.1 (v := 1) d_St_hasLoopNumbers_17 (by decide) ?_
    refine ww_iadd (pc := 18) g.1 d_St_hasLoopNumbers_18 ?_
    obtain ⟨v19, s, hc19, h⟩ := oB_of h
    refine ww_callV (pc := 19) (rest := []) g cv_St_kindOf (Or.inl kw_914) cl_St (pz rfl (by decide)) (ct_St_kindOf hc19) ⟨by decide, by decide⟩ rfl hl.1 (Nat.le_of_ble_eq_true rfl) d_St_hasLoopNumbers_19 rfl (?_)
    refine ww_st (st' := [.int v19]) rfl ?_
    refine ww_iconst (pc := 22) g.1 (v := 3) d_St_hasLoopNumbers_22 (by decide) ?_
    refine ww_icmp_ne (pc := 23) (tgt := 42) g.1 d_St_hasLoopNumbers_23 (by decide) h (fun c h => ?_) (fun c h => ?_)
    · exact j_St_hasLoopNumbers_j42 g hR s ls (lv_sub hl [0] rfl) h
    · refine ww_aload_n (pc := 26) g.1 d_St_hasLoopNumbers_26 rfl (lv_at hl 0 rfl) ?_
      refine ww_aload_n (pc := 27) g.1 d_St_hasLoopNumbers_27 rfl (lv_at hl 0 rfl) ?_
      refine ww_gI (pc := 28) g (k := 9) cl_St (pz rfl (by decide)) (by decide) (Or.inl kw_877) (f := 16521) rfl rfl d_St_hasLoopNumbers_28 h fun v28 h => ?_
      refine ww_iconst (pc := 31) g.1 (v := 2) d_St_hasLoopNumbers_31 (by decide) ?_
      refine ww_iadd (pc := 32) g.1 d_St_hasLoopNumbers_32 ?_
      obtain ⟨v33, s, hc33, h⟩ := oB_of h
      refine ww_callV (pc := 33) (rest := []) g cv_St_kindOf (Or.inl kw_914) cl_St (pz rfl (by decide)) (ct_St_kindOf hc33) ⟨by decide, by decide⟩ rfl hl.1 (Nat.le_of_ble_eq_true rfl) d_St_hasLoopNumbers_33 rfl (?_)
      refine ww_st (st' := [.int v33]) rfl ?_
      refine ww_iconst (pc := 36) g.1 (v := 3) d_St_hasLoopNumbers_36 (by decide) ?_
      refine ww_icmp_ne (pc := 37) (tgt := 42) g.1 d_St_hasLoopNumbers_37 (by decide) h (fun c h => ?_) (fun c h => ?_)
      · exact j_St_hasLoopNumbers_j42 g hR s ls (lv_sub hl [0] rfl) h
      · refine ww_iconst (pc := 40) g.1 (v := 1) d_St_hasLoopNumbers_40 (by decide) ?_
        exact ww_zretH (pc := 41) g h hR (Or.inr rfl) d_St_hasLoopNumbers_41

abbrev b_Ma_goOnWith : ByteArray := prog_7_method_16_code
def y_Ma_goOnWith : MethodName := ⟨R_Ma, "goOnWith", "(LLuaMachine$Coroutine;)V"⟩
abbrev w_Ma_goOnWith : List Cond := .code y_Ma_goOnWith b_Ma_goOnWith 2 none :: wA
theorem k_Ma_goOnWith : Cond.code y_Ma_goOnWith b_Ma_goOnWith 2 none ∈ wA := kinm (show _ ∈ tables_1 from (List.mem_append_right _ (List.mem_append_right _ (List.mem_append_right _ (List.mem_append_right _ (List.mem_append_right _ (List.mem_append_right _ (List.mem_append_left _ (List.mem_of_getElem? (l := tables_1_7) (i := 224) (by decide +kernel)))))))))) (by decide +kernel)
theorem d_Ma_goOnWith_0 : decode b_Ma_goOnWith 0 = .ok (.aload_n 0, 1) := by decide +kernel
theorem d_Ma_goOnWith_1 : decode b_Ma_goOnWith 1 = .ok (.getfield 172, 3) := by decide +kernel
theorem d_Ma_goOnWith_4 : decode b_Ma_goOnWith 4 = .ok (.iconst 2, 1) := by decide +kernel
theorem d_Ma_goOnWith_5 : decode b_Ma_goOnWith 5 = .ok (.putfield 183, 3) := by decide +kernel
theorem d_Ma_goOnWith_8 : decode b_Ma_goOnWith 8 = .ok (.aload_n 1, 1) := by decide +kernel
theorem d_Ma_goOnWith_9 : decode b_Ma_goOnWith 9 = .ok (.aload_n 0, 1) := by decide +kernel
theorem d_Ma_goOnWith_10 : decode b_Ma_goOnWith 10 = .ok (.getfield 172, 3) := by decide +kernel
theorem d_Ma_goOnWith_13 : decode b_Ma_goOnWith 13 = .ok (.getfield 315, 3) := by decide +kernel
theorem d_Ma_goOnWith_16 : decode b_Ma_goOnWith 16 = .ok (.putfield 318, 3) := by decide +kernel
theorem d_Ma_goOnWith_19 : decode b_Ma_goOnWith 19 = .ok (.aload_n 0, 1) := by decide +kernel
theorem d_Ma_goOnWith_20 : decode b_Ma_goOnWith 20 = .ok (.aload_n 1, 1) := by decide +kernel
theorem d_Ma_goOnWith_21 : decode b_Ma_goOnWith 21 = .ok (.putfield 172, 3) := by decide +kernel
theorem d_Ma_goOnWith_24 : decode b_Ma_goOnWith 24 = .ok (.aload_n 1, 1) := by decide +kernel
theorem d_Ma_goOnWith_25 : decode b_Ma_goOnWith 25 = .ok (.getfield 188, 3) := by decide +kernel
theorem d_Ma_goOnWith_28 : decode b_Ma_goOnWith 28 = .ok (.ifCond .eq 27, 3) := by decide +kernel
theorem d_Ma_goOnWith_31 : decode b_Ma_goOnWith 31 = .ok (.aload_n 1, 1) := by decide +kernel
theorem d_Ma_goOnWith_32 : decode b_Ma_goOnWith 32 = .ok (.iconst 1, 1) := by decide +kernel
theorem d_Ma_goOnWith_33 : decode b_Ma_goOnWith 33 = .ok (.putfield 183, 3) := by decide +kernel
theorem d_Ma_goOnWith_36 : decode b_Ma_goOnWith 36 = .ok (.aload_n 0, 1) := by decide +kernel
theorem d_Ma_goOnWith_37 : decode b_Ma_goOnWith 37 = .ok (.getfield 18, 3) := by decide +kernel
theorem d_Ma_goOnWith_40 : decode b_Ma_goOnWith 40 = .ok (.aload_n 0, 1) := by decide +kernel
theorem d_Ma_goOnWith_41 : decode b_Ma_goOnWith 41 = .ok (.getfield 12, 3) := by decide +kernel
theorem d_Ma_goOnWith_44 : decode b_Ma_goOnWith 44 = .ok (.invokevirtual 321, 3) := by decide +kernel
theorem d_Ma_goOnWith_47 : decode b_Ma_goOnWith 47 = .ok (.aload_n 0, 1) := by decide +kernel
theorem d_Ma_goOnWith_48 : decode b_Ma_goOnWith 48 = .ok (.iconst 3, 1) := by decide +kernel
theorem d_Ma_goOnWith_49 : decode b_Ma_goOnWith 49 = .ok (.putfield 61, 3) := by decide +kernel
theorem d_Ma_goOnWith_52 : decode b_Ma_goOnWith 52 = .ok (.goto 27, 3) := by decide +kernel
theorem d_Ma_goOnWith_55 : decode b_Ma_goOnWith 55 = .ok (.aload_n 0, 1) := by decide +kernel
theorem d_Ma_goOnWith_56 : decode b_Ma_goOnWith 56 = .ok (.bipush 6, 2) := by decide +kernel
theorem d_Ma_goOnWith_58 : decode b_Ma_goOnWith 58 = .ok (.putfield 216, 3) := by decide +kernel
theorem d_Ma_goOnWith_61 : decode b_Ma_goOnWith 61 = .ok (.aload_n 0, 1) := by decide +kernel
theorem d_Ma_goOnWith_62 : decode b_Ma_goOnWith 62 = .ok (.aload_n 1, 1) := by decide +kernel
theorem d_Ma_goOnWith_63 : decode b_Ma_goOnWith 63 = .ok (.getfield 193, 3) := by decide +kernel
theorem d_Ma_goOnWith_66 : decode b_Ma_goOnWith 66 = .ok (.putfield 222, 3) := by decide +kernel
theorem d_Ma_goOnWith_69 : decode b_Ma_goOnWith 69 = .ok (.aload_n 0, 1) := by decide +kernel
theorem d_Ma_goOnWith_70 : decode b_Ma_goOnWith 70 = .ok (.aload_n 1, 1) := by decide +kernel
theorem d_Ma_goOnWith_71 : decode b_Ma_goOnWith 71 = .ok (.invokevirtual 176, 3) := by decide +kernel
theorem d_Ma_goOnWith_74 : decode b_Ma_goOnWith 74 = .ok (.aload_n 0, 1) := by decide +kernel
theorem d_Ma_goOnWith_75 : decode b_Ma_goOnWith 75 = .ok (.iconst 1, 1) := by decide +kernel
theorem d_Ma_goOnWith_76 : decode b_Ma_goOnWith 76 = .ok (.putfield 61, 3) := by decide +kernel
theorem d_Ma_goOnWith_79 : decode b_Ma_goOnWith 79 = .ok (.return_, 1) := by decide +kernel
theorem kw_1139 : Cond.fieldLink R_Ma 315 "LuaMachine$Coroutine" "index" "I" ∈ wA := kinm (show _ ∈ tables_1 from (List.mem_append_right _ (List.mem_append_right _ (List.mem_append_right _ (List.mem_append_right _ (List.mem_append_right _ (List.mem_append_left _ (List.mem_of_getElem? (l := tables_1_6) (i := 148) (by decide +kernel))))))))) (by decide +kernel)
theorem kw_1140 : Cond.methodLink R_Ma 176 y_Ma_begin ∈ wA := kinm (show _ ∈ tables_1 from (List.mem_append_right _ (List.mem_append_right _ (List.mem_append_right _ (List.mem_append_right _ (List.mem_append_right _ (List.mem_append_left _ (List.mem_of_getElem? (l := tables_1_6) (i := 203) (by decide +kernel))))))))) (by decide +kernel)
theorem kw_1141 : Cond.methodLink R_Ma 321 y_Ro_takeAll ∈ wA := kinm (show _ ∈ tables_1 from (List.mem_append_right _ (List.mem_append_right _ (List.mem_append_right _ (List.mem_append_right _ (List.mem_append_right _ (List.mem_append_right _ (List.mem_append_left _ (List.mem_of_getElem? (l := tables_1_7) (i := 225) (by decide +kernel)))))))))) (by decide +kernel)
theorem kw_1142 : Cond.instanceMethod y_Ma_goOnWith ∈ wA := kinm (show _ ∈ tables_1 from (List.mem_append_right _ (List.mem_append_right _ (List.mem_append_right _ (List.mem_append_right _ (List.mem_append_right _ (List.mem_append_right _ (List.mem_append_left _ (List.mem_of_getElem? (l := tables_1_7) (i := 222) (by decide +kernel)))))))))) (by decide +kernel)
theorem kw_1143 : Cond.selects R_Ma y_Ma_goOnWith y_Ma_goOnWith ∈ wA := kinm (show _ ∈ tables_1 from (List.mem_append_right _ (List.mem_append_right _ (List.mem_append_right _ (List.mem_append_right _ (List.mem_append_right _ (List.mem_append_right _ (List.mem_append_left _ (List.mem_of_getElem? (l := tables_1_7) (i := 223) (by decide +kernel)))))))))) (by decide +kernel)
theorem cv_Ma_goOnWith : CV y_Ma_goOnWith b_Ma_goOnWith 2 none 1 := ⟨kw_1142, kw_1143, kw_838, k_Ma_goOnWith, by decide +kernel⟩
theorem ct_Ma_goOnWith {l : Launch} {P : PP} {q : PL} {s s' : S1} {l1 : Int32} (hp0 : prs s 148 l1) {r : Unit} (h : M_Ma_goOnWith l1 s = some (r, s')) : Ct l y_Ma_goOnWith b_Ma_goOnWith 2 none 2 47 P q s [.ref (q.1 128 0), .ref (q.1 148 l1)] none q s' := by
  refine ct_of (by decide) (Nat.le_of_ble_eq_true rfl) fun X ls eP el g hR hl => ?_
  subst eP
  have hR : Rt X q ((r, s') : Unit × S1).2 none := hR
  have hl : lv_has ls 2 [(0, .ref (q.1 128 0)), (1, .ref (q.1 148 l1))] := hl
  generalize (r, s') = o at h hR
  unfold M_Ma_goOnWith at h
  refine ww_aload_n (pc := 0) g.1 d_Ma_goOnWith_0 rfl (lv_at hl 0 rfl) ?_
  refine ww_gV (pc := 1) g (k := 11) cl_Ma (pz rfl (by decide)) (by decide) (Or.inl kw_988) (f := 16395) (t := 148) rfl rfl rfl d_Ma_goOnWith_1 h fun v1 h => ?_
  refine ww_pr h fun pn1 h => ?_
  refine ww_nnP pn1 ?_
  refine ww_iconst (pc := 4) g.1 (v := 2) d_Ma_goOnWith_4 (by decide) ?_
  refine ww_pI (pc := 5) g (k := 7) cl_Co pn1 (by decide) (Or.inl kw_833) rfl (f := 18951) rfl rfl rfl rfl d_Ma_goOnWith_5 h fun s hs h => ?_
  have hp0 : prs s 148 l1 := prs_kI (r := 148) (k := 7) (by decide) hs hp0
  refine ww_aload_n (pc := 8) g.1 d_Ma_goOnWith_8 rfl (lv_at hl 1 rfl) ?_
  refine ww_aload_n (pc := 9) g.1 d_Ma_goOnWith_9 rfl (lv_at hl 0 rfl) ?_
  refine ww_gV (pc := 10) g (k := 11) cl_Ma (pz rfl (by decide)) (by decide) (Or.inl kw_988) (f := 16395) (t := 148) rfl rfl rfl d_Ma_goOnWith_10 h fun v10 h => ?_
  refine ww_pr h fun pn10 h => ?_
  refine ww_nnP pn10 ?_
  refine ww_gI (pc := 13) g (k := 3) cl_Co pn10 (by decide) (Or.inl kw_1139) (f := 18947) rfl rfl d_Ma_goOnWith_13 h fun v13 h => ?_
  refine ww_pI (pc := 16) g (k := 11) cl_Co hp0 (by decide) (Or.inl kw_989) rfl (f := 18955) rfl rfl rfl rfl d_Ma_goOnWith_16 h fun s hs h => ?_
  have hp0 : prs s 148 l1 := prs_kI (r := 148) (k := 11) (by decide) hs hp0
  refine ww_aload_n (pc := 19) g.1 d_Ma_goOnWith_19 rfl (lv_at hl 0 rfl) ?_
  refine ww_aload_n (pc := 20) g.1 d_Ma_goOnWith_20 rfl (lv_at hl 1 rfl) ?_
  refine ww_st (st' := [vr q 148 l1, .ref (q.1 128 0)]) (by rw [vr_prs hp0]) ?_
  refine ww_pV (pc := 21) g (k := 11) cl_Ma (pz rfl (by decide)) (by decide) (Or.inl kw_988) rfl (f := 16395) (t := 148) rfl rfl rfl rfl fits_vr d_Ma_goOnWith_21 h fun s hs h => ?_
  have hp0 : prs s 148 l1 := prs_kI (r := 128) (k := 11) (by decide) hs hp0
  refine ww_aload_n (pc := 24) g.1 d_Ma_goOnWith_24 rfl (lv_at hl 1 rfl) ?_
  refine ww_gI (pc := 25) g (k := 8) cl_Co hp0 (by decide) (Or.inl kw_834) (f := 18952) rfl rfl d_Ma_goOnWith_25 h fun v25 h => ?_
  refine ww_if_eq (pc := 28) (tgt := 55) g.1 d_Ma_goOnWith_28 (by decide) h (fun c h => ?_) (fun c h => ?_)
  · refine ww_aload_n (pc := 55) g.1 d_Ma_goOnWith_55 rfl (lv_at hl 0 rfl) ?_
    refine ww_bipush (pc := 56) g.1 (v := 6) d_Ma_goOnWith_56 (by decide) ?_
    refine ww_pI (pc := 58) g (k := 13) cl_Ma (pz rfl (by decide)) (by decide) (Or.inl kw_1095) rfl (f := 16397) rfl rfl rfl rfl d_Ma_goOnWith_58 h fun s hs h => ?_
    have hp0 : prs s 148 l1 := prs_kI (r := 128) (k := 13) (by decide) hs hp0
    refine ww_aload_n (pc := 61) g.1 d_Ma_goOnWith_61 rfl (lv_at hl 0 rfl) ?_
    refine ww_aload_n (pc := 62) g.1 d_Ma_goOnWith_62 rfl (lv_at hl 1 rfl) ?_
    refine ww_gL (pc := 63) g (k := 9) cl_Co hp0 (by decide) (Or.inl kw_835) (f := 18953) rfl rfl d_Ma_goOnWith_63 h fun v63 h => ?_
    refine ww_pL (pc := 66) g (k := 14) cl_Ma (pz rfl (by decide)) (by decide) (Or.inl kw_1097) rfl (f := 16398) rfl rfl rfl rfl d_Ma_goOnWith_66 h fun s hs h => ?_
    have hp0 : prs s 148 l1 := hs ▸ hp0
    refine ww_aload_n (pc := 69) g.1 d_Ma_goOnWith_69 rfl (lv_at hl 0 rfl) ?_
    refine ww_aload_n (pc := 70) g.1 d_Ma_goOnWith_70 rfl (lv_at hl 1 rfl) ?_
    refine ww_lo fun dlo => ?_
    obtain ⟨v71, s, hc71, h⟩ := oB_of h
    refine ww_callV (pc := 71) (rest := []) g cv_Ma_begin (Or.inl kw_1140) cl_Ma (pz rfl (by decide)) (ct_Ma_begin hp0 hc71) ⟨by decide, by decide⟩ rfl hl.1 (Nat.le_of_ble_eq_true rfl) d_Ma_goOnWith_71 rfl (?_)
    refine ww_st (st' := []) rfl ?_
    refine ww_hi fun dhi => ?_
    have hp0 : prs s 148 l1 := dhi _ _ hp0.2.1 hp0.2.2 (dlo _ _ hp0)
    refine ww_aload_n (pc := 74) g.1 d_Ma_goOnWith_74 rfl (lv_at hl 0 rfl) ?_
    refine ww_iconst (pc := 75) g.1 (v := 1) d_Ma_goOnWith_75 (by decide) ?_
    refine ww_pI (pc := 76) g (k := 12) cl_Ma (pz rfl (by decide)) (by decide) (Or.inl kw_851) rfl (f := 16396) rfl rfl rfl rfl d_Ma_goOnWith_76 h fun s hs h => ?_
    have hp0 : prs s 148 l1 := prs_kI (r := 128) (k := 12) (by decide) hs hp0
    exact ww_vretH (pc := 79) g h hR d_Ma_goOnWith_79
  · refine ww_aload_n (pc := 31) g.1 d_Ma_goOnWith_31 rfl (lv_at hl 1 rfl) ?_
    refine ww_iconst (pc := 32) g.1 (v := 1) d_Ma_goOnWith_32 (by decide) ?_
    refine ww_pI (pc := 33) g (k := 7) cl_Co hp0 (by decide) (Or.inl kw_833) rfl (f := 18951) rfl rfl rfl rfl d_Ma_goOnWith_33 h fun s hs h => ?_
    have hp0 : prs s 148 l1 := prs_kI (r := 148) (k := 7) (by decide) hs hp0
    refine ww_aload_n (pc := 36) g.1 d_Ma_goOnWith_36 rfl (lv_at hl 0 rfl) ?_
    refine ww_gR (pc := 37) g (k := 4) cl_Ma (pz rfl (by decide)) (by decide) (Or.inl kw_1002) (f := 16388) (t := 135) rfl rfl rfl d_Ma_goOnWith_37 ?_
    refine ww_aload_n (pc := 40) g.1 d_Ma_goOnWith_40 rfl (lv_at hl 0 rfl) ?_
    refine ww_gR (pc := 41) g (k := 3) cl_Ma (pz rfl (by decide)) (by decide) (Or.inl kw_1098) (f := 16387) (t := 132) rfl rfl rfl d_Ma_goOnWith_41 ?_
    refine ww_lo fun dlo => ?_
    obtain ⟨v44, s, hc44, h⟩ := oB_of h
    refine ww_callV (pc := 44) (rest := []) g cv_Ro_takeAll (Or.inl kw_1141) (cl_Ro ⟨by decide, rfl⟩) (pz rfl (by decide)) (ct_Ro_takeAll ⟨by decide, rfl⟩ ⟨by decide, rfl⟩ hc44) ⟨by decide, by decide⟩ rfl hl.1 (Nat.le_of_ble_eq_true rfl) d_Ma_goOnWith_44 rfl (?_)
    refine ww_st (st' := []) rfl ?_
    refine ww_hi fun dhi => ?_
    have hp0 : prs s 148 l1 := dhi _ _ hp0.2.1 hp0.2.2 (dlo _ _ hp0)
    refine ww_aload_n (pc := 47) g.1 d_Ma_goOnWith_47 rfl (lv_at hl 0 rfl) ?_
    refine ww_iconst (pc := 48) g.1 (v := 3) d_Ma_goOnWith_48 (by decide) ?_
    refine ww_pI (pc := 49) g (k := 12) cl_Ma (pz rfl (by decide)) (by decide) (Or.inl kw_851) rfl (f := 16396) rfl rfl rfl rfl d_Ma_goOnWith_49 h fun s hs h => ?_
    have hp0 : prs s 148 l1 := prs_kI (r := 128) (k := 12) (by decide) hs hp0
    refine ww_goto (pc := 52) (tgt := 79) g.1 d_Ma_goOnWith_52 (by decide) ?_
    exact ww_vretH (pc := 79) g h hR d_Ma_goOnWith_79

abbrev b_Bu_addMade : ByteArray := prog_2_method_10_code
def y_Bu_addMade : MethodName := ⟨R_Bu, "addMade", "(II)V"⟩
abbrev w_Bu_addMade : List Cond := .code y_Bu_addMade b_Bu_addMade 3 none :: wA
theorem k_Bu_addMade : Cond.code y_Bu_addMade b_Bu_addMade 3 none ∈ wA := kinm (show _ ∈ tables_1 from (List.mem_append_right _ (List.mem_append_right _ (List.mem_append_right _ (List.mem_append_right _ (List.mem_append_right _ (List.mem_append_right _ (List.mem_append_right _ (List.mem_append_left _ (List.mem_of_getElem? (l := tables_1_8) (i := 62) (by decide +kernel))))))))))) (by decide +kernel)
theorem d_Bu_addMade_0 : decode b_Bu_addMade 0 = .ok (.iload_n 2, 1) := by decide +kernel
theorem d_Bu_addMade_1 : decode b_Bu_addMade 1 = .ok (.ifCond .ge 15, 3) := by decide +kernel
theorem d_Bu_addMade_4 : decode b_Bu_addMade 4 = .ok (.aload_n 0, 1) := by decide +kernel
theorem d_Bu_addMade_5 : decode b_Bu_addMade 5 = .ok (.getfield 15, 3) := by decide +kernel
theorem d_Bu_addMade_8 : decode b_Bu_addMade 8 = .ok (.iload_n 2, 1) := by decide +kernel
theorem d_Bu_addMade_9 : decode b_Bu_addMade 9 = .ok (.ineg, 1) := by decide +kernel
theorem d_Bu_addMade_10 : decode b_Bu_addMade 10 = .ok (.invokevirtual 145, 3) := by decide +kernel
theorem d_Bu_addMade_13 : decode b_Bu_addMade 13 = .ok (.goto 13, 3) := by decide +kernel
theorem d_Bu_addMade_16 : decode b_Bu_addMade 16 = .ok (.aload_n 0, 1) := by decide +kernel
theorem d_Bu_addMade_17 : decode b_Bu_addMade 17 = .ok (.getfield 39, 3) := by decide +kernel
theorem d_Bu_addMade_20 : decode b_Bu_addMade 20 = .ok (.iload_n 1, 1) := by decide +kernel
theorem d_Bu_addMade_21 : decode b_Bu_addMade 21 = .ok (.iload_n 2, 1) := by decide +kernel
theorem d_Bu_addMade_22 : decode b_Bu_addMade 22 = .ok (.i2l, 1) := by decide +kernel
theorem d_Bu_addMade_23 : decode b_Bu_addMade 23 = .ok (.invokevirtual 74, 3) := by decide +kernel
theorem d_Bu_addMade_26 : decode b_Bu_addMade 26 = .ok (.return_, 1) := by decide +kernel
theorem kw_1144 : Cond.methodLink R_Bu 145 y_Ma_fail ∈ wA := kinm (show _ ∈ tables_1 from (List.mem_append_right _ (List.mem_append_right _ (List.mem_append_right _ (List.mem_append_right _ (List.mem_append_right _ (List.mem_append_right _ (List.mem_append_right _ (List.mem_append_left _ (List.mem_of_getElem? (l := tables_1_8) (i := 56) (by decide +kernel))))))))))) (by decide +kernel)
theorem kw_1145 : Cond.instanceMethod y_Bu_addMade ∈ wA := kinm (show _ ∈ tables_1 from (List.mem_append_right _ (List.mem_append_right _ (List.mem_append_right _ (List.mem_append_right _ (List.mem_append_right _ (List.mem_append_right _ (List.mem_append_right _ (List.mem_append_left _ (List.mem_of_getElem? (l := tables_1_8) (i := 61) (by decide +kernel))))))))))) (by decide +kernel)
theorem kw_1146 : Cond.selects R_Bu y_Bu_addMade y_Bu_addMade ∈ wA := kinp 70 (by decide +kernel) (by decide +kernel)
theorem cv_Bu_addMade : CV y_Bu_addMade b_Bu_addMade 3 none 2 := ⟨kw_1145, kw_1146, kw_950, k_Bu_addMade, by decide +kernel⟩
theorem ct_Bu_addMade {l : Launch} {P : PP} {q : PL} {s s' : S1} {l1 : Int32} {l2 : Int32} {r : Unit} (h : M_Bu_addMade l1 l2 s = some (r, s')) : Ct l y_Bu_addMade b_Bu_addMade 3 none 2 44 P q s [.ref (q.1 130 0), .int l1, .int l2] none q s' := by
  refine ct_of (by decide) (Nat.le_of_ble_eq_true rfl) fun X ls eP el g hR hl => ?_
  subst eP
  have hR : Rt X q ((r, s') : Unit × S1).2 none := hR
  have hl : lv_has ls 3 [(0, .ref (q.1 130 0)), (1, .int l1), (2, .int l2)] := hl
  generalize (r, s') = o at h hR
  unfold M_Bu_addMade at h
  refine ww_iload_n (pc := 0) g.1 d_Bu_addMade_0 rfl (lv_at hl 2 rfl) ?_
  refine ww_if_ge (pc := 1) (tgt := 16) g.1 d_Bu_addMade_1 (by decide) h (fun c h => ?_) (fun c h => ?_)
  · refine ww_aload_n (pc := 16) g.1 d_Bu_addMade_16 rfl (lv_at hl 0 rfl) ?_
    refine ww_gR (pc := 17) g (k := 6) cl_Bu (pz rfl (by decide)) (by decide) (Or.inl kw_967) (f := 16646) (t := 135) rfl rfl rfl d_Bu_addMade_17 ?_
    refine ww_iload_n (pc := 20) g.1 d_Bu_addMade_20 rfl (lv_at hl 1 rfl) ?_
    refine ww_iload_n (pc := 21) g.1 d_Bu_addMade_21 rfl (lv_at hl 2 rfl) ?_
    refine ww_i2l (pc := 22) g.1 (v := l2.toInt64) d_Bu_addMade_22 rfl ?_
    obtain ⟨v23, s, hc23, h⟩ := oB_of h
    refine ww_callV (pc := 23) (rest := []) g cv_Ro_add (Or.inl kw_971) (cl_Ro ⟨by decide, rfl⟩) (pz rfl (by decide)) (ct_Ro_add ⟨by decide, rfl⟩ hc23) ⟨by decide, by decide⟩ rfl hl.1 (Nat.le_of_ble_eq_true rfl) d_Bu_addMade_23 rfl (?_)
    refine ww_st (st' := []) rfl ?_
    exact ww_vretH (pc := 26) g h hR d_Bu_addMade_26
  · refine ww_aload_n (pc := 4) g.1 d_Bu_addMade_4 rfl (lv_at hl 0 rfl) ?_
    refine ww_gR (pc := 5) g (k := 2) cl_Bu (pz rfl (by decide)) (by decide) (Or.inl kw_995) (f := 16642) (t := 128) rfl rfl rfl d_Bu_addMade_5 ?_
    refine ww_iload_n (pc := 8) g.1 d_Bu_addMade_8 rfl (lv_at hl 2 rfl) ?_
    refine ww_ineg (pc := 9) g.1 d_Bu_addMade_9 ?_
    obtain ⟨v10, s, hc10, h⟩ := oB_of h
    refine ww_callV (pc := 10) (rest := []) g cv_Ma_fail (Or.inl kw_1144) cl_Ma (pz rfl (by decide)) (ct_Ma_fail hc10) ⟨by decide, by decide⟩ rfl hl.1 (Nat.le_of_ble_eq_true rfl) d_Bu_addMade_10 rfl (?_)
    refine ww_st (st' := []) rfl ?_
    refine ww_goto (pc := 13) (tgt := 26) g.1 d_Bu_addMade_13 (by decide) ?_
    exact ww_vretH (pc := 26) g h hR d_Bu_addMade_26

abbrev b_Bu_callProtected : ByteArray := prog_2_method_17_code
def y_Bu_callProtected : MethodName := ⟨R_Bu, "callProtected", "()V"⟩
abbrev w_Bu_callProtected : List Cond := .code y_Bu_callProtected b_Bu_callProtected 1 none :: wA
theorem k_Bu_callProtected : Cond.code y_Bu_callProtected b_Bu_callProtected 1 none ∈ wA := kinm (show _ ∈ tables_1 from (List.mem_append_right _ (List.mem_append_right _ (List.mem_append_right _ (List.mem_append_right _ (List.mem_append_right _ (List.mem_append_right _ (List.mem_append_right _ (List.mem_append_left _ (List.mem_of_getElem? (l := tables_1_8) (i := 70) (by decide +kernel))))))))))) (by decide +kernel)
theorem d_Bu_callProtected_0 : decode b_Bu_callProtected 0 = .ok (.aload_n 0, 1) := by decide +kernel
theorem d_Bu_callProtected_1 : decode b_Bu_callProtected 1 = .ok (.getfield 15, 3) := by decide +kernel
theorem d_Bu_callProtected_4 : decode b_Bu_callProtected 4 = .ok (.getfield 235, 3) := by decide +kernel
theorem d_Bu_callProtected_7 : decode b_Bu_callProtected 7 = .ok (.iconst 1, 1) := by decide +kernel
theorem d_Bu_callProtected_8 : decode b_Bu_callProtected 8 = .ok (.iconst (-1), 1) := by decide +kernel
theorem d_Bu_callProtected_9 : decode b_Bu_callProtected 9 = .ok (.iconst 0, 1) := by decide +kernel
theorem d_Bu_callProtected_10 : decode b_Bu_callProtected 10 = .ok (.invokevirtual 239, 3) := by decide +kernel
theorem d_Bu_callProtected_13 : decode b_Bu_callProtected 13 = .ok (.ifCond .ne 12, 3) := by decide +kernel
theorem d_Bu_callProtected_16 : decode b_Bu_callProtected 16 = .ok (.aload_n 0, 1) := by decide +kernel
theorem d_Bu_callProtected_17 : decode b_Bu_callProtected 17 = .ok (.getfield 15, 3) := by decide +kernel
theorem d_Bu_callProtected_20 : decode b_Bu_callProtected 20 = .ok (.iconst 4, 1) := by decide +kernel
theorem d_Bu_callProtected_21 : decode b_Bu_callProtected 21 = .ok (.invokevirtual 145, 3) := by decide +kernel
theorem d_Bu_callProtected_24 : decode b_Bu_callProtected 24 = .ok (.return_, 1) := by decide +kernel
theorem d_Bu_callProtected_25 : decode b_Bu_callProtected 25 = .ok (.aload_n 0, 1) := by decide +kernel
theorem d_Bu_callProtected_26 : decode b_Bu_callProtected 26 = .ok (.getfield 15, 3) := by decide +kernel
theorem d_Bu_callProtected_29 : decode b_Bu_callProtected 29 = .ok (.aload_n 0, 1) := by decide +kernel
theorem d_Bu_callProtected_30 : decode b_Bu_callProtected 30 = .ok (.getfield 35, 3) := by decide +kernel
theorem d_Bu_callProtected_33 : decode b_Bu_callProtected 33 = .ok (.iconst 0, 1) := by decide +kernel
theorem d_Bu_callProtected_34 : decode b_Bu_callProtected 34 = .ok (.invokevirtual 67, 3) := by decide +kernel
theorem d_Bu_callProtected_37 : decode b_Bu_callProtected 37 = .ok (.putfield 257, 3) := by decide +kernel
theorem d_Bu_callProtected_40 : decode b_Bu_callProtected 40 = .ok (.aload_n 0, 1) := by decide +kernel
theorem d_Bu_callProtected_41 : decode b_Bu_callProtected 41 = .ok (.getfield 15, 3) := by decide +kernel
theorem d_Bu_callProtected_44 : decode b_Bu_callProtected 44 = .ok (.aload_n 0, 1) := by decide +kernel
theorem d_Bu_callProtected_45 : decode b_Bu_callProtected 45 = .ok (.getfield 35, 3) := by decide +kernel
theorem d_Bu_callProtected_48 : decode b_Bu_callProtected 48 = .ok (.iconst 0, 1) := by decide +kernel
theorem d_Bu_callProtected_49 : decode b_Bu_callProtected 49 = .ok (.invokevirtual 78, 3) := by decide +kernel
theorem d_Bu_callProtected_52 : decode b_Bu_callProtected 52 = .ok (.putfield 51, 3) := by decide +kernel
theorem d_Bu_callProtected_55 : decode b_Bu_callProtected 55 = .ok (.aload_n 0, 1) := by decide +kernel
theorem d_Bu_callProtected_56 : decode b_Bu_callProtected 56 = .ok (.getfield 35, 3) := by decide +kernel
theorem d_Bu_callProtected_59 : decode b_Bu_callProtected 59 = .ok (.iconst 1, 1) := by decide +kernel
theorem d_Bu_callProtected_60 : decode b_Bu_callProtected 60 = .ok (.invokevirtual 260, 3) := by decide +kernel
theorem d_Bu_callProtected_63 : decode b_Bu_callProtected 63 = .ok (.aload_n 0, 1) := by decide +kernel
theorem d_Bu_callProtected_64 : decode b_Bu_callProtected 64 = .ok (.getfield 15, 3) := by decide +kernel
theorem d_Bu_callProtected_67 : decode b_Bu_callProtected 67 = .ok (.iconst 1, 1) := by decide +kernel
theorem d_Bu_callProtected_68 : decode b_Bu_callProtected 68 = .ok (.putfield 45, 3) := by decide +kernel
theorem d_Bu_callProtected_71 : decode b_Bu_callProtected 71 = .ok (.return_, 1) := by decide +kernel
theorem kw_1147 : Cond.methodLink R_Bu 239 y_Co_push ∈ wA := kinm (show _ ∈ tables_1 from (List.mem_append_right _ (List.mem_append_right _ (List.mem_append_right _ (List.mem_append_right _ (List.mem_append_right _ (List.mem_append_right _ (List.mem_append_right _ (List.mem_append_left _ (List.mem_of_getElem? (l := tables_1_8) (i := 54) (by decide +kernel))))))))))) (by decide +kernel)
theorem kw_1148 : Cond.fieldLink R_Bu 257 "LuaMachine$Machine" "calleeKind" "I" ∈ wA := kinm (show _ ∈ tables_1 from (List.mem_append_right _ (List.mem_append_left _ (List.mem_of_getElem? (l := tables_1_2) (i := 89) (by decide +kernel))))) (by decide +kernel)
theorem kw_1149 : Cond.fieldLink R_Bu 51 "LuaMachine$Machine" "calleeValue" "J" ∈ wA := kinm (show _ ∈ tables_1 from (List.mem_append_right _ (List.mem_append_left _ (List.mem_of_getElem? (l := tables_1_2) (i := 91) (by decide +kernel))))) (by decide +kernel)
theorem kw_1150 : Cond.methodLink R_Bu 260 y_Ro_dropFirst ∈ wA := kinm (show _ ∈ tables_1 from (List.mem_append_right _ (List.mem_append_right _ (List.mem_append_right _ (List.mem_append_right _ (List.mem_append_right _ (List.mem_append_right _ (List.mem_append_right _ (List.mem_append_left _ (List.mem_of_getElem? (l := tables_1_8) (i := 71) (by decide +kernel))))))))))) (by decide +kernel)
theorem kw_1151 : Cond.fieldLink R_Bu 45 "LuaMachine$Machine" "turn" "I" ∈ wA := kinm (show _ ∈ tables_1 from (List.mem_append_right _ (List.mem_append_left _ (List.mem_of_getElem? (l := tables_1_2) (i := 84) (by decide +kernel))))) (by decide +kernel)
theorem kw_1152 : Cond.instanceMethod y_Bu_callProtected ∈ wA := kinm (show _ ∈ tables_1 from (List.mem_append_right _ (List.mem_append_right _ (List.mem_append_right _ (List.mem_append_right _ (List.mem_append_right _ (List.mem_append_right _ (List.mem_append_right _ (List.mem_append_left _ (List.mem_of_getElem? (l := tables_1_8) (i := 69) (by decide +kernel))))))))))) (by decide +kernel)
theorem kw_1153 : Cond.selects R_Bu y_Bu_callProtected y_Bu_callProtected ∈ wA := kinp 71 (by decide +kernel) (by decide +kernel)
theorem cv_Bu_callProtected : CV y_Bu_callProtected b_Bu_callProtected 1 none 0 := ⟨kw_1152, kw_1153, kw_950, k_Bu_callProtected, by decide +kernel⟩
theorem ct_Bu_callProtected {l : Launch} {P : PP} {q : PL} {s s' : S1}  {r : Unit} (h : M_Bu_callProtected s = some (r, s')) : Ct l y_Bu_callProtected b_Bu_callProtected 1 none 2 48 P q s [.ref (q.1 130 0)] none q s' := by
  refine ct_of (by decide) (Nat.le_of_ble_eq_true rfl) fun X ls eP el g hR hl => ?_
  subst eP
  have hR : Rt X q ((r, s') : Unit × S1).2 none := hR
  have hl : lv_has ls 1 [(0, .ref (q.1 130 0))] := hl
  generalize (r, s') = o at h hR
  unfold M_Bu_callProtected at h
  refine ww_aload_n (pc := 0) g.1 d_Bu_callProtected_0 rfl (lv_at hl 0 rfl) ?_
  refine ww_gR (pc := 1) g (k := 2) cl_Bu (pz rfl (by decide)) (by decide) (Or.inl kw_995) (f := 16642) (t := 128) rfl rfl rfl d_Bu_callProtected_1 ?_
  refine ww_gV (pc := 4) g (k := 11) cl_Ma (pz rfl (by decide)) (by decide) (Or.inl kw_996) (f := 16395) (t := 148) rfl rfl rfl d_Bu_callProtected_4 h fun v4 h => ?_
  refine ww_pr h fun pn4 h => ?_
  refine ww_nnP pn4 ?_
  refine ww_iconst (pc := 7) g.1 (v := 1) d_Bu_callProtected_7 (by decide) ?_
  refine ww_iconst (pc := 8) g.1 (v := (-1)) d_Bu_callProtected_8 (by decide) ?_
  refine ww_iconst (pc := 9) g.1 (v := 0) d_Bu_callProtected_9 (by decide) ?_
  obtain ⟨v10, s, hc10, h⟩ := oB_of h
  refine ww_callV (pc := 10) (rest := []) g cv_Co_push (Or.inl kw_1147) cl_Co pn4 (ct_Co_push pn4 hc10) ⟨by decide, by decide⟩ rfl hl.1 (Nat.le_of_ble_eq_true rfl) d_Bu_callProtected_10 rfl (?_)
  refine ww_st (st' := [.int v10]) rfl ?_
  refine ww_if_ne (pc := 13) (tgt := 25) g.1 d_Bu_callProtected_13 (by decide) h (fun c h => ?_) (fun c h => ?_)
  · refine ww_aload_n (pc := 25) g.1 d_Bu_callProtected_25 rfl (lv_at hl 0 rfl) ?_
    refine ww_gR (pc := 26) g (k := 2) cl_Bu (pz rfl (by decide)) (by decide) (Or.inl kw_995) (f := 16642) (t := 128) rfl rfl rfl d_Bu_callProtected_26 ?_
    refine ww_aload_n (pc := 29) g.1 d_Bu_callProtected_29 rfl (lv_at hl 0 rfl) ?_
    refine ww_gR (pc := 30) g (k := 5) cl_Bu (pz rfl (by decide)) (by decide) (Or.inl kw_976) (f := 16645) (t := 132) rfl rfl rfl d_Bu_callProtected_30 ?_
    refine ww_iconst (pc := 33) g.1 (v := 0) d_Bu_callProtected_33 (by decide) ?_
    obtain ⟨v34, s, hc34, h⟩ := oB_of h
    refine ww_callV (pc := 34) (rest := [.ref (q.1 128 0)]) g cv_Ro_kindAt (Or.inl kw_983) (cl_Ro ⟨by decide, rfl⟩) (pz rfl (by decide)) (ct_Ro_kindAt ⟨by decide, rfl⟩ hc34) ⟨by decide, by decide⟩ rfl hl.1 (Nat.le_of_ble_eq_true rfl) d_Bu_callProtected_34 rfl (?_)
    refine ww_st (st' := [.int v34, .ref (q.1 128 0)]) rfl ?_
    refine ww_pI (pc := 37) g (k := 13) cl_Ma (pz rfl (by decide)) (by decide) (Or.inl kw_1148) rfl (f := 16397) rfl rfl rfl rfl d_Bu_callProtected_37 h fun s hs h => ?_
    refine ww_aload_n (pc := 40) g.1 d_Bu_callProtected_40 rfl (lv_at hl 0 rfl) ?_
    refine ww_gR (pc := 41) g (k := 2) cl_Bu (pz rfl (by decide)) (by decide) (Or.inl kw_995) (f := 16642) (t := 128) rfl rfl rfl d_Bu_callProtected_41 ?_
    refine ww_aload_n (pc := 44) g.1 d_Bu_callProtected_44 rfl (lv_at hl 0 rfl) ?_
    refine ww_gR (pc := 45) g (k := 5) cl_Bu (pz rfl (by decide)) (by decide) (Or.inl kw_976) (f := 16645) (t := 132) rfl rfl rfl d_Bu_callProtected_45 ?_
    refine ww_iconst (pc := 48) g.1 (v := 0) d_Bu_callProtected_48 (by decide) ?_
    obtain ⟨v49, s, hc49, h⟩ := oB_of h
    refine ww_callV (pc := 49) (rest := [.ref (q.1 128 0)]) g cv_Ro_valueAt (Or.inl kw_977) (cl_Ro ⟨by decide, rfl⟩) (pz rfl (by decide)) (ct_Ro_valueAt ⟨by decide, rfl⟩ hc49) ⟨by decide, by decide⟩ rfl hl.1 (Nat.le_of_ble_eq_true rfl) d_Bu_callProtected_49 rfl (?_)
    refine ww_st (st' := [.long v49, .ref (q.1 128 0)]) rfl ?_
    refine ww_pL (pc := 52) g (k := 14) cl_Ma (pz rfl (by decide)) (by decide) (Or.inl kw_1149) rfl (f := 16398) rfl rfl rfl rfl d_Bu_callProtected_52 h fun s hs h => ?_
    refine ww_aload_n (pc := 55) g.1 d_Bu_callProtected_55 rfl (lv_at hl 0 rfl) ?_
    refine ww_gR (pc := 56) g (k := 5) cl_Bu (pz rfl (by decide)) (by decide) (Or.inl kw_976) (f := 16645) (t := 132) rfl rfl rfl d_Bu_callProtected_56 ?_
    refine ww_iconst (pc := 59) g.1 (v := 1) d_Bu_callProtected_59 (by decide) ?_
    obtain ⟨v60, s, hc60, h⟩ := oB_of h
    refine ww_callV (pc := 60) (rest := []) g cv_Ro_dropFirst (Or.inl kw_1150) (cl_Ro ⟨by decide, rfl⟩) (pz rfl (by decide)) (ct_Ro_dropFirst ⟨by decide, rfl⟩ hc60) ⟨by decide, by decide⟩ rfl hl.1 (Nat.le_of_ble_eq_true rfl) d_Bu_callProtected_60 rfl (?_)
    refine ww_st (st' := []) rfl ?_
    refine ww_aload_n (pc := 63) g.1 d_Bu_callProtected_63 rfl (lv_at hl 0 rfl) ?_
    refine ww_gR (pc := 64) g (k := 2) cl_Bu (pz rfl (by decide)) (by decide) (Or.inl kw_995) (f := 16642) (t := 128) rfl rfl rfl d_Bu_callProtected_64 ?_
    refine ww_iconst (pc := 67) g.1 (v := 1) d_Bu_callProtected_67 (by decide) ?_
    refine ww_pI (pc := 68) g (k := 12) cl_Ma (pz rfl (by decide)) (by decide) (Or.inl kw_1151) rfl (f := 16396) rfl rfl rfl rfl d_Bu_callProtected_68 h fun s hs h => ?_
    exact ww_vretH (pc := 71) g h hR d_Bu_callProtected_71
  · refine ww_aload_n (pc := 16) g.1 d_Bu_callProtected_16 rfl (lv_at hl 0 rfl) ?_
    refine ww_gR (pc := 17) g (k := 2) cl_Bu (pz rfl (by decide)) (by decide) (Or.inl kw_995) (f := 16642) (t := 128) rfl rfl rfl d_Bu_callProtected_17 ?_
    refine ww_iconst (pc := 20) g.1 (v := 4) d_Bu_callProtected_20 (by decide) ?_
    obtain ⟨v21, s, hc21, h⟩ := oB_of h
    refine ww_callV (pc := 21) (rest := []) g cv_Ma_fail (Or.inl kw_1144) cl_Ma (pz rfl (by decide)) (ct_Ma_fail hc21) ⟨by decide, by decide⟩ rfl hl.1 (Nat.le_of_ble_eq_true rfl) d_Bu_callProtected_21 rfl (?_)
    refine ww_st (st' := []) rfl ?_
    exact ww_vretH (pc := 24) g h hR d_Bu_callProtected_24


