abbrev b_Mo_closure_ : ByteArray := prog_14_method_133_code
def y_Mo_closure_ : MethodName := ⟨R_Mo, "closure", "(LLuaMachineModel$Thread_;IIILLuaMachineModel$Values;I)V"⟩
abbrev w_Mo_closure_ : List Cond := .code y_Mo_closure_ b_Mo_closure_ 12 none :: wA
set_option maxRecDepth 20000 in
theorem k_Mo_closure_ : Cond.code y_Mo_closure_ b_Mo_closure_ 12 none ∈ wA := kinm (show _ ∈ tables_1 from (List.mem_append_right _ (List.mem_append_right _ (List.mem_append_right _ (List.mem_append_right _ (List.mem_append_right _ (List.mem_append_right _ (List.mem_append_right _ (List.mem_append_right _ (List.mem_append_right _ (List.mem_append_right _ (List.mem_append_right _ (List.mem_append_right _ (List.mem_append_left _ (List.mem_of_getElem? (l := tables_1_13) (i := 227) rfl))))))))))))))) rfl
theorem d_Mo_closure__0 : decode b_Mo_closure_ 0 = .ok (.aload_n 0, 1) := by decide +kernel
theorem d_Mo_closure__1 : decode b_Mo_closure_ 1 = .ok (.getfield 68, 3) := by decide +kernel
theorem d_Mo_closure__4 : decode b_Mo_closure_ 4 = .ok (.aload_n 0, 1) := by decide +kernel
theorem d_Mo_closure__5 : decode b_Mo_closure_ 5 = .ok (.getfield 59, 3) := by decide +kernel
theorem d_Mo_closure__8 : decode b_Mo_closure_ 8 = .ok (.iload_n 3, 1) := by decide +kernel
theorem d_Mo_closure__9 : decode b_Mo_closure_ 9 = .ok (.iaload, 1) := by decide +kernel
theorem d_Mo_closure__10 : decode b_Mo_closure_ 10 = .ok (.iload 4, 2) := by decide +kernel
theorem d_Mo_closure__12 : decode b_Mo_closure_ 12 = .ok (.invokestatic 508, 3) := by decide +kernel
theorem d_Mo_closure__15 : decode b_Mo_closure_ 15 = .ok (.iadd, 1) := by decide +kernel
theorem d_Mo_closure__16 : decode b_Mo_closure_ 16 = .ok (.iaload, 1) := by decide +kernel
theorem d_Mo_closure__17 : decode b_Mo_closure_ 17 = .ok (.istore 7, 2) := by decide +kernel
theorem d_Mo_closure__19 : decode b_Mo_closure_ 19 = .ok (.aload_n 0, 1) := by decide +kernel
theorem d_Mo_closure__20 : decode b_Mo_closure_ 20 = .ok (.getfield 234, 3) := by decide +kernel
theorem d_Mo_closure__23 : decode b_Mo_closure_ 23 = .ok (.getfield 569, 3) := by decide +kernel
theorem d_Mo_closure__26 : decode b_Mo_closure_ 26 = .ok (.istore 8, 2) := by decide +kernel
theorem d_Mo_closure__28 : decode b_Mo_closure_ 28 = .ok (.iconst 0, 1) := by decide +kernel
theorem d_Mo_closure__29 : decode b_Mo_closure_ 29 = .ok (.istore 9, 2) := by decide +kernel
theorem d_Mo_closure__31 : decode b_Mo_closure_ 31 = .ok (.iload 9, 2) := by decide +kernel
theorem d_Mo_closure__33 : decode b_Mo_closure_ 33 = .ok (.aload_n 0, 1) := by decide +kernel
theorem d_Mo_closure__34 : decode b_Mo_closure_ 34 = .ok (.getfield 41, 3) := by decide +kernel
theorem d_Mo_closure__37 : decode b_Mo_closure_ 37 = .ok (.iload 7, 2) := by decide +kernel
theorem d_Mo_closure__39 : decode b_Mo_closure_ 39 = .ok (.iaload, 1) := by decide +kernel
theorem d_Mo_closure__40 : decode b_Mo_closure_ 40 = .ok (.if_icmp .ge 101, 3) := by decide +kernel
theorem d_Mo_closure__43 : decode b_Mo_closure_ 43 = .ok (.aload_n 0, 1) := by decide +kernel
theorem d_Mo_closure__44 : decode b_Mo_closure_ 44 = .ok (.getfield 65, 3) := by decide +kernel
theorem d_Mo_closure__47 : decode b_Mo_closure_ 47 = .ok (.aload_n 0, 1) := by decide +kernel
theorem d_Mo_closure__48 : decode b_Mo_closure_ 48 = .ok (.getfield 44, 3) := by decide +kernel
theorem d_Mo_closure__51 : decode b_Mo_closure_ 51 = .ok (.iload 7, 2) := by decide +kernel
theorem d_Mo_closure__53 : decode b_Mo_closure_ 53 = .ok (.iaload, 1) := by decide +kernel
theorem d_Mo_closure__54 : decode b_Mo_closure_ 54 = .ok (.iload 9, 2) := by decide +kernel
theorem d_Mo_closure__56 : decode b_Mo_closure_ 56 = .ok (.iadd, 1) := by decide +kernel
theorem d_Mo_closure__57 : decode b_Mo_closure_ 57 = .ok (.iaload, 1) := by decide +kernel
theorem d_Mo_closure__58 : decode b_Mo_closure_ 58 = .ok (.istore 10, 2) := by decide +kernel
theorem d_Mo_closure__60 : decode b_Mo_closure_ 60 = .ok (.iload 10, 2) := by decide +kernel
theorem d_Mo_closure__62 : decode b_Mo_closure_ 62 = .ok (.sipush 256, 3) := by decide +kernel
theorem d_Mo_closure__65 : decode b_Mo_closure_ 65 = .ok (.if_icmp .ge 14, 3) := by decide +kernel
theorem d_Mo_closure__68 : decode b_Mo_closure_ 68 = .ok (.aload_n 0, 1) := by decide +kernel
theorem d_Mo_closure__69 : decode b_Mo_closure_ 69 = .ok (.aload_n 1, 1) := by decide +kernel
theorem d_Mo_closure__70 : decode b_Mo_closure_ 70 = .ok (.iload_n 2, 1) := by decide +kernel
theorem d_Mo_closure__71 : decode b_Mo_closure_ 71 = .ok (.iload 10, 2) := by decide +kernel
theorem d_Mo_closure__73 : decode b_Mo_closure_ 73 = .ok (.invokevirtual 925, 3) := by decide +kernel
theorem d_Mo_closure__76 : decode b_Mo_closure_ 76 = .ok (.goto 21, 3) := by decide +kernel
theorem d_Mo_closure__79 : decode b_Mo_closure_ 79 = .ok (.aload_n 0, 1) := by decide +kernel
theorem d_Mo_closure__80 : decode b_Mo_closure_ 80 = .ok (.aload_n 1, 1) := by decide +kernel
theorem d_Mo_closure__81 : decode b_Mo_closure_ 81 = .ok (.aload_n 1, 1) := by decide +kernel
theorem d_Mo_closure__82 : decode b_Mo_closure_ 82 = .ok (.getfield 744, 3) := by decide +kernel
theorem d_Mo_closure__85 : decode b_Mo_closure_ 85 = .ok (.iload_n 2, 1) := by decide +kernel
theorem d_Mo_closure__86 : decode b_Mo_closure_ 86 = .ok (.iaload, 1) := by decide +kernel
theorem d_Mo_closure__87 : decode b_Mo_closure_ 87 = .ok (.iload 10, 2) := by decide +kernel
theorem d_Mo_closure__89 : decode b_Mo_closure_ 89 = .ok (.sipush 255, 3) := by decide +kernel
theorem d_Mo_closure__92 : decode b_Mo_closure_ 92 = .ok (.iand, 1) := by decide +kernel
theorem d_Mo_closure__93 : decode b_Mo_closure_ 93 = .ok (.iadd, 1) := by decide +kernel
theorem d_Mo_closure__94 : decode b_Mo_closure_ 94 = .ok (.invokevirtual 1013, 3) := by decide +kernel
theorem d_Mo_closure__97 : decode b_Mo_closure_ 97 = .ok (.istore 11, 2) := by decide +kernel
theorem d_Mo_closure__99 : decode b_Mo_closure_ 99 = .ok (.iload 11, 2) := by decide +kernel
theorem d_Mo_closure__101 : decode b_Mo_closure_ 101 = .ok (.ifCond .ge 13, 3) := by decide +kernel
theorem d_Mo_closure__104 : decode b_Mo_closure_ 104 = .ok (.aload_n 0, 1) := by decide +kernel
theorem d_Mo_closure__105 : decode b_Mo_closure_ 105 = .ok (.getfield 234, 3) := by decide +kernel
theorem d_Mo_closure__108 : decode b_Mo_closure_ 108 = .ok (.iload 8, 2) := by decide +kernel
theorem d_Mo_closure__110 : decode b_Mo_closure_ 110 = .ok (.putfield 569, 3) := by decide +kernel
theorem d_Mo_closure__113 : decode b_Mo_closure_ 113 = .ok (.return_, 1) := by decide +kernel
theorem d_Mo_closure__114 : decode b_Mo_closure_ 114 = .ok (.aload_n 0, 1) := by decide +kernel
theorem d_Mo_closure__115 : decode b_Mo_closure_ 115 = .ok (.getfield 274, 3) := by decide +kernel
theorem d_Mo_closure__118 : decode b_Mo_closure_ 118 = .ok (.iload 9, 2) := by decide +kernel
theorem d_Mo_closure__120 : decode b_Mo_closure_ 120 = .ok (.iload 11, 2) := by decide +kernel
theorem d_Mo_closure__122 : decode b_Mo_closure_ 122 = .ok (.iastore, 1) := by decide +kernel
theorem d_Mo_closure__123 : decode b_Mo_closure_ 123 = .ok (.aload_n 0, 1) := by decide +kernel
theorem d_Mo_closure__124 : decode b_Mo_closure_ 124 = .ok (.getfield 234, 3) := by decide +kernel
theorem d_Mo_closure__127 : decode b_Mo_closure_ 127 = .ok (.bipush 8, 2) := by decide +kernel
theorem d_Mo_closure__129 : decode b_Mo_closure_ 129 = .ok (.iload 11, 2) := by decide +kernel
theorem d_Mo_closure__131 : decode b_Mo_closure_ 131 = .ok (.i2l, 1) := by decide +kernel
theorem d_Mo_closure__132 : decode b_Mo_closure_ 132 = .ok (.invokevirtual 572, 3) := by decide +kernel
theorem d_Mo_closure__135 : decode b_Mo_closure_ 135 = .ok (.iinc 9 1, 3) := by decide +kernel
theorem d_Mo_closure__138 : decode b_Mo_closure_ 138 = .ok (.goto (-107), 3) := by decide +kernel
theorem d_Mo_closure__141 : decode b_Mo_closure_ 141 = .ok (.aload_n 0, 1) := by decide +kernel
theorem d_Mo_closure__142 : decode b_Mo_closure_ 142 = .ok (.iload 7, 2) := by decide +kernel
theorem d_Mo_closure__144 : decode b_Mo_closure_ 144 = .ok (.iconst 0, 1) := by decide +kernel
theorem d_Mo_closure__145 : decode b_Mo_closure_ 145 = .ok (.aload_n 0, 1) := by decide +kernel
theorem d_Mo_closure__146 : decode b_Mo_closure_ 146 = .ok (.getfield 41, 3) := by decide +kernel
theorem d_Mo_closure__149 : decode b_Mo_closure_ 149 = .ok (.iload 7, 2) := by decide +kernel
theorem d_Mo_closure__151 : decode b_Mo_closure_ 151 = .ok (.iaload, 1) := by decide +kernel
theorem d_Mo_closure__152 : decode b_Mo_closure_ 152 = .ok (.invokevirtual 688, 3) := by decide +kernel
theorem d_Mo_closure__155 : decode b_Mo_closure_ 155 = .ok (.istore 9, 2) := by decide +kernel
theorem d_Mo_closure__157 : decode b_Mo_closure_ 157 = .ok (.aload_n 0, 1) := by decide +kernel
theorem d_Mo_closure__158 : decode b_Mo_closure_ 158 = .ok (.getfield 234, 3) := by decide +kernel
theorem d_Mo_closure__161 : decode b_Mo_closure_ 161 = .ok (.iload 8, 2) := by decide +kernel
theorem d_Mo_closure__163 : decode b_Mo_closure_ 163 = .ok (.putfield 569, 3) := by decide +kernel
theorem d_Mo_closure__166 : decode b_Mo_closure_ 166 = .ok (.iload 9, 2) := by decide +kernel
theorem d_Mo_closure__168 : decode b_Mo_closure_ 168 = .ok (.ifCond .lt 15, 3) := by decide +kernel
theorem d_Mo_closure__171 : decode b_Mo_closure_ 171 = .ok (.aload 5, 2) := by decide +kernel
theorem d_Mo_closure__173 : decode b_Mo_closure_ 173 = .ok (.iload 6, 2) := by decide +kernel
theorem d_Mo_closure__175 : decode b_Mo_closure_ 175 = .ok (.bipush 6, 2) := by decide +kernel
theorem d_Mo_closure__177 : decode b_Mo_closure_ 177 = .ok (.iload 9, 2) := by decide +kernel
theorem d_Mo_closure__179 : decode b_Mo_closure_ 179 = .ok (.i2l, 1) := by decide +kernel
theorem d_Mo_closure__180 : decode b_Mo_closure_ 180 = .ok (.invokevirtual 470, 3) := by decide +kernel
theorem d_Mo_closure__183 : decode b_Mo_closure_ 183 = .ok (.return_, 1) := by decide +kernel
theorem kw_496 : Cond.fieldLink R_Mo 68 "LuaMachineModel" "child" "[I" ∈ wA := kinm (show _ ∈ tables_1 from (List.mem_append_right _ (List.mem_append_right _ (List.mem_append_right _ (List.mem_append_right _ (List.mem_append_right _ (List.mem_append_right _ (List.mem_append_right _ (List.mem_append_right _ (List.mem_append_right _ (List.mem_append_left _ (List.mem_of_getElem? (l := tables_1_10) (i := 73) (by decide +kernel))))))))))))) (by decide +kernel)
theorem kw_497 : Cond.fieldLink R_Mo 59 "LuaMachineModel" "childAt" "[I" ∈ wA := kinm (show _ ∈ tables_1 from (List.mem_append_right _ (List.mem_append_right _ (List.mem_append_right _ (List.mem_append_right _ (List.mem_append_right _ (List.mem_append_right _ (List.mem_append_right _ (List.mem_append_right _ (List.mem_append_right _ (List.mem_append_left _ (List.mem_of_getElem? (l := tables_1_10) (i := 70) (by decide +kernel))))))))))))) (by decide +kernel)
theorem kw_498 : Cond.fieldLink R_Mo 44 "LuaMachineModel" "upAt" "[I" ∈ wA := kinm (show _ ∈ tables_1 from (List.mem_append_right _ (List.mem_append_right _ (List.mem_append_right _ (List.mem_append_right _ (List.mem_append_right _ (List.mem_append_right _ (List.mem_append_right _ (List.mem_append_right _ (List.mem_append_right _ (List.mem_append_left _ (List.mem_of_getElem? (l := tables_1_10) (i := 65) (by decide +kernel))))))))))))) (by decide +kernel)
theorem kw_499 : Cond.methodLink R_Mo 1013 y_Mo_variableAt ∈ wA := kinm (show _ ∈ tables_1 from (List.mem_append_right _ (List.mem_append_right _ (List.mem_append_right _ (List.mem_append_right _ (List.mem_append_right _ (List.mem_append_right _ (List.mem_append_right _ (List.mem_append_right _ (List.mem_append_right _ (List.mem_append_right _ (List.mem_append_right _ (List.mem_append_right _ (List.mem_append_left _ (List.mem_of_getElem? (l := tables_1_13) (i := 228) (by decide +kernel)))))))))))))))) (by decide +kernel)
theorem kw_500 : Cond.instanceMethod y_Mo_closure_ ∈ wA := kinm (show _ ∈ tables_1 from (List.mem_append_right _ (List.mem_append_right _ (List.mem_append_right _ (List.mem_append_right _ (List.mem_append_right _ (List.mem_append_right _ (List.mem_append_right _ (List.mem_append_right _ (List.mem_append_right _ (List.mem_append_right _ (List.mem_append_right _ (List.mem_append_right _ (List.mem_append_left _ (List.mem_of_getElem? (l := tables_1_13) (i := 226) (by decide +kernel)))))))))))))))) (by decide +kernel)
theorem kw_501 : Cond.selects R_Mo y_Mo_closure_ y_Mo_closure_ ∈ wA := kinp 223 (by decide +kernel) (by decide +kernel)
theorem cv_Mo_closure_ : CV y_Mo_closure_ b_Mo_closure_ 12 none 6 := ⟨kw_500, kw_501, kw_17, k_Mo_closure_, by decide +kernel⟩
theorem j_Mo_closure__j97 {X : Cx} {q : PL} (g : Gd X y_Mo_closure_ b_Mo_closure_ 12 none 8 179 R_Mo) {o : ((Int32 × Int32 × Nat × Int32 × Int32 × Int32 × Int32 × Int32) ⊕ ((Int32) ⊕ (Nat × Int32 × Int32 × Int32 × Int32))) × S1} (hR : (Sum.elim (fun y : Int32 × Int32 × Nat × Int32 × Int32 × Int32 × Int32 × Int32 => ∀ ls : Array Slot, (0 ≤ y.1 ∧ y.1 < 33) → (VOK y.2.2.1 y.2.2.2.1) → lv_has ls 12 [(0, .ref (q.1 0 0)), (1, .ref (q.1 28 y.1)), (2, .int y.2.1), (5, .ref (q.1 y.2.2.1 y.2.2.2.1)), (6, .int y.2.2.2.2.1), (7, .int y.2.2.2.2.2.1), (8, .int y.2.2.2.2.2.2.1), (9, .int y.2.2.2.2.2.2.2)] → WW X q o.2 31 ls []) (Sum.elim (fun y : Int32 => ∀ ls : Array Slot, lv_has ls 12 [(0, .ref (q.1 0 0)), (8, .int y)] → WW X q o.2 104 ls []) (fun y : Nat × Int32 × Int32 × Int32 × Int32 => ∀ ls : Array Slot, (VOK y.1 y.2.1) → lv_has ls 12 [(0, .ref (q.1 0 0)), (5, .ref (q.1 y.1 y.2.1)), (6, .int y.2.2.1), (7, .int y.2.2.2.1), (8, .int y.2.2.2.2)] → WW X q o.2 141 ls [])) o.1)) (l1 : Int32) (l2 : Int32) (l5r : Nat) (l5 : Int32) (l6 : Int32) (l7 : Int32) (l8 : Int32) (l9 : Int32) (k0 : Int32) (s : S1) (hp0 : 0 ≤ l1 ∧ l1 < 33) (hp1 : VOK l5r l5) (ls : Array Slot) (hl : lv_has ls 12 [(0, .ref (q.1 0 0)), (1, .ref (q.1 28 l1)), (2, .int l2), (5, .ref (q.1 l5r l5)), (6, .int l6), (7, .int l7), (8, .int l8), (9, .int l9)]) (h : M_Mo_closure__j97 l1 l2 l5r l5 l6 l7 l8 l9 k0 s = some o) : WW X q s 97 ls [.int k0] := by
  unfold M_Mo_closure__j97 at h
  refine ww_istore (pc := 97) (i := 11) g.1 (lv' := [(11, .int k0), (0, .ref (q.1 0 0)), (1, .ref (q.1 28 l1)), (2, .int l2), (5, .ref (q.1 l5r l5)), (6, .int l6), (7, .int l7), (8, .int l8), (9, .int l9)]) d_Mo_closure__97 hl (by decide) rfl fun ls hl => ?_
  refine ww_iload (pc := 99) g.1 d_Mo_closure__99 (lv_at hl 0 rfl) ?_
  refine ww_if_ge (pc := 101) (tgt := 114) g.1 d_Mo_closure__101 (by decide) h (fun c h => ?_) (fun c h => ?_)
  · refine ww_aload_n (pc := 114) g.1 d_Mo_closure__114 rfl (lv_at hl 1 rfl) ?_
    refine ww_gR (pc := 115) g (k := 82) cl_Mo (pz rfl (by decide)) (by decide) (Or.inl kw_468) (f := 82) (t := 77) rfl rfl rfl d_Mo_closure__115 ?_
    refine ww_iload (pc := 118) g.1 d_Mo_closure__118 (lv_at hl 8 rfl) ?_
    refine ww_iload (pc := 120) g.1 d_Mo_closure__120 (lv_at hl 0 rfl) ?_
    refine ww_si (pc := 122) g (pz rfl (by decide)) rfl rfl d_Mo_closure__122 h fun s hs h => ?_
    refine ww_aload_n (pc := 123) g.1 d_Mo_closure__123 rfl (lv_at hl 1 rfl) ?_
    refine ww_gR (pc := 124) g (k := 70) cl_Mo (pz rfl (by decide)) (by decide) (Or.inl kw_441) (f := 70) (t := 16) rfl rfl rfl d_Mo_closure__124 ?_
    refine ww_bipush (pc := 127) g.1 (v := 8) d_Mo_closure__127 (by decide) ?_
    refine ww_iload (pc := 129) g.1 d_Mo_closure__129 (lv_at hl 0 rfl) ?_
    refine ww_i2l (pc := 131) g.1 (v := k0.toInt64) d_Mo_closure__131 rfl ?_
    obtain ⟨v132, s, hc132, h⟩ := oB_of h
    refine ww_callV (pc := 132) (rest := []) g cv_Va_add (Or.inl kw_187) (cl_Va (Or.inl ⟨by decide, rfl⟩)) (pz rfl (by decide)) (ct_Va_add (Or.inl ⟨by decide, rfl⟩) hc132) ⟨by decide, by decide⟩ rfl hl.1 (Nat.le_of_ble_eq_true rfl) d_Mo_closure__132 rfl ?_
    refine ww_st (st' := []) rfl ?_
    refine ww_iinc (pc := 135) g.1 (v := l9 + 1) (lv' := [(9, .int (l9 + 1)), (11, .int k0), (0, .ref (q.1 0 0)), (1, .ref (q.1 28 l1)), (2, .int l2), (5, .ref (q.1 l5r l5)), (6, .int l6), (7, .int l7), (8, .int l8)]) d_Mo_closure__135 hl (k := 8) rfl (by rfl) (by decide) rfl fun ls hl => ?_
    refine ww_goto (pc := 138) (tgt := 31) g.1 d_Mo_closure__138 (by decide) ?_
    rw [oR_eq h] at hR
    exact hR ls hp0 hp1 (lv_sub hl [2, 3, 4, 5, 6, 7, 8, 0] rfl)
  · rw [oR_eq h] at hR
    exact hR ls (lv_sub hl [1, 7] rfl)

theorem lp_Mo_closure__L31 {X : Cx} {q : PL} (g : Gd X y_Mo_closure_ b_Mo_closure_ 12 none 8 179 R_Mo) (x : Int32 × Int32 × Nat × Int32 × Int32 × Int32 × Int32 × Int32) (s : S1) (o : ((Int32 × Int32 × Nat × Int32 × Int32 × Int32 × Int32 × Int32) ⊕ ((Int32) ⊕ (Nat × Int32 × Int32 × Int32 × Int32))) × S1) (h : M_Mo_closure__L31 x s = some o) (hR : (Sum.elim (fun y : Int32 × Int32 × Nat × Int32 × Int32 × Int32 × Int32 × Int32 => ∀ ls : Array Slot, (0 ≤ y.1 ∧ y.1 < 33) → (VOK y.2.2.1 y.2.2.2.1) → lv_has ls 12 [(0, .ref (q.1 0 0)), (1, .ref (q.1 28 y.1)), (2, .int y.2.1), (5, .ref (q.1 y.2.2.1 y.2.2.2.1)), (6, .int y.2.2.2.2.1), (7, .int y.2.2.2.2.2.1), (8, .int y.2.2.2.2.2.2.1), (9, .int y.2.2.2.2.2.2.2)] → WW X q o.2 31 ls []) (Sum.elim (fun y : Int32 => ∀ ls : Array Slot, lv_has ls 12 [(0, .ref (q.1 0 0)), (8, .int y)] → WW X q o.2 104 ls []) (fun y : Nat × Int32 × Int32 × Int32 × Int32 => ∀ ls : Array Slot, (VOK y.1 y.2.1) → lv_has ls 12 [(0, .ref (q.1 0 0)), (5, .ref (q.1 y.1 y.2.1)), (6, .int y.2.2.1), (7, .int y.2.2.2.1), (8, .int y.2.2.2.2)] → WW X q o.2 141 ls [])) o.1)) : ∀ ls : Array Slot, (0 ≤ x.1 ∧ x.1 < 33) → (VOK x.2.2.1 x.2.2.2.1) → lv_has ls 12 [(0, .ref (q.1 0 0)), (1, .ref (q.1 28 x.1)), (2, .int x.2.1), (5, .ref (q.1 x.2.2.1 x.2.2.2.1)), (6, .int x.2.2.2.2.1), (7, .int x.2.2.2.2.2.1), (8, .int x.2.2.2.2.2.2.1), (9, .int x.2.2.2.2.2.2.2)] → WW X q s 31 ls [] := by
  intro ls hp0 hp1 hl
  unfold M_Mo_closure__L31 at h
  refine ww_iload (pc := 31) g.1 d_Mo_closure__31 (lv_at hl 7 rfl) ?_
  refine ww_aload_n (pc := 33) g.1 d_Mo_closure__33 rfl (lv_at hl 0 rfl) ?_
  refine ww_gR (pc := 34) g (k := 9) cl_Mo (pz rfl (by decide)) (by decide) (Or.inl kw_39) (f := 9) (t := 45) rfl rfl rfl d_Mo_closure__34 ?_
  refine ww_iload (pc := 37) g.1 d_Mo_closure__37 (lv_at hl 5 rfl) ?_
  refine ww_ai (pc := 39) g (pz rfl (by decide)) rfl rfl d_Mo_closure__39 h fun v39 h => ?_
  refine ww_icmp_ge (pc := 40) (tgt := 141) g.1 d_Mo_closure__40 (by decide) h (fun c h => ?_) (fun c h => ?_)
  · rw [oR_eq h] at hR
    exact hR ls hp1 (lv_sub hl [0, 3, 4, 5, 6] rfl)
  · refine ww_aload_n (pc := 43) g.1 d_Mo_closure__43 rfl (lv_at hl 0 rfl) ?_
    refine ww_gR (pc := 44) g (k := 17) cl_Mo (pz rfl (by decide)) (by decide) (Or.inl kw_37) (f := 17) (t := 53) rfl rfl rfl d_Mo_closure__44 ?_
    refine ww_aload_n (pc := 47) g.1 d_Mo_closure__47 rfl (lv_at hl 0 rfl) ?_
    refine ww_gR (pc := 48) g (k := 10) cl_Mo (pz rfl (by decide)) (by decide) (Or.inl kw_498) (f := 10) (t := 46) rfl rfl rfl d_Mo_closure__48 ?_
    refine ww_iload (pc := 51) g.1 d_Mo_closure__51 (lv_at hl 5 rfl) ?_
    refine ww_ai (pc := 53) g (pz rfl (by decide)) rfl rfl d_Mo_closure__53 h fun v53 h => ?_
    refine ww_iload (pc := 54) g.1 d_Mo_closure__54 (lv_at hl 7 rfl) ?_
    refine ww_iadd (pc := 56) g.1 d_Mo_closure__56 ?_
    refine ww_ai (pc := 57) g (pz rfl (by decide)) rfl rfl d_Mo_closure__57 h fun v57 h => ?_
    refine ww_istore (pc := 58) (i := 10) g.1 (lv' := [(10, .int v57), (0, .ref (q.1 0 0)), (1, .ref (q.1 28 x.1)), (2, .int x.2.1), (5, .ref (q.1 x.2.2.1 x.2.2.2.1)), (6, .int x.2.2.2.2.1), (7, .int x.2.2.2.2.2.1), (8, .int x.2.2.2.2.2.2.1), (9, .int x.2.2.2.2.2.2.2)]) d_Mo_closure__58 hl (by decide) rfl fun ls hl => ?_
    refine ww_iload (pc := 60) g.1 d_Mo_closure__60 (lv_at hl 0 rfl) ?_
    refine ww_sipush (pc := 62) g.1 (v := 256) d_Mo_closure__62 (by decide) ?_
    refine ww_icmp_ge (pc := 65) (tgt := 79) g.1 d_Mo_closure__65 (by decide) h (fun c h => ?_) (fun c h => ?_)
    · refine ww_aload_n (pc := 79) g.1 d_Mo_closure__79 rfl (lv_at hl 1 rfl) ?_
      refine ww_aload_n (pc := 80) g.1 d_Mo_closure__80 rfl (lv_at hl 2 rfl) ?_
      refine ww_aload_n (pc := 81) g.1 d_Mo_closure__81 rfl (lv_at hl 2 rfl) ?_
      refine ww_gR (pc := 82) g (k := 14) cl_Th (pt rfl rfl hp0) (by decide) (Or.inl kw_254) (f := 3598) (t := 33) rfl rfl rfl d_Mo_closure__82 ?_
      refine ww_iload_n (pc := 85) g.1 d_Mo_closure__85 rfl (lv_at hl 3 rfl) ?_
      refine ww_ai (pc := 86) g (pt rfl rfl hp0) rfl rfl d_Mo_closure__86 h fun v86 h => ?_
      refine ww_iload (pc := 87) g.1 d_Mo_closure__87 (lv_at hl 0 rfl) ?_
      refine ww_sipush (pc := 89) g.1 (v := 255) d_Mo_closure__89 (by decide) ?_
      refine ww_iand (pc := 92) g.1 d_Mo_closure__92 ?_
      refine ww_iadd (pc := 93) g.1 d_Mo_closure__93 ?_
      obtain ⟨v94, s, hc94, h⟩ := oB_of h
      refine ww_callV (pc := 94) (rest := []) g cv_Mo_variableAt (Or.inl kw_499) cl_Mo (pz rfl (by decide)) (ct_Mo_variableAt hp0 hc94) ⟨by decide, by decide⟩ rfl hl.1 (Nat.le_of_ble_eq_true rfl) d_Mo_closure__94 rfl ?_
      refine ww_st (st' := [.int v94]) rfl ?_
      exact j_Mo_closure__j97 g hR x.1 x.2.1 x.2.2.1 x.2.2.2.1 x.2.2.2.2.1 x.2.2.2.2.2.1 x.2.2.2.2.2.2.1 x.2.2.2.2.2.2.2 v94 s hp0 hp1 ls (lv_sub hl [1, 2, 3, 4, 5, 6, 7, 8] rfl) h
    · refine ww_aload_n (pc := 68) g.1 d_Mo_closure__68 rfl (lv_at hl 1 rfl) ?_
      refine ww_aload_n (pc := 69) g.1 d_Mo_closure__69 rfl (lv_at hl 2 rfl) ?_
      refine ww_iload_n (pc := 70) g.1 d_Mo_closure__70 rfl (lv_at hl 3 rfl) ?_
      refine ww_iload (pc := 71) g.1 d_Mo_closure__71 (lv_at hl 0 rfl) ?_
      obtain ⟨v73, s, hc73, h⟩ := oB_of h
      refine ww_callV (pc := 73) (rest := []) g cv_Mo_up (Or.inl kw_490) cl_Mo (pz rfl (by decide)) (ct_Mo_up hp0 hc73) ⟨by decide, by decide⟩ rfl hl.1 (Nat.le_of_ble_eq_true rfl) d_Mo_closure__73 rfl ?_
      refine ww_st (st' := [.int v73]) rfl ?_
      refine ww_goto (pc := 76) (tgt := 97) g.1 d_Mo_closure__76 (by decide) ?_
      exact j_Mo_closure__j97 g hR x.1 x.2.1 x.2.2.1 x.2.2.2.1 x.2.2.2.2.1 x.2.2.2.2.2.1 x.2.2.2.2.2.2.1 x.2.2.2.2.2.2.2 v73 s hp0 hp1 ls (lv_sub hl [1, 2, 3, 4, 5, 6, 7, 8] rfl) h

theorem ct_Mo_closure_ {l : Launch} {P : PP} {q : PL} {s s' : S1} {l1 : Int32} {l2 : Int32} {l3 : Int32} {l4 : Int32} {l5r : Nat} {l5 : Int32} {l6 : Int32} (hp0 : 0 ≤ l1 ∧ l1 < 33) (hp1 : VOK l5r l5) {r : Unit} (h : M_Mo_closure_ l1 l2 l3 l4 l5r l5 l6 s = some (r, s')) : Ct l y_Mo_closure_ b_Mo_closure_ 12 none 8 179 P q s [.ref (q.1 0 0), .ref (q.1 28 l1), .int l2, .int l3, .int l4, .ref (q.1 l5r l5), .int l6] none q s' := by
  refine ct_of (by decide) (Nat.le_of_ble_eq_true rfl) fun X ls eP el g hR hl => ?_
  subst eP
  have hR : Rt X q ((r, s') : Unit × S1).2 none := hR
  have hl : lv_has ls 12 [(0, .ref (q.1 0 0)), (1, .ref (q.1 28 l1)), (2, .int l2), (3, .int l3), (4, .int l4), (5, .ref (q.1 l5r l5)), (6, .int l6)] := hl
  generalize (r, s') = o at h hR
  unfold M_Mo_closure_ at h
  refine ww_aload_n (pc := 0) g.1 d_Mo_closure__0 rfl (lv_at hl 0 rfl) ?_
  refine ww_gR (pc := 1) g (k := 18) cl_Mo (pz rfl (by decide)) (by decide) (Or.inl kw_496) (f := 18) (t := 54) rfl rfl rfl d_Mo_closure__1 ?_
  refine ww_aload_n (pc := 4) g.1 d_Mo_closure__4 rfl (lv_at hl 0 rfl) ?_
  refine ww_gR (pc := 5) g (k := 15) cl_Mo (pz rfl (by decide)) (by decide) (Or.inl kw_497) (f := 15) (t := 51) rfl rfl rfl d_Mo_closure__5 ?_
  refine ww_iload_n (pc := 8) g.1 d_Mo_closure__8 rfl (lv_at hl 3 rfl) ?_
  refine ww_ai (pc := 9) g (pz rfl (by decide)) rfl rfl d_Mo_closure__9 h fun v9 h => ?_
  refine ww_iload (pc := 10) g.1 d_Mo_closure__10 (lv_at hl 4 rfl) ?_
  obtain ⟨v12, s, hc12, h⟩ := oB_of h
  refine ww_callS (pc := 12) (rest := [.int v9, .ref (q.1 54 0)]) g cs_Mo_bx (Or.inl kw_314) (ct_Mo_bx hc12) ⟨by decide, by decide⟩ rfl hl.1 (Nat.le_of_ble_eq_true rfl) d_Mo_closure__12 rfl ?_
  refine ww_st (st' := [.int v12, .int v9, .ref (q.1 54 0)]) rfl ?_
  refine ww_iadd (pc := 15) g.1 d_Mo_closure__15 ?_
  refine ww_ai (pc := 16) g (pz rfl (by decide)) rfl rfl d_Mo_closure__16 h fun v16 h => ?_
  refine ww_istore (pc := 17) (i := 7) g.1 (lv' := [(7, .int v16), (0, .ref (q.1 0 0)), (1, .ref (q.1 28 l1)), (2, .int l2), (3, .int l3), (4, .int l4), (5, .ref (q.1 l5r l5)), (6, .int l6)]) d_Mo_closure__17 hl (by decide) rfl fun ls hl => ?_
  refine ww_aload_n (pc := 19) g.1 d_Mo_closure__19 rfl (lv_at hl 1 rfl) ?_
  refine ww_gR (pc := 20) g (k := 70) cl_Mo (pz rfl (by decide)) (by decide) (Or.inl kw_441) (f := 70) (t := 16) rfl rfl rfl d_Mo_closure__20 ?_
  refine ww_gI (pc := 23) g (k := 2) (cl_Va (Or.inl ⟨by decide, rfl⟩)) (pz rfl (by decide)) (by decide) (Or.inl kw_179) (f := 2050) rfl rfl d_Mo_closure__23 h fun v23 h => ?_
  refine ww_istore (pc := 26) (i := 8) g.1 (lv' := [(8, .int v23), (7, .int v16), (0, .ref (q.1 0 0)), (1, .ref (q.1 28 l1)), (2, .int l2), (3, .int l3), (4, .int l4), (5, .ref (q.1 l5r l5)), (6, .int l6)]) d_Mo_closure__26 hl (by decide) rfl fun ls hl => ?_
  refine ww_iconst (pc := 28) g.1 (v := 0) d_Mo_closure__28 (by decide) ?_
  refine ww_istore (pc := 29) (i := 9) g.1 (lv' := [(9, .int 0), (8, .int v23), (7, .int v16), (0, .ref (q.1 0 0)), (1, .ref (q.1 28 l1)), (2, .int l2), (3, .int l3), (4, .int l4), (5, .ref (q.1 l5r l5)), (6, .int l6)]) d_Mo_closure__29 hl (by decide) rfl fun ls hl => ?_
  obtain ⟨e31, s1, hw, h⟩ := oB_of h
  refine oW_rule (Wh := fun (x : Int32 × Int32 × Nat × Int32 × Int32 × Int32 × Int32 × Int32) (s : S1) => ∀ ls : Array Slot, (0 ≤ x.1 ∧ x.1 < 33) → (VOK x.2.2.1 x.2.2.2.1) → lv_has ls 12 [(0, .ref (q.1 0 0)), (1, .ref (q.1 28 x.1)), (2, .int x.2.1), (5, .ref (q.1 x.2.2.1 x.2.2.2.1)), (6, .int x.2.2.2.2.1), (7, .int x.2.2.2.2.2.1), (8, .int x.2.2.2.2.2.2.1), (9, .int x.2.2.2.2.2.2.2)] → WW X q s 31 ls []) (We := fun (e : (Int32) ⊕ (Nat × Int32 × Int32 × Int32 × Int32)) (s : S1) => (Sum.elim (fun y : Int32 => ∀ ls : Array Slot, lv_has ls 12 [(0, .ref (q.1 0 0)), (8, .int y)] → WW X q s 104 ls []) (fun y : Nat × Int32 × Int32 × Int32 × Int32 => ∀ ls : Array Slot, (VOK y.1 y.2.1) → lv_has ls 12 [(0, .ref (q.1 0 0)), (5, .ref (q.1 y.1 y.2.1)), (6, .int y.2.2.1), (7, .int y.2.2.2.1), (8, .int y.2.2.2.2)] → WW X q s 141 ls [])) e) (fun x s o hb hc => lp_Mo_closure__L31 (q := q) g x s o hb hc) hw ?_ ls hp0 hp1 (lv_sub hl [3, 4, 5, 8, 9, 2, 1, 0] rfl)
  clear hw hl
  clear ls
  generalize s1 = s at h ⊢
  rcases e31 with y31_104 | y31_141
  · intro ls hl
    dsimp only [Sum.elim_inl, Sum.elim_inr] at h
    refine ww_aload_n (pc := 104) g.1 d_Mo_closure__104 rfl (lv_at hl 0 rfl) ?_
    refine ww_gR (pc := 105) g (k := 70) cl_Mo (pz rfl (by decide)) (by decide) (Or.inl kw_441) (f := 70) (t := 16) rfl rfl rfl d_Mo_closure__105 ?_
    refine ww_iload (pc := 108) g.1 d_Mo_closure__108 (lv_at hl 1 rfl) ?_
    refine ww_pI (pc := 110) g (k := 2) (cl_Va (Or.inl ⟨by decide, rfl⟩)) (pz rfl (by decide)) (by decide) (Or.inl kw_179) rfl (f := 2050) rfl rfl rfl rfl d_Mo_closure__110 h fun s hs h => ?_
    exact ww_vretH (pc := 113) g h hR d_Mo_closure__113
  · intro ls hq31_0 hl
    dsimp only [Sum.elim_inl, Sum.elim_inr] at h
    refine ww_aload_n (pc := 141) g.1 d_Mo_closure__141 rfl (lv_at hl 0 rfl) ?_
    refine ww_iload (pc := 142) g.1 d_Mo_closure__142 (lv_at hl 3 rfl) ?_
    refine ww_iconst (pc := 144) g.1 (v := 0) d_Mo_closure__144 (by decide) ?_
    refine ww_aload_n (pc := 145) g.1 d_Mo_closure__145 rfl (lv_at hl 0 rfl) ?_
    refine ww_gR (pc := 146) g (k := 9) cl_Mo (pz rfl (by decide)) (by decide) (Or.inl kw_39) (f := 9) (t := 45) rfl rfl rfl d_Mo_closure__146 ?_
    refine ww_iload (pc := 149) g.1 d_Mo_closure__149 (lv_at hl 3 rfl) ?_
    refine ww_ai (pc := 151) g (pz rfl (by decide)) rfl rfl d_Mo_closure__151 h fun v151 h => ?_
    obtain ⟨v152, s, hc152, h⟩ := oB_of h
    refine ww_callV (pc := 152) (rest := []) g cv_Mo_closure (Or.inl kw_478) cl_Mo (pz rfl (by decide)) (ct_Mo_closure hc152) ⟨by decide, by decide⟩ rfl hl.1 (Nat.le_of_ble_eq_true rfl) d_Mo_closure__152 rfl ?_
    refine ww_st (st' := [.int v152]) rfl ?_
    refine ww_istore (pc := 155) (i := 9) g.1 (lv' := [(9, .int v152), (0, .ref (q.1 0 0)), (5, .ref (q.1 y31_141.1 y31_141.2.1)), (6, .int y31_141.2.2.1), (7, .int y31_141.2.2.2.1), (8, .int y31_141.2.2.2.2)]) d_Mo_closure__155 hl (by decide) rfl fun ls hl => ?_
    refine ww_aload_n (pc := 157) g.1 d_Mo_closure__157 rfl (lv_at hl 1 rfl) ?_
    refine ww_gR (pc := 158) g (k := 70) cl_Mo (pz rfl (by decide)) (by decide) (Or.inl kw_441) (f := 70) (t := 16) rfl rfl rfl d_Mo_closure__158 ?_
    refine ww_iload (pc := 161) g.1 d_Mo_closure__161 (lv_at hl 5 rfl) ?_
    refine ww_pI (pc := 163) g (k := 2) (cl_Va (Or.inl ⟨by decide, rfl⟩)) (pz rfl (by decide)) (by decide) (Or.inl kw_179) rfl (f := 2050) rfl rfl rfl rfl d_Mo_closure__163 h fun s hs h => ?_
    refine ww_iload (pc := 166) g.1 d_Mo_closure__166 (lv_at hl 0 rfl) ?_
    refine ww_if_lt (pc := 168) (tgt := 183) g.1 d_Mo_closure__168 (by decide) h (fun c h => ?_) (fun c h => ?_)
    · exact ww_vretH (pc := 183) g h hR d_Mo_closure__183
    · refine ww_aload (pc := 171) g.1 d_Mo_closure__171 (lv_at hl 2 rfl) ?_
      refine ww_iload (pc := 173) g.1 d_Mo_closure__173 (lv_at hl 3 rfl) ?_
      refine ww_bipush (pc := 175) g.1 (v := 6) d_Mo_closure__175 (by decide) ?_
      refine ww_iload (pc := 177) g.1 d_Mo_closure__177 (lv_at hl 0 rfl) ?_
      refine ww_i2l (pc := 179) g.1 (v := v152.toInt64) d_Mo_closure__179 rfl ?_
      obtain ⟨v180, s, hc180, h⟩ := oB_of h
      refine ww_callV (pc := 180) (rest := []) g cv_Va_set (Or.inl kw_99) (cl_Va hq31_0) (vok_p hq31_0).1 (ct_Va_set hq31_0 hc180) ⟨by decide, by decide⟩ rfl hl.1 (Nat.le_of_ble_eq_true rfl) d_Mo_closure__180 rfl ?_
      refine ww_st (st' := []) rfl ?_
      exact ww_vretH (pc := 183) g h hR d_Mo_closure__183

abbrev b_Mo_high : ByteArray := prog_14_method_130_code
def y_Mo_high : MethodName := ⟨R_Mo, "high", "(LLuaMachineModel$Thread_;IIIILLuaMachineModel$Values;I)V"⟩
abbrev w_Mo_high : List Cond := .code y_Mo_high b_Mo_high 10 none :: wA
set_option maxRecDepth 20000 in
theorem k_Mo_high : Cond.code y_Mo_high b_Mo_high 10 none ∈ wA := kinm (show _ ∈ tables_1 from (List.mem_append_right _ (List.mem_append_right _ (List.mem_append_right _ (List.mem_append_right _ (List.mem_append_right _ (List.mem_append_right _ (List.mem_append_right _ (List.mem_append_right _ (List.mem_append_right _ (List.mem_append_right _ (List.mem_append_right _ (List.mem_append_right _ (List.mem_append_left _ (List.mem_of_getElem? (l := tables_1_13) (i := 207) rfl))))))))))))))) rfl
theorem d_Mo_high_0 : decode b_Mo_high 0 = .ok (.iload 5, 2) := by decide +kernel
theorem d_Mo_high_2 : decode b_Mo_high 2 = .ok (.tableswitch 610 36 44 #[50, 121, 196, 348, 363, 450, 533, 579, 594], 50) := by decide +kernel
theorem d_Mo_high_52 : decode b_Mo_high 52 = .ok (.aload_n 0, 1) := by decide +kernel
theorem d_Mo_high_53 : decode b_Mo_high 53 = .ok (.aload_n 1, 1) := by decide +kernel
theorem d_Mo_high_54 : decode b_Mo_high 54 = .ok (.iload_n 2, 1) := by decide +kernel
theorem d_Mo_high_55 : decode b_Mo_high 55 = .ok (.iload 4, 2) := by decide +kernel
theorem d_Mo_high_57 : decode b_Mo_high 57 = .ok (.invokestatic 495, 3) := by decide +kernel
theorem d_Mo_high_60 : decode b_Mo_high 60 = .ok (.iload 4, 2) := by decide +kernel
theorem d_Mo_high_62 : decode b_Mo_high 62 = .ok (.invokestatic 482, 3) := by decide +kernel
theorem d_Mo_high_65 : decode b_Mo_high 65 = .ok (.invokevirtual 997, 3) := by decide +kernel
theorem d_Mo_high_68 : decode b_Mo_high 68 = .ok (.ifCond .ne 6, 3) := by decide +kernel
theorem d_Mo_high_71 : decode b_Mo_high 71 = .ok (.goto 554, 3) := by decide +kernel
theorem d_Mo_high_74 : decode b_Mo_high 74 = .ok (.aload_n 0, 1) := by decide +kernel
theorem d_Mo_high_75 : decode b_Mo_high 75 = .ok (.iconst 0, 1) := by decide +kernel
theorem d_Mo_high_76 : decode b_Mo_high 76 = .ok (.iload 4, 2) := by decide +kernel
theorem d_Mo_high_78 : decode b_Mo_high 78 = .ok (.invokestatic 495, 3) := by decide +kernel
theorem d_Mo_high_81 : decode b_Mo_high 81 = .ok (.iload 4, 2) := by decide +kernel
theorem d_Mo_high_83 : decode b_Mo_high 83 = .ok (.invokestatic 479, 3) := by decide +kernel
theorem d_Mo_high_86 : decode b_Mo_high 86 = .ok (.iconst 1, 1) := by decide +kernel
theorem d_Mo_high_87 : decode b_Mo_high 87 = .ok (.isub, 1) := by decide +kernel
theorem d_Mo_high_88 : decode b_Mo_high 88 = .ok (.invokevirtual 947, 3) := by decide +kernel
theorem d_Mo_high_91 : decode b_Mo_high 91 = .ok (.aload_n 0, 1) := by decide +kernel
theorem d_Mo_high_92 : decode b_Mo_high 92 = .ok (.aload 6, 2) := by decide +kernel
theorem d_Mo_high_94 : decode b_Mo_high 94 = .ok (.getfield 585, 3) := by decide +kernel
theorem d_Mo_high_97 : decode b_Mo_high 97 = .ok (.iload 7, 2) := by decide +kernel
theorem d_Mo_high_99 : decode b_Mo_high 99 = .ok (.baload, 1) := by decide +kernel
theorem d_Mo_high_100 : decode b_Mo_high 100 = .ok (.putfield 253, 3) := by decide +kernel
theorem d_Mo_high_103 : decode b_Mo_high 103 = .ok (.aload_n 0, 1) := by decide +kernel
theorem d_Mo_high_104 : decode b_Mo_high 104 = .ok (.aload 6, 2) := by decide +kernel
theorem d_Mo_high_106 : decode b_Mo_high 106 = .ok (.getfield 588, 3) := by decide +kernel
theorem d_Mo_high_109 : decode b_Mo_high 109 = .ok (.iload 7, 2) := by decide +kernel
theorem d_Mo_high_111 : decode b_Mo_high 111 = .ok (.laload, 1) := by decide +kernel
theorem d_Mo_high_112 : decode b_Mo_high 112 = .ok (.putfield 256, 3) := by decide +kernel
theorem d_Mo_high_115 : decode b_Mo_high 115 = .ok (.aload_n 0, 1) := by decide +kernel
theorem d_Mo_high_116 : decode b_Mo_high 116 = .ok (.iconst 1, 1) := by decide +kernel
theorem d_Mo_high_117 : decode b_Mo_high 117 = .ok (.putfield 247, 3) := by decide +kernel
theorem d_Mo_high_120 : decode b_Mo_high 120 = .ok (.goto 505, 3) := by decide +kernel
theorem d_Mo_high_123 : decode b_Mo_high 123 = .ok (.aload_n 0, 1) := by decide +kernel
theorem d_Mo_high_124 : decode b_Mo_high 124 = .ok (.aload_n 1, 1) := by decide +kernel
theorem d_Mo_high_125 : decode b_Mo_high 125 = .ok (.iload_n 2, 1) := by decide +kernel
theorem d_Mo_high_126 : decode b_Mo_high 126 = .ok (.iload 4, 2) := by decide +kernel
theorem d_Mo_high_128 : decode b_Mo_high 128 = .ok (.invokestatic 495, 3) := by decide +kernel
theorem d_Mo_high_131 : decode b_Mo_high 131 = .ok (.iload 4, 2) := by decide +kernel
theorem d_Mo_high_133 : decode b_Mo_high 133 = .ok (.invokestatic 482, 3) := by decide +kernel
theorem d_Mo_high_136 : decode b_Mo_high 136 = .ok (.invokevirtual 997, 3) := by decide +kernel
theorem d_Mo_high_139 : decode b_Mo_high 139 = .ok (.ifCond .ne 6, 3) := by decide +kernel
theorem d_Mo_high_142 : decode b_Mo_high 142 = .ok (.goto 483, 3) := by decide +kernel
theorem d_Mo_high_145 : decode b_Mo_high 145 = .ok (.aload_n 0, 1) := by decide +kernel
theorem d_Mo_high_146 : decode b_Mo_high 146 = .ok (.aload 6, 2) := by decide +kernel
theorem d_Mo_high_148 : decode b_Mo_high 148 = .ok (.getfield 585, 3) := by decide +kernel
theorem d_Mo_high_151 : decode b_Mo_high 151 = .ok (.iload 7, 2) := by decide +kernel
theorem d_Mo_high_153 : decode b_Mo_high 153 = .ok (.baload, 1) := by decide +kernel
theorem d_Mo_high_154 : decode b_Mo_high 154 = .ok (.putfield 253, 3) := by decide +kernel
theorem d_Mo_high_157 : decode b_Mo_high 157 = .ok (.aload_n 0, 1) := by decide +kernel
theorem d_Mo_high_158 : decode b_Mo_high 158 = .ok (.aload 6, 2) := by decide +kernel
theorem d_Mo_high_160 : decode b_Mo_high 160 = .ok (.getfield 588, 3) := by decide +kernel
theorem d_Mo_high_163 : decode b_Mo_high 163 = .ok (.iload 7, 2) := by decide +kernel
theorem d_Mo_high_165 : decode b_Mo_high 165 = .ok (.laload, 1) := by decide +kernel
theorem d_Mo_high_166 : decode b_Mo_high 166 = .ok (.putfield 256, 3) := by decide +kernel
theorem d_Mo_high_169 : decode b_Mo_high 169 = .ok (.aload_n 0, 1) := by decide +kernel
theorem d_Mo_high_170 : decode b_Mo_high 170 = .ok (.aload_n 1, 1) := by decide +kernel
theorem d_Mo_high_171 : decode b_Mo_high 171 = .ok (.aload_n 1, 1) := by decide +kernel
theorem d_Mo_high_172 : decode b_Mo_high 172 = .ok (.getfield 744, 3) := by decide +kernel
theorem d_Mo_high_175 : decode b_Mo_high 175 = .ok (.iload_n 2, 1) := by decide +kernel
theorem d_Mo_high_176 : decode b_Mo_high 176 = .ok (.iaload, 1) := by decide +kernel
theorem d_Mo_high_177 : decode b_Mo_high 177 = .ok (.invokevirtual 789, 3) := by decide +kernel
theorem d_Mo_high_180 : decode b_Mo_high 180 = .ok (.aload_n 1, 1) := by decide +kernel
theorem d_Mo_high_181 : decode b_Mo_high 181 = .ok (.dup, 1) := by decide +kernel
theorem d_Mo_high_182 : decode b_Mo_high 182 = .ok (.getfield 730, 3) := by decide +kernel
theorem d_Mo_high_185 : decode b_Mo_high 185 = .ok (.iconst 1, 1) := by decide +kernel
theorem d_Mo_high_186 : decode b_Mo_high 186 = .ok (.isub, 1) := by decide +kernel
theorem d_Mo_high_187 : decode b_Mo_high 187 = .ok (.putfield 730, 3) := by decide +kernel
theorem d_Mo_high_190 : decode b_Mo_high 190 = .ok (.aload_n 0, 1) := by decide +kernel
theorem d_Mo_high_191 : decode b_Mo_high 191 = .ok (.iconst 1, 1) := by decide +kernel
theorem d_Mo_high_192 : decode b_Mo_high 192 = .ok (.putfield 247, 3) := by decide +kernel
theorem d_Mo_high_195 : decode b_Mo_high 195 = .ok (.goto 430, 3) := by decide +kernel
theorem d_Mo_high_198 : decode b_Mo_high 198 = .ok (.iload 4, 2) := by decide +kernel
theorem d_Mo_high_200 : decode b_Mo_high 200 = .ok (.invokestatic 482, 3) := by decide +kernel
theorem d_Mo_high_203 : decode b_Mo_high 203 = .ok (.ifCond .le 19, 3) := by decide +kernel
theorem d_Mo_high_206 : decode b_Mo_high 206 = .ok (.iload 4, 2) := by decide +kernel
theorem d_Mo_high_208 : decode b_Mo_high 208 = .ok (.invokestatic 495, 3) := by decide +kernel
theorem d_Mo_high_211 : decode b_Mo_high 211 = .ok (.iload 4, 2) := by decide +kernel
theorem d_Mo_high_213 : decode b_Mo_high 213 = .ok (.invokestatic 482, 3) := by decide +kernel
theorem d_Mo_high_216 : decode b_Mo_high 216 = .ok (.iadd, 1) := by decide +kernel
theorem d_Mo_high_217 : decode b_Mo_high 217 = .ok (.iconst 1, 1) := by decide +kernel
theorem d_Mo_high_218 : decode b_Mo_high 218 = .ok (.isub, 1) := by decide +kernel
theorem d_Mo_high_219 : decode b_Mo_high 219 = .ok (.goto 16, 3) := by decide +kernel
theorem d_Mo_high_222 : decode b_Mo_high 222 = .ok (.aload_n 1, 1) := by decide +kernel
theorem d_Mo_high_223 : decode b_Mo_high 223 = .ok (.getfield 773, 3) := by decide +kernel
theorem d_Mo_high_226 : decode b_Mo_high 226 = .ok (.iload_n 2, 1) := by decide +kernel
theorem d_Mo_high_227 : decode b_Mo_high 227 = .ok (.iaload, 1) := by decide +kernel
theorem d_Mo_high_228 : decode b_Mo_high 228 = .ok (.aload_n 1, 1) := by decide +kernel
theorem d_Mo_high_229 : decode b_Mo_high 229 = .ok (.getfield 738, 3) := by decide +kernel
theorem d_Mo_high_232 : decode b_Mo_high 232 = .ok (.iload_n 2, 1) := by decide +kernel
theorem d_Mo_high_233 : decode b_Mo_high 233 = .ok (.iaload, 1) := by decide +kernel
theorem d_Mo_high_234 : decode b_Mo_high 234 = .ok (.iadd, 1) := by decide +kernel
theorem d_Mo_high_235 : decode b_Mo_high 235 = .ok (.istore 8, 2) := by decide +kernel
theorem d_Mo_high_237 : decode b_Mo_high 237 = .ok (.iload 8, 2) := by decide +kernel
theorem d_Mo_high_239 : decode b_Mo_high 239 = .ok (.iload 4, 2) := by decide +kernel
theorem d_Mo_high_241 : decode b_Mo_high 241 = .ok (.invokestatic 495, 3) := by decide +kernel
theorem d_Mo_high_244 : decode b_Mo_high 244 = .ok (.isub, 1) := by decide +kernel
theorem d_Mo_high_245 : decode b_Mo_high 245 = .ok (.sipush 250, 3) := by decide +kernel
theorem d_Mo_high_248 : decode b_Mo_high 248 = .ok (.if_icmp .le 13, 3) := by decide +kernel
theorem d_Mo_high_251 : decode b_Mo_high 251 = .ok (.aload_n 0, 1) := by decide +kernel
theorem d_Mo_high_252 : decode b_Mo_high 252 = .ok (.bipush 7, 2) := by decide +kernel
theorem d_Mo_high_254 : decode b_Mo_high 254 = .ok (.invokevirtual 517, 3) := by decide +kernel
theorem d_Mo_high_257 : decode b_Mo_high 257 = .ok (.pop, 1) := by decide +kernel
theorem d_Mo_high_258 : decode b_Mo_high 258 = .ok (.goto 367, 3) := by decide +kernel
theorem d_Mo_high_261 : decode b_Mo_high 261 = .ok (.aload_n 0, 1) := by decide +kernel
theorem d_Mo_high_262 : decode b_Mo_high 262 = .ok (.getfield 262, 3) := by decide +kernel
theorem d_Mo_high_265 : decode b_Mo_high 265 = .ok (.iconst 0, 1) := by decide +kernel
theorem d_Mo_high_266 : decode b_Mo_high 266 = .ok (.putfield 569, 3) := by decide +kernel
theorem d_Mo_high_269 : decode b_Mo_high 269 = .ok (.iload 4, 2) := by decide +kernel
theorem d_Mo_high_271 : decode b_Mo_high 271 = .ok (.invokestatic 495, 3) := by decide +kernel
theorem d_Mo_high_274 : decode b_Mo_high 274 = .ok (.istore 9, 2) := by decide +kernel
theorem d_Mo_high_276 : decode b_Mo_high 276 = .ok (.iload 9, 2) := by decide +kernel
theorem d_Mo_high_278 : decode b_Mo_high 278 = .ok (.iload 8, 2) := by decide +kernel
theorem d_Mo_high_280 : decode b_Mo_high 280 = .ok (.if_icmp .ge 34, 3) := by decide +kernel
theorem d_Mo_high_283 : decode b_Mo_high 283 = .ok (.aload_n 0, 1) := by decide +kernel
theorem d_Mo_high_284 : decode b_Mo_high 284 = .ok (.aload_n 0, 1) := by decide +kernel
theorem d_Mo_high_285 : decode b_Mo_high 285 = .ok (.getfield 262, 3) := by decide +kernel
theorem d_Mo_high_288 : decode b_Mo_high 288 = .ok (.aload_n 1, 1) := by decide +kernel
theorem d_Mo_high_289 : decode b_Mo_high 289 = .ok (.iload_n 2, 1) := by decide +kernel
theorem d_Mo_high_290 : decode b_Mo_high 290 = .ok (.iload 4, 2) := by decide +kernel
theorem d_Mo_high_292 : decode b_Mo_high 292 = .ok (.invokestatic 482, 3) := by decide +kernel
theorem d_Mo_high_295 : decode b_Mo_high 295 = .ok (.ifCond .ne 7, 3) := by decide +kernel
theorem d_Mo_high_298 : decode b_Mo_high 298 = .ok (.iconst 1, 1) := by decide +kernel
theorem d_Mo_high_299 : decode b_Mo_high 299 = .ok (.goto 4, 3) := by decide +kernel
theorem d_Mo_high_302 : decode b_Mo_high 302 = .ok (.iconst 0, 1) := by decide +kernel
theorem d_Mo_high_303 : decode b_Mo_high 303 = .ok (.iload 9, 2) := by decide +kernel
theorem d_Mo_high_305 : decode b_Mo_high 305 = .ok (.invokevirtual 993, 3) := by decide +kernel
theorem d_Mo_high_308 : decode b_Mo_high 308 = .ok (.iinc 9 1, 3) := by decide +kernel
theorem d_Mo_high_311 : decode b_Mo_high 311 = .ok (.goto (-35), 3) := by decide +kernel
theorem d_Mo_high_314 : decode b_Mo_high 314 = .ok (.aload_n 1, 1) := by decide +kernel
theorem d_Mo_high_315 : decode b_Mo_high 315 = .ok (.getfield 738, 3) := by decide +kernel
theorem d_Mo_high_318 : decode b_Mo_high 318 = .ok (.iload_n 2, 1) := by decide +kernel
theorem d_Mo_high_319 : decode b_Mo_high 319 = .ok (.iconst 0, 1) := by decide +kernel
theorem d_Mo_high_320 : decode b_Mo_high 320 = .ok (.iastore, 1) := by decide +kernel
theorem d_Mo_high_321 : decode b_Mo_high 321 = .ok (.aload_n 0, 1) := by decide +kernel
theorem d_Mo_high_322 : decode b_Mo_high 322 = .ok (.aload_n 1, 1) := by decide +kernel
theorem d_Mo_high_323 : decode b_Mo_high 323 = .ok (.aload_n 1, 1) := by decide +kernel
theorem d_Mo_high_324 : decode b_Mo_high 324 = .ok (.getfield 744, 3) := by decide +kernel
theorem d_Mo_high_327 : decode b_Mo_high 327 = .ok (.iload_n 2, 1) := by decide +kernel
theorem d_Mo_high_328 : decode b_Mo_high 328 = .ok (.iaload, 1) := by decide +kernel
theorem d_Mo_high_329 : decode b_Mo_high 329 = .ok (.invokevirtual 789, 3) := by decide +kernel
theorem d_Mo_high_332 : decode b_Mo_high 332 = .ok (.aload_n 1, 1) := by decide +kernel
theorem d_Mo_high_333 : decode b_Mo_high 333 = .ok (.dup, 1) := by decide +kernel
theorem d_Mo_high_334 : decode b_Mo_high 334 = .ok (.getfield 730, 3) := by decide +kernel
theorem d_Mo_high_337 : decode b_Mo_high 337 = .ok (.iconst 1, 1) := by decide +kernel
theorem d_Mo_high_338 : decode b_Mo_high 338 = .ok (.isub, 1) := by decide +kernel
theorem d_Mo_high_339 : decode b_Mo_high 339 = .ok (.putfield 730, 3) := by decide +kernel
theorem d_Mo_high_342 : decode b_Mo_high 342 = .ok (.aload_n 0, 1) := by decide +kernel
theorem d_Mo_high_343 : decode b_Mo_high 343 = .ok (.iconst 2, 1) := by decide +kernel
theorem d_Mo_high_344 : decode b_Mo_high 344 = .ok (.putfield 247, 3) := by decide +kernel
theorem d_Mo_high_347 : decode b_Mo_high 347 = .ok (.goto 278, 3) := by decide +kernel
theorem d_Mo_high_350 : decode b_Mo_high 350 = .ok (.aload_n 0, 1) := by decide +kernel
theorem d_Mo_high_351 : decode b_Mo_high 351 = .ok (.aload_n 1, 1) := by decide +kernel
theorem d_Mo_high_352 : decode b_Mo_high 352 = .ok (.iload_n 2, 1) := by decide +kernel
theorem d_Mo_high_353 : decode b_Mo_high 353 = .ok (.iload 4, 2) := by decide +kernel
theorem d_Mo_high_355 : decode b_Mo_high 355 = .ok (.aload 6, 2) := by decide +kernel
theorem d_Mo_high_357 : decode b_Mo_high 357 = .ok (.iload 7, 2) := by decide +kernel
theorem d_Mo_high_359 : decode b_Mo_high 359 = .ok (.invokevirtual 1001, 3) := by decide +kernel
theorem d_Mo_high_362 : decode b_Mo_high 362 = .ok (.goto 263, 3) := by decide +kernel
theorem d_Mo_high_365 : decode b_Mo_high 365 = .ok (.aload 6, 2) := by decide +kernel
theorem d_Mo_high_367 : decode b_Mo_high 367 = .ok (.getfield 585, 3) := by decide +kernel
theorem d_Mo_high_370 : decode b_Mo_high 370 = .ok (.iload 7, 2) := by decide +kernel
theorem d_Mo_high_372 : decode b_Mo_high 372 = .ok (.iconst 1, 1) := by decide +kernel
theorem d_Mo_high_373 : decode b_Mo_high 373 = .ok (.iadd, 1) := by decide +kernel
theorem d_Mo_high_374 : decode b_Mo_high 374 = .ok (.baload, 1) := by decide +kernel
theorem d_Mo_high_375 : decode b_Mo_high 375 = .ok (.iconst 3, 1) := by decide +kernel
theorem d_Mo_high_376 : decode b_Mo_high 376 = .ok (.if_icmp .ne 29, 3) := by decide +kernel
theorem d_Mo_high_379 : decode b_Mo_high 379 = .ok (.aload 6, 2) := by decide +kernel
theorem d_Mo_high_381 : decode b_Mo_high 381 = .ok (.getfield 585, 3) := by decide +kernel
theorem d_Mo_high_384 : decode b_Mo_high 384 = .ok (.iload 7, 2) := by decide +kernel
theorem d_Mo_high_386 : decode b_Mo_high 386 = .ok (.iconst 2, 1) := by decide +kernel
theorem d_Mo_high_387 : decode b_Mo_high 387 = .ok (.iadd, 1) := by decide +kernel
theorem d_Mo_high_388 : decode b_Mo_high 388 = .ok (.baload, 1) := by decide +kernel
theorem d_Mo_high_389 : decode b_Mo_high 389 = .ok (.iconst 3, 1) := by decide +kernel
theorem d_Mo_high_390 : decode b_Mo_high 390 = .ok (.if_icmp .ne 15, 3) := by decide +kernel
theorem d_Mo_high_393 : decode b_Mo_high 393 = .ok (.aload 6, 2) := by decide +kernel
theorem d_Mo_high_395 : decode b_Mo_high 395 = .ok (.getfield 585, 3) := by decide +kernel
theorem d_Mo_high_398 : decode b_Mo_high 398 = .ok (.iload 7, 2) := by decide +kernel
theorem d_Mo_high_400 : decode b_Mo_high 400 = .ok (.baload, 1) := by decide +kernel
theorem d_Mo_high_401 : decode b_Mo_high 401 = .ok (.iconst 3, 1) := by decide +kernel
theorem d_Mo_high_402 : decode b_Mo_high 402 = .ok (.if_icmp .eq 12, 3) := by decide +kernel
theorem d_Mo_high_405 : decode b_Mo_high 405 = .ok (.aload_n 0, 1) := by decide +kernel
theorem d_Mo_high_406 : decode b_Mo_high 406 = .ok (.iconst 3, 1) := by decide +kernel
theorem d_Mo_high_407 : decode b_Mo_high 407 = .ok (.invokevirtual 517, 3) := by decide +kernel
theorem d_Mo_high_410 : decode b_Mo_high 410 = .ok (.pop, 1) := by decide +kernel
theorem d_Mo_high_411 : decode b_Mo_high 411 = .ok (.goto 214, 3) := by decide +kernel
theorem d_Mo_high_414 : decode b_Mo_high 414 = .ok (.aload 6, 2) := by decide +kernel
theorem d_Mo_high_416 : decode b_Mo_high 416 = .ok (.getfield 588, 3) := by decide +kernel
theorem d_Mo_high_419 : decode b_Mo_high 419 = .ok (.iload 7, 2) := by decide +kernel
theorem d_Mo_high_421 : decode b_Mo_high 421 = .ok (.dup2, 1) := by decide +kernel
theorem d_Mo_high_422 : decode b_Mo_high 422 = .ok (.laload, 1) := by decide +kernel
theorem d_Mo_high_423 : decode b_Mo_high 423 = .ok (.aload 6, 2) := by decide +kernel
theorem d_Mo_high_425 : decode b_Mo_high 425 = .ok (.getfield 588, 3) := by decide +kernel
theorem d_Mo_high_428 : decode b_Mo_high 428 = .ok (.iload 7, 2) := by decide +kernel
theorem d_Mo_high_430 : decode b_Mo_high 430 = .ok (.iconst 2, 1) := by decide +kernel
theorem d_Mo_high_431 : decode b_Mo_high 431 = .ok (.iadd, 1) := by decide +kernel
theorem d_Mo_high_432 : decode b_Mo_high 432 = .ok (.laload, 1) := by decide +kernel
theorem d_Mo_high_433 : decode b_Mo_high 433 = .ok (.lsub, 1) := by decide +kernel
theorem d_Mo_high_434 : decode b_Mo_high 434 = .ok (.lastore, 1) := by decide +kernel
theorem d_Mo_high_435 : decode b_Mo_high 435 = .ok (.aload_n 1, 1) := by decide +kernel
theorem d_Mo_high_436 : decode b_Mo_high 436 = .ok (.getfield 758, 3) := by decide +kernel
theorem d_Mo_high_439 : decode b_Mo_high 439 = .ok (.iload_n 2, 1) := by decide +kernel
theorem d_Mo_high_440 : decode b_Mo_high 440 = .ok (.dup2, 1) := by decide +kernel
theorem d_Mo_high_441 : decode b_Mo_high 441 = .ok (.iaload, 1) := by decide +kernel
theorem d_Mo_high_442 : decode b_Mo_high 442 = .ok (.iload 4, 2) := by decide +kernel
theorem d_Mo_high_444 : decode b_Mo_high 444 = .ok (.invokestatic 513, 3) := by decide +kernel
theorem d_Mo_high_447 : decode b_Mo_high 447 = .ok (.iadd, 1) := by decide +kernel
theorem d_Mo_high_448 : decode b_Mo_high 448 = .ok (.iastore, 1) := by decide +kernel
theorem d_Mo_high_449 : decode b_Mo_high 449 = .ok (.goto 176, 3) := by decide +kernel
theorem d_Mo_high_452 : decode b_Mo_high 452 = .ok (.aload_n 0, 1) := by decide +kernel
theorem d_Mo_high_453 : decode b_Mo_high 453 = .ok (.getfield 259, 3) := by decide +kernel
theorem d_Mo_high_456 : decode b_Mo_high 456 = .ok (.iconst 0, 1) := by decide +kernel
theorem d_Mo_high_457 : decode b_Mo_high 457 = .ok (.putfield 569, 3) := by decide +kernel
theorem d_Mo_high_460 : decode b_Mo_high 460 = .ok (.aload_n 0, 1) := by decide +kernel
theorem d_Mo_high_461 : decode b_Mo_high 461 = .ok (.getfield 259, 3) := by decide +kernel
theorem d_Mo_high_464 : decode b_Mo_high 464 = .ok (.aload 6, 2) := by decide +kernel
theorem d_Mo_high_466 : decode b_Mo_high 466 = .ok (.iload 7, 2) := by decide +kernel
theorem d_Mo_high_468 : decode b_Mo_high 468 = .ok (.iconst 1, 1) := by decide +kernel
theorem d_Mo_high_469 : decode b_Mo_high 469 = .ok (.iadd, 1) := by decide +kernel
theorem d_Mo_high_470 : decode b_Mo_high 470 = .ok (.invokevirtual 770, 3) := by decide +kernel
theorem d_Mo_high_473 : decode b_Mo_high 473 = .ok (.aload_n 0, 1) := by decide +kernel
theorem d_Mo_high_474 : decode b_Mo_high 474 = .ok (.getfield 259, 3) := by decide +kernel
theorem d_Mo_high_477 : decode b_Mo_high 477 = .ok (.aload 6, 2) := by decide +kernel
theorem d_Mo_high_479 : decode b_Mo_high 479 = .ok (.iload 7, 2) := by decide +kernel
theorem d_Mo_high_481 : decode b_Mo_high 481 = .ok (.iconst 2, 1) := by decide +kernel
theorem d_Mo_high_482 : decode b_Mo_high 482 = .ok (.iadd, 1) := by decide +kernel
theorem d_Mo_high_483 : decode b_Mo_high 483 = .ok (.invokevirtual 770, 3) := by decide +kernel
theorem d_Mo_high_486 : decode b_Mo_high 486 = .ok (.aload_n 0, 1) := by decide +kernel
theorem d_Mo_high_487 : decode b_Mo_high 487 = .ok (.iconst 0, 1) := by decide +kernel
theorem d_Mo_high_488 : decode b_Mo_high 488 = .ok (.iload 4, 2) := by decide +kernel
theorem d_Mo_high_490 : decode b_Mo_high 490 = .ok (.invokestatic 495, 3) := by decide +kernel
theorem d_Mo_high_493 : decode b_Mo_high 493 = .ok (.iconst 3, 1) := by decide +kernel
theorem d_Mo_high_494 : decode b_Mo_high 494 = .ok (.iadd, 1) := by decide +kernel
theorem d_Mo_high_495 : decode b_Mo_high 495 = .ok (.iload 4, 2) := by decide +kernel
theorem d_Mo_high_497 : decode b_Mo_high 497 = .ok (.invokestatic 479, 3) := by decide +kernel
theorem d_Mo_high_500 : decode b_Mo_high 500 = .ok (.invokevirtual 947, 3) := by decide +kernel
theorem d_Mo_high_503 : decode b_Mo_high 503 = .ok (.aload_n 0, 1) := by decide +kernel
theorem d_Mo_high_504 : decode b_Mo_high 504 = .ok (.aload 6, 2) := by decide +kernel
theorem d_Mo_high_506 : decode b_Mo_high 506 = .ok (.getfield 585, 3) := by decide +kernel
theorem d_Mo_high_509 : decode b_Mo_high 509 = .ok (.iload 7, 2) := by decide +kernel
theorem d_Mo_high_511 : decode b_Mo_high 511 = .ok (.baload, 1) := by decide +kernel
theorem d_Mo_high_512 : decode b_Mo_high 512 = .ok (.putfield 253, 3) := by decide +kernel
theorem d_Mo_high_515 : decode b_Mo_high 515 = .ok (.aload_n 0, 1) := by decide +kernel
theorem d_Mo_high_516 : decode b_Mo_high 516 = .ok (.aload 6, 2) := by decide +kernel
theorem d_Mo_high_518 : decode b_Mo_high 518 = .ok (.getfield 588, 3) := by decide +kernel
theorem d_Mo_high_521 : decode b_Mo_high 521 = .ok (.iload 7, 2) := by decide +kernel
theorem d_Mo_high_523 : decode b_Mo_high 523 = .ok (.laload, 1) := by decide +kernel
theorem d_Mo_high_524 : decode b_Mo_high 524 = .ok (.putfield 256, 3) := by decide +kernel
theorem d_Mo_high_527 : decode b_Mo_high 527 = .ok (.aload_n 0, 1) := by decide +kernel
theorem d_Mo_high_528 : decode b_Mo_high 528 = .ok (.iconst 1, 1) := by decide +kernel
theorem d_Mo_high_529 : decode b_Mo_high 529 = .ok (.putfield 247, 3) := by decide +kernel
theorem d_Mo_high_532 : decode b_Mo_high 532 = .ok (.goto 93, 3) := by decide +kernel
theorem d_Mo_high_535 : decode b_Mo_high 535 = .ok (.aload 6, 2) := by decide +kernel
theorem d_Mo_high_537 : decode b_Mo_high 537 = .ok (.getfield 585, 3) := by decide +kernel
theorem d_Mo_high_540 : decode b_Mo_high 540 = .ok (.iload 7, 2) := by decide +kernel
theorem d_Mo_high_542 : decode b_Mo_high 542 = .ok (.iconst 1, 1) := by decide +kernel
theorem d_Mo_high_543 : decode b_Mo_high 543 = .ok (.iadd, 1) := by decide +kernel
theorem d_Mo_high_544 : decode b_Mo_high 544 = .ok (.baload, 1) := by decide +kernel
theorem d_Mo_high_545 : decode b_Mo_high 545 = .ok (.ifCond .ne 6, 3) := by decide +kernel
theorem d_Mo_high_548 : decode b_Mo_high 548 = .ok (.goto 77, 3) := by decide +kernel
theorem d_Mo_high_551 : decode b_Mo_high 551 = .ok (.aload 6, 2) := by decide +kernel
theorem d_Mo_high_553 : decode b_Mo_high 553 = .ok (.iload 7, 2) := by decide +kernel
theorem d_Mo_high_555 : decode b_Mo_high 555 = .ok (.aload 6, 2) := by decide +kernel
theorem d_Mo_high_557 : decode b_Mo_high 557 = .ok (.iload 7, 2) := by decide +kernel
theorem d_Mo_high_559 : decode b_Mo_high 559 = .ok (.iconst 1, 1) := by decide +kernel
theorem d_Mo_high_560 : decode b_Mo_high 560 = .ok (.iadd, 1) := by decide +kernel
theorem d_Mo_high_561 : decode b_Mo_high 561 = .ok (.invokevirtual 719, 3) := by decide +kernel
theorem d_Mo_high_564 : decode b_Mo_high 564 = .ok (.aload_n 1, 1) := by decide +kernel
theorem d_Mo_high_565 : decode b_Mo_high 565 = .ok (.getfield 758, 3) := by decide +kernel
theorem d_Mo_high_568 : decode b_Mo_high 568 = .ok (.iload_n 2, 1) := by decide +kernel
theorem d_Mo_high_569 : decode b_Mo_high 569 = .ok (.dup2, 1) := by decide +kernel
theorem d_Mo_high_570 : decode b_Mo_high 570 = .ok (.iaload, 1) := by decide +kernel
theorem d_Mo_high_571 : decode b_Mo_high 571 = .ok (.iload 4, 2) := by decide +kernel
theorem d_Mo_high_573 : decode b_Mo_high 573 = .ok (.invokestatic 513, 3) := by decide +kernel
theorem d_Mo_high_576 : decode b_Mo_high 576 = .ok (.iadd, 1) := by decide +kernel
theorem d_Mo_high_577 : decode b_Mo_high 577 = .ok (.iastore, 1) := by decide +kernel
theorem d_Mo_high_578 : decode b_Mo_high 578 = .ok (.goto 47, 3) := by decide +kernel
theorem d_Mo_high_581 : decode b_Mo_high 581 = .ok (.aload_n 0, 1) := by decide +kernel
theorem d_Mo_high_582 : decode b_Mo_high 582 = .ok (.aload_n 1, 1) := by decide +kernel
theorem d_Mo_high_583 : decode b_Mo_high 583 = .ok (.iload_n 2, 1) := by decide +kernel
theorem d_Mo_high_584 : decode b_Mo_high 584 = .ok (.iload 4, 2) := by decide +kernel
theorem d_Mo_high_586 : decode b_Mo_high 586 = .ok (.aload 6, 2) := by decide +kernel
theorem d_Mo_high_588 : decode b_Mo_high 588 = .ok (.iload 7, 2) := by decide +kernel
theorem d_Mo_high_590 : decode b_Mo_high 590 = .ok (.invokevirtual 1005, 3) := by decide +kernel
theorem d_Mo_high_593 : decode b_Mo_high 593 = .ok (.goto 32, 3) := by decide +kernel
theorem d_Mo_high_596 : decode b_Mo_high 596 = .ok (.aload_n 0, 1) := by decide +kernel
theorem d_Mo_high_597 : decode b_Mo_high 597 = .ok (.aload_n 1, 1) := by decide +kernel
theorem d_Mo_high_598 : decode b_Mo_high 598 = .ok (.iload_n 2, 1) := by decide +kernel
theorem d_Mo_high_599 : decode b_Mo_high 599 = .ok (.iload_n 3, 1) := by decide +kernel
theorem d_Mo_high_600 : decode b_Mo_high 600 = .ok (.iload 4, 2) := by decide +kernel
theorem d_Mo_high_602 : decode b_Mo_high 602 = .ok (.aload 6, 2) := by decide +kernel
theorem d_Mo_high_604 : decode b_Mo_high 604 = .ok (.iload 7, 2) := by decide +kernel
theorem d_Mo_high_606 : decode b_Mo_high 606 = .ok (.invokevirtual 1008, 3) := by decide +kernel
theorem d_Mo_high_609 : decode b_Mo_high 609 = .ok (.goto 16, 3) := by decide +kernel
theorem d_Mo_high_612 : decode b_Mo_high 612 = .ok (.aload_n 0, 1) := by decide +kernel
theorem d_Mo_high_613 : decode b_Mo_high 613 = .ok (.aload_n 1, 1) := by decide +kernel
theorem d_Mo_high_614 : decode b_Mo_high 614 = .ok (.iload_n 2, 1) := by decide +kernel
theorem d_Mo_high_615 : decode b_Mo_high 615 = .ok (.iload_n 3, 1) := by decide +kernel
theorem d_Mo_high_616 : decode b_Mo_high 616 = .ok (.iload 4, 2) := by decide +kernel
theorem d_Mo_high_618 : decode b_Mo_high 618 = .ok (.aload 6, 2) := by decide +kernel
theorem d_Mo_high_620 : decode b_Mo_high 620 = .ok (.iload 7, 2) := by decide +kernel
theorem d_Mo_high_622 : decode b_Mo_high 622 = .ok (.invokevirtual 1010, 3) := by decide +kernel
theorem d_Mo_high_625 : decode b_Mo_high 625 = .ok (.return_, 1) := by decide +kernel
theorem kw_502 : Cond.methodLink R_Mo 997 y_Mo_gather ∈ wA := kinm (show _ ∈ tables_1 from (List.mem_append_right _ (List.mem_append_right _ (List.mem_append_right _ (List.mem_append_right _ (List.mem_append_right _ (List.mem_append_right _ (List.mem_append_right _ (List.mem_append_right _ (List.mem_append_right _ (List.mem_append_right _ (List.mem_append_right _ (List.mem_append_right _ (List.mem_append_left _ (List.mem_of_getElem? (l := tables_1_13) (i := 208) (by decide +kernel)))))))))))))))) (by decide +kernel)
theorem kw_503 : Cond.methodLink R_Mo 1001 y_Mo_loop ∈ wA := kinm (show _ ∈ tables_1 from (List.mem_append_right _ (List.mem_append_right _ (List.mem_append_right _ (List.mem_append_right _ (List.mem_append_right _ (List.mem_append_right _ (List.mem_append_right _ (List.mem_append_right _ (List.mem_append_right _ (List.mem_append_right _ (List.mem_append_right _ (List.mem_append_right _ (List.mem_append_left _ (List.mem_of_getElem? (l := tables_1_13) (i := 216) (by decide +kernel)))))))))))))))) (by decide +kernel)
theorem kw_504 : Cond.methodLink R_Mo 1005 y_Mo_list ∈ wA := kinm (show _ ∈ tables_1 from (List.mem_append_right _ (List.mem_append_right _ (List.mem_append_right _ (List.mem_append_right _ (List.mem_append_right _ (List.mem_append_right _ (List.mem_append_right _ (List.mem_append_right _ (List.mem_append_right _ (List.mem_append_right _ (List.mem_append_right _ (List.mem_append_right _ (List.mem_append_left _ (List.mem_of_getElem? (l := tables_1_13) (i := 220) (by decide +kernel)))))))))))))))) (by decide +kernel)
theorem kw_505 : Cond.methodLink R_Mo 1008 y_Mo_closure_ ∈ wA := kinm (show _ ∈ tables_1 from (List.mem_append_right _ (List.mem_append_right _ (List.mem_append_right _ (List.mem_append_right _ (List.mem_append_right _ (List.mem_append_right _ (List.mem_append_right _ (List.mem_append_right _ (List.mem_append_right _ (List.mem_append_right _ (List.mem_append_right _ (List.mem_append_right _ (List.mem_append_left _ (List.mem_of_getElem? (l := tables_1_13) (i := 224) (by decide +kernel)))))))))))))))) (by decide +kernel)
theorem kw_506 : Cond.methodLink R_Mo 1010 y_Mo_further ∈ wA := kinm (show _ ∈ tables_1 from (List.mem_append_right _ (List.mem_append_right _ (List.mem_append_right _ (List.mem_append_right _ (List.mem_append_right _ (List.mem_append_right _ (List.mem_append_right _ (List.mem_append_right _ (List.mem_append_right _ (List.mem_append_right _ (List.mem_append_right _ (List.mem_append_right _ (List.mem_append_left _ (List.mem_of_getElem? (l := tables_1_13) (i := 236) (by decide +kernel)))))))))))))))) (by decide +kernel)
theorem kw_507 : Cond.instanceMethod y_Mo_high ∈ wA := kinm (show _ ∈ tables_1 from (List.mem_append_right _ (List.mem_append_right _ (List.mem_append_right _ (List.mem_append_right _ (List.mem_append_right _ (List.mem_append_right _ (List.mem_append_right _ (List.mem_append_right _ (List.mem_append_right _ (List.mem_append_right _ (List.mem_append_right _ (List.mem_append_right _ (List.mem_append_left _ (List.mem_of_getElem? (l := tables_1_13) (i := 206) (by decide +kernel)))))))))))))))) (by decide +kernel)
theorem kw_508 : Cond.selects R_Mo y_Mo_high y_Mo_high ∈ wA := kinp 218 (by decide +kernel) (by decide +kernel)
theorem cv_Mo_high : CV y_Mo_high b_Mo_high 10 none 7 := ⟨kw_507, kw_508, kw_17, k_Mo_high, by decide +kernel⟩
theorem j_Mo_high_j303 {X : Cx} {q : PL} (g : Gd X y_Mo_high b_Mo_high 10 none 9 216 R_Mo) {o : ((Int32 × Int32 × Int32 × Int32 × Int32) ⊕ ((Int32 × Int32))) × S1} (hR : (Sum.elim (fun y : Int32 × Int32 × Int32 × Int32 × Int32 => ∀ ls : Array Slot, (0 ≤ y.1 ∧ y.1 < 33) → lv_has ls 10 [(0, .ref (q.1 0 0)), (1, .ref (q.1 28 y.1)), (2, .int y.2.1), (4, .int y.2.2.1), (8, .int y.2.2.2.1), (9, .int y.2.2.2.2)] → WW X q o.2 276 ls []) (fun y : Int32 × Int32 => ∀ ls : Array Slot, (0 ≤ y.1 ∧ y.1 < 33) → lv_has ls 10 [(0, .ref (q.1 0 0)), (1, .ref (q.1 28 y.1)), (2, .int y.2)] → WW X q o.2 314 ls []) o.1)) (l1 : Int32) (l2 : Int32) (l4 : Int32) (l8 : Int32) (l9 : Int32) (k0 : Int32) (k1 : Int32) (k2 : Int32) (s : S1) (hp0 : 0 ≤ l1 ∧ l1 < 33) (hp1 : 0 ≤ k2 ∧ k2 < 33) (ls : Array Slot) (hl : lv_has ls 10 [(0, .ref (q.1 0 0)), (1, .ref (q.1 28 l1)), (2, .int l2), (4, .int l4), (8, .int l8), (9, .int l9)]) (h : M_Mo_high_j303 l1 l2 l4 l8 l9 k0 k1 k2 s = some o) : WW X q s 303 ls [.int k0, .int k1, .ref (q.1 28 k2), .ref (q.1 10 0), .ref (q.1 0 0)] := by
  unfold M_Mo_high_j303 at h
  refine ww_iload (pc := 303) g.1 d_Mo_high_303 (lv_at hl 5 rfl) ?_
  obtain ⟨v305, s, hc305, h⟩ := oB_of h
  refine ww_callV (pc := 305) (rest := []) g cv_Mo_addAt (Or.inl kw_384) cl_Mo (pz rfl (by decide)) (ct_Mo_addAt (Or.inl ⟨by decide, rfl⟩) hp1 hc305) ⟨by decide, by decide⟩ rfl hl.1 (Nat.le_of_ble_eq_true rfl) d_Mo_high_305 rfl ?_
  refine ww_st (st' := []) rfl ?_
  refine ww_iinc (pc := 308) g.1 (v := l9 + 1) (lv' := [(9, .int (l9 + 1)), (0, .ref (q.1 0 0)), (1, .ref (q.1 28 l1)), (2, .int l2), (4, .int l4), (8, .int l8)]) d_Mo_high_308 hl (k := 5) rfl (by rfl) (by decide) rfl fun ls hl => ?_
  refine ww_goto (pc := 311) (tgt := 276) g.1 d_Mo_high_311 (by decide) ?_
  rw [oR_eq h] at hR
  exact hR ls hp0 (lv_sub hl [1, 2, 3, 4, 5, 0] rfl)

theorem lp_Mo_high_L276 {X : Cx} {q : PL} (g : Gd X y_Mo_high b_Mo_high 10 none 9 216 R_Mo) (x : Int32 × Int32 × Int32 × Int32 × Int32) (s : S1) (o : ((Int32 × Int32 × Int32 × Int32 × Int32) ⊕ ((Int32 × Int32))) × S1) (h : M_Mo_high_L276 x s = some o) (hR : (Sum.elim (fun y : Int32 × Int32 × Int32 × Int32 × Int32 => ∀ ls : Array Slot, (0 ≤ y.1 ∧ y.1 < 33) → lv_has ls 10 [(0, .ref (q.1 0 0)), (1, .ref (q.1 28 y.1)), (2, .int y.2.1), (4, .int y.2.2.1), (8, .int y.2.2.2.1), (9, .int y.2.2.2.2)] → WW X q o.2 276 ls []) (fun y : Int32 × Int32 => ∀ ls : Array Slot, (0 ≤ y.1 ∧ y.1 < 33) → lv_has ls 10 [(0, .ref (q.1 0 0)), (1, .ref (q.1 28 y.1)), (2, .int y.2)] → WW X q o.2 314 ls []) o.1)) : ∀ ls : Array Slot, (0 ≤ x.1 ∧ x.1 < 33) → lv_has ls 10 [(0, .ref (q.1 0 0)), (1, .ref (q.1 28 x.1)), (2, .int x.2.1), (4, .int x.2.2.1), (8, .int x.2.2.2.1), (9, .int x.2.2.2.2)] → WW X q s 276 ls [] := by
  intro ls hp0 hl
  unfold M_Mo_high_L276 at h
  refine ww_iload (pc := 276) g.1 d_Mo_high_276 (lv_at hl 5 rfl) ?_
  refine ww_iload (pc := 278) g.1 d_Mo_high_278 (lv_at hl 4 rfl) ?_
  refine ww_icmp_ge (pc := 280) (tgt := 314) g.1 d_Mo_high_280 (by decide) h (fun c h => ?_) (fun c h => ?_)
  · rw [oR_eq h] at hR
    exact hR ls hp0 (lv_sub hl [0, 1, 2] rfl)
  · refine ww_aload_n (pc := 283) g.1 d_Mo_high_283 rfl (lv_at hl 0 rfl) ?_
    refine ww_aload_n (pc := 284) g.1 d_Mo_high_284 rfl (lv_at hl 0 rfl) ?_
    refine ww_gR (pc := 285) g (k := 78) cl_Mo (pz rfl (by decide)) (by decide) (Or.inl kw_178) (f := 78) (t := 10) rfl rfl rfl d_Mo_high_285 ?_
    refine ww_aload_n (pc := 288) g.1 d_Mo_high_288 rfl (lv_at hl 1 rfl) ?_
    refine ww_iload_n (pc := 289) g.1 d_Mo_high_289 rfl (lv_at hl 2 rfl) ?_
    refine ww_iload (pc := 290) g.1 d_Mo_high_290 (lv_at hl 3 rfl) ?_
    obtain ⟨v292, s, hc292, h⟩ := oB_of h
    refine ww_callS (pc := 292) (rest := [.int x.2.1, .ref (q.1 28 x.1), .ref (q.1 10 0), .ref (q.1 0 0)]) g cs_Mo_b (Or.inl kw_54) (ct_Mo_b hc292) ⟨by decide, by decide⟩ rfl hl.1 (Nat.le_of_ble_eq_true rfl) d_Mo_high_292 rfl ?_
    refine ww_st (st' := [.int v292, .int x.2.1, .ref (q.1 28 x.1), .ref (q.1 10 0), .ref (q.1 0 0)]) rfl ?_
    refine ww_if_ne (pc := 295) (tgt := 302) g.1 d_Mo_high_295 (by decide) h (fun c h => ?_) (fun c h => ?_)
    · refine ww_iconst (pc := 302) g.1 (v := 0) d_Mo_high_302 (by decide) ?_
      exact j_Mo_high_j303 g hR x.1 x.2.1 x.2.2.1 x.2.2.2.1 x.2.2.2.2 0 x.2.1 x.1 s hp0 hp0 ls (lv_sub hl [0, 1, 2, 3, 4, 5] rfl) h
    · refine ww_iconst (pc := 298) g.1 (v := 1) d_Mo_high_298 (by decide) ?_
      refine ww_goto (pc := 299) (tgt := 303) g.1 d_Mo_high_299 (by decide) ?_
      exact j_Mo_high_j303 g hR x.1 x.2.1 x.2.2.1 x.2.2.2.1 x.2.2.2.2 1 x.2.1 x.1 s hp0 hp0 ls (lv_sub hl [0, 1, 2, 3, 4, 5] rfl) h

theorem j_Mo_high_j235 {X : Cx} {q : PL} (g : Gd X y_Mo_high b_Mo_high 10 none 9 216 R_Mo) {o : (Unit) × S1} (hR : Rt X q o.2 none) (l1 : Int32) (l2 : Int32) (l4 : Int32) (k0 : Int32) (s : S1) (hp0 : 0 ≤ l1 ∧ l1 < 33) (ls : Array Slot) (hl : lv_has ls 10 [(0, .ref (q.1 0 0)), (1, .ref (q.1 28 l1)), (2, .int l2), (4, .int l4)]) (h : M_Mo_high_j235 l1 l2 l4 k0 s = some o) : WW X q s 235 ls [.int k0] := by
  unfold M_Mo_high_j235 at h
  refine ww_istore (pc := 235) (i := 8) g.1 (lv' := [(8, .int k0), (0, .ref (q.1 0 0)), (1, .ref (q.1 28 l1)), (2, .int l2), (4, .int l4)]) d_Mo_high_235 hl (by decide) rfl fun ls hl => ?_
  refine ww_iload (pc := 237) g.1 d_Mo_high_237 (lv_at hl 0 rfl) ?_
  refine ww_iload (pc := 239) g.1 d_Mo_high_239 (lv_at hl 4 rfl) ?_
  obtain ⟨v241, s, hc241, h⟩ := oB_of h
  refine ww_callS (pc := 241) (rest := [.int k0]) g cs_Mo_a (Or.inl kw_280) (ct_Mo_a hc241) ⟨by decide, by decide⟩ rfl hl.1 (Nat.le_of_ble_eq_true rfl) d_Mo_high_241 rfl ?_
  refine ww_st (st' := [.int v241, .int k0]) rfl ?_
  refine ww_isub (pc := 244) g.1 d_Mo_high_244 ?_
  refine ww_sipush (pc := 245) g.1 (v := 250) d_Mo_high_245 (by decide) ?_
  refine ww_icmp_le (pc := 248) (tgt := 261) g.1 d_Mo_high_248 (by decide) h (fun c h => ?_) (fun c h => ?_)
  · refine ww_aload_n (pc := 261) g.1 d_Mo_high_261 rfl (lv_at hl 1 rfl) ?_
    refine ww_gR (pc := 262) g (k := 78) cl_Mo (pz rfl (by decide)) (by decide) (Or.inl kw_178) (f := 78) (t := 10) rfl rfl rfl d_Mo_high_262 ?_
    refine ww_iconst (pc := 265) g.1 (v := 0) d_Mo_high_265 (by decide) ?_
    refine ww_pI (pc := 266) g (k := 2) (cl_Va (Or.inl ⟨by decide, rfl⟩)) (pz rfl (by decide)) (by decide) (Or.inl kw_179) rfl (f := 1282) rfl rfl rfl rfl d_Mo_high_266 h fun s hs h => ?_
    refine ww_iload (pc := 269) g.1 d_Mo_high_269 (lv_at hl 4 rfl) ?_
    obtain ⟨v271, s, hc271, h⟩ := oB_of h
    refine ww_callS (pc := 271) (rest := []) g cs_Mo_a (Or.inl kw_280) (ct_Mo_a hc271) ⟨by decide, by decide⟩ rfl hl.1 (Nat.le_of_ble_eq_true rfl) d_Mo_high_271 rfl ?_
    refine ww_st (st' := [.int v271]) rfl ?_
    refine ww_istore (pc := 274) (i := 9) g.1 (lv' := [(9, .int v271), (8, .int k0), (0, .ref (q.1 0 0)), (1, .ref (q.1 28 l1)), (2, .int l2), (4, .int l4)]) d_Mo_high_274 hl (by decide) rfl fun ls hl => ?_
    obtain ⟨e276, s1, hw, h⟩ := oB_of h
    refine oW_rule (Wh := fun (x : Int32 × Int32 × Int32 × Int32 × Int32) (s : S1) => ∀ ls : Array Slot, (0 ≤ x.1 ∧ x.1 < 33) → lv_has ls 10 [(0, .ref (q.1 0 0)), (1, .ref (q.1 28 x.1)), (2, .int x.2.1), (4, .int x.2.2.1), (8, .int x.2.2.2.1), (9, .int x.2.2.2.2)] → WW X q s 276 ls []) (We := fun (e : (Int32 × Int32)) (s : S1) => ∀ ls : Array Slot, (0 ≤ e.1 ∧ e.1 < 33) → lv_has ls 10 [(0, .ref (q.1 0 0)), (1, .ref (q.1 28 e.1)), (2, .int e.2)] → WW X q s 314 ls []) (fun x s o hb hc => lp_Mo_high_L276 (q := q) g x s o hb hc) hw ?_ ls hp0 (lv_sub hl [2, 3, 4, 5, 1, 0] rfl)
    clear hw hl
    clear ls
    intro ls hq276_0 hl
    generalize s1 = s at h ⊢
    refine ww_aload_n (pc := 314) g.1 d_Mo_high_314 rfl (lv_at hl 1 rfl) ?_
    refine ww_gR (pc := 315) g (k := 17) cl_Th (pt rfl rfl hq276_0) (by decide) (Or.inl kw_154) (f := 3601) (t := 36) rfl rfl rfl d_Mo_high_315 ?_
    refine ww_iload_n (pc := 318) g.1 d_Mo_high_318 rfl (lv_at hl 2 rfl) ?_
    refine ww_iconst (pc := 319) g.1 (v := 0) d_Mo_high_319 (by decide) ?_
    refine ww_si (pc := 320) g (pt rfl rfl hq276_0) rfl rfl d_Mo_high_320 h fun s hs h => ?_
    refine ww_aload_n (pc := 321) g.1 d_Mo_high_321 rfl (lv_at hl 0 rfl) ?_
    refine ww_aload_n (pc := 322) g.1 d_Mo_high_322 rfl (lv_at hl 1 rfl) ?_
    refine ww_aload_n (pc := 323) g.1 d_Mo_high_323 rfl (lv_at hl 1 rfl) ?_
    refine ww_gR (pc := 324) g (k := 14) cl_Th (pt rfl rfl hq276_0) (by decide) (Or.inl kw_254) (f := 3598) (t := 33) rfl rfl rfl d_Mo_high_324 ?_
    refine ww_iload_n (pc := 327) g.1 d_Mo_high_327 rfl (lv_at hl 2 rfl) ?_
    refine ww_ai (pc := 328) g (pt rfl rfl hq276_0) rfl rfl d_Mo_high_328 h fun v328 h => ?_
    obtain ⟨v329, s, hc329, h⟩ := oB_of h
    refine ww_callV (pc := 329) (rest := []) g cv_Mo_close (Or.inl kw_374) cl_Mo (pz rfl (by decide)) (ct_Mo_close hq276_0 hc329) ⟨by decide, by decide⟩ rfl hl.1 (Nat.le_of_ble_eq_true rfl) d_Mo_high_329 rfl ?_
    refine ww_st (st' := []) rfl ?_
    refine ww_aload_n (pc := 332) g.1 d_Mo_high_332 rfl (lv_at hl 1 rfl) ?_
    refine ww_dup (pc := 333) g.1 d_Mo_high_333 rfl ?_
    refine ww_gI (pc := 334) g (k := 2) cl_Th (pt rfl rfl hq276_0) (by decide) (Or.inl kw_151) (f := 3586) rfl rfl d_Mo_high_334 h fun v334 h => ?_
    refine ww_iconst (pc := 337) g.1 (v := 1) d_Mo_high_337 (by decide) ?_
    refine ww_isub (pc := 338) g.1 d_Mo_high_338 ?_
    refine ww_pI (pc := 339) g (k := 2) cl_Th (pt rfl rfl hq276_0) (by decide) (Or.inl kw_151) rfl (f := 3586) rfl rfl rfl rfl d_Mo_high_339 h fun s hs h => ?_
    refine ww_aload_n (pc := 342) g.1 d_Mo_high_342 rfl (lv_at hl 0 rfl) ?_
    refine ww_iconst (pc := 343) g.1 (v := 2) d_Mo_high_343 (by decide) ?_
    refine ww_pI (pc := 344) g (k := 73) cl_Mo (pz rfl (by decide)) (by decide) (Or.inl kw_75) rfl (f := 73) rfl rfl rfl rfl d_Mo_high_344 h fun s hs h => ?_
    refine ww_goto (pc := 347) (tgt := 625) g.1 d_Mo_high_347 (by decide) ?_
    exact ww_vretH (pc := 625) g h hR d_Mo_high_625
  · refine ww_aload_n (pc := 251) g.1 d_Mo_high_251 rfl (lv_at hl 1 rfl) ?_
    refine ww_bipush (pc := 252) g.1 (v := 7) d_Mo_high_252 (by decide) ?_
    obtain ⟨v254, s, hc254, h⟩ := oB_of h
    refine ww_callV (pc := 254) (rest := []) g cv_Mo_raise (Or.inl kw_157) cl_Mo (pz rfl (by decide)) (ct_Mo_raise hc254) ⟨by decide, by decide⟩ rfl hl.1 (Nat.le_of_ble_eq_true rfl) d_Mo_high_254 rfl ?_
    refine ww_st (st' := [.int v254]) rfl ?_
    refine ww_pop (pc := 257) g.1 d_Mo_high_257 rfl ?_
    refine ww_goto (pc := 258) (tgt := 625) g.1 d_Mo_high_258 (by decide) ?_
    exact ww_vretH (pc := 625) g h hR d_Mo_high_625

theorem j_Mo_high_j405 {X : Cx} {q : PL} (g : Gd X y_Mo_high b_Mo_high 10 none 9 216 R_Mo) {o : (Unit) × S1} (hR : Rt X q o.2 none)  (s : S1) (ls : Array Slot) (hl : lv_has ls 10 [(0, .ref (q.1 0 0))]) (h : M_Mo_high_j405 s = some o) : WW X q s 405 ls [] := by
  unfold M_Mo_high_j405 at h
  refine ww_aload_n (pc := 405) g.1 d_Mo_high_405 rfl (lv_at hl 0 rfl) ?_
  refine ww_iconst (pc := 406) g.1 (v := 3) d_Mo_high_406 (by decide) ?_
  obtain ⟨v407, s, hc407, h⟩ := oB_of h
  refine ww_callV (pc := 407) (rest := []) g cv_Mo_raise (Or.inl kw_157) cl_Mo (pz rfl (by decide)) (ct_Mo_raise hc407) ⟨by decide, by decide⟩ rfl hl.1 (Nat.le_of_ble_eq_true rfl) d_Mo_high_407 rfl ?_
  refine ww_st (st' := [.int v407]) rfl ?_
  refine ww_pop (pc := 410) g.1 d_Mo_high_410 rfl ?_
  refine ww_goto (pc := 411) (tgt := 625) g.1 d_Mo_high_411 (by decide) ?_
  exact ww_vretH (pc := 625) g h hR d_Mo_high_625

theorem ct_Mo_high {l : Launch} {P : PP} {q : PL} {s s' : S1} {l1 : Int32} {l2 : Int32} {l3 : Int32} {l4 : Int32} {l5 : Int32} {l6r : Nat} {l6 : Int32} {l7 : Int32} (hp0 : 0 ≤ l1 ∧ l1 < 33) (hp1 : VOK l6r l6) {r : Unit} (h : M_Mo_high l1 l2 l3 l4 l5 l6r l6 l7 s = some (r, s')) : Ct l y_Mo_high b_Mo_high 10 none 9 216 P q s [.ref (q.1 0 0), .ref (q.1 28 l1), .int l2, .int l3, .int l4, .int l5, .ref (q.1 l6r l6), .int l7] none q s' := by
  refine ct_of (by decide) (Nat.le_of_ble_eq_true rfl) fun X ls eP el g hR hl => ?_
  subst eP
  have hR : Rt X q ((r, s') : Unit × S1).2 none := hR
  have hl : lv_has ls 10 [(0, .ref (q.1 0 0)), (1, .ref (q.1 28 l1)), (2, .int l2), (3, .int l3), (4, .int l4), (5, .int l5), (6, .ref (q.1 l6r l6)), (7, .int l7)] := hl
  generalize (r, s') = o at h hR
  unfold M_Mo_high at h
  refine ww_iload (pc := 0) g.1 d_Mo_high_0 (lv_at hl 5 rfl) ?_
  by_cases c2_52 : l5 = 36
  · have h := oC_pos c2_52 h
    have c := c2_52
    refine ww_tableIn (pc := 2) (tgt := 52) g.1 d_Mo_high_2 (by rw [c]; decide) (by rw [c]; decide) (by rw [c]; rfl) (by decide) ?_
    refine ww_aload_n (pc := 52) g.1 d_Mo_high_52 rfl (lv_at hl 0 rfl) ?_
    refine ww_aload_n (pc := 53) g.1 d_Mo_high_53 rfl (lv_at hl 1 rfl) ?_
    refine ww_iload_n (pc := 54) g.1 d_Mo_high_54 rfl (lv_at hl 2 rfl) ?_
    refine ww_iload (pc := 55) g.1 d_Mo_high_55 (lv_at hl 4 rfl) ?_
    obtain ⟨v57, s, hc57, h⟩ := oB_of h
    refine ww_callS (pc := 57) (rest := [.int l2, .ref (q.1 28 l1), .ref (q.1 0 0)]) g cs_Mo_a (Or.inl kw_280) (ct_Mo_a hc57) ⟨by decide, by decide⟩ rfl hl.1 (Nat.le_of_ble_eq_true rfl) d_Mo_high_57 rfl ?_
    refine ww_st (st' := [.int v57, .int l2, .ref (q.1 28 l1), .ref (q.1 0 0)]) rfl ?_
    refine ww_iload (pc := 60) g.1 d_Mo_high_60 (lv_at hl 4 rfl) ?_
    obtain ⟨v62, s, hc62, h⟩ := oB_of h
    refine ww_callS (pc := 62) (rest := [.int v57, .int l2, .ref (q.1 28 l1), .ref (q.1 0 0)]) g cs_Mo_b (Or.inl kw_54) (ct_Mo_b hc62) ⟨by decide, by decide⟩ rfl hl.1 (Nat.le_of_ble_eq_true rfl) d_Mo_high_62 rfl ?_
    refine ww_st (st' := [.int v62, .int v57, .int l2, .ref (q.1 28 l1), .ref (q.1 0 0)]) rfl ?_
    obtain ⟨v65, s, hc65, h⟩ := oB_of h
    refine ww_callV (pc := 65) (rest := []) g cv_Mo_gather (Or.inl kw_502) cl_Mo (pz rfl (by decide)) (ct_Mo_gather hp0 hc65) ⟨by decide, by decide⟩ rfl hl.1 (Nat.le_of_ble_eq_true rfl) d_Mo_high_65 rfl ?_
    refine ww_st (st' := [.int v65]) rfl ?_
    refine ww_if_ne (pc := 68) (tgt := 74) g.1 d_Mo_high_68 (by decide) h (fun c h => ?_) (fun c h => ?_)
    · refine ww_aload_n (pc := 74) g.1 d_Mo_high_74 rfl (lv_at hl 0 rfl) ?_
      refine ww_iconst (pc := 75) g.1 (v := 0) d_Mo_high_75 (by decide) ?_
      refine ww_iload (pc := 76) g.1 d_Mo_high_76 (lv_at hl 4 rfl) ?_
      obtain ⟨v78, s, hc78, h⟩ := oB_of h
      refine ww_callS (pc := 78) (rest := [.int 0, .ref (q.1 0 0)]) g cs_Mo_a (Or.inl kw_280) (ct_Mo_a hc78) ⟨by decide, by decide⟩ rfl hl.1 (Nat.le_of_ble_eq_true rfl) d_Mo_high_78 rfl ?_
      refine ww_st (st' := [.int v78, .int 0, .ref (q.1 0 0)]) rfl ?_
      refine ww_iload (pc := 81) g.1 d_Mo_high_81 (lv_at hl 4 rfl) ?_
      obtain ⟨v83, s, hc83, h⟩ := oB_of h
      refine ww_callS (pc := 83) (rest := [.int v78, .int 0, .ref (q.1 0 0)]) g cs_Mo_c (Or.inl kw_311) (ct_Mo_c hc83) ⟨by decide, by decide⟩ rfl hl.1 (Nat.le_of_ble_eq_true rfl) d_Mo_high_83 rfl ?_
      refine ww_st (st' := [.int v83, .int v78, .int 0, .ref (q.1 0 0)]) rfl ?_
      refine ww_iconst (pc := 86) g.1 (v := 1) d_Mo_high_86 (by decide) ?_
      refine ww_isub (pc := 87) g.1 d_Mo_high_87 ?_
      obtain ⟨v88, s, hc88, h⟩ := oB_of h
      refine ww_callV (pc := 88) (rest := []) g cv_Mo_expect (Or.inl kw_415) cl_Mo (pz rfl (by decide)) (ct_Mo_expect hc88) ⟨by decide, by decide⟩ rfl hl.1 (Nat.le_of_ble_eq_true rfl) d_Mo_high_88 rfl ?_
      refine ww_st (st' := []) rfl ?_
      refine ww_aload_n (pc := 91) g.1 d_Mo_high_91 rfl (lv_at hl 0 rfl) ?_
      refine ww_aload (pc := 92) g.1 d_Mo_high_92 (lv_at hl 6 rfl) ?_
      refine ww_gR (pc := 94) g (k := 0) (cl_Va hp1) (vok_p hp1).1 (by rw [(vok_f hp1).1.2.2]; decide) (Or.inl kw_90) (f := (128 * l6r + 0)) (t := l6r + 1) rfl (vok_f hp1).2.1.1 (vok_f hp1).2.1.2 d_Mo_high_94 ?_
      refine ww_iload (pc := 97) g.1 d_Mo_high_97 (lv_at hl 7 rfl) ?_
      refine ww_ab (pc := 99) g (vok_p hp1).2.1 (vok_f hp1).2.2.2.2.1 (vok_n hp1).1 d_Mo_high_99 h fun v99 h => ?_
      refine ww_pI (pc := 100) g (k := 75) cl_Mo (pz rfl (by decide)) (by decide) (Or.inl kw_192) rfl (f := 75) rfl rfl rfl rfl d_Mo_high_100 h fun s hs h => ?_
      refine ww_aload_n (pc := 103) g.1 d_Mo_high_103 rfl (lv_at hl 0 rfl) ?_
      refine ww_aload (pc := 104) g.1 d_Mo_high_104 (lv_at hl 6 rfl) ?_
      refine ww_gR (pc := 106) g (k := 1) (cl_Va hp1) (vok_p hp1).1 (by rw [(vok_f hp1).1.2.2]; decide) (Or.inl kw_93) (f := (128 * l6r + 1)) (t := l6r + 2) rfl (vok_f hp1).2.2.1.1 (vok_f hp1).2.2.1.2 d_Mo_high_106 ?_
      refine ww_iload (pc := 109) g.1 d_Mo_high_109 (lv_at hl 7 rfl) ?_
      refine ww_al (pc := 111) g (vok_p hp1).2.2 (vok_f hp1).2.2.2.2.2 (vok_n hp1).2 d_Mo_high_111 h fun v111 h => ?_
      refine ww_pL (pc := 112) g (k := 76) cl_Mo (pz rfl (by decide)) (by decide) (Or.inl kw_194) rfl (f := 76) rfl rfl rfl rfl d_Mo_high_112 h fun s hs h => ?_
      refine ww_aload_n (pc := 115) g.1 d_Mo_high_115 rfl (lv_at hl 0 rfl) ?_
      refine ww_iconst (pc := 116) g.1 (v := 1) d_Mo_high_116 (by decide) ?_
      refine ww_pI (pc := 117) g (k := 73) cl_Mo (pz rfl (by decide)) (by decide) (Or.inl kw_75) rfl (f := 73) rfl rfl rfl rfl d_Mo_high_117 h fun s hs h => ?_
      refine ww_goto (pc := 120) (tgt := 625) g.1 d_Mo_high_120 (by decide) ?_
      exact ww_vretH (pc := 625) g h hR d_Mo_high_625
    · refine ww_goto (pc := 71) (tgt := 625) g.1 d_Mo_high_71 (by decide) ?_
      exact ww_vretH (pc := 625) g h hR d_Mo_high_625
  have h := oC_neg c2_52 h
  by_cases c2_123 : l5 = 37
  · have h := oC_pos c2_123 h
    have c := c2_123
    refine ww_tableIn (pc := 2) (tgt := 123) g.1 d_Mo_high_2 (by rw [c]; decide) (by rw [c]; decide) (by rw [c]; rfl) (by decide) ?_
    refine ww_aload_n (pc := 123) g.1 d_Mo_high_123 rfl (lv_at hl 0 rfl) ?_
    refine ww_aload_n (pc := 124) g.1 d_Mo_high_124 rfl (lv_at hl 1 rfl) ?_
    refine ww_iload_n (pc := 125) g.1 d_Mo_high_125 rfl (lv_at hl 2 rfl) ?_
    refine ww_iload (pc := 126) g.1 d_Mo_high_126 (lv_at hl 4 rfl) ?_
    obtain ⟨v128, s, hc128, h⟩ := oB_of h
    refine ww_callS (pc := 128) (rest := [.int l2, .ref (q.1 28 l1), .ref (q.1 0 0)]) g cs_Mo_a (Or.inl kw_280) (ct_Mo_a hc128) ⟨by decide, by decide⟩ rfl hl.1 (Nat.le_of_ble_eq_true rfl) d_Mo_high_128 rfl ?_
    refine ww_st (st' := [.int v128, .int l2, .ref (q.1 28 l1), .ref (q.1 0 0)]) rfl ?_
    refine ww_iload (pc := 131) g.1 d_Mo_high_131 (lv_at hl 4 rfl) ?_
    obtain ⟨v133, s, hc133, h⟩ := oB_of h
    refine ww_callS (pc := 133) (rest := [.int v128, .int l2, .ref (q.1 28 l1), .ref (q.1 0 0)]) g cs_Mo_b (Or.inl kw_54) (ct_Mo_b hc133) ⟨by decide, by decide⟩ rfl hl.1 (Nat.le_of_ble_eq_true rfl) d_Mo_high_133 rfl ?_
    refine ww_st (st' := [.int v133, .int v128, .int l2, .ref (q.1 28 l1), .ref (q.1 0 0)]) rfl ?_
    obtain ⟨v136, s, hc136, h⟩ := oB_of h
    refine ww_callV (pc := 136) (rest := []) g cv_Mo_gather (Or.inl kw_502) cl_Mo (pz rfl (by decide)) (ct_Mo_gather hp0 hc136) ⟨by decide, by decide⟩ rfl hl.1 (Nat.le_of_ble_eq_true rfl) d_Mo_high_136 rfl ?_
    refine ww_st (st' := [.int v136]) rfl ?_
    refine ww_if_ne (pc := 139) (tgt := 145) g.1 d_Mo_high_139 (by decide) h (fun c h => ?_) (fun c h => ?_)
    · refine ww_aload_n (pc := 145) g.1 d_Mo_high_145 rfl (lv_at hl 0 rfl) ?_
      refine ww_aload (pc := 146) g.1 d_Mo_high_146 (lv_at hl 6 rfl) ?_
      refine ww_gR (pc := 148) g (k := 0) (cl_Va hp1) (vok_p hp1).1 (by rw [(vok_f hp1).1.2.2]; decide) (Or.inl kw_90) (f := (128 * l6r + 0)) (t := l6r + 1) rfl (vok_f hp1).2.1.1 (vok_f hp1).2.1.2 d_Mo_high_148 ?_
      refine ww_iload (pc := 151) g.1 d_Mo_high_151 (lv_at hl 7 rfl) ?_
      refine ww_ab (pc := 153) g (vok_p hp1).2.1 (vok_f hp1).2.2.2.2.1 (vok_n hp1).1 d_Mo_high_153 h fun v153 h => ?_
      refine ww_pI (pc := 154) g (k := 75) cl_Mo (pz rfl (by decide)) (by decide) (Or.inl kw_192) rfl (f := 75) rfl rfl rfl rfl d_Mo_high_154 h fun s hs h => ?_
      refine ww_aload_n (pc := 157) g.1 d_Mo_high_157 rfl (lv_at hl 0 rfl) ?_
      refine ww_aload (pc := 158) g.1 d_Mo_high_158 (lv_at hl 6 rfl) ?_
      refine ww_gR (pc := 160) g (k := 1) (cl_Va hp1) (vok_p hp1).1 (by rw [(vok_f hp1).1.2.2]; decide) (Or.inl kw_93) (f := (128 * l6r + 1)) (t := l6r + 2) rfl (vok_f hp1).2.2.1.1 (vok_f hp1).2.2.1.2 d_Mo_high_160 ?_
      refine ww_iload (pc := 163) g.1 d_Mo_high_163 (lv_at hl 7 rfl) ?_
      refine ww_al (pc := 165) g (vok_p hp1).2.2 (vok_f hp1).2.2.2.2.2 (vok_n hp1).2 d_Mo_high_165 h fun v165 h => ?_
      refine ww_pL (pc := 166) g (k := 76) cl_Mo (pz rfl (by decide)) (by decide) (Or.inl kw_194) rfl (f := 76) rfl rfl rfl rfl d_Mo_high_166 h fun s hs h => ?_
      refine ww_aload_n (pc := 169) g.1 d_Mo_high_169 rfl (lv_at hl 0 rfl) ?_
      refine ww_aload_n (pc := 170) g.1 d_Mo_high_170 rfl (lv_at hl 1 rfl) ?_
      refine ww_aload_n (pc := 171) g.1 d_Mo_high_171 rfl (lv_at hl 1 rfl) ?_
      refine ww_gR (pc := 172) g (k := 14) cl_Th (pt rfl rfl hp0) (by decide) (Or.inl kw_254) (f := 3598) (t := 33) rfl rfl rfl d_Mo_high_172 ?_
      refine ww_iload_n (pc := 175) g.1 d_Mo_high_175 rfl (lv_at hl 2 rfl) ?_
      refine ww_ai (pc := 176) g (pt rfl rfl hp0) rfl rfl d_Mo_high_176 h fun v176 h => ?_
      obtain ⟨v177, s, hc177, h⟩ := oB_of h
      refine ww_callV (pc := 177) (rest := []) g cv_Mo_close (Or.inl kw_374) cl_Mo (pz rfl (by decide)) (ct_Mo_close hp0 hc177) ⟨by decide, by decide⟩ rfl hl.1 (Nat.le_of_ble_eq_true rfl) d_Mo_high_177 rfl ?_
      refine ww_st (st' := []) rfl ?_
      refine ww_aload_n (pc := 180) g.1 d_Mo_high_180 rfl (lv_at hl 1 rfl) ?_
      refine ww_dup (pc := 181) g.1 d_Mo_high_181 rfl ?_
      refine ww_gI (pc := 182) g (k := 2) cl_Th (pt rfl rfl hp0) (by decide) (Or.inl kw_151) (f := 3586) rfl rfl d_Mo_high_182 h fun v182 h => ?_
      refine ww_iconst (pc := 185) g.1 (v := 1) d_Mo_high_185 (by decide) ?_
      refine ww_isub (pc := 186) g.1 d_Mo_high_186 ?_
      refine ww_pI (pc := 187) g (k := 2) cl_Th (pt rfl rfl hp0) (by decide) (Or.inl kw_151) rfl (f := 3586) rfl rfl rfl rfl d_Mo_high_187 h fun s hs h => ?_
      refine ww_aload_n (pc := 190) g.1 d_Mo_high_190 rfl (lv_at hl 0 rfl) ?_
      refine ww_iconst (pc := 191) g.1 (v := 1) d_Mo_high_191 (by decide) ?_
      refine ww_pI (pc := 192) g (k := 73) cl_Mo (pz rfl (by decide)) (by decide) (Or.inl kw_75) rfl (f := 73) rfl rfl rfl rfl d_Mo_high_192 h fun s hs h => ?_
      refine ww_goto (pc := 195) (tgt := 625) g.1 d_Mo_high_195 (by decide) ?_
      exact ww_vretH (pc := 625) g h hR d_Mo_high_625
    · refine ww_goto (pc := 142) (tgt := 625) g.1 d_Mo_high_142 (by decide) ?_
      exact ww_vretH (pc := 625) g h hR d_Mo_high_625
  have h := oC_neg c2_123 h
  by_cases c2_198 : l5 = 38
  · have h := oC_pos c2_198 h
    have c := c2_198
    refine ww_tableIn (pc := 2) (tgt := 198) g.1 d_Mo_high_2 (by rw [c]; decide) (by rw [c]; decide) (by rw [c]; rfl) (by decide) ?_
    refine ww_iload (pc := 198) g.1 d_Mo_high_198 (lv_at hl 4 rfl) ?_
    obtain ⟨v200, s, hc200, h⟩ := oB_of h
    refine ww_callS (pc := 200) (rest := []) g cs_Mo_b (Or.inl kw_54) (ct_Mo_b hc200) ⟨by decide, by decide⟩ rfl hl.1 (Nat.le_of_ble_eq_true rfl) d_Mo_high_200 rfl ?_
    refine ww_st (st' := [.int v200]) rfl ?_
    refine ww_if_le (pc := 203) (tgt := 222) g.1 d_Mo_high_203 (by decide) h (fun c h => ?_) (fun c h => ?_)
    · refine ww_aload_n (pc := 222) g.1 d_Mo_high_222 rfl (lv_at hl 1 rfl) ?_
      refine ww_gR (pc := 223) g (k := 16) cl_Th (pt rfl rfl hp0) (by decide) (Or.inl kw_270) (f := 3600) (t := 35) rfl rfl rfl d_Mo_high_223 ?_
      refine ww_iload_n (pc := 226) g.1 d_Mo_high_226 rfl (lv_at hl 2 rfl) ?_
      refine ww_ai (pc := 227) g (pt rfl rfl hp0) rfl rfl d_Mo_high_227 h fun v227 h => ?_
      refine ww_aload_n (pc := 228) g.1 d_Mo_high_228 rfl (lv_at hl 1 rfl) ?_
      refine ww_gR (pc := 229) g (k := 17) cl_Th (pt rfl rfl hp0) (by decide) (Or.inl kw_154) (f := 3601) (t := 36) rfl rfl rfl d_Mo_high_229 ?_
      refine ww_iload_n (pc := 232) g.1 d_Mo_high_232 rfl (lv_at hl 2 rfl) ?_
      refine ww_ai (pc := 233) g (pt rfl rfl hp0) rfl rfl d_Mo_high_233 h fun v233 h => ?_
      refine ww_iadd (pc := 234) g.1 d_Mo_high_234 ?_
      exact j_Mo_high_j235 g hR l1 l2 l4 (v227 + v233) s hp0 ls (lv_sub hl [0, 1, 2, 4] rfl) h
    · refine ww_iload (pc := 206) g.1 d_Mo_high_206 (lv_at hl 4 rfl) ?_
      obtain ⟨v208, s, hc208, h⟩ := oB_of h
      refine ww_callS (pc := 208) (rest := []) g cs_Mo_a (Or.inl kw_280) (ct_Mo_a hc208) ⟨by decide, by decide⟩ rfl hl.1 (Nat.le_of_ble_eq_true rfl) d_Mo_high_208 rfl ?_
      refine ww_st (st' := [.int v208]) rfl ?_
      refine ww_iload (pc := 211) g.1 d_Mo_high_211 (lv_at hl 4 rfl) ?_
      obtain ⟨v213, s, hc213, h⟩ := oB_of h
      refine ww_callS (pc := 213) (rest := [.int v208]) g cs_Mo_b (Or.inl kw_54) (ct_Mo_b hc213) ⟨by decide, by decide⟩ rfl hl.1 (Nat.le_of_ble_eq_true rfl) d_Mo_high_213 rfl ?_
      refine ww_st (st' := [.int v213, .int v208]) rfl ?_
      refine ww_iadd (pc := 216) g.1 d_Mo_high_216 ?_
      refine ww_iconst (pc := 217) g.1 (v := 1) d_Mo_high_217 (by decide) ?_
      refine ww_isub (pc := 218) g.1 d_Mo_high_218 ?_
      refine ww_goto (pc := 219) (tgt := 235) g.1 d_Mo_high_219 (by decide) ?_
      exact j_Mo_high_j235 g hR l1 l2 l4 ((v208 + v213) - 1) s hp0 ls (lv_sub hl [0, 1, 2, 4] rfl) h
  have h := oC_neg c2_198 h
  by_cases c2_350 : l5 = 39
  · have h := oC_pos c2_350 h
    have c := c2_350
    refine ww_tableIn (pc := 2) (tgt := 350) g.1 d_Mo_high_2 (by rw [c]; decide) (by rw [c]; decide) (by rw [c]; rfl) (by decide) ?_
    refine ww_aload_n (pc := 350) g.1 d_Mo_high_350 rfl (lv_at hl 0 rfl) ?_
    refine ww_aload_n (pc := 351) g.1 d_Mo_high_351 rfl (lv_at hl 1 rfl) ?_
    refine ww_iload_n (pc := 352) g.1 d_Mo_high_352 rfl (lv_at hl 2 rfl) ?_
    refine ww_iload (pc := 353) g.1 d_Mo_high_353 (lv_at hl 4 rfl) ?_
    refine ww_aload (pc := 355) g.1 d_Mo_high_355 (lv_at hl 6 rfl) ?_
    refine ww_iload (pc := 357) g.1 d_Mo_high_357 (lv_at hl 7 rfl) ?_
    obtain ⟨v359, s, hc359, h⟩ := oB_of h
    refine ww_callV (pc := 359) (rest := []) g cv_Mo_loop (Or.inl kw_503) cl_Mo (pz rfl (by decide)) (ct_Mo_loop hp0 hp1 hc359) ⟨by decide, by decide⟩ rfl hl.1 (Nat.le_of_ble_eq_true rfl) d_Mo_high_359 rfl ?_
    refine ww_st (st' := []) rfl ?_
    refine ww_goto (pc := 362) (tgt := 625) g.1 d_Mo_high_362 (by decide) ?_
    exact ww_vretH (pc := 625) g h hR d_Mo_high_625
  have h := oC_neg c2_350 h
  by_cases c2_365 : l5 = 40
  · have h := oC_pos c2_365 h
    have c := c2_365
    refine ww_tableIn (pc := 2) (tgt := 365) g.1 d_Mo_high_2 (by rw [c]; decide) (by rw [c]; decide) (by rw [c]; rfl) (by decide) ?_
    refine ww_aload (pc := 365) g.1 d_Mo_high_365 (lv_at hl 6 rfl) ?_
    refine ww_gR (pc := 367) g (k := 0) (cl_Va hp1) (vok_p hp1).1 (by rw [(vok_f hp1).1.2.2]; decide) (Or.inl kw_90) (f := (128 * l6r + 0)) (t := l6r + 1) rfl (vok_f hp1).2.1.1 (vok_f hp1).2.1.2 d_Mo_high_367 ?_
    refine ww_iload (pc := 370) g.1 d_Mo_high_370 (lv_at hl 7 rfl) ?_
    refine ww_iconst (pc := 372) g.1 (v := 1) d_Mo_high_372 (by decide) ?_
    refine ww_iadd (pc := 373) g.1 d_Mo_high_373 ?_
    refine ww_ab (pc := 374) g (vok_p hp1).2.1 (vok_f hp1).2.2.2.2.1 (vok_n hp1).1 d_Mo_high_374 h fun v374 h => ?_
    refine ww_iconst (pc := 375) g.1 (v := 3) d_Mo_high_375 (by decide) ?_
    refine ww_icmp_ne (pc := 376) (tgt := 405) g.1 d_Mo_high_376 (by decide) h (fun c h => ?_) (fun c h => ?_)
    · exact j_Mo_high_j405 g hR s ls (lv_sub hl [0] rfl) h
    · refine ww_aload (pc := 379) g.1 d_Mo_high_379 (lv_at hl 6 rfl) ?_
      refine ww_gR (pc := 381) g (k := 0) (cl_Va hp1) (vok_p hp1).1 (by rw [(vok_f hp1).1.2.2]; decide) (Or.inl kw_90) (f := (128 * l6r + 0)) (t := l6r + 1) rfl (vok_f hp1).2.1.1 (vok_f hp1).2.1.2 d_Mo_high_381 ?_
      refine ww_iload (pc := 384) g.1 d_Mo_high_384 (lv_at hl 7 rfl) ?_
      refine ww_iconst (pc := 386) g.1 (v := 2) d_Mo_high_386 (by decide) ?_
      refine ww_iadd (pc := 387) g.1 d_Mo_high_387 ?_
      refine ww_ab (pc := 388) g (vok_p hp1).2.1 (vok_f hp1).2.2.2.2.1 (vok_n hp1).1 d_Mo_high_388 h fun v388 h => ?_
      refine ww_iconst (pc := 389) g.1 (v := 3) d_Mo_high_389 (by decide) ?_
      refine ww_icmp_ne (pc := 390) (tgt := 405) g.1 d_Mo_high_390 (by decide) h (fun c h => ?_) (fun c h => ?_)
      · exact j_Mo_high_j405 g hR s ls (lv_sub hl [0] rfl) h
      · refine ww_aload (pc := 393) g.1 d_Mo_high_393 (lv_at hl 6 rfl) ?_
        refine ww_gR (pc := 395) g (k := 0) (cl_Va hp1) (vok_p hp1).1 (by rw [(vok_f hp1).1.2.2]; decide) (Or.inl kw_90) (f := (128 * l6r + 0)) (t := l6r + 1) rfl (vok_f hp1).2.1.1 (vok_f hp1).2.1.2 d_Mo_high_395 ?_
        refine ww_iload (pc := 398) g.1 d_Mo_high_398 (lv_at hl 7 rfl) ?_
        refine ww_ab (pc := 400) g (vok_p hp1).2.1 (vok_f hp1).2.2.2.2.1 (vok_n hp1).1 d_Mo_high_400 h fun v400 h => ?_
        refine ww_iconst (pc := 401) g.1 (v := 3) d_Mo_high_401 (by decide) ?_
        refine ww_icmp_eq (pc := 402) (tgt := 414) g.1 d_Mo_high_402 (by decide) h (fun c h => ?_) (fun c h => ?_)
        · refine ww_aload (pc := 414) g.1 d_Mo_high_414 (lv_at hl 6 rfl) ?_
          refine ww_gR (pc := 416) g (k := 1) (cl_Va hp1) (vok_p hp1).1 (by rw [(vok_f hp1).1.2.2]; decide) (Or.inl kw_93) (f := (128 * l6r + 1)) (t := l6r + 2) rfl (vok_f hp1).2.2.1.1 (vok_f hp1).2.2.1.2 d_Mo_high_416 ?_
          refine ww_iload (pc := 419) g.1 d_Mo_high_419 (lv_at hl 7 rfl) ?_
          refine ww_dup2_11 (pc := 421) g.1 d_Mo_high_421 rfl rfl ?_
          refine ww_al (pc := 422) g (vok_p hp1).2.2 (vok_f hp1).2.2.2.2.2 (vok_n hp1).2 d_Mo_high_422 h fun v422 h => ?_
          refine ww_aload (pc := 423) g.1 d_Mo_high_423 (lv_at hl 6 rfl) ?_
          refine ww_gR (pc := 425) g (k := 1) (cl_Va hp1) (vok_p hp1).1 (by rw [(vok_f hp1).1.2.2]; decide) (Or.inl kw_93) (f := (128 * l6r + 1)) (t := l6r + 2) rfl (vok_f hp1).2.2.1.1 (vok_f hp1).2.2.1.2 d_Mo_high_425 ?_
          refine ww_iload (pc := 428) g.1 d_Mo_high_428 (lv_at hl 7 rfl) ?_
          refine ww_iconst (pc := 430) g.1 (v := 2) d_Mo_high_430 (by decide) ?_
          refine ww_iadd (pc := 431) g.1 d_Mo_high_431 ?_
          refine ww_al (pc := 432) g (vok_p hp1).2.2 (vok_f hp1).2.2.2.2.2 (vok_n hp1).2 d_Mo_high_432 h fun v432 h => ?_
          refine ww_lsub (pc := 433) g.1 d_Mo_high_433 ?_
          refine ww_sl (pc := 434) g (vok_p hp1).2.2 (vok_f hp1).2.2.2.2.2 (vok_n hp1).2 d_Mo_high_434 h fun s hs h => ?_
          refine ww_aload_n (pc := 435) g.1 d_Mo_high_435 rfl (lv_at hl 1 rfl) ?_
          refine ww_gR (pc := 436) g (k := 13) cl_Th (pt rfl rfl hp0) (by decide) (Or.inl kw_274) (f := 3597) (t := 32) rfl rfl rfl d_Mo_high_436 ?_
          refine ww_iload_n (pc := 439) g.1 d_Mo_high_439 rfl (lv_at hl 2 rfl) ?_
          refine ww_dup2_11 (pc := 440) g.1 d_Mo_high_440 rfl rfl ?_
          refine ww_ai (pc := 441) g (pt rfl rfl hp0) rfl rfl d_Mo_high_441 h fun v441 h => ?_
          refine ww_iload (pc := 442) g.1 d_Mo_high_442 (lv_at hl 4 rfl) ?_
          obtain ⟨v444, s, hc444, h⟩ := oB_of h
          refine ww_callS (pc := 444) (rest := [.int v441, .int l2, .ref (q.1 32 l1)]) g cs_Mo_sbx (Or.inl kw_275) (ct_Mo_sbx hc444) ⟨by decide, by decide⟩ rfl hl.1 (Nat.le_of_ble_eq_true rfl) d_Mo_high_444 rfl ?_
          refine ww_st (st' := [.int v444, .int v441, .int l2, .ref (q.1 32 l1)]) rfl ?_
          refine ww_iadd (pc := 447) g.1 d_Mo_high_447 ?_
          refine ww_si (pc := 448) g (pt rfl rfl hp0) rfl rfl d_Mo_high_448 h fun s hs h => ?_
          refine ww_goto (pc := 449) (tgt := 625) g.1 d_Mo_high_449 (by decide) ?_
          exact ww_vretH (pc := 625) g h hR d_Mo_high_625
        · exact j_Mo_high_j405 g hR s ls (lv_sub hl [0] rfl) h
  have h := oC_neg c2_365 h
  by_cases c2_452 : l5 = 41
  · have h := oC_pos c2_452 h
    have c := c2_452
    refine ww_tableIn (pc := 2) (tgt := 452) g.1 d_Mo_high_2 (by rw [c]; decide) (by rw [c]; decide) (by rw [c]; rfl) (by decide) ?_
    refine ww_aload_n (pc := 452) g.1 d_Mo_high_452 rfl (lv_at hl 0 rfl) ?_
    refine ww_gR (pc := 453) g (k := 77) cl_Mo (pz rfl (by decide)) (by decide) (Or.inl kw_182) (f := 77) (t := 7) rfl rfl rfl d_Mo_high_453 ?_
    refine ww_iconst (pc := 456) g.1 (v := 0) d_Mo_high_456 (by decide) ?_
    refine ww_pI (pc := 457) g (k := 2) (cl_Va (Or.inl ⟨by decide, rfl⟩)) (pz rfl (by decide)) (by decide) (Or.inl kw_179) rfl (f := 898) rfl rfl rfl rfl d_Mo_high_457 h fun s hs h => ?_
    refine ww_aload_n (pc := 460) g.1 d_Mo_high_460 rfl (lv_at hl 0 rfl) ?_
    refine ww_gR (pc := 461) g (k := 77) cl_Mo (pz rfl (by decide)) (by decide) (Or.inl kw_182) (f := 77) (t := 7) rfl rfl rfl d_Mo_high_461 ?_
    refine ww_aload (pc := 464) g.1 d_Mo_high_464 (lv_at hl 6 rfl) ?_
    refine ww_iload (pc := 466) g.1 d_Mo_high_466 (lv_at hl 7 rfl) ?_
    refine ww_iconst (pc := 468) g.1 (v := 1) d_Mo_high_468 (by decide) ?_
    refine ww_iadd (pc := 469) g.1 d_Mo_high_469 ?_
    obtain ⟨v470, s, hc470, h⟩ := oB_of h
    refine ww_callV (pc := 470) (rest := []) g cv_Va_add_ (Or.inl kw_221) (cl_Va (Or.inl ⟨by decide, rfl⟩)) (pz rfl (by decide)) (ct_Va_add_ (Or.inl ⟨by decide, rfl⟩) hp1 hc470) ⟨by decide, by decide⟩ rfl hl.1 (Nat.le_of_ble_eq_true rfl) d_Mo_high_470 rfl ?_
    refine ww_st (st' := []) rfl ?_
    refine ww_aload_n (pc := 473) g.1 d_Mo_high_473 rfl (lv_at hl 0 rfl) ?_
    refine ww_gR (pc := 474) g (k := 77) cl_Mo (pz rfl (by decide)) (by decide) (Or.inl kw_182) (f := 77) (t := 7) rfl rfl rfl d_Mo_high_474 ?_
    refine ww_aload (pc := 477) g.1 d_Mo_high_477 (lv_at hl 6 rfl) ?_
    refine ww_iload (pc := 479) g.1 d_Mo_high_479 (lv_at hl 7 rfl) ?_
    refine ww_iconst (pc := 481) g.1 (v := 2) d_Mo_high_481 (by decide) ?_
    refine ww_iadd (pc := 482) g.1 d_Mo_high_482 ?_
    obtain ⟨v483, s, hc483, h⟩ := oB_of h
    refine ww_callV (pc := 483) (rest := []) g cv_Va_add_ (Or.inl kw_221) (cl_Va (Or.inl ⟨by decide, rfl⟩)) (pz rfl (by decide)) (ct_Va_add_ (Or.inl ⟨by decide, rfl⟩) hp1 hc483) ⟨by decide, by decide⟩ rfl hl.1 (Nat.le_of_ble_eq_true rfl) d_Mo_high_483 rfl ?_
    refine ww_st (st' := []) rfl ?_
    refine ww_aload_n (pc := 486) g.1 d_Mo_high_486 rfl (lv_at hl 0 rfl) ?_
    refine ww_iconst (pc := 487) g.1 (v := 0) d_Mo_high_487 (by decide) ?_
    refine ww_iload (pc := 488) g.1 d_Mo_high_488 (lv_at hl 4 rfl) ?_
    obtain ⟨v490, s, hc490, h⟩ := oB_of h
    refine ww_callS (pc := 490) (rest := [.int 0, .ref (q.1 0 0)]) g cs_Mo_a (Or.inl kw_280) (ct_Mo_a hc490) ⟨by decide, by decide⟩ rfl hl.1 (Nat.le_of_ble_eq_true rfl) d_Mo_high_490 rfl ?_
    refine ww_st (st' := [.int v490, .int 0, .ref (q.1 0 0)]) rfl ?_
    refine ww_iconst (pc := 493) g.1 (v := 3) d_Mo_high_493 (by decide) ?_
    refine ww_iadd (pc := 494) g.1 d_Mo_high_494 ?_
    refine ww_iload (pc := 495) g.1 d_Mo_high_495 (lv_at hl 4 rfl) ?_
    obtain ⟨v497, s, hc497, h⟩ := oB_of h
    refine ww_callS (pc := 497) (rest := [.int (v490 + 3), .int 0, .ref (q.1 0 0)]) g cs_Mo_c (Or.inl kw_311) (ct_Mo_c hc497) ⟨by decide, by decide⟩ rfl hl.1 (Nat.le_of_ble_eq_true rfl) d_Mo_high_497 rfl ?_
    refine ww_st (st' := [.int v497, .int (v490 + 3), .int 0, .ref (q.1 0 0)]) rfl ?_
    obtain ⟨v500, s, hc500, h⟩ := oB_of h
    refine ww_callV (pc := 500) (rest := []) g cv_Mo_expect (Or.inl kw_415) cl_Mo (pz rfl (by decide)) (ct_Mo_expect hc500) ⟨by decide, by decide⟩ rfl hl.1 (Nat.le_of_ble_eq_true rfl) d_Mo_high_500 rfl ?_
    refine ww_st (st' := []) rfl ?_
    refine ww_aload_n (pc := 503) g.1 d_Mo_high_503 rfl (lv_at hl 0 rfl) ?_
    refine ww_aload (pc := 504) g.1 d_Mo_high_504 (lv_at hl 6 rfl) ?_
    refine ww_gR (pc := 506) g (k := 0) (cl_Va hp1) (vok_p hp1).1 (by rw [(vok_f hp1).1.2.2]; decide) (Or.inl kw_90) (f := (128 * l6r + 0)) (t := l6r + 1) rfl (vok_f hp1).2.1.1 (vok_f hp1).2.1.2 d_Mo_high_506 ?_
    refine ww_iload (pc := 509) g.1 d_Mo_high_509 (lv_at hl 7 rfl) ?_
    refine ww_ab (pc := 511) g (vok_p hp1).2.1 (vok_f hp1).2.2.2.2.1 (vok_n hp1).1 d_Mo_high_511 h fun v511 h => ?_
    refine ww_pI (pc := 512) g (k := 75) cl_Mo (pz rfl (by decide)) (by decide) (Or.inl kw_192) rfl (f := 75) rfl rfl rfl rfl d_Mo_high_512 h fun s hs h => ?_
    refine ww_aload_n (pc := 515) g.1 d_Mo_high_515 rfl (lv_at hl 0 rfl) ?_
    refine ww_aload (pc := 516) g.1 d_Mo_high_516 (lv_at hl 6 rfl) ?_
    refine ww_gR (pc := 518) g (k := 1) (cl_Va hp1) (vok_p hp1).1 (by rw [(vok_f hp1).1.2.2]; decide) (Or.inl kw_93) (f := (128 * l6r + 1)) (t := l6r + 2) rfl (vok_f hp1).2.2.1.1 (vok_f hp1).2.2.1.2 d_Mo_high_518 ?_
    refine ww_iload (pc := 521) g.1 d_Mo_high_521 (lv_at hl 7 rfl) ?_
    refine ww_al (pc := 523) g (vok_p hp1).2.2 (vok_f hp1).2.2.2.2.2 (vok_n hp1).2 d_Mo_high_523 h fun v523 h => ?_
    refine ww_pL (pc := 524) g (k := 76) cl_Mo (pz rfl (by decide)) (by decide) (Or.inl kw_194) rfl (f := 76) rfl rfl rfl rfl d_Mo_high_524 h fun s hs h => ?_
    refine ww_aload_n (pc := 527) g.1 d_Mo_high_527 rfl (lv_at hl 0 rfl) ?_
    refine ww_iconst (pc := 528) g.1 (v := 1) d_Mo_high_528 (by decide) ?_
    refine ww_pI (pc := 529) g (k := 73) cl_Mo (pz rfl (by decide)) (by decide) (Or.inl kw_75) rfl (f := 73) rfl rfl rfl rfl d_Mo_high_529 h fun s hs h => ?_
    refine ww_goto (pc := 532) (tgt := 625) g.1 d_Mo_high_532 (by decide) ?_
    exact ww_vretH (pc := 625) g h hR d_Mo_high_625
  have h := oC_neg c2_452 h
  by_cases c2_535 : l5 = 42
  · have h := oC_pos c2_535 h
    have c := c2_535
    refine ww_tableIn (pc := 2) (tgt := 535) g.1 d_Mo_high_2 (by rw [c]; decide) (by rw [c]; decide) (by rw [c]; rfl) (by decide) ?_
    refine ww_aload (pc := 535) g.1 d_Mo_high_535 (lv_at hl 6 rfl) ?_
    refine ww_gR (pc := 537) g (k := 0) (cl_Va hp1) (vok_p hp1).1 (by rw [(vok_f hp1).1.2.2]; decide) (Or.inl kw_90) (f := (128 * l6r + 0)) (t := l6r + 1) rfl (vok_f hp1).2.1.1 (vok_f hp1).2.1.2 d_Mo_high_537 ?_
    refine ww_iload (pc := 540) g.1 d_Mo_high_540 (lv_at hl 7 rfl) ?_
    refine ww_iconst (pc := 542) g.1 (v := 1) d_Mo_high_542 (by decide) ?_
    refine ww_iadd (pc := 543) g.1 d_Mo_high_543 ?_
    refine ww_ab (pc := 544) g (vok_p hp1).2.1 (vok_f hp1).2.2.2.2.1 (vok_n hp1).1 d_Mo_high_544 h fun v544 h => ?_
    refine ww_if_ne (pc := 545) (tgt := 551) g.1 d_Mo_high_545 (by decide) h (fun c h => ?_) (fun c h => ?_)
    · refine ww_aload (pc := 551) g.1 d_Mo_high_551 (lv_at hl 6 rfl) ?_
      refine ww_iload (pc := 553) g.1 d_Mo_high_553 (lv_at hl 7 rfl) ?_
      refine ww_aload (pc := 555) g.1 d_Mo_high_555 (lv_at hl 6 rfl) ?_
      refine ww_iload (pc := 557) g.1 d_Mo_high_557 (lv_at hl 7 rfl) ?_
      refine ww_iconst (pc := 559) g.1 (v := 1) d_Mo_high_559 (by decide) ?_
      refine ww_iadd (pc := 560) g.1 d_Mo_high_560 ?_
      obtain ⟨v561, s, hc561, h⟩ := oB_of h
      refine ww_callV (pc := 561) (rest := []) g cv_Va_set_ (Or.inl kw_195) (cl_Va hp1) (vok_p hp1).1 (ct_Va_set_ hp1 hp1 hc561) ⟨by decide, by decide⟩ rfl hl.1 (Nat.le_of_ble_eq_true rfl) d_Mo_high_561 rfl ?_
      refine ww_st (st' := []) rfl ?_
      refine ww_aload_n (pc := 564) g.1 d_Mo_high_564 rfl (lv_at hl 1 rfl) ?_
      refine ww_gR (pc := 565) g (k := 13) cl_Th (pt rfl rfl hp0) (by decide) (Or.inl kw_274) (f := 3597) (t := 32) rfl rfl rfl d_Mo_high_565 ?_
      refine ww_iload_n (pc := 568) g.1 d_Mo_high_568 rfl (lv_at hl 2 rfl) ?_
      refine ww_dup2_11 (pc := 569) g.1 d_Mo_high_569 rfl rfl ?_
      refine ww_ai (pc := 570) g (pt rfl rfl hp0) rfl rfl d_Mo_high_570 h fun v570 h => ?_
      refine ww_iload (pc := 571) g.1 d_Mo_high_571 (lv_at hl 4 rfl) ?_
      obtain ⟨v573, s, hc573, h⟩ := oB_of h
      refine ww_callS (pc := 573) (rest := [.int v570, .int l2, .ref (q.1 32 l1)]) g cs_Mo_sbx (Or.inl kw_275) (ct_Mo_sbx hc573) ⟨by decide, by decide⟩ rfl hl.1 (Nat.le_of_ble_eq_true rfl) d_Mo_high_573 rfl ?_
      refine ww_st (st' := [.int v573, .int v570, .int l2, .ref (q.1 32 l1)]) rfl ?_
      refine ww_iadd (pc := 576) g.1 d_Mo_high_576 ?_
      refine ww_si (pc := 577) g (pt rfl rfl hp0) rfl rfl d_Mo_high_577 h fun s hs h => ?_
      refine ww_goto (pc := 578) (tgt := 625) g.1 d_Mo_high_578 (by decide) ?_
      exact ww_vretH (pc := 625) g h hR d_Mo_high_625
    · refine ww_goto (pc := 548) (tgt := 625) g.1 d_Mo_high_548 (by decide) ?_
      exact ww_vretH (pc := 625) g h hR d_Mo_high_625
  have h := oC_neg c2_535 h
  by_cases c2_581 : l5 = 43
  · have h := oC_pos c2_581 h
    have c := c2_581
    refine ww_tableIn (pc := 2) (tgt := 581) g.1 d_Mo_high_2 (by rw [c]; decide) (by rw [c]; decide) (by rw [c]; rfl) (by decide) ?_
    refine ww_aload_n (pc := 581) g.1 d_Mo_high_581 rfl (lv_at hl 0 rfl) ?_
    refine ww_aload_n (pc := 582) g.1 d_Mo_high_582 rfl (lv_at hl 1 rfl) ?_
    refine ww_iload_n (pc := 583) g.1 d_Mo_high_583 rfl (lv_at hl 2 rfl) ?_
    refine ww_iload (pc := 584) g.1 d_Mo_high_584 (lv_at hl 4 rfl) ?_
    refine ww_aload (pc := 586) g.1 d_Mo_high_586 (lv_at hl 6 rfl) ?_
    refine ww_iload (pc := 588) g.1 d_Mo_high_588 (lv_at hl 7 rfl) ?_
    obtain ⟨v590, s, hc590, h⟩ := oB_of h
    refine ww_callV (pc := 590) (rest := []) g cv_Mo_list (Or.inl kw_504) cl_Mo (pz rfl (by decide)) (ct_Mo_list hp0 hp1 hc590) ⟨by decide, by decide⟩ rfl hl.1 (Nat.le_of_ble_eq_true rfl) d_Mo_high_590 rfl ?_
    refine ww_st (st' := []) rfl ?_
    refine ww_goto (pc := 593) (tgt := 625) g.1 d_Mo_high_593 (by decide) ?_
    exact ww_vretH (pc := 625) g h hR d_Mo_high_625
  have h := oC_neg c2_581 h
  by_cases c2_596 : l5 = 44
  · have h := oC_pos c2_596 h
    have c := c2_596
    refine ww_tableIn (pc := 2) (tgt := 596) g.1 d_Mo_high_2 (by rw [c]; decide) (by rw [c]; decide) (by rw [c]; rfl) (by decide) ?_
    refine ww_aload_n (pc := 596) g.1 d_Mo_high_596 rfl (lv_at hl 0 rfl) ?_
    refine ww_aload_n (pc := 597) g.1 d_Mo_high_597 rfl (lv_at hl 1 rfl) ?_
    refine ww_iload_n (pc := 598) g.1 d_Mo_high_598 rfl (lv_at hl 2 rfl) ?_
    refine ww_iload_n (pc := 599) g.1 d_Mo_high_599 rfl (lv_at hl 3 rfl) ?_
    refine ww_iload (pc := 600) g.1 d_Mo_high_600 (lv_at hl 4 rfl) ?_
    refine ww_aload (pc := 602) g.1 d_Mo_high_602 (lv_at hl 6 rfl) ?_
    refine ww_iload (pc := 604) g.1 d_Mo_high_604 (lv_at hl 7 rfl) ?_
    obtain ⟨v606, s, hc606, h⟩ := oB_of h
    refine ww_callV (pc := 606) (rest := []) g cv_Mo_closure_ (Or.inl kw_505) cl_Mo (pz rfl (by decide)) (ct_Mo_closure_ hp0 hp1 hc606) ⟨by decide, by decide⟩ rfl hl.1 (Nat.le_of_ble_eq_true rfl) d_Mo_high_606 rfl ?_
    refine ww_st (st' := []) rfl ?_
    refine ww_goto (pc := 609) (tgt := 625) g.1 d_Mo_high_609 (by decide) ?_
    exact ww_vretH (pc := 625) g h hR d_Mo_high_625
  have h := oC_neg c2_596 h
  have n_36 : ¬ l5.toInt = 36 := lv_neT (fun e => c2_52 e) rfl
  have n_37 : ¬ l5.toInt = 37 := lv_neT (fun e => c2_123 e) rfl
  have n_38 : ¬ l5.toInt = 38 := lv_neT (fun e => c2_198 e) rfl
  have n_39 : ¬ l5.toInt = 39 := lv_neT (fun e => c2_350 e) rfl
  have n_40 : ¬ l5.toInt = 40 := lv_neT (fun e => c2_365 e) rfl
  have n_41 : ¬ l5.toInt = 41 := lv_neT (fun e => c2_452 e) rfl
  have n_42 : ¬ l5.toInt = 42 := lv_neT (fun e => c2_535 e) rfl
  have n_43 : ¬ l5.toInt = 43 := lv_neT (fun e => c2_581 e) rfl
  have n_44 : ¬ l5.toInt = 44 := lv_neT (fun e => c2_596 e) rfl
  by_cases hr : l5.toInt < 36 ∨ 44 < l5.toInt
  · refine ww_tableOut (pc := 2) (tgt := 612) g.1 d_Mo_high_2 hr (by decide) ?_
    refine ww_aload_n (pc := 612) g.1 d_Mo_high_612 rfl (lv_at hl 0 rfl) ?_
    refine ww_aload_n (pc := 613) g.1 d_Mo_high_613 rfl (lv_at hl 1 rfl) ?_
    refine ww_iload_n (pc := 614) g.1 d_Mo_high_614 rfl (lv_at hl 2 rfl) ?_
    refine ww_iload_n (pc := 615) g.1 d_Mo_high_615 rfl (lv_at hl 3 rfl) ?_
    refine ww_iload (pc := 616) g.1 d_Mo_high_616 (lv_at hl 4 rfl) ?_
    refine ww_aload (pc := 618) g.1 d_Mo_high_618 (lv_at hl 6 rfl) ?_
    refine ww_iload (pc := 620) g.1 d_Mo_high_620 (lv_at hl 7 rfl) ?_
    obtain ⟨v622, s, hc622, h⟩ := oB_of h
    refine ww_callV (pc := 622) (rest := []) g cv_Mo_further (Or.inl kw_506) cl_Mo (pz rfl (by decide)) (ct_Mo_further hp0 hp1 hc622) ⟨by decide, by decide⟩ rfl hl.1 (Nat.le_of_ble_eq_true rfl) d_Mo_high_622 rfl ?_
    refine ww_st (st' := []) rfl ?_
    exact ww_vretH (pc := 625) g h hR d_Mo_high_625
  exact absurd hr (by omega)


