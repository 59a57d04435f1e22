abbrev b_Mo_list : ByteArray := prog_14_method_132_code
def y_Mo_list : MethodName := ⟨R_Mo, "list", "(LLuaMachineModel$Thread_;IILLuaMachineModel$Values;I)V"⟩
abbrev w_Mo_list : List Cond := .code y_Mo_list b_Mo_list 11 none :: wA
set_option maxRecDepth 20000 in
theorem k_Mo_list : Cond.code y_Mo_list b_Mo_list 11 none ∈ wA := kinm (show _ ∈ tables_1 from (List.mem_append_right _ (List.mem_append_right _ (List.mem_append_right _ (List.mem_append_right _ (List.mem_append_right _ (List.mem_append_right _ (List.mem_append_right _ (List.mem_append_right _ (List.mem_append_right _ (List.mem_append_right _ (List.mem_append_right _ (List.mem_append_right _ (List.mem_append_left _ (List.mem_of_getElem? (l := tables_1_13) (i := 223) rfl))))))))))))))) rfl
theorem d_Mo_list_0 : decode b_Mo_list 0 = .ok (.iload_n 3, 1) := by decide +kernel
theorem d_Mo_list_1 : decode b_Mo_list 1 = .ok (.invokestatic 482, 3) := by decide +kernel
theorem d_Mo_list_4 : decode b_Mo_list 4 = .ok (.ifCond .le 10, 3) := by decide +kernel
theorem d_Mo_list_7 : decode b_Mo_list 7 = .ok (.iload_n 3, 1) := by decide +kernel
theorem d_Mo_list_8 : decode b_Mo_list 8 = .ok (.invokestatic 482, 3) := by decide +kernel
theorem d_Mo_list_11 : decode b_Mo_list 11 = .ok (.goto 23, 3) := by decide +kernel
theorem d_Mo_list_14 : decode b_Mo_list 14 = .ok (.aload_n 1, 1) := by decide +kernel
theorem d_Mo_list_15 : decode b_Mo_list 15 = .ok (.getfield 773, 3) := by decide +kernel
theorem d_Mo_list_18 : decode b_Mo_list 18 = .ok (.iload_n 2, 1) := by decide +kernel
theorem d_Mo_list_19 : decode b_Mo_list 19 = .ok (.iaload, 1) := by decide +kernel
theorem d_Mo_list_20 : decode b_Mo_list 20 = .ok (.aload_n 1, 1) := by decide +kernel
theorem d_Mo_list_21 : decode b_Mo_list 21 = .ok (.getfield 738, 3) := by decide +kernel
theorem d_Mo_list_24 : decode b_Mo_list 24 = .ok (.iload_n 2, 1) := by decide +kernel
theorem d_Mo_list_25 : decode b_Mo_list 25 = .ok (.iaload, 1) := by decide +kernel
theorem d_Mo_list_26 : decode b_Mo_list 26 = .ok (.iadd, 1) := by decide +kernel
theorem d_Mo_list_27 : decode b_Mo_list 27 = .ok (.iload_n 3, 1) := by decide +kernel
theorem d_Mo_list_28 : decode b_Mo_list 28 = .ok (.invokestatic 495, 3) := by decide +kernel
theorem d_Mo_list_31 : decode b_Mo_list 31 = .ok (.isub, 1) := by decide +kernel
theorem d_Mo_list_32 : decode b_Mo_list 32 = .ok (.iconst 1, 1) := by decide +kernel
theorem d_Mo_list_33 : decode b_Mo_list 33 = .ok (.isub, 1) := by decide +kernel
theorem d_Mo_list_34 : decode b_Mo_list 34 = .ok (.istore 6, 2) := by decide +kernel
theorem d_Mo_list_36 : decode b_Mo_list 36 = .ok (.aload 4, 2) := by decide +kernel
theorem d_Mo_list_38 : decode b_Mo_list 38 = .ok (.getfield 585, 3) := by decide +kernel
theorem d_Mo_list_41 : decode b_Mo_list 41 = .ok (.iload 5, 2) := by decide +kernel
theorem d_Mo_list_43 : decode b_Mo_list 43 = .ok (.baload, 1) := by decide +kernel
theorem d_Mo_list_44 : decode b_Mo_list 44 = .ok (.iconst 5, 1) := by decide +kernel
theorem d_Mo_list_45 : decode b_Mo_list 45 = .ok (.if_icmp .eq 17, 3) := by decide +kernel
theorem d_Mo_list_48 : decode b_Mo_list 48 = .ok (.aload_n 1, 1) := by decide +kernel
theorem d_Mo_list_49 : decode b_Mo_list 49 = .ok (.getfield 738, 3) := by decide +kernel
theorem d_Mo_list_52 : decode b_Mo_list 52 = .ok (.iload_n 2, 1) := by decide +kernel
theorem d_Mo_list_53 : decode b_Mo_list 53 = .ok (.iconst 0, 1) := by decide +kernel
theorem d_Mo_list_54 : decode b_Mo_list 54 = .ok (.iastore, 1) := by decide +kernel
theorem d_Mo_list_55 : decode b_Mo_list 55 = .ok (.aload_n 0, 1) := by decide +kernel
theorem d_Mo_list_56 : decode b_Mo_list 56 = .ok (.iconst 2, 1) := by decide +kernel
theorem d_Mo_list_57 : decode b_Mo_list 57 = .ok (.invokevirtual 517, 3) := by decide +kernel
theorem d_Mo_list_60 : decode b_Mo_list 60 = .ok (.pop, 1) := by decide +kernel
theorem d_Mo_list_61 : decode b_Mo_list 61 = .ok (.return_, 1) := by decide +kernel
theorem d_Mo_list_62 : decode b_Mo_list 62 = .ok (.iconst 1, 1) := by decide +kernel
theorem d_Mo_list_63 : decode b_Mo_list 63 = .ok (.istore 7, 2) := by decide +kernel
theorem d_Mo_list_65 : decode b_Mo_list 65 = .ok (.iload 7, 2) := by decide +kernel
theorem d_Mo_list_67 : decode b_Mo_list 67 = .ok (.iload 6, 2) := by decide +kernel
theorem d_Mo_list_69 : decode b_Mo_list 69 = .ok (.if_icmp .gt 130, 3) := by decide +kernel
theorem d_Mo_list_72 : decode b_Mo_list 72 = .ok (.iload_n 3, 1) := by decide +kernel
theorem d_Mo_list_73 : decode b_Mo_list 73 = .ok (.invokestatic 482, 3) := by decide +kernel
theorem d_Mo_list_76 : decode b_Mo_list 76 = .ok (.ifCond .ne 23, 3) := by decide +kernel
theorem d_Mo_list_79 : decode b_Mo_list 79 = .ok (.iload_n 3, 1) := by decide +kernel
theorem d_Mo_list_80 : decode b_Mo_list 80 = .ok (.invokestatic 495, 3) := by decide +kernel
theorem d_Mo_list_83 : decode b_Mo_list 83 = .ok (.iload 7, 2) := by decide +kernel
theorem d_Mo_list_85 : decode b_Mo_list 85 = .ok (.iadd, 1) := by decide +kernel
theorem d_Mo_list_86 : decode b_Mo_list 86 = .ok (.aload_n 1, 1) := by decide +kernel
theorem d_Mo_list_87 : decode b_Mo_list 87 = .ok (.getfield 773, 3) := by decide +kernel
theorem d_Mo_list_90 : decode b_Mo_list 90 = .ok (.iload_n 2, 1) := by decide +kernel
theorem d_Mo_list_91 : decode b_Mo_list 91 = .ok (.iaload, 1) := by decide +kernel
theorem d_Mo_list_92 : decode b_Mo_list 92 = .ok (.if_icmp .lt 7, 3) := by decide +kernel
theorem d_Mo_list_95 : decode b_Mo_list 95 = .ok (.iconst 1, 1) := by decide +kernel
theorem d_Mo_list_96 : decode b_Mo_list 96 = .ok (.goto 4, 3) := by decide +kernel
theorem d_Mo_list_99 : decode b_Mo_list 99 = .ok (.iconst 0, 1) := by decide +kernel
theorem d_Mo_list_100 : decode b_Mo_list 100 = .ok (.istore 8, 2) := by decide +kernel
theorem d_Mo_list_102 : decode b_Mo_list 102 = .ok (.iload 8, 2) := by decide +kernel
theorem d_Mo_list_104 : decode b_Mo_list 104 = .ok (.ifCond .eq 10, 3) := by decide +kernel
theorem d_Mo_list_107 : decode b_Mo_list 107 = .ok (.aload_n 1, 1) := by decide +kernel
theorem d_Mo_list_108 : decode b_Mo_list 108 = .ok (.getfield 767, 3) := by decide +kernel
theorem d_Mo_list_111 : decode b_Mo_list 111 = .ok (.goto 5, 3) := by decide +kernel
theorem d_Mo_list_114 : decode b_Mo_list 114 = .ok (.aload 4, 2) := by decide +kernel
theorem d_Mo_list_116 : decode b_Mo_list 116 = .ok (.astore 9, 2) := by decide +kernel
theorem d_Mo_list_118 : decode b_Mo_list 118 = .ok (.iload 8, 2) := by decide +kernel
theorem d_Mo_list_120 : decode b_Mo_list 120 = .ok (.ifCond .eq 20, 3) := by decide +kernel
theorem d_Mo_list_123 : decode b_Mo_list 123 = .ok (.iload_n 3, 1) := by decide +kernel
theorem d_Mo_list_124 : decode b_Mo_list 124 = .ok (.invokestatic 495, 3) := by decide +kernel
theorem d_Mo_list_127 : decode b_Mo_list 127 = .ok (.iload 7, 2) := by decide +kernel
theorem d_Mo_list_129 : decode b_Mo_list 129 = .ok (.iadd, 1) := by decide +kernel
theorem d_Mo_list_130 : decode b_Mo_list 130 = .ok (.aload_n 1, 1) := by decide +kernel
theorem d_Mo_list_131 : decode b_Mo_list 131 = .ok (.getfield 773, 3) := by decide +kernel
theorem d_Mo_list_134 : decode b_Mo_list 134 = .ok (.iload_n 2, 1) := by decide +kernel
theorem d_Mo_list_135 : decode b_Mo_list 135 = .ok (.iaload, 1) := by decide +kernel
theorem d_Mo_list_136 : decode b_Mo_list 136 = .ok (.isub, 1) := by decide +kernel
theorem d_Mo_list_137 : decode b_Mo_list 137 = .ok (.goto 8, 3) := by decide +kernel
theorem d_Mo_list_140 : decode b_Mo_list 140 = .ok (.iload 5, 2) := by decide +kernel
theorem d_Mo_list_142 : decode b_Mo_list 142 = .ok (.iload 7, 2) := by decide +kernel
theorem d_Mo_list_144 : decode b_Mo_list 144 = .ok (.iadd, 1) := by decide +kernel
theorem d_Mo_list_145 : decode b_Mo_list 145 = .ok (.istore 10, 2) := by decide +kernel
theorem d_Mo_list_147 : decode b_Mo_list 147 = .ok (.aload_n 0, 1) := by decide +kernel
theorem d_Mo_list_148 : decode b_Mo_list 148 = .ok (.aload 4, 2) := by decide +kernel
theorem d_Mo_list_150 : decode b_Mo_list 150 = .ok (.getfield 588, 3) := by decide +kernel
theorem d_Mo_list_153 : decode b_Mo_list 153 = .ok (.iload 5, 2) := by decide +kernel
theorem d_Mo_list_155 : decode b_Mo_list 155 = .ok (.laload, 1) := by decide +kernel
theorem d_Mo_list_156 : decode b_Mo_list 156 = .ok (.l2i, 1) := by decide +kernel
theorem d_Mo_list_157 : decode b_Mo_list 157 = .ok (.iconst 3, 1) := by decide +kernel
theorem d_Mo_list_158 : decode b_Mo_list 158 = .ok (.iload_n 3, 1) := by decide +kernel
theorem d_Mo_list_159 : decode b_Mo_list 159 = .ok (.invokestatic 479, 3) := by decide +kernel
theorem d_Mo_list_162 : decode b_Mo_list 162 = .ok (.iload 7, 2) := by decide +kernel
theorem d_Mo_list_164 : decode b_Mo_list 164 = .ok (.iadd, 1) := by decide +kernel
theorem d_Mo_list_165 : decode b_Mo_list 165 = .ok (.iconst 1, 1) := by decide +kernel
theorem d_Mo_list_166 : decode b_Mo_list 166 = .ok (.isub, 1) := by decide +kernel
theorem d_Mo_list_167 : decode b_Mo_list 167 = .ok (.i2l, 1) := by decide +kernel
theorem d_Mo_list_168 : decode b_Mo_list 168 = .ok (.aload 9, 2) := by decide +kernel
theorem d_Mo_list_170 : decode b_Mo_list 170 = .ok (.getfield 585, 3) := by decide +kernel
theorem d_Mo_list_173 : decode b_Mo_list 173 = .ok (.iload 10, 2) := by decide +kernel
theorem d_Mo_list_175 : decode b_Mo_list 175 = .ok (.baload, 1) := by decide +kernel
theorem d_Mo_list_176 : decode b_Mo_list 176 = .ok (.aload 9, 2) := by decide +kernel
theorem d_Mo_list_178 : decode b_Mo_list 178 = .ok (.getfield 588, 3) := by decide +kernel
theorem d_Mo_list_181 : decode b_Mo_list 181 = .ok (.iload 10, 2) := by decide +kernel
theorem d_Mo_list_183 : decode b_Mo_list 183 = .ok (.laload, 1) := by decide +kernel
theorem d_Mo_list_184 : decode b_Mo_list 184 = .ok (.invokevirtual 684, 3) := by decide +kernel
theorem d_Mo_list_187 : decode b_Mo_list 187 = .ok (.ifCond .ne 6, 3) := by decide +kernel
theorem d_Mo_list_190 : decode b_Mo_list 190 = .ok (.goto 9, 3) := by decide +kernel
theorem d_Mo_list_193 : decode b_Mo_list 193 = .ok (.iinc 7 1, 3) := by decide +kernel
theorem d_Mo_list_196 : decode b_Mo_list 196 = .ok (.goto (-131), 3) := by decide +kernel
theorem d_Mo_list_199 : decode b_Mo_list 199 = .ok (.aload_n 1, 1) := by decide +kernel
theorem d_Mo_list_200 : decode b_Mo_list 200 = .ok (.getfield 738, 3) := by decide +kernel
theorem d_Mo_list_203 : decode b_Mo_list 203 = .ok (.iload_n 2, 1) := by decide +kernel
theorem d_Mo_list_204 : decode b_Mo_list 204 = .ok (.iconst 0, 1) := by decide +kernel
theorem d_Mo_list_205 : decode b_Mo_list 205 = .ok (.iastore, 1) := by decide +kernel
theorem d_Mo_list_206 : decode b_Mo_list 206 = .ok (.return_, 1) := by decide +kernel
theorem kw_483 : Cond.instanceMethod y_Mo_list ∈ wA := kinm (show _ ∈ tables_1 from (List.mem_append_right _ (List.mem_append_right _ (List.mem_append_right _ (List.mem_append_right _ (List.mem_append_right _ (List.mem_append_right _ (List.mem_append_right _ (List.mem_append_right _ (List.mem_append_right _ (List.mem_append_right _ (List.mem_append_right _ (List.mem_append_right _ (List.mem_append_left _ (List.mem_of_getElem? (l := tables_1_13) (i := 222) (by decide +kernel)))))))))))))))) (by decide +kernel)
theorem kw_484 : Cond.selects R_Mo y_Mo_list y_Mo_list ∈ wA := kinp 222 (by decide +kernel) (by decide +kernel)
theorem cv_Mo_list : CV y_Mo_list b_Mo_list 11 none 5 := ⟨kw_483, kw_484, kw_17, k_Mo_list, by decide +kernel⟩
theorem j_Mo_list_j145 {X : Cx} {q : PL} (g : Gd X y_Mo_list b_Mo_list 11 none 8 186 R_Mo) {o : ((Int32 × Int32 × Int32 × Nat × Int32 × Int32 × Int32 × Int32) ⊕ ((Int32 × Int32) ⊕ (Int32 × Int32))) × S1} (hR : (Sum.elim (fun y : Int32 × Int32 × Int32 × Nat × Int32 × Int32 × Int32 × Int32 => ∀ ls : Array Slot, (0 ≤ y.1 ∧ y.1 < 33) → (VOK y.2.2.2.1 y.2.2.2.2.1) → lv_has ls 11 [(0, .ref (q.1 0 0)), (1, .ref (q.1 28 y.1)), (2, .int y.2.1), (3, .int y.2.2.1), (4, .ref (q.1 y.2.2.2.1 y.2.2.2.2.1)), (5, .int y.2.2.2.2.2.1), (6, .int y.2.2.2.2.2.2.1), (7, .int y.2.2.2.2.2.2.2)] → WW X q o.2 65 ls []) (Sum.elim (fun y : Int32 × Int32 => ∀ ls : Array Slot, (0 ≤ y.1 ∧ y.1 < 33) → lv_has ls 11 [(1, .ref (q.1 28 y.1)), (2, .int y.2)] → WW X q o.2 190 ls []) (fun y : Int32 × Int32 => ∀ ls : Array Slot, (0 ≤ y.1 ∧ y.1 < 33) → lv_has ls 11 [(1, .ref (q.1 28 y.1)), (2, .int y.2)] → WW X q o.2 199 ls [])) o.1)) (l1 : Int32) (l2 : Int32) (l3 : Int32) (l4r : Nat) (l4 : Int32) (l5 : Int32) (l6 : Int32) (l7 : Int32) (l9r : Nat) (l9 : Int32) (k0 : Int32) (s : S1) (hp0 : 0 ≤ l1 ∧ l1 < 33) (hp1 : VOK l4r l4) (hp2 : VOK l9r l9) (ls : Array Slot) (hl : lv_has ls 11 [(0, .ref (q.1 0 0)), (1, .ref (q.1 28 l1)), (2, .int l2), (3, .int l3), (4, .ref (q.1 l4r l4)), (5, .int l5), (6, .int l6), (7, .int l7), (9, .ref (q.1 l9r l9))]) (h : M_Mo_list_j145 l1 l2 l3 l4r l4 l5 l6 l7 l9r l9 k0 s = some o) : WW X q s 145 ls [.int k0] := by
  unfold M_Mo_list_j145 at h
  refine ww_istore (pc := 145) (i := 10) g.1 (lv' := [(10, .int k0), (0, .ref (q.1 0 0)), (1, .ref (q.1 28 l1)), (2, .int l2), (3, .int l3), (4, .ref (q.1 l4r l4)), (5, .int l5), (6, .int l6), (7, .int l7), (9, .ref (q.1 l9r l9))]) d_Mo_list_145 hl (by decide) rfl fun ls hl => ?_
  refine ww_aload_n (pc := 147) g.1 d_Mo_list_147 rfl (lv_at hl 1 rfl) ?_
  refine ww_aload (pc := 148) g.1 d_Mo_list_148 (lv_at hl 5 rfl) ?_
  refine ww_gR (pc := 150) g (k := 1) (cl_Va hp1) (vok_p hp1).1 (by rw [(vok_f hp1).1.2.2]; decide) (Or.inl kw_93) (f := (128 * l4r + 1)) (t := l4r + 2) rfl (vok_f hp1).2.2.1.1 (vok_f hp1).2.2.1.2 d_Mo_list_150 ?_
  refine ww_iload (pc := 153) g.1 d_Mo_list_153 (lv_at hl 6 rfl) ?_
  refine ww_al (pc := 155) g (vok_p hp1).2.2 (vok_f hp1).2.2.2.2.2 (vok_n hp1).2 d_Mo_list_155 h fun v155 h => ?_
  refine ww_l2i (pc := 156) g.1 (v := v155.toInt32) d_Mo_list_156 rfl ?_
  refine ww_iconst (pc := 157) g.1 (v := 3) d_Mo_list_157 (by decide) ?_
  refine ww_iload_n (pc := 158) g.1 d_Mo_list_158 rfl (lv_at hl 4 rfl) ?_
  obtain ⟨v159, s, hc159, h⟩ := oB_of h
  refine ww_callS (pc := 159) (rest := [.int 3, .int v155.toInt32, .ref (q.1 0 0)]) g cs_Mo_c (Or.inl kw_311) (ct_Mo_c hc159) ⟨by decide, by decide⟩ rfl hl.1 (Nat.le_of_ble_eq_true rfl) d_Mo_list_159 rfl ?_
  refine ww_st (st' := [.int v159, .int 3, .int v155.toInt32, .ref (q.1 0 0)]) rfl ?_
  refine ww_iload (pc := 162) g.1 d_Mo_list_162 (lv_at hl 8 rfl) ?_
  refine ww_iadd (pc := 164) g.1 d_Mo_list_164 ?_
  refine ww_iconst (pc := 165) g.1 (v := 1) d_Mo_list_165 (by decide) ?_
  refine ww_isub (pc := 166) g.1 d_Mo_list_166 ?_
  refine ww_i2l (pc := 167) g.1 (v := ((v159 + l7) - 1).toInt64) d_Mo_list_167 rfl ?_
  refine ww_aload (pc := 168) g.1 d_Mo_list_168 (lv_at hl 9 rfl) ?_
  refine ww_gR (pc := 170) g (k := 0) (cl_Va hp2) (vok_p hp2).1 (by rw [(vok_f hp2).1.2.2]; decide) (Or.inl kw_90) (f := (128 * l9r + 0)) (t := l9r + 1) rfl (vok_f hp2).2.1.1 (vok_f hp2).2.1.2 d_Mo_list_170 ?_
  refine ww_iload (pc := 173) g.1 d_Mo_list_173 (lv_at hl 0 rfl) ?_
  refine ww_ab (pc := 175) g (vok_p hp2).2.1 (vok_f hp2).2.2.2.2.1 (vok_n hp2).1 d_Mo_list_175 h fun v175 h => ?_
  refine ww_aload (pc := 176) g.1 d_Mo_list_176 (lv_at hl 9 rfl) ?_
  refine ww_gR (pc := 178) g (k := 1) (cl_Va hp2) (vok_p hp2).1 (by rw [(vok_f hp2).1.2.2]; decide) (Or.inl kw_93) (f := (128 * l9r + 1)) (t := l9r + 2) rfl (vok_f hp2).2.2.1.1 (vok_f hp2).2.2.1.2 d_Mo_list_178 ?_
  refine ww_iload (pc := 181) g.1 d_Mo_list_181 (lv_at hl 0 rfl) ?_
  refine ww_al (pc := 183) g (vok_p hp2).2.2 (vok_f hp2).2.2.2.2.2 (vok_n hp2).2 d_Mo_list_183 h fun v183 h => ?_
  obtain ⟨v184, s, hc184, h⟩ := oB_of h
  refine ww_callV (pc := 184) (rest := []) g cv_Mo_put (Or.inl kw_474) cl_Mo (pz rfl (by decide)) (ct_Mo_put hc184) ⟨by decide, by decide⟩ rfl hl.1 (Nat.le_of_ble_eq_true rfl) d_Mo_list_184 rfl ?_
  refine ww_st (st' := [.int v184]) rfl ?_
  refine ww_if_ne (pc := 187) (tgt := 193) g.1 d_Mo_list_187 (by decide) h (fun c h => ?_) (fun c h => ?_)
  · refine ww_iinc (pc := 193) g.1 (v := l7 + 1) (lv' := [(7, .int (l7 + 1)), (10, .int k0), (0, .ref (q.1 0 0)), (1, .ref (q.1 28 l1)), (2, .int l2), (3, .int l3), (4, .ref (q.1 l4r l4)), (5, .int l5), (6, .int l6), (9, .ref (q.1 l9r l9))]) d_Mo_list_193 hl (k := 8) rfl (by rfl) (by decide) rfl fun ls hl => ?_
    refine ww_goto (pc := 196) (tgt := 65) g.1 d_Mo_list_196 (by decide) ?_
    rw [oR_eq h] at hR
    exact hR ls hp0 hp1 (lv_sub hl [2, 3, 4, 5, 6, 7, 8, 0] rfl)
  · rw [oR_eq h] at hR
    exact hR ls hp0 (lv_sub hl [2, 3] rfl)

theorem j_Mo_list_j116 {X : Cx} {q : PL} (g : Gd X y_Mo_list b_Mo_list 11 none 8 186 R_Mo) {o : ((Int32 × Int32 × Int32 × Nat × Int32 × Int32 × Int32 × Int32) ⊕ ((Int32 × Int32) ⊕ (Int32 × Int32))) × S1} (hR : (Sum.elim (fun y : Int32 × Int32 × Int32 × Nat × Int32 × Int32 × Int32 × Int32 => ∀ ls : Array Slot, (0 ≤ y.1 ∧ y.1 < 33) → (VOK y.2.2.2.1 y.2.2.2.2.1) → lv_has ls 11 [(0, .ref (q.1 0 0)), (1, .ref (q.1 28 y.1)), (2, .int y.2.1), (3, .int y.2.2.1), (4, .ref (q.1 y.2.2.2.1 y.2.2.2.2.1)), (5, .int y.2.2.2.2.2.1), (6, .int y.2.2.2.2.2.2.1), (7, .int y.2.2.2.2.2.2.2)] → WW X q o.2 65 ls []) (Sum.elim (fun y : Int32 × Int32 => ∀ ls : Array Slot, (0 ≤ y.1 ∧ y.1 < 33) → lv_has ls 11 [(1, .ref (q.1 28 y.1)), (2, .int y.2)] → WW X q o.2 190 ls []) (fun y : Int32 × Int32 => ∀ ls : Array Slot, (0 ≤ y.1 ∧ y.1 < 33) → lv_has ls 11 [(1, .ref (q.1 28 y.1)), (2, .int y.2)] → WW X q o.2 199 ls [])) o.1)) (l1 : Int32) (l2 : Int32) (l3 : Int32) (l4r : Nat) (l4 : Int32) (l5 : Int32) (l6 : Int32) (l7 : Int32) (l8 : Int32) (k0r : Nat) (k0 : Int32) (s : S1) (hp0 : 0 ≤ l1 ∧ l1 < 33) (hp1 : VOK l4r l4) (hp2 : VOK k0r k0) (ls : Array Slot) (hl : lv_has ls 11 [(0, .ref (q.1 0 0)), (1, .ref (q.1 28 l1)), (2, .int l2), (3, .int l3), (4, .ref (q.1 l4r l4)), (5, .int l5), (6, .int l6), (7, .int l7), (8, .int l8)]) (h : M_Mo_list_j116 l1 l2 l3 l4r l4 l5 l6 l7 l8 k0r k0 s = some o) : WW X q s 116 ls [.ref (q.1 k0r k0)] := by
  unfold M_Mo_list_j116 at h
  refine ww_astore (pc := 116) (i := 9) g.1 (lv' := [(9, .ref (q.1 k0r k0)), (0, .ref (q.1 0 0)), (1, .ref (q.1 28 l1)), (2, .int l2), (3, .int l3), (4, .ref (q.1 l4r l4)), (5, .int l5), (6, .int l6), (7, .int l7), (8, .int l8)]) d_Mo_list_116 hl (by decide) rfl fun ls hl => ?_
  refine ww_iload (pc := 118) g.1 d_Mo_list_118 (lv_at hl 9 rfl) ?_
  refine ww_if_eq (pc := 120) (tgt := 140) g.1 d_Mo_list_120 (by decide) h (fun c h => ?_) (fun c h => ?_)
  · refine ww_iload (pc := 140) g.1 d_Mo_list_140 (lv_at hl 6 rfl) ?_
    refine ww_iload (pc := 142) g.1 d_Mo_list_142 (lv_at hl 8 rfl) ?_
    refine ww_iadd (pc := 144) g.1 d_Mo_list_144 ?_
    exact j_Mo_list_j145 g hR l1 l2 l3 l4r l4 l5 l6 l7 k0r k0 (l5 + l7) s hp0 hp1 hp2 ls (lv_sub hl [1, 2, 3, 4, 5, 6, 7, 8, 0] rfl) h
  · refine ww_iload_n (pc := 123) g.1 d_Mo_list_123 rfl (lv_at hl 4 rfl) ?_
    obtain ⟨v124, s, hc124, h⟩ := oB_of h
    refine ww_callS (pc := 124) (rest := []) g cs_Mo_a (Or.inl kw_280) (ct_Mo_a hc124) ⟨by decide, by decide⟩ rfl hl.1 (Nat.le_of_ble_eq_true rfl) d_Mo_list_124 rfl ?_
    refine ww_st (st' := [.int v124]) rfl ?_
    refine ww_iload (pc := 127) g.1 d_Mo_list_127 (lv_at hl 8 rfl) ?_
    refine ww_iadd (pc := 129) g.1 d_Mo_list_129 ?_
    refine ww_aload_n (pc := 130) g.1 d_Mo_list_130 rfl (lv_at hl 2 rfl) ?_
    refine ww_gR (pc := 131) g (k := 16) cl_Th (pt rfl rfl hp0) (by decide) (Or.inl kw_270) (f := 3600) (t := 35) rfl rfl rfl d_Mo_list_131 ?_
    refine ww_iload_n (pc := 134) g.1 d_Mo_list_134 rfl (lv_at hl 3 rfl) ?_
    refine ww_ai (pc := 135) g (pt rfl rfl hp0) rfl rfl d_Mo_list_135 h fun v135 h => ?_
    refine ww_isub (pc := 136) g.1 d_Mo_list_136 ?_
    refine ww_goto (pc := 137) (tgt := 145) g.1 d_Mo_list_137 (by decide) ?_
    exact j_Mo_list_j145 g hR l1 l2 l3 l4r l4 l5 l6 l7 k0r k0 ((v124 + l7) - v135) s hp0 hp1 hp2 ls (lv_sub hl [1, 2, 3, 4, 5, 6, 7, 8, 0] rfl) h

theorem j_Mo_list_j100 {X : Cx} {q : PL} (g : Gd X y_Mo_list b_Mo_list 11 none 8 186 R_Mo) {o : ((Int32 × Int32 × Int32 × Nat × Int32 × Int32 × Int32 × Int32) ⊕ ((Int32 × Int32) ⊕ (Int32 × Int32))) × S1} (hR : (Sum.elim (fun y : Int32 × Int32 × Int32 × Nat × Int32 × Int32 × Int32 × Int32 => ∀ ls : Array Slot, (0 ≤ y.1 ∧ y.1 < 33) → (VOK y.2.2.2.1 y.2.2.2.2.1) → lv_has ls 11 [(0, .ref (q.1 0 0)), (1, .ref (q.1 28 y.1)), (2, .int y.2.1), (3, .int y.2.2.1), (4, .ref (q.1 y.2.2.2.1 y.2.2.2.2.1)), (5, .int y.2.2.2.2.2.1), (6, .int y.2.2.2.2.2.2.1), (7, .int y.2.2.2.2.2.2.2)] → WW X q o.2 65 ls []) (Sum.elim (fun y : Int32 × Int32 => ∀ ls : Array Slot, (0 ≤ y.1 ∧ y.1 < 33) → lv_has ls 11 [(1, .ref (q.1 28 y.1)), (2, .int y.2)] → WW X q o.2 190 ls []) (fun y : Int32 × Int32 => ∀ ls : Array Slot, (0 ≤ y.1 ∧ y.1 < 33) → lv_has ls 11 [(1, .ref (q.1 28 y.1)), (2, .int y.2)] → WW X q o.2 199 ls [])) o.1)) (l1 : Int32) (l2 : Int32) (l3 : Int32) (l4r : Nat) (l4 : Int32) (l5 : Int32) (l6 : Int32) (l7 : Int32) (k0 : Int32) (s : S1) (hp0 : 0 ≤ l1 ∧ l1 < 33) (hp1 : VOK l4r l4) (ls : Array Slot) (hl : lv_has ls 11 [(0, .ref (q.1 0 0)), (1, .ref (q.1 28 l1)), (2, .int l2), (3, .int l3), (4, .ref (q.1 l4r l4)), (5, .int l5), (6, .int l6), (7, .int l7)]) (h : M_Mo_list_j100 l1 l2 l3 l4r l4 l5 l6 l7 k0 s = some o) : WW X q s 100 ls [.int k0] := by
  unfold M_Mo_list_j100 at h
  refine ww_istore (pc := 100) (i := 8) g.1 (lv' := [(8, .int k0), (0, .ref (q.1 0 0)), (1, .ref (q.1 28 l1)), (2, .int l2), (3, .int l3), (4, .ref (q.1 l4r l4)), (5, .int l5), (6, .int l6), (7, .int l7)]) d_Mo_list_100 hl (by decide) rfl fun ls hl => ?_
  refine ww_iload (pc := 102) g.1 d_Mo_list_102 (lv_at hl 0 rfl) ?_
  refine ww_if_eq (pc := 104) (tgt := 114) g.1 d_Mo_list_104 (by decide) h (fun c h => ?_) (fun c h => ?_)
  · refine ww_aload (pc := 114) g.1 d_Mo_list_114 (lv_at hl 5 rfl) ?_
    exact j_Mo_list_j116 g hR l1 l2 l3 l4r l4 l5 l6 l7 k0 l4r l4 s hp0 hp1 hp1 ls (lv_sub hl [1, 2, 3, 4, 5, 6, 7, 8, 0] rfl) h
  · refine ww_aload_n (pc := 107) g.1 d_Mo_list_107 rfl (lv_at hl 2 rfl) ?_
    refine ww_gR (pc := 108) g (k := 8) cl_Th (pt rfl rfl hp0) (by decide) (Or.inl kw_271) (f := 3592) (t := 22) rfl rfl rfl d_Mo_list_108 ?_
    refine ww_goto (pc := 111) (tgt := 116) g.1 d_Mo_list_111 (by decide) ?_
    exact j_Mo_list_j116 g hR l1 l2 l3 l4r l4 l5 l6 l7 k0 22 l1 s hp0 hp1 (Or.inr ⟨by decide, hp0⟩) ls (lv_sub hl [1, 2, 3, 4, 5, 6, 7, 8, 0] rfl) h

theorem j_Mo_list_j99 {X : Cx} {q : PL} (g : Gd X y_Mo_list b_Mo_list 11 none 8 186 R_Mo) {o : ((Int32 × Int32 × Int32 × Nat × Int32 × Int32 × Int32 × Int32) ⊕ ((Int32 × Int32) ⊕ (Int32 × Int32))) × S1} (hR : (Sum.elim (fun y : Int32 × Int32 × Int32 × Nat × Int32 × Int32 × Int32 × Int32 => ∀ ls : Array Slot, (0 ≤ y.1 ∧ y.1 < 33) → (VOK y.2.2.2.1 y.2.2.2.2.1) → lv_has ls 11 [(0, .ref (q.1 0 0)), (1, .ref (q.1 28 y.1)), (2, .int y.2.1), (3, .int y.2.2.1), (4, .ref (q.1 y.2.2.2.1 y.2.2.2.2.1)), (5, .int y.2.2.2.2.2.1), (6, .int y.2.2.2.2.2.2.1), (7, .int y.2.2.2.2.2.2.2)] → WW X q o.2 65 ls []) (Sum.elim (fun y : Int32 × Int32 => ∀ ls : Array Slot, (0 ≤ y.1 ∧ y.1 < 33) → lv_has ls 11 [(1, .ref (q.1 28 y.1)), (2, .int y.2)] → WW X q o.2 190 ls []) (fun y : Int32 × Int32 => ∀ ls : Array Slot, (0 ≤ y.1 ∧ y.1 < 33) → lv_has ls 11 [(1, .ref (q.1 28 y.1)), (2, .int y.2)] → WW X q o.2 199 ls [])) o.1)) (l1 : Int32) (l2 : Int32) (l3 : Int32) (l4r : Nat) (l4 : Int32) (l5 : Int32) (l6 : Int32) (l7 : Int32) (s : S1) (hp0 : 0 ≤ l1 ∧ l1 < 33) (hp1 : VOK l4r l4) (ls : Array Slot) (hl : lv_has ls 11 [(0, .ref (q.1 0 0)), (1, .ref (q.1 28 l1)), (2, .int l2), (3, .int l3), (4, .ref (q.1 l4r l4)), (5, .int l5), (6, .int l6), (7, .int l7)]) (h : M_Mo_list_j99 l1 l2 l3 l4r l4 l5 l6 l7 s = some o) : WW X q s 99 ls [] := by
  unfold M_Mo_list_j99 at h
  refine ww_iconst (pc := 99) g.1 (v := 0) d_Mo_list_99 (by decide) ?_
  exact j_Mo_list_j100 g hR l1 l2 l3 l4r l4 l5 l6 l7 0 s hp0 hp1 ls (lv_sub hl [0, 1, 2, 3, 4, 5, 6, 7] rfl) h

theorem lp_Mo_list_L65 {X : Cx} {q : PL} (g : Gd X y_Mo_list b_Mo_list 11 none 8 186 R_Mo) (x : Int32 × Int32 × Int32 × Nat × Int32 × Int32 × Int32 × Int32) (s : S1) (o : ((Int32 × Int32 × Int32 × Nat × Int32 × Int32 × Int32 × Int32) ⊕ ((Int32 × Int32) ⊕ (Int32 × Int32))) × S1) (h : M_Mo_list_L65 x s = some o) (hR : (Sum.elim (fun y : Int32 × Int32 × Int32 × Nat × Int32 × Int32 × Int32 × Int32 => ∀ ls : Array Slot, (0 ≤ y.1 ∧ y.1 < 33) → (VOK y.2.2.2.1 y.2.2.2.2.1) → lv_has ls 11 [(0, .ref (q.1 0 0)), (1, .ref (q.1 28 y.1)), (2, .int y.2.1), (3, .int y.2.2.1), (4, .ref (q.1 y.2.2.2.1 y.2.2.2.2.1)), (5, .int y.2.2.2.2.2.1), (6, .int y.2.2.2.2.2.2.1), (7, .int y.2.2.2.2.2.2.2)] → WW X q o.2 65 ls []) (Sum.elim (fun y : Int32 × Int32 => ∀ ls : Array Slot, (0 ≤ y.1 ∧ y.1 < 33) → lv_has ls 11 [(1, .ref (q.1 28 y.1)), (2, .int y.2)] → WW X q o.2 190 ls []) (fun y : Int32 × Int32 => ∀ ls : Array Slot, (0 ≤ y.1 ∧ y.1 < 33) → lv_has ls 11 [(1, .ref (q.1 28 y.1)), (2, .int y.2)] → WW X q o.2 199 ls [])) o.1)) : ∀ ls : Array Slot, (0 ≤ x.1 ∧ x.1 < 33) → (VOK x.2.2.2.1 x.2.2.2.2.1) → lv_has ls 11 [(0, .ref (q.1 0 0)), (1, .ref (q.1 28 x.1)), (2, .int x.2.1), (3, .int x.2.2.1), (4, .ref (q.1 x.2.2.2.1 x.2.2.2.2.1)), (5, .int x.2.2.2.2.2.1), (6, .int x.2.2.2.2.2.2.1), (7, .int x.2.2.2.2.2.2.2)] → WW X q s 65 ls [] := by
  intro ls hp0 hp1 hl
  unfold M_Mo_list_L65 at h
  refine ww_iload (pc := 65) g.1 d_Mo_list_65 (lv_at hl 7 rfl) ?_
  refine ww_iload (pc := 67) g.1 d_Mo_list_67 (lv_at hl 6 rfl) ?_
  refine ww_icmp_gt (pc := 69) (tgt := 199) g.1 d_Mo_list_69 (by decide) h (fun c h => ?_) (fun c h => ?_)
  · rw [oR_eq h] at hR
    exact hR ls hp0 (lv_sub hl [1, 2] rfl)
  · refine ww_iload_n (pc := 72) g.1 d_Mo_list_72 rfl (lv_at hl 3 rfl) ?_
    obtain ⟨v73, s, hc73, h⟩ := oB_of h
    refine ww_callS (pc := 73) (rest := []) g cs_Mo_b (Or.inl kw_54) (ct_Mo_b hc73) ⟨by decide, by decide⟩ rfl hl.1 (Nat.le_of_ble_eq_true rfl) d_Mo_list_73 rfl ?_
    refine ww_st (st' := [.int v73]) rfl ?_
    refine ww_if_ne (pc := 76) (tgt := 99) g.1 d_Mo_list_76 (by decide) h (fun c h => ?_) (fun c h => ?_)
    · exact j_Mo_list_j99 g hR x.1 x.2.1 x.2.2.1 x.2.2.2.1 x.2.2.2.2.1 x.2.2.2.2.2.1 x.2.2.2.2.2.2.1 x.2.2.2.2.2.2.2 s hp0 hp1 ls (lv_sub hl [0, 1, 2, 3, 4, 5, 6, 7] rfl) h
    · refine ww_iload_n (pc := 79) g.1 d_Mo_list_79 rfl (lv_at hl 3 rfl) ?_
      obtain ⟨v80, s, hc80, h⟩ := oB_of h
      refine ww_callS (pc := 80) (rest := []) g cs_Mo_a (Or.inl kw_280) (ct_Mo_a hc80) ⟨by decide, by decide⟩ rfl hl.1 (Nat.le_of_ble_eq_true rfl) d_Mo_list_80 rfl ?_
      refine ww_st (st' := [.int v80]) rfl ?_
      refine ww_iload (pc := 83) g.1 d_Mo_list_83 (lv_at hl 7 rfl) ?_
      refine ww_iadd (pc := 85) g.1 d_Mo_list_85 ?_
      refine ww_aload_n (pc := 86) g.1 d_Mo_list_86 rfl (lv_at hl 1 rfl) ?_
      refine ww_gR (pc := 87) g (k := 16) cl_Th (pt rfl rfl hp0) (by decide) (Or.inl kw_270) (f := 3600) (t := 35) rfl rfl rfl d_Mo_list_87 ?_
      refine ww_iload_n (pc := 90) g.1 d_Mo_list_90 rfl (lv_at hl 2 rfl) ?_
      refine ww_ai (pc := 91) g (pt rfl rfl hp0) rfl rfl d_Mo_list_91 h fun v91 h => ?_
      refine ww_icmp_lt (pc := 92) (tgt := 99) g.1 d_Mo_list_92 (by decide) h (fun c h => ?_) (fun c h => ?_)
      · exact j_Mo_list_j99 g hR x.1 x.2.1 x.2.2.1 x.2.2.2.1 x.2.2.2.2.1 x.2.2.2.2.2.1 x.2.2.2.2.2.2.1 x.2.2.2.2.2.2.2 s hp0 hp1 ls (lv_sub hl [0, 1, 2, 3, 4, 5, 6, 7] rfl) h
      · refine ww_iconst (pc := 95) g.1 (v := 1) d_Mo_list_95 (by decide) ?_
        refine ww_goto (pc := 96) (tgt := 100) g.1 d_Mo_list_96 (by decide) ?_
        exact j_Mo_list_j100 g hR x.1 x.2.1 x.2.2.1 x.2.2.2.1 x.2.2.2.2.1 x.2.2.2.2.2.1 x.2.2.2.2.2.2.1 x.2.2.2.2.2.2.2 1 s hp0 hp1 ls (lv_sub hl [0, 1, 2, 3, 4, 5, 6, 7] rfl) h

theorem j_Mo_list_j199 {X : Cx} {q : PL} (g : Gd X y_Mo_list b_Mo_list 11 none 8 186 R_Mo) {o : (Unit) × S1} (hR : Rt X q o.2 none) (l1 : Int32) (l2 : Int32) (s : S1) (hp0 : 0 ≤ l1 ∧ l1 < 33) (ls : Array Slot) (hl : lv_has ls 11 [(1, .ref (q.1 28 l1)), (2, .int l2)]) (h : M_Mo_list_j199 l1 l2 s = some o) : WW X q s 199 ls [] := by
  unfold M_Mo_list_j199 at h
  refine ww_aload_n (pc := 199) g.1 d_Mo_list_199 rfl (lv_at hl 0 rfl) ?_
  refine ww_gR (pc := 200) g (k := 17) cl_Th (pt rfl rfl hp0) (by decide) (Or.inl kw_154) (f := 3601) (t := 36) rfl rfl rfl d_Mo_list_200 ?_
  refine ww_iload_n (pc := 203) g.1 d_Mo_list_203 rfl (lv_at hl 1 rfl) ?_
  refine ww_iconst (pc := 204) g.1 (v := 0) d_Mo_list_204 (by decide) ?_
  refine ww_si (pc := 205) g (pt rfl rfl hp0) rfl rfl d_Mo_list_205 h fun s hs h => ?_
  exact ww_vretH (pc := 206) g h hR d_Mo_list_206

theorem j_Mo_list_j34 {X : Cx} {q : PL} (g : Gd X y_Mo_list b_Mo_list 11 none 8 186 R_Mo) {o : (Unit) × S1} (hR : Rt X q o.2 none) (l1 : Int32) (l2 : Int32) (l3 : Int32) (l4r : Nat) (l4 : Int32) (l5 : Int32) (k0 : Int32) (s : S1) (hp0 : 0 ≤ l1 ∧ l1 < 33) (hp1 : VOK l4r l4) (ls : Array Slot) (hl : lv_has ls 11 [(0, .ref (q.1 0 0)), (1, .ref (q.1 28 l1)), (2, .int l2), (3, .int l3), (4, .ref (q.1 l4r l4)), (5, .int l5)]) (h : M_Mo_list_j34 l1 l2 l3 l4r l4 l5 k0 s = some o) : WW X q s 34 ls [.int k0] := by
  unfold M_Mo_list_j34 at h
  refine ww_istore (pc := 34) (i := 6) g.1 (lv' := [(6, .int k0), (0, .ref (q.1 0 0)), (1, .ref (q.1 28 l1)), (2, .int l2), (3, .int l3), (4, .ref (q.1 l4r l4)), (5, .int l5)]) d_Mo_list_34 hl (by decide) rfl fun ls hl => ?_
  refine ww_aload (pc := 36) g.1 d_Mo_list_36 (lv_at hl 5 rfl) ?_
  refine ww_gR (pc := 38) g (k := 0) (cl_Va hp1) (vok_p hp1).1 (by rw [(vok_f hp1).1.2.2]; decide) (Or.inl kw_90) (f := (128 * l4r + 0)) (t := l4r + 1) rfl (vok_f hp1).2.1.1 (vok_f hp1).2.1.2 d_Mo_list_38 ?_
  refine ww_iload (pc := 41) g.1 d_Mo_list_41 (lv_at hl 6 rfl) ?_
  refine ww_ab (pc := 43) g (vok_p hp1).2.1 (vok_f hp1).2.2.2.2.1 (vok_n hp1).1 d_Mo_list_43 h fun v43 h => ?_
  refine ww_iconst (pc := 44) g.1 (v := 5) d_Mo_list_44 (by decide) ?_
  refine ww_icmp_eq (pc := 45) (tgt := 62) g.1 d_Mo_list_45 (by decide) h (fun c h => ?_) (fun c h => ?_)
  · refine ww_iconst (pc := 62) g.1 (v := 1) d_Mo_list_62 (by decide) ?_
    refine ww_istore (pc := 63) (i := 7) g.1 (lv' := [(7, .int 1), (6, .int k0), (0, .ref (q.1 0 0)), (1, .ref (q.1 28 l1)), (2, .int l2), (3, .int l3), (4, .ref (q.1 l4r l4)), (5, .int l5)]) d_Mo_list_63 hl (by decide) rfl fun ls hl => ?_
    obtain ⟨e65, s1, hw, h⟩ := oB_of h
    refine oW_rule (Wh := fun (x : Int32 × Int32 × Int32 × Nat × Int32 × Int32 × Int32 × Int32) (s : S1) => ∀ ls : Array Slot, (0 ≤ x.1 ∧ x.1 < 33) → (VOK x.2.2.2.1 x.2.2.2.2.1) → lv_has ls 11 [(0, .ref (q.1 0 0)), (1, .ref (q.1 28 x.1)), (2, .int x.2.1), (3, .int x.2.2.1), (4, .ref (q.1 x.2.2.2.1 x.2.2.2.2.1)), (5, .int x.2.2.2.2.2.1), (6, .int x.2.2.2.2.2.2.1), (7, .int x.2.2.2.2.2.2.2)] → WW X q s 65 ls []) (We := fun (e : (Int32 × Int32) ⊕ (Int32 × Int32)) (s : S1) => (Sum.elim (fun y : Int32 × Int32 => ∀ ls : Array Slot, (0 ≤ y.1 ∧ y.1 < 33) → lv_has ls 11 [(1, .ref (q.1 28 y.1)), (2, .int y.2)] → WW X q s 190 ls []) (fun y : Int32 × Int32 => ∀ ls : Array Slot, (0 ≤ y.1 ∧ y.1 < 33) → lv_has ls 11 [(1, .ref (q.1 28 y.1)), (2, .int y.2)] → WW X q s 199 ls [])) e) (fun x s o hb hc => lp_Mo_list_L65 (q := q) g x s o hb hc) hw ?_ ls hp0 hp1 (lv_sub hl [2, 3, 4, 5, 6, 7, 1, 0] rfl)
    clear hw hl
    clear ls
    generalize s1 = s at h ⊢
    rcases e65 with y65_190 | y65_199
    · intro ls hq65_0 hl
      dsimp only [Sum.elim_inl, Sum.elim_inr] at h
      refine ww_goto (pc := 190) (tgt := 199) g.1 d_Mo_list_190 (by decide) ?_
      exact j_Mo_list_j199 g hR y65_190.1 y65_190.2 s hq65_0 ls (lv_sub hl [0, 1] rfl) h
    · intro ls hq65_0 hl
      dsimp only [Sum.elim_inl, Sum.elim_inr] at h
      exact j_Mo_list_j199 g hR y65_199.1 y65_199.2 s hq65_0 ls (lv_sub hl [0, 1] rfl) h
  · refine ww_aload_n (pc := 48) g.1 d_Mo_list_48 rfl (lv_at hl 2 rfl) ?_
    refine ww_gR (pc := 49) g (k := 17) cl_Th (pt rfl rfl hp0) (by decide) (Or.inl kw_154) (f := 3601) (t := 36) rfl rfl rfl d_Mo_list_49 ?_
    refine ww_iload_n (pc := 52) g.1 d_Mo_list_52 rfl (lv_at hl 3 rfl) ?_
    refine ww_iconst (pc := 53) g.1 (v := 0) d_Mo_list_53 (by decide) ?_
    refine ww_si (pc := 54) g (pt rfl rfl hp0) rfl rfl d_Mo_list_54 h fun s hs h => ?_
    refine ww_aload_n (pc := 55) g.1 d_Mo_list_55 rfl (lv_at hl 1 rfl) ?_
    refine ww_iconst (pc := 56) g.1 (v := 2) d_Mo_list_56 (by decide) ?_
    obtain ⟨v57, s, hc57, h⟩ := oB_of h
    refine ww_callV (pc := 57) (rest := []) g cv_Mo_raise (Or.inl kw_157) cl_Mo (pz rfl (by decide)) (ct_Mo_raise hc57) ⟨by decide, by decide⟩ rfl hl.1 (Nat.le_of_ble_eq_true rfl) d_Mo_list_57 rfl ?_
    refine ww_st (st' := [.int v57]) rfl ?_
    refine ww_pop (pc := 60) g.1 d_Mo_list_60 rfl ?_
    exact ww_vretH (pc := 61) g h hR d_Mo_list_61

theorem ct_Mo_list {l : Launch} {P : PP} {q : PL} {s s' : S1} {l1 : Int32} {l2 : Int32} {l3 : Int32} {l4r : Nat} {l4 : Int32} {l5 : Int32} (hp0 : 0 ≤ l1 ∧ l1 < 33) (hp1 : VOK l4r l4) {r : Unit} (h : M_Mo_list l1 l2 l3 l4r l4 l5 s = some (r, s')) : Ct l y_Mo_list b_Mo_list 11 none 8 186 P q s [.ref (q.1 0 0), .ref (q.1 28 l1), .int l2, .int l3, .ref (q.1 l4r l4), .int l5] none q s' := by
  refine ct_of (by decide) (Nat.le_of_ble_eq_true rfl) fun X ls eP el g hR hl => ?_
  subst eP
  have hR : Rt X q ((r, s') : Unit × S1).2 none := hR
  have hl : lv_has ls 11 [(0, .ref (q.1 0 0)), (1, .ref (q.1 28 l1)), (2, .int l2), (3, .int l3), (4, .ref (q.1 l4r l4)), (5, .int l5)] := hl
  generalize (r, s') = o at h hR
  unfold M_Mo_list at h
  refine ww_iload_n (pc := 0) g.1 d_Mo_list_0 rfl (lv_at hl 3 rfl) ?_
  obtain ⟨v1, s, hc1, h⟩ := oB_of h
  refine ww_callS (pc := 1) (rest := []) g cs_Mo_b (Or.inl kw_54) (ct_Mo_b hc1) ⟨by decide, by decide⟩ rfl hl.1 (Nat.le_of_ble_eq_true rfl) d_Mo_list_1 rfl ?_
  refine ww_st (st' := [.int v1]) rfl ?_
  refine ww_if_le (pc := 4) (tgt := 14) g.1 d_Mo_list_4 (by decide) h (fun c h => ?_) (fun c h => ?_)
  · refine ww_aload_n (pc := 14) g.1 d_Mo_list_14 rfl (lv_at hl 1 rfl) ?_
    refine ww_gR (pc := 15) g (k := 16) cl_Th (pt rfl rfl hp0) (by decide) (Or.inl kw_270) (f := 3600) (t := 35) rfl rfl rfl d_Mo_list_15 ?_
    refine ww_iload_n (pc := 18) g.1 d_Mo_list_18 rfl (lv_at hl 2 rfl) ?_
    refine ww_ai (pc := 19) g (pt rfl rfl hp0) rfl rfl d_Mo_list_19 h fun v19 h => ?_
    refine ww_aload_n (pc := 20) g.1 d_Mo_list_20 rfl (lv_at hl 1 rfl) ?_
    refine ww_gR (pc := 21) g (k := 17) cl_Th (pt rfl rfl hp0) (by decide) (Or.inl kw_154) (f := 3601) (t := 36) rfl rfl rfl d_Mo_list_21 ?_
    refine ww_iload_n (pc := 24) g.1 d_Mo_list_24 rfl (lv_at hl 2 rfl) ?_
    refine ww_ai (pc := 25) g (pt rfl rfl hp0) rfl rfl d_Mo_list_25 h fun v25 h => ?_
    refine ww_iadd (pc := 26) g.1 d_Mo_list_26 ?_
    refine ww_iload_n (pc := 27) g.1 d_Mo_list_27 rfl (lv_at hl 3 rfl) ?_
    obtain ⟨v28, s, hc28, h⟩ := oB_of h
    refine ww_callS (pc := 28) (rest := [.int (v19 + v25)]) g cs_Mo_a (Or.inl kw_280) (ct_Mo_a hc28) ⟨by decide, by decide⟩ rfl hl.1 (Nat.le_of_ble_eq_true rfl) d_Mo_list_28 rfl ?_
    refine ww_st (st' := [.int v28, .int (v19 + v25)]) rfl ?_
    refine ww_isub (pc := 31) g.1 d_Mo_list_31 ?_
    refine ww_iconst (pc := 32) g.1 (v := 1) d_Mo_list_32 (by decide) ?_
    refine ww_isub (pc := 33) g.1 d_Mo_list_33 ?_
    exact j_Mo_list_j34 g hR l1 l2 l3 l4r l4 l5 (((v19 + v25) - v28) - 1) s hp0 hp1 ls (lv_sub hl [0, 1, 2, 3, 4, 5] rfl) h
  · refine ww_iload_n (pc := 7) g.1 d_Mo_list_7 rfl (lv_at hl 3 rfl) ?_
    obtain ⟨v8, s, hc8, h⟩ := oB_of h
    refine ww_callS (pc := 8) (rest := []) g cs_Mo_b (Or.inl kw_54) (ct_Mo_b hc8) ⟨by decide, by decide⟩ rfl hl.1 (Nat.le_of_ble_eq_true rfl) d_Mo_list_8 rfl ?_
    refine ww_st (st' := [.int v8]) rfl ?_
    refine ww_goto (pc := 11) (tgt := 34) g.1 d_Mo_list_11 (by decide) ?_
    exact j_Mo_list_j34 g hR l1 l2 l3 l4r l4 l5 v8 s hp0 hp1 ls (lv_sub hl [0, 1, 2, 3, 4, 5] rfl) h

abbrev b_Mo_variableAt : ByteArray := prog_14_method_134_code
def y_Mo_variableAt : MethodName := ⟨R_Mo, "variableAt", "(LLuaMachineModel$Thread_;I)I"⟩
abbrev w_Mo_variableAt : List Cond := .code y_Mo_variableAt b_Mo_variableAt 4 (some .int) :: wA
theorem k_Mo_variableAt : Cond.code y_Mo_variableAt b_Mo_variableAt 4 (some .int) ∈ wA := kinm (show _ ∈ tables_1 from (List.mem_append_right _ (List.mem_append_right _ (List.mem_append_right _ (List.mem_append_right _ (List.mem_append_right _ (List.mem_append_right _ (List.mem_append_right _ (List.mem_append_right _ (List.mem_append_right _ (List.mem_append_right _ (List.mem_append_right _ (List.mem_append_right _ (List.mem_append_left _ (List.mem_of_getElem? (l := tables_1_13) (i := 231) (by decide +kernel)))))))))))))))) (by decide +kernel)
theorem d_Mo_variableAt_0 : decode b_Mo_variableAt 0 = .ok (.iconst 0, 1) := by decide +kernel
theorem d_Mo_variableAt_1 : decode b_Mo_variableAt 1 = .ok (.istore_n 3, 1) := by decide +kernel
theorem d_Mo_variableAt_2 : decode b_Mo_variableAt 2 = .ok (.iload_n 3, 1) := by decide +kernel
theorem d_Mo_variableAt_3 : decode b_Mo_variableAt 3 = .ok (.aload_n 1, 1) := by decide +kernel
theorem d_Mo_variableAt_4 : decode b_Mo_variableAt 4 = .ok (.getfield 597, 3) := by decide +kernel
theorem d_Mo_variableAt_7 : decode b_Mo_variableAt 7 = .ok (.if_icmp .ge 31, 3) := by decide +kernel
theorem d_Mo_variableAt_10 : decode b_Mo_variableAt 10 = .ok (.aload_n 0, 1) := by decide +kernel
theorem d_Mo_variableAt_11 : decode b_Mo_variableAt 11 = .ok (.getfield 171, 3) := by decide +kernel
theorem d_Mo_variableAt_14 : decode b_Mo_variableAt 14 = .ok (.aload_n 1, 1) := by decide +kernel
theorem d_Mo_variableAt_15 : decode b_Mo_variableAt 15 = .ok (.getfield 600, 3) := by decide +kernel
theorem d_Mo_variableAt_18 : decode b_Mo_variableAt 18 = .ok (.iload_n 3, 1) := by decide +kernel
theorem d_Mo_variableAt_19 : decode b_Mo_variableAt 19 = .ok (.iaload, 1) := by decide +kernel
theorem d_Mo_variableAt_20 : decode b_Mo_variableAt 20 = .ok (.iaload, 1) := by decide +kernel
theorem d_Mo_variableAt_21 : decode b_Mo_variableAt 21 = .ok (.iload_n 2, 1) := by decide +kernel
theorem d_Mo_variableAt_22 : decode b_Mo_variableAt 22 = .ok (.if_icmp .ne 10, 3) := by decide +kernel
theorem d_Mo_variableAt_25 : decode b_Mo_variableAt 25 = .ok (.aload_n 1, 1) := by decide +kernel
theorem d_Mo_variableAt_26 : decode b_Mo_variableAt 26 = .ok (.getfield 600, 3) := by decide +kernel
theorem d_Mo_variableAt_29 : decode b_Mo_variableAt 29 = .ok (.iload_n 3, 1) := by decide +kernel
theorem d_Mo_variableAt_30 : decode b_Mo_variableAt 30 = .ok (.iaload, 1) := by decide +kernel
theorem d_Mo_variableAt_31 : decode b_Mo_variableAt 31 = .ok (.ireturn, 1) := by decide +kernel
theorem d_Mo_variableAt_32 : decode b_Mo_variableAt 32 = .ok (.iinc 3 1, 3) := by decide +kernel
theorem d_Mo_variableAt_35 : decode b_Mo_variableAt 35 = .ok (.goto (-33), 3) := by decide +kernel
theorem d_Mo_variableAt_38 : decode b_Mo_variableAt 38 = .ok (.aload_n 0, 1) := by decide +kernel
theorem d_Mo_variableAt_39 : decode b_Mo_variableAt 39 = .ok (.iconst 0, 1) := by decide +kernel
theorem d_Mo_variableAt_40 : decode b_Mo_variableAt 40 = .ok (.invokevirtual 527, 3) := by decide +kernel
theorem d_Mo_variableAt_43 : decode b_Mo_variableAt 43 = .ok (.ifCond .ne 5, 3) := by decide +kernel
theorem d_Mo_variableAt_46 : decode b_Mo_variableAt 46 = .ok (.iconst (-1), 1) := by decide +kernel
theorem d_Mo_variableAt_47 : decode b_Mo_variableAt 47 = .ok (.ireturn, 1) := by decide +kernel
theorem d_Mo_variableAt_48 : decode b_Mo_variableAt 48 = .ok (.aload_n 0, 1) := by decide +kernel
theorem d_Mo_variableAt_49 : decode b_Mo_variableAt 49 = .ok (.bipush 8, 2) := by decide +kernel
theorem d_Mo_variableAt_51 : decode b_Mo_variableAt 51 = .ok (.invokevirtual 531, 3) := by decide +kernel
theorem d_Mo_variableAt_54 : decode b_Mo_variableAt 54 = .ok (.istore_n 3, 1) := by decide +kernel
theorem d_Mo_variableAt_55 : decode b_Mo_variableAt 55 = .ok (.aload_n 0, 1) := by decide +kernel
theorem d_Mo_variableAt_56 : decode b_Mo_variableAt 56 = .ok (.getfield 168, 3) := by decide +kernel
theorem d_Mo_variableAt_59 : decode b_Mo_variableAt 59 = .ok (.iload_n 3, 1) := by decide +kernel
theorem d_Mo_variableAt_60 : decode b_Mo_variableAt 60 = .ok (.aload_n 0, 1) := by decide +kernel
theorem d_Mo_variableAt_61 : decode b_Mo_variableAt 61 = .ok (.aload_n 1, 1) := by decide +kernel
theorem d_Mo_variableAt_62 : decode b_Mo_variableAt 62 = .ok (.invokevirtual 1017, 3) := by decide +kernel
theorem d_Mo_variableAt_65 : decode b_Mo_variableAt 65 = .ok (.iastore, 1) := by decide +kernel
theorem d_Mo_variableAt_66 : decode b_Mo_variableAt 66 = .ok (.aload_n 0, 1) := by decide +kernel
theorem d_Mo_variableAt_67 : decode b_Mo_variableAt 67 = .ok (.getfield 171, 3) := by decide +kernel
theorem d_Mo_variableAt_70 : decode b_Mo_variableAt 70 = .ok (.iload_n 3, 1) := by decide +kernel
theorem d_Mo_variableAt_71 : decode b_Mo_variableAt 71 = .ok (.iload_n 2, 1) := by decide +kernel
theorem d_Mo_variableAt_72 : decode b_Mo_variableAt 72 = .ok (.iastore, 1) := by decide +kernel
theorem d_Mo_variableAt_73 : decode b_Mo_variableAt 73 = .ok (.aload_n 1, 1) := by decide +kernel
theorem d_Mo_variableAt_74 : decode b_Mo_variableAt 74 = .ok (.getfield 600, 3) := by decide +kernel
theorem d_Mo_variableAt_77 : decode b_Mo_variableAt 77 = .ok (.aload_n 1, 1) := by decide +kernel
theorem d_Mo_variableAt_78 : decode b_Mo_variableAt 78 = .ok (.dup, 1) := by decide +kernel
theorem d_Mo_variableAt_79 : decode b_Mo_variableAt 79 = .ok (.getfield 597, 3) := by decide +kernel
theorem d_Mo_variableAt_82 : decode b_Mo_variableAt 82 = .ok (.dup_x1, 1) := by decide +kernel
theorem d_Mo_variableAt_83 : decode b_Mo_variableAt 83 = .ok (.iconst 1, 1) := by decide +kernel
theorem d_Mo_variableAt_84 : decode b_Mo_variableAt 84 = .ok (.iadd, 1) := by decide +kernel
theorem d_Mo_variableAt_85 : decode b_Mo_variableAt 85 = .ok (.putfield 597, 3) := by decide +kernel
theorem d_Mo_variableAt_88 : decode b_Mo_variableAt 88 = .ok (.iload_n 3, 1) := by decide +kernel
theorem d_Mo_variableAt_89 : decode b_Mo_variableAt 89 = .ok (.iastore, 1) := by decide +kernel
theorem d_Mo_variableAt_90 : decode b_Mo_variableAt 90 = .ok (.iload_n 3, 1) := by decide +kernel
theorem d_Mo_variableAt_91 : decode b_Mo_variableAt 91 = .ok (.ireturn, 1) := by decide +kernel
theorem kw_485 : Cond.methodLink R_Mo 1017 y_Mo_thread ∈ wA := kinm (show _ ∈ tables_1 from (List.mem_append_right _ (List.mem_append_right _ (List.mem_append_right _ (List.mem_append_right _ (List.mem_append_right _ (List.mem_append_right _ (List.mem_append_right _ (List.mem_append_right _ (List.mem_append_right _ (List.mem_append_right _ (List.mem_append_right _ (List.mem_append_right _ (List.mem_append_left _ (List.mem_of_getElem? (l := tables_1_13) (i := 232) (by decide +kernel)))))))))))))))) (by decide +kernel)
theorem kw_486 : Cond.instanceMethod y_Mo_variableAt ∈ wA := kinm (show _ ∈ tables_1 from (List.mem_append_right _ (List.mem_append_right _ (List.mem_append_right _ (List.mem_append_right _ (List.mem_append_right _ (List.mem_append_right _ (List.mem_append_right _ (List.mem_append_right _ (List.mem_append_right _ (List.mem_append_right _ (List.mem_append_right _ (List.mem_append_right _ (List.mem_append_left _ (List.mem_of_getElem? (l := tables_1_13) (i := 230) (by decide +kernel)))))))))))))))) (by decide +kernel)
theorem kw_487 : Cond.selects R_Mo y_Mo_variableAt y_Mo_variableAt ∈ wA := kinp 224 (by decide +kernel) (by decide +kernel)
theorem cv_Mo_variableAt : CV y_Mo_variableAt b_Mo_variableAt 4 (some .int) 2 := ⟨kw_486, kw_487, kw_17, k_Mo_variableAt, by decide +kernel⟩
theorem lp_Mo_variableAt_L2 {X : Cx} {q : PL} (g : Gd X y_Mo_variableAt b_Mo_variableAt 4 (some .int) 7 154 R_Mo) (x : Int32 × Int32 × Int32) (s : S1) (o : ((Int32 × Int32 × Int32) ⊕ ((Int32 × Int32) ⊕ (Int32 × Int32))) × S1) (h : M_Mo_variableAt_L2 x s = some o) (hR : (Sum.elim (fun y : Int32 × Int32 × Int32 => ∀ ls : Array Slot, (0 ≤ y.1 ∧ y.1 < 33) → lv_has ls 4 [(0, .ref (q.1 0 0)), (1, .ref (q.1 28 y.1)), (2, .int y.2.1), (3, .int y.2.2)] → WW X q o.2 2 ls []) (Sum.elim (fun y : Int32 × Int32 => ∀ ls : Array Slot, (0 ≤ y.1 ∧ y.1 < 33) → lv_has ls 4 [(1, .ref (q.1 28 y.1)), (3, .int y.2)] → WW X q o.2 25 ls []) (fun y : Int32 × Int32 => ∀ ls : Array Slot, (0 ≤ y.1 ∧ y.1 < 33) → lv_has ls 4 [(0, .ref (q.1 0 0)), (1, .ref (q.1 28 y.1)), (2, .int y.2)] → WW X q o.2 38 ls [])) o.1)) : ∀ ls : Array Slot, (0 ≤ x.1 ∧ x.1 < 33) → lv_has ls 4 [(0, .ref (q.1 0 0)), (1, .ref (q.1 28 x.1)), (2, .int x.2.1), (3, .int x.2.2)] → WW X q s 2 ls [] := by
  intro ls hp0 hl
  unfold M_Mo_variableAt_L2 at h
  refine ww_iload_n (pc := 2) g.1 d_Mo_variableAt_2 rfl (lv_at hl 3 rfl) ?_
  refine ww_aload_n (pc := 3) g.1 d_Mo_variableAt_3 rfl (lv_at hl 1 rfl) ?_
  refine ww_gI (pc := 4) g (k := 3) cl_Th (pt rfl rfl hp0) (by decide) (Or.inl kw_104) (f := 3587) rfl rfl d_Mo_variableAt_4 h fun v4 h => ?_
  refine ww_icmp_ge (pc := 7) (tgt := 38) g.1 d_Mo_variableAt_7 (by decide) h (fun c h => ?_) (fun c h => ?_)
  · rw [oR_eq h] at hR
    exact hR ls hp0 (lv_sub hl [0, 1, 2] rfl)
  · refine ww_aload_n (pc := 10) g.1 d_Mo_variableAt_10 rfl (lv_at hl 0 rfl) ?_
    refine ww_gR (pc := 11) g (k := 50) cl_Mo (pz rfl (by decide)) (by decide) (Or.inl kw_91) (f := 50) (t := 63) rfl rfl rfl d_Mo_variableAt_11 ?_
    refine ww_aload_n (pc := 14) g.1 d_Mo_variableAt_14 rfl (lv_at hl 1 rfl) ?_
    refine ww_gR (pc := 15) g (k := 10) cl_Th (pt rfl rfl hp0) (by decide) (Or.inl kw_105) (f := 3594) (t := 29) rfl rfl rfl d_Mo_variableAt_15 ?_
    refine ww_iload_n (pc := 18) g.1 d_Mo_variableAt_18 rfl (lv_at hl 3 rfl) ?_
    refine ww_ai (pc := 19) g (pt rfl rfl hp0) rfl rfl d_Mo_variableAt_19 h fun v19 h => ?_
    refine ww_ai (pc := 20) g (pz rfl (by decide)) rfl rfl d_Mo_variableAt_20 h fun v20 h => ?_
    refine ww_iload_n (pc := 21) g.1 d_Mo_variableAt_21 rfl (lv_at hl 2 rfl) ?_
    refine ww_icmp_ne (pc := 22) (tgt := 32) g.1 d_Mo_variableAt_22 (by decide) h (fun c h => ?_) (fun c h => ?_)
    · refine ww_iinc (pc := 32) g.1 (v := x.2.2 + 1) (lv' := [(3, .int (x.2.2 + 1)), (0, .ref (q.1 0 0)), (1, .ref (q.1 28 x.1)), (2, .int x.2.1)]) d_Mo_variableAt_32 hl (k := 3) rfl (by rfl) (by decide) rfl fun ls hl => ?_
      refine ww_goto (pc := 35) (tgt := 2) g.1 d_Mo_variableAt_35 (by decide) ?_
      rw [oR_eq h] at hR
      exact hR ls hp0 (lv_sub hl [1, 2, 3, 0] rfl)
    · rw [oR_eq h] at hR
      exact hR ls hp0 (lv_sub hl [1, 3] rfl)

theorem ct_Mo_variableAt {l : Launch} {P : PP} {q : PL} {s s' : S1} {l1 : Int32} {l2 : Int32} (hp0 : 0 ≤ l1 ∧ l1 < 33) {r : Int32} (h : M_Mo_variableAt l1 l2 s = some (r, s')) : Ct l y_Mo_variableAt b_Mo_variableAt 4 (some .int) 7 154 P q s [.ref (q.1 0 0), .ref (q.1 28 l1), .int l2] (some (.int r)) q s' := by
  refine ct_of (by decide) (Nat.le_of_ble_eq_true rfl) fun X ls eP el g hR hl => ?_
  subst eP
  have hR : Rt X q ((r, s') : Int32 × S1).2 (some (.int ((r, s') : Int32 × S1).1)) := hR
  have hl : lv_has ls 4 [(0, .ref (q.1 0 0)), (1, .ref (q.1 28 l1)), (2, .int l2)] := hl
  generalize (r, s') = o at h hR
  unfold M_Mo_variableAt at h
  refine ww_iconst (pc := 0) g.1 (v := 0) d_Mo_variableAt_0 (by decide) ?_
  refine ww_istore_n (pc := 1) (i := 3) g.1 (lv' := [(3, .int 0), (0, .ref (q.1 0 0)), (1, .ref (q.1 28 l1)), (2, .int l2)]) d_Mo_variableAt_1 rfl hl (by decide) rfl fun ls hl => ?_
  obtain ⟨e2, s1, hw, h⟩ := oB_of h
  refine oW_rule (Wh := fun (x : Int32 × Int32 × Int32) (s : S1) => ∀ ls : Array Slot, (0 ≤ x.1 ∧ x.1 < 33) → lv_has ls 4 [(0, .ref (q.1 0 0)), (1, .ref (q.1 28 x.1)), (2, .int x.2.1), (3, .int x.2.2)] → WW X q s 2 ls []) (We := fun (e : (Int32 × Int32) ⊕ (Int32 × Int32)) (s : S1) => (Sum.elim (fun y : Int32 × Int32 => ∀ ls : Array Slot, (0 ≤ y.1 ∧ y.1 < 33) → lv_has ls 4 [(1, .ref (q.1 28 y.1)), (3, .int y.2)] → WW X q s 25 ls []) (fun y : Int32 × Int32 => ∀ ls : Array Slot, (0 ≤ y.1 ∧ y.1 < 33) → lv_has ls 4 [(0, .ref (q.1 0 0)), (1, .ref (q.1 28 y.1)), (2, .int y.2)] → WW X q s 38 ls [])) e) (fun x s o hb hc => lp_Mo_variableAt_L2 (q := q) g x s o hb hc) hw ?_ ls hp0 (lv_sub hl [1, 2, 3, 0] rfl)
  clear hw hl
  clear ls
  generalize s1 = s at h ⊢
  rcases e2 with y2_25 | y2_38
  · intro ls hq2_0 hl
    dsimp only [Sum.elim_inl, Sum.elim_inr] at h
    refine ww_aload_n (pc := 25) g.1 d_Mo_variableAt_25 rfl (lv_at hl 0 rfl) ?_
    refine ww_gR (pc := 26) g (k := 10) cl_Th (pt rfl rfl hq2_0) (by decide) (Or.inl kw_105) (f := 3594) (t := 29) rfl rfl rfl d_Mo_variableAt_26 ?_
    refine ww_iload_n (pc := 29) g.1 d_Mo_variableAt_29 rfl (lv_at hl 1 rfl) ?_
    refine ww_ai (pc := 30) g (pt rfl rfl hq2_0) rfl rfl d_Mo_variableAt_30 h fun v30 h => ?_
    exact ww_iretH (pc := 31) g h hR d_Mo_variableAt_31
  · intro ls hq2_0 hl
    dsimp only [Sum.elim_inl, Sum.elim_inr] at h
    refine ww_aload_n (pc := 38) g.1 d_Mo_variableAt_38 rfl (lv_at hl 0 rfl) ?_
    refine ww_iconst (pc := 39) g.1 (v := 0) d_Mo_variableAt_39 (by decide) ?_
    obtain ⟨v40, s, hc40, h⟩ := oB_of h
    refine ww_callV (pc := 40) (rest := []) g cv_Mo_may (Or.inl kw_461) cl_Mo (pz rfl (by decide)) (ct_Mo_may hc40) ⟨by decide, by decide⟩ rfl hl.1 (Nat.le_of_ble_eq_true rfl) d_Mo_variableAt_40 rfl ?_
    refine ww_st (st' := [.int v40]) rfl ?_
    refine ww_if_ne (pc := 43) (tgt := 48) g.1 d_Mo_variableAt_43 (by decide) h (fun c h => ?_) (fun c h => ?_)
    · refine ww_aload_n (pc := 48) g.1 d_Mo_variableAt_48 rfl (lv_at hl 0 rfl) ?_
      refine ww_bipush (pc := 49) g.1 (v := 8) d_Mo_variableAt_49 (by decide) ?_
      obtain ⟨v51, s, hc51, h⟩ := oB_of h
      refine ww_callV (pc := 51) (rest := []) g cv_Mo_object (Or.inl kw_462) cl_Mo (pz rfl (by decide)) (ct_Mo_object hc51) ⟨by decide, by decide⟩ rfl hl.1 (Nat.le_of_ble_eq_true rfl) d_Mo_variableAt_51 rfl ?_
      refine ww_st (st' := [.int v51]) rfl ?_
      refine ww_istore_n (pc := 54) (i := 3) g.1 (lv' := [(3, .int v51), (0, .ref (q.1 0 0)), (1, .ref (q.1 28 y2_38.1)), (2, .int y2_38.2)]) d_Mo_variableAt_54 rfl hl (by decide) rfl fun ls hl => ?_
      refine ww_aload_n (pc := 55) g.1 d_Mo_variableAt_55 rfl (lv_at hl 1 rfl) ?_
      refine ww_gR (pc := 56) g (k := 49) cl_Mo (pz rfl (by decide)) (by decide) (Or.inl kw_87) (f := 49) (t := 62) rfl rfl rfl d_Mo_variableAt_56 ?_
      refine ww_iload_n (pc := 59) g.1 d_Mo_variableAt_59 rfl (lv_at hl 0 rfl) ?_
      refine ww_aload_n (pc := 60) g.1 d_Mo_variableAt_60 rfl (lv_at hl 1 rfl) ?_
      refine ww_aload_n (pc := 61) g.1 d_Mo_variableAt_61 rfl (lv_at hl 2 rfl) ?_
      obtain ⟨v62, s, hc62, h⟩ := oB_of h
      refine ww_callV (pc := 62) (rest := [.int v51, .ref (q.1 62 0)]) g cv_Mo_thread (Or.inl kw_485) cl_Mo (pz rfl (by decide)) (ct_Mo_thread hq2_0 hc62) ⟨by decide, by decide⟩ rfl hl.1 (Nat.le_of_ble_eq_true rfl) d_Mo_variableAt_62 rfl ?_
      refine ww_st (st' := [.int v62, .int v51, .ref (q.1 62 0)]) rfl ?_
      refine ww_si (pc := 65) g (pz rfl (by decide)) rfl rfl d_Mo_variableAt_65 h fun s hs h => ?_
      refine ww_aload_n (pc := 66) g.1 d_Mo_variableAt_66 rfl (lv_at hl 1 rfl) ?_
      refine ww_gR (pc := 67) g (k := 50) cl_Mo (pz rfl (by decide)) (by decide) (Or.inl kw_91) (f := 50) (t := 63) rfl rfl rfl d_Mo_variableAt_67 ?_
      refine ww_iload_n (pc := 70) g.1 d_Mo_variableAt_70 rfl (lv_at hl 0 rfl) ?_
      refine ww_iload_n (pc := 71) g.1 d_Mo_variableAt_71 rfl (lv_at hl 3 rfl) ?_
      refine ww_si (pc := 72) g (pz rfl (by decide)) rfl rfl d_Mo_variableAt_72 h fun s hs h => ?_
      refine ww_aload_n (pc := 73) g.1 d_Mo_variableAt_73 rfl (lv_at hl 2 rfl) ?_
      refine ww_gR (pc := 74) g (k := 10) cl_Th (pt rfl rfl hq2_0) (by decide) (Or.inl kw_105) (f := 3594) (t := 29) rfl rfl rfl d_Mo_variableAt_74 ?_
      refine ww_aload_n (pc := 77) g.1 d_Mo_variableAt_77 rfl (lv_at hl 2 rfl) ?_
      refine ww_dup (pc := 78) g.1 d_Mo_variableAt_78 rfl ?_
      refine ww_gI (pc := 79) g (k := 3) cl_Th (pt rfl rfl hq2_0) (by decide) (Or.inl kw_104) (f := 3587) rfl rfl d_Mo_variableAt_79 h fun v79 h => ?_
      refine ww_dup_x1 (pc := 82) g.1 d_Mo_variableAt_82 rfl rfl ?_
      refine ww_iconst (pc := 83) g.1 (v := 1) d_Mo_variableAt_83 (by decide) ?_
      refine ww_iadd (pc := 84) g.1 d_Mo_variableAt_84 ?_
      refine ww_pI (pc := 85) g (k := 3) cl_Th (pt rfl rfl hq2_0) (by decide) (Or.inl kw_104) rfl (f := 3587) rfl rfl rfl rfl d_Mo_variableAt_85 h fun s hs h => ?_
      refine ww_iload_n (pc := 88) g.1 d_Mo_variableAt_88 rfl (lv_at hl 0 rfl) ?_
      refine ww_si (pc := 89) g (pt rfl rfl hq2_0) rfl rfl d_Mo_variableAt_89 h fun s hs h => ?_
      refine ww_iload_n (pc := 90) g.1 d_Mo_variableAt_90 rfl (lv_at hl 0 rfl) ?_
      exact ww_iretH (pc := 91) g h hR d_Mo_variableAt_91
    · refine ww_iconst (pc := 46) g.1 (v := (-1)) d_Mo_variableAt_46 (by decide) ?_
      exact ww_iretH (pc := 47) g h hR d_Mo_variableAt_47

abbrev b_Mo_table : ByteArray := prog_14_method_31_code
def y_Mo_table : MethodName := ⟨R_Mo, "table", "()I"⟩
abbrev w_Mo_table : List Cond := .code y_Mo_table b_Mo_table 2 (some .int) :: wA
theorem k_Mo_table : Cond.code y_Mo_table b_Mo_table 2 (some .int) ∈ wA := kinm (show _ ∈ tables_1 from (List.mem_append_right _ (List.mem_append_right _ (List.mem_append_right _ (List.mem_append_right _ (List.mem_append_right _ (List.mem_append_right _ (List.mem_append_right _ (List.mem_append_right _ (List.mem_append_right _ (List.mem_append_right _ (List.mem_append_left _ (List.mem_of_getElem? (l := tables_1_11) (i := 231) (by decide +kernel)))))))))))))) (by decide +kernel)
theorem d_Mo_table_0 : decode b_Mo_table 0 = .ok (.aload_n 0, 1) := by decide +kernel
theorem d_Mo_table_1 : decode b_Mo_table 1 = .ok (.iconst 0, 1) := by decide +kernel
theorem d_Mo_table_2 : decode b_Mo_table 2 = .ok (.invokevirtual 527, 3) := by decide +kernel
theorem d_Mo_table_5 : decode b_Mo_table 5 = .ok (.ifCond .ne 5, 3) := by decide +kernel
theorem d_Mo_table_8 : decode b_Mo_table 8 = .ok (.iconst (-1), 1) := by decide +kernel
theorem d_Mo_table_9 : decode b_Mo_table 9 = .ok (.ireturn, 1) := by decide +kernel
theorem d_Mo_table_10 : decode b_Mo_table 10 = .ok (.aload_n 0, 1) := by decide +kernel
theorem d_Mo_table_11 : decode b_Mo_table 11 = .ok (.iconst 5, 1) := by decide +kernel
theorem d_Mo_table_12 : decode b_Mo_table 12 = .ok (.invokevirtual 531, 3) := by decide +kernel
theorem d_Mo_table_15 : decode b_Mo_table 15 = .ok (.istore_n 1, 1) := by decide +kernel
theorem d_Mo_table_16 : decode b_Mo_table 16 = .ok (.aload_n 0, 1) := by decide +kernel
theorem d_Mo_table_17 : decode b_Mo_table 17 = .ok (.getfield 168, 3) := by decide +kernel
theorem d_Mo_table_20 : decode b_Mo_table 20 = .ok (.iload_n 1, 1) := by decide +kernel
theorem d_Mo_table_21 : decode b_Mo_table 21 = .ok (.iconst 0, 1) := by decide +kernel
theorem d_Mo_table_22 : decode b_Mo_table 22 = .ok (.iastore, 1) := by decide +kernel
theorem d_Mo_table_23 : decode b_Mo_table 23 = .ok (.aload_n 0, 1) := by decide +kernel
theorem d_Mo_table_24 : decode b_Mo_table 24 = .ok (.getfield 171, 3) := by decide +kernel
theorem d_Mo_table_27 : decode b_Mo_table 27 = .ok (.iload_n 1, 1) := by decide +kernel
theorem d_Mo_table_28 : decode b_Mo_table 28 = .ok (.iconst 0, 1) := by decide +kernel
theorem d_Mo_table_29 : decode b_Mo_table 29 = .ok (.iastore, 1) := by decide +kernel
theorem d_Mo_table_30 : decode b_Mo_table 30 = .ok (.aload_n 0, 1) := by decide +kernel
theorem d_Mo_table_31 : decode b_Mo_table 31 = .ok (.getfield 174, 3) := by decide +kernel
theorem d_Mo_table_34 : decode b_Mo_table 34 = .ok (.iload_n 1, 1) := by decide +kernel
theorem d_Mo_table_35 : decode b_Mo_table 35 = .ok (.iconst 0, 1) := by decide +kernel
theorem d_Mo_table_36 : decode b_Mo_table 36 = .ok (.iastore, 1) := by decide +kernel
theorem d_Mo_table_37 : decode b_Mo_table 37 = .ok (.aload_n 0, 1) := by decide +kernel
theorem d_Mo_table_38 : decode b_Mo_table 38 = .ok (.getfield 177, 3) := by decide +kernel
theorem d_Mo_table_41 : decode b_Mo_table 41 = .ok (.iload_n 1, 1) := by decide +kernel
theorem d_Mo_table_42 : decode b_Mo_table 42 = .ok (.iconst (-1), 1) := by decide +kernel
theorem d_Mo_table_43 : decode b_Mo_table 43 = .ok (.iastore, 1) := by decide +kernel
theorem d_Mo_table_44 : decode b_Mo_table 44 = .ok (.iload_n 1, 1) := by decide +kernel
theorem d_Mo_table_45 : decode b_Mo_table 45 = .ok (.ireturn, 1) := by decide +kernel
theorem kw_488 : Cond.instanceMethod y_Mo_table ∈ wA := kinm (show _ ∈ tables_1 from (List.mem_append_right _ (List.mem_append_right _ (List.mem_append_right _ (List.mem_append_right _ (List.mem_append_right _ (List.mem_append_right _ (List.mem_append_right _ (List.mem_append_right _ (List.mem_append_right _ (List.mem_append_right _ (List.mem_append_left _ (List.mem_of_getElem? (l := tables_1_11) (i := 230) (by decide +kernel)))))))))))))) (by decide +kernel)
theorem kw_489 : Cond.selects R_Mo y_Mo_table y_Mo_table ∈ wA := kinp 126 (by decide +kernel) (by decide +kernel)
theorem cv_Mo_table : CV y_Mo_table b_Mo_table 2 (some .int) 0 := ⟨kw_488, kw_489, kw_17, k_Mo_table, by decide +kernel⟩
theorem ct_Mo_table {l : Launch} {P : PP} {q : PL} {s s' : S1}  {r : Int32} (h : M_Mo_table s = some (r, s')) : Ct l y_Mo_table b_Mo_table 2 (some .int) 7 154 P q s [.ref (q.1 0 0)] (some (.int r)) q s' := by
  refine ct_of (by decide) (Nat.le_of_ble_eq_true rfl) fun X ls eP el g hR hl => ?_
  subst eP
  have hR : Rt X q ((r, s') : Int32 × S1).2 (some (.int ((r, s') : Int32 × S1).1)) := hR
  have hl : lv_has ls 2 [(0, .ref (q.1 0 0))] := hl
  generalize (r, s') = o at h hR
  unfold M_Mo_table at h
  refine ww_aload_n (pc := 0) g.1 d_Mo_table_0 rfl (lv_at hl 0 rfl) ?_
  refine ww_iconst (pc := 1) g.1 (v := 0) d_Mo_table_1 (by decide) ?_
  obtain ⟨v2, s, hc2, h⟩ := oB_of h
  refine ww_callV (pc := 2) (rest := []) g cv_Mo_may (Or.inl kw_461) cl_Mo (pz rfl (by decide)) (ct_Mo_may hc2) ⟨by decide, by decide⟩ rfl hl.1 (Nat.le_of_ble_eq_true rfl) d_Mo_table_2 rfl ?_
  refine ww_st (st' := [.int v2]) rfl ?_
  refine ww_if_ne (pc := 5) (tgt := 10) g.1 d_Mo_table_5 (by decide) h (fun c h => ?_) (fun c h => ?_)
  · refine ww_aload_n (pc := 10) g.1 d_Mo_table_10 rfl (lv_at hl 0 rfl) ?_
    refine ww_iconst (pc := 11) g.1 (v := 5) d_Mo_table_11 (by decide) ?_
    obtain ⟨v12, s, hc12, h⟩ := oB_of h
    refine ww_callV (pc := 12) (rest := []) g cv_Mo_object (Or.inl kw_462) cl_Mo (pz rfl (by decide)) (ct_Mo_object hc12) ⟨by decide, by decide⟩ rfl hl.1 (Nat.le_of_ble_eq_true rfl) d_Mo_table_12 rfl ?_
    refine ww_st (st' := [.int v12]) rfl ?_
    refine ww_istore_n (pc := 15) (i := 1) g.1 (lv' := [(1, .int v12), (0, .ref (q.1 0 0))]) d_Mo_table_15 rfl hl (by decide) rfl fun ls hl => ?_
    refine ww_aload_n (pc := 16) g.1 d_Mo_table_16 rfl (lv_at hl 1 rfl) ?_
    refine ww_gR (pc := 17) g (k := 49) cl_Mo (pz rfl (by decide)) (by decide) (Or.inl kw_87) (f := 49) (t := 62) rfl rfl rfl d_Mo_table_17 ?_
    refine ww_iload_n (pc := 20) g.1 d_Mo_table_20 rfl (lv_at hl 0 rfl) ?_
    refine ww_iconst (pc := 21) g.1 (v := 0) d_Mo_table_21 (by decide) ?_
    refine ww_si (pc := 22) g (pz rfl (by decide)) rfl rfl d_Mo_table_22 h fun s hs h => ?_
    refine ww_aload_n (pc := 23) g.1 d_Mo_table_23 rfl (lv_at hl 1 rfl) ?_
    refine ww_gR (pc := 24) g (k := 50) cl_Mo (pz rfl (by decide)) (by decide) (Or.inl kw_91) (f := 50) (t := 63) rfl rfl rfl d_Mo_table_24 ?_
    refine ww_iload_n (pc := 27) g.1 d_Mo_table_27 rfl (lv_at hl 0 rfl) ?_
    refine ww_iconst (pc := 28) g.1 (v := 0) d_Mo_table_28 (by decide) ?_
    refine ww_si (pc := 29) g (pz rfl (by decide)) rfl rfl d_Mo_table_29 h fun s hs h => ?_
    refine ww_aload_n (pc := 30) g.1 d_Mo_table_30 rfl (lv_at hl 1 rfl) ?_
    refine ww_gR (pc := 31) g (k := 51) cl_Mo (pz rfl (by decide)) (by decide) (Or.inl kw_123) (f := 51) (t := 64) rfl rfl rfl d_Mo_table_31 ?_
    refine ww_iload_n (pc := 34) g.1 d_Mo_table_34 rfl (lv_at hl 0 rfl) ?_
    refine ww_iconst (pc := 35) g.1 (v := 0) d_Mo_table_35 (by decide) ?_
    refine ww_si (pc := 36) g (pz rfl (by decide)) rfl rfl d_Mo_table_36 h fun s hs h => ?_
    refine ww_aload_n (pc := 37) g.1 d_Mo_table_37 rfl (lv_at hl 1 rfl) ?_
    refine ww_gR (pc := 38) g (k := 52) cl_Mo (pz rfl (by decide)) (by decide) (Or.inl kw_341) (f := 52) (t := 65) rfl rfl rfl d_Mo_table_38 ?_
    refine ww_iload_n (pc := 41) g.1 d_Mo_table_41 rfl (lv_at hl 0 rfl) ?_
    refine ww_iconst (pc := 42) g.1 (v := (-1)) d_Mo_table_42 (by decide) ?_
    refine ww_si (pc := 43) g (pz rfl (by decide)) rfl rfl d_Mo_table_43 h fun s hs h => ?_
    refine ww_iload_n (pc := 44) g.1 d_Mo_table_44 rfl (lv_at hl 0 rfl) ?_
    exact ww_iretH (pc := 45) g h hR d_Mo_table_45
  · refine ww_iconst (pc := 8) g.1 (v := (-1)) d_Mo_table_8 (by decide) ?_
    exact ww_iretH (pc := 9) g h hR d_Mo_table_9

abbrev b_Mo_small : ByteArray := prog_14_method_112_code
def y_Mo_small : MethodName := ⟨R_Mo, "small", "(LLuaMachineModel$Thread_;IIIILLuaMachineModel$Values;I)V"⟩
abbrev w_Mo_small : List Cond := .code y_Mo_small b_Mo_small 13 none :: wA
set_option maxRecDepth 20000 in
theorem k_Mo_small : Cond.code y_Mo_small b_Mo_small 13 none ∈ wA := kinm (show _ ∈ tables_1 from (List.mem_append_right _ (List.mem_append_right _ (List.mem_append_right _ (List.mem_append_right _ (List.mem_append_right _ (List.mem_append_right _ (List.mem_append_right _ (List.mem_append_right _ (List.mem_append_right _ (List.mem_append_right _ (List.mem_append_right _ (List.mem_append_right _ (List.mem_append_left _ (List.mem_of_getElem? (l := tables_1_13) (i := 134) rfl))))))))))))))) rfl
theorem d_Mo_small_0 : decode b_Mo_small 0 = .ok (.aload_n 1, 1) := by decide +kernel
theorem d_Mo_small_1 : decode b_Mo_small 1 = .ok (.getfield 744, 3) := by decide +kernel
theorem d_Mo_small_4 : decode b_Mo_small 4 = .ok (.iload_n 2, 1) := by decide +kernel
theorem d_Mo_small_5 : decode b_Mo_small 5 = .ok (.iaload, 1) := by decide +kernel
theorem d_Mo_small_6 : decode b_Mo_small 6 = .ok (.istore 8, 2) := by decide +kernel
theorem d_Mo_small_8 : decode b_Mo_small 8 = .ok (.iload 5, 2) := by decide +kernel
theorem d_Mo_small_10 : decode b_Mo_small 10 = .ok (.tableswitch 484 0 10 #[58, 78, 484, 106, 148, 182, 215, 270, 330, 450, 330], 58) := by decide +kernel
theorem d_Mo_small_68 : decode b_Mo_small 68 = .ok (.aload 6, 2) := by decide +kernel
theorem d_Mo_small_70 : decode b_Mo_small 70 = .ok (.iload 7, 2) := by decide +kernel
theorem d_Mo_small_72 : decode b_Mo_small 72 = .ok (.aload 6, 2) := by decide +kernel
theorem d_Mo_small_74 : decode b_Mo_small 74 = .ok (.iload 8, 2) := by decide +kernel
theorem d_Mo_small_76 : decode b_Mo_small 76 = .ok (.iload 4, 2) := by decide +kernel
theorem d_Mo_small_78 : decode b_Mo_small 78 = .ok (.invokestatic 482, 3) := by decide +kernel
theorem d_Mo_small_81 : decode b_Mo_small 81 = .ok (.iadd, 1) := by decide +kernel
theorem d_Mo_small_82 : decode b_Mo_small 82 = .ok (.invokevirtual 719, 3) := by decide +kernel
theorem d_Mo_small_85 : decode b_Mo_small 85 = .ok (.goto 431, 3) := by decide +kernel
theorem d_Mo_small_88 : decode b_Mo_small 88 = .ok (.aload_n 0, 1) := by decide +kernel
theorem d_Mo_small_89 : decode b_Mo_small 89 = .ok (.iload_n 3, 1) := by decide +kernel
theorem d_Mo_small_90 : decode b_Mo_small 90 = .ok (.iload 4, 2) := by decide +kernel
theorem d_Mo_small_92 : decode b_Mo_small 92 = .ok (.invokestatic 508, 3) := by decide +kernel
theorem d_Mo_small_95 : decode b_Mo_small 95 = .ok (.invokevirtual 905, 3) := by decide +kernel
theorem d_Mo_small_98 : decode b_Mo_small 98 = .ok (.aload 6, 2) := by decide +kernel
theorem d_Mo_small_100 : decode b_Mo_small 100 = .ok (.iload 7, 2) := by decide +kernel
theorem d_Mo_small_102 : decode b_Mo_small 102 = .ok (.aload_n 0, 1) := by decide +kernel
theorem d_Mo_small_103 : decode b_Mo_small 103 = .ok (.getfield 437, 3) := by decide +kernel
theorem d_Mo_small_106 : decode b_Mo_small 106 = .ok (.aload_n 0, 1) := by decide +kernel
theorem d_Mo_small_107 : decode b_Mo_small 107 = .ok (.getfield 440, 3) := by decide +kernel
theorem d_Mo_small_110 : decode b_Mo_small 110 = .ok (.invokevirtual 470, 3) := by decide +kernel
theorem d_Mo_small_113 : decode b_Mo_small 113 = .ok (.goto 403, 3) := by decide +kernel
theorem d_Mo_small_116 : decode b_Mo_small 116 = .ok (.aload 6, 2) := by decide +kernel
theorem d_Mo_small_118 : decode b_Mo_small 118 = .ok (.iload 7, 2) := by decide +kernel
theorem d_Mo_small_120 : decode b_Mo_small 120 = .ok (.iload 4, 2) := by decide +kernel
theorem d_Mo_small_122 : decode b_Mo_small 122 = .ok (.invokestatic 482, 3) := by decide +kernel
theorem d_Mo_small_125 : decode b_Mo_small 125 = .ok (.ifCond .eq 7, 3) := by decide +kernel
theorem d_Mo_small_128 : decode b_Mo_small 128 = .ok (.iconst 2, 1) := by decide +kernel
theorem d_Mo_small_129 : decode b_Mo_small 129 = .ok (.goto 4, 3) := by decide +kernel
theorem d_Mo_small_132 : decode b_Mo_small 132 = .ok (.iconst 1, 1) := by decide +kernel
theorem d_Mo_small_133 : decode b_Mo_small 133 = .ok (.lconst 0, 1) := by decide +kernel
theorem d_Mo_small_134 : decode b_Mo_small 134 = .ok (.invokevirtual 470, 3) := by decide +kernel
theorem d_Mo_small_137 : decode b_Mo_small 137 = .ok (.iload 4, 2) := by decide +kernel
theorem d_Mo_small_139 : decode b_Mo_small 139 = .ok (.invokestatic 479, 3) := by decide +kernel
theorem d_Mo_small_142 : decode b_Mo_small 142 = .ok (.ifCond .eq 374, 3) := by decide +kernel
theorem d_Mo_small_145 : decode b_Mo_small 145 = .ok (.aload_n 1, 1) := by decide +kernel
theorem d_Mo_small_146 : decode b_Mo_small 146 = .ok (.getfield 758, 3) := by decide +kernel
theorem d_Mo_small_149 : decode b_Mo_small 149 = .ok (.iload_n 2, 1) := by decide +kernel
theorem d_Mo_small_150 : decode b_Mo_small 150 = .ok (.dup2, 1) := by decide +kernel
theorem d_Mo_small_151 : decode b_Mo_small 151 = .ok (.iaload, 1) := by decide +kernel
theorem d_Mo_small_152 : decode b_Mo_small 152 = .ok (.iconst 1, 1) := by decide +kernel
theorem d_Mo_small_153 : decode b_Mo_small 153 = .ok (.iadd, 1) := by decide +kernel
theorem d_Mo_small_154 : decode b_Mo_small 154 = .ok (.iastore, 1) := by decide +kernel
theorem d_Mo_small_155 : decode b_Mo_small 155 = .ok (.goto 361, 3) := by decide +kernel
theorem d_Mo_small_158 : decode b_Mo_small 158 = .ok (.iconst 0, 1) := by decide +kernel
theorem d_Mo_small_159 : decode b_Mo_small 159 = .ok (.istore 9, 2) := by decide +kernel
theorem d_Mo_small_161 : decode b_Mo_small 161 = .ok (.iload 9, 2) := by decide +kernel
theorem d_Mo_small_163 : decode b_Mo_small 163 = .ok (.iload 4, 2) := by decide +kernel
theorem d_Mo_small_165 : decode b_Mo_small 165 = .ok (.invokestatic 482, 3) := by decide +kernel
theorem d_Mo_small_168 : decode b_Mo_small 168 = .ok (.if_icmp .gt 21, 3) := by decide +kernel
theorem d_Mo_small_171 : decode b_Mo_small 171 = .ok (.aload 6, 2) := by decide +kernel
theorem d_Mo_small_173 : decode b_Mo_small 173 = .ok (.iload 7, 2) := by decide +kernel
theorem d_Mo_small_175 : decode b_Mo_small 175 = .ok (.iload 9, 2) := by decide +kernel
theorem d_Mo_small_177 : decode b_Mo_small 177 = .ok (.iadd, 1) := by decide +kernel
theorem d_Mo_small_178 : decode b_Mo_small 178 = .ok (.iconst 0, 1) := by decide +kernel
theorem d_Mo_small_179 : decode b_Mo_small 179 = .ok (.lconst 0, 1) := by decide +kernel
theorem d_Mo_small_180 : decode b_Mo_small 180 = .ok (.invokevirtual 470, 3) := by decide +kernel
theorem d_Mo_small_183 : decode b_Mo_small 183 = .ok (.iinc 9 1, 3) := by decide +kernel
theorem d_Mo_small_186 : decode b_Mo_small 186 = .ok (.goto (-25), 3) := by decide +kernel
theorem d_Mo_small_189 : decode b_Mo_small 189 = .ok (.goto 327, 3) := by decide +kernel
theorem d_Mo_small_192 : decode b_Mo_small 192 = .ok (.aload_n 0, 1) := by decide +kernel
theorem d_Mo_small_193 : decode b_Mo_small 193 = .ok (.aload_n 0, 1) := by decide +kernel
theorem d_Mo_small_194 : decode b_Mo_small 194 = .ok (.aload_n 1, 1) := by decide +kernel
theorem d_Mo_small_195 : decode b_Mo_small 195 = .ok (.iload_n 2, 1) := by decide +kernel
theorem d_Mo_small_196 : decode b_Mo_small 196 = .ok (.iload 4, 2) := by decide +kernel
theorem d_Mo_small_198 : decode b_Mo_small 198 = .ok (.invokestatic 482, 3) := by decide +kernel
theorem d_Mo_small_201 : decode b_Mo_small 201 = .ok (.invokevirtual 925, 3) := by decide +kernel
theorem d_Mo_small_204 : decode b_Mo_small 204 = .ok (.invokevirtual 594, 3) := by decide +kernel
theorem d_Mo_small_207 : decode b_Mo_small 207 = .ok (.aload 6, 2) := by decide +kernel
theorem d_Mo_small_209 : decode b_Mo_small 209 = .ok (.iload 7, 2) := by decide +kernel
theorem d_Mo_small_211 : decode b_Mo_small 211 = .ok (.aload_n 0, 1) := by decide +kernel
theorem d_Mo_small_212 : decode b_Mo_small 212 = .ok (.getfield 222, 3) := by decide +kernel
theorem d_Mo_small_215 : decode b_Mo_small 215 = .ok (.aload_n 0, 1) := by decide +kernel
theorem d_Mo_small_216 : decode b_Mo_small 216 = .ok (.getfield 225, 3) := by decide +kernel
theorem d_Mo_small_219 : decode b_Mo_small 219 = .ok (.invokevirtual 470, 3) := by decide +kernel
theorem d_Mo_small_222 : decode b_Mo_small 222 = .ok (.goto 294, 3) := by decide +kernel
theorem d_Mo_small_225 : decode b_Mo_small 225 = .ok (.aload_n 0, 1) := by decide +kernel
theorem d_Mo_small_226 : decode b_Mo_small 226 = .ok (.aload_n 1, 1) := by decide +kernel
theorem d_Mo_small_227 : decode b_Mo_small 227 = .ok (.iload_n 2, 1) := by decide +kernel
theorem d_Mo_small_228 : decode b_Mo_small 228 = .ok (.iload_n 3, 1) := by decide +kernel
theorem d_Mo_small_229 : decode b_Mo_small 229 = .ok (.iload 4, 2) := by decide +kernel
theorem d_Mo_small_231 : decode b_Mo_small 231 = .ok (.invokestatic 479, 3) := by decide +kernel
theorem d_Mo_small_234 : decode b_Mo_small 234 = .ok (.invokevirtual 929, 3) := by decide +kernel
theorem d_Mo_small_237 : decode b_Mo_small 237 = .ok (.aload_n 0, 1) := by decide +kernel
theorem d_Mo_small_238 : decode b_Mo_small 238 = .ok (.aload_n 0, 1) := by decide +kernel
theorem d_Mo_small_239 : decode b_Mo_small 239 = .ok (.aload_n 1, 1) := by decide +kernel
theorem d_Mo_small_240 : decode b_Mo_small 240 = .ok (.iload_n 2, 1) := by decide +kernel
theorem d_Mo_small_241 : decode b_Mo_small 241 = .ok (.iload 4, 2) := by decide +kernel
theorem d_Mo_small_243 : decode b_Mo_small 243 = .ok (.invokestatic 482, 3) := by decide +kernel
theorem d_Mo_small_246 : decode b_Mo_small 246 = .ok (.invokevirtual 925, 3) := by decide +kernel
theorem d_Mo_small_249 : decode b_Mo_small 249 = .ok (.invokevirtual 594, 3) := by decide +kernel
theorem d_Mo_small_252 : decode b_Mo_small 252 = .ok (.aload_n 0, 1) := by decide +kernel
theorem d_Mo_small_253 : decode b_Mo_small 253 = .ok (.aload_n 0, 1) := by decide +kernel
theorem d_Mo_small_254 : decode b_Mo_small 254 = .ok (.getfield 222, 3) := by decide +kernel
theorem d_Mo_small_257 : decode b_Mo_small 257 = .ok (.aload_n 0, 1) := by decide +kernel
theorem d_Mo_small_258 : decode b_Mo_small 258 = .ok (.getfield 225, 3) := by decide +kernel
theorem d_Mo_small_261 : decode b_Mo_small 261 = .ok (.aload_n 0, 1) := by decide +kernel
theorem d_Mo_small_262 : decode b_Mo_small 262 = .ok (.getfield 437, 3) := by decide +kernel
theorem d_Mo_small_265 : decode b_Mo_small 265 = .ok (.aload_n 0, 1) := by decide +kernel
theorem d_Mo_small_266 : decode b_Mo_small 266 = .ok (.getfield 440, 3) := by decide +kernel
theorem d_Mo_small_269 : decode b_Mo_small 269 = .ok (.iload 4, 2) := by decide +kernel
theorem d_Mo_small_271 : decode b_Mo_small 271 = .ok (.invokestatic 495, 3) := by decide +kernel
theorem d_Mo_small_274 : decode b_Mo_small 274 = .ok (.invokevirtual 932, 3) := by decide +kernel
theorem d_Mo_small_277 : decode b_Mo_small 277 = .ok (.goto 239, 3) := by decide +kernel
theorem d_Mo_small_280 : decode b_Mo_small 280 = .ok (.aload_n 0, 1) := by decide +kernel
theorem d_Mo_small_281 : decode b_Mo_small 281 = .ok (.aload_n 1, 1) := by decide +kernel
theorem d_Mo_small_282 : decode b_Mo_small 282 = .ok (.iload_n 2, 1) := by decide +kernel
theorem d_Mo_small_283 : decode b_Mo_small 283 = .ok (.iload_n 3, 1) := by decide +kernel
theorem d_Mo_small_284 : decode b_Mo_small 284 = .ok (.iload 4, 2) := by decide +kernel
theorem d_Mo_small_286 : decode b_Mo_small 286 = .ok (.invokestatic 479, 3) := by decide +kernel
theorem d_Mo_small_289 : decode b_Mo_small 289 = .ok (.invokevirtual 929, 3) := by decide +kernel
theorem d_Mo_small_292 : decode b_Mo_small 292 = .ok (.aload_n 0, 1) := by decide +kernel
theorem d_Mo_small_293 : decode b_Mo_small 293 = .ok (.aload 6, 2) := by decide +kernel
theorem d_Mo_small_295 : decode b_Mo_small 295 = .ok (.getfield 585, 3) := by decide +kernel
theorem d_Mo_small_298 : decode b_Mo_small 298 = .ok (.iload 8, 2) := by decide +kernel
theorem d_Mo_small_300 : decode b_Mo_small 300 = .ok (.iload 4, 2) := by decide +kernel
theorem d_Mo_small_302 : decode b_Mo_small 302 = .ok (.invokestatic 482, 3) := by decide +kernel
theorem d_Mo_small_305 : decode b_Mo_small 305 = .ok (.iadd, 1) := by decide +kernel
theorem d_Mo_small_306 : decode b_Mo_small 306 = .ok (.baload, 1) := by decide +kernel
theorem d_Mo_small_307 : decode b_Mo_small 307 = .ok (.aload 6, 2) := by decide +kernel
theorem d_Mo_small_309 : decode b_Mo_small 309 = .ok (.getfield 588, 3) := by decide +kernel
theorem d_Mo_small_312 : decode b_Mo_small 312 = .ok (.iload 8, 2) := by decide +kernel
theorem d_Mo_small_314 : decode b_Mo_small 314 = .ok (.iload 4, 2) := by decide +kernel
theorem d_Mo_small_316 : decode b_Mo_small 316 = .ok (.invokestatic 482, 3) := by decide +kernel
theorem d_Mo_small_319 : decode b_Mo_small 319 = .ok (.iadd, 1) := by decide +kernel
theorem d_Mo_small_320 : decode b_Mo_small 320 = .ok (.laload, 1) := by decide +kernel
theorem d_Mo_small_321 : decode b_Mo_small 321 = .ok (.aload_n 0, 1) := by decide +kernel
theorem d_Mo_small_322 : decode b_Mo_small 322 = .ok (.getfield 437, 3) := by decide +kernel
theorem d_Mo_small_325 : decode b_Mo_small 325 = .ok (.aload_n 0, 1) := by decide +kernel
theorem d_Mo_small_326 : decode b_Mo_small 326 = .ok (.getfield 440, 3) := by decide +kernel
theorem d_Mo_small_329 : decode b_Mo_small 329 = .ok (.iload 4, 2) := by decide +kernel
theorem d_Mo_small_331 : decode b_Mo_small 331 = .ok (.invokestatic 495, 3) := by decide +kernel
theorem d_Mo_small_334 : decode b_Mo_small 334 = .ok (.invokevirtual 932, 3) := by decide +kernel
theorem d_Mo_small_337 : decode b_Mo_small 337 = .ok (.goto 179, 3) := by decide +kernel
theorem d_Mo_small_340 : decode b_Mo_small 340 = .ok (.aload_n 0, 1) := by decide +kernel
theorem d_Mo_small_341 : decode b_Mo_small 341 = .ok (.aload_n 1, 1) := by decide +kernel
theorem d_Mo_small_342 : decode b_Mo_small 342 = .ok (.iload_n 2, 1) := by decide +kernel
theorem d_Mo_small_343 : decode b_Mo_small 343 = .ok (.iload_n 3, 1) := by decide +kernel
theorem d_Mo_small_344 : decode b_Mo_small 344 = .ok (.iload 4, 2) := by decide +kernel
theorem d_Mo_small_346 : decode b_Mo_small 346 = .ok (.invokestatic 482, 3) := by decide +kernel
theorem d_Mo_small_349 : decode b_Mo_small 349 = .ok (.invokevirtual 929, 3) := by decide +kernel
theorem d_Mo_small_352 : decode b_Mo_small 352 = .ok (.aload_n 0, 1) := by decide +kernel
theorem d_Mo_small_353 : decode b_Mo_small 353 = .ok (.getfield 437, 3) := by decide +kernel
theorem d_Mo_small_356 : decode b_Mo_small 356 = .ok (.istore 9, 2) := by decide +kernel
theorem d_Mo_small_358 : decode b_Mo_small 358 = .ok (.aload_n 0, 1) := by decide +kernel
theorem d_Mo_small_359 : decode b_Mo_small 359 = .ok (.getfield 440, 3) := by decide +kernel
theorem d_Mo_small_362 : decode b_Mo_small 362 = .ok (.lstore 10, 2) := by decide +kernel
theorem d_Mo_small_364 : decode b_Mo_small 364 = .ok (.aload_n 0, 1) := by decide +kernel
theorem d_Mo_small_365 : decode b_Mo_small 365 = .ok (.aload_n 1, 1) := by decide +kernel
theorem d_Mo_small_366 : decode b_Mo_small 366 = .ok (.iload_n 2, 1) := by decide +kernel
theorem d_Mo_small_367 : decode b_Mo_small 367 = .ok (.iload_n 3, 1) := by decide +kernel
theorem d_Mo_small_368 : decode b_Mo_small 368 = .ok (.iload 4, 2) := by decide +kernel
theorem d_Mo_small_370 : decode b_Mo_small 370 = .ok (.invokestatic 479, 3) := by decide +kernel
theorem d_Mo_small_373 : decode b_Mo_small 373 = .ok (.invokevirtual 929, 3) := by decide +kernel
theorem d_Mo_small_376 : decode b_Mo_small 376 = .ok (.iload 5, 2) := by decide +kernel
theorem d_Mo_small_378 : decode b_Mo_small 378 = .ok (.bipush 8, 2) := by decide +kernel
theorem d_Mo_small_380 : decode b_Mo_small 380 = .ok (.if_icmp .ne 45, 3) := by decide +kernel
theorem d_Mo_small_383 : decode b_Mo_small 383 = .ok (.aload_n 0, 1) := by decide +kernel
theorem d_Mo_small_384 : decode b_Mo_small 384 = .ok (.aload_n 0, 1) := by decide +kernel
theorem d_Mo_small_385 : decode b_Mo_small 385 = .ok (.aload_n 1, 1) := by decide +kernel
theorem d_Mo_small_386 : decode b_Mo_small 386 = .ok (.iload_n 2, 1) := by decide +kernel
theorem d_Mo_small_387 : decode b_Mo_small 387 = .ok (.iload 4, 2) := by decide +kernel
theorem d_Mo_small_389 : decode b_Mo_small 389 = .ok (.invokestatic 495, 3) := by decide +kernel
theorem d_Mo_small_392 : decode b_Mo_small 392 = .ok (.invokevirtual 925, 3) := by decide +kernel
theorem d_Mo_small_395 : decode b_Mo_small 395 = .ok (.invokevirtual 594, 3) := by decide +kernel
theorem d_Mo_small_398 : decode b_Mo_small 398 = .ok (.aload_n 0, 1) := by decide +kernel
theorem d_Mo_small_399 : decode b_Mo_small 399 = .ok (.aload_n 0, 1) := by decide +kernel
theorem d_Mo_small_400 : decode b_Mo_small 400 = .ok (.getfield 222, 3) := by decide +kernel
theorem d_Mo_small_403 : decode b_Mo_small 403 = .ok (.aload_n 0, 1) := by decide +kernel
theorem d_Mo_small_404 : decode b_Mo_small 404 = .ok (.getfield 225, 3) := by decide +kernel
theorem d_Mo_small_407 : decode b_Mo_small 407 = .ok (.iload 9, 2) := by decide +kernel
theorem d_Mo_small_409 : decode b_Mo_small 409 = .ok (.lload 10, 2) := by decide +kernel
theorem d_Mo_small_411 : decode b_Mo_small 411 = .ok (.aload_n 0, 1) := by decide +kernel
theorem d_Mo_small_412 : decode b_Mo_small 412 = .ok (.getfield 437, 3) := by decide +kernel
theorem d_Mo_small_415 : decode b_Mo_small 415 = .ok (.aload_n 0, 1) := by decide +kernel
theorem d_Mo_small_416 : decode b_Mo_small 416 = .ok (.getfield 440, 3) := by decide +kernel
theorem d_Mo_small_419 : decode b_Mo_small 419 = .ok (.invokevirtual 936, 3) := by decide +kernel
theorem d_Mo_small_422 : decode b_Mo_small 422 = .ok (.goto 94, 3) := by decide +kernel
theorem d_Mo_small_425 : decode b_Mo_small 425 = .ok (.aload_n 0, 1) := by decide +kernel
theorem d_Mo_small_426 : decode b_Mo_small 426 = .ok (.aload 6, 2) := by decide +kernel
theorem d_Mo_small_428 : decode b_Mo_small 428 = .ok (.getfield 585, 3) := by decide +kernel
theorem d_Mo_small_431 : decode b_Mo_small 431 = .ok (.iload 7, 2) := by decide +kernel
theorem d_Mo_small_433 : decode b_Mo_small 433 = .ok (.baload, 1) := by decide +kernel
theorem d_Mo_small_434 : decode b_Mo_small 434 = .ok (.aload 6, 2) := by decide +kernel
theorem d_Mo_small_436 : decode b_Mo_small 436 = .ok (.getfield 588, 3) := by decide +kernel
theorem d_Mo_small_439 : decode b_Mo_small 439 = .ok (.iload 7, 2) := by decide +kernel
theorem d_Mo_small_441 : decode b_Mo_small 441 = .ok (.laload, 1) := by decide +kernel
theorem d_Mo_small_442 : decode b_Mo_small 442 = .ok (.iload 9, 2) := by decide +kernel
theorem d_Mo_small_444 : decode b_Mo_small 444 = .ok (.lload 10, 2) := by decide +kernel
theorem d_Mo_small_446 : decode b_Mo_small 446 = .ok (.aload_n 0, 1) := by decide +kernel
theorem d_Mo_small_447 : decode b_Mo_small 447 = .ok (.getfield 437, 3) := by decide +kernel
theorem d_Mo_small_450 : decode b_Mo_small 450 = .ok (.aload_n 0, 1) := by decide +kernel
theorem d_Mo_small_451 : decode b_Mo_small 451 = .ok (.getfield 440, 3) := by decide +kernel
theorem d_Mo_small_454 : decode b_Mo_small 454 = .ok (.invokevirtual 936, 3) := by decide +kernel
theorem d_Mo_small_457 : decode b_Mo_small 457 = .ok (.goto 59, 3) := by decide +kernel
theorem d_Mo_small_460 : decode b_Mo_small 460 = .ok (.aload_n 0, 1) := by decide +kernel
theorem d_Mo_small_461 : decode b_Mo_small 461 = .ok (.aload_n 0, 1) := by decide +kernel
theorem d_Mo_small_462 : decode b_Mo_small 462 = .ok (.aload_n 1, 1) := by decide +kernel
theorem d_Mo_small_463 : decode b_Mo_small 463 = .ok (.iload_n 2, 1) := by decide +kernel
theorem d_Mo_small_464 : decode b_Mo_small 464 = .ok (.iload 4, 2) := by decide +kernel
theorem d_Mo_small_466 : decode b_Mo_small 466 = .ok (.invokestatic 482, 3) := by decide +kernel
theorem d_Mo_small_469 : decode b_Mo_small 469 = .ok (.invokevirtual 925, 3) := by decide +kernel
theorem d_Mo_small_472 : decode b_Mo_small 472 = .ok (.aload 6, 2) := by decide +kernel
theorem d_Mo_small_474 : decode b_Mo_small 474 = .ok (.getfield 585, 3) := by decide +kernel
theorem d_Mo_small_477 : decode b_Mo_small 477 = .ok (.iload 7, 2) := by decide +kernel
theorem d_Mo_small_479 : decode b_Mo_small 479 = .ok (.baload, 1) := by decide +kernel
theorem d_Mo_small_480 : decode b_Mo_small 480 = .ok (.aload 6, 2) := by decide +kernel
theorem d_Mo_small_482 : decode b_Mo_small 482 = .ok (.getfield 588, 3) := by decide +kernel
theorem d_Mo_small_485 : decode b_Mo_small 485 = .ok (.iload 7, 2) := by decide +kernel
theorem d_Mo_small_487 : decode b_Mo_small 487 = .ok (.laload, 1) := by decide +kernel
theorem d_Mo_small_488 : decode b_Mo_small 488 = .ok (.invokevirtual 940, 3) := by decide +kernel
theorem d_Mo_small_491 : decode b_Mo_small 491 = .ok (.goto 25, 3) := by decide +kernel
theorem d_Mo_small_494 : decode b_Mo_small 494 = .ok (.aload_n 0, 1) := by decide +kernel
theorem d_Mo_small_495 : decode b_Mo_small 495 = .ok (.invokevirtual 675, 3) := by decide +kernel
theorem d_Mo_small_498 : decode b_Mo_small 498 = .ok (.istore 12, 2) := by decide +kernel
theorem d_Mo_small_500 : decode b_Mo_small 500 = .ok (.iload 12, 2) := by decide +kernel
theorem d_Mo_small_502 : decode b_Mo_small 502 = .ok (.ifCond .lt 14, 3) := by decide +kernel
theorem d_Mo_small_505 : decode b_Mo_small 505 = .ok (.aload 6, 2) := by decide +kernel
theorem d_Mo_small_507 : decode b_Mo_small 507 = .ok (.iload 7, 2) := by decide +kernel
theorem d_Mo_small_509 : decode b_Mo_small 509 = .ok (.iconst 5, 1) := by decide +kernel
theorem d_Mo_small_510 : decode b_Mo_small 510 = .ok (.iload 12, 2) := by decide +kernel
theorem d_Mo_small_512 : decode b_Mo_small 512 = .ok (.i2l, 1) := by decide +kernel
theorem d_Mo_small_513 : decode b_Mo_small 513 = .ok (.invokevirtual 470, 3) := by decide +kernel
theorem d_Mo_small_516 : decode b_Mo_small 516 = .ok (.return_, 1) := by decide +kernel
theorem kw_490 : Cond.methodLink R_Mo 925 y_Mo_up ∈ wA := kinm (show _ ∈ tables_1 from (List.mem_append_right _ (List.mem_append_right _ (List.mem_append_right _ (List.mem_append_right _ (List.mem_append_right _ (List.mem_append_right _ (List.mem_append_right _ (List.mem_append_right _ (List.mem_append_right _ (List.mem_append_right _ (List.mem_append_right _ (List.mem_append_right _ (List.mem_append_left _ (List.mem_of_getElem? (l := tables_1_13) (i := 139) (by decide +kernel)))))))))))))))) (by decide +kernel)
theorem kw_491 : Cond.methodLink R_Mo 936 y_Mo_write ∈ wA := kinm (show _ ∈ tables_1 from (List.mem_append_right _ (List.mem_append_right _ (List.mem_append_right _ (List.mem_append_right _ (List.mem_append_right _ (List.mem_append_right _ (List.mem_append_right _ (List.mem_append_right _ (List.mem_append_right _ (List.mem_append_right _ (List.mem_append_right _ (List.mem_append_right _ (List.mem_append_left _ (List.mem_of_getElem? (l := tables_1_13) (i := 155) (by decide +kernel)))))))))))))))) (by decide +kernel)
theorem kw_492 : Cond.methodLink R_Mo 940 y_Mo_store ∈ wA := kinm (show _ ∈ tables_1 from (List.mem_append_right _ (List.mem_append_right _ (List.mem_append_right _ (List.mem_append_right _ (List.mem_append_right _ (List.mem_append_right _ (List.mem_append_right _ (List.mem_append_right _ (List.mem_append_right _ (List.mem_append_right _ (List.mem_append_right _ (List.mem_append_right _ (List.mem_append_left _ (List.mem_of_getElem? (l := tables_1_13) (i := 159) (by decide +kernel)))))))))))))))) (by decide +kernel)
theorem kw_493 : Cond.methodLink R_Mo 675 y_Mo_table ∈ wA := kinm (show _ ∈ tables_1 from (List.mem_append_right _ (List.mem_append_right _ (List.mem_append_right _ (List.mem_append_right _ (List.mem_append_right _ (List.mem_append_right _ (List.mem_append_right _ (List.mem_append_right _ (List.mem_append_right _ (List.mem_append_right _ (List.mem_append_left _ (List.mem_of_getElem? (l := tables_1_11) (i := 228) (by decide +kernel)))))))))))))) (by decide +kernel)
theorem kw_494 : Cond.instanceMethod y_Mo_small ∈ wA := kinm (show _ ∈ tables_1 from (List.mem_append_right _ (List.mem_append_right _ (List.mem_append_right _ (List.mem_append_right _ (List.mem_append_right _ (List.mem_append_right _ (List.mem_append_right _ (List.mem_append_right _ (List.mem_append_right _ (List.mem_append_right _ (List.mem_append_right _ (List.mem_append_right _ (List.mem_append_left _ (List.mem_of_getElem? (l := tables_1_13) (i := 133) (by decide +kernel)))))))))))))))) (by decide +kernel)
theorem kw_495 : Cond.selects R_Mo y_Mo_small y_Mo_small ∈ wA := kinp 204 (by decide +kernel) (by decide +kernel)
theorem cv_Mo_small : CV y_Mo_small b_Mo_small 13 none 7 := ⟨kw_494, kw_495, kw_17, k_Mo_small, by decide +kernel⟩
theorem j_Mo_small_j133 {X : Cx} {q : PL} (g : Gd X y_Mo_small b_Mo_small 13 none 9 219 R_Mo) {o : (Unit) × S1} (hR : Rt X q o.2 none) (l1 : Int32) (l2 : Int32) (l4 : Int32) (k0 : Int32) (k1 : Int32) (k2r : Nat) (k2 : Int32) (s : S1) (hp0 : 0 ≤ l1 ∧ l1 < 33) (hp1 : VOK k2r k2) (ls : Array Slot) (hl : lv_has ls 13 [(1, .ref (q.1 28 l1)), (2, .int l2), (4, .int l4)]) (h : M_Mo_small_j133 l1 l2 l4 k0 k1 k2r k2 s = some o) : WW X q s 133 ls [.int k0, .int k1, .ref (q.1 k2r k2)] := by
  unfold M_Mo_small_j133 at h
  refine ww_lconst (pc := 133) g.1 (v := 0) d_Mo_small_133 (by decide) ?_
  obtain ⟨v134, s, hc134, h⟩ := oB_of h
  refine ww_callV (pc := 134) (rest := []) g cv_Va_set (Or.inl kw_99) (cl_Va hp1) (vok_p hp1).1 (ct_Va_set hp1 hc134) ⟨by decide, by decide⟩ rfl hl.1 (Nat.le_of_ble_eq_true rfl) d_Mo_small_134 rfl ?_
  refine ww_st (st' := []) rfl ?_
  refine ww_iload (pc := 137) g.1 d_Mo_small_137 (lv_at hl 2 rfl) ?_
  obtain ⟨v139, s, hc139, h⟩ := oB_of h
  refine ww_callS (pc := 139) (rest := []) g cs_Mo_c (Or.inl kw_311) (ct_Mo_c hc139) ⟨by decide, by decide⟩ rfl hl.1 (Nat.le_of_ble_eq_true rfl) d_Mo_small_139 rfl ?_
  refine ww_st (st' := [.int v139]) rfl ?_
  refine ww_if_eq (pc := 142) (tgt := 516) g.1 d_Mo_small_142 (by decide) h (fun c h => ?_) (fun c h => ?_)
  · exact ww_vretH (pc := 516) g h hR d_Mo_small_516
  · refine ww_aload_n (pc := 145) g.1 d_Mo_small_145 rfl (lv_at hl 0 rfl) ?_
    refine ww_gR (pc := 146) g (k := 13) cl_Th (pt rfl rfl hp0) (by decide) (Or.inl kw_274) (f := 3597) (t := 32) rfl rfl rfl d_Mo_small_146 ?_
    refine ww_iload_n (pc := 149) g.1 d_Mo_small_149 rfl (lv_at hl 1 rfl) ?_
    refine ww_dup2_11 (pc := 150) g.1 d_Mo_small_150 rfl rfl ?_
    refine ww_ai (pc := 151) g (pt rfl rfl hp0) rfl rfl d_Mo_small_151 h fun v151 h => ?_
    refine ww_iconst (pc := 152) g.1 (v := 1) d_Mo_small_152 (by decide) ?_
    refine ww_iadd (pc := 153) g.1 d_Mo_small_153 ?_
    refine ww_si (pc := 154) g (pt rfl rfl hp0) rfl rfl d_Mo_small_154 h fun s hs h => ?_
    refine ww_goto (pc := 155) (tgt := 516) g.1 d_Mo_small_155 (by decide) ?_
    exact ww_vretH (pc := 516) g h hR d_Mo_small_516

theorem lp_Mo_small_L161 {X : Cx} {q : PL} (g : Gd X y_Mo_small b_Mo_small 13 none 9 219 R_Mo) (x : Int32 × Nat × Int32 × Int32 × Int32) (s : S1) (o : ((Int32 × Nat × Int32 × Int32 × Int32) ⊕ ((Unit))) × S1) (h : M_Mo_small_L161 x s = some o) (hR : (Sum.elim (fun y : Int32 × Nat × Int32 × Int32 × Int32 => ∀ ls : Array Slot, (VOK y.2.1 y.2.2.1) → lv_has ls 13 [(4, .int y.1), (6, .ref (q.1 y.2.1 y.2.2.1)), (7, .int y.2.2.2.1), (9, .int y.2.2.2.2)] → WW X q o.2 161 ls []) (fun y : Unit => ∀ ls : Array Slot, lv_has ls 13 [] → WW X q o.2 189 ls []) o.1)) : ∀ ls : Array Slot, (VOK x.2.1 x.2.2.1) → lv_has ls 13 [(4, .int x.1), (6, .ref (q.1 x.2.1 x.2.2.1)), (7, .int x.2.2.2.1), (9, .int x.2.2.2.2)] → WW X q s 161 ls [] := by
  intro ls hp0 hl
  unfold M_Mo_small_L161 at h
  refine ww_iload (pc := 161) g.1 d_Mo_small_161 (lv_at hl 3 rfl) ?_
  refine ww_iload (pc := 163) g.1 d_Mo_small_163 (lv_at hl 0 rfl) ?_
  obtain ⟨v165, s, hc165, h⟩ := oB_of h
  refine ww_callS (pc := 165) (rest := [.int x.2.2.2.2]) g cs_Mo_b (Or.inl kw_54) (ct_Mo_b hc165) ⟨by decide, by decide⟩ rfl hl.1 (Nat.le_of_ble_eq_true rfl) d_Mo_small_165 rfl ?_
  refine ww_st (st' := [.int v165, .int x.2.2.2.2]) rfl ?_
  refine ww_icmp_gt (pc := 168) (tgt := 189) g.1 d_Mo_small_168 (by decide) h (fun c h => ?_) (fun c h => ?_)
  · rw [oR_eq h] at hR
    exact hR ls (lv_sub hl [] rfl)
  · refine ww_aload (pc := 171) g.1 d_Mo_small_171 (lv_at hl 1 rfl) ?_
    refine ww_iload (pc := 173) g.1 d_Mo_small_173 (lv_at hl 2 rfl) ?_
    refine ww_iload (pc := 175) g.1 d_Mo_small_175 (lv_at hl 3 rfl) ?_
    refine ww_iadd (pc := 177) g.1 d_Mo_small_177 ?_
    refine ww_iconst (pc := 178) g.1 (v := 0) d_Mo_small_178 (by decide) ?_
    refine ww_lconst (pc := 179) g.1 (v := 0) d_Mo_small_179 (by decide) ?_
    obtain ⟨v180, s, hc180, h⟩ := oB_of h
    refine ww_callV (pc := 180) (rest := []) g cv_Va_set (Or.inl kw_99) (cl_Va hp0) (vok_p hp0).1 (ct_Va_set hp0 hc180) ⟨by decide, by decide⟩ rfl hl.1 (Nat.le_of_ble_eq_true rfl) d_Mo_small_180 rfl ?_
    refine ww_st (st' := []) rfl ?_
    refine ww_iinc (pc := 183) g.1 (v := x.2.2.2.2 + 1) (lv' := [(9, .int (x.2.2.2.2 + 1)), (4, .int x.1), (6, .ref (q.1 x.2.1 x.2.2.1)), (7, .int x.2.2.2.1)]) d_Mo_small_183 hl (k := 3) rfl (by rfl) (by decide) rfl fun ls hl => ?_
    refine ww_goto (pc := 186) (tgt := 161) g.1 d_Mo_small_186 (by decide) ?_
    rw [oR_eq h] at hR
    exact hR ls hp0 (lv_sub hl [1, 2, 3, 0] rfl)

theorem ct_Mo_small {l : Launch} {P : PP} {q : PL} {s s' : S1} {l1 : Int32} {l2 : Int32} {l3 : Int32} {l4 : Int32} {l5 : Int32} {l6r : Nat} {l6 : Int32} {l7 : Int32} (hp0 : 0 ≤ l1 ∧ l1 < 33) (hp1 : VOK l6r l6) {r : Unit} (h : M_Mo_small l1 l2 l3 l4 l5 l6r l6 l7 s = some (r, s')) : Ct l y_Mo_small b_Mo_small 13 none 9 219 P q s [.ref (q.1 0 0), .ref (q.1 28 l1), .int l2, .int l3, .int l4, .int l5, .ref (q.1 l6r l6), .int l7] none q s' := by
  refine ct_of (by decide) (Nat.le_of_ble_eq_true rfl) fun X ls eP el g hR hl => ?_
  subst eP
  have hR : Rt X q ((r, s') : Unit × S1).2 none := hR
  have hl : lv_has ls 13 [(0, .ref (q.1 0 0)), (1, .ref (q.1 28 l1)), (2, .int l2), (3, .int l3), (4, .int l4), (5, .int l5), (6, .ref (q.1 l6r l6)), (7, .int l7)] := hl
  generalize (r, s') = o at h hR
  unfold M_Mo_small at h
  refine ww_aload_n (pc := 0) g.1 d_Mo_small_0 rfl (lv_at hl 1 rfl) ?_
  refine ww_gR (pc := 1) g (k := 14) cl_Th (pt rfl rfl hp0) (by decide) (Or.inl kw_254) (f := 3598) (t := 33) rfl rfl rfl d_Mo_small_1 ?_
  refine ww_iload_n (pc := 4) g.1 d_Mo_small_4 rfl (lv_at hl 2 rfl) ?_
  refine ww_ai (pc := 5) g (pt rfl rfl hp0) rfl rfl d_Mo_small_5 h fun v5 h => ?_
  refine ww_istore (pc := 6) (i := 8) g.1 (lv' := [(8, .int v5), (0, .ref (q.1 0 0)), (1, .ref (q.1 28 l1)), (2, .int l2), (3, .int l3), (4, .int l4), (5, .int l5), (6, .ref (q.1 l6r l6)), (7, .int l7)]) d_Mo_small_6 hl (by decide) rfl fun ls hl => ?_
  refine ww_iload (pc := 8) g.1 d_Mo_small_8 (lv_at hl 6 rfl) ?_
  by_cases c10_68 : l5 = 0
  · have h := oC_pos c10_68 h
    have c := c10_68
    refine ww_tableIn (pc := 10) (tgt := 68) g.1 d_Mo_small_10 (by rw [c]; decide) (by rw [c]; decide) (by rw [c]; rfl) (by decide) ?_
    refine ww_aload (pc := 68) g.1 d_Mo_small_68 (lv_at hl 7 rfl) ?_
    refine ww_iload (pc := 70) g.1 d_Mo_small_70 (lv_at hl 8 rfl) ?_
    refine ww_aload (pc := 72) g.1 d_Mo_small_72 (lv_at hl 7 rfl) ?_
    refine ww_iload (pc := 74) g.1 d_Mo_small_74 (lv_at hl 0 rfl) ?_
    refine ww_iload (pc := 76) g.1 d_Mo_small_76 (lv_at hl 5 rfl) ?_
    obtain ⟨v78, s, hc78, h⟩ := oB_of h
    refine ww_callS (pc := 78) (rest := [.int v5, .ref (q.1 l6r l6), .int l7, .ref (q.1 l6r l6)]) g cs_Mo_b (Or.inl kw_54) (ct_Mo_b hc78) ⟨by decide, by decide⟩ rfl hl.1 (Nat.le_of_ble_eq_true rfl) d_Mo_small_78 rfl ?_
    refine ww_st (st' := [.int v78, .int v5, .ref (q.1 l6r l6), .int l7, .ref (q.1 l6r l6)]) rfl ?_
    refine ww_iadd (pc := 81) g.1 d_Mo_small_81 ?_
    obtain ⟨v82, s, hc82, h⟩ := oB_of h
    refine ww_callV (pc := 82) (rest := []) g cv_Va_set_ (Or.inl kw_195) (cl_Va hp1) (vok_p hp1).1 (ct_Va_set_ hp1 hp1 hc82) ⟨by decide, by decide⟩ rfl hl.1 (Nat.le_of_ble_eq_true rfl) d_Mo_small_82 rfl ?_
    refine ww_st (st' := []) rfl ?_
    refine ww_goto (pc := 85) (tgt := 516) g.1 d_Mo_small_85 (by decide) ?_
    exact ww_vretH (pc := 516) g h hR d_Mo_small_516
  have h := oC_neg c10_68 h
  by_cases c10_88 : l5 = 1
  · have h := oC_pos c10_88 h
    have c := c10_88
    refine ww_tableIn (pc := 10) (tgt := 88) g.1 d_Mo_small_10 (by rw [c]; decide) (by rw [c]; decide) (by rw [c]; rfl) (by decide) ?_
    refine ww_aload_n (pc := 88) g.1 d_Mo_small_88 rfl (lv_at hl 1 rfl) ?_
    refine ww_iload_n (pc := 89) g.1 d_Mo_small_89 rfl (lv_at hl 4 rfl) ?_
    refine ww_iload (pc := 90) g.1 d_Mo_small_90 (lv_at hl 5 rfl) ?_
    obtain ⟨v92, s, hc92, h⟩ := oB_of h
    refine ww_callS (pc := 92) (rest := [.int l3, .ref (q.1 0 0)]) g cs_Mo_bx (Or.inl kw_314) (ct_Mo_bx hc92) ⟨by decide, by decide⟩ rfl hl.1 (Nat.le_of_ble_eq_true rfl) d_Mo_small_92 rfl ?_
    refine ww_st (st' := [.int v92, .int l3, .ref (q.1 0 0)]) rfl ?_
    obtain ⟨v95, s, hc95, h⟩ := oB_of h
    refine ww_callV (pc := 95) (rest := []) g cv_Mo_constant (Or.inl kw_255) cl_Mo (pz rfl (by decide)) (ct_Mo_constant hc95) ⟨by decide, by decide⟩ rfl hl.1 (Nat.le_of_ble_eq_true rfl) d_Mo_small_95 rfl ?_
    refine ww_st (st' := []) rfl ?_
    refine ww_aload (pc := 98) g.1 d_Mo_small_98 (lv_at hl 7 rfl) ?_
    refine ww_iload (pc := 100) g.1 d_Mo_small_100 (lv_at hl 8 rfl) ?_
    refine ww_aload_n (pc := 102) g.1 d_Mo_small_102 rfl (lv_at hl 1 rfl) ?_
    refine ww_gI (pc := 103) g (k := 98) cl_Mo (pz rfl (by decide)) (by decide) (Or.inl kw_248) (f := 98) rfl rfl d_Mo_small_103 h fun v103 h => ?_
    refine ww_aload_n (pc := 106) g.1 d_Mo_small_106 rfl (lv_at hl 1 rfl) ?_
    refine ww_gL (pc := 107) g (k := 99) cl_Mo (pz rfl (by decide)) (by decide) (Or.inl kw_249) (f := 99) rfl rfl d_Mo_small_107 h fun v107 h => ?_
    obtain ⟨v110, s, hc110, h⟩ := oB_of h
    refine ww_callV (pc := 110) (rest := []) g cv_Va_set (Or.inl kw_99) (cl_Va hp1) (vok_p hp1).1 (ct_Va_set hp1 hc110) ⟨by decide, by decide⟩ rfl hl.1 (Nat.le_of_ble_eq_true rfl) d_Mo_small_110 rfl ?_
    refine ww_st (st' := []) rfl ?_
    refine ww_goto (pc := 113) (tgt := 516) g.1 d_Mo_small_113 (by decide) ?_
    exact ww_vretH (pc := 516) g h hR d_Mo_small_516
  have h := oC_neg c10_88 h
  by_cases c10_116 : l5 = 3
  · have h := oC_pos c10_116 h
    have c := c10_116
    refine ww_tableIn (pc := 10) (tgt := 116) g.1 d_Mo_small_10 (by rw [c]; decide) (by rw [c]; decide) (by rw [c]; rfl) (by decide) ?_
    refine ww_aload (pc := 116) g.1 d_Mo_small_116 (lv_at hl 7 rfl) ?_
    refine ww_iload (pc := 118) g.1 d_Mo_small_118 (lv_at hl 8 rfl) ?_
    refine ww_iload (pc := 120) g.1 d_Mo_small_120 (lv_at hl 5 rfl) ?_
    obtain ⟨v122, s, hc122, h⟩ := oB_of h
    refine ww_callS (pc := 122) (rest := [.int l7, .ref (q.1 l6r l6)]) g cs_Mo_b (Or.inl kw_54) (ct_Mo_b hc122) ⟨by decide, by decide⟩ rfl hl.1 (Nat.le_of_ble_eq_true rfl) d_Mo_small_122 rfl ?_
    refine ww_st (st' := [.int v122, .int l7, .ref (q.1 l6r l6)]) rfl ?_
    refine ww_if_eq (pc := 125) (tgt := 132) g.1 d_Mo_small_125 (by decide) h (fun c h => ?_) (fun c h => ?_)
    · refine ww_iconst (pc := 132) g.1 (v := 1) d_Mo_small_132 (by decide) ?_
      exact j_Mo_small_j133 g hR l1 l2 l4 1 l7 l6r l6 s hp0 hp1 ls (lv_sub hl [2, 3, 5] rfl) h
    · refine ww_iconst (pc := 128) g.1 (v := 2) d_Mo_small_128 (by decide) ?_
      refine ww_goto (pc := 129) (tgt := 133) g.1 d_Mo_small_129 (by decide) ?_
      exact j_Mo_small_j133 g hR l1 l2 l4 2 l7 l6r l6 s hp0 hp1 ls (lv_sub hl [2, 3, 5] rfl) h
  have h := oC_neg c10_116 h
  by_cases c10_158 : l5 = 4
  · have h := oC_pos c10_158 h
    have c := c10_158
    refine ww_tableIn (pc := 10) (tgt := 158) g.1 d_Mo_small_10 (by rw [c]; decide) (by rw [c]; decide) (by rw [c]; rfl) (by decide) ?_
    refine ww_iconst (pc := 158) g.1 (v := 0) d_Mo_small_158 (by decide) ?_
    refine ww_istore (pc := 159) (i := 9) g.1 (lv' := [(9, .int 0), (8, .int v5), (0, .ref (q.1 0 0)), (1, .ref (q.1 28 l1)), (2, .int l2), (3, .int l3), (4, .int l4), (5, .int l5), (6, .ref (q.1 l6r l6)), (7, .int l7)]) d_Mo_small_159 hl (by decide) rfl fun ls hl => ?_
    obtain ⟨e161, s1, hw, h⟩ := oB_of h
    refine oW_rule (Wh := fun (x : Int32 × Nat × Int32 × Int32 × Int32) (s : S1) => ∀ ls : Array Slot, (VOK x.2.1 x.2.2.1) → lv_has ls 13 [(4, .int x.1), (6, .ref (q.1 x.2.1 x.2.2.1)), (7, .int x.2.2.2.1), (9, .int x.2.2.2.2)] → WW X q s 161 ls []) (We := fun (e : (Unit)) (s : S1) => ∀ ls : Array Slot, lv_has ls 13 [] → WW X q s 189 ls []) (fun x s o hb hc => lp_Mo_small_L161 (q := q) g x s o hb hc) hw ?_ ls hp1 (lv_sub hl [6, 8, 9, 0] rfl)
    clear hw hl
    clear ls
    intro ls hl
    generalize s1 = s at h ⊢
    refine ww_goto (pc := 189) (tgt := 516) g.1 d_Mo_small_189 (by decide) ?_
    exact ww_vretH (pc := 516) g h hR d_Mo_small_516
  have h := oC_neg c10_158 h
  by_cases c10_192 : l5 = 5
  · have h := oC_pos c10_192 h
    have c := c10_192
    refine ww_tableIn (pc := 10) (tgt := 192) g.1 d_Mo_small_10 (by rw [c]; decide) (by rw [c]; decide) (by rw [c]; rfl) (by decide) ?_
    refine ww_aload_n (pc := 192) g.1 d_Mo_small_192 rfl (lv_at hl 1 rfl) ?_
    refine ww_aload_n (pc := 193) g.1 d_Mo_small_193 rfl (lv_at hl 1 rfl) ?_
    refine ww_aload_n (pc := 194) g.1 d_Mo_small_194 rfl (lv_at hl 2 rfl) ?_
    refine ww_iload_n (pc := 195) g.1 d_Mo_small_195 rfl (lv_at hl 3 rfl) ?_
    refine ww_iload (pc := 196) g.1 d_Mo_small_196 (lv_at hl 5 rfl) ?_
    obtain ⟨v198, s, hc198, h⟩ := oB_of h
    refine ww_callS (pc := 198) (rest := [.int l2, .ref (q.1 28 l1), .ref (q.1 0 0), .ref (q.1 0 0)]) g cs_Mo_b (Or.inl kw_54) (ct_Mo_b hc198) ⟨by decide, by decide⟩ rfl hl.1 (Nat.le_of_ble_eq_true rfl) d_Mo_small_198 rfl ?_
    refine ww_st (st' := [.int v198, .int l2, .ref (q.1 28 l1), .ref (q.1 0 0), .ref (q.1 0 0)]) rfl ?_
    obtain ⟨v201, s, hc201, h⟩ := oB_of h
    refine ww_callV (pc := 201) (rest := [.ref (q.1 0 0)]) g cv_Mo_up (Or.inl kw_490) cl_Mo (pz rfl (by decide)) (ct_Mo_up hp0 hc201) ⟨by decide, by decide⟩ rfl hl.1 (Nat.le_of_ble_eq_true rfl) d_Mo_small_201 rfl ?_
    refine ww_st (st' := [.int v201, .ref (q.1 0 0)]) rfl ?_
    obtain ⟨v204, s, hc204, h⟩ := oB_of h
    refine ww_callV (pc := 204) (rest := []) g cv_Mo_load (Or.inl kw_98) cl_Mo (pz rfl (by decide)) (ct_Mo_load hc204) ⟨by decide, by decide⟩ rfl hl.1 (Nat.le_of_ble_eq_true rfl) d_Mo_small_204 rfl ?_
    refine ww_st (st' := []) rfl ?_
    refine ww_aload (pc := 207) g.1 d_Mo_small_207 (lv_at hl 7 rfl) ?_
    refine ww_iload (pc := 209) g.1 d_Mo_small_209 (lv_at hl 8 rfl) ?_
    refine ww_aload_n (pc := 211) g.1 d_Mo_small_211 rfl (lv_at hl 1 rfl) ?_
    refine ww_gI (pc := 212) g (k := 66) cl_Mo (pz rfl (by decide)) (by decide) (Or.inl kw_92) (f := 66) rfl rfl d_Mo_small_212 h fun v212 h => ?_
    refine ww_aload_n (pc := 215) g.1 d_Mo_small_215 rfl (lv_at hl 1 rfl) ?_
    refine ww_gL (pc := 216) g (k := 67) cl_Mo (pz rfl (by decide)) (by decide) (Or.inl kw_94) (f := 67) rfl rfl d_Mo_small_216 h fun v216 h => ?_
    obtain ⟨v219, s, hc219, h⟩ := oB_of h
    refine ww_callV (pc := 219) (rest := []) g cv_Va_set (Or.inl kw_99) (cl_Va hp1) (vok_p hp1).1 (ct_Va_set hp1 hc219) ⟨by decide, by decide⟩ rfl hl.1 (Nat.le_of_ble_eq_true rfl) d_Mo_small_219 rfl ?_
    refine ww_st (st' := []) rfl ?_
    refine ww_goto (pc := 222) (tgt := 516) g.1 d_Mo_small_222 (by decide) ?_
    exact ww_vretH (pc := 516) g h hR d_Mo_small_516
  have h := oC_neg c10_192 h
  by_cases c10_225 : l5 = 6
  · have h := oC_pos c10_225 h
    have c := c10_225
    refine ww_tableIn (pc := 10) (tgt := 225) g.1 d_Mo_small_10 (by rw [c]; decide) (by rw [c]; decide) (by rw [c]; rfl) (by decide) ?_
    refine ww_aload_n (pc := 225) g.1 d_Mo_small_225 rfl (lv_at hl 1 rfl) ?_
    refine ww_aload_n (pc := 226) g.1 d_Mo_small_226 rfl (lv_at hl 2 rfl) ?_
    refine ww_iload_n (pc := 227) g.1 d_Mo_small_227 rfl (lv_at hl 3 rfl) ?_
    refine ww_iload_n (pc := 228) g.1 d_Mo_small_228 rfl (lv_at hl 4 rfl) ?_
    refine ww_iload (pc := 229) g.1 d_Mo_small_229 (lv_at hl 5 rfl) ?_
    obtain ⟨v231, s, hc231, h⟩ := oB_of h
    refine ww_callS (pc := 231) (rest := [.int l3, .int l2, .ref (q.1 28 l1), .ref (q.1 0 0)]) g cs_Mo_c (Or.inl kw_311) (ct_Mo_c hc231) ⟨by decide, by decide⟩ rfl hl.1 (Nat.le_of_ble_eq_true rfl) d_Mo_small_231 rfl ?_
    refine ww_st (st' := [.int v231, .int l3, .int l2, .ref (q.1 28 l1), .ref (q.1 0 0)]) rfl ?_
    obtain ⟨v234, s, hc234, h⟩ := oB_of h
    refine ww_callV (pc := 234) (rest := []) g cv_Mo_rk_ (Or.inl kw_419) cl_Mo (pz rfl (by decide)) (ct_Mo_rk_ hp0 hc234) ⟨by decide, by decide⟩ rfl hl.1 (Nat.le_of_ble_eq_true rfl) d_Mo_small_234 rfl ?_
    refine ww_st (st' := []) rfl ?_
    refine ww_aload_n (pc := 237) g.1 d_Mo_small_237 rfl (lv_at hl 1 rfl) ?_
    refine ww_aload_n (pc := 238) g.1 d_Mo_small_238 rfl (lv_at hl 1 rfl) ?_
    refine ww_aload_n (pc := 239) g.1 d_Mo_small_239 rfl (lv_at hl 2 rfl) ?_
    refine ww_iload_n (pc := 240) g.1 d_Mo_small_240 rfl (lv_at hl 3 rfl) ?_
    refine ww_iload (pc := 241) g.1 d_Mo_small_241 (lv_at hl 5 rfl) ?_
    obtain ⟨v243, s, hc243, h⟩ := oB_of h
    refine ww_callS (pc := 243) (rest := [.int l2, .ref (q.1 28 l1), .ref (q.1 0 0), .ref (q.1 0 0)]) g cs_Mo_b (Or.inl kw_54) (ct_Mo_b hc243) ⟨by decide, by decide⟩ rfl hl.1 (Nat.le_of_ble_eq_true rfl) d_Mo_small_243 rfl ?_
    refine ww_st (st' := [.int v243, .int l2, .ref (q.1 28 l1), .ref (q.1 0 0), .ref (q.1 0 0)]) rfl ?_
    obtain ⟨v246, s, hc246, h⟩ := oB_of h
    refine ww_callV (pc := 246) (rest := [.ref (q.1 0 0)]) g cv_Mo_up (Or.inl kw_490) cl_Mo (pz rfl (by decide)) (ct_Mo_up hp0 hc246) ⟨by decide, by decide⟩ rfl hl.1 (Nat.le_of_ble_eq_true rfl) d_Mo_small_246 rfl ?_
    refine ww_st (st' := [.int v246, .ref (q.1 0 0)]) rfl ?_
    obtain ⟨v249, s, hc249, h⟩ := oB_of h
    refine ww_callV (pc := 249) (rest := []) g cv_Mo_load (Or.inl kw_98) cl_Mo (pz rfl (by decide)) (ct_Mo_load hc249) ⟨by decide, by decide⟩ rfl hl.1 (Nat.le_of_ble_eq_true rfl) d_Mo_small_249 rfl ?_
    refine ww_st (st' := []) rfl ?_
    refine ww_aload_n (pc := 252) g.1 d_Mo_small_252 rfl (lv_at hl 1 rfl) ?_
    refine ww_aload_n (pc := 253) g.1 d_Mo_small_253 rfl (lv_at hl 1 rfl) ?_
    refine ww_gI (pc := 254) g (k := 66) cl_Mo (pz rfl (by decide)) (by decide) (Or.inl kw_92) (f := 66) rfl rfl d_Mo_small_254 h fun v254 h => ?_
    refine ww_aload_n (pc := 257) g.1 d_Mo_small_257 rfl (lv_at hl 1 rfl) ?_
    refine ww_gL (pc := 258) g (k := 67) cl_Mo (pz rfl (by decide)) (by decide) (Or.inl kw_94) (f := 67) rfl rfl d_Mo_small_258 h fun v258 h => ?_
    refine ww_aload_n (pc := 261) g.1 d_Mo_small_261 rfl (lv_at hl 1 rfl) ?_
    refine ww_gI (pc := 262) g (k := 98) cl_Mo (pz rfl (by decide)) (by decide) (Or.inl kw_248) (f := 98) rfl rfl d_Mo_small_262 h fun v262 h => ?_
    refine ww_aload_n (pc := 265) g.1 d_Mo_small_265 rfl (lv_at hl 1 rfl) ?_
    refine ww_gL (pc := 266) g (k := 99) cl_Mo (pz rfl (by decide)) (by decide) (Or.inl kw_249) (f := 99) rfl rfl d_Mo_small_266 h fun v266 h => ?_
    refine ww_iload (pc := 269) g.1 d_Mo_small_269 (lv_at hl 5 rfl) ?_
    obtain ⟨v271, s, hc271, h⟩ := oB_of h
    refine ww_callS (pc := 271) (rest := [.long v266, .int v262, .long v258, .int v254, .ref (q.1 0 0)]) g cs_Mo_a (Or.inl kw_280) (ct_Mo_a hc271) ⟨by decide, by decide⟩ rfl hl.1 (Nat.le_of_ble_eq_true rfl) d_Mo_small_271 rfl ?_
    refine ww_st (st' := [.int v271, .long v266, .int v262, .long v258, .int v254, .ref (q.1 0 0)]) rfl ?_
    obtain ⟨v274, s, hc274, h⟩ := oB_of h
    refine ww_callV (pc := 274) (rest := []) g cv_Mo_index (Or.inl kw_420) cl_Mo (pz rfl (by decide)) (ct_Mo_index hc274) ⟨by decide, by decide⟩ rfl hl.1 (Nat.le_of_ble_eq_true rfl) d_Mo_small_274 rfl ?_
    refine ww_st (st' := []) rfl ?_
    refine ww_goto (pc := 277) (tgt := 516) g.1 d_Mo_small_277 (by decide) ?_
    exact ww_vretH (pc := 516) g h hR d_Mo_small_516
  have h := oC_neg c10_225 h
  by_cases c10_280 : l5 = 7
  · have h := oC_pos c10_280 h
    have c := c10_280
    refine ww_tableIn (pc := 10) (tgt := 280) g.1 d_Mo_small_10 (by rw [c]; decide) (by rw [c]; decide) (by rw [c]; rfl) (by decide) ?_
    refine ww_aload_n (pc := 280) g.1 d_Mo_small_280 rfl (lv_at hl 1 rfl) ?_
    refine ww_aload_n (pc := 281) g.1 d_Mo_small_281 rfl (lv_at hl 2 rfl) ?_
    refine ww_iload_n (pc := 282) g.1 d_Mo_small_282 rfl (lv_at hl 3 rfl) ?_
    refine ww_iload_n (pc := 283) g.1 d_Mo_small_283 rfl (lv_at hl 4 rfl) ?_
    refine ww_iload (pc := 284) g.1 d_Mo_small_284 (lv_at hl 5 rfl) ?_
    obtain ⟨v286, s, hc286, h⟩ := oB_of h
    refine ww_callS (pc := 286) (rest := [.int l3, .int l2, .ref (q.1 28 l1), .ref (q.1 0 0)]) g cs_Mo_c (Or.inl kw_311) (ct_Mo_c hc286) ⟨by decide, by decide⟩ rfl hl.1 (Nat.le_of_ble_eq_true rfl) d_Mo_small_286 rfl ?_
    refine ww_st (st' := [.int v286, .int l3, .int l2, .ref (q.1 28 l1), .ref (q.1 0 0)]) rfl ?_
    obtain ⟨v289, s, hc289, h⟩ := oB_of h
    refine ww_callV (pc := 289) (rest := []) g cv_Mo_rk_ (Or.inl kw_419) cl_Mo (pz rfl (by decide)) (ct_Mo_rk_ hp0 hc289) ⟨by decide, by decide⟩ rfl hl.1 (Nat.le_of_ble_eq_true rfl) d_Mo_small_289 rfl ?_
    refine ww_st (st' := []) rfl ?_
    refine ww_aload_n (pc := 292) g.1 d_Mo_small_292 rfl (lv_at hl 1 rfl) ?_
    refine ww_aload (pc := 293) g.1 d_Mo_small_293 (lv_at hl 7 rfl) ?_
    refine ww_gR (pc := 295) g (k := 0) (cl_Va hp1) (vok_p hp1).1 (by rw [(vok_f hp1).1.2.2]; decide) (Or.inl kw_90) (f := (128 * l6r + 0)) (t := l6r + 1) rfl (vok_f hp1).2.1.1 (vok_f hp1).2.1.2 d_Mo_small_295 ?_
    refine ww_iload (pc := 298) g.1 d_Mo_small_298 (lv_at hl 0 rfl) ?_
    refine ww_iload (pc := 300) g.1 d_Mo_small_300 (lv_at hl 5 rfl) ?_
    obtain ⟨v302, s, hc302, h⟩ := oB_of h
    refine ww_callS (pc := 302) (rest := [.int v5, .ref (q.1 (l6r + 1) l6), .ref (q.1 0 0)]) g cs_Mo_b (Or.inl kw_54) (ct_Mo_b hc302) ⟨by decide, by decide⟩ rfl hl.1 (Nat.le_of_ble_eq_true rfl) d_Mo_small_302 rfl ?_
    refine ww_st (st' := [.int v302, .int v5, .ref (q.1 (l6r + 1) l6), .ref (q.1 0 0)]) rfl ?_
    refine ww_iadd (pc := 305) g.1 d_Mo_small_305 ?_
    refine ww_ab (pc := 306) g (vok_p hp1).2.1 (vok_f hp1).2.2.2.2.1 (vok_n hp1).1 d_Mo_small_306 h fun v306 h => ?_
    refine ww_aload (pc := 307) g.1 d_Mo_small_307 (lv_at hl 7 rfl) ?_
    refine ww_gR (pc := 309) g (k := 1) (cl_Va hp1) (vok_p hp1).1 (by rw [(vok_f hp1).1.2.2]; decide) (Or.inl kw_93) (f := (128 * l6r + 1)) (t := l6r + 2) rfl (vok_f hp1).2.2.1.1 (vok_f hp1).2.2.1.2 d_Mo_small_309 ?_
    refine ww_iload (pc := 312) g.1 d_Mo_small_312 (lv_at hl 0 rfl) ?_
    refine ww_iload (pc := 314) g.1 d_Mo_small_314 (lv_at hl 5 rfl) ?_
    obtain ⟨v316, s, hc316, h⟩ := oB_of h
    refine ww_callS (pc := 316) (rest := [.int v5, .ref (q.1 (l6r + 2) l6), .int v306, .ref (q.1 0 0)]) g cs_Mo_b (Or.inl kw_54) (ct_Mo_b hc316) ⟨by decide, by decide⟩ rfl hl.1 (Nat.le_of_ble_eq_true rfl) d_Mo_small_316 rfl ?_
    refine ww_st (st' := [.int v316, .int v5, .ref (q.1 (l6r + 2) l6), .int v306, .ref (q.1 0 0)]) rfl ?_
    refine ww_iadd (pc := 319) g.1 d_Mo_small_319 ?_
    refine ww_al (pc := 320) g (vok_p hp1).2.2 (vok_f hp1).2.2.2.2.2 (vok_n hp1).2 d_Mo_small_320 h fun v320 h => ?_
    refine ww_aload_n (pc := 321) g.1 d_Mo_small_321 rfl (lv_at hl 1 rfl) ?_
    refine ww_gI (pc := 322) g (k := 98) cl_Mo (pz rfl (by decide)) (by decide) (Or.inl kw_248) (f := 98) rfl rfl d_Mo_small_322 h fun v322 h => ?_
    refine ww_aload_n (pc := 325) g.1 d_Mo_small_325 rfl (lv_at hl 1 rfl) ?_
    refine ww_gL (pc := 326) g (k := 99) cl_Mo (pz rfl (by decide)) (by decide) (Or.inl kw_249) (f := 99) rfl rfl d_Mo_small_326 h fun v326 h => ?_
    refine ww_iload (pc := 329) g.1 d_Mo_small_329 (lv_at hl 5 rfl) ?_
    obtain ⟨v331, s, hc331, h⟩ := oB_of h
    refine ww_callS (pc := 331) (rest := [.long v326, .int v322, .long v320, .int v306, .ref (q.1 0 0)]) g cs_Mo_a (Or.inl kw_280) (ct_Mo_a hc331) ⟨by decide, by decide⟩ rfl hl.1 (Nat.le_of_ble_eq_true rfl) d_Mo_small_331 rfl ?_
    refine ww_st (st' := [.int v331, .long v326, .int v322, .long v320, .int v306, .ref (q.1 0 0)]) rfl ?_
    obtain ⟨v334, s, hc334, h⟩ := oB_of h
    refine ww_callV (pc := 334) (rest := []) g cv_Mo_index (Or.inl kw_420) cl_Mo (pz rfl (by decide)) (ct_Mo_index hc334) ⟨by decide, by decide⟩ rfl hl.1 (Nat.le_of_ble_eq_true rfl) d_Mo_small_334 rfl ?_
    refine ww_st (st' := []) rfl ?_
    refine ww_goto (pc := 337) (tgt := 516) g.1 d_Mo_small_337 (by decide) ?_
    exact ww_vretH (pc := 516) g h hR d_Mo_small_516
  have h := oC_neg c10_280 h
  by_cases c10_340 : l5 = 8 ∨ l5 = 10
  · have h := oC_pos c10_340 h
    rcases c10_340 with c | c
    · refine ww_tableIn (pc := 10) (tgt := 340) g.1 d_Mo_small_10 (by rw [c]; decide) (by rw [c]; decide) (by rw [c]; rfl) (by decide) ?_
      refine ww_aload_n (pc := 340) g.1 d_Mo_small_340 rfl (lv_at hl 1 rfl) ?_
      refine ww_aload_n (pc := 341) g.1 d_Mo_small_341 rfl (lv_at hl 2 rfl) ?_
      refine ww_iload_n (pc := 342) g.1 d_Mo_small_342 rfl (lv_at hl 3 rfl) ?_
      refine ww_iload_n (pc := 343) g.1 d_Mo_small_343 rfl (lv_at hl 4 rfl) ?_
      refine ww_iload (pc := 344) g.1 d_Mo_small_344 (lv_at hl 5 rfl) ?_
      obtain ⟨v346, s, hc346, h⟩ := oB_of h
      refine ww_callS (pc := 346) (rest := [.int l3, .int l2, .ref (q.1 28 l1), .ref (q.1 0 0)]) g cs_Mo_b (Or.inl kw_54) (ct_Mo_b hc346) ⟨by decide, by decide⟩ rfl hl.1 (Nat.le_of_ble_eq_true rfl) d_Mo_small_346 rfl ?_
      refine ww_st (st' := [.int v346, .int l3, .int l2, .ref (q.1 28 l1), .ref (q.1 0 0)]) rfl ?_
      obtain ⟨v349, s, hc349, h⟩ := oB_of h
      refine ww_callV (pc := 349) (rest := []) g cv_Mo_rk_ (Or.inl kw_419) cl_Mo (pz rfl (by decide)) (ct_Mo_rk_ hp0 hc349) ⟨by decide, by decide⟩ rfl hl.1 (Nat.le_of_ble_eq_true rfl) d_Mo_small_349 rfl ?_
      refine ww_st (st' := []) rfl ?_
      refine ww_aload_n (pc := 352) g.1 d_Mo_small_352 rfl (lv_at hl 1 rfl) ?_
      refine ww_gI (pc := 353) g (k := 98) cl_Mo (pz rfl (by decide)) (by decide) (Or.inl kw_248) (f := 98) rfl rfl d_Mo_small_353 h fun v353 h => ?_
      refine ww_istore (pc := 356) (i := 9) g.1 (lv' := [(9, .int v353), (8, .int v5), (0, .ref (q.1 0 0)), (1, .ref (q.1 28 l1)), (2, .int l2), (3, .int l3), (4, .int l4), (5, .int l5), (6, .ref (q.1 l6r l6)), (7, .int l7)]) d_Mo_small_356 hl (by decide) rfl fun ls hl => ?_
      refine ww_aload_n (pc := 358) g.1 d_Mo_small_358 rfl (lv_at hl 2 rfl) ?_
      refine ww_gL (pc := 359) g (k := 99) cl_Mo (pz rfl (by decide)) (by decide) (Or.inl kw_249) (f := 99) rfl rfl d_Mo_small_359 h fun v359 h => ?_
      refine ww_lstore (pc := 362) (i := 10) g.1 (lv' := [(10, .long v359), (9, .int v353), (8, .int v5), (0, .ref (q.1 0 0)), (1, .ref (q.1 28 l1)), (2, .int l2), (3, .int l3), (4, .int l4), (5, .int l5), (6, .ref (q.1 l6r l6)), (7, .int l7)]) d_Mo_small_362 hl (by decide) rfl fun ls hl => ?_
      refine ww_aload_n (pc := 364) g.1 d_Mo_small_364 rfl (lv_at hl 3 rfl) ?_
      refine ww_aload_n (pc := 365) g.1 d_Mo_small_365 rfl (lv_at hl 4 rfl) ?_
      refine ww_iload_n (pc := 366) g.1 d_Mo_small_366 rfl (lv_at hl 5 rfl) ?_
      refine ww_iload_n (pc := 367) g.1 d_Mo_small_367 rfl (lv_at hl 6 rfl) ?_
      refine ww_iload (pc := 368) g.1 d_Mo_small_368 (lv_at hl 7 rfl) ?_
      obtain ⟨v370, s, hc370, h⟩ := oB_of h
      refine ww_callS (pc := 370) (rest := [.int l3, .int l2, .ref (q.1 28 l1), .ref (q.1 0 0)]) g cs_Mo_c (Or.inl kw_311) (ct_Mo_c hc370) ⟨by decide, by decide⟩ rfl hl.1 (Nat.le_of_ble_eq_true rfl) d_Mo_small_370 rfl ?_
      refine ww_st (st' := [.int v370, .int l3, .int l2, .ref (q.1 28 l1), .ref (q.1 0 0)]) rfl ?_
      obtain ⟨v373, s, hc373, h⟩ := oB_of h
      refine ww_callV (pc := 373) (rest := []) g cv_Mo_rk_ (Or.inl kw_419) cl_Mo (pz rfl (by decide)) (ct_Mo_rk_ hp0 hc373) ⟨by decide, by decide⟩ rfl hl.1 (Nat.le_of_ble_eq_true rfl) d_Mo_small_373 rfl ?_
      refine ww_st (st' := []) rfl ?_
      refine ww_iload (pc := 376) g.1 d_Mo_small_376 (lv_at hl 8 rfl) ?_
      refine ww_bipush (pc := 378) g.1 (v := 8) d_Mo_small_378 (by decide) ?_
      refine ww_icmp_ne (pc := 380) (tgt := 425) g.1 d_Mo_small_380 (by decide) h (fun c h => ?_) (fun c h => ?_)
      · refine ww_aload_n (pc := 425) g.1 d_Mo_small_425 rfl (lv_at hl 3 rfl) ?_
        refine ww_aload (pc := 426) g.1 d_Mo_small_426 (lv_at hl 9 rfl) ?_
        refine ww_gR (pc := 428) g (k := 0) (cl_Va hp1) (vok_p hp1).1 (by rw [(vok_f hp1).1.2.2]; decide) (Or.inl kw_90) (f := (128 * l6r + 0)) (t := l6r + 1) rfl (vok_f hp1).2.1.1 (vok_f hp1).2.1.2 d_Mo_small_428 ?_
        refine ww_iload (pc := 431) g.1 d_Mo_small_431 (lv_at hl 10 rfl) ?_
        refine ww_ab (pc := 433) g (vok_p hp1).2.1 (vok_f hp1).2.2.2.2.1 (vok_n hp1).1 d_Mo_small_433 h fun v433 h => ?_
        refine ww_aload (pc := 434) g.1 d_Mo_small_434 (lv_at hl 9 rfl) ?_
        refine ww_gR (pc := 436) g (k := 1) (cl_Va hp1) (vok_p hp1).1 (by rw [(vok_f hp1).1.2.2]; decide) (Or.inl kw_93) (f := (128 * l6r + 1)) (t := l6r + 2) rfl (vok_f hp1).2.2.1.1 (vok_f hp1).2.2.1.2 d_Mo_small_436 ?_
        refine ww_iload (pc := 439) g.1 d_Mo_small_439 (lv_at hl 10 rfl) ?_
        refine ww_al (pc := 441) g (vok_p hp1).2.2 (vok_f hp1).2.2.2.2.2 (vok_n hp1).2 d_Mo_small_441 h fun v441 h => ?_
        refine ww_iload (pc := 442) g.1 d_Mo_small_442 (lv_at hl 1 rfl) ?_
        refine ww_lload (pc := 444) g.1 d_Mo_small_444 (lv_at hl 0 rfl) ?_
        refine ww_aload_n (pc := 446) g.1 d_Mo_small_446 rfl (lv_at hl 3 rfl) ?_
        refine ww_gI (pc := 447) g (k := 98) cl_Mo (pz rfl (by decide)) (by decide) (Or.inl kw_248) (f := 98) rfl rfl d_Mo_small_447 h fun v447 h => ?_
        refine ww_aload_n (pc := 450) g.1 d_Mo_small_450 rfl (lv_at hl 3 rfl) ?_
        refine ww_gL (pc := 451) g (k := 99) cl_Mo (pz rfl (by decide)) (by decide) (Or.inl kw_249) (f := 99) rfl rfl d_Mo_small_451 h fun v451 h => ?_
        obtain ⟨v454, s, hc454, h⟩ := oB_of h
        refine ww_callV (pc := 454) (rest := []) g cv_Mo_write (Or.inl kw_491) cl_Mo (pz rfl (by decide)) (ct_Mo_write hc454) ⟨by decide, by decide⟩ rfl hl.1 (Nat.le_of_ble_eq_true rfl) d_Mo_small_454 rfl ?_
        refine ww_st (st' := []) rfl ?_
        refine ww_goto (pc := 457) (tgt := 516) g.1 d_Mo_small_457 (by decide) ?_
        exact ww_vretH (pc := 516) g h hR d_Mo_small_516
      · refine ww_aload_n (pc := 383) g.1 d_Mo_small_383 rfl (lv_at hl 3 rfl) ?_
        refine ww_aload_n (pc := 384) g.1 d_Mo_small_384 rfl (lv_at hl 3 rfl) ?_
        refine ww_aload_n (pc := 385) g.1 d_Mo_small_385 rfl (lv_at hl 4 rfl) ?_
        refine ww_iload_n (pc := 386) g.1 d_Mo_small_386 rfl (lv_at hl 5 rfl) ?_
        refine ww_iload (pc := 387) g.1 d_Mo_small_387 (lv_at hl 7 rfl) ?_
        obtain ⟨v389, s, hc389, h⟩ := oB_of h
        refine ww_callS (pc := 389) (rest := [.int l2, .ref (q.1 28 l1), .ref (q.1 0 0), .ref (q.1 0 0)]) g cs_Mo_a (Or.inl kw_280) (ct_Mo_a hc389) ⟨by decide, by decide⟩ rfl hl.1 (Nat.le_of_ble_eq_true rfl) d_Mo_small_389 rfl ?_
        refine ww_st (st' := [.int v389, .int l2, .ref (q.1 28 l1), .ref (q.1 0 0), .ref (q.1 0 0)]) rfl ?_
        obtain ⟨v392, s, hc392, h⟩ := oB_of h
        refine ww_callV (pc := 392) (rest := [.ref (q.1 0 0)]) g cv_Mo_up (Or.inl kw_490) cl_Mo (pz rfl (by decide)) (ct_Mo_up hp0 hc392) ⟨by decide, by decide⟩ rfl hl.1 (Nat.le_of_ble_eq_true rfl) d_Mo_small_392 rfl ?_
        refine ww_st (st' := [.int v392, .ref (q.1 0 0)]) rfl ?_
        obtain ⟨v395, s, hc395, h⟩ := oB_of h
        refine ww_callV (pc := 395) (rest := []) g cv_Mo_load (Or.inl kw_98) cl_Mo (pz rfl (by decide)) (ct_Mo_load hc395) ⟨by decide, by decide⟩ rfl hl.1 (Nat.le_of_ble_eq_true rfl) d_Mo_small_395 rfl ?_
        refine ww_st (st' := []) rfl ?_
        refine ww_aload_n (pc := 398) g.1 d_Mo_small_398 rfl (lv_at hl 3 rfl) ?_
        refine ww_aload_n (pc := 399) g.1 d_Mo_small_399 rfl (lv_at hl 3 rfl) ?_
        refine ww_gI (pc := 400) g (k := 66) cl_Mo (pz rfl (by decide)) (by decide) (Or.inl kw_92) (f := 66) rfl rfl d_Mo_small_400 h fun v400 h => ?_
        refine ww_aload_n (pc := 403) g.1 d_Mo_small_403 rfl (lv_at hl 3 rfl) ?_
        refine ww_gL (pc := 404) g (k := 67) cl_Mo (pz rfl (by decide)) (by decide) (Or.inl kw_94) (f := 67) rfl rfl d_Mo_small_404 h fun v404 h => ?_
        refine ww_iload (pc := 407) g.1 d_Mo_small_407 (lv_at hl 1 rfl) ?_
        refine ww_lload (pc := 409) g.1 d_Mo_small_409 (lv_at hl 0 rfl) ?_
        refine ww_aload_n (pc := 411) g.1 d_Mo_small_411 rfl (lv_at hl 3 rfl) ?_
        refine ww_gI (pc := 412) g (k := 98) cl_Mo (pz rfl (by decide)) (by decide) (Or.inl kw_248) (f := 98) rfl rfl d_Mo_small_412 h fun v412 h => ?_
        refine ww_aload_n (pc := 415) g.1 d_Mo_small_415 rfl (lv_at hl 3 rfl) ?_
        refine ww_gL (pc := 416) g (k := 99) cl_Mo (pz rfl (by decide)) (by decide) (Or.inl kw_249) (f := 99) rfl rfl d_Mo_small_416 h fun v416 h => ?_
        obtain ⟨v419, s, hc419, h⟩ := oB_of h
        refine ww_callV (pc := 419) (rest := []) g cv_Mo_write (Or.inl kw_491) cl_Mo (pz rfl (by decide)) (ct_Mo_write hc419) ⟨by decide, by decide⟩ rfl hl.1 (Nat.le_of_ble_eq_true rfl) d_Mo_small_419 rfl ?_
        refine ww_st (st' := []) rfl ?_
        refine ww_goto (pc := 422) (tgt := 516) g.1 d_Mo_small_422 (by decide) ?_
        exact ww_vretH (pc := 516) g h hR d_Mo_small_516
    · refine ww_tableIn (pc := 10) (tgt := 340) g.1 d_Mo_small_10 (by rw [c]; decide) (by rw [c]; decide) (by rw [c]; rfl) (by decide) ?_
      refine ww_aload_n (pc := 340) g.1 d_Mo_small_340 rfl (lv_at hl 1 rfl) ?_
      refine ww_aload_n (pc := 341) g.1 d_Mo_small_341 rfl (lv_at hl 2 rfl) ?_
      refine ww_iload_n (pc := 342) g.1 d_Mo_small_342 rfl (lv_at hl 3 rfl) ?_
      refine ww_iload_n (pc := 343) g.1 d_Mo_small_343 rfl (lv_at hl 4 rfl) ?_
      refine ww_iload (pc := 344) g.1 d_Mo_small_344 (lv_at hl 5 rfl) ?_
      obtain ⟨v346, s, hc346, h⟩ := oB_of h
      refine ww_callS (pc := 346) (rest := [.int l3, .int l2, .ref (q.1 28 l1), .ref (q.1 0 0)]) g cs_Mo_b (Or.inl kw_54) (ct_Mo_b hc346) ⟨by decide, by decide⟩ rfl hl.1 (Nat.le_of_ble_eq_true rfl) d_Mo_small_346 rfl ?_
      refine ww_st (st' := [.int v346, .int l3, .int l2, .ref (q.1 28 l1), .ref (q.1 0 0)]) rfl ?_
      obtain ⟨v349, s, hc349, h⟩ := oB_of h
      refine ww_callV (pc := 349) (rest := []) g cv_Mo_rk_ (Or.inl kw_419) cl_Mo (pz rfl (by decide)) (ct_Mo_rk_ hp0 hc349) ⟨by decide, by decide⟩ rfl hl.1 (Nat.le_of_ble_eq_true rfl) d_Mo_small_349 rfl ?_
      refine ww_st (st' := []) rfl ?_
      refine ww_aload_n (pc := 352) g.1 d_Mo_small_352 rfl (lv_at hl 1 rfl) ?_
      refine ww_gI (pc := 353) g (k := 98) cl_Mo (pz rfl (by decide)) (by decide) (Or.inl kw_248) (f := 98) rfl rfl d_Mo_small_353 h fun v353 h => ?_
      refine ww_istore (pc := 356) (i := 9) g.1 (lv' := [(9, .int v353), (8, .int v5), (0, .ref (q.1 0 0)), (1, .ref (q.1 28 l1)), (2, .int l2), (3, .int l3), (4, .int l4), (5, .int l5), (6, .ref (q.1 l6r l6)), (7, .int l7)]) d_Mo_small_356 hl (by decide) rfl fun ls hl => ?_
      refine ww_aload_n (pc := 358) g.1 d_Mo_small_358 rfl (lv_at hl 2 rfl) ?_
      refine ww_gL (pc := 359) g (k := 99) cl_Mo (pz rfl (by decide)) (by decide) (Or.inl kw_249) (f := 99) rfl rfl d_Mo_small_359 h fun v359 h => ?_
      refine ww_lstore (pc := 362) (i := 10) g.1 (lv' := [(10, .long v359), (9, .int v353), (8, .int v5), (0, .ref (q.1 0 0)), (1, .ref (q.1 28 l1)), (2, .int l2), (3, .int l3), (4, .int l4), (5, .int l5), (6, .ref (q.1 l6r l6)), (7, .int l7)]) d_Mo_small_362 hl (by decide) rfl fun ls hl => ?_
      refine ww_aload_n (pc := 364) g.1 d_Mo_small_364 rfl (lv_at hl 3 rfl) ?_
      refine ww_aload_n (pc := 365) g.1 d_Mo_small_365 rfl (lv_at hl 4 rfl) ?_
      refine ww_iload_n (pc := 366) g.1 d_Mo_small_366 rfl (lv_at hl 5 rfl) ?_
      refine ww_iload_n (pc := 367) g.1 d_Mo_small_367 rfl (lv_at hl 6 rfl) ?_
      refine ww_iload (pc := 368) g.1 d_Mo_small_368 (lv_at hl 7 rfl) ?_
      obtain ⟨v370, s, hc370, h⟩ := oB_of h
      refine ww_callS (pc := 370) (rest := [.int l3, .int l2, .ref (q.1 28 l1), .ref (q.1 0 0)]) g cs_Mo_c (Or.inl kw_311) (ct_Mo_c hc370) ⟨by decide, by decide⟩ rfl hl.1 (Nat.le_of_ble_eq_true rfl) d_Mo_small_370 rfl ?_
      refine ww_st (st' := [.int v370, .int l3, .int l2, .ref (q.1 28 l1), .ref (q.1 0 0)]) rfl ?_
      obtain ⟨v373, s, hc373, h⟩ := oB_of h
      refine ww_callV (pc := 373) (rest := []) g cv_Mo_rk_ (Or.inl kw_419) cl_Mo (pz rfl (by decide)) (ct_Mo_rk_ hp0 hc373) ⟨by decide, by decide⟩ rfl hl.1 (Nat.le_of_ble_eq_true rfl) d_Mo_small_373 rfl ?_
      refine ww_st (st' := []) rfl ?_
      refine ww_iload (pc := 376) g.1 d_Mo_small_376 (lv_at hl 8 rfl) ?_
      refine ww_bipush (pc := 378) g.1 (v := 8) d_Mo_small_378 (by decide) ?_
      refine ww_icmp_ne (pc := 380) (tgt := 425) g.1 d_Mo_small_380 (by decide) h (fun c h => ?_) (fun c h => ?_)
      · refine ww_aload_n (pc := 425) g.1 d_Mo_small_425 rfl (lv_at hl 3 rfl) ?_
        refine ww_aload (pc := 426) g.1 d_Mo_small_426 (lv_at hl 9 rfl) ?_
        refine ww_gR (pc := 428) g (k := 0) (cl_Va hp1) (vok_p hp1).1 (by rw [(vok_f hp1).1.2.2]; decide) (Or.inl kw_90) (f := (128 * l6r + 0)) (t := l6r + 1) rfl (vok_f hp1).2.1.1 (vok_f hp1).2.1.2 d_Mo_small_428 ?_
        refine ww_iload (pc := 431) g.1 d_Mo_small_431 (lv_at hl 10 rfl) ?_
        refine ww_ab (pc := 433) g (vok_p hp1).2.1 (vok_f hp1).2.2.2.2.1 (vok_n hp1).1 d_Mo_small_433 h fun v433 h => ?_
        refine ww_aload (pc := 434) g.1 d_Mo_small_434 (lv_at hl 9 rfl) ?_
        refine ww_gR (pc := 436) g (k := 1) (cl_Va hp1) (vok_p hp1).1 (by rw [(vok_f hp1).1.2.2]; decide) (Or.inl kw_93) (f := (128 * l6r + 1)) (t := l6r + 2) rfl (vok_f hp1).2.2.1.1 (vok_f hp1).2.2.1.2 d_Mo_small_436 ?_
        refine ww_iload (pc := 439) g.1 d_Mo_small_439 (lv_at hl 10 rfl) ?_
        refine ww_al (pc := 441) g (vok_p hp1).2.2 (vok_f hp1).2.2.2.2.2 (vok_n hp1).2 d_Mo_small_441 h fun v441 h => ?_
        refine ww_iload (pc := 442) g.1 d_Mo_small_442 (lv_at hl 1 rfl) ?_
        refine ww_lload (pc := 444) g.1 d_Mo_small_444 (lv_at hl 0 rfl) ?_
        refine ww_aload_n (pc := 446) g.1 d_Mo_small_446 rfl (lv_at hl 3 rfl) ?_
        refine ww_gI (pc := 447) g (k := 98) cl_Mo (pz rfl (by decide)) (by decide) (Or.inl kw_248) (f := 98) rfl rfl d_Mo_small_447 h fun v447 h => ?_
        refine ww_aload_n (pc := 450) g.1 d_Mo_small_450 rfl (lv_at hl 3 rfl) ?_
        refine ww_gL (pc := 451) g (k := 99) cl_Mo (pz rfl (by decide)) (by decide) (Or.inl kw_249) (f := 99) rfl rfl d_Mo_small_451 h fun v451 h => ?_
        obtain ⟨v454, s, hc454, h⟩ := oB_of h
        refine ww_callV (pc := 454) (rest := []) g cv_Mo_write (Or.inl kw_491) cl_Mo (pz rfl (by decide)) (ct_Mo_write hc454) ⟨by decide, by decide⟩ rfl hl.1 (Nat.le_of_ble_eq_true rfl) d_Mo_small_454 rfl ?_
        refine ww_st (st' := []) rfl ?_
        refine ww_goto (pc := 457) (tgt := 516) g.1 d_Mo_small_457 (by decide) ?_
        exact ww_vretH (pc := 516) g h hR d_Mo_small_516
      · refine ww_aload_n (pc := 383) g.1 d_Mo_small_383 rfl (lv_at hl 3 rfl) ?_
        refine ww_aload_n (pc := 384) g.1 d_Mo_small_384 rfl (lv_at hl 3 rfl) ?_
        refine ww_aload_n (pc := 385) g.1 d_Mo_small_385 rfl (lv_at hl 4 rfl) ?_
        refine ww_iload_n (pc := 386) g.1 d_Mo_small_386 rfl (lv_at hl 5 rfl) ?_
        refine ww_iload (pc := 387) g.1 d_Mo_small_387 (lv_at hl 7 rfl) ?_
        obtain ⟨v389, s, hc389, h⟩ := oB_of h
        refine ww_callS (pc := 389) (rest := [.int l2, .ref (q.1 28 l1), .ref (q.1 0 0), .ref (q.1 0 0)]) g cs_Mo_a (Or.inl kw_280) (ct_Mo_a hc389) ⟨by decide, by decide⟩ rfl hl.1 (Nat.le_of_ble_eq_true rfl) d_Mo_small_389 rfl ?_
        refine ww_st (st' := [.int v389, .int l2, .ref (q.1 28 l1), .ref (q.1 0 0), .ref (q.1 0 0)]) rfl ?_
        obtain ⟨v392, s, hc392, h⟩ := oB_of h
        refine ww_callV (pc := 392) (rest := [.ref (q.1 0 0)]) g cv_Mo_up (Or.inl kw_490) cl_Mo (pz rfl (by decide)) (ct_Mo_up hp0 hc392) ⟨by decide, by decide⟩ rfl hl.1 (Nat.le_of_ble_eq_true rfl) d_Mo_small_392 rfl ?_
        refine ww_st (st' := [.int v392, .ref (q.1 0 0)]) rfl ?_
        obtain ⟨v395, s, hc395, h⟩ := oB_of h
        refine ww_callV (pc := 395) (rest := []) g cv_Mo_load (Or.inl kw_98) cl_Mo (pz rfl (by decide)) (ct_Mo_load hc395) ⟨by decide, by decide⟩ rfl hl.1 (Nat.le_of_ble_eq_true rfl) d_Mo_small_395 rfl ?_
        refine ww_st (st' := []) rfl ?_
        refine ww_aload_n (pc := 398) g.1 d_Mo_small_398 rfl (lv_at hl 3 rfl) ?_
        refine ww_aload_n (pc := 399) g.1 d_Mo_small_399 rfl (lv_at hl 3 rfl) ?_
        refine ww_gI (pc := 400) g (k := 66) cl_Mo (pz rfl (by decide)) (by decide) (Or.inl kw_92) (f := 66) rfl rfl d_Mo_small_400 h fun v400 h => ?_
        refine ww_aload_n (pc := 403) g.1 d_Mo_small_403 rfl (lv_at hl 3 rfl) ?_
        refine ww_gL (pc := 404) g (k := 67) cl_Mo (pz rfl (by decide)) (by decide) (Or.inl kw_94) (f := 67) rfl rfl d_Mo_small_404 h fun v404 h => ?_
        refine ww_iload (pc := 407) g.1 d_Mo_small_407 (lv_at hl 1 rfl) ?_
        refine ww_lload (pc := 409) g.1 d_Mo_small_409 (lv_at hl 0 rfl) ?_
        refine ww_aload_n (pc := 411) g.1 d_Mo_small_411 rfl (lv_at hl 3 rfl) ?_
        refine ww_gI (pc := 412) g (k := 98) cl_Mo (pz rfl (by decide)) (by decide) (Or.inl kw_248) (f := 98) rfl rfl d_Mo_small_412 h fun v412 h => ?_
        refine ww_aload_n (pc := 415) g.1 d_Mo_small_415 rfl (lv_at hl 3 rfl) ?_
        refine ww_gL (pc := 416) g (k := 99) cl_Mo (pz rfl (by decide)) (by decide) (Or.inl kw_249) (f := 99) rfl rfl d_Mo_small_416 h fun v416 h => ?_
        obtain ⟨v419, s, hc419, h⟩ := oB_of h
        refine ww_callV (pc := 419) (rest := []) g cv_Mo_write (Or.inl kw_491) cl_Mo (pz rfl (by decide)) (ct_Mo_write hc419) ⟨by decide, by decide⟩ rfl hl.1 (Nat.le_of_ble_eq_true rfl) d_Mo_small_419 rfl ?_
        refine ww_st (st' := []) rfl ?_
        refine ww_goto (pc := 422) (tgt := 516) g.1 d_Mo_small_422 (by decide) ?_
        exact ww_vretH (pc := 516) g h hR d_Mo_small_516
  have h := oC_neg c10_340 h
  by_cases c10_460 : l5 = 9
  · have h := oC_pos c10_460 h
    have c := c10_460
    refine ww_tableIn (pc := 10) (tgt := 460) g.1 d_Mo_small_10 (by rw [c]; decide) (by rw [c]; decide) (by rw [c]; rfl) (by decide) ?_
    refine ww_aload_n (pc := 460) g.1 d_Mo_small_460 rfl (lv_at hl 1 rfl) ?_
    refine ww_aload_n (pc := 461) g.1 d_Mo_small_461 rfl (lv_at hl 1 rfl) ?_
    refine ww_aload_n (pc := 462) g.1 d_Mo_small_462 rfl (lv_at hl 2 rfl) ?_
    refine ww_iload_n (pc := 463) g.1 d_Mo_small_463 rfl (lv_at hl 3 rfl) ?_
    refine ww_iload (pc := 464) g.1 d_Mo_small_464 (lv_at hl 5 rfl) ?_
    obtain ⟨v466, s, hc466, h⟩ := oB_of h
    refine ww_callS (pc := 466) (rest := [.int l2, .ref (q.1 28 l1), .ref (q.1 0 0), .ref (q.1 0 0)]) g cs_Mo_b (Or.inl kw_54) (ct_Mo_b hc466) ⟨by decide, by decide⟩ rfl hl.1 (Nat.le_of_ble_eq_true rfl) d_Mo_small_466 rfl ?_
    refine ww_st (st' := [.int v466, .int l2, .ref (q.1 28 l1), .ref (q.1 0 0), .ref (q.1 0 0)]) rfl ?_
    obtain ⟨v469, s, hc469, h⟩ := oB_of h
    refine ww_callV (pc := 469) (rest := [.ref (q.1 0 0)]) g cv_Mo_up (Or.inl kw_490) cl_Mo (pz rfl (by decide)) (ct_Mo_up hp0 hc469) ⟨by decide, by decide⟩ rfl hl.1 (Nat.le_of_ble_eq_true rfl) d_Mo_small_469 rfl ?_
    refine ww_st (st' := [.int v469, .ref (q.1 0 0)]) rfl ?_
    refine ww_aload (pc := 472) g.1 d_Mo_small_472 (lv_at hl 7 rfl) ?_
    refine ww_gR (pc := 474) g (k := 0) (cl_Va hp1) (vok_p hp1).1 (by rw [(vok_f hp1).1.2.2]; decide) (Or.inl kw_90) (f := (128 * l6r + 0)) (t := l6r + 1) rfl (vok_f hp1).2.1.1 (vok_f hp1).2.1.2 d_Mo_small_474 ?_
    refine ww_iload (pc := 477) g.1 d_Mo_small_477 (lv_at hl 8 rfl) ?_
    refine ww_ab (pc := 479) g (vok_p hp1).2.1 (vok_f hp1).2.2.2.2.1 (vok_n hp1).1 d_Mo_small_479 h fun v479 h => ?_
    refine ww_aload (pc := 480) g.1 d_Mo_small_480 (lv_at hl 7 rfl) ?_
    refine ww_gR (pc := 482) g (k := 1) (cl_Va hp1) (vok_p hp1).1 (by rw [(vok_f hp1).1.2.2]; decide) (Or.inl kw_93) (f := (128 * l6r + 1)) (t := l6r + 2) rfl (vok_f hp1).2.2.1.1 (vok_f hp1).2.2.1.2 d_Mo_small_482 ?_
    refine ww_iload (pc := 485) g.1 d_Mo_small_485 (lv_at hl 8 rfl) ?_
    refine ww_al (pc := 487) g (vok_p hp1).2.2 (vok_f hp1).2.2.2.2.2 (vok_n hp1).2 d_Mo_small_487 h fun v487 h => ?_
    obtain ⟨v488, s, hc488, h⟩ := oB_of h
    refine ww_callV (pc := 488) (rest := []) g cv_Mo_store (Or.inl kw_492) cl_Mo (pz rfl (by decide)) (ct_Mo_store hc488) ⟨by decide, by decide⟩ rfl hl.1 (Nat.le_of_ble_eq_true rfl) d_Mo_small_488 rfl ?_
    refine ww_st (st' := []) rfl ?_
    refine ww_goto (pc := 491) (tgt := 516) g.1 d_Mo_small_491 (by decide) ?_
    exact ww_vretH (pc := 516) g h hR d_Mo_small_516
  have h := oC_neg c10_460 h
  have n_0 : ¬ l5.toInt = 0 := lv_neT (fun e => c10_68 e) rfl
  have n_1 : ¬ l5.toInt = 1 := lv_neT (fun e => c10_88 e) rfl
  have n_3 : ¬ l5.toInt = 3 := lv_neT (fun e => c10_116 e) rfl
  have n_4 : ¬ l5.toInt = 4 := lv_neT (fun e => c10_158 e) rfl
  have n_5 : ¬ l5.toInt = 5 := lv_neT (fun e => c10_192 e) rfl
  have n_6 : ¬ l5.toInt = 6 := lv_neT (fun e => c10_225 e) rfl
  have n_7 : ¬ l5.toInt = 7 := lv_neT (fun e => c10_280 e) rfl
  have n_8 : ¬ l5.toInt = 8 := lv_neT (fun e => c10_340 (Or.inl e)) rfl
  have n_10 : ¬ l5.toInt = 10 := lv_neT (fun e => c10_340 (Or.inr (e))) rfl
  have n_9 : ¬ l5.toInt = 9 := lv_neT (fun e => c10_460 e) rfl
  by_cases hr : l5.toInt < 0 ∨ 10 < l5.toInt
  · refine ww_tableOut (pc := 10) (tgt := 494) g.1 d_Mo_small_10 hr (by decide) ?_
    refine ww_aload_n (pc := 494) g.1 d_Mo_small_494 rfl (lv_at hl 1 rfl) ?_
    obtain ⟨v495, s, hc495, h⟩ := oB_of h
    refine ww_callV (pc := 495) (rest := []) g cv_Mo_table (Or.inl kw_493) cl_Mo (pz rfl (by decide)) (ct_Mo_table hc495) ⟨by decide, by decide⟩ rfl hl.1 (Nat.le_of_ble_eq_true rfl) d_Mo_small_495 rfl ?_
    refine ww_st (st' := [.int v495]) rfl ?_
    refine ww_istore (pc := 498) (i := 12) g.1 (lv' := [(12, .int v495), (8, .int v5), (0, .ref (q.1 0 0)), (1, .ref (q.1 28 l1)), (2, .int l2), (3, .int l3), (4, .int l4), (5, .int l5), (6, .ref (q.1 l6r l6)), (7, .int l7)]) d_Mo_small_498 hl (by decide) rfl fun ls hl => ?_
    refine ww_iload (pc := 500) g.1 d_Mo_small_500 (lv_at hl 0 rfl) ?_
    refine ww_if_lt (pc := 502) (tgt := 516) g.1 d_Mo_small_502 (by decide) h (fun c h => ?_) (fun c h => ?_)
    · exact ww_vretH (pc := 516) g h hR d_Mo_small_516
    · refine ww_aload (pc := 505) g.1 d_Mo_small_505 (lv_at hl 8 rfl) ?_
      refine ww_iload (pc := 507) g.1 d_Mo_small_507 (lv_at hl 9 rfl) ?_
      refine ww_iconst (pc := 509) g.1 (v := 5) d_Mo_small_509 (by decide) ?_
      refine ww_iload (pc := 510) g.1 d_Mo_small_510 (lv_at hl 0 rfl) ?_
      refine ww_i2l (pc := 512) g.1 (v := v495.toInt64) d_Mo_small_512 rfl ?_
      obtain ⟨v513, s, hc513, h⟩ := oB_of h
      refine ww_callV (pc := 513) (rest := []) g cv_Va_set (Or.inl kw_99) (cl_Va hp1) (vok_p hp1).1 (ct_Va_set hp1 hc513) ⟨by decide, by decide⟩ rfl hl.1 (Nat.le_of_ble_eq_true rfl) d_Mo_small_513 rfl ?_
      refine ww_st (st' := []) rfl ?_
      exact ww_vretH (pc := 516) g h hR d_Mo_small_516
  have hh : l5.toInt = 2 := by omega
  have c := hh
  refine ww_tableIn (pc := 10) (tgt := 494) g.1 d_Mo_small_10 (by rw [c]; decide) (by rw [c]; decide) (by rw [c]; rfl) (by decide) ?_
  refine ww_aload_n (pc := 494) g.1 d_Mo_small_494 rfl (lv_at hl 1 rfl) ?_
  obtain ⟨v495, s, hc495, h⟩ := oB_of h
  refine ww_callV (pc := 495) (rest := []) g cv_Mo_table (Or.inl kw_493) cl_Mo (pz rfl (by decide)) (ct_Mo_table hc495) ⟨by decide, by decide⟩ rfl hl.1 (Nat.le_of_ble_eq_true rfl) d_Mo_small_495 rfl ?_
  refine ww_st (st' := [.int v495]) rfl ?_
  refine ww_istore (pc := 498) (i := 12) g.1 (lv' := [(12, .int v495), (8, .int v5), (0, .ref (q.1 0 0)), (1, .ref (q.1 28 l1)), (2, .int l2), (3, .int l3), (4, .int l4), (5, .int l5), (6, .ref (q.1 l6r l6)), (7, .int l7)]) d_Mo_small_498 hl (by decide) rfl fun ls hl => ?_
  refine ww_iload (pc := 500) g.1 d_Mo_small_500 (lv_at hl 0 rfl) ?_
  refine ww_if_lt (pc := 502) (tgt := 516) g.1 d_Mo_small_502 (by decide) h (fun c h => ?_) (fun c h => ?_)
  · exact ww_vretH (pc := 516) g h hR d_Mo_small_516
  · refine ww_aload (pc := 505) g.1 d_Mo_small_505 (lv_at hl 8 rfl) ?_
    refine ww_iload (pc := 507) g.1 d_Mo_small_507 (lv_at hl 9 rfl) ?_
    refine ww_iconst (pc := 509) g.1 (v := 5) d_Mo_small_509 (by decide) ?_
    refine ww_iload (pc := 510) g.1 d_Mo_small_510 (lv_at hl 0 rfl) ?_
    refine ww_i2l (pc := 512) g.1 (v := v495.toInt64) d_Mo_small_512 rfl ?_
    obtain ⟨v513, s, hc513, h⟩ := oB_of h
    refine ww_callV (pc := 513) (rest := []) g cv_Va_set (Or.inl kw_99) (cl_Va hp1) (vok_p hp1).1 (ct_Va_set hp1 hc513) ⟨by decide, by decide⟩ rfl hl.1 (Nat.le_of_ble_eq_true rfl) d_Mo_small_513 rfl ?_
    refine ww_st (st' := []) rfl ?_
    exact ww_vretH (pc := 516) g h hR d_Mo_small_516


