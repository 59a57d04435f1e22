abbrev b_St_setList : ByteArray := prog_10_method_37_code
def y_St_setList : MethodName := ⟨R_St, "setList", "()V"⟩
abbrev w_St_setList : List Cond := .code y_St_setList b_St_setList 6 none :: wA
set_option maxRecDepth 20000 in
theorem k_St_setList : Cond.code y_St_setList b_St_setList 6 none ∈ wA := kinm (show _ ∈ tables_1 from (List.mem_append_right _ (List.mem_append_right _ (List.mem_append_right _ (List.mem_append_right _ (List.mem_append_right _ (List.mem_append_right _ (List.mem_append_left _ (List.mem_of_getElem? (l := tables_1_7) (i := 80) rfl))))))))) rfl
theorem d_St_setList_0 : decode b_St_setList 0 = .ok (.aload_n 0, 1) := by decide +kernel
theorem d_St_setList_1 : decode b_St_setList 1 = .ok (.getfield 137, 3) := by decide +kernel
theorem d_St_setList_4 : decode b_St_setList 4 = .ok (.ifCond .ne 20, 3) := by decide +kernel
theorem d_St_setList_7 : decode b_St_setList 7 = .ok (.aload_n 0, 1) := by decide +kernel
theorem d_St_setList_8 : decode b_St_setList 8 = .ok (.getfield 9, 3) := by decide +kernel
theorem d_St_setList_11 : decode b_St_setList 11 = .ok (.getfield 351, 3) := by decide +kernel
theorem d_St_setList_14 : decode b_St_setList 14 = .ok (.aload_n 0, 1) := by decide +kernel
theorem d_St_setList_15 : decode b_St_setList 15 = .ok (.getfield 57, 3) := by decide +kernel
theorem d_St_setList_18 : decode b_St_setList 18 = .ok (.isub, 1) := by decide +kernel
theorem d_St_setList_19 : decode b_St_setList 19 = .ok (.iconst 1, 1) := by decide +kernel
theorem d_St_setList_20 : decode b_St_setList 20 = .ok (.isub, 1) := by decide +kernel
theorem d_St_setList_21 : decode b_St_setList 21 = .ok (.goto 7, 3) := by decide +kernel
theorem d_St_setList_24 : decode b_St_setList 24 = .ok (.aload_n 0, 1) := by decide +kernel
theorem d_St_setList_25 : decode b_St_setList 25 = .ok (.getfield 137, 3) := by decide +kernel
theorem d_St_setList_28 : decode b_St_setList 28 = .ok (.istore_n 1, 1) := by decide +kernel
theorem d_St_setList_29 : decode b_St_setList 29 = .ok (.aload_n 0, 1) := by decide +kernel
theorem d_St_setList_30 : decode b_St_setList 30 = .ok (.getfield 137, 3) := by decide +kernel
theorem d_St_setList_33 : decode b_St_setList 33 = .ok (.ifCond .ne 16, 3) := by decide +kernel
theorem d_St_setList_36 : decode b_St_setList 36 = .ok (.aload_n 0, 1) := by decide +kernel
theorem d_St_setList_37 : decode b_St_setList 37 = .ok (.getfield 9, 3) := by decide +kernel
theorem d_St_setList_40 : decode b_St_setList 40 = .ok (.getfield 354, 3) := by decide +kernel
theorem d_St_setList_43 : decode b_St_setList 43 = .ok (.getfield 276, 3) := by decide +kernel
theorem d_St_setList_46 : decode b_St_setList 46 = .ok (.goto 4, 3) := by decide +kernel
theorem d_St_setList_49 : decode b_St_setList 49 = .ok (.iconst 0, 1) := by decide +kernel
theorem d_St_setList_50 : decode b_St_setList 50 = .ok (.istore_n 2, 1) := by decide +kernel
theorem d_St_setList_51 : decode b_St_setList 51 = .ok (.aload_n 0, 1) := by decide +kernel
theorem d_St_setList_52 : decode b_St_setList 52 = .ok (.aload_n 0, 1) := by decide +kernel
theorem d_St_setList_53 : decode b_St_setList 53 = .ok (.getfield 57, 3) := by decide +kernel
theorem d_St_setList_56 : decode b_St_setList 56 = .ok (.invokevirtual 77, 3) := by decide +kernel
theorem d_St_setList_59 : decode b_St_setList 59 = .ok (.iconst 5, 1) := by decide +kernel
theorem d_St_setList_60 : decode b_St_setList 60 = .ok (.if_icmp .ne 7, 3) := by decide +kernel
theorem d_St_setList_63 : decode b_St_setList 63 = .ok (.iconst 0, 1) := by decide +kernel
theorem d_St_setList_64 : decode b_St_setList 64 = .ok (.goto 4, 3) := by decide +kernel
theorem d_St_setList_67 : decode b_St_setList 67 = .ok (.iconst 2, 1) := by decide +kernel
theorem d_St_setList_68 : decode b_St_setList 68 = .ok (.istore_n 3, 1) := by decide +kernel
theorem d_St_setList_69 : decode b_St_setList 69 = .ok (.aload_n 0, 1) := by decide +kernel
theorem d_St_setList_70 : decode b_St_setList 70 = .ok (.aload_n 0, 1) := by decide +kernel
theorem d_St_setList_71 : decode b_St_setList 71 = .ok (.getfield 57, 3) := by decide +kernel
theorem d_St_setList_74 : decode b_St_setList 74 = .ok (.invokevirtual 80, 3) := by decide +kernel
theorem d_St_setList_77 : decode b_St_setList 77 = .ok (.l2i, 1) := by decide +kernel
theorem d_St_setList_78 : decode b_St_setList 78 = .ok (.istore 4, 2) := by decide +kernel
theorem d_St_setList_80 : decode b_St_setList 80 = .ok (.iconst 0, 1) := by decide +kernel
theorem d_St_setList_81 : decode b_St_setList 81 = .ok (.istore 5, 2) := by decide +kernel
theorem d_St_setList_83 : decode b_St_setList 83 = .ok (.iload 5, 2) := by decide +kernel
theorem d_St_setList_85 : decode b_St_setList 85 = .ok (.iload_n 1, 1) := by decide +kernel
theorem d_St_setList_86 : decode b_St_setList 86 = .ok (.if_icmp .ge 58, 3) := by decide +kernel
theorem d_St_setList_89 : decode b_St_setList 89 = .ok (.iload_n 3, 1) := by decide +kernel
theorem d_St_setList_90 : decode b_St_setList 90 = .ok (.ifCond .ne 54, 3) := by decide +kernel
theorem d_St_setList_93 : decode b_St_setList 93 = .ok (.aload_n 0, 1) := by decide +kernel
theorem d_St_setList_94 : decode b_St_setList 94 = .ok (.getfield 26, 3) := by decide +kernel
theorem d_St_setList_97 : decode b_St_setList 97 = .ok (.iload 4, 2) := by decide +kernel
theorem d_St_setList_99 : decode b_St_setList 99 = .ok (.iconst 3, 1) := by decide +kernel
theorem d_St_setList_100 : decode b_St_setList 100 = .ok (.aload_n 0, 1) := by decide +kernel
theorem d_St_setList_101 : decode b_St_setList 101 = .ok (.getfield 140, 3) := by decide +kernel
theorem d_St_setList_104 : decode b_St_setList 104 = .ok (.iload 5, 2) := by decide +kernel
theorem d_St_setList_106 : decode b_St_setList 106 = .ok (.iadd, 1) := by decide +kernel
theorem d_St_setList_107 : decode b_St_setList 107 = .ok (.i2l, 1) := by decide +kernel
theorem d_St_setList_108 : decode b_St_setList 108 = .ok (.aload_n 0, 1) := by decide +kernel
theorem d_St_setList_109 : decode b_St_setList 109 = .ok (.aload_n 0, 1) := by decide +kernel
theorem d_St_setList_110 : decode b_St_setList 110 = .ok (.getfield 57, 3) := by decide +kernel
theorem d_St_setList_113 : decode b_St_setList 113 = .ok (.iconst 1, 1) := by decide +kernel
theorem d_St_setList_114 : decode b_St_setList 114 = .ok (.iadd, 1) := by decide +kernel
theorem d_St_setList_115 : decode b_St_setList 115 = .ok (.iload 5, 2) := by decide +kernel
theorem d_St_setList_117 : decode b_St_setList 117 = .ok (.iadd, 1) := by decide +kernel
theorem d_St_setList_118 : decode b_St_setList 118 = .ok (.invokevirtual 77, 3) := by decide +kernel
theorem d_St_setList_121 : decode b_St_setList 121 = .ok (.aload_n 0, 1) := by decide +kernel
theorem d_St_setList_122 : decode b_St_setList 122 = .ok (.aload_n 0, 1) := by decide +kernel
theorem d_St_setList_123 : decode b_St_setList 123 = .ok (.getfield 57, 3) := by decide +kernel
theorem d_St_setList_126 : decode b_St_setList 126 = .ok (.iconst 1, 1) := by decide +kernel
theorem d_St_setList_127 : decode b_St_setList 127 = .ok (.iadd, 1) := by decide +kernel
theorem d_St_setList_128 : decode b_St_setList 128 = .ok (.iload 5, 2) := by decide +kernel
theorem d_St_setList_130 : decode b_St_setList 130 = .ok (.iadd, 1) := by decide +kernel
theorem d_St_setList_131 : decode b_St_setList 131 = .ok (.invokevirtual 80, 3) := by decide +kernel
theorem d_St_setList_134 : decode b_St_setList 134 = .ok (.invokevirtual 213, 3) := by decide +kernel
theorem d_St_setList_137 : decode b_St_setList 137 = .ok (.istore_n 3, 1) := by decide +kernel
theorem d_St_setList_138 : decode b_St_setList 138 = .ok (.iinc 5 1, 3) := by decide +kernel
theorem d_St_setList_141 : decode b_St_setList 141 = .ok (.goto (-58), 3) := by decide +kernel
theorem d_St_setList_144 : decode b_St_setList 144 = .ok (.iconst 0, 1) := by decide +kernel
theorem d_St_setList_145 : decode b_St_setList 145 = .ok (.istore 5, 2) := by decide +kernel
theorem d_St_setList_147 : decode b_St_setList 147 = .ok (.iload 5, 2) := by decide +kernel
theorem d_St_setList_149 : decode b_St_setList 149 = .ok (.iload_n 2, 1) := by decide +kernel
theorem d_St_setList_150 : decode b_St_setList 150 = .ok (.if_icmp .ge 60, 3) := by decide +kernel
theorem d_St_setList_153 : decode b_St_setList 153 = .ok (.iload_n 3, 1) := by decide +kernel
theorem d_St_setList_154 : decode b_St_setList 154 = .ok (.ifCond .ne 56, 3) := by decide +kernel
theorem d_St_setList_157 : decode b_St_setList 157 = .ok (.aload_n 0, 1) := by decide +kernel
theorem d_St_setList_158 : decode b_St_setList 158 = .ok (.getfield 26, 3) := by decide +kernel
theorem d_St_setList_161 : decode b_St_setList 161 = .ok (.iload 4, 2) := by decide +kernel
theorem d_St_setList_163 : decode b_St_setList 163 = .ok (.iconst 3, 1) := by decide +kernel
theorem d_St_setList_164 : decode b_St_setList 164 = .ok (.aload_n 0, 1) := by decide +kernel
theorem d_St_setList_165 : decode b_St_setList 165 = .ok (.getfield 140, 3) := by decide +kernel
theorem d_St_setList_168 : decode b_St_setList 168 = .ok (.iload_n 1, 1) := by decide +kernel
theorem d_St_setList_169 : decode b_St_setList 169 = .ok (.iadd, 1) := by decide +kernel
theorem d_St_setList_170 : decode b_St_setList 170 = .ok (.iload 5, 2) := by decide +kernel
theorem d_St_setList_172 : decode b_St_setList 172 = .ok (.iadd, 1) := by decide +kernel
theorem d_St_setList_173 : decode b_St_setList 173 = .ok (.i2l, 1) := by decide +kernel
theorem d_St_setList_174 : decode b_St_setList 174 = .ok (.aload_n 0, 1) := by decide +kernel
theorem d_St_setList_175 : decode b_St_setList 175 = .ok (.getfield 9, 3) := by decide +kernel
theorem d_St_setList_178 : decode b_St_setList 178 = .ok (.getfield 354, 3) := by decide +kernel
theorem d_St_setList_181 : decode b_St_setList 181 = .ok (.getfield 360, 3) := by decide +kernel
theorem d_St_setList_184 : decode b_St_setList 184 = .ok (.iload 5, 2) := by decide +kernel
theorem d_St_setList_186 : decode b_St_setList 186 = .ok (.baload, 1) := by decide +kernel
theorem d_St_setList_187 : decode b_St_setList 187 = .ok (.aload_n 0, 1) := by decide +kernel
theorem d_St_setList_188 : decode b_St_setList 188 = .ok (.getfield 9, 3) := by decide +kernel
theorem d_St_setList_191 : decode b_St_setList 191 = .ok (.getfield 354, 3) := by decide +kernel
theorem d_St_setList_194 : decode b_St_setList 194 = .ok (.getfield 361, 3) := by decide +kernel
theorem d_St_setList_197 : decode b_St_setList 197 = .ok (.iload 5, 2) := by decide +kernel
theorem d_St_setList_199 : decode b_St_setList 199 = .ok (.laload, 1) := by decide +kernel
theorem d_St_setList_200 : decode b_St_setList 200 = .ok (.invokevirtual 213, 3) := by decide +kernel
theorem d_St_setList_203 : decode b_St_setList 203 = .ok (.istore_n 3, 1) := by decide +kernel
theorem d_St_setList_204 : decode b_St_setList 204 = .ok (.iinc 5 1, 3) := by decide +kernel
theorem d_St_setList_207 : decode b_St_setList 207 = .ok (.goto (-60), 3) := by decide +kernel
theorem d_St_setList_210 : decode b_St_setList 210 = .ok (.aload_n 0, 1) := by decide +kernel
theorem d_St_setList_211 : decode b_St_setList 211 = .ok (.getfield 9, 3) := by decide +kernel
theorem d_St_setList_214 : decode b_St_setList 214 = .ok (.getfield 354, 3) := by decide +kernel
theorem d_St_setList_217 : decode b_St_setList 217 = .ok (.invokevirtual 357, 3) := by decide +kernel
theorem d_St_setList_220 : decode b_St_setList 220 = .ok (.iload_n 3, 1) := by decide +kernel
theorem d_St_setList_221 : decode b_St_setList 221 = .ok (.ifCond .eq 11, 3) := by decide +kernel
theorem d_St_setList_224 : decode b_St_setList 224 = .ok (.aload_n 0, 1) := by decide +kernel
theorem d_St_setList_225 : decode b_St_setList 225 = .ok (.getfield 9, 3) := by decide +kernel
theorem d_St_setList_228 : decode b_St_setList 228 = .ok (.iload_n 3, 1) := by decide +kernel
theorem d_St_setList_229 : decode b_St_setList 229 = .ok (.invokevirtual 193, 3) := by decide +kernel
theorem d_St_setList_232 : decode b_St_setList 232 = .ok (.return_, 1) := by decide +kernel
theorem kw_1374 : Cond.instanceMethod y_St_setList ∈ wA := kinm (show _ ∈ tables_1 from (List.mem_append_right _ (List.mem_append_right _ (List.mem_append_right _ (List.mem_append_right _ (List.mem_append_right _ (List.mem_append_right _ (List.mem_append_left _ (List.mem_of_getElem? (l := tables_1_7) (i := 79) (by decide +kernel)))))))))) (by decide +kernel)
theorem kw_1375 : Cond.selects R_St y_St_setList y_St_setList ∈ wA := kinp 43 (by decide +kernel) (by decide +kernel)
theorem cv_St_setList : CV y_St_setList b_St_setList 6 none 0 := ⟨kw_1374, kw_1375, kw_883, k_St_setList, by decide +kernel⟩
theorem lp_St_setList_L83 {X : Cx} {q : PL} (g : Gd X y_St_setList b_St_setList 6 none 5 132 R_St) (x : Int32 × Int32 × Int32 × Int32 × Int32) (s : S1) (o : ((Int32 × Int32 × Int32 × Int32 × Int32) ⊕ ((Int32 × Int32 × Int32 × Int32))) × S1) (h : M_St_setList_L83 x s = some o) (hR : (Sum.elim (fun y : Int32 × Int32 × Int32 × Int32 × Int32 => ∀ ls : Array Slot, lv_has ls 6 [(0, .ref (q.1 129 0)), (1, .int y.1), (2, .int y.2.1), (3, .int y.2.2.1), (4, .int y.2.2.2.1), (5, .int y.2.2.2.2)] → WW X q o.2 83 ls []) (fun y : Int32 × Int32 × Int32 × Int32 => ∀ ls : Array Slot, lv_has ls 6 [(0, .ref (q.1 129 0)), (1, .int y.1), (2, .int y.2.1), (3, .int y.2.2.1), (4, .int y.2.2.2)] → WW X q o.2 144 ls []) o.1)) : ∀ ls : Array Slot, lv_has ls 6 [(0, .ref (q.1 129 0)), (1, .int x.1), (2, .int x.2.1), (3, .int x.2.2.1), (4, .int x.2.2.2.1), (5, .int x.2.2.2.2)] → WW X q s 83 ls [] := by
  intro ls hl
  unfold M_St_setList_L83 at h
  refine ww_iload (pc := 83) g.1 d_St_setList_83 (lv_at hl 5 rfl) ?_
  refine ww_iload_n (pc := 85) g.1 d_St_setList_85 rfl (lv_at hl 1 rfl) ?_
  refine ww_icmp_ge (pc := 86) (tgt := 144) g.1 d_St_setList_86 (by decide) h (fun c h => ?_) (fun c h => ?_)
  · rw [oR_eq h] at hR
    exact hR ls (lv_sub hl [0, 1, 2, 3, 4] rfl)
  · refine ww_iload_n (pc := 89) g.1 d_St_setList_89 rfl (lv_at hl 3 rfl) ?_
    refine ww_if_ne (pc := 90) (tgt := 144) g.1 d_St_setList_90 (by decide) h (fun c h => ?_) (fun c h => ?_)
    · rw [oR_eq h] at hR
      exact hR ls (lv_sub hl [0, 1, 2, 3, 4] rfl)
    · refine ww_aload_n (pc := 93) g.1 d_St_setList_93 rfl (lv_at hl 0 rfl) ?_
      refine ww_gR (pc := 94) g (k := 2) cl_St (pz rfl (by decide)) (by decide) (Or.inl kw_1101) (f := 16514) (t := 120) rfl rfl rfl d_St_setList_94 ?_
      refine ww_iload (pc := 97) g.1 d_St_setList_97 (lv_at hl 4 rfl) ?_
      refine ww_iconst (pc := 99) g.1 (v := 3) d_St_setList_99 (by decide) ?_
      refine ww_aload_n (pc := 100) g.1 d_St_setList_100 rfl (lv_at hl 0 rfl) ?_
      refine ww_gI (pc := 101) g (k := 11) cl_St (pz rfl (by decide)) (by decide) (Or.inl kw_879) (f := 16523) rfl rfl d_St_setList_101 h fun v101 h => ?_
      refine ww_iload (pc := 104) g.1 d_St_setList_104 (lv_at hl 5 rfl) ?_
      refine ww_iadd (pc := 106) g.1 d_St_setList_106 ?_
      refine ww_i2l (pc := 107) g.1 (v := (v101 + x.2.2.2.2).toInt64) d_St_setList_107 rfl ?_
      refine ww_aload_n (pc := 108) g.1 d_St_setList_108 rfl (lv_at hl 0 rfl) ?_
      refine ww_aload_n (pc := 109) g.1 d_St_setList_109 rfl (lv_at hl 0 rfl) ?_
      refine ww_gI (pc := 110) g (k := 9) cl_St (pz rfl (by decide)) (by decide) (Or.inl kw_877) (f := 16521) rfl rfl d_St_setList_110 h fun v110 h => ?_
      refine ww_iconst (pc := 113) g.1 (v := 1) d_St_setList_113 (by decide) ?_
      refine ww_iadd (pc := 114) g.1 d_St_setList_114 ?_
      refine ww_iload (pc := 115) g.1 d_St_setList_115 (lv_at hl 5 rfl) ?_
      refine ww_iadd (pc := 117) g.1 d_St_setList_117 ?_
      obtain ⟨v118, s, hc118, h⟩ := oB_of h
      refine ww_callV (pc := 118) (rest := [.long ((v101 + x.2.2.2.2).toInt64), .int 3, .int x.2.2.2.1, .ref (q.1 120 0)]) g cv_St_kindOf (Or.inl kw_914) cl_St (pz rfl (by decide)) (ct_St_kindOf hc118) ⟨by decide, by decide⟩ rfl hl.1 (Nat.le_of_ble_eq_true rfl) d_St_setList_118 rfl (?_)
      refine ww_st (st' := [.int v118, .long ((v101 + x.2.2.2.2).toInt64), .int 3, .int x.2.2.2.1, .ref (q.1 120 0)]) rfl ?_
      refine ww_aload_n (pc := 121) g.1 d_St_setList_121 rfl (lv_at hl 0 rfl) ?_
      refine ww_aload_n (pc := 122) g.1 d_St_setList_122 rfl (lv_at hl 0 rfl) ?_
      refine ww_gI (pc := 123) g (k := 9) cl_St (pz rfl (by decide)) (by decide) (Or.inl kw_877) (f := 16521) rfl rfl d_St_setList_123 h fun v123 h => ?_
      refine ww_iconst (pc := 126) g.1 (v := 1) d_St_setList_126 (by decide) ?_
      refine ww_iadd (pc := 127) g.1 d_St_setList_127 ?_
      refine ww_iload (pc := 128) g.1 d_St_setList_128 (lv_at hl 5 rfl) ?_
      refine ww_iadd (pc := 130) g.1 d_St_setList_130 ?_
      obtain ⟨v131, s, hc131, h⟩ := oB_of h
      refine ww_callV (pc := 131) (rest := [.int v118, .long ((v101 + x.2.2.2.2).toInt64), .int 3, .int x.2.2.2.1, .ref (q.1 120 0)]) g cv_St_valueOf (Or.inl kw_1120) cl_St (pz rfl (by decide)) (ct_St_valueOf hc131) ⟨by decide, by decide⟩ rfl hl.1 (Nat.le_of_ble_eq_true rfl) d_St_setList_131 rfl (?_)
      refine ww_st (st' := [.long v131, .int v118, .long ((v101 + x.2.2.2.2).toInt64), .int 3, .int x.2.2.2.1, .ref (q.1 120 0)]) rfl ?_
      obtain ⟨v134, s, hc134, h⟩ := oB_of h
      refine ww_callV (pc := 134) (rest := []) g cv_Ta_write (Or.inl kw_1371) cl_Ta (pz rfl (by decide)) (ct_Ta_write hc134) ⟨by decide, by decide⟩ rfl hl.1 (Nat.le_of_ble_eq_true rfl) d_St_setList_134 rfl (?_)
      refine ww_st (st' := [.int v134]) rfl ?_
      refine ww_istore_n (pc := 137) (i := 3) g.1 (lv' := [(3, .int v134), (0, .ref (q.1 129 0)), (1, .int x.1), (2, .int x.2.1), (4, .int x.2.2.2.1), (5, .int x.2.2.2.2)]) d_St_setList_137 rfl hl (by decide) rfl fun ls hl => ?_
      refine ww_iinc (pc := 138) g.1 (v := x.2.2.2.2 + 1) (lv' := [(5, .int (x.2.2.2.2 + 1)), (3, .int v134), (0, .ref (q.1 129 0)), (1, .int x.1), (2, .int x.2.1), (4, .int x.2.2.2.1)]) d_St_setList_138 hl (k := 5) rfl (by rfl) (by decide) rfl fun ls hl => ?_
      refine ww_goto (pc := 141) (tgt := 83) g.1 d_St_setList_141 (by decide) ?_
      rw [oR_eq h] at hR
      exact hR ls (lv_sub hl [2, 3, 4, 1, 5, 0] rfl)

theorem lp_St_setList_L147 {X : Cx} {q : PL} (g : Gd X y_St_setList b_St_setList 6 none 5 132 R_St) (x : Int32 × Int32 × Int32 × Int32 × Int32) (s : S1) (o : ((Int32 × Int32 × Int32 × Int32 × Int32) ⊕ ((Int32))) × S1) (h : M_St_setList_L147 x s = some o) (hR : (Sum.elim (fun y : Int32 × Int32 × Int32 × Int32 × Int32 => ∀ ls : Array Slot, lv_has ls 6 [(0, .ref (q.1 129 0)), (1, .int y.1), (2, .int y.2.1), (3, .int y.2.2.1), (4, .int y.2.2.2.1), (5, .int y.2.2.2.2)] → WW X q o.2 147 ls []) (fun y : Int32 => ∀ ls : Array Slot, lv_has ls 6 [(0, .ref (q.1 129 0)), (3, .int y)] → WW X q o.2 210 ls []) o.1)) : ∀ ls : Array Slot, lv_has ls 6 [(0, .ref (q.1 129 0)), (1, .int x.1), (2, .int x.2.1), (3, .int x.2.2.1), (4, .int x.2.2.2.1), (5, .int x.2.2.2.2)] → WW X q s 147 ls [] := by
  intro ls hl
  unfold M_St_setList_L147 at h
  refine ww_iload (pc := 147) g.1 d_St_setList_147 (lv_at hl 5 rfl) ?_
  refine ww_iload_n (pc := 149) g.1 d_St_setList_149 rfl (lv_at hl 2 rfl) ?_
  refine ww_icmp_ge (pc := 150) (tgt := 210) g.1 d_St_setList_150 (by decide) h (fun c h => ?_) (fun c h => ?_)
  · rw [oR_eq h] at hR
    exact hR ls (lv_sub hl [0, 3] rfl)
  · refine ww_iload_n (pc := 153) g.1 d_St_setList_153 rfl (lv_at hl 3 rfl) ?_
    refine ww_if_ne (pc := 154) (tgt := 210) g.1 d_St_setList_154 (by decide) h (fun c h => ?_) (fun c h => ?_)
    · rw [oR_eq h] at hR
      exact hR ls (lv_sub hl [0, 3] rfl)
    · refine ww_aload_n (pc := 157) g.1 d_St_setList_157 rfl (lv_at hl 0 rfl) ?_
      refine ww_gR (pc := 158) g (k := 2) cl_St (pz rfl (by decide)) (by decide) (Or.inl kw_1101) (f := 16514) (t := 120) rfl rfl rfl d_St_setList_158 ?_
      refine ww_iload (pc := 161) g.1 d_St_setList_161 (lv_at hl 4 rfl) ?_
      refine ww_iconst (pc := 163) g.1 (v := 3) d_St_setList_163 (by decide) ?_
      refine ww_aload_n (pc := 164) g.1 d_St_setList_164 rfl (lv_at hl 0 rfl) ?_
      refine ww_gI (pc := 165) g (k := 11) cl_St (pz rfl (by decide)) (by decide) (Or.inl kw_879) (f := 16523) rfl rfl d_St_setList_165 h fun v165 h => ?_
      refine ww_iload_n (pc := 168) g.1 d_St_setList_168 rfl (lv_at hl 1 rfl) ?_
      refine ww_iadd (pc := 169) g.1 d_St_setList_169 ?_
      refine ww_iload (pc := 170) g.1 d_St_setList_170 (lv_at hl 5 rfl) ?_
      refine ww_iadd (pc := 172) g.1 d_St_setList_172 ?_
      refine ww_i2l (pc := 173) g.1 (v := ((v165 + x.1) + x.2.2.2.2).toInt64) d_St_setList_173 rfl ?_
      refine ww_aload_n (pc := 174) g.1 d_St_setList_174 rfl (lv_at hl 0 rfl) ?_
      refine ww_gR (pc := 175) g (k := 0) cl_St (pz rfl (by decide)) (by decide) (Or.inl kw_863) (f := 16512) (t := 128) rfl rfl rfl d_St_setList_175 ?_
      refine ww_gR (pc := 178) g (k := 5) cl_Ma (pz rfl (by decide)) (by decide) (Or.inl kw_930) (f := 16389) (t := 138) rfl rfl rfl d_St_setList_178 ?_
      refine ww_gR (pc := 181) g (k := 0) (cl_Ro ⟨by decide, rfl⟩) (pz rfl (by decide)) (by decide) (Or.inl kw_1129) (f := 17664) (t := 139) rfl rfl rfl d_St_setList_181 ?_
      refine ww_iload (pc := 184) g.1 d_St_setList_184 (lv_at hl 5 rfl) ?_
      refine ww_ab (pc := 186) g (pz rfl (by decide)) rfl rfl d_St_setList_186 h fun v186 h => ?_
      refine ww_aload_n (pc := 187) g.1 d_St_setList_187 rfl (lv_at hl 0 rfl) ?_
      refine ww_gR (pc := 188) g (k := 0) cl_St (pz rfl (by decide)) (by decide) (Or.inl kw_863) (f := 16512) (t := 128) rfl rfl rfl d_St_setList_188 ?_
      refine ww_gR (pc := 191) g (k := 5) cl_Ma (pz rfl (by decide)) (by decide) (Or.inl kw_930) (f := 16389) (t := 138) rfl rfl rfl d_St_setList_191 ?_
      refine ww_gR (pc := 194) g (k := 1) (cl_Ro ⟨by decide, rfl⟩) (pz rfl (by decide)) (by decide) (Or.inl kw_1130) (f := 17665) (t := 140) rfl rfl rfl d_St_setList_194 ?_
      refine ww_iload (pc := 197) g.1 d_St_setList_197 (lv_at hl 5 rfl) ?_
      refine ww_al (pc := 199) g (pz rfl (by decide)) rfl rfl d_St_setList_199 h fun v199 h => ?_
      obtain ⟨v200, s, hc200, h⟩ := oB_of h
      refine ww_callV (pc := 200) (rest := []) g cv_Ta_write (Or.inl kw_1371) cl_Ta (pz rfl (by decide)) (ct_Ta_write hc200) ⟨by decide, by decide⟩ rfl hl.1 (Nat.le_of_ble_eq_true rfl) d_St_setList_200 rfl (?_)
      refine ww_st (st' := [.int v200]) rfl ?_
      refine ww_istore_n (pc := 203) (i := 3) g.1 (lv' := [(3, .int v200), (0, .ref (q.1 129 0)), (1, .int x.1), (2, .int x.2.1), (4, .int x.2.2.2.1), (5, .int x.2.2.2.2)]) d_St_setList_203 rfl hl (by decide) rfl fun ls hl => ?_
      refine ww_iinc (pc := 204) g.1 (v := x.2.2.2.2 + 1) (lv' := [(5, .int (x.2.2.2.2 + 1)), (3, .int v200), (0, .ref (q.1 129 0)), (1, .int x.1), (2, .int x.2.1), (4, .int x.2.2.2.1)]) d_St_setList_204 hl (k := 5) rfl (by rfl) (by decide) rfl fun ls hl => ?_
      refine ww_goto (pc := 207) (tgt := 147) g.1 d_St_setList_207 (by decide) ?_
      rw [oR_eq h] at hR
      exact hR ls (lv_sub hl [2, 3, 4, 1, 5, 0] rfl)

theorem j_St_setList_j210 {X : Cx} {q : PL} (g : Gd X y_St_setList b_St_setList 6 none 5 132 R_St) {o : (Unit) × S1} (hR : Rt X q o.2 none) (l3 : Int32) (s : S1) (ls : Array Slot) (hl : lv_has ls 6 [(0, .ref (q.1 129 0)), (3, .int l3)]) (h : M_St_setList_j210 l3 s = some o) : WW X q s 210 ls [] := by
  unfold M_St_setList_j210 at h
  refine ww_aload_n (pc := 210) g.1 d_St_setList_210 rfl (lv_at hl 0 rfl) ?_
  refine ww_gR (pc := 211) g (k := 0) cl_St (pz rfl (by decide)) (by decide) (Or.inl kw_863) (f := 16512) (t := 128) rfl rfl rfl d_St_setList_211 ?_
  refine ww_gR (pc := 214) g (k := 5) cl_Ma (pz rfl (by decide)) (by decide) (Or.inl kw_930) (f := 16389) (t := 138) rfl rfl rfl d_St_setList_214 ?_
  obtain ⟨v217, s, hc217, h⟩ := oB_of h
  refine ww_callV (pc := 217) (rest := []) g cv_Ro_clear (Or.inl kw_931) (cl_Ro ⟨by decide, rfl⟩) (pz rfl (by decide)) (ct_Ro_clear ⟨by decide, rfl⟩ hc217) ⟨by decide, by decide⟩ rfl hl.1 (Nat.le_of_ble_eq_true rfl) d_St_setList_217 rfl (?_)
  refine ww_st (st' := []) rfl ?_
  refine ww_iload_n (pc := 220) g.1 d_St_setList_220 rfl (lv_at hl 1 rfl) ?_
  refine ww_if_eq (pc := 221) (tgt := 232) g.1 d_St_setList_221 (by decide) h (fun c h => ?_) (fun c h => ?_)
  · exact ww_vretH (pc := 232) g h hR d_St_setList_232
  · refine ww_aload_n (pc := 224) g.1 d_St_setList_224 rfl (lv_at hl 0 rfl) ?_
    refine ww_gR (pc := 225) g (k := 0) cl_St (pz rfl (by decide)) (by decide) (Or.inl kw_863) (f := 16512) (t := 128) rfl rfl rfl d_St_setList_225 ?_
    refine ww_iload_n (pc := 228) g.1 d_St_setList_228 rfl (lv_at hl 1 rfl) ?_
    obtain ⟨v229, s, hc229, h⟩ := oB_of h
    refine ww_callV (pc := 229) (rest := []) g cv_Ma_fail (Or.inl kw_1106) cl_Ma (pz rfl (by decide)) (ct_Ma_fail hc229) ⟨by decide, by decide⟩ rfl hl.1 (Nat.le_of_ble_eq_true rfl) d_St_setList_229 rfl (?_)
    refine ww_st (st' := []) rfl ?_
    exact ww_vretH (pc := 232) g h hR d_St_setList_232

theorem j_St_setList_j144 {X : Cx} {q : PL} (g : Gd X y_St_setList b_St_setList 6 none 5 132 R_St) {o : (Unit) × S1} (hR : Rt X q o.2 none) (l1 : Int32) (l2 : Int32) (l3 : Int32) (l4 : Int32) (s : S1) (ls : Array Slot) (hl : lv_has ls 6 [(0, .ref (q.1 129 0)), (1, .int l1), (2, .int l2), (3, .int l3), (4, .int l4)]) (h : M_St_setList_j144 l1 l2 l3 l4 s = some o) : WW X q s 144 ls [] := by
  unfold M_St_setList_j144 at h
  refine ww_iconst (pc := 144) g.1 (v := 0) d_St_setList_144 (by decide) ?_
  refine ww_istore (pc := 145) (i := 5) g.1 (lv' := [(5, .int 0), (0, .ref (q.1 129 0)), (1, .int l1), (2, .int l2), (3, .int l3), (4, .int l4)]) d_St_setList_145 hl (by decide) rfl fun ls hl => ?_
  obtain ⟨e147, s1, hw, h⟩ := oB_of h
  refine oW_rule (Wh := fun (x : Int32 × Int32 × Int32 × Int32 × Int32) (s : S1) => ∀ ls : Array Slot, lv_has ls 6 [(0, .ref (q.1 129 0)), (1, .int x.1), (2, .int x.2.1), (3, .int x.2.2.1), (4, .int x.2.2.2.1), (5, .int x.2.2.2.2)] → WW X q s 147 ls []) (We := fun (e : (Int32)) (s : S1) => ∀ ls : Array Slot, lv_has ls 6 [(0, .ref (q.1 129 0)), (3, .int e)] → WW X q s 210 ls []) (fun x s o hb hc => lp_St_setList_L147 (q := q) g x s o hb hc) hw ?_ ls (lv_sub hl [1, 2, 3, 4, 5, 0] rfl)
  clear hw hl
  clear ls
  intro ls hl
  generalize s1 = s at h ⊢
  exact j_St_setList_j210 g hR e147 s ls (lv_sub hl [0, 1] rfl) h

theorem j_St_setList_j68 {X : Cx} {q : PL} (g : Gd X y_St_setList b_St_setList 6 none 5 132 R_St) {o : (Unit) × S1} (hR : Rt X q o.2 none) (l1 : Int32) (l2 : Int32) (k0 : Int32) (s : S1) (ls : Array Slot) (hl : lv_has ls 6 [(0, .ref (q.1 129 0)), (1, .int l1), (2, .int l2)]) (h : M_St_setList_j68 l1 l2 k0 s = some o) : WW X q s 68 ls [.int k0] := by
  unfold M_St_setList_j68 at h
  refine ww_istore_n (pc := 68) (i := 3) g.1 (lv' := [(3, .int k0), (0, .ref (q.1 129 0)), (1, .int l1), (2, .int l2)]) d_St_setList_68 rfl hl (by decide) rfl fun ls hl => ?_
  refine ww_aload_n (pc := 69) g.1 d_St_setList_69 rfl (lv_at hl 1 rfl) ?_
  refine ww_aload_n (pc := 70) g.1 d_St_setList_70 rfl (lv_at hl 1 rfl) ?_
  refine ww_gI (pc := 71) g (k := 9) cl_St (pz rfl (by decide)) (by decide) (Or.inl kw_877) (f := 16521) rfl rfl d_St_setList_71 h fun v71 h => ?_
  obtain ⟨v74, s, hc74, h⟩ := oB_of h
  refine ww_callV (pc := 74) (rest := []) g cv_St_valueOf (Or.inl kw_1120) cl_St (pz rfl (by decide)) (ct_St_valueOf hc74) ⟨by decide, by decide⟩ rfl hl.1 (Nat.le_of_ble_eq_true rfl) d_St_setList_74 rfl (?_)
  refine ww_st (st' := [.long v74]) rfl ?_
  refine ww_l2i (pc := 77) g.1 (v := v74.toInt32) d_St_setList_77 rfl ?_
  refine ww_istore (pc := 78) (i := 4) g.1 (lv' := [(4, .int v74.toInt32), (3, .int k0), (0, .ref (q.1 129 0)), (1, .int l1), (2, .int l2)]) d_St_setList_78 hl (by decide) rfl fun ls hl => ?_
  refine ww_iconst (pc := 80) g.1 (v := 0) d_St_setList_80 (by decide) ?_
  refine ww_istore (pc := 81) (i := 5) g.1 (lv' := [(5, .int 0), (4, .int v74.toInt32), (3, .int k0), (0, .ref (q.1 129 0)), (1, .int l1), (2, .int l2)]) d_St_setList_81 hl (by decide) rfl fun ls hl => ?_
  obtain ⟨e83, s1, hw, h⟩ := oB_of h
  refine oW_rule (Wh := fun (x : Int32 × Int32 × Int32 × Int32 × Int32) (s : S1) => ∀ ls : Array Slot, lv_has ls 6 [(0, .ref (q.1 129 0)), (1, .int x.1), (2, .int x.2.1), (3, .int x.2.2.1), (4, .int x.2.2.2.1), (5, .int x.2.2.2.2)] → WW X q s 83 ls []) (We := fun (e : (Int32 × Int32 × Int32 × Int32)) (s : S1) => ∀ ls : Array Slot, lv_has ls 6 [(0, .ref (q.1 129 0)), (1, .int e.1), (2, .int e.2.1), (3, .int e.2.2.1), (4, .int e.2.2.2)] → WW X q s 144 ls []) (fun x s o hb hc => lp_St_setList_L83 (q := q) g x s o hb hc) hw ?_ ls (lv_sub hl [3, 4, 5, 2, 1, 0] rfl)
  clear hw hl
  clear ls
  intro ls hl
  generalize s1 = s at h ⊢
  exact j_St_setList_j144 g hR e83.1 e83.2.1 e83.2.2.1 e83.2.2.2 s ls (lv_sub hl [0, 1, 2, 3, 4] rfl) h

theorem j_St_setList_j50 {X : Cx} {q : PL} (g : Gd X y_St_setList b_St_setList 6 none 5 132 R_St) {o : (Unit) × S1} (hR : Rt X q o.2 none) (l1 : Int32) (k0 : Int32) (s : S1) (ls : Array Slot) (hl : lv_has ls 6 [(0, .ref (q.1 129 0)), (1, .int l1)]) (h : M_St_setList_j50 l1 k0 s = some o) : WW X q s 50 ls [.int k0] := by
  unfold M_St_setList_j50 at h
  refine ww_istore_n (pc := 50) (i := 2) g.1 (lv' := [(2, .int k0), (0, .ref (q.1 129 0)), (1, .int l1)]) d_St_setList_50 rfl hl (by decide) rfl fun ls hl => ?_
  refine ww_aload_n (pc := 51) g.1 d_St_setList_51 rfl (lv_at hl 1 rfl) ?_
  refine ww_aload_n (pc := 52) g.1 d_St_setList_52 rfl (lv_at hl 1 rfl) ?_
  refine ww_gI (pc := 53) g (k := 9) cl_St (pz rfl (by decide)) (by decide) (Or.inl kw_877) (f := 16521) rfl rfl d_St_setList_53 h fun v53 h => ?_
  obtain ⟨v56, s, hc56, h⟩ := oB_of h
  refine ww_callV (pc := 56) (rest := []) g cv_St_kindOf (Or.inl kw_914) cl_St (pz rfl (by decide)) (ct_St_kindOf hc56) ⟨by decide, by decide⟩ rfl hl.1 (Nat.le_of_ble_eq_true rfl) d_St_setList_56 rfl (?_)
  refine ww_st (st' := [.int v56]) rfl ?_
  refine ww_iconst (pc := 59) g.1 (v := 5) d_St_setList_59 (by decide) ?_
  refine ww_icmp_ne (pc := 60) (tgt := 67) g.1 d_St_setList_60 (by decide) h (fun c h => ?_) (fun c h => ?_)
  · refine ww_iconst (pc := 67) g.1 (v := 2) d_St_setList_67 (by decide) ?_
    exact j_St_setList_j68 g hR l1 k0 2 s ls (lv_sub hl [1, 2, 0] rfl) h
  · refine ww_iconst (pc := 63) g.1 (v := 0) d_St_setList_63 (by decide) ?_
    refine ww_goto (pc := 64) (tgt := 68) g.1 d_St_setList_64 (by decide) ?_
    exact j_St_setList_j68 g hR l1 k0 0 s ls (lv_sub hl [1, 2, 0] rfl) h

theorem j_St_setList_j28 {X : Cx} {q : PL} (g : Gd X y_St_setList b_St_setList 6 none 5 132 R_St) {o : (Unit) × S1} (hR : Rt X q o.2 none) (k0 : Int32) (s : S1) (ls : Array Slot) (hl : lv_has ls 6 [(0, .ref (q.1 129 0))]) (h : M_St_setList_j28 k0 s = some o) : WW X q s 28 ls [.int k0] := by
  unfold M_St_setList_j28 at h
  refine ww_istore_n (pc := 28) (i := 1) g.1 (lv' := [(1, .int k0), (0, .ref (q.1 129 0))]) d_St_setList_28 rfl hl (by decide) rfl fun ls hl => ?_
  refine ww_aload_n (pc := 29) g.1 d_St_setList_29 rfl (lv_at hl 1 rfl) ?_
  refine ww_gI (pc := 30) g (k := 10) cl_St (pz rfl (by decide)) (by decide) (Or.inl kw_878) (f := 16522) rfl rfl d_St_setList_30 h fun v30 h => ?_
  refine ww_if_ne (pc := 33) (tgt := 49) g.1 d_St_setList_33 (by decide) h (fun c h => ?_) (fun c h => ?_)
  · refine ww_iconst (pc := 49) g.1 (v := 0) d_St_setList_49 (by decide) ?_
    exact j_St_setList_j50 g hR k0 0 s ls (lv_sub hl [1, 0] rfl) h
  · refine ww_aload_n (pc := 36) g.1 d_St_setList_36 rfl (lv_at hl 1 rfl) ?_
    refine ww_gR (pc := 37) g (k := 0) cl_St (pz rfl (by decide)) (by decide) (Or.inl kw_863) (f := 16512) (t := 128) rfl rfl rfl d_St_setList_37 ?_
    refine ww_gR (pc := 40) g (k := 5) cl_Ma (pz rfl (by decide)) (by decide) (Or.inl kw_930) (f := 16389) (t := 138) rfl rfl rfl d_St_setList_40 ?_
    refine ww_gI (pc := 43) g (k := 2) (cl_Ro ⟨by decide, rfl⟩) (pz rfl (by decide)) (by decide) (Or.inl kw_1131) (f := 17666) rfl rfl d_St_setList_43 h fun v43 h => ?_
    refine ww_goto (pc := 46) (tgt := 50) g.1 d_St_setList_46 (by decide) ?_
    exact j_St_setList_j50 g hR k0 v43 s ls (lv_sub hl [1, 0] rfl) h

theorem ct_St_setList {l : Launch} {P : PP} {q : PL} {s s' : S1}  {r : Unit} (h : M_St_setList s = some (r, s')) : Ct l y_St_setList b_St_setList 6 none 5 132 P q s [.ref (q.1 129 0)] none q s' := by
  refine ct_of (by decide) (Nat.le_of_ble_eq_true rfl) fun X ls eP el g hR hl => ?_
  subst eP
  have hR : Rt X q ((r, s') : Unit × S1).2 none := hR
  have hl : lv_has ls 6 [(0, .ref (q.1 129 0))] := hl
  generalize (r, s') = o at h hR
  unfold M_St_setList at h
  refine ww_aload_n (pc := 0) g.1 d_St_setList_0 rfl (lv_at hl 0 rfl) ?_
  refine ww_gI (pc := 1) g (k := 10) cl_St (pz rfl (by decide)) (by decide) (Or.inl kw_878) (f := 16522) rfl rfl d_St_setList_1 h fun v1 h => ?_
  refine ww_if_ne (pc := 4) (tgt := 24) g.1 d_St_setList_4 (by decide) h (fun c h => ?_) (fun c h => ?_)
  · refine ww_aload_n (pc := 24) g.1 d_St_setList_24 rfl (lv_at hl 0 rfl) ?_
    refine ww_gI (pc := 25) g (k := 10) cl_St (pz rfl (by decide)) (by decide) (Or.inl kw_878) (f := 16522) rfl rfl d_St_setList_25 h fun v25 h => ?_
    exact j_St_setList_j28 g hR v25 s ls (lv_sub hl [0] rfl) h
  · refine ww_aload_n (pc := 7) g.1 d_St_setList_7 rfl (lv_at hl 0 rfl) ?_
    refine ww_gR (pc := 8) g (k := 0) cl_St (pz rfl (by decide)) (by decide) (Or.inl kw_863) (f := 16512) (t := 128) rfl rfl rfl d_St_setList_8 ?_
    refine ww_gI (pc := 11) g (k := 6) cl_Ma (pz rfl (by decide)) (by decide) (Or.inl kw_929) (f := 16390) rfl rfl d_St_setList_11 h fun v11 h => ?_
    refine ww_aload_n (pc := 14) g.1 d_St_setList_14 rfl (lv_at hl 0 rfl) ?_
    refine ww_gI (pc := 15) g (k := 9) cl_St (pz rfl (by decide)) (by decide) (Or.inl kw_877) (f := 16521) rfl rfl d_St_setList_15 h fun v15 h => ?_
    refine ww_isub (pc := 18) g.1 d_St_setList_18 ?_
    refine ww_iconst (pc := 19) g.1 (v := 1) d_St_setList_19 (by decide) ?_
    refine ww_isub (pc := 20) g.1 d_St_setList_20 ?_
    refine ww_goto (pc := 21) (tgt := 28) g.1 d_St_setList_21 (by decide) ?_
    exact j_St_setList_j28 g hR ((v11 - v15) - 1) s ls (lv_sub hl [0] rfl) h

abbrev b_He_openVariable : ByteArray := prog_6_method_19_code
def y_He_openVariable : MethodName := ⟨R_He, "openVariable", "(LLuaMachine$Coroutine;I)I"⟩
abbrev w_He_openVariable : List Cond := .code y_He_openVariable b_He_openVariable 6 (some .int) :: wA
set_option maxRecDepth 20000 in
theorem k_He_openVariable : Cond.code y_He_openVariable b_He_openVariable 6 (some .int) ∈ wA := kinm (show _ ∈ tables_1 from (List.mem_append_right _ (List.mem_append_right _ (List.mem_append_right _ (List.mem_append_right _ (List.mem_append_right _ (List.mem_append_right _ (List.mem_append_left _ (List.mem_of_getElem? (l := tables_1_7) (i := 89) rfl))))))))) rfl
theorem d_He_openVariable_0 : decode b_He_openVariable 0 = .ok (.iconst (-1), 1) := by decide +kernel
theorem d_He_openVariable_1 : decode b_He_openVariable 1 = .ok (.istore_n 3, 1) := by decide +kernel
theorem d_He_openVariable_2 : decode b_He_openVariable 2 = .ok (.aload_n 1, 1) := by decide +kernel
theorem d_He_openVariable_3 : decode b_He_openVariable 3 = .ok (.getfield 185, 3) := by decide +kernel
theorem d_He_openVariable_6 : decode b_He_openVariable 6 = .ok (.istore 4, 2) := by decide +kernel
theorem d_He_openVariable_8 : decode b_He_openVariable 8 = .ok (.iconst 0, 1) := by decide +kernel
theorem d_He_openVariable_9 : decode b_He_openVariable 9 = .ok (.istore 5, 2) := by decide +kernel
theorem d_He_openVariable_11 : decode b_He_openVariable 11 = .ok (.iload 4, 2) := by decide +kernel
theorem d_He_openVariable_13 : decode b_He_openVariable 13 = .ok (.ifCond .lt 46, 3) := by decide +kernel
theorem d_He_openVariable_16 : decode b_He_openVariable 16 = .ok (.aload_n 0, 1) := by decide +kernel
theorem d_He_openVariable_17 : decode b_He_openVariable 17 = .ok (.getfield 11, 3) := by decide +kernel
theorem d_He_openVariable_20 : decode b_He_openVariable 20 = .ok (.iload 4, 2) := by decide +kernel
theorem d_He_openVariable_22 : decode b_He_openVariable 22 = .ok (.aaload, 1) := by decide +kernel
theorem d_He_openVariable_23 : decode b_He_openVariable 23 = .ok (.getfield 119, 3) := by decide +kernel
theorem d_He_openVariable_26 : decode b_He_openVariable 26 = .ok (.iload_n 2, 1) := by decide +kernel
theorem d_He_openVariable_27 : decode b_He_openVariable 27 = .ok (.if_icmp .le 32, 3) := by decide +kernel
theorem d_He_openVariable_30 : decode b_He_openVariable 30 = .ok (.iload 5, 2) := by decide +kernel
theorem d_He_openVariable_32 : decode b_He_openVariable 32 = .ok (.sipush 4000, 3) := by decide +kernel
theorem d_He_openVariable_35 : decode b_He_openVariable 35 = .ok (.if_icmp .ge 24, 3) := by decide +kernel
theorem d_He_openVariable_38 : decode b_He_openVariable 38 = .ok (.iload 4, 2) := by decide +kernel
theorem d_He_openVariable_40 : decode b_He_openVariable 40 = .ok (.istore_n 3, 1) := by decide +kernel
theorem d_He_openVariable_41 : decode b_He_openVariable 41 = .ok (.aload_n 0, 1) := by decide +kernel
theorem d_He_openVariable_42 : decode b_He_openVariable 42 = .ok (.getfield 11, 3) := by decide +kernel
theorem d_He_openVariable_45 : decode b_He_openVariable 45 = .ok (.iload 4, 2) := by decide +kernel
theorem d_He_openVariable_47 : decode b_He_openVariable 47 = .ok (.aaload, 1) := by decide +kernel
theorem d_He_openVariable_48 : decode b_He_openVariable 48 = .ok (.getfield 129, 3) := by decide +kernel
theorem d_He_openVariable_51 : decode b_He_openVariable 51 = .ok (.istore 4, 2) := by decide +kernel
theorem d_He_openVariable_53 : decode b_He_openVariable 53 = .ok (.iinc 5 1, 3) := by decide +kernel
theorem d_He_openVariable_56 : decode b_He_openVariable 56 = .ok (.goto (-45), 3) := by decide +kernel
theorem d_He_openVariable_59 : decode b_He_openVariable 59 = .ok (.iload 4, 2) := by decide +kernel
theorem d_He_openVariable_61 : decode b_He_openVariable 61 = .ok (.ifCond .lt 20, 3) := by decide +kernel
theorem d_He_openVariable_64 : decode b_He_openVariable 64 = .ok (.aload_n 0, 1) := by decide +kernel
theorem d_He_openVariable_65 : decode b_He_openVariable 65 = .ok (.getfield 11, 3) := by decide +kernel
theorem d_He_openVariable_68 : decode b_He_openVariable 68 = .ok (.iload 4, 2) := by decide +kernel
theorem d_He_openVariable_70 : decode b_He_openVariable 70 = .ok (.aaload, 1) := by decide +kernel
theorem d_He_openVariable_71 : decode b_He_openVariable 71 = .ok (.getfield 119, 3) := by decide +kernel
theorem d_He_openVariable_74 : decode b_He_openVariable 74 = .ok (.iload_n 2, 1) := by decide +kernel
theorem d_He_openVariable_75 : decode b_He_openVariable 75 = .ok (.if_icmp .ne 6, 3) := by decide +kernel
theorem d_He_openVariable_78 : decode b_He_openVariable 78 = .ok (.iload 4, 2) := by decide +kernel
theorem d_He_openVariable_80 : decode b_He_openVariable 80 = .ok (.ireturn, 1) := by decide +kernel
theorem d_He_openVariable_81 : decode b_He_openVariable 81 = .ok (.aload_n 0, 1) := by decide +kernel
theorem d_He_openVariable_82 : decode b_He_openVariable 82 = .ok (.bipush 8, 2) := by decide +kernel
theorem d_He_openVariable_84 : decode b_He_openVariable 84 = .ok (.iconst 0, 1) := by decide +kernel
theorem d_He_openVariable_85 : decode b_He_openVariable 85 = .ok (.iconst 0, 1) := by decide +kernel
theorem d_He_openVariable_86 : decode b_He_openVariable 86 = .ok (.invokevirtual 93, 3) := by decide +kernel
theorem d_He_openVariable_89 : decode b_He_openVariable 89 = .ok (.istore 5, 2) := by decide +kernel
theorem d_He_openVariable_91 : decode b_He_openVariable 91 = .ok (.iload 5, 2) := by decide +kernel
theorem d_He_openVariable_93 : decode b_He_openVariable 93 = .ok (.ifCond .ge 6, 3) := by decide +kernel
theorem d_He_openVariable_96 : decode b_He_openVariable 96 = .ok (.iload 5, 2) := by decide +kernel
theorem d_He_openVariable_98 : decode b_He_openVariable 98 = .ok (.ireturn, 1) := by decide +kernel
theorem d_He_openVariable_99 : decode b_He_openVariable 99 = .ok (.aload_n 0, 1) := by decide +kernel
theorem d_He_openVariable_100 : decode b_He_openVariable 100 = .ok (.getfield 11, 3) := by decide +kernel
theorem d_He_openVariable_103 : decode b_He_openVariable 103 = .ok (.iload 5, 2) := by decide +kernel
theorem d_He_openVariable_105 : decode b_He_openVariable 105 = .ok (.aaload, 1) := by decide +kernel
theorem d_He_openVariable_106 : decode b_He_openVariable 106 = .ok (.aload_n 1, 1) := by decide +kernel
theorem d_He_openVariable_107 : decode b_He_openVariable 107 = .ok (.getfield 188, 3) := by decide +kernel
theorem d_He_openVariable_110 : decode b_He_openVariable 110 = .ok (.putfield 97, 3) := by decide +kernel
theorem d_He_openVariable_113 : decode b_He_openVariable 113 = .ok (.aload_n 0, 1) := by decide +kernel
theorem d_He_openVariable_114 : decode b_He_openVariable 114 = .ok (.getfield 11, 3) := by decide +kernel
theorem d_He_openVariable_117 : decode b_He_openVariable 117 = .ok (.iload 5, 2) := by decide +kernel
theorem d_He_openVariable_119 : decode b_He_openVariable 119 = .ok (.aaload, 1) := by decide +kernel
theorem d_He_openVariable_120 : decode b_He_openVariable 120 = .ok (.iload_n 2, 1) := by decide +kernel
theorem d_He_openVariable_121 : decode b_He_openVariable 121 = .ok (.putfield 119, 3) := by decide +kernel
theorem d_He_openVariable_124 : decode b_He_openVariable 124 = .ok (.aload_n 0, 1) := by decide +kernel
theorem d_He_openVariable_125 : decode b_He_openVariable 125 = .ok (.getfield 11, 3) := by decide +kernel
theorem d_He_openVariable_128 : decode b_He_openVariable 128 = .ok (.iload 5, 2) := by decide +kernel
theorem d_He_openVariable_130 : decode b_He_openVariable 130 = .ok (.aaload, 1) := by decide +kernel
theorem d_He_openVariable_131 : decode b_He_openVariable 131 = .ok (.iload 4, 2) := by decide +kernel
theorem d_He_openVariable_133 : decode b_He_openVariable 133 = .ok (.putfield 129, 3) := by decide +kernel
theorem d_He_openVariable_136 : decode b_He_openVariable 136 = .ok (.iload_n 3, 1) := by decide +kernel
theorem d_He_openVariable_137 : decode b_He_openVariable 137 = .ok (.ifCond .ge 12, 3) := by decide +kernel
theorem d_He_openVariable_140 : decode b_He_openVariable 140 = .ok (.aload_n 1, 1) := by decide +kernel
theorem d_He_openVariable_141 : decode b_He_openVariable 141 = .ok (.iload 5, 2) := by decide +kernel
theorem d_He_openVariable_143 : decode b_He_openVariable 143 = .ok (.putfield 185, 3) := by decide +kernel
theorem d_He_openVariable_146 : decode b_He_openVariable 146 = .ok (.goto 14, 3) := by decide +kernel
theorem d_He_openVariable_149 : decode b_He_openVariable 149 = .ok (.aload_n 0, 1) := by decide +kernel
theorem d_He_openVariable_150 : decode b_He_openVariable 150 = .ok (.getfield 11, 3) := by decide +kernel
theorem d_He_openVariable_153 : decode b_He_openVariable 153 = .ok (.iload_n 3, 1) := by decide +kernel
theorem d_He_openVariable_154 : decode b_He_openVariable 154 = .ok (.aaload, 1) := by decide +kernel
theorem d_He_openVariable_155 : decode b_He_openVariable 155 = .ok (.iload 5, 2) := by decide +kernel
theorem d_He_openVariable_157 : decode b_He_openVariable 157 = .ok (.putfield 129, 3) := by decide +kernel
theorem d_He_openVariable_160 : decode b_He_openVariable 160 = .ok (.iload 5, 2) := by decide +kernel
theorem d_He_openVariable_162 : decode b_He_openVariable 162 = .ok (.ireturn, 1) := by decide +kernel
theorem kw_1376 : Cond.fieldLink R_He 188 "LuaMachine$Coroutine" "index" "I" ∈ wA := kinm (show _ ∈ tables_1 from (List.mem_append_right _ (List.mem_append_right _ (List.mem_append_right _ (List.mem_append_right _ (List.mem_append_right _ (List.mem_append_left _ (List.mem_of_getElem? (l := tables_1_6) (i := 149) (by decide +kernel))))))))) (by decide +kernel)
theorem kw_1377 : Cond.instanceMethod y_He_openVariable ∈ wA := kinm (show _ ∈ tables_1 from (List.mem_append_right _ (List.mem_append_right _ (List.mem_append_right _ (List.mem_append_right _ (List.mem_append_right _ (List.mem_append_right _ (List.mem_append_left _ (List.mem_of_getElem? (l := tables_1_7) (i := 87) (by decide +kernel)))))))))) (by decide +kernel)
theorem kw_1378 : Cond.selects R_He y_He_openVariable y_He_openVariable ∈ wA := kinm (show _ ∈ tables_1 from (List.mem_append_right _ (List.mem_append_right _ (List.mem_append_right _ (List.mem_append_right _ (List.mem_append_right _ (List.mem_append_right _ (List.mem_append_left _ (List.mem_of_getElem? (l := tables_1_7) (i := 88) (by decide +kernel)))))))))) (by decide +kernel)
theorem cv_He_openVariable : CV y_He_openVariable b_He_openVariable 6 (some .int) 2 := ⟨kw_1377, kw_1378, kw_712, k_He_openVariable, by decide +kernel⟩
theorem lp_He_openVariable_L11 {X : Cx} {q0 : PL} (g : Gd X y_He_openVariable b_He_openVariable 6 (some .int) 4 97 R_He) (x : Int32 × Int32 × Int32 × Int32 × Int32 × (Nat × Nat)) (s : S1) (o : ((Int32 × Int32 × Int32 × Int32 × Int32 × (Nat × Nat)) ⊕ ((Int32 × Int32 × Int32 × Int32 × (Nat × Nat)))) × S1) (h : M_He_openVariable_L11 x s = some o) (hR : (Sum.elim (fun y : Int32 × Int32 × Int32 × Int32 × Int32 × (Nat × Nat) => ∀ q : PL, Exq (xP X) [] q0 q → Rmq (xP X) q y.2.2.2.2.2 → ∀ ls : Array Slot, (prs o.2 148 y.1) → lv_has ls 6 [(0, .ref (q.1 111 0)), (1, .ref (q.1 148 y.1)), (2, .int y.2.1), (3, .int y.2.2.1), (4, .int y.2.2.2.1), (5, .int y.2.2.2.2.1)] → WW X q o.2 11 ls []) (fun y : Int32 × Int32 × Int32 × Int32 × (Nat × Nat) => ∀ q : PL, Exq (xP X) [] q0 q → Rmq (xP X) q y.2.2.2.2 → ∀ ls : Array Slot, (prs o.2 148 y.1) → lv_has ls 6 [(0, .ref (q.1 111 0)), (1, .ref (q.1 148 y.1)), (2, .int y.2.1), (3, .int y.2.2.1), (4, .int y.2.2.2.1)] → WW X q o.2 59 ls []) o.1)) : ∀ q : PL, Exq (xP X) [] q0 q → Rmq (xP X) q x.2.2.2.2.2 → ∀ ls : Array Slot, (prs s 148 x.1) → lv_has ls 6 [(0, .ref (q.1 111 0)), (1, .ref (q.1 148 x.1)), (2, .int x.2.1), (3, .int x.2.2.1), (4, .int x.2.2.2.1), (5, .int x.2.2.2.2.1)] → WW X q s 11 ls [] := by
  intro q hx0 hm ls hp0 hl
  unfold M_He_openVariable_L11 at h
  refine ww_iload (pc := 11) g.1 d_He_openVariable_11 (lv_at hl 4 rfl) ?_
  refine ww_if_lt (pc := 13) (tgt := 59) g.1 d_He_openVariable_13 (by decide) h (fun c h => ?_) (fun c h => ?_)
  · rw [oR_eq h] at hR
    exact hR q hx0 hm ls hp0 (lv_sub hl [0, 1, 2, 3, 4] rfl)
  · refine ww_aload_n (pc := 16) g.1 d_He_openVariable_16 rfl (lv_at hl 0 rfl) ?_
    refine ww_gR (pc := 17) g (k := 0) cl_He (pz rfl (by decide)) (by decide) (Or.inl kw_725) (f := 14208) (t := 112) rfl rfl rfl d_He_openVariable_17 ?_
    refine ww_iload (pc := 20) g.1 d_He_openVariable_20 (lv_at hl 4 rfl) ?_
    refine ww_a8 (pc := 22) g (t := 145) (n := 4000) (pz rfl (by decide)) rfl rfl rfl rfl d_He_openVariable_22 h fun pa22 h => ?_
    refine ww_gI (pc := 23) g (k := 6) cl_Tg pa22 (by decide) (Or.inl kw_762) (f := 18566) rfl rfl d_He_openVariable_23 h fun v23 h => ?_
    refine ww_iload_n (pc := 26) g.1 d_He_openVariable_26 rfl (lv_at hl 2 rfl) ?_
    refine ww_icmp_le (pc := 27) (tgt := 59) g.1 d_He_openVariable_27 (by decide) h (fun c h => ?_) (fun c h => ?_)
    · rw [oR_eq h] at hR
      exact hR q hx0 hm ls hp0 (lv_sub hl [0, 1, 2, 3, 4] rfl)
    · refine ww_iload (pc := 30) g.1 d_He_openVariable_30 (lv_at hl 5 rfl) ?_
      refine ww_sipush (pc := 32) g.1 (v := 4000) d_He_openVariable_32 (by decide) ?_
      refine ww_icmp_ge (pc := 35) (tgt := 59) g.1 d_He_openVariable_35 (by decide) h (fun c h => ?_) (fun c h => ?_)
      · rw [oR_eq h] at hR
        exact hR q hx0 hm ls hp0 (lv_sub hl [0, 1, 2, 3, 4] rfl)
      · refine ww_iload (pc := 38) g.1 d_He_openVariable_38 (lv_at hl 4 rfl) ?_
        refine ww_istore_n (pc := 40) (i := 3) g.1 (lv' := [(3, .int x.2.2.2.1), (0, .ref (q.1 111 0)), (1, .ref (q.1 148 x.1)), (2, .int x.2.1), (4, .int x.2.2.2.1), (5, .int x.2.2.2.2.1)]) d_He_openVariable_40 rfl hl (by decide) rfl fun ls hl => ?_
        refine ww_aload_n (pc := 41) g.1 d_He_openVariable_41 rfl (lv_at hl 1 rfl) ?_
        refine ww_gR (pc := 42) g (k := 0) cl_He (pz rfl (by decide)) (by decide) (Or.inl kw_725) (f := 14208) (t := 112) rfl rfl rfl d_He_openVariable_42 ?_
        refine ww_iload (pc := 45) g.1 d_He_openVariable_45 (lv_at hl 4 rfl) ?_
        refine ww_a8 (pc := 47) g (t := 145) (n := 4000) (pz rfl (by decide)) rfl rfl rfl rfl d_He_openVariable_47 h fun pa47 h => ?_
        refine ww_gI (pc := 48) g (k := 5) cl_Tg pa47 (by decide) (Or.inl kw_744) (f := 18565) rfl rfl d_He_openVariable_48 h fun v48 h => ?_
        refine ww_istore (pc := 51) (i := 4) g.1 (lv' := [(4, .int v48), (3, .int x.2.2.2.1), (0, .ref (q.1 111 0)), (1, .ref (q.1 148 x.1)), (2, .int x.2.1), (5, .int x.2.2.2.2.1)]) d_He_openVariable_51 hl (by decide) rfl fun ls hl => ?_
        refine ww_iinc (pc := 53) g.1 (v := x.2.2.2.2.1 + 1) (lv' := [(5, .int (x.2.2.2.2.1 + 1)), (4, .int v48), (3, .int x.2.2.2.1), (0, .ref (q.1 111 0)), (1, .ref (q.1 148 x.1)), (2, .int x.2.1)]) d_He_openVariable_53 hl (k := 5) rfl (by rfl) (by decide) rfl fun ls hl => ?_
        refine ww_goto (pc := 56) (tgt := 11) g.1 d_He_openVariable_56 (by decide) ?_
        rw [oR_eq h] at hR
        exact hR q hx0 hm ls hp0 (lv_sub hl [3, 4, 5, 2, 1, 0] rfl)

theorem j_He_openVariable_j81 {X : Cx} {q0 q : PL} (g : Gd X y_He_openVariable b_He_openVariable 6 (some .int) 4 97 R_He) {o : (Int32 × (Nat × Nat)) × S1} (hR : RtX X [] q0 o.1.2 o.2 (fun _ => some (.int o.1.1))) (hx0 : Exq (xP X) [] q0 q) (l1 : Int32) (l2 : Int32) (l3 : Int32) (l4 : Int32) (ln : Nat × Nat) (hm : Rmq (xP X) q ln) (s : S1) (hp0 : prs s 148 l1) (ls : Array Slot) (hl : lv_has ls 6 [(0, .ref (q.1 111 0)), (1, .ref (q.1 148 l1)), (2, .int l2), (3, .int l3), (4, .int l4)]) (h : M_He_openVariable_j81 l1 l2 l3 l4 ln s = some o) : WW X q s 81 ls [] := by
  unfold M_He_openVariable_j81 at h
  refine ww_aload_n (pc := 81) g.1 d_He_openVariable_81 rfl (lv_at hl 0 rfl) ?_
  refine ww_bipush (pc := 82) g.1 (v := 8) d_He_openVariable_82 (by decide) ?_
  refine ww_iconst (pc := 84) g.1 (v := 0) d_He_openVariable_84 (by decide) ?_
  refine ww_iconst (pc := 85) g.1 (v := 0) d_He_openVariable_85 (by decide) ?_
  refine ww_lo fun dlo => ?_
  obtain ⟨v86, s, hc86, h⟩ := oB_of h
  refine ww_callVX (pc := 86) (rest := []) g cv_He_make (Or.inl kw_1357) cl_He (pz rfl (by decide)) (ct_He_make hm hc86) ⟨by decide, by decide⟩ rfl hl.1 (Nat.le_of_ble_eq_true rfl) d_He_openVariable_86 rfl (fun q86 hE hm => ?_)
  have ex86_0 : q86.1 111 0 = q.1 111 0 := hE _ _ (by decide) (dlo _ _ (pz rfl (by decide)))
  have ex86_1 : q86.1 148 l1 = q.1 148 l1 := hE _ _ (by decide) (dlo _ _ hp0)
  have hl : lv_has ls 6 [(0, .ref (q86.1 111 0)), (1, .ref (q86.1 148 l1)), (2, .int l2), (3, .int l3), (4, .int l4)] := by rw [ex86_0, ex86_1]; exact hl
  refine ww_st (st' := [.int v86.1]) (by rfl) ?_
  refine ww_hi fun dhi => ?_
  have hp0 : prs s 148 l1 := dhi _ _ hp0.2.1 hp0.2.2 (by rw [ex86_1]; exact dlo _ _ hp0)
  have hx0 : Exq (xP X) [] _ q86 := hx0.tr (hE.sub (by decide))
  refine ww_istore (pc := 89) (i := 5) g.1 (lv' := [(5, .int v86.1), (0, .ref (q86.1 111 0)), (1, .ref (q86.1 148 l1)), (2, .int l2), (3, .int l3), (4, .int l4)]) d_He_openVariable_89 hl (by decide) rfl fun ls hl => ?_
  refine ww_iload (pc := 91) g.1 d_He_openVariable_91 (lv_at hl 0 rfl) ?_
  refine ww_if_ge (pc := 93) (tgt := 99) g.1 d_He_openVariable_93 (by decide) h (fun c h => ?_) (fun c h => ?_)
  · refine ww_aload_n (pc := 99) g.1 d_He_openVariable_99 rfl (lv_at hl 1 rfl) ?_
    refine ww_gR (pc := 100) g (k := 0) cl_He (pz rfl (by decide)) (by decide) (Or.inl kw_725) (f := 14208) (t := 112) rfl rfl rfl d_He_openVariable_100 ?_
    refine ww_iload (pc := 103) g.1 d_He_openVariable_103 (lv_at hl 0 rfl) ?_
    refine ww_a8 (pc := 105) g (t := 145) (n := 4000) (pz rfl (by decide)) rfl rfl rfl rfl d_He_openVariable_105 h fun pa105 h => ?_
    refine ww_aload_n (pc := 106) g.1 d_He_openVariable_106 rfl (lv_at hl 2 rfl) ?_
    refine ww_gI (pc := 107) g (k := 3) cl_Co hp0 (by decide) (Or.inl kw_1376) (f := 18947) rfl rfl d_He_openVariable_107 h fun v107 h => ?_
    refine ww_pI (pc := 110) g (k := 4) cl_Tg pa105 (by decide) (Or.inl kw_759) rfl (f := 18564) rfl rfl rfl rfl d_He_openVariable_110 h fun s hs h => ?_
    have hp0 : prs s 148 l1 := prs_kI (r := 145) (k := 4) (by decide) hs hp0
    refine ww_aload_n (pc := 113) g.1 d_He_openVariable_113 rfl (lv_at hl 1 rfl) ?_
    refine ww_gR (pc := 114) g (k := 0) cl_He (pz rfl (by decide)) (by decide) (Or.inl kw_725) (f := 14208) (t := 112) rfl rfl rfl d_He_openVariable_114 ?_
    refine ww_iload (pc := 117) g.1 d_He_openVariable_117 (lv_at hl 0 rfl) ?_
    refine ww_a8 (pc := 119) g (t := 145) (n := 4000) (pz rfl (by decide)) rfl rfl rfl rfl d_He_openVariable_119 h fun pa119 h => ?_
    refine ww_iload_n (pc := 120) g.1 d_He_openVariable_120 rfl (lv_at hl 3 rfl) ?_
    refine ww_pI (pc := 121) g (k := 6) cl_Tg pa119 (by decide) (Or.inl kw_762) rfl (f := 18566) rfl rfl rfl rfl d_He_openVariable_121 h fun s hs h => ?_
    have hp0 : prs s 148 l1 := prs_kI (r := 145) (k := 6) (by decide) hs hp0
    refine ww_aload_n (pc := 124) g.1 d_He_openVariable_124 rfl (lv_at hl 1 rfl) ?_
    refine ww_gR (pc := 125) g (k := 0) cl_He (pz rfl (by decide)) (by decide) (Or.inl kw_725) (f := 14208) (t := 112) rfl rfl rfl d_He_openVariable_125 ?_
    refine ww_iload (pc := 128) g.1 d_He_openVariable_128 (lv_at hl 0 rfl) ?_
    refine ww_a8 (pc := 130) g (t := 145) (n := 4000) (pz rfl (by decide)) rfl rfl rfl rfl d_He_openVariable_130 h fun pa130 h => ?_
    refine ww_iload (pc := 131) g.1 d_He_openVariable_131 (lv_at hl 5 rfl) ?_
    refine ww_pI (pc := 133) g (k := 5) cl_Tg pa130 (by decide) (Or.inl kw_744) rfl (f := 18565) rfl rfl rfl rfl d_He_openVariable_133 h fun s hs h => ?_
    have hp0 : prs s 148 l1 := prs_kI (r := 145) (k := 5) (by decide) hs hp0
    refine ww_iload_n (pc := 136) g.1 d_He_openVariable_136 rfl (lv_at hl 4 rfl) ?_
    refine ww_if_ge (pc := 137) (tgt := 149) g.1 d_He_openVariable_137 (by decide) h (fun c h => ?_) (fun c h => ?_)
    · refine ww_aload_n (pc := 149) g.1 d_He_openVariable_149 rfl (lv_at hl 1 rfl) ?_
      refine ww_gR (pc := 150) g (k := 0) cl_He (pz rfl (by decide)) (by decide) (Or.inl kw_725) (f := 14208) (t := 112) rfl rfl rfl d_He_openVariable_150 ?_
      refine ww_iload_n (pc := 153) g.1 d_He_openVariable_153 rfl (lv_at hl 4 rfl) ?_
      refine ww_a8 (pc := 154) g (t := 145) (n := 4000) (pz rfl (by decide)) rfl rfl rfl rfl d_He_openVariable_154 h fun pa154 h => ?_
      refine ww_iload (pc := 155) g.1 d_He_openVariable_155 (lv_at hl 0 rfl) ?_
      refine ww_pI (pc := 157) g (k := 5) cl_Tg pa154 (by decide) (Or.inl kw_744) rfl (f := 18565) rfl rfl rfl rfl d_He_openVariable_157 h fun s hs h => ?_
      have hp0 : prs s 148 l1 := prs_kI (r := 145) (k := 5) (by decide) hs hp0
      refine ww_iload (pc := 160) g.1 d_He_openVariable_160 (lv_at hl 0 rfl) ?_
      exact ww_iretX (pc := 162) g h hR hx0 hm d_He_openVariable_162
    · refine ww_aload_n (pc := 140) g.1 d_He_openVariable_140 rfl (lv_at hl 2 rfl) ?_
      refine ww_iload (pc := 141) g.1 d_He_openVariable_141 (lv_at hl 0 rfl) ?_
      refine ww_pI (pc := 143) g (k := 10) cl_Co hp0 (by decide) (Or.inl kw_743) rfl (f := 18954) rfl rfl rfl rfl d_He_openVariable_143 h fun s hs h => ?_
      have hp0 : prs s 148 l1 := prs_kI (r := 148) (k := 10) (by decide) hs hp0
      refine ww_goto (pc := 146) (tgt := 160) g.1 d_He_openVariable_146 (by decide) ?_
      refine ww_iload (pc := 160) g.1 d_He_openVariable_160 (lv_at hl 0 rfl) ?_
      exact ww_iretX (pc := 162) g h hR hx0 hm d_He_openVariable_162
  · refine ww_iload (pc := 96) g.1 d_He_openVariable_96 (lv_at hl 0 rfl) ?_
    exact ww_iretX (pc := 98) g h hR hx0 hm d_He_openVariable_98

theorem j_He_openVariable_j59 {X : Cx} {q0 q : PL} (g : Gd X y_He_openVariable b_He_openVariable 6 (some .int) 4 97 R_He) {o : (Int32 × (Nat × Nat)) × S1} (hR : RtX X [] q0 o.1.2 o.2 (fun _ => some (.int o.1.1))) (hx0 : Exq (xP X) [] q0 q) (l1 : Int32) (l2 : Int32) (l3 : Int32) (l4 : Int32) (ln : Nat × Nat) (hm : Rmq (xP X) q ln) (s : S1) (hp0 : prs s 148 l1) (ls : Array Slot) (hl : lv_has ls 6 [(0, .ref (q.1 111 0)), (1, .ref (q.1 148 l1)), (2, .int l2), (3, .int l3), (4, .int l4)]) (h : M_He_openVariable_j59 l1 l2 l3 l4 ln s = some o) : WW X q s 59 ls [] := by
  unfold M_He_openVariable_j59 at h
  refine ww_iload (pc := 59) g.1 d_He_openVariable_59 (lv_at hl 4 rfl) ?_
  refine ww_if_lt (pc := 61) (tgt := 81) g.1 d_He_openVariable_61 (by decide) h (fun c h => ?_) (fun c h => ?_)
  · exact j_He_openVariable_j81 g hR hx0 l1 l2 l3 l4 ln hm s hp0 ls (lv_sub hl [0, 1, 2, 3, 4] rfl) h
  · refine ww_aload_n (pc := 64) g.1 d_He_openVariable_64 rfl (lv_at hl 0 rfl) ?_
    refine ww_gR (pc := 65) g (k := 0) cl_He (pz rfl (by decide)) (by decide) (Or.inl kw_725) (f := 14208) (t := 112) rfl rfl rfl d_He_openVariable_65 ?_
    refine ww_iload (pc := 68) g.1 d_He_openVariable_68 (lv_at hl 4 rfl) ?_
    refine ww_a8 (pc := 70) g (t := 145) (n := 4000) (pz rfl (by decide)) rfl rfl rfl rfl d_He_openVariable_70 h fun pa70 h => ?_
    refine ww_gI (pc := 71) g (k := 6) cl_Tg pa70 (by decide) (Or.inl kw_762) (f := 18566) rfl rfl d_He_openVariable_71 h fun v71 h => ?_
    refine ww_iload_n (pc := 74) g.1 d_He_openVariable_74 rfl (lv_at hl 2 rfl) ?_
    refine ww_icmp_ne (pc := 75) (tgt := 81) g.1 d_He_openVariable_75 (by decide) h (fun c h => ?_) (fun c h => ?_)
    · exact j_He_openVariable_j81 g hR hx0 l1 l2 l3 l4 ln hm s hp0 ls (lv_sub hl [0, 1, 2, 3, 4] rfl) h
    · refine ww_iload (pc := 78) g.1 d_He_openVariable_78 (lv_at hl 4 rfl) ?_
      exact ww_iretX (pc := 80) g h hR hx0 hm d_He_openVariable_80

theorem ct_He_openVariable {l : Launch} {P : PP} {q : PL} {s s' : S1} {n0 n1 : Nat × Nat} {l1 : Int32} {l2 : Int32} (hp0 : prs s 148 l1) {r : Int32} (hm : Rmq P q n0) (h : M_He_openVariable n0 l1 l2 s = some ((r, n1), s')) : CtX l y_He_openVariable b_He_openVariable 6 (some .int) 4 97 P [] q s [.ref (q.1 111 0), .ref (q.1 148 l1), .int l2] (fun _ => some (.int r)) n1 s' := by
  refine ctX_of (by decide) (Nat.le_of_ble_eq_true rfl) fun X ls eP el g hR hl => ?_
  subst eP
  obtain ⟨q0, hq0⟩ : ∃ q0 : PL, q0 = q := ⟨q, rfl⟩
  have hx0 : Exq (xP X) [] q0 q := hq0 ▸ Exq.rf
  rw [← hq0] at hR
  have hR : RtX X [] q0 (((r, n1), s') : (Int32 × (Nat × Nat)) × S1).1.2 (((r, n1), s') : (Int32 × (Nat × Nat)) × S1).2 (fun _ => some (.int (((r, n1), s') : (Int32 × (Nat × Nat)) × S1).1.1)) := hR
  have hl : lv_has ls 6 [(0, .ref (q.1 111 0)), (1, .ref (q.1 148 l1)), (2, .int l2)] := hl
  generalize ((r, n1), s') = o at h hR
  unfold M_He_openVariable at h
  refine ww_iconst (pc := 0) g.1 (v := (-1)) d_He_openVariable_0 (by decide) ?_
  refine ww_istore_n (pc := 1) (i := 3) g.1 (lv' := [(3, .int (-1)), (0, .ref (q.1 111 0)), (1, .ref (q.1 148 l1)), (2, .int l2)]) d_He_openVariable_1 rfl hl (by decide) rfl fun ls hl => ?_
  refine ww_aload_n (pc := 2) g.1 d_He_openVariable_2 rfl (lv_at hl 2 rfl) ?_
  refine ww_gI (pc := 3) g (k := 10) cl_Co hp0 (by decide) (Or.inl kw_743) (f := 18954) rfl rfl d_He_openVariable_3 h fun v3 h => ?_
  refine ww_istore (pc := 6) (i := 4) g.1 (lv' := [(4, .int v3), (3, .int (-1)), (0, .ref (q.1 111 0)), (1, .ref (q.1 148 l1)), (2, .int l2)]) d_He_openVariable_6 hl (by decide) rfl fun ls hl => ?_
  refine ww_iconst (pc := 8) g.1 (v := 0) d_He_openVariable_8 (by decide) ?_
  refine ww_istore (pc := 9) (i := 5) g.1 (lv' := [(5, .int 0), (4, .int v3), (3, .int (-1)), (0, .ref (q.1 111 0)), (1, .ref (q.1 148 l1)), (2, .int l2)]) d_He_openVariable_9 hl (by decide) rfl fun ls hl => ?_
  obtain ⟨e11, s1, hw, h⟩ := oB_of h
  refine oW_rule (Wh := fun (x : Int32 × Int32 × Int32 × Int32 × Int32 × (Nat × Nat)) (s : S1) => ∀ q : PL, Exq (xP X) [] q0 q → Rmq (xP X) q x.2.2.2.2.2 → ∀ ls : Array Slot, (prs s 148 x.1) → lv_has ls 6 [(0, .ref (q.1 111 0)), (1, .ref (q.1 148 x.1)), (2, .int x.2.1), (3, .int x.2.2.1), (4, .int x.2.2.2.1), (5, .int x.2.2.2.2.1)] → WW X q s 11 ls []) (We := fun (e : (Int32 × Int32 × Int32 × Int32 × (Nat × Nat))) (s : S1) => ∀ q : PL, Exq (xP X) [] q0 q → Rmq (xP X) q e.2.2.2.2 → ∀ ls : Array Slot, (prs s 148 e.1) → lv_has ls 6 [(0, .ref (q.1 111 0)), (1, .ref (q.1 148 e.1)), (2, .int e.2.1), (3, .int e.2.2.1), (4, .int e.2.2.2.1)] → WW X q s 59 ls []) (fun x s o hb hc => lp_He_openVariable_L11 (q0 := q0) g x s o hb hc) hw ?_ q hx0 hm ls hp0 (lv_sub hl [3, 4, 5, 2, 1, 0] rfl)
  clear hw hl hx0 hm
  clear ls
  generalize s1 = s at h ⊢
  intro qL11 hx0 hm ls hq11_0 hl
  exact j_He_openVariable_j59 g hR hx0 e11.1 e11.2.1 e11.2.2.1 e11.2.2.2.1 e11.2.2.2.2 hm s hq11_0 ls (lv_sub hl [0, 1, 2, 3, 4] rfl) h

abbrev b_St_reckonOne : ByteArray := prog_10_method_18_code
def y_St_reckonOne : MethodName := ⟨R_St, "reckonOne", "()V"⟩
abbrev w_St_reckonOne : List Cond := .code y_St_reckonOne b_St_reckonOne 1 none :: wA
set_option maxRecDepth 20000 in
theorem k_St_reckonOne : Cond.code y_St_reckonOne b_St_reckonOne 1 none ∈ wA := kinm (show _ ∈ tables_1 from (List.mem_append_right _ (List.mem_append_right _ (List.mem_append_right _ (List.mem_append_right _ (List.mem_append_right _ (List.mem_append_right _ (List.mem_append_left _ (List.mem_of_getElem? (l := tables_1_7) (i := 129) rfl))))))))) rfl
theorem d_St_reckonOne_0 : decode b_St_reckonOne 0 = .ok (.aload_n 0, 1) := by decide +kernel
theorem d_St_reckonOne_1 : decode b_St_reckonOne 1 = .ok (.getfield 54, 3) := by decide +kernel
theorem d_St_reckonOne_4 : decode b_St_reckonOne 4 = .ok (.tableswitch 118 27 29 #[28, 56, 63], 28) := by decide +kernel
theorem d_St_reckonOne_32 : decode b_St_reckonOne 32 = .ok (.aload_n 0, 1) := by decide +kernel
theorem d_St_reckonOne_33 : decode b_St_reckonOne 33 = .ok (.aload_n 0, 1) := by decide +kernel
theorem d_St_reckonOne_34 : decode b_St_reckonOne 34 = .ok (.getfield 57, 3) := by decide +kernel
theorem d_St_reckonOne_37 : decode b_St_reckonOne 37 = .ok (.aload_n 0, 1) := by decide +kernel
theorem d_St_reckonOne_38 : decode b_St_reckonOne 38 = .ok (.aload_n 0, 1) := by decide +kernel
theorem d_St_reckonOne_39 : decode b_St_reckonOne 39 = .ok (.getfield 137, 3) := by decide +kernel
theorem d_St_reckonOne_42 : decode b_St_reckonOne 42 = .ok (.invokevirtual 248, 3) := by decide +kernel
theorem d_St_reckonOne_45 : decode b_St_reckonOne 45 = .ok (.ifCond .eq 7, 3) := by decide +kernel
theorem d_St_reckonOne_48 : decode b_St_reckonOne 48 = .ok (.iconst 1, 1) := by decide +kernel
theorem d_St_reckonOne_49 : decode b_St_reckonOne 49 = .ok (.goto 4, 3) := by decide +kernel
theorem d_St_reckonOne_52 : decode b_St_reckonOne 52 = .ok (.iconst 2, 1) := by decide +kernel
theorem d_St_reckonOne_53 : decode b_St_reckonOne 53 = .ok (.lconst 0, 1) := by decide +kernel
theorem d_St_reckonOne_54 : decode b_St_reckonOne 54 = .ok (.invokevirtual 176, 3) := by decide +kernel
theorem d_St_reckonOne_57 : decode b_St_reckonOne 57 = .ok (.goto 176, 3) := by decide +kernel
theorem d_St_reckonOne_60 : decode b_St_reckonOne 60 = .ok (.aload_n 0, 1) := by decide +kernel
theorem d_St_reckonOne_61 : decode b_St_reckonOne 61 = .ok (.invokevirtual 252, 3) := by decide +kernel
theorem d_St_reckonOne_64 : decode b_St_reckonOne 64 = .ok (.goto 169, 3) := by decide +kernel
theorem d_St_reckonOne_67 : decode b_St_reckonOne 67 = .ok (.aload_n 0, 1) := by decide +kernel
theorem d_St_reckonOne_68 : decode b_St_reckonOne 68 = .ok (.getfield 113, 3) := by decide +kernel
theorem d_St_reckonOne_71 : decode b_St_reckonOne 71 = .ok (.aload_n 0, 1) := by decide +kernel
theorem d_St_reckonOne_72 : decode b_St_reckonOne 72 = .ok (.aload_n 0, 1) := by decide +kernel
theorem d_St_reckonOne_73 : decode b_St_reckonOne 73 = .ok (.getfield 140, 3) := by decide +kernel
theorem d_St_reckonOne_76 : decode b_St_reckonOne 76 = .ok (.invokevirtual 77, 3) := by decide +kernel
theorem d_St_reckonOne_79 : decode b_St_reckonOne 79 = .ok (.putfield 255, 3) := by decide +kernel
theorem d_St_reckonOne_82 : decode b_St_reckonOne 82 = .ok (.aload_n 0, 1) := by decide +kernel
theorem d_St_reckonOne_83 : decode b_St_reckonOne 83 = .ok (.getfield 113, 3) := by decide +kernel
theorem d_St_reckonOne_86 : decode b_St_reckonOne 86 = .ok (.aload_n 0, 1) := by decide +kernel
theorem d_St_reckonOne_87 : decode b_St_reckonOne 87 = .ok (.aload_n 0, 1) := by decide +kernel
theorem d_St_reckonOne_88 : decode b_St_reckonOne 88 = .ok (.getfield 140, 3) := by decide +kernel
theorem d_St_reckonOne_91 : decode b_St_reckonOne 91 = .ok (.invokevirtual 80, 3) := by decide +kernel
theorem d_St_reckonOne_94 : decode b_St_reckonOne 94 = .ok (.putfield 258, 3) := by decide +kernel
theorem d_St_reckonOne_97 : decode b_St_reckonOne 97 = .ok (.aload_n 0, 1) := by decide +kernel
theorem d_St_reckonOne_98 : decode b_St_reckonOne 98 = .ok (.getfield 113, 3) := by decide +kernel
theorem d_St_reckonOne_101 : decode b_St_reckonOne 101 = .ok (.aload_n 0, 1) := by decide +kernel
theorem d_St_reckonOne_102 : decode b_St_reckonOne 102 = .ok (.getfield 140, 3) := by decide +kernel
theorem d_St_reckonOne_105 : decode b_St_reckonOne 105 = .ok (.iconst 1, 1) := by decide +kernel
theorem d_St_reckonOne_106 : decode b_St_reckonOne 106 = .ok (.isub, 1) := by decide +kernel
theorem d_St_reckonOne_107 : decode b_St_reckonOne 107 = .ok (.putfield 262, 3) := by decide +kernel
theorem d_St_reckonOne_110 : decode b_St_reckonOne 110 = .ok (.aload_n 0, 1) := by decide +kernel
theorem d_St_reckonOne_111 : decode b_St_reckonOne 111 = .ok (.getfield 9, 3) := by decide +kernel
theorem d_St_reckonOne_114 : decode b_St_reckonOne 114 = .ok (.bipush 6, 2) := by decide +kernel
theorem d_St_reckonOne_116 : decode b_St_reckonOne 116 = .ok (.putfield 265, 3) := by decide +kernel
theorem d_St_reckonOne_119 : decode b_St_reckonOne 119 = .ok (.goto 114, 3) := by decide +kernel
theorem d_St_reckonOne_122 : decode b_St_reckonOne 122 = .ok (.aload_n 0, 1) := by decide +kernel
theorem d_St_reckonOne_123 : decode b_St_reckonOne 123 = .ok (.aload_n 0, 1) := by decide +kernel
theorem d_St_reckonOne_124 : decode b_St_reckonOne 124 = .ok (.getfield 137, 3) := by decide +kernel
theorem d_St_reckonOne_127 : decode b_St_reckonOne 127 = .ok (.invokevirtual 77, 3) := by decide +kernel
theorem d_St_reckonOne_130 : decode b_St_reckonOne 130 = .ok (.iconst 3, 1) := by decide +kernel
theorem d_St_reckonOne_131 : decode b_St_reckonOne 131 = .ok (.if_icmp .ne 48, 3) := by decide +kernel
theorem d_St_reckonOne_134 : decode b_St_reckonOne 134 = .ok (.aload_n 0, 1) := by decide +kernel
theorem d_St_reckonOne_135 : decode b_St_reckonOne 135 = .ok (.aload_n 0, 1) := by decide +kernel
theorem d_St_reckonOne_136 : decode b_St_reckonOne 136 = .ok (.getfield 57, 3) := by decide +kernel
theorem d_St_reckonOne_139 : decode b_St_reckonOne 139 = .ok (.iconst 3, 1) := by decide +kernel
theorem d_St_reckonOne_140 : decode b_St_reckonOne 140 = .ok (.aload_n 0, 1) := by decide +kernel
theorem d_St_reckonOne_141 : decode b_St_reckonOne 141 = .ok (.getfield 54, 3) := by decide +kernel
theorem d_St_reckonOne_144 : decode b_St_reckonOne 144 = .ok (.bipush 25, 2) := by decide +kernel
theorem d_St_reckonOne_146 : decode b_St_reckonOne 146 = .ok (.if_icmp .ne 15, 3) := by decide +kernel
theorem d_St_reckonOne_149 : decode b_St_reckonOne 149 = .ok (.aload_n 0, 1) := by decide +kernel
theorem d_St_reckonOne_150 : decode b_St_reckonOne 150 = .ok (.aload_n 0, 1) := by decide +kernel
theorem d_St_reckonOne_151 : decode b_St_reckonOne 151 = .ok (.getfield 137, 3) := by decide +kernel
theorem d_St_reckonOne_154 : decode b_St_reckonOne 154 = .ok (.invokevirtual 80, 3) := by decide +kernel
theorem d_St_reckonOne_157 : decode b_St_reckonOne 157 = .ok (.lneg, 1) := by decide +kernel
theorem d_St_reckonOne_158 : decode b_St_reckonOne 158 = .ok (.goto 15, 3) := by decide +kernel
theorem d_St_reckonOne_161 : decode b_St_reckonOne 161 = .ok (.aload_n 0, 1) := by decide +kernel
theorem d_St_reckonOne_162 : decode b_St_reckonOne 162 = .ok (.aload_n 0, 1) := by decide +kernel
theorem d_St_reckonOne_163 : decode b_St_reckonOne 163 = .ok (.getfield 137, 3) := by decide +kernel
theorem d_St_reckonOne_166 : decode b_St_reckonOne 166 = .ok (.invokevirtual 80, 3) := by decide +kernel
theorem d_St_reckonOne_169 : decode b_St_reckonOne 169 = .ok (.ldc2_w 268, 3) := by decide +kernel
theorem d_St_reckonOne_172 : decode b_St_reckonOne 172 = .ok (.lxor, 1) := by decide +kernel
theorem d_St_reckonOne_173 : decode b_St_reckonOne 173 = .ok (.invokevirtual 176, 3) := by decide +kernel
theorem d_St_reckonOne_176 : decode b_St_reckonOne 176 = .ok (.goto 57, 3) := by decide +kernel
theorem d_St_reckonOne_179 : decode b_St_reckonOne 179 = .ok (.aload_n 0, 1) := by decide +kernel
theorem d_St_reckonOne_180 : decode b_St_reckonOne 180 = .ok (.aload_n 0, 1) := by decide +kernel
theorem d_St_reckonOne_181 : decode b_St_reckonOne 181 = .ok (.getfield 54, 3) := by decide +kernel
theorem d_St_reckonOne_184 : decode b_St_reckonOne 184 = .ok (.bipush 12, 2) := by decide +kernel
theorem d_St_reckonOne_186 : decode b_St_reckonOne 186 = .ok (.isub, 1) := by decide +kernel
theorem d_St_reckonOne_187 : decode b_St_reckonOne 187 = .ok (.aload_n 0, 1) := by decide +kernel
theorem d_St_reckonOne_188 : decode b_St_reckonOne 188 = .ok (.aload_n 0, 1) := by decide +kernel
theorem d_St_reckonOne_189 : decode b_St_reckonOne 189 = .ok (.getfield 137, 3) := by decide +kernel
theorem d_St_reckonOne_192 : decode b_St_reckonOne 192 = .ok (.invokevirtual 77, 3) := by decide +kernel
theorem d_St_reckonOne_195 : decode b_St_reckonOne 195 = .ok (.aload_n 0, 1) := by decide +kernel
theorem d_St_reckonOne_196 : decode b_St_reckonOne 196 = .ok (.aload_n 0, 1) := by decide +kernel
theorem d_St_reckonOne_197 : decode b_St_reckonOne 197 = .ok (.getfield 137, 3) := by decide +kernel
theorem d_St_reckonOne_200 : decode b_St_reckonOne 200 = .ok (.invokevirtual 80, 3) := by decide +kernel
theorem d_St_reckonOne_203 : decode b_St_reckonOne 203 = .ok (.aload_n 0, 1) := by decide +kernel
theorem d_St_reckonOne_204 : decode b_St_reckonOne 204 = .ok (.aload_n 0, 1) := by decide +kernel
theorem d_St_reckonOne_205 : decode b_St_reckonOne 205 = .ok (.getfield 137, 3) := by decide +kernel
theorem d_St_reckonOne_208 : decode b_St_reckonOne 208 = .ok (.invokevirtual 77, 3) := by decide +kernel
theorem d_St_reckonOne_211 : decode b_St_reckonOne 211 = .ok (.aload_n 0, 1) := by decide +kernel
theorem d_St_reckonOne_212 : decode b_St_reckonOne 212 = .ok (.aload_n 0, 1) := by decide +kernel
theorem d_St_reckonOne_213 : decode b_St_reckonOne 213 = .ok (.getfield 137, 3) := by decide +kernel
theorem d_St_reckonOne_216 : decode b_St_reckonOne 216 = .ok (.invokevirtual 80, 3) := by decide +kernel
theorem d_St_reckonOne_219 : decode b_St_reckonOne 219 = .ok (.invokevirtual 225, 3) := by decide +kernel
theorem d_St_reckonOne_222 : decode b_St_reckonOne 222 = .ok (.ifCond .ne 11, 3) := by decide +kernel
theorem d_St_reckonOne_225 : decode b_St_reckonOne 225 = .ok (.aload_n 0, 1) := by decide +kernel
theorem d_St_reckonOne_226 : decode b_St_reckonOne 226 = .ok (.getfield 9, 3) := by decide +kernel
theorem d_St_reckonOne_229 : decode b_St_reckonOne 229 = .ok (.iconst 3, 1) := by decide +kernel
theorem d_St_reckonOne_230 : decode b_St_reckonOne 230 = .ok (.invokevirtual 193, 3) := by decide +kernel
theorem d_St_reckonOne_233 : decode b_St_reckonOne 233 = .ok (.return_, 1) := by decide +kernel
theorem kw_1379 : Cond.constantLong R_St 268 (-1) ∈ wA := kinm (show _ ∈ tables_1 from (List.mem_append_right _ (List.mem_append_right _ (List.mem_append_right _ (List.mem_append_right _ (List.mem_append_right _ (List.mem_append_right _ (List.mem_append_left _ (List.mem_of_getElem? (l := tables_1_7) (i := 142) (by decide +kernel)))))))))) (by decide +kernel)
theorem kw_1380 : Cond.methodLink R_St 252 y_St_measure ∈ wA := kinm (show _ ∈ tables_1 from (List.mem_append_right _ (List.mem_append_right _ (List.mem_append_right _ (List.mem_append_right _ (List.mem_append_right _ (List.mem_append_right _ (List.mem_append_left _ (List.mem_of_getElem? (l := tables_1_7) (i := 134) (by decide +kernel)))))))))) (by decide +kernel)
theorem kw_1381 : Cond.fieldLink R_St 262 "LuaMachine$Frame" "joinAt" "I" ∈ wA := kinm (show _ ∈ tables_1 from (List.mem_append_right _ (List.mem_append_right _ (List.mem_append_right _ (List.mem_append_right _ (List.mem_append_right _ (List.mem_append_left _ (List.mem_of_getElem? (l := tables_1_6) (i := 116) (by decide +kernel))))))))) (by decide +kernel)
theorem kw_1382 : Cond.instanceMethod y_St_reckonOne ∈ wA := kinm (show _ ∈ tables_1 from (List.mem_append_right _ (List.mem_append_right _ (List.mem_append_right _ (List.mem_append_right _ (List.mem_append_right _ (List.mem_append_right _ (List.mem_append_left _ (List.mem_of_getElem? (l := tables_1_7) (i := 128) (by decide +kernel)))))))))) (by decide +kernel)
theorem kw_1383 : Cond.selects R_St y_St_reckonOne y_St_reckonOne ∈ wA := kinp 50 (by decide +kernel) (by decide +kernel)
theorem cv_St_reckonOne : CV y_St_reckonOne b_St_reckonOne 1 none 0 := ⟨kw_1382, kw_1383, kw_883, k_St_reckonOne, by decide +kernel⟩
theorem j_St_reckonOne_j53 {X : Cx} {q : PL} (g : Gd X y_St_reckonOne b_St_reckonOne 1 none 4 105 R_St) {o : (Unit) × S1} (hR : Rt X q o.2 none) (k0 : Int32) (k1 : Int32) (s : S1) (ls : Array Slot) (hl : lv_has ls 1 []) (h : M_St_reckonOne_j53 k0 k1 s = some o) : WW X q s 53 ls [.int k0, .int k1, .ref (q.1 129 0)] := by
  unfold M_St_reckonOne_j53 at h
  refine ww_lconst (pc := 53) g.1 (v := 0) d_St_reckonOne_53 (by decide) ?_
  obtain ⟨v54, s, hc54, h⟩ := oB_of h
  refine ww_callV (pc := 54) (rest := []) g cv_St_set (Or.inl kw_928) cl_St (pz rfl (by decide)) (ct_St_set hc54) ⟨by decide, by decide⟩ rfl hl.1 (Nat.le_of_ble_eq_true rfl) d_St_reckonOne_54 rfl (?_)
  refine ww_st (st' := []) rfl ?_
  refine ww_goto (pc := 57) (tgt := 233) g.1 d_St_reckonOne_57 (by decide) ?_
  exact ww_vretH (pc := 233) g h hR d_St_reckonOne_233

theorem j_St_reckonOne_j173 {X : Cx} {q : PL} (g : Gd X y_St_reckonOne b_St_reckonOne 1 none 4 105 R_St) {o : (Unit) × S1} (hR : Rt X q o.2 none) (k0 : Int64) (k1 : Int32) (k2 : Int32) (s : S1) (ls : Array Slot) (hl : lv_has ls 1 []) (h : M_St_reckonOne_j173 k0 k1 k2 s = some o) : WW X q s 173 ls [.long k0, .int k1, .int k2, .ref (q.1 129 0)] := by
  unfold M_St_reckonOne_j173 at h
  obtain ⟨v173, s, hc173, h⟩ := oB_of h
  refine ww_callV (pc := 173) (rest := []) g cv_St_set (Or.inl kw_928) cl_St (pz rfl (by decide)) (ct_St_set hc173) ⟨by decide, by decide⟩ rfl hl.1 (Nat.le_of_ble_eq_true rfl) d_St_reckonOne_173 rfl (?_)
  refine ww_st (st' := []) rfl ?_
  refine ww_goto (pc := 176) (tgt := 233) g.1 d_St_reckonOne_176 (by decide) ?_
  exact ww_vretH (pc := 233) g h hR d_St_reckonOne_233

theorem ct_St_reckonOne {l : Launch} {P : PP} {q : PL} {s s' : S1}  {r : Unit} (h : M_St_reckonOne s = some (r, s')) : Ct l y_St_reckonOne b_St_reckonOne 1 none 4 105 P q s [.ref (q.1 129 0)] none q s' := by
  refine ct_of (by decide) (Nat.le_of_ble_eq_true rfl) fun X ls eP el g hR hl => ?_
  subst eP
  have hR : Rt X q ((r, s') : Unit × S1).2 none := hR
  have hl : lv_has ls 1 [(0, .ref (q.1 129 0))] := hl
  generalize (r, s') = o at h hR
  unfold M_St_reckonOne at h
  refine ww_aload_n (pc := 0) g.1 d_St_reckonOne_0 rfl (lv_at hl 0 rfl) ?_
  refine ww_gI (pc := 1) g (k := 8) cl_St (pz rfl (by decide)) (by decide) (Or.inl kw_876) (f := 16520) rfl rfl d_St_reckonOne_1 h fun v1 h => ?_
  by_cases c4_32 : v1 = 27
  · have h := oC_pos c4_32 h
    have c := c4_32
    refine ww_tableIn (pc := 4) (tgt := 32) g.1 d_St_reckonOne_4 (by rw [c]; decide) (by rw [c]; decide) (by rw [c] <;> rfl) (by decide) ?_
    refine ww_aload_n (pc := 32) g.1 d_St_reckonOne_32 rfl (lv_at hl 0 rfl) ?_
    refine ww_aload_n (pc := 33) g.1 d_St_reckonOne_33 rfl (lv_at hl 0 rfl) ?_
    refine ww_gI (pc := 34) g (k := 9) cl_St (pz rfl (by decide)) (by decide) (Or.inl kw_877) (f := 16521) rfl rfl d_St_reckonOne_34 h fun v34 h => ?_
    refine ww_aload_n (pc := 37) g.1 d_St_reckonOne_37 rfl (lv_at hl 0 rfl) ?_
    refine ww_aload_n (pc := 38) g.1 d_St_reckonOne_38 rfl (lv_at hl 0 rfl) ?_
    refine ww_gI (pc := 39) g (k := 10) cl_St (pz rfl (by decide)) (by decide) (Or.inl kw_878) (f := 16522) rfl rfl d_St_reckonOne_39 h fun v39 h => ?_
    obtain ⟨v42, s, hc42, h⟩ := oB_of h
    refine ww_callV (pc := 42) (rest := [.int v34, .ref (q.1 129 0)]) g cv_St_isTrue (Or.inl kw_1293) cl_St (pz rfl (by decide)) (ct_St_isTrue hc42) ⟨by decide, by decide⟩ rfl hl.1 (Nat.le_of_ble_eq_true rfl) d_St_reckonOne_42 rfl (?_)
    refine ww_st (st' := [.int v42, .int v34, .ref (q.1 129 0)]) rfl ?_
    refine ww_if_eq (pc := 45) (tgt := 52) g.1 d_St_reckonOne_45 (by decide) h (fun c h => ?_) (fun c h => ?_)
    · refine ww_iconst (pc := 52) g.1 (v := 2) d_St_reckonOne_52 (by decide) ?_
      exact j_St_reckonOne_j53 g hR 2 v34 s ls (lv_sub hl [] rfl) h
    · refine ww_iconst (pc := 48) g.1 (v := 1) d_St_reckonOne_48 (by decide) ?_
      refine ww_goto (pc := 49) (tgt := 53) g.1 d_St_reckonOne_49 (by decide) ?_
      exact j_St_reckonOne_j53 g hR 1 v34 s ls (lv_sub hl [] rfl) h
  have h := oC_neg c4_32 h
  by_cases c4_60 : v1 = 28
  · have h := oC_pos c4_60 h
    have c := c4_60
    refine ww_tableIn (pc := 4) (tgt := 60) g.1 d_St_reckonOne_4 (by rw [c]; decide) (by rw [c]; decide) (by rw [c] <;> rfl) (by decide) ?_
    refine ww_aload_n (pc := 60) g.1 d_St_reckonOne_60 rfl (lv_at hl 0 rfl) ?_
    obtain ⟨v61, s, hc61, h⟩ := oB_of h
    refine ww_callV (pc := 61) (rest := []) g cv_St_measure (Or.inl kw_1380) cl_St (pz rfl (by decide)) (ct_St_measure hc61) ⟨by decide, by decide⟩ rfl hl.1 (Nat.le_of_ble_eq_true rfl) d_St_reckonOne_61 rfl (?_)
    refine ww_st (st' := []) rfl ?_
    refine ww_goto (pc := 64) (tgt := 233) g.1 d_St_reckonOne_64 (by decide) ?_
    exact ww_vretH (pc := 233) g h hR d_St_reckonOne_233
  have h := oC_neg c4_60 h
  by_cases c4_67 : v1 = 29
  · have h := oC_pos c4_67 h
    have c := c4_67
    refine ww_tableIn (pc := 4) (tgt := 67) g.1 d_St_reckonOne_4 (by rw [c]; decide) (by rw [c]; decide) (by rw [c] <;> rfl) (by decide) ?_
    refine ww_aload_n (pc := 67) g.1 d_St_reckonOne_67 rfl (lv_at hl 0 rfl) ?_
    refine ww_gV (pc := 68) g (k := 5) cl_St (pz rfl (by decide)) (by decide) (Or.inl kw_867) (f := 16517) (t := 152) rfl rfl rfl d_St_reckonOne_68 h fun v68 h => ?_
    refine ww_pr h fun pn68 h => ?_
    refine ww_nnP pn68 ?_
    refine ww_aload_n (pc := 71) g.1 d_St_reckonOne_71 rfl (lv_at hl 0 rfl) ?_
    refine ww_aload_n (pc := 72) g.1 d_St_reckonOne_72 rfl (lv_at hl 0 rfl) ?_
    refine ww_gI (pc := 73) g (k := 11) cl_St (pz rfl (by decide)) (by decide) (Or.inl kw_879) (f := 16523) rfl rfl d_St_reckonOne_73 h fun v73 h => ?_
    refine ww_lo fun dlo => ?_
    obtain ⟨v76, s, hc76, h⟩ := oB_of h
    refine ww_callV (pc := 76) (rest := [.ref (q.1 152 v68)]) g cv_St_kindOf (Or.inl kw_914) cl_St (pz rfl (by decide)) (ct_St_kindOf hc76) ⟨by decide, by decide⟩ rfl hl.1 (Nat.le_of_ble_eq_true rfl) d_St_reckonOne_76 rfl (?_)
    refine ww_st (st' := [.int v76, .ref (q.1 152 v68)]) rfl ?_
    refine ww_hi fun dhi => ?_
    have pn68 : prs s 152 v68 := dhi _ _ pn68.2.1 pn68.2.2 (dlo _ _ pn68)
    refine ww_pI (pc := 79) g (k := 6) cl_Fm pn68 (by decide) (Or.inl kw_1013) rfl (f := 19462) rfl rfl rfl rfl d_St_reckonOne_79 h fun s hs h => ?_
    refine ww_aload_n (pc := 82) g.1 d_St_reckonOne_82 rfl (lv_at hl 0 rfl) ?_
    refine ww_gV (pc := 83) g (k := 5) cl_St (pz rfl (by decide)) (by decide) (Or.inl kw_867) (f := 16517) (t := 152) rfl rfl rfl d_St_reckonOne_83 h fun v83 h => ?_
    refine ww_pr h fun pn83 h => ?_
    refine ww_nnP pn83 ?_
    refine ww_aload_n (pc := 86) g.1 d_St_reckonOne_86 rfl (lv_at hl 0 rfl) ?_
    refine ww_aload_n (pc := 87) g.1 d_St_reckonOne_87 rfl (lv_at hl 0 rfl) ?_
    refine ww_gI (pc := 88) g (k := 11) cl_St (pz rfl (by decide)) (by decide) (Or.inl kw_879) (f := 16523) rfl rfl d_St_reckonOne_88 h fun v88 h => ?_
    refine ww_lo fun dlo => ?_
    obtain ⟨v91, s, hc91, h⟩ := oB_of h
    refine ww_callV (pc := 91) (rest := [.ref (q.1 152 v83)]) g cv_St_valueOf (Or.inl kw_1120) cl_St (pz rfl (by decide)) (ct_St_valueOf hc91) ⟨by decide, by decide⟩ rfl hl.1 (Nat.le_of_ble_eq_true rfl) d_St_reckonOne_91 rfl (?_)
    refine ww_st (st' := [.long v91, .ref (q.1 152 v83)]) rfl ?_
    refine ww_hi fun dhi => ?_
    have pn83 : prs s 152 v83 := dhi _ _ pn83.2.1 pn83.2.2 (dlo _ _ pn83)
    refine ww_pL (pc := 94) g (k := 7) cl_Fm pn83 (by decide) (Or.inl kw_1014) rfl (f := 19463) rfl rfl rfl rfl d_St_reckonOne_94 h fun s hs h => ?_
    refine ww_aload_n (pc := 97) g.1 d_St_reckonOne_97 rfl (lv_at hl 0 rfl) ?_
    refine ww_gV (pc := 98) g (k := 5) cl_St (pz rfl (by decide)) (by decide) (Or.inl kw_867) (f := 16517) (t := 152) rfl rfl rfl d_St_reckonOne_98 h fun v98 h => ?_
    refine ww_pr h fun pn98 h => ?_
    refine ww_nnP pn98 ?_
    refine ww_aload_n (pc := 101) g.1 d_St_reckonOne_101 rfl (lv_at hl 0 rfl) ?_
    refine ww_gI (pc := 102) g (k := 11) cl_St (pz rfl (by decide)) (by decide) (Or.inl kw_879) (f := 16523) rfl rfl d_St_reckonOne_102 h fun v102 h => ?_
    refine ww_iconst (pc := 105) g.1 (v := 1) d_St_reckonOne_105 (by decide) ?_
    refine ww_isub (pc := 106) g.1 d_St_reckonOne_106 ?_
    refine ww_pI (pc := 107) g (k := 8) cl_Fm pn98 (by decide) (Or.inl kw_1381) rfl (f := 19464) rfl rfl rfl rfl d_St_reckonOne_107 h fun s hs h => ?_
    refine ww_aload_n (pc := 110) g.1 d_St_reckonOne_110 rfl (lv_at hl 0 rfl) ?_
    refine ww_gR (pc := 111) g (k := 0) cl_St (pz rfl (by decide)) (by decide) (Or.inl kw_863) (f := 16512) (t := 128) rfl rfl rfl d_St_reckonOne_111 ?_
    refine ww_bipush (pc := 114) g.1 (v := 6) d_St_reckonOne_114 (by decide) ?_
    refine ww_pI (pc := 116) g (k := 12) cl_Ma (pz rfl (by decide)) (by decide) (Or.inl kw_1206) rfl (f := 16396) rfl rfl rfl rfl d_St_reckonOne_116 h fun s hs h => ?_
    refine ww_goto (pc := 119) (tgt := 233) g.1 d_St_reckonOne_119 (by decide) ?_
    exact ww_vretH (pc := 233) g h hR d_St_reckonOne_233
  have h := oC_neg c4_67 h
  have n_27 : ¬ v1.toInt = 27 := lv_neT (fun e => c4_32 e) rfl
  have n_28 : ¬ v1.toInt = 28 := lv_neT (fun e => c4_60 e) rfl
  have n_29 : ¬ v1.toInt = 29 := lv_neT (fun e => c4_67 e) rfl
  by_cases hr : v1.toInt < 27 ∨ 29 < v1.toInt
  · refine ww_tableOut (pc := 4) (tgt := 122) g.1 d_St_reckonOne_4 hr (by decide) ?_
    refine ww_aload_n (pc := 122) g.1 d_St_reckonOne_122 rfl (lv_at hl 0 rfl) ?_
    refine ww_aload_n (pc := 123) g.1 d_St_reckonOne_123 rfl (lv_at hl 0 rfl) ?_
    refine ww_gI (pc := 124) g (k := 10) cl_St (pz rfl (by decide)) (by decide) (Or.inl kw_878) (f := 16522) rfl rfl d_St_reckonOne_124 h fun v124 h => ?_
    obtain ⟨v127, s, hc127, h⟩ := oB_of h
    refine ww_callV (pc := 127) (rest := []) g cv_St_kindOf (Or.inl kw_914) cl_St (pz rfl (by decide)) (ct_St_kindOf hc127) ⟨by decide, by decide⟩ rfl hl.1 (Nat.le_of_ble_eq_true rfl) d_St_reckonOne_127 rfl (?_)
    refine ww_st (st' := [.int v127]) rfl ?_
    refine ww_iconst (pc := 130) g.1 (v := 3) d_St_reckonOne_130 (by decide) ?_
    refine ww_icmp_ne (pc := 131) (tgt := 179) g.1 d_St_reckonOne_131 (by decide) h (fun c h => ?_) (fun c h => ?_)
    · refine ww_aload_n (pc := 179) g.1 d_St_reckonOne_179 rfl (lv_at hl 0 rfl) ?_
      refine ww_aload_n (pc := 180) g.1 d_St_reckonOne_180 rfl (lv_at hl 0 rfl) ?_
      refine ww_gI (pc := 181) g (k := 8) cl_St (pz rfl (by decide)) (by decide) (Or.inl kw_876) (f := 16520) rfl rfl d_St_reckonOne_181 h fun v181 h => ?_
      refine ww_bipush (pc := 184) g.1 (v := 12) d_St_reckonOne_184 (by decide) ?_
      refine ww_isub (pc := 186) g.1 d_St_reckonOne_186 ?_
      refine ww_aload_n (pc := 187) g.1 d_St_reckonOne_187 rfl (lv_at hl 0 rfl) ?_
      refine ww_aload_n (pc := 188) g.1 d_St_reckonOne_188 rfl (lv_at hl 0 rfl) ?_
      refine ww_gI (pc := 189) g (k := 10) cl_St (pz rfl (by decide)) (by decide) (Or.inl kw_878) (f := 16522) rfl rfl d_St_reckonOne_189 h fun v189 h => ?_
      obtain ⟨v192, s, hc192, h⟩ := oB_of h
      refine ww_callV (pc := 192) (rest := [.int (v181 - 12), .ref (q.1 129 0)]) g cv_St_kindOf (Or.inl kw_914) cl_St (pz rfl (by decide)) (ct_St_kindOf hc192) ⟨by decide, by decide⟩ rfl hl.1 (Nat.le_of_ble_eq_true rfl) d_St_reckonOne_192 rfl (?_)
      refine ww_st (st' := [.int v192, .int (v181 - 12), .ref (q.1 129 0)]) rfl ?_
      refine ww_aload_n (pc := 195) g.1 d_St_reckonOne_195 rfl (lv_at hl 0 rfl) ?_
      refine ww_aload_n (pc := 196) g.1 d_St_reckonOne_196 rfl (lv_at hl 0 rfl) ?_
      refine ww_gI (pc := 197) g (k := 10) cl_St (pz rfl (by decide)) (by decide) (Or.inl kw_878) (f := 16522) rfl rfl d_St_reckonOne_197 h fun v197 h => ?_
      obtain ⟨v200, s, hc200, h⟩ := oB_of h
      refine ww_callV (pc := 200) (rest := [.int v192, .int (v181 - 12), .ref (q.1 129 0)]) g cv_St_valueOf (Or.inl kw_1120) cl_St (pz rfl (by decide)) (ct_St_valueOf hc200) ⟨by decide, by decide⟩ rfl hl.1 (Nat.le_of_ble_eq_true rfl) d_St_reckonOne_200 rfl (?_)
      refine ww_st (st' := [.long v200, .int v192, .int (v181 - 12), .ref (q.1 129 0)]) rfl ?_
      refine ww_aload_n (pc := 203) g.1 d_St_reckonOne_203 rfl (lv_at hl 0 rfl) ?_
      refine ww_aload_n (pc := 204) g.1 d_St_reckonOne_204 rfl (lv_at hl 0 rfl) ?_
      refine ww_gI (pc := 205) g (k := 10) cl_St (pz rfl (by decide)) (by decide) (Or.inl kw_878) (f := 16522) rfl rfl d_St_reckonOne_205 h fun v205 h => ?_
      obtain ⟨v208, s, hc208, h⟩ := oB_of h
      refine ww_callV (pc := 208) (rest := [.long v200, .int v192, .int (v181 - 12), .ref (q.1 129 0)]) g cv_St_kindOf (Or.inl kw_914) cl_St (pz rfl (by decide)) (ct_St_kindOf hc208) ⟨by decide, by decide⟩ rfl hl.1 (Nat.le_of_ble_eq_true rfl) d_St_reckonOne_208 rfl (?_)
      refine ww_st (st' := [.int v208, .long v200, .int v192, .int (v181 - 12), .ref (q.1 129 0)]) rfl ?_
      refine ww_aload_n (pc := 211) g.1 d_St_reckonOne_211 rfl (lv_at hl 0 rfl) ?_
      refine ww_aload_n (pc := 212) g.1 d_St_reckonOne_212 rfl (lv_at hl 0 rfl) ?_
      refine ww_gI (pc := 213) g (k := 10) cl_St (pz rfl (by decide)) (by decide) (Or.inl kw_878) (f := 16522) rfl rfl d_St_reckonOne_213 h fun v213 h => ?_
      obtain ⟨v216, s, hc216, h⟩ := oB_of h
      refine ww_callV (pc := 216) (rest := [.int v208, .long v200, .int v192, .int (v181 - 12), .ref (q.1 129 0)]) g cv_St_valueOf (Or.inl kw_1120) cl_St (pz rfl (by decide)) (ct_St_valueOf hc216) ⟨by decide, by decide⟩ rfl hl.1 (Nat.le_of_ble_eq_true rfl) d_St_reckonOne_216 rfl (?_)
      refine ww_st (st' := [.long v216, .int v208, .long v200, .int v192, .int (v181 - 12), .ref (q.1 129 0)]) rfl ?_
      obtain ⟨v219, s, hc219, h⟩ := oB_of h
      refine ww_callV (pc := 219) (rest := []) g cv_St_callsEither (Or.inl kw_1122) cl_St (pz rfl (by decide)) (ct_St_callsEither hc219) ⟨by decide, by decide⟩ rfl hl.1 (Nat.le_of_ble_eq_true rfl) d_St_reckonOne_219 rfl (?_)
      refine ww_st (st' := [.int v219]) rfl ?_
      refine ww_if_ne (pc := 222) (tgt := 233) g.1 d_St_reckonOne_222 (by decide) h (fun c h => ?_) (fun c h => ?_)
      · exact ww_vretH (pc := 233) g h hR d_St_reckonOne_233
      · refine ww_aload_n (pc := 225) g.1 d_St_reckonOne_225 rfl (lv_at hl 0 rfl) ?_
        refine ww_gR (pc := 226) g (k := 0) cl_St (pz rfl (by decide)) (by decide) (Or.inl kw_863) (f := 16512) (t := 128) rfl rfl rfl d_St_reckonOne_226 ?_
        refine ww_iconst (pc := 229) g.1 (v := 3) d_St_reckonOne_229 (by decide) ?_
        obtain ⟨v230, s, hc230, h⟩ := oB_of h
        refine ww_callV (pc := 230) (rest := []) g cv_Ma_fail (Or.inl kw_1106) cl_Ma (pz rfl (by decide)) (ct_Ma_fail hc230) ⟨by decide, by decide⟩ rfl hl.1 (Nat.le_of_ble_eq_true rfl) d_St_reckonOne_230 rfl (?_)
        refine ww_st (st' := []) rfl ?_
        exact ww_vretH (pc := 233) g h hR d_St_reckonOne_233
    · refine ww_aload_n (pc := 134) g.1 d_St_reckonOne_134 rfl (lv_at hl 0 rfl) ?_
      refine ww_aload_n (pc := 135) g.1 d_St_reckonOne_135 rfl (lv_at hl 0 rfl) ?_
      refine ww_gI (pc := 136) g (k := 9) cl_St (pz rfl (by decide)) (by decide) (Or.inl kw_877) (f := 16521) rfl rfl d_St_reckonOne_136 h fun v136 h => ?_
      refine ww_iconst (pc := 139) g.1 (v := 3) d_St_reckonOne_139 (by decide) ?_
      refine ww_aload_n (pc := 140) g.1 d_St_reckonOne_140 rfl (lv_at hl 0 rfl) ?_
      refine ww_gI (pc := 141) g (k := 8) cl_St (pz rfl (by decide)) (by decide) (Or.inl kw_876) (f := 16520) rfl rfl d_St_reckonOne_141 h fun v141 h => ?_
      refine ww_bipush (pc := 144) g.1 (v := 25) d_St_reckonOne_144 (by decide) ?_
      refine ww_icmp_ne (pc := 146) (tgt := 161) g.1 d_St_reckonOne_146 (by decide) h (fun c h => ?_) (fun c h => ?_)
      · refine ww_aload_n (pc := 161) g.1 d_St_reckonOne_161 rfl (lv_at hl 0 rfl) ?_
        refine ww_aload_n (pc := 162) g.1 d_St_reckonOne_162 rfl (lv_at hl 0 rfl) ?_
        refine ww_gI (pc := 163) g (k := 10) cl_St (pz rfl (by decide)) (by decide) (Or.inl kw_878) (f := 16522) rfl rfl d_St_reckonOne_163 h fun v163 h => ?_
        obtain ⟨v166, s, hc166, h⟩ := oB_of h
        refine ww_callV (pc := 166) (rest := [.int 3, .int v136, .ref (q.1 129 0)]) g cv_St_valueOf (Or.inl kw_1120) cl_St (pz rfl (by decide)) (ct_St_valueOf hc166) ⟨by decide, by decide⟩ rfl hl.1 (Nat.le_of_ble_eq_true rfl) d_St_reckonOne_166 rfl (?_)
        refine ww_st (st' := [.long v166, .int 3, .int v136, .ref (q.1 129 0)]) rfl ?_
        refine ww_ldc2 (pc := 169) g (v := (-1)) kw_1379 d_St_reckonOne_169 ?_
        refine ww_lxor (pc := 172) g.1 d_St_reckonOne_172 ?_
        exact j_St_reckonOne_j173 g hR (v166 ^^^ (-1)) 3 v136 s ls (lv_sub hl [] rfl) h
      · refine ww_aload_n (pc := 149) g.1 d_St_reckonOne_149 rfl (lv_at hl 0 rfl) ?_
        refine ww_aload_n (pc := 150) g.1 d_St_reckonOne_150 rfl (lv_at hl 0 rfl) ?_
        refine ww_gI (pc := 151) g (k := 10) cl_St (pz rfl (by decide)) (by decide) (Or.inl kw_878) (f := 16522) rfl rfl d_St_reckonOne_151 h fun v151 h => ?_
        obtain ⟨v154, s, hc154, h⟩ := oB_of h
        refine ww_callV (pc := 154) (rest := [.int 3, .int v136, .ref (q.1 129 0)]) g cv_St_valueOf (Or.inl kw_1120) cl_St (pz rfl (by decide)) (ct_St_valueOf hc154) ⟨by decide, by decide⟩ rfl hl.1 (Nat.le_of_ble_eq_true rfl) d_St_reckonOne_154 rfl (?_)
        refine ww_st (st' := [.long v154, .int 3, .int v136, .ref (q.1 129 0)]) rfl ?_
        refine ww_lneg (pc := 157) g.1 d_St_reckonOne_157 ?_
        refine ww_goto (pc := 158) (tgt := 173) g.1 d_St_reckonOne_158 (by decide) ?_
        exact j_St_reckonOne_j173 g hR (-v154) 3 v136 s ls (lv_sub hl [] rfl) h
  exact absurd hr (by omega)


