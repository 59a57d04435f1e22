abbrev b_St_newTable : ByteArray := prog_10_method_11_code
def y_St_newTable : MethodName := ⟨R_St, "newTable", "()V"⟩
abbrev w_St_newTable : List Cond := .code y_St_newTable b_St_newTable 2 none :: wA
theorem k_St_newTable : Cond.code y_St_newTable b_St_newTable 2 none ∈ wA := kinm (show _ ∈ tables_1 from (List.mem_append_right _ (List.mem_append_right _ (List.mem_append_right _ (List.mem_append_right _ (List.mem_append_right _ (List.mem_append_right _ (List.mem_append_left _ (List.mem_of_getElem? (l := tables_1_7) (i := 71) (by decide +kernel)))))))))) (by decide +kernel)
theorem d_St_newTable_0 : decode b_St_newTable 0 = .ok (.aload_n 0, 1) := by decide +kernel
theorem d_St_newTable_1 : decode b_St_newTable 1 = .ok (.getfield 26, 3) := by decide +kernel
theorem d_St_newTable_4 : decode b_St_newTable 4 = .ok (.invokevirtual 187, 3) := by decide +kernel
theorem d_St_newTable_7 : decode b_St_newTable 7 = .ok (.istore_n 1, 1) := by decide +kernel
theorem d_St_newTable_8 : decode b_St_newTable 8 = .ok (.iload_n 1, 1) := by decide +kernel
theorem d_St_newTable_9 : decode b_St_newTable 9 = .ok (.ifCond .ge 15, 3) := by decide +kernel
theorem d_St_newTable_12 : decode b_St_newTable 12 = .ok (.aload_n 0, 1) := by decide +kernel
theorem d_St_newTable_13 : decode b_St_newTable 13 = .ok (.getfield 9, 3) := by decide +kernel
theorem d_St_newTable_16 : decode b_St_newTable 16 = .ok (.iload_n 1, 1) := by decide +kernel
theorem d_St_newTable_17 : decode b_St_newTable 17 = .ok (.ineg, 1) := by decide +kernel
theorem d_St_newTable_18 : decode b_St_newTable 18 = .ok (.invokevirtual 193, 3) := by decide +kernel
theorem d_St_newTable_21 : decode b_St_newTable 21 = .ok (.goto 14, 3) := by decide +kernel
theorem d_St_newTable_24 : decode b_St_newTable 24 = .ok (.aload_n 0, 1) := by decide +kernel
theorem d_St_newTable_25 : decode b_St_newTable 25 = .ok (.aload_n 0, 1) := by decide +kernel
theorem d_St_newTable_26 : decode b_St_newTable 26 = .ok (.getfield 57, 3) := by decide +kernel
theorem d_St_newTable_29 : decode b_St_newTable 29 = .ok (.iconst 5, 1) := by decide +kernel
theorem d_St_newTable_30 : decode b_St_newTable 30 = .ok (.iload_n 1, 1) := by decide +kernel
theorem d_St_newTable_31 : decode b_St_newTable 31 = .ok (.i2l, 1) := by decide +kernel
theorem d_St_newTable_32 : decode b_St_newTable 32 = .ok (.invokevirtual 176, 3) := by decide +kernel
theorem d_St_newTable_35 : decode b_St_newTable 35 = .ok (.return_, 1) := by decide +kernel
theorem kw_1433 : Cond.methodLink R_St 187 y_Ta_make ∈ wA := kinm (show _ ∈ tables_1 from (List.mem_append_right _ (List.mem_append_right _ (List.mem_append_right _ (List.mem_append_right _ (List.mem_append_right _ (List.mem_append_right _ (List.mem_append_left _ (List.mem_of_getElem? (l := tables_1_7) (i := 72) (by decide +kernel)))))))))) (by decide +kernel)
theorem kw_1434 : Cond.instanceMethod y_St_newTable ∈ wA := kinm (show _ ∈ tables_1 from (List.mem_append_right _ (List.mem_append_right _ (List.mem_append_right _ (List.mem_append_right _ (List.mem_append_right _ (List.mem_append_right _ (List.mem_append_left _ (List.mem_of_getElem? (l := tables_1_7) (i := 70) (by decide +kernel)))))))))) (by decide +kernel)
theorem kw_1435 : Cond.selects R_St y_St_newTable y_St_newTable ∈ wA := kinp 41 (by decide +kernel) (by decide +kernel)
theorem cv_St_newTable : CV y_St_newTable b_St_newTable 2 none 0 := ⟨kw_1434, kw_1435, kw_883, k_St_newTable, by decide +kernel⟩
theorem ct_St_newTable {l : Launch} {P : PP} {q : PL} {s s' : S1} {n0 n1 : Nat × Nat}  {r : Unit} (hm : Rmq P q n0) (h : M_St_newTable n0 s = some ((r, n1), s')) : CtX l y_St_newTable b_St_newTable 2 none 5 119 P [] q s [.ref (q.1 129 0)] (fun _ => none) n1 s' := by
  refine ctX_of (by decide) (Nat.le_of_ble_eq_true rfl) fun X ls eP el g hR hl => ?_
  subst eP
  obtain ⟨q0, hq0⟩ : ∃ q0 : PL, q0 = q := ⟨q, rfl⟩
  have hx0 : Exq (xP X) [] q0 q := hq0 ▸ Exq.rf
  rw [← hq0] at hR
  have hR : RtX X [] q0 (((r, n1), s') : (Unit × (Nat × Nat)) × S1).1.2 (((r, n1), s') : (Unit × (Nat × Nat)) × S1).2 (fun _ => none) := hR
  have hl : lv_has ls 2 [(0, .ref (q.1 129 0))] := hl
  generalize ((r, n1), s') = o at h hR
  unfold M_St_newTable at h
  refine ww_aload_n (pc := 0) g.1 d_St_newTable_0 rfl (lv_at hl 0 rfl) ?_
  refine ww_gR (pc := 1) g (k := 2) cl_St (pz rfl (by decide)) (by decide) (Or.inl kw_1101) (f := 16514) (t := 120) rfl rfl rfl d_St_newTable_1 ?_
  refine ww_lo fun dlo => ?_
  obtain ⟨v4, s, hc4, h⟩ := oB_of h
  refine ww_callVX (pc := 4) (rest := []) g cv_Ta_make (Or.inl kw_1433) cl_Ta (pz rfl (by decide)) (ct_Ta_make hm hc4) ⟨by decide, by decide⟩ rfl hl.1 (Nat.le_of_ble_eq_true rfl) d_St_newTable_4 rfl (fun q4 hE hm => ?_)
  have ex4_0 : q4.1 129 0 = q.1 129 0 := hE _ _ (by decide) (dlo _ _ (pz rfl (by decide)))
  have hl : lv_has ls 2 [(0, .ref (q4.1 129 0))] := by rw [ex4_0]; exact hl
  refine ww_st (st' := [.int v4.1]) (by rfl) ?_
  have hx0 : Exq (xP X) [] _ q4 := hx0.tr (hE.sub (by decide))
  refine ww_istore_n (pc := 7) (i := 1) g.1 (lv' := [(1, .int v4.1), (0, .ref (q4.1 129 0))]) d_St_newTable_7 rfl hl (by decide) rfl fun ls hl => ?_
  refine ww_iload_n (pc := 8) g.1 d_St_newTable_8 rfl (lv_at hl 0 rfl) ?_
  refine ww_if_ge (pc := 9) (tgt := 24) g.1 d_St_newTable_9 (by decide) h (fun c h => ?_) (fun c h => ?_)
  · refine ww_aload_n (pc := 24) g.1 d_St_newTable_24 rfl (lv_at hl 1 rfl) ?_
    refine ww_aload_n (pc := 25) g.1 d_St_newTable_25 rfl (lv_at hl 1 rfl) ?_
    refine ww_gI (pc := 26) g (k := 9) cl_St (pz rfl (by decide)) (by decide) (Or.inl kw_877) (f := 16521) rfl rfl d_St_newTable_26 h fun v26 h => ?_
    refine ww_iconst (pc := 29) g.1 (v := 5) d_St_newTable_29 (by decide) ?_
    refine ww_iload_n (pc := 30) g.1 d_St_newTable_30 rfl (lv_at hl 0 rfl) ?_
    refine ww_i2l (pc := 31) g.1 (v := v4.1.toInt64) d_St_newTable_31 rfl ?_
    obtain ⟨v32, s, hc32, h⟩ := oB_of h
    refine ww_callV (pc := 32) (rest := []) g cv_St_set (Or.inl kw_928) cl_St (pz rfl (by decide)) (ct_St_set hc32) ⟨by decide, by decide⟩ rfl hl.1 (Nat.le_of_ble_eq_true rfl) d_St_newTable_32 rfl (?_)
    refine ww_st (st' := []) rfl ?_
    exact ww_vretX (pc := 35) g h hR hx0 hm d_St_newTable_35
  · refine ww_aload_n (pc := 12) g.1 d_St_newTable_12 rfl (lv_at hl 1 rfl) ?_
    refine ww_gR (pc := 13) g (k := 0) cl_St (pz rfl (by decide)) (by decide) (Or.inl kw_863) (f := 16512) (t := 128) rfl rfl rfl d_St_newTable_13 ?_
    refine ww_iload_n (pc := 16) g.1 d_St_newTable_16 rfl (lv_at hl 0 rfl) ?_
    refine ww_ineg (pc := 17) g.1 d_St_newTable_17 ?_
    obtain ⟨v18, s, hc18, h⟩ := oB_of h
    refine ww_callV (pc := 18) (rest := []) g cv_Ma_fail (Or.inl kw_1106) cl_Ma (pz rfl (by decide)) (ct_Ma_fail hc18) ⟨by decide, by decide⟩ rfl hl.1 (Nat.le_of_ble_eq_true rfl) d_St_newTable_18 rfl (?_)
    refine ww_st (st' := []) rfl ?_
    refine ww_goto (pc := 21) (tgt := 35) g.1 d_St_newTable_21 (by decide) ?_
    exact ww_vretX (pc := 35) g h hR hx0 hm d_St_newTable_35

abbrev b_St_makeClosure : ByteArray := prog_10_method_38_code
def y_St_makeClosure : MethodName := ⟨R_St, "makeClosure", "()V"⟩
abbrev w_St_makeClosure : List Cond := .code y_St_makeClosure b_St_makeClosure 7 none :: wA
set_option maxRecDepth 20000 in
theorem k_St_makeClosure : Cond.code y_St_makeClosure b_St_makeClosure 7 none ∈ wA := kinm (show _ ∈ tables_1 from (List.mem_append_right _ (List.mem_append_right _ (List.mem_append_right _ (List.mem_append_right _ (List.mem_append_right _ (List.mem_append_right _ (List.mem_append_left _ (List.mem_of_getElem? (l := tables_1_7) (i := 85) rfl))))))))) rfl
theorem d_St_makeClosure_0 : decode b_St_makeClosure 0 = .ok (.aload_n 0, 1) := by decide +kernel
theorem d_St_makeClosure_1 : decode b_St_makeClosure 1 = .ok (.getfield 31, 3) := by decide +kernel
theorem d_St_makeClosure_4 : decode b_St_makeClosure 4 = .ok (.getfield 386, 3) := by decide +kernel
theorem d_St_makeClosure_7 : decode b_St_makeClosure 7 = .ok (.aload_n 0, 1) := by decide +kernel
theorem d_St_makeClosure_8 : decode b_St_makeClosure 8 = .ok (.getfield 121, 3) := by decide +kernel
theorem d_St_makeClosure_11 : decode b_St_makeClosure 11 = .ok (.getfield 389, 3) := by decide +kernel
theorem d_St_makeClosure_14 : decode b_St_makeClosure 14 = .ok (.aload_n 0, 1) := by decide +kernel
theorem d_St_makeClosure_15 : decode b_St_makeClosure 15 = .ok (.getfield 143, 3) := by decide +kernel
theorem d_St_makeClosure_18 : decode b_St_makeClosure 18 = .ok (.iadd, 1) := by decide +kernel
theorem d_St_makeClosure_19 : decode b_St_makeClosure 19 = .ok (.iaload, 1) := by decide +kernel
theorem d_St_makeClosure_20 : decode b_St_makeClosure 20 = .ok (.istore_n 1, 1) := by decide +kernel
theorem d_St_makeClosure_21 : decode b_St_makeClosure 21 = .ok (.aload_n 0, 1) := by decide +kernel
theorem d_St_makeClosure_22 : decode b_St_makeClosure 22 = .ok (.getfield 31, 3) := by decide +kernel
theorem d_St_makeClosure_25 : decode b_St_makeClosure 25 = .ok (.getfield 392, 3) := by decide +kernel
theorem d_St_makeClosure_28 : decode b_St_makeClosure 28 = .ok (.iload_n 1, 1) := by decide +kernel
theorem d_St_makeClosure_29 : decode b_St_makeClosure 29 = .ok (.aaload, 1) := by decide +kernel
theorem d_St_makeClosure_30 : decode b_St_makeClosure 30 = .ok (.astore_n 2, 1) := by decide +kernel
theorem d_St_makeClosure_31 : decode b_St_makeClosure 31 = .ok (.iconst 0, 1) := by decide +kernel
theorem d_St_makeClosure_32 : decode b_St_makeClosure 32 = .ok (.istore_n 3, 1) := by decide +kernel
theorem d_St_makeClosure_33 : decode b_St_makeClosure 33 = .ok (.iload_n 3, 1) := by decide +kernel
theorem d_St_makeClosure_34 : decode b_St_makeClosure 34 = .ok (.aload_n 2, 1) := by decide +kernel
theorem d_St_makeClosure_35 : decode b_St_makeClosure 35 = .ok (.getfield 396, 3) := by decide +kernel
theorem d_St_makeClosure_38 : decode b_St_makeClosure 38 = .ok (.if_icmp .ge 70, 3) := by decide +kernel
theorem d_St_makeClosure_41 : decode b_St_makeClosure 41 = .ok (.aload_n 0, 1) := by decide +kernel
theorem d_St_makeClosure_42 : decode b_St_makeClosure 42 = .ok (.getfield 31, 3) := by decide +kernel
theorem d_St_makeClosure_45 : decode b_St_makeClosure 45 = .ok (.getfield 398, 3) := by decide +kernel
theorem d_St_makeClosure_48 : decode b_St_makeClosure 48 = .ok (.aload_n 2, 1) := by decide +kernel
theorem d_St_makeClosure_49 : decode b_St_makeClosure 49 = .ok (.getfield 399, 3) := by decide +kernel
theorem d_St_makeClosure_52 : decode b_St_makeClosure 52 = .ok (.iload_n 3, 1) := by decide +kernel
theorem d_St_makeClosure_53 : decode b_St_makeClosure 53 = .ok (.iadd, 1) := by decide +kernel
theorem d_St_makeClosure_54 : decode b_St_makeClosure 54 = .ok (.iaload, 1) := by decide +kernel
theorem d_St_makeClosure_55 : decode b_St_makeClosure 55 = .ok (.istore 4, 2) := by decide +kernel
theorem d_St_makeClosure_57 : decode b_St_makeClosure 57 = .ok (.iload 4, 2) := by decide +kernel
theorem d_St_makeClosure_59 : decode b_St_makeClosure 59 = .ok (.ifCond .ge 7, 3) := by decide +kernel
theorem d_St_makeClosure_62 : decode b_St_makeClosure 62 = .ok (.iconst 0, 1) := by decide +kernel
theorem d_St_makeClosure_63 : decode b_St_makeClosure 63 = .ok (.goto 21, 3) := by decide +kernel
theorem d_St_makeClosure_66 : decode b_St_makeClosure 66 = .ok (.aload_n 0, 1) := by decide +kernel
theorem d_St_makeClosure_67 : decode b_St_makeClosure 67 = .ok (.getfield 21, 3) := by decide +kernel
theorem d_St_makeClosure_70 : decode b_St_makeClosure 70 = .ok (.aload_n 0, 1) := by decide +kernel
theorem d_St_makeClosure_71 : decode b_St_makeClosure 71 = .ok (.getfield 110, 3) := by decide +kernel
theorem d_St_makeClosure_74 : decode b_St_makeClosure 74 = .ok (.aload_n 0, 1) := by decide +kernel
theorem d_St_makeClosure_75 : decode b_St_makeClosure 75 = .ok (.getfield 125, 3) := by decide +kernel
theorem d_St_makeClosure_78 : decode b_St_makeClosure 78 = .ok (.iload 4, 2) := by decide +kernel
theorem d_St_makeClosure_80 : decode b_St_makeClosure 80 = .ok (.iadd, 1) := by decide +kernel
theorem d_St_makeClosure_81 : decode b_St_makeClosure 81 = .ok (.invokevirtual 402, 3) := by decide +kernel
theorem d_St_makeClosure_84 : decode b_St_makeClosure 84 = .ok (.istore 5, 2) := by decide +kernel
theorem d_St_makeClosure_86 : decode b_St_makeClosure 86 = .ok (.iload 5, 2) := by decide +kernel
theorem d_St_makeClosure_88 : decode b_St_makeClosure 88 = .ok (.ifCond .ge 14, 3) := by decide +kernel
theorem d_St_makeClosure_91 : decode b_St_makeClosure 91 = .ok (.aload_n 0, 1) := by decide +kernel
theorem d_St_makeClosure_92 : decode b_St_makeClosure 92 = .ok (.getfield 9, 3) := by decide +kernel
theorem d_St_makeClosure_95 : decode b_St_makeClosure 95 = .ok (.iload 5, 2) := by decide +kernel
theorem d_St_makeClosure_97 : decode b_St_makeClosure 97 = .ok (.ineg, 1) := by decide +kernel
theorem d_St_makeClosure_98 : decode b_St_makeClosure 98 = .ok (.invokevirtual 193, 3) := by decide +kernel
theorem d_St_makeClosure_101 : decode b_St_makeClosure 101 = .ok (.return_, 1) := by decide +kernel
theorem d_St_makeClosure_102 : decode b_St_makeClosure 102 = .ok (.iinc 3 1, 3) := by decide +kernel
theorem d_St_makeClosure_105 : decode b_St_makeClosure 105 = .ok (.goto (-72), 3) := by decide +kernel
theorem d_St_makeClosure_108 : decode b_St_makeClosure 108 = .ok (.aload_n 0, 1) := by decide +kernel
theorem d_St_makeClosure_109 : decode b_St_makeClosure 109 = .ok (.getfield 21, 3) := by decide +kernel
theorem d_St_makeClosure_112 : decode b_St_makeClosure 112 = .ok (.iload_n 1, 1) := by decide +kernel
theorem d_St_makeClosure_113 : decode b_St_makeClosure 113 = .ok (.aload_n 2, 1) := by decide +kernel
theorem d_St_makeClosure_114 : decode b_St_makeClosure 114 = .ok (.getfield 396, 3) := by decide +kernel
theorem d_St_makeClosure_117 : decode b_St_makeClosure 117 = .ok (.invokevirtual 406, 3) := by decide +kernel
theorem d_St_makeClosure_120 : decode b_St_makeClosure 120 = .ok (.istore_n 3, 1) := by decide +kernel
theorem d_St_makeClosure_121 : decode b_St_makeClosure 121 = .ok (.iload_n 3, 1) := by decide +kernel
theorem d_St_makeClosure_122 : decode b_St_makeClosure 122 = .ok (.ifCond .ge 13, 3) := by decide +kernel
theorem d_St_makeClosure_125 : decode b_St_makeClosure 125 = .ok (.aload_n 0, 1) := by decide +kernel
theorem d_St_makeClosure_126 : decode b_St_makeClosure 126 = .ok (.getfield 9, 3) := by decide +kernel
theorem d_St_makeClosure_129 : decode b_St_makeClosure 129 = .ok (.iload_n 3, 1) := by decide +kernel
theorem d_St_makeClosure_130 : decode b_St_makeClosure 130 = .ok (.ineg, 1) := by decide +kernel
theorem d_St_makeClosure_131 : decode b_St_makeClosure 131 = .ok (.invokevirtual 193, 3) := by decide +kernel
theorem d_St_makeClosure_134 : decode b_St_makeClosure 134 = .ok (.return_, 1) := by decide +kernel
theorem d_St_makeClosure_135 : decode b_St_makeClosure 135 = .ok (.aload_n 0, 1) := by decide +kernel
theorem d_St_makeClosure_136 : decode b_St_makeClosure 136 = .ok (.getfield 21, 3) := by decide +kernel
theorem d_St_makeClosure_139 : decode b_St_makeClosure 139 = .ok (.getfield 163, 3) := by decide +kernel
theorem d_St_makeClosure_142 : decode b_St_makeClosure 142 = .ok (.iload_n 3, 1) := by decide +kernel
theorem d_St_makeClosure_143 : decode b_St_makeClosure 143 = .ok (.aaload, 1) := by decide +kernel
theorem d_St_makeClosure_144 : decode b_St_makeClosure 144 = .ok (.getfield 170, 3) := by decide +kernel
theorem d_St_makeClosure_147 : decode b_St_makeClosure 147 = .ok (.astore 4, 2) := by decide +kernel
theorem d_St_makeClosure_149 : decode b_St_makeClosure 149 = .ok (.iconst 0, 1) := by decide +kernel
theorem d_St_makeClosure_150 : decode b_St_makeClosure 150 = .ok (.istore 5, 2) := by decide +kernel
theorem d_St_makeClosure_152 : decode b_St_makeClosure 152 = .ok (.iload 5, 2) := by decide +kernel
theorem d_St_makeClosure_154 : decode b_St_makeClosure 154 = .ok (.aload_n 2, 1) := by decide +kernel
theorem d_St_makeClosure_155 : decode b_St_makeClosure 155 = .ok (.getfield 396, 3) := by decide +kernel
theorem d_St_makeClosure_158 : decode b_St_makeClosure 158 = .ok (.if_icmp .ge 65, 3) := by decide +kernel
theorem d_St_makeClosure_161 : decode b_St_makeClosure 161 = .ok (.aload_n 0, 1) := by decide +kernel
theorem d_St_makeClosure_162 : decode b_St_makeClosure 162 = .ok (.getfield 31, 3) := by decide +kernel
theorem d_St_makeClosure_165 : decode b_St_makeClosure 165 = .ok (.getfield 398, 3) := by decide +kernel
theorem d_St_makeClosure_168 : decode b_St_makeClosure 168 = .ok (.aload_n 2, 1) := by decide +kernel
theorem d_St_makeClosure_169 : decode b_St_makeClosure 169 = .ok (.getfield 399, 3) := by decide +kernel
theorem d_St_makeClosure_172 : decode b_St_makeClosure 172 = .ok (.iload 5, 2) := by decide +kernel
theorem d_St_makeClosure_174 : decode b_St_makeClosure 174 = .ok (.iadd, 1) := by decide +kernel
theorem d_St_makeClosure_175 : decode b_St_makeClosure 175 = .ok (.iaload, 1) := by decide +kernel
theorem d_St_makeClosure_176 : decode b_St_makeClosure 176 = .ok (.istore 6, 2) := by decide +kernel
theorem d_St_makeClosure_178 : decode b_St_makeClosure 178 = .ok (.aload 4, 2) := by decide +kernel
theorem d_St_makeClosure_180 : decode b_St_makeClosure 180 = .ok (.iload 5, 2) := by decide +kernel
theorem d_St_makeClosure_182 : decode b_St_makeClosure 182 = .ok (.iload 6, 2) := by decide +kernel
theorem d_St_makeClosure_184 : decode b_St_makeClosure 184 = .ok (.ifCond .ge 14, 3) := by decide +kernel
theorem d_St_makeClosure_187 : decode b_St_makeClosure 187 = .ok (.aload_n 0, 1) := by decide +kernel
theorem d_St_makeClosure_188 : decode b_St_makeClosure 188 = .ok (.iconst (-1), 1) := by decide +kernel
theorem d_St_makeClosure_189 : decode b_St_makeClosure 189 = .ok (.iload 6, 2) := by decide +kernel
theorem d_St_makeClosure_191 : decode b_St_makeClosure 191 = .ok (.isub, 1) := by decide +kernel
theorem d_St_makeClosure_192 : decode b_St_makeClosure 192 = .ok (.invokevirtual 60, 3) := by decide +kernel
theorem d_St_makeClosure_195 : decode b_St_makeClosure 195 = .ok (.goto 21, 3) := by decide +kernel
theorem d_St_makeClosure_198 : decode b_St_makeClosure 198 = .ok (.aload_n 0, 1) := by decide +kernel
theorem d_St_makeClosure_199 : decode b_St_makeClosure 199 = .ok (.getfield 21, 3) := by decide +kernel
theorem d_St_makeClosure_202 : decode b_St_makeClosure 202 = .ok (.aload_n 0, 1) := by decide +kernel
theorem d_St_makeClosure_203 : decode b_St_makeClosure 203 = .ok (.getfield 110, 3) := by decide +kernel
theorem d_St_makeClosure_206 : decode b_St_makeClosure 206 = .ok (.aload_n 0, 1) := by decide +kernel
theorem d_St_makeClosure_207 : decode b_St_makeClosure 207 = .ok (.getfield 125, 3) := by decide +kernel
theorem d_St_makeClosure_210 : decode b_St_makeClosure 210 = .ok (.iload 6, 2) := by decide +kernel
theorem d_St_makeClosure_212 : decode b_St_makeClosure 212 = .ok (.iadd, 1) := by decide +kernel
theorem d_St_makeClosure_213 : decode b_St_makeClosure 213 = .ok (.invokevirtual 402, 3) := by decide +kernel
theorem d_St_makeClosure_216 : decode b_St_makeClosure 216 = .ok (.iastore, 1) := by decide +kernel
theorem d_St_makeClosure_217 : decode b_St_makeClosure 217 = .ok (.iinc 5 1, 3) := by decide +kernel
theorem d_St_makeClosure_220 : decode b_St_makeClosure 220 = .ok (.goto (-68), 3) := by decide +kernel
theorem d_St_makeClosure_223 : decode b_St_makeClosure 223 = .ok (.aload_n 0, 1) := by decide +kernel
theorem d_St_makeClosure_224 : decode b_St_makeClosure 224 = .ok (.aload_n 0, 1) := by decide +kernel
theorem d_St_makeClosure_225 : decode b_St_makeClosure 225 = .ok (.getfield 57, 3) := by decide +kernel
theorem d_St_makeClosure_228 : decode b_St_makeClosure 228 = .ok (.bipush 6, 2) := by decide +kernel
theorem d_St_makeClosure_230 : decode b_St_makeClosure 230 = .ok (.iload_n 3, 1) := by decide +kernel
theorem d_St_makeClosure_231 : decode b_St_makeClosure 231 = .ok (.i2l, 1) := by decide +kernel
theorem d_St_makeClosure_232 : decode b_St_makeClosure 232 = .ok (.invokevirtual 176, 3) := by decide +kernel
theorem d_St_makeClosure_235 : decode b_St_makeClosure 235 = .ok (.return_, 1) := by decide +kernel
theorem kw_1436 : Cond.fieldLink R_St 386 "LuaMachine$Chunk" "children" "[I" ∈ wA := kinm (show _ ∈ tables_1 from (List.mem_append_left _ (List.mem_of_getElem? (l := tables_1_1) (i := 57) (by decide +kernel)))) (by decide +kernel)
theorem kw_1437 : Cond.fieldLink R_St 389 "LuaMachine$Prototype" "childStart" "I" ∈ wA := kinm (show _ ∈ tables_1 from (List.mem_append_right _ (List.mem_append_right _ (List.mem_append_left _ (List.mem_of_getElem? (l := tables_1_3) (i := 152) (by decide +kernel)))))) (by decide +kernel)
theorem kw_1438 : Cond.fieldLink R_St 392 "LuaMachine$Chunk" "prototypes" "[LLuaMachine$Prototype;" ∈ wA := kinm (show _ ∈ tables_1 from (List.mem_append_left _ (List.mem_of_getElem? (l := tables_1_1) (i := 55) (by decide +kernel)))) (by decide +kernel)
theorem kw_1439 : Cond.fieldLink R_St 396 "LuaMachine$Prototype" "upvalues" "I" ∈ wA := kinm (show _ ∈ tables_1 from (List.mem_append_right _ (List.mem_append_right _ (List.mem_append_left _ (List.mem_of_getElem? (l := tables_1_3) (i := 140) (by decide +kernel)))))) (by decide +kernel)
theorem kw_1440 : Cond.fieldLink R_St 398 "LuaMachine$Chunk" "upvalues" "[I" ∈ wA := kinm (show _ ∈ tables_1 from (List.mem_append_left _ (List.mem_of_getElem? (l := tables_1_1) (i := 67) (by decide +kernel)))) (by decide +kernel)
theorem kw_1441 : Cond.fieldLink R_St 399 "LuaMachine$Prototype" "upvalueStart" "I" ∈ wA := kinm (show _ ∈ tables_1 from (List.mem_append_right _ (List.mem_append_right _ (List.mem_append_left _ (List.mem_of_getElem? (l := tables_1_3) (i := 142) (by decide +kernel)))))) (by decide +kernel)
theorem kw_1442 : Cond.methodLink R_St 402 y_He_openVariable ∈ wA := kinm (show _ ∈ tables_1 from (List.mem_append_right _ (List.mem_append_right _ (List.mem_append_right _ (List.mem_append_right _ (List.mem_append_right _ (List.mem_append_right _ (List.mem_append_left _ (List.mem_of_getElem? (l := tables_1_7) (i := 86) (by decide +kernel)))))))))) (by decide +kernel)
theorem kw_1443 : Cond.methodLink R_St 406 y_He_makeClosure ∈ wA := kinm (show _ ∈ tables_1 from (List.mem_append_right _ (List.mem_append_right _ (List.mem_append_right _ (List.mem_append_right _ (List.mem_append_right _ (List.mem_append_right _ (List.mem_append_left _ (List.mem_of_getElem? (l := tables_1_7) (i := 90) (by decide +kernel)))))))))) (by decide +kernel)
theorem kw_1444 : Cond.instanceMethod y_St_makeClosure ∈ wA := kinm (show _ ∈ tables_1 from (List.mem_append_right _ (List.mem_append_right _ (List.mem_append_right _ (List.mem_append_right _ (List.mem_append_right _ (List.mem_append_right _ (List.mem_append_left _ (List.mem_of_getElem? (l := tables_1_7) (i := 84) (by decide +kernel)))))))))) (by decide +kernel)
theorem kw_1445 : Cond.selects R_St y_St_makeClosure y_St_makeClosure ∈ wA := kinp 44 (by decide +kernel) (by decide +kernel)
theorem cv_St_makeClosure : CV y_St_makeClosure b_St_makeClosure 7 none 0 := ⟨kw_1444, kw_1445, kw_883, k_St_makeClosure, by decide +kernel⟩
theorem j_St_makeClosure_j84 {X : Cx} {q0 q : PL} (g : Gd X y_St_makeClosure b_St_makeClosure 7 none 5 122 R_St) {o : ((Int32 × Int32 × Int32 × (Nat × Nat)) ⊕ ((Int32 × (Nat × Nat)) ⊕ (Int32 × Int32 × (Nat × Nat)))) × S1} (hR : (Sum.elim (fun y : Int32 × Int32 × Int32 × (Nat × Nat) => ∀ q : PL, Exq (xP X) [147] q0 q → Rmq (xP X) q y.2.2.2 → ∀ ls : Array Slot, (prs o.2 144 y.2.1) → lv_has ls 7 [(0, .ref (q.1 129 0)), (1, .int y.1), (2, .ref (q.1 144 y.2.1)), (3, .int y.2.2.1)] → WW X q o.2 33 ls []) (Sum.elim (fun y : Int32 × (Nat × Nat) => ∀ q : PL, Exq (xP X) [147] q0 q → Rmq (xP X) q y.2 → ∀ ls : Array Slot, lv_has ls 7 [(0, .ref (q.1 129 0)), (5, .int y.1)] → WW X q o.2 91 ls []) (fun y : Int32 × Int32 × (Nat × Nat) => ∀ q : PL, Exq (xP X) [147] q0 q → Rmq (xP X) q y.2.2 → ∀ ls : Array Slot, (prs o.2 144 y.2.1) → lv_has ls 7 [(0, .ref (q.1 129 0)), (1, .int y.1), (2, .ref (q.1 144 y.2.1))] → WW X q o.2 108 ls [])) o.1)) (hx0 : Exq (xP X) [147] q0 q) (l1 : Int32) (l2 : Int32) (l3 : Int32) (ln : Nat × Nat) (k0 : Int32) (hm : Rmq (xP X) q ln) (s : S1) (hp0 : prs s 144 l2) (ls : Array Slot) (hl : lv_has ls 7 [(0, .ref (q.1 129 0)), (1, .int l1), (2, .ref (q.1 144 l2)), (3, .int l3)]) (h : M_St_makeClosure_j84 l1 l2 l3 ln k0 s = some o) : WW X q s 84 ls [.int k0] := by
  unfold M_St_makeClosure_j84 at h
  refine ww_istore (pc := 84) (i := 5) g.1 (lv' := [(5, .int k0), (0, .ref (q.1 129 0)), (1, .int l1), (2, .ref (q.1 144 l2)), (3, .int l3)]) d_St_makeClosure_84 hl (by decide) rfl fun ls hl => ?_
  refine ww_iload (pc := 86) g.1 d_St_makeClosure_86 (lv_at hl 0 rfl) ?_
  refine ww_if_ge (pc := 88) (tgt := 102) g.1 d_St_makeClosure_88 (by decide) h (fun c h => ?_) (fun c h => ?_)
  · refine ww_iinc (pc := 102) g.1 (v := l3 + 1) (lv' := [(3, .int (l3 + 1)), (5, .int k0), (0, .ref (q.1 129 0)), (1, .int l1), (2, .ref (q.1 144 l2))]) d_St_makeClosure_102 hl (k := 4) rfl (by rfl) (by decide) rfl fun ls hl => ?_
    refine ww_goto (pc := 105) (tgt := 33) g.1 d_St_makeClosure_105 (by decide) ?_
    rw [oR_eq h] at hR
    exact hR q hx0 hm ls hp0 (lv_sub hl [2, 3, 4, 0] rfl)
  · rw [oR_eq h] at hR
    exact hR q hx0 hm ls (lv_sub hl [1, 0] rfl)

theorem lp_St_makeClosure_L33 {X : Cx} {q0 : PL} (g : Gd X y_St_makeClosure b_St_makeClosure 7 none 5 122 R_St) (x : Int32 × Int32 × Int32 × (Nat × Nat)) (s : S1) (o : ((Int32 × Int32 × Int32 × (Nat × Nat)) ⊕ ((Int32 × (Nat × Nat)) ⊕ (Int32 × Int32 × (Nat × Nat)))) × S1) (h : M_St_makeClosure_L33 x s = some o) (hR : (Sum.elim (fun y : Int32 × Int32 × Int32 × (Nat × Nat) => ∀ q : PL, Exq (xP X) [147] q0 q → Rmq (xP X) q y.2.2.2 → ∀ ls : Array Slot, (prs o.2 144 y.2.1) → lv_has ls 7 [(0, .ref (q.1 129 0)), (1, .int y.1), (2, .ref (q.1 144 y.2.1)), (3, .int y.2.2.1)] → WW X q o.2 33 ls []) (Sum.elim (fun y : Int32 × (Nat × Nat) => ∀ q : PL, Exq (xP X) [147] q0 q → Rmq (xP X) q y.2 → ∀ ls : Array Slot, lv_has ls 7 [(0, .ref (q.1 129 0)), (5, .int y.1)] → WW X q o.2 91 ls []) (fun y : Int32 × Int32 × (Nat × Nat) => ∀ q : PL, Exq (xP X) [147] q0 q → Rmq (xP X) q y.2.2 → ∀ ls : Array Slot, (prs o.2 144 y.2.1) → lv_has ls 7 [(0, .ref (q.1 129 0)), (1, .int y.1), (2, .ref (q.1 144 y.2.1))] → WW X q o.2 108 ls [])) o.1)) : ∀ q : PL, Exq (xP X) [147] q0 q → Rmq (xP X) q x.2.2.2 → ∀ ls : Array Slot, (prs s 144 x.2.1) → lv_has ls 7 [(0, .ref (q.1 129 0)), (1, .int x.1), (2, .ref (q.1 144 x.2.1)), (3, .int x.2.2.1)] → WW X q s 33 ls [] := by
  intro q hx0 hm ls hp0 hl
  unfold M_St_makeClosure_L33 at h
  refine ww_iload_n (pc := 33) g.1 d_St_makeClosure_33 rfl (lv_at hl 3 rfl) ?_
  refine ww_aload_n (pc := 34) g.1 d_St_makeClosure_34 rfl (lv_at hl 2 rfl) ?_
  refine ww_gI (pc := 35) g (k := 3) cl_Pr hp0 (by decide) (Or.inl kw_1439) (f := 18435) rfl rfl d_St_makeClosure_35 h fun v35 h => ?_
  refine ww_icmp_ge (pc := 38) (tgt := 108) g.1 d_St_makeClosure_38 (by decide) h (fun c h => ?_) (fun c h => ?_)
  · rw [oR_eq h] at hR
    exact hR q hx0 hm ls hp0 (lv_sub hl [0, 1, 2] rfl)
  · refine ww_aload_n (pc := 41) g.1 d_St_makeClosure_41 rfl (lv_at hl 0 rfl) ?_
    refine ww_gR (pc := 42) g (k := 3) cl_St (pz rfl (by decide)) (by decide) (Or.inl kw_872) (f := 16515) (t := 101) rfl rfl rfl d_St_makeClosure_42 ?_
    refine ww_gR (pc := 45) g (k := 5) cl_Ch (pz rfl (by decide)) (by decide) (Or.inl kw_1440) (f := 12933) (t := 107) rfl rfl rfl d_St_makeClosure_45 ?_
    refine ww_aload_n (pc := 48) g.1 d_St_makeClosure_48 rfl (lv_at hl 2 rfl) ?_
    refine ww_gI (pc := 49) g (k := 4) cl_Pr hp0 (by decide) (Or.inl kw_1441) (f := 18436) rfl rfl d_St_makeClosure_49 h fun v49 h => ?_
    refine ww_iload_n (pc := 52) g.1 d_St_makeClosure_52 rfl (lv_at hl 3 rfl) ?_
    refine ww_iadd (pc := 53) g.1 d_St_makeClosure_53 ?_
    refine ww_ai (pc := 54) g (pz rfl (by decide)) rfl rfl d_St_makeClosure_54 h fun v54 h => ?_
    refine ww_istore (pc := 55) (i := 4) g.1 (lv' := [(4, .int v54), (0, .ref (q.1 129 0)), (1, .int x.1), (2, .ref (q.1 144 x.2.1)), (3, .int x.2.2.1)]) d_St_makeClosure_55 hl (by decide) rfl fun ls hl => ?_
    refine ww_iload (pc := 57) g.1 d_St_makeClosure_57 (lv_at hl 0 rfl) ?_
    refine ww_if_ge (pc := 59) (tgt := 66) g.1 d_St_makeClosure_59 (by decide) h (fun c h => ?_) (fun c h => ?_)
    · refine ww_aload_n (pc := 66) g.1 d_St_makeClosure_66 rfl (lv_at hl 1 rfl) ?_
      refine ww_gR (pc := 67) g (k := 1) cl_St (pz rfl (by decide)) (by decide) (Or.inl kw_884) (f := 16513) (t := 111) rfl rfl rfl d_St_makeClosure_67 ?_
      refine ww_aload_n (pc := 70) g.1 d_St_makeClosure_70 rfl (lv_at hl 1 rfl) ?_
      refine ww_gV (pc := 71) g (k := 4) cl_St (pz rfl (by decide)) (by decide) (Or.inl kw_865) (f := 16516) (t := 148) rfl rfl rfl d_St_makeClosure_71 h fun v71 h => ?_
      refine ww_pr h fun pn71 h => ?_
      refine ww_nnP pn71 ?_
      refine ww_aload_n (pc := 74) g.1 d_St_makeClosure_74 rfl (lv_at hl 1 rfl) ?_
      refine ww_gI (pc := 75) g (k := 7) cl_St (pz rfl (by decide)) (by decide) (Or.inl kw_871) (f := 16519) rfl rfl d_St_makeClosure_75 h fun v75 h => ?_
      refine ww_iload (pc := 78) g.1 d_St_makeClosure_78 (lv_at hl 0 rfl) ?_
      refine ww_iadd (pc := 80) g.1 d_St_makeClosure_80 ?_
      refine ww_lo fun dlo => ?_
      obtain ⟨v81, s, hc81, h⟩ := oB_of h
      refine ww_callVX (pc := 81) (rest := []) g cv_He_openVariable (Or.inl kw_1442) cl_He (pz rfl (by decide)) (ct_He_openVariable pn71 hm hc81) ⟨by decide, by decide⟩ rfl hl.1 (Nat.le_of_ble_eq_true rfl) d_St_makeClosure_81 rfl (fun q81 hE hm => ?_)
      have ex81_0 : q81.1 129 0 = q.1 129 0 := hE _ _ (by decide) (dlo _ _ (pz rfl (by decide)))
      have ex81_1 : q81.1 144 x.2.1 = q.1 144 x.2.1 := hE _ _ (by decide) (dlo _ _ hp0)
      have hl : lv_has ls 7 [(4, .int v54), (0, .ref (q81.1 129 0)), (1, .int x.1), (2, .ref (q81.1 144 x.2.1)), (3, .int x.2.2.1)] := by rw [ex81_0, ex81_1]; exact hl
      refine ww_st (st' := [.int v81.1]) (by rfl) ?_
      refine ww_hi fun dhi => ?_
      have hp0 : prs s 144 x.2.1 := dhi _ _ hp0.2.1 hp0.2.2 (by rw [ex81_1]; exact dlo _ _ hp0)
      have hx0 : Exq (xP X) [147] _ q81 := hx0.tr (hE.sub (by decide))
      exact j_St_makeClosure_j84 g hR hx0 x.1 x.2.1 x.2.2.1 v81.2 v81.1 hm s hp0 ls (lv_sub hl [1, 2, 3, 4] rfl) h
    · refine ww_iconst (pc := 62) g.1 (v := 0) d_St_makeClosure_62 (by decide) ?_
      refine ww_goto (pc := 63) (tgt := 84) g.1 d_St_makeClosure_63 (by decide) ?_
      exact j_St_makeClosure_j84 g hR hx0 x.1 x.2.1 x.2.2.1 x.2.2.2 0 hm s hp0 ls (lv_sub hl [1, 2, 3, 4] rfl) h

theorem j_St_makeClosure_j216 {X : Cx} {q0 q : PL} (g : Gd X y_St_makeClosure b_St_makeClosure 7 none 5 122 R_St) {o : ((Int32 × Int32 × Int32 × Int32 × (Nat × Nat)) ⊕ ((Int32 × (Nat × Nat)))) × S1} (hR : (Sum.elim (fun y : Int32 × Int32 × Int32 × Int32 × (Nat × Nat) => ∀ q : PL, Exq (xP X) [147] q0 q → Rmq (xP X) q y.2.2.2.2 → ∀ ls : Array Slot, (prs o.2 144 y.1) → (prs o.2 147 y.2.2.1) → lv_has ls 7 [(0, .ref (q.1 129 0)), (2, .ref (q.1 144 y.1)), (3, .int y.2.1), (4, .ref (q.1 147 y.2.2.1)), (5, .int y.2.2.2.1)] → WW X q o.2 152 ls []) (fun y : Int32 × (Nat × Nat) => ∀ q : PL, Exq (xP X) [147] q0 q → Rmq (xP X) q y.2 → ∀ ls : Array Slot, lv_has ls 7 [(0, .ref (q.1 129 0)), (3, .int y.1)] → WW X q o.2 223 ls []) o.1)) (hx0 : Exq (xP X) [147] q0 q) (l2 : Int32) (l3 : Int32) (l4 : Int32) (l5 : Int32) (ln : Nat × Nat) (k0 : Int32) (k1 : Int32) (k2 : Int32) (hm : Rmq (xP X) q ln) (s : S1) (hp0 : prs s 144 l2) (hp1 : prs s 147 l4) (hp2 : prs s 147 k2) (ls : Array Slot) (hl : lv_has ls 7 [(0, .ref (q.1 129 0)), (2, .ref (q.1 144 l2)), (3, .int l3), (4, .ref (q.1 147 l4)), (5, .int l5)]) (h : M_St_makeClosure_j216 l2 l3 l4 l5 ln k0 k1 k2 s = some o) : WW X q s 216 ls [.int k0, .int k1, .ref (q.1 147 k2)] := by
  unfold M_St_makeClosure_j216 at h
  refine ww_ln hp2 h fun n216 hmn216 hnn216 h => ?_
  refine ww_si (pc := 216) g hp2 rfl hnn216 d_St_makeClosure_216 h fun s hs h => ?_
  have hp0 : prs s 144 l2 := hs ▸ hp0
  have hp1 : prs s 147 l4 := hs ▸ hp1
  refine ww_iinc (pc := 217) g.1 (v := l5 + 1) (lv' := [(5, .int (l5 + 1)), (0, .ref (q.1 129 0)), (2, .ref (q.1 144 l2)), (3, .int l3), (4, .ref (q.1 147 l4))]) d_St_makeClosure_217 hl (k := 4) rfl (by rfl) (by decide) rfl fun ls hl => ?_
  refine ww_goto (pc := 220) (tgt := 152) g.1 d_St_makeClosure_220 (by decide) ?_
  rw [oR_eq h] at hR
  exact hR q hx0 hm ls hp0 hp1 (lv_sub hl [1, 2, 3, 4, 0] rfl)

theorem lp_St_makeClosure_L152 {X : Cx} {q0 : PL} (g : Gd X y_St_makeClosure b_St_makeClosure 7 none 5 122 R_St) (x : Int32 × Int32 × Int32 × Int32 × (Nat × Nat)) (s : S1) (o : ((Int32 × Int32 × Int32 × Int32 × (Nat × Nat)) ⊕ ((Int32 × (Nat × Nat)))) × S1) (h : M_St_makeClosure_L152 x s = some o) (hR : (Sum.elim (fun y : Int32 × Int32 × Int32 × Int32 × (Nat × Nat) => ∀ q : PL, Exq (xP X) [147] q0 q → Rmq (xP X) q y.2.2.2.2 → ∀ ls : Array Slot, (prs o.2 144 y.1) → (prs o.2 147 y.2.2.1) → lv_has ls 7 [(0, .ref (q.1 129 0)), (2, .ref (q.1 144 y.1)), (3, .int y.2.1), (4, .ref (q.1 147 y.2.2.1)), (5, .int y.2.2.2.1)] → WW X q o.2 152 ls []) (fun y : Int32 × (Nat × Nat) => ∀ q : PL, Exq (xP X) [147] q0 q → Rmq (xP X) q y.2 → ∀ ls : Array Slot, lv_has ls 7 [(0, .ref (q.1 129 0)), (3, .int y.1)] → WW X q o.2 223 ls []) o.1)) : ∀ q : PL, Exq (xP X) [147] q0 q → Rmq (xP X) q x.2.2.2.2 → ∀ ls : Array Slot, (prs s 144 x.1) → (prs s 147 x.2.2.1) → lv_has ls 7 [(0, .ref (q.1 129 0)), (2, .ref (q.1 144 x.1)), (3, .int x.2.1), (4, .ref (q.1 147 x.2.2.1)), (5, .int x.2.2.2.1)] → WW X q s 152 ls [] := by
  intro q hx0 hm ls hp0 hp1 hl
  unfold M_St_makeClosure_L152 at h
  refine ww_iload (pc := 152) g.1 d_St_makeClosure_152 (lv_at hl 4 rfl) ?_
  refine ww_aload_n (pc := 154) g.1 d_St_makeClosure_154 rfl (lv_at hl 1 rfl) ?_
  refine ww_gI (pc := 155) g (k := 3) cl_Pr hp0 (by decide) (Or.inl kw_1439) (f := 18435) rfl rfl d_St_makeClosure_155 h fun v155 h => ?_
  refine ww_icmp_ge (pc := 158) (tgt := 223) g.1 d_St_makeClosure_158 (by decide) h (fun c h => ?_) (fun c h => ?_)
  · rw [oR_eq h] at hR
    exact hR q hx0 hm ls (lv_sub hl [0, 2] rfl)
  · refine ww_aload_n (pc := 161) g.1 d_St_makeClosure_161 rfl (lv_at hl 0 rfl) ?_
    refine ww_gR (pc := 162) g (k := 3) cl_St (pz rfl (by decide)) (by decide) (Or.inl kw_872) (f := 16515) (t := 101) rfl rfl rfl d_St_makeClosure_162 ?_
    refine ww_gR (pc := 165) g (k := 5) cl_Ch (pz rfl (by decide)) (by decide) (Or.inl kw_1440) (f := 12933) (t := 107) rfl rfl rfl d_St_makeClosure_165 ?_
    refine ww_aload_n (pc := 168) g.1 d_St_makeClosure_168 rfl (lv_at hl 1 rfl) ?_
    refine ww_gI (pc := 169) g (k := 4) cl_Pr hp0 (by decide) (Or.inl kw_1441) (f := 18436) rfl rfl d_St_makeClosure_169 h fun v169 h => ?_
    refine ww_iload (pc := 172) g.1 d_St_makeClosure_172 (lv_at hl 4 rfl) ?_
    refine ww_iadd (pc := 174) g.1 d_St_makeClosure_174 ?_
    refine ww_ai (pc := 175) g (pz rfl (by decide)) rfl rfl d_St_makeClosure_175 h fun v175 h => ?_
    refine ww_istore (pc := 176) (i := 6) g.1 (lv' := [(6, .int v175), (0, .ref (q.1 129 0)), (2, .ref (q.1 144 x.1)), (3, .int x.2.1), (4, .ref (q.1 147 x.2.2.1)), (5, .int x.2.2.2.1)]) d_St_makeClosure_176 hl (by decide) rfl fun ls hl => ?_
    refine ww_aload (pc := 178) g.1 d_St_makeClosure_178 (lv_at hl 4 rfl) ?_
    refine ww_iload (pc := 180) g.1 d_St_makeClosure_180 (lv_at hl 5 rfl) ?_
    refine ww_iload (pc := 182) g.1 d_St_makeClosure_182 (lv_at hl 0 rfl) ?_
    refine ww_if_ge (pc := 184) (tgt := 198) g.1 d_St_makeClosure_184 (by decide) h (fun c h => ?_) (fun c h => ?_)
    · refine ww_aload_n (pc := 198) g.1 d_St_makeClosure_198 rfl (lv_at hl 1 rfl) ?_
      refine ww_gR (pc := 199) g (k := 1) cl_St (pz rfl (by decide)) (by decide) (Or.inl kw_884) (f := 16513) (t := 111) rfl rfl rfl d_St_makeClosure_199 ?_
      refine ww_aload_n (pc := 202) g.1 d_St_makeClosure_202 rfl (lv_at hl 1 rfl) ?_
      refine ww_gV (pc := 203) g (k := 4) cl_St (pz rfl (by decide)) (by decide) (Or.inl kw_865) (f := 16516) (t := 148) rfl rfl rfl d_St_makeClosure_203 h fun v203 h => ?_
      refine ww_pr h fun pn203 h => ?_
      refine ww_nnP pn203 ?_
      refine ww_aload_n (pc := 206) g.1 d_St_makeClosure_206 rfl (lv_at hl 1 rfl) ?_
      refine ww_gI (pc := 207) g (k := 7) cl_St (pz rfl (by decide)) (by decide) (Or.inl kw_871) (f := 16519) rfl rfl d_St_makeClosure_207 h fun v207 h => ?_
      refine ww_iload (pc := 210) g.1 d_St_makeClosure_210 (lv_at hl 0 rfl) ?_
      refine ww_iadd (pc := 212) g.1 d_St_makeClosure_212 ?_
      refine ww_lo fun dlo => ?_
      obtain ⟨v213, s, hc213, h⟩ := oB_of h
      refine ww_callVX (pc := 213) (rest := [.int x.2.2.2.1, .ref (q.1 147 x.2.2.1)]) g cv_He_openVariable (Or.inl kw_1442) cl_He (pz rfl (by decide)) (ct_He_openVariable pn203 hm hc213) ⟨by decide, by decide⟩ rfl hl.1 (Nat.le_of_ble_eq_true rfl) d_St_makeClosure_213 rfl (fun q213 hE hm => ?_)
      have ex213_0 : q213.1 129 0 = q.1 129 0 := hE _ _ (by decide) (dlo _ _ (pz rfl (by decide)))
      have ex213_1 : q213.1 144 x.1 = q.1 144 x.1 := hE _ _ (by decide) (dlo _ _ hp0)
      have ex213_2 : q213.1 147 x.2.2.1 = q.1 147 x.2.2.1 := hE _ _ (by decide) (dlo _ _ hp1)
      have hl : lv_has ls 7 [(6, .int v175), (0, .ref (q213.1 129 0)), (2, .ref (q213.1 144 x.1)), (3, .int x.2.1), (4, .ref (q213.1 147 x.2.2.1)), (5, .int x.2.2.2.1)] := by rw [ex213_0, ex213_1, ex213_2]; exact hl
      refine ww_st (st' := [.int v213.1, .int x.2.2.2.1, .ref (q213.1 147 x.2.2.1)]) (by first | (rw [ex213_2]; done) | (rw [ex213_2]; rfl)) ?_
      refine ww_hi fun dhi => ?_
      have hp1 : prs s 147 x.2.2.1 := dhi _ _ hp1.2.1 hp1.2.2 (by rw [ex213_2]; exact dlo _ _ hp1)
      have hp0 : prs s 144 x.1 := dhi _ _ hp0.2.1 hp0.2.2 (by rw [ex213_1]; exact dlo _ _ hp0)
      have hx0 : Exq (xP X) [147] _ q213 := hx0.tr (hE.sub (by decide))
      exact j_St_makeClosure_j216 g hR hx0 x.1 x.2.1 x.2.2.1 x.2.2.2.1 v213.2 v213.1 x.2.2.2.1 x.2.2.1 hm s hp0 hp1 hp1 ls (lv_sub hl [1, 2, 3, 4, 5] rfl) h
    · refine ww_aload_n (pc := 187) g.1 d_St_makeClosure_187 rfl (lv_at hl 1 rfl) ?_
      refine ww_iconst (pc := 188) g.1 (v := (-1)) d_St_makeClosure_188 (by decide) ?_
      refine ww_iload (pc := 189) g.1 d_St_makeClosure_189 (lv_at hl 0 rfl) ?_
      refine ww_isub (pc := 191) g.1 d_St_makeClosure_191 ?_
      refine ww_lo fun dlo => ?_
      obtain ⟨v192, s, hc192, h⟩ := oB_of h
      refine ww_callV (pc := 192) (rest := [.int x.2.2.2.1, .ref (q.1 147 x.2.2.1)]) g cv_St_upvalue (Or.inl kw_1276) cl_St (pz rfl (by decide)) (ct_St_upvalue hc192) ⟨by decide, by decide⟩ rfl hl.1 (Nat.le_of_ble_eq_true rfl) d_St_makeClosure_192 rfl (?_)
      refine ww_st (st' := [.int v192, .int x.2.2.2.1, .ref (q.1 147 x.2.2.1)]) rfl ?_
      refine ww_hi fun dhi => ?_
      have hp1 : prs s 147 x.2.2.1 := dhi _ _ hp1.2.1 hp1.2.2 (dlo _ _ hp1)
      have hp0 : prs s 144 x.1 := dhi _ _ hp0.2.1 hp0.2.2 (dlo _ _ hp0)
      refine ww_goto (pc := 195) (tgt := 216) g.1 d_St_makeClosure_195 (by decide) ?_
      exact j_St_makeClosure_j216 g hR hx0 x.1 x.2.1 x.2.2.1 x.2.2.2.1 x.2.2.2.2 v192 x.2.2.2.1 x.2.2.1 hm s hp0 hp1 hp1 ls (lv_sub hl [1, 2, 3, 4, 5] rfl) h

theorem ct_St_makeClosure {l : Launch} {P : PP} {q : PL} {s s' : S1} {n0 n1 : Nat × Nat}  {r : Unit} (hm : Rmq P q n0) (h : M_St_makeClosure n0 s = some ((r, n1), s')) : CtX l y_St_makeClosure b_St_makeClosure 7 none 5 122 P [147] q s [.ref (q.1 129 0)] (fun _ => none) n1 s' := by
  refine ctX_of (by decide) (Nat.le_of_ble_eq_true rfl) fun X ls eP el g hR hl => ?_
  subst eP
  obtain ⟨q0, hq0⟩ : ∃ q0 : PL, q0 = q := ⟨q, rfl⟩
  have hx0 : Exq (xP X) [147] q0 q := hq0 ▸ Exq.rf
  rw [← hq0] at hR
  have hR : RtX X [147] q0 (((r, n1), s') : (Unit × (Nat × Nat)) × S1).1.2 (((r, n1), s') : (Unit × (Nat × Nat)) × S1).2 (fun _ => none) := hR
  have hl : lv_has ls 7 [(0, .ref (q.1 129 0))] := hl
  generalize ((r, n1), s') = o at h hR
  unfold M_St_makeClosure at h
  refine ww_aload_n (pc := 0) g.1 d_St_makeClosure_0 rfl (lv_at hl 0 rfl) ?_
  refine ww_gR (pc := 1) g (k := 3) cl_St (pz rfl (by decide)) (by decide) (Or.inl kw_872) (f := 16515) (t := 101) rfl rfl rfl d_St_makeClosure_1 ?_
  refine ww_gR (pc := 4) g (k := 1) cl_Ch (pz rfl (by decide)) (by decide) (Or.inl kw_1436) (f := 12929) (t := 103) rfl rfl rfl d_St_makeClosure_4 ?_
  refine ww_aload_n (pc := 7) g.1 d_St_makeClosure_7 rfl (lv_at hl 0 rfl) ?_
  refine ww_gV (pc := 8) g (k := 6) cl_St (pz rfl (by decide)) (by decide) (Or.inl kw_869) (f := 16518) (t := 144) rfl rfl rfl d_St_makeClosure_8 h fun v8 h => ?_
  refine ww_pr h fun pn8 h => ?_
  refine ww_nnP pn8 ?_
  refine ww_gI (pc := 11) g (k := 11) cl_Pr pn8 (by decide) (Or.inl kw_1437) (f := 18443) rfl rfl d_St_makeClosure_11 h fun v11 h => ?_
  refine ww_aload_n (pc := 14) g.1 d_St_makeClosure_14 rfl (lv_at hl 0 rfl) ?_
  refine ww_gI (pc := 15) g (k := 12) cl_St (pz rfl (by decide)) (by decide) (Or.inl kw_880) (f := 16524) rfl rfl d_St_makeClosure_15 h fun v15 h => ?_
  refine ww_iadd (pc := 18) g.1 d_St_makeClosure_18 ?_
  refine ww_ai (pc := 19) g (pz rfl (by decide)) rfl rfl d_St_makeClosure_19 h fun v19 h => ?_
  refine ww_istore_n (pc := 20) (i := 1) g.1 (lv' := [(1, .int v19), (0, .ref (q.1 129 0))]) d_St_makeClosure_20 rfl hl (by decide) rfl fun ls hl => ?_
  refine ww_aload_n (pc := 21) g.1 d_St_makeClosure_21 rfl (lv_at hl 1 rfl) ?_
  refine ww_gR (pc := 22) g (k := 3) cl_St (pz rfl (by decide)) (by decide) (Or.inl kw_872) (f := 16515) (t := 101) rfl rfl rfl d_St_makeClosure_22 ?_
  refine ww_gR (pc := 25) g (k := 0) cl_Ch (pz rfl (by decide)) (by decide) (Or.inl kw_1438) (f := 12928) (t := 102) rfl rfl rfl d_St_makeClosure_25 ?_
  refine ww_iload_n (pc := 28) g.1 d_St_makeClosure_28 rfl (lv_at hl 0 rfl) ?_
  refine ww_a8 (pc := 29) g (t := 144) (n := 250) (pz rfl (by decide)) rfl rfl rfl rfl d_St_makeClosure_29 h fun pa29 h => ?_
  refine ww_astore_n (pc := 30) (i := 2) g.1 (lv' := [(2, .ref (q.1 144 v19)), (1, .int v19), (0, .ref (q.1 129 0))]) d_St_makeClosure_30 rfl hl (by decide) rfl fun ls hl => ?_
  refine ww_iconst (pc := 31) g.1 (v := 0) d_St_makeClosure_31 (by decide) ?_
  refine ww_istore_n (pc := 32) (i := 3) g.1 (lv' := [(3, .int 0), (2, .ref (q.1 144 v19)), (1, .int v19), (0, .ref (q.1 129 0))]) d_St_makeClosure_32 rfl hl (by decide) rfl fun ls hl => ?_
  obtain ⟨e33, s1, hw, h⟩ := oB_of h
  refine oW_rule (Wh := fun (x : Int32 × Int32 × Int32 × (Nat × Nat)) (s : S1) => ∀ q : PL, Exq (xP X) [147] q0 q → Rmq (xP X) q x.2.2.2 → ∀ ls : Array Slot, (prs s 144 x.2.1) → lv_has ls 7 [(0, .ref (q.1 129 0)), (1, .int x.1), (2, .ref (q.1 144 x.2.1)), (3, .int x.2.2.1)] → WW X q s 33 ls []) (We := fun (e : (Int32 × (Nat × Nat)) ⊕ (Int32 × Int32 × (Nat × Nat))) (s : S1) => (Sum.elim (fun y : Int32 × (Nat × Nat) => ∀ q : PL, Exq (xP X) [147] q0 q → Rmq (xP X) q y.2 → ∀ ls : Array Slot, lv_has ls 7 [(0, .ref (q.1 129 0)), (5, .int y.1)] → WW X q s 91 ls []) (fun y : Int32 × Int32 × (Nat × Nat) => ∀ q : PL, Exq (xP X) [147] q0 q → Rmq (xP X) q y.2.2 → ∀ ls : Array Slot, (prs s 144 y.2.1) → lv_has ls 7 [(0, .ref (q.1 129 0)), (1, .int y.1), (2, .ref (q.1 144 y.2.1))] → WW X q s 108 ls [])) e) (fun x s o hb hc => lp_St_makeClosure_L33 (q0 := q0) g x s o hb hc) hw ?_ q hx0 hm ls pa29 (lv_sub hl [3, 2, 1, 0] rfl)
  clear hw hl hx0 hm
  clear ls
  generalize s1 = s at h ⊢
  rcases e33 with y33_91 | y33_108
  · intro qL33 hx0 hm ls hl
    dsimp only [Sum.elim_inl, Sum.elim_inr] at h
    refine ww_aload_n (pc := 91) g.1 d_St_makeClosure_91 rfl (lv_at hl 0 rfl) ?_
    refine ww_gR (pc := 92) g (k := 0) cl_St (pz rfl (by decide)) (by decide) (Or.inl kw_863) (f := 16512) (t := 128) rfl rfl rfl d_St_makeClosure_92 ?_
    refine ww_iload (pc := 95) g.1 d_St_makeClosure_95 (lv_at hl 1 rfl) ?_
    refine ww_ineg (pc := 97) g.1 d_St_makeClosure_97 ?_
    obtain ⟨v98, s, hc98, h⟩ := oB_of h
    refine ww_callV (pc := 98) (rest := []) g cv_Ma_fail (Or.inl kw_1106) cl_Ma (pz rfl (by decide)) (ct_Ma_fail hc98) ⟨by decide, by decide⟩ rfl hl.1 (Nat.le_of_ble_eq_true rfl) d_St_makeClosure_98 rfl (?_)
    refine ww_st (st' := []) rfl ?_
    exact ww_vretX (pc := 101) g h hR hx0 hm d_St_makeClosure_101
  · intro qL33 hx0 hm ls hq33_0 hl
    dsimp only [Sum.elim_inl, Sum.elim_inr] at h
    refine ww_aload_n (pc := 108) g.1 d_St_makeClosure_108 rfl (lv_at hl 0 rfl) ?_
    refine ww_gR (pc := 109) g (k := 1) cl_St (pz rfl (by decide)) (by decide) (Or.inl kw_884) (f := 16513) (t := 111) rfl rfl rfl d_St_makeClosure_109 ?_
    refine ww_iload_n (pc := 112) g.1 d_St_makeClosure_112 rfl (lv_at hl 1 rfl) ?_
    refine ww_aload_n (pc := 113) g.1 d_St_makeClosure_113 rfl (lv_at hl 2 rfl) ?_
    refine ww_gI (pc := 114) g (k := 3) cl_Pr hq33_0 (by decide) (Or.inl kw_1439) (f := 18435) rfl rfl d_St_makeClosure_114 h fun v114 h => ?_
    refine ww_lo fun dlo => ?_
    obtain ⟨v117, s, hc117, h⟩ := oB_of h
    refine ww_callVX (pc := 117) (rest := []) g cv_He_makeClosure (Or.inl kw_1443) cl_He (pz rfl (by decide)) (ct_He_makeClosure hm hc117) ⟨by decide, by decide⟩ rfl hl.1 (Nat.le_of_ble_eq_true rfl) d_St_makeClosure_117 rfl (fun q117 hE hm => ?_)
    have ex117_0 : q117.1 129 0 = qL33.1 129 0 := hE _ _ (by decide) (dlo _ _ (pz rfl (by decide)))
    have ex117_1 : q117.1 144 y33_108.2.1 = qL33.1 144 y33_108.2.1 := hE _ _ (by decide) (dlo _ _ hq33_0)
    have hl : lv_has ls 7 [(0, .ref (q117.1 129 0)), (1, .int y33_108.1), (2, .ref (q117.1 144 y33_108.2.1))] := by rw [ex117_0, ex117_1]; exact hl
    refine ww_st (st' := [.int v117.1]) (by rfl) ?_
    refine ww_hi fun dhi => ?_
    have hq33_0 : prs s 144 y33_108.2.1 := dhi _ _ hq33_0.2.1 hq33_0.2.2 (by rw [ex117_1]; exact dlo _ _ hq33_0)
    have hx0 : Exq (xP X) [147] _ q117 := hx0.tr (hE.sub (by decide))
    refine ww_istore_n (pc := 120) (i := 3) g.1 (lv' := [(3, .int v117.1), (0, .ref (q117.1 129 0)), (1, .int y33_108.1), (2, .ref (q117.1 144 y33_108.2.1))]) d_St_makeClosure_120 rfl hl (by decide) rfl fun ls hl => ?_
    refine ww_iload_n (pc := 121) g.1 d_St_makeClosure_121 rfl (lv_at hl 0 rfl) ?_
    refine ww_if_ge (pc := 122) (tgt := 135) g.1 d_St_makeClosure_122 (by decide) h (fun c h => ?_) (fun c h => ?_)
    · refine ww_aload_n (pc := 135) g.1 d_St_makeClosure_135 rfl (lv_at hl 1 rfl) ?_
      refine ww_gR (pc := 136) g (k := 1) cl_St (pz rfl (by decide)) (by decide) (Or.inl kw_884) (f := 16513) (t := 111) rfl rfl rfl d_St_makeClosure_136 ?_
      refine ww_gR (pc := 139) g (k := 0) cl_He (pz rfl (by decide)) (by decide) (Or.inl kw_885) (f := 14208) (t := 112) rfl rfl rfl d_St_makeClosure_139 ?_
      refine ww_iload_n (pc := 142) g.1 d_St_makeClosure_142 rfl (lv_at hl 0 rfl) ?_
      refine ww_a8 (pc := 143) g (t := 145) (n := 4000) (pz rfl (by decide)) rfl rfl rfl rfl d_St_makeClosure_143 h fun pa143 h => ?_
      refine ww_g5 (pc := 144) g (k := 10) cl_Tg pa143 (by decide) (Or.inl kw_887) (f := 18570) (t := 147) (f2 := 18943) rfl rfl rfl rfl d_St_makeClosure_144 h fun v144 hv144 h => ?_
      refine ww_ok h fun cv144 h => ?_
      refine ww_dn cv144 ?_
      have pd144 : prs s 147 v117.1 := pdn (hv144 ▸ cv144) pa143.2.1 pa143.2.2
      refine ww_astore (pc := 147) (i := 4) g.1 (lv' := [(4, .ref (q117.1 147 v117.1)), (3, .int v117.1), (0, .ref (q117.1 129 0)), (1, .int y33_108.1), (2, .ref (q117.1 144 y33_108.2.1))]) d_St_makeClosure_147 hl (by decide) rfl fun ls hl => ?_
      refine ww_iconst (pc := 149) g.1 (v := 0) d_St_makeClosure_149 (by decide) ?_
      refine ww_istore (pc := 150) (i := 5) g.1 (lv' := [(5, .int 0), (4, .ref (q117.1 147 v117.1)), (3, .int v117.1), (0, .ref (q117.1 129 0)), (1, .int y33_108.1), (2, .ref (q117.1 144 y33_108.2.1))]) d_St_makeClosure_150 hl (by decide) rfl fun ls hl => ?_
      obtain ⟨e152, s1, hw, h⟩ := oB_of h
      refine oW_rule (Wh := fun (x : Int32 × Int32 × Int32 × Int32 × (Nat × Nat)) (s : S1) => ∀ q : PL, Exq (xP X) [147] q0 q → Rmq (xP X) q x.2.2.2.2 → ∀ ls : Array Slot, (prs s 144 x.1) → (prs s 147 x.2.2.1) → lv_has ls 7 [(0, .ref (q.1 129 0)), (2, .ref (q.1 144 x.1)), (3, .int x.2.1), (4, .ref (q.1 147 x.2.2.1)), (5, .int x.2.2.2.1)] → WW X q s 152 ls []) (We := fun (e : (Int32 × (Nat × Nat))) (s : S1) => ∀ q : PL, Exq (xP X) [147] q0 q → Rmq (xP X) q e.2 → ∀ ls : Array Slot, lv_has ls 7 [(0, .ref (q.1 129 0)), (3, .int e.1)] → WW X q s 223 ls []) (fun x s o hb hc => lp_St_makeClosure_L152 (q0 := q0) g x s o hb hc) hw ?_ q117 hx0 hm ls hq33_0 pd144 (lv_sub hl [3, 5, 2, 1, 0] rfl)
      clear hw hl hx0 hm
      clear ls
      intro qL152 hx0 hm ls hl
      generalize s1 = s at h ⊢
      refine ww_aload_n (pc := 223) g.1 d_St_makeClosure_223 rfl (lv_at hl 0 rfl) ?_
      refine ww_aload_n (pc := 224) g.1 d_St_makeClosure_224 rfl (lv_at hl 0 rfl) ?_
      refine ww_gI (pc := 225) g (k := 9) cl_St (pz rfl (by decide)) (by decide) (Or.inl kw_877) (f := 16521) rfl rfl d_St_makeClosure_225 h fun v225 h => ?_
      refine ww_bipush (pc := 228) g.1 (v := 6) d_St_makeClosure_228 (by decide) ?_
      refine ww_iload_n (pc := 230) g.1 d_St_makeClosure_230 rfl (lv_at hl 1 rfl) ?_
      refine ww_i2l (pc := 231) g.1 (v := e152.1.toInt64) d_St_makeClosure_231 rfl ?_
      obtain ⟨v232, s, hc232, h⟩ := oB_of h
      refine ww_callV (pc := 232) (rest := []) g cv_St_set (Or.inl kw_928) cl_St (pz rfl (by decide)) (ct_St_set hc232) ⟨by decide, by decide⟩ rfl hl.1 (Nat.le_of_ble_eq_true rfl) d_St_makeClosure_232 rfl (?_)
      refine ww_st (st' := []) rfl ?_
      exact ww_vretX (pc := 235) g h hR hx0 hm d_St_makeClosure_235
    · refine ww_aload_n (pc := 125) g.1 d_St_makeClosure_125 rfl (lv_at hl 1 rfl) ?_
      refine ww_gR (pc := 126) g (k := 0) cl_St (pz rfl (by decide)) (by decide) (Or.inl kw_863) (f := 16512) (t := 128) rfl rfl rfl d_St_makeClosure_126 ?_
      refine ww_iload_n (pc := 129) g.1 d_St_makeClosure_129 rfl (lv_at hl 0 rfl) ?_
      refine ww_ineg (pc := 130) g.1 d_St_makeClosure_130 ?_
      refine ww_lo fun dlo => ?_
      obtain ⟨v131, s, hc131, h⟩ := oB_of h
      refine ww_callV (pc := 131) (rest := []) g cv_Ma_fail (Or.inl kw_1106) cl_Ma (pz rfl (by decide)) (ct_Ma_fail hc131) ⟨by decide, by decide⟩ rfl hl.1 (Nat.le_of_ble_eq_true rfl) d_St_makeClosure_131 rfl (?_)
      refine ww_st (st' := []) rfl ?_
      refine ww_hi fun dhi => ?_
      have hq33_0 : prs s 144 y33_108.2.1 := dhi _ _ hq33_0.2.1 hq33_0.2.2 (dlo _ _ hq33_0)
      exact ww_vretX (pc := 134) g h hR hx0 hm d_St_makeClosure_134

abbrev b_St_step : ByteArray := prog_10_method_2_code
def y_St_step : MethodName := ⟨R_St, "step", "()V"⟩
abbrev w_St_step : List Cond := .code y_St_step b_St_step 1 none :: wA
set_option maxRecDepth 20000 in
theorem k_St_step : Cond.code y_St_step b_St_step 1 none ∈ wA := kinm (show _ ∈ tables_1 from (List.mem_append_right _ (List.mem_append_right _ (List.mem_append_right _ (List.mem_append_right _ (List.mem_append_right _ (List.mem_append_right _ (List.mem_append_left _ (List.mem_of_getElem? (l := tables_1_7) (i := 22) rfl))))))))) rfl
theorem d_St_step_0 : decode b_St_step 0 = .ok (.aload_n 0, 1) := by decide +kernel
theorem d_St_step_1 : decode b_St_step 1 = .ok (.getfield 9, 3) := by decide +kernel
theorem d_St_step_4 : decode b_St_step 4 = .ok (.dup, 1) := by decide +kernel
theorem d_St_step_5 : decode b_St_step 5 = .ok (.getfield 32, 3) := by decide +kernel
theorem d_St_step_8 : decode b_St_step 8 = .ok (.iconst 1, 1) := by decide +kernel
theorem d_St_step_9 : decode b_St_step 9 = .ok (.iadd, 1) := by decide +kernel
theorem d_St_step_10 : decode b_St_step 10 = .ok (.putfield 32, 3) := by decide +kernel
theorem d_St_step_13 : decode b_St_step 13 = .ok (.aload_n 0, 1) := by decide +kernel
theorem d_St_step_14 : decode b_St_step 14 = .ok (.getfield 9, 3) := by decide +kernel
theorem d_St_step_17 : decode b_St_step 17 = .ok (.getfield 36, 3) := by decide +kernel
theorem d_St_step_20 : decode b_St_step 20 = .ok (.invokevirtual 40, 3) := by decide +kernel
theorem d_St_step_23 : decode b_St_step 23 = .ok (.dup, 1) := by decide +kernel
theorem d_St_step_24 : decode b_St_step 24 = .ok (.getfield 46, 3) := by decide +kernel
theorem d_St_step_27 : decode b_St_step 27 = .ok (.iconst 1, 1) := by decide +kernel
theorem d_St_step_28 : decode b_St_step 28 = .ok (.iadd, 1) := by decide +kernel
theorem d_St_step_29 : decode b_St_step 29 = .ok (.putfield 46, 3) := by decide +kernel
theorem d_St_step_32 : decode b_St_step 32 = .ok (.aload_n 0, 1) := by decide +kernel
theorem d_St_step_33 : decode b_St_step 33 = .ok (.invokevirtual 51, 3) := by decide +kernel
theorem d_St_step_36 : decode b_St_step 36 = .ok (.aload_n 0, 1) := by decide +kernel
theorem d_St_step_37 : decode b_St_step 37 = .ok (.getfield 54, 3) := by decide +kernel
theorem d_St_step_40 : decode b_St_step 40 = .ok (.lookupswitch 133 #[(8, 52), (10, 89), (11, 112), (43, 119), (44, 126)], 52) := by decide +kernel
theorem d_St_step_92 : decode b_St_step 92 = .ok (.aload_n 0, 1) := by decide +kernel
theorem d_St_step_93 : decode b_St_step 93 = .ok (.aload_n 0, 1) := by decide +kernel
theorem d_St_step_94 : decode b_St_step 94 = .ok (.getfield 21, 3) := by decide +kernel
theorem d_St_step_97 : decode b_St_step 97 = .ok (.aload_n 0, 1) := by decide +kernel
theorem d_St_step_98 : decode b_St_step 98 = .ok (.aload_n 0, 1) := by decide +kernel
theorem d_St_step_99 : decode b_St_step 99 = .ok (.getfield 57, 3) := by decide +kernel
theorem d_St_step_102 : decode b_St_step 102 = .ok (.invokevirtual 60, 3) := by decide +kernel
theorem d_St_step_105 : decode b_St_step 105 = .ok (.invokevirtual 64, 3) := by decide +kernel
theorem d_St_step_108 : decode b_St_step 108 = .ok (.aload_n 0, 1) := by decide +kernel
theorem d_St_step_109 : decode b_St_step 109 = .ok (.getfield 21, 3) := by decide +kernel
theorem d_St_step_112 : decode b_St_step 112 = .ok (.aload_n 0, 1) := by decide +kernel
theorem d_St_step_113 : decode b_St_step 113 = .ok (.aload_n 0, 1) := by decide +kernel
theorem d_St_step_114 : decode b_St_step 114 = .ok (.getfield 57, 3) := by decide +kernel
theorem d_St_step_117 : decode b_St_step 117 = .ok (.invokevirtual 60, 3) := by decide +kernel
theorem d_St_step_120 : decode b_St_step 120 = .ok (.invokevirtual 69, 3) := by decide +kernel
theorem d_St_step_123 : decode b_St_step 123 = .ok (.invokevirtual 73, 3) := by decide +kernel
theorem d_St_step_126 : decode b_St_step 126 = .ok (.goto 140, 3) := by decide +kernel
theorem d_St_step_129 : decode b_St_step 129 = .ok (.aload_n 0, 1) := by decide +kernel
theorem d_St_step_130 : decode b_St_step 130 = .ok (.aload_n 0, 1) := by decide +kernel
theorem d_St_step_131 : decode b_St_step 131 = .ok (.aload_n 0, 1) := by decide +kernel
theorem d_St_step_132 : decode b_St_step 132 = .ok (.getfield 57, 3) := by decide +kernel
theorem d_St_step_135 : decode b_St_step 135 = .ok (.invokevirtual 77, 3) := by decide +kernel
theorem d_St_step_138 : decode b_St_step 138 = .ok (.aload_n 0, 1) := by decide +kernel
theorem d_St_step_139 : decode b_St_step 139 = .ok (.aload_n 0, 1) := by decide +kernel
theorem d_St_step_140 : decode b_St_step 140 = .ok (.getfield 57, 3) := by decide +kernel
theorem d_St_step_143 : decode b_St_step 143 = .ok (.invokevirtual 80, 3) := by decide +kernel
theorem d_St_step_146 : decode b_St_step 146 = .ok (.invokevirtual 73, 3) := by decide +kernel
theorem d_St_step_149 : decode b_St_step 149 = .ok (.goto 117, 3) := by decide +kernel
theorem d_St_step_152 : decode b_St_step 152 = .ok (.aload_n 0, 1) := by decide +kernel
theorem d_St_step_153 : decode b_St_step 153 = .ok (.invokevirtual 83, 3) := by decide +kernel
theorem d_St_step_156 : decode b_St_step 156 = .ok (.goto 110, 3) := by decide +kernel
theorem d_St_step_159 : decode b_St_step 159 = .ok (.aload_n 0, 1) := by decide +kernel
theorem d_St_step_160 : decode b_St_step 160 = .ok (.invokevirtual 86, 3) := by decide +kernel
theorem d_St_step_163 : decode b_St_step 163 = .ok (.goto 103, 3) := by decide +kernel
theorem d_St_step_166 : decode b_St_step 166 = .ok (.aload_n 0, 1) := by decide +kernel
theorem d_St_step_167 : decode b_St_step 167 = .ok (.invokevirtual 89, 3) := by decide +kernel
theorem d_St_step_170 : decode b_St_step 170 = .ok (.goto 96, 3) := by decide +kernel
theorem d_St_step_173 : decode b_St_step 173 = .ok (.aload_n 0, 1) := by decide +kernel
theorem d_St_step_174 : decode b_St_step 174 = .ok (.getfield 54, 3) := by decide +kernel
theorem d_St_step_177 : decode b_St_step 177 = .ok (.bipush 12, 2) := by decide +kernel
theorem d_St_step_179 : decode b_St_step 179 = .ok (.if_icmp .gt 10, 3) := by decide +kernel
theorem d_St_step_182 : decode b_St_step 182 = .ok (.aload_n 0, 1) := by decide +kernel
theorem d_St_step_183 : decode b_St_step 183 = .ok (.invokevirtual 92, 3) := by decide +kernel
theorem d_St_step_186 : decode b_St_step 186 = .ok (.goto 80, 3) := by decide +kernel
theorem d_St_step_189 : decode b_St_step 189 = .ok (.aload_n 0, 1) := by decide +kernel
theorem d_St_step_190 : decode b_St_step 190 = .ok (.getfield 54, 3) := by decide +kernel
theorem d_St_step_193 : decode b_St_step 193 = .ok (.bipush 24, 2) := by decide +kernel
theorem d_St_step_195 : decode b_St_step 195 = .ok (.if_icmp .gt 10, 3) := by decide +kernel
theorem d_St_step_198 : decode b_St_step 198 = .ok (.aload_n 0, 1) := by decide +kernel
theorem d_St_step_199 : decode b_St_step 199 = .ok (.invokevirtual 95, 3) := by decide +kernel
theorem d_St_step_202 : decode b_St_step 202 = .ok (.goto 64, 3) := by decide +kernel
theorem d_St_step_205 : decode b_St_step 205 = .ok (.aload_n 0, 1) := by decide +kernel
theorem d_St_step_206 : decode b_St_step 206 = .ok (.getfield 54, 3) := by decide +kernel
theorem d_St_step_209 : decode b_St_step 209 = .ok (.bipush 29, 2) := by decide +kernel
theorem d_St_step_211 : decode b_St_step 211 = .ok (.if_icmp .gt 10, 3) := by decide +kernel
theorem d_St_step_214 : decode b_St_step 214 = .ok (.aload_n 0, 1) := by decide +kernel
theorem d_St_step_215 : decode b_St_step 215 = .ok (.invokevirtual 98, 3) := by decide +kernel
theorem d_St_step_218 : decode b_St_step 218 = .ok (.goto 48, 3) := by decide +kernel
theorem d_St_step_221 : decode b_St_step 221 = .ok (.aload_n 0, 1) := by decide +kernel
theorem d_St_step_222 : decode b_St_step 222 = .ok (.getfield 54, 3) := by decide +kernel
theorem d_St_step_225 : decode b_St_step 225 = .ok (.bipush 35, 2) := by decide +kernel
theorem d_St_step_227 : decode b_St_step 227 = .ok (.if_icmp .gt 10, 3) := by decide +kernel
theorem d_St_step_230 : decode b_St_step 230 = .ok (.aload_n 0, 1) := by decide +kernel
theorem d_St_step_231 : decode b_St_step 231 = .ok (.invokevirtual 101, 3) := by decide +kernel
theorem d_St_step_234 : decode b_St_step 234 = .ok (.goto 32, 3) := by decide +kernel
theorem d_St_step_237 : decode b_St_step 237 = .ok (.aload_n 0, 1) := by decide +kernel
theorem d_St_step_238 : decode b_St_step 238 = .ok (.getfield 54, 3) := by decide +kernel
theorem d_St_step_241 : decode b_St_step 241 = .ok (.bipush 38, 2) := by decide +kernel
theorem d_St_step_243 : decode b_St_step 243 = .ok (.if_icmp .le 12, 3) := by decide +kernel
theorem d_St_step_246 : decode b_St_step 246 = .ok (.aload_n 0, 1) := by decide +kernel
theorem d_St_step_247 : decode b_St_step 247 = .ok (.getfield 54, 3) := by decide +kernel
theorem d_St_step_250 : decode b_St_step 250 = .ok (.bipush 41, 2) := by decide +kernel
theorem d_St_step_252 : decode b_St_step 252 = .ok (.if_icmp .ne 10, 3) := by decide +kernel
theorem d_St_step_255 : decode b_St_step 255 = .ok (.aload_n 0, 1) := by decide +kernel
theorem d_St_step_256 : decode b_St_step 256 = .ok (.invokevirtual 104, 3) := by decide +kernel
theorem d_St_step_259 : decode b_St_step 259 = .ok (.goto 7, 3) := by decide +kernel
theorem d_St_step_262 : decode b_St_step 262 = .ok (.aload_n 0, 1) := by decide +kernel
theorem d_St_step_263 : decode b_St_step 263 = .ok (.invokevirtual 107, 3) := by decide +kernel
theorem d_St_step_266 : decode b_St_step 266 = .ok (.return_, 1) := by decide +kernel
theorem kw_1446 : Cond.fieldLink R_St 32 "LuaMachine$Machine" "stepCount" "I" ∈ wA := kinm (show _ ∈ tables_1 from (List.mem_append_right _ (List.mem_append_left _ (List.mem_of_getElem? (l := tables_1_2) (i := 74) (by decide +kernel))))) (by decide +kernel)
theorem kw_1447 : Cond.methodLink R_St 73 y_St_write ∈ wA := kinm (show _ ∈ tables_1 from (List.mem_append_right _ (List.mem_append_right _ (List.mem_append_right _ (List.mem_append_right _ (List.mem_append_right _ (List.mem_append_right _ (List.mem_append_left _ (List.mem_of_getElem? (l := tables_1_7) (i := 40) (by decide +kernel)))))))))) (by decide +kernel)
theorem kw_1448 : Cond.methodLink R_St 83 y_St_newTable ∈ wA := kinm (show _ ∈ tables_1 from (List.mem_append_right _ (List.mem_append_right _ (List.mem_append_right _ (List.mem_append_right _ (List.mem_append_right _ (List.mem_append_right _ (List.mem_append_left _ (List.mem_of_getElem? (l := tables_1_7) (i := 68) (by decide +kernel)))))))))) (by decide +kernel)
theorem kw_1449 : Cond.methodLink R_St 86 y_St_setList ∈ wA := kinm (show _ ∈ tables_1 from (List.mem_append_right _ (List.mem_append_right _ (List.mem_append_right _ (List.mem_append_right _ (List.mem_append_right _ (List.mem_append_right _ (List.mem_append_left _ (List.mem_of_getElem? (l := tables_1_7) (i := 77) (by decide +kernel)))))))))) (by decide +kernel)
theorem kw_1450 : Cond.methodLink R_St 89 y_St_makeClosure ∈ wA := kinm (show _ ∈ tables_1 from (List.mem_append_right _ (List.mem_append_right _ (List.mem_append_right _ (List.mem_append_right _ (List.mem_append_right _ (List.mem_append_right _ (List.mem_append_left _ (List.mem_of_getElem? (l := tables_1_7) (i := 82) (by decide +kernel)))))))))) (by decide +kernel)
theorem kw_1451 : Cond.methodLink R_St 104 y_St_callOrReturn ∈ wA := kinm (show _ ∈ tables_1 from (List.mem_append_right _ (List.mem_append_right _ (List.mem_append_right _ (List.mem_append_right _ (List.mem_append_right _ (List.mem_append_right _ (List.mem_append_left _ (List.mem_of_getElem? (l := tables_1_7) (i := 169) (by decide +kernel)))))))))) (by decide +kernel)
theorem kw_1452 : Cond.methodLink R_St 107 y_St_loopOrTake ∈ wA := kinm (show _ ∈ tables_1 from (List.mem_append_right _ (List.mem_append_right _ (List.mem_append_right _ (List.mem_append_right _ (List.mem_append_right _ (List.mem_append_right _ (List.mem_append_left _ (List.mem_of_getElem? (l := tables_1_7) (i := 186) (by decide +kernel)))))))))) (by decide +kernel)
theorem kw_1453 : Cond.methodLink R_St 101 y_St_branch ∈ wA := kinm (show _ ∈ tables_1 from (List.mem_append_right _ (List.mem_append_right _ (List.mem_append_right _ (List.mem_append_right _ (List.mem_append_right _ (List.mem_append_right _ (List.mem_append_left _ (List.mem_of_getElem? (l := tables_1_7) (i := 143) (by decide +kernel)))))))))) (by decide +kernel)
theorem kw_1454 : Cond.methodLink R_St 98 y_St_reckonOne ∈ wA := kinm (show _ ∈ tables_1 from (List.mem_append_right _ (List.mem_append_right _ (List.mem_append_right _ (List.mem_append_right _ (List.mem_append_right _ (List.mem_append_right _ (List.mem_append_left _ (List.mem_of_getElem? (l := tables_1_7) (i := 126) (by decide +kernel)))))))))) (by decide +kernel)
theorem kw_1455 : Cond.methodLink R_St 95 y_St_reckon ∈ wA := kinm (show _ ∈ tables_1 from (List.mem_append_right _ (List.mem_append_right _ (List.mem_append_right _ (List.mem_append_right _ (List.mem_append_right _ (List.mem_append_right _ (List.mem_append_left _ (List.mem_of_getElem? (l := tables_1_7) (i := 103) (by decide +kernel)))))))))) (by decide +kernel)
theorem kw_1456 : Cond.methodLink R_St 92 y_St_move ∈ wA := kinm (show _ ∈ tables_1 from (List.mem_append_right _ (List.mem_append_right _ (List.mem_append_right _ (List.mem_append_right _ (List.mem_append_right _ (List.mem_append_right _ (List.mem_append_left _ (List.mem_of_getElem? (l := tables_1_7) (i := 91) (by decide +kernel)))))))))) (by decide +kernel)
theorem kw_1457 : Cond.instanceMethod y_St_step ∈ wA := kinm (show _ ∈ tables_1 from (List.mem_append_right _ (List.mem_append_right _ (List.mem_append_right _ (List.mem_append_right _ (List.mem_append_right _ (List.mem_append_right _ (List.mem_append_left _ (List.mem_of_getElem? (l := tables_1_7) (i := 20) (by decide +kernel)))))))))) (by decide +kernel)
theorem kw_1458 : Cond.selects R_St y_St_step y_St_step ∈ wA := kinm (show _ ∈ tables_1 from (List.mem_append_right _ (List.mem_append_right _ (List.mem_append_right _ (List.mem_append_right _ (List.mem_append_right _ (List.mem_append_right _ (List.mem_append_left _ (List.mem_of_getElem? (l := tables_1_7) (i := 21) (by decide +kernel)))))))))) (by decide +kernel)
theorem cv_St_step : CV y_St_step b_St_step 1 none 0 := ⟨kw_1457, kw_1458, kw_883, k_St_step, by decide +kernel⟩
theorem j_St_step_j255 {X : Cx} {q0 q : PL} (g : Gd X y_St_step b_St_step 1 none 6 162 R_St) {o : (Unit × (Nat × Nat)) × S1} (hR : RtX X [147] q0 o.1.2 o.2 (fun _ => none)) (hx0 : Exq (xP X) [147] q0 q) (ln : Nat × Nat) (hm : Rmq (xP X) q ln) (s : S1) (ls : Array Slot) (hl : lv_has ls 1 [(0, .ref (q.1 129 0))]) (h : M_St_step_j255 ln s = some o) : WW X q s 255 ls [] := by
  unfold M_St_step_j255 at h
  refine ww_aload_n (pc := 255) g.1 d_St_step_255 rfl (lv_at hl 0 rfl) ?_
  obtain ⟨v256, s, hc256, h⟩ := oB_of h
  refine ww_callV (pc := 256) (rest := []) g cv_St_callOrReturn (Or.inl kw_1451) cl_St (pz rfl (by decide)) (ct_St_callOrReturn hc256) ⟨by decide, by decide⟩ rfl hl.1 (Nat.le_of_ble_eq_true rfl) d_St_step_256 rfl (?_)
  refine ww_st (st' := []) rfl ?_
  refine ww_goto (pc := 259) (tgt := 266) g.1 d_St_step_259 (by decide) ?_
  exact ww_vretX (pc := 266) g h hR hx0 hm d_St_step_266

theorem ct_St_step {l : Launch} {P : PP} {q : PL} {s s' : S1} {n0 n1 : Nat × Nat}  {r : Unit} (hm : Rmq P q n0) (h : M_St_step n0 s = some ((r, n1), s')) : CtX l y_St_step b_St_step 1 none 6 162 P [147] q s [.ref (q.1 129 0)] (fun _ => none) n1 s' := by
  refine ctX_of (by decide) (Nat.le_of_ble_eq_true rfl) fun X ls eP el g hR hl => ?_
  subst eP
  obtain ⟨q0, hq0⟩ : ∃ q0 : PL, q0 = q := ⟨q, rfl⟩
  have hx0 : Exq (xP X) [147] q0 q := hq0 ▸ Exq.rf
  rw [← hq0] at hR
  have hR : RtX X [147] q0 (((r, n1), s') : (Unit × (Nat × Nat)) × S1).1.2 (((r, n1), s') : (Unit × (Nat × Nat)) × S1).2 (fun _ => none) := hR
  have hl : lv_has ls 1 [(0, .ref (q.1 129 0))] := hl
  generalize ((r, n1), s') = o at h hR
  unfold M_St_step at h
  refine ww_aload_n (pc := 0) g.1 d_St_step_0 rfl (lv_at hl 0 rfl) ?_
  refine ww_gR (pc := 1) g (k := 0) cl_St (pz rfl (by decide)) (by decide) (Or.inl kw_863) (f := 16512) (t := 128) rfl rfl rfl d_St_step_1 ?_
  refine ww_dup (pc := 4) g.1 d_St_step_4 rfl ?_
  refine ww_gI (pc := 5) g (k := 9) cl_Ma (pz rfl (by decide)) (by decide) (Or.inl kw_1446) (f := 16393) rfl rfl d_St_step_5 h fun v5 h => ?_
  refine ww_iconst (pc := 8) g.1 (v := 1) d_St_step_8 (by decide) ?_
  refine ww_iadd (pc := 9) g.1 d_St_step_9 ?_
  refine ww_pI (pc := 10) g (k := 9) cl_Ma (pz rfl (by decide)) (by decide) (Or.inl kw_1446) rfl (f := 16393) rfl rfl rfl rfl d_St_step_10 h fun s hs h => ?_
  refine ww_aload_n (pc := 13) g.1 d_St_step_13 rfl (lv_at hl 0 rfl) ?_
  refine ww_gR (pc := 14) g (k := 0) cl_St (pz rfl (by decide)) (by decide) (Or.inl kw_863) (f := 16512) (t := 128) rfl rfl rfl d_St_step_14 ?_
  refine ww_gV (pc := 17) g (k := 11) cl_Ma (pz rfl (by decide)) (by decide) (Or.inl kw_864) (f := 16395) (t := 148) rfl rfl rfl d_St_step_17 h fun v17 h => ?_
  refine ww_pr h fun pn17 h => ?_
  refine ww_nnP pn17 ?_
  obtain ⟨v20, s, hc20, h⟩ := oB_of h
  refine ww_callV (pc := 20) (rest := []) g cv_Co_top (Or.inl kw_866) cl_Co pn17 (ct_Co_top pn17 hc20) ⟨by decide, by decide⟩ rfl hl.1 (Nat.le_of_ble_eq_true rfl) d_St_step_20 rfl (?_)
  refine ww_st (st' := [.ref (q.1 152 v20)]) rfl ?_
  refine ww_pr h fun pr20 h => ?_
  refine ww_dup (pc := 23) g.1 d_St_step_23 rfl ?_
  refine ww_gI (pc := 24) g (k := 5) cl_Fm pr20 (by decide) (Or.inl kw_875) (f := 19461) rfl rfl d_St_step_24 h fun v24 h => ?_
  refine ww_iconst (pc := 27) g.1 (v := 1) d_St_step_27 (by decide) ?_
  refine ww_iadd (pc := 28) g.1 d_St_step_28 ?_
  refine ww_pI (pc := 29) g (k := 5) cl_Fm pr20 (by decide) (Or.inl kw_875) rfl (f := 19461) rfl rfl rfl rfl d_St_step_29 h fun s hs h => ?_
  refine ww_aload_n (pc := 32) g.1 d_St_step_32 rfl (lv_at hl 0 rfl) ?_
  obtain ⟨v33, s, hc33, h⟩ := oB_of h
  refine ww_callV (pc := 33) (rest := []) g cv_St_decode (Or.inl kw_1205) cl_St (pz rfl (by decide)) (ct_St_decode hc33) ⟨by decide, by decide⟩ rfl hl.1 (Nat.le_of_ble_eq_true rfl) d_St_step_33 rfl (?_)
  refine ww_st (st' := []) rfl ?_
  refine ww_aload_n (pc := 36) g.1 d_St_step_36 rfl (lv_at hl 0 rfl) ?_
  refine ww_gI (pc := 37) g (k := 8) cl_St (pz rfl (by decide)) (by decide) (Or.inl kw_876) (f := 16520) rfl rfl d_St_step_37 h fun v37 h => ?_
  by_cases c40_92 : v37 = 8
  · have h := oC_pos c40_92 h
    have c := c40_92
    refine ww_lookup (pc := 40) (tgt := 92) g.1 d_St_step_40 (by decide) (by rw [c] <;> rfl) (by decide) ?_
    refine ww_aload_n (pc := 92) g.1 d_St_step_92 rfl (lv_at hl 0 rfl) ?_
    refine ww_aload_n (pc := 93) g.1 d_St_step_93 rfl (lv_at hl 0 rfl) ?_
    refine ww_gR (pc := 94) g (k := 1) cl_St (pz rfl (by decide)) (by decide) (Or.inl kw_884) (f := 16513) (t := 111) rfl rfl rfl d_St_step_94 ?_
    refine ww_aload_n (pc := 97) g.1 d_St_step_97 rfl (lv_at hl 0 rfl) ?_
    refine ww_aload_n (pc := 98) g.1 d_St_step_98 rfl (lv_at hl 0 rfl) ?_
    refine ww_gI (pc := 99) g (k := 9) cl_St (pz rfl (by decide)) (by decide) (Or.inl kw_877) (f := 16521) rfl rfl d_St_step_99 h fun v99 h => ?_
    obtain ⟨v102, s, hc102, h⟩ := oB_of h
    refine ww_callV (pc := 102) (rest := [.ref (q.1 111 0), .ref (q.1 129 0)]) g cv_St_upvalue (Or.inl kw_1276) cl_St (pz rfl (by decide)) (ct_St_upvalue hc102) ⟨by decide, by decide⟩ rfl hl.1 (Nat.le_of_ble_eq_true rfl) d_St_step_102 rfl (?_)
    refine ww_st (st' := [.int v102, .ref (q.1 111 0), .ref (q.1 129 0)]) rfl ?_
    obtain ⟨v105, s, hc105, h⟩ := oB_of h
    refine ww_callV (pc := 105) (rest := [.ref (q.1 129 0)]) g cv_He_variableKind (Or.inl kw_1277) cl_He (pz rfl (by decide)) (ct_He_variableKind hc105) ⟨by decide, by decide⟩ rfl hl.1 (Nat.le_of_ble_eq_true rfl) d_St_step_105 rfl (?_)
    refine ww_st (st' := [.int v105, .ref (q.1 129 0)]) rfl ?_
    refine ww_aload_n (pc := 108) g.1 d_St_step_108 rfl (lv_at hl 0 rfl) ?_
    refine ww_gR (pc := 109) g (k := 1) cl_St (pz rfl (by decide)) (by decide) (Or.inl kw_884) (f := 16513) (t := 111) rfl rfl rfl d_St_step_109 ?_
    refine ww_aload_n (pc := 112) g.1 d_St_step_112 rfl (lv_at hl 0 rfl) ?_
    refine ww_aload_n (pc := 113) g.1 d_St_step_113 rfl (lv_at hl 0 rfl) ?_
    refine ww_gI (pc := 114) g (k := 9) cl_St (pz rfl (by decide)) (by decide) (Or.inl kw_877) (f := 16521) rfl rfl d_St_step_114 h fun v114 h => ?_
    obtain ⟨v117, s, hc117, h⟩ := oB_of h
    refine ww_callV (pc := 117) (rest := [.ref (q.1 111 0), .int v105, .ref (q.1 129 0)]) g cv_St_upvalue (Or.inl kw_1276) cl_St (pz rfl (by decide)) (ct_St_upvalue hc117) ⟨by decide, by decide⟩ rfl hl.1 (Nat.le_of_ble_eq_true rfl) d_St_step_117 rfl (?_)
    refine ww_st (st' := [.int v117, .ref (q.1 111 0), .int v105, .ref (q.1 129 0)]) rfl ?_
    obtain ⟨v120, s, hc120, h⟩ := oB_of h
    refine ww_callV (pc := 120) (rest := [.int v105, .ref (q.1 129 0)]) g cv_He_variableValue (Or.inl kw_1278) cl_He (pz rfl (by decide)) (ct_He_variableValue hc120) ⟨by decide, by decide⟩ rfl hl.1 (Nat.le_of_ble_eq_true rfl) d_St_step_120 rfl (?_)
    refine ww_st (st' := [.long v120, .int v105, .ref (q.1 129 0)]) rfl ?_
    obtain ⟨v123, s, hc123, h⟩ := oB_of h
    refine ww_callV (pc := 123) (rest := []) g cv_St_write (Or.inl kw_1447) cl_St (pz rfl (by decide)) (ct_St_write hc123) ⟨by decide, by decide⟩ rfl hl.1 (Nat.le_of_ble_eq_true rfl) d_St_step_123 rfl (?_)
    refine ww_st (st' := []) rfl ?_
    refine ww_goto (pc := 126) (tgt := 266) g.1 d_St_step_126 (by decide) ?_
    exact ww_vretX (pc := 266) g h hR hx0 hm d_St_step_266
  have h := oC_neg c40_92 h
  by_cases c40_129 : v37 = 10
  · have h := oC_pos c40_129 h
    have c := c40_129
    refine ww_lookup (pc := 40) (tgt := 129) g.1 d_St_step_40 (by decide) (by rw [c] <;> rfl) (by decide) ?_
    refine ww_aload_n (pc := 129) g.1 d_St_step_129 rfl (lv_at hl 0 rfl) ?_
    refine ww_aload_n (pc := 130) g.1 d_St_step_130 rfl (lv_at hl 0 rfl) ?_
    refine ww_aload_n (pc := 131) g.1 d_St_step_131 rfl (lv_at hl 0 rfl) ?_
    refine ww_gI (pc := 132) g (k := 9) cl_St (pz rfl (by decide)) (by decide) (Or.inl kw_877) (f := 16521) rfl rfl d_St_step_132 h fun v132 h => ?_
    obtain ⟨v135, s, hc135, h⟩ := oB_of h
    refine ww_callV (pc := 135) (rest := [.ref (q.1 129 0)]) g cv_St_kindOf (Or.inl kw_914) cl_St (pz rfl (by decide)) (ct_St_kindOf hc135) ⟨by decide, by decide⟩ rfl hl.1 (Nat.le_of_ble_eq_true rfl) d_St_step_135 rfl (?_)
    refine ww_st (st' := [.int v135, .ref (q.1 129 0)]) rfl ?_
    refine ww_aload_n (pc := 138) g.1 d_St_step_138 rfl (lv_at hl 0 rfl) ?_
    refine ww_aload_n (pc := 139) g.1 d_St_step_139 rfl (lv_at hl 0 rfl) ?_
    refine ww_gI (pc := 140) g (k := 9) cl_St (pz rfl (by decide)) (by decide) (Or.inl kw_877) (f := 16521) rfl rfl d_St_step_140 h fun v140 h => ?_
    obtain ⟨v143, s, hc143, h⟩ := oB_of h
    refine ww_callV (pc := 143) (rest := [.int v135, .ref (q.1 129 0)]) g cv_St_valueOf (Or.inl kw_1120) cl_St (pz rfl (by decide)) (ct_St_valueOf hc143) ⟨by decide, by decide⟩ rfl hl.1 (Nat.le_of_ble_eq_true rfl) d_St_step_143 rfl (?_)
    refine ww_st (st' := [.long v143, .int v135, .ref (q.1 129 0)]) rfl ?_
    obtain ⟨v146, s, hc146, h⟩ := oB_of h
    refine ww_callV (pc := 146) (rest := []) g cv_St_write (Or.inl kw_1447) cl_St (pz rfl (by decide)) (ct_St_write hc146) ⟨by decide, by decide⟩ rfl hl.1 (Nat.le_of_ble_eq_true rfl) d_St_step_146 rfl (?_)
    refine ww_st (st' := []) rfl ?_
    refine ww_goto (pc := 149) (tgt := 266) g.1 d_St_step_149 (by decide) ?_
    exact ww_vretX (pc := 266) g h hR hx0 hm d_St_step_266
  have h := oC_neg c40_129 h
  by_cases c40_152 : v37 = 11
  · have h := oC_pos c40_152 h
    have c := c40_152
    refine ww_lookup (pc := 40) (tgt := 152) g.1 d_St_step_40 (by decide) (by rw [c] <;> rfl) (by decide) ?_
    refine ww_aload_n (pc := 152) g.1 d_St_step_152 rfl (lv_at hl 0 rfl) ?_
    refine ww_lo fun dlo => ?_
    obtain ⟨v153, s, hc153, h⟩ := oB_of h
    refine ww_callVX (pc := 153) (rest := []) g cv_St_newTable (Or.inl kw_1448) cl_St (pz rfl (by decide)) (ct_St_newTable hm hc153) ⟨by decide, by decide⟩ rfl hl.1 (Nat.le_of_ble_eq_true rfl) d_St_step_153 rfl (fun q153 hE hm => ?_)
    have hl : lv_has ls 1 [] := lv_sub hl [] rfl
    refine ww_st (st' := []) (by rfl) ?_
    have hx0 : Exq (xP X) [147] _ q153 := hx0.tr (hE.sub (by decide))
    refine ww_goto (pc := 156) (tgt := 266) g.1 d_St_step_156 (by decide) ?_
    exact ww_vretX (pc := 266) g h hR hx0 hm d_St_step_266
  have h := oC_neg c40_152 h
  by_cases c40_159 : v37 = 43
  · have h := oC_pos c40_159 h
    have c := c40_159
    refine ww_lookup (pc := 40) (tgt := 159) g.1 d_St_step_40 (by decide) (by rw [c] <;> rfl) (by decide) ?_
    refine ww_aload_n (pc := 159) g.1 d_St_step_159 rfl (lv_at hl 0 rfl) ?_
    obtain ⟨v160, s, hc160, h⟩ := oB_of h
    refine ww_callV (pc := 160) (rest := []) g cv_St_setList (Or.inl kw_1449) cl_St (pz rfl (by decide)) (ct_St_setList hc160) ⟨by decide, by decide⟩ rfl hl.1 (Nat.le_of_ble_eq_true rfl) d_St_step_160 rfl (?_)
    refine ww_st (st' := []) rfl ?_
    refine ww_goto (pc := 163) (tgt := 266) g.1 d_St_step_163 (by decide) ?_
    exact ww_vretX (pc := 266) g h hR hx0 hm d_St_step_266
  have h := oC_neg c40_159 h
  by_cases c40_166 : v37 = 44
  · have h := oC_pos c40_166 h
    have c := c40_166
    refine ww_lookup (pc := 40) (tgt := 166) g.1 d_St_step_40 (by decide) (by rw [c] <;> rfl) (by decide) ?_
    refine ww_aload_n (pc := 166) g.1 d_St_step_166 rfl (lv_at hl 0 rfl) ?_
    refine ww_lo fun dlo => ?_
    obtain ⟨v167, s, hc167, h⟩ := oB_of h
    refine ww_callVX (pc := 167) (rest := []) g cv_St_makeClosure (Or.inl kw_1450) cl_St (pz rfl (by decide)) (ct_St_makeClosure hm hc167) ⟨by decide, by decide⟩ rfl hl.1 (Nat.le_of_ble_eq_true rfl) d_St_step_167 rfl (fun q167 hE hm => ?_)
    have hl : lv_has ls 1 [] := lv_sub hl [] rfl
    refine ww_st (st' := []) (by rfl) ?_
    have hx0 : Exq (xP X) [147] _ q167 := hx0.tr (hE.sub (by decide))
    refine ww_goto (pc := 170) (tgt := 266) g.1 d_St_step_170 (by decide) ?_
    exact ww_vretX (pc := 266) g h hR hx0 hm d_St_step_266
  have h := oC_neg c40_166 h
  have n_8 : ¬ v37.toInt = 8 := lv_neT (fun e => c40_92 e) rfl
  have n_10 : ¬ v37.toInt = 10 := lv_neT (fun e => c40_129 e) rfl
  have n_11 : ¬ v37.toInt = 11 := lv_neT (fun e => c40_152 e) rfl
  have n_43 : ¬ v37.toInt = 43 := lv_neT (fun e => c40_159 e) rfl
  have n_44 : ¬ v37.toInt = 44 := lv_neT (fun e => c40_166 e) rfl
  refine ww_lookup (pc := 40) (tgt := 173) (off := 133) g.1 d_St_step_40 (by decide) ((lv_osw (x := v37) (k := 8) (a := 8) (o := 52) (d := 133) (r := [(10, 89), (11, 112), (43, 119), (44, 126)]) (fun e => n_8 (by rw [e] <;> rfl)) rfl).trans ((lv_osw (x := v37) (k := 10) (a := 10) (o := 89) (d := 133) (r := [(11, 112), (43, 119), (44, 126)]) (fun e => n_10 (by rw [e] <;> rfl)) rfl).trans ((lv_osw (x := v37) (k := 11) (a := 11) (o := 112) (d := 133) (r := [(43, 119), (44, 126)]) (fun e => n_11 (by rw [e] <;> rfl)) rfl).trans ((lv_osw (x := v37) (k := 43) (a := 43) (o := 119) (d := 133) (r := [(44, 126)]) (fun e => n_43 (by rw [e] <;> rfl)) rfl).trans ((lv_osw (x := v37) (k := 44) (a := 44) (o := 126) (d := 133) (r := []) (fun e => n_44 (by rw [e] <;> rfl)) rfl).trans rfl))))) (by decide) ?_
  refine ww_aload_n (pc := 173) g.1 d_St_step_173 rfl (lv_at hl 0 rfl) ?_
  refine ww_gI (pc := 174) g (k := 8) cl_St (pz rfl (by decide)) (by decide) (Or.inl kw_876) (f := 16520) rfl rfl d_St_step_174 h fun v174 h => ?_
  refine ww_bipush (pc := 177) g.1 (v := 12) d_St_step_177 (by decide) ?_
  refine ww_icmp_gt (pc := 179) (tgt := 189) g.1 d_St_step_179 (by decide) h (fun c h => ?_) (fun c h => ?_)
  · refine ww_aload_n (pc := 189) g.1 d_St_step_189 rfl (lv_at hl 0 rfl) ?_
    refine ww_gI (pc := 190) g (k := 8) cl_St (pz rfl (by decide)) (by decide) (Or.inl kw_876) (f := 16520) rfl rfl d_St_step_190 h fun v190 h => ?_
    refine ww_bipush (pc := 193) g.1 (v := 24) d_St_step_193 (by decide) ?_
    refine ww_icmp_gt (pc := 195) (tgt := 205) g.1 d_St_step_195 (by decide) h (fun c h => ?_) (fun c h => ?_)
    · refine ww_aload_n (pc := 205) g.1 d_St_step_205 rfl (lv_at hl 0 rfl) ?_
      refine ww_gI (pc := 206) g (k := 8) cl_St (pz rfl (by decide)) (by decide) (Or.inl kw_876) (f := 16520) rfl rfl d_St_step_206 h fun v206 h => ?_
      refine ww_bipush (pc := 209) g.1 (v := 29) d_St_step_209 (by decide) ?_
      refine ww_icmp_gt (pc := 211) (tgt := 221) g.1 d_St_step_211 (by decide) h (fun c h => ?_) (fun c h => ?_)
      · refine ww_aload_n (pc := 221) g.1 d_St_step_221 rfl (lv_at hl 0 rfl) ?_
        refine ww_gI (pc := 222) g (k := 8) cl_St (pz rfl (by decide)) (by decide) (Or.inl kw_876) (f := 16520) rfl rfl d_St_step_222 h fun v222 h => ?_
        refine ww_bipush (pc := 225) g.1 (v := 35) d_St_step_225 (by decide) ?_
        refine ww_icmp_gt (pc := 227) (tgt := 237) g.1 d_St_step_227 (by decide) h (fun c h => ?_) (fun c h => ?_)
        · refine ww_aload_n (pc := 237) g.1 d_St_step_237 rfl (lv_at hl 0 rfl) ?_
          refine ww_gI (pc := 238) g (k := 8) cl_St (pz rfl (by decide)) (by decide) (Or.inl kw_876) (f := 16520) rfl rfl d_St_step_238 h fun v238 h => ?_
          refine ww_bipush (pc := 241) g.1 (v := 38) d_St_step_241 (by decide) ?_
          refine ww_icmp_le (pc := 243) (tgt := 255) g.1 d_St_step_243 (by decide) h (fun c h => ?_) (fun c h => ?_)
          · exact j_St_step_j255 g hR hx0 n0 hm s ls (lv_sub hl [0] rfl) h
          · refine ww_aload_n (pc := 246) g.1 d_St_step_246 rfl (lv_at hl 0 rfl) ?_
            refine ww_gI (pc := 247) g (k := 8) cl_St (pz rfl (by decide)) (by decide) (Or.inl kw_876) (f := 16520) rfl rfl d_St_step_247 h fun v247 h => ?_
            refine ww_bipush (pc := 250) g.1 (v := 41) d_St_step_250 (by decide) ?_
            refine ww_icmp_ne (pc := 252) (tgt := 262) g.1 d_St_step_252 (by decide) h (fun c h => ?_) (fun c h => ?_)
            · refine ww_aload_n (pc := 262) g.1 d_St_step_262 rfl (lv_at hl 0 rfl) ?_
              obtain ⟨v263, s, hc263, h⟩ := oB_of h
              refine ww_callV (pc := 263) (rest := []) g cv_St_loopOrTake (Or.inl kw_1452) cl_St (pz rfl (by decide)) (ct_St_loopOrTake hc263) ⟨by decide, by decide⟩ rfl hl.1 (Nat.le_of_ble_eq_true rfl) d_St_step_263 rfl (?_)
              refine ww_st (st' := []) rfl ?_
              exact ww_vretX (pc := 266) g h hR hx0 hm d_St_step_266
            · exact j_St_step_j255 g hR hx0 n0 hm s ls (lv_sub hl [0] rfl) h
        · refine ww_aload_n (pc := 230) g.1 d_St_step_230 rfl (lv_at hl 0 rfl) ?_
          obtain ⟨v231, s, hc231, h⟩ := oB_of h
          refine ww_callV (pc := 231) (rest := []) g cv_St_branch (Or.inl kw_1453) cl_St (pz rfl (by decide)) (ct_St_branch hc231) ⟨by decide, by decide⟩ rfl hl.1 (Nat.le_of_ble_eq_true rfl) d_St_step_231 rfl (?_)
          refine ww_st (st' := []) rfl ?_
          refine ww_goto (pc := 234) (tgt := 266) g.1 d_St_step_234 (by decide) ?_
          exact ww_vretX (pc := 266) g h hR hx0 hm d_St_step_266
      · refine ww_aload_n (pc := 214) g.1 d_St_step_214 rfl (lv_at hl 0 rfl) ?_
        obtain ⟨v215, s, hc215, h⟩ := oB_of h
        refine ww_callV (pc := 215) (rest := []) g cv_St_reckonOne (Or.inl kw_1454) cl_St (pz rfl (by decide)) (ct_St_reckonOne hc215) ⟨by decide, by decide⟩ rfl hl.1 (Nat.le_of_ble_eq_true rfl) d_St_step_215 rfl (?_)
        refine ww_st (st' := []) rfl ?_
        refine ww_goto (pc := 218) (tgt := 266) g.1 d_St_step_218 (by decide) ?_
        exact ww_vretX (pc := 266) g h hR hx0 hm d_St_step_266
    · refine ww_aload_n (pc := 198) g.1 d_St_step_198 rfl (lv_at hl 0 rfl) ?_
      obtain ⟨v199, s, hc199, h⟩ := oB_of h
      refine ww_callV (pc := 199) (rest := []) g cv_St_reckon (Or.inl kw_1455) cl_St (pz rfl (by decide)) (ct_St_reckon hc199) ⟨by decide, by decide⟩ rfl hl.1 (Nat.le_of_ble_eq_true rfl) d_St_step_199 rfl (?_)
      refine ww_st (st' := []) rfl ?_
      refine ww_goto (pc := 202) (tgt := 266) g.1 d_St_step_202 (by decide) ?_
      exact ww_vretX (pc := 266) g h hR hx0 hm d_St_step_266
  · refine ww_aload_n (pc := 182) g.1 d_St_step_182 rfl (lv_at hl 0 rfl) ?_
    obtain ⟨v183, s, hc183, h⟩ := oB_of h
    refine ww_callV (pc := 183) (rest := []) g cv_St_move (Or.inl kw_1456) cl_St (pz rfl (by decide)) (ct_St_move hc183) ⟨by decide, by decide⟩ rfl hl.1 (Nat.le_of_ble_eq_true rfl) d_St_step_183 rfl (?_)
    refine ww_st (st' := []) rfl ?_
    refine ww_goto (pc := 186) (tgt := 266) g.1 d_St_step_186 (by decide) ?_
    exact ww_vretX (pc := 266) g h hR hx0 hm d_St_step_266


