abbrev b_St_joinOn : ByteArray := prog_10_method_20_code
def y_St_joinOn : MethodName := ⟨R_St, "joinOn", "()V"⟩
abbrev w_St_joinOn : List Cond := .code y_St_joinOn b_St_joinOn 3 none :: wA
set_option maxRecDepth 20000 in
theorem k_St_joinOn : Cond.code y_St_joinOn b_St_joinOn 3 none ∈ wA := kinm (show _ ∈ tables_1 from (List.mem_append_right _ (List.mem_append_right _ (List.mem_append_right _ (List.mem_append_right _ (List.mem_append_right _ (List.mem_append_right _ (List.mem_append_right _ (List.mem_append_right _ (List.mem_append_left _ (List.mem_of_getElem? (l := tables_1_9) (i := 8) rfl))))))))))) rfl
theorem d_St_joinOn_0 : decode b_St_joinOn 0 = .ok (.aload_n 0, 1) := by decide +kernel
theorem d_St_joinOn_1 : decode b_St_joinOn 1 = .ok (.invokevirtual 51, 3) := by decide +kernel
theorem d_St_joinOn_4 : decode b_St_joinOn 4 = .ok (.aload_n 0, 1) := by decide +kernel
theorem d_St_joinOn_5 : decode b_St_joinOn 5 = .ok (.getfield 113, 3) := by decide +kernel
theorem d_St_joinOn_8 : decode b_St_joinOn 8 = .ok (.getfield 262, 3) := by decide +kernel
theorem d_St_joinOn_11 : decode b_St_joinOn 11 = .ok (.istore_n 1, 1) := by decide +kernel
theorem d_St_joinOn_12 : decode b_St_joinOn 12 = .ok (.iload_n 1, 1) := by decide +kernel
theorem d_St_joinOn_13 : decode b_St_joinOn 13 = .ok (.aload_n 0, 1) := by decide +kernel
theorem d_St_joinOn_14 : decode b_St_joinOn 14 = .ok (.getfield 137, 3) := by decide +kernel
theorem d_St_joinOn_17 : decode b_St_joinOn 17 = .ok (.if_icmp .lt 135, 3) := by decide +kernel
theorem d_St_joinOn_20 : decode b_St_joinOn 20 = .ok (.aload_n 0, 1) := by decide +kernel
theorem d_St_joinOn_21 : decode b_St_joinOn 21 = .ok (.getfield 113, 3) := by decide +kernel
theorem d_St_joinOn_24 : decode b_St_joinOn 24 = .ok (.iload_n 1, 1) := by decide +kernel
theorem d_St_joinOn_25 : decode b_St_joinOn 25 = .ok (.iconst 1, 1) := by decide +kernel
theorem d_St_joinOn_26 : decode b_St_joinOn 26 = .ok (.isub, 1) := by decide +kernel
theorem d_St_joinOn_27 : decode b_St_joinOn 27 = .ok (.putfield 262, 3) := by decide +kernel
theorem d_St_joinOn_30 : decode b_St_joinOn 30 = .ok (.aload_n 0, 1) := by decide +kernel
theorem d_St_joinOn_31 : decode b_St_joinOn 31 = .ok (.iload_n 1, 1) := by decide +kernel
theorem d_St_joinOn_32 : decode b_St_joinOn 32 = .ok (.invokevirtual 77, 3) := by decide +kernel
theorem d_St_joinOn_35 : decode b_St_joinOn 35 = .ok (.invokestatic 279, 3) := by decide +kernel
theorem d_St_joinOn_38 : decode b_St_joinOn 38 = .ok (.ifCond .eq 16, 3) := by decide +kernel
theorem d_St_joinOn_41 : decode b_St_joinOn 41 = .ok (.aload_n 0, 1) := by decide +kernel
theorem d_St_joinOn_42 : decode b_St_joinOn 42 = .ok (.getfield 113, 3) := by decide +kernel
theorem d_St_joinOn_45 : decode b_St_joinOn 45 = .ok (.getfield 255, 3) := by decide +kernel
theorem d_St_joinOn_48 : decode b_St_joinOn 48 = .ok (.invokestatic 279, 3) := by decide +kernel
theorem d_St_joinOn_51 : decode b_St_joinOn 51 = .ok (.ifCond .ne 49, 3) := by decide +kernel
theorem d_St_joinOn_54 : decode b_St_joinOn 54 = .ok (.aload_n 0, 1) := by decide +kernel
theorem d_St_joinOn_55 : decode b_St_joinOn 55 = .ok (.bipush 15, 2) := by decide +kernel
theorem d_St_joinOn_57 : decode b_St_joinOn 57 = .ok (.aload_n 0, 1) := by decide +kernel
theorem d_St_joinOn_58 : decode b_St_joinOn 58 = .ok (.iload_n 1, 1) := by decide +kernel
theorem d_St_joinOn_59 : decode b_St_joinOn 59 = .ok (.invokevirtual 77, 3) := by decide +kernel
theorem d_St_joinOn_62 : decode b_St_joinOn 62 = .ok (.aload_n 0, 1) := by decide +kernel
theorem d_St_joinOn_63 : decode b_St_joinOn 63 = .ok (.iload_n 1, 1) := by decide +kernel
theorem d_St_joinOn_64 : decode b_St_joinOn 64 = .ok (.invokevirtual 80, 3) := by decide +kernel
theorem d_St_joinOn_67 : decode b_St_joinOn 67 = .ok (.aload_n 0, 1) := by decide +kernel
theorem d_St_joinOn_68 : decode b_St_joinOn 68 = .ok (.getfield 113, 3) := by decide +kernel
theorem d_St_joinOn_71 : decode b_St_joinOn 71 = .ok (.getfield 255, 3) := by decide +kernel
theorem d_St_joinOn_74 : decode b_St_joinOn 74 = .ok (.aload_n 0, 1) := by decide +kernel
theorem d_St_joinOn_75 : decode b_St_joinOn 75 = .ok (.getfield 113, 3) := by decide +kernel
theorem d_St_joinOn_78 : decode b_St_joinOn 78 = .ok (.getfield 258, 3) := by decide +kernel
theorem d_St_joinOn_81 : decode b_St_joinOn 81 = .ok (.invokevirtual 225, 3) := by decide +kernel
theorem d_St_joinOn_84 : decode b_St_joinOn 84 = .ok (.ifCond .ne 11, 3) := by decide +kernel
theorem d_St_joinOn_87 : decode b_St_joinOn 87 = .ok (.aload_n 0, 1) := by decide +kernel
theorem d_St_joinOn_88 : decode b_St_joinOn 88 = .ok (.getfield 9, 3) := by decide +kernel
theorem d_St_joinOn_91 : decode b_St_joinOn 91 = .ok (.iconst 3, 1) := by decide +kernel
theorem d_St_joinOn_92 : decode b_St_joinOn 92 = .ok (.invokevirtual 193, 3) := by decide +kernel
theorem d_St_joinOn_95 : decode b_St_joinOn 95 = .ok (.aload_n 0, 1) := by decide +kernel
theorem d_St_joinOn_96 : decode b_St_joinOn 96 = .ok (.invokevirtual 282, 3) := by decide +kernel
theorem d_St_joinOn_99 : decode b_St_joinOn 99 = .ok (.return_, 1) := by decide +kernel
theorem d_St_joinOn_100 : decode b_St_joinOn 100 = .ok (.aload_n 0, 1) := by decide +kernel
theorem d_St_joinOn_101 : decode b_St_joinOn 101 = .ok (.aload_n 0, 1) := by decide +kernel
theorem d_St_joinOn_102 : decode b_St_joinOn 102 = .ok (.iload_n 1, 1) := by decide +kernel
theorem d_St_joinOn_103 : decode b_St_joinOn 103 = .ok (.invokevirtual 77, 3) := by decide +kernel
theorem d_St_joinOn_106 : decode b_St_joinOn 106 = .ok (.aload_n 0, 1) := by decide +kernel
theorem d_St_joinOn_107 : decode b_St_joinOn 107 = .ok (.iload_n 1, 1) := by decide +kernel
theorem d_St_joinOn_108 : decode b_St_joinOn 108 = .ok (.invokevirtual 80, 3) := by decide +kernel
theorem d_St_joinOn_111 : decode b_St_joinOn 111 = .ok (.invokevirtual 285, 3) := by decide +kernel
theorem d_St_joinOn_114 : decode b_St_joinOn 114 = .ok (.istore_n 2, 1) := by decide +kernel
theorem d_St_joinOn_115 : decode b_St_joinOn 115 = .ok (.iload_n 2, 1) := by decide +kernel
theorem d_St_joinOn_116 : decode b_St_joinOn 116 = .ok (.ifCond .ge 13, 3) := by decide +kernel
theorem d_St_joinOn_119 : decode b_St_joinOn 119 = .ok (.aload_n 0, 1) := by decide +kernel
theorem d_St_joinOn_120 : decode b_St_joinOn 120 = .ok (.getfield 9, 3) := by decide +kernel
theorem d_St_joinOn_123 : decode b_St_joinOn 123 = .ok (.iload_n 2, 1) := by decide +kernel
theorem d_St_joinOn_124 : decode b_St_joinOn 124 = .ok (.ineg, 1) := by decide +kernel
theorem d_St_joinOn_125 : decode b_St_joinOn 125 = .ok (.invokevirtual 193, 3) := by decide +kernel
theorem d_St_joinOn_128 : decode b_St_joinOn 128 = .ok (.return_, 1) := by decide +kernel
theorem d_St_joinOn_129 : decode b_St_joinOn 129 = .ok (.aload_n 0, 1) := by decide +kernel
theorem d_St_joinOn_130 : decode b_St_joinOn 130 = .ok (.getfield 113, 3) := by decide +kernel
theorem d_St_joinOn_133 : decode b_St_joinOn 133 = .ok (.iconst 4, 1) := by decide +kernel
theorem d_St_joinOn_134 : decode b_St_joinOn 134 = .ok (.putfield 255, 3) := by decide +kernel
theorem d_St_joinOn_137 : decode b_St_joinOn 137 = .ok (.aload_n 0, 1) := by decide +kernel
theorem d_St_joinOn_138 : decode b_St_joinOn 138 = .ok (.getfield 113, 3) := by decide +kernel
theorem d_St_joinOn_141 : decode b_St_joinOn 141 = .ok (.iload_n 2, 1) := by decide +kernel
theorem d_St_joinOn_142 : decode b_St_joinOn 142 = .ok (.i2l, 1) := by decide +kernel
theorem d_St_joinOn_143 : decode b_St_joinOn 143 = .ok (.putfield 258, 3) := by decide +kernel
theorem d_St_joinOn_146 : decode b_St_joinOn 146 = .ok (.iinc 1 (-1), 3) := by decide +kernel
theorem d_St_joinOn_149 : decode b_St_joinOn 149 = .ok (.goto (-137), 3) := by decide +kernel
theorem d_St_joinOn_152 : decode b_St_joinOn 152 = .ok (.aload_n 0, 1) := by decide +kernel
theorem d_St_joinOn_153 : decode b_St_joinOn 153 = .ok (.aload_n 0, 1) := by decide +kernel
theorem d_St_joinOn_154 : decode b_St_joinOn 154 = .ok (.getfield 57, 3) := by decide +kernel
theorem d_St_joinOn_157 : decode b_St_joinOn 157 = .ok (.aload_n 0, 1) := by decide +kernel
theorem d_St_joinOn_158 : decode b_St_joinOn 158 = .ok (.getfield 113, 3) := by decide +kernel
theorem d_St_joinOn_161 : decode b_St_joinOn 161 = .ok (.getfield 255, 3) := by decide +kernel
theorem d_St_joinOn_164 : decode b_St_joinOn 164 = .ok (.aload_n 0, 1) := by decide +kernel
theorem d_St_joinOn_165 : decode b_St_joinOn 165 = .ok (.getfield 113, 3) := by decide +kernel
theorem d_St_joinOn_168 : decode b_St_joinOn 168 = .ok (.getfield 258, 3) := by decide +kernel
theorem d_St_joinOn_171 : decode b_St_joinOn 171 = .ok (.invokevirtual 176, 3) := by decide +kernel
theorem d_St_joinOn_174 : decode b_St_joinOn 174 = .ok (.aload_n 0, 1) := by decide +kernel
theorem d_St_joinOn_175 : decode b_St_joinOn 175 = .ok (.invokevirtual 282, 3) := by decide +kernel
theorem d_St_joinOn_178 : decode b_St_joinOn 178 = .ok (.aload_n 0, 1) := by decide +kernel
theorem d_St_joinOn_179 : decode b_St_joinOn 179 = .ok (.getfield 9, 3) := by decide +kernel
theorem d_St_joinOn_182 : decode b_St_joinOn 182 = .ok (.iconst 0, 1) := by decide +kernel
theorem d_St_joinOn_183 : decode b_St_joinOn 183 = .ok (.putfield 265, 3) := by decide +kernel
theorem d_St_joinOn_186 : decode b_St_joinOn 186 = .ok (.return_, 1) := by decide +kernel
theorem kw_1577 : Cond.methodLink R_St 279 y_St_isText ∈ wA := kinm (show _ ∈ tables_1 from (List.mem_append_right _ (List.mem_append_right _ (List.mem_append_right _ (List.mem_append_right _ (List.mem_append_right _ (List.mem_append_right _ (List.mem_append_right _ (List.mem_append_right _ (List.mem_append_left _ (List.mem_of_getElem? (l := tables_1_9) (i := 9) (by decide +kernel)))))))))))) (by decide +kernel)
theorem kw_1578 : Cond.methodLink R_St 285 y_St_joined ∈ wA := kinm (show _ ∈ tables_1 from (List.mem_append_right _ (List.mem_append_right _ (List.mem_append_right _ (List.mem_append_right _ (List.mem_append_right _ (List.mem_append_right _ (List.mem_append_right _ (List.mem_append_right _ (List.mem_append_left _ (List.mem_of_getElem? (l := tables_1_9) (i := 16) (by decide +kernel)))))))))))) (by decide +kernel)
theorem kw_1579 : Cond.methodLink R_St 282 y_St_forgetJoined ∈ wA := kinm (show _ ∈ tables_1 from (List.mem_append_right _ (List.mem_append_right _ (List.mem_append_right _ (List.mem_append_right _ (List.mem_append_right _ (List.mem_append_right _ (List.mem_append_right _ (List.mem_append_right _ (List.mem_append_left _ (List.mem_of_getElem? (l := tables_1_9) (i := 12) (by decide +kernel)))))))))))) (by decide +kernel)
theorem kw_1580 : Cond.instanceMethod y_St_joinOn ∈ wA := kinm (show _ ∈ tables_1 from (List.mem_append_right _ (List.mem_append_right _ (List.mem_append_right _ (List.mem_append_right _ (List.mem_append_right _ (List.mem_append_right _ (List.mem_append_right _ (List.mem_append_right _ (List.mem_append_left _ (List.mem_of_getElem? (l := tables_1_9) (i := 6) (by decide +kernel)))))))))))) (by decide +kernel)
theorem kw_1581 : Cond.selects R_St y_St_joinOn y_St_joinOn ∈ wA := kinm (show _ ∈ tables_1 from (List.mem_append_right _ (List.mem_append_right _ (List.mem_append_right _ (List.mem_append_right _ (List.mem_append_right _ (List.mem_append_right _ (List.mem_append_right _ (List.mem_append_right _ (List.mem_append_left _ (List.mem_of_getElem? (l := tables_1_9) (i := 7) (by decide +kernel)))))))))))) (by decide +kernel)
theorem cv_St_joinOn : CV y_St_joinOn b_St_joinOn 3 none 0 := ⟨kw_1580, kw_1581, kw_883, k_St_joinOn, by decide +kernel⟩
theorem lp_St_joinOn_L12 {X : Cx} {q0 : PL} (g : Gd X y_St_joinOn b_St_joinOn 3 none 6 147 R_St) (x : Int32 × (Nat × Nat)) (s : S1) (o : ((Int32 × (Nat × Nat)) ⊕ ((Int32 × (Nat × Nat)) ⊕ (Int32 × (Nat × Nat)) ⊕ ((Nat × Nat)))) × S1) (h : M_St_joinOn_L12 x s = some o) (hR : (Sum.elim (fun y : Int32 × (Nat × Nat) => ∀ q : PL, Exq (xP X) [118, 146, 154] q0 q → Rmq (xP X) q y.2 → ∀ ls : Array Slot, lv_has ls 3 [(0, .ref (q.1 129 0)), (1, .int y.1)] → WW X q o.2 12 ls []) (Sum.elim (fun y : Int32 × (Nat × Nat) => ∀ q : PL, Exq (xP X) [118, 146, 154] q0 q → Rmq (xP X) q y.2 → ∀ ls : Array Slot, lv_has ls 3 [(0, .ref (q.1 129 0)), (1, .int y.1)] → WW X q o.2 54 ls []) (Sum.elim (fun y : Int32 × (Nat × Nat) => ∀ q : PL, Exq (xP X) [118, 146, 154] q0 q → Rmq (xP X) q y.2 → ∀ ls : Array Slot, lv_has ls 3 [(0, .ref (q.1 129 0)), (2, .int y.1)] → WW X q o.2 119 ls []) (fun y : (Nat × Nat) => ∀ q : PL, Exq (xP X) [118, 146, 154] q0 q → Rmq (xP X) q y → ∀ ls : Array Slot, lv_has ls 3 [(0, .ref (q.1 129 0))] → WW X q o.2 152 ls []))) o.1)) : ∀ q : PL, Exq (xP X) [118, 146, 154] q0 q → Rmq (xP X) q x.2 → ∀ ls : Array Slot, lv_has ls 3 [(0, .ref (q.1 129 0)), (1, .int x.1)] → WW X q s 12 ls [] := by
  intro q hx0 hm ls hl
  unfold M_St_joinOn_L12 at h
  refine ww_iload_n (pc := 12) g.1 d_St_joinOn_12 rfl (lv_at hl 1 rfl) ?_
  refine ww_aload_n (pc := 13) g.1 d_St_joinOn_13 rfl (lv_at hl 0 rfl) ?_
  refine ww_gI (pc := 14) g (k := 10) cl_St (pz rfl (by decide)) (by decide) (Or.inl kw_878) (f := 16522) rfl rfl d_St_joinOn_14 h fun v14 h => ?_
  refine ww_icmp_lt (pc := 17) (tgt := 152) g.1 d_St_joinOn_17 (by decide) h (fun c h => ?_) (fun c h => ?_)
  · rw [oR_eq h] at hR
    exact hR q hx0 hm ls (lv_sub hl [0] rfl)
  · refine ww_aload_n (pc := 20) g.1 d_St_joinOn_20 rfl (lv_at hl 0 rfl) ?_
    refine ww_gV (pc := 21) g (k := 5) cl_St (pz rfl (by decide)) (by decide) (Or.inl kw_867) (f := 16517) (t := 152) rfl rfl rfl d_St_joinOn_21 h fun v21 h => ?_
    refine ww_pr h fun pn21 h => ?_
    refine ww_nnP pn21 ?_
    refine ww_iload_n (pc := 24) g.1 d_St_joinOn_24 rfl (lv_at hl 1 rfl) ?_
    refine ww_iconst (pc := 25) g.1 (v := 1) d_St_joinOn_25 (by decide) ?_
    refine ww_isub (pc := 26) g.1 d_St_joinOn_26 ?_
    refine ww_pI (pc := 27) g (k := 8) cl_Fm pn21 (by decide) (Or.inl kw_1381) rfl (f := 19464) rfl rfl rfl rfl d_St_joinOn_27 h fun s hs h => ?_
    refine ww_aload_n (pc := 30) g.1 d_St_joinOn_30 rfl (lv_at hl 0 rfl) ?_
    refine ww_iload_n (pc := 31) g.1 d_St_joinOn_31 rfl (lv_at hl 1 rfl) ?_
    obtain ⟨v32, s, hc32, h⟩ := oB_of h
    refine ww_callV (pc := 32) (rest := []) g cv_St_kindOf (Or.inl kw_914) cl_St (pz rfl (by decide)) (ct_St_kindOf hc32) ⟨by decide, by decide⟩ rfl hl.1 (Nat.le_of_ble_eq_true rfl) d_St_joinOn_32 rfl (?_)
    refine ww_st (st' := [.int v32]) rfl ?_
    obtain ⟨v35, s, hc35, h⟩ := oB_of h
    refine ww_callS (pc := 35) (rest := []) g cs_St_isText (Or.inl kw_1577) (ct_St_isText hc35) ⟨by decide, by decide⟩ rfl hl.1 (Nat.le_of_ble_eq_true rfl) d_St_joinOn_35 rfl (?_)
    refine ww_st (st' := [.int v35]) rfl ?_
    refine ww_if_eq (pc := 38) (tgt := 54) g.1 d_St_joinOn_38 (by decide) h (fun c h => ?_) (fun c h => ?_)
    · rw [oR_eq h] at hR
      exact hR q hx0 hm ls (lv_sub hl [0, 1] rfl)
    · refine ww_aload_n (pc := 41) g.1 d_St_joinOn_41 rfl (lv_at hl 0 rfl) ?_
      refine ww_gV (pc := 42) g (k := 5) cl_St (pz rfl (by decide)) (by decide) (Or.inl kw_867) (f := 16517) (t := 152) rfl rfl rfl d_St_joinOn_42 h fun v42 h => ?_
      refine ww_pr h fun pn42 h => ?_
      refine ww_nnP pn42 ?_
      refine ww_gI (pc := 45) g (k := 6) cl_Fm pn42 (by decide) (Or.inl kw_1013) (f := 19462) rfl rfl d_St_joinOn_45 h fun v45 h => ?_
      obtain ⟨v48, s, hc48, h⟩ := oB_of h
      refine ww_callS (pc := 48) (rest := []) g cs_St_isText (Or.inl kw_1577) (ct_St_isText hc48) ⟨by decide, by decide⟩ rfl hl.1 (Nat.le_of_ble_eq_true rfl) d_St_joinOn_48 rfl (?_)
      refine ww_st (st' := [.int v48]) rfl ?_
      refine ww_if_ne (pc := 51) (tgt := 100) g.1 d_St_joinOn_51 (by decide) h (fun c h => ?_) (fun c h => ?_)
      · refine ww_aload_n (pc := 100) g.1 d_St_joinOn_100 rfl (lv_at hl 0 rfl) ?_
        refine ww_aload_n (pc := 101) g.1 d_St_joinOn_101 rfl (lv_at hl 0 rfl) ?_
        refine ww_iload_n (pc := 102) g.1 d_St_joinOn_102 rfl (lv_at hl 1 rfl) ?_
        obtain ⟨v103, s, hc103, h⟩ := oB_of h
        refine ww_callV (pc := 103) (rest := [.ref (q.1 129 0)]) g cv_St_kindOf (Or.inl kw_914) cl_St (pz rfl (by decide)) (ct_St_kindOf hc103) ⟨by decide, by decide⟩ rfl hl.1 (Nat.le_of_ble_eq_true rfl) d_St_joinOn_103 rfl (?_)
        refine ww_st (st' := [.int v103, .ref (q.1 129 0)]) rfl ?_
        refine ww_aload_n (pc := 106) g.1 d_St_joinOn_106 rfl (lv_at hl 0 rfl) ?_
        refine ww_iload_n (pc := 107) g.1 d_St_joinOn_107 rfl (lv_at hl 1 rfl) ?_
        obtain ⟨v108, s, hc108, h⟩ := oB_of h
        refine ww_callV (pc := 108) (rest := [.int v103, .ref (q.1 129 0)]) g cv_St_valueOf (Or.inl kw_1120) cl_St (pz rfl (by decide)) (ct_St_valueOf hc108) ⟨by decide, by decide⟩ rfl hl.1 (Nat.le_of_ble_eq_true rfl) d_St_joinOn_108 rfl (?_)
        refine ww_st (st' := [.long v108, .int v103, .ref (q.1 129 0)]) rfl ?_
        refine ww_lo fun dlo => ?_
        obtain ⟨v111, s, hc111, h⟩ := oB_of h
        refine ww_callVX (pc := 111) (rest := []) g cv_St_joined (Or.inl kw_1578) cl_St (pz rfl (by decide)) (ct_St_joined hm hc111) ⟨by decide, by decide⟩ rfl hl.1 (Nat.le_of_ble_eq_true rfl) d_St_joinOn_111 rfl (fun q111 hE hm => ?_)
        have ex111_0 : q111.1 129 0 = q.1 129 0 := hE _ _ (by decide) (dlo _ _ (pz rfl (by decide)))
        have hl : lv_has ls 3 [(0, .ref (q111.1 129 0)), (1, .int x.1)] := by rw [ex111_0]; exact hl
        refine ww_st (st' := [.int v111.1]) (by rfl) ?_
        have hx0 : Exq (xP X) [118, 146, 154] _ q111 := hx0.tr (hE.sub (by decide))
        refine ww_istore_n (pc := 114) (i := 2) g.1 (lv' := [(2, .int v111.1), (0, .ref (q111.1 129 0)), (1, .int x.1)]) d_St_joinOn_114 rfl hl (by decide) rfl fun ls hl => ?_
        refine ww_iload_n (pc := 115) g.1 d_St_joinOn_115 rfl (lv_at hl 0 rfl) ?_
        refine ww_if_ge (pc := 116) (tgt := 129) g.1 d_St_joinOn_116 (by decide) h (fun c h => ?_) (fun c h => ?_)
        · refine ww_aload_n (pc := 129) g.1 d_St_joinOn_129 rfl (lv_at hl 1 rfl) ?_
          refine ww_gV (pc := 130) g (k := 5) cl_St (pz rfl (by decide)) (by decide) (Or.inl kw_867) (f := 16517) (t := 152) rfl rfl rfl d_St_joinOn_130 h fun v130 h => ?_
          refine ww_pr h fun pn130 h => ?_
          refine ww_nnP pn130 ?_
          refine ww_iconst (pc := 133) g.1 (v := 4) d_St_joinOn_133 (by decide) ?_
          refine ww_pI (pc := 134) g (k := 6) cl_Fm pn130 (by decide) (Or.inl kw_1013) rfl (f := 19462) rfl rfl rfl rfl d_St_joinOn_134 h fun s hs h => ?_
          refine ww_aload_n (pc := 137) g.1 d_St_joinOn_137 rfl (lv_at hl 1 rfl) ?_
          refine ww_gV (pc := 138) g (k := 5) cl_St (pz rfl (by decide)) (by decide) (Or.inl kw_867) (f := 16517) (t := 152) rfl rfl rfl d_St_joinOn_138 h fun v138 h => ?_
          refine ww_pr h fun pn138 h => ?_
          refine ww_nnP pn138 ?_
          refine ww_iload_n (pc := 141) g.1 d_St_joinOn_141 rfl (lv_at hl 0 rfl) ?_
          refine ww_i2l (pc := 142) g.1 (v := v111.1.toInt64) d_St_joinOn_142 rfl ?_
          refine ww_pL (pc := 143) g (k := 7) cl_Fm pn138 (by decide) (Or.inl kw_1014) rfl (f := 19463) rfl rfl rfl rfl d_St_joinOn_143 h fun s hs h => ?_
          refine ww_iinc (pc := 146) g.1 (v := x.1 + (-1)) (lv' := [(1, .int (x.1 + (-1))), (2, .int v111.1), (0, .ref (q111.1 129 0))]) d_St_joinOn_146 hl (k := 2) rfl (by rfl) (by decide) rfl fun ls hl => ?_
          refine ww_goto (pc := 149) (tgt := 12) g.1 d_St_joinOn_149 (by decide) ?_
          rw [oR_eq h] at hR
          exact hR q111 hx0 hm ls (lv_sub hl [2, 0] rfl)
        · rw [oR_eq h] at hR
          exact hR q111 hx0 hm ls (lv_sub hl [1, 0] rfl)
      · rw [oR_eq h] at hR
        exact hR q hx0 hm ls (lv_sub hl [0, 1] rfl)

theorem j_St_joinOn_j95 {X : Cx} {q0 q : PL} (g : Gd X y_St_joinOn b_St_joinOn 3 none 6 147 R_St) {o : (Unit × (Nat × Nat)) × S1} (hR : RtX X [118, 146, 154] q0 o.1.2 o.2 (fun _ => none)) (hx0 : Exq (xP X) [118, 146, 154] q0 q) (ln : Nat × Nat) (hm : Rmq (xP X) q ln) (s : S1) (ls : Array Slot) (hl : lv_has ls 3 [(0, .ref (q.1 129 0))]) (h : M_St_joinOn_j95 ln s = some o) : WW X q s 95 ls [] := by
  unfold M_St_joinOn_j95 at h
  refine ww_aload_n (pc := 95) g.1 d_St_joinOn_95 rfl (lv_at hl 0 rfl) ?_
  obtain ⟨v96, s, hc96, h⟩ := oB_of h
  refine ww_callV (pc := 96) (rest := []) g cv_St_forgetJoined (Or.inl kw_1579) cl_St (pz rfl (by decide)) (ct_St_forgetJoined hc96) ⟨by decide, by decide⟩ rfl hl.1 (Nat.le_of_ble_eq_true rfl) d_St_joinOn_96 rfl (?_)
  refine ww_st (st' := []) rfl ?_
  exact ww_vretX (pc := 99) g h hR hx0 hm d_St_joinOn_99

theorem j_St_joinOn_j54 {X : Cx} {q0 q : PL} (g : Gd X y_St_joinOn b_St_joinOn 3 none 6 147 R_St) {o : (Unit × (Nat × Nat)) × S1} (hR : RtX X [118, 146, 154] q0 o.1.2 o.2 (fun _ => none)) (hx0 : Exq (xP X) [118, 146, 154] q0 q) (l1 : Int32) (ln : Nat × Nat) (hm : Rmq (xP X) q ln) (s : S1) (ls : Array Slot) (hl : lv_has ls 3 [(0, .ref (q.1 129 0)), (1, .int l1)]) (h : M_St_joinOn_j54 l1 ln s = some o) : WW X q s 54 ls [] := by
  unfold M_St_joinOn_j54 at h
  refine ww_aload_n (pc := 54) g.1 d_St_joinOn_54 rfl (lv_at hl 0 rfl) ?_
  refine ww_bipush (pc := 55) g.1 (v := 15) d_St_joinOn_55 (by decide) ?_
  refine ww_aload_n (pc := 57) g.1 d_St_joinOn_57 rfl (lv_at hl 0 rfl) ?_
  refine ww_iload_n (pc := 58) g.1 d_St_joinOn_58 rfl (lv_at hl 1 rfl) ?_
  obtain ⟨v59, s, hc59, h⟩ := oB_of h
  refine ww_callV (pc := 59) (rest := [.int 15, .ref (q.1 129 0)]) g cv_St_kindOf (Or.inl kw_914) cl_St (pz rfl (by decide)) (ct_St_kindOf hc59) ⟨by decide, by decide⟩ rfl hl.1 (Nat.le_of_ble_eq_true rfl) d_St_joinOn_59 rfl (?_)
  refine ww_st (st' := [.int v59, .int 15, .ref (q.1 129 0)]) rfl ?_
  refine ww_aload_n (pc := 62) g.1 d_St_joinOn_62 rfl (lv_at hl 0 rfl) ?_
  refine ww_iload_n (pc := 63) g.1 d_St_joinOn_63 rfl (lv_at hl 1 rfl) ?_
  obtain ⟨v64, s, hc64, h⟩ := oB_of h
  refine ww_callV (pc := 64) (rest := [.int v59, .int 15, .ref (q.1 129 0)]) g cv_St_valueOf (Or.inl kw_1120) cl_St (pz rfl (by decide)) (ct_St_valueOf hc64) ⟨by decide, by decide⟩ rfl hl.1 (Nat.le_of_ble_eq_true rfl) d_St_joinOn_64 rfl (?_)
  refine ww_st (st' := [.long v64, .int v59, .int 15, .ref (q.1 129 0)]) rfl ?_
  refine ww_aload_n (pc := 67) g.1 d_St_joinOn_67 rfl (lv_at hl 0 rfl) ?_
  refine ww_gV (pc := 68) g (k := 5) cl_St (pz rfl (by decide)) (by decide) (Or.inl kw_867) (f := 16517) (t := 152) rfl rfl rfl d_St_joinOn_68 h fun v68 h => ?_
  refine ww_pr h fun pn68 h => ?_
  refine ww_nnP pn68 ?_
  refine ww_gI (pc := 71) g (k := 6) cl_Fm pn68 (by decide) (Or.inl kw_1013) (f := 19462) rfl rfl d_St_joinOn_71 h fun v71 h => ?_
  refine ww_aload_n (pc := 74) g.1 d_St_joinOn_74 rfl (lv_at hl 0 rfl) ?_
  refine ww_gV (pc := 75) g (k := 5) cl_St (pz rfl (by decide)) (by decide) (Or.inl kw_867) (f := 16517) (t := 152) rfl rfl rfl d_St_joinOn_75 h fun v75 h => ?_
  refine ww_pr h fun pn75 h => ?_
  refine ww_nnP pn75 ?_
  refine ww_gL (pc := 78) g (k := 7) cl_Fm pn75 (by decide) (Or.inl kw_1014) (f := 19463) rfl rfl d_St_joinOn_78 h fun v78 h => ?_
  obtain ⟨v81, s, hc81, h⟩ := oB_of h
  refine ww_callV (pc := 81) (rest := []) g cv_St_callsEither (Or.inl kw_1122) cl_St (pz rfl (by decide)) (ct_St_callsEither hc81) ⟨by decide, by decide⟩ rfl hl.1 (Nat.le_of_ble_eq_true rfl) d_St_joinOn_81 rfl (?_)
  refine ww_st (st' := [.int v81]) rfl ?_
  refine ww_if_ne (pc := 84) (tgt := 95) g.1 d_St_joinOn_84 (by decide) h (fun c h => ?_) (fun c h => ?_)
  · exact j_St_joinOn_j95 g hR hx0 ln hm s ls (lv_sub hl [0] rfl) h
  · refine ww_aload_n (pc := 87) g.1 d_St_joinOn_87 rfl (lv_at hl 0 rfl) ?_
    refine ww_gR (pc := 88) g (k := 0) cl_St (pz rfl (by decide)) (by decide) (Or.inl kw_863) (f := 16512) (t := 128) rfl rfl rfl d_St_joinOn_88 ?_
    refine ww_iconst (pc := 91) g.1 (v := 3) d_St_joinOn_91 (by decide) ?_
    obtain ⟨v92, s, hc92, h⟩ := oB_of h
    refine ww_callV (pc := 92) (rest := []) g cv_Ma_fail (Or.inl kw_1106) cl_Ma (pz rfl (by decide)) (ct_Ma_fail hc92) ⟨by decide, by decide⟩ rfl hl.1 (Nat.le_of_ble_eq_true rfl) d_St_joinOn_92 rfl (?_)
    refine ww_st (st' := []) rfl ?_
    exact j_St_joinOn_j95 g hR hx0 ln hm s ls (lv_sub hl [0] rfl) h

theorem ct_St_joinOn {l : Launch} {P : PP} {q : PL} {s s' : S1} {n0 n1 : Nat × Nat}  {r : Unit} (hm : Rmq P q n0) (h : M_St_joinOn n0 s = some ((r, n1), s')) : CtX l y_St_joinOn b_St_joinOn 3 none 6 147 P [118, 146, 154] q s [.ref (q.1 129 0)] (fun _ => none) n1 s' := by
  refine ctX_of (by decide) (Nat.le_of_ble_eq_true rfl) fun X ls eP el g hR hl => ?_
  subst eP
  obtain ⟨q0, hq0⟩ : ∃ q0 : PL, q0 = q := ⟨q, rfl⟩
  have hx0 : Exq (xP X) [118, 146, 154] q0 q := hq0 ▸ Exq.rf
  rw [← hq0] at hR
  have hR : RtX X [118, 146, 154] q0 (((r, n1), s') : (Unit × (Nat × Nat)) × S1).1.2 (((r, n1), s') : (Unit × (Nat × Nat)) × S1).2 (fun _ => none) := hR
  have hl : lv_has ls 3 [(0, .ref (q.1 129 0))] := hl
  generalize ((r, n1), s') = o at h hR
  unfold M_St_joinOn at h
  refine ww_aload_n (pc := 0) g.1 d_St_joinOn_0 rfl (lv_at hl 0 rfl) ?_
  obtain ⟨v1, s, hc1, h⟩ := oB_of h
  refine ww_callV (pc := 1) (rest := []) g cv_St_decode (Or.inl kw_1205) cl_St (pz rfl (by decide)) (ct_St_decode hc1) ⟨by decide, by decide⟩ rfl hl.1 (Nat.le_of_ble_eq_true rfl) d_St_joinOn_1 rfl (?_)
  refine ww_st (st' := []) rfl ?_
  refine ww_aload_n (pc := 4) g.1 d_St_joinOn_4 rfl (lv_at hl 0 rfl) ?_
  refine ww_gV (pc := 5) g (k := 5) cl_St (pz rfl (by decide)) (by decide) (Or.inl kw_867) (f := 16517) (t := 152) rfl rfl rfl d_St_joinOn_5 h fun v5 h => ?_
  refine ww_pr h fun pn5 h => ?_
  refine ww_nnP pn5 ?_
  refine ww_gI (pc := 8) g (k := 8) cl_Fm pn5 (by decide) (Or.inl kw_1381) (f := 19464) rfl rfl d_St_joinOn_8 h fun v8 h => ?_
  refine ww_istore_n (pc := 11) (i := 1) g.1 (lv' := [(1, .int v8), (0, .ref (q.1 129 0))]) d_St_joinOn_11 rfl hl (by decide) rfl fun ls hl => ?_
  obtain ⟨e12, s1, hw, h⟩ := oB_of h
  refine oW_rule (Wh := fun (x : Int32 × (Nat × Nat)) (s : S1) => ∀ q : PL, Exq (xP X) [118, 146, 154] q0 q → Rmq (xP X) q x.2 → ∀ ls : Array Slot, lv_has ls 3 [(0, .ref (q.1 129 0)), (1, .int x.1)] → WW X q s 12 ls []) (We := fun (e : (Int32 × (Nat × Nat)) ⊕ (Int32 × (Nat × Nat)) ⊕ ((Nat × Nat))) (s : S1) => (Sum.elim (fun y : Int32 × (Nat × Nat) => ∀ q : PL, Exq (xP X) [118, 146, 154] q0 q → Rmq (xP X) q y.2 → ∀ ls : Array Slot, lv_has ls 3 [(0, .ref (q.1 129 0)), (1, .int y.1)] → WW X q s 54 ls []) (Sum.elim (fun y : Int32 × (Nat × Nat) => ∀ q : PL, Exq (xP X) [118, 146, 154] q0 q → Rmq (xP X) q y.2 → ∀ ls : Array Slot, lv_has ls 3 [(0, .ref (q.1 129 0)), (2, .int y.1)] → WW X q s 119 ls []) (fun y : (Nat × Nat) => ∀ q : PL, Exq (xP X) [118, 146, 154] q0 q → Rmq (xP X) q y → ∀ ls : Array Slot, lv_has ls 3 [(0, .ref (q.1 129 0))] → WW X q s 152 ls []))) e) (fun x s o hb hc => lp_St_joinOn_L12 (q0 := q0) g x s o hb hc) hw ?_ q hx0 hm ls (lv_sub hl [1, 0] rfl)
  clear hw hl hx0 hm
  clear ls
  generalize s1 = s at h ⊢
  rcases e12 with y12_54 | y12_119 | y12_152
  · intro qL12 hx0 hm ls hl
    dsimp only [Sum.elim_inl, Sum.elim_inr] at h
    exact j_St_joinOn_j54 g hR hx0 y12_54.1 y12_54.2 hm s ls (lv_sub hl [0, 1] rfl) h
  · intro qL12 hx0 hm ls hl
    dsimp only [Sum.elim_inl, Sum.elim_inr] at h
    refine ww_aload_n (pc := 119) g.1 d_St_joinOn_119 rfl (lv_at hl 0 rfl) ?_
    refine ww_gR (pc := 120) g (k := 0) cl_St (pz rfl (by decide)) (by decide) (Or.inl kw_863) (f := 16512) (t := 128) rfl rfl rfl d_St_joinOn_120 ?_
    refine ww_iload_n (pc := 123) g.1 d_St_joinOn_123 rfl (lv_at hl 1 rfl) ?_
    refine ww_ineg (pc := 124) g.1 d_St_joinOn_124 ?_
    obtain ⟨v125, s, hc125, h⟩ := oB_of h
    refine ww_callV (pc := 125) (rest := []) g cv_Ma_fail (Or.inl kw_1106) cl_Ma (pz rfl (by decide)) (ct_Ma_fail hc125) ⟨by decide, by decide⟩ rfl hl.1 (Nat.le_of_ble_eq_true rfl) d_St_joinOn_125 rfl (?_)
    refine ww_st (st' := []) rfl ?_
    exact ww_vretX (pc := 128) g h hR hx0 hm d_St_joinOn_128
  · intro qL12 hx0 hm ls hl
    dsimp only [Sum.elim_inl, Sum.elim_inr] at h
    refine ww_aload_n (pc := 152) g.1 d_St_joinOn_152 rfl (lv_at hl 0 rfl) ?_
    refine ww_aload_n (pc := 153) g.1 d_St_joinOn_153 rfl (lv_at hl 0 rfl) ?_
    refine ww_gI (pc := 154) g (k := 9) cl_St (pz rfl (by decide)) (by decide) (Or.inl kw_877) (f := 16521) rfl rfl d_St_joinOn_154 h fun v154 h => ?_
    refine ww_aload_n (pc := 157) g.1 d_St_joinOn_157 rfl (lv_at hl 0 rfl) ?_
    refine ww_gV (pc := 158) g (k := 5) cl_St (pz rfl (by decide)) (by decide) (Or.inl kw_867) (f := 16517) (t := 152) rfl rfl rfl d_St_joinOn_158 h fun v158 h => ?_
    refine ww_pr h fun pn158 h => ?_
    refine ww_nnP pn158 ?_
    refine ww_gI (pc := 161) g (k := 6) cl_Fm pn158 (by decide) (Or.inl kw_1013) (f := 19462) rfl rfl d_St_joinOn_161 h fun v161 h => ?_
    refine ww_aload_n (pc := 164) g.1 d_St_joinOn_164 rfl (lv_at hl 0 rfl) ?_
    refine ww_gV (pc := 165) g (k := 5) cl_St (pz rfl (by decide)) (by decide) (Or.inl kw_867) (f := 16517) (t := 152) rfl rfl rfl d_St_joinOn_165 h fun v165 h => ?_
    refine ww_pr h fun pn165 h => ?_
    refine ww_nnP pn165 ?_
    refine ww_gL (pc := 168) g (k := 7) cl_Fm pn165 (by decide) (Or.inl kw_1014) (f := 19463) rfl rfl d_St_joinOn_168 h fun v168 h => ?_
    obtain ⟨v171, s, hc171, h⟩ := oB_of h
    refine ww_callV (pc := 171) (rest := []) g cv_St_set (Or.inl kw_928) cl_St (pz rfl (by decide)) (ct_St_set hc171) ⟨by decide, by decide⟩ rfl hl.1 (Nat.le_of_ble_eq_true rfl) d_St_joinOn_171 rfl (?_)
    refine ww_st (st' := []) rfl ?_
    refine ww_aload_n (pc := 174) g.1 d_St_joinOn_174 rfl (lv_at hl 0 rfl) ?_
    obtain ⟨v175, s, hc175, h⟩ := oB_of h
    refine ww_callV (pc := 175) (rest := []) g cv_St_forgetJoined (Or.inl kw_1579) cl_St (pz rfl (by decide)) (ct_St_forgetJoined hc175) ⟨by decide, by decide⟩ rfl hl.1 (Nat.le_of_ble_eq_true rfl) d_St_joinOn_175 rfl (?_)
    refine ww_st (st' := []) rfl ?_
    refine ww_aload_n (pc := 178) g.1 d_St_joinOn_178 rfl (lv_at hl 0 rfl) ?_
    refine ww_gR (pc := 179) g (k := 0) cl_St (pz rfl (by decide)) (by decide) (Or.inl kw_863) (f := 16512) (t := 128) rfl rfl rfl d_St_joinOn_179 ?_
    refine ww_iconst (pc := 182) g.1 (v := 0) d_St_joinOn_182 (by decide) ?_
    refine ww_pI (pc := 183) g (k := 12) cl_Ma (pz rfl (by decide)) (by decide) (Or.inl kw_1206) rfl (f := 16396) rfl rfl rfl rfl d_St_joinOn_183 h fun s hs h => ?_
    exact ww_vretX (pc := 186) g h hR hx0 hm d_St_joinOn_186

abbrev b_Ma_boot : ByteArray := prog_7_method_2_code
def y_Ma_boot : MethodName := ⟨R_Ma, "boot", "()Z"⟩
abbrev w_Ma_boot : List Cond := .code y_Ma_boot b_Ma_boot 2 (some .boolean) :: wA
set_option maxRecDepth 20000 in
theorem k_Ma_boot : Cond.code y_Ma_boot b_Ma_boot 2 (some .boolean) ∈ wA := kinm (show _ ∈ tables_1 from (List.mem_append_right _ (List.mem_append_right _ (List.mem_append_right _ (List.mem_append_left _ (List.mem_of_getElem? (l := tables_1_4) (i := 73) rfl)))))) rfl
theorem d_Ma_boot_0 : decode b_Ma_boot 0 = .ok (.aload_n 0, 1) := by decide +kernel
theorem d_Ma_boot_1 : decode b_Ma_boot 1 = .ok (.getfield 31, 3) := by decide +kernel
theorem d_Ma_boot_4 : decode b_Ma_boot 4 = .ok (.invokevirtual 39, 3) := by decide +kernel
theorem d_Ma_boot_7 : decode b_Ma_boot 7 = .ok (.aload_n 0, 1) := by decide +kernel
theorem d_Ma_boot_8 : decode b_Ma_boot 8 = .ok (.getfield 35, 3) := by decide +kernel
theorem d_Ma_boot_11 : decode b_Ma_boot 11 = .ok (.invokevirtual 44, 3) := by decide +kernel
theorem d_Ma_boot_14 : decode b_Ma_boot 14 = .ok (.aload_n 0, 1) := by decide +kernel
theorem d_Ma_boot_15 : decode b_Ma_boot 15 = .ok (.getfield 31, 3) := by decide +kernel
theorem d_Ma_boot_18 : decode b_Ma_boot 18 = .ok (.iconst 1, 1) := by decide +kernel
theorem d_Ma_boot_19 : decode b_Ma_boot 19 = .ok (.putfield 47, 3) := by decide +kernel
theorem d_Ma_boot_22 : decode b_Ma_boot 22 = .ok (.aload_n 0, 1) := by decide +kernel
theorem d_Ma_boot_23 : decode b_Ma_boot 23 = .ok (.getfield 12, 3) := by decide +kernel
theorem d_Ma_boot_26 : decode b_Ma_boot 26 = .ok (.invokevirtual 51, 3) := by decide +kernel
theorem d_Ma_boot_29 : decode b_Ma_boot 29 = .ok (.aload_n 0, 1) := by decide +kernel
theorem d_Ma_boot_30 : decode b_Ma_boot 30 = .ok (.getfield 18, 3) := by decide +kernel
theorem d_Ma_boot_33 : decode b_Ma_boot 33 = .ok (.invokevirtual 51, 3) := by decide +kernel
theorem d_Ma_boot_36 : decode b_Ma_boot 36 = .ok (.aload_n 0, 1) := by decide +kernel
theorem d_Ma_boot_37 : decode b_Ma_boot 37 = .ok (.getfield 21, 3) := by decide +kernel
theorem d_Ma_boot_40 : decode b_Ma_boot 40 = .ok (.invokevirtual 51, 3) := by decide +kernel
theorem d_Ma_boot_43 : decode b_Ma_boot 43 = .ok (.aload_n 0, 1) := by decide +kernel
theorem d_Ma_boot_44 : decode b_Ma_boot 44 = .ok (.getfield 24, 3) := by decide +kernel
theorem d_Ma_boot_47 : decode b_Ma_boot 47 = .ok (.invokevirtual 51, 3) := by decide +kernel
theorem d_Ma_boot_50 : decode b_Ma_boot 50 = .ok (.aload_n 0, 1) := by decide +kernel
theorem d_Ma_boot_51 : decode b_Ma_boot 51 = .ok (.iconst 0, 1) := by decide +kernel
theorem d_Ma_boot_52 : decode b_Ma_boot 52 = .ok (.putfield 54, 3) := by decide +kernel
theorem d_Ma_boot_55 : decode b_Ma_boot 55 = .ok (.aload_n 0, 1) := by decide +kernel
theorem d_Ma_boot_56 : decode b_Ma_boot 56 = .ok (.iconst 0, 1) := by decide +kernel
theorem d_Ma_boot_57 : decode b_Ma_boot 57 = .ok (.putfield 58, 3) := by decide +kernel
theorem d_Ma_boot_60 : decode b_Ma_boot 60 = .ok (.aload_n 0, 1) := by decide +kernel
theorem d_Ma_boot_61 : decode b_Ma_boot 61 = .ok (.iconst 0, 1) := by decide +kernel
theorem d_Ma_boot_62 : decode b_Ma_boot 62 = .ok (.putfield 61, 3) := by decide +kernel
theorem d_Ma_boot_65 : decode b_Ma_boot 65 = .ok (.aload_n 0, 1) := by decide +kernel
theorem d_Ma_boot_66 : decode b_Ma_boot 66 = .ok (.aload_n 0, 1) := by decide +kernel
theorem d_Ma_boot_67 : decode b_Ma_boot 67 = .ok (.getfield 35, 3) := by decide +kernel
theorem d_Ma_boot_70 : decode b_Ma_boot 70 = .ok (.invokevirtual 64, 3) := by decide +kernel
theorem d_Ma_boot_73 : decode b_Ma_boot 73 = .ok (.putfield 68, 3) := by decide +kernel
theorem d_Ma_boot_76 : decode b_Ma_boot 76 = .ok (.aload_n 0, 1) := by decide +kernel
theorem d_Ma_boot_77 : decode b_Ma_boot 77 = .ok (.getfield 68, 3) := by decide +kernel
theorem d_Ma_boot_80 : decode b_Ma_boot 80 = .ok (.ifCond .lt 35, 3) := by decide +kernel
theorem d_Ma_boot_83 : decode b_Ma_boot 83 = .ok (.aload_n 0, 1) := by decide +kernel
theorem d_Ma_boot_84 : decode b_Ma_boot 84 = .ok (.ldc 71, 2) := by decide +kernel
theorem d_Ma_boot_86 : decode b_Ma_boot 86 = .ok (.iconst 0, 1) := by decide +kernel
theorem d_Ma_boot_87 : decode b_Ma_boot 87 = .ok (.invokevirtual 73, 3) := by decide +kernel
theorem d_Ma_boot_90 : decode b_Ma_boot 90 = .ok (.ifCond .eq 25, 3) := by decide +kernel
theorem d_Ma_boot_93 : decode b_Ma_boot 93 = .ok (.aload_n 0, 1) := by decide +kernel
theorem d_Ma_boot_94 : decode b_Ma_boot 94 = .ok (.ldc 77, 2) := by decide +kernel
theorem d_Ma_boot_96 : decode b_Ma_boot 96 = .ok (.bipush 24, 2) := by decide +kernel
theorem d_Ma_boot_98 : decode b_Ma_boot 98 = .ok (.invokevirtual 73, 3) := by decide +kernel
theorem d_Ma_boot_101 : decode b_Ma_boot 101 = .ok (.ifCond .eq 14, 3) := by decide +kernel
theorem d_Ma_boot_104 : decode b_Ma_boot 104 = .ok (.aload_n 0, 1) := by decide +kernel
theorem d_Ma_boot_105 : decode b_Ma_boot 105 = .ok (.ldc 79, 2) := by decide +kernel
theorem d_Ma_boot_107 : decode b_Ma_boot 107 = .ok (.bipush 46, 2) := by decide +kernel
theorem d_Ma_boot_109 : decode b_Ma_boot 109 = .ok (.invokevirtual 73, 3) := by decide +kernel
theorem d_Ma_boot_112 : decode b_Ma_boot 112 = .ok (.ifCond .ne 5, 3) := by decide +kernel
theorem d_Ma_boot_115 : decode b_Ma_boot 115 = .ok (.iconst 0, 1) := by decide +kernel
theorem d_Ma_boot_116 : decode b_Ma_boot 116 = .ok (.ireturn, 1) := by decide +kernel
theorem d_Ma_boot_117 : decode b_Ma_boot 117 = .ok (.aload_n 0, 1) := by decide +kernel
theorem d_Ma_boot_118 : decode b_Ma_boot 118 = .ok (.getfield 31, 3) := by decide +kernel
theorem d_Ma_boot_121 : decode b_Ma_boot 121 = .ok (.iconst 5, 1) := by decide +kernel
theorem d_Ma_boot_122 : decode b_Ma_boot 122 = .ok (.aload_n 0, 1) := by decide +kernel
theorem d_Ma_boot_123 : decode b_Ma_boot 123 = .ok (.getfield 68, 3) := by decide +kernel
theorem d_Ma_boot_126 : decode b_Ma_boot 126 = .ok (.i2l, 1) := by decide +kernel
theorem d_Ma_boot_127 : decode b_Ma_boot 127 = .ok (.invokevirtual 81, 3) := by decide +kernel
theorem d_Ma_boot_130 : decode b_Ma_boot 130 = .ok (.istore_n 1, 1) := by decide +kernel
theorem d_Ma_boot_131 : decode b_Ma_boot 131 = .ok (.iload_n 1, 1) := by decide +kernel
theorem d_Ma_boot_132 : decode b_Ma_boot 132 = .ok (.ifCond .lt 29, 3) := by decide +kernel
theorem d_Ma_boot_135 : decode b_Ma_boot 135 = .ok (.aload_n 0, 1) := by decide +kernel
theorem d_Ma_boot_136 : decode b_Ma_boot 136 = .ok (.invokevirtual 85, 3) := by decide +kernel
theorem d_Ma_boot_139 : decode b_Ma_boot 139 = .ok (.ifCond .eq 22, 3) := by decide +kernel
theorem d_Ma_boot_142 : decode b_Ma_boot 142 = .ok (.aload_n 0, 1) := by decide +kernel
theorem d_Ma_boot_143 : decode b_Ma_boot 143 = .ok (.invokevirtual 89, 3) := by decide +kernel
theorem d_Ma_boot_146 : decode b_Ma_boot 146 = .ok (.ifCond .eq 15, 3) := by decide +kernel
theorem d_Ma_boot_149 : decode b_Ma_boot 149 = .ok (.aload_n 0, 1) := by decide +kernel
theorem d_Ma_boot_150 : decode b_Ma_boot 150 = .ok (.iload_n 1, 1) := by decide +kernel
theorem d_Ma_boot_151 : decode b_Ma_boot 151 = .ok (.invokevirtual 92, 3) := by decide +kernel
theorem d_Ma_boot_154 : decode b_Ma_boot 154 = .ok (.ifCond .eq 7, 3) := by decide +kernel
theorem d_Ma_boot_157 : decode b_Ma_boot 157 = .ok (.iconst 1, 1) := by decide +kernel
theorem d_Ma_boot_158 : decode b_Ma_boot 158 = .ok (.goto 4, 3) := by decide +kernel
theorem d_Ma_boot_161 : decode b_Ma_boot 161 = .ok (.iconst 0, 1) := by decide +kernel
theorem d_Ma_boot_162 : decode b_Ma_boot 162 = .ok (.ireturn, 1) := by decide +kernel
theorem kw_1582 : Cond.methodLink R_Ma 39 y_He_restart ∈ wA := kinm (show _ ∈ tables_1 from (List.mem_append_right _ (List.mem_append_right _ (List.mem_append_right _ (List.mem_append_left _ (List.mem_of_getElem? (l := tables_1_4) (i := 74) (by decide +kernel))))))) (by decide +kernel)
theorem kw_1583 : Cond.methodLink R_Ma 44 y_Ta_restart ∈ wA := kinm (show _ ∈ tables_1 from (List.mem_append_right _ (List.mem_append_right _ (List.mem_append_right _ (List.mem_append_right _ (List.mem_append_left _ (List.mem_of_getElem? (l := tables_1_5) (i := 104) (by decide +kernel)))))))) (by decide +kernel)
theorem kw_1584 : Cond.fieldLink R_Ma 58 "LuaMachine$Machine" "stepCount" "I" ∈ wA := kinm (show _ ∈ tables_1 from (List.mem_append_right _ (List.mem_append_left _ (List.mem_of_getElem? (l := tables_1_2) (i := 75) (by decide +kernel))))) (by decide +kernel)
theorem kw_1585 : Cond.methodLink R_Ma 64 y_Ta_make ∈ wA := kinm (show _ ∈ tables_1 from (List.mem_append_right _ (List.mem_append_right _ (List.mem_append_right _ (List.mem_append_right _ (List.mem_append_left _ (List.mem_of_getElem? (l := tables_1_5) (i := 112) (by decide +kernel)))))))) (by decide +kernel)
theorem kw_1586 : Cond.methodLink R_Ma 73 y_Ma_internNames ∈ wA := kinm (show _ ∈ tables_1 from (List.mem_append_right _ (List.mem_append_right _ (List.mem_append_right _ (List.mem_append_right _ (List.mem_append_left _ (List.mem_of_getElem? (l := tables_1_5) (i := 237) (by decide +kernel)))))))) (by decide +kernel)
theorem kw_1587 : Cond.methodLink R_Ma 81 y_He_makeClosedVariable ∈ wA := kinm (show _ ∈ tables_1 from (List.mem_append_right _ (List.mem_append_right _ (List.mem_append_right _ (List.mem_append_right _ (List.mem_append_right _ (List.mem_append_left _ (List.mem_of_getElem? (l := tables_1_6) (i := 20) (by decide +kernel))))))))) (by decide +kernel)
theorem kw_1588 : Cond.methodLink R_Ma 85 y_Ma_internConstants ∈ wA := kinm (show _ ∈ tables_1 from (List.mem_append_right _ (List.mem_append_right _ (List.mem_append_right _ (List.mem_append_right _ (List.mem_append_right _ (List.mem_append_left _ (List.mem_of_getElem? (l := tables_1_6) (i := 24) (by decide +kernel))))))))) (by decide +kernel)
theorem kw_1589 : Cond.methodLink R_Ma 89 y_Ma_fillGlobals ∈ wA := kinm (show _ ∈ tables_1 from (List.mem_append_right _ (List.mem_append_right _ (List.mem_append_right _ (List.mem_append_right _ (List.mem_append_right _ (List.mem_append_left _ (List.mem_of_getElem? (l := tables_1_6) (i := 29) (by decide +kernel))))))))) (by decide +kernel)
theorem kw_1590 : Cond.methodLink R_Ma 92 y_Ma_beginMain ∈ wA := kinm (show _ ∈ tables_1 from (List.mem_append_right _ (List.mem_append_right _ (List.mem_append_right _ (List.mem_append_right _ (List.mem_append_right _ (List.mem_append_left _ (List.mem_of_getElem? (l := tables_1_6) (i := 71) (by decide +kernel))))))))) (by decide +kernel)
theorem kw_1591 : Cond.instanceMethod y_Ma_boot ∈ wA := kinm (show _ ∈ tables_1 from (List.mem_append_right _ (List.mem_append_right _ (List.mem_append_right _ (List.mem_append_left _ (List.mem_of_getElem? (l := tables_1_4) (i := 71) (by decide +kernel))))))) (by decide +kernel)
theorem kw_1592 : Cond.selects R_Ma y_Ma_boot y_Ma_boot ∈ wA := kinm (show _ ∈ tables_1 from (List.mem_append_right _ (List.mem_append_right _ (List.mem_append_right _ (List.mem_append_left _ (List.mem_of_getElem? (l := tables_1_4) (i := 72) (by decide +kernel))))))) (by decide +kernel)
theorem cv_Ma_boot : CV y_Ma_boot b_Ma_boot 2 (some .boolean) 0 := ⟨kw_1591, kw_1592, kw_838, k_Ma_boot, by decide +kernel⟩
theorem j_Ma_boot_j161 {X : Cx} {q0 q : PL} (g : Gd X y_Ma_boot b_Ma_boot 2 (some .boolean) 6 175 R_Ma) {o : (Int32 × (Nat × Nat)) × S1} (hR : RtX X [118, 146, 147, 149, 150, 151, 153, 154] q0 o.1.2 o.2 (fun _ => some (.int o.1.1))) (hx0 : Exq (xP X) [118, 146, 147, 149, 150, 151, 153, 154] q0 q) (ln : Nat × Nat) (hm : Rmq (xP X) q ln) (s : S1) (ls : Array Slot) (hl : lv_has ls 2 []) (h : M_Ma_boot_j161 ln s = some o) : WW X q s 161 ls [] := by
  unfold M_Ma_boot_j161 at h
  refine ww_iconst (pc := 161) g.1 (v := 0) d_Ma_boot_161 (by decide) ?_
  exact ww_zretX (pc := 162) g h hR hx0 hm (Or.inl rfl) d_Ma_boot_162

theorem ct_Ma_boot {l : Launch} {P : PP} {q : PL} {s s' : S1} {n0 n1 : Nat × Nat}  {r : Int32} (hm : Rmq P q n0) (h : M_Ma_boot n0 s = some ((r, n1), s')) : CtX l y_Ma_boot b_Ma_boot 2 (some .boolean) 6 175 P [118, 146, 147, 149, 150, 151, 153, 154] q s [.ref (q.1 128 0)] (fun _ => some (.int r)) n1 s' := by
  refine ctX_of (by decide) (Nat.le_of_ble_eq_true rfl) fun X ls eP el g hR hl => ?_
  subst eP
  obtain ⟨q0, hq0⟩ : ∃ q0 : PL, q0 = q := ⟨q, rfl⟩
  have hx0 : Exq (xP X) [118, 146, 147, 149, 150, 151, 153, 154] q0 q := hq0 ▸ Exq.rf
  rw [← hq0] at hR
  have hR : RtX X [118, 146, 147, 149, 150, 151, 153, 154] q0 (((r, n1), s') : (Int32 × (Nat × Nat)) × S1).1.2 (((r, n1), s') : (Int32 × (Nat × Nat)) × S1).2 (fun _ => some (.int (((r, n1), s') : (Int32 × (Nat × Nat)) × S1).1.1)) := hR
  have hl : lv_has ls 2 [(0, .ref (q.1 128 0))] := hl
  generalize ((r, n1), s') = o at h hR
  unfold M_Ma_boot at h
  refine ww_aload_n (pc := 0) g.1 d_Ma_boot_0 rfl (lv_at hl 0 rfl) ?_
  refine ww_gR (pc := 1) g (k := 1) cl_Ma (pz rfl (by decide)) (by decide) (Or.inl kw_938) (f := 16385) (t := 111) rfl rfl rfl d_Ma_boot_1 ?_
  obtain ⟨v4, s, hc4, h⟩ := oB_of h
  refine ww_callV (pc := 4) (rest := []) g cv_He_restart (Or.inl kw_1582) cl_He (pz rfl (by decide)) (ct_He_restart hc4) ⟨by decide, by decide⟩ rfl hl.1 (Nat.le_of_ble_eq_true rfl) d_Ma_boot_4 rfl (?_)
  refine ww_st (st' := []) rfl ?_
  refine ww_aload_n (pc := 7) g.1 d_Ma_boot_7 rfl (lv_at hl 0 rfl) ?_
  refine ww_gR (pc := 8) g (k := 2) cl_Ma (pz rfl (by decide)) (by decide) (Or.inl kw_1093) (f := 16386) (t := 120) rfl rfl rfl d_Ma_boot_8 ?_
  obtain ⟨v11, s, hc11, h⟩ := oB_of h
  refine ww_callV (pc := 11) (rest := []) g cv_Ta_restart (Or.inl kw_1583) cl_Ta (pz rfl (by decide)) (ct_Ta_restart hc11) ⟨by decide, by decide⟩ rfl hl.1 (Nat.le_of_ble_eq_true rfl) d_Ma_boot_11 rfl (?_)
  refine ww_st (st' := []) rfl ?_
  refine ww_aload_n (pc := 14) g.1 d_Ma_boot_14 rfl (lv_at hl 0 rfl) ?_
  refine ww_gR (pc := 15) g (k := 1) cl_Ma (pz rfl (by decide)) (by decide) (Or.inl kw_938) (f := 16385) (t := 111) rfl rfl rfl d_Ma_boot_15 ?_
  refine ww_iconst (pc := 18) g.1 (v := 1) d_Ma_boot_18 (by decide) ?_
  refine ww_pI (pc := 19) g (k := 13) cl_He (pz rfl (by decide)) (by decide) (Or.inl kw_1430) rfl (f := 14221) rfl rfl rfl rfl d_Ma_boot_19 h fun s hs h => ?_
  refine ww_aload_n (pc := 22) g.1 d_Ma_boot_22 rfl (lv_at hl 0 rfl) ?_
  refine ww_gR (pc := 23) g (k := 3) cl_Ma (pz rfl (by decide)) (by decide) (Or.inl kw_1098) (f := 16387) (t := 132) rfl rfl rfl d_Ma_boot_23 ?_
  obtain ⟨v26, s, hc26, h⟩ := oB_of h
  refine ww_callV (pc := 26) (rest := []) g cv_Ro_clear (Or.inl kw_1003) (cl_Ro ⟨by decide, rfl⟩) (pz rfl (by decide)) (ct_Ro_clear ⟨by decide, rfl⟩ hc26) ⟨by decide, by decide⟩ rfl hl.1 (Nat.le_of_ble_eq_true rfl) d_Ma_boot_26 rfl (?_)
  refine ww_st (st' := []) rfl ?_
  refine ww_aload_n (pc := 29) g.1 d_Ma_boot_29 rfl (lv_at hl 0 rfl) ?_
  refine ww_gR (pc := 30) g (k := 4) cl_Ma (pz rfl (by decide)) (by decide) (Or.inl kw_1002) (f := 16388) (t := 135) rfl rfl rfl d_Ma_boot_30 ?_
  obtain ⟨v33, s, hc33, h⟩ := oB_of h
  refine ww_callV (pc := 33) (rest := []) g cv_Ro_clear (Or.inl kw_1003) (cl_Ro ⟨by decide, rfl⟩) (pz rfl (by decide)) (ct_Ro_clear ⟨by decide, rfl⟩ hc33) ⟨by decide, by decide⟩ rfl hl.1 (Nat.le_of_ble_eq_true rfl) d_Ma_boot_33 rfl (?_)
  refine ww_st (st' := []) rfl ?_
  refine ww_aload_n (pc := 36) g.1 d_Ma_boot_36 rfl (lv_at hl 0 rfl) ?_
  refine ww_gR (pc := 37) g (k := 5) cl_Ma (pz rfl (by decide)) (by decide) (Or.inl kw_1328) (f := 16389) (t := 138) rfl rfl rfl d_Ma_boot_37 ?_
  obtain ⟨v40, s, hc40, h⟩ := oB_of h
  refine ww_callV (pc := 40) (rest := []) g cv_Ro_clear (Or.inl kw_1003) (cl_Ro ⟨by decide, rfl⟩) (pz rfl (by decide)) (ct_Ro_clear ⟨by decide, rfl⟩ hc40) ⟨by decide, by decide⟩ rfl hl.1 (Nat.le_of_ble_eq_true rfl) d_Ma_boot_40 rfl (?_)
  refine ww_st (st' := []) rfl ?_
  refine ww_aload_n (pc := 43) g.1 d_Ma_boot_43 rfl (lv_at hl 0 rfl) ?_
  refine ww_gR (pc := 44) g (k := 7) cl_Ma (pz rfl (by decide)) (by decide) (Or.inl kw_1022) (f := 16391) (t := 141) rfl rfl rfl d_Ma_boot_44 ?_
  obtain ⟨v47, s, hc47, h⟩ := oB_of h
  refine ww_callV (pc := 47) (rest := []) g cv_Ro_clear (Or.inl kw_1003) (cl_Ro ⟨by decide, rfl⟩) (pz rfl (by decide)) (ct_Ro_clear ⟨by decide, rfl⟩ hc47) ⟨by decide, by decide⟩ rfl hl.1 (Nat.le_of_ble_eq_true rfl) d_Ma_boot_47 rfl (?_)
  refine ww_st (st' := []) rfl ?_
  refine ww_aload_n (pc := 50) g.1 d_Ma_boot_50 rfl (lv_at hl 0 rfl) ?_
  refine ww_iconst (pc := 51) g.1 (v := 0) d_Ma_boot_51 (by decide) ?_
  refine ww_pI (pc := 52) g (k := 8) cl_Ma (pz rfl (by decide)) (by decide) (Or.inl kw_1023) rfl (f := 16392) rfl rfl rfl rfl d_Ma_boot_52 h fun s hs h => ?_
  refine ww_aload_n (pc := 55) g.1 d_Ma_boot_55 rfl (lv_at hl 0 rfl) ?_
  refine ww_iconst (pc := 56) g.1 (v := 0) d_Ma_boot_56 (by decide) ?_
  refine ww_pI (pc := 57) g (k := 9) cl_Ma (pz rfl (by decide)) (by decide) (Or.inl kw_1584) rfl (f := 16393) rfl rfl rfl rfl d_Ma_boot_57 h fun s hs h => ?_
  refine ww_aload_n (pc := 60) g.1 d_Ma_boot_60 rfl (lv_at hl 0 rfl) ?_
  refine ww_iconst (pc := 61) g.1 (v := 0) d_Ma_boot_61 (by decide) ?_
  refine ww_pI (pc := 62) g (k := 12) cl_Ma (pz rfl (by decide)) (by decide) (Or.inl kw_851) rfl (f := 16396) rfl rfl rfl rfl d_Ma_boot_62 h fun s hs h => ?_
  refine ww_aload_n (pc := 65) g.1 d_Ma_boot_65 rfl (lv_at hl 0 rfl) ?_
  refine ww_aload_n (pc := 66) g.1 d_Ma_boot_66 rfl (lv_at hl 0 rfl) ?_
  refine ww_gR (pc := 67) g (k := 2) cl_Ma (pz rfl (by decide)) (by decide) (Or.inl kw_1093) (f := 16386) (t := 120) rfl rfl rfl d_Ma_boot_67 ?_
  refine ww_lo fun dlo => ?_
  obtain ⟨v70, s, hc70, h⟩ := oB_of h
  refine ww_callVX (pc := 70) (rest := [.ref (q.1 128 0)]) g cv_Ta_make (Or.inl kw_1585) cl_Ta (pz rfl (by decide)) (ct_Ta_make hm hc70) ⟨by decide, by decide⟩ rfl hl.1 (Nat.le_of_ble_eq_true rfl) d_Ma_boot_70 rfl (fun q70 hE hm => ?_)
  have ex70_0 : q70.1 128 0 = q.1 128 0 := hE _ _ (by decide) (dlo _ _ (pz rfl (by decide)))
  have hl : lv_has ls 2 [(0, .ref (q70.1 128 0))] := by rw [ex70_0]; exact hl
  refine ww_st (st' := [.int v70.1, .ref (q70.1 128 0)]) (by first | (rw [ex70_0]; done) | (rw [ex70_0]; rfl)) ?_
  have hx0 : Exq (xP X) [118, 146, 147, 149, 150, 151, 153, 154] _ q70 := hx0.tr (hE.sub (by decide))
  refine ww_pI (pc := 73) g (k := 10) cl_Ma (pz rfl (by decide)) (by decide) (Or.inl kw_1422) rfl (f := 16394) rfl rfl rfl rfl d_Ma_boot_73 h fun s hs h => ?_
  refine ww_aload_n (pc := 76) g.1 d_Ma_boot_76 rfl (lv_at hl 0 rfl) ?_
  refine ww_gI (pc := 77) g (k := 10) cl_Ma (pz rfl (by decide)) (by decide) (Or.inl kw_1422) (f := 16394) rfl rfl d_Ma_boot_77 h fun v77 h => ?_
  refine ww_if_lt (pc := 80) (tgt := 115) g.1 d_Ma_boot_80 (by decide) h (fun c h => ?_) (fun c h => ?_)
  · refine ww_iconst (pc := 115) g.1 (v := 0) d_Ma_boot_115 (by decide) ?_
    exact ww_zretX (pc := 116) g h hR hx0 hm (Or.inl rfl) d_Ma_boot_116
  · refine ww_aload_n (pc := 83) g.1 d_Ma_boot_83 rfl (lv_at hl 0 rfl) ?_
    refine ww_ldcS (pc := 84) g (n := 60) (by decide) rfl rfl d_Ma_boot_84 ?_
    refine ww_iconst (pc := 86) g.1 (v := 0) d_Ma_boot_86 (by decide) ?_
    refine ww_lo fun dlo => ?_
    obtain ⟨v87, s, hc87, h⟩ := oB_of h
    refine ww_callVX (pc := 87) (rest := []) g cv_Ma_internNames (Or.inl kw_1586) cl_Ma (pz rfl (by decide)) (ct_Ma_internNames (by decide) hm hc87) ⟨by decide, by decide⟩ rfl hl.1 (Nat.le_of_ble_eq_true rfl) d_Ma_boot_87 rfl (fun q87 hE hm => ?_)
    have ex87_0 : q87.1 128 0 = q70.1 128 0 := hE _ _ (by decide) (dlo _ _ (pz rfl (by decide)))
    have hl : lv_has ls 2 [(0, .ref (q87.1 128 0))] := by rw [ex87_0]; exact hl
    refine ww_st (st' := [.int v87.1]) (by rfl) ?_
    have hx0 : Exq (xP X) [118, 146, 147, 149, 150, 151, 153, 154] _ q87 := hx0.tr (hE.sub (by decide))
    refine ww_if_eq (pc := 90) (tgt := 115) g.1 d_Ma_boot_90 (by decide) h (fun c h => ?_) (fun c h => ?_)
    · refine ww_iconst (pc := 115) g.1 (v := 0) d_Ma_boot_115 (by decide) ?_
      exact ww_zretX (pc := 116) g h hR hx0 hm (Or.inl rfl) d_Ma_boot_116
    · refine ww_aload_n (pc := 93) g.1 d_Ma_boot_93 rfl (lv_at hl 0 rfl) ?_
      refine ww_ldcS (pc := 94) g (n := 61) (by decide) rfl rfl d_Ma_boot_94 ?_
      refine ww_bipush (pc := 96) g.1 (v := 24) d_Ma_boot_96 (by decide) ?_
      refine ww_lo fun dlo => ?_
      obtain ⟨v98, s, hc98, h⟩ := oB_of h
      refine ww_callVX (pc := 98) (rest := []) g cv_Ma_internNames (Or.inl kw_1586) cl_Ma (pz rfl (by decide)) (ct_Ma_internNames (by decide) hm hc98) ⟨by decide, by decide⟩ rfl hl.1 (Nat.le_of_ble_eq_true rfl) d_Ma_boot_98 rfl (fun q98 hE hm => ?_)
      have ex98_0 : q98.1 128 0 = q87.1 128 0 := hE _ _ (by decide) (dlo _ _ (pz rfl (by decide)))
      have hl : lv_has ls 2 [(0, .ref (q98.1 128 0))] := by rw [ex98_0]; exact hl
      refine ww_st (st' := [.int v98.1]) (by rfl) ?_
      have hx0 : Exq (xP X) [118, 146, 147, 149, 150, 151, 153, 154] _ q98 := hx0.tr (hE.sub (by decide))
      refine ww_if_eq (pc := 101) (tgt := 115) g.1 d_Ma_boot_101 (by decide) h (fun c h => ?_) (fun c h => ?_)
      · refine ww_iconst (pc := 115) g.1 (v := 0) d_Ma_boot_115 (by decide) ?_
        exact ww_zretX (pc := 116) g h hR hx0 hm (Or.inl rfl) d_Ma_boot_116
      · refine ww_aload_n (pc := 104) g.1 d_Ma_boot_104 rfl (lv_at hl 0 rfl) ?_
        refine ww_ldcS (pc := 105) g (n := 62) (by decide) rfl rfl d_Ma_boot_105 ?_
        refine ww_bipush (pc := 107) g.1 (v := 46) d_Ma_boot_107 (by decide) ?_
        refine ww_lo fun dlo => ?_
        obtain ⟨v109, s, hc109, h⟩ := oB_of h
        refine ww_callVX (pc := 109) (rest := []) g cv_Ma_internNames (Or.inl kw_1586) cl_Ma (pz rfl (by decide)) (ct_Ma_internNames (by decide) hm hc109) ⟨by decide, by decide⟩ rfl hl.1 (Nat.le_of_ble_eq_true rfl) d_Ma_boot_109 rfl (fun q109 hE hm => ?_)
        have ex109_0 : q109.1 128 0 = q98.1 128 0 := hE _ _ (by decide) (dlo _ _ (pz rfl (by decide)))
        have hl : lv_has ls 2 [(0, .ref (q109.1 128 0))] := by rw [ex109_0]; exact hl
        refine ww_st (st' := [.int v109.1]) (by rfl) ?_
        have hx0 : Exq (xP X) [118, 146, 147, 149, 150, 151, 153, 154] _ q109 := hx0.tr (hE.sub (by decide))
        refine ww_if_ne (pc := 112) (tgt := 117) g.1 d_Ma_boot_112 (by decide) h (fun c h => ?_) (fun c h => ?_)
        · refine ww_aload_n (pc := 117) g.1 d_Ma_boot_117 rfl (lv_at hl 0 rfl) ?_
          refine ww_gR (pc := 118) g (k := 1) cl_Ma (pz rfl (by decide)) (by decide) (Or.inl kw_938) (f := 16385) (t := 111) rfl rfl rfl d_Ma_boot_118 ?_
          refine ww_iconst (pc := 121) g.1 (v := 5) d_Ma_boot_121 (by decide) ?_
          refine ww_aload_n (pc := 122) g.1 d_Ma_boot_122 rfl (lv_at hl 0 rfl) ?_
          refine ww_gI (pc := 123) g (k := 10) cl_Ma (pz rfl (by decide)) (by decide) (Or.inl kw_1422) (f := 16394) rfl rfl d_Ma_boot_123 h fun v123 h => ?_
          refine ww_i2l (pc := 126) g.1 (v := v123.toInt64) d_Ma_boot_126 rfl ?_
          refine ww_lo fun dlo => ?_
          obtain ⟨v127, s, hc127, h⟩ := oB_of h
          refine ww_callVX (pc := 127) (rest := []) g cv_He_makeClosedVariable (Or.inl kw_1587) cl_He (pz rfl (by decide)) (ct_He_makeClosedVariable hm hc127) ⟨by decide, by decide⟩ rfl hl.1 (Nat.le_of_ble_eq_true rfl) d_Ma_boot_127 rfl (fun q127 hE hm => ?_)
          have ex127_0 : q127.1 128 0 = q109.1 128 0 := hE _ _ (by decide) (dlo _ _ (pz rfl (by decide)))
          have hl : lv_has ls 2 [(0, .ref (q127.1 128 0))] := by rw [ex127_0]; exact hl
          refine ww_st (st' := [.int v127.1]) (by rfl) ?_
          have hx0 : Exq (xP X) [118, 146, 147, 149, 150, 151, 153, 154] _ q127 := hx0.tr (hE.sub (by decide))
          refine ww_istore_n (pc := 130) (i := 1) g.1 (lv' := [(1, .int v127.1), (0, .ref (q127.1 128 0))]) d_Ma_boot_130 rfl hl (by decide) rfl fun ls hl => ?_
          refine ww_iload_n (pc := 131) g.1 d_Ma_boot_131 rfl (lv_at hl 0 rfl) ?_
          refine ww_if_lt (pc := 132) (tgt := 161) g.1 d_Ma_boot_132 (by decide) h (fun c h => ?_) (fun c h => ?_)
          · exact j_Ma_boot_j161 g hR hx0 v127.2 hm s ls (lv_sub hl [] rfl) h
          · refine ww_aload_n (pc := 135) g.1 d_Ma_boot_135 rfl (lv_at hl 1 rfl) ?_
            refine ww_lo fun dlo => ?_
            obtain ⟨v136, s, hc136, h⟩ := oB_of h
            refine ww_callVX (pc := 136) (rest := []) g cv_Ma_internConstants (Or.inl kw_1588) cl_Ma (pz rfl (by decide)) (ct_Ma_internConstants hm hc136) ⟨by decide, by decide⟩ rfl hl.1 (Nat.le_of_ble_eq_true rfl) d_Ma_boot_136 rfl (fun q136 hE hm => ?_)
            have ex136_0 : q136.1 128 0 = q127.1 128 0 := hE _ _ (by decide) (dlo _ _ (pz rfl (by decide)))
            have hl : lv_has ls 2 [(1, .int v127.1), (0, .ref (q136.1 128 0))] := by rw [ex136_0]; exact hl
            refine ww_st (st' := [.int v136.1]) (by rfl) ?_
            have hx0 : Exq (xP X) [118, 146, 147, 149, 150, 151, 153, 154] _ q136 := hx0.tr (hE.sub (by decide))
            refine ww_if_eq (pc := 139) (tgt := 161) g.1 d_Ma_boot_139 (by decide) h (fun c h => ?_) (fun c h => ?_)
            · exact j_Ma_boot_j161 g hR hx0 v136.2 hm s ls (lv_sub hl [] rfl) h
            · refine ww_aload_n (pc := 142) g.1 d_Ma_boot_142 rfl (lv_at hl 1 rfl) ?_
              obtain ⟨v143, s, hc143, h⟩ := oB_of h
              refine ww_callV (pc := 143) (rest := []) g cv_Ma_fillGlobals (Or.inl kw_1589) cl_Ma (pz rfl (by decide)) (ct_Ma_fillGlobals hc143) ⟨by decide, by decide⟩ rfl hl.1 (Nat.le_of_ble_eq_true rfl) d_Ma_boot_143 rfl (?_)
              refine ww_st (st' := [.int v143]) rfl ?_
              refine ww_if_eq (pc := 146) (tgt := 161) g.1 d_Ma_boot_146 (by decide) h (fun c h => ?_) (fun c h => ?_)
              · exact j_Ma_boot_j161 g hR hx0 v136.2 hm s ls (lv_sub hl [] rfl) h
              · refine ww_aload_n (pc := 149) g.1 d_Ma_boot_149 rfl (lv_at hl 1 rfl) ?_
                refine ww_iload_n (pc := 150) g.1 d_Ma_boot_150 rfl (lv_at hl 0 rfl) ?_
                refine ww_lo fun dlo => ?_
                obtain ⟨v151, s, hc151, h⟩ := oB_of h
                refine ww_callVX (pc := 151) (rest := []) g cv_Ma_beginMain (Or.inl kw_1590) cl_Ma (pz rfl (by decide)) (ct_Ma_beginMain hm hc151) ⟨by decide, by decide⟩ rfl hl.1 (Nat.le_of_ble_eq_true rfl) d_Ma_boot_151 rfl (fun q151 hE hm => ?_)
                have hl : lv_has ls 2 [(1, .int v127.1)] := lv_sub hl [0] rfl
                refine ww_st (st' := [.int v151.1]) (by rfl) ?_
                have hx0 : Exq (xP X) [118, 146, 147, 149, 150, 151, 153, 154] _ q151 := hx0.tr (hE.sub (by decide))
                refine ww_if_eq (pc := 154) (tgt := 161) g.1 d_Ma_boot_154 (by decide) h (fun c h => ?_) (fun c h => ?_)
                · exact j_Ma_boot_j161 g hR hx0 v151.2 hm s ls (lv_sub hl [] rfl) h
                · refine ww_iconst (pc := 157) g.1 (v := 1) d_Ma_boot_157 (by decide) ?_
                  refine ww_goto (pc := 158) (tgt := 162) g.1 d_Ma_boot_158 (by decide) ?_
                  exact ww_zretX (pc := 162) g h hR hx0 hm (Or.inr rfl) d_Ma_boot_162
        · refine ww_iconst (pc := 115) g.1 (v := 0) d_Ma_boot_115 (by decide) ?_
          exact ww_zretX (pc := 116) g h hR hx0 hm (Or.inl rfl) d_Ma_boot_116

abbrev b_LM_run : ByteArray := prog_1_method_8_code
def y_LM_run : MethodName := ⟨R_LM, "run", "(I)I"⟩
abbrev w_LM_run : List Cond := .code y_LM_run b_LM_run 4 (some .int) :: wA
set_option maxRecDepth 20000 in
theorem k_LM_run : Cond.code y_LM_run b_LM_run 4 (some .int) ∈ wA := kinm (show _ ∈ tables_1 from (List.mem_append_right _ (List.mem_append_right _ (List.mem_append_right _ (List.mem_append_right _ (List.mem_append_right _ (List.mem_append_right _ (List.mem_append_left _ (List.mem_of_getElem? (l := tables_1_7) (i := 17) rfl))))))))) rfl
theorem d_LM_run_0 : decode b_LM_run 0 = .ok (.iload_n 1, 1) := by decide +kernel
theorem d_LM_run_1 : decode b_LM_run 1 = .ok (.iconst 1, 1) := by decide +kernel
theorem d_LM_run_2 : decode b_LM_run 2 = .ok (.if_icmp .lt 9, 3) := by decide +kernel
theorem d_LM_run_5 : decode b_LM_run 5 = .ok (.iload_n 1, 1) := by decide +kernel
theorem d_LM_run_6 : decode b_LM_run 6 = .ok (.ldc 110, 2) := by decide +kernel
theorem d_LM_run_8 : decode b_LM_run 8 = .ok (.if_icmp .le 11, 3) := by decide +kernel
theorem d_LM_run_11 : decode b_LM_run 11 = .ok (.new 74, 3) := by decide +kernel
theorem d_LM_run_14 : decode b_LM_run 14 = .ok (.dup, 1) := by decide +kernel
theorem d_LM_run_15 : decode b_LM_run 15 = .ok (.invokespecial 76, 3) := by decide +kernel
theorem d_LM_run_18 : decode b_LM_run 18 = .ok (.athrow, 1) := by decide +kernel
theorem d_LM_run_19 : decode b_LM_run 19 = .ok (.aload_n 0, 1) := by decide +kernel
theorem d_LM_run_20 : decode b_LM_run 20 = .ok (.getfield 77, 3) := by decide +kernel
theorem d_LM_run_23 : decode b_LM_run 23 = .ok (.ifCond .ne 11, 3) := by decide +kernel
theorem d_LM_run_26 : decode b_LM_run 26 = .ok (.new 63, 3) := by decide +kernel
theorem d_LM_run_29 : decode b_LM_run 29 = .ok (.dup, 1) := by decide +kernel
theorem d_LM_run_30 : decode b_LM_run 30 = .ok (.invokespecial 65, 3) := by decide +kernel
theorem d_LM_run_33 : decode b_LM_run 33 = .ok (.athrow, 1) := by decide +kernel
theorem d_LM_run_34 : decode b_LM_run 34 = .ok (.iload_n 1, 1) := by decide +kernel
theorem d_LM_run_35 : decode b_LM_run 35 = .ok (.istore_n 2, 1) := by decide +kernel
theorem d_LM_run_36 : decode b_LM_run 36 = .ok (.iload_n 2, 1) := by decide +kernel
theorem d_LM_run_37 : decode b_LM_run 37 = .ok (.ifCond .le 152, 3) := by decide +kernel
theorem d_LM_run_40 : decode b_LM_run 40 = .ok (.aload_n 0, 1) := by decide +kernel
theorem d_LM_run_41 : decode b_LM_run 41 = .ok (.getfield 33, 3) := by decide +kernel
theorem d_LM_run_44 : decode b_LM_run 44 = .ok (.getfield 111, 3) := by decide +kernel
theorem d_LM_run_47 : decode b_LM_run 47 = .ok (.ifCond .ne 142, 3) := by decide +kernel
theorem d_LM_run_50 : decode b_LM_run 50 = .ok (.aload_n 0, 1) := by decide +kernel
theorem d_LM_run_51 : decode b_LM_run 51 = .ok (.getfield 47, 3) := by decide +kernel
theorem d_LM_run_54 : decode b_LM_run 54 = .ok (.invokevirtual 114, 3) := by decide +kernel
theorem d_LM_run_57 : decode b_LM_run 57 = .ok (.iconst 0, 1) := by decide +kernel
theorem d_LM_run_58 : decode b_LM_run 58 = .ok (.istore_n 3, 1) := by decide +kernel
theorem d_LM_run_59 : decode b_LM_run 59 = .ok (.iload_n 3, 1) := by decide +kernel
theorem d_LM_run_60 : decode b_LM_run 60 = .ok (.ldc 117, 2) := by decide +kernel
theorem d_LM_run_62 : decode b_LM_run 62 = .ok (.if_icmp .ge 121, 3) := by decide +kernel
theorem d_LM_run_65 : decode b_LM_run 65 = .ok (.aload_n 0, 1) := by decide +kernel
theorem d_LM_run_66 : decode b_LM_run 66 = .ok (.getfield 33, 3) := by decide +kernel
theorem d_LM_run_69 : decode b_LM_run 69 = .ok (.getfield 118, 3) := by decide +kernel
theorem d_LM_run_72 : decode b_LM_run 72 = .ok (.ifCond .eq 111, 3) := by decide +kernel
theorem d_LM_run_75 : decode b_LM_run 75 = .ok (.aload_n 0, 1) := by decide +kernel
theorem d_LM_run_76 : decode b_LM_run 76 = .ok (.getfield 33, 3) := by decide +kernel
theorem d_LM_run_79 : decode b_LM_run 79 = .ok (.getfield 118, 3) := by decide +kernel
theorem d_LM_run_82 : decode b_LM_run 82 = .ok (.tableswitch 88 1 6 #[38, 48, 58, 68, 88, 78], 38) := by decide +kernel
theorem d_LM_run_120 : decode b_LM_run 120 = .ok (.aload_n 0, 1) := by decide +kernel
theorem d_LM_run_121 : decode b_LM_run 121 = .ok (.getfield 33, 3) := by decide +kernel
theorem d_LM_run_124 : decode b_LM_run 124 = .ok (.invokevirtual 121, 3) := by decide +kernel
theorem d_LM_run_127 : decode b_LM_run 127 = .ok (.goto 50, 3) := by decide +kernel
theorem d_LM_run_130 : decode b_LM_run 130 = .ok (.aload_n 0, 1) := by decide +kernel
theorem d_LM_run_131 : decode b_LM_run 131 = .ok (.getfield 54, 3) := by decide +kernel
theorem d_LM_run_134 : decode b_LM_run 134 = .ok (.invokevirtual 124, 3) := by decide +kernel
theorem d_LM_run_137 : decode b_LM_run 137 = .ok (.goto 40, 3) := by decide +kernel
theorem d_LM_run_140 : decode b_LM_run 140 = .ok (.aload_n 0, 1) := by decide +kernel
theorem d_LM_run_141 : decode b_LM_run 141 = .ok (.getfield 33, 3) := by decide +kernel
theorem d_LM_run_144 : decode b_LM_run 144 = .ok (.invokevirtual 127, 3) := by decide +kernel
theorem d_LM_run_147 : decode b_LM_run 147 = .ok (.goto 30, 3) := by decide +kernel
theorem d_LM_run_150 : decode b_LM_run 150 = .ok (.aload_n 0, 1) := by decide +kernel
theorem d_LM_run_151 : decode b_LM_run 151 = .ok (.getfield 47, 3) := by decide +kernel
theorem d_LM_run_154 : decode b_LM_run 154 = .ok (.invokevirtual 130, 3) := by decide +kernel
theorem d_LM_run_157 : decode b_LM_run 157 = .ok (.goto 20, 3) := by decide +kernel
theorem d_LM_run_160 : decode b_LM_run 160 = .ok (.aload_n 0, 1) := by decide +kernel
theorem d_LM_run_161 : decode b_LM_run 161 = .ok (.getfield 47, 3) := by decide +kernel
theorem d_LM_run_164 : decode b_LM_run 164 = .ok (.invokevirtual 133, 3) := by decide +kernel
theorem d_LM_run_167 : decode b_LM_run 167 = .ok (.goto 10, 3) := by decide +kernel
theorem d_LM_run_170 : decode b_LM_run 170 = .ok (.aload_n 0, 1) := by decide +kernel
theorem d_LM_run_171 : decode b_LM_run 171 = .ok (.getfield 33, 3) := by decide +kernel
theorem d_LM_run_174 : decode b_LM_run 174 = .ok (.invokevirtual 136, 3) := by decide +kernel
theorem d_LM_run_177 : decode b_LM_run 177 = .ok (.iinc 3 1, 3) := by decide +kernel
theorem d_LM_run_180 : decode b_LM_run 180 = .ok (.goto (-121), 3) := by decide +kernel
theorem d_LM_run_183 : decode b_LM_run 183 = .ok (.iinc 2 (-1), 3) := by decide +kernel
theorem d_LM_run_186 : decode b_LM_run 186 = .ok (.goto (-150), 3) := by decide +kernel
theorem d_LM_run_189 : decode b_LM_run 189 = .ok (.aload_n 0, 1) := by decide +kernel
theorem d_LM_run_190 : decode b_LM_run 190 = .ok (.getfield 33, 3) := by decide +kernel
theorem d_LM_run_193 : decode b_LM_run 193 = .ok (.getfield 111, 3) := by decide +kernel
theorem d_LM_run_196 : decode b_LM_run 196 = .ok (.ireturn, 1) := by decide +kernel
theorem kw_1593 : Cond.constant R_LM 110 100000 ∈ wA := kinm (show _ ∈ tables_1 from (List.mem_append_right _ (List.mem_append_right _ (List.mem_append_right _ (List.mem_append_right _ (List.mem_append_right _ (List.mem_append_right _ (List.mem_append_left _ (List.mem_of_getElem? (l := tables_1_7) (i := 18) (by decide +kernel)))))))))) (by decide +kernel)
theorem kw_1594 : Cond.constant R_LM 117 1000000000 ∈ wA := kinm (show _ ∈ tables_1 from (List.mem_append_right _ (List.mem_append_right _ (List.mem_append_right _ (List.mem_append_right _ (List.mem_append_right _ (List.mem_append_right _ (List.mem_append_left _ (List.mem_of_getElem? (l := tables_1_7) (i := 202) (by decide +kernel)))))))))) (by decide +kernel)
theorem kw_1595 : Cond.fieldLink R_LM 47 "LuaMachine" "steps" "LLuaMachine$Steps;" ∈ wA := kinm (show _ ∈ tables_1 from (List.mem_append_right _ (List.mem_append_left _ (List.mem_of_getElem? (l := tables_1_2) (i := 215) (by decide +kernel))))) (by decide +kernel)
theorem kw_1596 : Cond.methodLink R_LM 114 y_St_step ∈ wA := kinm (show _ ∈ tables_1 from (List.mem_append_right _ (List.mem_append_right _ (List.mem_append_right _ (List.mem_append_right _ (List.mem_append_right _ (List.mem_append_right _ (List.mem_append_left _ (List.mem_of_getElem? (l := tables_1_7) (i := 19) (by decide +kernel)))))))))) (by decide +kernel)
theorem kw_1597 : Cond.fieldLink R_LM 118 "LuaMachine$Machine" "turn" "I" ∈ wA := kinm (show _ ∈ tables_1 from (List.mem_append_right _ (List.mem_append_left _ (List.mem_of_getElem? (l := tables_1_2) (i := 86) (by decide +kernel))))) (by decide +kernel)
theorem kw_1598 : Cond.methodLink R_LM 121 y_Ma_enter ∈ wA := kinm (show _ ∈ tables_1 from (List.mem_append_right _ (List.mem_append_right _ (List.mem_append_right _ (List.mem_append_right _ (List.mem_append_right _ (List.mem_append_right _ (List.mem_append_left _ (List.mem_of_getElem? (l := tables_1_7) (i := 203) (by decide +kernel)))))))))) (by decide +kernel)
theorem kw_1599 : Cond.methodLink R_LM 124 y_Bu_perform ∈ wA := kinm (show _ ∈ tables_1 from (List.mem_append_right _ (List.mem_append_right _ (List.mem_append_right _ (List.mem_append_right _ (List.mem_append_right _ (List.mem_append_right _ (List.mem_append_left _ (List.mem_of_getElem? (l := tables_1_7) (i := 229) (by decide +kernel)))))))))) (by decide +kernel)
theorem kw_1600 : Cond.methodLink R_LM 127 y_Ma_give_ ∈ wA := kinm (show _ ∈ tables_1 from (List.mem_append_right _ (List.mem_append_right _ (List.mem_append_right _ (List.mem_append_right _ (List.mem_append_right _ (List.mem_append_right _ (List.mem_append_right _ (List.mem_append_left _ (List.mem_of_getElem? (l := tables_1_8) (i := 219) (by decide +kernel))))))))))) (by decide +kernel)
theorem kw_1601 : Cond.methodLink R_LM 130 y_St_finish ∈ wA := kinm (show _ ∈ tables_1 from (List.mem_append_right _ (List.mem_append_right _ (List.mem_append_right _ (List.mem_append_right _ (List.mem_append_right _ (List.mem_append_right _ (List.mem_append_right _ (List.mem_append_left _ (List.mem_of_getElem? (l := tables_1_8) (i := 234) (by decide +kernel))))))))))) (by decide +kernel)
theorem kw_1602 : Cond.methodLink R_LM 133 y_St_joinOn ∈ wA := kinm (show _ ∈ tables_1 from (List.mem_append_right _ (List.mem_append_right _ (List.mem_append_right _ (List.mem_append_right _ (List.mem_append_right _ (List.mem_append_right _ (List.mem_append_right _ (List.mem_append_right _ (List.mem_append_left _ (List.mem_of_getElem? (l := tables_1_9) (i := 5) (by decide +kernel)))))))))))) (by decide +kernel)
theorem kw_1603 : Cond.methodLink R_LM 136 y_Ma_unwind ∈ wA := kinm (show _ ∈ tables_1 from (List.mem_append_right _ (List.mem_append_right _ (List.mem_append_right _ (List.mem_append_right _ (List.mem_append_right _ (List.mem_append_right _ (List.mem_append_right _ (List.mem_append_right _ (List.mem_append_left _ (List.mem_of_getElem? (l := tables_1_9) (i := 32) (by decide +kernel)))))))))))) (by decide +kernel)
theorem kw_1604 : Cond.instanceMethod y_LM_run ∈ wA := kinm (show _ ∈ tables_1 from (List.mem_append_right _ (List.mem_append_right _ (List.mem_append_right _ (List.mem_append_right _ (List.mem_append_right _ (List.mem_append_right _ (List.mem_append_left _ (List.mem_of_getElem? (l := tables_1_7) (i := 15) (by decide +kernel)))))))))) (by decide +kernel)
theorem kw_1605 : Cond.selects R_LM y_LM_run y_LM_run ∈ wA := kinm (show _ ∈ tables_1 from (List.mem_append_right _ (List.mem_append_right _ (List.mem_append_right _ (List.mem_append_right _ (List.mem_append_right _ (List.mem_append_right _ (List.mem_append_left _ (List.mem_of_getElem? (l := tables_1_7) (i := 16) (by decide +kernel)))))))))) (by decide +kernel)
theorem cv_LM_run : CV y_LM_run b_LM_run 4 (some .int) 1 := ⟨kw_1604, kw_1605, kw_647, k_LM_run, by decide +kernel⟩
theorem j_LM_run_j177 {X : Cx} {q0 q : PL} (g : Gd X y_LM_run b_LM_run 4 (some .int) 9 239 R_LM) {o : ((Int32 × Int32 × (Nat × Nat)) ⊕ ((Int32 × (Nat × Nat)))) × S1} (hR : (Sum.elim (fun y : Int32 × Int32 × (Nat × Nat) => ∀ q : PL, Exq (xP X) [118, 146, 147, 149, 150, 151, 153, 154] q0 q → Rmq (xP X) q y.2.2 → ∀ ls : Array Slot, lv_has ls 4 [(0, .ref (q.1 100 0)), (2, .int y.1), (3, .int y.2.1)] → WW X q o.2 59 ls []) (fun y : Int32 × (Nat × Nat) => ∀ q : PL, Exq (xP X) [118, 146, 147, 149, 150, 151, 153, 154] q0 q → Rmq (xP X) q y.2 → ∀ ls : Array Slot, lv_has ls 4 [(0, .ref (q.1 100 0)), (2, .int y.1)] → WW X q o.2 183 ls []) o.1)) (hx0 : Exq (xP X) [118, 146, 147, 149, 150, 151, 153, 154] q0 q) (l2 : Int32) (l3 : Int32) (ln : Nat × Nat) (hm : Rmq (xP X) q ln) (s : S1) (ls : Array Slot) (hl : lv_has ls 4 [(0, .ref (q.1 100 0)), (2, .int l2), (3, .int l3)]) (h : M_LM_run_j177 l2 l3 ln s = some o) : WW X q s 177 ls [] := by
  unfold M_LM_run_j177 at h
  refine ww_iinc (pc := 177) g.1 (v := l3 + 1) (lv' := [(3, .int (l3 + 1)), (0, .ref (q.1 100 0)), (2, .int l2)]) d_LM_run_177 hl (k := 2) rfl (by rfl) (by decide) rfl fun ls hl => ?_
  refine ww_goto (pc := 180) (tgt := 59) g.1 d_LM_run_180 (by decide) ?_
  rw [oR_eq h] at hR
  exact hR q hx0 hm ls (lv_sub hl [1, 2, 0] rfl)

theorem lp_LM_run_L59 {X : Cx} {q0 : PL} (g : Gd X y_LM_run b_LM_run 4 (some .int) 9 239 R_LM) (x : Int32 × Int32 × (Nat × Nat)) (s : S1) (o : ((Int32 × Int32 × (Nat × Nat)) ⊕ ((Int32 × (Nat × Nat)))) × S1) (h : M_LM_run_L59 x s = some o) (hR : (Sum.elim (fun y : Int32 × Int32 × (Nat × Nat) => ∀ q : PL, Exq (xP X) [118, 146, 147, 149, 150, 151, 153, 154] q0 q → Rmq (xP X) q y.2.2 → ∀ ls : Array Slot, lv_has ls 4 [(0, .ref (q.1 100 0)), (2, .int y.1), (3, .int y.2.1)] → WW X q o.2 59 ls []) (fun y : Int32 × (Nat × Nat) => ∀ q : PL, Exq (xP X) [118, 146, 147, 149, 150, 151, 153, 154] q0 q → Rmq (xP X) q y.2 → ∀ ls : Array Slot, lv_has ls 4 [(0, .ref (q.1 100 0)), (2, .int y.1)] → WW X q o.2 183 ls []) o.1)) : ∀ q : PL, Exq (xP X) [118, 146, 147, 149, 150, 151, 153, 154] q0 q → Rmq (xP X) q x.2.2 → ∀ ls : Array Slot, lv_has ls 4 [(0, .ref (q.1 100 0)), (2, .int x.1), (3, .int x.2.1)] → WW X q s 59 ls [] := by
  intro q hx0 hm ls hl
  unfold M_LM_run_L59 at h
  refine ww_iload_n (pc := 59) g.1 d_LM_run_59 rfl (lv_at hl 2 rfl) ?_
  refine ww_ldc (pc := 60) g (v := 1000000000) kw_1594 d_LM_run_60 ?_
  refine ww_icmp_ge (pc := 62) (tgt := 183) g.1 d_LM_run_62 (by decide) h (fun c h => ?_) (fun c h => ?_)
  · rw [oR_eq h] at hR
    exact hR q hx0 hm ls (lv_sub hl [0, 1] rfl)
  · refine ww_aload_n (pc := 65) g.1 d_LM_run_65 rfl (lv_at hl 0 rfl) ?_
    refine ww_gR (pc := 66) g (k := 4) cl_LM (pz rfl (by decide)) (by decide) (Or.inl kw_635) (f := 12804) (t := 128) rfl rfl rfl d_LM_run_66 ?_
    refine ww_gI (pc := 69) g (k := 12) cl_Ma (pz rfl (by decide)) (by decide) (Or.inl kw_1597) (f := 16396) rfl rfl d_LM_run_69 h fun v69 h => ?_
    refine ww_if_eq (pc := 72) (tgt := 183) g.1 d_LM_run_72 (by decide) h (fun c h => ?_) (fun c h => ?_)
    · rw [oR_eq h] at hR
      exact hR q hx0 hm ls (lv_sub hl [0, 1] rfl)
    · refine ww_aload_n (pc := 75) g.1 d_LM_run_75 rfl (lv_at hl 0 rfl) ?_
      refine ww_gR (pc := 76) g (k := 4) cl_LM (pz rfl (by decide)) (by decide) (Or.inl kw_635) (f := 12804) (t := 128) rfl rfl rfl d_LM_run_76 ?_
      refine ww_gI (pc := 79) g (k := 12) cl_Ma (pz rfl (by decide)) (by decide) (Or.inl kw_1597) (f := 16396) rfl rfl d_LM_run_79 h fun v79 h => ?_
      by_cases c82_120 : v79 = 1
      · have h := oC_pos c82_120 h
        have c := c82_120
        refine ww_tableIn (pc := 82) (tgt := 120) g.1 d_LM_run_82 (by rw [c]; decide) (by rw [c]; decide) (by rw [c] <;> rfl) (by decide) ?_
        refine ww_aload_n (pc := 120) g.1 d_LM_run_120 rfl (lv_at hl 0 rfl) ?_
        refine ww_gR (pc := 121) g (k := 4) cl_LM (pz rfl (by decide)) (by decide) (Or.inl kw_635) (f := 12804) (t := 128) rfl rfl rfl d_LM_run_121 ?_
        obtain ⟨v124, s, hc124, h⟩ := oB_of h
        refine ww_callV (pc := 124) (rest := []) g cv_Ma_enter (Or.inl kw_1598) cl_Ma (pz rfl (by decide)) (ct_Ma_enter hc124) ⟨by decide, by decide⟩ rfl hl.1 (Nat.le_of_ble_eq_true rfl) d_LM_run_124 rfl (?_)
        refine ww_st (st' := []) rfl ?_
        refine ww_goto (pc := 127) (tgt := 177) g.1 d_LM_run_127 (by decide) ?_
        exact j_LM_run_j177 g hR hx0 x.1 x.2.1 x.2.2 hm s ls (lv_sub hl [0, 1, 2] rfl) h
      have h := oC_neg c82_120 h
      by_cases c82_130 : v79 = 2
      · have h := oC_pos c82_130 h
        have c := c82_130
        refine ww_tableIn (pc := 82) (tgt := 130) g.1 d_LM_run_82 (by rw [c]; decide) (by rw [c]; decide) (by rw [c] <;> rfl) (by decide) ?_
        refine ww_aload_n (pc := 130) g.1 d_LM_run_130 rfl (lv_at hl 0 rfl) ?_
        refine ww_gR (pc := 131) g (k := 6) cl_LM (pz rfl (by decide)) (by decide) (Or.inl kw_633) (f := 12806) (t := 130) rfl rfl rfl d_LM_run_131 ?_
        refine ww_lo fun dlo => ?_
        obtain ⟨v134, s, hc134, h⟩ := oB_of h
        refine ww_callVX (pc := 134) (rest := []) g cv_Bu_perform (Or.inl kw_1599) cl_Bu (pz rfl (by decide)) (ct_Bu_perform hm hc134) ⟨by decide, by decide⟩ rfl hl.1 (Nat.le_of_ble_eq_true rfl) d_LM_run_134 rfl (fun q134 hE hm => ?_)
        have ex134_0 : q134.1 100 0 = q.1 100 0 := hE _ _ (by decide) (dlo _ _ (pz rfl (by decide)))
        have hl : lv_has ls 4 [(0, .ref (q134.1 100 0)), (2, .int x.1), (3, .int x.2.1)] := by rw [ex134_0]; exact hl
        refine ww_st (st' := []) (by rfl) ?_
        have hx0 : Exq (xP X) [118, 146, 147, 149, 150, 151, 153, 154] _ q134 := hx0.tr (hE.sub (by decide))
        refine ww_goto (pc := 137) (tgt := 177) g.1 d_LM_run_137 (by decide) ?_
        exact j_LM_run_j177 g hR hx0 x.1 x.2.1 v134.2 hm s ls (lv_sub hl [0, 1, 2] rfl) h
      have h := oC_neg c82_130 h
      by_cases c82_140 : v79 = 3
      · have h := oC_pos c82_140 h
        have c := c82_140
        refine ww_tableIn (pc := 82) (tgt := 140) g.1 d_LM_run_82 (by rw [c]; decide) (by rw [c]; decide) (by rw [c] <;> rfl) (by decide) ?_
        refine ww_aload_n (pc := 140) g.1 d_LM_run_140 rfl (lv_at hl 0 rfl) ?_
        refine ww_gR (pc := 141) g (k := 4) cl_LM (pz rfl (by decide)) (by decide) (Or.inl kw_635) (f := 12804) (t := 128) rfl rfl rfl d_LM_run_141 ?_
        obtain ⟨v144, s, hc144, h⟩ := oB_of h
        refine ww_callV (pc := 144) (rest := []) g cv_Ma_give_ (Or.inl kw_1600) cl_Ma (pz rfl (by decide)) (ct_Ma_give_ hc144) ⟨by decide, by decide⟩ rfl hl.1 (Nat.le_of_ble_eq_true rfl) d_LM_run_144 rfl (?_)
        refine ww_st (st' := []) rfl ?_
        refine ww_goto (pc := 147) (tgt := 177) g.1 d_LM_run_147 (by decide) ?_
        exact j_LM_run_j177 g hR hx0 x.1 x.2.1 x.2.2 hm s ls (lv_sub hl [0, 1, 2] rfl) h
      have h := oC_neg c82_140 h
      by_cases c82_150 : v79 = 4
      · have h := oC_pos c82_150 h
        have c := c82_150
        refine ww_tableIn (pc := 82) (tgt := 150) g.1 d_LM_run_82 (by rw [c]; decide) (by rw [c]; decide) (by rw [c] <;> rfl) (by decide) ?_
        refine ww_aload_n (pc := 150) g.1 d_LM_run_150 rfl (lv_at hl 0 rfl) ?_
        refine ww_gR (pc := 151) g (k := 5) cl_LM (pz rfl (by decide)) (by decide) (Or.inl kw_1595) (f := 12805) (t := 129) rfl rfl rfl d_LM_run_151 ?_
        obtain ⟨v154, s, hc154, h⟩ := oB_of h
        refine ww_callV (pc := 154) (rest := []) g cv_St_finish (Or.inl kw_1601) cl_St (pz rfl (by decide)) (ct_St_finish hc154) ⟨by decide, by decide⟩ rfl hl.1 (Nat.le_of_ble_eq_true rfl) d_LM_run_154 rfl (?_)
        refine ww_st (st' := []) rfl ?_
        refine ww_goto (pc := 157) (tgt := 177) g.1 d_LM_run_157 (by decide) ?_
        exact j_LM_run_j177 g hR hx0 x.1 x.2.1 x.2.2 hm s ls (lv_sub hl [0, 1, 2] rfl) h
      have h := oC_neg c82_150 h
      by_cases c82_160 : v79 = 6
      · have h := oC_pos c82_160 h
        have c := c82_160
        refine ww_tableIn (pc := 82) (tgt := 160) g.1 d_LM_run_82 (by rw [c]; decide) (by rw [c]; decide) (by rw [c] <;> rfl) (by decide) ?_
        refine ww_aload_n (pc := 160) g.1 d_LM_run_160 rfl (lv_at hl 0 rfl) ?_
        refine ww_gR (pc := 161) g (k := 5) cl_LM (pz rfl (by decide)) (by decide) (Or.inl kw_1595) (f := 12805) (t := 129) rfl rfl rfl d_LM_run_161 ?_
        refine ww_lo fun dlo => ?_
        obtain ⟨v164, s, hc164, h⟩ := oB_of h
        refine ww_callVX (pc := 164) (rest := []) g cv_St_joinOn (Or.inl kw_1602) cl_St (pz rfl (by decide)) (ct_St_joinOn hm hc164) ⟨by decide, by decide⟩ rfl hl.1 (Nat.le_of_ble_eq_true rfl) d_LM_run_164 rfl (fun q164 hE hm => ?_)
        have ex164_0 : q164.1 100 0 = q.1 100 0 := hE _ _ (by decide) (dlo _ _ (pz rfl (by decide)))
        have hl : lv_has ls 4 [(0, .ref (q164.1 100 0)), (2, .int x.1), (3, .int x.2.1)] := by rw [ex164_0]; exact hl
        refine ww_st (st' := []) (by rfl) ?_
        have hx0 : Exq (xP X) [118, 146, 147, 149, 150, 151, 153, 154] _ q164 := hx0.tr (hE.sub (by decide))
        refine ww_goto (pc := 167) (tgt := 177) g.1 d_LM_run_167 (by decide) ?_
        exact j_LM_run_j177 g hR hx0 x.1 x.2.1 v164.2 hm s ls (lv_sub hl [0, 1, 2] rfl) h
      have h := oC_neg c82_160 h
      have n_1 : ¬ v79.toInt = 1 := lv_neT (fun e => c82_120 e) rfl
      have n_2 : ¬ v79.toInt = 2 := lv_neT (fun e => c82_130 e) rfl
      have n_3 : ¬ v79.toInt = 3 := lv_neT (fun e => c82_140 e) rfl
      have n_4 : ¬ v79.toInt = 4 := lv_neT (fun e => c82_150 e) rfl
      have n_6 : ¬ v79.toInt = 6 := lv_neT (fun e => c82_160 e) rfl
      by_cases hr : v79.toInt < 1 ∨ 6 < v79.toInt
      · refine ww_tableOut (pc := 82) (tgt := 170) g.1 d_LM_run_82 hr (by decide) ?_
        refine ww_aload_n (pc := 170) g.1 d_LM_run_170 rfl (lv_at hl 0 rfl) ?_
        refine ww_gR (pc := 171) g (k := 4) cl_LM (pz rfl (by decide)) (by decide) (Or.inl kw_635) (f := 12804) (t := 128) rfl rfl rfl d_LM_run_171 ?_
        obtain ⟨v174, s, hc174, h⟩ := oB_of h
        refine ww_callV (pc := 174) (rest := []) g cv_Ma_unwind (Or.inl kw_1603) cl_Ma (pz rfl (by decide)) (ct_Ma_unwind hc174) ⟨by decide, by decide⟩ rfl hl.1 (Nat.le_of_ble_eq_true rfl) d_LM_run_174 rfl (?_)
        refine ww_st (st' := []) rfl ?_
        exact j_LM_run_j177 g hR hx0 x.1 x.2.1 x.2.2 hm s ls (lv_sub hl [0, 1, 2] rfl) h
      have hh : v79.toInt = 5 := by omega
      have c := hh
      refine ww_tableIn (pc := 82) (tgt := 170) g.1 d_LM_run_82 (by rw [c]; decide) (by rw [c]; decide) (by rw [c] <;> rfl) (by decide) ?_
      refine ww_aload_n (pc := 170) g.1 d_LM_run_170 rfl (lv_at hl 0 rfl) ?_
      refine ww_gR (pc := 171) g (k := 4) cl_LM (pz rfl (by decide)) (by decide) (Or.inl kw_635) (f := 12804) (t := 128) rfl rfl rfl d_LM_run_171 ?_
      obtain ⟨v174, s, hc174, h⟩ := oB_of h
      refine ww_callV (pc := 174) (rest := []) g cv_Ma_unwind (Or.inl kw_1603) cl_Ma (pz rfl (by decide)) (ct_Ma_unwind hc174) ⟨by decide, by decide⟩ rfl hl.1 (Nat.le_of_ble_eq_true rfl) d_LM_run_174 rfl (?_)
      refine ww_st (st' := []) rfl ?_
      exact j_LM_run_j177 g hR hx0 x.1 x.2.1 x.2.2 hm s ls (lv_sub hl [0, 1, 2] rfl) h

theorem j_LM_run_j183 {X : Cx} {q0 q : PL} (g : Gd X y_LM_run b_LM_run 4 (some .int) 9 239 R_LM) {o : ((Int32 × (Nat × Nat)) ⊕ (((Nat × Nat)))) × S1} (hR : (Sum.elim (fun y : Int32 × (Nat × Nat) => ∀ q : PL, Exq (xP X) [118, 146, 147, 149, 150, 151, 153, 154] q0 q → Rmq (xP X) q y.2 → ∀ ls : Array Slot, lv_has ls 4 [(0, .ref (q.1 100 0)), (2, .int y.1)] → WW X q o.2 36 ls []) (fun y : (Nat × Nat) => ∀ q : PL, Exq (xP X) [118, 146, 147, 149, 150, 151, 153, 154] q0 q → Rmq (xP X) q y → ∀ ls : Array Slot, lv_has ls 4 [(0, .ref (q.1 100 0))] → WW X q o.2 189 ls []) o.1)) (hx0 : Exq (xP X) [118, 146, 147, 149, 150, 151, 153, 154] q0 q) (l2 : Int32) (ln : Nat × Nat) (hm : Rmq (xP X) q ln) (s : S1) (ls : Array Slot) (hl : lv_has ls 4 [(0, .ref (q.1 100 0)), (2, .int l2)]) (h : M_LM_run_j183 l2 ln s = some o) : WW X q s 183 ls [] := by
  unfold M_LM_run_j183 at h
  refine ww_iinc (pc := 183) g.1 (v := l2 + (-1)) (lv' := [(2, .int (l2 + (-1))), (0, .ref (q.1 100 0))]) d_LM_run_183 hl (k := 1) rfl (by rfl) (by decide) rfl fun ls hl => ?_
  refine ww_goto (pc := 186) (tgt := 36) g.1 d_LM_run_186 (by decide) ?_
  rw [oR_eq h] at hR
  exact hR q hx0 hm ls (lv_sub hl [1, 0] rfl)

theorem lp_LM_run_L36 {X : Cx} {q0 : PL} (g : Gd X y_LM_run b_LM_run 4 (some .int) 9 239 R_LM) (x : Int32 × (Nat × Nat)) (s : S1) (o : ((Int32 × (Nat × Nat)) ⊕ (((Nat × Nat)))) × S1) (h : M_LM_run_L36 x s = some o) (hR : (Sum.elim (fun y : Int32 × (Nat × Nat) => ∀ q : PL, Exq (xP X) [118, 146, 147, 149, 150, 151, 153, 154] q0 q → Rmq (xP X) q y.2 → ∀ ls : Array Slot, lv_has ls 4 [(0, .ref (q.1 100 0)), (2, .int y.1)] → WW X q o.2 36 ls []) (fun y : (Nat × Nat) => ∀ q : PL, Exq (xP X) [118, 146, 147, 149, 150, 151, 153, 154] q0 q → Rmq (xP X) q y → ∀ ls : Array Slot, lv_has ls 4 [(0, .ref (q.1 100 0))] → WW X q o.2 189 ls []) o.1)) : ∀ q : PL, Exq (xP X) [118, 146, 147, 149, 150, 151, 153, 154] q0 q → Rmq (xP X) q x.2 → ∀ ls : Array Slot, lv_has ls 4 [(0, .ref (q.1 100 0)), (2, .int x.1)] → WW X q s 36 ls [] := by
  intro q hx0 hm ls hl
  unfold M_LM_run_L36 at h
  refine ww_iload_n (pc := 36) g.1 d_LM_run_36 rfl (lv_at hl 1 rfl) ?_
  refine ww_if_le (pc := 37) (tgt := 189) g.1 d_LM_run_37 (by decide) h (fun c h => ?_) (fun c h => ?_)
  · rw [oR_eq h] at hR
    exact hR q hx0 hm ls (lv_sub hl [0] rfl)
  · refine ww_aload_n (pc := 40) g.1 d_LM_run_40 rfl (lv_at hl 0 rfl) ?_
    refine ww_gR (pc := 41) g (k := 4) cl_LM (pz rfl (by decide)) (by decide) (Or.inl kw_635) (f := 12804) (t := 128) rfl rfl rfl d_LM_run_41 ?_
    refine ww_gI (pc := 44) g (k := 8) cl_Ma (pz rfl (by decide)) (by decide) (Or.inl kw_637) (f := 16392) rfl rfl d_LM_run_44 h fun v44 h => ?_
    refine ww_if_ne (pc := 47) (tgt := 189) g.1 d_LM_run_47 (by decide) h (fun c h => ?_) (fun c h => ?_)
    · rw [oR_eq h] at hR
      exact hR q hx0 hm ls (lv_sub hl [0] rfl)
    · refine ww_aload_n (pc := 50) g.1 d_LM_run_50 rfl (lv_at hl 0 rfl) ?_
      refine ww_gR (pc := 51) g (k := 5) cl_LM (pz rfl (by decide)) (by decide) (Or.inl kw_1595) (f := 12805) (t := 129) rfl rfl rfl d_LM_run_51 ?_
      refine ww_lo fun dlo => ?_
      obtain ⟨v54, s, hc54, h⟩ := oB_of h
      refine ww_callVX (pc := 54) (rest := []) g cv_St_step (Or.inl kw_1596) cl_St (pz rfl (by decide)) (ct_St_step hm hc54) ⟨by decide, by decide⟩ rfl hl.1 (Nat.le_of_ble_eq_true rfl) d_LM_run_54 rfl (fun q54 hE hm => ?_)
      have ex54_0 : q54.1 100 0 = q.1 100 0 := hE _ _ (by decide) (dlo _ _ (pz rfl (by decide)))
      have hl : lv_has ls 4 [(0, .ref (q54.1 100 0)), (2, .int x.1)] := by rw [ex54_0]; exact hl
      refine ww_st (st' := []) (by rfl) ?_
      have hx0 : Exq (xP X) [118, 146, 147, 149, 150, 151, 153, 154] _ q54 := hx0.tr (hE.sub (by decide))
      refine ww_iconst (pc := 57) g.1 (v := 0) d_LM_run_57 (by decide) ?_
      refine ww_istore_n (pc := 58) (i := 3) g.1 (lv' := [(3, .int 0), (0, .ref (q54.1 100 0)), (2, .int x.1)]) d_LM_run_58 rfl hl (by decide) rfl fun ls hl => ?_
      obtain ⟨e59, s1, hw, h⟩ := oB_of h
      refine oW_rule (Wh := fun (x : Int32 × Int32 × (Nat × Nat)) (s : S1) => ∀ q : PL, Exq (xP X) [118, 146, 147, 149, 150, 151, 153, 154] q0 q → Rmq (xP X) q x.2.2 → ∀ ls : Array Slot, lv_has ls 4 [(0, .ref (q.1 100 0)), (2, .int x.1), (3, .int x.2.1)] → WW X q s 59 ls []) (We := fun (e : (Int32 × (Nat × Nat))) (s : S1) => ∀ q : PL, Exq (xP X) [118, 146, 147, 149, 150, 151, 153, 154] q0 q → Rmq (xP X) q e.2 → ∀ ls : Array Slot, lv_has ls 4 [(0, .ref (q.1 100 0)), (2, .int e.1)] → WW X q s 183 ls []) (fun x s o hb hc => lp_LM_run_L59 (q0 := q0) g x s o hb hc) hw ?_ q54 hx0 hm ls (lv_sub hl [1, 2, 0] rfl)
      clear hw hl hx0 hm
      clear ls
      intro qL59 hx0 hm ls hl
      generalize s1 = s at h ⊢
      exact j_LM_run_j183 g hR hx0 e59.1 e59.2 hm s ls (lv_sub hl [0, 1] rfl) h

theorem j_LM_run_j189 {X : Cx} {q0 q : PL} (g : Gd X y_LM_run b_LM_run 4 (some .int) 9 239 R_LM) {o : (Int32 × (Nat × Nat)) × S1} (hR : RtX X [118, 146, 147, 149, 150, 151, 153, 154] q0 o.1.2 o.2 (fun _ => some (.int o.1.1))) (hx0 : Exq (xP X) [118, 146, 147, 149, 150, 151, 153, 154] q0 q) (ln : Nat × Nat) (hm : Rmq (xP X) q ln) (s : S1) (ls : Array Slot) (hl : lv_has ls 4 [(0, .ref (q.1 100 0))]) (h : M_LM_run_j189 ln s = some o) : WW X q s 189 ls [] := by
  unfold M_LM_run_j189 at h
  refine ww_aload_n (pc := 189) g.1 d_LM_run_189 rfl (lv_at hl 0 rfl) ?_
  refine ww_gR (pc := 190) g (k := 4) cl_LM (pz rfl (by decide)) (by decide) (Or.inl kw_635) (f := 12804) (t := 128) rfl rfl rfl d_LM_run_190 ?_
  refine ww_gI (pc := 193) g (k := 8) cl_Ma (pz rfl (by decide)) (by decide) (Or.inl kw_637) (f := 16392) rfl rfl d_LM_run_193 h fun v193 h => ?_
  exact ww_iretX (pc := 196) g h hR hx0 hm d_LM_run_196

theorem ct_LM_run {l : Launch} {P : PP} {q : PL} {s s' : S1} {n0 n1 : Nat × Nat} {l1 : Int32} {r : Int32} (hm : Rmq P q n0) (h : M_LM_run n0 l1 s = some ((r, n1), s')) : CtX l y_LM_run b_LM_run 4 (some .int) 9 239 P [118, 146, 147, 149, 150, 151, 153, 154] q s [.ref (q.1 100 0), .int l1] (fun _ => some (.int r)) n1 s' := by
  refine ctX_of (by decide) (Nat.le_of_ble_eq_true rfl) fun X ls eP el g hR hl => ?_
  subst eP
  obtain ⟨q0, hq0⟩ : ∃ q0 : PL, q0 = q := ⟨q, rfl⟩
  have hx0 : Exq (xP X) [118, 146, 147, 149, 150, 151, 153, 154] q0 q := hq0 ▸ Exq.rf
  rw [← hq0] at hR
  have hR : RtX X [118, 146, 147, 149, 150, 151, 153, 154] q0 (((r, n1), s') : (Int32 × (Nat × Nat)) × S1).1.2 (((r, n1), s') : (Int32 × (Nat × Nat)) × S1).2 (fun _ => some (.int (((r, n1), s') : (Int32 × (Nat × Nat)) × S1).1.1)) := hR
  have hl : lv_has ls 4 [(0, .ref (q.1 100 0)), (1, .int l1)] := hl
  generalize ((r, n1), s') = o at h hR
  unfold M_LM_run at h
  refine ww_iload_n (pc := 0) g.1 d_LM_run_0 rfl (lv_at hl 1 rfl) ?_
  refine ww_iconst (pc := 1) g.1 (v := 1) d_LM_run_1 (by decide) ?_
  refine ww_icmp_lt (pc := 2) (tgt := 11) g.1 d_LM_run_2 (by decide) h (fun c h => ?_) (fun c h => ?_)
  · exact (oF_no h).elim
  · refine ww_iload_n (pc := 5) g.1 d_LM_run_5 rfl (lv_at hl 1 rfl) ?_
    refine ww_ldc (pc := 6) g (v := 100000) kw_1593 d_LM_run_6 ?_
    refine ww_icmp_le (pc := 8) (tgt := 19) g.1 d_LM_run_8 (by decide) h (fun c h => ?_) (fun c h => ?_)
    · refine ww_aload_n (pc := 19) g.1 d_LM_run_19 rfl (lv_at hl 0 rfl) ?_
      refine ww_gI (pc := 20) g (k := 1) cl_LM (pz rfl (by decide)) (by decide) (Or.inl kw_632) (f := 12801) rfl rfl d_LM_run_20 h fun v20 h => ?_
      refine ww_if_ne (pc := 23) (tgt := 34) g.1 d_LM_run_23 (by decide) h (fun c h => ?_) (fun c h => ?_)
      · refine ww_iload_n (pc := 34) g.1 d_LM_run_34 rfl (lv_at hl 1 rfl) ?_
        refine ww_istore_n (pc := 35) (i := 2) g.1 (lv' := [(2, .int l1), (0, .ref (q.1 100 0)), (1, .int l1)]) d_LM_run_35 rfl hl (by decide) rfl fun ls hl => ?_
        obtain ⟨e36, s1, hw, h⟩ := oB_of h
        refine oW_rule (Wh := fun (x : Int32 × (Nat × Nat)) (s : S1) => ∀ q : PL, Exq (xP X) [118, 146, 147, 149, 150, 151, 153, 154] q0 q → Rmq (xP X) q x.2 → ∀ ls : Array Slot, lv_has ls 4 [(0, .ref (q.1 100 0)), (2, .int x.1)] → WW X q s 36 ls []) (We := fun (e : ((Nat × Nat))) (s : S1) => ∀ q : PL, Exq (xP X) [118, 146, 147, 149, 150, 151, 153, 154] q0 q → Rmq (xP X) q e → ∀ ls : Array Slot, lv_has ls 4 [(0, .ref (q.1 100 0))] → WW X q s 189 ls []) (fun x s o hb hc => lp_LM_run_L36 (q0 := q0) g x s o hb hc) hw ?_ q hx0 hm ls (lv_sub hl [1, 0] rfl)
        clear hw hl hx0 hm
        clear ls
        intro qL36 hx0 hm ls hl
        generalize s1 = s at h ⊢
        exact j_LM_run_j189 g hR hx0 e36 hm s ls (lv_sub hl [0] rfl) h
      · exact (oF_no h).elim
    · exact (oF_no h).elim


