abbrev b_Bu_hasTable : ByteArray := prog_2_method_3_code
def y_Bu_hasTable : MethodName := ⟨R_Bu, "hasTable", "()Z"⟩
abbrev w_Bu_hasTable : List Cond := .code y_Bu_hasTable b_Bu_hasTable 1 (some .boolean) :: wA
theorem k_Bu_hasTable : Cond.code y_Bu_hasTable b_Bu_hasTable 1 (some .boolean) ∈ wA := kinm (show _ ∈ tables_1 from (List.mem_append_right _ (List.mem_append_right _ (List.mem_append_right _ (List.mem_append_right _ (List.mem_append_right _ (List.mem_append_right _ (List.mem_append_right _ (List.mem_append_left _ (List.mem_of_getElem? (l := tables_1_8) (i := 83) (by decide +kernel))))))))))) (by decide +kernel)
theorem d_Bu_hasTable_0 : decode b_Bu_hasTable 0 = .ok (.aload_n 0, 1) := by decide +kernel
theorem d_Bu_hasTable_1 : decode b_Bu_hasTable 1 = .ok (.getfield 35, 3) := by decide +kernel
theorem d_Bu_hasTable_4 : decode b_Bu_hasTable 4 = .ok (.iconst 0, 1) := by decide +kernel
theorem d_Bu_hasTable_5 : decode b_Bu_hasTable 5 = .ok (.invokevirtual 67, 3) := by decide +kernel
theorem d_Bu_hasTable_8 : decode b_Bu_hasTable 8 = .ok (.iconst 5, 1) := by decide +kernel
theorem d_Bu_hasTable_9 : decode b_Bu_hasTable 9 = .ok (.if_icmp .eq 11, 3) := by decide +kernel
theorem d_Bu_hasTable_12 : decode b_Bu_hasTable 12 = .ok (.aload_n 0, 1) := by decide +kernel
theorem d_Bu_hasTable_13 : decode b_Bu_hasTable 13 = .ok (.getfield 15, 3) := by decide +kernel
theorem d_Bu_hasTable_16 : decode b_Bu_hasTable 16 = .ok (.iconst 2, 1) := by decide +kernel
theorem d_Bu_hasTable_17 : decode b_Bu_hasTable 17 = .ok (.invokevirtual 145, 3) := by decide +kernel
theorem d_Bu_hasTable_20 : decode b_Bu_hasTable 20 = .ok (.aload_n 0, 1) := by decide +kernel
theorem d_Bu_hasTable_21 : decode b_Bu_hasTable 21 = .ok (.getfield 35, 3) := by decide +kernel
theorem d_Bu_hasTable_24 : decode b_Bu_hasTable 24 = .ok (.iconst 0, 1) := by decide +kernel
theorem d_Bu_hasTable_25 : decode b_Bu_hasTable 25 = .ok (.invokevirtual 67, 3) := by decide +kernel
theorem d_Bu_hasTable_28 : decode b_Bu_hasTable 28 = .ok (.iconst 5, 1) := by decide +kernel
theorem d_Bu_hasTable_29 : decode b_Bu_hasTable 29 = .ok (.if_icmp .ne 7, 3) := by decide +kernel
theorem d_Bu_hasTable_32 : decode b_Bu_hasTable 32 = .ok (.iconst 1, 1) := by decide +kernel
theorem d_Bu_hasTable_33 : decode b_Bu_hasTable 33 = .ok (.goto 4, 3) := by decide +kernel
theorem d_Bu_hasTable_36 : decode b_Bu_hasTable 36 = .ok (.iconst 0, 1) := by decide +kernel
theorem d_Bu_hasTable_37 : decode b_Bu_hasTable 37 = .ok (.ireturn, 1) := by decide +kernel
theorem kw_1154 : Cond.instanceMethod y_Bu_hasTable ∈ wA := kinm (show _ ∈ tables_1 from (List.mem_append_right _ (List.mem_append_right _ (List.mem_append_right _ (List.mem_append_right _ (List.mem_append_right _ (List.mem_append_right _ (List.mem_append_right _ (List.mem_append_left _ (List.mem_of_getElem? (l := tables_1_8) (i := 82) (by decide +kernel))))))))))) (by decide +kernel)
theorem kw_1155 : Cond.selects R_Bu y_Bu_hasTable y_Bu_hasTable ∈ wA := kinp 73 (by decide +kernel) (by decide +kernel)
theorem cv_Bu_hasTable : CV y_Bu_hasTable b_Bu_hasTable 1 (some .boolean) 0 := ⟨kw_1154, kw_1155, kw_950, k_Bu_hasTable, by decide +kernel⟩
theorem j_Bu_hasTable_j20 {X : Cx} {q : PL} (g : Gd X y_Bu_hasTable b_Bu_hasTable 1 (some .boolean) 2 44 R_Bu) {o : (Int32) × S1} (hR : Rt X q o.2 (some (.int o.1)))  (s : S1) (ls : Array Slot) (hl : lv_has ls 1 [(0, .ref (q.1 130 0))]) (h : M_Bu_hasTable_j20 s = some o) : WW X q s 20 ls [] := by
  unfold M_Bu_hasTable_j20 at h
  refine ww_aload_n (pc := 20) g.1 d_Bu_hasTable_20 rfl (lv_at hl 0 rfl) ?_
  refine ww_gR (pc := 21) g (k := 5) cl_Bu (pz rfl (by decide)) (by decide) (Or.inl kw_976) (f := 16645) (t := 132) rfl rfl rfl d_Bu_hasTable_21 ?_
  refine ww_iconst (pc := 24) g.1 (v := 0) d_Bu_hasTable_24 (by decide) ?_
  obtain ⟨v25, s, hc25, h⟩ := oB_of h
  refine ww_callV (pc := 25) (rest := []) g cv_Ro_kindAt (Or.inl kw_983) (cl_Ro ⟨by decide, rfl⟩) (pz rfl (by decide)) (ct_Ro_kindAt ⟨by decide, rfl⟩ hc25) ⟨by decide, by decide⟩ rfl hl.1 (Nat.le_of_ble_eq_true rfl) d_Bu_hasTable_25 rfl (?_)
  refine ww_st (st' := [.int v25]) rfl ?_
  refine ww_iconst (pc := 28) g.1 (v := 5) d_Bu_hasTable_28 (by decide) ?_
  refine ww_icmp_ne (pc := 29) (tgt := 36) g.1 d_Bu_hasTable_29 (by decide) h (fun c h => ?_) (fun c h => ?_)
  · refine ww_iconst (pc := 36) g.1 (v := 0) d_Bu_hasTable_36 (by decide) ?_
    exact ww_zretH (pc := 37) g h hR (Or.inl rfl) d_Bu_hasTable_37
  · refine ww_iconst (pc := 32) g.1 (v := 1) d_Bu_hasTable_32 (by decide) ?_
    refine ww_goto (pc := 33) (tgt := 37) g.1 d_Bu_hasTable_33 (by decide) ?_
    exact ww_zretH (pc := 37) g h hR (Or.inr rfl) d_Bu_hasTable_37

theorem ct_Bu_hasTable {l : Launch} {P : PP} {q : PL} {s s' : S1}  {r : Int32} (h : M_Bu_hasTable s = some (r, s')) : Ct l y_Bu_hasTable b_Bu_hasTable 1 (some .boolean) 2 44 P q s [.ref (q.1 130 0)] (some (.int r)) q s' := by
  refine ct_of (by decide) (Nat.le_of_ble_eq_true rfl) fun X ls eP el g hR hl => ?_
  subst eP
  have hR : Rt X q ((r, s') : Int32 × S1).2 (some (.int ((r, s') : Int32 × S1).1)) := hR
  have hl : lv_has ls 1 [(0, .ref (q.1 130 0))] := hl
  generalize (r, s') = o at h hR
  unfold M_Bu_hasTable at h
  refine ww_aload_n (pc := 0) g.1 d_Bu_hasTable_0 rfl (lv_at hl 0 rfl) ?_
  refine ww_gR (pc := 1) g (k := 5) cl_Bu (pz rfl (by decide)) (by decide) (Or.inl kw_976) (f := 16645) (t := 132) rfl rfl rfl d_Bu_hasTable_1 ?_
  refine ww_iconst (pc := 4) g.1 (v := 0) d_Bu_hasTable_4 (by decide) ?_
  obtain ⟨v5, s, hc5, h⟩ := oB_of h
  refine ww_callV (pc := 5) (rest := []) g cv_Ro_kindAt (Or.inl kw_983) (cl_Ro ⟨by decide, rfl⟩) (pz rfl (by decide)) (ct_Ro_kindAt ⟨by decide, rfl⟩ hc5) ⟨by decide, by decide⟩ rfl hl.1 (Nat.le_of_ble_eq_true rfl) d_Bu_hasTable_5 rfl (?_)
  refine ww_st (st' := [.int v5]) rfl ?_
  refine ww_iconst (pc := 8) g.1 (v := 5) d_Bu_hasTable_8 (by decide) ?_
  refine ww_icmp_eq (pc := 9) (tgt := 20) g.1 d_Bu_hasTable_9 (by decide) h (fun c h => ?_) (fun c h => ?_)
  · exact j_Bu_hasTable_j20 g hR s ls (lv_sub hl [0] rfl) h
  · refine ww_aload_n (pc := 12) g.1 d_Bu_hasTable_12 rfl (lv_at hl 0 rfl) ?_
    refine ww_gR (pc := 13) g (k := 2) cl_Bu (pz rfl (by decide)) (by decide) (Or.inl kw_995) (f := 16642) (t := 128) rfl rfl rfl d_Bu_hasTable_13 ?_
    refine ww_iconst (pc := 16) g.1 (v := 2) d_Bu_hasTable_16 (by decide) ?_
    obtain ⟨v17, s, hc17, h⟩ := oB_of h
    refine ww_callV (pc := 17) (rest := []) g cv_Ma_fail (Or.inl kw_1144) cl_Ma (pz rfl (by decide)) (ct_Ma_fail hc17) ⟨by decide, by decide⟩ rfl hl.1 (Nat.le_of_ble_eq_true rfl) d_Bu_hasTable_17 rfl (?_)
    refine ww_st (st' := []) rfl ?_
    exact j_Bu_hasTable_j20 g hR s ls (lv_sub hl [0] rfl) h

abbrev b_Bu_getMetatable : ByteArray := prog_2_method_19_code
def y_Bu_getMetatable : MethodName := ⟨R_Bu, "getMetatable", "()V"⟩
abbrev w_Bu_getMetatable : List Cond := .code y_Bu_getMetatable b_Bu_getMetatable 3 none :: wA
theorem k_Bu_getMetatable : Cond.code y_Bu_getMetatable b_Bu_getMetatable 3 none ∈ wA := kinm (show _ ∈ tables_1 from (List.mem_append_right _ (List.mem_append_right _ (List.mem_append_right _ (List.mem_append_right _ (List.mem_append_right _ (List.mem_append_right _ (List.mem_append_right _ (List.mem_append_left _ (List.mem_of_getElem? (l := tables_1_8) (i := 87) (by decide +kernel))))))))))) (by decide +kernel)
theorem d_Bu_getMetatable_0 : decode b_Bu_getMetatable 0 = .ok (.aload_n 0, 1) := by decide +kernel
theorem d_Bu_getMetatable_1 : decode b_Bu_getMetatable 1 = .ok (.getfield 30, 3) := by decide +kernel
theorem d_Bu_getMetatable_4 : decode b_Bu_getMetatable 4 = .ok (.aload_n 0, 1) := by decide +kernel
theorem d_Bu_getMetatable_5 : decode b_Bu_getMetatable 5 = .ok (.getfield 35, 3) := by decide +kernel
theorem d_Bu_getMetatable_8 : decode b_Bu_getMetatable 8 = .ok (.iconst 0, 1) := by decide +kernel
theorem d_Bu_getMetatable_9 : decode b_Bu_getMetatable 9 = .ok (.invokevirtual 67, 3) := by decide +kernel
theorem d_Bu_getMetatable_12 : decode b_Bu_getMetatable 12 = .ok (.aload_n 0, 1) := by decide +kernel
theorem d_Bu_getMetatable_13 : decode b_Bu_getMetatable 13 = .ok (.getfield 35, 3) := by decide +kernel
theorem d_Bu_getMetatable_16 : decode b_Bu_getMetatable 16 = .ok (.iconst 0, 1) := by decide +kernel
theorem d_Bu_getMetatable_17 : decode b_Bu_getMetatable 17 = .ok (.invokevirtual 78, 3) := by decide +kernel
theorem d_Bu_getMetatable_20 : decode b_Bu_getMetatable 20 = .ok (.bipush 21, 2) := by decide +kernel
theorem d_Bu_getMetatable_22 : decode b_Bu_getMetatable 22 = .ok (.invokevirtual 231, 3) := by decide +kernel
theorem d_Bu_getMetatable_25 : decode b_Bu_getMetatable 25 = .ok (.istore_n 1, 1) := by decide +kernel
theorem d_Bu_getMetatable_26 : decode b_Bu_getMetatable 26 = .ok (.aload_n 0, 1) := by decide +kernel
theorem d_Bu_getMetatable_27 : decode b_Bu_getMetatable 27 = .ok (.getfield 35, 3) := by decide +kernel
theorem d_Bu_getMetatable_30 : decode b_Bu_getMetatable 30 = .ok (.iconst 0, 1) := by decide +kernel
theorem d_Bu_getMetatable_31 : decode b_Bu_getMetatable 31 = .ok (.invokevirtual 67, 3) := by decide +kernel
theorem d_Bu_getMetatable_34 : decode b_Bu_getMetatable 34 = .ok (.iconst 5, 1) := by decide +kernel
theorem d_Bu_getMetatable_35 : decode b_Bu_getMetatable 35 = .ok (.if_icmp .ne 26, 3) := by decide +kernel
theorem d_Bu_getMetatable_38 : decode b_Bu_getMetatable 38 = .ok (.aload_n 0, 1) := by decide +kernel
theorem d_Bu_getMetatable_39 : decode b_Bu_getMetatable 39 = .ok (.getfield 25, 3) := by decide +kernel
theorem d_Bu_getMetatable_42 : decode b_Bu_getMetatable 42 = .ok (.getfield 149, 3) := by decide +kernel
theorem d_Bu_getMetatable_45 : decode b_Bu_getMetatable 45 = .ok (.aload_n 0, 1) := by decide +kernel
theorem d_Bu_getMetatable_46 : decode b_Bu_getMetatable 46 = .ok (.getfield 35, 3) := by decide +kernel
theorem d_Bu_getMetatable_49 : decode b_Bu_getMetatable 49 = .ok (.iconst 0, 1) := by decide +kernel
theorem d_Bu_getMetatable_50 : decode b_Bu_getMetatable 50 = .ok (.invokevirtual 78, 3) := by decide +kernel
theorem d_Bu_getMetatable_53 : decode b_Bu_getMetatable 53 = .ok (.l2i, 1) := by decide +kernel
theorem d_Bu_getMetatable_54 : decode b_Bu_getMetatable 54 = .ok (.aaload, 1) := by decide +kernel
theorem d_Bu_getMetatable_55 : decode b_Bu_getMetatable 55 = .ok (.getfield 267, 3) := by decide +kernel
theorem d_Bu_getMetatable_58 : decode b_Bu_getMetatable 58 = .ok (.goto 4, 3) := by decide +kernel
theorem d_Bu_getMetatable_61 : decode b_Bu_getMetatable 61 = .ok (.iconst (-1), 1) := by decide +kernel
theorem d_Bu_getMetatable_62 : decode b_Bu_getMetatable 62 = .ok (.istore_n 2, 1) := by decide +kernel
theorem d_Bu_getMetatable_63 : decode b_Bu_getMetatable 63 = .ok (.iload_n 1, 1) := by decide +kernel
theorem d_Bu_getMetatable_64 : decode b_Bu_getMetatable 64 = .ok (.ifCond .lt 11, 3) := by decide +kernel
theorem d_Bu_getMetatable_67 : decode b_Bu_getMetatable 67 = .ok (.aload_n 0, 1) := by decide +kernel
theorem d_Bu_getMetatable_68 : decode b_Bu_getMetatable 68 = .ok (.iload_n 1, 1) := by decide +kernel
theorem d_Bu_getMetatable_69 : decode b_Bu_getMetatable 69 = .ok (.invokevirtual 270, 3) := by decide +kernel
theorem d_Bu_getMetatable_72 : decode b_Bu_getMetatable 72 = .ok (.goto 29, 3) := by decide +kernel
theorem d_Bu_getMetatable_75 : decode b_Bu_getMetatable 75 = .ok (.iload_n 2, 1) := by decide +kernel
theorem d_Bu_getMetatable_76 : decode b_Bu_getMetatable 76 = .ok (.ifCond .lt 16, 3) := by decide +kernel
theorem d_Bu_getMetatable_79 : decode b_Bu_getMetatable 79 = .ok (.aload_n 0, 1) := by decide +kernel
theorem d_Bu_getMetatable_80 : decode b_Bu_getMetatable 80 = .ok (.getfield 39, 3) := by decide +kernel
theorem d_Bu_getMetatable_83 : decode b_Bu_getMetatable 83 = .ok (.iconst 5, 1) := by decide +kernel
theorem d_Bu_getMetatable_84 : decode b_Bu_getMetatable 84 = .ok (.iload_n 2, 1) := by decide +kernel
theorem d_Bu_getMetatable_85 : decode b_Bu_getMetatable 85 = .ok (.i2l, 1) := by decide +kernel
theorem d_Bu_getMetatable_86 : decode b_Bu_getMetatable 86 = .ok (.invokevirtual 74, 3) := by decide +kernel
theorem d_Bu_getMetatable_89 : decode b_Bu_getMetatable 89 = .ok (.goto 12, 3) := by decide +kernel
theorem d_Bu_getMetatable_92 : decode b_Bu_getMetatable 92 = .ok (.aload_n 0, 1) := by decide +kernel
theorem d_Bu_getMetatable_93 : decode b_Bu_getMetatable 93 = .ok (.getfield 39, 3) := by decide +kernel
theorem d_Bu_getMetatable_96 : decode b_Bu_getMetatable 96 = .ok (.iconst 0, 1) := by decide +kernel
theorem d_Bu_getMetatable_97 : decode b_Bu_getMetatable 97 = .ok (.lconst 0, 1) := by decide +kernel
theorem d_Bu_getMetatable_98 : decode b_Bu_getMetatable 98 = .ok (.invokevirtual 74, 3) := by decide +kernel
theorem d_Bu_getMetatable_101 : decode b_Bu_getMetatable 101 = .ok (.return_, 1) := by decide +kernel
theorem kw_1156 : Cond.methodLink R_Bu 231 y_Ta_findEvent ∈ wA := kinm (show _ ∈ tables_1 from (List.mem_append_right _ (List.mem_append_right _ (List.mem_append_right _ (List.mem_append_right _ (List.mem_append_right _ (List.mem_append_right _ (List.mem_append_right _ (List.mem_append_left _ (List.mem_of_getElem? (l := tables_1_8) (i := 53) (by decide +kernel))))))))))) (by decide +kernel)
theorem kw_1157 : Cond.methodLink R_Bu 270 y_Bu_addEntry ∈ wA := kinm (show _ ∈ tables_1 from (List.mem_append_right _ (List.mem_append_right _ (List.mem_append_right _ (List.mem_append_right _ (List.mem_append_right _ (List.mem_append_right _ (List.mem_append_right _ (List.mem_append_left _ (List.mem_of_getElem? (l := tables_1_8) (i := 88) (by decide +kernel))))))))))) (by decide +kernel)
theorem kw_1158 : Cond.fieldLink R_Bu 267 "LuaMachine$Thing" "metatable" "I" ∈ wA := kinm (show _ ∈ tables_1 from (List.mem_append_right _ (List.mem_append_right _ (List.mem_append_right _ (List.mem_append_right _ (List.mem_append_left _ (List.mem_of_getElem? (l := tables_1_5) (i := 200) (by decide +kernel)))))))) (by decide +kernel)
theorem kw_1159 : Cond.instanceMethod y_Bu_getMetatable ∈ wA := kinm (show _ ∈ tables_1 from (List.mem_append_right _ (List.mem_append_right _ (List.mem_append_right _ (List.mem_append_right _ (List.mem_append_right _ (List.mem_append_right _ (List.mem_append_right _ (List.mem_append_left _ (List.mem_of_getElem? (l := tables_1_8) (i := 86) (by decide +kernel))))))))))) (by decide +kernel)
theorem kw_1160 : Cond.selects R_Bu y_Bu_getMetatable y_Bu_getMetatable ∈ wA := kinp 74 (by decide +kernel) (by decide +kernel)
theorem cv_Bu_getMetatable : CV y_Bu_getMetatable b_Bu_getMetatable 3 none 0 := ⟨kw_1159, kw_1160, kw_950, k_Bu_getMetatable, by decide +kernel⟩
theorem j_Bu_getMetatable_j62 {X : Cx} {q : PL} (g : Gd X y_Bu_getMetatable b_Bu_getMetatable 3 none 3 77 R_Bu) {o : (Unit) × S1} (hR : Rt X q o.2 none) (l1 : Int32) (k0 : Int32) (s : S1) (ls : Array Slot) (hl : lv_has ls 3 [(0, .ref (q.1 130 0)), (1, .int l1)]) (h : M_Bu_getMetatable_j62 l1 k0 s = some o) : WW X q s 62 ls [.int k0] := by
  unfold M_Bu_getMetatable_j62 at h
  refine ww_istore_n (pc := 62) (i := 2) g.1 (lv' := [(2, .int k0), (0, .ref (q.1 130 0)), (1, .int l1)]) d_Bu_getMetatable_62 rfl hl (by decide) rfl fun ls hl => ?_
  refine ww_iload_n (pc := 63) g.1 d_Bu_getMetatable_63 rfl (lv_at hl 2 rfl) ?_
  refine ww_if_lt (pc := 64) (tgt := 75) g.1 d_Bu_getMetatable_64 (by decide) h (fun c h => ?_) (fun c h => ?_)
  · refine ww_iload_n (pc := 75) g.1 d_Bu_getMetatable_75 rfl (lv_at hl 0 rfl) ?_
    refine ww_if_lt (pc := 76) (tgt := 92) g.1 d_Bu_getMetatable_76 (by decide) h (fun c h => ?_) (fun c h => ?_)
    · refine ww_aload_n (pc := 92) g.1 d_Bu_getMetatable_92 rfl (lv_at hl 1 rfl) ?_
      refine ww_gR (pc := 93) g (k := 6) cl_Bu (pz rfl (by decide)) (by decide) (Or.inl kw_967) (f := 16646) (t := 135) rfl rfl rfl d_Bu_getMetatable_93 ?_
      refine ww_iconst (pc := 96) g.1 (v := 0) d_Bu_getMetatable_96 (by decide) ?_
      refine ww_lconst (pc := 97) g.1 (v := 0) d_Bu_getMetatable_97 (by decide) ?_
      obtain ⟨v98, s, hc98, h⟩ := oB_of h
      refine ww_callV (pc := 98) (rest := []) g cv_Ro_add (Or.inl kw_971) (cl_Ro ⟨by decide, rfl⟩) (pz rfl (by decide)) (ct_Ro_add ⟨by decide, rfl⟩ hc98) ⟨by decide, by decide⟩ rfl hl.1 (Nat.le_of_ble_eq_true rfl) d_Bu_getMetatable_98 rfl (?_)
      refine ww_st (st' := []) rfl ?_
      exact ww_vretH (pc := 101) g h hR d_Bu_getMetatable_101
    · refine ww_aload_n (pc := 79) g.1 d_Bu_getMetatable_79 rfl (lv_at hl 1 rfl) ?_
      refine ww_gR (pc := 80) g (k := 6) cl_Bu (pz rfl (by decide)) (by decide) (Or.inl kw_967) (f := 16646) (t := 135) rfl rfl rfl d_Bu_getMetatable_80 ?_
      refine ww_iconst (pc := 83) g.1 (v := 5) d_Bu_getMetatable_83 (by decide) ?_
      refine ww_iload_n (pc := 84) g.1 d_Bu_getMetatable_84 rfl (lv_at hl 0 rfl) ?_
      refine ww_i2l (pc := 85) g.1 (v := k0.toInt64) d_Bu_getMetatable_85 rfl ?_
      obtain ⟨v86, s, hc86, h⟩ := oB_of h
      refine ww_callV (pc := 86) (rest := []) g cv_Ro_add (Or.inl kw_971) (cl_Ro ⟨by decide, rfl⟩) (pz rfl (by decide)) (ct_Ro_add ⟨by decide, rfl⟩ hc86) ⟨by decide, by decide⟩ rfl hl.1 (Nat.le_of_ble_eq_true rfl) d_Bu_getMetatable_86 rfl (?_)
      refine ww_st (st' := []) rfl ?_
      refine ww_goto (pc := 89) (tgt := 101) g.1 d_Bu_getMetatable_89 (by decide) ?_
      exact ww_vretH (pc := 101) g h hR d_Bu_getMetatable_101
  · refine ww_aload_n (pc := 67) g.1 d_Bu_getMetatable_67 rfl (lv_at hl 1 rfl) ?_
    refine ww_iload_n (pc := 68) g.1 d_Bu_getMetatable_68 rfl (lv_at hl 2 rfl) ?_
    obtain ⟨v69, s, hc69, h⟩ := oB_of h
    refine ww_callV (pc := 69) (rest := []) g cv_Bu_addEntry (Or.inl kw_1157) cl_Bu (pz rfl (by decide)) (ct_Bu_addEntry hc69) ⟨by decide, by decide⟩ rfl hl.1 (Nat.le_of_ble_eq_true rfl) d_Bu_getMetatable_69 rfl (?_)
    refine ww_st (st' := []) rfl ?_
    refine ww_goto (pc := 72) (tgt := 101) g.1 d_Bu_getMetatable_72 (by decide) ?_
    exact ww_vretH (pc := 101) g h hR d_Bu_getMetatable_101

theorem ct_Bu_getMetatable {l : Launch} {P : PP} {q : PL} {s s' : S1}  {r : Unit} (h : M_Bu_getMetatable s = some (r, s')) : Ct l y_Bu_getMetatable b_Bu_getMetatable 3 none 3 77 P q s [.ref (q.1 130 0)] none q s' := by
  refine ct_of (by decide) (Nat.le_of_ble_eq_true rfl) fun X ls eP el g hR hl => ?_
  subst eP
  have hR : Rt X q ((r, s') : Unit × S1).2 none := hR
  have hl : lv_has ls 3 [(0, .ref (q.1 130 0))] := hl
  generalize (r, s') = o at h hR
  unfold M_Bu_getMetatable at h
  refine ww_aload_n (pc := 0) g.1 d_Bu_getMetatable_0 rfl (lv_at hl 0 rfl) ?_
  refine ww_gR (pc := 1) g (k := 4) cl_Bu (pz rfl (by decide)) (by decide) (Or.inl kw_968) (f := 16644) (t := 120) rfl rfl rfl d_Bu_getMetatable_1 ?_
  refine ww_aload_n (pc := 4) g.1 d_Bu_getMetatable_4 rfl (lv_at hl 0 rfl) ?_
  refine ww_gR (pc := 5) g (k := 5) cl_Bu (pz rfl (by decide)) (by decide) (Or.inl kw_976) (f := 16645) (t := 132) rfl rfl rfl d_Bu_getMetatable_5 ?_
  refine ww_iconst (pc := 8) g.1 (v := 0) d_Bu_getMetatable_8 (by decide) ?_
  obtain ⟨v9, s, hc9, h⟩ := oB_of h
  refine ww_callV (pc := 9) (rest := [.ref (q.1 120 0)]) g cv_Ro_kindAt (Or.inl kw_983) (cl_Ro ⟨by decide, rfl⟩) (pz rfl (by decide)) (ct_Ro_kindAt ⟨by decide, rfl⟩ hc9) ⟨by decide, by decide⟩ rfl hl.1 (Nat.le_of_ble_eq_true rfl) d_Bu_getMetatable_9 rfl (?_)
  refine ww_st (st' := [.int v9, .ref (q.1 120 0)]) rfl ?_
  refine ww_aload_n (pc := 12) g.1 d_Bu_getMetatable_12 rfl (lv_at hl 0 rfl) ?_
  refine ww_gR (pc := 13) g (k := 5) cl_Bu (pz rfl (by decide)) (by decide) (Or.inl kw_976) (f := 16645) (t := 132) rfl rfl rfl d_Bu_getMetatable_13 ?_
  refine ww_iconst (pc := 16) g.1 (v := 0) d_Bu_getMetatable_16 (by decide) ?_
  obtain ⟨v17, s, hc17, h⟩ := oB_of h
  refine ww_callV (pc := 17) (rest := [.int v9, .ref (q.1 120 0)]) g cv_Ro_valueAt (Or.inl kw_977) (cl_Ro ⟨by decide, rfl⟩) (pz rfl (by decide)) (ct_Ro_valueAt ⟨by decide, rfl⟩ hc17) ⟨by decide, by decide⟩ rfl hl.1 (Nat.le_of_ble_eq_true rfl) d_Bu_getMetatable_17 rfl (?_)
  refine ww_st (st' := [.long v17, .int v9, .ref (q.1 120 0)]) rfl ?_
  refine ww_bipush (pc := 20) g.1 (v := 21) d_Bu_getMetatable_20 (by decide) ?_
  obtain ⟨v22, s, hc22, h⟩ := oB_of h
  refine ww_callV (pc := 22) (rest := []) g cv_Ta_findEvent (Or.inl kw_1156) cl_Ta (pz rfl (by decide)) (ct_Ta_findEvent hc22) ⟨by decide, by decide⟩ rfl hl.1 (Nat.le_of_ble_eq_true rfl) d_Bu_getMetatable_22 rfl (?_)
  refine ww_st (st' := [.int v22]) rfl ?_
  refine ww_istore_n (pc := 25) (i := 1) g.1 (lv' := [(1, .int v22), (0, .ref (q.1 130 0))]) d_Bu_getMetatable_25 rfl hl (by decide) rfl fun ls hl => ?_
  refine ww_aload_n (pc := 26) g.1 d_Bu_getMetatable_26 rfl (lv_at hl 1 rfl) ?_
  refine ww_gR (pc := 27) g (k := 5) cl_Bu (pz rfl (by decide)) (by decide) (Or.inl kw_976) (f := 16645) (t := 132) rfl rfl rfl d_Bu_getMetatable_27 ?_
  refine ww_iconst (pc := 30) g.1 (v := 0) d_Bu_getMetatable_30 (by decide) ?_
  obtain ⟨v31, s, hc31, h⟩ := oB_of h
  refine ww_callV (pc := 31) (rest := []) g cv_Ro_kindAt (Or.inl kw_983) (cl_Ro ⟨by decide, rfl⟩) (pz rfl (by decide)) (ct_Ro_kindAt ⟨by decide, rfl⟩ hc31) ⟨by decide, by decide⟩ rfl hl.1 (Nat.le_of_ble_eq_true rfl) d_Bu_getMetatable_31 rfl (?_)
  refine ww_st (st' := [.int v31]) rfl ?_
  refine ww_iconst (pc := 34) g.1 (v := 5) d_Bu_getMetatable_34 (by decide) ?_
  refine ww_icmp_ne (pc := 35) (tgt := 61) g.1 d_Bu_getMetatable_35 (by decide) h (fun c h => ?_) (fun c h => ?_)
  · refine ww_iconst (pc := 61) g.1 (v := (-1)) d_Bu_getMetatable_61 (by decide) ?_
    exact j_Bu_getMetatable_j62 g hR v22 (-1) s ls (lv_sub hl [1, 0] rfl) h
  · refine ww_aload_n (pc := 38) g.1 d_Bu_getMetatable_38 rfl (lv_at hl 1 rfl) ?_
    refine ww_gR (pc := 39) g (k := 3) cl_Bu (pz rfl (by decide)) (by decide) (Or.inl kw_974) (f := 16643) (t := 111) rfl rfl rfl d_Bu_getMetatable_39 ?_
    refine ww_gR (pc := 42) g (k := 0) cl_He (pz rfl (by decide)) (by decide) (Or.inl kw_975) (f := 14208) (t := 112) rfl rfl rfl d_Bu_getMetatable_42 ?_
    refine ww_aload_n (pc := 45) g.1 d_Bu_getMetatable_45 rfl (lv_at hl 1 rfl) ?_
    refine ww_gR (pc := 46) g (k := 5) cl_Bu (pz rfl (by decide)) (by decide) (Or.inl kw_976) (f := 16645) (t := 132) rfl rfl rfl d_Bu_getMetatable_46 ?_
    refine ww_iconst (pc := 49) g.1 (v := 0) d_Bu_getMetatable_49 (by decide) ?_
    obtain ⟨v50, s, hc50, h⟩ := oB_of h
    refine ww_callV (pc := 50) (rest := [.ref (q.1 112 0)]) g cv_Ro_valueAt (Or.inl kw_977) (cl_Ro ⟨by decide, rfl⟩) (pz rfl (by decide)) (ct_Ro_valueAt ⟨by decide, rfl⟩ hc50) ⟨by decide, by decide⟩ rfl hl.1 (Nat.le_of_ble_eq_true rfl) d_Bu_getMetatable_50 rfl (?_)
    refine ww_st (st' := [.long v50, .ref (q.1 112 0)]) rfl ?_
    refine ww_l2i (pc := 53) g.1 (v := v50.toInt32) d_Bu_getMetatable_53 rfl ?_
    refine ww_a8 (pc := 54) g (t := 145) (n := 4000) (pz rfl (by decide)) rfl rfl rfl rfl d_Bu_getMetatable_54 h fun pa54 h => ?_
    refine ww_gI (pc := 55) g (k := 14) cl_Tg pa54 (by decide) (Or.inl kw_1158) (f := 18574) rfl rfl d_Bu_getMetatable_55 h fun v55 h => ?_
    refine ww_goto (pc := 58) (tgt := 62) g.1 d_Bu_getMetatable_58 (by decide) ?_
    exact j_Bu_getMetatable_j62 g hR v22 v55 s ls (lv_sub hl [1, 0] rfl) h

abbrev b_Bu_readRaw : ByteArray := prog_2_method_20_code
def y_Bu_readRaw : MethodName := ⟨R_Bu, "readRaw", "()V"⟩
abbrev w_Bu_readRaw : List Cond := .code y_Bu_readRaw b_Bu_readRaw 1 none :: wA
theorem k_Bu_readRaw : Cond.code y_Bu_readRaw b_Bu_readRaw 1 none ∈ wA := kinm (show _ ∈ tables_1 from (List.mem_append_right _ (List.mem_append_right _ (List.mem_append_right _ (List.mem_append_right _ (List.mem_append_right _ (List.mem_append_right _ (List.mem_append_right _ (List.mem_append_left _ (List.mem_of_getElem? (l := tables_1_8) (i := 95) (by decide +kernel))))))))))) (by decide +kernel)
theorem d_Bu_readRaw_0 : decode b_Bu_readRaw 0 = .ok (.aload_n 0, 1) := by decide +kernel
theorem d_Bu_readRaw_1 : decode b_Bu_readRaw 1 = .ok (.invokevirtual 263, 3) := by decide +kernel
theorem d_Bu_readRaw_4 : decode b_Bu_readRaw 4 = .ok (.ifCond .eq 39, 3) := by decide +kernel
theorem d_Bu_readRaw_7 : decode b_Bu_readRaw 7 = .ok (.aload_n 0, 1) := by decide +kernel
theorem d_Bu_readRaw_8 : decode b_Bu_readRaw 8 = .ok (.aload_n 0, 1) := by decide +kernel
theorem d_Bu_readRaw_9 : decode b_Bu_readRaw 9 = .ok (.getfield 30, 3) := by decide +kernel
theorem d_Bu_readRaw_12 : decode b_Bu_readRaw 12 = .ok (.aload_n 0, 1) := by decide +kernel
theorem d_Bu_readRaw_13 : decode b_Bu_readRaw 13 = .ok (.getfield 35, 3) := by decide +kernel
theorem d_Bu_readRaw_16 : decode b_Bu_readRaw 16 = .ok (.iconst 0, 1) := by decide +kernel
theorem d_Bu_readRaw_17 : decode b_Bu_readRaw 17 = .ok (.invokevirtual 78, 3) := by decide +kernel
theorem d_Bu_readRaw_20 : decode b_Bu_readRaw 20 = .ok (.l2i, 1) := by decide +kernel
theorem d_Bu_readRaw_21 : decode b_Bu_readRaw 21 = .ok (.aload_n 0, 1) := by decide +kernel
theorem d_Bu_readRaw_22 : decode b_Bu_readRaw 22 = .ok (.getfield 35, 3) := by decide +kernel
theorem d_Bu_readRaw_25 : decode b_Bu_readRaw 25 = .ok (.iconst 1, 1) := by decide +kernel
theorem d_Bu_readRaw_26 : decode b_Bu_readRaw 26 = .ok (.invokevirtual 67, 3) := by decide +kernel
theorem d_Bu_readRaw_29 : decode b_Bu_readRaw 29 = .ok (.aload_n 0, 1) := by decide +kernel
theorem d_Bu_readRaw_30 : decode b_Bu_readRaw 30 = .ok (.getfield 35, 3) := by decide +kernel
theorem d_Bu_readRaw_33 : decode b_Bu_readRaw 33 = .ok (.iconst 1, 1) := by decide +kernel
theorem d_Bu_readRaw_34 : decode b_Bu_readRaw 34 = .ok (.invokevirtual 78, 3) := by decide +kernel
theorem d_Bu_readRaw_37 : decode b_Bu_readRaw 37 = .ok (.invokevirtual 273, 3) := by decide +kernel
theorem d_Bu_readRaw_40 : decode b_Bu_readRaw 40 = .ok (.invokevirtual 270, 3) := by decide +kernel
theorem d_Bu_readRaw_43 : decode b_Bu_readRaw 43 = .ok (.return_, 1) := by decide +kernel
theorem kw_1161 : Cond.methodLink R_Bu 263 y_Bu_hasTable ∈ wA := kinm (show _ ∈ tables_1 from (List.mem_append_right _ (List.mem_append_right _ (List.mem_append_right _ (List.mem_append_right _ (List.mem_append_right _ (List.mem_append_right _ (List.mem_append_right _ (List.mem_append_left _ (List.mem_of_getElem? (l := tables_1_8) (i := 80) (by decide +kernel))))))))))) (by decide +kernel)
theorem kw_1162 : Cond.methodLink R_Bu 273 y_Ta_find ∈ wA := kinm (show _ ∈ tables_1 from (List.mem_append_right _ (List.mem_append_right _ (List.mem_append_right _ (List.mem_append_right _ (List.mem_append_right _ (List.mem_append_right _ (List.mem_append_right _ (List.mem_append_left _ (List.mem_of_getElem? (l := tables_1_8) (i := 96) (by decide +kernel))))))))))) (by decide +kernel)
theorem kw_1163 : Cond.instanceMethod y_Bu_readRaw ∈ wA := kinm (show _ ∈ tables_1 from (List.mem_append_right _ (List.mem_append_right _ (List.mem_append_right _ (List.mem_append_right _ (List.mem_append_right _ (List.mem_append_right _ (List.mem_append_right _ (List.mem_append_left _ (List.mem_of_getElem? (l := tables_1_8) (i := 94) (by decide +kernel))))))))))) (by decide +kernel)
theorem kw_1164 : Cond.selects R_Bu y_Bu_readRaw y_Bu_readRaw ∈ wA := kinp 76 (by decide +kernel) (by decide +kernel)
theorem cv_Bu_readRaw : CV y_Bu_readRaw b_Bu_readRaw 1 none 0 := ⟨kw_1163, kw_1164, kw_950, k_Bu_readRaw, by decide +kernel⟩
theorem ct_Bu_readRaw {l : Launch} {P : PP} {q : PL} {s s' : S1}  {r : Unit} (h : M_Bu_readRaw s = some (r, s')) : Ct l y_Bu_readRaw b_Bu_readRaw 1 none 3 64 P q s [.ref (q.1 130 0)] none q s' := by
  refine ct_of (by decide) (Nat.le_of_ble_eq_true rfl) fun X ls eP el g hR hl => ?_
  subst eP
  have hR : Rt X q ((r, s') : Unit × S1).2 none := hR
  have hl : lv_has ls 1 [(0, .ref (q.1 130 0))] := hl
  generalize (r, s') = o at h hR
  unfold M_Bu_readRaw at h
  refine ww_aload_n (pc := 0) g.1 d_Bu_readRaw_0 rfl (lv_at hl 0 rfl) ?_
  obtain ⟨v1, s, hc1, h⟩ := oB_of h
  refine ww_callV (pc := 1) (rest := []) g cv_Bu_hasTable (Or.inl kw_1161) cl_Bu (pz rfl (by decide)) (ct_Bu_hasTable hc1) ⟨by decide, by decide⟩ rfl hl.1 (Nat.le_of_ble_eq_true rfl) d_Bu_readRaw_1 rfl (?_)
  refine ww_st (st' := [.int v1]) rfl ?_
  refine ww_if_eq (pc := 4) (tgt := 43) g.1 d_Bu_readRaw_4 (by decide) h (fun c h => ?_) (fun c h => ?_)
  · exact ww_vretH (pc := 43) g h hR d_Bu_readRaw_43
  · refine ww_aload_n (pc := 7) g.1 d_Bu_readRaw_7 rfl (lv_at hl 0 rfl) ?_
    refine ww_aload_n (pc := 8) g.1 d_Bu_readRaw_8 rfl (lv_at hl 0 rfl) ?_
    refine ww_gR (pc := 9) g (k := 4) cl_Bu (pz rfl (by decide)) (by decide) (Or.inl kw_968) (f := 16644) (t := 120) rfl rfl rfl d_Bu_readRaw_9 ?_
    refine ww_aload_n (pc := 12) g.1 d_Bu_readRaw_12 rfl (lv_at hl 0 rfl) ?_
    refine ww_gR (pc := 13) g (k := 5) cl_Bu (pz rfl (by decide)) (by decide) (Or.inl kw_976) (f := 16645) (t := 132) rfl rfl rfl d_Bu_readRaw_13 ?_
    refine ww_iconst (pc := 16) g.1 (v := 0) d_Bu_readRaw_16 (by decide) ?_
    obtain ⟨v17, s, hc17, h⟩ := oB_of h
    refine ww_callV (pc := 17) (rest := [.ref (q.1 120 0), .ref (q.1 130 0)]) g cv_Ro_valueAt (Or.inl kw_977) (cl_Ro ⟨by decide, rfl⟩) (pz rfl (by decide)) (ct_Ro_valueAt ⟨by decide, rfl⟩ hc17) ⟨by decide, by decide⟩ rfl hl.1 (Nat.le_of_ble_eq_true rfl) d_Bu_readRaw_17 rfl (?_)
    refine ww_st (st' := [.long v17, .ref (q.1 120 0), .ref (q.1 130 0)]) rfl ?_
    refine ww_l2i (pc := 20) g.1 (v := v17.toInt32) d_Bu_readRaw_20 rfl ?_
    refine ww_aload_n (pc := 21) g.1 d_Bu_readRaw_21 rfl (lv_at hl 0 rfl) ?_
    refine ww_gR (pc := 22) g (k := 5) cl_Bu (pz rfl (by decide)) (by decide) (Or.inl kw_976) (f := 16645) (t := 132) rfl rfl rfl d_Bu_readRaw_22 ?_
    refine ww_iconst (pc := 25) g.1 (v := 1) d_Bu_readRaw_25 (by decide) ?_
    obtain ⟨v26, s, hc26, h⟩ := oB_of h
    refine ww_callV (pc := 26) (rest := [.int v17.toInt32, .ref (q.1 120 0), .ref (q.1 130 0)]) g cv_Ro_kindAt (Or.inl kw_983) (cl_Ro ⟨by decide, rfl⟩) (pz rfl (by decide)) (ct_Ro_kindAt ⟨by decide, rfl⟩ hc26) ⟨by decide, by decide⟩ rfl hl.1 (Nat.le_of_ble_eq_true rfl) d_Bu_readRaw_26 rfl (?_)
    refine ww_st (st' := [.int v26, .int v17.toInt32, .ref (q.1 120 0), .ref (q.1 130 0)]) rfl ?_
    refine ww_aload_n (pc := 29) g.1 d_Bu_readRaw_29 rfl (lv_at hl 0 rfl) ?_
    refine ww_gR (pc := 30) g (k := 5) cl_Bu (pz rfl (by decide)) (by decide) (Or.inl kw_976) (f := 16645) (t := 132) rfl rfl rfl d_Bu_readRaw_30 ?_
    refine ww_iconst (pc := 33) g.1 (v := 1) d_Bu_readRaw_33 (by decide) ?_
    obtain ⟨v34, s, hc34, h⟩ := oB_of h
    refine ww_callV (pc := 34) (rest := [.int v26, .int v17.toInt32, .ref (q.1 120 0), .ref (q.1 130 0)]) g cv_Ro_valueAt (Or.inl kw_977) (cl_Ro ⟨by decide, rfl⟩) (pz rfl (by decide)) (ct_Ro_valueAt ⟨by decide, rfl⟩ hc34) ⟨by decide, by decide⟩ rfl hl.1 (Nat.le_of_ble_eq_true rfl) d_Bu_readRaw_34 rfl (?_)
    refine ww_st (st' := [.long v34, .int v26, .int v17.toInt32, .ref (q.1 120 0), .ref (q.1 130 0)]) rfl ?_
    obtain ⟨v37, s, hc37, h⟩ := oB_of h
    refine ww_callV (pc := 37) (rest := [.ref (q.1 130 0)]) g cv_Ta_find (Or.inl kw_1162) cl_Ta (pz rfl (by decide)) (ct_Ta_find hc37) ⟨by decide, by decide⟩ rfl hl.1 (Nat.le_of_ble_eq_true rfl) d_Bu_readRaw_37 rfl (?_)
    refine ww_st (st' := [.int v37, .ref (q.1 130 0)]) rfl ?_
    obtain ⟨v40, s, hc40, h⟩ := oB_of h
    refine ww_callV (pc := 40) (rest := []) g cv_Bu_addEntry (Or.inl kw_1157) cl_Bu (pz rfl (by decide)) (ct_Bu_addEntry hc40) ⟨by decide, by decide⟩ rfl hl.1 (Nat.le_of_ble_eq_true rfl) d_Bu_readRaw_40 rfl (?_)
    refine ww_st (st' := []) rfl ?_
    exact ww_vretH (pc := 43) g h hR d_Bu_readRaw_43

abbrev b_Bu_measureRaw : ByteArray := prog_2_method_22_code
def y_Bu_measureRaw : MethodName := ⟨R_Bu, "measureRaw", "()V"⟩
abbrev w_Bu_measureRaw : List Cond := .code y_Bu_measureRaw b_Bu_measureRaw 1 none :: wA
theorem k_Bu_measureRaw : Cond.code y_Bu_measureRaw b_Bu_measureRaw 1 none ∈ wA := kinm (show _ ∈ tables_1 from (List.mem_append_right _ (List.mem_append_right _ (List.mem_append_right _ (List.mem_append_right _ (List.mem_append_right _ (List.mem_append_right _ (List.mem_append_right _ (List.mem_append_left _ (List.mem_of_getElem? (l := tables_1_8) (i := 105) (by decide +kernel))))))))))) (by decide +kernel)
theorem d_Bu_measureRaw_0 : decode b_Bu_measureRaw 0 = .ok (.aload_n 0, 1) := by decide +kernel
theorem d_Bu_measureRaw_1 : decode b_Bu_measureRaw 1 = .ok (.getfield 35, 3) := by decide +kernel
theorem d_Bu_measureRaw_4 : decode b_Bu_measureRaw 4 = .ok (.iconst 0, 1) := by decide +kernel
theorem d_Bu_measureRaw_5 : decode b_Bu_measureRaw 5 = .ok (.invokevirtual 67, 3) := by decide +kernel
theorem d_Bu_measureRaw_8 : decode b_Bu_measureRaw 8 = .ok (.iconst 4, 1) := by decide +kernel
theorem d_Bu_measureRaw_9 : decode b_Bu_measureRaw 9 = .ok (.if_icmp .ne 20, 3) := by decide +kernel
theorem d_Bu_measureRaw_12 : decode b_Bu_measureRaw 12 = .ok (.aload_n 0, 1) := by decide +kernel
theorem d_Bu_measureRaw_13 : decode b_Bu_measureRaw 13 = .ok (.getfield 39, 3) := by decide +kernel
theorem d_Bu_measureRaw_16 : decode b_Bu_measureRaw 16 = .ok (.iconst 3, 1) := by decide +kernel
theorem d_Bu_measureRaw_17 : decode b_Bu_measureRaw 17 = .ok (.aload_n 0, 1) := by decide +kernel
theorem d_Bu_measureRaw_18 : decode b_Bu_measureRaw 18 = .ok (.invokevirtual 281, 3) := by decide +kernel
theorem d_Bu_measureRaw_21 : decode b_Bu_measureRaw 21 = .ok (.arraylength, 1) := by decide +kernel
theorem d_Bu_measureRaw_22 : decode b_Bu_measureRaw 22 = .ok (.i2l, 1) := by decide +kernel
theorem d_Bu_measureRaw_23 : decode b_Bu_measureRaw 23 = .ok (.invokevirtual 74, 3) := by decide +kernel
theorem d_Bu_measureRaw_26 : decode b_Bu_measureRaw 26 = .ok (.goto 35, 3) := by decide +kernel
theorem d_Bu_measureRaw_29 : decode b_Bu_measureRaw 29 = .ok (.aload_n 0, 1) := by decide +kernel
theorem d_Bu_measureRaw_30 : decode b_Bu_measureRaw 30 = .ok (.invokevirtual 263, 3) := by decide +kernel
theorem d_Bu_measureRaw_33 : decode b_Bu_measureRaw 33 = .ok (.ifCond .eq 28, 3) := by decide +kernel
theorem d_Bu_measureRaw_36 : decode b_Bu_measureRaw 36 = .ok (.aload_n 0, 1) := by decide +kernel
theorem d_Bu_measureRaw_37 : decode b_Bu_measureRaw 37 = .ok (.getfield 39, 3) := by decide +kernel
theorem d_Bu_measureRaw_40 : decode b_Bu_measureRaw 40 = .ok (.iconst 3, 1) := by decide +kernel
theorem d_Bu_measureRaw_41 : decode b_Bu_measureRaw 41 = .ok (.aload_n 0, 1) := by decide +kernel
theorem d_Bu_measureRaw_42 : decode b_Bu_measureRaw 42 = .ok (.getfield 30, 3) := by decide +kernel
theorem d_Bu_measureRaw_45 : decode b_Bu_measureRaw 45 = .ok (.aload_n 0, 1) := by decide +kernel
theorem d_Bu_measureRaw_46 : decode b_Bu_measureRaw 46 = .ok (.getfield 35, 3) := by decide +kernel
theorem d_Bu_measureRaw_49 : decode b_Bu_measureRaw 49 = .ok (.iconst 0, 1) := by decide +kernel
theorem d_Bu_measureRaw_50 : decode b_Bu_measureRaw 50 = .ok (.invokevirtual 78, 3) := by decide +kernel
theorem d_Bu_measureRaw_53 : decode b_Bu_measureRaw 53 = .ok (.l2i, 1) := by decide +kernel
theorem d_Bu_measureRaw_54 : decode b_Bu_measureRaw 54 = .ok (.invokevirtual 285, 3) := by decide +kernel
theorem d_Bu_measureRaw_57 : decode b_Bu_measureRaw 57 = .ok (.i2l, 1) := by decide +kernel
theorem d_Bu_measureRaw_58 : decode b_Bu_measureRaw 58 = .ok (.invokevirtual 74, 3) := by decide +kernel
theorem d_Bu_measureRaw_61 : decode b_Bu_measureRaw 61 = .ok (.return_, 1) := by decide +kernel
theorem kw_1165 : Cond.methodLink R_Bu 285 y_Ta_border ∈ wA := kinm (show _ ∈ tables_1 from (List.mem_append_right _ (List.mem_append_right _ (List.mem_append_right _ (List.mem_append_right _ (List.mem_append_right _ (List.mem_append_right _ (List.mem_append_right _ (List.mem_append_left _ (List.mem_of_getElem? (l := tables_1_8) (i := 110) (by decide +kernel))))))))))) (by decide +kernel)
theorem kw_1166 : Cond.instanceMethod y_Bu_measureRaw ∈ wA := kinm (show _ ∈ tables_1 from (List.mem_append_right _ (List.mem_append_right _ (List.mem_append_right _ (List.mem_append_right _ (List.mem_append_right _ (List.mem_append_right _ (List.mem_append_right _ (List.mem_append_left _ (List.mem_of_getElem? (l := tables_1_8) (i := 104) (by decide +kernel))))))))))) (by decide +kernel)
theorem kw_1167 : Cond.selects R_Bu y_Bu_measureRaw y_Bu_measureRaw ∈ wA := kinp 78 (by decide +kernel) (by decide +kernel)
theorem cv_Bu_measureRaw : CV y_Bu_measureRaw b_Bu_measureRaw 1 none 0 := ⟨kw_1166, kw_1167, kw_950, k_Bu_measureRaw, by decide +kernel⟩
theorem ct_Bu_measureRaw {l : Launch} {P : PP} {q : PL} {s s' : S1}  {r : Unit} (h : M_Bu_measureRaw s = some (r, s')) : Ct l y_Bu_measureRaw b_Bu_measureRaw 1 none 3 75 P q s [.ref (q.1 130 0)] none q s' := by
  refine ct_of (by decide) (Nat.le_of_ble_eq_true rfl) fun X ls eP el g hR hl => ?_
  subst eP
  have hR : Rt X q ((r, s') : Unit × S1).2 none := hR
  have hl : lv_has ls 1 [(0, .ref (q.1 130 0))] := hl
  generalize (r, s') = o at h hR
  unfold M_Bu_measureRaw at h
  refine ww_aload_n (pc := 0) g.1 d_Bu_measureRaw_0 rfl (lv_at hl 0 rfl) ?_
  refine ww_gR (pc := 1) g (k := 5) cl_Bu (pz rfl (by decide)) (by decide) (Or.inl kw_976) (f := 16645) (t := 132) rfl rfl rfl d_Bu_measureRaw_1 ?_
  refine ww_iconst (pc := 4) g.1 (v := 0) d_Bu_measureRaw_4 (by decide) ?_
  obtain ⟨v5, s, hc5, h⟩ := oB_of h
  refine ww_callV (pc := 5) (rest := []) g cv_Ro_kindAt (Or.inl kw_983) (cl_Ro ⟨by decide, rfl⟩) (pz rfl (by decide)) (ct_Ro_kindAt ⟨by decide, rfl⟩ hc5) ⟨by decide, by decide⟩ rfl hl.1 (Nat.le_of_ble_eq_true rfl) d_Bu_measureRaw_5 rfl (?_)
  refine ww_st (st' := [.int v5]) rfl ?_
  refine ww_iconst (pc := 8) g.1 (v := 4) d_Bu_measureRaw_8 (by decide) ?_
  refine ww_icmp_ne (pc := 9) (tgt := 29) g.1 d_Bu_measureRaw_9 (by decide) h (fun c h => ?_) (fun c h => ?_)
  · refine ww_aload_n (pc := 29) g.1 d_Bu_measureRaw_29 rfl (lv_at hl 0 rfl) ?_
    obtain ⟨v30, s, hc30, h⟩ := oB_of h
    refine ww_callV (pc := 30) (rest := []) g cv_Bu_hasTable (Or.inl kw_1161) cl_Bu (pz rfl (by decide)) (ct_Bu_hasTable hc30) ⟨by decide, by decide⟩ rfl hl.1 (Nat.le_of_ble_eq_true rfl) d_Bu_measureRaw_30 rfl (?_)
    refine ww_st (st' := [.int v30]) rfl ?_
    refine ww_if_eq (pc := 33) (tgt := 61) g.1 d_Bu_measureRaw_33 (by decide) h (fun c h => ?_) (fun c h => ?_)
    · exact ww_vretH (pc := 61) g h hR d_Bu_measureRaw_61
    · refine ww_aload_n (pc := 36) g.1 d_Bu_measureRaw_36 rfl (lv_at hl 0 rfl) ?_
      refine ww_gR (pc := 37) g (k := 6) cl_Bu (pz rfl (by decide)) (by decide) (Or.inl kw_967) (f := 16646) (t := 135) rfl rfl rfl d_Bu_measureRaw_37 ?_
      refine ww_iconst (pc := 40) g.1 (v := 3) d_Bu_measureRaw_40 (by decide) ?_
      refine ww_aload_n (pc := 41) g.1 d_Bu_measureRaw_41 rfl (lv_at hl 0 rfl) ?_
      refine ww_gR (pc := 42) g (k := 4) cl_Bu (pz rfl (by decide)) (by decide) (Or.inl kw_968) (f := 16644) (t := 120) rfl rfl rfl d_Bu_measureRaw_42 ?_
      refine ww_aload_n (pc := 45) g.1 d_Bu_measureRaw_45 rfl (lv_at hl 0 rfl) ?_
      refine ww_gR (pc := 46) g (k := 5) cl_Bu (pz rfl (by decide)) (by decide) (Or.inl kw_976) (f := 16645) (t := 132) rfl rfl rfl d_Bu_measureRaw_46 ?_
      refine ww_iconst (pc := 49) g.1 (v := 0) d_Bu_measureRaw_49 (by decide) ?_
      obtain ⟨v50, s, hc50, h⟩ := oB_of h
      refine ww_callV (pc := 50) (rest := [.ref (q.1 120 0), .int 3, .ref (q.1 135 0)]) g cv_Ro_valueAt (Or.inl kw_977) (cl_Ro ⟨by decide, rfl⟩) (pz rfl (by decide)) (ct_Ro_valueAt ⟨by decide, rfl⟩ hc50) ⟨by decide, by decide⟩ rfl hl.1 (Nat.le_of_ble_eq_true rfl) d_Bu_measureRaw_50 rfl (?_)
      refine ww_st (st' := [.long v50, .ref (q.1 120 0), .int 3, .ref (q.1 135 0)]) rfl ?_
      refine ww_l2i (pc := 53) g.1 (v := v50.toInt32) d_Bu_measureRaw_53 rfl ?_
      obtain ⟨v54, s, hc54, h⟩ := oB_of h
      refine ww_callV (pc := 54) (rest := [.int 3, .ref (q.1 135 0)]) g cv_Ta_border (Or.inl kw_1165) cl_Ta (pz rfl (by decide)) (ct_Ta_border hc54) ⟨by decide, by decide⟩ rfl hl.1 (Nat.le_of_ble_eq_true rfl) d_Bu_measureRaw_54 rfl (?_)
      refine ww_st (st' := [.int v54, .int 3, .ref (q.1 135 0)]) rfl ?_
      refine ww_i2l (pc := 57) g.1 (v := v54.toInt64) d_Bu_measureRaw_57 rfl ?_
      obtain ⟨v58, s, hc58, h⟩ := oB_of h
      refine ww_callV (pc := 58) (rest := []) g cv_Ro_add (Or.inl kw_971) (cl_Ro ⟨by decide, rfl⟩) (pz rfl (by decide)) (ct_Ro_add ⟨by decide, rfl⟩ hc58) ⟨by decide, by decide⟩ rfl hl.1 (Nat.le_of_ble_eq_true rfl) d_Bu_measureRaw_58 rfl (?_)
      refine ww_st (st' := []) rfl ?_
      exact ww_vretH (pc := 61) g h hR d_Bu_measureRaw_61
  · refine ww_aload_n (pc := 12) g.1 d_Bu_measureRaw_12 rfl (lv_at hl 0 rfl) ?_
    refine ww_gR (pc := 13) g (k := 6) cl_Bu (pz rfl (by decide)) (by decide) (Or.inl kw_967) (f := 16646) (t := 135) rfl rfl rfl d_Bu_measureRaw_13 ?_
    refine ww_iconst (pc := 16) g.1 (v := 3) d_Bu_measureRaw_16 (by decide) ?_
    refine ww_aload_n (pc := 17) g.1 d_Bu_measureRaw_17 rfl (lv_at hl 0 rfl) ?_
    obtain ⟨v18, s, hc18, h⟩ := oB_of h
    refine ww_callV (pc := 18) (rest := [.int 3, .ref (q.1 135 0)]) g cv_Bu_bytesOfFirst (Or.inl kw_984) cl_Bu (pz rfl (by decide)) (ct_Bu_bytesOfFirst hc18) ⟨by decide, by decide⟩ rfl hl.1 (Nat.le_of_ble_eq_true rfl) d_Bu_measureRaw_18 rfl (?_)
    refine ww_st (st' := [.ref (q.1 146 v18), .int 3, .ref (q.1 135 0)]) rfl ?_
    refine ww_pr h fun pr18 h => ?_
    refine ww_ln pr18 h fun n21 hmn21 hnn21 h => ?_
    refine ww_alen (pc := 21) g (n := n21) pr18 (by decide) hmn21 d_Bu_measureRaw_21 ?_
    refine ww_i2l (pc := 22) g.1 (v := n21.toInt64) d_Bu_measureRaw_22 rfl ?_
    obtain ⟨v23, s, hc23, h⟩ := oB_of h
    refine ww_callV (pc := 23) (rest := []) g cv_Ro_add (Or.inl kw_971) (cl_Ro ⟨by decide, rfl⟩) (pz rfl (by decide)) (ct_Ro_add ⟨by decide, rfl⟩ hc23) ⟨by decide, by decide⟩ rfl hl.1 (Nat.le_of_ble_eq_true rfl) d_Bu_measureRaw_23 rfl (?_)
    refine ww_st (st' := []) rfl ?_
    refine ww_goto (pc := 26) (tgt := 61) g.1 d_Bu_measureRaw_26 (by decide) ?_
    exact ww_vretH (pc := 61) g h hR d_Bu_measureRaw_61

abbrev b_Bu_compareRaw : ByteArray := prog_2_method_23_code
def y_Bu_compareRaw : MethodName := ⟨R_Bu, "compareRaw", "()V"⟩
abbrev w_Bu_compareRaw : List Cond := .code y_Bu_compareRaw b_Bu_compareRaw 1 none :: wA
theorem k_Bu_compareRaw : Cond.code y_Bu_compareRaw b_Bu_compareRaw 1 none ∈ wA := kinm (show _ ∈ tables_1 from (List.mem_append_right _ (List.mem_append_right _ (List.mem_append_right _ (List.mem_append_right _ (List.mem_append_right _ (List.mem_append_right _ (List.mem_append_right _ (List.mem_append_left _ (List.mem_of_getElem? (l := tables_1_8) (i := 114) (by decide +kernel))))))))))) (by decide +kernel)
theorem d_Bu_compareRaw_0 : decode b_Bu_compareRaw 0 = .ok (.aload_n 0, 1) := by decide +kernel
theorem d_Bu_compareRaw_1 : decode b_Bu_compareRaw 1 = .ok (.aload_n 0, 1) := by decide +kernel
theorem d_Bu_compareRaw_2 : decode b_Bu_compareRaw 2 = .ok (.getfield 35, 3) := by decide +kernel
theorem d_Bu_compareRaw_5 : decode b_Bu_compareRaw 5 = .ok (.iconst 0, 1) := by decide +kernel
theorem d_Bu_compareRaw_6 : decode b_Bu_compareRaw 6 = .ok (.invokevirtual 67, 3) := by decide +kernel
theorem d_Bu_compareRaw_9 : decode b_Bu_compareRaw 9 = .ok (.aload_n 0, 1) := by decide +kernel
theorem d_Bu_compareRaw_10 : decode b_Bu_compareRaw 10 = .ok (.getfield 35, 3) := by decide +kernel
theorem d_Bu_compareRaw_13 : decode b_Bu_compareRaw 13 = .ok (.iconst 1, 1) := by decide +kernel
theorem d_Bu_compareRaw_14 : decode b_Bu_compareRaw 14 = .ok (.invokevirtual 67, 3) := by decide +kernel
theorem d_Bu_compareRaw_17 : decode b_Bu_compareRaw 17 = .ok (.if_icmp .ne 27, 3) := by decide +kernel
theorem d_Bu_compareRaw_20 : decode b_Bu_compareRaw 20 = .ok (.aload_n 0, 1) := by decide +kernel
theorem d_Bu_compareRaw_21 : decode b_Bu_compareRaw 21 = .ok (.getfield 35, 3) := by decide +kernel
theorem d_Bu_compareRaw_24 : decode b_Bu_compareRaw 24 = .ok (.iconst 0, 1) := by decide +kernel
theorem d_Bu_compareRaw_25 : decode b_Bu_compareRaw 25 = .ok (.invokevirtual 78, 3) := by decide +kernel
theorem d_Bu_compareRaw_28 : decode b_Bu_compareRaw 28 = .ok (.aload_n 0, 1) := by decide +kernel
theorem d_Bu_compareRaw_29 : decode b_Bu_compareRaw 29 = .ok (.getfield 35, 3) := by decide +kernel
theorem d_Bu_compareRaw_32 : decode b_Bu_compareRaw 32 = .ok (.iconst 1, 1) := by decide +kernel
theorem d_Bu_compareRaw_33 : decode b_Bu_compareRaw 33 = .ok (.invokevirtual 78, 3) := by decide +kernel
theorem d_Bu_compareRaw_36 : decode b_Bu_compareRaw 36 = .ok (.lcmp, 1) := by decide +kernel
theorem d_Bu_compareRaw_37 : decode b_Bu_compareRaw 37 = .ok (.ifCond .ne 7, 3) := by decide +kernel
theorem d_Bu_compareRaw_40 : decode b_Bu_compareRaw 40 = .ok (.iconst 1, 1) := by decide +kernel
theorem d_Bu_compareRaw_41 : decode b_Bu_compareRaw 41 = .ok (.goto 4, 3) := by decide +kernel
theorem d_Bu_compareRaw_44 : decode b_Bu_compareRaw 44 = .ok (.iconst 0, 1) := by decide +kernel
theorem d_Bu_compareRaw_45 : decode b_Bu_compareRaw 45 = .ok (.invokevirtual 288, 3) := by decide +kernel
theorem d_Bu_compareRaw_48 : decode b_Bu_compareRaw 48 = .ok (.return_, 1) := by decide +kernel
theorem kw_1168 : Cond.instanceMethod y_Bu_compareRaw ∈ wA := kinm (show _ ∈ tables_1 from (List.mem_append_right _ (List.mem_append_right _ (List.mem_append_right _ (List.mem_append_right _ (List.mem_append_right _ (List.mem_append_right _ (List.mem_append_right _ (List.mem_append_left _ (List.mem_of_getElem? (l := tables_1_8) (i := 113) (by decide +kernel))))))))))) (by decide +kernel)
theorem kw_1169 : Cond.selects R_Bu y_Bu_compareRaw y_Bu_compareRaw ∈ wA := kinp 80 (by decide +kernel) (by decide +kernel)
theorem cv_Bu_compareRaw : CV y_Bu_compareRaw b_Bu_compareRaw 1 none 0 := ⟨kw_1168, kw_1169, kw_950, k_Bu_compareRaw, by decide +kernel⟩
theorem j_Bu_compareRaw_j45 {X : Cx} {q : PL} (g : Gd X y_Bu_compareRaw b_Bu_compareRaw 1 none 2 44 R_Bu) {o : (Unit) × S1} (hR : Rt X q o.2 none) (k0 : Int32) (s : S1) (ls : Array Slot) (hl : lv_has ls 1 []) (h : M_Bu_compareRaw_j45 k0 s = some o) : WW X q s 45 ls [.int k0, .ref (q.1 130 0)] := by
  unfold M_Bu_compareRaw_j45 at h
  obtain ⟨v45, s, hc45, h⟩ := oB_of h
  refine ww_callV (pc := 45) (rest := []) g cv_Bu_addTruth (Or.inl kw_999) cl_Bu (pz rfl (by decide)) (ct_Bu_addTruth hc45) ⟨by decide, by decide⟩ rfl hl.1 (Nat.le_of_ble_eq_true rfl) d_Bu_compareRaw_45 rfl (?_)
  refine ww_st (st' := []) rfl ?_
  exact ww_vretH (pc := 48) g h hR d_Bu_compareRaw_48

theorem j_Bu_compareRaw_j44 {X : Cx} {q : PL} (g : Gd X y_Bu_compareRaw b_Bu_compareRaw 1 none 2 44 R_Bu) {o : (Unit) × S1} (hR : Rt X q o.2 none)  (s : S1) (ls : Array Slot) (hl : lv_has ls 1 []) (h : M_Bu_compareRaw_j44 s = some o) : WW X q s 44 ls [.ref (q.1 130 0)] := by
  unfold M_Bu_compareRaw_j44 at h
  refine ww_iconst (pc := 44) g.1 (v := 0) d_Bu_compareRaw_44 (by decide) ?_
  exact j_Bu_compareRaw_j45 g hR 0 s ls (lv_sub hl [] rfl) h

theorem ct_Bu_compareRaw {l : Launch} {P : PP} {q : PL} {s s' : S1}  {r : Unit} (h : M_Bu_compareRaw s = some (r, s')) : Ct l y_Bu_compareRaw b_Bu_compareRaw 1 none 2 44 P q s [.ref (q.1 130 0)] none q s' := by
  refine ct_of (by decide) (Nat.le_of_ble_eq_true rfl) fun X ls eP el g hR hl => ?_
  subst eP
  have hR : Rt X q ((r, s') : Unit × S1).2 none := hR
  have hl : lv_has ls 1 [(0, .ref (q.1 130 0))] := hl
  generalize (r, s') = o at h hR
  unfold M_Bu_compareRaw at h
  refine ww_aload_n (pc := 0) g.1 d_Bu_compareRaw_0 rfl (lv_at hl 0 rfl) ?_
  refine ww_aload_n (pc := 1) g.1 d_Bu_compareRaw_1 rfl (lv_at hl 0 rfl) ?_
  refine ww_gR (pc := 2) g (k := 5) cl_Bu (pz rfl (by decide)) (by decide) (Or.inl kw_976) (f := 16645) (t := 132) rfl rfl rfl d_Bu_compareRaw_2 ?_
  refine ww_iconst (pc := 5) g.1 (v := 0) d_Bu_compareRaw_5 (by decide) ?_
  obtain ⟨v6, s, hc6, h⟩ := oB_of h
  refine ww_callV (pc := 6) (rest := [.ref (q.1 130 0)]) g cv_Ro_kindAt (Or.inl kw_983) (cl_Ro ⟨by decide, rfl⟩) (pz rfl (by decide)) (ct_Ro_kindAt ⟨by decide, rfl⟩ hc6) ⟨by decide, by decide⟩ rfl hl.1 (Nat.le_of_ble_eq_true rfl) d_Bu_compareRaw_6 rfl (?_)
  refine ww_st (st' := [.int v6, .ref (q.1 130 0)]) rfl ?_
  refine ww_aload_n (pc := 9) g.1 d_Bu_compareRaw_9 rfl (lv_at hl 0 rfl) ?_
  refine ww_gR (pc := 10) g (k := 5) cl_Bu (pz rfl (by decide)) (by decide) (Or.inl kw_976) (f := 16645) (t := 132) rfl rfl rfl d_Bu_compareRaw_10 ?_
  refine ww_iconst (pc := 13) g.1 (v := 1) d_Bu_compareRaw_13 (by decide) ?_
  obtain ⟨v14, s, hc14, h⟩ := oB_of h
  refine ww_callV (pc := 14) (rest := [.int v6, .ref (q.1 130 0)]) g cv_Ro_kindAt (Or.inl kw_983) (cl_Ro ⟨by decide, rfl⟩) (pz rfl (by decide)) (ct_Ro_kindAt ⟨by decide, rfl⟩ hc14) ⟨by decide, by decide⟩ rfl hl.1 (Nat.le_of_ble_eq_true rfl) d_Bu_compareRaw_14 rfl (?_)
  refine ww_st (st' := [.int v14, .int v6, .ref (q.1 130 0)]) rfl ?_
  refine ww_icmp_ne (pc := 17) (tgt := 44) g.1 d_Bu_compareRaw_17 (by decide) h (fun c h => ?_) (fun c h => ?_)
  · exact j_Bu_compareRaw_j44 g hR s ls (lv_sub hl [] rfl) h
  · refine ww_aload_n (pc := 20) g.1 d_Bu_compareRaw_20 rfl (lv_at hl 0 rfl) ?_
    refine ww_gR (pc := 21) g (k := 5) cl_Bu (pz rfl (by decide)) (by decide) (Or.inl kw_976) (f := 16645) (t := 132) rfl rfl rfl d_Bu_compareRaw_21 ?_
    refine ww_iconst (pc := 24) g.1 (v := 0) d_Bu_compareRaw_24 (by decide) ?_
    obtain ⟨v25, s, hc25, h⟩ := oB_of h
    refine ww_callV (pc := 25) (rest := [.ref (q.1 130 0)]) g cv_Ro_valueAt (Or.inl kw_977) (cl_Ro ⟨by decide, rfl⟩) (pz rfl (by decide)) (ct_Ro_valueAt ⟨by decide, rfl⟩ hc25) ⟨by decide, by decide⟩ rfl hl.1 (Nat.le_of_ble_eq_true rfl) d_Bu_compareRaw_25 rfl (?_)
    refine ww_st (st' := [.long v25, .ref (q.1 130 0)]) rfl ?_
    refine ww_aload_n (pc := 28) g.1 d_Bu_compareRaw_28 rfl (lv_at hl 0 rfl) ?_
    refine ww_gR (pc := 29) g (k := 5) cl_Bu (pz rfl (by decide)) (by decide) (Or.inl kw_976) (f := 16645) (t := 132) rfl rfl rfl d_Bu_compareRaw_29 ?_
    refine ww_iconst (pc := 32) g.1 (v := 1) d_Bu_compareRaw_32 (by decide) ?_
    obtain ⟨v33, s, hc33, h⟩ := oB_of h
    refine ww_callV (pc := 33) (rest := [.long v25, .ref (q.1 130 0)]) g cv_Ro_valueAt (Or.inl kw_977) (cl_Ro ⟨by decide, rfl⟩) (pz rfl (by decide)) (ct_Ro_valueAt ⟨by decide, rfl⟩ hc33) ⟨by decide, by decide⟩ rfl hl.1 (Nat.le_of_ble_eq_true rfl) d_Bu_compareRaw_33 rfl (?_)
    refine ww_st (st' := [.long v33, .long v25, .ref (q.1 130 0)]) rfl ?_
    refine ww_lcmp (pc := 36) g.1 d_Bu_compareRaw_36 ?_
    refine ww_if_ne (pc := 37) (tgt := 44) g.1 d_Bu_compareRaw_37 (by decide) h (fun c h => ?_) (fun c h => ?_)
    · exact j_Bu_compareRaw_j44 g hR s ls (lv_sub hl [] rfl) h
    · refine ww_iconst (pc := 40) g.1 (v := 1) d_Bu_compareRaw_40 (by decide) ?_
      refine ww_goto (pc := 41) (tgt := 45) g.1 d_Bu_compareRaw_41 (by decide) ?_
      exact j_Bu_compareRaw_j45 g hR 1 s ls (lv_sub hl [] rfl) h

abbrev b_Bu_next : ByteArray := prog_2_method_24_code
def y_Bu_next : MethodName := ⟨R_Bu, "next", "()V"⟩
abbrev w_Bu_next : List Cond := .code y_Bu_next b_Bu_next 5 none :: wA
set_option maxRecDepth 20000 in
theorem k_Bu_next : Cond.code y_Bu_next b_Bu_next 5 none ∈ wA := kinm (show _ ∈ tables_1 from (List.mem_append_right _ (List.mem_append_right _ (List.mem_append_right _ (List.mem_append_right _ (List.mem_append_right _ (List.mem_append_right _ (List.mem_append_right _ (List.mem_append_left _ (List.mem_of_getElem? (l := tables_1_8) (i := 122) rfl)))))))))) rfl
theorem d_Bu_next_0 : decode b_Bu_next 0 = .ok (.aload_n 0, 1) := by decide +kernel
theorem d_Bu_next_1 : decode b_Bu_next 1 = .ok (.invokevirtual 263, 3) := by decide +kernel
theorem d_Bu_next_4 : decode b_Bu_next 4 = .ok (.ifCond .ne 4, 3) := by decide +kernel
theorem d_Bu_next_7 : decode b_Bu_next 7 = .ok (.return_, 1) := by decide +kernel
theorem d_Bu_next_8 : decode b_Bu_next 8 = .ok (.aload_n 0, 1) := by decide +kernel
theorem d_Bu_next_9 : decode b_Bu_next 9 = .ok (.getfield 35, 3) := by decide +kernel
theorem d_Bu_next_12 : decode b_Bu_next 12 = .ok (.iconst 0, 1) := by decide +kernel
theorem d_Bu_next_13 : decode b_Bu_next 13 = .ok (.invokevirtual 78, 3) := by decide +kernel
theorem d_Bu_next_16 : decode b_Bu_next 16 = .ok (.l2i, 1) := by decide +kernel
theorem d_Bu_next_17 : decode b_Bu_next 17 = .ok (.istore_n 1, 1) := by decide +kernel
theorem d_Bu_next_18 : decode b_Bu_next 18 = .ok (.aload_n 0, 1) := by decide +kernel
theorem d_Bu_next_19 : decode b_Bu_next 19 = .ok (.getfield 25, 3) := by decide +kernel
theorem d_Bu_next_22 : decode b_Bu_next 22 = .ok (.getfield 149, 3) := by decide +kernel
theorem d_Bu_next_25 : decode b_Bu_next 25 = .ok (.iload_n 1, 1) := by decide +kernel
theorem d_Bu_next_26 : decode b_Bu_next 26 = .ok (.aaload, 1) := by decide +kernel
theorem d_Bu_next_27 : decode b_Bu_next 27 = .ok (.astore_n 2, 1) := by decide +kernel
theorem d_Bu_next_28 : decode b_Bu_next 28 = .ok (.aload_n 2, 1) := by decide +kernel
theorem d_Bu_next_29 : decode b_Bu_next 29 = .ok (.getfield 292, 3) := by decide +kernel
theorem d_Bu_next_32 : decode b_Bu_next 32 = .ok (.istore_n 3, 1) := by decide +kernel
theorem d_Bu_next_33 : decode b_Bu_next 33 = .ok (.aload_n 0, 1) := by decide +kernel
theorem d_Bu_next_34 : decode b_Bu_next 34 = .ok (.getfield 35, 3) := by decide +kernel
theorem d_Bu_next_37 : decode b_Bu_next 37 = .ok (.iconst 1, 1) := by decide +kernel
theorem d_Bu_next_38 : decode b_Bu_next 38 = .ok (.invokevirtual 67, 3) := by decide +kernel
theorem d_Bu_next_41 : decode b_Bu_next 41 = .ok (.ifCond .eq 49, 3) := by decide +kernel
theorem d_Bu_next_44 : decode b_Bu_next 44 = .ok (.aload_n 0, 1) := by decide +kernel
theorem d_Bu_next_45 : decode b_Bu_next 45 = .ok (.getfield 30, 3) := by decide +kernel
theorem d_Bu_next_48 : decode b_Bu_next 48 = .ok (.iload_n 1, 1) := by decide +kernel
theorem d_Bu_next_49 : decode b_Bu_next 49 = .ok (.aload_n 0, 1) := by decide +kernel
theorem d_Bu_next_50 : decode b_Bu_next 50 = .ok (.getfield 35, 3) := by decide +kernel
theorem d_Bu_next_53 : decode b_Bu_next 53 = .ok (.iconst 1, 1) := by decide +kernel
theorem d_Bu_next_54 : decode b_Bu_next 54 = .ok (.invokevirtual 67, 3) := by decide +kernel
theorem d_Bu_next_57 : decode b_Bu_next 57 = .ok (.aload_n 0, 1) := by decide +kernel
theorem d_Bu_next_58 : decode b_Bu_next 58 = .ok (.getfield 35, 3) := by decide +kernel
theorem d_Bu_next_61 : decode b_Bu_next 61 = .ok (.iconst 1, 1) := by decide +kernel
theorem d_Bu_next_62 : decode b_Bu_next 62 = .ok (.invokevirtual 78, 3) := by decide +kernel
theorem d_Bu_next_65 : decode b_Bu_next 65 = .ok (.invokevirtual 273, 3) := by decide +kernel
theorem d_Bu_next_68 : decode b_Bu_next 68 = .ok (.istore 4, 2) := by decide +kernel
theorem d_Bu_next_70 : decode b_Bu_next 70 = .ok (.iload 4, 2) := by decide +kernel
theorem d_Bu_next_72 : decode b_Bu_next 72 = .ok (.ifCond .ge 13, 3) := by decide +kernel
theorem d_Bu_next_75 : decode b_Bu_next 75 = .ok (.aload_n 0, 1) := by decide +kernel
theorem d_Bu_next_76 : decode b_Bu_next 76 = .ok (.getfield 15, 3) := by decide +kernel
theorem d_Bu_next_79 : decode b_Bu_next 79 = .ok (.bipush 6, 2) := by decide +kernel
theorem d_Bu_next_81 : decode b_Bu_next 81 = .ok (.invokevirtual 145, 3) := by decide +kernel
theorem d_Bu_next_84 : decode b_Bu_next 84 = .ok (.return_, 1) := by decide +kernel
theorem d_Bu_next_85 : decode b_Bu_next 85 = .ok (.iload 4, 2) := by decide +kernel
theorem d_Bu_next_87 : decode b_Bu_next 87 = .ok (.iconst 1, 1) := by decide +kernel
theorem d_Bu_next_88 : decode b_Bu_next 88 = .ok (.iadd, 1) := by decide +kernel
theorem d_Bu_next_89 : decode b_Bu_next 89 = .ok (.istore_n 3, 1) := by decide +kernel
theorem d_Bu_next_90 : decode b_Bu_next 90 = .ok (.iload_n 3, 1) := by decide +kernel
theorem d_Bu_next_91 : decode b_Bu_next 91 = .ok (.istore 4, 2) := by decide +kernel
theorem d_Bu_next_93 : decode b_Bu_next 93 = .ok (.iload 4, 2) := by decide +kernel
theorem d_Bu_next_95 : decode b_Bu_next 95 = .ok (.aload_n 2, 1) := by decide +kernel
theorem d_Bu_next_96 : decode b_Bu_next 96 = .ok (.getfield 292, 3) := by decide +kernel
theorem d_Bu_next_99 : decode b_Bu_next 99 = .ok (.aload_n 2, 1) := by decide +kernel
theorem d_Bu_next_100 : decode b_Bu_next 100 = .ok (.getfield 295, 3) := by decide +kernel
theorem d_Bu_next_103 : decode b_Bu_next 103 = .ok (.iadd, 1) := by decide +kernel
theorem d_Bu_next_104 : decode b_Bu_next 104 = .ok (.if_icmp .ge 56, 3) := by decide +kernel
theorem d_Bu_next_107 : decode b_Bu_next 107 = .ok (.aload_n 0, 1) := by decide +kernel
theorem d_Bu_next_108 : decode b_Bu_next 108 = .ok (.getfield 30, 3) := by decide +kernel
theorem d_Bu_next_111 : decode b_Bu_next 111 = .ok (.getfield 158, 3) := by decide +kernel
theorem d_Bu_next_114 : decode b_Bu_next 114 = .ok (.iload 4, 2) := by decide +kernel
theorem d_Bu_next_116 : decode b_Bu_next 116 = .ok (.baload, 1) := by decide +kernel
theorem d_Bu_next_117 : decode b_Bu_next 117 = .ok (.ifCond .eq 37, 3) := by decide +kernel
theorem d_Bu_next_120 : decode b_Bu_next 120 = .ok (.aload_n 0, 1) := by decide +kernel
theorem d_Bu_next_121 : decode b_Bu_next 121 = .ok (.getfield 39, 3) := by decide +kernel
theorem d_Bu_next_124 : decode b_Bu_next 124 = .ok (.aload_n 0, 1) := by decide +kernel
theorem d_Bu_next_125 : decode b_Bu_next 125 = .ok (.getfield 30, 3) := by decide +kernel
theorem d_Bu_next_128 : decode b_Bu_next 128 = .ok (.getfield 298, 3) := by decide +kernel
theorem d_Bu_next_131 : decode b_Bu_next 131 = .ok (.iload 4, 2) := by decide +kernel
theorem d_Bu_next_133 : decode b_Bu_next 133 = .ok (.baload, 1) := by decide +kernel
theorem d_Bu_next_134 : decode b_Bu_next 134 = .ok (.aload_n 0, 1) := by decide +kernel
theorem d_Bu_next_135 : decode b_Bu_next 135 = .ok (.getfield 30, 3) := by decide +kernel
theorem d_Bu_next_138 : decode b_Bu_next 138 = .ok (.getfield 301, 3) := by decide +kernel
theorem d_Bu_next_141 : decode b_Bu_next 141 = .ok (.iload 4, 2) := by decide +kernel
theorem d_Bu_next_143 : decode b_Bu_next 143 = .ok (.laload, 1) := by decide +kernel
theorem d_Bu_next_144 : decode b_Bu_next 144 = .ok (.invokevirtual 74, 3) := by decide +kernel
theorem d_Bu_next_147 : decode b_Bu_next 147 = .ok (.aload_n 0, 1) := by decide +kernel
theorem d_Bu_next_148 : decode b_Bu_next 148 = .ok (.iload 4, 2) := by decide +kernel
theorem d_Bu_next_150 : decode b_Bu_next 150 = .ok (.invokevirtual 270, 3) := by decide +kernel
theorem d_Bu_next_153 : decode b_Bu_next 153 = .ok (.return_, 1) := by decide +kernel
theorem d_Bu_next_154 : decode b_Bu_next 154 = .ok (.iinc 4 1, 3) := by decide +kernel
theorem d_Bu_next_157 : decode b_Bu_next 157 = .ok (.goto (-64), 3) := by decide +kernel
theorem d_Bu_next_160 : decode b_Bu_next 160 = .ok (.aload_n 0, 1) := by decide +kernel
theorem d_Bu_next_161 : decode b_Bu_next 161 = .ok (.getfield 39, 3) := by decide +kernel
theorem d_Bu_next_164 : decode b_Bu_next 164 = .ok (.iconst 0, 1) := by decide +kernel
theorem d_Bu_next_165 : decode b_Bu_next 165 = .ok (.lconst 0, 1) := by decide +kernel
theorem d_Bu_next_166 : decode b_Bu_next 166 = .ok (.invokevirtual 74, 3) := by decide +kernel
theorem d_Bu_next_169 : decode b_Bu_next 169 = .ok (.return_, 1) := by decide +kernel
theorem kw_1170 : Cond.fieldLink R_Bu 292 "LuaMachine$Thing" "start" "I" ∈ wA := kinm (show _ ∈ tables_1 from (List.mem_append_right _ (List.mem_append_right _ (List.mem_append_right _ (List.mem_append_right _ (List.mem_append_left _ (List.mem_of_getElem? (l := tables_1_5) (i := 193) (by decide +kernel)))))))) (by decide +kernel)
theorem kw_1171 : Cond.fieldLink R_Bu 295 "LuaMachine$Thing" "entries" "I" ∈ wA := kinm (show _ ∈ tables_1 from (List.mem_append_right _ (List.mem_append_right _ (List.mem_append_right _ (List.mem_append_right _ (List.mem_append_left _ (List.mem_of_getElem? (l := tables_1_5) (i := 198) (by decide +kernel)))))))) (by decide +kernel)
theorem kw_1172 : Cond.fieldLink R_Bu 298 "LuaMachine$Tables" "keyKinds" "[B" ∈ wA := kinm (show _ ∈ tables_1 from (List.mem_append_left _ (List.mem_of_getElem? (l := tables_1_1) (i := 214) (by decide +kernel)))) (by decide +kernel)
theorem kw_1173 : Cond.fieldLink R_Bu 301 "LuaMachine$Tables" "keys" "[J" ∈ wA := kinm (show _ ∈ tables_1 from (List.mem_append_left _ (List.mem_of_getElem? (l := tables_1_1) (i := 217) (by decide +kernel)))) (by decide +kernel)
theorem kw_1174 : Cond.instanceMethod y_Bu_next ∈ wA := kinm (show _ ∈ tables_1 from (List.mem_append_right _ (List.mem_append_right _ (List.mem_append_right _ (List.mem_append_right _ (List.mem_append_right _ (List.mem_append_right _ (List.mem_append_right _ (List.mem_append_left _ (List.mem_of_getElem? (l := tables_1_8) (i := 121) (by decide +kernel))))))))))) (by decide +kernel)
theorem kw_1175 : Cond.selects R_Bu y_Bu_next y_Bu_next ∈ wA := kinp 82 (by decide +kernel) (by decide +kernel)
theorem cv_Bu_next : CV y_Bu_next b_Bu_next 5 none 0 := ⟨kw_1174, kw_1175, kw_950, k_Bu_next, by decide +kernel⟩
theorem lp_Bu_next_L93 {X : Cx} {q : PL} (g : Gd X y_Bu_next b_Bu_next 5 none 3 64 R_Bu) (x : Int32 × Int32) (s : S1) (o : ((Int32 × Int32) ⊕ ((Int32) ⊕ (Unit))) × S1) (h : M_Bu_next_L93 x s = some o) (hR : (Sum.elim (fun y : Int32 × Int32 => ∀ ls : Array Slot, (prs o.2 145 y.1) → lv_has ls 5 [(0, .ref (q.1 130 0)), (2, .ref (q.1 145 y.1)), (4, .int y.2)] → WW X q o.2 93 ls []) (Sum.elim (fun y : Int32 => ∀ ls : Array Slot, lv_has ls 5 [(0, .ref (q.1 130 0)), (4, .int y)] → WW X q o.2 120 ls []) (fun y : Unit => ∀ ls : Array Slot, lv_has ls 5 [(0, .ref (q.1 130 0))] → WW X q o.2 160 ls [])) o.1)) : ∀ ls : Array Slot, (prs s 145 x.1) → lv_has ls 5 [(0, .ref (q.1 130 0)), (2, .ref (q.1 145 x.1)), (4, .int x.2)] → WW X q s 93 ls [] := by
  intro ls hp0 hl
  unfold M_Bu_next_L93 at h
  refine ww_iload (pc := 93) g.1 d_Bu_next_93 (lv_at hl 2 rfl) ?_
  refine ww_aload_n (pc := 95) g.1 d_Bu_next_95 rfl (lv_at hl 1 rfl) ?_
  refine ww_gI (pc := 96) g (k := 11) cl_Tg hp0 (by decide) (Or.inl kw_1170) (f := 18571) rfl rfl d_Bu_next_96 h fun v96 h => ?_
  refine ww_aload_n (pc := 99) g.1 d_Bu_next_99 rfl (lv_at hl 1 rfl) ?_
  refine ww_gI (pc := 100) g (k := 13) cl_Tg hp0 (by decide) (Or.inl kw_1171) (f := 18573) rfl rfl d_Bu_next_100 h fun v100 h => ?_
  refine ww_iadd (pc := 103) g.1 d_Bu_next_103 ?_
  refine ww_icmp_ge (pc := 104) (tgt := 160) g.1 d_Bu_next_104 (by decide) h (fun c h => ?_) (fun c h => ?_)
  · rw [oR_eq h] at hR
    exact hR ls (lv_sub hl [0] rfl)
  · refine ww_aload_n (pc := 107) g.1 d_Bu_next_107 rfl (lv_at hl 0 rfl) ?_
    refine ww_gR (pc := 108) g (k := 4) cl_Bu (pz rfl (by decide)) (by decide) (Or.inl kw_968) (f := 16644) (t := 120) rfl rfl rfl d_Bu_next_108 ?_
    refine ww_gR (pc := 111) g (k := 2) cl_Ta (pz rfl (by decide)) (by decide) (Or.inl kw_969) (f := 15362) (t := 123) rfl rfl rfl d_Bu_next_111 ?_
    refine ww_iload (pc := 114) g.1 d_Bu_next_114 (lv_at hl 2 rfl) ?_
    refine ww_ab (pc := 116) g (pz rfl (by decide)) rfl rfl d_Bu_next_116 h fun v116 h => ?_
    refine ww_if_eq (pc := 117) (tgt := 154) g.1 d_Bu_next_117 (by decide) h (fun c h => ?_) (fun c h => ?_)
    · refine ww_iinc (pc := 154) g.1 (v := x.2 + 1) (lv' := [(4, .int (x.2 + 1)), (0, .ref (q.1 130 0)), (2, .ref (q.1 145 x.1))]) d_Bu_next_154 hl (k := 2) rfl (by rfl) (by decide) rfl fun ls hl => ?_
      refine ww_goto (pc := 157) (tgt := 93) g.1 d_Bu_next_157 (by decide) ?_
      rw [oR_eq h] at hR
      exact hR ls hp0 (lv_sub hl [1, 2, 0] rfl)
    · rw [oR_eq h] at hR
      exact hR ls (lv_sub hl [0, 2] rfl)

theorem j_Bu_next_j90 {X : Cx} {q : PL} (g : Gd X y_Bu_next b_Bu_next 5 none 3 64 R_Bu) {o : (Unit) × S1} (hR : Rt X q o.2 none) (l2 : Int32) (l3 : Int32) (s : S1) (hp0 : prs s 145 l2) (ls : Array Slot) (hl : lv_has ls 5 [(0, .ref (q.1 130 0)), (2, .ref (q.1 145 l2)), (3, .int l3)]) (h : M_Bu_next_j90 l2 l3 s = some o) : WW X q s 90 ls [] := by
  unfold M_Bu_next_j90 at h
  refine ww_iload_n (pc := 90) g.1 d_Bu_next_90 rfl (lv_at hl 2 rfl) ?_
  refine ww_istore (pc := 91) (i := 4) g.1 (lv' := [(4, .int l3), (0, .ref (q.1 130 0)), (2, .ref (q.1 145 l2)), (3, .int l3)]) d_Bu_next_91 hl (by decide) rfl fun ls hl => ?_
  obtain ⟨e93, s1, hw, h⟩ := oB_of h
  refine oW_rule (Wh := fun (x : Int32 × Int32) (s : S1) => ∀ ls : Array Slot, (prs s 145 x.1) → lv_has ls 5 [(0, .ref (q.1 130 0)), (2, .ref (q.1 145 x.1)), (4, .int x.2)] → WW X q s 93 ls []) (We := fun (e : (Int32) ⊕ (Unit)) (s : S1) => (Sum.elim (fun y : Int32 => ∀ ls : Array Slot, lv_has ls 5 [(0, .ref (q.1 130 0)), (4, .int y)] → WW X q s 120 ls []) (fun y : Unit => ∀ ls : Array Slot, lv_has ls 5 [(0, .ref (q.1 130 0))] → WW X q s 160 ls [])) e) (fun x s o hb hc => lp_Bu_next_L93 (q := q) g x s o hb hc) hw ?_ ls hp0 (lv_sub hl [1, 2, 0] rfl)
  clear hw hl
  clear ls
  generalize s1 = s at h ⊢
  rcases e93 with y93_120 | y93_160
  · intro ls hl
    dsimp only [Sum.elim_inl, Sum.elim_inr] at h
    refine ww_aload_n (pc := 120) g.1 d_Bu_next_120 rfl (lv_at hl 0 rfl) ?_
    refine ww_gR (pc := 121) g (k := 6) cl_Bu (pz rfl (by decide)) (by decide) (Or.inl kw_967) (f := 16646) (t := 135) rfl rfl rfl d_Bu_next_121 ?_
    refine ww_aload_n (pc := 124) g.1 d_Bu_next_124 rfl (lv_at hl 0 rfl) ?_
    refine ww_gR (pc := 125) g (k := 4) cl_Bu (pz rfl (by decide)) (by decide) (Or.inl kw_968) (f := 16644) (t := 120) rfl rfl rfl d_Bu_next_125 ?_
    refine ww_gR (pc := 128) g (k := 0) cl_Ta (pz rfl (by decide)) (by decide) (Or.inl kw_1172) (f := 15360) (t := 121) rfl rfl rfl d_Bu_next_128 ?_
    refine ww_iload (pc := 131) g.1 d_Bu_next_131 (lv_at hl 1 rfl) ?_
    refine ww_ab (pc := 133) g (pz rfl (by decide)) rfl rfl d_Bu_next_133 h fun v133 h => ?_
    refine ww_aload_n (pc := 134) g.1 d_Bu_next_134 rfl (lv_at hl 0 rfl) ?_
    refine ww_gR (pc := 135) g (k := 4) cl_Bu (pz rfl (by decide)) (by decide) (Or.inl kw_968) (f := 16644) (t := 120) rfl rfl rfl d_Bu_next_135 ?_
    refine ww_gR (pc := 138) g (k := 1) cl_Ta (pz rfl (by decide)) (by decide) (Or.inl kw_1173) (f := 15361) (t := 122) rfl rfl rfl d_Bu_next_138 ?_
    refine ww_iload (pc := 141) g.1 d_Bu_next_141 (lv_at hl 1 rfl) ?_
    refine ww_al (pc := 143) g (pz rfl (by decide)) rfl rfl d_Bu_next_143 h fun v143 h => ?_
    obtain ⟨v144, s, hc144, h⟩ := oB_of h
    refine ww_callV (pc := 144) (rest := []) g cv_Ro_add (Or.inl kw_971) (cl_Ro ⟨by decide, rfl⟩) (pz rfl (by decide)) (ct_Ro_add ⟨by decide, rfl⟩ hc144) ⟨by decide, by decide⟩ rfl hl.1 (Nat.le_of_ble_eq_true rfl) d_Bu_next_144 rfl (?_)
    refine ww_st (st' := []) rfl ?_
    refine ww_aload_n (pc := 147) g.1 d_Bu_next_147 rfl (lv_at hl 0 rfl) ?_
    refine ww_iload (pc := 148) g.1 d_Bu_next_148 (lv_at hl 1 rfl) ?_
    obtain ⟨v150, s, hc150, h⟩ := oB_of h
    refine ww_callV (pc := 150) (rest := []) g cv_Bu_addEntry (Or.inl kw_1157) cl_Bu (pz rfl (by decide)) (ct_Bu_addEntry hc150) ⟨by decide, by decide⟩ rfl hl.1 (Nat.le_of_ble_eq_true rfl) d_Bu_next_150 rfl (?_)
    refine ww_st (st' := []) rfl ?_
    exact ww_vretH (pc := 153) g h hR d_Bu_next_153
  · intro ls hl
    dsimp only [Sum.elim_inl, Sum.elim_inr] at h
    refine ww_aload_n (pc := 160) g.1 d_Bu_next_160 rfl (lv_at hl 0 rfl) ?_
    refine ww_gR (pc := 161) g (k := 6) cl_Bu (pz rfl (by decide)) (by decide) (Or.inl kw_967) (f := 16646) (t := 135) rfl rfl rfl d_Bu_next_161 ?_
    refine ww_iconst (pc := 164) g.1 (v := 0) d_Bu_next_164 (by decide) ?_
    refine ww_lconst (pc := 165) g.1 (v := 0) d_Bu_next_165 (by decide) ?_
    obtain ⟨v166, s, hc166, h⟩ := oB_of h
    refine ww_callV (pc := 166) (rest := []) g cv_Ro_add (Or.inl kw_971) (cl_Ro ⟨by decide, rfl⟩) (pz rfl (by decide)) (ct_Ro_add ⟨by decide, rfl⟩ hc166) ⟨by decide, by decide⟩ rfl hl.1 (Nat.le_of_ble_eq_true rfl) d_Bu_next_166 rfl (?_)
    refine ww_st (st' := []) rfl ?_
    exact ww_vretH (pc := 169) g h hR d_Bu_next_169

theorem ct_Bu_next {l : Launch} {P : PP} {q : PL} {s s' : S1}  {r : Unit} (h : M_Bu_next s = some (r, s')) : Ct l y_Bu_next b_Bu_next 5 none 3 64 P q s [.ref (q.1 130 0)] none q s' := by
  refine ct_of (by decide) (Nat.le_of_ble_eq_true rfl) fun X ls eP el g hR hl => ?_
  subst eP
  have hR : Rt X q ((r, s') : Unit × S1).2 none := hR
  have hl : lv_has ls 5 [(0, .ref (q.1 130 0))] := hl
  generalize (r, s') = o at h hR
  unfold M_Bu_next at h
  refine ww_aload_n (pc := 0) g.1 d_Bu_next_0 rfl (lv_at hl 0 rfl) ?_
  obtain ⟨v1, s, hc1, h⟩ := oB_of h
  refine ww_callV (pc := 1) (rest := []) g cv_Bu_hasTable (Or.inl kw_1161) cl_Bu (pz rfl (by decide)) (ct_Bu_hasTable hc1) ⟨by decide, by decide⟩ rfl hl.1 (Nat.le_of_ble_eq_true rfl) d_Bu_next_1 rfl (?_)
  refine ww_st (st' := [.int v1]) rfl ?_
  refine ww_if_ne (pc := 4) (tgt := 8) g.1 d_Bu_next_4 (by decide) h (fun c h => ?_) (fun c h => ?_)
  · refine ww_aload_n (pc := 8) g.1 d_Bu_next_8 rfl (lv_at hl 0 rfl) ?_
    refine ww_gR (pc := 9) g (k := 5) cl_Bu (pz rfl (by decide)) (by decide) (Or.inl kw_976) (f := 16645) (t := 132) rfl rfl rfl d_Bu_next_9 ?_
    refine ww_iconst (pc := 12) g.1 (v := 0) d_Bu_next_12 (by decide) ?_
    obtain ⟨v13, s, hc13, h⟩ := oB_of h
    refine ww_callV (pc := 13) (rest := []) g cv_Ro_valueAt (Or.inl kw_977) (cl_Ro ⟨by decide, rfl⟩) (pz rfl (by decide)) (ct_Ro_valueAt ⟨by decide, rfl⟩ hc13) ⟨by decide, by decide⟩ rfl hl.1 (Nat.le_of_ble_eq_true rfl) d_Bu_next_13 rfl (?_)
    refine ww_st (st' := [.long v13]) rfl ?_
    refine ww_l2i (pc := 16) g.1 (v := v13.toInt32) d_Bu_next_16 rfl ?_
    refine ww_istore_n (pc := 17) (i := 1) g.1 (lv' := [(1, .int v13.toInt32), (0, .ref (q.1 130 0))]) d_Bu_next_17 rfl hl (by decide) rfl fun ls hl => ?_
    refine ww_aload_n (pc := 18) g.1 d_Bu_next_18 rfl (lv_at hl 1 rfl) ?_
    refine ww_gR (pc := 19) g (k := 3) cl_Bu (pz rfl (by decide)) (by decide) (Or.inl kw_974) (f := 16643) (t := 111) rfl rfl rfl d_Bu_next_19 ?_
    refine ww_gR (pc := 22) g (k := 0) cl_He (pz rfl (by decide)) (by decide) (Or.inl kw_975) (f := 14208) (t := 112) rfl rfl rfl d_Bu_next_22 ?_
    refine ww_iload_n (pc := 25) g.1 d_Bu_next_25 rfl (lv_at hl 0 rfl) ?_
    refine ww_a8 (pc := 26) g (t := 145) (n := 4000) (pz rfl (by decide)) rfl rfl rfl rfl d_Bu_next_26 h fun pa26 h => ?_
    refine ww_astore_n (pc := 27) (i := 2) g.1 (lv' := [(2, .ref (q.1 145 v13.toInt32)), (1, .int v13.toInt32), (0, .ref (q.1 130 0))]) d_Bu_next_27 rfl hl (by decide) rfl fun ls hl => ?_
    refine ww_aload_n (pc := 28) g.1 d_Bu_next_28 rfl (lv_at hl 0 rfl) ?_
    refine ww_gI (pc := 29) g (k := 11) cl_Tg pa26 (by decide) (Or.inl kw_1170) (f := 18571) rfl rfl d_Bu_next_29 h fun v29 h => ?_
    refine ww_istore_n (pc := 32) (i := 3) g.1 (lv' := [(3, .int v29), (2, .ref (q.1 145 v13.toInt32)), (1, .int v13.toInt32), (0, .ref (q.1 130 0))]) d_Bu_next_32 rfl hl (by decide) rfl fun ls hl => ?_
    refine ww_aload_n (pc := 33) g.1 d_Bu_next_33 rfl (lv_at hl 3 rfl) ?_
    refine ww_gR (pc := 34) g (k := 5) cl_Bu (pz rfl (by decide)) (by decide) (Or.inl kw_976) (f := 16645) (t := 132) rfl rfl rfl d_Bu_next_34 ?_
    refine ww_iconst (pc := 37) g.1 (v := 1) d_Bu_next_37 (by decide) ?_
    refine ww_lo fun dlo => ?_
    obtain ⟨v38, s, hc38, h⟩ := oB_of h
    refine ww_callV (pc := 38) (rest := []) g cv_Ro_kindAt (Or.inl kw_983) (cl_Ro ⟨by decide, rfl⟩) (pz rfl (by decide)) (ct_Ro_kindAt ⟨by decide, rfl⟩ hc38) ⟨by decide, by decide⟩ rfl hl.1 (Nat.le_of_ble_eq_true rfl) d_Bu_next_38 rfl (?_)
    refine ww_st (st' := [.int v38]) rfl ?_
    refine ww_hi fun dhi => ?_
    have pa26 : prs s 145 v13.toInt32 := dhi _ _ pa26.2.1 pa26.2.2 (dlo _ _ pa26)
    refine ww_if_eq (pc := 41) (tgt := 90) g.1 d_Bu_next_41 (by decide) h (fun c h => ?_) (fun c h => ?_)
    · exact j_Bu_next_j90 g hR v13.toInt32 v29 s pa26 ls (lv_sub hl [3, 1, 0] rfl) h
    · refine ww_aload_n (pc := 44) g.1 d_Bu_next_44 rfl (lv_at hl 3 rfl) ?_
      refine ww_gR (pc := 45) g (k := 4) cl_Bu (pz rfl (by decide)) (by decide) (Or.inl kw_968) (f := 16644) (t := 120) rfl rfl rfl d_Bu_next_45 ?_
      refine ww_iload_n (pc := 48) g.1 d_Bu_next_48 rfl (lv_at hl 2 rfl) ?_
      refine ww_aload_n (pc := 49) g.1 d_Bu_next_49 rfl (lv_at hl 3 rfl) ?_
      refine ww_gR (pc := 50) g (k := 5) cl_Bu (pz rfl (by decide)) (by decide) (Or.inl kw_976) (f := 16645) (t := 132) rfl rfl rfl d_Bu_next_50 ?_
      refine ww_iconst (pc := 53) g.1 (v := 1) d_Bu_next_53 (by decide) ?_
      refine ww_lo fun dlo => ?_
      obtain ⟨v54, s, hc54, h⟩ := oB_of h
      refine ww_callV (pc := 54) (rest := [.int v13.toInt32, .ref (q.1 120 0)]) g cv_Ro_kindAt (Or.inl kw_983) (cl_Ro ⟨by decide, rfl⟩) (pz rfl (by decide)) (ct_Ro_kindAt ⟨by decide, rfl⟩ hc54) ⟨by decide, by decide⟩ rfl hl.1 (Nat.le_of_ble_eq_true rfl) d_Bu_next_54 rfl (?_)
      refine ww_st (st' := [.int v54, .int v13.toInt32, .ref (q.1 120 0)]) rfl ?_
      refine ww_hi fun dhi => ?_
      have pa26 : prs s 145 v13.toInt32 := dhi _ _ pa26.2.1 pa26.2.2 (dlo _ _ pa26)
      refine ww_aload_n (pc := 57) g.1 d_Bu_next_57 rfl (lv_at hl 3 rfl) ?_
      refine ww_gR (pc := 58) g (k := 5) cl_Bu (pz rfl (by decide)) (by decide) (Or.inl kw_976) (f := 16645) (t := 132) rfl rfl rfl d_Bu_next_58 ?_
      refine ww_iconst (pc := 61) g.1 (v := 1) d_Bu_next_61 (by decide) ?_
      refine ww_lo fun dlo => ?_
      obtain ⟨v62, s, hc62, h⟩ := oB_of h
      refine ww_callV (pc := 62) (rest := [.int v54, .int v13.toInt32, .ref (q.1 120 0)]) g cv_Ro_valueAt (Or.inl kw_977) (cl_Ro ⟨by decide, rfl⟩) (pz rfl (by decide)) (ct_Ro_valueAt ⟨by decide, rfl⟩ hc62) ⟨by decide, by decide⟩ rfl hl.1 (Nat.le_of_ble_eq_true rfl) d_Bu_next_62 rfl (?_)
      refine ww_st (st' := [.long v62, .int v54, .int v13.toInt32, .ref (q.1 120 0)]) rfl ?_
      refine ww_hi fun dhi => ?_
      have pa26 : prs s 145 v13.toInt32 := dhi _ _ pa26.2.1 pa26.2.2 (dlo _ _ pa26)
      refine ww_lo fun dlo => ?_
      obtain ⟨v65, s, hc65, h⟩ := oB_of h
      refine ww_callV (pc := 65) (rest := []) g cv_Ta_find (Or.inl kw_1162) cl_Ta (pz rfl (by decide)) (ct_Ta_find hc65) ⟨by decide, by decide⟩ rfl hl.1 (Nat.le_of_ble_eq_true rfl) d_Bu_next_65 rfl (?_)
      refine ww_st (st' := [.int v65]) rfl ?_
      refine ww_hi fun dhi => ?_
      have pa26 : prs s 145 v13.toInt32 := dhi _ _ pa26.2.1 pa26.2.2 (dlo _ _ pa26)
      refine ww_istore (pc := 68) (i := 4) g.1 (lv' := [(4, .int v65), (3, .int v29), (2, .ref (q.1 145 v13.toInt32)), (1, .int v13.toInt32), (0, .ref (q.1 130 0))]) d_Bu_next_68 hl (by decide) rfl fun ls hl => ?_
      refine ww_iload (pc := 70) g.1 d_Bu_next_70 (lv_at hl 0 rfl) ?_
      refine ww_if_ge (pc := 72) (tgt := 85) g.1 d_Bu_next_72 (by decide) h (fun c h => ?_) (fun c h => ?_)
      · refine ww_iload (pc := 85) g.1 d_Bu_next_85 (lv_at hl 0 rfl) ?_
        refine ww_iconst (pc := 87) g.1 (v := 1) d_Bu_next_87 (by decide) ?_
        refine ww_iadd (pc := 88) g.1 d_Bu_next_88 ?_
        refine ww_leti h fun l3_89 h => ?_
        refine ww_istore_n (pc := 89) (i := 3) g.1 (lv' := [(3, .int l3_89), (4, .int v65), (2, .ref (q.1 145 v13.toInt32)), (1, .int v13.toInt32), (0, .ref (q.1 130 0))]) d_Bu_next_89 rfl hl (by decide) rfl fun ls hl => ?_
        exact j_Bu_next_j90 g hR v13.toInt32 l3_89 s pa26 ls (lv_sub hl [4, 2, 0] rfl) h
      · refine ww_aload_n (pc := 75) g.1 d_Bu_next_75 rfl (lv_at hl 4 rfl) ?_
        refine ww_gR (pc := 76) g (k := 2) cl_Bu (pz rfl (by decide)) (by decide) (Or.inl kw_995) (f := 16642) (t := 128) rfl rfl rfl d_Bu_next_76 ?_
        refine ww_bipush (pc := 79) g.1 (v := 6) d_Bu_next_79 (by decide) ?_
        refine ww_lo fun dlo => ?_
        obtain ⟨v81, s, hc81, h⟩ := oB_of h
        refine ww_callV (pc := 81) (rest := []) g cv_Ma_fail (Or.inl kw_1144) cl_Ma (pz rfl (by decide)) (ct_Ma_fail hc81) ⟨by decide, by decide⟩ rfl hl.1 (Nat.le_of_ble_eq_true rfl) d_Bu_next_81 rfl (?_)
        refine ww_st (st' := []) rfl ?_
        refine ww_hi fun dhi => ?_
        have pa26 : prs s 145 v13.toInt32 := dhi _ _ pa26.2.1 pa26.2.2 (dlo _ _ pa26)
        exact ww_vretH (pc := 84) g h hR d_Bu_next_84
  · exact ww_vretH (pc := 7) g h hR d_Bu_next_7


