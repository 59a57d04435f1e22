abbrev b_Ta_append : ByteArray := prog_11_method_9_code
def y_Ta_append : MethodName := ⟨R_Ta, "append", "(LLuaMachine$Thing;IJIJ)V"⟩
abbrev w_Ta_append : List Cond := .code y_Ta_append b_Ta_append 10 none :: wA
theorem k_Ta_append : Cond.code y_Ta_append b_Ta_append 10 none ∈ wA := kinm (show _ ∈ tables_1 from (List.mem_append_right _ (List.mem_append_right _ (List.mem_append_right _ (List.mem_append_right _ (List.mem_append_right _ (List.mem_append_left _ (List.mem_of_getElem? (l := tables_1_6) (i := 58) (by decide +kernel))))))))) (by decide +kernel)
theorem d_Ta_append_0 : decode b_Ta_append 0 = .ok (.aload_n 1, 1) := by decide +kernel
theorem d_Ta_append_1 : decode b_Ta_append 1 = .ok (.getfield 54, 3) := by decide +kernel
theorem d_Ta_append_4 : decode b_Ta_append 4 = .ok (.aload_n 1, 1) := by decide +kernel
theorem d_Ta_append_5 : decode b_Ta_append 5 = .ok (.getfield 62, 3) := by decide +kernel
theorem d_Ta_append_8 : decode b_Ta_append 8 = .ok (.iadd, 1) := by decide +kernel
theorem d_Ta_append_9 : decode b_Ta_append 9 = .ok (.istore 8, 2) := by decide +kernel
theorem d_Ta_append_11 : decode b_Ta_append 11 = .ok (.aload_n 1, 1) := by decide +kernel
theorem d_Ta_append_12 : decode b_Ta_append 12 = .ok (.getfield 54, 3) := by decide +kernel
theorem d_Ta_append_15 : decode b_Ta_append 15 = .ok (.iload_n 2, 1) := by decide +kernel
theorem d_Ta_append_16 : decode b_Ta_append 16 = .ok (.lload_n 3, 1) := by decide +kernel
theorem d_Ta_append_17 : decode b_Ta_append 17 = .ok (.aload_n 1, 1) := by decide +kernel
theorem d_Ta_append_18 : decode b_Ta_append 18 = .ok (.getfield 59, 3) := by decide +kernel
theorem d_Ta_append_21 : decode b_Ta_append 21 = .ok (.invokestatic 75, 3) := by decide +kernel
theorem d_Ta_append_24 : decode b_Ta_append 24 = .ok (.iadd, 1) := by decide +kernel
theorem d_Ta_append_25 : decode b_Ta_append 25 = .ok (.istore 9, 2) := by decide +kernel
theorem d_Ta_append_27 : decode b_Ta_append 27 = .ok (.aload_n 0, 1) := by decide +kernel
theorem d_Ta_append_28 : decode b_Ta_append 28 = .ok (.getfield 10, 3) := by decide +kernel
theorem d_Ta_append_31 : decode b_Ta_append 31 = .ok (.iload 8, 2) := by decide +kernel
theorem d_Ta_append_33 : decode b_Ta_append 33 = .ok (.iload_n 2, 1) := by decide +kernel
theorem d_Ta_append_34 : decode b_Ta_append 34 = .ok (.i2b, 1) := by decide +kernel
theorem d_Ta_append_35 : decode b_Ta_append 35 = .ok (.bastore, 1) := by decide +kernel
theorem d_Ta_append_36 : decode b_Ta_append 36 = .ok (.aload_n 0, 1) := by decide +kernel
theorem d_Ta_append_37 : decode b_Ta_append 37 = .ok (.getfield 16, 3) := by decide +kernel
theorem d_Ta_append_40 : decode b_Ta_append 40 = .ok (.iload 8, 2) := by decide +kernel
theorem d_Ta_append_42 : decode b_Ta_append 42 = .ok (.lload_n 3, 1) := by decide +kernel
theorem d_Ta_append_43 : decode b_Ta_append 43 = .ok (.lastore, 1) := by decide +kernel
theorem d_Ta_append_44 : decode b_Ta_append 44 = .ok (.aload_n 0, 1) := by decide +kernel
theorem d_Ta_append_45 : decode b_Ta_append 45 = .ok (.getfield 20, 3) := by decide +kernel
theorem d_Ta_append_48 : decode b_Ta_append 48 = .ok (.iload 8, 2) := by decide +kernel
theorem d_Ta_append_50 : decode b_Ta_append 50 = .ok (.iload 5, 2) := by decide +kernel
theorem d_Ta_append_52 : decode b_Ta_append 52 = .ok (.i2b, 1) := by decide +kernel
theorem d_Ta_append_53 : decode b_Ta_append 53 = .ok (.bastore, 1) := by decide +kernel
theorem d_Ta_append_54 : decode b_Ta_append 54 = .ok (.aload_n 0, 1) := by decide +kernel
theorem d_Ta_append_55 : decode b_Ta_append 55 = .ok (.getfield 23, 3) := by decide +kernel
theorem d_Ta_append_58 : decode b_Ta_append 58 = .ok (.iload 8, 2) := by decide +kernel
theorem d_Ta_append_60 : decode b_Ta_append 60 = .ok (.lload 6, 2) := by decide +kernel
theorem d_Ta_append_62 : decode b_Ta_append 62 = .ok (.lastore, 1) := by decide +kernel
theorem d_Ta_append_63 : decode b_Ta_append 63 = .ok (.aload_n 0, 1) := by decide +kernel
theorem d_Ta_append_64 : decode b_Ta_append 64 = .ok (.getfield 30, 3) := by decide +kernel
theorem d_Ta_append_67 : decode b_Ta_append 67 = .ok (.iload 8, 2) := by decide +kernel
theorem d_Ta_append_69 : decode b_Ta_append 69 = .ok (.aload_n 0, 1) := by decide +kernel
theorem d_Ta_append_70 : decode b_Ta_append 70 = .ok (.getfield 26, 3) := by decide +kernel
theorem d_Ta_append_73 : decode b_Ta_append 73 = .ok (.iload 9, 2) := by decide +kernel
theorem d_Ta_append_75 : decode b_Ta_append 75 = .ok (.iaload, 1) := by decide +kernel
theorem d_Ta_append_76 : decode b_Ta_append 76 = .ok (.iastore, 1) := by decide +kernel
theorem d_Ta_append_77 : decode b_Ta_append 77 = .ok (.aload_n 0, 1) := by decide +kernel
theorem d_Ta_append_78 : decode b_Ta_append 78 = .ok (.getfield 26, 3) := by decide +kernel
theorem d_Ta_append_81 : decode b_Ta_append 81 = .ok (.iload 9, 2) := by decide +kernel
theorem d_Ta_append_83 : decode b_Ta_append 83 = .ok (.aload_n 1, 1) := by decide +kernel
theorem d_Ta_append_84 : decode b_Ta_append 84 = .ok (.getfield 62, 3) := by decide +kernel
theorem d_Ta_append_87 : decode b_Ta_append 87 = .ok (.iastore, 1) := by decide +kernel
theorem d_Ta_append_88 : decode b_Ta_append 88 = .ok (.aload_n 1, 1) := by decide +kernel
theorem d_Ta_append_89 : decode b_Ta_append 89 = .ok (.dup, 1) := by decide +kernel
theorem d_Ta_append_90 : decode b_Ta_append 90 = .ok (.getfield 62, 3) := by decide +kernel
theorem d_Ta_append_93 : decode b_Ta_append 93 = .ok (.iconst 1, 1) := by decide +kernel
theorem d_Ta_append_94 : decode b_Ta_append 94 = .ok (.iadd, 1) := by decide +kernel
theorem d_Ta_append_95 : decode b_Ta_append 95 = .ok (.putfield 62, 3) := by decide +kernel
theorem d_Ta_append_98 : decode b_Ta_append 98 = .ok (.return_, 1) := by decide +kernel
theorem kw_793 : Cond.fieldLink R_Ta 62 "LuaMachine$Thing" "entries" "I" ∈ wA := kinm (show _ ∈ tables_1 from (List.mem_append_right _ (List.mem_append_right _ (List.mem_append_right _ (List.mem_append_right _ (List.mem_append_left _ (List.mem_of_getElem? (l := tables_1_5) (i := 196) (by decide +kernel)))))))) (by decide +kernel)
theorem kw_794 : Cond.methodLink R_Ta 75 y_Ta_spread ∈ wA := kinm (show _ ∈ tables_1 from (List.mem_append_right _ (List.mem_append_right _ (List.mem_append_right _ (List.mem_append_right _ (List.mem_append_right _ (List.mem_append_left _ (List.mem_of_getElem? (l := tables_1_6) (i := 41) (by decide +kernel))))))))) (by decide +kernel)
theorem kw_795 : Cond.fieldLink R_Ta 10 "LuaMachine$Tables" "keyKinds" "[B" ∈ wA := kinm (show _ ∈ tables_1 from (List.mem_append_left _ (List.mem_of_getElem? (l := tables_1_1) (i := 212) (by decide +kernel)))) (by decide +kernel)
theorem kw_796 : Cond.fieldLink R_Ta 16 "LuaMachine$Tables" "keys" "[J" ∈ wA := kinm (show _ ∈ tables_1 from (List.mem_append_left _ (List.mem_of_getElem? (l := tables_1_1) (i := 215) (by decide +kernel)))) (by decide +kernel)
theorem kw_797 : Cond.fieldLink R_Ta 20 "LuaMachine$Tables" "valueKinds" "[B" ∈ wA := kinm (show _ ∈ tables_1 from (List.mem_append_left _ (List.mem_of_getElem? (l := tables_1_1) (i := 218) (by decide +kernel)))) (by decide +kernel)
theorem kw_798 : Cond.fieldLink R_Ta 23 "LuaMachine$Tables" "values" "[J" ∈ wA := kinm (show _ ∈ tables_1 from (List.mem_append_left _ (List.mem_of_getElem? (l := tables_1_1) (i := 223) (by decide +kernel)))) (by decide +kernel)
theorem kw_799 : Cond.fieldLink R_Ta 30 "LuaMachine$Tables" "chain" "[I" ∈ wA := kinm (show _ ∈ tables_1 from (List.mem_append_left _ (List.mem_of_getElem? (l := tables_1_1) (i := 229) (by decide +kernel)))) (by decide +kernel)
theorem kw_800 : Cond.fieldLink R_Ta 26 "LuaMachine$Tables" "heads" "[I" ∈ wA := kinm (show _ ∈ tables_1 from (List.mem_append_left _ (List.mem_of_getElem? (l := tables_1_1) (i := 228) (by decide +kernel)))) (by decide +kernel)
theorem kw_801 : Cond.instanceMethod y_Ta_append ∈ wA := kinm (show _ ∈ tables_1 from (List.mem_append_right _ (List.mem_append_right _ (List.mem_append_right _ (List.mem_append_right _ (List.mem_append_right _ (List.mem_append_left _ (List.mem_of_getElem? (l := tables_1_6) (i := 57) (by decide +kernel))))))))) (by decide +kernel)
theorem kw_802 : Cond.selects R_Ta y_Ta_append y_Ta_append ∈ wA := kinp 30 (by decide +kernel) (by decide +kernel)
theorem cv_Ta_append : CV y_Ta_append b_Ta_append 10 none 5 := ⟨kw_801, kw_802, kw_717, k_Ta_append, by decide +kernel⟩
theorem ct_Ta_append {l : Launch} {P : PP} {q : PL} {s s' : S1} {l1 : Int32} {l2 : Int32} {l3 : Int64} {l5 : Int32} {l6 : Int64} (hp0 : prs s 145 l1) {r : Unit} (h : M_Ta_append l1 l2 l3 l5 l6 s = some (r, s')) : Ct l y_Ta_append b_Ta_append 10 none 1 23 P q s [.ref (q.1 120 0), .ref (q.1 145 l1), .int l2, .long l3, .int l5, .long l6] none q s' := by
  refine ct_of (by decide) (Nat.le_of_ble_eq_true rfl) fun X ls eP el g hR hl => ?_
  subst eP
  have hR : Rt X q ((r, s') : Unit × S1).2 none := hR
  have hl : lv_has ls 10 [(0, .ref (q.1 120 0)), (1, .ref (q.1 145 l1)), (2, .int l2), (3, .long l3), (5, .int l5), (6, .long l6)] := hl
  generalize (r, s') = o at h hR
  unfold M_Ta_append at h
  refine ww_aload_n (pc := 0) g.1 d_Ta_append_0 rfl (lv_at hl 1 rfl) ?_
  refine ww_gI (pc := 1) g (k := 11) cl_Tg hp0 (by decide) (Or.inl kw_771) (f := 18571) rfl rfl d_Ta_append_1 h fun v1 h => ?_
  refine ww_aload_n (pc := 4) g.1 d_Ta_append_4 rfl (lv_at hl 1 rfl) ?_
  refine ww_gI (pc := 5) g (k := 13) cl_Tg hp0 (by decide) (Or.inl kw_793) (f := 18573) rfl rfl d_Ta_append_5 h fun v5 h => ?_
  refine ww_iadd (pc := 8) g.1 d_Ta_append_8 ?_
  refine ww_leti h fun l8_9 h => ?_
  refine ww_istore (pc := 9) (i := 8) g.1 (lv' := [(8, .int l8_9), (0, .ref (q.1 120 0)), (1, .ref (q.1 145 l1)), (2, .int l2), (3, .long l3), (5, .int l5), (6, .long l6)]) d_Ta_append_9 hl (by decide) rfl fun ls hl => ?_
  refine ww_aload_n (pc := 11) g.1 d_Ta_append_11 rfl (lv_at hl 2 rfl) ?_
  refine ww_gI (pc := 12) g (k := 11) cl_Tg hp0 (by decide) (Or.inl kw_771) (f := 18571) rfl rfl d_Ta_append_12 h fun v12 h => ?_
  refine ww_iload_n (pc := 15) g.1 d_Ta_append_15 rfl (lv_at hl 3 rfl) ?_
  refine ww_lload_n (pc := 16) g.1 d_Ta_append_16 rfl (lv_at hl 4 rfl) ?_
  refine ww_aload_n (pc := 17) g.1 d_Ta_append_17 rfl (lv_at hl 2 rfl) ?_
  refine ww_gI (pc := 18) g (k := 12) cl_Tg hp0 (by decide) (Or.inl kw_769) (f := 18572) rfl rfl d_Ta_append_18 h fun v18 h => ?_
  refine ww_lo fun dlo => ?_
  obtain ⟨v21, s, hc21, h⟩ := oB_of h
  refine ww_callS (pc := 21) (rest := [.int v12]) g cs_Ta_spread (Or.inl kw_794) (ct_Ta_spread hc21) ⟨by decide, by decide⟩ rfl hl.1 (Nat.le_of_ble_eq_true rfl) d_Ta_append_21 rfl (?_)
  refine ww_st (st' := [.int v21, .int v12]) rfl ?_
  refine ww_hi fun dhi => ?_
  have hp0 : prs s 145 l1 := dhi _ _ hp0.2.1 hp0.2.2 (dlo _ _ hp0)
  refine ww_iadd (pc := 24) g.1 d_Ta_append_24 ?_
  refine ww_leti h fun l9_25 h => ?_
  refine ww_istore (pc := 25) (i := 9) g.1 (lv' := [(9, .int l9_25), (8, .int l8_9), (0, .ref (q.1 120 0)), (1, .ref (q.1 145 l1)), (2, .int l2), (3, .long l3), (5, .int l5), (6, .long l6)]) d_Ta_append_25 hl (by decide) rfl fun ls hl => ?_
  refine ww_aload_n (pc := 27) g.1 d_Ta_append_27 rfl (lv_at hl 2 rfl) ?_
  refine ww_gR (pc := 28) g (k := 0) cl_Ta (pz rfl (by decide)) (by decide) (Or.inl kw_795) (f := 15360) (t := 121) rfl rfl rfl d_Ta_append_28 ?_
  refine ww_iload (pc := 31) g.1 d_Ta_append_31 (lv_at hl 1 rfl) ?_
  refine ww_iload_n (pc := 33) g.1 d_Ta_append_33 rfl (lv_at hl 4 rfl) ?_
  refine ww_i2b (pc := 34) g.1 (v := l2.toInt8.toInt32) d_Ta_append_34 rfl ?_
  refine ww_sb (pc := 35) g (pz rfl (by decide)) rfl rfl d_Ta_append_35 h fun s hs h => ?_
  have hp0 : prs s 145 l1 := hs ▸ hp0
  refine ww_aload_n (pc := 36) g.1 d_Ta_append_36 rfl (lv_at hl 2 rfl) ?_
  refine ww_gR (pc := 37) g (k := 1) cl_Ta (pz rfl (by decide)) (by decide) (Or.inl kw_796) (f := 15361) (t := 122) rfl rfl rfl d_Ta_append_37 ?_
  refine ww_iload (pc := 40) g.1 d_Ta_append_40 (lv_at hl 1 rfl) ?_
  refine ww_lload_n (pc := 42) g.1 d_Ta_append_42 rfl (lv_at hl 5 rfl) ?_
  refine ww_sl (pc := 43) g (pz rfl (by decide)) rfl rfl d_Ta_append_43 h fun s hs h => ?_
  have hp0 : prs s 145 l1 := hs ▸ hp0
  refine ww_aload_n (pc := 44) g.1 d_Ta_append_44 rfl (lv_at hl 2 rfl) ?_
  refine ww_gR (pc := 45) g (k := 2) cl_Ta (pz rfl (by decide)) (by decide) (Or.inl kw_797) (f := 15362) (t := 123) rfl rfl rfl d_Ta_append_45 ?_
  refine ww_iload (pc := 48) g.1 d_Ta_append_48 (lv_at hl 1 rfl) ?_
  refine ww_iload (pc := 50) g.1 d_Ta_append_50 (lv_at hl 6 rfl) ?_
  refine ww_i2b (pc := 52) g.1 (v := l5.toInt8.toInt32) d_Ta_append_52 rfl ?_
  refine ww_sb (pc := 53) g (pz rfl (by decide)) rfl rfl d_Ta_append_53 h fun s hs h => ?_
  have hp0 : prs s 145 l1 := hs ▸ hp0
  refine ww_aload_n (pc := 54) g.1 d_Ta_append_54 rfl (lv_at hl 2 rfl) ?_
  refine ww_gR (pc := 55) g (k := 3) cl_Ta (pz rfl (by decide)) (by decide) (Or.inl kw_798) (f := 15363) (t := 124) rfl rfl rfl d_Ta_append_55 ?_
  refine ww_iload (pc := 58) g.1 d_Ta_append_58 (lv_at hl 1 rfl) ?_
  refine ww_lload (pc := 60) g.1 d_Ta_append_60 (lv_at hl 7 rfl) ?_
  refine ww_sl (pc := 62) g (pz rfl (by decide)) rfl rfl d_Ta_append_62 h fun s hs h => ?_
  have hp0 : prs s 145 l1 := hs ▸ hp0
  refine ww_aload_n (pc := 63) g.1 d_Ta_append_63 rfl (lv_at hl 2 rfl) ?_
  refine ww_gR (pc := 64) g (k := 5) cl_Ta (pz rfl (by decide)) (by decide) (Or.inl kw_799) (f := 15365) (t := 126) rfl rfl rfl d_Ta_append_64 ?_
  refine ww_iload (pc := 67) g.1 d_Ta_append_67 (lv_at hl 1 rfl) ?_
  refine ww_aload_n (pc := 69) g.1 d_Ta_append_69 rfl (lv_at hl 2 rfl) ?_
  refine ww_gR (pc := 70) g (k := 4) cl_Ta (pz rfl (by decide)) (by decide) (Or.inl kw_800) (f := 15364) (t := 125) rfl rfl rfl d_Ta_append_70 ?_
  refine ww_iload (pc := 73) g.1 d_Ta_append_73 (lv_at hl 0 rfl) ?_
  refine ww_ai (pc := 75) g (pz rfl (by decide)) rfl rfl d_Ta_append_75 h fun v75 h => ?_
  refine ww_si (pc := 76) g (pz rfl (by decide)) rfl rfl d_Ta_append_76 h fun s hs h => ?_
  have hp0 : prs s 145 l1 := hs ▸ hp0
  refine ww_aload_n (pc := 77) g.1 d_Ta_append_77 rfl (lv_at hl 2 rfl) ?_
  refine ww_gR (pc := 78) g (k := 4) cl_Ta (pz rfl (by decide)) (by decide) (Or.inl kw_800) (f := 15364) (t := 125) rfl rfl rfl d_Ta_append_78 ?_
  refine ww_iload (pc := 81) g.1 d_Ta_append_81 (lv_at hl 0 rfl) ?_
  refine ww_aload_n (pc := 83) g.1 d_Ta_append_83 rfl (lv_at hl 3 rfl) ?_
  refine ww_gI (pc := 84) g (k := 13) cl_Tg hp0 (by decide) (Or.inl kw_793) (f := 18573) rfl rfl d_Ta_append_84 h fun v84 h => ?_
  refine ww_si (pc := 87) g (pz rfl (by decide)) rfl rfl d_Ta_append_87 h fun s hs h => ?_
  have hp0 : prs s 145 l1 := hs ▸ hp0
  refine ww_aload_n (pc := 88) g.1 d_Ta_append_88 rfl (lv_at hl 3 rfl) ?_
  refine ww_dup (pc := 89) g.1 d_Ta_append_89 rfl ?_
  refine ww_gI (pc := 90) g (k := 13) cl_Tg hp0 (by decide) (Or.inl kw_793) (f := 18573) rfl rfl d_Ta_append_90 h fun v90 h => ?_
  refine ww_iconst (pc := 93) g.1 (v := 1) d_Ta_append_93 (by decide) ?_
  refine ww_iadd (pc := 94) g.1 d_Ta_append_94 ?_
  refine ww_pI (pc := 95) g (k := 13) cl_Tg hp0 (by decide) (Or.inl kw_793) rfl (f := 18573) rfl rfl rfl rfl d_Ta_append_95 h fun s hs h => ?_
  have hp0 : prs s 145 l1 := prs_kI (r := 145) (k := 13) (by decide) hs hp0
  exact ww_vretH (pc := 98) g h hR d_Ta_append_98

abbrev b_Ta_closeUp : ByteArray := prog_11_method_14_code
def y_Ta_closeUp : MethodName := ⟨R_Ta, "closeUp", "()V"⟩
abbrev w_Ta_closeUp : List Cond := .code y_Ta_closeUp b_Ta_closeUp 6 none :: wA
set_option maxRecDepth 20000 in
theorem k_Ta_closeUp : Cond.code y_Ta_closeUp b_Ta_closeUp 6 none ∈ wA := kinm (show _ ∈ tables_1 from (List.mem_append_right _ (List.mem_append_right _ (List.mem_append_right _ (List.mem_append_right _ (List.mem_append_right _ (List.mem_append_left _ (List.mem_of_getElem? (l := tables_1_6) (i := 69) rfl)))))))) rfl
theorem d_Ta_closeUp_0 : decode b_Ta_closeUp 0 = .ok (.iconst 0, 1) := by decide +kernel
theorem d_Ta_closeUp_1 : decode b_Ta_closeUp 1 = .ok (.istore_n 1, 1) := by decide +kernel
theorem d_Ta_closeUp_2 : decode b_Ta_closeUp 2 = .ok (.iconst 0, 1) := by decide +kernel
theorem d_Ta_closeUp_3 : decode b_Ta_closeUp 3 = .ok (.istore_n 2, 1) := by decide +kernel
theorem d_Ta_closeUp_4 : decode b_Ta_closeUp 4 = .ok (.iconst 0, 1) := by decide +kernel
theorem d_Ta_closeUp_5 : decode b_Ta_closeUp 5 = .ok (.istore_n 3, 1) := by decide +kernel
theorem d_Ta_closeUp_6 : decode b_Ta_closeUp 6 = .ok (.iload_n 3, 1) := by decide +kernel
theorem d_Ta_closeUp_7 : decode b_Ta_closeUp 7 = .ok (.ldc 9, 2) := by decide +kernel
theorem d_Ta_closeUp_9 : decode b_Ta_closeUp 9 = .ok (.if_icmp .ge 178, 3) := by decide +kernel
theorem d_Ta_closeUp_12 : decode b_Ta_closeUp 12 = .ok (.iload_n 2, 1) := by decide +kernel
theorem d_Ta_closeUp_13 : decode b_Ta_closeUp 13 = .ok (.aload_n 0, 1) := by decide +kernel
theorem d_Ta_closeUp_14 : decode b_Ta_closeUp 14 = .ok (.getfield 40, 3) := by decide +kernel
theorem d_Ta_closeUp_17 : decode b_Ta_closeUp 17 = .ok (.if_icmp .ge 170, 3) := by decide +kernel
theorem d_Ta_closeUp_20 : decode b_Ta_closeUp 20 = .ok (.aload_n 0, 1) := by decide +kernel
theorem d_Ta_closeUp_21 : decode b_Ta_closeUp 21 = .ok (.getfield 33, 3) := by decide +kernel
theorem d_Ta_closeUp_24 : decode b_Ta_closeUp 24 = .ok (.iload_n 2, 1) := by decide +kernel
theorem d_Ta_closeUp_25 : decode b_Ta_closeUp 25 = .ok (.iaload, 1) := by decide +kernel
theorem d_Ta_closeUp_26 : decode b_Ta_closeUp 26 = .ok (.istore 4, 2) := by decide +kernel
theorem d_Ta_closeUp_28 : decode b_Ta_closeUp 28 = .ok (.iload 4, 2) := by decide +kernel
theorem d_Ta_closeUp_30 : decode b_Ta_closeUp 30 = .ok (.ifCond .ge 9, 3) := by decide +kernel
theorem d_Ta_closeUp_33 : decode b_Ta_closeUp 33 = .ok (.iload 4, 2) := by decide +kernel
theorem d_Ta_closeUp_35 : decode b_Ta_closeUp 35 = .ok (.ineg, 1) := by decide +kernel
theorem d_Ta_closeUp_36 : decode b_Ta_closeUp 36 = .ok (.goto 16, 3) := by decide +kernel
theorem d_Ta_closeUp_39 : decode b_Ta_closeUp 39 = .ok (.aload_n 0, 1) := by decide +kernel
theorem d_Ta_closeUp_40 : decode b_Ta_closeUp 40 = .ok (.getfield 36, 3) := by decide +kernel
theorem d_Ta_closeUp_43 : decode b_Ta_closeUp 43 = .ok (.getfield 50, 3) := by decide +kernel
theorem d_Ta_closeUp_46 : decode b_Ta_closeUp 46 = .ok (.iload 4, 2) := by decide +kernel
theorem d_Ta_closeUp_48 : decode b_Ta_closeUp 48 = .ok (.aaload, 1) := by decide +kernel
theorem d_Ta_closeUp_49 : decode b_Ta_closeUp 49 = .ok (.getfield 59, 3) := by decide +kernel
theorem d_Ta_closeUp_52 : decode b_Ta_closeUp 52 = .ok (.istore 5, 2) := by decide +kernel
theorem d_Ta_closeUp_54 : decode b_Ta_closeUp 54 = .ok (.iload 4, 2) := by decide +kernel
theorem d_Ta_closeUp_56 : decode b_Ta_closeUp 56 = .ok (.ifCond .lt 120, 3) := by decide +kernel
theorem d_Ta_closeUp_59 : decode b_Ta_closeUp 59 = .ok (.aload_n 0, 1) := by decide +kernel
theorem d_Ta_closeUp_60 : decode b_Ta_closeUp 60 = .ok (.getfield 10, 3) := by decide +kernel
theorem d_Ta_closeUp_63 : decode b_Ta_closeUp 63 = .ok (.iload_n 2, 1) := by decide +kernel
theorem d_Ta_closeUp_64 : decode b_Ta_closeUp 64 = .ok (.aload_n 0, 1) := by decide +kernel
theorem d_Ta_closeUp_65 : decode b_Ta_closeUp 65 = .ok (.getfield 10, 3) := by decide +kernel
theorem d_Ta_closeUp_68 : decode b_Ta_closeUp 68 = .ok (.iload_n 1, 1) := by decide +kernel
theorem d_Ta_closeUp_69 : decode b_Ta_closeUp 69 = .ok (.iload 5, 2) := by decide +kernel
theorem d_Ta_closeUp_71 : decode b_Ta_closeUp 71 = .ok (.invokestatic 123, 3) := by decide +kernel
theorem d_Ta_closeUp_74 : decode b_Ta_closeUp 74 = .ok (.aload_n 0, 1) := by decide +kernel
theorem d_Ta_closeUp_75 : decode b_Ta_closeUp 75 = .ok (.getfield 16, 3) := by decide +kernel
theorem d_Ta_closeUp_78 : decode b_Ta_closeUp 78 = .ok (.iload_n 2, 1) := by decide +kernel
theorem d_Ta_closeUp_79 : decode b_Ta_closeUp 79 = .ok (.aload_n 0, 1) := by decide +kernel
theorem d_Ta_closeUp_80 : decode b_Ta_closeUp 80 = .ok (.getfield 16, 3) := by decide +kernel
theorem d_Ta_closeUp_83 : decode b_Ta_closeUp 83 = .ok (.iload_n 1, 1) := by decide +kernel
theorem d_Ta_closeUp_84 : decode b_Ta_closeUp 84 = .ok (.iload 5, 2) := by decide +kernel
theorem d_Ta_closeUp_86 : decode b_Ta_closeUp 86 = .ok (.invokestatic 123, 3) := by decide +kernel
theorem d_Ta_closeUp_89 : decode b_Ta_closeUp 89 = .ok (.aload_n 0, 1) := by decide +kernel
theorem d_Ta_closeUp_90 : decode b_Ta_closeUp 90 = .ok (.getfield 20, 3) := by decide +kernel
theorem d_Ta_closeUp_93 : decode b_Ta_closeUp 93 = .ok (.iload_n 2, 1) := by decide +kernel
theorem d_Ta_closeUp_94 : decode b_Ta_closeUp 94 = .ok (.aload_n 0, 1) := by decide +kernel
theorem d_Ta_closeUp_95 : decode b_Ta_closeUp 95 = .ok (.getfield 20, 3) := by decide +kernel
theorem d_Ta_closeUp_98 : decode b_Ta_closeUp 98 = .ok (.iload_n 1, 1) := by decide +kernel
theorem d_Ta_closeUp_99 : decode b_Ta_closeUp 99 = .ok (.iload 5, 2) := by decide +kernel
theorem d_Ta_closeUp_101 : decode b_Ta_closeUp 101 = .ok (.invokestatic 123, 3) := by decide +kernel
theorem d_Ta_closeUp_104 : decode b_Ta_closeUp 104 = .ok (.aload_n 0, 1) := by decide +kernel
theorem d_Ta_closeUp_105 : decode b_Ta_closeUp 105 = .ok (.getfield 23, 3) := by decide +kernel
theorem d_Ta_closeUp_108 : decode b_Ta_closeUp 108 = .ok (.iload_n 2, 1) := by decide +kernel
theorem d_Ta_closeUp_109 : decode b_Ta_closeUp 109 = .ok (.aload_n 0, 1) := by decide +kernel
theorem d_Ta_closeUp_110 : decode b_Ta_closeUp 110 = .ok (.getfield 23, 3) := by decide +kernel
theorem d_Ta_closeUp_113 : decode b_Ta_closeUp 113 = .ok (.iload_n 1, 1) := by decide +kernel
theorem d_Ta_closeUp_114 : decode b_Ta_closeUp 114 = .ok (.iload 5, 2) := by decide +kernel
theorem d_Ta_closeUp_116 : decode b_Ta_closeUp 116 = .ok (.invokestatic 123, 3) := by decide +kernel
theorem d_Ta_closeUp_119 : decode b_Ta_closeUp 119 = .ok (.aload_n 0, 1) := by decide +kernel
theorem d_Ta_closeUp_120 : decode b_Ta_closeUp 120 = .ok (.getfield 26, 3) := by decide +kernel
theorem d_Ta_closeUp_123 : decode b_Ta_closeUp 123 = .ok (.iload_n 2, 1) := by decide +kernel
theorem d_Ta_closeUp_124 : decode b_Ta_closeUp 124 = .ok (.aload_n 0, 1) := by decide +kernel
theorem d_Ta_closeUp_125 : decode b_Ta_closeUp 125 = .ok (.getfield 26, 3) := by decide +kernel
theorem d_Ta_closeUp_128 : decode b_Ta_closeUp 128 = .ok (.iload_n 1, 1) := by decide +kernel
theorem d_Ta_closeUp_129 : decode b_Ta_closeUp 129 = .ok (.iload 5, 2) := by decide +kernel
theorem d_Ta_closeUp_131 : decode b_Ta_closeUp 131 = .ok (.invokestatic 123, 3) := by decide +kernel
theorem d_Ta_closeUp_134 : decode b_Ta_closeUp 134 = .ok (.aload_n 0, 1) := by decide +kernel
theorem d_Ta_closeUp_135 : decode b_Ta_closeUp 135 = .ok (.getfield 30, 3) := by decide +kernel
theorem d_Ta_closeUp_138 : decode b_Ta_closeUp 138 = .ok (.iload_n 2, 1) := by decide +kernel
theorem d_Ta_closeUp_139 : decode b_Ta_closeUp 139 = .ok (.aload_n 0, 1) := by decide +kernel
theorem d_Ta_closeUp_140 : decode b_Ta_closeUp 140 = .ok (.getfield 30, 3) := by decide +kernel
theorem d_Ta_closeUp_143 : decode b_Ta_closeUp 143 = .ok (.iload_n 1, 1) := by decide +kernel
theorem d_Ta_closeUp_144 : decode b_Ta_closeUp 144 = .ok (.iload 5, 2) := by decide +kernel
theorem d_Ta_closeUp_146 : decode b_Ta_closeUp 146 = .ok (.invokestatic 123, 3) := by decide +kernel
theorem d_Ta_closeUp_149 : decode b_Ta_closeUp 149 = .ok (.aload_n 0, 1) := by decide +kernel
theorem d_Ta_closeUp_150 : decode b_Ta_closeUp 150 = .ok (.getfield 33, 3) := by decide +kernel
theorem d_Ta_closeUp_153 : decode b_Ta_closeUp 153 = .ok (.iload_n 1, 1) := by decide +kernel
theorem d_Ta_closeUp_154 : decode b_Ta_closeUp 154 = .ok (.iload 4, 2) := by decide +kernel
theorem d_Ta_closeUp_156 : decode b_Ta_closeUp 156 = .ok (.iastore, 1) := by decide +kernel
theorem d_Ta_closeUp_157 : decode b_Ta_closeUp 157 = .ok (.aload_n 0, 1) := by decide +kernel
theorem d_Ta_closeUp_158 : decode b_Ta_closeUp 158 = .ok (.getfield 36, 3) := by decide +kernel
theorem d_Ta_closeUp_161 : decode b_Ta_closeUp 161 = .ok (.getfield 50, 3) := by decide +kernel
theorem d_Ta_closeUp_164 : decode b_Ta_closeUp 164 = .ok (.iload 4, 2) := by decide +kernel
theorem d_Ta_closeUp_166 : decode b_Ta_closeUp 166 = .ok (.aaload, 1) := by decide +kernel
theorem d_Ta_closeUp_167 : decode b_Ta_closeUp 167 = .ok (.iload_n 1, 1) := by decide +kernel
theorem d_Ta_closeUp_168 : decode b_Ta_closeUp 168 = .ok (.putfield 54, 3) := by decide +kernel
theorem d_Ta_closeUp_171 : decode b_Ta_closeUp 171 = .ok (.iload_n 1, 1) := by decide +kernel
theorem d_Ta_closeUp_172 : decode b_Ta_closeUp 172 = .ok (.iload 5, 2) := by decide +kernel
theorem d_Ta_closeUp_174 : decode b_Ta_closeUp 174 = .ok (.iadd, 1) := by decide +kernel
theorem d_Ta_closeUp_175 : decode b_Ta_closeUp 175 = .ok (.istore_n 1, 1) := by decide +kernel
theorem d_Ta_closeUp_176 : decode b_Ta_closeUp 176 = .ok (.iload_n 2, 1) := by decide +kernel
theorem d_Ta_closeUp_177 : decode b_Ta_closeUp 177 = .ok (.iload 5, 2) := by decide +kernel
theorem d_Ta_closeUp_179 : decode b_Ta_closeUp 179 = .ok (.iadd, 1) := by decide +kernel
theorem d_Ta_closeUp_180 : decode b_Ta_closeUp 180 = .ok (.istore_n 2, 1) := by decide +kernel
theorem d_Ta_closeUp_181 : decode b_Ta_closeUp 181 = .ok (.iinc 3 1, 3) := by decide +kernel
theorem d_Ta_closeUp_184 : decode b_Ta_closeUp 184 = .ok (.goto (-178), 3) := by decide +kernel
theorem d_Ta_closeUp_187 : decode b_Ta_closeUp 187 = .ok (.aload_n 0, 1) := by decide +kernel
theorem d_Ta_closeUp_188 : decode b_Ta_closeUp 188 = .ok (.iload_n 1, 1) := by decide +kernel
theorem d_Ta_closeUp_189 : decode b_Ta_closeUp 189 = .ok (.putfield 40, 3) := by decide +kernel
theorem d_Ta_closeUp_192 : decode b_Ta_closeUp 192 = .ok (.return_, 1) := by decide +kernel
theorem kw_803 : Cond.constant R_Ta 9 50000 ∈ wA := kinm (show _ ∈ tables_1 from (List.mem_append_left _ (List.mem_of_getElem? (l := tables_1_1) (i := 211) (by decide +kernel)))) (by decide +kernel)
theorem kw_804 : Cond.fieldLink R_Ta 50 "LuaMachine$Heap" "things" "[LLuaMachine$Thing;" ∈ wA := kinm (show _ ∈ tables_1 from (List.mem_append_left _ (List.mem_of_getElem? (l := tables_1_1) (i := 134) (by decide +kernel)))) (by decide +kernel)
theorem kw_805 : Cond.methodLink R_Ta 123 y_ARRCOPY ∈ wA := kinm (show _ ∈ tables_1 from (List.mem_append_right _ (List.mem_append_right _ (List.mem_append_right _ (List.mem_append_right _ (List.mem_append_right _ (List.mem_append_left _ (List.mem_of_getElem? (l := tables_1_6) (i := 70) (by decide +kernel))))))))) (by decide +kernel)
theorem kw_806 : Cond.instanceMethod y_Ta_closeUp ∈ wA := kinm (show _ ∈ tables_1 from (List.mem_append_right _ (List.mem_append_right _ (List.mem_append_right _ (List.mem_append_right _ (List.mem_append_right _ (List.mem_append_left _ (List.mem_of_getElem? (l := tables_1_6) (i := 68) (by decide +kernel))))))))) (by decide +kernel)
theorem kw_807 : Cond.selects R_Ta y_Ta_closeUp y_Ta_closeUp ∈ wA := kinp 32 (by decide +kernel) (by decide +kernel)
theorem cv_Ta_closeUp : CV y_Ta_closeUp b_Ta_closeUp 6 none 0 := ⟨kw_806, kw_807, kw_717, k_Ta_closeUp, by decide +kernel⟩
theorem j_Ta_closeUp_j176 {X : Cx} {q : PL} (g : Gd X y_Ta_closeUp b_Ta_closeUp 6 none 1 26 R_Ta) {o : ((Int32 × Int32 × Int32) ⊕ ((Int32))) × S1} (hR : (Sum.elim (fun y : Int32 × Int32 × Int32 => ∀ ls : Array Slot, lv_has ls 6 [(0, .ref (q.1 120 0)), (1, .int y.1), (2, .int y.2.1), (3, .int y.2.2)] → WW X q o.2 6 ls []) (fun y : Int32 => ∀ ls : Array Slot, lv_has ls 6 [(0, .ref (q.1 120 0)), (1, .int y)] → WW X q o.2 187 ls []) o.1)) (l1 : Int32) (l2 : Int32) (l3 : Int32) (l5 : Int32) (s : S1) (ls : Array Slot) (hl : lv_has ls 6 [(0, .ref (q.1 120 0)), (1, .int l1), (2, .int l2), (3, .int l3), (5, .int l5)]) (h : M_Ta_closeUp_j176 l1 l2 l3 l5 s = some o) : WW X q s 176 ls [] := by
  unfold M_Ta_closeUp_j176 at h
  refine ww_iload_n (pc := 176) g.1 d_Ta_closeUp_176 rfl (lv_at hl 2 rfl) ?_
  refine ww_iload (pc := 177) g.1 d_Ta_closeUp_177 (lv_at hl 4 rfl) ?_
  refine ww_iadd (pc := 179) g.1 d_Ta_closeUp_179 ?_
  refine ww_leti h fun l2_180 h => ?_
  refine ww_istore_n (pc := 180) (i := 2) g.1 (lv' := [(2, .int l2_180), (0, .ref (q.1 120 0)), (1, .int l1), (3, .int l3), (5, .int l5)]) d_Ta_closeUp_180 rfl hl (by decide) rfl fun ls hl => ?_
  refine ww_iinc (pc := 181) g.1 (v := l3 + 1) (lv' := [(3, .int (l3 + 1)), (2, .int l2_180), (0, .ref (q.1 120 0)), (1, .int l1), (5, .int l5)]) d_Ta_closeUp_181 hl (k := 3) rfl (by rfl) (by decide) rfl fun ls hl => ?_
  refine ww_goto (pc := 184) (tgt := 6) g.1 d_Ta_closeUp_184 (by decide) ?_
  rw [oR_eq h] at hR
  exact hR ls (lv_sub hl [2, 3, 1, 0] rfl)

theorem j_Ta_closeUp_j52 {X : Cx} {q : PL} (g : Gd X y_Ta_closeUp b_Ta_closeUp 6 none 1 26 R_Ta) {o : ((Int32 × Int32 × Int32) ⊕ ((Int32))) × S1} (hR : (Sum.elim (fun y : Int32 × Int32 × Int32 => ∀ ls : Array Slot, lv_has ls 6 [(0, .ref (q.1 120 0)), (1, .int y.1), (2, .int y.2.1), (3, .int y.2.2)] → WW X q o.2 6 ls []) (fun y : Int32 => ∀ ls : Array Slot, lv_has ls 6 [(0, .ref (q.1 120 0)), (1, .int y)] → WW X q o.2 187 ls []) o.1)) (l1 : Int32) (l2 : Int32) (l3 : Int32) (l4 : Int32) (k0 : Int32) (s : S1) (ls : Array Slot) (hl : lv_has ls 6 [(0, .ref (q.1 120 0)), (1, .int l1), (2, .int l2), (3, .int l3), (4, .int l4)]) (h : M_Ta_closeUp_j52 l1 l2 l3 l4 k0 s = some o) : WW X q s 52 ls [.int k0] := by
  unfold M_Ta_closeUp_j52 at h
  refine ww_istore (pc := 52) (i := 5) g.1 (lv' := [(5, .int k0), (0, .ref (q.1 120 0)), (1, .int l1), (2, .int l2), (3, .int l3), (4, .int l4)]) d_Ta_closeUp_52 hl (by decide) rfl fun ls hl => ?_
  refine ww_iload (pc := 54) g.1 d_Ta_closeUp_54 (lv_at hl 5 rfl) ?_
  refine ww_if_lt (pc := 56) (tgt := 176) g.1 d_Ta_closeUp_56 (by decide) h (fun c h => ?_) (fun c h => ?_)
  · exact j_Ta_closeUp_j176 g hR l1 l2 l3 k0 s ls (lv_sub hl [1, 2, 3, 4, 0] rfl) h
  · refine ww_aload_n (pc := 59) g.1 d_Ta_closeUp_59 rfl (lv_at hl 1 rfl) ?_
    refine ww_gR (pc := 60) g (k := 0) cl_Ta (pz rfl (by decide)) (by decide) (Or.inl kw_795) (f := 15360) (t := 121) rfl rfl rfl d_Ta_closeUp_60 ?_
    refine ww_iload_n (pc := 63) g.1 d_Ta_closeUp_63 rfl (lv_at hl 3 rfl) ?_
    refine ww_aload_n (pc := 64) g.1 d_Ta_closeUp_64 rfl (lv_at hl 1 rfl) ?_
    refine ww_gR (pc := 65) g (k := 0) cl_Ta (pz rfl (by decide)) (by decide) (Or.inl kw_795) (f := 15360) (t := 121) rfl rfl rfl d_Ta_closeUp_65 ?_
    refine ww_iload_n (pc := 68) g.1 d_Ta_closeUp_68 rfl (lv_at hl 2 rfl) ?_
    refine ww_iload (pc := 69) g.1 d_Ta_closeUp_69 (lv_at hl 0 rfl) ?_
    refine ww_ci (pc := 71) g (pz rfl (by decide)) (pz rfl (by decide)) ((rfl : rkF 121 = 2).trans (rfl : rkF 121 = 2).symm) (Or.inr (rfl : rkF 121 = 2)) rfl rfl kw_805 kw_512 kw_513 kw_514 ⟨by decide, by decide⟩ hl.1 (Nat.le_of_ble_eq_true rfl) d_Ta_closeUp_71 h fun s hs h => ?_
    refine ww_aload_n (pc := 74) g.1 d_Ta_closeUp_74 rfl (lv_at hl 1 rfl) ?_
    refine ww_gR (pc := 75) g (k := 1) cl_Ta (pz rfl (by decide)) (by decide) (Or.inl kw_796) (f := 15361) (t := 122) rfl rfl rfl d_Ta_closeUp_75 ?_
    refine ww_iload_n (pc := 78) g.1 d_Ta_closeUp_78 rfl (lv_at hl 3 rfl) ?_
    refine ww_aload_n (pc := 79) g.1 d_Ta_closeUp_79 rfl (lv_at hl 1 rfl) ?_
    refine ww_gR (pc := 80) g (k := 1) cl_Ta (pz rfl (by decide)) (by decide) (Or.inl kw_796) (f := 15361) (t := 122) rfl rfl rfl d_Ta_closeUp_80 ?_
    refine ww_iload_n (pc := 83) g.1 d_Ta_closeUp_83 rfl (lv_at hl 2 rfl) ?_
    refine ww_iload (pc := 84) g.1 d_Ta_closeUp_84 (lv_at hl 0 rfl) ?_
    refine ww_cl (pc := 86) g (pz rfl (by decide)) (pz rfl (by decide)) (rfl : rkF 122 = 4) (rfl : rkF 122 = 4) rfl rfl kw_805 kw_512 kw_513 kw_514 ⟨by decide, by decide⟩ hl.1 (Nat.le_of_ble_eq_true rfl) d_Ta_closeUp_86 h fun s hs h => ?_
    refine ww_aload_n (pc := 89) g.1 d_Ta_closeUp_89 rfl (lv_at hl 1 rfl) ?_
    refine ww_gR (pc := 90) g (k := 2) cl_Ta (pz rfl (by decide)) (by decide) (Or.inl kw_797) (f := 15362) (t := 123) rfl rfl rfl d_Ta_closeUp_90 ?_
    refine ww_iload_n (pc := 93) g.1 d_Ta_closeUp_93 rfl (lv_at hl 3 rfl) ?_
    refine ww_aload_n (pc := 94) g.1 d_Ta_closeUp_94 rfl (lv_at hl 1 rfl) ?_
    refine ww_gR (pc := 95) g (k := 2) cl_Ta (pz rfl (by decide)) (by decide) (Or.inl kw_797) (f := 15362) (t := 123) rfl rfl rfl d_Ta_closeUp_95 ?_
    refine ww_iload_n (pc := 98) g.1 d_Ta_closeUp_98 rfl (lv_at hl 2 rfl) ?_
    refine ww_iload (pc := 99) g.1 d_Ta_closeUp_99 (lv_at hl 0 rfl) ?_
    refine ww_ci (pc := 101) g (pz rfl (by decide)) (pz rfl (by decide)) ((rfl : rkF 123 = 2).trans (rfl : rkF 123 = 2).symm) (Or.inr (rfl : rkF 123 = 2)) rfl rfl kw_805 kw_512 kw_513 kw_514 ⟨by decide, by decide⟩ hl.1 (Nat.le_of_ble_eq_true rfl) d_Ta_closeUp_101 h fun s hs h => ?_
    refine ww_aload_n (pc := 104) g.1 d_Ta_closeUp_104 rfl (lv_at hl 1 rfl) ?_
    refine ww_gR (pc := 105) g (k := 3) cl_Ta (pz rfl (by decide)) (by decide) (Or.inl kw_798) (f := 15363) (t := 124) rfl rfl rfl d_Ta_closeUp_105 ?_
    refine ww_iload_n (pc := 108) g.1 d_Ta_closeUp_108 rfl (lv_at hl 3 rfl) ?_
    refine ww_aload_n (pc := 109) g.1 d_Ta_closeUp_109 rfl (lv_at hl 1 rfl) ?_
    refine ww_gR (pc := 110) g (k := 3) cl_Ta (pz rfl (by decide)) (by decide) (Or.inl kw_798) (f := 15363) (t := 124) rfl rfl rfl d_Ta_closeUp_110 ?_
    refine ww_iload_n (pc := 113) g.1 d_Ta_closeUp_113 rfl (lv_at hl 2 rfl) ?_
    refine ww_iload (pc := 114) g.1 d_Ta_closeUp_114 (lv_at hl 0 rfl) ?_
    refine ww_cl (pc := 116) g (pz rfl (by decide)) (pz rfl (by decide)) (rfl : rkF 124 = 4) (rfl : rkF 124 = 4) rfl rfl kw_805 kw_512 kw_513 kw_514 ⟨by decide, by decide⟩ hl.1 (Nat.le_of_ble_eq_true rfl) d_Ta_closeUp_116 h fun s hs h => ?_
    refine ww_aload_n (pc := 119) g.1 d_Ta_closeUp_119 rfl (lv_at hl 1 rfl) ?_
    refine ww_gR (pc := 120) g (k := 4) cl_Ta (pz rfl (by decide)) (by decide) (Or.inl kw_800) (f := 15364) (t := 125) rfl rfl rfl d_Ta_closeUp_120 ?_
    refine ww_iload_n (pc := 123) g.1 d_Ta_closeUp_123 rfl (lv_at hl 3 rfl) ?_
    refine ww_aload_n (pc := 124) g.1 d_Ta_closeUp_124 rfl (lv_at hl 1 rfl) ?_
    refine ww_gR (pc := 125) g (k := 4) cl_Ta (pz rfl (by decide)) (by decide) (Or.inl kw_800) (f := 15364) (t := 125) rfl rfl rfl d_Ta_closeUp_125 ?_
    refine ww_iload_n (pc := 128) g.1 d_Ta_closeUp_128 rfl (lv_at hl 2 rfl) ?_
    refine ww_iload (pc := 129) g.1 d_Ta_closeUp_129 (lv_at hl 0 rfl) ?_
    refine ww_ci (pc := 131) g (pz rfl (by decide)) (pz rfl (by decide)) ((rfl : rkF 125 = 1).trans (rfl : rkF 125 = 1).symm) (Or.inl (rfl : rkF 125 = 1)) rfl rfl kw_805 kw_512 kw_513 kw_514 ⟨by decide, by decide⟩ hl.1 (Nat.le_of_ble_eq_true rfl) d_Ta_closeUp_131 h fun s hs h => ?_
    refine ww_aload_n (pc := 134) g.1 d_Ta_closeUp_134 rfl (lv_at hl 1 rfl) ?_
    refine ww_gR (pc := 135) g (k := 5) cl_Ta (pz rfl (by decide)) (by decide) (Or.inl kw_799) (f := 15365) (t := 126) rfl rfl rfl d_Ta_closeUp_135 ?_
    refine ww_iload_n (pc := 138) g.1 d_Ta_closeUp_138 rfl (lv_at hl 3 rfl) ?_
    refine ww_aload_n (pc := 139) g.1 d_Ta_closeUp_139 rfl (lv_at hl 1 rfl) ?_
    refine ww_gR (pc := 140) g (k := 5) cl_Ta (pz rfl (by decide)) (by decide) (Or.inl kw_799) (f := 15365) (t := 126) rfl rfl rfl d_Ta_closeUp_140 ?_
    refine ww_iload_n (pc := 143) g.1 d_Ta_closeUp_143 rfl (lv_at hl 2 rfl) ?_
    refine ww_iload (pc := 144) g.1 d_Ta_closeUp_144 (lv_at hl 0 rfl) ?_
    refine ww_ci (pc := 146) g (pz rfl (by decide)) (pz rfl (by decide)) ((rfl : rkF 126 = 1).trans (rfl : rkF 126 = 1).symm) (Or.inl (rfl : rkF 126 = 1)) rfl rfl kw_805 kw_512 kw_513 kw_514 ⟨by decide, by decide⟩ hl.1 (Nat.le_of_ble_eq_true rfl) d_Ta_closeUp_146 h fun s hs h => ?_
    refine ww_aload_n (pc := 149) g.1 d_Ta_closeUp_149 rfl (lv_at hl 1 rfl) ?_
    refine ww_gR (pc := 150) g (k := 6) cl_Ta (pz rfl (by decide)) (by decide) (Or.inl kw_770) (f := 15366) (t := 127) rfl rfl rfl d_Ta_closeUp_150 ?_
    refine ww_iload_n (pc := 153) g.1 d_Ta_closeUp_153 rfl (lv_at hl 2 rfl) ?_
    refine ww_iload (pc := 154) g.1 d_Ta_closeUp_154 (lv_at hl 5 rfl) ?_
    refine ww_si (pc := 156) g (pz rfl (by decide)) rfl rfl d_Ta_closeUp_156 h fun s hs h => ?_
    refine ww_aload_n (pc := 157) g.1 d_Ta_closeUp_157 rfl (lv_at hl 1 rfl) ?_
    refine ww_gR (pc := 158) g (k := 8) cl_Ta (pz rfl (by decide)) (by decide) (Or.inl kw_772) (f := 15368) (t := 111) rfl rfl rfl d_Ta_closeUp_158 ?_
    refine ww_gR (pc := 161) g (k := 0) cl_He (pz rfl (by decide)) (by decide) (Or.inl kw_804) (f := 14208) (t := 112) rfl rfl rfl d_Ta_closeUp_161 ?_
    refine ww_iload (pc := 164) g.1 d_Ta_closeUp_164 (lv_at hl 5 rfl) ?_
    refine ww_a8 (pc := 166) g (t := 145) (n := 4000) (pz rfl (by decide)) rfl rfl rfl rfl d_Ta_closeUp_166 h fun pa166 h => ?_
    refine ww_iload_n (pc := 167) g.1 d_Ta_closeUp_167 rfl (lv_at hl 2 rfl) ?_
    refine ww_pI (pc := 168) g (k := 11) cl_Tg pa166 (by decide) (Or.inl kw_771) rfl (f := 18571) rfl rfl rfl rfl d_Ta_closeUp_168 h fun s hs h => ?_
    refine ww_iload_n (pc := 171) g.1 d_Ta_closeUp_171 rfl (lv_at hl 2 rfl) ?_
    refine ww_iload (pc := 172) g.1 d_Ta_closeUp_172 (lv_at hl 0 rfl) ?_
    refine ww_iadd (pc := 174) g.1 d_Ta_closeUp_174 ?_
    refine ww_leti h fun l1_175 h => ?_
    refine ww_istore_n (pc := 175) (i := 1) g.1 (lv' := [(1, .int l1_175), (5, .int k0), (0, .ref (q.1 120 0)), (2, .int l2), (3, .int l3), (4, .int l4)]) d_Ta_closeUp_175 rfl hl (by decide) rfl fun ls hl => ?_
    exact j_Ta_closeUp_j176 g hR l1_175 l2 l3 k0 s ls (lv_sub hl [2, 0, 3, 4, 1] rfl) h

theorem lp_Ta_closeUp_L6 {X : Cx} {q : PL} (g : Gd X y_Ta_closeUp b_Ta_closeUp 6 none 1 26 R_Ta) (x : Int32 × Int32 × Int32) (s : S1) (o : ((Int32 × Int32 × Int32) ⊕ ((Int32))) × S1) (h : M_Ta_closeUp_L6 x s = some o) (hR : (Sum.elim (fun y : Int32 × Int32 × Int32 => ∀ ls : Array Slot, lv_has ls 6 [(0, .ref (q.1 120 0)), (1, .int y.1), (2, .int y.2.1), (3, .int y.2.2)] → WW X q o.2 6 ls []) (fun y : Int32 => ∀ ls : Array Slot, lv_has ls 6 [(0, .ref (q.1 120 0)), (1, .int y)] → WW X q o.2 187 ls []) o.1)) : ∀ ls : Array Slot, lv_has ls 6 [(0, .ref (q.1 120 0)), (1, .int x.1), (2, .int x.2.1), (3, .int x.2.2)] → WW X q s 6 ls [] := by
  intro ls hl
  unfold M_Ta_closeUp_L6 at h
  refine ww_iload_n (pc := 6) g.1 d_Ta_closeUp_6 rfl (lv_at hl 3 rfl) ?_
  refine ww_ldc (pc := 7) g (v := 50000) kw_803 d_Ta_closeUp_7 ?_
  refine ww_icmp_ge (pc := 9) (tgt := 187) g.1 d_Ta_closeUp_9 (by decide) h (fun c h => ?_) (fun c h => ?_)
  · rw [oR_eq h] at hR
    exact hR ls (lv_sub hl [0, 1] rfl)
  · refine ww_iload_n (pc := 12) g.1 d_Ta_closeUp_12 rfl (lv_at hl 2 rfl) ?_
    refine ww_aload_n (pc := 13) g.1 d_Ta_closeUp_13 rfl (lv_at hl 0 rfl) ?_
    refine ww_gI (pc := 14) g (k := 7) cl_Ta (pz rfl (by decide)) (by decide) (Or.inl kw_714) (f := 15367) rfl rfl d_Ta_closeUp_14 h fun v14 h => ?_
    refine ww_icmp_ge (pc := 17) (tgt := 187) g.1 d_Ta_closeUp_17 (by decide) h (fun c h => ?_) (fun c h => ?_)
    · rw [oR_eq h] at hR
      exact hR ls (lv_sub hl [0, 1] rfl)
    · refine ww_aload_n (pc := 20) g.1 d_Ta_closeUp_20 rfl (lv_at hl 0 rfl) ?_
      refine ww_gR (pc := 21) g (k := 6) cl_Ta (pz rfl (by decide)) (by decide) (Or.inl kw_770) (f := 15366) (t := 127) rfl rfl rfl d_Ta_closeUp_21 ?_
      refine ww_iload_n (pc := 24) g.1 d_Ta_closeUp_24 rfl (lv_at hl 2 rfl) ?_
      refine ww_ai (pc := 25) g (pz rfl (by decide)) rfl rfl d_Ta_closeUp_25 h fun v25 h => ?_
      refine ww_istore (pc := 26) (i := 4) g.1 (lv' := [(4, .int v25), (0, .ref (q.1 120 0)), (1, .int x.1), (2, .int x.2.1), (3, .int x.2.2)]) d_Ta_closeUp_26 hl (by decide) rfl fun ls hl => ?_
      refine ww_iload (pc := 28) g.1 d_Ta_closeUp_28 (lv_at hl 0 rfl) ?_
      refine ww_if_ge (pc := 30) (tgt := 39) g.1 d_Ta_closeUp_30 (by decide) h (fun c h => ?_) (fun c h => ?_)
      · refine ww_aload_n (pc := 39) g.1 d_Ta_closeUp_39 rfl (lv_at hl 1 rfl) ?_
        refine ww_gR (pc := 40) g (k := 8) cl_Ta (pz rfl (by decide)) (by decide) (Or.inl kw_772) (f := 15368) (t := 111) rfl rfl rfl d_Ta_closeUp_40 ?_
        refine ww_gR (pc := 43) g (k := 0) cl_He (pz rfl (by decide)) (by decide) (Or.inl kw_804) (f := 14208) (t := 112) rfl rfl rfl d_Ta_closeUp_43 ?_
        refine ww_iload (pc := 46) g.1 d_Ta_closeUp_46 (lv_at hl 0 rfl) ?_
        refine ww_a8 (pc := 48) g (t := 145) (n := 4000) (pz rfl (by decide)) rfl rfl rfl rfl d_Ta_closeUp_48 h fun pa48 h => ?_
        refine ww_gI (pc := 49) g (k := 12) cl_Tg pa48 (by decide) (Or.inl kw_769) (f := 18572) rfl rfl d_Ta_closeUp_49 h fun v49 h => ?_
        exact j_Ta_closeUp_j52 g hR x.1 x.2.1 x.2.2 v25 v49 s ls (lv_sub hl [1, 2, 3, 4, 0] rfl) h
      · refine ww_iload (pc := 33) g.1 d_Ta_closeUp_33 (lv_at hl 0 rfl) ?_
        refine ww_ineg (pc := 35) g.1 d_Ta_closeUp_35 ?_
        refine ww_goto (pc := 36) (tgt := 52) g.1 d_Ta_closeUp_36 (by decide) ?_
        exact j_Ta_closeUp_j52 g hR x.1 x.2.1 x.2.2 v25 (-v25) s ls (lv_sub hl [1, 2, 3, 4, 0] rfl) h

theorem j_Ta_closeUp_j187 {X : Cx} {q : PL} (g : Gd X y_Ta_closeUp b_Ta_closeUp 6 none 1 26 R_Ta) {o : (Unit) × S1} (hR : Rt X q o.2 none) (l1 : Int32) (s : S1) (ls : Array Slot) (hl : lv_has ls 6 [(0, .ref (q.1 120 0)), (1, .int l1)]) (h : M_Ta_closeUp_j187 l1 s = some o) : WW X q s 187 ls [] := by
  unfold M_Ta_closeUp_j187 at h
  refine ww_aload_n (pc := 187) g.1 d_Ta_closeUp_187 rfl (lv_at hl 0 rfl) ?_
  refine ww_iload_n (pc := 188) g.1 d_Ta_closeUp_188 rfl (lv_at hl 1 rfl) ?_
  refine ww_pI (pc := 189) g (k := 7) cl_Ta (pz rfl (by decide)) (by decide) (Or.inl kw_714) rfl (f := 15367) rfl rfl rfl rfl d_Ta_closeUp_189 h fun s hs h => ?_
  exact ww_vretH (pc := 192) g h hR d_Ta_closeUp_192

theorem ct_Ta_closeUp {l : Launch} {P : PP} {q : PL} {s s' : S1}  {r : Unit} (h : M_Ta_closeUp s = some (r, s')) : Ct l y_Ta_closeUp b_Ta_closeUp 6 none 1 26 P q s [.ref (q.1 120 0)] none q s' := by
  refine ct_of (by decide) (Nat.le_of_ble_eq_true rfl) fun X ls eP el g hR hl => ?_
  subst eP
  have hR : Rt X q ((r, s') : Unit × S1).2 none := hR
  have hl : lv_has ls 6 [(0, .ref (q.1 120 0))] := hl
  generalize (r, s') = o at h hR
  unfold M_Ta_closeUp at h
  refine ww_iconst (pc := 0) g.1 (v := 0) d_Ta_closeUp_0 (by decide) ?_
  refine ww_istore_n (pc := 1) (i := 1) g.1 (lv' := [(1, .int 0), (0, .ref (q.1 120 0))]) d_Ta_closeUp_1 rfl hl (by decide) rfl fun ls hl => ?_
  refine ww_iconst (pc := 2) g.1 (v := 0) d_Ta_closeUp_2 (by decide) ?_
  refine ww_istore_n (pc := 3) (i := 2) g.1 (lv' := [(2, .int 0), (1, .int 0), (0, .ref (q.1 120 0))]) d_Ta_closeUp_3 rfl hl (by decide) rfl fun ls hl => ?_
  refine ww_iconst (pc := 4) g.1 (v := 0) d_Ta_closeUp_4 (by decide) ?_
  refine ww_istore_n (pc := 5) (i := 3) g.1 (lv' := [(3, .int 0), (2, .int 0), (1, .int 0), (0, .ref (q.1 120 0))]) d_Ta_closeUp_5 rfl hl (by decide) rfl fun ls hl => ?_
  obtain ⟨e6, s1, hw, h⟩ := oB_of h
  refine oW_rule (Wh := fun (x : Int32 × Int32 × Int32) (s : S1) => ∀ ls : Array Slot, lv_has ls 6 [(0, .ref (q.1 120 0)), (1, .int x.1), (2, .int x.2.1), (3, .int x.2.2)] → WW X q s 6 ls []) (We := fun (e : (Int32)) (s : S1) => ∀ ls : Array Slot, lv_has ls 6 [(0, .ref (q.1 120 0)), (1, .int e)] → WW X q s 187 ls []) (fun x s o hb hc => lp_Ta_closeUp_L6 (q := q) g x s o hb hc) hw ?_ ls (lv_sub hl [3, 2, 1, 0] rfl)
  clear hw hl
  clear ls
  intro ls hl
  generalize s1 = s at h ⊢
  exact j_Ta_closeUp_j187 g hR e6 s ls (lv_sub hl [0, 1] rfl) h

abbrev b_Co_init : ByteArray := prog_4_method_1_code
def y_Co_init : MethodName := ⟨R_Co, "<init>", "(I)V"⟩
abbrev w_Co_init : List Cond := .code y_Co_init b_Co_init 3 none :: wA
theorem k_Co_init : Cond.code y_Co_init b_Co_init 3 none ∈ wA := kinm (show _ ∈ tables_1 from (List.mem_append_right _ (List.mem_append_right _ (List.mem_append_right _ (List.mem_append_right _ (List.mem_append_right _ (List.mem_append_left _ (List.mem_of_getElem? (l := tables_1_6) (i := 86) (by decide +kernel))))))))) (by decide +kernel)
theorem d_Co_init_0 : decode b_Co_init 0 = .ok (.aload_n 0, 1) := by decide +kernel
theorem d_Co_init_1 : decode b_Co_init 1 = .ok (.invokespecial 3, 3) := by decide +kernel
theorem d_Co_init_4 : decode b_Co_init 4 = .ok (.aload_n 0, 1) := by decide +kernel
theorem d_Co_init_5 : decode b_Co_init 5 = .ok (.sipush 4000, 3) := by decide +kernel
theorem d_Co_init_8 : decode b_Co_init 8 = .ok (.newarray .byte, 2) := by decide +kernel
theorem d_Co_init_10 : decode b_Co_init 10 = .ok (.putfield 9, 3) := by decide +kernel
theorem d_Co_init_13 : decode b_Co_init 13 = .ok (.aload_n 0, 1) := by decide +kernel
theorem d_Co_init_14 : decode b_Co_init 14 = .ok (.sipush 4000, 3) := by decide +kernel
theorem d_Co_init_17 : decode b_Co_init 17 = .ok (.newarray .long, 2) := by decide +kernel
theorem d_Co_init_19 : decode b_Co_init 19 = .ok (.putfield 15, 3) := by decide +kernel
theorem d_Co_init_22 : decode b_Co_init 22 = .ok (.aload_n 0, 1) := by decide +kernel
theorem d_Co_init_23 : decode b_Co_init 23 = .ok (.sipush 200, 3) := by decide +kernel
theorem d_Co_init_26 : decode b_Co_init 26 = .ok (.anewarray 19, 3) := by decide +kernel
theorem d_Co_init_29 : decode b_Co_init 29 = .ok (.putfield 21, 3) := by decide +kernel
theorem d_Co_init_32 : decode b_Co_init 32 = .ok (.aload_n 0, 1) := by decide +kernel
theorem d_Co_init_33 : decode b_Co_init 33 = .ok (.iload_n 1, 1) := by decide +kernel
theorem d_Co_init_34 : decode b_Co_init 34 = .ok (.putfield 25, 3) := by decide +kernel
theorem d_Co_init_37 : decode b_Co_init 37 = .ok (.iconst 0, 1) := by decide +kernel
theorem d_Co_init_38 : decode b_Co_init 38 = .ok (.istore_n 2, 1) := by decide +kernel
theorem d_Co_init_39 : decode b_Co_init 39 = .ok (.iload_n 2, 1) := by decide +kernel
theorem d_Co_init_40 : decode b_Co_init 40 = .ok (.sipush 200, 3) := by decide +kernel
theorem d_Co_init_43 : decode b_Co_init 43 = .ok (.if_icmp .ge 22, 3) := by decide +kernel
theorem d_Co_init_46 : decode b_Co_init 46 = .ok (.aload_n 0, 1) := by decide +kernel
theorem d_Co_init_47 : decode b_Co_init 47 = .ok (.getfield 21, 3) := by decide +kernel
theorem d_Co_init_50 : decode b_Co_init 50 = .ok (.iload_n 2, 1) := by decide +kernel
theorem d_Co_init_51 : decode b_Co_init 51 = .ok (.new 19, 3) := by decide +kernel
theorem d_Co_init_54 : decode b_Co_init 54 = .ok (.dup, 1) := by decide +kernel
theorem d_Co_init_55 : decode b_Co_init 55 = .ok (.invokespecial 29, 3) := by decide +kernel
theorem d_Co_init_58 : decode b_Co_init 58 = .ok (.aastore, 1) := by decide +kernel
theorem d_Co_init_59 : decode b_Co_init 59 = .ok (.iinc 2 1, 3) := by decide +kernel
theorem d_Co_init_62 : decode b_Co_init 62 = .ok (.goto (-23), 3) := by decide +kernel
theorem d_Co_init_65 : decode b_Co_init 65 = .ok (.return_, 1) := by decide +kernel
theorem kw_808 : Cond.methodLink R_Co 3 objectInit ∈ wA := kinm (show _ ∈ tables_1 from (List.mem_append_right _ (List.mem_append_right _ (List.mem_append_right _ (List.mem_append_right _ (List.mem_append_right _ (List.mem_append_left _ (List.mem_of_getElem? (l := tables_1_6) (i := 87) (by decide +kernel))))))))) (by decide +kernel)
theorem kw_809 : Cond.fieldLink R_Co 9 "LuaMachine$Coroutine" "kinds" "[B" ∈ wA := kinm (show _ ∈ tables_1 from (List.mem_append_right _ (List.mem_append_right _ (List.mem_append_right _ (List.mem_append_right _ (List.mem_append_right _ (List.mem_append_left _ (List.mem_of_getElem? (l := tables_1_6) (i := 136) (by decide +kernel))))))))) (by decide +kernel)
theorem kw_810 : Cond.fieldLink R_Co 15 "LuaMachine$Coroutine" "values" "[J" ∈ wA := kinm (show _ ∈ tables_1 from (List.mem_append_right _ (List.mem_append_right _ (List.mem_append_right _ (List.mem_append_right _ (List.mem_append_right _ (List.mem_append_left _ (List.mem_of_getElem? (l := tables_1_6) (i := 140) (by decide +kernel))))))))) (by decide +kernel)
theorem kw_811 : Cond.fieldLink R_Co 21 "LuaMachine$Coroutine" "frames" "[LLuaMachine$Frame;" ∈ wA := kinm (show _ ∈ tables_1 from (List.mem_append_right _ (List.mem_append_right _ (List.mem_append_right _ (List.mem_append_right _ (List.mem_append_right _ (List.mem_append_left _ (List.mem_of_getElem? (l := tables_1_6) (i := 144) (by decide +kernel))))))))) (by decide +kernel)
theorem nwa_Fm : Cond.arrayOver (.object R_Fm) ∈ xW := xinm (show _ ∈ tables_1 from (List.mem_append_right _ (List.mem_append_right _ (List.mem_append_right _ (List.mem_append_right _ (List.mem_append_right _ (List.mem_append_left _ (List.mem_of_getElem? (l := tables_1_6) (i := 89) (by decide +kernel))))))))) (by decide +kernel)
theorem kw_813 : Cond.classLink R_Co 19 R_Fm ∈ wA := kinm (show _ ∈ tables_1 from (List.mem_append_right _ (List.mem_append_right _ (List.mem_append_right _ (List.mem_append_right _ (List.mem_append_right _ (List.mem_append_left _ (List.mem_of_getElem? (l := tables_1_6) (i := 88) (by decide +kernel))))))))) (by decide +kernel)
theorem kw_814 : Cond.fieldLink R_Co 25 "LuaMachine$Coroutine" "index" "I" ∈ wA := kinm (show _ ∈ tables_1 from (List.mem_append_right _ (List.mem_append_right _ (List.mem_append_right _ (List.mem_append_right _ (List.mem_append_right _ (List.mem_append_left _ (List.mem_of_getElem? (l := tables_1_6) (i := 147) (by decide +kernel))))))))) (by decide +kernel)
abbrev b_Fm_init : ByteArray := prog_5_method_1_code
def y_Fm_init : MethodName := ⟨R_Fm, "<init>", "()V"⟩
abbrev w_Fm_init : List Cond := .code y_Fm_init b_Fm_init 1 none :: wA
theorem k_Fm_init : Cond.code y_Fm_init b_Fm_init 1 none ∈ wA := kinm (show _ ∈ tables_1 from (List.mem_append_right _ (List.mem_append_right _ (List.mem_append_right _ (List.mem_append_right _ (List.mem_append_right _ (List.mem_append_left _ (List.mem_of_getElem? (l := tables_1_6) (i := 93) (by decide +kernel))))))))) (by decide +kernel)
theorem d_Fm_init_0 : decode b_Fm_init 0 = .ok (.aload_n 0, 1) := by decide +kernel
theorem d_Fm_init_1 : decode b_Fm_init 1 = .ok (.invokespecial 1, 3) := by decide +kernel
theorem d_Fm_init_4 : decode b_Fm_init 4 = .ok (.return_, 1) := by decide +kernel
theorem kw_815 : Cond.methodLink R_Fm 1 objectInit ∈ wA := kinm (show _ ∈ tables_1 from (List.mem_append_right _ (List.mem_append_right _ (List.mem_append_right _ (List.mem_append_right _ (List.mem_append_right _ (List.mem_append_left _ (List.mem_of_getElem? (l := tables_1_6) (i := 94) (by decide +kernel))))))))) (by decide +kernel)
theorem kw_816 : Cond.instanceMethod y_Fm_init ∈ wA := kinm (show _ ∈ tables_1 from (List.mem_append_right _ (List.mem_append_right _ (List.mem_append_right _ (List.mem_append_right _ (List.mem_append_right _ (List.mem_append_left _ (List.mem_of_getElem? (l := tables_1_6) (i := 92) (by decide +kernel))))))))) (by decide +kernel)
theorem kw_817 : Cond.initialized R_Fm ∈ wA := kinm (show _ ∈ tables_1 from (List.mem_append_left _ (List.mem_of_getElem? (l := tables_1_1) (i := 34) (by decide +kernel)))) (by decide +kernel)
theorem ci_Fm_init : CIi y_Fm_init b_Fm_init 1 0 := ⟨rfl, kw_816, kw_817, k_Fm_init, by decide +kernel⟩
theorem ct0_Fm_init {l : Launch} : Ct0 l y_Fm_init b_Fm_init := ct0_ofi (by decide) d_Fm_init_0 d_Fm_init_1 d_Fm_init_4 kw_815 kw_779 kw_780
theorem nw_Co_29 : Cond.methodLinkNest R_Co 29 y_Fm_init "LuaMachine" ∈ xW := xinm (show _ ∈ tables_1 from (List.mem_append_right _ (List.mem_append_right _ (List.mem_append_right _ (List.mem_append_right _ (List.mem_append_right _ (List.mem_append_left _ (List.mem_of_getElem? (l := tables_1_6) (i := 91) (by decide +kernel))))))))) (by decide +kernel)
theorem kw_819 : Cond.instantiable R_Fm 9 ∈ wA := kinm (show _ ∈ tables_1 from (List.mem_append_right _ (List.mem_append_right _ (List.mem_append_right _ (List.mem_append_right _ (List.mem_append_right _ (List.mem_append_left _ (List.mem_of_getElem? (l := tables_1_6) (i := 90) (by decide +kernel))))))))) (by decide +kernel)
theorem kw_820 : Cond.instanceMethod y_Co_init ∈ wA := kinm (show _ ∈ tables_1 from (List.mem_append_right _ (List.mem_append_right _ (List.mem_append_right _ (List.mem_append_right _ (List.mem_append_right _ (List.mem_append_left _ (List.mem_of_getElem? (l := tables_1_6) (i := 85) (by decide +kernel))))))))) (by decide +kernel)
theorem kw_821 : Cond.initialized R_Co ∈ wA := kinm (show _ ∈ tables_1 from (List.mem_append_left _ (List.mem_of_getElem? (l := tables_1_1) (i := 33) (by decide +kernel)))) (by decide +kernel)
theorem ci_Co_init : CIi y_Co_init b_Co_init 3 1 := ⟨rfl, kw_820, kw_821, k_Co_init, by decide +kernel⟩
theorem lp_Co_init_L39 {X : Cx} {q0 : PL} (g : Gd X y_Co_init b_Co_init 3 none 2 32 R_Co) (x : Int32 × Int32 × (Nat × Nat)) (s : S1) (o : ((Int32 × Int32 × (Nat × Nat)) ⊕ (((Nat × Nat)))) × S1) (h : M_Co_init_L39 x s = some o) (hR : (Sum.elim (fun y : Int32 × Int32 × (Nat × Nat) => ∀ q : PL, Exq (xP X) [149, 150, 151] q0 q → Rmq (xP X) q y.2.2 → ∀ ls : Array Slot, (prs o.2 153 y.1) → lv_has ls 3 [(0, .ref (q.1 153 y.1)), (2, .int y.2.1)] → WW X q o.2 39 ls []) (fun y : (Nat × Nat) => ∀ q : PL, Exq (xP X) [149, 150, 151] q0 q → Rmq (xP X) q y → ∀ ls : Array Slot, lv_has ls 3 [] → WW X q o.2 65 ls []) o.1)) : ∀ q : PL, Exq (xP X) [149, 150, 151] q0 q → Rmq (xP X) q x.2.2 → ∀ ls : Array Slot, (prs s 153 x.1) → lv_has ls 3 [(0, .ref (q.1 153 x.1)), (2, .int x.2.1)] → WW X q s 39 ls [] := by
  intro q hx0 hm ls hp0 hl
  unfold M_Co_init_L39 at h
  refine ww_iload_n (pc := 39) g.1 d_Co_init_39 rfl (lv_at hl 1 rfl) ?_
  refine ww_sipush (pc := 40) g.1 (v := 200) d_Co_init_40 (by decide) ?_
  refine ww_icmp_ge (pc := 43) (tgt := 65) g.1 d_Co_init_43 (by decide) h (fun c h => ?_) (fun c h => ?_)
  · rw [oR_eq h] at hR
    exact hR q hx0 hm ls (lv_sub hl [] rfl)
  · refine ww_aload_n (pc := 46) g.1 d_Co_init_46 rfl (lv_at hl 0 rfl) ?_
    refine ww_g5 (pc := 47) g (k := 2) cl_Nc hp0 (by decide) (Or.inl kw_811) (f := 19586) (t := 151) (f2 := 19455) rfl rfl rfl rfl d_Co_init_47 h fun v47 hv47 h => ?_
    refine ww_ok h fun cv47 h => ?_
    refine ww_dn cv47 ?_
    have pd47 : prs s 151 x.1 := pdn (hv47 ▸ cv47) hp0.2.1 hp0.2.2
    refine ww_iload_n (pc := 50) g.1 d_Co_init_50 rfl (lv_at hl 1 rfl) ?_
    refine ww_ok h fun cn51 h => ?_
    refine ww_ok h fun cm51 h => ?_
    refine ww_ks h fun cg51 h => ?_
    refine ww_lo fun dlo => ?_
    refine ww_nwO (ra := 151) (ia := x.1) (j := x.2.1) (jj := (x.1 * 200 + x.2.1)) (t := 152) (N := 200) (L := []) (pc := 51) g pd47 (Or.inr ⟨rfl, rfl⟩) rfl rfl rfl (by decide) (in32 rfl cn51) cl_Fm dv_Fm h5_Fm (by decide) (fm_rng cm51 cn51) (rfFm cm51 cn51 cg51.2) ⟨cg51.1, rfl⟩ kw_813 kw_819 kw_817 ci_Fm_init (Or.inr ⟨_, nw_Co_29⟩) ct0_Fm_init ⟨by decide, by decide⟩ hl.1 (Nat.le_of_ble_eq_true rfl) hm d_Co_init_51 d_Co_init_54 d_Co_init_55 d_Co_init_58 h (fun _ => rfl) fun q51 m51 s hs hE hm pm51 h => ?_
    have ex51_0 : q51.1 153 x.1 = q.1 153 x.1 := hE _ _ (by decide) (dlo _ _ hp0)
    have hl : lv_has ls 3 [(0, .ref (q51.1 153 x.1)), (2, .int x.2.1)] := by rw [ex51_0]; exact hl
    refine ww_st (st' := []) (by rfl) ?_
    refine ww_hi fun dhi => ?_
    have hp0 : prs s 153 x.1 := dhi _ _ hp0.2.1 hp0.2.2 (by rw [ex51_0]; exact dlo _ _ hp0)
    have hx0 : Exq (xP X) [149, 150, 151] _ q51 := hx0.tr (hE.sub (by decide))
    refine ww_iinc (pc := 59) g.1 (v := x.2.1 + 1) (lv' := [(2, .int (x.2.1 + 1)), (0, .ref (q51.1 153 x.1))]) d_Co_init_59 hl (k := 1) rfl (by rfl) (by decide) rfl fun ls hl => ?_
    refine ww_goto (pc := 62) (tgt := 39) g.1 d_Co_init_62 (by decide) ?_
    rw [oR_eq h] at hR
    exact hR q51 hx0 hm ls hp0 (lv_sub hl [1, 0] rfl)

theorem ct_Co_init {l : Launch} {P : PP} {q : PL} {s s' : S1} {n0 n1 : Nat × Nat} {l0 : Int32} {l1 : Int32} (hp0 : prs s 153 l0) {r : Unit} (hm : Rmq P q n0) (h : M_Co_init n0 l0 l1 s = some ((r, n1), s')) : CtX l y_Co_init b_Co_init 3 none 2 32 P [149, 150, 151] q s [.ref (q.1 153 l0), .int l1] (fun _ => none) n1 s' := by
  refine ctX_ofI (by decide) rfl (Nat.le_of_ble_eq_true rfl) fun X ls eP el g hnm hR hl => ?_
  subst eP
  obtain ⟨q0, hq0⟩ : ∃ q0 : PL, q0 = q := ⟨q, rfl⟩
  have hx0 : Exq (xP X) [149, 150, 151] q0 q := hq0 ▸ Exq.rf
  rw [← hq0] at hR
  have hR : RtX X [149, 150, 151] q0 (((r, n1), s') : (Unit × (Nat × Nat)) × S1).1.2 (((r, n1), s') : (Unit × (Nat × Nat)) × S1).2 (fun _ => none) := hR
  have hl : lv_has ls 3 [(0, .ref (q.1 153 l0)), (1, .int l1)] := hl
  generalize ((r, n1), s') = o at h hR
  unfold M_Co_init at h
  refine ww_aload_n (pc := 0) g.1 d_Co_init_0 rfl (lv_at hl 0 rfl) ?_
  refine ww_obj (pc := 1) g kw_808 kw_779 kw_780 ⟨by decide, by decide⟩ hl.1 (Nat.le_of_ble_eq_true rfl) d_Co_init_1 ?_
  refine ww_aload_n (pc := 4) g.1 d_Co_init_4 rfl (lv_at hl 0 rfl) ?_
  refine ww_sipush (pc := 5) g.1 (v := 4000) d_Co_init_5 (by decide) ?_
  refine ww_ks h fun cg8 h => ?_
  refine ww_lo fun dlo => ?_
  refine ww_nwP (at0 := .byte) (i := l0) (n := 4000) (t := 149) (k := 0) (L := [149]) (pc := 8) g cl_Nc hp0 (by decide) (Or.inl kw_809) (Or.inr ⟨rfl, hnm, rfl, kw_809⟩) ⟨_, rfl⟩ rfl (by decide) (by decide) (hp0.2.2) (Or.inr rfl) (by decide) (by decide) (nrf2 (r0 := 153) (r1 := 148) (k := 0) (k1 := 0) rfl rfl (by decide) (by decide) cg8) (Or.inl (by decide)) kw_620 hm d_Co_init_8 d_Co_init_10 (by decide) h (fun _ => rfl) fun q8 m8 s hs hE hm pm8 h => ?_
  have ex8_0 : q8.1 153 l0 = q.1 153 l0 := hE _ _ (by decide) (dlo _ _ hp0)
  have hl : lv_has ls 3 [(0, .ref (q8.1 153 l0)), (1, .int l1)] := by rw [ex8_0]; exact hl
  refine ww_st (st' := []) (by rfl) ?_
  refine ww_hi fun dhi => ?_
  have hp0 : prs s 153 l0 := dhi _ _ hp0.2.1 hp0.2.2 (by rw [ex8_0]; exact dlo _ _ hp0)
  have hx0 : Exq (xP X) [149, 150, 151] _ q8 := hx0.tr (hE.sub (by decide))
  refine ww_aload_n (pc := 13) g.1 d_Co_init_13 rfl (lv_at hl 0 rfl) ?_
  refine ww_sipush (pc := 14) g.1 (v := 4000) d_Co_init_14 (by decide) ?_
  refine ww_ks h fun cg17 h => ?_
  refine ww_lo fun dlo => ?_
  refine ww_nwP (at0 := .long) (i := l0) (n := 4000) (t := 150) (k := 1) (L := [150]) (pc := 17) g cl_Nc hp0 (by decide) (Or.inl kw_810) (Or.inr ⟨rfl, hnm, rfl, kw_810⟩) ⟨_, rfl⟩ rfl (by decide) (by decide) (hp0.2.2) (Or.inr rfl) (by decide) (by decide) (nrf2 (r0 := 153) (r1 := 148) (k := 1) (k1 := 1) rfl rfl (by decide) (by decide) cg17) (Or.inl (by decide)) kw_621 hm d_Co_init_17 d_Co_init_19 (by decide) h (fun _ => rfl) fun q17 m17 s hs hE hm pm17 h => ?_
  have ex17_0 : q17.1 153 l0 = q8.1 153 l0 := hE _ _ (by decide) (dlo _ _ hp0)
  have hl : lv_has ls 3 [(0, .ref (q17.1 153 l0)), (1, .int l1)] := by rw [ex17_0]; exact hl
  refine ww_st (st' := []) (by rfl) ?_
  refine ww_hi fun dhi => ?_
  have hp0 : prs s 153 l0 := dhi _ _ hp0.2.1 hp0.2.2 (by rw [ex17_0]; exact dlo _ _ hp0)
  have hx0 : Exq (xP X) [149, 150, 151] _ q17 := hx0.tr (hE.sub (by decide))
  refine ww_aload_n (pc := 22) g.1 d_Co_init_22 rfl (lv_at hl 0 rfl) ?_
  refine ww_sipush (pc := 23) g.1 (v := 200) d_Co_init_23 (by decide) ?_
  refine ww_ks h fun cg26 h => ?_
  refine ww_lo fun dlo => ?_
  refine ww_nwQ (i := l0) (n := 200) (t := 151) (k := 2) (L := [151]) (pc := 26) g cl_Nc hp0 (by decide) (Or.inl kw_811) (Or.inr ⟨rfl, hnm, rfl, kw_811⟩) ⟨_, rfl⟩ (by decide) cg26.2 (by decide) (hp0.2.2) rfl (by decide) (by decide) (nrf2 (r0 := 153) (r1 := 148) (k := 2) (k1 := 2) rfl rfl (by decide) (by decide) cg26.1) (Or.inl (by decide)) kw_813 nwa_Fm hm d_Co_init_26 d_Co_init_29 (by decide) h (fun _ => rfl) fun q26 m26 s hs hE hm pm26 h => ?_
  have ex26_0 : q26.1 153 l0 = q17.1 153 l0 := hE _ _ (by decide) (dlo _ _ hp0)
  have hl : lv_has ls 3 [(0, .ref (q26.1 153 l0)), (1, .int l1)] := by rw [ex26_0]; exact hl
  refine ww_st (st' := []) (by rfl) ?_
  refine ww_hi fun dhi => ?_
  have hp0 : prs s 153 l0 := dhi _ _ hp0.2.1 hp0.2.2 (by rw [ex26_0]; exact dlo _ _ hp0)
  have hx0 : Exq (xP X) [149, 150, 151] _ q26 := hx0.tr (hE.sub (by decide))
  refine ww_aload_n (pc := 32) g.1 d_Co_init_32 rfl (lv_at hl 0 rfl) ?_
  refine ww_iload_n (pc := 33) g.1 d_Co_init_33 rfl (lv_at hl 1 rfl) ?_
  refine ww_pIF (pc := 34) g (k := 3) cl_Nc hp0 (by decide) (Or.inl kw_814) ⟨rfl, hnm, rfl, kw_814⟩ (f := 19587) rfl rfl rfl rfl d_Co_init_34 h fun s hs h => ?_
  have hp0 : prs s 153 l0 := prs_kI (r := 153) (k := 3) (by decide) hs hp0
  refine ww_iconst (pc := 37) g.1 (v := 0) d_Co_init_37 (by decide) ?_
  refine ww_istore_n (pc := 38) (i := 2) g.1 (lv' := [(2, .int 0), (0, .ref (q26.1 153 l0)), (1, .int l1)]) d_Co_init_38 rfl hl (by decide) rfl fun ls hl => ?_
  obtain ⟨e39, s1, hw, h⟩ := oB_of h
  refine oW_rule (Wh := fun (x : Int32 × Int32 × (Nat × Nat)) (s : S1) => ∀ q : PL, Exq (xP X) [149, 150, 151] q0 q → Rmq (xP X) q x.2.2 → ∀ ls : Array Slot, (prs s 153 x.1) → lv_has ls 3 [(0, .ref (q.1 153 x.1)), (2, .int x.2.1)] → WW X q s 39 ls []) (We := fun (e : ((Nat × Nat))) (s : S1) => ∀ q : PL, Exq (xP X) [149, 150, 151] q0 q → Rmq (xP X) q e → ∀ ls : Array Slot, lv_has ls 3 [] → WW X q s 65 ls []) (fun x s o hb hc => lp_Co_init_L39 (q0 := q0) g x s o hb hc) hw ?_ q26 hx0 hm ls hp0 (lv_sub hl [1, 0] rfl)
  clear hw hl hx0 hm
  clear ls
  intro qL39 hx0 hm ls hl
  generalize s1 = s at h ⊢
  exact ww_vretX (pc := 65) g h hR hx0 hm d_Co_init_65

abbrev b_Co_restart : ByteArray := prog_4_method_2_code
def y_Co_restart : MethodName := ⟨R_Co, "restart", "(IJ)V"⟩
abbrev w_Co_restart : List Cond := .code y_Co_restart b_Co_restart 4 none :: wA
theorem k_Co_restart : Cond.code y_Co_restart b_Co_restart 4 none ∈ wA := kinm (show _ ∈ tables_1 from (List.mem_append_right _ (List.mem_append_right _ (List.mem_append_right _ (List.mem_append_right _ (List.mem_append_right _ (List.mem_append_left _ (List.mem_of_getElem? (l := tables_1_6) (i := 202) (by decide +kernel))))))))) (by decide +kernel)
theorem d_Co_restart_0 : decode b_Co_restart 0 = .ok (.aload_n 0, 1) := by decide +kernel
theorem d_Co_restart_1 : decode b_Co_restart 1 = .ok (.iconst 0, 1) := by decide +kernel
theorem d_Co_restart_2 : decode b_Co_restart 2 = .ok (.putfield 30, 3) := by decide +kernel
theorem d_Co_restart_5 : decode b_Co_restart 5 = .ok (.aload_n 0, 1) := by decide +kernel
theorem d_Co_restart_6 : decode b_Co_restart 6 = .ok (.iconst 0, 1) := by decide +kernel
theorem d_Co_restart_7 : decode b_Co_restart 7 = .ok (.putfield 33, 3) := by decide +kernel
theorem d_Co_restart_10 : decode b_Co_restart 10 = .ok (.aload_n 0, 1) := by decide +kernel
theorem d_Co_restart_11 : decode b_Co_restart 11 = .ok (.iload_n 1, 1) := by decide +kernel
theorem d_Co_restart_12 : decode b_Co_restart 12 = .ok (.putfield 36, 3) := by decide +kernel
theorem d_Co_restart_15 : decode b_Co_restart 15 = .ok (.aload_n 0, 1) := by decide +kernel
theorem d_Co_restart_16 : decode b_Co_restart 16 = .ok (.iconst 0, 1) := by decide +kernel
theorem d_Co_restart_17 : decode b_Co_restart 17 = .ok (.putfield 39, 3) := by decide +kernel
theorem d_Co_restart_20 : decode b_Co_restart 20 = .ok (.aload_n 0, 1) := by decide +kernel
theorem d_Co_restart_21 : decode b_Co_restart 21 = .ok (.iconst 0, 1) := by decide +kernel
theorem d_Co_restart_22 : decode b_Co_restart 22 = .ok (.putfield 42, 3) := by decide +kernel
theorem d_Co_restart_25 : decode b_Co_restart 25 = .ok (.aload_n 0, 1) := by decide +kernel
theorem d_Co_restart_26 : decode b_Co_restart 26 = .ok (.lload_n 2, 1) := by decide +kernel
theorem d_Co_restart_27 : decode b_Co_restart 27 = .ok (.putfield 46, 3) := by decide +kernel
theorem d_Co_restart_30 : decode b_Co_restart 30 = .ok (.aload_n 0, 1) := by decide +kernel
theorem d_Co_restart_31 : decode b_Co_restart 31 = .ok (.iconst (-1), 1) := by decide +kernel
theorem d_Co_restart_32 : decode b_Co_restart 32 = .ok (.putfield 50, 3) := by decide +kernel
theorem d_Co_restart_35 : decode b_Co_restart 35 = .ok (.aload_n 0, 1) := by decide +kernel
theorem d_Co_restart_36 : decode b_Co_restart 36 = .ok (.iconst (-1), 1) := by decide +kernel
theorem d_Co_restart_37 : decode b_Co_restart 37 = .ok (.putfield 53, 3) := by decide +kernel
theorem d_Co_restart_40 : decode b_Co_restart 40 = .ok (.return_, 1) := by decide +kernel
theorem kw_822 : Cond.fieldLink R_Co 30 "LuaMachine$Coroutine" "depth" "I" ∈ wA := kinm (show _ ∈ tables_1 from (List.mem_append_right _ (List.mem_append_right _ (List.mem_append_right _ (List.mem_append_right _ (List.mem_append_right _ (List.mem_append_left _ (List.mem_of_getElem? (l := tables_1_6) (i := 150) (by decide +kernel))))))))) (by decide +kernel)
theorem kw_823 : Cond.fieldLink R_Co 33 "LuaMachine$Coroutine" "used" "I" ∈ wA := kinm (show _ ∈ tables_1 from (List.mem_append_right _ (List.mem_append_right _ (List.mem_append_right _ (List.mem_append_right _ (List.mem_append_right _ (List.mem_append_left _ (List.mem_of_getElem? (l := tables_1_6) (i := 154) (by decide +kernel))))))))) (by decide +kernel)
theorem kw_824 : Cond.fieldLink R_Co 36 "LuaMachine$Coroutine" "slot" "I" ∈ wA := kinm (show _ ∈ tables_1 from (List.mem_append_right _ (List.mem_append_right _ (List.mem_append_right _ (List.mem_append_right _ (List.mem_append_right _ (List.mem_append_left _ (List.mem_of_getElem? (l := tables_1_6) (i := 157) (by decide +kernel))))))))) (by decide +kernel)
theorem kw_825 : Cond.fieldLink R_Co 39 "LuaMachine$Coroutine" "status" "I" ∈ wA := kinm (show _ ∈ tables_1 from (List.mem_append_right _ (List.mem_append_right _ (List.mem_append_right _ (List.mem_append_right _ (List.mem_append_right _ (List.mem_append_left _ (List.mem_of_getElem? (l := tables_1_6) (i := 160) (by decide +kernel))))))))) (by decide +kernel)
theorem kw_826 : Cond.fieldLink R_Co 42 "LuaMachine$Coroutine" "begun" "Z" ∈ wA := kinm (show _ ∈ tables_1 from (List.mem_append_right _ (List.mem_append_right _ (List.mem_append_right _ (List.mem_append_right _ (List.mem_append_right _ (List.mem_append_left _ (List.mem_of_getElem? (l := tables_1_6) (i := 163) (by decide +kernel))))))))) (by decide +kernel)
theorem kw_827 : Cond.fieldLink R_Co 46 "LuaMachine$Coroutine" "function" "J" ∈ wA := kinm (show _ ∈ tables_1 from (List.mem_append_right _ (List.mem_append_right _ (List.mem_append_right _ (List.mem_append_right _ (List.mem_append_right _ (List.mem_append_left _ (List.mem_of_getElem? (l := tables_1_6) (i := 165) (by decide +kernel))))))))) (by decide +kernel)
theorem kw_828 : Cond.fieldLink R_Co 50 "LuaMachine$Coroutine" "newestOpen" "I" ∈ wA := kinm (show _ ∈ tables_1 from (List.mem_append_right _ (List.mem_append_right _ (List.mem_append_right _ (List.mem_append_right _ (List.mem_append_right _ (List.mem_append_left _ (List.mem_of_getElem? (l := tables_1_6) (i := 168) (by decide +kernel))))))))) (by decide +kernel)
theorem kw_829 : Cond.fieldLink R_Co 53 "LuaMachine$Coroutine" "resumer" "I" ∈ wA := kinm (show _ ∈ tables_1 from (List.mem_append_right _ (List.mem_append_right _ (List.mem_append_right _ (List.mem_append_right _ (List.mem_append_right _ (List.mem_append_left _ (List.mem_of_getElem? (l := tables_1_6) (i := 170) (by decide +kernel))))))))) (by decide +kernel)
theorem kw_830 : Cond.instanceMethod y_Co_restart ∈ wA := kinm (show _ ∈ tables_1 from (List.mem_append_right _ (List.mem_append_right _ (List.mem_append_right _ (List.mem_append_right _ (List.mem_append_right _ (List.mem_append_left _ (List.mem_of_getElem? (l := tables_1_6) (i := 200) (by decide +kernel))))))))) (by decide +kernel)
theorem kw_831 : Cond.selects R_Co y_Co_restart y_Co_restart ∈ wA := kinm (show _ ∈ tables_1 from (List.mem_append_right _ (List.mem_append_right _ (List.mem_append_right _ (List.mem_append_right _ (List.mem_append_right _ (List.mem_append_left _ (List.mem_of_getElem? (l := tables_1_6) (i := 201) (by decide +kernel))))))))) (by decide +kernel)
theorem cv_Co_restart : CV y_Co_restart b_Co_restart 4 none 2 := ⟨kw_830, kw_831, kw_821, k_Co_restart, by decide +kernel⟩
theorem ct_Co_restart {l : Launch} {P : PP} {q : PL} {s s' : S1} {l0 : Int32} {l1 : Int32} {l2 : Int64} (hp0 : prs s 148 l0) {r : Unit} (h : M_Co_restart l0 l1 l2 s = some (r, s')) : Ct l y_Co_restart b_Co_restart 4 none 0 0 P q s [.ref (q.1 148 l0), .int l1, .long l2] none q s' := by
  refine ct_of (by decide) (Nat.le_of_ble_eq_true rfl) fun X ls eP el g hR hl => ?_
  subst eP
  have hR : Rt X q ((r, s') : Unit × S1).2 none := hR
  have hl : lv_has ls 4 [(0, .ref (q.1 148 l0)), (1, .int l1), (2, .long l2)] := hl
  generalize (r, s') = o at h hR
  unfold M_Co_restart at h
  refine ww_aload_n (pc := 0) g.1 d_Co_restart_0 rfl (lv_at hl 0 rfl) ?_
  refine ww_iconst (pc := 1) g.1 (v := 0) d_Co_restart_1 (by decide) ?_
  refine ww_pI (pc := 2) g (k := 4) cl_Co hp0 (by decide) (Or.inl kw_822) rfl (f := 18948) rfl rfl rfl rfl d_Co_restart_2 h fun s hs h => ?_
  have hp0 : prs s 148 l0 := prs_kI (r := 148) (k := 4) (by decide) hs hp0
  refine ww_aload_n (pc := 5) g.1 d_Co_restart_5 rfl (lv_at hl 0 rfl) ?_
  refine ww_iconst (pc := 6) g.1 (v := 0) d_Co_restart_6 (by decide) ?_
  refine ww_pI (pc := 7) g (k := 5) cl_Co hp0 (by decide) (Or.inl kw_823) rfl (f := 18949) rfl rfl rfl rfl d_Co_restart_7 h fun s hs h => ?_
  have hp0 : prs s 148 l0 := prs_kI (r := 148) (k := 5) (by decide) hs hp0
  refine ww_aload_n (pc := 10) g.1 d_Co_restart_10 rfl (lv_at hl 0 rfl) ?_
  refine ww_iload_n (pc := 11) g.1 d_Co_restart_11 rfl (lv_at hl 1 rfl) ?_
  refine ww_pI (pc := 12) g (k := 6) cl_Co hp0 (by decide) (Or.inl kw_824) rfl (f := 18950) rfl rfl rfl rfl d_Co_restart_12 h fun s hs h => ?_
  have hp0 : prs s 148 l0 := prs_kI (r := 148) (k := 6) (by decide) hs hp0
  refine ww_aload_n (pc := 15) g.1 d_Co_restart_15 rfl (lv_at hl 0 rfl) ?_
  refine ww_iconst (pc := 16) g.1 (v := 0) d_Co_restart_16 (by decide) ?_
  refine ww_pI (pc := 17) g (k := 7) cl_Co hp0 (by decide) (Or.inl kw_825) rfl (f := 18951) rfl rfl rfl rfl d_Co_restart_17 h fun s hs h => ?_
  have hp0 : prs s 148 l0 := prs_kI (r := 148) (k := 7) (by decide) hs hp0
  refine ww_aload_n (pc := 20) g.1 d_Co_restart_20 rfl (lv_at hl 0 rfl) ?_
  refine ww_iconst (pc := 21) g.1 (v := 0) d_Co_restart_21 (by decide) ?_
  refine ww_pI (pc := 22) g (k := 8) cl_Co hp0 (by decide) (Or.inl kw_826) rfl (f := 18952) rfl rfl rfl rfl d_Co_restart_22 h fun s hs h => ?_
  have hp0 : prs s 148 l0 := prs_kI (r := 148) (k := 8) (by decide) hs hp0
  refine ww_aload_n (pc := 25) g.1 d_Co_restart_25 rfl (lv_at hl 0 rfl) ?_
  refine ww_lload_n (pc := 26) g.1 d_Co_restart_26 rfl (lv_at hl 2 rfl) ?_
  refine ww_pL (pc := 27) g (k := 9) cl_Co hp0 (by decide) (Or.inl kw_827) rfl (f := 18953) rfl rfl rfl rfl d_Co_restart_27 h fun s hs h => ?_
  have hp0 : prs s 148 l0 := hs ▸ hp0
  refine ww_aload_n (pc := 30) g.1 d_Co_restart_30 rfl (lv_at hl 0 rfl) ?_
  refine ww_iconst (pc := 31) g.1 (v := (-1)) d_Co_restart_31 (by decide) ?_
  refine ww_pI (pc := 32) g (k := 10) cl_Co hp0 (by decide) (Or.inl kw_828) rfl (f := 18954) rfl rfl rfl rfl d_Co_restart_32 h fun s hs h => ?_
  have hp0 : prs s 148 l0 := prs_kI (r := 148) (k := 10) (by decide) hs hp0
  refine ww_aload_n (pc := 35) g.1 d_Co_restart_35 rfl (lv_at hl 0 rfl) ?_
  refine ww_iconst (pc := 36) g.1 (v := (-1)) d_Co_restart_36 (by decide) ?_
  refine ww_pI (pc := 37) g (k := 11) cl_Co hp0 (by decide) (Or.inl kw_829) rfl (f := 18955) rfl rfl rfl rfl d_Co_restart_37 h fun s hs h => ?_
  have hp0 : prs s 148 l0 := prs_kI (r := 148) (k := 11) (by decide) hs hp0
  exact ww_vretH (pc := 40) g h hR d_Co_restart_40


