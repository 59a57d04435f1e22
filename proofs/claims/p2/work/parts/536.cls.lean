abbrev b_Ma_internConstants : ByteArray := prog_7_method_4_code
def y_Ma_internConstants : MethodName := ⟨R_Ma, "internConstants", "()Z"⟩
abbrev w_Ma_internConstants : List Cond := .code y_Ma_internConstants b_Ma_internConstants 5 (some .boolean) :: wA
theorem k_Ma_internConstants : Cond.code y_Ma_internConstants b_Ma_internConstants 5 (some .boolean) ∈ wA := kinm (show _ ∈ tables_1 from (List.mem_append_right _ (List.mem_append_right _ (List.mem_append_right _ (List.mem_append_right _ (List.mem_append_right _ (List.mem_append_left _ (List.mem_of_getElem? (l := tables_1_6) (i := 27) (by decide +kernel))))))))) (by decide +kernel)
theorem d_Ma_internConstants_0 : decode b_Ma_internConstants 0 = .ok (.iconst 0, 1) := by decide +kernel
theorem d_Ma_internConstants_1 : decode b_Ma_internConstants 1 = .ok (.istore_n 1, 1) := by decide +kernel
theorem d_Ma_internConstants_2 : decode b_Ma_internConstants 2 = .ok (.iload_n 1, 1) := by decide +kernel
theorem d_Ma_internConstants_3 : decode b_Ma_internConstants 3 = .ok (.aload_n 0, 1) := by decide +kernel
theorem d_Ma_internConstants_4 : decode b_Ma_internConstants 4 = .ok (.getfield 27, 3) := by decide +kernel
theorem d_Ma_internConstants_7 : decode b_Ma_internConstants 7 = .ok (.getfield 133, 3) := by decide +kernel
theorem d_Ma_internConstants_10 : decode b_Ma_internConstants 10 = .ok (.if_icmp .ge 92, 3) := by decide +kernel
theorem d_Ma_internConstants_13 : decode b_Ma_internConstants 13 = .ok (.aload_n 0, 1) := by decide +kernel
theorem d_Ma_internConstants_14 : decode b_Ma_internConstants 14 = .ok (.getfield 27, 3) := by decide +kernel
theorem d_Ma_internConstants_17 : decode b_Ma_internConstants 17 = .ok (.getfield 138, 3) := by decide +kernel
theorem d_Ma_internConstants_20 : decode b_Ma_internConstants 20 = .ok (.iload_n 1, 1) := by decide +kernel
theorem d_Ma_internConstants_21 : decode b_Ma_internConstants 21 = .ok (.baload, 1) := by decide +kernel
theorem d_Ma_internConstants_22 : decode b_Ma_internConstants 22 = .ok (.iconst 4, 1) := by decide +kernel
theorem d_Ma_internConstants_23 : decode b_Ma_internConstants 23 = .ok (.if_icmp .ne 73, 3) := by decide +kernel
theorem d_Ma_internConstants_26 : decode b_Ma_internConstants 26 = .ok (.aload_n 0, 1) := by decide +kernel
theorem d_Ma_internConstants_27 : decode b_Ma_internConstants 27 = .ok (.getfield 27, 3) := by decide +kernel
theorem d_Ma_internConstants_30 : decode b_Ma_internConstants 30 = .ok (.getfield 141, 3) := by decide +kernel
theorem d_Ma_internConstants_33 : decode b_Ma_internConstants 33 = .ok (.iload_n 1, 1) := by decide +kernel
theorem d_Ma_internConstants_34 : decode b_Ma_internConstants 34 = .ok (.laload, 1) := by decide +kernel
theorem d_Ma_internConstants_35 : decode b_Ma_internConstants 35 = .ok (.lstore_n 2, 1) := by decide +kernel
theorem d_Ma_internConstants_36 : decode b_Ma_internConstants 36 = .ok (.aload_n 0, 1) := by decide +kernel
theorem d_Ma_internConstants_37 : decode b_Ma_internConstants 37 = .ok (.getfield 31, 3) := by decide +kernel
theorem d_Ma_internConstants_40 : decode b_Ma_internConstants 40 = .ok (.aload_n 0, 1) := by decide +kernel
theorem d_Ma_internConstants_41 : decode b_Ma_internConstants 41 = .ok (.getfield 27, 3) := by decide +kernel
theorem d_Ma_internConstants_44 : decode b_Ma_internConstants 44 = .ok (.getfield 145, 3) := by decide +kernel
theorem d_Ma_internConstants_47 : decode b_Ma_internConstants 47 = .ok (.lload_n 2, 1) := by decide +kernel
theorem d_Ma_internConstants_48 : decode b_Ma_internConstants 48 = .ok (.bipush 16, 2) := by decide +kernel
theorem d_Ma_internConstants_50 : decode b_Ma_internConstants 50 = .ok (.lushr, 1) := by decide +kernel
theorem d_Ma_internConstants_51 : decode b_Ma_internConstants 51 = .ok (.l2i, 1) := by decide +kernel
theorem d_Ma_internConstants_52 : decode b_Ma_internConstants 52 = .ok (.lload_n 2, 1) := by decide +kernel
theorem d_Ma_internConstants_53 : decode b_Ma_internConstants 53 = .ok (.ldc2_w 148, 3) := by decide +kernel
theorem d_Ma_internConstants_56 : decode b_Ma_internConstants 56 = .ok (.land, 1) := by decide +kernel
theorem d_Ma_internConstants_57 : decode b_Ma_internConstants 57 = .ok (.l2i, 1) := by decide +kernel
theorem d_Ma_internConstants_58 : decode b_Ma_internConstants 58 = .ok (.invokevirtual 116, 3) := by decide +kernel
theorem d_Ma_internConstants_61 : decode b_Ma_internConstants 61 = .ok (.istore 4, 2) := by decide +kernel
theorem d_Ma_internConstants_63 : decode b_Ma_internConstants 63 = .ok (.iload 4, 2) := by decide +kernel
theorem d_Ma_internConstants_65 : decode b_Ma_internConstants 65 = .ok (.ifCond .ge 5, 3) := by decide +kernel
theorem d_Ma_internConstants_68 : decode b_Ma_internConstants 68 = .ok (.iconst 0, 1) := by decide +kernel
theorem d_Ma_internConstants_69 : decode b_Ma_internConstants 69 = .ok (.ireturn, 1) := by decide +kernel
theorem d_Ma_internConstants_70 : decode b_Ma_internConstants 70 = .ok (.aload_n 0, 1) := by decide +kernel
theorem d_Ma_internConstants_71 : decode b_Ma_internConstants 71 = .ok (.getfield 31, 3) := by decide +kernel
theorem d_Ma_internConstants_74 : decode b_Ma_internConstants 74 = .ok (.getfield 120, 3) := by decide +kernel
theorem d_Ma_internConstants_77 : decode b_Ma_internConstants 77 = .ok (.iload 4, 2) := by decide +kernel
theorem d_Ma_internConstants_79 : decode b_Ma_internConstants 79 = .ok (.aaload, 1) := by decide +kernel
theorem d_Ma_internConstants_80 : decode b_Ma_internConstants 80 = .ok (.iconst 1, 1) := by decide +kernel
theorem d_Ma_internConstants_81 : decode b_Ma_internConstants 81 = .ok (.putfield 124, 3) := by decide +kernel
theorem d_Ma_internConstants_84 : decode b_Ma_internConstants 84 = .ok (.aload_n 0, 1) := by decide +kernel
theorem d_Ma_internConstants_85 : decode b_Ma_internConstants 85 = .ok (.getfield 27, 3) := by decide +kernel
theorem d_Ma_internConstants_88 : decode b_Ma_internConstants 88 = .ok (.getfield 141, 3) := by decide +kernel
theorem d_Ma_internConstants_91 : decode b_Ma_internConstants 91 = .ok (.iload_n 1, 1) := by decide +kernel
theorem d_Ma_internConstants_92 : decode b_Ma_internConstants 92 = .ok (.iload 4, 2) := by decide +kernel
theorem d_Ma_internConstants_94 : decode b_Ma_internConstants 94 = .ok (.i2l, 1) := by decide +kernel
theorem d_Ma_internConstants_95 : decode b_Ma_internConstants 95 = .ok (.lastore, 1) := by decide +kernel
theorem d_Ma_internConstants_96 : decode b_Ma_internConstants 96 = .ok (.iinc 1 1, 3) := by decide +kernel
theorem d_Ma_internConstants_99 : decode b_Ma_internConstants 99 = .ok (.goto (-97), 3) := by decide +kernel
theorem d_Ma_internConstants_102 : decode b_Ma_internConstants 102 = .ok (.iconst 1, 1) := by decide +kernel
theorem d_Ma_internConstants_103 : decode b_Ma_internConstants 103 = .ok (.ireturn, 1) := by decide +kernel
theorem kw_1516 : Cond.constantLong R_Ma 148 65535 ∈ wA := kinm (show _ ∈ tables_1 from (List.mem_append_right _ (List.mem_append_right _ (List.mem_append_right _ (List.mem_append_right _ (List.mem_append_right _ (List.mem_append_left _ (List.mem_of_getElem? (l := tables_1_6) (i := 28) (by decide +kernel))))))))) (by decide +kernel)
theorem kw_1517 : Cond.fieldLink R_Ma 133 "LuaMachine$Chunk" "constantCount" "I" ∈ wA := kinm (show _ ∈ tables_1 from (List.mem_append_left _ (List.mem_of_getElem? (l := tables_1_1) (i := 76) (by decide +kernel)))) (by decide +kernel)
theorem kw_1518 : Cond.fieldLink R_Ma 138 "LuaMachine$Chunk" "constantKinds" "[B" ∈ wA := kinm (show _ ∈ tables_1 from (List.mem_append_left _ (List.mem_of_getElem? (l := tables_1_1) (i := 61) (by decide +kernel)))) (by decide +kernel)
theorem kw_1519 : Cond.fieldLink R_Ma 141 "LuaMachine$Chunk" "constantValues" "[J" ∈ wA := kinm (show _ ∈ tables_1 from (List.mem_append_left _ (List.mem_of_getElem? (l := tables_1_1) (i := 64) (by decide +kernel)))) (by decide +kernel)
theorem kw_1520 : Cond.fieldLink R_Ma 145 "LuaMachine$Chunk" "tape" "[B" ∈ wA := kinm (show _ ∈ tables_1 from (List.mem_append_left _ (List.mem_of_getElem? (l := tables_1_1) (i := 70) (by decide +kernel)))) (by decide +kernel)
theorem kw_1521 : Cond.methodLink R_Ma 116 y_He_intern ∈ wA := kinm (show _ ∈ tables_1 from (List.mem_append_right _ (List.mem_append_right _ (List.mem_append_right _ (List.mem_append_right _ (List.mem_append_right _ (List.mem_append_left _ (List.mem_of_getElem? (l := tables_1_6) (i := 9) (by decide +kernel))))))))) (by decide +kernel)
theorem kw_1522 : Cond.fieldLink R_Ma 124 "LuaMachine$Thing" "stays" "Z" ∈ wA := kinm (show _ ∈ tables_1 from (List.mem_append_right _ (List.mem_append_right _ (List.mem_append_right _ (List.mem_append_right _ (List.mem_append_left _ (List.mem_of_getElem? (l := tables_1_5) (i := 176) (by decide +kernel)))))))) (by decide +kernel)
theorem kw_1523 : Cond.instanceMethod y_Ma_internConstants ∈ wA := kinm (show _ ∈ tables_1 from (List.mem_append_right _ (List.mem_append_right _ (List.mem_append_right _ (List.mem_append_right _ (List.mem_append_right _ (List.mem_append_left _ (List.mem_of_getElem? (l := tables_1_6) (i := 26) (by decide +kernel))))))))) (by decide +kernel)
theorem kw_1524 : Cond.selects R_Ma y_Ma_internConstants y_Ma_internConstants ∈ wA := kinp 26 (by decide +kernel) (by decide +kernel)
theorem cv_Ma_internConstants : CV y_Ma_internConstants b_Ma_internConstants 5 (some .boolean) 0 := ⟨kw_1523, kw_1524, kw_838, k_Ma_internConstants, by decide +kernel⟩
theorem j_Ma_internConstants_j96 {X : Cx} {q0 q : PL} (g : Gd X y_Ma_internConstants b_Ma_internConstants 5 (some .boolean) 5 124 R_Ma) {o : ((Int32 × (Nat × Nat)) ⊕ (((Nat × Nat)) ⊕ ((Nat × Nat)))) × S1} (hR : (Sum.elim (fun y : Int32 × (Nat × Nat) => ∀ q : PL, Exq (xP X) [146, 154] q0 q → Rmq (xP X) q y.2 → ∀ ls : Array Slot, lv_has ls 5 [(0, .ref (q.1 128 0)), (1, .int y.1)] → WW X q o.2 2 ls []) (Sum.elim (fun y : (Nat × Nat) => ∀ q : PL, Exq (xP X) [146, 154] q0 q → Rmq (xP X) q y → ∀ ls : Array Slot, lv_has ls 5 [] → WW X q o.2 68 ls []) (fun y : (Nat × Nat) => ∀ q : PL, Exq (xP X) [146, 154] q0 q → Rmq (xP X) q y → ∀ ls : Array Slot, lv_has ls 5 [] → WW X q o.2 102 ls [])) o.1)) (hx0 : Exq (xP X) [146, 154] q0 q) (l1 : Int32) (ln : Nat × Nat) (hm : Rmq (xP X) q ln) (s : S1) (ls : Array Slot) (hl : lv_has ls 5 [(0, .ref (q.1 128 0)), (1, .int l1)]) (h : M_Ma_internConstants_j96 l1 ln s = some o) : WW X q s 96 ls [] := by
  unfold M_Ma_internConstants_j96 at h
  refine ww_iinc (pc := 96) g.1 (v := l1 + 1) (lv' := [(1, .int (l1 + 1)), (0, .ref (q.1 128 0))]) d_Ma_internConstants_96 hl (k := 1) rfl (by rfl) (by decide) rfl fun ls hl => ?_
  refine ww_goto (pc := 99) (tgt := 2) g.1 d_Ma_internConstants_99 (by decide) ?_
  rw [oR_eq h] at hR
  exact hR q hx0 hm ls (lv_sub hl [1, 0] rfl)

theorem lp_Ma_internConstants_L2 {X : Cx} {q0 : PL} (g : Gd X y_Ma_internConstants b_Ma_internConstants 5 (some .boolean) 5 124 R_Ma) (x : Int32 × (Nat × Nat)) (s : S1) (o : ((Int32 × (Nat × Nat)) ⊕ (((Nat × Nat)) ⊕ ((Nat × Nat)))) × S1) (h : M_Ma_internConstants_L2 x s = some o) (hR : (Sum.elim (fun y : Int32 × (Nat × Nat) => ∀ q : PL, Exq (xP X) [146, 154] q0 q → Rmq (xP X) q y.2 → ∀ ls : Array Slot, lv_has ls 5 [(0, .ref (q.1 128 0)), (1, .int y.1)] → WW X q o.2 2 ls []) (Sum.elim (fun y : (Nat × Nat) => ∀ q : PL, Exq (xP X) [146, 154] q0 q → Rmq (xP X) q y → ∀ ls : Array Slot, lv_has ls 5 [] → WW X q o.2 68 ls []) (fun y : (Nat × Nat) => ∀ q : PL, Exq (xP X) [146, 154] q0 q → Rmq (xP X) q y → ∀ ls : Array Slot, lv_has ls 5 [] → WW X q o.2 102 ls [])) o.1)) : ∀ q : PL, Exq (xP X) [146, 154] q0 q → Rmq (xP X) q x.2 → ∀ ls : Array Slot, lv_has ls 5 [(0, .ref (q.1 128 0)), (1, .int x.1)] → WW X q s 2 ls [] := by
  intro q hx0 hm ls hl
  unfold M_Ma_internConstants_L2 at h
  refine ww_iload_n (pc := 2) g.1 d_Ma_internConstants_2 rfl (lv_at hl 1 rfl) ?_
  refine ww_aload_n (pc := 3) g.1 d_Ma_internConstants_3 rfl (lv_at hl 0 rfl) ?_
  refine ww_gR (pc := 4) g (k := 0) cl_Ma (pz rfl (by decide)) (by decide) (Or.inl kw_1257) (f := 16384) (t := 101) rfl rfl rfl d_Ma_internConstants_4 ?_
  refine ww_gI (pc := 7) g (k := 10) cl_Ch (pz rfl (by decide)) (by decide) (Or.inl kw_1517) (f := 12938) rfl rfl d_Ma_internConstants_7 h fun v7 h => ?_
  refine ww_icmp_ge (pc := 10) (tgt := 102) g.1 d_Ma_internConstants_10 (by decide) h (fun c h => ?_) (fun c h => ?_)
  · rw [oR_eq h] at hR
    exact hR q hx0 hm ls (lv_sub hl [] rfl)
  · refine ww_aload_n (pc := 13) g.1 d_Ma_internConstants_13 rfl (lv_at hl 0 rfl) ?_
    refine ww_gR (pc := 14) g (k := 0) cl_Ma (pz rfl (by decide)) (by decide) (Or.inl kw_1257) (f := 16384) (t := 101) rfl rfl rfl d_Ma_internConstants_14 ?_
    refine ww_gR (pc := 17) g (k := 3) cl_Ch (pz rfl (by decide)) (by decide) (Or.inl kw_1518) (f := 12931) (t := 105) rfl rfl rfl d_Ma_internConstants_17 ?_
    refine ww_iload_n (pc := 20) g.1 d_Ma_internConstants_20 rfl (lv_at hl 1 rfl) ?_
    refine ww_ab (pc := 21) g (pz rfl (by decide)) rfl rfl d_Ma_internConstants_21 h fun v21 h => ?_
    refine ww_iconst (pc := 22) g.1 (v := 4) d_Ma_internConstants_22 (by decide) ?_
    refine ww_icmp_ne (pc := 23) (tgt := 96) g.1 d_Ma_internConstants_23 (by decide) h (fun c h => ?_) (fun c h => ?_)
    · exact j_Ma_internConstants_j96 g hR hx0 x.1 x.2 hm s ls (lv_sub hl [0, 1] rfl) h
    · refine ww_aload_n (pc := 26) g.1 d_Ma_internConstants_26 rfl (lv_at hl 0 rfl) ?_
      refine ww_gR (pc := 27) g (k := 0) cl_Ma (pz rfl (by decide)) (by decide) (Or.inl kw_1257) (f := 16384) (t := 101) rfl rfl rfl d_Ma_internConstants_27 ?_
      refine ww_gR (pc := 30) g (k := 4) cl_Ch (pz rfl (by decide)) (by decide) (Or.inl kw_1519) (f := 12932) (t := 106) rfl rfl rfl d_Ma_internConstants_30 ?_
      refine ww_iload_n (pc := 33) g.1 d_Ma_internConstants_33 rfl (lv_at hl 1 rfl) ?_
      refine ww_al (pc := 34) g (pz rfl (by decide)) rfl rfl d_Ma_internConstants_34 h fun v34 h => ?_
      refine ww_lstore_n (pc := 35) (i := 2) g.1 (lv' := [(2, .long v34), (0, .ref (q.1 128 0)), (1, .int x.1)]) d_Ma_internConstants_35 rfl hl (by decide) rfl fun ls hl => ?_
      refine ww_aload_n (pc := 36) g.1 d_Ma_internConstants_36 rfl (lv_at hl 1 rfl) ?_
      refine ww_gR (pc := 37) g (k := 1) cl_Ma (pz rfl (by decide)) (by decide) (Or.inl kw_938) (f := 16385) (t := 111) rfl rfl rfl d_Ma_internConstants_37 ?_
      refine ww_aload_n (pc := 40) g.1 d_Ma_internConstants_40 rfl (lv_at hl 1 rfl) ?_
      refine ww_gR (pc := 41) g (k := 0) cl_Ma (pz rfl (by decide)) (by decide) (Or.inl kw_1257) (f := 16384) (t := 101) rfl rfl rfl d_Ma_internConstants_41 ?_
      refine ww_gR (pc := 44) g (k := 6) cl_Ch (pz rfl (by decide)) (by decide) (Or.inl kw_1520) (f := 12934) (t := 108) rfl rfl rfl d_Ma_internConstants_44 ?_
      refine ww_lload_n (pc := 47) g.1 d_Ma_internConstants_47 rfl (lv_at hl 0 rfl) ?_
      refine ww_bipush (pc := 48) g.1 (v := 16) d_Ma_internConstants_48 (by decide) ?_
      refine ww_lushr (pc := 50) g.1 (v := lushr v34 (16 : Int32)) d_Ma_internConstants_50 rfl ?_
      refine ww_l2i (pc := 51) g.1 (v := (lushr v34 (16 : Int32)).toInt32) d_Ma_internConstants_51 rfl ?_
      refine ww_lload_n (pc := 52) g.1 d_Ma_internConstants_52 rfl (lv_at hl 0 rfl) ?_
      refine ww_ldc2 (pc := 53) g (v := 65535) kw_1516 d_Ma_internConstants_53 ?_
      refine ww_land (pc := 56) g.1 d_Ma_internConstants_56 ?_
      refine ww_l2i (pc := 57) g.1 (v := (v34 &&& 65535).toInt32) d_Ma_internConstants_57 rfl ?_
      refine ww_lo fun dlo => ?_
      obtain ⟨v58, s, hc58, h⟩ := oB_of h
      refine ww_callVX (pc := 58) (rest := []) g cv_He_intern (Or.inl kw_1521) cl_He (pz rfl (by decide)) (ct_He_intern rfl (by decide) (pz rfl (by decide)) hm hc58) ⟨by decide, by decide⟩ rfl hl.1 (Nat.le_of_ble_eq_true rfl) d_Ma_internConstants_58 rfl (fun q58 hE hm => ?_)
      have ex58_0 : q58.1 128 0 = q.1 128 0 := hE _ _ (by decide) (dlo _ _ (pz rfl (by decide)))
      have hl : lv_has ls 5 [(2, .long v34), (0, .ref (q58.1 128 0)), (1, .int x.1)] := by rw [ex58_0]; exact hl
      refine ww_st (st' := [.int v58.1]) (by rfl) ?_
      have hx0 : Exq (xP X) [146, 154] _ q58 := hx0.tr (hE.sub (by decide))
      refine ww_istore (pc := 61) (i := 4) g.1 (lv' := [(4, .int v58.1), (2, .long v34), (0, .ref (q58.1 128 0)), (1, .int x.1)]) d_Ma_internConstants_61 hl (by decide) rfl fun ls hl => ?_
      refine ww_iload (pc := 63) g.1 d_Ma_internConstants_63 (lv_at hl 0 rfl) ?_
      refine ww_if_ge (pc := 65) (tgt := 70) g.1 d_Ma_internConstants_65 (by decide) h (fun c h => ?_) (fun c h => ?_)
      · refine ww_aload_n (pc := 70) g.1 d_Ma_internConstants_70 rfl (lv_at hl 2 rfl) ?_
        refine ww_gR (pc := 71) g (k := 1) cl_Ma (pz rfl (by decide)) (by decide) (Or.inl kw_938) (f := 16385) (t := 111) rfl rfl rfl d_Ma_internConstants_71 ?_
        refine ww_gR (pc := 74) g (k := 0) cl_He (pz rfl (by decide)) (by decide) (Or.inl kw_940) (f := 14208) (t := 112) rfl rfl rfl d_Ma_internConstants_74 ?_
        refine ww_iload (pc := 77) g.1 d_Ma_internConstants_77 (lv_at hl 0 rfl) ?_
        refine ww_a8 (pc := 79) g (t := 145) (n := 4000) (pz rfl (by decide)) rfl rfl rfl rfl d_Ma_internConstants_79 h fun pa79 h => ?_
        refine ww_iconst (pc := 80) g.1 (v := 1) d_Ma_internConstants_80 (by decide) ?_
        refine ww_pI (pc := 81) g (k := 3) cl_Tg pa79 (by decide) (Or.inl kw_1522) rfl (f := 18563) rfl rfl rfl rfl d_Ma_internConstants_81 h fun s hs h => ?_
        refine ww_aload_n (pc := 84) g.1 d_Ma_internConstants_84 rfl (lv_at hl 2 rfl) ?_
        refine ww_gR (pc := 85) g (k := 0) cl_Ma (pz rfl (by decide)) (by decide) (Or.inl kw_1257) (f := 16384) (t := 101) rfl rfl rfl d_Ma_internConstants_85 ?_
        refine ww_gR (pc := 88) g (k := 4) cl_Ch (pz rfl (by decide)) (by decide) (Or.inl kw_1519) (f := 12932) (t := 106) rfl rfl rfl d_Ma_internConstants_88 ?_
        refine ww_iload_n (pc := 91) g.1 d_Ma_internConstants_91 rfl (lv_at hl 3 rfl) ?_
        refine ww_iload (pc := 92) g.1 d_Ma_internConstants_92 (lv_at hl 0 rfl) ?_
        refine ww_i2l (pc := 94) g.1 (v := v58.1.toInt64) d_Ma_internConstants_94 rfl ?_
        refine ww_sl (pc := 95) g (pz rfl (by decide)) rfl rfl d_Ma_internConstants_95 h fun s hs h => ?_
        exact j_Ma_internConstants_j96 g hR hx0 x.1 v58.2 hm s ls (lv_sub hl [2, 3] rfl) h
      · rw [oR_eq h] at hR
        exact hR q58 hx0 hm ls (lv_sub hl [] rfl)

theorem ct_Ma_internConstants {l : Launch} {P : PP} {q : PL} {s s' : S1} {n0 n1 : Nat × Nat}  {r : Int32} (hm : Rmq P q n0) (h : M_Ma_internConstants n0 s = some ((r, n1), s')) : CtX l y_Ma_internConstants b_Ma_internConstants 5 (some .boolean) 5 124 P [146, 154] q s [.ref (q.1 128 0)] (fun _ => some (.int r)) n1 s' := by
  refine ctX_of (by decide) (Nat.le_of_ble_eq_true rfl) fun X ls eP el g hR hl => ?_
  subst eP
  obtain ⟨q0, hq0⟩ : ∃ q0 : PL, q0 = q := ⟨q, rfl⟩
  have hx0 : Exq (xP X) [146, 154] q0 q := hq0 ▸ Exq.rf
  rw [← hq0] at hR
  have hR : RtX X [146, 154] q0 (((r, n1), s') : (Int32 × (Nat × Nat)) × S1).1.2 (((r, n1), s') : (Int32 × (Nat × Nat)) × S1).2 (fun _ => some (.int (((r, n1), s') : (Int32 × (Nat × Nat)) × S1).1.1)) := hR
  have hl : lv_has ls 5 [(0, .ref (q.1 128 0))] := hl
  generalize ((r, n1), s') = o at h hR
  unfold M_Ma_internConstants at h
  refine ww_iconst (pc := 0) g.1 (v := 0) d_Ma_internConstants_0 (by decide) ?_
  refine ww_istore_n (pc := 1) (i := 1) g.1 (lv' := [(1, .int 0), (0, .ref (q.1 128 0))]) d_Ma_internConstants_1 rfl hl (by decide) rfl fun ls hl => ?_
  obtain ⟨e2, s1, hw, h⟩ := oB_of h
  refine oW_rule (Wh := fun (x : Int32 × (Nat × Nat)) (s : S1) => ∀ q : PL, Exq (xP X) [146, 154] q0 q → Rmq (xP X) q x.2 → ∀ ls : Array Slot, lv_has ls 5 [(0, .ref (q.1 128 0)), (1, .int x.1)] → WW X q s 2 ls []) (We := fun (e : ((Nat × Nat)) ⊕ ((Nat × Nat))) (s : S1) => (Sum.elim (fun y : (Nat × Nat) => ∀ q : PL, Exq (xP X) [146, 154] q0 q → Rmq (xP X) q y → ∀ ls : Array Slot, lv_has ls 5 [] → WW X q s 68 ls []) (fun y : (Nat × Nat) => ∀ q : PL, Exq (xP X) [146, 154] q0 q → Rmq (xP X) q y → ∀ ls : Array Slot, lv_has ls 5 [] → WW X q s 102 ls [])) e) (fun x s o hb hc => lp_Ma_internConstants_L2 (q0 := q0) g x s o hb hc) hw ?_ q hx0 hm ls (lv_sub hl [1, 0] rfl)
  clear hw hl hx0 hm
  clear ls
  generalize s1 = s at h ⊢
  rcases e2 with y2_68 | y2_102
  · intro qL2 hx0 hm ls hl
    dsimp only [Sum.elim_inl, Sum.elim_inr] at h
    refine ww_iconst (pc := 68) g.1 (v := 0) d_Ma_internConstants_68 (by decide) ?_
    exact ww_zretX (pc := 69) g h hR hx0 hm (Or.inl rfl) d_Ma_internConstants_69
  · intro qL2 hx0 hm ls hl
    dsimp only [Sum.elim_inl, Sum.elim_inr] at h
    refine ww_iconst (pc := 102) g.1 (v := 1) d_Ma_internConstants_102 (by decide) ?_
    exact ww_zretX (pc := 103) g h hR hx0 hm (Or.inr rfl) d_Ma_internConstants_103

abbrev b_Bu_makeText : ByteArray := prog_2_method_16_code
def y_Bu_makeText : MethodName := ⟨R_Bu, "makeText", "()V"⟩
abbrev w_Bu_makeText : List Cond := .code y_Bu_makeText b_Bu_makeText 5 none :: wA
theorem k_Bu_makeText : Cond.code y_Bu_makeText b_Bu_makeText 5 none ∈ wA := kinm (show _ ∈ tables_1 from (List.mem_append_right _ (List.mem_append_right _ (List.mem_append_right _ (List.mem_append_right _ (List.mem_append_right _ (List.mem_append_right _ (List.mem_append_right _ (List.mem_append_left _ (List.mem_of_getElem? (l := tables_1_8) (i := 44) (by decide +kernel))))))))))) (by decide +kernel)
theorem d_Bu_makeText_0 : decode b_Bu_makeText 0 = .ok (.aload_n 0, 1) := by decide +kernel
theorem d_Bu_makeText_1 : decode b_Bu_makeText 1 = .ok (.getfield 35, 3) := by decide +kernel
theorem d_Bu_makeText_4 : decode b_Bu_makeText 4 = .ok (.iconst 0, 1) := by decide +kernel
theorem d_Bu_makeText_5 : decode b_Bu_makeText 5 = .ok (.invokevirtual 67, 3) := by decide +kernel
theorem d_Bu_makeText_8 : decode b_Bu_makeText 8 = .ok (.istore_n 1, 1) := by decide +kernel
theorem d_Bu_makeText_9 : decode b_Bu_makeText 9 = .ok (.aload_n 0, 1) := by decide +kernel
theorem d_Bu_makeText_10 : decode b_Bu_makeText 10 = .ok (.getfield 35, 3) := by decide +kernel
theorem d_Bu_makeText_13 : decode b_Bu_makeText 13 = .ok (.iconst 0, 1) := by decide +kernel
theorem d_Bu_makeText_14 : decode b_Bu_makeText 14 = .ok (.invokevirtual 78, 3) := by decide +kernel
theorem d_Bu_makeText_17 : decode b_Bu_makeText 17 = .ok (.lstore_n 2, 1) := by decide +kernel
theorem d_Bu_makeText_18 : decode b_Bu_makeText 18 = .ok (.aload_n 0, 1) := by decide +kernel
theorem d_Bu_makeText_19 : decode b_Bu_makeText 19 = .ok (.getfield 30, 3) := by decide +kernel
theorem d_Bu_makeText_22 : decode b_Bu_makeText 22 = .ok (.iload_n 1, 1) := by decide +kernel
theorem d_Bu_makeText_23 : decode b_Bu_makeText 23 = .ok (.lload_n 2, 1) := by decide +kernel
theorem d_Bu_makeText_24 : decode b_Bu_makeText 24 = .ok (.bipush 20, 2) := by decide +kernel
theorem d_Bu_makeText_26 : decode b_Bu_makeText 26 = .ok (.invokevirtual 231, 3) := by decide +kernel
theorem d_Bu_makeText_29 : decode b_Bu_makeText 29 = .ok (.istore 4, 2) := by decide +kernel
theorem d_Bu_makeText_31 : decode b_Bu_makeText 31 = .ok (.iload 4, 2) := by decide +kernel
theorem d_Bu_makeText_33 : decode b_Bu_makeText 33 = .ok (.ifCond .lt 54, 3) := by decide +kernel
theorem d_Bu_makeText_36 : decode b_Bu_makeText 36 = .ok (.aload_n 0, 1) := by decide +kernel
theorem d_Bu_makeText_37 : decode b_Bu_makeText 37 = .ok (.getfield 15, 3) := by decide +kernel
theorem d_Bu_makeText_40 : decode b_Bu_makeText 40 = .ok (.getfield 235, 3) := by decide +kernel
theorem d_Bu_makeText_43 : decode b_Bu_makeText 43 = .ok (.iconst 4, 1) := by decide +kernel
theorem d_Bu_makeText_44 : decode b_Bu_makeText 44 = .ok (.iconst (-1), 1) := by decide +kernel
theorem d_Bu_makeText_45 : decode b_Bu_makeText 45 = .ok (.iconst 0, 1) := by decide +kernel
theorem d_Bu_makeText_46 : decode b_Bu_makeText 46 = .ok (.invokevirtual 239, 3) := by decide +kernel
theorem d_Bu_makeText_49 : decode b_Bu_makeText 49 = .ok (.ifCond .eq 27, 3) := by decide +kernel
theorem d_Bu_makeText_52 : decode b_Bu_makeText 52 = .ok (.aload_n 0, 1) := by decide +kernel
theorem d_Bu_makeText_53 : decode b_Bu_makeText 53 = .ok (.getfield 15, 3) := by decide +kernel
theorem d_Bu_makeText_56 : decode b_Bu_makeText 56 = .ok (.iload 4, 2) := by decide +kernel
theorem d_Bu_makeText_58 : decode b_Bu_makeText 58 = .ok (.iload_n 1, 1) := by decide +kernel
theorem d_Bu_makeText_59 : decode b_Bu_makeText 59 = .ok (.lload_n 2, 1) := by decide +kernel
theorem d_Bu_makeText_60 : decode b_Bu_makeText 60 = .ok (.iconst 0, 1) := by decide +kernel
theorem d_Bu_makeText_61 : decode b_Bu_makeText 61 = .ok (.lconst 0, 1) := by decide +kernel
theorem d_Bu_makeText_62 : decode b_Bu_makeText 62 = .ok (.invokevirtual 245, 3) := by decide +kernel
theorem d_Bu_makeText_65 : decode b_Bu_makeText 65 = .ok (.aload_n 0, 1) := by decide +kernel
theorem d_Bu_makeText_66 : decode b_Bu_makeText 66 = .ok (.getfield 35, 3) := by decide +kernel
theorem d_Bu_makeText_69 : decode b_Bu_makeText 69 = .ok (.iconst 1, 1) := by decide +kernel
theorem d_Bu_makeText_70 : decode b_Bu_makeText 70 = .ok (.putfield 167, 3) := by decide +kernel
theorem d_Bu_makeText_73 : decode b_Bu_makeText 73 = .ok (.goto 64, 3) := by decide +kernel
theorem d_Bu_makeText_76 : decode b_Bu_makeText 76 = .ok (.aload_n 0, 1) := by decide +kernel
theorem d_Bu_makeText_77 : decode b_Bu_makeText 77 = .ok (.getfield 15, 3) := by decide +kernel
theorem d_Bu_makeText_80 : decode b_Bu_makeText 80 = .ok (.iconst 4, 1) := by decide +kernel
theorem d_Bu_makeText_81 : decode b_Bu_makeText 81 = .ok (.invokevirtual 145, 3) := by decide +kernel
theorem d_Bu_makeText_84 : decode b_Bu_makeText 84 = .ok (.goto 53, 3) := by decide +kernel
theorem d_Bu_makeText_87 : decode b_Bu_makeText 87 = .ok (.iload_n 1, 1) := by decide +kernel
theorem d_Bu_makeText_88 : decode b_Bu_makeText 88 = .ok (.iconst 4, 1) := by decide +kernel
theorem d_Bu_makeText_89 : decode b_Bu_makeText 89 = .ok (.if_icmp .ne 15, 3) := by decide +kernel
theorem d_Bu_makeText_92 : decode b_Bu_makeText 92 = .ok (.aload_n 0, 1) := by decide +kernel
theorem d_Bu_makeText_93 : decode b_Bu_makeText 93 = .ok (.getfield 39, 3) := by decide +kernel
theorem d_Bu_makeText_96 : decode b_Bu_makeText 96 = .ok (.iconst 4, 1) := by decide +kernel
theorem d_Bu_makeText_97 : decode b_Bu_makeText 97 = .ok (.lload_n 2, 1) := by decide +kernel
theorem d_Bu_makeText_98 : decode b_Bu_makeText 98 = .ok (.invokevirtual 74, 3) := by decide +kernel
theorem d_Bu_makeText_101 : decode b_Bu_makeText 101 = .ok (.goto 36, 3) := by decide +kernel
theorem d_Bu_makeText_104 : decode b_Bu_makeText 104 = .ok (.aload_n 0, 1) := by decide +kernel
theorem d_Bu_makeText_105 : decode b_Bu_makeText 105 = .ok (.iload_n 1, 1) := by decide +kernel
theorem d_Bu_makeText_106 : decode b_Bu_makeText 106 = .ok (.lload_n 2, 1) := by decide +kernel
theorem d_Bu_makeText_107 : decode b_Bu_makeText 107 = .ok (.invokevirtual 181, 3) := by decide +kernel
theorem d_Bu_makeText_110 : decode b_Bu_makeText 110 = .ok (.aload_n 0, 1) := by decide +kernel
theorem d_Bu_makeText_111 : decode b_Bu_makeText 111 = .ok (.iconst 4, 1) := by decide +kernel
theorem d_Bu_makeText_112 : decode b_Bu_makeText 112 = .ok (.aload_n 0, 1) := by decide +kernel
theorem d_Bu_makeText_113 : decode b_Bu_makeText 113 = .ok (.getfield 25, 3) := by decide +kernel
theorem d_Bu_makeText_116 : decode b_Bu_makeText 116 = .ok (.aload_n 0, 1) := by decide +kernel
theorem d_Bu_makeText_117 : decode b_Bu_makeText 117 = .ok (.getfield 25, 3) := by decide +kernel
theorem d_Bu_makeText_120 : decode b_Bu_makeText 120 = .ok (.getfield 184, 3) := by decide +kernel
theorem d_Bu_makeText_123 : decode b_Bu_makeText 123 = .ok (.iconst 0, 1) := by decide +kernel
theorem d_Bu_makeText_124 : decode b_Bu_makeText 124 = .ok (.aload_n 0, 1) := by decide +kernel
theorem d_Bu_makeText_125 : decode b_Bu_makeText 125 = .ok (.getfield 25, 3) := by decide +kernel
theorem d_Bu_makeText_128 : decode b_Bu_makeText 128 = .ok (.getfield 187, 3) := by decide +kernel
theorem d_Bu_makeText_131 : decode b_Bu_makeText 131 = .ok (.invokevirtual 249, 3) := by decide +kernel
theorem d_Bu_makeText_134 : decode b_Bu_makeText 134 = .ok (.invokevirtual 253, 3) := by decide +kernel
theorem d_Bu_makeText_137 : decode b_Bu_makeText 137 = .ok (.return_, 1) := by decide +kernel
theorem kw_1525 : Cond.methodLink R_Bu 249 y_He_intern ∈ wA := kinm (show _ ∈ tables_1 from (List.mem_append_right _ (List.mem_append_right _ (List.mem_append_right _ (List.mem_append_right _ (List.mem_append_right _ (List.mem_append_right _ (List.mem_append_right _ (List.mem_append_left _ (List.mem_of_getElem? (l := tables_1_8) (i := 58) (by decide +kernel))))))))))) (by decide +kernel)
theorem kw_1526 : Cond.methodLink R_Bu 245 y_Ma_callEntry ∈ wA := kinm (show _ ∈ tables_1 from (List.mem_append_right _ (List.mem_append_right _ (List.mem_append_right _ (List.mem_append_right _ (List.mem_append_right _ (List.mem_append_right _ (List.mem_append_right _ (List.mem_append_left _ (List.mem_of_getElem? (l := tables_1_8) (i := 55) (by decide +kernel))))))))))) (by decide +kernel)
theorem kw_1527 : Cond.instanceMethod y_Bu_makeText ∈ wA := kinm (show _ ∈ tables_1 from (List.mem_append_right _ (List.mem_append_right _ (List.mem_append_right _ (List.mem_append_right _ (List.mem_append_right _ (List.mem_append_right _ (List.mem_append_right _ (List.mem_append_left _ (List.mem_of_getElem? (l := tables_1_8) (i := 43) (by decide +kernel))))))))))) (by decide +kernel)
theorem kw_1528 : Cond.selects R_Bu y_Bu_makeText y_Bu_makeText ∈ wA := kinp 69 (by decide +kernel) (by decide +kernel)
theorem cv_Bu_makeText : CV y_Bu_makeText b_Bu_makeText 5 none 0 := ⟨kw_1527, kw_1528, kw_950, k_Bu_makeText, by decide +kernel⟩
theorem ct_Bu_makeText {l : Launch} {P : PP} {q : PL} {s s' : S1} {n0 n1 : Nat × Nat}  {r : Unit} (hm : Rmq P q n0) (h : M_Bu_makeText n0 s = some ((r, n1), s')) : CtX l y_Bu_makeText b_Bu_makeText 5 none 7 195 P [118, 146, 154] q s [.ref (q.1 130 0)] (fun _ => none) n1 s' := by
  refine ctX_of (by decide) (Nat.le_of_ble_eq_true rfl) fun X ls eP el g hR hl => ?_
  subst eP
  obtain ⟨q0, hq0⟩ : ∃ q0 : PL, q0 = q := ⟨q, rfl⟩
  have hx0 : Exq (xP X) [118, 146, 154] q0 q := hq0 ▸ Exq.rf
  rw [← hq0] at hR
  have hR : RtX X [118, 146, 154] q0 (((r, n1), s') : (Unit × (Nat × Nat)) × S1).1.2 (((r, n1), s') : (Unit × (Nat × Nat)) × S1).2 (fun _ => none) := hR
  have hl : lv_has ls 5 [(0, .ref (q.1 130 0))] := hl
  generalize ((r, n1), s') = o at h hR
  unfold M_Bu_makeText at h
  refine ww_aload_n (pc := 0) g.1 d_Bu_makeText_0 rfl (lv_at hl 0 rfl) ?_
  refine ww_gR (pc := 1) g (k := 5) cl_Bu (pz rfl (by decide)) (by decide) (Or.inl kw_976) (f := 16645) (t := 132) rfl rfl rfl d_Bu_makeText_1 ?_
  refine ww_iconst (pc := 4) g.1 (v := 0) d_Bu_makeText_4 (by decide) ?_
  obtain ⟨v5, s, hc5, h⟩ := oB_of h
  refine ww_callV (pc := 5) (rest := []) g cv_Ro_kindAt (Or.inl kw_983) (cl_Ro ⟨by decide, rfl⟩) (pz rfl (by decide)) (ct_Ro_kindAt ⟨by decide, rfl⟩ hc5) ⟨by decide, by decide⟩ rfl hl.1 (Nat.le_of_ble_eq_true rfl) d_Bu_makeText_5 rfl (?_)
  refine ww_st (st' := [.int v5]) rfl ?_
  refine ww_istore_n (pc := 8) (i := 1) g.1 (lv' := [(1, .int v5), (0, .ref (q.1 130 0))]) d_Bu_makeText_8 rfl hl (by decide) rfl fun ls hl => ?_
  refine ww_aload_n (pc := 9) g.1 d_Bu_makeText_9 rfl (lv_at hl 1 rfl) ?_
  refine ww_gR (pc := 10) g (k := 5) cl_Bu (pz rfl (by decide)) (by decide) (Or.inl kw_976) (f := 16645) (t := 132) rfl rfl rfl d_Bu_makeText_10 ?_
  refine ww_iconst (pc := 13) g.1 (v := 0) d_Bu_makeText_13 (by decide) ?_
  obtain ⟨v14, s, hc14, h⟩ := oB_of h
  refine ww_callV (pc := 14) (rest := []) g cv_Ro_valueAt (Or.inl kw_977) (cl_Ro ⟨by decide, rfl⟩) (pz rfl (by decide)) (ct_Ro_valueAt ⟨by decide, rfl⟩ hc14) ⟨by decide, by decide⟩ rfl hl.1 (Nat.le_of_ble_eq_true rfl) d_Bu_makeText_14 rfl (?_)
  refine ww_st (st' := [.long v14]) rfl ?_
  refine ww_lstore_n (pc := 17) (i := 2) g.1 (lv' := [(2, .long v14), (1, .int v5), (0, .ref (q.1 130 0))]) d_Bu_makeText_17 rfl hl (by decide) rfl fun ls hl => ?_
  refine ww_aload_n (pc := 18) g.1 d_Bu_makeText_18 rfl (lv_at hl 2 rfl) ?_
  refine ww_gR (pc := 19) g (k := 4) cl_Bu (pz rfl (by decide)) (by decide) (Or.inl kw_968) (f := 16644) (t := 120) rfl rfl rfl d_Bu_makeText_19 ?_
  refine ww_iload_n (pc := 22) g.1 d_Bu_makeText_22 rfl (lv_at hl 1 rfl) ?_
  refine ww_lload_n (pc := 23) g.1 d_Bu_makeText_23 rfl (lv_at hl 0 rfl) ?_
  refine ww_bipush (pc := 24) g.1 (v := 20) d_Bu_makeText_24 (by decide) ?_
  obtain ⟨v26, s, hc26, h⟩ := oB_of h
  refine ww_callV (pc := 26) (rest := []) g cv_Ta_findEvent (Or.inl kw_1156) cl_Ta (pz rfl (by decide)) (ct_Ta_findEvent hc26) ⟨by decide, by decide⟩ rfl hl.1 (Nat.le_of_ble_eq_true rfl) d_Bu_makeText_26 rfl (?_)
  refine ww_st (st' := [.int v26]) rfl ?_
  refine ww_istore (pc := 29) (i := 4) g.1 (lv' := [(4, .int v26), (2, .long v14), (1, .int v5), (0, .ref (q.1 130 0))]) d_Bu_makeText_29 hl (by decide) rfl fun ls hl => ?_
  refine ww_iload (pc := 31) g.1 d_Bu_makeText_31 (lv_at hl 0 rfl) ?_
  refine ww_if_lt (pc := 33) (tgt := 87) g.1 d_Bu_makeText_33 (by decide) h (fun c h => ?_) (fun c h => ?_)
  · refine ww_iload_n (pc := 87) g.1 d_Bu_makeText_87 rfl (lv_at hl 2 rfl) ?_
    refine ww_iconst (pc := 88) g.1 (v := 4) d_Bu_makeText_88 (by decide) ?_
    refine ww_icmp_ne (pc := 89) (tgt := 104) g.1 d_Bu_makeText_89 (by decide) h (fun c h => ?_) (fun c h => ?_)
    · refine ww_aload_n (pc := 104) g.1 d_Bu_makeText_104 rfl (lv_at hl 3 rfl) ?_
      refine ww_iload_n (pc := 105) g.1 d_Bu_makeText_105 rfl (lv_at hl 2 rfl) ?_
      refine ww_lload_n (pc := 106) g.1 d_Bu_makeText_106 rfl (lv_at hl 1 rfl) ?_
      refine ww_lo fun dlo => ?_
      obtain ⟨v107, s, hc107, h⟩ := oB_of h
      refine ww_callVX (pc := 107) (rest := []) g cv_Bu_describe (Or.inl kw_1505) cl_Bu (pz rfl (by decide)) (ct_Bu_describe hm hc107) ⟨by decide, by decide⟩ rfl hl.1 (Nat.le_of_ble_eq_true rfl) d_Bu_makeText_107 rfl (fun q107 hE hm => ?_)
      have ex107_0 : q107.1 130 0 = q.1 130 0 := hE _ _ (by decide) (dlo _ _ (pz rfl (by decide)))
      have hl : lv_has ls 5 [(4, .int v26), (2, .long v14), (1, .int v5), (0, .ref (q107.1 130 0))] := by rw [ex107_0]; exact hl
      refine ww_st (st' := []) (by rfl) ?_
      have hx0 : Exq (xP X) [118, 146, 154] _ q107 := hx0.tr (hE.sub (by decide))
      refine ww_aload_n (pc := 110) g.1 d_Bu_makeText_110 rfl (lv_at hl 3 rfl) ?_
      refine ww_iconst (pc := 111) g.1 (v := 4) d_Bu_makeText_111 (by decide) ?_
      refine ww_aload_n (pc := 112) g.1 d_Bu_makeText_112 rfl (lv_at hl 3 rfl) ?_
      refine ww_gR (pc := 113) g (k := 3) cl_Bu (pz rfl (by decide)) (by decide) (Or.inl kw_974) (f := 16643) (t := 111) rfl rfl rfl d_Bu_makeText_113 ?_
      refine ww_aload_n (pc := 116) g.1 d_Bu_makeText_116 rfl (lv_at hl 3 rfl) ?_
      refine ww_gR (pc := 117) g (k := 3) cl_Bu (pz rfl (by decide)) (by decide) (Or.inl kw_974) (f := 16643) (t := 111) rfl rfl rfl d_Bu_makeText_117 ?_
      refine ww_gR (pc := 120) g (k := 8) cl_He (pz rfl (by decide)) (by decide) (Or.inl kw_1506) (f := 14216) (t := 118) rfl rfl rfl d_Bu_makeText_120 ?_
      refine ww_iconst (pc := 123) g.1 (v := 0) d_Bu_makeText_123 (by decide) ?_
      refine ww_aload_n (pc := 124) g.1 d_Bu_makeText_124 rfl (lv_at hl 3 rfl) ?_
      refine ww_gR (pc := 125) g (k := 3) cl_Bu (pz rfl (by decide)) (by decide) (Or.inl kw_974) (f := 16643) (t := 111) rfl rfl rfl d_Bu_makeText_125 ?_
      refine ww_gI (pc := 128) g (k := 9) cl_He (pz rfl (by decide)) (by decide) (Or.inl kw_1493) (f := 14217) rfl rfl d_Bu_makeText_128 h fun v128 h => ?_
      refine ww_lo fun dlo => ?_
      obtain ⟨v131, s, hc131, h⟩ := oB_of h
      refine ww_callVX (pc := 131) (rest := [.int 4, .ref (q107.1 130 0)]) g cv_He_intern (Or.inl kw_1525) cl_He (pz rfl (by decide)) (ct_He_intern rfl (by decide) (pz rfl (by decide)) hm hc131) ⟨by decide, by decide⟩ rfl hl.1 (Nat.le_of_ble_eq_true rfl) d_Bu_makeText_131 rfl (fun q131 hE hm => ?_)
      have hl : lv_has ls 5 [(4, .int v26), (2, .long v14), (1, .int v5)] := lv_sub hl [0, 1, 2] rfl
      have ex131_0 : q131.1 130 0 = q107.1 130 0 := hE _ _ (by decide) (dlo _ _ (pz rfl (by decide)))
      refine ww_st (st' := [.int v131.1, .int 4, .ref (q131.1 130 0)]) (by first | (rw [ex131_0]; done) | (rw [ex131_0]; rfl)) ?_
      have hx0 : Exq (xP X) [118, 146, 154] _ q131 := hx0.tr (hE.sub (by decide))
      obtain ⟨v134, s, hc134, h⟩ := oB_of h
      refine ww_callV (pc := 134) (rest := []) g cv_Bu_addMade (Or.inl kw_1399) cl_Bu (pz rfl (by decide)) (ct_Bu_addMade hc134) ⟨by decide, by decide⟩ rfl hl.1 (Nat.le_of_ble_eq_true rfl) d_Bu_makeText_134 rfl (?_)
      refine ww_st (st' := []) rfl ?_
      exact ww_vretX (pc := 137) g h hR hx0 hm d_Bu_makeText_137
    · refine ww_aload_n (pc := 92) g.1 d_Bu_makeText_92 rfl (lv_at hl 3 rfl) ?_
      refine ww_gR (pc := 93) g (k := 6) cl_Bu (pz rfl (by decide)) (by decide) (Or.inl kw_967) (f := 16646) (t := 135) rfl rfl rfl d_Bu_makeText_93 ?_
      refine ww_iconst (pc := 96) g.1 (v := 4) d_Bu_makeText_96 (by decide) ?_
      refine ww_lload_n (pc := 97) g.1 d_Bu_makeText_97 rfl (lv_at hl 1 rfl) ?_
      obtain ⟨v98, s, hc98, h⟩ := oB_of h
      refine ww_callV (pc := 98) (rest := []) g cv_Ro_add (Or.inl kw_971) (cl_Ro ⟨by decide, rfl⟩) (pz rfl (by decide)) (ct_Ro_add ⟨by decide, rfl⟩ hc98) ⟨by decide, by decide⟩ rfl hl.1 (Nat.le_of_ble_eq_true rfl) d_Bu_makeText_98 rfl (?_)
      refine ww_st (st' := []) rfl ?_
      refine ww_goto (pc := 101) (tgt := 137) g.1 d_Bu_makeText_101 (by decide) ?_
      exact ww_vretX (pc := 137) g h hR hx0 hm d_Bu_makeText_137
  · refine ww_aload_n (pc := 36) g.1 d_Bu_makeText_36 rfl (lv_at hl 3 rfl) ?_
    refine ww_gR (pc := 37) g (k := 2) cl_Bu (pz rfl (by decide)) (by decide) (Or.inl kw_995) (f := 16642) (t := 128) rfl rfl rfl d_Bu_makeText_37 ?_
    refine ww_gV (pc := 40) g (k := 11) cl_Ma (pz rfl (by decide)) (by decide) (Or.inl kw_996) (f := 16395) (t := 148) rfl rfl rfl d_Bu_makeText_40 h fun v40 h => ?_
    refine ww_pr h fun pn40 h => ?_
    refine ww_nnP pn40 ?_
    refine ww_iconst (pc := 43) g.1 (v := 4) d_Bu_makeText_43 (by decide) ?_
    refine ww_iconst (pc := 44) g.1 (v := (-1)) d_Bu_makeText_44 (by decide) ?_
    refine ww_iconst (pc := 45) g.1 (v := 0) d_Bu_makeText_45 (by decide) ?_
    obtain ⟨v46, s, hc46, h⟩ := oB_of h
    refine ww_callV (pc := 46) (rest := []) g cv_Co_push (Or.inl kw_1147) cl_Co pn40 (ct_Co_push pn40 hc46) ⟨by decide, by decide⟩ rfl hl.1 (Nat.le_of_ble_eq_true rfl) d_Bu_makeText_46 rfl (?_)
    refine ww_st (st' := [.int v46]) rfl ?_
    refine ww_if_eq (pc := 49) (tgt := 76) g.1 d_Bu_makeText_49 (by decide) h (fun c h => ?_) (fun c h => ?_)
    · refine ww_aload_n (pc := 76) g.1 d_Bu_makeText_76 rfl (lv_at hl 3 rfl) ?_
      refine ww_gR (pc := 77) g (k := 2) cl_Bu (pz rfl (by decide)) (by decide) (Or.inl kw_995) (f := 16642) (t := 128) rfl rfl rfl d_Bu_makeText_77 ?_
      refine ww_iconst (pc := 80) g.1 (v := 4) d_Bu_makeText_80 (by decide) ?_
      obtain ⟨v81, s, hc81, h⟩ := oB_of h
      refine ww_callV (pc := 81) (rest := []) g cv_Ma_fail (Or.inl kw_1144) cl_Ma (pz rfl (by decide)) (ct_Ma_fail hc81) ⟨by decide, by decide⟩ rfl hl.1 (Nat.le_of_ble_eq_true rfl) d_Bu_makeText_81 rfl (?_)
      refine ww_st (st' := []) rfl ?_
      refine ww_goto (pc := 84) (tgt := 137) g.1 d_Bu_makeText_84 (by decide) ?_
      exact ww_vretX (pc := 137) g h hR hx0 hm d_Bu_makeText_137
    · refine ww_aload_n (pc := 52) g.1 d_Bu_makeText_52 rfl (lv_at hl 3 rfl) ?_
      refine ww_gR (pc := 53) g (k := 2) cl_Bu (pz rfl (by decide)) (by decide) (Or.inl kw_995) (f := 16642) (t := 128) rfl rfl rfl d_Bu_makeText_53 ?_
      refine ww_iload (pc := 56) g.1 d_Bu_makeText_56 (lv_at hl 0 rfl) ?_
      refine ww_iload_n (pc := 58) g.1 d_Bu_makeText_58 rfl (lv_at hl 2 rfl) ?_
      refine ww_lload_n (pc := 59) g.1 d_Bu_makeText_59 rfl (lv_at hl 1 rfl) ?_
      refine ww_iconst (pc := 60) g.1 (v := 0) d_Bu_makeText_60 (by decide) ?_
      refine ww_lconst (pc := 61) g.1 (v := 0) d_Bu_makeText_61 (by decide) ?_
      obtain ⟨v62, s, hc62, h⟩ := oB_of h
      refine ww_callV (pc := 62) (rest := []) g cv_Ma_callEntry (Or.inl kw_1526) cl_Ma (pz rfl (by decide)) (ct_Ma_callEntry hc62) ⟨by decide, by decide⟩ rfl hl.1 (Nat.le_of_ble_eq_true rfl) d_Bu_makeText_62 rfl (?_)
      refine ww_st (st' := []) rfl ?_
      refine ww_aload_n (pc := 65) g.1 d_Bu_makeText_65 rfl (lv_at hl 3 rfl) ?_
      refine ww_gR (pc := 66) g (k := 5) cl_Bu (pz rfl (by decide)) (by decide) (Or.inl kw_976) (f := 16645) (t := 132) rfl rfl rfl d_Bu_makeText_66 ?_
      refine ww_iconst (pc := 69) g.1 (v := 1) d_Bu_makeText_69 (by decide) ?_
      refine ww_pI (pc := 70) g (k := 2) (cl_Ro ⟨by decide, rfl⟩) (pz rfl (by decide)) (by decide) (Or.inl kw_1177) rfl (f := 16898) rfl rfl rfl rfl d_Bu_makeText_70 h fun s hs h => ?_
      refine ww_goto (pc := 73) (tgt := 137) g.1 d_Bu_makeText_73 (by decide) ?_
      exact ww_vretX (pc := 137) g h hR hx0 hm d_Bu_makeText_137

abbrev b_Bu_cut : ByteArray := prog_2_method_27_code
def y_Bu_cut : MethodName := ⟨R_Bu, "cut", "()V"⟩
abbrev w_Bu_cut : List Cond := .code y_Bu_cut b_Bu_cut 8 none :: wA
theorem k_Bu_cut : Cond.code y_Bu_cut b_Bu_cut 8 none ∈ wA := kinm (show _ ∈ tables_1 from (List.mem_append_right _ (List.mem_append_right _ (List.mem_append_right _ (List.mem_append_right _ (List.mem_append_right _ (List.mem_append_right _ (List.mem_append_right _ (List.mem_append_left _ (List.mem_of_getElem? (l := tables_1_8) (i := 138) (by decide +kernel))))))))))) (by decide +kernel)
theorem d_Bu_cut_0 : decode b_Bu_cut 0 = .ok (.aload_n 0, 1) := by decide +kernel
theorem d_Bu_cut_1 : decode b_Bu_cut 1 = .ok (.iconst 2, 1) := by decide +kernel
theorem d_Bu_cut_2 : decode b_Bu_cut 2 = .ok (.invokevirtual 314, 3) := by decide +kernel
theorem d_Bu_cut_5 : decode b_Bu_cut 5 = .ok (.ifCond .ne 4, 3) := by decide +kernel
theorem d_Bu_cut_8 : decode b_Bu_cut 8 = .ok (.return_, 1) := by decide +kernel
theorem d_Bu_cut_9 : decode b_Bu_cut 9 = .ok (.aload_n 0, 1) := by decide +kernel
theorem d_Bu_cut_10 : decode b_Bu_cut 10 = .ok (.invokevirtual 281, 3) := by decide +kernel
theorem d_Bu_cut_13 : decode b_Bu_cut 13 = .ok (.astore_n 1, 1) := by decide +kernel
theorem d_Bu_cut_14 : decode b_Bu_cut 14 = .ok (.aload_n 0, 1) := by decide +kernel
theorem d_Bu_cut_15 : decode b_Bu_cut 15 = .ok (.getfield 35, 3) := by decide +kernel
theorem d_Bu_cut_18 : decode b_Bu_cut 18 = .ok (.iconst 1, 1) := by decide +kernel
theorem d_Bu_cut_19 : decode b_Bu_cut 19 = .ok (.invokevirtual 67, 3) := by decide +kernel
theorem d_Bu_cut_22 : decode b_Bu_cut 22 = .ok (.ifCond .ne 7, 3) := by decide +kernel
theorem d_Bu_cut_25 : decode b_Bu_cut 25 = .ok (.lconst 1, 1) := by decide +kernel
theorem d_Bu_cut_26 : decode b_Bu_cut 26 = .ok (.goto 16, 3) := by decide +kernel
theorem d_Bu_cut_29 : decode b_Bu_cut 29 = .ok (.aload_n 0, 1) := by decide +kernel
theorem d_Bu_cut_30 : decode b_Bu_cut 30 = .ok (.getfield 35, 3) := by decide +kernel
theorem d_Bu_cut_33 : decode b_Bu_cut 33 = .ok (.iconst 1, 1) := by decide +kernel
theorem d_Bu_cut_34 : decode b_Bu_cut 34 = .ok (.invokevirtual 78, 3) := by decide +kernel
theorem d_Bu_cut_37 : decode b_Bu_cut 37 = .ok (.aload_n 1, 1) := by decide +kernel
theorem d_Bu_cut_38 : decode b_Bu_cut 38 = .ok (.arraylength, 1) := by decide +kernel
theorem d_Bu_cut_39 : decode b_Bu_cut 39 = .ok (.invokestatic 318, 3) := by decide +kernel
theorem d_Bu_cut_42 : decode b_Bu_cut 42 = .ok (.lstore_n 2, 1) := by decide +kernel
theorem d_Bu_cut_43 : decode b_Bu_cut 43 = .ok (.aload_n 0, 1) := by decide +kernel
theorem d_Bu_cut_44 : decode b_Bu_cut 44 = .ok (.getfield 35, 3) := by decide +kernel
theorem d_Bu_cut_47 : decode b_Bu_cut 47 = .ok (.iconst 2, 1) := by decide +kernel
theorem d_Bu_cut_48 : decode b_Bu_cut 48 = .ok (.invokevirtual 67, 3) := by decide +kernel
theorem d_Bu_cut_51 : decode b_Bu_cut 51 = .ok (.ifCond .ne 9, 3) := by decide +kernel
theorem d_Bu_cut_54 : decode b_Bu_cut 54 = .ok (.aload_n 1, 1) := by decide +kernel
theorem d_Bu_cut_55 : decode b_Bu_cut 55 = .ok (.arraylength, 1) := by decide +kernel
theorem d_Bu_cut_56 : decode b_Bu_cut 56 = .ok (.i2l, 1) := by decide +kernel
theorem d_Bu_cut_57 : decode b_Bu_cut 57 = .ok (.goto 16, 3) := by decide +kernel
theorem d_Bu_cut_60 : decode b_Bu_cut 60 = .ok (.aload_n 0, 1) := by decide +kernel
theorem d_Bu_cut_61 : decode b_Bu_cut 61 = .ok (.getfield 35, 3) := by decide +kernel
theorem d_Bu_cut_64 : decode b_Bu_cut 64 = .ok (.iconst 2, 1) := by decide +kernel
theorem d_Bu_cut_65 : decode b_Bu_cut 65 = .ok (.invokevirtual 78, 3) := by decide +kernel
theorem d_Bu_cut_68 : decode b_Bu_cut 68 = .ok (.aload_n 1, 1) := by decide +kernel
theorem d_Bu_cut_69 : decode b_Bu_cut 69 = .ok (.arraylength, 1) := by decide +kernel
theorem d_Bu_cut_70 : decode b_Bu_cut 70 = .ok (.invokestatic 318, 3) := by decide +kernel
theorem d_Bu_cut_73 : decode b_Bu_cut 73 = .ok (.lstore 4, 2) := by decide +kernel
theorem d_Bu_cut_75 : decode b_Bu_cut 75 = .ok (.lload_n 2, 1) := by decide +kernel
theorem d_Bu_cut_76 : decode b_Bu_cut 76 = .ok (.lconst 1, 1) := by decide +kernel
theorem d_Bu_cut_77 : decode b_Bu_cut 77 = .ok (.invokestatic 322, 3) := by decide +kernel
theorem d_Bu_cut_80 : decode b_Bu_cut 80 = .ok (.aload_n 1, 1) := by decide +kernel
theorem d_Bu_cut_81 : decode b_Bu_cut 81 = .ok (.arraylength, 1) := by decide +kernel
theorem d_Bu_cut_82 : decode b_Bu_cut 82 = .ok (.i2l, 1) := by decide +kernel
theorem d_Bu_cut_83 : decode b_Bu_cut 83 = .ok (.lconst 1, 1) := by decide +kernel
theorem d_Bu_cut_84 : decode b_Bu_cut 84 = .ok (.ladd, 1) := by decide +kernel
theorem d_Bu_cut_85 : decode b_Bu_cut 85 = .ok (.invokestatic 307, 3) := by decide +kernel
theorem d_Bu_cut_88 : decode b_Bu_cut 88 = .ok (.l2i, 1) := by decide +kernel
theorem d_Bu_cut_89 : decode b_Bu_cut 89 = .ok (.istore 6, 2) := by decide +kernel
theorem d_Bu_cut_91 : decode b_Bu_cut 91 = .ok (.lload 4, 2) := by decide +kernel
theorem d_Bu_cut_93 : decode b_Bu_cut 93 = .ok (.aload_n 1, 1) := by decide +kernel
theorem d_Bu_cut_94 : decode b_Bu_cut 94 = .ok (.arraylength, 1) := by decide +kernel
theorem d_Bu_cut_95 : decode b_Bu_cut 95 = .ok (.i2l, 1) := by decide +kernel
theorem d_Bu_cut_96 : decode b_Bu_cut 96 = .ok (.invokestatic 307, 3) := by decide +kernel
theorem d_Bu_cut_99 : decode b_Bu_cut 99 = .ok (.l2i, 1) := by decide +kernel
theorem d_Bu_cut_100 : decode b_Bu_cut 100 = .ok (.istore 7, 2) := by decide +kernel
theorem d_Bu_cut_102 : decode b_Bu_cut 102 = .ok (.aload_n 0, 1) := by decide +kernel
theorem d_Bu_cut_103 : decode b_Bu_cut 103 = .ok (.iconst 4, 1) := by decide +kernel
theorem d_Bu_cut_104 : decode b_Bu_cut 104 = .ok (.aload_n 0, 1) := by decide +kernel
theorem d_Bu_cut_105 : decode b_Bu_cut 105 = .ok (.getfield 25, 3) := by decide +kernel
theorem d_Bu_cut_108 : decode b_Bu_cut 108 = .ok (.aload_n 1, 1) := by decide +kernel
theorem d_Bu_cut_109 : decode b_Bu_cut 109 = .ok (.iload 6, 2) := by decide +kernel
theorem d_Bu_cut_111 : decode b_Bu_cut 111 = .ok (.iconst 1, 1) := by decide +kernel
theorem d_Bu_cut_112 : decode b_Bu_cut 112 = .ok (.isub, 1) := by decide +kernel
theorem d_Bu_cut_113 : decode b_Bu_cut 113 = .ok (.iconst 0, 1) := by decide +kernel
theorem d_Bu_cut_114 : decode b_Bu_cut 114 = .ok (.iload 7, 2) := by decide +kernel
theorem d_Bu_cut_116 : decode b_Bu_cut 116 = .ok (.iload 6, 2) := by decide +kernel
theorem d_Bu_cut_118 : decode b_Bu_cut 118 = .ok (.isub, 1) := by decide +kernel
theorem d_Bu_cut_119 : decode b_Bu_cut 119 = .ok (.iconst 1, 1) := by decide +kernel
theorem d_Bu_cut_120 : decode b_Bu_cut 120 = .ok (.iadd, 1) := by decide +kernel
theorem d_Bu_cut_121 : decode b_Bu_cut 121 = .ok (.invokestatic 325, 3) := by decide +kernel
theorem d_Bu_cut_124 : decode b_Bu_cut 124 = .ok (.invokevirtual 249, 3) := by decide +kernel
theorem d_Bu_cut_127 : decode b_Bu_cut 127 = .ok (.invokevirtual 253, 3) := by decide +kernel
theorem d_Bu_cut_130 : decode b_Bu_cut 130 = .ok (.return_, 1) := by decide +kernel
theorem kw_1529 : Cond.methodLink R_Bu 322 y_Mth_max_ ∈ wA := kinm (show _ ∈ tables_1 from (List.mem_append_right _ (List.mem_append_right _ (List.mem_append_right _ (List.mem_append_right _ (List.mem_append_right _ (List.mem_append_right _ (List.mem_append_right _ (List.mem_append_left _ (List.mem_of_getElem? (l := tables_1_8) (i := 146) (by decide +kernel))))))))))) (by decide +kernel)
theorem kw_1530 : Cond.methodLink R_Bu 325 y_Mth_max ∈ wA := kinm (show _ ∈ tables_1 from (List.mem_append_right _ (List.mem_append_right _ (List.mem_append_right _ (List.mem_append_right _ (List.mem_append_right _ (List.mem_append_right _ (List.mem_append_right _ (List.mem_append_left _ (List.mem_of_getElem? (l := tables_1_8) (i := 149) (by decide +kernel))))))))))) (by decide +kernel)
theorem kw_1531 : Cond.instanceMethod y_Bu_cut ∈ wA := kinm (show _ ∈ tables_1 from (List.mem_append_right _ (List.mem_append_right _ (List.mem_append_right _ (List.mem_append_right _ (List.mem_append_right _ (List.mem_append_right _ (List.mem_append_right _ (List.mem_append_left _ (List.mem_of_getElem? (l := tables_1_8) (i := 137) (by decide +kernel))))))))))) (by decide +kernel)
theorem kw_1532 : Cond.selects R_Bu y_Bu_cut y_Bu_cut ∈ wA := kinp 85 (by decide +kernel) (by decide +kernel)
theorem cv_Bu_cut : CV y_Bu_cut b_Bu_cut 8 none 0 := ⟨kw_1531, kw_1532, kw_950, k_Bu_cut, by decide +kernel⟩
theorem j_Bu_cut_j73 {X : Cx} {q0 q : PL} (g : Gd X y_Bu_cut b_Bu_cut 8 none 5 124 R_Bu) {o : (Unit × (Nat × Nat)) × S1} (hR : RtX X [146, 154] q0 o.1.2 o.2 (fun _ => none)) (hx0 : Exq (xP X) [146, 154] q0 q) (l1 : Int32) (l2 : Int64) (ln : Nat × Nat) (k0 : Int64) (hm : Rmq (xP X) q ln) (s : S1) (hp0 : prs s 146 l1) (ls : Array Slot) (hl : lv_has ls 8 [(0, .ref (q.1 130 0)), (1, .ref (q.1 146 l1)), (2, .long l2)]) (h : M_Bu_cut_j73 l1 l2 ln k0 s = some o) : WW X q s 73 ls [.long k0] := by
  unfold M_Bu_cut_j73 at h
  refine ww_lstore (pc := 73) (i := 4) g.1 (lv' := [(4, .long k0), (0, .ref (q.1 130 0)), (1, .ref (q.1 146 l1)), (2, .long l2)]) d_Bu_cut_73 hl (by decide) rfl fun ls hl => ?_
  refine ww_lload_n (pc := 75) g.1 d_Bu_cut_75 rfl (lv_at hl 3 rfl) ?_
  refine ww_lconst (pc := 76) g.1 (v := 1) d_Bu_cut_76 (by decide) ?_
  refine ww_lo fun dlo => ?_
  obtain ⟨v77, s, hc77, h⟩ := oB_of h
  refine ww_callS (pc := 77) (rest := []) g cs_Mth_max_ (Or.inl kw_1529) (ct_Mth_max_ hc77) ⟨by decide, by decide⟩ rfl hl.1 (Nat.le_of_ble_eq_true rfl) d_Bu_cut_77 rfl (?_)
  refine ww_st (st' := [.long v77]) rfl ?_
  refine ww_hi fun dhi => ?_
  have hp0 : prs s 146 l1 := dhi _ _ hp0.2.1 hp0.2.2 (dlo _ _ hp0)
  refine ww_aload_n (pc := 80) g.1 d_Bu_cut_80 rfl (lv_at hl 2 rfl) ?_
  refine ww_ln hp0 h fun n81 hmn81 hnn81 h => ?_
  refine ww_alen (pc := 81) g (n := n81) hp0 (by decide) hmn81 d_Bu_cut_81 ?_
  refine ww_i2l (pc := 82) g.1 (v := n81.toInt64) d_Bu_cut_82 rfl ?_
  refine ww_lconst (pc := 83) g.1 (v := 1) d_Bu_cut_83 (by decide) ?_
  refine ww_ladd (pc := 84) g.1 d_Bu_cut_84 ?_
  refine ww_lo fun dlo => ?_
  obtain ⟨v85, s, hc85, h⟩ := oB_of h
  refine ww_callS (pc := 85) (rest := []) g cs_Mth_min_ (Or.inl kw_1178) (ct_Mth_min_ hc85) ⟨by decide, by decide⟩ rfl hl.1 (Nat.le_of_ble_eq_true rfl) d_Bu_cut_85 rfl (?_)
  refine ww_st (st' := [.long v85]) rfl ?_
  refine ww_hi fun dhi => ?_
  have hp0 : prs s 146 l1 := dhi _ _ hp0.2.1 hp0.2.2 (dlo _ _ hp0)
  refine ww_l2i (pc := 88) g.1 (v := v85.toInt32) d_Bu_cut_88 rfl ?_
  refine ww_istore (pc := 89) (i := 6) g.1 (lv' := [(6, .int v85.toInt32), (4, .long k0), (0, .ref (q.1 130 0)), (1, .ref (q.1 146 l1)), (2, .long l2)]) d_Bu_cut_89 hl (by decide) rfl fun ls hl => ?_
  refine ww_lload (pc := 91) g.1 d_Bu_cut_91 (lv_at hl 1 rfl) ?_
  refine ww_aload_n (pc := 93) g.1 d_Bu_cut_93 rfl (lv_at hl 3 rfl) ?_
  refine ww_ln hp0 h fun n94 hmn94 hnn94 h => ?_
  refine ww_alen (pc := 94) g (n := n94) hp0 (by decide) hmn94 d_Bu_cut_94 ?_
  refine ww_i2l (pc := 95) g.1 (v := n94.toInt64) d_Bu_cut_95 rfl ?_
  refine ww_lo fun dlo => ?_
  obtain ⟨v96, s, hc96, h⟩ := oB_of h
  refine ww_callS (pc := 96) (rest := []) g cs_Mth_min_ (Or.inl kw_1178) (ct_Mth_min_ hc96) ⟨by decide, by decide⟩ rfl hl.1 (Nat.le_of_ble_eq_true rfl) d_Bu_cut_96 rfl (?_)
  refine ww_st (st' := [.long v96]) rfl ?_
  refine ww_hi fun dhi => ?_
  have hp0 : prs s 146 l1 := dhi _ _ hp0.2.1 hp0.2.2 (dlo _ _ hp0)
  refine ww_l2i (pc := 99) g.1 (v := v96.toInt32) d_Bu_cut_99 rfl ?_
  refine ww_istore (pc := 100) (i := 7) g.1 (lv' := [(7, .int v96.toInt32), (6, .int v85.toInt32), (4, .long k0), (0, .ref (q.1 130 0)), (1, .ref (q.1 146 l1)), (2, .long l2)]) d_Bu_cut_100 hl (by decide) rfl fun ls hl => ?_
  refine ww_aload_n (pc := 102) g.1 d_Bu_cut_102 rfl (lv_at hl 3 rfl) ?_
  refine ww_iconst (pc := 103) g.1 (v := 4) d_Bu_cut_103 (by decide) ?_
  refine ww_aload_n (pc := 104) g.1 d_Bu_cut_104 rfl (lv_at hl 3 rfl) ?_
  refine ww_gR (pc := 105) g (k := 3) cl_Bu (pz rfl (by decide)) (by decide) (Or.inl kw_974) (f := 16643) (t := 111) rfl rfl rfl d_Bu_cut_105 ?_
  refine ww_aload_n (pc := 108) g.1 d_Bu_cut_108 rfl (lv_at hl 4 rfl) ?_
  refine ww_iload (pc := 109) g.1 d_Bu_cut_109 (lv_at hl 1 rfl) ?_
  refine ww_iconst (pc := 111) g.1 (v := 1) d_Bu_cut_111 (by decide) ?_
  refine ww_isub (pc := 112) g.1 d_Bu_cut_112 ?_
  refine ww_iconst (pc := 113) g.1 (v := 0) d_Bu_cut_113 (by decide) ?_
  refine ww_iload (pc := 114) g.1 d_Bu_cut_114 (lv_at hl 0 rfl) ?_
  refine ww_iload (pc := 116) g.1 d_Bu_cut_116 (lv_at hl 1 rfl) ?_
  refine ww_isub (pc := 118) g.1 d_Bu_cut_118 ?_
  refine ww_iconst (pc := 119) g.1 (v := 1) d_Bu_cut_119 (by decide) ?_
  refine ww_iadd (pc := 120) g.1 d_Bu_cut_120 ?_
  refine ww_lo fun dlo => ?_
  obtain ⟨v121, s, hc121, h⟩ := oB_of h
  refine ww_callS (pc := 121) (rest := [.int (v85.toInt32 - 1), .ref (q.1 146 l1), .ref (q.1 111 0), .int 4, .ref (q.1 130 0)]) g cs_Mth_max (Or.inl kw_1530) (ct_Mth_max hc121) ⟨by decide, by decide⟩ rfl hl.1 (Nat.le_of_ble_eq_true rfl) d_Bu_cut_121 rfl (?_)
  refine ww_st (st' := [.int v121, .int (v85.toInt32 - 1), .ref (q.1 146 l1), .ref (q.1 111 0), .int 4, .ref (q.1 130 0)]) rfl ?_
  refine ww_hi fun dhi => ?_
  have hp0 : prs s 146 l1 := dhi _ _ hp0.2.1 hp0.2.2 (dlo _ _ hp0)
  refine ww_lo fun dlo => ?_
  obtain ⟨v124, s, hc124, h⟩ := oB_of h
  refine ww_callVX (pc := 124) (rest := [.int 4, .ref (q.1 130 0)]) g cv_He_intern (Or.inl kw_1525) cl_He (pz rfl (by decide)) (ct_He_intern rfl (by decide) hp0 hm hc124) ⟨by decide, by decide⟩ rfl hl.1 (Nat.le_of_ble_eq_true rfl) d_Bu_cut_124 rfl (fun q124 hE hm => ?_)
  have hl : lv_has ls 8 [(7, .int v96.toInt32), (6, .int v85.toInt32), (4, .long k0), (2, .long l2)] := lv_sub hl [0, 1, 2, 5] rfl
  have ex124_0 : q124.1 130 0 = q.1 130 0 := hE _ _ (by decide) (dlo _ _ (pz rfl (by decide)))
  refine ww_st (st' := [.int v124.1, .int 4, .ref (q124.1 130 0)]) (by first | (rw [ex124_0]; done) | (rw [ex124_0]; rfl)) ?_
  have hx0 : Exq (xP X) [146, 154] _ q124 := hx0.tr (hE.sub (by decide))
  obtain ⟨v127, s, hc127, h⟩ := oB_of h
  refine ww_callV (pc := 127) (rest := []) g cv_Bu_addMade (Or.inl kw_1399) cl_Bu (pz rfl (by decide)) (ct_Bu_addMade hc127) ⟨by decide, by decide⟩ rfl hl.1 (Nat.le_of_ble_eq_true rfl) d_Bu_cut_127 rfl (?_)
  refine ww_st (st' := []) rfl ?_
  exact ww_vretX (pc := 130) g h hR hx0 hm d_Bu_cut_130

theorem j_Bu_cut_j42 {X : Cx} {q0 q : PL} (g : Gd X y_Bu_cut b_Bu_cut 8 none 5 124 R_Bu) {o : (Unit × (Nat × Nat)) × S1} (hR : RtX X [146, 154] q0 o.1.2 o.2 (fun _ => none)) (hx0 : Exq (xP X) [146, 154] q0 q) (l1 : Int32) (ln : Nat × Nat) (k0 : Int64) (hm : Rmq (xP X) q ln) (s : S1) (hp0 : prs s 146 l1) (ls : Array Slot) (hl : lv_has ls 8 [(0, .ref (q.1 130 0)), (1, .ref (q.1 146 l1))]) (h : M_Bu_cut_j42 l1 ln k0 s = some o) : WW X q s 42 ls [.long k0] := by
  unfold M_Bu_cut_j42 at h
  refine ww_lstore_n (pc := 42) (i := 2) g.1 (lv' := [(2, .long k0), (0, .ref (q.1 130 0)), (1, .ref (q.1 146 l1))]) d_Bu_cut_42 rfl hl (by decide) rfl fun ls hl => ?_
  refine ww_aload_n (pc := 43) g.1 d_Bu_cut_43 rfl (lv_at hl 1 rfl) ?_
  refine ww_gR (pc := 44) g (k := 5) cl_Bu (pz rfl (by decide)) (by decide) (Or.inl kw_976) (f := 16645) (t := 132) rfl rfl rfl d_Bu_cut_44 ?_
  refine ww_iconst (pc := 47) g.1 (v := 2) d_Bu_cut_47 (by decide) ?_
  refine ww_lo fun dlo => ?_
  obtain ⟨v48, s, hc48, h⟩ := oB_of h
  refine ww_callV (pc := 48) (rest := []) g cv_Ro_kindAt (Or.inl kw_983) (cl_Ro ⟨by decide, rfl⟩) (pz rfl (by decide)) (ct_Ro_kindAt ⟨by decide, rfl⟩ hc48) ⟨by decide, by decide⟩ rfl hl.1 (Nat.le_of_ble_eq_true rfl) d_Bu_cut_48 rfl (?_)
  refine ww_st (st' := [.int v48]) rfl ?_
  refine ww_hi fun dhi => ?_
  have hp0 : prs s 146 l1 := dhi _ _ hp0.2.1 hp0.2.2 (dlo _ _ hp0)
  refine ww_if_ne (pc := 51) (tgt := 60) g.1 d_Bu_cut_51 (by decide) h (fun c h => ?_) (fun c h => ?_)
  · refine ww_aload_n (pc := 60) g.1 d_Bu_cut_60 rfl (lv_at hl 1 rfl) ?_
    refine ww_gR (pc := 61) g (k := 5) cl_Bu (pz rfl (by decide)) (by decide) (Or.inl kw_976) (f := 16645) (t := 132) rfl rfl rfl d_Bu_cut_61 ?_
    refine ww_iconst (pc := 64) g.1 (v := 2) d_Bu_cut_64 (by decide) ?_
    refine ww_lo fun dlo => ?_
    obtain ⟨v65, s, hc65, h⟩ := oB_of h
    refine ww_callV (pc := 65) (rest := []) g cv_Ro_valueAt (Or.inl kw_977) (cl_Ro ⟨by decide, rfl⟩) (pz rfl (by decide)) (ct_Ro_valueAt ⟨by decide, rfl⟩ hc65) ⟨by decide, by decide⟩ rfl hl.1 (Nat.le_of_ble_eq_true rfl) d_Bu_cut_65 rfl (?_)
    refine ww_st (st' := [.long v65]) rfl ?_
    refine ww_hi fun dhi => ?_
    have hp0 : prs s 146 l1 := dhi _ _ hp0.2.1 hp0.2.2 (dlo _ _ hp0)
    refine ww_aload_n (pc := 68) g.1 d_Bu_cut_68 rfl (lv_at hl 2 rfl) ?_
    refine ww_ln hp0 h fun n69 hmn69 hnn69 h => ?_
    refine ww_alen (pc := 69) g (n := n69) hp0 (by decide) hmn69 d_Bu_cut_69 ?_
    refine ww_lo fun dlo => ?_
    obtain ⟨v70, s, hc70, h⟩ := oB_of h
    refine ww_callS (pc := 70) (rest := []) g cs_Bu_fromFront (Or.inl kw_1185) (ct_Bu_fromFront hc70) ⟨by decide, by decide⟩ rfl hl.1 (Nat.le_of_ble_eq_true rfl) d_Bu_cut_70 rfl (?_)
    refine ww_st (st' := [.long v70]) rfl ?_
    refine ww_hi fun dhi => ?_
    have hp0 : prs s 146 l1 := dhi _ _ hp0.2.1 hp0.2.2 (dlo _ _ hp0)
    exact j_Bu_cut_j73 g hR hx0 l1 k0 ln v70 hm s hp0 ls (lv_sub hl [1, 2, 0] rfl) h
  · refine ww_aload_n (pc := 54) g.1 d_Bu_cut_54 rfl (lv_at hl 2 rfl) ?_
    refine ww_ln hp0 h fun n55 hmn55 hnn55 h => ?_
    refine ww_alen (pc := 55) g (n := n55) hp0 (by decide) hmn55 d_Bu_cut_55 ?_
    refine ww_i2l (pc := 56) g.1 (v := n55.toInt64) d_Bu_cut_56 rfl ?_
    refine ww_goto (pc := 57) (tgt := 73) g.1 d_Bu_cut_57 (by decide) ?_
    exact j_Bu_cut_j73 g hR hx0 l1 k0 ln n55.toInt64 hm s hp0 ls (lv_sub hl [1, 2, 0] rfl) h

theorem ct_Bu_cut {l : Launch} {P : PP} {q : PL} {s s' : S1} {n0 n1 : Nat × Nat}  {r : Unit} (hm : Rmq P q n0) (h : M_Bu_cut n0 s = some ((r, n1), s')) : CtX l y_Bu_cut b_Bu_cut 8 none 5 124 P [146, 154] q s [.ref (q.1 130 0)] (fun _ => none) n1 s' := by
  refine ctX_of (by decide) (Nat.le_of_ble_eq_true rfl) fun X ls eP el g hR hl => ?_
  subst eP
  obtain ⟨q0, hq0⟩ : ∃ q0 : PL, q0 = q := ⟨q, rfl⟩
  have hx0 : Exq (xP X) [146, 154] q0 q := hq0 ▸ Exq.rf
  rw [← hq0] at hR
  have hR : RtX X [146, 154] q0 (((r, n1), s') : (Unit × (Nat × Nat)) × S1).1.2 (((r, n1), s') : (Unit × (Nat × Nat)) × S1).2 (fun _ => none) := hR
  have hl : lv_has ls 8 [(0, .ref (q.1 130 0))] := hl
  generalize ((r, n1), s') = o at h hR
  unfold M_Bu_cut at h
  refine ww_aload_n (pc := 0) g.1 d_Bu_cut_0 rfl (lv_at hl 0 rfl) ?_
  refine ww_iconst (pc := 1) g.1 (v := 2) d_Bu_cut_1 (by decide) ?_
  obtain ⟨v2, s, hc2, h⟩ := oB_of h
  refine ww_callV (pc := 2) (rest := []) g cv_Bu_hasString (Or.inl kw_1184) cl_Bu (pz rfl (by decide)) (ct_Bu_hasString hc2) ⟨by decide, by decide⟩ rfl hl.1 (Nat.le_of_ble_eq_true rfl) d_Bu_cut_2 rfl (?_)
  refine ww_st (st' := [.int v2]) rfl ?_
  refine ww_if_ne (pc := 5) (tgt := 9) g.1 d_Bu_cut_5 (by decide) h (fun c h => ?_) (fun c h => ?_)
  · refine ww_aload_n (pc := 9) g.1 d_Bu_cut_9 rfl (lv_at hl 0 rfl) ?_
    obtain ⟨v10, s, hc10, h⟩ := oB_of h
    refine ww_callV (pc := 10) (rest := []) g cv_Bu_bytesOfFirst (Or.inl kw_984) cl_Bu (pz rfl (by decide)) (ct_Bu_bytesOfFirst hc10) ⟨by decide, by decide⟩ rfl hl.1 (Nat.le_of_ble_eq_true rfl) d_Bu_cut_10 rfl (?_)
    refine ww_st (st' := [.ref (q.1 146 v10)]) rfl ?_
    refine ww_pr h fun pr10 h => ?_
    refine ww_astore_n (pc := 13) (i := 1) g.1 (lv' := [(1, .ref (q.1 146 v10)), (0, .ref (q.1 130 0))]) d_Bu_cut_13 rfl hl (by decide) rfl fun ls hl => ?_
    refine ww_aload_n (pc := 14) g.1 d_Bu_cut_14 rfl (lv_at hl 1 rfl) ?_
    refine ww_gR (pc := 15) g (k := 5) cl_Bu (pz rfl (by decide)) (by decide) (Or.inl kw_976) (f := 16645) (t := 132) rfl rfl rfl d_Bu_cut_15 ?_
    refine ww_iconst (pc := 18) g.1 (v := 1) d_Bu_cut_18 (by decide) ?_
    refine ww_lo fun dlo => ?_
    obtain ⟨v19, s, hc19, h⟩ := oB_of h
    refine ww_callV (pc := 19) (rest := []) g cv_Ro_kindAt (Or.inl kw_983) (cl_Ro ⟨by decide, rfl⟩) (pz rfl (by decide)) (ct_Ro_kindAt ⟨by decide, rfl⟩ hc19) ⟨by decide, by decide⟩ rfl hl.1 (Nat.le_of_ble_eq_true rfl) d_Bu_cut_19 rfl (?_)
    refine ww_st (st' := [.int v19]) rfl ?_
    refine ww_hi fun dhi => ?_
    have pr10 : prs s 146 v10 := dhi _ _ pr10.2.1 pr10.2.2 (dlo _ _ pr10)
    refine ww_if_ne (pc := 22) (tgt := 29) g.1 d_Bu_cut_22 (by decide) h (fun c h => ?_) (fun c h => ?_)
    · refine ww_aload_n (pc := 29) g.1 d_Bu_cut_29 rfl (lv_at hl 1 rfl) ?_
      refine ww_gR (pc := 30) g (k := 5) cl_Bu (pz rfl (by decide)) (by decide) (Or.inl kw_976) (f := 16645) (t := 132) rfl rfl rfl d_Bu_cut_30 ?_
      refine ww_iconst (pc := 33) g.1 (v := 1) d_Bu_cut_33 (by decide) ?_
      refine ww_lo fun dlo => ?_
      obtain ⟨v34, s, hc34, h⟩ := oB_of h
      refine ww_callV (pc := 34) (rest := []) g cv_Ro_valueAt (Or.inl kw_977) (cl_Ro ⟨by decide, rfl⟩) (pz rfl (by decide)) (ct_Ro_valueAt ⟨by decide, rfl⟩ hc34) ⟨by decide, by decide⟩ rfl hl.1 (Nat.le_of_ble_eq_true rfl) d_Bu_cut_34 rfl (?_)
      refine ww_st (st' := [.long v34]) rfl ?_
      refine ww_hi fun dhi => ?_
      have pr10 : prs s 146 v10 := dhi _ _ pr10.2.1 pr10.2.2 (dlo _ _ pr10)
      refine ww_aload_n (pc := 37) g.1 d_Bu_cut_37 rfl (lv_at hl 0 rfl) ?_
      refine ww_ln pr10 h fun n38 hmn38 hnn38 h => ?_
      refine ww_alen (pc := 38) g (n := n38) pr10 (by decide) hmn38 d_Bu_cut_38 ?_
      refine ww_lo fun dlo => ?_
      obtain ⟨v39, s, hc39, h⟩ := oB_of h
      refine ww_callS (pc := 39) (rest := []) g cs_Bu_fromFront (Or.inl kw_1185) (ct_Bu_fromFront hc39) ⟨by decide, by decide⟩ rfl hl.1 (Nat.le_of_ble_eq_true rfl) d_Bu_cut_39 rfl (?_)
      refine ww_st (st' := [.long v39]) rfl ?_
      refine ww_hi fun dhi => ?_
      have pr10 : prs s 146 v10 := dhi _ _ pr10.2.1 pr10.2.2 (dlo _ _ pr10)
      exact j_Bu_cut_j42 g hR hx0 v10 n0 v39 hm s pr10 ls (lv_sub hl [1, 0] rfl) h
    · refine ww_lconst (pc := 25) g.1 (v := 1) d_Bu_cut_25 (by decide) ?_
      refine ww_goto (pc := 26) (tgt := 42) g.1 d_Bu_cut_26 (by decide) ?_
      exact j_Bu_cut_j42 g hR hx0 v10 n0 1 hm s pr10 ls (lv_sub hl [1, 0] rfl) h
  · exact ww_vretX (pc := 8) g h hR hx0 hm d_Bu_cut_8

abbrev b_Bu_makeOfBytes : ByteArray := prog_2_method_31_code
def y_Bu_makeOfBytes : MethodName := ⟨R_Bu, "makeOfBytes", "()V"⟩
abbrev w_Bu_makeOfBytes : List Cond := .code y_Bu_makeOfBytes b_Bu_makeOfBytes 2 none :: wA
theorem k_Bu_makeOfBytes : Cond.code y_Bu_makeOfBytes b_Bu_makeOfBytes 2 none ∈ wA := kinm (show _ ∈ tables_1 from (List.mem_append_right _ (List.mem_append_right _ (List.mem_append_right _ (List.mem_append_right _ (List.mem_append_right _ (List.mem_append_right _ (List.mem_append_right _ (List.mem_append_left _ (List.mem_of_getElem? (l := tables_1_8) (i := 157) (by decide +kernel))))))))))) (by decide +kernel)
theorem d_Bu_makeOfBytes_0 : decode b_Bu_makeOfBytes 0 = .ok (.aload_n 0, 1) := by decide +kernel
theorem d_Bu_makeOfBytes_1 : decode b_Bu_makeOfBytes 1 = .ok (.getfield 25, 3) := by decide +kernel
theorem d_Bu_makeOfBytes_4 : decode b_Bu_makeOfBytes 4 = .ok (.iconst 0, 1) := by decide +kernel
theorem d_Bu_makeOfBytes_5 : decode b_Bu_makeOfBytes 5 = .ok (.putfield 187, 3) := by decide +kernel
theorem d_Bu_makeOfBytes_8 : decode b_Bu_makeOfBytes 8 = .ok (.iconst 0, 1) := by decide +kernel
theorem d_Bu_makeOfBytes_9 : decode b_Bu_makeOfBytes 9 = .ok (.istore_n 1, 1) := by decide +kernel
theorem d_Bu_makeOfBytes_10 : decode b_Bu_makeOfBytes 10 = .ok (.iload_n 1, 1) := by decide +kernel
theorem d_Bu_makeOfBytes_11 : decode b_Bu_makeOfBytes 11 = .ok (.aload_n 0, 1) := by decide +kernel
theorem d_Bu_makeOfBytes_12 : decode b_Bu_makeOfBytes 12 = .ok (.getfield 35, 3) := by decide +kernel
theorem d_Bu_makeOfBytes_15 : decode b_Bu_makeOfBytes 15 = .ok (.getfield 167, 3) := by decide +kernel
theorem d_Bu_makeOfBytes_18 : decode b_Bu_makeOfBytes 18 = .ok (.if_icmp .ge 88, 3) := by decide +kernel
theorem d_Bu_makeOfBytes_21 : decode b_Bu_makeOfBytes 21 = .ok (.aload_n 0, 1) := by decide +kernel
theorem d_Bu_makeOfBytes_22 : decode b_Bu_makeOfBytes 22 = .ok (.getfield 35, 3) := by decide +kernel
theorem d_Bu_makeOfBytes_25 : decode b_Bu_makeOfBytes 25 = .ok (.getfield 173, 3) := by decide +kernel
theorem d_Bu_makeOfBytes_28 : decode b_Bu_makeOfBytes 28 = .ok (.iload_n 1, 1) := by decide +kernel
theorem d_Bu_makeOfBytes_29 : decode b_Bu_makeOfBytes 29 = .ok (.baload, 1) := by decide +kernel
theorem d_Bu_makeOfBytes_30 : decode b_Bu_makeOfBytes 30 = .ok (.iconst 3, 1) := by decide +kernel
theorem d_Bu_makeOfBytes_31 : decode b_Bu_makeOfBytes 31 = .ok (.if_icmp .eq 12, 3) := by decide +kernel
theorem d_Bu_makeOfBytes_34 : decode b_Bu_makeOfBytes 34 = .ok (.aload_n 0, 1) := by decide +kernel
theorem d_Bu_makeOfBytes_35 : decode b_Bu_makeOfBytes 35 = .ok (.getfield 15, 3) := by decide +kernel
theorem d_Bu_makeOfBytes_38 : decode b_Bu_makeOfBytes 38 = .ok (.iconst 3, 1) := by decide +kernel
theorem d_Bu_makeOfBytes_39 : decode b_Bu_makeOfBytes 39 = .ok (.invokevirtual 145, 3) := by decide +kernel
theorem d_Bu_makeOfBytes_42 : decode b_Bu_makeOfBytes 42 = .ok (.return_, 1) := by decide +kernel
theorem d_Bu_makeOfBytes_43 : decode b_Bu_makeOfBytes 43 = .ok (.aload_n 0, 1) := by decide +kernel
theorem d_Bu_makeOfBytes_44 : decode b_Bu_makeOfBytes 44 = .ok (.getfield 35, 3) := by decide +kernel
theorem d_Bu_makeOfBytes_47 : decode b_Bu_makeOfBytes 47 = .ok (.getfield 176, 3) := by decide +kernel
theorem d_Bu_makeOfBytes_50 : decode b_Bu_makeOfBytes 50 = .ok (.iload_n 1, 1) := by decide +kernel
theorem d_Bu_makeOfBytes_51 : decode b_Bu_makeOfBytes 51 = .ok (.laload, 1) := by decide +kernel
theorem d_Bu_makeOfBytes_52 : decode b_Bu_makeOfBytes 52 = .ok (.lconst 0, 1) := by decide +kernel
theorem d_Bu_makeOfBytes_53 : decode b_Bu_makeOfBytes 53 = .ok (.lcmp, 1) := by decide +kernel
theorem d_Bu_makeOfBytes_54 : decode b_Bu_makeOfBytes 54 = .ok (.ifCond .lt 19, 3) := by decide +kernel
theorem d_Bu_makeOfBytes_57 : decode b_Bu_makeOfBytes 57 = .ok (.aload_n 0, 1) := by decide +kernel
theorem d_Bu_makeOfBytes_58 : decode b_Bu_makeOfBytes 58 = .ok (.getfield 35, 3) := by decide +kernel
theorem d_Bu_makeOfBytes_61 : decode b_Bu_makeOfBytes 61 = .ok (.getfield 176, 3) := by decide +kernel
theorem d_Bu_makeOfBytes_64 : decode b_Bu_makeOfBytes 64 = .ok (.iload_n 1, 1) := by decide +kernel
theorem d_Bu_makeOfBytes_65 : decode b_Bu_makeOfBytes 65 = .ok (.laload, 1) := by decide +kernel
theorem d_Bu_makeOfBytes_66 : decode b_Bu_makeOfBytes 66 = .ok (.ldc2_w 327, 3) := by decide +kernel
theorem d_Bu_makeOfBytes_69 : decode b_Bu_makeOfBytes 69 = .ok (.lcmp, 1) := by decide +kernel
theorem d_Bu_makeOfBytes_70 : decode b_Bu_makeOfBytes 70 = .ok (.ifCond .le 13, 3) := by decide +kernel
theorem d_Bu_makeOfBytes_73 : decode b_Bu_makeOfBytes 73 = .ok (.aload_n 0, 1) := by decide +kernel
theorem d_Bu_makeOfBytes_74 : decode b_Bu_makeOfBytes 74 = .ok (.getfield 15, 3) := by decide +kernel
theorem d_Bu_makeOfBytes_77 : decode b_Bu_makeOfBytes 77 = .ok (.bipush 7, 2) := by decide +kernel
theorem d_Bu_makeOfBytes_79 : decode b_Bu_makeOfBytes 79 = .ok (.invokevirtual 145, 3) := by decide +kernel
theorem d_Bu_makeOfBytes_82 : decode b_Bu_makeOfBytes 82 = .ok (.return_, 1) := by decide +kernel
theorem d_Bu_makeOfBytes_83 : decode b_Bu_makeOfBytes 83 = .ok (.aload_n 0, 1) := by decide +kernel
theorem d_Bu_makeOfBytes_84 : decode b_Bu_makeOfBytes 84 = .ok (.getfield 25, 3) := by decide +kernel
theorem d_Bu_makeOfBytes_87 : decode b_Bu_makeOfBytes 87 = .ok (.aload_n 0, 1) := by decide +kernel
theorem d_Bu_makeOfBytes_88 : decode b_Bu_makeOfBytes 88 = .ok (.getfield 35, 3) := by decide +kernel
theorem d_Bu_makeOfBytes_91 : decode b_Bu_makeOfBytes 91 = .ok (.getfield 176, 3) := by decide +kernel
theorem d_Bu_makeOfBytes_94 : decode b_Bu_makeOfBytes 94 = .ok (.iload_n 1, 1) := by decide +kernel
theorem d_Bu_makeOfBytes_95 : decode b_Bu_makeOfBytes 95 = .ok (.laload, 1) := by decide +kernel
theorem d_Bu_makeOfBytes_96 : decode b_Bu_makeOfBytes 96 = .ok (.l2i, 1) := by decide +kernel
theorem d_Bu_makeOfBytes_97 : decode b_Bu_makeOfBytes 97 = .ok (.invokevirtual 329, 3) := by decide +kernel
theorem d_Bu_makeOfBytes_100 : decode b_Bu_makeOfBytes 100 = .ok (.iinc 1 1, 3) := by decide +kernel
theorem d_Bu_makeOfBytes_103 : decode b_Bu_makeOfBytes 103 = .ok (.goto (-93), 3) := by decide +kernel
theorem d_Bu_makeOfBytes_106 : decode b_Bu_makeOfBytes 106 = .ok (.aload_n 0, 1) := by decide +kernel
theorem d_Bu_makeOfBytes_107 : decode b_Bu_makeOfBytes 107 = .ok (.iconst 4, 1) := by decide +kernel
theorem d_Bu_makeOfBytes_108 : decode b_Bu_makeOfBytes 108 = .ok (.aload_n 0, 1) := by decide +kernel
theorem d_Bu_makeOfBytes_109 : decode b_Bu_makeOfBytes 109 = .ok (.getfield 25, 3) := by decide +kernel
theorem d_Bu_makeOfBytes_112 : decode b_Bu_makeOfBytes 112 = .ok (.aload_n 0, 1) := by decide +kernel
theorem d_Bu_makeOfBytes_113 : decode b_Bu_makeOfBytes 113 = .ok (.getfield 25, 3) := by decide +kernel
theorem d_Bu_makeOfBytes_116 : decode b_Bu_makeOfBytes 116 = .ok (.getfield 184, 3) := by decide +kernel
theorem d_Bu_makeOfBytes_119 : decode b_Bu_makeOfBytes 119 = .ok (.iconst 0, 1) := by decide +kernel
theorem d_Bu_makeOfBytes_120 : decode b_Bu_makeOfBytes 120 = .ok (.aload_n 0, 1) := by decide +kernel
theorem d_Bu_makeOfBytes_121 : decode b_Bu_makeOfBytes 121 = .ok (.getfield 25, 3) := by decide +kernel
theorem d_Bu_makeOfBytes_124 : decode b_Bu_makeOfBytes 124 = .ok (.getfield 187, 3) := by decide +kernel
theorem d_Bu_makeOfBytes_127 : decode b_Bu_makeOfBytes 127 = .ok (.invokevirtual 249, 3) := by decide +kernel
theorem d_Bu_makeOfBytes_130 : decode b_Bu_makeOfBytes 130 = .ok (.invokevirtual 253, 3) := by decide +kernel
theorem d_Bu_makeOfBytes_133 : decode b_Bu_makeOfBytes 133 = .ok (.return_, 1) := by decide +kernel
theorem kw_1533 : Cond.constantLong R_Bu 327 255 ∈ wA := kinm (show _ ∈ tables_1 from (List.mem_append_right _ (List.mem_append_right _ (List.mem_append_right _ (List.mem_append_right _ (List.mem_append_right _ (List.mem_append_right _ (List.mem_append_right _ (List.mem_append_left _ (List.mem_of_getElem? (l := tables_1_8) (i := 158) (by decide +kernel))))))))))) (by decide +kernel)
theorem kw_1534 : Cond.methodLink R_Bu 329 y_He_putByte ∈ wA := kinm (show _ ∈ tables_1 from (List.mem_append_right _ (List.mem_append_right _ (List.mem_append_right _ (List.mem_append_right _ (List.mem_append_right _ (List.mem_append_right _ (List.mem_append_right _ (List.mem_append_left _ (List.mem_of_getElem? (l := tables_1_8) (i := 159) (by decide +kernel))))))))))) (by decide +kernel)
theorem kw_1535 : Cond.instanceMethod y_Bu_makeOfBytes ∈ wA := kinm (show _ ∈ tables_1 from (List.mem_append_right _ (List.mem_append_right _ (List.mem_append_right _ (List.mem_append_right _ (List.mem_append_right _ (List.mem_append_right _ (List.mem_append_right _ (List.mem_append_left _ (List.mem_of_getElem? (l := tables_1_8) (i := 156) (by decide +kernel))))))))))) (by decide +kernel)
theorem kw_1536 : Cond.selects R_Bu y_Bu_makeOfBytes y_Bu_makeOfBytes ∈ wA := kinp 88 (by decide +kernel) (by decide +kernel)
theorem cv_Bu_makeOfBytes : CV y_Bu_makeOfBytes b_Bu_makeOfBytes 2 none 0 := ⟨kw_1535, kw_1536, kw_950, k_Bu_makeOfBytes, by decide +kernel⟩
theorem lp_Bu_makeOfBytes_L10 {X : Cx} {q0 : PL} (g : Gd X y_Bu_makeOfBytes b_Bu_makeOfBytes 2 none 5 124 R_Bu) (x : Int32 × (Nat × Nat)) (s : S1) (o : ((Int32 × (Nat × Nat)) ⊕ (((Nat × Nat)) ⊕ ((Nat × Nat)) ⊕ ((Nat × Nat)))) × S1) (h : M_Bu_makeOfBytes_L10 x s = some o) (hR : (Sum.elim (fun y : Int32 × (Nat × Nat) => ∀ q : PL, Exq (xP X) [118, 146, 154] q0 q → Rmq (xP X) q y.2 → ∀ ls : Array Slot, lv_has ls 2 [(0, .ref (q.1 130 0)), (1, .int y.1)] → WW X q o.2 10 ls []) (Sum.elim (fun y : (Nat × Nat) => ∀ q : PL, Exq (xP X) [118, 146, 154] q0 q → Rmq (xP X) q y → ∀ ls : Array Slot, lv_has ls 2 [(0, .ref (q.1 130 0))] → WW X q o.2 34 ls []) (Sum.elim (fun y : (Nat × Nat) => ∀ q : PL, Exq (xP X) [118, 146, 154] q0 q → Rmq (xP X) q y → ∀ ls : Array Slot, lv_has ls 2 [(0, .ref (q.1 130 0))] → WW X q o.2 73 ls []) (fun y : (Nat × Nat) => ∀ q : PL, Exq (xP X) [118, 146, 154] q0 q → Rmq (xP X) q y → ∀ ls : Array Slot, lv_has ls 2 [(0, .ref (q.1 130 0))] → WW X q o.2 106 ls []))) o.1)) : ∀ q : PL, Exq (xP X) [118, 146, 154] q0 q → Rmq (xP X) q x.2 → ∀ ls : Array Slot, lv_has ls 2 [(0, .ref (q.1 130 0)), (1, .int x.1)] → WW X q s 10 ls [] := by
  intro q hx0 hm ls hl
  unfold M_Bu_makeOfBytes_L10 at h
  refine ww_iload_n (pc := 10) g.1 d_Bu_makeOfBytes_10 rfl (lv_at hl 1 rfl) ?_
  refine ww_aload_n (pc := 11) g.1 d_Bu_makeOfBytes_11 rfl (lv_at hl 0 rfl) ?_
  refine ww_gR (pc := 12) g (k := 5) cl_Bu (pz rfl (by decide)) (by decide) (Or.inl kw_976) (f := 16645) (t := 132) rfl rfl rfl d_Bu_makeOfBytes_12 ?_
  refine ww_gI (pc := 15) g (k := 2) (cl_Ro ⟨by decide, rfl⟩) (pz rfl (by decide)) (by decide) (Or.inl kw_1177) (f := 16898) rfl rfl d_Bu_makeOfBytes_15 h fun v15 h => ?_
  refine ww_icmp_ge (pc := 18) (tgt := 106) g.1 d_Bu_makeOfBytes_18 (by decide) h (fun c h => ?_) (fun c h => ?_)
  · rw [oR_eq h] at hR
    exact hR q hx0 hm ls (lv_sub hl [0] rfl)
  · refine ww_aload_n (pc := 21) g.1 d_Bu_makeOfBytes_21 rfl (lv_at hl 0 rfl) ?_
    refine ww_gR (pc := 22) g (k := 5) cl_Bu (pz rfl (by decide)) (by decide) (Or.inl kw_976) (f := 16645) (t := 132) rfl rfl rfl d_Bu_makeOfBytes_22 ?_
    refine ww_gR (pc := 25) g (k := 0) (cl_Ro ⟨by decide, rfl⟩) (pz rfl (by decide)) (by decide) (Or.inl kw_1503) (f := 16896) (t := 133) rfl rfl rfl d_Bu_makeOfBytes_25 ?_
    refine ww_iload_n (pc := 28) g.1 d_Bu_makeOfBytes_28 rfl (lv_at hl 1 rfl) ?_
    refine ww_ab (pc := 29) g (pz rfl (by decide)) rfl rfl d_Bu_makeOfBytes_29 h fun v29 h => ?_
    refine ww_iconst (pc := 30) g.1 (v := 3) d_Bu_makeOfBytes_30 (by decide) ?_
    refine ww_icmp_eq (pc := 31) (tgt := 43) g.1 d_Bu_makeOfBytes_31 (by decide) h (fun c h => ?_) (fun c h => ?_)
    · refine ww_aload_n (pc := 43) g.1 d_Bu_makeOfBytes_43 rfl (lv_at hl 0 rfl) ?_
      refine ww_gR (pc := 44) g (k := 5) cl_Bu (pz rfl (by decide)) (by decide) (Or.inl kw_976) (f := 16645) (t := 132) rfl rfl rfl d_Bu_makeOfBytes_44 ?_
      refine ww_gR (pc := 47) g (k := 1) (cl_Ro ⟨by decide, rfl⟩) (pz rfl (by decide)) (by decide) (Or.inl kw_1504) (f := 16897) (t := 134) rfl rfl rfl d_Bu_makeOfBytes_47 ?_
      refine ww_iload_n (pc := 50) g.1 d_Bu_makeOfBytes_50 rfl (lv_at hl 1 rfl) ?_
      refine ww_al (pc := 51) g (pz rfl (by decide)) rfl rfl d_Bu_makeOfBytes_51 h fun v51 h => ?_
      refine ww_lconst (pc := 52) g.1 (v := 0) d_Bu_makeOfBytes_52 (by decide) ?_
      refine ww_lcmp (pc := 53) g.1 d_Bu_makeOfBytes_53 ?_
      refine ww_if_lt (pc := 54) (tgt := 73) g.1 d_Bu_makeOfBytes_54 (by decide) h (fun c h => ?_) (fun c h => ?_)
      · rw [oR_eq h] at hR
        exact hR q hx0 hm ls (lv_sub hl [0] rfl)
      · refine ww_aload_n (pc := 57) g.1 d_Bu_makeOfBytes_57 rfl (lv_at hl 0 rfl) ?_
        refine ww_gR (pc := 58) g (k := 5) cl_Bu (pz rfl (by decide)) (by decide) (Or.inl kw_976) (f := 16645) (t := 132) rfl rfl rfl d_Bu_makeOfBytes_58 ?_
        refine ww_gR (pc := 61) g (k := 1) (cl_Ro ⟨by decide, rfl⟩) (pz rfl (by decide)) (by decide) (Or.inl kw_1504) (f := 16897) (t := 134) rfl rfl rfl d_Bu_makeOfBytes_61 ?_
        refine ww_iload_n (pc := 64) g.1 d_Bu_makeOfBytes_64 rfl (lv_at hl 1 rfl) ?_
        refine ww_al (pc := 65) g (pz rfl (by decide)) rfl rfl d_Bu_makeOfBytes_65 h fun v65 h => ?_
        refine ww_ldc2 (pc := 66) g (v := 255) kw_1533 d_Bu_makeOfBytes_66 ?_
        refine ww_lcmp (pc := 69) g.1 d_Bu_makeOfBytes_69 ?_
        refine ww_if_le (pc := 70) (tgt := 83) g.1 d_Bu_makeOfBytes_70 (by decide) h (fun c h => ?_) (fun c h => ?_)
        · refine ww_aload_n (pc := 83) g.1 d_Bu_makeOfBytes_83 rfl (lv_at hl 0 rfl) ?_
          refine ww_gR (pc := 84) g (k := 3) cl_Bu (pz rfl (by decide)) (by decide) (Or.inl kw_974) (f := 16643) (t := 111) rfl rfl rfl d_Bu_makeOfBytes_84 ?_
          refine ww_aload_n (pc := 87) g.1 d_Bu_makeOfBytes_87 rfl (lv_at hl 0 rfl) ?_
          refine ww_gR (pc := 88) g (k := 5) cl_Bu (pz rfl (by decide)) (by decide) (Or.inl kw_976) (f := 16645) (t := 132) rfl rfl rfl d_Bu_makeOfBytes_88 ?_
          refine ww_gR (pc := 91) g (k := 1) (cl_Ro ⟨by decide, rfl⟩) (pz rfl (by decide)) (by decide) (Or.inl kw_1504) (f := 16897) (t := 134) rfl rfl rfl d_Bu_makeOfBytes_91 ?_
          refine ww_iload_n (pc := 94) g.1 d_Bu_makeOfBytes_94 rfl (lv_at hl 1 rfl) ?_
          refine ww_al (pc := 95) g (pz rfl (by decide)) rfl rfl d_Bu_makeOfBytes_95 h fun v95 h => ?_
          refine ww_l2i (pc := 96) g.1 (v := v95.toInt32) d_Bu_makeOfBytes_96 rfl ?_
          refine ww_lo fun dlo => ?_
          obtain ⟨v97, s, hc97, h⟩ := oB_of h
          refine ww_callVX (pc := 97) (rest := []) g cv_He_putByte (Or.inl kw_1534) cl_He (pz rfl (by decide)) (ct_He_putByte hm hc97) ⟨by decide, by decide⟩ rfl hl.1 (Nat.le_of_ble_eq_true rfl) d_Bu_makeOfBytes_97 rfl (fun q97 hE hm => ?_)
          have ex97_0 : q97.1 130 0 = q.1 130 0 := hE _ _ (by decide) (dlo _ _ (pz rfl (by decide)))
          have hl : lv_has ls 2 [(0, .ref (q97.1 130 0)), (1, .int x.1)] := by rw [ex97_0]; exact hl
          refine ww_st (st' := []) (by rfl) ?_
          have hx0 : Exq (xP X) [118, 146, 154] _ q97 := hx0.tr (hE.sub (by decide))
          refine ww_iinc (pc := 100) g.1 (v := x.1 + 1) (lv' := [(1, .int (x.1 + 1)), (0, .ref (q97.1 130 0))]) d_Bu_makeOfBytes_100 hl (k := 1) rfl (by rfl) (by decide) rfl fun ls hl => ?_
          refine ww_goto (pc := 103) (tgt := 10) g.1 d_Bu_makeOfBytes_103 (by decide) ?_
          rw [oR_eq h] at hR
          exact hR q97 hx0 hm ls (lv_sub hl [1, 0] rfl)
        · rw [oR_eq h] at hR
          exact hR q hx0 hm ls (lv_sub hl [0] rfl)
    · rw [oR_eq h] at hR
      exact hR q hx0 hm ls (lv_sub hl [0] rfl)

theorem j_Bu_makeOfBytes_j73 {X : Cx} {q0 q : PL} (g : Gd X y_Bu_makeOfBytes b_Bu_makeOfBytes 2 none 5 124 R_Bu) {o : (Unit × (Nat × Nat)) × S1} (hR : RtX X [118, 146, 154] q0 o.1.2 o.2 (fun _ => none)) (hx0 : Exq (xP X) [118, 146, 154] q0 q) (ln : Nat × Nat) (hm : Rmq (xP X) q ln) (s : S1) (ls : Array Slot) (hl : lv_has ls 2 [(0, .ref (q.1 130 0))]) (h : M_Bu_makeOfBytes_j73 ln s = some o) : WW X q s 73 ls [] := by
  unfold M_Bu_makeOfBytes_j73 at h
  refine ww_aload_n (pc := 73) g.1 d_Bu_makeOfBytes_73 rfl (lv_at hl 0 rfl) ?_
  refine ww_gR (pc := 74) g (k := 2) cl_Bu (pz rfl (by decide)) (by decide) (Or.inl kw_995) (f := 16642) (t := 128) rfl rfl rfl d_Bu_makeOfBytes_74 ?_
  refine ww_bipush (pc := 77) g.1 (v := 7) d_Bu_makeOfBytes_77 (by decide) ?_
  obtain ⟨v79, s, hc79, h⟩ := oB_of h
  refine ww_callV (pc := 79) (rest := []) g cv_Ma_fail (Or.inl kw_1144) cl_Ma (pz rfl (by decide)) (ct_Ma_fail hc79) ⟨by decide, by decide⟩ rfl hl.1 (Nat.le_of_ble_eq_true rfl) d_Bu_makeOfBytes_79 rfl (?_)
  refine ww_st (st' := []) rfl ?_
  exact ww_vretX (pc := 82) g h hR hx0 hm d_Bu_makeOfBytes_82

theorem ct_Bu_makeOfBytes {l : Launch} {P : PP} {q : PL} {s s' : S1} {n0 n1 : Nat × Nat}  {r : Unit} (hm : Rmq P q n0) (h : M_Bu_makeOfBytes n0 s = some ((r, n1), s')) : CtX l y_Bu_makeOfBytes b_Bu_makeOfBytes 2 none 5 124 P [118, 146, 154] q s [.ref (q.1 130 0)] (fun _ => none) n1 s' := by
  refine ctX_of (by decide) (Nat.le_of_ble_eq_true rfl) fun X ls eP el g hR hl => ?_
  subst eP
  obtain ⟨q0, hq0⟩ : ∃ q0 : PL, q0 = q := ⟨q, rfl⟩
  have hx0 : Exq (xP X) [118, 146, 154] q0 q := hq0 ▸ Exq.rf
  rw [← hq0] at hR
  have hR : RtX X [118, 146, 154] q0 (((r, n1), s') : (Unit × (Nat × Nat)) × S1).1.2 (((r, n1), s') : (Unit × (Nat × Nat)) × S1).2 (fun _ => none) := hR
  have hl : lv_has ls 2 [(0, .ref (q.1 130 0))] := hl
  generalize ((r, n1), s') = o at h hR
  unfold M_Bu_makeOfBytes at h
  refine ww_aload_n (pc := 0) g.1 d_Bu_makeOfBytes_0 rfl (lv_at hl 0 rfl) ?_
  refine ww_gR (pc := 1) g (k := 3) cl_Bu (pz rfl (by decide)) (by decide) (Or.inl kw_974) (f := 16643) (t := 111) rfl rfl rfl d_Bu_makeOfBytes_1 ?_
  refine ww_iconst (pc := 4) g.1 (v := 0) d_Bu_makeOfBytes_4 (by decide) ?_
  refine ww_pI (pc := 5) g (k := 9) cl_He (pz rfl (by decide)) (by decide) (Or.inl kw_1493) rfl (f := 14217) rfl rfl rfl rfl d_Bu_makeOfBytes_5 h fun s hs h => ?_
  refine ww_iconst (pc := 8) g.1 (v := 0) d_Bu_makeOfBytes_8 (by decide) ?_
  refine ww_istore_n (pc := 9) (i := 1) g.1 (lv' := [(1, .int 0), (0, .ref (q.1 130 0))]) d_Bu_makeOfBytes_9 rfl hl (by decide) rfl fun ls hl => ?_
  obtain ⟨e10, s1, hw, h⟩ := oB_of h
  refine oW_rule (Wh := fun (x : Int32 × (Nat × Nat)) (s : S1) => ∀ q : PL, Exq (xP X) [118, 146, 154] q0 q → Rmq (xP X) q x.2 → ∀ ls : Array Slot, lv_has ls 2 [(0, .ref (q.1 130 0)), (1, .int x.1)] → WW X q s 10 ls []) (We := fun (e : ((Nat × Nat)) ⊕ ((Nat × Nat)) ⊕ ((Nat × Nat))) (s : S1) => (Sum.elim (fun y : (Nat × Nat) => ∀ q : PL, Exq (xP X) [118, 146, 154] q0 q → Rmq (xP X) q y → ∀ ls : Array Slot, lv_has ls 2 [(0, .ref (q.1 130 0))] → WW X q s 34 ls []) (Sum.elim (fun y : (Nat × Nat) => ∀ q : PL, Exq (xP X) [118, 146, 154] q0 q → Rmq (xP X) q y → ∀ ls : Array Slot, lv_has ls 2 [(0, .ref (q.1 130 0))] → WW X q s 73 ls []) (fun y : (Nat × Nat) => ∀ q : PL, Exq (xP X) [118, 146, 154] q0 q → Rmq (xP X) q y → ∀ ls : Array Slot, lv_has ls 2 [(0, .ref (q.1 130 0))] → WW X q s 106 ls []))) e) (fun x s o hb hc => lp_Bu_makeOfBytes_L10 (q0 := q0) g x s o hb hc) hw ?_ q hx0 hm ls (lv_sub hl [1, 0] rfl)
  clear hw hl hx0 hm
  clear ls
  generalize s1 = s at h ⊢
  rcases e10 with y10_34 | y10_73 | y10_106
  · intro qL10 hx0 hm ls hl
    dsimp only [Sum.elim_inl, Sum.elim_inr] at h
    refine ww_aload_n (pc := 34) g.1 d_Bu_makeOfBytes_34 rfl (lv_at hl 0 rfl) ?_
    refine ww_gR (pc := 35) g (k := 2) cl_Bu (pz rfl (by decide)) (by decide) (Or.inl kw_995) (f := 16642) (t := 128) rfl rfl rfl d_Bu_makeOfBytes_35 ?_
    refine ww_iconst (pc := 38) g.1 (v := 3) d_Bu_makeOfBytes_38 (by decide) ?_
    obtain ⟨v39, s, hc39, h⟩ := oB_of h
    refine ww_callV (pc := 39) (rest := []) g cv_Ma_fail (Or.inl kw_1144) cl_Ma (pz rfl (by decide)) (ct_Ma_fail hc39) ⟨by decide, by decide⟩ rfl hl.1 (Nat.le_of_ble_eq_true rfl) d_Bu_makeOfBytes_39 rfl (?_)
    refine ww_st (st' := []) rfl ?_
    exact ww_vretX (pc := 42) g h hR hx0 hm d_Bu_makeOfBytes_42
  · intro qL10 hx0 hm ls hl
    dsimp only [Sum.elim_inl, Sum.elim_inr] at h
    exact j_Bu_makeOfBytes_j73 g hR hx0 y10_73 hm s ls (lv_sub hl [0] rfl) h
  · intro qL10 hx0 hm ls hl
    dsimp only [Sum.elim_inl, Sum.elim_inr] at h
    refine ww_aload_n (pc := 106) g.1 d_Bu_makeOfBytes_106 rfl (lv_at hl 0 rfl) ?_
    refine ww_iconst (pc := 107) g.1 (v := 4) d_Bu_makeOfBytes_107 (by decide) ?_
    refine ww_aload_n (pc := 108) g.1 d_Bu_makeOfBytes_108 rfl (lv_at hl 0 rfl) ?_
    refine ww_gR (pc := 109) g (k := 3) cl_Bu (pz rfl (by decide)) (by decide) (Or.inl kw_974) (f := 16643) (t := 111) rfl rfl rfl d_Bu_makeOfBytes_109 ?_
    refine ww_aload_n (pc := 112) g.1 d_Bu_makeOfBytes_112 rfl (lv_at hl 0 rfl) ?_
    refine ww_gR (pc := 113) g (k := 3) cl_Bu (pz rfl (by decide)) (by decide) (Or.inl kw_974) (f := 16643) (t := 111) rfl rfl rfl d_Bu_makeOfBytes_113 ?_
    refine ww_gR (pc := 116) g (k := 8) cl_He (pz rfl (by decide)) (by decide) (Or.inl kw_1506) (f := 14216) (t := 118) rfl rfl rfl d_Bu_makeOfBytes_116 ?_
    refine ww_iconst (pc := 119) g.1 (v := 0) d_Bu_makeOfBytes_119 (by decide) ?_
    refine ww_aload_n (pc := 120) g.1 d_Bu_makeOfBytes_120 rfl (lv_at hl 0 rfl) ?_
    refine ww_gR (pc := 121) g (k := 3) cl_Bu (pz rfl (by decide)) (by decide) (Or.inl kw_974) (f := 16643) (t := 111) rfl rfl rfl d_Bu_makeOfBytes_121 ?_
    refine ww_gI (pc := 124) g (k := 9) cl_He (pz rfl (by decide)) (by decide) (Or.inl kw_1493) (f := 14217) rfl rfl d_Bu_makeOfBytes_124 h fun v124 h => ?_
    refine ww_lo fun dlo => ?_
    obtain ⟨v127, s, hc127, h⟩ := oB_of h
    refine ww_callVX (pc := 127) (rest := [.int 4, .ref (qL10.1 130 0)]) g cv_He_intern (Or.inl kw_1525) cl_He (pz rfl (by decide)) (ct_He_intern rfl (by decide) (pz rfl (by decide)) hm hc127) ⟨by decide, by decide⟩ rfl hl.1 (Nat.le_of_ble_eq_true rfl) d_Bu_makeOfBytes_127 rfl (fun q127 hE hm => ?_)
    have hl : lv_has ls 2 [] := lv_sub hl [] rfl
    have ex127_0 : q127.1 130 0 = qL10.1 130 0 := hE _ _ (by decide) (dlo _ _ (pz rfl (by decide)))
    refine ww_st (st' := [.int v127.1, .int 4, .ref (q127.1 130 0)]) (by first | (rw [ex127_0]; done) | (rw [ex127_0]; rfl)) ?_
    have hx0 : Exq (xP X) [118, 146, 154] _ q127 := hx0.tr (hE.sub (by decide))
    obtain ⟨v130, s, hc130, h⟩ := oB_of h
    refine ww_callV (pc := 130) (rest := []) g cv_Bu_addMade (Or.inl kw_1399) cl_Bu (pz rfl (by decide)) (ct_Bu_addMade hc130) ⟨by decide, by decide⟩ rfl hl.1 (Nat.le_of_ble_eq_true rfl) d_Bu_makeOfBytes_130 rfl (?_)
    refine ww_st (st' := []) rfl ?_
    exact ww_vretX (pc := 133) g h hR hx0 hm d_Bu_makeOfBytes_133


