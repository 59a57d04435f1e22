abbrev b_Mo_markRow : ByteArray := prog_14_method_46_code
def y_Mo_markRow : MethodName := ⟨R_Mo, "markRow", "(LLuaMachineModel$Values;II)V"⟩
abbrev w_Mo_markRow : List Cond := .code y_Mo_markRow b_Mo_markRow 5 none :: wA
theorem k_Mo_markRow : Cond.code y_Mo_markRow b_Mo_markRow 5 none ∈ wA := kinm (show _ ∈ tables_1 from (List.mem_append_right _ (List.mem_append_right _ (List.mem_append_right _ (List.mem_append_right _ (List.mem_append_right _ (List.mem_append_right _ (List.mem_append_right _ (List.mem_append_right _ (List.mem_append_right _ (List.mem_append_right _ (List.mem_append_right _ (List.mem_append_left _ (List.mem_of_getElem? (l := tables_1_12) (i := 15) (by decide +kernel))))))))))))))) (by decide +kernel)
theorem d_Mo_markRow_0 : decode b_Mo_markRow 0 = .ok (.iload_n 2, 1) := by decide +kernel
theorem d_Mo_markRow_1 : decode b_Mo_markRow 1 = .ok (.istore 4, 2) := by decide +kernel
theorem d_Mo_markRow_3 : decode b_Mo_markRow 3 = .ok (.iload 4, 2) := by decide +kernel
theorem d_Mo_markRow_5 : decode b_Mo_markRow 5 = .ok (.iload_n 2, 1) := by decide +kernel
theorem d_Mo_markRow_6 : decode b_Mo_markRow 6 = .ok (.iload_n 3, 1) := by decide +kernel
theorem d_Mo_markRow_7 : decode b_Mo_markRow 7 = .ok (.iadd, 1) := by decide +kernel
theorem d_Mo_markRow_8 : decode b_Mo_markRow 8 = .ok (.if_icmp .ge 27, 3) := by decide +kernel
theorem d_Mo_markRow_11 : decode b_Mo_markRow 11 = .ok (.aload_n 0, 1) := by decide +kernel
theorem d_Mo_markRow_12 : decode b_Mo_markRow 12 = .ok (.aload_n 1, 1) := by decide +kernel
theorem d_Mo_markRow_13 : decode b_Mo_markRow 13 = .ok (.getfield 585, 3) := by decide +kernel
theorem d_Mo_markRow_16 : decode b_Mo_markRow 16 = .ok (.iload 4, 2) := by decide +kernel
theorem d_Mo_markRow_18 : decode b_Mo_markRow 18 = .ok (.baload, 1) := by decide +kernel
theorem d_Mo_markRow_19 : decode b_Mo_markRow 19 = .ok (.aload_n 1, 1) := by decide +kernel
theorem d_Mo_markRow_20 : decode b_Mo_markRow 20 = .ok (.getfield 588, 3) := by decide +kernel
theorem d_Mo_markRow_23 : decode b_Mo_markRow 23 = .ok (.iload 4, 2) := by decide +kernel
theorem d_Mo_markRow_25 : decode b_Mo_markRow 25 = .ok (.laload, 1) := by decide +kernel
theorem d_Mo_markRow_26 : decode b_Mo_markRow 26 = .ok (.invokevirtual 609, 3) := by decide +kernel
theorem d_Mo_markRow_29 : decode b_Mo_markRow 29 = .ok (.iinc 4 1, 3) := by decide +kernel
theorem d_Mo_markRow_32 : decode b_Mo_markRow 32 = .ok (.goto (-29), 3) := by decide +kernel
theorem d_Mo_markRow_35 : decode b_Mo_markRow 35 = .ok (.return_, 1) := by decide +kernel
theorem kw_320 : Cond.methodLink R_Mo 609 y_Mo_mark ∈ wA := kinm (show _ ∈ tables_1 from (List.mem_append_right _ (List.mem_append_right _ (List.mem_append_right _ (List.mem_append_right _ (List.mem_append_right _ (List.mem_append_right _ (List.mem_append_right _ (List.mem_append_right _ (List.mem_append_right _ (List.mem_append_right _ (List.mem_append_right _ (List.mem_append_left _ (List.mem_of_getElem? (l := tables_1_12) (i := 16) (by decide +kernel))))))))))))))) (by decide +kernel)
theorem kw_321 : Cond.instanceMethod y_Mo_markRow ∈ wA := kinm (show _ ∈ tables_1 from (List.mem_append_right _ (List.mem_append_right _ (List.mem_append_right _ (List.mem_append_right _ (List.mem_append_right _ (List.mem_append_right _ (List.mem_append_right _ (List.mem_append_right _ (List.mem_append_right _ (List.mem_append_right _ (List.mem_append_right _ (List.mem_append_left _ (List.mem_of_getElem? (l := tables_1_12) (i := 14) (by decide +kernel))))))))))))))) (by decide +kernel)
theorem kw_322 : Cond.selects R_Mo y_Mo_markRow y_Mo_markRow ∈ wA := kinp 131 (by decide +kernel) (by decide +kernel)
theorem cv_Mo_markRow : CV y_Mo_markRow b_Mo_markRow 5 none 3 := ⟨kw_321, kw_322, kw_17, k_Mo_markRow, by decide +kernel⟩
theorem lp_Mo_markRow_L3 {X : Cx} {q : PL} (g : Gd X y_Mo_markRow b_Mo_markRow 5 none 2 44 R_Mo) (x : Nat × Int32 × Int32 × Int32 × Int32) (s : S1) (o : ((Nat × Int32 × Int32 × Int32 × Int32) ⊕ ((Unit))) × S1) (h : M_Mo_markRow_L3 x s = some o) (hR : (Sum.elim (fun y : Nat × Int32 × Int32 × Int32 × Int32 => ∀ ls : Array Slot, (VOK y.1 y.2.1) → lv_has ls 5 [(0, .ref (q.1 0 0)), (1, .ref (q.1 y.1 y.2.1)), (2, .int y.2.2.1), (3, .int y.2.2.2.1), (4, .int y.2.2.2.2)] → WW X q o.2 3 ls []) (fun y : Unit => ∀ ls : Array Slot, lv_has ls 5 [] → WW X q o.2 35 ls []) o.1)) : ∀ ls : Array Slot, (VOK x.1 x.2.1) → lv_has ls 5 [(0, .ref (q.1 0 0)), (1, .ref (q.1 x.1 x.2.1)), (2, .int x.2.2.1), (3, .int x.2.2.2.1), (4, .int x.2.2.2.2)] → WW X q s 3 ls [] := by
  intro ls hp0 hl
  unfold M_Mo_markRow_L3 at h
  refine ww_iload (pc := 3) g.1 d_Mo_markRow_3 (lv_at hl 4 rfl) ?_
  refine ww_iload_n (pc := 5) g.1 d_Mo_markRow_5 rfl (lv_at hl 2 rfl) ?_
  refine ww_iload_n (pc := 6) g.1 d_Mo_markRow_6 rfl (lv_at hl 3 rfl) ?_
  refine ww_iadd (pc := 7) g.1 d_Mo_markRow_7 ?_
  refine ww_icmp_ge (pc := 8) (tgt := 35) g.1 d_Mo_markRow_8 (by decide) h (fun c h => ?_) (fun c h => ?_)
  · rw [oR_eq h] at hR
    exact hR ls (lv_sub hl [] rfl)
  · refine ww_aload_n (pc := 11) g.1 d_Mo_markRow_11 rfl (lv_at hl 0 rfl) ?_
    refine ww_aload_n (pc := 12) g.1 d_Mo_markRow_12 rfl (lv_at hl 1 rfl) ?_
    refine ww_gR (pc := 13) g (k := 0) (cl_Va hp0) (vok_p hp0).1 (by rw [(vok_f hp0).1.2.2]; decide) (Or.inl kw_90) (f := (128 * x.1 + 0)) (t := x.1 + 1) rfl (vok_f hp0).2.1.1 (vok_f hp0).2.1.2 d_Mo_markRow_13 ?_
    refine ww_iload (pc := 16) g.1 d_Mo_markRow_16 (lv_at hl 4 rfl) ?_
    refine ww_ab (pc := 18) g (vok_p hp0).2.1 (vok_f hp0).2.2.2.2.1 (vok_n hp0).1 d_Mo_markRow_18 h fun v18 h => ?_
    refine ww_aload_n (pc := 19) g.1 d_Mo_markRow_19 rfl (lv_at hl 1 rfl) ?_
    refine ww_gR (pc := 20) g (k := 1) (cl_Va hp0) (vok_p hp0).1 (by rw [(vok_f hp0).1.2.2]; decide) (Or.inl kw_93) (f := (128 * x.1 + 1)) (t := x.1 + 2) rfl (vok_f hp0).2.2.1.1 (vok_f hp0).2.2.1.2 d_Mo_markRow_20 ?_
    refine ww_iload (pc := 23) g.1 d_Mo_markRow_23 (lv_at hl 4 rfl) ?_
    refine ww_al (pc := 25) g (vok_p hp0).2.2 (vok_f hp0).2.2.2.2.2 (vok_n hp0).2 d_Mo_markRow_25 h fun v25 h => ?_
    obtain ⟨v26, s, hc26, h⟩ := oB_of h
    refine ww_callV (pc := 26) (rest := []) g cv_Mo_mark (Or.inl kw_320) cl_Mo (pz rfl (by decide)) (ct_Mo_mark hc26) ⟨by decide, by decide⟩ rfl hl.1 (Nat.le_of_ble_eq_true rfl) d_Mo_markRow_26 rfl ?_
    refine ww_st (st' := []) rfl ?_
    refine ww_iinc (pc := 29) g.1 (v := x.2.2.2.2 + 1) (lv' := [(4, .int (x.2.2.2.2 + 1)), (0, .ref (q.1 0 0)), (1, .ref (q.1 x.1 x.2.1)), (2, .int x.2.2.1), (3, .int x.2.2.2.1)]) d_Mo_markRow_29 hl (k := 4) rfl (by rfl) (by decide) rfl fun ls hl => ?_
    refine ww_goto (pc := 32) (tgt := 3) g.1 d_Mo_markRow_32 (by decide) ?_
    rw [oR_eq h] at hR
    exact hR ls hp0 (lv_sub hl [1, 2, 3, 4, 0] rfl)

theorem ct_Mo_markRow {l : Launch} {P : PP} {q : PL} {s s' : S1} {l1r : Nat} {l1 : Int32} {l2 : Int32} {l3 : Int32} (hp0 : VOK l1r l1) {r : Unit} (h : M_Mo_markRow l1r l1 l2 l3 s = some (r, s')) : Ct l y_Mo_markRow b_Mo_markRow 5 none 2 44 P q s [.ref (q.1 0 0), .ref (q.1 l1r l1), .int l2, .int l3] none q s' := by
  refine ct_of (by decide) (Nat.le_of_ble_eq_true rfl) fun X ls eP el g hR hl => ?_
  subst eP
  have hR : Rt X q ((r, s') : Unit × S1).2 none := hR
  have hl : lv_has ls 5 [(0, .ref (q.1 0 0)), (1, .ref (q.1 l1r l1)), (2, .int l2), (3, .int l3)] := hl
  generalize (r, s') = o at h hR
  unfold M_Mo_markRow at h
  refine ww_iload_n (pc := 0) g.1 d_Mo_markRow_0 rfl (lv_at hl 2 rfl) ?_
  refine ww_istore (pc := 1) (i := 4) g.1 (lv' := [(4, .int l2), (0, .ref (q.1 0 0)), (1, .ref (q.1 l1r l1)), (2, .int l2), (3, .int l3)]) d_Mo_markRow_1 hl (by decide) rfl fun ls hl => ?_
  obtain ⟨e3, s1, hw, h⟩ := oB_of h
  refine oW_rule (Wh := fun (x : Nat × Int32 × Int32 × Int32 × Int32) (s : S1) => ∀ ls : Array Slot, (VOK x.1 x.2.1) → lv_has ls 5 [(0, .ref (q.1 0 0)), (1, .ref (q.1 x.1 x.2.1)), (2, .int x.2.2.1), (3, .int x.2.2.2.1), (4, .int x.2.2.2.2)] → WW X q s 3 ls []) (We := fun (e : (Unit)) (s : S1) => ∀ ls : Array Slot, lv_has ls 5 [] → WW X q s 35 ls []) (fun x s o hb hc => lp_Mo_markRow_L3 (q := q) g x s o hb hc) hw ?_ ls hp0 (lv_sub hl [1, 2, 3, 4, 0] rfl)
  clear hw hl
  clear ls
  intro ls hl
  generalize s1 = s at h ⊢
  exact ww_vretH (pc := 35) g h hR d_Mo_markRow_35

abbrev b_Th_reach : ByteArray := prog_15_method_4_code
def y_Th_reach : MethodName := ⟨R_Th, "reach", "(LLuaMachineModel;)V"⟩
abbrev w_Th_reach : List Cond := .code y_Th_reach b_Th_reach 3 none :: wA
set_option maxRecDepth 20000 in
theorem k_Th_reach : Cond.code y_Th_reach b_Th_reach 3 none ∈ wA := kinm (show _ ∈ tables_1 from (List.mem_append_right _ (List.mem_append_right _ (List.mem_append_right _ (List.mem_append_right _ (List.mem_append_right _ (List.mem_append_right _ (List.mem_append_right _ (List.mem_append_right _ (List.mem_append_right _ (List.mem_append_right _ (List.mem_append_right _ (List.mem_append_left _ (List.mem_of_getElem? (l := tables_1_12) (i := 31) rfl)))))))))))))) rfl
theorem d_Th_reach_0 : decode b_Th_reach 0 = .ok (.aload_n 1, 1) := by decide +kernel
theorem d_Th_reach_1 : decode b_Th_reach 1 = .ok (.aload_n 0, 1) := by decide +kernel
theorem d_Th_reach_2 : decode b_Th_reach 2 = .ok (.getfield 45, 3) := by decide +kernel
theorem d_Th_reach_5 : decode b_Th_reach 5 = .ok (.iconst 0, 1) := by decide +kernel
theorem d_Th_reach_6 : decode b_Th_reach 6 = .ok (.aload_n 0, 1) := by decide +kernel
theorem d_Th_reach_7 : decode b_Th_reach 7 = .ok (.getfield 45, 3) := by decide +kernel
theorem d_Th_reach_10 : decode b_Th_reach 10 = .ok (.getfield 85, 3) := by decide +kernel
theorem d_Th_reach_13 : decode b_Th_reach 13 = .ok (.invokevirtual 88, 3) := by decide +kernel
theorem d_Th_reach_16 : decode b_Th_reach 16 = .ok (.iconst 0, 1) := by decide +kernel
theorem d_Th_reach_17 : decode b_Th_reach 17 = .ok (.istore_n 2, 1) := by decide +kernel
theorem d_Th_reach_18 : decode b_Th_reach 18 = .ok (.iload_n 2, 1) := by decide +kernel
theorem d_Th_reach_19 : decode b_Th_reach 19 = .ok (.aload_n 0, 1) := by decide +kernel
theorem d_Th_reach_20 : decode b_Th_reach 20 = .ok (.getfield 16, 3) := by decide +kernel
theorem d_Th_reach_23 : decode b_Th_reach 23 = .ok (.if_icmp .ge 109, 3) := by decide +kernel
theorem d_Th_reach_26 : decode b_Th_reach 26 = .ok (.aload_n 0, 1) := by decide +kernel
theorem d_Th_reach_27 : decode b_Th_reach 27 = .ok (.getfield 55, 3) := by decide +kernel
theorem d_Th_reach_30 : decode b_Th_reach 30 = .ok (.iload_n 2, 1) := by decide +kernel
theorem d_Th_reach_31 : decode b_Th_reach 31 = .ok (.iaload, 1) := by decide +kernel
theorem d_Th_reach_32 : decode b_Th_reach 32 = .ok (.ifCond .lt 13, 3) := by decide +kernel
theorem d_Th_reach_35 : decode b_Th_reach 35 = .ok (.aload_n 1, 1) := by decide +kernel
theorem d_Th_reach_36 : decode b_Th_reach 36 = .ok (.aload_n 0, 1) := by decide +kernel
theorem d_Th_reach_37 : decode b_Th_reach 37 = .ok (.getfield 55, 3) := by decide +kernel
theorem d_Th_reach_40 : decode b_Th_reach 40 = .ok (.iload_n 2, 1) := by decide +kernel
theorem d_Th_reach_41 : decode b_Th_reach 41 = .ok (.iaload, 1) := by decide +kernel
theorem d_Th_reach_42 : decode b_Th_reach 42 = .ok (.invokevirtual 94, 3) := by decide +kernel
theorem d_Th_reach_45 : decode b_Th_reach 45 = .ok (.aload_n 0, 1) := by decide +kernel
theorem d_Th_reach_46 : decode b_Th_reach 46 = .ok (.getfield 52, 3) := by decide +kernel
theorem d_Th_reach_49 : decode b_Th_reach 49 = .ok (.iload_n 2, 1) := by decide +kernel
theorem d_Th_reach_50 : decode b_Th_reach 50 = .ok (.iaload, 1) := by decide +kernel
theorem d_Th_reach_51 : decode b_Th_reach 51 = .ok (.ifCond .eq 6, 3) := by decide +kernel
theorem d_Th_reach_54 : decode b_Th_reach 54 = .ok (.goto 72, 3) := by decide +kernel
theorem d_Th_reach_57 : decode b_Th_reach 57 = .ok (.aload_n 1, 1) := by decide +kernel
theorem d_Th_reach_58 : decode b_Th_reach 58 = .ok (.aload_n 0, 1) := by decide +kernel
theorem d_Th_reach_59 : decode b_Th_reach 59 = .ok (.getfield 38, 3) := by decide +kernel
theorem d_Th_reach_62 : decode b_Th_reach 62 = .ok (.aload_n 0, 1) := by decide +kernel
theorem d_Th_reach_63 : decode b_Th_reach 63 = .ok (.getfield 61, 3) := by decide +kernel
theorem d_Th_reach_66 : decode b_Th_reach 66 = .ok (.iload_n 2, 1) := by decide +kernel
theorem d_Th_reach_67 : decode b_Th_reach 67 = .ok (.iaload, 1) := by decide +kernel
theorem d_Th_reach_68 : decode b_Th_reach 68 = .ok (.aload_n 0, 1) := by decide +kernel
theorem d_Th_reach_69 : decode b_Th_reach 69 = .ok (.getfield 64, 3) := by decide +kernel
theorem d_Th_reach_72 : decode b_Th_reach 72 = .ok (.iload_n 2, 1) := by decide +kernel
theorem d_Th_reach_73 : decode b_Th_reach 73 = .ok (.iaload, 1) := by decide +kernel
theorem d_Th_reach_74 : decode b_Th_reach 74 = .ok (.isub, 1) := by decide +kernel
theorem d_Th_reach_75 : decode b_Th_reach 75 = .ok (.aload_n 1, 1) := by decide +kernel
theorem d_Th_reach_76 : decode b_Th_reach 76 = .ok (.getfield 96, 3) := by decide +kernel
theorem d_Th_reach_79 : decode b_Th_reach 79 = .ok (.aload_n 1, 1) := by decide +kernel
theorem d_Th_reach_80 : decode b_Th_reach 80 = .ok (.getfield 99, 3) := by decide +kernel
theorem d_Th_reach_83 : decode b_Th_reach 83 = .ok (.aload_n 0, 1) := by decide +kernel
theorem d_Th_reach_84 : decode b_Th_reach 84 = .ok (.getfield 55, 3) := by decide +kernel
theorem d_Th_reach_87 : decode b_Th_reach 87 = .ok (.iload_n 2, 1) := by decide +kernel
theorem d_Th_reach_88 : decode b_Th_reach 88 = .ok (.iaload, 1) := by decide +kernel
theorem d_Th_reach_89 : decode b_Th_reach 89 = .ok (.iaload, 1) := by decide +kernel
theorem d_Th_reach_90 : decode b_Th_reach 90 = .ok (.iaload, 1) := by decide +kernel
theorem d_Th_reach_91 : decode b_Th_reach 91 = .ok (.aload_n 0, 1) := by decide +kernel
theorem d_Th_reach_92 : decode b_Th_reach 92 = .ok (.getfield 64, 3) := by decide +kernel
theorem d_Th_reach_95 : decode b_Th_reach 95 = .ok (.iload_n 2, 1) := by decide +kernel
theorem d_Th_reach_96 : decode b_Th_reach 96 = .ok (.iaload, 1) := by decide +kernel
theorem d_Th_reach_97 : decode b_Th_reach 97 = .ok (.iadd, 1) := by decide +kernel
theorem d_Th_reach_98 : decode b_Th_reach 98 = .ok (.invokevirtual 88, 3) := by decide +kernel
theorem d_Th_reach_101 : decode b_Th_reach 101 = .ok (.iload_n 2, 1) := by decide +kernel
theorem d_Th_reach_102 : decode b_Th_reach 102 = .ok (.aload_n 0, 1) := by decide +kernel
theorem d_Th_reach_103 : decode b_Th_reach 103 = .ok (.getfield 16, 3) := by decide +kernel
theorem d_Th_reach_106 : decode b_Th_reach 106 = .ok (.iconst 1, 1) := by decide +kernel
theorem d_Th_reach_107 : decode b_Th_reach 107 = .ok (.isub, 1) := by decide +kernel
theorem d_Th_reach_108 : decode b_Th_reach 108 = .ok (.if_icmp .ne 18, 3) := by decide +kernel
theorem d_Th_reach_111 : decode b_Th_reach 111 = .ok (.aload_n 1, 1) := by decide +kernel
theorem d_Th_reach_112 : decode b_Th_reach 112 = .ok (.aload_n 0, 1) := by decide +kernel
theorem d_Th_reach_113 : decode b_Th_reach 113 = .ok (.getfield 42, 3) := by decide +kernel
theorem d_Th_reach_116 : decode b_Th_reach 116 = .ok (.iconst 0, 1) := by decide +kernel
theorem d_Th_reach_117 : decode b_Th_reach 117 = .ok (.aload_n 0, 1) := by decide +kernel
theorem d_Th_reach_118 : decode b_Th_reach 118 = .ok (.getfield 70, 3) := by decide +kernel
theorem d_Th_reach_121 : decode b_Th_reach 121 = .ok (.iload_n 2, 1) := by decide +kernel
theorem d_Th_reach_122 : decode b_Th_reach 122 = .ok (.iaload, 1) := by decide +kernel
theorem d_Th_reach_123 : decode b_Th_reach 123 = .ok (.invokevirtual 88, 3) := by decide +kernel
theorem d_Th_reach_126 : decode b_Th_reach 126 = .ok (.iinc 2 1, 3) := by decide +kernel
theorem d_Th_reach_129 : decode b_Th_reach 129 = .ok (.goto (-111), 3) := by decide +kernel
theorem d_Th_reach_132 : decode b_Th_reach 132 = .ok (.iconst 0, 1) := by decide +kernel
theorem d_Th_reach_133 : decode b_Th_reach 133 = .ok (.istore_n 2, 1) := by decide +kernel
theorem d_Th_reach_134 : decode b_Th_reach 134 = .ok (.iload_n 2, 1) := by decide +kernel
theorem d_Th_reach_135 : decode b_Th_reach 135 = .ok (.aload_n 0, 1) := by decide +kernel
theorem d_Th_reach_136 : decode b_Th_reach 136 = .ok (.getfield 19, 3) := by decide +kernel
theorem d_Th_reach_139 : decode b_Th_reach 139 = .ok (.if_icmp .ge 19, 3) := by decide +kernel
theorem d_Th_reach_142 : decode b_Th_reach 142 = .ok (.aload_n 1, 1) := by decide +kernel
theorem d_Th_reach_143 : decode b_Th_reach 143 = .ok (.aload_n 0, 1) := by decide +kernel
theorem d_Th_reach_144 : decode b_Th_reach 144 = .ok (.getfield 48, 3) := by decide +kernel
theorem d_Th_reach_147 : decode b_Th_reach 147 = .ok (.iload_n 2, 1) := by decide +kernel
theorem d_Th_reach_148 : decode b_Th_reach 148 = .ok (.iaload, 1) := by decide +kernel
theorem d_Th_reach_149 : decode b_Th_reach 149 = .ok (.invokevirtual 94, 3) := by decide +kernel
theorem d_Th_reach_152 : decode b_Th_reach 152 = .ok (.iinc 2 1, 3) := by decide +kernel
theorem d_Th_reach_155 : decode b_Th_reach 155 = .ok (.goto (-21), 3) := by decide +kernel
theorem d_Th_reach_158 : decode b_Th_reach 158 = .ok (.return_, 1) := by decide +kernel
theorem nw_Th_88 : Cond.methodLinkNest R_Th 88 y_Mo_markRow "LuaMachineModel" ∈ xW := xinm (show _ ∈ tables_1 from (List.mem_append_right _ (List.mem_append_right _ (List.mem_append_right _ (List.mem_append_right _ (List.mem_append_right _ (List.mem_append_right _ (List.mem_append_right _ (List.mem_append_right _ (List.mem_append_right _ (List.mem_append_right _ (List.mem_append_right _ (List.mem_append_left _ (List.mem_of_getElem? (l := tables_1_12) (i := 32) (by decide +kernel))))))))))))))) (by decide +kernel)
theorem kw_324 : Cond.fieldLink R_Th 55 "LuaMachineModel$Thread_" "function" "[I" ∈ wA := kinm (show _ ∈ tables_1 from (List.mem_append_right _ (List.mem_append_right _ (List.mem_append_right _ (List.mem_append_right _ (List.mem_append_right _ (List.mem_append_right _ (List.mem_append_right _ (List.mem_append_right _ (List.mem_append_left _ (List.mem_of_getElem? (l := tables_1_9) (i := 228) (by decide +kernel)))))))))))) (by decide +kernel)
theorem kw_325 : Cond.fieldLink R_Th 52 "LuaMachineModel$Thread_" "kind" "[I" ∈ wA := kinm (show _ ∈ tables_1 from (List.mem_append_right _ (List.mem_append_right _ (List.mem_append_right _ (List.mem_append_right _ (List.mem_append_right _ (List.mem_append_right _ (List.mem_append_right _ (List.mem_append_right _ (List.mem_append_left _ (List.mem_of_getElem? (l := tables_1_9) (i := 226) (by decide +kernel)))))))))))) (by decide +kernel)
theorem kw_326 : Cond.fieldLink R_Th 38 "LuaMachineModel$Thread_" "stack" "LLuaMachineModel$Values;" ∈ wA := kinm (show _ ∈ tables_1 from (List.mem_append_right _ (List.mem_append_right _ (List.mem_append_right _ (List.mem_append_right _ (List.mem_append_right _ (List.mem_append_right _ (List.mem_append_right _ (List.mem_append_right _ (List.mem_append_left _ (List.mem_of_getElem? (l := tables_1_9) (i := 218) (by decide +kernel)))))))))))) (by decide +kernel)
theorem kw_327 : Cond.fieldLink R_Th 61 "LuaMachineModel$Thread_" "base" "[I" ∈ wA := kinm (show _ ∈ tables_1 from (List.mem_append_right _ (List.mem_append_right _ (List.mem_append_right _ (List.mem_append_right _ (List.mem_append_right _ (List.mem_append_right _ (List.mem_append_right _ (List.mem_append_right _ (List.mem_append_left _ (List.mem_of_getElem? (l := tables_1_9) (i := 232) (by decide +kernel)))))))))))) (by decide +kernel)
theorem kw_328 : Cond.fieldLink R_Th 64 "LuaMachineModel$Thread_" "extra" "[I" ∈ wA := kinm (show _ ∈ tables_1 from (List.mem_append_right _ (List.mem_append_right _ (List.mem_append_right _ (List.mem_append_right _ (List.mem_append_right _ (List.mem_append_right _ (List.mem_append_right _ (List.mem_append_right _ (List.mem_append_left _ (List.mem_of_getElem? (l := tables_1_9) (i := 234) (by decide +kernel)))))))))))) (by decide +kernel)
theorem nw_Th_96 : Cond.fieldLinkNest R_Th 96 "LuaMachineModel" "registers" "[I" "LuaMachineModel" ∈ xW := xinm (show _ ∈ tables_1 from (List.mem_append_right _ (List.mem_append_right _ (List.mem_append_right _ (List.mem_append_right _ (List.mem_append_right _ (List.mem_append_right _ (List.mem_append_right _ (List.mem_append_right _ (List.mem_append_right _ (List.mem_append_left _ (List.mem_of_getElem? (l := tables_1_10) (i := 63) (by decide +kernel))))))))))))) (by decide +kernel)
theorem nw_Th_99 : Cond.fieldLinkNest R_Th 99 "LuaMachineModel" "first" "[I" "LuaMachineModel" ∈ xW := xinm (show _ ∈ tables_1 from (List.mem_append_right _ (List.mem_append_right _ (List.mem_append_right _ (List.mem_append_right _ (List.mem_append_right _ (List.mem_append_right _ (List.mem_append_right _ (List.mem_append_right _ (List.mem_append_right _ (List.mem_append_left _ (List.mem_of_getElem? (l := tables_1_10) (i := 105) (by decide +kernel))))))))))))) (by decide +kernel)
theorem kw_331 : Cond.fieldLink R_Th 42 "LuaMachineModel$Thread_" "row" "LLuaMachineModel$Values;" ∈ wA := kinm (show _ ∈ tables_1 from (List.mem_append_right _ (List.mem_append_right _ (List.mem_append_right _ (List.mem_append_right _ (List.mem_append_right _ (List.mem_append_right _ (List.mem_append_right _ (List.mem_append_right _ (List.mem_append_left _ (List.mem_of_getElem? (l := tables_1_9) (i := 220) (by decide +kernel)))))))))))) (by decide +kernel)
theorem kw_332 : Cond.fieldLink R_Th 70 "LuaMachineModel$Thread_" "rowCount" "[I" ∈ wA := kinm (show _ ∈ tables_1 from (List.mem_append_right _ (List.mem_append_right _ (List.mem_append_right _ (List.mem_append_right _ (List.mem_append_right _ (List.mem_append_right _ (List.mem_append_right _ (List.mem_append_right _ (List.mem_append_left _ (List.mem_of_getElem? (l := tables_1_9) (i := 238) (by decide +kernel)))))))))))) (by decide +kernel)
theorem nw_Th_94 : Cond.methodLinkNest R_Th 94 y_Mo_place "LuaMachineModel" ∈ xW := xinm (show _ ∈ tables_1 from (List.mem_append_right _ (List.mem_append_right _ (List.mem_append_right _ (List.mem_append_right _ (List.mem_append_right _ (List.mem_append_right _ (List.mem_append_right _ (List.mem_append_right _ (List.mem_append_right _ (List.mem_append_right _ (List.mem_append_right _ (List.mem_append_left _ (List.mem_of_getElem? (l := tables_1_12) (i := 33) (by decide +kernel))))))))))))))) (by decide +kernel)
theorem kw_334 : Cond.fieldLink R_Th 48 "LuaMachineModel$Thread_" "open" "[I" ∈ wA := kinm (show _ ∈ tables_1 from (List.mem_append_right _ (List.mem_append_right _ (List.mem_append_right _ (List.mem_append_right _ (List.mem_append_right _ (List.mem_append_right _ (List.mem_append_right _ (List.mem_append_right _ (List.mem_append_left _ (List.mem_of_getElem? (l := tables_1_9) (i := 224) (by decide +kernel)))))))))))) (by decide +kernel)
theorem kw_335 : Cond.instanceMethod y_Th_reach ∈ wA := kinm (show _ ∈ tables_1 from (List.mem_append_right _ (List.mem_append_right _ (List.mem_append_right _ (List.mem_append_right _ (List.mem_append_right _ (List.mem_append_right _ (List.mem_append_right _ (List.mem_append_right _ (List.mem_append_right _ (List.mem_append_right _ (List.mem_append_right _ (List.mem_append_left _ (List.mem_of_getElem? (l := tables_1_12) (i := 29) (by decide +kernel))))))))))))))) (by decide +kernel)
theorem kw_336 : Cond.selects R_Th y_Th_reach y_Th_reach ∈ wA := kinm (show _ ∈ tables_1 from (List.mem_append_right _ (List.mem_append_right _ (List.mem_append_right _ (List.mem_append_right _ (List.mem_append_right _ (List.mem_append_right _ (List.mem_append_right _ (List.mem_append_right _ (List.mem_append_right _ (List.mem_append_right _ (List.mem_append_right _ (List.mem_append_left _ (List.mem_of_getElem? (l := tables_1_12) (i := 30) (by decide +kernel))))))))))))))) (by decide +kernel)
theorem cv_Th_reach : CV y_Th_reach b_Th_reach 3 none 1 := ⟨kw_335, kw_336, kw_147, k_Th_reach, by decide +kernel⟩
theorem j_Th_reach_j126 {X : Cx} {q : PL} (g : Gd X y_Th_reach b_Th_reach 3 none 3 68 R_Th) {o : ((Int32 × Int32) ⊕ ((Int32))) × S1} (hR : (Sum.elim (fun y : Int32 × Int32 => ∀ ls : Array Slot, (0 ≤ y.1 ∧ y.1 < 33) → lv_has ls 3 [(0, .ref (q.1 28 y.1)), (1, .ref (q.1 0 0)), (2, .int y.2)] → WW X q o.2 18 ls []) (fun y : Int32 => ∀ ls : Array Slot, (0 ≤ y ∧ y < 33) → lv_has ls 3 [(0, .ref (q.1 28 y)), (1, .ref (q.1 0 0))] → WW X q o.2 132 ls []) o.1)) (l0 : Int32) (l2 : Int32) (s : S1) (hp0 : 0 ≤ l0 ∧ l0 < 33) (ls : Array Slot) (hl : lv_has ls 3 [(0, .ref (q.1 28 l0)), (1, .ref (q.1 0 0)), (2, .int l2)]) (h : M_Th_reach_j126 l0 l2 s = some o) : WW X q s 126 ls [] := by
  unfold M_Th_reach_j126 at h
  refine ww_iinc (pc := 126) g.1 (v := l2 + 1) (lv' := [(2, .int (l2 + 1)), (0, .ref (q.1 28 l0)), (1, .ref (q.1 0 0))]) d_Th_reach_126 hl (k := 2) rfl (by rfl) (by decide) rfl fun ls hl => ?_
  refine ww_goto (pc := 129) (tgt := 18) g.1 d_Th_reach_129 (by decide) ?_
  rw [oR_eq h] at hR
  exact hR ls hp0 (lv_sub hl [1, 2, 0] rfl)

theorem j_Th_reach_j45 {X : Cx} {q : PL} (g : Gd X y_Th_reach b_Th_reach 3 none 3 68 R_Th) {o : ((Int32 × Int32) ⊕ ((Int32))) × S1} (hR : (Sum.elim (fun y : Int32 × Int32 => ∀ ls : Array Slot, (0 ≤ y.1 ∧ y.1 < 33) → lv_has ls 3 [(0, .ref (q.1 28 y.1)), (1, .ref (q.1 0 0)), (2, .int y.2)] → WW X q o.2 18 ls []) (fun y : Int32 => ∀ ls : Array Slot, (0 ≤ y ∧ y < 33) → lv_has ls 3 [(0, .ref (q.1 28 y)), (1, .ref (q.1 0 0))] → WW X q o.2 132 ls []) o.1)) (l0 : Int32) (l2 : Int32) (s : S1) (hp0 : 0 ≤ l0 ∧ l0 < 33) (ls : Array Slot) (hl : lv_has ls 3 [(0, .ref (q.1 28 l0)), (1, .ref (q.1 0 0)), (2, .int l2)]) (h : M_Th_reach_j45 l0 l2 s = some o) : WW X q s 45 ls [] := by
  unfold M_Th_reach_j45 at h
  refine ww_aload_n (pc := 45) g.1 d_Th_reach_45 rfl (lv_at hl 0 rfl) ?_
  refine ww_gR (pc := 46) g (k := 11) cl_Th (pt rfl rfl hp0) (by decide) (Or.inl kw_325) (f := 3595) (t := 30) rfl rfl rfl d_Th_reach_46 ?_
  refine ww_iload_n (pc := 49) g.1 d_Th_reach_49 rfl (lv_at hl 2 rfl) ?_
  refine ww_ai (pc := 50) g (pt rfl rfl hp0) rfl rfl d_Th_reach_50 h fun v50 h => ?_
  refine ww_if_eq (pc := 51) (tgt := 57) g.1 d_Th_reach_51 (by decide) h (fun c h => ?_) (fun c h => ?_)
  · refine ww_aload_n (pc := 57) g.1 d_Th_reach_57 rfl (lv_at hl 1 rfl) ?_
    refine ww_aload_n (pc := 58) g.1 d_Th_reach_58 rfl (lv_at hl 0 rfl) ?_
    refine ww_gR (pc := 59) g (k := 7) cl_Th (pt rfl rfl hp0) (by decide) (Or.inl kw_326) (f := 3591) (t := 19) rfl rfl rfl d_Th_reach_59 ?_
    refine ww_aload_n (pc := 62) g.1 d_Th_reach_62 rfl (lv_at hl 0 rfl) ?_
    refine ww_gR (pc := 63) g (k := 14) cl_Th (pt rfl rfl hp0) (by decide) (Or.inl kw_327) (f := 3598) (t := 33) rfl rfl rfl d_Th_reach_63 ?_
    refine ww_iload_n (pc := 66) g.1 d_Th_reach_66 rfl (lv_at hl 2 rfl) ?_
    refine ww_ai (pc := 67) g (pt rfl rfl hp0) rfl rfl d_Th_reach_67 h fun v67 h => ?_
    refine ww_aload_n (pc := 68) g.1 d_Th_reach_68 rfl (lv_at hl 0 rfl) ?_
    refine ww_gR (pc := 69) g (k := 15) cl_Th (pt rfl rfl hp0) (by decide) (Or.inl kw_328) (f := 3599) (t := 34) rfl rfl rfl d_Th_reach_69 ?_
    refine ww_iload_n (pc := 72) g.1 d_Th_reach_72 rfl (lv_at hl 2 rfl) ?_
    refine ww_ai (pc := 73) g (pt rfl rfl hp0) rfl rfl d_Th_reach_73 h fun v73 h => ?_
    refine ww_isub (pc := 74) g.1 d_Th_reach_74 ?_
    refine ww_aload_n (pc := 75) g.1 d_Th_reach_75 rfl (lv_at hl 1 rfl) ?_
    refine ww_gR (pc := 76) g (k := 8) cl_Mo (pz rfl (by decide)) (by decide) (Or.inr ⟨_, nw_Th_96⟩) (f := 8) (t := 44) rfl rfl rfl d_Th_reach_76 ?_
    refine ww_aload_n (pc := 79) g.1 d_Th_reach_79 rfl (lv_at hl 1 rfl) ?_
    refine ww_gR (pc := 80) g (k := 49) cl_Mo (pz rfl (by decide)) (by decide) (Or.inr ⟨_, nw_Th_99⟩) (f := 49) (t := 62) rfl rfl rfl d_Th_reach_80 ?_
    refine ww_aload_n (pc := 83) g.1 d_Th_reach_83 rfl (lv_at hl 0 rfl) ?_
    refine ww_gR (pc := 84) g (k := 12) cl_Th (pt rfl rfl hp0) (by decide) (Or.inl kw_324) (f := 3596) (t := 31) rfl rfl rfl d_Th_reach_84 ?_
    refine ww_iload_n (pc := 87) g.1 d_Th_reach_87 rfl (lv_at hl 2 rfl) ?_
    refine ww_ai (pc := 88) g (pt rfl rfl hp0) rfl rfl d_Th_reach_88 h fun v88 h => ?_
    refine ww_ai (pc := 89) g (pz rfl (by decide)) rfl rfl d_Th_reach_89 h fun v89 h => ?_
    refine ww_ai (pc := 90) g (pz rfl (by decide)) rfl rfl d_Th_reach_90 h fun v90 h => ?_
    refine ww_aload_n (pc := 91) g.1 d_Th_reach_91 rfl (lv_at hl 0 rfl) ?_
    refine ww_gR (pc := 92) g (k := 15) cl_Th (pt rfl rfl hp0) (by decide) (Or.inl kw_328) (f := 3599) (t := 34) rfl rfl rfl d_Th_reach_92 ?_
    refine ww_iload_n (pc := 95) g.1 d_Th_reach_95 rfl (lv_at hl 2 rfl) ?_
    refine ww_ai (pc := 96) g (pt rfl rfl hp0) rfl rfl d_Th_reach_96 h fun v96 h => ?_
    refine ww_iadd (pc := 97) g.1 d_Th_reach_97 ?_
    obtain ⟨v98, s, hc98, h⟩ := oB_of h
    refine ww_callV (pc := 98) (rest := []) g cv_Mo_markRow (Or.inr ⟨_, nw_Th_88⟩) cl_Mo (pz rfl (by decide)) (ct_Mo_markRow (Or.inr ⟨by decide, hp0⟩) hc98) ⟨by decide, by decide⟩ rfl hl.1 (Nat.le_of_ble_eq_true rfl) d_Th_reach_98 rfl ?_
    refine ww_st (st' := []) rfl ?_
    refine ww_iload_n (pc := 101) g.1 d_Th_reach_101 rfl (lv_at hl 2 rfl) ?_
    refine ww_aload_n (pc := 102) g.1 d_Th_reach_102 rfl (lv_at hl 0 rfl) ?_
    refine ww_gI (pc := 103) g (k := 2) cl_Th (pt rfl rfl hp0) (by decide) (Or.inl kw_138) (f := 3586) rfl rfl d_Th_reach_103 h fun v103 h => ?_
    refine ww_iconst (pc := 106) g.1 (v := 1) d_Th_reach_106 (by decide) ?_
    refine ww_isub (pc := 107) g.1 d_Th_reach_107 ?_
    refine ww_icmp_ne (pc := 108) (tgt := 126) g.1 d_Th_reach_108 (by decide) h (fun c h => ?_) (fun c h => ?_)
    · exact j_Th_reach_j126 g hR l0 l2 s hp0 ls (lv_sub hl [0, 1, 2] rfl) h
    · refine ww_aload_n (pc := 111) g.1 d_Th_reach_111 rfl (lv_at hl 1 rfl) ?_
      refine ww_aload_n (pc := 112) g.1 d_Th_reach_112 rfl (lv_at hl 0 rfl) ?_
      refine ww_gR (pc := 113) g (k := 8) cl_Th (pt rfl rfl hp0) (by decide) (Or.inl kw_331) (f := 3592) (t := 22) rfl rfl rfl d_Th_reach_113 ?_
      refine ww_iconst (pc := 116) g.1 (v := 0) d_Th_reach_116 (by decide) ?_
      refine ww_aload_n (pc := 117) g.1 d_Th_reach_117 rfl (lv_at hl 0 rfl) ?_
      refine ww_gR (pc := 118) g (k := 17) cl_Th (pt rfl rfl hp0) (by decide) (Or.inl kw_332) (f := 3601) (t := 36) rfl rfl rfl d_Th_reach_118 ?_
      refine ww_iload_n (pc := 121) g.1 d_Th_reach_121 rfl (lv_at hl 2 rfl) ?_
      refine ww_ai (pc := 122) g (pt rfl rfl hp0) rfl rfl d_Th_reach_122 h fun v122 h => ?_
      obtain ⟨v123, s, hc123, h⟩ := oB_of h
      refine ww_callV (pc := 123) (rest := []) g cv_Mo_markRow (Or.inr ⟨_, nw_Th_88⟩) cl_Mo (pz rfl (by decide)) (ct_Mo_markRow (Or.inr ⟨by decide, hp0⟩) hc123) ⟨by decide, by decide⟩ rfl hl.1 (Nat.le_of_ble_eq_true rfl) d_Th_reach_123 rfl ?_
      refine ww_st (st' := []) rfl ?_
      exact j_Th_reach_j126 g hR l0 l2 s hp0 ls (lv_sub hl [0, 1, 2] rfl) h
  · refine ww_goto (pc := 54) (tgt := 126) g.1 d_Th_reach_54 (by decide) ?_
    exact j_Th_reach_j126 g hR l0 l2 s hp0 ls (lv_sub hl [0, 1, 2] rfl) h

theorem lp_Th_reach_L18 {X : Cx} {q : PL} (g : Gd X y_Th_reach b_Th_reach 3 none 3 68 R_Th) (x : Int32 × Int32) (s : S1) (o : ((Int32 × Int32) ⊕ ((Int32))) × S1) (h : M_Th_reach_L18 x s = some o) (hR : (Sum.elim (fun y : Int32 × Int32 => ∀ ls : Array Slot, (0 ≤ y.1 ∧ y.1 < 33) → lv_has ls 3 [(0, .ref (q.1 28 y.1)), (1, .ref (q.1 0 0)), (2, .int y.2)] → WW X q o.2 18 ls []) (fun y : Int32 => ∀ ls : Array Slot, (0 ≤ y ∧ y < 33) → lv_has ls 3 [(0, .ref (q.1 28 y)), (1, .ref (q.1 0 0))] → WW X q o.2 132 ls []) o.1)) : ∀ ls : Array Slot, (0 ≤ x.1 ∧ x.1 < 33) → lv_has ls 3 [(0, .ref (q.1 28 x.1)), (1, .ref (q.1 0 0)), (2, .int x.2)] → WW X q s 18 ls [] := by
  intro ls hp0 hl
  unfold M_Th_reach_L18 at h
  refine ww_iload_n (pc := 18) g.1 d_Th_reach_18 rfl (lv_at hl 2 rfl) ?_
  refine ww_aload_n (pc := 19) g.1 d_Th_reach_19 rfl (lv_at hl 0 rfl) ?_
  refine ww_gI (pc := 20) g (k := 2) cl_Th (pt rfl rfl hp0) (by decide) (Or.inl kw_138) (f := 3586) rfl rfl d_Th_reach_20 h fun v20 h => ?_
  refine ww_icmp_ge (pc := 23) (tgt := 132) g.1 d_Th_reach_23 (by decide) h (fun c h => ?_) (fun c h => ?_)
  · rw [oR_eq h] at hR
    exact hR ls hp0 (lv_sub hl [0, 1] rfl)
  · refine ww_aload_n (pc := 26) g.1 d_Th_reach_26 rfl (lv_at hl 0 rfl) ?_
    refine ww_gR (pc := 27) g (k := 12) cl_Th (pt rfl rfl hp0) (by decide) (Or.inl kw_324) (f := 3596) (t := 31) rfl rfl rfl d_Th_reach_27 ?_
    refine ww_iload_n (pc := 30) g.1 d_Th_reach_30 rfl (lv_at hl 2 rfl) ?_
    refine ww_ai (pc := 31) g (pt rfl rfl hp0) rfl rfl d_Th_reach_31 h fun v31 h => ?_
    refine ww_if_lt (pc := 32) (tgt := 45) g.1 d_Th_reach_32 (by decide) h (fun c h => ?_) (fun c h => ?_)
    · exact j_Th_reach_j45 g hR x.1 x.2 s hp0 ls (lv_sub hl [0, 1, 2] rfl) h
    · refine ww_aload_n (pc := 35) g.1 d_Th_reach_35 rfl (lv_at hl 1 rfl) ?_
      refine ww_aload_n (pc := 36) g.1 d_Th_reach_36 rfl (lv_at hl 0 rfl) ?_
      refine ww_gR (pc := 37) g (k := 12) cl_Th (pt rfl rfl hp0) (by decide) (Or.inl kw_324) (f := 3596) (t := 31) rfl rfl rfl d_Th_reach_37 ?_
      refine ww_iload_n (pc := 40) g.1 d_Th_reach_40 rfl (lv_at hl 2 rfl) ?_
      refine ww_ai (pc := 41) g (pt rfl rfl hp0) rfl rfl d_Th_reach_41 h fun v41 h => ?_
      obtain ⟨v42, s, hc42, h⟩ := oB_of h
      refine ww_callV (pc := 42) (rest := []) g cv_Mo_place (Or.inr ⟨_, nw_Th_94⟩) cl_Mo (pz rfl (by decide)) (ct_Mo_place hc42) ⟨by decide, by decide⟩ rfl hl.1 (Nat.le_of_ble_eq_true rfl) d_Th_reach_42 rfl ?_
      refine ww_st (st' := []) rfl ?_
      exact j_Th_reach_j45 g hR x.1 x.2 s hp0 ls (lv_sub hl [0, 1, 2] rfl) h

theorem lp_Th_reach_L134 {X : Cx} {q : PL} (g : Gd X y_Th_reach b_Th_reach 3 none 3 68 R_Th) (x : Int32 × Int32) (s : S1) (o : ((Int32 × Int32) ⊕ ((Unit))) × S1) (h : M_Th_reach_L134 x s = some o) (hR : (Sum.elim (fun y : Int32 × Int32 => ∀ ls : Array Slot, (0 ≤ y.1 ∧ y.1 < 33) → lv_has ls 3 [(0, .ref (q.1 28 y.1)), (1, .ref (q.1 0 0)), (2, .int y.2)] → WW X q o.2 134 ls []) (fun y : Unit => ∀ ls : Array Slot, lv_has ls 3 [] → WW X q o.2 158 ls []) o.1)) : ∀ ls : Array Slot, (0 ≤ x.1 ∧ x.1 < 33) → lv_has ls 3 [(0, .ref (q.1 28 x.1)), (1, .ref (q.1 0 0)), (2, .int x.2)] → WW X q s 134 ls [] := by
  intro ls hp0 hl
  unfold M_Th_reach_L134 at h
  refine ww_iload_n (pc := 134) g.1 d_Th_reach_134 rfl (lv_at hl 2 rfl) ?_
  refine ww_aload_n (pc := 135) g.1 d_Th_reach_135 rfl (lv_at hl 0 rfl) ?_
  refine ww_gI (pc := 136) g (k := 3) cl_Th (pt rfl rfl hp0) (by decide) (Or.inl kw_139) (f := 3587) rfl rfl d_Th_reach_136 h fun v136 h => ?_
  refine ww_icmp_ge (pc := 139) (tgt := 158) g.1 d_Th_reach_139 (by decide) h (fun c h => ?_) (fun c h => ?_)
  · rw [oR_eq h] at hR
    exact hR ls (lv_sub hl [] rfl)
  · refine ww_aload_n (pc := 142) g.1 d_Th_reach_142 rfl (lv_at hl 1 rfl) ?_
    refine ww_aload_n (pc := 143) g.1 d_Th_reach_143 rfl (lv_at hl 0 rfl) ?_
    refine ww_gR (pc := 144) g (k := 10) cl_Th (pt rfl rfl hp0) (by decide) (Or.inl kw_334) (f := 3594) (t := 29) rfl rfl rfl d_Th_reach_144 ?_
    refine ww_iload_n (pc := 147) g.1 d_Th_reach_147 rfl (lv_at hl 2 rfl) ?_
    refine ww_ai (pc := 148) g (pt rfl rfl hp0) rfl rfl d_Th_reach_148 h fun v148 h => ?_
    obtain ⟨v149, s, hc149, h⟩ := oB_of h
    refine ww_callV (pc := 149) (rest := []) g cv_Mo_place (Or.inr ⟨_, nw_Th_94⟩) cl_Mo (pz rfl (by decide)) (ct_Mo_place hc149) ⟨by decide, by decide⟩ rfl hl.1 (Nat.le_of_ble_eq_true rfl) d_Th_reach_149 rfl ?_
    refine ww_st (st' := []) rfl ?_
    refine ww_iinc (pc := 152) g.1 (v := x.2 + 1) (lv' := [(2, .int (x.2 + 1)), (0, .ref (q.1 28 x.1)), (1, .ref (q.1 0 0))]) d_Th_reach_152 hl (k := 2) rfl (by rfl) (by decide) rfl fun ls hl => ?_
    refine ww_goto (pc := 155) (tgt := 134) g.1 d_Th_reach_155 (by decide) ?_
    rw [oR_eq h] at hR
    exact hR ls hp0 (lv_sub hl [1, 2, 0] rfl)

theorem ct_Th_reach {l : Launch} {P : PP} {q : PL} {s s' : S1} {l0 : Int32} (hp0 : 0 ≤ l0 ∧ l0 < 33) {r : Unit} (h : M_Th_reach l0 s = some (r, s')) : Ct l y_Th_reach b_Th_reach 3 none 3 68 P q s [.ref (q.1 28 l0), .ref (q.1 0 0)] none q s' := by
  refine ct_of (by decide) (Nat.le_of_ble_eq_true rfl) fun X ls eP el g hR hl => ?_
  subst eP
  have hR : Rt X q ((r, s') : Unit × S1).2 none := hR
  have hl : lv_has ls 3 [(0, .ref (q.1 28 l0)), (1, .ref (q.1 0 0))] := hl
  generalize (r, s') = o at h hR
  unfold M_Th_reach at h
  refine ww_aload_n (pc := 0) g.1 d_Th_reach_0 rfl (lv_at hl 1 rfl) ?_
  refine ww_aload_n (pc := 1) g.1 d_Th_reach_1 rfl (lv_at hl 0 rfl) ?_
  refine ww_gR (pc := 2) g (k := 9) cl_Th (pt rfl rfl hp0) (by decide) (Or.inl kw_143) (f := 3593) (t := 25) rfl rfl rfl d_Th_reach_2 ?_
  refine ww_iconst (pc := 5) g.1 (v := 0) d_Th_reach_5 (by decide) ?_
  refine ww_aload_n (pc := 6) g.1 d_Th_reach_6 rfl (lv_at hl 0 rfl) ?_
  refine ww_gR (pc := 7) g (k := 9) cl_Th (pt rfl rfl hp0) (by decide) (Or.inl kw_143) (f := 3593) (t := 25) rfl rfl rfl d_Th_reach_7 ?_
  refine ww_gI (pc := 10) g (k := 2) (cl_Va (Or.inr ⟨by decide, hp0⟩)) (pt rfl rfl hp0) (by decide) (Or.inl kw_144) (f := 3202) rfl rfl d_Th_reach_10 h fun v10 h => ?_
  obtain ⟨v13, s, hc13, h⟩ := oB_of h
  refine ww_callV (pc := 13) (rest := []) g cv_Mo_markRow (Or.inr ⟨_, nw_Th_88⟩) cl_Mo (pz rfl (by decide)) (ct_Mo_markRow (Or.inr ⟨by decide, hp0⟩) hc13) ⟨by decide, by decide⟩ rfl hl.1 (Nat.le_of_ble_eq_true rfl) d_Th_reach_13 rfl ?_
  refine ww_st (st' := []) rfl ?_
  refine ww_iconst (pc := 16) g.1 (v := 0) d_Th_reach_16 (by decide) ?_
  refine ww_istore_n (pc := 17) (i := 2) g.1 (lv' := [(2, .int 0), (0, .ref (q.1 28 l0)), (1, .ref (q.1 0 0))]) d_Th_reach_17 rfl hl (by decide) rfl fun ls hl => ?_
  obtain ⟨e18, s1, hw, h⟩ := oB_of h
  refine oW_rule (Wh := fun (x : Int32 × Int32) (s : S1) => ∀ ls : Array Slot, (0 ≤ x.1 ∧ x.1 < 33) → lv_has ls 3 [(0, .ref (q.1 28 x.1)), (1, .ref (q.1 0 0)), (2, .int x.2)] → WW X q s 18 ls []) (We := fun (e : (Int32)) (s : S1) => ∀ ls : Array Slot, (0 ≤ e ∧ e < 33) → lv_has ls 3 [(0, .ref (q.1 28 e)), (1, .ref (q.1 0 0))] → WW X q s 132 ls []) (fun x s o hb hc => lp_Th_reach_L18 (q := q) g x s o hb hc) hw ?_ ls hp0 (lv_sub hl [1, 2, 0] rfl)
  clear hw hl
  clear ls
  intro ls hq18_0 hl
  generalize s1 = s at h ⊢
  refine ww_iconst (pc := 132) g.1 (v := 0) d_Th_reach_132 (by decide) ?_
  refine ww_istore_n (pc := 133) (i := 2) g.1 (lv' := [(2, .int 0), (0, .ref (q.1 28 e18)), (1, .ref (q.1 0 0))]) d_Th_reach_133 rfl hl (by decide) rfl fun ls hl => ?_
  obtain ⟨e134, s1, hw, h⟩ := oB_of h
  refine oW_rule (Wh := fun (x : Int32 × Int32) (s : S1) => ∀ ls : Array Slot, (0 ≤ x.1 ∧ x.1 < 33) → lv_has ls 3 [(0, .ref (q.1 28 x.1)), (1, .ref (q.1 0 0)), (2, .int x.2)] → WW X q s 134 ls []) (We := fun (e : (Unit)) (s : S1) => ∀ ls : Array Slot, lv_has ls 3 [] → WW X q s 158 ls []) (fun x s o hb hc => lp_Th_reach_L134 (q := q) g x s o hb hc) hw ?_ ls hq18_0 (lv_sub hl [1, 2, 0] rfl)
  clear hw hl
  clear ls
  intro ls hl
  generalize s1 = s at h ⊢
  exact ww_vretH (pc := 158) g h hR d_Th_reach_158

abbrev b_Mo_threadGoes : ByteArray := prog_14_method_50_code
def y_Mo_threadGoes : MethodName := ⟨R_Mo, "threadGoes", "(LLuaMachineModel$Thread_;)V"⟩
abbrev w_Mo_threadGoes : List Cond := .code y_Mo_threadGoes b_Mo_threadGoes 3 none :: wA
theorem k_Mo_threadGoes : Cond.code y_Mo_threadGoes b_Mo_threadGoes 3 none ∈ wA := kinm (show _ ∈ tables_1 from (List.mem_append_right _ (List.mem_append_right _ (List.mem_append_right _ (List.mem_append_right _ (List.mem_append_right _ (List.mem_append_right _ (List.mem_append_right _ (List.mem_append_right _ (List.mem_append_right _ (List.mem_append_right _ (List.mem_append_right _ (List.mem_append_left _ (List.mem_of_getElem? (l := tables_1_12) (i := 41) (by decide +kernel))))))))))))))) (by decide +kernel)
theorem d_Mo_threadGoes_0 : decode b_Mo_threadGoes 0 = .ok (.iconst 0, 1) := by decide +kernel
theorem d_Mo_threadGoes_1 : decode b_Mo_threadGoes 1 = .ok (.istore_n 2, 1) := by decide +kernel
theorem d_Mo_threadGoes_2 : decode b_Mo_threadGoes 2 = .ok (.iload_n 2, 1) := by decide +kernel
theorem d_Mo_threadGoes_3 : decode b_Mo_threadGoes 3 = .ok (.aload_n 1, 1) := by decide +kernel
theorem d_Mo_threadGoes_4 : decode b_Mo_threadGoes 4 = .ok (.getfield 597, 3) := by decide +kernel
theorem d_Mo_threadGoes_7 : decode b_Mo_threadGoes 7 = .ok (.if_icmp .ge 19, 3) := by decide +kernel
theorem d_Mo_threadGoes_10 : decode b_Mo_threadGoes 10 = .ok (.aload_n 0, 1) := by decide +kernel
theorem d_Mo_threadGoes_11 : decode b_Mo_threadGoes 11 = .ok (.aload_n 1, 1) := by decide +kernel
theorem d_Mo_threadGoes_12 : decode b_Mo_threadGoes 12 = .ok (.getfield 600, 3) := by decide +kernel
theorem d_Mo_threadGoes_15 : decode b_Mo_threadGoes 15 = .ok (.iload_n 2, 1) := by decide +kernel
theorem d_Mo_threadGoes_16 : decode b_Mo_threadGoes 16 = .ok (.iaload, 1) := by decide +kernel
theorem d_Mo_threadGoes_17 : decode b_Mo_threadGoes 17 = .ok (.invokevirtual 603, 3) := by decide +kernel
theorem d_Mo_threadGoes_20 : decode b_Mo_threadGoes 20 = .ok (.iinc 2 1, 3) := by decide +kernel
theorem d_Mo_threadGoes_23 : decode b_Mo_threadGoes 23 = .ok (.goto (-21), 3) := by decide +kernel
theorem d_Mo_threadGoes_26 : decode b_Mo_threadGoes 26 = .ok (.aload_n 1, 1) := by decide +kernel
theorem d_Mo_threadGoes_27 : decode b_Mo_threadGoes 27 = .ok (.iconst 0, 1) := by decide +kernel
theorem d_Mo_threadGoes_28 : decode b_Mo_threadGoes 28 = .ok (.putfield 597, 3) := by decide +kernel
theorem d_Mo_threadGoes_31 : decode b_Mo_threadGoes 31 = .ok (.aload_n 1, 1) := by decide +kernel
theorem d_Mo_threadGoes_32 : decode b_Mo_threadGoes 32 = .ok (.iconst (-1), 1) := by decide +kernel
theorem d_Mo_threadGoes_33 : decode b_Mo_threadGoes 33 = .ok (.putfield 615, 3) := by decide +kernel
theorem d_Mo_threadGoes_36 : decode b_Mo_threadGoes 36 = .ok (.aload_n 0, 1) := by decide +kernel
theorem d_Mo_threadGoes_37 : decode b_Mo_threadGoes 37 = .ok (.dup, 1) := by decide +kernel
theorem d_Mo_threadGoes_38 : decode b_Mo_threadGoes 38 = .ok (.getfield 137, 3) := by decide +kernel
theorem d_Mo_threadGoes_41 : decode b_Mo_threadGoes 41 = .ok (.iconst 1, 1) := by decide +kernel
theorem d_Mo_threadGoes_42 : decode b_Mo_threadGoes 42 = .ok (.isub, 1) := by decide +kernel
theorem d_Mo_threadGoes_43 : decode b_Mo_threadGoes 43 = .ok (.putfield 137, 3) := by decide +kernel
theorem d_Mo_threadGoes_46 : decode b_Mo_threadGoes 46 = .ok (.return_, 1) := by decide +kernel
theorem kw_337 : Cond.instanceMethod y_Mo_threadGoes ∈ wA := kinm (show _ ∈ tables_1 from (List.mem_append_right _ (List.mem_append_right _ (List.mem_append_right _ (List.mem_append_right _ (List.mem_append_right _ (List.mem_append_right _ (List.mem_append_right _ (List.mem_append_right _ (List.mem_append_right _ (List.mem_append_right _ (List.mem_append_right _ (List.mem_append_left _ (List.mem_of_getElem? (l := tables_1_12) (i := 40) (by decide +kernel))))))))))))))) (by decide +kernel)
theorem kw_338 : Cond.selects R_Mo y_Mo_threadGoes y_Mo_threadGoes ∈ wA := kinp 136 (by decide +kernel) (by decide +kernel)
theorem cv_Mo_threadGoes : CV y_Mo_threadGoes b_Mo_threadGoes 3 none 1 := ⟨kw_337, kw_338, kw_17, k_Mo_threadGoes, by decide +kernel⟩
theorem lp_Mo_threadGoes_L2 {X : Cx} {q : PL} (g : Gd X y_Mo_threadGoes b_Mo_threadGoes 3 none 2 45 R_Mo) (x : Int32 × Int32) (s : S1) (o : ((Int32 × Int32) ⊕ ((Int32))) × S1) (h : M_Mo_threadGoes_L2 x s = some o) (hR : (Sum.elim (fun y : Int32 × Int32 => ∀ ls : Array Slot, (0 ≤ y.1 ∧ y.1 < 33) → lv_has ls 3 [(0, .ref (q.1 0 0)), (1, .ref (q.1 28 y.1)), (2, .int y.2)] → WW X q o.2 2 ls []) (fun y : Int32 => ∀ ls : Array Slot, (0 ≤ y ∧ y < 33) → lv_has ls 3 [(0, .ref (q.1 0 0)), (1, .ref (q.1 28 y))] → WW X q o.2 26 ls []) o.1)) : ∀ ls : Array Slot, (0 ≤ x.1 ∧ x.1 < 33) → lv_has ls 3 [(0, .ref (q.1 0 0)), (1, .ref (q.1 28 x.1)), (2, .int x.2)] → WW X q s 2 ls [] := by
  intro ls hp0 hl
  unfold M_Mo_threadGoes_L2 at h
  refine ww_iload_n (pc := 2) g.1 d_Mo_threadGoes_2 rfl (lv_at hl 2 rfl) ?_
  refine ww_aload_n (pc := 3) g.1 d_Mo_threadGoes_3 rfl (lv_at hl 1 rfl) ?_
  refine ww_gI (pc := 4) g (k := 3) cl_Th (pt rfl rfl hp0) (by decide) (Or.inl kw_104) (f := 3587) rfl rfl d_Mo_threadGoes_4 h fun v4 h => ?_
  refine ww_icmp_ge (pc := 7) (tgt := 26) g.1 d_Mo_threadGoes_7 (by decide) h (fun c h => ?_) (fun c h => ?_)
  · rw [oR_eq h] at hR
    exact hR ls hp0 (lv_sub hl [0, 1] rfl)
  · refine ww_aload_n (pc := 10) g.1 d_Mo_threadGoes_10 rfl (lv_at hl 0 rfl) ?_
    refine ww_aload_n (pc := 11) g.1 d_Mo_threadGoes_11 rfl (lv_at hl 1 rfl) ?_
    refine ww_gR (pc := 12) g (k := 10) cl_Th (pt rfl rfl hp0) (by decide) (Or.inl kw_105) (f := 3594) (t := 29) rfl rfl rfl d_Mo_threadGoes_12 ?_
    refine ww_iload_n (pc := 15) g.1 d_Mo_threadGoes_15 rfl (lv_at hl 2 rfl) ?_
    refine ww_ai (pc := 16) g (pt rfl rfl hp0) rfl rfl d_Mo_threadGoes_16 h fun v16 h => ?_
    obtain ⟨v17, s, hc17, h⟩ := oB_of h
    refine ww_callV (pc := 17) (rest := []) g cv_Mo_closeVariable (Or.inl kw_243) cl_Mo (pz rfl (by decide)) (ct_Mo_closeVariable hc17) ⟨by decide, by decide⟩ rfl hl.1 (Nat.le_of_ble_eq_true rfl) d_Mo_threadGoes_17 rfl ?_
    refine ww_st (st' := []) rfl ?_
    refine ww_iinc (pc := 20) g.1 (v := x.2 + 1) (lv' := [(2, .int (x.2 + 1)), (0, .ref (q.1 0 0)), (1, .ref (q.1 28 x.1))]) d_Mo_threadGoes_20 hl (k := 2) rfl (by rfl) (by decide) rfl fun ls hl => ?_
    refine ww_goto (pc := 23) (tgt := 2) g.1 d_Mo_threadGoes_23 (by decide) ?_
    rw [oR_eq h] at hR
    exact hR ls hp0 (lv_sub hl [1, 2, 0] rfl)

theorem ct_Mo_threadGoes {l : Launch} {P : PP} {q : PL} {s s' : S1} {l1 : Int32} (hp0 : 0 ≤ l1 ∧ l1 < 33) {r : Unit} (h : M_Mo_threadGoes l1 s = some (r, s')) : Ct l y_Mo_threadGoes b_Mo_threadGoes 3 none 2 45 P q s [.ref (q.1 0 0), .ref (q.1 28 l1)] none q s' := by
  refine ct_of (by decide) (Nat.le_of_ble_eq_true rfl) fun X ls eP el g hR hl => ?_
  subst eP
  have hR : Rt X q ((r, s') : Unit × S1).2 none := hR
  have hl : lv_has ls 3 [(0, .ref (q.1 0 0)), (1, .ref (q.1 28 l1))] := hl
  generalize (r, s') = o at h hR
  unfold M_Mo_threadGoes at h
  refine ww_iconst (pc := 0) g.1 (v := 0) d_Mo_threadGoes_0 (by decide) ?_
  refine ww_istore_n (pc := 1) (i := 2) g.1 (lv' := [(2, .int 0), (0, .ref (q.1 0 0)), (1, .ref (q.1 28 l1))]) d_Mo_threadGoes_1 rfl hl (by decide) rfl fun ls hl => ?_
  obtain ⟨e2, s1, hw, h⟩ := oB_of h
  refine oW_rule (Wh := fun (x : Int32 × Int32) (s : S1) => ∀ ls : Array Slot, (0 ≤ x.1 ∧ x.1 < 33) → lv_has ls 3 [(0, .ref (q.1 0 0)), (1, .ref (q.1 28 x.1)), (2, .int x.2)] → WW X q s 2 ls []) (We := fun (e : (Int32)) (s : S1) => ∀ ls : Array Slot, (0 ≤ e ∧ e < 33) → lv_has ls 3 [(0, .ref (q.1 0 0)), (1, .ref (q.1 28 e))] → WW X q s 26 ls []) (fun x s o hb hc => lp_Mo_threadGoes_L2 (q := q) g x s o hb hc) hw ?_ ls hp0 (lv_sub hl [1, 2, 0] rfl)
  clear hw hl
  clear ls
  intro ls hq2_0 hl
  generalize s1 = s at h ⊢
  refine ww_aload_n (pc := 26) g.1 d_Mo_threadGoes_26 rfl (lv_at hl 1 rfl) ?_
  refine ww_iconst (pc := 27) g.1 (v := 0) d_Mo_threadGoes_27 (by decide) ?_
  refine ww_pI (pc := 28) g (k := 3) cl_Th (pt rfl rfl hq2_0) (by decide) (Or.inl kw_104) rfl (f := 3587) rfl rfl rfl rfl d_Mo_threadGoes_28 h fun s hs h => ?_
  refine ww_aload_n (pc := 31) g.1 d_Mo_threadGoes_31 rfl (lv_at hl 1 rfl) ?_
  refine ww_iconst (pc := 32) g.1 (v := (-1)) d_Mo_threadGoes_32 (by decide) ?_
  refine ww_pI (pc := 33) g (k := 0) cl_Th (pt rfl rfl hq2_0) (by decide) (Or.inl kw_216) rfl (f := 3584) rfl rfl rfl rfl d_Mo_threadGoes_33 h fun s hs h => ?_
  refine ww_aload_n (pc := 36) g.1 d_Mo_threadGoes_36 rfl (lv_at hl 0 rfl) ?_
  refine ww_dup (pc := 37) g.1 d_Mo_threadGoes_37 rfl ?_
  refine ww_gI (pc := 38) g (k := 39) cl_Mo (pz rfl (by decide)) (by decide) (Or.inl kw_302) (f := 39) rfl rfl d_Mo_threadGoes_38 h fun v38 h => ?_
  refine ww_iconst (pc := 41) g.1 (v := 1) d_Mo_threadGoes_41 (by decide) ?_
  refine ww_isub (pc := 42) g.1 d_Mo_threadGoes_42 ?_
  refine ww_pI (pc := 43) g (k := 39) cl_Mo (pz rfl (by decide)) (by decide) (Or.inl kw_302) rfl (f := 39) rfl rfl rfl rfl d_Mo_threadGoes_43 h fun s hs h => ?_
  exact ww_vretH (pc := 46) g h hR d_Mo_threadGoes_46

abbrev b_Mo_unchain : ByteArray := prog_14_method_52_code
def y_Mo_unchain : MethodName := ⟨R_Mo, "unchain", "(I)V"⟩
abbrev w_Mo_unchain : List Cond := .code y_Mo_unchain b_Mo_unchain 4 none :: wA
theorem k_Mo_unchain : Cond.code y_Mo_unchain b_Mo_unchain 4 none ∈ wA := kinm (show _ ∈ tables_1 from (List.mem_append_right _ (List.mem_append_right _ (List.mem_append_right _ (List.mem_append_right _ (List.mem_append_right _ (List.mem_append_right _ (List.mem_append_right _ (List.mem_append_right _ (List.mem_append_right _ (List.mem_append_right _ (List.mem_append_right _ (List.mem_append_left _ (List.mem_of_getElem? (l := tables_1_12) (i := 49) (by decide +kernel))))))))))))))) (by decide +kernel)
theorem d_Mo_unchain_0 : decode b_Mo_unchain 0 = .ok (.aload_n 0, 1) := by decide +kernel
theorem d_Mo_unchain_1 : decode b_Mo_unchain 1 = .ok (.aload_n 0, 1) := by decide +kernel
theorem d_Mo_unchain_2 : decode b_Mo_unchain 2 = .ok (.getfield 187, 3) := by decide +kernel
theorem d_Mo_unchain_5 : decode b_Mo_unchain 5 = .ok (.aload_n 0, 1) := by decide +kernel
theorem d_Mo_unchain_6 : decode b_Mo_unchain 6 = .ok (.getfield 168, 3) := by decide +kernel
theorem d_Mo_unchain_9 : decode b_Mo_unchain 9 = .ok (.iload_n 1, 1) := by decide +kernel
theorem d_Mo_unchain_10 : decode b_Mo_unchain 10 = .ok (.iaload, 1) := by decide +kernel
theorem d_Mo_unchain_11 : decode b_Mo_unchain 11 = .ok (.aload_n 0, 1) := by decide +kernel
theorem d_Mo_unchain_12 : decode b_Mo_unchain 12 = .ok (.getfield 171, 3) := by decide +kernel
theorem d_Mo_unchain_15 : decode b_Mo_unchain 15 = .ok (.iload_n 1, 1) := by decide +kernel
theorem d_Mo_unchain_16 : decode b_Mo_unchain 16 = .ok (.iaload, 1) := by decide +kernel
theorem d_Mo_unchain_17 : decode b_Mo_unchain 17 = .ok (.invokevirtual 523, 3) := by decide +kernel
theorem d_Mo_unchain_20 : decode b_Mo_unchain 20 = .ok (.istore_n 2, 1) := by decide +kernel
theorem d_Mo_unchain_21 : decode b_Mo_unchain 21 = .ok (.aload_n 0, 1) := by decide +kernel
theorem d_Mo_unchain_22 : decode b_Mo_unchain 22 = .ok (.getfield 190, 3) := by decide +kernel
theorem d_Mo_unchain_25 : decode b_Mo_unchain 25 = .ok (.iload_n 2, 1) := by decide +kernel
theorem d_Mo_unchain_26 : decode b_Mo_unchain 26 = .ok (.iaload, 1) := by decide +kernel
theorem d_Mo_unchain_27 : decode b_Mo_unchain 27 = .ok (.iconst 1, 1) := by decide +kernel
theorem d_Mo_unchain_28 : decode b_Mo_unchain 28 = .ok (.isub, 1) := by decide +kernel
theorem d_Mo_unchain_29 : decode b_Mo_unchain 29 = .ok (.istore_n 3, 1) := by decide +kernel
theorem d_Mo_unchain_30 : decode b_Mo_unchain 30 = .ok (.iload_n 3, 1) := by decide +kernel
theorem d_Mo_unchain_31 : decode b_Mo_unchain 31 = .ok (.iload_n 1, 1) := by decide +kernel
theorem d_Mo_unchain_32 : decode b_Mo_unchain 32 = .ok (.if_icmp .ne 16, 3) := by decide +kernel
theorem d_Mo_unchain_35 : decode b_Mo_unchain 35 = .ok (.aload_n 0, 1) := by decide +kernel
theorem d_Mo_unchain_36 : decode b_Mo_unchain 36 = .ok (.getfield 190, 3) := by decide +kernel
theorem d_Mo_unchain_39 : decode b_Mo_unchain 39 = .ok (.iload_n 2, 1) := by decide +kernel
theorem d_Mo_unchain_40 : decode b_Mo_unchain 40 = .ok (.aload_n 0, 1) := by decide +kernel
theorem d_Mo_unchain_41 : decode b_Mo_unchain 41 = .ok (.getfield 177, 3) := by decide +kernel
theorem d_Mo_unchain_44 : decode b_Mo_unchain 44 = .ok (.iload_n 1, 1) := by decide +kernel
theorem d_Mo_unchain_45 : decode b_Mo_unchain 45 = .ok (.iaload, 1) := by decide +kernel
theorem d_Mo_unchain_46 : decode b_Mo_unchain 46 = .ok (.iastore, 1) := by decide +kernel
theorem d_Mo_unchain_47 : decode b_Mo_unchain 47 = .ok (.return_, 1) := by decide +kernel
theorem d_Mo_unchain_48 : decode b_Mo_unchain 48 = .ok (.aload_n 0, 1) := by decide +kernel
theorem d_Mo_unchain_49 : decode b_Mo_unchain 49 = .ok (.getfield 177, 3) := by decide +kernel
theorem d_Mo_unchain_52 : decode b_Mo_unchain 52 = .ok (.iload_n 3, 1) := by decide +kernel
theorem d_Mo_unchain_53 : decode b_Mo_unchain 53 = .ok (.iaload, 1) := by decide +kernel
theorem d_Mo_unchain_54 : decode b_Mo_unchain 54 = .ok (.iconst 1, 1) := by decide +kernel
theorem d_Mo_unchain_55 : decode b_Mo_unchain 55 = .ok (.isub, 1) := by decide +kernel
theorem d_Mo_unchain_56 : decode b_Mo_unchain 56 = .ok (.iload_n 1, 1) := by decide +kernel
theorem d_Mo_unchain_57 : decode b_Mo_unchain 57 = .ok (.if_icmp .eq 15, 3) := by decide +kernel
theorem d_Mo_unchain_60 : decode b_Mo_unchain 60 = .ok (.aload_n 0, 1) := by decide +kernel
theorem d_Mo_unchain_61 : decode b_Mo_unchain 61 = .ok (.getfield 177, 3) := by decide +kernel
theorem d_Mo_unchain_64 : decode b_Mo_unchain 64 = .ok (.iload_n 3, 1) := by decide +kernel
theorem d_Mo_unchain_65 : decode b_Mo_unchain 65 = .ok (.iaload, 1) := by decide +kernel
theorem d_Mo_unchain_66 : decode b_Mo_unchain 66 = .ok (.iconst 1, 1) := by decide +kernel
theorem d_Mo_unchain_67 : decode b_Mo_unchain 67 = .ok (.isub, 1) := by decide +kernel
theorem d_Mo_unchain_68 : decode b_Mo_unchain 68 = .ok (.istore_n 3, 1) := by decide +kernel
theorem d_Mo_unchain_69 : decode b_Mo_unchain 69 = .ok (.goto (-21), 3) := by decide +kernel
theorem d_Mo_unchain_72 : decode b_Mo_unchain 72 = .ok (.aload_n 0, 1) := by decide +kernel
theorem d_Mo_unchain_73 : decode b_Mo_unchain 73 = .ok (.getfield 177, 3) := by decide +kernel
theorem d_Mo_unchain_76 : decode b_Mo_unchain 76 = .ok (.iload_n 3, 1) := by decide +kernel
theorem d_Mo_unchain_77 : decode b_Mo_unchain 77 = .ok (.aload_n 0, 1) := by decide +kernel
theorem d_Mo_unchain_78 : decode b_Mo_unchain 78 = .ok (.getfield 177, 3) := by decide +kernel
theorem d_Mo_unchain_81 : decode b_Mo_unchain 81 = .ok (.iload_n 1, 1) := by decide +kernel
theorem d_Mo_unchain_82 : decode b_Mo_unchain 82 = .ok (.iaload, 1) := by decide +kernel
theorem d_Mo_unchain_83 : decode b_Mo_unchain 83 = .ok (.iastore, 1) := by decide +kernel
theorem d_Mo_unchain_84 : decode b_Mo_unchain 84 = .ok (.return_, 1) := by decide +kernel
theorem kw_339 : Cond.methodLink R_Mo 523 y_Mo_hash ∈ wA := kinm (show _ ∈ tables_1 from (List.mem_append_right _ (List.mem_append_right _ (List.mem_append_right _ (List.mem_append_right _ (List.mem_append_right _ (List.mem_append_right _ (List.mem_append_right _ (List.mem_append_right _ (List.mem_append_right _ (List.mem_append_right _ (List.mem_append_right _ (List.mem_append_left _ (List.mem_of_getElem? (l := tables_1_12) (i := 50) (by decide +kernel))))))))))))))) (by decide +kernel)
theorem kw_340 : Cond.fieldLink R_Mo 190 "LuaMachineModel" "heads" "[I" ∈ wA := kinm (show _ ∈ tables_1 from (List.mem_append_right _ (List.mem_append_right _ (List.mem_append_right _ (List.mem_append_right _ (List.mem_append_right _ (List.mem_append_right _ (List.mem_append_right _ (List.mem_append_right _ (List.mem_append_right _ (List.mem_append_left _ (List.mem_of_getElem? (l := tables_1_10) (i := 112) (by decide +kernel))))))))))))) (by decide +kernel)
theorem kw_341 : Cond.fieldLink R_Mo 177 "LuaMachineModel" "chain" "[I" ∈ wA := kinm (show _ ∈ tables_1 from (List.mem_append_right _ (List.mem_append_right _ (List.mem_append_right _ (List.mem_append_right _ (List.mem_append_right _ (List.mem_append_right _ (List.mem_append_right _ (List.mem_append_right _ (List.mem_append_right _ (List.mem_append_left _ (List.mem_of_getElem? (l := tables_1_10) (i := 108) (by decide +kernel))))))))))))) (by decide +kernel)
theorem kw_342 : Cond.instanceMethod y_Mo_unchain ∈ wA := kinm (show _ ∈ tables_1 from (List.mem_append_right _ (List.mem_append_right _ (List.mem_append_right _ (List.mem_append_right _ (List.mem_append_right _ (List.mem_append_right _ (List.mem_append_right _ (List.mem_append_right _ (List.mem_append_right _ (List.mem_append_right _ (List.mem_append_right _ (List.mem_append_left _ (List.mem_of_getElem? (l := tables_1_12) (i := 48) (by decide +kernel))))))))))))))) (by decide +kernel)
theorem kw_343 : Cond.selects R_Mo y_Mo_unchain y_Mo_unchain ∈ wA := kinp 138 (by decide +kernel) (by decide +kernel)
theorem cv_Mo_unchain : CV y_Mo_unchain b_Mo_unchain 4 none 1 := ⟨kw_342, kw_343, kw_17, k_Mo_unchain, by decide +kernel⟩
theorem lp_Mo_unchain_L48 {X : Cx} {q : PL} (g : Gd X y_Mo_unchain b_Mo_unchain 4 none 1 25 R_Mo) (x : Int32 × Int32) (s : S1) (o : ((Int32 × Int32) ⊕ ((Int32 × Int32))) × S1) (h : M_Mo_unchain_L48 x s = some o) (hR : (Sum.elim (fun y : Int32 × Int32 => ∀ ls : Array Slot, lv_has ls 4 [(0, .ref (q.1 0 0)), (1, .int y.1), (3, .int y.2)] → WW X q o.2 48 ls []) (fun y : Int32 × Int32 => ∀ ls : Array Slot, lv_has ls 4 [(0, .ref (q.1 0 0)), (1, .int y.1), (3, .int y.2)] → WW X q o.2 72 ls []) o.1)) : ∀ ls : Array Slot, lv_has ls 4 [(0, .ref (q.1 0 0)), (1, .int x.1), (3, .int x.2)] → WW X q s 48 ls [] := by
  intro ls hl
  unfold M_Mo_unchain_L48 at h
  refine ww_aload_n (pc := 48) g.1 d_Mo_unchain_48 rfl (lv_at hl 0 rfl) ?_
  refine ww_gR (pc := 49) g (k := 52) cl_Mo (pz rfl (by decide)) (by decide) (Or.inl kw_341) (f := 52) (t := 65) rfl rfl rfl d_Mo_unchain_49 ?_
  refine ww_iload_n (pc := 52) g.1 d_Mo_unchain_52 rfl (lv_at hl 2 rfl) ?_
  refine ww_ai (pc := 53) g (pz rfl (by decide)) rfl rfl d_Mo_unchain_53 h fun v53 h => ?_
  refine ww_iconst (pc := 54) g.1 (v := 1) d_Mo_unchain_54 (by decide) ?_
  refine ww_isub (pc := 55) g.1 d_Mo_unchain_55 ?_
  refine ww_iload_n (pc := 56) g.1 d_Mo_unchain_56 rfl (lv_at hl 1 rfl) ?_
  refine ww_icmp_eq (pc := 57) (tgt := 72) g.1 d_Mo_unchain_57 (by decide) h (fun c h => ?_) (fun c h => ?_)
  · rw [oR_eq h] at hR
    exact hR ls (lv_sub hl [0, 1, 2] rfl)
  · refine ww_aload_n (pc := 60) g.1 d_Mo_unchain_60 rfl (lv_at hl 0 rfl) ?_
    refine ww_gR (pc := 61) g (k := 52) cl_Mo (pz rfl (by decide)) (by decide) (Or.inl kw_341) (f := 52) (t := 65) rfl rfl rfl d_Mo_unchain_61 ?_
    refine ww_iload_n (pc := 64) g.1 d_Mo_unchain_64 rfl (lv_at hl 2 rfl) ?_
    refine ww_ai (pc := 65) g (pz rfl (by decide)) rfl rfl d_Mo_unchain_65 h fun v65 h => ?_
    refine ww_iconst (pc := 66) g.1 (v := 1) d_Mo_unchain_66 (by decide) ?_
    refine ww_isub (pc := 67) g.1 d_Mo_unchain_67 ?_
    refine ww_leti h fun l3_68 h => ?_
    refine ww_istore_n (pc := 68) (i := 3) g.1 (lv' := [(3, .int l3_68), (0, .ref (q.1 0 0)), (1, .int x.1)]) d_Mo_unchain_68 rfl hl (by decide) rfl fun ls hl => ?_
    refine ww_goto (pc := 69) (tgt := 48) g.1 d_Mo_unchain_69 (by decide) ?_
    rw [oR_eq h] at hR
    exact hR ls (lv_sub hl [1, 2, 0] rfl)

theorem ct_Mo_unchain {l : Launch} {P : PP} {q : PL} {s s' : S1} {l1 : Int32} {r : Unit} (h : M_Mo_unchain l1 s = some (r, s')) : Ct l y_Mo_unchain b_Mo_unchain 4 none 1 25 P q s [.ref (q.1 0 0), .int l1] none q s' := by
  refine ct_of (by decide) (Nat.le_of_ble_eq_true rfl) fun X ls eP el g hR hl => ?_
  subst eP
  have hR : Rt X q ((r, s') : Unit × S1).2 none := hR
  have hl : lv_has ls 4 [(0, .ref (q.1 0 0)), (1, .int l1)] := hl
  generalize (r, s') = o at h hR
  unfold M_Mo_unchain at h
  refine ww_aload_n (pc := 0) g.1 d_Mo_unchain_0 rfl (lv_at hl 0 rfl) ?_
  refine ww_aload_n (pc := 1) g.1 d_Mo_unchain_1 rfl (lv_at hl 0 rfl) ?_
  refine ww_gR (pc := 2) g (k := 55) cl_Mo (pz rfl (by decide)) (by decide) (Or.inl kw_200) (f := 55) (t := 67) rfl rfl rfl d_Mo_unchain_2 ?_
  refine ww_aload_n (pc := 5) g.1 d_Mo_unchain_5 rfl (lv_at hl 0 rfl) ?_
  refine ww_gR (pc := 6) g (k := 49) cl_Mo (pz rfl (by decide)) (by decide) (Or.inl kw_87) (f := 49) (t := 62) rfl rfl rfl d_Mo_unchain_6 ?_
  refine ww_iload_n (pc := 9) g.1 d_Mo_unchain_9 rfl (lv_at hl 1 rfl) ?_
  refine ww_ai (pc := 10) g (pz rfl (by decide)) rfl rfl d_Mo_unchain_10 h fun v10 h => ?_
  refine ww_aload_n (pc := 11) g.1 d_Mo_unchain_11 rfl (lv_at hl 0 rfl) ?_
  refine ww_gR (pc := 12) g (k := 50) cl_Mo (pz rfl (by decide)) (by decide) (Or.inl kw_91) (f := 50) (t := 63) rfl rfl rfl d_Mo_unchain_12 ?_
  refine ww_iload_n (pc := 15) g.1 d_Mo_unchain_15 rfl (lv_at hl 1 rfl) ?_
  refine ww_ai (pc := 16) g (pz rfl (by decide)) rfl rfl d_Mo_unchain_16 h fun v16 h => ?_
  obtain ⟨v17, s, hc17, h⟩ := oB_of h
  refine ww_callV (pc := 17) (rest := []) g cv_Mo_hash (Or.inl kw_339) cl_Mo (pz rfl (by decide)) (ct_Mo_hash ⟨rfl, by decide, by decide⟩ (pz rfl (by decide)) hc17) ⟨by decide, by decide⟩ rfl hl.1 (Nat.le_of_ble_eq_true rfl) d_Mo_unchain_17 rfl ?_
  refine ww_st (st' := [.int v17]) rfl ?_
  refine ww_istore_n (pc := 20) (i := 2) g.1 (lv' := [(2, .int v17), (0, .ref (q.1 0 0)), (1, .int l1)]) d_Mo_unchain_20 rfl hl (by decide) rfl fun ls hl => ?_
  refine ww_aload_n (pc := 21) g.1 d_Mo_unchain_21 rfl (lv_at hl 1 rfl) ?_
  refine ww_gR (pc := 22) g (k := 56) cl_Mo (pz rfl (by decide)) (by decide) (Or.inl kw_340) (f := 56) (t := 68) rfl rfl rfl d_Mo_unchain_22 ?_
  refine ww_iload_n (pc := 25) g.1 d_Mo_unchain_25 rfl (lv_at hl 0 rfl) ?_
  refine ww_ai (pc := 26) g (pz rfl (by decide)) rfl rfl d_Mo_unchain_26 h fun v26 h => ?_
  refine ww_iconst (pc := 27) g.1 (v := 1) d_Mo_unchain_27 (by decide) ?_
  refine ww_isub (pc := 28) g.1 d_Mo_unchain_28 ?_
  refine ww_leti h fun l3_29 h => ?_
  refine ww_istore_n (pc := 29) (i := 3) g.1 (lv' := [(3, .int l3_29), (2, .int v17), (0, .ref (q.1 0 0)), (1, .int l1)]) d_Mo_unchain_29 rfl hl (by decide) rfl fun ls hl => ?_
  refine ww_iload_n (pc := 30) g.1 d_Mo_unchain_30 rfl (lv_at hl 0 rfl) ?_
  refine ww_iload_n (pc := 31) g.1 d_Mo_unchain_31 rfl (lv_at hl 3 rfl) ?_
  refine ww_icmp_ne (pc := 32) (tgt := 48) g.1 d_Mo_unchain_32 (by decide) h (fun c h => ?_) (fun c h => ?_)
  · obtain ⟨e48, s1, hw, h⟩ := oB_of h
    refine oW_rule (Wh := fun (x : Int32 × Int32) (s : S1) => ∀ ls : Array Slot, lv_has ls 4 [(0, .ref (q.1 0 0)), (1, .int x.1), (3, .int x.2)] → WW X q s 48 ls []) (We := fun (e : (Int32 × Int32)) (s : S1) => ∀ ls : Array Slot, lv_has ls 4 [(0, .ref (q.1 0 0)), (1, .int e.1), (3, .int e.2)] → WW X q s 72 ls []) (fun x s o hb hc => lp_Mo_unchain_L48 (q := q) g x s o hb hc) hw ?_ ls (lv_sub hl [2, 3, 0] rfl)
    clear hw hl
    clear ls
    intro ls hl
    generalize s1 = s at h ⊢
    refine ww_aload_n (pc := 72) g.1 d_Mo_unchain_72 rfl (lv_at hl 0 rfl) ?_
    refine ww_gR (pc := 73) g (k := 52) cl_Mo (pz rfl (by decide)) (by decide) (Or.inl kw_341) (f := 52) (t := 65) rfl rfl rfl d_Mo_unchain_73 ?_
    refine ww_iload_n (pc := 76) g.1 d_Mo_unchain_76 rfl (lv_at hl 2 rfl) ?_
    refine ww_aload_n (pc := 77) g.1 d_Mo_unchain_77 rfl (lv_at hl 0 rfl) ?_
    refine ww_gR (pc := 78) g (k := 52) cl_Mo (pz rfl (by decide)) (by decide) (Or.inl kw_341) (f := 52) (t := 65) rfl rfl rfl d_Mo_unchain_78 ?_
    refine ww_iload_n (pc := 81) g.1 d_Mo_unchain_81 rfl (lv_at hl 1 rfl) ?_
    refine ww_ai (pc := 82) g (pz rfl (by decide)) rfl rfl d_Mo_unchain_82 h fun v82 h => ?_
    refine ww_si (pc := 83) g (pz rfl (by decide)) rfl rfl d_Mo_unchain_83 h fun s hs h => ?_
    exact ww_vretH (pc := 84) g h hR d_Mo_unchain_84
  · refine ww_aload_n (pc := 35) g.1 d_Mo_unchain_35 rfl (lv_at hl 2 rfl) ?_
    refine ww_gR (pc := 36) g (k := 56) cl_Mo (pz rfl (by decide)) (by decide) (Or.inl kw_340) (f := 56) (t := 68) rfl rfl rfl d_Mo_unchain_36 ?_
    refine ww_iload_n (pc := 39) g.1 d_Mo_unchain_39 rfl (lv_at hl 1 rfl) ?_
    refine ww_aload_n (pc := 40) g.1 d_Mo_unchain_40 rfl (lv_at hl 2 rfl) ?_
    refine ww_gR (pc := 41) g (k := 52) cl_Mo (pz rfl (by decide)) (by decide) (Or.inl kw_341) (f := 52) (t := 65) rfl rfl rfl d_Mo_unchain_41 ?_
    refine ww_iload_n (pc := 44) g.1 d_Mo_unchain_44 rfl (lv_at hl 3 rfl) ?_
    refine ww_ai (pc := 45) g (pz rfl (by decide)) rfl rfl d_Mo_unchain_45 h fun v45 h => ?_
    refine ww_si (pc := 46) g (pz rfl (by decide)) rfl rfl d_Mo_unchain_46 h fun s hs h => ?_
    exact ww_vretH (pc := 47) g h hR d_Mo_unchain_47

abbrev b_Mo_entry : ByteArray := prog_14_method_33_code
def y_Mo_entry : MethodName := ⟨R_Mo, "entry", "(IIJ)I"⟩
abbrev w_Mo_entry : List Cond := .code y_Mo_entry b_Mo_entry 6 (some .int) :: wA
theorem k_Mo_entry : Cond.code y_Mo_entry b_Mo_entry 6 (some .int) ∈ wA := kinm (show _ ∈ tables_1 from (List.mem_append_right _ (List.mem_append_right _ (List.mem_append_right _ (List.mem_append_right _ (List.mem_append_right _ (List.mem_append_right _ (List.mem_append_right _ (List.mem_append_right _ (List.mem_append_right _ (List.mem_append_right _ (List.mem_append_right _ (List.mem_append_left _ (List.mem_of_getElem? (l := tables_1_12) (i := 88) (by decide +kernel))))))))))))))) (by decide +kernel)
theorem d_Mo_entry_0 : decode b_Mo_entry 0 = .ok (.aload_n 0, 1) := by decide +kernel
theorem d_Mo_entry_1 : decode b_Mo_entry 1 = .ok (.getfield 171, 3) := by decide +kernel
theorem d_Mo_entry_4 : decode b_Mo_entry 4 = .ok (.iload_n 1, 1) := by decide +kernel
theorem d_Mo_entry_5 : decode b_Mo_entry 5 = .ok (.iaload, 1) := by decide +kernel
theorem d_Mo_entry_6 : decode b_Mo_entry 6 = .ok (.ifCond .ne 5, 3) := by decide +kernel
theorem d_Mo_entry_9 : decode b_Mo_entry 9 = .ok (.iconst (-1), 1) := by decide +kernel
theorem d_Mo_entry_10 : decode b_Mo_entry 10 = .ok (.ireturn, 1) := by decide +kernel
theorem d_Mo_entry_11 : decode b_Mo_entry 11 = .ok (.aload_n 0, 1) := by decide +kernel
theorem d_Mo_entry_12 : decode b_Mo_entry 12 = .ok (.getfield 209, 3) := by decide +kernel
theorem d_Mo_entry_15 : decode b_Mo_entry 15 = .ok (.aload_n 0, 1) := by decide +kernel
theorem d_Mo_entry_16 : decode b_Mo_entry 16 = .ok (.getfield 168, 3) := by decide +kernel
theorem d_Mo_entry_19 : decode b_Mo_entry 19 = .ok (.iload_n 1, 1) := by decide +kernel
theorem d_Mo_entry_20 : decode b_Mo_entry 20 = .ok (.iaload, 1) := by decide +kernel
theorem d_Mo_entry_21 : decode b_Mo_entry 21 = .ok (.aload_n 0, 1) := by decide +kernel
theorem d_Mo_entry_22 : decode b_Mo_entry 22 = .ok (.aload_n 0, 1) := by decide +kernel
theorem d_Mo_entry_23 : decode b_Mo_entry 23 = .ok (.getfield 171, 3) := by decide +kernel
theorem d_Mo_entry_26 : decode b_Mo_entry 26 = .ok (.iload_n 1, 1) := by decide +kernel
theorem d_Mo_entry_27 : decode b_Mo_entry 27 = .ok (.iaload, 1) := by decide +kernel
theorem d_Mo_entry_28 : decode b_Mo_entry 28 = .ok (.iload_n 2, 1) := by decide +kernel
theorem d_Mo_entry_29 : decode b_Mo_entry 29 = .ok (.lload_n 3, 1) := by decide +kernel
theorem d_Mo_entry_30 : decode b_Mo_entry 30 = .ok (.invokevirtual 548, 3) := by decide +kernel
theorem d_Mo_entry_33 : decode b_Mo_entry 33 = .ok (.iadd, 1) := by decide +kernel
theorem d_Mo_entry_34 : decode b_Mo_entry 34 = .ok (.iaload, 1) := by decide +kernel
theorem d_Mo_entry_35 : decode b_Mo_entry 35 = .ok (.iconst 1, 1) := by decide +kernel
theorem d_Mo_entry_36 : decode b_Mo_entry 36 = .ok (.isub, 1) := by decide +kernel
theorem d_Mo_entry_37 : decode b_Mo_entry 37 = .ok (.istore 5, 2) := by decide +kernel
theorem d_Mo_entry_39 : decode b_Mo_entry 39 = .ok (.iload 5, 2) := by decide +kernel
theorem d_Mo_entry_41 : decode b_Mo_entry 41 = .ok (.ifCond .lt 71, 3) := by decide +kernel
theorem d_Mo_entry_44 : decode b_Mo_entry 44 = .ok (.aload_n 0, 1) := by decide +kernel
theorem d_Mo_entry_45 : decode b_Mo_entry 45 = .ok (.getfield 193, 3) := by decide +kernel
theorem d_Mo_entry_48 : decode b_Mo_entry 48 = .ok (.aload_n 0, 1) := by decide +kernel
theorem d_Mo_entry_49 : decode b_Mo_entry 49 = .ok (.getfield 168, 3) := by decide +kernel
theorem d_Mo_entry_52 : decode b_Mo_entry 52 = .ok (.iload_n 1, 1) := by decide +kernel
theorem d_Mo_entry_53 : decode b_Mo_entry 53 = .ok (.iaload, 1) := by decide +kernel
theorem d_Mo_entry_54 : decode b_Mo_entry 54 = .ok (.iload 5, 2) := by decide +kernel
theorem d_Mo_entry_56 : decode b_Mo_entry 56 = .ok (.iadd, 1) := by decide +kernel
theorem d_Mo_entry_57 : decode b_Mo_entry 57 = .ok (.baload, 1) := by decide +kernel
theorem d_Mo_entry_58 : decode b_Mo_entry 58 = .ok (.iload_n 2, 1) := by decide +kernel
theorem d_Mo_entry_59 : decode b_Mo_entry 59 = .ok (.if_icmp .ne 32, 3) := by decide +kernel
theorem d_Mo_entry_62 : decode b_Mo_entry 62 = .ok (.aload_n 0, 1) := by decide +kernel
theorem d_Mo_entry_63 : decode b_Mo_entry 63 = .ok (.getfield 199, 3) := by decide +kernel
theorem d_Mo_entry_66 : decode b_Mo_entry 66 = .ok (.aload_n 0, 1) := by decide +kernel
theorem d_Mo_entry_67 : decode b_Mo_entry 67 = .ok (.getfield 168, 3) := by decide +kernel
theorem d_Mo_entry_70 : decode b_Mo_entry 70 = .ok (.iload_n 1, 1) := by decide +kernel
theorem d_Mo_entry_71 : decode b_Mo_entry 71 = .ok (.iaload, 1) := by decide +kernel
theorem d_Mo_entry_72 : decode b_Mo_entry 72 = .ok (.iload 5, 2) := by decide +kernel
theorem d_Mo_entry_74 : decode b_Mo_entry 74 = .ok (.iadd, 1) := by decide +kernel
theorem d_Mo_entry_75 : decode b_Mo_entry 75 = .ok (.laload, 1) := by decide +kernel
theorem d_Mo_entry_76 : decode b_Mo_entry 76 = .ok (.lload_n 3, 1) := by decide +kernel
theorem d_Mo_entry_77 : decode b_Mo_entry 77 = .ok (.lcmp, 1) := by decide +kernel
theorem d_Mo_entry_78 : decode b_Mo_entry 78 = .ok (.ifCond .ne 13, 3) := by decide +kernel
theorem d_Mo_entry_81 : decode b_Mo_entry 81 = .ok (.aload_n 0, 1) := by decide +kernel
theorem d_Mo_entry_82 : decode b_Mo_entry 82 = .ok (.getfield 168, 3) := by decide +kernel
theorem d_Mo_entry_85 : decode b_Mo_entry 85 = .ok (.iload_n 1, 1) := by decide +kernel
theorem d_Mo_entry_86 : decode b_Mo_entry 86 = .ok (.iaload, 1) := by decide +kernel
theorem d_Mo_entry_87 : decode b_Mo_entry 87 = .ok (.iload 5, 2) := by decide +kernel
theorem d_Mo_entry_89 : decode b_Mo_entry 89 = .ok (.iadd, 1) := by decide +kernel
theorem d_Mo_entry_90 : decode b_Mo_entry 90 = .ok (.ireturn, 1) := by decide +kernel
theorem d_Mo_entry_91 : decode b_Mo_entry 91 = .ok (.aload_n 0, 1) := by decide +kernel
theorem d_Mo_entry_92 : decode b_Mo_entry 92 = .ok (.getfield 206, 3) := by decide +kernel
theorem d_Mo_entry_95 : decode b_Mo_entry 95 = .ok (.aload_n 0, 1) := by decide +kernel
theorem d_Mo_entry_96 : decode b_Mo_entry 96 = .ok (.getfield 168, 3) := by decide +kernel
theorem d_Mo_entry_99 : decode b_Mo_entry 99 = .ok (.iload_n 1, 1) := by decide +kernel
theorem d_Mo_entry_100 : decode b_Mo_entry 100 = .ok (.iaload, 1) := by decide +kernel
theorem d_Mo_entry_101 : decode b_Mo_entry 101 = .ok (.iload 5, 2) := by decide +kernel
theorem d_Mo_entry_103 : decode b_Mo_entry 103 = .ok (.iadd, 1) := by decide +kernel
theorem d_Mo_entry_104 : decode b_Mo_entry 104 = .ok (.iaload, 1) := by decide +kernel
theorem d_Mo_entry_105 : decode b_Mo_entry 105 = .ok (.iconst 1, 1) := by decide +kernel
theorem d_Mo_entry_106 : decode b_Mo_entry 106 = .ok (.isub, 1) := by decide +kernel
theorem d_Mo_entry_107 : decode b_Mo_entry 107 = .ok (.istore 5, 2) := by decide +kernel
theorem d_Mo_entry_109 : decode b_Mo_entry 109 = .ok (.goto (-70), 3) := by decide +kernel
theorem d_Mo_entry_112 : decode b_Mo_entry 112 = .ok (.iconst (-1), 1) := by decide +kernel
theorem d_Mo_entry_113 : decode b_Mo_entry 113 = .ok (.ireturn, 1) := by decide +kernel
theorem kw_344 : Cond.instanceMethod y_Mo_entry ∈ wA := kinm (show _ ∈ tables_1 from (List.mem_append_right _ (List.mem_append_right _ (List.mem_append_right _ (List.mem_append_right _ (List.mem_append_right _ (List.mem_append_right _ (List.mem_append_right _ (List.mem_append_right _ (List.mem_append_right _ (List.mem_append_right _ (List.mem_append_right _ (List.mem_append_left _ (List.mem_of_getElem? (l := tables_1_12) (i := 87) (by decide +kernel))))))))))))))) (by decide +kernel)
theorem kw_345 : Cond.selects R_Mo y_Mo_entry y_Mo_entry ∈ wA := kinp 147 (by decide +kernel) (by decide +kernel)
theorem cv_Mo_entry : CV y_Mo_entry b_Mo_entry 6 (some .int) 3 := ⟨kw_344, kw_345, kw_17, k_Mo_entry, by decide +kernel⟩
theorem j_Mo_entry_j91 {X : Cx} {q : PL} (g : Gd X y_Mo_entry b_Mo_entry 6 (some .int) 2 49 R_Mo) {o : ((Int32 × Int32 × Int64 × Int32) ⊕ ((Int32 × Int32) ⊕ (Unit))) × S1} (hR : (Sum.elim (fun y : Int32 × Int32 × Int64 × Int32 => ∀ ls : Array Slot, lv_has ls 6 [(0, .ref (q.1 0 0)), (1, .int y.1), (2, .int y.2.1), (3, .long y.2.2.1), (5, .int y.2.2.2)] → WW X q o.2 39 ls []) (Sum.elim (fun y : Int32 × Int32 => ∀ ls : Array Slot, lv_has ls 6 [(0, .ref (q.1 0 0)), (1, .int y.1), (5, .int y.2)] → WW X q o.2 81 ls []) (fun y : Unit => ∀ ls : Array Slot, lv_has ls 6 [] → WW X q o.2 112 ls [])) o.1)) (l1 : Int32) (l2 : Int32) (l3 : Int64) (l5 : Int32) (s : S1) (ls : Array Slot) (hl : lv_has ls 6 [(0, .ref (q.1 0 0)), (1, .int l1), (2, .int l2), (3, .long l3), (5, .int l5)]) (h : M_Mo_entry_j91 l1 l2 l3 l5 s = some o) : WW X q s 91 ls [] := by
  unfold M_Mo_entry_j91 at h
  refine ww_aload_n (pc := 91) g.1 d_Mo_entry_91 rfl (lv_at hl 0 rfl) ?_
  refine ww_g5 (pc := 92) g (k := 61) cl_Mo (pz rfl (by decide)) (by decide) (Or.inl kw_129) (f := 61) (t := 73) (f2 := 9471) rfl rfl rfl rfl d_Mo_entry_92 h fun v92 hv92 h => ?_
  refine ww_ok h fun cv92 h => ?_
  refine ww_dn cv92 ?_
  have pd92 : prs s 73 0 := pd (f := 9471) rfl (by decide) hv92 cv92
  refine ww_aload_n (pc := 95) g.1 d_Mo_entry_95 rfl (lv_at hl 0 rfl) ?_
  refine ww_gR (pc := 96) g (k := 49) cl_Mo (pz rfl (by decide)) (by decide) (Or.inl kw_87) (f := 49) (t := 62) rfl rfl rfl d_Mo_entry_96 ?_
  refine ww_iload_n (pc := 99) g.1 d_Mo_entry_99 rfl (lv_at hl 1 rfl) ?_
  refine ww_ai (pc := 100) g (pz rfl (by decide)) rfl rfl d_Mo_entry_100 h fun v100 h => ?_
  refine ww_iload (pc := 101) g.1 d_Mo_entry_101 (lv_at hl 4 rfl) ?_
  refine ww_iadd (pc := 103) g.1 d_Mo_entry_103 ?_
  refine ww_ai (pc := 104) g pd92 rfl rfl d_Mo_entry_104 h fun v104 h => ?_
  refine ww_iconst (pc := 105) g.1 (v := 1) d_Mo_entry_105 (by decide) ?_
  refine ww_isub (pc := 106) g.1 d_Mo_entry_106 ?_
  refine ww_leti h fun l5_107 h => ?_
  refine ww_istore (pc := 107) (i := 5) g.1 (lv' := [(5, .int l5_107), (0, .ref (q.1 0 0)), (1, .int l1), (2, .int l2), (3, .long l3)]) d_Mo_entry_107 hl (by decide) rfl fun ls hl => ?_
  refine ww_goto (pc := 109) (tgt := 39) g.1 d_Mo_entry_109 (by decide) ?_
  rw [oR_eq h] at hR
  exact hR ls (lv_sub hl [1, 2, 3, 4, 0] rfl)

theorem lp_Mo_entry_L39 {X : Cx} {q : PL} (g : Gd X y_Mo_entry b_Mo_entry 6 (some .int) 2 49 R_Mo) (x : Int32 × Int32 × Int64 × Int32) (s : S1) (o : ((Int32 × Int32 × Int64 × Int32) ⊕ ((Int32 × Int32) ⊕ (Unit))) × S1) (h : M_Mo_entry_L39 x s = some o) (hR : (Sum.elim (fun y : Int32 × Int32 × Int64 × Int32 => ∀ ls : Array Slot, lv_has ls 6 [(0, .ref (q.1 0 0)), (1, .int y.1), (2, .int y.2.1), (3, .long y.2.2.1), (5, .int y.2.2.2)] → WW X q o.2 39 ls []) (Sum.elim (fun y : Int32 × Int32 => ∀ ls : Array Slot, lv_has ls 6 [(0, .ref (q.1 0 0)), (1, .int y.1), (5, .int y.2)] → WW X q o.2 81 ls []) (fun y : Unit => ∀ ls : Array Slot, lv_has ls 6 [] → WW X q o.2 112 ls [])) o.1)) : ∀ ls : Array Slot, lv_has ls 6 [(0, .ref (q.1 0 0)), (1, .int x.1), (2, .int x.2.1), (3, .long x.2.2.1), (5, .int x.2.2.2)] → WW X q s 39 ls [] := by
  intro ls hl
  unfold M_Mo_entry_L39 at h
  refine ww_iload (pc := 39) g.1 d_Mo_entry_39 (lv_at hl 4 rfl) ?_
  refine ww_if_lt (pc := 41) (tgt := 112) g.1 d_Mo_entry_41 (by decide) h (fun c h => ?_) (fun c h => ?_)
  · rw [oR_eq h] at hR
    exact hR ls (lv_sub hl [] rfl)
  · refine ww_aload_n (pc := 44) g.1 d_Mo_entry_44 rfl (lv_at hl 0 rfl) ?_
    refine ww_g5 (pc := 45) g (k := 57) cl_Mo (pz rfl (by decide)) (by decide) (Or.inl kw_124) (f := 57) (t := 69) (f2 := 8959) rfl rfl rfl rfl d_Mo_entry_45 h fun v45 hv45 h => ?_
    refine ww_ok h fun cv45 h => ?_
    refine ww_dn cv45 ?_
    have pd45 : prs s 69 0 := pd (f := 8959) rfl (by decide) hv45 cv45
    refine ww_aload_n (pc := 48) g.1 d_Mo_entry_48 rfl (lv_at hl 0 rfl) ?_
    refine ww_gR (pc := 49) g (k := 49) cl_Mo (pz rfl (by decide)) (by decide) (Or.inl kw_87) (f := 49) (t := 62) rfl rfl rfl d_Mo_entry_49 ?_
    refine ww_iload_n (pc := 52) g.1 d_Mo_entry_52 rfl (lv_at hl 1 rfl) ?_
    refine ww_ai (pc := 53) g (pz rfl (by decide)) rfl rfl d_Mo_entry_53 h fun v53 h => ?_
    refine ww_iload (pc := 54) g.1 d_Mo_entry_54 (lv_at hl 4 rfl) ?_
    refine ww_iadd (pc := 56) g.1 d_Mo_entry_56 ?_
    refine ww_ab (pc := 57) g pd45 rfl rfl d_Mo_entry_57 h fun v57 h => ?_
    refine ww_iload_n (pc := 58) g.1 d_Mo_entry_58 rfl (lv_at hl 2 rfl) ?_
    refine ww_icmp_ne (pc := 59) (tgt := 91) g.1 d_Mo_entry_59 (by decide) h (fun c h => ?_) (fun c h => ?_)
    · exact j_Mo_entry_j91 g hR x.1 x.2.1 x.2.2.1 x.2.2.2 s ls (lv_sub hl [0, 1, 2, 3, 4] rfl) h
    · refine ww_aload_n (pc := 62) g.1 d_Mo_entry_62 rfl (lv_at hl 0 rfl) ?_
      refine ww_g5 (pc := 63) g (k := 59) cl_Mo (pz rfl (by decide)) (by decide) (Or.inl kw_125) (f := 59) (t := 71) (f2 := 9215) rfl rfl rfl rfl d_Mo_entry_63 h fun v63 hv63 h => ?_
      refine ww_ok h fun cv63 h => ?_
      refine ww_dn cv63 ?_
      have pd63 : prs s 71 0 := pd (f := 9215) rfl (by decide) hv63 cv63
      refine ww_aload_n (pc := 66) g.1 d_Mo_entry_66 rfl (lv_at hl 0 rfl) ?_
      refine ww_gR (pc := 67) g (k := 49) cl_Mo (pz rfl (by decide)) (by decide) (Or.inl kw_87) (f := 49) (t := 62) rfl rfl rfl d_Mo_entry_67 ?_
      refine ww_iload_n (pc := 70) g.1 d_Mo_entry_70 rfl (lv_at hl 1 rfl) ?_
      refine ww_ai (pc := 71) g (pz rfl (by decide)) rfl rfl d_Mo_entry_71 h fun v71 h => ?_
      refine ww_iload (pc := 72) g.1 d_Mo_entry_72 (lv_at hl 4 rfl) ?_
      refine ww_iadd (pc := 74) g.1 d_Mo_entry_74 ?_
      refine ww_al (pc := 75) g pd63 rfl rfl d_Mo_entry_75 h fun v75 h => ?_
      refine ww_lload_n (pc := 76) g.1 d_Mo_entry_76 rfl (lv_at hl 3 rfl) ?_
      refine ww_lcmp (pc := 77) g.1 d_Mo_entry_77 ?_
      refine ww_if_ne (pc := 78) (tgt := 91) g.1 d_Mo_entry_78 (by decide) h (fun c h => ?_) (fun c h => ?_)
      · exact j_Mo_entry_j91 g hR x.1 x.2.1 x.2.2.1 x.2.2.2 s ls (lv_sub hl [0, 1, 2, 3, 4] rfl) h
      · rw [oR_eq h] at hR
        exact hR ls (lv_sub hl [0, 1, 4] rfl)

theorem ct_Mo_entry {l : Launch} {P : PP} {q : PL} {s s' : S1} {l1 : Int32} {l2 : Int32} {l3 : Int64} {r : Int32} (h : M_Mo_entry l1 l2 l3 s = some (r, s')) : Ct l y_Mo_entry b_Mo_entry 6 (some .int) 2 49 P q s [.ref (q.1 0 0), .int l1, .int l2, .long l3] (some (.int r)) q s' := by
  refine ct_of (by decide) (Nat.le_of_ble_eq_true rfl) fun X ls eP el g hR hl => ?_
  subst eP
  have hR : Rt X q ((r, s') : Int32 × S1).2 (some (.int ((r, s') : Int32 × S1).1)) := hR
  have hl : lv_has ls 6 [(0, .ref (q.1 0 0)), (1, .int l1), (2, .int l2), (3, .long l3)] := hl
  generalize (r, s') = o at h hR
  unfold M_Mo_entry at h
  refine ww_aload_n (pc := 0) g.1 d_Mo_entry_0 rfl (lv_at hl 0 rfl) ?_
  refine ww_gR (pc := 1) g (k := 50) cl_Mo (pz rfl (by decide)) (by decide) (Or.inl kw_91) (f := 50) (t := 63) rfl rfl rfl d_Mo_entry_1 ?_
  refine ww_iload_n (pc := 4) g.1 d_Mo_entry_4 rfl (lv_at hl 1 rfl) ?_
  refine ww_ai (pc := 5) g (pz rfl (by decide)) rfl rfl d_Mo_entry_5 h fun v5 h => ?_
  refine ww_if_ne (pc := 6) (tgt := 11) g.1 d_Mo_entry_6 (by decide) h (fun c h => ?_) (fun c h => ?_)
  · refine ww_aload_n (pc := 11) g.1 d_Mo_entry_11 rfl (lv_at hl 0 rfl) ?_
    refine ww_g5 (pc := 12) g (k := 62) cl_Mo (pz rfl (by decide)) (by decide) (Or.inl kw_130) (f := 62) (t := 74) (f2 := 9599) rfl rfl rfl rfl d_Mo_entry_12 h fun v12 hv12 h => ?_
    refine ww_ok h fun cv12 h => ?_
    refine ww_dn cv12 ?_
    have pd12 : prs s 74 0 := pd (f := 9599) rfl (by decide) hv12 cv12
    refine ww_aload_n (pc := 15) g.1 d_Mo_entry_15 rfl (lv_at hl 0 rfl) ?_
    refine ww_gR (pc := 16) g (k := 49) cl_Mo (pz rfl (by decide)) (by decide) (Or.inl kw_87) (f := 49) (t := 62) rfl rfl rfl d_Mo_entry_16 ?_
    refine ww_iload_n (pc := 19) g.1 d_Mo_entry_19 rfl (lv_at hl 1 rfl) ?_
    refine ww_ai (pc := 20) g (pz rfl (by decide)) rfl rfl d_Mo_entry_20 h fun v20 h => ?_
    refine ww_aload_n (pc := 21) g.1 d_Mo_entry_21 rfl (lv_at hl 0 rfl) ?_
    refine ww_aload_n (pc := 22) g.1 d_Mo_entry_22 rfl (lv_at hl 0 rfl) ?_
    refine ww_gR (pc := 23) g (k := 50) cl_Mo (pz rfl (by decide)) (by decide) (Or.inl kw_91) (f := 50) (t := 63) rfl rfl rfl d_Mo_entry_23 ?_
    refine ww_iload_n (pc := 26) g.1 d_Mo_entry_26 rfl (lv_at hl 1 rfl) ?_
    refine ww_ai (pc := 27) g (pz rfl (by decide)) rfl rfl d_Mo_entry_27 h fun v27 h => ?_
    refine ww_iload_n (pc := 28) g.1 d_Mo_entry_28 rfl (lv_at hl 2 rfl) ?_
    refine ww_lload_n (pc := 29) g.1 d_Mo_entry_29 rfl (lv_at hl 3 rfl) ?_
    obtain ⟨v30, s, hc30, h⟩ := oB_of h
    refine ww_callV (pc := 30) (rest := [.int v20, .ref (q.1 74 0)]) g cv_Mo_slot (Or.inl kw_128) cl_Mo (pz rfl (by decide)) (ct_Mo_slot hc30) ⟨by decide, by decide⟩ rfl hl.1 (Nat.le_of_ble_eq_true rfl) d_Mo_entry_30 rfl ?_
    refine ww_st (st' := [.int v30, .int v20, .ref (q.1 74 0)]) rfl ?_
    refine ww_pr h fun pd12 h => ?_
    refine ww_iadd (pc := 33) g.1 d_Mo_entry_33 ?_
    refine ww_ai (pc := 34) g pd12 rfl rfl d_Mo_entry_34 h fun v34 h => ?_
    refine ww_iconst (pc := 35) g.1 (v := 1) d_Mo_entry_35 (by decide) ?_
    refine ww_isub (pc := 36) g.1 d_Mo_entry_36 ?_
    refine ww_leti h fun l5_37 h => ?_
    refine ww_istore (pc := 37) (i := 5) g.1 (lv' := [(5, .int l5_37), (0, .ref (q.1 0 0)), (1, .int l1), (2, .int l2), (3, .long l3)]) d_Mo_entry_37 hl (by decide) rfl fun ls hl => ?_
    obtain ⟨e39, s1, hw, h⟩ := oB_of h
    refine oW_rule (Wh := fun (x : Int32 × Int32 × Int64 × Int32) (s : S1) => ∀ ls : Array Slot, lv_has ls 6 [(0, .ref (q.1 0 0)), (1, .int x.1), (2, .int x.2.1), (3, .long x.2.2.1), (5, .int x.2.2.2)] → WW X q s 39 ls []) (We := fun (e : (Int32 × Int32) ⊕ (Unit)) (s : S1) => (Sum.elim (fun y : Int32 × Int32 => ∀ ls : Array Slot, lv_has ls 6 [(0, .ref (q.1 0 0)), (1, .int y.1), (5, .int y.2)] → WW X q s 81 ls []) (fun y : Unit => ∀ ls : Array Slot, lv_has ls 6 [] → WW X q s 112 ls [])) e) (fun x s o hb hc => lp_Mo_entry_L39 (q := q) g x s o hb hc) hw ?_ ls (lv_sub hl [1, 2, 3, 4, 0] rfl)
    clear hw hl
    clear ls
    generalize s1 = s at h ⊢
    rcases e39 with y39_81 | y39_112
    · intro ls hl
      dsimp only [Sum.elim_inl, Sum.elim_inr] at h
      refine ww_aload_n (pc := 81) g.1 d_Mo_entry_81 rfl (lv_at hl 0 rfl) ?_
      refine ww_gR (pc := 82) g (k := 49) cl_Mo (pz rfl (by decide)) (by decide) (Or.inl kw_87) (f := 49) (t := 62) rfl rfl rfl d_Mo_entry_82 ?_
      refine ww_iload_n (pc := 85) g.1 d_Mo_entry_85 rfl (lv_at hl 1 rfl) ?_
      refine ww_ai (pc := 86) g (pz rfl (by decide)) rfl rfl d_Mo_entry_86 h fun v86 h => ?_
      refine ww_iload (pc := 87) g.1 d_Mo_entry_87 (lv_at hl 2 rfl) ?_
      refine ww_iadd (pc := 89) g.1 d_Mo_entry_89 ?_
      exact ww_iretH (pc := 90) g h hR d_Mo_entry_90
    · intro ls hl
      dsimp only [Sum.elim_inl, Sum.elim_inr] at h
      refine ww_iconst (pc := 112) g.1 (v := (-1)) d_Mo_entry_112 (by decide) ?_
      exact ww_iretH (pc := 113) g h hR d_Mo_entry_113
  · refine ww_iconst (pc := 9) g.1 (v := (-1)) d_Mo_entry_9 (by decide) ?_
    exact ww_iretH (pc := 10) g h hR d_Mo_entry_10


