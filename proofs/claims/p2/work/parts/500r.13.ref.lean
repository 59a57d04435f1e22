abbrev b_Mo_border : ByteArray := prog_14_method_39_code
def y_Mo_border : MethodName := ⟨R_Mo, "border", "(I)J"⟩
abbrev w_Mo_border : List Cond := .code y_Mo_border b_Mo_border 4 (some .long) :: wA
theorem k_Mo_border : Cond.code y_Mo_border b_Mo_border 4 (some .long) ∈ wA := kinm (show _ ∈ tables_1 from (List.mem_append_right _ (List.mem_append_right _ (List.mem_append_right _ (List.mem_append_right _ (List.mem_append_right _ (List.mem_append_right _ (List.mem_append_right _ (List.mem_append_right _ (List.mem_append_right _ (List.mem_append_right _ (List.mem_append_right _ (List.mem_append_right _ (List.mem_append_left _ (List.mem_of_getElem? (l := tables_1_13) (i := 12) (by decide +kernel)))))))))))))))) (by decide +kernel)
theorem d_Mo_border_0 : decode b_Mo_border 0 = .ok (.lconst 0, 1) := by decide +kernel
theorem d_Mo_border_1 : decode b_Mo_border 1 = .ok (.lstore_n 2, 1) := by decide +kernel
theorem d_Mo_border_2 : decode b_Mo_border 2 = .ok (.aload_n 0, 1) := by decide +kernel
theorem d_Mo_border_3 : decode b_Mo_border 3 = .ok (.iload_n 1, 1) := by decide +kernel
theorem d_Mo_border_4 : decode b_Mo_border 4 = .ok (.iconst 3, 1) := by decide +kernel
theorem d_Mo_border_5 : decode b_Mo_border 5 = .ok (.lload_n 2, 1) := by decide +kernel
theorem d_Mo_border_6 : decode b_Mo_border 6 = .ok (.lconst 1, 1) := by decide +kernel
theorem d_Mo_border_7 : decode b_Mo_border 7 = .ok (.ladd, 1) := by decide +kernel
theorem d_Mo_border_8 : decode b_Mo_border 8 = .ok (.invokevirtual 581, 3) := by decide +kernel
theorem d_Mo_border_11 : decode b_Mo_border 11 = .ok (.ifCond .eq 10, 3) := by decide +kernel
theorem d_Mo_border_14 : decode b_Mo_border 14 = .ok (.lload_n 2, 1) := by decide +kernel
theorem d_Mo_border_15 : decode b_Mo_border 15 = .ok (.lconst 1, 1) := by decide +kernel
theorem d_Mo_border_16 : decode b_Mo_border 16 = .ok (.ladd, 1) := by decide +kernel
theorem d_Mo_border_17 : decode b_Mo_border 17 = .ok (.lstore_n 2, 1) := by decide +kernel
theorem d_Mo_border_18 : decode b_Mo_border 18 = .ok (.goto (-16), 3) := by decide +kernel
theorem d_Mo_border_21 : decode b_Mo_border 21 = .ok (.lload_n 2, 1) := by decide +kernel
theorem d_Mo_border_22 : decode b_Mo_border 22 = .ok (.lreturn, 1) := by decide +kernel
theorem kw_361 : Cond.instanceMethod y_Mo_border ∈ wA := kinm (show _ ∈ tables_1 from (List.mem_append_right _ (List.mem_append_right _ (List.mem_append_right _ (List.mem_append_right _ (List.mem_append_right _ (List.mem_append_right _ (List.mem_append_right _ (List.mem_append_right _ (List.mem_append_right _ (List.mem_append_right _ (List.mem_append_right _ (List.mem_append_right _ (List.mem_append_left _ (List.mem_of_getElem? (l := tables_1_13) (i := 11) (by decide +kernel)))))))))))))))) (by decide +kernel)
theorem kw_362 : Cond.selects R_Mo y_Mo_border y_Mo_border ∈ wA := kinp 177 (by decide +kernel) (by decide +kernel)
theorem cv_Mo_border : CV y_Mo_border b_Mo_border 4 (some .long) 1 := ⟨kw_361, kw_362, kw_17, k_Mo_border, by decide +kernel⟩
theorem lp_Mo_border_L2 {X : Cx} {q : PL} (g : Gd X y_Mo_border b_Mo_border 4 (some .long) 4 99 R_Mo) (x : Int32 × Int64) (s : S1) (o : ((Int32 × Int64) ⊕ ((Int64))) × S1) (h : M_Mo_border_L2 x s = some o) (hR : (Sum.elim (fun y : Int32 × Int64 => ∀ ls : Array Slot, lv_has ls 4 [(0, .ref (q.1 0 0)), (1, .int y.1), (2, .long y.2)] → WW X q o.2 2 ls []) (fun y : Int64 => ∀ ls : Array Slot, lv_has ls 4 [(2, .long y)] → WW X q o.2 21 ls []) o.1)) : ∀ ls : Array Slot, lv_has ls 4 [(0, .ref (q.1 0 0)), (1, .int x.1), (2, .long x.2)] → WW X q s 2 ls [] := by
  intro ls hl
  unfold M_Mo_border_L2 at h
  refine ww_aload_n (pc := 2) g.1 d_Mo_border_2 rfl (lv_at hl 0 rfl) ?_
  refine ww_iload_n (pc := 3) g.1 d_Mo_border_3 rfl (lv_at hl 1 rfl) ?_
  refine ww_iconst (pc := 4) g.1 (v := 3) d_Mo_border_4 (by decide) ?_
  refine ww_lload_n (pc := 5) g.1 d_Mo_border_5 rfl (lv_at hl 2 rfl) ?_
  refine ww_lconst (pc := 6) g.1 (v := 1) d_Mo_border_6 (by decide) ?_
  refine ww_ladd (pc := 7) g.1 d_Mo_border_7 ?_
  obtain ⟨v8, s, hc8, h⟩ := oB_of h
  refine ww_callV (pc := 8) (rest := []) g cv_Mo_raw (Or.inl kw_356) cl_Mo (pz rfl (by decide)) (ct_Mo_raw hc8) ⟨by decide, by decide⟩ rfl hl.1 (Nat.le_of_ble_eq_true rfl) d_Mo_border_8 rfl ?_
  refine ww_st (st' := [.int v8]) rfl ?_
  refine ww_if_eq (pc := 11) (tgt := 21) g.1 d_Mo_border_11 (by decide) h (fun c h => ?_) (fun c h => ?_)
  · rw [oR_eq h] at hR
    exact hR ls (lv_sub hl [2] rfl)
  · refine ww_lload_n (pc := 14) g.1 d_Mo_border_14 rfl (lv_at hl 2 rfl) ?_
    refine ww_lconst (pc := 15) g.1 (v := 1) d_Mo_border_15 (by decide) ?_
    refine ww_ladd (pc := 16) g.1 d_Mo_border_16 ?_
    refine ww_letl h fun l2_17 h => ?_
    refine ww_lstore_n (pc := 17) (i := 2) g.1 (lv' := [(2, .long l2_17), (0, .ref (q.1 0 0)), (1, .int x.1)]) d_Mo_border_17 rfl hl (by decide) rfl fun ls hl => ?_
    refine ww_goto (pc := 18) (tgt := 2) g.1 d_Mo_border_18 (by decide) ?_
    rw [oR_eq h] at hR
    exact hR ls (lv_sub hl [1, 2, 0] rfl)

theorem ct_Mo_border {l : Launch} {P : PP} {q : PL} {s s' : S1} {l1 : Int32} {r : Int64} (h : M_Mo_border l1 s = some (r, s')) : Ct l y_Mo_border b_Mo_border 4 (some .long) 4 99 P q s [.ref (q.1 0 0), .int l1] (some (.long r)) q s' := by
  refine ct_of (by decide) (Nat.le_of_ble_eq_true rfl) fun X ls eP el g hR hl => ?_
  subst eP
  have hR : Rt X q ((r, s') : Int64 × S1).2 (some (.long ((r, s') : Int64 × S1).1)) := hR
  have hl : lv_has ls 4 [(0, .ref (q.1 0 0)), (1, .int l1)] := hl
  generalize (r, s') = o at h hR
  unfold M_Mo_border at h
  refine ww_lconst (pc := 0) g.1 (v := 0) d_Mo_border_0 (by decide) ?_
  refine ww_lstore_n (pc := 1) (i := 2) g.1 (lv' := [(2, .long 0), (0, .ref (q.1 0 0)), (1, .int l1)]) d_Mo_border_1 rfl hl (by decide) rfl fun ls hl => ?_
  obtain ⟨e2, s1, hw, h⟩ := oB_of h
  refine oW_rule (Wh := fun (x : Int32 × Int64) (s : S1) => ∀ ls : Array Slot, lv_has ls 4 [(0, .ref (q.1 0 0)), (1, .int x.1), (2, .long x.2)] → WW X q s 2 ls []) (We := fun (e : (Int64)) (s : S1) => ∀ ls : Array Slot, lv_has ls 4 [(2, .long e)] → WW X q s 21 ls []) (fun x s o hb hc => lp_Mo_border_L2 (q := q) g x s o hb hc) hw ?_ ls (lv_sub hl [1, 2, 0] rfl)
  clear hw hl
  clear ls
  intro ls hl
  generalize s1 = s at h ⊢
  refine ww_lload_n (pc := 21) g.1 d_Mo_border_21 rfl (lv_at hl 0 rfl) ?_
  exact ww_lretH (pc := 22) g h hR d_Mo_border_22

abbrev b_Mo_next : ByteArray := prog_14_method_91_code
def y_Mo_next : MethodName := ⟨R_Mo, "next", "()V"⟩
abbrev w_Mo_next : List Cond := .code y_Mo_next b_Mo_next 4 none :: wA
set_option maxRecDepth 20000 in
theorem k_Mo_next : Cond.code y_Mo_next b_Mo_next 4 none ∈ wA := kinm (show _ ∈ tables_1 from (List.mem_append_right _ (List.mem_append_right _ (List.mem_append_right _ (List.mem_append_right _ (List.mem_append_right _ (List.mem_append_right _ (List.mem_append_right _ (List.mem_append_right _ (List.mem_append_right _ (List.mem_append_right _ (List.mem_append_right _ (List.mem_append_right _ (List.mem_append_left _ (List.mem_of_getElem? (l := tables_1_13) (i := 16) rfl))))))))))))))) rfl
theorem d_Mo_next_0 : decode b_Mo_next 0 = .ok (.aload_n 0, 1) := by decide +kernel
theorem d_Mo_next_1 : decode b_Mo_next 1 = .ok (.iconst 0, 1) := by decide +kernel
theorem d_Mo_next_2 : decode b_Mo_next 2 = .ok (.iconst 5, 1) := by decide +kernel
theorem d_Mo_next_3 : decode b_Mo_next 3 = .ok (.invokevirtual 833, 3) := by decide +kernel
theorem d_Mo_next_6 : decode b_Mo_next 6 = .ok (.ifCond .ne 10, 3) := by decide +kernel
theorem d_Mo_next_9 : decode b_Mo_next 9 = .ok (.aload_n 0, 1) := by decide +kernel
theorem d_Mo_next_10 : decode b_Mo_next 10 = .ok (.iconst 2, 1) := by decide +kernel
theorem d_Mo_next_11 : decode b_Mo_next 11 = .ok (.invokevirtual 517, 3) := by decide +kernel
theorem d_Mo_next_14 : decode b_Mo_next 14 = .ok (.pop, 1) := by decide +kernel
theorem d_Mo_next_15 : decode b_Mo_next 15 = .ok (.return_, 1) := by decide +kernel
theorem d_Mo_next_16 : decode b_Mo_next 16 = .ok (.aload_n 0, 1) := by decide +kernel
theorem d_Mo_next_17 : decode b_Mo_next 17 = .ok (.iconst 0, 1) := by decide +kernel
theorem d_Mo_next_18 : decode b_Mo_next 18 = .ok (.invokevirtual 807, 3) := by decide +kernel
theorem d_Mo_next_21 : decode b_Mo_next 21 = .ok (.l2i, 1) := by decide +kernel
theorem d_Mo_next_22 : decode b_Mo_next 22 = .ok (.istore_n 1, 1) := by decide +kernel
theorem d_Mo_next_23 : decode b_Mo_next 23 = .ok (.aload_n 0, 1) := by decide +kernel
theorem d_Mo_next_24 : decode b_Mo_next 24 = .ok (.getfield 168, 3) := by decide +kernel
theorem d_Mo_next_27 : decode b_Mo_next 27 = .ok (.iload_n 1, 1) := by decide +kernel
theorem d_Mo_next_28 : decode b_Mo_next 28 = .ok (.iaload, 1) := by decide +kernel
theorem d_Mo_next_29 : decode b_Mo_next 29 = .ok (.istore_n 2, 1) := by decide +kernel
theorem d_Mo_next_30 : decode b_Mo_next 30 = .ok (.aload_n 0, 1) := by decide +kernel
theorem d_Mo_next_31 : decode b_Mo_next 31 = .ok (.iconst 1, 1) := by decide +kernel
theorem d_Mo_next_32 : decode b_Mo_next 32 = .ok (.iconst 0, 1) := by decide +kernel
theorem d_Mo_next_33 : decode b_Mo_next 33 = .ok (.invokevirtual 833, 3) := by decide +kernel
theorem d_Mo_next_36 : decode b_Mo_next 36 = .ok (.ifCond .ne 35, 3) := by decide +kernel
theorem d_Mo_next_39 : decode b_Mo_next 39 = .ok (.aload_n 0, 1) := by decide +kernel
theorem d_Mo_next_40 : decode b_Mo_next 40 = .ok (.iload_n 1, 1) := by decide +kernel
theorem d_Mo_next_41 : decode b_Mo_next 41 = .ok (.aload_n 0, 1) := by decide +kernel
theorem d_Mo_next_42 : decode b_Mo_next 42 = .ok (.iconst 1, 1) := by decide +kernel
theorem d_Mo_next_43 : decode b_Mo_next 43 = .ok (.invokevirtual 797, 3) := by decide +kernel
theorem d_Mo_next_46 : decode b_Mo_next 46 = .ok (.aload_n 0, 1) := by decide +kernel
theorem d_Mo_next_47 : decode b_Mo_next 47 = .ok (.iconst 1, 1) := by decide +kernel
theorem d_Mo_next_48 : decode b_Mo_next 48 = .ok (.invokevirtual 807, 3) := by decide +kernel
theorem d_Mo_next_51 : decode b_Mo_next 51 = .ok (.invokevirtual 552, 3) := by decide +kernel
theorem d_Mo_next_54 : decode b_Mo_next 54 = .ok (.istore_n 3, 1) := by decide +kernel
theorem d_Mo_next_55 : decode b_Mo_next 55 = .ok (.iload_n 3, 1) := by decide +kernel
theorem d_Mo_next_56 : decode b_Mo_next 56 = .ok (.ifCond .ge 11, 3) := by decide +kernel
theorem d_Mo_next_59 : decode b_Mo_next 59 = .ok (.aload_n 0, 1) := by decide +kernel
theorem d_Mo_next_60 : decode b_Mo_next 60 = .ok (.bipush 6, 2) := by decide +kernel
theorem d_Mo_next_62 : decode b_Mo_next 62 = .ok (.invokevirtual 517, 3) := by decide +kernel
theorem d_Mo_next_65 : decode b_Mo_next 65 = .ok (.pop, 1) := by decide +kernel
theorem d_Mo_next_66 : decode b_Mo_next 66 = .ok (.return_, 1) := by decide +kernel
theorem d_Mo_next_67 : decode b_Mo_next 67 = .ok (.iload_n 3, 1) := by decide +kernel
theorem d_Mo_next_68 : decode b_Mo_next 68 = .ok (.iconst 1, 1) := by decide +kernel
theorem d_Mo_next_69 : decode b_Mo_next 69 = .ok (.iadd, 1) := by decide +kernel
theorem d_Mo_next_70 : decode b_Mo_next 70 = .ok (.istore_n 2, 1) := by decide +kernel
theorem d_Mo_next_71 : decode b_Mo_next 71 = .ok (.aload_n 0, 1) := by decide +kernel
theorem d_Mo_next_72 : decode b_Mo_next 72 = .ok (.getfield 168, 3) := by decide +kernel
theorem d_Mo_next_75 : decode b_Mo_next 75 = .ok (.iload_n 1, 1) := by decide +kernel
theorem d_Mo_next_76 : decode b_Mo_next 76 = .ok (.iaload, 1) := by decide +kernel
theorem d_Mo_next_77 : decode b_Mo_next 77 = .ok (.aload_n 0, 1) := by decide +kernel
theorem d_Mo_next_78 : decode b_Mo_next 78 = .ok (.getfield 174, 3) := by decide +kernel
theorem d_Mo_next_81 : decode b_Mo_next 81 = .ok (.iload_n 1, 1) := by decide +kernel
theorem d_Mo_next_82 : decode b_Mo_next 82 = .ok (.iaload, 1) := by decide +kernel
theorem d_Mo_next_83 : decode b_Mo_next 83 = .ok (.iadd, 1) := by decide +kernel
theorem d_Mo_next_84 : decode b_Mo_next 84 = .ok (.istore_n 3, 1) := by decide +kernel
theorem d_Mo_next_85 : decode b_Mo_next 85 = .ok (.iload_n 2, 1) := by decide +kernel
theorem d_Mo_next_86 : decode b_Mo_next 86 = .ok (.iload_n 3, 1) := by decide +kernel
theorem d_Mo_next_87 : decode b_Mo_next 87 = .ok (.if_icmp .ge 18, 3) := by decide +kernel
theorem d_Mo_next_90 : decode b_Mo_next 90 = .ok (.aload_n 0, 1) := by decide +kernel
theorem d_Mo_next_91 : decode b_Mo_next 91 = .ok (.getfield 196, 3) := by decide +kernel
theorem d_Mo_next_94 : decode b_Mo_next 94 = .ok (.iload_n 2, 1) := by decide +kernel
theorem d_Mo_next_95 : decode b_Mo_next 95 = .ok (.baload, 1) := by decide +kernel
theorem d_Mo_next_96 : decode b_Mo_next 96 = .ok (.ifCond .ne 9, 3) := by decide +kernel
theorem d_Mo_next_99 : decode b_Mo_next 99 = .ok (.iinc 2 1, 3) := by decide +kernel
theorem d_Mo_next_102 : decode b_Mo_next 102 = .ok (.goto (-17), 3) := by decide +kernel
theorem d_Mo_next_105 : decode b_Mo_next 105 = .ok (.iload_n 2, 1) := by decide +kernel
theorem d_Mo_next_106 : decode b_Mo_next 106 = .ok (.iload_n 3, 1) := by decide +kernel
theorem d_Mo_next_107 : decode b_Mo_next 107 = .ok (.if_icmp .ne 10, 3) := by decide +kernel
theorem d_Mo_next_110 : decode b_Mo_next 110 = .ok (.aload_n 0, 1) := by decide +kernel
theorem d_Mo_next_111 : decode b_Mo_next 111 = .ok (.iconst 0, 1) := by decide +kernel
theorem d_Mo_next_112 : decode b_Mo_next 112 = .ok (.lconst 0, 1) := by decide +kernel
theorem d_Mo_next_113 : decode b_Mo_next 113 = .ok (.invokevirtual 804, 3) := by decide +kernel
theorem d_Mo_next_116 : decode b_Mo_next 116 = .ok (.return_, 1) := by decide +kernel
theorem d_Mo_next_117 : decode b_Mo_next 117 = .ok (.aload_n 0, 1) := by decide +kernel
theorem d_Mo_next_118 : decode b_Mo_next 118 = .ok (.aload_n 0, 1) := by decide +kernel
theorem d_Mo_next_119 : decode b_Mo_next 119 = .ok (.getfield 193, 3) := by decide +kernel
theorem d_Mo_next_122 : decode b_Mo_next 122 = .ok (.iload_n 2, 1) := by decide +kernel
theorem d_Mo_next_123 : decode b_Mo_next 123 = .ok (.baload, 1) := by decide +kernel
theorem d_Mo_next_124 : decode b_Mo_next 124 = .ok (.aload_n 0, 1) := by decide +kernel
theorem d_Mo_next_125 : decode b_Mo_next 125 = .ok (.getfield 199, 3) := by decide +kernel
theorem d_Mo_next_128 : decode b_Mo_next 128 = .ok (.iload_n 2, 1) := by decide +kernel
theorem d_Mo_next_129 : decode b_Mo_next 129 = .ok (.laload, 1) := by decide +kernel
theorem d_Mo_next_130 : decode b_Mo_next 130 = .ok (.invokevirtual 804, 3) := by decide +kernel
theorem d_Mo_next_133 : decode b_Mo_next 133 = .ok (.aload_n 0, 1) := by decide +kernel
theorem d_Mo_next_134 : decode b_Mo_next 134 = .ok (.getfield 262, 3) := by decide +kernel
theorem d_Mo_next_137 : decode b_Mo_next 137 = .ok (.aload_n 0, 1) := by decide +kernel
theorem d_Mo_next_138 : decode b_Mo_next 138 = .ok (.getfield 196, 3) := by decide +kernel
theorem d_Mo_next_141 : decode b_Mo_next 141 = .ok (.iload_n 2, 1) := by decide +kernel
theorem d_Mo_next_142 : decode b_Mo_next 142 = .ok (.baload, 1) := by decide +kernel
theorem d_Mo_next_143 : decode b_Mo_next 143 = .ok (.aload_n 0, 1) := by decide +kernel
theorem d_Mo_next_144 : decode b_Mo_next 144 = .ok (.getfield 203, 3) := by decide +kernel
theorem d_Mo_next_147 : decode b_Mo_next 147 = .ok (.iload_n 2, 1) := by decide +kernel
theorem d_Mo_next_148 : decode b_Mo_next 148 = .ok (.laload, 1) := by decide +kernel
theorem d_Mo_next_149 : decode b_Mo_next 149 = .ok (.invokevirtual 572, 3) := by decide +kernel
theorem d_Mo_next_152 : decode b_Mo_next 152 = .ok (.return_, 1) := by decide +kernel
theorem kw_363 : Cond.instanceMethod y_Mo_next ∈ wA := kinm (show _ ∈ tables_1 from (List.mem_append_right _ (List.mem_append_right _ (List.mem_append_right _ (List.mem_append_right _ (List.mem_append_right _ (List.mem_append_right _ (List.mem_append_right _ (List.mem_append_right _ (List.mem_append_right _ (List.mem_append_right _ (List.mem_append_right _ (List.mem_append_right _ (List.mem_append_left _ (List.mem_of_getElem? (l := tables_1_13) (i := 15) (by decide +kernel)))))))))))))))) (by decide +kernel)
theorem kw_364 : Cond.selects R_Mo y_Mo_next y_Mo_next ∈ wA := kinp 178 (by decide +kernel) (by decide +kernel)
theorem cv_Mo_next : CV y_Mo_next b_Mo_next 4 none 0 := ⟨kw_363, kw_364, kw_17, k_Mo_next, by decide +kernel⟩
theorem lp_Mo_next_L85 {X : Cx} {q : PL} (g : Gd X y_Mo_next b_Mo_next 4 none 3 74 R_Mo) (x : Int32 × Int32) (s : S1) (o : ((Int32 × Int32) ⊕ ((Int32 × Int32))) × S1) (h : M_Mo_next_L85 x s = some o) (hR : (Sum.elim (fun y : Int32 × Int32 => ∀ ls : Array Slot, lv_has ls 4 [(0, .ref (q.1 0 0)), (2, .int y.1), (3, .int y.2)] → WW X q o.2 85 ls []) (fun y : Int32 × Int32 => ∀ ls : Array Slot, lv_has ls 4 [(0, .ref (q.1 0 0)), (2, .int y.1), (3, .int y.2)] → WW X q o.2 105 ls []) o.1)) : ∀ ls : Array Slot, lv_has ls 4 [(0, .ref (q.1 0 0)), (2, .int x.1), (3, .int x.2)] → WW X q s 85 ls [] := by
  intro ls hl
  unfold M_Mo_next_L85 at h
  refine ww_iload_n (pc := 85) g.1 d_Mo_next_85 rfl (lv_at hl 1 rfl) ?_
  refine ww_iload_n (pc := 86) g.1 d_Mo_next_86 rfl (lv_at hl 2 rfl) ?_
  refine ww_icmp_ge (pc := 87) (tgt := 105) g.1 d_Mo_next_87 (by decide) h (fun c h => ?_) (fun c h => ?_)
  · rw [oR_eq h] at hR
    exact hR ls (lv_sub hl [0, 1, 2] rfl)
  · refine ww_aload_n (pc := 90) g.1 d_Mo_next_90 rfl (lv_at hl 0 rfl) ?_
    refine ww_g5 (pc := 91) g (k := 58) cl_Mo (pz rfl (by decide)) (by decide) (Or.inl kw_126) (f := 58) (t := 70) (f2 := 9087) rfl rfl rfl rfl d_Mo_next_91 h fun v91 hv91 h => ?_
    refine ww_ok h fun cv91 h => ?_
    refine ww_dn cv91 ?_
    have pd91 : prs s 70 0 := pd (f := 9087) rfl (by decide) hv91 cv91
    refine ww_iload_n (pc := 94) g.1 d_Mo_next_94 rfl (lv_at hl 1 rfl) ?_
    refine ww_ab (pc := 95) g pd91 rfl rfl d_Mo_next_95 h fun v95 h => ?_
    refine ww_if_ne (pc := 96) (tgt := 105) g.1 d_Mo_next_96 (by decide) h (fun c h => ?_) (fun c h => ?_)
    · rw [oR_eq h] at hR
      exact hR ls (lv_sub hl [0, 1, 2] rfl)
    · refine ww_iinc (pc := 99) g.1 (v := x.1 + 1) (lv' := [(2, .int (x.1 + 1)), (0, .ref (q.1 0 0)), (3, .int x.2)]) d_Mo_next_99 hl (k := 1) rfl (by rfl) (by decide) rfl fun ls hl => ?_
      refine ww_goto (pc := 102) (tgt := 85) g.1 d_Mo_next_102 (by decide) ?_
      rw [oR_eq h] at hR
      exact hR ls (lv_sub hl [1, 0, 2] rfl)

theorem j_Mo_next_j105 {X : Cx} {q : PL} (g : Gd X y_Mo_next b_Mo_next 4 none 3 74 R_Mo) {o : (Unit) × S1} (hR : Rt X q o.2 none) (l2 : Int32) (l3 : Int32) (s : S1) (ls : Array Slot) (hl : lv_has ls 4 [(0, .ref (q.1 0 0)), (2, .int l2), (3, .int l3)]) (h : M_Mo_next_j105 l2 l3 s = some o) : WW X q s 105 ls [] := by
  unfold M_Mo_next_j105 at h
  refine ww_iload_n (pc := 105) g.1 d_Mo_next_105 rfl (lv_at hl 1 rfl) ?_
  refine ww_iload_n (pc := 106) g.1 d_Mo_next_106 rfl (lv_at hl 2 rfl) ?_
  refine ww_icmp_ne (pc := 107) (tgt := 117) g.1 d_Mo_next_107 (by decide) h (fun c h => ?_) (fun c h => ?_)
  · refine ww_aload_n (pc := 117) g.1 d_Mo_next_117 rfl (lv_at hl 0 rfl) ?_
    refine ww_aload_n (pc := 118) g.1 d_Mo_next_118 rfl (lv_at hl 0 rfl) ?_
    refine ww_g5 (pc := 119) g (k := 57) cl_Mo (pz rfl (by decide)) (by decide) (Or.inl kw_124) (f := 57) (t := 69) (f2 := 8959) rfl rfl rfl rfl d_Mo_next_119 h fun v119 hv119 h => ?_
    refine ww_ok h fun cv119 h => ?_
    refine ww_dn cv119 ?_
    have pd119 : prs s 69 0 := pd (f := 8959) rfl (by decide) hv119 cv119
    refine ww_iload_n (pc := 122) g.1 d_Mo_next_122 rfl (lv_at hl 1 rfl) ?_
    refine ww_ab (pc := 123) g pd119 rfl rfl d_Mo_next_123 h fun v123 h => ?_
    refine ww_aload_n (pc := 124) g.1 d_Mo_next_124 rfl (lv_at hl 0 rfl) ?_
    refine ww_g5 (pc := 125) g (k := 59) cl_Mo (pz rfl (by decide)) (by decide) (Or.inl kw_125) (f := 59) (t := 71) (f2 := 9215) rfl rfl rfl rfl d_Mo_next_125 h fun v125 hv125 h => ?_
    refine ww_ok h fun cv125 h => ?_
    refine ww_dn cv125 ?_
    have pd125 : prs s 71 0 := pd (f := 9215) rfl (by decide) hv125 cv125
    refine ww_iload_n (pc := 128) g.1 d_Mo_next_128 rfl (lv_at hl 1 rfl) ?_
    refine ww_al (pc := 129) g pd125 rfl rfl d_Mo_next_129 h fun v129 h => ?_
    obtain ⟨v130, s, hc130, h⟩ := oB_of h
    refine ww_callV (pc := 130) (rest := []) g cv_Mo_give (Or.inl kw_212) cl_Mo (pz rfl (by decide)) (ct_Mo_give hc130) ⟨by decide, by decide⟩ rfl hl.1 (Nat.le_of_ble_eq_true rfl) d_Mo_next_130 rfl ?_
    refine ww_st (st' := []) rfl ?_
    refine ww_aload_n (pc := 133) g.1 d_Mo_next_133 rfl (lv_at hl 0 rfl) ?_
    refine ww_gR (pc := 134) g (k := 78) cl_Mo (pz rfl (by decide)) (by decide) (Or.inl kw_178) (f := 78) (t := 10) rfl rfl rfl d_Mo_next_134 ?_
    refine ww_aload_n (pc := 137) g.1 d_Mo_next_137 rfl (lv_at hl 0 rfl) ?_
    refine ww_g5 (pc := 138) g (k := 58) cl_Mo (pz rfl (by decide)) (by decide) (Or.inl kw_126) (f := 58) (t := 70) (f2 := 9087) rfl rfl rfl rfl d_Mo_next_138 h fun v138 hv138 h => ?_
    refine ww_ok h fun cv138 h => ?_
    refine ww_dn cv138 ?_
    have pd138 : prs s 70 0 := pd (f := 9087) rfl (by decide) hv138 cv138
    refine ww_iload_n (pc := 141) g.1 d_Mo_next_141 rfl (lv_at hl 1 rfl) ?_
    refine ww_ab (pc := 142) g pd138 rfl rfl d_Mo_next_142 h fun v142 h => ?_
    refine ww_aload_n (pc := 143) g.1 d_Mo_next_143 rfl (lv_at hl 0 rfl) ?_
    refine ww_g5 (pc := 144) g (k := 60) cl_Mo (pz rfl (by decide)) (by decide) (Or.inl kw_127) (f := 60) (t := 72) (f2 := 9343) rfl rfl rfl rfl d_Mo_next_144 h fun v144 hv144 h => ?_
    refine ww_ok h fun cv144 h => ?_
    refine ww_dn cv144 ?_
    have pd144 : prs s 72 0 := pd (f := 9343) rfl (by decide) hv144 cv144
    refine ww_iload_n (pc := 147) g.1 d_Mo_next_147 rfl (lv_at hl 1 rfl) ?_
    refine ww_al (pc := 148) g pd144 rfl rfl d_Mo_next_148 h fun v148 h => ?_
    obtain ⟨v149, s, hc149, h⟩ := oB_of h
    refine ww_callV (pc := 149) (rest := []) g cv_Va_add (Or.inl kw_187) (cl_Va (Or.inl ⟨by decide, rfl⟩)) (pz rfl (by decide)) (ct_Va_add (Or.inl ⟨by decide, rfl⟩) hc149) ⟨by decide, by decide⟩ rfl hl.1 (Nat.le_of_ble_eq_true rfl) d_Mo_next_149 rfl ?_
    refine ww_st (st' := []) rfl ?_
    exact ww_vretH (pc := 152) g h hR d_Mo_next_152
  · refine ww_aload_n (pc := 110) g.1 d_Mo_next_110 rfl (lv_at hl 0 rfl) ?_
    refine ww_iconst (pc := 111) g.1 (v := 0) d_Mo_next_111 (by decide) ?_
    refine ww_lconst (pc := 112) g.1 (v := 0) d_Mo_next_112 (by decide) ?_
    obtain ⟨v113, s, hc113, h⟩ := oB_of h
    refine ww_callV (pc := 113) (rest := []) g cv_Mo_give (Or.inl kw_212) cl_Mo (pz rfl (by decide)) (ct_Mo_give hc113) ⟨by decide, by decide⟩ rfl hl.1 (Nat.le_of_ble_eq_true rfl) d_Mo_next_113 rfl ?_
    refine ww_st (st' := []) rfl ?_
    exact ww_vretH (pc := 116) g h hR d_Mo_next_116

theorem j_Mo_next_j71 {X : Cx} {q : PL} (g : Gd X y_Mo_next b_Mo_next 4 none 3 74 R_Mo) {o : (Unit) × S1} (hR : Rt X q o.2 none) (l1 : Int32) (l2 : Int32) (s : S1) (ls : Array Slot) (hl : lv_has ls 4 [(0, .ref (q.1 0 0)), (1, .int l1), (2, .int l2)]) (h : M_Mo_next_j71 l1 l2 s = some o) : WW X q s 71 ls [] := by
  unfold M_Mo_next_j71 at h
  refine ww_aload_n (pc := 71) g.1 d_Mo_next_71 rfl (lv_at hl 0 rfl) ?_
  refine ww_gR (pc := 72) g (k := 49) cl_Mo (pz rfl (by decide)) (by decide) (Or.inl kw_87) (f := 49) (t := 62) rfl rfl rfl d_Mo_next_72 ?_
  refine ww_iload_n (pc := 75) g.1 d_Mo_next_75 rfl (lv_at hl 1 rfl) ?_
  refine ww_ai (pc := 76) g (pz rfl (by decide)) rfl rfl d_Mo_next_76 h fun v76 h => ?_
  refine ww_aload_n (pc := 77) g.1 d_Mo_next_77 rfl (lv_at hl 0 rfl) ?_
  refine ww_gR (pc := 78) g (k := 51) cl_Mo (pz rfl (by decide)) (by decide) (Or.inl kw_123) (f := 51) (t := 64) rfl rfl rfl d_Mo_next_78 ?_
  refine ww_iload_n (pc := 81) g.1 d_Mo_next_81 rfl (lv_at hl 1 rfl) ?_
  refine ww_ai (pc := 82) g (pz rfl (by decide)) rfl rfl d_Mo_next_82 h fun v82 h => ?_
  refine ww_iadd (pc := 83) g.1 d_Mo_next_83 ?_
  refine ww_leti h fun l3_84 h => ?_
  refine ww_istore_n (pc := 84) (i := 3) g.1 (lv' := [(3, .int l3_84), (0, .ref (q.1 0 0)), (1, .int l1), (2, .int l2)]) d_Mo_next_84 rfl hl (by decide) rfl fun ls hl => ?_
  obtain ⟨e85, s1, hw, h⟩ := oB_of h
  refine oW_rule (Wh := fun (x : Int32 × Int32) (s : S1) => ∀ ls : Array Slot, lv_has ls 4 [(0, .ref (q.1 0 0)), (2, .int x.1), (3, .int x.2)] → WW X q s 85 ls []) (We := fun (e : (Int32 × Int32)) (s : S1) => ∀ ls : Array Slot, lv_has ls 4 [(0, .ref (q.1 0 0)), (2, .int e.1), (3, .int e.2)] → WW X q s 105 ls []) (fun x s o hb hc => lp_Mo_next_L85 (q := q) g x s o hb hc) hw ?_ ls (lv_sub hl [1, 3, 0] rfl)
  clear hw hl
  clear ls
  intro ls hl
  generalize s1 = s at h ⊢
  exact j_Mo_next_j105 g hR e85.1 e85.2 s ls (lv_sub hl [0, 1, 2] rfl) h

theorem ct_Mo_next {l : Launch} {P : PP} {q : PL} {s s' : S1}  {r : Unit} (h : M_Mo_next s = some (r, s')) : Ct l y_Mo_next b_Mo_next 4 none 3 74 P q s [.ref (q.1 0 0)] none q s' := by
  refine ct_of (by decide) (Nat.le_of_ble_eq_true rfl) fun X ls eP el g hR hl => ?_
  subst eP
  have hR : Rt X q ((r, s') : Unit × S1).2 none := hR
  have hl : lv_has ls 4 [(0, .ref (q.1 0 0))] := hl
  generalize (r, s') = o at h hR
  unfold M_Mo_next at h
  refine ww_aload_n (pc := 0) g.1 d_Mo_next_0 rfl (lv_at hl 0 rfl) ?_
  refine ww_iconst (pc := 1) g.1 (v := 0) d_Mo_next_1 (by decide) ?_
  refine ww_iconst (pc := 2) g.1 (v := 5) d_Mo_next_2 (by decide) ?_
  obtain ⟨v3, s, hc3, h⟩ := oB_of h
  refine ww_callV (pc := 3) (rest := []) g cv_Mo_is (Or.inl kw_206) cl_Mo (pz rfl (by decide)) (ct_Mo_is hc3) ⟨by decide, by decide⟩ rfl hl.1 (Nat.le_of_ble_eq_true rfl) d_Mo_next_3 rfl ?_
  refine ww_st (st' := [.int v3]) rfl ?_
  refine ww_if_ne (pc := 6) (tgt := 16) g.1 d_Mo_next_6 (by decide) h (fun c h => ?_) (fun c h => ?_)
  · refine ww_aload_n (pc := 16) g.1 d_Mo_next_16 rfl (lv_at hl 0 rfl) ?_
    refine ww_iconst (pc := 17) g.1 (v := 0) d_Mo_next_17 (by decide) ?_
    obtain ⟨v18, s, hc18, h⟩ := oB_of h
    refine ww_callV (pc := 18) (rest := []) g cv_Mo_av (Or.inl kw_193) cl_Mo (pz rfl (by decide)) (ct_Mo_av hc18) ⟨by decide, by decide⟩ rfl hl.1 (Nat.le_of_ble_eq_true rfl) d_Mo_next_18 rfl ?_
    refine ww_st (st' := [.long v18]) rfl ?_
    refine ww_l2i (pc := 21) g.1 (v := v18.toInt32) d_Mo_next_21 rfl ?_
    refine ww_istore_n (pc := 22) (i := 1) g.1 (lv' := [(1, .int v18.toInt32), (0, .ref (q.1 0 0))]) d_Mo_next_22 rfl hl (by decide) rfl fun ls hl => ?_
    refine ww_aload_n (pc := 23) g.1 d_Mo_next_23 rfl (lv_at hl 1 rfl) ?_
    refine ww_gR (pc := 24) g (k := 49) cl_Mo (pz rfl (by decide)) (by decide) (Or.inl kw_87) (f := 49) (t := 62) rfl rfl rfl d_Mo_next_24 ?_
    refine ww_iload_n (pc := 27) g.1 d_Mo_next_27 rfl (lv_at hl 0 rfl) ?_
    refine ww_ai (pc := 28) g (pz rfl (by decide)) rfl rfl d_Mo_next_28 h fun v28 h => ?_
    refine ww_istore_n (pc := 29) (i := 2) g.1 (lv' := [(2, .int v28), (1, .int v18.toInt32), (0, .ref (q.1 0 0))]) d_Mo_next_29 rfl hl (by decide) rfl fun ls hl => ?_
    refine ww_aload_n (pc := 30) g.1 d_Mo_next_30 rfl (lv_at hl 2 rfl) ?_
    refine ww_iconst (pc := 31) g.1 (v := 1) d_Mo_next_31 (by decide) ?_
    refine ww_iconst (pc := 32) g.1 (v := 0) d_Mo_next_32 (by decide) ?_
    obtain ⟨v33, s, hc33, h⟩ := oB_of h
    refine ww_callV (pc := 33) (rest := []) g cv_Mo_is (Or.inl kw_206) cl_Mo (pz rfl (by decide)) (ct_Mo_is hc33) ⟨by decide, by decide⟩ rfl hl.1 (Nat.le_of_ble_eq_true rfl) d_Mo_next_33 rfl ?_
    refine ww_st (st' := [.int v33]) rfl ?_
    refine ww_if_ne (pc := 36) (tgt := 71) g.1 d_Mo_next_36 (by decide) h (fun c h => ?_) (fun c h => ?_)
    · exact j_Mo_next_j71 g hR v18.toInt32 v28 s ls (lv_sub hl [2, 1, 0] rfl) h
    · refine ww_aload_n (pc := 39) g.1 d_Mo_next_39 rfl (lv_at hl 2 rfl) ?_
      refine ww_iload_n (pc := 40) g.1 d_Mo_next_40 rfl (lv_at hl 1 rfl) ?_
      refine ww_aload_n (pc := 41) g.1 d_Mo_next_41 rfl (lv_at hl 2 rfl) ?_
      refine ww_iconst (pc := 42) g.1 (v := 1) d_Mo_next_42 (by decide) ?_
      obtain ⟨v43, s, hc43, h⟩ := oB_of h
      refine ww_callV (pc := 43) (rest := [.int v18.toInt32, .ref (q.1 0 0)]) g cv_Mo_ak (Or.inl kw_191) cl_Mo (pz rfl (by decide)) (ct_Mo_ak hc43) ⟨by decide, by decide⟩ rfl hl.1 (Nat.le_of_ble_eq_true rfl) d_Mo_next_43 rfl ?_
      refine ww_st (st' := [.int v43, .int v18.toInt32, .ref (q.1 0 0)]) rfl ?_
      refine ww_aload_n (pc := 46) g.1 d_Mo_next_46 rfl (lv_at hl 2 rfl) ?_
      refine ww_iconst (pc := 47) g.1 (v := 1) d_Mo_next_47 (by decide) ?_
      obtain ⟨v48, s, hc48, h⟩ := oB_of h
      refine ww_callV (pc := 48) (rest := [.int v43, .int v18.toInt32, .ref (q.1 0 0)]) g cv_Mo_av (Or.inl kw_193) cl_Mo (pz rfl (by decide)) (ct_Mo_av hc48) ⟨by decide, by decide⟩ rfl hl.1 (Nat.le_of_ble_eq_true rfl) d_Mo_next_48 rfl ?_
      refine ww_st (st' := [.long v48, .int v43, .int v18.toInt32, .ref (q.1 0 0)]) rfl ?_
      obtain ⟨v51, s, hc51, h⟩ := oB_of h
      refine ww_callV (pc := 51) (rest := []) g cv_Mo_entry (Or.inl kw_352) cl_Mo (pz rfl (by decide)) (ct_Mo_entry hc51) ⟨by decide, by decide⟩ rfl hl.1 (Nat.le_of_ble_eq_true rfl) d_Mo_next_51 rfl ?_
      refine ww_st (st' := [.int v51]) rfl ?_
      refine ww_istore_n (pc := 54) (i := 3) g.1 (lv' := [(3, .int v51), (2, .int v28), (1, .int v18.toInt32), (0, .ref (q.1 0 0))]) d_Mo_next_54 rfl hl (by decide) rfl fun ls hl => ?_
      refine ww_iload_n (pc := 55) g.1 d_Mo_next_55 rfl (lv_at hl 0 rfl) ?_
      refine ww_if_ge (pc := 56) (tgt := 67) g.1 d_Mo_next_56 (by decide) h (fun c h => ?_) (fun c h => ?_)
      · refine ww_iload_n (pc := 67) g.1 d_Mo_next_67 rfl (lv_at hl 0 rfl) ?_
        refine ww_iconst (pc := 68) g.1 (v := 1) d_Mo_next_68 (by decide) ?_
        refine ww_iadd (pc := 69) g.1 d_Mo_next_69 ?_
        refine ww_leti h fun l2_70 h => ?_
        refine ww_istore_n (pc := 70) (i := 2) g.1 (lv' := [(2, .int l2_70), (3, .int v51), (1, .int v18.toInt32), (0, .ref (q.1 0 0))]) d_Mo_next_70 rfl hl (by decide) rfl fun ls hl => ?_
        exact j_Mo_next_j71 g hR v18.toInt32 l2_70 s ls (lv_sub hl [3, 2, 0] rfl) h
      · refine ww_aload_n (pc := 59) g.1 d_Mo_next_59 rfl (lv_at hl 3 rfl) ?_
        refine ww_bipush (pc := 60) g.1 (v := 6) d_Mo_next_60 (by decide) ?_
        obtain ⟨v62, s, hc62, h⟩ := oB_of h
        refine ww_callV (pc := 62) (rest := []) g cv_Mo_raise (Or.inl kw_157) cl_Mo (pz rfl (by decide)) (ct_Mo_raise hc62) ⟨by decide, by decide⟩ rfl hl.1 (Nat.le_of_ble_eq_true rfl) d_Mo_next_62 rfl ?_
        refine ww_st (st' := [.int v62]) rfl ?_
        refine ww_pop (pc := 65) g.1 d_Mo_next_65 rfl ?_
        exact ww_vretH (pc := 66) g h hR d_Mo_next_66
  · refine ww_aload_n (pc := 9) g.1 d_Mo_next_9 rfl (lv_at hl 0 rfl) ?_
    refine ww_iconst (pc := 10) g.1 (v := 2) d_Mo_next_10 (by decide) ?_
    obtain ⟨v11, s, hc11, h⟩ := oB_of h
    refine ww_callV (pc := 11) (rest := []) g cv_Mo_raise (Or.inl kw_157) cl_Mo (pz rfl (by decide)) (ct_Mo_raise hc11) ⟨by decide, by decide⟩ rfl hl.1 (Nat.le_of_ble_eq_true rfl) d_Mo_next_11 rfl ?_
    refine ww_st (st' := [.int v11]) rfl ?_
    refine ww_pop (pc := 14) g.1 d_Mo_next_14 rfl ?_
    exact ww_vretH (pc := 15) g h hR d_Mo_next_15

abbrev b_Mo_select : ByteArray := prog_14_method_93_code
def y_Mo_select : MethodName := ⟨R_Mo, "select", "()V"⟩
abbrev w_Mo_select : List Cond := .code y_Mo_select b_Mo_select 3 none :: wA
theorem k_Mo_select : Cond.code y_Mo_select b_Mo_select 3 none ∈ wA := kinm (show _ ∈ tables_1 from (List.mem_append_right _ (List.mem_append_right _ (List.mem_append_right _ (List.mem_append_right _ (List.mem_append_right _ (List.mem_append_right _ (List.mem_append_right _ (List.mem_append_right _ (List.mem_append_right _ (List.mem_append_right _ (List.mem_append_right _ (List.mem_append_right _ (List.mem_append_left _ (List.mem_of_getElem? (l := tables_1_13) (i := 20) (by decide +kernel)))))))))))))))) (by decide +kernel)
theorem d_Mo_select_0 : decode b_Mo_select 0 = .ok (.aload_n 0, 1) := by decide +kernel
theorem d_Mo_select_1 : decode b_Mo_select 1 = .ok (.iconst 0, 1) := by decide +kernel
theorem d_Mo_select_2 : decode b_Mo_select 2 = .ok (.iconst 4, 1) := by decide +kernel
theorem d_Mo_select_3 : decode b_Mo_select 3 = .ok (.invokevirtual 833, 3) := by decide +kernel
theorem d_Mo_select_6 : decode b_Mo_select 6 = .ok (.ifCond .eq 32, 3) := by decide +kernel
theorem d_Mo_select_9 : decode b_Mo_select 9 = .ok (.aload_n 0, 1) := by decide +kernel
theorem d_Mo_select_10 : decode b_Mo_select 10 = .ok (.aload_n 0, 1) := by decide +kernel
theorem d_Mo_select_11 : decode b_Mo_select 11 = .ok (.iconst 0, 1) := by decide +kernel
theorem d_Mo_select_12 : decode b_Mo_select 12 = .ok (.invokevirtual 807, 3) := by decide +kernel
theorem d_Mo_select_15 : decode b_Mo_select 15 = .ok (.l2i, 1) := by decide +kernel
theorem d_Mo_select_16 : decode b_Mo_select 16 = .ok (.invokevirtual 850, 3) := by decide +kernel
theorem d_Mo_select_19 : decode b_Mo_select 19 = .ok (.ifCond .eq 19, 3) := by decide +kernel
theorem d_Mo_select_22 : decode b_Mo_select 22 = .ok (.aload_n 0, 1) := by decide +kernel
theorem d_Mo_select_23 : decode b_Mo_select 23 = .ok (.iconst 3, 1) := by decide +kernel
theorem d_Mo_select_24 : decode b_Mo_select 24 = .ok (.aload_n 0, 1) := by decide +kernel
theorem d_Mo_select_25 : decode b_Mo_select 25 = .ok (.getfield 259, 3) := by decide +kernel
theorem d_Mo_select_28 : decode b_Mo_select 28 = .ok (.getfield 569, 3) := by decide +kernel
theorem d_Mo_select_31 : decode b_Mo_select 31 = .ok (.iconst 1, 1) := by decide +kernel
theorem d_Mo_select_32 : decode b_Mo_select 32 = .ok (.isub, 1) := by decide +kernel
theorem d_Mo_select_33 : decode b_Mo_select 33 = .ok (.i2l, 1) := by decide +kernel
theorem d_Mo_select_34 : decode b_Mo_select 34 = .ok (.invokevirtual 804, 3) := by decide +kernel
theorem d_Mo_select_37 : decode b_Mo_select 37 = .ok (.return_, 1) := by decide +kernel
theorem d_Mo_select_38 : decode b_Mo_select 38 = .ok (.aload_n 0, 1) := by decide +kernel
theorem d_Mo_select_39 : decode b_Mo_select 39 = .ok (.iconst 0, 1) := by decide +kernel
theorem d_Mo_select_40 : decode b_Mo_select 40 = .ok (.iconst 3, 1) := by decide +kernel
theorem d_Mo_select_41 : decode b_Mo_select 41 = .ok (.invokevirtual 833, 3) := by decide +kernel
theorem d_Mo_select_44 : decode b_Mo_select 44 = .ok (.ifCond .eq 13, 3) := by decide +kernel
theorem d_Mo_select_47 : decode b_Mo_select 47 = .ok (.aload_n 0, 1) := by decide +kernel
theorem d_Mo_select_48 : decode b_Mo_select 48 = .ok (.iconst 0, 1) := by decide +kernel
theorem d_Mo_select_49 : decode b_Mo_select 49 = .ok (.invokevirtual 807, 3) := by decide +kernel
theorem d_Mo_select_52 : decode b_Mo_select 52 = .ok (.lconst 1, 1) := by decide +kernel
theorem d_Mo_select_53 : decode b_Mo_select 53 = .ok (.lcmp, 1) := by decide +kernel
theorem d_Mo_select_54 : decode b_Mo_select 54 = .ok (.ifCond .ge 11, 3) := by decide +kernel
theorem d_Mo_select_57 : decode b_Mo_select 57 = .ok (.aload_n 0, 1) := by decide +kernel
theorem d_Mo_select_58 : decode b_Mo_select 58 = .ok (.bipush 7, 2) := by decide +kernel
theorem d_Mo_select_60 : decode b_Mo_select 60 = .ok (.invokevirtual 517, 3) := by decide +kernel
theorem d_Mo_select_63 : decode b_Mo_select 63 = .ok (.pop, 1) := by decide +kernel
theorem d_Mo_select_64 : decode b_Mo_select 64 = .ok (.return_, 1) := by decide +kernel
theorem d_Mo_select_65 : decode b_Mo_select 65 = .ok (.aload_n 0, 1) := by decide +kernel
theorem d_Mo_select_66 : decode b_Mo_select 66 = .ok (.invokevirtual 853, 3) := by decide +kernel
theorem d_Mo_select_69 : decode b_Mo_select 69 = .ok (.aload_n 0, 1) := by decide +kernel
theorem d_Mo_select_70 : decode b_Mo_select 70 = .ok (.iconst 0, 1) := by decide +kernel
theorem d_Mo_select_71 : decode b_Mo_select 71 = .ok (.invokevirtual 807, 3) := by decide +kernel
theorem d_Mo_select_74 : decode b_Mo_select 74 = .ok (.lstore_n 1, 1) := by decide +kernel
theorem d_Mo_select_75 : decode b_Mo_select 75 = .ok (.lload_n 1, 1) := by decide +kernel
theorem d_Mo_select_76 : decode b_Mo_select 76 = .ok (.aload_n 0, 1) := by decide +kernel
theorem d_Mo_select_77 : decode b_Mo_select 77 = .ok (.getfield 259, 3) := by decide +kernel
theorem d_Mo_select_80 : decode b_Mo_select 80 = .ok (.getfield 569, 3) := by decide +kernel
theorem d_Mo_select_83 : decode b_Mo_select 83 = .ok (.i2l, 1) := by decide +kernel
theorem d_Mo_select_84 : decode b_Mo_select 84 = .ok (.lcmp, 1) := by decide +kernel
theorem d_Mo_select_85 : decode b_Mo_select 85 = .ok (.ifCond .ge 23, 3) := by decide +kernel
theorem d_Mo_select_88 : decode b_Mo_select 88 = .ok (.aload_n 0, 1) := by decide +kernel
theorem d_Mo_select_89 : decode b_Mo_select 89 = .ok (.getfield 262, 3) := by decide +kernel
theorem d_Mo_select_92 : decode b_Mo_select 92 = .ok (.aload_n 0, 1) := by decide +kernel
theorem d_Mo_select_93 : decode b_Mo_select 93 = .ok (.getfield 259, 3) := by decide +kernel
theorem d_Mo_select_96 : decode b_Mo_select 96 = .ok (.lload_n 1, 1) := by decide +kernel
theorem d_Mo_select_97 : decode b_Mo_select 97 = .ok (.l2i, 1) := by decide +kernel
theorem d_Mo_select_98 : decode b_Mo_select 98 = .ok (.invokevirtual 770, 3) := by decide +kernel
theorem d_Mo_select_101 : decode b_Mo_select 101 = .ok (.lload_n 1, 1) := by decide +kernel
theorem d_Mo_select_102 : decode b_Mo_select 102 = .ok (.lconst 1, 1) := by decide +kernel
theorem d_Mo_select_103 : decode b_Mo_select 103 = .ok (.ladd, 1) := by decide +kernel
theorem d_Mo_select_104 : decode b_Mo_select 104 = .ok (.lstore_n 1, 1) := by decide +kernel
theorem d_Mo_select_105 : decode b_Mo_select 105 = .ok (.goto (-30), 3) := by decide +kernel
theorem d_Mo_select_108 : decode b_Mo_select 108 = .ok (.return_, 1) := by decide +kernel
theorem kw_365 : Cond.methodLink R_Mo 853 y_Mo_giveNone ∈ wA := kinm (show _ ∈ tables_1 from (List.mem_append_right _ (List.mem_append_right _ (List.mem_append_right _ (List.mem_append_right _ (List.mem_append_right _ (List.mem_append_right _ (List.mem_append_right _ (List.mem_append_right _ (List.mem_append_right _ (List.mem_append_right _ (List.mem_append_right _ (List.mem_append_left _ (List.mem_of_getElem? (l := tables_1_12) (i := 209) (by decide +kernel))))))))))))))) (by decide +kernel)
theorem kw_366 : Cond.methodLink R_Mo 850 y_Mo_isMark ∈ wA := kinm (show _ ∈ tables_1 from (List.mem_append_right _ (List.mem_append_right _ (List.mem_append_right _ (List.mem_append_right _ (List.mem_append_right _ (List.mem_append_right _ (List.mem_append_right _ (List.mem_append_right _ (List.mem_append_right _ (List.mem_append_right _ (List.mem_append_right _ (List.mem_append_right _ (List.mem_append_left _ (List.mem_of_getElem? (l := tables_1_13) (i := 21) (by decide +kernel)))))))))))))))) (by decide +kernel)
theorem kw_367 : Cond.instanceMethod y_Mo_select ∈ wA := kinm (show _ ∈ tables_1 from (List.mem_append_right _ (List.mem_append_right _ (List.mem_append_right _ (List.mem_append_right _ (List.mem_append_right _ (List.mem_append_right _ (List.mem_append_right _ (List.mem_append_right _ (List.mem_append_right _ (List.mem_append_right _ (List.mem_append_right _ (List.mem_append_right _ (List.mem_append_left _ (List.mem_of_getElem? (l := tables_1_13) (i := 19) (by decide +kernel)))))))))))))))) (by decide +kernel)
theorem kw_368 : Cond.selects R_Mo y_Mo_select y_Mo_select ∈ wA := kinp 179 (by decide +kernel) (by decide +kernel)
theorem cv_Mo_select : CV y_Mo_select b_Mo_select 3 none 0 := ⟨kw_367, kw_368, kw_17, k_Mo_select, by decide +kernel⟩
theorem j_Mo_select_j57 {X : Cx} {q : PL} (g : Gd X y_Mo_select b_Mo_select 3 none 2 46 R_Mo) {o : (Unit) × S1} (hR : Rt X q o.2 none)  (s : S1) (ls : Array Slot) (hl : lv_has ls 3 [(0, .ref (q.1 0 0))]) (h : M_Mo_select_j57 s = some o) : WW X q s 57 ls [] := by
  unfold M_Mo_select_j57 at h
  refine ww_aload_n (pc := 57) g.1 d_Mo_select_57 rfl (lv_at hl 0 rfl) ?_
  refine ww_bipush (pc := 58) g.1 (v := 7) d_Mo_select_58 (by decide) ?_
  obtain ⟨v60, s, hc60, h⟩ := oB_of h
  refine ww_callV (pc := 60) (rest := []) g cv_Mo_raise (Or.inl kw_157) cl_Mo (pz rfl (by decide)) (ct_Mo_raise hc60) ⟨by decide, by decide⟩ rfl hl.1 (Nat.le_of_ble_eq_true rfl) d_Mo_select_60 rfl ?_
  refine ww_st (st' := [.int v60]) rfl ?_
  refine ww_pop (pc := 63) g.1 d_Mo_select_63 rfl ?_
  exact ww_vretH (pc := 64) g h hR d_Mo_select_64

theorem lp_Mo_select_L75 {X : Cx} {q : PL} (g : Gd X y_Mo_select b_Mo_select 3 none 2 46 R_Mo) (x : Int64) (s : S1) (o : ((Int64) ⊕ ((Unit))) × S1) (h : M_Mo_select_L75 x s = some o) (hR : (Sum.elim (fun y : Int64 => ∀ ls : Array Slot, lv_has ls 3 [(0, .ref (q.1 0 0)), (1, .long y)] → WW X q o.2 75 ls []) (fun y : Unit => ∀ ls : Array Slot, lv_has ls 3 [] → WW X q o.2 108 ls []) o.1)) : ∀ ls : Array Slot, lv_has ls 3 [(0, .ref (q.1 0 0)), (1, .long x)] → WW X q s 75 ls [] := by
  intro ls hl
  unfold M_Mo_select_L75 at h
  refine ww_lload_n (pc := 75) g.1 d_Mo_select_75 rfl (lv_at hl 1 rfl) ?_
  refine ww_aload_n (pc := 76) g.1 d_Mo_select_76 rfl (lv_at hl 0 rfl) ?_
  refine ww_gR (pc := 77) g (k := 77) cl_Mo (pz rfl (by decide)) (by decide) (Or.inl kw_182) (f := 77) (t := 7) rfl rfl rfl d_Mo_select_77 ?_
  refine ww_gI (pc := 80) g (k := 2) (cl_Va (Or.inl ⟨by decide, rfl⟩)) (pz rfl (by decide)) (by decide) (Or.inl kw_179) (f := 898) rfl rfl d_Mo_select_80 h fun v80 h => ?_
  refine ww_i2l (pc := 83) g.1 (v := v80.toInt64) d_Mo_select_83 rfl ?_
  refine ww_lcmp (pc := 84) g.1 d_Mo_select_84 ?_
  refine ww_if_ge (pc := 85) (tgt := 108) g.1 d_Mo_select_85 (by decide) h (fun c h => ?_) (fun c h => ?_)
  · rw [oR_eq h] at hR
    exact hR ls (lv_sub hl [] rfl)
  · refine ww_aload_n (pc := 88) g.1 d_Mo_select_88 rfl (lv_at hl 0 rfl) ?_
    refine ww_gR (pc := 89) g (k := 78) cl_Mo (pz rfl (by decide)) (by decide) (Or.inl kw_178) (f := 78) (t := 10) rfl rfl rfl d_Mo_select_89 ?_
    refine ww_aload_n (pc := 92) g.1 d_Mo_select_92 rfl (lv_at hl 0 rfl) ?_
    refine ww_gR (pc := 93) g (k := 77) cl_Mo (pz rfl (by decide)) (by decide) (Or.inl kw_182) (f := 77) (t := 7) rfl rfl rfl d_Mo_select_93 ?_
    refine ww_lload_n (pc := 96) g.1 d_Mo_select_96 rfl (lv_at hl 1 rfl) ?_
    refine ww_l2i (pc := 97) g.1 (v := x.toInt32) d_Mo_select_97 rfl ?_
    obtain ⟨v98, s, hc98, h⟩ := oB_of h
    refine ww_callV (pc := 98) (rest := []) g cv_Va_add_ (Or.inl kw_221) (cl_Va (Or.inl ⟨by decide, rfl⟩)) (pz rfl (by decide)) (ct_Va_add_ (Or.inl ⟨by decide, rfl⟩) (Or.inl ⟨by decide, rfl⟩) hc98) ⟨by decide, by decide⟩ rfl hl.1 (Nat.le_of_ble_eq_true rfl) d_Mo_select_98 rfl ?_
    refine ww_st (st' := []) rfl ?_
    refine ww_lload_n (pc := 101) g.1 d_Mo_select_101 rfl (lv_at hl 1 rfl) ?_
    refine ww_lconst (pc := 102) g.1 (v := 1) d_Mo_select_102 (by decide) ?_
    refine ww_ladd (pc := 103) g.1 d_Mo_select_103 ?_
    refine ww_letl h fun l1_104 h => ?_
    refine ww_lstore_n (pc := 104) (i := 1) g.1 (lv' := [(1, .long l1_104), (0, .ref (q.1 0 0))]) d_Mo_select_104 rfl hl (by decide) rfl fun ls hl => ?_
    refine ww_goto (pc := 105) (tgt := 75) g.1 d_Mo_select_105 (by decide) ?_
    rw [oR_eq h] at hR
    exact hR ls (lv_sub hl [1, 0] rfl)

theorem j_Mo_select_j38 {X : Cx} {q : PL} (g : Gd X y_Mo_select b_Mo_select 3 none 2 46 R_Mo) {o : (Unit) × S1} (hR : Rt X q o.2 none)  (s : S1) (ls : Array Slot) (hl : lv_has ls 3 [(0, .ref (q.1 0 0))]) (h : M_Mo_select_j38 s = some o) : WW X q s 38 ls [] := by
  unfold M_Mo_select_j38 at h
  refine ww_aload_n (pc := 38) g.1 d_Mo_select_38 rfl (lv_at hl 0 rfl) ?_
  refine ww_iconst (pc := 39) g.1 (v := 0) d_Mo_select_39 (by decide) ?_
  refine ww_iconst (pc := 40) g.1 (v := 3) d_Mo_select_40 (by decide) ?_
  obtain ⟨v41, s, hc41, h⟩ := oB_of h
  refine ww_callV (pc := 41) (rest := []) g cv_Mo_is (Or.inl kw_206) cl_Mo (pz rfl (by decide)) (ct_Mo_is hc41) ⟨by decide, by decide⟩ rfl hl.1 (Nat.le_of_ble_eq_true rfl) d_Mo_select_41 rfl ?_
  refine ww_st (st' := [.int v41]) rfl ?_
  refine ww_if_eq (pc := 44) (tgt := 57) g.1 d_Mo_select_44 (by decide) h (fun c h => ?_) (fun c h => ?_)
  · exact j_Mo_select_j57 g hR s ls (lv_sub hl [0] rfl) h
  · refine ww_aload_n (pc := 47) g.1 d_Mo_select_47 rfl (lv_at hl 0 rfl) ?_
    refine ww_iconst (pc := 48) g.1 (v := 0) d_Mo_select_48 (by decide) ?_
    obtain ⟨v49, s, hc49, h⟩ := oB_of h
    refine ww_callV (pc := 49) (rest := []) g cv_Mo_av (Or.inl kw_193) cl_Mo (pz rfl (by decide)) (ct_Mo_av hc49) ⟨by decide, by decide⟩ rfl hl.1 (Nat.le_of_ble_eq_true rfl) d_Mo_select_49 rfl ?_
    refine ww_st (st' := [.long v49]) rfl ?_
    refine ww_lconst (pc := 52) g.1 (v := 1) d_Mo_select_52 (by decide) ?_
    refine ww_lcmp (pc := 53) g.1 d_Mo_select_53 ?_
    refine ww_if_ge (pc := 54) (tgt := 65) g.1 d_Mo_select_54 (by decide) h (fun c h => ?_) (fun c h => ?_)
    · refine ww_aload_n (pc := 65) g.1 d_Mo_select_65 rfl (lv_at hl 0 rfl) ?_
      obtain ⟨v66, s, hc66, h⟩ := oB_of h
      refine ww_callV (pc := 66) (rest := []) g cv_Mo_giveNone (Or.inl kw_365) cl_Mo (pz rfl (by decide)) (ct_Mo_giveNone hc66) ⟨by decide, by decide⟩ rfl hl.1 (Nat.le_of_ble_eq_true rfl) d_Mo_select_66 rfl ?_
      refine ww_st (st' := []) rfl ?_
      refine ww_aload_n (pc := 69) g.1 d_Mo_select_69 rfl (lv_at hl 0 rfl) ?_
      refine ww_iconst (pc := 70) g.1 (v := 0) d_Mo_select_70 (by decide) ?_
      obtain ⟨v71, s, hc71, h⟩ := oB_of h
      refine ww_callV (pc := 71) (rest := []) g cv_Mo_av (Or.inl kw_193) cl_Mo (pz rfl (by decide)) (ct_Mo_av hc71) ⟨by decide, by decide⟩ rfl hl.1 (Nat.le_of_ble_eq_true rfl) d_Mo_select_71 rfl ?_
      refine ww_st (st' := [.long v71]) rfl ?_
      refine ww_lstore_n (pc := 74) (i := 1) g.1 (lv' := [(1, .long v71), (0, .ref (q.1 0 0))]) d_Mo_select_74 rfl hl (by decide) rfl fun ls hl => ?_
      obtain ⟨e75, s1, hw, h⟩ := oB_of h
      refine oW_rule (Wh := fun (x : Int64) (s : S1) => ∀ ls : Array Slot, lv_has ls 3 [(0, .ref (q.1 0 0)), (1, .long x)] → WW X q s 75 ls []) (We := fun (e : (Unit)) (s : S1) => ∀ ls : Array Slot, lv_has ls 3 [] → WW X q s 108 ls []) (fun x s o hb hc => lp_Mo_select_L75 (q := q) g x s o hb hc) hw ?_ ls (lv_sub hl [1, 0] rfl)
      clear hw hl
      clear ls
      intro ls hl
      generalize s1 = s at h ⊢
      exact ww_vretH (pc := 108) g h hR d_Mo_select_108
    · exact j_Mo_select_j57 g hR s ls (lv_sub hl [0] rfl) h

theorem ct_Mo_select {l : Launch} {P : PP} {q : PL} {s s' : S1}  {r : Unit} (h : M_Mo_select s = some (r, s')) : Ct l y_Mo_select b_Mo_select 3 none 2 46 P q s [.ref (q.1 0 0)] none q s' := by
  refine ct_of (by decide) (Nat.le_of_ble_eq_true rfl) fun X ls eP el g hR hl => ?_
  subst eP
  have hR : Rt X q ((r, s') : Unit × S1).2 none := hR
  have hl : lv_has ls 3 [(0, .ref (q.1 0 0))] := hl
  generalize (r, s') = o at h hR
  unfold M_Mo_select at h
  refine ww_aload_n (pc := 0) g.1 d_Mo_select_0 rfl (lv_at hl 0 rfl) ?_
  refine ww_iconst (pc := 1) g.1 (v := 0) d_Mo_select_1 (by decide) ?_
  refine ww_iconst (pc := 2) g.1 (v := 4) d_Mo_select_2 (by decide) ?_
  obtain ⟨v3, s, hc3, h⟩ := oB_of h
  refine ww_callV (pc := 3) (rest := []) g cv_Mo_is (Or.inl kw_206) cl_Mo (pz rfl (by decide)) (ct_Mo_is hc3) ⟨by decide, by decide⟩ rfl hl.1 (Nat.le_of_ble_eq_true rfl) d_Mo_select_3 rfl ?_
  refine ww_st (st' := [.int v3]) rfl ?_
  refine ww_if_eq (pc := 6) (tgt := 38) g.1 d_Mo_select_6 (by decide) h (fun c h => ?_) (fun c h => ?_)
  · exact j_Mo_select_j38 g hR s ls (lv_sub hl [0] rfl) h
  · refine ww_aload_n (pc := 9) g.1 d_Mo_select_9 rfl (lv_at hl 0 rfl) ?_
    refine ww_aload_n (pc := 10) g.1 d_Mo_select_10 rfl (lv_at hl 0 rfl) ?_
    refine ww_iconst (pc := 11) g.1 (v := 0) d_Mo_select_11 (by decide) ?_
    obtain ⟨v12, s, hc12, h⟩ := oB_of h
    refine ww_callV (pc := 12) (rest := [.ref (q.1 0 0)]) g cv_Mo_av (Or.inl kw_193) cl_Mo (pz rfl (by decide)) (ct_Mo_av hc12) ⟨by decide, by decide⟩ rfl hl.1 (Nat.le_of_ble_eq_true rfl) d_Mo_select_12 rfl ?_
    refine ww_st (st' := [.long v12, .ref (q.1 0 0)]) rfl ?_
    refine ww_l2i (pc := 15) g.1 (v := v12.toInt32) d_Mo_select_15 rfl ?_
    obtain ⟨v16, s, hc16, h⟩ := oB_of h
    refine ww_callV (pc := 16) (rest := []) g cv_Mo_isMark (Or.inl kw_366) cl_Mo (pz rfl (by decide)) (ct_Mo_isMark hc16) ⟨by decide, by decide⟩ rfl hl.1 (Nat.le_of_ble_eq_true rfl) d_Mo_select_16 rfl ?_
    refine ww_st (st' := [.int v16]) rfl ?_
    refine ww_if_eq (pc := 19) (tgt := 38) g.1 d_Mo_select_19 (by decide) h (fun c h => ?_) (fun c h => ?_)
    · exact j_Mo_select_j38 g hR s ls (lv_sub hl [0] rfl) h
    · refine ww_aload_n (pc := 22) g.1 d_Mo_select_22 rfl (lv_at hl 0 rfl) ?_
      refine ww_iconst (pc := 23) g.1 (v := 3) d_Mo_select_23 (by decide) ?_
      refine ww_aload_n (pc := 24) g.1 d_Mo_select_24 rfl (lv_at hl 0 rfl) ?_
      refine ww_gR (pc := 25) g (k := 77) cl_Mo (pz rfl (by decide)) (by decide) (Or.inl kw_182) (f := 77) (t := 7) rfl rfl rfl d_Mo_select_25 ?_
      refine ww_gI (pc := 28) g (k := 2) (cl_Va (Or.inl ⟨by decide, rfl⟩)) (pz rfl (by decide)) (by decide) (Or.inl kw_179) (f := 898) rfl rfl d_Mo_select_28 h fun v28 h => ?_
      refine ww_iconst (pc := 31) g.1 (v := 1) d_Mo_select_31 (by decide) ?_
      refine ww_isub (pc := 32) g.1 d_Mo_select_32 ?_
      refine ww_i2l (pc := 33) g.1 (v := (v28 - 1).toInt64) d_Mo_select_33 rfl ?_
      obtain ⟨v34, s, hc34, h⟩ := oB_of h
      refine ww_callV (pc := 34) (rest := []) g cv_Mo_give (Or.inl kw_212) cl_Mo (pz rfl (by decide)) (ct_Mo_give hc34) ⟨by decide, by decide⟩ rfl hl.1 (Nat.le_of_ble_eq_true rfl) d_Mo_select_34 rfl ?_
      refine ww_st (st' := []) rfl ?_
      exact ww_vretH (pc := 37) g h hR d_Mo_select_37

abbrev b_Mo_resume : ByteArray := prog_14_method_87_code
def y_Mo_resume : MethodName := ⟨R_Mo, "resume", "()V"⟩
abbrev w_Mo_resume : List Cond := .code y_Mo_resume b_Mo_resume 2 none :: wA
theorem k_Mo_resume : Cond.code y_Mo_resume b_Mo_resume 2 none ∈ wA := kinm (show _ ∈ tables_1 from (List.mem_append_right _ (List.mem_append_right _ (List.mem_append_right _ (List.mem_append_right _ (List.mem_append_right _ (List.mem_append_right _ (List.mem_append_right _ (List.mem_append_right _ (List.mem_append_right _ (List.mem_append_right _ (List.mem_append_right _ (List.mem_append_right _ (List.mem_append_left _ (List.mem_of_getElem? (l := tables_1_13) (i := 59) (by decide +kernel)))))))))))))))) (by decide +kernel)
theorem d_Mo_resume_0 : decode b_Mo_resume 0 = .ok (.aload_n 0, 1) := by decide +kernel
theorem d_Mo_resume_1 : decode b_Mo_resume 1 = .ok (.iconst 0, 1) := by decide +kernel
theorem d_Mo_resume_2 : decode b_Mo_resume 2 = .ok (.bipush 7, 2) := by decide +kernel
theorem d_Mo_resume_4 : decode b_Mo_resume 4 = .ok (.invokevirtual 833, 3) := by decide +kernel
theorem d_Mo_resume_7 : decode b_Mo_resume 7 = .ok (.ifCond .ne 18, 3) := by decide +kernel
theorem d_Mo_resume_10 : decode b_Mo_resume 10 = .ok (.aload_n 0, 1) := by decide +kernel
theorem d_Mo_resume_11 : decode b_Mo_resume 11 = .ok (.getfield 259, 3) := by decide +kernel
theorem d_Mo_resume_14 : decode b_Mo_resume 14 = .ok (.iconst 0, 1) := by decide +kernel
theorem d_Mo_resume_15 : decode b_Mo_resume 15 = .ok (.putfield 569, 3) := by decide +kernel
theorem d_Mo_resume_18 : decode b_Mo_resume 18 = .ok (.aload_n 0, 1) := by decide +kernel
theorem d_Mo_resume_19 : decode b_Mo_resume 19 = .ok (.iconst 2, 1) := by decide +kernel
theorem d_Mo_resume_20 : decode b_Mo_resume 20 = .ok (.invokevirtual 517, 3) := by decide +kernel
theorem d_Mo_resume_23 : decode b_Mo_resume 23 = .ok (.pop, 1) := by decide +kernel
theorem d_Mo_resume_24 : decode b_Mo_resume 24 = .ok (.return_, 1) := by decide +kernel
theorem d_Mo_resume_25 : decode b_Mo_resume 25 = .ok (.aload_n 0, 1) := by decide +kernel
theorem d_Mo_resume_26 : decode b_Mo_resume 26 = .ok (.iconst 0, 1) := by decide +kernel
theorem d_Mo_resume_27 : decode b_Mo_resume 27 = .ok (.invokevirtual 807, 3) := by decide +kernel
theorem d_Mo_resume_30 : decode b_Mo_resume 30 = .ok (.l2i, 1) := by decide +kernel
theorem d_Mo_resume_31 : decode b_Mo_resume 31 = .ok (.istore_n 1, 1) := by decide +kernel
theorem d_Mo_resume_32 : decode b_Mo_resume 32 = .ok (.aload_n 0, 1) := by decide +kernel
theorem d_Mo_resume_33 : decode b_Mo_resume 33 = .ok (.aload_n 0, 1) := by decide +kernel
theorem d_Mo_resume_34 : decode b_Mo_resume 34 = .ok (.getfield 239, 3) := by decide +kernel
theorem d_Mo_resume_37 : decode b_Mo_resume 37 = .ok (.aload_n 0, 1) := by decide +kernel
theorem d_Mo_resume_38 : decode b_Mo_resume 38 = .ok (.getfield 168, 3) := by decide +kernel
theorem d_Mo_resume_41 : decode b_Mo_resume 41 = .ok (.iload_n 1, 1) := by decide +kernel
theorem d_Mo_resume_42 : decode b_Mo_resume 42 = .ok (.iaload, 1) := by decide +kernel
theorem d_Mo_resume_43 : decode b_Mo_resume 43 = .ok (.aaload, 1) := by decide +kernel
theorem d_Mo_resume_44 : decode b_Mo_resume 44 = .ok (.iload_n 1, 1) := by decide +kernel
theorem d_Mo_resume_45 : decode b_Mo_resume 45 = .ok (.iconst 2, 1) := by decide +kernel
theorem d_Mo_resume_46 : decode b_Mo_resume 46 = .ok (.iconst (-1), 1) := by decide +kernel
theorem d_Mo_resume_47 : decode b_Mo_resume 47 = .ok (.iconst 1, 1) := by decide +kernel
theorem d_Mo_resume_48 : decode b_Mo_resume 48 = .ok (.invokevirtual 726, 3) := by decide +kernel
theorem d_Mo_resume_51 : decode b_Mo_resume 51 = .ok (.return_, 1) := by decide +kernel
theorem kw_369 : Cond.methodLink R_Mo 726 y_Mo_goesOn ∈ wA := kinm (show _ ∈ tables_1 from (List.mem_append_right _ (List.mem_append_right _ (List.mem_append_right _ (List.mem_append_right _ (List.mem_append_right _ (List.mem_append_right _ (List.mem_append_right _ (List.mem_append_right _ (List.mem_append_right _ (List.mem_append_right _ (List.mem_append_right _ (List.mem_append_right _ (List.mem_append_left _ (List.mem_of_getElem? (l := tables_1_13) (i := 60) (by decide +kernel)))))))))))))))) (by decide +kernel)
theorem kw_370 : Cond.instanceMethod y_Mo_resume ∈ wA := kinm (show _ ∈ tables_1 from (List.mem_append_right _ (List.mem_append_right _ (List.mem_append_right _ (List.mem_append_right _ (List.mem_append_right _ (List.mem_append_right _ (List.mem_append_right _ (List.mem_append_right _ (List.mem_append_right _ (List.mem_append_right _ (List.mem_append_right _ (List.mem_append_right _ (List.mem_append_left _ (List.mem_of_getElem? (l := tables_1_13) (i := 58) (by decide +kernel)))))))))))))))) (by decide +kernel)
theorem kw_371 : Cond.selects R_Mo y_Mo_resume y_Mo_resume ∈ wA := kinp 186 (by decide +kernel) (by decide +kernel)
theorem cv_Mo_resume : CV y_Mo_resume b_Mo_resume 2 none 0 := ⟨kw_370, kw_371, kw_17, k_Mo_resume, by decide +kernel⟩
theorem ct_Mo_resume {l : Launch} {P : PP} {q : PL} {s s' : S1}  {r : Unit} (h : M_Mo_resume s = some (r, s')) : Ct l y_Mo_resume b_Mo_resume 2 none 3 71 P q s [.ref (q.1 0 0)] none q s' := by
  refine ct_of (by decide) (Nat.le_of_ble_eq_true rfl) fun X ls eP el g hR hl => ?_
  subst eP
  have hR : Rt X q ((r, s') : Unit × S1).2 none := hR
  have hl : lv_has ls 2 [(0, .ref (q.1 0 0))] := hl
  generalize (r, s') = o at h hR
  unfold M_Mo_resume at h
  refine ww_aload_n (pc := 0) g.1 d_Mo_resume_0 rfl (lv_at hl 0 rfl) ?_
  refine ww_iconst (pc := 1) g.1 (v := 0) d_Mo_resume_1 (by decide) ?_
  refine ww_bipush (pc := 2) g.1 (v := 7) d_Mo_resume_2 (by decide) ?_
  obtain ⟨v4, s, hc4, h⟩ := oB_of h
  refine ww_callV (pc := 4) (rest := []) g cv_Mo_is (Or.inl kw_206) cl_Mo (pz rfl (by decide)) (ct_Mo_is hc4) ⟨by decide, by decide⟩ rfl hl.1 (Nat.le_of_ble_eq_true rfl) d_Mo_resume_4 rfl ?_
  refine ww_st (st' := [.int v4]) rfl ?_
  refine ww_if_ne (pc := 7) (tgt := 25) g.1 d_Mo_resume_7 (by decide) h (fun c h => ?_) (fun c h => ?_)
  · refine ww_aload_n (pc := 25) g.1 d_Mo_resume_25 rfl (lv_at hl 0 rfl) ?_
    refine ww_iconst (pc := 26) g.1 (v := 0) d_Mo_resume_26 (by decide) ?_
    obtain ⟨v27, s, hc27, h⟩ := oB_of h
    refine ww_callV (pc := 27) (rest := []) g cv_Mo_av (Or.inl kw_193) cl_Mo (pz rfl (by decide)) (ct_Mo_av hc27) ⟨by decide, by decide⟩ rfl hl.1 (Nat.le_of_ble_eq_true rfl) d_Mo_resume_27 rfl ?_
    refine ww_st (st' := [.long v27]) rfl ?_
    refine ww_l2i (pc := 30) g.1 (v := v27.toInt32) d_Mo_resume_30 rfl ?_
    refine ww_istore_n (pc := 31) (i := 1) g.1 (lv' := [(1, .int v27.toInt32), (0, .ref (q.1 0 0))]) d_Mo_resume_31 rfl hl (by decide) rfl fun ls hl => ?_
    refine ww_aload_n (pc := 32) g.1 d_Mo_resume_32 rfl (lv_at hl 1 rfl) ?_
    refine ww_aload_n (pc := 33) g.1 d_Mo_resume_33 rfl (lv_at hl 1 rfl) ?_
    refine ww_gR (pc := 34) g (k := 71) cl_Mo (pz rfl (by decide)) (by decide) (Or.inl kw_88) (f := 71) (t := 76) rfl rfl rfl d_Mo_resume_34 ?_
    refine ww_aload_n (pc := 37) g.1 d_Mo_resume_37 rfl (lv_at hl 1 rfl) ?_
    refine ww_gR (pc := 38) g (k := 49) cl_Mo (pz rfl (by decide)) (by decide) (Or.inl kw_87) (f := 49) (t := 62) rfl rfl rfl d_Mo_resume_38 ?_
    refine ww_iload_n (pc := 41) g.1 d_Mo_resume_41 rfl (lv_at hl 0 rfl) ?_
    refine ww_ai (pc := 42) g (pz rfl (by decide)) rfl rfl d_Mo_resume_42 h fun v42 h => ?_
    refine ww_at (pc := 43) g (t := 28) (pz rfl (by decide)) rfl rfl rfl d_Mo_resume_43 h fun ca43 h => ?_
    refine ww_iload_n (pc := 44) g.1 d_Mo_resume_44 rfl (lv_at hl 0 rfl) ?_
    refine ww_iconst (pc := 45) g.1 (v := 2) d_Mo_resume_45 (by decide) ?_
    refine ww_iconst (pc := 46) g.1 (v := (-1)) d_Mo_resume_46 (by decide) ?_
    refine ww_iconst (pc := 47) g.1 (v := 1) d_Mo_resume_47 (by decide) ?_
    obtain ⟨v48, s, hc48, h⟩ := oB_of h
    refine ww_callV (pc := 48) (rest := []) g cv_Mo_goesOn (Or.inl kw_369) cl_Mo (pz rfl (by decide)) (ct_Mo_goesOn ca43 hc48) ⟨by decide, by decide⟩ rfl hl.1 (Nat.le_of_ble_eq_true rfl) d_Mo_resume_48 rfl ?_
    refine ww_st (st' := []) rfl ?_
    exact ww_vretH (pc := 51) g h hR d_Mo_resume_51
  · refine ww_aload_n (pc := 10) g.1 d_Mo_resume_10 rfl (lv_at hl 0 rfl) ?_
    refine ww_gR (pc := 11) g (k := 77) cl_Mo (pz rfl (by decide)) (by decide) (Or.inl kw_182) (f := 77) (t := 7) rfl rfl rfl d_Mo_resume_11 ?_
    refine ww_iconst (pc := 14) g.1 (v := 0) d_Mo_resume_14 (by decide) ?_
    refine ww_pI (pc := 15) g (k := 2) (cl_Va (Or.inl ⟨by decide, rfl⟩)) (pz rfl (by decide)) (by decide) (Or.inl kw_179) rfl (f := 898) rfl rfl rfl rfl d_Mo_resume_15 h fun s hs h => ?_
    refine ww_aload_n (pc := 18) g.1 d_Mo_resume_18 rfl (lv_at hl 0 rfl) ?_
    refine ww_iconst (pc := 19) g.1 (v := 2) d_Mo_resume_19 (by decide) ?_
    obtain ⟨v20, s, hc20, h⟩ := oB_of h
    refine ww_callV (pc := 20) (rest := []) g cv_Mo_raise (Or.inl kw_157) cl_Mo (pz rfl (by decide)) (ct_Mo_raise hc20) ⟨by decide, by decide⟩ rfl hl.1 (Nat.le_of_ble_eq_true rfl) d_Mo_resume_20 rfl ?_
    refine ww_st (st' := [.int v20]) rfl ?_
    refine ww_pop (pc := 23) g.1 d_Mo_resume_23 rfl ?_
    exact ww_vretH (pc := 24) g h hR d_Mo_resume_24

abbrev b_Mo_giveWay : ByteArray := prog_14_method_81_code
def y_Mo_giveWay : MethodName := ⟨R_Mo, "giveWay", "()V"⟩
abbrev w_Mo_giveWay : List Cond := .code y_Mo_giveWay b_Mo_giveWay 3 none :: wA
theorem k_Mo_giveWay : Cond.code y_Mo_giveWay b_Mo_giveWay 3 none ∈ wA := kinm (show _ ∈ tables_1 from (List.mem_append_right _ (List.mem_append_right _ (List.mem_append_right _ (List.mem_append_right _ (List.mem_append_right _ (List.mem_append_right _ (List.mem_append_right _ (List.mem_append_right _ (List.mem_append_right _ (List.mem_append_right _ (List.mem_append_right _ (List.mem_append_right _ (List.mem_append_left _ (List.mem_of_getElem? (l := tables_1_13) (i := 68) (by decide +kernel)))))))))))))))) (by decide +kernel)
theorem d_Mo_giveWay_0 : decode b_Mo_giveWay 0 = .ok (.aload_n 0, 1) := by decide +kernel
theorem d_Mo_giveWay_1 : decode b_Mo_giveWay 1 = .ok (.getfield 243, 3) := by decide +kernel
theorem d_Mo_giveWay_4 : decode b_Mo_giveWay 4 = .ok (.aload_n 0, 1) := by decide +kernel
theorem d_Mo_giveWay_5 : decode b_Mo_giveWay 5 = .ok (.getfield 239, 3) := by decide +kernel
theorem d_Mo_giveWay_8 : decode b_Mo_giveWay 8 = .ok (.iconst 0, 1) := by decide +kernel
theorem d_Mo_giveWay_9 : decode b_Mo_giveWay 9 = .ok (.aaload, 1) := by decide +kernel
theorem d_Mo_giveWay_10 : decode b_Mo_giveWay 10 = .ok (.if_acmp .ne 11, 3) := by decide +kernel
theorem d_Mo_giveWay_13 : decode b_Mo_giveWay 13 = .ok (.aload_n 0, 1) := by decide +kernel
theorem d_Mo_giveWay_14 : decode b_Mo_giveWay 14 = .ok (.bipush 9, 2) := by decide +kernel
theorem d_Mo_giveWay_16 : decode b_Mo_giveWay 16 = .ok (.invokevirtual 517, 3) := by decide +kernel
theorem d_Mo_giveWay_19 : decode b_Mo_giveWay 19 = .ok (.pop, 1) := by decide +kernel
theorem d_Mo_giveWay_20 : decode b_Mo_giveWay 20 = .ok (.return_, 1) := by decide +kernel
theorem d_Mo_giveWay_21 : decode b_Mo_giveWay 21 = .ok (.aload_n 0, 1) := by decide +kernel
theorem d_Mo_giveWay_22 : decode b_Mo_giveWay 22 = .ok (.getfield 243, 3) := by decide +kernel
theorem d_Mo_giveWay_25 : decode b_Mo_giveWay 25 = .ok (.astore_n 1, 1) := by decide +kernel
theorem d_Mo_giveWay_26 : decode b_Mo_giveWay 26 = .ok (.aload_n 1, 1) := by decide +kernel
theorem d_Mo_giveWay_27 : decode b_Mo_giveWay 27 = .ok (.iconst 0, 1) := by decide +kernel
theorem d_Mo_giveWay_28 : decode b_Mo_giveWay 28 = .ok (.putfield 694, 3) := by decide +kernel
theorem d_Mo_giveWay_31 : decode b_Mo_giveWay 31 = .ok (.aload_n 0, 1) := by decide +kernel
theorem d_Mo_giveWay_32 : decode b_Mo_giveWay 32 = .ok (.getfield 262, 3) := by decide +kernel
theorem d_Mo_giveWay_35 : decode b_Mo_giveWay 35 = .ok (.iconst 0, 1) := by decide +kernel
theorem d_Mo_giveWay_36 : decode b_Mo_giveWay 36 = .ok (.putfield 569, 3) := by decide +kernel
theorem d_Mo_giveWay_39 : decode b_Mo_giveWay 39 = .ok (.iconst 0, 1) := by decide +kernel
theorem d_Mo_giveWay_40 : decode b_Mo_giveWay 40 = .ok (.istore_n 2, 1) := by decide +kernel
theorem d_Mo_giveWay_41 : decode b_Mo_giveWay 41 = .ok (.iload_n 2, 1) := by decide +kernel
theorem d_Mo_giveWay_42 : decode b_Mo_giveWay 42 = .ok (.aload_n 0, 1) := by decide +kernel
theorem d_Mo_giveWay_43 : decode b_Mo_giveWay 43 = .ok (.getfield 259, 3) := by decide +kernel
theorem d_Mo_giveWay_46 : decode b_Mo_giveWay 46 = .ok (.getfield 569, 3) := by decide +kernel
theorem d_Mo_giveWay_49 : decode b_Mo_giveWay 49 = .ok (.if_icmp .ge 21, 3) := by decide +kernel
theorem d_Mo_giveWay_52 : decode b_Mo_giveWay 52 = .ok (.aload_n 0, 1) := by decide +kernel
theorem d_Mo_giveWay_53 : decode b_Mo_giveWay 53 = .ok (.getfield 262, 3) := by decide +kernel
theorem d_Mo_giveWay_56 : decode b_Mo_giveWay 56 = .ok (.aload_n 0, 1) := by decide +kernel
theorem d_Mo_giveWay_57 : decode b_Mo_giveWay 57 = .ok (.getfield 259, 3) := by decide +kernel
theorem d_Mo_giveWay_60 : decode b_Mo_giveWay 60 = .ok (.iload_n 2, 1) := by decide +kernel
theorem d_Mo_giveWay_61 : decode b_Mo_giveWay 61 = .ok (.invokevirtual 770, 3) := by decide +kernel
theorem d_Mo_giveWay_64 : decode b_Mo_giveWay 64 = .ok (.iinc 2 1, 3) := by decide +kernel
theorem d_Mo_giveWay_67 : decode b_Mo_giveWay 67 = .ok (.goto (-26), 3) := by decide +kernel
theorem d_Mo_giveWay_70 : decode b_Mo_giveWay 70 = .ok (.aload_n 0, 1) := by decide +kernel
theorem d_Mo_giveWay_71 : decode b_Mo_giveWay 71 = .ok (.getfield 259, 3) := by decide +kernel
theorem d_Mo_giveWay_74 : decode b_Mo_giveWay 74 = .ok (.iconst 0, 1) := by decide +kernel
theorem d_Mo_giveWay_75 : decode b_Mo_giveWay 75 = .ok (.putfield 569, 3) := by decide +kernel
theorem d_Mo_giveWay_78 : decode b_Mo_giveWay 78 = .ok (.aload_n 0, 1) := by decide +kernel
theorem d_Mo_giveWay_79 : decode b_Mo_giveWay 79 = .ok (.aload_n 1, 1) := by decide +kernel
theorem d_Mo_giveWay_80 : decode b_Mo_giveWay 80 = .ok (.invokevirtual 783, 3) := by decide +kernel
theorem d_Mo_giveWay_83 : decode b_Mo_giveWay 83 = .ok (.aload_n 0, 1) := by decide +kernel
theorem d_Mo_giveWay_84 : decode b_Mo_giveWay 84 = .ok (.iconst 2, 1) := by decide +kernel
theorem d_Mo_giveWay_85 : decode b_Mo_giveWay 85 = .ok (.putfield 247, 3) := by decide +kernel
theorem d_Mo_giveWay_88 : decode b_Mo_giveWay 88 = .ok (.return_, 1) := by decide +kernel
theorem kw_372 : Cond.instanceMethod y_Mo_giveWay ∈ wA := kinm (show _ ∈ tables_1 from (List.mem_append_right _ (List.mem_append_right _ (List.mem_append_right _ (List.mem_append_right _ (List.mem_append_right _ (List.mem_append_right _ (List.mem_append_right _ (List.mem_append_right _ (List.mem_append_right _ (List.mem_append_right _ (List.mem_append_right _ (List.mem_append_right _ (List.mem_append_left _ (List.mem_of_getElem? (l := tables_1_13) (i := 67) (by decide +kernel)))))))))))))))) (by decide +kernel)
theorem kw_373 : Cond.selects R_Mo y_Mo_giveWay y_Mo_giveWay ∈ wA := kinp 188 (by decide +kernel) (by decide +kernel)
theorem cv_Mo_giveWay : CV y_Mo_giveWay b_Mo_giveWay 3 none 0 := ⟨kw_372, kw_373, kw_17, k_Mo_giveWay, by decide +kernel⟩
theorem lp_Mo_giveWay_L41 {X : Cx} {q : PL} (g : Gd X y_Mo_giveWay b_Mo_giveWay 3 none 2 45 R_Mo) (x : Int32 × Int32) (s : S1) (o : ((Int32 × Int32) ⊕ ((Int32))) × S1) (h : M_Mo_giveWay_L41 x s = some o) (hR : (Sum.elim (fun y : Int32 × Int32 => ∀ ls : Array Slot, lv_has ls 3 [(0, .ref (q.1 0 0)), (1, vr q 28 y.1), (2, .int y.2)] → WW X q o.2 41 ls []) (fun y : Int32 => ∀ ls : Array Slot, lv_has ls 3 [(0, .ref (q.1 0 0)), (1, vr q 28 y)] → WW X q o.2 70 ls []) o.1)) : ∀ ls : Array Slot, lv_has ls 3 [(0, .ref (q.1 0 0)), (1, vr q 28 x.1), (2, .int x.2)] → WW X q s 41 ls [] := by
  intro ls hl
  unfold M_Mo_giveWay_L41 at h
  refine ww_iload_n (pc := 41) g.1 d_Mo_giveWay_41 rfl (lv_at hl 2 rfl) ?_
  refine ww_aload_n (pc := 42) g.1 d_Mo_giveWay_42 rfl (lv_at hl 0 rfl) ?_
  refine ww_gR (pc := 43) g (k := 77) cl_Mo (pz rfl (by decide)) (by decide) (Or.inl kw_182) (f := 77) (t := 7) rfl rfl rfl d_Mo_giveWay_43 ?_
  refine ww_gI (pc := 46) g (k := 2) (cl_Va (Or.inl ⟨by decide, rfl⟩)) (pz rfl (by decide)) (by decide) (Or.inl kw_179) (f := 898) rfl rfl d_Mo_giveWay_46 h fun v46 h => ?_
  refine ww_icmp_ge (pc := 49) (tgt := 70) g.1 d_Mo_giveWay_49 (by decide) h (fun c h => ?_) (fun c h => ?_)
  · rw [oR_eq h] at hR
    exact hR ls (lv_sub hl [0, 1] rfl)
  · refine ww_aload_n (pc := 52) g.1 d_Mo_giveWay_52 rfl (lv_at hl 0 rfl) ?_
    refine ww_gR (pc := 53) g (k := 78) cl_Mo (pz rfl (by decide)) (by decide) (Or.inl kw_178) (f := 78) (t := 10) rfl rfl rfl d_Mo_giveWay_53 ?_
    refine ww_aload_n (pc := 56) g.1 d_Mo_giveWay_56 rfl (lv_at hl 0 rfl) ?_
    refine ww_gR (pc := 57) g (k := 77) cl_Mo (pz rfl (by decide)) (by decide) (Or.inl kw_182) (f := 77) (t := 7) rfl rfl rfl d_Mo_giveWay_57 ?_
    refine ww_iload_n (pc := 60) g.1 d_Mo_giveWay_60 rfl (lv_at hl 2 rfl) ?_
    obtain ⟨v61, s, hc61, h⟩ := oB_of h
    refine ww_callV (pc := 61) (rest := []) g cv_Va_add_ (Or.inl kw_221) (cl_Va (Or.inl ⟨by decide, rfl⟩)) (pz rfl (by decide)) (ct_Va_add_ (Or.inl ⟨by decide, rfl⟩) (Or.inl ⟨by decide, rfl⟩) hc61) ⟨by decide, by decide⟩ rfl hl.1 (Nat.le_of_ble_eq_true rfl) d_Mo_giveWay_61 rfl ?_
    refine ww_st (st' := []) rfl ?_
    refine ww_iinc (pc := 64) g.1 (v := x.2 + 1) (lv' := [(2, .int (x.2 + 1)), (0, .ref (q.1 0 0)), (1, vr q 28 x.1)]) d_Mo_giveWay_64 hl (k := 2) rfl (by rfl) (by decide) (by simp [vr_cat]) fun ls hl => ?_
    refine ww_goto (pc := 67) (tgt := 41) g.1 d_Mo_giveWay_67 (by decide) ?_
    rw [oR_eq h] at hR
    exact hR ls (lv_sub hl [1, 2, 0] rfl)

theorem ct_Mo_giveWay {l : Launch} {P : PP} {q : PL} {s s' : S1}  {r : Unit} (h : M_Mo_giveWay s = some (r, s')) : Ct l y_Mo_giveWay b_Mo_giveWay 3 none 2 45 P q s [.ref (q.1 0 0)] none q s' := by
  refine ct_of (by decide) (Nat.le_of_ble_eq_true rfl) fun X ls eP el g hR hl => ?_
  subst eP
  have hR : Rt X q ((r, s') : Unit × S1).2 none := hR
  have hl : lv_has ls 3 [(0, .ref (q.1 0 0))] := hl
  generalize (r, s') = o at h hR
  unfold M_Mo_giveWay at h
  refine ww_aload_n (pc := 0) g.1 d_Mo_giveWay_0 rfl (lv_at hl 0 rfl) ?_
  refine ww_gV (pc := 1) g (k := 72) cl_Mo (pz rfl (by decide)) (by decide) (Or.inl kw_150) (f := 72) (t := 28) rfl rfl rfl d_Mo_giveWay_1 h fun v1 h => ?_
  refine ww_ok h fun cn1 h => ?_
  refine ww_nn cn1 ?_
  refine ww_aload_n (pc := 4) g.1 d_Mo_giveWay_4 rfl (lv_at hl 0 rfl) ?_
  refine ww_gR (pc := 5) g (k := 71) cl_Mo (pz rfl (by decide)) (by decide) (Or.inl kw_88) (f := 71) (t := 76) rfl rfl rfl d_Mo_giveWay_5 ?_
  refine ww_iconst (pc := 8) g.1 (v := 0) d_Mo_giveWay_8 (by decide) ?_
  refine ww_at (pc := 9) g (t := 28) (pz rfl (by decide)) rfl rfl rfl d_Mo_giveWay_9 h fun ca9 h => ?_
  refine ww_acmp_ne (pc := 10) (tgt := 21) g.1 (pt rfl rfl cn1) (pt rfl rfl ca9) d_Mo_giveWay_10 (by decide) h (fun c h => ?_) (fun c h => ?_)
  · refine ww_aload_n (pc := 21) g.1 d_Mo_giveWay_21 rfl (lv_at hl 0 rfl) ?_
    refine ww_gV (pc := 22) g (k := 72) cl_Mo (pz rfl (by decide)) (by decide) (Or.inl kw_150) (f := 72) (t := 28) rfl rfl rfl d_Mo_giveWay_22 h fun v22 h => ?_
    refine ww_astore_nV (pc := 25) (i := 1) g.1 vr_cases (lv' := [(1, vr q 28 v22), (0, .ref (q.1 0 0))]) d_Mo_giveWay_25 rfl hl (by decide) rfl fun ls hl => ?_
    refine ww_aload_nV (pc := 26) g.1 vr_cases d_Mo_giveWay_26 rfl (lv_at hl 0 rfl) ?_
    refine ww_ok h fun cn26 h => ?_
    refine ww_nn cn26 ?_
    refine ww_iconst (pc := 27) g.1 (v := 0) d_Mo_giveWay_27 (by decide) ?_
    refine ww_pI (pc := 28) g (k := 1) cl_Th (pt rfl rfl cn26) (by decide) (Or.inl kw_217) rfl (f := 3585) rfl rfl rfl rfl d_Mo_giveWay_28 h fun s hs h => ?_
    refine ww_aload_n (pc := 31) g.1 d_Mo_giveWay_31 rfl (lv_at hl 1 rfl) ?_
    refine ww_gR (pc := 32) g (k := 78) cl_Mo (pz rfl (by decide)) (by decide) (Or.inl kw_178) (f := 78) (t := 10) rfl rfl rfl d_Mo_giveWay_32 ?_
    refine ww_iconst (pc := 35) g.1 (v := 0) d_Mo_giveWay_35 (by decide) ?_
    refine ww_pI (pc := 36) g (k := 2) (cl_Va (Or.inl ⟨by decide, rfl⟩)) (pz rfl (by decide)) (by decide) (Or.inl kw_179) rfl (f := 1282) rfl rfl rfl rfl d_Mo_giveWay_36 h fun s hs h => ?_
    refine ww_iconst (pc := 39) g.1 (v := 0) d_Mo_giveWay_39 (by decide) ?_
    refine ww_istore_n (pc := 40) (i := 2) g.1 (lv' := [(2, .int 0), (1, vr q 28 v22), (0, .ref (q.1 0 0))]) d_Mo_giveWay_40 rfl hl (by decide) (by simp [vr_cat]) fun ls hl => ?_
    obtain ⟨e41, s1, hw, h⟩ := oB_of h
    refine oW_rule (Wh := fun (x : Int32 × Int32) (s : S1) => ∀ ls : Array Slot, lv_has ls 3 [(0, .ref (q.1 0 0)), (1, vr q 28 x.1), (2, .int x.2)] → WW X q s 41 ls []) (We := fun (e : (Int32)) (s : S1) => ∀ ls : Array Slot, lv_has ls 3 [(0, .ref (q.1 0 0)), (1, vr q 28 e)] → WW X q s 70 ls []) (fun x s o hb hc => lp_Mo_giveWay_L41 (q := q) g x s o hb hc) hw ?_ ls (lv_sub hl [2, 1, 0] rfl)
    clear hw hl
    clear ls
    intro ls hl
    generalize s1 = s at h ⊢
    refine ww_aload_n (pc := 70) g.1 d_Mo_giveWay_70 rfl (lv_at hl 0 rfl) ?_
    refine ww_gR (pc := 71) g (k := 77) cl_Mo (pz rfl (by decide)) (by decide) (Or.inl kw_182) (f := 77) (t := 7) rfl rfl rfl d_Mo_giveWay_71 ?_
    refine ww_iconst (pc := 74) g.1 (v := 0) d_Mo_giveWay_74 (by decide) ?_
    refine ww_pI (pc := 75) g (k := 2) (cl_Va (Or.inl ⟨by decide, rfl⟩)) (pz rfl (by decide)) (by decide) (Or.inl kw_179) rfl (f := 898) rfl rfl rfl rfl d_Mo_giveWay_75 h fun s hs h => ?_
    refine ww_aload_n (pc := 78) g.1 d_Mo_giveWay_78 rfl (lv_at hl 0 rfl) ?_
    refine ww_aload_nV (pc := 79) g.1 vr_cases d_Mo_giveWay_79 rfl (lv_at hl 1 rfl) ?_
    refine ww_ok h fun cn79 h => ?_
    refine ww_nn cn79 ?_
    obtain ⟨v80, s, hc80, h⟩ := oB_of h
    refine ww_callV (pc := 80) (rest := []) g cv_Mo_back (Or.inl kw_231) cl_Mo (pz rfl (by decide)) (ct_Mo_back cn79 hc80) ⟨by decide, by decide⟩ rfl hl.1 (Nat.le_of_ble_eq_true rfl) d_Mo_giveWay_80 rfl ?_
    refine ww_st (st' := []) rfl ?_
    refine ww_aload_n (pc := 83) g.1 d_Mo_giveWay_83 rfl (lv_at hl 0 rfl) ?_
    refine ww_iconst (pc := 84) g.1 (v := 2) d_Mo_giveWay_84 (by decide) ?_
    refine ww_pI (pc := 85) g (k := 73) cl_Mo (pz rfl (by decide)) (by decide) (Or.inl kw_75) rfl (f := 73) rfl rfl rfl rfl d_Mo_giveWay_85 h fun s hs h => ?_
    exact ww_vretH (pc := 88) g h hR d_Mo_giveWay_88
  · refine ww_aload_n (pc := 13) g.1 d_Mo_giveWay_13 rfl (lv_at hl 0 rfl) ?_
    refine ww_bipush (pc := 14) g.1 (v := 9) d_Mo_giveWay_14 (by decide) ?_
    obtain ⟨v16, s, hc16, h⟩ := oB_of h
    refine ww_callV (pc := 16) (rest := []) g cv_Mo_raise (Or.inl kw_157) cl_Mo (pz rfl (by decide)) (ct_Mo_raise hc16) ⟨by decide, by decide⟩ rfl hl.1 (Nat.le_of_ble_eq_true rfl) d_Mo_giveWay_16 rfl ?_
    refine ww_st (st' := [.int v16]) rfl ?_
    refine ww_pop (pc := 19) g.1 d_Mo_giveWay_19 rfl ?_
    exact ww_vretH (pc := 20) g h hR d_Mo_giveWay_20


