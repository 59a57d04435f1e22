abbrev b_Mo_thread_ : ByteArray := prog_14_method_53_code
def y_Mo_thread_ : MethodName := ⟨R_Mo, "thread", "()I"⟩
abbrev w_Mo_thread_ : List Cond := .code y_Mo_thread_ b_Mo_thread_ 3 (some .int) :: wA
theorem k_Mo_thread_ : Cond.code y_Mo_thread_ b_Mo_thread_ 3 (some .int) ∈ wA := kinm (show _ ∈ tables_1 from (List.mem_append_right _ (List.mem_append_right _ (List.mem_append_right _ (List.mem_append_right _ (List.mem_append_right _ (List.mem_append_right _ (List.mem_append_right _ (List.mem_append_right _ (List.mem_append_right _ (List.mem_append_right _ (List.mem_append_right _ (List.mem_append_left _ (List.mem_of_getElem? (l := tables_1_12) (i := 120) (by decide +kernel))))))))))))))) (by decide +kernel)
theorem d_Mo_thread__0 : decode b_Mo_thread_ 0 = .ok (.aload_n 0, 1) := by decide +kernel
theorem d_Mo_thread__1 : decode b_Mo_thread_ 1 = .ok (.iconst 1, 1) := by decide +kernel
theorem d_Mo_thread__2 : decode b_Mo_thread_ 2 = .ok (.invokevirtual 527, 3) := by decide +kernel
theorem d_Mo_thread__5 : decode b_Mo_thread_ 5 = .ok (.ifCond .ne 5, 3) := by decide +kernel
theorem d_Mo_thread__8 : decode b_Mo_thread_ 8 = .ok (.iconst (-1), 1) := by decide +kernel
theorem d_Mo_thread__9 : decode b_Mo_thread_ 9 = .ok (.ireturn, 1) := by decide +kernel
theorem d_Mo_thread__10 : decode b_Mo_thread_ 10 = .ok (.iconst 0, 1) := by decide +kernel
theorem d_Mo_thread__11 : decode b_Mo_thread_ 11 = .ok (.istore_n 1, 1) := by decide +kernel
theorem d_Mo_thread__12 : decode b_Mo_thread_ 12 = .ok (.aload_n 0, 1) := by decide +kernel
theorem d_Mo_thread__13 : decode b_Mo_thread_ 13 = .ok (.getfield 239, 3) := by decide +kernel
theorem d_Mo_thread__16 : decode b_Mo_thread_ 16 = .ok (.iload_n 1, 1) := by decide +kernel
theorem d_Mo_thread__17 : decode b_Mo_thread_ 17 = .ok (.aaload, 1) := by decide +kernel
theorem d_Mo_thread__18 : decode b_Mo_thread_ 18 = .ok (.getfield 615, 3) := by decide +kernel
theorem d_Mo_thread__21 : decode b_Mo_thread_ 21 = .ok (.ifCond .lt 9, 3) := by decide +kernel
theorem d_Mo_thread__24 : decode b_Mo_thread_ 24 = .ok (.iinc 1 1, 3) := by decide +kernel
theorem d_Mo_thread__27 : decode b_Mo_thread_ 27 = .ok (.goto (-15), 3) := by decide +kernel
theorem d_Mo_thread__30 : decode b_Mo_thread_ 30 = .ok (.aload_n 0, 1) := by decide +kernel
theorem d_Mo_thread__31 : decode b_Mo_thread_ 31 = .ok (.bipush 7, 2) := by decide +kernel
theorem d_Mo_thread__33 : decode b_Mo_thread_ 33 = .ok (.invokevirtual 531, 3) := by decide +kernel
theorem d_Mo_thread__36 : decode b_Mo_thread_ 36 = .ok (.istore_n 2, 1) := by decide +kernel
theorem d_Mo_thread__37 : decode b_Mo_thread_ 37 = .ok (.aload_n 0, 1) := by decide +kernel
theorem d_Mo_thread__38 : decode b_Mo_thread_ 38 = .ok (.getfield 239, 3) := by decide +kernel
theorem d_Mo_thread__41 : decode b_Mo_thread_ 41 = .ok (.iload_n 1, 1) := by decide +kernel
theorem d_Mo_thread__42 : decode b_Mo_thread_ 42 = .ok (.aaload, 1) := by decide +kernel
theorem d_Mo_thread__43 : decode b_Mo_thread_ 43 = .ok (.iload_n 2, 1) := by decide +kernel
theorem d_Mo_thread__44 : decode b_Mo_thread_ 44 = .ok (.invokevirtual 644, 3) := by decide +kernel
theorem d_Mo_thread__47 : decode b_Mo_thread_ 47 = .ok (.aload_n 0, 1) := by decide +kernel
theorem d_Mo_thread__48 : decode b_Mo_thread_ 48 = .ok (.getfield 168, 3) := by decide +kernel
theorem d_Mo_thread__51 : decode b_Mo_thread_ 51 = .ok (.iload_n 2, 1) := by decide +kernel
theorem d_Mo_thread__52 : decode b_Mo_thread_ 52 = .ok (.iload_n 1, 1) := by decide +kernel
theorem d_Mo_thread__53 : decode b_Mo_thread_ 53 = .ok (.iastore, 1) := by decide +kernel
theorem d_Mo_thread__54 : decode b_Mo_thread_ 54 = .ok (.aload_n 0, 1) := by decide +kernel
theorem d_Mo_thread__55 : decode b_Mo_thread_ 55 = .ok (.dup, 1) := by decide +kernel
theorem d_Mo_thread__56 : decode b_Mo_thread_ 56 = .ok (.getfield 137, 3) := by decide +kernel
theorem d_Mo_thread__59 : decode b_Mo_thread_ 59 = .ok (.iconst 1, 1) := by decide +kernel
theorem d_Mo_thread__60 : decode b_Mo_thread_ 60 = .ok (.iadd, 1) := by decide +kernel
theorem d_Mo_thread__61 : decode b_Mo_thread_ 61 = .ok (.putfield 137, 3) := by decide +kernel
theorem d_Mo_thread__64 : decode b_Mo_thread_ 64 = .ok (.iload_n 2, 1) := by decide +kernel
theorem d_Mo_thread__65 : decode b_Mo_thread_ 65 = .ok (.ireturn, 1) := by decide +kernel
theorem kw_471 : Cond.methodLink R_Mo 644 y_Th_begin ∈ wA := kinm (show _ ∈ tables_1 from (List.mem_append_right _ (List.mem_append_right _ (List.mem_append_right _ (List.mem_append_right _ (List.mem_append_right _ (List.mem_append_right _ (List.mem_append_right _ (List.mem_append_right _ (List.mem_append_right _ (List.mem_append_right _ (List.mem_append_right _ (List.mem_append_left _ (List.mem_of_getElem? (l := tables_1_12) (i := 121) (by decide +kernel))))))))))))))) (by decide +kernel)
theorem kw_472 : Cond.instanceMethod y_Mo_thread_ ∈ wA := kinm (show _ ∈ tables_1 from (List.mem_append_right _ (List.mem_append_right _ (List.mem_append_right _ (List.mem_append_right _ (List.mem_append_right _ (List.mem_append_right _ (List.mem_append_right _ (List.mem_append_right _ (List.mem_append_right _ (List.mem_append_right _ (List.mem_append_right _ (List.mem_append_left _ (List.mem_of_getElem? (l := tables_1_12) (i := 119) (by decide +kernel))))))))))))))) (by decide +kernel)
theorem kw_473 : Cond.selects R_Mo y_Mo_thread_ y_Mo_thread_ ∈ wA := kinp 153 (by decide +kernel) (by decide +kernel)
theorem cv_Mo_thread_ : CV y_Mo_thread_ b_Mo_thread_ 3 (some .int) 0 := ⟨kw_472, kw_473, kw_17, k_Mo_thread_, by decide +kernel⟩
theorem lp_Mo_thread__L12 {X : Cx} {q : PL} (g : Gd X y_Mo_thread_ b_Mo_thread_ 3 (some .int) 7 154 R_Mo) (x : Int32) (s : S1) (o : ((Int32) ⊕ ((Int32))) × S1) (h : M_Mo_thread__L12 x s = some o) (hR : (Sum.elim (fun y : Int32 => ∀ ls : Array Slot, lv_has ls 3 [(0, .ref (q.1 0 0)), (1, .int y)] → WW X q o.2 12 ls []) (fun y : Int32 => ∀ ls : Array Slot, lv_has ls 3 [(0, .ref (q.1 0 0)), (1, .int y)] → WW X q o.2 30 ls []) o.1)) : ∀ ls : Array Slot, lv_has ls 3 [(0, .ref (q.1 0 0)), (1, .int x)] → WW X q s 12 ls [] := by
  intro ls hl
  unfold M_Mo_thread__L12 at h
  refine ww_aload_n (pc := 12) g.1 d_Mo_thread__12 rfl (lv_at hl 0 rfl) ?_
  refine ww_gR (pc := 13) g (k := 71) cl_Mo (pz rfl (by decide)) (by decide) (Or.inl kw_88) (f := 71) (t := 76) rfl rfl rfl d_Mo_thread__13 ?_
  refine ww_iload_n (pc := 16) g.1 d_Mo_thread__16 rfl (lv_at hl 1 rfl) ?_
  refine ww_at (pc := 17) g (t := 28) (pz rfl (by decide)) rfl rfl rfl d_Mo_thread__17 h fun ca17 h => ?_
  refine ww_gI (pc := 18) g (k := 0) cl_Th (pt rfl rfl ca17) (by decide) (Or.inl kw_216) (f := 3584) rfl rfl d_Mo_thread__18 h fun v18 h => ?_
  refine ww_if_lt (pc := 21) (tgt := 30) g.1 d_Mo_thread__21 (by decide) h (fun c h => ?_) (fun c h => ?_)
  · rw [oR_eq h] at hR
    exact hR ls (lv_sub hl [0, 1] rfl)
  · refine ww_iinc (pc := 24) g.1 (v := x + 1) (lv' := [(1, .int (x + 1)), (0, .ref (q.1 0 0))]) d_Mo_thread__24 hl (k := 1) rfl (by rfl) (by decide) rfl fun ls hl => ?_
    refine ww_goto (pc := 27) (tgt := 12) g.1 d_Mo_thread__27 (by decide) ?_
    rw [oR_eq h] at hR
    exact hR ls (lv_sub hl [1, 0] rfl)

theorem ct_Mo_thread_ {l : Launch} {P : PP} {q : PL} {s s' : S1}  {r : Int32} (h : M_Mo_thread_ s = some (r, s')) : Ct l y_Mo_thread_ b_Mo_thread_ 3 (some .int) 7 154 P q s [.ref (q.1 0 0)] (some (.int r)) q s' := by
  refine ct_of (by decide) (Nat.le_of_ble_eq_true rfl) fun X ls eP el g hR hl => ?_
  subst eP
  have hR : Rt X q ((r, s') : Int32 × S1).2 (some (.int ((r, s') : Int32 × S1).1)) := hR
  have hl : lv_has ls 3 [(0, .ref (q.1 0 0))] := hl
  generalize (r, s') = o at h hR
  unfold M_Mo_thread_ at h
  refine ww_aload_n (pc := 0) g.1 d_Mo_thread__0 rfl (lv_at hl 0 rfl) ?_
  refine ww_iconst (pc := 1) g.1 (v := 1) d_Mo_thread__1 (by decide) ?_
  obtain ⟨v2, s, hc2, h⟩ := oB_of h
  refine ww_callV (pc := 2) (rest := []) g cv_Mo_may (Or.inl kw_461) cl_Mo (pz rfl (by decide)) (ct_Mo_may hc2) ⟨by decide, by decide⟩ rfl hl.1 (Nat.le_of_ble_eq_true rfl) d_Mo_thread__2 rfl ?_
  refine ww_st (st' := [.int v2]) rfl ?_
  refine ww_if_ne (pc := 5) (tgt := 10) g.1 d_Mo_thread__5 (by decide) h (fun c h => ?_) (fun c h => ?_)
  · refine ww_iconst (pc := 10) g.1 (v := 0) d_Mo_thread__10 (by decide) ?_
    refine ww_istore_n (pc := 11) (i := 1) g.1 (lv' := [(1, .int 0), (0, .ref (q.1 0 0))]) d_Mo_thread__11 rfl hl (by decide) rfl fun ls hl => ?_
    obtain ⟨e12, s1, hw, h⟩ := oB_of h
    refine oW_rule (Wh := fun (x : Int32) (s : S1) => ∀ ls : Array Slot, lv_has ls 3 [(0, .ref (q.1 0 0)), (1, .int x)] → WW X q s 12 ls []) (We := fun (e : (Int32)) (s : S1) => ∀ ls : Array Slot, lv_has ls 3 [(0, .ref (q.1 0 0)), (1, .int e)] → WW X q s 30 ls []) (fun x s o hb hc => lp_Mo_thread__L12 (q := q) g x s o hb hc) hw ?_ ls (lv_sub hl [1, 0] rfl)
    clear hw hl
    clear ls
    intro ls hl
    generalize s1 = s at h ⊢
    refine ww_aload_n (pc := 30) g.1 d_Mo_thread__30 rfl (lv_at hl 0 rfl) ?_
    refine ww_bipush (pc := 31) g.1 (v := 7) d_Mo_thread__31 (by decide) ?_
    obtain ⟨v33, s, hc33, h⟩ := oB_of h
    refine ww_callV (pc := 33) (rest := []) g cv_Mo_object (Or.inl kw_462) cl_Mo (pz rfl (by decide)) (ct_Mo_object hc33) ⟨by decide, by decide⟩ rfl hl.1 (Nat.le_of_ble_eq_true rfl) d_Mo_thread__33 rfl ?_
    refine ww_st (st' := [.int v33]) rfl ?_
    refine ww_istore_n (pc := 36) (i := 2) g.1 (lv' := [(2, .int v33), (0, .ref (q.1 0 0)), (1, .int e12)]) d_Mo_thread__36 rfl hl (by decide) rfl fun ls hl => ?_
    refine ww_aload_n (pc := 37) g.1 d_Mo_thread__37 rfl (lv_at hl 1 rfl) ?_
    refine ww_gR (pc := 38) g (k := 71) cl_Mo (pz rfl (by decide)) (by decide) (Or.inl kw_88) (f := 71) (t := 76) rfl rfl rfl d_Mo_thread__38 ?_
    refine ww_iload_n (pc := 41) g.1 d_Mo_thread__41 rfl (lv_at hl 2 rfl) ?_
    refine ww_at (pc := 42) g (t := 28) (pz rfl (by decide)) rfl rfl rfl d_Mo_thread__42 h fun ca42 h => ?_
    refine ww_iload_n (pc := 43) g.1 d_Mo_thread__43 rfl (lv_at hl 0 rfl) ?_
    obtain ⟨v44, s, hc44, h⟩ := oB_of h
    refine ww_callV (pc := 44) (rest := []) g cv_Th_begin (Or.inl kw_471) cl_Th (pt rfl rfl ca42) (ct_Th_begin ca42 hc44) ⟨by decide, by decide⟩ rfl hl.1 (Nat.le_of_ble_eq_true rfl) d_Mo_thread__44 rfl ?_
    refine ww_st (st' := []) rfl ?_
    refine ww_aload_n (pc := 47) g.1 d_Mo_thread__47 rfl (lv_at hl 1 rfl) ?_
    refine ww_gR (pc := 48) g (k := 49) cl_Mo (pz rfl (by decide)) (by decide) (Or.inl kw_87) (f := 49) (t := 62) rfl rfl rfl d_Mo_thread__48 ?_
    refine ww_iload_n (pc := 51) g.1 d_Mo_thread__51 rfl (lv_at hl 0 rfl) ?_
    refine ww_iload_n (pc := 52) g.1 d_Mo_thread__52 rfl (lv_at hl 2 rfl) ?_
    refine ww_si (pc := 53) g (pz rfl (by decide)) rfl rfl d_Mo_thread__53 h fun s hs h => ?_
    refine ww_aload_n (pc := 54) g.1 d_Mo_thread__54 rfl (lv_at hl 1 rfl) ?_
    refine ww_dup (pc := 55) g.1 d_Mo_thread__55 rfl ?_
    refine ww_gI (pc := 56) g (k := 39) cl_Mo (pz rfl (by decide)) (by decide) (Or.inl kw_302) (f := 39) rfl rfl d_Mo_thread__56 h fun v56 h => ?_
    refine ww_iconst (pc := 59) g.1 (v := 1) d_Mo_thread__59 (by decide) ?_
    refine ww_iadd (pc := 60) g.1 d_Mo_thread__60 ?_
    refine ww_pI (pc := 61) g (k := 39) cl_Mo (pz rfl (by decide)) (by decide) (Or.inl kw_302) rfl (f := 39) rfl rfl rfl rfl d_Mo_thread__61 h fun s hs h => ?_
    refine ww_iload_n (pc := 64) g.1 d_Mo_thread__64 rfl (lv_at hl 0 rfl) ?_
    exact ww_iretH (pc := 65) g h hR d_Mo_thread__65
  · refine ww_iconst (pc := 8) g.1 (v := (-1)) d_Mo_thread__8 (by decide) ?_
    exact ww_iretH (pc := 9) g h hR d_Mo_thread__9

abbrev b_Mo_rawOf : ByteArray := prog_14_method_90_code
def y_Mo_rawOf : MethodName := ⟨R_Mo, "rawOf", "(I)V"⟩
abbrev w_Mo_rawOf : List Cond := .code y_Mo_rawOf b_Mo_rawOf 3 none :: wA
theorem k_Mo_rawOf : Cond.code y_Mo_rawOf b_Mo_rawOf 3 none ∈ wA := kinm (show _ ∈ tables_1 from (List.mem_append_right _ (List.mem_append_right _ (List.mem_append_right _ (List.mem_append_right _ (List.mem_append_right _ (List.mem_append_right _ (List.mem_append_right _ (List.mem_append_right _ (List.mem_append_right _ (List.mem_append_right _ (List.mem_append_right _ (List.mem_append_right _ (List.mem_append_left _ (List.mem_of_getElem? (l := tables_1_13) (i := 8) (by decide +kernel)))))))))))))))) (by decide +kernel)
theorem d_Mo_rawOf_0 : decode b_Mo_rawOf 0 = .ok (.iload_n 1, 1) := by decide +kernel
theorem d_Mo_rawOf_1 : decode b_Mo_rawOf 1 = .ok (.bipush 9, 2) := by decide +kernel
theorem d_Mo_rawOf_3 : decode b_Mo_rawOf 3 = .ok (.if_icmp .ne 30, 3) := by decide +kernel
theorem d_Mo_rawOf_6 : decode b_Mo_rawOf 6 = .ok (.aload_n 0, 1) := by decide +kernel
theorem d_Mo_rawOf_7 : decode b_Mo_rawOf 7 = .ok (.iconst 0, 1) := by decide +kernel
theorem d_Mo_rawOf_8 : decode b_Mo_rawOf 8 = .ok (.iconst 4, 1) := by decide +kernel
theorem d_Mo_rawOf_9 : decode b_Mo_rawOf 9 = .ok (.invokevirtual 833, 3) := by decide +kernel
theorem d_Mo_rawOf_12 : decode b_Mo_rawOf 12 = .ok (.ifCond .eq 21, 3) := by decide +kernel
theorem d_Mo_rawOf_15 : decode b_Mo_rawOf 15 = .ok (.aload_n 0, 1) := by decide +kernel
theorem d_Mo_rawOf_16 : decode b_Mo_rawOf 16 = .ok (.iconst 3, 1) := by decide +kernel
theorem d_Mo_rawOf_17 : decode b_Mo_rawOf 17 = .ok (.aload_n 0, 1) := by decide +kernel
theorem d_Mo_rawOf_18 : decode b_Mo_rawOf 18 = .ok (.getfield 171, 3) := by decide +kernel
theorem d_Mo_rawOf_21 : decode b_Mo_rawOf 21 = .ok (.aload_n 0, 1) := by decide +kernel
theorem d_Mo_rawOf_22 : decode b_Mo_rawOf 22 = .ok (.iconst 0, 1) := by decide +kernel
theorem d_Mo_rawOf_23 : decode b_Mo_rawOf 23 = .ok (.invokevirtual 807, 3) := by decide +kernel
theorem d_Mo_rawOf_26 : decode b_Mo_rawOf 26 = .ok (.l2i, 1) := by decide +kernel
theorem d_Mo_rawOf_27 : decode b_Mo_rawOf 27 = .ok (.iaload, 1) := by decide +kernel
theorem d_Mo_rawOf_28 : decode b_Mo_rawOf 28 = .ok (.i2l, 1) := by decide +kernel
theorem d_Mo_rawOf_29 : decode b_Mo_rawOf 29 = .ok (.invokevirtual 804, 3) := by decide +kernel
theorem d_Mo_rawOf_32 : decode b_Mo_rawOf 32 = .ok (.return_, 1) := by decide +kernel
theorem d_Mo_rawOf_33 : decode b_Mo_rawOf 33 = .ok (.aload_n 0, 1) := by decide +kernel
theorem d_Mo_rawOf_34 : decode b_Mo_rawOf 34 = .ok (.iconst 0, 1) := by decide +kernel
theorem d_Mo_rawOf_35 : decode b_Mo_rawOf 35 = .ok (.iconst 5, 1) := by decide +kernel
theorem d_Mo_rawOf_36 : decode b_Mo_rawOf 36 = .ok (.invokevirtual 833, 3) := by decide +kernel
theorem d_Mo_rawOf_39 : decode b_Mo_rawOf 39 = .ok (.ifCond .ne 10, 3) := by decide +kernel
theorem d_Mo_rawOf_42 : decode b_Mo_rawOf 42 = .ok (.aload_n 0, 1) := by decide +kernel
theorem d_Mo_rawOf_43 : decode b_Mo_rawOf 43 = .ok (.iconst 2, 1) := by decide +kernel
theorem d_Mo_rawOf_44 : decode b_Mo_rawOf 44 = .ok (.invokevirtual 517, 3) := by decide +kernel
theorem d_Mo_rawOf_47 : decode b_Mo_rawOf 47 = .ok (.pop, 1) := by decide +kernel
theorem d_Mo_rawOf_48 : decode b_Mo_rawOf 48 = .ok (.return_, 1) := by decide +kernel
theorem d_Mo_rawOf_49 : decode b_Mo_rawOf 49 = .ok (.aload_n 0, 1) := by decide +kernel
theorem d_Mo_rawOf_50 : decode b_Mo_rawOf 50 = .ok (.iconst 0, 1) := by decide +kernel
theorem d_Mo_rawOf_51 : decode b_Mo_rawOf 51 = .ok (.invokevirtual 807, 3) := by decide +kernel
theorem d_Mo_rawOf_54 : decode b_Mo_rawOf 54 = .ok (.l2i, 1) := by decide +kernel
theorem d_Mo_rawOf_55 : decode b_Mo_rawOf 55 = .ok (.istore_n 2, 1) := by decide +kernel
theorem d_Mo_rawOf_56 : decode b_Mo_rawOf 56 = .ok (.iload_n 1, 1) := by decide +kernel
theorem d_Mo_rawOf_57 : decode b_Mo_rawOf 57 = .ok (.bipush 7, 2) := by decide +kernel
theorem d_Mo_rawOf_59 : decode b_Mo_rawOf 59 = .ok (.if_icmp .ne 34, 3) := by decide +kernel
theorem d_Mo_rawOf_62 : decode b_Mo_rawOf 62 = .ok (.aload_n 0, 1) := by decide +kernel
theorem d_Mo_rawOf_63 : decode b_Mo_rawOf 63 = .ok (.iload_n 2, 1) := by decide +kernel
theorem d_Mo_rawOf_64 : decode b_Mo_rawOf 64 = .ok (.aload_n 0, 1) := by decide +kernel
theorem d_Mo_rawOf_65 : decode b_Mo_rawOf 65 = .ok (.iconst 1, 1) := by decide +kernel
theorem d_Mo_rawOf_66 : decode b_Mo_rawOf 66 = .ok (.invokevirtual 797, 3) := by decide +kernel
theorem d_Mo_rawOf_69 : decode b_Mo_rawOf 69 = .ok (.aload_n 0, 1) := by decide +kernel
theorem d_Mo_rawOf_70 : decode b_Mo_rawOf 70 = .ok (.iconst 1, 1) := by decide +kernel
theorem d_Mo_rawOf_71 : decode b_Mo_rawOf 71 = .ok (.invokevirtual 807, 3) := by decide +kernel
theorem d_Mo_rawOf_74 : decode b_Mo_rawOf 74 = .ok (.invokevirtual 581, 3) := by decide +kernel
theorem d_Mo_rawOf_77 : decode b_Mo_rawOf 77 = .ok (.pop, 1) := by decide +kernel
theorem d_Mo_rawOf_78 : decode b_Mo_rawOf 78 = .ok (.aload_n 0, 1) := by decide +kernel
theorem d_Mo_rawOf_79 : decode b_Mo_rawOf 79 = .ok (.aload_n 0, 1) := by decide +kernel
theorem d_Mo_rawOf_80 : decode b_Mo_rawOf 80 = .ok (.getfield 222, 3) := by decide +kernel
theorem d_Mo_rawOf_83 : decode b_Mo_rawOf 83 = .ok (.aload_n 0, 1) := by decide +kernel
theorem d_Mo_rawOf_84 : decode b_Mo_rawOf 84 = .ok (.getfield 225, 3) := by decide +kernel
theorem d_Mo_rawOf_87 : decode b_Mo_rawOf 87 = .ok (.invokevirtual 804, 3) := by decide +kernel
theorem d_Mo_rawOf_90 : decode b_Mo_rawOf 90 = .ok (.goto 57, 3) := by decide +kernel
theorem d_Mo_rawOf_93 : decode b_Mo_rawOf 93 = .ok (.iload_n 1, 1) := by decide +kernel
theorem d_Mo_rawOf_94 : decode b_Mo_rawOf 94 = .ok (.bipush 8, 2) := by decide +kernel
theorem d_Mo_rawOf_96 : decode b_Mo_rawOf 96 = .ok (.if_icmp .ne 41, 3) := by decide +kernel
theorem d_Mo_rawOf_99 : decode b_Mo_rawOf 99 = .ok (.aload_n 0, 1) := by decide +kernel
theorem d_Mo_rawOf_100 : decode b_Mo_rawOf 100 = .ok (.iload_n 2, 1) := by decide +kernel
theorem d_Mo_rawOf_101 : decode b_Mo_rawOf 101 = .ok (.aload_n 0, 1) := by decide +kernel
theorem d_Mo_rawOf_102 : decode b_Mo_rawOf 102 = .ok (.iconst 1, 1) := by decide +kernel
theorem d_Mo_rawOf_103 : decode b_Mo_rawOf 103 = .ok (.invokevirtual 797, 3) := by decide +kernel
theorem d_Mo_rawOf_106 : decode b_Mo_rawOf 106 = .ok (.aload_n 0, 1) := by decide +kernel
theorem d_Mo_rawOf_107 : decode b_Mo_rawOf 107 = .ok (.iconst 1, 1) := by decide +kernel
theorem d_Mo_rawOf_108 : decode b_Mo_rawOf 108 = .ok (.invokevirtual 807, 3) := by decide +kernel
theorem d_Mo_rawOf_111 : decode b_Mo_rawOf 111 = .ok (.aload_n 0, 1) := by decide +kernel
theorem d_Mo_rawOf_112 : decode b_Mo_rawOf 112 = .ok (.iconst 2, 1) := by decide +kernel
theorem d_Mo_rawOf_113 : decode b_Mo_rawOf 113 = .ok (.invokevirtual 797, 3) := by decide +kernel
theorem d_Mo_rawOf_116 : decode b_Mo_rawOf 116 = .ok (.aload_n 0, 1) := by decide +kernel
theorem d_Mo_rawOf_117 : decode b_Mo_rawOf 117 = .ok (.iconst 2, 1) := by decide +kernel
theorem d_Mo_rawOf_118 : decode b_Mo_rawOf 118 = .ok (.invokevirtual 807, 3) := by decide +kernel
theorem d_Mo_rawOf_121 : decode b_Mo_rawOf 121 = .ok (.invokevirtual 684, 3) := by decide +kernel
theorem d_Mo_rawOf_124 : decode b_Mo_rawOf 124 = .ok (.ifCond .eq 23, 3) := by decide +kernel
theorem d_Mo_rawOf_127 : decode b_Mo_rawOf 127 = .ok (.aload_n 0, 1) := by decide +kernel
theorem d_Mo_rawOf_128 : decode b_Mo_rawOf 128 = .ok (.iconst 5, 1) := by decide +kernel
theorem d_Mo_rawOf_129 : decode b_Mo_rawOf 129 = .ok (.iload_n 2, 1) := by decide +kernel
theorem d_Mo_rawOf_130 : decode b_Mo_rawOf 130 = .ok (.i2l, 1) := by decide +kernel
theorem d_Mo_rawOf_131 : decode b_Mo_rawOf 131 = .ok (.invokevirtual 804, 3) := by decide +kernel
theorem d_Mo_rawOf_134 : decode b_Mo_rawOf 134 = .ok (.goto 13, 3) := by decide +kernel
theorem d_Mo_rawOf_137 : decode b_Mo_rawOf 137 = .ok (.aload_n 0, 1) := by decide +kernel
theorem d_Mo_rawOf_138 : decode b_Mo_rawOf 138 = .ok (.iconst 3, 1) := by decide +kernel
theorem d_Mo_rawOf_139 : decode b_Mo_rawOf 139 = .ok (.aload_n 0, 1) := by decide +kernel
theorem d_Mo_rawOf_140 : decode b_Mo_rawOf 140 = .ok (.iload_n 2, 1) := by decide +kernel
theorem d_Mo_rawOf_141 : decode b_Mo_rawOf 141 = .ok (.invokevirtual 847, 3) := by decide +kernel
theorem d_Mo_rawOf_144 : decode b_Mo_rawOf 144 = .ok (.invokevirtual 804, 3) := by decide +kernel
theorem d_Mo_rawOf_147 : decode b_Mo_rawOf 147 = .ok (.return_, 1) := by decide +kernel
theorem kw_474 : Cond.methodLink R_Mo 684 y_Mo_put ∈ wA := kinm (show _ ∈ tables_1 from (List.mem_append_right _ (List.mem_append_right _ (List.mem_append_right _ (List.mem_append_right _ (List.mem_append_right _ (List.mem_append_right _ (List.mem_append_right _ (List.mem_append_right _ (List.mem_append_right _ (List.mem_append_right _ (List.mem_append_right _ (List.mem_append_left _ (List.mem_of_getElem? (l := tables_1_12) (i := 81) (by decide +kernel))))))))))))))) (by decide +kernel)
theorem kw_475 : Cond.instanceMethod y_Mo_rawOf ∈ wA := kinm (show _ ∈ tables_1 from (List.mem_append_right _ (List.mem_append_right _ (List.mem_append_right _ (List.mem_append_right _ (List.mem_append_right _ (List.mem_append_right _ (List.mem_append_right _ (List.mem_append_right _ (List.mem_append_right _ (List.mem_append_right _ (List.mem_append_right _ (List.mem_append_right _ (List.mem_append_left _ (List.mem_of_getElem? (l := tables_1_13) (i := 7) (by decide +kernel)))))))))))))))) (by decide +kernel)
theorem kw_476 : Cond.selects R_Mo y_Mo_rawOf y_Mo_rawOf ∈ wA := kinp 176 (by decide +kernel) (by decide +kernel)
theorem cv_Mo_rawOf : CV y_Mo_rawOf b_Mo_rawOf 3 none 1 := ⟨kw_475, kw_476, kw_17, k_Mo_rawOf, by decide +kernel⟩
theorem j_Mo_rawOf_j33 {X : Cx} {q : PL} (g : Gd X y_Mo_rawOf b_Mo_rawOf 3 none 8 186 R_Mo) {o : (Unit) × S1} (hR : Rt X q o.2 none) (l1 : Int32) (s : S1) (ls : Array Slot) (hl : lv_has ls 3 [(0, .ref (q.1 0 0)), (1, .int l1)]) (h : M_Mo_rawOf_j33 l1 s = some o) : WW X q s 33 ls [] := by
  unfold M_Mo_rawOf_j33 at h
  refine ww_aload_n (pc := 33) g.1 d_Mo_rawOf_33 rfl (lv_at hl 0 rfl) ?_
  refine ww_iconst (pc := 34) g.1 (v := 0) d_Mo_rawOf_34 (by decide) ?_
  refine ww_iconst (pc := 35) g.1 (v := 5) d_Mo_rawOf_35 (by decide) ?_
  obtain ⟨v36, s, hc36, h⟩ := oB_of h
  refine ww_callV (pc := 36) (rest := []) g cv_Mo_is (Or.inl kw_206) cl_Mo (pz rfl (by decide)) (ct_Mo_is hc36) ⟨by decide, by decide⟩ rfl hl.1 (Nat.le_of_ble_eq_true rfl) d_Mo_rawOf_36 rfl ?_
  refine ww_st (st' := [.int v36]) rfl ?_
  refine ww_if_ne (pc := 39) (tgt := 49) g.1 d_Mo_rawOf_39 (by decide) h (fun c h => ?_) (fun c h => ?_)
  · refine ww_aload_n (pc := 49) g.1 d_Mo_rawOf_49 rfl (lv_at hl 0 rfl) ?_
    refine ww_iconst (pc := 50) g.1 (v := 0) d_Mo_rawOf_50 (by decide) ?_
    obtain ⟨v51, s, hc51, h⟩ := oB_of h
    refine ww_callV (pc := 51) (rest := []) g cv_Mo_av (Or.inl kw_193) cl_Mo (pz rfl (by decide)) (ct_Mo_av hc51) ⟨by decide, by decide⟩ rfl hl.1 (Nat.le_of_ble_eq_true rfl) d_Mo_rawOf_51 rfl ?_
    refine ww_st (st' := [.long v51]) rfl ?_
    refine ww_l2i (pc := 54) g.1 (v := v51.toInt32) d_Mo_rawOf_54 rfl ?_
    refine ww_istore_n (pc := 55) (i := 2) g.1 (lv' := [(2, .int v51.toInt32), (0, .ref (q.1 0 0)), (1, .int l1)]) d_Mo_rawOf_55 rfl hl (by decide) rfl fun ls hl => ?_
    refine ww_iload_n (pc := 56) g.1 d_Mo_rawOf_56 rfl (lv_at hl 2 rfl) ?_
    refine ww_bipush (pc := 57) g.1 (v := 7) d_Mo_rawOf_57 (by decide) ?_
    refine ww_icmp_ne (pc := 59) (tgt := 93) g.1 d_Mo_rawOf_59 (by decide) h (fun c h => ?_) (fun c h => ?_)
    · refine ww_iload_n (pc := 93) g.1 d_Mo_rawOf_93 rfl (lv_at hl 2 rfl) ?_
      refine ww_bipush (pc := 94) g.1 (v := 8) d_Mo_rawOf_94 (by decide) ?_
      refine ww_icmp_ne (pc := 96) (tgt := 137) g.1 d_Mo_rawOf_96 (by decide) h (fun c h => ?_) (fun c h => ?_)
      · refine ww_aload_n (pc := 137) g.1 d_Mo_rawOf_137 rfl (lv_at hl 1 rfl) ?_
        refine ww_iconst (pc := 138) g.1 (v := 3) d_Mo_rawOf_138 (by decide) ?_
        refine ww_aload_n (pc := 139) g.1 d_Mo_rawOf_139 rfl (lv_at hl 1 rfl) ?_
        refine ww_iload_n (pc := 140) g.1 d_Mo_rawOf_140 rfl (lv_at hl 0 rfl) ?_
        obtain ⟨v141, s, hc141, h⟩ := oB_of h
        refine ww_callV (pc := 141) (rest := [.int 3, .ref (q.1 0 0)]) g cv_Mo_border (Or.inl kw_428) cl_Mo (pz rfl (by decide)) (ct_Mo_border hc141) ⟨by decide, by decide⟩ rfl hl.1 (Nat.le_of_ble_eq_true rfl) d_Mo_rawOf_141 rfl ?_
        refine ww_st (st' := [.long v141, .int 3, .ref (q.1 0 0)]) rfl ?_
        obtain ⟨v144, s, hc144, h⟩ := oB_of h
        refine ww_callV (pc := 144) (rest := []) g cv_Mo_give (Or.inl kw_212) cl_Mo (pz rfl (by decide)) (ct_Mo_give hc144) ⟨by decide, by decide⟩ rfl hl.1 (Nat.le_of_ble_eq_true rfl) d_Mo_rawOf_144 rfl ?_
        refine ww_st (st' := []) rfl ?_
        exact ww_vretH (pc := 147) g h hR d_Mo_rawOf_147
      · refine ww_aload_n (pc := 99) g.1 d_Mo_rawOf_99 rfl (lv_at hl 1 rfl) ?_
        refine ww_iload_n (pc := 100) g.1 d_Mo_rawOf_100 rfl (lv_at hl 0 rfl) ?_
        refine ww_aload_n (pc := 101) g.1 d_Mo_rawOf_101 rfl (lv_at hl 1 rfl) ?_
        refine ww_iconst (pc := 102) g.1 (v := 1) d_Mo_rawOf_102 (by decide) ?_
        obtain ⟨v103, s, hc103, h⟩ := oB_of h
        refine ww_callV (pc := 103) (rest := [.int v51.toInt32, .ref (q.1 0 0)]) g cv_Mo_ak (Or.inl kw_191) cl_Mo (pz rfl (by decide)) (ct_Mo_ak hc103) ⟨by decide, by decide⟩ rfl hl.1 (Nat.le_of_ble_eq_true rfl) d_Mo_rawOf_103 rfl ?_
        refine ww_st (st' := [.int v103, .int v51.toInt32, .ref (q.1 0 0)]) rfl ?_
        refine ww_aload_n (pc := 106) g.1 d_Mo_rawOf_106 rfl (lv_at hl 1 rfl) ?_
        refine ww_iconst (pc := 107) g.1 (v := 1) d_Mo_rawOf_107 (by decide) ?_
        obtain ⟨v108, s, hc108, h⟩ := oB_of h
        refine ww_callV (pc := 108) (rest := [.int v103, .int v51.toInt32, .ref (q.1 0 0)]) g cv_Mo_av (Or.inl kw_193) cl_Mo (pz rfl (by decide)) (ct_Mo_av hc108) ⟨by decide, by decide⟩ rfl hl.1 (Nat.le_of_ble_eq_true rfl) d_Mo_rawOf_108 rfl ?_
        refine ww_st (st' := [.long v108, .int v103, .int v51.toInt32, .ref (q.1 0 0)]) rfl ?_
        refine ww_aload_n (pc := 111) g.1 d_Mo_rawOf_111 rfl (lv_at hl 1 rfl) ?_
        refine ww_iconst (pc := 112) g.1 (v := 2) d_Mo_rawOf_112 (by decide) ?_
        obtain ⟨v113, s, hc113, h⟩ := oB_of h
        refine ww_callV (pc := 113) (rest := [.long v108, .int v103, .int v51.toInt32, .ref (q.1 0 0)]) g cv_Mo_ak (Or.inl kw_191) cl_Mo (pz rfl (by decide)) (ct_Mo_ak hc113) ⟨by decide, by decide⟩ rfl hl.1 (Nat.le_of_ble_eq_true rfl) d_Mo_rawOf_113 rfl ?_
        refine ww_st (st' := [.int v113, .long v108, .int v103, .int v51.toInt32, .ref (q.1 0 0)]) rfl ?_
        refine ww_aload_n (pc := 116) g.1 d_Mo_rawOf_116 rfl (lv_at hl 1 rfl) ?_
        refine ww_iconst (pc := 117) g.1 (v := 2) d_Mo_rawOf_117 (by decide) ?_
        obtain ⟨v118, s, hc118, h⟩ := oB_of h
        refine ww_callV (pc := 118) (rest := [.int v113, .long v108, .int v103, .int v51.toInt32, .ref (q.1 0 0)]) g cv_Mo_av (Or.inl kw_193) cl_Mo (pz rfl (by decide)) (ct_Mo_av hc118) ⟨by decide, by decide⟩ rfl hl.1 (Nat.le_of_ble_eq_true rfl) d_Mo_rawOf_118 rfl ?_
        refine ww_st (st' := [.long v118, .int v113, .long v108, .int v103, .int v51.toInt32, .ref (q.1 0 0)]) rfl ?_
        obtain ⟨v121, s, hc121, h⟩ := oB_of h
        refine ww_callV (pc := 121) (rest := []) g cv_Mo_put (Or.inl kw_474) cl_Mo (pz rfl (by decide)) (ct_Mo_put hc121) ⟨by decide, by decide⟩ rfl hl.1 (Nat.le_of_ble_eq_true rfl) d_Mo_rawOf_121 rfl ?_
        refine ww_st (st' := [.int v121]) rfl ?_
        refine ww_if_eq (pc := 124) (tgt := 147) g.1 d_Mo_rawOf_124 (by decide) h (fun c h => ?_) (fun c h => ?_)
        · exact ww_vretH (pc := 147) g h hR d_Mo_rawOf_147
        · refine ww_aload_n (pc := 127) g.1 d_Mo_rawOf_127 rfl (lv_at hl 1 rfl) ?_
          refine ww_iconst (pc := 128) g.1 (v := 5) d_Mo_rawOf_128 (by decide) ?_
          refine ww_iload_n (pc := 129) g.1 d_Mo_rawOf_129 rfl (lv_at hl 0 rfl) ?_
          refine ww_i2l (pc := 130) g.1 (v := v51.toInt32.toInt64) d_Mo_rawOf_130 rfl ?_
          obtain ⟨v131, s, hc131, h⟩ := oB_of h
          refine ww_callV (pc := 131) (rest := []) g cv_Mo_give (Or.inl kw_212) cl_Mo (pz rfl (by decide)) (ct_Mo_give hc131) ⟨by decide, by decide⟩ rfl hl.1 (Nat.le_of_ble_eq_true rfl) d_Mo_rawOf_131 rfl ?_
          refine ww_st (st' := []) rfl ?_
          refine ww_goto (pc := 134) (tgt := 147) g.1 d_Mo_rawOf_134 (by decide) ?_
          exact ww_vretH (pc := 147) g h hR d_Mo_rawOf_147
    · refine ww_aload_n (pc := 62) g.1 d_Mo_rawOf_62 rfl (lv_at hl 1 rfl) ?_
      refine ww_iload_n (pc := 63) g.1 d_Mo_rawOf_63 rfl (lv_at hl 0 rfl) ?_
      refine ww_aload_n (pc := 64) g.1 d_Mo_rawOf_64 rfl (lv_at hl 1 rfl) ?_
      refine ww_iconst (pc := 65) g.1 (v := 1) d_Mo_rawOf_65 (by decide) ?_
      obtain ⟨v66, s, hc66, h⟩ := oB_of h
      refine ww_callV (pc := 66) (rest := [.int v51.toInt32, .ref (q.1 0 0)]) g cv_Mo_ak (Or.inl kw_191) cl_Mo (pz rfl (by decide)) (ct_Mo_ak hc66) ⟨by decide, by decide⟩ rfl hl.1 (Nat.le_of_ble_eq_true rfl) d_Mo_rawOf_66 rfl ?_
      refine ww_st (st' := [.int v66, .int v51.toInt32, .ref (q.1 0 0)]) rfl ?_
      refine ww_aload_n (pc := 69) g.1 d_Mo_rawOf_69 rfl (lv_at hl 1 rfl) ?_
      refine ww_iconst (pc := 70) g.1 (v := 1) d_Mo_rawOf_70 (by decide) ?_
      obtain ⟨v71, s, hc71, h⟩ := oB_of h
      refine ww_callV (pc := 71) (rest := [.int v66, .int v51.toInt32, .ref (q.1 0 0)]) g cv_Mo_av (Or.inl kw_193) cl_Mo (pz rfl (by decide)) (ct_Mo_av hc71) ⟨by decide, by decide⟩ rfl hl.1 (Nat.le_of_ble_eq_true rfl) d_Mo_rawOf_71 rfl ?_
      refine ww_st (st' := [.long v71, .int v66, .int v51.toInt32, .ref (q.1 0 0)]) rfl ?_
      obtain ⟨v74, s, hc74, h⟩ := oB_of h
      refine ww_callV (pc := 74) (rest := []) g cv_Mo_raw (Or.inl kw_356) cl_Mo (pz rfl (by decide)) (ct_Mo_raw hc74) ⟨by decide, by decide⟩ rfl hl.1 (Nat.le_of_ble_eq_true rfl) d_Mo_rawOf_74 rfl ?_
      refine ww_st (st' := [.int v74]) rfl ?_
      refine ww_pop (pc := 77) g.1 d_Mo_rawOf_77 rfl ?_
      refine ww_aload_n (pc := 78) g.1 d_Mo_rawOf_78 rfl (lv_at hl 1 rfl) ?_
      refine ww_aload_n (pc := 79) g.1 d_Mo_rawOf_79 rfl (lv_at hl 1 rfl) ?_
      refine ww_gI (pc := 80) g (k := 66) cl_Mo (pz rfl (by decide)) (by decide) (Or.inl kw_92) (f := 66) rfl rfl d_Mo_rawOf_80 h fun v80 h => ?_
      refine ww_aload_n (pc := 83) g.1 d_Mo_rawOf_83 rfl (lv_at hl 1 rfl) ?_
      refine ww_gL (pc := 84) g (k := 67) cl_Mo (pz rfl (by decide)) (by decide) (Or.inl kw_94) (f := 67) rfl rfl d_Mo_rawOf_84 h fun v84 h => ?_
      obtain ⟨v87, s, hc87, h⟩ := oB_of h
      refine ww_callV (pc := 87) (rest := []) g cv_Mo_give (Or.inl kw_212) cl_Mo (pz rfl (by decide)) (ct_Mo_give hc87) ⟨by decide, by decide⟩ rfl hl.1 (Nat.le_of_ble_eq_true rfl) d_Mo_rawOf_87 rfl ?_
      refine ww_st (st' := []) rfl ?_
      refine ww_goto (pc := 90) (tgt := 147) g.1 d_Mo_rawOf_90 (by decide) ?_
      exact ww_vretH (pc := 147) g h hR d_Mo_rawOf_147
  · refine ww_aload_n (pc := 42) g.1 d_Mo_rawOf_42 rfl (lv_at hl 0 rfl) ?_
    refine ww_iconst (pc := 43) g.1 (v := 2) d_Mo_rawOf_43 (by decide) ?_
    obtain ⟨v44, s, hc44, h⟩ := oB_of h
    refine ww_callV (pc := 44) (rest := []) g cv_Mo_raise (Or.inl kw_157) cl_Mo (pz rfl (by decide)) (ct_Mo_raise hc44) ⟨by decide, by decide⟩ rfl hl.1 (Nat.le_of_ble_eq_true rfl) d_Mo_rawOf_44 rfl ?_
    refine ww_st (st' := [.int v44]) rfl ?_
    refine ww_pop (pc := 47) g.1 d_Mo_rawOf_47 rfl ?_
    exact ww_vretH (pc := 48) g h hR d_Mo_rawOf_48

theorem ct_Mo_rawOf {l : Launch} {P : PP} {q : PL} {s s' : S1} {l1 : Int32} {r : Unit} (h : M_Mo_rawOf l1 s = some (r, s')) : Ct l y_Mo_rawOf b_Mo_rawOf 3 none 8 186 P q s [.ref (q.1 0 0), .int l1] none q s' := by
  refine ct_of (by decide) (Nat.le_of_ble_eq_true rfl) fun X ls eP el g hR hl => ?_
  subst eP
  have hR : Rt X q ((r, s') : Unit × S1).2 none := hR
  have hl : lv_has ls 3 [(0, .ref (q.1 0 0)), (1, .int l1)] := hl
  generalize (r, s') = o at h hR
  unfold M_Mo_rawOf at h
  refine ww_iload_n (pc := 0) g.1 d_Mo_rawOf_0 rfl (lv_at hl 1 rfl) ?_
  refine ww_bipush (pc := 1) g.1 (v := 9) d_Mo_rawOf_1 (by decide) ?_
  refine ww_icmp_ne (pc := 3) (tgt := 33) g.1 d_Mo_rawOf_3 (by decide) h (fun c h => ?_) (fun c h => ?_)
  · exact j_Mo_rawOf_j33 g hR l1 s ls (lv_sub hl [0, 1] rfl) h
  · refine ww_aload_n (pc := 6) g.1 d_Mo_rawOf_6 rfl (lv_at hl 0 rfl) ?_
    refine ww_iconst (pc := 7) g.1 (v := 0) d_Mo_rawOf_7 (by decide) ?_
    refine ww_iconst (pc := 8) g.1 (v := 4) d_Mo_rawOf_8 (by decide) ?_
    obtain ⟨v9, s, hc9, h⟩ := oB_of h
    refine ww_callV (pc := 9) (rest := []) g cv_Mo_is (Or.inl kw_206) cl_Mo (pz rfl (by decide)) (ct_Mo_is hc9) ⟨by decide, by decide⟩ rfl hl.1 (Nat.le_of_ble_eq_true rfl) d_Mo_rawOf_9 rfl ?_
    refine ww_st (st' := [.int v9]) rfl ?_
    refine ww_if_eq (pc := 12) (tgt := 33) g.1 d_Mo_rawOf_12 (by decide) h (fun c h => ?_) (fun c h => ?_)
    · exact j_Mo_rawOf_j33 g hR l1 s ls (lv_sub hl [0, 1] rfl) h
    · refine ww_aload_n (pc := 15) g.1 d_Mo_rawOf_15 rfl (lv_at hl 0 rfl) ?_
      refine ww_iconst (pc := 16) g.1 (v := 3) d_Mo_rawOf_16 (by decide) ?_
      refine ww_aload_n (pc := 17) g.1 d_Mo_rawOf_17 rfl (lv_at hl 0 rfl) ?_
      refine ww_gR (pc := 18) g (k := 50) cl_Mo (pz rfl (by decide)) (by decide) (Or.inl kw_91) (f := 50) (t := 63) rfl rfl rfl d_Mo_rawOf_18 ?_
      refine ww_aload_n (pc := 21) g.1 d_Mo_rawOf_21 rfl (lv_at hl 0 rfl) ?_
      refine ww_iconst (pc := 22) g.1 (v := 0) d_Mo_rawOf_22 (by decide) ?_
      obtain ⟨v23, s, hc23, h⟩ := oB_of h
      refine ww_callV (pc := 23) (rest := [.ref (q.1 63 0), .int 3, .ref (q.1 0 0)]) g cv_Mo_av (Or.inl kw_193) cl_Mo (pz rfl (by decide)) (ct_Mo_av hc23) ⟨by decide, by decide⟩ rfl hl.1 (Nat.le_of_ble_eq_true rfl) d_Mo_rawOf_23 rfl ?_
      refine ww_st (st' := [.long v23, .ref (q.1 63 0), .int 3, .ref (q.1 0 0)]) rfl ?_
      refine ww_l2i (pc := 26) g.1 (v := v23.toInt32) d_Mo_rawOf_26 rfl ?_
      refine ww_ai (pc := 27) g (pz rfl (by decide)) rfl rfl d_Mo_rawOf_27 h fun v27 h => ?_
      refine ww_i2l (pc := 28) g.1 (v := v27.toInt64) d_Mo_rawOf_28 rfl ?_
      obtain ⟨v29, s, hc29, h⟩ := oB_of h
      refine ww_callV (pc := 29) (rest := []) g cv_Mo_give (Or.inl kw_212) cl_Mo (pz rfl (by decide)) (ct_Mo_give hc29) ⟨by decide, by decide⟩ rfl hl.1 (Nat.le_of_ble_eq_true rfl) d_Mo_rawOf_29 rfl ?_
      refine ww_st (st' := []) rfl ?_
      exact ww_vretH (pc := 32) g h hR d_Mo_rawOf_32

abbrev b_Mo_create : ByteArray := prog_14_method_99_code
def y_Mo_create : MethodName := ⟨R_Mo, "create", "(Z)V"⟩
abbrev w_Mo_create : List Cond := .code y_Mo_create b_Mo_create 5 none :: wA
theorem k_Mo_create : Cond.code y_Mo_create b_Mo_create 5 none ∈ wA := kinm (show _ ∈ tables_1 from (List.mem_append_right _ (List.mem_append_right _ (List.mem_append_right _ (List.mem_append_right _ (List.mem_append_right _ (List.mem_append_right _ (List.mem_append_right _ (List.mem_append_right _ (List.mem_append_right _ (List.mem_append_right _ (List.mem_append_right _ (List.mem_append_right _ (List.mem_append_left _ (List.mem_of_getElem? (l := tables_1_13) (i := 55) (by decide +kernel)))))))))))))))) (by decide +kernel)
theorem d_Mo_create_0 : decode b_Mo_create 0 = .ok (.aload_n 0, 1) := by decide +kernel
theorem d_Mo_create_1 : decode b_Mo_create 1 = .ok (.iconst 0, 1) := by decide +kernel
theorem d_Mo_create_2 : decode b_Mo_create 2 = .ok (.bipush 6, 2) := by decide +kernel
theorem d_Mo_create_4 : decode b_Mo_create 4 = .ok (.invokevirtual 833, 3) := by decide +kernel
theorem d_Mo_create_7 : decode b_Mo_create 7 = .ok (.ifCond .ne 10, 3) := by decide +kernel
theorem d_Mo_create_10 : decode b_Mo_create 10 = .ok (.aload_n 0, 1) := by decide +kernel
theorem d_Mo_create_11 : decode b_Mo_create 11 = .ok (.iconst 1, 1) := by decide +kernel
theorem d_Mo_create_12 : decode b_Mo_create 12 = .ok (.invokevirtual 517, 3) := by decide +kernel
theorem d_Mo_create_15 : decode b_Mo_create 15 = .ok (.pop, 1) := by decide +kernel
theorem d_Mo_create_16 : decode b_Mo_create 16 = .ok (.return_, 1) := by decide +kernel
theorem d_Mo_create_17 : decode b_Mo_create 17 = .ok (.aload_n 0, 1) := by decide +kernel
theorem d_Mo_create_18 : decode b_Mo_create 18 = .ok (.invokevirtual 692, 3) := by decide +kernel
theorem d_Mo_create_21 : decode b_Mo_create 21 = .ok (.istore_n 2, 1) := by decide +kernel
theorem d_Mo_create_22 : decode b_Mo_create 22 = .ok (.iload_n 2, 1) := by decide +kernel
theorem d_Mo_create_23 : decode b_Mo_create 23 = .ok (.ifCond .ge 4, 3) := by decide +kernel
theorem d_Mo_create_26 : decode b_Mo_create 26 = .ok (.return_, 1) := by decide +kernel
theorem d_Mo_create_27 : decode b_Mo_create 27 = .ok (.aload_n 0, 1) := by decide +kernel
theorem d_Mo_create_28 : decode b_Mo_create 28 = .ok (.getfield 239, 3) := by decide +kernel
theorem d_Mo_create_31 : decode b_Mo_create 31 = .ok (.aload_n 0, 1) := by decide +kernel
theorem d_Mo_create_32 : decode b_Mo_create 32 = .ok (.getfield 168, 3) := by decide +kernel
theorem d_Mo_create_35 : decode b_Mo_create 35 = .ok (.iload_n 2, 1) := by decide +kernel
theorem d_Mo_create_36 : decode b_Mo_create 36 = .ok (.iaload, 1) := by decide +kernel
theorem d_Mo_create_37 : decode b_Mo_create 37 = .ok (.aaload, 1) := by decide +kernel
theorem d_Mo_create_38 : decode b_Mo_create 38 = .ok (.getfield 794, 3) := by decide +kernel
theorem d_Mo_create_41 : decode b_Mo_create 41 = .ok (.aload_n 0, 1) := by decide +kernel
theorem d_Mo_create_42 : decode b_Mo_create 42 = .ok (.getfield 259, 3) := by decide +kernel
theorem d_Mo_create_45 : decode b_Mo_create 45 = .ok (.iconst 0, 1) := by decide +kernel
theorem d_Mo_create_46 : decode b_Mo_create 46 = .ok (.invokevirtual 770, 3) := by decide +kernel
theorem d_Mo_create_49 : decode b_Mo_create 49 = .ok (.iload_n 1, 1) := by decide +kernel
theorem d_Mo_create_50 : decode b_Mo_create 50 = .ok (.ifCond .ne 12, 3) := by decide +kernel
theorem d_Mo_create_53 : decode b_Mo_create 53 = .ok (.aload_n 0, 1) := by decide +kernel
theorem d_Mo_create_54 : decode b_Mo_create 54 = .ok (.bipush 7, 2) := by decide +kernel
theorem d_Mo_create_56 : decode b_Mo_create 56 = .ok (.iload_n 2, 1) := by decide +kernel
theorem d_Mo_create_57 : decode b_Mo_create 57 = .ok (.i2l, 1) := by decide +kernel
theorem d_Mo_create_58 : decode b_Mo_create 58 = .ok (.invokevirtual 804, 3) := by decide +kernel
theorem d_Mo_create_61 : decode b_Mo_create 61 = .ok (.return_, 1) := by decide +kernel
theorem d_Mo_create_62 : decode b_Mo_create 62 = .ok (.aload_n 0, 1) := by decide +kernel
theorem d_Mo_create_63 : decode b_Mo_create 63 = .ok (.getfield 234, 3) := by decide +kernel
theorem d_Mo_create_66 : decode b_Mo_create 66 = .ok (.getfield 569, 3) := by decide +kernel
theorem d_Mo_create_69 : decode b_Mo_create 69 = .ok (.istore_n 3, 1) := by decide +kernel
theorem d_Mo_create_70 : decode b_Mo_create 70 = .ok (.aload_n 0, 1) := by decide +kernel
theorem d_Mo_create_71 : decode b_Mo_create 71 = .ok (.getfield 234, 3) := by decide +kernel
theorem d_Mo_create_74 : decode b_Mo_create 74 = .ok (.bipush 7, 2) := by decide +kernel
theorem d_Mo_create_76 : decode b_Mo_create 76 = .ok (.iload_n 2, 1) := by decide +kernel
theorem d_Mo_create_77 : decode b_Mo_create 77 = .ok (.i2l, 1) := by decide +kernel
theorem d_Mo_create_78 : decode b_Mo_create 78 = .ok (.invokevirtual 572, 3) := by decide +kernel
theorem d_Mo_create_81 : decode b_Mo_create 81 = .ok (.aload_n 0, 1) := by decide +kernel
theorem d_Mo_create_82 : decode b_Mo_create 82 = .ok (.iconst (-1), 1) := by decide +kernel
theorem d_Mo_create_83 : decode b_Mo_create 83 = .ok (.iload_n 2, 1) := by decide +kernel
theorem d_Mo_create_84 : decode b_Mo_create 84 = .ok (.iconst 0, 1) := by decide +kernel
theorem d_Mo_create_85 : decode b_Mo_create 85 = .ok (.invokevirtual 688, 3) := by decide +kernel
theorem d_Mo_create_88 : decode b_Mo_create 88 = .ok (.istore 4, 2) := by decide +kernel
theorem d_Mo_create_90 : decode b_Mo_create 90 = .ok (.aload_n 0, 1) := by decide +kernel
theorem d_Mo_create_91 : decode b_Mo_create 91 = .ok (.getfield 234, 3) := by decide +kernel
theorem d_Mo_create_94 : decode b_Mo_create 94 = .ok (.iload_n 3, 1) := by decide +kernel
theorem d_Mo_create_95 : decode b_Mo_create 95 = .ok (.putfield 569, 3) := by decide +kernel
theorem d_Mo_create_98 : decode b_Mo_create 98 = .ok (.iload 4, 2) := by decide +kernel
theorem d_Mo_create_100 : decode b_Mo_create 100 = .ok (.ifCond .lt 12, 3) := by decide +kernel
theorem d_Mo_create_103 : decode b_Mo_create 103 = .ok (.aload_n 0, 1) := by decide +kernel
theorem d_Mo_create_104 : decode b_Mo_create 104 = .ok (.bipush 6, 2) := by decide +kernel
theorem d_Mo_create_106 : decode b_Mo_create 106 = .ok (.iload 4, 2) := by decide +kernel
theorem d_Mo_create_108 : decode b_Mo_create 108 = .ok (.i2l, 1) := by decide +kernel
theorem d_Mo_create_109 : decode b_Mo_create 109 = .ok (.invokevirtual 804, 3) := by decide +kernel
theorem d_Mo_create_112 : decode b_Mo_create 112 = .ok (.return_, 1) := by decide +kernel
theorem kw_477 : Cond.methodLink R_Mo 692 y_Mo_thread_ ∈ wA := kinm (show _ ∈ tables_1 from (List.mem_append_right _ (List.mem_append_right _ (List.mem_append_right _ (List.mem_append_right _ (List.mem_append_right _ (List.mem_append_right _ (List.mem_append_right _ (List.mem_append_right _ (List.mem_append_right _ (List.mem_append_right _ (List.mem_append_right _ (List.mem_append_left _ (List.mem_of_getElem? (l := tables_1_12) (i := 117) (by decide +kernel))))))))))))))) (by decide +kernel)
theorem kw_478 : Cond.methodLink R_Mo 688 y_Mo_closure ∈ wA := kinm (show _ ∈ tables_1 from (List.mem_append_right _ (List.mem_append_right _ (List.mem_append_right _ (List.mem_append_right _ (List.mem_append_right _ (List.mem_append_right _ (List.mem_append_right _ (List.mem_append_right _ (List.mem_append_right _ (List.mem_append_right _ (List.mem_append_right _ (List.mem_append_left _ (List.mem_of_getElem? (l := tables_1_12) (i := 113) (by decide +kernel))))))))))))))) (by decide +kernel)
theorem kw_479 : Cond.instanceMethod y_Mo_create ∈ wA := kinm (show _ ∈ tables_1 from (List.mem_append_right _ (List.mem_append_right _ (List.mem_append_right _ (List.mem_append_right _ (List.mem_append_right _ (List.mem_append_right _ (List.mem_append_right _ (List.mem_append_right _ (List.mem_append_right _ (List.mem_append_right _ (List.mem_append_right _ (List.mem_append_right _ (List.mem_append_left _ (List.mem_of_getElem? (l := tables_1_13) (i := 54) (by decide +kernel)))))))))))))))) (by decide +kernel)
theorem kw_480 : Cond.selects R_Mo y_Mo_create y_Mo_create ∈ wA := kinp 185 (by decide +kernel) (by decide +kernel)
theorem cv_Mo_create : CV y_Mo_create b_Mo_create 5 none 1 := ⟨kw_479, kw_480, kw_17, k_Mo_create, by decide +kernel⟩
theorem ct_Mo_create {l : Launch} {P : PP} {q : PL} {s s' : S1} {l1 : Int32} {r : Unit} (h : M_Mo_create l1 s = some (r, s')) : Ct l y_Mo_create b_Mo_create 5 none 8 179 P q s [.ref (q.1 0 0), .int l1] none q s' := by
  refine ct_of (by decide) (Nat.le_of_ble_eq_true rfl) fun X ls eP el g hR hl => ?_
  subst eP
  have hR : Rt X q ((r, s') : Unit × S1).2 none := hR
  have hl : lv_has ls 5 [(0, .ref (q.1 0 0)), (1, .int l1)] := hl
  generalize (r, s') = o at h hR
  unfold M_Mo_create at h
  refine ww_aload_n (pc := 0) g.1 d_Mo_create_0 rfl (lv_at hl 0 rfl) ?_
  refine ww_iconst (pc := 1) g.1 (v := 0) d_Mo_create_1 (by decide) ?_
  refine ww_bipush (pc := 2) g.1 (v := 6) d_Mo_create_2 (by decide) ?_
  obtain ⟨v4, s, hc4, h⟩ := oB_of h
  refine ww_callV (pc := 4) (rest := []) g cv_Mo_is (Or.inl kw_206) cl_Mo (pz rfl (by decide)) (ct_Mo_is hc4) ⟨by decide, by decide⟩ rfl hl.1 (Nat.le_of_ble_eq_true rfl) d_Mo_create_4 rfl ?_
  refine ww_st (st' := [.int v4]) rfl ?_
  refine ww_if_ne (pc := 7) (tgt := 17) g.1 d_Mo_create_7 (by decide) h (fun c h => ?_) (fun c h => ?_)
  · refine ww_aload_n (pc := 17) g.1 d_Mo_create_17 rfl (lv_at hl 0 rfl) ?_
    obtain ⟨v18, s, hc18, h⟩ := oB_of h
    refine ww_callV (pc := 18) (rest := []) g cv_Mo_thread_ (Or.inl kw_477) cl_Mo (pz rfl (by decide)) (ct_Mo_thread_ hc18) ⟨by decide, by decide⟩ rfl hl.1 (Nat.le_of_ble_eq_true rfl) d_Mo_create_18 rfl ?_
    refine ww_st (st' := [.int v18]) rfl ?_
    refine ww_istore_n (pc := 21) (i := 2) g.1 (lv' := [(2, .int v18), (0, .ref (q.1 0 0)), (1, .int l1)]) d_Mo_create_21 rfl hl (by decide) rfl fun ls hl => ?_
    refine ww_iload_n (pc := 22) g.1 d_Mo_create_22 rfl (lv_at hl 0 rfl) ?_
    refine ww_if_ge (pc := 23) (tgt := 27) g.1 d_Mo_create_23 (by decide) h (fun c h => ?_) (fun c h => ?_)
    · refine ww_aload_n (pc := 27) g.1 d_Mo_create_27 rfl (lv_at hl 1 rfl) ?_
      refine ww_gR (pc := 28) g (k := 71) cl_Mo (pz rfl (by decide)) (by decide) (Or.inl kw_88) (f := 71) (t := 76) rfl rfl rfl d_Mo_create_28 ?_
      refine ww_aload_n (pc := 31) g.1 d_Mo_create_31 rfl (lv_at hl 1 rfl) ?_
      refine ww_gR (pc := 32) g (k := 49) cl_Mo (pz rfl (by decide)) (by decide) (Or.inl kw_87) (f := 49) (t := 62) rfl rfl rfl d_Mo_create_32 ?_
      refine ww_iload_n (pc := 35) g.1 d_Mo_create_35 rfl (lv_at hl 0 rfl) ?_
      refine ww_ai (pc := 36) g (pz rfl (by decide)) rfl rfl d_Mo_create_36 h fun v36 h => ?_
      refine ww_at (pc := 37) g (t := 28) (pz rfl (by decide)) rfl rfl rfl d_Mo_create_37 h fun ca37 h => ?_
      refine ww_gR (pc := 38) g (k := 9) cl_Th (pt rfl rfl ca37) (by decide) (Or.inl kw_220) (f := 3593) (t := 25) rfl rfl rfl d_Mo_create_38 ?_
      refine ww_aload_n (pc := 41) g.1 d_Mo_create_41 rfl (lv_at hl 1 rfl) ?_
      refine ww_gR (pc := 42) g (k := 77) cl_Mo (pz rfl (by decide)) (by decide) (Or.inl kw_182) (f := 77) (t := 7) rfl rfl rfl d_Mo_create_42 ?_
      refine ww_iconst (pc := 45) g.1 (v := 0) d_Mo_create_45 (by decide) ?_
      obtain ⟨v46, s, hc46, h⟩ := oB_of h
      refine ww_callV (pc := 46) (rest := []) g cv_Va_add_ (Or.inl kw_221) (cl_Va (Or.inr ⟨by decide, ca37⟩)) (pt rfl rfl ca37) (ct_Va_add_ (Or.inr ⟨by decide, ca37⟩) (Or.inl ⟨by decide, rfl⟩) hc46) ⟨by decide, by decide⟩ rfl hl.1 (Nat.le_of_ble_eq_true rfl) d_Mo_create_46 rfl ?_
      refine ww_st (st' := []) rfl ?_
      refine ww_iload_n (pc := 49) g.1 d_Mo_create_49 rfl (lv_at hl 2 rfl) ?_
      refine ww_if_ne (pc := 50) (tgt := 62) g.1 d_Mo_create_50 (by decide) h (fun c h => ?_) (fun c h => ?_)
      · refine ww_aload_n (pc := 62) g.1 d_Mo_create_62 rfl (lv_at hl 1 rfl) ?_
        refine ww_gR (pc := 63) g (k := 70) cl_Mo (pz rfl (by decide)) (by decide) (Or.inl kw_441) (f := 70) (t := 16) rfl rfl rfl d_Mo_create_63 ?_
        refine ww_gI (pc := 66) g (k := 2) (cl_Va (Or.inl ⟨by decide, rfl⟩)) (pz rfl (by decide)) (by decide) (Or.inl kw_179) (f := 2050) rfl rfl d_Mo_create_66 h fun v66 h => ?_
        refine ww_istore_n (pc := 69) (i := 3) g.1 (lv' := [(3, .int v66), (2, .int v18), (0, .ref (q.1 0 0)), (1, .int l1)]) d_Mo_create_69 rfl hl (by decide) rfl fun ls hl => ?_
        refine ww_aload_n (pc := 70) g.1 d_Mo_create_70 rfl (lv_at hl 2 rfl) ?_
        refine ww_gR (pc := 71) g (k := 70) cl_Mo (pz rfl (by decide)) (by decide) (Or.inl kw_441) (f := 70) (t := 16) rfl rfl rfl d_Mo_create_71 ?_
        refine ww_bipush (pc := 74) g.1 (v := 7) d_Mo_create_74 (by decide) ?_
        refine ww_iload_n (pc := 76) g.1 d_Mo_create_76 rfl (lv_at hl 1 rfl) ?_
        refine ww_i2l (pc := 77) g.1 (v := v18.toInt64) d_Mo_create_77 rfl ?_
        obtain ⟨v78, s, hc78, h⟩ := oB_of h
        refine ww_callV (pc := 78) (rest := []) g cv_Va_add (Or.inl kw_187) (cl_Va (Or.inl ⟨by decide, rfl⟩)) (pz rfl (by decide)) (ct_Va_add (Or.inl ⟨by decide, rfl⟩) hc78) ⟨by decide, by decide⟩ rfl hl.1 (Nat.le_of_ble_eq_true rfl) d_Mo_create_78 rfl ?_
        refine ww_st (st' := []) rfl ?_
        refine ww_aload_n (pc := 81) g.1 d_Mo_create_81 rfl (lv_at hl 2 rfl) ?_
        refine ww_iconst (pc := 82) g.1 (v := (-1)) d_Mo_create_82 (by decide) ?_
        refine ww_iload_n (pc := 83) g.1 d_Mo_create_83 rfl (lv_at hl 1 rfl) ?_
        refine ww_iconst (pc := 84) g.1 (v := 0) d_Mo_create_84 (by decide) ?_
        obtain ⟨v85, s, hc85, h⟩ := oB_of h
        refine ww_callV (pc := 85) (rest := []) g cv_Mo_closure (Or.inl kw_478) cl_Mo (pz rfl (by decide)) (ct_Mo_closure hc85) ⟨by decide, by decide⟩ rfl hl.1 (Nat.le_of_ble_eq_true rfl) d_Mo_create_85 rfl ?_
        refine ww_st (st' := [.int v85]) rfl ?_
        refine ww_istore (pc := 88) (i := 4) g.1 (lv' := [(4, .int v85), (3, .int v66), (2, .int v18), (0, .ref (q.1 0 0)), (1, .int l1)]) d_Mo_create_88 hl (by decide) rfl fun ls hl => ?_
        refine ww_aload_n (pc := 90) g.1 d_Mo_create_90 rfl (lv_at hl 3 rfl) ?_
        refine ww_gR (pc := 91) g (k := 70) cl_Mo (pz rfl (by decide)) (by decide) (Or.inl kw_441) (f := 70) (t := 16) rfl rfl rfl d_Mo_create_91 ?_
        refine ww_iload_n (pc := 94) g.1 d_Mo_create_94 rfl (lv_at hl 1 rfl) ?_
        refine ww_pI (pc := 95) g (k := 2) (cl_Va (Or.inl ⟨by decide, rfl⟩)) (pz rfl (by decide)) (by decide) (Or.inl kw_179) rfl (f := 2050) rfl rfl rfl rfl d_Mo_create_95 h fun s hs h => ?_
        refine ww_iload (pc := 98) g.1 d_Mo_create_98 (lv_at hl 0 rfl) ?_
        refine ww_if_lt (pc := 100) (tgt := 112) g.1 d_Mo_create_100 (by decide) h (fun c h => ?_) (fun c h => ?_)
        · exact ww_vretH (pc := 112) g h hR d_Mo_create_112
        · refine ww_aload_n (pc := 103) g.1 d_Mo_create_103 rfl (lv_at hl 3 rfl) ?_
          refine ww_bipush (pc := 104) g.1 (v := 6) d_Mo_create_104 (by decide) ?_
          refine ww_iload (pc := 106) g.1 d_Mo_create_106 (lv_at hl 0 rfl) ?_
          refine ww_i2l (pc := 108) g.1 (v := v85.toInt64) d_Mo_create_108 rfl ?_
          obtain ⟨v109, s, hc109, h⟩ := oB_of h
          refine ww_callV (pc := 109) (rest := []) g cv_Mo_give (Or.inl kw_212) cl_Mo (pz rfl (by decide)) (ct_Mo_give hc109) ⟨by decide, by decide⟩ rfl hl.1 (Nat.le_of_ble_eq_true rfl) d_Mo_create_109 rfl ?_
          refine ww_st (st' := []) rfl ?_
          exact ww_vretH (pc := 112) g h hR d_Mo_create_112
      · refine ww_aload_n (pc := 53) g.1 d_Mo_create_53 rfl (lv_at hl 1 rfl) ?_
        refine ww_bipush (pc := 54) g.1 (v := 7) d_Mo_create_54 (by decide) ?_
        refine ww_iload_n (pc := 56) g.1 d_Mo_create_56 rfl (lv_at hl 0 rfl) ?_
        refine ww_i2l (pc := 57) g.1 (v := v18.toInt64) d_Mo_create_57 rfl ?_
        obtain ⟨v58, s, hc58, h⟩ := oB_of h
        refine ww_callV (pc := 58) (rest := []) g cv_Mo_give (Or.inl kw_212) cl_Mo (pz rfl (by decide)) (ct_Mo_give hc58) ⟨by decide, by decide⟩ rfl hl.1 (Nat.le_of_ble_eq_true rfl) d_Mo_create_58 rfl ?_
        refine ww_st (st' := []) rfl ?_
        exact ww_vretH (pc := 61) g h hR d_Mo_create_61
    · exact ww_vretH (pc := 26) g h hR d_Mo_create_26
  · refine ww_aload_n (pc := 10) g.1 d_Mo_create_10 rfl (lv_at hl 0 rfl) ?_
    refine ww_iconst (pc := 11) g.1 (v := 1) d_Mo_create_11 (by decide) ?_
    obtain ⟨v12, s, hc12, h⟩ := oB_of h
    refine ww_callV (pc := 12) (rest := []) g cv_Mo_raise (Or.inl kw_157) cl_Mo (pz rfl (by decide)) (ct_Mo_raise hc12) ⟨by decide, by decide⟩ rfl hl.1 (Nat.le_of_ble_eq_true rfl) d_Mo_create_12 rfl ?_
    refine ww_st (st' := [.int v12]) rfl ?_
    refine ww_pop (pc := 15) g.1 d_Mo_create_15 rfl ?_
    exact ww_vretH (pc := 16) g h hR d_Mo_create_16

abbrev b_Mo_write : ByteArray := prog_14_method_116_code
def y_Mo_write : MethodName := ⟨R_Mo, "write", "(IJIJIJ)V"⟩
abbrev w_Mo_write : List Cond := .code y_Mo_write b_Mo_write 14 none :: wA
theorem k_Mo_write : Cond.code y_Mo_write b_Mo_write 14 none ∈ wA := kinm (show _ ∈ tables_1 from (List.mem_append_right _ (List.mem_append_right _ (List.mem_append_right _ (List.mem_append_right _ (List.mem_append_right _ (List.mem_append_right _ (List.mem_append_right _ (List.mem_append_right _ (List.mem_append_right _ (List.mem_append_right _ (List.mem_append_right _ (List.mem_append_right _ (List.mem_append_left _ (List.mem_of_getElem? (l := tables_1_13) (i := 158) (by decide +kernel)))))))))))))))) (by decide +kernel)
theorem d_Mo_write_0 : decode b_Mo_write 0 = .ok (.iload_n 1, 1) := by decide +kernel
theorem d_Mo_write_1 : decode b_Mo_write 1 = .ok (.istore 10, 2) := by decide +kernel
theorem d_Mo_write_3 : decode b_Mo_write 3 = .ok (.lload_n 2, 1) := by decide +kernel
theorem d_Mo_write_4 : decode b_Mo_write 4 = .ok (.lstore 11, 2) := by decide +kernel
theorem d_Mo_write_6 : decode b_Mo_write 6 = .ok (.iconst 1, 1) := by decide +kernel
theorem d_Mo_write_7 : decode b_Mo_write 7 = .ok (.istore 13, 2) := by decide +kernel
theorem d_Mo_write_9 : decode b_Mo_write 9 = .ok (.iload 10, 2) := by decide +kernel
theorem d_Mo_write_11 : decode b_Mo_write 11 = .ok (.iconst 5, 1) := by decide +kernel
theorem d_Mo_write_12 : decode b_Mo_write 12 = .ok (.if_icmp .eq 10, 3) := by decide +kernel
theorem d_Mo_write_15 : decode b_Mo_write 15 = .ok (.aload_n 0, 1) := by decide +kernel
theorem d_Mo_write_16 : decode b_Mo_write 16 = .ok (.iconst 2, 1) := by decide +kernel
theorem d_Mo_write_17 : decode b_Mo_write 17 = .ok (.invokevirtual 517, 3) := by decide +kernel
theorem d_Mo_write_20 : decode b_Mo_write 20 = .ok (.pop, 1) := by decide +kernel
theorem d_Mo_write_21 : decode b_Mo_write 21 = .ok (.return_, 1) := by decide +kernel
theorem d_Mo_write_22 : decode b_Mo_write 22 = .ok (.aload_n 0, 1) := by decide +kernel
theorem d_Mo_write_23 : decode b_Mo_write 23 = .ok (.lload 11, 2) := by decide +kernel
theorem d_Mo_write_25 : decode b_Mo_write 25 = .ok (.l2i, 1) := by decide +kernel
theorem d_Mo_write_26 : decode b_Mo_write 26 = .ok (.iload 4, 2) := by decide +kernel
theorem d_Mo_write_28 : decode b_Mo_write 28 = .ok (.lload 5, 2) := by decide +kernel
theorem d_Mo_write_30 : decode b_Mo_write 30 = .ok (.invokevirtual 581, 3) := by decide +kernel
theorem d_Mo_write_33 : decode b_Mo_write 33 = .ok (.ifCond .ne 15, 3) := by decide +kernel
theorem d_Mo_write_36 : decode b_Mo_write 36 = .ok (.aload_n 0, 1) := by decide +kernel
theorem d_Mo_write_37 : decode b_Mo_write 37 = .ok (.iload 10, 2) := by decide +kernel
theorem d_Mo_write_39 : decode b_Mo_write 39 = .ok (.lload 11, 2) := by decide +kernel
theorem d_Mo_write_41 : decode b_Mo_write 41 = .ok (.iconst 1, 1) := by decide +kernel
theorem d_Mo_write_42 : decode b_Mo_write 42 = .ok (.invokevirtual 715, 3) := by decide +kernel
theorem d_Mo_write_45 : decode b_Mo_write 45 = .ok (.ifCond .ne 20, 3) := by decide +kernel
theorem d_Mo_write_48 : decode b_Mo_write 48 = .ok (.aload_n 0, 1) := by decide +kernel
theorem d_Mo_write_49 : decode b_Mo_write 49 = .ok (.lload 11, 2) := by decide +kernel
theorem d_Mo_write_51 : decode b_Mo_write 51 = .ok (.l2i, 1) := by decide +kernel
theorem d_Mo_write_52 : decode b_Mo_write 52 = .ok (.iload 4, 2) := by decide +kernel
theorem d_Mo_write_54 : decode b_Mo_write 54 = .ok (.lload 5, 2) := by decide +kernel
theorem d_Mo_write_56 : decode b_Mo_write 56 = .ok (.iload 7, 2) := by decide +kernel
theorem d_Mo_write_58 : decode b_Mo_write 58 = .ok (.lload 8, 2) := by decide +kernel
theorem d_Mo_write_60 : decode b_Mo_write 60 = .ok (.invokevirtual 684, 3) := by decide +kernel
theorem d_Mo_write_63 : decode b_Mo_write 63 = .ok (.pop, 1) := by decide +kernel
theorem d_Mo_write_64 : decode b_Mo_write 64 = .ok (.return_, 1) := by decide +kernel
theorem d_Mo_write_65 : decode b_Mo_write 65 = .ok (.aload_n 0, 1) := by decide +kernel
theorem d_Mo_write_66 : decode b_Mo_write 66 = .ok (.getfield 222, 3) := by decide +kernel
theorem d_Mo_write_69 : decode b_Mo_write 69 = .ok (.bipush 6, 2) := by decide +kernel
theorem d_Mo_write_71 : decode b_Mo_write 71 = .ok (.if_icmp .ne 38, 3) := by decide +kernel
theorem d_Mo_write_74 : decode b_Mo_write 74 = .ok (.aload_n 0, 1) := by decide +kernel
theorem d_Mo_write_75 : decode b_Mo_write 75 = .ok (.iload 10, 2) := by decide +kernel
theorem d_Mo_write_77 : decode b_Mo_write 77 = .ok (.lload 11, 2) := by decide +kernel
theorem d_Mo_write_79 : decode b_Mo_write 79 = .ok (.iload 4, 2) := by decide +kernel
theorem d_Mo_write_81 : decode b_Mo_write 81 = .ok (.lload 5, 2) := by decide +kernel
theorem d_Mo_write_83 : decode b_Mo_write 83 = .ok (.invokevirtual 943, 3) := by decide +kernel
theorem d_Mo_write_86 : decode b_Mo_write 86 = .ok (.aload_n 0, 1) := by decide +kernel
theorem d_Mo_write_87 : decode b_Mo_write 87 = .ok (.getfield 259, 3) := by decide +kernel
theorem d_Mo_write_90 : decode b_Mo_write 90 = .ok (.iload 7, 2) := by decide +kernel
theorem d_Mo_write_92 : decode b_Mo_write 92 = .ok (.lload 8, 2) := by decide +kernel
theorem d_Mo_write_94 : decode b_Mo_write 94 = .ok (.invokevirtual 572, 3) := by decide +kernel
theorem d_Mo_write_97 : decode b_Mo_write 97 = .ok (.aload_n 0, 1) := by decide +kernel
theorem d_Mo_write_98 : decode b_Mo_write 98 = .ok (.iconst 3, 1) := by decide +kernel
theorem d_Mo_write_99 : decode b_Mo_write 99 = .ok (.iconst 0, 1) := by decide +kernel
theorem d_Mo_write_100 : decode b_Mo_write 100 = .ok (.iconst 0, 1) := by decide +kernel
theorem d_Mo_write_101 : decode b_Mo_write 101 = .ok (.invokevirtual 947, 3) := by decide +kernel
theorem d_Mo_write_104 : decode b_Mo_write 104 = .ok (.aload_n 0, 1) := by decide +kernel
theorem d_Mo_write_105 : decode b_Mo_write 105 = .ok (.invokevirtual 950, 3) := by decide +kernel
theorem d_Mo_write_108 : decode b_Mo_write 108 = .ok (.return_, 1) := by decide +kernel
theorem d_Mo_write_109 : decode b_Mo_write 109 = .ok (.iload 13, 2) := by decide +kernel
theorem d_Mo_write_111 : decode b_Mo_write 111 = .ok (.bipush 100, 2) := by decide +kernel
theorem d_Mo_write_113 : decode b_Mo_write 113 = .ok (.if_icmp .ne 10, 3) := by decide +kernel
theorem d_Mo_write_116 : decode b_Mo_write 116 = .ok (.aload_n 0, 1) := by decide +kernel
theorem d_Mo_write_117 : decode b_Mo_write 117 = .ok (.iconst 4, 1) := by decide +kernel
theorem d_Mo_write_118 : decode b_Mo_write 118 = .ok (.invokevirtual 517, 3) := by decide +kernel
theorem d_Mo_write_121 : decode b_Mo_write 121 = .ok (.pop, 1) := by decide +kernel
theorem d_Mo_write_122 : decode b_Mo_write 122 = .ok (.return_, 1) := by decide +kernel
theorem d_Mo_write_123 : decode b_Mo_write 123 = .ok (.aload_n 0, 1) := by decide +kernel
theorem d_Mo_write_124 : decode b_Mo_write 124 = .ok (.getfield 222, 3) := by decide +kernel
theorem d_Mo_write_127 : decode b_Mo_write 127 = .ok (.istore 10, 2) := by decide +kernel
theorem d_Mo_write_129 : decode b_Mo_write 129 = .ok (.aload_n 0, 1) := by decide +kernel
theorem d_Mo_write_130 : decode b_Mo_write 130 = .ok (.getfield 225, 3) := by decide +kernel
theorem d_Mo_write_133 : decode b_Mo_write 133 = .ok (.lstore 11, 2) := by decide +kernel
theorem d_Mo_write_135 : decode b_Mo_write 135 = .ok (.iinc 13 1, 3) := by decide +kernel
theorem d_Mo_write_138 : decode b_Mo_write 138 = .ok (.goto (-129), 3) := by decide +kernel
theorem kw_481 : Cond.instanceMethod y_Mo_write ∈ wA := kinm (show _ ∈ tables_1 from (List.mem_append_right _ (List.mem_append_right _ (List.mem_append_right _ (List.mem_append_right _ (List.mem_append_right _ (List.mem_append_right _ (List.mem_append_right _ (List.mem_append_right _ (List.mem_append_right _ (List.mem_append_right _ (List.mem_append_right _ (List.mem_append_right _ (List.mem_append_left _ (List.mem_of_getElem? (l := tables_1_13) (i := 157) (by decide +kernel)))))))))))))))) (by decide +kernel)
theorem kw_482 : Cond.selects R_Mo y_Mo_write y_Mo_write ∈ wA := kinp 210 (by decide +kernel) (by decide +kernel)
theorem cv_Mo_write : CV y_Mo_write b_Mo_write 14 none 6 := ⟨kw_481, kw_482, kw_17, k_Mo_write, by decide +kernel⟩
theorem lp_Mo_write_L9 {X : Cx} {q : PL} (g : Gd X y_Mo_write b_Mo_write 14 none 8 186 R_Mo) (x : Int32 × Int64 × Int32 × Int64 × Int32 × Int64 × Int32) (s : S1) (o : ((Int32 × Int64 × Int32 × Int64 × Int32 × Int64 × Int32) ⊕ ((Unit) ⊕ (Int32 × Int64 × Int32 × Int64 × Int64) ⊕ (Int32 × Int64 × Int32 × Int64 × Int32 × Int64) ⊕ (Unit))) × S1) (h : M_Mo_write_L9 x s = some o) (hR : (Sum.elim (fun y : Int32 × Int64 × Int32 × Int64 × Int32 × Int64 × Int32 => ∀ ls : Array Slot, lv_has ls 14 [(0, .ref (q.1 0 0)), (4, .int y.1), (5, .long y.2.1), (7, .int y.2.2.1), (8, .long y.2.2.2.1), (10, .int y.2.2.2.2.1), (11, .long y.2.2.2.2.2.1), (13, .int y.2.2.2.2.2.2)] → WW X q o.2 9 ls []) (Sum.elim (fun y : Unit => ∀ ls : Array Slot, lv_has ls 14 [(0, .ref (q.1 0 0))] → WW X q o.2 15 ls []) (Sum.elim (fun y : Int32 × Int64 × Int32 × Int64 × Int64 => ∀ ls : Array Slot, lv_has ls 14 [(0, .ref (q.1 0 0)), (4, .int y.1), (5, .long y.2.1), (7, .int y.2.2.1), (8, .long y.2.2.2.1), (11, .long y.2.2.2.2)] → WW X q o.2 48 ls []) (Sum.elim (fun y : Int32 × Int64 × Int32 × Int64 × Int32 × Int64 => ∀ ls : Array Slot, lv_has ls 14 [(0, .ref (q.1 0 0)), (4, .int y.1), (5, .long y.2.1), (7, .int y.2.2.1), (8, .long y.2.2.2.1), (10, .int y.2.2.2.2.1), (11, .long y.2.2.2.2.2)] → WW X q o.2 74 ls []) (fun y : Unit => ∀ ls : Array Slot, lv_has ls 14 [(0, .ref (q.1 0 0))] → WW X q o.2 116 ls [])))) o.1)) : ∀ ls : Array Slot, lv_has ls 14 [(0, .ref (q.1 0 0)), (4, .int x.1), (5, .long x.2.1), (7, .int x.2.2.1), (8, .long x.2.2.2.1), (10, .int x.2.2.2.2.1), (11, .long x.2.2.2.2.2.1), (13, .int x.2.2.2.2.2.2)] → WW X q s 9 ls [] := by
  intro ls hl
  unfold M_Mo_write_L9 at h
  refine ww_iload (pc := 9) g.1 d_Mo_write_9 (lv_at hl 5 rfl) ?_
  refine ww_iconst (pc := 11) g.1 (v := 5) d_Mo_write_11 (by decide) ?_
  refine ww_icmp_eq (pc := 12) (tgt := 22) g.1 d_Mo_write_12 (by decide) h (fun c h => ?_) (fun c h => ?_)
  · refine ww_aload_n (pc := 22) g.1 d_Mo_write_22 rfl (lv_at hl 0 rfl) ?_
    refine ww_lload (pc := 23) g.1 d_Mo_write_23 (lv_at hl 6 rfl) ?_
    refine ww_l2i (pc := 25) g.1 (v := x.2.2.2.2.2.1.toInt32) d_Mo_write_25 rfl ?_
    refine ww_iload (pc := 26) g.1 d_Mo_write_26 (lv_at hl 1 rfl) ?_
    refine ww_lload (pc := 28) g.1 d_Mo_write_28 (lv_at hl 2 rfl) ?_
    obtain ⟨v30, s, hc30, h⟩ := oB_of h
    refine ww_callV (pc := 30) (rest := []) g cv_Mo_raw (Or.inl kw_356) cl_Mo (pz rfl (by decide)) (ct_Mo_raw hc30) ⟨by decide, by decide⟩ rfl hl.1 (Nat.le_of_ble_eq_true rfl) d_Mo_write_30 rfl ?_
    refine ww_st (st' := [.int v30]) rfl ?_
    refine ww_if_ne (pc := 33) (tgt := 48) g.1 d_Mo_write_33 (by decide) h (fun c h => ?_) (fun c h => ?_)
    · rw [oR_eq h] at hR
      exact hR ls (lv_sub hl [0, 1, 2, 3, 4, 6] rfl)
    · refine ww_aload_n (pc := 36) g.1 d_Mo_write_36 rfl (lv_at hl 0 rfl) ?_
      refine ww_iload (pc := 37) g.1 d_Mo_write_37 (lv_at hl 5 rfl) ?_
      refine ww_lload (pc := 39) g.1 d_Mo_write_39 (lv_at hl 6 rfl) ?_
      refine ww_iconst (pc := 41) g.1 (v := 1) d_Mo_write_41 (by decide) ?_
      obtain ⟨v42, s, hc42, h⟩ := oB_of h
      refine ww_callV (pc := 42) (rest := []) g cv_Mo_meta (Or.inl kw_409) cl_Mo (pz rfl (by decide)) (ct_Mo_meta hc42) ⟨by decide, by decide⟩ rfl hl.1 (Nat.le_of_ble_eq_true rfl) d_Mo_write_42 rfl ?_
      refine ww_st (st' := [.int v42]) rfl ?_
      refine ww_if_ne (pc := 45) (tgt := 65) g.1 d_Mo_write_45 (by decide) h (fun c h => ?_) (fun c h => ?_)
      · refine ww_aload_n (pc := 65) g.1 d_Mo_write_65 rfl (lv_at hl 0 rfl) ?_
        refine ww_gI (pc := 66) g (k := 66) cl_Mo (pz rfl (by decide)) (by decide) (Or.inl kw_92) (f := 66) rfl rfl d_Mo_write_66 h fun v66 h => ?_
        refine ww_bipush (pc := 69) g.1 (v := 6) d_Mo_write_69 (by decide) ?_
        refine ww_icmp_ne (pc := 71) (tgt := 109) g.1 d_Mo_write_71 (by decide) h (fun c h => ?_) (fun c h => ?_)
        · refine ww_iload (pc := 109) g.1 d_Mo_write_109 (lv_at hl 7 rfl) ?_
          refine ww_bipush (pc := 111) g.1 (v := 100) d_Mo_write_111 (by decide) ?_
          refine ww_icmp_ne (pc := 113) (tgt := 123) g.1 d_Mo_write_113 (by decide) h (fun c h => ?_) (fun c h => ?_)
          · refine ww_aload_n (pc := 123) g.1 d_Mo_write_123 rfl (lv_at hl 0 rfl) ?_
            refine ww_gI (pc := 124) g (k := 66) cl_Mo (pz rfl (by decide)) (by decide) (Or.inl kw_92) (f := 66) rfl rfl d_Mo_write_124 h fun v124 h => ?_
            refine ww_istore (pc := 127) (i := 10) g.1 (lv' := [(10, .int v124), (0, .ref (q.1 0 0)), (4, .int x.1), (5, .long x.2.1), (7, .int x.2.2.1), (8, .long x.2.2.2.1), (11, .long x.2.2.2.2.2.1), (13, .int x.2.2.2.2.2.2)]) d_Mo_write_127 hl (by decide) rfl fun ls hl => ?_
            refine ww_aload_n (pc := 129) g.1 d_Mo_write_129 rfl (lv_at hl 1 rfl) ?_
            refine ww_gL (pc := 130) g (k := 67) cl_Mo (pz rfl (by decide)) (by decide) (Or.inl kw_94) (f := 67) rfl rfl d_Mo_write_130 h fun v130 h => ?_
            refine ww_lstore (pc := 133) (i := 11) g.1 (lv' := [(11, .long v130), (10, .int v124), (0, .ref (q.1 0 0)), (4, .int x.1), (5, .long x.2.1), (7, .int x.2.2.1), (8, .long x.2.2.2.1), (13, .int x.2.2.2.2.2.2)]) d_Mo_write_133 hl (by decide) rfl fun ls hl => ?_
            refine ww_iinc (pc := 135) g.1 (v := x.2.2.2.2.2.2 + 1) (lv' := [(13, .int (x.2.2.2.2.2.2 + 1)), (11, .long v130), (10, .int v124), (0, .ref (q.1 0 0)), (4, .int x.1), (5, .long x.2.1), (7, .int x.2.2.1), (8, .long x.2.2.2.1)]) d_Mo_write_135 hl (k := 7) rfl (by rfl) (by decide) rfl fun ls hl => ?_
            refine ww_goto (pc := 138) (tgt := 9) g.1 d_Mo_write_138 (by decide) ?_
            rw [oR_eq h] at hR
            exact hR ls (lv_sub hl [3, 4, 5, 6, 7, 2, 1, 0] rfl)
          · rw [oR_eq h] at hR
            exact hR ls (lv_sub hl [0] rfl)
        · rw [oR_eq h] at hR
          exact hR ls (lv_sub hl [0, 1, 2, 3, 4, 5, 6] rfl)
      · rw [oR_eq h] at hR
        exact hR ls (lv_sub hl [0, 1, 2, 3, 4, 6] rfl)
  · rw [oR_eq h] at hR
    exact hR ls (lv_sub hl [0] rfl)

theorem j_Mo_write_j48 {X : Cx} {q : PL} (g : Gd X y_Mo_write b_Mo_write 14 none 8 186 R_Mo) {o : (Unit) × S1} (hR : Rt X q o.2 none) (l4 : Int32) (l5 : Int64) (l7 : Int32) (l8 : Int64) (l11 : Int64) (s : S1) (ls : Array Slot) (hl : lv_has ls 14 [(0, .ref (q.1 0 0)), (4, .int l4), (5, .long l5), (7, .int l7), (8, .long l8), (11, .long l11)]) (h : M_Mo_write_j48 l4 l5 l7 l8 l11 s = some o) : WW X q s 48 ls [] := by
  unfold M_Mo_write_j48 at h
  refine ww_aload_n (pc := 48) g.1 d_Mo_write_48 rfl (lv_at hl 0 rfl) ?_
  refine ww_lload (pc := 49) g.1 d_Mo_write_49 (lv_at hl 5 rfl) ?_
  refine ww_l2i (pc := 51) g.1 (v := l11.toInt32) d_Mo_write_51 rfl ?_
  refine ww_iload (pc := 52) g.1 d_Mo_write_52 (lv_at hl 1 rfl) ?_
  refine ww_lload (pc := 54) g.1 d_Mo_write_54 (lv_at hl 2 rfl) ?_
  refine ww_iload (pc := 56) g.1 d_Mo_write_56 (lv_at hl 3 rfl) ?_
  refine ww_lload (pc := 58) g.1 d_Mo_write_58 (lv_at hl 4 rfl) ?_
  obtain ⟨v60, s, hc60, h⟩ := oB_of h
  refine ww_callV (pc := 60) (rest := []) g cv_Mo_put (Or.inl kw_474) cl_Mo (pz rfl (by decide)) (ct_Mo_put hc60) ⟨by decide, by decide⟩ rfl hl.1 (Nat.le_of_ble_eq_true rfl) d_Mo_write_60 rfl ?_
  refine ww_st (st' := [.int v60]) rfl ?_
  refine ww_pop (pc := 63) g.1 d_Mo_write_63 rfl ?_
  exact ww_vretH (pc := 64) g h hR d_Mo_write_64

theorem ct_Mo_write {l : Launch} {P : PP} {q : PL} {s s' : S1} {l1 : Int32} {l2 : Int64} {l4 : Int32} {l5 : Int64} {l7 : Int32} {l8 : Int64} {r : Unit} (h : M_Mo_write l1 l2 l4 l5 l7 l8 s = some (r, s')) : Ct l y_Mo_write b_Mo_write 14 none 8 186 P q s [.ref (q.1 0 0), .int l1, .long l2, .int l4, .long l5, .int l7, .long l8] none q s' := by
  refine ct_of (by decide) (Nat.le_of_ble_eq_true rfl) fun X ls eP el g hR hl => ?_
  subst eP
  have hR : Rt X q ((r, s') : Unit × S1).2 none := hR
  have hl : lv_has ls 14 [(0, .ref (q.1 0 0)), (1, .int l1), (2, .long l2), (4, .int l4), (5, .long l5), (7, .int l7), (8, .long l8)] := hl
  generalize (r, s') = o at h hR
  unfold M_Mo_write at h
  refine ww_iload_n (pc := 0) g.1 d_Mo_write_0 rfl (lv_at hl 1 rfl) ?_
  refine ww_istore (pc := 1) (i := 10) g.1 (lv' := [(10, .int l1), (0, .ref (q.1 0 0)), (1, .int l1), (2, .long l2), (4, .int l4), (5, .long l5), (7, .int l7), (8, .long l8)]) d_Mo_write_1 hl (by decide) rfl fun ls hl => ?_
  refine ww_lload_n (pc := 3) g.1 d_Mo_write_3 rfl (lv_at hl 3 rfl) ?_
  refine ww_lstore (pc := 4) (i := 11) g.1 (lv' := [(11, .long l2), (10, .int l1), (0, .ref (q.1 0 0)), (1, .int l1), (2, .long l2), (4, .int l4), (5, .long l5), (7, .int l7), (8, .long l8)]) d_Mo_write_4 hl (by decide) rfl fun ls hl => ?_
  refine ww_iconst (pc := 6) g.1 (v := 1) d_Mo_write_6 (by decide) ?_
  refine ww_istore (pc := 7) (i := 13) g.1 (lv' := [(13, .int 1), (11, .long l2), (10, .int l1), (0, .ref (q.1 0 0)), (1, .int l1), (2, .long l2), (4, .int l4), (5, .long l5), (7, .int l7), (8, .long l8)]) d_Mo_write_7 hl (by decide) rfl fun ls hl => ?_
  obtain ⟨e9, s1, hw, h⟩ := oB_of h
  refine oW_rule (Wh := fun (x : Int32 × Int64 × Int32 × Int64 × Int32 × Int64 × Int32) (s : S1) => ∀ ls : Array Slot, lv_has ls 14 [(0, .ref (q.1 0 0)), (4, .int x.1), (5, .long x.2.1), (7, .int x.2.2.1), (8, .long x.2.2.2.1), (10, .int x.2.2.2.2.1), (11, .long x.2.2.2.2.2.1), (13, .int x.2.2.2.2.2.2)] → WW X q s 9 ls []) (We := fun (e : (Unit) ⊕ (Int32 × Int64 × Int32 × Int64 × Int64) ⊕ (Int32 × Int64 × Int32 × Int64 × Int32 × Int64) ⊕ (Unit)) (s : S1) => (Sum.elim (fun y : Unit => ∀ ls : Array Slot, lv_has ls 14 [(0, .ref (q.1 0 0))] → WW X q s 15 ls []) (Sum.elim (fun y : Int32 × Int64 × Int32 × Int64 × Int64 => ∀ ls : Array Slot, lv_has ls 14 [(0, .ref (q.1 0 0)), (4, .int y.1), (5, .long y.2.1), (7, .int y.2.2.1), (8, .long y.2.2.2.1), (11, .long y.2.2.2.2)] → WW X q s 48 ls []) (Sum.elim (fun y : Int32 × Int64 × Int32 × Int64 × Int32 × Int64 => ∀ ls : Array Slot, lv_has ls 14 [(0, .ref (q.1 0 0)), (4, .int y.1), (5, .long y.2.1), (7, .int y.2.2.1), (8, .long y.2.2.2.1), (10, .int y.2.2.2.2.1), (11, .long y.2.2.2.2.2)] → WW X q s 74 ls []) (fun y : Unit => ∀ ls : Array Slot, lv_has ls 14 [(0, .ref (q.1 0 0))] → WW X q s 116 ls [])))) e) (fun x s o hb hc => lp_Mo_write_L9 (q := q) g x s o hb hc) hw ?_ ls (lv_sub hl [3, 6, 7, 8, 9, 2, 1, 0] rfl)
  clear hw hl
  clear ls
  generalize s1 = s at h ⊢
  rcases e9 with y9_15 | y9_48 | y9_74 | y9_116
  · intro ls hl
    dsimp only [Sum.elim_inl, Sum.elim_inr] at h
    refine ww_aload_n (pc := 15) g.1 d_Mo_write_15 rfl (lv_at hl 0 rfl) ?_
    refine ww_iconst (pc := 16) g.1 (v := 2) d_Mo_write_16 (by decide) ?_
    obtain ⟨v17, s, hc17, h⟩ := oB_of h
    refine ww_callV (pc := 17) (rest := []) g cv_Mo_raise (Or.inl kw_157) cl_Mo (pz rfl (by decide)) (ct_Mo_raise hc17) ⟨by decide, by decide⟩ rfl hl.1 (Nat.le_of_ble_eq_true rfl) d_Mo_write_17 rfl ?_
    refine ww_st (st' := [.int v17]) rfl ?_
    refine ww_pop (pc := 20) g.1 d_Mo_write_20 rfl ?_
    exact ww_vretH (pc := 21) g h hR d_Mo_write_21
  · intro ls hl
    dsimp only [Sum.elim_inl, Sum.elim_inr] at h
    exact j_Mo_write_j48 g hR y9_48.1 y9_48.2.1 y9_48.2.2.1 y9_48.2.2.2.1 y9_48.2.2.2.2 s ls (lv_sub hl [0, 1, 2, 3, 4, 5] rfl) h
  · intro ls hl
    dsimp only [Sum.elim_inl, Sum.elim_inr] at h
    refine ww_aload_n (pc := 74) g.1 d_Mo_write_74 rfl (lv_at hl 0 rfl) ?_
    refine ww_iload (pc := 75) g.1 d_Mo_write_75 (lv_at hl 5 rfl) ?_
    refine ww_lload (pc := 77) g.1 d_Mo_write_77 (lv_at hl 6 rfl) ?_
    refine ww_iload (pc := 79) g.1 d_Mo_write_79 (lv_at hl 1 rfl) ?_
    refine ww_lload (pc := 81) g.1 d_Mo_write_81 (lv_at hl 2 rfl) ?_
    obtain ⟨v83, s, hc83, h⟩ := oB_of h
    refine ww_callV (pc := 83) (rest := []) g cv_Mo_arguments (Or.inl kw_410) cl_Mo (pz rfl (by decide)) (ct_Mo_arguments hc83) ⟨by decide, by decide⟩ rfl hl.1 (Nat.le_of_ble_eq_true rfl) d_Mo_write_83 rfl ?_
    refine ww_st (st' := []) rfl ?_
    refine ww_aload_n (pc := 86) g.1 d_Mo_write_86 rfl (lv_at hl 0 rfl) ?_
    refine ww_gR (pc := 87) g (k := 77) cl_Mo (pz rfl (by decide)) (by decide) (Or.inl kw_182) (f := 77) (t := 7) rfl rfl rfl d_Mo_write_87 ?_
    refine ww_iload (pc := 90) g.1 d_Mo_write_90 (lv_at hl 3 rfl) ?_
    refine ww_lload (pc := 92) g.1 d_Mo_write_92 (lv_at hl 4 rfl) ?_
    obtain ⟨v94, s, hc94, h⟩ := oB_of h
    refine ww_callV (pc := 94) (rest := []) g cv_Va_add (Or.inl kw_187) (cl_Va (Or.inl ⟨by decide, rfl⟩)) (pz rfl (by decide)) (ct_Va_add (Or.inl ⟨by decide, rfl⟩) hc94) ⟨by decide, by decide⟩ rfl hl.1 (Nat.le_of_ble_eq_true rfl) d_Mo_write_94 rfl ?_
    refine ww_st (st' := []) rfl ?_
    refine ww_aload_n (pc := 97) g.1 d_Mo_write_97 rfl (lv_at hl 0 rfl) ?_
    refine ww_iconst (pc := 98) g.1 (v := 3) d_Mo_write_98 (by decide) ?_
    refine ww_iconst (pc := 99) g.1 (v := 0) d_Mo_write_99 (by decide) ?_
    refine ww_iconst (pc := 100) g.1 (v := 0) d_Mo_write_100 (by decide) ?_
    obtain ⟨v101, s, hc101, h⟩ := oB_of h
    refine ww_callV (pc := 101) (rest := []) g cv_Mo_expect (Or.inl kw_415) cl_Mo (pz rfl (by decide)) (ct_Mo_expect hc101) ⟨by decide, by decide⟩ rfl hl.1 (Nat.le_of_ble_eq_true rfl) d_Mo_write_101 rfl ?_
    refine ww_st (st' := []) rfl ?_
    refine ww_aload_n (pc := 104) g.1 d_Mo_write_104 rfl (lv_at hl 0 rfl) ?_
    obtain ⟨v105, s, hc105, h⟩ := oB_of h
    refine ww_callV (pc := 105) (rest := []) g cv_Mo_callGot (Or.inl kw_416) cl_Mo (pz rfl (by decide)) (ct_Mo_callGot hc105) ⟨by decide, by decide⟩ rfl hl.1 (Nat.le_of_ble_eq_true rfl) d_Mo_write_105 rfl ?_
    refine ww_st (st' := []) rfl ?_
    exact ww_vretH (pc := 108) g h hR d_Mo_write_108
  · intro ls hl
    dsimp only [Sum.elim_inl, Sum.elim_inr] at h
    refine ww_aload_n (pc := 116) g.1 d_Mo_write_116 rfl (lv_at hl 0 rfl) ?_
    refine ww_iconst (pc := 117) g.1 (v := 4) d_Mo_write_117 (by decide) ?_
    obtain ⟨v118, s, hc118, h⟩ := oB_of h
    refine ww_callV (pc := 118) (rest := []) g cv_Mo_raise (Or.inl kw_157) cl_Mo (pz rfl (by decide)) (ct_Mo_raise hc118) ⟨by decide, by decide⟩ rfl hl.1 (Nat.le_of_ble_eq_true rfl) d_Mo_write_118 rfl ?_
    refine ww_st (st' := [.int v118]) rfl ?_
    refine ww_pop (pc := 121) g.1 d_Mo_write_121 rfl ?_
    exact ww_vretH (pc := 122) g h hR d_Mo_write_122


