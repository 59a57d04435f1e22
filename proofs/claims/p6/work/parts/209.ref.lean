abbrev b_Mo_setMeta : ByteArray := prog_14_method_88_code
def y_Mo_setMeta : MethodName := ⟨R_Mo, "setMeta", "()V"⟩
abbrev w_Mo_setMeta : List Cond := .code y_Mo_setMeta b_Mo_setMeta 2 none :: wA
theorem k_Mo_setMeta : Cond.code y_Mo_setMeta b_Mo_setMeta 2 none ∈ wA := kinm (show _ ∈ tables_1 from (List.mem_append_right _ (List.mem_append_right _ (List.mem_append_right _ (List.mem_append_right _ (List.mem_append_right _ (List.mem_append_right _ (List.mem_append_right _ (List.mem_append_right _ (List.mem_append_right _ (List.mem_append_right _ (List.mem_append_right _ (List.mem_append_left _ (List.mem_of_getElem? (l := tables_1_12) (i := 236) (by decide +kernel))))))))))))))) (by decide +kernel)
theorem d_Mo_setMeta_0 : decode b_Mo_setMeta 0 = .ok (.aload_n 0, 1) := by decide +kernel
theorem d_Mo_setMeta_1 : decode b_Mo_setMeta 1 = .ok (.iconst 0, 1) := by decide +kernel
theorem d_Mo_setMeta_2 : decode b_Mo_setMeta 2 = .ok (.iconst 5, 1) := by decide +kernel
theorem d_Mo_setMeta_3 : decode b_Mo_setMeta 3 = .ok (.invokevirtual 833, 3) := by decide +kernel
theorem d_Mo_setMeta_6 : decode b_Mo_setMeta 6 = .ok (.ifCond .eq 21, 3) := by decide +kernel
theorem d_Mo_setMeta_9 : decode b_Mo_setMeta 9 = .ok (.aload_n 0, 1) := by decide +kernel
theorem d_Mo_setMeta_10 : decode b_Mo_setMeta 10 = .ok (.iconst 1, 1) := by decide +kernel
theorem d_Mo_setMeta_11 : decode b_Mo_setMeta 11 = .ok (.iconst 5, 1) := by decide +kernel
theorem d_Mo_setMeta_12 : decode b_Mo_setMeta 12 = .ok (.invokevirtual 833, 3) := by decide +kernel
theorem d_Mo_setMeta_15 : decode b_Mo_setMeta 15 = .ok (.ifCond .ne 19, 3) := by decide +kernel
theorem d_Mo_setMeta_18 : decode b_Mo_setMeta 18 = .ok (.aload_n 0, 1) := by decide +kernel
theorem d_Mo_setMeta_19 : decode b_Mo_setMeta 19 = .ok (.iconst 1, 1) := by decide +kernel
theorem d_Mo_setMeta_20 : decode b_Mo_setMeta 20 = .ok (.iconst 0, 1) := by decide +kernel
theorem d_Mo_setMeta_21 : decode b_Mo_setMeta 21 = .ok (.invokevirtual 833, 3) := by decide +kernel
theorem d_Mo_setMeta_24 : decode b_Mo_setMeta 24 = .ok (.ifCond .ne 10, 3) := by decide +kernel
theorem d_Mo_setMeta_27 : decode b_Mo_setMeta 27 = .ok (.aload_n 0, 1) := by decide +kernel
theorem d_Mo_setMeta_28 : decode b_Mo_setMeta 28 = .ok (.iconst 2, 1) := by decide +kernel
theorem d_Mo_setMeta_29 : decode b_Mo_setMeta 29 = .ok (.invokevirtual 517, 3) := by decide +kernel
theorem d_Mo_setMeta_32 : decode b_Mo_setMeta 32 = .ok (.pop, 1) := by decide +kernel
theorem d_Mo_setMeta_33 : decode b_Mo_setMeta 33 = .ok (.return_, 1) := by decide +kernel
theorem d_Mo_setMeta_34 : decode b_Mo_setMeta 34 = .ok (.aload_n 0, 1) := by decide +kernel
theorem d_Mo_setMeta_35 : decode b_Mo_setMeta 35 = .ok (.iconst 0, 1) := by decide +kernel
theorem d_Mo_setMeta_36 : decode b_Mo_setMeta 36 = .ok (.invokevirtual 807, 3) := by decide +kernel
theorem d_Mo_setMeta_39 : decode b_Mo_setMeta 39 = .ok (.l2i, 1) := by decide +kernel
theorem d_Mo_setMeta_40 : decode b_Mo_setMeta 40 = .ok (.istore_n 1, 1) := by decide +kernel
theorem d_Mo_setMeta_41 : decode b_Mo_setMeta 41 = .ok (.aload_n 0, 1) := by decide +kernel
theorem d_Mo_setMeta_42 : decode b_Mo_setMeta 42 = .ok (.getfield 177, 3) := by decide +kernel
theorem d_Mo_setMeta_45 : decode b_Mo_setMeta 45 = .ok (.iload_n 1, 1) := by decide +kernel
theorem d_Mo_setMeta_46 : decode b_Mo_setMeta 46 = .ok (.iaload, 1) := by decide +kernel
theorem d_Mo_setMeta_47 : decode b_Mo_setMeta 47 = .ok (.ifCond .lt 33, 3) := by decide +kernel
theorem d_Mo_setMeta_50 : decode b_Mo_setMeta 50 = .ok (.aload_n 0, 1) := by decide +kernel
theorem d_Mo_setMeta_51 : decode b_Mo_setMeta 51 = .ok (.aload_n 0, 1) := by decide +kernel
theorem d_Mo_setMeta_52 : decode b_Mo_setMeta 52 = .ok (.getfield 177, 3) := by decide +kernel
theorem d_Mo_setMeta_55 : decode b_Mo_setMeta 55 = .ok (.iload_n 1, 1) := by decide +kernel
theorem d_Mo_setMeta_56 : decode b_Mo_setMeta 56 = .ok (.iaload, 1) := by decide +kernel
theorem d_Mo_setMeta_57 : decode b_Mo_setMeta 57 = .ok (.iconst 4, 1) := by decide +kernel
theorem d_Mo_setMeta_58 : decode b_Mo_setMeta 58 = .ok (.aload_n 0, 1) := by decide +kernel
theorem d_Mo_setMeta_59 : decode b_Mo_setMeta 59 = .ok (.getfield 403, 3) := by decide +kernel
theorem d_Mo_setMeta_62 : decode b_Mo_setMeta 62 = .ok (.bipush 21, 2) := by decide +kernel
theorem d_Mo_setMeta_64 : decode b_Mo_setMeta 64 = .ok (.iaload, 1) := by decide +kernel
theorem d_Mo_setMeta_65 : decode b_Mo_setMeta 65 = .ok (.i2l, 1) := by decide +kernel
theorem d_Mo_setMeta_66 : decode b_Mo_setMeta 66 = .ok (.invokevirtual 581, 3) := by decide +kernel
theorem d_Mo_setMeta_69 : decode b_Mo_setMeta 69 = .ok (.ifCond .eq 11, 3) := by decide +kernel
theorem d_Mo_setMeta_72 : decode b_Mo_setMeta 72 = .ok (.aload_n 0, 1) := by decide +kernel
theorem d_Mo_setMeta_73 : decode b_Mo_setMeta 73 = .ok (.bipush 8, 2) := by decide +kernel
theorem d_Mo_setMeta_75 : decode b_Mo_setMeta 75 = .ok (.invokevirtual 517, 3) := by decide +kernel
theorem d_Mo_setMeta_78 : decode b_Mo_setMeta 78 = .ok (.pop, 1) := by decide +kernel
theorem d_Mo_setMeta_79 : decode b_Mo_setMeta 79 = .ok (.return_, 1) := by decide +kernel
theorem d_Mo_setMeta_80 : decode b_Mo_setMeta 80 = .ok (.aload_n 0, 1) := by decide +kernel
theorem d_Mo_setMeta_81 : decode b_Mo_setMeta 81 = .ok (.getfield 177, 3) := by decide +kernel
theorem d_Mo_setMeta_84 : decode b_Mo_setMeta 84 = .ok (.iload_n 1, 1) := by decide +kernel
theorem d_Mo_setMeta_85 : decode b_Mo_setMeta 85 = .ok (.aload_n 0, 1) := by decide +kernel
theorem d_Mo_setMeta_86 : decode b_Mo_setMeta 86 = .ok (.iconst 1, 1) := by decide +kernel
theorem d_Mo_setMeta_87 : decode b_Mo_setMeta 87 = .ok (.iconst 5, 1) := by decide +kernel
theorem d_Mo_setMeta_88 : decode b_Mo_setMeta 88 = .ok (.invokevirtual 833, 3) := by decide +kernel
theorem d_Mo_setMeta_91 : decode b_Mo_setMeta 91 = .ok (.ifCond .eq 12, 3) := by decide +kernel
theorem d_Mo_setMeta_94 : decode b_Mo_setMeta 94 = .ok (.aload_n 0, 1) := by decide +kernel
theorem d_Mo_setMeta_95 : decode b_Mo_setMeta 95 = .ok (.iconst 1, 1) := by decide +kernel
theorem d_Mo_setMeta_96 : decode b_Mo_setMeta 96 = .ok (.invokevirtual 807, 3) := by decide +kernel
theorem d_Mo_setMeta_99 : decode b_Mo_setMeta 99 = .ok (.l2i, 1) := by decide +kernel
theorem d_Mo_setMeta_100 : decode b_Mo_setMeta 100 = .ok (.goto 4, 3) := by decide +kernel
theorem d_Mo_setMeta_103 : decode b_Mo_setMeta 103 = .ok (.iconst (-1), 1) := by decide +kernel
theorem d_Mo_setMeta_104 : decode b_Mo_setMeta 104 = .ok (.iastore, 1) := by decide +kernel
theorem d_Mo_setMeta_105 : decode b_Mo_setMeta 105 = .ok (.aload_n 0, 1) := by decide +kernel
theorem d_Mo_setMeta_106 : decode b_Mo_setMeta 106 = .ok (.iconst 5, 1) := by decide +kernel
theorem d_Mo_setMeta_107 : decode b_Mo_setMeta 107 = .ok (.iload_n 1, 1) := by decide +kernel
theorem d_Mo_setMeta_108 : decode b_Mo_setMeta 108 = .ok (.i2l, 1) := by decide +kernel
theorem d_Mo_setMeta_109 : decode b_Mo_setMeta 109 = .ok (.invokevirtual 804, 3) := by decide +kernel
theorem d_Mo_setMeta_112 : decode b_Mo_setMeta 112 = .ok (.return_, 1) := by decide +kernel
abbrev b_Mo_is : ByteArray := prog_14_method_84_code
def y_Mo_is : MethodName := ⟨R_Mo, "is", "(II)Z"⟩
abbrev w_Mo_is : List Cond := .code y_Mo_is b_Mo_is 3 (some .boolean) :: wA
theorem k_Mo_is : Cond.code y_Mo_is b_Mo_is 3 (some .boolean) ∈ wA := kinm (show _ ∈ tables_1 from (List.mem_append_right _ (List.mem_append_right _ (List.mem_append_right _ (List.mem_append_right _ (List.mem_append_right _ (List.mem_append_right _ (List.mem_append_right _ (List.mem_append_right _ (List.mem_append_right _ (List.mem_append_right _ (List.mem_append_right _ (List.mem_append_right _ (List.mem_append_left _ (List.mem_of_getElem? (l := tables_1_13) (i := 0) (by decide +kernel)))))))))))))))) (by decide +kernel)
theorem d_Mo_is_0 : decode b_Mo_is 0 = .ok (.aload_n 0, 1) := by decide +kernel
theorem d_Mo_is_1 : decode b_Mo_is 1 = .ok (.iload_n 1, 1) := by decide +kernel
theorem d_Mo_is_2 : decode b_Mo_is 2 = .ok (.invokevirtual 797, 3) := by decide +kernel
theorem d_Mo_is_5 : decode b_Mo_is 5 = .ok (.iload_n 2, 1) := by decide +kernel
theorem d_Mo_is_6 : decode b_Mo_is 6 = .ok (.if_icmp .ne 7, 3) := by decide +kernel
theorem d_Mo_is_9 : decode b_Mo_is 9 = .ok (.iconst 1, 1) := by decide +kernel
theorem d_Mo_is_10 : decode b_Mo_is 10 = .ok (.goto 4, 3) := by decide +kernel
theorem d_Mo_is_13 : decode b_Mo_is 13 = .ok (.iconst 0, 1) := by decide +kernel
theorem d_Mo_is_14 : decode b_Mo_is 14 = .ok (.ireturn, 1) := by decide +kernel
theorem kw_204 : Cond.instanceMethod y_Mo_is ∈ wA := kinm (show _ ∈ tables_1 from (List.mem_append_right _ (List.mem_append_right _ (List.mem_append_right _ (List.mem_append_right _ (List.mem_append_right _ (List.mem_append_right _ (List.mem_append_right _ (List.mem_append_right _ (List.mem_append_right _ (List.mem_append_right _ (List.mem_append_right _ (List.mem_append_left _ (List.mem_of_getElem? (l := tables_1_12) (i := 239) (by decide +kernel))))))))))))))) (by decide +kernel)
theorem kw_205 : Cond.selects R_Mo y_Mo_is y_Mo_is ∈ wA := kinp 174 (by decide +kernel) (by decide +kernel)
def M_Mo_is (l1 : Int32) (l2 : Int32) : M (Int32) :=
  oB (M_Mo_ak l1) fun v2 =>
  oC (v2 = l2)
    (oR 1)
    (oR 0)

theorem cv_Mo_is : CV y_Mo_is b_Mo_is 3 (some .boolean) 2 := ⟨kw_204, kw_205, kw_17, k_Mo_is, by decide +kernel⟩
theorem ct_Mo_is {l : Launch} {P : PP} {q : PL} {s s' : S1} {l1 : Int32} {l2 : Int32} {r : Int32} (h : M_Mo_is l1 l2 s = some (r, s')) : Ct l y_Mo_is b_Mo_is 3 (some .boolean) 1 21 P q s [.ref (q.1 0 0), .int l1, .int l2] (some (.int r)) q s' := by
  refine ct_of (by decide) (Nat.le_of_ble_eq_true rfl) fun X ls eP el g hR hl => ?_
  have hR : Rt X q ((r, s') : Int32 × S1).2 (some (.int ((r, s') : Int32 × S1).1)) := hR
  have hl : lv_has ls 3 [(0, .ref (q.1 0 0)), (1, .int l1), (2, .int l2)] := hl
  generalize (r, s') = o at h hR
  unfold M_Mo_is at h
  refine ww_aload_n (pc := 0) g.1 d_Mo_is_0 rfl (lv_at hl 0 rfl) ?_
  refine ww_iload_n (pc := 1) g.1 d_Mo_is_1 rfl (lv_at hl 1 rfl) ?_
  obtain ⟨v2, s, hc2, h⟩ := oB_of h
  refine ww_callV (pc := 2) (rest := []) g cv_Mo_ak (Or.inl kw_197) cl_Mo (pz rfl (by decide)) (ct_Mo_ak hc2) ⟨by decide, by decide⟩ rfl hl.1 (Nat.le_of_ble_eq_true rfl) d_Mo_is_2 rfl ?_
  refine ww_st (st' := [.int v2]) rfl ?_
  refine ww_iload_n (pc := 5) g.1 d_Mo_is_5 rfl (lv_at hl 2 rfl) ?_
  refine ww_icmp_ne (pc := 6) (tgt := 13) g.1 d_Mo_is_6 (by decide) h (fun c h => ?_) (fun c h => ?_)
  · refine ww_iconst (pc := 13) g.1 (v := 0) d_Mo_is_13 (by decide) ?_
    exact ww_zretH (pc := 14) g h hR (Or.inl rfl) d_Mo_is_14
  · refine ww_iconst (pc := 9) g.1 (v := 1) d_Mo_is_9 (by decide) ?_
    refine ww_goto (pc := 10) (tgt := 14) g.1 d_Mo_is_10 (by decide) ?_
    exact ww_zretH (pc := 14) g h hR (Or.inr rfl) d_Mo_is_14

abbrev b_Mo_getMeta : ByteArray := prog_14_method_89_code
def y_Mo_getMeta : MethodName := ⟨R_Mo, "getMeta", "()V"⟩
abbrev w_Mo_getMeta : List Cond := .code y_Mo_getMeta b_Mo_getMeta 2 none :: wA
theorem k_Mo_getMeta : Cond.code y_Mo_getMeta b_Mo_getMeta 2 none ∈ wA := kinm (show _ ∈ tables_1 from (List.mem_append_right _ (List.mem_append_right _ (List.mem_append_right _ (List.mem_append_right _ (List.mem_append_right _ (List.mem_append_right _ (List.mem_append_right _ (List.mem_append_right _ (List.mem_append_right _ (List.mem_append_right _ (List.mem_append_right _ (List.mem_append_right _ (List.mem_append_left _ (List.mem_of_getElem? (l := tables_1_13) (i := 4) (by decide +kernel)))))))))))))))) (by decide +kernel)
theorem d_Mo_getMeta_0 : decode b_Mo_getMeta 0 = .ok (.aload_n 0, 1) := by decide +kernel
theorem d_Mo_getMeta_1 : decode b_Mo_getMeta 1 = .ok (.iconst 0, 1) := by decide +kernel
theorem d_Mo_getMeta_2 : decode b_Mo_getMeta 2 = .ok (.iconst 5, 1) := by decide +kernel
theorem d_Mo_getMeta_3 : decode b_Mo_getMeta 3 = .ok (.invokevirtual 833, 3) := by decide +kernel
theorem d_Mo_getMeta_6 : decode b_Mo_getMeta 6 = .ok (.ifCond .eq 17, 3) := by decide +kernel
theorem d_Mo_getMeta_9 : decode b_Mo_getMeta 9 = .ok (.aload_n 0, 1) := by decide +kernel
theorem d_Mo_getMeta_10 : decode b_Mo_getMeta 10 = .ok (.getfield 177, 3) := by decide +kernel
theorem d_Mo_getMeta_13 : decode b_Mo_getMeta 13 = .ok (.aload_n 0, 1) := by decide +kernel
theorem d_Mo_getMeta_14 : decode b_Mo_getMeta 14 = .ok (.iconst 0, 1) := by decide +kernel
theorem d_Mo_getMeta_15 : decode b_Mo_getMeta 15 = .ok (.invokevirtual 807, 3) := by decide +kernel
theorem d_Mo_getMeta_18 : decode b_Mo_getMeta 18 = .ok (.l2i, 1) := by decide +kernel
theorem d_Mo_getMeta_19 : decode b_Mo_getMeta 19 = .ok (.iaload, 1) := by decide +kernel
theorem d_Mo_getMeta_20 : decode b_Mo_getMeta 20 = .ok (.ifCond .ge 10, 3) := by decide +kernel
theorem d_Mo_getMeta_23 : decode b_Mo_getMeta 23 = .ok (.aload_n 0, 1) := by decide +kernel
theorem d_Mo_getMeta_24 : decode b_Mo_getMeta 24 = .ok (.iconst 0, 1) := by decide +kernel
theorem d_Mo_getMeta_25 : decode b_Mo_getMeta 25 = .ok (.lconst 0, 1) := by decide +kernel
theorem d_Mo_getMeta_26 : decode b_Mo_getMeta 26 = .ok (.invokevirtual 804, 3) := by decide +kernel
theorem d_Mo_getMeta_29 : decode b_Mo_getMeta 29 = .ok (.return_, 1) := by decide +kernel
theorem d_Mo_getMeta_30 : decode b_Mo_getMeta 30 = .ok (.aload_n 0, 1) := by decide +kernel
theorem d_Mo_getMeta_31 : decode b_Mo_getMeta 31 = .ok (.getfield 177, 3) := by decide +kernel
theorem d_Mo_getMeta_34 : decode b_Mo_getMeta 34 = .ok (.aload_n 0, 1) := by decide +kernel
theorem d_Mo_getMeta_35 : decode b_Mo_getMeta 35 = .ok (.iconst 0, 1) := by decide +kernel
theorem d_Mo_getMeta_36 : decode b_Mo_getMeta 36 = .ok (.invokevirtual 807, 3) := by decide +kernel
theorem d_Mo_getMeta_39 : decode b_Mo_getMeta 39 = .ok (.l2i, 1) := by decide +kernel
theorem d_Mo_getMeta_40 : decode b_Mo_getMeta 40 = .ok (.iaload, 1) := by decide +kernel
theorem d_Mo_getMeta_41 : decode b_Mo_getMeta 41 = .ok (.istore_n 1, 1) := by decide +kernel
theorem d_Mo_getMeta_42 : decode b_Mo_getMeta 42 = .ok (.aload_n 0, 1) := by decide +kernel
theorem d_Mo_getMeta_43 : decode b_Mo_getMeta 43 = .ok (.iload_n 1, 1) := by decide +kernel
theorem d_Mo_getMeta_44 : decode b_Mo_getMeta 44 = .ok (.iconst 4, 1) := by decide +kernel
theorem d_Mo_getMeta_45 : decode b_Mo_getMeta 45 = .ok (.aload_n 0, 1) := by decide +kernel
theorem d_Mo_getMeta_46 : decode b_Mo_getMeta 46 = .ok (.getfield 403, 3) := by decide +kernel
theorem d_Mo_getMeta_49 : decode b_Mo_getMeta 49 = .ok (.bipush 21, 2) := by decide +kernel
theorem d_Mo_getMeta_51 : decode b_Mo_getMeta 51 = .ok (.iaload, 1) := by decide +kernel
theorem d_Mo_getMeta_52 : decode b_Mo_getMeta 52 = .ok (.i2l, 1) := by decide +kernel
theorem d_Mo_getMeta_53 : decode b_Mo_getMeta 53 = .ok (.invokevirtual 581, 3) := by decide +kernel
theorem d_Mo_getMeta_56 : decode b_Mo_getMeta 56 = .ok (.ifCond .eq 18, 3) := by decide +kernel
theorem d_Mo_getMeta_59 : decode b_Mo_getMeta 59 = .ok (.aload_n 0, 1) := by decide +kernel
theorem d_Mo_getMeta_60 : decode b_Mo_getMeta 60 = .ok (.aload_n 0, 1) := by decide +kernel
theorem d_Mo_getMeta_61 : decode b_Mo_getMeta 61 = .ok (.getfield 222, 3) := by decide +kernel
theorem d_Mo_getMeta_64 : decode b_Mo_getMeta 64 = .ok (.aload_n 0, 1) := by decide +kernel
theorem d_Mo_getMeta_65 : decode b_Mo_getMeta 65 = .ok (.getfield 225, 3) := by decide +kernel
theorem d_Mo_getMeta_68 : decode b_Mo_getMeta 68 = .ok (.invokevirtual 804, 3) := by decide +kernel
theorem d_Mo_getMeta_71 : decode b_Mo_getMeta 71 = .ok (.goto 10, 3) := by decide +kernel
theorem d_Mo_getMeta_74 : decode b_Mo_getMeta 74 = .ok (.aload_n 0, 1) := by decide +kernel
theorem d_Mo_getMeta_75 : decode b_Mo_getMeta 75 = .ok (.iconst 5, 1) := by decide +kernel
theorem d_Mo_getMeta_76 : decode b_Mo_getMeta 76 = .ok (.iload_n 1, 1) := by decide +kernel
theorem d_Mo_getMeta_77 : decode b_Mo_getMeta 77 = .ok (.i2l, 1) := by decide +kernel
theorem d_Mo_getMeta_78 : decode b_Mo_getMeta 78 = .ok (.invokevirtual 804, 3) := by decide +kernel
theorem d_Mo_getMeta_81 : decode b_Mo_getMeta 81 = .ok (.return_, 1) := by decide +kernel
abbrev b_Mo_rawOf : ByteArray := prog_14_method_90_code
def y_Mo_rawOf : MethodName := ⟨R_Mo, "rawOf", "(I)V"⟩
abbrev w_Mo_rawOf : List Cond := .code y_Mo_rawOf b_Mo_rawOf 3 none :: wA
theorem k_Mo_rawOf : Cond.code y_Mo_rawOf b_Mo_rawOf 3 none ∈ wA := kinm (show _ ∈ tables_1 from (List.mem_append_right _ (List.mem_append_right _ (List.mem_append_right _ (List.mem_append_right _ (List.mem_append_right _ (List.mem_append_right _ (List.mem_append_right _ (List.mem_append_right _ (List.mem_append_right _ (List.mem_append_right _ (List.mem_append_right _ (List.mem_append_right _ (List.mem_append_left _ (List.mem_of_getElem? (l := tables_1_13) (i := 8) (by decide +kernel)))))))))))))))) (by decide +kernel)
theorem d_Mo_rawOf_0 : decode b_Mo_rawOf 0 = .ok (.iload_n 1, 1) := by decide +kernel
theorem d_Mo_rawOf_1 : decode b_Mo_rawOf 1 = .ok (.bipush 9, 2) := by decide +kernel
theorem d_Mo_rawOf_3 : decode b_Mo_rawOf 3 = .ok (.if_icmp .ne 30, 3) := by decide +kernel
theorem d_Mo_rawOf_6 : decode b_Mo_rawOf 6 = .ok (.aload_n 0, 1) := by decide +kernel
theorem d_Mo_rawOf_7 : decode b_Mo_rawOf 7 = .ok (.iconst 0, 1) := by decide +kernel
theorem d_Mo_rawOf_8 : decode b_Mo_rawOf 8 = .ok (.iconst 4, 1) := by decide +kernel
theorem d_Mo_rawOf_9 : decode b_Mo_rawOf 9 = .ok (.invokevirtual 833, 3) := by decide +kernel
theorem d_Mo_rawOf_12 : decode b_Mo_rawOf 12 = .ok (.ifCond .eq 21, 3) := by decide +kernel
theorem d_Mo_rawOf_15 : decode b_Mo_rawOf 15 = .ok (.aload_n 0, 1) := by decide +kernel
theorem d_Mo_rawOf_16 : decode b_Mo_rawOf 16 = .ok (.iconst 3, 1) := by decide +kernel
theorem d_Mo_rawOf_17 : decode b_Mo_rawOf 17 = .ok (.aload_n 0, 1) := by decide +kernel
theorem d_Mo_rawOf_18 : decode b_Mo_rawOf 18 = .ok (.getfield 171, 3) := by decide +kernel
theorem d_Mo_rawOf_21 : decode b_Mo_rawOf 21 = .ok (.aload_n 0, 1) := by decide +kernel
theorem d_Mo_rawOf_22 : decode b_Mo_rawOf 22 = .ok (.iconst 0, 1) := by decide +kernel
theorem d_Mo_rawOf_23 : decode b_Mo_rawOf 23 = .ok (.invokevirtual 807, 3) := by decide +kernel
theorem d_Mo_rawOf_26 : decode b_Mo_rawOf 26 = .ok (.l2i, 1) := by decide +kernel
theorem d_Mo_rawOf_27 : decode b_Mo_rawOf 27 = .ok (.iaload, 1) := by decide +kernel
theorem d_Mo_rawOf_28 : decode b_Mo_rawOf 28 = .ok (.i2l, 1) := by decide +kernel
theorem d_Mo_rawOf_29 : decode b_Mo_rawOf 29 = .ok (.invokevirtual 804, 3) := by decide +kernel
theorem d_Mo_rawOf_32 : decode b_Mo_rawOf 32 = .ok (.return_, 1) := by decide +kernel
theorem d_Mo_rawOf_33 : decode b_Mo_rawOf 33 = .ok (.aload_n 0, 1) := by decide +kernel
theorem d_Mo_rawOf_34 : decode b_Mo_rawOf 34 = .ok (.iconst 0, 1) := by decide +kernel
theorem d_Mo_rawOf_35 : decode b_Mo_rawOf 35 = .ok (.iconst 5, 1) := by decide +kernel
theorem d_Mo_rawOf_36 : decode b_Mo_rawOf 36 = .ok (.invokevirtual 833, 3) := by decide +kernel
theorem d_Mo_rawOf_39 : decode b_Mo_rawOf 39 = .ok (.ifCond .ne 10, 3) := by decide +kernel
theorem d_Mo_rawOf_42 : decode b_Mo_rawOf 42 = .ok (.aload_n 0, 1) := by decide +kernel
theorem d_Mo_rawOf_43 : decode b_Mo_rawOf 43 = .ok (.iconst 2, 1) := by decide +kernel
theorem d_Mo_rawOf_44 : decode b_Mo_rawOf 44 = .ok (.invokevirtual 517, 3) := by decide +kernel
theorem d_Mo_rawOf_47 : decode b_Mo_rawOf 47 = .ok (.pop, 1) := by decide +kernel
theorem d_Mo_rawOf_48 : decode b_Mo_rawOf 48 = .ok (.return_, 1) := by decide +kernel
theorem d_Mo_rawOf_49 : decode b_Mo_rawOf 49 = .ok (.aload_n 0, 1) := by decide +kernel
theorem d_Mo_rawOf_50 : decode b_Mo_rawOf 50 = .ok (.iconst 0, 1) := by decide +kernel
theorem d_Mo_rawOf_51 : decode b_Mo_rawOf 51 = .ok (.invokevirtual 807, 3) := by decide +kernel
theorem d_Mo_rawOf_54 : decode b_Mo_rawOf 54 = .ok (.l2i, 1) := by decide +kernel
theorem d_Mo_rawOf_55 : decode b_Mo_rawOf 55 = .ok (.istore_n 2, 1) := by decide +kernel
theorem d_Mo_rawOf_56 : decode b_Mo_rawOf 56 = .ok (.iload_n 1, 1) := by decide +kernel
theorem d_Mo_rawOf_57 : decode b_Mo_rawOf 57 = .ok (.bipush 7, 2) := by decide +kernel
theorem d_Mo_rawOf_59 : decode b_Mo_rawOf 59 = .ok (.if_icmp .ne 34, 3) := by decide +kernel
theorem d_Mo_rawOf_62 : decode b_Mo_rawOf 62 = .ok (.aload_n 0, 1) := by decide +kernel
theorem d_Mo_rawOf_63 : decode b_Mo_rawOf 63 = .ok (.iload_n 2, 1) := by decide +kernel
theorem d_Mo_rawOf_64 : decode b_Mo_rawOf 64 = .ok (.aload_n 0, 1) := by decide +kernel
theorem d_Mo_rawOf_65 : decode b_Mo_rawOf 65 = .ok (.iconst 1, 1) := by decide +kernel
theorem d_Mo_rawOf_66 : decode b_Mo_rawOf 66 = .ok (.invokevirtual 797, 3) := by decide +kernel
theorem d_Mo_rawOf_69 : decode b_Mo_rawOf 69 = .ok (.aload_n 0, 1) := by decide +kernel
theorem d_Mo_rawOf_70 : decode b_Mo_rawOf 70 = .ok (.iconst 1, 1) := by decide +kernel
theorem d_Mo_rawOf_71 : decode b_Mo_rawOf 71 = .ok (.invokevirtual 807, 3) := by decide +kernel
theorem d_Mo_rawOf_74 : decode b_Mo_rawOf 74 = .ok (.invokevirtual 581, 3) := by decide +kernel
theorem d_Mo_rawOf_77 : decode b_Mo_rawOf 77 = .ok (.pop, 1) := by decide +kernel
theorem d_Mo_rawOf_78 : decode b_Mo_rawOf 78 = .ok (.aload_n 0, 1) := by decide +kernel
theorem d_Mo_rawOf_79 : decode b_Mo_rawOf 79 = .ok (.aload_n 0, 1) := by decide +kernel
theorem d_Mo_rawOf_80 : decode b_Mo_rawOf 80 = .ok (.getfield 222, 3) := by decide +kernel
theorem d_Mo_rawOf_83 : decode b_Mo_rawOf 83 = .ok (.aload_n 0, 1) := by decide +kernel
theorem d_Mo_rawOf_84 : decode b_Mo_rawOf 84 = .ok (.getfield 225, 3) := by decide +kernel
theorem d_Mo_rawOf_87 : decode b_Mo_rawOf 87 = .ok (.invokevirtual 804, 3) := by decide +kernel
theorem d_Mo_rawOf_90 : decode b_Mo_rawOf 90 = .ok (.goto 57, 3) := by decide +kernel
theorem d_Mo_rawOf_93 : decode b_Mo_rawOf 93 = .ok (.iload_n 1, 1) := by decide +kernel
theorem d_Mo_rawOf_94 : decode b_Mo_rawOf 94 = .ok (.bipush 8, 2) := by decide +kernel
theorem d_Mo_rawOf_96 : decode b_Mo_rawOf 96 = .ok (.if_icmp .ne 41, 3) := by decide +kernel
theorem d_Mo_rawOf_99 : decode b_Mo_rawOf 99 = .ok (.aload_n 0, 1) := by decide +kernel
theorem d_Mo_rawOf_100 : decode b_Mo_rawOf 100 = .ok (.iload_n 2, 1) := by decide +kernel
theorem d_Mo_rawOf_101 : decode b_Mo_rawOf 101 = .ok (.aload_n 0, 1) := by decide +kernel
theorem d_Mo_rawOf_102 : decode b_Mo_rawOf 102 = .ok (.iconst 1, 1) := by decide +kernel
theorem d_Mo_rawOf_103 : decode b_Mo_rawOf 103 = .ok (.invokevirtual 797, 3) := by decide +kernel
theorem d_Mo_rawOf_106 : decode b_Mo_rawOf 106 = .ok (.aload_n 0, 1) := by decide +kernel
theorem d_Mo_rawOf_107 : decode b_Mo_rawOf 107 = .ok (.iconst 1, 1) := by decide +kernel
theorem d_Mo_rawOf_108 : decode b_Mo_rawOf 108 = .ok (.invokevirtual 807, 3) := by decide +kernel
theorem d_Mo_rawOf_111 : decode b_Mo_rawOf 111 = .ok (.aload_n 0, 1) := by decide +kernel
theorem d_Mo_rawOf_112 : decode b_Mo_rawOf 112 = .ok (.iconst 2, 1) := by decide +kernel
theorem d_Mo_rawOf_113 : decode b_Mo_rawOf 113 = .ok (.invokevirtual 797, 3) := by decide +kernel
theorem d_Mo_rawOf_116 : decode b_Mo_rawOf 116 = .ok (.aload_n 0, 1) := by decide +kernel
theorem d_Mo_rawOf_117 : decode b_Mo_rawOf 117 = .ok (.iconst 2, 1) := by decide +kernel
theorem d_Mo_rawOf_118 : decode b_Mo_rawOf 118 = .ok (.invokevirtual 807, 3) := by decide +kernel
theorem d_Mo_rawOf_121 : decode b_Mo_rawOf 121 = .ok (.invokevirtual 684, 3) := by decide +kernel
theorem d_Mo_rawOf_124 : decode b_Mo_rawOf 124 = .ok (.ifCond .eq 23, 3) := by decide +kernel
theorem d_Mo_rawOf_127 : decode b_Mo_rawOf 127 = .ok (.aload_n 0, 1) := by decide +kernel
theorem d_Mo_rawOf_128 : decode b_Mo_rawOf 128 = .ok (.iconst 5, 1) := by decide +kernel
theorem d_Mo_rawOf_129 : decode b_Mo_rawOf 129 = .ok (.iload_n 2, 1) := by decide +kernel
theorem d_Mo_rawOf_130 : decode b_Mo_rawOf 130 = .ok (.i2l, 1) := by decide +kernel
theorem d_Mo_rawOf_131 : decode b_Mo_rawOf 131 = .ok (.invokevirtual 804, 3) := by decide +kernel
theorem d_Mo_rawOf_134 : decode b_Mo_rawOf 134 = .ok (.goto 13, 3) := by decide +kernel
theorem d_Mo_rawOf_137 : decode b_Mo_rawOf 137 = .ok (.aload_n 0, 1) := by decide +kernel
theorem d_Mo_rawOf_138 : decode b_Mo_rawOf 138 = .ok (.iconst 3, 1) := by decide +kernel
theorem d_Mo_rawOf_139 : decode b_Mo_rawOf 139 = .ok (.aload_n 0, 1) := by decide +kernel
theorem d_Mo_rawOf_140 : decode b_Mo_rawOf 140 = .ok (.iload_n 2, 1) := by decide +kernel
theorem d_Mo_rawOf_141 : decode b_Mo_rawOf 141 = .ok (.invokevirtual 847, 3) := by decide +kernel
theorem d_Mo_rawOf_144 : decode b_Mo_rawOf 144 = .ok (.invokevirtual 804, 3) := by decide +kernel
theorem d_Mo_rawOf_147 : decode b_Mo_rawOf 147 = .ok (.return_, 1) := by decide +kernel
abbrev b_Mo_border : ByteArray := prog_14_method_39_code
def y_Mo_border : MethodName := ⟨R_Mo, "border", "(I)J"⟩
abbrev w_Mo_border : List Cond := .code y_Mo_border b_Mo_border 4 (some .long) :: wA
theorem k_Mo_border : Cond.code y_Mo_border b_Mo_border 4 (some .long) ∈ wA := kinm (show _ ∈ tables_1 from (List.mem_append_right _ (List.mem_append_right _ (List.mem_append_right _ (List.mem_append_right _ (List.mem_append_right _ (List.mem_append_right _ (List.mem_append_right _ (List.mem_append_right _ (List.mem_append_right _ (List.mem_append_right _ (List.mem_append_right _ (List.mem_append_right _ (List.mem_append_left _ (List.mem_of_getElem? (l := tables_1_13) (i := 12) (by decide +kernel)))))))))))))))) (by decide +kernel)
theorem d_Mo_border_0 : decode b_Mo_border 0 = .ok (.lconst 0, 1) := by decide +kernel
theorem d_Mo_border_1 : decode b_Mo_border 1 = .ok (.lstore_n 2, 1) := by decide +kernel
theorem d_Mo_border_2 : decode b_Mo_border 2 = .ok (.aload_n 0, 1) := by decide +kernel
theorem d_Mo_border_3 : decode b_Mo_border 3 = .ok (.iload_n 1, 1) := by decide +kernel
theorem d_Mo_border_4 : decode b_Mo_border 4 = .ok (.iconst 3, 1) := by decide +kernel
theorem d_Mo_border_5 : decode b_Mo_border 5 = .ok (.lload_n 2, 1) := by decide +kernel
theorem d_Mo_border_6 : decode b_Mo_border 6 = .ok (.lconst 1, 1) := by decide +kernel
theorem d_Mo_border_7 : decode b_Mo_border 7 = .ok (.ladd, 1) := by decide +kernel
theorem d_Mo_border_8 : decode b_Mo_border 8 = .ok (.invokevirtual 581, 3) := by decide +kernel
theorem d_Mo_border_11 : decode b_Mo_border 11 = .ok (.ifCond .eq 10, 3) := by decide +kernel
theorem d_Mo_border_14 : decode b_Mo_border 14 = .ok (.lload_n 2, 1) := by decide +kernel
theorem d_Mo_border_15 : decode b_Mo_border 15 = .ok (.lconst 1, 1) := by decide +kernel
theorem d_Mo_border_16 : decode b_Mo_border 16 = .ok (.ladd, 1) := by decide +kernel
theorem d_Mo_border_17 : decode b_Mo_border 17 = .ok (.lstore_n 2, 1) := by decide +kernel
theorem d_Mo_border_18 : decode b_Mo_border 18 = .ok (.goto (-16), 3) := by decide +kernel
theorem d_Mo_border_21 : decode b_Mo_border 21 = .ok (.lload_n 2, 1) := by decide +kernel
theorem d_Mo_border_22 : decode b_Mo_border 22 = .ok (.lreturn, 1) := by decide +kernel
abbrev b_Mo_next : ByteArray := prog_14_method_91_code
def y_Mo_next : MethodName := ⟨R_Mo, "next", "()V"⟩
abbrev w_Mo_next : List Cond := .code y_Mo_next b_Mo_next 4 none :: wA
set_option maxRecDepth 20000 in
theorem k_Mo_next : Cond.code y_Mo_next b_Mo_next 4 none ∈ wA := kinm (show _ ∈ tables_1 from (List.mem_append_right _ (List.mem_append_right _ (List.mem_append_right _ (List.mem_append_right _ (List.mem_append_right _ (List.mem_append_right _ (List.mem_append_right _ (List.mem_append_right _ (List.mem_append_right _ (List.mem_append_right _ (List.mem_append_right _ (List.mem_append_right _ (List.mem_append_left _ (List.mem_of_getElem? (l := tables_1_13) (i := 16) rfl))))))))))))))) rfl
theorem d_Mo_next_0 : decode b_Mo_next 0 = .ok (.aload_n 0, 1) := by decide +kernel
theorem d_Mo_next_1 : decode b_Mo_next 1 = .ok (.iconst 0, 1) := by decide +kernel
theorem d_Mo_next_2 : decode b_Mo_next 2 = .ok (.iconst 5, 1) := by decide +kernel
theorem d_Mo_next_3 : decode b_Mo_next 3 = .ok (.invokevirtual 833, 3) := by decide +kernel
theorem d_Mo_next_6 : decode b_Mo_next 6 = .ok (.ifCond .ne 10, 3) := by decide +kernel
theorem d_Mo_next_9 : decode b_Mo_next 9 = .ok (.aload_n 0, 1) := by decide +kernel
theorem d_Mo_next_10 : decode b_Mo_next 10 = .ok (.iconst 2, 1) := by decide +kernel
theorem d_Mo_next_11 : decode b_Mo_next 11 = .ok (.invokevirtual 517, 3) := by decide +kernel
theorem d_Mo_next_14 : decode b_Mo_next 14 = .ok (.pop, 1) := by decide +kernel
theorem d_Mo_next_15 : decode b_Mo_next 15 = .ok (.return_, 1) := by decide +kernel
theorem d_Mo_next_16 : decode b_Mo_next 16 = .ok (.aload_n 0, 1) := by decide +kernel
theorem d_Mo_next_17 : decode b_Mo_next 17 = .ok (.iconst 0, 1) := by decide +kernel
theorem d_Mo_next_18 : decode b_Mo_next 18 = .ok (.invokevirtual 807, 3) := by decide +kernel
theorem d_Mo_next_21 : decode b_Mo_next 21 = .ok (.l2i, 1) := by decide +kernel
theorem d_Mo_next_22 : decode b_Mo_next 22 = .ok (.istore_n 1, 1) := by decide +kernel
theorem d_Mo_next_23 : decode b_Mo_next 23 = .ok (.aload_n 0, 1) := by decide +kernel
theorem d_Mo_next_24 : decode b_Mo_next 24 = .ok (.getfield 168, 3) := by decide +kernel
theorem d_Mo_next_27 : decode b_Mo_next 27 = .ok (.iload_n 1, 1) := by decide +kernel
theorem d_Mo_next_28 : decode b_Mo_next 28 = .ok (.iaload, 1) := by decide +kernel
theorem d_Mo_next_29 : decode b_Mo_next 29 = .ok (.istore_n 2, 1) := by decide +kernel
theorem d_Mo_next_30 : decode b_Mo_next 30 = .ok (.aload_n 0, 1) := by decide +kernel
theorem d_Mo_next_31 : decode b_Mo_next 31 = .ok (.iconst 1, 1) := by decide +kernel
theorem d_Mo_next_32 : decode b_Mo_next 32 = .ok (.iconst 0, 1) := by decide +kernel
theorem d_Mo_next_33 : decode b_Mo_next 33 = .ok (.invokevirtual 833, 3) := by decide +kernel
theorem d_Mo_next_36 : decode b_Mo_next 36 = .ok (.ifCond .ne 35, 3) := by decide +kernel
theorem d_Mo_next_39 : decode b_Mo_next 39 = .ok (.aload_n 0, 1) := by decide +kernel
theorem d_Mo_next_40 : decode b_Mo_next 40 = .ok (.iload_n 1, 1) := by decide +kernel
theorem d_Mo_next_41 : decode b_Mo_next 41 = .ok (.aload_n 0, 1) := by decide +kernel
theorem d_Mo_next_42 : decode b_Mo_next 42 = .ok (.iconst 1, 1) := by decide +kernel
theorem d_Mo_next_43 : decode b_Mo_next 43 = .ok (.invokevirtual 797, 3) := by decide +kernel
theorem d_Mo_next_46 : decode b_Mo_next 46 = .ok (.aload_n 0, 1) := by decide +kernel
theorem d_Mo_next_47 : decode b_Mo_next 47 = .ok (.iconst 1, 1) := by decide +kernel
theorem d_Mo_next_48 : decode b_Mo_next 48 = .ok (.invokevirtual 807, 3) := by decide +kernel
theorem d_Mo_next_51 : decode b_Mo_next 51 = .ok (.invokevirtual 552, 3) := by decide +kernel
theorem d_Mo_next_54 : decode b_Mo_next 54 = .ok (.istore_n 3, 1) := by decide +kernel
theorem d_Mo_next_55 : decode b_Mo_next 55 = .ok (.iload_n 3, 1) := by decide +kernel
theorem d_Mo_next_56 : decode b_Mo_next 56 = .ok (.ifCond .ge 11, 3) := by decide +kernel
theorem d_Mo_next_59 : decode b_Mo_next 59 = .ok (.aload_n 0, 1) := by decide +kernel
theorem d_Mo_next_60 : decode b_Mo_next 60 = .ok (.bipush 6, 2) := by decide +kernel
theorem d_Mo_next_62 : decode b_Mo_next 62 = .ok (.invokevirtual 517, 3) := by decide +kernel
theorem d_Mo_next_65 : decode b_Mo_next 65 = .ok (.pop, 1) := by decide +kernel
theorem d_Mo_next_66 : decode b_Mo_next 66 = .ok (.return_, 1) := by decide +kernel
theorem d_Mo_next_67 : decode b_Mo_next 67 = .ok (.iload_n 3, 1) := by decide +kernel
theorem d_Mo_next_68 : decode b_Mo_next 68 = .ok (.iconst 1, 1) := by decide +kernel
theorem d_Mo_next_69 : decode b_Mo_next 69 = .ok (.iadd, 1) := by decide +kernel
theorem d_Mo_next_70 : decode b_Mo_next 70 = .ok (.istore_n 2, 1) := by decide +kernel
theorem d_Mo_next_71 : decode b_Mo_next 71 = .ok (.aload_n 0, 1) := by decide +kernel
theorem d_Mo_next_72 : decode b_Mo_next 72 = .ok (.getfield 168, 3) := by decide +kernel
theorem d_Mo_next_75 : decode b_Mo_next 75 = .ok (.iload_n 1, 1) := by decide +kernel
theorem d_Mo_next_76 : decode b_Mo_next 76 = .ok (.iaload, 1) := by decide +kernel
theorem d_Mo_next_77 : decode b_Mo_next 77 = .ok (.aload_n 0, 1) := by decide +kernel
theorem d_Mo_next_78 : decode b_Mo_next 78 = .ok (.getfield 174, 3) := by decide +kernel
theorem d_Mo_next_81 : decode b_Mo_next 81 = .ok (.iload_n 1, 1) := by decide +kernel
theorem d_Mo_next_82 : decode b_Mo_next 82 = .ok (.iaload, 1) := by decide +kernel
theorem d_Mo_next_83 : decode b_Mo_next 83 = .ok (.iadd, 1) := by decide +kernel
theorem d_Mo_next_84 : decode b_Mo_next 84 = .ok (.istore_n 3, 1) := by decide +kernel
theorem d_Mo_next_85 : decode b_Mo_next 85 = .ok (.iload_n 2, 1) := by decide +kernel
theorem d_Mo_next_86 : decode b_Mo_next 86 = .ok (.iload_n 3, 1) := by decide +kernel
theorem d_Mo_next_87 : decode b_Mo_next 87 = .ok (.if_icmp .ge 18, 3) := by decide +kernel
theorem d_Mo_next_90 : decode b_Mo_next 90 = .ok (.aload_n 0, 1) := by decide +kernel
theorem d_Mo_next_91 : decode b_Mo_next 91 = .ok (.getfield 196, 3) := by decide +kernel
theorem d_Mo_next_94 : decode b_Mo_next 94 = .ok (.iload_n 2, 1) := by decide +kernel
theorem d_Mo_next_95 : decode b_Mo_next 95 = .ok (.baload, 1) := by decide +kernel
theorem d_Mo_next_96 : decode b_Mo_next 96 = .ok (.ifCond .ne 9, 3) := by decide +kernel
theorem d_Mo_next_99 : decode b_Mo_next 99 = .ok (.iinc 2 1, 3) := by decide +kernel
theorem d_Mo_next_102 : decode b_Mo_next 102 = .ok (.goto (-17), 3) := by decide +kernel
theorem d_Mo_next_105 : decode b_Mo_next 105 = .ok (.iload_n 2, 1) := by decide +kernel
theorem d_Mo_next_106 : decode b_Mo_next 106 = .ok (.iload_n 3, 1) := by decide +kernel
theorem d_Mo_next_107 : decode b_Mo_next 107 = .ok (.if_icmp .ne 10, 3) := by decide +kernel
theorem d_Mo_next_110 : decode b_Mo_next 110 = .ok (.aload_n 0, 1) := by decide +kernel
theorem d_Mo_next_111 : decode b_Mo_next 111 = .ok (.iconst 0, 1) := by decide +kernel
theorem d_Mo_next_112 : decode b_Mo_next 112 = .ok (.lconst 0, 1) := by decide +kernel
theorem d_Mo_next_113 : decode b_Mo_next 113 = .ok (.invokevirtual 804, 3) := by decide +kernel
theorem d_Mo_next_116 : decode b_Mo_next 116 = .ok (.return_, 1) := by decide +kernel
theorem d_Mo_next_117 : decode b_Mo_next 117 = .ok (.aload_n 0, 1) := by decide +kernel
theorem d_Mo_next_118 : decode b_Mo_next 118 = .ok (.aload_n 0, 1) := by decide +kernel
theorem d_Mo_next_119 : decode b_Mo_next 119 = .ok (.getfield 193, 3) := by decide +kernel
theorem d_Mo_next_122 : decode b_Mo_next 122 = .ok (.iload_n 2, 1) := by decide +kernel
theorem d_Mo_next_123 : decode b_Mo_next 123 = .ok (.baload, 1) := by decide +kernel
theorem d_Mo_next_124 : decode b_Mo_next 124 = .ok (.aload_n 0, 1) := by decide +kernel
theorem d_Mo_next_125 : decode b_Mo_next 125 = .ok (.getfield 199, 3) := by decide +kernel
theorem d_Mo_next_128 : decode b_Mo_next 128 = .ok (.iload_n 2, 1) := by decide +kernel
theorem d_Mo_next_129 : decode b_Mo_next 129 = .ok (.laload, 1) := by decide +kernel
theorem d_Mo_next_130 : decode b_Mo_next 130 = .ok (.invokevirtual 804, 3) := by decide +kernel
theorem d_Mo_next_133 : decode b_Mo_next 133 = .ok (.aload_n 0, 1) := by decide +kernel
theorem d_Mo_next_134 : decode b_Mo_next 134 = .ok (.getfield 262, 3) := by decide +kernel
theorem d_Mo_next_137 : decode b_Mo_next 137 = .ok (.aload_n 0, 1) := by decide +kernel
theorem d_Mo_next_138 : decode b_Mo_next 138 = .ok (.getfield 196, 3) := by decide +kernel
theorem d_Mo_next_141 : decode b_Mo_next 141 = .ok (.iload_n 2, 1) := by decide +kernel
theorem d_Mo_next_142 : decode b_Mo_next 142 = .ok (.baload, 1) := by decide +kernel
theorem d_Mo_next_143 : decode b_Mo_next 143 = .ok (.aload_n 0, 1) := by decide +kernel
theorem d_Mo_next_144 : decode b_Mo_next 144 = .ok (.getfield 203, 3) := by decide +kernel
theorem d_Mo_next_147 : decode b_Mo_next 147 = .ok (.iload_n 2, 1) := by decide +kernel
theorem d_Mo_next_148 : decode b_Mo_next 148 = .ok (.laload, 1) := by decide +kernel
theorem d_Mo_next_149 : decode b_Mo_next 149 = .ok (.invokevirtual 572, 3) := by decide +kernel
theorem d_Mo_next_152 : decode b_Mo_next 152 = .ok (.return_, 1) := by decide +kernel
abbrev b_Mo_select : ByteArray := prog_14_method_93_code
def y_Mo_select : MethodName := ⟨R_Mo, "select", "()V"⟩
abbrev w_Mo_select : List Cond := .code y_Mo_select b_Mo_select 3 none :: wA
theorem k_Mo_select : Cond.code y_Mo_select b_Mo_select 3 none ∈ wA := kinm (show _ ∈ tables_1 from (List.mem_append_right _ (List.mem_append_right _ (List.mem_append_right _ (List.mem_append_right _ (List.mem_append_right _ (List.mem_append_right _ (List.mem_append_right _ (List.mem_append_right _ (List.mem_append_right _ (List.mem_append_right _ (List.mem_append_right _ (List.mem_append_right _ (List.mem_append_left _ (List.mem_of_getElem? (l := tables_1_13) (i := 20) (by decide +kernel)))))))))))))))) (by decide +kernel)
theorem d_Mo_select_0 : decode b_Mo_select 0 = .ok (.aload_n 0, 1) := by decide +kernel
theorem d_Mo_select_1 : decode b_Mo_select 1 = .ok (.iconst 0, 1) := by decide +kernel
theorem d_Mo_select_2 : decode b_Mo_select 2 = .ok (.iconst 4, 1) := by decide +kernel
theorem d_Mo_select_3 : decode b_Mo_select 3 = .ok (.invokevirtual 833, 3) := by decide +kernel
theorem d_Mo_select_6 : decode b_Mo_select 6 = .ok (.ifCond .eq 32, 3) := by decide +kernel
theorem d_Mo_select_9 : decode b_Mo_select 9 = .ok (.aload_n 0, 1) := by decide +kernel
theorem d_Mo_select_10 : decode b_Mo_select 10 = .ok (.aload_n 0, 1) := by decide +kernel
theorem d_Mo_select_11 : decode b_Mo_select 11 = .ok (.iconst 0, 1) := by decide +kernel
theorem d_Mo_select_12 : decode b_Mo_select 12 = .ok (.invokevirtual 807, 3) := by decide +kernel
theorem d_Mo_select_15 : decode b_Mo_select 15 = .ok (.l2i, 1) := by decide +kernel
theorem d_Mo_select_16 : decode b_Mo_select 16 = .ok (.invokevirtual 850, 3) := by decide +kernel
theorem d_Mo_select_19 : decode b_Mo_select 19 = .ok (.ifCond .eq 19, 3) := by decide +kernel
theorem d_Mo_select_22 : decode b_Mo_select 22 = .ok (.aload_n 0, 1) := by decide +kernel
theorem d_Mo_select_23 : decode b_Mo_select 23 = .ok (.iconst 3, 1) := by decide +kernel
theorem d_Mo_select_24 : decode b_Mo_select 24 = .ok (.aload_n 0, 1) := by decide +kernel
theorem d_Mo_select_25 : decode b_Mo_select 25 = .ok (.getfield 259, 3) := by decide +kernel
theorem d_Mo_select_28 : decode b_Mo_select 28 = .ok (.getfield 569, 3) := by decide +kernel
theorem d_Mo_select_31 : decode b_Mo_select 31 = .ok (.iconst 1, 1) := by decide +kernel
theorem d_Mo_select_32 : decode b_Mo_select 32 = .ok (.isub, 1) := by decide +kernel
theorem d_Mo_select_33 : decode b_Mo_select 33 = .ok (.i2l, 1) := by decide +kernel
theorem d_Mo_select_34 : decode b_Mo_select 34 = .ok (.invokevirtual 804, 3) := by decide +kernel
theorem d_Mo_select_37 : decode b_Mo_select 37 = .ok (.return_, 1) := by decide +kernel
theorem d_Mo_select_38 : decode b_Mo_select 38 = .ok (.aload_n 0, 1) := by decide +kernel
theorem d_Mo_select_39 : decode b_Mo_select 39 = .ok (.iconst 0, 1) := by decide +kernel
theorem d_Mo_select_40 : decode b_Mo_select 40 = .ok (.iconst 3, 1) := by decide +kernel
theorem d_Mo_select_41 : decode b_Mo_select 41 = .ok (.invokevirtual 833, 3) := by decide +kernel
theorem d_Mo_select_44 : decode b_Mo_select 44 = .ok (.ifCond .eq 13, 3) := by decide +kernel
theorem d_Mo_select_47 : decode b_Mo_select 47 = .ok (.aload_n 0, 1) := by decide +kernel
theorem d_Mo_select_48 : decode b_Mo_select 48 = .ok (.iconst 0, 1) := by decide +kernel
theorem d_Mo_select_49 : decode b_Mo_select 49 = .ok (.invokevirtual 807, 3) := by decide +kernel
theorem d_Mo_select_52 : decode b_Mo_select 52 = .ok (.lconst 1, 1) := by decide +kernel
theorem d_Mo_select_53 : decode b_Mo_select 53 = .ok (.lcmp, 1) := by decide +kernel
theorem d_Mo_select_54 : decode b_Mo_select 54 = .ok (.ifCond .ge 11, 3) := by decide +kernel
theorem d_Mo_select_57 : decode b_Mo_select 57 = .ok (.aload_n 0, 1) := by decide +kernel
theorem d_Mo_select_58 : decode b_Mo_select 58 = .ok (.bipush 7, 2) := by decide +kernel
theorem d_Mo_select_60 : decode b_Mo_select 60 = .ok (.invokevirtual 517, 3) := by decide +kernel
theorem d_Mo_select_63 : decode b_Mo_select 63 = .ok (.pop, 1) := by decide +kernel
theorem d_Mo_select_64 : decode b_Mo_select 64 = .ok (.return_, 1) := by decide +kernel
theorem d_Mo_select_65 : decode b_Mo_select 65 = .ok (.aload_n 0, 1) := by decide +kernel
theorem d_Mo_select_66 : decode b_Mo_select 66 = .ok (.invokevirtual 853, 3) := by decide +kernel
theorem d_Mo_select_69 : decode b_Mo_select 69 = .ok (.aload_n 0, 1) := by decide +kernel
theorem d_Mo_select_70 : decode b_Mo_select 70 = .ok (.iconst 0, 1) := by decide +kernel
theorem d_Mo_select_71 : decode b_Mo_select 71 = .ok (.invokevirtual 807, 3) := by decide +kernel
theorem d_Mo_select_74 : decode b_Mo_select 74 = .ok (.lstore_n 1, 1) := by decide +kernel
theorem d_Mo_select_75 : decode b_Mo_select 75 = .ok (.lload_n 1, 1) := by decide +kernel
theorem d_Mo_select_76 : decode b_Mo_select 76 = .ok (.aload_n 0, 1) := by decide +kernel
theorem d_Mo_select_77 : decode b_Mo_select 77 = .ok (.getfield 259, 3) := by decide +kernel
theorem d_Mo_select_80 : decode b_Mo_select 80 = .ok (.getfield 569, 3) := by decide +kernel
theorem d_Mo_select_83 : decode b_Mo_select 83 = .ok (.i2l, 1) := by decide +kernel
theorem d_Mo_select_84 : decode b_Mo_select 84 = .ok (.lcmp, 1) := by decide +kernel
theorem d_Mo_select_85 : decode b_Mo_select 85 = .ok (.ifCond .ge 23, 3) := by decide +kernel
theorem d_Mo_select_88 : decode b_Mo_select 88 = .ok (.aload_n 0, 1) := by decide +kernel
theorem d_Mo_select_89 : decode b_Mo_select 89 = .ok (.getfield 262, 3) := by decide +kernel
theorem d_Mo_select_92 : decode b_Mo_select 92 = .ok (.aload_n 0, 1) := by decide +kernel
theorem d_Mo_select_93 : decode b_Mo_select 93 = .ok (.getfield 259, 3) := by decide +kernel
theorem d_Mo_select_96 : decode b_Mo_select 96 = .ok (.lload_n 1, 1) := by decide +kernel
theorem d_Mo_select_97 : decode b_Mo_select 97 = .ok (.l2i, 1) := by decide +kernel
theorem d_Mo_select_98 : decode b_Mo_select 98 = .ok (.invokevirtual 770, 3) := by decide +kernel
theorem d_Mo_select_101 : decode b_Mo_select 101 = .ok (.lload_n 1, 1) := by decide +kernel
theorem d_Mo_select_102 : decode b_Mo_select 102 = .ok (.lconst 1, 1) := by decide +kernel
theorem d_Mo_select_103 : decode b_Mo_select 103 = .ok (.ladd, 1) := by decide +kernel
theorem d_Mo_select_104 : decode b_Mo_select 104 = .ok (.lstore_n 1, 1) := by decide +kernel
theorem d_Mo_select_105 : decode b_Mo_select 105 = .ok (.goto (-30), 3) := by decide +kernel
theorem d_Mo_select_108 : decode b_Mo_select 108 = .ok (.return_, 1) := by decide +kernel
abbrev b_Mo_isMark : ByteArray := prog_14_method_92_code
def y_Mo_isMark : MethodName := ⟨R_Mo, "isMark", "(I)Z"⟩
abbrev w_Mo_isMark : List Cond := .code y_Mo_isMark b_Mo_isMark 2 (some .boolean) :: wA
theorem k_Mo_isMark : Cond.code y_Mo_isMark b_Mo_isMark 2 (some .boolean) ∈ wA := kinm (show _ ∈ tables_1 from (List.mem_append_right _ (List.mem_append_right _ (List.mem_append_right _ (List.mem_append_right _ (List.mem_append_right _ (List.mem_append_right _ (List.mem_append_right _ (List.mem_append_right _ (List.mem_append_right _ (List.mem_append_right _ (List.mem_append_right _ (List.mem_append_right _ (List.mem_append_left _ (List.mem_of_getElem? (l := tables_1_13) (i := 24) (by decide +kernel)))))))))))))))) (by decide +kernel)
theorem d_Mo_isMark_0 : decode b_Mo_isMark 0 = .ok (.aload_n 0, 1) := by decide +kernel
theorem d_Mo_isMark_1 : decode b_Mo_isMark 1 = .ok (.getfield 171, 3) := by decide +kernel
theorem d_Mo_isMark_4 : decode b_Mo_isMark 4 = .ok (.iload_n 1, 1) := by decide +kernel
theorem d_Mo_isMark_5 : decode b_Mo_isMark 5 = .ok (.iaload, 1) := by decide +kernel
theorem d_Mo_isMark_6 : decode b_Mo_isMark 6 = .ok (.iconst 1, 1) := by decide +kernel
theorem d_Mo_isMark_7 : decode b_Mo_isMark 7 = .ok (.if_icmp .ne 23, 3) := by decide +kernel
theorem d_Mo_isMark_10 : decode b_Mo_isMark 10 = .ok (.aload_n 0, 1) := by decide +kernel
theorem d_Mo_isMark_11 : decode b_Mo_isMark 11 = .ok (.getfield 187, 3) := by decide +kernel
theorem d_Mo_isMark_14 : decode b_Mo_isMark 14 = .ok (.aload_n 0, 1) := by decide +kernel
theorem d_Mo_isMark_15 : decode b_Mo_isMark 15 = .ok (.getfield 168, 3) := by decide +kernel
theorem d_Mo_isMark_18 : decode b_Mo_isMark 18 = .ok (.iload_n 1, 1) := by decide +kernel
theorem d_Mo_isMark_19 : decode b_Mo_isMark 19 = .ok (.iaload, 1) := by decide +kernel
theorem d_Mo_isMark_20 : decode b_Mo_isMark 20 = .ok (.baload, 1) := by decide +kernel
theorem d_Mo_isMark_21 : decode b_Mo_isMark 21 = .ok (.bipush 35, 2) := by decide +kernel
theorem d_Mo_isMark_23 : decode b_Mo_isMark 23 = .ok (.if_icmp .ne 7, 3) := by decide +kernel
theorem d_Mo_isMark_26 : decode b_Mo_isMark 26 = .ok (.iconst 1, 1) := by decide +kernel
theorem d_Mo_isMark_27 : decode b_Mo_isMark 27 = .ok (.goto 4, 3) := by decide +kernel
theorem d_Mo_isMark_30 : decode b_Mo_isMark 30 = .ok (.iconst 0, 1) := by decide +kernel
theorem d_Mo_isMark_31 : decode b_Mo_isMark 31 = .ok (.ireturn, 1) := by decide +kernel
theorem kw_206 : Cond.fieldLink R_Mo 187 "LuaMachineModel" "text" "[B" ∈ wA := kinm (show _ ∈ tables_1 from (List.mem_append_right _ (List.mem_append_right _ (List.mem_append_right _ (List.mem_append_right _ (List.mem_append_right _ (List.mem_append_right _ (List.mem_append_right _ (List.mem_append_right _ (List.mem_append_right _ (List.mem_append_left _ (List.mem_of_getElem? (l := tables_1_10) (i := 111) (by decide +kernel))))))))))))) (by decide +kernel)
theorem kw_207 : Cond.instanceMethod y_Mo_isMark ∈ wA := kinm (show _ ∈ tables_1 from (List.mem_append_right _ (List.mem_append_right _ (List.mem_append_right _ (List.mem_append_right _ (List.mem_append_right _ (List.mem_append_right _ (List.mem_append_right _ (List.mem_append_right _ (List.mem_append_right _ (List.mem_append_right _ (List.mem_append_right _ (List.mem_append_right _ (List.mem_append_left _ (List.mem_of_getElem? (l := tables_1_13) (i := 23) (by decide +kernel)))))))))))))))) (by decide +kernel)
theorem kw_208 : Cond.selects R_Mo y_Mo_isMark y_Mo_isMark ∈ wA := kinp 180 (by decide +kernel) (by decide +kernel)
def M_Mo_isMark_j30  : M (Int32) :=
  oR 0

def M_Mo_isMark (l1 : Int32) : M (Int32) :=
  oB (oAI 63 4100 0 l1) fun v5 =>
  oC (v5 = 1)
    (oB (oAI 62 4100 0 l1) fun v19 =>
    oB (oAI 67 400000 0 v19) fun v20 =>
    oC (v20 = 35)
      (oR 1)
      (M_Mo_isMark_j30))
    (M_Mo_isMark_j30)

theorem cv_Mo_isMark : CV y_Mo_isMark b_Mo_isMark 2 (some .boolean) 1 := ⟨kw_207, kw_208, kw_17, k_Mo_isMark, by decide +kernel⟩
theorem j_Mo_isMark_j30 {X : Cx} {q : PL} (g : Gd X y_Mo_isMark b_Mo_isMark 2 (some .boolean) 0 0 R_Mo) {o : (Int32) × S1} (hR : Rt X q o.2 (some (.int o.1)))  (s : S1) (ls : Array Slot) (hl : lv_has ls 2 []) (h : M_Mo_isMark_j30 s = some o) : WW X q s 30 ls [] := by
  unfold M_Mo_isMark_j30 at h
  refine ww_iconst (pc := 30) g.1 (v := 0) d_Mo_isMark_30 (by decide) ?_
  exact ww_zretH (pc := 31) g h hR (Or.inl rfl) d_Mo_isMark_31

theorem ct_Mo_isMark {l : Launch} {P : PP} {q : PL} {s s' : S1} {l1 : Int32} {r : Int32} (h : M_Mo_isMark l1 s = some (r, s')) : Ct l y_Mo_isMark b_Mo_isMark 2 (some .boolean) 0 0 P q s [.ref (q.1 0 0), .int l1] (some (.int r)) q s' := by
  refine ct_of (by decide) (Nat.le_of_ble_eq_true rfl) fun X ls eP el g hR hl => ?_
  have hR : Rt X q ((r, s') : Int32 × S1).2 (some (.int ((r, s') : Int32 × S1).1)) := hR
  have hl : lv_has ls 2 [(0, .ref (q.1 0 0)), (1, .int l1)] := hl
  generalize (r, s') = o at h hR
  unfold M_Mo_isMark at h
  refine ww_aload_n (pc := 0) g.1 d_Mo_isMark_0 rfl (lv_at hl 0 rfl) ?_
  refine ww_gR (pc := 1) g (k := 50) cl_Mo (pz rfl (by decide)) (by decide) (Or.inl kw_93) (f := 50) (t := 63) rfl rfl rfl d_Mo_isMark_1 ?_
  refine ww_iload_n (pc := 4) g.1 d_Mo_isMark_4 rfl (lv_at hl 1 rfl) ?_
  refine ww_ai (pc := 5) g (pz rfl (by decide)) rfl rfl d_Mo_isMark_5 h fun v5 h => ?_
  refine ww_iconst (pc := 6) g.1 (v := 1) d_Mo_isMark_6 (by decide) ?_
  refine ww_icmp_ne (pc := 7) (tgt := 30) g.1 d_Mo_isMark_7 (by decide) h (fun c h => ?_) (fun c h => ?_)
  · exact j_Mo_isMark_j30 g hR s ls (lv_sub hl [] rfl) h
  · refine ww_aload_n (pc := 10) g.1 d_Mo_isMark_10 rfl (lv_at hl 0 rfl) ?_
    refine ww_gR (pc := 11) g (k := 55) cl_Mo (pz rfl (by decide)) (by decide) (Or.inl kw_206) (f := 55) (t := 67) rfl rfl rfl d_Mo_isMark_11 ?_
    refine ww_aload_n (pc := 14) g.1 d_Mo_isMark_14 rfl (lv_at hl 0 rfl) ?_
    refine ww_gR (pc := 15) g (k := 49) cl_Mo (pz rfl (by decide)) (by decide) (Or.inl kw_89) (f := 49) (t := 62) rfl rfl rfl d_Mo_isMark_15 ?_
    refine ww_iload_n (pc := 18) g.1 d_Mo_isMark_18 rfl (lv_at hl 1 rfl) ?_
    refine ww_ai (pc := 19) g (pz rfl (by decide)) rfl rfl d_Mo_isMark_19 h fun v19 h => ?_
    refine ww_ab (pc := 20) g (pz rfl (by decide)) rfl rfl d_Mo_isMark_20 h fun v20 h => ?_
    refine ww_bipush (pc := 21) g.1 (v := 35) d_Mo_isMark_21 (by decide) ?_
    refine ww_icmp_ne (pc := 23) (tgt := 30) g.1 d_Mo_isMark_23 (by decide) h (fun c h => ?_) (fun c h => ?_)
    · exact j_Mo_isMark_j30 g hR s ls (lv_sub hl [] rfl) h
    · refine ww_iconst (pc := 26) g.1 (v := 1) d_Mo_isMark_26 (by decide) ?_
      refine ww_goto (pc := 27) (tgt := 31) g.1 d_Mo_isMark_27 (by decide) ?_
      exact ww_zretH (pc := 31) g h hR (Or.inr rfl) d_Mo_isMark_31

abbrev b_Va_add_ : ByteArray := prog_16_method_5_code
def y_Va_add_ : MethodName := ⟨R_Va, "add", "(LLuaMachineModel$Values;I)V"⟩
abbrev w_Va_add_ : List Cond := .code y_Va_add_ b_Va_add_ 3 none :: wA
theorem k_Va_add_ : Cond.code y_Va_add_ b_Va_add_ 3 none ∈ wA := kinm (show _ ∈ tables_1 from (List.mem_append_right _ (List.mem_append_right _ (List.mem_append_right _ (List.mem_append_right _ (List.mem_append_right _ (List.mem_append_right _ (List.mem_append_right _ (List.mem_append_right _ (List.mem_append_right _ (List.mem_append_right _ (List.mem_append_right _ (List.mem_append_right _ (List.mem_append_left _ (List.mem_of_getElem? (l := tables_1_13) (i := 28) (by decide +kernel)))))))))))))))) (by decide +kernel)
theorem d_Va_add__0 : decode b_Va_add_ 0 = .ok (.aload_n 0, 1) := by decide +kernel
theorem d_Va_add__1 : decode b_Va_add_ 1 = .ok (.aload_n 1, 1) := by decide +kernel
theorem d_Va_add__2 : decode b_Va_add_ 2 = .ok (.getfield 13, 3) := by decide +kernel
theorem d_Va_add__5 : decode b_Va_add_ 5 = .ok (.iload_n 2, 1) := by decide +kernel
theorem d_Va_add__6 : decode b_Va_add_ 6 = .ok (.baload, 1) := by decide +kernel
theorem d_Va_add__7 : decode b_Va_add_ 7 = .ok (.aload_n 1, 1) := by decide +kernel
theorem d_Va_add__8 : decode b_Va_add_ 8 = .ok (.getfield 17, 3) := by decide +kernel
theorem d_Va_add__11 : decode b_Va_add_ 11 = .ok (.iload_n 2, 1) := by decide +kernel
theorem d_Va_add__12 : decode b_Va_add_ 12 = .ok (.laload, 1) := by decide +kernel
theorem d_Va_add__13 : decode b_Va_add_ 13 = .ok (.invokevirtual 21, 3) := by decide +kernel
theorem d_Va_add__16 : decode b_Va_add_ 16 = .ok (.return_, 1) := by decide +kernel
theorem kw_209 : Cond.methodLink R_Va 21 y_Va_add ∈ wA := kinm (show _ ∈ tables_1 from (List.mem_append_right _ (List.mem_append_right _ (List.mem_append_right _ (List.mem_append_right _ (List.mem_append_right _ (List.mem_append_right _ (List.mem_append_right _ (List.mem_append_right _ (List.mem_append_right _ (List.mem_append_right _ (List.mem_append_right _ (List.mem_append_right _ (List.mem_append_left _ (List.mem_of_getElem? (l := tables_1_13) (i := 29) (by decide +kernel)))))))))))))))) (by decide +kernel)
theorem kw_210 : Cond.instanceMethod y_Va_add_ ∈ wA := kinm (show _ ∈ tables_1 from (List.mem_append_right _ (List.mem_append_right _ (List.mem_append_right _ (List.mem_append_right _ (List.mem_append_right _ (List.mem_append_right _ (List.mem_append_right _ (List.mem_append_right _ (List.mem_append_right _ (List.mem_append_right _ (List.mem_append_right _ (List.mem_append_right _ (List.mem_append_left _ (List.mem_of_getElem? (l := tables_1_13) (i := 26) (by decide +kernel)))))))))))))))) (by decide +kernel)
theorem kw_211 : Cond.selects R_Va y_Va_add_ y_Va_add_ ∈ wA := kinm (show _ ∈ tables_1 from (List.mem_append_right _ (List.mem_append_right _ (List.mem_append_right _ (List.mem_append_right _ (List.mem_append_right _ (List.mem_append_right _ (List.mem_append_right _ (List.mem_append_right _ (List.mem_append_right _ (List.mem_append_right _ (List.mem_append_right _ (List.mem_append_right _ (List.mem_append_left _ (List.mem_of_getElem? (l := tables_1_13) (i := 27) (by decide +kernel)))))))))))))))) (by decide +kernel)
def M_Va_add_ (l0r : Nat) (l0 : Int32) (l1r : Nat) (l1 : Int32) (l2 : Int32) : M (Unit) :=
  oB (oAI (l1r + 1) (lnI (l1r + 1)) l1 l2) fun v6 =>
  oB (oAL (l1r + 2) (lnI (l1r + 2)) l1 l2) fun v12 =>
  oB (M_Va_add l0r l0 v6 v12) fun _ =>
  oR ()

theorem cv_Va_add_ : CV y_Va_add_ b_Va_add_ 3 none 2 := ⟨kw_210, kw_211, kw_49, k_Va_add_, by decide +kernel⟩
theorem ct_Va_add_ {l : Launch} {P : PP} {q : PL} {s s' : S1} {l0r : Nat} {l0 : Int32} {l1r : Nat} {l1 : Int32} {l2 : Int32} (hp0 : VOK l0r l0) (hp1 : VOK l1r l1) {r : Unit} (h : M_Va_add_ l0r l0 l1r l1 l2 s = some (r, s')) : Ct l y_Va_add_ b_Va_add_ 3 none 1 23 P q s [.ref (q.1 l0r l0), .ref (q.1 l1r l1), .int l2] none q s' := by
  refine ct_of (by decide) (Nat.le_of_ble_eq_true rfl) fun X ls eP el g hR hl => ?_
  have hR : Rt X q ((r, s') : Unit × S1).2 none := hR
  have hl : lv_has ls 3 [(0, .ref (q.1 l0r l0)), (1, .ref (q.1 l1r l1)), (2, .int l2)] := hl
  generalize (r, s') = o at h hR
  unfold M_Va_add_ at h
  refine ww_aload_n (pc := 0) g.1 d_Va_add__0 rfl (lv_at hl 0 rfl) ?_
  refine ww_aload_n (pc := 1) g.1 d_Va_add__1 rfl (lv_at hl 1 rfl) ?_
  refine ww_gR (pc := 2) g (k := 0) (cl_Va hp1) (vok_p hp1).1 (by rw [(vok_f hp1).1.2.2]; decide) (Or.inl kw_45) (f := (128 * l1r + 0)) (t := l1r + 1) rfl (vok_f hp1).2.1.1 (vok_f hp1).2.1.2 d_Va_add__2 ?_
  refine ww_iload_n (pc := 5) g.1 d_Va_add__5 rfl (lv_at hl 2 rfl) ?_
  refine ww_ab (pc := 6) g (vok_p hp1).2.1 (vok_f hp1).2.2.2.2.1 (vok_n hp1).1 d_Va_add__6 h fun v6 h => ?_
  refine ww_aload_n (pc := 7) g.1 d_Va_add__7 rfl (lv_at hl 1 rfl) ?_
  refine ww_gR (pc := 8) g (k := 1) (cl_Va hp1) (vok_p hp1).1 (by rw [(vok_f hp1).1.2.2]; decide) (Or.inl kw_46) (f := (128 * l1r + 1)) (t := l1r + 2) rfl (vok_f hp1).2.2.1.1 (vok_f hp1).2.2.1.2 d_Va_add__8 ?_
  refine ww_iload_n (pc := 11) g.1 d_Va_add__11 rfl (lv_at hl 2 rfl) ?_
  refine ww_al (pc := 12) g (vok_p hp1).2.2 (vok_f hp1).2.2.2.2.2 (vok_n hp1).2 d_Va_add__12 h fun v12 h => ?_
  obtain ⟨v13, s, hc13, h⟩ := oB_of h
  refine ww_callV (pc := 13) (rest := []) g cv_Va_add (Or.inl kw_209) (cl_Va hp0) (vok_p hp0).1 (ct_Va_add hp0 hc13) ⟨by decide, by decide⟩ rfl hl.1 (Nat.le_of_ble_eq_true rfl) d_Va_add__13 rfl ?_
  refine ww_st (st' := []) rfl ?_
  exact ww_vretH (pc := 16) g h hR d_Va_add__16

abbrev b_Mo_sub : ByteArray := prog_14_method_96_code
def y_Mo_sub : MethodName := ⟨R_Mo, "sub", "()V"⟩
abbrev w_Mo_sub : List Cond := .code y_Mo_sub b_Mo_sub 8 none :: wA
set_option maxRecDepth 20000 in
theorem k_Mo_sub : Cond.code y_Mo_sub b_Mo_sub 8 none ∈ wA := kinm (show _ ∈ tables_1 from (List.mem_append_right _ (List.mem_append_right _ (List.mem_append_right _ (List.mem_append_right _ (List.mem_append_right _ (List.mem_append_right _ (List.mem_append_right _ (List.mem_append_right _ (List.mem_append_right _ (List.mem_append_right _ (List.mem_append_right _ (List.mem_append_right _ (List.mem_append_left _ (List.mem_of_getElem? (l := tables_1_13) (i := 33) rfl))))))))))))))) rfl
theorem d_Mo_sub_0 : decode b_Mo_sub 0 = .ok (.aload_n 0, 1) := by decide +kernel
theorem d_Mo_sub_1 : decode b_Mo_sub 1 = .ok (.iconst 0, 1) := by decide +kernel
theorem d_Mo_sub_2 : decode b_Mo_sub 2 = .ok (.iconst 4, 1) := by decide +kernel
theorem d_Mo_sub_3 : decode b_Mo_sub 3 = .ok (.invokevirtual 833, 3) := by decide +kernel
theorem d_Mo_sub_6 : decode b_Mo_sub 6 = .ok (.ifCond .eq 19, 3) := by decide +kernel
theorem d_Mo_sub_9 : decode b_Mo_sub 9 = .ok (.aload_n 0, 1) := by decide +kernel
theorem d_Mo_sub_10 : decode b_Mo_sub 10 = .ok (.iconst 1, 1) := by decide +kernel
theorem d_Mo_sub_11 : decode b_Mo_sub 11 = .ok (.invokevirtual 856, 3) := by decide +kernel
theorem d_Mo_sub_14 : decode b_Mo_sub 14 = .ok (.ifCond .eq 11, 3) := by decide +kernel
theorem d_Mo_sub_17 : decode b_Mo_sub 17 = .ok (.aload_n 0, 1) := by decide +kernel
theorem d_Mo_sub_18 : decode b_Mo_sub 18 = .ok (.iconst 2, 1) := by decide +kernel
theorem d_Mo_sub_19 : decode b_Mo_sub 19 = .ok (.invokevirtual 856, 3) := by decide +kernel
theorem d_Mo_sub_22 : decode b_Mo_sub 22 = .ok (.ifCond .ne 10, 3) := by decide +kernel
theorem d_Mo_sub_25 : decode b_Mo_sub 25 = .ok (.aload_n 0, 1) := by decide +kernel
theorem d_Mo_sub_26 : decode b_Mo_sub 26 = .ok (.iconst 3, 1) := by decide +kernel
theorem d_Mo_sub_27 : decode b_Mo_sub 27 = .ok (.invokevirtual 517, 3) := by decide +kernel
theorem d_Mo_sub_30 : decode b_Mo_sub 30 = .ok (.pop, 1) := by decide +kernel
theorem d_Mo_sub_31 : decode b_Mo_sub 31 = .ok (.return_, 1) := by decide +kernel
theorem d_Mo_sub_32 : decode b_Mo_sub 32 = .ok (.aload_n 0, 1) := by decide +kernel
theorem d_Mo_sub_33 : decode b_Mo_sub 33 = .ok (.iconst 0, 1) := by decide +kernel
theorem d_Mo_sub_34 : decode b_Mo_sub 34 = .ok (.invokevirtual 807, 3) := by decide +kernel
theorem d_Mo_sub_37 : decode b_Mo_sub 37 = .ok (.l2i, 1) := by decide +kernel
theorem d_Mo_sub_38 : decode b_Mo_sub 38 = .ok (.istore_n 1, 1) := by decide +kernel
theorem d_Mo_sub_39 : decode b_Mo_sub 39 = .ok (.aload_n 0, 1) := by decide +kernel
theorem d_Mo_sub_40 : decode b_Mo_sub 40 = .ok (.getfield 171, 3) := by decide +kernel
theorem d_Mo_sub_43 : decode b_Mo_sub 43 = .ok (.iload_n 1, 1) := by decide +kernel
theorem d_Mo_sub_44 : decode b_Mo_sub 44 = .ok (.iaload, 1) := by decide +kernel
theorem d_Mo_sub_45 : decode b_Mo_sub 45 = .ok (.istore_n 2, 1) := by decide +kernel
theorem d_Mo_sub_46 : decode b_Mo_sub 46 = .ok (.lconst 1, 1) := by decide +kernel
theorem d_Mo_sub_47 : decode b_Mo_sub 47 = .ok (.aload_n 0, 1) := by decide +kernel
theorem d_Mo_sub_48 : decode b_Mo_sub 48 = .ok (.iconst 1, 1) := by decide +kernel
theorem d_Mo_sub_49 : decode b_Mo_sub 49 = .ok (.iconst 0, 1) := by decide +kernel
theorem d_Mo_sub_50 : decode b_Mo_sub 50 = .ok (.invokevirtual 833, 3) := by decide +kernel
theorem d_Mo_sub_53 : decode b_Mo_sub 53 = .ok (.ifCond .eq 7, 3) := by decide +kernel
theorem d_Mo_sub_56 : decode b_Mo_sub 56 = .ok (.lconst 1, 1) := by decide +kernel
theorem d_Mo_sub_57 : decode b_Mo_sub 57 = .ok (.goto 8, 3) := by decide +kernel
theorem d_Mo_sub_60 : decode b_Mo_sub 60 = .ok (.aload_n 0, 1) := by decide +kernel
theorem d_Mo_sub_61 : decode b_Mo_sub 61 = .ok (.iconst 1, 1) := by decide +kernel
theorem d_Mo_sub_62 : decode b_Mo_sub 62 = .ok (.invokevirtual 807, 3) := by decide +kernel
theorem d_Mo_sub_65 : decode b_Mo_sub 65 = .ok (.iload_n 2, 1) := by decide +kernel
theorem d_Mo_sub_66 : decode b_Mo_sub 66 = .ok (.invokestatic 859, 3) := by decide +kernel
theorem d_Mo_sub_69 : decode b_Mo_sub 69 = .ok (.invokestatic 863, 3) := by decide +kernel
theorem d_Mo_sub_72 : decode b_Mo_sub 72 = .ok (.lstore_n 3, 1) := by decide +kernel
theorem d_Mo_sub_73 : decode b_Mo_sub 73 = .ok (.iload_n 2, 1) := by decide +kernel
theorem d_Mo_sub_74 : decode b_Mo_sub 74 = .ok (.i2l, 1) := by decide +kernel
theorem d_Mo_sub_75 : decode b_Mo_sub 75 = .ok (.aload_n 0, 1) := by decide +kernel
theorem d_Mo_sub_76 : decode b_Mo_sub 76 = .ok (.iconst 2, 1) := by decide +kernel
theorem d_Mo_sub_77 : decode b_Mo_sub 77 = .ok (.iconst 0, 1) := by decide +kernel
theorem d_Mo_sub_78 : decode b_Mo_sub 78 = .ok (.invokevirtual 833, 3) := by decide +kernel
theorem d_Mo_sub_81 : decode b_Mo_sub 81 = .ok (.ifCond .eq 9, 3) := by decide +kernel
theorem d_Mo_sub_84 : decode b_Mo_sub 84 = .ok (.ldc2_w 722, 3) := by decide +kernel
theorem d_Mo_sub_87 : decode b_Mo_sub 87 = .ok (.goto 8, 3) := by decide +kernel
theorem d_Mo_sub_90 : decode b_Mo_sub 90 = .ok (.aload_n 0, 1) := by decide +kernel
theorem d_Mo_sub_91 : decode b_Mo_sub 91 = .ok (.iconst 2, 1) := by decide +kernel
theorem d_Mo_sub_92 : decode b_Mo_sub 92 = .ok (.invokevirtual 807, 3) := by decide +kernel
theorem d_Mo_sub_95 : decode b_Mo_sub 95 = .ok (.iload_n 2, 1) := by decide +kernel
theorem d_Mo_sub_96 : decode b_Mo_sub 96 = .ok (.invokestatic 859, 3) := by decide +kernel
theorem d_Mo_sub_99 : decode b_Mo_sub 99 = .ok (.invokestatic 865, 3) := by decide +kernel
theorem d_Mo_sub_102 : decode b_Mo_sub 102 = .ok (.lstore 5, 2) := by decide +kernel
theorem d_Mo_sub_104 : decode b_Mo_sub 104 = .ok (.lload_n 3, 1) := by decide +kernel
theorem d_Mo_sub_105 : decode b_Mo_sub 105 = .ok (.lload 5, 2) := by decide +kernel
theorem d_Mo_sub_107 : decode b_Mo_sub 107 = .ok (.lcmp, 1) := by decide +kernel
theorem d_Mo_sub_108 : decode b_Mo_sub 108 = .ok (.ifCond .le 16, 3) := by decide +kernel
theorem d_Mo_sub_111 : decode b_Mo_sub 111 = .ok (.aload_n 0, 1) := by decide +kernel
theorem d_Mo_sub_112 : decode b_Mo_sub 112 = .ok (.aload_n 0, 1) := by decide +kernel
theorem d_Mo_sub_113 : decode b_Mo_sub 113 = .ok (.getfield 187, 3) := by decide +kernel
theorem d_Mo_sub_116 : decode b_Mo_sub 116 = .ok (.iconst 0, 1) := by decide +kernel
theorem d_Mo_sub_117 : decode b_Mo_sub 117 = .ok (.iconst 0, 1) := by decide +kernel
theorem d_Mo_sub_118 : decode b_Mo_sub 118 = .ok (.invokevirtual 655, 3) := by decide +kernel
theorem d_Mo_sub_121 : decode b_Mo_sub 121 = .ok (.goto 29, 3) := by decide +kernel
theorem d_Mo_sub_124 : decode b_Mo_sub 124 = .ok (.aload_n 0, 1) := by decide +kernel
theorem d_Mo_sub_125 : decode b_Mo_sub 125 = .ok (.aload_n 0, 1) := by decide +kernel
theorem d_Mo_sub_126 : decode b_Mo_sub 126 = .ok (.getfield 187, 3) := by decide +kernel
theorem d_Mo_sub_129 : decode b_Mo_sub 129 = .ok (.aload_n 0, 1) := by decide +kernel
theorem d_Mo_sub_130 : decode b_Mo_sub 130 = .ok (.getfield 168, 3) := by decide +kernel
theorem d_Mo_sub_133 : decode b_Mo_sub 133 = .ok (.iload_n 1, 1) := by decide +kernel
theorem d_Mo_sub_134 : decode b_Mo_sub 134 = .ok (.iaload, 1) := by decide +kernel
theorem d_Mo_sub_135 : decode b_Mo_sub 135 = .ok (.lload_n 3, 1) := by decide +kernel
theorem d_Mo_sub_136 : decode b_Mo_sub 136 = .ok (.l2i, 1) := by decide +kernel
theorem d_Mo_sub_137 : decode b_Mo_sub 137 = .ok (.iadd, 1) := by decide +kernel
theorem d_Mo_sub_138 : decode b_Mo_sub 138 = .ok (.iconst 1, 1) := by decide +kernel
theorem d_Mo_sub_139 : decode b_Mo_sub 139 = .ok (.isub, 1) := by decide +kernel
theorem d_Mo_sub_140 : decode b_Mo_sub 140 = .ok (.lload 5, 2) := by decide +kernel
theorem d_Mo_sub_142 : decode b_Mo_sub 142 = .ok (.lload_n 3, 1) := by decide +kernel
theorem d_Mo_sub_143 : decode b_Mo_sub 143 = .ok (.lsub, 1) := by decide +kernel
theorem d_Mo_sub_144 : decode b_Mo_sub 144 = .ok (.lconst 1, 1) := by decide +kernel
theorem d_Mo_sub_145 : decode b_Mo_sub 145 = .ok (.ladd, 1) := by decide +kernel
theorem d_Mo_sub_146 : decode b_Mo_sub 146 = .ok (.l2i, 1) := by decide +kernel
theorem d_Mo_sub_147 : decode b_Mo_sub 147 = .ok (.invokevirtual 655, 3) := by decide +kernel
theorem d_Mo_sub_150 : decode b_Mo_sub 150 = .ok (.istore 7, 2) := by decide +kernel
theorem d_Mo_sub_152 : decode b_Mo_sub 152 = .ok (.iload 7, 2) := by decide +kernel
theorem d_Mo_sub_154 : decode b_Mo_sub 154 = .ok (.ifCond .lt 11, 3) := by decide +kernel
theorem d_Mo_sub_157 : decode b_Mo_sub 157 = .ok (.aload_n 0, 1) := by decide +kernel
theorem d_Mo_sub_158 : decode b_Mo_sub 158 = .ok (.iconst 4, 1) := by decide +kernel
theorem d_Mo_sub_159 : decode b_Mo_sub 159 = .ok (.iload 7, 2) := by decide +kernel
theorem d_Mo_sub_161 : decode b_Mo_sub 161 = .ok (.i2l, 1) := by decide +kernel
theorem d_Mo_sub_162 : decode b_Mo_sub 162 = .ok (.invokevirtual 804, 3) := by decide +kernel
theorem d_Mo_sub_165 : decode b_Mo_sub 165 = .ok (.return_, 1) := by decide +kernel
abbrev b_Mo_integer : ByteArray := prog_14_method_95_code
def y_Mo_integer : MethodName := ⟨R_Mo, "integer", "(I)Z"⟩
abbrev w_Mo_integer : List Cond := .code y_Mo_integer b_Mo_integer 2 (some .boolean) :: wA
theorem k_Mo_integer : Cond.code y_Mo_integer b_Mo_integer 2 (some .boolean) ∈ wA := kinm (show _ ∈ tables_1 from (List.mem_append_right _ (List.mem_append_right _ (List.mem_append_right _ (List.mem_append_right _ (List.mem_append_right _ (List.mem_append_right _ (List.mem_append_right _ (List.mem_append_right _ (List.mem_append_right _ (List.mem_append_right _ (List.mem_append_right _ (List.mem_append_right _ (List.mem_append_left _ (List.mem_of_getElem? (l := tables_1_13) (i := 37) (by decide +kernel)))))))))))))))) (by decide +kernel)
theorem d_Mo_integer_0 : decode b_Mo_integer 0 = .ok (.aload_n 0, 1) := by decide +kernel
theorem d_Mo_integer_1 : decode b_Mo_integer 1 = .ok (.iload_n 1, 1) := by decide +kernel
theorem d_Mo_integer_2 : decode b_Mo_integer 2 = .ok (.iconst 3, 1) := by decide +kernel
theorem d_Mo_integer_3 : decode b_Mo_integer 3 = .ok (.invokevirtual 833, 3) := by decide +kernel
theorem d_Mo_integer_6 : decode b_Mo_integer 6 = .ok (.ifCond .ne 12, 3) := by decide +kernel
theorem d_Mo_integer_9 : decode b_Mo_integer 9 = .ok (.aload_n 0, 1) := by decide +kernel
theorem d_Mo_integer_10 : decode b_Mo_integer 10 = .ok (.iload_n 1, 1) := by decide +kernel
theorem d_Mo_integer_11 : decode b_Mo_integer 11 = .ok (.iconst 0, 1) := by decide +kernel
theorem d_Mo_integer_12 : decode b_Mo_integer 12 = .ok (.invokevirtual 833, 3) := by decide +kernel
theorem d_Mo_integer_15 : decode b_Mo_integer 15 = .ok (.ifCond .eq 7, 3) := by decide +kernel
theorem d_Mo_integer_18 : decode b_Mo_integer 18 = .ok (.iconst 1, 1) := by decide +kernel
theorem d_Mo_integer_19 : decode b_Mo_integer 19 = .ok (.goto 4, 3) := by decide +kernel
theorem d_Mo_integer_22 : decode b_Mo_integer 22 = .ok (.iconst 0, 1) := by decide +kernel
theorem d_Mo_integer_23 : decode b_Mo_integer 23 = .ok (.ireturn, 1) := by decide +kernel
theorem kw_212 : Cond.methodLink R_Mo 833 y_Mo_is ∈ wA := kinm (show _ ∈ tables_1 from (List.mem_append_right _ (List.mem_append_right _ (List.mem_append_right _ (List.mem_append_right _ (List.mem_append_right _ (List.mem_append_right _ (List.mem_append_right _ (List.mem_append_right _ (List.mem_append_right _ (List.mem_append_right _ (List.mem_append_right _ (List.mem_append_left _ (List.mem_of_getElem? (l := tables_1_12) (i := 237) (by decide +kernel))))))))))))))) (by decide +kernel)
theorem kw_213 : Cond.instanceMethod y_Mo_integer ∈ wA := kinm (show _ ∈ tables_1 from (List.mem_append_right _ (List.mem_append_right _ (List.mem_append_right _ (List.mem_append_right _ (List.mem_append_right _ (List.mem_append_right _ (List.mem_append_right _ (List.mem_append_right _ (List.mem_append_right _ (List.mem_append_right _ (List.mem_append_right _ (List.mem_append_right _ (List.mem_append_left _ (List.mem_of_getElem? (l := tables_1_13) (i := 36) (by decide +kernel)))))))))))))))) (by decide +kernel)
theorem kw_214 : Cond.selects R_Mo y_Mo_integer y_Mo_integer ∈ wA := kinp 182 (by decide +kernel) (by decide +kernel)
def M_Mo_integer_j18  : M (Int32) :=
  oR 1

def M_Mo_integer (l1 : Int32) : M (Int32) :=
  oB (M_Mo_is l1 3) fun v3 =>
  oC (v3 = 0)
    (oB (M_Mo_is l1 0) fun v12 =>
    oC (v12 = 0)
      (oR 0)
      (M_Mo_integer_j18))
    (M_Mo_integer_j18)

theorem cv_Mo_integer : CV y_Mo_integer b_Mo_integer 2 (some .boolean) 1 := ⟨kw_213, kw_214, kw_17, k_Mo_integer, by decide +kernel⟩
theorem j_Mo_integer_j18 {X : Cx} {q : PL} (g : Gd X y_Mo_integer b_Mo_integer 2 (some .boolean) 2 43 R_Mo) {o : (Int32) × S1} (hR : Rt X q o.2 (some (.int o.1)))  (s : S1) (ls : Array Slot) (hl : lv_has ls 2 []) (h : M_Mo_integer_j18 s = some o) : WW X q s 18 ls [] := by
  unfold M_Mo_integer_j18 at h
  refine ww_iconst (pc := 18) g.1 (v := 1) d_Mo_integer_18 (by decide) ?_
  refine ww_goto (pc := 19) (tgt := 23) g.1 d_Mo_integer_19 (by decide) ?_
  exact ww_zretH (pc := 23) g h hR (Or.inr rfl) d_Mo_integer_23

theorem ct_Mo_integer {l : Launch} {P : PP} {q : PL} {s s' : S1} {l1 : Int32} {r : Int32} (h : M_Mo_integer l1 s = some (r, s')) : Ct l y_Mo_integer b_Mo_integer 2 (some .boolean) 2 43 P q s [.ref (q.1 0 0), .int l1] (some (.int r)) q s' := by
  refine ct_of (by decide) (Nat.le_of_ble_eq_true rfl) fun X ls eP el g hR hl => ?_
  have hR : Rt X q ((r, s') : Int32 × S1).2 (some (.int ((r, s') : Int32 × S1).1)) := hR
  have hl : lv_has ls 2 [(0, .ref (q.1 0 0)), (1, .int l1)] := hl
  generalize (r, s') = o at h hR
  unfold M_Mo_integer at h
  refine ww_aload_n (pc := 0) g.1 d_Mo_integer_0 rfl (lv_at hl 0 rfl) ?_
  refine ww_iload_n (pc := 1) g.1 d_Mo_integer_1 rfl (lv_at hl 1 rfl) ?_
  refine ww_iconst (pc := 2) g.1 (v := 3) d_Mo_integer_2 (by decide) ?_
  obtain ⟨v3, s, hc3, h⟩ := oB_of h
  refine ww_callV (pc := 3) (rest := []) g cv_Mo_is (Or.inl kw_212) cl_Mo (pz rfl (by decide)) (ct_Mo_is hc3) ⟨by decide, by decide⟩ rfl hl.1 (Nat.le_of_ble_eq_true rfl) d_Mo_integer_3 rfl ?_
  refine ww_st (st' := [.int v3]) rfl ?_
  refine ww_if_ne (pc := 6) (tgt := 18) g.1 d_Mo_integer_6 (by decide) h (fun c h => ?_) (fun c h => ?_)
  · exact j_Mo_integer_j18 g hR s ls (lv_sub hl [] rfl) h
  · refine ww_aload_n (pc := 9) g.1 d_Mo_integer_9 rfl (lv_at hl 0 rfl) ?_
    refine ww_iload_n (pc := 10) g.1 d_Mo_integer_10 rfl (lv_at hl 1 rfl) ?_
    refine ww_iconst (pc := 11) g.1 (v := 0) d_Mo_integer_11 (by decide) ?_
    obtain ⟨v12, s, hc12, h⟩ := oB_of h
    refine ww_callV (pc := 12) (rest := []) g cv_Mo_is (Or.inl kw_212) cl_Mo (pz rfl (by decide)) (ct_Mo_is hc12) ⟨by decide, by decide⟩ rfl hl.1 (Nat.le_of_ble_eq_true rfl) d_Mo_integer_12 rfl ?_
    refine ww_st (st' := [.int v12]) rfl ?_
    refine ww_if_eq (pc := 15) (tgt := 22) g.1 d_Mo_integer_15 (by decide) h (fun c h => ?_) (fun c h => ?_)
    · refine ww_iconst (pc := 22) g.1 (v := 0) d_Mo_integer_22 (by decide) ?_
      exact ww_zretH (pc := 23) g h hR (Or.inl rfl) d_Mo_integer_23
    · exact j_Mo_integer_j18 g hR s ls (lv_sub hl [] rfl) h

abbrev b_Mo_from : ByteArray := prog_14_method_94_code
def y_Mo_from : MethodName := ⟨R_Mo, "from", "(JI)J"⟩
abbrev w_Mo_from : List Cond := .code y_Mo_from b_Mo_from 3 (some .long) :: wA
theorem k_Mo_from : Cond.code y_Mo_from b_Mo_from 3 (some .long) ∈ wA := kinm (show _ ∈ tables_1 from (List.mem_append_right _ (List.mem_append_right _ (List.mem_append_right _ (List.mem_append_right _ (List.mem_append_right _ (List.mem_append_right _ (List.mem_append_right _ (List.mem_append_right _ (List.mem_append_right _ (List.mem_append_right _ (List.mem_append_right _ (List.mem_append_right _ (List.mem_append_left _ (List.mem_of_getElem? (l := tables_1_13) (i := 40) (by decide +kernel)))))))))))))))) (by decide +kernel)
theorem d_Mo_from_0 : decode b_Mo_from 0 = .ok (.lload_n 0, 1) := by decide +kernel
theorem d_Mo_from_1 : decode b_Mo_from 1 = .ok (.lconst 0, 1) := by decide +kernel
theorem d_Mo_from_2 : decode b_Mo_from 2 = .ok (.lcmp, 1) := by decide +kernel
theorem d_Mo_from_3 : decode b_Mo_from 3 = .ok (.ifCond .lt 7, 3) := by decide +kernel
theorem d_Mo_from_6 : decode b_Mo_from 6 = .ok (.lload_n 0, 1) := by decide +kernel
theorem d_Mo_from_7 : decode b_Mo_from 7 = .ok (.goto 21, 3) := by decide +kernel
theorem d_Mo_from_10 : decode b_Mo_from 10 = .ok (.lload_n 0, 1) := by decide +kernel
theorem d_Mo_from_11 : decode b_Mo_from 11 = .ok (.iload_n 2, 1) := by decide +kernel
theorem d_Mo_from_12 : decode b_Mo_from 12 = .ok (.i2l, 1) := by decide +kernel
theorem d_Mo_from_13 : decode b_Mo_from 13 = .ok (.lneg, 1) := by decide +kernel
theorem d_Mo_from_14 : decode b_Mo_from 14 = .ok (.lcmp, 1) := by decide +kernel
theorem d_Mo_from_15 : decode b_Mo_from 15 = .ok (.ifCond .ge 7, 3) := by decide +kernel
theorem d_Mo_from_18 : decode b_Mo_from 18 = .ok (.lconst 0, 1) := by decide +kernel
theorem d_Mo_from_19 : decode b_Mo_from 19 = .ok (.goto 9, 3) := by decide +kernel
theorem d_Mo_from_22 : decode b_Mo_from 22 = .ok (.iload_n 2, 1) := by decide +kernel
theorem d_Mo_from_23 : decode b_Mo_from 23 = .ok (.i2l, 1) := by decide +kernel
theorem d_Mo_from_24 : decode b_Mo_from 24 = .ok (.lload_n 0, 1) := by decide +kernel
theorem d_Mo_from_25 : decode b_Mo_from 25 = .ok (.ladd, 1) := by decide +kernel
theorem d_Mo_from_26 : decode b_Mo_from 26 = .ok (.lconst 1, 1) := by decide +kernel
theorem d_Mo_from_27 : decode b_Mo_from 27 = .ok (.ladd, 1) := by decide +kernel
theorem d_Mo_from_28 : decode b_Mo_from 28 = .ok (.lreturn, 1) := by decide +kernel
theorem kw_215 : Cond.static y_Mo_from ∈ wA := kinm (show _ ∈ tables_1 from (List.mem_append_right _ (List.mem_append_right _ (List.mem_append_right _ (List.mem_append_right _ (List.mem_append_right _ (List.mem_append_right _ (List.mem_append_right _ (List.mem_append_right _ (List.mem_append_right _ (List.mem_append_right _ (List.mem_append_right _ (List.mem_append_right _ (List.mem_append_left _ (List.mem_of_getElem? (l := tables_1_13) (i := 39) (by decide +kernel)))))))))))))))) (by decide +kernel)
def M_Mo_from (l0 : Int64) (l2 : Int32) : M (Int64) :=
  oC ((lg_cmp l0 0) < 0)
    (oC (0 ≤ (lg_cmp l0 (-l2.toInt64)))
      (oR ((l2.toInt64 + l0) + 1))
      (oR 0))
    (oR l0)

theorem cs_Mo_from : CS y_Mo_from b_Mo_from 3 (some .long) 2 := ⟨kw_215, kw_17, k_Mo_from, by decide +kernel⟩
theorem ct_Mo_from {l : Launch} {P : PP} {q : PL} {s s' : S1} {l0 : Int64} {l2 : Int32} {r : Int64} (h : M_Mo_from l0 l2 s = some (r, s')) : Ct l y_Mo_from b_Mo_from 3 (some .long) 0 0 P q s [.long l0, .int l2] (some (.long r)) q s' := by
  refine ct_of (by decide) (Nat.le_of_ble_eq_true rfl) fun X ls eP el g hR hl => ?_
  have hR : Rt X q ((r, s') : Int64 × S1).2 (some (.long ((r, s') : Int64 × S1).1)) := hR
  have hl : lv_has ls 3 [(0, .long l0), (2, .int l2)] := hl
  generalize (r, s') = o at h hR
  unfold M_Mo_from at h
  refine ww_lload_n (pc := 0) g.1 d_Mo_from_0 rfl (lv_at hl 0 rfl) ?_
  refine ww_lconst (pc := 1) g.1 (v := 0) d_Mo_from_1 (by decide) ?_
  refine ww_lcmp (pc := 2) g.1 d_Mo_from_2 ?_
  refine ww_if_lt (pc := 3) (tgt := 10) g.1 d_Mo_from_3 (by decide) h (fun c h => ?_) (fun c h => ?_)
  · refine ww_lload_n (pc := 10) g.1 d_Mo_from_10 rfl (lv_at hl 0 rfl) ?_
    refine ww_iload_n (pc := 11) g.1 d_Mo_from_11 rfl (lv_at hl 1 rfl) ?_
    refine ww_i2l (pc := 12) g.1 (v := l2.toInt64) d_Mo_from_12 rfl ?_
    refine ww_lneg (pc := 13) g.1 d_Mo_from_13 ?_
    refine ww_lcmp (pc := 14) g.1 d_Mo_from_14 ?_
    refine ww_if_ge (pc := 15) (tgt := 22) g.1 d_Mo_from_15 (by decide) h (fun c h => ?_) (fun c h => ?_)
    · refine ww_iload_n (pc := 22) g.1 d_Mo_from_22 rfl (lv_at hl 1 rfl) ?_
      refine ww_i2l (pc := 23) g.1 (v := l2.toInt64) d_Mo_from_23 rfl ?_
      refine ww_lload_n (pc := 24) g.1 d_Mo_from_24 rfl (lv_at hl 0 rfl) ?_
      refine ww_ladd (pc := 25) g.1 d_Mo_from_25 ?_
      refine ww_lconst (pc := 26) g.1 (v := 1) d_Mo_from_26 (by decide) ?_
      refine ww_ladd (pc := 27) g.1 d_Mo_from_27 ?_
      exact ww_lretH (pc := 28) g h hR d_Mo_from_28
    · refine ww_lconst (pc := 18) g.1 (v := 0) d_Mo_from_18 (by decide) ?_
      refine ww_goto (pc := 19) (tgt := 28) g.1 d_Mo_from_19 (by decide) ?_
      exact ww_lretH (pc := 28) g h hR d_Mo_from_28
  · refine ww_lload_n (pc := 6) g.1 d_Mo_from_6 rfl (lv_at hl 0 rfl) ?_
    refine ww_goto (pc := 7) (tgt := 28) g.1 d_Mo_from_7 (by decide) ?_
    exact ww_lretH (pc := 28) g h hR d_Mo_from_28

