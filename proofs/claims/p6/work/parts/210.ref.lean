abbrev b_Mo_byteOf : ByteArray := prog_14_method_97_code
def y_Mo_byteOf : MethodName := ⟨R_Mo, "byteOf", "()V"⟩
abbrev w_Mo_byteOf : List Cond := .code y_Mo_byteOf b_Mo_byteOf 4 none :: wA
theorem k_Mo_byteOf : Cond.code y_Mo_byteOf b_Mo_byteOf 4 none ∈ wA := kinm (show _ ∈ tables_1 from (List.mem_append_right _ (List.mem_append_right _ (List.mem_append_right _ (List.mem_append_right _ (List.mem_append_right _ (List.mem_append_right _ (List.mem_append_right _ (List.mem_append_right _ (List.mem_append_right _ (List.mem_append_right _ (List.mem_append_right _ (List.mem_append_right _ (List.mem_append_left _ (List.mem_of_getElem? (l := tables_1_13) (i := 46) (by decide +kernel)))))))))))))))) (by decide +kernel)
theorem d_Mo_byteOf_0 : decode b_Mo_byteOf 0 = .ok (.aload_n 0, 1) := by decide +kernel
theorem d_Mo_byteOf_1 : decode b_Mo_byteOf 1 = .ok (.iconst 0, 1) := by decide +kernel
theorem d_Mo_byteOf_2 : decode b_Mo_byteOf 2 = .ok (.iconst 4, 1) := by decide +kernel
theorem d_Mo_byteOf_3 : decode b_Mo_byteOf 3 = .ok (.invokevirtual 833, 3) := by decide +kernel
theorem d_Mo_byteOf_6 : decode b_Mo_byteOf 6 = .ok (.ifCond .eq 11, 3) := by decide +kernel
theorem d_Mo_byteOf_9 : decode b_Mo_byteOf 9 = .ok (.aload_n 0, 1) := by decide +kernel
theorem d_Mo_byteOf_10 : decode b_Mo_byteOf 10 = .ok (.iconst 1, 1) := by decide +kernel
theorem d_Mo_byteOf_11 : decode b_Mo_byteOf 11 = .ok (.invokevirtual 856, 3) := by decide +kernel
theorem d_Mo_byteOf_14 : decode b_Mo_byteOf 14 = .ok (.ifCond .ne 10, 3) := by decide +kernel
theorem d_Mo_byteOf_17 : decode b_Mo_byteOf 17 = .ok (.aload_n 0, 1) := by decide +kernel
theorem d_Mo_byteOf_18 : decode b_Mo_byteOf 18 = .ok (.iconst 3, 1) := by decide +kernel
theorem d_Mo_byteOf_19 : decode b_Mo_byteOf 19 = .ok (.invokevirtual 517, 3) := by decide +kernel
theorem d_Mo_byteOf_22 : decode b_Mo_byteOf 22 = .ok (.pop, 1) := by decide +kernel
theorem d_Mo_byteOf_23 : decode b_Mo_byteOf 23 = .ok (.return_, 1) := by decide +kernel
theorem d_Mo_byteOf_24 : decode b_Mo_byteOf 24 = .ok (.aload_n 0, 1) := by decide +kernel
theorem d_Mo_byteOf_25 : decode b_Mo_byteOf 25 = .ok (.iconst 0, 1) := by decide +kernel
theorem d_Mo_byteOf_26 : decode b_Mo_byteOf 26 = .ok (.invokevirtual 807, 3) := by decide +kernel
theorem d_Mo_byteOf_29 : decode b_Mo_byteOf 29 = .ok (.l2i, 1) := by decide +kernel
theorem d_Mo_byteOf_30 : decode b_Mo_byteOf 30 = .ok (.istore_n 1, 1) := by decide +kernel
theorem d_Mo_byteOf_31 : decode b_Mo_byteOf 31 = .ok (.aload_n 0, 1) := by decide +kernel
theorem d_Mo_byteOf_32 : decode b_Mo_byteOf 32 = .ok (.iconst 1, 1) := by decide +kernel
theorem d_Mo_byteOf_33 : decode b_Mo_byteOf 33 = .ok (.iconst 0, 1) := by decide +kernel
theorem d_Mo_byteOf_34 : decode b_Mo_byteOf 34 = .ok (.invokevirtual 833, 3) := by decide +kernel
theorem d_Mo_byteOf_37 : decode b_Mo_byteOf 37 = .ok (.ifCond .eq 7, 3) := by decide +kernel
theorem d_Mo_byteOf_40 : decode b_Mo_byteOf 40 = .ok (.lconst 1, 1) := by decide +kernel
theorem d_Mo_byteOf_41 : decode b_Mo_byteOf 41 = .ok (.goto 8, 3) := by decide +kernel
theorem d_Mo_byteOf_44 : decode b_Mo_byteOf 44 = .ok (.aload_n 0, 1) := by decide +kernel
theorem d_Mo_byteOf_45 : decode b_Mo_byteOf 45 = .ok (.iconst 1, 1) := by decide +kernel
theorem d_Mo_byteOf_46 : decode b_Mo_byteOf 46 = .ok (.invokevirtual 807, 3) := by decide +kernel
theorem d_Mo_byteOf_49 : decode b_Mo_byteOf 49 = .ok (.aload_n 0, 1) := by decide +kernel
theorem d_Mo_byteOf_50 : decode b_Mo_byteOf 50 = .ok (.getfield 171, 3) := by decide +kernel
theorem d_Mo_byteOf_53 : decode b_Mo_byteOf 53 = .ok (.iload_n 1, 1) := by decide +kernel
theorem d_Mo_byteOf_54 : decode b_Mo_byteOf 54 = .ok (.iaload, 1) := by decide +kernel
theorem d_Mo_byteOf_55 : decode b_Mo_byteOf 55 = .ok (.invokestatic 859, 3) := by decide +kernel
theorem d_Mo_byteOf_58 : decode b_Mo_byteOf 58 = .ok (.lstore_n 2, 1) := by decide +kernel
theorem d_Mo_byteOf_59 : decode b_Mo_byteOf 59 = .ok (.lload_n 2, 1) := by decide +kernel
theorem d_Mo_byteOf_60 : decode b_Mo_byteOf 60 = .ok (.lconst 1, 1) := by decide +kernel
theorem d_Mo_byteOf_61 : decode b_Mo_byteOf 61 = .ok (.lcmp, 1) := by decide +kernel
theorem d_Mo_byteOf_62 : decode b_Mo_byteOf 62 = .ok (.ifCond .lt 15, 3) := by decide +kernel
theorem d_Mo_byteOf_65 : decode b_Mo_byteOf 65 = .ok (.lload_n 2, 1) := by decide +kernel
theorem d_Mo_byteOf_66 : decode b_Mo_byteOf 66 = .ok (.aload_n 0, 1) := by decide +kernel
theorem d_Mo_byteOf_67 : decode b_Mo_byteOf 67 = .ok (.getfield 171, 3) := by decide +kernel
theorem d_Mo_byteOf_70 : decode b_Mo_byteOf 70 = .ok (.iload_n 1, 1) := by decide +kernel
theorem d_Mo_byteOf_71 : decode b_Mo_byteOf 71 = .ok (.iaload, 1) := by decide +kernel
theorem d_Mo_byteOf_72 : decode b_Mo_byteOf 72 = .ok (.i2l, 1) := by decide +kernel
theorem d_Mo_byteOf_73 : decode b_Mo_byteOf 73 = .ok (.lcmp, 1) := by decide +kernel
theorem d_Mo_byteOf_74 : decode b_Mo_byteOf 74 = .ok (.ifCond .le 12, 3) := by decide +kernel
theorem d_Mo_byteOf_77 : decode b_Mo_byteOf 77 = .ok (.aload_n 0, 1) := by decide +kernel
theorem d_Mo_byteOf_78 : decode b_Mo_byteOf 78 = .ok (.iconst 0, 1) := by decide +kernel
theorem d_Mo_byteOf_79 : decode b_Mo_byteOf 79 = .ok (.lconst 0, 1) := by decide +kernel
theorem d_Mo_byteOf_80 : decode b_Mo_byteOf 80 = .ok (.invokevirtual 804, 3) := by decide +kernel
theorem d_Mo_byteOf_83 : decode b_Mo_byteOf 83 = .ok (.goto 29, 3) := by decide +kernel
theorem d_Mo_byteOf_86 : decode b_Mo_byteOf 86 = .ok (.aload_n 0, 1) := by decide +kernel
theorem d_Mo_byteOf_87 : decode b_Mo_byteOf 87 = .ok (.iconst 3, 1) := by decide +kernel
theorem d_Mo_byteOf_88 : decode b_Mo_byteOf 88 = .ok (.aload_n 0, 1) := by decide +kernel
theorem d_Mo_byteOf_89 : decode b_Mo_byteOf 89 = .ok (.getfield 187, 3) := by decide +kernel
theorem d_Mo_byteOf_92 : decode b_Mo_byteOf 92 = .ok (.aload_n 0, 1) := by decide +kernel
theorem d_Mo_byteOf_93 : decode b_Mo_byteOf 93 = .ok (.getfield 168, 3) := by decide +kernel
theorem d_Mo_byteOf_96 : decode b_Mo_byteOf 96 = .ok (.iload_n 1, 1) := by decide +kernel
theorem d_Mo_byteOf_97 : decode b_Mo_byteOf 97 = .ok (.iaload, 1) := by decide +kernel
theorem d_Mo_byteOf_98 : decode b_Mo_byteOf 98 = .ok (.lload_n 2, 1) := by decide +kernel
theorem d_Mo_byteOf_99 : decode b_Mo_byteOf 99 = .ok (.l2i, 1) := by decide +kernel
theorem d_Mo_byteOf_100 : decode b_Mo_byteOf 100 = .ok (.iadd, 1) := by decide +kernel
theorem d_Mo_byteOf_101 : decode b_Mo_byteOf 101 = .ok (.iconst 1, 1) := by decide +kernel
theorem d_Mo_byteOf_102 : decode b_Mo_byteOf 102 = .ok (.isub, 1) := by decide +kernel
theorem d_Mo_byteOf_103 : decode b_Mo_byteOf 103 = .ok (.baload, 1) := by decide +kernel
theorem d_Mo_byteOf_104 : decode b_Mo_byteOf 104 = .ok (.sipush 255, 3) := by decide +kernel
theorem d_Mo_byteOf_107 : decode b_Mo_byteOf 107 = .ok (.iand, 1) := by decide +kernel
theorem d_Mo_byteOf_108 : decode b_Mo_byteOf 108 = .ok (.i2l, 1) := by decide +kernel
theorem d_Mo_byteOf_109 : decode b_Mo_byteOf 109 = .ok (.invokevirtual 804, 3) := by decide +kernel
theorem d_Mo_byteOf_112 : decode b_Mo_byteOf 112 = .ok (.return_, 1) := by decide +kernel
theorem kw_216 : Cond.methodLink R_Mo 856 y_Mo_integer ∈ wA := kinm (show _ ∈ tables_1 from (List.mem_append_right _ (List.mem_append_right _ (List.mem_append_right _ (List.mem_append_right _ (List.mem_append_right _ (List.mem_append_right _ (List.mem_append_right _ (List.mem_append_right _ (List.mem_append_right _ (List.mem_append_right _ (List.mem_append_right _ (List.mem_append_right _ (List.mem_append_left _ (List.mem_of_getElem? (l := tables_1_13) (i := 34) (by decide +kernel)))))))))))))))) (by decide +kernel)
theorem kw_217 : Cond.methodLink R_Mo 859 y_Mo_from ∈ wA := kinm (show _ ∈ tables_1 from (List.mem_append_right _ (List.mem_append_right _ (List.mem_append_right _ (List.mem_append_right _ (List.mem_append_right _ (List.mem_append_right _ (List.mem_append_right _ (List.mem_append_right _ (List.mem_append_right _ (List.mem_append_right _ (List.mem_append_right _ (List.mem_append_right _ (List.mem_append_left _ (List.mem_of_getElem? (l := tables_1_13) (i := 38) (by decide +kernel)))))))))))))))) (by decide +kernel)
theorem kw_218 : Cond.methodLink R_Mo 804 y_Mo_give ∈ wA := kinm (show _ ∈ tables_1 from (List.mem_append_right _ (List.mem_append_right _ (List.mem_append_right _ (List.mem_append_right _ (List.mem_append_right _ (List.mem_append_right _ (List.mem_append_right _ (List.mem_append_right _ (List.mem_append_right _ (List.mem_append_right _ (List.mem_append_right _ (List.mem_append_left _ (List.mem_of_getElem? (l := tables_1_12) (i := 225) (by decide +kernel))))))))))))))) (by decide +kernel)
theorem kw_219 : Cond.instanceMethod y_Mo_byteOf ∈ wA := kinm (show _ ∈ tables_1 from (List.mem_append_right _ (List.mem_append_right _ (List.mem_append_right _ (List.mem_append_right _ (List.mem_append_right _ (List.mem_append_right _ (List.mem_append_right _ (List.mem_append_right _ (List.mem_append_right _ (List.mem_append_right _ (List.mem_append_right _ (List.mem_append_right _ (List.mem_append_left _ (List.mem_of_getElem? (l := tables_1_13) (i := 45) (by decide +kernel)))))))))))))))) (by decide +kernel)
theorem kw_220 : Cond.selects R_Mo y_Mo_byteOf y_Mo_byteOf ∈ wA := kinp 183 (by decide +kernel) (by decide +kernel)
def M_Mo_byteOf_j17  : M (Unit) :=
  oB (M_Mo_raise 3) fun v19 =>
  oR ()

def M_Mo_byteOf_j77  : M (Unit) :=
  oB (M_Mo_give 0 0) fun _ =>
  oR ()

def M_Mo_byteOf_j49 (l1 : Int32) (k0 : Int64) : M (Unit) :=
  oB (oAI 63 4100 0 l1) fun v54 =>
  oB (M_Mo_from k0 v54) fun v55 =>
  oC ((lg_cmp v55 1) < 0)
    (M_Mo_byteOf_j77)
    (oB (oAI 63 4100 0 l1) fun v71 =>
    oC ((lg_cmp v55 v71.toInt64) ≤ 0)
      (oB (oAI 62 4100 0 l1) fun v97 =>
      oB (oAI 67 400000 0 ((v97 + v55.toInt32) - 1)) fun v103 =>
      oB (M_Mo_give 3 ((v103 &&& 255).toInt64)) fun _ =>
      oR ())
      (M_Mo_byteOf_j77))

def M_Mo_byteOf  : M (Unit) :=
  oB (M_Mo_is 0 4) fun v3 =>
  oC (v3 = 0)
    (M_Mo_byteOf_j17)
    (oB (M_Mo_integer 1) fun v11 =>
    oC (v11 = 0)
      (M_Mo_byteOf_j17)
      (oB (M_Mo_av 0) fun v26 =>
      oB (M_Mo_is 1 0) fun v34 =>
      oC (v34 = 0)
        (oB (M_Mo_av 1) fun v46 =>
        M_Mo_byteOf_j49 v26.toInt32 v46)
        (M_Mo_byteOf_j49 v26.toInt32 1)))

theorem cv_Mo_byteOf : CV y_Mo_byteOf b_Mo_byteOf 4 none 0 := ⟨kw_219, kw_220, kw_17, k_Mo_byteOf, by decide +kernel⟩
theorem j_Mo_byteOf_j17 {X : Cx} {q : PL} (g : Gd X y_Mo_byteOf b_Mo_byteOf 4 none 3 64 R_Mo) {o : (Unit) × S1} (hR : Rt X q o.2 none)  (s : S1) (ls : Array Slot) (hl : lv_has ls 4 [(0, .ref (q.1 0 0))]) (h : M_Mo_byteOf_j17 s = some o) : WW X q s 17 ls [] := by
  unfold M_Mo_byteOf_j17 at h
  refine ww_aload_n (pc := 17) g.1 d_Mo_byteOf_17 rfl (lv_at hl 0 rfl) ?_
  refine ww_iconst (pc := 18) g.1 (v := 3) d_Mo_byteOf_18 (by decide) ?_
  obtain ⟨v19, s, hc19, h⟩ := oB_of h
  refine ww_callV (pc := 19) (rest := []) g cv_Mo_raise (Or.inl kw_162) cl_Mo (pz rfl (by decide)) (ct_Mo_raise hc19) ⟨by decide, by decide⟩ rfl hl.1 (Nat.le_of_ble_eq_true rfl) d_Mo_byteOf_19 rfl ?_
  refine ww_st (st' := [.int v19]) rfl ?_
  refine ww_pop (pc := 22) g.1 d_Mo_byteOf_22 rfl ?_
  exact ww_vretH (pc := 23) g h hR d_Mo_byteOf_23

theorem j_Mo_byteOf_j77 {X : Cx} {q : PL} (g : Gd X y_Mo_byteOf b_Mo_byteOf 4 none 3 64 R_Mo) {o : (Unit) × S1} (hR : Rt X q o.2 none)  (s : S1) (ls : Array Slot) (hl : lv_has ls 4 [(0, .ref (q.1 0 0))]) (h : M_Mo_byteOf_j77 s = some o) : WW X q s 77 ls [] := by
  unfold M_Mo_byteOf_j77 at h
  refine ww_aload_n (pc := 77) g.1 d_Mo_byteOf_77 rfl (lv_at hl 0 rfl) ?_
  refine ww_iconst (pc := 78) g.1 (v := 0) d_Mo_byteOf_78 (by decide) ?_
  refine ww_lconst (pc := 79) g.1 (v := 0) d_Mo_byteOf_79 (by decide) ?_
  obtain ⟨v80, s, hc80, h⟩ := oB_of h
  refine ww_callV (pc := 80) (rest := []) g cv_Mo_give (Or.inl kw_218) cl_Mo (pz rfl (by decide)) (ct_Mo_give hc80) ⟨by decide, by decide⟩ rfl hl.1 (Nat.le_of_ble_eq_true rfl) d_Mo_byteOf_80 rfl ?_
  refine ww_st (st' := []) rfl ?_
  refine ww_goto (pc := 83) (tgt := 112) g.1 d_Mo_byteOf_83 (by decide) ?_
  exact ww_vretH (pc := 112) g h hR d_Mo_byteOf_112

theorem j_Mo_byteOf_j49 {X : Cx} {q : PL} (g : Gd X y_Mo_byteOf b_Mo_byteOf 4 none 3 64 R_Mo) {o : (Unit) × S1} (hR : Rt X q o.2 none) (l1 : Int32) (k0 : Int64) (s : S1) (ls : Array Slot) (hl : lv_has ls 4 [(0, .ref (q.1 0 0)), (1, .int l1)]) (h : M_Mo_byteOf_j49 l1 k0 s = some o) : WW X q s 49 ls [.long k0] := by
  unfold M_Mo_byteOf_j49 at h
  refine ww_aload_n (pc := 49) g.1 d_Mo_byteOf_49 rfl (lv_at hl 0 rfl) ?_
  refine ww_gR (pc := 50) g (k := 50) cl_Mo (pz rfl (by decide)) (by decide) (Or.inl kw_93) (f := 50) (t := 63) rfl rfl rfl d_Mo_byteOf_50 ?_
  refine ww_iload_n (pc := 53) g.1 d_Mo_byteOf_53 rfl (lv_at hl 1 rfl) ?_
  refine ww_ai (pc := 54) g (pz rfl (by decide)) rfl rfl d_Mo_byteOf_54 h fun v54 h => ?_
  obtain ⟨v55, s, hc55, h⟩ := oB_of h
  refine ww_callS (pc := 55) (rest := []) g cs_Mo_from (Or.inl kw_217) (ct_Mo_from hc55) ⟨by decide, by decide⟩ rfl hl.1 (Nat.le_of_ble_eq_true rfl) d_Mo_byteOf_55 rfl ?_
  refine ww_st (st' := [.long v55]) rfl ?_
  refine ww_lstore_n (pc := 58) g.1 (lv' := [(2, .long v55), (0, .ref (q.1 0 0)), (1, .int l1)]) d_Mo_byteOf_58 rfl hl (by decide) rfl fun ls hl => ?_
  refine ww_lload_n (pc := 59) g.1 d_Mo_byteOf_59 rfl (lv_at hl 0 rfl) ?_
  refine ww_lconst (pc := 60) g.1 (v := 1) d_Mo_byteOf_60 (by decide) ?_
  refine ww_lcmp (pc := 61) g.1 d_Mo_byteOf_61 ?_
  refine ww_if_lt (pc := 62) (tgt := 77) g.1 d_Mo_byteOf_62 (by decide) h (fun c h => ?_) (fun c h => ?_)
  · exact j_Mo_byteOf_j77 g hR s ls (lv_sub hl [1] rfl) h
  · refine ww_lload_n (pc := 65) g.1 d_Mo_byteOf_65 rfl (lv_at hl 0 rfl) ?_
    refine ww_aload_n (pc := 66) g.1 d_Mo_byteOf_66 rfl (lv_at hl 1 rfl) ?_
    refine ww_gR (pc := 67) g (k := 50) cl_Mo (pz rfl (by decide)) (by decide) (Or.inl kw_93) (f := 50) (t := 63) rfl rfl rfl d_Mo_byteOf_67 ?_
    refine ww_iload_n (pc := 70) g.1 d_Mo_byteOf_70 rfl (lv_at hl 2 rfl) ?_
    refine ww_ai (pc := 71) g (pz rfl (by decide)) rfl rfl d_Mo_byteOf_71 h fun v71 h => ?_
    refine ww_i2l (pc := 72) g.1 (v := v71.toInt64) d_Mo_byteOf_72 rfl ?_
    refine ww_lcmp (pc := 73) g.1 d_Mo_byteOf_73 ?_
    refine ww_if_le (pc := 74) (tgt := 86) g.1 d_Mo_byteOf_74 (by decide) h (fun c h => ?_) (fun c h => ?_)
    · refine ww_aload_n (pc := 86) g.1 d_Mo_byteOf_86 rfl (lv_at hl 1 rfl) ?_
      refine ww_iconst (pc := 87) g.1 (v := 3) d_Mo_byteOf_87 (by decide) ?_
      refine ww_aload_n (pc := 88) g.1 d_Mo_byteOf_88 rfl (lv_at hl 1 rfl) ?_
      refine ww_gR (pc := 89) g (k := 55) cl_Mo (pz rfl (by decide)) (by decide) (Or.inl kw_206) (f := 55) (t := 67) rfl rfl rfl d_Mo_byteOf_89 ?_
      refine ww_aload_n (pc := 92) g.1 d_Mo_byteOf_92 rfl (lv_at hl 1 rfl) ?_
      refine ww_gR (pc := 93) g (k := 49) cl_Mo (pz rfl (by decide)) (by decide) (Or.inl kw_89) (f := 49) (t := 62) rfl rfl rfl d_Mo_byteOf_93 ?_
      refine ww_iload_n (pc := 96) g.1 d_Mo_byteOf_96 rfl (lv_at hl 2 rfl) ?_
      refine ww_ai (pc := 97) g (pz rfl (by decide)) rfl rfl d_Mo_byteOf_97 h fun v97 h => ?_
      refine ww_lload_n (pc := 98) g.1 d_Mo_byteOf_98 rfl (lv_at hl 0 rfl) ?_
      refine ww_l2i (pc := 99) g.1 (v := v55.toInt32) d_Mo_byteOf_99 rfl ?_
      refine ww_iadd (pc := 100) g.1 d_Mo_byteOf_100 ?_
      refine ww_iconst (pc := 101) g.1 (v := 1) d_Mo_byteOf_101 (by decide) ?_
      refine ww_isub (pc := 102) g.1 d_Mo_byteOf_102 ?_
      refine ww_ab (pc := 103) g (pz rfl (by decide)) rfl rfl d_Mo_byteOf_103 h fun v103 h => ?_
      refine ww_sipush (pc := 104) g.1 (v := 255) d_Mo_byteOf_104 (by decide) ?_
      refine ww_iand (pc := 107) g.1 d_Mo_byteOf_107 ?_
      refine ww_i2l (pc := 108) g.1 (v := (v103 &&& 255).toInt64) d_Mo_byteOf_108 rfl ?_
      obtain ⟨v109, s, hc109, h⟩ := oB_of h
      refine ww_callV (pc := 109) (rest := []) g cv_Mo_give (Or.inl kw_218) cl_Mo (pz rfl (by decide)) (ct_Mo_give hc109) ⟨by decide, by decide⟩ rfl hl.1 (Nat.le_of_ble_eq_true rfl) d_Mo_byteOf_109 rfl ?_
      refine ww_st (st' := []) rfl ?_
      exact ww_vretH (pc := 112) g h hR d_Mo_byteOf_112
    · exact j_Mo_byteOf_j77 g hR s ls (lv_sub hl [1] rfl) h

theorem ct_Mo_byteOf {l : Launch} {P : PP} {q : PL} {s s' : S1}  {r : Unit} (h : M_Mo_byteOf s = some (r, s')) : Ct l y_Mo_byteOf b_Mo_byteOf 4 none 3 64 P q s [.ref (q.1 0 0)] none q s' := by
  refine ct_of (by decide) (Nat.le_of_ble_eq_true rfl) fun X ls eP el g hR hl => ?_
  have hR : Rt X q ((r, s') : Unit × S1).2 none := hR
  have hl : lv_has ls 4 [(0, .ref (q.1 0 0))] := hl
  generalize (r, s') = o at h hR
  unfold M_Mo_byteOf at h
  refine ww_aload_n (pc := 0) g.1 d_Mo_byteOf_0 rfl (lv_at hl 0 rfl) ?_
  refine ww_iconst (pc := 1) g.1 (v := 0) d_Mo_byteOf_1 (by decide) ?_
  refine ww_iconst (pc := 2) g.1 (v := 4) d_Mo_byteOf_2 (by decide) ?_
  obtain ⟨v3, s, hc3, h⟩ := oB_of h
  refine ww_callV (pc := 3) (rest := []) g cv_Mo_is (Or.inl kw_212) cl_Mo (pz rfl (by decide)) (ct_Mo_is hc3) ⟨by decide, by decide⟩ rfl hl.1 (Nat.le_of_ble_eq_true rfl) d_Mo_byteOf_3 rfl ?_
  refine ww_st (st' := [.int v3]) rfl ?_
  refine ww_if_eq (pc := 6) (tgt := 17) g.1 d_Mo_byteOf_6 (by decide) h (fun c h => ?_) (fun c h => ?_)
  · exact j_Mo_byteOf_j17 g hR s ls (lv_sub hl [0] rfl) h
  · refine ww_aload_n (pc := 9) g.1 d_Mo_byteOf_9 rfl (lv_at hl 0 rfl) ?_
    refine ww_iconst (pc := 10) g.1 (v := 1) d_Mo_byteOf_10 (by decide) ?_
    obtain ⟨v11, s, hc11, h⟩ := oB_of h
    refine ww_callV (pc := 11) (rest := []) g cv_Mo_integer (Or.inl kw_216) cl_Mo (pz rfl (by decide)) (ct_Mo_integer hc11) ⟨by decide, by decide⟩ rfl hl.1 (Nat.le_of_ble_eq_true rfl) d_Mo_byteOf_11 rfl ?_
    refine ww_st (st' := [.int v11]) rfl ?_
    refine ww_if_ne (pc := 14) (tgt := 24) g.1 d_Mo_byteOf_14 (by decide) h (fun c h => ?_) (fun c h => ?_)
    · refine ww_aload_n (pc := 24) g.1 d_Mo_byteOf_24 rfl (lv_at hl 0 rfl) ?_
      refine ww_iconst (pc := 25) g.1 (v := 0) d_Mo_byteOf_25 (by decide) ?_
      obtain ⟨v26, s, hc26, h⟩ := oB_of h
      refine ww_callV (pc := 26) (rest := []) g cv_Mo_av (Or.inl kw_199) cl_Mo (pz rfl (by decide)) (ct_Mo_av hc26) ⟨by decide, by decide⟩ rfl hl.1 (Nat.le_of_ble_eq_true rfl) d_Mo_byteOf_26 rfl ?_
      refine ww_st (st' := [.long v26]) rfl ?_
      refine ww_l2i (pc := 29) g.1 (v := v26.toInt32) d_Mo_byteOf_29 rfl ?_
      refine ww_istore_n (pc := 30) g.1 (lv' := [(1, .int v26.toInt32), (0, .ref (q.1 0 0))]) d_Mo_byteOf_30 rfl hl (by decide) rfl fun ls hl => ?_
      refine ww_aload_n (pc := 31) g.1 d_Mo_byteOf_31 rfl (lv_at hl 1 rfl) ?_
      refine ww_iconst (pc := 32) g.1 (v := 1) d_Mo_byteOf_32 (by decide) ?_
      refine ww_iconst (pc := 33) g.1 (v := 0) d_Mo_byteOf_33 (by decide) ?_
      obtain ⟨v34, s, hc34, h⟩ := oB_of h
      refine ww_callV (pc := 34) (rest := []) g cv_Mo_is (Or.inl kw_212) cl_Mo (pz rfl (by decide)) (ct_Mo_is hc34) ⟨by decide, by decide⟩ rfl hl.1 (Nat.le_of_ble_eq_true rfl) d_Mo_byteOf_34 rfl ?_
      refine ww_st (st' := [.int v34]) rfl ?_
      refine ww_if_eq (pc := 37) (tgt := 44) g.1 d_Mo_byteOf_37 (by decide) h (fun c h => ?_) (fun c h => ?_)
      · refine ww_aload_n (pc := 44) g.1 d_Mo_byteOf_44 rfl (lv_at hl 1 rfl) ?_
        refine ww_iconst (pc := 45) g.1 (v := 1) d_Mo_byteOf_45 (by decide) ?_
        obtain ⟨v46, s, hc46, h⟩ := oB_of h
        refine ww_callV (pc := 46) (rest := []) g cv_Mo_av (Or.inl kw_199) cl_Mo (pz rfl (by decide)) (ct_Mo_av hc46) ⟨by decide, by decide⟩ rfl hl.1 (Nat.le_of_ble_eq_true rfl) d_Mo_byteOf_46 rfl ?_
        refine ww_st (st' := [.long v46]) rfl ?_
        exact j_Mo_byteOf_j49 g hR v26.toInt32 v46 s ls (lv_sub hl [1, 0] rfl) h
      · refine ww_lconst (pc := 40) g.1 (v := 1) d_Mo_byteOf_40 (by decide) ?_
        refine ww_goto (pc := 41) (tgt := 49) g.1 d_Mo_byteOf_41 (by decide) ?_
        exact j_Mo_byteOf_j49 g hR v26.toInt32 1 s ls (lv_sub hl [1, 0] rfl) h
    · exact j_Mo_byteOf_j17 g hR s ls (lv_sub hl [0] rfl) h

abbrev b_Mo_characters : ByteArray := prog_14_method_98_code
def y_Mo_characters : MethodName := ⟨R_Mo, "characters", "()V"⟩
abbrev w_Mo_characters : List Cond := .code y_Mo_characters b_Mo_characters 2 none :: wA
theorem k_Mo_characters : Cond.code y_Mo_characters b_Mo_characters 2 none ∈ wA := kinm (show _ ∈ tables_1 from (List.mem_append_right _ (List.mem_append_right _ (List.mem_append_right _ (List.mem_append_right _ (List.mem_append_right _ (List.mem_append_right _ (List.mem_append_right _ (List.mem_append_right _ (List.mem_append_right _ (List.mem_append_right _ (List.mem_append_right _ (List.mem_append_right _ (List.mem_append_left _ (List.mem_of_getElem? (l := tables_1_13) (i := 50) (by decide +kernel)))))))))))))))) (by decide +kernel)
theorem d_Mo_characters_0 : decode b_Mo_characters 0 = .ok (.iconst 0, 1) := by decide +kernel
theorem d_Mo_characters_1 : decode b_Mo_characters 1 = .ok (.istore_n 1, 1) := by decide +kernel
theorem d_Mo_characters_2 : decode b_Mo_characters 2 = .ok (.iload_n 1, 1) := by decide +kernel
theorem d_Mo_characters_3 : decode b_Mo_characters 3 = .ok (.aload_n 0, 1) := by decide +kernel
theorem d_Mo_characters_4 : decode b_Mo_characters 4 = .ok (.getfield 259, 3) := by decide +kernel
theorem d_Mo_characters_7 : decode b_Mo_characters 7 = .ok (.getfield 569, 3) := by decide +kernel
theorem d_Mo_characters_10 : decode b_Mo_characters 10 = .ok (.if_icmp .ge 68, 3) := by decide +kernel
theorem d_Mo_characters_13 : decode b_Mo_characters 13 = .ok (.aload_n 0, 1) := by decide +kernel
theorem d_Mo_characters_14 : decode b_Mo_characters 14 = .ok (.iload_n 1, 1) := by decide +kernel
theorem d_Mo_characters_15 : decode b_Mo_characters 15 = .ok (.iconst 3, 1) := by decide +kernel
theorem d_Mo_characters_16 : decode b_Mo_characters 16 = .ok (.invokevirtual 833, 3) := by decide +kernel
theorem d_Mo_characters_19 : decode b_Mo_characters 19 = .ok (.ifCond .ne 10, 3) := by decide +kernel
theorem d_Mo_characters_22 : decode b_Mo_characters 22 = .ok (.aload_n 0, 1) := by decide +kernel
theorem d_Mo_characters_23 : decode b_Mo_characters 23 = .ok (.iconst 3, 1) := by decide +kernel
theorem d_Mo_characters_24 : decode b_Mo_characters 24 = .ok (.invokevirtual 517, 3) := by decide +kernel
theorem d_Mo_characters_27 : decode b_Mo_characters 27 = .ok (.pop, 1) := by decide +kernel
theorem d_Mo_characters_28 : decode b_Mo_characters 28 = .ok (.return_, 1) := by decide +kernel
theorem d_Mo_characters_29 : decode b_Mo_characters 29 = .ok (.aload_n 0, 1) := by decide +kernel
theorem d_Mo_characters_30 : decode b_Mo_characters 30 = .ok (.iload_n 1, 1) := by decide +kernel
theorem d_Mo_characters_31 : decode b_Mo_characters 31 = .ok (.invokevirtual 807, 3) := by decide +kernel
theorem d_Mo_characters_34 : decode b_Mo_characters 34 = .ok (.lconst 0, 1) := by decide +kernel
theorem d_Mo_characters_35 : decode b_Mo_characters 35 = .ok (.lcmp, 1) := by decide +kernel
theorem d_Mo_characters_36 : decode b_Mo_characters 36 = .ok (.ifCond .lt 15, 3) := by decide +kernel
theorem d_Mo_characters_39 : decode b_Mo_characters 39 = .ok (.aload_n 0, 1) := by decide +kernel
theorem d_Mo_characters_40 : decode b_Mo_characters 40 = .ok (.iload_n 1, 1) := by decide +kernel
theorem d_Mo_characters_41 : decode b_Mo_characters 41 = .ok (.invokevirtual 807, 3) := by decide +kernel
theorem d_Mo_characters_44 : decode b_Mo_characters 44 = .ok (.ldc2_w 868, 3) := by decide +kernel
theorem d_Mo_characters_47 : decode b_Mo_characters 47 = .ok (.lcmp, 1) := by decide +kernel
theorem d_Mo_characters_48 : decode b_Mo_characters 48 = .ok (.ifCond .le 11, 3) := by decide +kernel
theorem d_Mo_characters_51 : decode b_Mo_characters 51 = .ok (.aload_n 0, 1) := by decide +kernel
theorem d_Mo_characters_52 : decode b_Mo_characters 52 = .ok (.bipush 7, 2) := by decide +kernel
theorem d_Mo_characters_54 : decode b_Mo_characters 54 = .ok (.invokevirtual 517, 3) := by decide +kernel
theorem d_Mo_characters_57 : decode b_Mo_characters 57 = .ok (.pop, 1) := by decide +kernel
theorem d_Mo_characters_58 : decode b_Mo_characters 58 = .ok (.return_, 1) := by decide +kernel
theorem d_Mo_characters_59 : decode b_Mo_characters 59 = .ok (.aload_n 0, 1) := by decide +kernel
theorem d_Mo_characters_60 : decode b_Mo_characters 60 = .ok (.getfield 422, 3) := by decide +kernel
theorem d_Mo_characters_63 : decode b_Mo_characters 63 = .ok (.iload_n 1, 1) := by decide +kernel
theorem d_Mo_characters_64 : decode b_Mo_characters 64 = .ok (.aload_n 0, 1) := by decide +kernel
theorem d_Mo_characters_65 : decode b_Mo_characters 65 = .ok (.iload_n 1, 1) := by decide +kernel
theorem d_Mo_characters_66 : decode b_Mo_characters 66 = .ok (.invokevirtual 807, 3) := by decide +kernel
theorem d_Mo_characters_69 : decode b_Mo_characters 69 = .ok (.l2i, 1) := by decide +kernel
theorem d_Mo_characters_70 : decode b_Mo_characters 70 = .ok (.i2b, 1) := by decide +kernel
theorem d_Mo_characters_71 : decode b_Mo_characters 71 = .ok (.bastore, 1) := by decide +kernel
theorem d_Mo_characters_72 : decode b_Mo_characters 72 = .ok (.iinc 1 1, 3) := by decide +kernel
theorem d_Mo_characters_75 : decode b_Mo_characters 75 = .ok (.goto (-73), 3) := by decide +kernel
theorem d_Mo_characters_78 : decode b_Mo_characters 78 = .ok (.aload_n 0, 1) := by decide +kernel
theorem d_Mo_characters_79 : decode b_Mo_characters 79 = .ok (.aload_n 0, 1) := by decide +kernel
theorem d_Mo_characters_80 : decode b_Mo_characters 80 = .ok (.getfield 422, 3) := by decide +kernel
theorem d_Mo_characters_83 : decode b_Mo_characters 83 = .ok (.iconst 0, 1) := by decide +kernel
theorem d_Mo_characters_84 : decode b_Mo_characters 84 = .ok (.aload_n 0, 1) := by decide +kernel
theorem d_Mo_characters_85 : decode b_Mo_characters 85 = .ok (.getfield 259, 3) := by decide +kernel
theorem d_Mo_characters_88 : decode b_Mo_characters 88 = .ok (.getfield 569, 3) := by decide +kernel
theorem d_Mo_characters_91 : decode b_Mo_characters 91 = .ok (.invokevirtual 655, 3) := by decide +kernel
theorem d_Mo_characters_94 : decode b_Mo_characters 94 = .ok (.istore_n 1, 1) := by decide +kernel
theorem d_Mo_characters_95 : decode b_Mo_characters 95 = .ok (.iload_n 1, 1) := by decide +kernel
theorem d_Mo_characters_96 : decode b_Mo_characters 96 = .ok (.ifCond .lt 10, 3) := by decide +kernel
theorem d_Mo_characters_99 : decode b_Mo_characters 99 = .ok (.aload_n 0, 1) := by decide +kernel
theorem d_Mo_characters_100 : decode b_Mo_characters 100 = .ok (.iconst 4, 1) := by decide +kernel
theorem d_Mo_characters_101 : decode b_Mo_characters 101 = .ok (.iload_n 1, 1) := by decide +kernel
theorem d_Mo_characters_102 : decode b_Mo_characters 102 = .ok (.i2l, 1) := by decide +kernel
theorem d_Mo_characters_103 : decode b_Mo_characters 103 = .ok (.invokevirtual 804, 3) := by decide +kernel
theorem d_Mo_characters_106 : decode b_Mo_characters 106 = .ok (.return_, 1) := by decide +kernel
abbrev b_Mo_create : ByteArray := prog_14_method_99_code
def y_Mo_create : MethodName := ⟨R_Mo, "create", "(Z)V"⟩
abbrev w_Mo_create : List Cond := .code y_Mo_create b_Mo_create 5 none :: wA
theorem k_Mo_create : Cond.code y_Mo_create b_Mo_create 5 none ∈ wA := kinm (show _ ∈ tables_1 from (List.mem_append_right _ (List.mem_append_right _ (List.mem_append_right _ (List.mem_append_right _ (List.mem_append_right _ (List.mem_append_right _ (List.mem_append_right _ (List.mem_append_right _ (List.mem_append_right _ (List.mem_append_right _ (List.mem_append_right _ (List.mem_append_right _ (List.mem_append_left _ (List.mem_of_getElem? (l := tables_1_13) (i := 55) (by decide +kernel)))))))))))))))) (by decide +kernel)
theorem d_Mo_create_0 : decode b_Mo_create 0 = .ok (.aload_n 0, 1) := by decide +kernel
theorem d_Mo_create_1 : decode b_Mo_create 1 = .ok (.iconst 0, 1) := by decide +kernel
theorem d_Mo_create_2 : decode b_Mo_create 2 = .ok (.bipush 6, 2) := by decide +kernel
theorem d_Mo_create_4 : decode b_Mo_create 4 = .ok (.invokevirtual 833, 3) := by decide +kernel
theorem d_Mo_create_7 : decode b_Mo_create 7 = .ok (.ifCond .ne 10, 3) := by decide +kernel
theorem d_Mo_create_10 : decode b_Mo_create 10 = .ok (.aload_n 0, 1) := by decide +kernel
theorem d_Mo_create_11 : decode b_Mo_create 11 = .ok (.iconst 1, 1) := by decide +kernel
theorem d_Mo_create_12 : decode b_Mo_create 12 = .ok (.invokevirtual 517, 3) := by decide +kernel
theorem d_Mo_create_15 : decode b_Mo_create 15 = .ok (.pop, 1) := by decide +kernel
theorem d_Mo_create_16 : decode b_Mo_create 16 = .ok (.return_, 1) := by decide +kernel
theorem d_Mo_create_17 : decode b_Mo_create 17 = .ok (.aload_n 0, 1) := by decide +kernel
theorem d_Mo_create_18 : decode b_Mo_create 18 = .ok (.invokevirtual 692, 3) := by decide +kernel
theorem d_Mo_create_21 : decode b_Mo_create 21 = .ok (.istore_n 2, 1) := by decide +kernel
theorem d_Mo_create_22 : decode b_Mo_create 22 = .ok (.iload_n 2, 1) := by decide +kernel
theorem d_Mo_create_23 : decode b_Mo_create 23 = .ok (.ifCond .ge 4, 3) := by decide +kernel
theorem d_Mo_create_26 : decode b_Mo_create 26 = .ok (.return_, 1) := by decide +kernel
theorem d_Mo_create_27 : decode b_Mo_create 27 = .ok (.aload_n 0, 1) := by decide +kernel
theorem d_Mo_create_28 : decode b_Mo_create 28 = .ok (.getfield 239, 3) := by decide +kernel
theorem d_Mo_create_31 : decode b_Mo_create 31 = .ok (.aload_n 0, 1) := by decide +kernel
theorem d_Mo_create_32 : decode b_Mo_create 32 = .ok (.getfield 168, 3) := by decide +kernel
theorem d_Mo_create_35 : decode b_Mo_create 35 = .ok (.iload_n 2, 1) := by decide +kernel
theorem d_Mo_create_36 : decode b_Mo_create 36 = .ok (.iaload, 1) := by decide +kernel
theorem d_Mo_create_37 : decode b_Mo_create 37 = .ok (.aaload, 1) := by decide +kernel
theorem d_Mo_create_38 : decode b_Mo_create 38 = .ok (.getfield 794, 3) := by decide +kernel
theorem d_Mo_create_41 : decode b_Mo_create 41 = .ok (.aload_n 0, 1) := by decide +kernel
theorem d_Mo_create_42 : decode b_Mo_create 42 = .ok (.getfield 259, 3) := by decide +kernel
theorem d_Mo_create_45 : decode b_Mo_create 45 = .ok (.iconst 0, 1) := by decide +kernel
theorem d_Mo_create_46 : decode b_Mo_create 46 = .ok (.invokevirtual 770, 3) := by decide +kernel
theorem d_Mo_create_49 : decode b_Mo_create 49 = .ok (.iload_n 1, 1) := by decide +kernel
theorem d_Mo_create_50 : decode b_Mo_create 50 = .ok (.ifCond .ne 12, 3) := by decide +kernel
theorem d_Mo_create_53 : decode b_Mo_create 53 = .ok (.aload_n 0, 1) := by decide +kernel
theorem d_Mo_create_54 : decode b_Mo_create 54 = .ok (.bipush 7, 2) := by decide +kernel
theorem d_Mo_create_56 : decode b_Mo_create 56 = .ok (.iload_n 2, 1) := by decide +kernel
theorem d_Mo_create_57 : decode b_Mo_create 57 = .ok (.i2l, 1) := by decide +kernel
theorem d_Mo_create_58 : decode b_Mo_create 58 = .ok (.invokevirtual 804, 3) := by decide +kernel
theorem d_Mo_create_61 : decode b_Mo_create 61 = .ok (.return_, 1) := by decide +kernel
theorem d_Mo_create_62 : decode b_Mo_create 62 = .ok (.aload_n 0, 1) := by decide +kernel
theorem d_Mo_create_63 : decode b_Mo_create 63 = .ok (.getfield 234, 3) := by decide +kernel
theorem d_Mo_create_66 : decode b_Mo_create 66 = .ok (.getfield 569, 3) := by decide +kernel
theorem d_Mo_create_69 : decode b_Mo_create 69 = .ok (.istore_n 3, 1) := by decide +kernel
theorem d_Mo_create_70 : decode b_Mo_create 70 = .ok (.aload_n 0, 1) := by decide +kernel
theorem d_Mo_create_71 : decode b_Mo_create 71 = .ok (.getfield 234, 3) := by decide +kernel
theorem d_Mo_create_74 : decode b_Mo_create 74 = .ok (.bipush 7, 2) := by decide +kernel
theorem d_Mo_create_76 : decode b_Mo_create 76 = .ok (.iload_n 2, 1) := by decide +kernel
theorem d_Mo_create_77 : decode b_Mo_create 77 = .ok (.i2l, 1) := by decide +kernel
theorem d_Mo_create_78 : decode b_Mo_create 78 = .ok (.invokevirtual 572, 3) := by decide +kernel
theorem d_Mo_create_81 : decode b_Mo_create 81 = .ok (.aload_n 0, 1) := by decide +kernel
theorem d_Mo_create_82 : decode b_Mo_create 82 = .ok (.iconst (-1), 1) := by decide +kernel
theorem d_Mo_create_83 : decode b_Mo_create 83 = .ok (.iload_n 2, 1) := by decide +kernel
theorem d_Mo_create_84 : decode b_Mo_create 84 = .ok (.iconst 0, 1) := by decide +kernel
theorem d_Mo_create_85 : decode b_Mo_create 85 = .ok (.invokevirtual 688, 3) := by decide +kernel
theorem d_Mo_create_88 : decode b_Mo_create 88 = .ok (.istore 4, 2) := by decide +kernel
theorem d_Mo_create_90 : decode b_Mo_create 90 = .ok (.aload_n 0, 1) := by decide +kernel
theorem d_Mo_create_91 : decode b_Mo_create 91 = .ok (.getfield 234, 3) := by decide +kernel
theorem d_Mo_create_94 : decode b_Mo_create 94 = .ok (.iload_n 3, 1) := by decide +kernel
theorem d_Mo_create_95 : decode b_Mo_create 95 = .ok (.putfield 569, 3) := by decide +kernel
theorem d_Mo_create_98 : decode b_Mo_create 98 = .ok (.iload 4, 2) := by decide +kernel
theorem d_Mo_create_100 : decode b_Mo_create 100 = .ok (.ifCond .lt 12, 3) := by decide +kernel
theorem d_Mo_create_103 : decode b_Mo_create 103 = .ok (.aload_n 0, 1) := by decide +kernel
theorem d_Mo_create_104 : decode b_Mo_create 104 = .ok (.bipush 6, 2) := by decide +kernel
theorem d_Mo_create_106 : decode b_Mo_create 106 = .ok (.iload 4, 2) := by decide +kernel
theorem d_Mo_create_108 : decode b_Mo_create 108 = .ok (.i2l, 1) := by decide +kernel
theorem d_Mo_create_109 : decode b_Mo_create 109 = .ok (.invokevirtual 804, 3) := by decide +kernel
theorem d_Mo_create_112 : decode b_Mo_create 112 = .ok (.return_, 1) := by decide +kernel
abbrev b_Mo_resume : ByteArray := prog_14_method_87_code
def y_Mo_resume : MethodName := ⟨R_Mo, "resume", "()V"⟩
abbrev w_Mo_resume : List Cond := .code y_Mo_resume b_Mo_resume 2 none :: wA
theorem k_Mo_resume : Cond.code y_Mo_resume b_Mo_resume 2 none ∈ wA := kinm (show _ ∈ tables_1 from (List.mem_append_right _ (List.mem_append_right _ (List.mem_append_right _ (List.mem_append_right _ (List.mem_append_right _ (List.mem_append_right _ (List.mem_append_right _ (List.mem_append_right _ (List.mem_append_right _ (List.mem_append_right _ (List.mem_append_right _ (List.mem_append_right _ (List.mem_append_left _ (List.mem_of_getElem? (l := tables_1_13) (i := 59) (by decide +kernel)))))))))))))))) (by decide +kernel)
theorem d_Mo_resume_0 : decode b_Mo_resume 0 = .ok (.aload_n 0, 1) := by decide +kernel
theorem d_Mo_resume_1 : decode b_Mo_resume 1 = .ok (.iconst 0, 1) := by decide +kernel
theorem d_Mo_resume_2 : decode b_Mo_resume 2 = .ok (.bipush 7, 2) := by decide +kernel
theorem d_Mo_resume_4 : decode b_Mo_resume 4 = .ok (.invokevirtual 833, 3) := by decide +kernel
theorem d_Mo_resume_7 : decode b_Mo_resume 7 = .ok (.ifCond .ne 18, 3) := by decide +kernel
theorem d_Mo_resume_10 : decode b_Mo_resume 10 = .ok (.aload_n 0, 1) := by decide +kernel
theorem d_Mo_resume_11 : decode b_Mo_resume 11 = .ok (.getfield 259, 3) := by decide +kernel
theorem d_Mo_resume_14 : decode b_Mo_resume 14 = .ok (.iconst 0, 1) := by decide +kernel
theorem d_Mo_resume_15 : decode b_Mo_resume 15 = .ok (.putfield 569, 3) := by decide +kernel
theorem d_Mo_resume_18 : decode b_Mo_resume 18 = .ok (.aload_n 0, 1) := by decide +kernel
theorem d_Mo_resume_19 : decode b_Mo_resume 19 = .ok (.iconst 2, 1) := by decide +kernel
theorem d_Mo_resume_20 : decode b_Mo_resume 20 = .ok (.invokevirtual 517, 3) := by decide +kernel
theorem d_Mo_resume_23 : decode b_Mo_resume 23 = .ok (.pop, 1) := by decide +kernel
theorem d_Mo_resume_24 : decode b_Mo_resume 24 = .ok (.return_, 1) := by decide +kernel
theorem d_Mo_resume_25 : decode b_Mo_resume 25 = .ok (.aload_n 0, 1) := by decide +kernel
theorem d_Mo_resume_26 : decode b_Mo_resume 26 = .ok (.iconst 0, 1) := by decide +kernel
theorem d_Mo_resume_27 : decode b_Mo_resume 27 = .ok (.invokevirtual 807, 3) := by decide +kernel
theorem d_Mo_resume_30 : decode b_Mo_resume 30 = .ok (.l2i, 1) := by decide +kernel
theorem d_Mo_resume_31 : decode b_Mo_resume 31 = .ok (.istore_n 1, 1) := by decide +kernel
theorem d_Mo_resume_32 : decode b_Mo_resume 32 = .ok (.aload_n 0, 1) := by decide +kernel
theorem d_Mo_resume_33 : decode b_Mo_resume 33 = .ok (.aload_n 0, 1) := by decide +kernel
theorem d_Mo_resume_34 : decode b_Mo_resume 34 = .ok (.getfield 239, 3) := by decide +kernel
theorem d_Mo_resume_37 : decode b_Mo_resume 37 = .ok (.aload_n 0, 1) := by decide +kernel
theorem d_Mo_resume_38 : decode b_Mo_resume 38 = .ok (.getfield 168, 3) := by decide +kernel
theorem d_Mo_resume_41 : decode b_Mo_resume 41 = .ok (.iload_n 1, 1) := by decide +kernel
theorem d_Mo_resume_42 : decode b_Mo_resume 42 = .ok (.iaload, 1) := by decide +kernel
theorem d_Mo_resume_43 : decode b_Mo_resume 43 = .ok (.aaload, 1) := by decide +kernel
theorem d_Mo_resume_44 : decode b_Mo_resume 44 = .ok (.iload_n 1, 1) := by decide +kernel
theorem d_Mo_resume_45 : decode b_Mo_resume 45 = .ok (.iconst 2, 1) := by decide +kernel
theorem d_Mo_resume_46 : decode b_Mo_resume 46 = .ok (.iconst (-1), 1) := by decide +kernel
theorem d_Mo_resume_47 : decode b_Mo_resume 47 = .ok (.iconst 1, 1) := by decide +kernel
theorem d_Mo_resume_48 : decode b_Mo_resume 48 = .ok (.invokevirtual 726, 3) := by decide +kernel
theorem d_Mo_resume_51 : decode b_Mo_resume 51 = .ok (.return_, 1) := by decide +kernel
abbrev b_Mo_goesOn : ByteArray := prog_14_method_80_code
def y_Mo_goesOn : MethodName := ⟨R_Mo, "goesOn", "(LLuaMachineModel$Thread_;IIII)V"⟩
abbrev w_Mo_goesOn : List Cond := .code y_Mo_goesOn b_Mo_goesOn 7 none :: wA
set_option maxRecDepth 20000 in
theorem k_Mo_goesOn : Cond.code y_Mo_goesOn b_Mo_goesOn 7 none ∈ wA := kinm (show _ ∈ tables_1 from (List.mem_append_right _ (List.mem_append_right _ (List.mem_append_right _ (List.mem_append_right _ (List.mem_append_right _ (List.mem_append_right _ (List.mem_append_right _ (List.mem_append_right _ (List.mem_append_right _ (List.mem_append_right _ (List.mem_append_right _ (List.mem_append_right _ (List.mem_append_left _ (List.mem_of_getElem? (l := tables_1_13) (i := 63) rfl))))))))))))))) rfl
theorem d_Mo_goesOn_0 : decode b_Mo_goesOn 0 = .ok (.aload_n 1, 1) := by decide +kernel
theorem d_Mo_goesOn_1 : decode b_Mo_goesOn 1 = .ok (.getfield 615, 3) := by decide +kernel
theorem d_Mo_goesOn_4 : decode b_Mo_goesOn 4 = .ok (.iload_n 2, 1) := by decide +kernel
theorem d_Mo_goesOn_5 : decode b_Mo_goesOn 5 = .ok (.if_icmp .ne 20, 3) := by decide +kernel
theorem d_Mo_goesOn_8 : decode b_Mo_goesOn 8 = .ok (.aload_n 1, 1) := by decide +kernel
theorem d_Mo_goesOn_9 : decode b_Mo_goesOn 9 = .ok (.getfield 694, 3) := by decide +kernel
theorem d_Mo_goesOn_12 : decode b_Mo_goesOn 12 = .ok (.ifCond .ne 13, 3) := by decide +kernel
theorem d_Mo_goesOn_15 : decode b_Mo_goesOn 15 = .ok (.aload_n 1, 1) := by decide +kernel
theorem d_Mo_goesOn_16 : decode b_Mo_goesOn 16 = .ok (.aload_n 0, 1) := by decide +kernel
theorem d_Mo_goesOn_17 : decode b_Mo_goesOn 17 = .ok (.getfield 239, 3) := by decide +kernel
theorem d_Mo_goesOn_20 : decode b_Mo_goesOn 20 = .ok (.iconst 0, 1) := by decide +kernel
theorem d_Mo_goesOn_21 : decode b_Mo_goesOn 21 = .ok (.aaload, 1) := by decide +kernel
theorem d_Mo_goesOn_22 : decode b_Mo_goesOn 22 = .ok (.if_acmp .ne 58, 3) := by decide +kernel
theorem d_Mo_goesOn_25 : decode b_Mo_goesOn 25 = .ok (.aload_n 0, 1) := by decide +kernel
theorem d_Mo_goesOn_26 : decode b_Mo_goesOn 26 = .ok (.getfield 259, 3) := by decide +kernel
theorem d_Mo_goesOn_29 : decode b_Mo_goesOn 29 = .ok (.iconst 0, 1) := by decide +kernel
theorem d_Mo_goesOn_30 : decode b_Mo_goesOn 30 = .ok (.putfield 569, 3) := by decide +kernel
theorem d_Mo_goesOn_33 : decode b_Mo_goesOn 33 = .ok (.iload_n 3, 1) := by decide +kernel
theorem d_Mo_goesOn_34 : decode b_Mo_goesOn 34 = .ok (.iconst 3, 1) := by decide +kernel
theorem d_Mo_goesOn_35 : decode b_Mo_goesOn 35 = .ok (.if_icmp .ne 11, 3) := by decide +kernel
theorem d_Mo_goesOn_38 : decode b_Mo_goesOn 38 = .ok (.aload_n 0, 1) := by decide +kernel
theorem d_Mo_goesOn_39 : decode b_Mo_goesOn 39 = .ok (.bipush 9, 2) := by decide +kernel
theorem d_Mo_goesOn_41 : decode b_Mo_goesOn 41 = .ok (.invokevirtual 517, 3) := by decide +kernel
theorem d_Mo_goesOn_44 : decode b_Mo_goesOn 44 = .ok (.pop, 1) := by decide +kernel
theorem d_Mo_goesOn_45 : decode b_Mo_goesOn 45 = .ok (.return_, 1) := by decide +kernel
theorem d_Mo_goesOn_46 : decode b_Mo_goesOn 46 = .ok (.aload_n 0, 1) := by decide +kernel
theorem d_Mo_goesOn_47 : decode b_Mo_goesOn 47 = .ok (.getfield 262, 3) := by decide +kernel
theorem d_Mo_goesOn_50 : decode b_Mo_goesOn 50 = .ok (.iconst 0, 1) := by decide +kernel
theorem d_Mo_goesOn_51 : decode b_Mo_goesOn 51 = .ok (.putfield 569, 3) := by decide +kernel
theorem d_Mo_goesOn_54 : decode b_Mo_goesOn 54 = .ok (.aload_n 0, 1) := by decide +kernel
theorem d_Mo_goesOn_55 : decode b_Mo_goesOn 55 = .ok (.getfield 262, 3) := by decide +kernel
theorem d_Mo_goesOn_58 : decode b_Mo_goesOn 58 = .ok (.iconst 1, 1) := by decide +kernel
theorem d_Mo_goesOn_59 : decode b_Mo_goesOn 59 = .ok (.lconst 0, 1) := by decide +kernel
theorem d_Mo_goesOn_60 : decode b_Mo_goesOn 60 = .ok (.invokevirtual 572, 3) := by decide +kernel
theorem d_Mo_goesOn_63 : decode b_Mo_goesOn 63 = .ok (.aload_n 0, 1) := by decide +kernel
theorem d_Mo_goesOn_64 : decode b_Mo_goesOn 64 = .ok (.getfield 262, 3) := by decide +kernel
theorem d_Mo_goesOn_67 : decode b_Mo_goesOn 67 = .ok (.iconst 3, 1) := by decide +kernel
theorem d_Mo_goesOn_68 : decode b_Mo_goesOn 68 = .ok (.ldc2_w 792, 3) := by decide +kernel
theorem d_Mo_goesOn_71 : decode b_Mo_goesOn 71 = .ok (.invokevirtual 572, 3) := by decide +kernel
theorem d_Mo_goesOn_74 : decode b_Mo_goesOn 74 = .ok (.aload_n 0, 1) := by decide +kernel
theorem d_Mo_goesOn_75 : decode b_Mo_goesOn 75 = .ok (.iconst 2, 1) := by decide +kernel
theorem d_Mo_goesOn_76 : decode b_Mo_goesOn 76 = .ok (.putfield 247, 3) := by decide +kernel
theorem d_Mo_goesOn_79 : decode b_Mo_goesOn 79 = .ok (.return_, 1) := by decide +kernel
theorem d_Mo_goesOn_80 : decode b_Mo_goesOn 80 = .ok (.aload_n 0, 1) := by decide +kernel
theorem d_Mo_goesOn_81 : decode b_Mo_goesOn 81 = .ok (.iload_n 3, 1) := by decide +kernel
theorem d_Mo_goesOn_82 : decode b_Mo_goesOn 82 = .ok (.iload 4, 2) := by decide +kernel
theorem d_Mo_goesOn_84 : decode b_Mo_goesOn 84 = .ok (.invokevirtual 755, 3) := by decide +kernel
theorem d_Mo_goesOn_87 : decode b_Mo_goesOn 87 = .ok (.ifCond .ne 12, 3) := by decide +kernel
theorem d_Mo_goesOn_90 : decode b_Mo_goesOn 90 = .ok (.aload_n 0, 1) := by decide +kernel
theorem d_Mo_goesOn_91 : decode b_Mo_goesOn 91 = .ok (.getfield 259, 3) := by decide +kernel
theorem d_Mo_goesOn_94 : decode b_Mo_goesOn 94 = .ok (.iconst 0, 1) := by decide +kernel
theorem d_Mo_goesOn_95 : decode b_Mo_goesOn 95 = .ok (.putfield 569, 3) := by decide +kernel
theorem d_Mo_goesOn_98 : decode b_Mo_goesOn 98 = .ok (.return_, 1) := by decide +kernel
theorem d_Mo_goesOn_99 : decode b_Mo_goesOn 99 = .ok (.aload_n 1, 1) := by decide +kernel
theorem d_Mo_goesOn_100 : decode b_Mo_goesOn 100 = .ok (.aload_n 0, 1) := by decide +kernel
theorem d_Mo_goesOn_101 : decode b_Mo_goesOn 101 = .ok (.getfield 243, 3) := by decide +kernel
theorem d_Mo_goesOn_104 : decode b_Mo_goesOn 104 = .ok (.putfield 617, 3) := by decide +kernel
theorem d_Mo_goesOn_107 : decode b_Mo_goesOn 107 = .ok (.aload_n 0, 1) := by decide +kernel
theorem d_Mo_goesOn_108 : decode b_Mo_goesOn 108 = .ok (.getfield 243, 3) := by decide +kernel
theorem d_Mo_goesOn_111 : decode b_Mo_goesOn 111 = .ok (.iconst 2, 1) := by decide +kernel
theorem d_Mo_goesOn_112 : decode b_Mo_goesOn 112 = .ok (.putfield 694, 3) := by decide +kernel
theorem d_Mo_goesOn_115 : decode b_Mo_goesOn 115 = .ok (.aload_n 1, 1) := by decide +kernel
theorem d_Mo_goesOn_116 : decode b_Mo_goesOn 116 = .ok (.iconst 1, 1) := by decide +kernel
theorem d_Mo_goesOn_117 : decode b_Mo_goesOn 117 = .ok (.putfield 694, 3) := by decide +kernel
theorem d_Mo_goesOn_120 : decode b_Mo_goesOn 120 = .ok (.aload_n 0, 1) := by decide +kernel
theorem d_Mo_goesOn_121 : decode b_Mo_goesOn 121 = .ok (.aload_n 1, 1) := by decide +kernel
theorem d_Mo_goesOn_122 : decode b_Mo_goesOn 122 = .ok (.putfield 243, 3) := by decide +kernel
theorem d_Mo_goesOn_125 : decode b_Mo_goesOn 125 = .ok (.aload_n 1, 1) := by decide +kernel
theorem d_Mo_goesOn_126 : decode b_Mo_goesOn 126 = .ok (.getfield 697, 3) := by decide +kernel
theorem d_Mo_goesOn_129 : decode b_Mo_goesOn 129 = .ok (.ifCond .eq 60, 3) := by decide +kernel
theorem d_Mo_goesOn_132 : decode b_Mo_goesOn 132 = .ok (.aload_n 0, 1) := by decide +kernel
theorem d_Mo_goesOn_133 : decode b_Mo_goesOn 133 = .ok (.getfield 262, 3) := by decide +kernel
theorem d_Mo_goesOn_136 : decode b_Mo_goesOn 136 = .ok (.iconst 0, 1) := by decide +kernel
theorem d_Mo_goesOn_137 : decode b_Mo_goesOn 137 = .ok (.putfield 569, 3) := by decide +kernel
theorem d_Mo_goesOn_140 : decode b_Mo_goesOn 140 = .ok (.iload 5, 2) := by decide +kernel
theorem d_Mo_goesOn_142 : decode b_Mo_goesOn 142 = .ok (.istore 6, 2) := by decide +kernel
theorem d_Mo_goesOn_144 : decode b_Mo_goesOn 144 = .ok (.iload 6, 2) := by decide +kernel
theorem d_Mo_goesOn_146 : decode b_Mo_goesOn 146 = .ok (.aload_n 0, 1) := by decide +kernel
theorem d_Mo_goesOn_147 : decode b_Mo_goesOn 147 = .ok (.getfield 259, 3) := by decide +kernel
theorem d_Mo_goesOn_150 : decode b_Mo_goesOn 150 = .ok (.getfield 569, 3) := by decide +kernel
theorem d_Mo_goesOn_153 : decode b_Mo_goesOn 153 = .ok (.if_icmp .ge 22, 3) := by decide +kernel
theorem d_Mo_goesOn_156 : decode b_Mo_goesOn 156 = .ok (.aload_n 0, 1) := by decide +kernel
theorem d_Mo_goesOn_157 : decode b_Mo_goesOn 157 = .ok (.getfield 262, 3) := by decide +kernel
theorem d_Mo_goesOn_160 : decode b_Mo_goesOn 160 = .ok (.aload_n 0, 1) := by decide +kernel
theorem d_Mo_goesOn_161 : decode b_Mo_goesOn 161 = .ok (.getfield 259, 3) := by decide +kernel
theorem d_Mo_goesOn_164 : decode b_Mo_goesOn 164 = .ok (.iload 6, 2) := by decide +kernel
theorem d_Mo_goesOn_166 : decode b_Mo_goesOn 166 = .ok (.invokevirtual 770, 3) := by decide +kernel
theorem d_Mo_goesOn_169 : decode b_Mo_goesOn 169 = .ok (.iinc 6 1, 3) := by decide +kernel
theorem d_Mo_goesOn_172 : decode b_Mo_goesOn 172 = .ok (.goto (-28), 3) := by decide +kernel
theorem d_Mo_goesOn_175 : decode b_Mo_goesOn 175 = .ok (.aload_n 0, 1) := by decide +kernel
theorem d_Mo_goesOn_176 : decode b_Mo_goesOn 176 = .ok (.getfield 259, 3) := by decide +kernel
theorem d_Mo_goesOn_179 : decode b_Mo_goesOn 179 = .ok (.iconst 0, 1) := by decide +kernel
theorem d_Mo_goesOn_180 : decode b_Mo_goesOn 180 = .ok (.putfield 569, 3) := by decide +kernel
theorem d_Mo_goesOn_183 : decode b_Mo_goesOn 183 = .ok (.aload_n 0, 1) := by decide +kernel
theorem d_Mo_goesOn_184 : decode b_Mo_goesOn 184 = .ok (.iconst 2, 1) := by decide +kernel
theorem d_Mo_goesOn_185 : decode b_Mo_goesOn 185 = .ok (.putfield 247, 3) := by decide +kernel
theorem d_Mo_goesOn_188 : decode b_Mo_goesOn 188 = .ok (.return_, 1) := by decide +kernel
theorem d_Mo_goesOn_189 : decode b_Mo_goesOn 189 = .ok (.aload_n 1, 1) := by decide +kernel
theorem d_Mo_goesOn_190 : decode b_Mo_goesOn 190 = .ok (.iconst 1, 1) := by decide +kernel
theorem d_Mo_goesOn_191 : decode b_Mo_goesOn 191 = .ok (.putfield 697, 3) := by decide +kernel
theorem d_Mo_goesOn_194 : decode b_Mo_goesOn 194 = .ok (.aload_n 0, 1) := by decide +kernel
theorem d_Mo_goesOn_195 : decode b_Mo_goesOn 195 = .ok (.aload_n 1, 1) := by decide +kernel
theorem d_Mo_goesOn_196 : decode b_Mo_goesOn 196 = .ok (.getfield 794, 3) := by decide +kernel
theorem d_Mo_goesOn_199 : decode b_Mo_goesOn 199 = .ok (.getfield 585, 3) := by decide +kernel
theorem d_Mo_goesOn_202 : decode b_Mo_goesOn 202 = .ok (.iconst 0, 1) := by decide +kernel
theorem d_Mo_goesOn_203 : decode b_Mo_goesOn 203 = .ok (.baload, 1) := by decide +kernel
theorem d_Mo_goesOn_204 : decode b_Mo_goesOn 204 = .ok (.putfield 253, 3) := by decide +kernel
theorem d_Mo_goesOn_207 : decode b_Mo_goesOn 207 = .ok (.aload_n 0, 1) := by decide +kernel
theorem d_Mo_goesOn_208 : decode b_Mo_goesOn 208 = .ok (.aload_n 1, 1) := by decide +kernel
theorem d_Mo_goesOn_209 : decode b_Mo_goesOn 209 = .ok (.getfield 794, 3) := by decide +kernel
theorem d_Mo_goesOn_212 : decode b_Mo_goesOn 212 = .ok (.getfield 588, 3) := by decide +kernel
theorem d_Mo_goesOn_215 : decode b_Mo_goesOn 215 = .ok (.iconst 0, 1) := by decide +kernel
theorem d_Mo_goesOn_216 : decode b_Mo_goesOn 216 = .ok (.laload, 1) := by decide +kernel
theorem d_Mo_goesOn_217 : decode b_Mo_goesOn 217 = .ok (.putfield 256, 3) := by decide +kernel
theorem d_Mo_goesOn_220 : decode b_Mo_goesOn 220 = .ok (.aload_n 1, 1) := by decide +kernel
theorem d_Mo_goesOn_221 : decode b_Mo_goesOn 221 = .ok (.getfield 794, 3) := by decide +kernel
theorem d_Mo_goesOn_224 : decode b_Mo_goesOn 224 = .ok (.iconst 0, 1) := by decide +kernel
theorem d_Mo_goesOn_225 : decode b_Mo_goesOn 225 = .ok (.putfield 569, 3) := by decide +kernel
theorem d_Mo_goesOn_228 : decode b_Mo_goesOn 228 = .ok (.iload 5, 2) := by decide +kernel
theorem d_Mo_goesOn_230 : decode b_Mo_goesOn 230 = .ok (.istore 6, 2) := by decide +kernel
theorem d_Mo_goesOn_232 : decode b_Mo_goesOn 232 = .ok (.iload 6, 2) := by decide +kernel
theorem d_Mo_goesOn_234 : decode b_Mo_goesOn 234 = .ok (.aload_n 0, 1) := by decide +kernel
theorem d_Mo_goesOn_235 : decode b_Mo_goesOn 235 = .ok (.getfield 259, 3) := by decide +kernel
theorem d_Mo_goesOn_238 : decode b_Mo_goesOn 238 = .ok (.getfield 569, 3) := by decide +kernel
theorem d_Mo_goesOn_241 : decode b_Mo_goesOn 241 = .ok (.if_icmp .ge 27, 3) := by decide +kernel
theorem d_Mo_goesOn_244 : decode b_Mo_goesOn 244 = .ok (.aload_n 0, 1) := by decide +kernel
theorem d_Mo_goesOn_245 : decode b_Mo_goesOn 245 = .ok (.getfield 259, 3) := by decide +kernel
theorem d_Mo_goesOn_248 : decode b_Mo_goesOn 248 = .ok (.iload 6, 2) := by decide +kernel
theorem d_Mo_goesOn_250 : decode b_Mo_goesOn 250 = .ok (.iload 5, 2) := by decide +kernel
theorem d_Mo_goesOn_252 : decode b_Mo_goesOn 252 = .ok (.isub, 1) := by decide +kernel
theorem d_Mo_goesOn_253 : decode b_Mo_goesOn 253 = .ok (.aload_n 0, 1) := by decide +kernel
theorem d_Mo_goesOn_254 : decode b_Mo_goesOn 254 = .ok (.getfield 259, 3) := by decide +kernel
theorem d_Mo_goesOn_257 : decode b_Mo_goesOn 257 = .ok (.iload 6, 2) := by decide +kernel
theorem d_Mo_goesOn_259 : decode b_Mo_goesOn 259 = .ok (.invokevirtual 719, 3) := by decide +kernel
theorem d_Mo_goesOn_262 : decode b_Mo_goesOn 262 = .ok (.iinc 6 1, 3) := by decide +kernel
theorem d_Mo_goesOn_265 : decode b_Mo_goesOn 265 = .ok (.goto (-33), 3) := by decide +kernel
theorem d_Mo_goesOn_268 : decode b_Mo_goesOn 268 = .ok (.aload_n 0, 1) := by decide +kernel
theorem d_Mo_goesOn_269 : decode b_Mo_goesOn 269 = .ok (.getfield 259, 3) := by decide +kernel
theorem d_Mo_goesOn_272 : decode b_Mo_goesOn 272 = .ok (.dup, 1) := by decide +kernel
theorem d_Mo_goesOn_273 : decode b_Mo_goesOn 273 = .ok (.getfield 569, 3) := by decide +kernel
theorem d_Mo_goesOn_276 : decode b_Mo_goesOn 276 = .ok (.iload 5, 2) := by decide +kernel
theorem d_Mo_goesOn_278 : decode b_Mo_goesOn 278 = .ok (.isub, 1) := by decide +kernel
theorem d_Mo_goesOn_279 : decode b_Mo_goesOn 279 = .ok (.putfield 569, 3) := by decide +kernel
theorem d_Mo_goesOn_282 : decode b_Mo_goesOn 282 = .ok (.aload_n 0, 1) := by decide +kernel
theorem d_Mo_goesOn_283 : decode b_Mo_goesOn 283 = .ok (.iconst 1, 1) := by decide +kernel
theorem d_Mo_goesOn_284 : decode b_Mo_goesOn 284 = .ok (.putfield 247, 3) := by decide +kernel
theorem d_Mo_goesOn_287 : decode b_Mo_goesOn 287 = .ok (.return_, 1) := by decide +kernel
theorem kw_221 : Cond.constantLong R_Mo 792 9 ∈ wA := kinm (show _ ∈ tables_1 from (List.mem_append_right _ (List.mem_append_right _ (List.mem_append_right _ (List.mem_append_right _ (List.mem_append_right _ (List.mem_append_right _ (List.mem_append_right _ (List.mem_append_right _ (List.mem_append_right _ (List.mem_append_right _ (List.mem_append_right _ (List.mem_append_right _ (List.mem_append_left _ (List.mem_of_getElem? (l := tables_1_13) (i := 64) (by decide +kernel)))))))))))))))) (by decide +kernel)
theorem kw_222 : Cond.fieldLink R_Mo 615 "LuaMachineModel$Thread_" "place" "I" ∈ wA := kinm (show _ ∈ tables_1 from (List.mem_append_right _ (List.mem_append_right _ (List.mem_append_right _ (List.mem_append_right _ (List.mem_append_right _ (List.mem_append_right _ (List.mem_append_right _ (List.mem_append_right _ (List.mem_append_left _ (List.mem_of_getElem? (l := tables_1_9) (i := 206) (by decide +kernel)))))))))))) (by decide +kernel)
theorem kw_223 : Cond.fieldLink R_Mo 694 "LuaMachineModel$Thread_" "state" "I" ∈ wA := kinm (show _ ∈ tables_1 from (List.mem_append_right _ (List.mem_append_right _ (List.mem_append_right _ (List.mem_append_right _ (List.mem_append_right _ (List.mem_append_right _ (List.mem_append_right _ (List.mem_append_right _ (List.mem_append_left _ (List.mem_of_getElem? (l := tables_1_9) (i := 208) (by decide +kernel)))))))))))) (by decide +kernel)
theorem kw_224 : Cond.fieldLink R_Mo 617 "LuaMachineModel$Thread_" "resumer" "LLuaMachineModel$Thread_;" ∈ wA := kinm (show _ ∈ tables_1 from (List.mem_append_right _ (List.mem_append_right _ (List.mem_append_right _ (List.mem_append_right _ (List.mem_append_right _ (List.mem_append_right _ (List.mem_append_right _ (List.mem_append_right _ (List.mem_append_left _ (List.mem_of_getElem? (l := tables_1_9) (i := 217) (by decide +kernel)))))))))))) (by decide +kernel)
theorem kw_225 : Cond.fieldLink R_Mo 697 "LuaMachineModel$Thread_" "begun" "Z" ∈ wA := kinm (show _ ∈ tables_1 from (List.mem_append_right _ (List.mem_append_right _ (List.mem_append_right _ (List.mem_append_right _ (List.mem_append_right _ (List.mem_append_right _ (List.mem_append_right _ (List.mem_append_right _ (List.mem_append_left _ (List.mem_of_getElem? (l := tables_1_9) (i := 215) (by decide +kernel)))))))))))) (by decide +kernel)
theorem kw_226 : Cond.fieldLink R_Mo 794 "LuaMachineModel$Thread_" "start" "LLuaMachineModel$Values;" ∈ wA := kinm (show _ ∈ tables_1 from (List.mem_append_right _ (List.mem_append_right _ (List.mem_append_right _ (List.mem_append_right _ (List.mem_append_right _ (List.mem_append_right _ (List.mem_append_right _ (List.mem_append_right _ (List.mem_append_left _ (List.mem_of_getElem? (l := tables_1_9) (i := 223) (by decide +kernel)))))))))))) (by decide +kernel)
theorem kw_227 : Cond.methodLink R_Mo 770 y_Va_add_ ∈ wA := kinm (show _ ∈ tables_1 from (List.mem_append_right _ (List.mem_append_right _ (List.mem_append_right _ (List.mem_append_right _ (List.mem_append_right _ (List.mem_append_right _ (List.mem_append_right _ (List.mem_append_right _ (List.mem_append_right _ (List.mem_append_right _ (List.mem_append_right _ (List.mem_append_right _ (List.mem_append_left _ (List.mem_of_getElem? (l := tables_1_13) (i := 25) (by decide +kernel)))))))))))))))) (by decide +kernel)
theorem kw_228 : Cond.instanceMethod y_Mo_goesOn ∈ wA := kinm (show _ ∈ tables_1 from (List.mem_append_right _ (List.mem_append_right _ (List.mem_append_right _ (List.mem_append_right _ (List.mem_append_right _ (List.mem_append_right _ (List.mem_append_right _ (List.mem_append_right _ (List.mem_append_right _ (List.mem_append_right _ (List.mem_append_right _ (List.mem_append_right _ (List.mem_append_left _ (List.mem_of_getElem? (l := tables_1_13) (i := 62) (by decide +kernel)))))))))))))))) (by decide +kernel)
theorem kw_229 : Cond.selects R_Mo y_Mo_goesOn y_Mo_goesOn ∈ wA := kinp 187 (by decide +kernel) (by decide +kernel)
def M_Mo_goesOn_j25 (l3 : Int32) : M (Unit) :=
  oB (oPI 898 0 0) fun _ =>
  oC (l3 = 3)
    (oB (M_Mo_raise 9) fun v41 =>
    oR ())
    (oB (oPI 1282 0 0) fun _ =>
    oB (M_Va_add 10 0 1 0) fun _ =>
    oB (M_Va_add 10 0 3 9) fun _ =>
    oB (oPI 73 0 2) fun _ =>
    oR ())

def M_Mo_goesOn_L232 : (Int32 × Int32) → M ((Int32 × Int32) ⊕ ((Int32))) := fun x =>
  oB (oGI 898 0) fun v238 =>
  oC (v238 ≤ x.2)
    (oR (Sum.inr x.1))
    (oB (M_Va_set_ 7 0 (x.2 - x.1) 7 0 x.2) fun _ =>
    oR (Sum.inl (x.1, x.2 + 1)))

def M_Mo_goesOn_L144 : (Int32) → M ((Int32) ⊕ ((Unit))) := fun x =>
  oB (oGI 898 0) fun v150 =>
  oC (v150 ≤ x)
    (oR (Sum.inr ()))
    (oB (M_Va_add_ 10 0 7 0 x) fun _ =>
    oR (Sum.inl (x + 1)))

def M_Mo_goesOn (l1 : Int32) (l2 : Int32) (l3 : Int32) (l4 : Int32) (l5 : Int32) : M (Unit) :=
  oB (oGI 3584 l1) fun v1 =>
  oC (v1 = l2)
    (oB (oGI 3585 l1) fun v9 =>
    oC (v9 = 0)
      (oB (oK ((0 : Int32) ≤ 0 ∧ 0 < 33)) fun _ =>
      oC (l1 = 0)
        (M_Mo_goesOn_j25 l3)
        (oB (M_Mo_push l3 l4) fun v84 =>
        oC (v84 = 0)
          (oB (oPI 898 0 0) fun _ =>
          oR ())
          (oB (oGI 72 0) fun v101 =>
          oB (oPI 3590 l1 v101) fun _ =>
          oB (oGI 72 0) fun v108 =>
          oB (oK ((0 : Int32) ≤ v108 ∧ v108 < 33)) fun _ =>
          oB (oPI 3585 v108 2) fun _ =>
          oB (oPI 3585 l1 1) fun _ =>
          oB (oPI 72 0 l1) fun _ =>
          oB (oGI 3589 l1) fun v126 =>
          oC (v126 = 0)
            (oB (oPI 3589 l1 1) fun _ =>
            oB (oAI 26 260 l1 0) fun v203 =>
            oB (oPI 75 0 v203) fun _ =>
            oB (oAL 27 260 l1 0) fun v216 =>
            oB (oPL 76 0 v216) fun _ =>
            oB (oPI 3202 l1 0) fun _ =>
            oB (oW M_Mo_goesOn_L232 (l5, l5)) fun e232 =>
            oB (oGI 898 0) fun v273 =>
            oB (oPI 898 0 (v273 - e232)) fun _ =>
            oB (oPI 73 0 1) fun _ =>
            oR ())
            (oB (oPI 1282 0 0) fun _ =>
            oB (oW M_Mo_goesOn_L144 l5) fun e144 =>
            oB (oPI 898 0 0) fun _ =>
            oB (oPI 73 0 2) fun _ =>
            oR ()))))
      (M_Mo_goesOn_j25 l3))
    (M_Mo_goesOn_j25 l3)

theorem cv_Mo_goesOn : CV y_Mo_goesOn b_Mo_goesOn 7 none 5 := ⟨kw_228, kw_229, kw_17, k_Mo_goesOn, by decide +kernel⟩
theorem j_Mo_goesOn_j25 {X : Cx} {q : PL} (g : Gd X y_Mo_goesOn b_Mo_goesOn 7 none 2 45 R_Mo) {o : (Unit) × S1} (hR : Rt X q o.2 none) (l3 : Int32) (s : S1) (ls : Array Slot) (hl : lv_has ls 7 [(0, .ref (q.1 0 0)), (3, .int l3)]) (h : M_Mo_goesOn_j25 l3 s = some o) : WW X q s 25 ls [] := by
  unfold M_Mo_goesOn_j25 at h
  refine ww_aload_n (pc := 25) g.1 d_Mo_goesOn_25 rfl (lv_at hl 0 rfl) ?_
  refine ww_gR (pc := 26) g (k := 77) cl_Mo (pz rfl (by decide)) (by decide) (Or.inl kw_188) (f := 77) (t := 7) rfl rfl rfl d_Mo_goesOn_26 ?_
  refine ww_iconst (pc := 29) g.1 (v := 0) d_Mo_goesOn_29 (by decide) ?_
  refine ww_pI (pc := 30) g (k := 2) (cl_Va (Or.inl ⟨by decide, rfl⟩)) (pz rfl (by decide)) (by decide) (Or.inl kw_185) rfl (f := 898) rfl rfl rfl rfl d_Mo_goesOn_30 h fun s hs h => ?_
  refine ww_iload_n (pc := 33) g.1 d_Mo_goesOn_33 rfl (lv_at hl 1 rfl) ?_
  refine ww_iconst (pc := 34) g.1 (v := 3) d_Mo_goesOn_34 (by decide) ?_
  refine ww_icmp_ne (pc := 35) (tgt := 46) g.1 d_Mo_goesOn_35 (by decide) h (fun c h => ?_) (fun c h => ?_)
  · refine ww_aload_n (pc := 46) g.1 d_Mo_goesOn_46 rfl (lv_at hl 0 rfl) ?_
    refine ww_gR (pc := 47) g (k := 78) cl_Mo (pz rfl (by decide)) (by decide) (Or.inl kw_184) (f := 78) (t := 10) rfl rfl rfl d_Mo_goesOn_47 ?_
    refine ww_iconst (pc := 50) g.1 (v := 0) d_Mo_goesOn_50 (by decide) ?_
    refine ww_pI (pc := 51) g (k := 2) (cl_Va (Or.inl ⟨by decide, rfl⟩)) (pz rfl (by decide)) (by decide) (Or.inl kw_185) rfl (f := 1282) rfl rfl rfl rfl d_Mo_goesOn_51 h fun s hs h => ?_
    refine ww_aload_n (pc := 54) g.1 d_Mo_goesOn_54 rfl (lv_at hl 0 rfl) ?_
    refine ww_gR (pc := 55) g (k := 78) cl_Mo (pz rfl (by decide)) (by decide) (Or.inl kw_184) (f := 78) (t := 10) rfl rfl rfl d_Mo_goesOn_55 ?_
    refine ww_iconst (pc := 58) g.1 (v := 1) d_Mo_goesOn_58 (by decide) ?_
    refine ww_lconst (pc := 59) g.1 (v := 0) d_Mo_goesOn_59 (by decide) ?_
    obtain ⟨v60, s, hc60, h⟩ := oB_of h
    refine ww_callV (pc := 60) (rest := []) g cv_Va_add (Or.inl kw_193) (cl_Va (Or.inl ⟨by decide, rfl⟩)) (pz rfl (by decide)) (ct_Va_add (Or.inl ⟨by decide, rfl⟩) hc60) ⟨by decide, by decide⟩ rfl hl.1 (Nat.le_of_ble_eq_true rfl) d_Mo_goesOn_60 rfl ?_
    refine ww_st (st' := []) rfl ?_
    refine ww_aload_n (pc := 63) g.1 d_Mo_goesOn_63 rfl (lv_at hl 0 rfl) ?_
    refine ww_gR (pc := 64) g (k := 78) cl_Mo (pz rfl (by decide)) (by decide) (Or.inl kw_184) (f := 78) (t := 10) rfl rfl rfl d_Mo_goesOn_64 ?_
    refine ww_iconst (pc := 67) g.1 (v := 3) d_Mo_goesOn_67 (by decide) ?_
    refine ww_ldc2 (pc := 68) g (v := 9) kw_221 d_Mo_goesOn_68 ?_
    obtain ⟨v71, s, hc71, h⟩ := oB_of h
    refine ww_callV (pc := 71) (rest := []) g cv_Va_add (Or.inl kw_193) (cl_Va (Or.inl ⟨by decide, rfl⟩)) (pz rfl (by decide)) (ct_Va_add (Or.inl ⟨by decide, rfl⟩) hc71) ⟨by decide, by decide⟩ rfl hl.1 (Nat.le_of_ble_eq_true rfl) d_Mo_goesOn_71 rfl ?_
    refine ww_st (st' := []) rfl ?_
    refine ww_aload_n (pc := 74) g.1 d_Mo_goesOn_74 rfl (lv_at hl 0 rfl) ?_
    refine ww_iconst (pc := 75) g.1 (v := 2) d_Mo_goesOn_75 (by decide) ?_
    refine ww_pI (pc := 76) g (k := 73) cl_Mo (pz rfl (by decide)) (by decide) (Or.inl kw_77) rfl (f := 73) rfl rfl rfl rfl d_Mo_goesOn_76 h fun s hs h => ?_
    exact ww_vretH (pc := 79) g h hR d_Mo_goesOn_79
  · refine ww_aload_n (pc := 38) g.1 d_Mo_goesOn_38 rfl (lv_at hl 0 rfl) ?_
    refine ww_bipush (pc := 39) g.1 (v := 9) d_Mo_goesOn_39 (by decide) ?_
    obtain ⟨v41, s, hc41, h⟩ := oB_of h
    refine ww_callV (pc := 41) (rest := []) g cv_Mo_raise (Or.inl kw_162) cl_Mo (pz rfl (by decide)) (ct_Mo_raise hc41) ⟨by decide, by decide⟩ rfl hl.1 (Nat.le_of_ble_eq_true rfl) d_Mo_goesOn_41 rfl ?_
    refine ww_st (st' := [.int v41]) rfl ?_
    refine ww_pop (pc := 44) g.1 d_Mo_goesOn_44 rfl ?_
    exact ww_vretH (pc := 45) g h hR d_Mo_goesOn_45

theorem lp_Mo_goesOn_L232 {X : Cx} {q : PL} (g : Gd X y_Mo_goesOn b_Mo_goesOn 7 none 2 45 R_Mo) (x : Int32 × Int32) (s : S1) (o : ((Int32 × Int32) ⊕ ((Int32))) × S1) (h : M_Mo_goesOn_L232 x s = some o) (hR : (Sum.elim (fun y : Int32 × Int32 => ∀ ls : Array Slot, lv_has ls 7 [(0, .ref (q.1 0 0)), (5, .int y.1), (6, .int y.2)] → WW X q o.2 232 ls []) (fun y : Int32 => ∀ ls : Array Slot, lv_has ls 7 [(0, .ref (q.1 0 0)), (5, .int y)] → WW X q o.2 268 ls []) o.1)) : ∀ ls : Array Slot, lv_has ls 7 [(0, .ref (q.1 0 0)), (5, .int x.1), (6, .int x.2)] → WW X q s 232 ls [] := by
  intro ls hl
  unfold M_Mo_goesOn_L232 at h
  refine ww_iload (pc := 232) g.1 d_Mo_goesOn_232 (lv_at hl 2 rfl) ?_
  refine ww_aload_n (pc := 234) g.1 d_Mo_goesOn_234 rfl (lv_at hl 0 rfl) ?_
  refine ww_gR (pc := 235) g (k := 77) cl_Mo (pz rfl (by decide)) (by decide) (Or.inl kw_188) (f := 77) (t := 7) rfl rfl rfl d_Mo_goesOn_235 ?_
  refine ww_gI (pc := 238) g (k := 2) (cl_Va (Or.inl ⟨by decide, rfl⟩)) (pz rfl (by decide)) (by decide) (Or.inl kw_185) (f := 898) rfl rfl d_Mo_goesOn_238 h fun v238 h => ?_
  refine ww_icmp_ge (pc := 241) (tgt := 268) g.1 d_Mo_goesOn_241 (by decide) h (fun c h => ?_) (fun c h => ?_)
  · rw [oR_eq h] at hR
    exact hR ls (lv_sub hl [0, 1] rfl)
  · refine ww_aload_n (pc := 244) g.1 d_Mo_goesOn_244 rfl (lv_at hl 0 rfl) ?_
    refine ww_gR (pc := 245) g (k := 77) cl_Mo (pz rfl (by decide)) (by decide) (Or.inl kw_188) (f := 77) (t := 7) rfl rfl rfl d_Mo_goesOn_245 ?_
    refine ww_iload (pc := 248) g.1 d_Mo_goesOn_248 (lv_at hl 2 rfl) ?_
    refine ww_iload (pc := 250) g.1 d_Mo_goesOn_250 (lv_at hl 1 rfl) ?_
    refine ww_isub (pc := 252) g.1 d_Mo_goesOn_252 ?_
    refine ww_aload_n (pc := 253) g.1 d_Mo_goesOn_253 rfl (lv_at hl 0 rfl) ?_
    refine ww_gR (pc := 254) g (k := 77) cl_Mo (pz rfl (by decide)) (by decide) (Or.inl kw_188) (f := 77) (t := 7) rfl rfl rfl d_Mo_goesOn_254 ?_
    refine ww_iload (pc := 257) g.1 d_Mo_goesOn_257 (lv_at hl 2 rfl) ?_
    obtain ⟨v259, s, hc259, h⟩ := oB_of h
    refine ww_callV (pc := 259) (rest := []) g cv_Va_set_ (Or.inl kw_201) (cl_Va (Or.inl ⟨by decide, rfl⟩)) (pz rfl (by decide)) (ct_Va_set_ (Or.inl ⟨by decide, rfl⟩) (Or.inl ⟨by decide, rfl⟩) hc259) ⟨by decide, by decide⟩ rfl hl.1 (Nat.le_of_ble_eq_true rfl) d_Mo_goesOn_259 rfl ?_
    refine ww_st (st' := []) rfl ?_
    refine ww_iinc (pc := 262) g.1 (v := x.2 + 1) (lv' := [(6, .int (x.2 + 1)), (0, .ref (q.1 0 0)), (5, .int x.1)]) d_Mo_goesOn_262 hl (k := 2) rfl (by rfl) (by decide) rfl fun ls hl => ?_
    refine ww_goto (pc := 265) (tgt := 232) g.1 d_Mo_goesOn_265 (by decide) ?_
    rw [oR_eq h] at hR
    exact hR ls (lv_sub hl [1, 2, 0] rfl)

theorem lp_Mo_goesOn_L144 {X : Cx} {q : PL} (g : Gd X y_Mo_goesOn b_Mo_goesOn 7 none 2 45 R_Mo) (x : Int32) (s : S1) (o : ((Int32) ⊕ ((Unit))) × S1) (h : M_Mo_goesOn_L144 x s = some o) (hR : (Sum.elim (fun y : Int32 => ∀ ls : Array Slot, lv_has ls 7 [(0, .ref (q.1 0 0)), (6, .int y)] → WW X q o.2 144 ls []) (fun y : Unit => ∀ ls : Array Slot, lv_has ls 7 [(0, .ref (q.1 0 0))] → WW X q o.2 175 ls []) o.1)) : ∀ ls : Array Slot, lv_has ls 7 [(0, .ref (q.1 0 0)), (6, .int x)] → WW X q s 144 ls [] := by
  intro ls hl
  unfold M_Mo_goesOn_L144 at h
  refine ww_iload (pc := 144) g.1 d_Mo_goesOn_144 (lv_at hl 1 rfl) ?_
  refine ww_aload_n (pc := 146) g.1 d_Mo_goesOn_146 rfl (lv_at hl 0 rfl) ?_
  refine ww_gR (pc := 147) g (k := 77) cl_Mo (pz rfl (by decide)) (by decide) (Or.inl kw_188) (f := 77) (t := 7) rfl rfl rfl d_Mo_goesOn_147 ?_
  refine ww_gI (pc := 150) g (k := 2) (cl_Va (Or.inl ⟨by decide, rfl⟩)) (pz rfl (by decide)) (by decide) (Or.inl kw_185) (f := 898) rfl rfl d_Mo_goesOn_150 h fun v150 h => ?_
  refine ww_icmp_ge (pc := 153) (tgt := 175) g.1 d_Mo_goesOn_153 (by decide) h (fun c h => ?_) (fun c h => ?_)
  · rw [oR_eq h] at hR
    exact hR ls (lv_sub hl [0] rfl)
  · refine ww_aload_n (pc := 156) g.1 d_Mo_goesOn_156 rfl (lv_at hl 0 rfl) ?_
    refine ww_gR (pc := 157) g (k := 78) cl_Mo (pz rfl (by decide)) (by decide) (Or.inl kw_184) (f := 78) (t := 10) rfl rfl rfl d_Mo_goesOn_157 ?_
    refine ww_aload_n (pc := 160) g.1 d_Mo_goesOn_160 rfl (lv_at hl 0 rfl) ?_
    refine ww_gR (pc := 161) g (k := 77) cl_Mo (pz rfl (by decide)) (by decide) (Or.inl kw_188) (f := 77) (t := 7) rfl rfl rfl d_Mo_goesOn_161 ?_
    refine ww_iload (pc := 164) g.1 d_Mo_goesOn_164 (lv_at hl 1 rfl) ?_
    obtain ⟨v166, s, hc166, h⟩ := oB_of h
    refine ww_callV (pc := 166) (rest := []) g cv_Va_add_ (Or.inl kw_227) (cl_Va (Or.inl ⟨by decide, rfl⟩)) (pz rfl (by decide)) (ct_Va_add_ (Or.inl ⟨by decide, rfl⟩) (Or.inl ⟨by decide, rfl⟩) hc166) ⟨by decide, by decide⟩ rfl hl.1 (Nat.le_of_ble_eq_true rfl) d_Mo_goesOn_166 rfl ?_
    refine ww_st (st' := []) rfl ?_
    refine ww_iinc (pc := 169) g.1 (v := x + 1) (lv' := [(6, .int (x + 1)), (0, .ref (q.1 0 0))]) d_Mo_goesOn_169 hl (k := 1) rfl (by rfl) (by decide) rfl fun ls hl => ?_
    refine ww_goto (pc := 172) (tgt := 144) g.1 d_Mo_goesOn_172 (by decide) ?_
    rw [oR_eq h] at hR
    exact hR ls (lv_sub hl [1, 0] rfl)

theorem ct_Mo_goesOn {l : Launch} {P : PP} {q : PL} {s s' : S1} {l1 : Int32} {l2 : Int32} {l3 : Int32} {l4 : Int32} {l5 : Int32} (hp0 : 0 ≤ l1 ∧ l1 < 33) {r : Unit} (h : M_Mo_goesOn l1 l2 l3 l4 l5 s = some (r, s')) : Ct l y_Mo_goesOn b_Mo_goesOn 7 none 2 45 P q s [.ref (q.1 0 0), .ref (q.1 28 l1), .int l2, .int l3, .int l4, .int l5] none q s' := by
  refine ct_of (by decide) (Nat.le_of_ble_eq_true rfl) fun X ls eP el g hR hl => ?_
  have hR : Rt X q ((r, s') : Unit × S1).2 none := hR
  have hl : lv_has ls 7 [(0, .ref (q.1 0 0)), (1, .ref (q.1 28 l1)), (2, .int l2), (3, .int l3), (4, .int l4), (5, .int l5)] := hl
  generalize (r, s') = o at h hR
  unfold M_Mo_goesOn at h
  refine ww_aload_n (pc := 0) g.1 d_Mo_goesOn_0 rfl (lv_at hl 1 rfl) ?_
  refine ww_gI (pc := 1) g (k := 0) cl_Th (pt rfl rfl hp0) (by decide) (Or.inl kw_222) (f := 3584) rfl rfl d_Mo_goesOn_1 h fun v1 h => ?_
  refine ww_iload_n (pc := 4) g.1 d_Mo_goesOn_4 rfl (lv_at hl 2 rfl) ?_
  refine ww_icmp_ne (pc := 5) (tgt := 25) g.1 d_Mo_goesOn_5 (by decide) h (fun c h => ?_) (fun c h => ?_)
  · exact j_Mo_goesOn_j25 g hR l3 s ls (lv_sub hl [0, 3] rfl) h
  · refine ww_aload_n (pc := 8) g.1 d_Mo_goesOn_8 rfl (lv_at hl 1 rfl) ?_
    refine ww_gI (pc := 9) g (k := 1) cl_Th (pt rfl rfl hp0) (by decide) (Or.inl kw_223) (f := 3585) rfl rfl d_Mo_goesOn_9 h fun v9 h => ?_
    refine ww_if_ne (pc := 12) (tgt := 25) g.1 d_Mo_goesOn_12 (by decide) h (fun c h => ?_) (fun c h => ?_)
    · exact j_Mo_goesOn_j25 g hR l3 s ls (lv_sub hl [0, 3] rfl) h
    · refine ww_aload_n (pc := 15) g.1 d_Mo_goesOn_15 rfl (lv_at hl 1 rfl) ?_
      refine ww_aload_n (pc := 16) g.1 d_Mo_goesOn_16 rfl (lv_at hl 0 rfl) ?_
      refine ww_gR (pc := 17) g (k := 71) cl_Mo (pz rfl (by decide)) (by decide) (Or.inl kw_90) (f := 71) (t := 76) rfl rfl rfl d_Mo_goesOn_17 ?_
      refine ww_iconst (pc := 20) g.1 (v := 0) d_Mo_goesOn_20 (by decide) ?_
      refine ww_at (pc := 21) g (t := 28) (pz rfl (by decide)) rfl rfl rfl d_Mo_goesOn_21 h fun ca21 h => ?_
      refine ww_acmp_ne (pc := 22) (tgt := 80) g.1 (pt rfl rfl hp0) (pt rfl rfl ca21) d_Mo_goesOn_22 (by decide) h (fun c h => ?_) (fun c h => ?_)
      · refine ww_aload_n (pc := 80) g.1 d_Mo_goesOn_80 rfl (lv_at hl 0 rfl) ?_
        refine ww_iload_n (pc := 81) g.1 d_Mo_goesOn_81 rfl (lv_at hl 3 rfl) ?_
        refine ww_iload (pc := 82) g.1 d_Mo_goesOn_82 (lv_at hl 4 rfl) ?_
        obtain ⟨v84, s, hc84, h⟩ := oB_of h
        refine ww_callV (pc := 84) (rest := []) g cv_Mo_push (Or.inl kw_196) cl_Mo (pz rfl (by decide)) (ct_Mo_push hc84) ⟨by decide, by decide⟩ rfl hl.1 (Nat.le_of_ble_eq_true rfl) d_Mo_goesOn_84 rfl ?_
        refine ww_st (st' := [.int v84]) rfl ?_
        refine ww_if_ne (pc := 87) (tgt := 99) g.1 d_Mo_goesOn_87 (by decide) h (fun c h => ?_) (fun c h => ?_)
        · refine ww_aload_n (pc := 99) g.1 d_Mo_goesOn_99 rfl (lv_at hl 1 rfl) ?_
          refine ww_aload_n (pc := 100) g.1 d_Mo_goesOn_100 rfl (lv_at hl 0 rfl) ?_
          refine ww_gV (pc := 101) g (k := 72) cl_Mo (pz rfl (by decide)) (by decide) (Or.inl kw_155) (f := 72) (t := 28) rfl rfl rfl d_Mo_goesOn_101 h fun v101 h => ?_
          refine ww_pV (pc := 104) g (k := 6) cl_Th (pt rfl rfl hp0) (by decide) (Or.inl kw_224) rfl (f := 3590) (t := 28) rfl rfl rfl rfl fits_vr d_Mo_goesOn_104 h fun s hs h => ?_
          refine ww_aload_n (pc := 107) g.1 d_Mo_goesOn_107 rfl (lv_at hl 0 rfl) ?_
          refine ww_gV (pc := 108) g (k := 72) cl_Mo (pz rfl (by decide)) (by decide) (Or.inl kw_155) (f := 72) (t := 28) rfl rfl rfl d_Mo_goesOn_108 h fun v108 h => ?_
          refine ww_ok h fun cn108 h => ?_
          refine ww_nn cn108 ?_
          refine ww_iconst (pc := 111) g.1 (v := 2) d_Mo_goesOn_111 (by decide) ?_
          refine ww_pI (pc := 112) g (k := 1) cl_Th (pt rfl rfl cn108) (by decide) (Or.inl kw_223) rfl (f := 3585) rfl rfl rfl rfl d_Mo_goesOn_112 h fun s hs h => ?_
          refine ww_aload_n (pc := 115) g.1 d_Mo_goesOn_115 rfl (lv_at hl 1 rfl) ?_
          refine ww_iconst (pc := 116) g.1 (v := 1) d_Mo_goesOn_116 (by decide) ?_
          refine ww_pI (pc := 117) g (k := 1) cl_Th (pt rfl rfl hp0) (by decide) (Or.inl kw_223) rfl (f := 3585) rfl rfl rfl rfl d_Mo_goesOn_117 h fun s hs h => ?_
          refine ww_aload_n (pc := 120) g.1 d_Mo_goesOn_120 rfl (lv_at hl 0 rfl) ?_
          refine ww_aload_n (pc := 121) g.1 d_Mo_goesOn_121 rfl (lv_at hl 1 rfl) ?_
          refine ww_st (st' := [vr q 28 l1, .ref (q.1 0 0)]) (by rw [vr_nn hp0]) ?_
          refine ww_pV (pc := 122) g (k := 72) cl_Mo (pz rfl (by decide)) (by decide) (Or.inl kw_155) rfl (f := 72) (t := 28) rfl rfl rfl rfl fits_vr d_Mo_goesOn_122 h fun s hs h => ?_
          refine ww_aload_n (pc := 125) g.1 d_Mo_goesOn_125 rfl (lv_at hl 1 rfl) ?_
          refine ww_gI (pc := 126) g (k := 5) cl_Th (pt rfl rfl hp0) (by decide) (Or.inl kw_225) (f := 3589) rfl rfl d_Mo_goesOn_126 h fun v126 h => ?_
          refine ww_if_eq (pc := 129) (tgt := 189) g.1 d_Mo_goesOn_129 (by decide) h (fun c h => ?_) (fun c h => ?_)
          · refine ww_aload_n (pc := 189) g.1 d_Mo_goesOn_189 rfl (lv_at hl 1 rfl) ?_
            refine ww_iconst (pc := 190) g.1 (v := 1) d_Mo_goesOn_190 (by decide) ?_
            refine ww_pI (pc := 191) g (k := 5) cl_Th (pt rfl rfl hp0) (by decide) (Or.inl kw_225) rfl (f := 3589) rfl rfl rfl rfl d_Mo_goesOn_191 h fun s hs h => ?_
            refine ww_aload_n (pc := 194) g.1 d_Mo_goesOn_194 rfl (lv_at hl 0 rfl) ?_
            refine ww_aload_n (pc := 195) g.1 d_Mo_goesOn_195 rfl (lv_at hl 1 rfl) ?_
            refine ww_gR (pc := 196) g (k := 9) cl_Th (pt rfl rfl hp0) (by decide) (Or.inl kw_226) (f := 3593) (t := 25) rfl rfl rfl d_Mo_goesOn_196 ?_
            refine ww_gR (pc := 199) g (k := 0) (cl_Va (Or.inr ⟨by decide, hp0⟩)) (pt rfl rfl hp0) (by decide) (Or.inl kw_92) (f := 3200) (t := 26) rfl rfl rfl d_Mo_goesOn_199 ?_
            refine ww_iconst (pc := 202) g.1 (v := 0) d_Mo_goesOn_202 (by decide) ?_
            refine ww_ab (pc := 203) g (pt rfl rfl hp0) rfl rfl d_Mo_goesOn_203 h fun v203 h => ?_
            refine ww_pI (pc := 204) g (k := 75) cl_Mo (pz rfl (by decide)) (by decide) (Or.inl kw_198) rfl (f := 75) rfl rfl rfl rfl d_Mo_goesOn_204 h fun s hs h => ?_
            refine ww_aload_n (pc := 207) g.1 d_Mo_goesOn_207 rfl (lv_at hl 0 rfl) ?_
            refine ww_aload_n (pc := 208) g.1 d_Mo_goesOn_208 rfl (lv_at hl 1 rfl) ?_
            refine ww_gR (pc := 209) g (k := 9) cl_Th (pt rfl rfl hp0) (by decide) (Or.inl kw_226) (f := 3593) (t := 25) rfl rfl rfl d_Mo_goesOn_209 ?_
            refine ww_gR (pc := 212) g (k := 1) (cl_Va (Or.inr ⟨by decide, hp0⟩)) (pt rfl rfl hp0) (by decide) (Or.inl kw_95) (f := 3201) (t := 27) rfl rfl rfl d_Mo_goesOn_212 ?_
            refine ww_iconst (pc := 215) g.1 (v := 0) d_Mo_goesOn_215 (by decide) ?_
            refine ww_al (pc := 216) g (pt rfl rfl hp0) rfl rfl d_Mo_goesOn_216 h fun v216 h => ?_
            refine ww_pL (pc := 217) g (k := 76) cl_Mo (pz rfl (by decide)) (by decide) (Or.inl kw_200) rfl (f := 76) rfl rfl rfl rfl d_Mo_goesOn_217 h fun s hs h => ?_
            refine ww_aload_n (pc := 220) g.1 d_Mo_goesOn_220 rfl (lv_at hl 1 rfl) ?_
            refine ww_gR (pc := 221) g (k := 9) cl_Th (pt rfl rfl hp0) (by decide) (Or.inl kw_226) (f := 3593) (t := 25) rfl rfl rfl d_Mo_goesOn_221 ?_
            refine ww_iconst (pc := 224) g.1 (v := 0) d_Mo_goesOn_224 (by decide) ?_
            refine ww_pI (pc := 225) g (k := 2) (cl_Va (Or.inr ⟨by decide, hp0⟩)) (pt rfl rfl hp0) (by decide) (Or.inl kw_185) rfl (f := 3202) rfl rfl rfl rfl d_Mo_goesOn_225 h fun s hs h => ?_
            refine ww_iload (pc := 228) g.1 d_Mo_goesOn_228 (lv_at hl 5 rfl) ?_
            refine ww_istore (pc := 230) g.1 (lv' := [(6, .int l5), (0, .ref (q.1 0 0)), (1, .ref (q.1 28 l1)), (2, .int l2), (3, .int l3), (4, .int l4), (5, .int l5)]) d_Mo_goesOn_230 hl (by decide) rfl fun ls hl => ?_
            obtain ⟨e232, s1, hw, h⟩ := oB_of h
            refine oW_rule (Wh := fun (x : Int32 × Int32) (s : S1) => ∀ ls : Array Slot, lv_has ls 7 [(0, .ref (q.1 0 0)), (5, .int x.1), (6, .int x.2)] → WW X q s 232 ls []) (We := fun (e : (Int32)) (s : S1) => ∀ ls : Array Slot, lv_has ls 7 [(0, .ref (q.1 0 0)), (5, .int e)] → WW X q s 268 ls []) (fun x s o hb hc => lp_Mo_goesOn_L232 (q := q) g x s o hb hc) hw ?_ ls (lv_sub hl [1, 6, 0] rfl)
            clear hw hl
            clear ls
            intro ls hl
            generalize s1 = s at h ⊢
            refine ww_aload_n (pc := 268) g.1 d_Mo_goesOn_268 rfl (lv_at hl 0 rfl) ?_
            refine ww_gR (pc := 269) g (k := 77) cl_Mo (pz rfl (by decide)) (by decide) (Or.inl kw_188) (f := 77) (t := 7) rfl rfl rfl d_Mo_goesOn_269 ?_
            refine ww_dup (pc := 272) g.1 d_Mo_goesOn_272 rfl ?_
            refine ww_gI (pc := 273) g (k := 2) (cl_Va (Or.inl ⟨by decide, rfl⟩)) (pz rfl (by decide)) (by decide) (Or.inl kw_185) (f := 898) rfl rfl d_Mo_goesOn_273 h fun v273 h => ?_
            refine ww_iload (pc := 276) g.1 d_Mo_goesOn_276 (lv_at hl 1 rfl) ?_
            refine ww_isub (pc := 278) g.1 d_Mo_goesOn_278 ?_
            refine ww_pI (pc := 279) g (k := 2) (cl_Va (Or.inl ⟨by decide, rfl⟩)) (pz rfl (by decide)) (by decide) (Or.inl kw_185) rfl (f := 898) rfl rfl rfl rfl d_Mo_goesOn_279 h fun s hs h => ?_
            refine ww_aload_n (pc := 282) g.1 d_Mo_goesOn_282 rfl (lv_at hl 0 rfl) ?_
            refine ww_iconst (pc := 283) g.1 (v := 1) d_Mo_goesOn_283 (by decide) ?_
            refine ww_pI (pc := 284) g (k := 73) cl_Mo (pz rfl (by decide)) (by decide) (Or.inl kw_77) rfl (f := 73) rfl rfl rfl rfl d_Mo_goesOn_284 h fun s hs h => ?_
            exact ww_vretH (pc := 287) g h hR d_Mo_goesOn_287
          · refine ww_aload_n (pc := 132) g.1 d_Mo_goesOn_132 rfl (lv_at hl 0 rfl) ?_
            refine ww_gR (pc := 133) g (k := 78) cl_Mo (pz rfl (by decide)) (by decide) (Or.inl kw_184) (f := 78) (t := 10) rfl rfl rfl d_Mo_goesOn_133 ?_
            refine ww_iconst (pc := 136) g.1 (v := 0) d_Mo_goesOn_136 (by decide) ?_
            refine ww_pI (pc := 137) g (k := 2) (cl_Va (Or.inl ⟨by decide, rfl⟩)) (pz rfl (by decide)) (by decide) (Or.inl kw_185) rfl (f := 1282) rfl rfl rfl rfl d_Mo_goesOn_137 h fun s hs h => ?_
            refine ww_iload (pc := 140) g.1 d_Mo_goesOn_140 (lv_at hl 5 rfl) ?_
            refine ww_istore (pc := 142) g.1 (lv' := [(6, .int l5), (0, .ref (q.1 0 0)), (1, .ref (q.1 28 l1)), (2, .int l2), (3, .int l3), (4, .int l4), (5, .int l5)]) d_Mo_goesOn_142 hl (by decide) rfl fun ls hl => ?_
            obtain ⟨e144, s1, hw, h⟩ := oB_of h
            refine oW_rule (Wh := fun (x : Int32) (s : S1) => ∀ ls : Array Slot, lv_has ls 7 [(0, .ref (q.1 0 0)), (6, .int x)] → WW X q s 144 ls []) (We := fun (e : (Unit)) (s : S1) => ∀ ls : Array Slot, lv_has ls 7 [(0, .ref (q.1 0 0))] → WW X q s 175 ls []) (fun x s o hb hc => lp_Mo_goesOn_L144 (q := q) g x s o hb hc) hw ?_ ls (lv_sub hl [1, 0] rfl)
            clear hw hl
            clear ls
            intro ls hl
            generalize s1 = s at h ⊢
            refine ww_aload_n (pc := 175) g.1 d_Mo_goesOn_175 rfl (lv_at hl 0 rfl) ?_
            refine ww_gR (pc := 176) g (k := 77) cl_Mo (pz rfl (by decide)) (by decide) (Or.inl kw_188) (f := 77) (t := 7) rfl rfl rfl d_Mo_goesOn_176 ?_
            refine ww_iconst (pc := 179) g.1 (v := 0) d_Mo_goesOn_179 (by decide) ?_
            refine ww_pI (pc := 180) g (k := 2) (cl_Va (Or.inl ⟨by decide, rfl⟩)) (pz rfl (by decide)) (by decide) (Or.inl kw_185) rfl (f := 898) rfl rfl rfl rfl d_Mo_goesOn_180 h fun s hs h => ?_
            refine ww_aload_n (pc := 183) g.1 d_Mo_goesOn_183 rfl (lv_at hl 0 rfl) ?_
            refine ww_iconst (pc := 184) g.1 (v := 2) d_Mo_goesOn_184 (by decide) ?_
            refine ww_pI (pc := 185) g (k := 73) cl_Mo (pz rfl (by decide)) (by decide) (Or.inl kw_77) rfl (f := 73) rfl rfl rfl rfl d_Mo_goesOn_185 h fun s hs h => ?_
            exact ww_vretH (pc := 188) g h hR d_Mo_goesOn_188
        · refine ww_aload_n (pc := 90) g.1 d_Mo_goesOn_90 rfl (lv_at hl 0 rfl) ?_
          refine ww_gR (pc := 91) g (k := 77) cl_Mo (pz rfl (by decide)) (by decide) (Or.inl kw_188) (f := 77) (t := 7) rfl rfl rfl d_Mo_goesOn_91 ?_
          refine ww_iconst (pc := 94) g.1 (v := 0) d_Mo_goesOn_94 (by decide) ?_
          refine ww_pI (pc := 95) g (k := 2) (cl_Va (Or.inl ⟨by decide, rfl⟩)) (pz rfl (by decide)) (by decide) (Or.inl kw_185) rfl (f := 898) rfl rfl rfl rfl d_Mo_goesOn_95 h fun s hs h => ?_
          exact ww_vretH (pc := 98) g h hR d_Mo_goesOn_98
      · exact j_Mo_goesOn_j25 g hR l3 s ls (lv_sub hl [0, 3] rfl) h

