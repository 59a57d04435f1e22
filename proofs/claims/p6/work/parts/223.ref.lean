theorem kw_434 : Cond.methodLink R_Mo 847 y_Mo_border ∈ wA := kinm (show _ ∈ tables_1 from (List.mem_append_right _ (List.mem_append_right _ (List.mem_append_right _ (List.mem_append_right _ (List.mem_append_right _ (List.mem_append_right _ (List.mem_append_right _ (List.mem_append_right _ (List.mem_append_right _ (List.mem_append_right _ (List.mem_append_right _ (List.mem_append_right _ (List.mem_append_left _ (List.mem_of_getElem? (l := tables_1_13) (i := 9) (by decide +kernel)))))))))))))))) (by decide +kernel)
theorem kw_435 : Cond.instanceMethod y_Mo_length ∈ wA := kinm (show _ ∈ tables_1 from (List.mem_append_right _ (List.mem_append_right _ (List.mem_append_right _ (List.mem_append_right _ (List.mem_append_right _ (List.mem_append_right _ (List.mem_append_right _ (List.mem_append_right _ (List.mem_append_right _ (List.mem_append_right _ (List.mem_append_right _ (List.mem_append_right _ (List.mem_append_left _ (List.mem_of_getElem? (l := tables_1_13) (i := 193) (by decide +kernel)))))))))))))))) (by decide +kernel)
theorem kw_436 : Cond.selects R_Mo y_Mo_length y_Mo_length ∈ wA := kinp 215 (by decide +kernel) (by decide +kernel)
def M_Mo_length (l1 : Int32) (l2 : Int32) (l3 : Int64) (l5r : Nat) (l5 : Int32) (l6 : Int32) : M (Unit) :=
  oC (l2 = 4)
    (oB (oAI 63 4100 0 l3.toInt32) fun v16 =>
    oB (M_Va_set l5r l5 l6 3 v16.toInt64) fun _ =>
    oR ())
    (oC (l2 = 5)
      (oB (M_Mo_meta l2 l3 16) fun v43 =>
      oC (v43 = 0)
        (oB (M_Mo_border l3.toInt32) fun v113 =>
        oB (M_Va_set l5r l5 l6 3 v113) fun _ =>
        oR ())
        (oB (oGI 66 0) fun v50 =>
        oB (oGL 67 0) fun v56 =>
        oB (oPI 898 0 0) fun _ =>
        oB (M_Va_add 7 0 l2 l3) fun _ =>
        oB (M_Mo_expect 1 l1 1) fun _ =>
        oB (oPI 75 0 v50) fun _ =>
        oB (oPL 76 0 v56) fun _ =>
        oB (oPI 73 0 1) fun _ =>
        oR ()))
      (oB (M_Mo_raise 2) fun v31 =>
      oR ()))

theorem cv_Mo_length : CV y_Mo_length b_Mo_length 10 none 5 := ⟨kw_435, kw_436, kw_17, k_Mo_length, by decide +kernel⟩
theorem ct_Mo_length {l : Launch} {P : PP} {q : PL} {s s' : S1} {l1 : Int32} {l2 : Int32} {l3 : Int64} {l5r : Nat} {l5 : Int32} {l6 : Int32} (hp0 : VOK l5r l5) {r : Unit} (h : M_Mo_length l1 l2 l3 l5r l5 l6 s = some (r, s')) : Ct l y_Mo_length b_Mo_length 10 none 5 123 P q s [.ref (q.1 0 0), .int l1, .int l2, .long l3, .ref (q.1 l5r l5), .int l6] none q s' := by
  refine ct_of (by decide) (Nat.le_of_ble_eq_true rfl) fun X ls eP el g hR hl => ?_
  have hR : Rt X q ((r, s') : Unit × S1).2 none := hR
  have hl : lv_has ls 10 [(0, .ref (q.1 0 0)), (1, .int l1), (2, .int l2), (3, .long l3), (5, .ref (q.1 l5r l5)), (6, .int l6)] := hl
  generalize (r, s') = o at h hR
  unfold M_Mo_length at h
  refine ww_iload_n (pc := 0) g.1 d_Mo_length_0 rfl (lv_at hl 2 rfl) ?_
  refine ww_iconst (pc := 1) g.1 (v := 4) d_Mo_length_1 (by decide) ?_
  refine ww_icmp_ne (pc := 2) (tgt := 24) g.1 d_Mo_length_2 (by decide) h (fun c h => ?_) (fun c h => ?_)
  · refine ww_iload_n (pc := 24) g.1 d_Mo_length_24 rfl (lv_at hl 2 rfl) ?_
    refine ww_iconst (pc := 25) g.1 (v := 5) d_Mo_length_25 (by decide) ?_
    refine ww_icmp_eq (pc := 26) (tgt := 38) g.1 d_Mo_length_26 (by decide) h (fun c h => ?_) (fun c h => ?_)
    · refine ww_aload_n (pc := 38) g.1 d_Mo_length_38 rfl (lv_at hl 0 rfl) ?_
      refine ww_iload_n (pc := 39) g.1 d_Mo_length_39 rfl (lv_at hl 2 rfl) ?_
      refine ww_lload_n (pc := 40) g.1 d_Mo_length_40 rfl (lv_at hl 3 rfl) ?_
      refine ww_bipush (pc := 41) g.1 (v := 16) d_Mo_length_41 (by decide) ?_
      obtain ⟨v43, s, hc43, h⟩ := oB_of h
      refine ww_callV (pc := 43) (rest := []) g cv_Mo_meta (Or.inl kw_415) cl_Mo (pz rfl (by decide)) (ct_Mo_meta hc43) ⟨by decide, by decide⟩ rfl hl.1 (Nat.le_of_ble_eq_true rfl) d_Mo_length_43 rfl ?_
      refine ww_st (st' := [.int v43]) rfl ?_
      refine ww_if_eq (pc := 46) (tgt := 105) g.1 d_Mo_length_46 (by decide) h (fun c h => ?_) (fun c h => ?_)
      · refine ww_aload (pc := 105) g.1 d_Mo_length_105 (lv_at hl 4 rfl) ?_
        refine ww_iload (pc := 107) g.1 d_Mo_length_107 (lv_at hl 5 rfl) ?_
        refine ww_iconst (pc := 109) g.1 (v := 3) d_Mo_length_109 (by decide) ?_
        refine ww_aload_n (pc := 110) g.1 d_Mo_length_110 rfl (lv_at hl 0 rfl) ?_
        refine ww_lload_n (pc := 111) g.1 d_Mo_length_111 rfl (lv_at hl 3 rfl) ?_
        refine ww_l2i (pc := 112) g.1 (v := l3.toInt32) d_Mo_length_112 rfl ?_
        obtain ⟨v113, s, hc113, h⟩ := oB_of h
        refine ww_callV (pc := 113) (rest := [.int 3, .int l6, .ref (q.1 l5r l5)]) g cv_Mo_border (Or.inl kw_434) cl_Mo (pz rfl (by decide)) (ct_Mo_border hc113) ⟨by decide, by decide⟩ rfl hl.1 (Nat.le_of_ble_eq_true rfl) d_Mo_length_113 rfl ?_
        refine ww_st (st' := [.long v113, .int 3, .int l6, .ref (q.1 l5r l5)]) rfl ?_
        obtain ⟨v116, s, hc116, h⟩ := oB_of h
        refine ww_callV (pc := 116) (rest := []) g cv_Va_set (Or.inl kw_101) (cl_Va hp0) (vok_p hp0).1 (ct_Va_set hp0 hc116) ⟨by decide, by decide⟩ rfl hl.1 (Nat.le_of_ble_eq_true rfl) d_Mo_length_116 rfl ?_
        refine ww_st (st' := []) rfl ?_
        exact ww_vretH (pc := 119) g h hR d_Mo_length_119
      · refine ww_aload_n (pc := 49) g.1 d_Mo_length_49 rfl (lv_at hl 0 rfl) ?_
        refine ww_gI (pc := 50) g (k := 66) cl_Mo (pz rfl (by decide)) (by decide) (Or.inl kw_94) (f := 66) rfl rfl d_Mo_length_50 h fun v50 h => ?_
        refine ww_istore (pc := 53) g.1 (lv' := [(7, .int v50), (0, .ref (q.1 0 0)), (1, .int l1), (2, .int l2), (3, .long l3), (5, .ref (q.1 l5r l5)), (6, .int l6)]) d_Mo_length_53 hl (by decide) rfl fun ls hl => ?_
        refine ww_aload_n (pc := 55) g.1 d_Mo_length_55 rfl (lv_at hl 1 rfl) ?_
        refine ww_gL (pc := 56) g (k := 67) cl_Mo (pz rfl (by decide)) (by decide) (Or.inl kw_96) (f := 67) rfl rfl d_Mo_length_56 h fun v56 h => ?_
        refine ww_lstore (pc := 59) g.1 (lv' := [(8, .long v56), (7, .int v50), (0, .ref (q.1 0 0)), (1, .int l1), (2, .int l2), (3, .long l3), (5, .ref (q.1 l5r l5)), (6, .int l6)]) d_Mo_length_59 hl (by decide) rfl fun ls hl => ?_
        refine ww_aload_n (pc := 61) g.1 d_Mo_length_61 rfl (lv_at hl 2 rfl) ?_
        refine ww_gR (pc := 62) g (k := 77) cl_Mo (pz rfl (by decide)) (by decide) (Or.inl kw_188) (f := 77) (t := 7) rfl rfl rfl d_Mo_length_62 ?_
        refine ww_iconst (pc := 65) g.1 (v := 0) d_Mo_length_65 (by decide) ?_
        refine ww_pI (pc := 66) g (k := 2) (cl_Va (Or.inl ⟨by decide, rfl⟩)) (pz rfl (by decide)) (by decide) (Or.inl kw_185) rfl (f := 898) rfl rfl rfl rfl d_Mo_length_66 h fun s hs h => ?_
        refine ww_aload_n (pc := 69) g.1 d_Mo_length_69 rfl (lv_at hl 2 rfl) ?_
        refine ww_gR (pc := 70) g (k := 77) cl_Mo (pz rfl (by decide)) (by decide) (Or.inl kw_188) (f := 77) (t := 7) rfl rfl rfl d_Mo_length_70 ?_
        refine ww_iload_n (pc := 73) g.1 d_Mo_length_73 rfl (lv_at hl 4 rfl) ?_
        refine ww_lload_n (pc := 74) g.1 d_Mo_length_74 rfl (lv_at hl 5 rfl) ?_
        obtain ⟨v75, s, hc75, h⟩ := oB_of h
        refine ww_callV (pc := 75) (rest := []) g cv_Va_add (Or.inl kw_193) (cl_Va (Or.inl ⟨by decide, rfl⟩)) (pz rfl (by decide)) (ct_Va_add (Or.inl ⟨by decide, rfl⟩) hc75) ⟨by decide, by decide⟩ rfl hl.1 (Nat.le_of_ble_eq_true rfl) d_Mo_length_75 rfl ?_
        refine ww_st (st' := []) rfl ?_
        refine ww_aload_n (pc := 78) g.1 d_Mo_length_78 rfl (lv_at hl 2 rfl) ?_
        refine ww_iconst (pc := 79) g.1 (v := 1) d_Mo_length_79 (by decide) ?_
        refine ww_iload_n (pc := 80) g.1 d_Mo_length_80 rfl (lv_at hl 3 rfl) ?_
        refine ww_iconst (pc := 81) g.1 (v := 1) d_Mo_length_81 (by decide) ?_
        obtain ⟨v82, s, hc82, h⟩ := oB_of h
        refine ww_callV (pc := 82) (rest := []) g cv_Mo_expect (Or.inl kw_421) cl_Mo (pz rfl (by decide)) (ct_Mo_expect hc82) ⟨by decide, by decide⟩ rfl hl.1 (Nat.le_of_ble_eq_true rfl) d_Mo_length_82 rfl ?_
        refine ww_st (st' := []) rfl ?_
        refine ww_aload_n (pc := 85) g.1 d_Mo_length_85 rfl (lv_at hl 2 rfl) ?_
        refine ww_iload (pc := 86) g.1 d_Mo_length_86 (lv_at hl 1 rfl) ?_
        refine ww_pI (pc := 88) g (k := 75) cl_Mo (pz rfl (by decide)) (by decide) (Or.inl kw_198) rfl (f := 75) rfl rfl rfl rfl d_Mo_length_88 h fun s hs h => ?_
        refine ww_aload_n (pc := 91) g.1 d_Mo_length_91 rfl (lv_at hl 2 rfl) ?_
        refine ww_lload (pc := 92) g.1 d_Mo_length_92 (lv_at hl 0 rfl) ?_
        refine ww_pL (pc := 94) g (k := 76) cl_Mo (pz rfl (by decide)) (by decide) (Or.inl kw_200) rfl (f := 76) rfl rfl rfl rfl d_Mo_length_94 h fun s hs h => ?_
        refine ww_aload_n (pc := 97) g.1 d_Mo_length_97 rfl (lv_at hl 2 rfl) ?_
        refine ww_iconst (pc := 98) g.1 (v := 1) d_Mo_length_98 (by decide) ?_
        refine ww_pI (pc := 99) g (k := 73) cl_Mo (pz rfl (by decide)) (by decide) (Or.inl kw_77) rfl (f := 73) rfl rfl rfl rfl d_Mo_length_99 h fun s hs h => ?_
        refine ww_goto (pc := 102) (tgt := 119) g.1 d_Mo_length_102 (by decide) ?_
        exact ww_vretH (pc := 119) g h hR d_Mo_length_119
    · refine ww_aload_n (pc := 29) g.1 d_Mo_length_29 rfl (lv_at hl 0 rfl) ?_
      refine ww_iconst (pc := 30) g.1 (v := 2) d_Mo_length_30 (by decide) ?_
      obtain ⟨v31, s, hc31, h⟩ := oB_of h
      refine ww_callV (pc := 31) (rest := []) g cv_Mo_raise (Or.inl kw_162) cl_Mo (pz rfl (by decide)) (ct_Mo_raise hc31) ⟨by decide, by decide⟩ rfl hl.1 (Nat.le_of_ble_eq_true rfl) d_Mo_length_31 rfl ?_
      refine ww_st (st' := [.int v31]) rfl ?_
      refine ww_pop (pc := 34) g.1 d_Mo_length_34 rfl ?_
      refine ww_goto (pc := 35) (tgt := 119) g.1 d_Mo_length_35 (by decide) ?_
      exact ww_vretH (pc := 119) g h hR d_Mo_length_119
  · refine ww_aload (pc := 5) g.1 d_Mo_length_5 (lv_at hl 4 rfl) ?_
    refine ww_iload (pc := 7) g.1 d_Mo_length_7 (lv_at hl 5 rfl) ?_
    refine ww_iconst (pc := 9) g.1 (v := 3) d_Mo_length_9 (by decide) ?_
    refine ww_aload_n (pc := 10) g.1 d_Mo_length_10 rfl (lv_at hl 0 rfl) ?_
    refine ww_gR (pc := 11) g (k := 50) cl_Mo (pz rfl (by decide)) (by decide) (Or.inl kw_93) (f := 50) (t := 63) rfl rfl rfl d_Mo_length_11 ?_
    refine ww_lload_n (pc := 14) g.1 d_Mo_length_14 rfl (lv_at hl 3 rfl) ?_
    refine ww_l2i (pc := 15) g.1 (v := l3.toInt32) d_Mo_length_15 rfl ?_
    refine ww_ai (pc := 16) g (pz rfl (by decide)) rfl rfl d_Mo_length_16 h fun v16 h => ?_
    refine ww_i2l (pc := 17) g.1 (v := v16.toInt64) d_Mo_length_17 rfl ?_
    obtain ⟨v18, s, hc18, h⟩ := oB_of h
    refine ww_callV (pc := 18) (rest := []) g cv_Va_set (Or.inl kw_101) (cl_Va hp0) (vok_p hp0).1 (ct_Va_set hp0 hc18) ⟨by decide, by decide⟩ rfl hl.1 (Nat.le_of_ble_eq_true rfl) d_Mo_length_18 rfl ?_
    refine ww_st (st' := []) rfl ?_
    refine ww_goto (pc := 21) (tgt := 119) g.1 d_Mo_length_21 (by decide) ?_
    exact ww_vretH (pc := 119) g h hR d_Mo_length_119

theorem kw_437 : Cond.methodLink R_Mo 988 y_Mo_order ∈ wA := kinm (show _ ∈ tables_1 from (List.mem_append_right _ (List.mem_append_right _ (List.mem_append_right _ (List.mem_append_right _ (List.mem_append_right _ (List.mem_append_right _ (List.mem_append_right _ (List.mem_append_right _ (List.mem_append_right _ (List.mem_append_right _ (List.mem_append_right _ (List.mem_append_right _ (List.mem_append_left _ (List.mem_of_getElem? (l := tables_1_13) (i := 199) (by decide +kernel)))))))))))))))) (by decide +kernel)
theorem kw_438 : Cond.instanceMethod y_Mo_compare ∈ wA := kinm (show _ ∈ tables_1 from (List.mem_append_right _ (List.mem_append_right _ (List.mem_append_right _ (List.mem_append_right _ (List.mem_append_right _ (List.mem_append_right _ (List.mem_append_right _ (List.mem_append_right _ (List.mem_append_right _ (List.mem_append_right _ (List.mem_append_right _ (List.mem_append_right _ (List.mem_append_left _ (List.mem_of_getElem? (l := tables_1_13) (i := 197) (by decide +kernel)))))))))))))))) (by decide +kernel)
theorem kw_439 : Cond.selects R_Mo y_Mo_compare y_Mo_compare ∈ wA := kinp 216 (by decide +kernel) (by decide +kernel)
def M_Mo_compare_j261 (l6 : Int32) (l7 : Int64) (l9 : Int32) (l10 : Int64) (k0 : Int32) : M (Unit) :=
  oB (M_Mo_either k0 l6 l7 l9 l10) fun v269 =>
  oC (v269 = 0)
    (oB (M_Mo_raise 3) fun v277 =>
    oR ())
    (oR ())

def M_Mo_compare_j235 (l4 : Int32) (l5 : Int32) (l6 : Int32) (l7 : Int64) (l9 : Int32) (l10 : Int64) : M (Unit) :=
  oB (M_Mo_a l4) fun v239 =>
  oB (M_Mo_expect 2 v239 1) fun _ =>
  oC (l5 = 32)
    (M_Mo_compare_j261 l6 l7 l9 l10 18)
    (M_Mo_compare_j261 l6 l7 l9 l10 19)

def M_Mo_compare_j298 (l1 : Int32) (l2 : Int32) (k0 : Int32) (k1 : Int32) : M (Unit) :=
  oC (k1 = k0)
    (oR ())
    (oB (oAI 32 201 l1 l2) fun v307 =>
    oB (oSI 32 201 l1 l2 (v307 + 1)) fun _ =>
    oR ())

def M_Mo_compare_j282 (l1 : Int32) (l2 : Int32) (l4 : Int32) (l12 : Int32) : M (Unit) :=
  oB (M_Mo_a l4) fun v286 =>
  oC (v286 = 1)
    (M_Mo_compare_j298 l1 l2 1 l12)
    (M_Mo_compare_j298 l1 l2 0 l12)

def M_Mo_compare_j230 (l1 : Int32) (l2 : Int32) (l4 : Int32) (k0 : Int32) : M (Unit) :=
  M_Mo_compare_j282 l1 l2 l4 k0

def M_Mo_compare_j176 (l1 : Int32) (l2 : Int32) (l4 : Int32) (l5 : Int32) (l6 : Int32) (l7 : Int64) (l9 : Int32) (l10 : Int64) : M (Unit) :=
  oC (l6 = 4)
    (oC (l9 = 4)
      (oB (M_Mo_order l7.toInt32 l10.toInt32) fun v195 =>
      oC (l5 = 32)
        (oC (0 ≤ v195)
          (M_Mo_compare_j230 l1 l2 l4 0)
          (M_Mo_compare_j230 l1 l2 l4 1))
        (oC (0 < v195)
          (M_Mo_compare_j230 l1 l2 l4 0)
          (M_Mo_compare_j230 l1 l2 l4 1)))
      (M_Mo_compare_j235 l4 l5 l6 l7 l9 l10))
    (M_Mo_compare_j235 l4 l5 l6 l7 l9 l10)

def M_Mo_compare_j171 (l1 : Int32) (l2 : Int32) (l4 : Int32) (k0 : Int32) : M (Unit) :=
  M_Mo_compare_j282 l1 l2 l4 k0

def M_Mo_compare_j75 (l1 : Int32) (l2 : Int32) (l4 : Int32) (l6 : Int32) (l7 : Int64) (l9 : Int32) (l10 : Int64) (k0 : Int32) : M (Unit) :=
  oC (k0 = 0)
    (oC (l6 = 5)
      (oC (l9 = 5)
        (oB (M_Mo_a l4) fun v98 =>
        oB (M_Mo_expect 2 v98 1) fun _ =>
        oB (M_Mo_either 17 l6 l7 l9 l10) fun v116 =>
        oC (v116 = 0)
          (M_Mo_compare_j282 l1 l2 l4 k0)
          (oR ()))
        (M_Mo_compare_j282 l1 l2 l4 k0))
      (M_Mo_compare_j282 l1 l2 l4 k0))
    (M_Mo_compare_j282 l1 l2 l4 k0)

def M_Mo_compare_j74 (l1 : Int32) (l2 : Int32) (l4 : Int32) (l6 : Int32) (l7 : Int64) (l9 : Int32) (l10 : Int64) : M (Unit) :=
  M_Mo_compare_j75 l1 l2 l4 l6 l7 l9 l10 0

def M_Mo_compare (l1 : Int32) (l2 : Int32) (l3 : Int32) (l4 : Int32) (l5 : Int32) : M (Unit) :=
  oB (M_Mo_b l4) fun v6 =>
  oB (M_Mo_rk_ l1 l2 l3 v6) fun _ =>
  oB (oGI 98 0) fun v13 =>
  oB (oGL 99 0) fun v19 =>
  oB (M_Mo_c l4) fun v30 =>
  oB (M_Mo_rk_ l1 l2 l3 v30) fun _ =>
  oB (oGI 98 0) fun v37 =>
  oB (oGL 99 0) fun v43 =>
  oC (l5 = 31)
    (oC (v13 = v37)
      (oC ((lg_cmp v19 v43) = 0)
        (M_Mo_compare_j75 l1 l2 l4 v13 v19 v37 v43 1)
        (M_Mo_compare_j74 l1 l2 l4 v13 v19 v37 v43))
      (M_Mo_compare_j74 l1 l2 l4 v13 v19 v37 v43))
    (oC (v13 = 3)
      (oC (v37 = 3)
        (oC (l5 = 32)
          (oC (0 ≤ (lg_cmp v19 v43))
            (M_Mo_compare_j171 l1 l2 l4 0)
            (M_Mo_compare_j171 l1 l2 l4 1))
          (oC (0 < (lg_cmp v19 v43))
            (M_Mo_compare_j171 l1 l2 l4 0)
            (M_Mo_compare_j171 l1 l2 l4 1)))
        (M_Mo_compare_j176 l1 l2 l4 l5 v13 v19 v37 v43))
      (M_Mo_compare_j176 l1 l2 l4 l5 v13 v19 v37 v43))

theorem cv_Mo_compare : CV y_Mo_compare b_Mo_compare 14 none 5 := ⟨kw_438, kw_439, kw_17, k_Mo_compare, by decide +kernel⟩
theorem j_Mo_compare_j261 {X : Cx} {q : PL} (g : Gd X y_Mo_compare b_Mo_compare 14 none 6 153 R_Mo) {o : (Unit) × S1} (hR : Rt X q o.2 none) (l6 : Int32) (l7 : Int64) (l9 : Int32) (l10 : Int64) (k0 : Int32) (s : S1) (ls : Array Slot) (hl : lv_has ls 14 [(0, .ref (q.1 0 0)), (6, .int l6), (7, .long l7), (9, .int l9), (10, .long l10)]) (h : M_Mo_compare_j261 l6 l7 l9 l10 k0 s = some o) : WW X q s 261 ls [.int k0, .ref (q.1 0 0)] := by
  unfold M_Mo_compare_j261 at h
  refine ww_iload (pc := 261) g.1 d_Mo_compare_261 (lv_at hl 1 rfl) ?_
  refine ww_lload (pc := 263) g.1 d_Mo_compare_263 (lv_at hl 2 rfl) ?_
  refine ww_iload (pc := 265) g.1 d_Mo_compare_265 (lv_at hl 3 rfl) ?_
  refine ww_lload (pc := 267) g.1 d_Mo_compare_267 (lv_at hl 4 rfl) ?_
  obtain ⟨v269, s, hc269, h⟩ := oB_of h
  refine ww_callV (pc := 269) (rest := []) g cv_Mo_either (Or.inl kw_430) cl_Mo (pz rfl (by decide)) (ct_Mo_either hc269) ⟨by decide, by decide⟩ rfl hl.1 (Nat.le_of_ble_eq_true rfl) d_Mo_compare_269 rfl ?_
  refine ww_st (st' := [.int v269]) rfl ?_
  refine ww_if_ne (pc := 272) (tgt := 281) g.1 d_Mo_compare_272 (by decide) h (fun c h => ?_) (fun c h => ?_)
  · exact ww_vretH (pc := 281) g h hR d_Mo_compare_281
  · refine ww_aload_n (pc := 275) g.1 d_Mo_compare_275 rfl (lv_at hl 0 rfl) ?_
    refine ww_iconst (pc := 276) g.1 (v := 3) d_Mo_compare_276 (by decide) ?_
    obtain ⟨v277, s, hc277, h⟩ := oB_of h
    refine ww_callV (pc := 277) (rest := []) g cv_Mo_raise (Or.inl kw_162) cl_Mo (pz rfl (by decide)) (ct_Mo_raise hc277) ⟨by decide, by decide⟩ rfl hl.1 (Nat.le_of_ble_eq_true rfl) d_Mo_compare_277 rfl ?_
    refine ww_st (st' := [.int v277]) rfl ?_
    refine ww_pop (pc := 280) g.1 d_Mo_compare_280 rfl ?_
    exact ww_vretH (pc := 281) g h hR d_Mo_compare_281

theorem j_Mo_compare_j235 {X : Cx} {q : PL} (g : Gd X y_Mo_compare b_Mo_compare 14 none 6 153 R_Mo) {o : (Unit) × S1} (hR : Rt X q o.2 none) (l4 : Int32) (l5 : Int32) (l6 : Int32) (l7 : Int64) (l9 : Int32) (l10 : Int64) (s : S1) (ls : Array Slot) (hl : lv_has ls 14 [(0, .ref (q.1 0 0)), (4, .int l4), (5, .int l5), (6, .int l6), (7, .long l7), (9, .int l9), (10, .long l10)]) (h : M_Mo_compare_j235 l4 l5 l6 l7 l9 l10 s = some o) : WW X q s 235 ls [] := by
  unfold M_Mo_compare_j235 at h
  refine ww_aload_n (pc := 235) g.1 d_Mo_compare_235 rfl (lv_at hl 0 rfl) ?_
  refine ww_iconst (pc := 236) g.1 (v := 2) d_Mo_compare_236 (by decide) ?_
  refine ww_iload (pc := 237) g.1 d_Mo_compare_237 (lv_at hl 1 rfl) ?_
  obtain ⟨v239, s, hc239, h⟩ := oB_of h
  refine ww_callS (pc := 239) (rest := [.int 2, .ref (q.1 0 0)]) g cs_Mo_a (Or.inl kw_287) (ct_Mo_a hc239) ⟨by decide, by decide⟩ rfl hl.1 (Nat.le_of_ble_eq_true rfl) d_Mo_compare_239 rfl ?_
  refine ww_st (st' := [.int v239, .int 2, .ref (q.1 0 0)]) rfl ?_
  refine ww_iconst (pc := 242) g.1 (v := 1) d_Mo_compare_242 (by decide) ?_
  obtain ⟨v243, s, hc243, h⟩ := oB_of h
  refine ww_callV (pc := 243) (rest := []) g cv_Mo_expect (Or.inl kw_421) cl_Mo (pz rfl (by decide)) (ct_Mo_expect hc243) ⟨by decide, by decide⟩ rfl hl.1 (Nat.le_of_ble_eq_true rfl) d_Mo_compare_243 rfl ?_
  refine ww_st (st' := []) rfl ?_
  refine ww_aload_n (pc := 246) g.1 d_Mo_compare_246 rfl (lv_at hl 0 rfl) ?_
  refine ww_iload (pc := 247) g.1 d_Mo_compare_247 (lv_at hl 2 rfl) ?_
  refine ww_bipush (pc := 249) g.1 (v := 32) d_Mo_compare_249 (by decide) ?_
  refine ww_icmp_ne (pc := 251) (tgt := 259) g.1 d_Mo_compare_251 (by decide) h (fun c h => ?_) (fun c h => ?_)
  · refine ww_bipush (pc := 259) g.1 (v := 19) d_Mo_compare_259 (by decide) ?_
    exact j_Mo_compare_j261 g hR l6 l7 l9 l10 19 s ls (lv_sub hl [0, 3, 4, 5, 6] rfl) h
  · refine ww_bipush (pc := 254) g.1 (v := 18) d_Mo_compare_254 (by decide) ?_
    refine ww_goto (pc := 256) (tgt := 261) g.1 d_Mo_compare_256 (by decide) ?_
    exact j_Mo_compare_j261 g hR l6 l7 l9 l10 18 s ls (lv_sub hl [0, 3, 4, 5, 6] rfl) h

theorem j_Mo_compare_j298 {X : Cx} {q : PL} (g : Gd X y_Mo_compare b_Mo_compare 14 none 6 153 R_Mo) {o : (Unit) × S1} (hR : Rt X q o.2 none) (l1 : Int32) (l2 : Int32) (k0 : Int32) (k1 : Int32) (s : S1) (hp0 : 0 ≤ l1 ∧ l1 < 33) (ls : Array Slot) (hl : lv_has ls 14 [(1, .ref (q.1 28 l1)), (2, .int l2)]) (h : M_Mo_compare_j298 l1 l2 k0 k1 s = some o) : WW X q s 298 ls [.int k0, .int k1] := by
  unfold M_Mo_compare_j298 at h
  refine ww_icmp_eq (pc := 298) (tgt := 311) g.1 d_Mo_compare_298 (by decide) h (fun c h => ?_) (fun c h => ?_)
  · exact ww_vretH (pc := 311) g h hR d_Mo_compare_311
  · refine ww_aload_n (pc := 301) g.1 d_Mo_compare_301 rfl (lv_at hl 0 rfl) ?_
    refine ww_gR (pc := 302) g (k := 13) cl_Th (pt rfl rfl hp0) (by decide) (Or.inl kw_281) (f := 3597) (t := 32) rfl rfl rfl d_Mo_compare_302 ?_
    refine ww_iload_n (pc := 305) g.1 d_Mo_compare_305 rfl (lv_at hl 1 rfl) ?_
    refine ww_dup2_11 (pc := 306) g.1 d_Mo_compare_306 rfl rfl ?_
    refine ww_ai (pc := 307) g (pt rfl rfl hp0) rfl rfl d_Mo_compare_307 h fun v307 h => ?_
    refine ww_iconst (pc := 308) g.1 (v := 1) d_Mo_compare_308 (by decide) ?_
    refine ww_iadd (pc := 309) g.1 d_Mo_compare_309 ?_
    refine ww_si (pc := 310) g (pt rfl rfl hp0) rfl rfl d_Mo_compare_310 h fun s hs h => ?_
    exact ww_vretH (pc := 311) g h hR d_Mo_compare_311

theorem j_Mo_compare_j282 {X : Cx} {q : PL} (g : Gd X y_Mo_compare b_Mo_compare 14 none 6 153 R_Mo) {o : (Unit) × S1} (hR : Rt X q o.2 none) (l1 : Int32) (l2 : Int32) (l4 : Int32) (l12 : Int32) (s : S1) (hp0 : 0 ≤ l1 ∧ l1 < 33) (ls : Array Slot) (hl : lv_has ls 14 [(1, .ref (q.1 28 l1)), (2, .int l2), (4, .int l4), (12, .int l12)]) (h : M_Mo_compare_j282 l1 l2 l4 l12 s = some o) : WW X q s 282 ls [] := by
  unfold M_Mo_compare_j282 at h
  refine ww_iload (pc := 282) g.1 d_Mo_compare_282 (lv_at hl 3 rfl) ?_
  refine ww_iload (pc := 284) g.1 d_Mo_compare_284 (lv_at hl 2 rfl) ?_
  obtain ⟨v286, s, hc286, h⟩ := oB_of h
  refine ww_callS (pc := 286) (rest := [.int l12]) g cs_Mo_a (Or.inl kw_287) (ct_Mo_a hc286) ⟨by decide, by decide⟩ rfl hl.1 (Nat.le_of_ble_eq_true rfl) d_Mo_compare_286 rfl ?_
  refine ww_st (st' := [.int v286, .int l12]) rfl ?_
  refine ww_iconst (pc := 289) g.1 (v := 1) d_Mo_compare_289 (by decide) ?_
  refine ww_icmp_ne (pc := 290) (tgt := 297) g.1 d_Mo_compare_290 (by decide) h (fun c h => ?_) (fun c h => ?_)
  · refine ww_iconst (pc := 297) g.1 (v := 0) d_Mo_compare_297 (by decide) ?_
    exact j_Mo_compare_j298 g hR l1 l2 0 l12 s hp0 ls (lv_sub hl [0, 1] rfl) h
  · refine ww_iconst (pc := 293) g.1 (v := 1) d_Mo_compare_293 (by decide) ?_
    refine ww_goto (pc := 294) (tgt := 298) g.1 d_Mo_compare_294 (by decide) ?_
    exact j_Mo_compare_j298 g hR l1 l2 1 l12 s hp0 ls (lv_sub hl [0, 1] rfl) h

theorem j_Mo_compare_j230 {X : Cx} {q : PL} (g : Gd X y_Mo_compare b_Mo_compare 14 none 6 153 R_Mo) {o : (Unit) × S1} (hR : Rt X q o.2 none) (l1 : Int32) (l2 : Int32) (l4 : Int32) (k0 : Int32) (s : S1) (hp0 : 0 ≤ l1 ∧ l1 < 33) (ls : Array Slot) (hl : lv_has ls 14 [(1, .ref (q.1 28 l1)), (2, .int l2), (4, .int l4)]) (h : M_Mo_compare_j230 l1 l2 l4 k0 s = some o) : WW X q s 230 ls [.int k0] := by
  unfold M_Mo_compare_j230 at h
  refine ww_istore (pc := 230) g.1 (lv' := [(12, .int k0), (1, .ref (q.1 28 l1)), (2, .int l2), (4, .int l4)]) d_Mo_compare_230 hl (by decide) rfl fun ls hl => ?_
  refine ww_goto (pc := 232) (tgt := 282) g.1 d_Mo_compare_232 (by decide) ?_
  exact j_Mo_compare_j282 g hR l1 l2 l4 k0 s hp0 ls (lv_sub hl [1, 2, 3, 0] rfl) h

theorem j_Mo_compare_j176 {X : Cx} {q : PL} (g : Gd X y_Mo_compare b_Mo_compare 14 none 6 153 R_Mo) {o : (Unit) × S1} (hR : Rt X q o.2 none) (l1 : Int32) (l2 : Int32) (l4 : Int32) (l5 : Int32) (l6 : Int32) (l7 : Int64) (l9 : Int32) (l10 : Int64) (s : S1) (hp0 : 0 ≤ l1 ∧ l1 < 33) (ls : Array Slot) (hl : lv_has ls 14 [(0, .ref (q.1 0 0)), (1, .ref (q.1 28 l1)), (2, .int l2), (4, .int l4), (5, .int l5), (6, .int l6), (7, .long l7), (9, .int l9), (10, .long l10)]) (h : M_Mo_compare_j176 l1 l2 l4 l5 l6 l7 l9 l10 s = some o) : WW X q s 176 ls [] := by
  unfold M_Mo_compare_j176 at h
  refine ww_iload (pc := 176) g.1 d_Mo_compare_176 (lv_at hl 5 rfl) ?_
  refine ww_iconst (pc := 178) g.1 (v := 4) d_Mo_compare_178 (by decide) ?_
  refine ww_icmp_ne (pc := 179) (tgt := 235) g.1 d_Mo_compare_179 (by decide) h (fun c h => ?_) (fun c h => ?_)
  · exact j_Mo_compare_j235 g hR l4 l5 l6 l7 l9 l10 s ls (lv_sub hl [0, 3, 4, 5, 6, 7, 8] rfl) h
  · refine ww_iload (pc := 182) g.1 d_Mo_compare_182 (lv_at hl 7 rfl) ?_
    refine ww_iconst (pc := 184) g.1 (v := 4) d_Mo_compare_184 (by decide) ?_
    refine ww_icmp_ne (pc := 185) (tgt := 235) g.1 d_Mo_compare_185 (by decide) h (fun c h => ?_) (fun c h => ?_)
    · exact j_Mo_compare_j235 g hR l4 l5 l6 l7 l9 l10 s ls (lv_sub hl [0, 3, 4, 5, 6, 7, 8] rfl) h
    · refine ww_aload_n (pc := 188) g.1 d_Mo_compare_188 rfl (lv_at hl 0 rfl) ?_
      refine ww_lload (pc := 189) g.1 d_Mo_compare_189 (lv_at hl 6 rfl) ?_
      refine ww_l2i (pc := 191) g.1 (v := l7.toInt32) d_Mo_compare_191 rfl ?_
      refine ww_lload (pc := 192) g.1 d_Mo_compare_192 (lv_at hl 8 rfl) ?_
      refine ww_l2i (pc := 194) g.1 (v := l10.toInt32) d_Mo_compare_194 rfl ?_
      obtain ⟨v195, s, hc195, h⟩ := oB_of h
      refine ww_callV (pc := 195) (rest := []) g cv_Mo_order (Or.inl kw_437) cl_Mo (pz rfl (by decide)) (ct_Mo_order hc195) ⟨by decide, by decide⟩ rfl hl.1 (Nat.le_of_ble_eq_true rfl) d_Mo_compare_195 rfl ?_
      refine ww_st (st' := [.int v195]) rfl ?_
      refine ww_istore (pc := 198) g.1 (lv' := [(13, .int v195), (0, .ref (q.1 0 0)), (1, .ref (q.1 28 l1)), (2, .int l2), (4, .int l4), (5, .int l5), (6, .int l6), (7, .long l7), (9, .int l9), (10, .long l10)]) d_Mo_compare_198 hl (by decide) rfl fun ls hl => ?_
      refine ww_iload (pc := 200) g.1 d_Mo_compare_200 (lv_at hl 5 rfl) ?_
      refine ww_bipush (pc := 202) g.1 (v := 32) d_Mo_compare_202 (by decide) ?_
      refine ww_icmp_ne (pc := 204) (tgt := 220) g.1 d_Mo_compare_204 (by decide) h (fun c h => ?_) (fun c h => ?_)
      · refine ww_iload (pc := 220) g.1 d_Mo_compare_220 (lv_at hl 0 rfl) ?_
        refine ww_if_gt (pc := 222) (tgt := 229) g.1 d_Mo_compare_222 (by decide) h (fun c h => ?_) (fun c h => ?_)
        · refine ww_iconst (pc := 229) g.1 (v := 0) d_Mo_compare_229 (by decide) ?_
          exact j_Mo_compare_j230 g hR l1 l2 l4 0 s hp0 ls (lv_sub hl [2, 3, 4] rfl) h
        · refine ww_iconst (pc := 225) g.1 (v := 1) d_Mo_compare_225 (by decide) ?_
          refine ww_goto (pc := 226) (tgt := 230) g.1 d_Mo_compare_226 (by decide) ?_
          exact j_Mo_compare_j230 g hR l1 l2 l4 1 s hp0 ls (lv_sub hl [2, 3, 4] rfl) h
      · refine ww_iload (pc := 207) g.1 d_Mo_compare_207 (lv_at hl 0 rfl) ?_
        refine ww_if_ge (pc := 209) (tgt := 216) g.1 d_Mo_compare_209 (by decide) h (fun c h => ?_) (fun c h => ?_)
        · refine ww_iconst (pc := 216) g.1 (v := 0) d_Mo_compare_216 (by decide) ?_
          refine ww_goto (pc := 217) (tgt := 230) g.1 d_Mo_compare_217 (by decide) ?_
          exact j_Mo_compare_j230 g hR l1 l2 l4 0 s hp0 ls (lv_sub hl [2, 3, 4] rfl) h
        · refine ww_iconst (pc := 212) g.1 (v := 1) d_Mo_compare_212 (by decide) ?_
          refine ww_goto (pc := 213) (tgt := 230) g.1 d_Mo_compare_213 (by decide) ?_
          exact j_Mo_compare_j230 g hR l1 l2 l4 1 s hp0 ls (lv_sub hl [2, 3, 4] rfl) h

theorem j_Mo_compare_j171 {X : Cx} {q : PL} (g : Gd X y_Mo_compare b_Mo_compare 14 none 6 153 R_Mo) {o : (Unit) × S1} (hR : Rt X q o.2 none) (l1 : Int32) (l2 : Int32) (l4 : Int32) (k0 : Int32) (s : S1) (hp0 : 0 ≤ l1 ∧ l1 < 33) (ls : Array Slot) (hl : lv_has ls 14 [(1, .ref (q.1 28 l1)), (2, .int l2), (4, .int l4)]) (h : M_Mo_compare_j171 l1 l2 l4 k0 s = some o) : WW X q s 171 ls [.int k0] := by
  unfold M_Mo_compare_j171 at h
  refine ww_istore (pc := 171) g.1 (lv' := [(12, .int k0), (1, .ref (q.1 28 l1)), (2, .int l2), (4, .int l4)]) d_Mo_compare_171 hl (by decide) rfl fun ls hl => ?_
  refine ww_goto (pc := 173) (tgt := 282) g.1 d_Mo_compare_173 (by decide) ?_
  exact j_Mo_compare_j282 g hR l1 l2 l4 k0 s hp0 ls (lv_sub hl [1, 2, 3, 0] rfl) h

theorem j_Mo_compare_j75 {X : Cx} {q : PL} (g : Gd X y_Mo_compare b_Mo_compare 14 none 6 153 R_Mo) {o : (Unit) × S1} (hR : Rt X q o.2 none) (l1 : Int32) (l2 : Int32) (l4 : Int32) (l6 : Int32) (l7 : Int64) (l9 : Int32) (l10 : Int64) (k0 : Int32) (s : S1) (hp0 : 0 ≤ l1 ∧ l1 < 33) (ls : Array Slot) (hl : lv_has ls 14 [(0, .ref (q.1 0 0)), (1, .ref (q.1 28 l1)), (2, .int l2), (4, .int l4), (6, .int l6), (7, .long l7), (9, .int l9), (10, .long l10)]) (h : M_Mo_compare_j75 l1 l2 l4 l6 l7 l9 l10 k0 s = some o) : WW X q s 75 ls [.int k0] := by
  unfold M_Mo_compare_j75 at h
  refine ww_istore (pc := 75) g.1 (lv' := [(12, .int k0), (0, .ref (q.1 0 0)), (1, .ref (q.1 28 l1)), (2, .int l2), (4, .int l4), (6, .int l6), (7, .long l7), (9, .int l9), (10, .long l10)]) d_Mo_compare_75 hl (by decide) rfl fun ls hl => ?_
  refine ww_iload (pc := 77) g.1 d_Mo_compare_77 (lv_at hl 0 rfl) ?_
  refine ww_if_ne (pc := 79) (tgt := 282) g.1 d_Mo_compare_79 (by decide) h (fun c h => ?_) (fun c h => ?_)
  · exact j_Mo_compare_j282 g hR l1 l2 l4 k0 s hp0 ls (lv_sub hl [2, 3, 4, 0] rfl) h
  · refine ww_iload (pc := 82) g.1 d_Mo_compare_82 (lv_at hl 5 rfl) ?_
    refine ww_iconst (pc := 84) g.1 (v := 5) d_Mo_compare_84 (by decide) ?_
    refine ww_icmp_ne (pc := 85) (tgt := 282) g.1 d_Mo_compare_85 (by decide) h (fun c h => ?_) (fun c h => ?_)
    · exact j_Mo_compare_j282 g hR l1 l2 l4 k0 s hp0 ls (lv_sub hl [2, 3, 4, 0] rfl) h
    · refine ww_iload (pc := 88) g.1 d_Mo_compare_88 (lv_at hl 7 rfl) ?_
      refine ww_iconst (pc := 90) g.1 (v := 5) d_Mo_compare_90 (by decide) ?_
      refine ww_icmp_ne (pc := 91) (tgt := 282) g.1 d_Mo_compare_91 (by decide) h (fun c h => ?_) (fun c h => ?_)
      · exact j_Mo_compare_j282 g hR l1 l2 l4 k0 s hp0 ls (lv_sub hl [2, 3, 4, 0] rfl) h
      · refine ww_aload_n (pc := 94) g.1 d_Mo_compare_94 rfl (lv_at hl 1 rfl) ?_
        refine ww_iconst (pc := 95) g.1 (v := 2) d_Mo_compare_95 (by decide) ?_
        refine ww_iload (pc := 96) g.1 d_Mo_compare_96 (lv_at hl 4 rfl) ?_
        obtain ⟨v98, s, hc98, h⟩ := oB_of h
        refine ww_callS (pc := 98) (rest := [.int 2, .ref (q.1 0 0)]) g cs_Mo_a (Or.inl kw_287) (ct_Mo_a hc98) ⟨by decide, by decide⟩ rfl hl.1 (Nat.le_of_ble_eq_true rfl) d_Mo_compare_98 rfl ?_
        refine ww_st (st' := [.int v98, .int 2, .ref (q.1 0 0)]) rfl ?_
        refine ww_iconst (pc := 101) g.1 (v := 1) d_Mo_compare_101 (by decide) ?_
        obtain ⟨v102, s, hc102, h⟩ := oB_of h
        refine ww_callV (pc := 102) (rest := []) g cv_Mo_expect (Or.inl kw_421) cl_Mo (pz rfl (by decide)) (ct_Mo_expect hc102) ⟨by decide, by decide⟩ rfl hl.1 (Nat.le_of_ble_eq_true rfl) d_Mo_compare_102 rfl ?_
        refine ww_st (st' := []) rfl ?_
        refine ww_aload_n (pc := 105) g.1 d_Mo_compare_105 rfl (lv_at hl 1 rfl) ?_
        refine ww_bipush (pc := 106) g.1 (v := 17) d_Mo_compare_106 (by decide) ?_
        refine ww_iload (pc := 108) g.1 d_Mo_compare_108 (lv_at hl 5 rfl) ?_
        refine ww_lload (pc := 110) g.1 d_Mo_compare_110 (lv_at hl 6 rfl) ?_
        refine ww_iload (pc := 112) g.1 d_Mo_compare_112 (lv_at hl 7 rfl) ?_
        refine ww_lload (pc := 114) g.1 d_Mo_compare_114 (lv_at hl 8 rfl) ?_
        obtain ⟨v116, s, hc116, h⟩ := oB_of h
        refine ww_callV (pc := 116) (rest := []) g cv_Mo_either (Or.inl kw_430) cl_Mo (pz rfl (by decide)) (ct_Mo_either hc116) ⟨by decide, by decide⟩ rfl hl.1 (Nat.le_of_ble_eq_true rfl) d_Mo_compare_116 rfl ?_
        refine ww_st (st' := [.int v116]) rfl ?_
        refine ww_if_eq (pc := 119) (tgt := 282) g.1 d_Mo_compare_119 (by decide) h (fun c h => ?_) (fun c h => ?_)
        · exact j_Mo_compare_j282 g hR l1 l2 l4 k0 s hp0 ls (lv_sub hl [2, 3, 4, 0] rfl) h
        · exact ww_vretH (pc := 122) g h hR d_Mo_compare_122

theorem j_Mo_compare_j74 {X : Cx} {q : PL} (g : Gd X y_Mo_compare b_Mo_compare 14 none 6 153 R_Mo) {o : (Unit) × S1} (hR : Rt X q o.2 none) (l1 : Int32) (l2 : Int32) (l4 : Int32) (l6 : Int32) (l7 : Int64) (l9 : Int32) (l10 : Int64) (s : S1) (hp0 : 0 ≤ l1 ∧ l1 < 33) (ls : Array Slot) (hl : lv_has ls 14 [(0, .ref (q.1 0 0)), (1, .ref (q.1 28 l1)), (2, .int l2), (4, .int l4), (6, .int l6), (7, .long l7), (9, .int l9), (10, .long l10)]) (h : M_Mo_compare_j74 l1 l2 l4 l6 l7 l9 l10 s = some o) : WW X q s 74 ls [] := by
  unfold M_Mo_compare_j74 at h
  refine ww_iconst (pc := 74) g.1 (v := 0) d_Mo_compare_74 (by decide) ?_
  exact j_Mo_compare_j75 g hR l1 l2 l4 l6 l7 l9 l10 0 s hp0 ls (lv_sub hl [0, 1, 2, 3, 4, 5, 6, 7] rfl) h

theorem ct_Mo_compare {l : Launch} {P : PP} {q : PL} {s s' : S1} {l1 : Int32} {l2 : Int32} {l3 : Int32} {l4 : Int32} {l5 : Int32} (hp0 : 0 ≤ l1 ∧ l1 < 33) {r : Unit} (h : M_Mo_compare l1 l2 l3 l4 l5 s = some (r, s')) : Ct l y_Mo_compare b_Mo_compare 14 none 6 153 P q s [.ref (q.1 0 0), .ref (q.1 28 l1), .int l2, .int l3, .int l4, .int l5] none q s' := by
  refine ct_of (by decide) (Nat.le_of_ble_eq_true rfl) fun X ls eP el g hR hl => ?_
  have hR : Rt X q ((r, s') : Unit × S1).2 none := hR
  have hl : lv_has ls 14 [(0, .ref (q.1 0 0)), (1, .ref (q.1 28 l1)), (2, .int l2), (3, .int l3), (4, .int l4), (5, .int l5)] := hl
  generalize (r, s') = o at h hR
  unfold M_Mo_compare at h
  refine ww_aload_n (pc := 0) g.1 d_Mo_compare_0 rfl (lv_at hl 0 rfl) ?_
  refine ww_aload_n (pc := 1) g.1 d_Mo_compare_1 rfl (lv_at hl 1 rfl) ?_
  refine ww_iload_n (pc := 2) g.1 d_Mo_compare_2 rfl (lv_at hl 2 rfl) ?_
  refine ww_iload_n (pc := 3) g.1 d_Mo_compare_3 rfl (lv_at hl 3 rfl) ?_
  refine ww_iload (pc := 4) g.1 d_Mo_compare_4 (lv_at hl 4 rfl) ?_
  obtain ⟨v6, s, hc6, h⟩ := oB_of h
  refine ww_callS (pc := 6) (rest := [.int l3, .int l2, .ref (q.1 28 l1), .ref (q.1 0 0)]) g cs_Mo_b (Or.inl kw_55) (ct_Mo_b hc6) ⟨by decide, by decide⟩ rfl hl.1 (Nat.le_of_ble_eq_true rfl) d_Mo_compare_6 rfl ?_
  refine ww_st (st' := [.int v6, .int l3, .int l2, .ref (q.1 28 l1), .ref (q.1 0 0)]) rfl ?_
  obtain ⟨v9, s, hc9, h⟩ := oB_of h
  refine ww_callV (pc := 9) (rest := []) g cv_Mo_rk_ (Or.inl kw_425) cl_Mo (pz rfl (by decide)) (ct_Mo_rk_ hp0 hc9) ⟨by decide, by decide⟩ rfl hl.1 (Nat.le_of_ble_eq_true rfl) d_Mo_compare_9 rfl ?_
  refine ww_st (st' := []) rfl ?_
  refine ww_aload_n (pc := 12) g.1 d_Mo_compare_12 rfl (lv_at hl 0 rfl) ?_
  refine ww_gI (pc := 13) g (k := 98) cl_Mo (pz rfl (by decide)) (by decide) (Or.inl kw_254) (f := 98) rfl rfl d_Mo_compare_13 h fun v13 h => ?_
  refine ww_istore (pc := 16) g.1 (lv' := [(6, .int v13), (0, .ref (q.1 0 0)), (1, .ref (q.1 28 l1)), (2, .int l2), (3, .int l3), (4, .int l4), (5, .int l5)]) d_Mo_compare_16 hl (by decide) rfl fun ls hl => ?_
  refine ww_aload_n (pc := 18) g.1 d_Mo_compare_18 rfl (lv_at hl 1 rfl) ?_
  refine ww_gL (pc := 19) g (k := 99) cl_Mo (pz rfl (by decide)) (by decide) (Or.inl kw_255) (f := 99) rfl rfl d_Mo_compare_19 h fun v19 h => ?_
  refine ww_lstore (pc := 22) g.1 (lv' := [(7, .long v19), (6, .int v13), (0, .ref (q.1 0 0)), (1, .ref (q.1 28 l1)), (2, .int l2), (3, .int l3), (4, .int l4), (5, .int l5)]) d_Mo_compare_22 hl (by decide) rfl fun ls hl => ?_
  refine ww_aload_n (pc := 24) g.1 d_Mo_compare_24 rfl (lv_at hl 2 rfl) ?_
  refine ww_aload_n (pc := 25) g.1 d_Mo_compare_25 rfl (lv_at hl 3 rfl) ?_
  refine ww_iload_n (pc := 26) g.1 d_Mo_compare_26 rfl (lv_at hl 4 rfl) ?_
  refine ww_iload_n (pc := 27) g.1 d_Mo_compare_27 rfl (lv_at hl 5 rfl) ?_
  refine ww_iload (pc := 28) g.1 d_Mo_compare_28 (lv_at hl 6 rfl) ?_
  obtain ⟨v30, s, hc30, h⟩ := oB_of h
  refine ww_callS (pc := 30) (rest := [.int l3, .int l2, .ref (q.1 28 l1), .ref (q.1 0 0)]) g cs_Mo_c (Or.inl kw_317) (ct_Mo_c hc30) ⟨by decide, by decide⟩ rfl hl.1 (Nat.le_of_ble_eq_true rfl) d_Mo_compare_30 rfl ?_
  refine ww_st (st' := [.int v30, .int l3, .int l2, .ref (q.1 28 l1), .ref (q.1 0 0)]) rfl ?_
  obtain ⟨v33, s, hc33, h⟩ := oB_of h
  refine ww_callV (pc := 33) (rest := []) g cv_Mo_rk_ (Or.inl kw_425) cl_Mo (pz rfl (by decide)) (ct_Mo_rk_ hp0 hc33) ⟨by decide, by decide⟩ rfl hl.1 (Nat.le_of_ble_eq_true rfl) d_Mo_compare_33 rfl ?_
  refine ww_st (st' := []) rfl ?_
  refine ww_aload_n (pc := 36) g.1 d_Mo_compare_36 rfl (lv_at hl 2 rfl) ?_
  refine ww_gI (pc := 37) g (k := 98) cl_Mo (pz rfl (by decide)) (by decide) (Or.inl kw_254) (f := 98) rfl rfl d_Mo_compare_37 h fun v37 h => ?_
  refine ww_istore (pc := 40) g.1 (lv' := [(9, .int v37), (7, .long v19), (6, .int v13), (0, .ref (q.1 0 0)), (1, .ref (q.1 28 l1)), (2, .int l2), (3, .int l3), (4, .int l4), (5, .int l5)]) d_Mo_compare_40 hl (by decide) rfl fun ls hl => ?_
  refine ww_aload_n (pc := 42) g.1 d_Mo_compare_42 rfl (lv_at hl 3 rfl) ?_
  refine ww_gL (pc := 43) g (k := 99) cl_Mo (pz rfl (by decide)) (by decide) (Or.inl kw_255) (f := 99) rfl rfl d_Mo_compare_43 h fun v43 h => ?_
  refine ww_lstore (pc := 46) g.1 (lv' := [(10, .long v43), (9, .int v37), (7, .long v19), (6, .int v13), (0, .ref (q.1 0 0)), (1, .ref (q.1 28 l1)), (2, .int l2), (3, .int l3), (4, .int l4), (5, .int l5)]) d_Mo_compare_46 hl (by decide) rfl fun ls hl => ?_
  refine ww_iload (pc := 48) g.1 d_Mo_compare_48 (lv_at hl 9 rfl) ?_
  refine ww_bipush (pc := 50) g.1 (v := 31) d_Mo_compare_50 (by decide) ?_
  refine ww_icmp_ne (pc := 52) (tgt := 123) g.1 d_Mo_compare_52 (by decide) h (fun c h => ?_) (fun c h => ?_)
  · refine ww_iload (pc := 123) g.1 d_Mo_compare_123 (lv_at hl 3 rfl) ?_
    refine ww_iconst (pc := 125) g.1 (v := 3) d_Mo_compare_125 (by decide) ?_
    refine ww_icmp_ne (pc := 126) (tgt := 176) g.1 d_Mo_compare_126 (by decide) h (fun c h => ?_) (fun c h => ?_)
    · exact j_Mo_compare_j176 g hR l1 l2 l4 l5 v13 v19 v37 v43 s hp0 ls (lv_sub hl [4, 5, 6, 8, 9, 3, 2, 1, 0] rfl) h
    · refine ww_iload (pc := 129) g.1 d_Mo_compare_129 (lv_at hl 1 rfl) ?_
      refine ww_iconst (pc := 131) g.1 (v := 3) d_Mo_compare_131 (by decide) ?_
      refine ww_icmp_ne (pc := 132) (tgt := 176) g.1 d_Mo_compare_132 (by decide) h (fun c h => ?_) (fun c h => ?_)
      · exact j_Mo_compare_j176 g hR l1 l2 l4 l5 v13 v19 v37 v43 s hp0 ls (lv_sub hl [4, 5, 6, 8, 9, 3, 2, 1, 0] rfl) h
      · refine ww_iload (pc := 135) g.1 d_Mo_compare_135 (lv_at hl 9 rfl) ?_
        refine ww_bipush (pc := 137) g.1 (v := 32) d_Mo_compare_137 (by decide) ?_
        refine ww_icmp_ne (pc := 139) (tgt := 158) g.1 d_Mo_compare_139 (by decide) h (fun c h => ?_) (fun c h => ?_)
        · refine ww_lload (pc := 158) g.1 d_Mo_compare_158 (lv_at hl 2 rfl) ?_
          refine ww_lload (pc := 160) g.1 d_Mo_compare_160 (lv_at hl 0 rfl) ?_
          refine ww_lcmp (pc := 162) g.1 d_Mo_compare_162 ?_
          refine ww_if_gt (pc := 163) (tgt := 170) g.1 d_Mo_compare_163 (by decide) h (fun c h => ?_) (fun c h => ?_)
          · refine ww_iconst (pc := 170) g.1 (v := 0) d_Mo_compare_170 (by decide) ?_
            exact j_Mo_compare_j171 g hR l1 l2 l4 0 s hp0 ls (lv_sub hl [5, 6, 8] rfl) h
          · refine ww_iconst (pc := 166) g.1 (v := 1) d_Mo_compare_166 (by decide) ?_
            refine ww_goto (pc := 167) (tgt := 171) g.1 d_Mo_compare_167 (by decide) ?_
            exact j_Mo_compare_j171 g hR l1 l2 l4 1 s hp0 ls (lv_sub hl [5, 6, 8] rfl) h
        · refine ww_lload (pc := 142) g.1 d_Mo_compare_142 (lv_at hl 2 rfl) ?_
          refine ww_lload (pc := 144) g.1 d_Mo_compare_144 (lv_at hl 0 rfl) ?_
          refine ww_lcmp (pc := 146) g.1 d_Mo_compare_146 ?_
          refine ww_if_ge (pc := 147) (tgt := 154) g.1 d_Mo_compare_147 (by decide) h (fun c h => ?_) (fun c h => ?_)
          · refine ww_iconst (pc := 154) g.1 (v := 0) d_Mo_compare_154 (by decide) ?_
            refine ww_goto (pc := 155) (tgt := 171) g.1 d_Mo_compare_155 (by decide) ?_
            exact j_Mo_compare_j171 g hR l1 l2 l4 0 s hp0 ls (lv_sub hl [5, 6, 8] rfl) h
          · refine ww_iconst (pc := 150) g.1 (v := 1) d_Mo_compare_150 (by decide) ?_
            refine ww_goto (pc := 151) (tgt := 171) g.1 d_Mo_compare_151 (by decide) ?_
            exact j_Mo_compare_j171 g hR l1 l2 l4 1 s hp0 ls (lv_sub hl [5, 6, 8] rfl) h
  · refine ww_iload (pc := 55) g.1 d_Mo_compare_55 (lv_at hl 3 rfl) ?_
    refine ww_iload (pc := 57) g.1 d_Mo_compare_57 (lv_at hl 1 rfl) ?_
    refine ww_icmp_ne (pc := 59) (tgt := 74) g.1 d_Mo_compare_59 (by decide) h (fun c h => ?_) (fun c h => ?_)
    · exact j_Mo_compare_j74 g hR l1 l2 l4 v13 v19 v37 v43 s hp0 ls (lv_sub hl [4, 5, 6, 8, 3, 2, 1, 0] rfl) h
    · refine ww_lload (pc := 62) g.1 d_Mo_compare_62 (lv_at hl 2 rfl) ?_
      refine ww_lload (pc := 64) g.1 d_Mo_compare_64 (lv_at hl 0 rfl) ?_
      refine ww_lcmp (pc := 66) g.1 d_Mo_compare_66 ?_
      refine ww_if_ne (pc := 67) (tgt := 74) g.1 d_Mo_compare_67 (by decide) h (fun c h => ?_) (fun c h => ?_)
      · exact j_Mo_compare_j74 g hR l1 l2 l4 v13 v19 v37 v43 s hp0 ls (lv_sub hl [4, 5, 6, 8, 3, 2, 1, 0] rfl) h
      · refine ww_iconst (pc := 70) g.1 (v := 1) d_Mo_compare_70 (by decide) ?_
        refine ww_goto (pc := 71) (tgt := 75) g.1 d_Mo_compare_71 (by decide) ?_
        exact j_Mo_compare_j75 g hR l1 l2 l4 v13 v19 v37 v43 1 s hp0 ls (lv_sub hl [4, 5, 6, 8, 3, 2, 1, 0] rfl) h

theorem kw_440 : Cond.fieldLink R_Mo 89 "LuaMachineModel" "protos" "I" ∈ wA := kinm (show _ ∈ tables_1 from (List.mem_append_right _ (List.mem_append_right _ (List.mem_append_right _ (List.mem_append_right _ (List.mem_append_right _ (List.mem_append_right _ (List.mem_append_right _ (List.mem_append_right _ (List.mem_append_right _ (List.mem_append_left _ (List.mem_of_getElem? (l := tables_1_10) (i := 78) (by decide +kernel))))))))))))) (by decide +kernel)
theorem kw_441 : Cond.methodLink R_Mo 485 y_Mo_formed ∈ wA := kinm (show _ ∈ tables_1 from (List.mem_append_right _ (List.mem_append_right _ (List.mem_append_right _ (List.mem_append_right _ (List.mem_append_right _ (List.mem_append_right _ (List.mem_append_right _ (List.mem_append_right _ (List.mem_append_right _ (List.mem_append_right _ (List.mem_append_left _ (List.mem_of_getElem? (l := tables_1_11) (i := 170) (by decide +kernel)))))))))))))) (by decide +kernel)
theorem kw_442 : Cond.fieldLink R_Mo 74 "LuaMachineModel" "codePlace" "[I" ∈ wA := kinm (show _ ∈ tables_1 from (List.mem_append_right _ (List.mem_append_right _ (List.mem_append_right _ (List.mem_append_right _ (List.mem_append_right _ (List.mem_append_right _ (List.mem_append_right _ (List.mem_append_right _ (List.mem_append_right _ (List.mem_append_left _ (List.mem_of_getElem? (l := tables_1_10) (i := 75) (by decide +kernel))))))))))))) (by decide +kernel)
theorem kw_443 : Cond.instanceMethod y_Mo_lookOver ∈ wA := kinm (show _ ∈ tables_1 from (List.mem_append_right _ (List.mem_append_right _ (List.mem_append_right _ (List.mem_append_right _ (List.mem_append_right _ (List.mem_append_right _ (List.mem_append_right _ (List.mem_append_right _ (List.mem_append_right _ (List.mem_append_right _ (List.mem_append_left _ (List.mem_of_getElem? (l := tables_1_11) (i := 168) (by decide +kernel)))))))))))))) (by decide +kernel)
theorem kw_444 : Cond.selects R_Mo y_Mo_lookOver y_Mo_lookOver ∈ wA := kinp 118 (by decide +kernel) (by decide +kernel)
def M_Mo_lookOver_j65 (l1 : Int32) (l2 : Int32) : M ((Int32 × Int32) ⊕ ((Int32))) :=
  oR (Sum.inl (l1, l2 + 1))

def M_Mo_lookOver_L19 : (Int32 × Int32) → M ((Int32 × Int32) ⊕ ((Int32))) := fun x =>
  oB (oAI 50 251 0 x.1) fun v25 =>
  oC (v25 ≤ x.2)
    (oR (Sum.inr x.1))
    (oB (oGI 3 0) fun v30 =>
    oC (v30 = 0)
      (oB (M_Mo_formed x.1 x.2) fun v39 =>
      oC (v39 = 0)
        (oB (oAI 49 251 0 x.1) fun v57 =>
        oB (oAI 56 20001 0 (v57 + x.2)) fun v60 =>
        oB (M_Mo_bad 6 v60) fun v61 =>
        M_Mo_lookOver_j65 x.1 x.2)
        (M_Mo_lookOver_j65 x.1 x.2))
      (oR (Sum.inr x.1)))

def M_Mo_lookOver_j71 (l1 : Int32) : M ((Int32) ⊕ ((Unit))) :=
  oR (Sum.inl (l1 + 1))

def M_Mo_lookOver_L2 : (Int32) → M ((Int32) ⊕ ((Unit))) := fun x =>
  oB (oGI 23 0) fun v4 =>
  oC (v4 ≤ x)
    (oR (Sum.inr ()))
    (oB (oGI 3 0) fun v11 =>
    oC (v11 = 0)
      (oB (oW M_Mo_lookOver_L19 (x, 0)) fun e19 =>
      M_Mo_lookOver_j71 e19)
      (oR (Sum.inr ())))

def M_Mo_lookOver  : M (Unit) :=
  oB (oW M_Mo_lookOver_L2 0) fun e2 =>
  oR ()

theorem cv_Mo_lookOver : CV y_Mo_lookOver b_Mo_lookOver 3 none 0 := ⟨kw_443, kw_444, kw_17, k_Mo_lookOver, by decide +kernel⟩
theorem j_Mo_lookOver_j65 {X : Cx} {q : PL} (g : Gd X y_Mo_lookOver b_Mo_lookOver 3 none 5 116 R_Mo) {o : ((Int32 × Int32) ⊕ ((Int32))) × S1} (hR : (Sum.elim (fun y : Int32 × Int32 => ∀ ls : Array Slot, lv_has ls 3 [(0, .ref (q.1 0 0)), (1, .int y.1), (2, .int y.2)] → WW X q o.2 19 ls []) (fun y : Int32 => ∀ ls : Array Slot, lv_has ls 3 [(0, .ref (q.1 0 0)), (1, .int y)] → WW X q o.2 71 ls []) o.1)) (l1 : Int32) (l2 : Int32) (s : S1) (ls : Array Slot) (hl : lv_has ls 3 [(0, .ref (q.1 0 0)), (1, .int l1), (2, .int l2)]) (h : M_Mo_lookOver_j65 l1 l2 s = some o) : WW X q s 65 ls [] := by
  unfold M_Mo_lookOver_j65 at h
  refine ww_iinc (pc := 65) g.1 (v := l2 + 1) (lv' := [(2, .int (l2 + 1)), (0, .ref (q.1 0 0)), (1, .int l1)]) d_Mo_lookOver_65 hl (k := 2) rfl (by rfl) (by decide) rfl fun ls hl => ?_
  refine ww_goto (pc := 68) (tgt := 19) g.1 d_Mo_lookOver_68 (by decide) ?_
  rw [oR_eq h] at hR
  exact hR ls (lv_sub hl [1, 2, 0] rfl)

theorem lp_Mo_lookOver_L19 {X : Cx} {q : PL} (g : Gd X y_Mo_lookOver b_Mo_lookOver 3 none 5 116 R_Mo) (x : Int32 × Int32) (s : S1) (o : ((Int32 × Int32) ⊕ ((Int32))) × S1) (h : M_Mo_lookOver_L19 x s = some o) (hR : (Sum.elim (fun y : Int32 × Int32 => ∀ ls : Array Slot, lv_has ls 3 [(0, .ref (q.1 0 0)), (1, .int y.1), (2, .int y.2)] → WW X q o.2 19 ls []) (fun y : Int32 => ∀ ls : Array Slot, lv_has ls 3 [(0, .ref (q.1 0 0)), (1, .int y)] → WW X q o.2 71 ls []) o.1)) : ∀ ls : Array Slot, lv_has ls 3 [(0, .ref (q.1 0 0)), (1, .int x.1), (2, .int x.2)] → WW X q s 19 ls [] := by
  intro ls hl
  unfold M_Mo_lookOver_L19 at h
  refine ww_iload_n (pc := 19) g.1 d_Mo_lookOver_19 rfl (lv_at hl 2 rfl) ?_
  refine ww_aload_n (pc := 20) g.1 d_Mo_lookOver_20 rfl (lv_at hl 0 rfl) ?_
  refine ww_gR (pc := 21) g (k := 14) cl_Mo (pz rfl (by decide)) (by decide) (Or.inl kw_57) (f := 14) (t := 50) rfl rfl rfl d_Mo_lookOver_21 ?_
  refine ww_iload_n (pc := 24) g.1 d_Mo_lookOver_24 rfl (lv_at hl 1 rfl) ?_
  refine ww_ai (pc := 25) g (pz rfl (by decide)) rfl rfl d_Mo_lookOver_25 h fun v25 h => ?_
  refine ww_icmp_ge (pc := 26) (tgt := 71) g.1 d_Mo_lookOver_26 (by decide) h (fun c h => ?_) (fun c h => ?_)
  · rw [oR_eq h] at hR
    exact hR ls (lv_sub hl [0, 1] rfl)
  · refine ww_aload_n (pc := 29) g.1 d_Mo_lookOver_29 rfl (lv_at hl 0 rfl) ?_
    refine ww_gI (pc := 30) g (k := 3) cl_Mo (pz rfl (by decide)) (by decide) (Or.inl kw_25) (f := 3) rfl rfl d_Mo_lookOver_30 h fun v30 h => ?_
    refine ww_if_ne (pc := 33) (tgt := 71) g.1 d_Mo_lookOver_33 (by decide) h (fun c h => ?_) (fun c h => ?_)
    · rw [oR_eq h] at hR
      exact hR ls (lv_sub hl [0, 1] rfl)
    · refine ww_aload_n (pc := 36) g.1 d_Mo_lookOver_36 rfl (lv_at hl 0 rfl) ?_
      refine ww_iload_n (pc := 37) g.1 d_Mo_lookOver_37 rfl (lv_at hl 1 rfl) ?_
      refine ww_iload_n (pc := 38) g.1 d_Mo_lookOver_38 rfl (lv_at hl 2 rfl) ?_
      obtain ⟨v39, s, hc39, h⟩ := oB_of h
      refine ww_callV (pc := 39) (rest := []) g cv_Mo_formed (Or.inl kw_441) cl_Mo (pz rfl (by decide)) (ct_Mo_formed hc39) ⟨by decide, by decide⟩ rfl hl.1 (Nat.le_of_ble_eq_true rfl) d_Mo_lookOver_39 rfl ?_
      refine ww_st (st' := [.int v39]) rfl ?_
      refine ww_if_ne (pc := 42) (tgt := 65) g.1 d_Mo_lookOver_42 (by decide) h (fun c h => ?_) (fun c h => ?_)
      · exact j_Mo_lookOver_j65 g hR x.1 x.2 s ls (lv_sub hl [0, 1, 2] rfl) h
      · refine ww_aload_n (pc := 45) g.1 d_Mo_lookOver_45 rfl (lv_at hl 0 rfl) ?_
        refine ww_bipush (pc := 46) g.1 (v := 6) d_Mo_lookOver_46 (by decide) ?_
        refine ww_aload_n (pc := 48) g.1 d_Mo_lookOver_48 rfl (lv_at hl 0 rfl) ?_
        refine ww_gR (pc := 49) g (k := 20) cl_Mo (pz rfl (by decide)) (by decide) (Or.inl kw_442) (f := 20) (t := 56) rfl rfl rfl d_Mo_lookOver_49 ?_
        refine ww_aload_n (pc := 52) g.1 d_Mo_lookOver_52 rfl (lv_at hl 0 rfl) ?_
        refine ww_gR (pc := 53) g (k := 13) cl_Mo (pz rfl (by decide)) (by decide) (Or.inl kw_60) (f := 13) (t := 49) rfl rfl rfl d_Mo_lookOver_53 ?_
        refine ww_iload_n (pc := 56) g.1 d_Mo_lookOver_56 rfl (lv_at hl 1 rfl) ?_
        refine ww_ai (pc := 57) g (pz rfl (by decide)) rfl rfl d_Mo_lookOver_57 h fun v57 h => ?_
        refine ww_iload_n (pc := 58) g.1 d_Mo_lookOver_58 rfl (lv_at hl 2 rfl) ?_
        refine ww_iadd (pc := 59) g.1 d_Mo_lookOver_59 ?_
        refine ww_ai (pc := 60) g (pz rfl (by decide)) rfl rfl d_Mo_lookOver_60 h fun v60 h => ?_
        obtain ⟨v61, s, hc61, h⟩ := oB_of h
        refine ww_callV (pc := 61) (rest := []) g cv_Mo_bad (Or.inl kw_32) cl_Mo (pz rfl (by decide)) (ct_Mo_bad hc61) ⟨by decide, by decide⟩ rfl hl.1 (Nat.le_of_ble_eq_true rfl) d_Mo_lookOver_61 rfl ?_
        refine ww_st (st' := [.int v61]) rfl ?_
        refine ww_pop (pc := 64) g.1 d_Mo_lookOver_64 rfl ?_
        exact j_Mo_lookOver_j65 g hR x.1 x.2 s ls (lv_sub hl [0, 1, 2] rfl) h

theorem j_Mo_lookOver_j71 {X : Cx} {q : PL} (g : Gd X y_Mo_lookOver b_Mo_lookOver 3 none 5 116 R_Mo) {o : ((Int32) ⊕ ((Unit))) × S1} (hR : (Sum.elim (fun y : Int32 => ∀ ls : Array Slot, lv_has ls 3 [(0, .ref (q.1 0 0)), (1, .int y)] → WW X q o.2 2 ls []) (fun y : Unit => ∀ ls : Array Slot, lv_has ls 3 [] → WW X q o.2 77 ls []) o.1)) (l1 : Int32) (s : S1) (ls : Array Slot) (hl : lv_has ls 3 [(0, .ref (q.1 0 0)), (1, .int l1)]) (h : M_Mo_lookOver_j71 l1 s = some o) : WW X q s 71 ls [] := by
  unfold M_Mo_lookOver_j71 at h
  refine ww_iinc (pc := 71) g.1 (v := l1 + 1) (lv' := [(1, .int (l1 + 1)), (0, .ref (q.1 0 0))]) d_Mo_lookOver_71 hl (k := 1) rfl (by rfl) (by decide) rfl fun ls hl => ?_
  refine ww_goto (pc := 74) (tgt := 2) g.1 d_Mo_lookOver_74 (by decide) ?_
  rw [oR_eq h] at hR
  exact hR ls (lv_sub hl [1, 0] rfl)

theorem lp_Mo_lookOver_L2 {X : Cx} {q : PL} (g : Gd X y_Mo_lookOver b_Mo_lookOver 3 none 5 116 R_Mo) (x : Int32) (s : S1) (o : ((Int32) ⊕ ((Unit))) × S1) (h : M_Mo_lookOver_L2 x s = some o) (hR : (Sum.elim (fun y : Int32 => ∀ ls : Array Slot, lv_has ls 3 [(0, .ref (q.1 0 0)), (1, .int y)] → WW X q o.2 2 ls []) (fun y : Unit => ∀ ls : Array Slot, lv_has ls 3 [] → WW X q o.2 77 ls []) o.1)) : ∀ ls : Array Slot, lv_has ls 3 [(0, .ref (q.1 0 0)), (1, .int x)] → WW X q s 2 ls [] := by
  intro ls hl
  unfold M_Mo_lookOver_L2 at h
  refine ww_iload_n (pc := 2) g.1 d_Mo_lookOver_2 rfl (lv_at hl 1 rfl) ?_
  refine ww_aload_n (pc := 3) g.1 d_Mo_lookOver_3 rfl (lv_at hl 0 rfl) ?_
  refine ww_gI (pc := 4) g (k := 23) cl_Mo (pz rfl (by decide)) (by decide) (Or.inl kw_440) (f := 23) rfl rfl d_Mo_lookOver_4 h fun v4 h => ?_
  refine ww_icmp_ge (pc := 7) (tgt := 77) g.1 d_Mo_lookOver_7 (by decide) h (fun c h => ?_) (fun c h => ?_)
  · rw [oR_eq h] at hR
    exact hR ls (lv_sub hl [] rfl)
  · refine ww_aload_n (pc := 10) g.1 d_Mo_lookOver_10 rfl (lv_at hl 0 rfl) ?_
    refine ww_gI (pc := 11) g (k := 3) cl_Mo (pz rfl (by decide)) (by decide) (Or.inl kw_25) (f := 3) rfl rfl d_Mo_lookOver_11 h fun v11 h => ?_
    refine ww_if_ne (pc := 14) (tgt := 77) g.1 d_Mo_lookOver_14 (by decide) h (fun c h => ?_) (fun c h => ?_)
    · rw [oR_eq h] at hR
      exact hR ls (lv_sub hl [] rfl)
    · refine ww_iconst (pc := 17) g.1 (v := 0) d_Mo_lookOver_17 (by decide) ?_
      refine ww_istore_n (pc := 18) g.1 (lv' := [(2, .int 0), (0, .ref (q.1 0 0)), (1, .int x)]) d_Mo_lookOver_18 rfl hl (by decide) rfl fun ls hl => ?_
      obtain ⟨e19, s1, hw, h⟩ := oB_of h
      refine oW_rule (Wh := fun (x : Int32 × Int32) (s : S1) => ∀ ls : Array Slot, lv_has ls 3 [(0, .ref (q.1 0 0)), (1, .int x.1), (2, .int x.2)] → WW X q s 19 ls []) (We := fun (e : (Int32)) (s : S1) => ∀ ls : Array Slot, lv_has ls 3 [(0, .ref (q.1 0 0)), (1, .int e)] → WW X q s 71 ls []) (fun x s o hb hc => lp_Mo_lookOver_L19 (q := q) g x s o hb hc) hw ?_ ls (lv_sub hl [1, 2, 0] rfl)
      clear hw hl
      clear ls
      intro ls hl
      generalize s1 = s at h ⊢
      exact j_Mo_lookOver_j71 g hR e19 s ls (lv_sub hl [0, 1] rfl) h

theorem ct_Mo_lookOver {l : Launch} {P : PP} {q : PL} {s s' : S1}  {r : Unit} (h : M_Mo_lookOver s = some (r, s')) : Ct l y_Mo_lookOver b_Mo_lookOver 3 none 5 116 P q s [.ref (q.1 0 0)] none q s' := by
  refine ct_of (by decide) (Nat.le_of_ble_eq_true rfl) fun X ls eP el g hR hl => ?_
  have hR : Rt X q ((r, s') : Unit × S1).2 none := hR
  have hl : lv_has ls 3 [(0, .ref (q.1 0 0))] := hl
  generalize (r, s') = o at h hR
  unfold M_Mo_lookOver at h
  refine ww_iconst (pc := 0) g.1 (v := 0) d_Mo_lookOver_0 (by decide) ?_
  refine ww_istore_n (pc := 1) g.1 (lv' := [(1, .int 0), (0, .ref (q.1 0 0))]) d_Mo_lookOver_1 rfl hl (by decide) rfl fun ls hl => ?_
  obtain ⟨e2, s1, hw, h⟩ := oB_of h
  refine oW_rule (Wh := fun (x : Int32) (s : S1) => ∀ ls : Array Slot, lv_has ls 3 [(0, .ref (q.1 0 0)), (1, .int x)] → WW X q s 2 ls []) (We := fun (e : (Unit)) (s : S1) => ∀ ls : Array Slot, lv_has ls 3 [] → WW X q s 77 ls []) (fun x s o hb hc => lp_Mo_lookOver_L2 (q := q) g x s o hb hc) hw ?_ ls (lv_sub hl [1, 0] rfl)
  clear hw hl
  clear ls
  intro ls hl
  generalize s1 = s at h ⊢
  exact ww_vretH (pc := 77) g h hR d_Mo_lookOver_77

theorem kw_445 : Cond.methodLink R_Mo 612 y_Arr_fill_____ ∈ wA := kinm (show _ ∈ tables_1 from (List.mem_append_right _ (List.mem_append_right _ (List.mem_append_right _ (List.mem_append_right _ (List.mem_append_right _ (List.mem_append_right _ (List.mem_append_right _ (List.mem_append_right _ (List.mem_append_right _ (List.mem_append_right _ (List.mem_append_right _ (List.mem_append_left _ (List.mem_of_getElem? (l := tables_1_12) (i := 5) (by decide +kernel))))))))))))))) (by decide +kernel)
theorem kw_446 : Cond.fieldLink R_Mo 250 "LuaMachineModel" "globals" "I" ∈ wA := kinm (show _ ∈ tables_1 from (List.mem_append_right _ (List.mem_append_right _ (List.mem_append_right _ (List.mem_append_right _ (List.mem_append_right _ (List.mem_append_right _ (List.mem_append_right _ (List.mem_append_right _ (List.mem_append_right _ (List.mem_append_left _ (List.mem_of_getElem? (l := tables_1_10) (i := 130) (by decide +kernel))))))))))))) (by decide +kernel)
theorem kw_447 : Cond.fieldLink R_Mo 234 "LuaMachineModel" "hand" "LLuaMachineModel$Values;" ∈ wA := kinm (show _ ∈ tables_1 from (List.mem_append_right _ (List.mem_append_right _ (List.mem_append_right _ (List.mem_append_right _ (List.mem_append_right _ (List.mem_append_right _ (List.mem_append_right _ (List.mem_append_right _ (List.mem_append_right _ (List.mem_append_left _ (List.mem_of_getElem? (l := tables_1_10) (i := 126) (by decide +kernel))))))))))))) (by decide +kernel)
theorem kw_448 : Cond.methodLink R_Mo 620 y_Mo_markRow ∈ wA := kinm (show _ ∈ tables_1 from (List.mem_append_right _ (List.mem_append_right _ (List.mem_append_right _ (List.mem_append_right _ (List.mem_append_right _ (List.mem_append_right _ (List.mem_append_right _ (List.mem_append_right _ (List.mem_append_right _ (List.mem_append_right _ (List.mem_append_right _ (List.mem_append_left _ (List.mem_of_getElem? (l := tables_1_12) (i := 12) (by decide +kernel))))))))))))))) (by decide +kernel)
theorem kw_449 : Cond.methodLink R_Mo 624 y_Mo_follow ∈ wA := kinm (show _ ∈ tables_1 from (List.mem_append_right _ (List.mem_append_right _ (List.mem_append_right _ (List.mem_append_right _ (List.mem_append_right _ (List.mem_append_right _ (List.mem_append_right _ (List.mem_append_right _ (List.mem_append_right _ (List.mem_append_right _ (List.mem_append_right _ (List.mem_append_left _ (List.mem_of_getElem? (l := tables_1_12) (i := 20) (by decide +kernel))))))))))))))) (by decide +kernel)
theorem kw_450 : Cond.methodLink R_Mo 626 y_Mo_sweep ∈ wA := kinm (show _ ∈ tables_1 from (List.mem_append_right _ (List.mem_append_right _ (List.mem_append_right _ (List.mem_append_right _ (List.mem_append_right _ (List.mem_append_right _ (List.mem_append_right _ (List.mem_append_right _ (List.mem_append_right _ (List.mem_append_right _ (List.mem_append_right _ (List.mem_append_left _ (List.mem_of_getElem? (l := tables_1_12) (i := 34) (by decide +kernel))))))))))))))) (by decide +kernel)
theorem kw_451 : Cond.instanceMethod y_Mo_collection ∈ wA := kinm (show _ ∈ tables_1 from (List.mem_append_right _ (List.mem_append_right _ (List.mem_append_right _ (List.mem_append_right _ (List.mem_append_right _ (List.mem_append_right _ (List.mem_append_right _ (List.mem_append_right _ (List.mem_append_right _ (List.mem_append_right _ (List.mem_append_right _ (List.mem_append_left _ (List.mem_of_getElem? (l := tables_1_12) (i := 3) (by decide +kernel))))))))))))))) (by decide +kernel)
theorem kw_452 : Cond.selects R_Mo y_Mo_collection y_Mo_collection ∈ wA := kinp 129 (by decide +kernel) (by decide +kernel)
def M_Mo_collection_j61 (l1 : Int32) : M ((Int32) ⊕ ((Unit))) :=
  oR (Sum.inl (l1 + 1))

def M_Mo_collection_L30 : (Int32) → M ((Int32) ⊕ ((Unit))) := fun x =>
  oB (oGI 40 0) fun v32 =>
  oC (v32 ≤ x)
    (oR (Sum.inr ()))
    (oB (oAI 58 4100 0 x) fun v43 =>
    oC (v43 = 0)
      (M_Mo_collection_j61 x)
      (oB (oAI 60 4100 0 x) fun v52 =>
      oC (v52 = 0)
        (M_Mo_collection_j61 x)
        (oB (M_Mo_place x) fun _ =>
        M_Mo_collection_j61 x)))

def M_Mo_collection_L104 : (Int32) → M ((Int32) ⊕ ((Unit))) := fun x =>
  oB (oK ((0 : Int32) ≤ x ∧ x < 33)) fun _ =>
  oB (oGI 3590 x) fun v105 =>
  oC (v105 = -1)
    (oR (Sum.inr ()))
    (oB (oK ((0 : Int32) ≤ x ∧ x < 33)) fun _ =>
    oB (oGI 3590 x) fun v113 =>
    oB (oK ((0 : Int32) ≤ v113 ∧ v113 < 33)) fun _ =>
    oB (oGI 3584 v113) fun v116 =>
    oB (M_Mo_place v116) fun _ =>
    oB (oK ((0 : Int32) ≤ x ∧ x < 33)) fun _ =>
    oB (oGI 3590 x) fun v123 =>
    oR (Sum.inl v123))

def M_Mo_collection_L218 : (Unit) → M ((Unit) ⊕ ((Unit))) := fun x =>
  oB (oGI 69 0) fun v219 =>
  oC (v219 ≤ 0)
    (oR (Sum.inr ()))
    (oB (oGI 69 0) fun v232 =>
    oB (oPI 69 0 (v232 - 1)) fun _ =>
    oB (oAI 75 4100 0 (v232 - 1)) fun v241 =>
    oB (M_Mo_follow v241) fun _ =>
    oR (Sum.inl ()))

def M_Mo_collection  : M (Unit) :=
  oB (oGI 35 0) fun v2 =>
  oB (oPI 35 0 (v2 + 1)) fun _ =>
  oB (oGI 40 0) fun v16 =>
  oB (M_Arr_fill_____ 59 0 0 v16 0) fun _ =>
  oB (oPI 69 0 0) fun _ =>
  oB (oW M_Mo_collection_L30 0) fun e30 =>
  oB (oGI 74 0) fun v69 =>
  oB (M_Mo_place v69) fun _ =>
  oB (oK ((0 : Int32) ≤ 0 ∧ 0 < 33)) fun _ =>
  oB (oGI 3584 0) fun v82 =>
  oB (M_Mo_place v82) fun _ =>
  oB (oGI 72 0) fun v90 =>
  oB (oK ((0 : Int32) ≤ v90 ∧ v90 < 33)) fun _ =>
  oB (oGI 3584 v90) fun v93 =>
  oB (M_Mo_place v93) fun _ =>
  oB (oGI 72 0) fun v100 =>
  oB (oW M_Mo_collection_L104 v100) fun e104 =>
  oB (oGI 2050 0) fun v140 =>
  oB (M_Mo_markRow 16 0 0 v140) fun _ =>
  oB (oGI 898 0) fun v156 =>
  oB (M_Mo_markRow 7 0 0 v156) fun _ =>
  oB (oGI 1282 0) fun v172 =>
  oB (M_Mo_markRow 10 0 0 v172) fun _ =>
  oB (oGI 64 0) fun v180 =>
  oB (oGL 65 0) fun v184 =>
  oB (M_Mo_mark v180 v184) fun _ =>
  oB (oGI 1666 0) fun v200 =>
  oB (M_Mo_markRow 13 0 0 v200) fun _ =>
  oB (oGI 75 0) fun v208 =>
  oB (oGL 76 0) fun v212 =>
  oB (M_Mo_mark v208 v212) fun _ =>
  oB (oW M_Mo_collection_L218 ()) fun e218 =>
  oB (M_Mo_sweep) fun _ =>
  oR ()

theorem cv_Mo_collection : CV y_Mo_collection b_Mo_collection 2 none 0 := ⟨kw_451, kw_452, kw_17, k_Mo_collection, by decide +kernel⟩
theorem j_Mo_collection_j61 {X : Cx} {q : PL} (g : Gd X y_Mo_collection b_Mo_collection 2 none 5 112 R_Mo) {o : ((Int32) ⊕ ((Unit))) × S1} (hR : (Sum.elim (fun y : Int32 => ∀ ls : Array Slot, lv_has ls 2 [(0, .ref (q.1 0 0)), (1, .int y)] → WW X q o.2 30 ls []) (fun y : Unit => ∀ ls : Array Slot, lv_has ls 2 [(0, .ref (q.1 0 0))] → WW X q o.2 67 ls []) o.1)) (l1 : Int32) (s : S1) (ls : Array Slot) (hl : lv_has ls 2 [(0, .ref (q.1 0 0)), (1, .int l1)]) (h : M_Mo_collection_j61 l1 s = some o) : WW X q s 61 ls [] := by
  unfold M_Mo_collection_j61 at h
  refine ww_iinc (pc := 61) g.1 (v := l1 + 1) (lv' := [(1, .int (l1 + 1)), (0, .ref (q.1 0 0))]) d_Mo_collection_61 hl (k := 1) rfl (by rfl) (by decide) rfl fun ls hl => ?_
  refine ww_goto (pc := 64) (tgt := 30) g.1 d_Mo_collection_64 (by decide) ?_
  rw [oR_eq h] at hR
  exact hR ls (lv_sub hl [1, 0] rfl)

theorem lp_Mo_collection_L30 {X : Cx} {q : PL} (g : Gd X y_Mo_collection b_Mo_collection 2 none 5 112 R_Mo) (x : Int32) (s : S1) (o : ((Int32) ⊕ ((Unit))) × S1) (h : M_Mo_collection_L30 x s = some o) (hR : (Sum.elim (fun y : Int32 => ∀ ls : Array Slot, lv_has ls 2 [(0, .ref (q.1 0 0)), (1, .int y)] → WW X q o.2 30 ls []) (fun y : Unit => ∀ ls : Array Slot, lv_has ls 2 [(0, .ref (q.1 0 0))] → WW X q o.2 67 ls []) o.1)) : ∀ ls : Array Slot, lv_has ls 2 [(0, .ref (q.1 0 0)), (1, .int x)] → WW X q s 30 ls [] := by
  intro ls hl
  unfold M_Mo_collection_L30 at h
  refine ww_iload_n (pc := 30) g.1 d_Mo_collection_30 rfl (lv_at hl 1 rfl) ?_
  refine ww_aload_n (pc := 31) g.1 d_Mo_collection_31 rfl (lv_at hl 0 rfl) ?_
  refine ww_gI (pc := 32) g (k := 40) cl_Mo (pz rfl (by decide)) (by decide) (Or.inl kw_111) (f := 40) rfl rfl d_Mo_collection_32 h fun v32 h => ?_
  refine ww_icmp_ge (pc := 35) (tgt := 67) g.1 d_Mo_collection_35 (by decide) h (fun c h => ?_) (fun c h => ?_)
  · rw [oR_eq h] at hR
    exact hR ls (lv_sub hl [0] rfl)
  · refine ww_aload_n (pc := 38) g.1 d_Mo_collection_38 rfl (lv_at hl 0 rfl) ?_
    refine ww_gR (pc := 39) g (k := 45) cl_Mo (pz rfl (by decide)) (by decide) (Or.inl kw_112) (f := 45) (t := 58) rfl rfl rfl d_Mo_collection_39 ?_
    refine ww_iload_n (pc := 42) g.1 d_Mo_collection_42 rfl (lv_at hl 1 rfl) ?_
    refine ww_ab (pc := 43) g (pz rfl (by decide)) rfl rfl d_Mo_collection_43 h fun v43 h => ?_
    refine ww_if_eq (pc := 44) (tgt := 61) g.1 d_Mo_collection_44 (by decide) h (fun c h => ?_) (fun c h => ?_)
    · exact j_Mo_collection_j61 g hR x s ls (lv_sub hl [0, 1] rfl) h
    · refine ww_aload_n (pc := 47) g.1 d_Mo_collection_47 rfl (lv_at hl 0 rfl) ?_
      refine ww_gR (pc := 48) g (k := 47) cl_Mo (pz rfl (by decide)) (by decide) (Or.inl kw_113) (f := 47) (t := 60) rfl rfl rfl d_Mo_collection_48 ?_
      refine ww_iload_n (pc := 51) g.1 d_Mo_collection_51 rfl (lv_at hl 1 rfl) ?_
      refine ww_az (pc := 52) g (pz rfl (by decide)) rfl rfl d_Mo_collection_52 h fun v52 h => ?_
      refine ww_if_eq (pc := 53) (tgt := 61) g.1 d_Mo_collection_53 (by decide) h (fun c h => ?_) (fun c h => ?_)
      · exact j_Mo_collection_j61 g hR x s ls (lv_sub hl [0, 1] rfl) h
      · refine ww_aload_n (pc := 56) g.1 d_Mo_collection_56 rfl (lv_at hl 0 rfl) ?_
        refine ww_iload_n (pc := 57) g.1 d_Mo_collection_57 rfl (lv_at hl 1 rfl) ?_
        obtain ⟨v58, s, hc58, h⟩ := oB_of h
        refine ww_callV (pc := 58) (rest := []) g cv_Mo_place (Or.inl kw_86) cl_Mo (pz rfl (by decide)) (ct_Mo_place hc58) ⟨by decide, by decide⟩ rfl hl.1 (Nat.le_of_ble_eq_true rfl) d_Mo_collection_58 rfl ?_
        refine ww_st (st' := []) rfl ?_
        exact j_Mo_collection_j61 g hR x s ls (lv_sub hl [0, 1] rfl) h

theorem lp_Mo_collection_L104 {X : Cx} {q : PL} (g : Gd X y_Mo_collection b_Mo_collection 2 none 5 112 R_Mo) (x : Int32) (s : S1) (o : ((Int32) ⊕ ((Unit))) × S1) (h : M_Mo_collection_L104 x s = some o) (hR : (Sum.elim (fun y : Int32 => ∀ ls : Array Slot, lv_has ls 2 [(0, .ref (q.1 0 0)), (1, vr q 28 y)] → WW X q o.2 104 ls []) (fun y : Unit => ∀ ls : Array Slot, lv_has ls 2 [(0, .ref (q.1 0 0))] → WW X q o.2 130 ls []) o.1)) : ∀ ls : Array Slot, lv_has ls 2 [(0, .ref (q.1 0 0)), (1, vr q 28 x)] → WW X q s 104 ls [] := by
  intro ls hl
  unfold M_Mo_collection_L104 at h
  refine ww_aload_nV (pc := 104) g.1 vr_cases d_Mo_collection_104 rfl (lv_at hl 1 rfl) ?_
  refine ww_ok h fun cn104 h => ?_
  refine ww_nn cn104 ?_
  refine ww_gV (pc := 105) g (k := 6) cl_Th (pt rfl rfl cn104) (by decide) (Or.inl kw_224) (f := 3590) (t := 28) rfl rfl rfl d_Mo_collection_105 h fun v105 h => ?_
  refine ww_ifnullV (pc := 108) (tgt := 130) g.1 d_Mo_collection_108 (by decide) h (fun c h => ?_) (fun c h => ?_)
  · rw [oR_eq h] at hR
    exact hR ls (lv_sub hl [0] rfl)
  · refine ww_aload_n (pc := 111) g.1 d_Mo_collection_111 rfl (lv_at hl 0 rfl) ?_
    refine ww_aload_nV (pc := 112) g.1 vr_cases d_Mo_collection_112 rfl (lv_at hl 1 rfl) ?_
    refine ww_ok h fun cn112 h => ?_
    refine ww_nn cn112 ?_
    refine ww_gV (pc := 113) g (k := 6) cl_Th (pt rfl rfl cn112) (by decide) (Or.inl kw_224) (f := 3590) (t := 28) rfl rfl rfl d_Mo_collection_113 h fun v113 h => ?_
    refine ww_ok h fun cn113 h => ?_
    refine ww_nn cn113 ?_
    refine ww_gI (pc := 116) g (k := 0) cl_Th (pt rfl rfl cn113) (by decide) (Or.inl kw_222) (f := 3584) rfl rfl d_Mo_collection_116 h fun v116 h => ?_
    obtain ⟨v119, s, hc119, h⟩ := oB_of h
    refine ww_callV (pc := 119) (rest := []) g cv_Mo_place (Or.inl kw_86) cl_Mo (pz rfl (by decide)) (ct_Mo_place hc119) ⟨by decide, by decide⟩ rfl hl.1 (Nat.le_of_ble_eq_true rfl) d_Mo_collection_119 rfl ?_
    refine ww_st (st' := []) rfl ?_
    refine ww_aload_nV (pc := 122) g.1 vr_cases d_Mo_collection_122 rfl (lv_at hl 1 rfl) ?_
    refine ww_ok h fun cn122 h => ?_
    refine ww_nn cn122 ?_
    refine ww_gV (pc := 123) g (k := 6) cl_Th (pt rfl rfl cn122) (by decide) (Or.inl kw_224) (f := 3590) (t := 28) rfl rfl rfl d_Mo_collection_123 h fun v123 h => ?_
    refine ww_astore_nV (pc := 126) g.1 vr_cases (lv' := [(1, vr q 28 v123), (0, .ref (q.1 0 0))]) d_Mo_collection_126 rfl hl (by decide) rfl fun ls hl => ?_
    refine ww_goto (pc := 127) (tgt := 104) g.1 d_Mo_collection_127 (by decide) ?_
    rw [oR_eq h] at hR
    exact hR ls (lv_sub hl [1, 0] rfl)

theorem lp_Mo_collection_L218 {X : Cx} {q : PL} (g : Gd X y_Mo_collection b_Mo_collection 2 none 5 112 R_Mo) (x : Unit) (s : S1) (o : ((Unit) ⊕ ((Unit))) × S1) (h : M_Mo_collection_L218 x s = some o) (hR : (Sum.elim (fun y : Unit => ∀ ls : Array Slot, lv_has ls 2 [(0, .ref (q.1 0 0))] → WW X q o.2 218 ls []) (fun y : Unit => ∀ ls : Array Slot, lv_has ls 2 [(0, .ref (q.1 0 0))] → WW X q o.2 248 ls []) o.1)) : ∀ ls : Array Slot, lv_has ls 2 [(0, .ref (q.1 0 0))] → WW X q s 218 ls [] := by
  intro ls hl
  unfold M_Mo_collection_L218 at h
  refine ww_aload_n (pc := 218) g.1 d_Mo_collection_218 rfl (lv_at hl 0 rfl) ?_
  refine ww_gI (pc := 219) g (k := 69) cl_Mo (pz rfl (by decide)) (by decide) (Or.inl kw_83) (f := 69) rfl rfl d_Mo_collection_219 h fun v219 h => ?_
  refine ww_if_le (pc := 222) (tgt := 248) g.1 d_Mo_collection_222 (by decide) h (fun c h => ?_) (fun c h => ?_)
  · rw [oR_eq h] at hR
    exact hR ls (lv_sub hl [0] rfl)
  · refine ww_aload_n (pc := 225) g.1 d_Mo_collection_225 rfl (lv_at hl 0 rfl) ?_
    refine ww_aload_n (pc := 226) g.1 d_Mo_collection_226 rfl (lv_at hl 0 rfl) ?_
    refine ww_gR (pc := 227) g (k := 68) cl_Mo (pz rfl (by decide)) (by decide) (Or.inl kw_82) (f := 68) (t := 75) rfl rfl rfl d_Mo_collection_227 ?_
    refine ww_aload_n (pc := 230) g.1 d_Mo_collection_230 rfl (lv_at hl 0 rfl) ?_
    refine ww_dup (pc := 231) g.1 d_Mo_collection_231 rfl ?_
    refine ww_gI (pc := 232) g (k := 69) cl_Mo (pz rfl (by decide)) (by decide) (Or.inl kw_83) (f := 69) rfl rfl d_Mo_collection_232 h fun v232 h => ?_
    refine ww_iconst (pc := 235) g.1 (v := 1) d_Mo_collection_235 (by decide) ?_
    refine ww_isub (pc := 236) g.1 d_Mo_collection_236 ?_
    refine ww_dup_x1 (pc := 237) g.1 d_Mo_collection_237 rfl rfl ?_
    refine ww_pI (pc := 238) g (k := 69) cl_Mo (pz rfl (by decide)) (by decide) (Or.inl kw_83) rfl (f := 69) rfl rfl rfl rfl d_Mo_collection_238 h fun s hs h => ?_
    refine ww_ai (pc := 241) g (pz rfl (by decide)) rfl rfl d_Mo_collection_241 h fun v241 h => ?_
    obtain ⟨v242, s, hc242, h⟩ := oB_of h
    refine ww_callV (pc := 242) (rest := []) g cv_Mo_follow (Or.inl kw_449) cl_Mo (pz rfl (by decide)) (ct_Mo_follow hc242) ⟨by decide, by decide⟩ rfl hl.1 (Nat.le_of_ble_eq_true rfl) d_Mo_collection_242 rfl ?_
    refine ww_st (st' := []) rfl ?_
    refine ww_goto (pc := 245) (tgt := 218) g.1 d_Mo_collection_245 (by decide) ?_
    rw [oR_eq h] at hR
    exact hR ls (lv_sub hl [0] rfl)

theorem ct_Mo_collection {l : Launch} {P : PP} {q : PL} {s s' : S1}  {r : Unit} (h : M_Mo_collection s = some (r, s')) : Ct l y_Mo_collection b_Mo_collection 2 none 5 112 P q s [.ref (q.1 0 0)] none q s' := by
  refine ct_of (by decide) (Nat.le_of_ble_eq_true rfl) fun X ls eP el g hR hl => ?_
  have hR : Rt X q ((r, s') : Unit × S1).2 none := hR
  have hl : lv_has ls 2 [(0, .ref (q.1 0 0))] := hl
  generalize (r, s') = o at h hR
  unfold M_Mo_collection at h
  refine ww_aload_n (pc := 0) g.1 d_Mo_collection_0 rfl (lv_at hl 0 rfl) ?_
  refine ww_dup (pc := 1) g.1 d_Mo_collection_1 rfl ?_
  refine ww_gI (pc := 2) g (k := 35) cl_Mo (pz rfl (by decide)) (by decide) (Or.inl kw_304) (f := 35) rfl rfl d_Mo_collection_2 h fun v2 h => ?_
  refine ww_iconst (pc := 5) g.1 (v := 1) d_Mo_collection_5 (by decide) ?_
  refine ww_iadd (pc := 6) g.1 d_Mo_collection_6 ?_
  refine ww_pI (pc := 7) g (k := 35) cl_Mo (pz rfl (by decide)) (by decide) (Or.inl kw_304) rfl (f := 35) rfl rfl rfl rfl d_Mo_collection_7 h fun s hs h => ?_
  refine ww_aload_n (pc := 10) g.1 d_Mo_collection_10 rfl (lv_at hl 0 rfl) ?_
  refine ww_gR (pc := 11) g (k := 46) cl_Mo (pz rfl (by decide)) (by decide) (Or.inl kw_81) (f := 46) (t := 59) rfl rfl rfl d_Mo_collection_11 ?_
  refine ww_iconst (pc := 14) g.1 (v := 0) d_Mo_collection_14 (by decide) ?_
  refine ww_aload_n (pc := 15) g.1 d_Mo_collection_15 rfl (lv_at hl 0 rfl) ?_
  refine ww_gI (pc := 16) g (k := 40) cl_Mo (pz rfl (by decide)) (by decide) (Or.inl kw_111) (f := 40) rfl rfl d_Mo_collection_16 h fun v16 h => ?_
  refine ww_iconst (pc := 19) g.1 (v := 0) d_Mo_collection_19 (by decide) ?_
  obtain ⟨v20, s, hc20, h⟩ := oB_of h
  refine ww_callS (pc := 20) (rest := []) g cs_Arr_fill_____ (Or.inl kw_445) (ct_Arr_fill_____ ⟨rfl, by decide, by decide⟩ (pz rfl (by decide)) hc20) ⟨by decide, by decide⟩ rfl hl.1 (Nat.le_of_ble_eq_true rfl) d_Mo_collection_20 rfl ?_
  refine ww_st (st' := []) rfl ?_
  refine ww_aload_n (pc := 23) g.1 d_Mo_collection_23 rfl (lv_at hl 0 rfl) ?_
  refine ww_iconst (pc := 24) g.1 (v := 0) d_Mo_collection_24 (by decide) ?_
  refine ww_pI (pc := 25) g (k := 69) cl_Mo (pz rfl (by decide)) (by decide) (Or.inl kw_83) rfl (f := 69) rfl rfl rfl rfl d_Mo_collection_25 h fun s hs h => ?_
  refine ww_iconst (pc := 28) g.1 (v := 0) d_Mo_collection_28 (by decide) ?_
  refine ww_istore_n (pc := 29) g.1 (lv' := [(1, .int 0), (0, .ref (q.1 0 0))]) d_Mo_collection_29 rfl hl (by decide) rfl fun ls hl => ?_
  obtain ⟨e30, s1, hw, h⟩ := oB_of h
  refine oW_rule (Wh := fun (x : Int32) (s : S1) => ∀ ls : Array Slot, lv_has ls 2 [(0, .ref (q.1 0 0)), (1, .int x)] → WW X q s 30 ls []) (We := fun (e : (Unit)) (s : S1) => ∀ ls : Array Slot, lv_has ls 2 [(0, .ref (q.1 0 0))] → WW X q s 67 ls []) (fun x s o hb hc => lp_Mo_collection_L30 (q := q) g x s o hb hc) hw ?_ ls (lv_sub hl [1, 0] rfl)
  clear hw hl
  clear ls
  intro ls hl
  generalize s1 = s at h ⊢
  refine ww_aload_n (pc := 67) g.1 d_Mo_collection_67 rfl (lv_at hl 0 rfl) ?_
  refine ww_aload_n (pc := 68) g.1 d_Mo_collection_68 rfl (lv_at hl 0 rfl) ?_
  refine ww_gI (pc := 69) g (k := 74) cl_Mo (pz rfl (by decide)) (by decide) (Or.inl kw_446) (f := 74) rfl rfl d_Mo_collection_69 h fun v69 h => ?_
  obtain ⟨v72, s, hc72, h⟩ := oB_of h
  refine ww_callV (pc := 72) (rest := []) g cv_Mo_place (Or.inl kw_86) cl_Mo (pz rfl (by decide)) (ct_Mo_place hc72) ⟨by decide, by decide⟩ rfl hl.1 (Nat.le_of_ble_eq_true rfl) d_Mo_collection_72 rfl ?_
  refine ww_st (st' := []) rfl ?_
  refine ww_aload_n (pc := 75) g.1 d_Mo_collection_75 rfl (lv_at hl 0 rfl) ?_
  refine ww_aload_n (pc := 76) g.1 d_Mo_collection_76 rfl (lv_at hl 0 rfl) ?_
  refine ww_gR (pc := 77) g (k := 71) cl_Mo (pz rfl (by decide)) (by decide) (Or.inl kw_90) (f := 71) (t := 76) rfl rfl rfl d_Mo_collection_77 ?_
  refine ww_iconst (pc := 80) g.1 (v := 0) d_Mo_collection_80 (by decide) ?_
  refine ww_at (pc := 81) g (t := 28) (pz rfl (by decide)) rfl rfl rfl d_Mo_collection_81 h fun ca81 h => ?_
  refine ww_gI (pc := 82) g (k := 0) cl_Th (pt rfl rfl ca81) (by decide) (Or.inl kw_222) (f := 3584) rfl rfl d_Mo_collection_82 h fun v82 h => ?_
  obtain ⟨v85, s, hc85, h⟩ := oB_of h
  refine ww_callV (pc := 85) (rest := []) g cv_Mo_place (Or.inl kw_86) cl_Mo (pz rfl (by decide)) (ct_Mo_place hc85) ⟨by decide, by decide⟩ rfl hl.1 (Nat.le_of_ble_eq_true rfl) d_Mo_collection_85 rfl ?_
  refine ww_st (st' := []) rfl ?_
  refine ww_aload_n (pc := 88) g.1 d_Mo_collection_88 rfl (lv_at hl 0 rfl) ?_
  refine ww_aload_n (pc := 89) g.1 d_Mo_collection_89 rfl (lv_at hl 0 rfl) ?_
  refine ww_gV (pc := 90) g (k := 72) cl_Mo (pz rfl (by decide)) (by decide) (Or.inl kw_155) (f := 72) (t := 28) rfl rfl rfl d_Mo_collection_90 h fun v90 h => ?_
  refine ww_ok h fun cn90 h => ?_
  refine ww_nn cn90 ?_
  refine ww_gI (pc := 93) g (k := 0) cl_Th (pt rfl rfl cn90) (by decide) (Or.inl kw_222) (f := 3584) rfl rfl d_Mo_collection_93 h fun v93 h => ?_
  obtain ⟨v96, s, hc96, h⟩ := oB_of h
  refine ww_callV (pc := 96) (rest := []) g cv_Mo_place (Or.inl kw_86) cl_Mo (pz rfl (by decide)) (ct_Mo_place hc96) ⟨by decide, by decide⟩ rfl hl.1 (Nat.le_of_ble_eq_true rfl) d_Mo_collection_96 rfl ?_
  refine ww_st (st' := []) rfl ?_
  refine ww_aload_n (pc := 99) g.1 d_Mo_collection_99 rfl (lv_at hl 0 rfl) ?_
  refine ww_gV (pc := 100) g (k := 72) cl_Mo (pz rfl (by decide)) (by decide) (Or.inl kw_155) (f := 72) (t := 28) rfl rfl rfl d_Mo_collection_100 h fun v100 h => ?_
  refine ww_astore_nV (pc := 103) g.1 vr_cases (lv' := [(1, vr q 28 v100), (0, .ref (q.1 0 0))]) d_Mo_collection_103 rfl hl (by decide) rfl fun ls hl => ?_
  obtain ⟨e104, s1, hw, h⟩ := oB_of h
  refine oW_rule (Wh := fun (x : Int32) (s : S1) => ∀ ls : Array Slot, lv_has ls 2 [(0, .ref (q.1 0 0)), (1, vr q 28 x)] → WW X q s 104 ls []) (We := fun (e : (Unit)) (s : S1) => ∀ ls : Array Slot, lv_has ls 2 [(0, .ref (q.1 0 0))] → WW X q s 130 ls []) (fun x s o hb hc => lp_Mo_collection_L104 (q := q) g x s o hb hc) hw ?_ ls (lv_sub hl [1, 0] rfl)
  clear hw hl
  clear ls
  intro ls hl
  generalize s1 = s at h ⊢
  refine ww_aload_n (pc := 130) g.1 d_Mo_collection_130 rfl (lv_at hl 0 rfl) ?_
  refine ww_aload_n (pc := 131) g.1 d_Mo_collection_131 rfl (lv_at hl 0 rfl) ?_
  refine ww_gR (pc := 132) g (k := 70) cl_Mo (pz rfl (by decide)) (by decide) (Or.inl kw_447) (f := 70) (t := 16) rfl rfl rfl d_Mo_collection_132 ?_
  refine ww_iconst (pc := 135) g.1 (v := 0) d_Mo_collection_135 (by decide) ?_
  refine ww_aload_n (pc := 136) g.1 d_Mo_collection_136 rfl (lv_at hl 0 rfl) ?_
  refine ww_gR (pc := 137) g (k := 70) cl_Mo (pz rfl (by decide)) (by decide) (Or.inl kw_447) (f := 70) (t := 16) rfl rfl rfl d_Mo_collection_137 ?_
  refine ww_gI (pc := 140) g (k := 2) (cl_Va (Or.inl ⟨by decide, rfl⟩)) (pz rfl (by decide)) (by decide) (Or.inl kw_185) (f := 2050) rfl rfl d_Mo_collection_140 h fun v140 h => ?_
  obtain ⟨v143, s, hc143, h⟩ := oB_of h
  refine ww_callV (pc := 143) (rest := []) g cv_Mo_markRow (Or.inl kw_448) cl_Mo (pz rfl (by decide)) (ct_Mo_markRow (Or.inl ⟨by decide, rfl⟩) hc143) ⟨by decide, by decide⟩ rfl hl.1 (Nat.le_of_ble_eq_true rfl) d_Mo_collection_143 rfl ?_
  refine ww_st (st' := []) rfl ?_
  refine ww_aload_n (pc := 146) g.1 d_Mo_collection_146 rfl (lv_at hl 0 rfl) ?_
  refine ww_aload_n (pc := 147) g.1 d_Mo_collection_147 rfl (lv_at hl 0 rfl) ?_
  refine ww_gR (pc := 148) g (k := 77) cl_Mo (pz rfl (by decide)) (by decide) (Or.inl kw_188) (f := 77) (t := 7) rfl rfl rfl d_Mo_collection_148 ?_
  refine ww_iconst (pc := 151) g.1 (v := 0) d_Mo_collection_151 (by decide) ?_
  refine ww_aload_n (pc := 152) g.1 d_Mo_collection_152 rfl (lv_at hl 0 rfl) ?_
  refine ww_gR (pc := 153) g (k := 77) cl_Mo (pz rfl (by decide)) (by decide) (Or.inl kw_188) (f := 77) (t := 7) rfl rfl rfl d_Mo_collection_153 ?_
  refine ww_gI (pc := 156) g (k := 2) (cl_Va (Or.inl ⟨by decide, rfl⟩)) (pz rfl (by decide)) (by decide) (Or.inl kw_185) (f := 898) rfl rfl d_Mo_collection_156 h fun v156 h => ?_
  obtain ⟨v159, s, hc159, h⟩ := oB_of h
  refine ww_callV (pc := 159) (rest := []) g cv_Mo_markRow (Or.inl kw_448) cl_Mo (pz rfl (by decide)) (ct_Mo_markRow (Or.inl ⟨by decide, rfl⟩) hc159) ⟨by decide, by decide⟩ rfl hl.1 (Nat.le_of_ble_eq_true rfl) d_Mo_collection_159 rfl ?_
  refine ww_st (st' := []) rfl ?_
  refine ww_aload_n (pc := 162) g.1 d_Mo_collection_162 rfl (lv_at hl 0 rfl) ?_
  refine ww_aload_n (pc := 163) g.1 d_Mo_collection_163 rfl (lv_at hl 0 rfl) ?_
  refine ww_gR (pc := 164) g (k := 78) cl_Mo (pz rfl (by decide)) (by decide) (Or.inl kw_184) (f := 78) (t := 10) rfl rfl rfl d_Mo_collection_164 ?_
  refine ww_iconst (pc := 167) g.1 (v := 0) d_Mo_collection_167 (by decide) ?_
  refine ww_aload_n (pc := 168) g.1 d_Mo_collection_168 rfl (lv_at hl 0 rfl) ?_
  refine ww_gR (pc := 169) g (k := 78) cl_Mo (pz rfl (by decide)) (by decide) (Or.inl kw_184) (f := 78) (t := 10) rfl rfl rfl d_Mo_collection_169 ?_
  refine ww_gI (pc := 172) g (k := 2) (cl_Va (Or.inl ⟨by decide, rfl⟩)) (pz rfl (by decide)) (by decide) (Or.inl kw_185) (f := 1282) rfl rfl d_Mo_collection_172 h fun v172 h => ?_
  obtain ⟨v175, s, hc175, h⟩ := oB_of h
  refine ww_callV (pc := 175) (rest := []) g cv_Mo_markRow (Or.inl kw_448) cl_Mo (pz rfl (by decide)) (ct_Mo_markRow (Or.inl ⟨by decide, rfl⟩) hc175) ⟨by decide, by decide⟩ rfl hl.1 (Nat.le_of_ble_eq_true rfl) d_Mo_collection_175 rfl ?_
  refine ww_st (st' := []) rfl ?_
  refine ww_aload_n (pc := 178) g.1 d_Mo_collection_178 rfl (lv_at hl 0 rfl) ?_
  refine ww_aload_n (pc := 179) g.1 d_Mo_collection_179 rfl (lv_at hl 0 rfl) ?_
  refine ww_gI (pc := 180) g (k := 64) cl_Mo (pz rfl (by decide)) (by decide) (Or.inl kw_75) (f := 64) rfl rfl d_Mo_collection_180 h fun v180 h => ?_
  refine ww_aload_n (pc := 183) g.1 d_Mo_collection_183 rfl (lv_at hl 0 rfl) ?_
  refine ww_gL (pc := 184) g (k := 65) cl_Mo (pz rfl (by decide)) (by decide) (Or.inl kw_76) (f := 65) rfl rfl d_Mo_collection_184 h fun v184 h => ?_
  obtain ⟨v187, s, hc187, h⟩ := oB_of h
  refine ww_callV (pc := 187) (rest := []) g cv_Mo_mark (Or.inl kw_326) cl_Mo (pz rfl (by decide)) (ct_Mo_mark hc187) ⟨by decide, by decide⟩ rfl hl.1 (Nat.le_of_ble_eq_true rfl) d_Mo_collection_187 rfl ?_
  refine ww_st (st' := []) rfl ?_
  refine ww_aload_n (pc := 190) g.1 d_Mo_collection_190 rfl (lv_at hl 0 rfl) ?_
  refine ww_aload_n (pc := 191) g.1 d_Mo_collection_191 rfl (lv_at hl 0 rfl) ?_
  refine ww_gR (pc := 192) g (k := 79) cl_Mo (pz rfl (by decide)) (by decide) (Or.inl kw_239) (f := 79) (t := 13) rfl rfl rfl d_Mo_collection_192 ?_
  refine ww_iconst (pc := 195) g.1 (v := 0) d_Mo_collection_195 (by decide) ?_
  refine ww_aload_n (pc := 196) g.1 d_Mo_collection_196 rfl (lv_at hl 0 rfl) ?_
  refine ww_gR (pc := 197) g (k := 79) cl_Mo (pz rfl (by decide)) (by decide) (Or.inl kw_239) (f := 79) (t := 13) rfl rfl rfl d_Mo_collection_197 ?_
  refine ww_gI (pc := 200) g (k := 2) (cl_Va (Or.inl ⟨by decide, rfl⟩)) (pz rfl (by decide)) (by decide) (Or.inl kw_185) (f := 1666) rfl rfl d_Mo_collection_200 h fun v200 h => ?_
  obtain ⟨v203, s, hc203, h⟩ := oB_of h
  refine ww_callV (pc := 203) (rest := []) g cv_Mo_markRow (Or.inl kw_448) cl_Mo (pz rfl (by decide)) (ct_Mo_markRow (Or.inl ⟨by decide, rfl⟩) hc203) ⟨by decide, by decide⟩ rfl hl.1 (Nat.le_of_ble_eq_true rfl) d_Mo_collection_203 rfl ?_
  refine ww_st (st' := []) rfl ?_
  refine ww_aload_n (pc := 206) g.1 d_Mo_collection_206 rfl (lv_at hl 0 rfl) ?_
  refine ww_aload_n (pc := 207) g.1 d_Mo_collection_207 rfl (lv_at hl 0 rfl) ?_
  refine ww_gI (pc := 208) g (k := 75) cl_Mo (pz rfl (by decide)) (by decide) (Or.inl kw_198) (f := 75) rfl rfl d_Mo_collection_208 h fun v208 h => ?_
  refine ww_aload_n (pc := 211) g.1 d_Mo_collection_211 rfl (lv_at hl 0 rfl) ?_
  refine ww_gL (pc := 212) g (k := 76) cl_Mo (pz rfl (by decide)) (by decide) (Or.inl kw_200) (f := 76) rfl rfl d_Mo_collection_212 h fun v212 h => ?_
  obtain ⟨v215, s, hc215, h⟩ := oB_of h
  refine ww_callV (pc := 215) (rest := []) g cv_Mo_mark (Or.inl kw_326) cl_Mo (pz rfl (by decide)) (ct_Mo_mark hc215) ⟨by decide, by decide⟩ rfl hl.1 (Nat.le_of_ble_eq_true rfl) d_Mo_collection_215 rfl ?_
  refine ww_st (st' := []) rfl ?_
  obtain ⟨e218, s1, hw, h⟩ := oB_of h
  refine oW_rule (Wh := fun (x : Unit) (s : S1) => ∀ ls : Array Slot, lv_has ls 2 [(0, .ref (q.1 0 0))] → WW X q s 218 ls []) (We := fun (e : (Unit)) (s : S1) => ∀ ls : Array Slot, lv_has ls 2 [(0, .ref (q.1 0 0))] → WW X q s 248 ls []) (fun x s o hb hc => lp_Mo_collection_L218 (q := q) g x s o hb hc) hw ?_ ls (lv_sub hl [0] rfl)
  clear hw hl
  clear ls
  intro ls hl
  generalize s1 = s at h ⊢
  refine ww_aload_n (pc := 248) g.1 d_Mo_collection_248 rfl (lv_at hl 0 rfl) ?_
  obtain ⟨v249, s, hc249, h⟩ := oB_of h
  refine ww_callV (pc := 249) (rest := []) g cv_Mo_sweep (Or.inl kw_450) cl_Mo (pz rfl (by decide)) (ct_Mo_sweep hc249) ⟨by decide, by decide⟩ rfl hl.1 (Nat.le_of_ble_eq_true rfl) d_Mo_collection_249 rfl ?_
  refine ww_st (st' := []) rfl ?_
  exact ww_vretH (pc := 252) g h hR d_Mo_collection_252

