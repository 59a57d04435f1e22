theorem kw_478 : Cond.methodLink R_Mo 684 y_Mo_put ∈ wA := kinm (show _ ∈ tables_1 from (List.mem_append_right _ (List.mem_append_right _ (List.mem_append_right _ (List.mem_append_right _ (List.mem_append_right _ (List.mem_append_right _ (List.mem_append_right _ (List.mem_append_right _ (List.mem_append_right _ (List.mem_append_right _ (List.mem_append_right _ (List.mem_append_left _ (List.mem_of_getElem? (l := tables_1_12) (i := 81) (by decide +kernel))))))))))))))) (by decide +kernel)
theorem kw_479 : Cond.instanceMethod y_Mo_rawOf ∈ wA := kinm (show _ ∈ tables_1 from (List.mem_append_right _ (List.mem_append_right _ (List.mem_append_right _ (List.mem_append_right _ (List.mem_append_right _ (List.mem_append_right _ (List.mem_append_right _ (List.mem_append_right _ (List.mem_append_right _ (List.mem_append_right _ (List.mem_append_right _ (List.mem_append_right _ (List.mem_append_left _ (List.mem_of_getElem? (l := tables_1_13) (i := 7) (by decide +kernel)))))))))))))))) (by decide +kernel)
theorem kw_480 : Cond.selects R_Mo y_Mo_rawOf y_Mo_rawOf ∈ wA := kinp 176 (by decide +kernel) (by decide +kernel)
def M_Mo_rawOf_j33 (l1 : Int32) : M (Unit) :=
  oB (M_Mo_is 0 5) fun v36 =>
  oC (v36 = 0)
    (oB (M_Mo_raise 2) fun v44 =>
    oR ())
    (oB (M_Mo_av 0) fun v51 =>
    oC (l1 = 7)
      (oB (M_Mo_ak 1) fun v66 =>
      oB (M_Mo_av 1) fun v71 =>
      oB (M_Mo_raw v51.toInt32 v66 v71) fun v74 =>
      oB (oGI 66 0) fun v80 =>
      oB (oGL 67 0) fun v84 =>
      oB (M_Mo_give v80 v84) fun _ =>
      oR ())
      (oC (l1 = 8)
        (oB (M_Mo_ak 1) fun v103 =>
        oB (M_Mo_av 1) fun v108 =>
        oB (M_Mo_ak 2) fun v113 =>
        oB (M_Mo_av 2) fun v118 =>
        oB (M_Mo_put v51.toInt32 v103 v108 v113 v118) fun v121 =>
        oC (v121 = 0)
          (oR ())
          (oB (M_Mo_give 5 v51.toInt32.toInt64) fun _ =>
          oR ()))
        (oB (M_Mo_border v51.toInt32) fun v141 =>
        oB (M_Mo_give 3 v141) fun _ =>
        oR ())))

def M_Mo_rawOf (l1 : Int32) : M (Unit) :=
  oC (l1 = 9)
    (oB (M_Mo_is 0 4) fun v9 =>
    oC (v9 = 0)
      (M_Mo_rawOf_j33 l1)
      (oB (M_Mo_av 0) fun v23 =>
      oB (oAI 63 4100 0 v23.toInt32) fun v27 =>
      oB (M_Mo_give 3 v27.toInt64) fun _ =>
      oR ()))
    (M_Mo_rawOf_j33 l1)

theorem cv_Mo_rawOf : CV y_Mo_rawOf b_Mo_rawOf 3 none 1 := ⟨kw_479, kw_480, kw_17, k_Mo_rawOf, by decide +kernel⟩
theorem j_Mo_rawOf_j33 {X : Cx} {q : PL} (g : Gd X y_Mo_rawOf b_Mo_rawOf 3 none 8 186 R_Mo) {o : (Unit) × S1} (hR : Rt X q o.2 none) (l1 : Int32) (s : S1) (ls : Array Slot) (hl : lv_has ls 3 [(0, .ref (q.1 0 0)), (1, .int l1)]) (h : M_Mo_rawOf_j33 l1 s = some o) : WW X q s 33 ls [] := by
  unfold M_Mo_rawOf_j33 at h
  refine ww_aload_n (pc := 33) g.1 d_Mo_rawOf_33 rfl (lv_at hl 0 rfl) ?_
  refine ww_iconst (pc := 34) g.1 (v := 0) d_Mo_rawOf_34 (by decide) ?_
  refine ww_iconst (pc := 35) g.1 (v := 5) d_Mo_rawOf_35 (by decide) ?_
  obtain ⟨v36, s, hc36, h⟩ := oB_of h
  refine ww_callV (pc := 36) (rest := []) g cv_Mo_is (Or.inl kw_212) cl_Mo (pz rfl (by decide)) (ct_Mo_is hc36) ⟨by decide, by decide⟩ rfl hl.1 (Nat.le_of_ble_eq_true rfl) d_Mo_rawOf_36 rfl ?_
  refine ww_st (st' := [.int v36]) rfl ?_
  refine ww_if_ne (pc := 39) (tgt := 49) g.1 d_Mo_rawOf_39 (by decide) h (fun c h => ?_) (fun c h => ?_)
  · refine ww_aload_n (pc := 49) g.1 d_Mo_rawOf_49 rfl (lv_at hl 0 rfl) ?_
    refine ww_iconst (pc := 50) g.1 (v := 0) d_Mo_rawOf_50 (by decide) ?_
    obtain ⟨v51, s, hc51, h⟩ := oB_of h
    refine ww_callV (pc := 51) (rest := []) g cv_Mo_av (Or.inl kw_199) cl_Mo (pz rfl (by decide)) (ct_Mo_av hc51) ⟨by decide, by decide⟩ rfl hl.1 (Nat.le_of_ble_eq_true rfl) d_Mo_rawOf_51 rfl ?_
    refine ww_st (st' := [.long v51]) rfl ?_
    refine ww_l2i (pc := 54) g.1 (v := v51.toInt32) d_Mo_rawOf_54 rfl ?_
    refine ww_istore_n (pc := 55) g.1 (lv' := [(2, .int v51.toInt32), (0, .ref (q.1 0 0)), (1, .int l1)]) d_Mo_rawOf_55 rfl hl (by decide) rfl fun ls hl => ?_
    refine ww_iload_n (pc := 56) g.1 d_Mo_rawOf_56 rfl (lv_at hl 2 rfl) ?_
    refine ww_bipush (pc := 57) g.1 (v := 7) d_Mo_rawOf_57 (by decide) ?_
    refine ww_icmp_ne (pc := 59) (tgt := 93) g.1 d_Mo_rawOf_59 (by decide) h (fun c h => ?_) (fun c h => ?_)
    · refine ww_iload_n (pc := 93) g.1 d_Mo_rawOf_93 rfl (lv_at hl 2 rfl) ?_
      refine ww_bipush (pc := 94) g.1 (v := 8) d_Mo_rawOf_94 (by decide) ?_
      refine ww_icmp_ne (pc := 96) (tgt := 137) g.1 d_Mo_rawOf_96 (by decide) h (fun c h => ?_) (fun c h => ?_)
      · refine ww_aload_n (pc := 137) g.1 d_Mo_rawOf_137 rfl (lv_at hl 1 rfl) ?_
        refine ww_iconst (pc := 138) g.1 (v := 3) d_Mo_rawOf_138 (by decide) ?_
        refine ww_aload_n (pc := 139) g.1 d_Mo_rawOf_139 rfl (lv_at hl 1 rfl) ?_
        refine ww_iload_n (pc := 140) g.1 d_Mo_rawOf_140 rfl (lv_at hl 0 rfl) ?_
        obtain ⟨v141, s, hc141, h⟩ := oB_of h
        refine ww_callV (pc := 141) (rest := [.int 3, .ref (q.1 0 0)]) g cv_Mo_border (Or.inl kw_434) cl_Mo (pz rfl (by decide)) (ct_Mo_border hc141) ⟨by decide, by decide⟩ rfl hl.1 (Nat.le_of_ble_eq_true rfl) d_Mo_rawOf_141 rfl ?_
        refine ww_st (st' := [.long v141, .int 3, .ref (q.1 0 0)]) rfl ?_
        obtain ⟨v144, s, hc144, h⟩ := oB_of h
        refine ww_callV (pc := 144) (rest := []) g cv_Mo_give (Or.inl kw_218) cl_Mo (pz rfl (by decide)) (ct_Mo_give hc144) ⟨by decide, by decide⟩ rfl hl.1 (Nat.le_of_ble_eq_true rfl) d_Mo_rawOf_144 rfl ?_
        refine ww_st (st' := []) rfl ?_
        exact ww_vretH (pc := 147) g h hR d_Mo_rawOf_147
      · refine ww_aload_n (pc := 99) g.1 d_Mo_rawOf_99 rfl (lv_at hl 1 rfl) ?_
        refine ww_iload_n (pc := 100) g.1 d_Mo_rawOf_100 rfl (lv_at hl 0 rfl) ?_
        refine ww_aload_n (pc := 101) g.1 d_Mo_rawOf_101 rfl (lv_at hl 1 rfl) ?_
        refine ww_iconst (pc := 102) g.1 (v := 1) d_Mo_rawOf_102 (by decide) ?_
        obtain ⟨v103, s, hc103, h⟩ := oB_of h
        refine ww_callV (pc := 103) (rest := [.int v51.toInt32, .ref (q.1 0 0)]) g cv_Mo_ak (Or.inl kw_197) cl_Mo (pz rfl (by decide)) (ct_Mo_ak hc103) ⟨by decide, by decide⟩ rfl hl.1 (Nat.le_of_ble_eq_true rfl) d_Mo_rawOf_103 rfl ?_
        refine ww_st (st' := [.int v103, .int v51.toInt32, .ref (q.1 0 0)]) rfl ?_
        refine ww_aload_n (pc := 106) g.1 d_Mo_rawOf_106 rfl (lv_at hl 1 rfl) ?_
        refine ww_iconst (pc := 107) g.1 (v := 1) d_Mo_rawOf_107 (by decide) ?_
        obtain ⟨v108, s, hc108, h⟩ := oB_of h
        refine ww_callV (pc := 108) (rest := [.int v103, .int v51.toInt32, .ref (q.1 0 0)]) g cv_Mo_av (Or.inl kw_199) cl_Mo (pz rfl (by decide)) (ct_Mo_av hc108) ⟨by decide, by decide⟩ rfl hl.1 (Nat.le_of_ble_eq_true rfl) d_Mo_rawOf_108 rfl ?_
        refine ww_st (st' := [.long v108, .int v103, .int v51.toInt32, .ref (q.1 0 0)]) rfl ?_
        refine ww_aload_n (pc := 111) g.1 d_Mo_rawOf_111 rfl (lv_at hl 1 rfl) ?_
        refine ww_iconst (pc := 112) g.1 (v := 2) d_Mo_rawOf_112 (by decide) ?_
        obtain ⟨v113, s, hc113, h⟩ := oB_of h
        refine ww_callV (pc := 113) (rest := [.long v108, .int v103, .int v51.toInt32, .ref (q.1 0 0)]) g cv_Mo_ak (Or.inl kw_197) cl_Mo (pz rfl (by decide)) (ct_Mo_ak hc113) ⟨by decide, by decide⟩ rfl hl.1 (Nat.le_of_ble_eq_true rfl) d_Mo_rawOf_113 rfl ?_
        refine ww_st (st' := [.int v113, .long v108, .int v103, .int v51.toInt32, .ref (q.1 0 0)]) rfl ?_
        refine ww_aload_n (pc := 116) g.1 d_Mo_rawOf_116 rfl (lv_at hl 1 rfl) ?_
        refine ww_iconst (pc := 117) g.1 (v := 2) d_Mo_rawOf_117 (by decide) ?_
        obtain ⟨v118, s, hc118, h⟩ := oB_of h
        refine ww_callV (pc := 118) (rest := [.int v113, .long v108, .int v103, .int v51.toInt32, .ref (q.1 0 0)]) g cv_Mo_av (Or.inl kw_199) cl_Mo (pz rfl (by decide)) (ct_Mo_av hc118) ⟨by decide, by decide⟩ rfl hl.1 (Nat.le_of_ble_eq_true rfl) d_Mo_rawOf_118 rfl ?_
        refine ww_st (st' := [.long v118, .int v113, .long v108, .int v103, .int v51.toInt32, .ref (q.1 0 0)]) rfl ?_
        obtain ⟨v121, s, hc121, h⟩ := oB_of h
        refine ww_callV (pc := 121) (rest := []) g cv_Mo_put (Or.inl kw_478) cl_Mo (pz rfl (by decide)) (ct_Mo_put hc121) ⟨by decide, by decide⟩ rfl hl.1 (Nat.le_of_ble_eq_true rfl) d_Mo_rawOf_121 rfl ?_
        refine ww_st (st' := [.int v121]) rfl ?_
        refine ww_if_eq (pc := 124) (tgt := 147) g.1 d_Mo_rawOf_124 (by decide) h (fun c h => ?_) (fun c h => ?_)
        · exact ww_vretH (pc := 147) g h hR d_Mo_rawOf_147
        · refine ww_aload_n (pc := 127) g.1 d_Mo_rawOf_127 rfl (lv_at hl 1 rfl) ?_
          refine ww_iconst (pc := 128) g.1 (v := 5) d_Mo_rawOf_128 (by decide) ?_
          refine ww_iload_n (pc := 129) g.1 d_Mo_rawOf_129 rfl (lv_at hl 0 rfl) ?_
          refine ww_i2l (pc := 130) g.1 (v := v51.toInt32.toInt64) d_Mo_rawOf_130 rfl ?_
          obtain ⟨v131, s, hc131, h⟩ := oB_of h
          refine ww_callV (pc := 131) (rest := []) g cv_Mo_give (Or.inl kw_218) cl_Mo (pz rfl (by decide)) (ct_Mo_give hc131) ⟨by decide, by decide⟩ rfl hl.1 (Nat.le_of_ble_eq_true rfl) d_Mo_rawOf_131 rfl ?_
          refine ww_st (st' := []) rfl ?_
          refine ww_goto (pc := 134) (tgt := 147) g.1 d_Mo_rawOf_134 (by decide) ?_
          exact ww_vretH (pc := 147) g h hR d_Mo_rawOf_147
    · refine ww_aload_n (pc := 62) g.1 d_Mo_rawOf_62 rfl (lv_at hl 1 rfl) ?_
      refine ww_iload_n (pc := 63) g.1 d_Mo_rawOf_63 rfl (lv_at hl 0 rfl) ?_
      refine ww_aload_n (pc := 64) g.1 d_Mo_rawOf_64 rfl (lv_at hl 1 rfl) ?_
      refine ww_iconst (pc := 65) g.1 (v := 1) d_Mo_rawOf_65 (by decide) ?_
      obtain ⟨v66, s, hc66, h⟩ := oB_of h
      refine ww_callV (pc := 66) (rest := [.int v51.toInt32, .ref (q.1 0 0)]) g cv_Mo_ak (Or.inl kw_197) cl_Mo (pz rfl (by decide)) (ct_Mo_ak hc66) ⟨by decide, by decide⟩ rfl hl.1 (Nat.le_of_ble_eq_true rfl) d_Mo_rawOf_66 rfl ?_
      refine ww_st (st' := [.int v66, .int v51.toInt32, .ref (q.1 0 0)]) rfl ?_
      refine ww_aload_n (pc := 69) g.1 d_Mo_rawOf_69 rfl (lv_at hl 1 rfl) ?_
      refine ww_iconst (pc := 70) g.1 (v := 1) d_Mo_rawOf_70 (by decide) ?_
      obtain ⟨v71, s, hc71, h⟩ := oB_of h
      refine ww_callV (pc := 71) (rest := [.int v66, .int v51.toInt32, .ref (q.1 0 0)]) g cv_Mo_av (Or.inl kw_199) cl_Mo (pz rfl (by decide)) (ct_Mo_av hc71) ⟨by decide, by decide⟩ rfl hl.1 (Nat.le_of_ble_eq_true rfl) d_Mo_rawOf_71 rfl ?_
      refine ww_st (st' := [.long v71, .int v66, .int v51.toInt32, .ref (q.1 0 0)]) rfl ?_
      obtain ⟨v74, s, hc74, h⟩ := oB_of h
      refine ww_callV (pc := 74) (rest := []) g cv_Mo_raw (Or.inl kw_362) cl_Mo (pz rfl (by decide)) (ct_Mo_raw hc74) ⟨by decide, by decide⟩ rfl hl.1 (Nat.le_of_ble_eq_true rfl) d_Mo_rawOf_74 rfl ?_
      refine ww_st (st' := [.int v74]) rfl ?_
      refine ww_pop (pc := 77) g.1 d_Mo_rawOf_77 rfl ?_
      refine ww_aload_n (pc := 78) g.1 d_Mo_rawOf_78 rfl (lv_at hl 1 rfl) ?_
      refine ww_aload_n (pc := 79) g.1 d_Mo_rawOf_79 rfl (lv_at hl 1 rfl) ?_
      refine ww_gI (pc := 80) g (k := 66) cl_Mo (pz rfl (by decide)) (by decide) (Or.inl kw_94) (f := 66) rfl rfl d_Mo_rawOf_80 h fun v80 h => ?_
      refine ww_aload_n (pc := 83) g.1 d_Mo_rawOf_83 rfl (lv_at hl 1 rfl) ?_
      refine ww_gL (pc := 84) g (k := 67) cl_Mo (pz rfl (by decide)) (by decide) (Or.inl kw_96) (f := 67) rfl rfl d_Mo_rawOf_84 h fun v84 h => ?_
      obtain ⟨v87, s, hc87, h⟩ := oB_of h
      refine ww_callV (pc := 87) (rest := []) g cv_Mo_give (Or.inl kw_218) cl_Mo (pz rfl (by decide)) (ct_Mo_give hc87) ⟨by decide, by decide⟩ rfl hl.1 (Nat.le_of_ble_eq_true rfl) d_Mo_rawOf_87 rfl ?_
      refine ww_st (st' := []) rfl ?_
      refine ww_goto (pc := 90) (tgt := 147) g.1 d_Mo_rawOf_90 (by decide) ?_
      exact ww_vretH (pc := 147) g h hR d_Mo_rawOf_147
  · refine ww_aload_n (pc := 42) g.1 d_Mo_rawOf_42 rfl (lv_at hl 0 rfl) ?_
    refine ww_iconst (pc := 43) g.1 (v := 2) d_Mo_rawOf_43 (by decide) ?_
    obtain ⟨v44, s, hc44, h⟩ := oB_of h
    refine ww_callV (pc := 44) (rest := []) g cv_Mo_raise (Or.inl kw_162) cl_Mo (pz rfl (by decide)) (ct_Mo_raise hc44) ⟨by decide, by decide⟩ rfl hl.1 (Nat.le_of_ble_eq_true rfl) d_Mo_rawOf_44 rfl ?_
    refine ww_st (st' := [.int v44]) rfl ?_
    refine ww_pop (pc := 47) g.1 d_Mo_rawOf_47 rfl ?_
    exact ww_vretH (pc := 48) g h hR d_Mo_rawOf_48

theorem ct_Mo_rawOf {l : Launch} {P : PP} {q : PL} {s s' : S1} {l1 : Int32} {r : Unit} (h : M_Mo_rawOf l1 s = some (r, s')) : Ct l y_Mo_rawOf b_Mo_rawOf 3 none 8 186 P q s [.ref (q.1 0 0), .int l1] none q s' := by
  refine ct_of (by decide) (Nat.le_of_ble_eq_true rfl) fun X ls eP el g hR hl => ?_
  have hR : Rt X q ((r, s') : Unit × S1).2 none := hR
  have hl : lv_has ls 3 [(0, .ref (q.1 0 0)), (1, .int l1)] := hl
  generalize (r, s') = o at h hR
  unfold M_Mo_rawOf at h
  refine ww_iload_n (pc := 0) g.1 d_Mo_rawOf_0 rfl (lv_at hl 1 rfl) ?_
  refine ww_bipush (pc := 1) g.1 (v := 9) d_Mo_rawOf_1 (by decide) ?_
  refine ww_icmp_ne (pc := 3) (tgt := 33) g.1 d_Mo_rawOf_3 (by decide) h (fun c h => ?_) (fun c h => ?_)
  · exact j_Mo_rawOf_j33 g hR l1 s ls (lv_sub hl [0, 1] rfl) h
  · refine ww_aload_n (pc := 6) g.1 d_Mo_rawOf_6 rfl (lv_at hl 0 rfl) ?_
    refine ww_iconst (pc := 7) g.1 (v := 0) d_Mo_rawOf_7 (by decide) ?_
    refine ww_iconst (pc := 8) g.1 (v := 4) d_Mo_rawOf_8 (by decide) ?_
    obtain ⟨v9, s, hc9, h⟩ := oB_of h
    refine ww_callV (pc := 9) (rest := []) g cv_Mo_is (Or.inl kw_212) cl_Mo (pz rfl (by decide)) (ct_Mo_is hc9) ⟨by decide, by decide⟩ rfl hl.1 (Nat.le_of_ble_eq_true rfl) d_Mo_rawOf_9 rfl ?_
    refine ww_st (st' := [.int v9]) rfl ?_
    refine ww_if_eq (pc := 12) (tgt := 33) g.1 d_Mo_rawOf_12 (by decide) h (fun c h => ?_) (fun c h => ?_)
    · exact j_Mo_rawOf_j33 g hR l1 s ls (lv_sub hl [0, 1] rfl) h
    · refine ww_aload_n (pc := 15) g.1 d_Mo_rawOf_15 rfl (lv_at hl 0 rfl) ?_
      refine ww_iconst (pc := 16) g.1 (v := 3) d_Mo_rawOf_16 (by decide) ?_
      refine ww_aload_n (pc := 17) g.1 d_Mo_rawOf_17 rfl (lv_at hl 0 rfl) ?_
      refine ww_gR (pc := 18) g (k := 50) cl_Mo (pz rfl (by decide)) (by decide) (Or.inl kw_93) (f := 50) (t := 63) rfl rfl rfl d_Mo_rawOf_18 ?_
      refine ww_aload_n (pc := 21) g.1 d_Mo_rawOf_21 rfl (lv_at hl 0 rfl) ?_
      refine ww_iconst (pc := 22) g.1 (v := 0) d_Mo_rawOf_22 (by decide) ?_
      obtain ⟨v23, s, hc23, h⟩ := oB_of h
      refine ww_callV (pc := 23) (rest := [.ref (q.1 63 0), .int 3, .ref (q.1 0 0)]) g cv_Mo_av (Or.inl kw_199) cl_Mo (pz rfl (by decide)) (ct_Mo_av hc23) ⟨by decide, by decide⟩ rfl hl.1 (Nat.le_of_ble_eq_true rfl) d_Mo_rawOf_23 rfl ?_
      refine ww_st (st' := [.long v23, .ref (q.1 63 0), .int 3, .ref (q.1 0 0)]) rfl ?_
      refine ww_l2i (pc := 26) g.1 (v := v23.toInt32) d_Mo_rawOf_26 rfl ?_
      refine ww_ai (pc := 27) g (pz rfl (by decide)) rfl rfl d_Mo_rawOf_27 h fun v27 h => ?_
      refine ww_i2l (pc := 28) g.1 (v := v27.toInt64) d_Mo_rawOf_28 rfl ?_
      obtain ⟨v29, s, hc29, h⟩ := oB_of h
      refine ww_callV (pc := 29) (rest := []) g cv_Mo_give (Or.inl kw_218) cl_Mo (pz rfl (by decide)) (ct_Mo_give hc29) ⟨by decide, by decide⟩ rfl hl.1 (Nat.le_of_ble_eq_true rfl) d_Mo_rawOf_29 rfl ?_
      refine ww_st (st' := []) rfl ?_
      exact ww_vretH (pc := 32) g h hR d_Mo_rawOf_32

theorem kw_481 : Cond.methodLink R_Mo 692 y_Mo_thread ∈ wA := kinm (show _ ∈ tables_1 from (List.mem_append_right _ (List.mem_append_right _ (List.mem_append_right _ (List.mem_append_right _ (List.mem_append_right _ (List.mem_append_right _ (List.mem_append_right _ (List.mem_append_right _ (List.mem_append_right _ (List.mem_append_right _ (List.mem_append_right _ (List.mem_append_left _ (List.mem_of_getElem? (l := tables_1_12) (i := 117) (by decide +kernel))))))))))))))) (by decide +kernel)
theorem kw_482 : Cond.methodLink R_Mo 688 y_Mo_closure ∈ wA := kinm (show _ ∈ tables_1 from (List.mem_append_right _ (List.mem_append_right _ (List.mem_append_right _ (List.mem_append_right _ (List.mem_append_right _ (List.mem_append_right _ (List.mem_append_right _ (List.mem_append_right _ (List.mem_append_right _ (List.mem_append_right _ (List.mem_append_right _ (List.mem_append_left _ (List.mem_of_getElem? (l := tables_1_12) (i := 113) (by decide +kernel))))))))))))))) (by decide +kernel)
theorem kw_483 : Cond.instanceMethod y_Mo_create ∈ wA := kinm (show _ ∈ tables_1 from (List.mem_append_right _ (List.mem_append_right _ (List.mem_append_right _ (List.mem_append_right _ (List.mem_append_right _ (List.mem_append_right _ (List.mem_append_right _ (List.mem_append_right _ (List.mem_append_right _ (List.mem_append_right _ (List.mem_append_right _ (List.mem_append_right _ (List.mem_append_left _ (List.mem_of_getElem? (l := tables_1_13) (i := 54) (by decide +kernel)))))))))))))))) (by decide +kernel)
theorem kw_484 : Cond.selects R_Mo y_Mo_create y_Mo_create ∈ wA := kinp 185 (by decide +kernel) (by decide +kernel)
def M_Mo_create (l1 : Int32) : M (Unit) :=
  oB (M_Mo_is 0 6) fun v4 =>
  oC (v4 = 0)
    (oB (M_Mo_raise 1) fun v12 =>
    oR ())
    (oB (M_Mo_thread) fun v18 =>
    oC (0 ≤ v18)
      (oB (oAI 62 4100 0 v18) fun v36 =>
      oB (oK ((0 : Int32) ≤ v36 ∧ v36 < 33)) fun _ =>
      oB (M_Va_add_ 25 v36 7 0 0) fun _ =>
      oC (l1 = 0)
        (oB (M_Mo_give 7 v18.toInt64) fun _ =>
        oR ())
        (oB (oGI 2050 0) fun v66 =>
        oB (M_Va_add 16 0 7 v18.toInt64) fun _ =>
        oB (M_Mo_closure (-1) v18 0) fun v85 =>
        oB (oPI 2050 0 v66) fun _ =>
        oC (v85 < 0)
          (oR ())
          (oB (M_Mo_give 6 v85.toInt64) fun _ =>
          oR ())))
      (oR ()))

theorem cv_Mo_create : CV y_Mo_create b_Mo_create 5 none 1 := ⟨kw_483, kw_484, kw_17, k_Mo_create, by decide +kernel⟩
theorem ct_Mo_create {l : Launch} {P : PP} {q : PL} {s s' : S1} {l1 : Int32} {r : Unit} (h : M_Mo_create l1 s = some (r, s')) : Ct l y_Mo_create b_Mo_create 5 none 8 179 P q s [.ref (q.1 0 0), .int l1] none q s' := by
  refine ct_of (by decide) (Nat.le_of_ble_eq_true rfl) fun X ls eP el g hR hl => ?_
  have hR : Rt X q ((r, s') : Unit × S1).2 none := hR
  have hl : lv_has ls 5 [(0, .ref (q.1 0 0)), (1, .int l1)] := hl
  generalize (r, s') = o at h hR
  unfold M_Mo_create at h
  refine ww_aload_n (pc := 0) g.1 d_Mo_create_0 rfl (lv_at hl 0 rfl) ?_
  refine ww_iconst (pc := 1) g.1 (v := 0) d_Mo_create_1 (by decide) ?_
  refine ww_bipush (pc := 2) g.1 (v := 6) d_Mo_create_2 (by decide) ?_
  obtain ⟨v4, s, hc4, h⟩ := oB_of h
  refine ww_callV (pc := 4) (rest := []) g cv_Mo_is (Or.inl kw_212) cl_Mo (pz rfl (by decide)) (ct_Mo_is hc4) ⟨by decide, by decide⟩ rfl hl.1 (Nat.le_of_ble_eq_true rfl) d_Mo_create_4 rfl ?_
  refine ww_st (st' := [.int v4]) rfl ?_
  refine ww_if_ne (pc := 7) (tgt := 17) g.1 d_Mo_create_7 (by decide) h (fun c h => ?_) (fun c h => ?_)
  · refine ww_aload_n (pc := 17) g.1 d_Mo_create_17 rfl (lv_at hl 0 rfl) ?_
    obtain ⟨v18, s, hc18, h⟩ := oB_of h
    refine ww_callV (pc := 18) (rest := []) g cv_Mo_thread (Or.inl kw_481) cl_Mo (pz rfl (by decide)) (ct_Mo_thread hc18) ⟨by decide, by decide⟩ rfl hl.1 (Nat.le_of_ble_eq_true rfl) d_Mo_create_18 rfl ?_
    refine ww_st (st' := [.int v18]) rfl ?_
    refine ww_istore_n (pc := 21) g.1 (lv' := [(2, .int v18), (0, .ref (q.1 0 0)), (1, .int l1)]) d_Mo_create_21 rfl hl (by decide) rfl fun ls hl => ?_
    refine ww_iload_n (pc := 22) g.1 d_Mo_create_22 rfl (lv_at hl 0 rfl) ?_
    refine ww_if_ge (pc := 23) (tgt := 27) g.1 d_Mo_create_23 (by decide) h (fun c h => ?_) (fun c h => ?_)
    · refine ww_aload_n (pc := 27) g.1 d_Mo_create_27 rfl (lv_at hl 1 rfl) ?_
      refine ww_gR (pc := 28) g (k := 71) cl_Mo (pz rfl (by decide)) (by decide) (Or.inl kw_90) (f := 71) (t := 76) rfl rfl rfl d_Mo_create_28 ?_
      refine ww_aload_n (pc := 31) g.1 d_Mo_create_31 rfl (lv_at hl 1 rfl) ?_
      refine ww_gR (pc := 32) g (k := 49) cl_Mo (pz rfl (by decide)) (by decide) (Or.inl kw_89) (f := 49) (t := 62) rfl rfl rfl d_Mo_create_32 ?_
      refine ww_iload_n (pc := 35) g.1 d_Mo_create_35 rfl (lv_at hl 0 rfl) ?_
      refine ww_ai (pc := 36) g (pz rfl (by decide)) rfl rfl d_Mo_create_36 h fun v36 h => ?_
      refine ww_at (pc := 37) g (t := 28) (pz rfl (by decide)) rfl rfl rfl d_Mo_create_37 h fun ca37 h => ?_
      refine ww_gR (pc := 38) g (k := 9) cl_Th (pt rfl rfl ca37) (by decide) (Or.inl kw_226) (f := 3593) (t := 25) rfl rfl rfl d_Mo_create_38 ?_
      refine ww_aload_n (pc := 41) g.1 d_Mo_create_41 rfl (lv_at hl 1 rfl) ?_
      refine ww_gR (pc := 42) g (k := 77) cl_Mo (pz rfl (by decide)) (by decide) (Or.inl kw_188) (f := 77) (t := 7) rfl rfl rfl d_Mo_create_42 ?_
      refine ww_iconst (pc := 45) g.1 (v := 0) d_Mo_create_45 (by decide) ?_
      obtain ⟨v46, s, hc46, h⟩ := oB_of h
      refine ww_callV (pc := 46) (rest := []) g cv_Va_add_ (Or.inl kw_227) (cl_Va (Or.inr ⟨by decide, ca37⟩)) (pt rfl rfl ca37) (ct_Va_add_ (Or.inr ⟨by decide, ca37⟩) (Or.inl ⟨by decide, rfl⟩) hc46) ⟨by decide, by decide⟩ rfl hl.1 (Nat.le_of_ble_eq_true rfl) d_Mo_create_46 rfl ?_
      refine ww_st (st' := []) rfl ?_
      refine ww_iload_n (pc := 49) g.1 d_Mo_create_49 rfl (lv_at hl 2 rfl) ?_
      refine ww_if_ne (pc := 50) (tgt := 62) g.1 d_Mo_create_50 (by decide) h (fun c h => ?_) (fun c h => ?_)
      · refine ww_aload_n (pc := 62) g.1 d_Mo_create_62 rfl (lv_at hl 1 rfl) ?_
        refine ww_gR (pc := 63) g (k := 70) cl_Mo (pz rfl (by decide)) (by decide) (Or.inl kw_447) (f := 70) (t := 16) rfl rfl rfl d_Mo_create_63 ?_
        refine ww_gI (pc := 66) g (k := 2) (cl_Va (Or.inl ⟨by decide, rfl⟩)) (pz rfl (by decide)) (by decide) (Or.inl kw_185) (f := 2050) rfl rfl d_Mo_create_66 h fun v66 h => ?_
        refine ww_istore_n (pc := 69) g.1 (lv' := [(3, .int v66), (2, .int v18), (0, .ref (q.1 0 0)), (1, .int l1)]) d_Mo_create_69 rfl hl (by decide) rfl fun ls hl => ?_
        refine ww_aload_n (pc := 70) g.1 d_Mo_create_70 rfl (lv_at hl 2 rfl) ?_
        refine ww_gR (pc := 71) g (k := 70) cl_Mo (pz rfl (by decide)) (by decide) (Or.inl kw_447) (f := 70) (t := 16) rfl rfl rfl d_Mo_create_71 ?_
        refine ww_bipush (pc := 74) g.1 (v := 7) d_Mo_create_74 (by decide) ?_
        refine ww_iload_n (pc := 76) g.1 d_Mo_create_76 rfl (lv_at hl 1 rfl) ?_
        refine ww_i2l (pc := 77) g.1 (v := v18.toInt64) d_Mo_create_77 rfl ?_
        obtain ⟨v78, s, hc78, h⟩ := oB_of h
        refine ww_callV (pc := 78) (rest := []) g cv_Va_add (Or.inl kw_193) (cl_Va (Or.inl ⟨by decide, rfl⟩)) (pz rfl (by decide)) (ct_Va_add (Or.inl ⟨by decide, rfl⟩) hc78) ⟨by decide, by decide⟩ rfl hl.1 (Nat.le_of_ble_eq_true rfl) d_Mo_create_78 rfl ?_
        refine ww_st (st' := []) rfl ?_
        refine ww_aload_n (pc := 81) g.1 d_Mo_create_81 rfl (lv_at hl 2 rfl) ?_
        refine ww_iconst (pc := 82) g.1 (v := (-1)) d_Mo_create_82 (by decide) ?_
        refine ww_iload_n (pc := 83) g.1 d_Mo_create_83 rfl (lv_at hl 1 rfl) ?_
        refine ww_iconst (pc := 84) g.1 (v := 0) d_Mo_create_84 (by decide) ?_
        obtain ⟨v85, s, hc85, h⟩ := oB_of h
        refine ww_callV (pc := 85) (rest := []) g cv_Mo_closure (Or.inl kw_482) cl_Mo (pz rfl (by decide)) (ct_Mo_closure hc85) ⟨by decide, by decide⟩ rfl hl.1 (Nat.le_of_ble_eq_true rfl) d_Mo_create_85 rfl ?_
        refine ww_st (st' := [.int v85]) rfl ?_
        refine ww_istore (pc := 88) g.1 (lv' := [(4, .int v85), (3, .int v66), (2, .int v18), (0, .ref (q.1 0 0)), (1, .int l1)]) d_Mo_create_88 hl (by decide) rfl fun ls hl => ?_
        refine ww_aload_n (pc := 90) g.1 d_Mo_create_90 rfl (lv_at hl 3 rfl) ?_
        refine ww_gR (pc := 91) g (k := 70) cl_Mo (pz rfl (by decide)) (by decide) (Or.inl kw_447) (f := 70) (t := 16) rfl rfl rfl d_Mo_create_91 ?_
        refine ww_iload_n (pc := 94) g.1 d_Mo_create_94 rfl (lv_at hl 1 rfl) ?_
        refine ww_pI (pc := 95) g (k := 2) (cl_Va (Or.inl ⟨by decide, rfl⟩)) (pz rfl (by decide)) (by decide) (Or.inl kw_185) rfl (f := 2050) rfl rfl rfl rfl d_Mo_create_95 h fun s hs h => ?_
        refine ww_iload (pc := 98) g.1 d_Mo_create_98 (lv_at hl 0 rfl) ?_
        refine ww_if_lt (pc := 100) (tgt := 112) g.1 d_Mo_create_100 (by decide) h (fun c h => ?_) (fun c h => ?_)
        · exact ww_vretH (pc := 112) g h hR d_Mo_create_112
        · refine ww_aload_n (pc := 103) g.1 d_Mo_create_103 rfl (lv_at hl 3 rfl) ?_
          refine ww_bipush (pc := 104) g.1 (v := 6) d_Mo_create_104 (by decide) ?_
          refine ww_iload (pc := 106) g.1 d_Mo_create_106 (lv_at hl 0 rfl) ?_
          refine ww_i2l (pc := 108) g.1 (v := v85.toInt64) d_Mo_create_108 rfl ?_
          obtain ⟨v109, s, hc109, h⟩ := oB_of h
          refine ww_callV (pc := 109) (rest := []) g cv_Mo_give (Or.inl kw_218) cl_Mo (pz rfl (by decide)) (ct_Mo_give hc109) ⟨by decide, by decide⟩ rfl hl.1 (Nat.le_of_ble_eq_true rfl) d_Mo_create_109 rfl ?_
          refine ww_st (st' := []) rfl ?_
          exact ww_vretH (pc := 112) g h hR d_Mo_create_112
      · refine ww_aload_n (pc := 53) g.1 d_Mo_create_53 rfl (lv_at hl 1 rfl) ?_
        refine ww_bipush (pc := 54) g.1 (v := 7) d_Mo_create_54 (by decide) ?_
        refine ww_iload_n (pc := 56) g.1 d_Mo_create_56 rfl (lv_at hl 0 rfl) ?_
        refine ww_i2l (pc := 57) g.1 (v := v18.toInt64) d_Mo_create_57 rfl ?_
        obtain ⟨v58, s, hc58, h⟩ := oB_of h
        refine ww_callV (pc := 58) (rest := []) g cv_Mo_give (Or.inl kw_218) cl_Mo (pz rfl (by decide)) (ct_Mo_give hc58) ⟨by decide, by decide⟩ rfl hl.1 (Nat.le_of_ble_eq_true rfl) d_Mo_create_58 rfl ?_
        refine ww_st (st' := []) rfl ?_
        exact ww_vretH (pc := 61) g h hR d_Mo_create_61
    · exact ww_vretH (pc := 26) g h hR d_Mo_create_26
  · refine ww_aload_n (pc := 10) g.1 d_Mo_create_10 rfl (lv_at hl 0 rfl) ?_
    refine ww_iconst (pc := 11) g.1 (v := 1) d_Mo_create_11 (by decide) ?_
    obtain ⟨v12, s, hc12, h⟩ := oB_of h
    refine ww_callV (pc := 12) (rest := []) g cv_Mo_raise (Or.inl kw_162) cl_Mo (pz rfl (by decide)) (ct_Mo_raise hc12) ⟨by decide, by decide⟩ rfl hl.1 (Nat.le_of_ble_eq_true rfl) d_Mo_create_12 rfl ?_
    refine ww_st (st' := [.int v12]) rfl ?_
    refine ww_pop (pc := 15) g.1 d_Mo_create_15 rfl ?_
    exact ww_vretH (pc := 16) g h hR d_Mo_create_16

theorem kw_485 : Cond.instanceMethod y_Mo_write ∈ wA := kinm (show _ ∈ tables_1 from (List.mem_append_right _ (List.mem_append_right _ (List.mem_append_right _ (List.mem_append_right _ (List.mem_append_right _ (List.mem_append_right _ (List.mem_append_right _ (List.mem_append_right _ (List.mem_append_right _ (List.mem_append_right _ (List.mem_append_right _ (List.mem_append_right _ (List.mem_append_left _ (List.mem_of_getElem? (l := tables_1_13) (i := 157) (by decide +kernel)))))))))))))))) (by decide +kernel)
theorem kw_486 : Cond.selects R_Mo y_Mo_write y_Mo_write ∈ wA := kinp 210 (by decide +kernel) (by decide +kernel)
def M_Mo_write_L9 : (Int32 × Int64 × Int32 × Int64 × Int32 × Int64 × Int32) → M ((Int32 × Int64 × Int32 × Int64 × Int32 × Int64 × Int32) ⊕ ((Unit) ⊕ (Int32 × Int64 × Int32 × Int64 × Int64) ⊕ (Int32 × Int64 × Int32 × Int64 × Int32 × Int64) ⊕ (Unit))) := fun x =>
  oC (x.2.2.2.2.1 = 5)
    (oB (M_Mo_raw x.2.2.2.2.2.1.toInt32 x.1 x.2.1) fun v30 =>
    oC (v30 = 0)
      (oB (M_Mo_meta x.2.2.2.2.1 x.2.2.2.2.2.1 1) fun v42 =>
      oC (v42 = 0)
        (oR (Sum.inr (Sum.inr (Sum.inl (x.1, x.2.1, x.2.2.1, x.2.2.2.1, x.2.2.2.2.2.1)))))
        (oB (oGI 66 0) fun v66 =>
        oC (v66 = 6)
          (oR (Sum.inr (Sum.inr (Sum.inr (Sum.inl (x.1, x.2.1, x.2.2.1, x.2.2.2.1, x.2.2.2.2.1, x.2.2.2.2.2.1))))))
          (oC (x.2.2.2.2.2.2 = 100)
            (oR (Sum.inr (Sum.inr (Sum.inr (Sum.inr ())))))
            (oB (oGI 66 0) fun v124 =>
            oB (oGL 67 0) fun v130 =>
            oR (Sum.inl (x.1, x.2.1, x.2.2.1, x.2.2.2.1, v124, v130, x.2.2.2.2.2.2 + 1))))))
      (oR (Sum.inr (Sum.inr (Sum.inl (x.1, x.2.1, x.2.2.1, x.2.2.2.1, x.2.2.2.2.2.1))))))
    (oR (Sum.inr (Sum.inl ())))

def M_Mo_write_j48 (l4 : Int32) (l5 : Int64) (l7 : Int32) (l8 : Int64) (l11 : Int64) : M (Unit) :=
  oB (M_Mo_put l11.toInt32 l4 l5 l7 l8) fun v60 =>
  oR ()

def M_Mo_write (l1 : Int32) (l2 : Int64) (l4 : Int32) (l5 : Int64) (l7 : Int32) (l8 : Int64) : M (Unit) :=
  oB (oW M_Mo_write_L9 (l4, l5, l7, l8, l1, l2, 1)) fun e9 =>
  Sum.elim
    (fun y9_15 : Unit =>
      oB (M_Mo_raise 2) fun v17 =>
      oR ())
    (Sum.elim
      (fun y9_48 : Int32 × Int64 × Int32 × Int64 × Int64 =>
        M_Mo_write_j48 y9_48.1 y9_48.2.1 y9_48.2.2.1 y9_48.2.2.2.1 y9_48.2.2.2.2)
      (Sum.elim
        (fun y9_74 : Int32 × Int64 × Int32 × Int64 × Int32 × Int64 =>
          oB (M_Mo_arguments y9_74.2.2.2.2.1 y9_74.2.2.2.2.2 y9_74.1 y9_74.2.1) fun _ =>
          oB (M_Va_add 7 0 y9_74.2.2.1 y9_74.2.2.2.1) fun _ =>
          oB (M_Mo_expect 3 0 0) fun _ =>
          oB (M_Mo_callGot) fun _ =>
          oR ())
        (fun y9_116 : Unit =>
          oB (M_Mo_raise 4) fun v118 =>
          oR ()))) e9

theorem cv_Mo_write : CV y_Mo_write b_Mo_write 14 none 6 := ⟨kw_485, kw_486, kw_17, k_Mo_write, by decide +kernel⟩
theorem lp_Mo_write_L9 {X : Cx} {q : PL} (g : Gd X y_Mo_write b_Mo_write 14 none 8 186 R_Mo) (x : Int32 × Int64 × Int32 × Int64 × Int32 × Int64 × Int32) (s : S1) (o : ((Int32 × Int64 × Int32 × Int64 × Int32 × Int64 × Int32) ⊕ ((Unit) ⊕ (Int32 × Int64 × Int32 × Int64 × Int64) ⊕ (Int32 × Int64 × Int32 × Int64 × Int32 × Int64) ⊕ (Unit))) × S1) (h : M_Mo_write_L9 x s = some o) (hR : (Sum.elim (fun y : Int32 × Int64 × Int32 × Int64 × Int32 × Int64 × Int32 => ∀ ls : Array Slot, lv_has ls 14 [(0, .ref (q.1 0 0)), (4, .int y.1), (5, .long y.2.1), (7, .int y.2.2.1), (8, .long y.2.2.2.1), (10, .int y.2.2.2.2.1), (11, .long y.2.2.2.2.2.1), (13, .int y.2.2.2.2.2.2)] → WW X q o.2 9 ls []) (Sum.elim (fun y : Unit => ∀ ls : Array Slot, lv_has ls 14 [(0, .ref (q.1 0 0))] → WW X q o.2 15 ls []) (Sum.elim (fun y : Int32 × Int64 × Int32 × Int64 × Int64 => ∀ ls : Array Slot, lv_has ls 14 [(0, .ref (q.1 0 0)), (4, .int y.1), (5, .long y.2.1), (7, .int y.2.2.1), (8, .long y.2.2.2.1), (11, .long y.2.2.2.2)] → WW X q o.2 48 ls []) (Sum.elim (fun y : Int32 × Int64 × Int32 × Int64 × Int32 × Int64 => ∀ ls : Array Slot, lv_has ls 14 [(0, .ref (q.1 0 0)), (4, .int y.1), (5, .long y.2.1), (7, .int y.2.2.1), (8, .long y.2.2.2.1), (10, .int y.2.2.2.2.1), (11, .long y.2.2.2.2.2)] → WW X q o.2 74 ls []) (fun y : Unit => ∀ ls : Array Slot, lv_has ls 14 [(0, .ref (q.1 0 0))] → WW X q o.2 116 ls [])))) o.1)) : ∀ ls : Array Slot, lv_has ls 14 [(0, .ref (q.1 0 0)), (4, .int x.1), (5, .long x.2.1), (7, .int x.2.2.1), (8, .long x.2.2.2.1), (10, .int x.2.2.2.2.1), (11, .long x.2.2.2.2.2.1), (13, .int x.2.2.2.2.2.2)] → WW X q s 9 ls [] := by
  intro ls hl
  unfold M_Mo_write_L9 at h
  refine ww_iload (pc := 9) g.1 d_Mo_write_9 (lv_at hl 5 rfl) ?_
  refine ww_iconst (pc := 11) g.1 (v := 5) d_Mo_write_11 (by decide) ?_
  refine ww_icmp_eq (pc := 12) (tgt := 22) g.1 d_Mo_write_12 (by decide) h (fun c h => ?_) (fun c h => ?_)
  · refine ww_aload_n (pc := 22) g.1 d_Mo_write_22 rfl (lv_at hl 0 rfl) ?_
    refine ww_lload (pc := 23) g.1 d_Mo_write_23 (lv_at hl 6 rfl) ?_
    refine ww_l2i (pc := 25) g.1 (v := x.2.2.2.2.2.1.toInt32) d_Mo_write_25 rfl ?_
    refine ww_iload (pc := 26) g.1 d_Mo_write_26 (lv_at hl 1 rfl) ?_
    refine ww_lload (pc := 28) g.1 d_Mo_write_28 (lv_at hl 2 rfl) ?_
    obtain ⟨v30, s, hc30, h⟩ := oB_of h
    refine ww_callV (pc := 30) (rest := []) g cv_Mo_raw (Or.inl kw_362) cl_Mo (pz rfl (by decide)) (ct_Mo_raw hc30) ⟨by decide, by decide⟩ rfl hl.1 (Nat.le_of_ble_eq_true rfl) d_Mo_write_30 rfl ?_
    refine ww_st (st' := [.int v30]) rfl ?_
    refine ww_if_ne (pc := 33) (tgt := 48) g.1 d_Mo_write_33 (by decide) h (fun c h => ?_) (fun c h => ?_)
    · rw [oR_eq h] at hR
      exact hR ls (lv_sub hl [0, 1, 2, 3, 4, 6] rfl)
    · refine ww_aload_n (pc := 36) g.1 d_Mo_write_36 rfl (lv_at hl 0 rfl) ?_
      refine ww_iload (pc := 37) g.1 d_Mo_write_37 (lv_at hl 5 rfl) ?_
      refine ww_lload (pc := 39) g.1 d_Mo_write_39 (lv_at hl 6 rfl) ?_
      refine ww_iconst (pc := 41) g.1 (v := 1) d_Mo_write_41 (by decide) ?_
      obtain ⟨v42, s, hc42, h⟩ := oB_of h
      refine ww_callV (pc := 42) (rest := []) g cv_Mo_meta (Or.inl kw_415) cl_Mo (pz rfl (by decide)) (ct_Mo_meta hc42) ⟨by decide, by decide⟩ rfl hl.1 (Nat.le_of_ble_eq_true rfl) d_Mo_write_42 rfl ?_
      refine ww_st (st' := [.int v42]) rfl ?_
      refine ww_if_ne (pc := 45) (tgt := 65) g.1 d_Mo_write_45 (by decide) h (fun c h => ?_) (fun c h => ?_)
      · refine ww_aload_n (pc := 65) g.1 d_Mo_write_65 rfl (lv_at hl 0 rfl) ?_
        refine ww_gI (pc := 66) g (k := 66) cl_Mo (pz rfl (by decide)) (by decide) (Or.inl kw_94) (f := 66) rfl rfl d_Mo_write_66 h fun v66 h => ?_
        refine ww_bipush (pc := 69) g.1 (v := 6) d_Mo_write_69 (by decide) ?_
        refine ww_icmp_ne (pc := 71) (tgt := 109) g.1 d_Mo_write_71 (by decide) h (fun c h => ?_) (fun c h => ?_)
        · refine ww_iload (pc := 109) g.1 d_Mo_write_109 (lv_at hl 7 rfl) ?_
          refine ww_bipush (pc := 111) g.1 (v := 100) d_Mo_write_111 (by decide) ?_
          refine ww_icmp_ne (pc := 113) (tgt := 123) g.1 d_Mo_write_113 (by decide) h (fun c h => ?_) (fun c h => ?_)
          · refine ww_aload_n (pc := 123) g.1 d_Mo_write_123 rfl (lv_at hl 0 rfl) ?_
            refine ww_gI (pc := 124) g (k := 66) cl_Mo (pz rfl (by decide)) (by decide) (Or.inl kw_94) (f := 66) rfl rfl d_Mo_write_124 h fun v124 h => ?_
            refine ww_istore (pc := 127) g.1 (lv' := [(10, .int v124), (0, .ref (q.1 0 0)), (4, .int x.1), (5, .long x.2.1), (7, .int x.2.2.1), (8, .long x.2.2.2.1), (11, .long x.2.2.2.2.2.1), (13, .int x.2.2.2.2.2.2)]) d_Mo_write_127 hl (by decide) rfl fun ls hl => ?_
            refine ww_aload_n (pc := 129) g.1 d_Mo_write_129 rfl (lv_at hl 1 rfl) ?_
            refine ww_gL (pc := 130) g (k := 67) cl_Mo (pz rfl (by decide)) (by decide) (Or.inl kw_96) (f := 67) rfl rfl d_Mo_write_130 h fun v130 h => ?_
            refine ww_lstore (pc := 133) g.1 (lv' := [(11, .long v130), (10, .int v124), (0, .ref (q.1 0 0)), (4, .int x.1), (5, .long x.2.1), (7, .int x.2.2.1), (8, .long x.2.2.2.1), (13, .int x.2.2.2.2.2.2)]) d_Mo_write_133 hl (by decide) rfl fun ls hl => ?_
            refine ww_iinc (pc := 135) g.1 (v := x.2.2.2.2.2.2 + 1) (lv' := [(13, .int (x.2.2.2.2.2.2 + 1)), (11, .long v130), (10, .int v124), (0, .ref (q.1 0 0)), (4, .int x.1), (5, .long x.2.1), (7, .int x.2.2.1), (8, .long x.2.2.2.1)]) d_Mo_write_135 hl (k := 7) rfl (by rfl) (by decide) rfl fun ls hl => ?_
            refine ww_goto (pc := 138) (tgt := 9) g.1 d_Mo_write_138 (by decide) ?_
            rw [oR_eq h] at hR
            exact hR ls (lv_sub hl [3, 4, 5, 6, 7, 2, 1, 0] rfl)
          · rw [oR_eq h] at hR
            exact hR ls (lv_sub hl [0] rfl)
        · rw [oR_eq h] at hR
          exact hR ls (lv_sub hl [0, 1, 2, 3, 4, 5, 6] rfl)
      · rw [oR_eq h] at hR
        exact hR ls (lv_sub hl [0, 1, 2, 3, 4, 6] rfl)
  · rw [oR_eq h] at hR
    exact hR ls (lv_sub hl [0] rfl)

theorem j_Mo_write_j48 {X : Cx} {q : PL} (g : Gd X y_Mo_write b_Mo_write 14 none 8 186 R_Mo) {o : (Unit) × S1} (hR : Rt X q o.2 none) (l4 : Int32) (l5 : Int64) (l7 : Int32) (l8 : Int64) (l11 : Int64) (s : S1) (ls : Array Slot) (hl : lv_has ls 14 [(0, .ref (q.1 0 0)), (4, .int l4), (5, .long l5), (7, .int l7), (8, .long l8), (11, .long l11)]) (h : M_Mo_write_j48 l4 l5 l7 l8 l11 s = some o) : WW X q s 48 ls [] := by
  unfold M_Mo_write_j48 at h
  refine ww_aload_n (pc := 48) g.1 d_Mo_write_48 rfl (lv_at hl 0 rfl) ?_
  refine ww_lload (pc := 49) g.1 d_Mo_write_49 (lv_at hl 5 rfl) ?_
  refine ww_l2i (pc := 51) g.1 (v := l11.toInt32) d_Mo_write_51 rfl ?_
  refine ww_iload (pc := 52) g.1 d_Mo_write_52 (lv_at hl 1 rfl) ?_
  refine ww_lload (pc := 54) g.1 d_Mo_write_54 (lv_at hl 2 rfl) ?_
  refine ww_iload (pc := 56) g.1 d_Mo_write_56 (lv_at hl 3 rfl) ?_
  refine ww_lload (pc := 58) g.1 d_Mo_write_58 (lv_at hl 4 rfl) ?_
  obtain ⟨v60, s, hc60, h⟩ := oB_of h
  refine ww_callV (pc := 60) (rest := []) g cv_Mo_put (Or.inl kw_478) cl_Mo (pz rfl (by decide)) (ct_Mo_put hc60) ⟨by decide, by decide⟩ rfl hl.1 (Nat.le_of_ble_eq_true rfl) d_Mo_write_60 rfl ?_
  refine ww_st (st' := [.int v60]) rfl ?_
  refine ww_pop (pc := 63) g.1 d_Mo_write_63 rfl ?_
  exact ww_vretH (pc := 64) g h hR d_Mo_write_64

theorem ct_Mo_write {l : Launch} {P : PP} {q : PL} {s s' : S1} {l1 : Int32} {l2 : Int64} {l4 : Int32} {l5 : Int64} {l7 : Int32} {l8 : Int64} {r : Unit} (h : M_Mo_write l1 l2 l4 l5 l7 l8 s = some (r, s')) : Ct l y_Mo_write b_Mo_write 14 none 8 186 P q s [.ref (q.1 0 0), .int l1, .long l2, .int l4, .long l5, .int l7, .long l8] none q s' := by
  refine ct_of (by decide) (Nat.le_of_ble_eq_true rfl) fun X ls eP el g hR hl => ?_
  have hR : Rt X q ((r, s') : Unit × S1).2 none := hR
  have hl : lv_has ls 14 [(0, .ref (q.1 0 0)), (1, .int l1), (2, .long l2), (4, .int l4), (5, .long l5), (7, .int l7), (8, .long l8)] := hl
  generalize (r, s') = o at h hR
  unfold M_Mo_write at h
  refine ww_iload_n (pc := 0) g.1 d_Mo_write_0 rfl (lv_at hl 1 rfl) ?_
  refine ww_istore (pc := 1) g.1 (lv' := [(10, .int l1), (0, .ref (q.1 0 0)), (1, .int l1), (2, .long l2), (4, .int l4), (5, .long l5), (7, .int l7), (8, .long l8)]) d_Mo_write_1 hl (by decide) rfl fun ls hl => ?_
  refine ww_lload_n (pc := 3) g.1 d_Mo_write_3 rfl (lv_at hl 3 rfl) ?_
  refine ww_lstore (pc := 4) g.1 (lv' := [(11, .long l2), (10, .int l1), (0, .ref (q.1 0 0)), (1, .int l1), (2, .long l2), (4, .int l4), (5, .long l5), (7, .int l7), (8, .long l8)]) d_Mo_write_4 hl (by decide) rfl fun ls hl => ?_
  refine ww_iconst (pc := 6) g.1 (v := 1) d_Mo_write_6 (by decide) ?_
  refine ww_istore (pc := 7) g.1 (lv' := [(13, .int 1), (11, .long l2), (10, .int l1), (0, .ref (q.1 0 0)), (1, .int l1), (2, .long l2), (4, .int l4), (5, .long l5), (7, .int l7), (8, .long l8)]) d_Mo_write_7 hl (by decide) rfl fun ls hl => ?_
  obtain ⟨e9, s1, hw, h⟩ := oB_of h
  refine oW_rule (Wh := fun (x : Int32 × Int64 × Int32 × Int64 × Int32 × Int64 × Int32) (s : S1) => ∀ ls : Array Slot, lv_has ls 14 [(0, .ref (q.1 0 0)), (4, .int x.1), (5, .long x.2.1), (7, .int x.2.2.1), (8, .long x.2.2.2.1), (10, .int x.2.2.2.2.1), (11, .long x.2.2.2.2.2.1), (13, .int x.2.2.2.2.2.2)] → WW X q s 9 ls []) (We := fun (e : (Unit) ⊕ (Int32 × Int64 × Int32 × Int64 × Int64) ⊕ (Int32 × Int64 × Int32 × Int64 × Int32 × Int64) ⊕ (Unit)) (s : S1) => (Sum.elim (fun y : Unit => ∀ ls : Array Slot, lv_has ls 14 [(0, .ref (q.1 0 0))] → WW X q s 15 ls []) (Sum.elim (fun y : Int32 × Int64 × Int32 × Int64 × Int64 => ∀ ls : Array Slot, lv_has ls 14 [(0, .ref (q.1 0 0)), (4, .int y.1), (5, .long y.2.1), (7, .int y.2.2.1), (8, .long y.2.2.2.1), (11, .long y.2.2.2.2)] → WW X q s 48 ls []) (Sum.elim (fun y : Int32 × Int64 × Int32 × Int64 × Int32 × Int64 => ∀ ls : Array Slot, lv_has ls 14 [(0, .ref (q.1 0 0)), (4, .int y.1), (5, .long y.2.1), (7, .int y.2.2.1), (8, .long y.2.2.2.1), (10, .int y.2.2.2.2.1), (11, .long y.2.2.2.2.2)] → WW X q s 74 ls []) (fun y : Unit => ∀ ls : Array Slot, lv_has ls 14 [(0, .ref (q.1 0 0))] → WW X q s 116 ls [])))) e) (fun x s o hb hc => lp_Mo_write_L9 (q := q) g x s o hb hc) hw ?_ ls (lv_sub hl [3, 6, 7, 8, 9, 2, 1, 0] rfl)
  clear hw hl
  clear ls
  generalize s1 = s at h ⊢
  rcases e9 with y9_15 | y9_48 | y9_74 | y9_116
  · intro ls hl
    dsimp only [Sum.elim_inl, Sum.elim_inr] at h
    refine ww_aload_n (pc := 15) g.1 d_Mo_write_15 rfl (lv_at hl 0 rfl) ?_
    refine ww_iconst (pc := 16) g.1 (v := 2) d_Mo_write_16 (by decide) ?_
    obtain ⟨v17, s, hc17, h⟩ := oB_of h
    refine ww_callV (pc := 17) (rest := []) g cv_Mo_raise (Or.inl kw_162) cl_Mo (pz rfl (by decide)) (ct_Mo_raise hc17) ⟨by decide, by decide⟩ rfl hl.1 (Nat.le_of_ble_eq_true rfl) d_Mo_write_17 rfl ?_
    refine ww_st (st' := [.int v17]) rfl ?_
    refine ww_pop (pc := 20) g.1 d_Mo_write_20 rfl ?_
    exact ww_vretH (pc := 21) g h hR d_Mo_write_21
  · intro ls hl
    dsimp only [Sum.elim_inl, Sum.elim_inr] at h
    exact j_Mo_write_j48 g hR y9_48.1 y9_48.2.1 y9_48.2.2.1 y9_48.2.2.2.1 y9_48.2.2.2.2 s ls (lv_sub hl [0, 1, 2, 3, 4, 5] rfl) h
  · intro ls hl
    dsimp only [Sum.elim_inl, Sum.elim_inr] at h
    refine ww_aload_n (pc := 74) g.1 d_Mo_write_74 rfl (lv_at hl 0 rfl) ?_
    refine ww_iload (pc := 75) g.1 d_Mo_write_75 (lv_at hl 5 rfl) ?_
    refine ww_lload (pc := 77) g.1 d_Mo_write_77 (lv_at hl 6 rfl) ?_
    refine ww_iload (pc := 79) g.1 d_Mo_write_79 (lv_at hl 1 rfl) ?_
    refine ww_lload (pc := 81) g.1 d_Mo_write_81 (lv_at hl 2 rfl) ?_
    obtain ⟨v83, s, hc83, h⟩ := oB_of h
    refine ww_callV (pc := 83) (rest := []) g cv_Mo_arguments (Or.inl kw_416) cl_Mo (pz rfl (by decide)) (ct_Mo_arguments hc83) ⟨by decide, by decide⟩ rfl hl.1 (Nat.le_of_ble_eq_true rfl) d_Mo_write_83 rfl ?_
    refine ww_st (st' := []) rfl ?_
    refine ww_aload_n (pc := 86) g.1 d_Mo_write_86 rfl (lv_at hl 0 rfl) ?_
    refine ww_gR (pc := 87) g (k := 77) cl_Mo (pz rfl (by decide)) (by decide) (Or.inl kw_188) (f := 77) (t := 7) rfl rfl rfl d_Mo_write_87 ?_
    refine ww_iload (pc := 90) g.1 d_Mo_write_90 (lv_at hl 3 rfl) ?_
    refine ww_lload (pc := 92) g.1 d_Mo_write_92 (lv_at hl 4 rfl) ?_
    obtain ⟨v94, s, hc94, h⟩ := oB_of h
    refine ww_callV (pc := 94) (rest := []) g cv_Va_add (Or.inl kw_193) (cl_Va (Or.inl ⟨by decide, rfl⟩)) (pz rfl (by decide)) (ct_Va_add (Or.inl ⟨by decide, rfl⟩) hc94) ⟨by decide, by decide⟩ rfl hl.1 (Nat.le_of_ble_eq_true rfl) d_Mo_write_94 rfl ?_
    refine ww_st (st' := []) rfl ?_
    refine ww_aload_n (pc := 97) g.1 d_Mo_write_97 rfl (lv_at hl 0 rfl) ?_
    refine ww_iconst (pc := 98) g.1 (v := 3) d_Mo_write_98 (by decide) ?_
    refine ww_iconst (pc := 99) g.1 (v := 0) d_Mo_write_99 (by decide) ?_
    refine ww_iconst (pc := 100) g.1 (v := 0) d_Mo_write_100 (by decide) ?_
    obtain ⟨v101, s, hc101, h⟩ := oB_of h
    refine ww_callV (pc := 101) (rest := []) g cv_Mo_expect (Or.inl kw_421) cl_Mo (pz rfl (by decide)) (ct_Mo_expect hc101) ⟨by decide, by decide⟩ rfl hl.1 (Nat.le_of_ble_eq_true rfl) d_Mo_write_101 rfl ?_
    refine ww_st (st' := []) rfl ?_
    refine ww_aload_n (pc := 104) g.1 d_Mo_write_104 rfl (lv_at hl 0 rfl) ?_
    obtain ⟨v105, s, hc105, h⟩ := oB_of h
    refine ww_callV (pc := 105) (rest := []) g cv_Mo_callGot (Or.inl kw_422) cl_Mo (pz rfl (by decide)) (ct_Mo_callGot hc105) ⟨by decide, by decide⟩ rfl hl.1 (Nat.le_of_ble_eq_true rfl) d_Mo_write_105 rfl ?_
    refine ww_st (st' := []) rfl ?_
    exact ww_vretH (pc := 108) g h hR d_Mo_write_108
  · intro ls hl
    dsimp only [Sum.elim_inl, Sum.elim_inr] at h
    refine ww_aload_n (pc := 116) g.1 d_Mo_write_116 rfl (lv_at hl 0 rfl) ?_
    refine ww_iconst (pc := 117) g.1 (v := 4) d_Mo_write_117 (by decide) ?_
    obtain ⟨v118, s, hc118, h⟩ := oB_of h
    refine ww_callV (pc := 118) (rest := []) g cv_Mo_raise (Or.inl kw_162) cl_Mo (pz rfl (by decide)) (ct_Mo_raise hc118) ⟨by decide, by decide⟩ rfl hl.1 (Nat.le_of_ble_eq_true rfl) d_Mo_write_118 rfl ?_
    refine ww_st (st' := [.int v118]) rfl ?_
    refine ww_pop (pc := 121) g.1 d_Mo_write_121 rfl ?_
    exact ww_vretH (pc := 122) g h hR d_Mo_write_122

theorem kw_487 : Cond.instanceMethod y_Mo_list ∈ wA := kinm (show _ ∈ tables_1 from (List.mem_append_right _ (List.mem_append_right _ (List.mem_append_right _ (List.mem_append_right _ (List.mem_append_right _ (List.mem_append_right _ (List.mem_append_right _ (List.mem_append_right _ (List.mem_append_right _ (List.mem_append_right _ (List.mem_append_right _ (List.mem_append_right _ (List.mem_append_left _ (List.mem_of_getElem? (l := tables_1_13) (i := 222) (by decide +kernel)))))))))))))))) (by decide +kernel)
theorem kw_488 : Cond.selects R_Mo y_Mo_list y_Mo_list ∈ wA := kinp 222 (by decide +kernel) (by decide +kernel)
def M_Mo_list_j145 (l1 : Int32) (l2 : Int32) (l3 : Int32) (l4r : Nat) (l4 : Int32) (l5 : Int32) (l6 : Int32) (l7 : Int32) (l9r : Nat) (l9 : Int32) (k0 : Int32) : M ((Int32 × Int32 × Int32 × Nat × Int32 × Int32 × Int32 × Int32) ⊕ ((Int32 × Int32) ⊕ (Int32 × Int32))) :=
  oB (oAL (l4r + 2) (lnI (l4r + 2)) l4 l5) fun v155 =>
  oB (M_Mo_c l3) fun v159 =>
  oB (oAI (l9r + 1) (lnI (l9r + 1)) l9 k0) fun v175 =>
  oB (oAL (l9r + 2) (lnI (l9r + 2)) l9 k0) fun v183 =>
  oB (M_Mo_put v155.toInt32 3 (((v159 + l7) - 1).toInt64) v175 v183) fun v184 =>
  oC (v184 = 0)
    (oR (Sum.inr (Sum.inl (l1, l2))))
    (oR (Sum.inl (l1, l2, l3, l4r, l4, l5, l6, l7 + 1)))

def M_Mo_list_j116 (l1 : Int32) (l2 : Int32) (l3 : Int32) (l4r : Nat) (l4 : Int32) (l5 : Int32) (l6 : Int32) (l7 : Int32) (l8 : Int32) (k0r : Nat) (k0 : Int32) : M ((Int32 × Int32 × Int32 × Nat × Int32 × Int32 × Int32 × Int32) ⊕ ((Int32 × Int32) ⊕ (Int32 × Int32))) :=
  oC (l8 = 0)
    (M_Mo_list_j145 l1 l2 l3 l4r l4 l5 l6 l7 k0r k0 (l5 + l7))
    (oB (M_Mo_a l3) fun v124 =>
    oB (oAI 35 201 l1 l2) fun v135 =>
    M_Mo_list_j145 l1 l2 l3 l4r l4 l5 l6 l7 k0r k0 ((v124 + l7) - v135))

def M_Mo_list_j100 (l1 : Int32) (l2 : Int32) (l3 : Int32) (l4r : Nat) (l4 : Int32) (l5 : Int32) (l6 : Int32) (l7 : Int32) (k0 : Int32) : M ((Int32 × Int32 × Int32 × Nat × Int32 × Int32 × Int32 × Int32) ⊕ ((Int32 × Int32) ⊕ (Int32 × Int32))) :=
  oC (k0 = 0)
    (M_Mo_list_j116 l1 l2 l3 l4r l4 l5 l6 l7 k0 l4r l4)
    (M_Mo_list_j116 l1 l2 l3 l4r l4 l5 l6 l7 k0 22 l1)

def M_Mo_list_j99 (l1 : Int32) (l2 : Int32) (l3 : Int32) (l4r : Nat) (l4 : Int32) (l5 : Int32) (l6 : Int32) (l7 : Int32) : M ((Int32 × Int32 × Int32 × Nat × Int32 × Int32 × Int32 × Int32) ⊕ ((Int32 × Int32) ⊕ (Int32 × Int32))) :=
  M_Mo_list_j100 l1 l2 l3 l4r l4 l5 l6 l7 0

def M_Mo_list_L65 : (Int32 × Int32 × Int32 × Nat × Int32 × Int32 × Int32 × Int32) → M ((Int32 × Int32 × Int32 × Nat × Int32 × Int32 × Int32 × Int32) ⊕ ((Int32 × Int32) ⊕ (Int32 × Int32))) := fun x =>
  oC (x.2.2.2.2.2.2.1 < x.2.2.2.2.2.2.2)
    (oR (Sum.inr (Sum.inr (x.1, x.2.1))))
    (oB (M_Mo_b x.2.2.1) fun v73 =>
    oC (v73 = 0)
      (oB (M_Mo_a x.2.2.1) fun v80 =>
      oB (oAI 35 201 x.1 x.2.1) fun v91 =>
      oC ((v80 + x.2.2.2.2.2.2.2) < v91)
        (M_Mo_list_j99 x.1 x.2.1 x.2.2.1 x.2.2.2.1 x.2.2.2.2.1 x.2.2.2.2.2.1 x.2.2.2.2.2.2.1 x.2.2.2.2.2.2.2)
        (M_Mo_list_j100 x.1 x.2.1 x.2.2.1 x.2.2.2.1 x.2.2.2.2.1 x.2.2.2.2.2.1 x.2.2.2.2.2.2.1 x.2.2.2.2.2.2.2 1))
      (M_Mo_list_j99 x.1 x.2.1 x.2.2.1 x.2.2.2.1 x.2.2.2.2.1 x.2.2.2.2.2.1 x.2.2.2.2.2.2.1 x.2.2.2.2.2.2.2))

def M_Mo_list_j199 (l1 : Int32) (l2 : Int32) : M (Unit) :=
  oB (oSI 36 201 l1 l2 0) fun _ =>
  oR ()

def M_Mo_list_j34 (l1 : Int32) (l2 : Int32) (l3 : Int32) (l4r : Nat) (l4 : Int32) (l5 : Int32) (k0 : Int32) : M (Unit) :=
  oB (oAI (l4r + 1) (lnI (l4r + 1)) l4 l5) fun v43 =>
  oC (v43 = 5)
    (oB (oW M_Mo_list_L65 (l1, l2, l3, l4r, l4, l5, k0, 1)) fun e65 =>
    Sum.elim
      (fun y65_190 : Int32 × Int32 =>
        M_Mo_list_j199 y65_190.1 y65_190.2)
      (fun y65_199 : Int32 × Int32 =>
        M_Mo_list_j199 y65_199.1 y65_199.2) e65)
    (oB (oSI 36 201 l1 l2 0) fun _ =>
    oB (M_Mo_raise 2) fun v57 =>
    oR ())

def M_Mo_list (l1 : Int32) (l2 : Int32) (l3 : Int32) (l4r : Nat) (l4 : Int32) (l5 : Int32) : M (Unit) :=
  oB (M_Mo_b l3) fun v1 =>
  oC (v1 ≤ 0)
    (oB (oAI 35 201 l1 l2) fun v19 =>
    oB (oAI 36 201 l1 l2) fun v25 =>
    oB (M_Mo_a l3) fun v28 =>
    M_Mo_list_j34 l1 l2 l3 l4r l4 l5 (((v19 + v25) - v28) - 1))
    (oB (M_Mo_b l3) fun v8 =>
    M_Mo_list_j34 l1 l2 l3 l4r l4 l5 v8)

theorem cv_Mo_list : CV y_Mo_list b_Mo_list 11 none 5 := ⟨kw_487, kw_488, kw_17, k_Mo_list, by decide +kernel⟩
theorem j_Mo_list_j145 {X : Cx} {q : PL} (g : Gd X y_Mo_list b_Mo_list 11 none 8 186 R_Mo) {o : ((Int32 × Int32 × Int32 × Nat × Int32 × Int32 × Int32 × Int32) ⊕ ((Int32 × Int32) ⊕ (Int32 × Int32))) × S1} (hR : (Sum.elim (fun y : Int32 × Int32 × Int32 × Nat × Int32 × Int32 × Int32 × Int32 => ∀ ls : Array Slot, (0 ≤ y.1 ∧ y.1 < 33) → (VOK y.2.2.2.1 y.2.2.2.2.1) → lv_has ls 11 [(0, .ref (q.1 0 0)), (1, .ref (q.1 28 y.1)), (2, .int y.2.1), (3, .int y.2.2.1), (4, .ref (q.1 y.2.2.2.1 y.2.2.2.2.1)), (5, .int y.2.2.2.2.2.1), (6, .int y.2.2.2.2.2.2.1), (7, .int y.2.2.2.2.2.2.2)] → WW X q o.2 65 ls []) (Sum.elim (fun y : Int32 × Int32 => ∀ ls : Array Slot, (0 ≤ y.1 ∧ y.1 < 33) → lv_has ls 11 [(1, .ref (q.1 28 y.1)), (2, .int y.2)] → WW X q o.2 190 ls []) (fun y : Int32 × Int32 => ∀ ls : Array Slot, (0 ≤ y.1 ∧ y.1 < 33) → lv_has ls 11 [(1, .ref (q.1 28 y.1)), (2, .int y.2)] → WW X q o.2 199 ls [])) o.1)) (l1 : Int32) (l2 : Int32) (l3 : Int32) (l4r : Nat) (l4 : Int32) (l5 : Int32) (l6 : Int32) (l7 : Int32) (l9r : Nat) (l9 : Int32) (k0 : Int32) (s : S1) (hp0 : 0 ≤ l1 ∧ l1 < 33) (hp1 : VOK l4r l4) (hp2 : VOK l9r l9) (ls : Array Slot) (hl : lv_has ls 11 [(0, .ref (q.1 0 0)), (1, .ref (q.1 28 l1)), (2, .int l2), (3, .int l3), (4, .ref (q.1 l4r l4)), (5, .int l5), (6, .int l6), (7, .int l7), (9, .ref (q.1 l9r l9))]) (h : M_Mo_list_j145 l1 l2 l3 l4r l4 l5 l6 l7 l9r l9 k0 s = some o) : WW X q s 145 ls [.int k0] := by
  unfold M_Mo_list_j145 at h
  refine ww_istore (pc := 145) g.1 (lv' := [(10, .int k0), (0, .ref (q.1 0 0)), (1, .ref (q.1 28 l1)), (2, .int l2), (3, .int l3), (4, .ref (q.1 l4r l4)), (5, .int l5), (6, .int l6), (7, .int l7), (9, .ref (q.1 l9r l9))]) d_Mo_list_145 hl (by decide) rfl fun ls hl => ?_
  refine ww_aload_n (pc := 147) g.1 d_Mo_list_147 rfl (lv_at hl 1 rfl) ?_
  refine ww_aload (pc := 148) g.1 d_Mo_list_148 (lv_at hl 5 rfl) ?_
  refine ww_gR (pc := 150) g (k := 1) (cl_Va hp1) (vok_p hp1).1 (by rw [(vok_f hp1).1.2.2]; decide) (Or.inl kw_95) (f := (128 * l4r + 1)) (t := l4r + 2) rfl (vok_f hp1).2.2.1.1 (vok_f hp1).2.2.1.2 d_Mo_list_150 ?_
  refine ww_iload (pc := 153) g.1 d_Mo_list_153 (lv_at hl 6 rfl) ?_
  refine ww_al (pc := 155) g (vok_p hp1).2.2 (vok_f hp1).2.2.2.2.2 (vok_n hp1).2 d_Mo_list_155 h fun v155 h => ?_
  refine ww_l2i (pc := 156) g.1 (v := v155.toInt32) d_Mo_list_156 rfl ?_
  refine ww_iconst (pc := 157) g.1 (v := 3) d_Mo_list_157 (by decide) ?_
  refine ww_iload_n (pc := 158) g.1 d_Mo_list_158 rfl (lv_at hl 4 rfl) ?_
  obtain ⟨v159, s, hc159, h⟩ := oB_of h
  refine ww_callS (pc := 159) (rest := [.int 3, .int v155.toInt32, .ref (q.1 0 0)]) g cs_Mo_c (Or.inl kw_317) (ct_Mo_c hc159) ⟨by decide, by decide⟩ rfl hl.1 (Nat.le_of_ble_eq_true rfl) d_Mo_list_159 rfl ?_
  refine ww_st (st' := [.int v159, .int 3, .int v155.toInt32, .ref (q.1 0 0)]) rfl ?_
  refine ww_iload (pc := 162) g.1 d_Mo_list_162 (lv_at hl 8 rfl) ?_
  refine ww_iadd (pc := 164) g.1 d_Mo_list_164 ?_
  refine ww_iconst (pc := 165) g.1 (v := 1) d_Mo_list_165 (by decide) ?_
  refine ww_isub (pc := 166) g.1 d_Mo_list_166 ?_
  refine ww_i2l (pc := 167) g.1 (v := ((v159 + l7) - 1).toInt64) d_Mo_list_167 rfl ?_
  refine ww_aload (pc := 168) g.1 d_Mo_list_168 (lv_at hl 9 rfl) ?_
  refine ww_gR (pc := 170) g (k := 0) (cl_Va hp2) (vok_p hp2).1 (by rw [(vok_f hp2).1.2.2]; decide) (Or.inl kw_92) (f := (128 * l9r + 0)) (t := l9r + 1) rfl (vok_f hp2).2.1.1 (vok_f hp2).2.1.2 d_Mo_list_170 ?_
  refine ww_iload (pc := 173) g.1 d_Mo_list_173 (lv_at hl 0 rfl) ?_
  refine ww_ab (pc := 175) g (vok_p hp2).2.1 (vok_f hp2).2.2.2.2.1 (vok_n hp2).1 d_Mo_list_175 h fun v175 h => ?_
  refine ww_aload (pc := 176) g.1 d_Mo_list_176 (lv_at hl 9 rfl) ?_
  refine ww_gR (pc := 178) g (k := 1) (cl_Va hp2) (vok_p hp2).1 (by rw [(vok_f hp2).1.2.2]; decide) (Or.inl kw_95) (f := (128 * l9r + 1)) (t := l9r + 2) rfl (vok_f hp2).2.2.1.1 (vok_f hp2).2.2.1.2 d_Mo_list_178 ?_
  refine ww_iload (pc := 181) g.1 d_Mo_list_181 (lv_at hl 0 rfl) ?_
  refine ww_al (pc := 183) g (vok_p hp2).2.2 (vok_f hp2).2.2.2.2.2 (vok_n hp2).2 d_Mo_list_183 h fun v183 h => ?_
  obtain ⟨v184, s, hc184, h⟩ := oB_of h
  refine ww_callV (pc := 184) (rest := []) g cv_Mo_put (Or.inl kw_478) cl_Mo (pz rfl (by decide)) (ct_Mo_put hc184) ⟨by decide, by decide⟩ rfl hl.1 (Nat.le_of_ble_eq_true rfl) d_Mo_list_184 rfl ?_
  refine ww_st (st' := [.int v184]) rfl ?_
  refine ww_if_ne (pc := 187) (tgt := 193) g.1 d_Mo_list_187 (by decide) h (fun c h => ?_) (fun c h => ?_)
  · refine ww_iinc (pc := 193) g.1 (v := l7 + 1) (lv' := [(7, .int (l7 + 1)), (10, .int k0), (0, .ref (q.1 0 0)), (1, .ref (q.1 28 l1)), (2, .int l2), (3, .int l3), (4, .ref (q.1 l4r l4)), (5, .int l5), (6, .int l6), (9, .ref (q.1 l9r l9))]) d_Mo_list_193 hl (k := 8) rfl (by rfl) (by decide) rfl fun ls hl => ?_
    refine ww_goto (pc := 196) (tgt := 65) g.1 d_Mo_list_196 (by decide) ?_
    rw [oR_eq h] at hR
    exact hR ls hp0 hp1 (lv_sub hl [2, 3, 4, 5, 6, 7, 8, 0] rfl)
  · rw [oR_eq h] at hR
    exact hR ls hp0 (lv_sub hl [2, 3] rfl)

theorem j_Mo_list_j116 {X : Cx} {q : PL} (g : Gd X y_Mo_list b_Mo_list 11 none 8 186 R_Mo) {o : ((Int32 × Int32 × Int32 × Nat × Int32 × Int32 × Int32 × Int32) ⊕ ((Int32 × Int32) ⊕ (Int32 × Int32))) × S1} (hR : (Sum.elim (fun y : Int32 × Int32 × Int32 × Nat × Int32 × Int32 × Int32 × Int32 => ∀ ls : Array Slot, (0 ≤ y.1 ∧ y.1 < 33) → (VOK y.2.2.2.1 y.2.2.2.2.1) → lv_has ls 11 [(0, .ref (q.1 0 0)), (1, .ref (q.1 28 y.1)), (2, .int y.2.1), (3, .int y.2.2.1), (4, .ref (q.1 y.2.2.2.1 y.2.2.2.2.1)), (5, .int y.2.2.2.2.2.1), (6, .int y.2.2.2.2.2.2.1), (7, .int y.2.2.2.2.2.2.2)] → WW X q o.2 65 ls []) (Sum.elim (fun y : Int32 × Int32 => ∀ ls : Array Slot, (0 ≤ y.1 ∧ y.1 < 33) → lv_has ls 11 [(1, .ref (q.1 28 y.1)), (2, .int y.2)] → WW X q o.2 190 ls []) (fun y : Int32 × Int32 => ∀ ls : Array Slot, (0 ≤ y.1 ∧ y.1 < 33) → lv_has ls 11 [(1, .ref (q.1 28 y.1)), (2, .int y.2)] → WW X q o.2 199 ls [])) o.1)) (l1 : Int32) (l2 : Int32) (l3 : Int32) (l4r : Nat) (l4 : Int32) (l5 : Int32) (l6 : Int32) (l7 : Int32) (l8 : Int32) (k0r : Nat) (k0 : Int32) (s : S1) (hp0 : 0 ≤ l1 ∧ l1 < 33) (hp1 : VOK l4r l4) (hp2 : VOK k0r k0) (ls : Array Slot) (hl : lv_has ls 11 [(0, .ref (q.1 0 0)), (1, .ref (q.1 28 l1)), (2, .int l2), (3, .int l3), (4, .ref (q.1 l4r l4)), (5, .int l5), (6, .int l6), (7, .int l7), (8, .int l8)]) (h : M_Mo_list_j116 l1 l2 l3 l4r l4 l5 l6 l7 l8 k0r k0 s = some o) : WW X q s 116 ls [.ref (q.1 k0r k0)] := by
  unfold M_Mo_list_j116 at h
  refine ww_astore (pc := 116) g.1 (lv' := [(9, .ref (q.1 k0r k0)), (0, .ref (q.1 0 0)), (1, .ref (q.1 28 l1)), (2, .int l2), (3, .int l3), (4, .ref (q.1 l4r l4)), (5, .int l5), (6, .int l6), (7, .int l7), (8, .int l8)]) d_Mo_list_116 hl (by decide) rfl fun ls hl => ?_
  refine ww_iload (pc := 118) g.1 d_Mo_list_118 (lv_at hl 9 rfl) ?_
  refine ww_if_eq (pc := 120) (tgt := 140) g.1 d_Mo_list_120 (by decide) h (fun c h => ?_) (fun c h => ?_)
  · refine ww_iload (pc := 140) g.1 d_Mo_list_140 (lv_at hl 6 rfl) ?_
    refine ww_iload (pc := 142) g.1 d_Mo_list_142 (lv_at hl 8 rfl) ?_
    refine ww_iadd (pc := 144) g.1 d_Mo_list_144 ?_
    exact j_Mo_list_j145 g hR l1 l2 l3 l4r l4 l5 l6 l7 k0r k0 (l5 + l7) s hp0 hp1 hp2 ls (lv_sub hl [1, 2, 3, 4, 5, 6, 7, 8, 0] rfl) h
  · refine ww_iload_n (pc := 123) g.1 d_Mo_list_123 rfl (lv_at hl 4 rfl) ?_
    obtain ⟨v124, s, hc124, h⟩ := oB_of h
    refine ww_callS (pc := 124) (rest := []) g cs_Mo_a (Or.inl kw_287) (ct_Mo_a hc124) ⟨by decide, by decide⟩ rfl hl.1 (Nat.le_of_ble_eq_true rfl) d_Mo_list_124 rfl ?_
    refine ww_st (st' := [.int v124]) rfl ?_
    refine ww_iload (pc := 127) g.1 d_Mo_list_127 (lv_at hl 8 rfl) ?_
    refine ww_iadd (pc := 129) g.1 d_Mo_list_129 ?_
    refine ww_aload_n (pc := 130) g.1 d_Mo_list_130 rfl (lv_at hl 2 rfl) ?_
    refine ww_gR (pc := 131) g (k := 16) cl_Th (pt rfl rfl hp0) (by decide) (Or.inl kw_277) (f := 3600) (t := 35) rfl rfl rfl d_Mo_list_131 ?_
    refine ww_iload_n (pc := 134) g.1 d_Mo_list_134 rfl (lv_at hl 3 rfl) ?_
    refine ww_ai (pc := 135) g (pt rfl rfl hp0) rfl rfl d_Mo_list_135 h fun v135 h => ?_
    refine ww_isub (pc := 136) g.1 d_Mo_list_136 ?_
    refine ww_goto (pc := 137) (tgt := 145) g.1 d_Mo_list_137 (by decide) ?_
    exact j_Mo_list_j145 g hR l1 l2 l3 l4r l4 l5 l6 l7 k0r k0 ((v124 + l7) - v135) s hp0 hp1 hp2 ls (lv_sub hl [1, 2, 3, 4, 5, 6, 7, 8, 0] rfl) h

theorem j_Mo_list_j100 {X : Cx} {q : PL} (g : Gd X y_Mo_list b_Mo_list 11 none 8 186 R_Mo) {o : ((Int32 × Int32 × Int32 × Nat × Int32 × Int32 × Int32 × Int32) ⊕ ((Int32 × Int32) ⊕ (Int32 × Int32))) × S1} (hR : (Sum.elim (fun y : Int32 × Int32 × Int32 × Nat × Int32 × Int32 × Int32 × Int32 => ∀ ls : Array Slot, (0 ≤ y.1 ∧ y.1 < 33) → (VOK y.2.2.2.1 y.2.2.2.2.1) → lv_has ls 11 [(0, .ref (q.1 0 0)), (1, .ref (q.1 28 y.1)), (2, .int y.2.1), (3, .int y.2.2.1), (4, .ref (q.1 y.2.2.2.1 y.2.2.2.2.1)), (5, .int y.2.2.2.2.2.1), (6, .int y.2.2.2.2.2.2.1), (7, .int y.2.2.2.2.2.2.2)] → WW X q o.2 65 ls []) (Sum.elim (fun y : Int32 × Int32 => ∀ ls : Array Slot, (0 ≤ y.1 ∧ y.1 < 33) → lv_has ls 11 [(1, .ref (q.1 28 y.1)), (2, .int y.2)] → WW X q o.2 190 ls []) (fun y : Int32 × Int32 => ∀ ls : Array Slot, (0 ≤ y.1 ∧ y.1 < 33) → lv_has ls 11 [(1, .ref (q.1 28 y.1)), (2, .int y.2)] → WW X q o.2 199 ls [])) o.1)) (l1 : Int32) (l2 : Int32) (l3 : Int32) (l4r : Nat) (l4 : Int32) (l5 : Int32) (l6 : Int32) (l7 : Int32) (k0 : Int32) (s : S1) (hp0 : 0 ≤ l1 ∧ l1 < 33) (hp1 : VOK l4r l4) (ls : Array Slot) (hl : lv_has ls 11 [(0, .ref (q.1 0 0)), (1, .ref (q.1 28 l1)), (2, .int l2), (3, .int l3), (4, .ref (q.1 l4r l4)), (5, .int l5), (6, .int l6), (7, .int l7)]) (h : M_Mo_list_j100 l1 l2 l3 l4r l4 l5 l6 l7 k0 s = some o) : WW X q s 100 ls [.int k0] := by
  unfold M_Mo_list_j100 at h
  refine ww_istore (pc := 100) g.1 (lv' := [(8, .int k0), (0, .ref (q.1 0 0)), (1, .ref (q.1 28 l1)), (2, .int l2), (3, .int l3), (4, .ref (q.1 l4r l4)), (5, .int l5), (6, .int l6), (7, .int l7)]) d_Mo_list_100 hl (by decide) rfl fun ls hl => ?_
  refine ww_iload (pc := 102) g.1 d_Mo_list_102 (lv_at hl 0 rfl) ?_
  refine ww_if_eq (pc := 104) (tgt := 114) g.1 d_Mo_list_104 (by decide) h (fun c h => ?_) (fun c h => ?_)
  · refine ww_aload (pc := 114) g.1 d_Mo_list_114 (lv_at hl 5 rfl) ?_
    exact j_Mo_list_j116 g hR l1 l2 l3 l4r l4 l5 l6 l7 k0 l4r l4 s hp0 hp1 hp1 ls (lv_sub hl [1, 2, 3, 4, 5, 6, 7, 8, 0] rfl) h
  · refine ww_aload_n (pc := 107) g.1 d_Mo_list_107 rfl (lv_at hl 2 rfl) ?_
    refine ww_gR (pc := 108) g (k := 8) cl_Th (pt rfl rfl hp0) (by decide) (Or.inl kw_278) (f := 3592) (t := 22) rfl rfl rfl d_Mo_list_108 ?_
    refine ww_goto (pc := 111) (tgt := 116) g.1 d_Mo_list_111 (by decide) ?_
    exact j_Mo_list_j116 g hR l1 l2 l3 l4r l4 l5 l6 l7 k0 22 l1 s hp0 hp1 (Or.inr ⟨by decide, hp0⟩) ls (lv_sub hl [1, 2, 3, 4, 5, 6, 7, 8, 0] rfl) h

theorem j_Mo_list_j99 {X : Cx} {q : PL} (g : Gd X y_Mo_list b_Mo_list 11 none 8 186 R_Mo) {o : ((Int32 × Int32 × Int32 × Nat × Int32 × Int32 × Int32 × Int32) ⊕ ((Int32 × Int32) ⊕ (Int32 × Int32))) × S1} (hR : (Sum.elim (fun y : Int32 × Int32 × Int32 × Nat × Int32 × Int32 × Int32 × Int32 => ∀ ls : Array Slot, (0 ≤ y.1 ∧ y.1 < 33) → (VOK y.2.2.2.1 y.2.2.2.2.1) → lv_has ls 11 [(0, .ref (q.1 0 0)), (1, .ref (q.1 28 y.1)), (2, .int y.2.1), (3, .int y.2.2.1), (4, .ref (q.1 y.2.2.2.1 y.2.2.2.2.1)), (5, .int y.2.2.2.2.2.1), (6, .int y.2.2.2.2.2.2.1), (7, .int y.2.2.2.2.2.2.2)] → WW X q o.2 65 ls []) (Sum.elim (fun y : Int32 × Int32 => ∀ ls : Array Slot, (0 ≤ y.1 ∧ y.1 < 33) → lv_has ls 11 [(1, .ref (q.1 28 y.1)), (2, .int y.2)] → WW X q o.2 190 ls []) (fun y : Int32 × Int32 => ∀ ls : Array Slot, (0 ≤ y.1 ∧ y.1 < 33) → lv_has ls 11 [(1, .ref (q.1 28 y.1)), (2, .int y.2)] → WW X q o.2 199 ls [])) o.1)) (l1 : Int32) (l2 : Int32) (l3 : Int32) (l4r : Nat) (l4 : Int32) (l5 : Int32) (l6 : Int32) (l7 : Int32) (s : S1) (hp0 : 0 ≤ l1 ∧ l1 < 33) (hp1 : VOK l4r l4) (ls : Array Slot) (hl : lv_has ls 11 [(0, .ref (q.1 0 0)), (1, .ref (q.1 28 l1)), (2, .int l2), (3, .int l3), (4, .ref (q.1 l4r l4)), (5, .int l5), (6, .int l6), (7, .int l7)]) (h : M_Mo_list_j99 l1 l2 l3 l4r l4 l5 l6 l7 s = some o) : WW X q s 99 ls [] := by
  unfold M_Mo_list_j99 at h
  refine ww_iconst (pc := 99) g.1 (v := 0) d_Mo_list_99 (by decide) ?_
  exact j_Mo_list_j100 g hR l1 l2 l3 l4r l4 l5 l6 l7 0 s hp0 hp1 ls (lv_sub hl [0, 1, 2, 3, 4, 5, 6, 7] rfl) h

theorem lp_Mo_list_L65 {X : Cx} {q : PL} (g : Gd X y_Mo_list b_Mo_list 11 none 8 186 R_Mo) (x : Int32 × Int32 × Int32 × Nat × Int32 × Int32 × Int32 × Int32) (s : S1) (o : ((Int32 × Int32 × Int32 × Nat × Int32 × Int32 × Int32 × Int32) ⊕ ((Int32 × Int32) ⊕ (Int32 × Int32))) × S1) (h : M_Mo_list_L65 x s = some o) (hR : (Sum.elim (fun y : Int32 × Int32 × Int32 × Nat × Int32 × Int32 × Int32 × Int32 => ∀ ls : Array Slot, (0 ≤ y.1 ∧ y.1 < 33) → (VOK y.2.2.2.1 y.2.2.2.2.1) → lv_has ls 11 [(0, .ref (q.1 0 0)), (1, .ref (q.1 28 y.1)), (2, .int y.2.1), (3, .int y.2.2.1), (4, .ref (q.1 y.2.2.2.1 y.2.2.2.2.1)), (5, .int y.2.2.2.2.2.1), (6, .int y.2.2.2.2.2.2.1), (7, .int y.2.2.2.2.2.2.2)] → WW X q o.2 65 ls []) (Sum.elim (fun y : Int32 × Int32 => ∀ ls : Array Slot, (0 ≤ y.1 ∧ y.1 < 33) → lv_has ls 11 [(1, .ref (q.1 28 y.1)), (2, .int y.2)] → WW X q o.2 190 ls []) (fun y : Int32 × Int32 => ∀ ls : Array Slot, (0 ≤ y.1 ∧ y.1 < 33) → lv_has ls 11 [(1, .ref (q.1 28 y.1)), (2, .int y.2)] → WW X q o.2 199 ls [])) o.1)) : ∀ ls : Array Slot, (0 ≤ x.1 ∧ x.1 < 33) → (VOK x.2.2.2.1 x.2.2.2.2.1) → lv_has ls 11 [(0, .ref (q.1 0 0)), (1, .ref (q.1 28 x.1)), (2, .int x.2.1), (3, .int x.2.2.1), (4, .ref (q.1 x.2.2.2.1 x.2.2.2.2.1)), (5, .int x.2.2.2.2.2.1), (6, .int x.2.2.2.2.2.2.1), (7, .int x.2.2.2.2.2.2.2)] → WW X q s 65 ls [] := by
  intro ls hp0 hp1 hl
  unfold M_Mo_list_L65 at h
  refine ww_iload (pc := 65) g.1 d_Mo_list_65 (lv_at hl 7 rfl) ?_
  refine ww_iload (pc := 67) g.1 d_Mo_list_67 (lv_at hl 6 rfl) ?_
  refine ww_icmp_gt (pc := 69) (tgt := 199) g.1 d_Mo_list_69 (by decide) h (fun c h => ?_) (fun c h => ?_)
  · rw [oR_eq h] at hR
    exact hR ls hp0 (lv_sub hl [1, 2] rfl)
  · refine ww_iload_n (pc := 72) g.1 d_Mo_list_72 rfl (lv_at hl 3 rfl) ?_
    obtain ⟨v73, s, hc73, h⟩ := oB_of h
    refine ww_callS (pc := 73) (rest := []) g cs_Mo_b (Or.inl kw_55) (ct_Mo_b hc73) ⟨by decide, by decide⟩ rfl hl.1 (Nat.le_of_ble_eq_true rfl) d_Mo_list_73 rfl ?_
    refine ww_st (st' := [.int v73]) rfl ?_
    refine ww_if_ne (pc := 76) (tgt := 99) g.1 d_Mo_list_76 (by decide) h (fun c h => ?_) (fun c h => ?_)
    · exact j_Mo_list_j99 g hR x.1 x.2.1 x.2.2.1 x.2.2.2.1 x.2.2.2.2.1 x.2.2.2.2.2.1 x.2.2.2.2.2.2.1 x.2.2.2.2.2.2.2 s hp0 hp1 ls (lv_sub hl [0, 1, 2, 3, 4, 5, 6, 7] rfl) h
    · refine ww_iload_n (pc := 79) g.1 d_Mo_list_79 rfl (lv_at hl 3 rfl) ?_
      obtain ⟨v80, s, hc80, h⟩ := oB_of h
      refine ww_callS (pc := 80) (rest := []) g cs_Mo_a (Or.inl kw_287) (ct_Mo_a hc80) ⟨by decide, by decide⟩ rfl hl.1 (Nat.le_of_ble_eq_true rfl) d_Mo_list_80 rfl ?_
      refine ww_st (st' := [.int v80]) rfl ?_
      refine ww_iload (pc := 83) g.1 d_Mo_list_83 (lv_at hl 7 rfl) ?_
      refine ww_iadd (pc := 85) g.1 d_Mo_list_85 ?_
      refine ww_aload_n (pc := 86) g.1 d_Mo_list_86 rfl (lv_at hl 1 rfl) ?_
      refine ww_gR (pc := 87) g (k := 16) cl_Th (pt rfl rfl hp0) (by decide) (Or.inl kw_277) (f := 3600) (t := 35) rfl rfl rfl d_Mo_list_87 ?_
      refine ww_iload_n (pc := 90) g.1 d_Mo_list_90 rfl (lv_at hl 2 rfl) ?_
      refine ww_ai (pc := 91) g (pt rfl rfl hp0) rfl rfl d_Mo_list_91 h fun v91 h => ?_
      refine ww_icmp_lt (pc := 92) (tgt := 99) g.1 d_Mo_list_92 (by decide) h (fun c h => ?_) (fun c h => ?_)
      · exact j_Mo_list_j99 g hR x.1 x.2.1 x.2.2.1 x.2.2.2.1 x.2.2.2.2.1 x.2.2.2.2.2.1 x.2.2.2.2.2.2.1 x.2.2.2.2.2.2.2 s hp0 hp1 ls (lv_sub hl [0, 1, 2, 3, 4, 5, 6, 7] rfl) h
      · refine ww_iconst (pc := 95) g.1 (v := 1) d_Mo_list_95 (by decide) ?_
        refine ww_goto (pc := 96) (tgt := 100) g.1 d_Mo_list_96 (by decide) ?_
        exact j_Mo_list_j100 g hR x.1 x.2.1 x.2.2.1 x.2.2.2.1 x.2.2.2.2.1 x.2.2.2.2.2.1 x.2.2.2.2.2.2.1 x.2.2.2.2.2.2.2 1 s hp0 hp1 ls (lv_sub hl [0, 1, 2, 3, 4, 5, 6, 7] rfl) h

theorem j_Mo_list_j199 {X : Cx} {q : PL} (g : Gd X y_Mo_list b_Mo_list 11 none 8 186 R_Mo) {o : (Unit) × S1} (hR : Rt X q o.2 none) (l1 : Int32) (l2 : Int32) (s : S1) (hp0 : 0 ≤ l1 ∧ l1 < 33) (ls : Array Slot) (hl : lv_has ls 11 [(1, .ref (q.1 28 l1)), (2, .int l2)]) (h : M_Mo_list_j199 l1 l2 s = some o) : WW X q s 199 ls [] := by
  unfold M_Mo_list_j199 at h
  refine ww_aload_n (pc := 199) g.1 d_Mo_list_199 rfl (lv_at hl 0 rfl) ?_
  refine ww_gR (pc := 200) g (k := 17) cl_Th (pt rfl rfl hp0) (by decide) (Or.inl kw_159) (f := 3601) (t := 36) rfl rfl rfl d_Mo_list_200 ?_
  refine ww_iload_n (pc := 203) g.1 d_Mo_list_203 rfl (lv_at hl 1 rfl) ?_
  refine ww_iconst (pc := 204) g.1 (v := 0) d_Mo_list_204 (by decide) ?_
  refine ww_si (pc := 205) g (pt rfl rfl hp0) rfl rfl d_Mo_list_205 h fun s hs h => ?_
  exact ww_vretH (pc := 206) g h hR d_Mo_list_206

theorem j_Mo_list_j34 {X : Cx} {q : PL} (g : Gd X y_Mo_list b_Mo_list 11 none 8 186 R_Mo) {o : (Unit) × S1} (hR : Rt X q o.2 none) (l1 : Int32) (l2 : Int32) (l3 : Int32) (l4r : Nat) (l4 : Int32) (l5 : Int32) (k0 : Int32) (s : S1) (hp0 : 0 ≤ l1 ∧ l1 < 33) (hp1 : VOK l4r l4) (ls : Array Slot) (hl : lv_has ls 11 [(0, .ref (q.1 0 0)), (1, .ref (q.1 28 l1)), (2, .int l2), (3, .int l3), (4, .ref (q.1 l4r l4)), (5, .int l5)]) (h : M_Mo_list_j34 l1 l2 l3 l4r l4 l5 k0 s = some o) : WW X q s 34 ls [.int k0] := by
  unfold M_Mo_list_j34 at h
  refine ww_istore (pc := 34) g.1 (lv' := [(6, .int k0), (0, .ref (q.1 0 0)), (1, .ref (q.1 28 l1)), (2, .int l2), (3, .int l3), (4, .ref (q.1 l4r l4)), (5, .int l5)]) d_Mo_list_34 hl (by decide) rfl fun ls hl => ?_
  refine ww_aload (pc := 36) g.1 d_Mo_list_36 (lv_at hl 5 rfl) ?_
  refine ww_gR (pc := 38) g (k := 0) (cl_Va hp1) (vok_p hp1).1 (by rw [(vok_f hp1).1.2.2]; decide) (Or.inl kw_92) (f := (128 * l4r + 0)) (t := l4r + 1) rfl (vok_f hp1).2.1.1 (vok_f hp1).2.1.2 d_Mo_list_38 ?_
  refine ww_iload (pc := 41) g.1 d_Mo_list_41 (lv_at hl 6 rfl) ?_
  refine ww_ab (pc := 43) g (vok_p hp1).2.1 (vok_f hp1).2.2.2.2.1 (vok_n hp1).1 d_Mo_list_43 h fun v43 h => ?_
  refine ww_iconst (pc := 44) g.1 (v := 5) d_Mo_list_44 (by decide) ?_
  refine ww_icmp_eq (pc := 45) (tgt := 62) g.1 d_Mo_list_45 (by decide) h (fun c h => ?_) (fun c h => ?_)
  · refine ww_iconst (pc := 62) g.1 (v := 1) d_Mo_list_62 (by decide) ?_
    refine ww_istore (pc := 63) g.1 (lv' := [(7, .int 1), (6, .int k0), (0, .ref (q.1 0 0)), (1, .ref (q.1 28 l1)), (2, .int l2), (3, .int l3), (4, .ref (q.1 l4r l4)), (5, .int l5)]) d_Mo_list_63 hl (by decide) rfl fun ls hl => ?_
    obtain ⟨e65, s1, hw, h⟩ := oB_of h
    refine oW_rule (Wh := fun (x : Int32 × Int32 × Int32 × Nat × Int32 × Int32 × Int32 × Int32) (s : S1) => ∀ ls : Array Slot, (0 ≤ x.1 ∧ x.1 < 33) → (VOK x.2.2.2.1 x.2.2.2.2.1) → lv_has ls 11 [(0, .ref (q.1 0 0)), (1, .ref (q.1 28 x.1)), (2, .int x.2.1), (3, .int x.2.2.1), (4, .ref (q.1 x.2.2.2.1 x.2.2.2.2.1)), (5, .int x.2.2.2.2.2.1), (6, .int x.2.2.2.2.2.2.1), (7, .int x.2.2.2.2.2.2.2)] → WW X q s 65 ls []) (We := fun (e : (Int32 × Int32) ⊕ (Int32 × Int32)) (s : S1) => (Sum.elim (fun y : Int32 × Int32 => ∀ ls : Array Slot, (0 ≤ y.1 ∧ y.1 < 33) → lv_has ls 11 [(1, .ref (q.1 28 y.1)), (2, .int y.2)] → WW X q s 190 ls []) (fun y : Int32 × Int32 => ∀ ls : Array Slot, (0 ≤ y.1 ∧ y.1 < 33) → lv_has ls 11 [(1, .ref (q.1 28 y.1)), (2, .int y.2)] → WW X q s 199 ls [])) e) (fun x s o hb hc => lp_Mo_list_L65 (q := q) g x s o hb hc) hw ?_ ls hp0 hp1 (lv_sub hl [2, 3, 4, 5, 6, 7, 1, 0] rfl)
    clear hw hl
    clear ls
    generalize s1 = s at h ⊢
    rcases e65 with y65_190 | y65_199
    · intro ls hq65_0 hl
      dsimp only [Sum.elim_inl, Sum.elim_inr] at h
      refine ww_goto (pc := 190) (tgt := 199) g.1 d_Mo_list_190 (by decide) ?_
      exact j_Mo_list_j199 g hR y65_190.1 y65_190.2 s hq65_0 ls (lv_sub hl [0, 1] rfl) h
    · intro ls hq65_0 hl
      dsimp only [Sum.elim_inl, Sum.elim_inr] at h
      exact j_Mo_list_j199 g hR y65_199.1 y65_199.2 s hq65_0 ls (lv_sub hl [0, 1] rfl) h
  · refine ww_aload_n (pc := 48) g.1 d_Mo_list_48 rfl (lv_at hl 2 rfl) ?_
    refine ww_gR (pc := 49) g (k := 17) cl_Th (pt rfl rfl hp0) (by decide) (Or.inl kw_159) (f := 3601) (t := 36) rfl rfl rfl d_Mo_list_49 ?_
    refine ww_iload_n (pc := 52) g.1 d_Mo_list_52 rfl (lv_at hl 3 rfl) ?_
    refine ww_iconst (pc := 53) g.1 (v := 0) d_Mo_list_53 (by decide) ?_
    refine ww_si (pc := 54) g (pt rfl rfl hp0) rfl rfl d_Mo_list_54 h fun s hs h => ?_
    refine ww_aload_n (pc := 55) g.1 d_Mo_list_55 rfl (lv_at hl 1 rfl) ?_
    refine ww_iconst (pc := 56) g.1 (v := 2) d_Mo_list_56 (by decide) ?_
    obtain ⟨v57, s, hc57, h⟩ := oB_of h
    refine ww_callV (pc := 57) (rest := []) g cv_Mo_raise (Or.inl kw_162) cl_Mo (pz rfl (by decide)) (ct_Mo_raise hc57) ⟨by decide, by decide⟩ rfl hl.1 (Nat.le_of_ble_eq_true rfl) d_Mo_list_57 rfl ?_
    refine ww_st (st' := [.int v57]) rfl ?_
    refine ww_pop (pc := 60) g.1 d_Mo_list_60 rfl ?_
    exact ww_vretH (pc := 61) g h hR d_Mo_list_61

theorem ct_Mo_list {l : Launch} {P : PP} {q : PL} {s s' : S1} {l1 : Int32} {l2 : Int32} {l3 : Int32} {l4r : Nat} {l4 : Int32} {l5 : Int32} (hp0 : 0 ≤ l1 ∧ l1 < 33) (hp1 : VOK l4r l4) {r : Unit} (h : M_Mo_list l1 l2 l3 l4r l4 l5 s = some (r, s')) : Ct l y_Mo_list b_Mo_list 11 none 8 186 P q s [.ref (q.1 0 0), .ref (q.1 28 l1), .int l2, .int l3, .ref (q.1 l4r l4), .int l5] none q s' := by
  refine ct_of (by decide) (Nat.le_of_ble_eq_true rfl) fun X ls eP el g hR hl => ?_
  have hR : Rt X q ((r, s') : Unit × S1).2 none := hR
  have hl : lv_has ls 11 [(0, .ref (q.1 0 0)), (1, .ref (q.1 28 l1)), (2, .int l2), (3, .int l3), (4, .ref (q.1 l4r l4)), (5, .int l5)] := hl
  generalize (r, s') = o at h hR
  unfold M_Mo_list at h
  refine ww_iload_n (pc := 0) g.1 d_Mo_list_0 rfl (lv_at hl 3 rfl) ?_
  obtain ⟨v1, s, hc1, h⟩ := oB_of h
  refine ww_callS (pc := 1) (rest := []) g cs_Mo_b (Or.inl kw_55) (ct_Mo_b hc1) ⟨by decide, by decide⟩ rfl hl.1 (Nat.le_of_ble_eq_true rfl) d_Mo_list_1 rfl ?_
  refine ww_st (st' := [.int v1]) rfl ?_
  refine ww_if_le (pc := 4) (tgt := 14) g.1 d_Mo_list_4 (by decide) h (fun c h => ?_) (fun c h => ?_)
  · refine ww_aload_n (pc := 14) g.1 d_Mo_list_14 rfl (lv_at hl 1 rfl) ?_
    refine ww_gR (pc := 15) g (k := 16) cl_Th (pt rfl rfl hp0) (by decide) (Or.inl kw_277) (f := 3600) (t := 35) rfl rfl rfl d_Mo_list_15 ?_
    refine ww_iload_n (pc := 18) g.1 d_Mo_list_18 rfl (lv_at hl 2 rfl) ?_
    refine ww_ai (pc := 19) g (pt rfl rfl hp0) rfl rfl d_Mo_list_19 h fun v19 h => ?_
    refine ww_aload_n (pc := 20) g.1 d_Mo_list_20 rfl (lv_at hl 1 rfl) ?_
    refine ww_gR (pc := 21) g (k := 17) cl_Th (pt rfl rfl hp0) (by decide) (Or.inl kw_159) (f := 3601) (t := 36) rfl rfl rfl d_Mo_list_21 ?_
    refine ww_iload_n (pc := 24) g.1 d_Mo_list_24 rfl (lv_at hl 2 rfl) ?_
    refine ww_ai (pc := 25) g (pt rfl rfl hp0) rfl rfl d_Mo_list_25 h fun v25 h => ?_
    refine ww_iadd (pc := 26) g.1 d_Mo_list_26 ?_
    refine ww_iload_n (pc := 27) g.1 d_Mo_list_27 rfl (lv_at hl 3 rfl) ?_
    obtain ⟨v28, s, hc28, h⟩ := oB_of h
    refine ww_callS (pc := 28) (rest := [.int (v19 + v25)]) g cs_Mo_a (Or.inl kw_287) (ct_Mo_a hc28) ⟨by decide, by decide⟩ rfl hl.1 (Nat.le_of_ble_eq_true rfl) d_Mo_list_28 rfl ?_
    refine ww_st (st' := [.int v28, .int (v19 + v25)]) rfl ?_
    refine ww_isub (pc := 31) g.1 d_Mo_list_31 ?_
    refine ww_iconst (pc := 32) g.1 (v := 1) d_Mo_list_32 (by decide) ?_
    refine ww_isub (pc := 33) g.1 d_Mo_list_33 ?_
    exact j_Mo_list_j34 g hR l1 l2 l3 l4r l4 l5 (((v19 + v25) - v28) - 1) s hp0 hp1 ls (lv_sub hl [0, 1, 2, 3, 4, 5] rfl) h
  · refine ww_iload_n (pc := 7) g.1 d_Mo_list_7 rfl (lv_at hl 3 rfl) ?_
    obtain ⟨v8, s, hc8, h⟩ := oB_of h
    refine ww_callS (pc := 8) (rest := []) g cs_Mo_b (Or.inl kw_55) (ct_Mo_b hc8) ⟨by decide, by decide⟩ rfl hl.1 (Nat.le_of_ble_eq_true rfl) d_Mo_list_8 rfl ?_
    refine ww_st (st' := [.int v8]) rfl ?_
    refine ww_goto (pc := 11) (tgt := 34) g.1 d_Mo_list_11 (by decide) ?_
    exact j_Mo_list_j34 g hR l1 l2 l3 l4r l4 l5 v8 s hp0 hp1 ls (lv_sub hl [0, 1, 2, 3, 4, 5] rfl) h

