theorem kw_413 : Cond.instanceMethod y_Mo_meta ∈ wA := kinm (show _ ∈ tables_1 from (List.mem_append_right _ (List.mem_append_right _ (List.mem_append_right _ (List.mem_append_right _ (List.mem_append_right _ (List.mem_append_right _ (List.mem_append_right _ (List.mem_append_right _ (List.mem_append_right _ (List.mem_append_right _ (List.mem_append_right _ (List.mem_append_left _ (List.mem_of_getElem? (l := tables_1_12) (i := 165) (by decide +kernel))))))))))))))) (by decide +kernel)
theorem kw_414 : Cond.selects R_Mo y_Mo_meta y_Mo_meta ∈ wA := kinp 158 (by decide +kernel) (by decide +kernel)
def M_Mo_meta (l1 : Int32) (l2 : Int64) (l4 : Int32) : M (Int32) :=
  oB (oPI 66 0 0) fun _ =>
  oC (l1 = 5)
    (oB (oAI 65 4100 0 l2.toInt32) fun v16 =>
    oC (0 ≤ v16)
      (oB (oAI 65 4100 0 l2.toInt32) fun v29 =>
      oB (oAI 82 22 0 l4) fun v37 =>
      oB (M_Mo_raw v29 4 v37.toInt64) fun v39 =>
      oB (oK (v39 = 0 ∨ v39 = 1)) fun _ =>
      oR v39)
      (oR 0))
    (oR 0)

theorem cv_Mo_meta : CV y_Mo_meta b_Mo_meta 5 (some .boolean) 3 := ⟨kw_413, kw_414, kw_17, k_Mo_meta, by decide +kernel⟩
theorem ct_Mo_meta {l : Launch} {P : PP} {q : PL} {s s' : S1} {l1 : Int32} {l2 : Int64} {l4 : Int32} {r : Int32} (h : M_Mo_meta l1 l2 l4 s = some (r, s')) : Ct l y_Mo_meta b_Mo_meta 5 (some .boolean) 4 99 P q s [.ref (q.1 0 0), .int l1, .long l2, .int l4] (some (.int r)) q s' := by
  refine ct_of (by decide) (Nat.le_of_ble_eq_true rfl) fun X ls eP el g hR hl => ?_
  have hR : Rt X q ((r, s') : Int32 × S1).2 (some (.int ((r, s') : Int32 × S1).1)) := hR
  have hl : lv_has ls 5 [(0, .ref (q.1 0 0)), (1, .int l1), (2, .long l2), (4, .int l4)] := hl
  generalize (r, s') = o at h hR
  unfold M_Mo_meta at h
  refine ww_aload_n (pc := 0) g.1 d_Mo_meta_0 rfl (lv_at hl 0 rfl) ?_
  refine ww_iconst (pc := 1) g.1 (v := 0) d_Mo_meta_1 (by decide) ?_
  refine ww_pI (pc := 2) g (k := 66) cl_Mo (pz rfl (by decide)) (by decide) (Or.inl kw_94) rfl (f := 66) rfl rfl rfl rfl d_Mo_meta_2 h fun s hs h => ?_
  refine ww_iload_n (pc := 5) g.1 d_Mo_meta_5 rfl (lv_at hl 1 rfl) ?_
  refine ww_iconst (pc := 6) g.1 (v := 5) d_Mo_meta_6 (by decide) ?_
  refine ww_icmp_ne (pc := 7) (tgt := 20) g.1 d_Mo_meta_7 (by decide) h (fun c h => ?_) (fun c h => ?_)
  · refine ww_iconst (pc := 20) g.1 (v := 0) d_Mo_meta_20 (by decide) ?_
    exact ww_zretH (pc := 21) g h hR (Or.inl rfl) d_Mo_meta_21
  · refine ww_aload_n (pc := 10) g.1 d_Mo_meta_10 rfl (lv_at hl 0 rfl) ?_
    refine ww_gR (pc := 11) g (k := 52) cl_Mo (pz rfl (by decide)) (by decide) (Or.inl kw_347) (f := 52) (t := 65) rfl rfl rfl d_Mo_meta_11 ?_
    refine ww_lload_n (pc := 14) g.1 d_Mo_meta_14 rfl (lv_at hl 2 rfl) ?_
    refine ww_l2i (pc := 15) g.1 (v := l2.toInt32) d_Mo_meta_15 rfl ?_
    refine ww_ai (pc := 16) g (pz rfl (by decide)) rfl rfl d_Mo_meta_16 h fun v16 h => ?_
    refine ww_if_ge (pc := 17) (tgt := 22) g.1 d_Mo_meta_17 (by decide) h (fun c h => ?_) (fun c h => ?_)
    · refine ww_aload_n (pc := 22) g.1 d_Mo_meta_22 rfl (lv_at hl 0 rfl) ?_
      refine ww_aload_n (pc := 23) g.1 d_Mo_meta_23 rfl (lv_at hl 0 rfl) ?_
      refine ww_gR (pc := 24) g (k := 52) cl_Mo (pz rfl (by decide)) (by decide) (Or.inl kw_347) (f := 52) (t := 65) rfl rfl rfl d_Mo_meta_24 ?_
      refine ww_lload_n (pc := 27) g.1 d_Mo_meta_27 rfl (lv_at hl 2 rfl) ?_
      refine ww_l2i (pc := 28) g.1 (v := l2.toInt32) d_Mo_meta_28 rfl ?_
      refine ww_ai (pc := 29) g (pz rfl (by decide)) rfl rfl d_Mo_meta_29 h fun v29 h => ?_
      refine ww_iconst (pc := 30) g.1 (v := 4) d_Mo_meta_30 (by decide) ?_
      refine ww_aload_n (pc := 31) g.1 d_Mo_meta_31 rfl (lv_at hl 0 rfl) ?_
      refine ww_gR (pc := 32) g (k := 87) cl_Mo (pz rfl (by decide)) (by decide) (Or.inl kw_361) (f := 87) (t := 82) rfl rfl rfl d_Mo_meta_32 ?_
      refine ww_iload (pc := 35) g.1 d_Mo_meta_35 (lv_at hl 3 rfl) ?_
      refine ww_ai (pc := 37) g (pz rfl (by decide)) rfl rfl d_Mo_meta_37 h fun v37 h => ?_
      refine ww_i2l (pc := 38) g.1 (v := v37.toInt64) d_Mo_meta_38 rfl ?_
      obtain ⟨v39, s, hc39, h⟩ := oB_of h
      refine ww_callV (pc := 39) (rest := []) g cv_Mo_raw (Or.inl kw_362) cl_Mo (pz rfl (by decide)) (ct_Mo_raw hc39) ⟨by decide, by decide⟩ rfl hl.1 (Nat.le_of_ble_eq_true rfl) d_Mo_meta_39 rfl ?_
      refine ww_st (st' := [.int v39]) rfl ?_
      refine ww_ok h fun cz h => ?_
      exact ww_zretH (pc := 42) g h hR cz d_Mo_meta_42
    · refine ww_iconst (pc := 20) g.1 (v := 0) d_Mo_meta_20 (by decide) ?_
      exact ww_zretH (pc := 21) g h hR (Or.inl rfl) d_Mo_meta_21

theorem kw_415 : Cond.methodLink R_Mo 715 y_Mo_meta ∈ wA := kinm (show _ ∈ tables_1 from (List.mem_append_right _ (List.mem_append_right _ (List.mem_append_right _ (List.mem_append_right _ (List.mem_append_right _ (List.mem_append_right _ (List.mem_append_right _ (List.mem_append_right _ (List.mem_append_right _ (List.mem_append_right _ (List.mem_append_right _ (List.mem_append_left _ (List.mem_of_getElem? (l := tables_1_12) (i := 163) (by decide +kernel))))))))))))))) (by decide +kernel)
theorem kw_416 : Cond.methodLink R_Mo 943 y_Mo_arguments ∈ wA := kinm (show _ ∈ tables_1 from (List.mem_append_right _ (List.mem_append_right _ (List.mem_append_right _ (List.mem_append_right _ (List.mem_append_right _ (List.mem_append_right _ (List.mem_append_right _ (List.mem_append_right _ (List.mem_append_right _ (List.mem_append_right _ (List.mem_append_right _ (List.mem_append_right _ (List.mem_append_left _ (List.mem_of_getElem? (l := tables_1_13) (i := 107) (by decide +kernel)))))))))))))))) (by decide +kernel)
theorem kw_417 : Cond.instanceMethod y_Mo_either ∈ wA := kinm (show _ ∈ tables_1 from (List.mem_append_right _ (List.mem_append_right _ (List.mem_append_right _ (List.mem_append_right _ (List.mem_append_right _ (List.mem_append_right _ (List.mem_append_right _ (List.mem_append_right _ (List.mem_append_right _ (List.mem_append_right _ (List.mem_append_right _ (List.mem_append_right _ (List.mem_append_left _ (List.mem_of_getElem? (l := tables_1_13) (i := 105) (by decide +kernel)))))))))))))))) (by decide +kernel)
theorem kw_418 : Cond.selects R_Mo y_Mo_either y_Mo_either ∈ wA := kinp 197 (by decide +kernel) (by decide +kernel)
def M_Mo_either_j24 (l2 : Int32) (l3 : Int64) (l5 : Int32) (l6 : Int64) : M (Int32) :=
  oB (oGI 66 0) fun v25 =>
  oB (oGL 67 0) fun v31 =>
  oB (M_Mo_arguments l2 l3 l5 l6) fun _ =>
  oB (oPI 75 0 v25) fun _ =>
  oB (oPL 76 0 v31) fun _ =>
  oB (oPI 73 0 1) fun _ =>
  oR 1

def M_Mo_either (l1 : Int32) (l2 : Int32) (l3 : Int64) (l5 : Int32) (l6 : Int64) : M (Int32) :=
  oB (M_Mo_meta l2 l3 l1) fun v4 =>
  oC (v4 = 0)
    (oB (M_Mo_meta l5 l6 l1) fun v16 =>
    oC (v16 = 0)
      (oR 0)
      (M_Mo_either_j24 l2 l3 l5 l6))
    (M_Mo_either_j24 l2 l3 l5 l6)

theorem cv_Mo_either : CV y_Mo_either b_Mo_either 11 (some .boolean) 5 := ⟨kw_417, kw_418, kw_17, k_Mo_either, by decide +kernel⟩
theorem j_Mo_either_j24 {X : Cx} {q : PL} (g : Gd X y_Mo_either b_Mo_either 11 (some .boolean) 5 123 R_Mo) {o : (Int32) × S1} (hR : Rt X q o.2 (some (.int o.1))) (l2 : Int32) (l3 : Int64) (l5 : Int32) (l6 : Int64) (s : S1) (ls : Array Slot) (hl : lv_has ls 11 [(0, .ref (q.1 0 0)), (2, .int l2), (3, .long l3), (5, .int l5), (6, .long l6)]) (h : M_Mo_either_j24 l2 l3 l5 l6 s = some o) : WW X q s 24 ls [] := by
  unfold M_Mo_either_j24 at h
  refine ww_aload_n (pc := 24) g.1 d_Mo_either_24 rfl (lv_at hl 0 rfl) ?_
  refine ww_gI (pc := 25) g (k := 66) cl_Mo (pz rfl (by decide)) (by decide) (Or.inl kw_94) (f := 66) rfl rfl d_Mo_either_25 h fun v25 h => ?_
  refine ww_istore (pc := 28) g.1 (lv' := [(8, .int v25), (0, .ref (q.1 0 0)), (2, .int l2), (3, .long l3), (5, .int l5), (6, .long l6)]) d_Mo_either_28 hl (by decide) rfl fun ls hl => ?_
  refine ww_aload_n (pc := 30) g.1 d_Mo_either_30 rfl (lv_at hl 1 rfl) ?_
  refine ww_gL (pc := 31) g (k := 67) cl_Mo (pz rfl (by decide)) (by decide) (Or.inl kw_96) (f := 67) rfl rfl d_Mo_either_31 h fun v31 h => ?_
  refine ww_lstore (pc := 34) g.1 (lv' := [(9, .long v31), (8, .int v25), (0, .ref (q.1 0 0)), (2, .int l2), (3, .long l3), (5, .int l5), (6, .long l6)]) d_Mo_either_34 hl (by decide) rfl fun ls hl => ?_
  refine ww_aload_n (pc := 36) g.1 d_Mo_either_36 rfl (lv_at hl 2 rfl) ?_
  refine ww_iload_n (pc := 37) g.1 d_Mo_either_37 rfl (lv_at hl 3 rfl) ?_
  refine ww_lload_n (pc := 38) g.1 d_Mo_either_38 rfl (lv_at hl 4 rfl) ?_
  refine ww_iload (pc := 39) g.1 d_Mo_either_39 (lv_at hl 5 rfl) ?_
  refine ww_lload (pc := 41) g.1 d_Mo_either_41 (lv_at hl 6 rfl) ?_
  obtain ⟨v43, s, hc43, h⟩ := oB_of h
  refine ww_callV (pc := 43) (rest := []) g cv_Mo_arguments (Or.inl kw_416) cl_Mo (pz rfl (by decide)) (ct_Mo_arguments hc43) ⟨by decide, by decide⟩ rfl hl.1 (Nat.le_of_ble_eq_true rfl) d_Mo_either_43 rfl ?_
  refine ww_st (st' := []) rfl ?_
  refine ww_aload_n (pc := 46) g.1 d_Mo_either_46 rfl (lv_at hl 2 rfl) ?_
  refine ww_iload (pc := 47) g.1 d_Mo_either_47 (lv_at hl 1 rfl) ?_
  refine ww_pI (pc := 49) g (k := 75) cl_Mo (pz rfl (by decide)) (by decide) (Or.inl kw_198) rfl (f := 75) rfl rfl rfl rfl d_Mo_either_49 h fun s hs h => ?_
  refine ww_aload_n (pc := 52) g.1 d_Mo_either_52 rfl (lv_at hl 2 rfl) ?_
  refine ww_lload (pc := 53) g.1 d_Mo_either_53 (lv_at hl 0 rfl) ?_
  refine ww_pL (pc := 55) g (k := 76) cl_Mo (pz rfl (by decide)) (by decide) (Or.inl kw_200) rfl (f := 76) rfl rfl rfl rfl d_Mo_either_55 h fun s hs h => ?_
  refine ww_aload_n (pc := 58) g.1 d_Mo_either_58 rfl (lv_at hl 2 rfl) ?_
  refine ww_iconst (pc := 59) g.1 (v := 1) d_Mo_either_59 (by decide) ?_
  refine ww_pI (pc := 60) g (k := 73) cl_Mo (pz rfl (by decide)) (by decide) (Or.inl kw_77) rfl (f := 73) rfl rfl rfl rfl d_Mo_either_60 h fun s hs h => ?_
  refine ww_iconst (pc := 63) g.1 (v := 1) d_Mo_either_63 (by decide) ?_
  exact ww_zretH (pc := 64) g h hR (Or.inr rfl) d_Mo_either_64

theorem ct_Mo_either {l : Launch} {P : PP} {q : PL} {s s' : S1} {l1 : Int32} {l2 : Int32} {l3 : Int64} {l5 : Int32} {l6 : Int64} {r : Int32} (h : M_Mo_either l1 l2 l3 l5 l6 s = some (r, s')) : Ct l y_Mo_either b_Mo_either 11 (some .boolean) 5 123 P q s [.ref (q.1 0 0), .int l1, .int l2, .long l3, .int l5, .long l6] (some (.int r)) q s' := by
  refine ct_of (by decide) (Nat.le_of_ble_eq_true rfl) fun X ls eP el g hR hl => ?_
  have hR : Rt X q ((r, s') : Int32 × S1).2 (some (.int ((r, s') : Int32 × S1).1)) := hR
  have hl : lv_has ls 11 [(0, .ref (q.1 0 0)), (1, .int l1), (2, .int l2), (3, .long l3), (5, .int l5), (6, .long l6)] := hl
  generalize (r, s') = o at h hR
  unfold M_Mo_either at h
  refine ww_aload_n (pc := 0) g.1 d_Mo_either_0 rfl (lv_at hl 0 rfl) ?_
  refine ww_iload_n (pc := 1) g.1 d_Mo_either_1 rfl (lv_at hl 2 rfl) ?_
  refine ww_lload_n (pc := 2) g.1 d_Mo_either_2 rfl (lv_at hl 3 rfl) ?_
  refine ww_iload_n (pc := 3) g.1 d_Mo_either_3 rfl (lv_at hl 1 rfl) ?_
  obtain ⟨v4, s, hc4, h⟩ := oB_of h
  refine ww_callV (pc := 4) (rest := []) g cv_Mo_meta (Or.inl kw_415) cl_Mo (pz rfl (by decide)) (ct_Mo_meta hc4) ⟨by decide, by decide⟩ rfl hl.1 (Nat.le_of_ble_eq_true rfl) d_Mo_either_4 rfl ?_
  refine ww_st (st' := [.int v4]) rfl ?_
  refine ww_if_ne (pc := 7) (tgt := 24) g.1 d_Mo_either_7 (by decide) h (fun c h => ?_) (fun c h => ?_)
  · exact j_Mo_either_j24 g hR l2 l3 l5 l6 s ls (lv_sub hl [0, 2, 3, 4, 5] rfl) h
  · refine ww_aload_n (pc := 10) g.1 d_Mo_either_10 rfl (lv_at hl 0 rfl) ?_
    refine ww_iload (pc := 11) g.1 d_Mo_either_11 (lv_at hl 4 rfl) ?_
    refine ww_lload (pc := 13) g.1 d_Mo_either_13 (lv_at hl 5 rfl) ?_
    refine ww_iload_n (pc := 15) g.1 d_Mo_either_15 rfl (lv_at hl 1 rfl) ?_
    obtain ⟨v16, s, hc16, h⟩ := oB_of h
    refine ww_callV (pc := 16) (rest := []) g cv_Mo_meta (Or.inl kw_415) cl_Mo (pz rfl (by decide)) (ct_Mo_meta hc16) ⟨by decide, by decide⟩ rfl hl.1 (Nat.le_of_ble_eq_true rfl) d_Mo_either_16 rfl ?_
    refine ww_st (st' := [.int v16]) rfl ?_
    refine ww_if_ne (pc := 19) (tgt := 24) g.1 d_Mo_either_19 (by decide) h (fun c h => ?_) (fun c h => ?_)
    · exact j_Mo_either_j24 g hR l2 l3 l5 l6 s ls (lv_sub hl [0, 2, 3, 4, 5] rfl) h
    · refine ww_iconst (pc := 22) g.1 (v := 0) d_Mo_either_22 (by decide) ?_
      exact ww_zretH (pc := 23) g h hR (Or.inl rfl) d_Mo_either_23

theorem kw_419 : Cond.instanceMethod y_Mo_error ∈ wA := kinm (show _ ∈ tables_1 from (List.mem_append_right _ (List.mem_append_right _ (List.mem_append_right _ (List.mem_append_right _ (List.mem_append_right _ (List.mem_append_right _ (List.mem_append_right _ (List.mem_append_right _ (List.mem_append_right _ (List.mem_append_right _ (List.mem_append_right _ (List.mem_append_right _ (List.mem_append_left _ (List.mem_of_getElem? (l := tables_1_13) (i := 113) (by decide +kernel)))))))))))))))) (by decide +kernel)
theorem kw_420 : Cond.selects R_Mo y_Mo_error y_Mo_error ∈ wA := kinp 199 (by decide +kernel) (by decide +kernel)
def M_Mo_error_L31 : (Int32 × Int32) → M ((Int32 × Int32) ⊕ ((Int32 × Int32))) := fun x =>
  oC (x.2 < 0)
    (oR (Sum.inr (x.1, x.2)))
    (oB (oK ((0 : Int32) ≤ x.1 ∧ x.1 < 33)) fun _ =>
    oB (oAI 30 201 x.1 x.2) fun v40 =>
    oC (v40 = 1)
      (oR (Sum.inr (x.1, x.2)))
      (oR (Sum.inl (x.1, x.2 + (-1)))))

def M_Mo_error_j194 (k0 : Int32) : M (Unit) :=
  oB (oGI 72 0) fun v197 =>
  oB (oK ((0 : Int32) ≤ v197 ∧ v197 < 33)) fun _ =>
  oB (oGI 3586 v197) fun v201 =>
  oB (oPI 3586 v197 (v201 - 1)) fun _ =>
  oC (k0 = 0)
    (oB (M_Va_add 10 0 1 0) fun _ =>
    oB (oGI 64 0) fun v234 =>
    oB (oGL 65 0) fun v238 =>
    oB (M_Va_add 10 0 v234 v238) fun _ =>
    oB (oPI 64 0 0) fun _ =>
    oB (oPI 73 0 2) fun _ =>
    oR ())
    (oB (oPI 73 0 3) fun _ =>
    oR ())

def M_Mo_error_j51 (l1 : Int32) (l2 : Int32) : M (Unit) :=
  oC (l2 < 0)
    (oB (oK ((0 : Int32) ≤ l1 ∧ l1 < 33)) fun _ =>
    oB (M_Mo_leave l1 0) fun _ =>
    oB (oK ((0 : Int32) ≤ l1 ∧ l1 < 33)) fun _ =>
    oB (oPI 3586 l1 0) fun _ =>
    oB (oK ((0 : Int32) ≤ l1 ∧ l1 < 33)) fun _ =>
    oB (oPI 3585 l1 3) fun _ =>
    oB (oK ((0 : Int32) ≤ l1 ∧ l1 < 33)) fun _ =>
    oB (oK ((0 : Int32) ≤ 0 ∧ 0 < 33)) fun _ =>
    oC (l1 = 0)
      (oB (oPI 80 0 2) fun _ =>
      oB (oPI 1666 0 0) fun _ =>
      oB (oGI 64 0) fun v147 =>
      oB (oGL 65 0) fun v151 =>
      oB (M_Va_add 13 0 v147 v151) fun _ =>
      oB (oPI 64 0 0) fun _ =>
      oR ())
      (oB (oK ((0 : Int32) ≤ l1 ∧ l1 < 33)) fun _ =>
      oB (M_Mo_back l1) fun _ =>
      oB (oGI 72 0) fun v169 =>
      oB (oK ((0 : Int32) ≤ v169 ∧ v169 < 33)) fun _ =>
      oB (M_Th_top v169) fun v172 =>
      oB (oGI 72 0) fun v177 =>
      oB (oK ((0 : Int32) ≤ v177 ∧ v177 < 33)) fun _ =>
      oB (oAI 30 201 v177 v172) fun v184 =>
      oC (v184 = 3)
        (M_Mo_error_j194 1)
        (M_Mo_error_j194 0)))
    (oB (oK ((0 : Int32) ≤ l1 ∧ l1 < 33)) fun _ =>
    oB (M_Mo_leave l1 (l2 + 1)) fun _ =>
    oB (oK ((0 : Int32) ≤ l1 ∧ l1 < 33)) fun _ =>
    oB (oPI 3586 l1 l2) fun _ =>
    oB (M_Va_add 10 0 1 0) fun _ =>
    oB (oGI 64 0) fun v82 =>
    oB (oGL 65 0) fun v86 =>
    oB (M_Va_add 10 0 v82 v86) fun _ =>
    oB (oPI 64 0 0) fun _ =>
    oB (oPI 73 0 2) fun _ =>
    oR ())

def M_Mo_error  : M (Unit) :=
  oB (oPI 73 0 0) fun _ =>
  oB (oPI 898 0 0) fun _ =>
  oB (oPI 1282 0 0) fun _ =>
  oB (oGI 72 0) fun v22 =>
  oB (oK ((0 : Int32) ≤ v22 ∧ v22 < 33)) fun _ =>
  oB (M_Th_top v22) fun v27 =>
  oB (oW M_Mo_error_L31 (v22, v27)) fun e31 =>
  M_Mo_error_j51 e31.1 e31.2

theorem cv_Mo_error : CV y_Mo_error b_Mo_error 5 none 0 := ⟨kw_419, kw_420, kw_17, k_Mo_error, by decide +kernel⟩
theorem lp_Mo_error_L31 {X : Cx} {q : PL} (g : Gd X y_Mo_error b_Mo_error 5 none 4 93 R_Mo) (x : Int32 × Int32) (s : S1) (o : ((Int32 × Int32) ⊕ ((Int32 × Int32))) × S1) (h : M_Mo_error_L31 x s = some o) (hR : (Sum.elim (fun y : Int32 × Int32 => ∀ ls : Array Slot, lv_has ls 5 [(0, .ref (q.1 0 0)), (1, vr q 28 y.1), (2, .int y.2)] → WW X q o.2 31 ls []) (fun y : Int32 × Int32 => ∀ ls : Array Slot, lv_has ls 5 [(0, .ref (q.1 0 0)), (1, vr q 28 y.1), (2, .int y.2)] → WW X q o.2 51 ls []) o.1)) : ∀ ls : Array Slot, lv_has ls 5 [(0, .ref (q.1 0 0)), (1, vr q 28 x.1), (2, .int x.2)] → WW X q s 31 ls [] := by
  intro ls hl
  unfold M_Mo_error_L31 at h
  refine ww_iload_n (pc := 31) g.1 d_Mo_error_31 rfl (lv_at hl 2 rfl) ?_
  refine ww_if_lt (pc := 32) (tgt := 51) g.1 d_Mo_error_32 (by decide) h (fun c h => ?_) (fun c h => ?_)
  · rw [oR_eq h] at hR
    exact hR ls (lv_sub hl [0, 1, 2] rfl)
  · refine ww_aload_nV (pc := 35) g.1 vr_cases d_Mo_error_35 rfl (lv_at hl 1 rfl) ?_
    refine ww_ok h fun cn35 h => ?_
    refine ww_nn cn35 ?_
    refine ww_gR (pc := 36) g (k := 11) cl_Th (pt rfl rfl cn35) (by decide) (Or.inl kw_157) (f := 3595) (t := 30) rfl rfl rfl d_Mo_error_36 ?_
    refine ww_iload_n (pc := 39) g.1 d_Mo_error_39 rfl (lv_at hl 2 rfl) ?_
    refine ww_ai (pc := 40) g (pt rfl rfl cn35) rfl rfl d_Mo_error_40 h fun v40 h => ?_
    refine ww_iconst (pc := 41) g.1 (v := 1) d_Mo_error_41 (by decide) ?_
    refine ww_icmp_eq (pc := 42) (tgt := 51) g.1 d_Mo_error_42 (by decide) h (fun c h => ?_) (fun c h => ?_)
    · rw [oR_eq h] at hR
      exact hR ls (lv_sub hl [0, 1, 2] rfl)
    · refine ww_iinc (pc := 45) g.1 (v := x.2 + (-1)) (lv' := [(2, .int (x.2 + (-1))), (0, .ref (q.1 0 0)), (1, vr q 28 x.1)]) d_Mo_error_45 hl (k := 2) rfl (by rfl) (by decide) (by simp [vr_cat]) fun ls hl => ?_
      refine ww_goto (pc := 48) (tgt := 31) g.1 d_Mo_error_48 (by decide) ?_
      rw [oR_eq h] at hR
      exact hR ls (lv_sub hl [1, 2, 0] rfl)

theorem j_Mo_error_j194 {X : Cx} {q : PL} (g : Gd X y_Mo_error b_Mo_error 5 none 4 93 R_Mo) {o : (Unit) × S1} (hR : Rt X q o.2 none) (k0 : Int32) (s : S1) (ls : Array Slot) (hl : lv_has ls 5 [(0, .ref (q.1 0 0))]) (h : M_Mo_error_j194 k0 s = some o) : WW X q s 194 ls [.int k0] := by
  unfold M_Mo_error_j194 at h
  refine ww_istore (pc := 194) g.1 (lv' := [(4, .int k0), (0, .ref (q.1 0 0))]) d_Mo_error_194 hl (by decide) rfl fun ls hl => ?_
  refine ww_aload_n (pc := 196) g.1 d_Mo_error_196 rfl (lv_at hl 1 rfl) ?_
  refine ww_gV (pc := 197) g (k := 72) cl_Mo (pz rfl (by decide)) (by decide) (Or.inl kw_155) (f := 72) (t := 28) rfl rfl rfl d_Mo_error_197 h fun v197 h => ?_
  refine ww_ok h fun cn197 h => ?_
  refine ww_nn cn197 ?_
  refine ww_dup (pc := 200) g.1 d_Mo_error_200 rfl ?_
  refine ww_gI (pc := 201) g (k := 2) cl_Th (pt rfl rfl cn197) (by decide) (Or.inl kw_156) (f := 3586) rfl rfl d_Mo_error_201 h fun v201 h => ?_
  refine ww_iconst (pc := 204) g.1 (v := 1) d_Mo_error_204 (by decide) ?_
  refine ww_isub (pc := 205) g.1 d_Mo_error_205 ?_
  refine ww_pI (pc := 206) g (k := 2) cl_Th (pt rfl rfl cn197) (by decide) (Or.inl kw_156) rfl (f := 3586) rfl rfl rfl rfl d_Mo_error_206 h fun s hs h => ?_
  refine ww_iload (pc := 209) g.1 d_Mo_error_209 (lv_at hl 0 rfl) ?_
  refine ww_if_eq (pc := 211) (tgt := 220) g.1 d_Mo_error_211 (by decide) h (fun c h => ?_) (fun c h => ?_)
  · refine ww_aload_n (pc := 220) g.1 d_Mo_error_220 rfl (lv_at hl 1 rfl) ?_
    refine ww_gR (pc := 221) g (k := 78) cl_Mo (pz rfl (by decide)) (by decide) (Or.inl kw_184) (f := 78) (t := 10) rfl rfl rfl d_Mo_error_221 ?_
    refine ww_iconst (pc := 224) g.1 (v := 1) d_Mo_error_224 (by decide) ?_
    refine ww_lconst (pc := 225) g.1 (v := 0) d_Mo_error_225 (by decide) ?_
    obtain ⟨v226, s, hc226, h⟩ := oB_of h
    refine ww_callV (pc := 226) (rest := []) g cv_Va_add (Or.inl kw_193) (cl_Va (Or.inl ⟨by decide, rfl⟩)) (pz rfl (by decide)) (ct_Va_add (Or.inl ⟨by decide, rfl⟩) hc226) ⟨by decide, by decide⟩ rfl hl.1 (Nat.le_of_ble_eq_true rfl) d_Mo_error_226 rfl ?_
    refine ww_st (st' := []) rfl ?_
    refine ww_aload_n (pc := 229) g.1 d_Mo_error_229 rfl (lv_at hl 1 rfl) ?_
    refine ww_gR (pc := 230) g (k := 78) cl_Mo (pz rfl (by decide)) (by decide) (Or.inl kw_184) (f := 78) (t := 10) rfl rfl rfl d_Mo_error_230 ?_
    refine ww_aload_n (pc := 233) g.1 d_Mo_error_233 rfl (lv_at hl 1 rfl) ?_
    refine ww_gI (pc := 234) g (k := 64) cl_Mo (pz rfl (by decide)) (by decide) (Or.inl kw_75) (f := 64) rfl rfl d_Mo_error_234 h fun v234 h => ?_
    refine ww_aload_n (pc := 237) g.1 d_Mo_error_237 rfl (lv_at hl 1 rfl) ?_
    refine ww_gL (pc := 238) g (k := 65) cl_Mo (pz rfl (by decide)) (by decide) (Or.inl kw_76) (f := 65) rfl rfl d_Mo_error_238 h fun v238 h => ?_
    obtain ⟨v241, s, hc241, h⟩ := oB_of h
    refine ww_callV (pc := 241) (rest := []) g cv_Va_add (Or.inl kw_193) (cl_Va (Or.inl ⟨by decide, rfl⟩)) (pz rfl (by decide)) (ct_Va_add (Or.inl ⟨by decide, rfl⟩) hc241) ⟨by decide, by decide⟩ rfl hl.1 (Nat.le_of_ble_eq_true rfl) d_Mo_error_241 rfl ?_
    refine ww_st (st' := []) rfl ?_
    refine ww_aload_n (pc := 244) g.1 d_Mo_error_244 rfl (lv_at hl 1 rfl) ?_
    refine ww_iconst (pc := 245) g.1 (v := 0) d_Mo_error_245 (by decide) ?_
    refine ww_pI (pc := 246) g (k := 64) cl_Mo (pz rfl (by decide)) (by decide) (Or.inl kw_75) rfl (f := 64) rfl rfl rfl rfl d_Mo_error_246 h fun s hs h => ?_
    refine ww_aload_n (pc := 249) g.1 d_Mo_error_249 rfl (lv_at hl 1 rfl) ?_
    refine ww_iconst (pc := 250) g.1 (v := 2) d_Mo_error_250 (by decide) ?_
    refine ww_pI (pc := 251) g (k := 73) cl_Mo (pz rfl (by decide)) (by decide) (Or.inl kw_77) rfl (f := 73) rfl rfl rfl rfl d_Mo_error_251 h fun s hs h => ?_
    exact ww_vretH (pc := 254) g h hR d_Mo_error_254
  · refine ww_aload_n (pc := 214) g.1 d_Mo_error_214 rfl (lv_at hl 1 rfl) ?_
    refine ww_iconst (pc := 215) g.1 (v := 3) d_Mo_error_215 (by decide) ?_
    refine ww_pI (pc := 216) g (k := 73) cl_Mo (pz rfl (by decide)) (by decide) (Or.inl kw_77) rfl (f := 73) rfl rfl rfl rfl d_Mo_error_216 h fun s hs h => ?_
    exact ww_vretH (pc := 219) g h hR d_Mo_error_219

theorem j_Mo_error_j51 {X : Cx} {q : PL} (g : Gd X y_Mo_error b_Mo_error 5 none 4 93 R_Mo) {o : (Unit) × S1} (hR : Rt X q o.2 none) (l1 : Int32) (l2 : Int32) (s : S1) (ls : Array Slot) (hl : lv_has ls 5 [(0, .ref (q.1 0 0)), (1, vr q 28 l1), (2, .int l2)]) (h : M_Mo_error_j51 l1 l2 s = some o) : WW X q s 51 ls [] := by
  unfold M_Mo_error_j51 at h
  refine ww_iload_n (pc := 51) g.1 d_Mo_error_51 rfl (lv_at hl 2 rfl) ?_
  refine ww_if_lt (pc := 52) (tgt := 103) g.1 d_Mo_error_52 (by decide) h (fun c h => ?_) (fun c h => ?_)
  · refine ww_aload_n (pc := 103) g.1 d_Mo_error_103 rfl (lv_at hl 0 rfl) ?_
    refine ww_aload_nV (pc := 104) g.1 vr_cases d_Mo_error_104 rfl (lv_at hl 1 rfl) ?_
    refine ww_ok h fun cn104 h => ?_
    refine ww_nn cn104 ?_
    refine ww_iconst (pc := 105) g.1 (v := 0) d_Mo_error_105 (by decide) ?_
    obtain ⟨v106, s, hc106, h⟩ := oB_of h
    refine ww_callV (pc := 106) (rest := []) g cv_Mo_leave (Or.inl kw_383) cl_Mo (pz rfl (by decide)) (ct_Mo_leave cn104 hc106) ⟨by decide, by decide⟩ rfl hl.1 (Nat.le_of_ble_eq_true rfl) d_Mo_error_106 rfl ?_
    refine ww_st (st' := []) rfl ?_
    refine ww_aload_nV (pc := 109) g.1 vr_cases d_Mo_error_109 rfl (lv_at hl 1 rfl) ?_
    refine ww_ok h fun cn109 h => ?_
    refine ww_nn cn109 ?_
    refine ww_iconst (pc := 110) g.1 (v := 0) d_Mo_error_110 (by decide) ?_
    refine ww_pI (pc := 111) g (k := 2) cl_Th (pt rfl rfl cn109) (by decide) (Or.inl kw_156) rfl (f := 3586) rfl rfl rfl rfl d_Mo_error_111 h fun s hs h => ?_
    refine ww_aload_nV (pc := 114) g.1 vr_cases d_Mo_error_114 rfl (lv_at hl 1 rfl) ?_
    refine ww_ok h fun cn114 h => ?_
    refine ww_nn cn114 ?_
    refine ww_iconst (pc := 115) g.1 (v := 3) d_Mo_error_115 (by decide) ?_
    refine ww_pI (pc := 116) g (k := 1) cl_Th (pt rfl rfl cn114) (by decide) (Or.inl kw_223) rfl (f := 3585) rfl rfl rfl rfl d_Mo_error_116 h fun s hs h => ?_
    refine ww_aload_nV (pc := 119) g.1 vr_cases d_Mo_error_119 rfl (lv_at hl 1 rfl) ?_
    refine ww_ok h fun cn119 h => ?_
    refine ww_nn cn119 ?_
    refine ww_aload_n (pc := 120) g.1 d_Mo_error_120 rfl (lv_at hl 0 rfl) ?_
    refine ww_gR (pc := 121) g (k := 71) cl_Mo (pz rfl (by decide)) (by decide) (Or.inl kw_90) (f := 71) (t := 76) rfl rfl rfl d_Mo_error_121 ?_
    refine ww_iconst (pc := 124) g.1 (v := 0) d_Mo_error_124 (by decide) ?_
    refine ww_at (pc := 125) g (t := 28) (pz rfl (by decide)) rfl rfl rfl d_Mo_error_125 h fun ca125 h => ?_
    refine ww_acmp_ne (pc := 126) (tgt := 163) g.1 (pt rfl rfl cn119) (pt rfl rfl ca125) d_Mo_error_126 (by decide) h (fun c h => ?_) (fun c h => ?_)
    · refine ww_aload_n (pc := 163) g.1 d_Mo_error_163 rfl (lv_at hl 0 rfl) ?_
      refine ww_aload_nV (pc := 164) g.1 vr_cases d_Mo_error_164 rfl (lv_at hl 1 rfl) ?_
      refine ww_ok h fun cn164 h => ?_
      refine ww_nn cn164 ?_
      obtain ⟨v165, s, hc165, h⟩ := oB_of h
      refine ww_callV (pc := 165) (rest := []) g cv_Mo_back (Or.inl kw_237) cl_Mo (pz rfl (by decide)) (ct_Mo_back cn164 hc165) ⟨by decide, by decide⟩ rfl hl.1 (Nat.le_of_ble_eq_true rfl) d_Mo_error_165 rfl ?_
      refine ww_st (st' := []) rfl ?_
      refine ww_aload_n (pc := 168) g.1 d_Mo_error_168 rfl (lv_at hl 0 rfl) ?_
      refine ww_gV (pc := 169) g (k := 72) cl_Mo (pz rfl (by decide)) (by decide) (Or.inl kw_155) (f := 72) (t := 28) rfl rfl rfl d_Mo_error_169 h fun v169 h => ?_
      refine ww_ok h fun cn169 h => ?_
      refine ww_nn cn169 ?_
      obtain ⟨v172, s, hc172, h⟩ := oB_of h
      refine ww_callV (pc := 172) (rest := []) g cv_Th_top (Or.inl kw_242) cl_Th (pt rfl rfl cn169) (ct_Th_top cn169 hc172) ⟨by decide, by decide⟩ rfl hl.1 (Nat.le_of_ble_eq_true rfl) d_Mo_error_172 rfl ?_
      refine ww_st (st' := [.int v172]) rfl ?_
      refine ww_istore_n (pc := 175) g.1 (lv' := [(3, .int v172), (0, .ref (q.1 0 0)), (1, vr q 28 l1), (2, .int l2)]) d_Mo_error_175 rfl hl (by decide) rfl fun ls hl => ?_
      refine ww_aload_n (pc := 176) g.1 d_Mo_error_176 rfl (lv_at hl 1 rfl) ?_
      refine ww_gV (pc := 177) g (k := 72) cl_Mo (pz rfl (by decide)) (by decide) (Or.inl kw_155) (f := 72) (t := 28) rfl rfl rfl d_Mo_error_177 h fun v177 h => ?_
      refine ww_ok h fun cn177 h => ?_
      refine ww_nn cn177 ?_
      refine ww_gR (pc := 180) g (k := 11) cl_Th (pt rfl rfl cn177) (by decide) (Or.inl kw_157) (f := 3595) (t := 30) rfl rfl rfl d_Mo_error_180 ?_
      refine ww_iload_n (pc := 183) g.1 d_Mo_error_183 rfl (lv_at hl 0 rfl) ?_
      refine ww_ai (pc := 184) g (pt rfl rfl cn177) rfl rfl d_Mo_error_184 h fun v184 h => ?_
      refine ww_iconst (pc := 185) g.1 (v := 3) d_Mo_error_185 (by decide) ?_
      refine ww_icmp_ne (pc := 186) (tgt := 193) g.1 d_Mo_error_186 (by decide) h (fun c h => ?_) (fun c h => ?_)
      · refine ww_iconst (pc := 193) g.1 (v := 0) d_Mo_error_193 (by decide) ?_
        exact j_Mo_error_j194 g hR 0 s ls (lv_sub hl [1] rfl) h
      · refine ww_iconst (pc := 189) g.1 (v := 1) d_Mo_error_189 (by decide) ?_
        refine ww_goto (pc := 190) (tgt := 194) g.1 d_Mo_error_190 (by decide) ?_
        exact j_Mo_error_j194 g hR 1 s ls (lv_sub hl [1] rfl) h
    · refine ww_aload_n (pc := 129) g.1 d_Mo_error_129 rfl (lv_at hl 0 rfl) ?_
      refine ww_iconst (pc := 130) g.1 (v := 2) d_Mo_error_130 (by decide) ?_
      refine ww_pI (pc := 131) g (k := 80) cl_Mo (pz rfl (by decide)) (by decide) (Or.inl kw_238) rfl (f := 80) rfl rfl rfl rfl d_Mo_error_131 h fun s hs h => ?_
      refine ww_aload_n (pc := 134) g.1 d_Mo_error_134 rfl (lv_at hl 0 rfl) ?_
      refine ww_gR (pc := 135) g (k := 79) cl_Mo (pz rfl (by decide)) (by decide) (Or.inl kw_239) (f := 79) (t := 13) rfl rfl rfl d_Mo_error_135 ?_
      refine ww_iconst (pc := 138) g.1 (v := 0) d_Mo_error_138 (by decide) ?_
      refine ww_pI (pc := 139) g (k := 2) (cl_Va (Or.inl ⟨by decide, rfl⟩)) (pz rfl (by decide)) (by decide) (Or.inl kw_185) rfl (f := 1666) rfl rfl rfl rfl d_Mo_error_139 h fun s hs h => ?_
      refine ww_aload_n (pc := 142) g.1 d_Mo_error_142 rfl (lv_at hl 0 rfl) ?_
      refine ww_gR (pc := 143) g (k := 79) cl_Mo (pz rfl (by decide)) (by decide) (Or.inl kw_239) (f := 79) (t := 13) rfl rfl rfl d_Mo_error_143 ?_
      refine ww_aload_n (pc := 146) g.1 d_Mo_error_146 rfl (lv_at hl 0 rfl) ?_
      refine ww_gI (pc := 147) g (k := 64) cl_Mo (pz rfl (by decide)) (by decide) (Or.inl kw_75) (f := 64) rfl rfl d_Mo_error_147 h fun v147 h => ?_
      refine ww_aload_n (pc := 150) g.1 d_Mo_error_150 rfl (lv_at hl 0 rfl) ?_
      refine ww_gL (pc := 151) g (k := 65) cl_Mo (pz rfl (by decide)) (by decide) (Or.inl kw_76) (f := 65) rfl rfl d_Mo_error_151 h fun v151 h => ?_
      obtain ⟨v154, s, hc154, h⟩ := oB_of h
      refine ww_callV (pc := 154) (rest := []) g cv_Va_add (Or.inl kw_193) (cl_Va (Or.inl ⟨by decide, rfl⟩)) (pz rfl (by decide)) (ct_Va_add (Or.inl ⟨by decide, rfl⟩) hc154) ⟨by decide, by decide⟩ rfl hl.1 (Nat.le_of_ble_eq_true rfl) d_Mo_error_154 rfl ?_
      refine ww_st (st' := []) rfl ?_
      refine ww_aload_n (pc := 157) g.1 d_Mo_error_157 rfl (lv_at hl 0 rfl) ?_
      refine ww_iconst (pc := 158) g.1 (v := 0) d_Mo_error_158 (by decide) ?_
      refine ww_pI (pc := 159) g (k := 64) cl_Mo (pz rfl (by decide)) (by decide) (Or.inl kw_75) rfl (f := 64) rfl rfl rfl rfl d_Mo_error_159 h fun s hs h => ?_
      exact ww_vretH (pc := 162) g h hR d_Mo_error_162
  · refine ww_aload_n (pc := 55) g.1 d_Mo_error_55 rfl (lv_at hl 0 rfl) ?_
    refine ww_aload_nV (pc := 56) g.1 vr_cases d_Mo_error_56 rfl (lv_at hl 1 rfl) ?_
    refine ww_ok h fun cn56 h => ?_
    refine ww_nn cn56 ?_
    refine ww_iload_n (pc := 57) g.1 d_Mo_error_57 rfl (lv_at hl 2 rfl) ?_
    refine ww_iconst (pc := 58) g.1 (v := 1) d_Mo_error_58 (by decide) ?_
    refine ww_iadd (pc := 59) g.1 d_Mo_error_59 ?_
    obtain ⟨v60, s, hc60, h⟩ := oB_of h
    refine ww_callV (pc := 60) (rest := []) g cv_Mo_leave (Or.inl kw_383) cl_Mo (pz rfl (by decide)) (ct_Mo_leave cn56 hc60) ⟨by decide, by decide⟩ rfl hl.1 (Nat.le_of_ble_eq_true rfl) d_Mo_error_60 rfl ?_
    refine ww_st (st' := []) rfl ?_
    refine ww_aload_nV (pc := 63) g.1 vr_cases d_Mo_error_63 rfl (lv_at hl 1 rfl) ?_
    refine ww_ok h fun cn63 h => ?_
    refine ww_nn cn63 ?_
    refine ww_iload_n (pc := 64) g.1 d_Mo_error_64 rfl (lv_at hl 2 rfl) ?_
    refine ww_pI (pc := 65) g (k := 2) cl_Th (pt rfl rfl cn63) (by decide) (Or.inl kw_156) rfl (f := 3586) rfl rfl rfl rfl d_Mo_error_65 h fun s hs h => ?_
    refine ww_aload_n (pc := 68) g.1 d_Mo_error_68 rfl (lv_at hl 0 rfl) ?_
    refine ww_gR (pc := 69) g (k := 78) cl_Mo (pz rfl (by decide)) (by decide) (Or.inl kw_184) (f := 78) (t := 10) rfl rfl rfl d_Mo_error_69 ?_
    refine ww_iconst (pc := 72) g.1 (v := 1) d_Mo_error_72 (by decide) ?_
    refine ww_lconst (pc := 73) g.1 (v := 0) d_Mo_error_73 (by decide) ?_
    obtain ⟨v74, s, hc74, h⟩ := oB_of h
    refine ww_callV (pc := 74) (rest := []) g cv_Va_add (Or.inl kw_193) (cl_Va (Or.inl ⟨by decide, rfl⟩)) (pz rfl (by decide)) (ct_Va_add (Or.inl ⟨by decide, rfl⟩) hc74) ⟨by decide, by decide⟩ rfl hl.1 (Nat.le_of_ble_eq_true rfl) d_Mo_error_74 rfl ?_
    refine ww_st (st' := []) rfl ?_
    refine ww_aload_n (pc := 77) g.1 d_Mo_error_77 rfl (lv_at hl 0 rfl) ?_
    refine ww_gR (pc := 78) g (k := 78) cl_Mo (pz rfl (by decide)) (by decide) (Or.inl kw_184) (f := 78) (t := 10) rfl rfl rfl d_Mo_error_78 ?_
    refine ww_aload_n (pc := 81) g.1 d_Mo_error_81 rfl (lv_at hl 0 rfl) ?_
    refine ww_gI (pc := 82) g (k := 64) cl_Mo (pz rfl (by decide)) (by decide) (Or.inl kw_75) (f := 64) rfl rfl d_Mo_error_82 h fun v82 h => ?_
    refine ww_aload_n (pc := 85) g.1 d_Mo_error_85 rfl (lv_at hl 0 rfl) ?_
    refine ww_gL (pc := 86) g (k := 65) cl_Mo (pz rfl (by decide)) (by decide) (Or.inl kw_76) (f := 65) rfl rfl d_Mo_error_86 h fun v86 h => ?_
    obtain ⟨v89, s, hc89, h⟩ := oB_of h
    refine ww_callV (pc := 89) (rest := []) g cv_Va_add (Or.inl kw_193) (cl_Va (Or.inl ⟨by decide, rfl⟩)) (pz rfl (by decide)) (ct_Va_add (Or.inl ⟨by decide, rfl⟩) hc89) ⟨by decide, by decide⟩ rfl hl.1 (Nat.le_of_ble_eq_true rfl) d_Mo_error_89 rfl ?_
    refine ww_st (st' := []) rfl ?_
    refine ww_aload_n (pc := 92) g.1 d_Mo_error_92 rfl (lv_at hl 0 rfl) ?_
    refine ww_iconst (pc := 93) g.1 (v := 0) d_Mo_error_93 (by decide) ?_
    refine ww_pI (pc := 94) g (k := 64) cl_Mo (pz rfl (by decide)) (by decide) (Or.inl kw_75) rfl (f := 64) rfl rfl rfl rfl d_Mo_error_94 h fun s hs h => ?_
    refine ww_aload_n (pc := 97) g.1 d_Mo_error_97 rfl (lv_at hl 0 rfl) ?_
    refine ww_iconst (pc := 98) g.1 (v := 2) d_Mo_error_98 (by decide) ?_
    refine ww_pI (pc := 99) g (k := 73) cl_Mo (pz rfl (by decide)) (by decide) (Or.inl kw_77) rfl (f := 73) rfl rfl rfl rfl d_Mo_error_99 h fun s hs h => ?_
    exact ww_vretH (pc := 102) g h hR d_Mo_error_102

theorem ct_Mo_error {l : Launch} {P : PP} {q : PL} {s s' : S1}  {r : Unit} (h : M_Mo_error s = some (r, s')) : Ct l y_Mo_error b_Mo_error 5 none 4 93 P q s [.ref (q.1 0 0)] none q s' := by
  refine ct_of (by decide) (Nat.le_of_ble_eq_true rfl) fun X ls eP el g hR hl => ?_
  have hR : Rt X q ((r, s') : Unit × S1).2 none := hR
  have hl : lv_has ls 5 [(0, .ref (q.1 0 0))] := hl
  generalize (r, s') = o at h hR
  unfold M_Mo_error at h
  refine ww_aload_n (pc := 0) g.1 d_Mo_error_0 rfl (lv_at hl 0 rfl) ?_
  refine ww_iconst (pc := 1) g.1 (v := 0) d_Mo_error_1 (by decide) ?_
  refine ww_pI (pc := 2) g (k := 73) cl_Mo (pz rfl (by decide)) (by decide) (Or.inl kw_77) rfl (f := 73) rfl rfl rfl rfl d_Mo_error_2 h fun s hs h => ?_
  refine ww_aload_n (pc := 5) g.1 d_Mo_error_5 rfl (lv_at hl 0 rfl) ?_
  refine ww_gR (pc := 6) g (k := 77) cl_Mo (pz rfl (by decide)) (by decide) (Or.inl kw_188) (f := 77) (t := 7) rfl rfl rfl d_Mo_error_6 ?_
  refine ww_iconst (pc := 9) g.1 (v := 0) d_Mo_error_9 (by decide) ?_
  refine ww_pI (pc := 10) g (k := 2) (cl_Va (Or.inl ⟨by decide, rfl⟩)) (pz rfl (by decide)) (by decide) (Or.inl kw_185) rfl (f := 898) rfl rfl rfl rfl d_Mo_error_10 h fun s hs h => ?_
  refine ww_aload_n (pc := 13) g.1 d_Mo_error_13 rfl (lv_at hl 0 rfl) ?_
  refine ww_gR (pc := 14) g (k := 78) cl_Mo (pz rfl (by decide)) (by decide) (Or.inl kw_184) (f := 78) (t := 10) rfl rfl rfl d_Mo_error_14 ?_
  refine ww_iconst (pc := 17) g.1 (v := 0) d_Mo_error_17 (by decide) ?_
  refine ww_pI (pc := 18) g (k := 2) (cl_Va (Or.inl ⟨by decide, rfl⟩)) (pz rfl (by decide)) (by decide) (Or.inl kw_185) rfl (f := 1282) rfl rfl rfl rfl d_Mo_error_18 h fun s hs h => ?_
  refine ww_aload_n (pc := 21) g.1 d_Mo_error_21 rfl (lv_at hl 0 rfl) ?_
  refine ww_gV (pc := 22) g (k := 72) cl_Mo (pz rfl (by decide)) (by decide) (Or.inl kw_155) (f := 72) (t := 28) rfl rfl rfl d_Mo_error_22 h fun v22 h => ?_
  refine ww_astore_nV (pc := 25) g.1 vr_cases (lv' := [(1, vr q 28 v22), (0, .ref (q.1 0 0))]) d_Mo_error_25 rfl hl (by decide) rfl fun ls hl => ?_
  refine ww_aload_nV (pc := 26) g.1 vr_cases d_Mo_error_26 rfl (lv_at hl 0 rfl) ?_
  refine ww_ok h fun cn26 h => ?_
  refine ww_nn cn26 ?_
  obtain ⟨v27, s, hc27, h⟩ := oB_of h
  refine ww_callV (pc := 27) (rest := []) g cv_Th_top (Or.inl kw_242) cl_Th (pt rfl rfl cn26) (ct_Th_top cn26 hc27) ⟨by decide, by decide⟩ rfl hl.1 (Nat.le_of_ble_eq_true rfl) d_Mo_error_27 rfl ?_
  refine ww_st (st' := [.int v27]) rfl ?_
  refine ww_istore_n (pc := 30) g.1 (lv' := [(2, .int v27), (1, vr q 28 v22), (0, .ref (q.1 0 0))]) d_Mo_error_30 rfl hl (by decide) (by simp [vr_cat]) fun ls hl => ?_
  obtain ⟨e31, s1, hw, h⟩ := oB_of h
  refine oW_rule (Wh := fun (x : Int32 × Int32) (s : S1) => ∀ ls : Array Slot, lv_has ls 5 [(0, .ref (q.1 0 0)), (1, vr q 28 x.1), (2, .int x.2)] → WW X q s 31 ls []) (We := fun (e : (Int32 × Int32)) (s : S1) => ∀ ls : Array Slot, lv_has ls 5 [(0, .ref (q.1 0 0)), (1, vr q 28 e.1), (2, .int e.2)] → WW X q s 51 ls []) (fun x s o hb hc => lp_Mo_error_L31 (q := q) g x s o hb hc) hw ?_ ls (lv_sub hl [2, 1, 0] rfl)
  clear hw hl
  clear ls
  intro ls hl
  generalize s1 = s at h ⊢
  exact j_Mo_error_j51 g hR e31.1 e31.2 s ls (lv_sub hl [0, 1, 2] rfl) h

theorem kw_421 : Cond.methodLink R_Mo 947 y_Mo_expect ∈ wA := kinm (show _ ∈ tables_1 from (List.mem_append_right _ (List.mem_append_right _ (List.mem_append_right _ (List.mem_append_right _ (List.mem_append_right _ (List.mem_append_right _ (List.mem_append_right _ (List.mem_append_right _ (List.mem_append_right _ (List.mem_append_right _ (List.mem_append_right _ (List.mem_append_right _ (List.mem_append_left _ (List.mem_of_getElem? (l := tables_1_13) (i := 99) (by decide +kernel)))))))))))))))) (by decide +kernel)
theorem kw_422 : Cond.methodLink R_Mo 950 y_Mo_callGot ∈ wA := kinm (show _ ∈ tables_1 from (List.mem_append_right _ (List.mem_append_right _ (List.mem_append_right _ (List.mem_append_right _ (List.mem_append_right _ (List.mem_append_right _ (List.mem_append_right _ (List.mem_append_right _ (List.mem_append_right _ (List.mem_append_right _ (List.mem_append_right _ (List.mem_append_right _ (List.mem_append_left _ (List.mem_of_getElem? (l := tables_1_13) (i := 151) (by decide +kernel)))))))))))))))) (by decide +kernel)
theorem kw_423 : Cond.instanceMethod y_Mo_index ∈ wA := kinm (show _ ∈ tables_1 from (List.mem_append_right _ (List.mem_append_right _ (List.mem_append_right _ (List.mem_append_right _ (List.mem_append_right _ (List.mem_append_right _ (List.mem_append_right _ (List.mem_append_right _ (List.mem_append_right _ (List.mem_append_right _ (List.mem_append_right _ (List.mem_append_right _ (List.mem_append_left _ (List.mem_of_getElem? (l := tables_1_13) (i := 149) (by decide +kernel)))))))))))))))) (by decide +kernel)
theorem kw_424 : Cond.selects R_Mo y_Mo_index y_Mo_index ∈ wA := kinp 208 (by decide +kernel) (by decide +kernel)
def M_Mo_index_L9 : (Int32 × Int64 × Int32 × Int32 × Int64 × Int32) → M ((Int32 × Int64 × Int32 × Int32 × Int64 × Int32) ⊕ ((Unit) ⊕ (Int32 × Int32 × Int64) ⊕ (Int32 × Int64 × Int32 × Int32 × Int64) ⊕ (Unit))) := fun x =>
  oC (x.2.2.2.1 = 5)
    (oB (M_Mo_raw x.2.2.2.2.1.toInt32 x.1 x.2.1) fun v30 =>
    oB (oGI 66 0) fun v36 =>
    oB (oGL 67 0) fun v42 =>
    oC (v30 = 0)
      (oB (M_Mo_meta x.2.2.2.1 x.2.2.2.2.1 0) fun v58 =>
      oC (v58 = 0)
        (oR (Sum.inr (Sum.inr (Sum.inl (x.2.2.1, v36, v42)))))
        (oB (oGI 66 0) fun v102 =>
        oC (v102 = 6)
          (oR (Sum.inr (Sum.inr (Sum.inr (Sum.inl (x.1, x.2.1, x.2.2.1, x.2.2.2.1, x.2.2.2.2.1))))))
          (oC (x.2.2.2.2.2 = 100)
            (oR (Sum.inr (Sum.inr (Sum.inr (Sum.inr ())))))
            (oB (oGI 66 0) fun v150 =>
            oB (oGL 67 0) fun v156 =>
            oR (Sum.inl (x.1, x.2.1, x.2.2.1, v150, v156, x.2.2.2.2.2 + 1))))))
      (oR (Sum.inr (Sum.inr (Sum.inl (x.2.2.1, v36, v42))))))
    (oR (Sum.inr (Sum.inl ())))

def M_Mo_index_j64 (l7 : Int32) (l13 : Int32) (l14 : Int64) : M (Unit) :=
  oB (oGI 72 0) fun v65 =>
  oB (oK ((0 : Int32) ≤ v65 ∧ v65 < 33)) fun _ =>
  oB (M_Th_top v65) fun v68 =>
  oB (oGI 72 0) fun v74 =>
  oB (oK ((0 : Int32) ≤ v74 ∧ v74 < 33)) fun _ =>
  oB (oGI 72 0) fun v81 =>
  oB (oK ((0 : Int32) ≤ v81 ∧ v81 < 33)) fun _ =>
  oB (oAI 33 201 v81 v68) fun v89 =>
  oB (M_Va_set 19 v74 (v89 + l7) l13 l14) fun _ =>
  oR ()

def M_Mo_index (l1 : Int32) (l2 : Int64) (l4 : Int32) (l5 : Int64) (l7 : Int32) : M (Unit) :=
  oB (oW M_Mo_index_L9 (l4, l5, l7, l1, l2, 1)) fun e9 =>
  Sum.elim
    (fun y9_15 : Unit =>
      oB (M_Mo_raise 2) fun v17 =>
      oR ())
    (Sum.elim
      (fun y9_64 : Int32 × Int32 × Int64 =>
        M_Mo_index_j64 y9_64.1 y9_64.2.1 y9_64.2.2)
      (Sum.elim
        (fun y9_110 : Int32 × Int64 × Int32 × Int32 × Int64 =>
          oB (M_Mo_arguments y9_110.2.2.2.1 y9_110.2.2.2.2 y9_110.1 y9_110.2.1) fun _ =>
          oB (M_Mo_expect 1 y9_110.2.2.1 1) fun _ =>
          oB (M_Mo_callGot) fun _ =>
          oR ())
        (fun y9_142 : Unit =>
          oB (M_Mo_raise 4) fun v144 =>
          oR ()))) e9

theorem cv_Mo_index : CV y_Mo_index b_Mo_index 17 none 5 := ⟨kw_423, kw_424, kw_17, k_Mo_index, by decide +kernel⟩
theorem lp_Mo_index_L9 {X : Cx} {q : PL} (g : Gd X y_Mo_index b_Mo_index 17 none 5 123 R_Mo) (x : Int32 × Int64 × Int32 × Int32 × Int64 × Int32) (s : S1) (o : ((Int32 × Int64 × Int32 × Int32 × Int64 × Int32) ⊕ ((Unit) ⊕ (Int32 × Int32 × Int64) ⊕ (Int32 × Int64 × Int32 × Int32 × Int64) ⊕ (Unit))) × S1) (h : M_Mo_index_L9 x s = some o) (hR : (Sum.elim (fun y : Int32 × Int64 × Int32 × Int32 × Int64 × Int32 => ∀ ls : Array Slot, lv_has ls 17 [(0, .ref (q.1 0 0)), (4, .int y.1), (5, .long y.2.1), (7, .int y.2.2.1), (8, .int y.2.2.2.1), (9, .long y.2.2.2.2.1), (11, .int y.2.2.2.2.2)] → WW X q o.2 9 ls []) (Sum.elim (fun y : Unit => ∀ ls : Array Slot, lv_has ls 17 [(0, .ref (q.1 0 0))] → WW X q o.2 15 ls []) (Sum.elim (fun y : Int32 × Int32 × Int64 => ∀ ls : Array Slot, lv_has ls 17 [(0, .ref (q.1 0 0)), (7, .int y.1), (13, .int y.2.1), (14, .long y.2.2)] → WW X q o.2 64 ls []) (Sum.elim (fun y : Int32 × Int64 × Int32 × Int32 × Int64 => ∀ ls : Array Slot, lv_has ls 17 [(0, .ref (q.1 0 0)), (4, .int y.1), (5, .long y.2.1), (7, .int y.2.2.1), (8, .int y.2.2.2.1), (9, .long y.2.2.2.2)] → WW X q o.2 110 ls []) (fun y : Unit => ∀ ls : Array Slot, lv_has ls 17 [(0, .ref (q.1 0 0))] → WW X q o.2 142 ls [])))) o.1)) : ∀ ls : Array Slot, lv_has ls 17 [(0, .ref (q.1 0 0)), (4, .int x.1), (5, .long x.2.1), (7, .int x.2.2.1), (8, .int x.2.2.2.1), (9, .long x.2.2.2.2.1), (11, .int x.2.2.2.2.2)] → WW X q s 9 ls [] := by
  intro ls hl
  unfold M_Mo_index_L9 at h
  refine ww_iload (pc := 9) g.1 d_Mo_index_9 (lv_at hl 4 rfl) ?_
  refine ww_iconst (pc := 11) g.1 (v := 5) d_Mo_index_11 (by decide) ?_
  refine ww_icmp_eq (pc := 12) (tgt := 22) g.1 d_Mo_index_12 (by decide) h (fun c h => ?_) (fun c h => ?_)
  · refine ww_aload_n (pc := 22) g.1 d_Mo_index_22 rfl (lv_at hl 0 rfl) ?_
    refine ww_lload (pc := 23) g.1 d_Mo_index_23 (lv_at hl 5 rfl) ?_
    refine ww_l2i (pc := 25) g.1 (v := x.2.2.2.2.1.toInt32) d_Mo_index_25 rfl ?_
    refine ww_iload (pc := 26) g.1 d_Mo_index_26 (lv_at hl 1 rfl) ?_
    refine ww_lload (pc := 28) g.1 d_Mo_index_28 (lv_at hl 2 rfl) ?_
    obtain ⟨v30, s, hc30, h⟩ := oB_of h
    refine ww_callV (pc := 30) (rest := []) g cv_Mo_raw (Or.inl kw_362) cl_Mo (pz rfl (by decide)) (ct_Mo_raw hc30) ⟨by decide, by decide⟩ rfl hl.1 (Nat.le_of_ble_eq_true rfl) d_Mo_index_30 rfl ?_
    refine ww_st (st' := [.int v30]) rfl ?_
    refine ww_istore (pc := 33) g.1 (lv' := [(12, .int v30), (0, .ref (q.1 0 0)), (4, .int x.1), (5, .long x.2.1), (7, .int x.2.2.1), (8, .int x.2.2.2.1), (9, .long x.2.2.2.2.1), (11, .int x.2.2.2.2.2)]) d_Mo_index_33 hl (by decide) rfl fun ls hl => ?_
    refine ww_aload_n (pc := 35) g.1 d_Mo_index_35 rfl (lv_at hl 1 rfl) ?_
    refine ww_gI (pc := 36) g (k := 66) cl_Mo (pz rfl (by decide)) (by decide) (Or.inl kw_94) (f := 66) rfl rfl d_Mo_index_36 h fun v36 h => ?_
    refine ww_istore (pc := 39) g.1 (lv' := [(13, .int v36), (12, .int v30), (0, .ref (q.1 0 0)), (4, .int x.1), (5, .long x.2.1), (7, .int x.2.2.1), (8, .int x.2.2.2.1), (9, .long x.2.2.2.2.1), (11, .int x.2.2.2.2.2)]) d_Mo_index_39 hl (by decide) rfl fun ls hl => ?_
    refine ww_aload_n (pc := 41) g.1 d_Mo_index_41 rfl (lv_at hl 2 rfl) ?_
    refine ww_gL (pc := 42) g (k := 67) cl_Mo (pz rfl (by decide)) (by decide) (Or.inl kw_96) (f := 67) rfl rfl d_Mo_index_42 h fun v42 h => ?_
    refine ww_lstore (pc := 45) g.1 (lv' := [(14, .long v42), (13, .int v36), (12, .int v30), (0, .ref (q.1 0 0)), (4, .int x.1), (5, .long x.2.1), (7, .int x.2.2.1), (8, .int x.2.2.2.1), (9, .long x.2.2.2.2.1), (11, .int x.2.2.2.2.2)]) d_Mo_index_45 hl (by decide) rfl fun ls hl => ?_
    refine ww_iload (pc := 47) g.1 d_Mo_index_47 (lv_at hl 2 rfl) ?_
    refine ww_if_ne (pc := 49) (tgt := 64) g.1 d_Mo_index_49 (by decide) h (fun c h => ?_) (fun c h => ?_)
    · rw [oR_eq h] at hR
      exact hR ls (lv_sub hl [3, 6, 1, 0] rfl)
    · refine ww_aload_n (pc := 52) g.1 d_Mo_index_52 rfl (lv_at hl 3 rfl) ?_
      refine ww_iload (pc := 53) g.1 d_Mo_index_53 (lv_at hl 7 rfl) ?_
      refine ww_lload (pc := 55) g.1 d_Mo_index_55 (lv_at hl 8 rfl) ?_
      refine ww_iconst (pc := 57) g.1 (v := 0) d_Mo_index_57 (by decide) ?_
      obtain ⟨v58, s, hc58, h⟩ := oB_of h
      refine ww_callV (pc := 58) (rest := []) g cv_Mo_meta (Or.inl kw_415) cl_Mo (pz rfl (by decide)) (ct_Mo_meta hc58) ⟨by decide, by decide⟩ rfl hl.1 (Nat.le_of_ble_eq_true rfl) d_Mo_index_58 rfl ?_
      refine ww_st (st' := [.int v58]) rfl ?_
      refine ww_if_ne (pc := 61) (tgt := 101) g.1 d_Mo_index_61 (by decide) h (fun c h => ?_) (fun c h => ?_)
      · refine ww_aload_n (pc := 101) g.1 d_Mo_index_101 rfl (lv_at hl 3 rfl) ?_
        refine ww_gI (pc := 102) g (k := 66) cl_Mo (pz rfl (by decide)) (by decide) (Or.inl kw_94) (f := 66) rfl rfl d_Mo_index_102 h fun v102 h => ?_
        refine ww_bipush (pc := 105) g.1 (v := 6) d_Mo_index_105 (by decide) ?_
        refine ww_icmp_ne (pc := 107) (tgt := 135) g.1 d_Mo_index_107 (by decide) h (fun c h => ?_) (fun c h => ?_)
        · refine ww_iload (pc := 135) g.1 d_Mo_index_135 (lv_at hl 9 rfl) ?_
          refine ww_bipush (pc := 137) g.1 (v := 100) d_Mo_index_137 (by decide) ?_
          refine ww_icmp_ne (pc := 139) (tgt := 149) g.1 d_Mo_index_139 (by decide) h (fun c h => ?_) (fun c h => ?_)
          · refine ww_aload_n (pc := 149) g.1 d_Mo_index_149 rfl (lv_at hl 3 rfl) ?_
            refine ww_gI (pc := 150) g (k := 66) cl_Mo (pz rfl (by decide)) (by decide) (Or.inl kw_94) (f := 66) rfl rfl d_Mo_index_150 h fun v150 h => ?_
            refine ww_istore (pc := 153) g.1 (lv' := [(8, .int v150), (14, .long v42), (13, .int v36), (12, .int v30), (0, .ref (q.1 0 0)), (4, .int x.1), (5, .long x.2.1), (7, .int x.2.2.1), (9, .long x.2.2.2.2.1), (11, .int x.2.2.2.2.2)]) d_Mo_index_153 hl (by decide) rfl fun ls hl => ?_
            refine ww_aload_n (pc := 155) g.1 d_Mo_index_155 rfl (lv_at hl 4 rfl) ?_
            refine ww_gL (pc := 156) g (k := 67) cl_Mo (pz rfl (by decide)) (by decide) (Or.inl kw_96) (f := 67) rfl rfl d_Mo_index_156 h fun v156 h => ?_
            refine ww_lstore (pc := 159) g.1 (lv' := [(9, .long v156), (8, .int v150), (14, .long v42), (13, .int v36), (12, .int v30), (0, .ref (q.1 0 0)), (4, .int x.1), (5, .long x.2.1), (7, .int x.2.2.1), (11, .int x.2.2.2.2.2)]) d_Mo_index_159 hl (by decide) rfl fun ls hl => ?_
            refine ww_iinc (pc := 161) g.1 (v := x.2.2.2.2.2 + 1) (lv' := [(11, .int (x.2.2.2.2.2 + 1)), (9, .long v156), (8, .int v150), (14, .long v42), (13, .int v36), (12, .int v30), (0, .ref (q.1 0 0)), (4, .int x.1), (5, .long x.2.1), (7, .int x.2.2.1)]) d_Mo_index_161 hl (k := 9) rfl (by rfl) (by decide) rfl fun ls hl => ?_
            refine ww_goto (pc := 164) (tgt := 9) g.1 d_Mo_index_164 (by decide) ?_
            rw [oR_eq h] at hR
            exact hR ls (lv_sub hl [6, 7, 8, 9, 2, 1, 0] rfl)
          · rw [oR_eq h] at hR
            exact hR ls (lv_sub hl [3] rfl)
        · rw [oR_eq h] at hR
          exact hR ls (lv_sub hl [3, 4, 5, 6, 7, 8] rfl)
      · rw [oR_eq h] at hR
        exact hR ls (lv_sub hl [3, 6, 1, 0] rfl)
  · rw [oR_eq h] at hR
    exact hR ls (lv_sub hl [0] rfl)

theorem j_Mo_index_j64 {X : Cx} {q : PL} (g : Gd X y_Mo_index b_Mo_index 17 none 5 123 R_Mo) {o : (Unit) × S1} (hR : Rt X q o.2 none) (l7 : Int32) (l13 : Int32) (l14 : Int64) (s : S1) (ls : Array Slot) (hl : lv_has ls 17 [(0, .ref (q.1 0 0)), (7, .int l7), (13, .int l13), (14, .long l14)]) (h : M_Mo_index_j64 l7 l13 l14 s = some o) : WW X q s 64 ls [] := by
  unfold M_Mo_index_j64 at h
  refine ww_aload_n (pc := 64) g.1 d_Mo_index_64 rfl (lv_at hl 0 rfl) ?_
  refine ww_gV (pc := 65) g (k := 72) cl_Mo (pz rfl (by decide)) (by decide) (Or.inl kw_155) (f := 72) (t := 28) rfl rfl rfl d_Mo_index_65 h fun v65 h => ?_
  refine ww_ok h fun cn65 h => ?_
  refine ww_nn cn65 ?_
  obtain ⟨v68, s, hc68, h⟩ := oB_of h
  refine ww_callV (pc := 68) (rest := []) g cv_Th_top (Or.inl kw_242) cl_Th (pt rfl rfl cn65) (ct_Th_top cn65 hc68) ⟨by decide, by decide⟩ rfl hl.1 (Nat.le_of_ble_eq_true rfl) d_Mo_index_68 rfl ?_
  refine ww_st (st' := [.int v68]) rfl ?_
  refine ww_istore (pc := 71) g.1 (lv' := [(16, .int v68), (0, .ref (q.1 0 0)), (7, .int l7), (13, .int l13), (14, .long l14)]) d_Mo_index_71 hl (by decide) rfl fun ls hl => ?_
  refine ww_aload_n (pc := 73) g.1 d_Mo_index_73 rfl (lv_at hl 1 rfl) ?_
  refine ww_gV (pc := 74) g (k := 72) cl_Mo (pz rfl (by decide)) (by decide) (Or.inl kw_155) (f := 72) (t := 28) rfl rfl rfl d_Mo_index_74 h fun v74 h => ?_
  refine ww_ok h fun cn74 h => ?_
  refine ww_nn cn74 ?_
  refine ww_gR (pc := 77) g (k := 7) cl_Th (pt rfl rfl cn74) (by decide) (Or.inl kw_91) (f := 3591) (t := 19) rfl rfl rfl d_Mo_index_77 ?_
  refine ww_aload_n (pc := 80) g.1 d_Mo_index_80 rfl (lv_at hl 1 rfl) ?_
  refine ww_gV (pc := 81) g (k := 72) cl_Mo (pz rfl (by decide)) (by decide) (Or.inl kw_155) (f := 72) (t := 28) rfl rfl rfl d_Mo_index_81 h fun v81 h => ?_
  refine ww_ok h fun cn81 h => ?_
  refine ww_nn cn81 ?_
  refine ww_gR (pc := 84) g (k := 14) cl_Th (pt rfl rfl cn81) (by decide) (Or.inl kw_260) (f := 3598) (t := 33) rfl rfl rfl d_Mo_index_84 ?_
  refine ww_iload (pc := 87) g.1 d_Mo_index_87 (lv_at hl 0 rfl) ?_
  refine ww_ai (pc := 89) g (pt rfl rfl cn81) rfl rfl d_Mo_index_89 h fun v89 h => ?_
  refine ww_iload (pc := 90) g.1 d_Mo_index_90 (lv_at hl 2 rfl) ?_
  refine ww_iadd (pc := 92) g.1 d_Mo_index_92 ?_
  refine ww_iload (pc := 93) g.1 d_Mo_index_93 (lv_at hl 3 rfl) ?_
  refine ww_lload (pc := 95) g.1 d_Mo_index_95 (lv_at hl 4 rfl) ?_
  obtain ⟨v97, s, hc97, h⟩ := oB_of h
  refine ww_callV (pc := 97) (rest := []) g cv_Va_set (Or.inl kw_101) (cl_Va (Or.inr ⟨by decide, cn74⟩)) (pt rfl rfl cn74) (ct_Va_set (Or.inr ⟨by decide, cn74⟩) hc97) ⟨by decide, by decide⟩ rfl hl.1 (Nat.le_of_ble_eq_true rfl) d_Mo_index_97 rfl ?_
  refine ww_st (st' := []) rfl ?_
  exact ww_vretH (pc := 100) g h hR d_Mo_index_100

theorem ct_Mo_index {l : Launch} {P : PP} {q : PL} {s s' : S1} {l1 : Int32} {l2 : Int64} {l4 : Int32} {l5 : Int64} {l7 : Int32} {r : Unit} (h : M_Mo_index l1 l2 l4 l5 l7 s = some (r, s')) : Ct l y_Mo_index b_Mo_index 17 none 5 123 P q s [.ref (q.1 0 0), .int l1, .long l2, .int l4, .long l5, .int l7] none q s' := by
  refine ct_of (by decide) (Nat.le_of_ble_eq_true rfl) fun X ls eP el g hR hl => ?_
  have hR : Rt X q ((r, s') : Unit × S1).2 none := hR
  have hl : lv_has ls 17 [(0, .ref (q.1 0 0)), (1, .int l1), (2, .long l2), (4, .int l4), (5, .long l5), (7, .int l7)] := hl
  generalize (r, s') = o at h hR
  unfold M_Mo_index at h
  refine ww_iload_n (pc := 0) g.1 d_Mo_index_0 rfl (lv_at hl 1 rfl) ?_
  refine ww_istore (pc := 1) g.1 (lv' := [(8, .int l1), (0, .ref (q.1 0 0)), (1, .int l1), (2, .long l2), (4, .int l4), (5, .long l5), (7, .int l7)]) d_Mo_index_1 hl (by decide) rfl fun ls hl => ?_
  refine ww_lload_n (pc := 3) g.1 d_Mo_index_3 rfl (lv_at hl 3 rfl) ?_
  refine ww_lstore (pc := 4) g.1 (lv' := [(9, .long l2), (8, .int l1), (0, .ref (q.1 0 0)), (1, .int l1), (2, .long l2), (4, .int l4), (5, .long l5), (7, .int l7)]) d_Mo_index_4 hl (by decide) rfl fun ls hl => ?_
  refine ww_iconst (pc := 6) g.1 (v := 1) d_Mo_index_6 (by decide) ?_
  refine ww_istore (pc := 7) g.1 (lv' := [(11, .int 1), (9, .long l2), (8, .int l1), (0, .ref (q.1 0 0)), (1, .int l1), (2, .long l2), (4, .int l4), (5, .long l5), (7, .int l7)]) d_Mo_index_7 hl (by decide) rfl fun ls hl => ?_
  obtain ⟨e9, s1, hw, h⟩ := oB_of h
  refine oW_rule (Wh := fun (x : Int32 × Int64 × Int32 × Int32 × Int64 × Int32) (s : S1) => ∀ ls : Array Slot, lv_has ls 17 [(0, .ref (q.1 0 0)), (4, .int x.1), (5, .long x.2.1), (7, .int x.2.2.1), (8, .int x.2.2.2.1), (9, .long x.2.2.2.2.1), (11, .int x.2.2.2.2.2)] → WW X q s 9 ls []) (We := fun (e : (Unit) ⊕ (Int32 × Int32 × Int64) ⊕ (Int32 × Int64 × Int32 × Int32 × Int64) ⊕ (Unit)) (s : S1) => (Sum.elim (fun y : Unit => ∀ ls : Array Slot, lv_has ls 17 [(0, .ref (q.1 0 0))] → WW X q s 15 ls []) (Sum.elim (fun y : Int32 × Int32 × Int64 => ∀ ls : Array Slot, lv_has ls 17 [(0, .ref (q.1 0 0)), (7, .int y.1), (13, .int y.2.1), (14, .long y.2.2)] → WW X q s 64 ls []) (Sum.elim (fun y : Int32 × Int64 × Int32 × Int32 × Int64 => ∀ ls : Array Slot, lv_has ls 17 [(0, .ref (q.1 0 0)), (4, .int y.1), (5, .long y.2.1), (7, .int y.2.2.1), (8, .int y.2.2.2.1), (9, .long y.2.2.2.2)] → WW X q s 110 ls []) (fun y : Unit => ∀ ls : Array Slot, lv_has ls 17 [(0, .ref (q.1 0 0))] → WW X q s 142 ls [])))) e) (fun x s o hb hc => lp_Mo_index_L9 (q := q) g x s o hb hc) hw ?_ ls (lv_sub hl [3, 6, 7, 8, 2, 1, 0] rfl)
  clear hw hl
  clear ls
  generalize s1 = s at h ⊢
  rcases e9 with y9_15 | y9_64 | y9_110 | y9_142
  · intro ls hl
    dsimp only [Sum.elim_inl, Sum.elim_inr] at h
    refine ww_aload_n (pc := 15) g.1 d_Mo_index_15 rfl (lv_at hl 0 rfl) ?_
    refine ww_iconst (pc := 16) g.1 (v := 2) d_Mo_index_16 (by decide) ?_
    obtain ⟨v17, s, hc17, h⟩ := oB_of h
    refine ww_callV (pc := 17) (rest := []) g cv_Mo_raise (Or.inl kw_162) cl_Mo (pz rfl (by decide)) (ct_Mo_raise hc17) ⟨by decide, by decide⟩ rfl hl.1 (Nat.le_of_ble_eq_true rfl) d_Mo_index_17 rfl ?_
    refine ww_st (st' := [.int v17]) rfl ?_
    refine ww_pop (pc := 20) g.1 d_Mo_index_20 rfl ?_
    exact ww_vretH (pc := 21) g h hR d_Mo_index_21
  · intro ls hl
    dsimp only [Sum.elim_inl, Sum.elim_inr] at h
    exact j_Mo_index_j64 g hR y9_64.1 y9_64.2.1 y9_64.2.2 s ls (lv_sub hl [0, 1, 2, 3] rfl) h
  · intro ls hl
    dsimp only [Sum.elim_inl, Sum.elim_inr] at h
    refine ww_aload_n (pc := 110) g.1 d_Mo_index_110 rfl (lv_at hl 0 rfl) ?_
    refine ww_iload (pc := 111) g.1 d_Mo_index_111 (lv_at hl 4 rfl) ?_
    refine ww_lload (pc := 113) g.1 d_Mo_index_113 (lv_at hl 5 rfl) ?_
    refine ww_iload (pc := 115) g.1 d_Mo_index_115 (lv_at hl 1 rfl) ?_
    refine ww_lload (pc := 117) g.1 d_Mo_index_117 (lv_at hl 2 rfl) ?_
    obtain ⟨v119, s, hc119, h⟩ := oB_of h
    refine ww_callV (pc := 119) (rest := []) g cv_Mo_arguments (Or.inl kw_416) cl_Mo (pz rfl (by decide)) (ct_Mo_arguments hc119) ⟨by decide, by decide⟩ rfl hl.1 (Nat.le_of_ble_eq_true rfl) d_Mo_index_119 rfl ?_
    refine ww_st (st' := []) rfl ?_
    refine ww_aload_n (pc := 122) g.1 d_Mo_index_122 rfl (lv_at hl 0 rfl) ?_
    refine ww_iconst (pc := 123) g.1 (v := 1) d_Mo_index_123 (by decide) ?_
    refine ww_iload (pc := 124) g.1 d_Mo_index_124 (lv_at hl 3 rfl) ?_
    refine ww_iconst (pc := 126) g.1 (v := 1) d_Mo_index_126 (by decide) ?_
    obtain ⟨v127, s, hc127, h⟩ := oB_of h
    refine ww_callV (pc := 127) (rest := []) g cv_Mo_expect (Or.inl kw_421) cl_Mo (pz rfl (by decide)) (ct_Mo_expect hc127) ⟨by decide, by decide⟩ rfl hl.1 (Nat.le_of_ble_eq_true rfl) d_Mo_index_127 rfl ?_
    refine ww_st (st' := []) rfl ?_
    refine ww_aload_n (pc := 130) g.1 d_Mo_index_130 rfl (lv_at hl 0 rfl) ?_
    obtain ⟨v131, s, hc131, h⟩ := oB_of h
    refine ww_callV (pc := 131) (rest := []) g cv_Mo_callGot (Or.inl kw_422) cl_Mo (pz rfl (by decide)) (ct_Mo_callGot hc131) ⟨by decide, by decide⟩ rfl hl.1 (Nat.le_of_ble_eq_true rfl) d_Mo_index_131 rfl ?_
    refine ww_st (st' := []) rfl ?_
    exact ww_vretH (pc := 134) g h hR d_Mo_index_134
  · intro ls hl
    dsimp only [Sum.elim_inl, Sum.elim_inr] at h
    refine ww_aload_n (pc := 142) g.1 d_Mo_index_142 rfl (lv_at hl 0 rfl) ?_
    refine ww_iconst (pc := 143) g.1 (v := 4) d_Mo_index_143 (by decide) ?_
    obtain ⟨v144, s, hc144, h⟩ := oB_of h
    refine ww_callV (pc := 144) (rest := []) g cv_Mo_raise (Or.inl kw_162) cl_Mo (pz rfl (by decide)) (ct_Mo_raise hc144) ⟨by decide, by decide⟩ rfl hl.1 (Nat.le_of_ble_eq_true rfl) d_Mo_index_144 rfl ?_
    refine ww_st (st' := [.int v144]) rfl ?_
    refine ww_pop (pc := 147) g.1 d_Mo_index_147 rfl ?_
    exact ww_vretH (pc := 148) g h hR d_Mo_index_148

theorem kw_425 : Cond.methodLink R_Mo 929 y_Mo_rk_ ∈ wA := kinm (show _ ∈ tables_1 from (List.mem_append_right _ (List.mem_append_right _ (List.mem_append_right _ (List.mem_append_right _ (List.mem_append_right _ (List.mem_append_right _ (List.mem_append_right _ (List.mem_append_right _ (List.mem_append_right _ (List.mem_append_right _ (List.mem_append_right _ (List.mem_append_right _ (List.mem_append_left _ (List.mem_of_getElem? (l := tables_1_13) (i := 143) (by decide +kernel)))))))))))))))) (by decide +kernel)
theorem kw_426 : Cond.methodLink R_Mo 932 y_Mo_index ∈ wA := kinm (show _ ∈ tables_1 from (List.mem_append_right _ (List.mem_append_right _ (List.mem_append_right _ (List.mem_append_right _ (List.mem_append_right _ (List.mem_append_right _ (List.mem_append_right _ (List.mem_append_right _ (List.mem_append_right _ (List.mem_append_right _ (List.mem_append_right _ (List.mem_append_right _ (List.mem_append_left _ (List.mem_of_getElem? (l := tables_1_13) (i := 147) (by decide +kernel)))))))))))))))) (by decide +kernel)
theorem kw_427 : Cond.instanceMethod y_Mo_self ∈ wA := kinm (show _ ∈ tables_1 from (List.mem_append_right _ (List.mem_append_right _ (List.mem_append_right _ (List.mem_append_right _ (List.mem_append_right _ (List.mem_append_right _ (List.mem_append_right _ (List.mem_append_right _ (List.mem_append_right _ (List.mem_append_right _ (List.mem_append_right _ (List.mem_append_right _ (List.mem_append_left _ (List.mem_of_getElem? (l := tables_1_13) (i := 165) (by decide +kernel)))))))))))))))) (by decide +kernel)
theorem kw_428 : Cond.selects R_Mo y_Mo_self y_Mo_self ∈ wA := kinp 212 (by decide +kernel) (by decide +kernel)
def M_Mo_self (l1 : Int32) (l2 : Int32) (l3 : Int32) (l4 : Int32) (l5r : Nat) (l5 : Int32) (l6 : Int32) : M (Unit) :=
  oB (oAI 33 201 l1 l2) fun v10 =>
  oB (M_Mo_b l4) fun v13 =>
  oB (oAI (l5r + 1) (lnI (l5r + 1)) l5 (v10 + v13)) fun v17 =>
  oB (oAI 33 201 l1 l2) fun v30 =>
  oB (M_Mo_b l4) fun v33 =>
  oB (oAL (l5r + 2) (lnI (l5r + 2)) l5 (v30 + v33)) fun v37 =>
  oB (M_Va_set l5r l5 (l6 + 1) v17 v37) fun _ =>
  oB (M_Mo_c l4) fun v59 =>
  oB (M_Mo_rk_ l1 l2 l3 v59) fun _ =>
  oB (oGI 98 0) fun v71 =>
  oB (oGL 99 0) fun v75 =>
  oB (M_Mo_a l4) fun v80 =>
  oB (M_Mo_index v17 v37 v71 v75 v80) fun _ =>
  oR ()

theorem cv_Mo_self : CV y_Mo_self b_Mo_self 10 none 6 := ⟨kw_427, kw_428, kw_17, k_Mo_self, by decide +kernel⟩
theorem ct_Mo_self {l : Launch} {P : PP} {q : PL} {s s' : S1} {l1 : Int32} {l2 : Int32} {l3 : Int32} {l4 : Int32} {l5r : Nat} {l5 : Int32} {l6 : Int32} (hp0 : 0 ≤ l1 ∧ l1 < 33) (hp1 : VOK l5r l5) {r : Unit} (h : M_Mo_self l1 l2 l3 l4 l5r l5 l6 s = some (r, s')) : Ct l y_Mo_self b_Mo_self 10 none 6 159 P q s [.ref (q.1 0 0), .ref (q.1 28 l1), .int l2, .int l3, .int l4, .ref (q.1 l5r l5), .int l6] none q s' := by
  refine ct_of (by decide) (Nat.le_of_ble_eq_true rfl) fun X ls eP el g hR hl => ?_
  have hR : Rt X q ((r, s') : Unit × S1).2 none := hR
  have hl : lv_has ls 10 [(0, .ref (q.1 0 0)), (1, .ref (q.1 28 l1)), (2, .int l2), (3, .int l3), (4, .int l4), (5, .ref (q.1 l5r l5)), (6, .int l6)] := hl
  generalize (r, s') = o at h hR
  unfold M_Mo_self at h
  refine ww_aload (pc := 0) g.1 d_Mo_self_0 (lv_at hl 5 rfl) ?_
  refine ww_gR (pc := 2) g (k := 0) (cl_Va hp1) (vok_p hp1).1 (by rw [(vok_f hp1).1.2.2]; decide) (Or.inl kw_92) (f := (128 * l5r + 0)) (t := l5r + 1) rfl (vok_f hp1).2.1.1 (vok_f hp1).2.1.2 d_Mo_self_2 ?_
  refine ww_aload_n (pc := 5) g.1 d_Mo_self_5 rfl (lv_at hl 1 rfl) ?_
  refine ww_gR (pc := 6) g (k := 14) cl_Th (pt rfl rfl hp0) (by decide) (Or.inl kw_260) (f := 3598) (t := 33) rfl rfl rfl d_Mo_self_6 ?_
  refine ww_iload_n (pc := 9) g.1 d_Mo_self_9 rfl (lv_at hl 2 rfl) ?_
  refine ww_ai (pc := 10) g (pt rfl rfl hp0) rfl rfl d_Mo_self_10 h fun v10 h => ?_
  refine ww_iload (pc := 11) g.1 d_Mo_self_11 (lv_at hl 4 rfl) ?_
  obtain ⟨v13, s, hc13, h⟩ := oB_of h
  refine ww_callS (pc := 13) (rest := [.int v10, .ref (q.1 (l5r + 1) l5)]) g cs_Mo_b (Or.inl kw_55) (ct_Mo_b hc13) ⟨by decide, by decide⟩ rfl hl.1 (Nat.le_of_ble_eq_true rfl) d_Mo_self_13 rfl ?_
  refine ww_st (st' := [.int v13, .int v10, .ref (q.1 (l5r + 1) l5)]) rfl ?_
  refine ww_iadd (pc := 16) g.1 d_Mo_self_16 ?_
  refine ww_ab (pc := 17) g (vok_p hp1).2.1 (vok_f hp1).2.2.2.2.1 (vok_n hp1).1 d_Mo_self_17 h fun v17 h => ?_
  refine ww_istore (pc := 18) g.1 (lv' := [(7, .int v17), (0, .ref (q.1 0 0)), (1, .ref (q.1 28 l1)), (2, .int l2), (3, .int l3), (4, .int l4), (5, .ref (q.1 l5r l5)), (6, .int l6)]) d_Mo_self_18 hl (by decide) rfl fun ls hl => ?_
  refine ww_aload (pc := 20) g.1 d_Mo_self_20 (lv_at hl 6 rfl) ?_
  refine ww_gR (pc := 22) g (k := 1) (cl_Va hp1) (vok_p hp1).1 (by rw [(vok_f hp1).1.2.2]; decide) (Or.inl kw_95) (f := (128 * l5r + 1)) (t := l5r + 2) rfl (vok_f hp1).2.2.1.1 (vok_f hp1).2.2.1.2 d_Mo_self_22 ?_
  refine ww_aload_n (pc := 25) g.1 d_Mo_self_25 rfl (lv_at hl 2 rfl) ?_
  refine ww_gR (pc := 26) g (k := 14) cl_Th (pt rfl rfl hp0) (by decide) (Or.inl kw_260) (f := 3598) (t := 33) rfl rfl rfl d_Mo_self_26 ?_
  refine ww_iload_n (pc := 29) g.1 d_Mo_self_29 rfl (lv_at hl 3 rfl) ?_
  refine ww_ai (pc := 30) g (pt rfl rfl hp0) rfl rfl d_Mo_self_30 h fun v30 h => ?_
  refine ww_iload (pc := 31) g.1 d_Mo_self_31 (lv_at hl 5 rfl) ?_
  obtain ⟨v33, s, hc33, h⟩ := oB_of h
  refine ww_callS (pc := 33) (rest := [.int v30, .ref (q.1 (l5r + 2) l5)]) g cs_Mo_b (Or.inl kw_55) (ct_Mo_b hc33) ⟨by decide, by decide⟩ rfl hl.1 (Nat.le_of_ble_eq_true rfl) d_Mo_self_33 rfl ?_
  refine ww_st (st' := [.int v33, .int v30, .ref (q.1 (l5r + 2) l5)]) rfl ?_
  refine ww_iadd (pc := 36) g.1 d_Mo_self_36 ?_
  refine ww_al (pc := 37) g (vok_p hp1).2.2 (vok_f hp1).2.2.2.2.2 (vok_n hp1).2 d_Mo_self_37 h fun v37 h => ?_
  refine ww_lstore (pc := 38) g.1 (lv' := [(8, .long v37), (7, .int v17), (0, .ref (q.1 0 0)), (1, .ref (q.1 28 l1)), (2, .int l2), (3, .int l3), (4, .int l4), (5, .ref (q.1 l5r l5)), (6, .int l6)]) d_Mo_self_38 hl (by decide) rfl fun ls hl => ?_
  refine ww_aload (pc := 40) g.1 d_Mo_self_40 (lv_at hl 7 rfl) ?_
  refine ww_iload (pc := 42) g.1 d_Mo_self_42 (lv_at hl 8 rfl) ?_
  refine ww_iconst (pc := 44) g.1 (v := 1) d_Mo_self_44 (by decide) ?_
  refine ww_iadd (pc := 45) g.1 d_Mo_self_45 ?_
  refine ww_iload (pc := 46) g.1 d_Mo_self_46 (lv_at hl 1 rfl) ?_
  refine ww_lload (pc := 48) g.1 d_Mo_self_48 (lv_at hl 0 rfl) ?_
  obtain ⟨v50, s, hc50, h⟩ := oB_of h
  refine ww_callV (pc := 50) (rest := []) g cv_Va_set (Or.inl kw_101) (cl_Va hp1) (vok_p hp1).1 (ct_Va_set hp1 hc50) ⟨by decide, by decide⟩ rfl hl.1 (Nat.le_of_ble_eq_true rfl) d_Mo_self_50 rfl ?_
  refine ww_st (st' := []) rfl ?_
  refine ww_aload_n (pc := 53) g.1 d_Mo_self_53 rfl (lv_at hl 2 rfl) ?_
  refine ww_aload_n (pc := 54) g.1 d_Mo_self_54 rfl (lv_at hl 3 rfl) ?_
  refine ww_iload_n (pc := 55) g.1 d_Mo_self_55 rfl (lv_at hl 4 rfl) ?_
  refine ww_iload_n (pc := 56) g.1 d_Mo_self_56 rfl (lv_at hl 5 rfl) ?_
  refine ww_iload (pc := 57) g.1 d_Mo_self_57 (lv_at hl 6 rfl) ?_
  obtain ⟨v59, s, hc59, h⟩ := oB_of h
  refine ww_callS (pc := 59) (rest := [.int l3, .int l2, .ref (q.1 28 l1), .ref (q.1 0 0)]) g cs_Mo_c (Or.inl kw_317) (ct_Mo_c hc59) ⟨by decide, by decide⟩ rfl hl.1 (Nat.le_of_ble_eq_true rfl) d_Mo_self_59 rfl ?_
  refine ww_st (st' := [.int v59, .int l3, .int l2, .ref (q.1 28 l1), .ref (q.1 0 0)]) rfl ?_
  obtain ⟨v62, s, hc62, h⟩ := oB_of h
  refine ww_callV (pc := 62) (rest := []) g cv_Mo_rk_ (Or.inl kw_425) cl_Mo (pz rfl (by decide)) (ct_Mo_rk_ hp0 hc62) ⟨by decide, by decide⟩ rfl hl.1 (Nat.le_of_ble_eq_true rfl) d_Mo_self_62 rfl ?_
  refine ww_st (st' := []) rfl ?_
  refine ww_aload_n (pc := 65) g.1 d_Mo_self_65 rfl (lv_at hl 2 rfl) ?_
  refine ww_iload (pc := 66) g.1 d_Mo_self_66 (lv_at hl 1 rfl) ?_
  refine ww_lload (pc := 68) g.1 d_Mo_self_68 (lv_at hl 0 rfl) ?_
  refine ww_aload_n (pc := 70) g.1 d_Mo_self_70 rfl (lv_at hl 2 rfl) ?_
  refine ww_gI (pc := 71) g (k := 98) cl_Mo (pz rfl (by decide)) (by decide) (Or.inl kw_254) (f := 98) rfl rfl d_Mo_self_71 h fun v71 h => ?_
  refine ww_aload_n (pc := 74) g.1 d_Mo_self_74 rfl (lv_at hl 2 rfl) ?_
  refine ww_gL (pc := 75) g (k := 99) cl_Mo (pz rfl (by decide)) (by decide) (Or.inl kw_255) (f := 99) rfl rfl d_Mo_self_75 h fun v75 h => ?_
  refine ww_iload (pc := 78) g.1 d_Mo_self_78 (lv_at hl 6 rfl) ?_
  obtain ⟨v80, s, hc80, h⟩ := oB_of h
  refine ww_callS (pc := 80) (rest := [.long v75, .int v71, .long v37, .int v17, .ref (q.1 0 0)]) g cs_Mo_a (Or.inl kw_287) (ct_Mo_a hc80) ⟨by decide, by decide⟩ rfl hl.1 (Nat.le_of_ble_eq_true rfl) d_Mo_self_80 rfl ?_
  refine ww_st (st' := [.int v80, .long v75, .int v71, .long v37, .int v17, .ref (q.1 0 0)]) rfl ?_
  obtain ⟨v83, s, hc83, h⟩ := oB_of h
  refine ww_callV (pc := 83) (rest := []) g cv_Mo_index (Or.inl kw_426) cl_Mo (pz rfl (by decide)) (ct_Mo_index hc83) ⟨by decide, by decide⟩ rfl hl.1 (Nat.le_of_ble_eq_true rfl) d_Mo_self_83 rfl ?_
  refine ww_st (st' := []) rfl ?_
  exact ww_vretH (pc := 86) g h hR d_Mo_self_86

theorem kw_429 : Cond.methodLink R_Mo 953 y_Mo_eventOf ∈ wA := kinm (show _ ∈ tables_1 from (List.mem_append_right _ (List.mem_append_right _ (List.mem_append_right _ (List.mem_append_right _ (List.mem_append_right _ (List.mem_append_right _ (List.mem_append_right _ (List.mem_append_right _ (List.mem_append_right _ (List.mem_append_right _ (List.mem_append_right _ (List.mem_append_right _ (List.mem_append_left _ (List.mem_of_getElem? (l := tables_1_13) (i := 171) (by decide +kernel)))))))))))))))) (by decide +kernel)
theorem kw_430 : Cond.methodLink R_Mo 956 y_Mo_either ∈ wA := kinm (show _ ∈ tables_1 from (List.mem_append_right _ (List.mem_append_right _ (List.mem_append_right _ (List.mem_append_right _ (List.mem_append_right _ (List.mem_append_right _ (List.mem_append_right _ (List.mem_append_right _ (List.mem_append_right _ (List.mem_append_right _ (List.mem_append_right _ (List.mem_append_right _ (List.mem_append_left _ (List.mem_of_getElem? (l := tables_1_13) (i := 103) (by decide +kernel)))))))))))))))) (by decide +kernel)
theorem kw_431 : Cond.methodLink R_Mo 959 y_Mo_reckon ∈ wA := kinm (show _ ∈ tables_1 from (List.mem_append_right _ (List.mem_append_right _ (List.mem_append_right _ (List.mem_append_right _ (List.mem_append_right _ (List.mem_append_right _ (List.mem_append_right _ (List.mem_append_right _ (List.mem_append_right _ (List.mem_append_right _ (List.mem_append_right _ (List.mem_append_right _ (List.mem_append_left _ (List.mem_of_getElem? (l := tables_1_13) (i := 174) (by decide +kernel)))))))))))))))) (by decide +kernel)
theorem kw_432 : Cond.instanceMethod y_Mo_arithmetic ∈ wA := kinm (show _ ∈ tables_1 from (List.mem_append_right _ (List.mem_append_right _ (List.mem_append_right _ (List.mem_append_right _ (List.mem_append_right _ (List.mem_append_right _ (List.mem_append_right _ (List.mem_append_right _ (List.mem_append_right _ (List.mem_append_right _ (List.mem_append_right _ (List.mem_append_right _ (List.mem_append_left _ (List.mem_of_getElem? (l := tables_1_13) (i := 169) (by decide +kernel)))))))))))))))) (by decide +kernel)
theorem kw_433 : Cond.selects R_Mo y_Mo_arithmetic y_Mo_arithmetic ∈ wA := kinp 213 (by decide +kernel) (by decide +kernel)
def M_Mo_arithmetic_j118 (l4 : Int32) (l5 : Int32) (l8 : Int32) (l9 : Int64) (l11 : Int32) (l12 : Int64) : M (Unit) :=
  oB (M_Mo_a l4) fun v122 =>
  oB (M_Mo_expect 1 v122 1) fun _ =>
  oB (M_Mo_eventOf l5) fun v132 =>
  oB (M_Mo_either v132 l8 l9 l11 l12) fun v143 =>
  oC (v143 = 0)
    (oB (M_Mo_raise 3) fun v151 =>
    oR ())
    (oR ())

def M_Mo_arithmetic_j188 (l5 : Int32) (l6r : Nat) (l6 : Int32) (l7 : Int32) (l9 : Int64) (l12 : Int64) : M (Unit) :=
  oB (M_Mo_reckon l5 l9 l12) fun v199 =>
  oB (M_Va_set l6r l6 l7 3 v199) fun _ =>
  oR ()

def M_Mo_arithmetic_j172 (l5 : Int32) (l6r : Nat) (l6 : Int32) (l7 : Int32) (l9 : Int64) (l12 : Int64) : M (Unit) :=
  oC ((lg_cmp l12 0) = 0)
    (oB (M_Mo_raise 5) fun v181 =>
    oR ())
    (M_Mo_arithmetic_j188 l5 l6r l6 l7 l9 l12)

def M_Mo_arithmetic_j106 (l4 : Int32) (l5 : Int32) (l6r : Nat) (l6 : Int32) (l7 : Int32) (l8 : Int32) (l9 : Int64) (l11 : Int32) (l12 : Int64) : M (Unit) :=
  oC (l8 = 3)
    (oC (l11 = 3)
      (oC (l5 = 16)
        (M_Mo_arithmetic_j172 l5 l6r l6 l7 l9 l12)
        (oC (l5 = 19)
          (M_Mo_arithmetic_j172 l5 l6r l6 l7 l9 l12)
          (M_Mo_arithmetic_j188 l5 l6r l6 l7 l9 l12)))
      (M_Mo_arithmetic_j118 l4 l5 l8 l9 l11 l12))
    (M_Mo_arithmetic_j118 l4 l5 l8 l9 l11 l12)

def M_Mo_arithmetic (l1 : Int32) (l2 : Int32) (l3 : Int32) (l4 : Int32) (l5 : Int32) (l6r : Nat) (l6 : Int32) (l7 : Int32) : M (Unit) :=
  oC (l5 ≤ 24)
    (oB (M_Mo_b l4) fun v64 =>
    oB (M_Mo_rk_ l1 l2 l3 v64) fun _ =>
    oB (oGI 98 0) fun v71 =>
    oB (oGL 99 0) fun v77 =>
    oB (M_Mo_c l4) fun v88 =>
    oB (M_Mo_rk_ l1 l2 l3 v88) fun _ =>
    oB (oGI 98 0) fun v95 =>
    oB (oGL 99 0) fun v101 =>
    M_Mo_arithmetic_j106 l4 l5 l6r l6 l7 v71 v77 v95 v101)
    (oB (oAI 33 201 l1 l2) fun v17 =>
    oB (M_Mo_b l4) fun v20 =>
    oB (oAI (l6r + 1) (lnI (l6r + 1)) l6 (v17 + v20)) fun v24 =>
    oB (oAI 33 201 l1 l2) fun v37 =>
    oB (M_Mo_b l4) fun v40 =>
    oB (oAL (l6r + 2) (lnI (l6r + 2)) l6 (v37 + v40)) fun v44 =>
    M_Mo_arithmetic_j106 l4 l5 l6r l6 l7 v24 v44 v24 v44)

theorem cv_Mo_arithmetic : CV y_Mo_arithmetic b_Mo_arithmetic 14 none 7 := ⟨kw_432, kw_433, kw_17, k_Mo_arithmetic, by decide +kernel⟩
theorem j_Mo_arithmetic_j118 {X : Cx} {q : PL} (g : Gd X y_Mo_arithmetic b_Mo_arithmetic 14 none 6 153 R_Mo) {o : (Unit) × S1} (hR : Rt X q o.2 none) (l4 : Int32) (l5 : Int32) (l8 : Int32) (l9 : Int64) (l11 : Int32) (l12 : Int64) (s : S1) (ls : Array Slot) (hl : lv_has ls 14 [(0, .ref (q.1 0 0)), (4, .int l4), (5, .int l5), (8, .int l8), (9, .long l9), (11, .int l11), (12, .long l12)]) (h : M_Mo_arithmetic_j118 l4 l5 l8 l9 l11 l12 s = some o) : WW X q s 118 ls [] := by
  unfold M_Mo_arithmetic_j118 at h
  refine ww_aload_n (pc := 118) g.1 d_Mo_arithmetic_118 rfl (lv_at hl 0 rfl) ?_
  refine ww_iconst (pc := 119) g.1 (v := 1) d_Mo_arithmetic_119 (by decide) ?_
  refine ww_iload (pc := 120) g.1 d_Mo_arithmetic_120 (lv_at hl 1 rfl) ?_
  obtain ⟨v122, s, hc122, h⟩ := oB_of h
  refine ww_callS (pc := 122) (rest := [.int 1, .ref (q.1 0 0)]) g cs_Mo_a (Or.inl kw_287) (ct_Mo_a hc122) ⟨by decide, by decide⟩ rfl hl.1 (Nat.le_of_ble_eq_true rfl) d_Mo_arithmetic_122 rfl ?_
  refine ww_st (st' := [.int v122, .int 1, .ref (q.1 0 0)]) rfl ?_
  refine ww_iconst (pc := 125) g.1 (v := 1) d_Mo_arithmetic_125 (by decide) ?_
  obtain ⟨v126, s, hc126, h⟩ := oB_of h
  refine ww_callV (pc := 126) (rest := []) g cv_Mo_expect (Or.inl kw_421) cl_Mo (pz rfl (by decide)) (ct_Mo_expect hc126) ⟨by decide, by decide⟩ rfl hl.1 (Nat.le_of_ble_eq_true rfl) d_Mo_arithmetic_126 rfl ?_
  refine ww_st (st' := []) rfl ?_
  refine ww_aload_n (pc := 129) g.1 d_Mo_arithmetic_129 rfl (lv_at hl 0 rfl) ?_
  refine ww_iload (pc := 130) g.1 d_Mo_arithmetic_130 (lv_at hl 2 rfl) ?_
  obtain ⟨v132, s, hc132, h⟩ := oB_of h
  refine ww_callS (pc := 132) (rest := [.ref (q.1 0 0)]) g cs_Mo_eventOf (Or.inl kw_429) (ct_Mo_eventOf hc132) ⟨by decide, by decide⟩ rfl hl.1 (Nat.le_of_ble_eq_true rfl) d_Mo_arithmetic_132 rfl ?_
  refine ww_st (st' := [.int v132, .ref (q.1 0 0)]) rfl ?_
  refine ww_iload (pc := 135) g.1 d_Mo_arithmetic_135 (lv_at hl 3 rfl) ?_
  refine ww_lload (pc := 137) g.1 d_Mo_arithmetic_137 (lv_at hl 4 rfl) ?_
  refine ww_iload (pc := 139) g.1 d_Mo_arithmetic_139 (lv_at hl 5 rfl) ?_
  refine ww_lload (pc := 141) g.1 d_Mo_arithmetic_141 (lv_at hl 6 rfl) ?_
  obtain ⟨v143, s, hc143, h⟩ := oB_of h
  refine ww_callV (pc := 143) (rest := []) g cv_Mo_either (Or.inl kw_430) cl_Mo (pz rfl (by decide)) (ct_Mo_either hc143) ⟨by decide, by decide⟩ rfl hl.1 (Nat.le_of_ble_eq_true rfl) d_Mo_arithmetic_143 rfl ?_
  refine ww_st (st' := [.int v143]) rfl ?_
  refine ww_if_ne (pc := 146) (tgt := 205) g.1 d_Mo_arithmetic_146 (by decide) h (fun c h => ?_) (fun c h => ?_)
  · exact ww_vretH (pc := 205) g h hR d_Mo_arithmetic_205
  · refine ww_aload_n (pc := 149) g.1 d_Mo_arithmetic_149 rfl (lv_at hl 0 rfl) ?_
    refine ww_iconst (pc := 150) g.1 (v := 3) d_Mo_arithmetic_150 (by decide) ?_
    obtain ⟨v151, s, hc151, h⟩ := oB_of h
    refine ww_callV (pc := 151) (rest := []) g cv_Mo_raise (Or.inl kw_162) cl_Mo (pz rfl (by decide)) (ct_Mo_raise hc151) ⟨by decide, by decide⟩ rfl hl.1 (Nat.le_of_ble_eq_true rfl) d_Mo_arithmetic_151 rfl ?_
    refine ww_st (st' := [.int v151]) rfl ?_
    refine ww_pop (pc := 154) g.1 d_Mo_arithmetic_154 rfl ?_
    refine ww_goto (pc := 155) (tgt := 205) g.1 d_Mo_arithmetic_155 (by decide) ?_
    exact ww_vretH (pc := 205) g h hR d_Mo_arithmetic_205

theorem j_Mo_arithmetic_j188 {X : Cx} {q : PL} (g : Gd X y_Mo_arithmetic b_Mo_arithmetic 14 none 6 153 R_Mo) {o : (Unit) × S1} (hR : Rt X q o.2 none) (l5 : Int32) (l6r : Nat) (l6 : Int32) (l7 : Int32) (l9 : Int64) (l12 : Int64) (s : S1) (hp0 : VOK l6r l6) (ls : Array Slot) (hl : lv_has ls 14 [(5, .int l5), (6, .ref (q.1 l6r l6)), (7, .int l7), (9, .long l9), (12, .long l12)]) (h : M_Mo_arithmetic_j188 l5 l6r l6 l7 l9 l12 s = some o) : WW X q s 188 ls [] := by
  unfold M_Mo_arithmetic_j188 at h
  refine ww_aload (pc := 188) g.1 d_Mo_arithmetic_188 (lv_at hl 1 rfl) ?_
  refine ww_iload (pc := 190) g.1 d_Mo_arithmetic_190 (lv_at hl 2 rfl) ?_
  refine ww_iconst (pc := 192) g.1 (v := 3) d_Mo_arithmetic_192 (by decide) ?_
  refine ww_iload (pc := 193) g.1 d_Mo_arithmetic_193 (lv_at hl 0 rfl) ?_
  refine ww_lload (pc := 195) g.1 d_Mo_arithmetic_195 (lv_at hl 3 rfl) ?_
  refine ww_lload (pc := 197) g.1 d_Mo_arithmetic_197 (lv_at hl 4 rfl) ?_
  obtain ⟨v199, s, hc199, h⟩ := oB_of h
  refine ww_callS (pc := 199) (rest := [.int 3, .int l7, .ref (q.1 l6r l6)]) g cs_Mo_reckon (Or.inl kw_431) (ct_Mo_reckon hc199) ⟨by decide, by decide⟩ rfl hl.1 (Nat.le_of_ble_eq_true rfl) d_Mo_arithmetic_199 rfl ?_
  refine ww_st (st' := [.long v199, .int 3, .int l7, .ref (q.1 l6r l6)]) rfl ?_
  obtain ⟨v202, s, hc202, h⟩ := oB_of h
  refine ww_callV (pc := 202) (rest := []) g cv_Va_set (Or.inl kw_101) (cl_Va hp0) (vok_p hp0).1 (ct_Va_set hp0 hc202) ⟨by decide, by decide⟩ rfl hl.1 (Nat.le_of_ble_eq_true rfl) d_Mo_arithmetic_202 rfl ?_
  refine ww_st (st' := []) rfl ?_
  exact ww_vretH (pc := 205) g h hR d_Mo_arithmetic_205

theorem j_Mo_arithmetic_j172 {X : Cx} {q : PL} (g : Gd X y_Mo_arithmetic b_Mo_arithmetic 14 none 6 153 R_Mo) {o : (Unit) × S1} (hR : Rt X q o.2 none) (l5 : Int32) (l6r : Nat) (l6 : Int32) (l7 : Int32) (l9 : Int64) (l12 : Int64) (s : S1) (hp0 : VOK l6r l6) (ls : Array Slot) (hl : lv_has ls 14 [(0, .ref (q.1 0 0)), (5, .int l5), (6, .ref (q.1 l6r l6)), (7, .int l7), (9, .long l9), (12, .long l12)]) (h : M_Mo_arithmetic_j172 l5 l6r l6 l7 l9 l12 s = some o) : WW X q s 172 ls [] := by
  unfold M_Mo_arithmetic_j172 at h
  refine ww_lload (pc := 172) g.1 d_Mo_arithmetic_172 (lv_at hl 5 rfl) ?_
  refine ww_lconst (pc := 174) g.1 (v := 0) d_Mo_arithmetic_174 (by decide) ?_
  refine ww_lcmp (pc := 175) g.1 d_Mo_arithmetic_175 ?_
  refine ww_if_ne (pc := 176) (tgt := 188) g.1 d_Mo_arithmetic_176 (by decide) h (fun c h => ?_) (fun c h => ?_)
  · exact j_Mo_arithmetic_j188 g hR l5 l6r l6 l7 l9 l12 s hp0 ls (lv_sub hl [1, 2, 3, 4, 5] rfl) h
  · refine ww_aload_n (pc := 179) g.1 d_Mo_arithmetic_179 rfl (lv_at hl 0 rfl) ?_
    refine ww_iconst (pc := 180) g.1 (v := 5) d_Mo_arithmetic_180 (by decide) ?_
    obtain ⟨v181, s, hc181, h⟩ := oB_of h
    refine ww_callV (pc := 181) (rest := []) g cv_Mo_raise (Or.inl kw_162) cl_Mo (pz rfl (by decide)) (ct_Mo_raise hc181) ⟨by decide, by decide⟩ rfl hl.1 (Nat.le_of_ble_eq_true rfl) d_Mo_arithmetic_181 rfl ?_
    refine ww_st (st' := [.int v181]) rfl ?_
    refine ww_pop (pc := 184) g.1 d_Mo_arithmetic_184 rfl ?_
    refine ww_goto (pc := 185) (tgt := 205) g.1 d_Mo_arithmetic_185 (by decide) ?_
    exact ww_vretH (pc := 205) g h hR d_Mo_arithmetic_205

theorem j_Mo_arithmetic_j106 {X : Cx} {q : PL} (g : Gd X y_Mo_arithmetic b_Mo_arithmetic 14 none 6 153 R_Mo) {o : (Unit) × S1} (hR : Rt X q o.2 none) (l4 : Int32) (l5 : Int32) (l6r : Nat) (l6 : Int32) (l7 : Int32) (l8 : Int32) (l9 : Int64) (l11 : Int32) (l12 : Int64) (s : S1) (hp0 : VOK l6r l6) (ls : Array Slot) (hl : lv_has ls 14 [(0, .ref (q.1 0 0)), (4, .int l4), (5, .int l5), (6, .ref (q.1 l6r l6)), (7, .int l7), (8, .int l8), (9, .long l9), (11, .int l11), (12, .long l12)]) (h : M_Mo_arithmetic_j106 l4 l5 l6r l6 l7 l8 l9 l11 l12 s = some o) : WW X q s 106 ls [] := by
  unfold M_Mo_arithmetic_j106 at h
  refine ww_iload (pc := 106) g.1 d_Mo_arithmetic_106 (lv_at hl 5 rfl) ?_
  refine ww_iconst (pc := 108) g.1 (v := 3) d_Mo_arithmetic_108 (by decide) ?_
  refine ww_icmp_ne (pc := 109) (tgt := 118) g.1 d_Mo_arithmetic_109 (by decide) h (fun c h => ?_) (fun c h => ?_)
  · exact j_Mo_arithmetic_j118 g hR l4 l5 l8 l9 l11 l12 s ls (lv_sub hl [0, 1, 2, 5, 6, 7, 8] rfl) h
  · refine ww_iload (pc := 112) g.1 d_Mo_arithmetic_112 (lv_at hl 7 rfl) ?_
    refine ww_iconst (pc := 114) g.1 (v := 3) d_Mo_arithmetic_114 (by decide) ?_
    refine ww_icmp_eq (pc := 115) (tgt := 158) g.1 d_Mo_arithmetic_115 (by decide) h (fun c h => ?_) (fun c h => ?_)
    · refine ww_iload (pc := 158) g.1 d_Mo_arithmetic_158 (lv_at hl 2 rfl) ?_
      refine ww_bipush (pc := 160) g.1 (v := 16) d_Mo_arithmetic_160 (by decide) ?_
      refine ww_icmp_eq (pc := 162) (tgt := 172) g.1 d_Mo_arithmetic_162 (by decide) h (fun c h => ?_) (fun c h => ?_)
      · exact j_Mo_arithmetic_j172 g hR l5 l6r l6 l7 l9 l12 s hp0 ls (lv_sub hl [0, 2, 3, 4, 6, 8] rfl) h
      · refine ww_iload (pc := 165) g.1 d_Mo_arithmetic_165 (lv_at hl 2 rfl) ?_
        refine ww_bipush (pc := 167) g.1 (v := 19) d_Mo_arithmetic_167 (by decide) ?_
        refine ww_icmp_ne (pc := 169) (tgt := 188) g.1 d_Mo_arithmetic_169 (by decide) h (fun c h => ?_) (fun c h => ?_)
        · exact j_Mo_arithmetic_j188 g hR l5 l6r l6 l7 l9 l12 s hp0 ls (lv_sub hl [2, 3, 4, 6, 8] rfl) h
        · exact j_Mo_arithmetic_j172 g hR l5 l6r l6 l7 l9 l12 s hp0 ls (lv_sub hl [0, 2, 3, 4, 6, 8] rfl) h
    · exact j_Mo_arithmetic_j118 g hR l4 l5 l8 l9 l11 l12 s ls (lv_sub hl [0, 1, 2, 5, 6, 7, 8] rfl) h

theorem ct_Mo_arithmetic {l : Launch} {P : PP} {q : PL} {s s' : S1} {l1 : Int32} {l2 : Int32} {l3 : Int32} {l4 : Int32} {l5 : Int32} {l6r : Nat} {l6 : Int32} {l7 : Int32} (hp0 : 0 ≤ l1 ∧ l1 < 33) (hp1 : VOK l6r l6) {r : Unit} (h : M_Mo_arithmetic l1 l2 l3 l4 l5 l6r l6 l7 s = some (r, s')) : Ct l y_Mo_arithmetic b_Mo_arithmetic 14 none 6 153 P q s [.ref (q.1 0 0), .ref (q.1 28 l1), .int l2, .int l3, .int l4, .int l5, .ref (q.1 l6r l6), .int l7] none q s' := by
  refine ct_of (by decide) (Nat.le_of_ble_eq_true rfl) fun X ls eP el g hR hl => ?_
  have hR : Rt X q ((r, s') : Unit × S1).2 none := hR
  have hl : lv_has ls 14 [(0, .ref (q.1 0 0)), (1, .ref (q.1 28 l1)), (2, .int l2), (3, .int l3), (4, .int l4), (5, .int l5), (6, .ref (q.1 l6r l6)), (7, .int l7)] := hl
  generalize (r, s') = o at h hR
  unfold M_Mo_arithmetic at h
  refine ww_iload (pc := 0) g.1 d_Mo_arithmetic_0 (lv_at hl 5 rfl) ?_
  refine ww_bipush (pc := 2) g.1 (v := 24) d_Mo_arithmetic_2 (by decide) ?_
  refine ww_icmp_le (pc := 4) (tgt := 58) g.1 d_Mo_arithmetic_4 (by decide) h (fun c h => ?_) (fun c h => ?_)
  · refine ww_aload_n (pc := 58) g.1 d_Mo_arithmetic_58 rfl (lv_at hl 0 rfl) ?_
    refine ww_aload_n (pc := 59) g.1 d_Mo_arithmetic_59 rfl (lv_at hl 1 rfl) ?_
    refine ww_iload_n (pc := 60) g.1 d_Mo_arithmetic_60 rfl (lv_at hl 2 rfl) ?_
    refine ww_iload_n (pc := 61) g.1 d_Mo_arithmetic_61 rfl (lv_at hl 3 rfl) ?_
    refine ww_iload (pc := 62) g.1 d_Mo_arithmetic_62 (lv_at hl 4 rfl) ?_
    obtain ⟨v64, s, hc64, h⟩ := oB_of h
    refine ww_callS (pc := 64) (rest := [.int l3, .int l2, .ref (q.1 28 l1), .ref (q.1 0 0)]) g cs_Mo_b (Or.inl kw_55) (ct_Mo_b hc64) ⟨by decide, by decide⟩ rfl hl.1 (Nat.le_of_ble_eq_true rfl) d_Mo_arithmetic_64 rfl ?_
    refine ww_st (st' := [.int v64, .int l3, .int l2, .ref (q.1 28 l1), .ref (q.1 0 0)]) rfl ?_
    obtain ⟨v67, s, hc67, h⟩ := oB_of h
    refine ww_callV (pc := 67) (rest := []) g cv_Mo_rk_ (Or.inl kw_425) cl_Mo (pz rfl (by decide)) (ct_Mo_rk_ hp0 hc67) ⟨by decide, by decide⟩ rfl hl.1 (Nat.le_of_ble_eq_true rfl) d_Mo_arithmetic_67 rfl ?_
    refine ww_st (st' := []) rfl ?_
    refine ww_aload_n (pc := 70) g.1 d_Mo_arithmetic_70 rfl (lv_at hl 0 rfl) ?_
    refine ww_gI (pc := 71) g (k := 98) cl_Mo (pz rfl (by decide)) (by decide) (Or.inl kw_254) (f := 98) rfl rfl d_Mo_arithmetic_71 h fun v71 h => ?_
    refine ww_istore (pc := 74) g.1 (lv' := [(8, .int v71), (0, .ref (q.1 0 0)), (1, .ref (q.1 28 l1)), (2, .int l2), (3, .int l3), (4, .int l4), (5, .int l5), (6, .ref (q.1 l6r l6)), (7, .int l7)]) d_Mo_arithmetic_74 hl (by decide) rfl fun ls hl => ?_
    refine ww_aload_n (pc := 76) g.1 d_Mo_arithmetic_76 rfl (lv_at hl 1 rfl) ?_
    refine ww_gL (pc := 77) g (k := 99) cl_Mo (pz rfl (by decide)) (by decide) (Or.inl kw_255) (f := 99) rfl rfl d_Mo_arithmetic_77 h fun v77 h => ?_
    refine ww_lstore (pc := 80) g.1 (lv' := [(9, .long v77), (8, .int v71), (0, .ref (q.1 0 0)), (1, .ref (q.1 28 l1)), (2, .int l2), (3, .int l3), (4, .int l4), (5, .int l5), (6, .ref (q.1 l6r l6)), (7, .int l7)]) d_Mo_arithmetic_80 hl (by decide) rfl fun ls hl => ?_
    refine ww_aload_n (pc := 82) g.1 d_Mo_arithmetic_82 rfl (lv_at hl 2 rfl) ?_
    refine ww_aload_n (pc := 83) g.1 d_Mo_arithmetic_83 rfl (lv_at hl 3 rfl) ?_
    refine ww_iload_n (pc := 84) g.1 d_Mo_arithmetic_84 rfl (lv_at hl 4 rfl) ?_
    refine ww_iload_n (pc := 85) g.1 d_Mo_arithmetic_85 rfl (lv_at hl 5 rfl) ?_
    refine ww_iload (pc := 86) g.1 d_Mo_arithmetic_86 (lv_at hl 6 rfl) ?_
    obtain ⟨v88, s, hc88, h⟩ := oB_of h
    refine ww_callS (pc := 88) (rest := [.int l3, .int l2, .ref (q.1 28 l1), .ref (q.1 0 0)]) g cs_Mo_c (Or.inl kw_317) (ct_Mo_c hc88) ⟨by decide, by decide⟩ rfl hl.1 (Nat.le_of_ble_eq_true rfl) d_Mo_arithmetic_88 rfl ?_
    refine ww_st (st' := [.int v88, .int l3, .int l2, .ref (q.1 28 l1), .ref (q.1 0 0)]) rfl ?_
    obtain ⟨v91, s, hc91, h⟩ := oB_of h
    refine ww_callV (pc := 91) (rest := []) g cv_Mo_rk_ (Or.inl kw_425) cl_Mo (pz rfl (by decide)) (ct_Mo_rk_ hp0 hc91) ⟨by decide, by decide⟩ rfl hl.1 (Nat.le_of_ble_eq_true rfl) d_Mo_arithmetic_91 rfl ?_
    refine ww_st (st' := []) rfl ?_
    refine ww_aload_n (pc := 94) g.1 d_Mo_arithmetic_94 rfl (lv_at hl 2 rfl) ?_
    refine ww_gI (pc := 95) g (k := 98) cl_Mo (pz rfl (by decide)) (by decide) (Or.inl kw_254) (f := 98) rfl rfl d_Mo_arithmetic_95 h fun v95 h => ?_
    refine ww_istore (pc := 98) g.1 (lv' := [(11, .int v95), (9, .long v77), (8, .int v71), (0, .ref (q.1 0 0)), (1, .ref (q.1 28 l1)), (2, .int l2), (3, .int l3), (4, .int l4), (5, .int l5), (6, .ref (q.1 l6r l6)), (7, .int l7)]) d_Mo_arithmetic_98 hl (by decide) rfl fun ls hl => ?_
    refine ww_aload_n (pc := 100) g.1 d_Mo_arithmetic_100 rfl (lv_at hl 3 rfl) ?_
    refine ww_gL (pc := 101) g (k := 99) cl_Mo (pz rfl (by decide)) (by decide) (Or.inl kw_255) (f := 99) rfl rfl d_Mo_arithmetic_101 h fun v101 h => ?_
    refine ww_lstore (pc := 104) g.1 (lv' := [(12, .long v101), (11, .int v95), (9, .long v77), (8, .int v71), (0, .ref (q.1 0 0)), (1, .ref (q.1 28 l1)), (2, .int l2), (3, .int l3), (4, .int l4), (5, .int l5), (6, .ref (q.1 l6r l6)), (7, .int l7)]) d_Mo_arithmetic_104 hl (by decide) rfl fun ls hl => ?_
    exact j_Mo_arithmetic_j106 g hR l4 l5 l6r l6 l7 v71 v77 v95 v101 s hp1 ls (lv_sub hl [4, 8, 9, 10, 11, 3, 2, 1, 0] rfl) h
  · refine ww_aload (pc := 7) g.1 d_Mo_arithmetic_7 (lv_at hl 6 rfl) ?_
    refine ww_gR (pc := 9) g (k := 0) (cl_Va hp1) (vok_p hp1).1 (by rw [(vok_f hp1).1.2.2]; decide) (Or.inl kw_92) (f := (128 * l6r + 0)) (t := l6r + 1) rfl (vok_f hp1).2.1.1 (vok_f hp1).2.1.2 d_Mo_arithmetic_9 ?_
    refine ww_aload_n (pc := 12) g.1 d_Mo_arithmetic_12 rfl (lv_at hl 1 rfl) ?_
    refine ww_gR (pc := 13) g (k := 14) cl_Th (pt rfl rfl hp0) (by decide) (Or.inl kw_260) (f := 3598) (t := 33) rfl rfl rfl d_Mo_arithmetic_13 ?_
    refine ww_iload_n (pc := 16) g.1 d_Mo_arithmetic_16 rfl (lv_at hl 2 rfl) ?_
    refine ww_ai (pc := 17) g (pt rfl rfl hp0) rfl rfl d_Mo_arithmetic_17 h fun v17 h => ?_
    refine ww_iload (pc := 18) g.1 d_Mo_arithmetic_18 (lv_at hl 4 rfl) ?_
    obtain ⟨v20, s, hc20, h⟩ := oB_of h
    refine ww_callS (pc := 20) (rest := [.int v17, .ref (q.1 (l6r + 1) l6)]) g cs_Mo_b (Or.inl kw_55) (ct_Mo_b hc20) ⟨by decide, by decide⟩ rfl hl.1 (Nat.le_of_ble_eq_true rfl) d_Mo_arithmetic_20 rfl ?_
    refine ww_st (st' := [.int v20, .int v17, .ref (q.1 (l6r + 1) l6)]) rfl ?_
    refine ww_iadd (pc := 23) g.1 d_Mo_arithmetic_23 ?_
    refine ww_ab (pc := 24) g (vok_p hp1).2.1 (vok_f hp1).2.2.2.2.1 (vok_n hp1).1 d_Mo_arithmetic_24 h fun v24 h => ?_
    refine ww_istore (pc := 25) g.1 (lv' := [(8, .int v24), (0, .ref (q.1 0 0)), (1, .ref (q.1 28 l1)), (2, .int l2), (3, .int l3), (4, .int l4), (5, .int l5), (6, .ref (q.1 l6r l6)), (7, .int l7)]) d_Mo_arithmetic_25 hl (by decide) rfl fun ls hl => ?_
    refine ww_aload (pc := 27) g.1 d_Mo_arithmetic_27 (lv_at hl 7 rfl) ?_
    refine ww_gR (pc := 29) g (k := 1) (cl_Va hp1) (vok_p hp1).1 (by rw [(vok_f hp1).1.2.2]; decide) (Or.inl kw_95) (f := (128 * l6r + 1)) (t := l6r + 2) rfl (vok_f hp1).2.2.1.1 (vok_f hp1).2.2.1.2 d_Mo_arithmetic_29 ?_
    refine ww_aload_n (pc := 32) g.1 d_Mo_arithmetic_32 rfl (lv_at hl 2 rfl) ?_
    refine ww_gR (pc := 33) g (k := 14) cl_Th (pt rfl rfl hp0) (by decide) (Or.inl kw_260) (f := 3598) (t := 33) rfl rfl rfl d_Mo_arithmetic_33 ?_
    refine ww_iload_n (pc := 36) g.1 d_Mo_arithmetic_36 rfl (lv_at hl 3 rfl) ?_
    refine ww_ai (pc := 37) g (pt rfl rfl hp0) rfl rfl d_Mo_arithmetic_37 h fun v37 h => ?_
    refine ww_iload (pc := 38) g.1 d_Mo_arithmetic_38 (lv_at hl 5 rfl) ?_
    obtain ⟨v40, s, hc40, h⟩ := oB_of h
    refine ww_callS (pc := 40) (rest := [.int v37, .ref (q.1 (l6r + 2) l6)]) g cs_Mo_b (Or.inl kw_55) (ct_Mo_b hc40) ⟨by decide, by decide⟩ rfl hl.1 (Nat.le_of_ble_eq_true rfl) d_Mo_arithmetic_40 rfl ?_
    refine ww_st (st' := [.int v40, .int v37, .ref (q.1 (l6r + 2) l6)]) rfl ?_
    refine ww_iadd (pc := 43) g.1 d_Mo_arithmetic_43 ?_
    refine ww_al (pc := 44) g (vok_p hp1).2.2 (vok_f hp1).2.2.2.2.2 (vok_n hp1).2 d_Mo_arithmetic_44 h fun v44 h => ?_
    refine ww_lstore (pc := 45) g.1 (lv' := [(9, .long v44), (8, .int v24), (0, .ref (q.1 0 0)), (1, .ref (q.1 28 l1)), (2, .int l2), (3, .int l3), (4, .int l4), (5, .int l5), (6, .ref (q.1 l6r l6)), (7, .int l7)]) d_Mo_arithmetic_45 hl (by decide) rfl fun ls hl => ?_
    refine ww_iload (pc := 47) g.1 d_Mo_arithmetic_47 (lv_at hl 1 rfl) ?_
    refine ww_istore (pc := 49) g.1 (lv' := [(11, .int v24), (9, .long v44), (8, .int v24), (0, .ref (q.1 0 0)), (1, .ref (q.1 28 l1)), (2, .int l2), (3, .int l3), (4, .int l4), (5, .int l5), (6, .ref (q.1 l6r l6)), (7, .int l7)]) d_Mo_arithmetic_49 hl (by decide) rfl fun ls hl => ?_
    refine ww_lload (pc := 51) g.1 d_Mo_arithmetic_51 (lv_at hl 1 rfl) ?_
    refine ww_lstore (pc := 53) g.1 (lv' := [(12, .long v44), (11, .int v24), (9, .long v44), (8, .int v24), (0, .ref (q.1 0 0)), (1, .ref (q.1 28 l1)), (2, .int l2), (3, .int l3), (4, .int l4), (5, .int l5), (6, .ref (q.1 l6r l6)), (7, .int l7)]) d_Mo_arithmetic_53 hl (by decide) rfl fun ls hl => ?_
    refine ww_goto (pc := 55) (tgt := 106) g.1 d_Mo_arithmetic_55 (by decide) ?_
    exact j_Mo_arithmetic_j106 g hR l4 l5 l6r l6 l7 v24 v44 v24 v44 s hp1 ls (lv_sub hl [4, 8, 9, 10, 11, 3, 2, 1, 0] rfl) h

