abbrev b_Mo_giveWay : ByteArray := prog_14_method_81_code
def y_Mo_giveWay : MethodName := ⟨R_Mo, "giveWay", "()V"⟩
abbrev w_Mo_giveWay : List Cond := .code y_Mo_giveWay b_Mo_giveWay 3 none :: wA
theorem k_Mo_giveWay : Cond.code y_Mo_giveWay b_Mo_giveWay 3 none ∈ wA := kinm (show _ ∈ tables_1 from (List.mem_append_right _ (List.mem_append_right _ (List.mem_append_right _ (List.mem_append_right _ (List.mem_append_right _ (List.mem_append_right _ (List.mem_append_right _ (List.mem_append_right _ (List.mem_append_right _ (List.mem_append_right _ (List.mem_append_right _ (List.mem_append_right _ (List.mem_append_left _ (List.mem_of_getElem? (l := tables_1_13) (i := 68) (by decide +kernel)))))))))))))))) (by decide +kernel)
theorem d_Mo_giveWay_0 : decode b_Mo_giveWay 0 = .ok (.aload_n 0, 1) := by decide +kernel
theorem d_Mo_giveWay_1 : decode b_Mo_giveWay 1 = .ok (.getfield 243, 3) := by decide +kernel
theorem d_Mo_giveWay_4 : decode b_Mo_giveWay 4 = .ok (.aload_n 0, 1) := by decide +kernel
theorem d_Mo_giveWay_5 : decode b_Mo_giveWay 5 = .ok (.getfield 239, 3) := by decide +kernel
theorem d_Mo_giveWay_8 : decode b_Mo_giveWay 8 = .ok (.iconst 0, 1) := by decide +kernel
theorem d_Mo_giveWay_9 : decode b_Mo_giveWay 9 = .ok (.aaload, 1) := by decide +kernel
theorem d_Mo_giveWay_10 : decode b_Mo_giveWay 10 = .ok (.if_acmp .ne 11, 3) := by decide +kernel
theorem d_Mo_giveWay_13 : decode b_Mo_giveWay 13 = .ok (.aload_n 0, 1) := by decide +kernel
theorem d_Mo_giveWay_14 : decode b_Mo_giveWay 14 = .ok (.bipush 9, 2) := by decide +kernel
theorem d_Mo_giveWay_16 : decode b_Mo_giveWay 16 = .ok (.invokevirtual 517, 3) := by decide +kernel
theorem d_Mo_giveWay_19 : decode b_Mo_giveWay 19 = .ok (.pop, 1) := by decide +kernel
theorem d_Mo_giveWay_20 : decode b_Mo_giveWay 20 = .ok (.return_, 1) := by decide +kernel
theorem d_Mo_giveWay_21 : decode b_Mo_giveWay 21 = .ok (.aload_n 0, 1) := by decide +kernel
theorem d_Mo_giveWay_22 : decode b_Mo_giveWay 22 = .ok (.getfield 243, 3) := by decide +kernel
theorem d_Mo_giveWay_25 : decode b_Mo_giveWay 25 = .ok (.astore_n 1, 1) := by decide +kernel
theorem d_Mo_giveWay_26 : decode b_Mo_giveWay 26 = .ok (.aload_n 1, 1) := by decide +kernel
theorem d_Mo_giveWay_27 : decode b_Mo_giveWay 27 = .ok (.iconst 0, 1) := by decide +kernel
theorem d_Mo_giveWay_28 : decode b_Mo_giveWay 28 = .ok (.putfield 694, 3) := by decide +kernel
theorem d_Mo_giveWay_31 : decode b_Mo_giveWay 31 = .ok (.aload_n 0, 1) := by decide +kernel
theorem d_Mo_giveWay_32 : decode b_Mo_giveWay 32 = .ok (.getfield 262, 3) := by decide +kernel
theorem d_Mo_giveWay_35 : decode b_Mo_giveWay 35 = .ok (.iconst 0, 1) := by decide +kernel
theorem d_Mo_giveWay_36 : decode b_Mo_giveWay 36 = .ok (.putfield 569, 3) := by decide +kernel
theorem d_Mo_giveWay_39 : decode b_Mo_giveWay 39 = .ok (.iconst 0, 1) := by decide +kernel
theorem d_Mo_giveWay_40 : decode b_Mo_giveWay 40 = .ok (.istore_n 2, 1) := by decide +kernel
theorem d_Mo_giveWay_41 : decode b_Mo_giveWay 41 = .ok (.iload_n 2, 1) := by decide +kernel
theorem d_Mo_giveWay_42 : decode b_Mo_giveWay 42 = .ok (.aload_n 0, 1) := by decide +kernel
theorem d_Mo_giveWay_43 : decode b_Mo_giveWay 43 = .ok (.getfield 259, 3) := by decide +kernel
theorem d_Mo_giveWay_46 : decode b_Mo_giveWay 46 = .ok (.getfield 569, 3) := by decide +kernel
theorem d_Mo_giveWay_49 : decode b_Mo_giveWay 49 = .ok (.if_icmp .ge 21, 3) := by decide +kernel
theorem d_Mo_giveWay_52 : decode b_Mo_giveWay 52 = .ok (.aload_n 0, 1) := by decide +kernel
theorem d_Mo_giveWay_53 : decode b_Mo_giveWay 53 = .ok (.getfield 262, 3) := by decide +kernel
theorem d_Mo_giveWay_56 : decode b_Mo_giveWay 56 = .ok (.aload_n 0, 1) := by decide +kernel
theorem d_Mo_giveWay_57 : decode b_Mo_giveWay 57 = .ok (.getfield 259, 3) := by decide +kernel
theorem d_Mo_giveWay_60 : decode b_Mo_giveWay 60 = .ok (.iload_n 2, 1) := by decide +kernel
theorem d_Mo_giveWay_61 : decode b_Mo_giveWay 61 = .ok (.invokevirtual 770, 3) := by decide +kernel
theorem d_Mo_giveWay_64 : decode b_Mo_giveWay 64 = .ok (.iinc 2 1, 3) := by decide +kernel
theorem d_Mo_giveWay_67 : decode b_Mo_giveWay 67 = .ok (.goto (-26), 3) := by decide +kernel
theorem d_Mo_giveWay_70 : decode b_Mo_giveWay 70 = .ok (.aload_n 0, 1) := by decide +kernel
theorem d_Mo_giveWay_71 : decode b_Mo_giveWay 71 = .ok (.getfield 259, 3) := by decide +kernel
theorem d_Mo_giveWay_74 : decode b_Mo_giveWay 74 = .ok (.iconst 0, 1) := by decide +kernel
theorem d_Mo_giveWay_75 : decode b_Mo_giveWay 75 = .ok (.putfield 569, 3) := by decide +kernel
theorem d_Mo_giveWay_78 : decode b_Mo_giveWay 78 = .ok (.aload_n 0, 1) := by decide +kernel
theorem d_Mo_giveWay_79 : decode b_Mo_giveWay 79 = .ok (.aload_n 1, 1) := by decide +kernel
theorem d_Mo_giveWay_80 : decode b_Mo_giveWay 80 = .ok (.invokevirtual 783, 3) := by decide +kernel
theorem d_Mo_giveWay_83 : decode b_Mo_giveWay 83 = .ok (.aload_n 0, 1) := by decide +kernel
theorem d_Mo_giveWay_84 : decode b_Mo_giveWay 84 = .ok (.iconst 2, 1) := by decide +kernel
theorem d_Mo_giveWay_85 : decode b_Mo_giveWay 85 = .ok (.putfield 247, 3) := by decide +kernel
theorem d_Mo_giveWay_88 : decode b_Mo_giveWay 88 = .ok (.return_, 1) := by decide +kernel
abbrev b_Mo_back : ByteArray := prog_14_method_76_code
def y_Mo_back : MethodName := ⟨R_Mo, "back", "(LLuaMachineModel$Thread_;)V"⟩
abbrev w_Mo_back : List Cond := .code y_Mo_back b_Mo_back 2 none :: wA
theorem k_Mo_back : Cond.code y_Mo_back b_Mo_back 2 none ∈ wA := kinm (show _ ∈ tables_1 from (List.mem_append_right _ (List.mem_append_right _ (List.mem_append_right _ (List.mem_append_right _ (List.mem_append_right _ (List.mem_append_right _ (List.mem_append_right _ (List.mem_append_right _ (List.mem_append_right _ (List.mem_append_right _ (List.mem_append_right _ (List.mem_append_right _ (List.mem_append_left _ (List.mem_of_getElem? (l := tables_1_13) (i := 72) (by decide +kernel)))))))))))))))) (by decide +kernel)
theorem d_Mo_back_0 : decode b_Mo_back 0 = .ok (.aload_n 0, 1) := by decide +kernel
theorem d_Mo_back_1 : decode b_Mo_back 1 = .ok (.aload_n 1, 1) := by decide +kernel
theorem d_Mo_back_2 : decode b_Mo_back 2 = .ok (.getfield 617, 3) := by decide +kernel
theorem d_Mo_back_5 : decode b_Mo_back 5 = .ok (.putfield 243, 3) := by decide +kernel
theorem d_Mo_back_8 : decode b_Mo_back 8 = .ok (.aload_n 1, 1) := by decide +kernel
theorem d_Mo_back_9 : decode b_Mo_back 9 = .ok (.aconst_null, 1) := by decide +kernel
theorem d_Mo_back_10 : decode b_Mo_back 10 = .ok (.putfield 617, 3) := by decide +kernel
theorem d_Mo_back_13 : decode b_Mo_back 13 = .ok (.aload_n 0, 1) := by decide +kernel
theorem d_Mo_back_14 : decode b_Mo_back 14 = .ok (.getfield 243, 3) := by decide +kernel
theorem d_Mo_back_17 : decode b_Mo_back 17 = .ok (.iconst 1, 1) := by decide +kernel
theorem d_Mo_back_18 : decode b_Mo_back 18 = .ok (.putfield 694, 3) := by decide +kernel
theorem d_Mo_back_21 : decode b_Mo_back 21 = .ok (.return_, 1) := by decide +kernel
theorem kw_230 : Cond.instanceMethod y_Mo_back ∈ wA := kinm (show _ ∈ tables_1 from (List.mem_append_right _ (List.mem_append_right _ (List.mem_append_right _ (List.mem_append_right _ (List.mem_append_right _ (List.mem_append_right _ (List.mem_append_right _ (List.mem_append_right _ (List.mem_append_right _ (List.mem_append_right _ (List.mem_append_right _ (List.mem_append_right _ (List.mem_append_left _ (List.mem_of_getElem? (l := tables_1_13) (i := 71) (by decide +kernel)))))))))))))))) (by decide +kernel)
theorem kw_231 : Cond.selects R_Mo y_Mo_back y_Mo_back ∈ wA := kinp 189 (by decide +kernel) (by decide +kernel)
def M_Mo_back (l1 : Int32) : M (Unit) :=
  oB (oGI 3590 l1) fun v2 =>
  oB (oPI 72 0 v2) fun _ =>
  oB (oPI 3590 l1 (-1)) fun _ =>
  oB (oGI 72 0) fun v14 =>
  oB (oK ((0 : Int32) ≤ v14 ∧ v14 < 33)) fun _ =>
  oB (oPI 3585 v14 1) fun _ =>
  oR ()

theorem cv_Mo_back : CV y_Mo_back b_Mo_back 2 none 1 := ⟨kw_230, kw_231, kw_17, k_Mo_back, by decide +kernel⟩
theorem ct_Mo_back {l : Launch} {P : PP} {q : PL} {s s' : S1} {l1 : Int32} (hp0 : 0 ≤ l1 ∧ l1 < 33) {r : Unit} (h : M_Mo_back l1 s = some (r, s')) : Ct l y_Mo_back b_Mo_back 2 none 0 0 P q s [.ref (q.1 0 0), .ref (q.1 28 l1)] none q s' := by
  refine ct_of (by decide) (Nat.le_of_ble_eq_true rfl) fun X ls eP el g hR hl => ?_
  have hR : Rt X q ((r, s') : Unit × S1).2 none := hR
  have hl : lv_has ls 2 [(0, .ref (q.1 0 0)), (1, .ref (q.1 28 l1))] := hl
  generalize (r, s') = o at h hR
  unfold M_Mo_back at h
  refine ww_aload_n (pc := 0) g.1 d_Mo_back_0 rfl (lv_at hl 0 rfl) ?_
  refine ww_aload_n (pc := 1) g.1 d_Mo_back_1 rfl (lv_at hl 1 rfl) ?_
  refine ww_gV (pc := 2) g (k := 6) cl_Th (pt rfl rfl hp0) (by decide) (Or.inl kw_224) (f := 3590) (t := 28) rfl rfl rfl d_Mo_back_2 h fun v2 h => ?_
  refine ww_pV (pc := 5) g (k := 72) cl_Mo (pz rfl (by decide)) (by decide) (Or.inl kw_155) rfl (f := 72) (t := 28) rfl rfl rfl rfl fits_vr d_Mo_back_5 h fun s hs h => ?_
  refine ww_aload_n (pc := 8) g.1 d_Mo_back_8 rfl (lv_at hl 1 rfl) ?_
  refine ww_null (pc := 9) g.1 d_Mo_back_9 ?_
  refine ww_st (st' := [vr q 28 (-1), .ref (q.1 28 l1)]) (by rw [vr_m1]) ?_
  refine ww_pV (pc := 10) g (k := 6) cl_Th (pt rfl rfl hp0) (by decide) (Or.inl kw_224) rfl (f := 3590) (t := 28) rfl rfl rfl rfl fits_vr d_Mo_back_10 h fun s hs h => ?_
  refine ww_aload_n (pc := 13) g.1 d_Mo_back_13 rfl (lv_at hl 0 rfl) ?_
  refine ww_gV (pc := 14) g (k := 72) cl_Mo (pz rfl (by decide)) (by decide) (Or.inl kw_155) (f := 72) (t := 28) rfl rfl rfl d_Mo_back_14 h fun v14 h => ?_
  refine ww_ok h fun cn14 h => ?_
  refine ww_nn cn14 ?_
  refine ww_iconst (pc := 17) g.1 (v := 1) d_Mo_back_17 (by decide) ?_
  refine ww_pI (pc := 18) g (k := 1) cl_Th (pt rfl rfl cn14) (by decide) (Or.inl kw_223) rfl (f := 3585) rfl rfl rfl rfl d_Mo_back_18 h fun s hs h => ?_
  exact ww_vretH (pc := 21) g h hR d_Mo_back_21

abbrev b_Mo_state : ByteArray := prog_14_method_100_code
def y_Mo_state : MethodName := ⟨R_Mo, "state", "()V"⟩
abbrev w_Mo_state : List Cond := .code y_Mo_state b_Mo_state 1 none :: wA
theorem k_Mo_state : Cond.code y_Mo_state b_Mo_state 1 none ∈ wA := kinm (show _ ∈ tables_1 from (List.mem_append_right _ (List.mem_append_right _ (List.mem_append_right _ (List.mem_append_right _ (List.mem_append_right _ (List.mem_append_right _ (List.mem_append_right _ (List.mem_append_right _ (List.mem_append_right _ (List.mem_append_right _ (List.mem_append_right _ (List.mem_append_right _ (List.mem_append_left _ (List.mem_of_getElem? (l := tables_1_13) (i := 76) (by decide +kernel)))))))))))))))) (by decide +kernel)
theorem d_Mo_state_0 : decode b_Mo_state 0 = .ok (.aload_n 0, 1) := by decide +kernel
theorem d_Mo_state_1 : decode b_Mo_state 1 = .ok (.iconst 0, 1) := by decide +kernel
theorem d_Mo_state_2 : decode b_Mo_state 2 = .ok (.bipush 7, 2) := by decide +kernel
theorem d_Mo_state_4 : decode b_Mo_state 4 = .ok (.invokevirtual 833, 3) := by decide +kernel
theorem d_Mo_state_7 : decode b_Mo_state 7 = .ok (.ifCond .ne 12, 3) := by decide +kernel
theorem d_Mo_state_10 : decode b_Mo_state 10 = .ok (.aload_n 0, 1) := by decide +kernel
theorem d_Mo_state_11 : decode b_Mo_state 11 = .ok (.iconst 2, 1) := by decide +kernel
theorem d_Mo_state_12 : decode b_Mo_state 12 = .ok (.invokevirtual 517, 3) := by decide +kernel
theorem d_Mo_state_15 : decode b_Mo_state 15 = .ok (.pop, 1) := by decide +kernel
theorem d_Mo_state_16 : decode b_Mo_state 16 = .ok (.goto 33, 3) := by decide +kernel
theorem d_Mo_state_19 : decode b_Mo_state 19 = .ok (.aload_n 0, 1) := by decide +kernel
theorem d_Mo_state_20 : decode b_Mo_state 20 = .ok (.iconst 4, 1) := by decide +kernel
theorem d_Mo_state_21 : decode b_Mo_state 21 = .ok (.aload_n 0, 1) := by decide +kernel
theorem d_Mo_state_22 : decode b_Mo_state 22 = .ok (.getfield 409, 3) := by decide +kernel
theorem d_Mo_state_25 : decode b_Mo_state 25 = .ok (.aload_n 0, 1) := by decide +kernel
theorem d_Mo_state_26 : decode b_Mo_state 26 = .ok (.getfield 239, 3) := by decide +kernel
theorem d_Mo_state_29 : decode b_Mo_state 29 = .ok (.aload_n 0, 1) := by decide +kernel
theorem d_Mo_state_30 : decode b_Mo_state 30 = .ok (.getfield 168, 3) := by decide +kernel
theorem d_Mo_state_33 : decode b_Mo_state 33 = .ok (.aload_n 0, 1) := by decide +kernel
theorem d_Mo_state_34 : decode b_Mo_state 34 = .ok (.iconst 0, 1) := by decide +kernel
theorem d_Mo_state_35 : decode b_Mo_state 35 = .ok (.invokevirtual 807, 3) := by decide +kernel
theorem d_Mo_state_38 : decode b_Mo_state 38 = .ok (.l2i, 1) := by decide +kernel
theorem d_Mo_state_39 : decode b_Mo_state 39 = .ok (.iaload, 1) := by decide +kernel
theorem d_Mo_state_40 : decode b_Mo_state 40 = .ok (.aaload, 1) := by decide +kernel
theorem d_Mo_state_41 : decode b_Mo_state 41 = .ok (.getfield 694, 3) := by decide +kernel
theorem d_Mo_state_44 : decode b_Mo_state 44 = .ok (.iaload, 1) := by decide +kernel
theorem d_Mo_state_45 : decode b_Mo_state 45 = .ok (.i2l, 1) := by decide +kernel
theorem d_Mo_state_46 : decode b_Mo_state 46 = .ok (.invokevirtual 804, 3) := by decide +kernel
theorem d_Mo_state_49 : decode b_Mo_state 49 = .ok (.return_, 1) := by decide +kernel
theorem kw_232 : Cond.fieldLink R_Mo 409 "LuaMachineModel" "stateName" "[I" ∈ wA := kinm (show _ ∈ tables_1 from (List.mem_append_right _ (List.mem_append_right _ (List.mem_append_right _ (List.mem_append_right _ (List.mem_append_right _ (List.mem_append_right _ (List.mem_append_right _ (List.mem_append_right _ (List.mem_append_right _ (List.mem_append_left _ (List.mem_of_getElem? (l := tables_1_10) (i := 145) (by decide +kernel))))))))))))) (by decide +kernel)
theorem kw_233 : Cond.instanceMethod y_Mo_state ∈ wA := kinm (show _ ∈ tables_1 from (List.mem_append_right _ (List.mem_append_right _ (List.mem_append_right _ (List.mem_append_right _ (List.mem_append_right _ (List.mem_append_right _ (List.mem_append_right _ (List.mem_append_right _ (List.mem_append_right _ (List.mem_append_right _ (List.mem_append_right _ (List.mem_append_right _ (List.mem_append_left _ (List.mem_of_getElem? (l := tables_1_13) (i := 75) (by decide +kernel)))))))))))))))) (by decide +kernel)
theorem kw_234 : Cond.selects R_Mo y_Mo_state y_Mo_state ∈ wA := kinp 190 (by decide +kernel) (by decide +kernel)
def M_Mo_state  : M (Unit) :=
  oB (M_Mo_is 0 7) fun v4 =>
  oC (v4 = 0)
    (oB (M_Mo_raise 2) fun v12 =>
    oR ())
    (oB (M_Mo_av 0) fun v35 =>
    oB (oAI 62 4100 0 v35.toInt32) fun v39 =>
    oB (oK ((0 : Int32) ≤ v39 ∧ v39 < 33)) fun _ =>
    oB (oGI 3585 v39) fun v41 =>
    oB (oAI 84 4 0 v41) fun v44 =>
    oB (M_Mo_give 4 v44.toInt64) fun _ =>
    oR ())

theorem cv_Mo_state : CV y_Mo_state b_Mo_state 1 none 0 := ⟨kw_233, kw_234, kw_17, k_Mo_state, by decide +kernel⟩
theorem ct_Mo_state {l : Launch} {P : PP} {q : PL} {s s' : S1}  {r : Unit} (h : M_Mo_state s = some (r, s')) : Ct l y_Mo_state b_Mo_state 1 none 2 46 P q s [.ref (q.1 0 0)] none q s' := by
  refine ct_of (by decide) (Nat.le_of_ble_eq_true rfl) fun X ls eP el g hR hl => ?_
  have hR : Rt X q ((r, s') : Unit × S1).2 none := hR
  have hl : lv_has ls 1 [(0, .ref (q.1 0 0))] := hl
  generalize (r, s') = o at h hR
  unfold M_Mo_state at h
  refine ww_aload_n (pc := 0) g.1 d_Mo_state_0 rfl (lv_at hl 0 rfl) ?_
  refine ww_iconst (pc := 1) g.1 (v := 0) d_Mo_state_1 (by decide) ?_
  refine ww_bipush (pc := 2) g.1 (v := 7) d_Mo_state_2 (by decide) ?_
  obtain ⟨v4, s, hc4, h⟩ := oB_of h
  refine ww_callV (pc := 4) (rest := []) g cv_Mo_is (Or.inl kw_212) cl_Mo (pz rfl (by decide)) (ct_Mo_is hc4) ⟨by decide, by decide⟩ rfl hl.1 (Nat.le_of_ble_eq_true rfl) d_Mo_state_4 rfl ?_
  refine ww_st (st' := [.int v4]) rfl ?_
  refine ww_if_ne (pc := 7) (tgt := 19) g.1 d_Mo_state_7 (by decide) h (fun c h => ?_) (fun c h => ?_)
  · refine ww_aload_n (pc := 19) g.1 d_Mo_state_19 rfl (lv_at hl 0 rfl) ?_
    refine ww_iconst (pc := 20) g.1 (v := 4) d_Mo_state_20 (by decide) ?_
    refine ww_aload_n (pc := 21) g.1 d_Mo_state_21 rfl (lv_at hl 0 rfl) ?_
    refine ww_gR (pc := 22) g (k := 89) cl_Mo (pz rfl (by decide)) (by decide) (Or.inl kw_232) (f := 89) (t := 84) rfl rfl rfl d_Mo_state_22 ?_
    refine ww_aload_n (pc := 25) g.1 d_Mo_state_25 rfl (lv_at hl 0 rfl) ?_
    refine ww_gR (pc := 26) g (k := 71) cl_Mo (pz rfl (by decide)) (by decide) (Or.inl kw_90) (f := 71) (t := 76) rfl rfl rfl d_Mo_state_26 ?_
    refine ww_aload_n (pc := 29) g.1 d_Mo_state_29 rfl (lv_at hl 0 rfl) ?_
    refine ww_gR (pc := 30) g (k := 49) cl_Mo (pz rfl (by decide)) (by decide) (Or.inl kw_89) (f := 49) (t := 62) rfl rfl rfl d_Mo_state_30 ?_
    refine ww_aload_n (pc := 33) g.1 d_Mo_state_33 rfl (lv_at hl 0 rfl) ?_
    refine ww_iconst (pc := 34) g.1 (v := 0) d_Mo_state_34 (by decide) ?_
    obtain ⟨v35, s, hc35, h⟩ := oB_of h
    refine ww_callV (pc := 35) (rest := [.ref (q.1 62 0), .ref (q.1 76 0), .ref (q.1 84 0), .int 4, .ref (q.1 0 0)]) g cv_Mo_av (Or.inl kw_199) cl_Mo (pz rfl (by decide)) (ct_Mo_av hc35) ⟨by decide, by decide⟩ rfl hl.1 (Nat.le_of_ble_eq_true rfl) d_Mo_state_35 rfl ?_
    refine ww_st (st' := [.long v35, .ref (q.1 62 0), .ref (q.1 76 0), .ref (q.1 84 0), .int 4, .ref (q.1 0 0)]) rfl ?_
    refine ww_l2i (pc := 38) g.1 (v := v35.toInt32) d_Mo_state_38 rfl ?_
    refine ww_ai (pc := 39) g (pz rfl (by decide)) rfl rfl d_Mo_state_39 h fun v39 h => ?_
    refine ww_at (pc := 40) g (t := 28) (pz rfl (by decide)) rfl rfl rfl d_Mo_state_40 h fun ca40 h => ?_
    refine ww_gI (pc := 41) g (k := 1) cl_Th (pt rfl rfl ca40) (by decide) (Or.inl kw_223) (f := 3585) rfl rfl d_Mo_state_41 h fun v41 h => ?_
    refine ww_ai (pc := 44) g (pz rfl (by decide)) rfl rfl d_Mo_state_44 h fun v44 h => ?_
    refine ww_i2l (pc := 45) g.1 (v := v44.toInt64) d_Mo_state_45 rfl ?_
    obtain ⟨v46, s, hc46, h⟩ := oB_of h
    refine ww_callV (pc := 46) (rest := []) g cv_Mo_give (Or.inl kw_218) cl_Mo (pz rfl (by decide)) (ct_Mo_give hc46) ⟨by decide, by decide⟩ rfl hl.1 (Nat.le_of_ble_eq_true rfl) d_Mo_state_46 rfl ?_
    refine ww_st (st' := []) rfl ?_
    exact ww_vretH (pc := 49) g h hR d_Mo_state_49
  · refine ww_aload_n (pc := 10) g.1 d_Mo_state_10 rfl (lv_at hl 0 rfl) ?_
    refine ww_iconst (pc := 11) g.1 (v := 2) d_Mo_state_11 (by decide) ?_
    obtain ⟨v12, s, hc12, h⟩ := oB_of h
    refine ww_callV (pc := 12) (rest := []) g cv_Mo_raise (Or.inl kw_162) cl_Mo (pz rfl (by decide)) (ct_Mo_raise hc12) ⟨by decide, by decide⟩ rfl hl.1 (Nat.le_of_ble_eq_true rfl) d_Mo_state_12 rfl ?_
    refine ww_st (st' := [.int v12]) rfl ?_
    refine ww_pop (pc := 15) g.1 d_Mo_state_15 rfl ?_
    refine ww_goto (pc := 16) (tgt := 49) g.1 d_Mo_state_16 (by decide) ?_
    exact ww_vretH (pc := 49) g h hR d_Mo_state_49

abbrev b_Mo_running : ByteArray := prog_14_method_101_code
def y_Mo_running : MethodName := ⟨R_Mo, "running", "()V"⟩
abbrev w_Mo_running : List Cond := .code y_Mo_running b_Mo_running 1 none :: wA
theorem k_Mo_running : Cond.code y_Mo_running b_Mo_running 1 none ∈ wA := kinm (show _ ∈ tables_1 from (List.mem_append_right _ (List.mem_append_right _ (List.mem_append_right _ (List.mem_append_right _ (List.mem_append_right _ (List.mem_append_right _ (List.mem_append_right _ (List.mem_append_right _ (List.mem_append_right _ (List.mem_append_right _ (List.mem_append_right _ (List.mem_append_right _ (List.mem_append_left _ (List.mem_of_getElem? (l := tables_1_13) (i := 80) (by decide +kernel)))))))))))))))) (by decide +kernel)
theorem d_Mo_running_0 : decode b_Mo_running 0 = .ok (.aload_n 0, 1) := by decide +kernel
theorem d_Mo_running_1 : decode b_Mo_running 1 = .ok (.bipush 7, 2) := by decide +kernel
theorem d_Mo_running_3 : decode b_Mo_running 3 = .ok (.aload_n 0, 1) := by decide +kernel
theorem d_Mo_running_4 : decode b_Mo_running 4 = .ok (.getfield 243, 3) := by decide +kernel
theorem d_Mo_running_7 : decode b_Mo_running 7 = .ok (.getfield 615, 3) := by decide +kernel
theorem d_Mo_running_10 : decode b_Mo_running 10 = .ok (.i2l, 1) := by decide +kernel
theorem d_Mo_running_11 : decode b_Mo_running 11 = .ok (.invokevirtual 804, 3) := by decide +kernel
theorem d_Mo_running_14 : decode b_Mo_running 14 = .ok (.aload_n 0, 1) := by decide +kernel
theorem d_Mo_running_15 : decode b_Mo_running 15 = .ok (.getfield 262, 3) := by decide +kernel
theorem d_Mo_running_18 : decode b_Mo_running 18 = .ok (.aload_n 0, 1) := by decide +kernel
theorem d_Mo_running_19 : decode b_Mo_running 19 = .ok (.getfield 243, 3) := by decide +kernel
theorem d_Mo_running_22 : decode b_Mo_running 22 = .ok (.aload_n 0, 1) := by decide +kernel
theorem d_Mo_running_23 : decode b_Mo_running 23 = .ok (.getfield 239, 3) := by decide +kernel
theorem d_Mo_running_26 : decode b_Mo_running 26 = .ok (.iconst 0, 1) := by decide +kernel
theorem d_Mo_running_27 : decode b_Mo_running 27 = .ok (.aaload, 1) := by decide +kernel
theorem d_Mo_running_28 : decode b_Mo_running 28 = .ok (.if_acmp .ne 7, 3) := by decide +kernel
theorem d_Mo_running_31 : decode b_Mo_running 31 = .ok (.iconst 2, 1) := by decide +kernel
theorem d_Mo_running_32 : decode b_Mo_running 32 = .ok (.goto 4, 3) := by decide +kernel
theorem d_Mo_running_35 : decode b_Mo_running 35 = .ok (.iconst 1, 1) := by decide +kernel
theorem d_Mo_running_36 : decode b_Mo_running 36 = .ok (.lconst 0, 1) := by decide +kernel
theorem d_Mo_running_37 : decode b_Mo_running 37 = .ok (.invokevirtual 572, 3) := by decide +kernel
theorem d_Mo_running_40 : decode b_Mo_running 40 = .ok (.return_, 1) := by decide +kernel
theorem kw_235 : Cond.instanceMethod y_Mo_running ∈ wA := kinm (show _ ∈ tables_1 from (List.mem_append_right _ (List.mem_append_right _ (List.mem_append_right _ (List.mem_append_right _ (List.mem_append_right _ (List.mem_append_right _ (List.mem_append_right _ (List.mem_append_right _ (List.mem_append_right _ (List.mem_append_right _ (List.mem_append_right _ (List.mem_append_right _ (List.mem_append_left _ (List.mem_of_getElem? (l := tables_1_13) (i := 79) (by decide +kernel)))))))))))))))) (by decide +kernel)
theorem kw_236 : Cond.selects R_Mo y_Mo_running y_Mo_running ∈ wA := kinp 191 (by decide +kernel) (by decide +kernel)
def M_Mo_running_j36 (k0 : Int32) : M (Unit) :=
  oB (M_Va_add 10 0 k0 0) fun _ =>
  oR ()

def M_Mo_running  : M (Unit) :=
  oB (oGI 72 0) fun v4 =>
  oB (oK ((0 : Int32) ≤ v4 ∧ v4 < 33)) fun _ =>
  oB (oGI 3584 v4) fun v7 =>
  oB (M_Mo_give 7 v7.toInt64) fun _ =>
  oB (oGI 72 0) fun v19 =>
  oB (oK ((0 : Int32) ≤ v19 ∧ v19 < 33)) fun _ =>
  oB (oK ((0 : Int32) ≤ 0 ∧ 0 < 33)) fun _ =>
  oC (v19 = 0)
    (M_Mo_running_j36 2)
    (M_Mo_running_j36 1)

theorem cv_Mo_running : CV y_Mo_running b_Mo_running 1 none 0 := ⟨kw_235, kw_236, kw_17, k_Mo_running, by decide +kernel⟩
theorem j_Mo_running_j36 {X : Cx} {q : PL} (g : Gd X y_Mo_running b_Mo_running 1 none 2 46 R_Mo) {o : (Unit) × S1} (hR : Rt X q o.2 none) (k0 : Int32) (s : S1) (ls : Array Slot) (hl : lv_has ls 1 []) (h : M_Mo_running_j36 k0 s = some o) : WW X q s 36 ls [.int k0, .ref (q.1 10 0)] := by
  unfold M_Mo_running_j36 at h
  refine ww_lconst (pc := 36) g.1 (v := 0) d_Mo_running_36 (by decide) ?_
  obtain ⟨v37, s, hc37, h⟩ := oB_of h
  refine ww_callV (pc := 37) (rest := []) g cv_Va_add (Or.inl kw_193) (cl_Va (Or.inl ⟨by decide, rfl⟩)) (pz rfl (by decide)) (ct_Va_add (Or.inl ⟨by decide, rfl⟩) hc37) ⟨by decide, by decide⟩ rfl hl.1 (Nat.le_of_ble_eq_true rfl) d_Mo_running_37 rfl ?_
  refine ww_st (st' := []) rfl ?_
  exact ww_vretH (pc := 40) g h hR d_Mo_running_40

theorem ct_Mo_running {l : Launch} {P : PP} {q : PL} {s s' : S1}  {r : Unit} (h : M_Mo_running s = some (r, s')) : Ct l y_Mo_running b_Mo_running 1 none 2 46 P q s [.ref (q.1 0 0)] none q s' := by
  refine ct_of (by decide) (Nat.le_of_ble_eq_true rfl) fun X ls eP el g hR hl => ?_
  have hR : Rt X q ((r, s') : Unit × S1).2 none := hR
  have hl : lv_has ls 1 [(0, .ref (q.1 0 0))] := hl
  generalize (r, s') = o at h hR
  unfold M_Mo_running at h
  refine ww_aload_n (pc := 0) g.1 d_Mo_running_0 rfl (lv_at hl 0 rfl) ?_
  refine ww_bipush (pc := 1) g.1 (v := 7) d_Mo_running_1 (by decide) ?_
  refine ww_aload_n (pc := 3) g.1 d_Mo_running_3 rfl (lv_at hl 0 rfl) ?_
  refine ww_gV (pc := 4) g (k := 72) cl_Mo (pz rfl (by decide)) (by decide) (Or.inl kw_155) (f := 72) (t := 28) rfl rfl rfl d_Mo_running_4 h fun v4 h => ?_
  refine ww_ok h fun cn4 h => ?_
  refine ww_nn cn4 ?_
  refine ww_gI (pc := 7) g (k := 0) cl_Th (pt rfl rfl cn4) (by decide) (Or.inl kw_222) (f := 3584) rfl rfl d_Mo_running_7 h fun v7 h => ?_
  refine ww_i2l (pc := 10) g.1 (v := v7.toInt64) d_Mo_running_10 rfl ?_
  obtain ⟨v11, s, hc11, h⟩ := oB_of h
  refine ww_callV (pc := 11) (rest := []) g cv_Mo_give (Or.inl kw_218) cl_Mo (pz rfl (by decide)) (ct_Mo_give hc11) ⟨by decide, by decide⟩ rfl hl.1 (Nat.le_of_ble_eq_true rfl) d_Mo_running_11 rfl ?_
  refine ww_st (st' := []) rfl ?_
  refine ww_aload_n (pc := 14) g.1 d_Mo_running_14 rfl (lv_at hl 0 rfl) ?_
  refine ww_gR (pc := 15) g (k := 78) cl_Mo (pz rfl (by decide)) (by decide) (Or.inl kw_184) (f := 78) (t := 10) rfl rfl rfl d_Mo_running_15 ?_
  refine ww_aload_n (pc := 18) g.1 d_Mo_running_18 rfl (lv_at hl 0 rfl) ?_
  refine ww_gV (pc := 19) g (k := 72) cl_Mo (pz rfl (by decide)) (by decide) (Or.inl kw_155) (f := 72) (t := 28) rfl rfl rfl d_Mo_running_19 h fun v19 h => ?_
  refine ww_ok h fun cn19 h => ?_
  refine ww_nn cn19 ?_
  refine ww_aload_n (pc := 22) g.1 d_Mo_running_22 rfl (lv_at hl 0 rfl) ?_
  refine ww_gR (pc := 23) g (k := 71) cl_Mo (pz rfl (by decide)) (by decide) (Or.inl kw_90) (f := 71) (t := 76) rfl rfl rfl d_Mo_running_23 ?_
  refine ww_iconst (pc := 26) g.1 (v := 0) d_Mo_running_26 (by decide) ?_
  refine ww_at (pc := 27) g (t := 28) (pz rfl (by decide)) rfl rfl rfl d_Mo_running_27 h fun ca27 h => ?_
  refine ww_acmp_ne (pc := 28) (tgt := 35) g.1 (pt rfl rfl cn19) (pt rfl rfl ca27) d_Mo_running_28 (by decide) h (fun c h => ?_) (fun c h => ?_)
  · refine ww_iconst (pc := 35) g.1 (v := 1) d_Mo_running_35 (by decide) ?_
    exact j_Mo_running_j36 g hR 1 s ls (lv_sub hl [] rfl) h
  · refine ww_iconst (pc := 31) g.1 (v := 2) d_Mo_running_31 (by decide) ?_
    refine ww_goto (pc := 32) (tgt := 36) g.1 d_Mo_running_32 (by decide) ?_
    exact j_Mo_running_j36 g hR 2 s ls (lv_sub hl [] rfl) h

abbrev b_Mo_deliver : ByteArray := prog_14_method_73_code
def y_Mo_deliver : MethodName := ⟨R_Mo, "deliver", "()V"⟩
abbrev w_Mo_deliver : List Cond := .code y_Mo_deliver b_Mo_deliver 4 none :: wA
set_option maxRecDepth 20000 in
theorem k_Mo_deliver : Cond.code y_Mo_deliver b_Mo_deliver 4 none ∈ wA := kinm (show _ ∈ tables_1 from (List.mem_append_right _ (List.mem_append_right _ (List.mem_append_right _ (List.mem_append_right _ (List.mem_append_right _ (List.mem_append_right _ (List.mem_append_right _ (List.mem_append_right _ (List.mem_append_right _ (List.mem_append_right _ (List.mem_append_right _ (List.mem_append_right _ (List.mem_append_left _ (List.mem_of_getElem? (l := tables_1_13) (i := 84) rfl))))))))))))))) rfl
theorem d_Mo_deliver_0 : decode b_Mo_deliver 0 = .ok (.aload_n 0, 1) := by decide +kernel
theorem d_Mo_deliver_1 : decode b_Mo_deliver 1 = .ok (.iconst 0, 1) := by decide +kernel
theorem d_Mo_deliver_2 : decode b_Mo_deliver 2 = .ok (.putfield 247, 3) := by decide +kernel
theorem d_Mo_deliver_5 : decode b_Mo_deliver 5 = .ok (.aload_n 0, 1) := by decide +kernel
theorem d_Mo_deliver_6 : decode b_Mo_deliver 6 = .ok (.getfield 243, 3) := by decide +kernel
theorem d_Mo_deliver_9 : decode b_Mo_deliver 9 = .ok (.astore_n 1, 1) := by decide +kernel
theorem d_Mo_deliver_10 : decode b_Mo_deliver 10 = .ok (.aload_n 1, 1) := by decide +kernel
theorem d_Mo_deliver_11 : decode b_Mo_deliver 11 = .ok (.getfield 730, 3) := by decide +kernel
theorem d_Mo_deliver_14 : decode b_Mo_deliver 14 = .ok (.ifCond .ne 8, 3) := by decide +kernel
theorem d_Mo_deliver_17 : decode b_Mo_deliver 17 = .ok (.aload_n 0, 1) := by decide +kernel
theorem d_Mo_deliver_18 : decode b_Mo_deliver 18 = .ok (.invokevirtual 761, 3) := by decide +kernel
theorem d_Mo_deliver_21 : decode b_Mo_deliver 21 = .ok (.return_, 1) := by decide +kernel
theorem d_Mo_deliver_22 : decode b_Mo_deliver 22 = .ok (.aload_n 1, 1) := by decide +kernel
theorem d_Mo_deliver_23 : decode b_Mo_deliver 23 = .ok (.invokevirtual 703, 3) := by decide +kernel
theorem d_Mo_deliver_26 : decode b_Mo_deliver 26 = .ok (.istore_n 2, 1) := by decide +kernel
theorem d_Mo_deliver_27 : decode b_Mo_deliver 27 = .ok (.aload_n 1, 1) := by decide +kernel
theorem d_Mo_deliver_28 : decode b_Mo_deliver 28 = .ok (.getfield 733, 3) := by decide +kernel
theorem d_Mo_deliver_31 : decode b_Mo_deliver 31 = .ok (.iload_n 2, 1) := by decide +kernel
theorem d_Mo_deliver_32 : decode b_Mo_deliver 32 = .ok (.iaload, 1) := by decide +kernel
theorem d_Mo_deliver_33 : decode b_Mo_deliver 33 = .ok (.tableswitch 215 0 4 #[35, 44, 44, 215, 149], 35) := by decide +kernel
theorem d_Mo_deliver_68 : decode b_Mo_deliver 68 = .ok (.aload_n 0, 1) := by decide +kernel
theorem d_Mo_deliver_69 : decode b_Mo_deliver 69 = .ok (.aload_n 1, 1) := by decide +kernel
theorem d_Mo_deliver_70 : decode b_Mo_deliver 70 = .ok (.iload_n 2, 1) := by decide +kernel
theorem d_Mo_deliver_71 : decode b_Mo_deliver 71 = .ok (.invokevirtual 764, 3) := by decide +kernel
theorem d_Mo_deliver_74 : decode b_Mo_deliver 74 = .ok (.goto 189, 3) := by decide +kernel
theorem d_Mo_deliver_77 : decode b_Mo_deliver 77 = .ok (.aload_n 1, 1) := by decide +kernel
theorem d_Mo_deliver_78 : decode b_Mo_deliver 78 = .ok (.dup, 1) := by decide +kernel
theorem d_Mo_deliver_79 : decode b_Mo_deliver 79 = .ok (.getfield 730, 3) := by decide +kernel
theorem d_Mo_deliver_82 : decode b_Mo_deliver 82 = .ok (.iconst 1, 1) := by decide +kernel
theorem d_Mo_deliver_83 : decode b_Mo_deliver 83 = .ok (.isub, 1) := by decide +kernel
theorem d_Mo_deliver_84 : decode b_Mo_deliver 84 = .ok (.putfield 730, 3) := by decide +kernel
theorem d_Mo_deliver_87 : decode b_Mo_deliver 87 = .ok (.aload_n 0, 1) := by decide +kernel
theorem d_Mo_deliver_88 : decode b_Mo_deliver 88 = .ok (.getfield 262, 3) := by decide +kernel
theorem d_Mo_deliver_91 : decode b_Mo_deliver 91 = .ok (.getfield 569, 3) := by decide +kernel
theorem d_Mo_deliver_94 : decode b_Mo_deliver 94 = .ok (.sipush 250, 3) := by decide +kernel
theorem d_Mo_deliver_97 : decode b_Mo_deliver 97 = .ok (.if_icmp .ne 21, 3) := by decide +kernel
theorem d_Mo_deliver_100 : decode b_Mo_deliver 100 = .ok (.aload_n 0, 1) := by decide +kernel
theorem d_Mo_deliver_101 : decode b_Mo_deliver 101 = .ok (.getfield 262, 3) := by decide +kernel
theorem d_Mo_deliver_104 : decode b_Mo_deliver 104 = .ok (.iconst 0, 1) := by decide +kernel
theorem d_Mo_deliver_105 : decode b_Mo_deliver 105 = .ok (.putfield 569, 3) := by decide +kernel
theorem d_Mo_deliver_108 : decode b_Mo_deliver 108 = .ok (.aload_n 0, 1) := by decide +kernel
theorem d_Mo_deliver_109 : decode b_Mo_deliver 109 = .ok (.bipush 7, 2) := by decide +kernel
theorem d_Mo_deliver_111 : decode b_Mo_deliver 111 = .ok (.invokevirtual 517, 3) := by decide +kernel
theorem d_Mo_deliver_114 : decode b_Mo_deliver 114 = .ok (.pop, 1) := by decide +kernel
theorem d_Mo_deliver_115 : decode b_Mo_deliver 115 = .ok (.goto 148, 3) := by decide +kernel
theorem d_Mo_deliver_118 : decode b_Mo_deliver 118 = .ok (.aload_n 0, 1) := by decide +kernel
theorem d_Mo_deliver_119 : decode b_Mo_deliver 119 = .ok (.getfield 262, 3) := by decide +kernel
theorem d_Mo_deliver_122 : decode b_Mo_deliver 122 = .ok (.getfield 569, 3) := by decide +kernel
theorem d_Mo_deliver_125 : decode b_Mo_deliver 125 = .ok (.istore_n 3, 1) := by decide +kernel
theorem d_Mo_deliver_126 : decode b_Mo_deliver 126 = .ok (.iload_n 3, 1) := by decide +kernel
theorem d_Mo_deliver_127 : decode b_Mo_deliver 127 = .ok (.ifCond .le 24, 3) := by decide +kernel
theorem d_Mo_deliver_130 : decode b_Mo_deliver 130 = .ok (.aload_n 0, 1) := by decide +kernel
theorem d_Mo_deliver_131 : decode b_Mo_deliver 131 = .ok (.getfield 262, 3) := by decide +kernel
theorem d_Mo_deliver_134 : decode b_Mo_deliver 134 = .ok (.iload_n 3, 1) := by decide +kernel
theorem d_Mo_deliver_135 : decode b_Mo_deliver 135 = .ok (.aload_n 0, 1) := by decide +kernel
theorem d_Mo_deliver_136 : decode b_Mo_deliver 136 = .ok (.getfield 262, 3) := by decide +kernel
theorem d_Mo_deliver_139 : decode b_Mo_deliver 139 = .ok (.iload_n 3, 1) := by decide +kernel
theorem d_Mo_deliver_140 : decode b_Mo_deliver 140 = .ok (.iconst 1, 1) := by decide +kernel
theorem d_Mo_deliver_141 : decode b_Mo_deliver 141 = .ok (.isub, 1) := by decide +kernel
theorem d_Mo_deliver_142 : decode b_Mo_deliver 142 = .ok (.invokevirtual 719, 3) := by decide +kernel
theorem d_Mo_deliver_145 : decode b_Mo_deliver 145 = .ok (.iinc 3 (-1), 3) := by decide +kernel
theorem d_Mo_deliver_148 : decode b_Mo_deliver 148 = .ok (.goto (-22), 3) := by decide +kernel
theorem d_Mo_deliver_151 : decode b_Mo_deliver 151 = .ok (.aload_n 0, 1) := by decide +kernel
theorem d_Mo_deliver_152 : decode b_Mo_deliver 152 = .ok (.getfield 262, 3) := by decide +kernel
theorem d_Mo_deliver_155 : decode b_Mo_deliver 155 = .ok (.iconst 0, 1) := by decide +kernel
theorem d_Mo_deliver_156 : decode b_Mo_deliver 156 = .ok (.iconst 2, 1) := by decide +kernel
theorem d_Mo_deliver_157 : decode b_Mo_deliver 157 = .ok (.lconst 0, 1) := by decide +kernel
theorem d_Mo_deliver_158 : decode b_Mo_deliver 158 = .ok (.invokevirtual 470, 3) := by decide +kernel
theorem d_Mo_deliver_161 : decode b_Mo_deliver 161 = .ok (.aload_n 0, 1) := by decide +kernel
theorem d_Mo_deliver_162 : decode b_Mo_deliver 162 = .ok (.getfield 262, 3) := by decide +kernel
theorem d_Mo_deliver_165 : decode b_Mo_deliver 165 = .ok (.dup, 1) := by decide +kernel
theorem d_Mo_deliver_166 : decode b_Mo_deliver 166 = .ok (.getfield 569, 3) := by decide +kernel
theorem d_Mo_deliver_169 : decode b_Mo_deliver 169 = .ok (.iconst 1, 1) := by decide +kernel
theorem d_Mo_deliver_170 : decode b_Mo_deliver 170 = .ok (.iadd, 1) := by decide +kernel
theorem d_Mo_deliver_171 : decode b_Mo_deliver 171 = .ok (.putfield 569, 3) := by decide +kernel
theorem d_Mo_deliver_174 : decode b_Mo_deliver 174 = .ok (.aload_n 0, 1) := by decide +kernel
theorem d_Mo_deliver_175 : decode b_Mo_deliver 175 = .ok (.iconst 2, 1) := by decide +kernel
theorem d_Mo_deliver_176 : decode b_Mo_deliver 176 = .ok (.putfield 247, 3) := by decide +kernel
theorem d_Mo_deliver_179 : decode b_Mo_deliver 179 = .ok (.goto 84, 3) := by decide +kernel
theorem d_Mo_deliver_182 : decode b_Mo_deliver 182 = .ok (.aload_n 1, 1) := by decide +kernel
theorem d_Mo_deliver_183 : decode b_Mo_deliver 183 = .ok (.dup, 1) := by decide +kernel
theorem d_Mo_deliver_184 : decode b_Mo_deliver 184 = .ok (.getfield 730, 3) := by decide +kernel
theorem d_Mo_deliver_187 : decode b_Mo_deliver 187 = .ok (.iconst 1, 1) := by decide +kernel
theorem d_Mo_deliver_188 : decode b_Mo_deliver 188 = .ok (.isub, 1) := by decide +kernel
theorem d_Mo_deliver_189 : decode b_Mo_deliver 189 = .ok (.putfield 730, 3) := by decide +kernel
theorem d_Mo_deliver_192 : decode b_Mo_deliver 192 = .ok (.aload_n 0, 1) := by decide +kernel
theorem d_Mo_deliver_193 : decode b_Mo_deliver 193 = .ok (.getfield 262, 3) := by decide +kernel
theorem d_Mo_deliver_196 : decode b_Mo_deliver 196 = .ok (.getfield 569, 3) := by decide +kernel
theorem d_Mo_deliver_199 : decode b_Mo_deliver 199 = .ok (.ifCond .eq 16, 3) := by decide +kernel
theorem d_Mo_deliver_202 : decode b_Mo_deliver 202 = .ok (.aload_n 0, 1) := by decide +kernel
theorem d_Mo_deliver_203 : decode b_Mo_deliver 203 = .ok (.getfield 262, 3) := by decide +kernel
theorem d_Mo_deliver_206 : decode b_Mo_deliver 206 = .ok (.getfield 585, 3) := by decide +kernel
theorem d_Mo_deliver_209 : decode b_Mo_deliver 209 = .ok (.iconst 0, 1) := by decide +kernel
theorem d_Mo_deliver_210 : decode b_Mo_deliver 210 = .ok (.baload, 1) := by decide +kernel
theorem d_Mo_deliver_211 : decode b_Mo_deliver 211 = .ok (.iconst 4, 1) := by decide +kernel
theorem d_Mo_deliver_212 : decode b_Mo_deliver 212 = .ok (.if_icmp .eq 20, 3) := by decide +kernel
theorem d_Mo_deliver_215 : decode b_Mo_deliver 215 = .ok (.aload_n 0, 1) := by decide +kernel
theorem d_Mo_deliver_216 : decode b_Mo_deliver 216 = .ok (.getfield 262, 3) := by decide +kernel
theorem d_Mo_deliver_219 : decode b_Mo_deliver 219 = .ok (.iconst 0, 1) := by decide +kernel
theorem d_Mo_deliver_220 : decode b_Mo_deliver 220 = .ok (.putfield 569, 3) := by decide +kernel
theorem d_Mo_deliver_223 : decode b_Mo_deliver 223 = .ok (.aload_n 0, 1) := by decide +kernel
theorem d_Mo_deliver_224 : decode b_Mo_deliver 224 = .ok (.iconst 3, 1) := by decide +kernel
theorem d_Mo_deliver_225 : decode b_Mo_deliver 225 = .ok (.invokevirtual 517, 3) := by decide +kernel
theorem d_Mo_deliver_228 : decode b_Mo_deliver 228 = .ok (.pop, 1) := by decide +kernel
theorem d_Mo_deliver_229 : decode b_Mo_deliver 229 = .ok (.goto 34, 3) := by decide +kernel
theorem d_Mo_deliver_232 : decode b_Mo_deliver 232 = .ok (.aload_n 0, 1) := by decide +kernel
theorem d_Mo_deliver_233 : decode b_Mo_deliver 233 = .ok (.getfield 262, 3) := by decide +kernel
theorem d_Mo_deliver_236 : decode b_Mo_deliver 236 = .ok (.iconst 1, 1) := by decide +kernel
theorem d_Mo_deliver_237 : decode b_Mo_deliver 237 = .ok (.putfield 569, 3) := by decide +kernel
theorem d_Mo_deliver_240 : decode b_Mo_deliver 240 = .ok (.aload_n 0, 1) := by decide +kernel
theorem d_Mo_deliver_241 : decode b_Mo_deliver 241 = .ok (.iconst 2, 1) := by decide +kernel
theorem d_Mo_deliver_242 : decode b_Mo_deliver 242 = .ok (.putfield 247, 3) := by decide +kernel
theorem d_Mo_deliver_245 : decode b_Mo_deliver 245 = .ok (.goto 18, 3) := by decide +kernel
theorem d_Mo_deliver_248 : decode b_Mo_deliver 248 = .ok (.aload_n 1, 1) := by decide +kernel
theorem d_Mo_deliver_249 : decode b_Mo_deliver 249 = .ok (.dup, 1) := by decide +kernel
theorem d_Mo_deliver_250 : decode b_Mo_deliver 250 = .ok (.getfield 730, 3) := by decide +kernel
theorem d_Mo_deliver_253 : decode b_Mo_deliver 253 = .ok (.iconst 1, 1) := by decide +kernel
theorem d_Mo_deliver_254 : decode b_Mo_deliver 254 = .ok (.isub, 1) := by decide +kernel
theorem d_Mo_deliver_255 : decode b_Mo_deliver 255 = .ok (.putfield 730, 3) := by decide +kernel
theorem d_Mo_deliver_258 : decode b_Mo_deliver 258 = .ok (.aload_n 0, 1) := by decide +kernel
theorem d_Mo_deliver_259 : decode b_Mo_deliver 259 = .ok (.iconst 2, 1) := by decide +kernel
theorem d_Mo_deliver_260 : decode b_Mo_deliver 260 = .ok (.putfield 247, 3) := by decide +kernel
theorem d_Mo_deliver_263 : decode b_Mo_deliver 263 = .ok (.return_, 1) := by decide +kernel
abbrev b_Mo_finished : ByteArray := prog_14_method_75_code
def y_Mo_finished : MethodName := ⟨R_Mo, "finished", "()V"⟩
abbrev w_Mo_finished : List Cond := .code y_Mo_finished b_Mo_finished 3 none :: wA
theorem k_Mo_finished : Cond.code y_Mo_finished b_Mo_finished 3 none ∈ wA := kinm (show _ ∈ tables_1 from (List.mem_append_right _ (List.mem_append_right _ (List.mem_append_right _ (List.mem_append_right _ (List.mem_append_right _ (List.mem_append_right _ (List.mem_append_right _ (List.mem_append_right _ (List.mem_append_right _ (List.mem_append_right _ (List.mem_append_right _ (List.mem_append_right _ (List.mem_append_left _ (List.mem_of_getElem? (l := tables_1_13) (i := 88) (by decide +kernel)))))))))))))))) (by decide +kernel)
theorem d_Mo_finished_0 : decode b_Mo_finished 0 = .ok (.aload_n 0, 1) := by decide +kernel
theorem d_Mo_finished_1 : decode b_Mo_finished 1 = .ok (.getfield 243, 3) := by decide +kernel
theorem d_Mo_finished_4 : decode b_Mo_finished 4 = .ok (.astore_n 1, 1) := by decide +kernel
theorem d_Mo_finished_5 : decode b_Mo_finished 5 = .ok (.aload_n 1, 1) := by decide +kernel
theorem d_Mo_finished_6 : decode b_Mo_finished 6 = .ok (.iconst 3, 1) := by decide +kernel
theorem d_Mo_finished_7 : decode b_Mo_finished 7 = .ok (.putfield 694, 3) := by decide +kernel
theorem d_Mo_finished_10 : decode b_Mo_finished 10 = .ok (.aload_n 1, 1) := by decide +kernel
theorem d_Mo_finished_11 : decode b_Mo_finished 11 = .ok (.aload_n 0, 1) := by decide +kernel
theorem d_Mo_finished_12 : decode b_Mo_finished 12 = .ok (.getfield 239, 3) := by decide +kernel
theorem d_Mo_finished_15 : decode b_Mo_finished 15 = .ok (.iconst 0, 1) := by decide +kernel
theorem d_Mo_finished_16 : decode b_Mo_finished 16 = .ok (.aaload, 1) := by decide +kernel
theorem d_Mo_finished_17 : decode b_Mo_finished 17 = .ok (.if_acmp .ne 56, 3) := by decide +kernel
theorem d_Mo_finished_20 : decode b_Mo_finished 20 = .ok (.aload_n 0, 1) := by decide +kernel
theorem d_Mo_finished_21 : decode b_Mo_finished 21 = .ok (.iconst 1, 1) := by decide +kernel
theorem d_Mo_finished_22 : decode b_Mo_finished 22 = .ok (.putfield 268, 3) := by decide +kernel
theorem d_Mo_finished_25 : decode b_Mo_finished 25 = .ok (.aload_n 0, 1) := by decide +kernel
theorem d_Mo_finished_26 : decode b_Mo_finished 26 = .ok (.getfield 265, 3) := by decide +kernel
theorem d_Mo_finished_29 : decode b_Mo_finished 29 = .ok (.iconst 0, 1) := by decide +kernel
theorem d_Mo_finished_30 : decode b_Mo_finished 30 = .ok (.putfield 569, 3) := by decide +kernel
theorem d_Mo_finished_33 : decode b_Mo_finished 33 = .ok (.iconst 0, 1) := by decide +kernel
theorem d_Mo_finished_34 : decode b_Mo_finished 34 = .ok (.istore_n 2, 1) := by decide +kernel
theorem d_Mo_finished_35 : decode b_Mo_finished 35 = .ok (.iload_n 2, 1) := by decide +kernel
theorem d_Mo_finished_36 : decode b_Mo_finished 36 = .ok (.aload_n 0, 1) := by decide +kernel
theorem d_Mo_finished_37 : decode b_Mo_finished 37 = .ok (.getfield 262, 3) := by decide +kernel
theorem d_Mo_finished_40 : decode b_Mo_finished 40 = .ok (.getfield 569, 3) := by decide +kernel
theorem d_Mo_finished_43 : decode b_Mo_finished 43 = .ok (.if_icmp .ge 21, 3) := by decide +kernel
theorem d_Mo_finished_46 : decode b_Mo_finished 46 = .ok (.aload_n 0, 1) := by decide +kernel
theorem d_Mo_finished_47 : decode b_Mo_finished 47 = .ok (.getfield 265, 3) := by decide +kernel
theorem d_Mo_finished_50 : decode b_Mo_finished 50 = .ok (.aload_n 0, 1) := by decide +kernel
theorem d_Mo_finished_51 : decode b_Mo_finished 51 = .ok (.getfield 262, 3) := by decide +kernel
theorem d_Mo_finished_54 : decode b_Mo_finished 54 = .ok (.iload_n 2, 1) := by decide +kernel
theorem d_Mo_finished_55 : decode b_Mo_finished 55 = .ok (.invokevirtual 770, 3) := by decide +kernel
theorem d_Mo_finished_58 : decode b_Mo_finished 58 = .ok (.iinc 2 1, 3) := by decide +kernel
theorem d_Mo_finished_61 : decode b_Mo_finished 61 = .ok (.goto (-26), 3) := by decide +kernel
theorem d_Mo_finished_64 : decode b_Mo_finished 64 = .ok (.aload_n 0, 1) := by decide +kernel
theorem d_Mo_finished_65 : decode b_Mo_finished 65 = .ok (.getfield 262, 3) := by decide +kernel
theorem d_Mo_finished_68 : decode b_Mo_finished 68 = .ok (.iconst 0, 1) := by decide +kernel
theorem d_Mo_finished_69 : decode b_Mo_finished 69 = .ok (.putfield 569, 3) := by decide +kernel
theorem d_Mo_finished_72 : decode b_Mo_finished 72 = .ok (.return_, 1) := by decide +kernel
theorem d_Mo_finished_73 : decode b_Mo_finished 73 = .ok (.aload_n 0, 1) := by decide +kernel
theorem d_Mo_finished_74 : decode b_Mo_finished 74 = .ok (.aload_n 1, 1) := by decide +kernel
theorem d_Mo_finished_75 : decode b_Mo_finished 75 = .ok (.invokevirtual 783, 3) := by decide +kernel
theorem d_Mo_finished_78 : decode b_Mo_finished 78 = .ok (.aload_n 0, 1) := by decide +kernel
theorem d_Mo_finished_79 : decode b_Mo_finished 79 = .ok (.iconst 2, 1) := by decide +kernel
theorem d_Mo_finished_80 : decode b_Mo_finished 80 = .ok (.putfield 247, 3) := by decide +kernel
theorem d_Mo_finished_83 : decode b_Mo_finished 83 = .ok (.return_, 1) := by decide +kernel
theorem kw_237 : Cond.methodLink R_Mo 783 y_Mo_back ∈ wA := kinm (show _ ∈ tables_1 from (List.mem_append_right _ (List.mem_append_right _ (List.mem_append_right _ (List.mem_append_right _ (List.mem_append_right _ (List.mem_append_right _ (List.mem_append_right _ (List.mem_append_right _ (List.mem_append_right _ (List.mem_append_right _ (List.mem_append_right _ (List.mem_append_right _ (List.mem_append_left _ (List.mem_of_getElem? (l := tables_1_13) (i := 69) (by decide +kernel)))))))))))))))) (by decide +kernel)
theorem kw_238 : Cond.fieldLink R_Mo 268 "LuaMachineModel" "status" "I" ∈ wA := kinm (show _ ∈ tables_1 from (List.mem_append_right _ (List.mem_append_right _ (List.mem_append_right _ (List.mem_append_right _ (List.mem_append_right _ (List.mem_append_right _ (List.mem_append_right _ (List.mem_append_right _ (List.mem_append_right _ (List.mem_append_left _ (List.mem_of_getElem? (l := tables_1_10) (i := 136) (by decide +kernel))))))))))))) (by decide +kernel)
theorem kw_239 : Cond.fieldLink R_Mo 265 "LuaMachineModel" "ended" "LLuaMachineModel$Values;" ∈ wA := kinm (show _ ∈ tables_1 from (List.mem_append_right _ (List.mem_append_right _ (List.mem_append_right _ (List.mem_append_right _ (List.mem_append_right _ (List.mem_append_right _ (List.mem_append_right _ (List.mem_append_right _ (List.mem_append_right _ (List.mem_append_left _ (List.mem_of_getElem? (l := tables_1_10) (i := 135) (by decide +kernel))))))))))))) (by decide +kernel)
theorem kw_240 : Cond.instanceMethod y_Mo_finished ∈ wA := kinm (show _ ∈ tables_1 from (List.mem_append_right _ (List.mem_append_right _ (List.mem_append_right _ (List.mem_append_right _ (List.mem_append_right _ (List.mem_append_right _ (List.mem_append_right _ (List.mem_append_right _ (List.mem_append_right _ (List.mem_append_right _ (List.mem_append_right _ (List.mem_append_right _ (List.mem_append_left _ (List.mem_of_getElem? (l := tables_1_13) (i := 87) (by decide +kernel)))))))))))))))) (by decide +kernel)
theorem kw_241 : Cond.selects R_Mo y_Mo_finished y_Mo_finished ∈ wA := kinp 193 (by decide +kernel) (by decide +kernel)
def M_Mo_finished_L35 : (Int32) → M ((Int32) ⊕ ((Unit))) := fun x =>
  oB (oGI 1282 0) fun v40 =>
  oC (v40 ≤ x)
    (oR (Sum.inr ()))
    (oB (M_Va_add_ 13 0 10 0 x) fun _ =>
    oR (Sum.inl (x + 1)))

def M_Mo_finished  : M (Unit) :=
  oB (oGI 72 0) fun v1 =>
  oB (oK ((0 : Int32) ≤ v1 ∧ v1 < 33)) fun _ =>
  oB (oPI 3585 v1 3) fun _ =>
  oB (oK ((0 : Int32) ≤ v1 ∧ v1 < 33)) fun _ =>
  oB (oK ((0 : Int32) ≤ 0 ∧ 0 < 33)) fun _ =>
  oC (v1 = 0)
    (oB (oPI 80 0 1) fun _ =>
    oB (oPI 1666 0 0) fun _ =>
    oB (oW M_Mo_finished_L35 0) fun e35 =>
    oB (oPI 1282 0 0) fun _ =>
    oR ())
    (oB (oK ((0 : Int32) ≤ v1 ∧ v1 < 33)) fun _ =>
    oB (M_Mo_back v1) fun _ =>
    oB (oPI 73 0 2) fun _ =>
    oR ())

theorem cv_Mo_finished : CV y_Mo_finished b_Mo_finished 3 none 0 := ⟨kw_240, kw_241, kw_17, k_Mo_finished, by decide +kernel⟩
theorem lp_Mo_finished_L35 {X : Cx} {q : PL} (g : Gd X y_Mo_finished b_Mo_finished 3 none 2 45 R_Mo) (x : Int32) (s : S1) (o : ((Int32) ⊕ ((Unit))) × S1) (h : M_Mo_finished_L35 x s = some o) (hR : (Sum.elim (fun y : Int32 => ∀ ls : Array Slot, lv_has ls 3 [(0, .ref (q.1 0 0)), (2, .int y)] → WW X q o.2 35 ls []) (fun y : Unit => ∀ ls : Array Slot, lv_has ls 3 [(0, .ref (q.1 0 0))] → WW X q o.2 64 ls []) o.1)) : ∀ ls : Array Slot, lv_has ls 3 [(0, .ref (q.1 0 0)), (2, .int x)] → WW X q s 35 ls [] := by
  intro ls hl
  unfold M_Mo_finished_L35 at h
  refine ww_iload_n (pc := 35) g.1 d_Mo_finished_35 rfl (lv_at hl 1 rfl) ?_
  refine ww_aload_n (pc := 36) g.1 d_Mo_finished_36 rfl (lv_at hl 0 rfl) ?_
  refine ww_gR (pc := 37) g (k := 78) cl_Mo (pz rfl (by decide)) (by decide) (Or.inl kw_184) (f := 78) (t := 10) rfl rfl rfl d_Mo_finished_37 ?_
  refine ww_gI (pc := 40) g (k := 2) (cl_Va (Or.inl ⟨by decide, rfl⟩)) (pz rfl (by decide)) (by decide) (Or.inl kw_185) (f := 1282) rfl rfl d_Mo_finished_40 h fun v40 h => ?_
  refine ww_icmp_ge (pc := 43) (tgt := 64) g.1 d_Mo_finished_43 (by decide) h (fun c h => ?_) (fun c h => ?_)
  · rw [oR_eq h] at hR
    exact hR ls (lv_sub hl [0] rfl)
  · refine ww_aload_n (pc := 46) g.1 d_Mo_finished_46 rfl (lv_at hl 0 rfl) ?_
    refine ww_gR (pc := 47) g (k := 79) cl_Mo (pz rfl (by decide)) (by decide) (Or.inl kw_239) (f := 79) (t := 13) rfl rfl rfl d_Mo_finished_47 ?_
    refine ww_aload_n (pc := 50) g.1 d_Mo_finished_50 rfl (lv_at hl 0 rfl) ?_
    refine ww_gR (pc := 51) g (k := 78) cl_Mo (pz rfl (by decide)) (by decide) (Or.inl kw_184) (f := 78) (t := 10) rfl rfl rfl d_Mo_finished_51 ?_
    refine ww_iload_n (pc := 54) g.1 d_Mo_finished_54 rfl (lv_at hl 1 rfl) ?_
    obtain ⟨v55, s, hc55, h⟩ := oB_of h
    refine ww_callV (pc := 55) (rest := []) g cv_Va_add_ (Or.inl kw_227) (cl_Va (Or.inl ⟨by decide, rfl⟩)) (pz rfl (by decide)) (ct_Va_add_ (Or.inl ⟨by decide, rfl⟩) (Or.inl ⟨by decide, rfl⟩) hc55) ⟨by decide, by decide⟩ rfl hl.1 (Nat.le_of_ble_eq_true rfl) d_Mo_finished_55 rfl ?_
    refine ww_st (st' := []) rfl ?_
    refine ww_iinc (pc := 58) g.1 (v := x + 1) (lv' := [(2, .int (x + 1)), (0, .ref (q.1 0 0))]) d_Mo_finished_58 hl (k := 1) rfl (by rfl) (by decide) rfl fun ls hl => ?_
    refine ww_goto (pc := 61) (tgt := 35) g.1 d_Mo_finished_61 (by decide) ?_
    rw [oR_eq h] at hR
    exact hR ls (lv_sub hl [1, 0] rfl)

theorem ct_Mo_finished {l : Launch} {P : PP} {q : PL} {s s' : S1}  {r : Unit} (h : M_Mo_finished s = some (r, s')) : Ct l y_Mo_finished b_Mo_finished 3 none 2 45 P q s [.ref (q.1 0 0)] none q s' := by
  refine ct_of (by decide) (Nat.le_of_ble_eq_true rfl) fun X ls eP el g hR hl => ?_
  have hR : Rt X q ((r, s') : Unit × S1).2 none := hR
  have hl : lv_has ls 3 [(0, .ref (q.1 0 0))] := hl
  generalize (r, s') = o at h hR
  unfold M_Mo_finished at h
  refine ww_aload_n (pc := 0) g.1 d_Mo_finished_0 rfl (lv_at hl 0 rfl) ?_
  refine ww_gV (pc := 1) g (k := 72) cl_Mo (pz rfl (by decide)) (by decide) (Or.inl kw_155) (f := 72) (t := 28) rfl rfl rfl d_Mo_finished_1 h fun v1 h => ?_
  refine ww_astore_nV (pc := 4) g.1 vr_cases (lv' := [(1, vr q 28 v1), (0, .ref (q.1 0 0))]) d_Mo_finished_4 rfl hl (by decide) rfl fun ls hl => ?_
  refine ww_aload_nV (pc := 5) g.1 vr_cases d_Mo_finished_5 rfl (lv_at hl 0 rfl) ?_
  refine ww_ok h fun cn5 h => ?_
  refine ww_nn cn5 ?_
  refine ww_iconst (pc := 6) g.1 (v := 3) d_Mo_finished_6 (by decide) ?_
  refine ww_pI (pc := 7) g (k := 1) cl_Th (pt rfl rfl cn5) (by decide) (Or.inl kw_223) rfl (f := 3585) rfl rfl rfl rfl d_Mo_finished_7 h fun s hs h => ?_
  refine ww_aload_nV (pc := 10) g.1 vr_cases d_Mo_finished_10 rfl (lv_at hl 0 rfl) ?_
  refine ww_ok h fun cn10 h => ?_
  refine ww_nn cn10 ?_
  refine ww_aload_n (pc := 11) g.1 d_Mo_finished_11 rfl (lv_at hl 1 rfl) ?_
  refine ww_gR (pc := 12) g (k := 71) cl_Mo (pz rfl (by decide)) (by decide) (Or.inl kw_90) (f := 71) (t := 76) rfl rfl rfl d_Mo_finished_12 ?_
  refine ww_iconst (pc := 15) g.1 (v := 0) d_Mo_finished_15 (by decide) ?_
  refine ww_at (pc := 16) g (t := 28) (pz rfl (by decide)) rfl rfl rfl d_Mo_finished_16 h fun ca16 h => ?_
  refine ww_acmp_ne (pc := 17) (tgt := 73) g.1 (pt rfl rfl cn10) (pt rfl rfl ca16) d_Mo_finished_17 (by decide) h (fun c h => ?_) (fun c h => ?_)
  · refine ww_aload_n (pc := 73) g.1 d_Mo_finished_73 rfl (lv_at hl 1 rfl) ?_
    refine ww_aload_nV (pc := 74) g.1 vr_cases d_Mo_finished_74 rfl (lv_at hl 0 rfl) ?_
    refine ww_ok h fun cn74 h => ?_
    refine ww_nn cn74 ?_
    obtain ⟨v75, s, hc75, h⟩ := oB_of h
    refine ww_callV (pc := 75) (rest := []) g cv_Mo_back (Or.inl kw_237) cl_Mo (pz rfl (by decide)) (ct_Mo_back cn74 hc75) ⟨by decide, by decide⟩ rfl hl.1 (Nat.le_of_ble_eq_true rfl) d_Mo_finished_75 rfl ?_
    refine ww_st (st' := []) rfl ?_
    refine ww_aload_n (pc := 78) g.1 d_Mo_finished_78 rfl (lv_at hl 1 rfl) ?_
    refine ww_iconst (pc := 79) g.1 (v := 2) d_Mo_finished_79 (by decide) ?_
    refine ww_pI (pc := 80) g (k := 73) cl_Mo (pz rfl (by decide)) (by decide) (Or.inl kw_77) rfl (f := 73) rfl rfl rfl rfl d_Mo_finished_80 h fun s hs h => ?_
    exact ww_vretH (pc := 83) g h hR d_Mo_finished_83
  · refine ww_aload_n (pc := 20) g.1 d_Mo_finished_20 rfl (lv_at hl 1 rfl) ?_
    refine ww_iconst (pc := 21) g.1 (v := 1) d_Mo_finished_21 (by decide) ?_
    refine ww_pI (pc := 22) g (k := 80) cl_Mo (pz rfl (by decide)) (by decide) (Or.inl kw_238) rfl (f := 80) rfl rfl rfl rfl d_Mo_finished_22 h fun s hs h => ?_
    refine ww_aload_n (pc := 25) g.1 d_Mo_finished_25 rfl (lv_at hl 1 rfl) ?_
    refine ww_gR (pc := 26) g (k := 79) cl_Mo (pz rfl (by decide)) (by decide) (Or.inl kw_239) (f := 79) (t := 13) rfl rfl rfl d_Mo_finished_26 ?_
    refine ww_iconst (pc := 29) g.1 (v := 0) d_Mo_finished_29 (by decide) ?_
    refine ww_pI (pc := 30) g (k := 2) (cl_Va (Or.inl ⟨by decide, rfl⟩)) (pz rfl (by decide)) (by decide) (Or.inl kw_185) rfl (f := 1666) rfl rfl rfl rfl d_Mo_finished_30 h fun s hs h => ?_
    refine ww_iconst (pc := 33) g.1 (v := 0) d_Mo_finished_33 (by decide) ?_
    refine ww_istore_n (pc := 34) g.1 (lv' := [(2, .int 0), (1, vr q 28 v1), (0, .ref (q.1 0 0))]) d_Mo_finished_34 rfl hl (by decide) (by simp [vr_cat]) fun ls hl => ?_
    obtain ⟨e35, s1, hw, h⟩ := oB_of h
    refine oW_rule (Wh := fun (x : Int32) (s : S1) => ∀ ls : Array Slot, lv_has ls 3 [(0, .ref (q.1 0 0)), (2, .int x)] → WW X q s 35 ls []) (We := fun (e : (Unit)) (s : S1) => ∀ ls : Array Slot, lv_has ls 3 [(0, .ref (q.1 0 0))] → WW X q s 64 ls []) (fun x s o hb hc => lp_Mo_finished_L35 (q := q) g x s o hb hc) hw ?_ ls (lv_sub hl [2, 0] rfl)
    clear hw hl
    clear ls
    intro ls hl
    generalize s1 = s at h ⊢
    refine ww_aload_n (pc := 64) g.1 d_Mo_finished_64 rfl (lv_at hl 0 rfl) ?_
    refine ww_gR (pc := 65) g (k := 78) cl_Mo (pz rfl (by decide)) (by decide) (Or.inl kw_184) (f := 78) (t := 10) rfl rfl rfl d_Mo_finished_65 ?_
    refine ww_iconst (pc := 68) g.1 (v := 0) d_Mo_finished_68 (by decide) ?_
    refine ww_pI (pc := 69) g (k := 2) (cl_Va (Or.inl ⟨by decide, rfl⟩)) (pz rfl (by decide)) (by decide) (Or.inl kw_185) rfl (f := 1282) rfl rfl rfl rfl d_Mo_finished_69 h fun s hs h => ?_
    exact ww_vretH (pc := 72) g h hR d_Mo_finished_72

abbrev b_Mo_taken : ByteArray := prog_14_method_74_code
def y_Mo_taken : MethodName := ⟨R_Mo, "taken", "(LLuaMachineModel$Thread_;I)V"⟩
abbrev w_Mo_taken : List Cond := .code y_Mo_taken b_Mo_taken 8 none :: wA
set_option maxRecDepth 20000 in
theorem k_Mo_taken : Cond.code y_Mo_taken b_Mo_taken 8 none ∈ wA := kinm (show _ ∈ tables_1 from (List.mem_append_right _ (List.mem_append_right _ (List.mem_append_right _ (List.mem_append_right _ (List.mem_append_right _ (List.mem_append_right _ (List.mem_append_right _ (List.mem_append_right _ (List.mem_append_right _ (List.mem_append_right _ (List.mem_append_right _ (List.mem_append_right _ (List.mem_append_left _ (List.mem_of_getElem? (l := tables_1_13) (i := 92) rfl))))))))))))))) rfl
theorem d_Mo_taken_0 : decode b_Mo_taken 0 = .ok (.aload_n 1, 1) := by decide +kernel
theorem d_Mo_taken_1 : decode b_Mo_taken 1 = .ok (.getfield 744, 3) := by decide +kernel
theorem d_Mo_taken_4 : decode b_Mo_taken 4 = .ok (.iload_n 2, 1) := by decide +kernel
theorem d_Mo_taken_5 : decode b_Mo_taken 5 = .ok (.iaload, 1) := by decide +kernel
theorem d_Mo_taken_6 : decode b_Mo_taken 6 = .ok (.istore_n 3, 1) := by decide +kernel
theorem d_Mo_taken_7 : decode b_Mo_taken 7 = .ok (.aload_n 0, 1) := by decide +kernel
theorem d_Mo_taken_8 : decode b_Mo_taken 8 = .ok (.getfield 262, 3) := by decide +kernel
theorem d_Mo_taken_11 : decode b_Mo_taken 11 = .ok (.getfield 569, 3) := by decide +kernel
theorem d_Mo_taken_14 : decode b_Mo_taken 14 = .ok (.ifCond .le 15, 3) := by decide +kernel
theorem d_Mo_taken_17 : decode b_Mo_taken 17 = .ok (.aload_n 0, 1) := by decide +kernel
theorem d_Mo_taken_18 : decode b_Mo_taken 18 = .ok (.getfield 262, 3) := by decide +kernel
theorem d_Mo_taken_21 : decode b_Mo_taken 21 = .ok (.getfield 585, 3) := by decide +kernel
theorem d_Mo_taken_24 : decode b_Mo_taken 24 = .ok (.iconst 0, 1) := by decide +kernel
theorem d_Mo_taken_25 : decode b_Mo_taken 25 = .ok (.baload, 1) := by decide +kernel
theorem d_Mo_taken_26 : decode b_Mo_taken 26 = .ok (.goto 4, 3) := by decide +kernel
theorem d_Mo_taken_29 : decode b_Mo_taken 29 = .ok (.iconst 0, 1) := by decide +kernel
theorem d_Mo_taken_30 : decode b_Mo_taken 30 = .ok (.istore 4, 2) := by decide +kernel
theorem d_Mo_taken_32 : decode b_Mo_taken 32 = .ok (.aload_n 0, 1) := by decide +kernel
theorem d_Mo_taken_33 : decode b_Mo_taken 33 = .ok (.getfield 262, 3) := by decide +kernel
theorem d_Mo_taken_36 : decode b_Mo_taken 36 = .ok (.getfield 569, 3) := by decide +kernel
theorem d_Mo_taken_39 : decode b_Mo_taken 39 = .ok (.ifCond .le 15, 3) := by decide +kernel
theorem d_Mo_taken_42 : decode b_Mo_taken 42 = .ok (.aload_n 0, 1) := by decide +kernel
theorem d_Mo_taken_43 : decode b_Mo_taken 43 = .ok (.getfield 262, 3) := by decide +kernel
theorem d_Mo_taken_46 : decode b_Mo_taken 46 = .ok (.getfield 588, 3) := by decide +kernel
theorem d_Mo_taken_49 : decode b_Mo_taken 49 = .ok (.iconst 0, 1) := by decide +kernel
theorem d_Mo_taken_50 : decode b_Mo_taken 50 = .ok (.laload, 1) := by decide +kernel
theorem d_Mo_taken_51 : decode b_Mo_taken 51 = .ok (.goto 4, 3) := by decide +kernel
theorem d_Mo_taken_54 : decode b_Mo_taken 54 = .ok (.lconst 0, 1) := by decide +kernel
theorem d_Mo_taken_55 : decode b_Mo_taken 55 = .ok (.lstore 5, 2) := by decide +kernel
theorem d_Mo_taken_57 : decode b_Mo_taken 57 = .ok (.aload_n 1, 1) := by decide +kernel
theorem d_Mo_taken_58 : decode b_Mo_taken 58 = .ok (.getfield 706, 3) := by decide +kernel
theorem d_Mo_taken_61 : decode b_Mo_taken 61 = .ok (.iload_n 2, 1) := by decide +kernel
theorem d_Mo_taken_62 : decode b_Mo_taken 62 = .ok (.iaload, 1) := by decide +kernel
theorem d_Mo_taken_63 : decode b_Mo_taken 63 = .ok (.tableswitch 287 0 4 #[33, 194, 216, 287, 258], 33) := by decide +kernel
theorem d_Mo_taken_96 : decode b_Mo_taken 96 = .ok (.aload_n 1, 1) := by decide +kernel
theorem d_Mo_taken_97 : decode b_Mo_taken 97 = .ok (.getfield 712, 3) := by decide +kernel
theorem d_Mo_taken_100 : decode b_Mo_taken 100 = .ok (.iload_n 2, 1) := by decide +kernel
theorem d_Mo_taken_101 : decode b_Mo_taken 101 = .ok (.iaload, 1) := by decide +kernel
theorem d_Mo_taken_102 : decode b_Mo_taken 102 = .ok (.ifCond .ge 73, 3) := by decide +kernel
theorem d_Mo_taken_105 : decode b_Mo_taken 105 = .ok (.aload_n 1, 1) := by decide +kernel
theorem d_Mo_taken_106 : decode b_Mo_taken 106 = .ok (.getfield 767, 3) := by decide +kernel
theorem d_Mo_taken_109 : decode b_Mo_taken 109 = .ok (.iconst 0, 1) := by decide +kernel
theorem d_Mo_taken_110 : decode b_Mo_taken 110 = .ok (.putfield 569, 3) := by decide +kernel
theorem d_Mo_taken_113 : decode b_Mo_taken 113 = .ok (.iconst 0, 1) := by decide +kernel
theorem d_Mo_taken_114 : decode b_Mo_taken 114 = .ok (.istore 7, 2) := by decide +kernel
theorem d_Mo_taken_116 : decode b_Mo_taken 116 = .ok (.iload 7, 2) := by decide +kernel
theorem d_Mo_taken_118 : decode b_Mo_taken 118 = .ok (.aload_n 0, 1) := by decide +kernel
theorem d_Mo_taken_119 : decode b_Mo_taken 119 = .ok (.getfield 262, 3) := by decide +kernel
theorem d_Mo_taken_122 : decode b_Mo_taken 122 = .ok (.getfield 569, 3) := by decide +kernel
theorem d_Mo_taken_125 : decode b_Mo_taken 125 = .ok (.if_icmp .ge 22, 3) := by decide +kernel
theorem d_Mo_taken_128 : decode b_Mo_taken 128 = .ok (.aload_n 1, 1) := by decide +kernel
theorem d_Mo_taken_129 : decode b_Mo_taken 129 = .ok (.getfield 767, 3) := by decide +kernel
theorem d_Mo_taken_132 : decode b_Mo_taken 132 = .ok (.aload_n 0, 1) := by decide +kernel
theorem d_Mo_taken_133 : decode b_Mo_taken 133 = .ok (.getfield 262, 3) := by decide +kernel
theorem d_Mo_taken_136 : decode b_Mo_taken 136 = .ok (.iload 7, 2) := by decide +kernel
theorem d_Mo_taken_138 : decode b_Mo_taken 138 = .ok (.invokevirtual 770, 3) := by decide +kernel
theorem d_Mo_taken_141 : decode b_Mo_taken 141 = .ok (.iinc 7 1, 3) := by decide +kernel
theorem d_Mo_taken_144 : decode b_Mo_taken 144 = .ok (.goto (-28), 3) := by decide +kernel
theorem d_Mo_taken_147 : decode b_Mo_taken 147 = .ok (.aload_n 1, 1) := by decide +kernel
theorem d_Mo_taken_148 : decode b_Mo_taken 148 = .ok (.getfield 773, 3) := by decide +kernel
theorem d_Mo_taken_151 : decode b_Mo_taken 151 = .ok (.iload_n 2, 1) := by decide +kernel
theorem d_Mo_taken_152 : decode b_Mo_taken 152 = .ok (.aload_n 1, 1) := by decide +kernel
theorem d_Mo_taken_153 : decode b_Mo_taken 153 = .ok (.getfield 709, 3) := by decide +kernel
theorem d_Mo_taken_156 : decode b_Mo_taken 156 = .ok (.iload_n 2, 1) := by decide +kernel
theorem d_Mo_taken_157 : decode b_Mo_taken 157 = .ok (.iaload, 1) := by decide +kernel
theorem d_Mo_taken_158 : decode b_Mo_taken 158 = .ok (.iastore, 1) := by decide +kernel
theorem d_Mo_taken_159 : decode b_Mo_taken 159 = .ok (.aload_n 1, 1) := by decide +kernel
theorem d_Mo_taken_160 : decode b_Mo_taken 160 = .ok (.getfield 738, 3) := by decide +kernel
theorem d_Mo_taken_163 : decode b_Mo_taken 163 = .ok (.iload_n 2, 1) := by decide +kernel
theorem d_Mo_taken_164 : decode b_Mo_taken 164 = .ok (.aload_n 0, 1) := by decide +kernel
theorem d_Mo_taken_165 : decode b_Mo_taken 165 = .ok (.getfield 262, 3) := by decide +kernel
theorem d_Mo_taken_168 : decode b_Mo_taken 168 = .ok (.getfield 569, 3) := by decide +kernel
theorem d_Mo_taken_171 : decode b_Mo_taken 171 = .ok (.iastore, 1) := by decide +kernel
theorem d_Mo_taken_172 : decode b_Mo_taken 172 = .ok (.goto 178, 3) := by decide +kernel
theorem d_Mo_taken_175 : decode b_Mo_taken 175 = .ok (.iconst 0, 1) := by decide +kernel
theorem d_Mo_taken_176 : decode b_Mo_taken 176 = .ok (.istore 7, 2) := by decide +kernel
theorem d_Mo_taken_178 : decode b_Mo_taken 178 = .ok (.iload 7, 2) := by decide +kernel
theorem d_Mo_taken_180 : decode b_Mo_taken 180 = .ok (.aload_n 1, 1) := by decide +kernel
theorem d_Mo_taken_181 : decode b_Mo_taken 181 = .ok (.getfield 712, 3) := by decide +kernel
theorem d_Mo_taken_184 : decode b_Mo_taken 184 = .ok (.iload_n 2, 1) := by decide +kernel
theorem d_Mo_taken_185 : decode b_Mo_taken 185 = .ok (.iaload, 1) := by decide +kernel
theorem d_Mo_taken_186 : decode b_Mo_taken 186 = .ok (.if_icmp .ge 68, 3) := by decide +kernel
theorem d_Mo_taken_189 : decode b_Mo_taken 189 = .ok (.iload 7, 2) := by decide +kernel
theorem d_Mo_taken_191 : decode b_Mo_taken 191 = .ok (.aload_n 0, 1) := by decide +kernel
theorem d_Mo_taken_192 : decode b_Mo_taken 192 = .ok (.getfield 262, 3) := by decide +kernel
theorem d_Mo_taken_195 : decode b_Mo_taken 195 = .ok (.getfield 569, 3) := by decide +kernel
theorem d_Mo_taken_198 : decode b_Mo_taken 198 = .ok (.if_icmp .ge 30, 3) := by decide +kernel
theorem d_Mo_taken_201 : decode b_Mo_taken 201 = .ok (.aload_n 1, 1) := by decide +kernel
theorem d_Mo_taken_202 : decode b_Mo_taken 202 = .ok (.getfield 591, 3) := by decide +kernel
theorem d_Mo_taken_205 : decode b_Mo_taken 205 = .ok (.iload_n 3, 1) := by decide +kernel
theorem d_Mo_taken_206 : decode b_Mo_taken 206 = .ok (.aload_n 1, 1) := by decide +kernel
theorem d_Mo_taken_207 : decode b_Mo_taken 207 = .ok (.getfield 709, 3) := by decide +kernel
theorem d_Mo_taken_210 : decode b_Mo_taken 210 = .ok (.iload_n 2, 1) := by decide +kernel
theorem d_Mo_taken_211 : decode b_Mo_taken 211 = .ok (.iaload, 1) := by decide +kernel
theorem d_Mo_taken_212 : decode b_Mo_taken 212 = .ok (.iadd, 1) := by decide +kernel
theorem d_Mo_taken_213 : decode b_Mo_taken 213 = .ok (.iload 7, 2) := by decide +kernel
theorem d_Mo_taken_215 : decode b_Mo_taken 215 = .ok (.iadd, 1) := by decide +kernel
theorem d_Mo_taken_216 : decode b_Mo_taken 216 = .ok (.aload_n 0, 1) := by decide +kernel
theorem d_Mo_taken_217 : decode b_Mo_taken 217 = .ok (.getfield 262, 3) := by decide +kernel
theorem d_Mo_taken_220 : decode b_Mo_taken 220 = .ok (.iload 7, 2) := by decide +kernel
theorem d_Mo_taken_222 : decode b_Mo_taken 222 = .ok (.invokevirtual 719, 3) := by decide +kernel
theorem d_Mo_taken_225 : decode b_Mo_taken 225 = .ok (.goto 23, 3) := by decide +kernel
theorem d_Mo_taken_228 : decode b_Mo_taken 228 = .ok (.aload_n 1, 1) := by decide +kernel
theorem d_Mo_taken_229 : decode b_Mo_taken 229 = .ok (.getfield 591, 3) := by decide +kernel
theorem d_Mo_taken_232 : decode b_Mo_taken 232 = .ok (.iload_n 3, 1) := by decide +kernel
theorem d_Mo_taken_233 : decode b_Mo_taken 233 = .ok (.aload_n 1, 1) := by decide +kernel
theorem d_Mo_taken_234 : decode b_Mo_taken 234 = .ok (.getfield 709, 3) := by decide +kernel
theorem d_Mo_taken_237 : decode b_Mo_taken 237 = .ok (.iload_n 2, 1) := by decide +kernel
theorem d_Mo_taken_238 : decode b_Mo_taken 238 = .ok (.iaload, 1) := by decide +kernel
theorem d_Mo_taken_239 : decode b_Mo_taken 239 = .ok (.iadd, 1) := by decide +kernel
theorem d_Mo_taken_240 : decode b_Mo_taken 240 = .ok (.iload 7, 2) := by decide +kernel
theorem d_Mo_taken_242 : decode b_Mo_taken 242 = .ok (.iadd, 1) := by decide +kernel
theorem d_Mo_taken_243 : decode b_Mo_taken 243 = .ok (.iconst 0, 1) := by decide +kernel
theorem d_Mo_taken_244 : decode b_Mo_taken 244 = .ok (.lconst 0, 1) := by decide +kernel
theorem d_Mo_taken_245 : decode b_Mo_taken 245 = .ok (.invokevirtual 470, 3) := by decide +kernel
theorem d_Mo_taken_248 : decode b_Mo_taken 248 = .ok (.iinc 7 1, 3) := by decide +kernel
theorem d_Mo_taken_251 : decode b_Mo_taken 251 = .ok (.goto (-73), 3) := by decide +kernel
theorem d_Mo_taken_254 : decode b_Mo_taken 254 = .ok (.goto 96, 3) := by decide +kernel
theorem d_Mo_taken_257 : decode b_Mo_taken 257 = .ok (.aload_n 1, 1) := by decide +kernel
theorem d_Mo_taken_258 : decode b_Mo_taken 258 = .ok (.getfield 591, 3) := by decide +kernel
theorem d_Mo_taken_261 : decode b_Mo_taken 261 = .ok (.iload_n 3, 1) := by decide +kernel
theorem d_Mo_taken_262 : decode b_Mo_taken 262 = .ok (.aload_n 1, 1) := by decide +kernel
theorem d_Mo_taken_263 : decode b_Mo_taken 263 = .ok (.getfield 709, 3) := by decide +kernel
theorem d_Mo_taken_266 : decode b_Mo_taken 266 = .ok (.iload_n 2, 1) := by decide +kernel
theorem d_Mo_taken_267 : decode b_Mo_taken 267 = .ok (.iaload, 1) := by decide +kernel
theorem d_Mo_taken_268 : decode b_Mo_taken 268 = .ok (.iadd, 1) := by decide +kernel
theorem d_Mo_taken_269 : decode b_Mo_taken 269 = .ok (.iload 4, 2) := by decide +kernel
theorem d_Mo_taken_271 : decode b_Mo_taken 271 = .ok (.lload 5, 2) := by decide +kernel
theorem d_Mo_taken_273 : decode b_Mo_taken 273 = .ok (.invokevirtual 470, 3) := by decide +kernel
theorem d_Mo_taken_276 : decode b_Mo_taken 276 = .ok (.goto 74, 3) := by decide +kernel
theorem d_Mo_taken_279 : decode b_Mo_taken 279 = .ok (.iload 4, 2) := by decide +kernel
theorem d_Mo_taken_281 : decode b_Mo_taken 281 = .ok (.iconst 1, 1) := by decide +kernel
theorem d_Mo_taken_282 : decode b_Mo_taken 282 = .ok (.if_icmp .le 7, 3) := by decide +kernel
theorem d_Mo_taken_285 : decode b_Mo_taken 285 = .ok (.iconst 1, 1) := by decide +kernel
theorem d_Mo_taken_286 : decode b_Mo_taken 286 = .ok (.goto 4, 3) := by decide +kernel
theorem d_Mo_taken_289 : decode b_Mo_taken 289 = .ok (.iconst 0, 1) := by decide +kernel
theorem d_Mo_taken_290 : decode b_Mo_taken 290 = .ok (.aload_n 1, 1) := by decide +kernel
theorem d_Mo_taken_291 : decode b_Mo_taken 291 = .ok (.getfield 709, 3) := by decide +kernel
theorem d_Mo_taken_294 : decode b_Mo_taken 294 = .ok (.iload_n 2, 1) := by decide +kernel
theorem d_Mo_taken_295 : decode b_Mo_taken 295 = .ok (.iaload, 1) := by decide +kernel
theorem d_Mo_taken_296 : decode b_Mo_taken 296 = .ok (.iconst 1, 1) := by decide +kernel
theorem d_Mo_taken_297 : decode b_Mo_taken 297 = .ok (.if_icmp .ne 7, 3) := by decide +kernel
theorem d_Mo_taken_300 : decode b_Mo_taken 300 = .ok (.iconst 1, 1) := by decide +kernel
theorem d_Mo_taken_301 : decode b_Mo_taken 301 = .ok (.goto 4, 3) := by decide +kernel
theorem d_Mo_taken_304 : decode b_Mo_taken 304 = .ok (.iconst 0, 1) := by decide +kernel
theorem d_Mo_taken_305 : decode b_Mo_taken 305 = .ok (.if_icmp .eq 45, 3) := by decide +kernel
theorem d_Mo_taken_308 : decode b_Mo_taken 308 = .ok (.aload_n 1, 1) := by decide +kernel
theorem d_Mo_taken_309 : decode b_Mo_taken 309 = .ok (.getfield 758, 3) := by decide +kernel
theorem d_Mo_taken_312 : decode b_Mo_taken 312 = .ok (.iload_n 2, 1) := by decide +kernel
theorem d_Mo_taken_313 : decode b_Mo_taken 313 = .ok (.dup2, 1) := by decide +kernel
theorem d_Mo_taken_314 : decode b_Mo_taken 314 = .ok (.iaload, 1) := by decide +kernel
theorem d_Mo_taken_315 : decode b_Mo_taken 315 = .ok (.iconst 1, 1) := by decide +kernel
theorem d_Mo_taken_316 : decode b_Mo_taken 316 = .ok (.iadd, 1) := by decide +kernel
theorem d_Mo_taken_317 : decode b_Mo_taken 317 = .ok (.iastore, 1) := by decide +kernel
theorem d_Mo_taken_318 : decode b_Mo_taken 318 = .ok (.goto 32, 3) := by decide +kernel
theorem d_Mo_taken_321 : decode b_Mo_taken 321 = .ok (.aload_n 0, 1) := by decide +kernel
theorem d_Mo_taken_322 : decode b_Mo_taken 322 = .ok (.getfield 262, 3) := by decide +kernel
theorem d_Mo_taken_325 : decode b_Mo_taken 325 = .ok (.iconst 0, 1) := by decide +kernel
theorem d_Mo_taken_326 : decode b_Mo_taken 326 = .ok (.putfield 569, 3) := by decide +kernel
theorem d_Mo_taken_329 : decode b_Mo_taken 329 = .ok (.aload_n 0, 1) := by decide +kernel
theorem d_Mo_taken_330 : decode b_Mo_taken 330 = .ok (.aload_n 1, 1) := by decide +kernel
theorem d_Mo_taken_331 : decode b_Mo_taken 331 = .ok (.iload_n 2, 1) := by decide +kernel
theorem d_Mo_taken_332 : decode b_Mo_taken 332 = .ok (.aload_n 1, 1) := by decide +kernel
theorem d_Mo_taken_333 : decode b_Mo_taken 333 = .ok (.getfield 776, 3) := by decide +kernel
theorem d_Mo_taken_336 : decode b_Mo_taken 336 = .ok (.iload_n 2, 1) := by decide +kernel
theorem d_Mo_taken_337 : decode b_Mo_taken 337 = .ok (.iaload, 1) := by decide +kernel
theorem d_Mo_taken_338 : decode b_Mo_taken 338 = .ok (.iconst 1, 1) := by decide +kernel
theorem d_Mo_taken_339 : decode b_Mo_taken 339 = .ok (.isub, 1) := by decide +kernel
theorem d_Mo_taken_340 : decode b_Mo_taken 340 = .ok (.iload 4, 2) := by decide +kernel
theorem d_Mo_taken_342 : decode b_Mo_taken 342 = .ok (.lload 5, 2) := by decide +kernel
theorem d_Mo_taken_344 : decode b_Mo_taken 344 = .ok (.invokevirtual 779, 3) := by decide +kernel
theorem d_Mo_taken_347 : decode b_Mo_taken 347 = .ok (.goto 3, 3) := by decide +kernel
theorem d_Mo_taken_350 : decode b_Mo_taken 350 = .ok (.aload_n 0, 1) := by decide +kernel
theorem d_Mo_taken_351 : decode b_Mo_taken 351 = .ok (.getfield 262, 3) := by decide +kernel
theorem d_Mo_taken_354 : decode b_Mo_taken 354 = .ok (.iconst 0, 1) := by decide +kernel
theorem d_Mo_taken_355 : decode b_Mo_taken 355 = .ok (.putfield 569, 3) := by decide +kernel
theorem d_Mo_taken_358 : decode b_Mo_taken 358 = .ok (.return_, 1) := by decide +kernel
abbrev b_Mo_join : ByteArray := prog_14_method_125_code
def y_Mo_join : MethodName := ⟨R_Mo, "join", "(LLuaMachineModel$Thread_;IIIJ)V"⟩
abbrev w_Mo_join : List Cond := .code y_Mo_join b_Mo_join 19 none :: wA
set_option maxRecDepth 20000 in
theorem k_Mo_join : Cond.code y_Mo_join b_Mo_join 19 none ∈ wA := kinm (show _ ∈ tables_1 from (List.mem_append_right _ (List.mem_append_right _ (List.mem_append_right _ (List.mem_append_right _ (List.mem_append_right _ (List.mem_append_right _ (List.mem_append_right _ (List.mem_append_right _ (List.mem_append_right _ (List.mem_append_right _ (List.mem_append_right _ (List.mem_append_right _ (List.mem_append_left _ (List.mem_of_getElem? (l := tables_1_13) (i := 96) rfl))))))))))))))) rfl
theorem d_Mo_join_0 : decode b_Mo_join 0 = .ok (.aload_n 0, 1) := by decide +kernel
theorem d_Mo_join_1 : decode b_Mo_join 1 = .ok (.getfield 71, 3) := by decide +kernel
theorem d_Mo_join_4 : decode b_Mo_join 4 = .ok (.aload_n 0, 1) := by decide +kernel
theorem d_Mo_join_5 : decode b_Mo_join 5 = .ok (.getfield 53, 3) := by decide +kernel
theorem d_Mo_join_8 : decode b_Mo_join 8 = .ok (.aload_n 0, 1) := by decide +kernel
theorem d_Mo_join_9 : decode b_Mo_join 9 = .ok (.getfield 168, 3) := by decide +kernel
theorem d_Mo_join_12 : decode b_Mo_join 12 = .ok (.aload_n 1, 1) := by decide +kernel
theorem d_Mo_join_13 : decode b_Mo_join 13 = .ok (.getfield 736, 3) := by decide +kernel
theorem d_Mo_join_16 : decode b_Mo_join 16 = .ok (.iload_n 2, 1) := by decide +kernel
theorem d_Mo_join_17 : decode b_Mo_join 17 = .ok (.iaload, 1) := by decide +kernel
theorem d_Mo_join_18 : decode b_Mo_join 18 = .ok (.iaload, 1) := by decide +kernel
theorem d_Mo_join_19 : decode b_Mo_join 19 = .ok (.iaload, 1) := by decide +kernel
theorem d_Mo_join_20 : decode b_Mo_join 20 = .ok (.aload_n 1, 1) := by decide +kernel
theorem d_Mo_join_21 : decode b_Mo_join 21 = .ok (.getfield 758, 3) := by decide +kernel
theorem d_Mo_join_24 : decode b_Mo_join 24 = .ok (.iload_n 2, 1) := by decide +kernel
theorem d_Mo_join_25 : decode b_Mo_join 25 = .ok (.iaload, 1) := by decide +kernel
theorem d_Mo_join_26 : decode b_Mo_join 26 = .ok (.iadd, 1) := by decide +kernel
theorem d_Mo_join_27 : decode b_Mo_join 27 = .ok (.iconst 1, 1) := by decide +kernel
theorem d_Mo_join_28 : decode b_Mo_join 28 = .ok (.isub, 1) := by decide +kernel
theorem d_Mo_join_29 : decode b_Mo_join 29 = .ok (.iaload, 1) := by decide +kernel
theorem d_Mo_join_30 : decode b_Mo_join 30 = .ok (.istore 7, 2) := by decide +kernel
theorem d_Mo_join_32 : decode b_Mo_join 32 = .ok (.aload_n 1, 1) := by decide +kernel
theorem d_Mo_join_33 : decode b_Mo_join 33 = .ok (.getfield 744, 3) := by decide +kernel
theorem d_Mo_join_36 : decode b_Mo_join 36 = .ok (.iload_n 2, 1) := by decide +kernel
theorem d_Mo_join_37 : decode b_Mo_join 37 = .ok (.iaload, 1) := by decide +kernel
theorem d_Mo_join_38 : decode b_Mo_join 38 = .ok (.istore 8, 2) := by decide +kernel
theorem d_Mo_join_40 : decode b_Mo_join 40 = .ok (.iload 4, 2) := by decide +kernel
theorem d_Mo_join_42 : decode b_Mo_join 42 = .ok (.istore 9, 2) := by decide +kernel
theorem d_Mo_join_44 : decode b_Mo_join 44 = .ok (.lload 5, 2) := by decide +kernel
theorem d_Mo_join_46 : decode b_Mo_join 46 = .ok (.lstore 10, 2) := by decide +kernel
theorem d_Mo_join_48 : decode b_Mo_join 48 = .ok (.iload_n 3, 1) := by decide +kernel
theorem d_Mo_join_49 : decode b_Mo_join 49 = .ok (.istore 12, 2) := by decide +kernel
theorem d_Mo_join_51 : decode b_Mo_join 51 = .ok (.iload 12, 2) := by decide +kernel
theorem d_Mo_join_53 : decode b_Mo_join 53 = .ok (.iload 7, 2) := by decide +kernel
theorem d_Mo_join_55 : decode b_Mo_join 55 = .ok (.invokestatic 482, 3) := by decide +kernel
theorem d_Mo_join_58 : decode b_Mo_join 58 = .ok (.if_icmp .lt 264, 3) := by decide +kernel
theorem d_Mo_join_61 : decode b_Mo_join 61 = .ok (.aload_n 1, 1) := by decide +kernel
theorem d_Mo_join_62 : decode b_Mo_join 62 = .ok (.getfield 591, 3) := by decide +kernel
theorem d_Mo_join_65 : decode b_Mo_join 65 = .ok (.getfield 585, 3) := by decide +kernel
theorem d_Mo_join_68 : decode b_Mo_join 68 = .ok (.iload 8, 2) := by decide +kernel
theorem d_Mo_join_70 : decode b_Mo_join 70 = .ok (.iload 12, 2) := by decide +kernel
theorem d_Mo_join_72 : decode b_Mo_join 72 = .ok (.iadd, 1) := by decide +kernel
theorem d_Mo_join_73 : decode b_Mo_join 73 = .ok (.baload, 1) := by decide +kernel
theorem d_Mo_join_74 : decode b_Mo_join 74 = .ok (.istore 13, 2) := by decide +kernel
theorem d_Mo_join_76 : decode b_Mo_join 76 = .ok (.aload_n 1, 1) := by decide +kernel
theorem d_Mo_join_77 : decode b_Mo_join 77 = .ok (.getfield 591, 3) := by decide +kernel
theorem d_Mo_join_80 : decode b_Mo_join 80 = .ok (.getfield 588, 3) := by decide +kernel
theorem d_Mo_join_83 : decode b_Mo_join 83 = .ok (.iload 8, 2) := by decide +kernel
theorem d_Mo_join_85 : decode b_Mo_join 85 = .ok (.iload 12, 2) := by decide +kernel
theorem d_Mo_join_87 : decode b_Mo_join 87 = .ok (.iadd, 1) := by decide +kernel
theorem d_Mo_join_88 : decode b_Mo_join 88 = .ok (.laload, 1) := by decide +kernel
theorem d_Mo_join_89 : decode b_Mo_join 89 = .ok (.lstore 14, 2) := by decide +kernel
theorem d_Mo_join_91 : decode b_Mo_join 91 = .ok (.iload 13, 2) := by decide +kernel
theorem d_Mo_join_93 : decode b_Mo_join 93 = .ok (.iconst 4, 1) := by decide +kernel
theorem d_Mo_join_94 : decode b_Mo_join 94 = .ok (.if_icmp .eq 9, 3) := by decide +kernel
theorem d_Mo_join_97 : decode b_Mo_join 97 = .ok (.iload 13, 2) := by decide +kernel
theorem d_Mo_join_99 : decode b_Mo_join 99 = .ok (.iconst 3, 1) := by decide +kernel
theorem d_Mo_join_100 : decode b_Mo_join 100 = .ok (.if_icmp .ne 173, 3) := by decide +kernel
theorem d_Mo_join_103 : decode b_Mo_join 103 = .ok (.iload 9, 2) := by decide +kernel
theorem d_Mo_join_105 : decode b_Mo_join 105 = .ok (.iconst 4, 1) := by decide +kernel
theorem d_Mo_join_106 : decode b_Mo_join 106 = .ok (.if_icmp .eq 9, 3) := by decide +kernel
theorem d_Mo_join_109 : decode b_Mo_join 109 = .ok (.iload 9, 2) := by decide +kernel
theorem d_Mo_join_111 : decode b_Mo_join 111 = .ok (.iconst 3, 1) := by decide +kernel
theorem d_Mo_join_112 : decode b_Mo_join 112 = .ok (.if_icmp .ne 161, 3) := by decide +kernel
theorem d_Mo_join_115 : decode b_Mo_join 115 = .ok (.aload_n 0, 1) := by decide +kernel
theorem d_Mo_join_116 : decode b_Mo_join 116 = .ok (.iconst 0, 1) := by decide +kernel
theorem d_Mo_join_117 : decode b_Mo_join 117 = .ok (.putfield 431, 3) := by decide +kernel
theorem d_Mo_join_120 : decode b_Mo_join 120 = .ok (.iload 13, 2) := by decide +kernel
theorem d_Mo_join_122 : decode b_Mo_join 122 = .ok (.iconst 4, 1) := by decide +kernel
theorem d_Mo_join_123 : decode b_Mo_join 123 = .ok (.if_icmp .ne 14, 3) := by decide +kernel
theorem d_Mo_join_126 : decode b_Mo_join 126 = .ok (.aload_n 0, 1) := by decide +kernel
theorem d_Mo_join_127 : decode b_Mo_join 127 = .ok (.getfield 171, 3) := by decide +kernel
theorem d_Mo_join_130 : decode b_Mo_join 130 = .ok (.lload 14, 2) := by decide +kernel
theorem d_Mo_join_132 : decode b_Mo_join 132 = .ok (.l2i, 1) := by decide +kernel
theorem d_Mo_join_133 : decode b_Mo_join 133 = .ok (.iaload, 1) := by decide +kernel
theorem d_Mo_join_134 : decode b_Mo_join 134 = .ok (.goto 5, 3) := by decide +kernel
theorem d_Mo_join_137 : decode b_Mo_join 137 = .ok (.bipush 20, 2) := by decide +kernel
theorem d_Mo_join_139 : decode b_Mo_join 139 = .ok (.iload 9, 2) := by decide +kernel
theorem d_Mo_join_141 : decode b_Mo_join 141 = .ok (.iconst 4, 1) := by decide +kernel
theorem d_Mo_join_142 : decode b_Mo_join 142 = .ok (.if_icmp .ne 14, 3) := by decide +kernel
theorem d_Mo_join_145 : decode b_Mo_join 145 = .ok (.aload_n 0, 1) := by decide +kernel
theorem d_Mo_join_146 : decode b_Mo_join 146 = .ok (.getfield 171, 3) := by decide +kernel
theorem d_Mo_join_149 : decode b_Mo_join 149 = .ok (.lload 10, 2) := by decide +kernel
theorem d_Mo_join_151 : decode b_Mo_join 151 = .ok (.l2i, 1) := by decide +kernel
theorem d_Mo_join_152 : decode b_Mo_join 152 = .ok (.iaload, 1) := by decide +kernel
theorem d_Mo_join_153 : decode b_Mo_join 153 = .ok (.goto 5, 3) := by decide +kernel
theorem d_Mo_join_156 : decode b_Mo_join 156 = .ok (.bipush 20, 2) := by decide +kernel
theorem d_Mo_join_158 : decode b_Mo_join 158 = .ok (.iadd, 1) := by decide +kernel
theorem d_Mo_join_159 : decode b_Mo_join 159 = .ok (.istore 16, 2) := by decide +kernel
theorem d_Mo_join_161 : decode b_Mo_join 161 = .ok (.iload 16, 2) := by decide +kernel
theorem d_Mo_join_163 : decode b_Mo_join 163 = .ok (.ldc_w 986, 3) := by decide +kernel
theorem d_Mo_join_166 : decode b_Mo_join 166 = .ok (.if_icmp .le 11, 3) := by decide +kernel
theorem d_Mo_join_169 : decode b_Mo_join 169 = .ok (.aload_n 0, 1) := by decide +kernel
theorem d_Mo_join_170 : decode b_Mo_join 170 = .ok (.bipush 11, 2) := by decide +kernel
theorem d_Mo_join_172 : decode b_Mo_join 172 = .ok (.invokevirtual 517, 3) := by decide +kernel
theorem d_Mo_join_175 : decode b_Mo_join 175 = .ok (.pop, 1) := by decide +kernel
theorem d_Mo_join_176 : decode b_Mo_join 176 = .ok (.return_, 1) := by decide +kernel
theorem d_Mo_join_177 : decode b_Mo_join 177 = .ok (.aload_n 0, 1) := by decide +kernel
theorem d_Mo_join_178 : decode b_Mo_join 178 = .ok (.iload 13, 2) := by decide +kernel
theorem d_Mo_join_180 : decode b_Mo_join 180 = .ok (.lload 14, 2) := by decide +kernel
theorem d_Mo_join_182 : decode b_Mo_join 182 = .ok (.invokevirtual 902, 3) := by decide +kernel
theorem d_Mo_join_185 : decode b_Mo_join 185 = .ok (.aload_n 0, 1) := by decide +kernel
theorem d_Mo_join_186 : decode b_Mo_join 186 = .ok (.iload 9, 2) := by decide +kernel
theorem d_Mo_join_188 : decode b_Mo_join 188 = .ok (.lload 10, 2) := by decide +kernel
theorem d_Mo_join_190 : decode b_Mo_join 190 = .ok (.invokevirtual 902, 3) := by decide +kernel
theorem d_Mo_join_193 : decode b_Mo_join 193 = .ok (.aload_n 0, 1) := by decide +kernel
theorem d_Mo_join_194 : decode b_Mo_join 194 = .ok (.getfield 234, 3) := by decide +kernel
theorem d_Mo_join_197 : decode b_Mo_join 197 = .ok (.getfield 569, 3) := by decide +kernel
theorem d_Mo_join_200 : decode b_Mo_join 200 = .ok (.istore 17, 2) := by decide +kernel
theorem d_Mo_join_202 : decode b_Mo_join 202 = .ok (.aload_n 0, 1) := by decide +kernel
theorem d_Mo_join_203 : decode b_Mo_join 203 = .ok (.getfield 234, 3) := by decide +kernel
theorem d_Mo_join_206 : decode b_Mo_join 206 = .ok (.iload 9, 2) := by decide +kernel
theorem d_Mo_join_208 : decode b_Mo_join 208 = .ok (.lload 10, 2) := by decide +kernel
theorem d_Mo_join_210 : decode b_Mo_join 210 = .ok (.invokevirtual 572, 3) := by decide +kernel
theorem d_Mo_join_213 : decode b_Mo_join 213 = .ok (.aload_n 0, 1) := by decide +kernel
theorem d_Mo_join_214 : decode b_Mo_join 214 = .ok (.getfield 431, 3) := by decide +kernel
theorem d_Mo_join_217 : decode b_Mo_join 217 = .ok (.ldc_w 987, 3) := by decide +kernel
theorem d_Mo_join_220 : decode b_Mo_join 220 = .ok (.if_icmp .le 12, 3) := by decide +kernel
theorem d_Mo_join_223 : decode b_Mo_join 223 = .ok (.aload_n 0, 1) := by decide +kernel
theorem d_Mo_join_224 : decode b_Mo_join 224 = .ok (.bipush 11, 2) := by decide +kernel
theorem d_Mo_join_226 : decode b_Mo_join 226 = .ok (.invokevirtual 517, 3) := by decide +kernel
theorem d_Mo_join_229 : decode b_Mo_join 229 = .ok (.goto 16, 3) := by decide +kernel
theorem d_Mo_join_232 : decode b_Mo_join 232 = .ok (.aload_n 0, 1) := by decide +kernel
theorem d_Mo_join_233 : decode b_Mo_join 233 = .ok (.aload_n 0, 1) := by decide +kernel
theorem d_Mo_join_234 : decode b_Mo_join 234 = .ok (.getfield 422, 3) := by decide +kernel
theorem d_Mo_join_237 : decode b_Mo_join 237 = .ok (.iconst 0, 1) := by decide +kernel
theorem d_Mo_join_238 : decode b_Mo_join 238 = .ok (.aload_n 0, 1) := by decide +kernel
theorem d_Mo_join_239 : decode b_Mo_join 239 = .ok (.getfield 431, 3) := by decide +kernel
theorem d_Mo_join_242 : decode b_Mo_join 242 = .ok (.invokevirtual 655, 3) := by decide +kernel
theorem d_Mo_join_245 : decode b_Mo_join 245 = .ok (.istore 18, 2) := by decide +kernel
theorem d_Mo_join_247 : decode b_Mo_join 247 = .ok (.aload_n 0, 1) := by decide +kernel
theorem d_Mo_join_248 : decode b_Mo_join 248 = .ok (.getfield 234, 3) := by decide +kernel
theorem d_Mo_join_251 : decode b_Mo_join 251 = .ok (.iload 17, 2) := by decide +kernel
theorem d_Mo_join_253 : decode b_Mo_join 253 = .ok (.putfield 569, 3) := by decide +kernel
theorem d_Mo_join_256 : decode b_Mo_join 256 = .ok (.iload 18, 2) := by decide +kernel
theorem d_Mo_join_258 : decode b_Mo_join 258 = .ok (.ifCond .ge 4, 3) := by decide +kernel
theorem d_Mo_join_261 : decode b_Mo_join 261 = .ok (.return_, 1) := by decide +kernel
theorem d_Mo_join_262 : decode b_Mo_join 262 = .ok (.iconst 4, 1) := by decide +kernel
theorem d_Mo_join_263 : decode b_Mo_join 263 = .ok (.istore 9, 2) := by decide +kernel
theorem d_Mo_join_265 : decode b_Mo_join 265 = .ok (.iload 18, 2) := by decide +kernel
theorem d_Mo_join_267 : decode b_Mo_join 267 = .ok (.i2l, 1) := by decide +kernel
theorem d_Mo_join_268 : decode b_Mo_join 268 = .ok (.lstore 10, 2) := by decide +kernel
theorem d_Mo_join_270 : decode b_Mo_join 270 = .ok (.goto 46, 3) := by decide +kernel
theorem d_Mo_join_273 : decode b_Mo_join 273 = .ok (.aload_n 0, 1) := by decide +kernel
theorem d_Mo_join_274 : decode b_Mo_join 274 = .ok (.iconst 4, 1) := by decide +kernel
theorem d_Mo_join_275 : decode b_Mo_join 275 = .ok (.iload 7, 2) := by decide +kernel
theorem d_Mo_join_277 : decode b_Mo_join 277 = .ok (.invokestatic 495, 3) := by decide +kernel
theorem d_Mo_join_280 : decode b_Mo_join 280 = .ok (.iconst 1, 1) := by decide +kernel
theorem d_Mo_join_281 : decode b_Mo_join 281 = .ok (.invokevirtual 947, 3) := by decide +kernel
theorem d_Mo_join_284 : decode b_Mo_join 284 = .ok (.aload_n 1, 1) := by decide +kernel
theorem d_Mo_join_285 : decode b_Mo_join 285 = .ok (.getfield 776, 3) := by decide +kernel
theorem d_Mo_join_288 : decode b_Mo_join 288 = .ok (.iload_n 2, 1) := by decide +kernel
theorem d_Mo_join_289 : decode b_Mo_join 289 = .ok (.iload 12, 2) := by decide +kernel
theorem d_Mo_join_291 : decode b_Mo_join 291 = .ok (.iastore, 1) := by decide +kernel
theorem d_Mo_join_292 : decode b_Mo_join 292 = .ok (.aload_n 0, 1) := by decide +kernel
theorem d_Mo_join_293 : decode b_Mo_join 293 = .ok (.bipush 15, 2) := by decide +kernel
theorem d_Mo_join_295 : decode b_Mo_join 295 = .ok (.iload 13, 2) := by decide +kernel
theorem d_Mo_join_297 : decode b_Mo_join 297 = .ok (.lload 14, 2) := by decide +kernel
theorem d_Mo_join_299 : decode b_Mo_join 299 = .ok (.iload 9, 2) := by decide +kernel
theorem d_Mo_join_301 : decode b_Mo_join 301 = .ok (.lload 10, 2) := by decide +kernel
theorem d_Mo_join_303 : decode b_Mo_join 303 = .ok (.invokevirtual 956, 3) := by decide +kernel
theorem d_Mo_join_306 : decode b_Mo_join 306 = .ok (.ifCond .ne 9, 3) := by decide +kernel
theorem d_Mo_join_309 : decode b_Mo_join 309 = .ok (.aload_n 0, 1) := by decide +kernel
theorem d_Mo_join_310 : decode b_Mo_join 310 = .ok (.iconst 3, 1) := by decide +kernel
theorem d_Mo_join_311 : decode b_Mo_join 311 = .ok (.invokevirtual 517, 3) := by decide +kernel
theorem d_Mo_join_314 : decode b_Mo_join 314 = .ok (.pop, 1) := by decide +kernel
theorem d_Mo_join_315 : decode b_Mo_join 315 = .ok (.return_, 1) := by decide +kernel
theorem d_Mo_join_316 : decode b_Mo_join 316 = .ok (.iinc 12 (-1), 3) := by decide +kernel
theorem d_Mo_join_319 : decode b_Mo_join 319 = .ok (.goto (-268), 3) := by decide +kernel
theorem d_Mo_join_322 : decode b_Mo_join 322 = .ok (.aload_n 1, 1) := by decide +kernel
theorem d_Mo_join_323 : decode b_Mo_join 323 = .ok (.getfield 591, 3) := by decide +kernel
theorem d_Mo_join_326 : decode b_Mo_join 326 = .ok (.iload 8, 2) := by decide +kernel
theorem d_Mo_join_328 : decode b_Mo_join 328 = .ok (.iload 7, 2) := by decide +kernel
theorem d_Mo_join_330 : decode b_Mo_join 330 = .ok (.invokestatic 495, 3) := by decide +kernel
theorem d_Mo_join_333 : decode b_Mo_join 333 = .ok (.iadd, 1) := by decide +kernel
theorem d_Mo_join_334 : decode b_Mo_join 334 = .ok (.iload 9, 2) := by decide +kernel
theorem d_Mo_join_336 : decode b_Mo_join 336 = .ok (.lload 10, 2) := by decide +kernel
theorem d_Mo_join_338 : decode b_Mo_join 338 = .ok (.invokevirtual 470, 3) := by decide +kernel
theorem d_Mo_join_341 : decode b_Mo_join 341 = .ok (.return_, 1) := by decide +kernel
abbrev b_Mo_expect : ByteArray := prog_14_method_65_code
def y_Mo_expect : MethodName := ⟨R_Mo, "expect", "(III)V"⟩
abbrev w_Mo_expect : List Cond := .code y_Mo_expect b_Mo_expect 5 none :: wA
theorem k_Mo_expect : Cond.code y_Mo_expect b_Mo_expect 5 none ∈ wA := kinm (show _ ∈ tables_1 from (List.mem_append_right _ (List.mem_append_right _ (List.mem_append_right _ (List.mem_append_right _ (List.mem_append_right _ (List.mem_append_right _ (List.mem_append_right _ (List.mem_append_right _ (List.mem_append_right _ (List.mem_append_right _ (List.mem_append_right _ (List.mem_append_right _ (List.mem_append_left _ (List.mem_of_getElem? (l := tables_1_13) (i := 102) (by decide +kernel)))))))))))))))) (by decide +kernel)
theorem d_Mo_expect_0 : decode b_Mo_expect 0 = .ok (.aload_n 0, 1) := by decide +kernel
theorem d_Mo_expect_1 : decode b_Mo_expect 1 = .ok (.getfield 243, 3) := by decide +kernel
theorem d_Mo_expect_4 : decode b_Mo_expect 4 = .ok (.invokevirtual 703, 3) := by decide +kernel
theorem d_Mo_expect_7 : decode b_Mo_expect 7 = .ok (.istore 4, 2) := by decide +kernel
theorem d_Mo_expect_9 : decode b_Mo_expect 9 = .ok (.aload_n 0, 1) := by decide +kernel
theorem d_Mo_expect_10 : decode b_Mo_expect 10 = .ok (.getfield 243, 3) := by decide +kernel
theorem d_Mo_expect_13 : decode b_Mo_expect 13 = .ok (.getfield 706, 3) := by decide +kernel
theorem d_Mo_expect_16 : decode b_Mo_expect 16 = .ok (.iload 4, 2) := by decide +kernel
theorem d_Mo_expect_18 : decode b_Mo_expect 18 = .ok (.iload_n 1, 1) := by decide +kernel
theorem d_Mo_expect_19 : decode b_Mo_expect 19 = .ok (.iastore, 1) := by decide +kernel
theorem d_Mo_expect_20 : decode b_Mo_expect 20 = .ok (.aload_n 0, 1) := by decide +kernel
theorem d_Mo_expect_21 : decode b_Mo_expect 21 = .ok (.getfield 243, 3) := by decide +kernel
theorem d_Mo_expect_24 : decode b_Mo_expect 24 = .ok (.getfield 709, 3) := by decide +kernel
theorem d_Mo_expect_27 : decode b_Mo_expect 27 = .ok (.iload 4, 2) := by decide +kernel
theorem d_Mo_expect_29 : decode b_Mo_expect 29 = .ok (.iload_n 2, 1) := by decide +kernel
theorem d_Mo_expect_30 : decode b_Mo_expect 30 = .ok (.iastore, 1) := by decide +kernel
theorem d_Mo_expect_31 : decode b_Mo_expect 31 = .ok (.aload_n 0, 1) := by decide +kernel
theorem d_Mo_expect_32 : decode b_Mo_expect 32 = .ok (.getfield 243, 3) := by decide +kernel
theorem d_Mo_expect_35 : decode b_Mo_expect 35 = .ok (.getfield 712, 3) := by decide +kernel
theorem d_Mo_expect_38 : decode b_Mo_expect 38 = .ok (.iload 4, 2) := by decide +kernel
theorem d_Mo_expect_40 : decode b_Mo_expect 40 = .ok (.iload_n 3, 1) := by decide +kernel
theorem d_Mo_expect_41 : decode b_Mo_expect 41 = .ok (.iastore, 1) := by decide +kernel
theorem d_Mo_expect_42 : decode b_Mo_expect 42 = .ok (.return_, 1) := by decide +kernel
theorem kw_242 : Cond.methodLink R_Mo 703 y_Th_top ∈ wA := kinm (show _ ∈ tables_1 from (List.mem_append_right _ (List.mem_append_right _ (List.mem_append_right _ (List.mem_append_right _ (List.mem_append_right _ (List.mem_append_right _ (List.mem_append_right _ (List.mem_append_right _ (List.mem_append_right _ (List.mem_append_right _ (List.mem_append_right _ (List.mem_append_left _ (List.mem_of_getElem? (l := tables_1_12) (i := 134) (by decide +kernel))))))))))))))) (by decide +kernel)
theorem kw_243 : Cond.fieldLink R_Mo 709 "LuaMachineModel$Thread_" "into" "[I" ∈ wA := kinm (show _ ∈ tables_1 from (List.mem_append_right _ (List.mem_append_right _ (List.mem_append_right _ (List.mem_append_right _ (List.mem_append_right _ (List.mem_append_right _ (List.mem_append_right _ (List.mem_append_right _ (List.mem_append_right _ (List.mem_append_left _ (List.mem_of_getElem? (l := tables_1_10) (i := 3) (by decide +kernel))))))))))))) (by decide +kernel)
theorem kw_244 : Cond.fieldLink R_Mo 712 "LuaMachineModel$Thread_" "want" "[I" ∈ wA := kinm (show _ ∈ tables_1 from (List.mem_append_right _ (List.mem_append_right _ (List.mem_append_right _ (List.mem_append_right _ (List.mem_append_right _ (List.mem_append_right _ (List.mem_append_right _ (List.mem_append_right _ (List.mem_append_right _ (List.mem_append_left _ (List.mem_of_getElem? (l := tables_1_10) (i := 5) (by decide +kernel))))))))))))) (by decide +kernel)
theorem kw_245 : Cond.instanceMethod y_Mo_expect ∈ wA := kinm (show _ ∈ tables_1 from (List.mem_append_right _ (List.mem_append_right _ (List.mem_append_right _ (List.mem_append_right _ (List.mem_append_right _ (List.mem_append_right _ (List.mem_append_right _ (List.mem_append_right _ (List.mem_append_right _ (List.mem_append_right _ (List.mem_append_right _ (List.mem_append_right _ (List.mem_append_left _ (List.mem_of_getElem? (l := tables_1_13) (i := 101) (by decide +kernel)))))))))))))))) (by decide +kernel)
theorem kw_246 : Cond.selects R_Mo y_Mo_expect y_Mo_expect ∈ wA := kinp 196 (by decide +kernel) (by decide +kernel)
def M_Mo_expect (l1 : Int32) (l2 : Int32) (l3 : Int32) : M (Unit) :=
  oB (oGI 72 0) fun v1 =>
  oB (oK ((0 : Int32) ≤ v1 ∧ v1 < 33)) fun _ =>
  oB (M_Th_top v1) fun v4 =>
  oB (oGI 72 0) fun v10 =>
  oB (oK ((0 : Int32) ≤ v10 ∧ v10 < 33)) fun _ =>
  oB (oSI 37 201 v10 v4 l1) fun _ =>
  oB (oGI 72 0) fun v21 =>
  oB (oK ((0 : Int32) ≤ v21 ∧ v21 < 33)) fun _ =>
  oB (oSI 38 201 v21 v4 l2) fun _ =>
  oB (oGI 72 0) fun v32 =>
  oB (oK ((0 : Int32) ≤ v32 ∧ v32 < 33)) fun _ =>
  oB (oSI 39 201 v32 v4 l3) fun _ =>
  oR ()

theorem cv_Mo_expect : CV y_Mo_expect b_Mo_expect 5 none 3 := ⟨kw_245, kw_246, kw_17, k_Mo_expect, by decide +kernel⟩
theorem ct_Mo_expect {l : Launch} {P : PP} {q : PL} {s s' : S1} {l1 : Int32} {l2 : Int32} {l3 : Int32} {r : Unit} (h : M_Mo_expect l1 l2 l3 s = some (r, s')) : Ct l y_Mo_expect b_Mo_expect 5 none 1 20 P q s [.ref (q.1 0 0), .int l1, .int l2, .int l3] none q s' := by
  refine ct_of (by decide) (Nat.le_of_ble_eq_true rfl) fun X ls eP el g hR hl => ?_
  have hR : Rt X q ((r, s') : Unit × S1).2 none := hR
  have hl : lv_has ls 5 [(0, .ref (q.1 0 0)), (1, .int l1), (2, .int l2), (3, .int l3)] := hl
  generalize (r, s') = o at h hR
  unfold M_Mo_expect at h
  refine ww_aload_n (pc := 0) g.1 d_Mo_expect_0 rfl (lv_at hl 0 rfl) ?_
  refine ww_gV (pc := 1) g (k := 72) cl_Mo (pz rfl (by decide)) (by decide) (Or.inl kw_155) (f := 72) (t := 28) rfl rfl rfl d_Mo_expect_1 h fun v1 h => ?_
  refine ww_ok h fun cn1 h => ?_
  refine ww_nn cn1 ?_
  obtain ⟨v4, s, hc4, h⟩ := oB_of h
  refine ww_callV (pc := 4) (rest := []) g cv_Th_top (Or.inl kw_242) cl_Th (pt rfl rfl cn1) (ct_Th_top cn1 hc4) ⟨by decide, by decide⟩ rfl hl.1 (Nat.le_of_ble_eq_true rfl) d_Mo_expect_4 rfl ?_
  refine ww_st (st' := [.int v4]) rfl ?_
  refine ww_istore (pc := 7) g.1 (lv' := [(4, .int v4), (0, .ref (q.1 0 0)), (1, .int l1), (2, .int l2), (3, .int l3)]) d_Mo_expect_7 hl (by decide) rfl fun ls hl => ?_
  refine ww_aload_n (pc := 9) g.1 d_Mo_expect_9 rfl (lv_at hl 1 rfl) ?_
  refine ww_gV (pc := 10) g (k := 72) cl_Mo (pz rfl (by decide)) (by decide) (Or.inl kw_155) (f := 72) (t := 28) rfl rfl rfl d_Mo_expect_10 h fun v10 h => ?_
  refine ww_ok h fun cn10 h => ?_
  refine ww_nn cn10 ?_
  refine ww_gR (pc := 13) g (k := 18) cl_Th (pt rfl rfl cn10) (by decide) (Or.inl kw_161) (f := 3602) (t := 37) rfl rfl rfl d_Mo_expect_13 ?_
  refine ww_iload (pc := 16) g.1 d_Mo_expect_16 (lv_at hl 0 rfl) ?_
  refine ww_iload_n (pc := 18) g.1 d_Mo_expect_18 rfl (lv_at hl 2 rfl) ?_
  refine ww_si (pc := 19) g (pt rfl rfl cn10) rfl rfl d_Mo_expect_19 h fun s hs h => ?_
  refine ww_aload_n (pc := 20) g.1 d_Mo_expect_20 rfl (lv_at hl 1 rfl) ?_
  refine ww_gV (pc := 21) g (k := 72) cl_Mo (pz rfl (by decide)) (by decide) (Or.inl kw_155) (f := 72) (t := 28) rfl rfl rfl d_Mo_expect_21 h fun v21 h => ?_
  refine ww_ok h fun cn21 h => ?_
  refine ww_nn cn21 ?_
  refine ww_gR (pc := 24) g (k := 19) cl_Th (pt rfl rfl cn21) (by decide) (Or.inl kw_243) (f := 3603) (t := 38) rfl rfl rfl d_Mo_expect_24 ?_
  refine ww_iload (pc := 27) g.1 d_Mo_expect_27 (lv_at hl 0 rfl) ?_
  refine ww_iload_n (pc := 29) g.1 d_Mo_expect_29 rfl (lv_at hl 3 rfl) ?_
  refine ww_si (pc := 30) g (pt rfl rfl cn21) rfl rfl d_Mo_expect_30 h fun s hs h => ?_
  refine ww_aload_n (pc := 31) g.1 d_Mo_expect_31 rfl (lv_at hl 1 rfl) ?_
  refine ww_gV (pc := 32) g (k := 72) cl_Mo (pz rfl (by decide)) (by decide) (Or.inl kw_155) (f := 72) (t := 28) rfl rfl rfl d_Mo_expect_32 h fun v32 h => ?_
  refine ww_ok h fun cn32 h => ?_
  refine ww_nn cn32 ?_
  refine ww_gR (pc := 35) g (k := 20) cl_Th (pt rfl rfl cn32) (by decide) (Or.inl kw_244) (f := 3604) (t := 39) rfl rfl rfl d_Mo_expect_35 ?_
  refine ww_iload (pc := 38) g.1 d_Mo_expect_38 (lv_at hl 0 rfl) ?_
  refine ww_iload_n (pc := 40) g.1 d_Mo_expect_40 rfl (lv_at hl 4 rfl) ?_
  refine ww_si (pc := 41) g (pt rfl rfl cn32) rfl rfl d_Mo_expect_41 h fun s hs h => ?_
  exact ww_vretH (pc := 42) g h hR d_Mo_expect_42

