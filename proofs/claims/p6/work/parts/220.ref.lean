theorem kw_378 : Cond.instanceMethod y_Mo_giveWay ∈ wA := kinm (show _ ∈ tables_1 from (List.mem_append_right _ (List.mem_append_right _ (List.mem_append_right _ (List.mem_append_right _ (List.mem_append_right _ (List.mem_append_right _ (List.mem_append_right _ (List.mem_append_right _ (List.mem_append_right _ (List.mem_append_right _ (List.mem_append_right _ (List.mem_append_right _ (List.mem_append_left _ (List.mem_of_getElem? (l := tables_1_13) (i := 67) (by decide +kernel)))))))))))))))) (by decide +kernel)
theorem kw_379 : Cond.selects R_Mo y_Mo_giveWay y_Mo_giveWay ∈ wA := kinp 188 (by decide +kernel) (by decide +kernel)
def M_Mo_giveWay_L41 : (Int32 × Int32) → M ((Int32 × Int32) ⊕ ((Int32))) := fun x =>
  oB (oGI 898 0) fun v46 =>
  oC (v46 ≤ x.2)
    (oR (Sum.inr x.1))
    (oB (M_Va_add_ 10 0 7 0 x.2) fun _ =>
    oR (Sum.inl (x.1, x.2 + 1)))

def M_Mo_giveWay  : M (Unit) :=
  oB (oGI 72 0) fun v1 =>
  oB (oK ((0 : Int32) ≤ v1 ∧ v1 < 33)) fun _ =>
  oB (oK ((0 : Int32) ≤ 0 ∧ 0 < 33)) fun _ =>
  oC (v1 = 0)
    (oB (M_Mo_raise 9) fun v16 =>
    oR ())
    (oB (oGI 72 0) fun v22 =>
    oB (oK ((0 : Int32) ≤ v22 ∧ v22 < 33)) fun _ =>
    oB (oPI 3585 v22 0) fun _ =>
    oB (oPI 1282 0 0) fun _ =>
    oB (oW M_Mo_giveWay_L41 (v22, 0)) fun e41 =>
    oB (oPI 898 0 0) fun _ =>
    oB (oK ((0 : Int32) ≤ e41 ∧ e41 < 33)) fun _ =>
    oB (M_Mo_back e41) fun _ =>
    oB (oPI 73 0 2) fun _ =>
    oR ())

theorem cv_Mo_giveWay : CV y_Mo_giveWay b_Mo_giveWay 3 none 0 := ⟨kw_378, kw_379, kw_17, k_Mo_giveWay, by decide +kernel⟩
theorem lp_Mo_giveWay_L41 {X : Cx} {q : PL} (g : Gd X y_Mo_giveWay b_Mo_giveWay 3 none 2 45 R_Mo) (x : Int32 × Int32) (s : S1) (o : ((Int32 × Int32) ⊕ ((Int32))) × S1) (h : M_Mo_giveWay_L41 x s = some o) (hR : (Sum.elim (fun y : Int32 × Int32 => ∀ ls : Array Slot, lv_has ls 3 [(0, .ref (q.1 0 0)), (1, vr q 28 y.1), (2, .int y.2)] → WW X q o.2 41 ls []) (fun y : Int32 => ∀ ls : Array Slot, lv_has ls 3 [(0, .ref (q.1 0 0)), (1, vr q 28 y)] → WW X q o.2 70 ls []) o.1)) : ∀ ls : Array Slot, lv_has ls 3 [(0, .ref (q.1 0 0)), (1, vr q 28 x.1), (2, .int x.2)] → WW X q s 41 ls [] := by
  intro ls hl
  unfold M_Mo_giveWay_L41 at h
  refine ww_iload_n (pc := 41) g.1 d_Mo_giveWay_41 rfl (lv_at hl 2 rfl) ?_
  refine ww_aload_n (pc := 42) g.1 d_Mo_giveWay_42 rfl (lv_at hl 0 rfl) ?_
  refine ww_gR (pc := 43) g (k := 77) cl_Mo (pz rfl (by decide)) (by decide) (Or.inl kw_188) (f := 77) (t := 7) rfl rfl rfl d_Mo_giveWay_43 ?_
  refine ww_gI (pc := 46) g (k := 2) (cl_Va (Or.inl ⟨by decide, rfl⟩)) (pz rfl (by decide)) (by decide) (Or.inl kw_185) (f := 898) rfl rfl d_Mo_giveWay_46 h fun v46 h => ?_
  refine ww_icmp_ge (pc := 49) (tgt := 70) g.1 d_Mo_giveWay_49 (by decide) h (fun c h => ?_) (fun c h => ?_)
  · rw [oR_eq h] at hR
    exact hR ls (lv_sub hl [0, 1] rfl)
  · refine ww_aload_n (pc := 52) g.1 d_Mo_giveWay_52 rfl (lv_at hl 0 rfl) ?_
    refine ww_gR (pc := 53) g (k := 78) cl_Mo (pz rfl (by decide)) (by decide) (Or.inl kw_184) (f := 78) (t := 10) rfl rfl rfl d_Mo_giveWay_53 ?_
    refine ww_aload_n (pc := 56) g.1 d_Mo_giveWay_56 rfl (lv_at hl 0 rfl) ?_
    refine ww_gR (pc := 57) g (k := 77) cl_Mo (pz rfl (by decide)) (by decide) (Or.inl kw_188) (f := 77) (t := 7) rfl rfl rfl d_Mo_giveWay_57 ?_
    refine ww_iload_n (pc := 60) g.1 d_Mo_giveWay_60 rfl (lv_at hl 2 rfl) ?_
    obtain ⟨v61, s, hc61, h⟩ := oB_of h
    refine ww_callV (pc := 61) (rest := []) g cv_Va_add_ (Or.inl kw_227) (cl_Va (Or.inl ⟨by decide, rfl⟩)) (pz rfl (by decide)) (ct_Va_add_ (Or.inl ⟨by decide, rfl⟩) (Or.inl ⟨by decide, rfl⟩) hc61) ⟨by decide, by decide⟩ rfl hl.1 (Nat.le_of_ble_eq_true rfl) d_Mo_giveWay_61 rfl ?_
    refine ww_st (st' := []) rfl ?_
    refine ww_iinc (pc := 64) g.1 (v := x.2 + 1) (lv' := [(2, .int (x.2 + 1)), (0, .ref (q.1 0 0)), (1, vr q 28 x.1)]) d_Mo_giveWay_64 hl (k := 2) rfl (by rfl) (by decide) (by simp [vr_cat]) fun ls hl => ?_
    refine ww_goto (pc := 67) (tgt := 41) g.1 d_Mo_giveWay_67 (by decide) ?_
    rw [oR_eq h] at hR
    exact hR ls (lv_sub hl [1, 2, 0] rfl)

theorem ct_Mo_giveWay {l : Launch} {P : PP} {q : PL} {s s' : S1}  {r : Unit} (h : M_Mo_giveWay s = some (r, s')) : Ct l y_Mo_giveWay b_Mo_giveWay 3 none 2 45 P q s [.ref (q.1 0 0)] none q s' := by
  refine ct_of (by decide) (Nat.le_of_ble_eq_true rfl) fun X ls eP el g hR hl => ?_
  have hR : Rt X q ((r, s') : Unit × S1).2 none := hR
  have hl : lv_has ls 3 [(0, .ref (q.1 0 0))] := hl
  generalize (r, s') = o at h hR
  unfold M_Mo_giveWay at h
  refine ww_aload_n (pc := 0) g.1 d_Mo_giveWay_0 rfl (lv_at hl 0 rfl) ?_
  refine ww_gV (pc := 1) g (k := 72) cl_Mo (pz rfl (by decide)) (by decide) (Or.inl kw_155) (f := 72) (t := 28) rfl rfl rfl d_Mo_giveWay_1 h fun v1 h => ?_
  refine ww_ok h fun cn1 h => ?_
  refine ww_nn cn1 ?_
  refine ww_aload_n (pc := 4) g.1 d_Mo_giveWay_4 rfl (lv_at hl 0 rfl) ?_
  refine ww_gR (pc := 5) g (k := 71) cl_Mo (pz rfl (by decide)) (by decide) (Or.inl kw_90) (f := 71) (t := 76) rfl rfl rfl d_Mo_giveWay_5 ?_
  refine ww_iconst (pc := 8) g.1 (v := 0) d_Mo_giveWay_8 (by decide) ?_
  refine ww_at (pc := 9) g (t := 28) (pz rfl (by decide)) rfl rfl rfl d_Mo_giveWay_9 h fun ca9 h => ?_
  refine ww_acmp_ne (pc := 10) (tgt := 21) g.1 (pt rfl rfl cn1) (pt rfl rfl ca9) d_Mo_giveWay_10 (by decide) h (fun c h => ?_) (fun c h => ?_)
  · refine ww_aload_n (pc := 21) g.1 d_Mo_giveWay_21 rfl (lv_at hl 0 rfl) ?_
    refine ww_gV (pc := 22) g (k := 72) cl_Mo (pz rfl (by decide)) (by decide) (Or.inl kw_155) (f := 72) (t := 28) rfl rfl rfl d_Mo_giveWay_22 h fun v22 h => ?_
    refine ww_astore_nV (pc := 25) g.1 vr_cases (lv' := [(1, vr q 28 v22), (0, .ref (q.1 0 0))]) d_Mo_giveWay_25 rfl hl (by decide) rfl fun ls hl => ?_
    refine ww_aload_nV (pc := 26) g.1 vr_cases d_Mo_giveWay_26 rfl (lv_at hl 0 rfl) ?_
    refine ww_ok h fun cn26 h => ?_
    refine ww_nn cn26 ?_
    refine ww_iconst (pc := 27) g.1 (v := 0) d_Mo_giveWay_27 (by decide) ?_
    refine ww_pI (pc := 28) g (k := 1) cl_Th (pt rfl rfl cn26) (by decide) (Or.inl kw_223) rfl (f := 3585) rfl rfl rfl rfl d_Mo_giveWay_28 h fun s hs h => ?_
    refine ww_aload_n (pc := 31) g.1 d_Mo_giveWay_31 rfl (lv_at hl 1 rfl) ?_
    refine ww_gR (pc := 32) g (k := 78) cl_Mo (pz rfl (by decide)) (by decide) (Or.inl kw_184) (f := 78) (t := 10) rfl rfl rfl d_Mo_giveWay_32 ?_
    refine ww_iconst (pc := 35) g.1 (v := 0) d_Mo_giveWay_35 (by decide) ?_
    refine ww_pI (pc := 36) g (k := 2) (cl_Va (Or.inl ⟨by decide, rfl⟩)) (pz rfl (by decide)) (by decide) (Or.inl kw_185) rfl (f := 1282) rfl rfl rfl rfl d_Mo_giveWay_36 h fun s hs h => ?_
    refine ww_iconst (pc := 39) g.1 (v := 0) d_Mo_giveWay_39 (by decide) ?_
    refine ww_istore_n (pc := 40) g.1 (lv' := [(2, .int 0), (1, vr q 28 v22), (0, .ref (q.1 0 0))]) d_Mo_giveWay_40 rfl hl (by decide) (by simp [vr_cat]) fun ls hl => ?_
    obtain ⟨e41, s1, hw, h⟩ := oB_of h
    refine oW_rule (Wh := fun (x : Int32 × Int32) (s : S1) => ∀ ls : Array Slot, lv_has ls 3 [(0, .ref (q.1 0 0)), (1, vr q 28 x.1), (2, .int x.2)] → WW X q s 41 ls []) (We := fun (e : (Int32)) (s : S1) => ∀ ls : Array Slot, lv_has ls 3 [(0, .ref (q.1 0 0)), (1, vr q 28 e)] → WW X q s 70 ls []) (fun x s o hb hc => lp_Mo_giveWay_L41 (q := q) g x s o hb hc) hw ?_ ls (lv_sub hl [2, 1, 0] rfl)
    clear hw hl
    clear ls
    intro ls hl
    generalize s1 = s at h ⊢
    refine ww_aload_n (pc := 70) g.1 d_Mo_giveWay_70 rfl (lv_at hl 0 rfl) ?_
    refine ww_gR (pc := 71) g (k := 77) cl_Mo (pz rfl (by decide)) (by decide) (Or.inl kw_188) (f := 77) (t := 7) rfl rfl rfl d_Mo_giveWay_71 ?_
    refine ww_iconst (pc := 74) g.1 (v := 0) d_Mo_giveWay_74 (by decide) ?_
    refine ww_pI (pc := 75) g (k := 2) (cl_Va (Or.inl ⟨by decide, rfl⟩)) (pz rfl (by decide)) (by decide) (Or.inl kw_185) rfl (f := 898) rfl rfl rfl rfl d_Mo_giveWay_75 h fun s hs h => ?_
    refine ww_aload_n (pc := 78) g.1 d_Mo_giveWay_78 rfl (lv_at hl 0 rfl) ?_
    refine ww_aload_nV (pc := 79) g.1 vr_cases d_Mo_giveWay_79 rfl (lv_at hl 1 rfl) ?_
    refine ww_ok h fun cn79 h => ?_
    refine ww_nn cn79 ?_
    obtain ⟨v80, s, hc80, h⟩ := oB_of h
    refine ww_callV (pc := 80) (rest := []) g cv_Mo_back (Or.inl kw_237) cl_Mo (pz rfl (by decide)) (ct_Mo_back cn79 hc80) ⟨by decide, by decide⟩ rfl hl.1 (Nat.le_of_ble_eq_true rfl) d_Mo_giveWay_80 rfl ?_
    refine ww_st (st' := []) rfl ?_
    refine ww_aload_n (pc := 83) g.1 d_Mo_giveWay_83 rfl (lv_at hl 0 rfl) ?_
    refine ww_iconst (pc := 84) g.1 (v := 2) d_Mo_giveWay_84 (by decide) ?_
    refine ww_pI (pc := 85) g (k := 73) cl_Mo (pz rfl (by decide)) (by decide) (Or.inl kw_77) rfl (f := 73) rfl rfl rfl rfl d_Mo_giveWay_85 h fun s hs h => ?_
    exact ww_vretH (pc := 88) g h hR d_Mo_giveWay_88
  · refine ww_aload_n (pc := 13) g.1 d_Mo_giveWay_13 rfl (lv_at hl 0 rfl) ?_
    refine ww_bipush (pc := 14) g.1 (v := 9) d_Mo_giveWay_14 (by decide) ?_
    obtain ⟨v16, s, hc16, h⟩ := oB_of h
    refine ww_callV (pc := 16) (rest := []) g cv_Mo_raise (Or.inl kw_162) cl_Mo (pz rfl (by decide)) (ct_Mo_raise hc16) ⟨by decide, by decide⟩ rfl hl.1 (Nat.le_of_ble_eq_true rfl) d_Mo_giveWay_16 rfl ?_
    refine ww_st (st' := [.int v16]) rfl ?_
    refine ww_pop (pc := 19) g.1 d_Mo_giveWay_19 rfl ?_
    exact ww_vretH (pc := 20) g h hR d_Mo_giveWay_20

theorem kw_380 : Cond.methodLink R_Mo 789 y_Mo_close ∈ wA := kinm (show _ ∈ tables_1 from (List.mem_append_right _ (List.mem_append_right _ (List.mem_append_right _ (List.mem_append_right _ (List.mem_append_right _ (List.mem_append_right _ (List.mem_append_right _ (List.mem_append_right _ (List.mem_append_right _ (List.mem_append_right _ (List.mem_append_right _ (List.mem_append_right _ (List.mem_append_left _ (List.mem_of_getElem? (l := tables_1_13) (i := 119) (by decide +kernel)))))))))))))))) (by decide +kernel)
theorem kw_381 : Cond.instanceMethod y_Mo_leave ∈ wA := kinm (show _ ∈ tables_1 from (List.mem_append_right _ (List.mem_append_right _ (List.mem_append_right _ (List.mem_append_right _ (List.mem_append_right _ (List.mem_append_right _ (List.mem_append_right _ (List.mem_append_right _ (List.mem_append_right _ (List.mem_append_right _ (List.mem_append_right _ (List.mem_append_right _ (List.mem_append_left _ (List.mem_of_getElem? (l := tables_1_13) (i := 117) (by decide +kernel)))))))))))))))) (by decide +kernel)
theorem kw_382 : Cond.selects R_Mo y_Mo_leave y_Mo_leave ∈ wA := kinp 200 (by decide +kernel) (by decide +kernel)
def M_Mo_leave_L2 : (Int32 × Int32) → M ((Int32 × Int32) ⊕ ((Int32 × Int32) ⊕ (Unit))) := fun x =>
  oB (oGI 3586 x.1) fun v4 =>
  oC (v4 ≤ x.2)
    (oR (Sum.inr (Sum.inr ())))
    (oB (oAI 30 201 x.1 x.2) fun v15 =>
    oC (v15 = 0)
      (oR (Sum.inr (Sum.inl (x.1, x.2))))
      (oR (Sum.inl (x.1, x.2 + 1))))

def M_Mo_leave (l1 : Int32) (l2 : Int32) : M (Unit) :=
  oB (oW M_Mo_leave_L2 (l1, l2)) fun e2 =>
  Sum.elim
    (fun y2_22 : Int32 × Int32 =>
      oB (oAI 33 201 y2_22.1 y2_22.2) fun v29 =>
      oB (M_Mo_close y2_22.1 v29) fun _ =>
      oR ())
    (fun y2_40 : Unit =>
      oR ()) e2

theorem cv_Mo_leave : CV y_Mo_leave b_Mo_leave 4 none 2 := ⟨kw_381, kw_382, kw_17, k_Mo_leave, by decide +kernel⟩
theorem lp_Mo_leave_L2 {X : Cx} {q : PL} (g : Gd X y_Mo_leave b_Mo_leave 4 none 3 70 R_Mo) (x : Int32 × Int32) (s : S1) (o : ((Int32 × Int32) ⊕ ((Int32 × Int32) ⊕ (Unit))) × S1) (h : M_Mo_leave_L2 x s = some o) (hR : (Sum.elim (fun y : Int32 × Int32 => ∀ ls : Array Slot, (0 ≤ y.1 ∧ y.1 < 33) → lv_has ls 4 [(0, .ref (q.1 0 0)), (1, .ref (q.1 28 y.1)), (3, .int y.2)] → WW X q o.2 2 ls []) (Sum.elim (fun y : Int32 × Int32 => ∀ ls : Array Slot, (0 ≤ y.1 ∧ y.1 < 33) → lv_has ls 4 [(0, .ref (q.1 0 0)), (1, .ref (q.1 28 y.1)), (3, .int y.2)] → WW X q o.2 22 ls []) (fun y : Unit => ∀ ls : Array Slot, lv_has ls 4 [] → WW X q o.2 40 ls [])) o.1)) : ∀ ls : Array Slot, (0 ≤ x.1 ∧ x.1 < 33) → lv_has ls 4 [(0, .ref (q.1 0 0)), (1, .ref (q.1 28 x.1)), (3, .int x.2)] → WW X q s 2 ls [] := by
  intro ls hp0 hl
  unfold M_Mo_leave_L2 at h
  refine ww_iload_n (pc := 2) g.1 d_Mo_leave_2 rfl (lv_at hl 2 rfl) ?_
  refine ww_aload_n (pc := 3) g.1 d_Mo_leave_3 rfl (lv_at hl 1 rfl) ?_
  refine ww_gI (pc := 4) g (k := 2) cl_Th (pt rfl rfl hp0) (by decide) (Or.inl kw_156) (f := 3586) rfl rfl d_Mo_leave_4 h fun v4 h => ?_
  refine ww_icmp_ge (pc := 7) (tgt := 40) g.1 d_Mo_leave_7 (by decide) h (fun c h => ?_) (fun c h => ?_)
  · rw [oR_eq h] at hR
    exact hR ls (lv_sub hl [] rfl)
  · refine ww_aload_n (pc := 10) g.1 d_Mo_leave_10 rfl (lv_at hl 1 rfl) ?_
    refine ww_gR (pc := 11) g (k := 11) cl_Th (pt rfl rfl hp0) (by decide) (Or.inl kw_157) (f := 3595) (t := 30) rfl rfl rfl d_Mo_leave_11 ?_
    refine ww_iload_n (pc := 14) g.1 d_Mo_leave_14 rfl (lv_at hl 2 rfl) ?_
    refine ww_ai (pc := 15) g (pt rfl rfl hp0) rfl rfl d_Mo_leave_15 h fun v15 h => ?_
    refine ww_if_eq (pc := 16) (tgt := 22) g.1 d_Mo_leave_16 (by decide) h (fun c h => ?_) (fun c h => ?_)
    · rw [oR_eq h] at hR
      exact hR ls hp0 (lv_sub hl [0, 1, 2] rfl)
    · refine ww_goto (pc := 19) (tgt := 34) g.1 d_Mo_leave_19 (by decide) ?_
      refine ww_iinc (pc := 34) g.1 (v := x.2 + 1) (lv' := [(3, .int (x.2 + 1)), (0, .ref (q.1 0 0)), (1, .ref (q.1 28 x.1))]) d_Mo_leave_34 hl (k := 2) rfl (by rfl) (by decide) rfl fun ls hl => ?_
      refine ww_goto (pc := 37) (tgt := 2) g.1 d_Mo_leave_37 (by decide) ?_
      rw [oR_eq h] at hR
      exact hR ls hp0 (lv_sub hl [1, 2, 0] rfl)

theorem ct_Mo_leave {l : Launch} {P : PP} {q : PL} {s s' : S1} {l1 : Int32} {l2 : Int32} (hp0 : 0 ≤ l1 ∧ l1 < 33) {r : Unit} (h : M_Mo_leave l1 l2 s = some (r, s')) : Ct l y_Mo_leave b_Mo_leave 4 none 3 70 P q s [.ref (q.1 0 0), .ref (q.1 28 l1), .int l2] none q s' := by
  refine ct_of (by decide) (Nat.le_of_ble_eq_true rfl) fun X ls eP el g hR hl => ?_
  have hR : Rt X q ((r, s') : Unit × S1).2 none := hR
  have hl : lv_has ls 4 [(0, .ref (q.1 0 0)), (1, .ref (q.1 28 l1)), (2, .int l2)] := hl
  generalize (r, s') = o at h hR
  unfold M_Mo_leave at h
  refine ww_iload_n (pc := 0) g.1 d_Mo_leave_0 rfl (lv_at hl 2 rfl) ?_
  refine ww_istore_n (pc := 1) g.1 (lv' := [(3, .int l2), (0, .ref (q.1 0 0)), (1, .ref (q.1 28 l1)), (2, .int l2)]) d_Mo_leave_1 rfl hl (by decide) rfl fun ls hl => ?_
  obtain ⟨e2, s1, hw, h⟩ := oB_of h
  refine oW_rule (Wh := fun (x : Int32 × Int32) (s : S1) => ∀ ls : Array Slot, (0 ≤ x.1 ∧ x.1 < 33) → lv_has ls 4 [(0, .ref (q.1 0 0)), (1, .ref (q.1 28 x.1)), (3, .int x.2)] → WW X q s 2 ls []) (We := fun (e : (Int32 × Int32) ⊕ (Unit)) (s : S1) => (Sum.elim (fun y : Int32 × Int32 => ∀ ls : Array Slot, (0 ≤ y.1 ∧ y.1 < 33) → lv_has ls 4 [(0, .ref (q.1 0 0)), (1, .ref (q.1 28 y.1)), (3, .int y.2)] → WW X q s 22 ls []) (fun y : Unit => ∀ ls : Array Slot, lv_has ls 4 [] → WW X q s 40 ls [])) e) (fun x s o hb hc => lp_Mo_leave_L2 (q := q) g x s o hb hc) hw ?_ ls hp0 (lv_sub hl [1, 2, 0] rfl)
  clear hw hl
  clear ls
  generalize s1 = s at h ⊢
  rcases e2 with y2_22 | y2_40
  · intro ls hq2_0 hl
    dsimp only [Sum.elim_inl, Sum.elim_inr] at h
    refine ww_aload_n (pc := 22) g.1 d_Mo_leave_22 rfl (lv_at hl 0 rfl) ?_
    refine ww_aload_n (pc := 23) g.1 d_Mo_leave_23 rfl (lv_at hl 1 rfl) ?_
    refine ww_aload_n (pc := 24) g.1 d_Mo_leave_24 rfl (lv_at hl 1 rfl) ?_
    refine ww_gR (pc := 25) g (k := 14) cl_Th (pt rfl rfl hq2_0) (by decide) (Or.inl kw_260) (f := 3598) (t := 33) rfl rfl rfl d_Mo_leave_25 ?_
    refine ww_iload_n (pc := 28) g.1 d_Mo_leave_28 rfl (lv_at hl 2 rfl) ?_
    refine ww_ai (pc := 29) g (pt rfl rfl hq2_0) rfl rfl d_Mo_leave_29 h fun v29 h => ?_
    obtain ⟨v30, s, hc30, h⟩ := oB_of h
    refine ww_callV (pc := 30) (rest := []) g cv_Mo_close (Or.inl kw_380) cl_Mo (pz rfl (by decide)) (ct_Mo_close hq2_0 hc30) ⟨by decide, by decide⟩ rfl hl.1 (Nat.le_of_ble_eq_true rfl) d_Mo_leave_30 rfl ?_
    refine ww_st (st' := []) rfl ?_
    exact ww_vretH (pc := 33) g h hR d_Mo_leave_33
  · intro ls hl
    dsimp only [Sum.elim_inl, Sum.elim_inr] at h
    exact ww_vretH (pc := 40) g h hR d_Mo_leave_40

theorem kw_383 : Cond.methodLink R_Mo 786 y_Mo_leave ∈ wA := kinm (show _ ∈ tables_1 from (List.mem_append_right _ (List.mem_append_right _ (List.mem_append_right _ (List.mem_append_right _ (List.mem_append_right _ (List.mem_append_right _ (List.mem_append_right _ (List.mem_append_right _ (List.mem_append_right _ (List.mem_append_right _ (List.mem_append_right _ (List.mem_append_right _ (List.mem_append_left _ (List.mem_of_getElem? (l := tables_1_13) (i := 115) (by decide +kernel)))))))))))))))) (by decide +kernel)
theorem kw_384 : Cond.instanceMethod y_Mo_halt ∈ wA := kinm (show _ ∈ tables_1 from (List.mem_append_right _ (List.mem_append_right _ (List.mem_append_right _ (List.mem_append_right _ (List.mem_append_right _ (List.mem_append_right _ (List.mem_append_right _ (List.mem_append_right _ (List.mem_append_right _ (List.mem_append_right _ (List.mem_append_right _ (List.mem_append_right _ (List.mem_append_left _ (List.mem_of_getElem? (l := tables_1_13) (i := 125) (by decide +kernel)))))))))))))))) (by decide +kernel)
theorem kw_385 : Cond.selects R_Mo y_Mo_halt y_Mo_halt ∈ wA := kinp 202 (by decide +kernel) (by decide +kernel)
def M_Mo_halt_L26 : (Int32) → M ((Int32) ⊕ ((Unit))) := fun x =>
  oC (x = -1)
    (oR (Sum.inr ()))
    (oB (oK ((0 : Int32) ≤ x ∧ x < 33)) fun _ =>
    oB (oGI 3590 x) fun v31 =>
    oB (oK ((0 : Int32) ≤ x ∧ x < 33)) fun _ =>
    oB (M_Mo_leave x 0) fun _ =>
    oB (oK ((0 : Int32) ≤ x ∧ x < 33)) fun _ =>
    oB (oPI 3586 x 0) fun _ =>
    oB (oK ((0 : Int32) ≤ x ∧ x < 33)) fun _ =>
    oB (oPI 3585 x 3) fun _ =>
    oB (oK ((0 : Int32) ≤ x ∧ x < 33)) fun _ =>
    oB (oPI 3590 x (-1)) fun _ =>
    oR (Sum.inl v31))

def M_Mo_halt  : M (Unit) :=
  oB (oPI 73 0 0) fun _ =>
  oB (oPI 898 0 0) fun _ =>
  oB (oPI 1282 0 0) fun _ =>
  oB (oGI 72 0) fun v22 =>
  oB (oW M_Mo_halt_L26 v22) fun e26 =>
  oB (oK ((0 : Int32) ≤ 0 ∧ 0 < 33)) fun _ =>
  oB (oPI 72 0 0) fun _ =>
  oB (oPI 80 0 2) fun _ =>
  oB (oPI 1666 0 0) fun _ =>
  oB (oGI 64 0) fun v89 =>
  oB (oGL 65 0) fun v93 =>
  oB (M_Va_add 13 0 v89 v93) fun _ =>
  oB (oPI 64 0 0) fun _ =>
  oR ()

theorem cv_Mo_halt : CV y_Mo_halt b_Mo_halt 3 none 0 := ⟨kw_384, kw_385, kw_17, k_Mo_halt, by decide +kernel⟩
theorem lp_Mo_halt_L26 {X : Cx} {q : PL} (g : Gd X y_Mo_halt b_Mo_halt 3 none 4 93 R_Mo) (x : Int32) (s : S1) (o : ((Int32) ⊕ ((Unit))) × S1) (h : M_Mo_halt_L26 x s = some o) (hR : (Sum.elim (fun y : Int32 => ∀ ls : Array Slot, lv_has ls 3 [(0, .ref (q.1 0 0)), (1, vr q 28 y)] → WW X q o.2 26 ls []) (fun y : Unit => ∀ ls : Array Slot, lv_has ls 3 [(0, .ref (q.1 0 0))] → WW X q o.2 61 ls []) o.1)) : ∀ ls : Array Slot, lv_has ls 3 [(0, .ref (q.1 0 0)), (1, vr q 28 x)] → WW X q s 26 ls [] := by
  intro ls hl
  unfold M_Mo_halt_L26 at h
  refine ww_aload_nV (pc := 26) g.1 vr_cases d_Mo_halt_26 rfl (lv_at hl 1 rfl) ?_
  refine ww_ifnullV (pc := 27) (tgt := 61) g.1 d_Mo_halt_27 (by decide) h (fun c h => ?_) (fun c h => ?_)
  · rw [oR_eq h] at hR
    exact hR ls (lv_sub hl [0] rfl)
  · refine ww_aload_nV (pc := 30) g.1 vr_cases d_Mo_halt_30 rfl (lv_at hl 1 rfl) ?_
    refine ww_ok h fun cn30 h => ?_
    refine ww_nn cn30 ?_
    refine ww_gV (pc := 31) g (k := 6) cl_Th (pt rfl rfl cn30) (by decide) (Or.inl kw_224) (f := 3590) (t := 28) rfl rfl rfl d_Mo_halt_31 h fun v31 h => ?_
    refine ww_astore_nV (pc := 34) g.1 vr_cases (lv' := [(2, vr q 28 v31), (0, .ref (q.1 0 0)), (1, vr q 28 x)]) d_Mo_halt_34 rfl hl (by decide) (by simp [vr_cat]) fun ls hl => ?_
    refine ww_aload_n (pc := 35) g.1 d_Mo_halt_35 rfl (lv_at hl 1 rfl) ?_
    refine ww_aload_nV (pc := 36) g.1 vr_cases d_Mo_halt_36 rfl (lv_at hl 2 rfl) ?_
    refine ww_ok h fun cn36 h => ?_
    refine ww_nn cn36 ?_
    refine ww_iconst (pc := 37) g.1 (v := 0) d_Mo_halt_37 (by decide) ?_
    obtain ⟨v38, s, hc38, h⟩ := oB_of h
    refine ww_callV (pc := 38) (rest := []) g cv_Mo_leave (Or.inl kw_383) cl_Mo (pz rfl (by decide)) (ct_Mo_leave cn36 hc38) ⟨by decide, by decide⟩ rfl hl.1 (Nat.le_of_ble_eq_true rfl) d_Mo_halt_38 rfl ?_
    refine ww_st (st' := []) rfl ?_
    refine ww_aload_nV (pc := 41) g.1 vr_cases d_Mo_halt_41 rfl (lv_at hl 2 rfl) ?_
    refine ww_ok h fun cn41 h => ?_
    refine ww_nn cn41 ?_
    refine ww_iconst (pc := 42) g.1 (v := 0) d_Mo_halt_42 (by decide) ?_
    refine ww_pI (pc := 43) g (k := 2) cl_Th (pt rfl rfl cn41) (by decide) (Or.inl kw_156) rfl (f := 3586) rfl rfl rfl rfl d_Mo_halt_43 h fun s hs h => ?_
    refine ww_aload_nV (pc := 46) g.1 vr_cases d_Mo_halt_46 rfl (lv_at hl 2 rfl) ?_
    refine ww_ok h fun cn46 h => ?_
    refine ww_nn cn46 ?_
    refine ww_iconst (pc := 47) g.1 (v := 3) d_Mo_halt_47 (by decide) ?_
    refine ww_pI (pc := 48) g (k := 1) cl_Th (pt rfl rfl cn46) (by decide) (Or.inl kw_223) rfl (f := 3585) rfl rfl rfl rfl d_Mo_halt_48 h fun s hs h => ?_
    refine ww_aload_nV (pc := 51) g.1 vr_cases d_Mo_halt_51 rfl (lv_at hl 2 rfl) ?_
    refine ww_ok h fun cn51 h => ?_
    refine ww_nn cn51 ?_
    refine ww_null (pc := 52) g.1 d_Mo_halt_52 ?_
    refine ww_st (st' := [vr q 28 (-1), .ref (q.1 28 x)]) (by rw [vr_m1]) ?_
    refine ww_pV (pc := 53) g (k := 6) cl_Th (pt rfl rfl cn51) (by decide) (Or.inl kw_224) rfl (f := 3590) (t := 28) rfl rfl rfl rfl fits_vr d_Mo_halt_53 h fun s hs h => ?_
    refine ww_aload_nV (pc := 56) g.1 vr_cases d_Mo_halt_56 rfl (lv_at hl 0 rfl) ?_
    refine ww_astore_nV (pc := 57) g.1 vr_cases (lv' := [(1, vr q 28 v31), (2, vr q 28 v31), (0, .ref (q.1 0 0))]) d_Mo_halt_57 rfl hl (by decide) rfl fun ls hl => ?_
    refine ww_goto (pc := 58) (tgt := 26) g.1 d_Mo_halt_58 (by decide) ?_
    rw [oR_eq h] at hR
    exact hR ls (lv_sub hl [2, 0] rfl)

theorem ct_Mo_halt {l : Launch} {P : PP} {q : PL} {s s' : S1}  {r : Unit} (h : M_Mo_halt s = some (r, s')) : Ct l y_Mo_halt b_Mo_halt 3 none 4 93 P q s [.ref (q.1 0 0)] none q s' := by
  refine ct_of (by decide) (Nat.le_of_ble_eq_true rfl) fun X ls eP el g hR hl => ?_
  have hR : Rt X q ((r, s') : Unit × S1).2 none := hR
  have hl : lv_has ls 3 [(0, .ref (q.1 0 0))] := hl
  generalize (r, s') = o at h hR
  unfold M_Mo_halt at h
  refine ww_aload_n (pc := 0) g.1 d_Mo_halt_0 rfl (lv_at hl 0 rfl) ?_
  refine ww_iconst (pc := 1) g.1 (v := 0) d_Mo_halt_1 (by decide) ?_
  refine ww_pI (pc := 2) g (k := 73) cl_Mo (pz rfl (by decide)) (by decide) (Or.inl kw_77) rfl (f := 73) rfl rfl rfl rfl d_Mo_halt_2 h fun s hs h => ?_
  refine ww_aload_n (pc := 5) g.1 d_Mo_halt_5 rfl (lv_at hl 0 rfl) ?_
  refine ww_gR (pc := 6) g (k := 77) cl_Mo (pz rfl (by decide)) (by decide) (Or.inl kw_188) (f := 77) (t := 7) rfl rfl rfl d_Mo_halt_6 ?_
  refine ww_iconst (pc := 9) g.1 (v := 0) d_Mo_halt_9 (by decide) ?_
  refine ww_pI (pc := 10) g (k := 2) (cl_Va (Or.inl ⟨by decide, rfl⟩)) (pz rfl (by decide)) (by decide) (Or.inl kw_185) rfl (f := 898) rfl rfl rfl rfl d_Mo_halt_10 h fun s hs h => ?_
  refine ww_aload_n (pc := 13) g.1 d_Mo_halt_13 rfl (lv_at hl 0 rfl) ?_
  refine ww_gR (pc := 14) g (k := 78) cl_Mo (pz rfl (by decide)) (by decide) (Or.inl kw_184) (f := 78) (t := 10) rfl rfl rfl d_Mo_halt_14 ?_
  refine ww_iconst (pc := 17) g.1 (v := 0) d_Mo_halt_17 (by decide) ?_
  refine ww_pI (pc := 18) g (k := 2) (cl_Va (Or.inl ⟨by decide, rfl⟩)) (pz rfl (by decide)) (by decide) (Or.inl kw_185) rfl (f := 1282) rfl rfl rfl rfl d_Mo_halt_18 h fun s hs h => ?_
  refine ww_aload_n (pc := 21) g.1 d_Mo_halt_21 rfl (lv_at hl 0 rfl) ?_
  refine ww_gV (pc := 22) g (k := 72) cl_Mo (pz rfl (by decide)) (by decide) (Or.inl kw_155) (f := 72) (t := 28) rfl rfl rfl d_Mo_halt_22 h fun v22 h => ?_
  refine ww_astore_nV (pc := 25) g.1 vr_cases (lv' := [(1, vr q 28 v22), (0, .ref (q.1 0 0))]) d_Mo_halt_25 rfl hl (by decide) rfl fun ls hl => ?_
  obtain ⟨e26, s1, hw, h⟩ := oB_of h
  refine oW_rule (Wh := fun (x : Int32) (s : S1) => ∀ ls : Array Slot, lv_has ls 3 [(0, .ref (q.1 0 0)), (1, vr q 28 x)] → WW X q s 26 ls []) (We := fun (e : (Unit)) (s : S1) => ∀ ls : Array Slot, lv_has ls 3 [(0, .ref (q.1 0 0))] → WW X q s 61 ls []) (fun x s o hb hc => lp_Mo_halt_L26 (q := q) g x s o hb hc) hw ?_ ls (lv_sub hl [1, 0] rfl)
  clear hw hl
  clear ls
  intro ls hl
  generalize s1 = s at h ⊢
  refine ww_aload_n (pc := 61) g.1 d_Mo_halt_61 rfl (lv_at hl 0 rfl) ?_
  refine ww_aload_n (pc := 62) g.1 d_Mo_halt_62 rfl (lv_at hl 0 rfl) ?_
  refine ww_gR (pc := 63) g (k := 71) cl_Mo (pz rfl (by decide)) (by decide) (Or.inl kw_90) (f := 71) (t := 76) rfl rfl rfl d_Mo_halt_63 ?_
  refine ww_iconst (pc := 66) g.1 (v := 0) d_Mo_halt_66 (by decide) ?_
  refine ww_at (pc := 67) g (t := 28) (pz rfl (by decide)) rfl rfl rfl d_Mo_halt_67 h fun ca67 h => ?_
  refine ww_st (st' := [vr q 28 0, .ref (q.1 0 0)]) (by rw [vr_nn ca67]) ?_
  refine ww_pV (pc := 68) g (k := 72) cl_Mo (pz rfl (by decide)) (by decide) (Or.inl kw_155) rfl (f := 72) (t := 28) rfl rfl rfl rfl fits_vr d_Mo_halt_68 h fun s hs h => ?_
  refine ww_aload_n (pc := 71) g.1 d_Mo_halt_71 rfl (lv_at hl 0 rfl) ?_
  refine ww_iconst (pc := 72) g.1 (v := 2) d_Mo_halt_72 (by decide) ?_
  refine ww_pI (pc := 73) g (k := 80) cl_Mo (pz rfl (by decide)) (by decide) (Or.inl kw_238) rfl (f := 80) rfl rfl rfl rfl d_Mo_halt_73 h fun s hs h => ?_
  refine ww_aload_n (pc := 76) g.1 d_Mo_halt_76 rfl (lv_at hl 0 rfl) ?_
  refine ww_gR (pc := 77) g (k := 79) cl_Mo (pz rfl (by decide)) (by decide) (Or.inl kw_239) (f := 79) (t := 13) rfl rfl rfl d_Mo_halt_77 ?_
  refine ww_iconst (pc := 80) g.1 (v := 0) d_Mo_halt_80 (by decide) ?_
  refine ww_pI (pc := 81) g (k := 2) (cl_Va (Or.inl ⟨by decide, rfl⟩)) (pz rfl (by decide)) (by decide) (Or.inl kw_185) rfl (f := 1666) rfl rfl rfl rfl d_Mo_halt_81 h fun s hs h => ?_
  refine ww_aload_n (pc := 84) g.1 d_Mo_halt_84 rfl (lv_at hl 0 rfl) ?_
  refine ww_gR (pc := 85) g (k := 79) cl_Mo (pz rfl (by decide)) (by decide) (Or.inl kw_239) (f := 79) (t := 13) rfl rfl rfl d_Mo_halt_85 ?_
  refine ww_aload_n (pc := 88) g.1 d_Mo_halt_88 rfl (lv_at hl 0 rfl) ?_
  refine ww_gI (pc := 89) g (k := 64) cl_Mo (pz rfl (by decide)) (by decide) (Or.inl kw_75) (f := 64) rfl rfl d_Mo_halt_89 h fun v89 h => ?_
  refine ww_aload_n (pc := 92) g.1 d_Mo_halt_92 rfl (lv_at hl 0 rfl) ?_
  refine ww_gL (pc := 93) g (k := 65) cl_Mo (pz rfl (by decide)) (by decide) (Or.inl kw_76) (f := 65) rfl rfl d_Mo_halt_93 h fun v93 h => ?_
  obtain ⟨v96, s, hc96, h⟩ := oB_of h
  refine ww_callV (pc := 96) (rest := []) g cv_Va_add (Or.inl kw_193) (cl_Va (Or.inl ⟨by decide, rfl⟩)) (pz rfl (by decide)) (ct_Va_add (Or.inl ⟨by decide, rfl⟩) hc96) ⟨by decide, by decide⟩ rfl hl.1 (Nat.le_of_ble_eq_true rfl) d_Mo_halt_96 rfl ?_
  refine ww_st (st' := []) rfl ?_
  refine ww_aload_n (pc := 99) g.1 d_Mo_halt_99 rfl (lv_at hl 0 rfl) ?_
  refine ww_iconst (pc := 100) g.1 (v := 0) d_Mo_halt_100 (by decide) ?_
  refine ww_pI (pc := 101) g (k := 64) cl_Mo (pz rfl (by decide)) (by decide) (Or.inl kw_75) rfl (f := 64) rfl rfl rfl rfl d_Mo_halt_101 h fun s hs h => ?_
  exact ww_vretH (pc := 104) g h hR d_Mo_halt_104

theorem kw_386 : Cond.constantLong R_Mo 971 (-9223372036854775808) ∈ wA := kinm (show _ ∈ tables_1 from (List.mem_append_right _ (List.mem_append_right _ (List.mem_append_right _ (List.mem_append_right _ (List.mem_append_right _ (List.mem_append_right _ (List.mem_append_right _ (List.mem_append_right _ (List.mem_append_right _ (List.mem_append_right _ (List.mem_append_right _ (List.mem_append_right _ (List.mem_append_left _ (List.mem_of_getElem? (l := tables_1_13) (i := 183) (by decide +kernel)))))))))))))))) (by decide +kernel)
theorem kw_387 : Cond.methodLink R_Mo 963 y_Mth_floorDiv ∈ wA := kinm (show _ ∈ tables_1 from (List.mem_append_right _ (List.mem_append_right _ (List.mem_append_right _ (List.mem_append_right _ (List.mem_append_right _ (List.mem_append_right _ (List.mem_append_right _ (List.mem_append_right _ (List.mem_append_right _ (List.mem_append_right _ (List.mem_append_right _ (List.mem_append_right _ (List.mem_append_left _ (List.mem_of_getElem? (l := tables_1_13) (i := 177) (by decide +kernel)))))))))))))))) (by decide +kernel)
theorem kw_388 : Cond.methodLink R_Mo 966 y_Mo_shifted ∈ wA := kinm (show _ ∈ tables_1 from (List.mem_append_right _ (List.mem_append_right _ (List.mem_append_right _ (List.mem_append_right _ (List.mem_append_right _ (List.mem_append_right _ (List.mem_append_right _ (List.mem_append_right _ (List.mem_append_right _ (List.mem_append_right _ (List.mem_append_right _ (List.mem_append_right _ (List.mem_append_left _ (List.mem_of_getElem? (l := tables_1_13) (i := 178) (by decide +kernel)))))))))))))))) (by decide +kernel)
theorem kw_389 : Cond.static y_Mo_reckon ∈ wA := kinm (show _ ∈ tables_1 from (List.mem_append_right _ (List.mem_append_right _ (List.mem_append_right _ (List.mem_append_right _ (List.mem_append_right _ (List.mem_append_right _ (List.mem_append_right _ (List.mem_append_right _ (List.mem_append_right _ (List.mem_append_right _ (List.mem_append_right _ (List.mem_append_right _ (List.mem_append_left _ (List.mem_of_getElem? (l := tables_1_13) (i := 175) (by decide +kernel)))))))))))))))) (by decide +kernel)
def M_Mo_reckon (l0 : Int32) (l1 : Int64) (l3 : Int64) : M (Int64) :=
  oC (l0 = 13)
    (oR (l1 + l3))
  (oC (l0 = 14)
    (oR (l1 - l3))
  (oC (l0 = 15)
    (oR (l1 * l3))
  (oC (l0 = 16)
    (oB (M_Mth_floorMod l1 l3) fun v82 =>
    oR v82)
  (oC (l0 = 19)
    (oB (M_Mth_floorDiv l1 l3) fun v88 =>
    oR v88)
  (oC (l0 = 20)
    (oR (l1 &&& l3))
  (oC (l0 = 21)
    (oR (l1 ||| l3))
  (oC (l0 = 22)
    (oR (l1 ^^^ l3))
  (oC (l0 = 23)
    (oB (M_Mo_shifted l1 l3) fun v106 =>
    oR v106)
  (oC (l0 = 24)
    (oC ((lg_cmp l3 (-9223372036854775808)) = 0)
      (oR 0)
      (oB (M_Mo_shifted l1 (-l3)) fun v125 =>
      oR v125))
  (oC (l0 = 25)
    (oR (-l1))
  (oR (l1 ^^^ (-1)))))))))))))

theorem cs_Mo_reckon : CS y_Mo_reckon b_Mo_reckon 5 (some .long) 3 := ⟨kw_389, kw_17, k_Mo_reckon, by decide +kernel⟩
theorem ct_Mo_reckon {l : Launch} {P : PP} {q : PL} {s s' : S1} {l0 : Int32} {l1 : Int64} {l3 : Int64} {r : Int64} (h : M_Mo_reckon l0 l1 l3 s = some (r, s')) : Ct l y_Mo_reckon b_Mo_reckon 5 (some .long) 1 25 P q s [.int l0, .long l1, .long l3] (some (.long r)) q s' := by
  refine ct_of (by decide) (Nat.le_of_ble_eq_true rfl) fun X ls eP el g hR hl => ?_
  have hR : Rt X q ((r, s') : Int64 × S1).2 (some (.long ((r, s') : Int64 × S1).1)) := hR
  have hl : lv_has ls 5 [(0, .int l0), (1, .long l1), (3, .long l3)] := hl
  generalize (r, s') = o at h hR
  unfold M_Mo_reckon at h
  refine ww_iload_n (pc := 0) g.1 d_Mo_reckon_0 rfl (lv_at hl 0 rfl) ?_
  by_cases c1_68 : l0 = 13
  · have h := oC_pos c1_68 h
    have c := c1_68
    refine ww_tableIn (pc := 1) (tgt := 68) g.1 d_Mo_reckon_1 (by rw [c]; decide) (by rw [c]; decide) (by rw [c]; rfl) (by decide) ?_
    refine ww_lload_n (pc := 68) g.1 d_Mo_reckon_68 rfl (lv_at hl 1 rfl) ?_
    refine ww_lload_n (pc := 69) g.1 d_Mo_reckon_69 rfl (lv_at hl 2 rfl) ?_
    refine ww_ladd (pc := 70) g.1 d_Mo_reckon_70 ?_
    exact ww_lretH (pc := 71) g h hR d_Mo_reckon_71
  have h := oC_neg c1_68 h
  by_cases c1_72 : l0 = 14
  · have h := oC_pos c1_72 h
    have c := c1_72
    refine ww_tableIn (pc := 1) (tgt := 72) g.1 d_Mo_reckon_1 (by rw [c]; decide) (by rw [c]; decide) (by rw [c]; rfl) (by decide) ?_
    refine ww_lload_n (pc := 72) g.1 d_Mo_reckon_72 rfl (lv_at hl 1 rfl) ?_
    refine ww_lload_n (pc := 73) g.1 d_Mo_reckon_73 rfl (lv_at hl 2 rfl) ?_
    refine ww_lsub (pc := 74) g.1 d_Mo_reckon_74 ?_
    exact ww_lretH (pc := 75) g h hR d_Mo_reckon_75
  have h := oC_neg c1_72 h
  by_cases c1_76 : l0 = 15
  · have h := oC_pos c1_76 h
    have c := c1_76
    refine ww_tableIn (pc := 1) (tgt := 76) g.1 d_Mo_reckon_1 (by rw [c]; decide) (by rw [c]; decide) (by rw [c]; rfl) (by decide) ?_
    refine ww_lload_n (pc := 76) g.1 d_Mo_reckon_76 rfl (lv_at hl 1 rfl) ?_
    refine ww_lload_n (pc := 77) g.1 d_Mo_reckon_77 rfl (lv_at hl 2 rfl) ?_
    refine ww_lmul (pc := 78) g.1 d_Mo_reckon_78 ?_
    exact ww_lretH (pc := 79) g h hR d_Mo_reckon_79
  have h := oC_neg c1_76 h
  by_cases c1_80 : l0 = 16
  · have h := oC_pos c1_80 h
    have c := c1_80
    refine ww_tableIn (pc := 1) (tgt := 80) g.1 d_Mo_reckon_1 (by rw [c]; decide) (by rw [c]; decide) (by rw [c]; rfl) (by decide) ?_
    refine ww_lload_n (pc := 80) g.1 d_Mo_reckon_80 rfl (lv_at hl 1 rfl) ?_
    refine ww_lload_n (pc := 81) g.1 d_Mo_reckon_81 rfl (lv_at hl 2 rfl) ?_
    obtain ⟨v82, s, hc82, h⟩ := oB_of h
    refine ww_callS (pc := 82) (rest := []) g cs_Mth_floorMod (Or.inl kw_123) (ct_Mth_floorMod hc82) ⟨by decide, by decide⟩ rfl hl.1 (Nat.le_of_ble_eq_true rfl) d_Mo_reckon_82 rfl ?_
    refine ww_st (st' := [.long v82]) rfl ?_
    exact ww_lretH (pc := 85) g h hR d_Mo_reckon_85
  have h := oC_neg c1_80 h
  by_cases c1_86 : l0 = 19
  · have h := oC_pos c1_86 h
    have c := c1_86
    refine ww_tableIn (pc := 1) (tgt := 86) g.1 d_Mo_reckon_1 (by rw [c]; decide) (by rw [c]; decide) (by rw [c]; rfl) (by decide) ?_
    refine ww_lload_n (pc := 86) g.1 d_Mo_reckon_86 rfl (lv_at hl 1 rfl) ?_
    refine ww_lload_n (pc := 87) g.1 d_Mo_reckon_87 rfl (lv_at hl 2 rfl) ?_
    obtain ⟨v88, s, hc88, h⟩ := oB_of h
    refine ww_callS (pc := 88) (rest := []) g cs_Mth_floorDiv (Or.inl kw_387) (ct_Mth_floorDiv hc88) ⟨by decide, by decide⟩ rfl hl.1 (Nat.le_of_ble_eq_true rfl) d_Mo_reckon_88 rfl ?_
    refine ww_st (st' := [.long v88]) rfl ?_
    exact ww_lretH (pc := 91) g h hR d_Mo_reckon_91
  have h := oC_neg c1_86 h
  by_cases c1_92 : l0 = 20
  · have h := oC_pos c1_92 h
    have c := c1_92
    refine ww_tableIn (pc := 1) (tgt := 92) g.1 d_Mo_reckon_1 (by rw [c]; decide) (by rw [c]; decide) (by rw [c]; rfl) (by decide) ?_
    refine ww_lload_n (pc := 92) g.1 d_Mo_reckon_92 rfl (lv_at hl 1 rfl) ?_
    refine ww_lload_n (pc := 93) g.1 d_Mo_reckon_93 rfl (lv_at hl 2 rfl) ?_
    refine ww_land (pc := 94) g.1 d_Mo_reckon_94 ?_
    exact ww_lretH (pc := 95) g h hR d_Mo_reckon_95
  have h := oC_neg c1_92 h
  by_cases c1_96 : l0 = 21
  · have h := oC_pos c1_96 h
    have c := c1_96
    refine ww_tableIn (pc := 1) (tgt := 96) g.1 d_Mo_reckon_1 (by rw [c]; decide) (by rw [c]; decide) (by rw [c]; rfl) (by decide) ?_
    refine ww_lload_n (pc := 96) g.1 d_Mo_reckon_96 rfl (lv_at hl 1 rfl) ?_
    refine ww_lload_n (pc := 97) g.1 d_Mo_reckon_97 rfl (lv_at hl 2 rfl) ?_
    refine ww_lor (pc := 98) g.1 d_Mo_reckon_98 ?_
    exact ww_lretH (pc := 99) g h hR d_Mo_reckon_99
  have h := oC_neg c1_96 h
  by_cases c1_100 : l0 = 22
  · have h := oC_pos c1_100 h
    have c := c1_100
    refine ww_tableIn (pc := 1) (tgt := 100) g.1 d_Mo_reckon_1 (by rw [c]; decide) (by rw [c]; decide) (by rw [c]; rfl) (by decide) ?_
    refine ww_lload_n (pc := 100) g.1 d_Mo_reckon_100 rfl (lv_at hl 1 rfl) ?_
    refine ww_lload_n (pc := 101) g.1 d_Mo_reckon_101 rfl (lv_at hl 2 rfl) ?_
    refine ww_lxor (pc := 102) g.1 d_Mo_reckon_102 ?_
    exact ww_lretH (pc := 103) g h hR d_Mo_reckon_103
  have h := oC_neg c1_100 h
  by_cases c1_104 : l0 = 23
  · have h := oC_pos c1_104 h
    have c := c1_104
    refine ww_tableIn (pc := 1) (tgt := 104) g.1 d_Mo_reckon_1 (by rw [c]; decide) (by rw [c]; decide) (by rw [c]; rfl) (by decide) ?_
    refine ww_lload_n (pc := 104) g.1 d_Mo_reckon_104 rfl (lv_at hl 1 rfl) ?_
    refine ww_lload_n (pc := 105) g.1 d_Mo_reckon_105 rfl (lv_at hl 2 rfl) ?_
    obtain ⟨v106, s, hc106, h⟩ := oB_of h
    refine ww_callS (pc := 106) (rest := []) g cs_Mo_shifted (Or.inl kw_388) (ct_Mo_shifted hc106) ⟨by decide, by decide⟩ rfl hl.1 (Nat.le_of_ble_eq_true rfl) d_Mo_reckon_106 rfl ?_
    refine ww_st (st' := [.long v106]) rfl ?_
    exact ww_lretH (pc := 109) g h hR d_Mo_reckon_109
  have h := oC_neg c1_104 h
  by_cases c1_110 : l0 = 24
  · have h := oC_pos c1_110 h
    have c := c1_110
    refine ww_tableIn (pc := 1) (tgt := 110) g.1 d_Mo_reckon_1 (by rw [c]; decide) (by rw [c]; decide) (by rw [c]; rfl) (by decide) ?_
    refine ww_lload_n (pc := 110) g.1 d_Mo_reckon_110 rfl (lv_at hl 2 rfl) ?_
    refine ww_ldc2 (pc := 111) g (v := (-9223372036854775808)) kw_386 d_Mo_reckon_111 ?_
    refine ww_lcmp (pc := 114) g.1 d_Mo_reckon_114 ?_
    refine ww_if_ne (pc := 115) (tgt := 122) g.1 d_Mo_reckon_115 (by decide) h (fun c h => ?_) (fun c h => ?_)
    · refine ww_lload_n (pc := 122) g.1 d_Mo_reckon_122 rfl (lv_at hl 1 rfl) ?_
      refine ww_lload_n (pc := 123) g.1 d_Mo_reckon_123 rfl (lv_at hl 2 rfl) ?_
      refine ww_lneg (pc := 124) g.1 d_Mo_reckon_124 ?_
      obtain ⟨v125, s, hc125, h⟩ := oB_of h
      refine ww_callS (pc := 125) (rest := []) g cs_Mo_shifted (Or.inl kw_388) (ct_Mo_shifted hc125) ⟨by decide, by decide⟩ rfl hl.1 (Nat.le_of_ble_eq_true rfl) d_Mo_reckon_125 rfl ?_
      refine ww_st (st' := [.long v125]) rfl ?_
      exact ww_lretH (pc := 128) g h hR d_Mo_reckon_128
    · refine ww_lconst (pc := 118) g.1 (v := 0) d_Mo_reckon_118 (by decide) ?_
      refine ww_goto (pc := 119) (tgt := 128) g.1 d_Mo_reckon_119 (by decide) ?_
      exact ww_lretH (pc := 128) g h hR d_Mo_reckon_128
  have h := oC_neg c1_110 h
  by_cases c1_129 : l0 = 25
  · have h := oC_pos c1_129 h
    have c := c1_129
    refine ww_tableIn (pc := 1) (tgt := 129) g.1 d_Mo_reckon_1 (by rw [c]; decide) (by rw [c]; decide) (by rw [c]; rfl) (by decide) ?_
    refine ww_lload_n (pc := 129) g.1 d_Mo_reckon_129 rfl (lv_at hl 1 rfl) ?_
    refine ww_lneg (pc := 130) g.1 d_Mo_reckon_130 ?_
    exact ww_lretH (pc := 131) g h hR d_Mo_reckon_131
  have h := oC_neg c1_129 h
  have n_13 : ¬ l0.toInt = 13 := lv_neT (fun e => c1_68 e) rfl
  have n_14 : ¬ l0.toInt = 14 := lv_neT (fun e => c1_72 e) rfl
  have n_15 : ¬ l0.toInt = 15 := lv_neT (fun e => c1_76 e) rfl
  have n_16 : ¬ l0.toInt = 16 := lv_neT (fun e => c1_80 e) rfl
  have n_19 : ¬ l0.toInt = 19 := lv_neT (fun e => c1_86 e) rfl
  have n_20 : ¬ l0.toInt = 20 := lv_neT (fun e => c1_92 e) rfl
  have n_21 : ¬ l0.toInt = 21 := lv_neT (fun e => c1_96 e) rfl
  have n_22 : ¬ l0.toInt = 22 := lv_neT (fun e => c1_100 e) rfl
  have n_23 : ¬ l0.toInt = 23 := lv_neT (fun e => c1_104 e) rfl
  have n_24 : ¬ l0.toInt = 24 := lv_neT (fun e => c1_110 e) rfl
  have n_25 : ¬ l0.toInt = 25 := lv_neT (fun e => c1_129 e) rfl
  by_cases hr : l0.toInt < 13 ∨ 25 < l0.toInt
  · refine ww_tableOut (pc := 1) (tgt := 132) g.1 d_Mo_reckon_1 hr (by decide) ?_
    refine ww_lload_n (pc := 132) g.1 d_Mo_reckon_132 rfl (lv_at hl 1 rfl) ?_
    refine ww_ldc2 (pc := 133) g (v := (-1)) kw_269 d_Mo_reckon_133 ?_
    refine ww_lxor (pc := 136) g.1 d_Mo_reckon_136 ?_
    exact ww_lretH (pc := 137) g h hR d_Mo_reckon_137
  have hh : l0.toInt = 17 ∨ l0.toInt = 18 := by omega
  rcases hh with c | c
  · refine ww_tableIn (pc := 1) (tgt := 132) g.1 d_Mo_reckon_1 (by rw [c]; decide) (by rw [c]; decide) (by rw [c]; rfl) (by decide) ?_
    refine ww_lload_n (pc := 132) g.1 d_Mo_reckon_132 rfl (lv_at hl 1 rfl) ?_
    refine ww_ldc2 (pc := 133) g (v := (-1)) kw_269 d_Mo_reckon_133 ?_
    refine ww_lxor (pc := 136) g.1 d_Mo_reckon_136 ?_
    exact ww_lretH (pc := 137) g h hR d_Mo_reckon_137
  · refine ww_tableIn (pc := 1) (tgt := 132) g.1 d_Mo_reckon_1 (by rw [c]; decide) (by rw [c]; decide) (by rw [c]; rfl) (by decide) ?_
    refine ww_lload_n (pc := 132) g.1 d_Mo_reckon_132 rfl (lv_at hl 1 rfl) ?_
    refine ww_ldc2 (pc := 133) g (v := (-1)) kw_269 d_Mo_reckon_133 ?_
    refine ww_lxor (pc := 136) g.1 d_Mo_reckon_136 ?_
    exact ww_lretH (pc := 137) g h hR d_Mo_reckon_137

theorem kw_390 : Cond.methodLink R_Mo 993 y_Mo_addAt ∈ wA := kinm (show _ ∈ tables_1 from (List.mem_append_right _ (List.mem_append_right _ (List.mem_append_right _ (List.mem_append_right _ (List.mem_append_right _ (List.mem_append_right _ (List.mem_append_right _ (List.mem_append_right _ (List.mem_append_right _ (List.mem_append_right _ (List.mem_append_right _ (List.mem_append_right _ (List.mem_append_left _ (List.mem_of_getElem? (l := tables_1_13) (i := 212) (by decide +kernel)))))))))))))))) (by decide +kernel)
theorem kw_391 : Cond.instanceMethod y_Mo_gather ∈ wA := kinm (show _ ∈ tables_1 from (List.mem_append_right _ (List.mem_append_right _ (List.mem_append_right _ (List.mem_append_right _ (List.mem_append_right _ (List.mem_append_right _ (List.mem_append_right _ (List.mem_append_right _ (List.mem_append_right _ (List.mem_append_right _ (List.mem_append_right _ (List.mem_append_right _ (List.mem_append_left _ (List.mem_of_getElem? (l := tables_1_13) (i := 210) (by decide +kernel)))))))))))))))) (by decide +kernel)
theorem kw_392 : Cond.selects R_Mo y_Mo_gather y_Mo_gather ∈ wA := kinp 219 (by decide +kernel) (by decide +kernel)
def M_Mo_gather_j92 (l1 : Int32) (l2 : Int32) (l4 : Int32) (l5 : Int32) (l6 : Int32) (k0 : Int32) (k1 : Int32) (k2 : Int32) : M ((Int32 × Int32 × Int32 × Int32 × Int32) ⊕ ((Int32 × Int32))) :=
  oB (M_Mo_addAt 7 0 k2 k1 k0 l6) fun _ =>
  oR (Sum.inl (l1, l2, l4, l5, l6 + 1))

def M_Mo_gather_L68 : (Int32 × Int32 × Int32 × Int32 × Int32) → M ((Int32 × Int32 × Int32 × Int32 × Int32) ⊕ ((Int32 × Int32))) := fun x =>
  oC (x.2.2.2.1 ≤ x.2.2.2.2)
    (oR (Sum.inr (x.1, x.2.1)))
    (oC (x.2.2.1 = 0)
      (M_Mo_gather_j92 x.1 x.2.1 x.2.2.1 x.2.2.2.1 x.2.2.2.2 1 x.2.1 x.1)
      (M_Mo_gather_j92 x.1 x.2.1 x.2.2.1 x.2.2.2.1 x.2.2.2.2 0 x.2.1 x.1))

def M_Mo_gather_j25 (l1 : Int32) (l2 : Int32) (l3 : Int32) (l4 : Int32) (k0 : Int32) : M (Int32) :=
  oB (oPI 898 0 0) fun _ =>
  oC (((k0 - l3) - 1) ≤ 250)
    (oL (l3 + 1) fun l6_66 =>
    oB (oW M_Mo_gather_L68 (l1, l2, l4, k0, l6_66)) fun e68 =>
    oB (oSI 36 201 e68.1 e68.2 0) fun _ =>
    oR 1)
    (oB (oSI 36 201 l1 l2 0) fun _ =>
    oB (M_Mo_raise 7) fun v57 =>
    oR 0)

def M_Mo_gather (l1 : Int32) (l2 : Int32) (l3 : Int32) (l4 : Int32) : M (Int32) :=
  oC (l4 ≤ 0)
    (oB (oAI 35 201 l1 l2) fun v17 =>
    oB (oAI 36 201 l1 l2) fun v23 =>
    M_Mo_gather_j25 l1 l2 l3 l4 (v17 + v23))
    (M_Mo_gather_j25 l1 l2 l3 l4 (l3 + l4))

theorem cv_Mo_gather : CV y_Mo_gather b_Mo_gather 7 (some .boolean) 4 := ⟨kw_391, kw_392, kw_17, k_Mo_gather, by decide +kernel⟩
theorem j_Mo_gather_j92 {X : Cx} {q : PL} (g : Gd X y_Mo_gather b_Mo_gather 7 (some .boolean) 3 70 R_Mo) {o : ((Int32 × Int32 × Int32 × Int32 × Int32) ⊕ ((Int32 × Int32))) × S1} (hR : (Sum.elim (fun y : Int32 × Int32 × Int32 × Int32 × Int32 => ∀ ls : Array Slot, (0 ≤ y.1 ∧ y.1 < 33) → lv_has ls 7 [(0, .ref (q.1 0 0)), (1, .ref (q.1 28 y.1)), (2, .int y.2.1), (4, .int y.2.2.1), (5, .int y.2.2.2.1), (6, .int y.2.2.2.2)] → WW X q o.2 68 ls []) (fun y : Int32 × Int32 => ∀ ls : Array Slot, (0 ≤ y.1 ∧ y.1 < 33) → lv_has ls 7 [(1, .ref (q.1 28 y.1)), (2, .int y.2)] → WW X q o.2 103 ls []) o.1)) (l1 : Int32) (l2 : Int32) (l4 : Int32) (l5 : Int32) (l6 : Int32) (k0 : Int32) (k1 : Int32) (k2 : Int32) (s : S1) (hp0 : 0 ≤ l1 ∧ l1 < 33) (hp1 : 0 ≤ k2 ∧ k2 < 33) (ls : Array Slot) (hl : lv_has ls 7 [(0, .ref (q.1 0 0)), (1, .ref (q.1 28 l1)), (2, .int l2), (4, .int l4), (5, .int l5), (6, .int l6)]) (h : M_Mo_gather_j92 l1 l2 l4 l5 l6 k0 k1 k2 s = some o) : WW X q s 92 ls [.int k0, .int k1, .ref (q.1 28 k2), .ref (q.1 7 0), .ref (q.1 0 0)] := by
  unfold M_Mo_gather_j92 at h
  refine ww_iload (pc := 92) g.1 d_Mo_gather_92 (lv_at hl 5 rfl) ?_
  obtain ⟨v94, s, hc94, h⟩ := oB_of h
  refine ww_callV (pc := 94) (rest := []) g cv_Mo_addAt (Or.inl kw_390) cl_Mo (pz rfl (by decide)) (ct_Mo_addAt (Or.inl ⟨by decide, rfl⟩) hp1 hc94) ⟨by decide, by decide⟩ rfl hl.1 (Nat.le_of_ble_eq_true rfl) d_Mo_gather_94 rfl ?_
  refine ww_st (st' := []) rfl ?_
  refine ww_iinc (pc := 97) g.1 (v := l6 + 1) (lv' := [(6, .int (l6 + 1)), (0, .ref (q.1 0 0)), (1, .ref (q.1 28 l1)), (2, .int l2), (4, .int l4), (5, .int l5)]) d_Mo_gather_97 hl (k := 5) rfl (by rfl) (by decide) rfl fun ls hl => ?_
  refine ww_goto (pc := 100) (tgt := 68) g.1 d_Mo_gather_100 (by decide) ?_
  rw [oR_eq h] at hR
  exact hR ls hp0 (lv_sub hl [1, 2, 3, 4, 5, 0] rfl)

theorem lp_Mo_gather_L68 {X : Cx} {q : PL} (g : Gd X y_Mo_gather b_Mo_gather 7 (some .boolean) 3 70 R_Mo) (x : Int32 × Int32 × Int32 × Int32 × Int32) (s : S1) (o : ((Int32 × Int32 × Int32 × Int32 × Int32) ⊕ ((Int32 × Int32))) × S1) (h : M_Mo_gather_L68 x s = some o) (hR : (Sum.elim (fun y : Int32 × Int32 × Int32 × Int32 × Int32 => ∀ ls : Array Slot, (0 ≤ y.1 ∧ y.1 < 33) → lv_has ls 7 [(0, .ref (q.1 0 0)), (1, .ref (q.1 28 y.1)), (2, .int y.2.1), (4, .int y.2.2.1), (5, .int y.2.2.2.1), (6, .int y.2.2.2.2)] → WW X q o.2 68 ls []) (fun y : Int32 × Int32 => ∀ ls : Array Slot, (0 ≤ y.1 ∧ y.1 < 33) → lv_has ls 7 [(1, .ref (q.1 28 y.1)), (2, .int y.2)] → WW X q o.2 103 ls []) o.1)) : ∀ ls : Array Slot, (0 ≤ x.1 ∧ x.1 < 33) → lv_has ls 7 [(0, .ref (q.1 0 0)), (1, .ref (q.1 28 x.1)), (2, .int x.2.1), (4, .int x.2.2.1), (5, .int x.2.2.2.1), (6, .int x.2.2.2.2)] → WW X q s 68 ls [] := by
  intro ls hp0 hl
  unfold M_Mo_gather_L68 at h
  refine ww_iload (pc := 68) g.1 d_Mo_gather_68 (lv_at hl 5 rfl) ?_
  refine ww_iload (pc := 70) g.1 d_Mo_gather_70 (lv_at hl 4 rfl) ?_
  refine ww_icmp_ge (pc := 72) (tgt := 103) g.1 d_Mo_gather_72 (by decide) h (fun c h => ?_) (fun c h => ?_)
  · rw [oR_eq h] at hR
    exact hR ls hp0 (lv_sub hl [1, 2] rfl)
  · refine ww_aload_n (pc := 75) g.1 d_Mo_gather_75 rfl (lv_at hl 0 rfl) ?_
    refine ww_aload_n (pc := 76) g.1 d_Mo_gather_76 rfl (lv_at hl 0 rfl) ?_
    refine ww_gR (pc := 77) g (k := 77) cl_Mo (pz rfl (by decide)) (by decide) (Or.inl kw_188) (f := 77) (t := 7) rfl rfl rfl d_Mo_gather_77 ?_
    refine ww_aload_n (pc := 80) g.1 d_Mo_gather_80 rfl (lv_at hl 1 rfl) ?_
    refine ww_iload_n (pc := 81) g.1 d_Mo_gather_81 rfl (lv_at hl 2 rfl) ?_
    refine ww_iload (pc := 82) g.1 d_Mo_gather_82 (lv_at hl 3 rfl) ?_
    refine ww_if_ne (pc := 84) (tgt := 91) g.1 d_Mo_gather_84 (by decide) h (fun c h => ?_) (fun c h => ?_)
    · refine ww_iconst (pc := 91) g.1 (v := 0) d_Mo_gather_91 (by decide) ?_
      exact j_Mo_gather_j92 g hR x.1 x.2.1 x.2.2.1 x.2.2.2.1 x.2.2.2.2 0 x.2.1 x.1 s hp0 hp0 ls (lv_sub hl [0, 1, 2, 3, 4, 5] rfl) h
    · refine ww_iconst (pc := 87) g.1 (v := 1) d_Mo_gather_87 (by decide) ?_
      refine ww_goto (pc := 88) (tgt := 92) g.1 d_Mo_gather_88 (by decide) ?_
      exact j_Mo_gather_j92 g hR x.1 x.2.1 x.2.2.1 x.2.2.2.1 x.2.2.2.2 1 x.2.1 x.1 s hp0 hp0 ls (lv_sub hl [0, 1, 2, 3, 4, 5] rfl) h

theorem j_Mo_gather_j25 {X : Cx} {q : PL} (g : Gd X y_Mo_gather b_Mo_gather 7 (some .boolean) 3 70 R_Mo) {o : (Int32) × S1} (hR : Rt X q o.2 (some (.int o.1))) (l1 : Int32) (l2 : Int32) (l3 : Int32) (l4 : Int32) (k0 : Int32) (s : S1) (hp0 : 0 ≤ l1 ∧ l1 < 33) (ls : Array Slot) (hl : lv_has ls 7 [(0, .ref (q.1 0 0)), (1, .ref (q.1 28 l1)), (2, .int l2), (3, .int l3), (4, .int l4)]) (h : M_Mo_gather_j25 l1 l2 l3 l4 k0 s = some o) : WW X q s 25 ls [.int k0] := by
  unfold M_Mo_gather_j25 at h
  refine ww_istore (pc := 25) g.1 (lv' := [(5, .int k0), (0, .ref (q.1 0 0)), (1, .ref (q.1 28 l1)), (2, .int l2), (3, .int l3), (4, .int l4)]) d_Mo_gather_25 hl (by decide) rfl fun ls hl => ?_
  refine ww_aload_n (pc := 27) g.1 d_Mo_gather_27 rfl (lv_at hl 1 rfl) ?_
  refine ww_gR (pc := 28) g (k := 77) cl_Mo (pz rfl (by decide)) (by decide) (Or.inl kw_188) (f := 77) (t := 7) rfl rfl rfl d_Mo_gather_28 ?_
  refine ww_iconst (pc := 31) g.1 (v := 0) d_Mo_gather_31 (by decide) ?_
  refine ww_pI (pc := 32) g (k := 2) (cl_Va (Or.inl ⟨by decide, rfl⟩)) (pz rfl (by decide)) (by decide) (Or.inl kw_185) rfl (f := 898) rfl rfl rfl rfl d_Mo_gather_32 h fun s hs h => ?_
  refine ww_iload (pc := 35) g.1 d_Mo_gather_35 (lv_at hl 0 rfl) ?_
  refine ww_iload_n (pc := 37) g.1 d_Mo_gather_37 rfl (lv_at hl 4 rfl) ?_
  refine ww_isub (pc := 38) g.1 d_Mo_gather_38 ?_
  refine ww_iconst (pc := 39) g.1 (v := 1) d_Mo_gather_39 (by decide) ?_
  refine ww_isub (pc := 40) g.1 d_Mo_gather_40 ?_
  refine ww_sipush (pc := 41) g.1 (v := 250) d_Mo_gather_41 (by decide) ?_
  refine ww_icmp_le (pc := 44) (tgt := 63) g.1 d_Mo_gather_44 (by decide) h (fun c h => ?_) (fun c h => ?_)
  · refine ww_iload_n (pc := 63) g.1 d_Mo_gather_63 rfl (lv_at hl 4 rfl) ?_
    refine ww_iconst (pc := 64) g.1 (v := 1) d_Mo_gather_64 (by decide) ?_
    refine ww_iadd (pc := 65) g.1 d_Mo_gather_65 ?_
    refine ww_leti h fun l6_66 h => ?_
    refine ww_istore (pc := 66) g.1 (lv' := [(6, .int l6_66), (5, .int k0), (0, .ref (q.1 0 0)), (1, .ref (q.1 28 l1)), (2, .int l2), (3, .int l3), (4, .int l4)]) d_Mo_gather_66 hl (by decide) rfl fun ls hl => ?_
    obtain ⟨e68, s1, hw, h⟩ := oB_of h
    refine oW_rule (Wh := fun (x : Int32 × Int32 × Int32 × Int32 × Int32) (s : S1) => ∀ ls : Array Slot, (0 ≤ x.1 ∧ x.1 < 33) → lv_has ls 7 [(0, .ref (q.1 0 0)), (1, .ref (q.1 28 x.1)), (2, .int x.2.1), (4, .int x.2.2.1), (5, .int x.2.2.2.1), (6, .int x.2.2.2.2)] → WW X q s 68 ls []) (We := fun (e : (Int32 × Int32)) (s : S1) => ∀ ls : Array Slot, (0 ≤ e.1 ∧ e.1 < 33) → lv_has ls 7 [(1, .ref (q.1 28 e.1)), (2, .int e.2)] → WW X q s 103 ls []) (fun x s o hb hc => lp_Mo_gather_L68 (q := q) g x s o hb hc) hw ?_ ls hp0 (lv_sub hl [2, 3, 4, 6, 1, 0] rfl)
    clear hw hl
    clear ls
    intro ls hq68_0 hl
    generalize s1 = s at h ⊢
    refine ww_aload_n (pc := 103) g.1 d_Mo_gather_103 rfl (lv_at hl 0 rfl) ?_
    refine ww_gR (pc := 104) g (k := 17) cl_Th (pt rfl rfl hq68_0) (by decide) (Or.inl kw_159) (f := 3601) (t := 36) rfl rfl rfl d_Mo_gather_104 ?_
    refine ww_iload_n (pc := 107) g.1 d_Mo_gather_107 rfl (lv_at hl 1 rfl) ?_
    refine ww_iconst (pc := 108) g.1 (v := 0) d_Mo_gather_108 (by decide) ?_
    refine ww_si (pc := 109) g (pt rfl rfl hq68_0) rfl rfl d_Mo_gather_109 h fun s hs h => ?_
    refine ww_iconst (pc := 110) g.1 (v := 1) d_Mo_gather_110 (by decide) ?_
    exact ww_zretH (pc := 111) g h hR (Or.inr rfl) d_Mo_gather_111
  · refine ww_aload_n (pc := 47) g.1 d_Mo_gather_47 rfl (lv_at hl 2 rfl) ?_
    refine ww_gR (pc := 48) g (k := 17) cl_Th (pt rfl rfl hp0) (by decide) (Or.inl kw_159) (f := 3601) (t := 36) rfl rfl rfl d_Mo_gather_48 ?_
    refine ww_iload_n (pc := 51) g.1 d_Mo_gather_51 rfl (lv_at hl 3 rfl) ?_
    refine ww_iconst (pc := 52) g.1 (v := 0) d_Mo_gather_52 (by decide) ?_
    refine ww_si (pc := 53) g (pt rfl rfl hp0) rfl rfl d_Mo_gather_53 h fun s hs h => ?_
    refine ww_aload_n (pc := 54) g.1 d_Mo_gather_54 rfl (lv_at hl 1 rfl) ?_
    refine ww_bipush (pc := 55) g.1 (v := 7) d_Mo_gather_55 (by decide) ?_
    obtain ⟨v57, s, hc57, h⟩ := oB_of h
    refine ww_callV (pc := 57) (rest := []) g cv_Mo_raise (Or.inl kw_162) cl_Mo (pz rfl (by decide)) (ct_Mo_raise hc57) ⟨by decide, by decide⟩ rfl hl.1 (Nat.le_of_ble_eq_true rfl) d_Mo_gather_57 rfl ?_
    refine ww_st (st' := [.int v57]) rfl ?_
    refine ww_pop (pc := 60) g.1 d_Mo_gather_60 rfl ?_
    refine ww_iconst (pc := 61) g.1 (v := 0) d_Mo_gather_61 (by decide) ?_
    exact ww_zretH (pc := 62) g h hR (Or.inl rfl) d_Mo_gather_62

theorem ct_Mo_gather {l : Launch} {P : PP} {q : PL} {s s' : S1} {l1 : Int32} {l2 : Int32} {l3 : Int32} {l4 : Int32} (hp0 : 0 ≤ l1 ∧ l1 < 33) {r : Int32} (h : M_Mo_gather l1 l2 l3 l4 s = some (r, s')) : Ct l y_Mo_gather b_Mo_gather 7 (some .boolean) 3 70 P q s [.ref (q.1 0 0), .ref (q.1 28 l1), .int l2, .int l3, .int l4] (some (.int r)) q s' := by
  refine ct_of (by decide) (Nat.le_of_ble_eq_true rfl) fun X ls eP el g hR hl => ?_
  have hR : Rt X q ((r, s') : Int32 × S1).2 (some (.int ((r, s') : Int32 × S1).1)) := hR
  have hl : lv_has ls 7 [(0, .ref (q.1 0 0)), (1, .ref (q.1 28 l1)), (2, .int l2), (3, .int l3), (4, .int l4)] := hl
  generalize (r, s') = o at h hR
  unfold M_Mo_gather at h
  refine ww_iload (pc := 0) g.1 d_Mo_gather_0 (lv_at hl 4 rfl) ?_
  refine ww_if_le (pc := 2) (tgt := 12) g.1 d_Mo_gather_2 (by decide) h (fun c h => ?_) (fun c h => ?_)
  · refine ww_aload_n (pc := 12) g.1 d_Mo_gather_12 rfl (lv_at hl 1 rfl) ?_
    refine ww_gR (pc := 13) g (k := 16) cl_Th (pt rfl rfl hp0) (by decide) (Or.inl kw_277) (f := 3600) (t := 35) rfl rfl rfl d_Mo_gather_13 ?_
    refine ww_iload_n (pc := 16) g.1 d_Mo_gather_16 rfl (lv_at hl 2 rfl) ?_
    refine ww_ai (pc := 17) g (pt rfl rfl hp0) rfl rfl d_Mo_gather_17 h fun v17 h => ?_
    refine ww_aload_n (pc := 18) g.1 d_Mo_gather_18 rfl (lv_at hl 1 rfl) ?_
    refine ww_gR (pc := 19) g (k := 17) cl_Th (pt rfl rfl hp0) (by decide) (Or.inl kw_159) (f := 3601) (t := 36) rfl rfl rfl d_Mo_gather_19 ?_
    refine ww_iload_n (pc := 22) g.1 d_Mo_gather_22 rfl (lv_at hl 2 rfl) ?_
    refine ww_ai (pc := 23) g (pt rfl rfl hp0) rfl rfl d_Mo_gather_23 h fun v23 h => ?_
    refine ww_iadd (pc := 24) g.1 d_Mo_gather_24 ?_
    exact j_Mo_gather_j25 g hR l1 l2 l3 l4 (v17 + v23) s hp0 ls (lv_sub hl [0, 1, 2, 3, 4] rfl) h
  · refine ww_iload_n (pc := 5) g.1 d_Mo_gather_5 rfl (lv_at hl 3 rfl) ?_
    refine ww_iload (pc := 6) g.1 d_Mo_gather_6 (lv_at hl 4 rfl) ?_
    refine ww_iadd (pc := 8) g.1 d_Mo_gather_8 ?_
    refine ww_goto (pc := 9) (tgt := 25) g.1 d_Mo_gather_9 (by decide) ?_
    exact j_Mo_gather_j25 g hR l1 l2 l3 l4 (l3 + l4) s hp0 ls (lv_sub hl [0, 1, 2, 3, 4] rfl) h

theorem kw_393 : Cond.instanceMethod y_Mo_kind ∈ wA := kinm (show _ ∈ tables_1 from (List.mem_append_right _ (List.mem_append_right _ (List.mem_append_right _ (List.mem_append_right _ (List.mem_append_right _ (List.mem_append_right _ (List.mem_append_right _ (List.mem_append_right _ (List.mem_append_right _ (List.mem_append_right _ (List.mem_append_right _ (List.mem_append_right _ (List.mem_append_right _ (List.mem_of_getElem? (l := tables_1_14) (i := 5) (by decide +kernel)))))))))))))))) (by decide +kernel)
theorem kw_394 : Cond.selects R_Mo y_Mo_kind y_Mo_kind ∈ wA := kinm (show _ ∈ tables_1 from (List.mem_append_right _ (List.mem_append_right _ (List.mem_append_right _ (List.mem_append_right _ (List.mem_append_right _ (List.mem_append_right _ (List.mem_append_right _ (List.mem_append_right _ (List.mem_append_right _ (List.mem_append_right _ (List.mem_append_right _ (List.mem_append_right _ (List.mem_append_right _ (List.mem_of_getElem? (l := tables_1_14) (i := 6) (by decide +kernel)))))))))))))))) (by decide +kernel)
def M_Mo_kind (l1 : Int32) : M (Int32) :=
  oB (M_Mo_none l1) fun v2 =>
  oC (v2 = 0)
    (oB (oAI 14 400 0 l1) fun v20 =>
    oR v20)
    (oR 0)

theorem cv_Mo_kind : CV y_Mo_kind b_Mo_kind 2 (some .int) 1 := ⟨kw_393, kw_394, kw_17, k_Mo_kind, by decide +kernel⟩
theorem ct_Mo_kind {l : Launch} {P : PP} {q : PL} {s s' : S1} {l1 : Int32} {r : Int32} (h : M_Mo_kind l1 s = some (r, s')) : Ct l y_Mo_kind b_Mo_kind 2 (some .int) 2 43 P q s [.ref (q.1 0 0), .int l1] (some (.int r)) q s' := by
  refine ct_of (by decide) (Nat.le_of_ble_eq_true rfl) fun X ls eP el g hR hl => ?_
  have hR : Rt X q ((r, s') : Int32 × S1).2 (some (.int ((r, s') : Int32 × S1).1)) := hR
  have hl : lv_has ls 2 [(0, .ref (q.1 0 0)), (1, .int l1)] := hl
  generalize (r, s') = o at h hR
  unfold M_Mo_kind at h
  refine ww_aload_n (pc := 0) g.1 d_Mo_kind_0 rfl (lv_at hl 0 rfl) ?_
  refine ww_iload_n (pc := 1) g.1 d_Mo_kind_1 rfl (lv_at hl 1 rfl) ?_
  obtain ⟨v2, s, hc2, h⟩ := oB_of h
  refine ww_callV (pc := 2) (rest := []) g cv_Mo_none (Or.inl kw_293) cl_Mo (pz rfl (by decide)) (ct_Mo_none hc2) ⟨by decide, by decide⟩ rfl hl.1 (Nat.le_of_ble_eq_true rfl) d_Mo_kind_2 rfl ?_
  refine ww_st (st' := [.int v2]) rfl ?_
  refine ww_if_eq (pc := 5) (tgt := 12) g.1 d_Mo_kind_5 (by decide) h (fun c h => ?_) (fun c h => ?_)
  · refine ww_aload_n (pc := 12) g.1 d_Mo_kind_12 rfl (lv_at hl 0 rfl) ?_
    refine ww_gR (pc := 13) g (k := 79) cl_Mo (pz rfl (by decide)) (by decide) (Or.inl kw_239) (f := 79) (t := 13) rfl rfl rfl d_Mo_kind_13 ?_
    refine ww_gR (pc := 16) g (k := 0) (cl_Va (Or.inl ⟨by decide, rfl⟩)) (pz rfl (by decide)) (by decide) (Or.inl kw_92) (f := 1664) (t := 14) rfl rfl rfl d_Mo_kind_16 ?_
    refine ww_iload_n (pc := 19) g.1 d_Mo_kind_19 rfl (lv_at hl 1 rfl) ?_
    refine ww_ab (pc := 20) g (pz rfl (by decide)) rfl rfl d_Mo_kind_20 h fun v20 h => ?_
    exact ww_iretH (pc := 21) g h hR d_Mo_kind_21
  · refine ww_iconst (pc := 8) g.1 (v := 0) d_Mo_kind_8 (by decide) ?_
    refine ww_goto (pc := 9) (tgt := 21) g.1 d_Mo_kind_9 (by decide) ?_
    exact ww_iretH (pc := 21) g h hR d_Mo_kind_21

theorem kw_395 : Cond.methodLink R_Mo 492 y_Mo_makes ∈ wA := kinm (show _ ∈ tables_1 from (List.mem_append_right _ (List.mem_append_right _ (List.mem_append_right _ (List.mem_append_right _ (List.mem_append_right _ (List.mem_append_right _ (List.mem_append_right _ (List.mem_append_right _ (List.mem_append_right _ (List.mem_append_right _ (List.mem_append_left _ (List.mem_of_getElem? (l := tables_1_11) (i := 177) (by decide +kernel)))))))))))))) (by decide +kernel)
theorem kw_396 : Cond.methodLink R_Mo 501 y_Mo_named ∈ wA := kinm (show _ ∈ tables_1 from (List.mem_append_right _ (List.mem_append_right _ (List.mem_append_right _ (List.mem_append_right _ (List.mem_append_right _ (List.mem_append_right _ (List.mem_append_right _ (List.mem_append_right _ (List.mem_append_right _ (List.mem_append_right _ (List.mem_append_left _ (List.mem_of_getElem? (l := tables_1_11) (i := 196) (by decide +kernel)))))))))))))) (by decide +kernel)
theorem kw_397 : Cond.instanceMethod y_Mo_formed ∈ wA := kinm (show _ ∈ tables_1 from (List.mem_append_right _ (List.mem_append_right _ (List.mem_append_right _ (List.mem_append_right _ (List.mem_append_right _ (List.mem_append_right _ (List.mem_append_right _ (List.mem_append_right _ (List.mem_append_right _ (List.mem_append_right _ (List.mem_append_left _ (List.mem_of_getElem? (l := tables_1_11) (i := 172) (by decide +kernel)))))))))))))) (by decide +kernel)
theorem kw_398 : Cond.selects R_Mo y_Mo_formed y_Mo_formed ∈ wA := kinp 119 (by decide +kernel) (by decide +kernel)
def M_Mo_formed_j231 (l1 : Int32) (l2 : Int32) (l3 : Int32) (l4 : Int32) : M (Int32) :=
  oB (M_Mo_named l1 l2 l3 l4) fun v237 =>
  oB (oK (v237 = 0 ∨ v237 = 1)) fun _ =>
  oR v237

def M_Mo_formed_j195 (l1 : Int32) (l2 : Int32) (l3 : Int32) (l4 : Int32) (l6 : Int32) : M (Int32) :=
  oC (l4 < 31)
    (M_Mo_formed_j231 l1 l2 l3 l4)
    (oC (35 < l4)
      (M_Mo_formed_j231 l1 l2 l3 l4)
      (oB (M_Mo_op l6) fun v211 =>
      oC (v211 = 30)
        (oB (M_Mo_goes (l2 + 2)) fun v223 =>
        oC (v223 = 0)
          (oR 0)
          (M_Mo_formed_j231 l1 l2 l3 l4))
        (oR 0)))

def M_Mo_formed_j161 (l1 : Int32) (l2 : Int32) (l3 : Int32) (l4 : Int32) (l6 : Int32) : M (Int32) :=
  oB (M_Mo_uses l3) fun v162 =>
  oC (v162 = 0)
    (M_Mo_formed_j195 l1 l2 l3 l4 l6)
    (oC (l2 = 0)
      (oR 0)
      (oB (oAI 49 251 0 l1) fun v181 =>
      oB (oAI 55 20001 0 ((v181 + l2) - 1)) fun v186 =>
      oB (M_Mo_makes v186) fun v187 =>
      oC (v187 = 0)
        (oR 0)
        (M_Mo_formed_j195 l1 l2 l3 l4 l6)))

def M_Mo_formed_j140 (l1 : Int32) (l2 : Int32) (l3 : Int32) (l4 : Int32) (l6 : Int32) (k0 : Int32) : M (Int32) :=
  oB (M_Mo_uses l6) fun v144 =>
  oC (v144 = 0)
    (oR 0)
    (oB (M_Mo_a l3) fun v153 =>
    oC (k0 ≤ v153)
      (M_Mo_formed_j161 l1 l2 l3 l4 l6)
      (oR 0))

def M_Mo_formed_j106 (l1 : Int32) (l2 : Int32) (l3 : Int32) (l4 : Int32) (k0 : Int32) : M (Int32) :=
  oB (M_Mo_makes l3) fun v109 =>
  oC (v109 = 0)
    (M_Mo_formed_j161 l1 l2 l3 l4 k0)
    (oB (M_Mo_op k0) fun v117 =>
    oC (v117 = 38)
      (oB (M_Mo_a k0) fun v127 =>
      M_Mo_formed_j140 l1 l2 l3 l4 k0 v127)
      (oB (M_Mo_a k0) fun v135 =>
      M_Mo_formed_j140 l1 l2 l3 l4 k0 (v135 + 1)))

def M_Mo_formed_j82 (l1 : Int32) (l2 : Int32) (l3 : Int32) (l4 : Int32) (l5 : Int32) : M (Int32) :=
  oC (l5 = 0)
    (M_Mo_formed_j106 l1 l2 l3 l4 0)
    (oB (oAI 49 251 0 l1) fun v96 =>
    oB (oAI 55 20001 0 ((v96 + l2) + 1)) fun v101 =>
    M_Mo_formed_j106 l1 l2 l3 l4 v101)

def M_Mo_formed_j52 (l1 : Int32) (l2 : Int32) (l3 : Int32) (l4 : Int32) (k0 : Int32) : M (Int32) :=
  oC (k0 = 0)
    (oC (l4 = 30)
      (M_Mo_formed_j82 l1 l2 l3 l4 k0)
      (oC (l4 = 37)
        (M_Mo_formed_j82 l1 l2 l3 l4 k0)
        (oC (l4 = 38)
          (M_Mo_formed_j82 l1 l2 l3 l4 k0)
          (oR 0))))
    (M_Mo_formed_j82 l1 l2 l3 l4 k0)

def M_Mo_formed (l1 : Int32) (l2 : Int32) : M (Int32) :=
  oB (oPI 31 0 l1) fun _ =>
  oB (oAI 44 251 0 l1) fun v11 =>
  oB (oPI 30 0 v11) fun _ =>
  oB (oAI 49 251 0 l1) fun v24 =>
  oB (oAI 55 20001 0 (v24 + l2)) fun v27 =>
  oB (M_Mo_op v27) fun v30 =>
  oB (oAI 50 251 0 l1) fun v43 =>
  oC (v43 ≤ (l2 + 1))
    (M_Mo_formed_j52 l1 l2 v27 v30 0)
    (M_Mo_formed_j52 l1 l2 v27 v30 1)

theorem cv_Mo_formed : CV y_Mo_formed b_Mo_formed 8 (some .boolean) 2 := ⟨kw_397, kw_398, kw_17, k_Mo_formed, by decide +kernel⟩
theorem j_Mo_formed_j231 {X : Cx} {q : PL} (g : Gd X y_Mo_formed b_Mo_formed 8 (some .boolean) 4 89 R_Mo) {o : (Int32) × S1} (hR : Rt X q o.2 (some (.int o.1))) (l1 : Int32) (l2 : Int32) (l3 : Int32) (l4 : Int32) (s : S1) (ls : Array Slot) (hl : lv_has ls 8 [(0, .ref (q.1 0 0)), (1, .int l1), (2, .int l2), (3, .int l3), (4, .int l4)]) (h : M_Mo_formed_j231 l1 l2 l3 l4 s = some o) : WW X q s 231 ls [] := by
  unfold M_Mo_formed_j231 at h
  refine ww_aload_n (pc := 231) g.1 d_Mo_formed_231 rfl (lv_at hl 0 rfl) ?_
  refine ww_iload_n (pc := 232) g.1 d_Mo_formed_232 rfl (lv_at hl 1 rfl) ?_
  refine ww_iload_n (pc := 233) g.1 d_Mo_formed_233 rfl (lv_at hl 2 rfl) ?_
  refine ww_iload_n (pc := 234) g.1 d_Mo_formed_234 rfl (lv_at hl 3 rfl) ?_
  refine ww_iload (pc := 235) g.1 d_Mo_formed_235 (lv_at hl 4 rfl) ?_
  obtain ⟨v237, s, hc237, h⟩ := oB_of h
  refine ww_callV (pc := 237) (rest := []) g cv_Mo_named (Or.inl kw_396) cl_Mo (pz rfl (by decide)) (ct_Mo_named hc237) ⟨by decide, by decide⟩ rfl hl.1 (Nat.le_of_ble_eq_true rfl) d_Mo_formed_237 rfl ?_
  refine ww_st (st' := [.int v237]) rfl ?_
  refine ww_ok h fun cz h => ?_
  exact ww_zretH (pc := 240) g h hR cz d_Mo_formed_240

theorem j_Mo_formed_j195 {X : Cx} {q : PL} (g : Gd X y_Mo_formed b_Mo_formed 8 (some .boolean) 4 89 R_Mo) {o : (Int32) × S1} (hR : Rt X q o.2 (some (.int o.1))) (l1 : Int32) (l2 : Int32) (l3 : Int32) (l4 : Int32) (l6 : Int32) (s : S1) (ls : Array Slot) (hl : lv_has ls 8 [(0, .ref (q.1 0 0)), (1, .int l1), (2, .int l2), (3, .int l3), (4, .int l4), (6, .int l6)]) (h : M_Mo_formed_j195 l1 l2 l3 l4 l6 s = some o) : WW X q s 195 ls [] := by
  unfold M_Mo_formed_j195 at h
  refine ww_iload (pc := 195) g.1 d_Mo_formed_195 (lv_at hl 4 rfl) ?_
  refine ww_bipush (pc := 197) g.1 (v := 31) d_Mo_formed_197 (by decide) ?_
  refine ww_icmp_lt (pc := 199) (tgt := 231) g.1 d_Mo_formed_199 (by decide) h (fun c h => ?_) (fun c h => ?_)
  · exact j_Mo_formed_j231 g hR l1 l2 l3 l4 s ls (lv_sub hl [0, 1, 2, 3, 4] rfl) h
  · refine ww_iload (pc := 202) g.1 d_Mo_formed_202 (lv_at hl 4 rfl) ?_
    refine ww_bipush (pc := 204) g.1 (v := 35) d_Mo_formed_204 (by decide) ?_
    refine ww_icmp_gt (pc := 206) (tgt := 231) g.1 d_Mo_formed_206 (by decide) h (fun c h => ?_) (fun c h => ?_)
    · exact j_Mo_formed_j231 g hR l1 l2 l3 l4 s ls (lv_sub hl [0, 1, 2, 3, 4] rfl) h
    · refine ww_iload (pc := 209) g.1 d_Mo_formed_209 (lv_at hl 5 rfl) ?_
      obtain ⟨v211, s, hc211, h⟩ := oB_of h
      refine ww_callS (pc := 211) (rest := []) g cs_Mo_op (Or.inl kw_54) (ct_Mo_op hc211) ⟨by decide, by decide⟩ rfl hl.1 (Nat.le_of_ble_eq_true rfl) d_Mo_formed_211 rfl ?_
      refine ww_st (st' := [.int v211]) rfl ?_
      refine ww_bipush (pc := 214) g.1 (v := 30) d_Mo_formed_214 (by decide) ?_
      refine ww_icmp_ne (pc := 216) (tgt := 229) g.1 d_Mo_formed_216 (by decide) h (fun c h => ?_) (fun c h => ?_)
      · refine ww_iconst (pc := 229) g.1 (v := 0) d_Mo_formed_229 (by decide) ?_
        exact ww_zretH (pc := 230) g h hR (Or.inl rfl) d_Mo_formed_230
      · refine ww_aload_n (pc := 219) g.1 d_Mo_formed_219 rfl (lv_at hl 0 rfl) ?_
        refine ww_iload_n (pc := 220) g.1 d_Mo_formed_220 rfl (lv_at hl 2 rfl) ?_
        refine ww_iconst (pc := 221) g.1 (v := 2) d_Mo_formed_221 (by decide) ?_
        refine ww_iadd (pc := 222) g.1 d_Mo_formed_222 ?_
        obtain ⟨v223, s, hc223, h⟩ := oB_of h
        refine ww_callV (pc := 223) (rest := []) g cv_Mo_goes (Or.inl kw_321) cl_Mo (pz rfl (by decide)) (ct_Mo_goes hc223) ⟨by decide, by decide⟩ rfl hl.1 (Nat.le_of_ble_eq_true rfl) d_Mo_formed_223 rfl ?_
        refine ww_st (st' := [.int v223]) rfl ?_
        refine ww_if_ne (pc := 226) (tgt := 231) g.1 d_Mo_formed_226 (by decide) h (fun c h => ?_) (fun c h => ?_)
        · exact j_Mo_formed_j231 g hR l1 l2 l3 l4 s ls (lv_sub hl [0, 1, 2, 3, 4] rfl) h
        · refine ww_iconst (pc := 229) g.1 (v := 0) d_Mo_formed_229 (by decide) ?_
          exact ww_zretH (pc := 230) g h hR (Or.inl rfl) d_Mo_formed_230

theorem j_Mo_formed_j161 {X : Cx} {q : PL} (g : Gd X y_Mo_formed b_Mo_formed 8 (some .boolean) 4 89 R_Mo) {o : (Int32) × S1} (hR : Rt X q o.2 (some (.int o.1))) (l1 : Int32) (l2 : Int32) (l3 : Int32) (l4 : Int32) (l6 : Int32) (s : S1) (ls : Array Slot) (hl : lv_has ls 8 [(0, .ref (q.1 0 0)), (1, .int l1), (2, .int l2), (3, .int l3), (4, .int l4), (6, .int l6)]) (h : M_Mo_formed_j161 l1 l2 l3 l4 l6 s = some o) : WW X q s 161 ls [] := by
  unfold M_Mo_formed_j161 at h
  refine ww_iload_n (pc := 161) g.1 d_Mo_formed_161 rfl (lv_at hl 3 rfl) ?_
  obtain ⟨v162, s, hc162, h⟩ := oB_of h
  refine ww_callS (pc := 162) (rest := []) g cs_Mo_uses (Or.inl kw_61) (ct_Mo_uses hc162) ⟨by decide, by decide⟩ rfl hl.1 (Nat.le_of_ble_eq_true rfl) d_Mo_formed_162 rfl ?_
  refine ww_st (st' := [.int v162]) rfl ?_
  refine ww_if_eq (pc := 165) (tgt := 195) g.1 d_Mo_formed_165 (by decide) h (fun c h => ?_) (fun c h => ?_)
  · exact j_Mo_formed_j195 g hR l1 l2 l3 l4 l6 s ls (lv_sub hl [0, 1, 2, 3, 4, 5] rfl) h
  · refine ww_iload_n (pc := 168) g.1 d_Mo_formed_168 rfl (lv_at hl 2 rfl) ?_
    refine ww_if_eq (pc := 169) (tgt := 193) g.1 d_Mo_formed_169 (by decide) h (fun c h => ?_) (fun c h => ?_)
    · refine ww_iconst (pc := 193) g.1 (v := 0) d_Mo_formed_193 (by decide) ?_
      exact ww_zretH (pc := 194) g h hR (Or.inl rfl) d_Mo_formed_194
    · refine ww_aload_n (pc := 172) g.1 d_Mo_formed_172 rfl (lv_at hl 0 rfl) ?_
      refine ww_gR (pc := 173) g (k := 19) cl_Mo (pz rfl (by decide)) (by decide) (Or.inl kw_59) (f := 19) (t := 55) rfl rfl rfl d_Mo_formed_173 ?_
      refine ww_aload_n (pc := 176) g.1 d_Mo_formed_176 rfl (lv_at hl 0 rfl) ?_
      refine ww_gR (pc := 177) g (k := 13) cl_Mo (pz rfl (by decide)) (by decide) (Or.inl kw_60) (f := 13) (t := 49) rfl rfl rfl d_Mo_formed_177 ?_
      refine ww_iload_n (pc := 180) g.1 d_Mo_formed_180 rfl (lv_at hl 1 rfl) ?_
      refine ww_ai (pc := 181) g (pz rfl (by decide)) rfl rfl d_Mo_formed_181 h fun v181 h => ?_
      refine ww_iload_n (pc := 182) g.1 d_Mo_formed_182 rfl (lv_at hl 2 rfl) ?_
      refine ww_iadd (pc := 183) g.1 d_Mo_formed_183 ?_
      refine ww_iconst (pc := 184) g.1 (v := 1) d_Mo_formed_184 (by decide) ?_
      refine ww_isub (pc := 185) g.1 d_Mo_formed_185 ?_
      refine ww_ai (pc := 186) g (pz rfl (by decide)) rfl rfl d_Mo_formed_186 h fun v186 h => ?_
      obtain ⟨v187, s, hc187, h⟩ := oB_of h
      refine ww_callS (pc := 187) (rest := []) g cs_Mo_makes (Or.inl kw_395) (ct_Mo_makes hc187) ⟨by decide, by decide⟩ rfl hl.1 (Nat.le_of_ble_eq_true rfl) d_Mo_formed_187 rfl ?_
      refine ww_st (st' := [.int v187]) rfl ?_
      refine ww_if_ne (pc := 190) (tgt := 195) g.1 d_Mo_formed_190 (by decide) h (fun c h => ?_) (fun c h => ?_)
      · exact j_Mo_formed_j195 g hR l1 l2 l3 l4 l6 s ls (lv_sub hl [0, 1, 2, 3, 4, 5] rfl) h
      · refine ww_iconst (pc := 193) g.1 (v := 0) d_Mo_formed_193 (by decide) ?_
        exact ww_zretH (pc := 194) g h hR (Or.inl rfl) d_Mo_formed_194

theorem j_Mo_formed_j140 {X : Cx} {q : PL} (g : Gd X y_Mo_formed b_Mo_formed 8 (some .boolean) 4 89 R_Mo) {o : (Int32) × S1} (hR : Rt X q o.2 (some (.int o.1))) (l1 : Int32) (l2 : Int32) (l3 : Int32) (l4 : Int32) (l6 : Int32) (k0 : Int32) (s : S1) (ls : Array Slot) (hl : lv_has ls 8 [(0, .ref (q.1 0 0)), (1, .int l1), (2, .int l2), (3, .int l3), (4, .int l4), (6, .int l6)]) (h : M_Mo_formed_j140 l1 l2 l3 l4 l6 k0 s = some o) : WW X q s 140 ls [.int k0] := by
  unfold M_Mo_formed_j140 at h
  refine ww_istore (pc := 140) g.1 (lv' := [(7, .int k0), (0, .ref (q.1 0 0)), (1, .int l1), (2, .int l2), (3, .int l3), (4, .int l4), (6, .int l6)]) d_Mo_formed_140 hl (by decide) rfl fun ls hl => ?_
  refine ww_iload (pc := 142) g.1 d_Mo_formed_142 (lv_at hl 6 rfl) ?_
  obtain ⟨v144, s, hc144, h⟩ := oB_of h
  refine ww_callS (pc := 144) (rest := []) g cs_Mo_uses (Or.inl kw_61) (ct_Mo_uses hc144) ⟨by decide, by decide⟩ rfl hl.1 (Nat.le_of_ble_eq_true rfl) d_Mo_formed_144 rfl ?_
  refine ww_st (st' := [.int v144]) rfl ?_
  refine ww_if_eq (pc := 147) (tgt := 159) g.1 d_Mo_formed_147 (by decide) h (fun c h => ?_) (fun c h => ?_)
  · refine ww_iconst (pc := 159) g.1 (v := 0) d_Mo_formed_159 (by decide) ?_
    exact ww_zretH (pc := 160) g h hR (Or.inl rfl) d_Mo_formed_160
  · refine ww_iload (pc := 150) g.1 d_Mo_formed_150 (lv_at hl 0 rfl) ?_
    refine ww_iload_n (pc := 152) g.1 d_Mo_formed_152 rfl (lv_at hl 4 rfl) ?_
    obtain ⟨v153, s, hc153, h⟩ := oB_of h
    refine ww_callS (pc := 153) (rest := [.int k0]) g cs_Mo_a (Or.inl kw_287) (ct_Mo_a hc153) ⟨by decide, by decide⟩ rfl hl.1 (Nat.le_of_ble_eq_true rfl) d_Mo_formed_153 rfl ?_
    refine ww_st (st' := [.int v153, .int k0]) rfl ?_
    refine ww_icmp_le (pc := 156) (tgt := 161) g.1 d_Mo_formed_156 (by decide) h (fun c h => ?_) (fun c h => ?_)
    · exact j_Mo_formed_j161 g hR l1 l2 l3 l4 l6 s ls (lv_sub hl [1, 2, 3, 4, 5, 6] rfl) h
    · refine ww_iconst (pc := 159) g.1 (v := 0) d_Mo_formed_159 (by decide) ?_
      exact ww_zretH (pc := 160) g h hR (Or.inl rfl) d_Mo_formed_160

theorem j_Mo_formed_j106 {X : Cx} {q : PL} (g : Gd X y_Mo_formed b_Mo_formed 8 (some .boolean) 4 89 R_Mo) {o : (Int32) × S1} (hR : Rt X q o.2 (some (.int o.1))) (l1 : Int32) (l2 : Int32) (l3 : Int32) (l4 : Int32) (k0 : Int32) (s : S1) (ls : Array Slot) (hl : lv_has ls 8 [(0, .ref (q.1 0 0)), (1, .int l1), (2, .int l2), (3, .int l3), (4, .int l4)]) (h : M_Mo_formed_j106 l1 l2 l3 l4 k0 s = some o) : WW X q s 106 ls [.int k0] := by
  unfold M_Mo_formed_j106 at h
  refine ww_istore (pc := 106) g.1 (lv' := [(6, .int k0), (0, .ref (q.1 0 0)), (1, .int l1), (2, .int l2), (3, .int l3), (4, .int l4)]) d_Mo_formed_106 hl (by decide) rfl fun ls hl => ?_
  refine ww_iload_n (pc := 108) g.1 d_Mo_formed_108 rfl (lv_at hl 4 rfl) ?_
  obtain ⟨v109, s, hc109, h⟩ := oB_of h
  refine ww_callS (pc := 109) (rest := []) g cs_Mo_makes (Or.inl kw_395) (ct_Mo_makes hc109) ⟨by decide, by decide⟩ rfl hl.1 (Nat.le_of_ble_eq_true rfl) d_Mo_formed_109 rfl ?_
  refine ww_st (st' := [.int v109]) rfl ?_
  refine ww_if_eq (pc := 112) (tgt := 161) g.1 d_Mo_formed_112 (by decide) h (fun c h => ?_) (fun c h => ?_)
  · exact j_Mo_formed_j161 g hR l1 l2 l3 l4 k0 s ls (lv_sub hl [1, 2, 3, 4, 5, 0] rfl) h
  · refine ww_iload (pc := 115) g.1 d_Mo_formed_115 (lv_at hl 0 rfl) ?_
    obtain ⟨v117, s, hc117, h⟩ := oB_of h
    refine ww_callS (pc := 117) (rest := []) g cs_Mo_op (Or.inl kw_54) (ct_Mo_op hc117) ⟨by decide, by decide⟩ rfl hl.1 (Nat.le_of_ble_eq_true rfl) d_Mo_formed_117 rfl ?_
    refine ww_st (st' := [.int v117]) rfl ?_
    refine ww_bipush (pc := 120) g.1 (v := 38) d_Mo_formed_120 (by decide) ?_
    refine ww_icmp_ne (pc := 122) (tgt := 133) g.1 d_Mo_formed_122 (by decide) h (fun c h => ?_) (fun c h => ?_)
    · refine ww_iload (pc := 133) g.1 d_Mo_formed_133 (lv_at hl 0 rfl) ?_
      obtain ⟨v135, s, hc135, h⟩ := oB_of h
      refine ww_callS (pc := 135) (rest := []) g cs_Mo_a (Or.inl kw_287) (ct_Mo_a hc135) ⟨by decide, by decide⟩ rfl hl.1 (Nat.le_of_ble_eq_true rfl) d_Mo_formed_135 rfl ?_
      refine ww_st (st' := [.int v135]) rfl ?_
      refine ww_iconst (pc := 138) g.1 (v := 1) d_Mo_formed_138 (by decide) ?_
      refine ww_iadd (pc := 139) g.1 d_Mo_formed_139 ?_
      exact j_Mo_formed_j140 g hR l1 l2 l3 l4 k0 (v135 + 1) s ls (lv_sub hl [1, 2, 3, 4, 5, 0] rfl) h
    · refine ww_iload (pc := 125) g.1 d_Mo_formed_125 (lv_at hl 0 rfl) ?_
      obtain ⟨v127, s, hc127, h⟩ := oB_of h
      refine ww_callS (pc := 127) (rest := []) g cs_Mo_a (Or.inl kw_287) (ct_Mo_a hc127) ⟨by decide, by decide⟩ rfl hl.1 (Nat.le_of_ble_eq_true rfl) d_Mo_formed_127 rfl ?_
      refine ww_st (st' := [.int v127]) rfl ?_
      refine ww_goto (pc := 130) (tgt := 140) g.1 d_Mo_formed_130 (by decide) ?_
      exact j_Mo_formed_j140 g hR l1 l2 l3 l4 k0 v127 s ls (lv_sub hl [1, 2, 3, 4, 5, 0] rfl) h

theorem j_Mo_formed_j82 {X : Cx} {q : PL} (g : Gd X y_Mo_formed b_Mo_formed 8 (some .boolean) 4 89 R_Mo) {o : (Int32) × S1} (hR : Rt X q o.2 (some (.int o.1))) (l1 : Int32) (l2 : Int32) (l3 : Int32) (l4 : Int32) (l5 : Int32) (s : S1) (ls : Array Slot) (hl : lv_has ls 8 [(0, .ref (q.1 0 0)), (1, .int l1), (2, .int l2), (3, .int l3), (4, .int l4), (5, .int l5)]) (h : M_Mo_formed_j82 l1 l2 l3 l4 l5 s = some o) : WW X q s 82 ls [] := by
  unfold M_Mo_formed_j82 at h
  refine ww_iload (pc := 82) g.1 d_Mo_formed_82 (lv_at hl 5 rfl) ?_
  refine ww_if_eq (pc := 84) (tgt := 105) g.1 d_Mo_formed_84 (by decide) h (fun c h => ?_) (fun c h => ?_)
  · refine ww_iconst (pc := 105) g.1 (v := 0) d_Mo_formed_105 (by decide) ?_
    exact j_Mo_formed_j106 g hR l1 l2 l3 l4 0 s ls (lv_sub hl [0, 1, 2, 3, 4] rfl) h
  · refine ww_aload_n (pc := 87) g.1 d_Mo_formed_87 rfl (lv_at hl 0 rfl) ?_
    refine ww_gR (pc := 88) g (k := 19) cl_Mo (pz rfl (by decide)) (by decide) (Or.inl kw_59) (f := 19) (t := 55) rfl rfl rfl d_Mo_formed_88 ?_
    refine ww_aload_n (pc := 91) g.1 d_Mo_formed_91 rfl (lv_at hl 0 rfl) ?_
    refine ww_gR (pc := 92) g (k := 13) cl_Mo (pz rfl (by decide)) (by decide) (Or.inl kw_60) (f := 13) (t := 49) rfl rfl rfl d_Mo_formed_92 ?_
    refine ww_iload_n (pc := 95) g.1 d_Mo_formed_95 rfl (lv_at hl 1 rfl) ?_
    refine ww_ai (pc := 96) g (pz rfl (by decide)) rfl rfl d_Mo_formed_96 h fun v96 h => ?_
    refine ww_iload_n (pc := 97) g.1 d_Mo_formed_97 rfl (lv_at hl 2 rfl) ?_
    refine ww_iadd (pc := 98) g.1 d_Mo_formed_98 ?_
    refine ww_iconst (pc := 99) g.1 (v := 1) d_Mo_formed_99 (by decide) ?_
    refine ww_iadd (pc := 100) g.1 d_Mo_formed_100 ?_
    refine ww_ai (pc := 101) g (pz rfl (by decide)) rfl rfl d_Mo_formed_101 h fun v101 h => ?_
    refine ww_goto (pc := 102) (tgt := 106) g.1 d_Mo_formed_102 (by decide) ?_
    exact j_Mo_formed_j106 g hR l1 l2 l3 l4 v101 s ls (lv_sub hl [0, 1, 2, 3, 4] rfl) h

theorem j_Mo_formed_j52 {X : Cx} {q : PL} (g : Gd X y_Mo_formed b_Mo_formed 8 (some .boolean) 4 89 R_Mo) {o : (Int32) × S1} (hR : Rt X q o.2 (some (.int o.1))) (l1 : Int32) (l2 : Int32) (l3 : Int32) (l4 : Int32) (k0 : Int32) (s : S1) (ls : Array Slot) (hl : lv_has ls 8 [(0, .ref (q.1 0 0)), (1, .int l1), (2, .int l2), (3, .int l3), (4, .int l4)]) (h : M_Mo_formed_j52 l1 l2 l3 l4 k0 s = some o) : WW X q s 52 ls [.int k0] := by
  unfold M_Mo_formed_j52 at h
  refine ww_istore (pc := 52) g.1 (lv' := [(5, .int k0), (0, .ref (q.1 0 0)), (1, .int l1), (2, .int l2), (3, .int l3), (4, .int l4)]) d_Mo_formed_52 hl (by decide) rfl fun ls hl => ?_
  refine ww_iload (pc := 54) g.1 d_Mo_formed_54 (lv_at hl 0 rfl) ?_
  refine ww_if_ne (pc := 56) (tgt := 82) g.1 d_Mo_formed_56 (by decide) h (fun c h => ?_) (fun c h => ?_)
  · exact j_Mo_formed_j82 g hR l1 l2 l3 l4 k0 s ls (lv_sub hl [1, 2, 3, 4, 5, 0] rfl) h
  · refine ww_iload (pc := 59) g.1 d_Mo_formed_59 (lv_at hl 5 rfl) ?_
    refine ww_bipush (pc := 61) g.1 (v := 30) d_Mo_formed_61 (by decide) ?_
    refine ww_icmp_eq (pc := 63) (tgt := 82) g.1 d_Mo_formed_63 (by decide) h (fun c h => ?_) (fun c h => ?_)
    · exact j_Mo_formed_j82 g hR l1 l2 l3 l4 k0 s ls (lv_sub hl [1, 2, 3, 4, 5, 0] rfl) h
    · refine ww_iload (pc := 66) g.1 d_Mo_formed_66 (lv_at hl 5 rfl) ?_
      refine ww_bipush (pc := 68) g.1 (v := 37) d_Mo_formed_68 (by decide) ?_
      refine ww_icmp_eq (pc := 70) (tgt := 82) g.1 d_Mo_formed_70 (by decide) h (fun c h => ?_) (fun c h => ?_)
      · exact j_Mo_formed_j82 g hR l1 l2 l3 l4 k0 s ls (lv_sub hl [1, 2, 3, 4, 5, 0] rfl) h
      · refine ww_iload (pc := 73) g.1 d_Mo_formed_73 (lv_at hl 5 rfl) ?_
        refine ww_bipush (pc := 75) g.1 (v := 38) d_Mo_formed_75 (by decide) ?_
        refine ww_icmp_eq (pc := 77) (tgt := 82) g.1 d_Mo_formed_77 (by decide) h (fun c h => ?_) (fun c h => ?_)
        · exact j_Mo_formed_j82 g hR l1 l2 l3 l4 k0 s ls (lv_sub hl [1, 2, 3, 4, 5, 0] rfl) h
        · refine ww_iconst (pc := 80) g.1 (v := 0) d_Mo_formed_80 (by decide) ?_
          exact ww_zretH (pc := 81) g h hR (Or.inl rfl) d_Mo_formed_81

theorem ct_Mo_formed {l : Launch} {P : PP} {q : PL} {s s' : S1} {l1 : Int32} {l2 : Int32} {r : Int32} (h : M_Mo_formed l1 l2 s = some (r, s')) : Ct l y_Mo_formed b_Mo_formed 8 (some .boolean) 4 89 P q s [.ref (q.1 0 0), .int l1, .int l2] (some (.int r)) q s' := by
  refine ct_of (by decide) (Nat.le_of_ble_eq_true rfl) fun X ls eP el g hR hl => ?_
  have hR : Rt X q ((r, s') : Int32 × S1).2 (some (.int ((r, s') : Int32 × S1).1)) := hR
  have hl : lv_has ls 8 [(0, .ref (q.1 0 0)), (1, .int l1), (2, .int l2)] := hl
  generalize (r, s') = o at h hR
  unfold M_Mo_formed at h
  refine ww_aload_n (pc := 0) g.1 d_Mo_formed_0 rfl (lv_at hl 0 rfl) ?_
  refine ww_iload_n (pc := 1) g.1 d_Mo_formed_1 rfl (lv_at hl 1 rfl) ?_
  refine ww_pI (pc := 2) g (k := 31) cl_Mo (pz rfl (by decide)) (by decide) (Or.inl kw_58) rfl (f := 31) rfl rfl rfl rfl d_Mo_formed_2 h fun s hs h => ?_
  refine ww_aload_n (pc := 5) g.1 d_Mo_formed_5 rfl (lv_at hl 0 rfl) ?_
  refine ww_aload_n (pc := 6) g.1 d_Mo_formed_6 rfl (lv_at hl 0 rfl) ?_
  refine ww_gR (pc := 7) g (k := 8) cl_Mo (pz rfl (by decide)) (by decide) (Or.inl kw_42) (f := 8) (t := 44) rfl rfl rfl d_Mo_formed_7 ?_
  refine ww_iload_n (pc := 10) g.1 d_Mo_formed_10 rfl (lv_at hl 1 rfl) ?_
  refine ww_ai (pc := 11) g (pz rfl (by decide)) rfl rfl d_Mo_formed_11 h fun v11 h => ?_
  refine ww_pI (pc := 12) g (k := 30) cl_Mo (pz rfl (by decide)) (by decide) (Or.inl kw_64) rfl (f := 30) rfl rfl rfl rfl d_Mo_formed_12 h fun s hs h => ?_
  refine ww_aload_n (pc := 15) g.1 d_Mo_formed_15 rfl (lv_at hl 0 rfl) ?_
  refine ww_gR (pc := 16) g (k := 19) cl_Mo (pz rfl (by decide)) (by decide) (Or.inl kw_59) (f := 19) (t := 55) rfl rfl rfl d_Mo_formed_16 ?_
  refine ww_aload_n (pc := 19) g.1 d_Mo_formed_19 rfl (lv_at hl 0 rfl) ?_
  refine ww_gR (pc := 20) g (k := 13) cl_Mo (pz rfl (by decide)) (by decide) (Or.inl kw_60) (f := 13) (t := 49) rfl rfl rfl d_Mo_formed_20 ?_
  refine ww_iload_n (pc := 23) g.1 d_Mo_formed_23 rfl (lv_at hl 1 rfl) ?_
  refine ww_ai (pc := 24) g (pz rfl (by decide)) rfl rfl d_Mo_formed_24 h fun v24 h => ?_
  refine ww_iload_n (pc := 25) g.1 d_Mo_formed_25 rfl (lv_at hl 2 rfl) ?_
  refine ww_iadd (pc := 26) g.1 d_Mo_formed_26 ?_
  refine ww_ai (pc := 27) g (pz rfl (by decide)) rfl rfl d_Mo_formed_27 h fun v27 h => ?_
  refine ww_istore_n (pc := 28) g.1 (lv' := [(3, .int v27), (0, .ref (q.1 0 0)), (1, .int l1), (2, .int l2)]) d_Mo_formed_28 rfl hl (by decide) rfl fun ls hl => ?_
  refine ww_iload_n (pc := 29) g.1 d_Mo_formed_29 rfl (lv_at hl 0 rfl) ?_
  obtain ⟨v30, s, hc30, h⟩ := oB_of h
  refine ww_callS (pc := 30) (rest := []) g cs_Mo_op (Or.inl kw_54) (ct_Mo_op hc30) ⟨by decide, by decide⟩ rfl hl.1 (Nat.le_of_ble_eq_true rfl) d_Mo_formed_30 rfl ?_
  refine ww_st (st' := [.int v30]) rfl ?_
  refine ww_istore (pc := 33) g.1 (lv' := [(4, .int v30), (3, .int v27), (0, .ref (q.1 0 0)), (1, .int l1), (2, .int l2)]) d_Mo_formed_33 hl (by decide) rfl fun ls hl => ?_
  refine ww_iload_n (pc := 35) g.1 d_Mo_formed_35 rfl (lv_at hl 4 rfl) ?_
  refine ww_iconst (pc := 36) g.1 (v := 1) d_Mo_formed_36 (by decide) ?_
  refine ww_iadd (pc := 37) g.1 d_Mo_formed_37 ?_
  refine ww_aload_n (pc := 38) g.1 d_Mo_formed_38 rfl (lv_at hl 2 rfl) ?_
  refine ww_gR (pc := 39) g (k := 14) cl_Mo (pz rfl (by decide)) (by decide) (Or.inl kw_57) (f := 14) (t := 50) rfl rfl rfl d_Mo_formed_39 ?_
  refine ww_iload_n (pc := 42) g.1 d_Mo_formed_42 rfl (lv_at hl 3 rfl) ?_
  refine ww_ai (pc := 43) g (pz rfl (by decide)) rfl rfl d_Mo_formed_43 h fun v43 h => ?_
  refine ww_icmp_ge (pc := 44) (tgt := 51) g.1 d_Mo_formed_44 (by decide) h (fun c h => ?_) (fun c h => ?_)
  · refine ww_iconst (pc := 51) g.1 (v := 0) d_Mo_formed_51 (by decide) ?_
    exact j_Mo_formed_j52 g hR l1 l2 v27 v30 0 s ls (lv_sub hl [2, 3, 4, 1, 0] rfl) h
  · refine ww_iconst (pc := 47) g.1 (v := 1) d_Mo_formed_47 (by decide) ?_
    refine ww_goto (pc := 48) (tgt := 52) g.1 d_Mo_formed_48 (by decide) ?_
    exact j_Mo_formed_j52 g hR l1 l2 v27 v30 1 s ls (lv_sub hl [2, 3, 4, 1, 0] rfl) h

